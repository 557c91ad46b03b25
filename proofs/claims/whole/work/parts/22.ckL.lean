set_option maxRecDepth 100000 in
def ck_157_576 : chkR 157 576 24 = true := by decide +kernel
set_option maxRecDepth 100000 in
def ck_157_600 : chkR 157 600 24 = true := by decide +kernel
set_option maxRecDepth 100000 in
def ck_157_624 : chkR 157 624 24 = true := by decide +kernel
set_option maxRecDepth 100000 in
def ck_157_648 : chkR 157 648 24 = true := by decide +kernel
set_option maxRecDepth 100000 in
def ck_157_672 : chkR 157 672 24 = true := by decide +kernel
set_option maxRecDepth 100000 in
def ck_157_696 : chkR 157 696 24 = true := by decide +kernel
set_option maxRecDepth 100000 in
def ck_157_720 : chkR 157 720 24 = true := by decide +kernel
set_option maxRecDepth 100000 in
def ck_157_744 : chkR 157 744 24 = true := by decide +kernel
set_option maxRecDepth 100000 in
def ck_157_768 : chkR 157 768 24 = true := by decide +kernel
set_option maxRecDepth 100000 in
def ck_157_792 : chkR 157 792 24 = true := by decide +kernel
set_option maxRecDepth 100000 in
def ck_157_816 : chkR 157 816 24 = true := by decide +kernel
set_option maxRecDepth 100000 in
def ck_157_840 : chkR 157 840 24 = true := by decide +kernel
