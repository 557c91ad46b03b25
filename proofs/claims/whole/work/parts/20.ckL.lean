set_option maxRecDepth 100000 in
def ck_157_0 : chkR 157 0 24 = true := by decide +kernel
set_option maxRecDepth 100000 in
def ck_157_24 : chkR 157 24 24 = true := by decide +kernel
set_option maxRecDepth 100000 in
def ck_157_48 : chkR 157 48 24 = true := by decide +kernel
set_option maxRecDepth 100000 in
def ck_157_72 : chkR 157 72 24 = true := by decide +kernel
set_option maxRecDepth 100000 in
def ck_157_96 : chkR 157 96 24 = true := by decide +kernel
set_option maxRecDepth 100000 in
def ck_157_120 : chkR 157 120 24 = true := by decide +kernel
set_option maxRecDepth 100000 in
def ck_157_144 : chkR 157 144 24 = true := by decide +kernel
set_option maxRecDepth 100000 in
def ck_157_168 : chkR 157 168 24 = true := by decide +kernel
set_option maxRecDepth 100000 in
def ck_157_192 : chkR 157 192 24 = true := by decide +kernel
set_option maxRecDepth 100000 in
def ck_157_216 : chkR 157 216 24 = true := by decide +kernel
set_option maxRecDepth 100000 in
def ck_157_240 : chkR 157 240 24 = true := by decide +kernel
set_option maxRecDepth 100000 in
def ck_157_264 : chkR 157 264 24 = true := by decide +kernel
