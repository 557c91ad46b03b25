set_option maxRecDepth 100000 in
def ck_157_288 : chkR 157 288 24 = true := by decide +kernel
set_option maxRecDepth 100000 in
def ck_157_312 : chkR 157 312 24 = true := by decide +kernel
set_option maxRecDepth 100000 in
def ck_157_336 : chkR 157 336 24 = true := by decide +kernel
set_option maxRecDepth 100000 in
def ck_157_360 : chkR 157 360 24 = true := by decide +kernel
set_option maxRecDepth 100000 in
def ck_157_384 : chkR 157 384 24 = true := by decide +kernel
set_option maxRecDepth 100000 in
def ck_157_408 : chkR 157 408 24 = true := by decide +kernel
set_option maxRecDepth 100000 in
def ck_157_432 : chkR 157 432 24 = true := by decide +kernel
set_option maxRecDepth 100000 in
def ck_157_456 : chkR 157 456 24 = true := by decide +kernel
set_option maxRecDepth 100000 in
def ck_157_480 : chkR 157 480 24 = true := by decide +kernel
set_option maxRecDepth 100000 in
def ck_157_504 : chkR 157 504 24 = true := by decide +kernel
set_option maxRecDepth 100000 in
def ck_157_528 : chkR 157 528 24 = true := by decide +kernel
set_option maxRecDepth 100000 in
def ck_157_552 : chkR 157 552 24 = true := by decide +kernel
