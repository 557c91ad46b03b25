set_option maxRecDepth 100000 in
def ck_157_864 : chkR 157 864 24 = true := by decide +kernel
set_option maxRecDepth 100000 in
def ck_157_888 : chkR 157 888 24 = true := by decide +kernel
set_option maxRecDepth 100000 in
def ck_157_912 : chkR 157 912 24 = true := by decide +kernel
set_option maxRecDepth 100000 in
def ck_157_936 : chkR 157 936 24 = true := by decide +kernel
set_option maxRecDepth 100000 in
def ck_157_960 : chkR 157 960 24 = true := by decide +kernel
set_option maxRecDepth 100000 in
def ck_157_984 : chkR 157 984 24 = true := by decide +kernel
set_option maxRecDepth 100000 in
def ck_157_1008 : chkR 157 1008 24 = true := by decide +kernel
set_option maxRecDepth 100000 in
def ck_157_1032 : chkR 157 1032 24 = true := by decide +kernel
set_option maxRecDepth 100000 in
def ck_157_1056 : chkR 157 1056 24 = true := by decide +kernel
set_option maxRecDepth 100000 in
def ck_157_1080 : chkR 157 1080 24 = true := by decide +kernel
set_option maxRecDepth 100000 in
def ck_157_1104 : chkR 157 1104 16 = true := by decide +kernel
