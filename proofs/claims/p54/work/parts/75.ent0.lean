/-! THE LAW: its entry -/
def mm_law : zz_M := (x, code, 11, ret, [], 24)
