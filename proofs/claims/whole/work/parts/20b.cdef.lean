def c_abs (x : Int32) : Int32 := if 0 ≤ x then x else 0 - x
def c_ev (kd h v a : Int32) : Int32 := kd <<< ((16 : Int32) &&& 31) ||| v <<< ((12 : Int32) &&& 31) ||| h <<< ((4 : Int32) &&& 31) ||| a
