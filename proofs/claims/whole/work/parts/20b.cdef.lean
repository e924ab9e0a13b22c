def c_abs (x : Int32) : Int32 := if 0 ≤ x then x else 0 - x
def c_ev (kd h v a : Int32) : Int32 := kd <<< ((16 : Int32) &&& 31) ||| v <<< ((12 : Int32) &&& 31) ||| h <<< ((4 : Int32) &&& 31) ||| a
section GE3
variable {p : Program} {l : Launch} {e : Env} {R : Room} {s : State} {m : MethodId} {args : Array Value} {below : List Frame} {meth : Method} {c : Code} {cc : ByteArray} {pc nL : Nat} {ls : Array Slot} {own : String}
theorem eRv (S : CallFix p m c cc nL s args gW own) (hr : meth.sig.returnType = none) (hlk : meth.locks = false) (hdg : decode cc pc = .ok (.return_, 1)) : W p l e R s m args below meth c s.heap [] 0 0 (MQ below (QcR none) args s 0 0 (fun _ => False)) (F0 m pc ls []) :=
  W.vret S.1 S.2.1 hr (fun t ht _ => ⟨rfl, ht⟩) (fun q h => by cases h) hdg hlk
theorem eRa (S : CallFix p m c cc nL s args gW own) {n : String} (hr : meth.sig.returnType = some (.object n)) (hlk : meth.locks = false) (hdg : decode cc pc = .ok (.areturn, 1)) {a : Nat} : W p l e R s m args below meth c s.heap [] 0 0 (MQ below (QcR (some (.ref a))) args s 0 0 (fun _ => False)) (F0 m pc ls [.ref a]) :=
  W.aret S.1 S.2.1 hr (Or.inl ⟨n, rfl⟩) (Or.inr ⟨a, rfl⟩) (fun t ht _ => ⟨rfl, ht⟩) (fun q h => by cases h) hdg hlk
end GE3
theorem i32_lt3 {x : Int32} (h : ¬ 2 < x) : x < 3 := by
  rw [Int32.lt_iff_toInt_lt] at *
  have e2 : (2 : Int32).toInt = 2 := by decide
  have e3 : (3 : Int32).toInt = 3 := by decide
  omega
theorem i32_lt65536 {x : Int32} (h : ¬ 65535 < x) : x < 65536 := by
  rw [Int32.lt_iff_toInt_lt] at *
  have e2 : (65535 : Int32).toInt = 65535 := by decide
  have e3 : (65536 : Int32).toInt = 65536 := by decide
  omega
