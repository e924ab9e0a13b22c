/-! the class's world: 22 fixed cells, the houses, the interviewers, their rounds -/
def chs (ad : Nat → Nat) (nh : Nat) : Nat → Option Nat := fun j => if j < nh then some (ad (30 + j)) else none
def cis (ad : Nat → Nat) (ni : Nat) : Nat → Option Nat := fun j => if j < ni then some (ad (60 + j)) else none
theorem chs_at {ad : Nat → Nat} {nh j : Nat} (h : j < nh) : chs ad nh j = some (ad (30 + j)) := if_pos h
theorem cis_at {ad : Nat → Nat} {ni j : Nat} (h : j < ni) : cis ad ni j = some (ad (60 + j)) := if_pos h
def cho (c : St) (i : Nat) : List Value := [.int (c 20 i), .int (c 21 i), .int (c 22 i), .int (c 23 i), .int (c 24 i), .int (c 25 i), .int (c 26 i), .int (c 27 i), .int (c 28 i), .int (c 29 i), .int (c 30 i)]
def cin (ad : Nat → Nat) (c : St) (i : Nat) : List Value := [.int (c 31 i), .int (c 32 i), .int (c 33 i), .ref (ad (70 + i)), .int (c 34 i), .int (c 35 i), .int (c 36 i)]
def chouse (ad : Nat → Nat) (c : St) (i : Nat) : Nat × va_E := (ad (30 + i), .inr (2, cho c i))
def cint (ad : Nat → Nat) (c : St) (i : Nat) : Nat × va_E := (ad (60 + i), .inr (3, cin ad c i))
def cround (cA : Nat → ClassId) (ad : Nat → Nat) (c : St) (i : Nat) : Nat × va_E := (ad (70 + i), .inl (cA 0, 24, .inl (fun j => c 40 (4 * j + i))))
def cfb (ad : Nat → Nat) (c : St) : List Value := [.ref (ad 1), .ref (ad 6), .ref (ad 7), .ref (ad 8), .ref (ad 14), .ref (ad 20), .int (c 0 0), .int (c 0 1), .int (c 0 2)]
def cfr (ad : Nat → Nat) (c : St) : List Value := [.ref (ad 2), .ref (ad 3), .ref (ad 4), .ref (ad 5), .int (c 0 3), .int (c 0 4)]
def ct0 (ad : Nat → Nat) (c : St) : List Value := [.ref (ad 9), .ref (ad 10), .ref (ad 11), .ref (ad 12), .ref (ad 13)]
def ct1 (ad : Nat → Nat) (c : St) : List Value := [.ref (ad 15), .ref (ad 16), .ref (ad 17), .ref (ad 18), .ref (ad 19)]
def chi (ad : Nat → Nat) (c : St) : List Value := [.ref (ad 21), .int (c 0 5)]
def cfix (cA : Nat → ClassId) (ad : Nat → Nat) (nh ni : Nat) (c : St) : va_W := [(ad 0, .inr (5, cfb ad c)), (ad 1, .inr (0, cfr ad c)), (ad 2, .inl (cA 0, 24, .inl (c 1))), (ad 3, .inl (cA 0, 24, .inl (c 2))), (ad 4, .inl (cA 0, 4, .inl (c 3))), (ad 5, .inl (cA 0, 3, .inl (c 4))), (ad 6, .inl (cA 2, 24, .inr (.inr (.inr (.inr (chs ad nh)))))), (ad 7, .inl (cA 3, 4, .inr (.inr (.inr (.inr (cis ad ni)))))), (ad 8, .inr (4, ct0 ad c)), (ad 9, .inl (cA 1, 24, .inl (c 5))), (ad 10, .inl (cA 0, 24, .inl (c 6))), (ad 11, .inl (cA 0, 24, .inl (c 7))), (ad 12, .inl (cA 0, 24, .inl (c 8))), (ad 13, .inl (cA 0, 4, .inl (c 9))), (ad 14, .inr (4, ct1 ad c)), (ad 15, .inl (cA 1, 24, .inl (c 10))), (ad 16, .inl (cA 0, 24, .inl (c 11))), (ad 17, .inl (cA 0, 24, .inl (c 12))), (ad 18, .inl (cA 0, 24, .inl (c 13))), (ad 19, .inl (cA 0, 4, .inl (c 14))), (ad 20, .inr (1, chi ad c)), (ad 21, .inl (cA 0, 512, .inl (c 15)))]
def cw (cA : Nat → ClassId) (ad : Nat → Nat) (nh ni : Nat) (c : St) : va_W := cfix cA ad nh ni c ++ ((List.range nh).map (chouse ad c) ++ ((List.range ni).map (cint ad c) ++ (List.range ni).map (cround cA ad c)))
section CW
variable {cA : Nat → ClassId} {ad : Nat → Nat} {nh ni : Nat} {c : St}
theorem cl_0 : (cw cA ad nh ni c)[0]? = some (ad 0, .inr (5, cfb ad c)) := rfl
theorem cl_1 : (cw cA ad nh ni c)[1]? = some (ad 1, .inr (0, cfr ad c)) := rfl
theorem cl_2 : (cw cA ad nh ni c)[2]? = some (ad 2, .inl (cA 0, 24, .inl (c 1))) := rfl
theorem cl_3 : (cw cA ad nh ni c)[3]? = some (ad 3, .inl (cA 0, 24, .inl (c 2))) := rfl
theorem cl_4 : (cw cA ad nh ni c)[4]? = some (ad 4, .inl (cA 0, 4, .inl (c 3))) := rfl
theorem cl_5 : (cw cA ad nh ni c)[5]? = some (ad 5, .inl (cA 0, 3, .inl (c 4))) := rfl
theorem cl_6 : (cw cA ad nh ni c)[6]? = some (ad 6, .inl (cA 2, 24, .inr (.inr (.inr (.inr (chs ad nh)))))) := rfl
theorem cl_7 : (cw cA ad nh ni c)[7]? = some (ad 7, .inl (cA 3, 4, .inr (.inr (.inr (.inr (cis ad ni)))))) := rfl
theorem cl_8 : (cw cA ad nh ni c)[8]? = some (ad 8, .inr (4, ct0 ad c)) := rfl
theorem cl_9 : (cw cA ad nh ni c)[9]? = some (ad 9, .inl (cA 1, 24, .inl (c 5))) := rfl
theorem cl_10 : (cw cA ad nh ni c)[10]? = some (ad 10, .inl (cA 0, 24, .inl (c 6))) := rfl
theorem cl_11 : (cw cA ad nh ni c)[11]? = some (ad 11, .inl (cA 0, 24, .inl (c 7))) := rfl
theorem cl_12 : (cw cA ad nh ni c)[12]? = some (ad 12, .inl (cA 0, 24, .inl (c 8))) := rfl
theorem cl_13 : (cw cA ad nh ni c)[13]? = some (ad 13, .inl (cA 0, 4, .inl (c 9))) := rfl
theorem cl_14 : (cw cA ad nh ni c)[14]? = some (ad 14, .inr (4, ct1 ad c)) := rfl
theorem cl_15 : (cw cA ad nh ni c)[15]? = some (ad 15, .inl (cA 1, 24, .inl (c 10))) := rfl
theorem cl_16 : (cw cA ad nh ni c)[16]? = some (ad 16, .inl (cA 0, 24, .inl (c 11))) := rfl
theorem cl_17 : (cw cA ad nh ni c)[17]? = some (ad 17, .inl (cA 0, 24, .inl (c 12))) := rfl
theorem cl_18 : (cw cA ad nh ni c)[18]? = some (ad 18, .inl (cA 0, 24, .inl (c 13))) := rfl
theorem cl_19 : (cw cA ad nh ni c)[19]? = some (ad 19, .inl (cA 0, 4, .inl (c 14))) := rfl
theorem cl_20 : (cw cA ad nh ni c)[20]? = some (ad 20, .inr (1, chi ad c)) := rfl
theorem cl_21 : (cw cA ad nh ni c)[21]? = some (ad 21, .inl (cA 0, 512, .inl (c 15))) := rfl
theorem cfb_0 : (cfb ad c)[0]? = some (.ref (ad 1)) := rfl
theorem cfb_1 : (cfb ad c)[1]? = some (.ref (ad 6)) := rfl
theorem cfb_2 : (cfb ad c)[2]? = some (.ref (ad 7)) := rfl
theorem cfb_3 : (cfb ad c)[3]? = some (.ref (ad 8)) := rfl
theorem cfb_4 : (cfb ad c)[4]? = some (.ref (ad 14)) := rfl
theorem cfb_5 : (cfb ad c)[5]? = some (.ref (ad 20)) := rfl
theorem cfb_6 {x : Int32} (h : c 0 0 = x) : (cfb ad c)[6]? = some (.int x) := h ▸ rfl
theorem cfb_7 {x : Int32} (h : c 0 1 = x) : (cfb ad c)[7]? = some (.int x) := h ▸ rfl
theorem cfb_8 {x : Int32} (h : c 0 2 = x) : (cfb ad c)[8]? = some (.int x) := h ▸ rfl
theorem cfr_0 : (cfr ad c)[0]? = some (.ref (ad 2)) := rfl
theorem cfr_1 : (cfr ad c)[1]? = some (.ref (ad 3)) := rfl
theorem cfr_2 : (cfr ad c)[2]? = some (.ref (ad 4)) := rfl
theorem cfr_3 : (cfr ad c)[3]? = some (.ref (ad 5)) := rfl
theorem cfr_4 {x : Int32} (h : c 0 3 = x) : (cfr ad c)[4]? = some (.int x) := h ▸ rfl
theorem cfr_5 {x : Int32} (h : c 0 4 = x) : (cfr ad c)[5]? = some (.int x) := h ▸ rfl
theorem ct0_0 : (ct0 ad c)[0]? = some (.ref (ad 9)) := rfl
theorem ct0_1 : (ct0 ad c)[1]? = some (.ref (ad 10)) := rfl
theorem ct0_2 : (ct0 ad c)[2]? = some (.ref (ad 11)) := rfl
theorem ct0_3 : (ct0 ad c)[3]? = some (.ref (ad 12)) := rfl
theorem ct0_4 : (ct0 ad c)[4]? = some (.ref (ad 13)) := rfl
theorem ct1_0 : (ct1 ad c)[0]? = some (.ref (ad 15)) := rfl
theorem ct1_1 : (ct1 ad c)[1]? = some (.ref (ad 16)) := rfl
theorem ct1_2 : (ct1 ad c)[2]? = some (.ref (ad 17)) := rfl
theorem ct1_3 : (ct1 ad c)[3]? = some (.ref (ad 18)) := rfl
theorem ct1_4 : (ct1 ad c)[4]? = some (.ref (ad 19)) := rfl
theorem chi_0 : (chi ad c)[0]? = some (.ref (ad 21)) := rfl
theorem chi_1 {x : Int32} (h : c 0 5 = x) : (chi ad c)[1]? = some (.int x) := h ▸ rfl
theorem rng_get {α : Type} (f : Nat → α) {n i : Nat} (h : i < n) : ((List.range n).map f)[i]? = some (f i) := by simp [h]
theorem rng_set {α : Type} {f g : Nat → α} {n i : Nat} {x : α} (hx : g i = x) (hg : ∀ j, j ≠ i → g j = f j) : ((List.range n).map f).set i x = (List.range n).map g := by
  apply List.ext_getElem?
  intro j
  by_cases h : j < n
  · by_cases e : j = i
    · subst e
      rw [List.getElem?_set_self (by simpa using h), rng_get g h, hx]
    · rw [List.getElem?_set_ne (Ne.symm e), rng_get f h, rng_get g h, hg j e]
  · rw [List.getElem?_eq_none (by simp; omega), List.getElem?_eq_none (by simp; omega)]
theorem app_get {α : Type} {A B : List α} {k i : Nat} (h : A.length = k) : (A ++ B)[k + i]? = B[i]? := by
  rw [List.getElem?_append_right (by omega)]
  congr 1
  omega
theorem app_getl {α : Type} {A B : List α} {i : Nat} (h : i < A.length) : (A ++ B)[i]? = A[i]? := List.getElem?_append_left h
theorem app_set {α : Type} {A B : List α} {k i : Nat} {x : α} (h : A.length = k) : (A ++ B).set (k + i) x = A ++ B.set i x := by
  rw [List.set_append_right _ _ (by omega)]
  congr 2
  omega
theorem app_setl {α : Type} {A B : List α} {i : Nat} {x : α} (h : i < A.length) : (A ++ B).set i x = A.set i x ++ B := List.set_append_left _ _ h
theorem cfix_len : (cfix cA ad nh ni c).length = 22 := rfl
theorem cfix_up {q i : Nat} {v : Int32} (h : 16 ≤ q) : cfix cA ad nh ni (up c q i v) = cfix cA ad nh ni c := by
  have e : ∀ z, z < 16 → up c q i v z = c z := fun z hz => up_row (by omega)
  simp [cfix, cfb, cfr, chi, ct0, ct1, e]
theorem chouse_up {q i : Nat} {v : Int32} (h : q < 20 ∨ 31 ≤ q) : chouse ad (up c q i v) = chouse ad c := by
  have e : ∀ z, 20 ≤ z → z < 31 → up c q i v z = c z := fun z h1 h2 => up_row (by omega)
  funext z
  simp [chouse, cho, e]
theorem cint_up {q i : Nat} {v : Int32} (h : q < 31 ∨ 37 ≤ q) : cint ad (up c q i v) = cint ad c := by
  have e : ∀ z, 31 ≤ z → z < 37 → up c q i v z = c z := fun z h1 h2 => up_row (by omega)
  funext z
  simp [cint, cin, e]
theorem cround_up {q i : Nat} {v : Int32} (h : q < 40) : cround cA ad (up c q i v) = cround cA ad c := by
  have e : ∀ z, 40 ≤ z → up c q i v z = c z := fun z h1 => up_row (by omega)
  funext z
  simp [cround, e]
theorem cw_fixset {q i k : Nat} {v : Int32} {x : Nat × va_E} (hq : q < 20) (hk : k < 22) (h : (cfix cA ad nh ni c).set k x = cfix cA ad nh ni (up c q i v)) : (cw cA ad nh ni c).set k x = cw cA ad nh ni (up c q i v) := by
  unfold cw
  rw [app_setl (by rw [cfix_len]; exact hk), h, chouse_up (Or.inl hq), cint_up (Or.inl (by omega)), cround_up (by omega)]
theorem cl_h {i : Nat} (h : i < nh) : (cw cA ad nh ni c)[22 + i]? = some (ad (30 + i), .inr (2, cho c i)) := by
  unfold cw
  rw [app_get cfix_len, app_getl (by simpa using h), rng_get _ h]
  rfl
theorem cl_i {i : Nat} (h : i < ni) : (cw cA ad nh ni c)[22 + (nh + i)]? = some (ad (60 + i), .inr (3, cin ad c i)) := by
  unfold cw
  rw [app_get cfix_len, app_get (by simp), app_getl (by simpa using h), rng_get _ h]
  rfl
theorem cl_r {i : Nat} (h : i < ni) : (cw cA ad nh ni c)[22 + (nh + (ni + i))]? = some (ad (70 + i), .inl (cA 0, 24, .inl (fun j => c 40 (4 * j + i)))) := by
  unfold cw
  rw [app_get cfix_len, app_get (by simp), app_get (by simp), rng_get _ h]
  rfl
theorem ch_0 {i : Nat} {x : Int32} (h : c 20 i = x) : (cho c i)[0]? = some (.int x) := h ▸ rfl
theorem cs_h_0 {i : Nat} {v : Int32} (h : i < nh) : (cw cA ad nh ni c).set (22 + i) (ad (30 + i), .inr (2, (cho c i).set 0 (.int v))) = cw cA ad nh ni (up c 20 i v) := by
  unfold cw
  rw [app_set cfix_len, app_setl (by simpa using h), rng_set (g := chouse ad (up c 20 i v)) (by simp [chouse, cho, up_app]) (fun j hj => by simp [chouse, cho, up_app, hj]), cfix_up (by decide), cint_up (Or.inl (by decide)), cround_up (by decide)]
theorem ch_1 {i : Nat} {x : Int32} (h : c 21 i = x) : (cho c i)[1]? = some (.int x) := h ▸ rfl
theorem cs_h_1 {i : Nat} {v : Int32} (h : i < nh) : (cw cA ad nh ni c).set (22 + i) (ad (30 + i), .inr (2, (cho c i).set 1 (.int v))) = cw cA ad nh ni (up c 21 i v) := by
  unfold cw
  rw [app_set cfix_len, app_setl (by simpa using h), rng_set (g := chouse ad (up c 21 i v)) (by simp [chouse, cho, up_app]) (fun j hj => by simp [chouse, cho, up_app, hj]), cfix_up (by decide), cint_up (Or.inl (by decide)), cround_up (by decide)]
theorem ch_2 {i : Nat} {x : Int32} (h : c 22 i = x) : (cho c i)[2]? = some (.int x) := h ▸ rfl
theorem cs_h_2 {i : Nat} {v : Int32} (h : i < nh) : (cw cA ad nh ni c).set (22 + i) (ad (30 + i), .inr (2, (cho c i).set 2 (.int v))) = cw cA ad nh ni (up c 22 i v) := by
  unfold cw
  rw [app_set cfix_len, app_setl (by simpa using h), rng_set (g := chouse ad (up c 22 i v)) (by simp [chouse, cho, up_app]) (fun j hj => by simp [chouse, cho, up_app, hj]), cfix_up (by decide), cint_up (Or.inl (by decide)), cround_up (by decide)]
theorem ch_3 {i : Nat} {x : Int32} (h : c 23 i = x) : (cho c i)[3]? = some (.int x) := h ▸ rfl
theorem cs_h_3 {i : Nat} {v : Int32} (h : i < nh) : (cw cA ad nh ni c).set (22 + i) (ad (30 + i), .inr (2, (cho c i).set 3 (.int v))) = cw cA ad nh ni (up c 23 i v) := by
  unfold cw
  rw [app_set cfix_len, app_setl (by simpa using h), rng_set (g := chouse ad (up c 23 i v)) (by simp [chouse, cho, up_app]) (fun j hj => by simp [chouse, cho, up_app, hj]), cfix_up (by decide), cint_up (Or.inl (by decide)), cround_up (by decide)]
theorem ch_4 {i : Nat} {x : Int32} (h : c 24 i = x) : (cho c i)[4]? = some (.int x) := h ▸ rfl
theorem cs_h_4 {i : Nat} {v : Int32} (h : i < nh) : (cw cA ad nh ni c).set (22 + i) (ad (30 + i), .inr (2, (cho c i).set 4 (.int v))) = cw cA ad nh ni (up c 24 i v) := by
  unfold cw
  rw [app_set cfix_len, app_setl (by simpa using h), rng_set (g := chouse ad (up c 24 i v)) (by simp [chouse, cho, up_app]) (fun j hj => by simp [chouse, cho, up_app, hj]), cfix_up (by decide), cint_up (Or.inl (by decide)), cround_up (by decide)]
theorem ch_5 {i : Nat} {x : Int32} (h : c 25 i = x) : (cho c i)[5]? = some (.int x) := h ▸ rfl
theorem cs_h_5 {i : Nat} {v : Int32} (h : i < nh) : (cw cA ad nh ni c).set (22 + i) (ad (30 + i), .inr (2, (cho c i).set 5 (.int v))) = cw cA ad nh ni (up c 25 i v) := by
  unfold cw
  rw [app_set cfix_len, app_setl (by simpa using h), rng_set (g := chouse ad (up c 25 i v)) (by simp [chouse, cho, up_app]) (fun j hj => by simp [chouse, cho, up_app, hj]), cfix_up (by decide), cint_up (Or.inl (by decide)), cround_up (by decide)]
theorem ch_6 {i : Nat} {x : Int32} (h : c 26 i = x) : (cho c i)[6]? = some (.int x) := h ▸ rfl
theorem cs_h_6 {i : Nat} {v : Int32} (h : i < nh) : (cw cA ad nh ni c).set (22 + i) (ad (30 + i), .inr (2, (cho c i).set 6 (.int v))) = cw cA ad nh ni (up c 26 i v) := by
  unfold cw
  rw [app_set cfix_len, app_setl (by simpa using h), rng_set (g := chouse ad (up c 26 i v)) (by simp [chouse, cho, up_app]) (fun j hj => by simp [chouse, cho, up_app, hj]), cfix_up (by decide), cint_up (Or.inl (by decide)), cround_up (by decide)]
theorem ch_7 {i : Nat} {x : Int32} (h : c 27 i = x) : (cho c i)[7]? = some (.int x) := h ▸ rfl
theorem cs_h_7 {i : Nat} {v : Int32} (h : i < nh) : (cw cA ad nh ni c).set (22 + i) (ad (30 + i), .inr (2, (cho c i).set 7 (.int v))) = cw cA ad nh ni (up c 27 i v) := by
  unfold cw
  rw [app_set cfix_len, app_setl (by simpa using h), rng_set (g := chouse ad (up c 27 i v)) (by simp [chouse, cho, up_app]) (fun j hj => by simp [chouse, cho, up_app, hj]), cfix_up (by decide), cint_up (Or.inl (by decide)), cround_up (by decide)]
theorem ch_8 {i : Nat} {x : Int32} (h : c 28 i = x) : (cho c i)[8]? = some (.int x) := h ▸ rfl
theorem cs_h_8 {i : Nat} {v : Int32} (h : i < nh) : (cw cA ad nh ni c).set (22 + i) (ad (30 + i), .inr (2, (cho c i).set 8 (.int v))) = cw cA ad nh ni (up c 28 i v) := by
  unfold cw
  rw [app_set cfix_len, app_setl (by simpa using h), rng_set (g := chouse ad (up c 28 i v)) (by simp [chouse, cho, up_app]) (fun j hj => by simp [chouse, cho, up_app, hj]), cfix_up (by decide), cint_up (Or.inl (by decide)), cround_up (by decide)]
theorem ch_9 {i : Nat} {x : Int32} (h : c 29 i = x) : (cho c i)[9]? = some (.int x) := h ▸ rfl
theorem cs_h_9 {i : Nat} {v : Int32} (h : i < nh) : (cw cA ad nh ni c).set (22 + i) (ad (30 + i), .inr (2, (cho c i).set 9 (.int v))) = cw cA ad nh ni (up c 29 i v) := by
  unfold cw
  rw [app_set cfix_len, app_setl (by simpa using h), rng_set (g := chouse ad (up c 29 i v)) (by simp [chouse, cho, up_app]) (fun j hj => by simp [chouse, cho, up_app, hj]), cfix_up (by decide), cint_up (Or.inl (by decide)), cround_up (by decide)]
theorem ch_10 {i : Nat} {x : Int32} (h : c 30 i = x) : (cho c i)[10]? = some (.int x) := h ▸ rfl
theorem cs_h_10 {i : Nat} {v : Int32} (h : i < nh) : (cw cA ad nh ni c).set (22 + i) (ad (30 + i), .inr (2, (cho c i).set 10 (.int v))) = cw cA ad nh ni (up c 30 i v) := by
  unfold cw
  rw [app_set cfix_len, app_setl (by simpa using h), rng_set (g := chouse ad (up c 30 i v)) (by simp [chouse, cho, up_app]) (fun j hj => by simp [chouse, cho, up_app, hj]), cfix_up (by decide), cint_up (Or.inl (by decide)), cround_up (by decide)]
theorem cn_0 {i : Nat} {x : Int32} (h : c 31 i = x) : (cin ad c i)[0]? = some (.int x) := h ▸ rfl
theorem cs_i_0 {i : Nat} {v : Int32} (h : i < ni) : (cw cA ad nh ni c).set (22 + (nh + i)) (ad (60 + i), .inr (3, (cin ad c i).set 0 (.int v))) = cw cA ad nh ni (up c 31 i v) := by
  unfold cw
  rw [app_set cfix_len, app_set (by simp), app_setl (by simpa using h), rng_set (g := cint ad (up c 31 i v)) (by simp [cint, cin, up_app]) (fun j hj => by simp [cint, cin, up_app, hj]), cfix_up (by decide), chouse_up (Or.inr (by decide)), cround_up (by decide)]
theorem cn_1 {i : Nat} {x : Int32} (h : c 32 i = x) : (cin ad c i)[1]? = some (.int x) := h ▸ rfl
theorem cs_i_1 {i : Nat} {v : Int32} (h : i < ni) : (cw cA ad nh ni c).set (22 + (nh + i)) (ad (60 + i), .inr (3, (cin ad c i).set 1 (.int v))) = cw cA ad nh ni (up c 32 i v) := by
  unfold cw
  rw [app_set cfix_len, app_set (by simp), app_setl (by simpa using h), rng_set (g := cint ad (up c 32 i v)) (by simp [cint, cin, up_app]) (fun j hj => by simp [cint, cin, up_app, hj]), cfix_up (by decide), chouse_up (Or.inr (by decide)), cround_up (by decide)]
theorem cn_2 {i : Nat} {x : Int32} (h : c 33 i = x) : (cin ad c i)[2]? = some (.int x) := h ▸ rfl
theorem cs_i_2 {i : Nat} {v : Int32} (h : i < ni) : (cw cA ad nh ni c).set (22 + (nh + i)) (ad (60 + i), .inr (3, (cin ad c i).set 2 (.int v))) = cw cA ad nh ni (up c 33 i v) := by
  unfold cw
  rw [app_set cfix_len, app_set (by simp), app_setl (by simpa using h), rng_set (g := cint ad (up c 33 i v)) (by simp [cint, cin, up_app]) (fun j hj => by simp [cint, cin, up_app, hj]), cfix_up (by decide), chouse_up (Or.inr (by decide)), cround_up (by decide)]
theorem cn_4 {i : Nat} {x : Int32} (h : c 34 i = x) : (cin ad c i)[4]? = some (.int x) := h ▸ rfl
theorem cs_i_4 {i : Nat} {v : Int32} (h : i < ni) : (cw cA ad nh ni c).set (22 + (nh + i)) (ad (60 + i), .inr (3, (cin ad c i).set 4 (.int v))) = cw cA ad nh ni (up c 34 i v) := by
  unfold cw
  rw [app_set cfix_len, app_set (by simp), app_setl (by simpa using h), rng_set (g := cint ad (up c 34 i v)) (by simp [cint, cin, up_app]) (fun j hj => by simp [cint, cin, up_app, hj]), cfix_up (by decide), chouse_up (Or.inr (by decide)), cround_up (by decide)]
theorem cn_5 {i : Nat} {x : Int32} (h : c 35 i = x) : (cin ad c i)[5]? = some (.int x) := h ▸ rfl
theorem cs_i_5 {i : Nat} {v : Int32} (h : i < ni) : (cw cA ad nh ni c).set (22 + (nh + i)) (ad (60 + i), .inr (3, (cin ad c i).set 5 (.int v))) = cw cA ad nh ni (up c 35 i v) := by
  unfold cw
  rw [app_set cfix_len, app_set (by simp), app_setl (by simpa using h), rng_set (g := cint ad (up c 35 i v)) (by simp [cint, cin, up_app]) (fun j hj => by simp [cint, cin, up_app, hj]), cfix_up (by decide), chouse_up (Or.inr (by decide)), cround_up (by decide)]
theorem cn_6 {i : Nat} {x : Int32} (h : c 36 i = x) : (cin ad c i)[6]? = some (.int x) := h ▸ rfl
theorem cs_i_6 {i : Nat} {v : Int32} (h : i < ni) : (cw cA ad nh ni c).set (22 + (nh + i)) (ad (60 + i), .inr (3, (cin ad c i).set 6 (.int v))) = cw cA ad nh ni (up c 36 i v) := by
  unfold cw
  rw [app_set cfix_len, app_set (by simp), app_setl (by simpa using h), rng_set (g := cint ad (up c 36 i v)) (by simp [cint, cin, up_app]) (fun j hj => by simp [cint, cin, up_app, hj]), cfix_up (by decide), chouse_up (Or.inr (by decide)), cround_up (by decide)]
theorem cn_3 {i : Nat} : (cin ad c i)[3]? = some (.ref (ad (70 + i))) := rfl
theorem cs_cfb_6 {v : Int32} : (cw cA ad nh ni c).set 0 (ad 0, .inr (5, (cfb ad c).set 6 (.int v))) = cw cA ad nh ni (up c 0 0 v) := cw_fixset (by decide) (by decide) rfl
theorem cs_cfb_7 {v : Int32} : (cw cA ad nh ni c).set 0 (ad 0, .inr (5, (cfb ad c).set 7 (.int v))) = cw cA ad nh ni (up c 0 1 v) := cw_fixset (by decide) (by decide) rfl
theorem cs_cfb_8 {v : Int32} : (cw cA ad nh ni c).set 0 (ad 0, .inr (5, (cfb ad c).set 8 (.int v))) = cw cA ad nh ni (up c 0 2 v) := cw_fixset (by decide) (by decide) rfl
theorem cs_cfr_4 {v : Int32} : (cw cA ad nh ni c).set 1 (ad 1, .inr (0, (cfr ad c).set 4 (.int v))) = cw cA ad nh ni (up c 0 3 v) := cw_fixset (by decide) (by decide) rfl
theorem cs_cfr_5 {v : Int32} : (cw cA ad nh ni c).set 1 (ad 1, .inr (0, (cfr ad c).set 5 (.int v))) = cw cA ad nh ni (up c 0 4 v) := cw_fixset (by decide) (by decide) rfl
theorem cs_chi_1 {v : Int32} : (cw cA ad nh ni c).set 20 (ad 20, .inr (1, (chi ad c).set 1 (.int v))) = cw cA ad nh ni (up c 0 5 v) := cw_fixset (by decide) (by decide) rfl
theorem cs_2 {j : Nat} {x : Int32} : (cw cA ad nh ni c).set 2 (ad 2, .inl (cA 0, 24, .inl (upd (c 1) j x))) = cw cA ad nh ni (up c 1 j x) := cw_fixset (by decide) (by decide) rfl
theorem cs_3 {j : Nat} {x : Int32} : (cw cA ad nh ni c).set 3 (ad 3, .inl (cA 0, 24, .inl (upd (c 2) j x))) = cw cA ad nh ni (up c 2 j x) := cw_fixset (by decide) (by decide) rfl
theorem cs_4 {j : Nat} {x : Int32} : (cw cA ad nh ni c).set 4 (ad 4, .inl (cA 0, 4, .inl (upd (c 3) j x))) = cw cA ad nh ni (up c 3 j x) := cw_fixset (by decide) (by decide) rfl
theorem cs_5 {j : Nat} {x : Int32} : (cw cA ad nh ni c).set 5 (ad 5, .inl (cA 0, 3, .inl (upd (c 4) j x))) = cw cA ad nh ni (up c 4 j x) := cw_fixset (by decide) (by decide) rfl
theorem cs_9 {j : Nat} {x : Int32} : (cw cA ad nh ni c).set 9 (ad 9, .inl (cA 1, 24, .inl (upd (c 5) j x))) = cw cA ad nh ni (up c 5 j x) := cw_fixset (by decide) (by decide) rfl
theorem cs_10 {j : Nat} {x : Int32} : (cw cA ad nh ni c).set 10 (ad 10, .inl (cA 0, 24, .inl (upd (c 6) j x))) = cw cA ad nh ni (up c 6 j x) := cw_fixset (by decide) (by decide) rfl
theorem cs_11 {j : Nat} {x : Int32} : (cw cA ad nh ni c).set 11 (ad 11, .inl (cA 0, 24, .inl (upd (c 7) j x))) = cw cA ad nh ni (up c 7 j x) := cw_fixset (by decide) (by decide) rfl
theorem cs_12 {j : Nat} {x : Int32} : (cw cA ad nh ni c).set 12 (ad 12, .inl (cA 0, 24, .inl (upd (c 8) j x))) = cw cA ad nh ni (up c 8 j x) := cw_fixset (by decide) (by decide) rfl
theorem cs_13 {j : Nat} {x : Int32} : (cw cA ad nh ni c).set 13 (ad 13, .inl (cA 0, 4, .inl (upd (c 9) j x))) = cw cA ad nh ni (up c 9 j x) := cw_fixset (by decide) (by decide) rfl
theorem cs_15 {j : Nat} {x : Int32} : (cw cA ad nh ni c).set 15 (ad 15, .inl (cA 1, 24, .inl (upd (c 10) j x))) = cw cA ad nh ni (up c 10 j x) := cw_fixset (by decide) (by decide) rfl
theorem cs_16 {j : Nat} {x : Int32} : (cw cA ad nh ni c).set 16 (ad 16, .inl (cA 0, 24, .inl (upd (c 11) j x))) = cw cA ad nh ni (up c 11 j x) := cw_fixset (by decide) (by decide) rfl
theorem cs_17 {j : Nat} {x : Int32} : (cw cA ad nh ni c).set 17 (ad 17, .inl (cA 0, 24, .inl (upd (c 12) j x))) = cw cA ad nh ni (up c 12 j x) := cw_fixset (by decide) (by decide) rfl
theorem cs_18 {j : Nat} {x : Int32} : (cw cA ad nh ni c).set 18 (ad 18, .inl (cA 0, 24, .inl (upd (c 13) j x))) = cw cA ad nh ni (up c 13 j x) := cw_fixset (by decide) (by decide) rfl
theorem cs_19 {j : Nat} {x : Int32} : (cw cA ad nh ni c).set 19 (ad 19, .inl (cA 0, 4, .inl (upd (c 14) j x))) = cw cA ad nh ni (up c 14 j x) := cw_fixset (by decide) (by decide) rfl
theorem cs_21 {j : Nat} {x : Int32} : (cw cA ad nh ni c).set 21 (ad 21, .inl (cA 0, 512, .inl (upd (c 15) j x))) = cw cA ad nh ni (up c 15 j x) := cw_fixset (by decide) (by decide) rfl
theorem cs_r {i : Nat} (h : i < ni) (h4 : ni ≤ 4) {j : Nat} {x : Int32} : (cw cA ad nh ni c).set (22 + (nh + (ni + i))) (ad (70 + i), .inl (cA 0, 24, .inl (upd (fun j => c 40 (4 * j + i)) j x))) = cw cA ad nh ni (up c 40 (4 * j + i) x) := by
  have key : ((List.range ni).map (cround cA ad c)).set i (ad (70 + i), .inl (cA 0, 24, .inl (upd (fun j => c 40 (4 * j + i)) j x))) = (List.range ni).map (cround cA ad (up c 40 (4 * j + i) x)) := by
    apply List.ext_getElem?
    intro q
    by_cases hq : q < ni
    · by_cases e : q = i
      · subst e
        rw [List.getElem?_set_self (by simpa using hq), rng_get _ hq]
        have : (upd (fun j => c 40 (4 * j + q)) j x) = fun z => up c 40 (4 * j + q) x 40 (4 * z + q) := by
          funext z
          rw [up_eq]
          by_cases hz : z = j
          · subst hz; simp [upd]
          · simp only [upd, if_neg hz, if_neg (show ¬ 4 * z + q = 4 * j + q by omega)]
        simp only [cround, this]
      · rw [List.getElem?_set_ne (Ne.symm e), rng_get _ hq, rng_get _ hq]
        have : (fun z => c 40 (4 * z + q)) = fun z => up c 40 (4 * j + i) x 40 (4 * z + q) := by
          funext z
          rw [up_off (by omega)]
        simp only [cround, this]
    · rw [List.getElem?_eq_none (by simp; omega), List.getElem?_eq_none (by simp; omega)]
  unfold cw
  rw [app_set cfix_len, app_set (by simp), app_set (by simp), key, cfix_up (by omega), chouse_up (Or.inr (by omega)), cint_up (Or.inr (by omega))]
end CW
