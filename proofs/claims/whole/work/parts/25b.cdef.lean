/-! the class's pure words: histories -/
abbrev Ev := Int32 × Nat × Nat × Nat
def e_ok (ev : Ev) : Prop := (ev.1 = 97 ∨ ev.1 = 110 ∨ ev.1 = 114 ∨ ev.1 = 101 ∨ ev.1 = 99) ∧ ev.2.1 < 24 ∧ ev.2.2.1 < 4 ∧ ev.2.2.2 < 10
def e_w (ev : Ev) : Int32 := c_ev ev.1 (nI ev.2.1) (nI ev.2.2.1) (nI ev.2.2.2)
def e_dec (k : Int32) : Prop := ∀ h : Fin 24, ∀ v : Fin 4, ∀ a : Fin 10, (e_w (k, h.1, v.1, a.1) >>> ((16 : Int32) &&& 31) = k ∧ (e_w (k, h.1, v.1, a.1) >>> ((12 : Int32) &&& 31)) &&& 3 = nI v.1) ∧ ((e_w (k, h.1, v.1, a.1) >>> ((4 : Int32) &&& 31)) &&& 31 = nI h.1 ∧ e_w (k, h.1, v.1, a.1) &&& 15 = nI a.1)
theorem e_d97 : e_dec 97 := by unfold e_dec; decide +kernel
theorem e_d99 : e_dec 99 := by unfold e_dec; decide +kernel
theorem e_d110 : e_dec 110 := by unfold e_dec; decide +kernel
theorem e_d114 : e_dec 114 := by unfold e_dec; decide +kernel
theorem e_d101 : e_dec 101 := by unfold e_dec; decide +kernel
theorem e_d {ev : Ev} (h : e_ok ev) : (e_w ev >>> ((16 : Int32) &&& 31) = ev.1 ∧ (e_w ev >>> ((12 : Int32) &&& 31)) &&& 3 = nI ev.2.2.1) ∧ ((e_w ev >>> ((4 : Int32) &&& 31)) &&& 31 = nI ev.2.1 ∧ e_w ev &&& 15 = nI ev.2.2.2) := by
  obtain ⟨k, hh, v, a⟩ := ev
  obtain ⟨h1, h2, h3, h4⟩ := h
  have key : e_dec k := by
    change k = 97 ∨ k = 110 ∨ k = 114 ∨ k = 101 ∨ k = 99 at h1
    rcases h1 with rfl | rfl | rfl | rfl | rfl
    · exact e_d97
    · exact e_d110
    · exact e_d114
    · exact e_d101
    · exact e_d99
  exact key ⟨hh, h2⟩ ⟨v, h3⟩ ⟨a, h4⟩
theorem e_dk {ev : Ev} (h : e_ok ev) : e_w ev >>> ((16 : Int32) &&& 31) = ev.1 := (e_d h).1.1
theorem e_dv {ev : Ev} (h : e_ok ev) : (e_w ev >>> ((12 : Int32) &&& 31)) &&& 3 = nI ev.2.2.1 := (e_d h).1.2
theorem e_dh {ev : Ev} (h : e_ok ev) : (e_w ev >>> ((4 : Int32) &&& 31)) &&& 31 = nI ev.2.1 := (e_d h).2.1
theorem e_da {ev : Ev} (h : e_ok ev) : e_w ev &&& 15 = nI ev.2.2.2 := (e_d h).2.2
def iN (x : Int32) : Nat := x.toNatClampNeg
theorem iN_nI {n : Nat} (h : n < 2 ^ 31) : iN (nI n) = n := nI_clamp h
/-- an answer asked for again, over a tally's rows from b -/
def c_ask (b : Nat) (c : St) (h : Nat) (a : Int32) : St :=
  if c b h = 0 then c else if c (b + 1) h = a then c else
    if c (b + 4) (iN (c (b + 2) h)) + 1 < 2 then up c (b + 4) (iN (c (b + 2) h)) (c (b + 4) (iN (c (b + 2) h)) + 1)
    else upr (up c (b + 4) (iN (c (b + 2) h)) (c (b + 4) (iN (c (b + 2) h)) + 1)) b (c_dr (c (b + 2)) (nI (iN (c (b + 2) h))) (c b) 24)
theorem c_ask_0 {b : Nat} {c : St} {h : Nat} {a : Int32} (h0 : c b h = 0) : c_ask b c h a = c := by
  unfold c_ask; rw [if_pos h0]
theorem c_ask_s {b : Nat} {c : St} {h : Nat} {a : Int32} (h0 : ¬ c b h = 0) (h1 : c (b + 1) h = a) : c_ask b c h a = c := by
  unfold c_ask; rw [if_neg h0, if_pos h1]
theorem c_ask_d {b : Nat} {c : St} {h : Nat} {a : Int32} (h0 : ¬ c b h = 0) (h1 : ¬ c (b + 1) h = a) {v : Nat} (hv : v < 4) (e : c (b + 2) h = nI v) (h2 : c (b + 4) v + 1 < 2) : c_ask b c h a = up c (b + 4) v (c (b + 4) v + 1) := by
  have e2 : iN (c (b + 2) h) = v := by rw [e]; exact iN_nI (by omega)
  unfold c_ask; rw [if_neg h0, if_neg h1, e2, if_pos h2]
theorem c_ask_b {b : Nat} {c : St} {h : Nat} {a : Int32} (h0 : ¬ c b h = 0) (h1 : ¬ c (b + 1) h = a) {v : Nat} (hv : v < 4) (e : c (b + 2) h = nI v) (h2 : ¬ c (b + 4) v + 1 < 2) : c_ask b c h a = upr (up c (b + 4) v (c (b + 4) v + 1)) b (c_dr (c (b + 2)) (nI v) (c b) 24) := by
  have e2 : iN (c (b + 2) h) = v := by rw [e]; exact iN_nI (by omega)
  unfold c_ask; rw [if_neg h0, if_neg h1, e2, if_neg h2]
theorem c_ask_row {b : Nat} {c : St} {h : Nat} {a : Int32} {q : Nat} (h1 : q ≠ b) (h2 : q ≠ b + 4) : c_ask b c h a q = c q := by
  by_cases z0 : c b h = 0
  · rw [c_ask_0 z0]
  by_cases z1 : c (b + 1) h = a
  · rw [c_ask_s z0 z1]
  unfold c_ask
  rw [if_neg z0, if_neg z1]
  split
  · rw [up_row h2]
  · rw [upr_row h1, up_row h2]
def c_take (b : Nat) (c : St) (h : Nat) (v a : Int32) : St := up (up (up c b h 1) (b + 1) h a) (b + 2) h v
def c_one (b : Nat) (c : St) (ev : Ev) : St := if ev.1 = 97 then c_take b c ev.2.1 (nI ev.2.2.1) (nI ev.2.2.2) else if ev.1 = 99 then c_ask b c ev.2.1 (nI ev.2.2.2) else c
theorem c_one_t {b : Nat} {c : St} {ev : Ev} (h : ev.1 = 97) : c_one b c ev = c_take b c ev.2.1 (nI ev.2.2.1) (nI ev.2.2.2) := by unfold c_one; rw [if_pos h]
theorem c_one_c {b : Nat} {c : St} {ev : Ev} (h0 : ¬ ev.1 = 97) (h : ev.1 = 99) : c_one b c ev = c_ask b c ev.2.1 (nI ev.2.2.2) := by unfold c_one; rw [if_neg h0, if_pos h]
theorem c_one_n {b : Nat} {c : St} {ev : Ev} (h0 : ¬ ev.1 = 97) (h : ¬ ev.1 = 99) : c_one b c ev = c := by unfold c_one; rw [if_neg h0, if_neg h]
theorem c_one_row {b : Nat} {c : St} {ev : Ev} {q : Nat} (h : q < b ∨ b + 4 < q) : c_one b c ev q = c q := by
  unfold c_one
  split
  · unfold c_take; rw [up_row (by omega), up_row (by omega), up_row (by omega)]
  · split
    · exact c_ask_row (by omega) (by omega)
    · rfl
def tk_ok (b : Nat) (c : St) : Prop := ∀ h, h < 24 → ∃ v, v < 4 ∧ c (b + 2) h = nI v
theorem c_one_tk {b : Nat} {c : St} {ev : Ev} (hk : tk_ok b c) (he : e_ok ev) : tk_ok b (c_one b c ev) := by
  unfold c_one
  split
  · intro h hh
    unfold c_take
    by_cases z : h = ev.2.1
    · subst z; exact ⟨_, he.2.2.1, up_at⟩
    · rw [up_off z, up_row (by omega), up_row (by omega)]; exact hk h hh
  · split
    · intro h hh
      rw [c_ask_row (by omega) (by omega)]; exact hk h hh
    · exact hk
/-- a history told over again -/
def c_re (b : Nat) (c : St) (E : Nat → Ev) : Nat → St
  | 0 => upr (upr c b (fs_z (c b) 24)) (b + 4) (fs_z (c (b + 4)) 4)
  | k + 1 => c_one b (c_re b c E k) (E k)
theorem c_re_row {b : Nat} {c : St} {E : Nat → Ev} {q : Nat} (h : q < b ∨ b + 4 < q) : ∀ k, c_re b c E k q = c q
  | 0 => by
    show upr (upr c b _) (b + 4) _ q = _
    rw [upr_row (by omega), upr_row (by omega)]
  | k + 1 => by
    show c_one b _ _ q = _
    rw [c_one_row h]; exact c_re_row h k
theorem c_re_tk {b : Nat} {c : St} {E : Nat → Ev} {n : Nat} (hk : tk_ok b c) (he : ∀ k, k < n → e_ok (E k)) : ∀ k, k ≤ n → tk_ok b (c_re b c E k)
  | 0, _ => by
    intro h hh
    show ∃ v, v < 4 ∧ upr (upr c b _) (b + 4) _ (b + 2) h = nI v
    rw [upr_row (by omega), upr_row (by omega)]; exact hk h hh
  | k + 1, h => c_one_tk (c_re_tk hk he k (by omega)) (he k (by omega))
def c_wa (c : St) (E : Nat → Ev) (n nh : Nat) : St := upr (c_re 10 c E n) 13 (cs_wt (c_re 10 c E n) 10 nh)
theorem c_ws_34 {c : St} {i h k : Nat} : c_ws c i h k 34 i = nI (k + 1) := by
  unfold c_ws
  rw [up_row (by decide), up_row (by decide), up_row (by decide), up_at]
theorem up_b1 {c : St} {i : Nat} {v w : Int32} : up (up (up c 34 i 0) 35 i v) 36 i w 34 i = 0 := by
  rw [up_row (by decide), up_row (by decide), up_at]
