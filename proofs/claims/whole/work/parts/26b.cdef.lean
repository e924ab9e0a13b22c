/-! the class's pure words: the public methods -/
def c_raise (c : St) (h : Nat) : St := up (up c 3 (iN (c 1 h)) (c 3 (iN (c 1 h)) + 1000)) 4 (iN (c 2 h)) (c 4 (iN (c 2 h)) + 1000)
def cg_ok (c : St) (n : Nat) : Prop := ∀ j, j < n → (∃ s, s < 4 ∧ c 1 j = nI s) ∧ ∃ g, g < 3 ∧ c 2 j = nI g
theorem cg_cong {c d : St} {n : Nat} (h1 : d 1 = c 1) (h2 : d 2 = c 2) (h : cg_ok c n) : cg_ok d n := by
  intro j hj
  rw [h1, h2]
  exact h j hj
theorem c_raise_row {c : St} {h q : Nat} (h3 : q ≠ 3) (h4 : q ≠ 4) : c_raise c h q = c q := by
  unfold c_raise
  rw [up_row h4, up_row h3]
def c_drw (c : St) (n : Nat) (s : Int32) : Nat → St
  | 0 => c
  | k + 1 => c_raise (c_d1 (c_drw c n s k) n s) (c_h (c_drw c n s k) n s)
def c_lst (c : St) (n : Nat) (s : Int32) : Nat → Int32
  | 0 => -1
  | k + 1 => nI (c_h (c_drw c n s k) n s)
theorem c_drw_row {c : St} {n : Nat} {s : Int32} {q : Nat} (h0 : q ≠ 0) (h3 : q ≠ 3) (h4 : q ≠ 4) (h1 : q ≠ 21) (h2 : q ≠ 22) : ∀ k, c_drw c n s k q = c q
  | 0 => rfl
  | k + 1 => by
    show c_raise (c_d1 _ n s) _ q = _
    rw [c_raise_row h3 h4, c_d1_row h0 h1 h2]
    exact c_drw_row h0 h3 h4 h1 h2 k
theorem c_drw_sc {c : St} {n : Nat} {s : Int32} {i : Nat} (h : i ≠ 1) : ∀ k, c_drw c n s k 0 i = c 0 i
  | 0 => rfl
  | k + 1 => by
    show c_raise (c_d1 _ n s) _ 0 i = _
    rw [c_raise_row (by decide) (by decide), c_d1_sc h]
    exact c_drw_sc h k
theorem c_drw_chance {c : St} {n : Nat} {s : Int32} (hc : ∃ k, k < 65536 ∧ c 0 1 = nI k) : ∀ k, ∃ z, z < 65536 ∧ c_drw c n s k 0 1 = nI z
  | 0 => hc
  | k + 1 => by
    show ∃ z, z < 65536 ∧ c_raise (c_d1 _ n s) _ 0 1 = nI z
    rw [c_raise_row (by decide) (by decide)]
    exact c_d1_chance (c_drw_chance hc k)
/-- one undrawn house less -/
theorem ct_upd {f g : Nat → Bool} {n h : Nat} (hh : h < n) (hf : f h = true) (hg : g h = false) (he : ∀ j, j ≠ h → g j = f j) : ct g n + 1 = ct f n := by
  have low : ∀ m, m ≤ h → ct g m = ct f m := by
    intro m
    induction m with
    | zero => intro _; rfl
    | succ m ih =>
      intro hm
      have e := he m (by omega)
      by_cases z : f m = true
      · rw [ct_t z, ct_t (e.trans z), ih (by omega)]
      · rw [ct_f (Bool.not_eq_true _ ▸ z : f m = false), ct_f (e.trans (Bool.not_eq_true _ ▸ z : f m = false)), ih (by omega)]
  have high : ∀ m, h < m → ct g m + 1 = ct f m := by
    intro m
    induction m with
    | zero => intro z; omega
    | succ m ih =>
      intro hm
      by_cases z : m = h
      · subst z; rw [ct_t hf, ct_f hg, low m (Nat.le_refl _)]
      · have e := he m z
        have ih2 := ih (by omega)
        by_cases y : f m = true
        · rw [ct_t y, ct_t (e.trans y)]; omega
        · rw [ct_f (Bool.not_eq_true _ ▸ y : f m = false), ct_f (e.trans (Bool.not_eq_true _ ▸ y : f m = false))]; exact ih2
  exact high n hh
theorem c_h_undrawn {c : St} {n : Nat} {s : Int32} (hc : ∃ k, k < 65536 ∧ c 0 1 = nI k) (hn : n ≤ 24) (hu : 0 < c_und c n s) : isU (c 1) (c 21) s (c_h c n s) = true := by
  have hu2 := ct_le (isU (c 1) (c 21) s) n
  obtain ⟨h1, -⟩ := m_q_ok (u := c_und c n s) hc hu (by unfold c_und; omega)
  exact (sel_ok (isU (c 1) (c 21) s) _ n h1).2.1
theorem c_und_d1 {c : St} {n : Nat} {s : Int32} (hc : ∃ k, k < 65536 ∧ c 0 1 = nI k) (hn : n ≤ 24) (hu : 0 < c_und c n s) : c_und (c_d1 c n s) n s + 1 = c_und c n s := by
  unfold c_und
  have e1 : c_d1 c n s 1 = c 1 := c_d1_row (by decide) (by decide) (by decide)
  rw [e1]
  have e2 : ∀ j, c_d1 c n s 21 j = if j = c_h c n s then 119 else c 21 j := by
    intro j
    show up (up (up c 0 1 _) 21 (c_h c n s) 119) 22 _ _ 21 j = _
    rw [up_row (by decide)]
    by_cases z : j = c_h c n s
    · rw [if_pos z, z, up_at]
    · rw [if_neg z, up_off z, up_row (by decide)]
  refine ct_upd (c_h_lt hc hn hu) (c_h_undrawn hc hn hu) ?_ (fun j hj => ?_)
  · unfold isU; rw [e2, if_pos rfl]; simp
  · unfold isU; rw [e2, if_neg hj]
theorem c_und_drw {c : St} {n : Nat} {s : Int32} (hc : ∃ k, k < 65536 ∧ c 0 1 = nI k) (hn : n ≤ 24) : ∀ k, k ≤ c_und c n s → c_und (c_drw c n s k) n s + k = c_und c n s
  | 0, _ => rfl
  | k + 1, h => by
    have ih := c_und_drw (s := s) hc hn k (by omega)
    have h2 := c_und_d1 (c_drw_chance (s := s) hc k) hn (show 0 < c_und (c_drw c n s k) n s by omega)
    show c_und (c_raise (c_d1 (c_drw c n s k) n s) _) n s + (k + 1) = _
    have e : c_und (c_raise (c_d1 (c_drw c n s k) n s) (c_h (c_drw c n s k) n s)) n s = c_und (c_d1 (c_drw c n s k) n s) n s := by
      unfold c_und
      rw [c_raise_row (by decide) (by decide), c_raise_row (by decide) (by decide)]
    rw [e]
    omega
def c_fin (c : St) (n : Nat) : St := upr c 8 (cs_wt c 5 n)
def c_ta (c : St) (n h : Nat) (v a : Int32) : St := c_fin (c_take 5 (up (up c 21 h 97) 30 h 0) h v a) n
def c_app (c : St) (k : Nat) (ev : Ev) : St := up (up c 15 k (e_w ev)) 0 5 (nI (k + 1))
def c_v0 (c : St) (k h v a : Nat) (o : Int32) : St := up (up (c_app c k (o, h, v, a)) 28 h 1) 23 h (c 23 h + 1)
def c_c0 (c : St) (k h a : Nat) : St := up (c_app c k (99, h, 0, a)) 30 h 1
theorem a10 {a : Nat} (h : a < 10) : ¬ nI a < 0 ∧ ¬ (9 : Int32) < nI a := (by decide : ∀ a : Fin 10, ¬ nI a.1 < 0 ∧ ¬ (9 : Int32) < nI a.1) ⟨a, h⟩
theorem p99 {a : Nat} (h : a < 100) : ¬ nI a < 0 ∧ ¬ (99 : Int32) < nI a := (by decide : ∀ a : Fin 100, ¬ nI a.1 < 0 ∧ ¬ (99 : Int32) < nI a.1) ⟨a, h⟩
theorem l3 {a : Nat} (h : a < 3) : ¬ nI a < 0 ∧ ¬ (2 : Int32) < nI a := (by decide : ∀ a : Fin 3, ¬ nI a.1 < 0 ∧ ¬ (2 : Int32) < nI a.1) ⟨a, h⟩
def c_w64 (f a w : Nat → Int32) : Nat → Int64
  | 0 => 0
  | j + 1 => if f j = 0 then c_w64 f a w j else c_w64 f a w j + (a j).toInt64 * (w j).toInt64
theorem c_w64_t {f a w : Nat → Int32} {j : Nat} (h : ¬ f j = 0) : c_w64 f a w (j + 1) = c_w64 f a w j + (a j).toInt64 * (w j).toInt64 := by
  conv => lhs; unfold c_w64
  rw [if_neg h]
theorem c_w64_f {f a w : Nat → Int32} {j : Nat} (h : f j = 0) : c_w64 f a w (j + 1) = c_w64 f a w j := by
  conv => lhs; unfold c_w64
  rw [if_pos h]
theorem c_wa_row {c : St} {E : Nat → Ev} {n nh q : Nat} (h : q < 10 ∨ 14 < q) : c_wa c E n nh q = c q := by
  unfold c_wa
  rw [upr_row (by omega), c_re_row (by omega)]
