/-! the nearest one that fits -/
def nxt (fit : Nat → Bool) (d : Nat → Int32) : Nat → Option Nat
  | 0 => none
  | j + 1 => if fit j = true then (match nxt fit d j with
    | none => some j
    | some b => if d b ≤ d j then some b else some j) else nxt fit d j
theorem nxt_f {fit : Nat → Bool} {d : Nat → Int32} {j : Nat} (h : fit j = false) : nxt fit d (j + 1) = nxt fit d j := by simp [nxt, h]
theorem nxt_n {fit : Nat → Bool} {d : Nat → Int32} {j : Nat} (h : fit j = true) (hb : nxt fit d j = none) : nxt fit d (j + 1) = some j := by simp [nxt, h, hb]
theorem nxt_b {fit : Nat → Bool} {d : Nat → Int32} {j b : Nat} (h : fit j = true) (hb : nxt fit d j = some b) (hd : d b ≤ d j) : nxt fit d (j + 1) = some b := by simp [nxt, h, hb, hd]
theorem nxt_j {fit : Nat → Bool} {d : Nat → Int32} {j b : Nat} (h : fit j = true) (hb : nxt fit d j = some b) (hd : ¬ d b ≤ d j) : nxt fit d (j + 1) = some j := by simp [nxt, h, hb, hd]
theorem nxt_some {fit : Nat → Bool} {d : Nat → Int32} : ∀ {j b : Nat}, nxt fit d j = some b → b < j ∧ fit b = true
  | 0, b, h => by simp [nxt] at h
  | j + 1, b, h => by
    by_cases hf : fit j = true
    · cases hb : nxt fit d j with
      | none =>
        rw [nxt_n hf hb] at h
        cases h
        exact ⟨by omega, hf⟩
      | some c =>
        obtain ⟨h1, h2⟩ := nxt_some hb
        by_cases hd : d c ≤ d j
        · rw [nxt_b hf hb hd] at h
          cases h
          exact ⟨by omega, h2⟩
        · rw [nxt_j hf hb hd] at h
          cases h
          exact ⟨by omega, hf⟩
    · rw [nxt_f (by simpa using hf)] at h
      obtain ⟨h1, h2⟩ := nxt_some h
      exact ⟨by omega, h2⟩
theorem nxt_none {fit : Nat → Bool} {d : Nat → Int32} : ∀ {j : Nat}, nxt fit d j = none → ∀ b, b < j → fit b = false
  | 0, _, b, hb => absurd hb (Nat.not_lt_zero _)
  | j + 1, h, b, hb => by
    by_cases hf : fit j = true
    · cases hc : nxt fit d j with
      | none => rw [nxt_n hf hc] at h; cases h
      | some c =>
        by_cases hd : d c ≤ d j
        · rw [nxt_b hf hc hd] at h; cases h
        · rw [nxt_j hf hc hd] at h; cases h
    · have hf2 : fit j = false := by simpa using hf
      rw [nxt_f hf2] at h
      rcases Nat.lt_or_ge b j with z | z
      · exact nxt_none h b z
      · have : b = j := by omega
        rw [this]; exact hf2
theorem nxt_cong {f1 f2 : Nat → Bool} {d1 d2 : Nat → Int32} : ∀ {n : Nat}, (∀ j, j < n → f1 j = f2 j) → (∀ j, j < n → d1 j = d2 j) → nxt f1 d1 n = nxt f2 d2 n
  | 0, _, _ => rfl
  | n + 1, hf, hd => by
    have ih := nxt_cong (n := n) (fun j hj => hf j (by omega)) (fun j hj => hd j (by omega))
    unfold nxt
    rw [ih, hf n (by omega)]
    split
    · cases hb : nxt f2 d2 n with
      | none => rfl
      | some b =>
        have := (nxt_some hb).1
        simp only [hd b (by omega), hd n (by omega)]
    · rfl
def oI : Option Nat → Int32
  | none => -1
  | some b => nI b
theorem nI_m1 {b : Nat} (h : b < 2 ^ 31) : ¬ nI b = -1 := fun e => by
  have := nI_toInt h
  rw [e] at this
  have h2 : (-1 : Int32).toInt = -1 := by decide
  omega
def m_fit (r : St) (i : Nat) (at_ : Int32) (h : Nat) : Bool := decide (r 4 h = 119) && (decide (¬ r 0 5 < r 5 h) && (decide (r 18 h = -1) && (decide (¬ (r 23 i >>> (r 3 h &&& 31)) &&& 1 = 0) && (decide (¬ (r 9 h >>> (nI i &&& 31)) &&& 1 = 1) && decide (r 21 i + m_way at_ (r 2 h) + 30 + m_way (r 2 h) (r 22 i) ≤ r 24 i)))))
def m_dist (r : St) (at_ : Int32) (h : Nat) : Int32 := m_way at_ (r 2 h)
def m_nx (r : St) (i : Nat) (at_ : Int32) (n : Nat) : Option Nat := nxt (m_fit r i at_) (m_dist r at_) n
/-! a day's rounds in the model -/
def m_rst (r : St) : Nat → St
  | 0 => r
  | j + 1 => up (up (up (m_rst r j) 18 j (-1)) 17 j 0) 16 j 0
theorem m_rst_row {r : St} : ∀ j q, q ≠ 16 → q ≠ 17 → q ≠ 18 → m_rst r j q = r q
  | 0, _, _, _, _ => rfl
  | j + 1, q, h1, h2, h3 => by
    show up (up (up (m_rst r j) 18 j (-1)) 17 j 0) 16 j 0 q = _
    rw [up_row h1, up_row h2, up_row h3]
    exact m_rst_row j q h1 h2 h3
def m_ws (r : St) (i : Nat) (at_ : Int32) (h k : Nat) : St := up (up (up (up r 19 (24 * i + k) (nI h)) 20 i (nI (k + 1))) 21 i (r 21 i + (m_way at_ (r 2 h) + 30))) 18 h (nI i)
theorem m_ws_row {r : St} {i h k : Nat} {at_ : Int32} (q : Nat) (h1 : q ≠ 18) (h2 : q ≠ 19) (h3 : q ≠ 20) (h4 : q ≠ 21) : m_ws r i at_ h k q = r q := by
  unfold m_ws
  rw [up_row h1, up_row h4, up_row h3, up_row h2]
/-- the walk of interviewer i from a place, k houses told already; the fuel f -/
def m_wl (n i : Nat) : Nat → St → Int32 → Nat → St × Int32
  | 0, r, a, _ => (r, a)
  | f + 1, r, a, k => match m_nx r i a n with
    | none => (r, a)
    | some h => m_wl n i f (m_ws r i a h k) (r 2 h) (k + 1)
theorem m_wl_n {n i f k : Nat} {r : St} {a : Int32} (h : m_nx r i a n = none) : m_wl n i f r a k = (r, a) := by
  cases f with
  | zero => rfl
  | succ f => unfold m_wl; rw [h]
theorem m_wl_s {n i f k h : Nat} {r : St} {a : Int32} (e : m_nx r i a n = some h) : m_wl n i (f + 1) r a k = m_wl n i f (m_ws r i a h k) (r 2 h) (k + 1) := by
  conv => lhs; unfold m_wl
  rw [e]
def m_fr (r : St) (n : Nat) : Nat := ct (fun h => decide (r 18 h = -1)) n
theorem m_fit_fr {r : St} {i h : Nat} {a : Int32} (e : m_fit r i a h = true) : r 18 h = -1 := by
  simp only [m_fit, Bool.and_eq_true, decide_eq_true_eq] at e
  exact e.2.2.1
theorem m_ws_18 {r : St} {i h k : Nat} {a : Int32} (j : Nat) : m_ws r i a h k 18 j = if j = h then nI i else r 18 j := by
  unfold m_ws
  rw [up_app]
  simp only [true_and]
  split
  · rfl
  · rw [up_row (by decide), up_row (by decide), up_row (by decide)]
theorem m_fr_ws {r : St} {n i h k : Nat} {a : Int32} (hi : i < 100) (e : m_nx r i a n = some h) : m_fr (m_ws r i a h k) n + 1 = m_fr r n := by
  obtain ⟨h1, h2⟩ := nxt_some e
  refine ct_less h1 (by simpa using m_fit_fr h2) ?_ (fun j hj => ?_)
  · simp only [m_ws_18, if_true, decide_eq_false_iff_not]
    exact nI_m1 (by omega)
  · simp only [m_ws_18, if_neg hj]
theorem m_fr0 {r : St} {n i : Nat} {a : Int32} (h : m_fr r n = 0) : m_nx r i a n = none := by
  cases e : m_nx r i a n with
  | none => rfl
  | some b =>
    obtain ⟨h1, h2⟩ := nxt_some e
    have h3 := m_fit_fr h2
    have h4 := ct_mono (fun h => decide (r 18 h = -1)) (show b + 1 ≤ n from h1)
    rw [ct_t (by simpa using h3)] at h4
    unfold m_fr at h
    omega
/-- interviewer i's round -/
def m_r1 (r : St) (i : Nat) : St := up (up r 20 i 0) 21 i 0
def m_rq (r : St) (n i : Nat) : St × Int32 := if r 25 i = 2 then (m_r1 r i, r 22 i) else m_wl n i n (m_r1 r i) (r 22 i) 0
def m_rd (r : St) (n i : Nat) : St := up (m_rq r n i).1 21 i ((m_rq r n i).1 21 i + m_way (m_rq r n i).2 (r 22 i))
def m_rds (r : St) (n : Nat) : Nat → St
  | 0 => r
  | i + 1 => m_rd (m_rds r n i) n i
def m_rounds (r : St) (n ni : Nat) : St := m_rds (m_rst r n) n ni
theorem m_wl_row {n i : Nat} : ∀ (f : Nat) (r : St) (a : Int32) (k q : Nat), q ≠ 18 → q ≠ 19 → q ≠ 20 → q ≠ 21 → (m_wl n i f r a k).1 q = r q
  | 0, _, _, _, _, _, _, _, _ => rfl
  | f + 1, r, a, k, q, h1, h2, h3, h4 => by
    cases e : m_nx r i a n with
    | none => rw [m_wl_n e]
    | some h =>
      rw [m_wl_s e, m_wl_row f _ _ _ q h1 h2 h3 h4]
      exact m_ws_row q h1 h2 h3 h4
theorem m_rq_row {r : St} {n i q : Nat} (h1 : q ≠ 18) (h2 : q ≠ 19) (h3 : q ≠ 20) (h4 : q ≠ 21) : (m_rq r n i).1 q = r q := by
  unfold m_rq
  split
  · show m_r1 r i q = _
    unfold m_r1
    rw [up_row h4, up_row h3]
  · rw [m_wl_row _ _ _ _ _ h1 h2 h3 h4]
    unfold m_r1
    rw [up_row h4, up_row h3]
theorem m_rd_row {r : St} {n i q : Nat} (h1 : q ≠ 18) (h2 : q ≠ 19) (h3 : q ≠ 20) (h4 : q ≠ 21) : m_rd r n i q = r q := by
  unfold m_rd
  rw [up_row h4]
  exact m_rq_row h1 h2 h3 h4
theorem m_rds_row {r : St} {n q : Nat} (h1 : q ≠ 18) (h2 : q ≠ 19) (h3 : q ≠ 20) (h4 : q ≠ 21) : ∀ i, m_rds r n i q = r q
  | 0 => rfl
  | i + 1 => by
    show m_rd (m_rds r n i) n i q = _
    rw [m_rd_row h1 h2 h3 h4]
    exact m_rds_row h1 h2 h3 h4 i
/-! a barred interviewer's houses -/
def m_bar (r : St) (i : Nat) : Nat → St
  | 0 => r
  | j + 1 => if m_bar r i j 4 j = 97 ∧ m_bar r i j 11 j = nI i then up (up (m_bar r i j) 4 j 119) 5 j (r 0 5 + 1) else m_bar r i j
theorem m_bar_row {r : St} {i : Nat} : ∀ j q, q ≠ 4 → q ≠ 5 → m_bar r i j q = r q
  | 0, _, _, _ => rfl
  | j + 1, q, h1, h2 => by
    unfold m_bar
    split
    · rw [up_row h2, up_row h1]
      exact m_bar_row j q h1 h2
    · exact m_bar_row j q h1 h2
/-! a day's end -/
def m_rep (r : St) (n : Nat) : Nat → St
  | 0 => r
  | j + 1 => if m_rep r n j 16 j = 0 ∨ m_und (m_rep r n j) n (m_rep r n j 1 j) = 0 then m_rep r n j else m_d1 (m_rep r n j) n (m_rep r n j 1 j) 1
def m_repc (r : St) (n : Nat) : Nat → Nat
  | 0 => 0
  | j + 1 => if m_rep r n j 16 j = 0 ∨ m_und (m_rep r n j) n (m_rep r n j 1 j) = 0 then m_repc r n j else m_repc r n j + 1
theorem m_repc_le (r : St) (n : Nat) : ∀ j, m_repc r n j ≤ j
  | 0 => Nat.le_refl _
  | j + 1 => by
    have := m_repc_le r n j
    unfold m_repc
    split <;> omega
theorem m_d1_sc {r : St} {n : Nat} {s inst : Int32} {i : Nat} (h : i ≠ 1) : m_d1 r n s inst 0 i = r 0 i := by
  show up r 0 1 _ 0 i = _
  rw [up_off h]
theorem m_d1_row {r : St} {n : Nat} {s inst : Int32} {q : Nat} (h0 : q ≠ 0) (h4 : q ≠ 4) (h5 : q ≠ 5) (h14 : q ≠ 14) : m_d1 r n s inst q = r q := by
  show up (up (up (up r 0 1 _) 4 _ _) 5 _ _) 14 _ _ q = _
  rw [up_row h14, up_row h5, up_row h4, up_row h0]
theorem m_rep_sc {r : St} {n : Nat} : ∀ j i, i ≠ 1 → m_rep r n j 0 i = r 0 i
  | 0, _, _ => rfl
  | j + 1, i, h => by
    unfold m_rep
    split
    · exact m_rep_sc j i h
    · rw [m_d1_sc h]; exact m_rep_sc j i h
theorem m_rep_row {r : St} {n q : Nat} (h0 : q ≠ 0) (h4 : q ≠ 4) (h5 : q ≠ 5) (h14 : q ≠ 14) : ∀ j, m_rep r n j q = r q
  | 0 => rfl
  | j + 1 => by
    unfold m_rep
    split
    · exact m_rep_row h0 h4 h5 h14 j
    · rw [m_d1_row h0 h4 h5 h14]; exact m_rep_row h0 h4 h5 h14 j
theorem m_rep_chance {r : St} {n : Nat} (hc : ∃ k, k < 65536 ∧ r 0 1 = nI k) : ∀ j, ∃ k, k < 65536 ∧ m_rep r n j 0 1 = nI k
  | 0 => hc
  | j + 1 => by
    unfold m_rep
    split
    · exact m_rep_chance hc j
    · exact m_d1_chance (m_rep_chance hc j)
def m_endDay (r : St) (n ni : Nat) : St := m_rounds (up (m_rep (up r 0 0 0) n n) 0 5 (r 0 5 + 1)) n ni
