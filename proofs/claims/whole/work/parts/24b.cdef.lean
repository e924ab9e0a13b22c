/-! the class's pure words: drawing, rounds, histories -/
def c_und (c : St) (n : Nat) (s : Int32) : Nat := ct (isU (c 1) (c 21) s) n
def c_h (c : St) (n : Nat) (s : Int32) : Nat := sel (isU (c 1) (c 21) s) (m_q (c 0 1) (c_und c n s)) n
def c_d1 (c : St) (n : Nat) (s : Int32) : St := up (up (up c 0 1 (m_ch (c 0 1))) 21 (c_h c n s) 119) 22 (c_h c n s) (c 0 2 + 1)
theorem c_h_lt {c : St} {n : Nat} {s : Int32} (hc : ∃ k, k < 65536 ∧ c 0 1 = nI k) (hn : n ≤ 24) (hu : 0 < c_und c n s) : c_h c n s < n := by
  have hu2 := ct_le (isU (c 1) (c 21) s) n
  obtain ⟨h1, -⟩ := m_q_ok (u := c_und c n s) hc hu (by unfold c_und; omega)
  exact (sel_ok (isU (c 1) (c 21) s) _ n h1).1
theorem c_d1_sc {c : St} {n : Nat} {s : Int32} {i : Nat} (h : i ≠ 1) : c_d1 c n s 0 i = c 0 i := by
  show up c 0 1 _ 0 i = _
  rw [up_off h]
theorem c_d1_row {c : St} {n : Nat} {s : Int32} {q : Nat} (h0 : q ≠ 0) (h1 : q ≠ 21) (h2 : q ≠ 22) : c_d1 c n s q = c q := by
  show up (up (up c 0 1 _) 21 _ _) 22 _ _ q = _
  rw [up_row h2, up_row h1, up_row h0]
theorem c_d1_chance {c : St} {n : Nat} {s : Int32} (hc : ∃ k, k < 65536 ∧ c 0 1 = nI k) : ∃ k, k < 65536 ∧ c_d1 c n s 0 1 = nI k := by
  obtain ⟨k, hk, e⟩ := hc
  obtain ⟨d, hd, e2⟩ := m_ch_ok hk
  exact ⟨d, hd, by rw [← e2, ← e]; rfl⟩
def c_rep (c : St) (n : Nat) : Nat → St
  | 0 => c
  | j + 1 => if c_rep c n j 29 j = 0 ∨ c_und (c_rep c n j) n (c_rep c n j 1 j) = 0 then c_rep c n j else c_d1 (c_rep c n j) n (c_rep c n j 1 j)
def c_repc (c : St) (n : Nat) : Nat → Nat
  | 0 => 0
  | j + 1 => if c_rep c n j 29 j = 0 ∨ c_und (c_rep c n j) n (c_rep c n j 1 j) = 0 then c_repc c n j else c_repc c n j + 1
theorem c_rep_p {c : St} {n j : Nat} (h : c_rep c n j 29 j = 0 ∨ c_und (c_rep c n j) n (c_rep c n j 1 j) = 0) : c_rep c n (j + 1) = c_rep c n j := by
  conv => lhs; unfold c_rep
  rw [if_pos h]
theorem c_rep_n {c : St} {n j : Nat} (h : ¬ (c_rep c n j 29 j = 0 ∨ c_und (c_rep c n j) n (c_rep c n j 1 j) = 0)) : c_rep c n (j + 1) = c_d1 (c_rep c n j) n (c_rep c n j 1 j) := by
  conv => lhs; unfold c_rep
  rw [if_neg h]
theorem c_repc_p {c : St} {n j : Nat} (h : c_rep c n j 29 j = 0 ∨ c_und (c_rep c n j) n (c_rep c n j 1 j) = 0) : c_repc c n (j + 1) = c_repc c n j := by
  conv => lhs; unfold c_repc
  rw [if_pos h]
theorem c_repc_n {c : St} {n j : Nat} (h : ¬ (c_rep c n j 29 j = 0 ∨ c_und (c_rep c n j) n (c_rep c n j 1 j) = 0)) : c_repc c n (j + 1) = c_repc c n j + 1 := by
  conv => lhs; unfold c_repc
  rw [if_neg h]
theorem c_rep_sc {c : St} {n : Nat} : ∀ j i, i ≠ 1 → c_rep c n j 0 i = c 0 i
  | 0, _, _ => rfl
  | j + 1, i, h => by
    by_cases z : c_rep c n j 29 j = 0 ∨ c_und (c_rep c n j) n (c_rep c n j 1 j) = 0
    · rw [c_rep_p z]; exact c_rep_sc j i h
    · rw [c_rep_n z, c_d1_sc h]; exact c_rep_sc j i h
theorem c_rep_chance {c : St} {n : Nat} (hc : ∃ k, k < 65536 ∧ c 0 1 = nI k) : ∀ j, ∃ k, k < 65536 ∧ c_rep c n j 0 1 = nI k
  | 0 => hc
  | j + 1 => by
    by_cases z : c_rep c n j 29 j = 0 ∨ c_und (c_rep c n j) n (c_rep c n j 1 j) = 0
    · rw [c_rep_p z]; exact c_rep_chance hc j
    · rw [c_rep_n z]; exact c_d1_chance (c_rep_chance hc j)
/-- whom an interviewer can add -/
def c_fit (c : St) (i h : Nat) : Bool := (decide (c 21 h = 119) && (decide (¬ c 0 2 < c 22 h) && decide (c 27 h = -1))) && (!(decide ((c 26 h >>> (nI i &&& 31)) &&& 1 = 1)) && (decide ((c 32 i >>> (c 2 h &&& 31)) &&& 1 = 1) && decide (¬ c 33 i < c 36 i + c_abs (c 20 h - c 35 i) + 30 + c_abs (c 20 h - c 31 i))))
def c_dist (c : St) (i h : Nat) : Int32 := c_abs (c 20 h - c 35 i)
def c_nx (c : St) (i n : Nat) : Option Nat := nxt (c_fit c i) (c_dist c i) n
def c_lw (d : Nat → Int32) : Option Nat → Int32
  | none => 0
  | some b => d b
def c_ws (c : St) (i h k : Nat) : St := up (up (up (up (up c 40 (4 * k + i) (nI h)) 34 i (nI (k + 1))) 36 i (c 36 i + (c_abs (c 20 h - c 35 i) + 30))) 35 i (c 20 h)) 27 h (nI i)
def c_wl (n i : Nat) : Nat → St → Nat → St
  | 0, c, _ => c
  | f + 1, c, k => match c_nx c i n with
    | none => c
    | some h => c_wl n i f (c_ws c i h k) (k + 1)
theorem c_wl_n {n i f k : Nat} {c : St} (h : c_nx c i n = none) : c_wl n i f c k = c := by
  cases f with
  | zero => rfl
  | succ f => unfold c_wl; rw [h]
theorem c_wl_s {n i f k h : Nat} {c : St} (e : c_nx c i n = some h) : c_wl n i (f + 1) c k = c_wl n i f (c_ws c i h k) (k + 1) := by
  conv => lhs; unfold c_wl
  rw [e]
theorem c_ws_row {c : St} {i h k q : Nat} (h1 : q ≠ 27) (h2 : q ≠ 34) (h3 : q ≠ 35) (h4 : q ≠ 36) (h5 : q ≠ 40) : c_ws c i h k q = c q := by
  unfold c_ws
  rw [up_row h1, up_row h3, up_row h4, up_row h2, up_row h5]
theorem c_wl_row {n i : Nat} {q : Nat} (h1 : q ≠ 27) (h2 : q ≠ 34) (h3 : q ≠ 35) (h4 : q ≠ 36) (h5 : q ≠ 40) : ∀ (f : Nat) (c : St) (k : Nat), c_wl n i f c k q = c q
  | 0, _, _ => rfl
  | f + 1, c, k => by
    cases e : c_nx c i n with
    | none => rw [c_wl_n e]
    | some h => rw [c_wl_s e, c_wl_row h1 h2 h3 h4 h5 f]; exact c_ws_row h1 h2 h3 h4 h5
def c_bd (c : St) : Nat → St
  | 0 => c
  | j + 1 => up (up (up (c_bd c j) 27 j (-1)) 28 j 0) 29 j 0
theorem c_bd_row {c : St} : ∀ j q, q ≠ 27 → q ≠ 28 → q ≠ 29 → c_bd c j q = c q
  | 0, _, _, _, _ => rfl
  | j + 1, q, h1, h2, h3 => by
    show up (up (up (c_bd c j) 27 j (-1)) 28 j 0) 29 j 0 q = _
    rw [up_row h3, up_row h2, up_row h1]
    exact c_bd_row j q h1 h2 h3
def c_b1 (c : St) (i : Nat) : St := up (up (up c 34 i 0) 35 i (c 31 i)) 36 i 0
def c_mi (c : St) (n i : Nat) : St := if c 9 i < 2 then c_wl n i n (c_b1 c i) 0 else c_b1 c i
def c_mis (c : St) (n : Nat) : Nat → St
  | 0 => c
  | i + 1 => c_mi (c_mis c n i) n i
theorem c_mi_row {c : St} {n i q : Nat} (h1 : q ≠ 27) (h2 : q ≠ 34) (h3 : q ≠ 35) (h4 : q ≠ 36) (h5 : q ≠ 40) : c_mi c n i q = c q := by
  have e : c_b1 c i q = c q := by unfold c_b1; rw [up_row h4, up_row h3, up_row h2]
  unfold c_mi
  split
  · rw [c_wl_row h1 h2 h3 h4 h5]; exact e
  · exact e
theorem c_mis_row {c : St} {n q : Nat} (h1 : q ≠ 27) (h2 : q ≠ 34) (h3 : q ≠ 35) (h4 : q ≠ 36) (h5 : q ≠ 40) : ∀ i, c_mis c n i q = c q
  | 0 => rfl
  | i + 1 => by
    show c_mi (c_mis c n i) n i q = _
    rw [c_mi_row h1 h2 h3 h4 h5]
    exact c_mis_row h1 h2 h3 h4 h5 i
def c_rounds (c : St) (n ni : Nat) : St := c_mis (c_bd c n) n ni
/-- lost answers are wanted again -/
def c_la (c : St) : Nat → St
  | 0 => c
  | j + 1 => if c_la c j 21 j = 97 ∧ c_la c j 5 j = 0 then up (up (c_la c j) 21 j 119) 22 j (c 0 2 + 1) else c_la c j
theorem c_la_row {c : St} : ∀ j q, q ≠ 21 → q ≠ 22 → c_la c j q = c q
  | 0, _, _, _ => rfl
  | j + 1, q, h1, h2 => by
    unfold c_la
    split
    · rw [up_row h2, up_row h1]; exact c_la_row j q h1 h2
    · exact c_la_row j q h1 h2
theorem c_la_t {c : St} {j : Nat} (h1 : c_la c j 21 j = 97) (h2 : c_la c j 5 j = 0) : c_la c (j + 1) = up (up (c_la c j) 21 j 119) 22 j (c 0 2 + 1) := by
  conv => lhs; unfold c_la
  rw [if_pos ⟨h1, h2⟩]
theorem c_la_f {c : St} {j : Nat} (h : ¬ (c_la c j 21 j = 97 ∧ c_la c j 5 j = 0)) : c_la c (j + 1) = c_la c j := by
  conv => lhs; unfold c_la
  rw [if_neg h]
def c_s64 (w : Nat → Int32) : Nat → Int64
  | 0 => 0
  | j + 1 => c_s64 w j + (w j).toInt64
