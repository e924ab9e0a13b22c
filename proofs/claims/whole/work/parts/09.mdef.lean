/-- a fact that the number tactics don't read -/
def Hid (p : Prop) : Prop := p
/-! pure words of both sides -/
def m_way (a b : Int32) : Int32 := if b ≤ a then a - b else b - a
theorem idx_hi {j n : Nat} (hj : j < n) (hn : n ≤ 1000) : ¬ nI n - 1 < nI j := by
  obtain ⟨k, rfl⟩ : ∃ k, n = k + 1 := ⟨n - 1, by omega⟩
  rw [nI_pred]
  exact nI_nlt (by omega) (by omega)
theorem idx_bad {n : Nat} {v : Int32} (hv : v < 0 ∨ nI n ≤ v) (hn : n ≤ 1000) : ¬ (¬ v < 0 ∧ ¬ nI n - 1 < v) := by
  rintro ⟨h1, h2⟩
  rcases hv with hv | hv
  · exact h1 hv
  · obtain ⟨j, hj, rfl⟩ := nI_of h1
    rcases Nat.eq_zero_or_pos n with rfl | hp
    · refine h2 ?_
      show nI 0 - 1 < nI j
      have : nI 0 - 1 < 0 := by decide
      exact Int32.lt_of_lt_of_le this (nI_pos' hj)
    · obtain ⟨k, rfl⟩ : ∃ k, n = k + 1 := ⟨n - 1, by omega⟩
      rw [nI_pred] at h2
      have h3 := (nI_leI (by omega) hj).mp hv
      exact h2 (nI_lt (by omega) hj)
def ct (p : Nat → Bool) : Nat → Nat
  | 0 => 0
  | n + 1 => ct p n + (if p n then 1 else 0)
theorem ct_s {p : Nat → Bool} {n : Nat} : ct p (n + 1) = ct p n + (if p n then 1 else 0) := rfl
theorem ct_t {p : Nat → Bool} {n : Nat} (h : p n = true) : ct p (n + 1) = ct p n + 1 := by rw [ct_s, if_pos h]
theorem ct_f {p : Nat → Bool} {n : Nat} (h : p n = false) : ct p (n + 1) = ct p n := by rw [ct_s, h]; rfl
theorem ct_le (p : Nat → Bool) : ∀ n, ct p n ≤ n
  | 0 => Nat.le_refl _
  | n + 1 => by
    have := ct_le p n
    rw [ct_s]
    split <;> omega
theorem ct_mono (p : Nat → Bool) {a b : Nat} (h : a ≤ b) : ct p a ≤ ct p b := by
  induction b with
  | zero => have : a = 0 := by omega
            subst this; exact Nat.le_refl _
  | succ b ih =>
    rcases Nat.lt_or_ge a (b + 1) with q | q
    · have := ih (by omega)
      rw [ct_s]
      omega
    · have : a = b + 1 := by omega
      subst this; exact Nat.le_refl _
theorem ct_cong {p q : Nat → Bool} : ∀ {n : Nat}, (∀ j, j < n → p j = q j) → ct p n = ct q n
  | 0, _ => rfl
  | n + 1, h => by rw [ct_s, ct_s, ct_cong (fun j hj => h j (by omega)), h n (by omega)]
/-- the place of the q-th one among the first n -/
def sel (p : Nat → Bool) (q : Nat) : Nat → Nat
  | 0 => 0
  | n + 1 => if ct p n ≤ q ∧ p n = true then n else sel p q n
theorem sel_ok (p : Nat → Bool) (q : Nat) : ∀ n, q < ct p n → sel p q n < n ∧ p (sel p q n) = true ∧ ct p (sel p q n) = q
  | 0, h => absurd h (Nat.not_lt_zero _)
  | n + 1, h => by
    rw [ct_s] at h
    unfold sel
    by_cases c : ct p n ≤ q ∧ p n = true
    · rw [if_pos c]
      rw [if_pos c.2] at h
      exact ⟨by omega, c.2, by omega⟩
    · rw [if_neg c]
      have h2 : q < ct p n := by
        by_cases c2 : p n = true
        · rw [if_pos c2] at h
          exact Nat.lt_of_not_le (fun z => c ⟨z, c2⟩)
        · rw [if_neg c2] at h
          exact h
      obtain ⟨a, b, c⟩ := sel_ok p q n h2
      exact ⟨by omega, b, c⟩
theorem ct_one {p : Nat → Bool} {i j : Nat} (hi : p i = true) (hj : p j = true) (e : ct p i = ct p j) : i = j := by
  rcases Nat.lt_trichotomy i j with h | h | h
  · have := ct_mono p (show i + 1 ≤ j from h)
    rw [ct_t hi] at this
    omega
  · exact h
  · have := ct_mono p (show j + 1 ≤ i from h)
    rw [ct_t hj] at this
    omega
/-- undrawn houses of a stratum -/
def isU (str stt : Nat → Int32) (s : Int32) : Nat → Bool := fun j => decide (str j = s) && decide (stt j = 117)
theorem isU_t {str stt : Nat → Int32} {s : Int32} {j : Nat} : isU str stt s j = true ↔ str j = s ∧ stt j = 117 := by simp [isU]
/-- the chance number's next -/
def m_ch (c : Int32) : Int32 := c * 1103 + 12345 - (c * 1103 + 12345) / 65536 * 65536
theorem m_ch_ok {c : Nat} (h : c < 65536) : ∃ d, d < 65536 ∧ m_ch (nI c) = nI d := by
  refine ⟨(c * 1103 + 12345) % 65536, Nat.mod_lt _ (by omega), ?_⟩
  have e : nI c * 1103 + 12345 = nI (c * 1103 + 12345) := by
    rw [show (1103 : Int32) = nI 1103 from rfl, show (12345 : Int32) = nI 12345 from rfl, pk_mul, nI_add]
  unfold m_ch
  rw [e, show (65536 : Int32) = nI 65536 from rfl]
  exact pk_rem (by omega) (by omega) (by omega)
/-- which of the u undrawn ones is drawn -/
def m_q (c : Int32) (u : Nat) : Nat := (m_ch c - m_ch c / nI u * nI u).toNatClampNeg
theorem m_q_ok {c : Int32} {u : Nat} (hc : ∃ k, k < 65536 ∧ c = nI k) (hu : 0 < u) (hu2 : u < 2 ^ 31) : m_q c u < u ∧ m_ch c - m_ch c / nI u * nI u = nI (m_q c u) := by
  obtain ⟨k, hk, rfl⟩ := hc
  obtain ⟨d, hd, e⟩ := m_ch_ok hk
  have h := pk_rem (a := d) (d := u) (by omega) hu hu2
  unfold m_q
  rw [e, h]
  have h2 : d % u < u := Nat.mod_lt _ hu
  rw [nI_clamp (by omega)]
  exact ⟨h2, rfl⟩
def b2 (b : Bool) : Int32 := if b then 1 else 0
theorem b2_t : b2 true = 1 := rfl
theorem b2_f : b2 false = 0 := rfl
theorem b2_nar (b : Bool) : vp_nar .boolean (b2 b) = b2 b := by cases b <;> rfl
theorem i32_sub0 (x : Int32) : x - 0 = x := by simp
theorem i32_add0 (x : Int32) : x + 0 = x := by simp
/-! the model's pure words -/
def m_und (r : St) (n : Nat) (s : Int32) : Nat := ct (isU (r 1) (r 4) s) n
def m_h (r : St) (n : Nat) (s : Int32) : Nat := sel (isU (r 1) (r 4) s) (m_q (r 0 1) (m_und r n s)) n
def m_d1 (r : St) (n : Nat) (s : Int32) (inst : Int32) : St := up (up (up (up r 0 1 (m_ch (r 0 1))) 4 (m_h r n s) 119) 5 (m_h r n s) (r 0 5 + 1)) 14 (m_h r n s) inst
theorem m_d1_chance {r : St} {n : Nat} {s inst : Int32} (hc : ∃ k, k < 65536 ∧ r 0 1 = nI k) : ∃ k, k < 65536 ∧ m_d1 r n s inst 0 1 = nI k := by
  obtain ⟨k, hk, e⟩ := hc
  obtain ⟨d, hd, e2⟩ := m_ch_ok hk
  exact ⟨d, hd, by rw [← e2, ← e]; rfl⟩
def m_dk (r : St) (n : Nat) (s : Int32) : Nat → St
  | 0 => r
  | k + 1 => m_d1 (m_dk r n s k) n s 0
theorem m_dk_chance {r : St} {n : Nat} {s : Int32} (hc : ∃ k, k < 65536 ∧ r 0 1 = nI k) : ∀ k, ∃ q, q < 65536 ∧ m_dk r n s k 0 1 = nI q
  | 0 => hc
  | k + 1 => m_d1_chance (m_dk_chance hc k)
theorem m_dk_sc {r : St} {n : Nat} {s : Int32} : ∀ k i, i ≠ 1 → m_dk r n s k 0 i = r 0 i
  | 0, _, _ => rfl
  | k + 1, i, h => by
    show up (m_dk r n s k) 0 1 _ 0 i = _
    rw [up_off h]
    exact m_dk_sc k i h
theorem m_dk_row {r : St} {n : Nat} {s : Int32} : ∀ k q, q ≠ 0 → q ≠ 4 → q ≠ 5 → q ≠ 14 → m_dk r n s k q = r q
  | 0, _, _, _, _, _ => rfl
  | k + 1, q, h0, h4, h5, h14 => by
    show up (up (up (up (m_dk r n s k) 0 1 _) 4 _ _) 5 _ _) 14 _ _ q = _
    rw [up_row h14, up_row h5, up_row h4, up_row h0]
    exact m_dk_row k q h0 h4 h5 h14
theorem ct_less {p q : Nat → Bool} {h : Nat} : ∀ {n : Nat}, h < n → p h = true → q h = false → (∀ j, j ≠ h → q j = p j) → ct q n + 1 = ct p n
  | 0, hh, _, _, _ => absurd hh (Nat.not_lt_zero _)
  | n + 1, hh, hp, hq, ho => by
    rw [ct_s, ct_s]
    by_cases e : n = h
    · subst e
      rw [hp, hq, ct_cong (fun j hj => ho j (by omega))]
      simp
    · have ih := ct_less (n := n) (by omega) hp hq ho
      rw [ho n e]
      omega
theorem m_und_d1 {r : St} {n : Nat} {s inst : Int32} (hc : ∃ k, k < 65536 ∧ r 0 1 = nI k) (hn : n ≤ 24) (hu : 0 < m_und r n s) : m_und (m_d1 r n s inst) n s + 1 = m_und r n s := by
  have hu2 := ct_le (isU (r 1) (r 4) s) n
  obtain ⟨h1, -⟩ := m_q_ok (u := m_und r n s) hc hu (by unfold m_und; omega)
  obtain ⟨a, b, -⟩ := sel_ok (isU (r 1) (r 4) s) (m_q (r 0 1) (m_und r n s)) n h1
  refine ct_less (p := isU (r 1) (r 4) s) (h := m_h r n s) a b ?_ (fun j hj => ?_)
  · have : m_d1 r n s inst 4 (m_h r n s) = 119 := up_at (c := up r 0 1 _) (k := 4)
    simp [isU, this]
  · have : m_d1 r n s inst 4 j = r 4 j := up_off (c := up r 0 1 _) (k := 4) hj
    simp only [isU, this]
    rfl
theorem m_und_dk {r : St} {n : Nat} {s : Int32} (hc : ∃ k, k < 65536 ∧ r 0 1 = nI k) (hn : n ≤ 24) : ∀ k, k ≤ m_und r n s → m_und (m_dk r n s k) n s + k = m_und r n s
  | 0, _ => rfl
  | k + 1, h => by
    have ih := m_und_dk (s := s) hc hn k (by omega)
    have := m_und_d1 (inst := 0) (m_dk_chance hc k) hn (show 0 < m_und (m_dk r n s k) n s by omega)
    show m_und (m_d1 (m_dk r n s k) n s 0) n s + (k + 1) = _
    omega
def m_last (r : St) (n : Nat) (s : Int32) : Nat → Int32
  | 0 => -1
  | k + 1 => nI (m_h (m_dk r n s k) n s)
theorem up_twice {c : St} {k i : Nat} {v w : Int32} : up (up c k i v) k i w = up c k i w := by
  funext k' j
  simp only [up_app]
  split <;> simp_all
theorem up_twice_mw {cA : Nat → ClassId} {ad : Nat → Nat} {c : St} {k i : Nat} {v w : Int32} : mw cA ad (up (up c k i v) k i w) = mw cA ad (up c k i w) := by rw [up_twice]
theorem b2_nr (b : Bool) : narrow .boolean (.int (b2 b)) = .int (b2 b) := by cases b <;> rfl
theorem b2d0 {p : Prop} [Decidable p] (h : b2 (decide p) = 0) : ¬ p := fun hp => by rw [decide_eq_true hp] at h; exact absurd h (by decide)
theorem b2d1 {p : Prop} [Decidable p] (h : ¬ b2 (decide p) = 0) : p := Decidable.byContradiction fun hp => by rw [decide_eq_false hp] at h; exact h rfl
/-- 1000 for each house of the group that was drawn, but not to replace -/
def m_gl (g stt rep : Nat → Int32) (k : Int32) : Nat → Int32
  | 0 => 0
  | j + 1 => m_gl g stt rep k j + (if g j = k ∧ ¬ stt j = 117 ∧ rep j = 0 then 1000 else 0)
def m_addH (r : St) (n : Nat) (s pl lg : Int32) : St := up (up (up (up (up (up (up r 0 0 0) 1 n s) 2 n pl) 3 n lg) 4 n 117) 18 n (-1)) 0 3 (nI (n + 1))
def m_addI (r : St) (n : Nat) (ho lg mi : Int32) : St := up (up (up (up (up r 0 0 0) 22 n ho) 23 n lg) 24 n mi) 0 4 (nI (n + 1))
