/-! the groups one behind another -/
def n_st (mem : Nat → Bool) (W : Nat → Nat) (T n : Nat) : Nat → Nat := fun j => if j < n ∧ mem j = true then n_fit mem W T n j else W j
def n_g (M : Nat → Nat → Bool) (T : Nat → Nat) (n : Nat) (W : Nat → Nat) : Nat → (Nat → Nat)
  | 0 => W
  | k + 1 => if ct (M k) n = 0 then n_g M T n W k else n_st (M k) (n_g M T n W k) (T k) n
theorem n_st_ok {mem : Nat → Bool} {w : Nat → Int32} {W : Nat → Nat} {n T : Nat} {an : Nat → Bool} (hn : n ≤ 24) (hm : ∀ j, mem j = true → an j = true) (hw : ∀ j, j < n → an j = true → w j = nI (W j) ∧ W j ≤ 24000) (hT : T ≤ 24000) (hc : ct mem n ≠ 0) :
    ∀ j, j < n → an j = true → fs_fit mem w (nI T) n j = nI (n_st mem W T n j) ∧ n_st mem W T n j ≤ 24000 := by
  obtain ⟨h1, h2, -⟩ := fit_n (W := W) hn (fun j hj h => (hw j hj (hm j h)).1) (fun j hj h => (hw j hj (hm j h)).2) hT hc
  intro j hj ha
  unfold n_st
  by_cases z : mem j = true
  · rw [if_pos ⟨hj, z⟩]; exact h1 j hj z
  · rw [if_neg (fun q => z q.2), h2 j (fun q => z q.2)]; exact hw j hj ha
/-- the class's groups -/
theorem cs_g_n {ans g t w : Nat → Int32} {M : Nat → Nat → Bool} {W T : Nat → Nat} {n : Nat} {an : Nat → Bool} (hn : n ≤ 24) (hm : ∀ k j, M k j = true → an j = true) (hM : ∀ k j, j < n → tmem ans g (nI k) j = M k j) (hw : ∀ j, j < n → an j = true → w j = nI (W j) ∧ W j ≤ 24000) :
    ∀ K, (∀ k, k < K → t k = nI (T k) ∧ T k ≤ 24000) → ∀ j, j < n → an j = true → cs_g ans g t n w K j = nI (n_g M T n W K j) ∧ n_g M T n W K j ≤ 24000
  | 0, _ => hw
  | k + 1, hT => by
    have ih := cs_g_n hn hm hM hw k (fun q hq => hT q (by omega))
    have ec : ct (tmem ans g (nI k)) n = ct (M k) n := ct_cong (hM k)
    obtain ⟨e1, e2⟩ := hT k (by omega)
    unfold n_g
    by_cases z : ct (M k) n = 0
    · rw [if_pos z, cs_g_f (by rw [ec]; omega)]
      exact ih
    · rw [if_neg z, cs_g_t (by rw [ec]; omega), e1]
      have hs : ¬ fs_sum (tmem ans g (nI k)) (cs_g ans g t n w k) n < 0 := by
        rw [fs_sum_cong (hM k), fs_sum_n (W := n_g M T n W k) (fun j hj h => (ih j hj (hm k j h)).1)]
        have hb : nS (M k) (n_g M T n W k) n ≤ n * 24000 := nS_le (fun j hj h => (ih j hj (hm k j h)).2)
        have : n * 24000 ≤ 24 * 24000 := Nat.mul_le_mul_right _ hn
        exact nI_pos (by omega)
      rw [cs_fit_fs hs (by rw [ec]; exact z), fs_fit_cong (hM k)]
      exact n_st_ok hn (hm k) ih e2 z
/-- the model's groups -/
theorem fs_g_n {mem : Nat → Nat → Bool} {gl : Nat → Int32} {f : Nat → (Nat → Int32)} {w : Nat → Int32} {M : Nat → Nat → Bool} {W T : Nat → Nat} {n : Nat} {an : Nat → Bool} (hf0 : f 0 = w) (hfs : ∀ k, f (k + 1) = fs_fit (mem k) (f k) (gl k) n) (hn : n ≤ 24) (hm : ∀ k j, M k j = true → an j = true) (hM : ∀ k j, j < n → mem k j = M k j) (hw : ∀ j, j < n → an j = true → w j = nI (W j) ∧ W j ≤ 24000) :
    ∀ K, (∀ k, k < K → gl k = nI (T k) ∧ T k ≤ 24000) → ∀ j, j < n → an j = true → f K j = nI (n_g M T n W K j) ∧ n_g M T n W K j ≤ 24000
  | 0, _ => by rw [hf0]; exact hw
  | k + 1, hT => by
    have ih := fs_g_n hf0 hfs hn hm hM hw k (fun q hq => hT q (by omega))
    obtain ⟨e1, e2⟩ := hT k (by omega)
    rw [hfs k, e1, fs_fit_cong (hM k)]
    unfold n_g
    by_cases z : ct (M k) n = 0
    · rw [if_pos z]
      intro j hj ha
      have : fs_fit (M k) (f k) (nI (T k)) n = f k := by unfold fs_fit; rw [if_pos z]
      rw [this]
      exact ih j hj ha
    · rw [if_neg z]
      exact n_st_ok hn (hm k) ih e2 z
theorem n_g_more {M : Nat → Nat → Bool} {T W : Nat → Nat} {n K : Nat} : ∀ d, (∀ k, K ≤ k → k < K + d → ct (M k) n = 0) → n_g M T n W (K + d) = n_g M T n W K
  | 0, _ => rfl
  | d + 1, h => by
    show n_g M T n W ((K + d) + 1) = _
    have ih := n_g_more (M := M) (T := T) (W := W) (n := n) (K := K) d (fun k h1 h2 => h k h1 (by omega))
    conv => lhs; unfold n_g
    rw [if_pos (h (K + d) (by omega) (by omega)), ih]
