/-! one group's fit -/
theorem fit_n {mem : Nat → Bool} {w : Nat → Int32} {W : Nat → Nat} {n T : Nat} (hn : n ≤ 24) (hw : ∀ j, j < n → mem j = true → w j = nI (W j)) (hW : ∀ j, j < n → mem j = true → W j ≤ 24000) (hT : T ≤ 24000) (hc : ct mem n ≠ 0) :
    ∃ R : Nat → Nat, (∀ j, j < n → mem j = true → fs_fit mem w (nI T) n j = nI (R j) ∧ R j ≤ 24000) ∧ (∀ j, ¬ (j < n ∧ mem j = true) → fs_fit mem w (nI T) n j = w j) ∧ nS mem R n = T := by
  have hct := ct_le mem n
  obtain ⟨S, hS⟩ : ∃ S, S = nS mem W n := ⟨_, rfl⟩
  have hS1 : S ≤ n * 24000 := hS ▸ nS_le hW
  have hS2 : S < 2 ^ 31 := by
    have : n * 24000 ≤ 24 * 24000 := Nat.mul_le_mul_right _ hn
    omega
  have hsum : fs_sum mem w n = nI S := hS ▸ fs_sum_n hw
  obtain ⟨V, hV⟩ : ∃ V : Nat → Nat, V = fun j => n_nw S T (ct mem n) (W j) := ⟨_, rfl⟩
  have hnw : ∀ j, j < n → mem j = true → fs_nw (nI S) (nI T) (ct mem n) (w j) = nI (V j) := fun j hj hm => by
    rw [hw j hj hm, hV]
    have h1 := hW j hj hm
    have h2 : W j * T ≤ 24000 * 24000 := Nat.mul_le_mul h1 hT
    exact fs_nw_n hS2 (by omega) (by omega) (by omega) (by omega)
  have key : nS mem V n ≤ T ∧ T - nS mem V n ≤ ct mem n := by
    by_cases z : S = 0
    · have e : nS mem V n = ct mem n * (T / ct mem n) := nS_const (fun j _ _ => by rw [hV]; show n_nw S T _ _ = _; unfold n_nw; rw [if_pos z])
      have h1 := Nat.div_add_mod T (ct mem n)
      have h2 := Nat.mod_lt T (show ct mem n > 0 by omega)
      rw [e]
      omega
    · have a1 : nS mem V n * S ≤ nS mem W n * T := nS_mul (fun j _ _ => by rw [hV]; show n_nw S T _ _ * S ≤ _; unfold n_nw; rw [if_neg z]; exact Nat.div_mul_le_self _ _)
      have a2 : nS mem W n * T + ct mem n ≤ nS mem V n * S + ct mem n * S := nS_mul2 (fun j _ _ => by
        rw [hV]; show _ < n_nw S T _ _ * S + S; unfold n_nw; rw [if_neg z]
        have h1 := Nat.div_add_mod (W j * T) S
        have h2 := Nat.mod_lt (W j * T) (show S > 0 by omega)
        rw [Nat.mul_comm] at h1
        omega)
      rw [← hS] at a1 a2
      have b1 : nS mem V n ≤ T := Nat.le_of_mul_le_mul_right (by rw [Nat.mul_comm T S]; exact a1) (show 0 < S by omega)
      have b2 : T < nS mem V n + ct mem n := by
        refine Nat.lt_of_mul_lt_mul_right (a := S) ?_
        rw [Nat.add_mul, Nat.mul_comm T S]
        omega
      omega
  obtain ⟨k1, k2⟩ := key
  have hms := fs_ms_n (T := T) hnw k1
  obtain ⟨-, h2⟩ := fs_w2_n (mem := mem) (w := fs_w1 mem w (fs_nw (nI S) (nI T) (ct mem n)) n) (M := T - nS mem V n) (by omega) (n := n)
  have hfit : ∀ j, fs_fit mem w (nI T) n j = if j < n ∧ mem j = true ∧ ct mem j < T - nS mem V n then fs_w1 mem w (fs_nw (nI S) (nI T) (ct mem n)) n j + 1 else fs_w1 mem w (fs_nw (nI S) (nI T) (ct mem n)) n j := fun j => by
    unfold fs_fit
    rw [if_neg hc, hsum, hms]
    exact h2 j
  obtain ⟨R, hR⟩ : ∃ R : Nat → Nat, R = fun j => if ct mem j < T - nS mem V n then V j + 1 else V j := ⟨_, rfl⟩
  have hRs : nS mem R n = T := by
    rw [nS_add (V := V) (M := T - nS mem V n) (fun j _ _ => by rw [hR]), Nat.min_eq_right k2]
    omega
  refine ⟨R, fun j hj hm => ⟨?_, ?_⟩, fun j hj => ?_, hRs⟩
  · have e1 : fs_w1 mem w (fs_nw (nI S) (nI T) (ct mem n)) n j = nI (V j) := by
      rw [fs_w1_at, if_pos ⟨hj, hm⟩, hnw j hj hm]
    rw [hfit, e1, hR]
    by_cases z : ct mem j < T - nS mem V n
    · rw [if_pos ⟨hj, hm, z⟩, nI_1]
      show _ = nI (if _ then _ else _)
      rw [if_pos z]
    · rw [if_neg (fun q => z q.2.2)]
      show _ = nI (if _ then _ else _)
      rw [if_neg z]
  · have := nS_one (w := R) hj hm
    omega
  · have e1 : fs_w1 mem w (fs_nw (nI S) (nI T) (ct mem n)) n j = w j := by
      rw [fs_w1_at, if_neg hj]
    rw [hfit, if_neg (fun q => hj ⟨q.1, q.2.1⟩), e1]
