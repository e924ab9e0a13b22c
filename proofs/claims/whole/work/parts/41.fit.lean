/-! one group's fit -/
def n_v (mem : Nat → Bool) (W : Nat → Nat) (T n : Nat) : Nat → Nat := fun j => n_nw (nS mem W n) T (ct mem n) (W j)
def n_fit (mem : Nat → Bool) (W : Nat → Nat) (T n : Nat) : Nat → Nat := fun j => if ct mem j < T - nS mem (n_v mem W T n) n then n_v mem W T n j + 1 else n_v mem W T n j
theorem fit_n {mem : Nat → Bool} {w : Nat → Int32} {W : Nat → Nat} {n T : Nat} (hn : n ≤ 24) (hw : ∀ j, j < n → mem j = true → w j = nI (W j)) (hW : ∀ j, j < n → mem j = true → W j ≤ 24000) (hT : T ≤ 24000) (hc : ct mem n ≠ 0) :
    (∀ j, j < n → mem j = true → fs_fit mem w (nI T) n j = nI (n_fit mem W T n j) ∧ n_fit mem W T n j ≤ 24000) ∧ (∀ j, ¬ (j < n ∧ mem j = true) → fs_fit mem w (nI T) n j = w j) ∧ nS mem (n_fit mem W T n) n = T := by
  have hct := ct_le mem n
  obtain ⟨S, hS⟩ : ∃ S, S = nS mem W n := ⟨_, rfl⟩
  have hS1 : S ≤ n * 24000 := hS ▸ nS_le hW
  have hS2 : S < 2 ^ 31 := by
    have : n * 24000 ≤ 24 * 24000 := Nat.mul_le_mul_right _ hn
    omega
  have hsum : fs_sum mem w n = nI S := hS ▸ fs_sum_n hw
  obtain ⟨V, hV⟩ : ∃ V : Nat → Nat, V = fun j => n_nw S T (ct mem n) (W j) := ⟨_, rfl⟩
  have hVn : n_v mem W T n = V := by rw [hV, hS]; rfl
  have hRn : n_fit mem W T n = fun j => if ct mem j < T - nS mem V n then V j + 1 else V j := by unfold n_fit; rw [hVn]
  rw [hRn]
  have hnw : ∀ j, j < n → mem j = true → fs_nw (nI S) (nI T) (ct mem n) (w j) = nI (V j) := fun j hj hm => by
    rw [hw j hj hm, hV]
    have h1 := hW j hj hm
    have h2 : W j * T ≤ 24000 * 24000 := Nat.mul_le_mul h1 hT
    exact fs_nw_n hS2 (by omega) (by omega) (by omega) (by omega)
  have key : nS mem V n ≤ T ∧ T - nS mem V n ≤ ct mem n := by
    by_cases z : S = 0
    · have e : nS mem V n = ct mem n * (T / ct mem n) := nS_const (fun j _ _ => by rw [hV]; show n_nw S T _ _ = _; unfold n_nw; rw [if_pos z])
      have h1 := Nat.div_add_mod T (ct mem n)
      have h2 := Nat.mod_lt T (show ct mem n > 0 by omega)
      rw [e]
      omega
    · have a1 : nS mem V n * S ≤ nS mem W n * T := nS_mul (fun j _ _ => by rw [hV]; show n_nw S T _ _ * S ≤ _; unfold n_nw; rw [if_neg z]; exact Nat.div_mul_le_self _ _)
      have a2 : nS mem W n * T + ct mem n ≤ nS mem V n * S + ct mem n * S := nS_mul2 (fun j _ _ => by
        rw [hV]; show _ < n_nw S T _ _ * S + S; unfold n_nw; rw [if_neg z]
        have h1 := Nat.div_add_mod (W j * T) S
        have h2 := Nat.mod_lt (W j * T) (show S > 0 by omega)
        rw [Nat.mul_comm] at h1
        omega)
      rw [← hS] at a1 a2
      have b1 : nS mem V n ≤ T := Nat.le_of_mul_le_mul_right (by rw [Nat.mul_comm T S]; exact a1) (show 0 < S by omega)
      have b2 : T < nS mem V n + ct mem n := by
        refine Nat.lt_of_mul_lt_mul_right (a := S) ?_
        rw [Nat.add_mul, Nat.mul_comm T S]
        omega
      omega
  obtain ⟨k1, k2⟩ := key
  have hms := fs_ms_n (T := T) hnw k1
  obtain ⟨-, h2⟩ := fs_w2_n (mem := mem) (w := fs_w1 mem w (fs_nw (nI S) (nI T) (ct mem n)) n) (M := T - nS mem V n) (by omega) (n := n)
  have hfit : ∀ j, fs_fit mem w (nI T) n j = if j < n ∧ mem j = true ∧ ct mem j < T - nS mem V n then fs_w1 mem w (fs_nw (nI S) (nI T) (ct mem n)) n j + 1 else fs_w1 mem w (fs_nw (nI S) (nI T) (ct mem n)) n j := fun j => by
    unfold fs_fit
    rw [if_neg hc, hsum, hms]
    exact h2 j
  obtain ⟨R, hR⟩ : ∃ R : Nat → Nat, R = fun j => if ct mem j < T - nS mem V n then V j + 1 else V j := ⟨_, rfl⟩
  have hRs : nS mem R n = T := by
    rw [nS_add (V := V) (M := T - nS mem V n) (fun j _ _ => by rw [hR]), Nat.min_eq_right k2]
    omega
  rw [← hR]
  refine ⟨fun j hj hm => ⟨?_, ?_⟩, fun j hj => ?_, hRs⟩
  · have e1 : fs_w1 mem w (fs_nw (nI S) (nI T) (ct mem n)) n j = nI (V j) := by
      rw [fs_w1_at, if_pos ⟨hj, hm⟩, hnw j hj hm]
    rw [hfit, e1, hR]
    by_cases z : ct mem j < T - nS mem V n
    · rw [if_pos ⟨hj, hm, z⟩, nI_1]
      show _ = nI (if _ then _ else _)
      rw [if_pos z]
    · rw [if_neg (fun q => z q.2.2)]
      show _ = nI (if _ then _ else _)
      rw [if_neg z]
  · have := nS_one (w := R) hj hm
    omega
  · have e1 : fs_w1 mem w (fs_nw (nI S) (nI T) (ct mem n)) n j = w j := by
      rw [fs_w1_at, if_neg hj]
    rw [hfit, if_neg (fun q => hj ⟨q.1, q.2.1⟩), e1]
theorem fs_sum_cong {m1 m2 : Nat → Bool} {w : Nat → Int32} : ∀ {n : Nat}, (∀ j, j < n → m1 j = m2 j) → fs_sum m1 w n = fs_sum m2 w n
  | 0, _ => rfl
  | n + 1, h => by
    have ih := fs_sum_cong (w := w) (n := n) (fun j hj => h j (by omega))
    have e := h n (by omega)
    cases z : m1 n with
    | true => rw [fs_sum_t z, fs_sum_t (e ▸ z), ih]
    | false => rw [fs_sum_f z, fs_sum_f (e ▸ z), ih]
theorem fs_w1_cong {m1 m2 : Nat → Bool} {w : Nat → Int32} {nw : Int32 → Int32} {n : Nat} (h : ∀ j, j < n → m1 j = m2 j) : fs_w1 m1 w nw n = fs_w1 m2 w nw n := by
  funext j
  rw [fs_w1_at, fs_w1_at]
  by_cases z : j < n
  · rw [h j z]
  · rw [if_neg (fun q => z q.1), if_neg (fun q => z q.1)]
theorem fs_ms_cong {m1 m2 : Nat → Bool} {w : Nat → Int32} {nw : Int32 → Int32} {g : Int32} : ∀ {n : Nat}, (∀ j, j < n → m1 j = m2 j) → fs_ms m1 w nw g n = fs_ms m2 w nw g n
  | 0, _ => rfl
  | n + 1, h => by
    have ih := fs_ms_cong (w := w) (nw := nw) (g := g) (n := n) (fun j hj => h j (by omega))
    have e := h n (by omega)
    cases z : m1 n with
    | true => rw [fs_ms_t z, fs_ms_t (e ▸ z), ih]
    | false => rw [fs_ms_f z, fs_ms_f (e ▸ z), ih]
theorem fs_w2_cong {m1 m2 : Nat → Bool} {w : Nat → Int32} {m : Int32} : ∀ {n : Nat}, (∀ j, j < n → m1 j = m2 j) → fs_w2 m1 w m n = fs_w2 m2 w m n
  | 0, _ => rfl
  | n + 1, h => by
    have ih := fs_w2_cong (w := w) (m := m) (n := n) (fun j hj => h j (by omega))
    have e := h n (by omega)
    unfold fs_w2
    rw [ih, e]
theorem fs_fit_cong {m1 m2 : Nat → Bool} {w : Nat → Int32} {g : Int32} {n : Nat} (h : ∀ j, j < n → m1 j = m2 j) : fs_fit m1 w g n = fs_fit m2 w g n := by
  unfold fs_fit
  rw [ct_cong h, fs_sum_cong h, fs_w1_cong h, fs_ms_cong h]
  split
  · rfl
  · rw [fs_w2_cong h]
