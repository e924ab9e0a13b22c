/-! weights as natural numbers -/
def nS (mem : Nat → Bool) (w : Nat → Nat) : Nat → Nat
  | 0 => 0
  | j + 1 => nS mem w j + (if mem j = true then w j else 0)
theorem nS_t {mem : Nat → Bool} {w : Nat → Nat} {n : Nat} (h : mem n = true) : nS mem w (n + 1) = nS mem w n + w n := by
  show nS mem w n + _ = _
  rw [if_pos h]
theorem nS_f {mem : Nat → Bool} {w : Nat → Nat} {n : Nat} (h : ¬ mem n = true) : nS mem w (n + 1) = nS mem w n := by
  show nS mem w n + _ = _
  rw [if_neg h]; rfl
theorem nS_cong {mem : Nat → Bool} {w v : Nat → Nat} : ∀ {n : Nat}, (∀ j, j < n → mem j = true → w j = v j) → nS mem w n = nS mem v n
  | 0, _ => rfl
  | n + 1, h => by
    unfold nS
    rw [nS_cong (n := n) (fun j hj => h j (by omega))]
    by_cases z : mem n = true
    · rw [if_pos z, if_pos z, h n (by omega) z]
    · rw [if_neg z, if_neg z]
theorem nS_le {mem : Nat → Bool} {w : Nat → Nat} {B : Nat} : ∀ {n : Nat}, (∀ j, j < n → mem j = true → w j ≤ B) → nS mem w n ≤ n * B
  | 0, _ => by simp [nS]
  | n + 1, h => by
    have ih := nS_le (n := n) (fun j hj => h j (by omega))
    unfold nS
    rw [Nat.succ_mul]
    by_cases z : mem n = true
    · rw [if_pos z]; have := h n (by omega) z; omega
    · rw [if_neg z]; omega
theorem nS_one {mem : Nat → Bool} {w : Nat → Nat} {j : Nat} : ∀ {n : Nat}, j < n → mem j = true → w j ≤ nS mem w n
  | 0, h, _ => absurd h (Nat.not_lt_zero _)
  | n + 1, h, hm => by
    unfold nS
    by_cases e : j = n
    · subst e; rw [if_pos hm]; omega
    · have := nS_one (w := w) (n := n) (by omega) hm; omega
theorem fs_sum_n {mem : Nat → Bool} {w : Nat → Int32} {W : Nat → Nat} : ∀ {n : Nat}, (∀ j, j < n → mem j = true → w j = nI (W j)) → fs_sum mem w n = nI (nS mem W n)
  | 0, _ => rfl
  | n + 1, h => by
    have ih := fs_sum_n (n := n) (fun j hj => h j (by omega))
    by_cases z : mem n = true
    · rw [fs_sum_t z, ih, h n (by omega) z, nI_add, nS_t z]
    · have z2 : mem n = false := by simpa using z
      rw [fs_sum_f z2, ih, nS_f z]
def n_nw (S T many w : Nat) : Nat := if S = 0 then T / many else w * T / S
theorem fs_nw_n {S T many w : Nat} (hS : S < 2 ^ 31) (hw : w * T < 2 ^ 31) (hT : T < 2 ^ 31) (hm : 0 < many) (hm2 : many < 2 ^ 31) : fs_nw (nI S) (nI T) many (nI w) = nI (n_nw S T many w) := by
  unfold fs_nw n_nw
  by_cases z : S = 0
  · subst z
    rw [if_pos nI_0, if_pos rfl, pk_div hT hm hm2]
  · rw [if_neg (nI_ne0 (by omega) hS), if_neg z, pk_mul, pk_div hw (by omega) hS]
theorem cs_nw_fs {S T : Int32} {many : Nat} (h : ¬ S < 0) : cs_nw S T many = fs_nw S T many := by
  funext w
  unfold cs_nw fs_nw
  by_cases z : S = 0
  · subst z
    rw [if_neg (by decide), if_pos rfl, show (1 : Int32) * T = T by simp]
  · have h2 : 0 < S := by
      rcases nI_of h with ⟨j, hj, rfl⟩
      have : j ≠ 0 := fun e => z (by rw [e]; rfl)
      exact (nI_ltI (a := 0) (by omega) hj).mpr (by omega)
    rw [if_pos h2, if_neg z]
theorem cs_fit_fs {mem : Nat → Bool} {w : Nat → Int32} {T : Int32} {n : Nat} (h : ¬ fs_sum mem w n < 0) (hc : ct mem n ≠ 0) : cs_fit mem w T n = fs_fit mem w T n := by
  unfold cs_fit fs_fit
  rw [if_neg hc, cs_nw_fs h]
theorem fs_w1_at {mem : Nat → Bool} {w : Nat → Int32} {nw : Int32 → Int32} : ∀ {n j : Nat}, fs_w1 mem w nw n j = if j < n ∧ mem j = true then nw (w j) else w j
  | 0, j => by rw [if_neg (by omega)]; rfl
  | n + 1, j => by
    have ih := fs_w1_at (mem := mem) (w := w) (nw := nw) (n := n) (j := j)
    cases z : mem n with
    | true =>
      rw [fs_w1_t z]
      by_cases e : j = n
      · subst e; rw [if_pos ⟨by omega, z⟩]; exact if_pos rfl
      · rw [show upd (fs_w1 mem w nw n) n (nw (w n)) j = fs_w1 mem w nw n j from if_neg e, ih]
        by_cases y : j < n ∧ mem j = true
        · rw [if_pos y, if_pos ⟨by omega, y.2⟩]
        · rw [if_neg y, if_neg (fun q => y ⟨by omega, q.2⟩)]
    | false =>
      rw [fs_w1_f z, ih]
      by_cases y : j < n ∧ mem j = true
      · rw [if_pos y, if_pos ⟨by omega, y.2⟩]
      · rw [if_neg y, if_neg (fun q => by
          by_cases e : j = n
          · subst e; rw [z] at q; exact absurd q.2 (by decide)
          · exact y ⟨by omega, q.2⟩)]
theorem fs_ms_n {mem : Nat → Bool} {w : Nat → Int32} {nw : Int32 → Int32} {V : Nat → Nat} {T : Nat} : ∀ {n : Nat}, (∀ j, j < n → mem j = true → nw (w j) = nI (V j)) → nS mem V n ≤ T → fs_ms mem w nw (nI T) n = nI (T - nS mem V n)
  | 0, _, _ => rfl
  | n + 1, h, hT => by
    have hT2 : nS mem V n ≤ nS mem V (n + 1) := by
      show _ ≤ nS mem V n + _
      omega
    have ih := fs_ms_n (n := n) (T := T) (fun j hj => h j (by omega)) (by omega)
    by_cases z : mem n = true
    · have e : nS mem V (n + 1) = nS mem V n + V n := by
        show nS mem V n + _ = _
        rw [if_pos z]
      rw [fs_ms_t z, ih, h n (by omega) z, pk_sub (by omega), e]
      congr 1
      omega
    · have z2 : mem n = false := by simpa using z
      have e : nS mem V (n + 1) = nS mem V n := by
        show nS mem V n + _ = _
        rw [if_neg z]; rfl
      rw [fs_ms_f z2, ih, e]
theorem fs_w2_n {mem : Nat → Bool} {w : Nat → Int32} {M : Nat} (hM : M < 2 ^ 31) : ∀ {n : Nat}, (fs_w2 mem w (nI M) n).2 = nI (M - ct mem n) ∧ ∀ j, (fs_w2 mem w (nI M) n).1 j = if j < n ∧ mem j = true ∧ ct mem j < M then w j + 1 else w j
  | 0 => ⟨rfl, fun j => by rw [if_neg (by omega)]; rfl⟩
  | n + 1 => by
    obtain ⟨i1, i2⟩ := fs_w2_n (mem := mem) (w := w) hM (n := n)
    by_cases z : mem n = true
    · by_cases y : ct mem n < M
      · have y2 : 0 < (fs_w2 mem w (nI M) n).2 := by
          rw [i1]; exact (nI_ltI (a := 0) (by omega) (by omega)).mpr (by omega)
        rw [fs_w2_t z y2, ct_t z]
        refine ⟨?_, fun j => ?_⟩
        · show (fs_w2 mem w (nI M) n).2 + (-1) = _
          rw [i1, show M - ct mem n = (M - (ct mem n + 1)) + 1 by omega, pk_m1]
        · show upd _ n _ j = _
          by_cases e : j = n
          · subst e
            rw [if_pos ⟨by omega, z, y⟩, show upd (fs_w2 mem w (nI M) j).1 j ((fs_w2 mem w (nI M) j).1 j + 1) j = (fs_w2 mem w (nI M) j).1 j + 1 from if_pos rfl, i2 j, if_neg (by omega)]
          · rw [show upd (fs_w2 mem w (nI M) n).1 n ((fs_w2 mem w (nI M) n).1 n + 1) j = (fs_w2 mem w (nI M) n).1 j from if_neg e, i2 j]
            by_cases x : j < n ∧ mem j = true ∧ ct mem j < M
            · rw [if_pos x, if_pos ⟨by omega, x.2⟩]
            · rw [if_neg x, if_neg (fun q => x ⟨by omega, q.2⟩)]
      · have y2 : ¬ 0 < (fs_w2 mem w (nI M) n).2 := by
          rw [i1, show M - ct mem n = 0 by omega]; decide
        have e2 : fs_w2 mem w (nI M) (n + 1) = fs_w2 mem w (nI M) n := fs_w2_end y2 (by omega)
        rw [e2, ct_t z]
        refine ⟨by rw [i1]; congr 1; omega, fun j => ?_⟩
        rw [i2 j]
        by_cases x : j < n ∧ mem j = true ∧ ct mem j < M
        · rw [if_pos x, if_pos ⟨by omega, x.2⟩]
        · rw [if_neg x, if_neg (fun q => by
            by_cases e : j = n
            · subst e; exact y q.2.2
            · exact x ⟨by omega, q.2⟩)]
    · have z2 : mem n = false := by simpa using z
      rw [fs_w2_f z2, ct_f z2]
      refine ⟨i1, fun j => ?_⟩
      rw [i2 j]
      by_cases x : j < n ∧ mem j = true ∧ ct mem j < M
      · rw [if_pos x, if_pos ⟨by omega, x.2⟩]
      · rw [if_neg x, if_neg (fun q => by
          by_cases e : j = n
          · subst e; exact z q.2.1
          · exact x ⟨by omega, q.2⟩)]
/-- the sums of a fit -/
theorem nS_mul {mem : Nat → Bool} {W V : Nat → Nat} {S T : Nat} : ∀ {n : Nat}, (∀ j, j < n → mem j = true → V j * S ≤ W j * T) → nS mem V n * S ≤ nS mem W n * T
  | 0, _ => by simp [nS]
  | n + 1, h => by
    have ih := nS_mul (n := n) (fun j hj => h j (by omega))
    by_cases z : mem n = true
    · have h2 := h n (by omega) z
      rw [nS_t z, nS_t z, Nat.add_mul, Nat.add_mul]
      omega
    · rw [nS_f z, nS_f z]; exact ih
theorem nS_mul2 {mem : Nat → Bool} {W V : Nat → Nat} {S T : Nat} : ∀ {n : Nat}, (∀ j, j < n → mem j = true → W j * T < V j * S + S) → nS mem W n * T + ct mem n ≤ nS mem V n * S + ct mem n * S
  | 0, _ => by simp [nS, ct]
  | n + 1, h => by
    have ih := nS_mul2 (n := n) (fun j hj => h j (by omega))
    by_cases z : mem n = true
    · have h2 := h n (by omega) z
      rw [nS_t z, nS_t z, ct_t z, Nat.add_mul, Nat.add_mul, Nat.add_mul]
      omega
    · have z2 : mem n = false := by simpa using z
      rw [nS_f z, nS_f z, ct_f z2]; exact ih
theorem nS_add {mem : Nat → Bool} {V R : Nat → Nat} {M : Nat} : ∀ {n : Nat}, (∀ j, j < n → mem j = true → R j = if ct mem j < M then V j + 1 else V j) → nS mem R n = nS mem V n + min (ct mem n) M
  | 0, _ => by simp [nS, ct]
  | n + 1, h => by
    have ih := nS_add (n := n) (fun j hj => h j (by omega))
    by_cases z : mem n = true
    · rw [nS_t z, nS_t z, ct_t z, ih, h n (by omega) z]
      split <;> omega
    · have z2 : mem n = false := by simpa using z
      rw [nS_f z, nS_f z, ct_f z2]; exact ih
theorem nS_const {mem : Nat → Bool} {V : Nat → Nat} {k : Nat} : ∀ {n : Nat}, (∀ j, j < n → mem j = true → V j = k) → nS mem V n = ct mem n * k
  | 0, _ => by simp [nS, ct]
  | n + 1, h => by
    have ih := nS_const (n := n) (fun j hj => h j (by omega))
    by_cases z : mem n = true
    · rw [nS_t z, ct_t z, ih, h n (by omega) z, Nat.succ_mul]
    · have z2 : mem n = false := by simpa using z
      rw [nS_f z, ct_f z2]; exact ih
