/-! what the calls that ask answer -/
theorem n_wr_row {r r' : St} {n ns : Nat} (h1 : r' 1 = r 1) (h3 : r' 3 = r 3) (h4 : r' 4 = r 4) (h14 : r' 14 = r 14) : n_wr r' n ns = n_wr r n ns := by
  unfold n_wr
  rw [h1, h3, h4, h14]
theorem q_mw {r r' : St} {n ns j : Nat} (hn : n ≤ 24) (hj : j < n) (ha : r 4 j = 97) (h1 : r' 1 = r 1) (h3 : r' 3 = r 3) (h4 : r' 4 = r 4) (h14 : r' 14 = r 14) : m_wt r' n ns 7 j = nI (n_wr r n ns j) := by
  rw [mm_wt hn hj (by rw [h4]; exact ha), n_wr_row h1 h3 h4 h14]
theorem q_weight {c r : St} {n ni ns hs j : Nat} (H : Rel c r n ni ns hs) (hj : j < n) (ha : r 4 j = 97) : c 8 j = m_wt (up r 0 0 0) n ns 7 j := by
  rw [H.2.1 j hj ha, q_mw H.1.1.1.1.1 hj ha (up_row (by decide)) (up_row (by decide)) (up_row (by decide)) (up_row (by decide))]
theorem re_WW {c r : St} {n ni ns hs : Nat} {E : Nat → Ev} (H : Rel c r n ni ns hs) (hE : R_E c hs E) : WW (c_re 10 c E hs) 10 r n ns := by
  obtain ⟨⟨a1, a2⟩, a3, a4, a5⟩ := Rel0_WW H.1
  have ag := (hE.2.2 c hE.2.1).1
  have row : ∀ q, q < 10 → c_re 10 c E hs q = c q := fun q hq => c_re_row (by omega) hs
  refine ⟨⟨a1, a2⟩, fun j hj => ?_, fun k hk => ?_, fun k hk => ?_⟩
  · obtain ⟨b1, b2, b3, b4⟩ := a3 j hj
    rw [row 1 (by omega), row 2 (by omega)]
    exact ⟨b1, b2, ⟨fun q => b3.mp (fun w => q ((ag j (by omega)).1.mpr w)), fun q w => b3.mpr q ((ag j (by omega)).1.mp w)⟩, b4⟩
  · rw [row 3 (by omega)]; exact a4 k hk
  · rw [row 4 (by omega)]; exact a5 k hk
theorem q_anew {c r : St} {n ni ns hs j : Nat} {E : Nat → Ev} (H : Rel c r n ni ns hs) (hE : R_E c hs E) (hj : j < n) (ha : r 4 j = 97) : c_wa c E hs n 13 j = nI (n_wr r n ns j) := by
  unfold c_wa
  rw [upr_at]
  exact ww_wt (re_WW H hE) hj ha
theorem t_wa {c r : St} {n ni ns hs : Nat} {E : Nat → Ev} (H : Rel c r n ni ns hs) (hE : R_E c hs E) : Rel (c_wa c E hs n) r n ni ns hs :=
  Rel_c (fun q _ h => c_wa_row h) (c_wa_row (by omega)) (fun _ => by
    have := c_re_tk (b := 10) (c := c) (E := E) (n := hs) hE.2.1 (fun k hk => (hE.1 k hk).1) hs (Nat.le_refl _)
    refine tk_c (c := c_re 10 c E hs) ?_ this
    unfold c_wa
    rw [upr_row (by decide)]) (fun _ _ _ => rfl) (fun _ _ => rfl) H
theorem q_sum1 {c r : St} {n ni ns hs q : Nat} (H : Rel c r n ni ns hs) (hq : q < ns) (hc : 0 < ct (tmem (c 5) (c 1) (nI q)) n) : fs_sum (tmem (c 5) (c 1) (nI q)) (c 8) n = c 3 q := by
  have hw := Rel0_WW H.1
  have e : ct (tmem (c 5) (c 1) (nI q)) n = ct (gM (r 4) (r 1) q) n := ct_cong (fun j hj => WW_M1 hw hj)
  have h4 := hw.1.2
  rw [H.1.2.1 q (by omega)]
  exact ww_sum hw.1.1 h4 hq (by rw [← e]; omega) (fun j hj => WW_M1 hw hj) (fun j hj ha => H.2.1 j hj ha)
theorem q_isS {c r : St} {n ni ns hs : Nat} {E : Nat → Ev} (H : Rel c r n ni ns hs) (hE : R_E c hs E) : ∀ j, j < n → ¬ c 5 j = 0 → c 8 j = c_wa c E hs n 13 j := fun j hj h => by
  have ha := (H.1.1.2.1 j hj).2.2.1.mp h
  rw [q_anew H hE hj ha, H.2.1 j hj ha]
/-- sums -/
theorem q_lang {c r r' : St} {n ni ns hs g : Nat} (H : Rel c r n ni ns hs) (h1 : r' 1 = r 1) (h3 : r' 3 = r 3) (h4 : r' 4 = r 4) (h14 : r' 14 = r 14) : fs_sum (tmem (c 5) (c 2) (nI g)) (c 8) n = nI (nS (gM (r 4) (r 3) g) (n_wr r n ns) n) ∧ fs_sum (fs_mem (r 4) (r 3) (nI g)) (m_wt r' n ns 7) n = nI (nS (gM (r 4) (r 3) g) (n_wr r n ns) n) := by
  have hw := Rel0_WW H.1
  refine ⟨?_, ?_⟩
  · rw [fs_sum_cong (m2 := gM (r 4) (r 3) g) (fun j hj => WW_M3 hw hj)]
    exact fs_sum_n (fun j hj h => H.2.1 j hj (gM_t.mp h).1)
  · exact fs_sum_n (mem := gM (r 4) (r 3) g) (fun j hj h => q_mw hw.1.1 hj (gM_t.mp h).1 h1 h3 h4 h14)
def q_S (r : St) (n ns : Nat) : Nat := nS (fun j => decide (r 4 j = 97)) (n_wr r n ns) n
theorem q_S_le {r : St} {n ns : Nat} (hn : n ≤ 24) : q_S r n ns ≤ 576000 := by
  have h : q_S r n ns ≤ n * 24000 := nS_le (fun j hj h => n_wr_le hn hj (by simpa using h))
  have : n * 24000 ≤ 24 * 24000 := Nat.mul_le_mul_right _ hn
  omega
theorem nS_3 {st g : Nat → Int32} {w : Nat → Nat} : ∀ {n : Nat}, (∀ j, j < n → ∃ k, k < 3 ∧ g j = nI k) → nS (gM st g 0) w n + nS (gM st g 1) w n + nS (gM st g 2) w n = nS (fun j => decide (st j = 97)) w n
  | 0, _ => rfl
  | n + 1, h => by
    have ih := nS_3 (st := st) (w := w) (n := n) (fun j hj => h j (by omega))
    obtain ⟨k, hk, e⟩ := h n (by omega)
    by_cases z : st n = 97
    · rw [nS_t (mem := fun j => decide (st j = 97)) (by simp [z]), ← ih]
      have m : ∀ q, q < 3 → (gM st g q n = true ↔ q = k) := fun q hq => by
        rw [gM_t, e]
        refine ⟨fun y => ((nI_eq (by omega) (by omega)).mp y.2).symm, fun y => ⟨z, by rw [y]⟩⟩
      have cases3 : k = 0 ∨ k = 1 ∨ k = 2 := by omega
      rcases cases3 with rfl | rfl | rfl
      · rw [nS_t ((m 0 (by omega)).mpr rfl), nS_f (fun y => absurd ((m 1 (by omega)).mp y) (by decide)), nS_f (fun y => absurd ((m 2 (by omega)).mp y) (by decide))]; omega
      · rw [nS_t ((m 1 (by omega)).mpr rfl), nS_f (fun y => absurd ((m 0 (by omega)).mp y) (by decide)), nS_f (fun y => absurd ((m 2 (by omega)).mp y) (by decide))]; omega
      · rw [nS_t ((m 2 (by omega)).mpr rfl), nS_f (fun y => absurd ((m 0 (by omega)).mp y) (by decide)), nS_f (fun y => absurd ((m 1 (by omega)).mp y) (by decide))]; omega
    · have f : ∀ q, ¬ gM st g q n = true := fun q y => z (gM_t.mp y).1
      rw [nS_f (f 0), nS_f (f 1), nS_f (f 2), nS_f (mem := fun j => decide (st j = 97)) (by simp [z]), ih]
theorem q_all {c r : St} {n ni ns hs : Nat} (H : Rel c r n ni ns hs) : m_all r n ns = nI (q_S r n ns) := by
  have row : ∀ (r1 : St) q, q ≠ 0 → q ≠ 13 → up (m_weigh r1 n ns) 0 0 0 q = r1 q := fun r1 q a b => by
    rw [up_row a]; unfold m_weigh; rw [upr_row b]
  have row0 : ∀ q, q ≠ 0 → up r 0 0 0 q = r q := fun q a => up_row a
  have a0 : fs_sum (fs_mem (r 4) (r 3) 0) (m_wt (up r 0 0 0) n ns 7) n = nI (nS (gM (r 4) (r 3) 0) (n_wr r n ns) n) := (q_lang (r' := up r 0 0 0) (g := 0) H (up_row (by decide)) (up_row (by decide)) (up_row (by decide)) (up_row (by decide))).2
  have a1 : fs_sum (fs_mem (r 4) (r 3) 1) (m_wt (up (m_weigh (up r 0 0 0) n ns) 0 0 0) n ns 7) n = nI (nS (gM (r 4) (r 3) 1) (n_wr r n ns) n) := (q_lang (r' := up (m_weigh (up r 0 0 0) n ns) 0 0 0) (g := 1) H (by rw [row _ 1 (by decide) (by decide), row0 1 (by decide)]) (by rw [row _ 3 (by decide) (by decide), row0 3 (by decide)]) (by rw [row _ 4 (by decide) (by decide), row0 4 (by decide)]) (by rw [row _ 14 (by decide) (by decide), row0 14 (by decide)])).2
  have a2 : fs_sum (fs_mem (r 4) (r 3) 2) (m_wt (up (m_weigh (up (m_weigh (up r 0 0 0) n ns) 0 0 0) n ns) 0 0 0) n ns 7) n = nI (nS (gM (r 4) (r 3) 2) (n_wr r n ns) n) := (q_lang (r' := up (m_weigh (up (m_weigh (up r 0 0 0) n ns) 0 0 0) n ns) 0 0 0) (g := 2) H (by rw [row _ 1 (by decide) (by decide), row _ 1 (by decide) (by decide), row0 1 (by decide)]) (by rw [row _ 3 (by decide) (by decide), row _ 3 (by decide) (by decide), row0 3 (by decide)]) (by rw [row _ 4 (by decide) (by decide), row _ 4 (by decide) (by decide), row0 4 (by decide)]) (by rw [row _ 14 (by decide) (by decide), row _ 14 (by decide) (by decide), row0 14 (by decide)])).2
  unfold m_all
  rw [a0, a1, a2, nI_add, nI_add, nS_3 (fun j hj => (H.1.1.2.1 j hj).1.2.2.1)]
  rfl
theorem q_s64 {c r : St} {n ni ns hs : Nat} (H : Rel c r n ni ns hs) : c_s64 (c 8) n = lN (q_S r n ns) := by
  have hn := H.1.1.1.1.1
  have : ∀ m, m ≤ n → c_s64 (c 8) m = lN (nS (fun j => decide (r 4 j = 97)) (n_wr r n ns) m) := by
    intro m
    induction m with
    | zero => intro _; rfl
    | succ m ih =>
      intro hm
      show c_s64 (c 8) m + (c 8 m).toInt64 = _
      rw [ih (by omega)]
      by_cases z : r 4 m = 97
      · rw [nS_t (by simp [z]), H.2.1 m (by omega) z, nI_l (by have := n_wr_le (ns := ns) hn (show m < n by omega) z; omega), lN_add]
      · have h5 : c 5 m = 0 := Decidable.byContradiction fun q => z ((H.1.1.2.1 m (by omega)).2.2.1.mp q)
        rw [nS_f (by simp [z]), H.2.2 m (by omega) h5, show ((0 : Int32)).toInt64 = lN 0 from rfl, lN_add]
        rfl
  exact this n (Nat.le_refl _)
theorem q_w64 {c r r' : St} {n ni ns hs : Nat} (H : Rel c r n ni ns hs) (h1 : r' 1 = r 1) (h3 : r' 3 = r 3) (h4 : r' 4 = r 4) (h14 : r' 14 = r 14) : c_w64 (c 5) (c 6) (c 8) n = m_ws64 (r 4) (r 10) (m_wt r' n ns 7) n := by
  have hn := H.1.1.1.1.1
  have : ∀ m, m ≤ n → c_w64 (c 5) (c 6) (c 8) m = m_ws64 (r 4) (r 10) (m_wt r' n ns 7) m := by
    intro m
    induction m with
    | zero => intro _; rfl
    | succ m ih =>
      intro hm
      obtain ⟨b1, b2⟩ := (H.1.1.2.1 m (by omega)).2.2
      by_cases z : r 4 m = 97
      · obtain ⟨⟨e6, a, ha, e10⟩, -⟩ := b2 z
        have hle := n_wr_le (ns := ns) hn (show m < n by omega) z
        have hmul : a * n_wr r n ns m ≤ 10 * 24000 := Nat.mul_le_mul (by omega) hle
        rw [c_w64_t (b1.mpr z), m_ws64_t z, ih (by omega), e6, e10, H.2.1 m (by omega) z, q_mw hn (by omega) z h1 h3 h4 h14, pk_mul, nI_l (by omega), nI_l (by omega), nI_l (by omega), lN_mul]
      · have h5 : c 5 m = 0 := Decidable.byContradiction fun q => z (b1.mp q)
        rw [c_w64_f h5, m_ws64_f z, ih (by omega), i64_add0]
  exact this n (Nat.le_refl _)
theorem q_wsm {c r : St} {n ni ns hs : Nat} (H : Rel c r n ni ns hs) : c_w64 (c 5) (c 6) (c 8) n = m_wsm r n ns := by
  have row : ∀ (r1 : St) q, q ≠ 0 → q ≠ 13 → up (m_weigh r1 n ns) 0 0 0 q = r1 q := fun r1 q a b => by
    rw [up_row a]; unfold m_weigh; rw [upr_row b]
  have row0 : ∀ q, q ≠ 0 → up r 0 0 0 q = r q := fun q a => up_row a
  unfold m_wsm
  exact q_w64 H (by rw [row _ 1 (by decide) (by decide), row _ 1 (by decide) (by decide), row _ 1 (by decide) (by decide), row0 1 (by decide)]) (by rw [row _ 3 (by decide) (by decide), row _ 3 (by decide) (by decide), row _ 3 (by decide) (by decide), row0 3 (by decide)]) (by rw [row _ 4 (by decide) (by decide), row _ 4 (by decide) (by decide), row _ 4 (by decide) (by decide), row0 4 (by decide)]) (by rw [row _ 14 (by decide) (by decide), row _ 14 (by decide) (by decide), row _ 14 (by decide) (by decide), row0 14 (by decide)])
theorem q_mean {c r : St} {n ni ns hs : Nat} (H : Rel c r n ni ns hs) : (lg_cmp (c_s64 (c 8) n) 0 = 0 ↔ m_all r n ns = 0) ∧ FP.ddiv (FP.l2d (c_w64 (c 5) (c 6) (c 8) n)) (FP.l2d (c_s64 (c 8) n)) = FP.ddiv (FP.l2d (m_wsm r n ns)) (FP.i2d (m_all r n ns)) ∧ (¬ m_all r n ns = 0 → vf_n64 (FP.ddiv (FP.l2d (m_wsm r n ns)) (FP.i2d (m_all r n ns)))) := by
  have hle := q_S_le (r := r) (ns := ns) H.1.1.1.1.1
  have ei : (nI (q_S r n ns)).toInt64 = lN (q_S r n ns) := nI_l (by omega)
  have ez : (lN (q_S r n ns) = 0) ↔ q_S r n ns = 0 := lN_eq (b := 0) (by omega) (by omega)
  rw [q_s64 H, q_all H, q_wsm H, fp_il, ei]
  refine ⟨?_, rfl, fun h => fp_div (fun q => h (by rw [ez.mp q]; rfl))⟩
  rw [lg_cmp_eq]
  refine ⟨fun q => by rw [ez.mp q]; rfl, fun q => ?_⟩
  rw [(nI_eq (a := q_S r n ns) (b := 0) (by omega) (by omega)).mp q]; rfl
/-- counts -/
theorem q_ansTo {c r : St} {n ni ns hs i : Nat} (H : Rel c r n ni ns hs) : ct (fun j => decide (¬ c 5 j = 0) && decide (c 7 j = nI i)) n = ct (fun h => decide (r 4 h = 97) && decide (r 11 h = nI i)) n := ct_cong (fun j hj => by
  obtain ⟨b1, b2⟩ := (H.1.1.2.1 j hj).2.2
  by_cases z : r 4 j = 97
  · rw [decide_eq_true (b1.mpr z), decide_eq_true z, (b2 z).2.1]
  · rw [decide_eq_false (fun q => z (b1.mp q)), decide_eq_false z]; rfl)
theorem q_c97 {c r : St} {n ni ns hs : Nat} (H : Rel c r n ni ns hs) : ct (fun h => decide (c 21 h = 97)) n = ct (fun h => decide (r 4 h = 97)) n := ct_cong (fun j hj => by simp only [(H.1.1.2.1 j hj).2.1.1.1])
theorem q_cue {c r : St} {n ni ns hs : Nat} (H : Rel c r n ni ns hs) : ct (fun h => decide (¬ c 21 h = 117) && decide (¬ c 21 h = 101)) n = ct (fun h => decide (¬ r 4 h = 117) && decide (¬ r 4 h = 101)) n := ct_cong (fun j hj => by simp only [(H.1.1.2.1 j hj).2.1.1.1])
theorem fp_n32 {x : UInt32} (h : Jvm.FP.Core.fIsNaN x = false) : vf_n32 x := by
  have h2 : ¬ Jvm.FP.Core.fIsNaN x = true := by rw [h]; decide
  have h3 : ¬ 2139095040 < x.toNat % 2 ^ 31 := fun q => h2 ((Jvm.FP.Core.isNaN_bits32 x).mpr q)
  unfold vf_n32
  rw [UInt32.le_iff_toNat_le, UInt32.toNat_and, show (0x7fffffff : UInt32).toNat = 2 ^ 31 - 1 by decide, show (0x7f800000 : UInt32).toNat = 2139095040 by decide, Nat.and_two_pow_sub_one_eq_mod]
  exact Nat.le_of_not_lt h3
theorem fp_fdiv {a b : Int32} (hb : ¬ b = 0) : vf_n32 (FP.fdiv (FP.i2f a) (FP.i2f b)) :=
  fp_n32 (Jvm.FP.Core.fdiv_out (Jvm.FP.Core.i2f_fin a).notNaN (Jvm.FP.Core.i2f_fin b) (fun h => Jvm.FP.Core.i2f_ne_zero hb ((Jvm.FP.Core.zero_bits232 _).mp h)))
theorem q_nc {x : Int32} (h : isSt x) : narrow .char (.int x) = .int x ∧ ((x.toUInt32 % 65536).toInt32 = x) := by
  rcases h with rfl | rfl | rfl | rfl | rfl | rfl <;> exact ⟨rfl, by decide⟩
