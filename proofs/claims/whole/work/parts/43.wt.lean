/-! the weights of both sides: one function of the groups and their targets -/
def gM (st g : Nat → Int32) (k : Nat) : Nat → Bool := fs_mem st g (nI k)
def gT (g st rep : Nat → Int32) (n k : Nat) : Nat := 1000 * ct (fun j => decide (g j = nI k) && (decide (¬ st j = 117) && decide (rep j = 0))) n
theorem gT_le {g st rep : Nat → Int32} {n k : Nat} (hn : n ≤ 24) : gT g st rep n k ≤ 24000 := by
  have := ct_le (fun j => decide (g j = nI k) && (decide (¬ st j = 117) && decide (rep j = 0))) n
  unfold gT
  omega
theorem m_gl_n {g st rep : Nat → Int32} {k : Nat} : ∀ n, m_gl g st rep (nI k) n = nI (gT g st rep n k)
  | 0 => rfl
  | n + 1 => by
    have ih := m_gl_n (g := g) (st := st) (rep := rep) (k := k) n
    unfold m_gl
    rw [ih]
    unfold gT
    by_cases z : g n = nI k ∧ ¬ st n = 117 ∧ rep n = 0
    · rw [if_pos z, ct_t (by simp [z.1, z.2.1, z.2.2]), show (1000 : Int32) = nI 1000 from rfl, nI_add]
      congr 1
    · rw [if_neg z, ct_f (by
        simp only [Bool.and_eq_false_iff, decide_eq_false_iff_not]
        by_cases a : g n = nI k
        · by_cases b : ¬ st n = 117
          · exact Or.inr (Or.inr (fun q => z ⟨a, b, q⟩))
          · exact Or.inr (Or.inl b)
        · exact Or.inl a), i32_add0]
theorem gT_cong {g g' st st' rep rep' : Nat → Int32} {k : Nat} {n : Nat} (h : ∀ j, j < n → g' j = g j ∧ (st' j = 117 ↔ st j = 117) ∧ (¬ st j = 117 → rep' j = rep j)) : gT g' st' rep' n k = gT g st rep n k := by
  unfold gT
  congr 1
  refine ct_cong (fun j hj => ?_)
  obtain ⟨h1, h2, h3⟩ := h j hj
  simp only [h1]
  by_cases a : st j = 117
  · simp [a, h2.mpr a]
  · have a2 : ¬ st' j = 117 := fun q => a (h2.mp q)
    simp [a, a2, h3 a]
theorem gT_s {g st rep : Nat → Int32} {n k : Nat} (h : st n = 117) : gT g st rep (n + 1) k = gT g st rep n k := by
  unfold gT
  rw [ct_f (by simp [h])]
def n_tt (M1 M3 : Nat → Nat → Bool) (T1 T3 : Nat → Nat) (n ns : Nat) : Nat → (Nat → Nat)
  | 0 => fun _ => 1000
  | t + 1 => if t % 2 = 0 then n_g M1 T1 n (n_tt M1 M3 T1 T3 n ns t) ns else n_g M3 T3 n (n_tt M1 M3 T1 T3 n ns t) 3
theorem n_tt_0 {M1 M3 : Nat → Nat → Bool} {T1 T3 : Nat → Nat} {n ns t : Nat} (h : t % 2 = 0) : n_tt M1 M3 T1 T3 n ns (t + 1) = n_g M1 T1 n (n_tt M1 M3 T1 T3 n ns t) ns := by
  conv => lhs; unfold n_tt
  rw [if_pos h]
theorem n_tt_1 {M1 M3 : Nat → Nat → Bool} {T1 T3 : Nat → Nat} {n ns t : Nat} (h : ¬ t % 2 = 0) : n_tt M1 M3 T1 T3 n ns (t + 1) = n_g M3 T3 n (n_tt M1 M3 T1 T3 n ns t) 3 := by
  conv => lhs; unfold n_tt
  rw [if_neg h]
theorem n_fit_cong {m1 m2 : Nat → Bool} {W : Nat → Nat} {T n : Nat} (h : ∀ j, j < n → m1 j = m2 j) : ∀ j, j < n → n_fit m1 W T n j = n_fit m2 W T n j := by
  intro j hj
  have s1 : ∀ V : Nat → Nat, nS m1 V n = nS m2 V n := fun V => by
    have : ∀ q, q ≤ n → nS m1 V q = nS m2 V q := by
      intro q
      induction q with
      | zero => intro _; rfl
      | succ q ih => intro hq; unfold nS; rw [ih (by omega), h q (by omega)]
    exact this n (Nat.le_refl n)
  have s2 : n_v m1 W T n = n_v m2 W T n := by funext i; unfold n_v; rw [s1 W, ct_cong h]
  unfold n_fit
  rw [s2, s1, ct_cong (n := j) (fun i hi => h i (by omega))]
theorem n_st_cong {m1 m2 : Nat → Bool} {W : Nat → Nat} {T n : Nat} (h : ∀ j, j < n → m1 j = m2 j) : n_st m1 W T n = n_st m2 W T n := by
  funext j
  unfold n_st
  by_cases z : j < n
  · rw [h j z, n_fit_cong h j z]
  · rw [if_neg (fun q => z q.1), if_neg (fun q => z q.1)]
theorem n_g_cong {M M' : Nat → Nat → Bool} {T T' : Nat → Nat} {n : Nat} {W : Nat → Nat} (hM : ∀ k j, j < n → M' k j = M k j) (hT : ∀ k, T' k = T k) : ∀ K, n_g M' T' n W K = n_g M T n W K
  | 0 => rfl
  | K + 1 => by
    have ih := n_g_cong (W := W) hM hT K
    unfold n_g
    rw [ih, ct_cong (hM K), n_st_cong (hM K), hT K]
theorem n_tt_cong {M1 M3 M1' M3' : Nat → Nat → Bool} {T1 T3 T1' T3' : Nat → Nat} {n ns : Nat} (h1 : ∀ k j, j < n → M1' k j = M1 k j) (h3 : ∀ k j, j < n → M3' k j = M3 k j) (t1 : ∀ k, T1' k = T1 k) (t3 : ∀ k, T3' k = T3 k) : ∀ t, n_tt M1' M3' T1' T3' n ns t = n_tt M1 M3 T1 T3 n ns t
  | 0 => rfl
  | t + 1 => by
    have ih := n_tt_cong (ns := ns) h1 h3 t1 t3 t
    unfold n_tt
    rw [ih, n_g_cong h1 t1, n_g_cong h3 t3]
/-- a house more, which has not answered -/
theorem nS_s {mem : Nat → Bool} {w : Nat → Nat} {n : Nat} (h : mem n = false) : nS mem w (n + 1) = nS mem w n := nS_f (by rw [h]; decide)
theorem n_st_s {mem : Nat → Bool} {W : Nat → Nat} {T n : Nat} (h : mem n = false) : n_st mem W T (n + 1) = n_st mem W T n := by
  funext j
  have e : n_fit mem W T (n + 1) = n_fit mem W T n := by
    have e2 : n_v mem W T (n + 1) = n_v mem W T n := by funext i; unfold n_v; rw [nS_s h, ct_f h]
    funext i
    unfold n_fit
    rw [e2, nS_s h]
  unfold n_st
  rw [e]
  by_cases z : j < n
  · by_cases y : mem j = true
    · rw [if_pos ⟨by omega, y⟩, if_pos ⟨z, y⟩]
    · rw [if_neg (fun q => y q.2), if_neg (fun q => y q.2)]
  · rw [if_neg (fun q : j < n ∧ _ => z q.1), if_neg (fun q => by
      have : j = n := by omega
      rw [this, h] at q
      exact absurd q.2 (by decide))]
theorem n_g_s {M : Nat → Nat → Bool} {T : Nat → Nat} {n : Nat} {W : Nat → Nat} (h : ∀ k, M k n = false) : ∀ K, n_g M T (n + 1) W K = n_g M T n W K
  | 0 => rfl
  | K + 1 => by
    have ih := n_g_s (T := T) (W := W) h K
    unfold n_g
    rw [ih, ct_f (h K), n_st_s (h K)]
theorem n_tt_s {M1 M3 : Nat → Nat → Bool} {T1 T3 : Nat → Nat} {n ns : Nat} (h1 : ∀ k, M1 k n = false) (h3 : ∀ k, M3 k n = false) : ∀ t, n_tt M1 M3 T1 T3 (n + 1) ns t = n_tt M1 M3 T1 T3 n ns t
  | 0 => rfl
  | t + 1 => by
    have ih := n_tt_s (T1 := T1) (T3 := T3) (ns := ns) h1 h3 t
    unfold n_tt
    rw [ih, n_g_s h1, n_g_s h3]
/-- strata more, which are without houses -/
theorem n_tt_more {M1 M3 : Nat → Nat → Bool} {T1 T3 : Nat → Nat} {n ns d : Nat} (h : ∀ k, ns ≤ k → ct (M1 k) n = 0) : ∀ t, n_tt M1 M3 T1 T3 n (ns + d) t = n_tt M1 M3 T1 T3 n ns t
  | 0 => rfl
  | t + 1 => by
    have ih := n_tt_more (M3 := M3) (T1 := T1) (T3 := T3) (d := d) h t
    unfold n_tt
    rw [ih, n_g_more d (fun k hk _ => h k hk)]
/-- bounds and sums -/
theorem n_g_le {M : Nat → Nat → Bool} {T : Nat → Nat} {n : Nat} {W : Nat → Nat} {an : Nat → Bool} (hn : n ≤ 24) (hm : ∀ k j, M k j = true → an j = true) (hW : ∀ j, j < n → an j = true → W j ≤ 24000) (hT : ∀ k, T k ≤ 24000) : ∀ K j, j < n → an j = true → n_g M T n W K j ≤ 24000
  | 0 => hW
  | K + 1 => by
    have ih := n_g_le hn hm hW hT K
    intro j hj ha
    unfold n_g
    by_cases z : ct (M K) n = 0
    · rw [if_pos z]; exact ih j hj ha
    · rw [if_neg z]
      exact (n_st_ok (w := fun j => nI (n_g M T n W K j)) hn (hm K) (fun j hj ha => ⟨rfl, ih j hj ha⟩) (hT K) z j hj ha).2
theorem n_g_sum {M : Nat → Nat → Bool} {T : Nat → Nat} {n : Nat} {W : Nat → Nat} {an : Nat → Bool} (hn : n ≤ 24) (hm : ∀ k j, M k j = true → an j = true) (hW : ∀ j, j < n → an j = true → W j ≤ 24000) (hT : ∀ k, T k ≤ 24000) {q : Nat} (hd : ∀ k, k < 100 → ∀ j, M q j = true → M k j = true → q = k) (hq : ct (M q) n ≠ 0) : ∀ K, K ≤ 100 → q < K → nS (M q) (n_g M T n W K) n = T q
  | 0, _, h => absurd h (Nat.not_lt_zero _)
  | K + 1, hK, h => by
    have le := n_g_le hn hm hW hT K
    by_cases e : q = K
    · subst e
      unfold n_g
      rw [if_neg hq]
      have hs := (fit_n (w := fun j => nI (n_g M T n W q j)) (W := n_g M T n W q) hn (fun j _ _ => rfl) (fun j hj h => le j hj (hm q j h)) (hT q) hq).2.2
      rw [← hs]
      refine nS_cong (fun j hj hj2 => ?_)
      · unfold n_st
        rw [if_pos ⟨hj, hj2⟩, hs]
    · have ih := n_g_sum hn hm hW hT hd hq K (by omega) (by omega)
      unfold n_g
      by_cases z : ct (M K) n = 0
      · rw [if_pos z]; exact ih
      · rw [if_neg z, ← ih]
        refine nS_cong (fun j hj hj2 => ?_)
        unfold n_st
        rw [if_neg (fun y => e (hd K (by omega) j hj2 y.2))]
theorem gM_t {st g : Nat → Int32} {k j : Nat} : gM st g k j = true ↔ st j = 97 ∧ g j = nI k := by simp [gM, fs_mem]
theorem n_tt_le {st g1 g3 rep : Nat → Int32} {n ns : Nat} (hn : n ≤ 24) : ∀ t j, j < n → st j = 97 → n_tt (gM st g1) (gM st g3) (gT g1 st rep n) (gT g3 st rep n) n ns t j ≤ 24000
  | 0, _, _, _ => by unfold n_tt; omega
  | t + 1, j, hj, ha => by
    have ih := n_tt_le (st := st) (g1 := g1) (g3 := g3) (rep := rep) (ns := ns) hn t
    have hm : ∀ (g : Nat → Int32) k j, gM st g k j = true → decide (st j = 97) = true := fun g k j h => by simp [(gM_t.mp h).1]
    by_cases z : t % 2 = 0
    · rw [n_tt_0 z]; exact n_g_le (an := fun j => decide (st j = 97)) hn (hm g1) (fun j hj h => ih j hj (by simpa using h)) (fun k => gT_le hn) ns j hj (by simp [ha])
    · rw [n_tt_1 z]; exact n_g_le (an := fun j => decide (st j = 97)) hn (hm g3) (fun j hj h => ih j hj (by simpa using h)) (fun k => gT_le hn) 3 j hj (by simp [ha])
/-- the weights of a state of the model -/
def n_wr (r : St) (n ns : Nat) : Nat → Nat := n_tt (gM (r 4) (r 1)) (gM (r 4) (r 3)) (gT (r 1) (r 4) (r 14) n) (gT (r 3) (r 4) (r 14) n) n ns 7
theorem fs_w0_at {w : Nat → Int32} : ∀ {n j : Nat}, j < n → fs_w0 w n j = 1000
  | 0, _, h => absurd h (Nat.not_lt_zero _)
  | n + 1, j, h => by
    show upd (fs_w0 w n) n 1000 j = 1000
    by_cases e : j = n
    · subst e; exact if_pos rfl
    · rw [show upd (fs_w0 w n) n 1000 j = fs_w0 w n j from if_neg e]; exact fs_w0_at (by omega)
theorem m_wt_n {r : St} {n ns : Nat} (hn : n ≤ 24) : ∀ t j, j < n → decide (r 4 j = 97) = true → m_wt r n ns t j = nI (n_tt (gM (r 4) (r 1)) (gM (r 4) (r 3)) (gT (r 1) (r 4) (r 14) n) (gT (r 3) (r 4) (r 14) n) n ns t j) ∧ n_tt (gM (r 4) (r 1)) (gM (r 4) (r 3)) (gT (r 1) (r 4) (r 14) n) (gT (r 3) (r 4) (r 14) n) n ns t j ≤ 24000
  | 0, j, hj, _ => ⟨fs_w0_at hj, by unfold n_tt; omega⟩
  | t + 1, j, hj, ha => by
    have ih := m_wt_n (r := r) (ns := ns) hn t
    have hm : ∀ (g : Nat → Int32) k j, gM (r 4) g k j = true → decide (r 4 j = 97) = true := fun g k j h => by simp [(gM_t.mp h).1]
    by_cases z : t % 2 = 0
    · rw [n_tt_0 z, m_wt_0 z]
      exact fs_g_n (f := m_wk r n 1 (m_wt r n ns t)) (mem := fun k => fs_mem (r 4) (r 1) (nI k)) (gl := fun k => m_gl (r 1) (r 4) (r 14) (nI k) n) (an := fun j => decide (r 4 j = 97)) rfl (fun k => rfl) hn (hm (r 1)) (fun k j _ => rfl) ih ns (fun k _ => ⟨m_gl_n n, gT_le hn⟩) j hj ha
    · rw [n_tt_1 z, m_wt_1 z]
      exact fs_g_n (f := m_wk r n 3 (m_wt r n ns t)) (mem := fun k => fs_mem (r 4) (r 3) (nI k)) (gl := fun k => m_gl (r 3) (r 4) (r 14) (nI k) n) (an := fun j => decide (r 4 j = 97)) rfl (fun k => rfl) hn (hm (r 3)) (fun k j _ => rfl) ih 3 (fun k _ => ⟨m_gl_n n, gT_le hn⟩) j hj ha
theorem mm_wt {r : St} {n ns j : Nat} (hn : n ≤ 24) (hj : j < n) (ha : r 4 j = 97) : m_wt r n ns 7 j = nI (n_wr r n ns j) := (m_wt_n hn 7 j hj (by simp [ha])).1
theorem n_wr_le {r : St} {n ns j : Nat} (hn : n ≤ 24) (hj : j < n) (ha : r 4 j = 97) : n_wr r n ns j ≤ 24000 := n_tt_le hn 7 j hj ha
/-- what the class's weights stand on -/
def WW (c : St) (b : Nat) (r : St) (n ns : Nat) : Prop := (n ≤ 24 ∧ ns ≤ 4) ∧ (∀ j, j < n → c 1 j = r 1 j ∧ c 2 j = r 3 j ∧ (¬ c b j = 0 ↔ r 4 j = 97) ∧ ∃ s, s < ns ∧ r 1 j = nI s) ∧ (∀ k, k < 4 → c 3 k = nI (gT (r 1) (r 4) (r 14) n k)) ∧ (∀ k, k < 3 → c 4 k = nI (gT (r 3) (r 4) (r 14) n k))
theorem WW_M1 {c r : St} {b n ns k j : Nat} (h : WW c b r n ns) (hj : j < n) : tmem (c b) (c 1) (nI k) j = gM (r 4) (r 1) k j := by
  obtain ⟨h1, -, h3, -⟩ := h.2.1 j hj
  unfold tmem gM fs_mem
  rw [h1]
  by_cases z : r 4 j = 97
  · rw [decide_eq_true (h3.mpr z), decide_eq_true z]
  · rw [decide_eq_false (fun q => z (h3.mp q)), decide_eq_false z]
theorem WW_M3 {c r : St} {b n ns k j : Nat} (h : WW c b r n ns) (hj : j < n) : tmem (c b) (c 2) (nI k) j = gM (r 4) (r 3) k j := by
  obtain ⟨-, h1, h3, -⟩ := h.2.1 j hj
  unfold tmem gM fs_mem
  rw [h1]
  by_cases z : r 4 j = 97
  · rw [decide_eq_true (h3.mpr z), decide_eq_true z]
  · rw [decide_eq_false (fun q => z (h3.mp q)), decide_eq_false z]
theorem WW_e {c r : St} {b n ns k : Nat} (h : WW c b r n ns) (hk : ns ≤ k) (hk2 : k < 2 ^ 31) : ct (gM (r 4) (r 1) k) n = 0 := by
  have : ∀ m, m ≤ n → ct (gM (r 4) (r 1) k) m = 0 := by
    intro m
    induction m with
    | zero => intro _; rfl
    | succ m ih =>
      intro hm
      obtain ⟨-, -, -, s, hs, e⟩ := h.2.1 m (by omega)
      rw [ct_f, ih (by omega)]
      cases z : gM (r 4) (r 1) k m with
      | false => rfl
      | true =>
        have e2 := (gM_t.mp z).2
        rw [e] at e2
        have h4 := h.1.2
        have := (nI_eq (by omega) hk2).mp e2
        omega
  exact this n (Nat.le_refl n)
theorem cs_w0_at {ans w : Nat → Int32} : ∀ {n j : Nat}, j < n → cs_w0 ans w n j = if ans j = 0 then 0 else 1000
  | 0, _, h => absurd h (Nat.not_lt_zero _)
  | n + 1, j, h => by
    show upd (cs_w0 ans w n) n (if ans n = 0 then 0 else 1000) j = _
    by_cases e : j = n
    · subst e; exact if_pos rfl
    · rw [show upd (cs_w0 ans w n) n (if ans n = 0 then 0 else 1000) j = cs_w0 ans w n j from if_neg e]; exact cs_w0_at (by omega)
theorem n_g_4 {c r : St} {b n ns : Nat} (h : WW c b r n ns) {T W : Nat → Nat} : n_g (gM (r 4) (r 1)) T n W 4 = n_g (gM (r 4) (r 1)) T n W ns := by
  have h4 := h.1.2
  have := n_g_more (M := gM (r 4) (r 1)) (T := T) (W := W) (n := n) (K := ns) (4 - ns) (fun k h1 h2 => WW_e h h1 (by omega))
  rw [show ns + (4 - ns) = 4 by omega] at this
  exact this
theorem WW_hm {r : St} (g : Nat → Int32) : ∀ k j, gM (r 4) g k j = true → decide (r 4 j = 97) = true := fun k j h => by simp [(gM_t.mp h).1]
theorem cs_g1_n {c r : St} {b n ns : Nat} (h : WW c b r n ns) {w : Nat → Int32} {W : Nat → Nat} (hw : ∀ j, j < n → decide (r 4 j = 97) = true → w j = nI (W j) ∧ W j ≤ 24000) : ∀ j, j < n → decide (r 4 j = 97) = true → cs_g (c b) (c 1) (c 3) n w 4 j = nI (n_g (gM (r 4) (r 1)) (gT (r 1) (r 4) (r 14) n) n W ns j) ∧ n_g (gM (r 4) (r 1)) (gT (r 1) (r 4) (r 14) n) n W ns j ≤ 24000 := by
  rw [← n_g_4 h]
  exact cs_g_n (an := fun j => decide (r 4 j = 97)) h.1.1 (WW_hm (r 1)) (fun k j hj => WW_M1 h hj) hw 4 (fun k hk => ⟨h.2.2.1 k hk, gT_le h.1.1⟩)
theorem cs_g3_n {c r : St} {b n ns : Nat} (h : WW c b r n ns) {w : Nat → Int32} {W : Nat → Nat} (hw : ∀ j, j < n → decide (r 4 j = 97) = true → w j = nI (W j) ∧ W j ≤ 24000) : ∀ j, j < n → decide (r 4 j = 97) = true → cs_g (c b) (c 2) (c 4) n w 3 j = nI (n_g (gM (r 4) (r 3)) (gT (r 3) (r 4) (r 14) n) n W 3 j) ∧ n_g (gM (r 4) (r 3)) (gT (r 3) (r 4) (r 14) n) n W 3 j ≤ 24000 :=
  cs_g_n (an := fun j => decide (r 4 j = 97)) h.1.1 (WW_hm (r 3)) (fun k j hj => WW_M3 h hj) hw 3 (fun k hk => ⟨h.2.2.2 k hk, gT_le h.1.1⟩)
theorem cs_t_n {c r : St} {b n ns : Nat} (h : WW c b r n ns) : ∀ k j, j < n → decide (r 4 j = 97) = true → cs_t c b n k j = nI (n_tt (gM (r 4) (r 1)) (gM (r 4) (r 3)) (gT (r 1) (r 4) (r 14) n) (gT (r 3) (r 4) (r 14) n) n ns (2 * k) j) ∧ n_tt (gM (r 4) (r 1)) (gM (r 4) (r 3)) (gT (r 1) (r 4) (r 14) n) (gT (r 3) (r 4) (r 14) n) n ns (2 * k) j ≤ 24000
  | 0, j, hj, ha => by
    have hn := h.1.1
    have h3 := (h.2.1 j hj).2.2.1
    refine ⟨?_, by show n_tt _ _ _ _ n ns 0 j ≤ _; unfold n_tt; omega⟩
    show cs_w0 (c b) (c (b + 3)) 24 j = _
    rw [cs_w0_at (by omega), if_neg (h3.mpr (by simpa using ha))]
    rfl
  | k + 1, j, hj, ha => by
    have ih := cs_t_n h k
    show cs_g (c b) (c 2) (c 4) n (cs_g (c b) (c 1) (c 3) n (cs_t c b n k) 4) 3 j = _ ∧ _
    rw [show 2 * (k + 1) = 2 * k + 1 + 1 by omega, n_tt_1 (by omega), n_tt_0 (by omega)]
    exact cs_g3_n h (cs_g1_n h ih) j hj ha
theorem ww_wt {c r : St} {b n ns : Nat} (h : WW c b r n ns) {j : Nat} (hj : j < n) (ha : r 4 j = 97) : cs_wt c b n j = nI (n_wr r n ns j) := by
  unfold cs_wt n_wr
  rw [n_tt_0 (t := 6) (by omega)]
  exact (cs_g1_n h (cs_t_n h 3) j hj (by simp [ha])).1
theorem fs_w2_off {mem : Nat → Bool} {w : Nat → Int32} {m : Int32} {i : Nat} (hi : ¬ mem i = true) : ∀ n, (fs_w2 mem w m n).1 i = w i
  | 0 => rfl
  | n + 1 => by
    have ih := fs_w2_off (w := w) (m := m) hi n
    unfold fs_w2
    split
    · rename_i z
      show upd _ n _ i = _
      rw [show ∀ v, upd (fs_w2 mem w m n).1 n v i = (fs_w2 mem w m n).1 i from fun v => if_neg (fun e : i = n => hi (by rw [e]; exact z.1))]
      exact ih
    · exact ih
theorem cs_g_off {ans g t w : Nat → Int32} {n i : Nat} (hi : ans i = 0) : ∀ K, cs_g ans g t n w K i = w i
  | 0 => rfl
  | K + 1 => by
    have ih := cs_g_off (g := g) (t := t) (w := w) (n := n) hi K
    have hm : ¬ tmem ans g (nI K) i = true := by simp [tmem, hi]
    by_cases z : 0 < ct (tmem ans g (nI K)) n
    · rw [cs_g_t z]
      unfold cs_fit
      rw [fs_w2_off hm, fs_w1_at, if_neg (fun q => hm q.2)]
      exact ih
    · rw [cs_g_f z]; exact ih
theorem cs_t_off {c : St} {b n i : Nat} (h24 : i < 24) (hi : c b i = 0) : ∀ k, cs_t c b n k i = 0
  | 0 => by
    show cs_w0 (c b) (c (b + 3)) 24 i = 0
    rw [cs_w0_at h24, if_pos hi]
  | k + 1 => by
    show cs_g (c b) (c 2) (c 4) n (cs_g (c b) (c 1) (c 3) n (cs_t c b n k) 4) 3 i = 0
    rw [cs_g_off hi, cs_g_off hi]; exact cs_t_off h24 hi k
theorem cs_wt_off {c : St} {b n i : Nat} (h24 : i < 24) (hi : c b i = 0) : cs_wt c b n i = 0 := by
  unfold cs_wt
  rw [cs_g_off hi]; exact cs_t_off h24 hi 3
/-- the strata's sums -/
theorem ww_sum {r : St} {n ns : Nat} (hn : n ≤ 24) (h4 : ns ≤ 4) {q : Nat} (hq : q < ns) (hc : ct (gM (r 4) (r 1) q) n ≠ 0) {w : Nat → Int32} {mem : Nat → Bool} (hmem : ∀ j, j < n → mem j = gM (r 4) (r 1) q j) (hw : ∀ j, j < n → r 4 j = 97 → w j = nI (n_wr r n ns j)) : fs_sum mem w n = nI (gT (r 1) (r 4) (r 14) n q) := by
  have e : nS (gM (r 4) (r 1) q) (n_wr r n ns) n = gT (r 1) (r 4) (r 14) n q := by
    unfold n_wr
    rw [n_tt_0 (t := 6) (by omega)]
    refine n_g_sum (an := fun j => decide (r 4 j = 97)) hn (WW_hm (r 1)) (fun j hj h => n_tt_le hn 6 j hj (by simpa using h)) (fun k => gT_le hn) (fun k hk j a b => ?_) hc ns (by omega) hq
    exact (nI_eq (by omega) (by omega)).mp ((gM_t.mp a).2.symm.trans (gM_t.mp b).2)
  rw [fs_sum_cong hmem, fs_sum_n (W := n_wr r n ns) (fun j hj h => hw j hj (gM_t.mp h).1), e]
/-- what changes no weight -/
theorem n_wr_cong {r r' : St} {n ns : Nat} (h : ∀ j, j < n → r' 1 j = r 1 j ∧ r' 3 j = r 3 j ∧ (r' 4 j = 97 ↔ r 4 j = 97)) (h1 : ∀ k, gT (r' 1) (r' 4) (r' 14) n k = gT (r 1) (r 4) (r 14) n k) (h3 : ∀ k, gT (r' 3) (r' 4) (r' 14) n k = gT (r 3) (r 4) (r 14) n k) : n_wr r' n ns = n_wr r n ns := by
  unfold n_wr
  refine n_tt_cong (fun k j hj => ?_) (fun k j hj => ?_) h1 h3 7
  · obtain ⟨a, -, b⟩ := h j hj
    unfold gM fs_mem
    rw [a]
    by_cases z : r 4 j = 97
    · rw [decide_eq_true (b.mpr z), decide_eq_true z]
    · rw [decide_eq_false (fun q => z (b.mp q)), decide_eq_false z]
  · obtain ⟨-, a, b⟩ := h j hj
    unfold gM fs_mem
    rw [a]
    by_cases z : r 4 j = 97
    · rw [decide_eq_true (b.mpr z), decide_eq_true z]
    · rw [decide_eq_false (fun q => z (b.mp q)), decide_eq_false z]
theorem n_wr_s {r : St} {n ns : Nat} (h : r 4 n = 117) : n_wr r (n + 1) ns = n_wr r n ns := by
  have hm : ∀ (g : Nat → Int32) k, gM (r 4) g k n = false := fun g k => by
    unfold gM fs_mem
    rw [h]; rfl
  have ht : ∀ g : Nat → Int32, gT g (r 4) (r 14) (n + 1) = gT g (r 4) (r 14) n := fun g => funext fun k => gT_s h
  unfold n_wr
  rw [ht, ht, n_tt_s (hm (r 1)) (hm (r 3))]
theorem n_wr_st {r : St} {n ns : Nat} (h : ∀ k, ns ≤ k → ct (gM (r 4) (r 1) k) n = 0) : n_wr r n (ns + 1) = n_wr r n ns := n_tt_more (d := 1) h 7
