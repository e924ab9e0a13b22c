/-! drawing -/
theorem sel_cong {p q : Nat → Bool} {k : Nat} : ∀ {n : Nat}, (∀ j, j < n → p j = q j) → sel p k n = sel q k n
  | 0, _ => rfl
  | n + 1, h => by
    have ih := sel_cong (k := k) (n := n) (fun j hj => h j (by omega))
    unfold sel
    rw [ih, ct_cong (n := n) (fun j hj => h j (by omega)), h n (by omega)]
theorem isU_cong {c r : St} {n ni ns hs : Nat} {s : Int32} (h : Relx c r n ni ns hs) : ∀ j, j < n → isU (c 1) (c 21) s j = isU (r 1) (r 4) s j := fun j hj => by
  obtain ⟨a, b, -⟩ := h.2.1 j hj
  unfold isU
  rw [a.1.1, b.1.1]
theorem und_eq {c r : St} {n ni ns hs : Nat} {s : Int32} (h : Relx c r n ni ns hs) : c_und c n s = m_und r n s := ct_cong (isU_cong h)
theorem h_eq {c r : St} {n ni ns hs : Nat} {s : Int32} (h : Relx c r n ni ns hs) : c_h c n s = m_h r n s := by
  unfold c_h m_h
  rw [und_eq h, sel_cong (isU_cong h), h.1.2.2.2.2.1.1]
theorem ch_ok {c r : St} {n ni ns hs : Nat} (h : Relx c r n ni ns hs) : ∃ k, k < 65536 ∧ c 0 1 = nI k := by
  obtain ⟨e, k, hk, e2⟩ := h.1.2.2.2.2.1
  exact ⟨k, hk, e.trans e2⟩
theorem gT_cong2 {g g' st st' rep rep' : Nat → Int32} {k : Nat} {n : Nat} (h : ∀ j, j < n → (g' j = nI k ∧ ¬ st' j = 117 ∧ rep' j = 0 ↔ g j = nI k ∧ ¬ st j = 117 ∧ rep j = 0)) : gT g' st' rep' n k = gT g st rep n k := by
  unfold gT
  congr 1
  refine ct_cong (fun j hj => ?_)
  simp only [← Bool.decide_and]
  exact decide_eq_decide.mpr (h j hj)
theorem gT_one {g g' st st' rep rep' : Nat → Int32} {k : Nat} {n h : Nat} (hh : h < n) (hg : g' = g) (h1 : g h = nI k) (h2 : st h = 117) (h3 : ¬ st' h = 117) (h4 : rep' h = 0) (ho : ∀ j, j ≠ h → st' j = st j ∧ rep' j = rep j) : gT g' st' rep' n k = gT g st rep n k + 1000 := by
  subst hg
  unfold gT
  have e := ct_less (p := fun j => decide (g' j = nI k) && (decide (¬ st' j = 117) && decide (rep' j = 0))) (q := fun j => decide (g' j = nI k) && (decide (¬ st j = 117) && decide (rep j = 0))) (h := h) (n := n) hh (by simp [h1, h3, h4]) (by simp [h2]) (fun j hj => by rw [(ho j hj).1, (ho j hj).2])
  omega
theorem d1_cj {c : St} {n : Nat} {s : Int32} {q j : Nat} (hq : q ≠ 0) (h : j ≠ c_h c n s) : c_d1 c n s q j = c q j := by
  unfold c_d1
  rw [up_ne h, up_ne h, up_row hq]
theorem d1_rj {r : St} {n : Nat} {s inst : Int32} {q j : Nat} (hq : q ≠ 0) (h : j ≠ m_h r n s) : m_d1 r n s inst q j = r q j := by
  unfold m_d1
  rw [up_ne h, up_ne h, up_ne h, up_row hq]
theorem d1_21 {c : St} {n : Nat} {s : Int32} : c_d1 c n s 21 (c_h c n s) = 119 ∧ c_d1 c n s 22 (c_h c n s) = c 0 2 + 1 := by
  unfold c_d1
  exact ⟨by rw [up_row (by decide), up_at], up_at⟩
theorem d1_4 {r : St} {n : Nat} {s inst : Int32} : m_d1 r n s inst 4 (m_h r n s) = 119 ∧ m_d1 r n s inst 5 (m_h r n s) = r 0 5 + 1 ∧ m_d1 r n s inst 14 (m_h r n s) = inst := by
  unfold m_d1
  exact ⟨by rw [up_row (by decide), up_row (by decide), up_at], by rw [up_row (by decide), up_at], up_at⟩
theorem t_d1 {c r : St} {n ni ns hs : Nat} {s inst : Int32} (h : Relx c r n ni ns hs) (hu : 0 < c_und c n s) : Relx (c_d1 c n s) (m_d1 r n s inst) n ni ns hs := by
  have hq := ch_ok h
  have hn := h.1.1.1
  have hlt := c_h_lt hq hn hu
  have hun := isU_t.mp (c_h_undrawn hq hn hu)
  have e := h_eq (s := s) h
  obtain ⟨h1, h2, h3, h4, h5, h6, E, h8⟩ := h
  have hc : ∀ q, q ≠ 0 → q ≠ 21 → q ≠ 22 → c_d1 c n s q = c q := fun q a b d => c_d1_row a b d
  have hr : ∀ q, q ≠ 0 → q ≠ 4 → q ≠ 5 → q ≠ 14 → m_d1 r n s inst q = r q := fun q a b d f => m_d1_row a b d f
  refine ⟨?_, fun j hj => ?_, fun j a b => R_F_c (by rw [hc 5 (by omega) (by omega) (by omega)]) (fun q _ _ _ => d1_rj (by omega) (by omega)) (h3 j a b), R_B_c (hc 9 (by omega) (by omega) (by omega)) (hr 25 (by omega) (by omega) (by omega) (by omega)) h4, fun i hi => R_I_c (fun q _ _ => by rw [hc q (by omega) (by omega) (by omega)]) (fun q _ _ => by rw [hr q (by omega) (by omega) (by omega) (by omega)]) (fun k => by rw [hc 40 (by omega) (by omega) (by omega)]) (hr 19 (by omega) (by omega) (by omega) (by omega)) (h5 i hi), R_J_c (hr 20 (by omega) (by omega) (by omega) (by omega)) (hr 21 (by omega) (by omega) (by omega) (by omega)) (Nat.le_refl _) h6, E, R_E_c (hc 15 (by omega) (by omega) (by omega)) (fun j _ => by rw [hc 5 (by omega) (by omega) (by omega)]) (hc 6 (by omega) (by omega) (by omega)) (hc 7 (by omega) (by omega) (by omega)) (hc 9 (by omega) (by omega) (by omega)) (tk_c (hc 12 (by omega) (by omega) (by omega)) h8.2.1) h8⟩
  · obtain ⟨a1, a2, a3, a4, ⟨a5, a8⟩, a6, a7⟩ := h1
    unfold R_S
    rw [c_d1_sc (i := 0) (by omega), c_d1_sc (i := 2) (by omega), c_d1_sc (i := 3) (by omega), c_d1_sc (i := 4) (by omega), c_d1_sc (i := 5) (by omega), m_d1_sc (i := 2) (by omega), m_d1_sc (i := 3) (by omega), m_d1_sc (i := 4) (by omega), m_d1_sc (i := 5) (by omega)]
    refine ⟨a1, a2, a3, a4, ⟨?_, m_d1_chance a8⟩, a6, a7⟩
    show m_ch (c 0 1) = m_ch (r 0 1)
    rw [a5]
  · obtain ⟨b1, b2, b3⟩ := h2 j hj
    refine ⟨R_H_c (fun q _ => by rw [hc q (by omega) (by omega) (by omega)]) (fun q _ => by rw [hr q (by omega) (by omega) (by omega) (by omega)]) (Nat.le_refl _) b1, ?_⟩
    by_cases z : j = c_h c n s
    · have zr : j = m_h r n s := z.trans e
      have r4 : r 4 j = 117 := by rw [← b2.1.1, z]; exact hun.2
      have c21 : c_d1 c n s 21 j = 119 := by rw [z]; exact d1_21.1
      have c22 : c_d1 c n s 22 j = c 0 2 + 1 := by rw [z]; exact d1_21.2
      have r4' : m_d1 r n s inst 4 j = 119 := by rw [zr]; exact d1_4.1
      have r5' : m_d1 r n s inst 5 j = r 0 5 + 1 := by rw [zr]; exact d1_4.2.1
      obtain ⟨d, hd, ed1, ed2⟩ := h1.2.2.2.2.2.1
      refine ⟨?_, ?_⟩
      · obtain ⟨d1, d2, d3, d4, d5, d6, d7, d8, d9⟩ := b2
        unfold R_D
        rw [c21, c22, r4', r5', hc 23 (by omega) (by omega) (by omega), hc 24 (by omega) (by omega) (by omega), hc 25 (by omega) (by omega) (by omega), hc 26 (by omega) (by omega) (by omega), hc 27 (by omega) (by omega) (by omega), hc 28 (by omega) (by omega) (by omega), hc 29 (by omega) (by omega) (by omega), hc 30 (by omega) (by omega) (by omega), hr 6 (by omega) (by omega) (by omega) (by omega), hr 7 (by omega) (by omega) (by omega) (by omega), hr 8 (by omega) (by omega) (by omega) (by omega), hr 9 (by omega) (by omega) (by omega) (by omega), hr 12 (by omega) (by omega) (by omega) (by omega), hr 15 (by omega) (by omega) (by omega) (by omega), hr 16 (by omega) (by omega) (by omega) (by omega), hr 17 (by omega) (by omega) (by omega) (by omega), hr 18 (by omega) (by omega) (by omega) (by omega), ed1, ed2]
        exact ⟨⟨rfl, Or.inr (Or.inl rfl)⟩, fun _ => rfl, ⟨d3.1, fun q => absurd q (by decide)⟩, d4, fun _ => d5 (Or.inr (Or.inr r4)), d6, d7, fun _ _ => rfl, d9⟩
      · unfold R_A
        rw [r4', hc 5 (by omega) (by omega) (by omega)]
        have : c 5 j = 0 := Decidable.byContradiction fun q => by
          have := b3.1.mp q
          rw [r4] at this
          exact absurd this (by decide)
        rw [this]
        exact ⟨⟨fun q => absurd rfl q, fun q => absurd q (by decide)⟩, fun q => absurd q (by decide)⟩
    · have zr : j ≠ m_h r n s := fun q => z (q.trans e.symm)
      exact ⟨R_D_c (fun q _ _ => d1_cj (by omega) z) (fun q _ _ _ _ _ _ => d1_rj (by omega) zr) (Nat.le_refl _) b2, R_A_c (fun q _ _ => d1_cj (by omega) z) (fun q _ => d1_rj (by omega) zr) (hr 25 (by omega) (by omega) (by omega) (by omega)) (Nat.le_refl _) b3⟩
/-- drawn to replace another one -/
theorem rep_gT {c r : St} {n ni ns hs : Nat} {s : Int32} (h : Relx c r n ni ns hs) (hu : 0 < c_und c n s) (g : Nat) (hg : g = 1 ∨ g = 3) (k : Nat) : gT (m_d1 r n s 1 g) (m_d1 r n s 1 4) (m_d1 r n s 1 14) n k = gT (r g) (r 4) (r 14) n k := by
  have hq := ch_ok h
  have hn := h.1.1.1
  have hlt := c_h_lt hq hn hu
  have hun := isU_t.mp (c_h_undrawn hq hn hu)
  have e := h_eq (s := s) h
  refine gT_cong2 (fun j hj => ?_)
  by_cases z : j = c_h c n s
  · have zr : j = m_h r n s := z.trans e
    have r4 : r 4 j = 117 := by rw [← (h.2.1 j hj).2.1.1.1, z]; exact hun.2
    have r14 : m_d1 r n s 1 14 j = 1 := by rw [zr]; exact d1_4.2.2
    rw [r4, r14]
    exact ⟨fun q => absurd q.2.2 (by decide), fun q => absurd rfl q.2.1⟩
  · have zr : j ≠ m_h r n s := fun q => z (q.trans e.symm)
    rw [d1_rj (by omega) zr, d1_rj (by omega) zr, d1_rj (by omega) zr]
theorem t_rep1 {c r : St} {n ni ns hs : Nat} {s : Int32} (h : Rel c r n ni ns hs) (hu : 0 < c_und c n s) : Rel (c_d1 c n s) (m_d1 r n s 1) n ni ns hs := by
  have hx := t_d1 (inst := 1) h.1.1 hu
  have g1 := rep_gT h.1.1 hu 1 (by omega)
  have g3 := rep_gT h.1.1 hu 3 (by omega)
  have hq := ch_ok h.1.1
  have hun := isU_t.mp (c_h_undrawn hq h.1.1.1.1.1 hu)
  have e := h_eq (s := s) h.1.1
  have iff97 : ∀ j, j < n → (m_d1 r n s 1 4 j = 97 ↔ r 4 j = 97) := fun j hj => by
    by_cases z : j = c_h c n s
    · have zr : j = m_h r n s := z.trans e
      have r4 : r 4 j = 117 := by rw [← (h.1.1.2.1 j hj).2.1.1.1, z]; exact hun.2
      have r4' : m_d1 r n s 1 4 j = 119 := by rw [zr]; exact d1_4.1
      rw [r4, r4']
      decide
    · rw [d1_rj (by omega) (fun q => z (q.trans e.symm))]
  have ew : n_wr (m_d1 r n s 1) n ns = n_wr r n ns := n_wr_cong (fun j hj => ⟨by rw [m_d1_row (by omega) (by omega) (by omega) (by omega)], by rw [m_d1_row (by omega) (by omega) (by omega) (by omega)], iff97 j hj⟩) g1 g3
  refine ⟨⟨hx, R_T_c (c_d1_row (by omega) (by omega) (by omega)) (c_d1_row (by omega) (by omega) (by omega)) g1 g3 h.1.2⟩, fun j hj ha => ?_, fun j hj h0 => ?_⟩
  · rw [ew, c_d1_row (by omega) (by omega) (by omega)]
    exact h.2.1 j hj ((iff97 j hj).mp ha)
  · rw [c_d1_row (by omega) (by omega) (by omega)] at h0
    rw [c_d1_row (by omega) (by omega) (by omega)]
    exact h.2.2 j hj h0
/-- drawn by a call -/
theorem t_dr1 {c r : St} {n ni ns hs js : Nat} (hjs : js < ns) (h : Rel0 c r n ni ns hs) (hu : 0 < c_und c n (nI js)) : Rel0 (c_raise (c_d1 c n (nI js)) (c_h c n (nI js))) (m_d1 r n (nI js) 0) n ni ns hs := by
  have hx := t_d1 (inst := 0) h.1 hu
  have hq := ch_ok h.1
  have hn := h.1.1.1.1
  have h4 := h.1.1.1.2.2.1
  have hlt := c_h_lt hq hn hu
  have hun := isU_t.mp (c_h_undrawn hq hn hu)
  have e := h_eq (s := nI js) h.1
  obtain ⟨b1, b2, b3⟩ := h.1.2.1 _ hlt
  obtain ⟨g, hg, eg⟩ := b1.2.2.1
  have er4 : r 4 (c_h c n (nI js)) = 117 := by rw [← b2.1.1]; exact hun.2
  have er1 : r 1 (c_h c n (nI js)) = nI js := by rw [← b1.1.1]; exact hun.1
  have r1 : c_d1 c n (nI js) 1 (c_h c n (nI js)) = nI js := by rw [c_d1_row (by omega) (by omega) (by omega)]; exact hun.1
  have r2 : c_d1 c n (nI js) 2 (c_h c n (nI js)) = nI g := by rw [c_d1_row (by omega) (by omega) (by omega), b1.1.2.1]; exact eg
  have key : ∀ (q : Nat) (hq : q = 1 ∨ q = 3) (k v : Nat) (hv : r q (c_h c n (nI js)) = nI v), v < 2 ^ 31 → k < 2 ^ 31 → gT (m_d1 r n (nI js) 0 q) (m_d1 r n (nI js) 0 4) (m_d1 r n (nI js) 0 14) n k = gT (r q) (r 4) (r 14) n k + if k = v then 1000 else 0 := by
    intro q hq k v hv hv2 hk2
    have eq : m_d1 r n (nI js) 0 q = r q := m_d1_row (by omega) (by omega) (by omega) (by omega)
    by_cases z : k = v
    · rw [if_pos z]
      subst z
      refine gT_one (h := m_h r n (nI js)) (by rw [← e]; exact hlt) eq (by rw [← e]; exact hv) (by rw [← e]; exact er4) (by rw [d1_4.1]; decide) (by rw [d1_4.2.2]) (fun j hj => ⟨d1_rj (by omega) hj, d1_rj (by omega) hj⟩)
    · rw [if_neg z]
      refine gT_cong2 (fun j hj => ?_)
      rw [eq]
      by_cases y : j = m_h r n (nI js)
      · have : ¬ r q j = nI k := fun w => by
          rw [y, ← e, hv] at w
          exact z ((nI_eq hv2 hk2).mp w).symm
        exact ⟨fun w => absurd w.1 this, fun w => absurd w.1 this⟩
      · rw [d1_rj (by omega) y, d1_rj (by omega) y]
  refine ⟨Relx_g (fun q a b d _ _ => c_raise_row b d) (tk_c (c_raise_row (by omega) (by omega))) (fun _ _ _ => rfl) (Nat.le_refl _) (R_S_c (c_raise_row (by omega) (by omega)) (fun _ _ => rfl)) hx, fun k hk => ?_, fun k hk => ?_⟩
  · rw [key 1 (by omega) k js er1 (by omega) (by omega)]
    unfold c_raise
    rw [r1, r2, iN_nI (by omega), iN_nI (by omega), up_row (by decide), up_eq]
    have c3 : c_d1 c n (nI js) 3 = c 3 := c_d1_row (by omega) (by omega) (by omega)
    rw [c3]
    by_cases z : k = js
    · subst z
      rw [if_pos rfl, upd_at, h.2.1 k hk, show (1000 : Int32) = nI 1000 from rfl, nI_add]
    · rw [if_neg z, upd_off z, h.2.1 k hk, Nat.add_zero]
  · rw [key 3 (by omega) k g eg (by omega) (by omega)]
    unfold c_raise
    rw [r1, r2, iN_nI (by omega), iN_nI (by omega), up_eq, up_row (by decide)]
    have c3 : c_d1 c n (nI js) 4 = c 4 := c_d1_row (by omega) (by omega) (by omega)
    rw [c3]
    by_cases z : k = g
    · subst z
      rw [if_pos rfl, upd_at, h.2.2 k hk, show (1000 : Int32) = nI 1000 from rfl, nI_add]
    · rw [if_neg z, upd_off z, h.2.2 k hk, Nat.add_zero]
theorem t_drk {c r : St} {n ni ns hs js : Nat} (hjs : js < ns) (h : Rel0 c r n ni ns hs) : ∀ k, k ≤ c_und c n (nI js) → Rel0 (c_drw c n (nI js) k) (m_dk r n (nI js) k) n ni ns hs ∧ c_lst c n (nI js) k = m_last r n (nI js) k
  | 0, _ => ⟨h, rfl⟩
  | k + 1, hk => by
    obtain ⟨ih, -⟩ := t_drk hjs h k (by omega)
    have hu := c_und_drw (s := nI js) (ch_ok h.1) h.1.1.1.1 k (by omega)
    refine ⟨t_dr1 hjs ih (by omega), ?_⟩
    show nI (c_h (c_drw c n (nI js) k) n (nI js)) = nI (m_h (m_dk r n (nI js) k) n (nI js))
    rw [h_eq ih.1]
theorem t_draw {c r : St} {n ni ns hs js k : Nat} (hjs : js < ns) (hk : k ≤ c_und c n (nI js)) (h : Rel c r n ni ns hs) : Rel (c_fin (c_drw c n (nI js) k) n) (m_dk (up r 0 0 0) n (nI js) k) n ni ns hs ∧ c_lst c n (nI js) k = m_last (up r 0 0 0) n (nI js) k := by
  obtain ⟨a, b⟩ := t_drk (r := up r 0 0 0) hjs (Rel_t h).1 k hk
  exact ⟨Rel_fin a, b⟩
