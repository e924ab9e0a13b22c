/-! a visit that tells an answer, checks -/
theorem R_B_lt {c r : St} {v : Nat} (h : R_B c r) (hv : v < 4) (hf : c 9 v < 2) : ∃ f, f < 2 ∧ r 25 v = nI f := by
  obtain ⟨e, f, hf3, e2⟩ := h v hv
  rw [e, e2] at hf
  exact ⟨f, (nI_ltI (a := f) (b := 2) (by omega) (by omega)).mp hf, e2⟩
theorem t_visit_a {c r : St} {n ni ns hs h v a : Nat} (H : Rel c r n ni ns hs) (h512 : hs < 512) (hh : h < n) (hr0 : r 18 h = nI v) (hv : v < ni) (ht : r 17 h = 0) (hf : c 9 v < 2) (ha : a < 10) : Rel (c_ta (c_v0 c hs h v a 97) n h (nI v) (nI a)) (up (up (up (up (up (up (up (up (up r 0 0 0) 17 h 1) 6 h (r 6 h + 1)) 4 h 97) 10 h (nI a)) 11 h (nI v)) 12 h (r 6 h + 1)) 15 h 0) 16 h 0) n ni ns (hs + 1) := by
  obtain ⟨o1, o2, o3⟩ := o_vis H.1.1 hh hr0 hv ht
  have hn := H.1.1.1.1.1
  have hi4 := H.1.1.1.1.2.1
  obtain ⟨-, b2, b3⟩ := H.1.1.2.1 h hh
  obtain ⟨d1, d2, d3, d4, d5, d6, d7, d8, d9⟩ := b2
  obtain ⟨k7, k8⟩ := d5 (Or.inl o1)
  have f1 : c 23 h = r 6 h := d3.1
  obtain ⟨f2, f3, f4⟩ := d4
  obtain ⟨f5, f6, f7, f8⟩ := d6
  obtain ⟨f, hf2, ef⟩ := R_B_lt H.1.1.2.2.2.1 (by omega) hf
  unfold c_ta
  refine Rel_fin ?_
  generalize ec : c_take 5 (up (up (c_v0 c hs h v a 97) 21 h 97) 30 h 0) h (nI v) (nI a) = c'
  generalize er : up (up (up (up (up (up (up (up (up r 0 0 0) 17 h 1) 6 h (r 6 h + 1)) 4 h 97) 10 h (nI a)) 11 h (nI v)) 12 h (r 6 h + 1)) 15 h 0) 16 h 0 = r'
  have hcj : ∀ q j, q ≠ 0 → q ≠ 15 → j ≠ h → c' q j = c q j := fun q j a b d => by
    rw [← ec]
    simp only [c_take, c_v0, c_app, up_ne d, up_row a, up_row b]
  have hcr : ∀ q, q ≠ 0 → q ≠ 15 → q < 5 ∨ (7 < q ∧ q < 21) ∨ 30 < q → c' q = c q := fun q a b d => by
    rw [← ec]
    unfold c_take c_v0 c_app
    funext j
    simp only [up_app]
    simp (disch := omega) only [if_neg]
  have hrj : ∀ q j, q ≠ 0 → j ≠ h → r' q j = r q j := fun q j a d => by
    rw [← er]
    simp only [up_ne d, up_row a]
  have hrr : ∀ q, q ≠ 0 → q < 4 ∨ q = 14 ∨ 18 < q → r' q = r q := fun q a b => by
    rw [← er]
    funext j
    simp only [up_app]
    simp (disch := omega) only [if_neg]
  have i4 : r' 4 h = 97 := by rw [← er]; simp [up_app]
  refine t_vis (ev := (97, h, v, a)) H.1 h512 hh (ev_ok (by decide) (by omega) (by omega) ha) hcj hcr hrj hrr ?_ ?_ ?_ ?_ ?_ ?_ ?_ (fun d _ => AG_t ?_ ?_ ?_ (hcr 9 (by omega) (by omega) (by omega)))
  · rw [← ec]; funext j; simp [c_take, c_v0, c_app, up_app, upd]
  · intro i hi; rw [← ec]; simp [c_take, c_v0, c_app, up_app, hi]
  · rw [← ec]; simp [c_take, c_v0, c_app, up_app]
  · intro i hi; rw [← er]; simp [up_app, hi]
  · unfold R_D
    rw [← ec, ← er]
    simp [c_take, c_v0, c_app, up_app, isSt, f1, f2, f3, f4, f5, f6, f7, f8, o2]
    exact ⟨⟨k7, k8⟩, d7⟩
  · unfold R_A
    rw [← ec, ← er]
    simp [c_take, c_v0, c_app, up_app]
    exact ⟨⟨a, ha, rfl⟩, v, hv, rfl, f, hf2, ef⟩
  · rw [i4, o1]; decide
  · rw [← ec]; funext j; simp [c_take, c_v0, c_app, up_app, upd]
  · rw [← ec]; funext j; simp [c_take, c_v0, c_app, up_app, upd]
  · rw [← ec]; funext j; simp [c_take, c_v0, c_app, up_app, upd]
/-- the same answer -/
theorem t_check_s {c r : St} {n ni ns hs h a : Nat} (H : Rel c r n ni ns hs) (h512 : hs < 512) (hh : h < n) (h97 : r 4 h = 97) (hd : r 10 h = nI a) (ha : a < 10) : Rel (c_c0 c hs h a) (up (up r 0 0 0) 15 h 1) n ni ns (hs + 1) := by
  have hn := H.1.1.1.1.1
  obtain ⟨-, b2, b3⟩ := H.1.1.2.1 h hh
  have x5 : ¬ c 5 h = 0 := b3.1.mpr h97
  have x6 : c 6 h = nI a := (b3.2 h97).1.1.trans hd
  obtain ⟨d1, d2, d3, d4, d5, d6, d7, d8, d9⟩ := b2
  generalize ec : c_c0 c hs h a = c'
  generalize er : up (up r 0 0 0) 15 h 1 = r'
  have hcj : ∀ q j, q ≠ 0 → q ≠ 15 → j ≠ h → c' q j = c q j := fun q j a b d => by
    rw [← ec]
    simp only [c_c0, c_app, up_ne d, up_row a, up_row b]
  have hcr : ∀ q, q ≠ 0 → q ≠ 15 → q ≠ 30 → c' q = c q := fun q a b d => by
    rw [← ec]
    unfold c_c0 c_app
    rw [up_row d, up_row a, up_row b]
  have hrj : ∀ q j, q ≠ 0 → j ≠ h → r' q j = r q j := fun q j a d => by
    rw [← er, up_ne d, up_row a]
  have hrr : ∀ q, q ≠ 0 → q ≠ 15 → r' q = r q := fun q a b => by
    rw [← er, up_row b, up_row a]
  have c30 : c' 30 h = 1 := by rw [← ec]; exact up_at
  have r15 : r' 15 h = 1 := by rw [← er]; exact up_at
  refine t_visW (h := h) H (t_vis (ev := (99, h, 0, a)) H.1 h512 hh (ev_ok (by decide) (by omega) (by omega) ha) hcj (fun q a b _ => hcr q a b (by omega)) hrj (fun q a _ => hrr q a (by omega)) ?_ ?_ ?_ ?_ ?_ ?_ ?_ (fun d _ => AG_s (by omega) x5 x6 (hcr 5 (by omega) (by omega) (by omega)) (hcr 6 (by omega) (by omega) (by omega)) (hcr 7 (by omega) (by omega) (by omega)) (hcr 9 (by omega) (by omega) (by omega)))) hh (hcr 5 (by omega) (by omega) (by omega)) (hcr 8 (by omega) (by omega) (by omega)) hrj (fun q a _ => hrr q a (by omega)) ?_ ?_
  · rw [← ec]; funext j; simp [c_c0, c_app, up_app, upd]
  · intro i hi; rw [← ec]; simp [c_c0, c_app, up_app, hi]
  · rw [← ec]; simp [c_c0, c_app, up_app]
  · intro i hi; rw [← er]; simp [up_app, hi]
  · unfold R_D
    rw [c30, r15, hcr 21 (by omega) (by omega) (by omega), hcr 22 (by omega) (by omega) (by omega), hcr 23 (by omega) (by omega) (by omega), hcr 24 (by omega) (by omega) (by omega), hcr 25 (by omega) (by omega) (by omega), hcr 26 (by omega) (by omega) (by omega), hcr 27 (by omega) (by omega) (by omega), hcr 28 (by omega) (by omega) (by omega), hcr 29 (by omega) (by omega) (by omega), hrr 4 (by omega) (by omega), hrr 5 (by omega) (by omega), hrr 6 (by omega) (by omega), hrr 7 (by omega) (by omega), hrr 8 (by omega) (by omega), hrr 9 (by omega) (by omega), hrr 12 (by omega) (by omega), hrr 16 (by omega) (by omega), hrr 17 (by omega) (by omega), hrr 18 (by omega) (by omega)]
    exact ⟨d1, d2, d3, d4, d5, ⟨d6.1, d6.2.1, d6.2.2.1, rfl⟩, d7, d8, d9⟩
  · exact R_A_c (fun q _ _ => by rw [hcr q (by omega) (by omega) (by omega)]) (fun q _ => by rw [hrr q (by omega) (by omega)]) (hrr 25 (by omega) (by omega)) (Nat.le_refl _) b3
  · rw [hrr 4 (by omega) (by omega)]
  · rw [hrr 4 (by omega) (by omega)]
  · rw [hrr 4 (by omega) (by omega)]
/-- another one: a fault more -/
theorem t_check_d {c r : St} {n ni ns hs h v a : Nat} (H : Rel c r n ni ns hs) (h512 : hs < 512) (hh : h < n) (h97 : r 4 h = 97) (hd : ¬ r 10 h = nI a) (hw : r 11 h = nI v) (hv : v < 4) (h2 : c 9 v + 1 < 2) (ha : a < 10) : Rel (up (c_c0 c hs h a) 9 v (c 9 v + 1)) (up (up (up r 0 0 0) 15 h 1) 25 v (r 25 v + 1)) n ni ns (hs + 1) := by
  have hn := H.1.1.1.1.1
  obtain ⟨-, b2, b3⟩ := H.1.1.2.1 h hh
  have x5 : ¬ c 5 h = 0 := b3.1.mpr h97
  have x6 : ¬ c 6 h = nI a := fun q => hd ((b3.2 h97).1.1.symm.trans q)
  have x7 : c 7 h = nI v := (b3.2 h97).2.1.trans hw
  obtain ⟨E, h8⟩ := H.1.1.2.2.2.2.2.2
  have hB := H.1.1.2.2.2.1
  obtain ⟨ev9, f, hf3, ef⟩ := hB v hv
  have hf1 : f + 1 < 2 := nI_lt2 (B := 2) (by omega) (by omega) (by rw [← ef, ← ev9]; exact h2)
  generalize ec : up (c_c0 c hs h a) 9 v (c 9 v + 1) = c'
  generalize er : up (up (up r 0 0 0) 15 h 1) 25 v (r 25 v + 1) = r'
  have hcr : ∀ q, q ≠ 0 → q ≠ 15 → q ≠ 30 → q ≠ 9 → c' q = c q := fun q a b d f => by
    rw [← ec]
    unfold c_c0 c_app
    rw [up_row f, up_row d, up_row a, up_row b]
  have hrr : ∀ q, q ≠ 0 → q ≠ 15 → q ≠ 25 → r' q = r q := fun q a b d => by
    rw [← er, up_row d, up_row b, up_row a]
  have c30 : ∀ j, c' 30 j = if j = h then 1 else c 30 j := fun j => by rw [← ec]; simp [c_c0, c_app, up_app]
  have r15 : ∀ j, r' 15 j = if j = h then 1 else r 15 j := fun j => by rw [← er]; simp [up_app]
  have c9 : c' 9 = upd (c 9) v (c 9 v + 1) := by rw [← ec, up_eq]; unfold c_c0 c_app; rw [up_row (by decide), up_row (by decide), up_row (by decide)]
  have r25 : r' 25 = upd (r 25) v (r 25 v + 1) := by rw [← er, up_eq]; rw [up_row (by decide), up_row (by decide)]
  have ew : n_wr r' n ns = n_wr r n ns := by
    unfold n_wr
    rw [hrr 1 (by omega) (by omega) (by omega), hrr 3 (by omega) (by omega) (by omega), hrr 4 (by omega) (by omega) (by omega), hrr 14 (by omega) (by omega) (by omega)]
  refine ⟨t_gen H.1 (fun q a => hcr q (by omega) (by omega) (by omega) (by omega)) (fun q a => hrr q (by omega) (by omega) (by omega)) (R_S_p h512 ?_ ?_ ?_ H.1.1.1) (fun j hj => ⟨?_, ?_⟩) (fun j a b => ?_) (fun i hi => ?_) (fun j hj => by rw [hrr 4 (by omega) (by omega) (by omega)]) ⟨_, R_E_p (ev := (99, h, 0, a)) h8 (ev_ok (by decide) (by omega) (by omega) ha) ?_ (tk_c (hcr 12 (by omega) (by omega) (by omega) (by omega)) h8.2.1) (fun d _ => AG_d (by omega) hv x5 x6 x7 h2 (hcr 5 (by omega) (by omega) (by omega) (by omega)) (hcr 6 (by omega) (by omega) (by omega) (by omega)) (hcr 7 (by omega) (by omega) (by omega) (by omega)) c9)⟩, ?_⟩
  · intro i hi; rw [← ec]; simp [c_c0, c_app, up_app, hi]
  · rw [← ec]; simp [c_c0, c_app, up_app]
  · intro i hi; rw [← er]; simp [up_app, hi]
  · obtain ⟨d1, d2, d3, d4, d5, d6, d7, d8, d9⟩ := (H.1.1.2.1 j hj).2.1
    unfold R_D
    rw [c30, r15, hcr 21 (by omega) (by omega) (by omega) (by omega), hcr 22 (by omega) (by omega) (by omega) (by omega), hcr 23 (by omega) (by omega) (by omega) (by omega), hcr 24 (by omega) (by omega) (by omega) (by omega), hcr 25 (by omega) (by omega) (by omega) (by omega), hcr 26 (by omega) (by omega) (by omega) (by omega), hcr 27 (by omega) (by omega) (by omega) (by omega), hcr 28 (by omega) (by omega) (by omega) (by omega), hcr 29 (by omega) (by omega) (by omega) (by omega), hrr 4 (by omega) (by omega) (by omega), hrr 5 (by omega) (by omega) (by omega), hrr 6 (by omega) (by omega) (by omega), hrr 7 (by omega) (by omega) (by omega), hrr 8 (by omega) (by omega) (by omega), hrr 9 (by omega) (by omega) (by omega), hrr 12 (by omega) (by omega) (by omega), hrr 16 (by omega) (by omega) (by omega), hrr 17 (by omega) (by omega) (by omega), hrr 18 (by omega) (by omega) (by omega), d6.2.2.2]
    exact ⟨d1, d2, d3, d4, d5, ⟨d6.1, d6.2.1, d6.2.2.1, rfl⟩, d7, d8, d9⟩
  · obtain ⟨a1, a2⟩ := (H.1.1.2.1 j hj).2.2
    unfold R_A
    rw [hcr 5 (by omega) (by omega) (by omega) (by omega), hcr 6 (by omega) (by omega) (by omega) (by omega), hcr 7 (by omega) (by omega) (by omega) (by omega), hrr 4 (by omega) (by omega) (by omega), hrr 10 (by omega) (by omega) (by omega), hrr 11 (by omega) (by omega) (by omega), r25]
    refine ⟨a1, fun q => ?_⟩
    obtain ⟨z1, z2, w, hw, e1, g, hg, e2⟩ := a2 q
    refine ⟨z1, z2, w, hw, e1, ?_⟩
    by_cases y : w = v
    · subst y
      rw [upd_at, ef, nI_1]
      exact ⟨f + 1, hf1, rfl⟩
    · rw [upd_off y]; exact ⟨g, hg, e2⟩
  · obtain ⟨a0, a1, a2, a3, a4, a5, a6, a7⟩ := H.1.1.2.2.1 j a b
    unfold R_F
    rw [r15, if_neg (by omega), hcr 5 (by omega) (by omega) (by omega) (by omega), hrr 6 (by omega) (by omega) (by omega), hrr 7 (by omega) (by omega) (by omega), hrr 8 (by omega) (by omega) (by omega), hrr 9 (by omega) (by omega) (by omega), hrr 16 (by omega) (by omega) (by omega), hrr 17 (by omega) (by omega) (by omega)]
    exact ⟨a0, a1, a2, a3, a4, a5, a6, a7⟩
  · rw [c9, r25]
    by_cases y : i = v
    · subst y
      rw [upd_at, upd_at, ev9, ef, nI_1]
      exact ⟨rfl, f + 1, by omega, rfl⟩
    · rw [upd_off y, upd_off y]; exact hB i hi
  · rw [← ec]; funext j; simp [c_c0, c_app, up_app, upd]
  · unfold R_W
    rw [ew, hrr 4 (by omega) (by omega) (by omega), hcr 5 (by omega) (by omega) (by omega) (by omega), hcr 8 (by omega) (by omega) (by omega) (by omega)]
    exact H.2
/-- .. and he is barred -/
theorem c_la_s {c : St} {m : Nat} : c_la c (m + 1) = if c_la c m 21 m = 97 ∧ c_la c m 5 m = 0 then up (up (c_la c m) 21 m 119) 22 m (c 0 2 + 1) else c_la c m := rfl
theorem c_la_at {c : St} : ∀ {m : Nat} (j : Nat), c_la c m 21 j = (if j < m ∧ c 21 j = 97 ∧ c 5 j = 0 then 119 else c 21 j) ∧ c_la c m 22 j = (if j < m ∧ c 21 j = 97 ∧ c 5 j = 0 then c 0 2 + 1 else c 22 j)
  | 0, j => by rw [if_neg (by omega), if_neg (by omega)]; exact ⟨rfl, rfl⟩
  | m + 1, j => by
    have ih := c_la_at (c := c) (m := m) j
    have im := (c_la_at (c := c) (m := m) m).1
    rw [if_neg (by omega)] at im
    have i5 : c_la c m 5 = c 5 := c_la_row m 5 (by decide) (by decide)
    rw [c_la_s, im, i5]
    by_cases z : c 21 m = 97 ∧ c 5 m = 0
    · rw [if_pos z]
      by_cases y : j = m
      · subst y
        rw [if_pos ⟨by omega, z⟩, if_pos ⟨by omega, z⟩, up_row (by decide), up_at, up_at]
        exact ⟨rfl, rfl⟩
      · rw [up_ne y, up_ne y, up_ne y, up_ne y, ih.1, ih.2]
        by_cases x : j < m ∧ c 21 j = 97 ∧ c 5 j = 0
        · rw [if_pos x, if_pos x, if_pos ⟨by omega, x.2⟩, if_pos ⟨by omega, x.2⟩]; exact ⟨rfl, rfl⟩
        · have x2 : ¬ (j < m + 1 ∧ c 21 j = 97 ∧ c 5 j = 0) := fun q => x ⟨by omega, q.2⟩
          rw [if_neg x, if_neg x, if_neg x2, if_neg x2]; exact ⟨rfl, rfl⟩
    · rw [if_neg z, ih.1, ih.2]
      by_cases x : j < m ∧ c 21 j = 97 ∧ c 5 j = 0
      · rw [if_pos x, if_pos x, if_pos ⟨by omega, x.2⟩, if_pos ⟨by omega, x.2⟩]; exact ⟨rfl, rfl⟩
      · have x2 : ¬ (j < m + 1 ∧ c 21 j = 97 ∧ c 5 j = 0) := fun q => by
          by_cases y : j = m
          · subst y; exact z q.2
          · exact x ⟨by omega, q.2⟩
        rw [if_neg x, if_neg x, if_neg x2, if_neg x2]; exact ⟨rfl, rfl⟩
theorem m_bar_s {r : St} {i m : Nat} : m_bar r i (m + 1) = if m_bar r i m 4 m = 97 ∧ m_bar r i m 11 m = nI i then up (up (m_bar r i m) 4 m 119) 5 m (r 0 5 + 1) else m_bar r i m := rfl
theorem m_bar_at {r : St} {i : Nat} : ∀ {m : Nat} (j : Nat), m_bar r i m 4 j = (if j < m ∧ r 4 j = 97 ∧ r 11 j = nI i then 119 else r 4 j) ∧ m_bar r i m 5 j = (if j < m ∧ r 4 j = 97 ∧ r 11 j = nI i then r 0 5 + 1 else r 5 j)
  | 0, j => by rw [if_neg (by omega), if_neg (by omega)]; exact ⟨rfl, rfl⟩
  | m + 1, j => by
    have ih := m_bar_at (r := r) (i := i) (m := m) j
    have im := (m_bar_at (r := r) (i := i) (m := m) m).1
    rw [if_neg (by omega)] at im
    have i5 : m_bar r i m 11 = r 11 := m_bar_row m 11 (by decide) (by decide)
    rw [m_bar_s, im, i5]
    by_cases z : r 4 m = 97 ∧ r 11 m = nI i
    · rw [if_pos z]
      by_cases y : j = m
      · subst y
        rw [if_pos ⟨by omega, z⟩, if_pos ⟨by omega, z⟩, up_row (by decide), up_at, up_at]
        exact ⟨rfl, rfl⟩
      · rw [up_ne y, up_ne y, up_ne y, up_ne y, ih.1, ih.2]
        by_cases x : j < m ∧ r 4 j = 97 ∧ r 11 j = nI i
        · rw [if_pos x, if_pos x, if_pos ⟨by omega, x.2⟩, if_pos ⟨by omega, x.2⟩]; exact ⟨rfl, rfl⟩
        · have x2 : ¬ (j < m + 1 ∧ r 4 j = 97 ∧ r 11 j = nI i) := fun q => x ⟨by omega, q.2⟩
          rw [if_neg x, if_neg x, if_neg x2, if_neg x2]; exact ⟨rfl, rfl⟩
    · rw [if_neg z, ih.1, ih.2]
      by_cases x : j < m ∧ r 4 j = 97 ∧ r 11 j = nI i
      · rw [if_pos x, if_pos x, if_pos ⟨by omega, x.2⟩, if_pos ⟨by omega, x.2⟩]; exact ⟨rfl, rfl⟩
      · have x2 : ¬ (j < m + 1 ∧ r 4 j = 97 ∧ r 11 j = nI i) := fun q => by
          by_cases y : j = m
          · subst y; exact z q.2
          · exact x ⟨by omega, q.2⟩
        rw [if_neg x, if_neg x, if_neg x2, if_neg x2]; exact ⟨rfl, rfl⟩
theorem t_check_b {c r : St} {n ni ns hs h v a : Nat} (H : Rel c r n ni ns hs) (h512 : hs < 512) (hh : h < n) (h97 : r 4 h = 97) (hd : ¬ r 10 h = nI a) (hw : r 11 h = nI v) (hv : v < ni) (h2 : ¬ c 9 v + 1 < 2) (ha : a < 10) : Rel (c_fin (c_la (upr (up (c_c0 c hs h a) 9 v (c 9 v + 1)) 5 (c_dr (c 7) (nI v) (c 5) 24)) n) n) (m_bar (up (up (up r 0 0 0) 15 h 1) 25 v (r 25 v + 1)) v n) n ni ns (hs + 1) := by
  have hn := H.1.1.1.1.1
  have hi4 := H.1.1.1.1.2.1
  obtain ⟨-, b2, b3⟩ := H.1.1.2.1 h hh
  have x5 : ¬ c 5 h = 0 := b3.1.mpr h97
  have x6 : ¬ c 6 h = nI a := fun q => hd ((b3.2 h97).1.1.symm.trans q)
  have x7 : c 7 h = nI v := (b3.2 h97).2.1.trans hw
  obtain ⟨E, h8⟩ := H.1.1.2.2.2.2.2.2
  have hB := H.1.1.2.2.2.1
  obtain ⟨ev9, f0, hf3, ef0⟩ := hB v (by omega)
  obtain ⟨f, hf, ef⟩ : ∃ f, f < 2 ∧ r 25 v = nI f := by
    obtain ⟨-, -, w, hwn, e1, g, hg, e2⟩ := b3.2 h97
    rw [hw] at e1
    have : w = v := ((nI_eq (by omega) (by omega)).mp e1).symm
    subst this
    exact ⟨g, hg, e2⟩
  obtain ⟨dd, hdd, y1, y2⟩ := H.1.1.1.2.2.2.2.2.1
  refine Rel_fin ?_
  generalize ec1 : upr (up (c_c0 c hs h a) 9 v (c 9 v + 1)) 5 (c_dr (c 7) (nI v) (c 5) 24) = c1
  generalize er1 : up (up (up r 0 0 0) 15 h 1) 25 v (r 25 v + 1) = r1
  have hcr1 : ∀ q, q ≠ 0 → q ≠ 15 → q ≠ 30 → q ≠ 9 → q ≠ 5 → c1 q = c q := fun q a b d f g => by
    rw [← ec1]
    unfold c_c0 c_app
    rw [upr_row g, up_row f, up_row d, up_row a, up_row b]
  have hrr1 : ∀ q, q ≠ 0 → q ≠ 15 → q ≠ 25 → r1 q = r q := fun q a b d => by
    rw [← er1, up_row d, up_row b, up_row a]
  have c102 : c1 0 2 = c 0 2 := by rw [← ec1, upr_row (by decide), up_row (by decide)]; simp [c_c0, c_app, up_app]
  have r105 : r1 0 5 = r 0 5 := by rw [← er1]; simp [up_app]
  have c15 : c1 5 = c_dr (c 7) (nI v) (c 5) 24 := by rw [← ec1, upr_at]
  have hcr : ∀ q, q ≠ 0 → q ≠ 15 → q ≠ 30 → q ≠ 9 → q ≠ 5 → q ≠ 21 → q ≠ 22 → c_la c1 n q = c q := fun q a b d f g k l => by
    rw [c_la_row n q k l, hcr1 q a b d f g]
  have hrr : ∀ q, q ≠ 0 → q ≠ 15 → q ≠ 25 → q ≠ 4 → q ≠ 5 → m_bar r1 v n q = r q := fun q a b d k l => by
    rw [m_bar_row n q k l, hrr1 q a b d]
  have c5 : c_la c1 n 5 = c_dr (c 7) (nI v) (c 5) 24 := by rw [c_la_row n 5 (by decide) (by decide), c15]
  have c30 : ∀ j, c_la c1 n 30 j = if j = h then 1 else c 30 j := fun j => by rw [c_la_row n 30 (by decide) (by decide), ← ec1, upr_row (by decide), up_row (by decide)]; simp [c_c0, c_app, up_app]
  have r15 : ∀ j, m_bar r1 v n 15 j = if j = h then 1 else r 15 j := fun j => by rw [m_bar_row n 15 (by decide) (by decide), ← er1]; simp [up_app]
  have c9 : c_la c1 n 9 = upd (c 9) v (c 9 v + 1) := by rw [c_la_row n 9 (by decide) (by decide), ← ec1, upr_row (by decide), up_eq]; unfold c_c0 c_app; rw [up_row (by decide), up_row (by decide), up_row (by decide)]
  have r25 : m_bar r1 v n 25 = upd (r 25) v (r 25 v + 1) := by rw [m_bar_row n 25 (by decide) (by decide), ← er1, up_eq]; rw [up_row (by decide), up_row (by decide)]
  have key : ∀ j, j < n → (c1 21 j = 97 ∧ c1 5 j = 0 ↔ r1 4 j = 97 ∧ r1 11 j = nI v) := fun j hj => by
    obtain ⟨-, z2, z3⟩ := H.1.1.2.1 j hj
    rw [hcr1 21 (by omega) (by omega) (by omega) (by omega) (by omega), hrr1 4 (by omega) (by omega) (by omega), hrr1 11 (by omega) (by omega) (by omega), c15, c_dr_at, z2.1.1]
    refine ⟨fun q => ⟨q.1, ?_⟩, fun q => ⟨q.1, ?_⟩⟩
    · rw [← (z3.2 q.1).2.1]
      refine Decidable.byContradiction fun w => ?_
      have := q.2
      rw [if_neg (fun u => w u.2)] at this
      exact z3.1.mpr q.1 this
    · rw [if_pos ⟨by omega, (z3.2 q.1).2.1.trans q.2⟩]
  have DA : ∀ j, j < n → R_D (c_la c1 n) (m_bar r1 v n) ni j ∧ R_A (c_la c1 n) (m_bar r1 v n) ni j ∧ (m_bar r1 v n 4 j = 117 ↔ r 4 j = 117) := fun j hj => by
    obtain ⟨-, z2, z3⟩ := H.1.1.2.1 j hj
    obtain ⟨d1, d2, d3, d4, d5, d6, d7, d8, d9⟩ := z2
    obtain ⟨l1, l2⟩ := c_la_at (c := c1) (m := n) j
    obtain ⟨l3, l4⟩ := m_bar_at (r := r1) (i := v) (m := n) j
    unfold R_D R_A
    by_cases z : r1 4 j = 97 ∧ r1 11 j = nI v
    · have zc := (key j hj).mpr z
      rw [if_pos ⟨hj, zc⟩] at l1 l2
      rw [if_pos ⟨hj, z⟩] at l3 l4
      have r4 : r 4 j = 97 := by rw [← hrr1 4 (by omega) (by omega) (by omega)]; exact z.1
      have e5 : c_la c1 n 5 j = 0 := by rw [c5, ← c15]; exact zc.2
      rw [l1, l2, l3, l4, e5, c30, r15, c102, r105, y1, y2, hcr 23 (by omega) (by omega) (by omega) (by omega) (by omega) (by omega) (by omega), hcr 24 (by omega) (by omega) (by omega) (by omega) (by omega) (by omega) (by omega), hcr 25 (by omega) (by omega) (by omega) (by omega) (by omega) (by omega) (by omega), hcr 26 (by omega) (by omega) (by omega) (by omega) (by omega) (by omega) (by omega), hcr 27 (by omega) (by omega) (by omega) (by omega) (by omega) (by omega) (by omega), hcr 28 (by omega) (by omega) (by omega) (by omega) (by omega) (by omega) (by omega), hcr 29 (by omega) (by omega) (by omega) (by omega) (by omega) (by omega) (by omega), hrr 6 (by omega) (by omega) (by omega) (by omega) (by omega), hrr 7 (by omega) (by omega) (by omega) (by omega) (by omega), hrr 8 (by omega) (by omega) (by omega) (by omega) (by omega), hrr 9 (by omega) (by omega) (by omega) (by omega) (by omega), hrr 12 (by omega) (by omega) (by omega) (by omega) (by omega), hrr 16 (by omega) (by omega) (by omega) (by omega) (by omega), hrr 17 (by omega) (by omega) (by omega) (by omega) (by omega), hrr 18 (by omega) (by omega) (by omega) (by omega) (by omega), d6.2.2.2]
      exact ⟨⟨⟨rfl, Or.inr (Or.inl rfl)⟩, fun _ => rfl, ⟨d3.1, fun q => absurd q (by decide)⟩, d4, fun _ => d5 (Or.inr (Or.inl r4)), ⟨d6.1, d6.2.1, d6.2.2.1, rfl⟩, d7, fun _ _ => rfl, d9⟩, ⟨⟨fun q => absurd rfl q, fun q => absurd q (by decide)⟩, fun q => absurd q (by decide)⟩, by rw [r4]; decide⟩
    · have zc : ¬ (c1 21 j = 97 ∧ c1 5 j = 0) := fun q => z ((key j hj).mp q)
      rw [if_neg (fun q => zc q.2)] at l1 l2
      rw [if_neg (fun q => z q.2)] at l3 l4
      rw [l1, l2, l3, l4, c30, r15, c5, c_dr_at, hcr1 21 (by omega) (by omega) (by omega) (by omega) (by omega), hcr1 22 (by omega) (by omega) (by omega) (by omega) (by omega), hrr1 4 (by omega) (by omega) (by omega), hrr1 5 (by omega) (by omega) (by omega), hcr 6 (by omega) (by omega) (by omega) (by omega) (by omega) (by omega) (by omega), hcr 7 (by omega) (by omega) (by omega) (by omega) (by omega) (by omega) (by omega), hcr 23 (by omega) (by omega) (by omega) (by omega) (by omega) (by omega) (by omega), hcr 24 (by omega) (by omega) (by omega) (by omega) (by omega) (by omega) (by omega), hcr 25 (by omega) (by omega) (by omega) (by omega) (by omega) (by omega) (by omega), hcr 26 (by omega) (by omega) (by omega) (by omega) (by omega) (by omega) (by omega), hcr 27 (by omega) (by omega) (by omega) (by omega) (by omega) (by omega) (by omega), hcr 28 (by omega) (by omega) (by omega) (by omega) (by omega) (by omega) (by omega), hcr 29 (by omega) (by omega) (by omega) (by omega) (by omega) (by omega) (by omega), hrr 6 (by omega) (by omega) (by omega) (by omega) (by omega), hrr 7 (by omega) (by omega) (by omega) (by omega) (by omega), hrr 8 (by omega) (by omega) (by omega) (by omega) (by omega), hrr 9 (by omega) (by omega) (by omega) (by omega) (by omega), hrr 10 (by omega) (by omega) (by omega) (by omega) (by omega), hrr 11 (by omega) (by omega) (by omega) (by omega) (by omega), hrr 12 (by omega) (by omega) (by omega) (by omega) (by omega), hrr 16 (by omega) (by omega) (by omega) (by omega) (by omega), hrr 17 (by omega) (by omega) (by omega) (by omega) (by omega), hrr 18 (by omega) (by omega) (by omega) (by omega) (by omega), d6.2.2.2, r25]
      refine ⟨⟨d1, d2, d3, d4, d5, ⟨d6.1, d6.2.1, d6.2.2.1, rfl⟩, d7, d8, d9⟩, ⟨?_, fun q => ?_⟩, Iff.rfl⟩
      · by_cases w : r 4 j = 97
        · have : ¬ c 7 j = nI v := fun u => z ⟨by rw [hrr1 4 (by omega) (by omega) (by omega)]; exact w, by rw [hrr1 11 (by omega) (by omega) (by omega), ← (z3.2 w).2.1]; exact u⟩
          rw [if_neg (fun u => this u.2)]; exact z3.1
        · have : c 5 j = 0 := Decidable.byContradiction fun u => w (z3.1.mp u)
          rw [this]
          refine ⟨fun u => ?_, fun u => absurd u w⟩
          split at u <;> exact absurd rfl u
      · obtain ⟨s1, s2, w, hwn, e1, g, hg, e2⟩ := z3.2 q
        refine ⟨s1, s2, w, hwn, e1, ?_⟩
        have : w ≠ v := fun u => z ⟨by rw [hrr1 4 (by omega) (by omega) (by omega)]; exact q, by rw [hrr1 11 (by omega) (by omega) (by omega), e1, u]⟩
        rw [upd_off this]; exact ⟨g, hg, e2⟩
  refine t_gen H.1 (fun q a => hcr q (by omega) (by omega) (by omega) (by omega) (by omega) (by omega) (by omega)) (fun q a => hrr q (by omega) (by omega) (by omega) (by omega) (by omega)) (R_S_p h512 ?_ ?_ ?_ H.1.1.1) (fun j hj => ⟨(DA j hj).1, (DA j hj).2.1⟩) (fun j a b => ?_) (fun i hi => ?_) (fun j hj => (DA j hj).2.2) ⟨_, R_E_p (ev := (99, h, 0, a)) h8 (ev_ok (by decide) (by omega) (by omega) ha) ?_ (tk_c (hcr 12 (by omega) (by omega) (by omega) (by omega) (by omega) (by omega) (by omega)) h8.2.1) (fun d _ => AG_b (by omega) (by omega) x5 x6 x7 h2 c5 (hcr 6 (by omega) (by omega) (by omega) (by omega) (by omega) (by omega) (by omega)) (hcr 7 (by omega) (by omega) (by omega) (by omega) (by omega) (by omega) (by omega)) c9)⟩
  · intro i hi; rw [c_la_row n 0 (by decide) (by decide), ← ec1, upr_row (by decide), up_row (by decide)]; simp [c_c0, c_app, up_app, hi]
  · rw [c_la_row n 0 (by decide) (by decide), ← ec1, upr_row (by decide), up_row (by decide)]; simp [c_c0, c_app, up_app]
  · intro i hi; rw [m_bar_row n 0 (by decide) (by decide), ← er1]; simp [up_app, hi]
  · obtain ⟨a0, a1, a2, a3, a4, a5, a6, a7⟩ := H.1.1.2.2.1 j a b
    unfold R_F
    rw [r15, if_neg (by omega), c5, c_dr_at, a0, hrr 6 (by omega) (by omega) (by omega) (by omega) (by omega), hrr 7 (by omega) (by omega) (by omega) (by omega) (by omega), hrr 8 (by omega) (by omega) (by omega) (by omega) (by omega), hrr 9 (by omega) (by omega) (by omega) (by omega) (by omega), hrr 16 (by omega) (by omega) (by omega) (by omega) (by omega), hrr 17 (by omega) (by omega) (by omega) (by omega) (by omega)]
    exact ⟨by split <;> rfl, a1, a2, a3, a4, a5, a6, a7⟩
  · rw [c9, r25]
    by_cases y : i = v
    · subst y
      rw [upd_at, upd_at, ev9, ef, nI_1]
      exact ⟨rfl, f + 1, by omega, rfl⟩
    · rw [upd_off y, upd_off y]; exact hB i hi
  · rw [c_la_row n 15 (by decide) (by decide), ← ec1, upr_row (by decide), up_row (by decide)]; funext j; simp [c_c0, c_app, up_app, upd]
