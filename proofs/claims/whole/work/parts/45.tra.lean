/-! what the calls do to the relation: setChance, addStratum, addHouse, addInterviewer, draw -/
theorem up_ne {c : St} {k i q j : Nat} {v : Int32} (h : j ≠ i) : up c k i v q j = c q j := by rw [up_app, if_neg (fun z => h z.2)]
theorem n_tt_one {M1 M3 : Nat → Nat → Bool} {T1 T3 : Nat → Nat} {n ns : Nat} (h : ct (M1 ns) n = 0) : ∀ t, n_tt M1 M3 T1 T3 n (ns + 1) t = n_tt M1 M3 T1 T3 n ns t
  | 0 => rfl
  | t + 1 => by
    have ih := n_tt_one (M3 := M3) (T1 := T1) (T3 := T3) h t
    unfold n_tt
    rw [ih, n_g_more 1 (fun k hk hk2 => by rw [show k = ns by omega]; exact h)]
theorem t_setChance {c r : St} {n ni ns hs : Nat} {x : Int32} (hx : ∃ k, k < 65536 ∧ x = nI k) (h : Rel c r n ni ns hs) : Rel (up c 0 1 x) (up (up r 0 0 0) 0 1 x) n ni ns hs := by
  have hc : ∀ q, q ≠ 0 → up c 0 1 x q = c q := fun q hq => up_row hq
  have hr : ∀ q, q ≠ 0 → up (up r 0 0 0) 0 1 x q = r q := fun q hq => by rw [up_row hq, up_row hq]
  refine ⟨Rel0_g (fun q a _ _ => hc q a) (tk_c (hc 12 (by omega))) (fun q a _ => hr q a) (Nat.le_refl _) (fun hS => ?_) h.1, R_W_c (hc 5 (by omega)) (hc 8 (by omega)) (fun q a _ => hr q a) h.2⟩
  obtain ⟨h1, h2, h3, h4, h5, h6, h7⟩ := hS
  unfold R_S
  simp only [up_app]
  exact ⟨h1, h2, h3, h4, ⟨rfl, hx⟩, h6, h7⟩
theorem t_addStratum {c r : St} {n ni ns hs : Nat} (h4 : ns < 4) (h : Rel c r n ni ns hs) : Rel (up c 0 3 (nI (ns + 1))) (up (up r 0 0 0) 0 2 (nI (ns + 1))) n ni (ns + 1) hs := by
  have hc : ∀ q, q ≠ 0 → up c 0 3 (nI (ns + 1)) q = c q := fun q hq => up_row hq
  have hr : ∀ q, q ≠ 0 → up (up r 0 0 0) 0 2 (nI (ns + 1)) q = r q := fun q hq => by rw [up_row hq, up_row hq]
  refine ⟨Rel0_g (fun q a _ _ => hc q a) (tk_c (hc 12 (by omega))) (fun q a _ => hr q a) (Nat.le_succ _) (fun hS => ?_) h.1, ?_⟩
  · obtain ⟨h1, h2, h3, h4, h5, h6, h7⟩ := hS
    unfold R_S
    simp only [up_app]
    exact ⟨⟨h1.1, h1.2.1, by omega, h1.2.2.2⟩, h2, h3, ⟨rfl, rfl⟩, h5, h6, h7⟩
  · have hw := Rel0_WW h.1
    have e : n_wr (up (up r 0 0 0) 0 2 (nI (ns + 1))) n (ns + 1) = n_wr r n ns := by
      unfold n_wr
      rw [hr 1 (by omega), hr 3 (by omega), hr 4 (by omega), hr 14 (by omega)]
      exact n_tt_one (WW_e hw (Nat.le_refl _) (by omega)) 7
    unfold R_W
    rw [e, hr 4 (by omega), hc 5 (by omega), hc 8 (by omega)]
    exact h.2
/-- a house more -/
def c_aH (c : St) (n js pl g3 : Nat) : St := up (up (up (c_nh c n (nI pl)) 1 n (nI js)) 2 n (nI g3)) 0 4 (nI (n + 1))
theorem t_addHouse {c r : St} {n ni ns hs js pl g3 : Nat} (hn : n < 24) (hjs : js < ns) (hp : pl < 100) (hg : g3 < 3) (h : Rel c r n ni ns hs) : Rel (c_aH c n js pl g3) (m_addH r n (nI js) (nI pl) (nI g3)) (n + 1) ni ns hs := by
  obtain ⟨⟨⟨h1, h2, h3, h4, h5, h6, E, h8⟩, h9⟩, h10⟩ := h
  have hcj : ∀ q j, q ≠ 0 → j ≠ n → c_aH c n js pl g3 q j = c q j := fun q j a b => by
    unfold c_aH
    rw [up_row a, up_ne b, up_ne b, c_nh_off b]
  have hrj : ∀ q j, q ≠ 0 → j ≠ n → m_addH r n (nI js) (nI pl) (nI g3) q j = r q j := fun q j a b => by
    unfold m_addH
    rw [up_row a, up_ne b, up_ne b, up_ne b, up_ne b, up_ne b, up_row a]
  have hc : ∀ q, (3 ≤ q ∧ q < 20) ∨ 30 < q → c_aH c n js pl g3 q = c q := fun q a => by
    unfold c_aH
    rw [up_row (by omega), up_row (by omega), up_row (by omega), c_nh_lo (by omega)]
  have hr : ∀ q, 5 ≤ q → q ≠ 18 → m_addH r n (nI js) (nI pl) (nI g3) q = r q := fun q a b => by
    unfold m_addH
    rw [up_row (by omega), up_row (by omega), up_row (by omega), up_row (by omega), up_row (by omega), up_row (by omega), up_row (by omega)]
  have f := h3 n (Nat.le_refl n) hn
  have e4 : m_addH r n (nI js) (nI pl) (nI g3) 4 n = 117 := by simp [m_addH, up_app]
  have hgT : ∀ g : Nat, g = 1 ∨ g = 3 → ∀ k, gT (m_addH r n (nI js) (nI pl) (nI g3) g) (m_addH r n (nI js) (nI pl) (nI g3) 4) (m_addH r n (nI js) (nI pl) (nI g3) 14) n k = gT (r g) (r 4) (r 14) n k := fun g hg k =>
    gT_cong (fun j hj => ⟨hrj g j (by omega) (by omega), by rw [hrj 4 j (by omega) (by omega)], fun _ => by rw [hrj 14 j (by omega) (by omega)]⟩)
  refine ⟨⟨⟨?_, fun j hj => ?_, fun j a b => R_F_c (hcj 5 j (by omega) (by omega)) (fun q _ _ _ => hrj q j (by omega) (by omega)) (h3 j (by omega) b), R_B_c (hc 9 (by omega)) (hr 25 (by omega) (by omega)) h4, fun i hi => R_I_c (fun q a b => by rw [hc q (by omega)]) (fun q a b => by rw [hr q (by omega) (by omega)]) (fun k => by rw [hc 40 (by omega)]) (hr 19 (by omega) (by omega)) (h5 i hi), R_J_c (hr 20 (by omega) (by omega)) (hr 21 (by omega) (by omega)) (Nat.le_refl _) h6, E, R_E_c (hc 15 (by omega)) (fun j _ => by rw [hc 5 (by omega)]) (hc 6 (by omega)) (hc 7 (by omega)) (hc 9 (by omega)) (tk_c (hc 12 (by omega)) h8.2.1) h8⟩, ?_⟩, ?_⟩
  · obtain ⟨a1, a2, a3, a4, a5, a6, a7⟩ := h1
    have z : ∀ i, i ≠ 4 → c_aH c n js pl g3 0 i = c 0 i := fun i hi => by
      unfold c_aH
      rw [up_off hi, up_row (by decide), up_row (by decide), c_nh_lo (by omega)]
    have z2 : ∀ i, i ≠ 0 → i ≠ 3 → m_addH r n (nI js) (nI pl) (nI g3) 0 i = r 0 i := fun i hi h3 => by
      unfold m_addH
      rw [up_off h3, up_row (by decide), up_row (by decide), up_row (by decide), up_row (by decide), up_row (by decide), up_off hi]
    unfold R_S
    rw [z 0 (by omega), z 1 (by omega), z 2 (by omega), z 3 (by omega), z 5 (by omega), z2 1 (by omega) (by omega), z2 2 (by omega) (by omega), z2 4 (by omega) (by omega), z2 5 (by omega) (by omega)]
    exact ⟨⟨by omega, a1.2⟩, ⟨up_at, up_at⟩, a3, a4, a5, a6, a7⟩
  · skip
    by_cases z : j = n
    · subst z
      obtain ⟨f0, f1, f2, f3, f4, f5, f6, f7⟩ := f
      refine ⟨?_, ?_, ?_⟩
      · unfold R_H
        simp [c_aH, m_addH, c_nh, up_app]
        exact ⟨⟨js, hjs, rfl⟩, ⟨g3, hg, rfl⟩, pl, hp, rfl⟩
      · unfold R_D
        rw [hr 5 (by omega) (by omega), hr 6 (by omega) (by omega), hr 7 (by omega) (by omega), hr 8 (by omega) (by omega), hr 9 (by omega) (by omega), hr 12 (by omega) (by omega), hr 15 (by omega) (by omega), hr 16 (by omega) (by omega), hr 17 (by omega) (by omega), e4, f1, f2, f3, f4, f5, f6, f7]
        simp [c_aH, m_addH, c_nh, up_app, isSt]
        exact ⟨⟨0, by omega, rfl⟩, 0, by omega, rfl⟩
      · unfold R_A
        rw [e4, hc 5 (by omega), f0]
        simp
    · have hj2 : j < n := by omega
      obtain ⟨b1, b2, b3⟩ := h2 j hj2
      exact ⟨R_H_c (fun q _ => hcj q j (by omega) z) (fun q _ => hrj q j (by omega) z) (Nat.le_refl _) b1, R_D_c (fun q _ _ => hcj q j (by omega) z) (fun q _ _ _ _ _ _ => hrj q j (by omega) z) (Nat.le_refl _) b2, R_A_c (fun q _ _ => hcj q j (by omega) z) (fun q _ => hrj q j (by omega) z) (hr 25 (by omega) (by omega)) (Nat.le_refl _) b3⟩
  · refine ⟨fun k hk => ?_, fun k hk => ?_⟩
    · rw [gT_s e4, hgT 1 (by omega), hc 3 (by omega)]; exact h9.1 k hk
    · rw [gT_s e4, hgT 3 (by omega), hc 4 (by omega)]; exact h9.2 k hk
  · have e : n_wr (m_addH r n (nI js) (nI pl) (nI g3)) (n + 1) ns = n_wr r n ns := by
      rw [n_wr_s e4]
      exact n_wr_cong (fun j hj => ⟨hrj 1 j (by omega) (by omega), hrj 3 j (by omega) (by omega), by rw [hrj 4 j (by omega) (by omega)]⟩) (hgT 1 (by omega)) (hgT 3 (by omega))
    refine ⟨fun j hj ha => ?_, fun j hj h0 => ?_⟩
    · by_cases z : j = n
      · subst z; rw [e4] at ha; exact absurd ha (by decide)
      · rw [hrj 4 j (by omega) z] at ha
        rw [e, hc 8 (by omega)]
        exact h10.1 j (by omega) ha
    · rw [hc 5 (by omega)] at h0
      rw [hc 8 (by omega)]
      exact h10.2 j hj h0
/-- an interviewer more -/
theorem c_abs0 (x : Int32) : (0 : Int32) + c_abs (x - x) = 0 := by
  rw [Int32.sub_self]
  decide
theorem t_addInt {c r : St} {n ni ns hs pl : Nat} {x y : Int32} (hi4 : ni < 4) (hp : pl < 100) (h : Rel c r n ni ns hs) : Rel (up (c_ni c ni (nI pl) x y) 0 0 (nI (ni + 1))) (m_addI r ni (nI pl) x y) n (ni + 1) ns hs := by
  obtain ⟨⟨⟨h1, h2, h3, h4, h5, h6, E, h8⟩, h9⟩, h10⟩ := h
  have hc : ∀ q, 1 ≤ q → q < 31 ∨ (36 < q ∧ q ≠ 40) → up (c_ni c ni (nI pl) x y) 0 0 (nI (ni + 1)) q = c q := fun q a b => by
    rw [up_row (by omega), c_ni_lo b]
  have hr : ∀ q, 1 ≤ q → q < 22 ∨ 24 < q → m_addI r ni (nI pl) x y q = r q := fun q a b => by
    unfold m_addI
    rw [up_row (by omega), up_row (by omega), up_row (by omega), up_row (by omega), up_row (by omega)]
  have hrj : ∀ q j, q ≠ 0 → j ≠ ni → m_addI r ni (nI pl) x y q j = r q j := fun q j a b => by
    unfold m_addI
    rw [up_row a, up_ne b, up_ne b, up_ne b, up_row a]
  refine ⟨⟨⟨?_, fun j hj => ?_, fun j a b => R_F_c (by rw [hc 5 (by omega) (by omega)]) (fun q _ _ _ => by rw [hr q (by omega) (by omega)]) (h3 j (by omega) b), R_B_c (hc 9 (by omega) (by omega)) (hr 25 (by omega) (by omega)) h4, fun i hi => ?_, R_J_c (hr 20 (by omega) (by omega)) (hr 21 (by omega) (by omega)) (by omega) h6, E, R_E_c (hc 15 (by omega) (by omega)) (fun j _ => by rw [hc 5 (by omega) (by omega)]) (hc 6 (by omega) (by omega)) (hc 7 (by omega) (by omega)) (hc 9 (by omega) (by omega)) (tk_c (hc 12 (by omega) (by omega)) h8.2.1) h8⟩, R_T_c (hc 3 (by omega) (by omega)) (hc 4 (by omega) (by omega)) (fun k => by rw [hr 1 (by omega) (by omega), hr 4 (by omega) (by omega), hr 14 (by omega) (by omega)]) (fun k => by rw [hr 3 (by omega) (by omega), hr 4 (by omega) (by omega), hr 14 (by omega) (by omega)]) h9⟩, ?_⟩
  · obtain ⟨a1, a2, a3, a4, a5, a6, a7⟩ := h1
    have z : ∀ i, i ≠ 0 → up (c_ni c ni (nI pl) x y) 0 0 (nI (ni + 1)) 0 i = c 0 i := fun i hi => by
      rw [up_off hi, c_ni_lo (by omega)]
    have z2 : ∀ i, i ≠ 0 → i ≠ 4 → m_addI r ni (nI pl) x y 0 i = r 0 i := fun i hi h3 => by
      unfold m_addI
      rw [up_off h3, up_row (by decide), up_row (by decide), up_row (by decide), up_off hi]
    unfold R_S
    rw [z 1 (by omega), z 2 (by omega), z 3 (by omega), z 4 (by omega), z 5 (by omega), z2 1 (by omega) (by omega), z2 2 (by omega) (by omega), z2 3 (by omega) (by omega), z2 5 (by omega) (by omega)]
    exact ⟨⟨a1.1, by omega, a1.2.2⟩, a2, ⟨up_at, up_at⟩, a4, a5, a6, a7⟩
  · obtain ⟨b1, b2, b3⟩ := h2 j hj
    exact ⟨R_H_c (fun q _ => by rw [hc q (by omega) (by omega)]) (fun q _ => by rw [hr q (by omega) (by omega)]) (Nat.le_refl _) b1, R_D_c (fun q _ _ => by rw [hc q (by omega) (by omega)]) (fun q _ _ _ _ _ _ => by rw [hr q (by omega) (by omega)]) (by omega) b2, R_A_c (fun q _ _ => by rw [hc q (by omega) (by omega)]) (fun q _ => by rw [hr q (by omega) (by omega)]) (hr 25 (by omega) (by omega)) (by omega) b3⟩
  · by_cases z : i = ni
    · subst z
      obtain ⟨g1, g2⟩ := h6 i (Nat.le_refl _) hi4
      unfold R_I
      rw [hr 19 (by omega) (by omega), hr 20 (by omega) (by omega), hr 21 (by omega) (by omega), g1, g2]
      simp [up_app, c_ni, upr, m_addI]
      exact ⟨⟨pl, hp, rfl⟩, ⟨0, by omega, rfl, fun k hk => absurd hk (Nat.not_lt_zero _)⟩, by decide⟩
    · exact R_I_c (fun q _ _ => by rw [up_row (by omega), c_ni_off z (by omega)]) (fun q _ _ => hrj q i (by omega) z) (fun k => by rw [up_row (by omega), c_ni_40, if_neg (by omega)]) (hr 19 (by omega) (by omega)) (h5 i (by omega))
  · have e : n_wr (m_addI r ni (nI pl) x y) n ns = n_wr r n ns := by
      unfold n_wr
      rw [hr 1 (by omega) (by omega), hr 3 (by omega) (by omega), hr 4 (by omega) (by omega), hr 14 (by omega) (by omega)]
    unfold R_W
    rw [e, hr 4 (by omega) (by omega), hc 5 (by omega) (by omega), hc 8 (by omega) (by omega)]
    exact h10
