/-! visits -/
theorem t_gen {c r c' r' : St} {n ni ns hs hs' : Nat} (H : Rel0 c r n ni ns hs) (hcr : ∀ q, (1 ≤ q ∧ q ≤ 4) ∨ q = 12 ∨ q = 20 ∨ 30 < q → c' q = c q) (hrr : ∀ q, (1 ≤ q ∧ q ≤ 3) ∨ q = 14 ∨ (19 ≤ q ∧ q ≤ 24) → r' q = r q) (hS : R_S c' r' n ni ns hs') (hDA : ∀ j, j < n → R_D c' r' ni j ∧ R_A c' r' ni j) (hF : ∀ j, n ≤ j → j < 24 → R_F c' r' j) (hB : R_B c' r') (h117 : ∀ j, j < n → (r' 4 j = 117 ↔ r 4 j = 117)) (hE : ∃ E, R_E c' hs' E) : Rel0 c' r' n ni ns hs' := by
  obtain ⟨⟨h1, h2, h3, h4, h5, h6, -⟩, h9⟩ := H
  refine ⟨⟨hS, fun j hj => ⟨R_H_c (fun q _ => by rw [hcr q (by omega)]) (fun q _ => by rw [hrr q (by omega)]) (Nat.le_refl _) (h2 j hj).1, hDA j hj⟩, hF, hB, fun i hi => R_I_c (fun q _ _ => by rw [hcr q (by omega)]) (fun q _ _ => by rw [hrr q (by omega)]) (fun k => by rw [hcr 40 (by omega)]) (hrr 19 (by omega)) (h5 i hi), R_J_c (hrr 20 (by omega)) (hrr 21 (by omega)) (Nat.le_refl _) h6, hE⟩, R_T_c (hcr 3 (by omega)) (hcr 4 (by omega)) (fun k => gT_cong (fun j hj => ⟨by rw [hrr 1 (by omega)], h117 j hj, fun _ => by rw [hrr 14 (by omega)]⟩)) (fun k => gT_cong (fun j hj => ⟨by rw [hrr 3 (by omega)], h117 j hj, fun _ => by rw [hrr 14 (by omega)]⟩)) h9⟩
theorem R_S_p {c r c' r' : St} {n ni ns hs : Nat} (h512 : hs < 512) (h0 : ∀ i, i ≠ 5 → c' 0 i = c 0 i) (h05 : c' 0 5 = nI (hs + 1)) (hr0 : ∀ i, i ≠ 0 → r' 0 i = r 0 i) (h : R_S c r n ni ns hs) : R_S c' r' n ni ns (hs + 1) := by
  obtain ⟨a1, a2, a3, a4, a5, a6, a7⟩ := h
  unfold R_S
  rw [h0 0 (by omega), h0 1 (by omega), h0 2 (by omega), h0 3 (by omega), h0 4 (by omega), h05, hr0 1 (by omega), hr0 2 (by omega), hr0 3 (by omega), hr0 4 (by omega), hr0 5 (by omega)]
  exact ⟨⟨a1.1, a1.2.1, a1.2.2.1, by omega⟩, a2, a3, a4, a5, a6, rfl⟩
theorem t_vis {c r c' r' : St} {n ni ns hs h : Nat} {ev : Ev} (H : Rel0 c r n ni ns hs) (h512 : hs < 512) (hh : h < n) (hok : e_ok ev)
    (hcj : ∀ q j, q ≠ 0 → q ≠ 15 → j ≠ h → c' q j = c q j) (hcr : ∀ q, q ≠ 0 → q ≠ 15 → q < 5 ∨ (7 < q ∧ q < 21) ∨ 30 < q → c' q = c q) (hrj : ∀ q j, q ≠ 0 → j ≠ h → r' q j = r q j) (hrr : ∀ q, q ≠ 0 → q < 4 ∨ q = 14 ∨ 18 < q → r' q = r q)
    (h15 : c' 15 = upd (c 15) hs (e_w ev)) (h0 : ∀ i, i ≠ 5 → c' 0 i = c 0 i) (h05 : c' 0 5 = nI (hs + 1)) (hr0 : ∀ i, i ≠ 0 → r' 0 i = r 0 i)
    (hD : R_D c' r' ni h) (hA : R_A c' r' ni h) (h117 : r' 4 h = 117 ↔ r 4 h = 117) (hag : ∀ d, tk_ok 10 d → AG d c → AG (c_one 10 d ev) c') : Rel0 c' r' n ni ns (hs + 1) := by
  obtain ⟨E, h8⟩ := H.1.2.2.2.2.2.2
  refine t_gen H (fun q a => hcr q (by omega) (by omega) (by omega)) (fun q a => hrr q (by omega) (by omega)) (R_S_p h512 h0 h05 hr0 H.1.1) (fun j hj => ?_) (fun j a b => R_F_c (hcj 5 j (by omega) (by omega) (by omega)) (fun q _ _ _ => hrj q j (by omega) (by omega)) (H.1.2.2.1 j a b)) (R_B_c (hcr 9 (by omega) (by omega) (by omega)) (hrr 25 (by omega) (by omega)) H.1.2.2.2.1) (fun j hj => ?_) ⟨_, R_E_p h8 hok h15 (tk_c (hcr 12 (by omega) (by omega) (by omega)) h8.2.1) hag⟩
  · by_cases z : j = h
    · subst z; exact ⟨hD, hA⟩
    · obtain ⟨b1, b2, b3⟩ := H.1.2.1 j hj
      exact ⟨R_D_c (fun q _ _ => hcj q j (by omega) (by omega) z) (fun q _ _ _ _ _ _ => hrj q j (by omega) z) (Nat.le_refl _) b2, R_A_c (fun q _ _ => hcj q j (by omega) (by omega) z) (fun q _ => hrj q j (by omega) z) (hrr 25 (by omega) (by omega)) (Nat.le_refl _) b3⟩
  · by_cases z : j = h
    · subst z; exact h117
    · rw [hrj 4 j (by omega) z]
/-- .. that tells no answer: the weights stay -/
theorem t_visW {c r c' r' : St} {n ni ns hs h : Nat} (H : Rel c r n ni ns hs) (H' : Rel0 c' r' n ni ns (hs + 1)) (hh : h < n) (h5 : c' 5 = c 5) (h8 : c' 8 = c 8) (hrj : ∀ q j, q ≠ 0 → j ≠ h → r' q j = r q j) (hrr : ∀ q, q ≠ 0 → q < 4 ∨ q = 14 ∨ 18 < q → r' q = r q) (h117 : r' 4 h = 117 ↔ r 4 h = 117) (h97 : r' 4 h = 97 ↔ r 4 h = 97) : Rel c' r' n ni ns (hs + 1) := by
  have i97 : ∀ j, j < n → (r' 4 j = 97 ↔ r 4 j = 97) := fun j hj => by
    by_cases z : j = h
    · subst z; exact h97
    · rw [hrj 4 j (by omega) z]
  have i117 : ∀ j, j < n → (r' 4 j = 117 ↔ r 4 j = 117) := fun j hj => by
    by_cases z : j = h
    · subst z; exact h117
    · rw [hrj 4 j (by omega) z]
  have e : n_wr r' n ns = n_wr r n ns := n_wr_cong (fun j hj => ⟨by rw [hrr 1 (by omega) (by omega)], by rw [hrr 3 (by omega) (by omega)], i97 j hj⟩) (fun k => gT_cong (fun j hj => ⟨by rw [hrr 1 (by omega) (by omega)], i117 j hj, fun _ => by rw [hrr 14 (by omega) (by omega)]⟩)) (fun k => gT_cong (fun j hj => ⟨by rw [hrr 3 (by omega) (by omega)], i117 j hj, fun _ => by rw [hrr 14 (by omega) (by omega)]⟩))
  refine ⟨H', fun j hj ha => ?_, ?_⟩
  · rw [e, h8]; exact H.2.1 j hj ((i97 j hj).mp ha)
  · rw [h5, h8]; exact H.2.2
/-- what an open visit tells of its house -/
theorem o_vis {c r : St} {n ni ns hs h v : Nat} (H : Relx c r n ni ns hs) (hh : h < n) (hr0 : r 18 h = nI v) (hv : v < ni) (ht : r 17 h = 0) : r 4 h = 119 ∧ r 16 h = 0 ∧ c 5 h = 0 := by
  obtain ⟨-, b2, b3⟩ := H.2.1 h hh
  obtain ⟨d1, d2, d3, d4, d5, d6, d7, d8, d9⟩ := b2
  have h4 := H.1.1.2.1
  have e := d8 (by rw [hr0]; exact nI_m1 (by omega)) ht
  refine ⟨e, d9 ht, Decidable.byContradiction fun q => ?_⟩
  have := b3.1.mp q
  rw [e] at this
  exact absurd this (by decide)
theorem ev_ok {o : Int32} {h v a : Nat} (ho : o = 97 ∨ o = 110 ∨ o = 114 ∨ o = 101 ∨ o = 99) (h1 : h < 24) (h2 : v < 4) (h3 : a < 10) : e_ok (o, h, v, a) := ⟨ho, h1, h2, h3⟩
theorem AG_n2 {d c c' : St} {o : Int32} {h v a : Nat} (h0 : ¬ o = 97) (h1 : ¬ o = 99) (h5 : c' 5 = c 5) (h6 : c' 6 = c 6) (h7 : c' 7 = c 7) (h9 : c' 9 = c 9) (H : AG d c) : AG (c_one 10 d (o, h, v, a)) c' := AG_n (ev := (o, h, v, a)) h0 h1 h5 h6 h7 h9 H
theorem nI_lt2 {k B : Nat} (hk : k < 100) (hB : B < 100) (h : nI k + 1 < nI B) : k + 1 < B := by
  rw [nI_1] at h
  exact (nI_ltI (by omega) (by omega)).mp h
theorem t_visit_n {c r : St} {n ni ns hs h v a : Nat} (H : Rel c r n ni ns hs) (h512 : hs < 512) (hh : h < n) (hr0 : r 18 h = nI v) (hv : v < ni) (ht : r 17 h = 0) (ha : a < 10) (h3 : c 24 h + 1 < 3) : Rel (up (up (up (c_v0 c hs h v a 110) 24 h (c 24 h + 1)) 21 h 119) 22 h (c 0 2 + (c 24 h + 1))) (up (up (up (up (up (up (up r 0 0 0) 17 h 1) 6 h (r 6 h + 1)) 7 h (r 7 h + 1)) 5 h (r 0 5 + (r 7 h + 1))) 4 h 119) 16 h 0) n ni ns (hs + 1) := by
  obtain ⟨o1, o2, o3⟩ := o_vis H.1.1 hh hr0 hv ht
  have hn := H.1.1.1.1
  obtain ⟨-, b2, b3⟩ := H.1.1.2.1 h hh
  obtain ⟨d1, d2, d3, d4, d5, d6, d7, d8, d9⟩ := b2
  obtain ⟨⟨k7, q7, e7⟩, k8, q8, e8⟩ := d5 (Or.inl o1)
  obtain ⟨dd, hdd, y1, y2⟩ := H.1.1.1.2.2.2.2.2.1
  have f1 : c 23 h = r 6 h := d3.1
  obtain ⟨f2, f3, f4⟩ := d4
  obtain ⟨f5, f6, f7, f8⟩ := d6
  generalize ec : up (up (up (c_v0 c hs h v a 110) 24 h (c 24 h + 1)) 21 h 119) 22 h (c 0 2 + (c 24 h + 1)) = c'
  generalize er : up (up (up (up (up (up (up r 0 0 0) 17 h 1) 6 h (r 6 h + 1)) 7 h (r 7 h + 1)) 5 h (r 0 5 + (r 7 h + 1))) 4 h 119) 16 h 0 = r'
  have hcj : ∀ q j, q ≠ 0 → q ≠ 15 → j ≠ h → c' q j = c q j := fun q j a b d => by
    rw [← ec]
    simp only [c_v0, c_app, up_ne d, up_row a, up_row b]
  have hcr : ∀ q, q ≠ 0 → q ≠ 15 → q < 21 ∨ 30 < q → c' q = c q := fun q a b d => by
    rw [← ec]
    unfold c_v0 c_app
    funext j
    simp only [up_app]
    simp (disch := omega) only [if_neg]
  have hrj : ∀ q j, q ≠ 0 → j ≠ h → r' q j = r q j := fun q j a d => by
    rw [← er]
    simp only [up_ne d, up_row a]
  have hrr : ∀ q, q ≠ 0 → q < 4 ∨ q = 14 ∨ 18 < q → r' q = r q := fun q a b => by
    rw [← er]
    funext j
    simp only [up_app]
    simp (disch := omega) only [if_neg]
  have g5 : c' 5 = c 5 := hcr 5 (by omega) (by omega) (by omega)
  have i4 : r' 4 h = 119 := by rw [← er]; simp [up_app]
  refine t_visW H (t_vis (ev := (110, h, v, a)) H.1 h512 hh (ev_ok (by decide) (by omega) (by have := H.1.1.1.1.2.1; omega) ha) hcj (fun q a b d => hcr q a b (by omega)) hrj hrr ?_ ?_ ?_ ?_ ?_ ?_ ?_ (fun d _ => AG_n2 (by decide) (by decide) g5 (hcr 6 (by omega) (by omega) (by omega)) (hcr 7 (by omega) (by omega) (by omega)) (hcr 9 (by omega) (by omega) (by omega)))) hh g5 (hcr 8 (by omega) (by omega) (by omega)) hrj hrr ?_ ?_
  · rw [← ec]; funext j; simp [c_v0, c_app, up_app, upd]
  · intro i hi; rw [← ec]; simp [c_v0, c_app, up_app, hi]
  · rw [← ec]; simp [c_v0, c_app, up_app]
  · intro i hi; rw [← er]; simp [up_app, hi]
  · unfold R_D
    rw [← ec, ← er]
    simp [c_v0, c_app, up_app, isSt, f1, f2, f3, f4, f5, f6, f7, f8, y1, y2]
    exact ⟨⟨⟨k7 + 1, nI_lt2 (B := 3) (by omega) (by omega) (by rw [← e7, ← f2]; exact h3), by rw [e7, nI_1]⟩, k8, q8, e8⟩, o2, d7⟩
  · unfold R_A
    rw [i4, g5, o3]
    exact ⟨⟨fun q => absurd rfl q, fun q => absurd q (by decide)⟩, fun q => absurd q (by decide)⟩
  · rw [i4, o1] <;> decide
  · rw [i4, o1] <;> decide
  · rw [i4, o1] <;> decide
theorem t_visit_n3 {c r : St} {n ni ns hs h v a : Nat} (H : Rel c r n ni ns hs) (h512 : hs < 512) (hh : h < n) (hr0 : r 18 h = nI v) (hv : v < ni) (ht : r 17 h = 0) (ha : a < 10)  : Rel (up (up (up (c_v0 c hs h v a 110) 24 h (c 24 h + 1)) 21 h 103) 29 h 1) (up (up (up (up (up (up (up r 0 0 0) 17 h 1) 6 h (r 6 h + 1)) 7 h (r 7 h + 1)) 5 h (r 0 5 + (r 7 h + 1))) 4 h 103) 16 h 1) n ni ns (hs + 1) := by
  obtain ⟨o1, o2, o3⟩ := o_vis H.1.1 hh hr0 hv ht
  have hn := H.1.1.1.1
  obtain ⟨-, b2, b3⟩ := H.1.1.2.1 h hh
  obtain ⟨d1, d2, d3, d4, d5, d6, d7, d8, d9⟩ := b2
  obtain ⟨⟨k7, q7, e7⟩, k8, q8, e8⟩ := d5 (Or.inl o1)
  obtain ⟨dd, hdd, y1, y2⟩ := H.1.1.1.2.2.2.2.2.1
  have f1 : c 23 h = r 6 h := d3.1
  obtain ⟨f2, f3, f4⟩ := d4
  obtain ⟨f5, f6, f7, f8⟩ := d6
  generalize ec : up (up (up (c_v0 c hs h v a 110) 24 h (c 24 h + 1)) 21 h 103) 29 h 1 = c'
  generalize er : up (up (up (up (up (up (up r 0 0 0) 17 h 1) 6 h (r 6 h + 1)) 7 h (r 7 h + 1)) 5 h (r 0 5 + (r 7 h + 1))) 4 h 103) 16 h 1 = r'
  have hcj : ∀ q j, q ≠ 0 → q ≠ 15 → j ≠ h → c' q j = c q j := fun q j a b d => by
    rw [← ec]
    simp only [c_v0, c_app, up_ne d, up_row a, up_row b]
  have hcr : ∀ q, q ≠ 0 → q ≠ 15 → q < 21 ∨ 30 < q → c' q = c q := fun q a b d => by
    rw [← ec]
    unfold c_v0 c_app
    funext j
    simp only [up_app]
    simp (disch := omega) only [if_neg]
  have hrj : ∀ q j, q ≠ 0 → j ≠ h → r' q j = r q j := fun q j a d => by
    rw [← er]
    simp only [up_ne d, up_row a]
  have hrr : ∀ q, q ≠ 0 → q < 4 ∨ q = 14 ∨ 18 < q → r' q = r q := fun q a b => by
    rw [← er]
    funext j
    simp only [up_app]
    simp (disch := omega) only [if_neg]
  have g5 : c' 5 = c 5 := hcr 5 (by omega) (by omega) (by omega)
  have i4 : r' 4 h = 103 := by rw [← er]; simp [up_app]
  refine t_visW H (t_vis (ev := (110, h, v, a)) H.1 h512 hh (ev_ok (by decide) (by omega) (by have := H.1.1.1.1.2.1; omega) ha) hcj (fun q a b d => hcr q a b (by omega)) hrj hrr ?_ ?_ ?_ ?_ ?_ ?_ ?_ (fun d _ => AG_n2 (by decide) (by decide) g5 (hcr 6 (by omega) (by omega) (by omega)) (hcr 7 (by omega) (by omega) (by omega)) (hcr 9 (by omega) (by omega) (by omega)))) hh g5 (hcr 8 (by omega) (by omega) (by omega)) hrj hrr ?_ ?_
  · rw [← ec]; funext j; simp [c_v0, c_app, up_app, upd]
  · intro i hi; rw [← ec]; simp [c_v0, c_app, up_app, hi]
  · rw [← ec]; simp [c_v0, c_app, up_app]
  · intro i hi; rw [← er]; simp [up_app, hi]
  · unfold R_D
    rw [← ec, ← er]
    simp [c_v0, c_app, up_app, isSt, f1, f2, f3, f4, f5, f6, f7, f8, y1, y2]
    exact d7
  · unfold R_A
    rw [i4, g5, o3]
    exact ⟨⟨fun q => absurd rfl q, fun q => absurd q (by decide)⟩, fun q => absurd q (by decide)⟩
  · rw [i4, o1] <;> decide
  · rw [i4, o1] <;> decide
  · rw [i4, o1] <;> decide
theorem t_visit_r {c r : St} {n ni ns hs h v a : Nat} (H : Rel c r n ni ns hs) (h512 : hs < 512) (hh : h < n) (hr0 : r 18 h = nI v) (hv : v < ni) (ht : r 17 h = 0) (ha : a < 10) (h3 : c 25 h + 1 < 2) : Rel (up (up (up (up (c_v0 c hs h v a 114) 25 h (c 25 h + 1)) 26 h (c 26 h ||| 1 <<< (nI v &&& 31))) 21 h 119) 22 h (c 0 2 + 3)) (up (up (up (up (up (up (up (up r 0 0 0) 17 h 1) 6 h (r 6 h + 1)) 8 h (r 8 h + 1)) 9 h (r 9 h ||| 1 <<< (nI v &&& 31))) 5 h (r 0 5 + 3)) 4 h 119) 16 h 0) n ni ns (hs + 1) := by
  obtain ⟨o1, o2, o3⟩ := o_vis H.1.1 hh hr0 hv ht
  have hn := H.1.1.1.1
  obtain ⟨-, b2, b3⟩ := H.1.1.2.1 h hh
  obtain ⟨d1, d2, d3, d4, d5, d6, d7, d8, d9⟩ := b2
  obtain ⟨⟨k7, q7, e7⟩, k8, q8, e8⟩ := d5 (Or.inl o1)
  obtain ⟨dd, hdd, y1, y2⟩ := H.1.1.1.2.2.2.2.2.1
  have f1 : c 23 h = r 6 h := d3.1
  obtain ⟨f2, f3, f4⟩ := d4
  obtain ⟨f5, f6, f7, f8⟩ := d6
  generalize ec : up (up (up (up (c_v0 c hs h v a 114) 25 h (c 25 h + 1)) 26 h (c 26 h ||| 1 <<< (nI v &&& 31))) 21 h 119) 22 h (c 0 2 + 3) = c'
  generalize er : up (up (up (up (up (up (up (up r 0 0 0) 17 h 1) 6 h (r 6 h + 1)) 8 h (r 8 h + 1)) 9 h (r 9 h ||| 1 <<< (nI v &&& 31))) 5 h (r 0 5 + 3)) 4 h 119) 16 h 0 = r'
  have hcj : ∀ q j, q ≠ 0 → q ≠ 15 → j ≠ h → c' q j = c q j := fun q j a b d => by
    rw [← ec]
    simp only [c_v0, c_app, up_ne d, up_row a, up_row b]
  have hcr : ∀ q, q ≠ 0 → q ≠ 15 → q < 21 ∨ 30 < q → c' q = c q := fun q a b d => by
    rw [← ec]
    unfold c_v0 c_app
    funext j
    simp only [up_app]
    simp (disch := omega) only [if_neg]
  have hrj : ∀ q j, q ≠ 0 → j ≠ h → r' q j = r q j := fun q j a d => by
    rw [← er]
    simp only [up_ne d, up_row a]
  have hrr : ∀ q, q ≠ 0 → q < 4 ∨ q = 14 ∨ 18 < q → r' q = r q := fun q a b => by
    rw [← er]
    funext j
    simp only [up_app]
    simp (disch := omega) only [if_neg]
  have g5 : c' 5 = c 5 := hcr 5 (by omega) (by omega) (by omega)
  have i4 : r' 4 h = 119 := by rw [← er]; simp [up_app]
  refine t_visW H (t_vis (ev := (114, h, v, a)) H.1 h512 hh (ev_ok (by decide) (by omega) (by have := H.1.1.1.1.2.1; omega) ha) hcj (fun q a b d => hcr q a b (by omega)) hrj hrr ?_ ?_ ?_ ?_ ?_ ?_ ?_ (fun d _ => AG_n2 (by decide) (by decide) g5 (hcr 6 (by omega) (by omega) (by omega)) (hcr 7 (by omega) (by omega) (by omega)) (hcr 9 (by omega) (by omega) (by omega)))) hh g5 (hcr 8 (by omega) (by omega) (by omega)) hrj hrr ?_ ?_
  · rw [← ec]; funext j; simp [c_v0, c_app, up_app, upd]
  · intro i hi; rw [← ec]; simp [c_v0, c_app, up_app, hi]
  · rw [← ec]; simp [c_v0, c_app, up_app]
  · intro i hi; rw [← er]; simp [up_app, hi]
  · unfold R_D
    rw [← ec, ← er]
    simp [c_v0, c_app, up_app, isSt, f1, f2, f3, f4, f5, f6, f7, f8, y1, y2]
    exact ⟨⟨⟨k7, q7, e7⟩, k8 + 1, nI_lt2 (B := 2) (by omega) (by omega) (by rw [← e8, ← f3]; exact h3), by rw [e8, nI_1]⟩, o2, d7⟩
  · unfold R_A
    rw [i4, g5, o3]
    exact ⟨⟨fun q => absurd rfl q, fun q => absurd q (by decide)⟩, fun q => absurd q (by decide)⟩
  · rw [i4, o1] <;> decide
  · rw [i4, o1] <;> decide
  · rw [i4, o1] <;> decide
theorem t_visit_r2 {c r : St} {n ni ns hs h v a : Nat} (H : Rel c r n ni ns hs) (h512 : hs < 512) (hh : h < n) (hr0 : r 18 h = nI v) (hv : v < ni) (ht : r 17 h = 0) (ha : a < 10)  : Rel (up (up (up (up (c_v0 c hs h v a 114) 25 h (c 25 h + 1)) 26 h (c 26 h ||| 1 <<< (nI v &&& 31))) 21 h 114) 29 h 1) (up (up (up (up (up (up (up (up r 0 0 0) 17 h 1) 6 h (r 6 h + 1)) 8 h (r 8 h + 1)) 9 h (r 9 h ||| 1 <<< (nI v &&& 31))) 5 h (r 0 5 + 3)) 4 h 114) 16 h 1) n ni ns (hs + 1) := by
  obtain ⟨o1, o2, o3⟩ := o_vis H.1.1 hh hr0 hv ht
  have hn := H.1.1.1.1
  obtain ⟨-, b2, b3⟩ := H.1.1.2.1 h hh
  obtain ⟨d1, d2, d3, d4, d5, d6, d7, d8, d9⟩ := b2
  obtain ⟨⟨k7, q7, e7⟩, k8, q8, e8⟩ := d5 (Or.inl o1)
  obtain ⟨dd, hdd, y1, y2⟩ := H.1.1.1.2.2.2.2.2.1
  have f1 : c 23 h = r 6 h := d3.1
  obtain ⟨f2, f3, f4⟩ := d4
  obtain ⟨f5, f6, f7, f8⟩ := d6
  generalize ec : up (up (up (up (c_v0 c hs h v a 114) 25 h (c 25 h + 1)) 26 h (c 26 h ||| 1 <<< (nI v &&& 31))) 21 h 114) 29 h 1 = c'
  generalize er : up (up (up (up (up (up (up (up r 0 0 0) 17 h 1) 6 h (r 6 h + 1)) 8 h (r 8 h + 1)) 9 h (r 9 h ||| 1 <<< (nI v &&& 31))) 5 h (r 0 5 + 3)) 4 h 114) 16 h 1 = r'
  have hcj : ∀ q j, q ≠ 0 → q ≠ 15 → j ≠ h → c' q j = c q j := fun q j a b d => by
    rw [← ec]
    simp only [c_v0, c_app, up_ne d, up_row a, up_row b]
  have hcr : ∀ q, q ≠ 0 → q ≠ 15 → q < 21 ∨ 30 < q → c' q = c q := fun q a b d => by
    rw [← ec]
    unfold c_v0 c_app
    funext j
    simp only [up_app]
    simp (disch := omega) only [if_neg]
  have hrj : ∀ q j, q ≠ 0 → j ≠ h → r' q j = r q j := fun q j a d => by
    rw [← er]
    simp only [up_ne d, up_row a]
  have hrr : ∀ q, q ≠ 0 → q < 4 ∨ q = 14 ∨ 18 < q → r' q = r q := fun q a b => by
    rw [← er]
    funext j
    simp only [up_app]
    simp (disch := omega) only [if_neg]
  have g5 : c' 5 = c 5 := hcr 5 (by omega) (by omega) (by omega)
  have i4 : r' 4 h = 114 := by rw [← er]; simp [up_app]
  refine t_visW H (t_vis (ev := (114, h, v, a)) H.1 h512 hh (ev_ok (by decide) (by omega) (by have := H.1.1.1.1.2.1; omega) ha) hcj (fun q a b d => hcr q a b (by omega)) hrj hrr ?_ ?_ ?_ ?_ ?_ ?_ ?_ (fun d _ => AG_n2 (by decide) (by decide) g5 (hcr 6 (by omega) (by omega) (by omega)) (hcr 7 (by omega) (by omega) (by omega)) (hcr 9 (by omega) (by omega) (by omega)))) hh g5 (hcr 8 (by omega) (by omega) (by omega)) hrj hrr ?_ ?_
  · rw [← ec]; funext j; simp [c_v0, c_app, up_app, upd]
  · intro i hi; rw [← ec]; simp [c_v0, c_app, up_app, hi]
  · rw [← ec]; simp [c_v0, c_app, up_app]
  · intro i hi; rw [← er]; simp [up_app, hi]
  · unfold R_D
    rw [← ec, ← er]
    simp [c_v0, c_app, up_app, isSt, f1, f2, f3, f4, f5, f6, f7, f8, y1, y2]
    exact d7
  · unfold R_A
    rw [i4, g5, o3]
    exact ⟨⟨fun q => absurd rfl q, fun q => absurd q (by decide)⟩, fun q => absurd q (by decide)⟩
  · rw [i4, o1] <;> decide
  · rw [i4, o1] <;> decide
  · rw [i4, o1] <;> decide
theorem t_visit_e {c r : St} {n ni ns hs h v a : Nat} (H : Rel c r n ni ns hs) (h512 : hs < 512) (hh : h < n) (hr0 : r 18 h = nI v) (hv : v < ni) (ht : r 17 h = 0) (ha : a < 10)  : Rel (up (up (c_v0 c hs h v a 101) 21 h 101) 29 h 1) (up (up (up (up (up r 0 0 0) 17 h 1) 6 h (r 6 h + 1)) 4 h 101) 16 h 1) n ni ns (hs + 1) := by
  obtain ⟨o1, o2, o3⟩ := o_vis H.1.1 hh hr0 hv ht
  have hn := H.1.1.1.1
  obtain ⟨-, b2, b3⟩ := H.1.1.2.1 h hh
  obtain ⟨d1, d2, d3, d4, d5, d6, d7, d8, d9⟩ := b2
  obtain ⟨⟨k7, q7, e7⟩, k8, q8, e8⟩ := d5 (Or.inl o1)
  obtain ⟨dd, hdd, y1, y2⟩ := H.1.1.1.2.2.2.2.2.1
  have f1 : c 23 h = r 6 h := d3.1
  obtain ⟨f2, f3, f4⟩ := d4
  obtain ⟨f5, f6, f7, f8⟩ := d6
  generalize ec : up (up (c_v0 c hs h v a 101) 21 h 101) 29 h 1 = c'
  generalize er : up (up (up (up (up r 0 0 0) 17 h 1) 6 h (r 6 h + 1)) 4 h 101) 16 h 1 = r'
  have hcj : ∀ q j, q ≠ 0 → q ≠ 15 → j ≠ h → c' q j = c q j := fun q j a b d => by
    rw [← ec]
    simp only [c_v0, c_app, up_ne d, up_row a, up_row b]
  have hcr : ∀ q, q ≠ 0 → q ≠ 15 → q < 21 ∨ 30 < q → c' q = c q := fun q a b d => by
    rw [← ec]
    unfold c_v0 c_app
    funext j
    simp only [up_app]
    simp (disch := omega) only [if_neg]
  have hrj : ∀ q j, q ≠ 0 → j ≠ h → r' q j = r q j := fun q j a d => by
    rw [← er]
    simp only [up_ne d, up_row a]
  have hrr : ∀ q, q ≠ 0 → q < 4 ∨ q = 14 ∨ 18 < q → r' q = r q := fun q a b => by
    rw [← er]
    funext j
    simp only [up_app]
    simp (disch := omega) only [if_neg]
  have g5 : c' 5 = c 5 := hcr 5 (by omega) (by omega) (by omega)
  have i4 : r' 4 h = 101 := by rw [← er]; simp [up_app]
  refine t_visW H (t_vis (ev := (101, h, v, a)) H.1 h512 hh (ev_ok (by decide) (by omega) (by have := H.1.1.1.1.2.1; omega) ha) hcj (fun q a b d => hcr q a b (by omega)) hrj hrr ?_ ?_ ?_ ?_ ?_ ?_ ?_ (fun d _ => AG_n2 (by decide) (by decide) g5 (hcr 6 (by omega) (by omega) (by omega)) (hcr 7 (by omega) (by omega) (by omega)) (hcr 9 (by omega) (by omega) (by omega)))) hh g5 (hcr 8 (by omega) (by omega) (by omega)) hrj hrr ?_ ?_
  · rw [← ec]; funext j; simp [c_v0, c_app, up_app, upd]
  · intro i hi; rw [← ec]; simp [c_v0, c_app, up_app, hi]
  · rw [← ec]; simp [c_v0, c_app, up_app]
  · intro i hi; rw [← er]; simp [up_app, hi]
  · unfold R_D
    rw [← ec, ← er]
    simp [c_v0, c_app, up_app, isSt, f1, f2, f3, f4, f5, f6, f7, f8, y1, y2]
    exact d7
  · unfold R_A
    rw [i4, g5, o3]
    exact ⟨⟨fun q => absurd rfl q, fun q => absurd q (by decide)⟩, fun q => absurd q (by decide)⟩
  · rw [i4, o1] <;> decide
  · rw [i4, o1] <;> decide
  · rw [i4, o1] <;> decide
