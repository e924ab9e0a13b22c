/-! .. visits, checks, ends of days -/
set_option maxHeartbeats 4000000 in
set_option maxRecDepth 100000 in
theorem p_visit (l : Launch) (dg : va_G) (cA : Nat → ClassId) (hst : l.stackTraces = false) {u ad : Nat → Nat} {o : Nat} {f : Nat → Int64} {c r : St} {n ni ns hs : Nat} (H : Rel c r n ni ns hs) (h512 : hs < 512) (x1 x2 x3 : Int32) : PairI l dg cA yL_visit cL_visit 6 [(0, 12, 15, 25), (0, 12, 19, 13), (0, 12, 23, 19)] yX6_visit cX6_visit 5 (some .int) Int32.toInt64 u ad o f c r n ni hs [.int x1, .int x2, .int x3] := by
  obtain ⟨zs1, zs2, zs3⟩ := zns H
  obtain ⟨zn1, zn2, zn3⟩ := zn H
  obtain ⟨zi1, zi2, zi3⟩ := zni H
  rcases ixc (v := x1) (n := n) (by omega) with ⟨h, hh, rfl⟩ | ⟨z1, z2⟩
  · by_cases zo : x2 = 97 ∨ x2 = 110 ∨ x2 = 114 ∨ x2 = 101
    · by_cases za : ¬ x3 < 0 ∧ ¬ 9 < x3
      · obtain ⟨a, ha, rfl⟩ := bnd (B := 9) (by omega) za.1 za.2
        obtain ⟨d1, d2, d3, d4, d5, d6, d7, d8, d9⟩ := (H.1.1.2.1 h hh).2.1
        by_cases y0 : r 18 h = -1
        · skip
          have h2 := fun sz => MetZ.any (g := fun z => cw cA (fixz (u 0) z) n ni c ++ [lo cA o f]) u (by rw [cw_fz]) (ht_visit_3 l dg cA (o := o) (f := f) (nI h) x2 (nI a) cl_0 (cx_visit4 l dg cA hst u n ni c zn1 zn3 h hh x2 zo a ha (d6.1.trans y0)) rfl rfl (Nat.le_of_ble_eq_true rfl) (Nat.le_of_ble_eq_true rfl) sz)
          have h3 := fun sz => rr_visit3a l dg cA ad r n zn2 zn3 h hh x2 (nI a) zo za.1 za.2 y0 sz
          exact ⟨3, f, 0, c, up r 0 0 3, n, ni, ns, hs, 1, 6, _, h2, ⟨Nat.le_of_ble_eq_true rfl, Nat.le_of_ble_eq_true rfl⟩, h3, ⟨rfl, rfl, Nat.le_of_ble_eq_true rfl, Nat.le_of_ble_eq_true rfl⟩, u00, fun q => absurd q (by decide), Rel_t H, Nat.le_succ _⟩
        · obtain ⟨v, hv, y1⟩ := d7.resolve_left y0
          by_cases y2 : r 17 h = 0
          · obtain ⟨bf, f0, hf0, ef0⟩ := H.1.1.2.2.2.1 v (by omega)
            by_cases y3 : c 9 v < 2
            · have y4 : ¬ r 25 v = 2 := fun q => by rw [bf, q] at y3; exact absurd y3 (by decide)
              obtain ⟨o1, o2, o3⟩ := o_vis H.1.1 hh y1 hv y2
              obtain ⟨⟨k7, q7, e7⟩, k8, q8, e8⟩ := d5 (Or.inl o1)
              have t27 : c 27 h = nI v := d6.1.trans y1
              have t28 : c 28 h = 0 := d6.2.1.trans y2
              have e24 : c 24 h = nI k7 := d4.1.trans e7
              have e25 : c 25 h = nI k8 := d4.2.1.trans e8
              rcases zo with rfl | rfl | rfl | rfl
              · skip
                have h1 := fun sz => MetN.any (g := fun w => cw cA (fixz (u 0) w) n ni (c_ta (c_v0 c hs h v a 97) n h (nI v) (nI a))) u cw_fz (Met.ofM (cc_visit_a l dg cA u n ni c zn1 zn3 h hh v (by omega) t27 t28 y3 a ha hs (zhs H) h512 sz))
                have h2 := fun sz => hs_visit l dg cA (o := o) (f := f) (nI h) 97 (nI a) cl_0 h1 rfl rfl (Nat.le_of_ble_eq_true rfl) (Nat.le_of_ble_eq_true rfl) sz
                have h3 := fun sz => rr_visit_a l dg cA ad r n zn2 zn3 h hh (nI a) za.1 za.2 v (by omega) y1 y2 y4 sz
                exact ⟨0, _, nI v, c_ta (c_v0 c hs h v a 97) n h (nI v) (nI a), up (up (up (up (up (up (up (up (up r 0 0 0) 17 h 1) 6 h (r 6 h + 1)) 4 h 97) 10 h (nI a)) 11 h (nI v)) 12 h (r 6 h + 1)) 15 h 0) 16 h 0, n, ni, ns, (hs + 1), 0, 0, _, h2, ⟨Nat.le_of_ble_eq_true rfl, Nat.le_of_ble_eq_true rfl⟩, h3, ⟨rfl, rfl, Nat.le_of_ble_eq_true rfl, Nat.le_of_ble_eq_true rfl⟩, by simp only [up_row (show (0 : Nat) ≠ 17 by decide), up_row (show (0 : Nat) ≠ 6 by decide), up_row (show (0 : Nat) ≠ 4 by decide), up_row (show (0 : Nat) ≠ 5 by decide), up_row (show (0 : Nat) ≠ 7 by decide), up_row (show (0 : Nat) ≠ 8 by decide), up_row (show (0 : Nat) ≠ 9 by decide), up_row (show (0 : Nat) ≠ 10 by decide), up_row (show (0 : Nat) ≠ 11 by decide), up_row (show (0 : Nat) ≠ 12 by decide), up_row (show (0 : Nat) ≠ 15 by decide), up_row (show (0 : Nat) ≠ 16 by decide)]; exact up_at, fun _ => updL0, t_visit_a H h512 hh y1 hv y2 y3 ha, Nat.le_refl _⟩
              · by_cases w : k7 + 1 < 3
                · have w1 : c 24 h + 1 < 3 := by rw [e24, nI_1]; exact (nI_ltI (a := k7 + 1) (b := 3) (by omega) (by omega)).mpr w
                  have w2 : ¬ r 7 h + 1 = 3 := by rw [e7, nI_1]; exact fun q => by have := (nI_eq (a := k7 + 1) (b := 3) (by omega) (by omega)).mp q; omega
                  have h1 := fun sz => MetN.any (g := fun w => cw cA (fixz (u 0) w) n ni (up (up (up (c_v0 c hs h v a 110) 24 h (c 24 h + 1)) 21 h 119) 22 h (c 0 2 + (c 24 h + 1)))) u cw_fz (Met.ofM (cc_visit_n l dg cA u n ni c zn1 zn3 h hh v (by omega) t27 t28 y3 a ha hs (zhs H) h512 w1 sz))
                  have h2 := fun sz => hs_visit l dg cA (o := o) (f := f) (nI h) 110 (nI a) cl_0 h1 rfl rfl (Nat.le_of_ble_eq_true rfl) (Nat.le_of_ble_eq_true rfl) sz
                  have h3 := fun sz => rr_visit_n l dg cA ad r n zn2 zn3 h hh (nI a) za.1 za.2 v (by omega) y1 y2 y4 w2 sz
                  exact ⟨0, _, nI v, up (up (up (c_v0 c hs h v a 110) 24 h (c 24 h + 1)) 21 h 119) 22 h (c 0 2 + (c 24 h + 1)), up (up (up (up (up (up (up r 0 0 0) 17 h 1) 6 h (r 6 h + 1)) 7 h (r 7 h + 1)) 5 h (r 0 5 + (r 7 h + 1))) 4 h 119) 16 h 0, n, ni, ns, (hs + 1), 0, 0, _, h2, ⟨Nat.le_of_ble_eq_true rfl, Nat.le_of_ble_eq_true rfl⟩, h3, ⟨rfl, rfl, Nat.le_of_ble_eq_true rfl, Nat.le_of_ble_eq_true rfl⟩, by simp only [up_row (show (0 : Nat) ≠ 17 by decide), up_row (show (0 : Nat) ≠ 6 by decide), up_row (show (0 : Nat) ≠ 4 by decide), up_row (show (0 : Nat) ≠ 5 by decide), up_row (show (0 : Nat) ≠ 7 by decide), up_row (show (0 : Nat) ≠ 8 by decide), up_row (show (0 : Nat) ≠ 9 by decide), up_row (show (0 : Nat) ≠ 10 by decide), up_row (show (0 : Nat) ≠ 11 by decide), up_row (show (0 : Nat) ≠ 12 by decide), up_row (show (0 : Nat) ≠ 15 by decide), up_row (show (0 : Nat) ≠ 16 by decide)]; exact up_at, fun _ => updL0, t_visit_n H h512 hh y1 hv y2 ha w1, Nat.le_refl _⟩
                · have w1 : ¬ c 24 h + 1 < 3 := by rw [e24, nI_1]; exact fun q => w ((nI_ltI (a := k7 + 1) (b := 3) (by omega) (by omega)).mp q)
                  have w2 : r 7 h + 1 = 3 := by rw [e7, nI_1, show k7 + 1 = 3 by omega]; rfl
                  have h1 := fun sz => MetN.any (g := fun w => cw cA (fixz (u 0) w) n ni (up (up (up (c_v0 c hs h v a 110) 24 h (c 24 h + 1)) 21 h 103) 29 h 1)) u cw_fz (Met.ofM (cc_visit_n3 l dg cA u n ni c zn1 zn3 h hh v (by omega) t27 t28 y3 a ha hs (zhs H) h512 w1 sz))
                  have h2 := fun sz => hs_visit l dg cA (o := o) (f := f) (nI h) 110 (nI a) cl_0 h1 rfl rfl (Nat.le_of_ble_eq_true rfl) (Nat.le_of_ble_eq_true rfl) sz
                  have h3 := fun sz => rr_visit_n3 l dg cA ad r n zn2 zn3 h hh (nI a) za.1 za.2 v (by omega) y1 y2 y4 w2 sz
                  exact ⟨0, _, nI v, up (up (up (c_v0 c hs h v a 110) 24 h (c 24 h + 1)) 21 h 103) 29 h 1, up (up (up (up (up (up (up r 0 0 0) 17 h 1) 6 h (r 6 h + 1)) 7 h (r 7 h + 1)) 5 h (r 0 5 + (r 7 h + 1))) 4 h 103) 16 h 1, n, ni, ns, (hs + 1), 0, 0, _, h2, ⟨Nat.le_of_ble_eq_true rfl, Nat.le_of_ble_eq_true rfl⟩, h3, ⟨rfl, rfl, Nat.le_of_ble_eq_true rfl, Nat.le_of_ble_eq_true rfl⟩, by simp only [up_row (show (0 : Nat) ≠ 17 by decide), up_row (show (0 : Nat) ≠ 6 by decide), up_row (show (0 : Nat) ≠ 4 by decide), up_row (show (0 : Nat) ≠ 5 by decide), up_row (show (0 : Nat) ≠ 7 by decide), up_row (show (0 : Nat) ≠ 8 by decide), up_row (show (0 : Nat) ≠ 9 by decide), up_row (show (0 : Nat) ≠ 10 by decide), up_row (show (0 : Nat) ≠ 11 by decide), up_row (show (0 : Nat) ≠ 12 by decide), up_row (show (0 : Nat) ≠ 15 by decide), up_row (show (0 : Nat) ≠ 16 by decide)]; exact up_at, fun _ => updL0, t_visit_n3 H h512 hh y1 hv y2 ha, Nat.le_refl _⟩
              · by_cases w : k8 + 1 < 2
                · have w1 : c 25 h + 1 < 2 := by rw [e25, nI_1]; exact (nI_ltI (a := k8 + 1) (b := 2) (by omega) (by omega)).mpr w
                  have w2 : ¬ r 8 h + 1 = 2 := by rw [e8, nI_1]; exact fun q => by have := (nI_eq (a := k8 + 1) (b := 2) (by omega) (by omega)).mp q; omega
                  have h1 := fun sz => MetN.any (g := fun w => cw cA (fixz (u 0) w) n ni (up (up (up (up (c_v0 c hs h v a 114) 25 h (c 25 h + 1)) 26 h (c 26 h ||| 1 <<< (nI v &&& 31))) 21 h 119) 22 h (c 0 2 + 3))) u cw_fz (Met.ofM (cc_visit_r l dg cA u n ni c zn1 zn3 h hh v (by omega) t27 t28 y3 a ha hs (zhs H) h512 w1 sz))
                  have h2 := fun sz => hs_visit l dg cA (o := o) (f := f) (nI h) 114 (nI a) cl_0 h1 rfl rfl (Nat.le_of_ble_eq_true rfl) (Nat.le_of_ble_eq_true rfl) sz
                  have h3 := fun sz => rr_visit_r l dg cA ad r n zn2 zn3 h hh (nI a) za.1 za.2 v (by omega) y1 y2 y4 w2 sz
                  exact ⟨0, _, nI v, up (up (up (up (c_v0 c hs h v a 114) 25 h (c 25 h + 1)) 26 h (c 26 h ||| 1 <<< (nI v &&& 31))) 21 h 119) 22 h (c 0 2 + 3), up (up (up (up (up (up (up (up r 0 0 0) 17 h 1) 6 h (r 6 h + 1)) 8 h (r 8 h + 1)) 9 h (r 9 h ||| 1 <<< (nI v &&& 31))) 5 h (r 0 5 + 3)) 4 h 119) 16 h 0, n, ni, ns, (hs + 1), 0, 0, _, h2, ⟨Nat.le_of_ble_eq_true rfl, Nat.le_of_ble_eq_true rfl⟩, h3, ⟨rfl, rfl, Nat.le_of_ble_eq_true rfl, Nat.le_of_ble_eq_true rfl⟩, by simp only [up_row (show (0 : Nat) ≠ 17 by decide), up_row (show (0 : Nat) ≠ 6 by decide), up_row (show (0 : Nat) ≠ 4 by decide), up_row (show (0 : Nat) ≠ 5 by decide), up_row (show (0 : Nat) ≠ 7 by decide), up_row (show (0 : Nat) ≠ 8 by decide), up_row (show (0 : Nat) ≠ 9 by decide), up_row (show (0 : Nat) ≠ 10 by decide), up_row (show (0 : Nat) ≠ 11 by decide), up_row (show (0 : Nat) ≠ 12 by decide), up_row (show (0 : Nat) ≠ 15 by decide), up_row (show (0 : Nat) ≠ 16 by decide)]; exact up_at, fun _ => updL0, t_visit_r H h512 hh y1 hv y2 ha w1, Nat.le_refl _⟩
                · have w1 : ¬ c 25 h + 1 < 2 := by rw [e25, nI_1]; exact fun q => w ((nI_ltI (a := k8 + 1) (b := 2) (by omega) (by omega)).mp q)
                  have w2 : r 8 h + 1 = 2 := by rw [e8, nI_1, show k8 + 1 = 2 by omega]; rfl
                  have h1 := fun sz => MetN.any (g := fun w => cw cA (fixz (u 0) w) n ni (up (up (up (up (c_v0 c hs h v a 114) 25 h (c 25 h + 1)) 26 h (c 26 h ||| 1 <<< (nI v &&& 31))) 21 h 114) 29 h 1)) u cw_fz (Met.ofM (cc_visit_r2 l dg cA u n ni c zn1 zn3 h hh v (by omega) t27 t28 y3 a ha hs (zhs H) h512 w1 sz))
                  have h2 := fun sz => hs_visit l dg cA (o := o) (f := f) (nI h) 114 (nI a) cl_0 h1 rfl rfl (Nat.le_of_ble_eq_true rfl) (Nat.le_of_ble_eq_true rfl) sz
                  have h3 := fun sz => rr_visit_r2 l dg cA ad r n zn2 zn3 h hh (nI a) za.1 za.2 v (by omega) y1 y2 y4 w2 sz
                  exact ⟨0, _, nI v, up (up (up (up (c_v0 c hs h v a 114) 25 h (c 25 h + 1)) 26 h (c 26 h ||| 1 <<< (nI v &&& 31))) 21 h 114) 29 h 1, up (up (up (up (up (up (up (up r 0 0 0) 17 h 1) 6 h (r 6 h + 1)) 8 h (r 8 h + 1)) 9 h (r 9 h ||| 1 <<< (nI v &&& 31))) 5 h (r 0 5 + 3)) 4 h 114) 16 h 1, n, ni, ns, (hs + 1), 0, 0, _, h2, ⟨Nat.le_of_ble_eq_true rfl, Nat.le_of_ble_eq_true rfl⟩, h3, ⟨rfl, rfl, Nat.le_of_ble_eq_true rfl, Nat.le_of_ble_eq_true rfl⟩, by simp only [up_row (show (0 : Nat) ≠ 17 by decide), up_row (show (0 : Nat) ≠ 6 by decide), up_row (show (0 : Nat) ≠ 4 by decide), up_row (show (0 : Nat) ≠ 5 by decide), up_row (show (0 : Nat) ≠ 7 by decide), up_row (show (0 : Nat) ≠ 8 by decide), up_row (show (0 : Nat) ≠ 9 by decide), up_row (show (0 : Nat) ≠ 10 by decide), up_row (show (0 : Nat) ≠ 11 by decide), up_row (show (0 : Nat) ≠ 12 by decide), up_row (show (0 : Nat) ≠ 15 by decide), up_row (show (0 : Nat) ≠ 16 by decide)]; exact up_at, fun _ => updL0, t_visit_r2 H h512 hh y1 hv y2 ha, Nat.le_refl _⟩
              · skip
                have h1 := fun sz => MetN.any (g := fun w => cw cA (fixz (u 0) w) n ni (up (up (c_v0 c hs h v a 101) 21 h 101) 29 h 1)) u cw_fz (Met.ofM (cc_visit_e l dg cA u n ni c zn1 zn3 h hh v (by omega) t27 t28 y3 a ha hs (zhs H) h512 sz))
                have h2 := fun sz => hs_visit l dg cA (o := o) (f := f) (nI h) 101 (nI a) cl_0 h1 rfl rfl (Nat.le_of_ble_eq_true rfl) (Nat.le_of_ble_eq_true rfl) sz
                have h3 := fun sz => rr_visit_e l dg cA ad r n zn2 zn3 h hh (nI a) za.1 za.2 v (by omega) y1 y2 y4 sz
                exact ⟨0, _, nI v, up (up (c_v0 c hs h v a 101) 21 h 101) 29 h 1, up (up (up (up (up r 0 0 0) 17 h 1) 6 h (r 6 h + 1)) 4 h 101) 16 h 1, n, ni, ns, (hs + 1), 0, 0, _, h2, ⟨Nat.le_of_ble_eq_true rfl, Nat.le_of_ble_eq_true rfl⟩, h3, ⟨rfl, rfl, Nat.le_of_ble_eq_true rfl, Nat.le_of_ble_eq_true rfl⟩, by simp only [up_row (show (0 : Nat) ≠ 17 by decide), up_row (show (0 : Nat) ≠ 6 by decide), up_row (show (0 : Nat) ≠ 4 by decide), up_row (show (0 : Nat) ≠ 5 by decide), up_row (show (0 : Nat) ≠ 7 by decide), up_row (show (0 : Nat) ≠ 8 by decide), up_row (show (0 : Nat) ≠ 9 by decide), up_row (show (0 : Nat) ≠ 10 by decide), up_row (show (0 : Nat) ≠ 11 by decide), up_row (show (0 : Nat) ≠ 12 by decide), up_row (show (0 : Nat) ≠ 15 by decide), up_row (show (0 : Nat) ≠ 16 by decide)]; exact up_at, fun _ => updL0, t_visit_e H h512 hh y1 hv y2 ha, Nat.le_refl _⟩
            · have y4 : r 25 v = 2 := by
                have : ¬ f0 < 2 := fun q => y3 (by rw [bf, ef0]; exact (nI_ltI (a := f0) (b := 2) (by omega) (by omega)).mpr q)
                rw [ef0, show f0 = 2 by omega]; rfl
              have h2 := fun sz => MetZ.any (g := fun z => cw cA (fixz (u 0) z) n ni c ++ [lo cA o f]) u (by rw [cw_fz]) (ht_visit_3 l dg cA (o := o) (f := f) (nI h) x2 (nI a) cl_0 (cx_visit6 l dg cA hst u n ni c zn1 zn3 h hh x2 zo a ha v (by omega) (d6.1.trans y1) (d6.2.1.trans y2) y3) rfl rfl (Nat.le_of_ble_eq_true rfl) (Nat.le_of_ble_eq_true rfl) sz)
              have h3 := fun sz => rr_visit3c l dg cA ad r n zn2 zn3 h hh x2 (nI a) zo za.1 za.2 v (by omega) y1 y4 sz
              exact ⟨3, f, 0, c, up r 0 0 3, n, ni, ns, hs, 1, 6, _, h2, ⟨Nat.le_of_ble_eq_true rfl, Nat.le_of_ble_eq_true rfl⟩, h3, ⟨rfl, rfl, Nat.le_of_ble_eq_true rfl, Nat.le_of_ble_eq_true rfl⟩, u00, fun q => absurd q (by decide), Rel_t H, Nat.le_succ _⟩
          · skip
            have h2 := fun sz => MetZ.any (g := fun z => cw cA (fixz (u 0) z) n ni c ++ [lo cA o f]) u (by rw [cw_fz]) (ht_visit_3 l dg cA (o := o) (f := f) (nI h) x2 (nI a) cl_0 (cx_visit5 l dg cA hst u n ni c zn1 zn3 h hh x2 zo a ha v (by omega) (d6.1.trans y1) (fun q => y2 (d6.2.1.symm.trans q))) rfl rfl (Nat.le_of_ble_eq_true rfl) (Nat.le_of_ble_eq_true rfl) sz)
            have h3 := fun sz => rr_visit3b l dg cA ad r n zn2 zn3 h hh x2 (nI a) zo za.1 za.2 v (by omega) y1 y2 sz
            exact ⟨3, f, 0, c, up r 0 0 3, n, ni, ns, hs, 1, 6, _, h2, ⟨Nat.le_of_ble_eq_true rfl, Nat.le_of_ble_eq_true rfl⟩, h3, ⟨rfl, rfl, Nat.le_of_ble_eq_true rfl, Nat.le_of_ble_eq_true rfl⟩, u00, fun q => absurd q (by decide), Rel_t H, Nat.le_succ _⟩
      · skip
        have h2 := fun sz => MetZ.any (g := fun z => cw cA (fixz (u 0) z) n ni c ++ [lo cA o f]) u (by rw [cw_fz]) (ht_visit_2 l dg cA (o := o) (f := f) (nI h) x2 x3 cl_0 (cx_visit3 l dg cA hst u n ni c zn1 zn3 h hh x2 zo x3 za) rfl rfl (Nat.le_of_ble_eq_true rfl) (Nat.le_of_ble_eq_true rfl) sz)
        have h3 := fun sz => rr_visit2b l dg cA ad r n zn2 zn3 h hh x2 x3 zo za sz
        exact ⟨2, f, 0, c, up r 0 0 2, n, ni, ns, hs, 1, 6, _, h2, ⟨Nat.le_of_ble_eq_true rfl, Nat.le_of_ble_eq_true rfl⟩, h3, ⟨rfl, rfl, Nat.le_of_ble_eq_true rfl, Nat.le_of_ble_eq_true rfl⟩, u00, fun q => absurd q (by decide), Rel_t H, Nat.le_succ _⟩
    · skip
      have h2 := fun sz => MetZ.any (g := fun z => cw cA (fixz (u 0) z) n ni c ++ [lo cA o f]) u (by rw [cw_fz]) (ht_visit_2 l dg cA (o := o) (f := f) (nI h) x2 x3 cl_0 (cx_visit2 l dg cA hst u n ni c zn1 zn3 h hh x2 zo x3) rfl rfl (Nat.le_of_ble_eq_true rfl) (Nat.le_of_ble_eq_true rfl) sz)
      have h3 := fun sz => rr_visit2a l dg cA ad r n zn2 zn3 h hh x2 x3 (fun q => zo (Or.inl q)) (fun q => zo (Or.inr (Or.inl q))) (fun q => zo (Or.inr (Or.inr (Or.inl q)))) (fun q => zo (Or.inr (Or.inr (Or.inr q)))) sz
      exact ⟨2, f, 0, c, up r 0 0 2, n, ni, ns, hs, 1, 6, _, h2, ⟨Nat.le_of_ble_eq_true rfl, Nat.le_of_ble_eq_true rfl⟩, h3, ⟨rfl, rfl, Nat.le_of_ble_eq_true rfl, Nat.le_of_ble_eq_true rfl⟩, u00, fun q => absurd q (by decide), Rel_t H, Nat.le_succ _⟩
  · skip
    have h2 := fun sz => MetZ.any (g := fun z => cw cA (fixz (u 0) z) n ni c ++ [lo cA o f]) u (by rw [cw_fz]) (ht_visit_1 l dg cA (o := o) (f := f) x1 x2 x3 cl_0 (cx_visit1 l dg cA hst u n ni c zn1 zn3 x1 z2 x2 x3) rfl rfl (Nat.le_of_ble_eq_true rfl) (Nat.le_of_ble_eq_true rfl) sz)
    have h3 := fun sz => rr_visit0 l dg cA ad r n zn2 zn3 x1 z1 x2 x3 sz
    exact ⟨1, f, 0, c, up r 0 0 1, n, ni, ns, hs, 1, 6, _, h2, ⟨Nat.le_of_ble_eq_true rfl, Nat.le_of_ble_eq_true rfl⟩, h3, ⟨rfl, rfl, Nat.le_of_ble_eq_true rfl, Nat.le_of_ble_eq_true rfl⟩, u00, fun q => absurd q (by decide), Rel_t H, Nat.le_succ _⟩
set_option maxHeartbeats 4000000 in
set_option maxRecDepth 100000 in
theorem p_check (l : Launch) (dg : va_G) (cA : Nat → ClassId) (hst : l.stackTraces = false) {u ad : Nat → Nat} {o : Nat} {f : Nat → Int64} {c r : St} {n ni ns hs : Nat} (H : Rel c r n ni ns hs) (h512 : hs < 512) (x1 x2 : Int32) : PairI l dg cA yL_check cL_check 5 [(0, 17, 20, 25), (0, 17, 24, 13), (0, 17, 28, 19)] yX6_check cX6_check 5 (some .boolean) (fun w => if w = 0 then 0 else 1) u ad o f c r n ni hs [.int x1, .int x2] := by
  obtain ⟨zs1, zs2, zs3⟩ := zns H
  obtain ⟨zn1, zn2, zn3⟩ := zn H
  obtain ⟨zi1, zi2, zi3⟩ := zni H
  rcases ixc (v := x1) (n := n) (by omega) with ⟨h, hh, rfl⟩ | ⟨z1, z2⟩
  · by_cases za : ¬ x2 < 0 ∧ ¬ 9 < x2
    · obtain ⟨a, ha, rfl⟩ := bnd (B := 9) (by omega) za.1 za.2
      obtain ⟨-, ⟨⟨d1, -⟩, -, -, -, -, d6, -⟩, b3⟩ := H.1.1.2.1 h hh
      by_cases y0 : r 4 h = 97
      · by_cases y1 : r 15 h = 0
        · have x21 : c 21 h = 97 := d1.trans y0
          have x30 : c 30 h = 0 := d6.2.2.2.trans y1
          have x5 : ¬ c 5 h = 0 := b3.1.mpr y0
          obtain ⟨⟨b6, b⟩, b7, v, hv, bv, f0, hf0, ef0⟩ := b3.2 y0
          obtain ⟨bf, -⟩ := H.1.1.2.2.2.1 v (by omega)
          by_cases y2 : r 10 h = nI a
          · skip
            have h1 := fun sz => MetN.any (g := fun w => cw cA (fixz (u 0) w) n ni (c_c0 c hs h a)) u cw_fz (Met.ofM (cc_check_s l dg cA u n ni c zn1 zn3 h hh a ha hs (zhs H) h512 x21 x30 x5 (b6.trans y2) sz))
            have h2 := fun sz => hs_check l dg cA (o := o) (f := f) (nI h) (nI a) cl_0 h1 rfl rfl (Nat.le_of_ble_eq_true rfl) (Nat.le_of_ble_eq_true rfl) sz
            have h3 := fun sz => rr_check_s l dg cA ad r n zn2 zn3 h hh (nI a) za.1 za.2 y0 y1 y2 sz
            exact ⟨0, _, 1, c_c0 c hs h a, up (up r 0 0 0) 15 h 1, n, ni, ns, (hs + 1), 0, 0, _, h2, ⟨Nat.le_of_ble_eq_true rfl, Nat.le_of_ble_eq_true rfl⟩, h3, ⟨rfl, rfl, Nat.le_of_ble_eq_true rfl, Nat.le_of_ble_eq_true rfl⟩, by simp only [up_row (show (0 : Nat) ≠ 15 by decide), up_row (show (0 : Nat) ≠ 25 by decide)]; exact up_at, fun _ => updL0, t_check_s H h512 hh y0 y2 ha, Nat.le_refl _⟩
          · have x6 : ¬ c 6 h = nI a := fun q => y2 (b6.symm.trans q)
            have x7 : c 7 h = nI v := b7.trans bv
            by_cases w : f0 + 1 < 2
            · have w1 : c 9 v + 1 < 2 := by rw [bf, ef0, nI_1]; exact (nI_ltI (a := f0 + 1) (b := 2) (by omega) (by omega)).mpr w
              have w2 : ¬ r 25 v + 1 = 2 := by rw [ef0, nI_1]; exact fun q => by have := (nI_eq (a := f0 + 1) (b := 2) (by omega) (by omega)).mp q; omega
              have h1 := fun sz => MetN.any (g := fun w => cw cA (fixz (u 0) w) n ni (up (c_c0 c hs h a) 9 v (c 9 v + 1))) u cw_fz (Met.ofM (cc_check_d l dg cA u n ni c zn1 zn3 h hh a ha hs (zhs H) h512 x21 x30 x5 x6 v (by omega) x7 w1 sz))
              have h2 := fun sz => hs_check l dg cA (o := o) (f := f) (nI h) (nI a) cl_0 h1 rfl rfl (Nat.le_of_ble_eq_true rfl) (Nat.le_of_ble_eq_true rfl) sz
              have h3 := fun sz => rr_check_d1 l dg cA ad r n zn2 zn3 h hh (nI a) za.1 za.2 y0 y1 y2 v (by omega) bv w2 sz
              exact ⟨0, _, 0, up (c_c0 c hs h a) 9 v (c 9 v + 1), up (up (up r 0 0 0) 15 h 1) 25 v (r 25 v + 1), n, ni, ns, (hs + 1), 0, 0, _, h2, ⟨Nat.le_of_ble_eq_true rfl, Nat.le_of_ble_eq_true rfl⟩, h3, ⟨rfl, rfl, Nat.le_of_ble_eq_true rfl, Nat.le_of_ble_eq_true rfl⟩, by simp only [up_row (show (0 : Nat) ≠ 15 by decide), up_row (show (0 : Nat) ≠ 25 by decide)]; exact up_at, fun _ => updL0, t_check_d H h512 hh y0 y2 bv (by omega) w1 ha, Nat.le_refl _⟩
            · have w1 : ¬ c 9 v + 1 < 2 := by rw [bf, ef0, nI_1]; exact fun q => w ((nI_ltI (a := f0 + 1) (b := 2) (by omega) (by omega)).mp q)
              have w2 : r 25 v + 1 = 2 := by rw [ef0, nI_1, show f0 + 1 = 2 by omega]; rfl
              have h1 := fun sz => MetN.any (g := fun w => cw cA (fixz (u 0) w) n ni (c_fin (c_la (upr (up (c_c0 c hs h a) 9 v (c 9 v + 1)) 5 (c_dr (c 7) (nI v) (c 5) 24)) n) n)) u cw_fz (Met.ofM (cc_check_b l dg cA u n ni c zn1 zn3 h hh a ha hs (zhs H) h512 x21 x30 x5 x6 v (by omega) x7 w1 sz))
              have h2 := fun sz => hs_check l dg cA (o := o) (f := f) (nI h) (nI a) cl_0 h1 rfl rfl (Nat.le_of_ble_eq_true rfl) (Nat.le_of_ble_eq_true rfl) sz
              have h3 := fun sz => rr_check_d2 l dg cA ad r n zn2 zn3 h hh (nI a) za.1 za.2 y0 y1 y2 v (by omega) bv w2 sz
              exact ⟨0, _, 0, c_fin (c_la (upr (up (c_c0 c hs h a) 9 v (c 9 v + 1)) 5 (c_dr (c 7) (nI v) (c 5) 24)) n) n, m_bar (up (up (up r 0 0 0) 15 h 1) 25 v (r 25 v + 1)) v n, n, ni, ns, (hs + 1), 0, 0, _, h2, ⟨Nat.le_of_ble_eq_true rfl, Nat.le_of_ble_eq_true rfl⟩, h3, ⟨rfl, rfl, Nat.le_of_ble_eq_true rfl, Nat.le_of_ble_eq_true rfl⟩, by rw [m_bar_row n 0 (by decide) (by decide)]; simp only [up_row (show (0 : Nat) ≠ 15 by decide), up_row (show (0 : Nat) ≠ 25 by decide)]; exact up_at, fun _ => updL0, t_check_b H h512 hh y0 y2 bv hv w1 ha, Nat.le_refl _⟩
        · skip
          have h2 := fun sz => MetZ.any (g := fun z => cw cA (fixz (u 0) z) n ni c ++ [lo cA o f]) u (by rw [cw_fz]) (ht_check_3 l dg cA (o := o) (f := f) (nI h) (nI a) cl_0 (cx_check4 l dg cA hst u n ni c zn1 zn3 h hh a ha (d1.trans y0) (fun q => y1 (d6.2.2.2.symm.trans q))) rfl rfl (Nat.le_of_ble_eq_true rfl) (Nat.le_of_ble_eq_true rfl) sz)
          have h3 := fun sz => rr_check3b l dg cA ad r n zn2 zn3 h hh (nI a) za.1 za.2 y0 y1 sz
          exact ⟨3, f, 0, c, up r 0 0 3, n, ni, ns, hs, 1, 6, _, h2, ⟨Nat.le_of_ble_eq_true rfl, Nat.le_of_ble_eq_true rfl⟩, h3, ⟨rfl, rfl, Nat.le_of_ble_eq_true rfl, Nat.le_of_ble_eq_true rfl⟩, u00, fun q => absurd q (by decide), Rel_t H, Nat.le_succ _⟩
      · skip
        have h2 := fun sz => MetZ.any (g := fun z => cw cA (fixz (u 0) z) n ni c ++ [lo cA o f]) u (by rw [cw_fz]) (ht_check_3 l dg cA (o := o) (f := f) (nI h) (nI a) cl_0 (cx_check3 l dg cA hst u n ni c zn1 zn3 h hh a ha (fun q => y0 (d1.symm.trans q))) rfl rfl (Nat.le_of_ble_eq_true rfl) (Nat.le_of_ble_eq_true rfl) sz)
        have h3 := fun sz => rr_check3a l dg cA ad r n zn2 zn3 h hh (nI a) za.1 za.2 y0 sz
        exact ⟨3, f, 0, c, up r 0 0 3, n, ni, ns, hs, 1, 6, _, h2, ⟨Nat.le_of_ble_eq_true rfl, Nat.le_of_ble_eq_true rfl⟩, h3, ⟨rfl, rfl, Nat.le_of_ble_eq_true rfl, Nat.le_of_ble_eq_true rfl⟩, u00, fun q => absurd q (by decide), Rel_t H, Nat.le_succ _⟩
    · skip
      have h2 := fun sz => MetZ.any (g := fun z => cw cA (fixz (u 0) z) n ni c ++ [lo cA o f]) u (by rw [cw_fz]) (ht_check_2 l dg cA (o := o) (f := f) (nI h) x2 cl_0 (cx_check2 l dg cA hst u n ni c zn1 zn3 h hh x2 za) rfl rfl (Nat.le_of_ble_eq_true rfl) (Nat.le_of_ble_eq_true rfl) sz)
      have h3 := fun sz => rr_check2 l dg cA ad r n zn2 zn3 h hh x2 za sz
      exact ⟨2, f, 0, c, up r 0 0 2, n, ni, ns, hs, 1, 6, _, h2, ⟨Nat.le_of_ble_eq_true rfl, Nat.le_of_ble_eq_true rfl⟩, h3, ⟨rfl, rfl, Nat.le_of_ble_eq_true rfl, Nat.le_of_ble_eq_true rfl⟩, u00, fun q => absurd q (by decide), Rel_t H, Nat.le_succ _⟩
  · skip
    have h2 := fun sz => MetZ.any (g := fun z => cw cA (fixz (u 0) z) n ni c ++ [lo cA o f]) u (by rw [cw_fz]) (ht_check_1 l dg cA (o := o) (f := f) x1 x2 cl_0 (cx_check1 l dg cA hst u n ni c zn1 zn3 x1 z2 x2) rfl rfl (Nat.le_of_ble_eq_true rfl) (Nat.le_of_ble_eq_true rfl) sz)
    have h3 := fun sz => rr_check0 l dg cA ad r n zn2 zn3 x1 z1 x2 sz
    exact ⟨1, f, 0, c, up r 0 0 1, n, ni, ns, hs, 1, 6, _, h2, ⟨Nat.le_of_ble_eq_true rfl, Nat.le_of_ble_eq_true rfl⟩, h3, ⟨rfl, rfl, Nat.le_of_ble_eq_true rfl, Nat.le_of_ble_eq_true rfl⟩, u00, fun q => absurd q (by decide), Rel_t H, Nat.le_succ _⟩
set_option maxHeartbeats 4000000 in
set_option maxRecDepth 100000 in
theorem p_endDay (l : Launch) (dg : va_G) (cA : Nat → ClassId) (hst : l.stackTraces = false) {u ad : Nat → Nat} {o : Nat} {f : Nat → Int64} {c r : St} {n ni ns hs : Nat} (H : Rel c r n ni ns hs) (h512 : hs < 512) : PairI l dg cA yL_endDay cL_endDay 3 [(0, 8, 11, 19)] yX6_endDay cX6_endDay 4 (some .int) Int32.toInt64 u ad o f c r n ni hs [] := by
  obtain ⟨zs1, zs2, zs3⟩ := zns H
  obtain ⟨zn1, zn2, zn3⟩ := zn H
  obtain ⟨zi1, zi2, zi3⟩ := zni H
  obtain ⟨d, hd, y1, y2⟩ := H.1.1.1.2.2.2.2.2.1
  obtain ⟨zc1, zc2, -⟩ := zch H
  by_cases z : d < 99
  · have w : ¬ r 0 5 = 99 := by rw [y2]; exact fun q => by have := (nI_eq (a := d) (b := 99) (by omega) (by omega)).mp q; omega
    obtain ⟨t1, t2⟩ := t_endDay H z y2
    have t3 : m_endDay r n ni 0 0 = 0 := by
      unfold m_endDay m_rounds
      rw [m_rds_row (by decide) (by decide) (by decide) (by decide), m_rst_row n 0 (by decide) (by decide) (by decide), up_off (by decide), m_rep_sc n 0 (by decide)]
      exact up_at
    have h1 := fun sz => MetN.any (g := fun w => cw cA (fixz (u 0) w) n ni (c_rounds (up (c_rep c n n) 0 2 (nI (d + 1))) n ni)) u cw_fz (Met.ofM (cc_endDay l dg cA u n ni c zn1 zn3 zi1 zi3 zc1 d y1 z sz))
    have h2 := fun sz => hs_endDay l dg cA (o := o) (f := f)  cl_0 h1 rfl rfl (Nat.le_of_ble_eq_true rfl) (Nat.le_of_ble_eq_true rfl) sz
    have h3 := fun sz => rr_endDay1 l dg cA ad r n zn2 zn3 ni zi2 zi3 zc2 w sz
    exact ⟨0, _, nI (m_repc (up r 0 0 0) n n), c_rounds (up (c_rep c n n) 0 2 (nI (d + 1))) n ni, m_endDay r n ni, n, ni, ns, hs, 0, 0, _, h2, ⟨Nat.le_of_ble_eq_true rfl, Nat.le_of_ble_eq_true rfl⟩, h3, ⟨rfl, rfl, Nat.le_of_ble_eq_true rfl, Nat.le_of_ble_eq_true rfl⟩, t3, fun _ => by rw [updL0, t2], t1, Nat.le_succ _⟩
  · have w : r 0 5 = 99 := by rw [y2, show d = 99 by omega]; rfl
    have h2 := fun sz => MetZ.any (g := fun z => cw cA (fixz (u 0) z) n ni c ++ [lo cA o f]) u (by rw [cw_fz]) (ht_endDay_1 l dg cA (o := o) (f := f)  cl_0 (cx_endDay l dg cA hst u n ni c d y1 z (by omega)) rfl rfl (Nat.le_of_ble_eq_true rfl) (Nat.le_of_ble_eq_true rfl) sz)
    have h3 := fun sz => rr_endDay0 l dg cA ad r w sz
    exact ⟨1, f, 0, c, up r 0 0 1, n, ni, ns, hs, 1, 6, _, h2, ⟨Nat.le_of_ble_eq_true rfl, Nat.le_of_ble_eq_true rfl⟩, h3, ⟨rfl, rfl, Nat.le_of_ble_eq_true rfl, Nat.le_of_ble_eq_true rfl⟩, u00, fun q => absurd q (by decide), Rel_t H, Nat.le_succ _⟩
