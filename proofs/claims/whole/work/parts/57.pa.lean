/-! .. what is asked of houses, strata, weights -/
set_option maxHeartbeats 4000000 in
set_option maxRecDepth 100000 in
theorem p_stateOf (l : Launch) (dg : va_G) (cA : Nat → ClassId) (hst : l.stackTraces = false) {u ad : Nat → Nat} {o : Nat} {f : Nat → Int64} {c r : St} {n ni ns hs : Nat} (H : Rel c r n ni ns hs) (h512 : hs < 512) (x1 : Int32) : PairI l dg cA yL_stateOf cL_stateOf 4 [(0, 9, 12, 25)] yX6_stateOf cX6_stateOf 2 (some .char) Int32.toInt64 u ad o f c r n ni hs [.int x1] := by
  obtain ⟨zs1, zs2, zs3⟩ := zns H
  obtain ⟨zn1, zn2, zn3⟩ := zn H
  obtain ⟨zi1, zi2, zi3⟩ := zni H
  rcases ixc (v := x1) (n := n) (by omega) with ⟨h, hh, rfl⟩ | ⟨z1, z2⟩
  · obtain ⟨-, ⟨⟨d1, dst⟩, d2, d3, d4, d5, d6, d7, d8, d9⟩, b3⟩ := H.1.1.2.1 h hh
    obtain ⟨nc1, nc2⟩ := q_nc dst
    have h1 := fun sz => MetN.any (g := fun w => cw cA (fixz (u 0) w) n ni (c)) u cw_fz (Met.ofR (cc_stateOf l dg cA u n ni c zn1 zn3 h hh (by rw [d1]; exact nc1)) sz)
    have h2 := fun sz => hs_stateOf l dg cA (o := o) (f := f) (nI h) cl_0 h1 rfl rfl (Nat.le_of_ble_eq_true rfl) (Nat.le_of_ble_eq_true rfl) sz
    have h3 := fun sz => rr_stateOf1 l dg cA ad r n zn2 zn3 h hh nc2 nc1 sz
    exact ⟨0, _, r 4 h, c, up r 0 0 0, n, ni, ns, hs, 0, 0, _, h2, ⟨Nat.le_of_ble_eq_true rfl, Nat.le_of_ble_eq_true rfl⟩, h3, ⟨rfl, rfl, Nat.le_of_ble_eq_true rfl, Nat.le_of_ble_eq_true rfl⟩, u00, fun _ => by rw [updL0, d1], Rel_t H, Nat.le_succ _⟩
  · skip
    have h2 := fun sz => MetZ.any (g := fun z => cw cA (fixz (u 0) z) n ni c ++ [lo cA o f]) u (by rw [cw_fz]) (ht_stateOf_1 l dg cA (o := o) (f := f) x1 cl_0 (cx_stateOf l dg cA hst u n ni c zn1 zn3 x1 z2) rfl rfl (Nat.le_of_ble_eq_true rfl) (Nat.le_of_ble_eq_true rfl) sz)
    have h3 := fun sz => rr_stateOf0 l dg cA ad r n zn2 zn3 x1 z1 sz
    exact ⟨1, f, 0, c, up r 0 0 1, n, ni, ns, hs, 1, 6, _, h2, ⟨Nat.le_of_ble_eq_true rfl, Nat.le_of_ble_eq_true rfl⟩, h3, ⟨rfl, rfl, Nat.le_of_ble_eq_true rfl, Nat.le_of_ble_eq_true rfl⟩, u00, fun q => absurd q (by decide), Rel_t H, Nat.le_succ _⟩
set_option maxHeartbeats 4000000 in
set_option maxRecDepth 100000 in
theorem p_wantedFrom (l : Launch) (dg : va_G) (cA : Nat → ClassId) (hst : l.stackTraces = false) {u ad : Nat → Nat} {o : Nat} {f : Nat → Int64} {c r : St} {n ni ns hs : Nat} (H : Rel c r n ni ns hs) (h512 : hs < 512) (x1 : Int32) : PairI l dg cA yL_wantedFrom cL_wantedFrom 4 [(0, 9, 12, 25), (0, 9, 15, 19)] yX6_wantedFrom cX6_wantedFrom 2 (some .int) Int32.toInt64 u ad o f c r n ni hs [.int x1] := by
  obtain ⟨zs1, zs2, zs3⟩ := zns H
  obtain ⟨zn1, zn2, zn3⟩ := zn H
  obtain ⟨zi1, zi2, zi3⟩ := zni H
  rcases ixc (v := x1) (n := n) (by omega) with ⟨h, hh, rfl⟩ | ⟨z1, z2⟩
  · obtain ⟨-, ⟨⟨d1, dst⟩, d2, d3, d4, d5, d6, d7, d8, d9⟩, b3⟩ := H.1.1.2.1 h hh
    by_cases y : r 4 h = 119
    · skip
      have h1 := fun sz => MetN.any (g := fun w => cw cA (fixz (u 0) w) n ni (c)) u cw_fz (Met.ofR (cc_wantedFrom l dg cA u n ni c zn1 zn3 h hh (d1.trans y)) sz)
      have h2 := fun sz => hs_wantedFrom l dg cA (o := o) (f := f) (nI h) cl_0 h1 rfl rfl (Nat.le_of_ble_eq_true rfl) (Nat.le_of_ble_eq_true rfl) sz
      have h3 := fun sz => rr_wantedFrom1 l dg cA ad r n zn2 zn3 h hh y sz
      exact ⟨0, _, r 5 h, c, up r 0 0 0, n, ni, ns, hs, 0, 0, _, h2, ⟨Nat.le_of_ble_eq_true rfl, Nat.le_of_ble_eq_true rfl⟩, h3, ⟨rfl, rfl, Nat.le_of_ble_eq_true rfl, Nat.le_of_ble_eq_true rfl⟩, u00, fun _ => by rw [updL0, d2 y], Rel_t H, Nat.le_succ _⟩
    · skip
      have h2 := fun sz => MetZ.any (g := fun z => cw cA (fixz (u 0) z) n ni c ++ [lo cA o f]) u (by rw [cw_fz]) (ht_wantedFrom_2 l dg cA (o := o) (f := f) (nI h) cl_0 (cx_wantedFrom2 l dg cA hst u n ni c zn1 zn3 h hh (fun q => y (d1.symm.trans q))) rfl rfl (Nat.le_of_ble_eq_true rfl) (Nat.le_of_ble_eq_true rfl) sz)
      have h3 := fun sz => rr_wantedFrom2 l dg cA ad r n zn2 zn3 h hh y sz
      exact ⟨2, f, 0, c, up r 0 0 2, n, ni, ns, hs, 1, 6, _, h2, ⟨Nat.le_of_ble_eq_true rfl, Nat.le_of_ble_eq_true rfl⟩, h3, ⟨rfl, rfl, Nat.le_of_ble_eq_true rfl, Nat.le_of_ble_eq_true rfl⟩, u00, fun q => absurd q (by decide), Rel_t H, Nat.le_succ _⟩
  · skip
    have h2 := fun sz => MetZ.any (g := fun z => cw cA (fixz (u 0) z) n ni c ++ [lo cA o f]) u (by rw [cw_fz]) (ht_wantedFrom_1 l dg cA (o := o) (f := f) x1 cl_0 (cx_wantedFrom1 l dg cA hst u n ni c zn1 zn3 x1 z2) rfl rfl (Nat.le_of_ble_eq_true rfl) (Nat.le_of_ble_eq_true rfl) sz)
    have h3 := fun sz => rr_wantedFrom0 l dg cA ad r n zn2 zn3 x1 z1 sz
    exact ⟨1, f, 0, c, up r 0 0 1, n, ni, ns, hs, 1, 6, _, h2, ⟨Nat.le_of_ble_eq_true rfl, Nat.le_of_ble_eq_true rfl⟩, h3, ⟨rfl, rfl, Nat.le_of_ble_eq_true rfl, Nat.le_of_ble_eq_true rfl⟩, u00, fun q => absurd q (by decide), Rel_t H, Nat.le_succ _⟩
set_option maxHeartbeats 4000000 in
set_option maxRecDepth 100000 in
theorem p_codeOf (l : Launch) (dg : va_G) (cA : Nat → ClassId) (hst : l.stackTraces = false) {u ad : Nat → Nat} {o : Nat} {f : Nat → Int64} {c r : St} {n ni ns hs : Nat} (H : Rel c r n ni ns hs) (h512 : hs < 512) (x1 : Int32) : PairI l dg cA yL_codeOf cL_codeOf 4 [(0, 9, 12, 25)] yX6_codeOf cX6_codeOf 2 (some .int) Int32.toInt64 u ad o f c r n ni hs [.int x1] := by
  obtain ⟨zs1, zs2, zs3⟩ := zns H
  obtain ⟨zn1, zn2, zn3⟩ := zn H
  obtain ⟨zi1, zi2, zi3⟩ := zni H
  rcases ixc (v := x1) (n := n) (by omega) with ⟨h, hh, rfl⟩ | ⟨z1, z2⟩
  · obtain ⟨-, ⟨⟨d1, dst⟩, d2, d3, d4, d5, d6, d7, d8, d9⟩, b3⟩ := H.1.1.2.1 h hh
    rcases dst with y | y | y | y | y | y
    · skip
      have h1 := fun sz => MetN.any (g := fun w => cw cA (fixz (u 0) w) n ni (c)) u cw_fz (Met.ofR (cc_codeOf_u l dg cA u n ni c zn1 zn3 h hh (d1.trans y)) sz)
      have h2 := fun sz => hs_codeOf l dg cA (o := o) (f := f) (nI h) cl_0 h1 rfl rfl (Nat.le_of_ble_eq_true rfl) (Nat.le_of_ble_eq_true rfl) sz
      have h3 := fun sz => rr_codeOf_u l dg cA ad r n zn2 zn3 h hh y sz
      exact ⟨0, _, _, c, up r 0 0 0, n, ni, ns, hs, 0, 0, _, h2, ⟨Nat.le_of_ble_eq_true rfl, Nat.le_of_ble_eq_true rfl⟩, h3, ⟨rfl, rfl, Nat.le_of_ble_eq_true rfl, Nat.le_of_ble_eq_true rfl⟩, u00, fun _ => updL0, Rel_t H, Nat.le_succ _⟩
    · skip
      have h1 := fun sz => MetN.any (g := fun w => cw cA (fixz (u 0) w) n ni (c)) u cw_fz (Met.ofR (cc_codeOf_w l dg cA u n ni c zn1 zn3 h hh (d1.trans y)) sz)
      have h2 := fun sz => hs_codeOf l dg cA (o := o) (f := f) (nI h) cl_0 h1 rfl rfl (Nat.le_of_ble_eq_true rfl) (Nat.le_of_ble_eq_true rfl) sz
      have h3 := fun sz => rr_codeOf_w l dg cA ad r n zn2 zn3 h hh y sz
      exact ⟨0, _, 300 + r 6 h, c, up r 0 0 0, n, ni, ns, hs, 0, 0, _, h2, ⟨Nat.le_of_ble_eq_true rfl, Nat.le_of_ble_eq_true rfl⟩, h3, ⟨rfl, rfl, Nat.le_of_ble_eq_true rfl, Nat.le_of_ble_eq_true rfl⟩, u00, fun _ => by rw [updL0, d3.1], Rel_t H, Nat.le_succ _⟩
    · by_cases q : r 12 h = 1
      · skip
        have h1 := fun sz => MetN.any (g := fun w => cw cA (fixz (u 0) w) n ni (c)) u cw_fz (Met.ofR (cc_codeOf_a1 l dg cA u n ni c zn1 zn3 h hh (d1.trans y) (by rw [d3.1, ← d3.2 y]; exact q)) sz)
        have h2 := fun sz => hs_codeOf l dg cA (o := o) (f := f) (nI h) cl_0 h1 rfl rfl (Nat.le_of_ble_eq_true rfl) (Nat.le_of_ble_eq_true rfl) sz
        have h3 := fun sz => rr_codeOf_a1 l dg cA ad r n zn2 zn3 h hh y q sz
        exact ⟨0, _, _, c, up r 0 0 0, n, ni, ns, hs, 0, 0, _, h2, ⟨Nat.le_of_ble_eq_true rfl, Nat.le_of_ble_eq_true rfl⟩, h3, ⟨rfl, rfl, Nat.le_of_ble_eq_true rfl, Nat.le_of_ble_eq_true rfl⟩, u00, fun _ => updL0, Rel_t H, Nat.le_succ _⟩
      · skip
        have h1 := fun sz => MetN.any (g := fun w => cw cA (fixz (u 0) w) n ni (c)) u cw_fz (Met.ofR (cc_codeOf_a2 l dg cA u n ni c zn1 zn3 h hh (d1.trans y) (by rw [d3.1, ← d3.2 y]; exact q)) sz)
        have h2 := fun sz => hs_codeOf l dg cA (o := o) (f := f) (nI h) cl_0 h1 rfl rfl (Nat.le_of_ble_eq_true rfl) (Nat.le_of_ble_eq_true rfl) sz
        have h3 := fun sz => rr_codeOf_a2 l dg cA ad r n zn2 zn3 h hh y q sz
        exact ⟨0, _, _, c, up r 0 0 0, n, ni, ns, hs, 0, 0, _, h2, ⟨Nat.le_of_ble_eq_true rfl, Nat.le_of_ble_eq_true rfl⟩, h3, ⟨rfl, rfl, Nat.le_of_ble_eq_true rfl, Nat.le_of_ble_eq_true rfl⟩, u00, fun _ => updL0, Rel_t H, Nat.le_succ _⟩
    · skip
      have h1 := fun sz => MetN.any (g := fun w => cw cA (fixz (u 0) w) n ni (c)) u cw_fz (Met.ofR (cc_codeOf_r l dg cA u n ni c zn1 zn3 h hh (d1.trans y)) sz)
      have h2 := fun sz => hs_codeOf l dg cA (o := o) (f := f) (nI h) cl_0 h1 rfl rfl (Nat.le_of_ble_eq_true rfl) (Nat.le_of_ble_eq_true rfl) sz
      have h3 := fun sz => rr_codeOf_r l dg cA ad r n zn2 zn3 h hh y sz
      exact ⟨0, _, _, c, up r 0 0 0, n, ni, ns, hs, 0, 0, _, h2, ⟨Nat.le_of_ble_eq_true rfl, Nat.le_of_ble_eq_true rfl⟩, h3, ⟨rfl, rfl, Nat.le_of_ble_eq_true rfl, Nat.le_of_ble_eq_true rfl⟩, u00, fun _ => updL0, Rel_t H, Nat.le_succ _⟩
    · skip
      have h1 := fun sz => MetN.any (g := fun w => cw cA (fixz (u 0) w) n ni (c)) u cw_fz (Met.ofR (cc_codeOf_g l dg cA u n ni c zn1 zn3 h hh (d1.trans y)) sz)
      have h2 := fun sz => hs_codeOf l dg cA (o := o) (f := f) (nI h) cl_0 h1 rfl rfl (Nat.le_of_ble_eq_true rfl) (Nat.le_of_ble_eq_true rfl) sz
      have h3 := fun sz => rr_codeOf_g l dg cA ad r n zn2 zn3 h hh y sz
      exact ⟨0, _, _, c, up r 0 0 0, n, ni, ns, hs, 0, 0, _, h2, ⟨Nat.le_of_ble_eq_true rfl, Nat.le_of_ble_eq_true rfl⟩, h3, ⟨rfl, rfl, Nat.le_of_ble_eq_true rfl, Nat.le_of_ble_eq_true rfl⟩, u00, fun _ => updL0, Rel_t H, Nat.le_succ _⟩
    · skip
      have h1 := fun sz => MetN.any (g := fun w => cw cA (fixz (u 0) w) n ni (c)) u cw_fz (Met.ofR (cc_codeOf_e l dg cA u n ni c zn1 zn3 h hh (d1.trans y)) sz)
      have h2 := fun sz => hs_codeOf l dg cA (o := o) (f := f) (nI h) cl_0 h1 rfl rfl (Nat.le_of_ble_eq_true rfl) (Nat.le_of_ble_eq_true rfl) sz
      have h3 := fun sz => rr_codeOf_e l dg cA ad r n zn2 zn3 h hh y sz
      exact ⟨0, _, _, c, up r 0 0 0, n, ni, ns, hs, 0, 0, _, h2, ⟨Nat.le_of_ble_eq_true rfl, Nat.le_of_ble_eq_true rfl⟩, h3, ⟨rfl, rfl, Nat.le_of_ble_eq_true rfl, Nat.le_of_ble_eq_true rfl⟩, u00, fun _ => updL0, Rel_t H, Nat.le_succ _⟩
  · skip
    have h2 := fun sz => MetZ.any (g := fun z => cw cA (fixz (u 0) z) n ni c ++ [lo cA o f]) u (by rw [cw_fz]) (ht_codeOf_1 l dg cA (o := o) (f := f) x1 cl_0 (cx_codeOf l dg cA hst u n ni c zn1 zn3 x1 z2) rfl rfl (Nat.le_of_ble_eq_true rfl) (Nat.le_of_ble_eq_true rfl) sz)
    have h3 := fun sz => rr_codeOf0 l dg cA ad r n zn2 zn3 x1 z1 sz
    exact ⟨1, f, 0, c, up r 0 0 1, n, ni, ns, hs, 1, 6, _, h2, ⟨Nat.le_of_ble_eq_true rfl, Nat.le_of_ble_eq_true rfl⟩, h3, ⟨rfl, rfl, Nat.le_of_ble_eq_true rfl, Nat.le_of_ble_eq_true rfl⟩, u00, fun q => absurd q (by decide), Rel_t H, Nat.le_succ _⟩
set_option maxHeartbeats 4000000 in
set_option maxRecDepth 100000 in
theorem p_answerOf (l : Launch) (dg : va_G) (cA : Nat → ClassId) (hst : l.stackTraces = false) {u ad : Nat → Nat} {o : Nat} {f : Nat → Int64} {c r : St} {n ni ns hs : Nat} (H : Rel c r n ni ns hs) (h512 : hs < 512) (x1 : Int32) : PairI l dg cA yL_answerOf cL_answerOf 4 [(0, 9, 12, 25), (0, 9, 15, 40)] yX6_answerOf cX6_answerOf 2 (some .int) Int32.toInt64 u ad o f c r n ni hs [.int x1] := by
  obtain ⟨zs1, zs2, zs3⟩ := zns H
  obtain ⟨zn1, zn2, zn3⟩ := zn H
  obtain ⟨zi1, zi2, zi3⟩ := zni H
  rcases ixc (v := x1) (n := n) (by omega) with ⟨h, hh, rfl⟩ | ⟨z1, z2⟩
  · obtain ⟨-, ⟨⟨d1, dst⟩, d2, d3, d4, d5, d6, d7, d8, d9⟩, b3⟩ := H.1.1.2.1 h hh
    by_cases y : r 4 h = 97
    · skip
      have h1 := fun sz => MetN.any (g := fun w => cw cA (fixz (u 0) w) n ni (c)) u cw_fz (Met.ofR (cc_answerOf l dg cA u n ni c zn1 zn3 h hh (d1.trans y)) sz)
      have h2 := fun sz => hs_answerOf l dg cA (o := o) (f := f) (nI h) cl_0 h1 rfl rfl (Nat.le_of_ble_eq_true rfl) (Nat.le_of_ble_eq_true rfl) sz
      have h3 := fun sz => rr_answerOf1 l dg cA ad r n zn2 zn3 h hh y sz
      exact ⟨0, _, r 10 h, c, up r 0 0 0, n, ni, ns, hs, 0, 0, _, h2, ⟨Nat.le_of_ble_eq_true rfl, Nat.le_of_ble_eq_true rfl⟩, h3, ⟨rfl, rfl, Nat.le_of_ble_eq_true rfl, Nat.le_of_ble_eq_true rfl⟩, u00, fun _ => by rw [updL0, (b3.2 y).1.1], Rel_t H, Nat.le_succ _⟩
    · skip
      have h2 := fun sz => MetZ.any (g := fun z => cw cA (fixz (u 0) z) n ni c ++ [lo cA o f]) u (by rw [cw_fz]) (ht_answerOf_2 l dg cA (o := o) (f := f) (nI h) cl_0 (cx_answerOf2 l dg cA hst u n ni c zn1 zn3 h hh (fun q => y (d1.symm.trans q))) rfl rfl (Nat.le_of_ble_eq_true rfl) (Nat.le_of_ble_eq_true rfl) sz)
      have h3 := fun sz => rr_answerOf2 l dg cA ad r n zn2 zn3 h hh y sz
      exact ⟨2, f, 0, c, up r 0 0 2, n, ni, ns, hs, 1, 6, _, h2, ⟨Nat.le_of_ble_eq_true rfl, Nat.le_of_ble_eq_true rfl⟩, h3, ⟨rfl, rfl, Nat.le_of_ble_eq_true rfl, Nat.le_of_ble_eq_true rfl⟩, u00, fun q => absurd q (by decide), Rel_t H, Nat.le_succ _⟩
  · skip
    have h2 := fun sz => MetZ.any (g := fun z => cw cA (fixz (u 0) z) n ni c ++ [lo cA o f]) u (by rw [cw_fz]) (ht_answerOf_1 l dg cA (o := o) (f := f) x1 cl_0 (cx_answerOf1 l dg cA hst u n ni c zn1 zn3 x1 z2) rfl rfl (Nat.le_of_ble_eq_true rfl) (Nat.le_of_ble_eq_true rfl) sz)
    have h3 := fun sz => rr_answerOf0 l dg cA ad r n zn2 zn3 x1 z1 sz
    exact ⟨1, f, 0, c, up r 0 0 1, n, ni, ns, hs, 1, 6, _, h2, ⟨Nat.le_of_ble_eq_true rfl, Nat.le_of_ble_eq_true rfl⟩, h3, ⟨rfl, rfl, Nat.le_of_ble_eq_true rfl, Nat.le_of_ble_eq_true rfl⟩, u00, fun q => absurd q (by decide), Rel_t H, Nat.le_succ _⟩
set_option maxHeartbeats 4000000 in
set_option maxRecDepth 100000 in
theorem p_weight (l : Launch) (dg : va_G) (cA : Nat → ClassId) (hst : l.stackTraces = false) {u ad : Nat → Nat} {o : Nat} {f : Nat → Int64} {c r : St} {n ni ns hs : Nat} (H : Rel c r n ni ns hs) (h512 : hs < 512) (x1 : Int32) : PairI l dg cA yL_weight cL_weight 4 [(0, 9, 12, 25), (0, 9, 15, 40)] yX6_weight cX6_weight 2 (some .int) Int32.toInt64 u ad o f c r n ni hs [.int x1] := by
  obtain ⟨zs1, zs2, zs3⟩ := zns H
  obtain ⟨zn1, zn2, zn3⟩ := zn H
  obtain ⟨zi1, zi2, zi3⟩ := zni H
  rcases ixc (v := x1) (n := n) (by omega) with ⟨h, hh, rfl⟩ | ⟨z1, z2⟩
  · obtain ⟨-, ⟨⟨d1, dst⟩, d2, d3, d4, d5, d6, d7, d8, d9⟩, b3⟩ := H.1.1.2.1 h hh
    by_cases y : r 4 h = 97
    · skip
      have h1 := fun sz => MetN.any (g := fun w => cw cA (fixz (u 0) w) n ni (c)) u cw_fz (Met.ofR (cc_weight l dg cA u n ni c zn1 zn3 h hh (d1.trans y)) sz)
      have h2 := fun sz => hs_weight l dg cA (o := o) (f := f) (nI h) cl_0 h1 rfl rfl (Nat.le_of_ble_eq_true rfl) (Nat.le_of_ble_eq_true rfl) sz
      have h3 := fun sz => rr_weight1 l dg cA ad r n zn2 zn3 ns zs2 zs3 h hh y sz
      exact ⟨0, _, m_wt (up r 0 0 0) n ns 7 h, c, m_weigh (up r 0 0 0) n ns, n, ni, ns, hs, 0, 0, _, h2, ⟨Nat.le_of_ble_eq_true rfl, Nat.le_of_ble_eq_true rfl⟩, h3, ⟨rfl, rfl, Nat.le_of_ble_eq_true rfl, Nat.le_of_ble_eq_true rfl⟩, by unfold m_weigh; rw [upr_row (by decide)]; exact up_at, fun _ => by rw [updL0, q_weight H hh y], Rel_w (Rel_t H), Nat.le_succ _⟩
    · skip
      have h2 := fun sz => MetZ.any (g := fun z => cw cA (fixz (u 0) z) n ni c ++ [lo cA o f]) u (by rw [cw_fz]) (ht_weight_2 l dg cA (o := o) (f := f) (nI h) cl_0 (cx_weight2 l dg cA hst u n ni c zn1 zn3 h hh (fun q => y (d1.symm.trans q))) rfl rfl (Nat.le_of_ble_eq_true rfl) (Nat.le_of_ble_eq_true rfl) sz)
      have h3 := fun sz => rr_weight2 l dg cA ad r n zn2 zn3 h hh y sz
      exact ⟨2, f, 0, c, up r 0 0 2, n, ni, ns, hs, 1, 6, _, h2, ⟨Nat.le_of_ble_eq_true rfl, Nat.le_of_ble_eq_true rfl⟩, h3, ⟨rfl, rfl, Nat.le_of_ble_eq_true rfl, Nat.le_of_ble_eq_true rfl⟩, u00, fun q => absurd q (by decide), Rel_t H, Nat.le_succ _⟩
  · skip
    have h2 := fun sz => MetZ.any (g := fun z => cw cA (fixz (u 0) z) n ni c ++ [lo cA o f]) u (by rw [cw_fz]) (ht_weight_1 l dg cA (o := o) (f := f) x1 cl_0 (cx_weight1 l dg cA hst u n ni c zn1 zn3 x1 z2) rfl rfl (Nat.le_of_ble_eq_true rfl) (Nat.le_of_ble_eq_true rfl) sz)
    have h3 := fun sz => rr_weight0 l dg cA ad r n zn2 zn3 x1 z1 sz
    exact ⟨1, f, 0, c, up r 0 0 1, n, ni, ns, hs, 1, 6, _, h2, ⟨Nat.le_of_ble_eq_true rfl, Nat.le_of_ble_eq_true rfl⟩, h3, ⟨rfl, rfl, Nat.le_of_ble_eq_true rfl, Nat.le_of_ble_eq_true rfl⟩, u00, fun q => absurd q (by decide), Rel_t H, Nat.le_succ _⟩
set_option maxHeartbeats 4000000 in
set_option maxRecDepth 100000 in
theorem p_weightAnew (l : Launch) (dg : va_G) (cA : Nat → ClassId) (hst : l.stackTraces = false) {u ad : Nat → Nat} {o : Nat} {f : Nat → Int64} {c r : St} {n ni ns hs : Nat} (H : Rel c r n ni ns hs) (h512 : hs < 512) (x1 : Int32) : PairI l dg cA yL_weightAnew cL_weightAnew 4 [(0, 9, 12, 25), (0, 9, 15, 40)] yX6_weightAnew cX6_weightAnew 2 (some .int) Int32.toInt64 u ad o f c r n ni hs [.int x1] := by
  obtain ⟨zs1, zs2, zs3⟩ := zns H
  obtain ⟨zn1, zn2, zn3⟩ := zn H
  obtain ⟨zi1, zi2, zi3⟩ := zni H
  rcases ixc (v := x1) (n := n) (by omega) with ⟨h, hh, rfl⟩ | ⟨z1, z2⟩
  · obtain ⟨-, ⟨⟨d1, dst⟩, d2, d3, d4, d5, d6, d7, d8, d9⟩, b3⟩ := H.1.1.2.1 h hh
    obtain ⟨E, hE⟩ := H.1.1.2.2.2.2.2.2
    by_cases y : r 4 h = 97
    · skip
      have h1 := fun sz => MetN.any (g := fun w => cw cA (fixz (u 0) w) n ni (c_wa c E hs n)) u cw_fz (Met.ofM (cc_weightAnew l dg cA u n ni c zn1 zn3 h hh (d1.trans y) E hs (zhs H) (by omega) (fun k hk => (hE.1 k hk).1) (fun k hk => (hE.1 k hk).2) hE.2.1 sz))
      have h2 := fun sz => hs_weightAnew l dg cA (o := o) (f := f) (nI h) cl_0 h1 rfl rfl (Nat.le_of_ble_eq_true rfl) (Nat.le_of_ble_eq_true rfl) sz
      have h3 := fun sz => rr_weightAnew1 l dg cA ad r n zn2 zn3 ns zs2 zs3 h hh y sz
      exact ⟨0, _, m_wt (up r 0 0 0) n ns 7 h, c_wa c E hs n, m_weigh (up r 0 0 0) n ns, n, ni, ns, hs, 0, 0, _, h2, ⟨Nat.le_of_ble_eq_true rfl, Nat.le_of_ble_eq_true rfl⟩, h3, ⟨rfl, rfl, Nat.le_of_ble_eq_true rfl, Nat.le_of_ble_eq_true rfl⟩, by unfold m_weigh; rw [upr_row (by decide)]; exact up_at, fun _ => by rw [updL0, q_anew H hE hh y, ← H.2.1 h hh y, q_weight H hh y], Rel_w (Rel_t (t_wa H hE)), Nat.le_succ _⟩
    · skip
      have h2 := fun sz => MetZ.any (g := fun z => cw cA (fixz (u 0) z) n ni c ++ [lo cA o f]) u (by rw [cw_fz]) (ht_weightAnew_2 l dg cA (o := o) (f := f) (nI h) cl_0 (cx_weightAnew2 l dg cA hst u n ni c zn1 zn3 h hh (fun q => y (d1.symm.trans q))) rfl rfl (Nat.le_of_ble_eq_true rfl) (Nat.le_of_ble_eq_true rfl) sz)
      have h3 := fun sz => rr_weightAnew2 l dg cA ad r n zn2 zn3 h hh y sz
      exact ⟨2, f, 0, c, up r 0 0 2, n, ni, ns, hs, 1, 6, _, h2, ⟨Nat.le_of_ble_eq_true rfl, Nat.le_of_ble_eq_true rfl⟩, h3, ⟨rfl, rfl, Nat.le_of_ble_eq_true rfl, Nat.le_of_ble_eq_true rfl⟩, u00, fun q => absurd q (by decide), Rel_t H, Nat.le_succ _⟩
  · skip
    have h2 := fun sz => MetZ.any (g := fun z => cw cA (fixz (u 0) z) n ni c ++ [lo cA o f]) u (by rw [cw_fz]) (ht_weightAnew_1 l dg cA (o := o) (f := f) x1 cl_0 (cx_weightAnew1 l dg cA hst u n ni c zn1 zn3 x1 z2) rfl rfl (Nat.le_of_ble_eq_true rfl) (Nat.le_of_ble_eq_true rfl) sz)
    have h3 := fun sz => rr_weightAnew0 l dg cA ad r n zn2 zn3 x1 z1 sz
    exact ⟨1, f, 0, c, up r 0 0 1, n, ni, ns, hs, 1, 6, _, h2, ⟨Nat.le_of_ble_eq_true rfl, Nat.le_of_ble_eq_true rfl⟩, h3, ⟨rfl, rfl, Nat.le_of_ble_eq_true rfl, Nat.le_of_ble_eq_true rfl⟩, u00, fun q => absurd q (by decide), Rel_t H, Nat.le_succ _⟩
set_option maxHeartbeats 4000000 in
set_option maxRecDepth 100000 in
theorem p_target (l : Launch) (dg : va_G) (cA : Nat → ClassId) (hst : l.stackTraces = false) {u ad : Nat → Nat} {o : Nat} {f : Nat → Int64} {c r : St} {n ni ns hs : Nat} (H : Rel c r n ni ns hs) (h512 : hs < 512) (x1 : Int32) : PairI l dg cA yL_target cL_target 4 [(0, 9, 12, 25)] yX6_target cX6_target 2 (some .int) Int32.toInt64 u ad o f c r n ni hs [.int x1] := by
  obtain ⟨zs1, zs2, zs3⟩ := zns H
  obtain ⟨zn1, zn2, zn3⟩ := zn H
  obtain ⟨zi1, zi2, zi3⟩ := zni H
  rcases ixc (v := x1) (n := ns) (by omega) with ⟨js, hjs, rfl⟩ | ⟨z1, z2⟩
  · skip
    have h1 := fun sz => MetN.any (g := fun w => cw cA (fixz (u 0) w) n ni (c)) u cw_fz (Met.ofR (cc_target l dg cA u n ni c ns zs1 zs3 js hjs) sz)
    have h2 := fun sz => hs_target l dg cA (o := o) (f := f) (nI js) cl_0 h1 rfl rfl (Nat.le_of_ble_eq_true rfl) (Nat.le_of_ble_eq_true rfl) sz
    have h3 := fun sz => rr_target1 l dg cA ad r n zn2 zn3 ns zs2 zs3 js hjs sz
    exact ⟨0, _, _, c, up r 0 0 0, n, ni, ns, hs, 0, 0, _, h2, ⟨Nat.le_of_ble_eq_true rfl, Nat.le_of_ble_eq_true rfl⟩, h3, ⟨rfl, rfl, Nat.le_of_ble_eq_true rfl, Nat.le_of_ble_eq_true rfl⟩, u00, fun _ => by rw [updL0, H.1.2.1 js (by omega), m_gl_n], Rel_t H, Nat.le_succ _⟩
  · skip
    have h2 := fun sz => MetZ.any (g := fun z => cw cA (fixz (u 0) z) n ni c ++ [lo cA o f]) u (by rw [cw_fz]) (ht_target_1 l dg cA (o := o) (f := f) x1 cl_0 (cx_target l dg cA hst u n ni c ns zs1 zs3 x1 z2) rfl rfl (Nat.le_of_ble_eq_true rfl) (Nat.le_of_ble_eq_true rfl) sz)
    have h3 := fun sz => rr_target0 l dg cA ad r ns zs2 zs3 x1 z1 sz
    exact ⟨1, f, 0, c, up r 0 0 1, n, ni, ns, hs, 1, 6, _, h2, ⟨Nat.le_of_ble_eq_true rfl, Nat.le_of_ble_eq_true rfl⟩, h3, ⟨rfl, rfl, Nat.le_of_ble_eq_true rfl, Nat.le_of_ble_eq_true rfl⟩, u00, fun q => absurd q (by decide), Rel_t H, Nat.le_succ _⟩
set_option maxHeartbeats 4000000 in
set_option maxRecDepth 100000 in
theorem p_weightOfLanguage (l : Launch) (dg : va_G) (cA : Nat → ClassId) (hst : l.stackTraces = false) {u ad : Nat → Nat} {o : Nat} {f : Nat → Int64} {c r : St} {n ni ns hs : Nat} (H : Rel c r n ni ns hs) (h512 : hs < 512) (x1 : Int32) : PairI l dg cA yL_weightOfLanguage cL_weightOfLanguage 4 [(0, 9, 12, 13)] yX6_weightOfLanguage cX6_weightOfLanguage 4 (some .int) Int32.toInt64 u ad o f c r n ni hs [.int x1] := by
  obtain ⟨zs1, zs2, zs3⟩ := zns H
  obtain ⟨zn1, zn2, zn3⟩ := zn H
  obtain ⟨zi1, zi2, zi3⟩ := zni H
  by_cases z : ¬ x1 < 0 ∧ ¬ 2 < x1
  · obtain ⟨g3, hg, rfl⟩ := bnd (B := 2) (by omega) z.1 z.2
    obtain ⟨s1, s2⟩ := q_lang (r' := up r 0 0 0) (g := g3) H (up_row (by decide)) (up_row (by decide)) (up_row (by decide)) (up_row (by decide))
    have h1 := fun sz => MetN.any (g := fun w => cw cA (fixz (u 0) w) n ni (c)) u cw_fz (Met.ofR (cc_wol l dg cA u n ni c zn1 zn3 g3 hg) sz)
    have h2 := fun sz => hs_weightOfLanguage l dg cA (o := o) (f := f) (nI g3) cl_0 h1 rfl rfl (Nat.le_of_ble_eq_true rfl) (Nat.le_of_ble_eq_true rfl) sz
    have h3 := fun sz => rr_wol1 l dg cA ad r n zn2 zn3 ns zs2 zs3 (nI g3) z.1 z.2 sz
    exact ⟨0, _, _, c, m_weigh (up r 0 0 0) n ns, n, ni, ns, hs, 0, 0, _, h2, ⟨Nat.le_of_ble_eq_true rfl, Nat.le_of_ble_eq_true rfl⟩, h3, ⟨rfl, rfl, Nat.le_of_ble_eq_true rfl, Nat.le_of_ble_eq_true rfl⟩, by unfold m_weigh; rw [upr_row (by decide)]; exact up_at, fun _ => by rw [updL0, s1, s2], Rel_w (Rel_t H), Nat.le_succ _⟩
  · skip
    have h2 := fun sz => MetZ.any (g := fun z => cw cA (fixz (u 0) z) n ni c ++ [lo cA o f]) u (by rw [cw_fz]) (ht_weightOfLanguage_1 l dg cA (o := o) (f := f) x1 cl_0 (cx_wol l dg cA hst u n ni c x1 z) rfl rfl (Nat.le_of_ble_eq_true rfl) (Nat.le_of_ble_eq_true rfl) sz)
    have h3 := fun sz => rr_wol0 l dg cA ad r x1 z sz
    exact ⟨1, f, 0, c, up r 0 0 1, n, ni, ns, hs, 1, 6, _, h2, ⟨Nat.le_of_ble_eq_true rfl, Nat.le_of_ble_eq_true rfl⟩, h3, ⟨rfl, rfl, Nat.le_of_ble_eq_true rfl, Nat.le_of_ble_eq_true rfl⟩, u00, fun q => absurd q (by decide), Rel_t H, Nat.le_succ _⟩
