set_option maxHeartbeats 4000000 in
set_option maxRecDepth 100000 in
theorem cc_rS (l : Launch) (dg : va_G) (cA : Nat → ClassId) (ad : Nat → Nat) (nh ni : Nat) (c : St) (ns : Nat) (hns : c 0 3 = nI ns) (hns4 : ns ≤ 4) (js : Nat) (hjs : js < ns) : MetR l dg cA yX5_requireStratum cX5_requireStratum 2 none ({ frames := 0, cells := 0, slots := 0, locals := 0 } : Room) (cw cA ad nh ni c) [.ref (ad 0), .int (nI js)] none := by
  refine ofR (by decide) (Nat.le_of_ble_eq_true rfl) (own := RX5) rfl (fun p e s0 m args below meth ccd ls S hr hlk hargs hK hP hl => ?_)
  have hx := S.1
  have hb := S.2.1
  have hl : lv_has ls 2 [(0, .ref (ad 0)), (1, .int (nI js))] := hl
  refine lv_iload_n hx hb dX5_requireStratum_0 rfl (lv_at hl 1 rfl) ?_
  refine lv_if_lt (tgt := 15) hx hb dX5_requireStratum_1 (by decide) (fun b1 => ?_) (fun b1 => ?_)
  · skip
    have g1 : js < 0 := (nI_ltI (a := js) (b := 0) (by omega) (by omega)).mp b1
    exact absurd g1 (by omega)
  · skip
    have g1 : ¬ js < 0 := fun zz => b1 ((nI_ltI (a := js) (b := 0) (by omega) (by omega)).mpr zz)
    refine lv_iload_n hx hb dX5_requireStratum_4 rfl (lv_at hl 1 rfl) ?_
    refine lv_aload_n hx hb dX5_requireStratum_5 rfl (lv_at hl 0 rfl) ?_
    refine gf S hK hP 0 cl_0 fX5_10 (v := .ref (ad 1)) cfb_0 dX5_requireStratum_6 ?_
    refine gf S hK hP 1 cl_1 fX5_63 (v := .int (nI ns)) (cfr_4 hns) dX5_requireStratum_9 ?_
    refine lv_icmp_lt (tgt := 26) hx hb dX5_requireStratum_12 (by decide) (fun b12 => ?_) (fun b12 => ?_)
    · skip
      have g12 : js < ns := (nI_ltI (a := js) (b := ns) (by omega) (by omega)).mp b12
      exact eRv S hr hlk dX5_requireStratum_26
    · skip
      have g12 : ¬ js < ns := fun zz => b12 ((nI_ltI (a := js) (b := ns) (by omega) (by omega)).mpr zz)
      exact absurd hjs g12

set_option maxHeartbeats 4000000 in
set_option maxRecDepth 100000 in
theorem cc_rI (l : Launch) (dg : va_G) (cA : Nat → ClassId) (ad : Nat → Nat) (nh ni : Nat) (c : St) (hni : c 0 0 = nI ni) (hni4 : ni ≤ 4) (i : Nat) (hi : i < ni) : MetR l dg cA yX5_requireInterviewer cX5_requireInterviewer 2 none ({ frames := 0, cells := 0, slots := 0, locals := 0 } : Room) (cw cA ad nh ni c) [.ref (ad 0), .int (nI i)] none := by
  refine ofR (by decide) (Nat.le_of_ble_eq_true rfl) (own := RX5) rfl (fun p e s0 m args below meth ccd ls S hr hlk hargs hK hP hl => ?_)
  have hx := S.1
  have hb := S.2.1
  have hl : lv_has ls 2 [(0, .ref (ad 0)), (1, .int (nI i))] := hl
  refine lv_iload_n hx hb dX5_requireInterviewer_0 rfl (lv_at hl 1 rfl) ?_
  refine lv_if_lt (tgt := 12) hx hb dX5_requireInterviewer_1 (by decide) (fun b1 => ?_) (fun b1 => ?_)
  · skip
    have g1 : i < 0 := (nI_ltI (a := i) (b := 0) (by omega) (by omega)).mp b1
    exact absurd g1 (by omega)
  · skip
    have g1 : ¬ i < 0 := fun zz => b1 ((nI_ltI (a := i) (b := 0) (by omega) (by omega)).mpr zz)
    refine lv_iload_n hx hb dX5_requireInterviewer_4 rfl (lv_at hl 1 rfl) ?_
    refine lv_aload_n hx hb dX5_requireInterviewer_5 rfl (lv_at hl 0 rfl) ?_
    refine gf S hK hP 0 cl_0 fX5_45 (v := .int (nI ni)) (cfb_6 hni) dX5_requireInterviewer_6 ?_
    refine lv_icmp_lt (tgt := 23) hx hb dX5_requireInterviewer_9 (by decide) (fun b9 => ?_) (fun b9 => ?_)
    · skip
      have g9 : i < ni := (nI_ltI (a := i) (b := ni) (by omega) (by omega)).mp b9
      exact eRv S hr hlk dX5_requireInterviewer_23
    · skip
      have g9 : ¬ i < ni := fun zz => b9 ((nI_ltI (a := i) (b := ni) (by omega) (by omega)).mpr zz)
      exact absurd hi g9

set_option maxHeartbeats 4000000 in
set_option maxRecDepth 100000 in
theorem cc_rP (l : Launch) (dg : va_G) (cA : Nat → ClassId) (ad : Nat → Nat) (nh ni : Nat) (c : St) (x : Int32) (h1 : ¬ x < 0) (h2 : ¬ 99 < x) : MetR l dg cA yX5_requirePlace cX5_requirePlace 2 none ({ frames := 0, cells := 0, slots := 0, locals := 0 } : Room) (cw cA ad nh ni c) [.ref (ad 0), .int x] none := by
  refine ofR (by decide) (Nat.le_of_ble_eq_true rfl) (own := RX5) rfl (fun p e s0 m args below meth ccd ls S hr hlk hargs hK hP hl => ?_)
  have hx := S.1
  have hb := S.2.1
  have hl : lv_has ls 2 [(0, .ref (ad 0)), (1, .int x)] := hl
  refine lv_iload_n hx hb dX5_requirePlace_0 rfl (lv_at hl 1 rfl) ?_
  refine lv_if_lt (tgt := 10) hx hb dX5_requirePlace_1 (by decide) (fun b1 => ?_) (fun b1 => ?_)
  · skip
    exact absurd b1 h1
  · skip
    refine lv_iload_n hx hb dX5_requirePlace_4 rfl (lv_at hl 1 rfl) ?_
    refine lv_bipush (v := 99) hx hb dX5_requirePlace_5 (by decide) ?_
    refine lv_icmp_le (tgt := 21) hx hb dX5_requirePlace_7 (by decide) (fun b7 => ?_) (fun b7 => ?_)
    · skip
      exact eRv S hr hlk dX5_requirePlace_21
    · skip
      exact absurd (Int32.not_lt.mp h2) b7

set_option maxHeartbeats 4000000 in
set_option maxRecDepth 100000 in
theorem cc_rL (l : Launch) (dg : va_G) (cA : Nat → ClassId) (ad : Nat → Nat) (nh ni : Nat) (c : St) (x : Int32) (h1 : ¬ x < 0) (h2 : ¬ 2 < x) : MetR l dg cA yX5_requireLanguage cX5_requireLanguage 2 none ({ frames := 0, cells := 0, slots := 0, locals := 0 } : Room) (cw cA ad nh ni c) [.ref (ad 0), .int x] none := by
  refine ofR (by decide) (Nat.le_of_ble_eq_true rfl) (own := RX5) rfl (fun p e s0 m args below meth ccd ls S hr hlk hargs hK hP hl => ?_)
  have hx := S.1
  have hb := S.2.1
  have hl : lv_has ls 2 [(0, .ref (ad 0)), (1, .int x)] := hl
  refine lv_iload_n hx hb dX5_requireLanguage_0 rfl (lv_at hl 1 rfl) ?_
  refine lv_if_lt (tgt := 9) hx hb dX5_requireLanguage_1 (by decide) (fun b1 => ?_) (fun b1 => ?_)
  · skip
    exact absurd b1 h1
  · skip
    refine lv_iload_n hx hb dX5_requireLanguage_4 rfl (lv_at hl 1 rfl) ?_
    refine lv_iconst (v := 3) hx hb dX5_requireLanguage_5 (by decide) ?_
    refine lv_icmp_lt (tgt := 20) hx hb dX5_requireLanguage_6 (by decide) (fun b6 => ?_) (fun b6 => ?_)
    · skip
      exact eRv S hr hlk dX5_requireLanguage_20
    · skip
      exact absurd (i32_lt3 h2) b6

set_option maxHeartbeats 4000000 in
set_option maxRecDepth 100000 in
theorem cc_rO (l : Launch) (dg : va_G) (cA : Nat → ClassId) (ad : Nat → Nat) (nh ni : Nat) (c : St) (o : Int32) (hov : o = 97 ∨ o = 110 ∨ o = 114 ∨ o = 101) : MetR l dg cA yX5_requireOutcome cX5_requireOutcome 2 none ({ frames := 0, cells := 0, slots := 0, locals := 0 } : Room) (cw cA ad nh ni c) [.ref (ad 0), .int o] none := by
  refine ofR (by decide) (Nat.le_of_ble_eq_true rfl) (own := RX5) rfl (fun p e s0 m args below meth ccd ls S hr hlk hargs hK hP hl => ?_)
  have hx := S.1
  have hb := S.2.1
  have hl : lv_has ls 2 [(0, .ref (ad 0)), (1, .int o)] := hl
  refine lv_iload_n hx hb dX5_requireOutcome_0 rfl (lv_at hl 1 rfl) ?_
  refine lv_bipush (v := 97) hx hb dX5_requireOutcome_1 (by decide) ?_
  refine lv_icmp_eq (tgt := 35) hx hb dX5_requireOutcome_3 (by decide) (fun b3 => ?_) (fun b3 => ?_)
  · skip
    exact eRv S hr hlk dX5_requireOutcome_35
  · skip
    refine lv_iload_n hx hb dX5_requireOutcome_6 rfl (lv_at hl 1 rfl) ?_
    refine lv_bipush (v := 110) hx hb dX5_requireOutcome_7 (by decide) ?_
    refine lv_icmp_eq (tgt := 35) hx hb dX5_requireOutcome_9 (by decide) (fun b9 => ?_) (fun b9 => ?_)
    · skip
      exact eRv S hr hlk dX5_requireOutcome_35
    · skip
      refine lv_iload_n hx hb dX5_requireOutcome_12 rfl (lv_at hl 1 rfl) ?_
      refine lv_bipush (v := 114) hx hb dX5_requireOutcome_13 (by decide) ?_
      refine lv_icmp_eq (tgt := 35) hx hb dX5_requireOutcome_15 (by decide) (fun b15 => ?_) (fun b15 => ?_)
      · skip
        exact eRv S hr hlk dX5_requireOutcome_35
      · skip
        refine lv_iload_n hx hb dX5_requireOutcome_18 rfl (lv_at hl 1 rfl) ?_
        refine lv_bipush (v := 101) hx hb dX5_requireOutcome_19 (by decide) ?_
        refine lv_icmp_eq (tgt := 35) hx hb dX5_requireOutcome_21 (by decide) (fun b21 => ?_) (fun b21 => ?_)
        · skip
          exact eRv S hr hlk dX5_requireOutcome_35
        · skip
          exact absurd hov (by simp [b3, b9, b15, b21])

set_option maxHeartbeats 4000000 in
set_option maxRecDepth 100000 in
theorem cc_rA (l : Launch) (dg : va_G) (cA : Nat → ClassId) (ad : Nat → Nat) (nh ni : Nat) (c : St) (x : Int32) (h1 : ¬ x < 0) (h2 : ¬ 9 < x) : MetR l dg cA yX5_requireAnswer cX5_requireAnswer 2 none ({ frames := 0, cells := 0, slots := 0, locals := 0 } : Room) (cw cA ad nh ni c) [.ref (ad 0), .int x] none := by
  refine ofR (by decide) (Nat.le_of_ble_eq_true rfl) (own := RX5) rfl (fun p e s0 m args below meth ccd ls S hr hlk hargs hK hP hl => ?_)
  have hx := S.1
  have hb := S.2.1
  have hl : lv_has ls 2 [(0, .ref (ad 0)), (1, .int x)] := hl
  refine lv_iload_n hx hb dX5_requireAnswer_0 rfl (lv_at hl 1 rfl) ?_
  refine lv_if_lt (tgt := 10) hx hb dX5_requireAnswer_1 (by decide) (fun b1 => ?_) (fun b1 => ?_)
  · skip
    exact absurd b1 h1
  · skip
    refine lv_iload_n hx hb dX5_requireAnswer_4 rfl (lv_at hl 1 rfl) ?_
    refine lv_bipush (v := 9) hx hb dX5_requireAnswer_5 (by decide) ?_
    refine lv_icmp_le (tgt := 21) hx hb dX5_requireAnswer_7 (by decide) (fun b7 => ?_) (fun b7 => ?_)
    · skip
      exact eRv S hr hlk dX5_requireAnswer_21
    · skip
      exact absurd (Int32.not_lt.mp h2) b7

set_option maxHeartbeats 4000000 in
set_option maxRecDepth 100000 in
theorem cc_rV (l : Launch) (dg : va_G) (cA : Nat → ClassId) (ad : Nat → Nat) (nh ni : Nat) (c : St) (h : Nat) (hh : h < nh) (v : Nat) (hv : v < 4) (hrr0 : c 27 h = nI v) (ht : c 28 h = 0) (hf : c 9 v < 2) : MetR l dg cA yX5_requireOpenVisit cX5_requireOpenVisit 2 none ({ frames := 1, cells := 0, slots := 0, locals := 21 } : Room) (cw cA ad nh ni c) [.ref (ad 0), .ref (ad (30 + h))] none := by
  refine ofR (by decide) (Nat.le_of_ble_eq_true rfl) (own := RX5) rfl (fun p e s0 m args below meth ccd ls S hr hlk hargs hK hP hl => ?_)
  have hx := S.1
  have hb := S.2.1
  have hl : lv_has ls 2 [(0, .ref (ad 0)), (1, .ref (ad (30 + h)))] := hl
  have hr0 : c 27 h = nI v := hrr0
  refine lv_aload_n hx hb dX5_requireOpenVisit_0 rfl (lv_at hl 1 rfl) ?_
  refine gf S hK hP (22 + h) (cl_h (by omega)) fX5_155 (v := .int (nI v)) (ch_7 hr0) dX5_requireOpenVisit_1 ?_
  refine lv_iconst (v := (-1)) hx hb dX5_requireOpenVisit_4 (by decide) ?_
  refine lv_icmp_ne (tgt := 19) hx hb dX5_requireOpenVisit_5 (by decide) (fun b5 => ?_) (fun b5 => ?_)
  · skip
    refine lv_aload_n hx hb dX5_requireOpenVisit_19 rfl (lv_at hl 1 rfl) ?_
    refine gf S hK hP (22 + h) (cl_h (by omega)) fX5_162 (v := .int 0) (ch_8 ht) dX5_requireOpenVisit_20 ?_
    refine lv_if_eq (tgt := 37) hx hb dX5_requireOpenVisit_23 (by decide) (fun b23 => ?_) (fun b23 => ?_)
    · skip
      refine lv_aload_n hx hb dX5_requireOpenVisit_37 rfl (lv_at hl 0 rfl) ?_
      refine gf S hK hP 0 cl_0 fX5_31 (v := .ref (ad 8)) cfb_3 dX5_requireOpenVisit_38 ?_
      refine lv_aload_n hx hb dX5_requireOpenVisit_41 rfl (lv_at hl 1 rfl) ?_
      refine gf S hK hP (22 + h) (cl_h (by omega)) fX5_155 (v := .int (nI v)) (ch_7 hr0) dX5_requireOpenVisit_42 ?_
      refine cR S (cc_barred0_k l dg cA ad nh ni c v hv (c 9 v) rfl hf) kX5_284 ⟨rfl, rfl, Nat.le_of_ble_eq_true rfl, Nat.le_of_ble_eq_true rfl⟩ hK hP 8 cl_8 (q := (RX4, TX4, 5)) rfl rfl (As := [.int (nI v)]) rfl hl.1 (rest := []) rfl (Nat.le_of_ble_eq_true rfl) dX5_requireOpenVisit_45 ⟨Nat.le_of_ble_eq_true rfl, Nat.le_of_ble_eq_true rfl⟩ (st1 := [.int 0]) rfl ?_
      refine lv_if_eq (tgt := 62) hx hb dX5_requireOpenVisit_48 (by decide) (fun b48 => ?_) (fun b48 => ?_)
      · skip
        exact eRv S hr hlk dX5_requireOpenVisit_62
      · skip
        exact absurd b23 b48
    · skip
      exact False.elim (by revert b23; decide)
  · skip
    exact absurd b5 (nI_m1 (by omega))

set_option maxHeartbeats 4000000 in
set_option maxRecDepth 100000 in
theorem cc_hN (l : Launch) (dg : va_G) (cA : Nat → ClassId) (ad : Nat → Nat) (nh ni : Nat) (c : St) (hn : c 0 4 = nI nh) (hn24 : nh ≤ 24) (h : Nat) (hh : h < nh) : MetR l dg cA yX5_houseNumbered cX5_houseNumbered 2 (some (.object "Fieldbook$House")) ({ frames := 0, cells := 0, slots := 0, locals := 0 } : Room) (cw cA ad nh ni c) [.ref (ad 0), .int (nI h)] (some (.ref (ad (30 + h)))) := by
  refine ofR (by decide) (Nat.le_of_ble_eq_true rfl) (own := RX5) rfl (fun p e s0 m args below meth ccd ls S hr hlk hargs hK hP hl => ?_)
  have hx := S.1
  have hb := S.2.1
  have hl : lv_has ls 2 [(0, .ref (ad 0)), (1, .int (nI h))] := hl
  refine lv_iload_n hx hb dX5_houseNumbered_0 rfl (lv_at hl 1 rfl) ?_
  refine lv_if_lt (tgt := 15) hx hb dX5_houseNumbered_1 (by decide) (fun b1 => ?_) (fun b1 => ?_)
  · skip
    have g1 : h < 0 := (nI_ltI (a := h) (b := 0) (by omega) (by omega)).mp b1
    exact absurd g1 (by omega)
  · skip
    have g1 : ¬ h < 0 := fun zz => b1 ((nI_ltI (a := h) (b := 0) (by omega) (by omega)).mpr zz)
    refine lv_iload_n hx hb dX5_houseNumbered_4 rfl (lv_at hl 1 rfl) ?_
    refine lv_aload_n hx hb dX5_houseNumbered_5 rfl (lv_at hl 0 rfl) ?_
    refine gf S hK hP 0 cl_0 fX5_10 (v := .ref (ad 1)) cfb_0 dX5_houseNumbered_6 ?_
    refine gf S hK hP 1 cl_1 fX5_81 (v := .int (nI nh)) (cfr_5 hn) dX5_houseNumbered_9 ?_
    refine lv_icmp_lt (tgt := 26) hx hb dX5_houseNumbered_12 (by decide) (fun b12 => ?_) (fun b12 => ?_)
    · skip
      have g12 : h < nh := (nI_ltI (a := h) (b := nh) (by omega) (by omega)).mp b12
      refine lv_aload_n hx hb dX5_houseNumbered_26 rfl (lv_at hl 0 rfl) ?_
      refine gf S hK hP 0 cl_0 fX5_18 (v := .ref (ad 6)) cfb_1 dX5_houseNumbered_27 ?_
      refine lv_iload_n hx hb dX5_houseNumbered_30 rfl (lv_at hl 1 rfl) ?_
      refine qld S hK hP 6 2 cl_6 (C := RX2) rfl (j := h) (b := ad (30 + h)) (by omega) (Nat.le_of_ble_eq_true rfl) (chs_at (by omega)) dX5_houseNumbered_31 ?_
      exact eRa S hr hlk dX5_houseNumbered_32
    · skip
      have g12 : ¬ h < nh := fun zz => b12 ((nI_ltI (a := h) (b := nh) (by omega) (by omega)).mpr zz)
      exact absurd hh g12

set_option maxHeartbeats 4000000 in
set_option maxRecDepth 100000 in
theorem cc_iN (l : Launch) (dg : va_G) (cA : Nat → ClassId) (ad : Nat → Nat) (nh ni : Nat) (c : St) (hni : c 0 0 = nI ni) (hni4 : ni ≤ 4) (i : Nat) (hi : i < ni) : MetR l dg cA yX5_interviewerNumbered cX5_interviewerNumbered 2 (some (.object "Fieldbook$Interviewer")) ({ frames := 1, cells := 0, slots := 0, locals := 21 } : Room) (cw cA ad nh ni c) [.ref (ad 0), .int (nI i)] (some (.ref (ad (60 + i)))) := by
  refine ofR (by decide) (Nat.le_of_ble_eq_true rfl) (own := RX5) rfl (fun p e s0 m args below meth ccd ls S hr hlk hargs hK hP hl => ?_)
  have hx := S.1
  have hb := S.2.1
  have hl : lv_has ls 2 [(0, .ref (ad 0)), (1, .int (nI i))] := hl
  refine lv_aload_n hx hb dX5_interviewerNumbered_0 rfl (lv_at hl 0 rfl) ?_
  refine lv_iload_n hx hb dX5_interviewerNumbered_1 rfl (lv_at hl 1 rfl) ?_
  refine cR S (cc_rI l dg cA ad nh ni c hni hni4 i hi) kX5_217 ⟨rfl, rfl, Nat.le_of_ble_eq_true rfl, Nat.le_of_ble_eq_true rfl⟩ hK hP 0 cl_0 (q := (RX5, TX5, 9)) rfl rfl (As := [.int (nI i)]) rfl hl.1 (rest := []) rfl (Nat.le_of_ble_eq_true rfl) dX5_interviewerNumbered_2 ⟨Nat.le_of_ble_eq_true rfl, Nat.le_of_ble_eq_true rfl⟩ (st1 := []) rfl ?_
  refine lv_aload_n hx hb dX5_interviewerNumbered_5 rfl (lv_at hl 0 rfl) ?_
  refine gf S hK hP 0 cl_0 fX5_24 (v := .ref (ad 7)) cfb_2 dX5_interviewerNumbered_6 ?_
  refine lv_iload_n hx hb dX5_interviewerNumbered_9 rfl (lv_at hl 1 rfl) ?_
  refine qld S hK hP 7 3 cl_7 (C := RX3) rfl (j := i) (b := ad (60 + i)) (by omega) (Nat.le_of_ble_eq_true rfl) (cis_at (by omega)) dX5_interviewerNumbered_10 ?_
  exact eRa S hr hlk dX5_interviewerNumbered_11

set_option maxHeartbeats 4000000 in
set_option maxRecDepth 100000 in
theorem cc_rW (l : Launch) (dg : va_G) (cA : Nat → ClassId) (ad : Nat → Nat) (nh ni : Nat) (c : St) (hn : c 0 4 = nI nh) (hn24 : nh ≤ 24) (h : Nat) (hh : h < nh) (hs : c 21 h = 97) : MetR l dg cA yX5_requireAnswered cX5_requireAnswered 2 none ({ frames := 1, cells := 0, slots := 0, locals := 21 } : Room) (cw cA ad nh ni c) [.ref (ad 0), .int (nI h)] none := by
  refine ofR (by decide) (Nat.le_of_ble_eq_true rfl) (own := RX5) rfl (fun p e s0 m args below meth ccd ls S hr hlk hargs hK hP hl => ?_)
  have hx := S.1
  have hb := S.2.1
  have hl : lv_has ls 2 [(0, .ref (ad 0)), (1, .int (nI h))] := hl
  refine lv_aload_n hx hb dX5_requireAnswered_0 rfl (lv_at hl 0 rfl) ?_
  refine lv_iload_n hx hb dX5_requireAnswered_1 rfl (lv_at hl 1 rfl) ?_
  refine cR S (cc_hN l dg cA ad nh ni c hn hn24 h hh) kX5_140 ⟨rfl, rfl, Nat.le_of_ble_eq_true rfl, Nat.le_of_ble_eq_true rfl⟩ hK hP 0 cl_0 (q := (RX5, TX5, 9)) rfl rfl (As := [.int (nI h)]) rfl hl.1 (rest := []) rfl (Nat.le_of_ble_eq_true rfl) dX5_requireAnswered_2 ⟨Nat.le_of_ble_eq_true rfl, Nat.le_of_ble_eq_true rfl⟩ (st1 := [.ref (ad (30 + h))]) rfl ?_
  refine gf S hK hP (22 + h) (cl_h (by omega)) fX5_182 (v := .int 97) (ch_1 hs) dX5_requireAnswered_5 ?_
  refine lv_bipush (v := 97) hx hb dX5_requireAnswered_8 (by decide) ?_
  refine lv_icmp_eq (tgt := 24) hx hb dX5_requireAnswered_10 (by decide) (fun b10 => ?_) (fun b10 => ?_)
  · skip
    exact eRv S hr hlk dX5_requireAnswered_24
  · skip
    exact False.elim (by revert b10; decide)

set_option maxHeartbeats 4000000 in
set_option maxRecDepth 100000 in
theorem cc_isU (l : Launch) (dg : va_G) (cA : Nat → ClassId) (ad : Nat → Nat) (nh ni : Nat) (c : St) (s : Int32) (j : Nat) (hj : j < nh) (hn24 : nh ≤ 24) : MetR l dg cA yX5_isUndrawnIn cX5_isUndrawnIn 3 (some .boolean) ({ frames := 0, cells := 0, slots := 0, locals := 0 } : Room) (cw cA ad nh ni c) [.ref (ad 0), .int (nI j), .int s] (some (.int (b2 (isU (c 1) (c 21) s j)))) := by
  refine ofR (by decide) (Nat.le_of_ble_eq_true rfl) (own := RX5) rfl (fun p e s0 m args below meth ccd ls S hr hlk hargs hK hP hl => ?_)
  have hx := S.1
  have hb := S.2.1
  have hl : lv_has ls 3 [(0, .ref (ad 0)), (1, .int (nI j)), (2, .int s)] := hl
  refine lv_aload_n hx hb dX5_isUndrawnIn_0 rfl (lv_at hl 0 rfl) ?_
  refine gf S hK hP 0 cl_0 fX5_10 (v := .ref (ad 1)) cfb_0 dX5_isUndrawnIn_1 ?_
  refine gf S hK hP 1 cl_1 fX5_87 (v := .ref (ad 2)) cfr_0 dX5_isUndrawnIn_4 ?_
  refine lv_iload_n hx hb dX5_isUndrawnIn_7 rfl (lv_at hl 1 rfl) ?_
  refine ild S hK hP 2 cl_2 (j := j) (by omega) (Nat.le_of_ble_eq_true rfl) dX5_isUndrawnIn_8 ?_
  refine lv_as (y := c 1 j) rfl ?_
  refine lv_iload_n hx hb dX5_isUndrawnIn_9 rfl (lv_at hl 2 rfl) ?_
  refine lv_icmp_ne (tgt := 31) hx hb dX5_isUndrawnIn_10 (by decide) (fun b10 => ?_) (fun b10 => ?_)
  · skip
    refine lv_iconst (v := 0) hx hb dX5_isUndrawnIn_31 (by decide) ?_
    exact eRz S hr hlk dX5_isUndrawnIn_32 (by simp [b2, isU, b10]) (b2_nr _)
  · skip
    refine lv_aload_n hx hb dX5_isUndrawnIn_13 rfl (lv_at hl 0 rfl) ?_
    refine gf S hK hP 0 cl_0 fX5_18 (v := .ref (ad 6)) cfb_1 dX5_isUndrawnIn_14 ?_
    refine lv_iload_n hx hb dX5_isUndrawnIn_17 rfl (lv_at hl 1 rfl) ?_
    refine qld S hK hP 6 2 cl_6 (C := RX2) rfl (j := j) (b := ad (30 + j)) (by omega) (Nat.le_of_ble_eq_true rfl) (chs_at (by omega)) dX5_isUndrawnIn_18 ?_
    refine gf S hK hP (22 + j) (cl_h (by omega)) fX5_182 (v := .int (c 21 j)) (ch_1 rfl) dX5_isUndrawnIn_19 ?_
    refine lv_bipush (v := 117) hx hb dX5_isUndrawnIn_22 (by decide) ?_
    refine lv_icmp_ne (tgt := 31) hx hb dX5_isUndrawnIn_24 (by decide) (fun b24 => ?_) (fun b24 => ?_)
    · skip
      refine lv_iconst (v := 0) hx hb dX5_isUndrawnIn_31 (by decide) ?_
      exact eRz S hr hlk dX5_isUndrawnIn_32 (by simp [b2, isU, b10, b24]) (b2_nr _)
    · skip
      refine lv_iconst (v := 1) hx hb dX5_isUndrawnIn_27 (by decide) ?_
      refine lv_goto (tgt := 32) hx hb dX5_isUndrawnIn_28 (by decide) ?_
      exact eRz S hr hlk dX5_isUndrawnIn_32 (by simp [b2, isU, b10, b24]) (b2_nr _)

set_option maxHeartbeats 4000000 in
set_option maxRecDepth 100000 in
theorem cc_und (l : Launch) (dg : va_G) (cA : Nat → ClassId) (ad : Nat → Nat) (nh ni : Nat) (c : St) (hn : c 0 4 = nI nh) (hn24 : nh ≤ 24) (s : Int32) : MetR l dg cA yX5_undrawnIn cX5_undrawnIn 4 (some .int) ({ frames := 1, cells := 0, slots := 0, locals := 22 } : Room) (cw cA ad nh ni c) [.ref (ad 0), .int s] (some (.int (nI (c_und c nh s)))) := by
  refine ofR (by decide) (Nat.le_of_ble_eq_true rfl) (own := RX5) rfl (fun p e s0 m args below meth ccd ls S hr hlk hargs hK hP hl => ?_)
  have hx := S.1
  have hb := S.2.1
  have hl : lv_has ls 4 [(0, .ref (ad 0)), (1, .int s)] := hl
  refine lv_iconst (v := 0) hx hb dX5_undrawnIn_0 (by decide) ?_
  refine lv_istore_n (lv' := [(2, .int 0), (0, .ref (ad 0)), (1, .int s)]) hx hb dX5_undrawnIn_1 rfl hl (by decide) rfl (fun ls hl => ?_)
  refine lv_iconst (v := 0) hx hb dX5_undrawnIn_2 (by decide) ?_
  refine lv_istore_n (lv' := [(3, .int 0), (2, .int 0), (0, .ref (ad 0)), (1, .int s)]) hx hb dX5_undrawnIn_3 rfl hl (by decide) rfl (fun ls hl => ?_)
  have hL4 : ∀ (f : Nat) (j : Nat), nh - j < f → (j ≤ nh) → ∀ ls, lv_has ls 4 [(0, .ref (ad 0)), (1, .int s), (2, .int (nI (ct (isU (c 1) (c 21) s) j))), (3, .int (nI j))] → W p l e ({ frames := 1, cells := 0, slots := 0, locals := 22 } : Room) s0 m args below meth ccd s0.heap [] 0 0 (MQ below (QcR (some (.int (nI (c_und c nh s))))) args s0 0 0 (fun _ => False)) (F0 m 4 ls []) := by
    intro f
    induction f with
    | zero => intro j hm; exact absurd hm (Nat.not_lt_zero _)
    | succ f ih4 =>
      intro j hm4 hj ls hl
      refine lv_iload_n hx hb dX5_undrawnIn_4 rfl (lv_at hl 3 rfl) ?_
      refine lv_aload_n hx hb dX5_undrawnIn_5 rfl (lv_at hl 0 rfl) ?_
      refine gf S hK hP 0 cl_0 fX5_10 (v := .ref (ad 1)) cfb_0 dX5_undrawnIn_6 ?_
      refine gf S hK hP 1 cl_1 fX5_81 (v := .int (nI nh)) (cfr_5 hn) dX5_undrawnIn_9 ?_
      refine lv_icmp_ge (tgt := 33) hx hb dX5_undrawnIn_12 (by decide) (fun b12 => ?_) (fun b12 => ?_)
      · skip
        have g12 : nh ≤ j := (nI_leI (a := nh) (b := j) (by omega) (by omega)).mp b12
        refine lv_iload_n hx hb dX5_undrawnIn_33 rfl (lv_at hl 2 rfl) ?_
        exact eRi S hr hlk dX5_undrawnIn_34 (by rw [show j = nh by omega]; rfl)
      · skip
        have g12 : ¬ nh ≤ j := fun zz => b12 ((nI_leI (a := nh) (b := j) (by omega) (by omega)).mpr zz)
        refine lv_aload_n hx hb dX5_undrawnIn_15 rfl (lv_at hl 0 rfl) ?_
        refine lv_iload_n hx hb dX5_undrawnIn_16 rfl (lv_at hl 3 rfl) ?_
        refine lv_iload_n hx hb dX5_undrawnIn_17 rfl (lv_at hl 1 rfl) ?_
        refine cR S (cc_isU l dg cA ad nh ni c s j (by omega) hn24) kX5_294 ⟨rfl, rfl, Nat.le_of_ble_eq_true rfl, Nat.le_of_ble_eq_true rfl⟩ hK hP 0 cl_0 (q := (RX5, TX5, 9)) rfl rfl (As := [.int (nI j), .int s]) rfl hl.1 (rest := []) rfl (Nat.le_of_ble_eq_true rfl) dX5_undrawnIn_18 ⟨Nat.le_of_ble_eq_true rfl, Nat.le_of_ble_eq_true rfl⟩ (st1 := [.int (b2 (isU (c 1) (c 21) s j))]) rfl ?_
        refine lv_if_eq (tgt := 27) hx hb dX5_undrawnIn_21 (by decide) (fun b21 => ?_) (fun b21 => ?_)
        · skip
          have c21 := b2_0 b21
          refine lv_iinc (v := nI (j + 1)) (lv' := [(3, .int (nI (j + 1))), (0, .ref (ad 0)), (1, .int s), (2, .int (nI (ct (isU (c 1) (c 21) s) j)))]) hx hb dX5_undrawnIn_27 hl (k := 3) rfl (nI_1 j) (by decide) rfl (fun ls hl => ?_)
          refine lv_goto (tgt := 4) hx hb dX5_undrawnIn_30 (by decide) ?_
          exact ih4 (j + 1) (by omega) (by omega) ls (lv_cast (lv_sub (l' := [(0, .ref (ad 0)), (1, .int s), (2, .int (nI (ct (isU (c 1) (c 21) s) j))), (3, .int (nI (j + 1)))]) hl [1, 2, 3, 0] rfl) (by rw [ct_f c21]))
        · skip
          have c21 := b2_1 b21
          refine lv_iinc (v := nI (ct (isU (c 1) (c 21) s) j + 1)) (lv' := [(2, .int (nI (ct (isU (c 1) (c 21) s) j + 1))), (0, .ref (ad 0)), (1, .int s), (3, .int (nI j))]) hx hb dX5_undrawnIn_24 hl (k := 2) rfl (nI_1 (ct (isU (c 1) (c 21) s) j)) (by decide) rfl (fun ls hl => ?_)
          refine lv_iinc (v := nI (j + 1)) (lv' := [(3, .int (nI (j + 1))), (2, .int (nI (ct (isU (c 1) (c 21) s) j + 1))), (0, .ref (ad 0)), (1, .int s)]) hx hb dX5_undrawnIn_27 hl (k := 3) rfl (nI_1 j) (by decide) rfl (fun ls hl => ?_)
          refine lv_goto (tgt := 4) hx hb dX5_undrawnIn_30 (by decide) ?_
          exact ih4 (j + 1) (by omega) (by omega) ls (lv_cast (lv_sub (l' := [(0, .ref (ad 0)), (1, .int s), (2, .int (nI (ct (isU (c 1) (c 21) s) j + 1))), (3, .int (nI (j + 1)))]) hl [2, 3, 1, 0] rfl) (by rw [ct_t c21]))
  exact hL4 _ 0 (Nat.lt_succ_self _) (Nat.zero_le _) ls (lv_cast (lv_sub (l' := [(0, .ref (ad 0)), (1, .int s), (2, .int 0), (3, .int 0)]) hl [2, 3, 1, 0] rfl) (by rfl))

set_option maxHeartbeats 4000000 in
set_option maxRecDepth 100000 in
theorem cc_draw0 (l : Launch) (dg : va_G) (cA : Nat → ClassId) (ad : Nat → Nat) (nh ni : Nat) (c : St) (hn : c 0 4 = nI nh) (hn24 : nh ≤ 24) (s : Int32) (hu : c_und c nh s = 0) (sz : Nat) : MetM l dg cA yX5_drawOne cX5_drawOne 5 (some .int) ({ frames := 2, cells := 0, slots := 0, locals := 45 } : Room) 0 0 (cw cA ad nh ni c) sz [.ref (ad 0), .int s] (cw cA ad nh ni c) (some (.int (-1))) := by
  refine ofM (by decide) (Nat.le_of_ble_eq_true rfl) (own := RX5) rfl (fun p e s0 m args below meth ccd ls A hAe S hr hlk hname hargs hK hP hD hS hA hsz hl => ?_)
  have hx := S.1
  have hb := S.2.1
  have hl : lv_has ls 5 [(0, .ref (ad 0)), (1, .int s)] := hl
  refine lv_aload_n hx hb dX5_drawOne_0 rfl (lv_at hl 0 rfl) ?_
  refine lv_iload_n hx hb dX5_drawOne_1 rfl (lv_at hl 1 rfl) ?_
  refine cR S (cc_und l dg cA ad nh ni c hn hn24 s) kX5_105 ⟨rfl, rfl, Nat.le_of_ble_eq_true rfl, Nat.le_of_ble_eq_true rfl⟩ hK hP 0 cl_0 (q := (RX5, TX5, 9)) rfl rfl (As := [.int s]) rfl hl.1 (rest := []) rfl (Nat.le_of_ble_eq_true rfl) dX5_drawOne_2 ⟨Nat.le_of_ble_eq_true rfl, Nat.le_of_ble_eq_true rfl⟩ (st1 := [.int (nI (c_und c nh s))]) rfl ?_
  refine lv_istore_n (lv' := [(2, .int (nI (c_und c nh s))), (0, .ref (ad 0)), (1, .int s)]) hx hb dX5_drawOne_5 rfl hl (by decide) rfl (fun ls hl => ?_)
  refine lv_iload_n hx hb dX5_drawOne_6 rfl (lv_at hl 0 rfl) ?_
  refine lv_if_ne (tgt := 12) hx hb dX5_drawOne_7 (by decide) (fun b7 => ?_) (fun b7 => ?_)
  · skip
    exact absurd (by rw [hu]; rfl) b7
  · skip
    refine lv_iconst (v := (-1)) hx hb dX5_drawOne_10 (by decide) ?_
    exact eMi S hr hlk hP hD hS dX5_drawOne_11 rfl rfl

set_option maxHeartbeats 4000000 in
set_option maxRecDepth 100000 in
theorem cc_draw1 (l : Launch) (dg : va_G) (cA : Nat → ClassId) (ad : Nat → Nat) (nh ni : Nat) (c : St) (hn : c 0 4 = nI nh) (hn24 : nh ≤ 24) (s : Int32) (hc : ∃ k, k < 65536 ∧ c 0 1 = nI k) (hu : 0 < c_und c nh s) (sz : Nat) : MetM l dg cA yX5_drawOne cX5_drawOne 5 (some .int) ({ frames := 2, cells := 0, slots := 0, locals := 45 } : Room) 0 0 (cw cA ad nh ni c) sz [.ref (ad 0), .int s] (cw cA ad nh ni (c_d1 c nh s)) (some (.int (nI (c_h c nh s)))) := by
  refine ofM (by decide) (Nat.le_of_ble_eq_true rfl) (own := RX5) rfl (fun p e s0 m args below meth ccd ls A hAe S hr hlk hname hargs hK hP hD hS hA hsz hl => ?_)
  have hx := S.1
  have hb := S.2.1
  have hl : lv_has ls 5 [(0, .ref (ad 0)), (1, .int s)] := hl
  have hu2 := ct_le (isU (c 1) (c 21) s) nh
  obtain ⟨hq1, hq2⟩ := m_q_ok (u := c_und c nh s) hc hu (by unfold c_und; omega)
  obtain ⟨hhl, hhp, hhq⟩ := sel_ok (isU (c 1) (c 21) s) (m_q (c 0 1) (c_und c nh s)) nh hq1
  obtain ⟨h, hhe⟩ : ∃ z, z = c_h c nh s := ⟨_, rfl⟩
  obtain ⟨q, hqe⟩ : ∃ z, z = m_q (c 0 1) (c_und c nh s) := ⟨_, rfl⟩
  change c_h c nh s < nh at hhl
  change isU (c 1) (c 21) s (c_h c nh s) = true at hhp
  change ct (isU (c 1) (c 21) s) (c_h c nh s) = _ at hhq
  rw [← hhe] at hhl hhp hhq
  rw [← hqe] at hq1 hq2 hhq
  have hq3 : q < ct (isU (c 1) (c 21) s) nh := hq1
  have hu3 : c_und c nh s ≤ nh := hu2
  have hhe : Hid (h = c_h c nh s) := hhe
  clear hqe hq1
  refine lv_aload_n hx hb dX5_drawOne_0 rfl (lv_at hl 0 rfl) ?_
  refine lv_iload_n hx hb dX5_drawOne_1 rfl (lv_at hl 1 rfl) ?_
  refine cR S (cc_und l dg cA ad nh ni c hn hn24 s) kX5_105 ⟨rfl, rfl, Nat.le_of_ble_eq_true rfl, Nat.le_of_ble_eq_true rfl⟩ hK hP 0 cl_0 (q := (RX5, TX5, 9)) rfl rfl (As := [.int s]) rfl hl.1 (rest := []) rfl (Nat.le_of_ble_eq_true rfl) dX5_drawOne_2 ⟨Nat.le_of_ble_eq_true rfl, Nat.le_of_ble_eq_true rfl⟩ (st1 := [.int (nI (c_und c nh s))]) rfl ?_
  refine lv_istore_n (lv' := [(2, .int (nI (c_und c nh s))), (0, .ref (ad 0)), (1, .int s)]) hx hb dX5_drawOne_5 rfl hl (by decide) rfl (fun ls hl => ?_)
  refine lv_iload_n hx hb dX5_drawOne_6 rfl (lv_at hl 0 rfl) ?_
  refine lv_if_ne (tgt := 12) hx hb dX5_drawOne_7 (by decide) (fun b7 => ?_) (fun b7 => ?_)
  · skip
    have g7 : ¬ c_und c nh s = 0 := fun zz => b7 ((nI_eq (a := c_und c nh s) (b := 0) (by omega) (by omega)).mpr zz)
    refine lv_aload_n hx hb dX5_drawOne_12 rfl (lv_at hl 1 rfl) ?_
    refine lv_aload_n hx hb dX5_drawOne_13 rfl (lv_at hl 1 rfl) ?_
    refine gf S hK hP 0 cl_0 fX5_49 (v := .int (c 0 1)) (cfb_7 rfl) dX5_drawOne_14 ?_
    refine lv_sipush (v := 1103) hx hb dX5_drawOne_17 (by decide) ?_
    refine lv_imul hx hb dX5_drawOne_20 ?_
    refine lv_sipush (v := 12345) hx hb dX5_drawOne_21 (by decide) ?_
    refine lv_iadd hx hb dX5_drawOne_24 ?_
    refine lv_ldc (v := 65536) hx hb S.2.2.2.1 (S.2.2.2.2 _ (gW_mem 266 (by decide +kernel) (by decide +kernel))) dX5_drawOne_25 ?_
    refine lv_irem hx hb dX5_drawOne_27 (by decide) ?_
    refine lv_as (y := m_ch (c 0 1)) rfl ?_
    refine pf S hK hP hD hS 0 cl_0 fX5_49 fpX5 rfl (v := .int (m_ch (c 0 1))) rfl rfl (Nat.le_of_ble_eq_true rfl) cs_cfb_7 dX5_drawOne_28 (fun H locs hP hD hS => ?_)
    refine lv_aload_n hx hb dX5_drawOne_31 rfl (lv_at hl 1 rfl) ?_
    refine gf S hK hP 0 cl_0 fX5_49 (v := .int (m_ch (c 0 1))) (cfb_7 up_at) dX5_drawOne_32 ?_
    refine lv_iload_n hx hb dX5_drawOne_35 rfl (lv_at hl 0 rfl) ?_
    refine lv_irem hx hb dX5_drawOne_36 (nI_ne0 hu (by omega)) ?_
    refine lv_as (y := nI q) hq2 ?_
    refine lv_istore_n (lv' := [(3, .int (nI q)), (2, .int (nI (c_und c nh s))), (0, .ref (ad 0)), (1, .int s)]) hx hb dX5_drawOne_37 rfl hl (by decide) rfl (fun ls hl => ?_)
    refine lv_iconst (v := 0) hx hb dX5_drawOne_38 (by decide) ?_
    refine lv_istore (lv' := [(4, .int 0), (3, .int (nI q)), (2, .int (nI (c_und c nh s))), (0, .ref (ad 0)), (1, .int s)]) hx hb dX5_drawOne_39 hl (by decide) rfl (fun ls hl => ?_)
    have hL41 : ∀ (f : Nat) (j : Nat), h - j < f → (j ≤ h) → (ct (isU (c 1) (c 21) s) j ≤ q) → ∀ ls, lv_has ls 5 [(0, .ref (ad 0)), (1, .int s), (2, .int (nI (c_und c nh s))), (3, .int (nI (q - ct (isU (c 1) (c 21) s) j))), (4, .int (nI j))] → ∀ (H : Heap) (locs : List Loc), PP dg (cw cA ad nh ni (up c 0 1 (m_ch (c 0 1)))) H → va_D A (cw cA ad nh ni (up c 0 1 (m_ch (c 0 1)))) → va_S A s0.heap H locs → W p l e ({ frames := 2, cells := 0, slots := 0, locals := 45 } : Room) s0 m args below meth ccd H locs 0 0 (MQ below (QcM dg (cw cA ad nh ni (c_d1 c nh s)) (some (.int (nI (c_h c nh s)))) A) args s0 0 0 A) (F0 m 41 ls []) := by
      intro f
      induction f with
      | zero => intro j hm; exact absurd hm (Nat.not_lt_zero _)
      | succ f ih41 =>
        intro j hm41 hj hjq ls hl H locs hP hD hS
        refine lv_iload hx hb dX5_drawOne_41 (lv_at hl 4 rfl) ?_
        refine lv_aload_n hx hb dX5_drawOne_43 rfl (lv_at hl 0 rfl) ?_
        refine gf S hK hP 0 cl_0 fX5_10 (v := .ref (ad 1)) cfb_0 dX5_drawOne_44 ?_
        refine gf S hK hP 1 cl_1 fX5_81 (v := .int (nI nh)) (cfr_5 hn) dX5_drawOne_47 ?_
        refine lv_icmp_ge (tgt := 95) hx hb dX5_drawOne_50 (by decide) (fun b50 => ?_) (fun b50 => ?_)
        · skip
          have g50 : nh ≤ j := (nI_leI (a := nh) (b := j) (by omega) (by omega)).mp b50
          exact absurd g50 (by omega)
        · skip
          have g50 : ¬ nh ≤ j := fun zz => b50 ((nI_leI (a := nh) (b := j) (by omega) (by omega)).mpr zz)
          refine lv_aload_n hx hb dX5_drawOne_53 rfl (lv_at hl 0 rfl) ?_
          refine lv_iload hx hb dX5_drawOne_54 (lv_at hl 4 rfl) ?_
          refine lv_iload_n hx hb dX5_drawOne_56 rfl (lv_at hl 1 rfl) ?_
          refine cR S (cc_isU l dg cA ad nh ni (up c 0 1 (m_ch (c 0 1))) s j (by omega) hn24) kX5_294 ⟨rfl, rfl, Nat.le_of_ble_eq_true rfl, Nat.le_of_ble_eq_true rfl⟩ hK hP 0 cl_0 (q := (RX5, TX5, 9)) rfl rfl (As := [.int (nI j), .int s]) rfl hl.1 (rest := []) rfl (Nat.le_of_ble_eq_true rfl) dX5_drawOne_57 ⟨Nat.le_of_ble_eq_true rfl, Nat.le_of_ble_eq_true rfl⟩ (st1 := [.int (b2 (isU (c 1) (c 21) s j))]) rfl ?_
          refine lv_if_eq (tgt := 89) hx hb dX5_drawOne_60 (by decide) (fun b60 => ?_) (fun b60 => ?_)
          · skip
            have c60 := b2_0 b60
            refine lv_iinc (v := nI (j + 1)) (lv' := [(4, .int (nI (j + 1))), (0, .ref (ad 0)), (1, .int s), (2, .int (nI (c_und c nh s))), (3, .int (nI (q - ct (isU (c 1) (c 21) s) j)))]) hx hb dX5_drawOne_89 hl (k := 4) rfl (nI_1 j) (by decide) rfl (fun ls hl => ?_)
            refine lv_goto (tgt := 41) hx hb dX5_drawOne_92 (by decide) ?_
            have j9 : j < h := by
              rcases Nat.lt_or_ge j h with z | z
              · exact z
              · have z2 : j = h := by omega
                rw [z2, hhp] at c60
                cases c60
            exact ih41 (j + 1) (by omega) (by omega) (by rw [ct_f c60]; exact hjq) ls (lv_cast (lv_sub (l' := [(0, .ref (ad 0)), (1, .int s), (2, .int (nI (c_und c nh s))), (3, .int (nI (q - ct (isU (c 1) (c 21) s) j))), (4, .int (nI (j + 1)))]) hl [1, 2, 3, 4, 0] rfl) (by rw [ct_f c60])) _ _ hP hD hS
          · skip
            have c60 := b2_1 b60
            refine lv_iload_n hx hb dX5_drawOne_63 rfl (lv_at hl 3 rfl) ?_
            refine lv_if_ne (tgt := 86) hx hb dX5_drawOne_64 (by decide) (fun b64 => ?_) (fun b64 => ?_)
            · skip
              have g64 : ¬ q - ct (isU (c 1) (c 21) s) j = 0 := fun zz => b64 ((nI_eq (a := q - ct (isU (c 1) (c 21) s) j) (b := 0) (by omega) (by omega)).mpr zz)
              refine lv_iinc (v := (nI (q - ct (isU (c 1) (c 21) s) j)) + (-1)) (lv' := [(3, .int ((nI (q - ct (isU (c 1) (c 21) s) j)) + (-1))), (0, .ref (ad 0)), (1, .int s), (2, .int (nI (c_und c nh s))), (4, .int (nI j))]) hx hb dX5_drawOne_86 hl (k := 3) rfl (by rw [i32_m1]) (by decide) rfl (fun ls hl => ?_)
              refine lv_iinc (v := nI (j + 1)) (lv' := [(4, .int (nI (j + 1))), (3, .int ((nI (q - ct (isU (c 1) (c 21) s) j)) + (-1))), (0, .ref (ad 0)), (1, .int s), (2, .int (nI (c_und c nh s)))]) hx hb dX5_drawOne_89 hl (k := 4) rfl (nI_1 j) (by decide) rfl (fun ls hl => ?_)
              refine lv_goto (tgt := 41) hx hb dX5_drawOne_92 (by decide) ?_
              have j9 : j < h := by
                rcases Nat.lt_or_ge j h with z | z
                · exact z
                · have z2 : j = h := by omega
                  rw [z2] at g64
                  omega
              have c9 := ct_mono (isU (c 1) (c 21) s) (show j + 1 ≤ h from j9)
              exact ih41 (j + 1) (by omega) (by omega) (by rw [ct_t c60] at c9 ⊢; omega) ls (lv_cast (lv_sub (l' := [(0, .ref (ad 0)), (1, .int s), (2, .int (nI (c_und c nh s))), (3, .int ((nI (q - ct (isU (c 1) (c 21) s) j)) + (-1))), (4, .int (nI (j + 1)))]) hl [2, 3, 4, 1, 0] rfl) (by rw [ct_t c60, show q - ct (isU (c 1) (c 21) s) j = (q - (ct (isU (c 1) (c 21) s) j + 1)) + 1 by rw [ct_t c60] at c9; omega, pk_m1])) _ _ hP hD hS
            · skip
              have g64 : q - ct (isU (c 1) (c 21) s) j = 0 := (nI_eq (a := q - ct (isU (c 1) (c 21) s) j) (b := 0) (by omega) (by omega)).mp b64
              have j9 : j = h := ct_one c60 hhp (by omega)
              refine lv_aload_n hx hb dX5_drawOne_67 rfl (lv_at hl 0 rfl) ?_
              refine gf S hK hP 0 cl_0 fX5_18 (v := .ref (ad 6)) cfb_1 dX5_drawOne_68 ?_
              refine lv_iload hx hb dX5_drawOne_71 (lv_at hl 4 rfl) ?_
              refine qld S hK hP 6 2 cl_6 (C := RX2) rfl (j := j) (b := ad (30 + j)) (by omega) (Nat.le_of_ble_eq_true rfl) (chs_at (by omega)) dX5_drawOne_73 ?_
              refine lv_aload_n hx hb dX5_drawOne_74 rfl (lv_at hl 0 rfl) ?_
              refine gf S hK hP 0 cl_0 fX5_52 (v := .int (c 0 2)) (cfb_8 rfl) dX5_drawOne_75 ?_
              refine lv_iconst (v := 1) hx hb dX5_drawOne_78 (by decide) ?_
              refine lv_iadd hx hb dX5_drawOne_79 ?_
              refine cM S (cc_wantFrom l dg cA ad nh ni (up c 0 1 (m_ch (c 0 1))) j (by omega) ((c 0 2) + 1) _) kX5_297 ⟨rfl, rfl, Nat.le_of_ble_eq_true rfl, Nat.le_of_ble_eq_true rfl⟩ hK hP hD hS hA (22 + j) (cl_h (by omega)) (q := (RX2, TX2, 11)) rfl rfl (As := [.int ((c 0 2) + 1)]) rfl hl.1 (rest := []) rfl (Nat.le_of_ble_eq_true rfl) dX5_drawOne_80 ⟨Nat.le_of_ble_eq_true rfl, Nat.le_of_ble_eq_true rfl⟩ (st1 := []) rfl (fun H locs hP hD hS => ?_)
              refine lv_iload hx hb dX5_drawOne_83 (lv_at hl 4 rfl) ?_
              exact eMi S hr hlk hP hD hS dX5_drawOne_85 (by rw [j9, show h = c_h c nh s from hhe]) (by rw [j9, show h = c_h c nh s from hhe]; rfl)
    exact hL41 _ 0 (Nat.lt_succ_self _) (Nat.zero_le _) (Nat.zero_le _) ls (lv_cast (lv_sub (l' := [(0, .ref (ad 0)), (1, .int s), (2, .int (nI (c_und c nh s))), (3, .int (nI q)), (4, .int 0)]) hl [3, 4, 2, 1, 0] rfl) (by rfl)) _ _ hP hD hS
  · skip
    have g7 : c_und c nh s = 0 := (nI_eq (a := c_und c nh s) (b := 0) (by omega) (by omega)).mp b7
    exact absurd g7 (by omega)

set_option maxHeartbeats 4000000 in
set_option maxRecDepth 100000 in
theorem cc_repl (l : Launch) (dg : va_G) (cA : Nat → ClassId) (ad : Nat → Nat) (nh ni : Nat) (c : St) (hn : c 0 4 = nI nh) (hn24 : nh ≤ 24) (hc : ∃ k, k < 65536 ∧ c 0 1 = nI k) (sz : Nat) : MetM l dg cA yX5_replaceLostHouses cX5_replaceLostHouses 3 (some .int) ({ frames := 3, cells := 0, slots := 0, locals := 69 } : Room) 0 0 (cw cA ad nh ni c) sz [.ref (ad 0)] (cw cA ad nh ni (c_rep c nh nh)) (some (.int (nI (c_repc c nh nh)))) := by
  refine ofM (by decide) (Nat.le_of_ble_eq_true rfl) (own := RX5) rfl (fun p e s0 m args below meth ccd ls A hAe S hr hlk hname hargs hK hP hD hS hA hsz hl => ?_)
  have hx := S.1
  have hb := S.2.1
  have hl : lv_has ls 3 [(0, .ref (ad 0))] := hl
  refine lv_iconst (v := 0) hx hb dX5_replaceLostHouses_0 (by decide) ?_
  refine lv_istore_n (lv' := [(1, .int 0), (0, .ref (ad 0))]) hx hb dX5_replaceLostHouses_1 rfl hl (by decide) rfl (fun ls hl => ?_)
  refine lv_iconst (v := 0) hx hb dX5_replaceLostHouses_2 (by decide) ?_
  refine lv_istore_n (lv' := [(2, .int 0), (1, .int 0), (0, .ref (ad 0))]) hx hb dX5_replaceLostHouses_3 rfl hl (by decide) rfl (fun ls hl => ?_)
  have hL4 : ∀ (f : Nat) (j : Nat), nh - j < f → (j ≤ nh) → ∀ ls, lv_has ls 3 [(0, .ref (ad 0)), (1, .int (nI (c_repc c nh j))), (2, .int (nI j))] → ∀ (H : Heap) (locs : List Loc), PP dg (cw cA ad nh ni (c_rep c nh j)) H → va_D A (cw cA ad nh ni (c_rep c nh j)) → va_S A s0.heap H locs → W p l e ({ frames := 3, cells := 0, slots := 0, locals := 69 } : Room) s0 m args below meth ccd H locs 0 0 (MQ below (QcM dg (cw cA ad nh ni (c_rep c nh nh)) (some (.int (nI (c_repc c nh nh)))) A) args s0 0 0 A) (F0 m 4 ls []) := by
    intro f
    induction f with
    | zero => intro j hm; exact absurd hm (Nat.not_lt_zero _)
    | succ f ih4 =>
      intro j hm4 hj ls hl H locs hP hD hS
      have hrn : (c_rep c nh j) 0 4 = nI nh := by rw [c_rep_sc _ _ (by decide)]; exact hn
      have hrc := c_rep_chance (n := nh) hc j
      refine lv_iload_n hx hb dX5_replaceLostHouses_4 rfl (lv_at hl 2 rfl) ?_
      refine lv_aload_n hx hb dX5_replaceLostHouses_5 rfl (lv_at hl 0 rfl) ?_
      refine gf S hK hP 0 cl_0 fX5_10 (v := .ref (ad 1)) cfb_0 dX5_replaceLostHouses_6 ?_
      refine gf S hK hP 1 cl_1 fX5_81 (v := .int (nI nh)) (cfr_5 hrn) dX5_replaceLostHouses_9 ?_
      refine lv_icmp_ge (tgt := 53) hx hb dX5_replaceLostHouses_12 (by decide) (fun b12 => ?_) (fun b12 => ?_)
      · skip
        have g12 : nh ≤ j := (nI_leI (a := nh) (b := j) (by omega) (by omega)).mp b12
        refine lv_iload_n hx hb dX5_replaceLostHouses_53 rfl (lv_at hl 1 rfl) ?_
        exact eMi S hr hlk hP hD hS dX5_replaceLostHouses_54 (by rw [show j = nh by omega]) (by rw [show j = nh by omega])
      · skip
        have g12 : ¬ nh ≤ j := fun zz => b12 ((nI_leI (a := nh) (b := j) (by omega) (by omega)).mpr zz)
        refine lv_aload_n hx hb dX5_replaceLostHouses_15 rfl (lv_at hl 0 rfl) ?_
        refine gf S hK hP 0 cl_0 fX5_18 (v := .ref (ad 6)) cfb_1 dX5_replaceLostHouses_16 ?_
        refine lv_iload_n hx hb dX5_replaceLostHouses_19 rfl (lv_at hl 2 rfl) ?_
        refine qld S hK hP 6 2 cl_6 (C := RX2) rfl (j := j) (b := ad (30 + j)) (by omega) (Nat.le_of_ble_eq_true rfl) (chs_at (by omega)) dX5_replaceLostHouses_20 ?_
        refine gf S hK hP (22 + j) (cl_h (by omega)) fX5_300 (v := .int ((c_rep c nh j) 29 j)) (ch_9 rfl) dX5_replaceLostHouses_21 ?_
        refine lv_if_eq (tgt := 47) hx hb dX5_replaceLostHouses_24 (by decide) (fun b24 => ?_) (fun b24 => ?_)
        · skip
          refine lv_iinc (v := nI (j + 1)) (lv' := [(2, .int (nI (j + 1))), (0, .ref (ad 0)), (1, .int (nI (c_repc c nh j)))]) hx hb dX5_replaceLostHouses_47 hl (k := 2) rfl (nI_1 j) (by decide) rfl (fun ls hl => ?_)
          refine lv_goto (tgt := 4) hx hb dX5_replaceLostHouses_50 (by decide) ?_
          have es : (cw cA ad nh ni (c_rep c nh j)) = (cw cA ad nh ni (c_rep c nh (j + 1))) := by rw [c_rep_p (Or.inl b24)]
          rw [es] at hP hD
          exact ih4 (j + 1) (by omega) (by omega) ls (lv_cast (lv_sub (l' := [(0, .ref (ad 0)), (1, .int (nI (c_repc c nh j))), (2, .int (nI (j + 1)))]) hl [1, 2, 0] rfl) (by rw [c_repc_p (Or.inl b24)])) _ _ hP hD hS
        · skip
          refine lv_aload_n hx hb dX5_replaceLostHouses_27 rfl (lv_at hl 0 rfl) ?_
          refine lv_aload_n hx hb dX5_replaceLostHouses_28 rfl (lv_at hl 0 rfl) ?_
          refine gf S hK hP 0 cl_0 fX5_10 (v := .ref (ad 1)) cfb_0 dX5_replaceLostHouses_29 ?_
          refine gf S hK hP 1 cl_1 fX5_87 (v := .ref (ad 2)) cfr_0 dX5_replaceLostHouses_32 ?_
          refine lv_iload_n hx hb dX5_replaceLostHouses_35 rfl (lv_at hl 2 rfl) ?_
          refine ild S hK hP 2 cl_2 (j := j) (by omega) (Nat.le_of_ble_eq_true rfl) dX5_replaceLostHouses_36 ?_
          refine lv_as (y := (c_rep c nh j) 1 j) rfl ?_
          by_cases u37 : c_und (c_rep c nh j) nh ((c_rep c nh j) 1 j) = 0
          · skip
            refine cM S (cc_draw0 l dg cA ad nh ni (c_rep c nh j) hrn hn24 ((c_rep c nh j) 1 j) u37 _) kX5_111 ⟨rfl, rfl, Nat.le_of_ble_eq_true rfl, Nat.le_of_ble_eq_true rfl⟩ hK hP hD hS hA 0 cl_0 (q := (RX5, TX5, 9)) rfl rfl (As := [.int ((c_rep c nh j) 1 j)]) rfl hl.1 (rest := []) rfl (Nat.le_of_ble_eq_true rfl) dX5_replaceLostHouses_37 ⟨Nat.le_of_ble_eq_true rfl, Nat.le_of_ble_eq_true rfl⟩ (st1 := [.int (-1)]) rfl (fun H locs hP hD hS => ?_)
            refine lv_iconst (v := (-1)) hx hb dX5_replaceLostHouses_40 (by decide) ?_
            refine lv_icmp_eq (tgt := 47) hx hb dX5_replaceLostHouses_41 (by decide) (fun b41 => ?_) (fun b41 => ?_)
            · skip
              refine lv_iinc (v := nI (j + 1)) (lv' := [(2, .int (nI (j + 1))), (0, .ref (ad 0)), (1, .int (nI (c_repc c nh j)))]) hx hb dX5_replaceLostHouses_47 hl (k := 2) rfl (nI_1 j) (by decide) rfl (fun ls hl => ?_)
              refine lv_goto (tgt := 4) hx hb dX5_replaceLostHouses_50 (by decide) ?_
              have es : (cw cA ad nh ni (c_rep c nh j)) = (cw cA ad nh ni (c_rep c nh (j + 1))) := by rw [c_rep_p (Or.inr u37)]
              rw [es] at hP hD
              exact ih4 (j + 1) (by omega) (by omega) ls (lv_cast (lv_sub (l' := [(0, .ref (ad 0)), (1, .int (nI (c_repc c nh j))), (2, .int (nI (j + 1)))]) hl [1, 2, 0] rfl) (by rw [c_repc_p (Or.inr u37)])) _ _ hP hD hS
            · skip
              exact False.elim (by revert b41; decide)
          · skip
            refine cM S (cc_draw1 l dg cA ad nh ni (c_rep c nh j) hrn hn24 ((c_rep c nh j) 1 j) hrc (Nat.pos_of_ne_zero u37) _) kX5_111 ⟨rfl, rfl, Nat.le_of_ble_eq_true rfl, Nat.le_of_ble_eq_true rfl⟩ hK hP hD hS hA 0 cl_0 (q := (RX5, TX5, 9)) rfl rfl (As := [.int ((c_rep c nh j) 1 j)]) rfl hl.1 (rest := []) rfl (Nat.le_of_ble_eq_true rfl) dX5_replaceLostHouses_37 ⟨Nat.le_of_ble_eq_true rfl, Nat.le_of_ble_eq_true rfl⟩ (st1 := [.int (nI (c_h (c_rep c nh j) nh ((c_rep c nh j) 1 j)))]) rfl (fun H locs hP hD hS => ?_)
            refine lv_iconst (v := (-1)) hx hb dX5_replaceLostHouses_40 (by decide) ?_
            refine lv_icmp_eq (tgt := 47) hx hb dX5_replaceLostHouses_41 (by decide) (fun b41 => ?_) (fun b41 => ?_)
            · skip
              exact absurd b41 (nI_m1 (Nat.lt_trans (c_h_lt hrc hn24 (Nat.pos_of_ne_zero u37)) (by omega)))
            · skip
              refine lv_iinc (v := nI (c_repc c nh j + 1)) (lv' := [(1, .int (nI (c_repc c nh j + 1))), (0, .ref (ad 0)), (2, .int (nI j))]) hx hb dX5_replaceLostHouses_44 hl (k := 1) rfl (nI_1 (c_repc c nh j)) (by decide) rfl (fun ls hl => ?_)
              refine lv_iinc (v := nI (j + 1)) (lv' := [(2, .int (nI (j + 1))), (1, .int (nI (c_repc c nh j + 1))), (0, .ref (ad 0))]) hx hb dX5_replaceLostHouses_47 hl (k := 2) rfl (nI_1 j) (by decide) rfl (fun ls hl => ?_)
              refine lv_goto (tgt := 4) hx hb dX5_replaceLostHouses_50 (by decide) ?_
              have es : (cw cA ad nh ni (c_d1 (c_rep c nh j) nh ((c_rep c nh j) 1 j))) = (cw cA ad nh ni (c_rep c nh (j + 1))) := by rw [c_rep_n (by rintro (z | z) <;> contradiction)]
              rw [es] at hP hD
              exact ih4 (j + 1) (by omega) (by omega) ls (lv_cast (lv_sub (l' := [(0, .ref (ad 0)), (1, .int (nI (c_repc c nh j + 1))), (2, .int (nI (j + 1)))]) hl [2, 1, 0] rfl) (by rw [c_repc_n (by rintro (z | z) <;> contradiction)])) _ _ hP hD hS
  have es : (cw cA ad nh ni c) = (cw cA ad nh ni (c_rep c nh 0)) := rfl
  rw [es] at hP hD
  exact hL4 _ 0 (Nat.lt_succ_self _) (Nat.zero_le _) ls (lv_cast (lv_sub (l' := [(0, .ref (ad 0)), (1, .int 0), (2, .int 0)]) hl [2, 1, 0] rfl) (by rfl)) _ _ hP hD hS

set_option maxHeartbeats 4000000 in
set_option maxRecDepth 100000 in
theorem cc_lost (l : Launch) (dg : va_G) (cA : Nat → ClassId) (ad : Nat → Nat) (nh ni : Nat) (c : St) (hn : c 0 4 = nI nh) (hn24 : nh ≤ 24) (sz : Nat) : MetM l dg cA yX5_wantLostAnswersAgain cX5_wantLostAnswersAgain 2 none ({ frames := 1, cells := 0, slots := 0, locals := 21 } : Room) 0 0 (cw cA ad nh ni c) sz [.ref (ad 0)] (cw cA ad nh ni (c_la c nh)) none := by
  refine ofM (by decide) (Nat.le_of_ble_eq_true rfl) (own := RX5) rfl (fun p e s0 m args below meth ccd ls A hAe S hr hlk hname hargs hK hP hD hS hA hsz hl => ?_)
  have hx := S.1
  have hb := S.2.1
  have hl : lv_has ls 2 [(0, .ref (ad 0))] := hl
  refine lv_iconst (v := 0) hx hb dX5_wantLostAnswersAgain_0 (by decide) ?_
  refine lv_istore_n (lv' := [(1, .int 0), (0, .ref (ad 0))]) hx hb dX5_wantLostAnswersAgain_1 rfl hl (by decide) rfl (fun ls hl => ?_)
  have hL2 : ∀ (f : Nat) (j : Nat), nh - j < f → (j ≤ nh) → ∀ ls, lv_has ls 2 [(0, .ref (ad 0)), (1, .int (nI j))] → ∀ (H : Heap) (locs : List Loc), PP dg (cw cA ad nh ni (c_la c j)) H → va_D A (cw cA ad nh ni (c_la c j)) → va_S A s0.heap H locs → W p l e ({ frames := 1, cells := 0, slots := 0, locals := 21 } : Room) s0 m args below meth ccd H locs 0 0 (MQ below (QcM dg (cw cA ad nh ni (c_la c nh)) none A) args s0 0 0 A) (F0 m 2 ls []) := by
    intro f
    induction f with
    | zero => intro j hm; exact absurd hm (Nat.not_lt_zero _)
    | succ f ih2 =>
      intro j hm2 hj ls hl H locs hP hD hS
      refine lv_iload_n hx hb dX5_wantLostAnswersAgain_2 rfl (lv_at hl 1 rfl) ?_
      refine lv_aload_n hx hb dX5_wantLostAnswersAgain_3 rfl (lv_at hl 0 rfl) ?_
      refine gf S hK hP 0 cl_0 fX5_10 (v := .ref (ad 1)) cfb_0 dX5_wantLostAnswersAgain_4 ?_
      refine gf S hK hP 1 cl_1 fX5_81 (v := .int (nI nh)) (cfr_5 (show c_la c j 0 4 = nI nh by rw [c_la_row _ _ (by decide) (by decide)]; exact hn)) dX5_wantLostAnswersAgain_7 ?_
      refine lv_icmp_ge (tgt := 60) hx hb dX5_wantLostAnswersAgain_10 (by decide) (fun b10 => ?_) (fun b10 => ?_)
      · skip
        have g10 : nh ≤ j := (nI_leI (a := nh) (b := j) (by omega) (by omega)).mp b10
        exact eMv S hr hlk hP hD hS dX5_wantLostAnswersAgain_60 (by rw [show j = nh by omega])
      · skip
        have g10 : ¬ nh ≤ j := fun zz => b10 ((nI_leI (a := nh) (b := j) (by omega) (by omega)).mpr zz)
        refine lv_aload_n hx hb dX5_wantLostAnswersAgain_13 rfl (lv_at hl 0 rfl) ?_
        refine gf S hK hP 0 cl_0 fX5_18 (v := .ref (ad 6)) cfb_1 dX5_wantLostAnswersAgain_14 ?_
        refine lv_iload_n hx hb dX5_wantLostAnswersAgain_17 rfl (lv_at hl 1 rfl) ?_
        refine qld S hK hP 6 2 cl_6 (C := RX2) rfl (j := j) (b := ad (30 + j)) (by omega) (Nat.le_of_ble_eq_true rfl) (chs_at (by omega)) dX5_wantLostAnswersAgain_18 ?_
        refine gf S hK hP (22 + j) (cl_h (by omega)) fX5_182 (v := .int ((c_la c j) 21 j)) (ch_1 rfl) dX5_wantLostAnswersAgain_19 ?_
        refine lv_bipush (v := 97) hx hb dX5_wantLostAnswersAgain_22 (by decide) ?_
        refine lv_icmp_ne (tgt := 54) hx hb dX5_wantLostAnswersAgain_24 (by decide) (fun b24 => ?_) (fun b24 => ?_)
        · skip
          refine lv_iinc (v := nI (j + 1)) (lv' := [(1, .int (nI (j + 1))), (0, .ref (ad 0))]) hx hb dX5_wantLostAnswersAgain_54 hl (k := 1) rfl (nI_1 j) (by decide) rfl (fun ls hl => ?_)
          refine lv_goto (tgt := 2) hx hb dX5_wantLostAnswersAgain_57 (by decide) ?_
          have es : (cw cA ad nh ni (c_la c j)) = (cw cA ad nh ni (c_la c (j + 1))) := by rw [c_la_f (by rintro ⟨z, z2⟩; contradiction)]
          rw [es] at hP hD
          exact ih2 (j + 1) (by omega) (by omega) ls (lv_sub hl [1, 0] rfl) _ _ hP hD hS
        · skip
          refine lv_aload_n hx hb dX5_wantLostAnswersAgain_27 rfl (lv_at hl 0 rfl) ?_
          refine gf S hK hP 0 cl_0 fX5_31 (v := .ref (ad 8)) cfb_3 dX5_wantLostAnswersAgain_28 ?_
          refine gf S hK hP 8 cl_8 fX5_223 (v := .ref (ad 9)) ct0_0 dX5_wantLostAnswersAgain_31 ?_
          refine lv_iload_n hx hb dX5_wantLostAnswersAgain_34 rfl (lv_at hl 1 rfl) ?_
          refine zld S hK hP 9 cl_9 (j := j) (by omega) (Nat.le_of_ble_eq_true rfl) dX5_wantLostAnswersAgain_35 ?_
          refine lv_as (y := (c_la c j) 5 j) rfl ?_
          refine lv_if_ne (tgt := 54) hx hb dX5_wantLostAnswersAgain_36 (by decide) (fun b36 => ?_) (fun b36 => ?_)
          · skip
            refine lv_iinc (v := nI (j + 1)) (lv' := [(1, .int (nI (j + 1))), (0, .ref (ad 0))]) hx hb dX5_wantLostAnswersAgain_54 hl (k := 1) rfl (nI_1 j) (by decide) rfl (fun ls hl => ?_)
            refine lv_goto (tgt := 2) hx hb dX5_wantLostAnswersAgain_57 (by decide) ?_
            have es : (cw cA ad nh ni (c_la c j)) = (cw cA ad nh ni (c_la c (j + 1))) := by rw [c_la_f (by rintro ⟨z, z2⟩; contradiction)]
            rw [es] at hP hD
            exact ih2 (j + 1) (by omega) (by omega) ls (lv_sub hl [1, 0] rfl) _ _ hP hD hS
          · skip
            refine lv_aload_n hx hb dX5_wantLostAnswersAgain_39 rfl (lv_at hl 0 rfl) ?_
            refine gf S hK hP 0 cl_0 fX5_18 (v := .ref (ad 6)) cfb_1 dX5_wantLostAnswersAgain_40 ?_
            refine lv_iload_n hx hb dX5_wantLostAnswersAgain_43 rfl (lv_at hl 1 rfl) ?_
            refine qld S hK hP 6 2 cl_6 (C := RX2) rfl (j := j) (b := ad (30 + j)) (by omega) (Nat.le_of_ble_eq_true rfl) (chs_at (by omega)) dX5_wantLostAnswersAgain_44 ?_
            refine lv_aload_n hx hb dX5_wantLostAnswersAgain_45 rfl (lv_at hl 0 rfl) ?_
            refine gf S hK hP 0 cl_0 fX5_52 (v := .int (c 0 2)) (cfb_8 (show c_la c j 0 2 = c 0 2 by rw [c_la_row _ _ (by decide) (by decide)])) dX5_wantLostAnswersAgain_46 ?_
            refine lv_iconst (v := 1) hx hb dX5_wantLostAnswersAgain_49 (by decide) ?_
            refine lv_iadd hx hb dX5_wantLostAnswersAgain_50 ?_
            refine cM S (cc_wantFrom l dg cA ad nh ni (c_la c j) j (by omega) ((c 0 2) + 1) _) kX5_297 ⟨rfl, rfl, Nat.le_of_ble_eq_true rfl, Nat.le_of_ble_eq_true rfl⟩ hK hP hD hS hA (22 + j) (cl_h (by omega)) (q := (RX2, TX2, 11)) rfl rfl (As := [.int ((c 0 2) + 1)]) rfl hl.1 (rest := []) rfl (Nat.le_of_ble_eq_true rfl) dX5_wantLostAnswersAgain_51 ⟨Nat.le_of_ble_eq_true rfl, Nat.le_of_ble_eq_true rfl⟩ (st1 := []) rfl (fun H locs hP hD hS => ?_)
            refine lv_iinc (v := nI (j + 1)) (lv' := [(1, .int (nI (j + 1))), (0, .ref (ad 0))]) hx hb dX5_wantLostAnswersAgain_54 hl (k := 1) rfl (nI_1 j) (by decide) rfl (fun ls hl => ?_)
            refine lv_goto (tgt := 2) hx hb dX5_wantLostAnswersAgain_57 (by decide) ?_
            have es : (cw cA ad nh ni (up (up (c_la c j) 21 j 119) 22 j ((c 0 2) + 1))) = (cw cA ad nh ni (c_la c (j + 1))) := by rw [c_la_t b24 b36]
            rw [es] at hP hD
            exact ih2 (j + 1) (by omega) (by omega) ls (lv_sub hl [1, 0] rfl) _ _ hP hD hS
  have es : (cw cA ad nh ni c) = (cw cA ad nh ni (c_la c 0)) := rfl
  rw [es] at hP hD
  exact hL2 _ 0 (Nat.lt_succ_self _) (Nat.zero_le _) ls (lv_cast (lv_sub (l' := [(0, .ref (ad 0)), (1, .int 0)]) hl [1, 0] rfl) (by rfl)) _ _ hP hD hS

set_option maxHeartbeats 4000000 in
set_option maxRecDepth 100000 in
theorem cc_takeA (l : Launch) (dg : va_G) (cA : Nat → ClassId) (ad : Nat → Nat) (nh ni : Nat) (c : St) (hn : c 0 4 = nI nh) (hn24 : nh ≤ 24) (h : Nat) (hh : h < nh) (v a : Int32) (sz : Nat) : MetM l dg cA yX5_takeAnswer cX5_takeAnswer 4 none ({ frames := 5, cells := 0, slots := 0, locals := 126 } : Room) 0 0 (cw cA ad nh ni c) sz [.ref (ad 0), .int (nI h), .int v, .int a] (cw cA ad nh ni (upr (up (up (up (up (up c 21 h 97) 30 h 0) 5 h 1) 6 h a) 7 h v) 8 (cs_wt (up (up (up (up (up c 21 h 97) 30 h 0) 5 h 1) 6 h a) 7 h v) 5 nh))) none := by
  refine ofM (by decide) (Nat.le_of_ble_eq_true rfl) (own := RX5) rfl (fun p e s0 m args below meth ccd ls A hAe S hr hlk hname hargs hK hP hD hS hA hsz hl => ?_)
  have hx := S.1
  have hb := S.2.1
  have hl : lv_has ls 4 [(0, .ref (ad 0)), (1, .int (nI h)), (2, .int v), (3, .int a)] := hl
  refine lv_aload_n hx hb dX5_takeAnswer_0 rfl (lv_at hl 0 rfl) ?_
  refine gf S hK hP 0 cl_0 fX5_18 (v := .ref (ad 6)) cfb_1 dX5_takeAnswer_1 ?_
  refine lv_iload_n hx hb dX5_takeAnswer_4 rfl (lv_at hl 1 rfl) ?_
  refine qld S hK hP 6 2 cl_6 (C := RX2) rfl (j := h) (b := ad (30 + h)) (by omega) (Nat.le_of_ble_eq_true rfl) (chs_at (by omega)) dX5_takeAnswer_5 ?_
  refine lv_bipush (v := 97) hx hb dX5_takeAnswer_6 (by decide) ?_
  refine pf S hK hP hD hS (22 + h) (cl_h (by omega)) fX5_182 fpX2 rfl (v := .int 97) rfl rfl (Nat.le_of_ble_eq_true rfl) (cs_h_1 (by omega)) dX5_takeAnswer_8 (fun H locs hP hD hS => ?_)
  refine lv_aload_n hx hb dX5_takeAnswer_11 rfl (lv_at hl 0 rfl) ?_
  refine gf S hK hP 0 cl_0 fX5_18 (v := .ref (ad 6)) cfb_1 dX5_takeAnswer_12 ?_
  refine lv_iload_n hx hb dX5_takeAnswer_15 rfl (lv_at hl 1 rfl) ?_
  refine qld S hK hP 6 2 cl_6 (C := RX2) rfl (j := h) (b := ad (30 + h)) (by omega) (Nat.le_of_ble_eq_true rfl) (chs_at (by omega)) dX5_takeAnswer_16 ?_
  refine lv_iconst (v := 0) hx hb dX5_takeAnswer_17 (by decide) ?_
  refine pf S hK hP hD hS (22 + h) (cl_h (by omega)) fX5_186 fpX2 rfl (v := .int 0) rfl rfl (Nat.le_of_ble_eq_true rfl) (cs_h_10 (by omega)) dX5_takeAnswer_18 (fun H locs hP hD hS => ?_)
  refine lv_aload_n hx hb dX5_takeAnswer_21 rfl (lv_at hl 0 rfl) ?_
  refine gf S hK hP 0 cl_0 fX5_31 (v := .ref (ad 8)) cfb_3 dX5_takeAnswer_22 ?_
  refine lv_iload_n hx hb dX5_takeAnswer_25 rfl (lv_at hl 1 rfl) ?_
  refine lv_iload_n hx hb dX5_takeAnswer_26 rfl (lv_at hl 2 rfl) ?_
  refine lv_iload_n hx hb dX5_takeAnswer_27 rfl (lv_at hl 3 rfl) ?_
  refine cM S (cc_take_k l dg cA ad nh ni (up (up c 21 h 97) 30 h 0) h (by omega) v a _) kX5_339 ⟨rfl, rfl, Nat.le_of_ble_eq_true rfl, Nat.le_of_ble_eq_true rfl⟩ hK hP hD hS hA 8 cl_8 (q := (RX4, TX4, 5)) rfl rfl (As := [.int (nI h), .int v, .int a]) rfl hl.1 (rest := []) rfl (Nat.le_of_ble_eq_true rfl) dX5_takeAnswer_28 ⟨Nat.le_of_ble_eq_true rfl, Nat.le_of_ble_eq_true rfl⟩ (st1 := []) rfl (fun H locs hP hD hS => ?_)
  refine lv_aload_n hx hb dX5_takeAnswer_31 rfl (lv_at hl 0 rfl) ?_
  refine gf S hK hP 0 cl_0 fX5_31 (v := .ref (ad 8)) cfb_3 dX5_takeAnswer_32 ?_
  refine lv_aload_n hx hb dX5_takeAnswer_35 rfl (lv_at hl 0 rfl) ?_
  refine gf S hK hP 0 cl_0 fX5_10 (v := .ref (ad 1)) cfb_0 dX5_takeAnswer_36 ?_
  refine cM S (cc_fitTo_k l dg cA ad nh ni (up (up (up (up (up c 21 h 97) 30 h 0) 5 h 1) 6 h a) 7 h v) hn hn24 _) kX5_117 ⟨rfl, rfl, Nat.le_of_ble_eq_true rfl, Nat.le_of_ble_eq_true rfl⟩ hK hP hD hS hA 8 cl_8 (q := (RX4, TX4, 5)) rfl rfl (As := [.ref (ad 1)]) rfl hl.1 (rest := []) rfl (Nat.le_of_ble_eq_true rfl) dX5_takeAnswer_39 ⟨Nat.le_of_ble_eq_true rfl, Nat.le_of_ble_eq_true rfl⟩ (st1 := []) rfl (fun H locs hP hD hS => ?_)
  exact eMv S hr hlk hP hD hS dX5_takeAnswer_42 rfl

set_option maxHeartbeats 4000000 in
set_option maxRecDepth 100000 in
theorem cc_sumW (l : Launch) (dg : va_G) (cA : Nat → ClassId) (ad : Nat → Nat) (nh ni : Nat) (c : St) (hn : c 0 4 = nI nh) (hn24 : nh ≤ 24) : MetR l dg cA yX5_sumOfWeights cX5_sumOfWeights 4 (some .long) ({ frames := 0, cells := 0, slots := 0, locals := 0 } : Room) (cw cA ad nh ni c) [.ref (ad 0)] (some (.long (c_s64 (c 8) nh))) := by
  refine ofR (by decide) (Nat.le_of_ble_eq_true rfl) (own := RX5) rfl (fun p e s0 m args below meth ccd ls S hr hlk hargs hK hP hl => ?_)
  have hx := S.1
  have hb := S.2.1
  have hl : lv_has ls 4 [(0, .ref (ad 0))] := hl
  refine lv_lconst (v := 0) hx hb dX5_sumOfWeights_0 (by decide) ?_
  refine lv_lstore_n (lv' := [(1, .long 0), (0, .ref (ad 0))]) hx hb dX5_sumOfWeights_1 rfl hl (by decide) rfl (fun ls hl => ?_)
  refine lv_iconst (v := 0) hx hb dX5_sumOfWeights_2 (by decide) ?_
  refine lv_istore_n (lv' := [(3, .int 0), (1, .long 0), (0, .ref (ad 0))]) hx hb dX5_sumOfWeights_3 rfl hl (by decide) rfl (fun ls hl => ?_)
  have hL4 : ∀ (f : Nat) (j : Nat), nh - j < f → (j ≤ nh) → ∀ ls, lv_has ls 4 [(0, .ref (ad 0)), (1, .long (c_s64 (c 8) j)), (3, .int (nI j))] → W p l e ({ frames := 0, cells := 0, slots := 0, locals := 0 } : Room) s0 m args below meth ccd s0.heap [] 0 0 (MQ below (QcR (some (.long (c_s64 (c 8) nh)))) args s0 0 0 (fun _ => False)) (F0 m 4 ls []) := by
    intro f
    induction f with
    | zero => intro j hm; exact absurd hm (Nat.not_lt_zero _)
    | succ f ih4 =>
      intro j hm4 hj ls hl
      refine lv_iload_n hx hb dX5_sumOfWeights_4 rfl (lv_at hl 2 rfl) ?_
      refine lv_aload_n hx hb dX5_sumOfWeights_5 rfl (lv_at hl 0 rfl) ?_
      refine gf S hK hP 0 cl_0 fX5_10 (v := .ref (ad 1)) cfb_0 dX5_sumOfWeights_6 ?_
      refine gf S hK hP 1 cl_1 fX5_81 (v := .int (nI nh)) (cfr_5 hn) dX5_sumOfWeights_9 ?_
      refine lv_icmp_ge (tgt := 34) hx hb dX5_sumOfWeights_12 (by decide) (fun b12 => ?_) (fun b12 => ?_)
      · skip
        have g12 : nh ≤ j := (nI_leI (a := nh) (b := j) (by omega) (by omega)).mp b12
        refine lv_lload_n hx hb dX5_sumOfWeights_34 rfl (lv_at hl 1 rfl) ?_
        exact eRl S hr hlk dX5_sumOfWeights_35 (by rw [show j = nh by omega])
      · skip
        have g12 : ¬ nh ≤ j := fun zz => b12 ((nI_leI (a := nh) (b := j) (by omega) (by omega)).mpr zz)
        refine lv_lload_n hx hb dX5_sumOfWeights_15 rfl (lv_at hl 1 rfl) ?_
        refine lv_aload_n hx hb dX5_sumOfWeights_16 rfl (lv_at hl 0 rfl) ?_
        refine gf S hK hP 0 cl_0 fX5_31 (v := .ref (ad 8)) cfb_3 dX5_sumOfWeights_17 ?_
        refine gf S hK hP 8 cl_8 fX5_233 (v := .ref (ad 12)) ct0_3 dX5_sumOfWeights_20 ?_
        refine lv_iload_n hx hb dX5_sumOfWeights_23 rfl (lv_at hl 2 rfl) ?_
        refine ild S hK hP 12 cl_12 (j := j) (by omega) (Nat.le_of_ble_eq_true rfl) dX5_sumOfWeights_24 ?_
        refine lv_as (y := c 8 j) rfl ?_
        refine lv_i2l (v := (c 8 j).toInt64) hx hb dX5_sumOfWeights_25 rfl ?_
        refine lv_ladd hx hb dX5_sumOfWeights_26 ?_
        refine lv_lstore_n (lv' := [(1, .long ((c_s64 (c 8) j) + ((c 8 j).toInt64))), (0, .ref (ad 0)), (3, .int (nI j))]) hx hb dX5_sumOfWeights_27 rfl hl (by decide) rfl (fun ls hl => ?_)
        refine lv_iinc (v := nI (j + 1)) (lv' := [(3, .int (nI (j + 1))), (1, .long ((c_s64 (c 8) j) + ((c 8 j).toInt64))), (0, .ref (ad 0))]) hx hb dX5_sumOfWeights_28 hl (k := 2) rfl (nI_1 j) (by decide) rfl (fun ls hl => ?_)
        refine lv_goto (tgt := 4) hx hb dX5_sumOfWeights_31 (by decide) ?_
        exact ih4 (j + 1) (by omega) (by omega) ls (lv_cast (lv_sub (l' := [(0, .ref (ad 0)), (1, .long ((c_s64 (c 8) j) + ((c 8 j).toInt64))), (3, .int (nI (j + 1)))]) hl [2, 1, 0] rfl) (by rfl))
  exact hL4 _ 0 (Nat.lt_succ_self _) (Nat.zero_le _) ls (lv_cast (lv_sub (l' := [(0, .ref (ad 0)), (1, .long 0), (3, .int 0)]) hl [2, 1, 0] rfl) (by rfl))
