set_option maxHeartbeats 4000000 in
set_option maxRecDepth 100000 in
theorem cx_rS (l : Launch) (dg : va_G) (cA : Nat → ClassId) (hst : l.stackTraces = false) (ad : Nat → Nat) (nh ni : Nat) (c : St) (ns : Nat) (hns : c 0 3 = nI ns) (hns4 : ns ≤ 4) (v : Int32) (hv : ¬ (¬ v < 0 ∧ v < nI ns)) : MetX l dg cA yX5_requireStratum cX5_requireStratum 2 none ({ frames := 6, cells := 1, slots := 6, locals := 82 } : Room) (cw cA ad nh ni c) [.ref (ad 0), .int v] "java/lang/IndexOutOfBoundsException" := by
  refine ofX (by decide) (Nat.le_of_ble_eq_true rfl) (own := RX5) rfl (fun p e s0 m args below meth ccd ls S hlk hex hargs hK hZ hP hl => ?_)
  have hx := S.1
  have hb := S.2.1
  have hl : lv_has ls 2 [(0, .ref (ad 0)), (1, .int v)] := hl
  refine lv_iload_n hx hb dX5_requireStratum_0 rfl (lv_at hl 1 rfl) ?_
  refine lv_if_lt (tgt := 15) hx hb dX5_requireStratum_1 (by decide) (fun b1 => ?_) (fun b1 => ?_)
  · skip
    exact thW (text := "there is no such stratum") S hst hex hlk hZ hP x_ibe (by decide) hl.1 dX5_requireStratum_15 dX5_requireStratum_18 dX5_requireStratum_19 dX5_requireStratum_22 dX5_requireStratum_25 ⟨Nat.le_of_ble_eq_true rfl, Nat.le_of_ble_eq_true rfl, Nat.le_of_ble_eq_true rfl, Nat.le_of_ble_eq_true rfl⟩
  · skip
    refine lv_iload_n hx hb dX5_requireStratum_4 rfl (lv_at hl 1 rfl) ?_
    refine lv_aload_n hx hb dX5_requireStratum_5 rfl (lv_at hl 0 rfl) ?_
    refine gf S hK hP 0 cl_0 fX5_10 (v := .ref (ad 1)) cfb_0 dX5_requireStratum_6 ?_
    refine gf S hK hP 1 cl_1 fX5_63 (v := .int (nI ns)) (cfr_4 hns) dX5_requireStratum_9 ?_
    refine lv_icmp_lt (tgt := 26) hx hb dX5_requireStratum_12 (by decide) (fun b12 => ?_) (fun b12 => ?_)
    · skip
      exact absurd ⟨b1, b12⟩ hv
    · skip
      exact thW (text := "there is no such stratum") S hst hex hlk hZ hP x_ibe (by decide) hl.1 dX5_requireStratum_15 dX5_requireStratum_18 dX5_requireStratum_19 dX5_requireStratum_22 dX5_requireStratum_25 ⟨Nat.le_of_ble_eq_true rfl, Nat.le_of_ble_eq_true rfl, Nat.le_of_ble_eq_true rfl, Nat.le_of_ble_eq_true rfl⟩

set_option maxHeartbeats 4000000 in
set_option maxRecDepth 100000 in
theorem cx_rI (l : Launch) (dg : va_G) (cA : Nat → ClassId) (hst : l.stackTraces = false) (ad : Nat → Nat) (nh ni : Nat) (c : St) (hni : c 0 0 = nI ni) (hni4 : ni ≤ 4) (v : Int32) (hv : ¬ (¬ v < 0 ∧ v < nI ni)) : MetX l dg cA yX5_requireInterviewer cX5_requireInterviewer 2 none ({ frames := 6, cells := 1, slots := 6, locals := 82 } : Room) (cw cA ad nh ni c) [.ref (ad 0), .int v] "java/lang/IndexOutOfBoundsException" := by
  refine ofX (by decide) (Nat.le_of_ble_eq_true rfl) (own := RX5) rfl (fun p e s0 m args below meth ccd ls S hlk hex hargs hK hZ hP hl => ?_)
  have hx := S.1
  have hb := S.2.1
  have hl : lv_has ls 2 [(0, .ref (ad 0)), (1, .int v)] := hl
  refine lv_iload_n hx hb dX5_requireInterviewer_0 rfl (lv_at hl 1 rfl) ?_
  refine lv_if_lt (tgt := 12) hx hb dX5_requireInterviewer_1 (by decide) (fun b1 => ?_) (fun b1 => ?_)
  · skip
    exact thW (text := "there is no such interviewer") S hst hex hlk hZ hP x_ibe (by decide) hl.1 dX5_requireInterviewer_12 dX5_requireInterviewer_15 dX5_requireInterviewer_16 dX5_requireInterviewer_19 dX5_requireInterviewer_22 ⟨Nat.le_of_ble_eq_true rfl, Nat.le_of_ble_eq_true rfl, Nat.le_of_ble_eq_true rfl, Nat.le_of_ble_eq_true rfl⟩
  · skip
    refine lv_iload_n hx hb dX5_requireInterviewer_4 rfl (lv_at hl 1 rfl) ?_
    refine lv_aload_n hx hb dX5_requireInterviewer_5 rfl (lv_at hl 0 rfl) ?_
    refine gf S hK hP 0 cl_0 fX5_45 (v := .int (nI ni)) (cfb_6 hni) dX5_requireInterviewer_6 ?_
    refine lv_icmp_lt (tgt := 23) hx hb dX5_requireInterviewer_9 (by decide) (fun b9 => ?_) (fun b9 => ?_)
    · skip
      exact absurd ⟨b1, b9⟩ hv
    · skip
      exact thW (text := "there is no such interviewer") S hst hex hlk hZ hP x_ibe (by decide) hl.1 dX5_requireInterviewer_12 dX5_requireInterviewer_15 dX5_requireInterviewer_16 dX5_requireInterviewer_19 dX5_requireInterviewer_22 ⟨Nat.le_of_ble_eq_true rfl, Nat.le_of_ble_eq_true rfl, Nat.le_of_ble_eq_true rfl, Nat.le_of_ble_eq_true rfl⟩

set_option maxHeartbeats 4000000 in
set_option maxRecDepth 100000 in
theorem cx_rP (l : Launch) (dg : va_G) (cA : Nat → ClassId) (hst : l.stackTraces = false) (ad : Nat → Nat) (nh ni : Nat) (c : St) (v : Int32) (hv : ¬ (¬ v < 0 ∧ ¬ 99 < v)) : MetX l dg cA yX5_requirePlace cX5_requirePlace 2 none ({ frames := 6, cells := 1, slots := 6, locals := 82 } : Room) (cw cA ad nh ni c) [.ref (ad 0), .int v] "java/lang/IllegalArgumentException" := by
  refine ofX (by decide) (Nat.le_of_ble_eq_true rfl) (own := RX5) rfl (fun p e s0 m args below meth ccd ls S hlk hex hargs hK hZ hP hl => ?_)
  have hx := S.1
  have hb := S.2.1
  have hl : lv_has ls 2 [(0, .ref (ad 0)), (1, .int v)] := hl
  refine lv_iload_n hx hb dX5_requirePlace_0 rfl (lv_at hl 1 rfl) ?_
  refine lv_if_lt (tgt := 10) hx hb dX5_requirePlace_1 (by decide) (fun b1 => ?_) (fun b1 => ?_)
  · skip
    exact thW (text := "the place is out of range") S hst hex hlk hZ hP x_iae (by decide) hl.1 dX5_requirePlace_10 dX5_requirePlace_13 dX5_requirePlace_14 dX5_requirePlace_17 dX5_requirePlace_20 ⟨Nat.le_of_ble_eq_true rfl, Nat.le_of_ble_eq_true rfl, Nat.le_of_ble_eq_true rfl, Nat.le_of_ble_eq_true rfl⟩
  · skip
    refine lv_iload_n hx hb dX5_requirePlace_4 rfl (lv_at hl 1 rfl) ?_
    refine lv_bipush (v := 99) hx hb dX5_requirePlace_5 (by decide) ?_
    refine lv_icmp_le (tgt := 21) hx hb dX5_requirePlace_7 (by decide) (fun b7 => ?_) (fun b7 => ?_)
    · skip
      exact absurd ⟨b1, Int32.not_lt.mpr b7⟩ hv
    · skip
      exact thW (text := "the place is out of range") S hst hex hlk hZ hP x_iae (by decide) hl.1 dX5_requirePlace_10 dX5_requirePlace_13 dX5_requirePlace_14 dX5_requirePlace_17 dX5_requirePlace_20 ⟨Nat.le_of_ble_eq_true rfl, Nat.le_of_ble_eq_true rfl, Nat.le_of_ble_eq_true rfl, Nat.le_of_ble_eq_true rfl⟩

set_option maxHeartbeats 4000000 in
set_option maxRecDepth 100000 in
theorem cx_rL (l : Launch) (dg : va_G) (cA : Nat → ClassId) (hst : l.stackTraces = false) (ad : Nat → Nat) (nh ni : Nat) (c : St) (v : Int32) (hv : ¬ (¬ v < 0 ∧ ¬ 2 < v)) : MetX l dg cA yX5_requireLanguage cX5_requireLanguage 2 none ({ frames := 6, cells := 1, slots := 6, locals := 82 } : Room) (cw cA ad nh ni c) [.ref (ad 0), .int v] "java/lang/IllegalArgumentException" := by
  refine ofX (by decide) (Nat.le_of_ble_eq_true rfl) (own := RX5) rfl (fun p e s0 m args below meth ccd ls S hlk hex hargs hK hZ hP hl => ?_)
  have hx := S.1
  have hb := S.2.1
  have hl : lv_has ls 2 [(0, .ref (ad 0)), (1, .int v)] := hl
  refine lv_iload_n hx hb dX5_requireLanguage_0 rfl (lv_at hl 1 rfl) ?_
  refine lv_if_lt (tgt := 9) hx hb dX5_requireLanguage_1 (by decide) (fun b1 => ?_) (fun b1 => ?_)
  · skip
    exact thW (text := "the language is out of range") S hst hex hlk hZ hP x_iae (by decide) hl.1 dX5_requireLanguage_9 dX5_requireLanguage_12 dX5_requireLanguage_13 dX5_requireLanguage_16 dX5_requireLanguage_19 ⟨Nat.le_of_ble_eq_true rfl, Nat.le_of_ble_eq_true rfl, Nat.le_of_ble_eq_true rfl, Nat.le_of_ble_eq_true rfl⟩
  · skip
    refine lv_iload_n hx hb dX5_requireLanguage_4 rfl (lv_at hl 1 rfl) ?_
    refine lv_iconst (v := 3) hx hb dX5_requireLanguage_5 (by decide) ?_
    refine lv_icmp_lt (tgt := 20) hx hb dX5_requireLanguage_6 (by decide) (fun b6 => ?_) (fun b6 => ?_)
    · skip
      exact absurd ⟨b1, i32_3lt b6⟩ hv
    · skip
      exact thW (text := "the language is out of range") S hst hex hlk hZ hP x_iae (by decide) hl.1 dX5_requireLanguage_9 dX5_requireLanguage_12 dX5_requireLanguage_13 dX5_requireLanguage_16 dX5_requireLanguage_19 ⟨Nat.le_of_ble_eq_true rfl, Nat.le_of_ble_eq_true rfl, Nat.le_of_ble_eq_true rfl, Nat.le_of_ble_eq_true rfl⟩

set_option maxHeartbeats 4000000 in
set_option maxRecDepth 100000 in
theorem cx_rA (l : Launch) (dg : va_G) (cA : Nat → ClassId) (hst : l.stackTraces = false) (ad : Nat → Nat) (nh ni : Nat) (c : St) (v : Int32) (hv : ¬ (¬ v < 0 ∧ ¬ 9 < v)) : MetX l dg cA yX5_requireAnswer cX5_requireAnswer 2 none ({ frames := 6, cells := 1, slots := 6, locals := 82 } : Room) (cw cA ad nh ni c) [.ref (ad 0), .int v] "java/lang/IllegalArgumentException" := by
  refine ofX (by decide) (Nat.le_of_ble_eq_true rfl) (own := RX5) rfl (fun p e s0 m args below meth ccd ls S hlk hex hargs hK hZ hP hl => ?_)
  have hx := S.1
  have hb := S.2.1
  have hl : lv_has ls 2 [(0, .ref (ad 0)), (1, .int v)] := hl
  refine lv_iload_n hx hb dX5_requireAnswer_0 rfl (lv_at hl 1 rfl) ?_
  refine lv_if_lt (tgt := 10) hx hb dX5_requireAnswer_1 (by decide) (fun b1 => ?_) (fun b1 => ?_)
  · skip
    exact thW (text := "the answer is out of range") S hst hex hlk hZ hP x_iae (by decide) hl.1 dX5_requireAnswer_10 dX5_requireAnswer_13 dX5_requireAnswer_14 dX5_requireAnswer_17 dX5_requireAnswer_20 ⟨Nat.le_of_ble_eq_true rfl, Nat.le_of_ble_eq_true rfl, Nat.le_of_ble_eq_true rfl, Nat.le_of_ble_eq_true rfl⟩
  · skip
    refine lv_iload_n hx hb dX5_requireAnswer_4 rfl (lv_at hl 1 rfl) ?_
    refine lv_bipush (v := 9) hx hb dX5_requireAnswer_5 (by decide) ?_
    refine lv_icmp_le (tgt := 21) hx hb dX5_requireAnswer_7 (by decide) (fun b7 => ?_) (fun b7 => ?_)
    · skip
      exact absurd ⟨b1, Int32.not_lt.mpr b7⟩ hv
    · skip
      exact thW (text := "the answer is out of range") S hst hex hlk hZ hP x_iae (by decide) hl.1 dX5_requireAnswer_10 dX5_requireAnswer_13 dX5_requireAnswer_14 dX5_requireAnswer_17 dX5_requireAnswer_20 ⟨Nat.le_of_ble_eq_true rfl, Nat.le_of_ble_eq_true rfl, Nat.le_of_ble_eq_true rfl, Nat.le_of_ble_eq_true rfl⟩

set_option maxHeartbeats 4000000 in
set_option maxRecDepth 100000 in
theorem cx_rO (l : Launch) (dg : va_G) (cA : Nat → ClassId) (hst : l.stackTraces = false) (ad : Nat → Nat) (nh ni : Nat) (c : St) (o : Int32) (hov : ¬ (o = 97 ∨ o = 110 ∨ o = 114 ∨ o = 101)) : MetX l dg cA yX5_requireOutcome cX5_requireOutcome 2 none ({ frames := 6, cells := 1, slots := 6, locals := 82 } : Room) (cw cA ad nh ni c) [.ref (ad 0), .int o] "java/lang/IllegalArgumentException" := by
  refine ofX (by decide) (Nat.le_of_ble_eq_true rfl) (own := RX5) rfl (fun p e s0 m args below meth ccd ls S hlk hex hargs hK hZ hP hl => ?_)
  have hx := S.1
  have hb := S.2.1
  have hl : lv_has ls 2 [(0, .ref (ad 0)), (1, .int o)] := hl
  refine lv_iload_n hx hb dX5_requireOutcome_0 rfl (lv_at hl 1 rfl) ?_
  refine lv_bipush (v := 97) hx hb dX5_requireOutcome_1 (by decide) ?_
  refine lv_icmp_eq (tgt := 35) hx hb dX5_requireOutcome_3 (by decide) (fun b3 => ?_) (fun b3 => ?_)
  · skip
    exact absurd (Or.inl b3) hov
  · skip
    refine lv_iload_n hx hb dX5_requireOutcome_6 rfl (lv_at hl 1 rfl) ?_
    refine lv_bipush (v := 110) hx hb dX5_requireOutcome_7 (by decide) ?_
    refine lv_icmp_eq (tgt := 35) hx hb dX5_requireOutcome_9 (by decide) (fun b9 => ?_) (fun b9 => ?_)
    · skip
      exact absurd (Or.inr (Or.inl b9)) hov
    · skip
      refine lv_iload_n hx hb dX5_requireOutcome_12 rfl (lv_at hl 1 rfl) ?_
      refine lv_bipush (v := 114) hx hb dX5_requireOutcome_13 (by decide) ?_
      refine lv_icmp_eq (tgt := 35) hx hb dX5_requireOutcome_15 (by decide) (fun b15 => ?_) (fun b15 => ?_)
      · skip
        exact absurd (Or.inr (Or.inr (Or.inl b15))) hov
      · skip
        refine lv_iload_n hx hb dX5_requireOutcome_18 rfl (lv_at hl 1 rfl) ?_
        refine lv_bipush (v := 101) hx hb dX5_requireOutcome_19 (by decide) ?_
        refine lv_icmp_eq (tgt := 35) hx hb dX5_requireOutcome_21 (by decide) (fun b21 => ?_) (fun b21 => ?_)
        · skip
          exact absurd (Or.inr (Or.inr (Or.inr b21))) hov
        · skip
          exact thW (text := "there is no such outcome") S hst hex hlk hZ hP x_iae (by decide) hl.1 dX5_requireOutcome_24 dX5_requireOutcome_27 dX5_requireOutcome_28 dX5_requireOutcome_31 dX5_requireOutcome_34 ⟨Nat.le_of_ble_eq_true rfl, Nat.le_of_ble_eq_true rfl, Nat.le_of_ble_eq_true rfl, Nat.le_of_ble_eq_true rfl⟩

set_option maxHeartbeats 4000000 in
set_option maxRecDepth 100000 in
theorem cx_rV1 (l : Launch) (dg : va_G) (cA : Nat → ClassId) (hst : l.stackTraces = false) (ad : Nat → Nat) (nh ni : Nat) (c : St) (h : Nat) (hh : h < nh) (hr0 : c 27 h = -1) : MetX l dg cA yX5_requireOpenVisit cX5_requireOpenVisit 2 none ({ frames := 6, cells := 1, slots := 6, locals := 82 } : Room) (cw cA ad nh ni c) [.ref (ad 0), .ref (ad (30 + h))] "java/lang/IllegalStateException" := by
  refine ofX (by decide) (Nat.le_of_ble_eq_true rfl) (own := RX5) rfl (fun p e s0 m args below meth ccd ls S hlk hex hargs hK hZ hP hl => ?_)
  have hx := S.1
  have hb := S.2.1
  have hl : lv_has ls 2 [(0, .ref (ad 0)), (1, .ref (ad (30 + h)))] := hl
  refine lv_aload_n hx hb dX5_requireOpenVisit_0 rfl (lv_at hl 1 rfl) ?_
  refine gf S hK hP (22 + h) (cl_h (by omega)) fX5_155 (v := .int (-1)) (ch_7 hr0) dX5_requireOpenVisit_1 ?_
  refine lv_iconst (v := (-1)) hx hb dX5_requireOpenVisit_4 (by decide) ?_
  refine lv_icmp_ne (tgt := 19) hx hb dX5_requireOpenVisit_5 (by decide) (fun b5 => ?_) (fun b5 => ?_)
  · skip
    exact False.elim (by revert b5; decide)
  · skip
    exact thW (text := "the house is in no round of this day") S hst hex hlk hZ hP x_ise (by decide) hl.1 dX5_requireOpenVisit_8 dX5_requireOpenVisit_11 dX5_requireOpenVisit_12 dX5_requireOpenVisit_15 dX5_requireOpenVisit_18 ⟨Nat.le_of_ble_eq_true rfl, Nat.le_of_ble_eq_true rfl, Nat.le_of_ble_eq_true rfl, Nat.le_of_ble_eq_true rfl⟩

set_option maxHeartbeats 4000000 in
set_option maxRecDepth 100000 in
theorem cx_rV2 (l : Launch) (dg : va_G) (cA : Nat → ClassId) (hst : l.stackTraces = false) (ad : Nat → Nat) (nh ni : Nat) (c : St) (h : Nat) (hh : h < nh) (v : Nat) (hv : v < 4) (hr0 : c 27 h = nI v) (ht : ¬ c 28 h = 0) : MetX l dg cA yX5_requireOpenVisit cX5_requireOpenVisit 2 none ({ frames := 6, cells := 1, slots := 6, locals := 82 } : Room) (cw cA ad nh ni c) [.ref (ad 0), .ref (ad (30 + h))] "java/lang/IllegalStateException" := by
  refine ofX (by decide) (Nat.le_of_ble_eq_true rfl) (own := RX5) rfl (fun p e s0 m args below meth ccd ls S hlk hex hargs hK hZ hP hl => ?_)
  have hx := S.1
  have hb := S.2.1
  have hl : lv_has ls 2 [(0, .ref (ad 0)), (1, .ref (ad (30 + h)))] := hl
  refine lv_aload_n hx hb dX5_requireOpenVisit_0 rfl (lv_at hl 1 rfl) ?_
  refine gf S hK hP (22 + h) (cl_h (by omega)) fX5_155 (v := .int (nI v)) (ch_7 hr0) dX5_requireOpenVisit_1 ?_
  refine lv_iconst (v := (-1)) hx hb dX5_requireOpenVisit_4 (by decide) ?_
  refine lv_icmp_ne (tgt := 19) hx hb dX5_requireOpenVisit_5 (by decide) (fun b5 => ?_) (fun b5 => ?_)
  · skip
    refine lv_aload_n hx hb dX5_requireOpenVisit_19 rfl (lv_at hl 1 rfl) ?_
    refine gf S hK hP (22 + h) (cl_h (by omega)) fX5_162 (v := .int (c 28 h)) (ch_8 rfl) dX5_requireOpenVisit_20 ?_
    refine lv_if_eq (tgt := 37) hx hb dX5_requireOpenVisit_23 (by decide) (fun b23 => ?_) (fun b23 => ?_)
    · skip
      exact absurd b23 ht
    · skip
      exact thW (text := "what came of the visit was told already") S hst hex hlk hZ hP x_ise (by decide) hl.1 dX5_requireOpenVisit_26 dX5_requireOpenVisit_29 dX5_requireOpenVisit_30 dX5_requireOpenVisit_33 dX5_requireOpenVisit_36 ⟨Nat.le_of_ble_eq_true rfl, Nat.le_of_ble_eq_true rfl, Nat.le_of_ble_eq_true rfl, Nat.le_of_ble_eq_true rfl⟩
  · skip
    exact absurd b5 (nI_m1 (by omega))

set_option maxHeartbeats 4000000 in
set_option maxRecDepth 100000 in
theorem cx_rV3 (l : Launch) (dg : va_G) (cA : Nat → ClassId) (hst : l.stackTraces = false) (ad : Nat → Nat) (nh ni : Nat) (c : St) (h : Nat) (hh : h < nh) (v : Nat) (hv : v < 4) (hr0 : c 27 h = nI v) (ht : c 28 h = 0) (hf : ¬ c 9 v < 2) : MetX l dg cA yX5_requireOpenVisit cX5_requireOpenVisit 2 none ({ frames := 6, cells := 1, slots := 6, locals := 82 } : Room) (cw cA ad nh ni c) [.ref (ad 0), .ref (ad (30 + h))] "java/lang/IllegalStateException" := by
  refine ofX (by decide) (Nat.le_of_ble_eq_true rfl) (own := RX5) rfl (fun p e s0 m args below meth ccd ls S hlk hex hargs hK hZ hP hl => ?_)
  have hx := S.1
  have hb := S.2.1
  have hl : lv_has ls 2 [(0, .ref (ad 0)), (1, .ref (ad (30 + h)))] := hl
  refine lv_aload_n hx hb dX5_requireOpenVisit_0 rfl (lv_at hl 1 rfl) ?_
  refine gf S hK hP (22 + h) (cl_h (by omega)) fX5_155 (v := .int (nI v)) (ch_7 hr0) dX5_requireOpenVisit_1 ?_
  refine lv_iconst (v := (-1)) hx hb dX5_requireOpenVisit_4 (by decide) ?_
  refine lv_icmp_ne (tgt := 19) hx hb dX5_requireOpenVisit_5 (by decide) (fun b5 => ?_) (fun b5 => ?_)
  · skip
    refine lv_aload_n hx hb dX5_requireOpenVisit_19 rfl (lv_at hl 1 rfl) ?_
    refine gf S hK hP (22 + h) (cl_h (by omega)) fX5_162 (v := .int 0) (ch_8 ht) dX5_requireOpenVisit_20 ?_
    refine lv_if_eq (tgt := 37) hx hb dX5_requireOpenVisit_23 (by decide) (fun b23 => ?_) (fun b23 => ?_)
    · skip
      refine lv_aload_n hx hb dX5_requireOpenVisit_37 rfl (lv_at hl 0 rfl) ?_
      refine gf S hK hP 0 cl_0 fX5_31 (v := .ref (ad 8)) cfb_3 dX5_requireOpenVisit_38 ?_
      refine lv_aload_n hx hb dX5_requireOpenVisit_41 rfl (lv_at hl 1 rfl) ?_
      refine gf S hK hP (22 + h) (cl_h (by omega)) fX5_155 (v := .int (nI v)) (ch_7 hr0) dX5_requireOpenVisit_42 ?_
      refine cR S (cc_barred1_k l dg cA ad nh ni c v hv (c 9 v) rfl hf) kX5_284 ⟨rfl, rfl, Nat.le_of_ble_eq_true rfl, Nat.le_of_ble_eq_true rfl⟩ hK hP 8 cl_8 (q := (RX4, TX4, 5)) rfl rfl (As := [.int (nI v)]) rfl hl.1 (rest := []) rfl (Nat.le_of_ble_eq_true rfl) dX5_requireOpenVisit_45 ⟨Nat.le_of_ble_eq_true rfl, Nat.le_of_ble_eq_true rfl⟩ (st1 := [.int 1]) rfl ?_
      refine lv_if_eq (tgt := 62) hx hb dX5_requireOpenVisit_48 (by decide) (fun b48 => ?_) (fun b48 => ?_)
      · skip
        exact False.elim (by revert b48; decide)
      · skip
        exact thW (text := "the interviewer is barred") S hst hex hlk hZ hP x_ise (by decide) hl.1 dX5_requireOpenVisit_51 dX5_requireOpenVisit_54 dX5_requireOpenVisit_55 dX5_requireOpenVisit_58 dX5_requireOpenVisit_61 ⟨Nat.le_of_ble_eq_true rfl, Nat.le_of_ble_eq_true rfl, Nat.le_of_ble_eq_true rfl, Nat.le_of_ble_eq_true rfl⟩
    · skip
      exact False.elim (by revert b23; decide)
  · skip
    exact absurd b5 (nI_m1 (by omega))

set_option maxHeartbeats 4000000 in
set_option maxRecDepth 100000 in
theorem cx_hN (l : Launch) (dg : va_G) (cA : Nat → ClassId) (hst : l.stackTraces = false) (ad : Nat → Nat) (nh ni : Nat) (c : St) (hn : c 0 4 = nI nh) (hn24 : nh ≤ 24) (v : Int32) (hv : ¬ (¬ v < 0 ∧ v < nI nh)) : MetX l dg cA yX5_houseNumbered cX5_houseNumbered 2 (some (.object "Fieldbook$House")) ({ frames := 6, cells := 1, slots := 6, locals := 82 } : Room) (cw cA ad nh ni c) [.ref (ad 0), .int v] "java/lang/IndexOutOfBoundsException" := by
  refine ofX (by decide) (Nat.le_of_ble_eq_true rfl) (own := RX5) rfl (fun p e s0 m args below meth ccd ls S hlk hex hargs hK hZ hP hl => ?_)
  have hx := S.1
  have hb := S.2.1
  have hl : lv_has ls 2 [(0, .ref (ad 0)), (1, .int v)] := hl
  refine lv_iload_n hx hb dX5_houseNumbered_0 rfl (lv_at hl 1 rfl) ?_
  refine lv_if_lt (tgt := 15) hx hb dX5_houseNumbered_1 (by decide) (fun b1 => ?_) (fun b1 => ?_)
  · skip
    exact thW (text := "there is no such house") S hst hex hlk hZ hP x_ibe (by decide) hl.1 dX5_houseNumbered_15 dX5_houseNumbered_18 dX5_houseNumbered_19 dX5_houseNumbered_22 dX5_houseNumbered_25 ⟨Nat.le_of_ble_eq_true rfl, Nat.le_of_ble_eq_true rfl, Nat.le_of_ble_eq_true rfl, Nat.le_of_ble_eq_true rfl⟩
  · skip
    refine lv_iload_n hx hb dX5_houseNumbered_4 rfl (lv_at hl 1 rfl) ?_
    refine lv_aload_n hx hb dX5_houseNumbered_5 rfl (lv_at hl 0 rfl) ?_
    refine gf S hK hP 0 cl_0 fX5_10 (v := .ref (ad 1)) cfb_0 dX5_houseNumbered_6 ?_
    refine gf S hK hP 1 cl_1 fX5_81 (v := .int (nI nh)) (cfr_5 hn) dX5_houseNumbered_9 ?_
    refine lv_icmp_lt (tgt := 26) hx hb dX5_houseNumbered_12 (by decide) (fun b12 => ?_) (fun b12 => ?_)
    · skip
      exact absurd ⟨b1, b12⟩ hv
    · skip
      exact thW (text := "there is no such house") S hst hex hlk hZ hP x_ibe (by decide) hl.1 dX5_houseNumbered_15 dX5_houseNumbered_18 dX5_houseNumbered_19 dX5_houseNumbered_22 dX5_houseNumbered_25 ⟨Nat.le_of_ble_eq_true rfl, Nat.le_of_ble_eq_true rfl, Nat.le_of_ble_eq_true rfl, Nat.le_of_ble_eq_true rfl⟩

set_option maxHeartbeats 4000000 in
set_option maxRecDepth 100000 in
theorem cx_iN (l : Launch) (dg : va_G) (cA : Nat → ClassId) (hst : l.stackTraces = false) (ad : Nat → Nat) (nh ni : Nat) (c : St) (hni : c 0 0 = nI ni) (hni4 : ni ≤ 4) (v : Int32) (hv : ¬ (¬ v < 0 ∧ v < nI ni)) : MetX l dg cA yX5_interviewerNumbered cX5_interviewerNumbered 2 (some (.object "Fieldbook$Interviewer")) ({ frames := 7, cells := 1, slots := 6, locals := 103 } : Room) (cw cA ad nh ni c) [.ref (ad 0), .int v] "java/lang/IndexOutOfBoundsException" := by
  refine ofX (by decide) (Nat.le_of_ble_eq_true rfl) (own := RX5) rfl (fun p e s0 m args below meth ccd ls S hlk hex hargs hK hZ hP hl => ?_)
  have hx := S.1
  have hb := S.2.1
  have hl : lv_has ls 2 [(0, .ref (ad 0)), (1, .int v)] := hl
  refine lv_aload_n hx hb dX5_interviewerNumbered_0 rfl (lv_at hl 0 rfl) ?_
  refine lv_iload_n hx hb dX5_interviewerNumbered_1 rfl (lv_at hl 1 rfl) ?_
  exact cX S hex hlk (cx_rI l dg cA hst ad nh ni c hni hni4 v hv) kX5_217 ⟨rfl, rfl, Nat.le_of_ble_eq_true rfl, Nat.le_of_ble_eq_true rfl⟩ hK hZ hP 0 cl_0 (q := (RX5, TX5, 9)) rfl rfl (As := [.int v]) rfl hl.1 (rest := []) rfl (Nat.le_of_ble_eq_true rfl) dX5_interviewerNumbered_2 ⟨Nat.le_of_ble_eq_true rfl, Nat.le_of_ble_eq_true rfl⟩

set_option maxHeartbeats 4000000 in
set_option maxRecDepth 100000 in
theorem cx_rW (l : Launch) (dg : va_G) (cA : Nat → ClassId) (hst : l.stackTraces = false) (ad : Nat → Nat) (nh ni : Nat) (c : St) (hn : c 0 4 = nI nh) (hn24 : nh ≤ 24) (v : Int32) (hv : ¬ (¬ v < 0 ∧ v < nI nh)) : MetX l dg cA yX5_requireAnswered cX5_requireAnswered 2 none ({ frames := 7, cells := 1, slots := 6, locals := 103 } : Room) (cw cA ad nh ni c) [.ref (ad 0), .int v] "java/lang/IndexOutOfBoundsException" := by
  refine ofX (by decide) (Nat.le_of_ble_eq_true rfl) (own := RX5) rfl (fun p e s0 m args below meth ccd ls S hlk hex hargs hK hZ hP hl => ?_)
  have hx := S.1
  have hb := S.2.1
  have hl : lv_has ls 2 [(0, .ref (ad 0)), (1, .int v)] := hl
  refine lv_aload_n hx hb dX5_requireAnswered_0 rfl (lv_at hl 0 rfl) ?_
  refine lv_iload_n hx hb dX5_requireAnswered_1 rfl (lv_at hl 1 rfl) ?_
  exact cX S hex hlk (cx_hN l dg cA hst ad nh ni c hn hn24 v hv) kX5_140 ⟨rfl, rfl, Nat.le_of_ble_eq_true rfl, Nat.le_of_ble_eq_true rfl⟩ hK hZ hP 0 cl_0 (q := (RX5, TX5, 9)) rfl rfl (As := [.int v]) rfl hl.1 (rest := []) rfl (Nat.le_of_ble_eq_true rfl) dX5_requireAnswered_2 ⟨Nat.le_of_ble_eq_true rfl, Nat.le_of_ble_eq_true rfl⟩

set_option maxHeartbeats 4000000 in
set_option maxRecDepth 100000 in
theorem cx_setChance (l : Launch) (dg : va_G) (cA : Nat → ClassId) (hst : l.stackTraces = false) (ad : Nat → Nat) (nh ni : Nat) (c : St) (v : Int32) (hv : ¬ (¬ v < 0 ∧ v < 65536)) : MetX l dg cA yX5_setChance cX5_setChance 3 (some .int) ({ frames := 6, cells := 1, slots := 6, locals := 82 } : Room) (cw cA ad nh ni c) [.ref (ad 0), .int v] "java/lang/IllegalArgumentException" := by
  refine ofX (by decide) (Nat.le_of_ble_eq_true rfl) (own := RX5) rfl (fun p e s0 m args below meth ccd ls S hlk hex hargs hK hZ hP hl => ?_)
  have hx := S.1
  have hb := S.2.1
  have hl : lv_has ls 3 [(0, .ref (ad 0)), (1, .int v)] := hl
  refine lv_iload_n hx hb dX5_setChance_0 rfl (lv_at hl 1 rfl) ?_
  refine lv_if_lt (tgt := 10) hx hb dX5_setChance_1 (by decide) (fun b1 => ?_) (fun b1 => ?_)
  · skip
    exact thS (text := "the chance number is out of range") S hst hex hlk hZ hP x_iae (by decide) hl.1 dX5_setChance_10 dX5_setChance_13 dX5_setChance_14 dX5_setChance_16 dX5_setChance_19 ⟨Nat.le_of_ble_eq_true rfl, Nat.le_of_ble_eq_true rfl, Nat.le_of_ble_eq_true rfl, Nat.le_of_ble_eq_true rfl⟩
  · skip
    refine lv_iload_n hx hb dX5_setChance_4 rfl (lv_at hl 1 rfl) ?_
    refine lv_ldc (v := 65536) hx hb S.2.2.2.1 (S.2.2.2.2 _ (gW_mem 266 (by decide +kernel) (by decide +kernel))) dX5_setChance_5 ?_
    refine lv_icmp_lt (tgt := 20) hx hb dX5_setChance_7 (by decide) (fun b7 => ?_) (fun b7 => ?_)
    · skip
      exact absurd ⟨b1, b7⟩ hv
    · skip
      exact thS (text := "the chance number is out of range") S hst hex hlk hZ hP x_iae (by decide) hl.1 dX5_setChance_10 dX5_setChance_13 dX5_setChance_14 dX5_setChance_16 dX5_setChance_19 ⟨Nat.le_of_ble_eq_true rfl, Nat.le_of_ble_eq_true rfl, Nat.le_of_ble_eq_true rfl, Nat.le_of_ble_eq_true rfl⟩

set_option maxHeartbeats 4000000 in
set_option maxRecDepth 100000 in
theorem cx_addStratum (l : Launch) (dg : va_G) (cA : Nat → ClassId) (hst : l.stackTraces = false) (ad : Nat → Nat) (nh ni : Nat) (c : St) (ns : Nat) (hns : c 0 3 = nI ns) (hns4 : ns ≤ 4) (h4 : ¬ ns < 4) : MetX l dg cA yX5_addStratum cX5_addStratum 2 (some .int) ({ frames := 6, cells := 1, slots := 6, locals := 82 } : Room) (cw cA ad nh ni c) [.ref (ad 0)] "java/lang/IllegalStateException" := by
  refine ofX (by decide) (Nat.le_of_ble_eq_true rfl) (own := RX5) rfl (fun p e s0 m args below meth ccd ls S hlk hex hargs hK hZ hP hl => ?_)
  have hx := S.1
  have hb := S.2.1
  have hl : lv_has ls 2 [(0, .ref (ad 0))] := hl
  refine lv_aload_n hx hb dX5_addStratum_0 rfl (lv_at hl 0 rfl) ?_
  refine gf S hK hP 0 cl_0 fX5_10 (v := .ref (ad 1)) cfb_0 dX5_addStratum_1 ?_
  refine gf S hK hP 1 cl_1 fX5_63 (v := .int (nI ns)) (cfr_4 hns) dX5_addStratum_4 ?_
  refine lv_iconst (v := 4) hx hb dX5_addStratum_7 (by decide) ?_
  refine lv_icmp_lt (tgt := 21) hx hb dX5_addStratum_8 (by decide) (fun b8 => ?_) (fun b8 => ?_)
  · skip
    have g8 : ns < 4 := (nI_ltI (a := ns) (b := 4) (by omega) (by omega)).mp b8
    exact absurd g8 h4
  · skip
    have g8 : ¬ ns < 4 := fun zz => b8 ((nI_ltI (a := ns) (b := 4) (by omega) (by omega)).mpr zz)
    exact thS (text := "there are 4 strata") S hst hex hlk hZ hP x_ise (by decide) hl.1 dX5_addStratum_11 dX5_addStratum_14 dX5_addStratum_15 dX5_addStratum_17 dX5_addStratum_20 ⟨Nat.le_of_ble_eq_true rfl, Nat.le_of_ble_eq_true rfl, Nat.le_of_ble_eq_true rfl, Nat.le_of_ble_eq_true rfl⟩

set_option maxHeartbeats 4000000 in
set_option maxRecDepth 100000 in
theorem cx_addHouse1 (l : Launch) (dg : va_G) (cA : Nat → ClassId) (hst : l.stackTraces = false) (ad : Nat → Nat) (nh ni : Nat) (c : St) (ns : Nat) (hns : c 0 3 = nI ns) (hns4 : ns ≤ 4) (v : Int32) (hv : ¬ (¬ v < 0 ∧ v < nI ns)) (x y : Int32) : MetX l dg cA yX5_addHouse cX5_addHouse 5 (some .int) ({ frames := 7, cells := 1, slots := 6, locals := 103 } : Room) (cw cA ad nh ni c) [.ref (ad 0), .int v, .int x, .int y] "java/lang/IndexOutOfBoundsException" := by
  refine ofX (by decide) (Nat.le_of_ble_eq_true rfl) (own := RX5) rfl (fun p e s0 m args below meth ccd ls S hlk hex hargs hK hZ hP hl => ?_)
  have hx := S.1
  have hb := S.2.1
  have hl : lv_has ls 5 [(0, .ref (ad 0)), (1, .int v), (2, .int x), (3, .int y)] := hl
  refine lv_aload_n hx hb dX5_addHouse_0 rfl (lv_at hl 0 rfl) ?_
  refine lv_iload_n hx hb dX5_addHouse_1 rfl (lv_at hl 1 rfl) ?_
  exact cX S hex hlk (cx_rS l dg cA hst ad nh ni c ns hns hns4 v hv) kX5_71 ⟨rfl, rfl, Nat.le_of_ble_eq_true rfl, Nat.le_of_ble_eq_true rfl⟩ hK hZ hP 0 cl_0 (q := (RX5, TX5, 9)) rfl rfl (As := [.int v]) rfl hl.1 (rest := []) rfl (Nat.le_of_ble_eq_true rfl) dX5_addHouse_2 ⟨Nat.le_of_ble_eq_true rfl, Nat.le_of_ble_eq_true rfl⟩

set_option maxHeartbeats 4000000 in
set_option maxRecDepth 100000 in
theorem cx_addHouse2 (l : Launch) (dg : va_G) (cA : Nat → ClassId) (hst : l.stackTraces = false) (ad : Nat → Nat) (nh ni : Nat) (c : St) (ns : Nat) (hns : c 0 3 = nI ns) (hns4 : ns ≤ 4) (js : Nat) (hjs : js < ns) (v : Int32) (hv : ¬ (¬ v < 0 ∧ ¬ 99 < v)) (y : Int32) : MetX l dg cA yX5_addHouse cX5_addHouse 5 (some .int) ({ frames := 7, cells := 1, slots := 6, locals := 103 } : Room) (cw cA ad nh ni c) [.ref (ad 0), .int (nI js), .int v, .int y] "java/lang/IllegalArgumentException" := by
  refine ofX (by decide) (Nat.le_of_ble_eq_true rfl) (own := RX5) rfl (fun p e s0 m args below meth ccd ls S hlk hex hargs hK hZ hP hl => ?_)
  have hx := S.1
  have hb := S.2.1
  have hl : lv_has ls 5 [(0, .ref (ad 0)), (1, .int (nI js)), (2, .int v), (3, .int y)] := hl
  refine lv_aload_n hx hb dX5_addHouse_0 rfl (lv_at hl 0 rfl) ?_
  refine lv_iload_n hx hb dX5_addHouse_1 rfl (lv_at hl 1 rfl) ?_
  refine cR S (cc_rS l dg cA ad nh ni c ns hns hns4 js hjs) kX5_71 ⟨rfl, rfl, Nat.le_of_ble_eq_true rfl, Nat.le_of_ble_eq_true rfl⟩ hK hP 0 cl_0 (q := (RX5, TX5, 9)) rfl rfl (As := [.int (nI js)]) rfl hl.1 (rest := []) rfl (Nat.le_of_ble_eq_true rfl) dX5_addHouse_2 ⟨Nat.le_of_ble_eq_true rfl, Nat.le_of_ble_eq_true rfl⟩ (st1 := []) rfl ?_
  refine lv_aload_n hx hb dX5_addHouse_5 rfl (lv_at hl 0 rfl) ?_
  refine lv_iload_n hx hb dX5_addHouse_6 rfl (lv_at hl 2 rfl) ?_
  exact cX S hex hlk (cx_rP l dg cA hst ad nh ni c v hv) kX5_75 ⟨rfl, rfl, Nat.le_of_ble_eq_true rfl, Nat.le_of_ble_eq_true rfl⟩ hK hZ hP 0 cl_0 (q := (RX5, TX5, 9)) rfl rfl (As := [.int v]) rfl hl.1 (rest := []) rfl (Nat.le_of_ble_eq_true rfl) dX5_addHouse_7 ⟨Nat.le_of_ble_eq_true rfl, Nat.le_of_ble_eq_true rfl⟩

set_option maxHeartbeats 4000000 in
set_option maxRecDepth 100000 in
theorem cx_addHouse3 (l : Launch) (dg : va_G) (cA : Nat → ClassId) (hst : l.stackTraces = false) (ad : Nat → Nat) (nh ni : Nat) (c : St) (ns : Nat) (hns : c 0 3 = nI ns) (hns4 : ns ≤ 4) (js : Nat) (hjs : js < ns) (pl : Nat) (hp : pl < 100) (v : Int32) (hv : ¬ (¬ v < 0 ∧ ¬ 2 < v)) : MetX l dg cA yX5_addHouse cX5_addHouse 5 (some .int) ({ frames := 7, cells := 1, slots := 6, locals := 103 } : Room) (cw cA ad nh ni c) [.ref (ad 0), .int (nI js), .int (nI pl), .int v] "java/lang/IllegalArgumentException" := by
  refine ofX (by decide) (Nat.le_of_ble_eq_true rfl) (own := RX5) rfl (fun p e s0 m args below meth ccd ls S hlk hex hargs hK hZ hP hl => ?_)
  have hx := S.1
  have hb := S.2.1
  have hl : lv_has ls 5 [(0, .ref (ad 0)), (1, .int (nI js)), (2, .int (nI pl)), (3, .int v)] := hl
  refine lv_aload_n hx hb dX5_addHouse_0 rfl (lv_at hl 0 rfl) ?_
  refine lv_iload_n hx hb dX5_addHouse_1 rfl (lv_at hl 1 rfl) ?_
  refine cR S (cc_rS l dg cA ad nh ni c ns hns hns4 js hjs) kX5_71 ⟨rfl, rfl, Nat.le_of_ble_eq_true rfl, Nat.le_of_ble_eq_true rfl⟩ hK hP 0 cl_0 (q := (RX5, TX5, 9)) rfl rfl (As := [.int (nI js)]) rfl hl.1 (rest := []) rfl (Nat.le_of_ble_eq_true rfl) dX5_addHouse_2 ⟨Nat.le_of_ble_eq_true rfl, Nat.le_of_ble_eq_true rfl⟩ (st1 := []) rfl ?_
  refine lv_aload_n hx hb dX5_addHouse_5 rfl (lv_at hl 0 rfl) ?_
  refine lv_iload_n hx hb dX5_addHouse_6 rfl (lv_at hl 2 rfl) ?_
  refine cR S (cc_rP l dg cA ad nh ni c (nI pl) (p99 hp).1 (p99 hp).2) kX5_75 ⟨rfl, rfl, Nat.le_of_ble_eq_true rfl, Nat.le_of_ble_eq_true rfl⟩ hK hP 0 cl_0 (q := (RX5, TX5, 9)) rfl rfl (As := [.int (nI pl)]) rfl hl.1 (rest := []) rfl (Nat.le_of_ble_eq_true rfl) dX5_addHouse_7 ⟨Nat.le_of_ble_eq_true rfl, Nat.le_of_ble_eq_true rfl⟩ (st1 := []) rfl ?_
  refine lv_aload_n hx hb dX5_addHouse_10 rfl (lv_at hl 0 rfl) ?_
  refine lv_iload_n hx hb dX5_addHouse_11 rfl (lv_at hl 3 rfl) ?_
  exact cX S hex hlk (cx_rL l dg cA hst ad nh ni c v hv) kX5_78 ⟨rfl, rfl, Nat.le_of_ble_eq_true rfl, Nat.le_of_ble_eq_true rfl⟩ hK hZ hP 0 cl_0 (q := (RX5, TX5, 9)) rfl rfl (As := [.int v]) rfl hl.1 (rest := []) rfl (Nat.le_of_ble_eq_true rfl) dX5_addHouse_12 ⟨Nat.le_of_ble_eq_true rfl, Nat.le_of_ble_eq_true rfl⟩

set_option maxHeartbeats 4000000 in
set_option maxRecDepth 100000 in
theorem cx_addHouse4 (l : Launch) (dg : va_G) (cA : Nat → ClassId) (hst : l.stackTraces = false) (ad : Nat → Nat) (nh ni : Nat) (c : St) (hn : c 0 4 = nI nh) (hn24 : nh ≤ 24) (ns : Nat) (hns : c 0 3 = nI ns) (hns4 : ns ≤ 4) (js : Nat) (hjs : js < ns) (pl : Nat) (hp : pl < 100) (g3 : Nat) (hg3 : g3 < 3) (h24 : ¬ nh < 24) : MetX l dg cA yX5_addHouse cX5_addHouse 5 (some .int) ({ frames := 6, cells := 1, slots := 6, locals := 82 } : Room) (cw cA ad nh ni c) [.ref (ad 0), .int (nI js), .int (nI pl), .int (nI g3)] "java/lang/IllegalStateException" := by
  refine ofX (by decide) (Nat.le_of_ble_eq_true rfl) (own := RX5) rfl (fun p e s0 m args below meth ccd ls S hlk hex hargs hK hZ hP hl => ?_)
  have hx := S.1
  have hb := S.2.1
  have hl : lv_has ls 5 [(0, .ref (ad 0)), (1, .int (nI js)), (2, .int (nI pl)), (3, .int (nI g3))] := hl
  refine lv_aload_n hx hb dX5_addHouse_0 rfl (lv_at hl 0 rfl) ?_
  refine lv_iload_n hx hb dX5_addHouse_1 rfl (lv_at hl 1 rfl) ?_
  refine cR S (cc_rS l dg cA ad nh ni c ns hns hns4 js hjs) kX5_71 ⟨rfl, rfl, Nat.le_of_ble_eq_true rfl, Nat.le_of_ble_eq_true rfl⟩ hK hP 0 cl_0 (q := (RX5, TX5, 9)) rfl rfl (As := [.int (nI js)]) rfl hl.1 (rest := []) rfl (Nat.le_of_ble_eq_true rfl) dX5_addHouse_2 ⟨Nat.le_of_ble_eq_true rfl, Nat.le_of_ble_eq_true rfl⟩ (st1 := []) rfl ?_
  refine lv_aload_n hx hb dX5_addHouse_5 rfl (lv_at hl 0 rfl) ?_
  refine lv_iload_n hx hb dX5_addHouse_6 rfl (lv_at hl 2 rfl) ?_
  refine cR S (cc_rP l dg cA ad nh ni c (nI pl) (p99 hp).1 (p99 hp).2) kX5_75 ⟨rfl, rfl, Nat.le_of_ble_eq_true rfl, Nat.le_of_ble_eq_true rfl⟩ hK hP 0 cl_0 (q := (RX5, TX5, 9)) rfl rfl (As := [.int (nI pl)]) rfl hl.1 (rest := []) rfl (Nat.le_of_ble_eq_true rfl) dX5_addHouse_7 ⟨Nat.le_of_ble_eq_true rfl, Nat.le_of_ble_eq_true rfl⟩ (st1 := []) rfl ?_
  refine lv_aload_n hx hb dX5_addHouse_10 rfl (lv_at hl 0 rfl) ?_
  refine lv_iload_n hx hb dX5_addHouse_11 rfl (lv_at hl 3 rfl) ?_
  refine cR S (cc_rL l dg cA ad nh ni c (nI g3) (l3 hg3).1 (l3 hg3).2) kX5_78 ⟨rfl, rfl, Nat.le_of_ble_eq_true rfl, Nat.le_of_ble_eq_true rfl⟩ hK hP 0 cl_0 (q := (RX5, TX5, 9)) rfl rfl (As := [.int (nI g3)]) rfl hl.1 (rest := []) rfl (Nat.le_of_ble_eq_true rfl) dX5_addHouse_12 ⟨Nat.le_of_ble_eq_true rfl, Nat.le_of_ble_eq_true rfl⟩ (st1 := []) rfl ?_
  refine lv_aload_n hx hb dX5_addHouse_15 rfl (lv_at hl 0 rfl) ?_
  refine gf S hK hP 0 cl_0 fX5_10 (v := .ref (ad 1)) cfb_0 dX5_addHouse_16 ?_
  refine gf S hK hP 1 cl_1 fX5_81 (v := .int (nI nh)) (cfr_5 hn) dX5_addHouse_19 ?_
  refine lv_bipush (v := 24) hx hb dX5_addHouse_22 (by decide) ?_
  refine lv_icmp_lt (tgt := 37) hx hb dX5_addHouse_24 (by decide) (fun b24 => ?_) (fun b24 => ?_)
  · skip
    have g24 : nh < 24 := (nI_ltI (a := nh) (b := 24) (by omega) (by omega)).mp b24
    exact absurd g24 h24
  · skip
    have g24 : ¬ nh < 24 := fun zz => b24 ((nI_ltI (a := nh) (b := 24) (by omega) (by omega)).mpr zz)
    exact thS (text := "there are 24 houses") S hst hex hlk hZ hP x_ise (by decide) hl.1 dX5_addHouse_27 dX5_addHouse_30 dX5_addHouse_31 dX5_addHouse_33 dX5_addHouse_36 ⟨Nat.le_of_ble_eq_true rfl, Nat.le_of_ble_eq_true rfl, Nat.le_of_ble_eq_true rfl, Nat.le_of_ble_eq_true rfl⟩

set_option maxHeartbeats 4000000 in
set_option maxRecDepth 100000 in
theorem cx_addInt1 (l : Launch) (dg : va_G) (cA : Nat → ClassId) (hst : l.stackTraces = false) (ad : Nat → Nat) (nh ni : Nat) (c : St) (v : Int32) (hv : ¬ (¬ v < 0 ∧ ¬ 99 < v)) (x y : Int32) : MetX l dg cA yX5_addInterviewer cX5_addInterviewer 5 (some .int) ({ frames := 7, cells := 1, slots := 6, locals := 103 } : Room) (cw cA ad nh ni c) [.ref (ad 0), .int v, .int x, .int y] "java/lang/IllegalArgumentException" := by
  refine ofX (by decide) (Nat.le_of_ble_eq_true rfl) (own := RX5) rfl (fun p e s0 m args below meth ccd ls S hlk hex hargs hK hZ hP hl => ?_)
  have hx := S.1
  have hb := S.2.1
  have hl : lv_has ls 5 [(0, .ref (ad 0)), (1, .int v), (2, .int x), (3, .int y)] := hl
  refine lv_aload_n hx hb dX5_addInterviewer_0 rfl (lv_at hl 0 rfl) ?_
  refine lv_iload_n hx hb dX5_addInterviewer_1 rfl (lv_at hl 1 rfl) ?_
  exact cX S hex hlk (cx_rP l dg cA hst ad nh ni c v hv) kX5_75 ⟨rfl, rfl, Nat.le_of_ble_eq_true rfl, Nat.le_of_ble_eq_true rfl⟩ hK hZ hP 0 cl_0 (q := (RX5, TX5, 9)) rfl rfl (As := [.int v]) rfl hl.1 (rest := []) rfl (Nat.le_of_ble_eq_true rfl) dX5_addInterviewer_2 ⟨Nat.le_of_ble_eq_true rfl, Nat.le_of_ble_eq_true rfl⟩

set_option maxHeartbeats 4000000 in
set_option maxRecDepth 100000 in
theorem cx_addInt2 (l : Launch) (dg : va_G) (cA : Nat → ClassId) (hst : l.stackTraces = false) (ad : Nat → Nat) (nh ni : Nat) (c : St) (pl : Nat) (hp : pl < 100) (v y : Int32) (hv : ¬ (¬ v < 1 ∧ ¬ 7 < v)) : MetX l dg cA yX5_addInterviewer cX5_addInterviewer 5 (some .int) ({ frames := 6, cells := 1, slots := 6, locals := 82 } : Room) (cw cA ad nh ni c) [.ref (ad 0), .int (nI pl), .int v, .int y] "java/lang/IllegalArgumentException" := by
  refine ofX (by decide) (Nat.le_of_ble_eq_true rfl) (own := RX5) rfl (fun p e s0 m args below meth ccd ls S hlk hex hargs hK hZ hP hl => ?_)
  have hx := S.1
  have hb := S.2.1
  have hl : lv_has ls 5 [(0, .ref (ad 0)), (1, .int (nI pl)), (2, .int v), (3, .int y)] := hl
  refine lv_aload_n hx hb dX5_addInterviewer_0 rfl (lv_at hl 0 rfl) ?_
  refine lv_iload_n hx hb dX5_addInterviewer_1 rfl (lv_at hl 1 rfl) ?_
  refine cR S (cc_rP l dg cA ad nh ni c (nI pl) (p99 hp).1 (p99 hp).2) kX5_75 ⟨rfl, rfl, Nat.le_of_ble_eq_true rfl, Nat.le_of_ble_eq_true rfl⟩ hK hP 0 cl_0 (q := (RX5, TX5, 9)) rfl rfl (As := [.int (nI pl)]) rfl hl.1 (rest := []) rfl (Nat.le_of_ble_eq_true rfl) dX5_addInterviewer_2 ⟨Nat.le_of_ble_eq_true rfl, Nat.le_of_ble_eq_true rfl⟩ (st1 := []) rfl ?_
  refine lv_iload_n hx hb dX5_addInterviewer_5 rfl (lv_at hl 2 rfl) ?_
  refine lv_iconst (v := 1) hx hb dX5_addInterviewer_6 (by decide) ?_
  refine lv_icmp_lt (tgt := 16) hx hb dX5_addInterviewer_7 (by decide) (fun b7 => ?_) (fun b7 => ?_)
  · skip
    exact thS (text := "the set of languages is out of range") S hst hex hlk hZ hP x_iae (by decide) hl.1 dX5_addInterviewer_16 dX5_addInterviewer_19 dX5_addInterviewer_20 dX5_addInterviewer_22 dX5_addInterviewer_25 ⟨Nat.le_of_ble_eq_true rfl, Nat.le_of_ble_eq_true rfl, Nat.le_of_ble_eq_true rfl, Nat.le_of_ble_eq_true rfl⟩
  · skip
    refine lv_iload_n hx hb dX5_addInterviewer_10 rfl (lv_at hl 2 rfl) ?_
    refine lv_bipush (v := 7) hx hb dX5_addInterviewer_11 (by decide) ?_
    refine lv_icmp_le (tgt := 26) hx hb dX5_addInterviewer_13 (by decide) (fun b13 => ?_) (fun b13 => ?_)
    · skip
      exact absurd ⟨b7, Int32.not_lt.mpr b13⟩ hv
    · skip
      exact thS (text := "the set of languages is out of range") S hst hex hlk hZ hP x_iae (by decide) hl.1 dX5_addInterviewer_16 dX5_addInterviewer_19 dX5_addInterviewer_20 dX5_addInterviewer_22 dX5_addInterviewer_25 ⟨Nat.le_of_ble_eq_true rfl, Nat.le_of_ble_eq_true rfl, Nat.le_of_ble_eq_true rfl, Nat.le_of_ble_eq_true rfl⟩

set_option maxHeartbeats 4000000 in
set_option maxRecDepth 100000 in
theorem cx_addInt3 (l : Launch) (dg : va_G) (cA : Nat → ClassId) (hst : l.stackTraces = false) (ad : Nat → Nat) (nh ni : Nat) (c : St) (pl : Nat) (hp : pl < 100) (x : Int32) (h71 : ¬ x < 1) (h72 : ¬ 7 < x) (v : Int32) (hv : ¬ (¬ v < 30 ∧ ¬ 600 < v)) : MetX l dg cA yX5_addInterviewer cX5_addInterviewer 5 (some .int) ({ frames := 6, cells := 1, slots := 6, locals := 82 } : Room) (cw cA ad nh ni c) [.ref (ad 0), .int (nI pl), .int x, .int v] "java/lang/IllegalArgumentException" := by
  refine ofX (by decide) (Nat.le_of_ble_eq_true rfl) (own := RX5) rfl (fun p e s0 m args below meth ccd ls S hlk hex hargs hK hZ hP hl => ?_)
  have hx := S.1
  have hb := S.2.1
  have hl : lv_has ls 5 [(0, .ref (ad 0)), (1, .int (nI pl)), (2, .int x), (3, .int v)] := hl
  refine lv_aload_n hx hb dX5_addInterviewer_0 rfl (lv_at hl 0 rfl) ?_
  refine lv_iload_n hx hb dX5_addInterviewer_1 rfl (lv_at hl 1 rfl) ?_
  refine cR S (cc_rP l dg cA ad nh ni c (nI pl) (p99 hp).1 (p99 hp).2) kX5_75 ⟨rfl, rfl, Nat.le_of_ble_eq_true rfl, Nat.le_of_ble_eq_true rfl⟩ hK hP 0 cl_0 (q := (RX5, TX5, 9)) rfl rfl (As := [.int (nI pl)]) rfl hl.1 (rest := []) rfl (Nat.le_of_ble_eq_true rfl) dX5_addInterviewer_2 ⟨Nat.le_of_ble_eq_true rfl, Nat.le_of_ble_eq_true rfl⟩ (st1 := []) rfl ?_
  refine lv_iload_n hx hb dX5_addInterviewer_5 rfl (lv_at hl 2 rfl) ?_
  refine lv_iconst (v := 1) hx hb dX5_addInterviewer_6 (by decide) ?_
  refine lv_icmp_lt (tgt := 16) hx hb dX5_addInterviewer_7 (by decide) (fun b7 => ?_) (fun b7 => ?_)
  · skip
    exact absurd b7 h71
  · skip
    refine lv_iload_n hx hb dX5_addInterviewer_10 rfl (lv_at hl 2 rfl) ?_
    refine lv_bipush (v := 7) hx hb dX5_addInterviewer_11 (by decide) ?_
    refine lv_icmp_le (tgt := 26) hx hb dX5_addInterviewer_13 (by decide) (fun b13 => ?_) (fun b13 => ?_)
    · skip
      refine lv_iload_n hx hb dX5_addInterviewer_26 rfl (lv_at hl 3 rfl) ?_
      refine lv_bipush (v := 30) hx hb dX5_addInterviewer_27 (by decide) ?_
      refine lv_icmp_lt (tgt := 39) hx hb dX5_addInterviewer_29 (by decide) (fun b29 => ?_) (fun b29 => ?_)
      · skip
        exact thS (text := "the minutes are out of range") S hst hex hlk hZ hP x_iae (by decide) hl.1 dX5_addInterviewer_39 dX5_addInterviewer_42 dX5_addInterviewer_43 dX5_addInterviewer_45 dX5_addInterviewer_48 ⟨Nat.le_of_ble_eq_true rfl, Nat.le_of_ble_eq_true rfl, Nat.le_of_ble_eq_true rfl, Nat.le_of_ble_eq_true rfl⟩
      · skip
        refine lv_iload_n hx hb dX5_addInterviewer_32 rfl (lv_at hl 3 rfl) ?_
        refine lv_sipush (v := 600) hx hb dX5_addInterviewer_33 (by decide) ?_
        refine lv_icmp_le (tgt := 49) hx hb dX5_addInterviewer_36 (by decide) (fun b36 => ?_) (fun b36 => ?_)
        · skip
          exact absurd ⟨b29, Int32.not_lt.mpr b36⟩ hv
        · skip
          exact thS (text := "the minutes are out of range") S hst hex hlk hZ hP x_iae (by decide) hl.1 dX5_addInterviewer_39 dX5_addInterviewer_42 dX5_addInterviewer_43 dX5_addInterviewer_45 dX5_addInterviewer_48 ⟨Nat.le_of_ble_eq_true rfl, Nat.le_of_ble_eq_true rfl, Nat.le_of_ble_eq_true rfl, Nat.le_of_ble_eq_true rfl⟩
    · skip
      exact absurd (Int32.not_le.mp b13) h72

set_option maxHeartbeats 4000000 in
set_option maxRecDepth 100000 in
theorem cx_addInt4 (l : Launch) (dg : va_G) (cA : Nat → ClassId) (hst : l.stackTraces = false) (ad : Nat → Nat) (nh ni : Nat) (c : St) (hni : c 0 0 = nI ni) (hni4 : ni ≤ 4) (pl : Nat) (hp : pl < 100) (x : Int32) (h71 : ¬ x < 1) (h72 : ¬ 7 < x) (y : Int32) (h61 : ¬ y < 30) (h62 : ¬ 600 < y) (h4 : ¬ ni < 4) : MetX l dg cA yX5_addInterviewer cX5_addInterviewer 5 (some .int) ({ frames := 6, cells := 1, slots := 6, locals := 82 } : Room) (cw cA ad nh ni c) [.ref (ad 0), .int (nI pl), .int x, .int y] "java/lang/IllegalStateException" := by
  refine ofX (by decide) (Nat.le_of_ble_eq_true rfl) (own := RX5) rfl (fun p e s0 m args below meth ccd ls S hlk hex hargs hK hZ hP hl => ?_)
  have hx := S.1
  have hb := S.2.1
  have hl : lv_has ls 5 [(0, .ref (ad 0)), (1, .int (nI pl)), (2, .int x), (3, .int y)] := hl
  refine lv_aload_n hx hb dX5_addInterviewer_0 rfl (lv_at hl 0 rfl) ?_
  refine lv_iload_n hx hb dX5_addInterviewer_1 rfl (lv_at hl 1 rfl) ?_
  refine cR S (cc_rP l dg cA ad nh ni c (nI pl) (p99 hp).1 (p99 hp).2) kX5_75 ⟨rfl, rfl, Nat.le_of_ble_eq_true rfl, Nat.le_of_ble_eq_true rfl⟩ hK hP 0 cl_0 (q := (RX5, TX5, 9)) rfl rfl (As := [.int (nI pl)]) rfl hl.1 (rest := []) rfl (Nat.le_of_ble_eq_true rfl) dX5_addInterviewer_2 ⟨Nat.le_of_ble_eq_true rfl, Nat.le_of_ble_eq_true rfl⟩ (st1 := []) rfl ?_
  refine lv_iload_n hx hb dX5_addInterviewer_5 rfl (lv_at hl 2 rfl) ?_
  refine lv_iconst (v := 1) hx hb dX5_addInterviewer_6 (by decide) ?_
  refine lv_icmp_lt (tgt := 16) hx hb dX5_addInterviewer_7 (by decide) (fun b7 => ?_) (fun b7 => ?_)
  · skip
    exact absurd b7 h71
  · skip
    refine lv_iload_n hx hb dX5_addInterviewer_10 rfl (lv_at hl 2 rfl) ?_
    refine lv_bipush (v := 7) hx hb dX5_addInterviewer_11 (by decide) ?_
    refine lv_icmp_le (tgt := 26) hx hb dX5_addInterviewer_13 (by decide) (fun b13 => ?_) (fun b13 => ?_)
    · skip
      refine lv_iload_n hx hb dX5_addInterviewer_26 rfl (lv_at hl 3 rfl) ?_
      refine lv_bipush (v := 30) hx hb dX5_addInterviewer_27 (by decide) ?_
      refine lv_icmp_lt (tgt := 39) hx hb dX5_addInterviewer_29 (by decide) (fun b29 => ?_) (fun b29 => ?_)
      · skip
        exact absurd b29 h61
      · skip
        refine lv_iload_n hx hb dX5_addInterviewer_32 rfl (lv_at hl 3 rfl) ?_
        refine lv_sipush (v := 600) hx hb dX5_addInterviewer_33 (by decide) ?_
        refine lv_icmp_le (tgt := 49) hx hb dX5_addInterviewer_36 (by decide) (fun b36 => ?_) (fun b36 => ?_)
        · skip
          refine lv_aload_n hx hb dX5_addInterviewer_49 rfl (lv_at hl 0 rfl) ?_
          refine gf S hK hP 0 cl_0 fX5_45 (v := .int (nI ni)) (cfb_6 hni) dX5_addInterviewer_50 ?_
          refine lv_iconst (v := 4) hx hb dX5_addInterviewer_53 (by decide) ?_
          refine lv_icmp_lt (tgt := 67) hx hb dX5_addInterviewer_54 (by decide) (fun b54 => ?_) (fun b54 => ?_)
          · skip
            have g54 : ni < 4 := (nI_ltI (a := ni) (b := 4) (by omega) (by omega)).mp b54
            exact absurd g54 h4
          · skip
            have g54 : ¬ ni < 4 := fun zz => b54 ((nI_ltI (a := ni) (b := 4) (by omega) (by omega)).mpr zz)
            exact thS (text := "there are 4 interviewers") S hst hex hlk hZ hP x_ise (by decide) hl.1 dX5_addInterviewer_57 dX5_addInterviewer_60 dX5_addInterviewer_61 dX5_addInterviewer_63 dX5_addInterviewer_66 ⟨Nat.le_of_ble_eq_true rfl, Nat.le_of_ble_eq_true rfl, Nat.le_of_ble_eq_true rfl, Nat.le_of_ble_eq_true rfl⟩
        · skip
          exact absurd (Int32.not_le.mp b36) h62
    · skip
      exact absurd (Int32.not_le.mp b13) h72

set_option maxHeartbeats 4000000 in
set_option maxRecDepth 100000 in
theorem cx_draw1 (l : Launch) (dg : va_G) (cA : Nat → ClassId) (hst : l.stackTraces = false) (ad : Nat → Nat) (nh ni : Nat) (c : St) (ns : Nat) (hns : c 0 3 = nI ns) (hns4 : ns ≤ 4) (v : Int32) (hv : ¬ (¬ v < 0 ∧ v < nI ns)) (y : Int32) : MetX l dg cA yX5_draw cX5_draw 5 (some .int) ({ frames := 7, cells := 1, slots := 6, locals := 103 } : Room) (cw cA ad nh ni c) [.ref (ad 0), .int v, .int y] "java/lang/IndexOutOfBoundsException" := by
  refine ofX (by decide) (Nat.le_of_ble_eq_true rfl) (own := RX5) rfl (fun p e s0 m args below meth ccd ls S hlk hex hargs hK hZ hP hl => ?_)
  have hx := S.1
  have hb := S.2.1
  have hl : lv_has ls 5 [(0, .ref (ad 0)), (1, .int v), (2, .int y)] := hl
  refine lv_aload_n hx hb dX5_draw_0 rfl (lv_at hl 0 rfl) ?_
  refine lv_iload_n hx hb dX5_draw_1 rfl (lv_at hl 1 rfl) ?_
  exact cX S hex hlk (cx_rS l dg cA hst ad nh ni c ns hns hns4 v hv) kX5_71 ⟨rfl, rfl, Nat.le_of_ble_eq_true rfl, Nat.le_of_ble_eq_true rfl⟩ hK hZ hP 0 cl_0 (q := (RX5, TX5, 9)) rfl rfl (As := [.int v]) rfl hl.1 (rest := []) rfl (Nat.le_of_ble_eq_true rfl) dX5_draw_2 ⟨Nat.le_of_ble_eq_true rfl, Nat.le_of_ble_eq_true rfl⟩

set_option maxHeartbeats 4000000 in
set_option maxRecDepth 100000 in
theorem cx_draw2 (l : Launch) (dg : va_G) (cA : Nat → ClassId) (hst : l.stackTraces = false) (ad : Nat → Nat) (nh ni : Nat) (c : St) (ns : Nat) (hns : c 0 3 = nI ns) (hns4 : ns ≤ 4) (js : Nat) (hjs : js < ns) (v : Int32) (hv : ¬ (¬ v < 1 ∧ ¬ 24 < v)) : MetX l dg cA yX5_draw cX5_draw 5 (some .int) ({ frames := 6, cells := 1, slots := 6, locals := 82 } : Room) (cw cA ad nh ni c) [.ref (ad 0), .int (nI js), .int v] "java/lang/IllegalArgumentException" := by
  refine ofX (by decide) (Nat.le_of_ble_eq_true rfl) (own := RX5) rfl (fun p e s0 m args below meth ccd ls S hlk hex hargs hK hZ hP hl => ?_)
  have hx := S.1
  have hb := S.2.1
  have hl : lv_has ls 5 [(0, .ref (ad 0)), (1, .int (nI js)), (2, .int v)] := hl
  refine lv_aload_n hx hb dX5_draw_0 rfl (lv_at hl 0 rfl) ?_
  refine lv_iload_n hx hb dX5_draw_1 rfl (lv_at hl 1 rfl) ?_
  refine cR S (cc_rS l dg cA ad nh ni c ns hns hns4 js hjs) kX5_71 ⟨rfl, rfl, Nat.le_of_ble_eq_true rfl, Nat.le_of_ble_eq_true rfl⟩ hK hP 0 cl_0 (q := (RX5, TX5, 9)) rfl rfl (As := [.int (nI js)]) rfl hl.1 (rest := []) rfl (Nat.le_of_ble_eq_true rfl) dX5_draw_2 ⟨Nat.le_of_ble_eq_true rfl, Nat.le_of_ble_eq_true rfl⟩ (st1 := []) rfl ?_
  refine lv_iload_n hx hb dX5_draw_5 rfl (lv_at hl 2 rfl) ?_
  refine lv_iconst (v := 1) hx hb dX5_draw_6 (by decide) ?_
  refine lv_icmp_lt (tgt := 16) hx hb dX5_draw_7 (by decide) (fun b7 => ?_) (fun b7 => ?_)
  · skip
    exact thS (text := "the number of houses is out of range") S hst hex hlk hZ hP x_iae (by decide) hl.1 dX5_draw_16 dX5_draw_19 dX5_draw_20 dX5_draw_22 dX5_draw_25 ⟨Nat.le_of_ble_eq_true rfl, Nat.le_of_ble_eq_true rfl, Nat.le_of_ble_eq_true rfl, Nat.le_of_ble_eq_true rfl⟩
  · skip
    refine lv_iload_n hx hb dX5_draw_10 rfl (lv_at hl 2 rfl) ?_
    refine lv_bipush (v := 24) hx hb dX5_draw_11 (by decide) ?_
    refine lv_icmp_le (tgt := 26) hx hb dX5_draw_13 (by decide) (fun b13 => ?_) (fun b13 => ?_)
    · skip
      exact absurd ⟨b7, Int32.not_lt.mpr b13⟩ hv
    · skip
      exact thS (text := "the number of houses is out of range") S hst hex hlk hZ hP x_iae (by decide) hl.1 dX5_draw_16 dX5_draw_19 dX5_draw_20 dX5_draw_22 dX5_draw_25 ⟨Nat.le_of_ble_eq_true rfl, Nat.le_of_ble_eq_true rfl, Nat.le_of_ble_eq_true rfl, Nat.le_of_ble_eq_true rfl⟩

set_option maxHeartbeats 4000000 in
set_option maxRecDepth 100000 in
theorem cx_draw3 (l : Launch) (dg : va_G) (cA : Nat → ClassId) (hst : l.stackTraces = false) (ad : Nat → Nat) (nh ni : Nat) (c : St) (hn : c 0 4 = nI nh) (hn24 : nh ≤ 24) (ns : Nat) (hns : c 0 3 = nI ns) (hns4 : ns ≤ 4) (js : Nat) (hjs : js < ns) (mm : Nat) (hm1 : 1 ≤ mm) (hm24 : mm ≤ 24) (hu : ¬ mm ≤ c_und c nh (nI js)) : MetX l dg cA yX5_draw cX5_draw 5 (some .int) ({ frames := 6, cells := 1, slots := 6, locals := 82 } : Room) (cw cA ad nh ni c) [.ref (ad 0), .int (nI js), .int (nI mm)] "java/lang/IllegalStateException" := by
  refine ofX (by decide) (Nat.le_of_ble_eq_true rfl) (own := RX5) rfl (fun p e s0 m args below meth ccd ls S hlk hex hargs hK hZ hP hl => ?_)
  have hx := S.1
  have hb := S.2.1
  have hl : lv_has ls 5 [(0, .ref (ad 0)), (1, .int (nI js)), (2, .int (nI mm))] := hl
  have hul := ct_le (isU (c 1) (c 21) (nI js)) nh
  change c_und c nh (nI js) ≤ nh at hul
  refine lv_aload_n hx hb dX5_draw_0 rfl (lv_at hl 0 rfl) ?_
  refine lv_iload_n hx hb dX5_draw_1 rfl (lv_at hl 1 rfl) ?_
  refine cR S (cc_rS l dg cA ad nh ni c ns hns hns4 js hjs) kX5_71 ⟨rfl, rfl, Nat.le_of_ble_eq_true rfl, Nat.le_of_ble_eq_true rfl⟩ hK hP 0 cl_0 (q := (RX5, TX5, 9)) rfl rfl (As := [.int (nI js)]) rfl hl.1 (rest := []) rfl (Nat.le_of_ble_eq_true rfl) dX5_draw_2 ⟨Nat.le_of_ble_eq_true rfl, Nat.le_of_ble_eq_true rfl⟩ (st1 := []) rfl ?_
  refine lv_iload_n hx hb dX5_draw_5 rfl (lv_at hl 2 rfl) ?_
  refine lv_iconst (v := 1) hx hb dX5_draw_6 (by decide) ?_
  refine lv_icmp_lt (tgt := 16) hx hb dX5_draw_7 (by decide) (fun b7 => ?_) (fun b7 => ?_)
  · skip
    have g7 : mm < 1 := (nI_ltI (a := mm) (b := 1) (by omega) (by omega)).mp b7
    exact absurd hm1 (by omega)
  · skip
    have g7 : ¬ mm < 1 := fun zz => b7 ((nI_ltI (a := mm) (b := 1) (by omega) (by omega)).mpr zz)
    refine lv_iload_n hx hb dX5_draw_10 rfl (lv_at hl 2 rfl) ?_
    refine lv_bipush (v := 24) hx hb dX5_draw_11 (by decide) ?_
    refine lv_icmp_le (tgt := 26) hx hb dX5_draw_13 (by decide) (fun b13 => ?_) (fun b13 => ?_)
    · skip
      have g13 : mm ≤ 24 := (nI_leI (a := mm) (b := 24) (by omega) (by omega)).mp b13
      refine lv_aload_n hx hb dX5_draw_26 rfl (lv_at hl 0 rfl) ?_
      refine lv_iload_n hx hb dX5_draw_27 rfl (lv_at hl 1 rfl) ?_
      refine cR S (cc_und l dg cA ad nh ni c hn hn24 (nI js)) kX5_105 ⟨rfl, rfl, Nat.le_of_ble_eq_true rfl, Nat.le_of_ble_eq_true rfl⟩ hK hP 0 cl_0 (q := (RX5, TX5, 9)) rfl rfl (As := [.int (nI js)]) rfl hl.1 (rest := []) rfl (Nat.le_of_ble_eq_true rfl) dX5_draw_28 ⟨Nat.le_of_ble_eq_true rfl, Nat.le_of_ble_eq_true rfl⟩ (st1 := [.int (nI (c_und c nh (nI js)))]) rfl ?_
      refine lv_iload_n hx hb dX5_draw_31 rfl (lv_at hl 2 rfl) ?_
      refine lv_icmp_ge (tgt := 45) hx hb dX5_draw_32 (by decide) (fun b32 => ?_) (fun b32 => ?_)
      · skip
        have g32 : mm ≤ c_und c nh (nI js) := (nI_leI (a := mm) (b := c_und c nh (nI js)) (by omega) (by omega)).mp b32
        exact absurd (by omega) hu
      · skip
        have g32 : ¬ mm ≤ c_und c nh (nI js) := fun zz => b32 ((nI_leI (a := mm) (b := c_und c nh (nI js)) (by omega) (by omega)).mpr zz)
        exact thS (text := "fewer houses of the stratum are undrawn") S hst hex hlk hZ hP x_ise (by decide) hl.1 dX5_draw_35 dX5_draw_38 dX5_draw_39 dX5_draw_41 dX5_draw_44 ⟨Nat.le_of_ble_eq_true rfl, Nat.le_of_ble_eq_true rfl, Nat.le_of_ble_eq_true rfl, Nat.le_of_ble_eq_true rfl⟩
    · skip
      have g13 : ¬ mm ≤ 24 := fun zz => b13 ((nI_leI (a := mm) (b := 24) (by omega) (by omega)).mpr zz)
      exact absurd hm24 (by omega)

set_option maxHeartbeats 4000000 in
set_option maxRecDepth 100000 in
theorem cx_roundSize (l : Launch) (dg : va_G) (cA : Nat → ClassId) (hst : l.stackTraces = false) (ad : Nat → Nat) (nh ni : Nat) (c : St) (hni : c 0 0 = nI ni) (hni4 : ni ≤ 4) (v : Int32) (hv : ¬ (¬ v < 0 ∧ v < nI ni)) : MetX l dg cA yX5_roundSize cX5_roundSize 2 (some .int) ({ frames := 8, cells := 1, slots := 6, locals := 124 } : Room) (cw cA ad nh ni c) [.ref (ad 0), .int v] "java/lang/IndexOutOfBoundsException" := by
  refine ofX (by decide) (Nat.le_of_ble_eq_true rfl) (own := RX5) rfl (fun p e s0 m args below meth ccd ls S hlk hex hargs hK hZ hP hl => ?_)
  have hx := S.1
  have hb := S.2.1
  have hl : lv_has ls 2 [(0, .ref (ad 0)), (1, .int v)] := hl
  refine lv_aload_n hx hb dX5_roundSize_0 rfl (lv_at hl 0 rfl) ?_
  refine lv_iload_n hx hb dX5_roundSize_1 rfl (lv_at hl 1 rfl) ?_
  exact cX S hex hlk (cx_iN l dg cA hst ad nh ni c hni hni4 v hv) kX5_121 ⟨rfl, rfl, Nat.le_of_ble_eq_true rfl, Nat.le_of_ble_eq_true rfl⟩ hK hZ hP 0 cl_0 (q := (RX5, TX5, 9)) rfl rfl (As := [.int v]) rfl hl.1 (rest := []) rfl (Nat.le_of_ble_eq_true rfl) dX5_roundSize_2 ⟨Nat.le_of_ble_eq_true rfl, Nat.le_of_ble_eq_true rfl⟩

set_option maxHeartbeats 4000000 in
set_option maxRecDepth 100000 in
theorem cx_roundMinutes (l : Launch) (dg : va_G) (cA : Nat → ClassId) (hst : l.stackTraces = false) (ad : Nat → Nat) (nh ni : Nat) (c : St) (hni : c 0 0 = nI ni) (hni4 : ni ≤ 4) (v : Int32) (hv : ¬ (¬ v < 0 ∧ v < nI ni)) : MetX l dg cA yX5_roundMinutes cX5_roundMinutes 2 (some .int) ({ frames := 8, cells := 1, slots := 6, locals := 124 } : Room) (cw cA ad nh ni c) [.ref (ad 0), .int v] "java/lang/IndexOutOfBoundsException" := by
  refine ofX (by decide) (Nat.le_of_ble_eq_true rfl) (own := RX5) rfl (fun p e s0 m args below meth ccd ls S hlk hex hargs hK hZ hP hl => ?_)
  have hx := S.1
  have hb := S.2.1
  have hl : lv_has ls 2 [(0, .ref (ad 0)), (1, .int v)] := hl
  refine lv_aload_n hx hb dX5_roundMinutes_0 rfl (lv_at hl 0 rfl) ?_
  refine lv_iload_n hx hb dX5_roundMinutes_1 rfl (lv_at hl 1 rfl) ?_
  exact cX S hex hlk (cx_iN l dg cA hst ad nh ni c hni hni4 v hv) kX5_121 ⟨rfl, rfl, Nat.le_of_ble_eq_true rfl, Nat.le_of_ble_eq_true rfl⟩ hK hZ hP 0 cl_0 (q := (RX5, TX5, 9)) rfl rfl (As := [.int v]) rfl hl.1 (rest := []) rfl (Nat.le_of_ble_eq_true rfl) dX5_roundMinutes_2 ⟨Nat.le_of_ble_eq_true rfl, Nat.le_of_ble_eq_true rfl⟩

set_option maxHeartbeats 4000000 in
set_option maxRecDepth 100000 in
theorem cx_roundAt1 (l : Launch) (dg : va_G) (cA : Nat → ClassId) (hst : l.stackTraces = false) (ad : Nat → Nat) (nh ni : Nat) (c : St) (hni : c 0 0 = nI ni) (hni4 : ni ≤ 4) (v : Int32) (hv : ¬ (¬ v < 0 ∧ v < nI ni)) (y : Int32) : MetX l dg cA yX5_roundAt cX5_roundAt 4 (some .int) ({ frames := 8, cells := 1, slots := 6, locals := 124 } : Room) (cw cA ad nh ni c) [.ref (ad 0), .int v, .int y] "java/lang/IndexOutOfBoundsException" := by
  refine ofX (by decide) (Nat.le_of_ble_eq_true rfl) (own := RX5) rfl (fun p e s0 m args below meth ccd ls S hlk hex hargs hK hZ hP hl => ?_)
  have hx := S.1
  have hb := S.2.1
  have hl : lv_has ls 4 [(0, .ref (ad 0)), (1, .int v), (2, .int y)] := hl
  refine lv_aload_n hx hb dX5_roundAt_0 rfl (lv_at hl 0 rfl) ?_
  refine lv_iload_n hx hb dX5_roundAt_1 rfl (lv_at hl 1 rfl) ?_
  exact cX S hex hlk (cx_iN l dg cA hst ad nh ni c hni hni4 v hv) kX5_121 ⟨rfl, rfl, Nat.le_of_ble_eq_true rfl, Nat.le_of_ble_eq_true rfl⟩ hK hZ hP 0 cl_0 (q := (RX5, TX5, 9)) rfl rfl (As := [.int v]) rfl hl.1 (rest := []) rfl (Nat.le_of_ble_eq_true rfl) dX5_roundAt_2 ⟨Nat.le_of_ble_eq_true rfl, Nat.le_of_ble_eq_true rfl⟩

set_option maxHeartbeats 4000000 in
set_option maxRecDepth 100000 in
theorem cx_visit1 (l : Launch) (dg : va_G) (cA : Nat → ClassId) (hst : l.stackTraces = false) (ad : Nat → Nat) (nh ni : Nat) (c : St) (hn : c 0 4 = nI nh) (hn24 : nh ≤ 24) (v : Int32) (hv : ¬ (¬ v < 0 ∧ v < nI nh)) (o y : Int32) : MetX l dg cA yX5_visit cX5_visit 6 (some .int) ({ frames := 7, cells := 1, slots := 6, locals := 103 } : Room) (cw cA ad nh ni c) [.ref (ad 0), .int v, .int o, .int y] "java/lang/IndexOutOfBoundsException" := by
  refine ofX (by decide) (Nat.le_of_ble_eq_true rfl) (own := RX5) rfl (fun p e s0 m args below meth ccd ls S hlk hex hargs hK hZ hP hl => ?_)
  have hx := S.1
  have hb := S.2.1
  have hl : lv_has ls 6 [(0, .ref (ad 0)), (1, .int v), (2, .int o), (3, .int y)] := hl
  refine lv_aload_n hx hb dX5_visit_0 rfl (lv_at hl 0 rfl) ?_
  refine lv_iload_n hx hb dX5_visit_1 rfl (lv_at hl 1 rfl) ?_
  exact cX S hex hlk (cx_hN l dg cA hst ad nh ni c hn hn24 v hv) kX5_140 ⟨rfl, rfl, Nat.le_of_ble_eq_true rfl, Nat.le_of_ble_eq_true rfl⟩ hK hZ hP 0 cl_0 (q := (RX5, TX5, 9)) rfl rfl (As := [.int v]) rfl hl.1 (rest := []) rfl (Nat.le_of_ble_eq_true rfl) dX5_visit_2 ⟨Nat.le_of_ble_eq_true rfl, Nat.le_of_ble_eq_true rfl⟩

set_option maxHeartbeats 4000000 in
set_option maxRecDepth 100000 in
theorem cx_visit2 (l : Launch) (dg : va_G) (cA : Nat → ClassId) (hst : l.stackTraces = false) (ad : Nat → Nat) (nh ni : Nat) (c : St) (hn : c 0 4 = nI nh) (hn24 : nh ≤ 24) (h : Nat) (hh : h < nh) (o : Int32) (hov : ¬ (o = 97 ∨ o = 110 ∨ o = 114 ∨ o = 101)) (y : Int32) : MetX l dg cA yX5_visit cX5_visit 6 (some .int) ({ frames := 7, cells := 1, slots := 6, locals := 103 } : Room) (cw cA ad nh ni c) [.ref (ad 0), .int (nI h), .int o, .int y] "java/lang/IllegalArgumentException" := by
  refine ofX (by decide) (Nat.le_of_ble_eq_true rfl) (own := RX5) rfl (fun p e s0 m args below meth ccd ls S hlk hex hargs hK hZ hP hl => ?_)
  have hx := S.1
  have hb := S.2.1
  have hl : lv_has ls 6 [(0, .ref (ad 0)), (1, .int (nI h)), (2, .int o), (3, .int y)] := hl
  refine lv_aload_n hx hb dX5_visit_0 rfl (lv_at hl 0 rfl) ?_
  refine lv_iload_n hx hb dX5_visit_1 rfl (lv_at hl 1 rfl) ?_
  refine cR S (cc_hN l dg cA ad nh ni c hn hn24 h hh) kX5_140 ⟨rfl, rfl, Nat.le_of_ble_eq_true rfl, Nat.le_of_ble_eq_true rfl⟩ hK hP 0 cl_0 (q := (RX5, TX5, 9)) rfl rfl (As := [.int (nI h)]) rfl hl.1 (rest := []) rfl (Nat.le_of_ble_eq_true rfl) dX5_visit_2 ⟨Nat.le_of_ble_eq_true rfl, Nat.le_of_ble_eq_true rfl⟩ (st1 := [.ref (ad (30 + h))]) rfl ?_
  refine lv_astore (lv' := [(4, .ref (ad (30 + h))), (0, .ref (ad 0)), (1, .int (nI h)), (2, .int o), (3, .int y)]) hx hb dX5_visit_5 hl (by decide) rfl (fun ls hl => ?_)
  refine lv_aload_n hx hb dX5_visit_7 rfl (lv_at hl 1 rfl) ?_
  refine lv_iload_n hx hb dX5_visit_8 rfl (lv_at hl 3 rfl) ?_
  exact cX S hex hlk (cx_rO l dg cA hst ad nh ni c o hov) kX5_144 ⟨rfl, rfl, Nat.le_of_ble_eq_true rfl, Nat.le_of_ble_eq_true rfl⟩ hK hZ hP 0 cl_0 (q := (RX5, TX5, 9)) rfl rfl (As := [.int o]) rfl hl.1 (rest := []) rfl (Nat.le_of_ble_eq_true rfl) dX5_visit_9 ⟨Nat.le_of_ble_eq_true rfl, Nat.le_of_ble_eq_true rfl⟩

set_option maxHeartbeats 4000000 in
set_option maxRecDepth 100000 in
theorem cx_visit3 (l : Launch) (dg : va_G) (cA : Nat → ClassId) (hst : l.stackTraces = false) (ad : Nat → Nat) (nh ni : Nat) (c : St) (hn : c 0 4 = nI nh) (hn24 : nh ≤ 24) (h : Nat) (hh : h < nh) (o : Int32) (hov : o = 97 ∨ o = 110 ∨ o = 114 ∨ o = 101) (v : Int32) (hv : ¬ (¬ v < 0 ∧ ¬ 9 < v)) : MetX l dg cA yX5_visit cX5_visit 6 (some .int) ({ frames := 7, cells := 1, slots := 6, locals := 103 } : Room) (cw cA ad nh ni c) [.ref (ad 0), .int (nI h), .int o, .int v] "java/lang/IllegalArgumentException" := by
  refine ofX (by decide) (Nat.le_of_ble_eq_true rfl) (own := RX5) rfl (fun p e s0 m args below meth ccd ls S hlk hex hargs hK hZ hP hl => ?_)
  have hx := S.1
  have hb := S.2.1
  have hl : lv_has ls 6 [(0, .ref (ad 0)), (1, .int (nI h)), (2, .int o), (3, .int v)] := hl
  refine lv_aload_n hx hb dX5_visit_0 rfl (lv_at hl 0 rfl) ?_
  refine lv_iload_n hx hb dX5_visit_1 rfl (lv_at hl 1 rfl) ?_
  refine cR S (cc_hN l dg cA ad nh ni c hn hn24 h hh) kX5_140 ⟨rfl, rfl, Nat.le_of_ble_eq_true rfl, Nat.le_of_ble_eq_true rfl⟩ hK hP 0 cl_0 (q := (RX5, TX5, 9)) rfl rfl (As := [.int (nI h)]) rfl hl.1 (rest := []) rfl (Nat.le_of_ble_eq_true rfl) dX5_visit_2 ⟨Nat.le_of_ble_eq_true rfl, Nat.le_of_ble_eq_true rfl⟩ (st1 := [.ref (ad (30 + h))]) rfl ?_
  refine lv_astore (lv' := [(4, .ref (ad (30 + h))), (0, .ref (ad 0)), (1, .int (nI h)), (2, .int o), (3, .int v)]) hx hb dX5_visit_5 hl (by decide) rfl (fun ls hl => ?_)
  refine lv_aload_n hx hb dX5_visit_7 rfl (lv_at hl 1 rfl) ?_
  refine lv_iload_n hx hb dX5_visit_8 rfl (lv_at hl 3 rfl) ?_
  refine cR S (cc_rO l dg cA ad nh ni c o hov) kX5_144 ⟨rfl, rfl, Nat.le_of_ble_eq_true rfl, Nat.le_of_ble_eq_true rfl⟩ hK hP 0 cl_0 (q := (RX5, TX5, 9)) rfl rfl (As := [.int o]) rfl hl.1 (rest := []) rfl (Nat.le_of_ble_eq_true rfl) dX5_visit_9 ⟨Nat.le_of_ble_eq_true rfl, Nat.le_of_ble_eq_true rfl⟩ (st1 := []) rfl ?_
  refine lv_aload_n hx hb dX5_visit_12 rfl (lv_at hl 1 rfl) ?_
  refine lv_iload_n hx hb dX5_visit_13 rfl (lv_at hl 4 rfl) ?_
  exact cX S hex hlk (cx_rA l dg cA hst ad nh ni c v hv) kX5_148 ⟨rfl, rfl, Nat.le_of_ble_eq_true rfl, Nat.le_of_ble_eq_true rfl⟩ hK hZ hP 0 cl_0 (q := (RX5, TX5, 9)) rfl rfl (As := [.int v]) rfl hl.1 (rest := []) rfl (Nat.le_of_ble_eq_true rfl) dX5_visit_14 ⟨Nat.le_of_ble_eq_true rfl, Nat.le_of_ble_eq_true rfl⟩

set_option maxHeartbeats 4000000 in
set_option maxRecDepth 100000 in
theorem cx_visit4 (l : Launch) (dg : va_G) (cA : Nat → ClassId) (hst : l.stackTraces = false) (ad : Nat → Nat) (nh ni : Nat) (c : St) (hn : c 0 4 = nI nh) (hn24 : nh ≤ 24) (h : Nat) (hh : h < nh) (o : Int32) (hov : o = 97 ∨ o = 110 ∨ o = 114 ∨ o = 101) (a : Nat) (ha : a < 10) (hr0 : c 27 h = -1) : MetX l dg cA yX5_visit cX5_visit 6 (some .int) ({ frames := 7, cells := 1, slots := 6, locals := 103 } : Room) (cw cA ad nh ni c) [.ref (ad 0), .int (nI h), .int o, .int (nI a)] "java/lang/IllegalStateException" := by
  refine ofX (by decide) (Nat.le_of_ble_eq_true rfl) (own := RX5) rfl (fun p e s0 m args below meth ccd ls S hlk hex hargs hK hZ hP hl => ?_)
  have hx := S.1
  have hb := S.2.1
  have hl : lv_has ls 6 [(0, .ref (ad 0)), (1, .int (nI h)), (2, .int o), (3, .int (nI a))] := hl
  refine lv_aload_n hx hb dX5_visit_0 rfl (lv_at hl 0 rfl) ?_
  refine lv_iload_n hx hb dX5_visit_1 rfl (lv_at hl 1 rfl) ?_
  refine cR S (cc_hN l dg cA ad nh ni c hn hn24 h hh) kX5_140 ⟨rfl, rfl, Nat.le_of_ble_eq_true rfl, Nat.le_of_ble_eq_true rfl⟩ hK hP 0 cl_0 (q := (RX5, TX5, 9)) rfl rfl (As := [.int (nI h)]) rfl hl.1 (rest := []) rfl (Nat.le_of_ble_eq_true rfl) dX5_visit_2 ⟨Nat.le_of_ble_eq_true rfl, Nat.le_of_ble_eq_true rfl⟩ (st1 := [.ref (ad (30 + h))]) rfl ?_
  refine lv_astore (lv' := [(4, .ref (ad (30 + h))), (0, .ref (ad 0)), (1, .int (nI h)), (2, .int o), (3, .int (nI a))]) hx hb dX5_visit_5 hl (by decide) rfl (fun ls hl => ?_)
  refine lv_aload_n hx hb dX5_visit_7 rfl (lv_at hl 1 rfl) ?_
  refine lv_iload_n hx hb dX5_visit_8 rfl (lv_at hl 3 rfl) ?_
  refine cR S (cc_rO l dg cA ad nh ni c o hov) kX5_144 ⟨rfl, rfl, Nat.le_of_ble_eq_true rfl, Nat.le_of_ble_eq_true rfl⟩ hK hP 0 cl_0 (q := (RX5, TX5, 9)) rfl rfl (As := [.int o]) rfl hl.1 (rest := []) rfl (Nat.le_of_ble_eq_true rfl) dX5_visit_9 ⟨Nat.le_of_ble_eq_true rfl, Nat.le_of_ble_eq_true rfl⟩ (st1 := []) rfl ?_
  refine lv_aload_n hx hb dX5_visit_12 rfl (lv_at hl 1 rfl) ?_
  refine lv_iload_n hx hb dX5_visit_13 rfl (lv_at hl 4 rfl) ?_
  refine cR S (cc_rA l dg cA ad nh ni c (nI a) (a10 ha).1 (a10 ha).2) kX5_148 ⟨rfl, rfl, Nat.le_of_ble_eq_true rfl, Nat.le_of_ble_eq_true rfl⟩ hK hP 0 cl_0 (q := (RX5, TX5, 9)) rfl rfl (As := [.int (nI a)]) rfl hl.1 (rest := []) rfl (Nat.le_of_ble_eq_true rfl) dX5_visit_14 ⟨Nat.le_of_ble_eq_true rfl, Nat.le_of_ble_eq_true rfl⟩ (st1 := []) rfl ?_
  refine lv_aload_n hx hb dX5_visit_17 rfl (lv_at hl 1 rfl) ?_
  refine lv_aload hx hb dX5_visit_18 (lv_at hl 0 rfl) ?_
  exact cX S hex hlk (cx_rV1 l dg cA hst ad nh ni c h hh hr0) kX5_151 ⟨rfl, rfl, Nat.le_of_ble_eq_true rfl, Nat.le_of_ble_eq_true rfl⟩ hK hZ hP 0 cl_0 (q := (RX5, TX5, 9)) rfl rfl (As := [.ref (ad (30 + h))]) rfl hl.1 (rest := []) rfl (Nat.le_of_ble_eq_true rfl) dX5_visit_20 ⟨Nat.le_of_ble_eq_true rfl, Nat.le_of_ble_eq_true rfl⟩

set_option maxHeartbeats 4000000 in
set_option maxRecDepth 100000 in
theorem cx_visit5 (l : Launch) (dg : va_G) (cA : Nat → ClassId) (hst : l.stackTraces = false) (ad : Nat → Nat) (nh ni : Nat) (c : St) (hn : c 0 4 = nI nh) (hn24 : nh ≤ 24) (h : Nat) (hh : h < nh) (o : Int32) (hov : o = 97 ∨ o = 110 ∨ o = 114 ∨ o = 101) (a : Nat) (ha : a < 10) (v : Nat) (hv : v < 4) (hr0 : c 27 h = nI v) (ht : ¬ c 28 h = 0) : MetX l dg cA yX5_visit cX5_visit 6 (some .int) ({ frames := 7, cells := 1, slots := 6, locals := 103 } : Room) (cw cA ad nh ni c) [.ref (ad 0), .int (nI h), .int o, .int (nI a)] "java/lang/IllegalStateException" := by
  refine ofX (by decide) (Nat.le_of_ble_eq_true rfl) (own := RX5) rfl (fun p e s0 m args below meth ccd ls S hlk hex hargs hK hZ hP hl => ?_)
  have hx := S.1
  have hb := S.2.1
  have hl : lv_has ls 6 [(0, .ref (ad 0)), (1, .int (nI h)), (2, .int o), (3, .int (nI a))] := hl
  refine lv_aload_n hx hb dX5_visit_0 rfl (lv_at hl 0 rfl) ?_
  refine lv_iload_n hx hb dX5_visit_1 rfl (lv_at hl 1 rfl) ?_
  refine cR S (cc_hN l dg cA ad nh ni c hn hn24 h hh) kX5_140 ⟨rfl, rfl, Nat.le_of_ble_eq_true rfl, Nat.le_of_ble_eq_true rfl⟩ hK hP 0 cl_0 (q := (RX5, TX5, 9)) rfl rfl (As := [.int (nI h)]) rfl hl.1 (rest := []) rfl (Nat.le_of_ble_eq_true rfl) dX5_visit_2 ⟨Nat.le_of_ble_eq_true rfl, Nat.le_of_ble_eq_true rfl⟩ (st1 := [.ref (ad (30 + h))]) rfl ?_
  refine lv_astore (lv' := [(4, .ref (ad (30 + h))), (0, .ref (ad 0)), (1, .int (nI h)), (2, .int o), (3, .int (nI a))]) hx hb dX5_visit_5 hl (by decide) rfl (fun ls hl => ?_)
  refine lv_aload_n hx hb dX5_visit_7 rfl (lv_at hl 1 rfl) ?_
  refine lv_iload_n hx hb dX5_visit_8 rfl (lv_at hl 3 rfl) ?_
  refine cR S (cc_rO l dg cA ad nh ni c o hov) kX5_144 ⟨rfl, rfl, Nat.le_of_ble_eq_true rfl, Nat.le_of_ble_eq_true rfl⟩ hK hP 0 cl_0 (q := (RX5, TX5, 9)) rfl rfl (As := [.int o]) rfl hl.1 (rest := []) rfl (Nat.le_of_ble_eq_true rfl) dX5_visit_9 ⟨Nat.le_of_ble_eq_true rfl, Nat.le_of_ble_eq_true rfl⟩ (st1 := []) rfl ?_
  refine lv_aload_n hx hb dX5_visit_12 rfl (lv_at hl 1 rfl) ?_
  refine lv_iload_n hx hb dX5_visit_13 rfl (lv_at hl 4 rfl) ?_
  refine cR S (cc_rA l dg cA ad nh ni c (nI a) (a10 ha).1 (a10 ha).2) kX5_148 ⟨rfl, rfl, Nat.le_of_ble_eq_true rfl, Nat.le_of_ble_eq_true rfl⟩ hK hP 0 cl_0 (q := (RX5, TX5, 9)) rfl rfl (As := [.int (nI a)]) rfl hl.1 (rest := []) rfl (Nat.le_of_ble_eq_true rfl) dX5_visit_14 ⟨Nat.le_of_ble_eq_true rfl, Nat.le_of_ble_eq_true rfl⟩ (st1 := []) rfl ?_
  refine lv_aload_n hx hb dX5_visit_17 rfl (lv_at hl 1 rfl) ?_
  refine lv_aload hx hb dX5_visit_18 (lv_at hl 0 rfl) ?_
  exact cX S hex hlk (cx_rV2 l dg cA hst ad nh ni c h hh v hv hr0 ht) kX5_151 ⟨rfl, rfl, Nat.le_of_ble_eq_true rfl, Nat.le_of_ble_eq_true rfl⟩ hK hZ hP 0 cl_0 (q := (RX5, TX5, 9)) rfl rfl (As := [.ref (ad (30 + h))]) rfl hl.1 (rest := []) rfl (Nat.le_of_ble_eq_true rfl) dX5_visit_20 ⟨Nat.le_of_ble_eq_true rfl, Nat.le_of_ble_eq_true rfl⟩

set_option maxHeartbeats 4000000 in
set_option maxRecDepth 100000 in
theorem cx_visit6 (l : Launch) (dg : va_G) (cA : Nat → ClassId) (hst : l.stackTraces = false) (ad : Nat → Nat) (nh ni : Nat) (c : St) (hn : c 0 4 = nI nh) (hn24 : nh ≤ 24) (h : Nat) (hh : h < nh) (o : Int32) (hov : o = 97 ∨ o = 110 ∨ o = 114 ∨ o = 101) (a : Nat) (ha : a < 10) (v : Nat) (hv : v < 4) (hr0 : c 27 h = nI v) (ht : c 28 h = 0) (hf : ¬ c 9 v < 2) : MetX l dg cA yX5_visit cX5_visit 6 (some .int) ({ frames := 7, cells := 1, slots := 6, locals := 103 } : Room) (cw cA ad nh ni c) [.ref (ad 0), .int (nI h), .int o, .int (nI a)] "java/lang/IllegalStateException" := by
  refine ofX (by decide) (Nat.le_of_ble_eq_true rfl) (own := RX5) rfl (fun p e s0 m args below meth ccd ls S hlk hex hargs hK hZ hP hl => ?_)
  have hx := S.1
  have hb := S.2.1
  have hl : lv_has ls 6 [(0, .ref (ad 0)), (1, .int (nI h)), (2, .int o), (3, .int (nI a))] := hl
  refine lv_aload_n hx hb dX5_visit_0 rfl (lv_at hl 0 rfl) ?_
  refine lv_iload_n hx hb dX5_visit_1 rfl (lv_at hl 1 rfl) ?_
  refine cR S (cc_hN l dg cA ad nh ni c hn hn24 h hh) kX5_140 ⟨rfl, rfl, Nat.le_of_ble_eq_true rfl, Nat.le_of_ble_eq_true rfl⟩ hK hP 0 cl_0 (q := (RX5, TX5, 9)) rfl rfl (As := [.int (nI h)]) rfl hl.1 (rest := []) rfl (Nat.le_of_ble_eq_true rfl) dX5_visit_2 ⟨Nat.le_of_ble_eq_true rfl, Nat.le_of_ble_eq_true rfl⟩ (st1 := [.ref (ad (30 + h))]) rfl ?_
  refine lv_astore (lv' := [(4, .ref (ad (30 + h))), (0, .ref (ad 0)), (1, .int (nI h)), (2, .int o), (3, .int (nI a))]) hx hb dX5_visit_5 hl (by decide) rfl (fun ls hl => ?_)
  refine lv_aload_n hx hb dX5_visit_7 rfl (lv_at hl 1 rfl) ?_
  refine lv_iload_n hx hb dX5_visit_8 rfl (lv_at hl 3 rfl) ?_
  refine cR S (cc_rO l dg cA ad nh ni c o hov) kX5_144 ⟨rfl, rfl, Nat.le_of_ble_eq_true rfl, Nat.le_of_ble_eq_true rfl⟩ hK hP 0 cl_0 (q := (RX5, TX5, 9)) rfl rfl (As := [.int o]) rfl hl.1 (rest := []) rfl (Nat.le_of_ble_eq_true rfl) dX5_visit_9 ⟨Nat.le_of_ble_eq_true rfl, Nat.le_of_ble_eq_true rfl⟩ (st1 := []) rfl ?_
  refine lv_aload_n hx hb dX5_visit_12 rfl (lv_at hl 1 rfl) ?_
  refine lv_iload_n hx hb dX5_visit_13 rfl (lv_at hl 4 rfl) ?_
  refine cR S (cc_rA l dg cA ad nh ni c (nI a) (a10 ha).1 (a10 ha).2) kX5_148 ⟨rfl, rfl, Nat.le_of_ble_eq_true rfl, Nat.le_of_ble_eq_true rfl⟩ hK hP 0 cl_0 (q := (RX5, TX5, 9)) rfl rfl (As := [.int (nI a)]) rfl hl.1 (rest := []) rfl (Nat.le_of_ble_eq_true rfl) dX5_visit_14 ⟨Nat.le_of_ble_eq_true rfl, Nat.le_of_ble_eq_true rfl⟩ (st1 := []) rfl ?_
  refine lv_aload_n hx hb dX5_visit_17 rfl (lv_at hl 1 rfl) ?_
  refine lv_aload hx hb dX5_visit_18 (lv_at hl 0 rfl) ?_
  exact cX S hex hlk (cx_rV3 l dg cA hst ad nh ni c h hh v hv hr0 ht hf) kX5_151 ⟨rfl, rfl, Nat.le_of_ble_eq_true rfl, Nat.le_of_ble_eq_true rfl⟩ hK hZ hP 0 cl_0 (q := (RX5, TX5, 9)) rfl rfl (As := [.ref (ad (30 + h))]) rfl hl.1 (rest := []) rfl (Nat.le_of_ble_eq_true rfl) dX5_visit_20 ⟨Nat.le_of_ble_eq_true rfl, Nat.le_of_ble_eq_true rfl⟩

set_option maxHeartbeats 4000000 in
set_option maxRecDepth 100000 in
theorem cx_check1 (l : Launch) (dg : va_G) (cA : Nat → ClassId) (hst : l.stackTraces = false) (ad : Nat → Nat) (nh ni : Nat) (c : St) (hn : c 0 4 = nI nh) (hn24 : nh ≤ 24) (v : Int32) (hv : ¬ (¬ v < 0 ∧ v < nI nh)) (y : Int32) : MetX l dg cA yX5_check cX5_check 5 (some .boolean) ({ frames := 7, cells := 1, slots := 6, locals := 103 } : Room) (cw cA ad nh ni c) [.ref (ad 0), .int v, .int y] "java/lang/IndexOutOfBoundsException" := by
  refine ofX (by decide) (Nat.le_of_ble_eq_true rfl) (own := RX5) rfl (fun p e s0 m args below meth ccd ls S hlk hex hargs hK hZ hP hl => ?_)
  have hx := S.1
  have hb := S.2.1
  have hl : lv_has ls 5 [(0, .ref (ad 0)), (1, .int v), (2, .int y)] := hl
  refine lv_aload_n hx hb dX5_check_0 rfl (lv_at hl 0 rfl) ?_
  refine lv_iload_n hx hb dX5_check_1 rfl (lv_at hl 1 rfl) ?_
  exact cX S hex hlk (cx_hN l dg cA hst ad nh ni c hn hn24 v hv) kX5_140 ⟨rfl, rfl, Nat.le_of_ble_eq_true rfl, Nat.le_of_ble_eq_true rfl⟩ hK hZ hP 0 cl_0 (q := (RX5, TX5, 9)) rfl rfl (As := [.int v]) rfl hl.1 (rest := []) rfl (Nat.le_of_ble_eq_true rfl) dX5_check_2 ⟨Nat.le_of_ble_eq_true rfl, Nat.le_of_ble_eq_true rfl⟩

set_option maxHeartbeats 4000000 in
set_option maxRecDepth 100000 in
theorem cx_check2 (l : Launch) (dg : va_G) (cA : Nat → ClassId) (hst : l.stackTraces = false) (ad : Nat → Nat) (nh ni : Nat) (c : St) (hn : c 0 4 = nI nh) (hn24 : nh ≤ 24) (h : Nat) (hh : h < nh) (v : Int32) (hv : ¬ (¬ v < 0 ∧ ¬ 9 < v)) : MetX l dg cA yX5_check cX5_check 5 (some .boolean) ({ frames := 7, cells := 1, slots := 6, locals := 103 } : Room) (cw cA ad nh ni c) [.ref (ad 0), .int (nI h), .int v] "java/lang/IllegalArgumentException" := by
  refine ofX (by decide) (Nat.le_of_ble_eq_true rfl) (own := RX5) rfl (fun p e s0 m args below meth ccd ls S hlk hex hargs hK hZ hP hl => ?_)
  have hx := S.1
  have hb := S.2.1
  have hl : lv_has ls 5 [(0, .ref (ad 0)), (1, .int (nI h)), (2, .int v)] := hl
  refine lv_aload_n hx hb dX5_check_0 rfl (lv_at hl 0 rfl) ?_
  refine lv_iload_n hx hb dX5_check_1 rfl (lv_at hl 1 rfl) ?_
  refine cR S (cc_hN l dg cA ad nh ni c hn hn24 h hh) kX5_140 ⟨rfl, rfl, Nat.le_of_ble_eq_true rfl, Nat.le_of_ble_eq_true rfl⟩ hK hP 0 cl_0 (q := (RX5, TX5, 9)) rfl rfl (As := [.int (nI h)]) rfl hl.1 (rest := []) rfl (Nat.le_of_ble_eq_true rfl) dX5_check_2 ⟨Nat.le_of_ble_eq_true rfl, Nat.le_of_ble_eq_true rfl⟩ (st1 := [.ref (ad (30 + h))]) rfl ?_
  refine lv_astore_n (lv' := [(3, .ref (ad (30 + h))), (0, .ref (ad 0)), (1, .int (nI h)), (2, .int v)]) hx hb dX5_check_5 rfl hl (by decide) rfl (fun ls hl => ?_)
  refine lv_aload_n hx hb dX5_check_6 rfl (lv_at hl 1 rfl) ?_
  refine lv_iload_n hx hb dX5_check_7 rfl (lv_at hl 3 rfl) ?_
  exact cX S hex hlk (cx_rA l dg cA hst ad nh ni c v hv) kX5_148 ⟨rfl, rfl, Nat.le_of_ble_eq_true rfl, Nat.le_of_ble_eq_true rfl⟩ hK hZ hP 0 cl_0 (q := (RX5, TX5, 9)) rfl rfl (As := [.int v]) rfl hl.1 (rest := []) rfl (Nat.le_of_ble_eq_true rfl) dX5_check_8 ⟨Nat.le_of_ble_eq_true rfl, Nat.le_of_ble_eq_true rfl⟩

set_option maxHeartbeats 4000000 in
set_option maxRecDepth 100000 in
theorem cx_check3 (l : Launch) (dg : va_G) (cA : Nat → ClassId) (hst : l.stackTraces = false) (ad : Nat → Nat) (nh ni : Nat) (c : St) (hn : c 0 4 = nI nh) (hn24 : nh ≤ 24) (h : Nat) (hh : h < nh) (a : Nat) (ha : a < 10) (hs : ¬ c 21 h = 97) : MetX l dg cA yX5_check cX5_check 5 (some .boolean) ({ frames := 6, cells := 1, slots := 6, locals := 82 } : Room) (cw cA ad nh ni c) [.ref (ad 0), .int (nI h), .int (nI a)] "java/lang/IllegalStateException" := by
  refine ofX (by decide) (Nat.le_of_ble_eq_true rfl) (own := RX5) rfl (fun p e s0 m args below meth ccd ls S hlk hex hargs hK hZ hP hl => ?_)
  have hx := S.1
  have hb := S.2.1
  have hl : lv_has ls 5 [(0, .ref (ad 0)), (1, .int (nI h)), (2, .int (nI a))] := hl
  refine lv_aload_n hx hb dX5_check_0 rfl (lv_at hl 0 rfl) ?_
  refine lv_iload_n hx hb dX5_check_1 rfl (lv_at hl 1 rfl) ?_
  refine cR S (cc_hN l dg cA ad nh ni c hn hn24 h hh) kX5_140 ⟨rfl, rfl, Nat.le_of_ble_eq_true rfl, Nat.le_of_ble_eq_true rfl⟩ hK hP 0 cl_0 (q := (RX5, TX5, 9)) rfl rfl (As := [.int (nI h)]) rfl hl.1 (rest := []) rfl (Nat.le_of_ble_eq_true rfl) dX5_check_2 ⟨Nat.le_of_ble_eq_true rfl, Nat.le_of_ble_eq_true rfl⟩ (st1 := [.ref (ad (30 + h))]) rfl ?_
  refine lv_astore_n (lv' := [(3, .ref (ad (30 + h))), (0, .ref (ad 0)), (1, .int (nI h)), (2, .int (nI a))]) hx hb dX5_check_5 rfl hl (by decide) rfl (fun ls hl => ?_)
  refine lv_aload_n hx hb dX5_check_6 rfl (lv_at hl 1 rfl) ?_
  refine lv_iload_n hx hb dX5_check_7 rfl (lv_at hl 3 rfl) ?_
  refine cR S (cc_rA l dg cA ad nh ni c (nI a) (a10 ha).1 (a10 ha).2) kX5_148 ⟨rfl, rfl, Nat.le_of_ble_eq_true rfl, Nat.le_of_ble_eq_true rfl⟩ hK hP 0 cl_0 (q := (RX5, TX5, 9)) rfl rfl (As := [.int (nI a)]) rfl hl.1 (rest := []) rfl (Nat.le_of_ble_eq_true rfl) dX5_check_8 ⟨Nat.le_of_ble_eq_true rfl, Nat.le_of_ble_eq_true rfl⟩ (st1 := []) rfl ?_
  refine lv_aload_n hx hb dX5_check_11 rfl (lv_at hl 0 rfl) ?_
  refine gf S hK hP (22 + h) (cl_h (by omega)) fX5_182 (v := .int (c 21 h)) (ch_1 rfl) dX5_check_12 ?_
  refine lv_bipush (v := 97) hx hb dX5_check_15 (by decide) ?_
  refine lv_icmp_ne (tgt := 27) hx hb dX5_check_17 (by decide) (fun b17 => ?_) (fun b17 => ?_)
  · skip
    exact thS (text := "the house has no answer that is unchecked") S hst hex hlk hZ hP x_ise (by decide) hl.1 dX5_check_27 dX5_check_30 dX5_check_31 dX5_check_33 dX5_check_36 ⟨Nat.le_of_ble_eq_true rfl, Nat.le_of_ble_eq_true rfl, Nat.le_of_ble_eq_true rfl, Nat.le_of_ble_eq_true rfl⟩
  · skip
    exact absurd b17 hs

set_option maxHeartbeats 4000000 in
set_option maxRecDepth 100000 in
theorem cx_check4 (l : Launch) (dg : va_G) (cA : Nat → ClassId) (hst : l.stackTraces = false) (ad : Nat → Nat) (nh ni : Nat) (c : St) (hn : c 0 4 = nI nh) (hn24 : nh ≤ 24) (h : Nat) (hh : h < nh) (a : Nat) (ha : a < 10) (hs : c 21 h = 97) (hk : ¬ c 30 h = 0) : MetX l dg cA yX5_check cX5_check 5 (some .boolean) ({ frames := 6, cells := 1, slots := 6, locals := 82 } : Room) (cw cA ad nh ni c) [.ref (ad 0), .int (nI h), .int (nI a)] "java/lang/IllegalStateException" := by
  refine ofX (by decide) (Nat.le_of_ble_eq_true rfl) (own := RX5) rfl (fun p e s0 m args below meth ccd ls S hlk hex hargs hK hZ hP hl => ?_)
  have hx := S.1
  have hb := S.2.1
  have hl : lv_has ls 5 [(0, .ref (ad 0)), (1, .int (nI h)), (2, .int (nI a))] := hl
  refine lv_aload_n hx hb dX5_check_0 rfl (lv_at hl 0 rfl) ?_
  refine lv_iload_n hx hb dX5_check_1 rfl (lv_at hl 1 rfl) ?_
  refine cR S (cc_hN l dg cA ad nh ni c hn hn24 h hh) kX5_140 ⟨rfl, rfl, Nat.le_of_ble_eq_true rfl, Nat.le_of_ble_eq_true rfl⟩ hK hP 0 cl_0 (q := (RX5, TX5, 9)) rfl rfl (As := [.int (nI h)]) rfl hl.1 (rest := []) rfl (Nat.le_of_ble_eq_true rfl) dX5_check_2 ⟨Nat.le_of_ble_eq_true rfl, Nat.le_of_ble_eq_true rfl⟩ (st1 := [.ref (ad (30 + h))]) rfl ?_
  refine lv_astore_n (lv' := [(3, .ref (ad (30 + h))), (0, .ref (ad 0)), (1, .int (nI h)), (2, .int (nI a))]) hx hb dX5_check_5 rfl hl (by decide) rfl (fun ls hl => ?_)
  refine lv_aload_n hx hb dX5_check_6 rfl (lv_at hl 1 rfl) ?_
  refine lv_iload_n hx hb dX5_check_7 rfl (lv_at hl 3 rfl) ?_
  refine cR S (cc_rA l dg cA ad nh ni c (nI a) (a10 ha).1 (a10 ha).2) kX5_148 ⟨rfl, rfl, Nat.le_of_ble_eq_true rfl, Nat.le_of_ble_eq_true rfl⟩ hK hP 0 cl_0 (q := (RX5, TX5, 9)) rfl rfl (As := [.int (nI a)]) rfl hl.1 (rest := []) rfl (Nat.le_of_ble_eq_true rfl) dX5_check_8 ⟨Nat.le_of_ble_eq_true rfl, Nat.le_of_ble_eq_true rfl⟩ (st1 := []) rfl ?_
  refine lv_aload_n hx hb dX5_check_11 rfl (lv_at hl 0 rfl) ?_
  refine gf S hK hP (22 + h) (cl_h (by omega)) fX5_182 (v := .int 97) (ch_1 hs) dX5_check_12 ?_
  refine lv_bipush (v := 97) hx hb dX5_check_15 (by decide) ?_
  refine lv_icmp_ne (tgt := 27) hx hb dX5_check_17 (by decide) (fun b17 => ?_) (fun b17 => ?_)
  · skip
    exact False.elim (by revert b17; decide)
  · skip
    refine lv_aload_n hx hb dX5_check_20 rfl (lv_at hl 0 rfl) ?_
    refine gf S hK hP (22 + h) (cl_h (by omega)) fX5_186 (v := .int (c 30 h)) (ch_10 rfl) dX5_check_21 ?_
    refine lv_if_eq (tgt := 37) hx hb dX5_check_24 (by decide) (fun b24 => ?_) (fun b24 => ?_)
    · skip
      exact absurd b24 hk
    · skip
      exact thS (text := "the house has no answer that is unchecked") S hst hex hlk hZ hP x_ise (by decide) hl.1 dX5_check_27 dX5_check_30 dX5_check_31 dX5_check_33 dX5_check_36 ⟨Nat.le_of_ble_eq_true rfl, Nat.le_of_ble_eq_true rfl, Nat.le_of_ble_eq_true rfl, Nat.le_of_ble_eq_true rfl⟩

set_option maxHeartbeats 4000000 in
set_option maxRecDepth 100000 in
theorem cx_endDay (l : Launch) (dg : va_G) (cA : Nat → ClassId) (hst : l.stackTraces = false) (ad : Nat → Nat) (nh ni : Nat) (c : St) (d : Nat) (hd : c 0 2 = nI d) (hd9 : ¬ d < 99) (hd1 : d < 1000) : MetX l dg cA yX5_endDay cX5_endDay 2 (some .int) ({ frames := 6, cells := 1, slots := 6, locals := 82 } : Room) (cw cA ad nh ni c) [.ref (ad 0)] "java/lang/IllegalStateException" := by
  refine ofX (by decide) (Nat.le_of_ble_eq_true rfl) (own := RX5) rfl (fun p e s0 m args below meth ccd ls S hlk hex hargs hK hZ hP hl => ?_)
  have hx := S.1
  have hb := S.2.1
  have hl : lv_has ls 2 [(0, .ref (ad 0))] := hl
  refine lv_aload_n hx hb dX5_endDay_0 rfl (lv_at hl 0 rfl) ?_
  refine gf S hK hP 0 cl_0 fX5_52 (v := .int (nI d)) (cfb_8 hd) dX5_endDay_1 ?_
  refine lv_bipush (v := 99) hx hb dX5_endDay_4 (by decide) ?_
  refine lv_icmp_lt (tgt := 19) hx hb dX5_endDay_6 (by decide) (fun b6 => ?_) (fun b6 => ?_)
  · skip
    have g6 : d < 99 := (nI_ltI (a := d) (b := 99) (by omega) (by omega)).mp b6
    exact absurd g6 hd9
  · skip
    have g6 : ¬ d < 99 := fun zz => b6 ((nI_ltI (a := d) (b := 99) (by omega) (by omega)).mpr zz)
    exact thS (text := "the day is 99") S hst hex hlk hZ hP x_ise (by decide) hl.1 dX5_endDay_9 dX5_endDay_12 dX5_endDay_13 dX5_endDay_15 dX5_endDay_18 ⟨Nat.le_of_ble_eq_true rfl, Nat.le_of_ble_eq_true rfl, Nat.le_of_ble_eq_true rfl, Nat.le_of_ble_eq_true rfl⟩

set_option maxHeartbeats 4000000 in
set_option maxRecDepth 100000 in
theorem cx_stateOf (l : Launch) (dg : va_G) (cA : Nat → ClassId) (hst : l.stackTraces = false) (ad : Nat → Nat) (nh ni : Nat) (c : St) (hn : c 0 4 = nI nh) (hn24 : nh ≤ 24) (v : Int32) (hv : ¬ (¬ v < 0 ∧ v < nI nh)) : MetX l dg cA yX5_stateOf cX5_stateOf 2 (some .char) ({ frames := 7, cells := 1, slots := 6, locals := 103 } : Room) (cw cA ad nh ni c) [.ref (ad 0), .int v] "java/lang/IndexOutOfBoundsException" := by
  refine ofX (by decide) (Nat.le_of_ble_eq_true rfl) (own := RX5) rfl (fun p e s0 m args below meth ccd ls S hlk hex hargs hK hZ hP hl => ?_)
  have hx := S.1
  have hb := S.2.1
  have hl : lv_has ls 2 [(0, .ref (ad 0)), (1, .int v)] := hl
  refine lv_aload_n hx hb dX5_stateOf_0 rfl (lv_at hl 0 rfl) ?_
  refine lv_iload_n hx hb dX5_stateOf_1 rfl (lv_at hl 1 rfl) ?_
  exact cX S hex hlk (cx_hN l dg cA hst ad nh ni c hn hn24 v hv) kX5_140 ⟨rfl, rfl, Nat.le_of_ble_eq_true rfl, Nat.le_of_ble_eq_true rfl⟩ hK hZ hP 0 cl_0 (q := (RX5, TX5, 9)) rfl rfl (As := [.int v]) rfl hl.1 (rest := []) rfl (Nat.le_of_ble_eq_true rfl) dX5_stateOf_2 ⟨Nat.le_of_ble_eq_true rfl, Nat.le_of_ble_eq_true rfl⟩

set_option maxHeartbeats 4000000 in
set_option maxRecDepth 100000 in
theorem cx_wantedFrom1 (l : Launch) (dg : va_G) (cA : Nat → ClassId) (hst : l.stackTraces = false) (ad : Nat → Nat) (nh ni : Nat) (c : St) (hn : c 0 4 = nI nh) (hn24 : nh ≤ 24) (v : Int32) (hv : ¬ (¬ v < 0 ∧ v < nI nh)) : MetX l dg cA yX5_wantedFrom cX5_wantedFrom 3 (some .int) ({ frames := 7, cells := 1, slots := 6, locals := 103 } : Room) (cw cA ad nh ni c) [.ref (ad 0), .int v] "java/lang/IndexOutOfBoundsException" := by
  refine ofX (by decide) (Nat.le_of_ble_eq_true rfl) (own := RX5) rfl (fun p e s0 m args below meth ccd ls S hlk hex hargs hK hZ hP hl => ?_)
  have hx := S.1
  have hb := S.2.1
  have hl : lv_has ls 3 [(0, .ref (ad 0)), (1, .int v)] := hl
  refine lv_aload_n hx hb dX5_wantedFrom_0 rfl (lv_at hl 0 rfl) ?_
  refine lv_iload_n hx hb dX5_wantedFrom_1 rfl (lv_at hl 1 rfl) ?_
  exact cX S hex hlk (cx_hN l dg cA hst ad nh ni c hn hn24 v hv) kX5_140 ⟨rfl, rfl, Nat.le_of_ble_eq_true rfl, Nat.le_of_ble_eq_true rfl⟩ hK hZ hP 0 cl_0 (q := (RX5, TX5, 9)) rfl rfl (As := [.int v]) rfl hl.1 (rest := []) rfl (Nat.le_of_ble_eq_true rfl) dX5_wantedFrom_2 ⟨Nat.le_of_ble_eq_true rfl, Nat.le_of_ble_eq_true rfl⟩

set_option maxHeartbeats 4000000 in
set_option maxRecDepth 100000 in
theorem cx_codeOf (l : Launch) (dg : va_G) (cA : Nat → ClassId) (hst : l.stackTraces = false) (ad : Nat → Nat) (nh ni : Nat) (c : St) (hn : c 0 4 = nI nh) (hn24 : nh ≤ 24) (v : Int32) (hv : ¬ (¬ v < 0 ∧ v < nI nh)) : MetX l dg cA yX5_codeOf cX5_codeOf 3 (some .int) ({ frames := 7, cells := 1, slots := 6, locals := 103 } : Room) (cw cA ad nh ni c) [.ref (ad 0), .int v] "java/lang/IndexOutOfBoundsException" := by
  refine ofX (by decide) (Nat.le_of_ble_eq_true rfl) (own := RX5) rfl (fun p e s0 m args below meth ccd ls S hlk hex hargs hK hZ hP hl => ?_)
  have hx := S.1
  have hb := S.2.1
  have hl : lv_has ls 3 [(0, .ref (ad 0)), (1, .int v)] := hl
  refine lv_aload_n hx hb dX5_codeOf_0 rfl (lv_at hl 0 rfl) ?_
  refine lv_iload_n hx hb dX5_codeOf_1 rfl (lv_at hl 1 rfl) ?_
  exact cX S hex hlk (cx_hN l dg cA hst ad nh ni c hn hn24 v hv) kX5_140 ⟨rfl, rfl, Nat.le_of_ble_eq_true rfl, Nat.le_of_ble_eq_true rfl⟩ hK hZ hP 0 cl_0 (q := (RX5, TX5, 9)) rfl rfl (As := [.int v]) rfl hl.1 (rest := []) rfl (Nat.le_of_ble_eq_true rfl) dX5_codeOf_2 ⟨Nat.le_of_ble_eq_true rfl, Nat.le_of_ble_eq_true rfl⟩

set_option maxHeartbeats 4000000 in
set_option maxRecDepth 100000 in
theorem cx_wantedFrom2 (l : Launch) (dg : va_G) (cA : Nat → ClassId) (hst : l.stackTraces = false) (ad : Nat → Nat) (nh ni : Nat) (c : St) (hn : c 0 4 = nI nh) (hn24 : nh ≤ 24) (h : Nat) (hh : h < nh) (hs : ¬ c 21 h = 119) : MetX l dg cA yX5_wantedFrom cX5_wantedFrom 3 (some .int) ({ frames := 6, cells := 1, slots := 6, locals := 82 } : Room) (cw cA ad nh ni c) [.ref (ad 0), .int (nI h)] "java/lang/IllegalStateException" := by
  refine ofX (by decide) (Nat.le_of_ble_eq_true rfl) (own := RX5) rfl (fun p e s0 m args below meth ccd ls S hlk hex hargs hK hZ hP hl => ?_)
  have hx := S.1
  have hb := S.2.1
  have hl : lv_has ls 3 [(0, .ref (ad 0)), (1, .int (nI h))] := hl
  refine lv_aload_n hx hb dX5_wantedFrom_0 rfl (lv_at hl 0 rfl) ?_
  refine lv_iload_n hx hb dX5_wantedFrom_1 rfl (lv_at hl 1 rfl) ?_
  refine cR S (cc_hN l dg cA ad nh ni c hn hn24 h hh) kX5_140 ⟨rfl, rfl, Nat.le_of_ble_eq_true rfl, Nat.le_of_ble_eq_true rfl⟩ hK hP 0 cl_0 (q := (RX5, TX5, 9)) rfl rfl (As := [.int (nI h)]) rfl hl.1 (rest := []) rfl (Nat.le_of_ble_eq_true rfl) dX5_wantedFrom_2 ⟨Nat.le_of_ble_eq_true rfl, Nat.le_of_ble_eq_true rfl⟩ (st1 := [.ref (ad (30 + h))]) rfl ?_
  refine lv_astore_n (lv' := [(2, .ref (ad (30 + h))), (0, .ref (ad 0)), (1, .int (nI h))]) hx hb dX5_wantedFrom_5 rfl hl (by decide) rfl (fun ls hl => ?_)
  refine lv_aload_n hx hb dX5_wantedFrom_6 rfl (lv_at hl 0 rfl) ?_
  refine gf S hK hP (22 + h) (cl_h (by omega)) fX5_182 (v := .int (c 21 h)) (ch_1 rfl) dX5_wantedFrom_7 ?_
  refine lv_bipush (v := 119) hx hb dX5_wantedFrom_10 (by decide) ?_
  refine lv_icmp_eq (tgt := 25) hx hb dX5_wantedFrom_12 (by decide) (fun b12 => ?_) (fun b12 => ?_)
  · skip
    exact absurd b12 hs
  · skip
    exact thS (text := "the house is not wanted") S hst hex hlk hZ hP x_ise (by decide) hl.1 dX5_wantedFrom_15 dX5_wantedFrom_18 dX5_wantedFrom_19 dX5_wantedFrom_21 dX5_wantedFrom_24 ⟨Nat.le_of_ble_eq_true rfl, Nat.le_of_ble_eq_true rfl, Nat.le_of_ble_eq_true rfl, Nat.le_of_ble_eq_true rfl⟩

set_option maxHeartbeats 4000000 in
set_option maxRecDepth 100000 in
theorem cx_answerOf1 (l : Launch) (dg : va_G) (cA : Nat → ClassId) (hst : l.stackTraces = false) (ad : Nat → Nat) (nh ni : Nat) (c : St) (hn : c 0 4 = nI nh) (hn24 : nh ≤ 24) (v : Int32) (hv : ¬ (¬ v < 0 ∧ v < nI nh)) : MetX l dg cA yX5_answerOf cX5_answerOf 2 (some .int) ({ frames := 8, cells := 1, slots := 6, locals := 124 } : Room) (cw cA ad nh ni c) [.ref (ad 0), .int v] "java/lang/IndexOutOfBoundsException" := by
  refine ofX (by decide) (Nat.le_of_ble_eq_true rfl) (own := RX5) rfl (fun p e s0 m args below meth ccd ls S hlk hex hargs hK hZ hP hl => ?_)
  have hx := S.1
  have hb := S.2.1
  have hl : lv_has ls 2 [(0, .ref (ad 0)), (1, .int v)] := hl
  refine lv_aload_n hx hb dX5_answerOf_0 rfl (lv_at hl 0 rfl) ?_
  refine lv_iload_n hx hb dX5_answerOf_1 rfl (lv_at hl 1 rfl) ?_
  exact cX S hex hlk (cx_rW l dg cA hst ad nh ni c hn hn24 v hv) kX5_214 ⟨rfl, rfl, Nat.le_of_ble_eq_true rfl, Nat.le_of_ble_eq_true rfl⟩ hK hZ hP 0 cl_0 (q := (RX5, TX5, 9)) rfl rfl (As := [.int v]) rfl hl.1 (rest := []) rfl (Nat.le_of_ble_eq_true rfl) dX5_answerOf_2 ⟨Nat.le_of_ble_eq_true rfl, Nat.le_of_ble_eq_true rfl⟩

set_option maxHeartbeats 4000000 in
set_option maxRecDepth 100000 in
theorem cx_weight1 (l : Launch) (dg : va_G) (cA : Nat → ClassId) (hst : l.stackTraces = false) (ad : Nat → Nat) (nh ni : Nat) (c : St) (hn : c 0 4 = nI nh) (hn24 : nh ≤ 24) (v : Int32) (hv : ¬ (¬ v < 0 ∧ v < nI nh)) : MetX l dg cA yX5_weight cX5_weight 2 (some .int) ({ frames := 8, cells := 1, slots := 6, locals := 124 } : Room) (cw cA ad nh ni c) [.ref (ad 0), .int v] "java/lang/IndexOutOfBoundsException" := by
  refine ofX (by decide) (Nat.le_of_ble_eq_true rfl) (own := RX5) rfl (fun p e s0 m args below meth ccd ls S hlk hex hargs hK hZ hP hl => ?_)
  have hx := S.1
  have hb := S.2.1
  have hl : lv_has ls 2 [(0, .ref (ad 0)), (1, .int v)] := hl
  refine lv_aload_n hx hb dX5_weight_0 rfl (lv_at hl 0 rfl) ?_
  refine lv_iload_n hx hb dX5_weight_1 rfl (lv_at hl 1 rfl) ?_
  exact cX S hex hlk (cx_rW l dg cA hst ad nh ni c hn hn24 v hv) kX5_214 ⟨rfl, rfl, Nat.le_of_ble_eq_true rfl, Nat.le_of_ble_eq_true rfl⟩ hK hZ hP 0 cl_0 (q := (RX5, TX5, 9)) rfl rfl (As := [.int v]) rfl hl.1 (rest := []) rfl (Nat.le_of_ble_eq_true rfl) dX5_weight_2 ⟨Nat.le_of_ble_eq_true rfl, Nat.le_of_ble_eq_true rfl⟩

set_option maxHeartbeats 4000000 in
set_option maxRecDepth 100000 in
theorem cx_weightAnew1 (l : Launch) (dg : va_G) (cA : Nat → ClassId) (hst : l.stackTraces = false) (ad : Nat → Nat) (nh ni : Nat) (c : St) (hn : c 0 4 = nI nh) (hn24 : nh ≤ 24) (v : Int32) (hv : ¬ (¬ v < 0 ∧ v < nI nh)) : MetX l dg cA yX5_weightAnew cX5_weightAnew 2 (some .int) ({ frames := 8, cells := 1, slots := 6, locals := 124 } : Room) (cw cA ad nh ni c) [.ref (ad 0), .int v] "java/lang/IndexOutOfBoundsException" := by
  refine ofX (by decide) (Nat.le_of_ble_eq_true rfl) (own := RX5) rfl (fun p e s0 m args below meth ccd ls S hlk hex hargs hK hZ hP hl => ?_)
  have hx := S.1
  have hb := S.2.1
  have hl : lv_has ls 2 [(0, .ref (ad 0)), (1, .int v)] := hl
  refine lv_aload_n hx hb dX5_weightAnew_0 rfl (lv_at hl 0 rfl) ?_
  refine lv_iload_n hx hb dX5_weightAnew_1 rfl (lv_at hl 1 rfl) ?_
  exact cX S hex hlk (cx_rW l dg cA hst ad nh ni c hn hn24 v hv) kX5_214 ⟨rfl, rfl, Nat.le_of_ble_eq_true rfl, Nat.le_of_ble_eq_true rfl⟩ hK hZ hP 0 cl_0 (q := (RX5, TX5, 9)) rfl rfl (As := [.int v]) rfl hl.1 (rest := []) rfl (Nat.le_of_ble_eq_true rfl) dX5_weightAnew_2 ⟨Nat.le_of_ble_eq_true rfl, Nat.le_of_ble_eq_true rfl⟩

set_option maxHeartbeats 4000000 in
set_option maxRecDepth 100000 in
theorem cx_faults (l : Launch) (dg : va_G) (cA : Nat → ClassId) (hst : l.stackTraces = false) (ad : Nat → Nat) (nh ni : Nat) (c : St) (hni : c 0 0 = nI ni) (hni4 : ni ≤ 4) (v : Int32) (hv : ¬ (¬ v < 0 ∧ v < nI ni)) : MetX l dg cA yX5_faults cX5_faults 2 (some .int) ({ frames := 7, cells := 1, slots := 6, locals := 103 } : Room) (cw cA ad nh ni c) [.ref (ad 0), .int v] "java/lang/IndexOutOfBoundsException" := by
  refine ofX (by decide) (Nat.le_of_ble_eq_true rfl) (own := RX5) rfl (fun p e s0 m args below meth ccd ls S hlk hex hargs hK hZ hP hl => ?_)
  have hx := S.1
  have hb := S.2.1
  have hl : lv_has ls 2 [(0, .ref (ad 0)), (1, .int v)] := hl
  refine lv_aload_n hx hb dX5_faults_0 rfl (lv_at hl 0 rfl) ?_
  refine lv_iload_n hx hb dX5_faults_1 rfl (lv_at hl 1 rfl) ?_
  exact cX S hex hlk (cx_rI l dg cA hst ad nh ni c hni hni4 v hv) kX5_217 ⟨rfl, rfl, Nat.le_of_ble_eq_true rfl, Nat.le_of_ble_eq_true rfl⟩ hK hZ hP 0 cl_0 (q := (RX5, TX5, 9)) rfl rfl (As := [.int v]) rfl hl.1 (rest := []) rfl (Nat.le_of_ble_eq_true rfl) dX5_faults_2 ⟨Nat.le_of_ble_eq_true rfl, Nat.le_of_ble_eq_true rfl⟩

set_option maxHeartbeats 4000000 in
set_option maxRecDepth 100000 in
theorem cx_answersTo (l : Launch) (dg : va_G) (cA : Nat → ClassId) (hst : l.stackTraces = false) (ad : Nat → Nat) (nh ni : Nat) (c : St) (hni : c 0 0 = nI ni) (hni4 : ni ≤ 4) (v : Int32) (hv : ¬ (¬ v < 0 ∧ v < nI ni)) : MetX l dg cA yX5_answersTo cX5_answersTo 4 (some .int) ({ frames := 7, cells := 1, slots := 6, locals := 103 } : Room) (cw cA ad nh ni c) [.ref (ad 0), .int v] "java/lang/IndexOutOfBoundsException" := by
  refine ofX (by decide) (Nat.le_of_ble_eq_true rfl) (own := RX5) rfl (fun p e s0 m args below meth ccd ls S hlk hex hargs hK hZ hP hl => ?_)
  have hx := S.1
  have hb := S.2.1
  have hl : lv_has ls 4 [(0, .ref (ad 0)), (1, .int v)] := hl
  refine lv_aload_n hx hb dX5_answersTo_0 rfl (lv_at hl 0 rfl) ?_
  refine lv_iload_n hx hb dX5_answersTo_1 rfl (lv_at hl 1 rfl) ?_
  exact cX S hex hlk (cx_rI l dg cA hst ad nh ni c hni hni4 v hv) kX5_217 ⟨rfl, rfl, Nat.le_of_ble_eq_true rfl, Nat.le_of_ble_eq_true rfl⟩ hK hZ hP 0 cl_0 (q := (RX5, TX5, 9)) rfl rfl (As := [.int v]) rfl hl.1 (rest := []) rfl (Nat.le_of_ble_eq_true rfl) dX5_answersTo_2 ⟨Nat.le_of_ble_eq_true rfl, Nat.le_of_ble_eq_true rfl⟩

set_option maxHeartbeats 4000000 in
set_option maxRecDepth 100000 in
theorem cx_target (l : Launch) (dg : va_G) (cA : Nat → ClassId) (hst : l.stackTraces = false) (ad : Nat → Nat) (nh ni : Nat) (c : St) (ns : Nat) (hns : c 0 3 = nI ns) (hns4 : ns ≤ 4) (v : Int32) (hv : ¬ (¬ v < 0 ∧ v < nI ns)) : MetX l dg cA yX5_target cX5_target 2 (some .int) ({ frames := 7, cells := 1, slots := 6, locals := 103 } : Room) (cw cA ad nh ni c) [.ref (ad 0), .int v] "java/lang/IndexOutOfBoundsException" := by
  refine ofX (by decide) (Nat.le_of_ble_eq_true rfl) (own := RX5) rfl (fun p e s0 m args below meth ccd ls S hlk hex hargs hK hZ hP hl => ?_)
  have hx := S.1
  have hb := S.2.1
  have hl : lv_has ls 2 [(0, .ref (ad 0)), (1, .int v)] := hl
  refine lv_aload_n hx hb dX5_target_0 rfl (lv_at hl 0 rfl) ?_
  refine lv_iload_n hx hb dX5_target_1 rfl (lv_at hl 1 rfl) ?_
  exact cX S hex hlk (cx_rS l dg cA hst ad nh ni c ns hns hns4 v hv) kX5_71 ⟨rfl, rfl, Nat.le_of_ble_eq_true rfl, Nat.le_of_ble_eq_true rfl⟩ hK hZ hP 0 cl_0 (q := (RX5, TX5, 9)) rfl rfl (As := [.int v]) rfl hl.1 (rest := []) rfl (Nat.le_of_ble_eq_true rfl) dX5_target_2 ⟨Nat.le_of_ble_eq_true rfl, Nat.le_of_ble_eq_true rfl⟩

set_option maxHeartbeats 4000000 in
set_option maxRecDepth 100000 in
theorem cx_wol (l : Launch) (dg : va_G) (cA : Nat → ClassId) (hst : l.stackTraces = false) (ad : Nat → Nat) (nh ni : Nat) (c : St) (v : Int32) (hv : ¬ (¬ v < 0 ∧ ¬ 2 < v)) : MetX l dg cA yX5_weightOfLanguage cX5_weightOfLanguage 2 (some .int) ({ frames := 7, cells := 1, slots := 6, locals := 103 } : Room) (cw cA ad nh ni c) [.ref (ad 0), .int v] "java/lang/IllegalArgumentException" := by
  refine ofX (by decide) (Nat.le_of_ble_eq_true rfl) (own := RX5) rfl (fun p e s0 m args below meth ccd ls S hlk hex hargs hK hZ hP hl => ?_)
  have hx := S.1
  have hb := S.2.1
  have hl : lv_has ls 2 [(0, .ref (ad 0)), (1, .int v)] := hl
  refine lv_aload_n hx hb dX5_weightOfLanguage_0 rfl (lv_at hl 0 rfl) ?_
  refine lv_iload_n hx hb dX5_weightOfLanguage_1 rfl (lv_at hl 1 rfl) ?_
  exact cX S hex hlk (cx_rL l dg cA hst ad nh ni c v hv) kX5_78 ⟨rfl, rfl, Nat.le_of_ble_eq_true rfl, Nat.le_of_ble_eq_true rfl⟩ hK hZ hP 0 cl_0 (q := (RX5, TX5, 9)) rfl rfl (As := [.int v]) rfl hl.1 (rest := []) rfl (Nat.le_of_ble_eq_true rfl) dX5_weightOfLanguage_2 ⟨Nat.le_of_ble_eq_true rfl, Nat.le_of_ble_eq_true rfl⟩

set_option maxHeartbeats 4000000 in
set_option maxRecDepth 100000 in
theorem cx_mean (l : Launch) (dg : va_G) (cA : Nat → ClassId) (hst : l.stackTraces = false) (ad : Nat → Nat) (nh ni : Nat) (c : St) (hn : c 0 4 = nI nh) (hn24 : nh ≤ 24) (hz : lg_cmp (c_s64 (c 8) nh) 0 = 0) : MetX l dg cA yX5_weightedMean cX5_weightedMean 3 (some .double) ({ frames := 6, cells := 1, slots := 6, locals := 82 } : Room) (cw cA ad nh ni c) [.ref (ad 0)] "java/lang/ArithmeticException" := by
  refine ofX (by decide) (Nat.le_of_ble_eq_true rfl) (own := RX5) rfl (fun p e s0 m args below meth ccd ls S hlk hex hargs hK hZ hP hl => ?_)
  have hx := S.1
  have hb := S.2.1
  have hl : lv_has ls 3 [(0, .ref (ad 0))] := hl
  refine lv_aload_n hx hb dX5_weightedMean_0 rfl (lv_at hl 0 rfl) ?_
  refine cR S (cc_sumW l dg cA ad nh ni c hn hn24) kX5_243 ⟨rfl, rfl, Nat.le_of_ble_eq_true rfl, Nat.le_of_ble_eq_true rfl⟩ hK hP 0 cl_0 (q := (RX5, TX5, 9)) rfl rfl (As := []) rfl hl.1 (rest := []) rfl (Nat.le_of_ble_eq_true rfl) dX5_weightedMean_1 ⟨Nat.le_of_ble_eq_true rfl, Nat.le_of_ble_eq_true rfl⟩ (st1 := [.long (c_s64 (c 8) nh)]) rfl ?_
  refine lv_lstore_n (lv' := [(1, .long (c_s64 (c 8) nh)), (0, .ref (ad 0))]) hx hb dX5_weightedMean_4 rfl hl (by decide) rfl (fun ls hl => ?_)
  refine lv_lload_n hx hb dX5_weightedMean_5 rfl (lv_at hl 0 rfl) ?_
  refine lv_lconst (v := 0) hx hb dX5_weightedMean_6 (by decide) ?_
  refine W.lcmp hx hb dX5_weightedMean_7 ?_
  refine lv_if_ne (tgt := 21) hx hb dX5_weightedMean_8 (by decide) (fun b8 => ?_) (fun b8 => ?_)
  · skip
    exact absurd hz b8
  · skip
    exact thS (text := "the sum of the weights is 0") S hst hex hlk hZ hP x_are (by decide) hl.1 dX5_weightedMean_11 dX5_weightedMean_14 dX5_weightedMean_15 dX5_weightedMean_17 dX5_weightedMean_20 ⟨Nat.le_of_ble_eq_true rfl, Nat.le_of_ble_eq_true rfl, Nat.le_of_ble_eq_true rfl, Nat.le_of_ble_eq_true rfl⟩

set_option maxHeartbeats 4000000 in
set_option maxRecDepth 100000 in
theorem cx_rate (l : Launch) (dg : va_G) (cA : Nat → ClassId) (hst : l.stackTraces = false) (ad : Nat → Nat) (nh ni : Nat) (c : St) (hn : c 0 4 = nI nh) (hn24 : nh ≤ 24) (hz : nI (ct (fun h => decide (¬ c 21 h = 117) && decide (¬ c 21 h = 101)) nh) = 0) : MetX l dg cA yX5_rate cX5_rate 5 (some .float) ({ frames := 6, cells := 1, slots := 6, locals := 82 } : Room) (cw cA ad nh ni c) [.ref (ad 0)] "java/lang/ArithmeticException" := by
  refine ofX (by decide) (Nat.le_of_ble_eq_true rfl) (own := RX5) rfl (fun p e s0 m args below meth ccd ls S hlk hex hargs hK hZ hP hl => ?_)
  have hx := S.1
  have hb := S.2.1
  have hl : lv_has ls 5 [(0, .ref (ad 0))] := hl
  refine lv_iconst (v := 0) hx hb dX5_rate_0 (by decide) ?_
  refine lv_istore_n (lv' := [(1, .int 0), (0, .ref (ad 0))]) hx hb dX5_rate_1 rfl hl (by decide) rfl (fun ls hl => ?_)
  refine lv_iconst (v := 0) hx hb dX5_rate_2 (by decide) ?_
  refine lv_istore_n (lv' := [(2, .int 0), (1, .int 0), (0, .ref (ad 0))]) hx hb dX5_rate_3 rfl hl (by decide) rfl (fun ls hl => ?_)
  refine lv_iconst (v := 0) hx hb dX5_rate_4 (by decide) ?_
  refine lv_istore_n (lv' := [(3, .int 0), (2, .int 0), (1, .int 0), (0, .ref (ad 0))]) hx hb dX5_rate_5 rfl hl (by decide) rfl (fun ls hl => ?_)
  have hL6 : ∀ (f : Nat) (j : Nat), nh - j < f → (j ≤ nh) → ∀ ls, lv_has ls 5 [(0, .ref (ad 0)), (1, .int (nI (ct (fun h => decide (c 21 h = 97)) j))), (2, .int (nI (ct (fun h => decide (¬ c 21 h = 117) && decide (¬ c 21 h = 101)) j))), (3, .int (nI j))] → W p l e ({ frames := 6, cells := 1, slots := 6, locals := 82 } : Room) s0 m args below meth ccd s0.heap [] 0 0 (vx_MQ below QcF (XCE dg (cw cA ad nh ni c) "java/lang/ArithmeticException") args s0 1 6 (fun _ => False)) (F0 m 6 ls []) := by
    intro f
    induction f with
    | zero => intro j hm; exact absurd hm (Nat.not_lt_zero _)
    | succ f ih6 =>
      intro j hm6 hj ls hl
      refine lv_iload_n hx hb dX5_rate_6 rfl (lv_at hl 3 rfl) ?_
      refine lv_aload_n hx hb dX5_rate_7 rfl (lv_at hl 0 rfl) ?_
      refine gf S hK hP 0 cl_0 fX5_10 (v := .ref (ad 1)) cfb_0 dX5_rate_8 ?_
      refine gf S hK hP 1 cl_1 fX5_81 (v := .int (nI nh)) (cfr_5 hn) dX5_rate_11 ?_
      refine lv_icmp_ge (tgt := 61) hx hb dX5_rate_14 (by decide) (fun b14 => ?_) (fun b14 => ?_)
      · skip
        have g14 : nh ≤ j := (nI_leI (a := nh) (b := j) (by omega) (by omega)).mp b14
        have ej : j = nh := by omega
        rw [ej] at hl
        refine lv_iload_n hx hb dX5_rate_61 rfl (lv_at hl 2 rfl) ?_
        refine lv_if_ne (tgt := 75) hx hb dX5_rate_62 (by decide) (fun b62 => ?_) (fun b62 => ?_)
        · skip
          exact absurd hz b62
        · skip
          exact thS (text := "no house was drawn that is not empty") S hst hex hlk hZ hP x_are (by decide) hl.1 dX5_rate_65 dX5_rate_68 dX5_rate_69 dX5_rate_71 dX5_rate_74 ⟨Nat.le_of_ble_eq_true rfl, Nat.le_of_ble_eq_true rfl, Nat.le_of_ble_eq_true rfl, Nat.le_of_ble_eq_true rfl⟩
      · skip
        have g14 : ¬ nh ≤ j := fun zz => b14 ((nI_leI (a := nh) (b := j) (by omega) (by omega)).mpr zz)
        refine lv_aload_n hx hb dX5_rate_17 rfl (lv_at hl 0 rfl) ?_
        refine gf S hK hP 0 cl_0 fX5_18 (v := .ref (ad 6)) cfb_1 dX5_rate_18 ?_
        refine lv_iload_n hx hb dX5_rate_21 rfl (lv_at hl 3 rfl) ?_
        refine qld S hK hP 6 2 cl_6 (C := RX2) rfl (j := j) (b := ad (30 + j)) (by omega) (Nat.le_of_ble_eq_true rfl) (chs_at (by omega)) dX5_rate_22 ?_
        refine gf S hK hP (22 + j) (cl_h (by omega)) fX5_182 (v := .int (c 21 j)) (ch_1 rfl) dX5_rate_23 ?_
        refine lv_istore (lv' := [(4, .int (c 21 j)), (0, .ref (ad 0)), (1, .int (nI (ct (fun h => decide (c 21 h = 97)) j))), (2, .int (nI (ct (fun h => decide (¬ c 21 h = 117) && decide (¬ c 21 h = 101)) j))), (3, .int (nI j))]) hx hb dX5_rate_26 hl (by decide) rfl (fun ls hl => ?_)
        refine lv_iload hx hb dX5_rate_28 (lv_at hl 0 rfl) ?_
        refine lv_bipush (v := 97) hx hb dX5_rate_30 (by decide) ?_
        refine lv_icmp_ne (tgt := 38) hx hb dX5_rate_32 (by decide) (fun b32 => ?_) (fun b32 => ?_)
        · skip
          refine lv_iload hx hb dX5_rate_38 (lv_at hl 0 rfl) ?_
          refine lv_bipush (v := 117) hx hb dX5_rate_40 (by decide) ?_
          refine lv_icmp_eq (tgt := 55) hx hb dX5_rate_42 (by decide) (fun b42 => ?_) (fun b42 => ?_)
          · skip
            refine lv_iinc (v := nI (j + 1)) (lv' := [(3, .int (nI (j + 1))), (4, .int (c 21 j)), (0, .ref (ad 0)), (1, .int (nI (ct (fun h => decide (c 21 h = 97)) j))), (2, .int (nI (ct (fun h => decide (¬ c 21 h = 117) && decide (¬ c 21 h = 101)) j)))]) hx hb dX5_rate_55 hl (k := 4) rfl (nI_1 j) (by decide) rfl (fun ls hl => ?_)
            refine lv_goto (tgt := 6) hx hb dX5_rate_58 (by decide) ?_
            exact ih6 (j + 1) (by omega) (by omega) ls (lv_cast (lv_sub (l' := [(0, .ref (ad 0)), (1, .int (nI (ct (fun h => decide (c 21 h = 97)) j))), (2, .int (nI (ct (fun h => decide (¬ c 21 h = 117) && decide (¬ c 21 h = 101)) j))), (3, .int (nI (j + 1)))]) hl [2, 3, 4, 0] rfl) (by simp [ct, nI_1, b32, b42]))
          · skip
            refine lv_iload hx hb dX5_rate_45 (lv_at hl 0 rfl) ?_
            refine lv_bipush (v := 101) hx hb dX5_rate_47 (by decide) ?_
            refine lv_icmp_eq (tgt := 55) hx hb dX5_rate_49 (by decide) (fun b49 => ?_) (fun b49 => ?_)
            · skip
              refine lv_iinc (v := nI (j + 1)) (lv' := [(3, .int (nI (j + 1))), (4, .int (c 21 j)), (0, .ref (ad 0)), (1, .int (nI (ct (fun h => decide (c 21 h = 97)) j))), (2, .int (nI (ct (fun h => decide (¬ c 21 h = 117) && decide (¬ c 21 h = 101)) j)))]) hx hb dX5_rate_55 hl (k := 4) rfl (nI_1 j) (by decide) rfl (fun ls hl => ?_)
              refine lv_goto (tgt := 6) hx hb dX5_rate_58 (by decide) ?_
              exact ih6 (j + 1) (by omega) (by omega) ls (lv_cast (lv_sub (l' := [(0, .ref (ad 0)), (1, .int (nI (ct (fun h => decide (c 21 h = 97)) j))), (2, .int (nI (ct (fun h => decide (¬ c 21 h = 117) && decide (¬ c 21 h = 101)) j))), (3, .int (nI (j + 1)))]) hl [2, 3, 4, 0] rfl) (by simp [ct, nI_1, b32, b42, b49]))
            · skip
              refine lv_iinc (v := nI (ct (fun h => decide (¬ c 21 h = 117) && decide (¬ c 21 h = 101)) j + 1)) (lv' := [(2, .int (nI (ct (fun h => decide (¬ c 21 h = 117) && decide (¬ c 21 h = 101)) j + 1))), (4, .int (c 21 j)), (0, .ref (ad 0)), (1, .int (nI (ct (fun h => decide (c 21 h = 97)) j))), (3, .int (nI j))]) hx hb dX5_rate_52 hl (k := 3) rfl (nI_1 (ct (fun h => decide (¬ c 21 h = 117) && decide (¬ c 21 h = 101)) j)) (by decide) rfl (fun ls hl => ?_)
              refine lv_iinc (v := nI (j + 1)) (lv' := [(3, .int (nI (j + 1))), (2, .int (nI (ct (fun h => decide (¬ c 21 h = 117) && decide (¬ c 21 h = 101)) j + 1))), (4, .int (c 21 j)), (0, .ref (ad 0)), (1, .int (nI (ct (fun h => decide (c 21 h = 97)) j)))]) hx hb dX5_rate_55 hl (k := 4) rfl (nI_1 j) (by decide) rfl (fun ls hl => ?_)
              refine lv_goto (tgt := 6) hx hb dX5_rate_58 (by decide) ?_
              exact ih6 (j + 1) (by omega) (by omega) ls (lv_cast (lv_sub (l' := [(0, .ref (ad 0)), (1, .int (nI (ct (fun h => decide (c 21 h = 97)) j))), (2, .int (nI (ct (fun h => decide (¬ c 21 h = 117) && decide (¬ c 21 h = 101)) j + 1))), (3, .int (nI (j + 1)))]) hl [3, 4, 1, 0] rfl) (by simp [ct, nI_1, b32, b42, b49]))
        · skip
          refine lv_iinc (v := nI (ct (fun h => decide (c 21 h = 97)) j + 1)) (lv' := [(1, .int (nI (ct (fun h => decide (c 21 h = 97)) j + 1))), (4, .int (c 21 j)), (0, .ref (ad 0)), (2, .int (nI (ct (fun h => decide (¬ c 21 h = 117) && decide (¬ c 21 h = 101)) j))), (3, .int (nI j))]) hx hb dX5_rate_35 hl (k := 2) rfl (nI_1 (ct (fun h => decide (c 21 h = 97)) j)) (by decide) rfl (fun ls hl => ?_)
          refine lv_iload hx hb dX5_rate_38 (lv_at hl 1 rfl) ?_
          refine lv_bipush (v := 117) hx hb dX5_rate_40 (by decide) ?_
          refine lv_icmp_eq (tgt := 55) hx hb dX5_rate_42 (by decide) (fun b42 => ?_) (fun b42 => ?_)
          · skip
            exact absurd (b32.symm.trans b42) (by decide)
          · skip
            refine lv_iload hx hb dX5_rate_45 (lv_at hl 1 rfl) ?_
            refine lv_bipush (v := 101) hx hb dX5_rate_47 (by decide) ?_
            refine lv_icmp_eq (tgt := 55) hx hb dX5_rate_49 (by decide) (fun b49 => ?_) (fun b49 => ?_)
            · skip
              exact absurd (b32.symm.trans b49) (by decide)
            · skip
              refine lv_iinc (v := nI (ct (fun h => decide (¬ c 21 h = 117) && decide (¬ c 21 h = 101)) j + 1)) (lv' := [(2, .int (nI (ct (fun h => decide (¬ c 21 h = 117) && decide (¬ c 21 h = 101)) j + 1))), (1, .int (nI (ct (fun h => decide (c 21 h = 97)) j + 1))), (4, .int (c 21 j)), (0, .ref (ad 0)), (3, .int (nI j))]) hx hb dX5_rate_52 hl (k := 3) rfl (nI_1 (ct (fun h => decide (¬ c 21 h = 117) && decide (¬ c 21 h = 101)) j)) (by decide) rfl (fun ls hl => ?_)
              refine lv_iinc (v := nI (j + 1)) (lv' := [(3, .int (nI (j + 1))), (2, .int (nI (ct (fun h => decide (¬ c 21 h = 117) && decide (¬ c 21 h = 101)) j + 1))), (1, .int (nI (ct (fun h => decide (c 21 h = 97)) j + 1))), (4, .int (c 21 j)), (0, .ref (ad 0))]) hx hb dX5_rate_55 hl (k := 4) rfl (nI_1 j) (by decide) rfl (fun ls hl => ?_)
              refine lv_goto (tgt := 6) hx hb dX5_rate_58 (by decide) ?_
              exact ih6 (j + 1) (by omega) (by omega) ls (lv_cast (lv_sub (l' := [(0, .ref (ad 0)), (1, .int (nI (ct (fun h => decide (c 21 h = 97)) j + 1))), (2, .int (nI (ct (fun h => decide (¬ c 21 h = 117) && decide (¬ c 21 h = 101)) j + 1))), (3, .int (nI (j + 1)))]) hl [4, 2, 1, 0] rfl) (by simp [ct, nI_1, b32, b42, b49]))
  exact hL6 _ 0 (Nat.lt_succ_self _) (Nat.zero_le _) ls (lv_cast (lv_sub (l' := [(0, .ref (ad 0)), (1, .int 0), (2, .int 0), (3, .int 0)]) hl [3, 2, 1, 0] rfl) (by rfl))
