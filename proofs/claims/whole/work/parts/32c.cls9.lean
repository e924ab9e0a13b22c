set_option maxHeartbeats 4000000 in
set_option maxRecDepth 100000 in
theorem cx_roundAt2 (l : Launch) (dg : va_G) (cA : Nat → ClassId) (hst : l.stackTraces = false) (ad : Nat → Nat) (nh ni : Nat) (c : St) (hni : c 0 0 = nI ni) (hni4 : ni ≤ 4) (i : Nat) (hi : i < ni) (sz : Nat) (hs34 : c 34 i = nI sz) (hsz : sz ≤ 24) (v : Int32) (hv : ¬ (¬ v < 0 ∧ v < nI sz)) : MetX l dg cA yX5_roundAt cX5_roundAt 4 (some .int) ({ frames := 6, cells := 1, slots := 6, locals := 82 } : Room) (cw cA ad nh ni c) [.ref (ad 0), .int (nI i), .int v] "java/util/NoSuchElementException" := by
  refine ofX (by decide) (Nat.le_of_ble_eq_true rfl) (own := RX5) rfl (fun p e s0 m args below meth ccd ls S hlk hex hargs hK hZ hP hl => ?_)
  have hx := S.1
  have hb := S.2.1
  have hl : lv_has ls 4 [(0, .ref (ad 0)), (1, .int (nI i)), (2, .int v)] := hl
  refine lv_aload_n hx hb dX5_roundAt_0 rfl (lv_at hl 0 rfl) ?_
  refine lv_iload_n hx hb dX5_roundAt_1 rfl (lv_at hl 1 rfl) ?_
  refine cR S (cc_iN l dg cA ad nh ni c hni hni4 i hi) kX5_121 ⟨rfl, rfl, Nat.le_of_ble_eq_true rfl, Nat.le_of_ble_eq_true rfl⟩ hK hP 0 cl_0 (q := (RX5, TX5, 9)) rfl rfl (As := [.int (nI i)]) rfl hl.1 (rest := []) rfl (Nat.le_of_ble_eq_true rfl) dX5_roundAt_2 ⟨Nat.le_of_ble_eq_true rfl, Nat.le_of_ble_eq_true rfl⟩ (st1 := [.ref (ad (60 + i))]) rfl ?_
  refine lv_astore_n (lv' := [(3, .ref (ad (60 + i))), (0, .ref (ad 0)), (1, .int (nI i)), (2, .int v)]) hx hb dX5_roundAt_5 rfl hl (by decide) rfl (fun ls hl => ?_)
  refine lv_iload_n hx hb dX5_roundAt_6 rfl (lv_at hl 3 rfl) ?_
  refine lv_if_lt (tgt := 18) hx hb dX5_roundAt_7 (by decide) (fun b7 => ?_) (fun b7 => ?_)
  · skip
    exact nhS (text := "there is no such place in the round") S hst hex hlk hZ hP x_nse (by decide) hl.1 dX5_roundAt_18 dX5_roundAt_21 dX5_roundAt_22 dX5_roundAt_24 dX5_roundAt_27 ⟨Nat.le_of_ble_eq_true rfl, Nat.le_of_ble_eq_true rfl, Nat.le_of_ble_eq_true rfl, Nat.le_of_ble_eq_true rfl⟩
  · skip
    refine lv_iload_n hx hb dX5_roundAt_10 rfl (lv_at hl 3 rfl) ?_
    refine lv_aload_n hx hb dX5_roundAt_11 rfl (lv_at hl 0 rfl) ?_
    refine gf S hK hP (22 + (nh + i)) (cl_i (by omega)) fX5_125 (v := .int (nI sz)) (cn_4 hs34) dX5_roundAt_12 ?_
    refine lv_icmp_lt (tgt := 28) hx hb dX5_roundAt_15 (by decide) (fun b15 => ?_) (fun b15 => ?_)
    · skip
      exact absurd ⟨b7, b15⟩ hv
    · skip
      exact nhS (text := "there is no such place in the round") S hst hex hlk hZ hP x_nse (by decide) hl.1 dX5_roundAt_18 dX5_roundAt_21 dX5_roundAt_22 dX5_roundAt_24 dX5_roundAt_27 ⟨Nat.le_of_ble_eq_true rfl, Nat.le_of_ble_eq_true rfl, Nat.le_of_ble_eq_true rfl, Nat.le_of_ble_eq_true rfl⟩

set_option maxHeartbeats 4000000 in
set_option maxRecDepth 100000 in
theorem cx_rW2 (l : Launch) (dg : va_G) (cA : Nat → ClassId) (hst : l.stackTraces = false) (ad : Nat → Nat) (nh ni : Nat) (c : St) (hn : c 0 4 = nI nh) (hn24 : nh ≤ 24) (h : Nat) (hh : h < nh) (hs : ¬ c 21 h = 97) : MetX l dg cA yX5_requireAnswered cX5_requireAnswered 2 none ({ frames := 6, cells := 1, slots := 6, locals := 82 } : Room) (cw cA ad nh ni c) [.ref (ad 0), .int (nI h)] "java/util/NoSuchElementException" := by
  refine ofX (by decide) (Nat.le_of_ble_eq_true rfl) (own := RX5) rfl (fun p e s0 m args below meth ccd ls S hlk hex hargs hK hZ hP hl => ?_)
  have hx := S.1
  have hb := S.2.1
  have hl : lv_has ls 2 [(0, .ref (ad 0)), (1, .int (nI h))] := hl
  refine lv_aload_n hx hb dX5_requireAnswered_0 rfl (lv_at hl 0 rfl) ?_
  refine lv_iload_n hx hb dX5_requireAnswered_1 rfl (lv_at hl 1 rfl) ?_
  refine cR S (cc_hN l dg cA ad nh ni c hn hn24 h hh) kX5_140 ⟨rfl, rfl, Nat.le_of_ble_eq_true rfl, Nat.le_of_ble_eq_true rfl⟩ hK hP 0 cl_0 (q := (RX5, TX5, 9)) rfl rfl (As := [.int (nI h)]) rfl hl.1 (rest := []) rfl (Nat.le_of_ble_eq_true rfl) dX5_requireAnswered_2 ⟨Nat.le_of_ble_eq_true rfl, Nat.le_of_ble_eq_true rfl⟩ (st1 := [.ref (ad (30 + h))]) rfl ?_
  refine gf S hK hP (22 + h) (cl_h (by omega)) fX5_182 (v := .int (c 21 h)) (ch_1 rfl) dX5_requireAnswered_5 ?_
  refine lv_bipush (v := 97) hx hb dX5_requireAnswered_8 (by decide) ?_
  refine lv_icmp_eq (tgt := 24) hx hb dX5_requireAnswered_10 (by decide) (fun b10 => ?_) (fun b10 => ?_)
  · skip
    exact absurd b10 hs
  · skip
    exact nhW (text := "the house has not answered") S hst hex hlk hZ hP x_nse (by decide) hl.1 dX5_requireAnswered_13 dX5_requireAnswered_16 dX5_requireAnswered_17 dX5_requireAnswered_20 dX5_requireAnswered_23 ⟨Nat.le_of_ble_eq_true rfl, Nat.le_of_ble_eq_true rfl, Nat.le_of_ble_eq_true rfl, Nat.le_of_ble_eq_true rfl⟩

set_option maxHeartbeats 4000000 in
set_option maxRecDepth 100000 in
theorem cx_answerOf2 (l : Launch) (dg : va_G) (cA : Nat → ClassId) (hst : l.stackTraces = false) (ad : Nat → Nat) (nh ni : Nat) (c : St) (hn : c 0 4 = nI nh) (hn24 : nh ≤ 24) (h : Nat) (hh : h < nh) (hs : ¬ c 21 h = 97) : MetX l dg cA yX5_answerOf cX5_answerOf 2 (some .int) ({ frames := 7, cells := 1, slots := 6, locals := 103 } : Room) (cw cA ad nh ni c) [.ref (ad 0), .int (nI h)] "java/util/NoSuchElementException" := by
  refine ofX (by decide) (Nat.le_of_ble_eq_true rfl) (own := RX5) rfl (fun p e s0 m args below meth ccd ls S hlk hex hargs hK hZ hP hl => ?_)
  have hx := S.1
  have hb := S.2.1
  have hl : lv_has ls 2 [(0, .ref (ad 0)), (1, .int (nI h))] := hl
  refine lv_aload_n hx hb dX5_answerOf_0 rfl (lv_at hl 0 rfl) ?_
  refine lv_iload_n hx hb dX5_answerOf_1 rfl (lv_at hl 1 rfl) ?_
  exact cX S hex hlk (cx_rW2 l dg cA hst ad nh ni c hn hn24 h hh hs) kX5_214 ⟨rfl, rfl, Nat.le_of_ble_eq_true rfl, Nat.le_of_ble_eq_true rfl⟩ hK hZ hP 0 cl_0 (q := (RX5, TX5, 9)) rfl rfl (As := [.int (nI h)]) rfl hl.1 (rest := []) rfl (Nat.le_of_ble_eq_true rfl) dX5_answerOf_2 ⟨Nat.le_of_ble_eq_true rfl, Nat.le_of_ble_eq_true rfl⟩

set_option maxHeartbeats 4000000 in
set_option maxRecDepth 100000 in
theorem cx_weight2 (l : Launch) (dg : va_G) (cA : Nat → ClassId) (hst : l.stackTraces = false) (ad : Nat → Nat) (nh ni : Nat) (c : St) (hn : c 0 4 = nI nh) (hn24 : nh ≤ 24) (h : Nat) (hh : h < nh) (hs : ¬ c 21 h = 97) : MetX l dg cA yX5_weight cX5_weight 2 (some .int) ({ frames := 7, cells := 1, slots := 6, locals := 103 } : Room) (cw cA ad nh ni c) [.ref (ad 0), .int (nI h)] "java/util/NoSuchElementException" := by
  refine ofX (by decide) (Nat.le_of_ble_eq_true rfl) (own := RX5) rfl (fun p e s0 m args below meth ccd ls S hlk hex hargs hK hZ hP hl => ?_)
  have hx := S.1
  have hb := S.2.1
  have hl : lv_has ls 2 [(0, .ref (ad 0)), (1, .int (nI h))] := hl
  refine lv_aload_n hx hb dX5_weight_0 rfl (lv_at hl 0 rfl) ?_
  refine lv_iload_n hx hb dX5_weight_1 rfl (lv_at hl 1 rfl) ?_
  exact cX S hex hlk (cx_rW2 l dg cA hst ad nh ni c hn hn24 h hh hs) kX5_214 ⟨rfl, rfl, Nat.le_of_ble_eq_true rfl, Nat.le_of_ble_eq_true rfl⟩ hK hZ hP 0 cl_0 (q := (RX5, TX5, 9)) rfl rfl (As := [.int (nI h)]) rfl hl.1 (rest := []) rfl (Nat.le_of_ble_eq_true rfl) dX5_weight_2 ⟨Nat.le_of_ble_eq_true rfl, Nat.le_of_ble_eq_true rfl⟩

set_option maxHeartbeats 4000000 in
set_option maxRecDepth 100000 in
theorem cx_weightAnew2 (l : Launch) (dg : va_G) (cA : Nat → ClassId) (hst : l.stackTraces = false) (ad : Nat → Nat) (nh ni : Nat) (c : St) (hn : c 0 4 = nI nh) (hn24 : nh ≤ 24) (h : Nat) (hh : h < nh) (hs : ¬ c 21 h = 97) : MetX l dg cA yX5_weightAnew cX5_weightAnew 2 (some .int) ({ frames := 7, cells := 1, slots := 6, locals := 103 } : Room) (cw cA ad nh ni c) [.ref (ad 0), .int (nI h)] "java/util/NoSuchElementException" := by
  refine ofX (by decide) (Nat.le_of_ble_eq_true rfl) (own := RX5) rfl (fun p e s0 m args below meth ccd ls S hlk hex hargs hK hZ hP hl => ?_)
  have hx := S.1
  have hb := S.2.1
  have hl : lv_has ls 2 [(0, .ref (ad 0)), (1, .int (nI h))] := hl
  refine lv_aload_n hx hb dX5_weightAnew_0 rfl (lv_at hl 0 rfl) ?_
  refine lv_iload_n hx hb dX5_weightAnew_1 rfl (lv_at hl 1 rfl) ?_
  exact cX S hex hlk (cx_rW2 l dg cA hst ad nh ni c hn hn24 h hh hs) kX5_214 ⟨rfl, rfl, Nat.le_of_ble_eq_true rfl, Nat.le_of_ble_eq_true rfl⟩ hK hZ hP 0 cl_0 (q := (RX5, TX5, 9)) rfl rfl (As := [.int (nI h)]) rfl hl.1 (rest := []) rfl (Nat.le_of_ble_eq_true rfl) dX5_weightAnew_2 ⟨Nat.le_of_ble_eq_true rfl, Nat.le_of_ble_eq_true rfl⟩
