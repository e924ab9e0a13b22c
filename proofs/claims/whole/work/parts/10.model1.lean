set_option maxHeartbeats 4000000 in
set_option maxRecDepth 100000 in
theorem rr_in1 (l : Launch) (dg : va_G) (cA : Nat → ClassId) (ws : va_W) (v lo hi : Int32) (h1 : ¬ v < lo) (h2 : ¬ hi < v) : MetR l dg cA yX6_in cX6_in 3 (some .boolean) ({ frames := 0, cells := 0, slots := 0, locals := 0 } : Room) ws [.int v, .int lo, .int hi] (some (.int 1)) := by
  refine ofR (by decide) (Nat.le_of_ble_eq_true rfl) (own := RX6) rfl (fun p e s0 m args below meth ccd ls S hr hlk hargs hK hP hl => ?_)
  have hx := S.1
  have hb := S.2.1
  have hl : lv_has ls 3 [(0, .int v), (1, .int lo), (2, .int hi)] := hl
  refine lv_iload_n hx hb dX6_in_0 rfl (lv_at hl 0 rfl) ?_
  refine lv_iload_n hx hb dX6_in_1 rfl (lv_at hl 1 rfl) ?_
  refine lv_icmp_lt (tgt := 14) hx hb dX6_in_2 (by decide) (fun b2 => ?_) (fun b2 => ?_)
  · skip
    exact absurd b2 h1
  · skip
    refine lv_iload_n hx hb dX6_in_5 rfl (lv_at hl 0 rfl) ?_
    refine lv_iload_n hx hb dX6_in_6 rfl (lv_at hl 2 rfl) ?_
    refine lv_icmp_gt (tgt := 14) hx hb dX6_in_7 (by decide) (fun b7 => ?_) (fun b7 => ?_)
    · skip
      exact absurd b7 h2
    · skip
      refine lv_iconst (v := 1) hx hb dX6_in_10 (by decide) ?_
      refine lv_goto (tgt := 15) hx hb dX6_in_11 (by decide) ?_
      exact eRz S hr hlk dX6_in_15 rfl rfl

set_option maxHeartbeats 4000000 in
set_option maxRecDepth 100000 in
theorem rr_in0 (l : Launch) (dg : va_G) (cA : Nat → ClassId) (ws : va_W) (v lo hi : Int32) (h1 : ¬ (¬ v < lo ∧ ¬ hi < v)) : MetR l dg cA yX6_in cX6_in 3 (some .boolean) ({ frames := 0, cells := 0, slots := 0, locals := 0 } : Room) ws [.int v, .int lo, .int hi] (some (.int 0)) := by
  refine ofR (by decide) (Nat.le_of_ble_eq_true rfl) (own := RX6) rfl (fun p e s0 m args below meth ccd ls S hr hlk hargs hK hP hl => ?_)
  have hx := S.1
  have hb := S.2.1
  have hl : lv_has ls 3 [(0, .int v), (1, .int lo), (2, .int hi)] := hl
  refine lv_iload_n hx hb dX6_in_0 rfl (lv_at hl 0 rfl) ?_
  refine lv_iload_n hx hb dX6_in_1 rfl (lv_at hl 1 rfl) ?_
  refine lv_icmp_lt (tgt := 14) hx hb dX6_in_2 (by decide) (fun b2 => ?_) (fun b2 => ?_)
  · skip
    refine lv_iconst (v := 0) hx hb dX6_in_14 (by decide) ?_
    exact eRz S hr hlk dX6_in_15 rfl rfl
  · skip
    refine lv_iload_n hx hb dX6_in_5 rfl (lv_at hl 0 rfl) ?_
    refine lv_iload_n hx hb dX6_in_6 rfl (lv_at hl 2 rfl) ?_
    refine lv_icmp_gt (tgt := 14) hx hb dX6_in_7 (by decide) (fun b7 => ?_) (fun b7 => ?_)
    · skip
      refine lv_iconst (v := 0) hx hb dX6_in_14 (by decide) ?_
      exact eRz S hr hlk dX6_in_15 rfl rfl
    · skip
      exact absurd ⟨b2, b7⟩ h1

set_option maxHeartbeats 4000000 in
set_option maxRecDepth 100000 in
theorem rr_thrown (l : Launch) (dg : va_G) (cA : Nat → ClassId) (ad : Nat → Nat) (r : St) : MetR l dg cA yX6_thrown cX6_thrown 1 (some .int) ({ frames := 0, cells := 0, slots := 0, locals := 0 } : Room) (mw cA ad r) [.ref (ad 0)] (some (.int (r 0 0))) := by
  refine ofR (by decide) (Nat.le_of_ble_eq_true rfl) (own := RX6) rfl (fun p e s0 m args below meth ccd ls S hr hlk hargs hK hP hl => ?_)
  have hx := S.1
  have hb := S.2.1
  have hl : lv_has ls 1 [(0, .ref (ad 0))] := hl
  refine lv_aload_n hx hb dX6_thrown_0 rfl (lv_at hl 0 rfl) ?_
  refine gf S hK hP 0 ml_0 fX6_90 (v := .int (r 0 0)) (mv_0 rfl) dX6_thrown_1 ?_
  exact eRi S hr hlk dX6_thrown_4 rfl

set_option maxHeartbeats 4000000 in
set_option maxRecDepth 100000 in
theorem rr_day (l : Launch) (dg : va_G) (cA : Nat → ClassId) (ad : Nat → Nat) (r : St) (sz : Nat) : MetM l dg cA yX6_day cX6_day 1 (some .int) ({ frames := 0, cells := 0, slots := 0, locals := 0 } : Room) 0 0 (mw cA ad r) sz [.ref (ad 0)] (mw cA ad (up r 0 0 0)) (some (.int (r 0 5))) := by
  refine ofM (by decide) (Nat.le_of_ble_eq_true rfl) (own := RX6) rfl (fun p e s0 m args below meth ccd ls A hAe S hr hlk hname hargs hK hP hD hS hA hsz hl => ?_)
  have hx := S.1
  have hb := S.2.1
  have hl : lv_has ls 1 [(0, .ref (ad 0))] := hl
  refine lv_aload_n hx hb dX6_day_0 rfl (lv_at hl 0 rfl) ?_
  refine lv_iconst (v := 0) hx hb dX6_day_1 (by decide) ?_
  refine pf S hK hP hD hS 0 ml_0 fX6_90 fpX6 rfl (v := .int 0) rfl rfl (Nat.le_of_ble_eq_true rfl) ms_0_0 dX6_day_2 (fun H locs hP hD hS => ?_)
  refine lv_aload_n hx hb dX6_day_5 rfl (lv_at hl 0 rfl) ?_
  refine gf S hK hP 0 ml_0 fX6_115 (v := .int (r 0 5)) (mv_5 rfl) dX6_day_6 ?_
  exact eMi S hr hlk hP hD hS dX6_day_9 rfl rfl

set_option maxHeartbeats 4000000 in
set_option maxRecDepth 100000 in
theorem rr_fails (l : Launch) (dg : va_G) (cA : Nat → ClassId) (ad : Nat → Nat) (r : St) (code : Int32) (sz : Nat) : MetM l dg cA yX6_fails cX6_fails 2 (some .int) ({ frames := 0, cells := 0, slots := 0, locals := 0 } : Room) 0 0 (mw cA ad r) sz [.ref (ad 0), .int code] (mw cA ad (up r 0 0 code)) (some (.int 0)) := by
  refine ofM (by decide) (Nat.le_of_ble_eq_true rfl) (own := RX6) rfl (fun p e s0 m args below meth ccd ls A hAe S hr hlk hname hargs hK hP hD hS hA hsz hl => ?_)
  have hx := S.1
  have hb := S.2.1
  have hl : lv_has ls 2 [(0, .ref (ad 0)), (1, .int code)] := hl
  refine lv_aload_n hx hb dX6_fails_0 rfl (lv_at hl 0 rfl) ?_
  refine lv_iload_n hx hb dX6_fails_1 rfl (lv_at hl 1 rfl) ?_
  refine pf S hK hP hD hS 0 ml_0 fX6_90 fpX6 rfl (v := .int code) rfl rfl (Nat.le_of_ble_eq_true rfl) ms_0_0 dX6_fails_2 (fun H locs hP hD hS => ?_)
  refine lv_iconst (v := 0) hx hb dX6_fails_5 (by decide) ?_
  exact eMi S hr hlk hP hD hS dX6_fails_6 rfl rfl

set_option maxHeartbeats 4000000 in
set_option maxRecDepth 100000 in
theorem rr_isHouse1 (l : Launch) (dg : va_G) (cA : Nat → ClassId) (ad : Nat → Nat) (r : St) (n : Nat) (hn : r 0 3 = nI n) (hn24 : n ≤ 24) (j : Nat) (hj : j < n) (sz : Nat) : MetM l dg cA yX6_isHouse cX6_isHouse 2 (some .boolean) ({ frames := 1, cells := 0, slots := 0, locals := 22 } : Room) 0 0 (mw cA ad r) sz [.ref (ad 0), .int (nI j)] (mw cA ad (up r 0 0 0)) (some (.int 1)) := by
  refine ofM (by decide) (Nat.le_of_ble_eq_true rfl) (own := RX6) rfl (fun p e s0 m args below meth ccd ls A hAe S hr hlk hname hargs hK hP hD hS hA hsz hl => ?_)
  have hx := S.1
  have hb := S.2.1
  have hl : lv_has ls 2 [(0, .ref (ad 0)), (1, .int (nI j))] := hl
  refine lv_aload_n hx hb dX6_isHouse_0 rfl (lv_at hl 0 rfl) ?_
  refine lv_iload_n hx hb dX6_isHouse_1 rfl (lv_at hl 1 rfl) ?_
  refine lv_iconst (v := 0) hx hb dX6_isHouse_2 (by decide) ?_
  refine lv_aload_n hx hb dX6_isHouse_3 rfl (lv_at hl 0 rfl) ?_
  refine gf S hK hP 0 ml_0 fX6_93 (v := .int (nI n)) (mv_3 hn) dX6_isHouse_4 ?_
  refine lv_iconst (v := 1) hx hb dX6_isHouse_7 (by decide) ?_
  refine lv_isub hx hb dX6_isHouse_8 ?_
  refine cRS S (rr_in1 l dg cA (mw cA ad r) (nI j) 0 ((nI n) - 1) (nI_pos (by omega)) (idx_hi hj (by omega))) kX6_96 ⟨rfl, rfl, Nat.le_of_ble_eq_true rfl, Nat.le_of_ble_eq_true rfl⟩ hK hP (As := [.int (nI j), .int 0, .int ((nI n) - 1)]) rfl hl.1 (rest := [.ref (ad 0)]) rfl (Nat.le_of_ble_eq_true rfl) dX6_isHouse_9 ⟨Nat.le_of_ble_eq_true rfl, Nat.le_of_ble_eq_true rfl⟩ (st1 := [.int 1, .ref (ad 0)]) rfl ?_
  refine lv_if_eq (tgt := 19) hx hb dX6_isHouse_12 (by decide) (fun b12 => ?_) (fun b12 => ?_)
  · skip
    exact False.elim (by revert b12; decide)
  · skip
    refine lv_iconst (v := 0) hx hb dX6_isHouse_15 (by decide) ?_
    refine lv_goto (tgt := 20) hx hb dX6_isHouse_16 (by decide) ?_
    refine pf S hK hP hD hS 0 ml_0 fX6_90 fpX6 rfl (v := .int 0) rfl rfl (Nat.le_of_ble_eq_true rfl) ms_0_0 dX6_isHouse_20 (fun H locs hP hD hS => ?_)
    refine lv_aload_n hx hb dX6_isHouse_23 rfl (lv_at hl 0 rfl) ?_
    refine gf S hK hP 0 ml_0 fX6_90 (v := .int 0) (mv_0 up_at) dX6_isHouse_24 ?_
    refine lv_if_ne (tgt := 34) hx hb dX6_isHouse_27 (by decide) (fun b27 => ?_) (fun b27 => ?_)
    · skip
      exact False.elim (by revert b27; decide)
    · skip
      refine lv_iconst (v := 1) hx hb dX6_isHouse_30 (by decide) ?_
      refine lv_goto (tgt := 35) hx hb dX6_isHouse_31 (by decide) ?_
      exact eMz S hr hlk hP hD hS dX6_isHouse_35 rfl rfl rfl

set_option maxHeartbeats 4000000 in
set_option maxRecDepth 100000 in
theorem rr_isHouse0 (l : Launch) (dg : va_G) (cA : Nat → ClassId) (ad : Nat → Nat) (r : St) (n : Nat) (hn : r 0 3 = nI n) (hn24 : n ≤ 24) (v : Int32) (hv : v < 0 ∨ nI n ≤ v) (sz : Nat) : MetM l dg cA yX6_isHouse cX6_isHouse 2 (some .boolean) ({ frames := 1, cells := 0, slots := 0, locals := 22 } : Room) 0 0 (mw cA ad r) sz [.ref (ad 0), .int v] (mw cA ad (up r 0 0 1)) (some (.int 0)) := by
  refine ofM (by decide) (Nat.le_of_ble_eq_true rfl) (own := RX6) rfl (fun p e s0 m args below meth ccd ls A hAe S hr hlk hname hargs hK hP hD hS hA hsz hl => ?_)
  have hx := S.1
  have hb := S.2.1
  have hl : lv_has ls 2 [(0, .ref (ad 0)), (1, .int v)] := hl
  refine lv_aload_n hx hb dX6_isHouse_0 rfl (lv_at hl 0 rfl) ?_
  refine lv_iload_n hx hb dX6_isHouse_1 rfl (lv_at hl 1 rfl) ?_
  refine lv_iconst (v := 0) hx hb dX6_isHouse_2 (by decide) ?_
  refine lv_aload_n hx hb dX6_isHouse_3 rfl (lv_at hl 0 rfl) ?_
  refine gf S hK hP 0 ml_0 fX6_93 (v := .int (nI n)) (mv_3 hn) dX6_isHouse_4 ?_
  refine lv_iconst (v := 1) hx hb dX6_isHouse_7 (by decide) ?_
  refine lv_isub hx hb dX6_isHouse_8 ?_
  refine cRS S (rr_in0 l dg cA (mw cA ad r) v 0 ((nI n) - 1) (idx_bad hv (by omega))) kX6_96 ⟨rfl, rfl, Nat.le_of_ble_eq_true rfl, Nat.le_of_ble_eq_true rfl⟩ hK hP (As := [.int v, .int 0, .int ((nI n) - 1)]) rfl hl.1 (rest := [.ref (ad 0)]) rfl (Nat.le_of_ble_eq_true rfl) dX6_isHouse_9 ⟨Nat.le_of_ble_eq_true rfl, Nat.le_of_ble_eq_true rfl⟩ (st1 := [.int 0, .ref (ad 0)]) rfl ?_
  refine lv_if_eq (tgt := 19) hx hb dX6_isHouse_12 (by decide) (fun b12 => ?_) (fun b12 => ?_)
  · skip
    refine lv_iconst (v := 1) hx hb dX6_isHouse_19 (by decide) ?_
    refine pf S hK hP hD hS 0 ml_0 fX6_90 fpX6 rfl (v := .int 1) rfl rfl (Nat.le_of_ble_eq_true rfl) ms_0_0 dX6_isHouse_20 (fun H locs hP hD hS => ?_)
    refine lv_aload_n hx hb dX6_isHouse_23 rfl (lv_at hl 0 rfl) ?_
    refine gf S hK hP 0 ml_0 fX6_90 (v := .int 1) (mv_0 up_at) dX6_isHouse_24 ?_
    refine lv_if_ne (tgt := 34) hx hb dX6_isHouse_27 (by decide) (fun b27 => ?_) (fun b27 => ?_)
    · skip
      refine lv_iconst (v := 0) hx hb dX6_isHouse_34 (by decide) ?_
      exact eMz S hr hlk hP hD hS dX6_isHouse_35 rfl rfl rfl
    · skip
      exact False.elim (by revert b27; decide)
  · skip
    exact False.elim (by revert b12; decide)

set_option maxHeartbeats 4000000 in
set_option maxRecDepth 100000 in
theorem rr_isInt1 (l : Launch) (dg : va_G) (cA : Nat → ClassId) (ad : Nat → Nat) (r : St) (ni : Nat) (hni : r 0 4 = nI ni) (hni4 : ni ≤ 4) (j : Nat) (hj : j < ni) (sz : Nat) : MetM l dg cA yX6_isInterviewer cX6_isInterviewer 2 (some .boolean) ({ frames := 1, cells := 0, slots := 0, locals := 22 } : Room) 0 0 (mw cA ad r) sz [.ref (ad 0), .int (nI j)] (mw cA ad (up r 0 0 0)) (some (.int 1)) := by
  refine ofM (by decide) (Nat.le_of_ble_eq_true rfl) (own := RX6) rfl (fun p e s0 m args below meth ccd ls A hAe S hr hlk hname hargs hK hP hD hS hA hsz hl => ?_)
  have hx := S.1
  have hb := S.2.1
  have hl : lv_has ls 2 [(0, .ref (ad 0)), (1, .int (nI j))] := hl
  refine lv_aload_n hx hb dX6_isInterviewer_0 rfl (lv_at hl 0 rfl) ?_
  refine lv_iload_n hx hb dX6_isInterviewer_1 rfl (lv_at hl 1 rfl) ?_
  refine lv_iconst (v := 0) hx hb dX6_isInterviewer_2 (by decide) ?_
  refine lv_aload_n hx hb dX6_isInterviewer_3 rfl (lv_at hl 0 rfl) ?_
  refine gf S hK hP 0 ml_0 fX6_100 (v := .int (nI ni)) (mv_4 hni) dX6_isInterviewer_4 ?_
  refine lv_iconst (v := 1) hx hb dX6_isInterviewer_7 (by decide) ?_
  refine lv_isub hx hb dX6_isInterviewer_8 ?_
  refine cRS S (rr_in1 l dg cA (mw cA ad r) (nI j) 0 ((nI ni) - 1) (nI_pos (by omega)) (idx_hi hj (by omega))) kX6_96 ⟨rfl, rfl, Nat.le_of_ble_eq_true rfl, Nat.le_of_ble_eq_true rfl⟩ hK hP (As := [.int (nI j), .int 0, .int ((nI ni) - 1)]) rfl hl.1 (rest := [.ref (ad 0)]) rfl (Nat.le_of_ble_eq_true rfl) dX6_isInterviewer_9 ⟨Nat.le_of_ble_eq_true rfl, Nat.le_of_ble_eq_true rfl⟩ (st1 := [.int 1, .ref (ad 0)]) rfl ?_
  refine lv_if_eq (tgt := 19) hx hb dX6_isInterviewer_12 (by decide) (fun b12 => ?_) (fun b12 => ?_)
  · skip
    exact False.elim (by revert b12; decide)
  · skip
    refine lv_iconst (v := 0) hx hb dX6_isInterviewer_15 (by decide) ?_
    refine lv_goto (tgt := 20) hx hb dX6_isInterviewer_16 (by decide) ?_
    refine pf S hK hP hD hS 0 ml_0 fX6_90 fpX6 rfl (v := .int 0) rfl rfl (Nat.le_of_ble_eq_true rfl) ms_0_0 dX6_isInterviewer_20 (fun H locs hP hD hS => ?_)
    refine lv_aload_n hx hb dX6_isInterviewer_23 rfl (lv_at hl 0 rfl) ?_
    refine gf S hK hP 0 ml_0 fX6_90 (v := .int 0) (mv_0 up_at) dX6_isInterviewer_24 ?_
    refine lv_if_ne (tgt := 34) hx hb dX6_isInterviewer_27 (by decide) (fun b27 => ?_) (fun b27 => ?_)
    · skip
      exact False.elim (by revert b27; decide)
    · skip
      refine lv_iconst (v := 1) hx hb dX6_isInterviewer_30 (by decide) ?_
      refine lv_goto (tgt := 35) hx hb dX6_isInterviewer_31 (by decide) ?_
      exact eMz S hr hlk hP hD hS dX6_isInterviewer_35 rfl rfl rfl

set_option maxHeartbeats 4000000 in
set_option maxRecDepth 100000 in
theorem rr_isInt0 (l : Launch) (dg : va_G) (cA : Nat → ClassId) (ad : Nat → Nat) (r : St) (ni : Nat) (hni : r 0 4 = nI ni) (hni4 : ni ≤ 4) (v : Int32) (hv : v < 0 ∨ nI ni ≤ v) (sz : Nat) : MetM l dg cA yX6_isInterviewer cX6_isInterviewer 2 (some .boolean) ({ frames := 1, cells := 0, slots := 0, locals := 22 } : Room) 0 0 (mw cA ad r) sz [.ref (ad 0), .int v] (mw cA ad (up r 0 0 1)) (some (.int 0)) := by
  refine ofM (by decide) (Nat.le_of_ble_eq_true rfl) (own := RX6) rfl (fun p e s0 m args below meth ccd ls A hAe S hr hlk hname hargs hK hP hD hS hA hsz hl => ?_)
  have hx := S.1
  have hb := S.2.1
  have hl : lv_has ls 2 [(0, .ref (ad 0)), (1, .int v)] := hl
  refine lv_aload_n hx hb dX6_isInterviewer_0 rfl (lv_at hl 0 rfl) ?_
  refine lv_iload_n hx hb dX6_isInterviewer_1 rfl (lv_at hl 1 rfl) ?_
  refine lv_iconst (v := 0) hx hb dX6_isInterviewer_2 (by decide) ?_
  refine lv_aload_n hx hb dX6_isInterviewer_3 rfl (lv_at hl 0 rfl) ?_
  refine gf S hK hP 0 ml_0 fX6_100 (v := .int (nI ni)) (mv_4 hni) dX6_isInterviewer_4 ?_
  refine lv_iconst (v := 1) hx hb dX6_isInterviewer_7 (by decide) ?_
  refine lv_isub hx hb dX6_isInterviewer_8 ?_
  refine cRS S (rr_in0 l dg cA (mw cA ad r) v 0 ((nI ni) - 1) (idx_bad hv (by omega))) kX6_96 ⟨rfl, rfl, Nat.le_of_ble_eq_true rfl, Nat.le_of_ble_eq_true rfl⟩ hK hP (As := [.int v, .int 0, .int ((nI ni) - 1)]) rfl hl.1 (rest := [.ref (ad 0)]) rfl (Nat.le_of_ble_eq_true rfl) dX6_isInterviewer_9 ⟨Nat.le_of_ble_eq_true rfl, Nat.le_of_ble_eq_true rfl⟩ (st1 := [.int 0, .ref (ad 0)]) rfl ?_
  refine lv_if_eq (tgt := 19) hx hb dX6_isInterviewer_12 (by decide) (fun b12 => ?_) (fun b12 => ?_)
  · skip
    refine lv_iconst (v := 1) hx hb dX6_isInterviewer_19 (by decide) ?_
    refine pf S hK hP hD hS 0 ml_0 fX6_90 fpX6 rfl (v := .int 1) rfl rfl (Nat.le_of_ble_eq_true rfl) ms_0_0 dX6_isInterviewer_20 (fun H locs hP hD hS => ?_)
    refine lv_aload_n hx hb dX6_isInterviewer_23 rfl (lv_at hl 0 rfl) ?_
    refine gf S hK hP 0 ml_0 fX6_90 (v := .int 1) (mv_0 up_at) dX6_isInterviewer_24 ?_
    refine lv_if_ne (tgt := 34) hx hb dX6_isInterviewer_27 (by decide) (fun b27 => ?_) (fun b27 => ?_)
    · skip
      refine lv_iconst (v := 0) hx hb dX6_isInterviewer_34 (by decide) ?_
      exact eMz S hr hlk hP hD hS dX6_isInterviewer_35 rfl rfl rfl
    · skip
      exact False.elim (by revert b27; decide)
  · skip
    exact False.elim (by revert b12; decide)

set_option maxHeartbeats 4000000 in
set_option maxRecDepth 100000 in
theorem rr_setChance1 (l : Launch) (dg : va_G) (cA : Nat → ClassId) (ad : Nat → Nat) (r : St) (v : Int32) (h1 : ¬ v < 0) (h2 : ¬ 65535 < v) (sz : Nat) : MetM l dg cA yX6_setChance cX6_setChance 3 (some .int) ({ frames := 1, cells := 0, slots := 0, locals := 22 } : Room) 0 0 (mw cA ad r) sz [.ref (ad 0), .int v] (mw cA ad (up (up r 0 0 0) 0 1 v)) (some (.int (r 0 1))) := by
  refine ofM (by decide) (Nat.le_of_ble_eq_true rfl) (own := RX6) rfl (fun p e s0 m args below meth ccd ls A hAe S hr hlk hname hargs hK hP hD hS hA hsz hl => ?_)
  have hx := S.1
  have hb := S.2.1
  have hl : lv_has ls 3 [(0, .ref (ad 0)), (1, .int v)] := hl
  refine lv_iload_n hx hb dX6_setChance_0 rfl (lv_at hl 1 rfl) ?_
  refine lv_iconst (v := 0) hx hb dX6_setChance_1 (by decide) ?_
  refine lv_ldc (v := 65535) hx hb S.2.2.2.1 (S.2.2.2.2 _ (gW_mem 939 (by decide +kernel) (by decide +kernel))) dX6_setChance_2 ?_
  refine cRS S (rr_in1 l dg cA (mw cA ad r) v 0 65535 h1 h2) kX6_96 ⟨rfl, rfl, Nat.le_of_ble_eq_true rfl, Nat.le_of_ble_eq_true rfl⟩ hK hP (As := [.int v, .int 0, .int 65535]) rfl hl.1 (rest := []) rfl (Nat.le_of_ble_eq_true rfl) dX6_setChance_4 ⟨Nat.le_of_ble_eq_true rfl, Nat.le_of_ble_eq_true rfl⟩ (st1 := [.int 1]) rfl ?_
  refine lv_if_ne (tgt := 16) hx hb dX6_setChance_7 (by decide) (fun b7 => ?_) (fun b7 => ?_)
  · skip
    refine lv_aload_n hx hb dX6_setChance_16 rfl (lv_at hl 0 rfl) ?_
    refine lv_iconst (v := 0) hx hb dX6_setChance_17 (by decide) ?_
    refine pf S hK hP hD hS 0 ml_0 fX6_90 fpX6 rfl (v := .int 0) rfl rfl (Nat.le_of_ble_eq_true rfl) ms_0_0 dX6_setChance_18 (fun H locs hP hD hS => ?_)
    refine lv_aload_n hx hb dX6_setChance_21 rfl (lv_at hl 0 rfl) ?_
    refine gf S hK hP 0 ml_0 fX6_7 (v := .int (r 0 1)) (mv_1 rfl) dX6_setChance_22 ?_
    refine lv_istore_n (lv' := [(2, .int (r 0 1)), (0, .ref (ad 0)), (1, .int v)]) hx hb dX6_setChance_25 rfl hl (by decide) rfl (fun ls hl => ?_)
    refine lv_aload_n hx hb dX6_setChance_26 rfl (lv_at hl 1 rfl) ?_
    refine lv_iload_n hx hb dX6_setChance_27 rfl (lv_at hl 2 rfl) ?_
    refine pf S hK hP hD hS 0 ml_0 fX6_7 fpX6 rfl (v := .int v) rfl rfl (Nat.le_of_ble_eq_true rfl) ms_0_1 dX6_setChance_28 (fun H locs hP hD hS => ?_)
    refine lv_iload_n hx hb dX6_setChance_31 rfl (lv_at hl 0 rfl) ?_
    exact eMi S hr hlk hP hD hS dX6_setChance_32 rfl rfl
  · skip
    exact False.elim (by revert b7; decide)

set_option maxHeartbeats 4000000 in
set_option maxRecDepth 100000 in
theorem rr_setChance0 (l : Launch) (dg : va_G) (cA : Nat → ClassId) (ad : Nat → Nat) (r : St) (v : Int32) (h1 : ¬ (¬ v < 0 ∧ ¬ 65535 < v)) (sz : Nat) : MetM l dg cA yX6_setChance cX6_setChance 3 (some .int) ({ frames := 1, cells := 0, slots := 0, locals := 22 } : Room) 0 0 (mw cA ad r) sz [.ref (ad 0), .int v] (mw cA ad (up r 0 0 1)) (some (.int 0)) := by
  refine ofM (by decide) (Nat.le_of_ble_eq_true rfl) (own := RX6) rfl (fun p e s0 m args below meth ccd ls A hAe S hr hlk hname hargs hK hP hD hS hA hsz hl => ?_)
  have hx := S.1
  have hb := S.2.1
  have hl : lv_has ls 3 [(0, .ref (ad 0)), (1, .int v)] := hl
  refine lv_iload_n hx hb dX6_setChance_0 rfl (lv_at hl 1 rfl) ?_
  refine lv_iconst (v := 0) hx hb dX6_setChance_1 (by decide) ?_
  refine lv_ldc (v := 65535) hx hb S.2.2.2.1 (S.2.2.2.2 _ (gW_mem 939 (by decide +kernel) (by decide +kernel))) dX6_setChance_2 ?_
  refine cRS S (rr_in0 l dg cA (mw cA ad r) v 0 65535 h1) kX6_96 ⟨rfl, rfl, Nat.le_of_ble_eq_true rfl, Nat.le_of_ble_eq_true rfl⟩ hK hP (As := [.int v, .int 0, .int 65535]) rfl hl.1 (rest := []) rfl (Nat.le_of_ble_eq_true rfl) dX6_setChance_4 ⟨Nat.le_of_ble_eq_true rfl, Nat.le_of_ble_eq_true rfl⟩ (st1 := [.int 0]) rfl ?_
  refine lv_if_ne (tgt := 16) hx hb dX6_setChance_7 (by decide) (fun b7 => ?_) (fun b7 => ?_)
  · skip
    exact False.elim (by revert b7; decide)
  · skip
    refine lv_aload_n hx hb dX6_setChance_10 rfl (lv_at hl 0 rfl) ?_
    refine lv_iconst (v := 1) hx hb dX6_setChance_11 (by decide) ?_
    refine cM S (rr_fails l dg cA ad r 1 _) kX6_104 ⟨rfl, rfl, Nat.le_of_ble_eq_true rfl, Nat.le_of_ble_eq_true rfl⟩ hK hP hD hS hA 0 ml_0 (q := (RX6, TX6, 31)) rfl rfl (As := [.int 1]) rfl hl.1 (rest := []) rfl (Nat.le_of_ble_eq_true rfl) dX6_setChance_12 ⟨Nat.le_of_ble_eq_true rfl, Nat.le_of_ble_eq_true rfl⟩ (st1 := [.int 0]) rfl (fun H locs hP hD hS => ?_)
    exact eMi S hr hlk hP hD hS dX6_setChance_15 rfl rfl

set_option maxHeartbeats 4000000 in
set_option maxRecDepth 100000 in
theorem rr_addStratum1 (l : Launch) (dg : va_G) (cA : Nat → ClassId) (ad : Nat → Nat) (r : St) (ns : Nat) (hns : r 0 2 = nI ns) (hns4 : ns < 4) (sz : Nat) : MetM l dg cA yX6_addStratum cX6_addStratum 1 (some .int) ({ frames := 0, cells := 0, slots := 0, locals := 0 } : Room) 0 0 (mw cA ad r) sz [.ref (ad 0)] (mw cA ad (up (up r 0 0 0) 0 2 (nI (ns + 1)))) (some (.int (nI ns))) := by
  refine ofM (by decide) (Nat.le_of_ble_eq_true rfl) (own := RX6) rfl (fun p e s0 m args below meth ccd ls A hAe S hr hlk hname hargs hK hP hD hS hA hsz hl => ?_)
  have hx := S.1
  have hb := S.2.1
  have hl : lv_has ls 1 [(0, .ref (ad 0))] := hl
  refine lv_aload_n hx hb dX6_addStratum_0 rfl (lv_at hl 0 rfl) ?_
  refine gf S hK hP 0 ml_0 fX6_108 (v := .int (nI ns)) (mv_2 hns) dX6_addStratum_1 ?_
  refine lv_iconst (v := 4) hx hb dX6_addStratum_4 (by decide) ?_
  refine lv_icmp_ne (tgt := 14) hx hb dX6_addStratum_5 (by decide) (fun b5 => ?_) (fun b5 => ?_)
  · skip
    have g5 : ¬ ns = 4 := fun zz => b5 ((nI_eq (a := ns) (b := 4) (by omega) (by omega)).mpr zz)
    refine lv_aload_n hx hb dX6_addStratum_14 rfl (lv_at hl 0 rfl) ?_
    refine lv_iconst (v := 0) hx hb dX6_addStratum_15 (by decide) ?_
    refine pf S hK hP hD hS 0 ml_0 fX6_90 fpX6 rfl (v := .int 0) rfl rfl (Nat.le_of_ble_eq_true rfl) ms_0_0 dX6_addStratum_16 (fun H locs hP hD hS => ?_)
    refine lv_aload_n hx hb dX6_addStratum_19 rfl (lv_at hl 0 rfl) ?_
    refine lv_dup hx hb dX6_addStratum_20 rfl ?_
    refine gf S hK hP 0 ml_0 fX6_108 (v := .int (nI ns)) (mv_2 hns) dX6_addStratum_21 ?_
    refine lv_iconst (v := 1) hx hb dX6_addStratum_24 (by decide) ?_
    refine lv_iadd hx hb dX6_addStratum_25 ?_
    refine lv_as (y := nI (ns + 1)) (nI_1 ns) ?_
    refine pf S hK hP hD hS 0 ml_0 fX6_108 fpX6 rfl (v := .int (nI (ns + 1))) rfl rfl (Nat.le_of_ble_eq_true rfl) ms_0_2 dX6_addStratum_26 (fun H locs hP hD hS => ?_)
    refine lv_aload_n hx hb dX6_addStratum_29 rfl (lv_at hl 0 rfl) ?_
    refine gf S hK hP 0 ml_0 fX6_108 (v := .int (nI (ns + 1))) (mv_2 up_at) dX6_addStratum_30 ?_
    refine lv_iconst (v := 1) hx hb dX6_addStratum_33 (by decide) ?_
    refine lv_isub hx hb dX6_addStratum_34 ?_
    refine lv_as (y := nI ns) (nI_pred ns) ?_
    exact eMi S hr hlk hP hD hS dX6_addStratum_35 rfl rfl
  · skip
    have g5 : ns = 4 := (nI_eq (a := ns) (b := 4) (by omega) (by omega)).mp b5
    exact absurd g5 (by omega)

set_option maxHeartbeats 4000000 in
set_option maxRecDepth 100000 in
theorem rr_addStratum0 (l : Launch) (dg : va_G) (cA : Nat → ClassId) (ad : Nat → Nat) (r : St) (hns : r 0 2 = 4) (sz : Nat) : MetM l dg cA yX6_addStratum cX6_addStratum 1 (some .int) ({ frames := 1, cells := 0, slots := 0, locals := 21 } : Room) 0 0 (mw cA ad r) sz [.ref (ad 0)] (mw cA ad (up r 0 0 1)) (some (.int 0)) := by
  refine ofM (by decide) (Nat.le_of_ble_eq_true rfl) (own := RX6) rfl (fun p e s0 m args below meth ccd ls A hAe S hr hlk hname hargs hK hP hD hS hA hsz hl => ?_)
  have hx := S.1
  have hb := S.2.1
  have hl : lv_has ls 1 [(0, .ref (ad 0))] := hl
  refine lv_aload_n hx hb dX6_addStratum_0 rfl (lv_at hl 0 rfl) ?_
  refine gf S hK hP 0 ml_0 fX6_108 (v := .int 4) (mv_2 hns) dX6_addStratum_1 ?_
  refine lv_iconst (v := 4) hx hb dX6_addStratum_4 (by decide) ?_
  refine lv_icmp_ne (tgt := 14) hx hb dX6_addStratum_5 (by decide) (fun b5 => ?_) (fun b5 => ?_)
  · skip
    exact False.elim (by revert b5; decide)
  · skip
    refine lv_aload_n hx hb dX6_addStratum_8 rfl (lv_at hl 0 rfl) ?_
    refine lv_iconst (v := 1) hx hb dX6_addStratum_9 (by decide) ?_
    refine cM S (rr_fails l dg cA ad r 1 _) kX6_104 ⟨rfl, rfl, Nat.le_of_ble_eq_true rfl, Nat.le_of_ble_eq_true rfl⟩ hK hP hD hS hA 0 ml_0 (q := (RX6, TX6, 31)) rfl rfl (As := [.int 1]) rfl hl.1 (rest := []) rfl (Nat.le_of_ble_eq_true rfl) dX6_addStratum_10 ⟨Nat.le_of_ble_eq_true rfl, Nat.le_of_ble_eq_true rfl⟩ (st1 := [.int 0]) rfl (fun H locs hP hD hS => ?_)
    exact eMi S hr hlk hP hD hS dX6_addStratum_13 rfl rfl

set_option maxHeartbeats 4000000 in
set_option maxRecDepth 100000 in
theorem rr_way (l : Launch) (dg : va_G) (cA : Nat → ClassId) (ws : va_W) (a b : Int32) : MetR l dg cA yX6_way cX6_way 2 (some .int) ({ frames := 0, cells := 0, slots := 0, locals := 0 } : Room) ws [.int a, .int b] (some (.int (m_way a b))) := by
  refine ofR (by decide) (Nat.le_of_ble_eq_true rfl) (own := RX6) rfl (fun p e s0 m args below meth ccd ls S hr hlk hargs hK hP hl => ?_)
  have hx := S.1
  have hb := S.2.1
  have hl : lv_has ls 2 [(0, .int a), (1, .int b)] := hl
  refine lv_iload_n hx hb dX6_way_0 rfl (lv_at hl 0 rfl) ?_
  refine lv_iload_n hx hb dX6_way_1 rfl (lv_at hl 1 rfl) ?_
  refine lv_icmp_ge (tgt := 11) hx hb dX6_way_2 (by decide) (fun b2 => ?_) (fun b2 => ?_)
  · skip
    refine lv_iload_n hx hb dX6_way_11 rfl (lv_at hl 0 rfl) ?_
    refine lv_iload_n hx hb dX6_way_12 rfl (lv_at hl 1 rfl) ?_
    refine lv_isub hx hb dX6_way_13 ?_
    exact eRi S hr hlk dX6_way_14 (by simp [m_way, b2])
  · skip
    refine lv_iload_n hx hb dX6_way_5 rfl (lv_at hl 1 rfl) ?_
    refine lv_iload_n hx hb dX6_way_6 rfl (lv_at hl 0 rfl) ?_
    refine lv_isub hx hb dX6_way_7 ?_
    refine lv_goto (tgt := 14) hx hb dX6_way_8 (by decide) ?_
    exact eRi S hr hlk dX6_way_14 (by simp [m_way, b2])

set_option maxHeartbeats 4000000 in
set_option maxRecDepth 100000 in
theorem rr_undrawn (l : Launch) (dg : va_G) (cA : Nat → ClassId) (ad : Nat → Nat) (r : St) (n : Nat) (hn : r 0 3 = nI n) (hn24 : n ≤ 24) (s : Int32) : MetR l dg cA yX6_undrawn cX6_undrawn 4 (some .int) ({ frames := 0, cells := 0, slots := 0, locals := 0 } : Room) (mw cA ad r) [.ref (ad 0), .int s] (some (.int (nI (m_und r n s)))) := by
  refine ofR (by decide) (Nat.le_of_ble_eq_true rfl) (own := RX6) rfl (fun p e s0 m args below meth ccd ls S hr hlk hargs hK hP hl => ?_)
  have hx := S.1
  have hb := S.2.1
  have hl : lv_has ls 4 [(0, .ref (ad 0)), (1, .int s)] := hl
  refine lv_iconst (v := 0) hx hb dX6_undrawn_0 (by decide) ?_
  refine lv_istore_n (lv' := [(2, .int 0), (0, .ref (ad 0)), (1, .int s)]) hx hb dX6_undrawn_1 rfl hl (by decide) rfl (fun ls hl => ?_)
  refine lv_iconst (v := 0) hx hb dX6_undrawn_2 (by decide) ?_
  refine lv_istore_n (lv' := [(3, .int 0), (2, .int 0), (0, .ref (ad 0)), (1, .int s)]) hx hb dX6_undrawn_3 rfl hl (by decide) rfl (fun ls hl => ?_)
  have hL4 : ∀ (f : Nat) (j : Nat), n - j < f → (j ≤ n) → ∀ ls, lv_has ls 4 [(0, .ref (ad 0)), (1, .int s), (2, .int (nI (ct (isU (r 1) (r 4) s) j))), (3, .int (nI j))] → W p l e ({ frames := 0, cells := 0, slots := 0, locals := 0 } : Room) s0 m args below meth ccd s0.heap [] 0 0 (MQ below (QcR (some (.int (nI (m_und r n s))))) args s0 0 0 (fun _ => False)) (F0 m 4 ls []) := by
    intro f
    induction f with
    | zero => intro j hm; exact absurd hm (Nat.not_lt_zero _)
    | succ f ih4 =>
      intro j hm4 hj ls hl
      refine lv_iload_n hx hb dX6_undrawn_4 rfl (lv_at hl 3 rfl) ?_
      refine lv_aload_n hx hb dX6_undrawn_5 rfl (lv_at hl 0 rfl) ?_
      refine gf S hK hP 0 ml_0 fX6_93 (v := .int (nI n)) (mv_3 hn) dX6_undrawn_6 ?_
      refine lv_icmp_ge (tgt := 47) hx hb dX6_undrawn_9 (by decide) (fun b9 => ?_) (fun b9 => ?_)
      · skip
        have g9 : n ≤ j := (nI_leI (a := n) (b := j) (by omega) (by omega)).mp b9
        refine lv_iload_n hx hb dX6_undrawn_47 rfl (lv_at hl 2 rfl) ?_
        exact eRi S hr hlk dX6_undrawn_48 (by rw [show j = n by omega]; rfl)
      · skip
        have g9 : ¬ n ≤ j := fun zz => b9 ((nI_leI (a := n) (b := j) (by omega) (by omega)).mpr zz)
        refine lv_iload_n hx hb dX6_undrawn_12 rfl (lv_at hl 2 rfl) ?_
        refine lv_aload_n hx hb dX6_undrawn_13 rfl (lv_at hl 0 rfl) ?_
        refine gf S hK hP 0 ml_0 fX6_13 (v := .ref (ad 1)) mr_1 dX6_undrawn_14 ?_
        refine lv_iload_n hx hb dX6_undrawn_17 rfl (lv_at hl 3 rfl) ?_
        refine ild S hK hP 1 ml_1 (j := j) (by omega) (Nat.le_of_ble_eq_true rfl) dX6_undrawn_18 ?_
        refine lv_as (y := r 1 j) rfl ?_
        refine lv_iload_n hx hb dX6_undrawn_19 rfl (lv_at hl 1 rfl) ?_
        refine lv_icmp_ne (tgt := 38) hx hb dX6_undrawn_20 (by decide) (fun b20 => ?_) (fun b20 => ?_)
        · skip
          refine lv_iconst (v := 0) hx hb dX6_undrawn_38 (by decide) ?_
          refine lv_iadd hx hb dX6_undrawn_39 ?_
          refine lv_istore_n (lv' := [(2, .int ((nI (ct (isU (r 1) (r 4) s) j)) + 0)), (0, .ref (ad 0)), (1, .int s), (3, .int (nI j))]) hx hb dX6_undrawn_40 rfl hl (by decide) rfl (fun ls hl => ?_)
          refine lv_iinc (v := nI (j + 1)) (lv' := [(3, .int (nI (j + 1))), (2, .int ((nI (ct (isU (r 1) (r 4) s) j)) + 0)), (0, .ref (ad 0)), (1, .int s)]) hx hb dX6_undrawn_41 hl (k := 3) rfl (nI_1 j) (by decide) rfl (fun ls hl => ?_)
          refine lv_goto (tgt := 4) hx hb dX6_undrawn_44 (by decide) ?_
          exact ih4 (j + 1) (by omega) (by omega) ls (lv_cast (lv_sub (l' := [(0, .ref (ad 0)), (1, .int s), (2, .int ((nI (ct (isU (r 1) (r 4) s) j)) + 0)), (3, .int (nI (j + 1)))]) hl [2, 3, 1, 0] rfl) (by simp [ct, isU, nI_1, b9, b20]))
        · skip
          refine lv_aload_n hx hb dX6_undrawn_23 rfl (lv_at hl 0 rfl) ?_
          refine gf S hK hP 0 ml_0 fX6_23 (v := .ref (ad 4)) mr_4 dX6_undrawn_24 ?_
          refine lv_iload_n hx hb dX6_undrawn_27 rfl (lv_at hl 3 rfl) ?_
          refine ild S hK hP 4 ml_4 (j := j) (by omega) (Nat.le_of_ble_eq_true rfl) dX6_undrawn_28 ?_
          refine lv_as (y := r 4 j) rfl ?_
          refine lv_bipush (v := 117) hx hb dX6_undrawn_29 (by decide) ?_
          refine lv_icmp_ne (tgt := 38) hx hb dX6_undrawn_31 (by decide) (fun b31 => ?_) (fun b31 => ?_)
          · skip
            refine lv_iconst (v := 0) hx hb dX6_undrawn_38 (by decide) ?_
            refine lv_iadd hx hb dX6_undrawn_39 ?_
            refine lv_istore_n (lv' := [(2, .int ((nI (ct (isU (r 1) (r 4) s) j)) + 0)), (0, .ref (ad 0)), (1, .int s), (3, .int (nI j))]) hx hb dX6_undrawn_40 rfl hl (by decide) rfl (fun ls hl => ?_)
            refine lv_iinc (v := nI (j + 1)) (lv' := [(3, .int (nI (j + 1))), (2, .int ((nI (ct (isU (r 1) (r 4) s) j)) + 0)), (0, .ref (ad 0)), (1, .int s)]) hx hb dX6_undrawn_41 hl (k := 3) rfl (nI_1 j) (by decide) rfl (fun ls hl => ?_)
            refine lv_goto (tgt := 4) hx hb dX6_undrawn_44 (by decide) ?_
            exact ih4 (j + 1) (by omega) (by omega) ls (lv_cast (lv_sub (l' := [(0, .ref (ad 0)), (1, .int s), (2, .int ((nI (ct (isU (r 1) (r 4) s) j)) + 0)), (3, .int (nI (j + 1)))]) hl [2, 3, 1, 0] rfl) (by simp [ct, isU, nI_1, b9, b20, b31]))
          · skip
            refine lv_iconst (v := 1) hx hb dX6_undrawn_34 (by decide) ?_
            refine lv_goto (tgt := 39) hx hb dX6_undrawn_35 (by decide) ?_
            refine lv_iadd hx hb dX6_undrawn_39 ?_
            refine lv_as (y := nI (ct (isU (r 1) (r 4) s) j + 1)) (nI_1 (ct (isU (r 1) (r 4) s) j)) ?_
            refine lv_istore_n (lv' := [(2, .int (nI (ct (isU (r 1) (r 4) s) j + 1))), (0, .ref (ad 0)), (1, .int s), (3, .int (nI j))]) hx hb dX6_undrawn_40 rfl hl (by decide) rfl (fun ls hl => ?_)
            refine lv_iinc (v := nI (j + 1)) (lv' := [(3, .int (nI (j + 1))), (2, .int (nI (ct (isU (r 1) (r 4) s) j + 1))), (0, .ref (ad 0)), (1, .int s)]) hx hb dX6_undrawn_41 hl (k := 3) rfl (nI_1 j) (by decide) rfl (fun ls hl => ?_)
            refine lv_goto (tgt := 4) hx hb dX6_undrawn_44 (by decide) ?_
            exact ih4 (j + 1) (by omega) (by omega) ls (lv_cast (lv_sub (l' := [(0, .ref (ad 0)), (1, .int s), (2, .int (nI (ct (isU (r 1) (r 4) s) j + 1))), (3, .int (nI (j + 1)))]) hl [2, 3, 1, 0] rfl) (by simp [ct, isU, nI_1, b9, b20, b31]))
  exact hL4 _ 0 (Nat.lt_succ_self _) (Nat.zero_le _) ls (lv_cast (lv_sub (l' := [(0, .ref (ad 0)), (1, .int s), (2, .int 0), (3, .int 0)]) hl [2, 3, 1, 0] rfl) (by rfl))

set_option maxHeartbeats 4000000 in
set_option maxRecDepth 100000 in
theorem rr_draws (l : Launch) (dg : va_G) (cA : Nat → ClassId) (ad : Nat → Nat) (r : St) (n : Nat) (hn : r 0 3 = nI n) (hn24 : n ≤ 24) (s inst : Int32) (hinst : vp_nar .boolean inst = inst) (hc : ∃ k, k < 65536 ∧ r 0 1 = nI k) (hu : 0 < m_und r n s) (sz : Nat) : MetM l dg cA yX6_draws cX6_draws 5 (some .int) ({ frames := 1, cells := 0, slots := 0, locals := 23 } : Room) 0 0 (mw cA ad r) sz [.ref (ad 0), .int s, .int inst] (mw cA ad (m_d1 r n s inst)) (some (.int (nI (m_h r n s)))) := by
  refine ofM (by decide) (Nat.le_of_ble_eq_true rfl) (own := RX6) rfl (fun p e s0 m args below meth ccd ls A hAe S hr hlk hname hargs hK hP hD hS hA hsz hl => ?_)
  have hx := S.1
  have hb := S.2.1
  have hl : lv_has ls 5 [(0, .ref (ad 0)), (1, .int s), (2, .int inst)] := hl
  have hu2 := ct_le (isU (r 1) (r 4) s) n
  obtain ⟨hq1, hq2⟩ := m_q_ok (u := m_und r n s) hc hu (by unfold m_und; omega)
  obtain ⟨hh, hhp, hhq⟩ := sel_ok (isU (r 1) (r 4) s) (m_q (r 0 1) (m_und r n s)) n hq1
  obtain ⟨h, hhe⟩ : ∃ z, z = m_h r n s := ⟨_, rfl⟩
  obtain ⟨q, hqe⟩ : ∃ z, z = m_q (r 0 1) (m_und r n s) := ⟨_, rfl⟩
  change m_h r n s < n at hh
  change isU (r 1) (r 4) s (m_h r n s) = true at hhp
  change ct (isU (r 1) (r 4) s) (m_h r n s) = _ at hhq
  rw [← hhe] at hh hhp hhq
  rw [← hqe] at hq1 hq2 hhq
  unfold m_und at hu hq1 hq2
  have hhe : Hid (h = m_h r n s) := hhe
  clear hqe
  refine lv_aload_n hx hb dX6_draws_0 rfl (lv_at hl 0 rfl) ?_
  refine lv_aload_n hx hb dX6_draws_1 rfl (lv_at hl 0 rfl) ?_
  refine gf S hK hP 0 ml_0 fX6_7 (v := .int (r 0 1)) (mv_1 rfl) dX6_draws_2 ?_
  refine lv_sipush (v := 1103) hx hb dX6_draws_5 (by decide) ?_
  refine lv_imul hx hb dX6_draws_8 ?_
  refine lv_sipush (v := 12345) hx hb dX6_draws_9 (by decide) ?_
  refine lv_iadd hx hb dX6_draws_12 ?_
  refine lv_ldc (v := 65536) hx hb S.2.2.2.1 (S.2.2.2.2 _ (gW_mem 971 (by decide +kernel) (by decide +kernel))) dX6_draws_13 ?_
  refine lv_irem hx hb dX6_draws_15 (by decide) ?_
  refine lv_as (y := m_ch (r 0 1)) rfl ?_
  refine pf S hK hP hD hS 0 ml_0 fX6_7 fpX6 rfl (v := .int (m_ch (r 0 1))) rfl rfl (Nat.le_of_ble_eq_true rfl) ms_0_1 dX6_draws_16 (fun H locs hP hD hS => ?_)
  refine lv_aload_n hx hb dX6_draws_19 rfl (lv_at hl 0 rfl) ?_
  refine gf S hK hP 0 ml_0 fX6_7 (v := .int (m_ch (r 0 1))) (mv_1 up_at) dX6_draws_20 ?_
  refine lv_aload_n hx hb dX6_draws_23 rfl (lv_at hl 0 rfl) ?_
  refine lv_iload_n hx hb dX6_draws_24 rfl (lv_at hl 1 rfl) ?_
  refine cR S (rr_undrawn l dg cA ad (up r 0 1 (m_ch (r 0 1))) n hn hn24 s) kX6_112 ⟨rfl, rfl, Nat.le_of_ble_eq_true rfl, Nat.le_of_ble_eq_true rfl⟩ hK hP 0 ml_0 (q := (RX6, TX6, 31)) rfl rfl (As := [.int s]) rfl hl.1 (rest := [.int (m_ch (r 0 1))]) rfl (Nat.le_of_ble_eq_true rfl) dX6_draws_25 ⟨Nat.le_of_ble_eq_true rfl, Nat.le_of_ble_eq_true rfl⟩ (st1 := [.int (nI (ct (isU (r 1) (r 4) s) n)), .int (m_ch (r 0 1))]) rfl ?_
  refine lv_irem hx hb dX6_draws_28 (nI_ne0 hu (by omega)) ?_
  refine lv_as (y := nI q) hq2 ?_
  refine lv_istore_n (lv' := [(3, .int (nI q)), (0, .ref (ad 0)), (1, .int s), (2, .int inst)]) hx hb dX6_draws_29 rfl hl (by decide) rfl (fun ls hl => ?_)
  refine lv_iconst (v := 0) hx hb dX6_draws_30 (by decide) ?_
  refine lv_istore (lv' := [(4, .int 0), (3, .int (nI q)), (0, .ref (ad 0)), (1, .int s), (2, .int inst)]) hx hb dX6_draws_31 hl (by decide) rfl (fun ls hl => ?_)
  have hL33 : ∀ (f : Nat) (j : Nat), h - j < f → (j ≤ h) → (ct (isU (r 1) (r 4) s) j ≤ q) → ∀ ls, lv_has ls 5 [(0, .ref (ad 0)), (1, .int s), (2, .int inst), (3, .int (nI (q - ct (isU (r 1) (r 4) s) j))), (4, .int (nI j))] → ∀ (H : Heap) (locs : List Loc), PP dg (mw cA ad (up r 0 1 (m_ch (r 0 1)))) H → va_D A (mw cA ad (up r 0 1 (m_ch (r 0 1)))) → va_S A s0.heap H locs → W p l e ({ frames := 1, cells := 0, slots := 0, locals := 23 } : Room) s0 m args below meth ccd H locs 0 0 (MQ below (QcM dg (mw cA ad (m_d1 r n s inst)) (some (.int (nI (m_h r n s)))) A) args s0 0 0 A) (F0 m 33 ls []) := by
    intro f
    induction f with
    | zero => intro j hm; exact absurd hm (Nat.not_lt_zero _)
    | succ f ih33 =>
      intro j hm33 hj hjq ls hl H locs hP hD hS
      refine lv_aload_n hx hb dX6_draws_33 rfl (lv_at hl 0 rfl) ?_
      refine gf S hK hP 0 ml_0 fX6_13 (v := .ref (ad 1)) mr_1 dX6_draws_34 ?_
      refine lv_iload hx hb dX6_draws_37 (lv_at hl 4 rfl) ?_
      refine ild S hK hP 1 ml_1 (j := j) (by omega) (Nat.le_of_ble_eq_true rfl) dX6_draws_39 ?_
      refine lv_as (y := r 1 j) rfl ?_
      refine lv_iload_n hx hb dX6_draws_40 rfl (lv_at hl 1 rfl) ?_
      refine lv_icmp_ne (tgt := 60) hx hb dX6_draws_41 (by decide) (fun b41 => ?_) (fun b41 => ?_)
      · skip
        refine lv_iload_n hx hb dX6_draws_60 rfl (lv_at hl 3 rfl) ?_
        refine lv_aload_n hx hb dX6_draws_61 rfl (lv_at hl 0 rfl) ?_
        refine gf S hK hP 0 ml_0 fX6_13 (v := .ref (ad 1)) mr_1 dX6_draws_62 ?_
        refine lv_iload hx hb dX6_draws_65 (lv_at hl 4 rfl) ?_
        refine ild S hK hP 1 ml_1 (j := j) (by omega) (Nat.le_of_ble_eq_true rfl) dX6_draws_67 ?_
        refine lv_as (y := r 1 j) rfl ?_
        refine lv_iload_n hx hb dX6_draws_68 rfl (lv_at hl 1 rfl) ?_
        refine lv_icmp_ne (tgt := 88) hx hb dX6_draws_69 (by decide) (fun b69 => ?_) (fun b69 => ?_)
        · skip
          refine lv_iconst (v := 0) hx hb dX6_draws_88 (by decide) ?_
          refine lv_isub hx hb dX6_draws_89 ?_
          refine lv_istore_n (lv' := [(3, .int ((nI (q - ct (isU (r 1) (r 4) s) j)) - 0)), (0, .ref (ad 0)), (1, .int s), (2, .int inst), (4, .int (nI j))]) hx hb dX6_draws_90 rfl hl (by decide) rfl (fun ls hl => ?_)
          refine lv_iinc (v := nI (j + 1)) (lv' := [(4, .int (nI (j + 1))), (3, .int ((nI (q - ct (isU (r 1) (r 4) s) j)) - 0)), (0, .ref (ad 0)), (1, .int s), (2, .int inst)]) hx hb dX6_draws_91 hl (k := 4) rfl (nI_1 j) (by decide) rfl (fun ls hl => ?_)
          refine lv_goto (tgt := 33) hx hb dX6_draws_94 (by decide) ?_
          have e9 : isU (r 1) (r 4) s j = false := by simp [isU, b41]
          have j9 : j < h := by
            rcases Nat.lt_or_ge j h with z | z
            · exact z
            · have z2 : j = h := by omega
              rw [z2, hhp] at e9
              cases e9
          exact ih33 (j + 1) (by omega) (by omega) (by rw [ct_f e9]; exact hjq) ls (lv_cast (lv_sub (l' := [(0, .ref (ad 0)), (1, .int s), (2, .int inst), (3, .int ((nI (q - ct (isU (r 1) (r 4) s) j)) - 0)), (4, .int (nI (j + 1)))]) hl [2, 3, 4, 1, 0] rfl) (by rw [ct_f e9, i32_sub0])) _ _ hP hD hS
        · skip
          exact absurd b69 b41
      · skip
        refine lv_aload_n hx hb dX6_draws_44 rfl (lv_at hl 0 rfl) ?_
        refine gf S hK hP 0 ml_0 fX6_23 (v := .ref (ad 4)) mr_4 dX6_draws_45 ?_
        refine lv_iload hx hb dX6_draws_48 (lv_at hl 4 rfl) ?_
        refine ild S hK hP 4 ml_4 (j := j) (by omega) (Nat.le_of_ble_eq_true rfl) dX6_draws_50 ?_
        refine lv_as (y := r 4 j) rfl ?_
        refine lv_bipush (v := 117) hx hb dX6_draws_51 (by decide) ?_
        refine lv_icmp_ne (tgt := 60) hx hb dX6_draws_53 (by decide) (fun b53 => ?_) (fun b53 => ?_)
        · skip
          refine lv_iload_n hx hb dX6_draws_60 rfl (lv_at hl 3 rfl) ?_
          refine lv_aload_n hx hb dX6_draws_61 rfl (lv_at hl 0 rfl) ?_
          refine gf S hK hP 0 ml_0 fX6_13 (v := .ref (ad 1)) mr_1 dX6_draws_62 ?_
          refine lv_iload hx hb dX6_draws_65 (lv_at hl 4 rfl) ?_
          refine ild S hK hP 1 ml_1 (j := j) (by omega) (Nat.le_of_ble_eq_true rfl) dX6_draws_67 ?_
          refine lv_as (y := r 1 j) rfl ?_
          refine lv_iload_n hx hb dX6_draws_68 rfl (lv_at hl 1 rfl) ?_
          refine lv_icmp_ne (tgt := 88) hx hb dX6_draws_69 (by decide) (fun b69 => ?_) (fun b69 => ?_)
          · skip
            exact absurd b41 b69
          · skip
            refine lv_aload_n hx hb dX6_draws_72 rfl (lv_at hl 0 rfl) ?_
            refine gf S hK hP 0 ml_0 fX6_23 (v := .ref (ad 4)) mr_4 dX6_draws_73 ?_
            refine lv_iload hx hb dX6_draws_76 (lv_at hl 4 rfl) ?_
            refine ild S hK hP 4 ml_4 (j := j) (by omega) (Nat.le_of_ble_eq_true rfl) dX6_draws_78 ?_
            refine lv_as (y := r 4 j) rfl ?_
            refine lv_bipush (v := 117) hx hb dX6_draws_79 (by decide) ?_
            refine lv_icmp_ne (tgt := 88) hx hb dX6_draws_81 (by decide) (fun b81 => ?_) (fun b81 => ?_)
            · skip
              refine lv_iconst (v := 0) hx hb dX6_draws_88 (by decide) ?_
              refine lv_isub hx hb dX6_draws_89 ?_
              refine lv_istore_n (lv' := [(3, .int ((nI (q - ct (isU (r 1) (r 4) s) j)) - 0)), (0, .ref (ad 0)), (1, .int s), (2, .int inst), (4, .int (nI j))]) hx hb dX6_draws_90 rfl hl (by decide) rfl (fun ls hl => ?_)
              refine lv_iinc (v := nI (j + 1)) (lv' := [(4, .int (nI (j + 1))), (3, .int ((nI (q - ct (isU (r 1) (r 4) s) j)) - 0)), (0, .ref (ad 0)), (1, .int s), (2, .int inst)]) hx hb dX6_draws_91 hl (k := 4) rfl (nI_1 j) (by decide) rfl (fun ls hl => ?_)
              refine lv_goto (tgt := 33) hx hb dX6_draws_94 (by decide) ?_
              have e9 : isU (r 1) (r 4) s j = false := by simp [isU, b41, b53]
              have j9 : j < h := by
                rcases Nat.lt_or_ge j h with z | z
                · exact z
                · have z2 : j = h := by omega
                  rw [z2, hhp] at e9
                  cases e9
              exact ih33 (j + 1) (by omega) (by omega) (by rw [ct_f e9]; exact hjq) ls (lv_cast (lv_sub (l' := [(0, .ref (ad 0)), (1, .int s), (2, .int inst), (3, .int ((nI (q - ct (isU (r 1) (r 4) s) j)) - 0)), (4, .int (nI (j + 1)))]) hl [2, 3, 4, 1, 0] rfl) (by rw [ct_f e9, i32_sub0])) _ _ hP hD hS
            · skip
              exact absurd b81 b53
        · skip
          refine lv_iload_n hx hb dX6_draws_56 rfl (lv_at hl 3 rfl) ?_
          refine lv_if_le (tgt := 97) hx hb dX6_draws_57 (by decide) (fun b57 => ?_) (fun b57 => ?_)
          · skip
            have g57 : q - ct (isU (r 1) (r 4) s) j ≤ 0 := (nI_leI (a := q - ct (isU (r 1) (r 4) s) j) (b := 0) (by omega) (by omega)).mp b57
            have e9 : isU (r 1) (r 4) s j = true := by simp [isU, b41, b53]
            have j9 : j = h := ct_one e9 hhp (by omega)
            refine lv_aload_n hx hb dX6_draws_97 rfl (lv_at hl 0 rfl) ?_
            refine gf S hK hP 0 ml_0 fX6_23 (v := .ref (ad 4)) mr_4 dX6_draws_98 ?_
            refine lv_iload hx hb dX6_draws_101 (lv_at hl 4 rfl) ?_
            refine lv_bipush (v := 119) hx hb dX6_draws_103 (by decide) ?_
            refine ist S hK hP hD hS 4 ml_4 (j := j) (x := 119) (by omega) (Nat.le_of_ble_eq_true rfl) ms_4 dX6_draws_105 (fun H locs hP hD hS => ?_)
            refine lv_aload_n hx hb dX6_draws_106 rfl (lv_at hl 0 rfl) ?_
            refine gf S hK hP 0 ml_0 fX6_26 (v := .ref (ad 5)) mr_5 dX6_draws_107 ?_
            refine lv_iload hx hb dX6_draws_110 (lv_at hl 4 rfl) ?_
            refine lv_aload_n hx hb dX6_draws_112 rfl (lv_at hl 0 rfl) ?_
            refine gf S hK hP 0 ml_0 fX6_115 (v := .int (r 0 5)) (mv_5 rfl) dX6_draws_113 ?_
            refine lv_iconst (v := 1) hx hb dX6_draws_116 (by decide) ?_
            refine lv_iadd hx hb dX6_draws_117 ?_
            refine ist S hK hP hD hS 5 ml_5 (j := j) (x := (r 0 5) + 1) (by omega) (Nat.le_of_ble_eq_true rfl) ms_5 dX6_draws_118 (fun H locs hP hD hS => ?_)
            refine lv_aload_n hx hb dX6_draws_119 rfl (lv_at hl 0 rfl) ?_
            refine gf S hK hP 0 ml_0 fX6_53 (v := .ref (ad 14)) mr_14 dX6_draws_120 ?_
            refine lv_iload hx hb dX6_draws_123 (lv_at hl 4 rfl) ?_
            refine lv_iload_n hx hb dX6_draws_125 rfl (lv_at hl 2 rfl) ?_
            refine zst S hK hP hD hS 14 ml_14 (j := j) (x := inst) (by omega) (Nat.le_of_ble_eq_true rfl) hinst ms_14 dX6_draws_126 (fun H locs hP hD hS => ?_)
            refine lv_iload hx hb dX6_draws_127 (lv_at hl 4 rfl) ?_
            exact eMi S hr hlk hP hD hS dX6_draws_129 (by rw [j9, show h = m_h r n s from hhe]) (by rw [j9, show h = m_h r n s from hhe]; rfl)
          · skip
            have g57 : ¬ q - ct (isU (r 1) (r 4) s) j ≤ 0 := fun zz => b57 ((nI_leI (a := q - ct (isU (r 1) (r 4) s) j) (b := 0) (by omega) (by omega)).mpr zz)
            refine lv_iload_n hx hb dX6_draws_60 rfl (lv_at hl 3 rfl) ?_
            refine lv_aload_n hx hb dX6_draws_61 rfl (lv_at hl 0 rfl) ?_
            refine gf S hK hP 0 ml_0 fX6_13 (v := .ref (ad 1)) mr_1 dX6_draws_62 ?_
            refine lv_iload hx hb dX6_draws_65 (lv_at hl 4 rfl) ?_
            refine ild S hK hP 1 ml_1 (j := j) (by omega) (Nat.le_of_ble_eq_true rfl) dX6_draws_67 ?_
            refine lv_as (y := r 1 j) rfl ?_
            refine lv_iload_n hx hb dX6_draws_68 rfl (lv_at hl 1 rfl) ?_
            refine lv_icmp_ne (tgt := 88) hx hb dX6_draws_69 (by decide) (fun b69 => ?_) (fun b69 => ?_)
            · skip
              exact absurd b41 b69
            · skip
              refine lv_aload_n hx hb dX6_draws_72 rfl (lv_at hl 0 rfl) ?_
              refine gf S hK hP 0 ml_0 fX6_23 (v := .ref (ad 4)) mr_4 dX6_draws_73 ?_
              refine lv_iload hx hb dX6_draws_76 (lv_at hl 4 rfl) ?_
              refine ild S hK hP 4 ml_4 (j := j) (by omega) (Nat.le_of_ble_eq_true rfl) dX6_draws_78 ?_
              refine lv_as (y := r 4 j) rfl ?_
              refine lv_bipush (v := 117) hx hb dX6_draws_79 (by decide) ?_
              refine lv_icmp_ne (tgt := 88) hx hb dX6_draws_81 (by decide) (fun b81 => ?_) (fun b81 => ?_)
              · skip
                exact absurd b53 b81
              · skip
                refine lv_iconst (v := 1) hx hb dX6_draws_84 (by decide) ?_
                refine lv_goto (tgt := 89) hx hb dX6_draws_85 (by decide) ?_
                refine lv_isub hx hb dX6_draws_89 ?_
                refine lv_istore_n (lv' := [(3, .int ((nI (q - ct (isU (r 1) (r 4) s) j)) - 1)), (0, .ref (ad 0)), (1, .int s), (2, .int inst), (4, .int (nI j))]) hx hb dX6_draws_90 rfl hl (by decide) rfl (fun ls hl => ?_)
                refine lv_iinc (v := nI (j + 1)) (lv' := [(4, .int (nI (j + 1))), (3, .int ((nI (q - ct (isU (r 1) (r 4) s) j)) - 1)), (0, .ref (ad 0)), (1, .int s), (2, .int inst)]) hx hb dX6_draws_91 hl (k := 4) rfl (nI_1 j) (by decide) rfl (fun ls hl => ?_)
                refine lv_goto (tgt := 33) hx hb dX6_draws_94 (by decide) ?_
                have e9 : isU (r 1) (r 4) s j = true := by simp [isU, b41, b53]
                have j9 : j < h := by
                  rcases Nat.lt_or_ge j h with z | z
                  · exact z
                  · have z2 : j = h := by omega
                    rw [z2] at g57
                    omega
                have c9 := ct_mono (isU (r 1) (r 4) s) (show j + 1 ≤ h from j9)
                exact ih33 (j + 1) (by omega) (by omega) (by omega) ls (lv_cast (lv_sub (l' := [(0, .ref (ad 0)), (1, .int s), (2, .int inst), (3, .int ((nI (q - ct (isU (r 1) (r 4) s) j)) - 1)), (4, .int (nI (j + 1)))]) hl [2, 3, 4, 1, 0] rfl) (by rw [ct_t e9, show q - ct (isU (r 1) (r 4) s) j = (q - (ct (isU (r 1) (r 4) s) j + 1)) + 1 by rw [ct_t e9] at c9; omega, nI_pred])) _ _ hP hD hS
  exact hL33 _ 0 (Nat.lt_succ_self _) (Nat.zero_le _) (Nat.zero_le _) ls (lv_cast (lv_sub (l' := [(0, .ref (ad 0)), (1, .int s), (2, .int inst), (3, .int (nI q)), (4, .int 0)]) hl [2, 3, 4, 1, 0] rfl) (by rfl)) _ _ hP hD hS
