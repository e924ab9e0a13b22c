set_option maxHeartbeats 4000000 in
set_option maxRecDepth 100000 in
theorem cc_wantFrom (l : Launch) (dg : va_G) (cA : Nat → ClassId) (ad : Nat → Nat) (nh ni : Nat) (c : St) (i : Nat) (hi : i < nh) (d : Int32) (sz : Nat) : MetM l dg cA yX2_wantFrom cX2_wantFrom 2 none ({ frames := 0, cells := 0, slots := 0, locals := 0 } : Room) 0 0 (cw cA ad nh ni c) sz [.ref (ad (30 + i)), .int d] (cw cA ad nh ni (up (up c 21 i 119) 22 i d)) none := by
  refine ofM (by decide) (Nat.le_of_ble_eq_true rfl) (own := RX2) rfl (fun p e s0 m args below meth ccd ls A hAe S hr hlk hname hargs hK hP hD hS hA hsz hl => ?_)
  have hx := S.1
  have hb := S.2.1
  have hl : lv_has ls 2 [(0, .ref (ad (30 + i))), (1, .int d)] := hl
  refine lv_aload_n hx hb dX2_wantFrom_0 rfl (lv_at hl 0 rfl) ?_
  refine lv_bipush (v := 119) hx hb dX2_wantFrom_1 (by decide) ?_
  refine pf S hK hP hD hS (22 + i) (cl_h (by omega)) fX2_9 fpX2 rfl (v := .int 119) rfl rfl (Nat.le_of_ble_eq_true rfl) (cs_h_1 (by omega)) dX2_wantFrom_3 (fun H locs hP hD hS => ?_)
  refine lv_aload_n hx hb dX2_wantFrom_6 rfl (lv_at hl 0 rfl) ?_
  refine lv_iload_n hx hb dX2_wantFrom_7 rfl (lv_at hl 1 rfl) ?_
  refine pf S hK hP hD hS (22 + i) (cl_h (by omega)) fX2_15 fpX2 rfl (v := .int d) rfl rfl (Nat.le_of_ble_eq_true rfl) (cs_h_2 (by omega)) dX2_wantFrom_8 (fun H locs hP hD hS => ?_)
  exact eMv S hr hlk hP hD hS dX2_wantFrom_11 rfl

set_option maxHeartbeats 4000000 in
set_option maxRecDepth 100000 in
theorem cc_lose (l : Launch) (dg : va_G) (cA : Nat → ClassId) (ad : Nat → Nat) (nh ni : Nat) (c : St) (i : Nat) (hi : i < nh) (how : Int32) (hw1 : narrow .char (.int how) = .int how) (hw2 : fits .char (.int how) = true) (sz : Nat) : MetM l dg cA yX2_lose cX2_lose 2 none ({ frames := 0, cells := 0, slots := 0, locals := 0 } : Room) 0 0 (cw cA ad nh ni c) sz [.ref (ad (30 + i)), .int how] (cw cA ad nh ni (up (up c 21 i how) 29 i 1)) none := by
  refine ofM (by decide) (Nat.le_of_ble_eq_true rfl) (own := RX2) rfl (fun p e s0 m args below meth ccd ls A hAe S hr hlk hname hargs hK hP hD hS hA hsz hl => ?_)
  have hx := S.1
  have hb := S.2.1
  have hl : lv_has ls 2 [(0, .ref (ad (30 + i))), (1, .int how)] := hl
  refine lv_aload_n hx hb dX2_lose_0 rfl (lv_at hl 0 rfl) ?_
  refine lv_iload_n hx hb dX2_lose_1 rfl (lv_at hl 1 rfl) ?_
  refine pf S hK hP hD hS (22 + i) (cl_h (by omega)) fX2_9 fpX2 rfl (v := .int how) hw1 hw2 (Nat.le_of_ble_eq_true rfl) (cs_h_1 (by omega)) dX2_lose_2 (fun H locs hP hD hS => ?_)
  refine lv_aload_n hx hb dX2_lose_5 rfl (lv_at hl 0 rfl) ?_
  refine lv_iconst (v := 1) hx hb dX2_lose_6 (by decide) ?_
  refine pf S hK hP hD hS (22 + i) (cl_h (by omega)) fX2_38 fpX2 rfl (v := .int 1) rfl rfl (Nat.le_of_ble_eq_true rfl) (cs_h_9 (by omega)) dX2_lose_7 (fun H locs hP hD hS => ?_)
  exact eMv S hr hlk hP hD hS dX2_lose_10 rfl

set_option maxHeartbeats 4000000 in
set_option maxRecDepth 100000 in
theorem cc_beginDay (l : Launch) (dg : va_G) (cA : Nat → ClassId) (ad : Nat → Nat) (nh ni : Nat) (c : St) (i : Nat) (hi : i < nh) (sz : Nat) : MetM l dg cA yX2_beginDay cX2_beginDay 1 none ({ frames := 0, cells := 0, slots := 0, locals := 0 } : Room) 0 0 (cw cA ad nh ni c) sz [.ref (ad (30 + i))] (cw cA ad nh ni (up (up (up c 27 i (-1)) 28 i 0) 29 i 0)) none := by
  refine ofM (by decide) (Nat.le_of_ble_eq_true rfl) (own := RX2) rfl (fun p e s0 m args below meth ccd ls A hAe S hr hlk hname hargs hK hP hD hS hA hsz hl => ?_)
  have hx := S.1
  have hb := S.2.1
  have hl : lv_has ls 1 [(0, .ref (ad (30 + i)))] := hl
  refine lv_aload_n hx hb dX2_beginDay_0 rfl (lv_at hl 0 rfl) ?_
  refine lv_iconst (v := (-1)) hx hb dX2_beginDay_1 (by decide) ?_
  refine pf S hK hP hD hS (22 + i) (cl_h (by omega)) fX2_31 fpX2 rfl (v := .int (-1)) rfl rfl (Nat.le_of_ble_eq_true rfl) (cs_h_7 (by omega)) dX2_beginDay_2 (fun H locs hP hD hS => ?_)
  refine lv_aload_n hx hb dX2_beginDay_5 rfl (lv_at hl 0 rfl) ?_
  refine lv_iconst (v := 0) hx hb dX2_beginDay_6 (by decide) ?_
  refine pf S hK hP hD hS (22 + i) (cl_h (by omega)) fX2_34 fpX2 rfl (v := .int 0) rfl rfl (Nat.le_of_ble_eq_true rfl) (cs_h_8 (by omega)) dX2_beginDay_7 (fun H locs hP hD hS => ?_)
  refine lv_aload_n hx hb dX2_beginDay_10 rfl (lv_at hl 0 rfl) ?_
  refine lv_iconst (v := 0) hx hb dX2_beginDay_11 (by decide) ?_
  refine pf S hK hP hD hS (22 + i) (cl_h (by omega)) fX2_38 fpX2 rfl (v := .int 0) rfl rfl (Nat.le_of_ble_eq_true rfl) (cs_h_9 (by omega)) dX2_beginDay_12 (fun H locs hP hD hS => ?_)
  exact eMv S hr hlk hP hD hS dX2_beginDay_15 rfl

set_option maxHeartbeats 4000000 in
set_option maxRecDepth 100000 in
theorem cc_meet3 (l : Launch) (dg : va_G) (cA : Nat → ClassId) (ad : Nat → Nat) (nh ni : Nat) (c : St) (i : Nat) (hi : i < nh) (d : Int32) (h3 : ¬ c 24 i + 1 < 3) (sz : Nat) : MetM l dg cA yX2_meetNobody cX2_meetNobody 2 none ({ frames := 1, cells := 0, slots := 0, locals := 21 } : Room) 0 0 (cw cA ad nh ni c) sz [.ref (ad (30 + i)), .int d] (cw cA ad nh ni (up (up (up c 24 i (c 24 i + 1)) 21 i 103) 29 i 1)) none := by
  refine ofM (by decide) (Nat.le_of_ble_eq_true rfl) (own := RX2) rfl (fun p e s0 m args below meth ccd ls A hAe S hr hlk hname hargs hK hP hD hS hA hsz hl => ?_)
  have hx := S.1
  have hb := S.2.1
  have hl : lv_has ls 2 [(0, .ref (ad (30 + i))), (1, .int d)] := hl
  refine lv_aload_n hx hb dX2_meetNobody_0 rfl (lv_at hl 0 rfl) ?_
  refine lv_dup hx hb dX2_meetNobody_1 rfl ?_
  refine gf S hK hP (22 + i) (cl_h (by omega)) fX2_22 (v := .int (c 24 i)) (ch_4 rfl) dX2_meetNobody_2 ?_
  refine lv_iconst (v := 1) hx hb dX2_meetNobody_5 (by decide) ?_
  refine lv_iadd hx hb dX2_meetNobody_6 ?_
  refine pf S hK hP hD hS (22 + i) (cl_h (by omega)) fX2_22 fpX2 rfl (v := .int ((c 24 i) + 1)) rfl rfl (Nat.le_of_ble_eq_true rfl) (cs_h_4 (by omega)) dX2_meetNobody_7 (fun H locs hP hD hS => ?_)
  refine lv_aload_n hx hb dX2_meetNobody_10 rfl (lv_at hl 0 rfl) ?_
  refine gf S hK hP (22 + i) (cl_h (by omega)) fX2_22 (v := .int ((c 24 i) + 1)) (ch_4 up_at) dX2_meetNobody_11 ?_
  refine lv_iconst (v := 3) hx hb dX2_meetNobody_14 (by decide) ?_
  refine lv_icmp_lt (tgt := 27) hx hb dX2_meetNobody_15 (by decide) (fun b15 => ?_) (fun b15 => ?_)
  · skip
    exact absurd b15 h3
  · skip
    refine lv_aload_n hx hb dX2_meetNobody_18 rfl (lv_at hl 0 rfl) ?_
    refine lv_bipush (v := 103) hx hb dX2_meetNobody_19 (by decide) ?_
    refine cM S (cc_lose l dg cA ad nh ni (up c 24 i ((c 24 i) + 1)) i (by omega) 103 rfl rfl _) kX2_47 ⟨rfl, rfl, Nat.le_of_ble_eq_true rfl, Nat.le_of_ble_eq_true rfl⟩ hK hP hD hS hA (22 + i) (cl_h (by omega)) (q := (RX2, TX2, 11)) rfl rfl (As := [.int 103]) rfl hl.1 (rest := []) rfl (Nat.le_of_ble_eq_true rfl) dX2_meetNobody_21 ⟨Nat.le_of_ble_eq_true rfl, Nat.le_of_ble_eq_true rfl⟩ (st1 := []) rfl (fun H locs hP hD hS => ?_)
    refine lv_goto (tgt := 37) hx hb dX2_meetNobody_24 (by decide) ?_
    exact eMv S hr hlk hP hD hS dX2_meetNobody_37 rfl

set_option maxHeartbeats 4000000 in
set_option maxRecDepth 100000 in
theorem cc_meet (l : Launch) (dg : va_G) (cA : Nat → ClassId) (ad : Nat → Nat) (nh ni : Nat) (c : St) (i : Nat) (hi : i < nh) (d : Int32) (h3 : c 24 i + 1 < 3) (sz : Nat) : MetM l dg cA yX2_meetNobody cX2_meetNobody 2 none ({ frames := 1, cells := 0, slots := 0, locals := 21 } : Room) 0 0 (cw cA ad nh ni c) sz [.ref (ad (30 + i)), .int d] (cw cA ad nh ni (up (up (up c 24 i (c 24 i + 1)) 21 i 119) 22 i (d + (c 24 i + 1)))) none := by
  refine ofM (by decide) (Nat.le_of_ble_eq_true rfl) (own := RX2) rfl (fun p e s0 m args below meth ccd ls A hAe S hr hlk hname hargs hK hP hD hS hA hsz hl => ?_)
  have hx := S.1
  have hb := S.2.1
  have hl : lv_has ls 2 [(0, .ref (ad (30 + i))), (1, .int d)] := hl
  refine lv_aload_n hx hb dX2_meetNobody_0 rfl (lv_at hl 0 rfl) ?_
  refine lv_dup hx hb dX2_meetNobody_1 rfl ?_
  refine gf S hK hP (22 + i) (cl_h (by omega)) fX2_22 (v := .int (c 24 i)) (ch_4 rfl) dX2_meetNobody_2 ?_
  refine lv_iconst (v := 1) hx hb dX2_meetNobody_5 (by decide) ?_
  refine lv_iadd hx hb dX2_meetNobody_6 ?_
  refine pf S hK hP hD hS (22 + i) (cl_h (by omega)) fX2_22 fpX2 rfl (v := .int ((c 24 i) + 1)) rfl rfl (Nat.le_of_ble_eq_true rfl) (cs_h_4 (by omega)) dX2_meetNobody_7 (fun H locs hP hD hS => ?_)
  refine lv_aload_n hx hb dX2_meetNobody_10 rfl (lv_at hl 0 rfl) ?_
  refine gf S hK hP (22 + i) (cl_h (by omega)) fX2_22 (v := .int ((c 24 i) + 1)) (ch_4 up_at) dX2_meetNobody_11 ?_
  refine lv_iconst (v := 3) hx hb dX2_meetNobody_14 (by decide) ?_
  refine lv_icmp_lt (tgt := 27) hx hb dX2_meetNobody_15 (by decide) (fun b15 => ?_) (fun b15 => ?_)
  · skip
    refine lv_aload_n hx hb dX2_meetNobody_27 rfl (lv_at hl 0 rfl) ?_
    refine lv_iload_n hx hb dX2_meetNobody_28 rfl (lv_at hl 1 rfl) ?_
    refine lv_aload_n hx hb dX2_meetNobody_29 rfl (lv_at hl 0 rfl) ?_
    refine gf S hK hP (22 + i) (cl_h (by omega)) fX2_22 (v := .int ((c 24 i) + 1)) (ch_4 up_at) dX2_meetNobody_30 ?_
    refine lv_iadd hx hb dX2_meetNobody_33 ?_
    refine cM S (cc_wantFrom l dg cA ad nh ni (up c 24 i ((c 24 i) + 1)) i (by omega) (d + ((c 24 i) + 1)) _) kX2_51 ⟨rfl, rfl, Nat.le_of_ble_eq_true rfl, Nat.le_of_ble_eq_true rfl⟩ hK hP hD hS hA (22 + i) (cl_h (by omega)) (q := (RX2, TX2, 11)) rfl rfl (As := [.int (d + ((c 24 i) + 1))]) rfl hl.1 (rest := []) rfl (Nat.le_of_ble_eq_true rfl) dX2_meetNobody_34 ⟨Nat.le_of_ble_eq_true rfl, Nat.le_of_ble_eq_true rfl⟩ (st1 := []) rfl (fun H locs hP hD hS => ?_)
    exact eMv S hr hlk hP hD hS dX2_meetNobody_37 rfl
  · skip
    exact absurd h3 b15

set_option maxHeartbeats 4000000 in
set_option maxRecDepth 100000 in
theorem cc_refuse2 (l : Launch) (dg : va_G) (cA : Nat → ClassId) (ad : Nat → Nat) (nh ni : Nat) (c : St) (i : Nat) (hi : i < nh) (v d : Int32) (h3 : ¬ c 25 i + 1 < 2) (sz : Nat) : MetM l dg cA yX2_refuse cX2_refuse 3 none ({ frames := 1, cells := 0, slots := 0, locals := 21 } : Room) 0 0 (cw cA ad nh ni c) sz [.ref (ad (30 + i)), .int v, .int d] (cw cA ad nh ni (up (up (up (up c 25 i (c 25 i + 1)) 26 i (c 26 i ||| 1 <<< (v &&& 31))) 21 i 114) 29 i 1)) none := by
  refine ofM (by decide) (Nat.le_of_ble_eq_true rfl) (own := RX2) rfl (fun p e s0 m args below meth ccd ls A hAe S hr hlk hname hargs hK hP hD hS hA hsz hl => ?_)
  have hx := S.1
  have hb := S.2.1
  have hl : lv_has ls 3 [(0, .ref (ad (30 + i))), (1, .int v), (2, .int d)] := hl
  refine lv_aload_n hx hb dX2_refuse_0 rfl (lv_at hl 0 rfl) ?_
  refine lv_dup hx hb dX2_refuse_1 rfl ?_
  refine gf S hK hP (22 + i) (cl_h (by omega)) fX2_25 (v := .int (c 25 i)) (ch_5 rfl) dX2_refuse_2 ?_
  refine lv_iconst (v := 1) hx hb dX2_refuse_5 (by decide) ?_
  refine lv_iadd hx hb dX2_refuse_6 ?_
  refine pf S hK hP hD hS (22 + i) (cl_h (by omega)) fX2_25 fpX2 rfl (v := .int ((c 25 i) + 1)) rfl rfl (Nat.le_of_ble_eq_true rfl) (cs_h_5 (by omega)) dX2_refuse_7 (fun H locs hP hD hS => ?_)
  refine lv_aload_n hx hb dX2_refuse_10 rfl (lv_at hl 0 rfl) ?_
  refine lv_dup hx hb dX2_refuse_11 rfl ?_
  refine gf S hK hP (22 + i) (cl_h (by omega)) fX2_28 (v := .int (c 26 i)) (ch_6 rfl) dX2_refuse_12 ?_
  refine lv_iconst (v := 1) hx hb dX2_refuse_15 (by decide) ?_
  refine lv_iload_n hx hb dX2_refuse_16 rfl (lv_at hl 1 rfl) ?_
  refine lv_ishl hx hb dX2_refuse_17 ?_
  refine lv_ior hx hb dX2_refuse_18 ?_
  refine pf S hK hP hD hS (22 + i) (cl_h (by omega)) fX2_28 fpX2 rfl (v := .int ((c 26 i) ||| (1 <<< (v &&& 31)))) rfl rfl (Nat.le_of_ble_eq_true rfl) (cs_h_6 (by omega)) dX2_refuse_19 (fun H locs hP hD hS => ?_)
  refine lv_aload_n hx hb dX2_refuse_22 rfl (lv_at hl 0 rfl) ?_
  refine gf S hK hP (22 + i) (cl_h (by omega)) fX2_25 (v := .int ((c 25 i) + 1)) (ch_5 (up_at : up c 25 i ((c 25 i) + 1) 25 i = (c 25 i) + 1)) dX2_refuse_23 ?_
  refine lv_iconst (v := 2) hx hb dX2_refuse_26 (by decide) ?_
  refine lv_icmp_lt (tgt := 39) hx hb dX2_refuse_27 (by decide) (fun b27 => ?_) (fun b27 => ?_)
  · skip
    exact absurd b27 h3
  · skip
    refine lv_aload_n hx hb dX2_refuse_30 rfl (lv_at hl 0 rfl) ?_
    refine lv_bipush (v := 114) hx hb dX2_refuse_31 (by decide) ?_
    refine cM S (cc_lose l dg cA ad nh ni (up (up c 25 i ((c 25 i) + 1)) 26 i ((c 26 i) ||| (1 <<< (v &&& 31)))) i (by omega) 114 rfl rfl _) kX2_47 ⟨rfl, rfl, Nat.le_of_ble_eq_true rfl, Nat.le_of_ble_eq_true rfl⟩ hK hP hD hS hA (22 + i) (cl_h (by omega)) (q := (RX2, TX2, 11)) rfl rfl (As := [.int 114]) rfl hl.1 (rest := []) rfl (Nat.le_of_ble_eq_true rfl) dX2_refuse_33 ⟨Nat.le_of_ble_eq_true rfl, Nat.le_of_ble_eq_true rfl⟩ (st1 := []) rfl (fun H locs hP hD hS => ?_)
    refine lv_goto (tgt := 46) hx hb dX2_refuse_36 (by decide) ?_
    exact eMv S hr hlk hP hD hS dX2_refuse_46 rfl

set_option maxHeartbeats 4000000 in
set_option maxRecDepth 100000 in
theorem cc_refuse (l : Launch) (dg : va_G) (cA : Nat → ClassId) (ad : Nat → Nat) (nh ni : Nat) (c : St) (i : Nat) (hi : i < nh) (v d : Int32) (h3 : c 25 i + 1 < 2) (sz : Nat) : MetM l dg cA yX2_refuse cX2_refuse 3 none ({ frames := 1, cells := 0, slots := 0, locals := 21 } : Room) 0 0 (cw cA ad nh ni c) sz [.ref (ad (30 + i)), .int v, .int d] (cw cA ad nh ni (up (up (up (up c 25 i (c 25 i + 1)) 26 i (c 26 i ||| 1 <<< (v &&& 31))) 21 i 119) 22 i (d + 3))) none := by
  refine ofM (by decide) (Nat.le_of_ble_eq_true rfl) (own := RX2) rfl (fun p e s0 m args below meth ccd ls A hAe S hr hlk hname hargs hK hP hD hS hA hsz hl => ?_)
  have hx := S.1
  have hb := S.2.1
  have hl : lv_has ls 3 [(0, .ref (ad (30 + i))), (1, .int v), (2, .int d)] := hl
  refine lv_aload_n hx hb dX2_refuse_0 rfl (lv_at hl 0 rfl) ?_
  refine lv_dup hx hb dX2_refuse_1 rfl ?_
  refine gf S hK hP (22 + i) (cl_h (by omega)) fX2_25 (v := .int (c 25 i)) (ch_5 rfl) dX2_refuse_2 ?_
  refine lv_iconst (v := 1) hx hb dX2_refuse_5 (by decide) ?_
  refine lv_iadd hx hb dX2_refuse_6 ?_
  refine pf S hK hP hD hS (22 + i) (cl_h (by omega)) fX2_25 fpX2 rfl (v := .int ((c 25 i) + 1)) rfl rfl (Nat.le_of_ble_eq_true rfl) (cs_h_5 (by omega)) dX2_refuse_7 (fun H locs hP hD hS => ?_)
  refine lv_aload_n hx hb dX2_refuse_10 rfl (lv_at hl 0 rfl) ?_
  refine lv_dup hx hb dX2_refuse_11 rfl ?_
  refine gf S hK hP (22 + i) (cl_h (by omega)) fX2_28 (v := .int (c 26 i)) (ch_6 rfl) dX2_refuse_12 ?_
  refine lv_iconst (v := 1) hx hb dX2_refuse_15 (by decide) ?_
  refine lv_iload_n hx hb dX2_refuse_16 rfl (lv_at hl 1 rfl) ?_
  refine lv_ishl hx hb dX2_refuse_17 ?_
  refine lv_ior hx hb dX2_refuse_18 ?_
  refine pf S hK hP hD hS (22 + i) (cl_h (by omega)) fX2_28 fpX2 rfl (v := .int ((c 26 i) ||| (1 <<< (v &&& 31)))) rfl rfl (Nat.le_of_ble_eq_true rfl) (cs_h_6 (by omega)) dX2_refuse_19 (fun H locs hP hD hS => ?_)
  refine lv_aload_n hx hb dX2_refuse_22 rfl (lv_at hl 0 rfl) ?_
  refine gf S hK hP (22 + i) (cl_h (by omega)) fX2_25 (v := .int ((c 25 i) + 1)) (ch_5 (up_at : up c 25 i ((c 25 i) + 1) 25 i = (c 25 i) + 1)) dX2_refuse_23 ?_
  refine lv_iconst (v := 2) hx hb dX2_refuse_26 (by decide) ?_
  refine lv_icmp_lt (tgt := 39) hx hb dX2_refuse_27 (by decide) (fun b27 => ?_) (fun b27 => ?_)
  · skip
    refine lv_aload_n hx hb dX2_refuse_39 rfl (lv_at hl 0 rfl) ?_
    refine lv_iload_n hx hb dX2_refuse_40 rfl (lv_at hl 2 rfl) ?_
    refine lv_iconst (v := 3) hx hb dX2_refuse_41 (by decide) ?_
    refine lv_iadd hx hb dX2_refuse_42 ?_
    refine cM S (cc_wantFrom l dg cA ad nh ni (up (up c 25 i ((c 25 i) + 1)) 26 i ((c 26 i) ||| (1 <<< (v &&& 31)))) i (by omega) (d + 3) _) kX2_51 ⟨rfl, rfl, Nat.le_of_ble_eq_true rfl, Nat.le_of_ble_eq_true rfl⟩ hK hP hD hS hA (22 + i) (cl_h (by omega)) (q := (RX2, TX2, 11)) rfl rfl (As := [.int (d + 3)]) rfl hl.1 (rest := []) rfl (Nat.le_of_ble_eq_true rfl) dX2_refuse_43 ⟨Nat.le_of_ble_eq_true rfl, Nat.le_of_ble_eq_true rfl⟩ (st1 := []) rfl (fun H locs hP hD hS => ?_)
    exact eMv S hr hlk hP hD hS dX2_refuse_46 rfl
  · skip
    exact absurd h3 b27

set_option maxHeartbeats 4000000 in
set_option maxRecDepth 100000 in
theorem cc_hasRefused (l : Launch) (dg : va_G) (cA : Nat → ClassId) (ad : Nat → Nat) (nh ni : Nat) (c : St) (i : Nat) (hi : i < nh) (v : Int32) : MetR l dg cA yX2_hasRefused cX2_hasRefused 2 (some .boolean) ({ frames := 0, cells := 0, slots := 0, locals := 0 } : Room) (cw cA ad nh ni c) [.ref (ad (30 + i)), .int v] (some (.int (b2 (decide ((c 26 i >>> (v &&& 31)) &&& 1 = 1))))) := by
  refine ofR (by decide) (Nat.le_of_ble_eq_true rfl) (own := RX2) rfl (fun p e s0 m args below meth ccd ls S hr hlk hargs hK hP hl => ?_)
  have hx := S.1
  have hb := S.2.1
  have hl : lv_has ls 2 [(0, .ref (ad (30 + i))), (1, .int v)] := hl
  refine lv_aload_n hx hb dX2_hasRefused_0 rfl (lv_at hl 0 rfl) ?_
  refine gf S hK hP (22 + i) (cl_h (by omega)) fX2_28 (v := .int (c 26 i)) (ch_6 rfl) dX2_hasRefused_1 ?_
  refine lv_iload_n hx hb dX2_hasRefused_4 rfl (lv_at hl 1 rfl) ?_
  refine lv_ishr hx hb dX2_hasRefused_5 ?_
  refine lv_iconst (v := 1) hx hb dX2_hasRefused_6 (by decide) ?_
  refine lv_iand hx hb dX2_hasRefused_7 ?_
  refine lv_iconst (v := 1) hx hb dX2_hasRefused_8 (by decide) ?_
  refine lv_icmp_ne (tgt := 16) hx hb dX2_hasRefused_9 (by decide) (fun b9 => ?_) (fun b9 => ?_)
  · skip
    refine lv_iconst (v := 0) hx hb dX2_hasRefused_16 (by decide) ?_
    exact eRz S hr hlk dX2_hasRefused_17 (by simp [b2, b9]) (b2_nr _)
  · skip
    refine lv_iconst (v := 1) hx hb dX2_hasRefused_12 (by decide) ?_
    refine lv_goto (tgt := 17) hx hb dX2_hasRefused_13 (by decide) ?_
    exact eRz S hr hlk dX2_hasRefused_17 (by simp [b2, b9]) (b2_nr _)

set_option maxHeartbeats 4000000 in
set_option maxRecDepth 100000 in
theorem cc_isFree (l : Launch) (dg : va_G) (cA : Nat → ClassId) (ad : Nat → Nat) (nh ni : Nat) (c : St) (i : Nat) (hi : i < nh) (d : Int32) : MetR l dg cA yX2_isFree cX2_isFree 2 (some .boolean) ({ frames := 0, cells := 0, slots := 0, locals := 0 } : Room) (cw cA ad nh ni c) [.ref (ad (30 + i)), .int d] (some (.int (b2 (decide (c 21 i = 119) && (decide (¬ d < c 22 i) && decide (c 27 i = -1)))))) := by
  refine ofR (by decide) (Nat.le_of_ble_eq_true rfl) (own := RX2) rfl (fun p e s0 m args below meth ccd ls S hr hlk hargs hK hP hl => ?_)
  have hx := S.1
  have hb := S.2.1
  have hl : lv_has ls 2 [(0, .ref (ad (30 + i))), (1, .int d)] := hl
  refine lv_aload_n hx hb dX2_isFree_0 rfl (lv_at hl 0 rfl) ?_
  refine gf S hK hP (22 + i) (cl_h (by omega)) fX2_9 (v := .int (c 21 i)) (ch_1 rfl) dX2_isFree_1 ?_
  refine lv_bipush (v := 119) hx hb dX2_isFree_4 (by decide) ?_
  refine lv_icmp_ne (tgt := 29) hx hb dX2_isFree_6 (by decide) (fun b6 => ?_) (fun b6 => ?_)
  · skip
    refine lv_iconst (v := 0) hx hb dX2_isFree_29 (by decide) ?_
    exact eRz S hr hlk dX2_isFree_30 (by simp [b2, -Int32.not_lt, b6]) (b2_nr _)
  · skip
    refine lv_aload_n hx hb dX2_isFree_9 rfl (lv_at hl 0 rfl) ?_
    refine gf S hK hP (22 + i) (cl_h (by omega)) fX2_15 (v := .int (c 22 i)) (ch_2 rfl) dX2_isFree_10 ?_
    refine lv_iload_n hx hb dX2_isFree_13 rfl (lv_at hl 1 rfl) ?_
    refine lv_icmp_gt (tgt := 29) hx hb dX2_isFree_14 (by decide) (fun b14 => ?_) (fun b14 => ?_)
    · skip
      refine lv_iconst (v := 0) hx hb dX2_isFree_29 (by decide) ?_
      exact eRz S hr hlk dX2_isFree_30 (by simp [b2, -Int32.not_lt, b6, b14]) (b2_nr _)
    · skip
      refine lv_aload_n hx hb dX2_isFree_17 rfl (lv_at hl 0 rfl) ?_
      refine gf S hK hP (22 + i) (cl_h (by omega)) fX2_31 (v := .int (c 27 i)) (ch_7 rfl) dX2_isFree_18 ?_
      refine lv_iconst (v := (-1)) hx hb dX2_isFree_21 (by decide) ?_
      refine lv_icmp_ne (tgt := 29) hx hb dX2_isFree_22 (by decide) (fun b22 => ?_) (fun b22 => ?_)
      · skip
        refine lv_iconst (v := 0) hx hb dX2_isFree_29 (by decide) ?_
        exact eRz S hr hlk dX2_isFree_30 (by simp [b2, -Int32.not_lt, b6, b14, b22]) (b2_nr _)
      · skip
        refine lv_iconst (v := 1) hx hb dX2_isFree_25 (by decide) ?_
        refine lv_goto (tgt := 30) hx hb dX2_isFree_26 (by decide) ?_
        exact eRz S hr hlk dX2_isFree_30 (by simp [b2, -Int32.not_lt, b6, b14, b22]) (b2_nr _)

set_option maxHeartbeats 4000000 in
set_option maxRecDepth 100000 in
theorem cc_beginRound (l : Launch) (dg : va_G) (cA : Nat → ClassId) (ad : Nat → Nat) (nh ni : Nat) (c : St) (i : Nat) (hi : i < ni) (sz : Nat) : MetM l dg cA yX3_beginRound cX3_beginRound 1 none ({ frames := 0, cells := 0, slots := 0, locals := 0 } : Room) 0 0 (cw cA ad nh ni c) sz [.ref (ad (60 + i))] (cw cA ad nh ni (up (up (up c 34 i 0) 35 i (c 31 i)) 36 i 0)) none := by
  refine ofM (by decide) (Nat.le_of_ble_eq_true rfl) (own := RX3) rfl (fun p e s0 m args below meth ccd ls A hAe S hr hlk hname hargs hK hP hD hS hA hsz hl => ?_)
  have hx := S.1
  have hb := S.2.1
  have hl : lv_has ls 1 [(0, .ref (ad (60 + i)))] := hl
  refine lv_aload_n hx hb dX3_beginRound_0 rfl (lv_at hl 0 rfl) ?_
  refine lv_iconst (v := 0) hx hb dX3_beginRound_1 (by decide) ?_
  refine pf S hK hP hD hS (22 + (nh + i)) (cl_i (by omega)) fX3_15 fpX3 rfl (v := .int 0) rfl rfl (Nat.le_of_ble_eq_true rfl) (cs_i_4 (by omega)) dX3_beginRound_2 (fun H locs hP hD hS => ?_)
  refine lv_aload_n hx hb dX3_beginRound_5 rfl (lv_at hl 0 rfl) ?_
  refine lv_aload_n hx hb dX3_beginRound_6 rfl (lv_at hl 0 rfl) ?_
  refine gf S hK hP (22 + (nh + i)) (cl_i (by omega)) fX3_22 (v := .int (c 31 i)) (cn_0 rfl) dX3_beginRound_7 ?_
  refine pf S hK hP hD hS (22 + (nh + i)) (cl_i (by omega)) fX3_31 fpX3 rfl (v := .int (c 31 i)) rfl rfl (Nat.le_of_ble_eq_true rfl) (cs_i_5 (by omega)) dX3_beginRound_10 (fun H locs hP hD hS => ?_)
  refine lv_aload_n hx hb dX3_beginRound_13 rfl (lv_at hl 0 rfl) ?_
  refine lv_iconst (v := 0) hx hb dX3_beginRound_14 (by decide) ?_
  refine pf S hK hP hD hS (22 + (nh + i)) (cl_i (by omega)) fX3_19 fpX3 rfl (v := .int 0) rfl rfl (Nat.le_of_ble_eq_true rfl) (cs_i_6 (by omega)) dX3_beginRound_15 (fun H locs hP hD hS => ?_)
  exact eMv S hr hlk hP hD hS dX3_beginRound_18 rfl

set_option maxHeartbeats 4000000 in
set_option maxRecDepth 100000 in
theorem cc_speaks (l : Launch) (dg : va_G) (cA : Nat → ClassId) (ad : Nat → Nat) (nh ni : Nat) (c : St) (i : Nat) (hi : i < ni) (v : Int32) : MetR l dg cA yX3_speaks cX3_speaks 2 (some .boolean) ({ frames := 0, cells := 0, slots := 0, locals := 0 } : Room) (cw cA ad nh ni c) [.ref (ad (60 + i)), .int v] (some (.int (b2 (decide ((c 32 i >>> (v &&& 31)) &&& 1 = 1))))) := by
  refine ofR (by decide) (Nat.le_of_ble_eq_true rfl) (own := RX3) rfl (fun p e s0 m args below meth ccd ls S hr hlk hargs hK hP hl => ?_)
  have hx := S.1
  have hb := S.2.1
  have hl : lv_has ls 2 [(0, .ref (ad (60 + i))), (1, .int v)] := hl
  refine lv_aload_n hx hb dX3_speaks_0 rfl (lv_at hl 0 rfl) ?_
  refine gf S hK hP (22 + (nh + i)) (cl_i (by omega)) fX3_25 (v := .int (c 32 i)) (cn_1 rfl) dX3_speaks_1 ?_
  refine lv_iload_n hx hb dX3_speaks_4 rfl (lv_at hl 1 rfl) ?_
  refine lv_ishr hx hb dX3_speaks_5 ?_
  refine lv_iconst (v := 1) hx hb dX3_speaks_6 (by decide) ?_
  refine lv_iand hx hb dX3_speaks_7 ?_
  refine lv_iconst (v := 1) hx hb dX3_speaks_8 (by decide) ?_
  refine lv_icmp_ne (tgt := 16) hx hb dX3_speaks_9 (by decide) (fun b9 => ?_) (fun b9 => ?_)
  · skip
    refine lv_iconst (v := 0) hx hb dX3_speaks_16 (by decide) ?_
    exact eRz S hr hlk dX3_speaks_17 (by simp [b2, b9]) (b2_nr _)
  · skip
    refine lv_iconst (v := 1) hx hb dX3_speaks_12 (by decide) ?_
    refine lv_goto (tgt := 17) hx hb dX3_speaks_13 (by decide) ?_
    exact eRz S hr hlk dX3_speaks_17 (by simp [b2, b9]) (b2_nr _)

set_option maxHeartbeats 4000000 in
set_option maxRecDepth 100000 in
theorem cc_wayTo (l : Launch) (dg : va_G) (cA : Nat → ClassId) (ad : Nat → Nat) (nh ni : Nat) (c : St) (i : Nat) (hi : i < ni) (v : Int32) : MetR l dg cA yX3_wayTo cX3_wayTo 2 (some .int) ({ frames := 1, cells := 0, slots := 0, locals := 13 } : Room) (cw cA ad nh ni c) [.ref (ad (60 + i)), .int v] (some (.int (c_abs (v - c 35 i)))) := by
  refine ofR (by decide) (Nat.le_of_ble_eq_true rfl) (own := RX3) rfl (fun p e s0 m args below meth ccd ls S hr hlk hargs hK hP hl => ?_)
  have hx := S.1
  have hb := S.2.1
  have hl : lv_has ls 2 [(0, .ref (ad (60 + i))), (1, .int v)] := hl
  refine lv_iload_n hx hb dX3_wayTo_0 rfl (lv_at hl 1 rfl) ?_
  refine lv_aload_n hx hb dX3_wayTo_1 rfl (lv_at hl 0 rfl) ?_
  refine gf S hK hP (22 + (nh + i)) (cl_i (by omega)) fX3_31 (v := .int (c 35 i)) (cn_5 rfl) dX3_wayTo_2 ?_
  refine lv_isub hx hb dX3_wayTo_5 ?_
  refine va_mabs hx hb (S.2.2.1.trans hl.1.symm) S.2.2.2.1 (S.2.2.2.2 _ (gW_mem 587 (by decide +kernel) (by decide +kernel))) (S.2.2.2.2 _ (gW_mem 588 (by decide +kernel) (by decide +kernel))) (S.2.2.2.2 _ (gW_mem 58 (by decide +kernel) (by decide +kernel))) (S.2.2.2.2 _ (gW_mem 589 (by decide +kernel) (by decide +kernel))) (Nat.le_of_ble_eq_true rfl) (Nat.le_of_ble_eq_true rfl) (Nat.le_of_ble_eq_true rfl) (Nat.le_of_ble_eq_true rfl) dX3_wayTo_6 ?_
  refine lv_as (y := c_abs (v - c 35 i)) rfl ?_
  exact eRi S hr hlk dX3_wayTo_9 rfl

set_option maxHeartbeats 4000000 in
set_option maxRecDepth 100000 in
theorem cc_hasTime (l : Launch) (dg : va_G) (cA : Nat → ClassId) (ad : Nat → Nat) (nh ni : Nat) (c : St) (i : Nat) (hi : i < ni) (v : Int32) : MetR l dg cA yX3_hasTimeFor cX3_hasTimeFor 2 (some .boolean) ({ frames := 1, cells := 0, slots := 0, locals := 14 } : Room) (cw cA ad nh ni c) [.ref (ad (60 + i)), .int v] (some (.int (b2 (decide (¬ c 33 i < c 36 i + c_abs (v - c 35 i) + 30 + c_abs (v - c 31 i)))))) := by
  refine ofR (by decide) (Nat.le_of_ble_eq_true rfl) (own := RX3) rfl (fun p e s0 m args below meth ccd ls S hr hlk hargs hK hP hl => ?_)
  have hx := S.1
  have hb := S.2.1
  have hl : lv_has ls 2 [(0, .ref (ad (60 + i))), (1, .int v)] := hl
  refine lv_aload_n hx hb dX3_hasTimeFor_0 rfl (lv_at hl 0 rfl) ?_
  refine gf S hK hP (22 + (nh + i)) (cl_i (by omega)) fX3_19 (v := .int (c 36 i)) (cn_6 rfl) dX3_hasTimeFor_1 ?_
  refine lv_iload_n hx hb dX3_hasTimeFor_4 rfl (lv_at hl 1 rfl) ?_
  refine lv_aload_n hx hb dX3_hasTimeFor_5 rfl (lv_at hl 0 rfl) ?_
  refine gf S hK hP (22 + (nh + i)) (cl_i (by omega)) fX3_31 (v := .int (c 35 i)) (cn_5 rfl) dX3_hasTimeFor_6 ?_
  refine lv_isub hx hb dX3_hasTimeFor_9 ?_
  refine va_mabs hx hb (S.2.2.1.trans hl.1.symm) S.2.2.2.1 (S.2.2.2.2 _ (gW_mem 587 (by decide +kernel) (by decide +kernel))) (S.2.2.2.2 _ (gW_mem 588 (by decide +kernel) (by decide +kernel))) (S.2.2.2.2 _ (gW_mem 58 (by decide +kernel) (by decide +kernel))) (S.2.2.2.2 _ (gW_mem 589 (by decide +kernel) (by decide +kernel))) (Nat.le_of_ble_eq_true rfl) (Nat.le_of_ble_eq_true rfl) (Nat.le_of_ble_eq_true rfl) (Nat.le_of_ble_eq_true rfl) dX3_hasTimeFor_10 ?_
  refine lv_as (y := c_abs (v - c 35 i)) rfl ?_
  refine lv_iadd hx hb dX3_hasTimeFor_13 ?_
  refine lv_bipush (v := 30) hx hb dX3_hasTimeFor_14 (by decide) ?_
  refine lv_iadd hx hb dX3_hasTimeFor_16 ?_
  refine lv_iload_n hx hb dX3_hasTimeFor_17 rfl (lv_at hl 1 rfl) ?_
  refine lv_aload_n hx hb dX3_hasTimeFor_18 rfl (lv_at hl 0 rfl) ?_
  refine gf S hK hP (22 + (nh + i)) (cl_i (by omega)) fX3_22 (v := .int (c 31 i)) (cn_0 rfl) dX3_hasTimeFor_19 ?_
  refine lv_isub hx hb dX3_hasTimeFor_22 ?_
  refine va_mabs hx hb (S.2.2.1.trans hl.1.symm) S.2.2.2.1 (S.2.2.2.2 _ (gW_mem 587 (by decide +kernel) (by decide +kernel))) (S.2.2.2.2 _ (gW_mem 588 (by decide +kernel) (by decide +kernel))) (S.2.2.2.2 _ (gW_mem 58 (by decide +kernel) (by decide +kernel))) (S.2.2.2.2 _ (gW_mem 589 (by decide +kernel) (by decide +kernel))) (Nat.le_of_ble_eq_true rfl) (Nat.le_of_ble_eq_true rfl) (Nat.le_of_ble_eq_true rfl) (Nat.le_of_ble_eq_true rfl) dX3_hasTimeFor_23 ?_
  refine lv_as (y := c_abs (v - c 31 i)) rfl ?_
  refine lv_iadd hx hb dX3_hasTimeFor_26 ?_
  refine lv_aload_n hx hb dX3_hasTimeFor_27 rfl (lv_at hl 0 rfl) ?_
  refine gf S hK hP (22 + (nh + i)) (cl_i (by omega)) fX3_28 (v := .int (c 33 i)) (cn_2 rfl) dX3_hasTimeFor_28 ?_
  refine lv_icmp_gt (tgt := 38) hx hb dX3_hasTimeFor_31 (by decide) (fun b31 => ?_) (fun b31 => ?_)
  · skip
    refine lv_iconst (v := 0) hx hb dX3_hasTimeFor_38 (by decide) ?_
    exact eRz S hr hlk dX3_hasTimeFor_39 (by simp [b2, -Int32.not_lt, b31]) (b2_nr _)
  · skip
    refine lv_iconst (v := 1) hx hb dX3_hasTimeFor_34 (by decide) ?_
    refine lv_goto (tgt := 39) hx hb dX3_hasTimeFor_35 (by decide) ?_
    exact eRz S hr hlk dX3_hasTimeFor_39 (by simp [b2, -Int32.not_lt, b31]) (b2_nr _)

set_option maxHeartbeats 4000000 in
set_option maxRecDepth 100000 in
theorem cc_minutes (l : Launch) (dg : va_G) (cA : Nat → ClassId) (ad : Nat → Nat) (nh ni : Nat) (c : St) (i : Nat) (hi : i < ni) : MetR l dg cA yX3_minutesInAll cX3_minutesInAll 1 (some .int) ({ frames := 1, cells := 0, slots := 0, locals := 14 } : Room) (cw cA ad nh ni c) [.ref (ad (60 + i))] (some (.int (c 36 i + c_abs (c 35 i - c 31 i)))) := by
  refine ofR (by decide) (Nat.le_of_ble_eq_true rfl) (own := RX3) rfl (fun p e s0 m args below meth ccd ls S hr hlk hargs hK hP hl => ?_)
  have hx := S.1
  have hb := S.2.1
  have hl : lv_has ls 1 [(0, .ref (ad (60 + i)))] := hl
  refine lv_aload_n hx hb dX3_minutesInAll_0 rfl (lv_at hl 0 rfl) ?_
  refine gf S hK hP (22 + (nh + i)) (cl_i (by omega)) fX3_19 (v := .int (c 36 i)) (cn_6 rfl) dX3_minutesInAll_1 ?_
  refine lv_aload_n hx hb dX3_minutesInAll_4 rfl (lv_at hl 0 rfl) ?_
  refine gf S hK hP (22 + (nh + i)) (cl_i (by omega)) fX3_31 (v := .int (c 35 i)) (cn_5 rfl) dX3_minutesInAll_5 ?_
  refine lv_aload_n hx hb dX3_minutesInAll_8 rfl (lv_at hl 0 rfl) ?_
  refine gf S hK hP (22 + (nh + i)) (cl_i (by omega)) fX3_22 (v := .int (c 31 i)) (cn_0 rfl) dX3_minutesInAll_9 ?_
  refine lv_isub hx hb dX3_minutesInAll_12 ?_
  refine va_mabs hx hb (S.2.2.1.trans hl.1.symm) S.2.2.2.1 (S.2.2.2.2 _ (gW_mem 587 (by decide +kernel) (by decide +kernel))) (S.2.2.2.2 _ (gW_mem 588 (by decide +kernel) (by decide +kernel))) (S.2.2.2.2 _ (gW_mem 58 (by decide +kernel) (by decide +kernel))) (S.2.2.2.2 _ (gW_mem 589 (by decide +kernel) (by decide +kernel))) (Nat.le_of_ble_eq_true rfl) (Nat.le_of_ble_eq_true rfl) (Nat.le_of_ble_eq_true rfl) (Nat.le_of_ble_eq_true rfl) dX3_minutesInAll_13 ?_
  refine lv_as (y := c_abs (c 35 i - c 31 i)) rfl ?_
  refine lv_iadd hx hb dX3_minutesInAll_16 ?_
  exact eRi S hr hlk dX3_minutesInAll_17 rfl

set_option maxHeartbeats 4000000 in
set_option maxRecDepth 100000 in
theorem cc_addToRound (l : Launch) (dg : va_G) (cA : Nat → ClassId) (ad : Nat → Nat) (nh ni : Nat) (c : St) (i : Nat) (hi : i < ni) (h4 : ni ≤ 4) (k : Nat) (hk : c 34 i = nI k) (hk24 : k < 24) (h pl : Int32) (sz : Nat) : MetM l dg cA yX3_addToRound cX3_addToRound 3 none ({ frames := 2, cells := 0, slots := 0, locals := 34 } : Room) 0 0 (cw cA ad nh ni c) sz [.ref (ad (60 + i)), .int h, .int pl] (cw cA ad nh ni (up (up (up (up c 40 (4 * k + i) h) 34 i (nI (k + 1))) 36 i (c 36 i + (c_abs (pl - c 35 i) + 30))) 35 i pl)) none := by
  refine ofM (by decide) (Nat.le_of_ble_eq_true rfl) (own := RX3) rfl (fun p e s0 m args below meth ccd ls A hAe S hr hlk hname hargs hK hP hD hS hA hsz hl => ?_)
  have hx := S.1
  have hb := S.2.1
  have hl : lv_has ls 3 [(0, .ref (ad (60 + i))), (1, .int h), (2, .int pl)] := hl
  refine lv_aload_n hx hb dX3_addToRound_0 rfl (lv_at hl 0 rfl) ?_
  refine gf S hK hP (22 + (nh + i)) (cl_i (by omega)) fX3_15 (v := .int (nI k)) (cn_4 hk) dX3_addToRound_1 ?_
  refine lv_aload_n hx hb dX3_addToRound_4 rfl (lv_at hl 0 rfl) ?_
  refine gf S hK hP (22 + (nh + i)) (cl_i (by omega)) fX3_9 (v := .ref (ad (70 + i))) cn_3 dX3_addToRound_5 ?_
  refine va_alen (v := 24) hx hb hK hP (22 + (nh + (ni + i))) 0 (cl_r (by omega)) rfl rfl dX3_addToRound_8 ?_
  refine lv_icmp_lt (tgt := 13) hx hb dX3_addToRound_9 (by decide) (fun b9 => ?_) (fun b9 => ?_)
  · skip
    have g9 : k < 24 := (nI_ltI (a := k) (b := 24) (by omega) (by omega)).mp b9
    refine lv_aload_n hx hb dX3_addToRound_13 rfl (lv_at hl 0 rfl) ?_
    refine gf S hK hP (22 + (nh + i)) (cl_i (by omega)) fX3_9 (v := .ref (ad (70 + i))) cn_3 dX3_addToRound_14 ?_
    refine lv_aload_n hx hb dX3_addToRound_17 rfl (lv_at hl 0 rfl) ?_
    refine gf S hK hP (22 + (nh + i)) (cl_i (by omega)) fX3_15 (v := .int (nI k)) (cn_4 hk) dX3_addToRound_18 ?_
    refine lv_iload_n hx hb dX3_addToRound_21 rfl (lv_at hl 1 rfl) ?_
    refine ist S hK hP hD hS (22 + (nh + (ni + i))) (cl_r (by omega)) (j := k) (x := h) (by omega) (Nat.le_of_ble_eq_true rfl) (cs_r (by omega) (by omega)) dX3_addToRound_22 (fun H locs hP hD hS => ?_)
    refine lv_aload_n hx hb dX3_addToRound_23 rfl (lv_at hl 0 rfl) ?_
    refine lv_dup hx hb dX3_addToRound_24 rfl ?_
    refine gf S hK hP (22 + (nh + i)) (cl_i (by omega)) fX3_15 (v := .int (nI k)) (cn_4 hk) dX3_addToRound_25 ?_
    refine lv_iconst (v := 1) hx hb dX3_addToRound_28 (by decide) ?_
    refine lv_iadd hx hb dX3_addToRound_29 ?_
    refine lv_as (y := nI (k + 1)) (nI_1 k) ?_
    refine pf S hK hP hD hS (22 + (nh + i)) (cl_i (by omega)) fX3_15 fpX3 rfl (v := .int (nI (k + 1))) rfl rfl (Nat.le_of_ble_eq_true rfl) (cs_i_4 (by omega)) dX3_addToRound_30 (fun H locs hP hD hS => ?_)
    refine lv_aload_n hx hb dX3_addToRound_33 rfl (lv_at hl 0 rfl) ?_
    refine lv_dup hx hb dX3_addToRound_34 rfl ?_
    refine gf S hK hP (22 + (nh + i)) (cl_i (by omega)) fX3_19 (v := .int (c 36 i)) (cn_6 rfl) dX3_addToRound_35 ?_
    refine lv_aload_n hx hb dX3_addToRound_38 rfl (lv_at hl 0 rfl) ?_
    refine lv_iload_n hx hb dX3_addToRound_39 rfl (lv_at hl 2 rfl) ?_
    refine cR S (cc_wayTo l dg cA ad nh ni (up (up c 40 (4 * k + i) h) 34 i (nI (k + 1))) i (by omega) pl) kX3_40 ⟨rfl, rfl, Nat.le_of_ble_eq_true rfl, Nat.le_of_ble_eq_true rfl⟩ hK hP (22 + (nh + i)) (cl_i (by omega)) (q := (RX3, TX3, 7)) rfl rfl (As := [.int pl]) rfl hl.1 (rest := [.int (c 36 i), .ref (ad (60 + i))]) rfl (Nat.le_of_ble_eq_true rfl) dX3_addToRound_40 ⟨Nat.le_of_ble_eq_true rfl, Nat.le_of_ble_eq_true rfl⟩ (st1 := [.int (c_abs (pl - c 35 i)), .int (c 36 i), .ref (ad (60 + i))]) rfl ?_
    refine lv_bipush (v := 30) hx hb dX3_addToRound_43 (by decide) ?_
    refine lv_iadd hx hb dX3_addToRound_45 ?_
    refine lv_iadd hx hb dX3_addToRound_46 ?_
    refine pf S hK hP hD hS (22 + (nh + i)) (cl_i (by omega)) fX3_19 fpX3 rfl (v := .int ((c 36 i) + ((c_abs (pl - c 35 i)) + 30))) rfl rfl (Nat.le_of_ble_eq_true rfl) (cs_i_6 (by omega)) dX3_addToRound_47 (fun H locs hP hD hS => ?_)
    refine lv_aload_n hx hb dX3_addToRound_50 rfl (lv_at hl 0 rfl) ?_
    refine lv_iload_n hx hb dX3_addToRound_51 rfl (lv_at hl 2 rfl) ?_
    refine pf S hK hP hD hS (22 + (nh + i)) (cl_i (by omega)) fX3_31 fpX3 rfl (v := .int pl) rfl rfl (Nat.le_of_ble_eq_true rfl) (cs_i_5 (by omega)) dX3_addToRound_52 (fun H locs hP hD hS => ?_)
    exact eMv S hr hlk hP hD hS dX3_addToRound_55 rfl
  · skip
    have g9 : ¬ k < 24 := fun zz => b9 ((nI_ltI (a := k) (b := 24) (by omega) (by omega)).mpr zz)
    exact absurd hk24 g9

set_option maxHeartbeats 4000000 in
set_option maxRecDepth 100000 in
theorem cc_raise (l : Launch) (dg : va_G) (cA : Nat → ClassId) (ad : Nat → Nat) (nh ni : Nat) (c : St) (h : Nat) (hh : h < nh) (hn : c 0 4 = nI nh) (hn24 : nh ≤ 24) (s g : Nat) (hs4 : s < 4) (hg3 : g < 3) (hs : c 1 h = nI s) (hg : c 2 h = nI g) (sz : Nat) : MetM l dg cA yX0_raiseTargets cX0_raiseTargets 2 none ({ frames := 0, cells := 0, slots := 0, locals := 0 } : Room) 0 0 (cw cA ad nh ni c) sz [.ref (ad 1), .int (nI h)] (cw cA ad nh ni (up (up c 3 s (c 3 s + 1000)) 4 g (c 4 g + 1000))) none := by
  refine ofM (by decide) (Nat.le_of_ble_eq_true rfl) (own := RX0) rfl (fun p e s0 m args below meth ccd ls A hAe S hr hlk hname hargs hK hP hD hS hA hsz hl => ?_)
  have hx := S.1
  have hb := S.2.1
  have hl : lv_has ls 2 [(0, .ref (ad 1)), (1, .int (nI h))] := hl
  refine lv_iload_n hx hb dX0_raiseTargets_0 rfl (lv_at hl 1 rfl) ?_
  refine lv_if_lt (tgt := 12) hx hb dX0_raiseTargets_1 (by decide) (fun b1 => ?_) (fun b1 => ?_)
  · skip
    have g1 : h < 0 := (nI_ltI (a := h) (b := 0) (by omega) (by omega)).mp b1
    exact absurd g1 (by omega)
  · skip
    have g1 : ¬ h < 0 := fun zz => b1 ((nI_ltI (a := h) (b := 0) (by omega) (by omega)).mpr zz)
    refine lv_iload_n hx hb dX0_raiseTargets_4 rfl (lv_at hl 1 rfl) ?_
    refine lv_aload_n hx hb dX0_raiseTargets_5 rfl (lv_at hl 0 rfl) ?_
    refine gf S hK hP 1 cl_1 fX0_28 (v := .int (nI nh)) (cfr_5 hn) dX0_raiseTargets_6 ?_
    refine lv_icmp_lt (tgt := 13) hx hb dX0_raiseTargets_9 (by decide) (fun b9 => ?_) (fun b9 => ?_)
    · skip
      have g9 : h < nh := (nI_ltI (a := h) (b := nh) (by omega) (by omega)).mp b9
      refine lv_aload_n hx hb dX0_raiseTargets_13 rfl (lv_at hl 0 rfl) ?_
      refine gf S hK hP 1 cl_1 fX0_18 (v := .ref (ad 4)) cfr_2 dX0_raiseTargets_14 ?_
      refine lv_aload_n hx hb dX0_raiseTargets_17 rfl (lv_at hl 0 rfl) ?_
      refine gf S hK hP 1 cl_1 fX0_9 (v := .ref (ad 2)) cfr_0 dX0_raiseTargets_18 ?_
      refine lv_iload_n hx hb dX0_raiseTargets_21 rfl (lv_at hl 1 rfl) ?_
      refine ild S hK hP 2 cl_2 (j := h) (by omega) (Nat.le_of_ble_eq_true rfl) dX0_raiseTargets_22 ?_
      refine lv_as (y := nI s) hs ?_
      refine lv_dup2_11 hx hb dX0_raiseTargets_23 rfl rfl ?_
      refine ild S hK hP 4 cl_4 (j := s) (by omega) (Nat.le_of_ble_eq_true rfl) dX0_raiseTargets_24 ?_
      refine lv_as (y := c 3 s) rfl ?_
      refine lv_sipush (v := 1000) hx hb dX0_raiseTargets_25 (by decide) ?_
      refine lv_iadd hx hb dX0_raiseTargets_28 ?_
      refine ist S hK hP hD hS 4 cl_4 (j := s) (x := (c 3 s) + 1000) (by omega) (Nat.le_of_ble_eq_true rfl) cs_4 dX0_raiseTargets_29 (fun H locs hP hD hS => ?_)
      refine lv_aload_n hx hb dX0_raiseTargets_30 rfl (lv_at hl 0 rfl) ?_
      refine gf S hK hP 1 cl_1 fX0_21 (v := .ref (ad 5)) cfr_3 dX0_raiseTargets_31 ?_
      refine lv_aload_n hx hb dX0_raiseTargets_34 rfl (lv_at hl 0 rfl) ?_
      refine gf S hK hP 1 cl_1 fX0_15 (v := .ref (ad 3)) cfr_1 dX0_raiseTargets_35 ?_
      refine lv_iload_n hx hb dX0_raiseTargets_38 rfl (lv_at hl 1 rfl) ?_
      refine ild S hK hP 3 cl_3 (j := h) (by omega) (Nat.le_of_ble_eq_true rfl) dX0_raiseTargets_39 ?_
      refine lv_as (y := nI g) hg ?_
      refine lv_dup2_11 hx hb dX0_raiseTargets_40 rfl rfl ?_
      refine ild S hK hP 5 cl_5 (j := g) (by omega) (Nat.le_of_ble_eq_true rfl) dX0_raiseTargets_41 ?_
      refine lv_as (y := c 4 g) rfl ?_
      refine lv_sipush (v := 1000) hx hb dX0_raiseTargets_42 (by decide) ?_
      refine lv_iadd hx hb dX0_raiseTargets_45 ?_
      refine ist S hK hP hD hS 5 cl_5 (j := g) (x := (c 4 g) + 1000) (by omega) (Nat.le_of_ble_eq_true rfl) cs_5 dX0_raiseTargets_46 (fun H locs hP hD hS => ?_)
      exact eMv S hr hlk hP hD hS dX0_raiseTargets_47 rfl
    · skip
      have g9 : ¬ h < nh := fun zz => b9 ((nI_ltI (a := h) (b := nh) (by omega) (by omega)).mpr zz)
      exact absurd hh g9

set_option maxHeartbeats 4000000 in
set_option maxRecDepth 100000 in
theorem cc_append (l : Launch) (dg : va_G) (cA : Nat → ClassId) (ad : Nat → Nat) (nh ni : Nat) (c : St) (kd : Int32) (h v a : Int32) (k : Nat) (hk : c 0 5 = nI k) (hk5 : k < 512) (sz : Nat) : MetM l dg cA yX1_append cX1_append 5 none ({ frames := 0, cells := 0, slots := 0, locals := 0 } : Room) 0 0 (cw cA ad nh ni c) sz [.ref (ad 20), .int kd, .int h, .int v, .int a] (cw cA ad nh ni (up (up c 15 k (c_ev kd h v a)) 0 5 (nI (k + 1)))) none := by
  refine ofM (by decide) (Nat.le_of_ble_eq_true rfl) (own := RX1) rfl (fun p e s0 m args below meth ccd ls A hAe S hr hlk hname hargs hK hP hD hS hA hsz hl => ?_)
  have hx := S.1
  have hb := S.2.1
  have hl : lv_has ls 5 [(0, .ref (ad 20)), (1, .int kd), (2, .int h), (3, .int v), (4, .int a)] := hl
  refine lv_aload_n hx hb dX1_append_0 rfl (lv_at hl 0 rfl) ?_
  refine gf S hK hP 20 cl_20 fX1_15 (v := .int (nI k)) (chi_1 hk) dX1_append_1 ?_
  refine lv_aload_n hx hb dX1_append_4 rfl (lv_at hl 0 rfl) ?_
  refine gf S hK hP 20 cl_20 fX1_9 (v := .ref (ad 21)) chi_0 dX1_append_5 ?_
  refine va_alen (v := 512) hx hb hK hP 21 0 cl_21 rfl rfl dX1_append_8 ?_
  refine lv_icmp_lt (tgt := 13) hx hb dX1_append_9 (by decide) (fun b9 => ?_) (fun b9 => ?_)
  · skip
    have g9 : k < 512 := (nI_ltI (a := k) (b := 512) (by omega) (by omega)).mp b9
    refine lv_aload_n hx hb dX1_append_13 rfl (lv_at hl 0 rfl) ?_
    refine gf S hK hP 20 cl_20 fX1_9 (v := .ref (ad 21)) chi_0 dX1_append_14 ?_
    refine lv_aload_n hx hb dX1_append_17 rfl (lv_at hl 0 rfl) ?_
    refine gf S hK hP 20 cl_20 fX1_15 (v := .int (nI k)) (chi_1 hk) dX1_append_18 ?_
    refine lv_iload_n hx hb dX1_append_21 rfl (lv_at hl 1 rfl) ?_
    refine lv_bipush (v := 16) hx hb dX1_append_22 (by decide) ?_
    refine lv_ishl hx hb dX1_append_24 ?_
    refine lv_iload_n hx hb dX1_append_25 rfl (lv_at hl 3 rfl) ?_
    refine lv_bipush (v := 12) hx hb dX1_append_26 (by decide) ?_
    refine lv_ishl hx hb dX1_append_28 ?_
    refine lv_ior hx hb dX1_append_29 ?_
    refine lv_iload_n hx hb dX1_append_30 rfl (lv_at hl 2 rfl) ?_
    refine lv_iconst (v := 4) hx hb dX1_append_31 (by decide) ?_
    refine lv_ishl hx hb dX1_append_32 ?_
    refine lv_ior hx hb dX1_append_33 ?_
    refine lv_iload hx hb dX1_append_34 (lv_at hl 4 rfl) ?_
    refine lv_ior hx hb dX1_append_36 ?_
    refine lv_as (y := c_ev kd h v a) rfl ?_
    refine ist S hK hP hD hS 21 cl_21 (j := k) (x := c_ev kd h v a) (by omega) (Nat.le_of_ble_eq_true rfl) cs_21 dX1_append_37 (fun H locs hP hD hS => ?_)
    refine lv_aload_n hx hb dX1_append_38 rfl (lv_at hl 0 rfl) ?_
    refine lv_dup hx hb dX1_append_39 rfl ?_
    refine gf S hK hP 20 cl_20 fX1_15 (v := .int (nI k)) (chi_1 hk) dX1_append_40 ?_
    refine lv_iconst (v := 1) hx hb dX1_append_43 (by decide) ?_
    refine lv_iadd hx hb dX1_append_44 ?_
    refine lv_as (y := nI (k + 1)) (nI_1 k) ?_
    refine pf S hK hP hD hS 20 cl_20 fX1_15 fpX1 rfl (v := .int (nI (k + 1))) rfl rfl (Nat.le_of_ble_eq_true rfl) cs_chi_1 dX1_append_45 (fun H locs hP hD hS => ?_)
    exact eMv S hr hlk hP hD hS dX1_append_48 rfl
  · skip
    have g9 : ¬ k < 512 := fun zz => b9 ((nI_ltI (a := k) (b := 512) (by omega) (by omega)).mpr zz)
    exact absurd hk5 g9
