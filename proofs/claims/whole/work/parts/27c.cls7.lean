set_option maxHeartbeats 4000000 in
set_option maxRecDepth 100000 in
theorem cc_check_s (l : Launch) (dg : va_G) (cA : Nat → ClassId) (ad : Nat → Nat) (nh ni : Nat) (c : St) (hn : c 0 4 = nI nh) (hn24 : nh ≤ 24) (h : Nat) (hh : h < nh) (a : Nat) (ha : a < 10) (k : Nat) (h5 : c 0 5 = nI k) (hk5 : k < 512) (hs : c 21 h = 97) (hk : c 30 h = 0) (h50 : ¬ c 5 h = 0) (hd : c 6 h = nI a) (sz : Nat) : MetM l dg cA yX5_check cX5_check 5 (some .boolean) ({ frames := 1, cells := 0, slots := 0, locals := 24 } : Room) 0 0 (cw cA ad nh ni c) sz [.ref (ad 0), .int (nI h), .int (nI a)] (cw cA ad nh ni (c_c0 c k h a)) (some (.int 1)) := by
  refine ofM (by decide) (Nat.le_of_ble_eq_true rfl) (own := RX5) rfl (fun p e s0 m args below meth ccd ls A hAe S hr hlk hname hargs hK hP hD hS hA hsz hl => ?_)
  have hx := S.1
  have hb := S.2.1
  have hl : lv_has ls 5 [(0, .ref (ad 0)), (1, .int (nI h)), (2, .int (nI a))] := hl
  refine lv_aload_n hx hb dX5_check_0 rfl (lv_at hl 0 rfl) ?_
  refine lv_iload_n hx hb dX5_check_1 rfl (lv_at hl 1 rfl) ?_
  refine cR S (cc_hN l dg cA ad nh ni c hn hn24 h hh) kX5_140 ⟨rfl, rfl, Nat.le_of_ble_eq_true rfl, Nat.le_of_ble_eq_true rfl⟩ hK hP 0 cl_0 (q := (RX5, TX5, 9)) rfl rfl (As := [.int (nI h)]) rfl hl.1 (rest := []) rfl (Nat.le_of_ble_eq_true rfl) dX5_check_2 ⟨Nat.le_of_ble_eq_true rfl, Nat.le_of_ble_eq_true rfl⟩ (st1 := [.ref (ad (30 + h))]) rfl ?_
  refine lv_astore_n (lv' := [(3, .ref (ad (30 + h))), (0, .ref (ad 0)), (1, .int (nI h)), (2, .int (nI a))]) hx hb dX5_check_5 rfl hl (by decide) rfl (fun ls hl => ?_)
  refine lv_aload_n hx hb dX5_check_6 rfl (lv_at hl 1 rfl) ?_
  refine lv_iload_n hx hb dX5_check_7 rfl (lv_at hl 3 rfl) ?_
  refine cR S (cc_rA l dg cA ad nh ni c (nI a) (a10 ha).1 (a10 ha).2) kX5_148 ⟨rfl, rfl, Nat.le_of_ble_eq_true rfl, Nat.le_of_ble_eq_true rfl⟩ hK hP 0 cl_0 (q := (RX5, TX5, 9)) rfl rfl (As := [.int (nI a)]) rfl hl.1 (rest := []) rfl (Nat.le_of_ble_eq_true rfl) dX5_check_8 ⟨Nat.le_of_ble_eq_true rfl, Nat.le_of_ble_eq_true rfl⟩ (st1 := []) rfl ?_
  refine lv_aload_n hx hb dX5_check_11 rfl (lv_at hl 0 rfl) ?_
  refine gf S hK hP (22 + h) (cl_h (by omega)) fX5_182 (v := .int 97) (ch_1 hs) dX5_check_12 ?_
  refine lv_bipush (v := 97) hx hb dX5_check_15 (by decide) ?_
  refine lv_icmp_ne (tgt := 27) hx hb dX5_check_17 (by decide) (fun b17 => ?_) (fun b17 => ?_)
  · skip
    exact False.elim (by revert b17; decide)
  · skip
    refine lv_aload_n hx hb dX5_check_20 rfl (lv_at hl 0 rfl) ?_
    refine gf S hK hP (22 + h) (cl_h (by omega)) fX5_186 (v := .int 0) (ch_10 hk) dX5_check_21 ?_
    refine lv_if_eq (tgt := 37) hx hb dX5_check_24 (by decide) (fun b24 => ?_) (fun b24 => ?_)
    · skip
      refine lv_aload_n hx hb dX5_check_37 rfl (lv_at hl 1 rfl) ?_
      refine gf S hK hP 0 cl_0 fX5_41 (v := .ref (ad 20)) cfb_5 dX5_check_38 ?_
      refine lv_bipush (v := 99) hx hb dX5_check_41 (by decide) ?_
      refine lv_iload_n hx hb dX5_check_43 rfl (lv_at hl 2 rfl) ?_
      refine lv_iconst (v := 0) hx hb dX5_check_44 (by decide) ?_
      refine lv_iload_n hx hb dX5_check_45 rfl (lv_at hl 3 rfl) ?_
      refine cM S (cc_append l dg cA ad nh ni c 99 (nI h) 0 (nI a) k h5 hk5 _) kX5_158 ⟨rfl, rfl, Nat.le_of_ble_eq_true rfl, Nat.le_of_ble_eq_true rfl⟩ hK hP hD hS hA 20 cl_20 (q := (RX1, TX1, 2)) rfl rfl (As := [.int 99, .int (nI h), .int 0, .int (nI a)]) rfl hl.1 (rest := []) rfl (Nat.le_of_ble_eq_true rfl) dX5_check_46 ⟨Nat.le_of_ble_eq_true rfl, Nat.le_of_ble_eq_true rfl⟩ (st1 := []) rfl (fun H locs hP hD hS => ?_)
      have hP : PP dg (cw cA ad nh ni (c_app c k (99, h, 0, a))) H := hP
      have hD : va_D A (cw cA ad nh ni (c_app c k (99, h, 0, a))) := hD
      refine lv_aload_n hx hb dX5_check_49 rfl (lv_at hl 0 rfl) ?_
      refine lv_iconst (v := 1) hx hb dX5_check_50 (by decide) ?_
      refine pf S hK hP hD hS (22 + h) (cl_h (by omega)) fX5_186 fpX2 rfl (v := .int 1) rfl rfl (Nat.le_of_ble_eq_true rfl) (cs_h_10 (by omega)) dX5_check_51 (fun H locs hP hD hS => ?_)
      refine lv_aload_n hx hb dX5_check_54 rfl (lv_at hl 1 rfl) ?_
      refine gf S hK hP 0 cl_0 fX5_31 (v := .ref (ad 8)) cfb_3 dX5_check_55 ?_
      refine gf S hK hP 8 cl_8 fX5_191 (v := .ref (ad 10)) ct0_1 dX5_check_58 ?_
      refine lv_iload_n hx hb dX5_check_61 rfl (lv_at hl 2 rfl) ?_
      refine ild S hK hP 10 cl_10 (j := h) (by omega) (Nat.le_of_ble_eq_true rfl) dX5_check_62 ?_
      refine lv_as (y := (c_app c k (99, h, 0, a)) 6 h) rfl ?_
      refine lv_iload_n hx hb dX5_check_63 rfl (lv_at hl 3 rfl) ?_
      refine lv_icmp_ne (tgt := 71) hx hb dX5_check_64 (by decide) (fun b64 => ?_) (fun b64 => ?_)
      · skip
        exact absurd hd b64
      · skip
        refine lv_iconst (v := 1) hx hb dX5_check_67 (by decide) ?_
        refine lv_goto (tgt := 72) hx hb dX5_check_68 (by decide) ?_
        refine lv_istore (lv' := [(4, .int 1), (3, .ref (ad (30 + h))), (0, .ref (ad 0)), (1, .int (nI h)), (2, .int (nI a))]) hx hb dX5_check_72 hl (by decide) rfl (fun ls hl => ?_)
        refine lv_aload_n hx hb dX5_check_74 rfl (lv_at hl 2 rfl) ?_
        refine gf S hK hP 0 cl_0 fX5_31 (v := .ref (ad 8)) cfb_3 dX5_check_75 ?_
        refine lv_iload_n hx hb dX5_check_78 rfl (lv_at hl 3 rfl) ?_
        refine lv_iload_n hx hb dX5_check_79 rfl (lv_at hl 4 rfl) ?_
        refine cM S (cc_askS_k l dg cA ad nh ni (c_c0 c k h a) h (by omega) (nI a) h50 hd _) kX5_194 ⟨rfl, rfl, Nat.le_of_ble_eq_true rfl, Nat.le_of_ble_eq_true rfl⟩ hK hP hD hS hA 8 cl_8 (q := (RX4, TX4, 5)) rfl rfl (As := [.int (nI h), .int (nI a)]) rfl hl.1 (rest := []) rfl (Nat.le_of_ble_eq_true rfl) dX5_check_80 ⟨Nat.le_of_ble_eq_true rfl, Nat.le_of_ble_eq_true rfl⟩ (st1 := [.int 0]) rfl (fun H locs hP hD hS => ?_)
        have hP : PP dg (cw cA ad nh ni (c_c0 c k h a)) H := hP
        have hD : va_D A (cw cA ad nh ni (c_c0 c k h a)) := hD
        refine lv_if_eq (tgt := 101) hx hb dX5_check_83 (by decide) (fun b83 => ?_) (fun b83 => ?_)
        · skip
          refine lv_iload hx hb dX5_check_101 (lv_at hl 0 rfl) ?_
          exact eMz S hr hlk hP hD hS dX5_check_103 rfl (by rfl) rfl
        · skip
          exact absurd b24 b83
    · skip
      exact False.elim (by revert b24; decide)

set_option maxHeartbeats 4000000 in
set_option maxRecDepth 100000 in
theorem cc_check_d (l : Launch) (dg : va_G) (cA : Nat → ClassId) (ad : Nat → Nat) (nh ni : Nat) (c : St) (hn : c 0 4 = nI nh) (hn24 : nh ≤ 24) (h : Nat) (hh : h < nh) (a : Nat) (ha : a < 10) (k : Nat) (h5 : c 0 5 = nI k) (hk5 : k < 512) (hs : c 21 h = 97) (hk : c 30 h = 0) (h50 : ¬ c 5 h = 0) (hd : ¬ c 6 h = nI a) (v : Nat) (hv : v < 4) (hxv : c 7 h = nI v) (h2 : c 9 v + 1 < 2) (sz : Nat) : MetM l dg cA yX5_check cX5_check 5 (some .boolean) ({ frames := 2, cells := 0, slots := 0, locals := 44 } : Room) 0 0 (cw cA ad nh ni c) sz [.ref (ad 0), .int (nI h), .int (nI a)] (cw cA ad nh ni (up (c_c0 c k h a) 9 v (c 9 v + 1))) (some (.int 0)) := by
  refine ofM (by decide) (Nat.le_of_ble_eq_true rfl) (own := RX5) rfl (fun p e s0 m args below meth ccd ls A hAe S hr hlk hname hargs hK hP hD hS hA hsz hl => ?_)
  have hx := S.1
  have hb := S.2.1
  have hl : lv_has ls 5 [(0, .ref (ad 0)), (1, .int (nI h)), (2, .int (nI a))] := hl
  refine lv_aload_n hx hb dX5_check_0 rfl (lv_at hl 0 rfl) ?_
  refine lv_iload_n hx hb dX5_check_1 rfl (lv_at hl 1 rfl) ?_
  refine cR S (cc_hN l dg cA ad nh ni c hn hn24 h hh) kX5_140 ⟨rfl, rfl, Nat.le_of_ble_eq_true rfl, Nat.le_of_ble_eq_true rfl⟩ hK hP 0 cl_0 (q := (RX5, TX5, 9)) rfl rfl (As := [.int (nI h)]) rfl hl.1 (rest := []) rfl (Nat.le_of_ble_eq_true rfl) dX5_check_2 ⟨Nat.le_of_ble_eq_true rfl, Nat.le_of_ble_eq_true rfl⟩ (st1 := [.ref (ad (30 + h))]) rfl ?_
  refine lv_astore_n (lv' := [(3, .ref (ad (30 + h))), (0, .ref (ad 0)), (1, .int (nI h)), (2, .int (nI a))]) hx hb dX5_check_5 rfl hl (by decide) rfl (fun ls hl => ?_)
  refine lv_aload_n hx hb dX5_check_6 rfl (lv_at hl 1 rfl) ?_
  refine lv_iload_n hx hb dX5_check_7 rfl (lv_at hl 3 rfl) ?_
  refine cR S (cc_rA l dg cA ad nh ni c (nI a) (a10 ha).1 (a10 ha).2) kX5_148 ⟨rfl, rfl, Nat.le_of_ble_eq_true rfl, Nat.le_of_ble_eq_true rfl⟩ hK hP 0 cl_0 (q := (RX5, TX5, 9)) rfl rfl (As := [.int (nI a)]) rfl hl.1 (rest := []) rfl (Nat.le_of_ble_eq_true rfl) dX5_check_8 ⟨Nat.le_of_ble_eq_true rfl, Nat.le_of_ble_eq_true rfl⟩ (st1 := []) rfl ?_
  refine lv_aload_n hx hb dX5_check_11 rfl (lv_at hl 0 rfl) ?_
  refine gf S hK hP (22 + h) (cl_h (by omega)) fX5_182 (v := .int 97) (ch_1 hs) dX5_check_12 ?_
  refine lv_bipush (v := 97) hx hb dX5_check_15 (by decide) ?_
  refine lv_icmp_ne (tgt := 27) hx hb dX5_check_17 (by decide) (fun b17 => ?_) (fun b17 => ?_)
  · skip
    exact False.elim (by revert b17; decide)
  · skip
    refine lv_aload_n hx hb dX5_check_20 rfl (lv_at hl 0 rfl) ?_
    refine gf S hK hP (22 + h) (cl_h (by omega)) fX5_186 (v := .int 0) (ch_10 hk) dX5_check_21 ?_
    refine lv_if_eq (tgt := 37) hx hb dX5_check_24 (by decide) (fun b24 => ?_) (fun b24 => ?_)
    · skip
      refine lv_aload_n hx hb dX5_check_37 rfl (lv_at hl 1 rfl) ?_
      refine gf S hK hP 0 cl_0 fX5_41 (v := .ref (ad 20)) cfb_5 dX5_check_38 ?_
      refine lv_bipush (v := 99) hx hb dX5_check_41 (by decide) ?_
      refine lv_iload_n hx hb dX5_check_43 rfl (lv_at hl 2 rfl) ?_
      refine lv_iconst (v := 0) hx hb dX5_check_44 (by decide) ?_
      refine lv_iload_n hx hb dX5_check_45 rfl (lv_at hl 3 rfl) ?_
      refine cM S (cc_append l dg cA ad nh ni c 99 (nI h) 0 (nI a) k h5 hk5 _) kX5_158 ⟨rfl, rfl, Nat.le_of_ble_eq_true rfl, Nat.le_of_ble_eq_true rfl⟩ hK hP hD hS hA 20 cl_20 (q := (RX1, TX1, 2)) rfl rfl (As := [.int 99, .int (nI h), .int 0, .int (nI a)]) rfl hl.1 (rest := []) rfl (Nat.le_of_ble_eq_true rfl) dX5_check_46 ⟨Nat.le_of_ble_eq_true rfl, Nat.le_of_ble_eq_true rfl⟩ (st1 := []) rfl (fun H locs hP hD hS => ?_)
      have hP : PP dg (cw cA ad nh ni (c_app c k (99, h, 0, a))) H := hP
      have hD : va_D A (cw cA ad nh ni (c_app c k (99, h, 0, a))) := hD
      refine lv_aload_n hx hb dX5_check_49 rfl (lv_at hl 0 rfl) ?_
      refine lv_iconst (v := 1) hx hb dX5_check_50 (by decide) ?_
      refine pf S hK hP hD hS (22 + h) (cl_h (by omega)) fX5_186 fpX2 rfl (v := .int 1) rfl rfl (Nat.le_of_ble_eq_true rfl) (cs_h_10 (by omega)) dX5_check_51 (fun H locs hP hD hS => ?_)
      refine lv_aload_n hx hb dX5_check_54 rfl (lv_at hl 1 rfl) ?_
      refine gf S hK hP 0 cl_0 fX5_31 (v := .ref (ad 8)) cfb_3 dX5_check_55 ?_
      refine gf S hK hP 8 cl_8 fX5_191 (v := .ref (ad 10)) ct0_1 dX5_check_58 ?_
      refine lv_iload_n hx hb dX5_check_61 rfl (lv_at hl 2 rfl) ?_
      refine ild S hK hP 10 cl_10 (j := h) (by omega) (Nat.le_of_ble_eq_true rfl) dX5_check_62 ?_
      refine lv_as (y := (c_app c k (99, h, 0, a)) 6 h) rfl ?_
      refine lv_iload_n hx hb dX5_check_63 rfl (lv_at hl 3 rfl) ?_
      refine lv_icmp_ne (tgt := 71) hx hb dX5_check_64 (by decide) (fun b64 => ?_) (fun b64 => ?_)
      · skip
        refine lv_iconst (v := 0) hx hb dX5_check_71 (by decide) ?_
        refine lv_istore (lv' := [(4, .int 0), (3, .ref (ad (30 + h))), (0, .ref (ad 0)), (1, .int (nI h)), (2, .int (nI a))]) hx hb dX5_check_72 hl (by decide) rfl (fun ls hl => ?_)
        refine lv_aload_n hx hb dX5_check_74 rfl (lv_at hl 2 rfl) ?_
        refine gf S hK hP 0 cl_0 fX5_31 (v := .ref (ad 8)) cfb_3 dX5_check_75 ?_
        refine lv_iload_n hx hb dX5_check_78 rfl (lv_at hl 3 rfl) ?_
        refine lv_iload_n hx hb dX5_check_79 rfl (lv_at hl 4 rfl) ?_
        refine cM S (cc_askD_k l dg cA ad nh ni (c_c0 c k h a) h (by omega) (nI a) h50 hd v hv hxv h2 _) kX5_194 ⟨rfl, rfl, Nat.le_of_ble_eq_true rfl, Nat.le_of_ble_eq_true rfl⟩ hK hP hD hS hA 8 cl_8 (q := (RX4, TX4, 5)) rfl rfl (As := [.int (nI h), .int (nI a)]) rfl hl.1 (rest := []) rfl (Nat.le_of_ble_eq_true rfl) dX5_check_80 ⟨Nat.le_of_ble_eq_true rfl, Nat.le_of_ble_eq_true rfl⟩ (st1 := [.int 0]) rfl (fun H locs hP hD hS => ?_)
        have hP : PP dg (cw cA ad nh ni (up (c_c0 c k h a) 9 v (c 9 v + 1))) H := hP
        have hD : va_D A (cw cA ad nh ni (up (c_c0 c k h a) 9 v (c 9 v + 1))) := hD
        refine lv_if_eq (tgt := 101) hx hb dX5_check_83 (by decide) (fun b83 => ?_) (fun b83 => ?_)
        · skip
          refine lv_iload hx hb dX5_check_101 (lv_at hl 0 rfl) ?_
          exact eMz S hr hlk hP hD hS dX5_check_103 rfl (by rfl) rfl
        · skip
          exact absurd b24 b83
      · skip
        exact absurd b64 hd
    · skip
      exact False.elim (by revert b24; decide)

set_option maxHeartbeats 4000000 in
set_option maxRecDepth 100000 in
theorem cc_check_b (l : Launch) (dg : va_G) (cA : Nat → ClassId) (ad : Nat → Nat) (nh ni : Nat) (c : St) (hn : c 0 4 = nI nh) (hn24 : nh ≤ 24) (h : Nat) (hh : h < nh) (a : Nat) (ha : a < 10) (k : Nat) (h5 : c 0 5 = nI k) (hk5 : k < 512) (hs : c 21 h = 97) (hk : c 30 h = 0) (h50 : ¬ c 5 h = 0) (hd : ¬ c 6 h = nI a) (v : Nat) (hv : v < 4) (hxv : c 7 h = nI v) (h2 : ¬ c 9 v + 1 < 2) (sz : Nat) : MetM l dg cA yX5_check cX5_check 5 (some .boolean) ({ frames := 5, cells := 0, slots := 0, locals := 126 } : Room) 0 0 (cw cA ad nh ni c) sz [.ref (ad 0), .int (nI h), .int (nI a)] (cw cA ad nh ni (c_fin (c_la (upr (up (c_c0 c k h a) 9 v (c 9 v + 1)) 5 (c_dr (c 7) (nI v) (c 5) 24)) nh) nh)) (some (.int 0)) := by
  refine ofM (by decide) (Nat.le_of_ble_eq_true rfl) (own := RX5) rfl (fun p e s0 m args below meth ccd ls A hAe S hr hlk hname hargs hK hP hD hS hA hsz hl => ?_)
  have hx := S.1
  have hb := S.2.1
  have hl : lv_has ls 5 [(0, .ref (ad 0)), (1, .int (nI h)), (2, .int (nI a))] := hl
  refine lv_aload_n hx hb dX5_check_0 rfl (lv_at hl 0 rfl) ?_
  refine lv_iload_n hx hb dX5_check_1 rfl (lv_at hl 1 rfl) ?_
  refine cR S (cc_hN l dg cA ad nh ni c hn hn24 h hh) kX5_140 ⟨rfl, rfl, Nat.le_of_ble_eq_true rfl, Nat.le_of_ble_eq_true rfl⟩ hK hP 0 cl_0 (q := (RX5, TX5, 9)) rfl rfl (As := [.int (nI h)]) rfl hl.1 (rest := []) rfl (Nat.le_of_ble_eq_true rfl) dX5_check_2 ⟨Nat.le_of_ble_eq_true rfl, Nat.le_of_ble_eq_true rfl⟩ (st1 := [.ref (ad (30 + h))]) rfl ?_
  refine lv_astore_n (lv' := [(3, .ref (ad (30 + h))), (0, .ref (ad 0)), (1, .int (nI h)), (2, .int (nI a))]) hx hb dX5_check_5 rfl hl (by decide) rfl (fun ls hl => ?_)
  refine lv_aload_n hx hb dX5_check_6 rfl (lv_at hl 1 rfl) ?_
  refine lv_iload_n hx hb dX5_check_7 rfl (lv_at hl 3 rfl) ?_
  refine cR S (cc_rA l dg cA ad nh ni c (nI a) (a10 ha).1 (a10 ha).2) kX5_148 ⟨rfl, rfl, Nat.le_of_ble_eq_true rfl, Nat.le_of_ble_eq_true rfl⟩ hK hP 0 cl_0 (q := (RX5, TX5, 9)) rfl rfl (As := [.int (nI a)]) rfl hl.1 (rest := []) rfl (Nat.le_of_ble_eq_true rfl) dX5_check_8 ⟨Nat.le_of_ble_eq_true rfl, Nat.le_of_ble_eq_true rfl⟩ (st1 := []) rfl ?_
  refine lv_aload_n hx hb dX5_check_11 rfl (lv_at hl 0 rfl) ?_
  refine gf S hK hP (22 + h) (cl_h (by omega)) fX5_182 (v := .int 97) (ch_1 hs) dX5_check_12 ?_
  refine lv_bipush (v := 97) hx hb dX5_check_15 (by decide) ?_
  refine lv_icmp_ne (tgt := 27) hx hb dX5_check_17 (by decide) (fun b17 => ?_) (fun b17 => ?_)
  · skip
    exact False.elim (by revert b17; decide)
  · skip
    refine lv_aload_n hx hb dX5_check_20 rfl (lv_at hl 0 rfl) ?_
    refine gf S hK hP (22 + h) (cl_h (by omega)) fX5_186 (v := .int 0) (ch_10 hk) dX5_check_21 ?_
    refine lv_if_eq (tgt := 37) hx hb dX5_check_24 (by decide) (fun b24 => ?_) (fun b24 => ?_)
    · skip
      refine lv_aload_n hx hb dX5_check_37 rfl (lv_at hl 1 rfl) ?_
      refine gf S hK hP 0 cl_0 fX5_41 (v := .ref (ad 20)) cfb_5 dX5_check_38 ?_
      refine lv_bipush (v := 99) hx hb dX5_check_41 (by decide) ?_
      refine lv_iload_n hx hb dX5_check_43 rfl (lv_at hl 2 rfl) ?_
      refine lv_iconst (v := 0) hx hb dX5_check_44 (by decide) ?_
      refine lv_iload_n hx hb dX5_check_45 rfl (lv_at hl 3 rfl) ?_
      refine cM S (cc_append l dg cA ad nh ni c 99 (nI h) 0 (nI a) k h5 hk5 _) kX5_158 ⟨rfl, rfl, Nat.le_of_ble_eq_true rfl, Nat.le_of_ble_eq_true rfl⟩ hK hP hD hS hA 20 cl_20 (q := (RX1, TX1, 2)) rfl rfl (As := [.int 99, .int (nI h), .int 0, .int (nI a)]) rfl hl.1 (rest := []) rfl (Nat.le_of_ble_eq_true rfl) dX5_check_46 ⟨Nat.le_of_ble_eq_true rfl, Nat.le_of_ble_eq_true rfl⟩ (st1 := []) rfl (fun H locs hP hD hS => ?_)
      have hP : PP dg (cw cA ad nh ni (c_app c k (99, h, 0, a))) H := hP
      have hD : va_D A (cw cA ad nh ni (c_app c k (99, h, 0, a))) := hD
      refine lv_aload_n hx hb dX5_check_49 rfl (lv_at hl 0 rfl) ?_
      refine lv_iconst (v := 1) hx hb dX5_check_50 (by decide) ?_
      refine pf S hK hP hD hS (22 + h) (cl_h (by omega)) fX5_186 fpX2 rfl (v := .int 1) rfl rfl (Nat.le_of_ble_eq_true rfl) (cs_h_10 (by omega)) dX5_check_51 (fun H locs hP hD hS => ?_)
      refine lv_aload_n hx hb dX5_check_54 rfl (lv_at hl 1 rfl) ?_
      refine gf S hK hP 0 cl_0 fX5_31 (v := .ref (ad 8)) cfb_3 dX5_check_55 ?_
      refine gf S hK hP 8 cl_8 fX5_191 (v := .ref (ad 10)) ct0_1 dX5_check_58 ?_
      refine lv_iload_n hx hb dX5_check_61 rfl (lv_at hl 2 rfl) ?_
      refine ild S hK hP 10 cl_10 (j := h) (by omega) (Nat.le_of_ble_eq_true rfl) dX5_check_62 ?_
      refine lv_as (y := (c_app c k (99, h, 0, a)) 6 h) rfl ?_
      refine lv_iload_n hx hb dX5_check_63 rfl (lv_at hl 3 rfl) ?_
      refine lv_icmp_ne (tgt := 71) hx hb dX5_check_64 (by decide) (fun b64 => ?_) (fun b64 => ?_)
      · skip
        refine lv_iconst (v := 0) hx hb dX5_check_71 (by decide) ?_
        refine lv_istore (lv' := [(4, .int 0), (3, .ref (ad (30 + h))), (0, .ref (ad 0)), (1, .int (nI h)), (2, .int (nI a))]) hx hb dX5_check_72 hl (by decide) rfl (fun ls hl => ?_)
        refine lv_aload_n hx hb dX5_check_74 rfl (lv_at hl 2 rfl) ?_
        refine gf S hK hP 0 cl_0 fX5_31 (v := .ref (ad 8)) cfb_3 dX5_check_75 ?_
        refine lv_iload_n hx hb dX5_check_78 rfl (lv_at hl 3 rfl) ?_
        refine lv_iload_n hx hb dX5_check_79 rfl (lv_at hl 4 rfl) ?_
        refine cM S (cc_askB_k l dg cA ad nh ni (c_c0 c k h a) h (by omega) (nI a) h50 hd v hv hxv h2 _) kX5_194 ⟨rfl, rfl, Nat.le_of_ble_eq_true rfl, Nat.le_of_ble_eq_true rfl⟩ hK hP hD hS hA 8 cl_8 (q := (RX4, TX4, 5)) rfl rfl (As := [.int (nI h), .int (nI a)]) rfl hl.1 (rest := []) rfl (Nat.le_of_ble_eq_true rfl) dX5_check_80 ⟨Nat.le_of_ble_eq_true rfl, Nat.le_of_ble_eq_true rfl⟩ (st1 := [.int 1]) rfl (fun H locs hP hD hS => ?_)
        have hP : PP dg (cw cA ad nh ni (upr (up (c_c0 c k h a) 9 v (c 9 v + 1)) 5 (c_dr (c 7) (nI v) (c 5) 24))) H := hP
        have hD : va_D A (cw cA ad nh ni (upr (up (c_c0 c k h a) 9 v (c 9 v + 1)) 5 (c_dr (c 7) (nI v) (c 5) 24))) := hD
        refine lv_if_eq (tgt := 101) hx hb dX5_check_83 (by decide) (fun b83 => ?_) (fun b83 => ?_)
        · skip
          exact False.elim (by revert b83; decide)
        · skip
          refine lv_aload_n hx hb dX5_check_86 rfl (lv_at hl 2 rfl) ?_
          refine cM S (cc_lost l dg cA ad nh ni (upr (up (c_c0 c k h a) 9 v (c 9 v + 1)) 5 (c_dr (c 7) (nI v) (c 5) 24)) hn hn24 _) kX5_198 ⟨rfl, rfl, Nat.le_of_ble_eq_true rfl, Nat.le_of_ble_eq_true rfl⟩ hK hP hD hS hA 0 cl_0 (q := (RX5, TX5, 9)) rfl rfl (As := []) rfl hl.1 (rest := []) rfl (Nat.le_of_ble_eq_true rfl) dX5_check_87 ⟨Nat.le_of_ble_eq_true rfl, Nat.le_of_ble_eq_true rfl⟩ (st1 := []) rfl (fun H locs hP hD hS => ?_)
          refine lv_aload_n hx hb dX5_check_90 rfl (lv_at hl 2 rfl) ?_
          refine gf S hK hP 0 cl_0 fX5_31 (v := .ref (ad 8)) cfb_3 dX5_check_91 ?_
          refine lv_aload_n hx hb dX5_check_94 rfl (lv_at hl 2 rfl) ?_
          refine gf S hK hP 0 cl_0 fX5_10 (v := .ref (ad 1)) cfb_0 dX5_check_95 ?_
          refine cM S (cc_fitTo_k l dg cA ad nh ni (c_la (upr (up (c_c0 c k h a) 9 v (c 9 v + 1)) 5 (c_dr (c 7) (nI v) (c 5) 24)) nh) (show (c_la (upr (up (c_c0 c k h a) 9 v (c 9 v + 1)) 5 (c_dr (c 7) (nI v) (c 5) 24)) nh) 0 4 = nI nh by rw [c_la_row _ _ (by decide) (by decide)]; exact hn) hn24 _) kX5_117 ⟨rfl, rfl, Nat.le_of_ble_eq_true rfl, Nat.le_of_ble_eq_true rfl⟩ hK hP hD hS hA 8 cl_8 (q := (RX4, TX4, 5)) rfl rfl (As := [.ref (ad 1)]) rfl hl.1 (rest := []) rfl (Nat.le_of_ble_eq_true rfl) dX5_check_98 ⟨Nat.le_of_ble_eq_true rfl, Nat.le_of_ble_eq_true rfl⟩ (st1 := []) rfl (fun H locs hP hD hS => ?_)
          refine lv_iload hx hb dX5_check_101 (lv_at hl 0 rfl) ?_
          exact eMz S hr hlk hP hD hS dX5_check_103 rfl (by rfl) rfl
      · skip
        exact absurd b64 hd
    · skip
      exact False.elim (by revert b24; decide)

set_option maxHeartbeats 4000000 in
set_option maxRecDepth 100000 in
theorem cc_endDay (l : Launch) (dg : va_G) (cA : Nat → ClassId) (ad : Nat → Nat) (nh ni : Nat) (c : St) (hn : c 0 4 = nI nh) (hn24 : nh ≤ 24) (hni : c 0 0 = nI ni) (hni4 : ni ≤ 4) (hc : ∃ k, k < 65536 ∧ c 0 1 = nI k) (d : Nat) (hd : c 0 2 = nI d) (hd9 : d < 99) (sz : Nat) : MetM l dg cA yX5_endDay cX5_endDay 2 (some .int) ({ frames := 6, cells := 0, slots := 0, locals := 130 } : Room) 0 0 (cw cA ad nh ni c) sz [.ref (ad 0)] (cw cA ad nh ni (c_rounds (up (c_rep c nh nh) 0 2 (nI (d + 1))) nh ni)) (some (.int (nI (c_repc c nh nh)))) := by
  refine ofM (by decide) (Nat.le_of_ble_eq_true rfl) (own := RX5) rfl (fun p e s0 m args below meth ccd ls A hAe S hr hlk hname hargs hK hP hD hS hA hsz hl => ?_)
  have hx := S.1
  have hb := S.2.1
  have hl : lv_has ls 2 [(0, .ref (ad 0))] := hl
  refine lv_aload_n hx hb dX5_endDay_0 rfl (lv_at hl 0 rfl) ?_
  refine gf S hK hP 0 cl_0 fX5_52 (v := .int (nI d)) (cfb_8 hd) dX5_endDay_1 ?_
  refine lv_bipush (v := 99) hx hb dX5_endDay_4 (by decide) ?_
  refine lv_icmp_lt (tgt := 19) hx hb dX5_endDay_6 (by decide) (fun b6 => ?_) (fun b6 => ?_)
  · skip
    have g6 : d < 99 := (nI_ltI (a := d) (b := 99) (by omega) (by omega)).mp b6
    refine lv_aload_n hx hb dX5_endDay_19 rfl (lv_at hl 0 rfl) ?_
    refine cM S (cc_repl l dg cA ad nh ni c hn hn24 hc _) kX5_203 ⟨rfl, rfl, Nat.le_of_ble_eq_true rfl, Nat.le_of_ble_eq_true rfl⟩ hK hP hD hS hA 0 cl_0 (q := (RX5, TX5, 9)) rfl rfl (As := []) rfl hl.1 (rest := []) rfl (Nat.le_of_ble_eq_true rfl) dX5_endDay_20 ⟨Nat.le_of_ble_eq_true rfl, Nat.le_of_ble_eq_true rfl⟩ (st1 := [.int (nI (c_repc c nh nh))]) rfl (fun H locs hP hD hS => ?_)
    refine lv_istore_n (lv' := [(1, .int (nI (c_repc c nh nh))), (0, .ref (ad 0))]) hx hb dX5_endDay_23 rfl hl (by decide) rfl (fun ls hl => ?_)
    refine lv_aload_n hx hb dX5_endDay_24 rfl (lv_at hl 1 rfl) ?_
    refine lv_dup hx hb dX5_endDay_25 rfl ?_
    refine gf S hK hP 0 cl_0 fX5_52 (v := .int (nI d)) (cfb_8 ((c_rep_sc nh 2 (by decide)).trans hd)) dX5_endDay_26 ?_
    refine lv_iconst (v := 1) hx hb dX5_endDay_29 (by decide) ?_
    refine lv_iadd hx hb dX5_endDay_30 ?_
    refine lv_as (y := nI (d + 1)) (nI_1 d) ?_
    refine pf S hK hP hD hS 0 cl_0 fX5_52 fpX5 rfl (v := .int (nI (d + 1))) rfl rfl (Nat.le_of_ble_eq_true rfl) cs_cfb_8 dX5_endDay_31 (fun H locs hP hD hS => ?_)
    refine lv_aload_n hx hb dX5_endDay_34 rfl (lv_at hl 1 rfl) ?_
    refine cM S (cc_mkRs l dg cA ad nh ni (up (c_rep c nh nh) 0 2 (nI (d + 1))) ((c_rep_sc nh 4 (by decide)).trans hn) hn24 ((c_rep_sc nh 0 (by decide)).trans hni) hni4 _) kX5_206 ⟨rfl, rfl, Nat.le_of_ble_eq_true rfl, Nat.le_of_ble_eq_true rfl⟩ hK hP hD hS hA 0 cl_0 (q := (RX5, TX5, 9)) rfl rfl (As := []) rfl hl.1 (rest := []) rfl (Nat.le_of_ble_eq_true rfl) dX5_endDay_35 ⟨Nat.le_of_ble_eq_true rfl, Nat.le_of_ble_eq_true rfl⟩ (st1 := []) rfl (fun H locs hP hD hS => ?_)
    refine lv_iload_n hx hb dX5_endDay_38 rfl (lv_at hl 0 rfl) ?_
    exact eMi S hr hlk hP hD hS dX5_endDay_39 rfl rfl
  · skip
    have g6 : ¬ d < 99 := fun zz => b6 ((nI_ltI (a := d) (b := 99) (by omega) (by omega)).mpr zz)
    exact absurd hd9 g6

set_option maxHeartbeats 4000000 in
set_option maxRecDepth 100000 in
theorem cc_stateOf (l : Launch) (dg : va_G) (cA : Nat → ClassId) (ad : Nat → Nat) (nh ni : Nat) (c : St) (hn : c 0 4 = nI nh) (hn24 : nh ≤ 24) (h : Nat) (hh : h < nh) (hnc : narrow .char (.int (c 21 h)) = .int (c 21 h)) : MetR l dg cA yX5_stateOf cX5_stateOf 2 (some .char) ({ frames := 1, cells := 0, slots := 0, locals := 21 } : Room) (cw cA ad nh ni c) [.ref (ad 0), .int (nI h)] (some (.int (c 21 h))) := by
  refine ofR (by decide) (Nat.le_of_ble_eq_true rfl) (own := RX5) rfl (fun p e s0 m args below meth ccd ls S hr hlk hargs hK hP hl => ?_)
  have hx := S.1
  have hb := S.2.1
  have hl : lv_has ls 2 [(0, .ref (ad 0)), (1, .int (nI h))] := hl
  refine lv_aload_n hx hb dX5_stateOf_0 rfl (lv_at hl 0 rfl) ?_
  refine lv_iload_n hx hb dX5_stateOf_1 rfl (lv_at hl 1 rfl) ?_
  refine cR S (cc_hN l dg cA ad nh ni c hn hn24 h hh) kX5_140 ⟨rfl, rfl, Nat.le_of_ble_eq_true rfl, Nat.le_of_ble_eq_true rfl⟩ hK hP 0 cl_0 (q := (RX5, TX5, 9)) rfl rfl (As := [.int (nI h)]) rfl hl.1 (rest := []) rfl (Nat.le_of_ble_eq_true rfl) dX5_stateOf_2 ⟨Nat.le_of_ble_eq_true rfl, Nat.le_of_ble_eq_true rfl⟩ (st1 := [.ref (ad (30 + h))]) rfl ?_
  refine gf S hK hP (22 + h) (cl_h (by omega)) fX5_182 (v := .int (c 21 h)) (ch_1 rfl) dX5_stateOf_5 ?_
  exact eRz S hr hlk dX5_stateOf_8 rfl hnc

set_option maxHeartbeats 4000000 in
set_option maxRecDepth 100000 in
theorem cc_wantedFrom (l : Launch) (dg : va_G) (cA : Nat → ClassId) (ad : Nat → Nat) (nh ni : Nat) (c : St) (hn : c 0 4 = nI nh) (hn24 : nh ≤ 24) (h : Nat) (hh : h < nh) (hs : c 21 h = 119) : MetR l dg cA yX5_wantedFrom cX5_wantedFrom 3 (some .int) ({ frames := 1, cells := 0, slots := 0, locals := 21 } : Room) (cw cA ad nh ni c) [.ref (ad 0), .int (nI h)] (some (.int (c 22 h))) := by
  refine ofR (by decide) (Nat.le_of_ble_eq_true rfl) (own := RX5) rfl (fun p e s0 m args below meth ccd ls S hr hlk hargs hK hP hl => ?_)
  have hx := S.1
  have hb := S.2.1
  have hl : lv_has ls 3 [(0, .ref (ad 0)), (1, .int (nI h))] := hl
  refine lv_aload_n hx hb dX5_wantedFrom_0 rfl (lv_at hl 0 rfl) ?_
  refine lv_iload_n hx hb dX5_wantedFrom_1 rfl (lv_at hl 1 rfl) ?_
  refine cR S (cc_hN l dg cA ad nh ni c hn hn24 h hh) kX5_140 ⟨rfl, rfl, Nat.le_of_ble_eq_true rfl, Nat.le_of_ble_eq_true rfl⟩ hK hP 0 cl_0 (q := (RX5, TX5, 9)) rfl rfl (As := [.int (nI h)]) rfl hl.1 (rest := []) rfl (Nat.le_of_ble_eq_true rfl) dX5_wantedFrom_2 ⟨Nat.le_of_ble_eq_true rfl, Nat.le_of_ble_eq_true rfl⟩ (st1 := [.ref (ad (30 + h))]) rfl ?_
  refine lv_astore_n (lv' := [(2, .ref (ad (30 + h))), (0, .ref (ad 0)), (1, .int (nI h))]) hx hb dX5_wantedFrom_5 rfl hl (by decide) rfl (fun ls hl => ?_)
  refine lv_aload_n hx hb dX5_wantedFrom_6 rfl (lv_at hl 0 rfl) ?_
  refine gf S hK hP (22 + h) (cl_h (by omega)) fX5_182 (v := .int 119) (ch_1 hs) dX5_wantedFrom_7 ?_
  refine lv_bipush (v := 119) hx hb dX5_wantedFrom_10 (by decide) ?_
  refine lv_icmp_eq (tgt := 25) hx hb dX5_wantedFrom_12 (by decide) (fun b12 => ?_) (fun b12 => ?_)
  · skip
    refine lv_aload_n hx hb dX5_wantedFrom_25 rfl (lv_at hl 0 rfl) ?_
    refine gf S hK hP (22 + h) (cl_h (by omega)) fX5_211 (v := .int (c 22 h)) (ch_2 rfl) dX5_wantedFrom_26 ?_
    exact eRi S hr hlk dX5_wantedFrom_29 rfl
  · skip
    exact False.elim (by revert b12; decide)

set_option maxHeartbeats 4000000 in
set_option maxRecDepth 100000 in
theorem cc_codeOf_u (l : Launch) (dg : va_G) (cA : Nat → ClassId) (ad : Nat → Nat) (nh ni : Nat) (c : St) (hn : c 0 4 = nI nh) (hn24 : nh ≤ 24) (h : Nat) (hh : h < nh) (hs : c 21 h = 117) : MetR l dg cA yX5_codeOf cX5_codeOf 3 (some .int) ({ frames := 1, cells := 0, slots := 0, locals := 21 } : Room) (cw cA ad nh ni c) [.ref (ad 0), .int (nI h)] (some (.int (0))) := by
  refine ofR (by decide) (Nat.le_of_ble_eq_true rfl) (own := RX5) rfl (fun p e s0 m args below meth ccd ls S hr hlk hargs hK hP hl => ?_)
  have hx := S.1
  have hb := S.2.1
  have hl : lv_has ls 3 [(0, .ref (ad 0)), (1, .int (nI h))] := hl
  refine lv_aload_n hx hb dX5_codeOf_0 rfl (lv_at hl 0 rfl) ?_
  refine lv_iload_n hx hb dX5_codeOf_1 rfl (lv_at hl 1 rfl) ?_
  refine cR S (cc_hN l dg cA ad nh ni c hn hn24 h hh) kX5_140 ⟨rfl, rfl, Nat.le_of_ble_eq_true rfl, Nat.le_of_ble_eq_true rfl⟩ hK hP 0 cl_0 (q := (RX5, TX5, 9)) rfl rfl (As := [.int (nI h)]) rfl hl.1 (rest := []) rfl (Nat.le_of_ble_eq_true rfl) dX5_codeOf_2 ⟨Nat.le_of_ble_eq_true rfl, Nat.le_of_ble_eq_true rfl⟩ (st1 := [.ref (ad (30 + h))]) rfl ?_
  refine lv_astore_n (lv' := [(2, .ref (ad (30 + h))), (0, .ref (ad 0)), (1, .int (nI h))]) hx hb dX5_codeOf_5 rfl hl (by decide) rfl (fun ls hl => ?_)
  refine lv_aload_n hx hb dX5_codeOf_6 rfl (lv_at hl 0 rfl) ?_
  refine gf S hK hP (22 + h) (cl_h (by omega)) fX5_182 (v := .int 117) (ch_1 hs) dX5_codeOf_7 ?_
  refine lv_lookup (tgt := 60) (off := 50) hx hb dX5_codeOf_10 (by decide) (by decide) (by decide) ?_
  refine lv_iconst (v := 0) hx hb dX5_codeOf_60 (by decide) ?_
  exact eRi S hr hlk dX5_codeOf_61 rfl

set_option maxHeartbeats 4000000 in
set_option maxRecDepth 100000 in
theorem cc_codeOf_w (l : Launch) (dg : va_G) (cA : Nat → ClassId) (ad : Nat → Nat) (nh ni : Nat) (c : St) (hn : c 0 4 = nI nh) (hn24 : nh ≤ 24) (h : Nat) (hh : h < nh) (hs : c 21 h = 119) : MetR l dg cA yX5_codeOf cX5_codeOf 3 (some .int) ({ frames := 1, cells := 0, slots := 0, locals := 21 } : Room) (cw cA ad nh ni c) [.ref (ad 0), .int (nI h)] (some (.int (300 + c 23 h))) := by
  refine ofR (by decide) (Nat.le_of_ble_eq_true rfl) (own := RX5) rfl (fun p e s0 m args below meth ccd ls S hr hlk hargs hK hP hl => ?_)
  have hx := S.1
  have hb := S.2.1
  have hl : lv_has ls 3 [(0, .ref (ad 0)), (1, .int (nI h))] := hl
  refine lv_aload_n hx hb dX5_codeOf_0 rfl (lv_at hl 0 rfl) ?_
  refine lv_iload_n hx hb dX5_codeOf_1 rfl (lv_at hl 1 rfl) ?_
  refine cR S (cc_hN l dg cA ad nh ni c hn hn24 h hh) kX5_140 ⟨rfl, rfl, Nat.le_of_ble_eq_true rfl, Nat.le_of_ble_eq_true rfl⟩ hK hP 0 cl_0 (q := (RX5, TX5, 9)) rfl rfl (As := [.int (nI h)]) rfl hl.1 (rest := []) rfl (Nat.le_of_ble_eq_true rfl) dX5_codeOf_2 ⟨Nat.le_of_ble_eq_true rfl, Nat.le_of_ble_eq_true rfl⟩ (st1 := [.ref (ad (30 + h))]) rfl ?_
  refine lv_astore_n (lv' := [(2, .ref (ad (30 + h))), (0, .ref (ad 0)), (1, .int (nI h))]) hx hb dX5_codeOf_5 rfl hl (by decide) rfl (fun ls hl => ?_)
  refine lv_aload_n hx hb dX5_codeOf_6 rfl (lv_at hl 0 rfl) ?_
  refine gf S hK hP (22 + h) (cl_h (by omega)) fX5_182 (v := .int 119) (ch_1 hs) dX5_codeOf_7 ?_
  refine lv_lookup (tgt := 62) (off := 52) hx hb dX5_codeOf_10 (by decide) (by decide) (by decide) ?_
  refine lv_sipush (v := 300) hx hb dX5_codeOf_62 (by decide) ?_
  refine lv_aload_n hx hb dX5_codeOf_65 rfl (lv_at hl 0 rfl) ?_
  refine gf S hK hP (22 + h) (cl_h (by omega)) fX5_166 (v := .int (c 23 h)) (ch_3 rfl) dX5_codeOf_66 ?_
  refine lv_iadd hx hb dX5_codeOf_69 ?_
  exact eRi S hr hlk dX5_codeOf_70 rfl

set_option maxHeartbeats 4000000 in
set_option maxRecDepth 100000 in
theorem cc_codeOf_r (l : Launch) (dg : va_G) (cA : Nat → ClassId) (ad : Nat → Nat) (nh ni : Nat) (c : St) (hn : c 0 4 = nI nh) (hn24 : nh ≤ 24) (h : Nat) (hh : h < nh) (hs : c 21 h = 114) : MetR l dg cA yX5_codeOf cX5_codeOf 3 (some .int) ({ frames := 1, cells := 0, slots := 0, locals := 21 } : Room) (cw cA ad nh ni c) [.ref (ad 0), .int (nI h)] (some (.int (210))) := by
  refine ofR (by decide) (Nat.le_of_ble_eq_true rfl) (own := RX5) rfl (fun p e s0 m args below meth ccd ls S hr hlk hargs hK hP hl => ?_)
  have hx := S.1
  have hb := S.2.1
  have hl : lv_has ls 3 [(0, .ref (ad 0)), (1, .int (nI h))] := hl
  refine lv_aload_n hx hb dX5_codeOf_0 rfl (lv_at hl 0 rfl) ?_
  refine lv_iload_n hx hb dX5_codeOf_1 rfl (lv_at hl 1 rfl) ?_
  refine cR S (cc_hN l dg cA ad nh ni c hn hn24 h hh) kX5_140 ⟨rfl, rfl, Nat.le_of_ble_eq_true rfl, Nat.le_of_ble_eq_true rfl⟩ hK hP 0 cl_0 (q := (RX5, TX5, 9)) rfl rfl (As := [.int (nI h)]) rfl hl.1 (rest := []) rfl (Nat.le_of_ble_eq_true rfl) dX5_codeOf_2 ⟨Nat.le_of_ble_eq_true rfl, Nat.le_of_ble_eq_true rfl⟩ (st1 := [.ref (ad (30 + h))]) rfl ?_
  refine lv_astore_n (lv' := [(2, .ref (ad (30 + h))), (0, .ref (ad 0)), (1, .int (nI h))]) hx hb dX5_codeOf_5 rfl hl (by decide) rfl (fun ls hl => ?_)
  refine lv_aload_n hx hb dX5_codeOf_6 rfl (lv_at hl 0 rfl) ?_
  refine gf S hK hP (22 + h) (cl_h (by omega)) fX5_182 (v := .int 114) (ch_1 hs) dX5_codeOf_7 ?_
  refine lv_lookup (tgt := 87) (off := 77) hx hb dX5_codeOf_10 (by decide) (by decide) (by decide) ?_
  refine lv_sipush (v := 210) hx hb dX5_codeOf_87 (by decide) ?_
  exact eRi S hr hlk dX5_codeOf_90 rfl

set_option maxHeartbeats 4000000 in
set_option maxRecDepth 100000 in
theorem cc_codeOf_g (l : Launch) (dg : va_G) (cA : Nat → ClassId) (ad : Nat → Nat) (nh ni : Nat) (c : St) (hn : c 0 4 = nI nh) (hn24 : nh ≤ 24) (h : Nat) (hh : h < nh) (hs : c 21 h = 103) : MetR l dg cA yX5_codeOf cX5_codeOf 3 (some .int) ({ frames := 1, cells := 0, slots := 0, locals := 21 } : Room) (cw cA ad nh ni c) [.ref (ad 0), .int (nI h)] (some (.int (220))) := by
  refine ofR (by decide) (Nat.le_of_ble_eq_true rfl) (own := RX5) rfl (fun p e s0 m args below meth ccd ls S hr hlk hargs hK hP hl => ?_)
  have hx := S.1
  have hb := S.2.1
  have hl : lv_has ls 3 [(0, .ref (ad 0)), (1, .int (nI h))] := hl
  refine lv_aload_n hx hb dX5_codeOf_0 rfl (lv_at hl 0 rfl) ?_
  refine lv_iload_n hx hb dX5_codeOf_1 rfl (lv_at hl 1 rfl) ?_
  refine cR S (cc_hN l dg cA ad nh ni c hn hn24 h hh) kX5_140 ⟨rfl, rfl, Nat.le_of_ble_eq_true rfl, Nat.le_of_ble_eq_true rfl⟩ hK hP 0 cl_0 (q := (RX5, TX5, 9)) rfl rfl (As := [.int (nI h)]) rfl hl.1 (rest := []) rfl (Nat.le_of_ble_eq_true rfl) dX5_codeOf_2 ⟨Nat.le_of_ble_eq_true rfl, Nat.le_of_ble_eq_true rfl⟩ (st1 := [.ref (ad (30 + h))]) rfl ?_
  refine lv_astore_n (lv' := [(2, .ref (ad (30 + h))), (0, .ref (ad 0)), (1, .int (nI h))]) hx hb dX5_codeOf_5 rfl hl (by decide) rfl (fun ls hl => ?_)
  refine lv_aload_n hx hb dX5_codeOf_6 rfl (lv_at hl 0 rfl) ?_
  refine gf S hK hP (22 + h) (cl_h (by omega)) fX5_182 (v := .int 103) (ch_1 hs) dX5_codeOf_7 ?_
  refine lv_lookup (tgt := 91) (off := 81) hx hb dX5_codeOf_10 (by decide) (by decide) (by decide) ?_
  refine lv_sipush (v := 220) hx hb dX5_codeOf_91 (by decide) ?_
  exact eRi S hr hlk dX5_codeOf_94 rfl

set_option maxHeartbeats 4000000 in
set_option maxRecDepth 100000 in
theorem cc_codeOf_e (l : Launch) (dg : va_G) (cA : Nat → ClassId) (ad : Nat → Nat) (nh ni : Nat) (c : St) (hn : c 0 4 = nI nh) (hn24 : nh ≤ 24) (h : Nat) (hh : h < nh) (hs : c 21 h = 101) : MetR l dg cA yX5_codeOf cX5_codeOf 3 (some .int) ({ frames := 1, cells := 0, slots := 0, locals := 21 } : Room) (cw cA ad nh ni c) [.ref (ad 0), .int (nI h)] (some (.int (400))) := by
  refine ofR (by decide) (Nat.le_of_ble_eq_true rfl) (own := RX5) rfl (fun p e s0 m args below meth ccd ls S hr hlk hargs hK hP hl => ?_)
  have hx := S.1
  have hb := S.2.1
  have hl : lv_has ls 3 [(0, .ref (ad 0)), (1, .int (nI h))] := hl
  refine lv_aload_n hx hb dX5_codeOf_0 rfl (lv_at hl 0 rfl) ?_
  refine lv_iload_n hx hb dX5_codeOf_1 rfl (lv_at hl 1 rfl) ?_
  refine cR S (cc_hN l dg cA ad nh ni c hn hn24 h hh) kX5_140 ⟨rfl, rfl, Nat.le_of_ble_eq_true rfl, Nat.le_of_ble_eq_true rfl⟩ hK hP 0 cl_0 (q := (RX5, TX5, 9)) rfl rfl (As := [.int (nI h)]) rfl hl.1 (rest := []) rfl (Nat.le_of_ble_eq_true rfl) dX5_codeOf_2 ⟨Nat.le_of_ble_eq_true rfl, Nat.le_of_ble_eq_true rfl⟩ (st1 := [.ref (ad (30 + h))]) rfl ?_
  refine lv_astore_n (lv' := [(2, .ref (ad (30 + h))), (0, .ref (ad 0)), (1, .int (nI h))]) hx hb dX5_codeOf_5 rfl hl (by decide) rfl (fun ls hl => ?_)
  refine lv_aload_n hx hb dX5_codeOf_6 rfl (lv_at hl 0 rfl) ?_
  refine gf S hK hP (22 + h) (cl_h (by omega)) fX5_182 (v := .int 101) (ch_1 hs) dX5_codeOf_7 ?_
  refine lv_lookup (tgt := 95) (off := 85) hx hb dX5_codeOf_10 (by decide) (by decide) (by decide) ?_
  refine lv_sipush (v := 400) hx hb dX5_codeOf_95 (by decide) ?_
  exact eRi S hr hlk dX5_codeOf_98 rfl

set_option maxHeartbeats 4000000 in
set_option maxRecDepth 100000 in
theorem cc_codeOf_a1 (l : Launch) (dg : va_G) (cA : Nat → ClassId) (ad : Nat → Nat) (nh ni : Nat) (c : St) (hn : c 0 4 = nI nh) (hn24 : nh ≤ 24) (h : Nat) (hh : h < nh) (hs : c 21 h = 97) (ha : c 23 h = 1) : MetR l dg cA yX5_codeOf cX5_codeOf 3 (some .int) ({ frames := 1, cells := 0, slots := 0, locals := 21 } : Room) (cw cA ad nh ni c) [.ref (ad 0), .int (nI h)] (some (.int 110)) := by
  refine ofR (by decide) (Nat.le_of_ble_eq_true rfl) (own := RX5) rfl (fun p e s0 m args below meth ccd ls S hr hlk hargs hK hP hl => ?_)
  have hx := S.1
  have hb := S.2.1
  have hl : lv_has ls 3 [(0, .ref (ad 0)), (1, .int (nI h))] := hl
  refine lv_aload_n hx hb dX5_codeOf_0 rfl (lv_at hl 0 rfl) ?_
  refine lv_iload_n hx hb dX5_codeOf_1 rfl (lv_at hl 1 rfl) ?_
  refine cR S (cc_hN l dg cA ad nh ni c hn hn24 h hh) kX5_140 ⟨rfl, rfl, Nat.le_of_ble_eq_true rfl, Nat.le_of_ble_eq_true rfl⟩ hK hP 0 cl_0 (q := (RX5, TX5, 9)) rfl rfl (As := [.int (nI h)]) rfl hl.1 (rest := []) rfl (Nat.le_of_ble_eq_true rfl) dX5_codeOf_2 ⟨Nat.le_of_ble_eq_true rfl, Nat.le_of_ble_eq_true rfl⟩ (st1 := [.ref (ad (30 + h))]) rfl ?_
  refine lv_astore_n (lv' := [(2, .ref (ad (30 + h))), (0, .ref (ad 0)), (1, .int (nI h))]) hx hb dX5_codeOf_5 rfl hl (by decide) rfl (fun ls hl => ?_)
  refine lv_aload_n hx hb dX5_codeOf_6 rfl (lv_at hl 0 rfl) ?_
  refine gf S hK hP (22 + h) (cl_h (by omega)) fX5_182 (v := .int 97) (ch_1 hs) dX5_codeOf_7 ?_
  refine lv_lookup (tgt := 71) (off := 61) hx hb dX5_codeOf_10 (by decide) (by decide) (by decide) ?_
  refine lv_aload_n hx hb dX5_codeOf_71 rfl (lv_at hl 0 rfl) ?_
  refine gf S hK hP (22 + h) (cl_h (by omega)) fX5_166 (v := .int 1) (ch_3 ha) dX5_codeOf_72 ?_
  refine lv_iconst (v := 1) hx hb dX5_codeOf_75 (by decide) ?_
  refine lv_icmp_ne (tgt := 84) hx hb dX5_codeOf_76 (by decide) (fun b76 => ?_) (fun b76 => ?_)
  · skip
    exact False.elim (by revert b76; decide)
  · skip
    refine lv_bipush (v := 110) hx hb dX5_codeOf_79 (by decide) ?_
    refine lv_goto (tgt := 86) hx hb dX5_codeOf_81 (by decide) ?_
    exact eRi S hr hlk dX5_codeOf_86 rfl

set_option maxHeartbeats 4000000 in
set_option maxRecDepth 100000 in
theorem cc_codeOf_a2 (l : Launch) (dg : va_G) (cA : Nat → ClassId) (ad : Nat → Nat) (nh ni : Nat) (c : St) (hn : c 0 4 = nI nh) (hn24 : nh ≤ 24) (h : Nat) (hh : h < nh) (hs : c 21 h = 97) (ha : ¬ c 23 h = 1) : MetR l dg cA yX5_codeOf cX5_codeOf 3 (some .int) ({ frames := 1, cells := 0, slots := 0, locals := 21 } : Room) (cw cA ad nh ni c) [.ref (ad 0), .int (nI h)] (some (.int 120)) := by
  refine ofR (by decide) (Nat.le_of_ble_eq_true rfl) (own := RX5) rfl (fun p e s0 m args below meth ccd ls S hr hlk hargs hK hP hl => ?_)
  have hx := S.1
  have hb := S.2.1
  have hl : lv_has ls 3 [(0, .ref (ad 0)), (1, .int (nI h))] := hl
  refine lv_aload_n hx hb dX5_codeOf_0 rfl (lv_at hl 0 rfl) ?_
  refine lv_iload_n hx hb dX5_codeOf_1 rfl (lv_at hl 1 rfl) ?_
  refine cR S (cc_hN l dg cA ad nh ni c hn hn24 h hh) kX5_140 ⟨rfl, rfl, Nat.le_of_ble_eq_true rfl, Nat.le_of_ble_eq_true rfl⟩ hK hP 0 cl_0 (q := (RX5, TX5, 9)) rfl rfl (As := [.int (nI h)]) rfl hl.1 (rest := []) rfl (Nat.le_of_ble_eq_true rfl) dX5_codeOf_2 ⟨Nat.le_of_ble_eq_true rfl, Nat.le_of_ble_eq_true rfl⟩ (st1 := [.ref (ad (30 + h))]) rfl ?_
  refine lv_astore_n (lv' := [(2, .ref (ad (30 + h))), (0, .ref (ad 0)), (1, .int (nI h))]) hx hb dX5_codeOf_5 rfl hl (by decide) rfl (fun ls hl => ?_)
  refine lv_aload_n hx hb dX5_codeOf_6 rfl (lv_at hl 0 rfl) ?_
  refine gf S hK hP (22 + h) (cl_h (by omega)) fX5_182 (v := .int 97) (ch_1 hs) dX5_codeOf_7 ?_
  refine lv_lookup (tgt := 71) (off := 61) hx hb dX5_codeOf_10 (by decide) (by decide) (by decide) ?_
  refine lv_aload_n hx hb dX5_codeOf_71 rfl (lv_at hl 0 rfl) ?_
  refine gf S hK hP (22 + h) (cl_h (by omega)) fX5_166 (v := .int (c 23 h)) (ch_3 rfl) dX5_codeOf_72 ?_
  refine lv_iconst (v := 1) hx hb dX5_codeOf_75 (by decide) ?_
  refine lv_icmp_ne (tgt := 84) hx hb dX5_codeOf_76 (by decide) (fun b76 => ?_) (fun b76 => ?_)
  · skip
    refine lv_bipush (v := 120) hx hb dX5_codeOf_84 (by decide) ?_
    exact eRi S hr hlk dX5_codeOf_86 rfl
  · skip
    exact absurd b76 ha

set_option maxHeartbeats 4000000 in
set_option maxRecDepth 100000 in
theorem cc_answerOf (l : Launch) (dg : va_G) (cA : Nat → ClassId) (ad : Nat → Nat) (nh ni : Nat) (c : St) (hn : c 0 4 = nI nh) (hn24 : nh ≤ 24) (h : Nat) (hh : h < nh) (hs : c 21 h = 97) : MetR l dg cA yX5_answerOf cX5_answerOf 2 (some .int) ({ frames := 2, cells := 0, slots := 0, locals := 42 } : Room) (cw cA ad nh ni c) [.ref (ad 0), .int (nI h)] (some (.int (c 6 h))) := by
  refine ofR (by decide) (Nat.le_of_ble_eq_true rfl) (own := RX5) rfl (fun p e s0 m args below meth ccd ls S hr hlk hargs hK hP hl => ?_)
  have hx := S.1
  have hb := S.2.1
  have hl : lv_has ls 2 [(0, .ref (ad 0)), (1, .int (nI h))] := hl
  refine lv_aload_n hx hb dX5_answerOf_0 rfl (lv_at hl 0 rfl) ?_
  refine lv_iload_n hx hb dX5_answerOf_1 rfl (lv_at hl 1 rfl) ?_
  refine cR S (cc_rW l dg cA ad nh ni c hn hn24 h hh hs) kX5_214 ⟨rfl, rfl, Nat.le_of_ble_eq_true rfl, Nat.le_of_ble_eq_true rfl⟩ hK hP 0 cl_0 (q := (RX5, TX5, 9)) rfl rfl (As := [.int (nI h)]) rfl hl.1 (rest := []) rfl (Nat.le_of_ble_eq_true rfl) dX5_answerOf_2 ⟨Nat.le_of_ble_eq_true rfl, Nat.le_of_ble_eq_true rfl⟩ (st1 := []) rfl ?_
  refine lv_aload_n hx hb dX5_answerOf_5 rfl (lv_at hl 0 rfl) ?_
  refine gf S hK hP 0 cl_0 fX5_31 (v := .ref (ad 8)) cfb_3 dX5_answerOf_6 ?_
  refine gf S hK hP 8 cl_8 fX5_191 (v := .ref (ad 10)) ct0_1 dX5_answerOf_9 ?_
  refine lv_iload_n hx hb dX5_answerOf_12 rfl (lv_at hl 1 rfl) ?_
  refine ild S hK hP 10 cl_10 (j := h) (by omega) (Nat.le_of_ble_eq_true rfl) dX5_answerOf_13 ?_
  refine lv_as (y := c 6 h) rfl ?_
  exact eRi S hr hlk dX5_answerOf_14 rfl

set_option maxHeartbeats 4000000 in
set_option maxRecDepth 100000 in
theorem cc_faults (l : Launch) (dg : va_G) (cA : Nat → ClassId) (ad : Nat → Nat) (nh ni : Nat) (c : St) (hni : c 0 0 = nI ni) (hni4 : ni ≤ 4) (i : Nat) (hi : i < ni) : MetR l dg cA yX5_faults cX5_faults 2 (some .int) ({ frames := 1, cells := 0, slots := 0, locals := 21 } : Room) (cw cA ad nh ni c) [.ref (ad 0), .int (nI i)] (some (.int (c 9 i))) := by
  refine ofR (by decide) (Nat.le_of_ble_eq_true rfl) (own := RX5) rfl (fun p e s0 m args below meth ccd ls S hr hlk hargs hK hP hl => ?_)
  have hx := S.1
  have hb := S.2.1
  have hl : lv_has ls 2 [(0, .ref (ad 0)), (1, .int (nI i))] := hl
  refine lv_aload_n hx hb dX5_faults_0 rfl (lv_at hl 0 rfl) ?_
  refine lv_iload_n hx hb dX5_faults_1 rfl (lv_at hl 1 rfl) ?_
  refine cR S (cc_rI l dg cA ad nh ni c hni hni4 i hi) kX5_217 ⟨rfl, rfl, Nat.le_of_ble_eq_true rfl, Nat.le_of_ble_eq_true rfl⟩ hK hP 0 cl_0 (q := (RX5, TX5, 9)) rfl rfl (As := [.int (nI i)]) rfl hl.1 (rest := []) rfl (Nat.le_of_ble_eq_true rfl) dX5_faults_2 ⟨Nat.le_of_ble_eq_true rfl, Nat.le_of_ble_eq_true rfl⟩ (st1 := []) rfl ?_
  refine lv_aload_n hx hb dX5_faults_5 rfl (lv_at hl 0 rfl) ?_
  refine gf S hK hP 0 cl_0 fX5_31 (v := .ref (ad 8)) cfb_3 dX5_faults_6 ?_
  refine gf S hK hP 8 cl_8 fX5_220 (v := .ref (ad 13)) ct0_4 dX5_faults_9 ?_
  refine lv_iload_n hx hb dX5_faults_12 rfl (lv_at hl 1 rfl) ?_
  refine ild S hK hP 13 cl_13 (j := i) (by omega) (Nat.le_of_ble_eq_true rfl) dX5_faults_13 ?_
  refine lv_as (y := c 9 i) rfl ?_
  exact eRi S hr hlk dX5_faults_14 rfl

set_option maxHeartbeats 4000000 in
set_option maxRecDepth 100000 in
theorem cc_answersTo (l : Launch) (dg : va_G) (cA : Nat → ClassId) (ad : Nat → Nat) (nh ni : Nat) (c : St) (hn : c 0 4 = nI nh) (hn24 : nh ≤ 24) (hni : c 0 0 = nI ni) (hni4 : ni ≤ 4) (i : Nat) (hi : i < ni) : MetR l dg cA yX5_answersTo cX5_answersTo 4 (some .int) ({ frames := 1, cells := 0, slots := 0, locals := 21 } : Room) (cw cA ad nh ni c) [.ref (ad 0), .int (nI i)] (some (.int (nI (ct (fun j => decide (¬ c 5 j = 0) && decide (c 7 j = nI i)) nh)))) := by
  refine ofR (by decide) (Nat.le_of_ble_eq_true rfl) (own := RX5) rfl (fun p e s0 m args below meth ccd ls S hr hlk hargs hK hP hl => ?_)
  have hx := S.1
  have hb := S.2.1
  have hl : lv_has ls 4 [(0, .ref (ad 0)), (1, .int (nI i))] := hl
  refine lv_aload_n hx hb dX5_answersTo_0 rfl (lv_at hl 0 rfl) ?_
  refine lv_iload_n hx hb dX5_answersTo_1 rfl (lv_at hl 1 rfl) ?_
  refine cR S (cc_rI l dg cA ad nh ni c hni hni4 i hi) kX5_217 ⟨rfl, rfl, Nat.le_of_ble_eq_true rfl, Nat.le_of_ble_eq_true rfl⟩ hK hP 0 cl_0 (q := (RX5, TX5, 9)) rfl rfl (As := [.int (nI i)]) rfl hl.1 (rest := []) rfl (Nat.le_of_ble_eq_true rfl) dX5_answersTo_2 ⟨Nat.le_of_ble_eq_true rfl, Nat.le_of_ble_eq_true rfl⟩ (st1 := []) rfl ?_
  refine lv_iconst (v := 0) hx hb dX5_answersTo_5 (by decide) ?_
  refine lv_istore_n (lv' := [(2, .int 0), (0, .ref (ad 0)), (1, .int (nI i))]) hx hb dX5_answersTo_6 rfl hl (by decide) rfl (fun ls hl => ?_)
  refine lv_iconst (v := 0) hx hb dX5_answersTo_7 (by decide) ?_
  refine lv_istore_n (lv' := [(3, .int 0), (2, .int 0), (0, .ref (ad 0)), (1, .int (nI i))]) hx hb dX5_answersTo_8 rfl hl (by decide) rfl (fun ls hl => ?_)
  have hL9 : ∀ (f : Nat) (j : Nat), nh - j < f → (j ≤ nh) → ∀ ls, lv_has ls 4 [(0, .ref (ad 0)), (1, .int (nI i)), (2, .int (nI (ct (fun j => decide (¬ c 5 j = 0) && decide (c 7 j = nI i)) j))), (3, .int (nI j))] → W p l e ({ frames := 1, cells := 0, slots := 0, locals := 21 } : Room) s0 m args below meth ccd s0.heap [] 0 0 (MQ below (QcR (some (.int (nI (ct (fun j => decide (¬ c 5 j = 0) && decide (c 7 j = nI i)) nh))))) args s0 0 0 (fun _ => False)) (F0 m 9 ls []) := by
    intro f
    induction f with
    | zero => intro j hm; exact absurd hm (Nat.not_lt_zero _)
    | succ f ih9 =>
      intro j hm9 hj ls hl
      refine lv_iload_n hx hb dX5_answersTo_9 rfl (lv_at hl 3 rfl) ?_
      refine lv_aload_n hx hb dX5_answersTo_10 rfl (lv_at hl 0 rfl) ?_
      refine gf S hK hP 0 cl_0 fX5_10 (v := .ref (ad 1)) cfb_0 dX5_answersTo_11 ?_
      refine gf S hK hP 1 cl_1 fX5_81 (v := .int (nI nh)) (cfr_5 hn) dX5_answersTo_14 ?_
      refine lv_icmp_ge (tgt := 54) hx hb dX5_answersTo_17 (by decide) (fun b17 => ?_) (fun b17 => ?_)
      · skip
        have g17 : nh ≤ j := (nI_leI (a := nh) (b := j) (by omega) (by omega)).mp b17
        refine lv_iload_n hx hb dX5_answersTo_54 rfl (lv_at hl 2 rfl) ?_
        exact eRi S hr hlk dX5_answersTo_55 (by rw [show j = nh by omega])
      · skip
        have g17 : ¬ nh ≤ j := fun zz => b17 ((nI_leI (a := nh) (b := j) (by omega) (by omega)).mpr zz)
        refine lv_aload_n hx hb dX5_answersTo_20 rfl (lv_at hl 0 rfl) ?_
        refine gf S hK hP 0 cl_0 fX5_31 (v := .ref (ad 8)) cfb_3 dX5_answersTo_21 ?_
        refine gf S hK hP 8 cl_8 fX5_223 (v := .ref (ad 9)) ct0_0 dX5_answersTo_24 ?_
        refine lv_iload_n hx hb dX5_answersTo_27 rfl (lv_at hl 3 rfl) ?_
        refine zld S hK hP 9 cl_9 (j := j) (by omega) (Nat.le_of_ble_eq_true rfl) dX5_answersTo_28 ?_
        refine lv_as (y := c 5 j) rfl ?_
        refine lv_if_eq (tgt := 48) hx hb dX5_answersTo_29 (by decide) (fun b29 => ?_) (fun b29 => ?_)
        · skip
          refine lv_iinc (v := nI (j + 1)) (lv' := [(3, .int (nI (j + 1))), (0, .ref (ad 0)), (1, .int (nI i)), (2, .int (nI (ct (fun j => decide (¬ c 5 j = 0) && decide (c 7 j = nI i)) j)))]) hx hb dX5_answersTo_48 hl (k := 3) rfl (nI_1 j) (by decide) rfl (fun ls hl => ?_)
          refine lv_goto (tgt := 9) hx hb dX5_answersTo_51 (by decide) ?_
          exact ih9 (j + 1) (by omega) (by omega) ls (lv_cast (lv_sub (l' := [(0, .ref (ad 0)), (1, .int (nI i)), (2, .int (nI (ct (fun j => decide (¬ c 5 j = 0) && decide (c 7 j = nI i)) j))), (3, .int (nI (j + 1)))]) hl [1, 2, 3, 0] rfl) (by simp [ct, nI_1, b29]))
        · skip
          refine lv_aload_n hx hb dX5_answersTo_32 rfl (lv_at hl 0 rfl) ?_
          refine gf S hK hP 0 cl_0 fX5_31 (v := .ref (ad 8)) cfb_3 dX5_answersTo_33 ?_
          refine gf S hK hP 8 cl_8 fX5_227 (v := .ref (ad 11)) ct0_2 dX5_answersTo_36 ?_
          refine lv_iload_n hx hb dX5_answersTo_39 rfl (lv_at hl 3 rfl) ?_
          refine ild S hK hP 11 cl_11 (j := j) (by omega) (Nat.le_of_ble_eq_true rfl) dX5_answersTo_40 ?_
          refine lv_as (y := c 7 j) rfl ?_
          refine lv_iload_n hx hb dX5_answersTo_41 rfl (lv_at hl 1 rfl) ?_
          refine lv_icmp_ne (tgt := 48) hx hb dX5_answersTo_42 (by decide) (fun b42 => ?_) (fun b42 => ?_)
          · skip
            refine lv_iinc (v := nI (j + 1)) (lv' := [(3, .int (nI (j + 1))), (0, .ref (ad 0)), (1, .int (nI i)), (2, .int (nI (ct (fun j => decide (¬ c 5 j = 0) && decide (c 7 j = nI i)) j)))]) hx hb dX5_answersTo_48 hl (k := 3) rfl (nI_1 j) (by decide) rfl (fun ls hl => ?_)
            refine lv_goto (tgt := 9) hx hb dX5_answersTo_51 (by decide) ?_
            exact ih9 (j + 1) (by omega) (by omega) ls (lv_cast (lv_sub (l' := [(0, .ref (ad 0)), (1, .int (nI i)), (2, .int (nI (ct (fun j => decide (¬ c 5 j = 0) && decide (c 7 j = nI i)) j))), (3, .int (nI (j + 1)))]) hl [1, 2, 3, 0] rfl) (by simp [ct, nI_1, b29, b42]))
          · skip
            refine lv_iinc (v := nI (ct (fun j => decide (¬ c 5 j = 0) && decide (c 7 j = nI i)) j + 1)) (lv' := [(2, .int (nI (ct (fun j => decide (¬ c 5 j = 0) && decide (c 7 j = nI i)) j + 1))), (0, .ref (ad 0)), (1, .int (nI i)), (3, .int (nI j))]) hx hb dX5_answersTo_45 hl (k := 2) rfl (nI_1 (ct (fun j => decide (¬ c 5 j = 0) && decide (c 7 j = nI i)) j)) (by decide) rfl (fun ls hl => ?_)
            refine lv_iinc (v := nI (j + 1)) (lv' := [(3, .int (nI (j + 1))), (2, .int (nI (ct (fun j => decide (¬ c 5 j = 0) && decide (c 7 j = nI i)) j + 1))), (0, .ref (ad 0)), (1, .int (nI i))]) hx hb dX5_answersTo_48 hl (k := 3) rfl (nI_1 j) (by decide) rfl (fun ls hl => ?_)
            refine lv_goto (tgt := 9) hx hb dX5_answersTo_51 (by decide) ?_
            exact ih9 (j + 1) (by omega) (by omega) ls (lv_cast (lv_sub (l' := [(0, .ref (ad 0)), (1, .int (nI i)), (2, .int (nI (ct (fun j => decide (¬ c 5 j = 0) && decide (c 7 j = nI i)) j + 1))), (3, .int (nI (j + 1)))]) hl [2, 3, 1, 0] rfl) (by simp [ct, nI_1, b29, b42]))
  exact hL9 _ 0 (Nat.lt_succ_self _) (Nat.zero_le _) ls (lv_cast (lv_sub (l' := [(0, .ref (ad 0)), (1, .int (nI i)), (2, .int 0), (3, .int 0)]) hl [2, 3, 1, 0] rfl) (by rfl))

set_option maxHeartbeats 4000000 in
set_option maxRecDepth 100000 in
theorem cc_target (l : Launch) (dg : va_G) (cA : Nat → ClassId) (ad : Nat → Nat) (nh ni : Nat) (c : St) (ns : Nat) (hns : c 0 3 = nI ns) (hns4 : ns ≤ 4) (js : Nat) (hjs : js < ns) : MetR l dg cA yX5_target cX5_target 2 (some .int) ({ frames := 1, cells := 0, slots := 0, locals := 21 } : Room) (cw cA ad nh ni c) [.ref (ad 0), .int (nI js)] (some (.int (c 3 js))) := by
  refine ofR (by decide) (Nat.le_of_ble_eq_true rfl) (own := RX5) rfl (fun p e s0 m args below meth ccd ls S hr hlk hargs hK hP hl => ?_)
  have hx := S.1
  have hb := S.2.1
  have hl : lv_has ls 2 [(0, .ref (ad 0)), (1, .int (nI js))] := hl
  refine lv_aload_n hx hb dX5_target_0 rfl (lv_at hl 0 rfl) ?_
  refine lv_iload_n hx hb dX5_target_1 rfl (lv_at hl 1 rfl) ?_
  refine cR S (cc_rS l dg cA ad nh ni c ns hns hns4 js hjs) kX5_71 ⟨rfl, rfl, Nat.le_of_ble_eq_true rfl, Nat.le_of_ble_eq_true rfl⟩ hK hP 0 cl_0 (q := (RX5, TX5, 9)) rfl rfl (As := [.int (nI js)]) rfl hl.1 (rest := []) rfl (Nat.le_of_ble_eq_true rfl) dX5_target_2 ⟨Nat.le_of_ble_eq_true rfl, Nat.le_of_ble_eq_true rfl⟩ (st1 := []) rfl ?_
  refine lv_aload_n hx hb dX5_target_5 rfl (lv_at hl 0 rfl) ?_
  refine gf S hK hP 0 cl_0 fX5_10 (v := .ref (ad 1)) cfb_0 dX5_target_6 ?_
  refine gf S hK hP 1 cl_1 fX5_230 (v := .ref (ad 4)) cfr_2 dX5_target_9 ?_
  refine lv_iload_n hx hb dX5_target_12 rfl (lv_at hl 1 rfl) ?_
  refine ild S hK hP 4 cl_4 (j := js) (by omega) (Nat.le_of_ble_eq_true rfl) dX5_target_13 ?_
  refine lv_as (y := c 3 js) rfl ?_
  exact eRi S hr hlk dX5_target_14 rfl

set_option maxHeartbeats 4000000 in
set_option maxRecDepth 100000 in
theorem cc_weight (l : Launch) (dg : va_G) (cA : Nat → ClassId) (ad : Nat → Nat) (nh ni : Nat) (c : St) (hn : c 0 4 = nI nh) (hn24 : nh ≤ 24) (h : Nat) (hh : h < nh) (hs : c 21 h = 97) : MetR l dg cA yX5_weight cX5_weight 2 (some .int) ({ frames := 2, cells := 0, slots := 0, locals := 42 } : Room) (cw cA ad nh ni c) [.ref (ad 0), .int (nI h)] (some (.int (c 8 h))) := by
  refine ofR (by decide) (Nat.le_of_ble_eq_true rfl) (own := RX5) rfl (fun p e s0 m args below meth ccd ls S hr hlk hargs hK hP hl => ?_)
  have hx := S.1
  have hb := S.2.1
  have hl : lv_has ls 2 [(0, .ref (ad 0)), (1, .int (nI h))] := hl
  refine lv_aload_n hx hb dX5_weight_0 rfl (lv_at hl 0 rfl) ?_
  refine lv_iload_n hx hb dX5_weight_1 rfl (lv_at hl 1 rfl) ?_
  refine cR S (cc_rW l dg cA ad nh ni c hn hn24 h hh hs) kX5_214 ⟨rfl, rfl, Nat.le_of_ble_eq_true rfl, Nat.le_of_ble_eq_true rfl⟩ hK hP 0 cl_0 (q := (RX5, TX5, 9)) rfl rfl (As := [.int (nI h)]) rfl hl.1 (rest := []) rfl (Nat.le_of_ble_eq_true rfl) dX5_weight_2 ⟨Nat.le_of_ble_eq_true rfl, Nat.le_of_ble_eq_true rfl⟩ (st1 := []) rfl ?_
  refine lv_aload_n hx hb dX5_weight_5 rfl (lv_at hl 0 rfl) ?_
  refine gf S hK hP 0 cl_0 fX5_31 (v := .ref (ad 8)) cfb_3 dX5_weight_6 ?_
  refine gf S hK hP 8 cl_8 fX5_233 (v := .ref (ad 12)) ct0_3 dX5_weight_9 ?_
  refine lv_iload_n hx hb dX5_weight_12 rfl (lv_at hl 1 rfl) ?_
  refine ild S hK hP 12 cl_12 (j := h) (by omega) (Nat.le_of_ble_eq_true rfl) dX5_weight_13 ?_
  refine lv_as (y := c 8 h) rfl ?_
  exact eRi S hr hlk dX5_weight_14 rfl

set_option maxHeartbeats 4000000 in
set_option maxRecDepth 100000 in
theorem cc_weightAnew (l : Launch) (dg : va_G) (cA : Nat → ClassId) (ad : Nat → Nat) (nh ni : Nat) (c : St) (hn : c 0 4 = nI nh) (hn24 : nh ≤ 24) (h : Nat) (hh : h < nh) (hs : c 21 h = 97) (E : Nat → Ev) (n : Nat) (h5 : c 0 5 = nI n) (hn512 : n ≤ 512) (hE : ∀ k, k < n → e_ok (E k)) (h15 : ∀ k, k < n → c 15 k = e_w (E k)) (htk : tk_ok 10 c) (sz : Nat) : MetM l dg cA yX5_weightAnew cX5_weightAnew 2 (some .int) ({ frames := 6, cells := 0, slots := 0, locals := 146 } : Room) 0 0 (cw cA ad nh ni c) sz [.ref (ad 0), .int (nI h)] (cw cA ad nh ni (c_wa c E n nh)) (some (.int (c_wa c E n nh 13 h))) := by
  refine ofM (by decide) (Nat.le_of_ble_eq_true rfl) (own := RX5) rfl (fun p e s0 m args below meth ccd ls A hAe S hr hlk hname hargs hK hP hD hS hA hsz hl => ?_)
  have hx := S.1
  have hb := S.2.1
  have hl : lv_has ls 2 [(0, .ref (ad 0)), (1, .int (nI h))] := hl
  refine lv_aload_n hx hb dX5_weightAnew_0 rfl (lv_at hl 0 rfl) ?_
  refine lv_iload_n hx hb dX5_weightAnew_1 rfl (lv_at hl 1 rfl) ?_
  refine cR S (cc_rW l dg cA ad nh ni c hn hn24 h hh hs) kX5_214 ⟨rfl, rfl, Nat.le_of_ble_eq_true rfl, Nat.le_of_ble_eq_true rfl⟩ hK hP 0 cl_0 (q := (RX5, TX5, 9)) rfl rfl (As := [.int (nI h)]) rfl hl.1 (rest := []) rfl (Nat.le_of_ble_eq_true rfl) dX5_weightAnew_2 ⟨Nat.le_of_ble_eq_true rfl, Nat.le_of_ble_eq_true rfl⟩ (st1 := []) rfl ?_
  refine lv_aload_n hx hb dX5_weightAnew_5 rfl (lv_at hl 0 rfl) ?_
  refine cM S (cc_wa l dg cA ad nh ni c hn hn24 E n h5 hn512 hE h15 htk _) kX5_236 ⟨rfl, rfl, Nat.le_of_ble_eq_true rfl, Nat.le_of_ble_eq_true rfl⟩ hK hP hD hS hA 0 cl_0 (q := (RX5, TX5, 9)) rfl rfl (As := []) rfl hl.1 (rest := []) rfl (Nat.le_of_ble_eq_true rfl) dX5_weightAnew_6 ⟨Nat.le_of_ble_eq_true rfl, Nat.le_of_ble_eq_true rfl⟩ (st1 := []) rfl (fun H locs hP hD hS => ?_)
  refine lv_aload_n hx hb dX5_weightAnew_9 rfl (lv_at hl 0 rfl) ?_
  refine gf S hK hP 0 cl_0 fX5_35 (v := .ref (ad 14)) cfb_4 dX5_weightAnew_10 ?_
  refine gf S hK hP 14 cl_14 fX5_233 (v := .ref (ad 18)) ct1_3 dX5_weightAnew_13 ?_
  refine lv_iload_n hx hb dX5_weightAnew_16 rfl (lv_at hl 1 rfl) ?_
  refine ild S hK hP 18 cl_18 (j := h) (by omega) (Nat.le_of_ble_eq_true rfl) dX5_weightAnew_17 ?_
  refine lv_as (y := (c_wa c E n nh) 13 h) rfl ?_
  exact eMi S hr hlk hP hD hS dX5_weightAnew_18 rfl rfl

set_option maxHeartbeats 4000000 in
set_option maxRecDepth 100000 in
theorem cc_wol (l : Launch) (dg : va_G) (cA : Nat → ClassId) (ad : Nat → Nat) (nh ni : Nat) (c : St) (hn : c 0 4 = nI nh) (hn24 : nh ≤ 24) (g3 : Nat) (hg3 : g3 < 3) : MetR l dg cA yX5_weightOfLanguage cX5_weightOfLanguage 2 (some .int) ({ frames := 2, cells := 0, slots := 0, locals := 48 } : Room) (cw cA ad nh ni c) [.ref (ad 0), .int (nI g3)] (some (.int (fs_sum (tmem (c 5) (c 2) (nI g3)) (c 8) nh))) := by
  refine ofR (by decide) (Nat.le_of_ble_eq_true rfl) (own := RX5) rfl (fun p e s0 m args below meth ccd ls S hr hlk hargs hK hP hl => ?_)
  have hx := S.1
  have hb := S.2.1
  have hl : lv_has ls 2 [(0, .ref (ad 0)), (1, .int (nI g3))] := hl
  refine lv_aload_n hx hb dX5_weightOfLanguage_0 rfl (lv_at hl 0 rfl) ?_
  refine lv_iload_n hx hb dX5_weightOfLanguage_1 rfl (lv_at hl 1 rfl) ?_
  refine cR S (cc_rL l dg cA ad nh ni c (nI g3) (l3 hg3).1 (l3 hg3).2) kX5_78 ⟨rfl, rfl, Nat.le_of_ble_eq_true rfl, Nat.le_of_ble_eq_true rfl⟩ hK hP 0 cl_0 (q := (RX5, TX5, 9)) rfl rfl (As := [.int (nI g3)]) rfl hl.1 (rest := []) rfl (Nat.le_of_ble_eq_true rfl) dX5_weightOfLanguage_2 ⟨Nat.le_of_ble_eq_true rfl, Nat.le_of_ble_eq_true rfl⟩ (st1 := []) rfl ?_
  refine lv_aload_n hx hb dX5_weightOfLanguage_5 rfl (lv_at hl 0 rfl) ?_
  refine gf S hK hP 0 cl_0 fX5_31 (v := .ref (ad 8)) cfb_3 dX5_weightOfLanguage_6 ?_
  refine lv_aload_n hx hb dX5_weightOfLanguage_9 rfl (lv_at hl 0 rfl) ?_
  refine gf S hK hP 0 cl_0 fX5_10 (v := .ref (ad 1)) cfb_0 dX5_weightOfLanguage_10 ?_
  refine gf S hK hP 1 cl_1 fX5_91 (v := .ref (ad 3)) cfr_1 dX5_weightOfLanguage_13 ?_
  refine lv_iload_n hx hb dX5_weightOfLanguage_16 rfl (lv_at hl 1 rfl) ?_
  refine lv_aload_n hx hb dX5_weightOfLanguage_17 rfl (lv_at hl 0 rfl) ?_
  refine gf S hK hP 0 cl_0 fX5_10 (v := .ref (ad 1)) cfb_0 dX5_weightOfLanguage_18 ?_
  refine gf S hK hP 1 cl_1 fX5_81 (v := .int (nI nh)) (cfr_5 hn) dX5_weightOfLanguage_21 ?_
  refine cR S (cc_sumG_kl l dg cA ad nh ni c (nI g3) nh hn24) kX5_239 ⟨rfl, rfl, Nat.le_of_ble_eq_true rfl, Nat.le_of_ble_eq_true rfl⟩ hK hP 8 cl_8 (q := (RX4, TX4, 5)) rfl rfl (As := [.ref (ad 3), .int (nI g3), .int (nI nh)]) rfl hl.1 (rest := []) rfl (Nat.le_of_ble_eq_true rfl) dX5_weightOfLanguage_24 ⟨Nat.le_of_ble_eq_true rfl, Nat.le_of_ble_eq_true rfl⟩ (st1 := [.int (fs_sum (tmem (c 5) (c 2) (nI g3)) (c 8) nh)]) rfl ?_
  exact eRi S hr hlk dX5_weightOfLanguage_27 rfl

set_option maxHeartbeats 4000000 in
set_option maxRecDepth 100000 in
theorem cc_wsum (l : Launch) (dg : va_G) (cA : Nat → ClassId) (ad : Nat → Nat) (nh ni : Nat) (c : St) (hn : c 0 4 = nI nh) (hn24 : nh ≤ 24) : MetR l dg cA yX5_weightedSum cX5_weightedSum 4 (some .long) ({ frames := 0, cells := 0, slots := 0, locals := 0 } : Room) (cw cA ad nh ni c) [.ref (ad 0)] (some (.long (c_w64 (c 5) (c 6) (c 8) nh))) := by
  refine ofR (by decide) (Nat.le_of_ble_eq_true rfl) (own := RX5) rfl (fun p e s0 m args below meth ccd ls S hr hlk hargs hK hP hl => ?_)
  have hx := S.1
  have hb := S.2.1
  have hl : lv_has ls 4 [(0, .ref (ad 0))] := hl
  refine lv_lconst (v := 0) hx hb dX5_weightedSum_0 (by decide) ?_
  refine lv_lstore_n (lv' := [(1, .long 0), (0, .ref (ad 0))]) hx hb dX5_weightedSum_1 rfl hl (by decide) rfl (fun ls hl => ?_)
  refine lv_iconst (v := 0) hx hb dX5_weightedSum_2 (by decide) ?_
  refine lv_istore_n (lv' := [(3, .int 0), (1, .long 0), (0, .ref (ad 0))]) hx hb dX5_weightedSum_3 rfl hl (by decide) rfl (fun ls hl => ?_)
  have hL4 : ∀ (f : Nat) (j : Nat), nh - j < f → (j ≤ nh) → ∀ ls, lv_has ls 4 [(0, .ref (ad 0)), (1, .long (c_w64 (c 5) (c 6) (c 8) j)), (3, .int (nI j))] → W p l e ({ frames := 0, cells := 0, slots := 0, locals := 0 } : Room) s0 m args below meth ccd s0.heap [] 0 0 (MQ below (QcR (some (.long (c_w64 (c 5) (c 6) (c 8) nh)))) args s0 0 0 (fun _ => False)) (F0 m 4 ls []) := by
    intro f
    induction f with
    | zero => intro j hm; exact absurd hm (Nat.not_lt_zero _)
    | succ f ih4 =>
      intro j hm4 hj ls hl
      refine lv_iload_n hx hb dX5_weightedSum_4 rfl (lv_at hl 2 rfl) ?_
      refine lv_aload_n hx hb dX5_weightedSum_5 rfl (lv_at hl 0 rfl) ?_
      refine gf S hK hP 0 cl_0 fX5_10 (v := .ref (ad 1)) cfb_0 dX5_weightedSum_6 ?_
      refine gf S hK hP 1 cl_1 fX5_81 (v := .int (nI nh)) (cfr_5 hn) dX5_weightedSum_9 ?_
      refine lv_icmp_ge (tgt := 57) hx hb dX5_weightedSum_12 (by decide) (fun b12 => ?_) (fun b12 => ?_)
      · skip
        have g12 : nh ≤ j := (nI_leI (a := nh) (b := j) (by omega) (by omega)).mp b12
        refine lv_lload_n hx hb dX5_weightedSum_57 rfl (lv_at hl 1 rfl) ?_
        exact eRl S hr hlk dX5_weightedSum_58 (by rw [show j = nh by omega])
      · skip
        have g12 : ¬ nh ≤ j := fun zz => b12 ((nI_leI (a := nh) (b := j) (by omega) (by omega)).mpr zz)
        refine lv_aload_n hx hb dX5_weightedSum_15 rfl (lv_at hl 0 rfl) ?_
        refine gf S hK hP 0 cl_0 fX5_31 (v := .ref (ad 8)) cfb_3 dX5_weightedSum_16 ?_
        refine gf S hK hP 8 cl_8 fX5_223 (v := .ref (ad 9)) ct0_0 dX5_weightedSum_19 ?_
        refine lv_iload_n hx hb dX5_weightedSum_22 rfl (lv_at hl 2 rfl) ?_
        refine zld S hK hP 9 cl_9 (j := j) (by omega) (Nat.le_of_ble_eq_true rfl) dX5_weightedSum_23 ?_
        refine lv_as (y := c 5 j) rfl ?_
        refine lv_if_eq (tgt := 51) hx hb dX5_weightedSum_24 (by decide) (fun b24 => ?_) (fun b24 => ?_)
        · skip
          refine lv_iinc (v := nI (j + 1)) (lv' := [(3, .int (nI (j + 1))), (0, .ref (ad 0)), (1, .long (c_w64 (c 5) (c 6) (c 8) j))]) hx hb dX5_weightedSum_51 hl (k := 2) rfl (nI_1 j) (by decide) rfl (fun ls hl => ?_)
          refine lv_goto (tgt := 4) hx hb dX5_weightedSum_54 (by decide) ?_
          exact ih4 (j + 1) (by omega) (by omega) ls (lv_cast (lv_sub (l' := [(0, .ref (ad 0)), (1, .long (c_w64 (c 5) (c 6) (c 8) j)), (3, .int (nI (j + 1)))]) hl [1, 2, 0] rfl) (by rw [c_w64_f b24]))
        · skip
          refine lv_lload_n hx hb dX5_weightedSum_27 rfl (lv_at hl 1 rfl) ?_
          refine lv_aload_n hx hb dX5_weightedSum_28 rfl (lv_at hl 0 rfl) ?_
          refine gf S hK hP 0 cl_0 fX5_31 (v := .ref (ad 8)) cfb_3 dX5_weightedSum_29 ?_
          refine gf S hK hP 8 cl_8 fX5_191 (v := .ref (ad 10)) ct0_1 dX5_weightedSum_32 ?_
          refine lv_iload_n hx hb dX5_weightedSum_35 rfl (lv_at hl 2 rfl) ?_
          refine ild S hK hP 10 cl_10 (j := j) (by omega) (Nat.le_of_ble_eq_true rfl) dX5_weightedSum_36 ?_
          refine lv_as (y := c 6 j) rfl ?_
          refine lv_i2l (v := (c 6 j).toInt64) hx hb dX5_weightedSum_37 rfl ?_
          refine lv_aload_n hx hb dX5_weightedSum_38 rfl (lv_at hl 0 rfl) ?_
          refine gf S hK hP 0 cl_0 fX5_31 (v := .ref (ad 8)) cfb_3 dX5_weightedSum_39 ?_
          refine gf S hK hP 8 cl_8 fX5_233 (v := .ref (ad 12)) ct0_3 dX5_weightedSum_42 ?_
          refine lv_iload_n hx hb dX5_weightedSum_45 rfl (lv_at hl 2 rfl) ?_
          refine ild S hK hP 12 cl_12 (j := j) (by omega) (Nat.le_of_ble_eq_true rfl) dX5_weightedSum_46 ?_
          refine lv_as (y := c 8 j) rfl ?_
          refine lv_i2l (v := (c 8 j).toInt64) hx hb dX5_weightedSum_47 rfl ?_
          refine lv_lmul hx hb dX5_weightedSum_48 ?_
          refine lv_ladd hx hb dX5_weightedSum_49 ?_
          refine lv_lstore_n (lv' := [(1, .long ((c_w64 (c 5) (c 6) (c 8) j) + (((c 6 j).toInt64) * ((c 8 j).toInt64)))), (0, .ref (ad 0)), (3, .int (nI j))]) hx hb dX5_weightedSum_50 rfl hl (by decide) rfl (fun ls hl => ?_)
          refine lv_iinc (v := nI (j + 1)) (lv' := [(3, .int (nI (j + 1))), (1, .long ((c_w64 (c 5) (c 6) (c 8) j) + (((c 6 j).toInt64) * ((c 8 j).toInt64)))), (0, .ref (ad 0))]) hx hb dX5_weightedSum_51 hl (k := 2) rfl (nI_1 j) (by decide) rfl (fun ls hl => ?_)
          refine lv_goto (tgt := 4) hx hb dX5_weightedSum_54 (by decide) ?_
          exact ih4 (j + 1) (by omega) (by omega) ls (lv_cast (lv_sub (l' := [(0, .ref (ad 0)), (1, .long ((c_w64 (c 5) (c 6) (c 8) j) + (((c 6 j).toInt64) * ((c 8 j).toInt64)))), (3, .int (nI (j + 1)))]) hl [2, 1, 0] rfl) (by rw [c_w64_t b24]))
  exact hL4 _ 0 (Nat.lt_succ_self _) (Nat.zero_le _) ls (lv_cast (lv_sub (l' := [(0, .ref (ad 0)), (1, .long 0), (3, .int 0)]) hl [2, 1, 0] rfl) (by rfl))

set_option maxHeartbeats 4000000 in
set_option maxRecDepth 100000 in
theorem cc_mean (l : Launch) (dg : va_G) (cA : Nat → ClassId) (ad : Nat → Nat) (nh ni : Nat) (c : St) (hn : c 0 4 = nI nh) (hn24 : nh ≤ 24) (hz : ¬ lg_cmp (c_s64 (c 8) nh) 0 = 0) (hnan : vf_n64 (FP.ddiv (FP.l2d (c_w64 (c 5) (c 6) (c 8) nh)) (FP.l2d (c_s64 (c 8) nh)))) (sz : Nat) : MetM l dg cA yX5_weightedMean cX5_weightedMean 3 (some .double) ({ frames := 1, cells := 0, slots := 0, locals := 23 } : Room) 0 0 (cw cA ad nh ni c) sz [.ref (ad 0)] (cw cA ad nh ni c) (some (.double (FP.ddiv (FP.l2d (c_w64 (c 5) (c 6) (c 8) nh)) (FP.l2d (c_s64 (c 8) nh))))) := by
  refine ofM (by decide) (Nat.le_of_ble_eq_true rfl) (own := RX5) rfl (fun p e s0 m args below meth ccd ls A hAe S hr hlk hname hargs hK hP hD hS hA hsz hl => ?_)
  have hx := S.1
  have hb := S.2.1
  have hl : lv_has ls 3 [(0, .ref (ad 0))] := hl
  refine lv_aload_n hx hb dX5_weightedMean_0 rfl (lv_at hl 0 rfl) ?_
  refine cR S (cc_sumW l dg cA ad nh ni c hn hn24) kX5_243 ⟨rfl, rfl, Nat.le_of_ble_eq_true rfl, Nat.le_of_ble_eq_true rfl⟩ hK hP 0 cl_0 (q := (RX5, TX5, 9)) rfl rfl (As := []) rfl hl.1 (rest := []) rfl (Nat.le_of_ble_eq_true rfl) dX5_weightedMean_1 ⟨Nat.le_of_ble_eq_true rfl, Nat.le_of_ble_eq_true rfl⟩ (st1 := [.long (c_s64 (c 8) nh)]) rfl ?_
  refine lv_lstore_n (lv' := [(1, .long (c_s64 (c 8) nh)), (0, .ref (ad 0))]) hx hb dX5_weightedMean_4 rfl hl (by decide) rfl (fun ls hl => ?_)
  refine lv_lload_n hx hb dX5_weightedMean_5 rfl (lv_at hl 0 rfl) ?_
  refine lv_lconst (v := 0) hx hb dX5_weightedMean_6 (by decide) ?_
  refine W.lcmp hx hb dX5_weightedMean_7 ?_
  refine lv_if_ne (tgt := 21) hx hb dX5_weightedMean_8 (by decide) (fun b8 => ?_) (fun b8 => ?_)
  · skip
    refine lv_aload_n hx hb dX5_weightedMean_21 rfl (lv_at hl 1 rfl) ?_
    refine cR S (cc_wsum l dg cA ad nh ni c hn hn24) kX5_252 ⟨rfl, rfl, Nat.le_of_ble_eq_true rfl, Nat.le_of_ble_eq_true rfl⟩ hK hP 0 cl_0 (q := (RX5, TX5, 9)) rfl rfl (As := []) rfl hl.1 (rest := []) rfl (Nat.le_of_ble_eq_true rfl) dX5_weightedMean_22 ⟨Nat.le_of_ble_eq_true rfl, Nat.le_of_ble_eq_true rfl⟩ (st1 := [.long (c_w64 (c 5) (c 6) (c 8) nh)]) rfl ?_
    refine lv_l2d hx hb dX5_weightedMean_25 ?_
    refine lv_lload_n hx hb dX5_weightedMean_26 rfl (lv_at hl 0 rfl) ?_
    refine lv_l2d hx hb dX5_weightedMean_27 ?_
    refine lv_ddiv hx hb dX5_weightedMean_28 hnan ?_
    exact eMd S hr hlk hP hD hS dX5_weightedMean_29 rfl rfl
  · skip
    exact absurd b8 hz

set_option maxHeartbeats 4000000 in
set_option maxRecDepth 100000 in
theorem cc_rate (l : Launch) (dg : va_G) (cA : Nat → ClassId) (ad : Nat → Nat) (nh ni : Nat) (c : St) (hn : c 0 4 = nI nh) (hn24 : nh ≤ 24) (hz : ¬ nI (ct (fun h => decide (¬ c 21 h = 117) && decide (¬ c 21 h = 101)) nh) = 0) (hnan : vf_n32 (FP.fdiv (FP.i2f (nI (ct (fun h => decide (c 21 h = 97)) nh))) (FP.i2f (nI (ct (fun h => decide (¬ c 21 h = 117) && decide (¬ c 21 h = 101)) nh))))) (sz : Nat) : MetM l dg cA yX5_rate cX5_rate 5 (some .float) ({ frames := 0, cells := 0, slots := 0, locals := 0 } : Room) 0 0 (cw cA ad nh ni c) sz [.ref (ad 0)] (cw cA ad nh ni c) (some (.float (FP.fdiv (FP.i2f (nI (ct (fun h => decide (c 21 h = 97)) nh))) (FP.i2f (nI (ct (fun h => decide (¬ c 21 h = 117) && decide (¬ c 21 h = 101)) nh)))))) := by
  refine ofM (by decide) (Nat.le_of_ble_eq_true rfl) (own := RX5) rfl (fun p e s0 m args below meth ccd ls A hAe S hr hlk hname hargs hK hP hD hS hA hsz hl => ?_)
  have hx := S.1
  have hb := S.2.1
  have hl : lv_has ls 5 [(0, .ref (ad 0))] := hl
  refine lv_iconst (v := 0) hx hb dX5_rate_0 (by decide) ?_
  refine lv_istore_n (lv' := [(1, .int 0), (0, .ref (ad 0))]) hx hb dX5_rate_1 rfl hl (by decide) rfl (fun ls hl => ?_)
  refine lv_iconst (v := 0) hx hb dX5_rate_2 (by decide) ?_
  refine lv_istore_n (lv' := [(2, .int 0), (1, .int 0), (0, .ref (ad 0))]) hx hb dX5_rate_3 rfl hl (by decide) rfl (fun ls hl => ?_)
  refine lv_iconst (v := 0) hx hb dX5_rate_4 (by decide) ?_
  refine lv_istore_n (lv' := [(3, .int 0), (2, .int 0), (1, .int 0), (0, .ref (ad 0))]) hx hb dX5_rate_5 rfl hl (by decide) rfl (fun ls hl => ?_)
  have hL6 : ∀ (f : Nat) (j : Nat), nh - j < f → (j ≤ nh) → ∀ ls, lv_has ls 5 [(0, .ref (ad 0)), (1, .int (nI (ct (fun h => decide (c 21 h = 97)) j))), (2, .int (nI (ct (fun h => decide (¬ c 21 h = 117) && decide (¬ c 21 h = 101)) j))), (3, .int (nI j))] → ∀ (H : Heap) (locs : List Loc), PP dg (cw cA ad nh ni c) H → va_D A (cw cA ad nh ni c) → va_S A s0.heap H locs → W p l e ({ frames := 0, cells := 0, slots := 0, locals := 0 } : Room) s0 m args below meth ccd H locs 0 0 (MQ below (QcM dg (cw cA ad nh ni c) (some (.float (FP.fdiv (FP.i2f (nI (ct (fun h => decide (c 21 h = 97)) nh))) (FP.i2f (nI (ct (fun h => decide (¬ c 21 h = 117) && decide (¬ c 21 h = 101)) nh)))))) A) args s0 0 0 A) (F0 m 6 ls []) := by
    intro f
    induction f with
    | zero => intro j hm; exact absurd hm (Nat.not_lt_zero _)
    | succ f ih6 =>
      intro j hm6 hj ls hl H locs hP hD hS
      refine lv_iload_n hx hb dX5_rate_6 rfl (lv_at hl 3 rfl) ?_
      refine lv_aload_n hx hb dX5_rate_7 rfl (lv_at hl 0 rfl) ?_
      refine gf S hK hP 0 cl_0 fX5_10 (v := .ref (ad 1)) cfb_0 dX5_rate_8 ?_
      refine gf S hK hP 1 cl_1 fX5_81 (v := .int (nI nh)) (cfr_5 hn) dX5_rate_11 ?_
      refine lv_icmp_ge (tgt := 61) hx hb dX5_rate_14 (by decide) (fun b14 => ?_) (fun b14 => ?_)
      · skip
        have g14 : nh ≤ j := (nI_leI (a := nh) (b := j) (by omega) (by omega)).mp b14
        have ej : j = nh := by omega
        rw [ej] at hl
        refine lv_iload_n hx hb dX5_rate_61 rfl (lv_at hl 2 rfl) ?_
        refine lv_if_ne (tgt := 75) hx hb dX5_rate_62 (by decide) (fun b62 => ?_) (fun b62 => ?_)
        · skip
          refine lv_iload_n hx hb dX5_rate_75 rfl (lv_at hl 1 rfl) ?_
          refine lv_i2f hx hb dX5_rate_76 ?_
          refine lv_iload_n hx hb dX5_rate_77 rfl (lv_at hl 2 rfl) ?_
          refine lv_i2f hx hb dX5_rate_78 ?_
          refine lv_fdiv hx hb dX5_rate_79 hnan ?_
          exact eMf S hr hlk hP hD hS dX5_rate_80 rfl rfl
        · skip
          exact absurd b62 hz
      · skip
        have g14 : ¬ nh ≤ j := fun zz => b14 ((nI_leI (a := nh) (b := j) (by omega) (by omega)).mpr zz)
        refine lv_aload_n hx hb dX5_rate_17 rfl (lv_at hl 0 rfl) ?_
        refine gf S hK hP 0 cl_0 fX5_18 (v := .ref (ad 6)) cfb_1 dX5_rate_18 ?_
        refine lv_iload_n hx hb dX5_rate_21 rfl (lv_at hl 3 rfl) ?_
        refine qld S hK hP 6 2 cl_6 (C := RX2) rfl (j := j) (b := ad (30 + j)) (by omega) (Nat.le_of_ble_eq_true rfl) (chs_at (by omega)) dX5_rate_22 ?_
        refine gf S hK hP (22 + j) (cl_h (by omega)) fX5_182 (v := .int (c 21 j)) (ch_1 rfl) dX5_rate_23 ?_
        refine lv_istore (lv' := [(4, .int (c 21 j)), (0, .ref (ad 0)), (1, .int (nI (ct (fun h => decide (c 21 h = 97)) j))), (2, .int (nI (ct (fun h => decide (¬ c 21 h = 117) && decide (¬ c 21 h = 101)) j))), (3, .int (nI j))]) hx hb dX5_rate_26 hl (by decide) rfl (fun ls hl => ?_)
        refine lv_iload hx hb dX5_rate_28 (lv_at hl 0 rfl) ?_
        refine lv_bipush (v := 97) hx hb dX5_rate_30 (by decide) ?_
        refine lv_icmp_ne (tgt := 38) hx hb dX5_rate_32 (by decide) (fun b32 => ?_) (fun b32 => ?_)
        · skip
          refine lv_iload hx hb dX5_rate_38 (lv_at hl 0 rfl) ?_
          refine lv_bipush (v := 117) hx hb dX5_rate_40 (by decide) ?_
          refine lv_icmp_eq (tgt := 55) hx hb dX5_rate_42 (by decide) (fun b42 => ?_) (fun b42 => ?_)
          · skip
            refine lv_iinc (v := nI (j + 1)) (lv' := [(3, .int (nI (j + 1))), (4, .int (c 21 j)), (0, .ref (ad 0)), (1, .int (nI (ct (fun h => decide (c 21 h = 97)) j))), (2, .int (nI (ct (fun h => decide (¬ c 21 h = 117) && decide (¬ c 21 h = 101)) j)))]) hx hb dX5_rate_55 hl (k := 4) rfl (nI_1 j) (by decide) rfl (fun ls hl => ?_)
            refine lv_goto (tgt := 6) hx hb dX5_rate_58 (by decide) ?_
            exact ih6 (j + 1) (by omega) (by omega) ls (lv_cast (lv_sub (l' := [(0, .ref (ad 0)), (1, .int (nI (ct (fun h => decide (c 21 h = 97)) j))), (2, .int (nI (ct (fun h => decide (¬ c 21 h = 117) && decide (¬ c 21 h = 101)) j))), (3, .int (nI (j + 1)))]) hl [2, 3, 4, 0] rfl) (by simp [ct, nI_1, b32, b42])) _ _ hP hD hS
          · skip
            refine lv_iload hx hb dX5_rate_45 (lv_at hl 0 rfl) ?_
            refine lv_bipush (v := 101) hx hb dX5_rate_47 (by decide) ?_
            refine lv_icmp_eq (tgt := 55) hx hb dX5_rate_49 (by decide) (fun b49 => ?_) (fun b49 => ?_)
            · skip
              refine lv_iinc (v := nI (j + 1)) (lv' := [(3, .int (nI (j + 1))), (4, .int (c 21 j)), (0, .ref (ad 0)), (1, .int (nI (ct (fun h => decide (c 21 h = 97)) j))), (2, .int (nI (ct (fun h => decide (¬ c 21 h = 117) && decide (¬ c 21 h = 101)) j)))]) hx hb dX5_rate_55 hl (k := 4) rfl (nI_1 j) (by decide) rfl (fun ls hl => ?_)
              refine lv_goto (tgt := 6) hx hb dX5_rate_58 (by decide) ?_
              exact ih6 (j + 1) (by omega) (by omega) ls (lv_cast (lv_sub (l' := [(0, .ref (ad 0)), (1, .int (nI (ct (fun h => decide (c 21 h = 97)) j))), (2, .int (nI (ct (fun h => decide (¬ c 21 h = 117) && decide (¬ c 21 h = 101)) j))), (3, .int (nI (j + 1)))]) hl [2, 3, 4, 0] rfl) (by simp [ct, nI_1, b32, b42, b49])) _ _ hP hD hS
            · skip
              refine lv_iinc (v := nI (ct (fun h => decide (¬ c 21 h = 117) && decide (¬ c 21 h = 101)) j + 1)) (lv' := [(2, .int (nI (ct (fun h => decide (¬ c 21 h = 117) && decide (¬ c 21 h = 101)) j + 1))), (4, .int (c 21 j)), (0, .ref (ad 0)), (1, .int (nI (ct (fun h => decide (c 21 h = 97)) j))), (3, .int (nI j))]) hx hb dX5_rate_52 hl (k := 3) rfl (nI_1 (ct (fun h => decide (¬ c 21 h = 117) && decide (¬ c 21 h = 101)) j)) (by decide) rfl (fun ls hl => ?_)
              refine lv_iinc (v := nI (j + 1)) (lv' := [(3, .int (nI (j + 1))), (2, .int (nI (ct (fun h => decide (¬ c 21 h = 117) && decide (¬ c 21 h = 101)) j + 1))), (4, .int (c 21 j)), (0, .ref (ad 0)), (1, .int (nI (ct (fun h => decide (c 21 h = 97)) j)))]) hx hb dX5_rate_55 hl (k := 4) rfl (nI_1 j) (by decide) rfl (fun ls hl => ?_)
              refine lv_goto (tgt := 6) hx hb dX5_rate_58 (by decide) ?_
              exact ih6 (j + 1) (by omega) (by omega) ls (lv_cast (lv_sub (l' := [(0, .ref (ad 0)), (1, .int (nI (ct (fun h => decide (c 21 h = 97)) j))), (2, .int (nI (ct (fun h => decide (¬ c 21 h = 117) && decide (¬ c 21 h = 101)) j + 1))), (3, .int (nI (j + 1)))]) hl [3, 4, 1, 0] rfl) (by simp [ct, nI_1, b32, b42, b49])) _ _ hP hD hS
        · skip
          refine lv_iinc (v := nI (ct (fun h => decide (c 21 h = 97)) j + 1)) (lv' := [(1, .int (nI (ct (fun h => decide (c 21 h = 97)) j + 1))), (4, .int (c 21 j)), (0, .ref (ad 0)), (2, .int (nI (ct (fun h => decide (¬ c 21 h = 117) && decide (¬ c 21 h = 101)) j))), (3, .int (nI j))]) hx hb dX5_rate_35 hl (k := 2) rfl (nI_1 (ct (fun h => decide (c 21 h = 97)) j)) (by decide) rfl (fun ls hl => ?_)
          refine lv_iload hx hb dX5_rate_38 (lv_at hl 1 rfl) ?_
          refine lv_bipush (v := 117) hx hb dX5_rate_40 (by decide) ?_
          refine lv_icmp_eq (tgt := 55) hx hb dX5_rate_42 (by decide) (fun b42 => ?_) (fun b42 => ?_)
          · skip
            exact absurd (b32.symm.trans b42) (by decide)
          · skip
            refine lv_iload hx hb dX5_rate_45 (lv_at hl 1 rfl) ?_
            refine lv_bipush (v := 101) hx hb dX5_rate_47 (by decide) ?_
            refine lv_icmp_eq (tgt := 55) hx hb dX5_rate_49 (by decide) (fun b49 => ?_) (fun b49 => ?_)
            · skip
              exact absurd (b32.symm.trans b49) (by decide)
            · skip
              refine lv_iinc (v := nI (ct (fun h => decide (¬ c 21 h = 117) && decide (¬ c 21 h = 101)) j + 1)) (lv' := [(2, .int (nI (ct (fun h => decide (¬ c 21 h = 117) && decide (¬ c 21 h = 101)) j + 1))), (1, .int (nI (ct (fun h => decide (c 21 h = 97)) j + 1))), (4, .int (c 21 j)), (0, .ref (ad 0)), (3, .int (nI j))]) hx hb dX5_rate_52 hl (k := 3) rfl (nI_1 (ct (fun h => decide (¬ c 21 h = 117) && decide (¬ c 21 h = 101)) j)) (by decide) rfl (fun ls hl => ?_)
              refine lv_iinc (v := nI (j + 1)) (lv' := [(3, .int (nI (j + 1))), (2, .int (nI (ct (fun h => decide (¬ c 21 h = 117) && decide (¬ c 21 h = 101)) j + 1))), (1, .int (nI (ct (fun h => decide (c 21 h = 97)) j + 1))), (4, .int (c 21 j)), (0, .ref (ad 0))]) hx hb dX5_rate_55 hl (k := 4) rfl (nI_1 j) (by decide) rfl (fun ls hl => ?_)
              refine lv_goto (tgt := 6) hx hb dX5_rate_58 (by decide) ?_
              exact ih6 (j + 1) (by omega) (by omega) ls (lv_cast (lv_sub (l' := [(0, .ref (ad 0)), (1, .int (nI (ct (fun h => decide (c 21 h = 97)) j + 1))), (2, .int (nI (ct (fun h => decide (¬ c 21 h = 117) && decide (¬ c 21 h = 101)) j + 1))), (3, .int (nI (j + 1)))]) hl [4, 2, 1, 0] rfl) (by simp [ct, nI_1, b32, b42, b49])) _ _ hP hD hS
  exact hL6 _ 0 (Nat.lt_succ_self _) (Nat.zero_le _) ls (lv_cast (lv_sub (l' := [(0, .ref (ad 0)), (1, .int 0), (2, .int 0), (3, .int 0)]) hl [3, 2, 1, 0] rfl) (by rfl)) _ _ hP hD hS

set_option maxHeartbeats 4000000 in
set_option maxRecDepth 100000 in
theorem cc_isSound (l : Launch) (dg : va_G) (cA : Nat → ClassId) (ad : Nat → Nat) (nh ni : Nat) (c : St) (hn : c 0 4 = nI nh) (hn24 : nh ≤ 24) (ns : Nat) (hns : c 0 3 = nI ns) (hns4 : ns ≤ 4) (E : Nat → Ev) (n : Nat) (h5 : c 0 5 = nI n) (hn512 : n ≤ 512) (hE : ∀ k, k < n → e_ok (E k)) (h15 : ∀ k, k < n → c 15 k = e_w (E k)) (htk : tk_ok 10 c) (hm1 : ∀ q, q < ns → 0 < ct (tmem (c 5) (c 1) (nI q)) nh → fs_sum (tmem (c 5) (c 1) (nI q)) (c 8) nh = c 3 q) (hm2 : ∀ j, j < nh → ¬ c 5 j = 0 → c 8 j = c_wa c E n nh 13 j) (sz : Nat) : MetM l dg cA yX5_isSound cX5_isSound 1 (some .boolean) ({ frames := 6, cells := 0, slots := 0, locals := 146 } : Room) 0 0 (cw cA ad nh ni c) sz [.ref (ad 0)] (cw cA ad nh ni (c_wa c E n nh)) (some (.int 1)) := by
  refine ofM (by decide) (Nat.le_of_ble_eq_true rfl) (own := RX5) rfl (fun p e s0 m args below meth ccd ls A hAe S hr hlk hname hargs hK hP hD hS hA hsz hl => ?_)
  have hx := S.1
  have hb := S.2.1
  have hl : lv_has ls 1 [(0, .ref (ad 0))] := hl
  refine lv_aload_n hx hb dX5_isSound_0 rfl (lv_at hl 0 rfl) ?_
  refine cM S (cc_wa l dg cA ad nh ni c hn hn24 E n h5 hn512 hE h15 htk _) kX5_236 ⟨rfl, rfl, Nat.le_of_ble_eq_true rfl, Nat.le_of_ble_eq_true rfl⟩ hK hP hD hS hA 0 cl_0 (q := (RX5, TX5, 9)) rfl rfl (As := []) rfl hl.1 (rest := []) rfl (Nat.le_of_ble_eq_true rfl) dX5_isSound_1 ⟨Nat.le_of_ble_eq_true rfl, Nat.le_of_ble_eq_true rfl⟩ (st1 := []) rfl (fun H locs hP hD hS => ?_)
  refine lv_aload_n hx hb dX5_isSound_4 rfl (lv_at hl 0 rfl) ?_
  refine gf S hK hP 0 cl_0 fX5_31 (v := .ref (ad 8)) cfb_3 dX5_isSound_5 ?_
  refine lv_aload_n hx hb dX5_isSound_8 rfl (lv_at hl 0 rfl) ?_
  refine gf S hK hP 0 cl_0 fX5_10 (v := .ref (ad 1)) cfb_0 dX5_isSound_9 ?_
  refine cR S (cc_meets l dg cA ad nh ni (c_wa c E n nh) (by rw [c_wa_row (by omega)]; exact hn) hn24 ns (by rw [c_wa_row (by omega)]; exact hns) hns4 (by rw [c_wa_row (by omega), c_wa_row (by omega), c_wa_row (by omega), c_wa_row (by omega)]; exact hm1)) kX5_257 ⟨rfl, rfl, Nat.le_of_ble_eq_true rfl, Nat.le_of_ble_eq_true rfl⟩ hK hP 8 cl_8 (q := (RX4, TX4, 5)) rfl rfl (As := [.ref (ad 1)]) rfl hl.1 (rest := []) rfl (Nat.le_of_ble_eq_true rfl) dX5_isSound_12 ⟨Nat.le_of_ble_eq_true rfl, Nat.le_of_ble_eq_true rfl⟩ (st1 := [.int 1]) rfl ?_
  refine lv_if_eq (tgt := 43) hx hb dX5_isSound_15 (by decide) (fun b15 => ?_) (fun b15 => ?_)
  · skip
    exact False.elim (by revert b15; decide)
  · skip
    refine lv_aload_n hx hb dX5_isSound_18 rfl (lv_at hl 0 rfl) ?_
    refine gf S hK hP 0 cl_0 fX5_31 (v := .ref (ad 8)) cfb_3 dX5_isSound_19 ?_
    refine lv_aload_n hx hb dX5_isSound_22 rfl (lv_at hl 0 rfl) ?_
    refine gf S hK hP 0 cl_0 fX5_35 (v := .ref (ad 14)) cfb_4 dX5_isSound_23 ?_
    refine lv_aload_n hx hb dX5_isSound_26 rfl (lv_at hl 0 rfl) ?_
    refine gf S hK hP 0 cl_0 fX5_10 (v := .ref (ad 1)) cfb_0 dX5_isSound_27 ?_
    refine gf S hK hP 1 cl_1 fX5_81 (v := .int (nI nh)) (cfr_5 (show c_wa c E n nh 0 4 = nI nh by rw [c_wa_row (by omega)]; exact hn)) dX5_isSound_30 ?_
    refine cR S (cc_hasW l dg cA ad nh ni (c_wa c E n nh) nh hn24 (by rw [show c_wa c E n nh 5 = c 5 from c_wa_row (by omega), show c_wa c E n nh 8 = c 8 from c_wa_row (by omega)]; exact hm2)) kX5_261 ⟨rfl, rfl, Nat.le_of_ble_eq_true rfl, Nat.le_of_ble_eq_true rfl⟩ hK hP 8 cl_8 (q := (RX4, TX4, 5)) rfl rfl (As := [.ref (ad 14), .int (nI nh)]) rfl hl.1 (rest := []) rfl (Nat.le_of_ble_eq_true rfl) dX5_isSound_33 ⟨Nat.le_of_ble_eq_true rfl, Nat.le_of_ble_eq_true rfl⟩ (st1 := [.int 1]) rfl ?_
    refine lv_if_eq (tgt := 43) hx hb dX5_isSound_36 (by decide) (fun b36 => ?_) (fun b36 => ?_)
    · skip
      exact absurd b36 b15
    · skip
      refine lv_iconst (v := 1) hx hb dX5_isSound_39 (by decide) ?_
      refine lv_goto (tgt := 44) hx hb dX5_isSound_40 (by decide) ?_
      exact eMz S hr hlk hP hD hS dX5_isSound_44 rfl rfl rfl
