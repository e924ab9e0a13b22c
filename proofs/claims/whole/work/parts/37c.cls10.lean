set_option maxHeartbeats 4000000 in
set_option maxRecDepth 100000 in
theorem cc_addHouse (l : Launch) (dg : va_G) (cA : Nat → ClassId) (ad : Nat → Nat) (nh ni : Nat) (c : St) (hn : c 0 4 = nI nh) (hn24 : nh ≤ 24) (ns : Nat) (hns : c 0 3 = nI ns) (hns4 : ns ≤ 4) (js : Nat) (hjs : js < ns) (pl : Nat) (hp : pl < 100) (g3 : Nat) (hg3 : g3 < 3) (h24 : nh < 24) (sz : Nat) : MetN l dg cA yX5_addHouse cX5_addHouse 5 (some .int) ({ frames := 2, cells := 1, slots := 11, locals := 37 } : Room) 1 11 (cw cA ad nh ni c) sz [.ref (ad 0), .int (nI js), .int (nI pl), .int (nI g3)] (fun u => cw cA u (nh + 1) ni (up (up (up (c_nh c nh (nI pl)) 1 nh (nI js)) 2 nh (nI g3)) 0 4 (nI (nh + 1)))) (some (.int (nI nh))) := by
  refine ofN (by decide) (Nat.le_of_ble_eq_true rfl) (own := RX5) rfl (fun p e s0 m args below meth ccd ls A hAe S hr hlk hname hargs hK hP hD hS hA hsz hl => ?_)
  have hx := S.1
  have hb := S.2.1
  have hl : lv_has ls 5 [(0, .ref (ad 0)), (1, .int (nI js)), (2, .int (nI pl)), (3, .int (nI g3))] := hl
  refine lv_aload_n hx hb dX5_addHouse_0 rfl (lv_at hl 0 rfl) ?_
  refine lv_iload_n hx hb dX5_addHouse_1 rfl (lv_at hl 1 rfl) ?_
  refine cR S (cc_rS l dg cA ad nh ni c ns hns hns4 js hjs) kX5_71 ⟨rfl, rfl, Nat.le_of_ble_eq_true rfl, Nat.le_of_ble_eq_true rfl⟩ hK hP 0 cl_0 (q := (RX5, TX5, 9)) rfl rfl (As := [.int (nI js)]) rfl hl.1 (rest := []) rfl (Nat.le_of_ble_eq_true rfl) dX5_addHouse_2 ⟨Nat.le_of_ble_eq_true rfl, Nat.le_of_ble_eq_true rfl⟩ (st1 := []) rfl ?_
  refine lv_aload_n hx hb dX5_addHouse_5 rfl (lv_at hl 0 rfl) ?_
  refine lv_iload_n hx hb dX5_addHouse_6 rfl (lv_at hl 2 rfl) ?_
  refine cR S (cc_rP l dg cA ad nh ni c (nI pl) (p99 hp).1 (p99 hp).2) kX5_75 ⟨rfl, rfl, Nat.le_of_ble_eq_true rfl, Nat.le_of_ble_eq_true rfl⟩ hK hP 0 cl_0 (q := (RX5, TX5, 9)) rfl rfl (As := [.int (nI pl)]) rfl hl.1 (rest := []) rfl (Nat.le_of_ble_eq_true rfl) dX5_addHouse_7 ⟨Nat.le_of_ble_eq_true rfl, Nat.le_of_ble_eq_true rfl⟩ (st1 := []) rfl ?_
  refine lv_aload_n hx hb dX5_addHouse_10 rfl (lv_at hl 0 rfl) ?_
  refine lv_iload_n hx hb dX5_addHouse_11 rfl (lv_at hl 3 rfl) ?_
  refine cR S (cc_rL l dg cA ad nh ni c (nI g3) (l3 hg3).1 (l3 hg3).2) kX5_78 ⟨rfl, rfl, Nat.le_of_ble_eq_true rfl, Nat.le_of_ble_eq_true rfl⟩ hK hP 0 cl_0 (q := (RX5, TX5, 9)) rfl rfl (As := [.int (nI g3)]) rfl hl.1 (rest := []) rfl (Nat.le_of_ble_eq_true rfl) dX5_addHouse_12 ⟨Nat.le_of_ble_eq_true rfl, Nat.le_of_ble_eq_true rfl⟩ (st1 := []) rfl ?_
  refine lv_aload_n hx hb dX5_addHouse_15 rfl (lv_at hl 0 rfl) ?_
  refine gf S hK hP 0 cl_0 fX5_10 (v := .ref (ad 1)) cfb_0 dX5_addHouse_16 ?_
  refine gf S hK hP 1 cl_1 fX5_81 (v := .int (nI nh)) (cfr_5 hn) dX5_addHouse_19 ?_
  refine lv_bipush (v := 24) hx hb dX5_addHouse_22 (by decide) ?_
  refine lv_icmp_lt (tgt := 37) hx hb dX5_addHouse_24 (by decide) (fun b24 => ?_) (fun b24 => ?_)
  · skip
    have g24 : nh < 24 := (nI_ltI (a := nh) (b := 24) (by omega) (by omega)).mp b24
    refine lv_aload_n hx hb dX5_addHouse_37 rfl (lv_at hl 0 rfl) ?_
    refine gf S hK hP 0 cl_0 fX5_10 (v := .ref (ad 1)) cfb_0 dX5_addHouse_38 ?_
    refine gf S hK hP 1 cl_1 fX5_81 (v := .int (nI nh)) (cfr_5 hn) dX5_addHouse_41 ?_
    refine lv_istore (lv' := [(4, .int (nI nh)), (0, .ref (ad 0)), (1, .int (nI js)), (2, .int (nI pl)), (3, .int (nI g3))]) hx hb dX5_addHouse_44 hl (by decide) rfl (fun ls hl => ?_)
    refine lv_aload_n hx hb dX5_addHouse_46 rfl (lv_at hl 1 rfl) ?_
    refine gf S hK hP 0 cl_0 fX5_18 (v := .ref (ad 6)) cfb_1 dX5_addHouse_47 ?_
    refine lv_iload hx hb dX5_addHouse_50 (lv_at hl 0 rfl) ?_
    refine nwO (ci := 2) (fs := [.int 0, .int 0, .int 0, .int 0, .int 0, .int 0, .int 0, .int 0, .int 0, .int 0, .int 0]) S hK hP hD hS hA rfl fpX2 uX2 ⟨gW_mem 105 (by decide +kernel) (by decide +kernel), gW_mem 421 (by decide +kernel) (by decide +kernel), gW_mem 55 (by decide +kernel) (by decide +kernel)⟩ (fun j hj => by rcases j with _ | _ | _ | _ | _ | _ | _ | _ | _ | _ | _ | j <;> first | rfl | omega) (Nat.le_of_ble_eq_true rfl) (Nat.le_of_ble_eq_true rfl) dX5_addHouse_52 (fun q H hP hD hS => ?_)
    refine lv_dup hx hb dX5_addHouse_55 rfl ?_
    refine lv_iload_n hx hb dX5_addHouse_56 rfl (lv_at hl 3 rfl) ?_
    refine cNI S (ci_ho l dg cA _ (cw cA ad nh ni c).length q (nI pl) gl_last _) kX5_85 ⟨rfl, rfl, Nat.le_of_ble_eq_true rfl, Nat.le_of_ble_eq_true rfl⟩ hK hP hD hS hA (As := [.int (nI pl)]) rfl hl.1 (rest := [.ref q, .int (nI nh), .ref (ad 6)]) rfl (Nat.le_of_ble_eq_true rfl) dX5_addHouse_57 ⟨Nat.le_of_ble_eq_true rfl, Nat.le_of_ble_eq_true rfl⟩ (fun u H locs hP hD hS => ?_)
    rw [ow_last] at hP hD
    have h6 : (cw cA ad nh ni c ++ [hcell q (nI pl)])[6]? = some (ad 6, .inl (cA 2, 24, .inr (.inr (.inr (.inr (chs ad nh)))))) := rfl
    refine va_astq S.1 S.2.1 hK hP hD hS 6 2 (cw cA ad nh ni c).length 2 h6 (r := (RX2, TX2, 11)) rfl gl_last rfl (vp_in_nI h24 (by omega)) dX5_addHouse_60 (fun H locs hP hD hS => ?_)
    rw [nI_clamp (by omega)] at hP hD
    have hP := pPP (cw_addH h24) hP
    have hD := pD (cw_addH h24) hD
    refine W.widen (k := 1) (n := 11) (Nat.le_of_ble_eq_true rfl) (Nat.le_of_ble_eq_true rfl) ?_
    have e0 : adH ad (30 + nh) q 0 = ad 0 := adH_off (by omega)
    obtain ⟨ad2, had2⟩ : ∃ z, z = adH ad (30 + nh) q := ⟨_, rfl⟩
    rw [← had2] at hP hD e0
    rw [← e0] at hl
    clear had2
    obtain ⟨n0, hn0⟩ : ∃ z, z = nh := ⟨_, rfl⟩
    refine lv_aload_n hx hb dX5_addHouse_61 rfl (lv_at hl 1 rfl) ?_
    refine gf S hK hP 0 cl_0 fX5_10 (v := .ref (ad2 1)) cfb_0 dX5_addHouse_62 ?_
    refine gf S hK hP 1 cl_1 fX5_87 (v := .ref (ad2 2)) cfr_0 dX5_addHouse_65 ?_
    refine lv_iload hx hb dX5_addHouse_68 (lv_at hl 0 rfl) ?_
    refine lv_iload_n hx hb dX5_addHouse_70 rfl (lv_at hl 2 rfl) ?_
    refine ist S hK hP hD hS 2 cl_2 (j := nh) (x := nI js) (by omega) (Nat.le_of_ble_eq_true rfl) cs_2 dX5_addHouse_71 (fun H locs hP hD hS => ?_)
    refine lv_aload_n hx hb dX5_addHouse_72 rfl (lv_at hl 1 rfl) ?_
    refine gf S hK hP 0 cl_0 fX5_10 (v := .ref (ad2 1)) cfb_0 dX5_addHouse_73 ?_
    refine gf S hK hP 1 cl_1 fX5_91 (v := .ref (ad2 3)) cfr_1 dX5_addHouse_76 ?_
    refine lv_iload hx hb dX5_addHouse_79 (lv_at hl 0 rfl) ?_
    refine lv_iload_n hx hb dX5_addHouse_81 rfl (lv_at hl 4 rfl) ?_
    refine ist S hK hP hD hS 3 cl_3 (j := nh) (x := nI g3) (by omega) (Nat.le_of_ble_eq_true rfl) cs_3 dX5_addHouse_82 (fun H locs hP hD hS => ?_)
    refine lv_aload_n hx hb dX5_addHouse_83 rfl (lv_at hl 1 rfl) ?_
    refine gf S hK hP 0 cl_0 fX5_10 (v := .ref (ad2 1)) cfb_0 dX5_addHouse_84 ?_
    refine lv_dup hx hb dX5_addHouse_87 rfl ?_
    refine gf S hK hP 1 cl_1 fX5_81 (v := .int (nI nh)) (cfr_5 (show c_nh c nh (nI pl) 0 4 = nI nh by rw [c_nh_lo (by omega)]; exact hn)) dX5_addHouse_88 ?_
    refine lv_iconst (v := 1) hx hb dX5_addHouse_91 (by decide) ?_
    refine lv_iadd hx hb dX5_addHouse_92 ?_
    refine lv_as (y := nI (nh + 1)) (nI_1 nh) ?_
    refine pf S hK hP hD hS 1 cl_1 fX5_81 fpX0 rfl (v := .int (nI (nh + 1))) rfl rfl (Nat.le_of_ble_eq_true rfl) cs_cfr_5 dX5_addHouse_93 (fun H locs hP hD hS => ?_)
    refine lv_iload hx hb dX5_addHouse_96 (lv_at hl 0 rfl) ?_
    exact eNi S hr hlk ad2 hP hD hS dX5_addHouse_98 rfl rfl
  · skip
    have g24 : ¬ nh < 24 := fun zz => b24 ((nI_ltI (a := nh) (b := 24) (by omega) (by omega)).mpr zz)
    exact absurd h24 g24

set_option maxHeartbeats 4000000 in
set_option maxRecDepth 100000 in
theorem cc_addInt (l : Launch) (dg : va_G) (cA : Nat → ClassId) (ad : Nat → Nat) (nh ni : Nat) (c : St) (hn24 : nh ≤ 24) (hni : c 0 0 = nI ni) (hni4 : ni ≤ 4) (pl : Nat) (hp : pl < 100) (x : Int32) (h71 : ¬ x < 1) (h72 : ¬ 7 < x) (y : Int32) (h61 : ¬ y < 30) (h62 : ¬ 600 < y) (h4 : ni < 4) (sz : Nat) : MetN l dg cA yX5_addInterviewer cX5_addInterviewer 5 (some .int) ({ frames := 2, cells := 2, slots := 31, locals := 39 } : Room) 2 31 (cw cA ad nh ni c) sz [.ref (ad 0), .int (nI pl), .int x, .int y] (fun u => cw cA u nh (ni + 1) (up (c_ni c ni (nI pl) x y) 0 0 (nI (ni + 1)))) (some (.int (nI ni))) := by
  refine ofN (by decide) (Nat.le_of_ble_eq_true rfl) (own := RX5) rfl (fun p e s0 m args below meth ccd ls A hAe S hr hlk hname hargs hK hP hD hS hA hsz hl => ?_)
  have hx := S.1
  have hb := S.2.1
  have hl : lv_has ls 5 [(0, .ref (ad 0)), (1, .int (nI pl)), (2, .int x), (3, .int y)] := hl
  refine lv_aload_n hx hb dX5_addInterviewer_0 rfl (lv_at hl 0 rfl) ?_
  refine lv_iload_n hx hb dX5_addInterviewer_1 rfl (lv_at hl 1 rfl) ?_
  refine cR S (cc_rP l dg cA ad nh ni c (nI pl) (p99 hp).1 (p99 hp).2) kX5_75 ⟨rfl, rfl, Nat.le_of_ble_eq_true rfl, Nat.le_of_ble_eq_true rfl⟩ hK hP 0 cl_0 (q := (RX5, TX5, 9)) rfl rfl (As := [.int (nI pl)]) rfl hl.1 (rest := []) rfl (Nat.le_of_ble_eq_true rfl) dX5_addInterviewer_2 ⟨Nat.le_of_ble_eq_true rfl, Nat.le_of_ble_eq_true rfl⟩ (st1 := []) rfl ?_
  refine lv_iload_n hx hb dX5_addInterviewer_5 rfl (lv_at hl 2 rfl) ?_
  refine lv_iconst (v := 1) hx hb dX5_addInterviewer_6 (by decide) ?_
  refine lv_icmp_lt (tgt := 16) hx hb dX5_addInterviewer_7 (by decide) (fun b7 => ?_) (fun b7 => ?_)
  · skip
    exact absurd b7 h71
  · skip
    refine lv_iload_n hx hb dX5_addInterviewer_10 rfl (lv_at hl 2 rfl) ?_
    refine lv_bipush (v := 7) hx hb dX5_addInterviewer_11 (by decide) ?_
    refine lv_icmp_le (tgt := 26) hx hb dX5_addInterviewer_13 (by decide) (fun b13 => ?_) (fun b13 => ?_)
    · skip
      refine lv_iload_n hx hb dX5_addInterviewer_26 rfl (lv_at hl 3 rfl) ?_
      refine lv_bipush (v := 30) hx hb dX5_addInterviewer_27 (by decide) ?_
      refine lv_icmp_lt (tgt := 39) hx hb dX5_addInterviewer_29 (by decide) (fun b29 => ?_) (fun b29 => ?_)
      · skip
        exact absurd b29 h61
      · skip
        refine lv_iload_n hx hb dX5_addInterviewer_32 rfl (lv_at hl 3 rfl) ?_
        refine lv_sipush (v := 600) hx hb dX5_addInterviewer_33 (by decide) ?_
        refine lv_icmp_le (tgt := 49) hx hb dX5_addInterviewer_36 (by decide) (fun b36 => ?_) (fun b36 => ?_)
        · skip
          refine lv_aload_n hx hb dX5_addInterviewer_49 rfl (lv_at hl 0 rfl) ?_
          refine gf S hK hP 0 cl_0 fX5_45 (v := .int (nI ni)) (cfb_6 hni) dX5_addInterviewer_50 ?_
          refine lv_iconst (v := 4) hx hb dX5_addInterviewer_53 (by decide) ?_
          refine lv_icmp_lt (tgt := 67) hx hb dX5_addInterviewer_54 (by decide) (fun b54 => ?_) (fun b54 => ?_)
          · skip
            have g54 : ni < 4 := (nI_ltI (a := ni) (b := 4) (by omega) (by omega)).mp b54
            refine lv_aload_n hx hb dX5_addInterviewer_67 rfl (lv_at hl 0 rfl) ?_
            refine gf S hK hP 0 cl_0 fX5_45 (v := .int (nI ni)) (cfb_6 hni) dX5_addInterviewer_68 ?_
            refine lv_istore (lv' := [(4, .int (nI ni)), (0, .ref (ad 0)), (1, .int (nI pl)), (2, .int x), (3, .int y)]) hx hb dX5_addInterviewer_71 hl (by decide) rfl (fun ls hl => ?_)
            refine lv_aload_n hx hb dX5_addInterviewer_73 rfl (lv_at hl 1 rfl) ?_
            refine gf S hK hP 0 cl_0 fX5_24 (v := .ref (ad 7)) cfb_2 dX5_addInterviewer_74 ?_
            refine lv_iload hx hb dX5_addInterviewer_77 (lv_at hl 0 rfl) ?_
            refine nwO (ci := 3) (fs := [.int 0, .int 0, .int 0, .null, .int 0, .int 0, .int 0]) S hK hP hD hS hA rfl fpX3 uX3 ⟨gW_mem 107 (by decide +kernel) (by decide +kernel), gW_mem 478 (by decide +kernel) (by decide +kernel), gW_mem 56 (by decide +kernel) (by decide +kernel)⟩ (fun j hj => by rcases j with _ | _ | _ | _ | _ | _ | _ | j <;> first | rfl | omega) (Nat.le_of_ble_eq_true rfl) (Nat.le_of_ble_eq_true rfl) dX5_addInterviewer_79 (fun q H hP hD hS => ?_)
            refine lv_dup hx hb dX5_addInterviewer_82 rfl ?_
            refine lv_iload_n hx hb dX5_addInterviewer_83 rfl (lv_at hl 2 rfl) ?_
            refine lv_iload_n hx hb dX5_addInterviewer_84 rfl (lv_at hl 3 rfl) ?_
            refine lv_iload_n hx hb dX5_addInterviewer_85 rfl (lv_at hl 4 rfl) ?_
            refine cNI S (ci_in l dg cA _ (cw cA ad nh ni c).length q (nI pl) x y gl_last _) kX5_100 ⟨rfl, rfl, Nat.le_of_ble_eq_true rfl, Nat.le_of_ble_eq_true rfl⟩ hK hP hD hS hA (As := [.int (nI pl), .int x, .int y]) rfl hl.1 (rest := [.ref q, .int (nI ni), .ref (ad 7)]) rfl (Nat.le_of_ble_eq_true rfl) dX5_addInterviewer_86 ⟨Nat.le_of_ble_eq_true rfl, Nat.le_of_ble_eq_true rfl⟩ (fun u H locs hP hD hS => ?_)
            rw [ow_last2] at hP hD
            have h7 : (cw cA ad nh ni c ++ [icell q (nI pl) x y (u 0), rcell cA (u 0)])[7]? = some (ad 7, .inl (cA 3, 4, .inr (.inr (.inr (.inr (cis ad ni)))))) := rfl
            refine va_astq S.1 S.2.1 hK hP hD hS 7 3 (cw cA ad nh ni c).length 3 h7 (r := (RX3, TX3, 7)) rfl gl_last2 rfl (vp_in_nI h4 (by omega)) dX5_addInterviewer_89 (fun H locs hP hD hS => ?_)
            rw [nI_clamp (by omega)] at hP hD
            have hP := pPP (cw_addI hn24 h4) hP
            have hD := pD (cw_addI hn24 h4) hD
            refine W.widen (k := 2) (n := 31) (Nat.le_of_ble_eq_true rfl) (Nat.le_of_ble_eq_true rfl) ?_
            have e0 : adI ad ni q (u 0) 0 = ad 0 := adI_off (by omega) (by omega)
            obtain ⟨ad2, had2⟩ : ∃ z, z = adI ad ni q (u 0) := ⟨_, rfl⟩
            rw [← had2] at hP hD e0
            rw [← e0] at hl
            clear had2
            refine lv_aload_n hx hb dX5_addInterviewer_90 rfl (lv_at hl 1 rfl) ?_
            refine lv_dup hx hb dX5_addInterviewer_91 rfl ?_
            refine gf S hK hP 0 cl_0 fX5_45 (v := .int (nI ni)) (cfb_6 (show c_ni c ni (nI pl) x y 0 0 = nI ni by rw [c_ni_lo (by omega)]; exact hni)) dX5_addInterviewer_92 ?_
            refine lv_iconst (v := 1) hx hb dX5_addInterviewer_95 (by decide) ?_
            refine lv_iadd hx hb dX5_addInterviewer_96 ?_
            refine lv_as (y := nI (ni + 1)) (nI_1 ni) ?_
            refine pf S hK hP hD hS 0 cl_0 fX5_45 fpX5 rfl (v := .int (nI (ni + 1))) rfl rfl (Nat.le_of_ble_eq_true rfl) cs_cfb_6 dX5_addInterviewer_97 (fun H locs hP hD hS => ?_)
            refine lv_iload hx hb dX5_addInterviewer_100 (lv_at hl 0 rfl) ?_
            exact eNi S hr hlk ad2 hP hD hS dX5_addInterviewer_102 rfl rfl
          · skip
            have g54 : ¬ ni < 4 := fun zz => b54 ((nI_ltI (a := ni) (b := 4) (by omega) (by omega)).mpr zz)
            exact absurd h4 g54
        · skip
          exact absurd (Int32.not_le.mp b36) h62
    · skip
      exact absurd (Int32.not_le.mp b13) h72
