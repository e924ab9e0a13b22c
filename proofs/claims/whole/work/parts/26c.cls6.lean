set_option maxHeartbeats 4000000 in
set_option maxRecDepth 100000 in
theorem cc_setChance (l : Launch) (dg : va_G) (cA : Nat → ClassId) (ad : Nat → Nat) (nh ni : Nat) (c : St) (x : Int32) (h1 : ¬ x < 0) (h2 : x < 65536) (sz : Nat) : MetM l dg cA yX5_setChance cX5_setChance 3 (some .int) ({ frames := 0, cells := 0, slots := 0, locals := 0 } : Room) 0 0 (cw cA ad nh ni c) sz [.ref (ad 0), .int x] (cw cA ad nh ni (up c 0 1 x)) (some (.int (c 0 1))) := by
  refine ofM (by decide) (Nat.le_of_ble_eq_true rfl) (own := RX5) rfl (fun p e s0 m args below meth ccd ls A hAe S hr hlk hname hargs hK hP hD hS hA hsz hl => ?_)
  have hx := S.1
  have hb := S.2.1
  have hl : lv_has ls 3 [(0, .ref (ad 0)), (1, .int x)] := hl
  refine lv_iload_n hx hb dX5_setChance_0 rfl (lv_at hl 1 rfl) ?_
  refine lv_if_lt (tgt := 10) hx hb dX5_setChance_1 (by decide) (fun b1 => ?_) (fun b1 => ?_)
  · skip
    exact absurd b1 h1
  · skip
    refine lv_iload_n hx hb dX5_setChance_4 rfl (lv_at hl 1 rfl) ?_
    refine lv_ldc (v := 65536) hx hb S.2.2.2.1 (S.2.2.2.2 _ (gW_mem 266 (by decide +kernel) (by decide +kernel))) dX5_setChance_5 ?_
    refine lv_icmp_lt (tgt := 20) hx hb dX5_setChance_7 (by decide) (fun b7 => ?_) (fun b7 => ?_)
    · skip
      refine lv_aload_n hx hb dX5_setChance_20 rfl (lv_at hl 0 rfl) ?_
      refine gf S hK hP 0 cl_0 fX5_49 (v := .int (c 0 1)) (cfb_7 rfl) dX5_setChance_21 ?_
      refine lv_istore_n (lv' := [(2, .int (c 0 1)), (0, .ref (ad 0)), (1, .int x)]) hx hb dX5_setChance_24 rfl hl (by decide) rfl (fun ls hl => ?_)
      refine lv_aload_n hx hb dX5_setChance_25 rfl (lv_at hl 1 rfl) ?_
      refine lv_iload_n hx hb dX5_setChance_26 rfl (lv_at hl 2 rfl) ?_
      refine pf S hK hP hD hS 0 cl_0 fX5_49 fpX5 rfl (v := .int x) rfl rfl (Nat.le_of_ble_eq_true rfl) cs_cfb_7 dX5_setChance_27 (fun H locs hP hD hS => ?_)
      refine lv_iload_n hx hb dX5_setChance_30 rfl (lv_at hl 0 rfl) ?_
      exact eMi S hr hlk hP hD hS dX5_setChance_31 rfl rfl
    · skip
      exact absurd h2 b7

set_option maxHeartbeats 4000000 in
set_option maxRecDepth 100000 in
theorem cc_addStratum (l : Launch) (dg : va_G) (cA : Nat → ClassId) (ad : Nat → Nat) (nh ni : Nat) (c : St) (ns : Nat) (hns : c 0 3 = nI ns) (hns4 : ns ≤ 4) (h4 : ns < 4) (sz : Nat) : MetM l dg cA yX5_addStratum cX5_addStratum 2 (some .int) ({ frames := 0, cells := 0, slots := 0, locals := 0 } : Room) 0 0 (cw cA ad nh ni c) sz [.ref (ad 0)] (cw cA ad nh ni (up c 0 3 (nI (ns + 1)))) (some (.int (nI ns))) := by
  refine ofM (by decide) (Nat.le_of_ble_eq_true rfl) (own := RX5) rfl (fun p e s0 m args below meth ccd ls A hAe S hr hlk hname hargs hK hP hD hS hA hsz hl => ?_)
  have hx := S.1
  have hb := S.2.1
  have hl : lv_has ls 2 [(0, .ref (ad 0))] := hl
  refine lv_aload_n hx hb dX5_addStratum_0 rfl (lv_at hl 0 rfl) ?_
  refine gf S hK hP 0 cl_0 fX5_10 (v := .ref (ad 1)) cfb_0 dX5_addStratum_1 ?_
  refine gf S hK hP 1 cl_1 fX5_63 (v := .int (nI ns)) (cfr_4 hns) dX5_addStratum_4 ?_
  refine lv_iconst (v := 4) hx hb dX5_addStratum_7 (by decide) ?_
  refine lv_icmp_lt (tgt := 21) hx hb dX5_addStratum_8 (by decide) (fun b8 => ?_) (fun b8 => ?_)
  · skip
    have g8 : ns < 4 := (nI_ltI (a := ns) (b := 4) (by omega) (by omega)).mp b8
    refine lv_aload_n hx hb dX5_addStratum_21 rfl (lv_at hl 0 rfl) ?_
    refine gf S hK hP 0 cl_0 fX5_10 (v := .ref (ad 1)) cfb_0 dX5_addStratum_22 ?_
    refine gf S hK hP 1 cl_1 fX5_63 (v := .int (nI ns)) (cfr_4 hns) dX5_addStratum_25 ?_
    refine lv_istore_n (lv' := [(1, .int (nI ns)), (0, .ref (ad 0))]) hx hb dX5_addStratum_28 rfl hl (by decide) rfl (fun ls hl => ?_)
    refine lv_aload_n hx hb dX5_addStratum_29 rfl (lv_at hl 1 rfl) ?_
    refine gf S hK hP 0 cl_0 fX5_10 (v := .ref (ad 1)) cfb_0 dX5_addStratum_30 ?_
    refine lv_dup hx hb dX5_addStratum_33 rfl ?_
    refine gf S hK hP 1 cl_1 fX5_63 (v := .int (nI ns)) (cfr_4 hns) dX5_addStratum_34 ?_
    refine lv_iconst (v := 1) hx hb dX5_addStratum_37 (by decide) ?_
    refine lv_iadd hx hb dX5_addStratum_38 ?_
    refine lv_as (y := nI (ns + 1)) (nI_1 ns) ?_
    refine pf S hK hP hD hS 1 cl_1 fX5_63 fpX0 rfl (v := .int (nI (ns + 1))) rfl rfl (Nat.le_of_ble_eq_true rfl) cs_cfr_4 dX5_addStratum_39 (fun H locs hP hD hS => ?_)
    refine lv_iload_n hx hb dX5_addStratum_42 rfl (lv_at hl 0 rfl) ?_
    exact eMi S hr hlk hP hD hS dX5_addStratum_43 rfl rfl
  · skip
    have g8 : ¬ ns < 4 := fun zz => b8 ((nI_ltI (a := ns) (b := 4) (by omega) (by omega)).mpr zz)
    exact absurd h4 g8

set_option maxHeartbeats 4000000 in
set_option maxRecDepth 100000 in
theorem cc_draw (l : Launch) (dg : va_G) (cA : Nat → ClassId) (ad : Nat → Nat) (nh ni : Nat) (c : St) (hn : c 0 4 = nI nh) (hn24 : nh ≤ 24) (ns : Nat) (hns : c 0 3 = nI ns) (hns4 : ns ≤ 4) (js : Nat) (hjs : js < ns) (hc : ∃ k, k < 65536 ∧ c 0 1 = nI k) (hgr : cg_ok c nh) (mm : Nat) (hm1 : 1 ≤ mm) (hm24 : mm ≤ 24) (hu : mm ≤ c_und c nh (nI js)) (sz : Nat) : MetM l dg cA yX5_draw cX5_draw 5 (some .int) ({ frames := 5, cells := 0, slots := 0, locals := 126 } : Room) 0 0 (cw cA ad nh ni c) sz [.ref (ad 0), .int (nI js), .int (nI mm)] (cw cA ad nh ni (c_fin (c_drw c nh (nI js) mm) nh)) (some (.int (c_lst c nh (nI js) mm))) := by
  refine ofM (by decide) (Nat.le_of_ble_eq_true rfl) (own := RX5) rfl (fun p e s0 m args below meth ccd ls A hAe S hr hlk hname hargs hK hP hD hS hA hsz hl => ?_)
  have hx := S.1
  have hb := S.2.1
  have hl : lv_has ls 5 [(0, .ref (ad 0)), (1, .int (nI js)), (2, .int (nI mm))] := hl
  have hul := ct_le (isU (c 1) (c 21) (nI js)) nh
  change c_und c nh (nI js) ≤ nh at hul
  refine lv_aload_n hx hb dX5_draw_0 rfl (lv_at hl 0 rfl) ?_
  refine lv_iload_n hx hb dX5_draw_1 rfl (lv_at hl 1 rfl) ?_
  refine cR S (cc_rS l dg cA ad nh ni c ns hns hns4 js hjs) kX5_71 ⟨rfl, rfl, Nat.le_of_ble_eq_true rfl, Nat.le_of_ble_eq_true rfl⟩ hK hP 0 cl_0 (q := (RX5, TX5, 9)) rfl rfl (As := [.int (nI js)]) rfl hl.1 (rest := []) rfl (Nat.le_of_ble_eq_true rfl) dX5_draw_2 ⟨Nat.le_of_ble_eq_true rfl, Nat.le_of_ble_eq_true rfl⟩ (st1 := []) rfl ?_
  refine lv_iload_n hx hb dX5_draw_5 rfl (lv_at hl 2 rfl) ?_
  refine lv_iconst (v := 1) hx hb dX5_draw_6 (by decide) ?_
  refine lv_icmp_lt (tgt := 16) hx hb dX5_draw_7 (by decide) (fun b7 => ?_) (fun b7 => ?_)
  · skip
    have g7 : mm < 1 := (nI_ltI (a := mm) (b := 1) (by omega) (by omega)).mp b7
    exact absurd hm1 (by omega)
  · skip
    have g7 : ¬ mm < 1 := fun zz => b7 ((nI_ltI (a := mm) (b := 1) (by omega) (by omega)).mpr zz)
    refine lv_iload_n hx hb dX5_draw_10 rfl (lv_at hl 2 rfl) ?_
    refine lv_bipush (v := 24) hx hb dX5_draw_11 (by decide) ?_
    refine lv_icmp_le (tgt := 26) hx hb dX5_draw_13 (by decide) (fun b13 => ?_) (fun b13 => ?_)
    · skip
      have g13 : mm ≤ 24 := (nI_leI (a := mm) (b := 24) (by omega) (by omega)).mp b13
      refine lv_aload_n hx hb dX5_draw_26 rfl (lv_at hl 0 rfl) ?_
      refine lv_iload_n hx hb dX5_draw_27 rfl (lv_at hl 1 rfl) ?_
      refine cR S (cc_und l dg cA ad nh ni c hn hn24 (nI js)) kX5_105 ⟨rfl, rfl, Nat.le_of_ble_eq_true rfl, Nat.le_of_ble_eq_true rfl⟩ hK hP 0 cl_0 (q := (RX5, TX5, 9)) rfl rfl (As := [.int (nI js)]) rfl hl.1 (rest := []) rfl (Nat.le_of_ble_eq_true rfl) dX5_draw_28 ⟨Nat.le_of_ble_eq_true rfl, Nat.le_of_ble_eq_true rfl⟩ (st1 := [.int (nI (c_und c nh (nI js)))]) rfl ?_
      refine lv_iload_n hx hb dX5_draw_31 rfl (lv_at hl 2 rfl) ?_
      refine lv_icmp_ge (tgt := 45) hx hb dX5_draw_32 (by decide) (fun b32 => ?_) (fun b32 => ?_)
      · skip
        have g32 : mm ≤ c_und c nh (nI js) := (nI_leI (a := mm) (b := c_und c nh (nI js)) (by omega) (by omega)).mp b32
        refine lv_iconst (v := (-1)) hx hb dX5_draw_45 (by decide) ?_
        refine lv_istore_n (lv' := [(3, .int (-1)), (0, .ref (ad 0)), (1, .int (nI js)), (2, .int (nI mm))]) hx hb dX5_draw_46 rfl hl (by decide) rfl (fun ls hl => ?_)
        refine lv_iconst (v := 0) hx hb dX5_draw_47 (by decide) ?_
        refine lv_istore (lv' := [(4, .int 0), (3, .int (-1)), (0, .ref (ad 0)), (1, .int (nI js)), (2, .int (nI mm))]) hx hb dX5_draw_48 hl (by decide) rfl (fun ls hl => ?_)
        have hL50 : ∀ (f : Nat) (k : Nat), mm - k < f → (k ≤ mm) → ∀ ls, lv_has ls 5 [(0, .ref (ad 0)), (1, .int (nI js)), (2, .int (nI mm)), (3, .int (c_lst c nh (nI js) k)), (4, .int (nI k))] → ∀ (H : Heap) (locs : List Loc), PP dg (cw cA ad nh ni (c_drw c nh (nI js) k)) H → va_D A (cw cA ad nh ni (c_drw c nh (nI js) k)) → va_S A s0.heap H locs → W p l e ({ frames := 5, cells := 0, slots := 0, locals := 126 } : Room) s0 m args below meth ccd H locs 0 0 (MQ below (QcM dg (cw cA ad nh ni (c_fin (c_drw c nh (nI js) mm) nh)) (some (.int (c_lst c nh (nI js) mm))) A) args s0 0 0 A) (F0 m 50 ls []) := by
          intro f
          induction f with
          | zero => intro k hm; exact absurd hm (Nat.not_lt_zero _)
          | succ f ih50 =>
            intro k hm50 hk ls hl H locs hP hD hS
            have hqn : c_drw c nh (nI js) k 0 4 = nI nh := (c_drw_sc (by decide) k).trans hn
            have hqc := c_drw_chance (n := nh) (s := nI js) hc k
            have hqk := c_und_drw (s := nI js) hc hn24 k (by omega)
            refine lv_iload hx hb dX5_draw_50 (lv_at hl 4 rfl) ?_
            refine lv_iload_n hx hb dX5_draw_52 rfl (lv_at hl 2 rfl) ?_
            refine lv_icmp_ge (tgt := 76) hx hb dX5_draw_53 (by decide) (fun b53 => ?_) (fun b53 => ?_)
            · skip
              have g53 : mm ≤ k := (nI_leI (a := mm) (b := k) (by omega) (by omega)).mp b53
              have ek : k = mm := by omega
              rw [ek] at hl hP hD
              refine lv_aload_n hx hb dX5_draw_76 rfl (lv_at hl 0 rfl) ?_
              refine gf S hK hP 0 cl_0 fX5_31 (v := .ref (ad 8)) cfb_3 dX5_draw_77 ?_
              refine lv_aload_n hx hb dX5_draw_80 rfl (lv_at hl 0 rfl) ?_
              refine gf S hK hP 0 cl_0 fX5_10 (v := .ref (ad 1)) cfb_0 dX5_draw_81 ?_
              refine cM S (cc_fitTo_k l dg cA ad nh ni (c_drw c nh (nI js) mm) ((c_drw_sc (by decide) mm).trans hn) hn24 _) kX5_117 ⟨rfl, rfl, Nat.le_of_ble_eq_true rfl, Nat.le_of_ble_eq_true rfl⟩ hK hP hD hS hA 8 cl_8 (q := (RX4, TX4, 5)) rfl rfl (As := [.ref (ad 1)]) rfl hl.1 (rest := []) rfl (Nat.le_of_ble_eq_true rfl) dX5_draw_84 ⟨Nat.le_of_ble_eq_true rfl, Nat.le_of_ble_eq_true rfl⟩ (st1 := []) rfl (fun H locs hP hD hS => ?_)
              refine lv_iload_n hx hb dX5_draw_87 rfl (lv_at hl 3 rfl) ?_
              exact eMi S hr hlk hP hD hS dX5_draw_88 rfl rfl
            · skip
              have g53 : ¬ mm ≤ k := fun zz => b53 ((nI_leI (a := mm) (b := k) (by omega) (by omega)).mpr zz)
              have hqu : 0 < c_und (c_drw c nh (nI js) k) nh (nI js) := by omega
              have hqh := c_h_lt hqc hn24 hqu
              have hgq : cg_ok (c_d1 (c_drw c nh (nI js) k) nh (nI js)) nh := cg_cong (by rw [c_d1_row (by decide) (by decide) (by decide), c_drw_row (by decide) (by decide) (by decide) (by decide) (by decide)]) (by rw [c_d1_row (by decide) (by decide) (by decide), c_drw_row (by decide) (by decide) (by decide) (by decide) (by decide)]) hgr
              obtain ⟨⟨z1, hz1, e1⟩, z2, hz2, e2⟩ := hgq _ hqh
              refine lv_aload_n hx hb dX5_draw_56 rfl (lv_at hl 0 rfl) ?_
              refine lv_iload_n hx hb dX5_draw_57 rfl (lv_at hl 1 rfl) ?_
              refine cM S (cc_draw1 l dg cA ad nh ni (c_drw c nh (nI js) k) hqn hn24 (nI js) hqc hqu _) kX5_111 ⟨rfl, rfl, Nat.le_of_ble_eq_true rfl, Nat.le_of_ble_eq_true rfl⟩ hK hP hD hS hA 0 cl_0 (q := (RX5, TX5, 9)) rfl rfl (As := [.int (nI js)]) rfl hl.1 (rest := []) rfl (Nat.le_of_ble_eq_true rfl) dX5_draw_58 ⟨Nat.le_of_ble_eq_true rfl, Nat.le_of_ble_eq_true rfl⟩ (st1 := [.int (nI (c_h (c_drw c nh (nI js) k) nh (nI js)))]) rfl (fun H locs hP hD hS => ?_)
              refine lv_istore_n (lv' := [(3, .int (nI (c_h (c_drw c nh (nI js) k) nh (nI js)))), (0, .ref (ad 0)), (1, .int (nI js)), (2, .int (nI mm)), (4, .int (nI k))]) hx hb dX5_draw_61 rfl hl (by decide) rfl (fun ls hl => ?_)
              refine lv_aload_n hx hb dX5_draw_62 rfl (lv_at hl 1 rfl) ?_
              refine gf S hK hP 0 cl_0 fX5_10 (v := .ref (ad 1)) cfb_0 dX5_draw_63 ?_
              refine lv_iload_n hx hb dX5_draw_66 rfl (lv_at hl 0 rfl) ?_
              refine cM S (cc_raise l dg cA ad nh ni (c_d1 (c_drw c nh (nI js) k) nh (nI js)) (c_h (c_drw c nh (nI js) k) nh (nI js)) hqh ((c_d1_sc (by decide)).trans hqn) hn24 z1 z2 hz1 hz2 e1 e2 _) kX5_114 ⟨rfl, rfl, Nat.le_of_ble_eq_true rfl, Nat.le_of_ble_eq_true rfl⟩ hK hP hD hS hA 1 cl_1 (q := (RX0, TX0, 6)) rfl rfl (As := [.int (nI (c_h (c_drw c nh (nI js) k) nh (nI js)))]) rfl hl.1 (rest := []) rfl (Nat.le_of_ble_eq_true rfl) dX5_draw_67 ⟨Nat.le_of_ble_eq_true rfl, Nat.le_of_ble_eq_true rfl⟩ (st1 := []) rfl (fun H locs hP hD hS => ?_)
              have es := (show c_drw c nh (nI js) (k + 1) = _ by show c_raise _ _ = _; unfold c_raise; rw [e1, e2, iN_nI (by omega), iN_nI (by omega)])
              rw [← es] at hP hD
              refine lv_iinc (v := nI (k + 1)) (lv' := [(4, .int (nI (k + 1))), (3, .int (nI (c_h (c_drw c nh (nI js) k) nh (nI js)))), (0, .ref (ad 0)), (1, .int (nI js)), (2, .int (nI mm))]) hx hb dX5_draw_70 hl (k := 4) rfl (nI_1 k) (by decide) rfl (fun ls hl => ?_)
              refine lv_goto (tgt := 50) hx hb dX5_draw_73 (by decide) ?_
              exact ih50 (k + 1) (by omega) (by omega) ls (lv_cast (lv_sub (l' := [(0, .ref (ad 0)), (1, .int (nI js)), (2, .int (nI mm)), (3, .int (nI (c_h (c_drw c nh (nI js) k) nh (nI js)))), (4, .int (nI (k + 1)))]) hl [2, 3, 4, 1, 0] rfl) (by rfl)) _ _ hP hD hS
        have es : (cw cA ad nh ni c) = (cw cA ad nh ni (c_drw c nh (nI js) 0)) := rfl
        rw [es] at hP hD
        exact hL50 _ 0 (Nat.lt_succ_self _) (Nat.zero_le _) ls (lv_cast (lv_sub (l' := [(0, .ref (ad 0)), (1, .int (nI js)), (2, .int (nI mm)), (3, .int (-1)), (4, .int 0)]) hl [2, 3, 4, 1, 0] rfl) (by rfl)) _ _ hP hD hS
      · skip
        have g32 : ¬ mm ≤ c_und c nh (nI js) := fun zz => b32 ((nI_leI (a := mm) (b := c_und c nh (nI js)) (by omega) (by omega)).mpr zz)
        exact absurd hu (by omega)
    · skip
      have g13 : ¬ mm ≤ 24 := fun zz => b13 ((nI_leI (a := mm) (b := 24) (by omega) (by omega)).mpr zz)
      exact absurd hm24 (by omega)

set_option maxHeartbeats 4000000 in
set_option maxRecDepth 100000 in
theorem cc_day (l : Launch) (dg : va_G) (cA : Nat → ClassId) (ad : Nat → Nat) (nh ni : Nat) (c : St)  : MetR l dg cA yX5_day cX5_day 1 (some .int) ({ frames := 0, cells := 0, slots := 0, locals := 0 } : Room) (cw cA ad nh ni c) [.ref (ad 0)] (some (.int (c 0 2))) := by
  refine ofR (by decide) (Nat.le_of_ble_eq_true rfl) (own := RX5) rfl (fun p e s0 m args below meth ccd ls S hr hlk hargs hK hP hl => ?_)
  have hx := S.1
  have hb := S.2.1
  have hl : lv_has ls 1 [(0, .ref (ad 0))] := hl
  refine lv_aload_n hx hb dX5_day_0 rfl (lv_at hl 0 rfl) ?_
  refine gf S hK hP 0 cl_0 fX5_52 (v := .int (c 0 2)) (cfb_8 rfl) dX5_day_1 ?_
  exact eRi S hr hlk dX5_day_4 rfl

set_option maxHeartbeats 4000000 in
set_option maxRecDepth 100000 in
theorem cc_roundSize (l : Launch) (dg : va_G) (cA : Nat → ClassId) (ad : Nat → Nat) (nh ni : Nat) (c : St) (hni : c 0 0 = nI ni) (hni4 : ni ≤ 4) (i : Nat) (hi : i < ni) : MetR l dg cA yX5_roundSize cX5_roundSize 2 (some .int) ({ frames := 2, cells := 0, slots := 0, locals := 42 } : Room) (cw cA ad nh ni c) [.ref (ad 0), .int (nI i)] (some (.int (c 34 i))) := by
  refine ofR (by decide) (Nat.le_of_ble_eq_true rfl) (own := RX5) rfl (fun p e s0 m args below meth ccd ls S hr hlk hargs hK hP hl => ?_)
  have hx := S.1
  have hb := S.2.1
  have hl : lv_has ls 2 [(0, .ref (ad 0)), (1, .int (nI i))] := hl
  refine lv_aload_n hx hb dX5_roundSize_0 rfl (lv_at hl 0 rfl) ?_
  refine lv_iload_n hx hb dX5_roundSize_1 rfl (lv_at hl 1 rfl) ?_
  refine cR S (cc_iN l dg cA ad nh ni c hni hni4 i hi) kX5_121 ⟨rfl, rfl, Nat.le_of_ble_eq_true rfl, Nat.le_of_ble_eq_true rfl⟩ hK hP 0 cl_0 (q := (RX5, TX5, 9)) rfl rfl (As := [.int (nI i)]) rfl hl.1 (rest := []) rfl (Nat.le_of_ble_eq_true rfl) dX5_roundSize_2 ⟨Nat.le_of_ble_eq_true rfl, Nat.le_of_ble_eq_true rfl⟩ (st1 := [.ref (ad (60 + i))]) rfl ?_
  refine gf S hK hP (22 + (nh + i)) (cl_i (by omega)) fX5_125 (v := .int (c 34 i)) (cn_4 rfl) dX5_roundSize_5 ?_
  exact eRi S hr hlk dX5_roundSize_8 rfl

set_option maxHeartbeats 4000000 in
set_option maxRecDepth 100000 in
theorem cc_roundAt (l : Launch) (dg : va_G) (cA : Nat → ClassId) (ad : Nat → Nat) (nh ni : Nat) (c : St) (hni : c 0 0 = nI ni) (hni4 : ni ≤ 4) (i : Nat) (hi : i < ni) (sz k : Nat) (hs34 : c 34 i = nI sz) (hsz : sz ≤ 24) (hk : k < sz) : MetR l dg cA yX5_roundAt cX5_roundAt 4 (some .int) ({ frames := 2, cells := 0, slots := 0, locals := 42 } : Room) (cw cA ad nh ni c) [.ref (ad 0), .int (nI i), .int (nI k)] (some (.int (c 40 (4 * k + i)))) := by
  refine ofR (by decide) (Nat.le_of_ble_eq_true rfl) (own := RX5) rfl (fun p e s0 m args below meth ccd ls S hr hlk hargs hK hP hl => ?_)
  have hx := S.1
  have hb := S.2.1
  have hl : lv_has ls 4 [(0, .ref (ad 0)), (1, .int (nI i)), (2, .int (nI k))] := hl
  refine lv_aload_n hx hb dX5_roundAt_0 rfl (lv_at hl 0 rfl) ?_
  refine lv_iload_n hx hb dX5_roundAt_1 rfl (lv_at hl 1 rfl) ?_
  refine cR S (cc_iN l dg cA ad nh ni c hni hni4 i hi) kX5_121 ⟨rfl, rfl, Nat.le_of_ble_eq_true rfl, Nat.le_of_ble_eq_true rfl⟩ hK hP 0 cl_0 (q := (RX5, TX5, 9)) rfl rfl (As := [.int (nI i)]) rfl hl.1 (rest := []) rfl (Nat.le_of_ble_eq_true rfl) dX5_roundAt_2 ⟨Nat.le_of_ble_eq_true rfl, Nat.le_of_ble_eq_true rfl⟩ (st1 := [.ref (ad (60 + i))]) rfl ?_
  refine lv_astore_n (lv' := [(3, .ref (ad (60 + i))), (0, .ref (ad 0)), (1, .int (nI i)), (2, .int (nI k))]) hx hb dX5_roundAt_5 rfl hl (by decide) rfl (fun ls hl => ?_)
  refine lv_iload_n hx hb dX5_roundAt_6 rfl (lv_at hl 3 rfl) ?_
  refine lv_if_lt (tgt := 18) hx hb dX5_roundAt_7 (by decide) (fun b7 => ?_) (fun b7 => ?_)
  · skip
    have g7 : k < 0 := (nI_ltI (a := k) (b := 0) (by omega) (by omega)).mp b7
    exact absurd g7 (by omega)
  · skip
    have g7 : ¬ k < 0 := fun zz => b7 ((nI_ltI (a := k) (b := 0) (by omega) (by omega)).mpr zz)
    refine lv_iload_n hx hb dX5_roundAt_10 rfl (lv_at hl 3 rfl) ?_
    refine lv_aload_n hx hb dX5_roundAt_11 rfl (lv_at hl 0 rfl) ?_
    refine gf S hK hP (22 + (nh + i)) (cl_i (by omega)) fX5_125 (v := .int (nI sz)) (cn_4 hs34) dX5_roundAt_12 ?_
    refine lv_icmp_lt (tgt := 28) hx hb dX5_roundAt_15 (by decide) (fun b15 => ?_) (fun b15 => ?_)
    · skip
      have g15 : k < sz := (nI_ltI (a := k) (b := sz) (by omega) (by omega)).mp b15
      refine lv_aload_n hx hb dX5_roundAt_28 rfl (lv_at hl 0 rfl) ?_
      refine gf S hK hP (22 + (nh + i)) (cl_i (by omega)) fX5_133 (v := .ref (ad (70 + i))) cn_3 dX5_roundAt_29 ?_
      refine lv_iload_n hx hb dX5_roundAt_32 rfl (lv_at hl 3 rfl) ?_
      refine ild S hK hP (22 + (nh + (ni + i))) (cl_r (by omega)) (j := k) (by omega) (Nat.le_of_ble_eq_true rfl) dX5_roundAt_33 ?_
      refine lv_as (y := c 40 (4 * k + i)) rfl ?_
      exact eRi S hr hlk dX5_roundAt_34 rfl
    · skip
      have g15 : ¬ k < sz := fun zz => b15 ((nI_ltI (a := k) (b := sz) (by omega) (by omega)).mpr zz)
      exact absurd hk g15

set_option maxHeartbeats 4000000 in
set_option maxRecDepth 100000 in
theorem cc_roundMinutes (l : Launch) (dg : va_G) (cA : Nat → ClassId) (ad : Nat → Nat) (nh ni : Nat) (c : St) (hni : c 0 0 = nI ni) (hni4 : ni ≤ 4) (i : Nat) (hi : i < ni) : MetR l dg cA yX5_roundMinutes cX5_roundMinutes 2 (some .int) ({ frames := 2, cells := 0, slots := 0, locals := 42 } : Room) (cw cA ad nh ni c) [.ref (ad 0), .int (nI i)] (some (.int (c 36 i + c_abs (c 35 i - c 31 i)))) := by
  refine ofR (by decide) (Nat.le_of_ble_eq_true rfl) (own := RX5) rfl (fun p e s0 m args below meth ccd ls S hr hlk hargs hK hP hl => ?_)
  have hx := S.1
  have hb := S.2.1
  have hl : lv_has ls 2 [(0, .ref (ad 0)), (1, .int (nI i))] := hl
  refine lv_aload_n hx hb dX5_roundMinutes_0 rfl (lv_at hl 0 rfl) ?_
  refine lv_iload_n hx hb dX5_roundMinutes_1 rfl (lv_at hl 1 rfl) ?_
  refine cR S (cc_iN l dg cA ad nh ni c hni hni4 i hi) kX5_121 ⟨rfl, rfl, Nat.le_of_ble_eq_true rfl, Nat.le_of_ble_eq_true rfl⟩ hK hP 0 cl_0 (q := (RX5, TX5, 9)) rfl rfl (As := [.int (nI i)]) rfl hl.1 (rest := []) rfl (Nat.le_of_ble_eq_true rfl) dX5_roundMinutes_2 ⟨Nat.le_of_ble_eq_true rfl, Nat.le_of_ble_eq_true rfl⟩ (st1 := [.ref (ad (60 + i))]) rfl ?_
  refine cR S (cc_minutes l dg cA ad nh ni c i hi) kX5_136 ⟨rfl, rfl, Nat.le_of_ble_eq_true rfl, Nat.le_of_ble_eq_true rfl⟩ hK hP (22 + (nh + i)) (cl_i (by omega)) (q := (RX3, TX3, 7)) rfl rfl (As := []) rfl hl.1 (rest := []) rfl (Nat.le_of_ble_eq_true rfl) dX5_roundMinutes_5 ⟨Nat.le_of_ble_eq_true rfl, Nat.le_of_ble_eq_true rfl⟩ (st1 := [.int (c 36 i + c_abs (c 35 i - c 31 i))]) rfl ?_
  exact eRi S hr hlk dX5_roundMinutes_8 rfl

set_option maxHeartbeats 4000000 in
set_option maxRecDepth 100000 in
theorem cc_visit_a (l : Launch) (dg : va_G) (cA : Nat → ClassId) (ad : Nat → Nat) (nh ni : Nat) (c : St) (hn : c 0 4 = nI nh) (hn24 : nh ≤ 24) (h : Nat) (hh : h < nh) (v : Nat) (hv : v < 4) (hr0 : c 27 h = nI v) (ht : c 28 h = 0) (hf : c 9 v < 2) (a : Nat) (ha : a < 10) (k : Nat) (h5 : c 0 5 = nI k) (hk5 : k < 512) (sz : Nat) : MetM l dg cA yX5_visit cX5_visit 6 (some .int) ({ frames := 6, cells := 0, slots := 0, locals := 149 } : Room) 0 0 (cw cA ad nh ni c) sz [.ref (ad 0), .int (nI h), .int 97, .int (nI a)] (cw cA ad nh ni (c_ta (c_v0 c k h v a 97) nh h (nI v) (nI a))) (some (.int (nI v))) := by
  refine ofM (by decide) (Nat.le_of_ble_eq_true rfl) (own := RX5) rfl (fun p e s0 m args below meth ccd ls A hAe S hr hlk hname hargs hK hP hD hS hA hsz hl => ?_)
  have hx := S.1
  have hb := S.2.1
  have hl : lv_has ls 6 [(0, .ref (ad 0)), (1, .int (nI h)), (2, .int 97), (3, .int (nI a))] := hl
  refine lv_aload_n hx hb dX5_visit_0 rfl (lv_at hl 0 rfl) ?_
  refine lv_iload_n hx hb dX5_visit_1 rfl (lv_at hl 1 rfl) ?_
  refine cR S (cc_hN l dg cA ad nh ni c hn hn24 h hh) kX5_140 ⟨rfl, rfl, Nat.le_of_ble_eq_true rfl, Nat.le_of_ble_eq_true rfl⟩ hK hP 0 cl_0 (q := (RX5, TX5, 9)) rfl rfl (As := [.int (nI h)]) rfl hl.1 (rest := []) rfl (Nat.le_of_ble_eq_true rfl) dX5_visit_2 ⟨Nat.le_of_ble_eq_true rfl, Nat.le_of_ble_eq_true rfl⟩ (st1 := [.ref (ad (30 + h))]) rfl ?_
  refine lv_astore (lv' := [(4, .ref (ad (30 + h))), (0, .ref (ad 0)), (1, .int (nI h)), (2, .int 97), (3, .int (nI a))]) hx hb dX5_visit_5 hl (by decide) rfl (fun ls hl => ?_)
  refine lv_aload_n hx hb dX5_visit_7 rfl (lv_at hl 1 rfl) ?_
  refine lv_iload_n hx hb dX5_visit_8 rfl (lv_at hl 3 rfl) ?_
  refine cR S (cc_rO l dg cA ad nh ni c 97 (by decide)) kX5_144 ⟨rfl, rfl, Nat.le_of_ble_eq_true rfl, Nat.le_of_ble_eq_true rfl⟩ hK hP 0 cl_0 (q := (RX5, TX5, 9)) rfl rfl (As := [.int 97]) rfl hl.1 (rest := []) rfl (Nat.le_of_ble_eq_true rfl) dX5_visit_9 ⟨Nat.le_of_ble_eq_true rfl, Nat.le_of_ble_eq_true rfl⟩ (st1 := []) rfl ?_
  refine lv_aload_n hx hb dX5_visit_12 rfl (lv_at hl 1 rfl) ?_
  refine lv_iload_n hx hb dX5_visit_13 rfl (lv_at hl 4 rfl) ?_
  refine cR S (cc_rA l dg cA ad nh ni c (nI a) (a10 ha).1 (a10 ha).2) kX5_148 ⟨rfl, rfl, Nat.le_of_ble_eq_true rfl, Nat.le_of_ble_eq_true rfl⟩ hK hP 0 cl_0 (q := (RX5, TX5, 9)) rfl rfl (As := [.int (nI a)]) rfl hl.1 (rest := []) rfl (Nat.le_of_ble_eq_true rfl) dX5_visit_14 ⟨Nat.le_of_ble_eq_true rfl, Nat.le_of_ble_eq_true rfl⟩ (st1 := []) rfl ?_
  refine lv_aload_n hx hb dX5_visit_17 rfl (lv_at hl 1 rfl) ?_
  refine lv_aload hx hb dX5_visit_18 (lv_at hl 0 rfl) ?_
  refine cR S (cc_rV l dg cA ad nh ni c h hh v hv hr0 ht hf) kX5_151 ⟨rfl, rfl, Nat.le_of_ble_eq_true rfl, Nat.le_of_ble_eq_true rfl⟩ hK hP 0 cl_0 (q := (RX5, TX5, 9)) rfl rfl (As := [.ref (ad (30 + h))]) rfl hl.1 (rest := []) rfl (Nat.le_of_ble_eq_true rfl) dX5_visit_20 ⟨Nat.le_of_ble_eq_true rfl, Nat.le_of_ble_eq_true rfl⟩ (st1 := []) rfl ?_
  refine lv_aload hx hb dX5_visit_23 (lv_at hl 0 rfl) ?_
  refine gf S hK hP (22 + h) (cl_h (by omega)) fX5_155 (v := .int (nI v)) (ch_7 hr0) dX5_visit_25 ?_
  refine lv_istore (lv' := [(5, .int (nI v)), (4, .ref (ad (30 + h))), (0, .ref (ad 0)), (1, .int (nI h)), (2, .int 97), (3, .int (nI a))]) hx hb dX5_visit_28 hl (by decide) rfl (fun ls hl => ?_)
  refine lv_aload_n hx hb dX5_visit_30 rfl (lv_at hl 2 rfl) ?_
  refine gf S hK hP 0 cl_0 fX5_41 (v := .ref (ad 20)) cfb_5 dX5_visit_31 ?_
  refine lv_iload_n hx hb dX5_visit_34 rfl (lv_at hl 4 rfl) ?_
  refine lv_iload_n hx hb dX5_visit_35 rfl (lv_at hl 3 rfl) ?_
  refine lv_iload hx hb dX5_visit_36 (lv_at hl 0 rfl) ?_
  refine lv_iload_n hx hb dX5_visit_38 rfl (lv_at hl 5 rfl) ?_
  refine cM S (cc_append l dg cA ad nh ni c 97 (nI h) (nI v) (nI a) k h5 hk5 _) kX5_158 ⟨rfl, rfl, Nat.le_of_ble_eq_true rfl, Nat.le_of_ble_eq_true rfl⟩ hK hP hD hS hA 20 cl_20 (q := (RX1, TX1, 2)) rfl rfl (As := [.int 97, .int (nI h), .int (nI v), .int (nI a)]) rfl hl.1 (rest := []) rfl (Nat.le_of_ble_eq_true rfl) dX5_visit_39 ⟨Nat.le_of_ble_eq_true rfl, Nat.le_of_ble_eq_true rfl⟩ (st1 := []) rfl (fun H locs hP hD hS => ?_)
  have hP : PP dg (cw cA ad nh ni (c_app c k (97, h, v, a))) H := hP
  have hD : va_D A (cw cA ad nh ni (c_app c k (97, h, v, a))) := hD
  refine lv_aload hx hb dX5_visit_42 (lv_at hl 1 rfl) ?_
  refine lv_iconst (v := 1) hx hb dX5_visit_44 (by decide) ?_
  refine pf S hK hP hD hS (22 + h) (cl_h (by omega)) fX5_162 fpX2 rfl (v := .int 1) rfl rfl (Nat.le_of_ble_eq_true rfl) (cs_h_8 (by omega)) dX5_visit_45 (fun H locs hP hD hS => ?_)
  refine lv_aload hx hb dX5_visit_48 (lv_at hl 1 rfl) ?_
  refine lv_dup hx hb dX5_visit_50 rfl ?_
  refine gf S hK hP (22 + h) (cl_h (by omega)) fX5_166 (v := .int (c 23 h)) (ch_3 rfl) dX5_visit_51 ?_
  refine lv_iconst (v := 1) hx hb dX5_visit_54 (by decide) ?_
  refine lv_iadd hx hb dX5_visit_55 ?_
  refine pf S hK hP hD hS (22 + h) (cl_h (by omega)) fX5_166 fpX2 rfl (v := .int ((c 23 h) + 1)) rfl rfl (Nat.le_of_ble_eq_true rfl) (cs_h_3 (by omega)) dX5_visit_56 (fun H locs hP hD hS => ?_)
  refine lv_iload_n hx hb dX5_visit_59 rfl (lv_at hl 4 rfl) ?_
  refine lv_lookup (tgt := 96) (off := 36) hx hb dX5_visit_60 (by decide) (by decide) (by decide) ?_
  refine lv_aload_n hx hb dX5_visit_96 rfl (lv_at hl 2 rfl) ?_
  refine lv_iload_n hx hb dX5_visit_97 rfl (lv_at hl 3 rfl) ?_
  refine lv_iload hx hb dX5_visit_98 (lv_at hl 0 rfl) ?_
  refine lv_iload_n hx hb dX5_visit_100 rfl (lv_at hl 5 rfl) ?_
  refine cM S (cc_takeA l dg cA ad nh ni (up (up (c_app c k (97, h, v, a)) 28 h 1) 23 h ((c 23 h) + 1)) hn hn24 h hh (nI v) (nI a) _) kX5_169 ⟨rfl, rfl, Nat.le_of_ble_eq_true rfl, Nat.le_of_ble_eq_true rfl⟩ hK hP hD hS hA 0 cl_0 (q := (RX5, TX5, 9)) rfl rfl (As := [.int (nI h), .int (nI v), .int (nI a)]) rfl hl.1 (rest := []) rfl (Nat.le_of_ble_eq_true rfl) dX5_visit_101 ⟨Nat.le_of_ble_eq_true rfl, Nat.le_of_ble_eq_true rfl⟩ (st1 := []) rfl (fun H locs hP hD hS => ?_)
  refine lv_goto (tgt := 140) hx hb dX5_visit_104 (by decide) ?_
  refine lv_iload hx hb dX5_visit_140 (lv_at hl 0 rfl) ?_
  exact eMi S hr hlk hP hD hS dX5_visit_142 rfl (by first | rfl | (unfold c_v0; rfl))

set_option maxHeartbeats 4000000 in
set_option maxRecDepth 100000 in
theorem cc_visit_n (l : Launch) (dg : va_G) (cA : Nat → ClassId) (ad : Nat → Nat) (nh ni : Nat) (c : St) (hn : c 0 4 = nI nh) (hn24 : nh ≤ 24) (h : Nat) (hh : h < nh) (v : Nat) (hv : v < 4) (hr0 : c 27 h = nI v) (ht : c 28 h = 0) (hf : c 9 v < 2) (a : Nat) (ha : a < 10) (k : Nat) (h5 : c 0 5 = nI k) (hk5 : k < 512) (h3 : c 24 h + 1 < 3) (sz : Nat) : MetM l dg cA yX5_visit cX5_visit 6 (some .int) ({ frames := 2, cells := 0, slots := 0, locals := 42 } : Room) 0 0 (cw cA ad nh ni c) sz [.ref (ad 0), .int (nI h), .int 110, .int (nI a)] (cw cA ad nh ni (up (up (up (c_v0 c k h v a 110) 24 h (c 24 h + 1)) 21 h 119) 22 h (c 0 2 + (c 24 h + 1)))) (some (.int (nI v))) := by
  refine ofM (by decide) (Nat.le_of_ble_eq_true rfl) (own := RX5) rfl (fun p e s0 m args below meth ccd ls A hAe S hr hlk hname hargs hK hP hD hS hA hsz hl => ?_)
  have hx := S.1
  have hb := S.2.1
  have hl : lv_has ls 6 [(0, .ref (ad 0)), (1, .int (nI h)), (2, .int 110), (3, .int (nI a))] := hl
  refine lv_aload_n hx hb dX5_visit_0 rfl (lv_at hl 0 rfl) ?_
  refine lv_iload_n hx hb dX5_visit_1 rfl (lv_at hl 1 rfl) ?_
  refine cR S (cc_hN l dg cA ad nh ni c hn hn24 h hh) kX5_140 ⟨rfl, rfl, Nat.le_of_ble_eq_true rfl, Nat.le_of_ble_eq_true rfl⟩ hK hP 0 cl_0 (q := (RX5, TX5, 9)) rfl rfl (As := [.int (nI h)]) rfl hl.1 (rest := []) rfl (Nat.le_of_ble_eq_true rfl) dX5_visit_2 ⟨Nat.le_of_ble_eq_true rfl, Nat.le_of_ble_eq_true rfl⟩ (st1 := [.ref (ad (30 + h))]) rfl ?_
  refine lv_astore (lv' := [(4, .ref (ad (30 + h))), (0, .ref (ad 0)), (1, .int (nI h)), (2, .int 110), (3, .int (nI a))]) hx hb dX5_visit_5 hl (by decide) rfl (fun ls hl => ?_)
  refine lv_aload_n hx hb dX5_visit_7 rfl (lv_at hl 1 rfl) ?_
  refine lv_iload_n hx hb dX5_visit_8 rfl (lv_at hl 3 rfl) ?_
  refine cR S (cc_rO l dg cA ad nh ni c 110 (by decide)) kX5_144 ⟨rfl, rfl, Nat.le_of_ble_eq_true rfl, Nat.le_of_ble_eq_true rfl⟩ hK hP 0 cl_0 (q := (RX5, TX5, 9)) rfl rfl (As := [.int 110]) rfl hl.1 (rest := []) rfl (Nat.le_of_ble_eq_true rfl) dX5_visit_9 ⟨Nat.le_of_ble_eq_true rfl, Nat.le_of_ble_eq_true rfl⟩ (st1 := []) rfl ?_
  refine lv_aload_n hx hb dX5_visit_12 rfl (lv_at hl 1 rfl) ?_
  refine lv_iload_n hx hb dX5_visit_13 rfl (lv_at hl 4 rfl) ?_
  refine cR S (cc_rA l dg cA ad nh ni c (nI a) (a10 ha).1 (a10 ha).2) kX5_148 ⟨rfl, rfl, Nat.le_of_ble_eq_true rfl, Nat.le_of_ble_eq_true rfl⟩ hK hP 0 cl_0 (q := (RX5, TX5, 9)) rfl rfl (As := [.int (nI a)]) rfl hl.1 (rest := []) rfl (Nat.le_of_ble_eq_true rfl) dX5_visit_14 ⟨Nat.le_of_ble_eq_true rfl, Nat.le_of_ble_eq_true rfl⟩ (st1 := []) rfl ?_
  refine lv_aload_n hx hb dX5_visit_17 rfl (lv_at hl 1 rfl) ?_
  refine lv_aload hx hb dX5_visit_18 (lv_at hl 0 rfl) ?_
  refine cR S (cc_rV l dg cA ad nh ni c h hh v hv hr0 ht hf) kX5_151 ⟨rfl, rfl, Nat.le_of_ble_eq_true rfl, Nat.le_of_ble_eq_true rfl⟩ hK hP 0 cl_0 (q := (RX5, TX5, 9)) rfl rfl (As := [.ref (ad (30 + h))]) rfl hl.1 (rest := []) rfl (Nat.le_of_ble_eq_true rfl) dX5_visit_20 ⟨Nat.le_of_ble_eq_true rfl, Nat.le_of_ble_eq_true rfl⟩ (st1 := []) rfl ?_
  refine lv_aload hx hb dX5_visit_23 (lv_at hl 0 rfl) ?_
  refine gf S hK hP (22 + h) (cl_h (by omega)) fX5_155 (v := .int (nI v)) (ch_7 hr0) dX5_visit_25 ?_
  refine lv_istore (lv' := [(5, .int (nI v)), (4, .ref (ad (30 + h))), (0, .ref (ad 0)), (1, .int (nI h)), (2, .int 110), (3, .int (nI a))]) hx hb dX5_visit_28 hl (by decide) rfl (fun ls hl => ?_)
  refine lv_aload_n hx hb dX5_visit_30 rfl (lv_at hl 2 rfl) ?_
  refine gf S hK hP 0 cl_0 fX5_41 (v := .ref (ad 20)) cfb_5 dX5_visit_31 ?_
  refine lv_iload_n hx hb dX5_visit_34 rfl (lv_at hl 4 rfl) ?_
  refine lv_iload_n hx hb dX5_visit_35 rfl (lv_at hl 3 rfl) ?_
  refine lv_iload hx hb dX5_visit_36 (lv_at hl 0 rfl) ?_
  refine lv_iload_n hx hb dX5_visit_38 rfl (lv_at hl 5 rfl) ?_
  refine cM S (cc_append l dg cA ad nh ni c 110 (nI h) (nI v) (nI a) k h5 hk5 _) kX5_158 ⟨rfl, rfl, Nat.le_of_ble_eq_true rfl, Nat.le_of_ble_eq_true rfl⟩ hK hP hD hS hA 20 cl_20 (q := (RX1, TX1, 2)) rfl rfl (As := [.int 110, .int (nI h), .int (nI v), .int (nI a)]) rfl hl.1 (rest := []) rfl (Nat.le_of_ble_eq_true rfl) dX5_visit_39 ⟨Nat.le_of_ble_eq_true rfl, Nat.le_of_ble_eq_true rfl⟩ (st1 := []) rfl (fun H locs hP hD hS => ?_)
  have hP : PP dg (cw cA ad nh ni (c_app c k (110, h, v, a))) H := hP
  have hD : va_D A (cw cA ad nh ni (c_app c k (110, h, v, a))) := hD
  refine lv_aload hx hb dX5_visit_42 (lv_at hl 1 rfl) ?_
  refine lv_iconst (v := 1) hx hb dX5_visit_44 (by decide) ?_
  refine pf S hK hP hD hS (22 + h) (cl_h (by omega)) fX5_162 fpX2 rfl (v := .int 1) rfl rfl (Nat.le_of_ble_eq_true rfl) (cs_h_8 (by omega)) dX5_visit_45 (fun H locs hP hD hS => ?_)
  refine lv_aload hx hb dX5_visit_48 (lv_at hl 1 rfl) ?_
  refine lv_dup hx hb dX5_visit_50 rfl ?_
  refine gf S hK hP (22 + h) (cl_h (by omega)) fX5_166 (v := .int (c 23 h)) (ch_3 rfl) dX5_visit_51 ?_
  refine lv_iconst (v := 1) hx hb dX5_visit_54 (by decide) ?_
  refine lv_iadd hx hb dX5_visit_55 ?_
  refine pf S hK hP hD hS (22 + h) (cl_h (by omega)) fX5_166 fpX2 rfl (v := .int ((c 23 h) + 1)) rfl rfl (Nat.le_of_ble_eq_true rfl) (cs_h_3 (by omega)) dX5_visit_56 (fun H locs hP hD hS => ?_)
  refine lv_iload_n hx hb dX5_visit_59 rfl (lv_at hl 4 rfl) ?_
  refine lv_lookup (tgt := 107) (off := 47) hx hb dX5_visit_60 (by decide) (by decide) (by decide) ?_
  refine lv_aload hx hb dX5_visit_107 (lv_at hl 1 rfl) ?_
  refine lv_aload_n hx hb dX5_visit_109 rfl (lv_at hl 2 rfl) ?_
  refine gf S hK hP 0 cl_0 fX5_52 (v := .int ((c_app c k (110, h, v, a)) 0 2)) (cfb_8 rfl) dX5_visit_110 ?_
  refine cM S (cc_meet l dg cA ad nh ni (up (up (c_app c k (110, h, v, a)) 28 h 1) 23 h ((c 23 h) + 1)) h hh ((c_app c k (110, h, v, a)) 0 2) h3 _) kX5_172 ⟨rfl, rfl, Nat.le_of_ble_eq_true rfl, Nat.le_of_ble_eq_true rfl⟩ hK hP hD hS hA (22 + h) (cl_h (by omega)) (q := (RX2, TX2, 11)) rfl rfl (As := [.int ((c_app c k (110, h, v, a)) 0 2)]) rfl hl.1 (rest := []) rfl (Nat.le_of_ble_eq_true rfl) dX5_visit_113 ⟨Nat.le_of_ble_eq_true rfl, Nat.le_of_ble_eq_true rfl⟩ (st1 := []) rfl (fun H locs hP hD hS => ?_)
  refine lv_goto (tgt := 140) hx hb dX5_visit_116 (by decide) ?_
  refine lv_iload hx hb dX5_visit_140 (lv_at hl 0 rfl) ?_
  exact eMi S hr hlk hP hD hS dX5_visit_142 rfl (by first | rfl | (unfold c_v0; rfl))

set_option maxHeartbeats 4000000 in
set_option maxRecDepth 100000 in
theorem cc_visit_n3 (l : Launch) (dg : va_G) (cA : Nat → ClassId) (ad : Nat → Nat) (nh ni : Nat) (c : St) (hn : c 0 4 = nI nh) (hn24 : nh ≤ 24) (h : Nat) (hh : h < nh) (v : Nat) (hv : v < 4) (hr0 : c 27 h = nI v) (ht : c 28 h = 0) (hf : c 9 v < 2) (a : Nat) (ha : a < 10) (k : Nat) (h5 : c 0 5 = nI k) (hk5 : k < 512) (h3 : ¬ c 24 h + 1 < 3) (sz : Nat) : MetM l dg cA yX5_visit cX5_visit 6 (some .int) ({ frames := 2, cells := 0, slots := 0, locals := 42 } : Room) 0 0 (cw cA ad nh ni c) sz [.ref (ad 0), .int (nI h), .int 110, .int (nI a)] (cw cA ad nh ni (up (up (up (c_v0 c k h v a 110) 24 h (c 24 h + 1)) 21 h 103) 29 h 1)) (some (.int (nI v))) := by
  refine ofM (by decide) (Nat.le_of_ble_eq_true rfl) (own := RX5) rfl (fun p e s0 m args below meth ccd ls A hAe S hr hlk hname hargs hK hP hD hS hA hsz hl => ?_)
  have hx := S.1
  have hb := S.2.1
  have hl : lv_has ls 6 [(0, .ref (ad 0)), (1, .int (nI h)), (2, .int 110), (3, .int (nI a))] := hl
  refine lv_aload_n hx hb dX5_visit_0 rfl (lv_at hl 0 rfl) ?_
  refine lv_iload_n hx hb dX5_visit_1 rfl (lv_at hl 1 rfl) ?_
  refine cR S (cc_hN l dg cA ad nh ni c hn hn24 h hh) kX5_140 ⟨rfl, rfl, Nat.le_of_ble_eq_true rfl, Nat.le_of_ble_eq_true rfl⟩ hK hP 0 cl_0 (q := (RX5, TX5, 9)) rfl rfl (As := [.int (nI h)]) rfl hl.1 (rest := []) rfl (Nat.le_of_ble_eq_true rfl) dX5_visit_2 ⟨Nat.le_of_ble_eq_true rfl, Nat.le_of_ble_eq_true rfl⟩ (st1 := [.ref (ad (30 + h))]) rfl ?_
  refine lv_astore (lv' := [(4, .ref (ad (30 + h))), (0, .ref (ad 0)), (1, .int (nI h)), (2, .int 110), (3, .int (nI a))]) hx hb dX5_visit_5 hl (by decide) rfl (fun ls hl => ?_)
  refine lv_aload_n hx hb dX5_visit_7 rfl (lv_at hl 1 rfl) ?_
  refine lv_iload_n hx hb dX5_visit_8 rfl (lv_at hl 3 rfl) ?_
  refine cR S (cc_rO l dg cA ad nh ni c 110 (by decide)) kX5_144 ⟨rfl, rfl, Nat.le_of_ble_eq_true rfl, Nat.le_of_ble_eq_true rfl⟩ hK hP 0 cl_0 (q := (RX5, TX5, 9)) rfl rfl (As := [.int 110]) rfl hl.1 (rest := []) rfl (Nat.le_of_ble_eq_true rfl) dX5_visit_9 ⟨Nat.le_of_ble_eq_true rfl, Nat.le_of_ble_eq_true rfl⟩ (st1 := []) rfl ?_
  refine lv_aload_n hx hb dX5_visit_12 rfl (lv_at hl 1 rfl) ?_
  refine lv_iload_n hx hb dX5_visit_13 rfl (lv_at hl 4 rfl) ?_
  refine cR S (cc_rA l dg cA ad nh ni c (nI a) (a10 ha).1 (a10 ha).2) kX5_148 ⟨rfl, rfl, Nat.le_of_ble_eq_true rfl, Nat.le_of_ble_eq_true rfl⟩ hK hP 0 cl_0 (q := (RX5, TX5, 9)) rfl rfl (As := [.int (nI a)]) rfl hl.1 (rest := []) rfl (Nat.le_of_ble_eq_true rfl) dX5_visit_14 ⟨Nat.le_of_ble_eq_true rfl, Nat.le_of_ble_eq_true rfl⟩ (st1 := []) rfl ?_
  refine lv_aload_n hx hb dX5_visit_17 rfl (lv_at hl 1 rfl) ?_
  refine lv_aload hx hb dX5_visit_18 (lv_at hl 0 rfl) ?_
  refine cR S (cc_rV l dg cA ad nh ni c h hh v hv hr0 ht hf) kX5_151 ⟨rfl, rfl, Nat.le_of_ble_eq_true rfl, Nat.le_of_ble_eq_true rfl⟩ hK hP 0 cl_0 (q := (RX5, TX5, 9)) rfl rfl (As := [.ref (ad (30 + h))]) rfl hl.1 (rest := []) rfl (Nat.le_of_ble_eq_true rfl) dX5_visit_20 ⟨Nat.le_of_ble_eq_true rfl, Nat.le_of_ble_eq_true rfl⟩ (st1 := []) rfl ?_
  refine lv_aload hx hb dX5_visit_23 (lv_at hl 0 rfl) ?_
  refine gf S hK hP (22 + h) (cl_h (by omega)) fX5_155 (v := .int (nI v)) (ch_7 hr0) dX5_visit_25 ?_
  refine lv_istore (lv' := [(5, .int (nI v)), (4, .ref (ad (30 + h))), (0, .ref (ad 0)), (1, .int (nI h)), (2, .int 110), (3, .int (nI a))]) hx hb dX5_visit_28 hl (by decide) rfl (fun ls hl => ?_)
  refine lv_aload_n hx hb dX5_visit_30 rfl (lv_at hl 2 rfl) ?_
  refine gf S hK hP 0 cl_0 fX5_41 (v := .ref (ad 20)) cfb_5 dX5_visit_31 ?_
  refine lv_iload_n hx hb dX5_visit_34 rfl (lv_at hl 4 rfl) ?_
  refine lv_iload_n hx hb dX5_visit_35 rfl (lv_at hl 3 rfl) ?_
  refine lv_iload hx hb dX5_visit_36 (lv_at hl 0 rfl) ?_
  refine lv_iload_n hx hb dX5_visit_38 rfl (lv_at hl 5 rfl) ?_
  refine cM S (cc_append l dg cA ad nh ni c 110 (nI h) (nI v) (nI a) k h5 hk5 _) kX5_158 ⟨rfl, rfl, Nat.le_of_ble_eq_true rfl, Nat.le_of_ble_eq_true rfl⟩ hK hP hD hS hA 20 cl_20 (q := (RX1, TX1, 2)) rfl rfl (As := [.int 110, .int (nI h), .int (nI v), .int (nI a)]) rfl hl.1 (rest := []) rfl (Nat.le_of_ble_eq_true rfl) dX5_visit_39 ⟨Nat.le_of_ble_eq_true rfl, Nat.le_of_ble_eq_true rfl⟩ (st1 := []) rfl (fun H locs hP hD hS => ?_)
  have hP : PP dg (cw cA ad nh ni (c_app c k (110, h, v, a))) H := hP
  have hD : va_D A (cw cA ad nh ni (c_app c k (110, h, v, a))) := hD
  refine lv_aload hx hb dX5_visit_42 (lv_at hl 1 rfl) ?_
  refine lv_iconst (v := 1) hx hb dX5_visit_44 (by decide) ?_
  refine pf S hK hP hD hS (22 + h) (cl_h (by omega)) fX5_162 fpX2 rfl (v := .int 1) rfl rfl (Nat.le_of_ble_eq_true rfl) (cs_h_8 (by omega)) dX5_visit_45 (fun H locs hP hD hS => ?_)
  refine lv_aload hx hb dX5_visit_48 (lv_at hl 1 rfl) ?_
  refine lv_dup hx hb dX5_visit_50 rfl ?_
  refine gf S hK hP (22 + h) (cl_h (by omega)) fX5_166 (v := .int (c 23 h)) (ch_3 rfl) dX5_visit_51 ?_
  refine lv_iconst (v := 1) hx hb dX5_visit_54 (by decide) ?_
  refine lv_iadd hx hb dX5_visit_55 ?_
  refine pf S hK hP hD hS (22 + h) (cl_h (by omega)) fX5_166 fpX2 rfl (v := .int ((c 23 h) + 1)) rfl rfl (Nat.le_of_ble_eq_true rfl) (cs_h_3 (by omega)) dX5_visit_56 (fun H locs hP hD hS => ?_)
  refine lv_iload_n hx hb dX5_visit_59 rfl (lv_at hl 4 rfl) ?_
  refine lv_lookup (tgt := 107) (off := 47) hx hb dX5_visit_60 (by decide) (by decide) (by decide) ?_
  refine lv_aload hx hb dX5_visit_107 (lv_at hl 1 rfl) ?_
  refine lv_aload_n hx hb dX5_visit_109 rfl (lv_at hl 2 rfl) ?_
  refine gf S hK hP 0 cl_0 fX5_52 (v := .int ((c_app c k (110, h, v, a)) 0 2)) (cfb_8 rfl) dX5_visit_110 ?_
  refine cM S (cc_meet3 l dg cA ad nh ni (up (up (c_app c k (110, h, v, a)) 28 h 1) 23 h ((c 23 h) + 1)) h hh ((c_app c k (110, h, v, a)) 0 2) h3 _) kX5_172 ⟨rfl, rfl, Nat.le_of_ble_eq_true rfl, Nat.le_of_ble_eq_true rfl⟩ hK hP hD hS hA (22 + h) (cl_h (by omega)) (q := (RX2, TX2, 11)) rfl rfl (As := [.int ((c_app c k (110, h, v, a)) 0 2)]) rfl hl.1 (rest := []) rfl (Nat.le_of_ble_eq_true rfl) dX5_visit_113 ⟨Nat.le_of_ble_eq_true rfl, Nat.le_of_ble_eq_true rfl⟩ (st1 := []) rfl (fun H locs hP hD hS => ?_)
  refine lv_goto (tgt := 140) hx hb dX5_visit_116 (by decide) ?_
  refine lv_iload hx hb dX5_visit_140 (lv_at hl 0 rfl) ?_
  exact eMi S hr hlk hP hD hS dX5_visit_142 rfl (by first | rfl | (unfold c_v0; rfl))

set_option maxHeartbeats 4000000 in
set_option maxRecDepth 100000 in
theorem cc_visit_r (l : Launch) (dg : va_G) (cA : Nat → ClassId) (ad : Nat → Nat) (nh ni : Nat) (c : St) (hn : c 0 4 = nI nh) (hn24 : nh ≤ 24) (h : Nat) (hh : h < nh) (v : Nat) (hv : v < 4) (hr0 : c 27 h = nI v) (ht : c 28 h = 0) (hf : c 9 v < 2) (a : Nat) (ha : a < 10) (k : Nat) (h5 : c 0 5 = nI k) (hk5 : k < 512) (h3 : c 25 h + 1 < 2) (sz : Nat) : MetM l dg cA yX5_visit cX5_visit 6 (some .int) ({ frames := 2, cells := 0, slots := 0, locals := 43 } : Room) 0 0 (cw cA ad nh ni c) sz [.ref (ad 0), .int (nI h), .int 114, .int (nI a)] (cw cA ad nh ni (up (up (up (up (c_v0 c k h v a 114) 25 h (c 25 h + 1)) 26 h (c 26 h ||| 1 <<< (nI v &&& 31))) 21 h 119) 22 h (c 0 2 + 3))) (some (.int (nI v))) := by
  refine ofM (by decide) (Nat.le_of_ble_eq_true rfl) (own := RX5) rfl (fun p e s0 m args below meth ccd ls A hAe S hr hlk hname hargs hK hP hD hS hA hsz hl => ?_)
  have hx := S.1
  have hb := S.2.1
  have hl : lv_has ls 6 [(0, .ref (ad 0)), (1, .int (nI h)), (2, .int 114), (3, .int (nI a))] := hl
  refine lv_aload_n hx hb dX5_visit_0 rfl (lv_at hl 0 rfl) ?_
  refine lv_iload_n hx hb dX5_visit_1 rfl (lv_at hl 1 rfl) ?_
  refine cR S (cc_hN l dg cA ad nh ni c hn hn24 h hh) kX5_140 ⟨rfl, rfl, Nat.le_of_ble_eq_true rfl, Nat.le_of_ble_eq_true rfl⟩ hK hP 0 cl_0 (q := (RX5, TX5, 9)) rfl rfl (As := [.int (nI h)]) rfl hl.1 (rest := []) rfl (Nat.le_of_ble_eq_true rfl) dX5_visit_2 ⟨Nat.le_of_ble_eq_true rfl, Nat.le_of_ble_eq_true rfl⟩ (st1 := [.ref (ad (30 + h))]) rfl ?_
  refine lv_astore (lv' := [(4, .ref (ad (30 + h))), (0, .ref (ad 0)), (1, .int (nI h)), (2, .int 114), (3, .int (nI a))]) hx hb dX5_visit_5 hl (by decide) rfl (fun ls hl => ?_)
  refine lv_aload_n hx hb dX5_visit_7 rfl (lv_at hl 1 rfl) ?_
  refine lv_iload_n hx hb dX5_visit_8 rfl (lv_at hl 3 rfl) ?_
  refine cR S (cc_rO l dg cA ad nh ni c 114 (by decide)) kX5_144 ⟨rfl, rfl, Nat.le_of_ble_eq_true rfl, Nat.le_of_ble_eq_true rfl⟩ hK hP 0 cl_0 (q := (RX5, TX5, 9)) rfl rfl (As := [.int 114]) rfl hl.1 (rest := []) rfl (Nat.le_of_ble_eq_true rfl) dX5_visit_9 ⟨Nat.le_of_ble_eq_true rfl, Nat.le_of_ble_eq_true rfl⟩ (st1 := []) rfl ?_
  refine lv_aload_n hx hb dX5_visit_12 rfl (lv_at hl 1 rfl) ?_
  refine lv_iload_n hx hb dX5_visit_13 rfl (lv_at hl 4 rfl) ?_
  refine cR S (cc_rA l dg cA ad nh ni c (nI a) (a10 ha).1 (a10 ha).2) kX5_148 ⟨rfl, rfl, Nat.le_of_ble_eq_true rfl, Nat.le_of_ble_eq_true rfl⟩ hK hP 0 cl_0 (q := (RX5, TX5, 9)) rfl rfl (As := [.int (nI a)]) rfl hl.1 (rest := []) rfl (Nat.le_of_ble_eq_true rfl) dX5_visit_14 ⟨Nat.le_of_ble_eq_true rfl, Nat.le_of_ble_eq_true rfl⟩ (st1 := []) rfl ?_
  refine lv_aload_n hx hb dX5_visit_17 rfl (lv_at hl 1 rfl) ?_
  refine lv_aload hx hb dX5_visit_18 (lv_at hl 0 rfl) ?_
  refine cR S (cc_rV l dg cA ad nh ni c h hh v hv hr0 ht hf) kX5_151 ⟨rfl, rfl, Nat.le_of_ble_eq_true rfl, Nat.le_of_ble_eq_true rfl⟩ hK hP 0 cl_0 (q := (RX5, TX5, 9)) rfl rfl (As := [.ref (ad (30 + h))]) rfl hl.1 (rest := []) rfl (Nat.le_of_ble_eq_true rfl) dX5_visit_20 ⟨Nat.le_of_ble_eq_true rfl, Nat.le_of_ble_eq_true rfl⟩ (st1 := []) rfl ?_
  refine lv_aload hx hb dX5_visit_23 (lv_at hl 0 rfl) ?_
  refine gf S hK hP (22 + h) (cl_h (by omega)) fX5_155 (v := .int (nI v)) (ch_7 hr0) dX5_visit_25 ?_
  refine lv_istore (lv' := [(5, .int (nI v)), (4, .ref (ad (30 + h))), (0, .ref (ad 0)), (1, .int (nI h)), (2, .int 114), (3, .int (nI a))]) hx hb dX5_visit_28 hl (by decide) rfl (fun ls hl => ?_)
  refine lv_aload_n hx hb dX5_visit_30 rfl (lv_at hl 2 rfl) ?_
  refine gf S hK hP 0 cl_0 fX5_41 (v := .ref (ad 20)) cfb_5 dX5_visit_31 ?_
  refine lv_iload_n hx hb dX5_visit_34 rfl (lv_at hl 4 rfl) ?_
  refine lv_iload_n hx hb dX5_visit_35 rfl (lv_at hl 3 rfl) ?_
  refine lv_iload hx hb dX5_visit_36 (lv_at hl 0 rfl) ?_
  refine lv_iload_n hx hb dX5_visit_38 rfl (lv_at hl 5 rfl) ?_
  refine cM S (cc_append l dg cA ad nh ni c 114 (nI h) (nI v) (nI a) k h5 hk5 _) kX5_158 ⟨rfl, rfl, Nat.le_of_ble_eq_true rfl, Nat.le_of_ble_eq_true rfl⟩ hK hP hD hS hA 20 cl_20 (q := (RX1, TX1, 2)) rfl rfl (As := [.int 114, .int (nI h), .int (nI v), .int (nI a)]) rfl hl.1 (rest := []) rfl (Nat.le_of_ble_eq_true rfl) dX5_visit_39 ⟨Nat.le_of_ble_eq_true rfl, Nat.le_of_ble_eq_true rfl⟩ (st1 := []) rfl (fun H locs hP hD hS => ?_)
  have hP : PP dg (cw cA ad nh ni (c_app c k (114, h, v, a))) H := hP
  have hD : va_D A (cw cA ad nh ni (c_app c k (114, h, v, a))) := hD
  refine lv_aload hx hb dX5_visit_42 (lv_at hl 1 rfl) ?_
  refine lv_iconst (v := 1) hx hb dX5_visit_44 (by decide) ?_
  refine pf S hK hP hD hS (22 + h) (cl_h (by omega)) fX5_162 fpX2 rfl (v := .int 1) rfl rfl (Nat.le_of_ble_eq_true rfl) (cs_h_8 (by omega)) dX5_visit_45 (fun H locs hP hD hS => ?_)
  refine lv_aload hx hb dX5_visit_48 (lv_at hl 1 rfl) ?_
  refine lv_dup hx hb dX5_visit_50 rfl ?_
  refine gf S hK hP (22 + h) (cl_h (by omega)) fX5_166 (v := .int (c 23 h)) (ch_3 rfl) dX5_visit_51 ?_
  refine lv_iconst (v := 1) hx hb dX5_visit_54 (by decide) ?_
  refine lv_iadd hx hb dX5_visit_55 ?_
  refine pf S hK hP hD hS (22 + h) (cl_h (by omega)) fX5_166 fpX2 rfl (v := .int ((c 23 h) + 1)) rfl rfl (Nat.le_of_ble_eq_true rfl) (cs_h_3 (by omega)) dX5_visit_56 (fun H locs hP hD hS => ?_)
  refine lv_iload_n hx hb dX5_visit_59 rfl (lv_at hl 4 rfl) ?_
  refine lv_lookup (tgt := 119) (off := 59) hx hb dX5_visit_60 (by decide) (by decide) (by decide) ?_
  refine lv_aload hx hb dX5_visit_119 (lv_at hl 1 rfl) ?_
  refine lv_iload hx hb dX5_visit_121 (lv_at hl 0 rfl) ?_
  refine lv_aload_n hx hb dX5_visit_123 rfl (lv_at hl 2 rfl) ?_
  refine gf S hK hP 0 cl_0 fX5_52 (v := .int ((c_app c k (114, h, v, a)) 0 2)) (cfb_8 rfl) dX5_visit_124 ?_
  refine cM S (cc_refuse l dg cA ad nh ni (up (up (c_app c k (114, h, v, a)) 28 h 1) 23 h ((c 23 h) + 1)) h hh (nI v) ((c_app c k (114, h, v, a)) 0 2) h3 _) kX5_175 ⟨rfl, rfl, Nat.le_of_ble_eq_true rfl, Nat.le_of_ble_eq_true rfl⟩ hK hP hD hS hA (22 + h) (cl_h (by omega)) (q := (RX2, TX2, 11)) rfl rfl (As := [.int (nI v), .int ((c_app c k (114, h, v, a)) 0 2)]) rfl hl.1 (rest := []) rfl (Nat.le_of_ble_eq_true rfl) dX5_visit_127 ⟨Nat.le_of_ble_eq_true rfl, Nat.le_of_ble_eq_true rfl⟩ (st1 := []) rfl (fun H locs hP hD hS => ?_)
  refine lv_goto (tgt := 140) hx hb dX5_visit_130 (by decide) ?_
  refine lv_iload hx hb dX5_visit_140 (lv_at hl 0 rfl) ?_
  exact eMi S hr hlk hP hD hS dX5_visit_142 rfl (by first | rfl | (unfold c_v0; rfl))

set_option maxHeartbeats 4000000 in
set_option maxRecDepth 100000 in
theorem cc_visit_r2 (l : Launch) (dg : va_G) (cA : Nat → ClassId) (ad : Nat → Nat) (nh ni : Nat) (c : St) (hn : c 0 4 = nI nh) (hn24 : nh ≤ 24) (h : Nat) (hh : h < nh) (v : Nat) (hv : v < 4) (hr0 : c 27 h = nI v) (ht : c 28 h = 0) (hf : c 9 v < 2) (a : Nat) (ha : a < 10) (k : Nat) (h5 : c 0 5 = nI k) (hk5 : k < 512) (h3 : ¬ c 25 h + 1 < 2) (sz : Nat) : MetM l dg cA yX5_visit cX5_visit 6 (some .int) ({ frames := 2, cells := 0, slots := 0, locals := 43 } : Room) 0 0 (cw cA ad nh ni c) sz [.ref (ad 0), .int (nI h), .int 114, .int (nI a)] (cw cA ad nh ni (up (up (up (up (c_v0 c k h v a 114) 25 h (c 25 h + 1)) 26 h (c 26 h ||| 1 <<< (nI v &&& 31))) 21 h 114) 29 h 1)) (some (.int (nI v))) := by
  refine ofM (by decide) (Nat.le_of_ble_eq_true rfl) (own := RX5) rfl (fun p e s0 m args below meth ccd ls A hAe S hr hlk hname hargs hK hP hD hS hA hsz hl => ?_)
  have hx := S.1
  have hb := S.2.1
  have hl : lv_has ls 6 [(0, .ref (ad 0)), (1, .int (nI h)), (2, .int 114), (3, .int (nI a))] := hl
  refine lv_aload_n hx hb dX5_visit_0 rfl (lv_at hl 0 rfl) ?_
  refine lv_iload_n hx hb dX5_visit_1 rfl (lv_at hl 1 rfl) ?_
  refine cR S (cc_hN l dg cA ad nh ni c hn hn24 h hh) kX5_140 ⟨rfl, rfl, Nat.le_of_ble_eq_true rfl, Nat.le_of_ble_eq_true rfl⟩ hK hP 0 cl_0 (q := (RX5, TX5, 9)) rfl rfl (As := [.int (nI h)]) rfl hl.1 (rest := []) rfl (Nat.le_of_ble_eq_true rfl) dX5_visit_2 ⟨Nat.le_of_ble_eq_true rfl, Nat.le_of_ble_eq_true rfl⟩ (st1 := [.ref (ad (30 + h))]) rfl ?_
  refine lv_astore (lv' := [(4, .ref (ad (30 + h))), (0, .ref (ad 0)), (1, .int (nI h)), (2, .int 114), (3, .int (nI a))]) hx hb dX5_visit_5 hl (by decide) rfl (fun ls hl => ?_)
  refine lv_aload_n hx hb dX5_visit_7 rfl (lv_at hl 1 rfl) ?_
  refine lv_iload_n hx hb dX5_visit_8 rfl (lv_at hl 3 rfl) ?_
  refine cR S (cc_rO l dg cA ad nh ni c 114 (by decide)) kX5_144 ⟨rfl, rfl, Nat.le_of_ble_eq_true rfl, Nat.le_of_ble_eq_true rfl⟩ hK hP 0 cl_0 (q := (RX5, TX5, 9)) rfl rfl (As := [.int 114]) rfl hl.1 (rest := []) rfl (Nat.le_of_ble_eq_true rfl) dX5_visit_9 ⟨Nat.le_of_ble_eq_true rfl, Nat.le_of_ble_eq_true rfl⟩ (st1 := []) rfl ?_
  refine lv_aload_n hx hb dX5_visit_12 rfl (lv_at hl 1 rfl) ?_
  refine lv_iload_n hx hb dX5_visit_13 rfl (lv_at hl 4 rfl) ?_
  refine cR S (cc_rA l dg cA ad nh ni c (nI a) (a10 ha).1 (a10 ha).2) kX5_148 ⟨rfl, rfl, Nat.le_of_ble_eq_true rfl, Nat.le_of_ble_eq_true rfl⟩ hK hP 0 cl_0 (q := (RX5, TX5, 9)) rfl rfl (As := [.int (nI a)]) rfl hl.1 (rest := []) rfl (Nat.le_of_ble_eq_true rfl) dX5_visit_14 ⟨Nat.le_of_ble_eq_true rfl, Nat.le_of_ble_eq_true rfl⟩ (st1 := []) rfl ?_
  refine lv_aload_n hx hb dX5_visit_17 rfl (lv_at hl 1 rfl) ?_
  refine lv_aload hx hb dX5_visit_18 (lv_at hl 0 rfl) ?_
  refine cR S (cc_rV l dg cA ad nh ni c h hh v hv hr0 ht hf) kX5_151 ⟨rfl, rfl, Nat.le_of_ble_eq_true rfl, Nat.le_of_ble_eq_true rfl⟩ hK hP 0 cl_0 (q := (RX5, TX5, 9)) rfl rfl (As := [.ref (ad (30 + h))]) rfl hl.1 (rest := []) rfl (Nat.le_of_ble_eq_true rfl) dX5_visit_20 ⟨Nat.le_of_ble_eq_true rfl, Nat.le_of_ble_eq_true rfl⟩ (st1 := []) rfl ?_
  refine lv_aload hx hb dX5_visit_23 (lv_at hl 0 rfl) ?_
  refine gf S hK hP (22 + h) (cl_h (by omega)) fX5_155 (v := .int (nI v)) (ch_7 hr0) dX5_visit_25 ?_
  refine lv_istore (lv' := [(5, .int (nI v)), (4, .ref (ad (30 + h))), (0, .ref (ad 0)), (1, .int (nI h)), (2, .int 114), (3, .int (nI a))]) hx hb dX5_visit_28 hl (by decide) rfl (fun ls hl => ?_)
  refine lv_aload_n hx hb dX5_visit_30 rfl (lv_at hl 2 rfl) ?_
  refine gf S hK hP 0 cl_0 fX5_41 (v := .ref (ad 20)) cfb_5 dX5_visit_31 ?_
  refine lv_iload_n hx hb dX5_visit_34 rfl (lv_at hl 4 rfl) ?_
  refine lv_iload_n hx hb dX5_visit_35 rfl (lv_at hl 3 rfl) ?_
  refine lv_iload hx hb dX5_visit_36 (lv_at hl 0 rfl) ?_
  refine lv_iload_n hx hb dX5_visit_38 rfl (lv_at hl 5 rfl) ?_
  refine cM S (cc_append l dg cA ad nh ni c 114 (nI h) (nI v) (nI a) k h5 hk5 _) kX5_158 ⟨rfl, rfl, Nat.le_of_ble_eq_true rfl, Nat.le_of_ble_eq_true rfl⟩ hK hP hD hS hA 20 cl_20 (q := (RX1, TX1, 2)) rfl rfl (As := [.int 114, .int (nI h), .int (nI v), .int (nI a)]) rfl hl.1 (rest := []) rfl (Nat.le_of_ble_eq_true rfl) dX5_visit_39 ⟨Nat.le_of_ble_eq_true rfl, Nat.le_of_ble_eq_true rfl⟩ (st1 := []) rfl (fun H locs hP hD hS => ?_)
  have hP : PP dg (cw cA ad nh ni (c_app c k (114, h, v, a))) H := hP
  have hD : va_D A (cw cA ad nh ni (c_app c k (114, h, v, a))) := hD
  refine lv_aload hx hb dX5_visit_42 (lv_at hl 1 rfl) ?_
  refine lv_iconst (v := 1) hx hb dX5_visit_44 (by decide) ?_
  refine pf S hK hP hD hS (22 + h) (cl_h (by omega)) fX5_162 fpX2 rfl (v := .int 1) rfl rfl (Nat.le_of_ble_eq_true rfl) (cs_h_8 (by omega)) dX5_visit_45 (fun H locs hP hD hS => ?_)
  refine lv_aload hx hb dX5_visit_48 (lv_at hl 1 rfl) ?_
  refine lv_dup hx hb dX5_visit_50 rfl ?_
  refine gf S hK hP (22 + h) (cl_h (by omega)) fX5_166 (v := .int (c 23 h)) (ch_3 rfl) dX5_visit_51 ?_
  refine lv_iconst (v := 1) hx hb dX5_visit_54 (by decide) ?_
  refine lv_iadd hx hb dX5_visit_55 ?_
  refine pf S hK hP hD hS (22 + h) (cl_h (by omega)) fX5_166 fpX2 rfl (v := .int ((c 23 h) + 1)) rfl rfl (Nat.le_of_ble_eq_true rfl) (cs_h_3 (by omega)) dX5_visit_56 (fun H locs hP hD hS => ?_)
  refine lv_iload_n hx hb dX5_visit_59 rfl (lv_at hl 4 rfl) ?_
  refine lv_lookup (tgt := 119) (off := 59) hx hb dX5_visit_60 (by decide) (by decide) (by decide) ?_
  refine lv_aload hx hb dX5_visit_119 (lv_at hl 1 rfl) ?_
  refine lv_iload hx hb dX5_visit_121 (lv_at hl 0 rfl) ?_
  refine lv_aload_n hx hb dX5_visit_123 rfl (lv_at hl 2 rfl) ?_
  refine gf S hK hP 0 cl_0 fX5_52 (v := .int ((c_app c k (114, h, v, a)) 0 2)) (cfb_8 rfl) dX5_visit_124 ?_
  refine cM S (cc_refuse2 l dg cA ad nh ni (up (up (c_app c k (114, h, v, a)) 28 h 1) 23 h ((c 23 h) + 1)) h hh (nI v) ((c_app c k (114, h, v, a)) 0 2) h3 _) kX5_175 ⟨rfl, rfl, Nat.le_of_ble_eq_true rfl, Nat.le_of_ble_eq_true rfl⟩ hK hP hD hS hA (22 + h) (cl_h (by omega)) (q := (RX2, TX2, 11)) rfl rfl (As := [.int (nI v), .int ((c_app c k (114, h, v, a)) 0 2)]) rfl hl.1 (rest := []) rfl (Nat.le_of_ble_eq_true rfl) dX5_visit_127 ⟨Nat.le_of_ble_eq_true rfl, Nat.le_of_ble_eq_true rfl⟩ (st1 := []) rfl (fun H locs hP hD hS => ?_)
  refine lv_goto (tgt := 140) hx hb dX5_visit_130 (by decide) ?_
  refine lv_iload hx hb dX5_visit_140 (lv_at hl 0 rfl) ?_
  exact eMi S hr hlk hP hD hS dX5_visit_142 rfl (by first | rfl | (unfold c_v0; rfl))

set_option maxHeartbeats 4000000 in
set_option maxRecDepth 100000 in
theorem cc_visit_e (l : Launch) (dg : va_G) (cA : Nat → ClassId) (ad : Nat → Nat) (nh ni : Nat) (c : St) (hn : c 0 4 = nI nh) (hn24 : nh ≤ 24) (h : Nat) (hh : h < nh) (v : Nat) (hv : v < 4) (hr0 : c 27 h = nI v) (ht : c 28 h = 0) (hf : c 9 v < 2) (a : Nat) (ha : a < 10) (k : Nat) (h5 : c 0 5 = nI k) (hk5 : k < 512) (sz : Nat) : MetM l dg cA yX5_visit cX5_visit 6 (some .int) ({ frames := 2, cells := 0, slots := 0, locals := 42 } : Room) 0 0 (cw cA ad nh ni c) sz [.ref (ad 0), .int (nI h), .int 101, .int (nI a)] (cw cA ad nh ni (up (up (c_v0 c k h v a 101) 21 h 101) 29 h 1)) (some (.int (nI v))) := by
  refine ofM (by decide) (Nat.le_of_ble_eq_true rfl) (own := RX5) rfl (fun p e s0 m args below meth ccd ls A hAe S hr hlk hname hargs hK hP hD hS hA hsz hl => ?_)
  have hx := S.1
  have hb := S.2.1
  have hl : lv_has ls 6 [(0, .ref (ad 0)), (1, .int (nI h)), (2, .int 101), (3, .int (nI a))] := hl
  refine lv_aload_n hx hb dX5_visit_0 rfl (lv_at hl 0 rfl) ?_
  refine lv_iload_n hx hb dX5_visit_1 rfl (lv_at hl 1 rfl) ?_
  refine cR S (cc_hN l dg cA ad nh ni c hn hn24 h hh) kX5_140 ⟨rfl, rfl, Nat.le_of_ble_eq_true rfl, Nat.le_of_ble_eq_true rfl⟩ hK hP 0 cl_0 (q := (RX5, TX5, 9)) rfl rfl (As := [.int (nI h)]) rfl hl.1 (rest := []) rfl (Nat.le_of_ble_eq_true rfl) dX5_visit_2 ⟨Nat.le_of_ble_eq_true rfl, Nat.le_of_ble_eq_true rfl⟩ (st1 := [.ref (ad (30 + h))]) rfl ?_
  refine lv_astore (lv' := [(4, .ref (ad (30 + h))), (0, .ref (ad 0)), (1, .int (nI h)), (2, .int 101), (3, .int (nI a))]) hx hb dX5_visit_5 hl (by decide) rfl (fun ls hl => ?_)
  refine lv_aload_n hx hb dX5_visit_7 rfl (lv_at hl 1 rfl) ?_
  refine lv_iload_n hx hb dX5_visit_8 rfl (lv_at hl 3 rfl) ?_
  refine cR S (cc_rO l dg cA ad nh ni c 101 (by decide)) kX5_144 ⟨rfl, rfl, Nat.le_of_ble_eq_true rfl, Nat.le_of_ble_eq_true rfl⟩ hK hP 0 cl_0 (q := (RX5, TX5, 9)) rfl rfl (As := [.int 101]) rfl hl.1 (rest := []) rfl (Nat.le_of_ble_eq_true rfl) dX5_visit_9 ⟨Nat.le_of_ble_eq_true rfl, Nat.le_of_ble_eq_true rfl⟩ (st1 := []) rfl ?_
  refine lv_aload_n hx hb dX5_visit_12 rfl (lv_at hl 1 rfl) ?_
  refine lv_iload_n hx hb dX5_visit_13 rfl (lv_at hl 4 rfl) ?_
  refine cR S (cc_rA l dg cA ad nh ni c (nI a) (a10 ha).1 (a10 ha).2) kX5_148 ⟨rfl, rfl, Nat.le_of_ble_eq_true rfl, Nat.le_of_ble_eq_true rfl⟩ hK hP 0 cl_0 (q := (RX5, TX5, 9)) rfl rfl (As := [.int (nI a)]) rfl hl.1 (rest := []) rfl (Nat.le_of_ble_eq_true rfl) dX5_visit_14 ⟨Nat.le_of_ble_eq_true rfl, Nat.le_of_ble_eq_true rfl⟩ (st1 := []) rfl ?_
  refine lv_aload_n hx hb dX5_visit_17 rfl (lv_at hl 1 rfl) ?_
  refine lv_aload hx hb dX5_visit_18 (lv_at hl 0 rfl) ?_
  refine cR S (cc_rV l dg cA ad nh ni c h hh v hv hr0 ht hf) kX5_151 ⟨rfl, rfl, Nat.le_of_ble_eq_true rfl, Nat.le_of_ble_eq_true rfl⟩ hK hP 0 cl_0 (q := (RX5, TX5, 9)) rfl rfl (As := [.ref (ad (30 + h))]) rfl hl.1 (rest := []) rfl (Nat.le_of_ble_eq_true rfl) dX5_visit_20 ⟨Nat.le_of_ble_eq_true rfl, Nat.le_of_ble_eq_true rfl⟩ (st1 := []) rfl ?_
  refine lv_aload hx hb dX5_visit_23 (lv_at hl 0 rfl) ?_
  refine gf S hK hP (22 + h) (cl_h (by omega)) fX5_155 (v := .int (nI v)) (ch_7 hr0) dX5_visit_25 ?_
  refine lv_istore (lv' := [(5, .int (nI v)), (4, .ref (ad (30 + h))), (0, .ref (ad 0)), (1, .int (nI h)), (2, .int 101), (3, .int (nI a))]) hx hb dX5_visit_28 hl (by decide) rfl (fun ls hl => ?_)
  refine lv_aload_n hx hb dX5_visit_30 rfl (lv_at hl 2 rfl) ?_
  refine gf S hK hP 0 cl_0 fX5_41 (v := .ref (ad 20)) cfb_5 dX5_visit_31 ?_
  refine lv_iload_n hx hb dX5_visit_34 rfl (lv_at hl 4 rfl) ?_
  refine lv_iload_n hx hb dX5_visit_35 rfl (lv_at hl 3 rfl) ?_
  refine lv_iload hx hb dX5_visit_36 (lv_at hl 0 rfl) ?_
  refine lv_iload_n hx hb dX5_visit_38 rfl (lv_at hl 5 rfl) ?_
  refine cM S (cc_append l dg cA ad nh ni c 101 (nI h) (nI v) (nI a) k h5 hk5 _) kX5_158 ⟨rfl, rfl, Nat.le_of_ble_eq_true rfl, Nat.le_of_ble_eq_true rfl⟩ hK hP hD hS hA 20 cl_20 (q := (RX1, TX1, 2)) rfl rfl (As := [.int 101, .int (nI h), .int (nI v), .int (nI a)]) rfl hl.1 (rest := []) rfl (Nat.le_of_ble_eq_true rfl) dX5_visit_39 ⟨Nat.le_of_ble_eq_true rfl, Nat.le_of_ble_eq_true rfl⟩ (st1 := []) rfl (fun H locs hP hD hS => ?_)
  have hP : PP dg (cw cA ad nh ni (c_app c k (101, h, v, a))) H := hP
  have hD : va_D A (cw cA ad nh ni (c_app c k (101, h, v, a))) := hD
  refine lv_aload hx hb dX5_visit_42 (lv_at hl 1 rfl) ?_
  refine lv_iconst (v := 1) hx hb dX5_visit_44 (by decide) ?_
  refine pf S hK hP hD hS (22 + h) (cl_h (by omega)) fX5_162 fpX2 rfl (v := .int 1) rfl rfl (Nat.le_of_ble_eq_true rfl) (cs_h_8 (by omega)) dX5_visit_45 (fun H locs hP hD hS => ?_)
  refine lv_aload hx hb dX5_visit_48 (lv_at hl 1 rfl) ?_
  refine lv_dup hx hb dX5_visit_50 rfl ?_
  refine gf S hK hP (22 + h) (cl_h (by omega)) fX5_166 (v := .int (c 23 h)) (ch_3 rfl) dX5_visit_51 ?_
  refine lv_iconst (v := 1) hx hb dX5_visit_54 (by decide) ?_
  refine lv_iadd hx hb dX5_visit_55 ?_
  refine pf S hK hP hD hS (22 + h) (cl_h (by omega)) fX5_166 fpX2 rfl (v := .int ((c 23 h) + 1)) rfl rfl (Nat.le_of_ble_eq_true rfl) (cs_h_3 (by omega)) dX5_visit_56 (fun H locs hP hD hS => ?_)
  refine lv_iload_n hx hb dX5_visit_59 rfl (lv_at hl 4 rfl) ?_
  refine lv_lookup (tgt := 133) (off := 73) hx hb dX5_visit_60 (by decide) (by decide) (by decide) ?_
  refine lv_aload hx hb dX5_visit_133 (lv_at hl 1 rfl) ?_
  refine lv_bipush (v := 101) hx hb dX5_visit_135 (by decide) ?_
  refine cM S (cc_lose l dg cA ad nh ni (up (up (c_app c k (101, h, v, a)) 28 h 1) 23 h ((c 23 h) + 1)) h (by omega) 101 rfl rfl _) kX5_179 ⟨rfl, rfl, Nat.le_of_ble_eq_true rfl, Nat.le_of_ble_eq_true rfl⟩ hK hP hD hS hA (22 + h) (cl_h (by omega)) (q := (RX2, TX2, 11)) rfl rfl (As := [.int 101]) rfl hl.1 (rest := []) rfl (Nat.le_of_ble_eq_true rfl) dX5_visit_137 ⟨Nat.le_of_ble_eq_true rfl, Nat.le_of_ble_eq_true rfl⟩ (st1 := []) rfl (fun H locs hP hD hS => ?_)
  refine lv_iload hx hb dX5_visit_140 (lv_at hl 0 rfl) ?_
  exact eMi S hr hlk hP hD hS dX5_visit_142 rfl (by first | rfl | (unfold c_v0; rfl))
