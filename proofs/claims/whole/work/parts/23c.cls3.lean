set_option maxHeartbeats 4000000 in
set_option maxRecDepth 100000 in
theorem cc_fitGs_ks (l : Launch) (dg : va_G) (cA : Nat → ClassId) (ad : Nat → Nat) (nh ni : Nat) (c : St) (n : Nat) (hn24 : n ≤ 24) (sz : Nat) : MetM l dg cA yX4_fitGroups cX4_fitGroups 6 none ({ frames := 3, cells := 0, slots := 0, locals := 79 } : Room) 0 0 (cw cA ad nh ni c) sz [.ref (ad 8), .ref (ad 2), .ref (ad 4), .int (nI n)] (cw cA ad nh ni (upr c 8 (cs_g (c 5) (c 1) (c 3) n (c 8) 4))) none := by
  refine ofM (by decide) (Nat.le_of_ble_eq_true rfl) (own := RX4) rfl (fun p e s0 m args below meth ccd ls A hAe S hr hlk hname hargs hK hP hD hS hA hsz hl => ?_)
  have hx := S.1
  have hb := S.2.1
  have hl : lv_has ls 6 [(0, .ref (ad 8)), (1, .ref (ad 2)), (2, .ref (ad 4)), (3, .int (nI n))] := hl
  refine lv_iconst (v := 0) hx hb dX4_fitGroups_0 (by decide) ?_
  refine lv_istore (lv' := [(4, .int 0), (0, .ref (ad 8)), (1, .ref (ad 2)), (2, .ref (ad 4)), (3, .int (nI n))]) hx hb dX4_fitGroups_1 hl (by decide) rfl (fun ls hl => ?_)
  have hL3 : ∀ (f : Nat) (q : Nat), 4 - q < f → (q ≤ 4) → ∀ ls, lv_has ls 6 [(0, .ref (ad 8)), (1, .ref (ad 2)), (2, .ref (ad 4)), (3, .int (nI n)), (4, .int (nI q))] → ∀ (H : Heap) (locs : List Loc), PP dg (cw cA ad nh ni (upr c 8 (cs_g (c 5) (c 1) (c 3) n (c 8) q))) H → va_D A (cw cA ad nh ni (upr c 8 (cs_g (c 5) (c 1) (c 3) n (c 8) q))) → va_S A s0.heap H locs → W p l e ({ frames := 3, cells := 0, slots := 0, locals := 79 } : Room) s0 m args below meth ccd H locs 0 0 (MQ below (QcM dg (cw cA ad nh ni (upr c 8 (cs_g (c 5) (c 1) (c 3) n (c 8) 4))) none A) args s0 0 0 A) (F0 m 3 ls []) := by
    intro f
    induction f with
    | zero => intro q hm; exact absurd hm (Nat.not_lt_zero _)
    | succ f ih3 =>
      intro q hm3 hq ls hl H locs hP hD hS
      refine lv_iload hx hb dX4_fitGroups_3 (lv_at hl 4 rfl) ?_
      refine lv_aload_n hx hb dX4_fitGroups_5 rfl (lv_at hl 2 rfl) ?_
      refine va_alen (v := 4) hx hb hK hP 4 0 cl_4 rfl rfl dX4_fitGroups_6 ?_
      refine lv_icmp_ge (tgt := 45) hx hb dX4_fitGroups_7 (by decide) (fun b7 => ?_) (fun b7 => ?_)
      · skip
        have g7 : 4 ≤ q := (nI_leI (a := 4) (b := q) (by omega) (by omega)).mp b7
        exact eMv S hr hlk hP hD hS dX4_fitGroups_45 (by rw [show q = 4 by omega])
      · skip
        have g7 : ¬ 4 ≤ q := fun zz => b7 ((nI_leI (a := 4) (b := q) (by omega) (by omega)).mpr zz)
        refine lv_aload_n hx hb dX4_fitGroups_10 rfl (lv_at hl 0 rfl) ?_
        refine lv_aload_n hx hb dX4_fitGroups_11 rfl (lv_at hl 1 rfl) ?_
        refine lv_iload hx hb dX4_fitGroups_12 (lv_at hl 4 rfl) ?_
        refine lv_iload_n hx hb dX4_fitGroups_14 rfl (lv_at hl 3 rfl) ?_
        refine cR S (cc_memG_ks l dg cA ad nh ni (upr c 8 (cs_g (c 5) (c 1) (c 3) n (c 8) q)) (nI q) n hn24) kX4_58 ⟨rfl, rfl, Nat.le_of_ble_eq_true rfl, Nat.le_of_ble_eq_true rfl⟩ hK hP 8 cl_8 (q := (RX4, TX4, 5)) rfl rfl (As := [.ref (ad 2), .int (nI q), .int (nI n)]) rfl hl.1 (rest := []) rfl (Nat.le_of_ble_eq_true rfl) dX4_fitGroups_15 ⟨Nat.le_of_ble_eq_true rfl, Nat.le_of_ble_eq_true rfl⟩ (st1 := [.int (nI (ct (tmem (c 5) (c 1) (nI q)) n))]) rfl ?_
        refine lv_istore (lv' := [(5, .int (nI (ct (tmem (c 5) (c 1) (nI q)) n))), (0, .ref (ad 8)), (1, .ref (ad 2)), (2, .ref (ad 4)), (3, .int (nI n)), (4, .int (nI q))]) hx hb dX4_fitGroups_18 hl (by decide) rfl (fun ls hl => ?_)
        have hctl := ct_le (tmem (c 5) (c 1) (nI q)) n
        refine lv_iload hx hb dX4_fitGroups_20 (lv_at hl 0 rfl) ?_
        refine lv_if_le (tgt := 39) hx hb dX4_fitGroups_22 (by decide) (fun b22 => ?_) (fun b22 => ?_)
        · skip
          have g22 : ct (tmem (c 5) (c 1) (nI q)) n ≤ 0 := (nI_leI (a := ct (tmem (c 5) (c 1) (nI q)) n) (b := 0) (by omega) (by omega)).mp b22
          refine lv_iinc (v := nI (q + 1)) (lv' := [(4, .int (nI (q + 1))), (5, .int (nI (ct (tmem (c 5) (c 1) (nI q)) n))), (0, .ref (ad 8)), (1, .ref (ad 2)), (2, .ref (ad 4)), (3, .int (nI n))]) hx hb dX4_fitGroups_39 hl (k := 5) rfl (nI_1 q) (by decide) rfl (fun ls hl => ?_)
          refine lv_goto (tgt := 3) hx hb dX4_fitGroups_42 (by decide) ?_
          have es : (cw cA ad nh ni (upr c 8 (cs_g (c 5) (c 1) (c 3) n (c 8) q))) = (cw cA ad nh ni (upr c 8 (cs_g (c 5) (c 1) (c 3) n (c 8) (q + 1)))) := by rw [cs_g_f (by omega)]
          rw [es] at hP hD
          exact ih3 (q + 1) (by omega) (by omega) ls (lv_sub hl [2, 3, 4, 5, 0] rfl) _ _ hP hD hS
        · skip
          have g22 : ¬ ct (tmem (c 5) (c 1) (nI q)) n ≤ 0 := fun zz => b22 ((nI_leI (a := ct (tmem (c 5) (c 1) (nI q)) n) (b := 0) (by omega) (by omega)).mpr zz)
          refine lv_aload_n hx hb dX4_fitGroups_25 rfl (lv_at hl 1 rfl) ?_
          refine lv_aload_n hx hb dX4_fitGroups_26 rfl (lv_at hl 2 rfl) ?_
          refine lv_iload hx hb dX4_fitGroups_27 (lv_at hl 5 rfl) ?_
          refine lv_aload_n hx hb dX4_fitGroups_29 rfl (lv_at hl 3 rfl) ?_
          refine lv_iload hx hb dX4_fitGroups_30 (lv_at hl 5 rfl) ?_
          refine ild S hK hP 4 cl_4 (j := q) (by omega) (Nat.le_of_ble_eq_true rfl) dX4_fitGroups_32 ?_
          refine lv_as (y := c 3 q) rfl ?_
          refine lv_iload_n hx hb dX4_fitGroups_33 rfl (lv_at hl 4 rfl) ?_
          refine lv_iload hx hb dX4_fitGroups_34 (lv_at hl 0 rfl) ?_
          refine cM S (cc_fitG_ks l dg cA ad nh ni (upr c 8 (cs_g (c 5) (c 1) (c 3) n (c 8) q)) (nI q) (c 3 q) n hn24 (show 0 < ct (tmem (c 5) (c 1) (nI q)) n by omega) _) kX4_62 ⟨rfl, rfl, Nat.le_of_ble_eq_true rfl, Nat.le_of_ble_eq_true rfl⟩ hK hP hD hS hA 8 cl_8 (q := (RX4, TX4, 5)) rfl rfl (As := [.ref (ad 2), .int (nI q), .int (c 3 q), .int (nI n), .int (nI (ct (tmem (c 5) (c 1) (nI q)) n))]) rfl hl.1 (rest := []) rfl (Nat.le_of_ble_eq_true rfl) dX4_fitGroups_36 ⟨Nat.le_of_ble_eq_true rfl, Nat.le_of_ble_eq_true rfl⟩ (st1 := []) rfl (fun H locs hP hD hS => ?_)
          have hP : PP dg (cw cA ad nh ni (upr (upr c 8 (cs_g (c 5) (c 1) (c 3) n (c 8) q)) 8 (cs_fit (tmem (c 5) (c 1) (nI q)) (cs_g (c 5) (c 1) (c 3) n (c 8) q) (c 3 q) n))) H := hP
          have hD : va_D A (cw cA ad nh ni (upr (upr c 8 (cs_g (c 5) (c 1) (c 3) n (c 8) q)) 8 (cs_fit (tmem (c 5) (c 1) (nI q)) (cs_g (c 5) (c 1) (c 3) n (c 8) q) (c 3 q) n))) := hD
          refine lv_iinc (v := nI (q + 1)) (lv' := [(4, .int (nI (q + 1))), (5, .int (nI (ct (tmem (c 5) (c 1) (nI q)) n))), (0, .ref (ad 8)), (1, .ref (ad 2)), (2, .ref (ad 4)), (3, .int (nI n))]) hx hb dX4_fitGroups_39 hl (k := 5) rfl (nI_1 q) (by decide) rfl (fun ls hl => ?_)
          refine lv_goto (tgt := 3) hx hb dX4_fitGroups_42 (by decide) ?_
          have es : (cw cA ad nh ni (upr (upr c 8 (cs_g (c 5) (c 1) (c 3) n (c 8) q)) 8 (cs_fit (tmem (c 5) (c 1) (nI q)) (cs_g (c 5) (c 1) (c 3) n (c 8) q) (c 3 q) n))) = (cw cA ad nh ni (upr c 8 (cs_g (c 5) (c 1) (c 3) n (c 8) (q + 1)))) := by rw [upr_upr, cs_g_t (by omega)]
          rw [es] at hP hD
          exact ih3 (q + 1) (by omega) (by omega) ls (lv_sub hl [2, 3, 4, 5, 0] rfl) _ _ hP hD hS
  have es : (cw cA ad nh ni c) = (cw cA ad nh ni (upr c 8 (cs_g (c 5) (c 1) (c 3) n (c 8) 0))) := congrArg (cw cA ad nh ni) upr_self.symm
  rw [es] at hP hD
  exact hL3 _ 0 (Nat.lt_succ_self _) (Nat.zero_le _) ls (lv_cast (lv_sub (l' := [(0, .ref (ad 8)), (1, .ref (ad 2)), (2, .ref (ad 4)), (3, .int (nI n)), (4, .int 0)]) hl [1, 2, 3, 4, 0] rfl) (by rfl)) _ _ hP hD hS

set_option maxHeartbeats 4000000 in
set_option maxRecDepth 100000 in
theorem cc_fitGs_kl (l : Launch) (dg : va_G) (cA : Nat → ClassId) (ad : Nat → Nat) (nh ni : Nat) (c : St) (n : Nat) (hn24 : n ≤ 24) (sz : Nat) : MetM l dg cA yX4_fitGroups cX4_fitGroups 6 none ({ frames := 3, cells := 0, slots := 0, locals := 79 } : Room) 0 0 (cw cA ad nh ni c) sz [.ref (ad 8), .ref (ad 3), .ref (ad 5), .int (nI n)] (cw cA ad nh ni (upr c 8 (cs_g (c 5) (c 2) (c 4) n (c 8) 3))) none := by
  refine ofM (by decide) (Nat.le_of_ble_eq_true rfl) (own := RX4) rfl (fun p e s0 m args below meth ccd ls A hAe S hr hlk hname hargs hK hP hD hS hA hsz hl => ?_)
  have hx := S.1
  have hb := S.2.1
  have hl : lv_has ls 6 [(0, .ref (ad 8)), (1, .ref (ad 3)), (2, .ref (ad 5)), (3, .int (nI n))] := hl
  refine lv_iconst (v := 0) hx hb dX4_fitGroups_0 (by decide) ?_
  refine lv_istore (lv' := [(4, .int 0), (0, .ref (ad 8)), (1, .ref (ad 3)), (2, .ref (ad 5)), (3, .int (nI n))]) hx hb dX4_fitGroups_1 hl (by decide) rfl (fun ls hl => ?_)
  have hL3 : ∀ (f : Nat) (q : Nat), 3 - q < f → (q ≤ 3) → ∀ ls, lv_has ls 6 [(0, .ref (ad 8)), (1, .ref (ad 3)), (2, .ref (ad 5)), (3, .int (nI n)), (4, .int (nI q))] → ∀ (H : Heap) (locs : List Loc), PP dg (cw cA ad nh ni (upr c 8 (cs_g (c 5) (c 2) (c 4) n (c 8) q))) H → va_D A (cw cA ad nh ni (upr c 8 (cs_g (c 5) (c 2) (c 4) n (c 8) q))) → va_S A s0.heap H locs → W p l e ({ frames := 3, cells := 0, slots := 0, locals := 79 } : Room) s0 m args below meth ccd H locs 0 0 (MQ below (QcM dg (cw cA ad nh ni (upr c 8 (cs_g (c 5) (c 2) (c 4) n (c 8) 3))) none A) args s0 0 0 A) (F0 m 3 ls []) := by
    intro f
    induction f with
    | zero => intro q hm; exact absurd hm (Nat.not_lt_zero _)
    | succ f ih3 =>
      intro q hm3 hq ls hl H locs hP hD hS
      refine lv_iload hx hb dX4_fitGroups_3 (lv_at hl 4 rfl) ?_
      refine lv_aload_n hx hb dX4_fitGroups_5 rfl (lv_at hl 2 rfl) ?_
      refine va_alen (v := 3) hx hb hK hP 5 0 cl_5 rfl rfl dX4_fitGroups_6 ?_
      refine lv_icmp_ge (tgt := 45) hx hb dX4_fitGroups_7 (by decide) (fun b7 => ?_) (fun b7 => ?_)
      · skip
        have g7 : 3 ≤ q := (nI_leI (a := 3) (b := q) (by omega) (by omega)).mp b7
        exact eMv S hr hlk hP hD hS dX4_fitGroups_45 (by rw [show q = 3 by omega])
      · skip
        have g7 : ¬ 3 ≤ q := fun zz => b7 ((nI_leI (a := 3) (b := q) (by omega) (by omega)).mpr zz)
        refine lv_aload_n hx hb dX4_fitGroups_10 rfl (lv_at hl 0 rfl) ?_
        refine lv_aload_n hx hb dX4_fitGroups_11 rfl (lv_at hl 1 rfl) ?_
        refine lv_iload hx hb dX4_fitGroups_12 (lv_at hl 4 rfl) ?_
        refine lv_iload_n hx hb dX4_fitGroups_14 rfl (lv_at hl 3 rfl) ?_
        refine cR S (cc_memG_kl l dg cA ad nh ni (upr c 8 (cs_g (c 5) (c 2) (c 4) n (c 8) q)) (nI q) n hn24) kX4_58 ⟨rfl, rfl, Nat.le_of_ble_eq_true rfl, Nat.le_of_ble_eq_true rfl⟩ hK hP 8 cl_8 (q := (RX4, TX4, 5)) rfl rfl (As := [.ref (ad 3), .int (nI q), .int (nI n)]) rfl hl.1 (rest := []) rfl (Nat.le_of_ble_eq_true rfl) dX4_fitGroups_15 ⟨Nat.le_of_ble_eq_true rfl, Nat.le_of_ble_eq_true rfl⟩ (st1 := [.int (nI (ct (tmem (c 5) (c 2) (nI q)) n))]) rfl ?_
        refine lv_istore (lv' := [(5, .int (nI (ct (tmem (c 5) (c 2) (nI q)) n))), (0, .ref (ad 8)), (1, .ref (ad 3)), (2, .ref (ad 5)), (3, .int (nI n)), (4, .int (nI q))]) hx hb dX4_fitGroups_18 hl (by decide) rfl (fun ls hl => ?_)
        have hctl := ct_le (tmem (c 5) (c 2) (nI q)) n
        refine lv_iload hx hb dX4_fitGroups_20 (lv_at hl 0 rfl) ?_
        refine lv_if_le (tgt := 39) hx hb dX4_fitGroups_22 (by decide) (fun b22 => ?_) (fun b22 => ?_)
        · skip
          have g22 : ct (tmem (c 5) (c 2) (nI q)) n ≤ 0 := (nI_leI (a := ct (tmem (c 5) (c 2) (nI q)) n) (b := 0) (by omega) (by omega)).mp b22
          refine lv_iinc (v := nI (q + 1)) (lv' := [(4, .int (nI (q + 1))), (5, .int (nI (ct (tmem (c 5) (c 2) (nI q)) n))), (0, .ref (ad 8)), (1, .ref (ad 3)), (2, .ref (ad 5)), (3, .int (nI n))]) hx hb dX4_fitGroups_39 hl (k := 5) rfl (nI_1 q) (by decide) rfl (fun ls hl => ?_)
          refine lv_goto (tgt := 3) hx hb dX4_fitGroups_42 (by decide) ?_
          have es : (cw cA ad nh ni (upr c 8 (cs_g (c 5) (c 2) (c 4) n (c 8) q))) = (cw cA ad nh ni (upr c 8 (cs_g (c 5) (c 2) (c 4) n (c 8) (q + 1)))) := by rw [cs_g_f (by omega)]
          rw [es] at hP hD
          exact ih3 (q + 1) (by omega) (by omega) ls (lv_sub hl [2, 3, 4, 5, 0] rfl) _ _ hP hD hS
        · skip
          have g22 : ¬ ct (tmem (c 5) (c 2) (nI q)) n ≤ 0 := fun zz => b22 ((nI_leI (a := ct (tmem (c 5) (c 2) (nI q)) n) (b := 0) (by omega) (by omega)).mpr zz)
          refine lv_aload_n hx hb dX4_fitGroups_25 rfl (lv_at hl 1 rfl) ?_
          refine lv_aload_n hx hb dX4_fitGroups_26 rfl (lv_at hl 2 rfl) ?_
          refine lv_iload hx hb dX4_fitGroups_27 (lv_at hl 5 rfl) ?_
          refine lv_aload_n hx hb dX4_fitGroups_29 rfl (lv_at hl 3 rfl) ?_
          refine lv_iload hx hb dX4_fitGroups_30 (lv_at hl 5 rfl) ?_
          refine ild S hK hP 5 cl_5 (j := q) (by omega) (Nat.le_of_ble_eq_true rfl) dX4_fitGroups_32 ?_
          refine lv_as (y := c 4 q) rfl ?_
          refine lv_iload_n hx hb dX4_fitGroups_33 rfl (lv_at hl 4 rfl) ?_
          refine lv_iload hx hb dX4_fitGroups_34 (lv_at hl 0 rfl) ?_
          refine cM S (cc_fitG_kl l dg cA ad nh ni (upr c 8 (cs_g (c 5) (c 2) (c 4) n (c 8) q)) (nI q) (c 4 q) n hn24 (show 0 < ct (tmem (c 5) (c 2) (nI q)) n by omega) _) kX4_62 ⟨rfl, rfl, Nat.le_of_ble_eq_true rfl, Nat.le_of_ble_eq_true rfl⟩ hK hP hD hS hA 8 cl_8 (q := (RX4, TX4, 5)) rfl rfl (As := [.ref (ad 3), .int (nI q), .int (c 4 q), .int (nI n), .int (nI (ct (tmem (c 5) (c 2) (nI q)) n))]) rfl hl.1 (rest := []) rfl (Nat.le_of_ble_eq_true rfl) dX4_fitGroups_36 ⟨Nat.le_of_ble_eq_true rfl, Nat.le_of_ble_eq_true rfl⟩ (st1 := []) rfl (fun H locs hP hD hS => ?_)
          have hP : PP dg (cw cA ad nh ni (upr (upr c 8 (cs_g (c 5) (c 2) (c 4) n (c 8) q)) 8 (cs_fit (tmem (c 5) (c 2) (nI q)) (cs_g (c 5) (c 2) (c 4) n (c 8) q) (c 4 q) n))) H := hP
          have hD : va_D A (cw cA ad nh ni (upr (upr c 8 (cs_g (c 5) (c 2) (c 4) n (c 8) q)) 8 (cs_fit (tmem (c 5) (c 2) (nI q)) (cs_g (c 5) (c 2) (c 4) n (c 8) q) (c 4 q) n))) := hD
          refine lv_iinc (v := nI (q + 1)) (lv' := [(4, .int (nI (q + 1))), (5, .int (nI (ct (tmem (c 5) (c 2) (nI q)) n))), (0, .ref (ad 8)), (1, .ref (ad 3)), (2, .ref (ad 5)), (3, .int (nI n))]) hx hb dX4_fitGroups_39 hl (k := 5) rfl (nI_1 q) (by decide) rfl (fun ls hl => ?_)
          refine lv_goto (tgt := 3) hx hb dX4_fitGroups_42 (by decide) ?_
          have es : (cw cA ad nh ni (upr (upr c 8 (cs_g (c 5) (c 2) (c 4) n (c 8) q)) 8 (cs_fit (tmem (c 5) (c 2) (nI q)) (cs_g (c 5) (c 2) (c 4) n (c 8) q) (c 4 q) n))) = (cw cA ad nh ni (upr c 8 (cs_g (c 5) (c 2) (c 4) n (c 8) (q + 1)))) := by rw [upr_upr, cs_g_t (by omega)]
          rw [es] at hP hD
          exact ih3 (q + 1) (by omega) (by omega) ls (lv_sub hl [2, 3, 4, 5, 0] rfl) _ _ hP hD hS
  have es : (cw cA ad nh ni c) = (cw cA ad nh ni (upr c 8 (cs_g (c 5) (c 2) (c 4) n (c 8) 0))) := congrArg (cw cA ad nh ni) upr_self.symm
  rw [es] at hP hD
  exact hL3 _ 0 (Nat.lt_succ_self _) (Nat.zero_le _) ls (lv_cast (lv_sub (l' := [(0, .ref (ad 8)), (1, .ref (ad 3)), (2, .ref (ad 5)), (3, .int (nI n)), (4, .int 0)]) hl [1, 2, 3, 4, 0] rfl) (by rfl)) _ _ hP hD hS

set_option maxHeartbeats 4000000 in
set_option maxRecDepth 100000 in
theorem cc_fitTo_k (l : Launch) (dg : va_G) (cA : Nat → ClassId) (ad : Nat → Nat) (nh ni : Nat) (c : St) (hn : c 0 4 = nI nh) (hn24 : nh ≤ 24) (sz : Nat) : MetM l dg cA yX4_fitTo cX4_fitTo 3 none ({ frames := 4, cells := 0, slots := 0, locals := 104 } : Room) 0 0 (cw cA ad nh ni c) sz [.ref (ad 8), .ref (ad 1)] (cw cA ad nh ni (upr c 8 (cs_wt c 5 nh))) none := by
  refine ofM (by decide) (Nat.le_of_ble_eq_true rfl) (own := RX4) rfl (fun p e s0 m args below meth ccd ls A hAe S hr hlk hname hargs hK hP hD hS hA hsz hl => ?_)
  have hx := S.1
  have hb := S.2.1
  have hl : lv_has ls 3 [(0, .ref (ad 8)), (1, .ref (ad 1))] := hl
  refine lv_iconst (v := 0) hx hb dX4_fitTo_0 (by decide) ?_
  refine lv_istore_n (lv' := [(2, .int 0), (0, .ref (ad 8)), (1, .ref (ad 1))]) hx hb dX4_fitTo_1 rfl hl (by decide) rfl (fun ls hl => ?_)
  have hL2 : ∀ (f : Nat) (j : Nat), 24 - j < f → (j ≤ 24) → ∀ ls, lv_has ls 3 [(0, .ref (ad 8)), (1, .ref (ad 1)), (2, .int (nI j))] → ∀ (H : Heap) (locs : List Loc), PP dg (cw cA ad nh ni (upr c 8 (cs_w0 (c 5) (c 8) j))) H → va_D A (cw cA ad nh ni (upr c 8 (cs_w0 (c 5) (c 8) j))) → va_S A s0.heap H locs → W p l e ({ frames := 4, cells := 0, slots := 0, locals := 104 } : Room) s0 m args below meth ccd H locs 0 0 (MQ below (QcM dg (cw cA ad nh ni (upr c 8 (cs_wt c 5 nh))) none A) args s0 0 0 A) (F0 m 2 ls []) := by
    intro f
    induction f with
    | zero => intro j hm; exact absurd hm (Nat.not_lt_zero _)
    | succ f ih2 =>
      intro j hm2 hj ls hl H locs hP hD hS
      refine lv_iload_n hx hb dX4_fitTo_2 rfl (lv_at hl 2 rfl) ?_
      refine lv_aload_n hx hb dX4_fitTo_3 rfl (lv_at hl 0 rfl) ?_
      refine gf S hK hP 8 cl_8 fX4_22 (v := .ref (ad 12)) ct0_3 dX4_fitTo_4 ?_
      refine va_alen (v := 24) hx hb hK hP 12 0 cl_12 rfl rfl dX4_fitTo_7 ?_
      refine lv_icmp_ge (tgt := 39) hx hb dX4_fitTo_8 (by decide) (fun b8 => ?_) (fun b8 => ?_)
      · skip
        have g8 : 24 ≤ j := (nI_leI (a := 24) (b := j) (by omega) (by omega)).mp b8
        have ej : j = 24 := by omega
        rw [ej] at hl hP hD
        refine lv_iconst (v := 0) hx hb dX4_fitTo_39 (by decide) ?_
        refine lv_istore_n (lv' := [(2, .int 0), (0, .ref (ad 8)), (1, .ref (ad 1))]) hx hb dX4_fitTo_40 rfl hl (by decide) rfl (fun ls hl => ?_)
        have hL41 : ∀ (f : Nat) (t : Nat), 3 - t < f → (t ≤ 3) → ∀ ls, lv_has ls 3 [(0, .ref (ad 8)), (1, .ref (ad 1)), (2, .int (nI t))] → ∀ (H : Heap) (locs : List Loc), PP dg (cw cA ad nh ni (upr c 8 (cs_t c 5 nh t))) H → va_D A (cw cA ad nh ni (upr c 8 (cs_t c 5 nh t))) → va_S A s0.heap H locs → W p l e ({ frames := 4, cells := 0, slots := 0, locals := 104 } : Room) s0 m args below meth ccd H locs 0 0 (MQ below (QcM dg (cw cA ad nh ni (upr c 8 (cs_wt c 5 nh))) none A) args s0 0 0 A) (F0 m 41 ls []) := by
          intro f
          induction f with
          | zero => intro t hm; exact absurd hm (Nat.not_lt_zero _)
          | succ f ih41 =>
            intro t hm41 ht ls hl H locs hP hD hS
            refine lv_iload_n hx hb dX4_fitTo_41 rfl (lv_at hl 2 rfl) ?_
            refine lv_iconst (v := 3) hx hb dX4_fitTo_42 (by decide) ?_
            refine lv_icmp_ge (tgt := 84) hx hb dX4_fitTo_43 (by decide) (fun b43 => ?_) (fun b43 => ?_)
            · skip
              have g43 : 3 ≤ t := (nI_leI (a := 3) (b := t) (by omega) (by omega)).mp b43
              have et : t = 3 := by omega
              rw [et] at hl hP hD
              refine lv_aload_n hx hb dX4_fitTo_84 rfl (lv_at hl 0 rfl) ?_
              refine lv_aload_n hx hb dX4_fitTo_85 rfl (lv_at hl 1 rfl) ?_
              refine gf S hK hP 1 cl_1 fX4_36 (v := .ref (ad 2)) cfr_0 dX4_fitTo_86 ?_
              refine lv_aload_n hx hb dX4_fitTo_89 rfl (lv_at hl 1 rfl) ?_
              refine gf S hK hP 1 cl_1 fX4_41 (v := .ref (ad 4)) cfr_2 dX4_fitTo_90 ?_
              refine lv_aload_n hx hb dX4_fitTo_93 rfl (lv_at hl 1 rfl) ?_
              refine gf S hK hP 1 cl_1 fX4_44 (v := .int (nI nh)) (cfr_5 hn) dX4_fitTo_94 ?_
              refine cM S (cc_fitGs_ks l dg cA ad nh ni (upr c 8 (cs_t c 5 nh 3)) nh hn24 _) kX4_48 ⟨rfl, rfl, Nat.le_of_ble_eq_true rfl, Nat.le_of_ble_eq_true rfl⟩ hK hP hD hS hA 8 cl_8 (q := (RX4, TX4, 5)) rfl rfl (As := [.ref (ad 2), .ref (ad 4), .int (nI nh)]) rfl hl.1 (rest := []) rfl (Nat.le_of_ble_eq_true rfl) dX4_fitTo_97 ⟨Nat.le_of_ble_eq_true rfl, Nat.le_of_ble_eq_true rfl⟩ (st1 := []) rfl (fun H locs hP hD hS => ?_)
              have hP : PP dg (cw cA ad nh ni (upr (upr c 8 (cs_t c 5 nh 3)) 8 (cs_g (c 5) (c 1) (c 3) nh (cs_t c 5 nh 3) 4))) H := hP
              have hD : va_D A (cw cA ad nh ni (upr (upr c 8 (cs_t c 5 nh 3)) 8 (cs_g (c 5) (c 1) (c 3) nh (cs_t c 5 nh 3) 4))) := hD
              exact eMv S hr hlk hP hD hS dX4_fitTo_100 (by simp only [upr_upr]; rfl)
            · skip
              have g43 : ¬ 3 ≤ t := fun zz => b43 ((nI_leI (a := 3) (b := t) (by omega) (by omega)).mpr zz)
              refine lv_aload_n hx hb dX4_fitTo_46 rfl (lv_at hl 0 rfl) ?_
              refine lv_aload_n hx hb dX4_fitTo_47 rfl (lv_at hl 1 rfl) ?_
              refine gf S hK hP 1 cl_1 fX4_36 (v := .ref (ad 2)) cfr_0 dX4_fitTo_48 ?_
              refine lv_aload_n hx hb dX4_fitTo_51 rfl (lv_at hl 1 rfl) ?_
              refine gf S hK hP 1 cl_1 fX4_41 (v := .ref (ad 4)) cfr_2 dX4_fitTo_52 ?_
              refine lv_aload_n hx hb dX4_fitTo_55 rfl (lv_at hl 1 rfl) ?_
              refine gf S hK hP 1 cl_1 fX4_44 (v := .int (nI nh)) (cfr_5 hn) dX4_fitTo_56 ?_
              refine cM S (cc_fitGs_ks l dg cA ad nh ni (upr c 8 (cs_t c 5 nh t)) nh hn24 _) kX4_48 ⟨rfl, rfl, Nat.le_of_ble_eq_true rfl, Nat.le_of_ble_eq_true rfl⟩ hK hP hD hS hA 8 cl_8 (q := (RX4, TX4, 5)) rfl rfl (As := [.ref (ad 2), .ref (ad 4), .int (nI nh)]) rfl hl.1 (rest := []) rfl (Nat.le_of_ble_eq_true rfl) dX4_fitTo_59 ⟨Nat.le_of_ble_eq_true rfl, Nat.le_of_ble_eq_true rfl⟩ (st1 := []) rfl (fun H locs hP hD hS => ?_)
              have hP : PP dg (cw cA ad nh ni (upr (upr c 8 (cs_t c 5 nh t)) 8 (cs_g (c 5) (c 1) (c 3) nh (cs_t c 5 nh t) 4))) H := hP
              have hD : va_D A (cw cA ad nh ni (upr (upr c 8 (cs_t c 5 nh t)) 8 (cs_g (c 5) (c 1) (c 3) nh (cs_t c 5 nh t) 4))) := hD
              refine lv_aload_n hx hb dX4_fitTo_62 rfl (lv_at hl 0 rfl) ?_
              refine lv_aload_n hx hb dX4_fitTo_63 rfl (lv_at hl 1 rfl) ?_
              refine gf S hK hP 1 cl_1 fX4_52 (v := .ref (ad 3)) cfr_1 dX4_fitTo_64 ?_
              refine lv_aload_n hx hb dX4_fitTo_67 rfl (lv_at hl 1 rfl) ?_
              refine gf S hK hP 1 cl_1 fX4_55 (v := .ref (ad 5)) cfr_3 dX4_fitTo_68 ?_
              refine lv_aload_n hx hb dX4_fitTo_71 rfl (lv_at hl 1 rfl) ?_
              refine gf S hK hP 1 cl_1 fX4_44 (v := .int (nI nh)) (cfr_5 hn) dX4_fitTo_72 ?_
              refine cM S (cc_fitGs_kl l dg cA ad nh ni (upr (upr c 8 (cs_t c 5 nh t)) 8 (cs_g (c 5) (c 1) (c 3) nh (cs_t c 5 nh t) 4)) nh hn24 _) kX4_48 ⟨rfl, rfl, Nat.le_of_ble_eq_true rfl, Nat.le_of_ble_eq_true rfl⟩ hK hP hD hS hA 8 cl_8 (q := (RX4, TX4, 5)) rfl rfl (As := [.ref (ad 3), .ref (ad 5), .int (nI nh)]) rfl hl.1 (rest := []) rfl (Nat.le_of_ble_eq_true rfl) dX4_fitTo_75 ⟨Nat.le_of_ble_eq_true rfl, Nat.le_of_ble_eq_true rfl⟩ (st1 := []) rfl (fun H locs hP hD hS => ?_)
              have hP : PP dg (cw cA ad nh ni (upr (upr (upr c 8 (cs_t c 5 nh t)) 8 (cs_g (c 5) (c 1) (c 3) nh (cs_t c 5 nh t) 4)) 8 (cs_g (c 5) (c 2) (c 4) nh (cs_g (c 5) (c 1) (c 3) nh (cs_t c 5 nh t) 4) 3))) H := hP
              have hD : va_D A (cw cA ad nh ni (upr (upr (upr c 8 (cs_t c 5 nh t)) 8 (cs_g (c 5) (c 1) (c 3) nh (cs_t c 5 nh t) 4)) 8 (cs_g (c 5) (c 2) (c 4) nh (cs_g (c 5) (c 1) (c 3) nh (cs_t c 5 nh t) 4) 3))) := hD
              refine lv_iinc (v := nI (t + 1)) (lv' := [(2, .int (nI (t + 1))), (0, .ref (ad 8)), (1, .ref (ad 1))]) hx hb dX4_fitTo_78 hl (k := 2) rfl (nI_1 t) (by decide) rfl (fun ls hl => ?_)
              refine lv_goto (tgt := 41) hx hb dX4_fitTo_81 (by decide) ?_
              have es : (cw cA ad nh ni (upr (upr (upr c 8 (cs_t c 5 nh t)) 8 (cs_g (c 5) (c 1) (c 3) nh (cs_t c 5 nh t) 4)) 8 (cs_g (c 5) (c 2) (c 4) nh (cs_g (c 5) (c 1) (c 3) nh (cs_t c 5 nh t) 4) 3))) = (cw cA ad nh ni (upr c 8 (cs_t c 5 nh (t + 1)))) := by simp only [upr_upr]; rfl
              rw [es] at hP hD
              exact ih41 (t + 1) (by omega) (by omega) ls (lv_sub hl [1, 2, 0] rfl) _ _ hP hD hS
        have es : (cw cA ad nh ni (upr c 8 (cs_w0 (c 5) (c 8) 24))) = (cw cA ad nh ni (upr c 8 (cs_t c 5 nh 0))) := rfl
        rw [es] at hP hD
        exact hL41 _ 0 (Nat.lt_succ_self _) (Nat.zero_le _) ls (lv_cast (lv_sub (l' := [(0, .ref (ad 8)), (1, .ref (ad 1)), (2, .int 0)]) hl [1, 2, 0] rfl) (by rfl)) _ _ hP hD hS
      · skip
        have g8 : ¬ 24 ≤ j := fun zz => b8 ((nI_leI (a := 24) (b := j) (by omega) (by omega)).mpr zz)
        refine lv_aload_n hx hb dX4_fitTo_11 rfl (lv_at hl 0 rfl) ?_
        refine gf S hK hP 8 cl_8 fX4_22 (v := .ref (ad 12)) ct0_3 dX4_fitTo_12 ?_
        refine lv_iload_n hx hb dX4_fitTo_15 rfl (lv_at hl 2 rfl) ?_
        refine lv_aload_n hx hb dX4_fitTo_16 rfl (lv_at hl 0 rfl) ?_
        refine gf S hK hP 8 cl_8 fX4_9 (v := .ref (ad 9)) ct0_0 dX4_fitTo_17 ?_
        refine lv_iload_n hx hb dX4_fitTo_20 rfl (lv_at hl 2 rfl) ?_
        refine zld S hK hP 9 cl_9 (j := j) (by omega) (Nat.le_of_ble_eq_true rfl) dX4_fitTo_21 ?_
        refine lv_as (y := c 5 j) rfl ?_
        refine lv_if_eq (tgt := 31) hx hb dX4_fitTo_22 (by decide) (fun b22 => ?_) (fun b22 => ?_)
        · skip
          refine lv_iconst (v := 0) hx hb dX4_fitTo_31 (by decide) ?_
          refine ist S hK hP hD hS 12 cl_12 (j := j) (x := 0) (by omega) (Nat.le_of_ble_eq_true rfl) cs_12 dX4_fitTo_32 (fun H locs hP hD hS => ?_)
          refine lv_iinc (v := nI (j + 1)) (lv' := [(2, .int (nI (j + 1))), (0, .ref (ad 8)), (1, .ref (ad 1))]) hx hb dX4_fitTo_33 hl (k := 2) rfl (nI_1 j) (by decide) rfl (fun ls hl => ?_)
          refine lv_goto (tgt := 2) hx hb dX4_fitTo_36 (by decide) ?_
          have es : (cw cA ad nh ni (up (upr c 8 (cs_w0 (c 5) (c 8) j)) 8 j 0)) = (cw cA ad nh ni (upr c 8 (cs_w0 (c 5) (c 8) (j + 1)))) := by rw [up_upr, cs_w0_t b22]
          rw [es] at hP hD
          exact ih2 (j + 1) (by omega) (by omega) ls (lv_sub hl [1, 2, 0] rfl) _ _ hP hD hS
        · skip
          refine lv_sipush (v := 1000) hx hb dX4_fitTo_25 (by decide) ?_
          refine lv_goto (tgt := 32) hx hb dX4_fitTo_28 (by decide) ?_
          refine ist S hK hP hD hS 12 cl_12 (j := j) (x := 1000) (by omega) (Nat.le_of_ble_eq_true rfl) cs_12 dX4_fitTo_32 (fun H locs hP hD hS => ?_)
          refine lv_iinc (v := nI (j + 1)) (lv' := [(2, .int (nI (j + 1))), (0, .ref (ad 8)), (1, .ref (ad 1))]) hx hb dX4_fitTo_33 hl (k := 2) rfl (nI_1 j) (by decide) rfl (fun ls hl => ?_)
          refine lv_goto (tgt := 2) hx hb dX4_fitTo_36 (by decide) ?_
          have es : (cw cA ad nh ni (up (upr c 8 (cs_w0 (c 5) (c 8) j)) 8 j 1000)) = (cw cA ad nh ni (upr c 8 (cs_w0 (c 5) (c 8) (j + 1)))) := by rw [up_upr, cs_w0_f b22]
          rw [es] at hP hD
          exact ih2 (j + 1) (by omega) (by omega) ls (lv_sub hl [1, 2, 0] rfl) _ _ hP hD hS
  have es : (cw cA ad nh ni c) = (cw cA ad nh ni (upr c 8 (cs_w0 (c 5) (c 8) 0))) := congrArg (cw cA ad nh ni) upr_self.symm
  rw [es] at hP hD
  exact hL2 _ 0 (Nat.lt_succ_self _) (Nat.zero_le _) ls (lv_cast (lv_sub (l' := [(0, .ref (ad 8)), (1, .ref (ad 1)), (2, .int 0)]) hl [1, 2, 0] rfl) (by rfl)) _ _ hP hD hS

set_option maxHeartbeats 4000000 in
set_option maxRecDepth 100000 in
theorem cc_take_k (l : Launch) (dg : va_G) (cA : Nat → ClassId) (ad : Nat → Nat) (nh ni : Nat) (c : St) (h : Nat) (hh : h < 24) (v a : Int32) (sz : Nat) : MetM l dg cA yX4_take cX4_take 4 none ({ frames := 0, cells := 0, slots := 0, locals := 0 } : Room) 0 0 (cw cA ad nh ni c) sz [.ref (ad 8), .int (nI h), .int v, .int a] (cw cA ad nh ni (up (up (up c 5 h 1) 6 h a) 7 h v)) none := by
  refine ofM (by decide) (Nat.le_of_ble_eq_true rfl) (own := RX4) rfl (fun p e s0 m args below meth ccd ls A hAe S hr hlk hname hargs hK hP hD hS hA hsz hl => ?_)
  have hx := S.1
  have hb := S.2.1
  have hl : lv_has ls 4 [(0, .ref (ad 8)), (1, .int (nI h)), (2, .int v), (3, .int a)] := hl
  refine lv_aload_n hx hb dX4_take_0 rfl (lv_at hl 0 rfl) ?_
  refine gf S hK hP 8 cl_8 fX4_9 (v := .ref (ad 9)) ct0_0 dX4_take_1 ?_
  refine lv_iload_n hx hb dX4_take_4 rfl (lv_at hl 1 rfl) ?_
  refine lv_iconst (v := 1) hx hb dX4_take_5 (by decide) ?_
  refine zst S hK hP hD hS 9 cl_9 (j := h) (x := 1) (by omega) (Nat.le_of_ble_eq_true rfl) rfl cs_9 dX4_take_6 (fun H locs hP hD hS => ?_)
  refine lv_aload_n hx hb dX4_take_7 rfl (lv_at hl 0 rfl) ?_
  refine gf S hK hP 8 cl_8 fX4_15 (v := .ref (ad 10)) ct0_1 dX4_take_8 ?_
  refine lv_iload_n hx hb dX4_take_11 rfl (lv_at hl 1 rfl) ?_
  refine lv_iload_n hx hb dX4_take_12 rfl (lv_at hl 3 rfl) ?_
  refine ist S hK hP hD hS 10 cl_10 (j := h) (x := a) (by omega) (Nat.le_of_ble_eq_true rfl) cs_10 dX4_take_13 (fun H locs hP hD hS => ?_)
  refine lv_aload_n hx hb dX4_take_14 rfl (lv_at hl 0 rfl) ?_
  refine gf S hK hP 8 cl_8 fX4_19 (v := .ref (ad 11)) ct0_2 dX4_take_15 ?_
  refine lv_iload_n hx hb dX4_take_18 rfl (lv_at hl 1 rfl) ?_
  refine lv_iload_n hx hb dX4_take_19 rfl (lv_at hl 2 rfl) ?_
  refine ist S hK hP hD hS 11 cl_11 (j := h) (x := v) (by omega) (Nat.le_of_ble_eq_true rfl) cs_11 dX4_take_20 (fun H locs hP hD hS => ?_)
  exact eMv S hr hlk hP hD hS dX4_take_21 rfl

set_option maxHeartbeats 4000000 in
set_option maxRecDepth 100000 in
theorem cc_barred1_k (l : Launch) (dg : va_G) (cA : Nat → ClassId) (ad : Nat → Nat) (nh ni : Nat) (c : St) (v : Nat) (hv : v < 4) (x : Int32) (hxx : c 9 v = x) (h2 : ¬ x < 2) : MetR l dg cA yX4_isBarred cX4_isBarred 2 (some .boolean) ({ frames := 0, cells := 0, slots := 0, locals := 0 } : Room) (cw cA ad nh ni c) [.ref (ad 8), .int (nI v)] (some (.int 1)) := by
  refine ofR (by decide) (Nat.le_of_ble_eq_true rfl) (own := RX4) rfl (fun p e s0 m args below meth ccd ls S hr hlk hargs hK hP hl => ?_)
  have hx := S.1
  have hb := S.2.1
  have hl : lv_has ls 2 [(0, .ref (ad 8)), (1, .int (nI v))] := hl
  refine lv_aload_n hx hb dX4_isBarred_0 rfl (lv_at hl 0 rfl) ?_
  refine gf S hK hP 8 cl_8 fX4_25 (v := .ref (ad 13)) ct0_4 dX4_isBarred_1 ?_
  refine lv_iload_n hx hb dX4_isBarred_4 rfl (lv_at hl 1 rfl) ?_
  refine ild S hK hP 13 cl_13 (j := v) (by omega) (Nat.le_of_ble_eq_true rfl) dX4_isBarred_5 ?_
  refine lv_as (y := x) hxx ?_
  refine lv_iconst (v := 2) hx hb dX4_isBarred_6 (by decide) ?_
  refine lv_icmp_lt (tgt := 14) hx hb dX4_isBarred_7 (by decide) (fun b7 => ?_) (fun b7 => ?_)
  · skip
    exact absurd b7 h2
  · skip
    refine lv_iconst (v := 1) hx hb dX4_isBarred_10 (by decide) ?_
    refine lv_goto (tgt := 15) hx hb dX4_isBarred_11 (by decide) ?_
    exact eRz S hr hlk dX4_isBarred_15 rfl rfl

set_option maxHeartbeats 4000000 in
set_option maxRecDepth 100000 in
theorem cc_barred0_k (l : Launch) (dg : va_G) (cA : Nat → ClassId) (ad : Nat → Nat) (nh ni : Nat) (c : St) (v : Nat) (hv : v < 4) (x : Int32) (hxx : c 9 v = x) (h2 : x < 2) : MetR l dg cA yX4_isBarred cX4_isBarred 2 (some .boolean) ({ frames := 0, cells := 0, slots := 0, locals := 0 } : Room) (cw cA ad nh ni c) [.ref (ad 8), .int (nI v)] (some (.int 0)) := by
  refine ofR (by decide) (Nat.le_of_ble_eq_true rfl) (own := RX4) rfl (fun p e s0 m args below meth ccd ls S hr hlk hargs hK hP hl => ?_)
  have hx := S.1
  have hb := S.2.1
  have hl : lv_has ls 2 [(0, .ref (ad 8)), (1, .int (nI v))] := hl
  refine lv_aload_n hx hb dX4_isBarred_0 rfl (lv_at hl 0 rfl) ?_
  refine gf S hK hP 8 cl_8 fX4_25 (v := .ref (ad 13)) ct0_4 dX4_isBarred_1 ?_
  refine lv_iload_n hx hb dX4_isBarred_4 rfl (lv_at hl 1 rfl) ?_
  refine ild S hK hP 13 cl_13 (j := v) (by omega) (Nat.le_of_ble_eq_true rfl) dX4_isBarred_5 ?_
  refine lv_as (y := x) hxx ?_
  refine lv_iconst (v := 2) hx hb dX4_isBarred_6 (by decide) ?_
  refine lv_icmp_lt (tgt := 14) hx hb dX4_isBarred_7 (by decide) (fun b7 => ?_) (fun b7 => ?_)
  · skip
    refine lv_iconst (v := 0) hx hb dX4_isBarred_14 (by decide) ?_
    exact eRz S hr hlk dX4_isBarred_15 rfl rfl
  · skip
    exact absurd h2 b7

set_option maxHeartbeats 4000000 in
set_option maxRecDepth 100000 in
theorem cc_drop_k (l : Launch) (dg : va_G) (cA : Nat → ClassId) (ad : Nat → Nat) (nh ni : Nat) (c : St) (v : Int32) (sz : Nat) : MetM l dg cA yX4_dropAnswersTo cX4_dropAnswersTo 3 none ({ frames := 0, cells := 0, slots := 0, locals := 0 } : Room) 0 0 (cw cA ad nh ni c) sz [.ref (ad 8), .int v] (cw cA ad nh ni (upr c 5 (c_dr (c 7) v (c 5) 24))) none := by
  refine ofM (by decide) (Nat.le_of_ble_eq_true rfl) (own := RX4) rfl (fun p e s0 m args below meth ccd ls A hAe S hr hlk hname hargs hK hP hD hS hA hsz hl => ?_)
  have hx := S.1
  have hb := S.2.1
  have hl : lv_has ls 3 [(0, .ref (ad 8)), (1, .int v)] := hl
  refine lv_iconst (v := 0) hx hb dX4_dropAnswersTo_0 (by decide) ?_
  refine lv_istore_n (lv' := [(2, .int 0), (0, .ref (ad 8)), (1, .int v)]) hx hb dX4_dropAnswersTo_1 rfl hl (by decide) rfl (fun ls hl => ?_)
  have hL2 : ∀ (f : Nat) (j : Nat), 24 - j < f → (j ≤ 24) → ∀ ls, lv_has ls 3 [(0, .ref (ad 8)), (1, .int v), (2, .int (nI j))] → ∀ (H : Heap) (locs : List Loc), PP dg (cw cA ad nh ni (upr c 5 (c_dr (c 7) v (c 5) j))) H → va_D A (cw cA ad nh ni (upr c 5 (c_dr (c 7) v (c 5) j))) → va_S A s0.heap H locs → W p l e ({ frames := 0, cells := 0, slots := 0, locals := 0 } : Room) s0 m args below meth ccd H locs 0 0 (MQ below (QcM dg (cw cA ad nh ni (upr c 5 (c_dr (c 7) v (c 5) 24))) none A) args s0 0 0 A) (F0 m 2 ls []) := by
    intro f
    induction f with
    | zero => intro j hm; exact absurd hm (Nat.not_lt_zero _)
    | succ f ih2 =>
      intro j hm2 hj ls hl H locs hP hD hS
      refine lv_iload_n hx hb dX4_dropAnswersTo_2 rfl (lv_at hl 2 rfl) ?_
      refine lv_aload_n hx hb dX4_dropAnswersTo_3 rfl (lv_at hl 0 rfl) ?_
      refine gf S hK hP 8 cl_8 fX4_9 (v := .ref (ad 9)) ct0_0 dX4_dropAnswersTo_4 ?_
      refine va_alen (v := 24) hx hb hK hP 9 1 cl_9 rfl rfl dX4_dropAnswersTo_7 ?_
      refine lv_icmp_ge (tgt := 34) hx hb dX4_dropAnswersTo_8 (by decide) (fun b8 => ?_) (fun b8 => ?_)
      · skip
        have g8 : 24 ≤ j := (nI_leI (a := 24) (b := j) (by omega) (by omega)).mp b8
        exact eMv S hr hlk hP hD hS dX4_dropAnswersTo_34 (by rw [show j = 24 by omega])
      · skip
        have g8 : ¬ 24 ≤ j := fun zz => b8 ((nI_leI (a := 24) (b := j) (by omega) (by omega)).mpr zz)
        refine lv_aload_n hx hb dX4_dropAnswersTo_11 rfl (lv_at hl 0 rfl) ?_
        refine gf S hK hP 8 cl_8 fX4_19 (v := .ref (ad 11)) ct0_2 dX4_dropAnswersTo_12 ?_
        refine lv_iload_n hx hb dX4_dropAnswersTo_15 rfl (lv_at hl 2 rfl) ?_
        refine ild S hK hP 11 cl_11 (j := j) (by omega) (Nat.le_of_ble_eq_true rfl) dX4_dropAnswersTo_16 ?_
        refine lv_as (y := c 7 j) rfl ?_
        refine lv_iload_n hx hb dX4_dropAnswersTo_17 rfl (lv_at hl 1 rfl) ?_
        refine lv_icmp_ne (tgt := 28) hx hb dX4_dropAnswersTo_18 (by decide) (fun b18 => ?_) (fun b18 => ?_)
        · skip
          refine lv_iinc (v := nI (j + 1)) (lv' := [(2, .int (nI (j + 1))), (0, .ref (ad 8)), (1, .int v)]) hx hb dX4_dropAnswersTo_28 hl (k := 2) rfl (nI_1 j) (by decide) rfl (fun ls hl => ?_)
          refine lv_goto (tgt := 2) hx hb dX4_dropAnswersTo_31 (by decide) ?_
          have es : (cw cA ad nh ni (upr c 5 (c_dr (c 7) v (c 5) j))) = (cw cA ad nh ni (upr c 5 (c_dr (c 7) v (c 5) (j + 1)))) := by rw [c_dr_f b18]
          rw [es] at hP hD
          exact ih2 (j + 1) (by omega) (by omega) ls (lv_sub hl [1, 2, 0] rfl) _ _ hP hD hS
        · skip
          refine lv_aload_n hx hb dX4_dropAnswersTo_21 rfl (lv_at hl 0 rfl) ?_
          refine gf S hK hP 8 cl_8 fX4_9 (v := .ref (ad 9)) ct0_0 dX4_dropAnswersTo_22 ?_
          refine lv_iload_n hx hb dX4_dropAnswersTo_25 rfl (lv_at hl 2 rfl) ?_
          refine lv_iconst (v := 0) hx hb dX4_dropAnswersTo_26 (by decide) ?_
          refine zst S hK hP hD hS 9 cl_9 (j := j) (x := 0) (by omega) (Nat.le_of_ble_eq_true rfl) rfl cs_9 dX4_dropAnswersTo_27 (fun H locs hP hD hS => ?_)
          refine lv_iinc (v := nI (j + 1)) (lv' := [(2, .int (nI (j + 1))), (0, .ref (ad 8)), (1, .int v)]) hx hb dX4_dropAnswersTo_28 hl (k := 2) rfl (nI_1 j) (by decide) rfl (fun ls hl => ?_)
          refine lv_goto (tgt := 2) hx hb dX4_dropAnswersTo_31 (by decide) ?_
          have es : (cw cA ad nh ni (up (upr c 5 (c_dr (c 7) v (c 5) j)) 5 j 0)) = (cw cA ad nh ni (upr c 5 (c_dr (c 7) v (c 5) (j + 1)))) := by rw [up_upr, c_dr_t b18]
          rw [es] at hP hD
          exact ih2 (j + 1) (by omega) (by omega) ls (lv_sub hl [1, 2, 0] rfl) _ _ hP hD hS
  have es : (cw cA ad nh ni c) = (cw cA ad nh ni (upr c 5 (c_dr (c 7) v (c 5) 0))) := congrArg (cw cA ad nh ni) upr_self.symm
  rw [es] at hP hD
  exact hL2 _ 0 (Nat.lt_succ_self _) (Nat.zero_le _) ls (lv_cast (lv_sub (l' := [(0, .ref (ad 8)), (1, .int v), (2, .int 0)]) hl [1, 2, 0] rfl) (by rfl)) _ _ hP hD hS

set_option maxHeartbeats 4000000 in
set_option maxRecDepth 100000 in
theorem cc_ask0_k (l : Launch) (dg : va_G) (cA : Nat → ClassId) (ad : Nat → Nat) (nh ni : Nat) (c : St) (h : Nat) (hh : h < 24) (a : Int32) (h0 : c 5 h = 0) (sz : Nat) : MetM l dg cA yX4_askAgain cX4_askAgain 4 (some .boolean) ({ frames := 0, cells := 0, slots := 0, locals := 0 } : Room) 0 0 (cw cA ad nh ni c) sz [.ref (ad 8), .int (nI h), .int a] (cw cA ad nh ni c) (some (.int 0)) := by
  refine ofM (by decide) (Nat.le_of_ble_eq_true rfl) (own := RX4) rfl (fun p e s0 m args below meth ccd ls A hAe S hr hlk hname hargs hK hP hD hS hA hsz hl => ?_)
  have hx := S.1
  have hb := S.2.1
  have hl : lv_has ls 4 [(0, .ref (ad 8)), (1, .int (nI h)), (2, .int a)] := hl
  refine lv_aload_n hx hb dX4_askAgain_0 rfl (lv_at hl 0 rfl) ?_
  refine gf S hK hP 8 cl_8 fX4_9 (v := .ref (ad 9)) ct0_0 dX4_askAgain_1 ?_
  refine lv_iload_n hx hb dX4_askAgain_4 rfl (lv_at hl 1 rfl) ?_
  refine zld S hK hP 9 cl_9 (j := h) (by omega) (Nat.le_of_ble_eq_true rfl) dX4_askAgain_5 ?_
  refine lv_as (y := 0) h0 ?_
  refine lv_if_eq (tgt := 19) hx hb dX4_askAgain_6 (by decide) (fun b6 => ?_) (fun b6 => ?_)
  · skip
    refine lv_iconst (v := 0) hx hb dX4_askAgain_19 (by decide) ?_
    exact eMz S hr hlk hP hD hS dX4_askAgain_20 rfl rfl rfl
  · skip
    exact False.elim (by revert b6; decide)

set_option maxHeartbeats 4000000 in
set_option maxRecDepth 100000 in
theorem cc_askS_k (l : Launch) (dg : va_G) (cA : Nat → ClassId) (ad : Nat → Nat) (nh ni : Nat) (c : St) (h : Nat) (hh : h < 24) (a : Int32) (h0 : ¬ c 5 h = 0) (h1 : c 6 h = a) (sz : Nat) : MetM l dg cA yX4_askAgain cX4_askAgain 4 (some .boolean) ({ frames := 0, cells := 0, slots := 0, locals := 0 } : Room) 0 0 (cw cA ad nh ni c) sz [.ref (ad 8), .int (nI h), .int a] (cw cA ad nh ni c) (some (.int 0)) := by
  refine ofM (by decide) (Nat.le_of_ble_eq_true rfl) (own := RX4) rfl (fun p e s0 m args below meth ccd ls A hAe S hr hlk hname hargs hK hP hD hS hA hsz hl => ?_)
  have hx := S.1
  have hb := S.2.1
  have hl : lv_has ls 4 [(0, .ref (ad 8)), (1, .int (nI h)), (2, .int a)] := hl
  refine lv_aload_n hx hb dX4_askAgain_0 rfl (lv_at hl 0 rfl) ?_
  refine gf S hK hP 8 cl_8 fX4_9 (v := .ref (ad 9)) ct0_0 dX4_askAgain_1 ?_
  refine lv_iload_n hx hb dX4_askAgain_4 rfl (lv_at hl 1 rfl) ?_
  refine zld S hK hP 9 cl_9 (j := h) (by omega) (Nat.le_of_ble_eq_true rfl) dX4_askAgain_5 ?_
  refine lv_as (y := c 5 h) rfl ?_
  refine lv_if_eq (tgt := 19) hx hb dX4_askAgain_6 (by decide) (fun b6 => ?_) (fun b6 => ?_)
  · skip
    exact absurd b6 h0
  · skip
    refine lv_aload_n hx hb dX4_askAgain_9 rfl (lv_at hl 0 rfl) ?_
    refine gf S hK hP 8 cl_8 fX4_15 (v := .ref (ad 10)) ct0_1 dX4_askAgain_10 ?_
    refine lv_iload_n hx hb dX4_askAgain_13 rfl (lv_at hl 1 rfl) ?_
    refine ild S hK hP 10 cl_10 (j := h) (by omega) (Nat.le_of_ble_eq_true rfl) dX4_askAgain_14 ?_
    refine lv_as (y := c 6 h) rfl ?_
    refine lv_iload_n hx hb dX4_askAgain_15 rfl (lv_at hl 2 rfl) ?_
    refine lv_icmp_ne (tgt := 21) hx hb dX4_askAgain_16 (by decide) (fun b16 => ?_) (fun b16 => ?_)
    · skip
      exact absurd h1 b16
    · skip
      refine lv_iconst (v := 0) hx hb dX4_askAgain_19 (by decide) ?_
      exact eMz S hr hlk hP hD hS dX4_askAgain_20 rfl rfl rfl

set_option maxHeartbeats 4000000 in
set_option maxRecDepth 100000 in
theorem cc_askD_k (l : Launch) (dg : va_G) (cA : Nat → ClassId) (ad : Nat → Nat) (nh ni : Nat) (c : St) (h : Nat) (hh : h < 24) (a : Int32) (h0 : ¬ c 5 h = 0) (h1 : ¬ c 6 h = a) (v : Nat) (hv : v < 4) (hxv : c 7 h = nI v) (h2 : c 9 v + 1 < 2) (sz : Nat) : MetM l dg cA yX4_askAgain cX4_askAgain 4 (some .boolean) ({ frames := 1, cells := 0, slots := 0, locals := 21 } : Room) 0 0 (cw cA ad nh ni c) sz [.ref (ad 8), .int (nI h), .int a] (cw cA ad nh ni (up c 9 v (c 9 v + 1))) (some (.int 0)) := by
  refine ofM (by decide) (Nat.le_of_ble_eq_true rfl) (own := RX4) rfl (fun p e s0 m args below meth ccd ls A hAe S hr hlk hname hargs hK hP hD hS hA hsz hl => ?_)
  have hx := S.1
  have hb := S.2.1
  have hl : lv_has ls 4 [(0, .ref (ad 8)), (1, .int (nI h)), (2, .int a)] := hl
  refine lv_aload_n hx hb dX4_askAgain_0 rfl (lv_at hl 0 rfl) ?_
  refine gf S hK hP 8 cl_8 fX4_9 (v := .ref (ad 9)) ct0_0 dX4_askAgain_1 ?_
  refine lv_iload_n hx hb dX4_askAgain_4 rfl (lv_at hl 1 rfl) ?_
  refine zld S hK hP 9 cl_9 (j := h) (by omega) (Nat.le_of_ble_eq_true rfl) dX4_askAgain_5 ?_
  refine lv_as (y := c 5 h) rfl ?_
  refine lv_if_eq (tgt := 19) hx hb dX4_askAgain_6 (by decide) (fun b6 => ?_) (fun b6 => ?_)
  · skip
    exact absurd b6 h0
  · skip
    refine lv_aload_n hx hb dX4_askAgain_9 rfl (lv_at hl 0 rfl) ?_
    refine gf S hK hP 8 cl_8 fX4_15 (v := .ref (ad 10)) ct0_1 dX4_askAgain_10 ?_
    refine lv_iload_n hx hb dX4_askAgain_13 rfl (lv_at hl 1 rfl) ?_
    refine ild S hK hP 10 cl_10 (j := h) (by omega) (Nat.le_of_ble_eq_true rfl) dX4_askAgain_14 ?_
    refine lv_as (y := c 6 h) rfl ?_
    refine lv_iload_n hx hb dX4_askAgain_15 rfl (lv_at hl 2 rfl) ?_
    refine lv_icmp_ne (tgt := 21) hx hb dX4_askAgain_16 (by decide) (fun b16 => ?_) (fun b16 => ?_)
    · skip
      refine lv_aload_n hx hb dX4_askAgain_21 rfl (lv_at hl 0 rfl) ?_
      refine gf S hK hP 8 cl_8 fX4_19 (v := .ref (ad 11)) ct0_2 dX4_askAgain_22 ?_
      refine lv_iload_n hx hb dX4_askAgain_25 rfl (lv_at hl 1 rfl) ?_
      refine ild S hK hP 11 cl_11 (j := h) (by omega) (Nat.le_of_ble_eq_true rfl) dX4_askAgain_26 ?_
      refine lv_as (y := nI v) hxv ?_
      refine lv_istore_n (lv' := [(3, .int (nI v)), (0, .ref (ad 8)), (1, .int (nI h)), (2, .int a)]) hx hb dX4_askAgain_27 rfl hl (by decide) rfl (fun ls hl => ?_)
      refine lv_aload_n hx hb dX4_askAgain_28 rfl (lv_at hl 1 rfl) ?_
      refine gf S hK hP 8 cl_8 fX4_25 (v := .ref (ad 13)) ct0_4 dX4_askAgain_29 ?_
      refine lv_iload_n hx hb dX4_askAgain_32 rfl (lv_at hl 0 rfl) ?_
      refine lv_dup2_11 hx hb dX4_askAgain_33 rfl rfl ?_
      refine ild S hK hP 13 cl_13 (j := v) (by omega) (Nat.le_of_ble_eq_true rfl) dX4_askAgain_34 ?_
      refine lv_as (y := c 9 v) rfl ?_
      refine lv_iconst (v := 1) hx hb dX4_askAgain_35 (by decide) ?_
      refine lv_iadd hx hb dX4_askAgain_36 ?_
      refine ist S hK hP hD hS 13 cl_13 (j := v) (x := (c 9 v) + 1) (by omega) (Nat.le_of_ble_eq_true rfl) cs_13 dX4_askAgain_37 (fun H locs hP hD hS => ?_)
      refine lv_aload_n hx hb dX4_askAgain_38 rfl (lv_at hl 1 rfl) ?_
      refine lv_iload_n hx hb dX4_askAgain_39 rfl (lv_at hl 0 rfl) ?_
      refine cR S (cc_barred0_k l dg cA ad nh ni (up c 9 v ((c 9 v) + 1)) v (by omega) ((c 9 v) + 1) up_at h2) kX4_28 ⟨rfl, rfl, Nat.le_of_ble_eq_true rfl, Nat.le_of_ble_eq_true rfl⟩ hK hP 8 cl_8 (q := (RX4, TX4, 5)) rfl rfl (As := [.int (nI v)]) rfl hl.1 (rest := []) rfl (Nat.le_of_ble_eq_true rfl) dX4_askAgain_40 ⟨Nat.le_of_ble_eq_true rfl, Nat.le_of_ble_eq_true rfl⟩ (st1 := [.int 0]) rfl ?_
      refine lv_if_ne (tgt := 48) hx hb dX4_askAgain_43 (by decide) (fun b43 => ?_) (fun b43 => ?_)
      · skip
        exact False.elim (by revert b43; decide)
      · skip
        refine lv_iconst (v := 0) hx hb dX4_askAgain_46 (by decide) ?_
        exact eMz S hr hlk hP hD hS dX4_askAgain_47 rfl rfl rfl
    · skip
      exact absurd b16 h1

set_option maxHeartbeats 4000000 in
set_option maxRecDepth 100000 in
theorem cc_askB_k (l : Launch) (dg : va_G) (cA : Nat → ClassId) (ad : Nat → Nat) (nh ni : Nat) (c : St) (h : Nat) (hh : h < 24) (a : Int32) (h0 : ¬ c 5 h = 0) (h1 : ¬ c 6 h = a) (v : Nat) (hv : v < 4) (hxv : c 7 h = nI v) (h2 : ¬ c 9 v + 1 < 2) (sz : Nat) : MetM l dg cA yX4_askAgain cX4_askAgain 4 (some .boolean) ({ frames := 1, cells := 0, slots := 0, locals := 22 } : Room) 0 0 (cw cA ad nh ni c) sz [.ref (ad 8), .int (nI h), .int a] (cw cA ad nh ni (upr (up c 9 v (c 9 v + 1)) 5 (c_dr (c 7) (nI v) (c 5) 24))) (some (.int 1)) := by
  refine ofM (by decide) (Nat.le_of_ble_eq_true rfl) (own := RX4) rfl (fun p e s0 m args below meth ccd ls A hAe S hr hlk hname hargs hK hP hD hS hA hsz hl => ?_)
  have hx := S.1
  have hb := S.2.1
  have hl : lv_has ls 4 [(0, .ref (ad 8)), (1, .int (nI h)), (2, .int a)] := hl
  refine lv_aload_n hx hb dX4_askAgain_0 rfl (lv_at hl 0 rfl) ?_
  refine gf S hK hP 8 cl_8 fX4_9 (v := .ref (ad 9)) ct0_0 dX4_askAgain_1 ?_
  refine lv_iload_n hx hb dX4_askAgain_4 rfl (lv_at hl 1 rfl) ?_
  refine zld S hK hP 9 cl_9 (j := h) (by omega) (Nat.le_of_ble_eq_true rfl) dX4_askAgain_5 ?_
  refine lv_as (y := c 5 h) rfl ?_
  refine lv_if_eq (tgt := 19) hx hb dX4_askAgain_6 (by decide) (fun b6 => ?_) (fun b6 => ?_)
  · skip
    exact absurd b6 h0
  · skip
    refine lv_aload_n hx hb dX4_askAgain_9 rfl (lv_at hl 0 rfl) ?_
    refine gf S hK hP 8 cl_8 fX4_15 (v := .ref (ad 10)) ct0_1 dX4_askAgain_10 ?_
    refine lv_iload_n hx hb dX4_askAgain_13 rfl (lv_at hl 1 rfl) ?_
    refine ild S hK hP 10 cl_10 (j := h) (by omega) (Nat.le_of_ble_eq_true rfl) dX4_askAgain_14 ?_
    refine lv_as (y := c 6 h) rfl ?_
    refine lv_iload_n hx hb dX4_askAgain_15 rfl (lv_at hl 2 rfl) ?_
    refine lv_icmp_ne (tgt := 21) hx hb dX4_askAgain_16 (by decide) (fun b16 => ?_) (fun b16 => ?_)
    · skip
      refine lv_aload_n hx hb dX4_askAgain_21 rfl (lv_at hl 0 rfl) ?_
      refine gf S hK hP 8 cl_8 fX4_19 (v := .ref (ad 11)) ct0_2 dX4_askAgain_22 ?_
      refine lv_iload_n hx hb dX4_askAgain_25 rfl (lv_at hl 1 rfl) ?_
      refine ild S hK hP 11 cl_11 (j := h) (by omega) (Nat.le_of_ble_eq_true rfl) dX4_askAgain_26 ?_
      refine lv_as (y := nI v) hxv ?_
      refine lv_istore_n (lv' := [(3, .int (nI v)), (0, .ref (ad 8)), (1, .int (nI h)), (2, .int a)]) hx hb dX4_askAgain_27 rfl hl (by decide) rfl (fun ls hl => ?_)
      refine lv_aload_n hx hb dX4_askAgain_28 rfl (lv_at hl 1 rfl) ?_
      refine gf S hK hP 8 cl_8 fX4_25 (v := .ref (ad 13)) ct0_4 dX4_askAgain_29 ?_
      refine lv_iload_n hx hb dX4_askAgain_32 rfl (lv_at hl 0 rfl) ?_
      refine lv_dup2_11 hx hb dX4_askAgain_33 rfl rfl ?_
      refine ild S hK hP 13 cl_13 (j := v) (by omega) (Nat.le_of_ble_eq_true rfl) dX4_askAgain_34 ?_
      refine lv_as (y := c 9 v) rfl ?_
      refine lv_iconst (v := 1) hx hb dX4_askAgain_35 (by decide) ?_
      refine lv_iadd hx hb dX4_askAgain_36 ?_
      refine ist S hK hP hD hS 13 cl_13 (j := v) (x := (c 9 v) + 1) (by omega) (Nat.le_of_ble_eq_true rfl) cs_13 dX4_askAgain_37 (fun H locs hP hD hS => ?_)
      refine lv_aload_n hx hb dX4_askAgain_38 rfl (lv_at hl 1 rfl) ?_
      refine lv_iload_n hx hb dX4_askAgain_39 rfl (lv_at hl 0 rfl) ?_
      refine cR S (cc_barred1_k l dg cA ad nh ni (up c 9 v ((c 9 v) + 1)) v (by omega) ((c 9 v) + 1) up_at h2) kX4_28 ⟨rfl, rfl, Nat.le_of_ble_eq_true rfl, Nat.le_of_ble_eq_true rfl⟩ hK hP 8 cl_8 (q := (RX4, TX4, 5)) rfl rfl (As := [.int (nI v)]) rfl hl.1 (rest := []) rfl (Nat.le_of_ble_eq_true rfl) dX4_askAgain_40 ⟨Nat.le_of_ble_eq_true rfl, Nat.le_of_ble_eq_true rfl⟩ (st1 := [.int 1]) rfl ?_
      refine lv_if_ne (tgt := 48) hx hb dX4_askAgain_43 (by decide) (fun b43 => ?_) (fun b43 => ?_)
      · skip
        refine lv_aload_n hx hb dX4_askAgain_48 rfl (lv_at hl 1 rfl) ?_
        refine lv_iload_n hx hb dX4_askAgain_49 rfl (lv_at hl 0 rfl) ?_
        refine cM S (cc_drop_k l dg cA ad nh ni (up c 9 v ((c 9 v) + 1)) (nI v) _) kX4_32 ⟨rfl, rfl, Nat.le_of_ble_eq_true rfl, Nat.le_of_ble_eq_true rfl⟩ hK hP hD hS hA 8 cl_8 (q := (RX4, TX4, 5)) rfl rfl (As := [.int (nI v)]) rfl hl.1 (rest := []) rfl (Nat.le_of_ble_eq_true rfl) dX4_askAgain_50 ⟨Nat.le_of_ble_eq_true rfl, Nat.le_of_ble_eq_true rfl⟩ (st1 := []) rfl (fun H locs hP hD hS => ?_)
        refine lv_iconst (v := 1) hx hb dX4_askAgain_53 (by decide) ?_
        exact eMz S hr hlk hP hD hS dX4_askAgain_54 rfl rfl rfl
      · skip
        exact False.elim (by revert b43; decide)
    · skip
      exact absurd b16 h1

set_option maxHeartbeats 4000000 in
set_option maxRecDepth 100000 in
theorem cc_fitGs_as (l : Launch) (dg : va_G) (cA : Nat → ClassId) (ad : Nat → Nat) (nh ni : Nat) (c : St) (n : Nat) (hn24 : n ≤ 24) (sz : Nat) : MetM l dg cA yX4_fitGroups cX4_fitGroups 6 none ({ frames := 3, cells := 0, slots := 0, locals := 79 } : Room) 0 0 (cw cA ad nh ni c) sz [.ref (ad 14), .ref (ad 2), .ref (ad 4), .int (nI n)] (cw cA ad nh ni (upr c 13 (cs_g (c 10) (c 1) (c 3) n (c 13) 4))) none := by
  refine ofM (by decide) (Nat.le_of_ble_eq_true rfl) (own := RX4) rfl (fun p e s0 m args below meth ccd ls A hAe S hr hlk hname hargs hK hP hD hS hA hsz hl => ?_)
  have hx := S.1
  have hb := S.2.1
  have hl : lv_has ls 6 [(0, .ref (ad 14)), (1, .ref (ad 2)), (2, .ref (ad 4)), (3, .int (nI n))] := hl
  refine lv_iconst (v := 0) hx hb dX4_fitGroups_0 (by decide) ?_
  refine lv_istore (lv' := [(4, .int 0), (0, .ref (ad 14)), (1, .ref (ad 2)), (2, .ref (ad 4)), (3, .int (nI n))]) hx hb dX4_fitGroups_1 hl (by decide) rfl (fun ls hl => ?_)
  have hL3 : ∀ (f : Nat) (q : Nat), 4 - q < f → (q ≤ 4) → ∀ ls, lv_has ls 6 [(0, .ref (ad 14)), (1, .ref (ad 2)), (2, .ref (ad 4)), (3, .int (nI n)), (4, .int (nI q))] → ∀ (H : Heap) (locs : List Loc), PP dg (cw cA ad nh ni (upr c 13 (cs_g (c 10) (c 1) (c 3) n (c 13) q))) H → va_D A (cw cA ad nh ni (upr c 13 (cs_g (c 10) (c 1) (c 3) n (c 13) q))) → va_S A s0.heap H locs → W p l e ({ frames := 3, cells := 0, slots := 0, locals := 79 } : Room) s0 m args below meth ccd H locs 0 0 (MQ below (QcM dg (cw cA ad nh ni (upr c 13 (cs_g (c 10) (c 1) (c 3) n (c 13) 4))) none A) args s0 0 0 A) (F0 m 3 ls []) := by
    intro f
    induction f with
    | zero => intro q hm; exact absurd hm (Nat.not_lt_zero _)
    | succ f ih3 =>
      intro q hm3 hq ls hl H locs hP hD hS
      refine lv_iload hx hb dX4_fitGroups_3 (lv_at hl 4 rfl) ?_
      refine lv_aload_n hx hb dX4_fitGroups_5 rfl (lv_at hl 2 rfl) ?_
      refine va_alen (v := 4) hx hb hK hP 4 0 cl_4 rfl rfl dX4_fitGroups_6 ?_
      refine lv_icmp_ge (tgt := 45) hx hb dX4_fitGroups_7 (by decide) (fun b7 => ?_) (fun b7 => ?_)
      · skip
        have g7 : 4 ≤ q := (nI_leI (a := 4) (b := q) (by omega) (by omega)).mp b7
        exact eMv S hr hlk hP hD hS dX4_fitGroups_45 (by rw [show q = 4 by omega])
      · skip
        have g7 : ¬ 4 ≤ q := fun zz => b7 ((nI_leI (a := 4) (b := q) (by omega) (by omega)).mpr zz)
        refine lv_aload_n hx hb dX4_fitGroups_10 rfl (lv_at hl 0 rfl) ?_
        refine lv_aload_n hx hb dX4_fitGroups_11 rfl (lv_at hl 1 rfl) ?_
        refine lv_iload hx hb dX4_fitGroups_12 (lv_at hl 4 rfl) ?_
        refine lv_iload_n hx hb dX4_fitGroups_14 rfl (lv_at hl 3 rfl) ?_
        refine cR S (cc_memG_as l dg cA ad nh ni (upr c 13 (cs_g (c 10) (c 1) (c 3) n (c 13) q)) (nI q) n hn24) kX4_58 ⟨rfl, rfl, Nat.le_of_ble_eq_true rfl, Nat.le_of_ble_eq_true rfl⟩ hK hP 14 cl_14 (q := (RX4, TX4, 5)) rfl rfl (As := [.ref (ad 2), .int (nI q), .int (nI n)]) rfl hl.1 (rest := []) rfl (Nat.le_of_ble_eq_true rfl) dX4_fitGroups_15 ⟨Nat.le_of_ble_eq_true rfl, Nat.le_of_ble_eq_true rfl⟩ (st1 := [.int (nI (ct (tmem (c 10) (c 1) (nI q)) n))]) rfl ?_
        refine lv_istore (lv' := [(5, .int (nI (ct (tmem (c 10) (c 1) (nI q)) n))), (0, .ref (ad 14)), (1, .ref (ad 2)), (2, .ref (ad 4)), (3, .int (nI n)), (4, .int (nI q))]) hx hb dX4_fitGroups_18 hl (by decide) rfl (fun ls hl => ?_)
        have hctl := ct_le (tmem (c 10) (c 1) (nI q)) n
        refine lv_iload hx hb dX4_fitGroups_20 (lv_at hl 0 rfl) ?_
        refine lv_if_le (tgt := 39) hx hb dX4_fitGroups_22 (by decide) (fun b22 => ?_) (fun b22 => ?_)
        · skip
          have g22 : ct (tmem (c 10) (c 1) (nI q)) n ≤ 0 := (nI_leI (a := ct (tmem (c 10) (c 1) (nI q)) n) (b := 0) (by omega) (by omega)).mp b22
          refine lv_iinc (v := nI (q + 1)) (lv' := [(4, .int (nI (q + 1))), (5, .int (nI (ct (tmem (c 10) (c 1) (nI q)) n))), (0, .ref (ad 14)), (1, .ref (ad 2)), (2, .ref (ad 4)), (3, .int (nI n))]) hx hb dX4_fitGroups_39 hl (k := 5) rfl (nI_1 q) (by decide) rfl (fun ls hl => ?_)
          refine lv_goto (tgt := 3) hx hb dX4_fitGroups_42 (by decide) ?_
          have es : (cw cA ad nh ni (upr c 13 (cs_g (c 10) (c 1) (c 3) n (c 13) q))) = (cw cA ad nh ni (upr c 13 (cs_g (c 10) (c 1) (c 3) n (c 13) (q + 1)))) := by rw [cs_g_f (by omega)]
          rw [es] at hP hD
          exact ih3 (q + 1) (by omega) (by omega) ls (lv_sub hl [2, 3, 4, 5, 0] rfl) _ _ hP hD hS
        · skip
          have g22 : ¬ ct (tmem (c 10) (c 1) (nI q)) n ≤ 0 := fun zz => b22 ((nI_leI (a := ct (tmem (c 10) (c 1) (nI q)) n) (b := 0) (by omega) (by omega)).mpr zz)
          refine lv_aload_n hx hb dX4_fitGroups_25 rfl (lv_at hl 1 rfl) ?_
          refine lv_aload_n hx hb dX4_fitGroups_26 rfl (lv_at hl 2 rfl) ?_
          refine lv_iload hx hb dX4_fitGroups_27 (lv_at hl 5 rfl) ?_
          refine lv_aload_n hx hb dX4_fitGroups_29 rfl (lv_at hl 3 rfl) ?_
          refine lv_iload hx hb dX4_fitGroups_30 (lv_at hl 5 rfl) ?_
          refine ild S hK hP 4 cl_4 (j := q) (by omega) (Nat.le_of_ble_eq_true rfl) dX4_fitGroups_32 ?_
          refine lv_as (y := c 3 q) rfl ?_
          refine lv_iload_n hx hb dX4_fitGroups_33 rfl (lv_at hl 4 rfl) ?_
          refine lv_iload hx hb dX4_fitGroups_34 (lv_at hl 0 rfl) ?_
          refine cM S (cc_fitG_as l dg cA ad nh ni (upr c 13 (cs_g (c 10) (c 1) (c 3) n (c 13) q)) (nI q) (c 3 q) n hn24 (show 0 < ct (tmem (c 10) (c 1) (nI q)) n by omega) _) kX4_62 ⟨rfl, rfl, Nat.le_of_ble_eq_true rfl, Nat.le_of_ble_eq_true rfl⟩ hK hP hD hS hA 14 cl_14 (q := (RX4, TX4, 5)) rfl rfl (As := [.ref (ad 2), .int (nI q), .int (c 3 q), .int (nI n), .int (nI (ct (tmem (c 10) (c 1) (nI q)) n))]) rfl hl.1 (rest := []) rfl (Nat.le_of_ble_eq_true rfl) dX4_fitGroups_36 ⟨Nat.le_of_ble_eq_true rfl, Nat.le_of_ble_eq_true rfl⟩ (st1 := []) rfl (fun H locs hP hD hS => ?_)
          have hP : PP dg (cw cA ad nh ni (upr (upr c 13 (cs_g (c 10) (c 1) (c 3) n (c 13) q)) 13 (cs_fit (tmem (c 10) (c 1) (nI q)) (cs_g (c 10) (c 1) (c 3) n (c 13) q) (c 3 q) n))) H := hP
          have hD : va_D A (cw cA ad nh ni (upr (upr c 13 (cs_g (c 10) (c 1) (c 3) n (c 13) q)) 13 (cs_fit (tmem (c 10) (c 1) (nI q)) (cs_g (c 10) (c 1) (c 3) n (c 13) q) (c 3 q) n))) := hD
          refine lv_iinc (v := nI (q + 1)) (lv' := [(4, .int (nI (q + 1))), (5, .int (nI (ct (tmem (c 10) (c 1) (nI q)) n))), (0, .ref (ad 14)), (1, .ref (ad 2)), (2, .ref (ad 4)), (3, .int (nI n))]) hx hb dX4_fitGroups_39 hl (k := 5) rfl (nI_1 q) (by decide) rfl (fun ls hl => ?_)
          refine lv_goto (tgt := 3) hx hb dX4_fitGroups_42 (by decide) ?_
          have es : (cw cA ad nh ni (upr (upr c 13 (cs_g (c 10) (c 1) (c 3) n (c 13) q)) 13 (cs_fit (tmem (c 10) (c 1) (nI q)) (cs_g (c 10) (c 1) (c 3) n (c 13) q) (c 3 q) n))) = (cw cA ad nh ni (upr c 13 (cs_g (c 10) (c 1) (c 3) n (c 13) (q + 1)))) := by rw [upr_upr, cs_g_t (by omega)]
          rw [es] at hP hD
          exact ih3 (q + 1) (by omega) (by omega) ls (lv_sub hl [2, 3, 4, 5, 0] rfl) _ _ hP hD hS
  have es : (cw cA ad nh ni c) = (cw cA ad nh ni (upr c 13 (cs_g (c 10) (c 1) (c 3) n (c 13) 0))) := congrArg (cw cA ad nh ni) upr_self.symm
  rw [es] at hP hD
  exact hL3 _ 0 (Nat.lt_succ_self _) (Nat.zero_le _) ls (lv_cast (lv_sub (l' := [(0, .ref (ad 14)), (1, .ref (ad 2)), (2, .ref (ad 4)), (3, .int (nI n)), (4, .int 0)]) hl [1, 2, 3, 4, 0] rfl) (by rfl)) _ _ hP hD hS

set_option maxHeartbeats 4000000 in
set_option maxRecDepth 100000 in
theorem cc_fitGs_al (l : Launch) (dg : va_G) (cA : Nat → ClassId) (ad : Nat → Nat) (nh ni : Nat) (c : St) (n : Nat) (hn24 : n ≤ 24) (sz : Nat) : MetM l dg cA yX4_fitGroups cX4_fitGroups 6 none ({ frames := 3, cells := 0, slots := 0, locals := 79 } : Room) 0 0 (cw cA ad nh ni c) sz [.ref (ad 14), .ref (ad 3), .ref (ad 5), .int (nI n)] (cw cA ad nh ni (upr c 13 (cs_g (c 10) (c 2) (c 4) n (c 13) 3))) none := by
  refine ofM (by decide) (Nat.le_of_ble_eq_true rfl) (own := RX4) rfl (fun p e s0 m args below meth ccd ls A hAe S hr hlk hname hargs hK hP hD hS hA hsz hl => ?_)
  have hx := S.1
  have hb := S.2.1
  have hl : lv_has ls 6 [(0, .ref (ad 14)), (1, .ref (ad 3)), (2, .ref (ad 5)), (3, .int (nI n))] := hl
  refine lv_iconst (v := 0) hx hb dX4_fitGroups_0 (by decide) ?_
  refine lv_istore (lv' := [(4, .int 0), (0, .ref (ad 14)), (1, .ref (ad 3)), (2, .ref (ad 5)), (3, .int (nI n))]) hx hb dX4_fitGroups_1 hl (by decide) rfl (fun ls hl => ?_)
  have hL3 : ∀ (f : Nat) (q : Nat), 3 - q < f → (q ≤ 3) → ∀ ls, lv_has ls 6 [(0, .ref (ad 14)), (1, .ref (ad 3)), (2, .ref (ad 5)), (3, .int (nI n)), (4, .int (nI q))] → ∀ (H : Heap) (locs : List Loc), PP dg (cw cA ad nh ni (upr c 13 (cs_g (c 10) (c 2) (c 4) n (c 13) q))) H → va_D A (cw cA ad nh ni (upr c 13 (cs_g (c 10) (c 2) (c 4) n (c 13) q))) → va_S A s0.heap H locs → W p l e ({ frames := 3, cells := 0, slots := 0, locals := 79 } : Room) s0 m args below meth ccd H locs 0 0 (MQ below (QcM dg (cw cA ad nh ni (upr c 13 (cs_g (c 10) (c 2) (c 4) n (c 13) 3))) none A) args s0 0 0 A) (F0 m 3 ls []) := by
    intro f
    induction f with
    | zero => intro q hm; exact absurd hm (Nat.not_lt_zero _)
    | succ f ih3 =>
      intro q hm3 hq ls hl H locs hP hD hS
      refine lv_iload hx hb dX4_fitGroups_3 (lv_at hl 4 rfl) ?_
      refine lv_aload_n hx hb dX4_fitGroups_5 rfl (lv_at hl 2 rfl) ?_
      refine va_alen (v := 3) hx hb hK hP 5 0 cl_5 rfl rfl dX4_fitGroups_6 ?_
      refine lv_icmp_ge (tgt := 45) hx hb dX4_fitGroups_7 (by decide) (fun b7 => ?_) (fun b7 => ?_)
      · skip
        have g7 : 3 ≤ q := (nI_leI (a := 3) (b := q) (by omega) (by omega)).mp b7
        exact eMv S hr hlk hP hD hS dX4_fitGroups_45 (by rw [show q = 3 by omega])
      · skip
        have g7 : ¬ 3 ≤ q := fun zz => b7 ((nI_leI (a := 3) (b := q) (by omega) (by omega)).mpr zz)
        refine lv_aload_n hx hb dX4_fitGroups_10 rfl (lv_at hl 0 rfl) ?_
        refine lv_aload_n hx hb dX4_fitGroups_11 rfl (lv_at hl 1 rfl) ?_
        refine lv_iload hx hb dX4_fitGroups_12 (lv_at hl 4 rfl) ?_
        refine lv_iload_n hx hb dX4_fitGroups_14 rfl (lv_at hl 3 rfl) ?_
        refine cR S (cc_memG_al l dg cA ad nh ni (upr c 13 (cs_g (c 10) (c 2) (c 4) n (c 13) q)) (nI q) n hn24) kX4_58 ⟨rfl, rfl, Nat.le_of_ble_eq_true rfl, Nat.le_of_ble_eq_true rfl⟩ hK hP 14 cl_14 (q := (RX4, TX4, 5)) rfl rfl (As := [.ref (ad 3), .int (nI q), .int (nI n)]) rfl hl.1 (rest := []) rfl (Nat.le_of_ble_eq_true rfl) dX4_fitGroups_15 ⟨Nat.le_of_ble_eq_true rfl, Nat.le_of_ble_eq_true rfl⟩ (st1 := [.int (nI (ct (tmem (c 10) (c 2) (nI q)) n))]) rfl ?_
        refine lv_istore (lv' := [(5, .int (nI (ct (tmem (c 10) (c 2) (nI q)) n))), (0, .ref (ad 14)), (1, .ref (ad 3)), (2, .ref (ad 5)), (3, .int (nI n)), (4, .int (nI q))]) hx hb dX4_fitGroups_18 hl (by decide) rfl (fun ls hl => ?_)
        have hctl := ct_le (tmem (c 10) (c 2) (nI q)) n
        refine lv_iload hx hb dX4_fitGroups_20 (lv_at hl 0 rfl) ?_
        refine lv_if_le (tgt := 39) hx hb dX4_fitGroups_22 (by decide) (fun b22 => ?_) (fun b22 => ?_)
        · skip
          have g22 : ct (tmem (c 10) (c 2) (nI q)) n ≤ 0 := (nI_leI (a := ct (tmem (c 10) (c 2) (nI q)) n) (b := 0) (by omega) (by omega)).mp b22
          refine lv_iinc (v := nI (q + 1)) (lv' := [(4, .int (nI (q + 1))), (5, .int (nI (ct (tmem (c 10) (c 2) (nI q)) n))), (0, .ref (ad 14)), (1, .ref (ad 3)), (2, .ref (ad 5)), (3, .int (nI n))]) hx hb dX4_fitGroups_39 hl (k := 5) rfl (nI_1 q) (by decide) rfl (fun ls hl => ?_)
          refine lv_goto (tgt := 3) hx hb dX4_fitGroups_42 (by decide) ?_
          have es : (cw cA ad nh ni (upr c 13 (cs_g (c 10) (c 2) (c 4) n (c 13) q))) = (cw cA ad nh ni (upr c 13 (cs_g (c 10) (c 2) (c 4) n (c 13) (q + 1)))) := by rw [cs_g_f (by omega)]
          rw [es] at hP hD
          exact ih3 (q + 1) (by omega) (by omega) ls (lv_sub hl [2, 3, 4, 5, 0] rfl) _ _ hP hD hS
        · skip
          have g22 : ¬ ct (tmem (c 10) (c 2) (nI q)) n ≤ 0 := fun zz => b22 ((nI_leI (a := ct (tmem (c 10) (c 2) (nI q)) n) (b := 0) (by omega) (by omega)).mpr zz)
          refine lv_aload_n hx hb dX4_fitGroups_25 rfl (lv_at hl 1 rfl) ?_
          refine lv_aload_n hx hb dX4_fitGroups_26 rfl (lv_at hl 2 rfl) ?_
          refine lv_iload hx hb dX4_fitGroups_27 (lv_at hl 5 rfl) ?_
          refine lv_aload_n hx hb dX4_fitGroups_29 rfl (lv_at hl 3 rfl) ?_
          refine lv_iload hx hb dX4_fitGroups_30 (lv_at hl 5 rfl) ?_
          refine ild S hK hP 5 cl_5 (j := q) (by omega) (Nat.le_of_ble_eq_true rfl) dX4_fitGroups_32 ?_
          refine lv_as (y := c 4 q) rfl ?_
          refine lv_iload_n hx hb dX4_fitGroups_33 rfl (lv_at hl 4 rfl) ?_
          refine lv_iload hx hb dX4_fitGroups_34 (lv_at hl 0 rfl) ?_
          refine cM S (cc_fitG_al l dg cA ad nh ni (upr c 13 (cs_g (c 10) (c 2) (c 4) n (c 13) q)) (nI q) (c 4 q) n hn24 (show 0 < ct (tmem (c 10) (c 2) (nI q)) n by omega) _) kX4_62 ⟨rfl, rfl, Nat.le_of_ble_eq_true rfl, Nat.le_of_ble_eq_true rfl⟩ hK hP hD hS hA 14 cl_14 (q := (RX4, TX4, 5)) rfl rfl (As := [.ref (ad 3), .int (nI q), .int (c 4 q), .int (nI n), .int (nI (ct (tmem (c 10) (c 2) (nI q)) n))]) rfl hl.1 (rest := []) rfl (Nat.le_of_ble_eq_true rfl) dX4_fitGroups_36 ⟨Nat.le_of_ble_eq_true rfl, Nat.le_of_ble_eq_true rfl⟩ (st1 := []) rfl (fun H locs hP hD hS => ?_)
          have hP : PP dg (cw cA ad nh ni (upr (upr c 13 (cs_g (c 10) (c 2) (c 4) n (c 13) q)) 13 (cs_fit (tmem (c 10) (c 2) (nI q)) (cs_g (c 10) (c 2) (c 4) n (c 13) q) (c 4 q) n))) H := hP
          have hD : va_D A (cw cA ad nh ni (upr (upr c 13 (cs_g (c 10) (c 2) (c 4) n (c 13) q)) 13 (cs_fit (tmem (c 10) (c 2) (nI q)) (cs_g (c 10) (c 2) (c 4) n (c 13) q) (c 4 q) n))) := hD
          refine lv_iinc (v := nI (q + 1)) (lv' := [(4, .int (nI (q + 1))), (5, .int (nI (ct (tmem (c 10) (c 2) (nI q)) n))), (0, .ref (ad 14)), (1, .ref (ad 3)), (2, .ref (ad 5)), (3, .int (nI n))]) hx hb dX4_fitGroups_39 hl (k := 5) rfl (nI_1 q) (by decide) rfl (fun ls hl => ?_)
          refine lv_goto (tgt := 3) hx hb dX4_fitGroups_42 (by decide) ?_
          have es : (cw cA ad nh ni (upr (upr c 13 (cs_g (c 10) (c 2) (c 4) n (c 13) q)) 13 (cs_fit (tmem (c 10) (c 2) (nI q)) (cs_g (c 10) (c 2) (c 4) n (c 13) q) (c 4 q) n))) = (cw cA ad nh ni (upr c 13 (cs_g (c 10) (c 2) (c 4) n (c 13) (q + 1)))) := by rw [upr_upr, cs_g_t (by omega)]
          rw [es] at hP hD
          exact ih3 (q + 1) (by omega) (by omega) ls (lv_sub hl [2, 3, 4, 5, 0] rfl) _ _ hP hD hS
  have es : (cw cA ad nh ni c) = (cw cA ad nh ni (upr c 13 (cs_g (c 10) (c 2) (c 4) n (c 13) 0))) := congrArg (cw cA ad nh ni) upr_self.symm
  rw [es] at hP hD
  exact hL3 _ 0 (Nat.lt_succ_self _) (Nat.zero_le _) ls (lv_cast (lv_sub (l' := [(0, .ref (ad 14)), (1, .ref (ad 3)), (2, .ref (ad 5)), (3, .int (nI n)), (4, .int 0)]) hl [1, 2, 3, 4, 0] rfl) (by rfl)) _ _ hP hD hS

set_option maxHeartbeats 4000000 in
set_option maxRecDepth 100000 in
theorem cc_fitTo_a (l : Launch) (dg : va_G) (cA : Nat → ClassId) (ad : Nat → Nat) (nh ni : Nat) (c : St) (hn : c 0 4 = nI nh) (hn24 : nh ≤ 24) (sz : Nat) : MetM l dg cA yX4_fitTo cX4_fitTo 3 none ({ frames := 4, cells := 0, slots := 0, locals := 104 } : Room) 0 0 (cw cA ad nh ni c) sz [.ref (ad 14), .ref (ad 1)] (cw cA ad nh ni (upr c 13 (cs_wt c 10 nh))) none := by
  refine ofM (by decide) (Nat.le_of_ble_eq_true rfl) (own := RX4) rfl (fun p e s0 m args below meth ccd ls A hAe S hr hlk hname hargs hK hP hD hS hA hsz hl => ?_)
  have hx := S.1
  have hb := S.2.1
  have hl : lv_has ls 3 [(0, .ref (ad 14)), (1, .ref (ad 1))] := hl
  refine lv_iconst (v := 0) hx hb dX4_fitTo_0 (by decide) ?_
  refine lv_istore_n (lv' := [(2, .int 0), (0, .ref (ad 14)), (1, .ref (ad 1))]) hx hb dX4_fitTo_1 rfl hl (by decide) rfl (fun ls hl => ?_)
  have hL2 : ∀ (f : Nat) (j : Nat), 24 - j < f → (j ≤ 24) → ∀ ls, lv_has ls 3 [(0, .ref (ad 14)), (1, .ref (ad 1)), (2, .int (nI j))] → ∀ (H : Heap) (locs : List Loc), PP dg (cw cA ad nh ni (upr c 13 (cs_w0 (c 10) (c 13) j))) H → va_D A (cw cA ad nh ni (upr c 13 (cs_w0 (c 10) (c 13) j))) → va_S A s0.heap H locs → W p l e ({ frames := 4, cells := 0, slots := 0, locals := 104 } : Room) s0 m args below meth ccd H locs 0 0 (MQ below (QcM dg (cw cA ad nh ni (upr c 13 (cs_wt c 10 nh))) none A) args s0 0 0 A) (F0 m 2 ls []) := by
    intro f
    induction f with
    | zero => intro j hm; exact absurd hm (Nat.not_lt_zero _)
    | succ f ih2 =>
      intro j hm2 hj ls hl H locs hP hD hS
      refine lv_iload_n hx hb dX4_fitTo_2 rfl (lv_at hl 2 rfl) ?_
      refine lv_aload_n hx hb dX4_fitTo_3 rfl (lv_at hl 0 rfl) ?_
      refine gf S hK hP 14 cl_14 fX4_22 (v := .ref (ad 18)) ct1_3 dX4_fitTo_4 ?_
      refine va_alen (v := 24) hx hb hK hP 18 0 cl_18 rfl rfl dX4_fitTo_7 ?_
      refine lv_icmp_ge (tgt := 39) hx hb dX4_fitTo_8 (by decide) (fun b8 => ?_) (fun b8 => ?_)
      · skip
        have g8 : 24 ≤ j := (nI_leI (a := 24) (b := j) (by omega) (by omega)).mp b8
        have ej : j = 24 := by omega
        rw [ej] at hl hP hD
        refine lv_iconst (v := 0) hx hb dX4_fitTo_39 (by decide) ?_
        refine lv_istore_n (lv' := [(2, .int 0), (0, .ref (ad 14)), (1, .ref (ad 1))]) hx hb dX4_fitTo_40 rfl hl (by decide) rfl (fun ls hl => ?_)
        have hL41 : ∀ (f : Nat) (t : Nat), 3 - t < f → (t ≤ 3) → ∀ ls, lv_has ls 3 [(0, .ref (ad 14)), (1, .ref (ad 1)), (2, .int (nI t))] → ∀ (H : Heap) (locs : List Loc), PP dg (cw cA ad nh ni (upr c 13 (cs_t c 10 nh t))) H → va_D A (cw cA ad nh ni (upr c 13 (cs_t c 10 nh t))) → va_S A s0.heap H locs → W p l e ({ frames := 4, cells := 0, slots := 0, locals := 104 } : Room) s0 m args below meth ccd H locs 0 0 (MQ below (QcM dg (cw cA ad nh ni (upr c 13 (cs_wt c 10 nh))) none A) args s0 0 0 A) (F0 m 41 ls []) := by
          intro f
          induction f with
          | zero => intro t hm; exact absurd hm (Nat.not_lt_zero _)
          | succ f ih41 =>
            intro t hm41 ht ls hl H locs hP hD hS
            refine lv_iload_n hx hb dX4_fitTo_41 rfl (lv_at hl 2 rfl) ?_
            refine lv_iconst (v := 3) hx hb dX4_fitTo_42 (by decide) ?_
            refine lv_icmp_ge (tgt := 84) hx hb dX4_fitTo_43 (by decide) (fun b43 => ?_) (fun b43 => ?_)
            · skip
              have g43 : 3 ≤ t := (nI_leI (a := 3) (b := t) (by omega) (by omega)).mp b43
              have et : t = 3 := by omega
              rw [et] at hl hP hD
              refine lv_aload_n hx hb dX4_fitTo_84 rfl (lv_at hl 0 rfl) ?_
              refine lv_aload_n hx hb dX4_fitTo_85 rfl (lv_at hl 1 rfl) ?_
              refine gf S hK hP 1 cl_1 fX4_36 (v := .ref (ad 2)) cfr_0 dX4_fitTo_86 ?_
              refine lv_aload_n hx hb dX4_fitTo_89 rfl (lv_at hl 1 rfl) ?_
              refine gf S hK hP 1 cl_1 fX4_41 (v := .ref (ad 4)) cfr_2 dX4_fitTo_90 ?_
              refine lv_aload_n hx hb dX4_fitTo_93 rfl (lv_at hl 1 rfl) ?_
              refine gf S hK hP 1 cl_1 fX4_44 (v := .int (nI nh)) (cfr_5 hn) dX4_fitTo_94 ?_
              refine cM S (cc_fitGs_as l dg cA ad nh ni (upr c 13 (cs_t c 10 nh 3)) nh hn24 _) kX4_48 ⟨rfl, rfl, Nat.le_of_ble_eq_true rfl, Nat.le_of_ble_eq_true rfl⟩ hK hP hD hS hA 14 cl_14 (q := (RX4, TX4, 5)) rfl rfl (As := [.ref (ad 2), .ref (ad 4), .int (nI nh)]) rfl hl.1 (rest := []) rfl (Nat.le_of_ble_eq_true rfl) dX4_fitTo_97 ⟨Nat.le_of_ble_eq_true rfl, Nat.le_of_ble_eq_true rfl⟩ (st1 := []) rfl (fun H locs hP hD hS => ?_)
              have hP : PP dg (cw cA ad nh ni (upr (upr c 13 (cs_t c 10 nh 3)) 13 (cs_g (c 10) (c 1) (c 3) nh (cs_t c 10 nh 3) 4))) H := hP
              have hD : va_D A (cw cA ad nh ni (upr (upr c 13 (cs_t c 10 nh 3)) 13 (cs_g (c 10) (c 1) (c 3) nh (cs_t c 10 nh 3) 4))) := hD
              exact eMv S hr hlk hP hD hS dX4_fitTo_100 (by simp only [upr_upr]; rfl)
            · skip
              have g43 : ¬ 3 ≤ t := fun zz => b43 ((nI_leI (a := 3) (b := t) (by omega) (by omega)).mpr zz)
              refine lv_aload_n hx hb dX4_fitTo_46 rfl (lv_at hl 0 rfl) ?_
              refine lv_aload_n hx hb dX4_fitTo_47 rfl (lv_at hl 1 rfl) ?_
              refine gf S hK hP 1 cl_1 fX4_36 (v := .ref (ad 2)) cfr_0 dX4_fitTo_48 ?_
              refine lv_aload_n hx hb dX4_fitTo_51 rfl (lv_at hl 1 rfl) ?_
              refine gf S hK hP 1 cl_1 fX4_41 (v := .ref (ad 4)) cfr_2 dX4_fitTo_52 ?_
              refine lv_aload_n hx hb dX4_fitTo_55 rfl (lv_at hl 1 rfl) ?_
              refine gf S hK hP 1 cl_1 fX4_44 (v := .int (nI nh)) (cfr_5 hn) dX4_fitTo_56 ?_
              refine cM S (cc_fitGs_as l dg cA ad nh ni (upr c 13 (cs_t c 10 nh t)) nh hn24 _) kX4_48 ⟨rfl, rfl, Nat.le_of_ble_eq_true rfl, Nat.le_of_ble_eq_true rfl⟩ hK hP hD hS hA 14 cl_14 (q := (RX4, TX4, 5)) rfl rfl (As := [.ref (ad 2), .ref (ad 4), .int (nI nh)]) rfl hl.1 (rest := []) rfl (Nat.le_of_ble_eq_true rfl) dX4_fitTo_59 ⟨Nat.le_of_ble_eq_true rfl, Nat.le_of_ble_eq_true rfl⟩ (st1 := []) rfl (fun H locs hP hD hS => ?_)
              have hP : PP dg (cw cA ad nh ni (upr (upr c 13 (cs_t c 10 nh t)) 13 (cs_g (c 10) (c 1) (c 3) nh (cs_t c 10 nh t) 4))) H := hP
              have hD : va_D A (cw cA ad nh ni (upr (upr c 13 (cs_t c 10 nh t)) 13 (cs_g (c 10) (c 1) (c 3) nh (cs_t c 10 nh t) 4))) := hD
              refine lv_aload_n hx hb dX4_fitTo_62 rfl (lv_at hl 0 rfl) ?_
              refine lv_aload_n hx hb dX4_fitTo_63 rfl (lv_at hl 1 rfl) ?_
              refine gf S hK hP 1 cl_1 fX4_52 (v := .ref (ad 3)) cfr_1 dX4_fitTo_64 ?_
              refine lv_aload_n hx hb dX4_fitTo_67 rfl (lv_at hl 1 rfl) ?_
              refine gf S hK hP 1 cl_1 fX4_55 (v := .ref (ad 5)) cfr_3 dX4_fitTo_68 ?_
              refine lv_aload_n hx hb dX4_fitTo_71 rfl (lv_at hl 1 rfl) ?_
              refine gf S hK hP 1 cl_1 fX4_44 (v := .int (nI nh)) (cfr_5 hn) dX4_fitTo_72 ?_
              refine cM S (cc_fitGs_al l dg cA ad nh ni (upr (upr c 13 (cs_t c 10 nh t)) 13 (cs_g (c 10) (c 1) (c 3) nh (cs_t c 10 nh t) 4)) nh hn24 _) kX4_48 ⟨rfl, rfl, Nat.le_of_ble_eq_true rfl, Nat.le_of_ble_eq_true rfl⟩ hK hP hD hS hA 14 cl_14 (q := (RX4, TX4, 5)) rfl rfl (As := [.ref (ad 3), .ref (ad 5), .int (nI nh)]) rfl hl.1 (rest := []) rfl (Nat.le_of_ble_eq_true rfl) dX4_fitTo_75 ⟨Nat.le_of_ble_eq_true rfl, Nat.le_of_ble_eq_true rfl⟩ (st1 := []) rfl (fun H locs hP hD hS => ?_)
              have hP : PP dg (cw cA ad nh ni (upr (upr (upr c 13 (cs_t c 10 nh t)) 13 (cs_g (c 10) (c 1) (c 3) nh (cs_t c 10 nh t) 4)) 13 (cs_g (c 10) (c 2) (c 4) nh (cs_g (c 10) (c 1) (c 3) nh (cs_t c 10 nh t) 4) 3))) H := hP
              have hD : va_D A (cw cA ad nh ni (upr (upr (upr c 13 (cs_t c 10 nh t)) 13 (cs_g (c 10) (c 1) (c 3) nh (cs_t c 10 nh t) 4)) 13 (cs_g (c 10) (c 2) (c 4) nh (cs_g (c 10) (c 1) (c 3) nh (cs_t c 10 nh t) 4) 3))) := hD
              refine lv_iinc (v := nI (t + 1)) (lv' := [(2, .int (nI (t + 1))), (0, .ref (ad 14)), (1, .ref (ad 1))]) hx hb dX4_fitTo_78 hl (k := 2) rfl (nI_1 t) (by decide) rfl (fun ls hl => ?_)
              refine lv_goto (tgt := 41) hx hb dX4_fitTo_81 (by decide) ?_
              have es : (cw cA ad nh ni (upr (upr (upr c 13 (cs_t c 10 nh t)) 13 (cs_g (c 10) (c 1) (c 3) nh (cs_t c 10 nh t) 4)) 13 (cs_g (c 10) (c 2) (c 4) nh (cs_g (c 10) (c 1) (c 3) nh (cs_t c 10 nh t) 4) 3))) = (cw cA ad nh ni (upr c 13 (cs_t c 10 nh (t + 1)))) := by simp only [upr_upr]; rfl
              rw [es] at hP hD
              exact ih41 (t + 1) (by omega) (by omega) ls (lv_sub hl [1, 2, 0] rfl) _ _ hP hD hS
        have es : (cw cA ad nh ni (upr c 13 (cs_w0 (c 10) (c 13) 24))) = (cw cA ad nh ni (upr c 13 (cs_t c 10 nh 0))) := rfl
        rw [es] at hP hD
        exact hL41 _ 0 (Nat.lt_succ_self _) (Nat.zero_le _) ls (lv_cast (lv_sub (l' := [(0, .ref (ad 14)), (1, .ref (ad 1)), (2, .int 0)]) hl [1, 2, 0] rfl) (by rfl)) _ _ hP hD hS
      · skip
        have g8 : ¬ 24 ≤ j := fun zz => b8 ((nI_leI (a := 24) (b := j) (by omega) (by omega)).mpr zz)
        refine lv_aload_n hx hb dX4_fitTo_11 rfl (lv_at hl 0 rfl) ?_
        refine gf S hK hP 14 cl_14 fX4_22 (v := .ref (ad 18)) ct1_3 dX4_fitTo_12 ?_
        refine lv_iload_n hx hb dX4_fitTo_15 rfl (lv_at hl 2 rfl) ?_
        refine lv_aload_n hx hb dX4_fitTo_16 rfl (lv_at hl 0 rfl) ?_
        refine gf S hK hP 14 cl_14 fX4_9 (v := .ref (ad 15)) ct1_0 dX4_fitTo_17 ?_
        refine lv_iload_n hx hb dX4_fitTo_20 rfl (lv_at hl 2 rfl) ?_
        refine zld S hK hP 15 cl_15 (j := j) (by omega) (Nat.le_of_ble_eq_true rfl) dX4_fitTo_21 ?_
        refine lv_as (y := c 10 j) rfl ?_
        refine lv_if_eq (tgt := 31) hx hb dX4_fitTo_22 (by decide) (fun b22 => ?_) (fun b22 => ?_)
        · skip
          refine lv_iconst (v := 0) hx hb dX4_fitTo_31 (by decide) ?_
          refine ist S hK hP hD hS 18 cl_18 (j := j) (x := 0) (by omega) (Nat.le_of_ble_eq_true rfl) cs_18 dX4_fitTo_32 (fun H locs hP hD hS => ?_)
          refine lv_iinc (v := nI (j + 1)) (lv' := [(2, .int (nI (j + 1))), (0, .ref (ad 14)), (1, .ref (ad 1))]) hx hb dX4_fitTo_33 hl (k := 2) rfl (nI_1 j) (by decide) rfl (fun ls hl => ?_)
          refine lv_goto (tgt := 2) hx hb dX4_fitTo_36 (by decide) ?_
          have es : (cw cA ad nh ni (up (upr c 13 (cs_w0 (c 10) (c 13) j)) 13 j 0)) = (cw cA ad nh ni (upr c 13 (cs_w0 (c 10) (c 13) (j + 1)))) := by rw [up_upr, cs_w0_t b22]
          rw [es] at hP hD
          exact ih2 (j + 1) (by omega) (by omega) ls (lv_sub hl [1, 2, 0] rfl) _ _ hP hD hS
        · skip
          refine lv_sipush (v := 1000) hx hb dX4_fitTo_25 (by decide) ?_
          refine lv_goto (tgt := 32) hx hb dX4_fitTo_28 (by decide) ?_
          refine ist S hK hP hD hS 18 cl_18 (j := j) (x := 1000) (by omega) (Nat.le_of_ble_eq_true rfl) cs_18 dX4_fitTo_32 (fun H locs hP hD hS => ?_)
          refine lv_iinc (v := nI (j + 1)) (lv' := [(2, .int (nI (j + 1))), (0, .ref (ad 14)), (1, .ref (ad 1))]) hx hb dX4_fitTo_33 hl (k := 2) rfl (nI_1 j) (by decide) rfl (fun ls hl => ?_)
          refine lv_goto (tgt := 2) hx hb dX4_fitTo_36 (by decide) ?_
          have es : (cw cA ad nh ni (up (upr c 13 (cs_w0 (c 10) (c 13) j)) 13 j 1000)) = (cw cA ad nh ni (upr c 13 (cs_w0 (c 10) (c 13) (j + 1)))) := by rw [up_upr, cs_w0_f b22]
          rw [es] at hP hD
          exact ih2 (j + 1) (by omega) (by omega) ls (lv_sub hl [1, 2, 0] rfl) _ _ hP hD hS
  have es : (cw cA ad nh ni c) = (cw cA ad nh ni (upr c 13 (cs_w0 (c 10) (c 13) 0))) := congrArg (cw cA ad nh ni) upr_self.symm
  rw [es] at hP hD
  exact hL2 _ 0 (Nat.lt_succ_self _) (Nat.zero_le _) ls (lv_cast (lv_sub (l' := [(0, .ref (ad 14)), (1, .ref (ad 1)), (2, .int 0)]) hl [1, 2, 0] rfl) (by rfl)) _ _ hP hD hS

set_option maxHeartbeats 4000000 in
set_option maxRecDepth 100000 in
theorem cc_take_a (l : Launch) (dg : va_G) (cA : Nat → ClassId) (ad : Nat → Nat) (nh ni : Nat) (c : St) (h : Nat) (hh : h < 24) (v a : Int32) (sz : Nat) : MetM l dg cA yX4_take cX4_take 4 none ({ frames := 0, cells := 0, slots := 0, locals := 0 } : Room) 0 0 (cw cA ad nh ni c) sz [.ref (ad 14), .int (nI h), .int v, .int a] (cw cA ad nh ni (up (up (up c 10 h 1) 11 h a) 12 h v)) none := by
  refine ofM (by decide) (Nat.le_of_ble_eq_true rfl) (own := RX4) rfl (fun p e s0 m args below meth ccd ls A hAe S hr hlk hname hargs hK hP hD hS hA hsz hl => ?_)
  have hx := S.1
  have hb := S.2.1
  have hl : lv_has ls 4 [(0, .ref (ad 14)), (1, .int (nI h)), (2, .int v), (3, .int a)] := hl
  refine lv_aload_n hx hb dX4_take_0 rfl (lv_at hl 0 rfl) ?_
  refine gf S hK hP 14 cl_14 fX4_9 (v := .ref (ad 15)) ct1_0 dX4_take_1 ?_
  refine lv_iload_n hx hb dX4_take_4 rfl (lv_at hl 1 rfl) ?_
  refine lv_iconst (v := 1) hx hb dX4_take_5 (by decide) ?_
  refine zst S hK hP hD hS 15 cl_15 (j := h) (x := 1) (by omega) (Nat.le_of_ble_eq_true rfl) rfl cs_15 dX4_take_6 (fun H locs hP hD hS => ?_)
  refine lv_aload_n hx hb dX4_take_7 rfl (lv_at hl 0 rfl) ?_
  refine gf S hK hP 14 cl_14 fX4_15 (v := .ref (ad 16)) ct1_1 dX4_take_8 ?_
  refine lv_iload_n hx hb dX4_take_11 rfl (lv_at hl 1 rfl) ?_
  refine lv_iload_n hx hb dX4_take_12 rfl (lv_at hl 3 rfl) ?_
  refine ist S hK hP hD hS 16 cl_16 (j := h) (x := a) (by omega) (Nat.le_of_ble_eq_true rfl) cs_16 dX4_take_13 (fun H locs hP hD hS => ?_)
  refine lv_aload_n hx hb dX4_take_14 rfl (lv_at hl 0 rfl) ?_
  refine gf S hK hP 14 cl_14 fX4_19 (v := .ref (ad 17)) ct1_2 dX4_take_15 ?_
  refine lv_iload_n hx hb dX4_take_18 rfl (lv_at hl 1 rfl) ?_
  refine lv_iload_n hx hb dX4_take_19 rfl (lv_at hl 2 rfl) ?_
  refine ist S hK hP hD hS 17 cl_17 (j := h) (x := v) (by omega) (Nat.le_of_ble_eq_true rfl) cs_17 dX4_take_20 (fun H locs hP hD hS => ?_)
  exact eMv S hr hlk hP hD hS dX4_take_21 rfl

set_option maxHeartbeats 4000000 in
set_option maxRecDepth 100000 in
theorem cc_barred1_a (l : Launch) (dg : va_G) (cA : Nat → ClassId) (ad : Nat → Nat) (nh ni : Nat) (c : St) (v : Nat) (hv : v < 4) (x : Int32) (hxx : c 14 v = x) (h2 : ¬ x < 2) : MetR l dg cA yX4_isBarred cX4_isBarred 2 (some .boolean) ({ frames := 0, cells := 0, slots := 0, locals := 0 } : Room) (cw cA ad nh ni c) [.ref (ad 14), .int (nI v)] (some (.int 1)) := by
  refine ofR (by decide) (Nat.le_of_ble_eq_true rfl) (own := RX4) rfl (fun p e s0 m args below meth ccd ls S hr hlk hargs hK hP hl => ?_)
  have hx := S.1
  have hb := S.2.1
  have hl : lv_has ls 2 [(0, .ref (ad 14)), (1, .int (nI v))] := hl
  refine lv_aload_n hx hb dX4_isBarred_0 rfl (lv_at hl 0 rfl) ?_
  refine gf S hK hP 14 cl_14 fX4_25 (v := .ref (ad 19)) ct1_4 dX4_isBarred_1 ?_
  refine lv_iload_n hx hb dX4_isBarred_4 rfl (lv_at hl 1 rfl) ?_
  refine ild S hK hP 19 cl_19 (j := v) (by omega) (Nat.le_of_ble_eq_true rfl) dX4_isBarred_5 ?_
  refine lv_as (y := x) hxx ?_
  refine lv_iconst (v := 2) hx hb dX4_isBarred_6 (by decide) ?_
  refine lv_icmp_lt (tgt := 14) hx hb dX4_isBarred_7 (by decide) (fun b7 => ?_) (fun b7 => ?_)
  · skip
    exact absurd b7 h2
  · skip
    refine lv_iconst (v := 1) hx hb dX4_isBarred_10 (by decide) ?_
    refine lv_goto (tgt := 15) hx hb dX4_isBarred_11 (by decide) ?_
    exact eRz S hr hlk dX4_isBarred_15 rfl rfl

set_option maxHeartbeats 4000000 in
set_option maxRecDepth 100000 in
theorem cc_barred0_a (l : Launch) (dg : va_G) (cA : Nat → ClassId) (ad : Nat → Nat) (nh ni : Nat) (c : St) (v : Nat) (hv : v < 4) (x : Int32) (hxx : c 14 v = x) (h2 : x < 2) : MetR l dg cA yX4_isBarred cX4_isBarred 2 (some .boolean) ({ frames := 0, cells := 0, slots := 0, locals := 0 } : Room) (cw cA ad nh ni c) [.ref (ad 14), .int (nI v)] (some (.int 0)) := by
  refine ofR (by decide) (Nat.le_of_ble_eq_true rfl) (own := RX4) rfl (fun p e s0 m args below meth ccd ls S hr hlk hargs hK hP hl => ?_)
  have hx := S.1
  have hb := S.2.1
  have hl : lv_has ls 2 [(0, .ref (ad 14)), (1, .int (nI v))] := hl
  refine lv_aload_n hx hb dX4_isBarred_0 rfl (lv_at hl 0 rfl) ?_
  refine gf S hK hP 14 cl_14 fX4_25 (v := .ref (ad 19)) ct1_4 dX4_isBarred_1 ?_
  refine lv_iload_n hx hb dX4_isBarred_4 rfl (lv_at hl 1 rfl) ?_
  refine ild S hK hP 19 cl_19 (j := v) (by omega) (Nat.le_of_ble_eq_true rfl) dX4_isBarred_5 ?_
  refine lv_as (y := x) hxx ?_
  refine lv_iconst (v := 2) hx hb dX4_isBarred_6 (by decide) ?_
  refine lv_icmp_lt (tgt := 14) hx hb dX4_isBarred_7 (by decide) (fun b7 => ?_) (fun b7 => ?_)
  · skip
    refine lv_iconst (v := 0) hx hb dX4_isBarred_14 (by decide) ?_
    exact eRz S hr hlk dX4_isBarred_15 rfl rfl
  · skip
    exact absurd h2 b7

set_option maxHeartbeats 4000000 in
set_option maxRecDepth 100000 in
theorem cc_drop_a (l : Launch) (dg : va_G) (cA : Nat → ClassId) (ad : Nat → Nat) (nh ni : Nat) (c : St) (v : Int32) (sz : Nat) : MetM l dg cA yX4_dropAnswersTo cX4_dropAnswersTo 3 none ({ frames := 0, cells := 0, slots := 0, locals := 0 } : Room) 0 0 (cw cA ad nh ni c) sz [.ref (ad 14), .int v] (cw cA ad nh ni (upr c 10 (c_dr (c 12) v (c 10) 24))) none := by
  refine ofM (by decide) (Nat.le_of_ble_eq_true rfl) (own := RX4) rfl (fun p e s0 m args below meth ccd ls A hAe S hr hlk hname hargs hK hP hD hS hA hsz hl => ?_)
  have hx := S.1
  have hb := S.2.1
  have hl : lv_has ls 3 [(0, .ref (ad 14)), (1, .int v)] := hl
  refine lv_iconst (v := 0) hx hb dX4_dropAnswersTo_0 (by decide) ?_
  refine lv_istore_n (lv' := [(2, .int 0), (0, .ref (ad 14)), (1, .int v)]) hx hb dX4_dropAnswersTo_1 rfl hl (by decide) rfl (fun ls hl => ?_)
  have hL2 : ∀ (f : Nat) (j : Nat), 24 - j < f → (j ≤ 24) → ∀ ls, lv_has ls 3 [(0, .ref (ad 14)), (1, .int v), (2, .int (nI j))] → ∀ (H : Heap) (locs : List Loc), PP dg (cw cA ad nh ni (upr c 10 (c_dr (c 12) v (c 10) j))) H → va_D A (cw cA ad nh ni (upr c 10 (c_dr (c 12) v (c 10) j))) → va_S A s0.heap H locs → W p l e ({ frames := 0, cells := 0, slots := 0, locals := 0 } : Room) s0 m args below meth ccd H locs 0 0 (MQ below (QcM dg (cw cA ad nh ni (upr c 10 (c_dr (c 12) v (c 10) 24))) none A) args s0 0 0 A) (F0 m 2 ls []) := by
    intro f
    induction f with
    | zero => intro j hm; exact absurd hm (Nat.not_lt_zero _)
    | succ f ih2 =>
      intro j hm2 hj ls hl H locs hP hD hS
      refine lv_iload_n hx hb dX4_dropAnswersTo_2 rfl (lv_at hl 2 rfl) ?_
      refine lv_aload_n hx hb dX4_dropAnswersTo_3 rfl (lv_at hl 0 rfl) ?_
      refine gf S hK hP 14 cl_14 fX4_9 (v := .ref (ad 15)) ct1_0 dX4_dropAnswersTo_4 ?_
      refine va_alen (v := 24) hx hb hK hP 15 1 cl_15 rfl rfl dX4_dropAnswersTo_7 ?_
      refine lv_icmp_ge (tgt := 34) hx hb dX4_dropAnswersTo_8 (by decide) (fun b8 => ?_) (fun b8 => ?_)
      · skip
        have g8 : 24 ≤ j := (nI_leI (a := 24) (b := j) (by omega) (by omega)).mp b8
        exact eMv S hr hlk hP hD hS dX4_dropAnswersTo_34 (by rw [show j = 24 by omega])
      · skip
        have g8 : ¬ 24 ≤ j := fun zz => b8 ((nI_leI (a := 24) (b := j) (by omega) (by omega)).mpr zz)
        refine lv_aload_n hx hb dX4_dropAnswersTo_11 rfl (lv_at hl 0 rfl) ?_
        refine gf S hK hP 14 cl_14 fX4_19 (v := .ref (ad 17)) ct1_2 dX4_dropAnswersTo_12 ?_
        refine lv_iload_n hx hb dX4_dropAnswersTo_15 rfl (lv_at hl 2 rfl) ?_
        refine ild S hK hP 17 cl_17 (j := j) (by omega) (Nat.le_of_ble_eq_true rfl) dX4_dropAnswersTo_16 ?_
        refine lv_as (y := c 12 j) rfl ?_
        refine lv_iload_n hx hb dX4_dropAnswersTo_17 rfl (lv_at hl 1 rfl) ?_
        refine lv_icmp_ne (tgt := 28) hx hb dX4_dropAnswersTo_18 (by decide) (fun b18 => ?_) (fun b18 => ?_)
        · skip
          refine lv_iinc (v := nI (j + 1)) (lv' := [(2, .int (nI (j + 1))), (0, .ref (ad 14)), (1, .int v)]) hx hb dX4_dropAnswersTo_28 hl (k := 2) rfl (nI_1 j) (by decide) rfl (fun ls hl => ?_)
          refine lv_goto (tgt := 2) hx hb dX4_dropAnswersTo_31 (by decide) ?_
          have es : (cw cA ad nh ni (upr c 10 (c_dr (c 12) v (c 10) j))) = (cw cA ad nh ni (upr c 10 (c_dr (c 12) v (c 10) (j + 1)))) := by rw [c_dr_f b18]
          rw [es] at hP hD
          exact ih2 (j + 1) (by omega) (by omega) ls (lv_sub hl [1, 2, 0] rfl) _ _ hP hD hS
        · skip
          refine lv_aload_n hx hb dX4_dropAnswersTo_21 rfl (lv_at hl 0 rfl) ?_
          refine gf S hK hP 14 cl_14 fX4_9 (v := .ref (ad 15)) ct1_0 dX4_dropAnswersTo_22 ?_
          refine lv_iload_n hx hb dX4_dropAnswersTo_25 rfl (lv_at hl 2 rfl) ?_
          refine lv_iconst (v := 0) hx hb dX4_dropAnswersTo_26 (by decide) ?_
          refine zst S hK hP hD hS 15 cl_15 (j := j) (x := 0) (by omega) (Nat.le_of_ble_eq_true rfl) rfl cs_15 dX4_dropAnswersTo_27 (fun H locs hP hD hS => ?_)
          refine lv_iinc (v := nI (j + 1)) (lv' := [(2, .int (nI (j + 1))), (0, .ref (ad 14)), (1, .int v)]) hx hb dX4_dropAnswersTo_28 hl (k := 2) rfl (nI_1 j) (by decide) rfl (fun ls hl => ?_)
          refine lv_goto (tgt := 2) hx hb dX4_dropAnswersTo_31 (by decide) ?_
          have es : (cw cA ad nh ni (up (upr c 10 (c_dr (c 12) v (c 10) j)) 10 j 0)) = (cw cA ad nh ni (upr c 10 (c_dr (c 12) v (c 10) (j + 1)))) := by rw [up_upr, c_dr_t b18]
          rw [es] at hP hD
          exact ih2 (j + 1) (by omega) (by omega) ls (lv_sub hl [1, 2, 0] rfl) _ _ hP hD hS
  have es : (cw cA ad nh ni c) = (cw cA ad nh ni (upr c 10 (c_dr (c 12) v (c 10) 0))) := congrArg (cw cA ad nh ni) upr_self.symm
  rw [es] at hP hD
  exact hL2 _ 0 (Nat.lt_succ_self _) (Nat.zero_le _) ls (lv_cast (lv_sub (l' := [(0, .ref (ad 14)), (1, .int v), (2, .int 0)]) hl [1, 2, 0] rfl) (by rfl)) _ _ hP hD hS

set_option maxHeartbeats 4000000 in
set_option maxRecDepth 100000 in
theorem cc_ask0_a (l : Launch) (dg : va_G) (cA : Nat → ClassId) (ad : Nat → Nat) (nh ni : Nat) (c : St) (h : Nat) (hh : h < 24) (a : Int32) (h0 : c 10 h = 0) (sz : Nat) : MetM l dg cA yX4_askAgain cX4_askAgain 4 (some .boolean) ({ frames := 0, cells := 0, slots := 0, locals := 0 } : Room) 0 0 (cw cA ad nh ni c) sz [.ref (ad 14), .int (nI h), .int a] (cw cA ad nh ni c) (some (.int 0)) := by
  refine ofM (by decide) (Nat.le_of_ble_eq_true rfl) (own := RX4) rfl (fun p e s0 m args below meth ccd ls A hAe S hr hlk hname hargs hK hP hD hS hA hsz hl => ?_)
  have hx := S.1
  have hb := S.2.1
  have hl : lv_has ls 4 [(0, .ref (ad 14)), (1, .int (nI h)), (2, .int a)] := hl
  refine lv_aload_n hx hb dX4_askAgain_0 rfl (lv_at hl 0 rfl) ?_
  refine gf S hK hP 14 cl_14 fX4_9 (v := .ref (ad 15)) ct1_0 dX4_askAgain_1 ?_
  refine lv_iload_n hx hb dX4_askAgain_4 rfl (lv_at hl 1 rfl) ?_
  refine zld S hK hP 15 cl_15 (j := h) (by omega) (Nat.le_of_ble_eq_true rfl) dX4_askAgain_5 ?_
  refine lv_as (y := 0) h0 ?_
  refine lv_if_eq (tgt := 19) hx hb dX4_askAgain_6 (by decide) (fun b6 => ?_) (fun b6 => ?_)
  · skip
    refine lv_iconst (v := 0) hx hb dX4_askAgain_19 (by decide) ?_
    exact eMz S hr hlk hP hD hS dX4_askAgain_20 rfl rfl rfl
  · skip
    exact False.elim (by revert b6; decide)

set_option maxHeartbeats 4000000 in
set_option maxRecDepth 100000 in
theorem cc_askS_a (l : Launch) (dg : va_G) (cA : Nat → ClassId) (ad : Nat → Nat) (nh ni : Nat) (c : St) (h : Nat) (hh : h < 24) (a : Int32) (h0 : ¬ c 10 h = 0) (h1 : c 11 h = a) (sz : Nat) : MetM l dg cA yX4_askAgain cX4_askAgain 4 (some .boolean) ({ frames := 0, cells := 0, slots := 0, locals := 0 } : Room) 0 0 (cw cA ad nh ni c) sz [.ref (ad 14), .int (nI h), .int a] (cw cA ad nh ni c) (some (.int 0)) := by
  refine ofM (by decide) (Nat.le_of_ble_eq_true rfl) (own := RX4) rfl (fun p e s0 m args below meth ccd ls A hAe S hr hlk hname hargs hK hP hD hS hA hsz hl => ?_)
  have hx := S.1
  have hb := S.2.1
  have hl : lv_has ls 4 [(0, .ref (ad 14)), (1, .int (nI h)), (2, .int a)] := hl
  refine lv_aload_n hx hb dX4_askAgain_0 rfl (lv_at hl 0 rfl) ?_
  refine gf S hK hP 14 cl_14 fX4_9 (v := .ref (ad 15)) ct1_0 dX4_askAgain_1 ?_
  refine lv_iload_n hx hb dX4_askAgain_4 rfl (lv_at hl 1 rfl) ?_
  refine zld S hK hP 15 cl_15 (j := h) (by omega) (Nat.le_of_ble_eq_true rfl) dX4_askAgain_5 ?_
  refine lv_as (y := c 10 h) rfl ?_
  refine lv_if_eq (tgt := 19) hx hb dX4_askAgain_6 (by decide) (fun b6 => ?_) (fun b6 => ?_)
  · skip
    exact absurd b6 h0
  · skip
    refine lv_aload_n hx hb dX4_askAgain_9 rfl (lv_at hl 0 rfl) ?_
    refine gf S hK hP 14 cl_14 fX4_15 (v := .ref (ad 16)) ct1_1 dX4_askAgain_10 ?_
    refine lv_iload_n hx hb dX4_askAgain_13 rfl (lv_at hl 1 rfl) ?_
    refine ild S hK hP 16 cl_16 (j := h) (by omega) (Nat.le_of_ble_eq_true rfl) dX4_askAgain_14 ?_
    refine lv_as (y := c 11 h) rfl ?_
    refine lv_iload_n hx hb dX4_askAgain_15 rfl (lv_at hl 2 rfl) ?_
    refine lv_icmp_ne (tgt := 21) hx hb dX4_askAgain_16 (by decide) (fun b16 => ?_) (fun b16 => ?_)
    · skip
      exact absurd h1 b16
    · skip
      refine lv_iconst (v := 0) hx hb dX4_askAgain_19 (by decide) ?_
      exact eMz S hr hlk hP hD hS dX4_askAgain_20 rfl rfl rfl

set_option maxHeartbeats 4000000 in
set_option maxRecDepth 100000 in
theorem cc_askD_a (l : Launch) (dg : va_G) (cA : Nat → ClassId) (ad : Nat → Nat) (nh ni : Nat) (c : St) (h : Nat) (hh : h < 24) (a : Int32) (h0 : ¬ c 10 h = 0) (h1 : ¬ c 11 h = a) (v : Nat) (hv : v < 4) (hxv : c 12 h = nI v) (h2 : c 14 v + 1 < 2) (sz : Nat) : MetM l dg cA yX4_askAgain cX4_askAgain 4 (some .boolean) ({ frames := 1, cells := 0, slots := 0, locals := 21 } : Room) 0 0 (cw cA ad nh ni c) sz [.ref (ad 14), .int (nI h), .int a] (cw cA ad nh ni (up c 14 v (c 14 v + 1))) (some (.int 0)) := by
  refine ofM (by decide) (Nat.le_of_ble_eq_true rfl) (own := RX4) rfl (fun p e s0 m args below meth ccd ls A hAe S hr hlk hname hargs hK hP hD hS hA hsz hl => ?_)
  have hx := S.1
  have hb := S.2.1
  have hl : lv_has ls 4 [(0, .ref (ad 14)), (1, .int (nI h)), (2, .int a)] := hl
  refine lv_aload_n hx hb dX4_askAgain_0 rfl (lv_at hl 0 rfl) ?_
  refine gf S hK hP 14 cl_14 fX4_9 (v := .ref (ad 15)) ct1_0 dX4_askAgain_1 ?_
  refine lv_iload_n hx hb dX4_askAgain_4 rfl (lv_at hl 1 rfl) ?_
  refine zld S hK hP 15 cl_15 (j := h) (by omega) (Nat.le_of_ble_eq_true rfl) dX4_askAgain_5 ?_
  refine lv_as (y := c 10 h) rfl ?_
  refine lv_if_eq (tgt := 19) hx hb dX4_askAgain_6 (by decide) (fun b6 => ?_) (fun b6 => ?_)
  · skip
    exact absurd b6 h0
  · skip
    refine lv_aload_n hx hb dX4_askAgain_9 rfl (lv_at hl 0 rfl) ?_
    refine gf S hK hP 14 cl_14 fX4_15 (v := .ref (ad 16)) ct1_1 dX4_askAgain_10 ?_
    refine lv_iload_n hx hb dX4_askAgain_13 rfl (lv_at hl 1 rfl) ?_
    refine ild S hK hP 16 cl_16 (j := h) (by omega) (Nat.le_of_ble_eq_true rfl) dX4_askAgain_14 ?_
    refine lv_as (y := c 11 h) rfl ?_
    refine lv_iload_n hx hb dX4_askAgain_15 rfl (lv_at hl 2 rfl) ?_
    refine lv_icmp_ne (tgt := 21) hx hb dX4_askAgain_16 (by decide) (fun b16 => ?_) (fun b16 => ?_)
    · skip
      refine lv_aload_n hx hb dX4_askAgain_21 rfl (lv_at hl 0 rfl) ?_
      refine gf S hK hP 14 cl_14 fX4_19 (v := .ref (ad 17)) ct1_2 dX4_askAgain_22 ?_
      refine lv_iload_n hx hb dX4_askAgain_25 rfl (lv_at hl 1 rfl) ?_
      refine ild S hK hP 17 cl_17 (j := h) (by omega) (Nat.le_of_ble_eq_true rfl) dX4_askAgain_26 ?_
      refine lv_as (y := nI v) hxv ?_
      refine lv_istore_n (lv' := [(3, .int (nI v)), (0, .ref (ad 14)), (1, .int (nI h)), (2, .int a)]) hx hb dX4_askAgain_27 rfl hl (by decide) rfl (fun ls hl => ?_)
      refine lv_aload_n hx hb dX4_askAgain_28 rfl (lv_at hl 1 rfl) ?_
      refine gf S hK hP 14 cl_14 fX4_25 (v := .ref (ad 19)) ct1_4 dX4_askAgain_29 ?_
      refine lv_iload_n hx hb dX4_askAgain_32 rfl (lv_at hl 0 rfl) ?_
      refine lv_dup2_11 hx hb dX4_askAgain_33 rfl rfl ?_
      refine ild S hK hP 19 cl_19 (j := v) (by omega) (Nat.le_of_ble_eq_true rfl) dX4_askAgain_34 ?_
      refine lv_as (y := c 14 v) rfl ?_
      refine lv_iconst (v := 1) hx hb dX4_askAgain_35 (by decide) ?_
      refine lv_iadd hx hb dX4_askAgain_36 ?_
      refine ist S hK hP hD hS 19 cl_19 (j := v) (x := (c 14 v) + 1) (by omega) (Nat.le_of_ble_eq_true rfl) cs_19 dX4_askAgain_37 (fun H locs hP hD hS => ?_)
      refine lv_aload_n hx hb dX4_askAgain_38 rfl (lv_at hl 1 rfl) ?_
      refine lv_iload_n hx hb dX4_askAgain_39 rfl (lv_at hl 0 rfl) ?_
      refine cR S (cc_barred0_a l dg cA ad nh ni (up c 14 v ((c 14 v) + 1)) v (by omega) ((c 14 v) + 1) up_at h2) kX4_28 ⟨rfl, rfl, Nat.le_of_ble_eq_true rfl, Nat.le_of_ble_eq_true rfl⟩ hK hP 14 cl_14 (q := (RX4, TX4, 5)) rfl rfl (As := [.int (nI v)]) rfl hl.1 (rest := []) rfl (Nat.le_of_ble_eq_true rfl) dX4_askAgain_40 ⟨Nat.le_of_ble_eq_true rfl, Nat.le_of_ble_eq_true rfl⟩ (st1 := [.int 0]) rfl ?_
      refine lv_if_ne (tgt := 48) hx hb dX4_askAgain_43 (by decide) (fun b43 => ?_) (fun b43 => ?_)
      · skip
        exact False.elim (by revert b43; decide)
      · skip
        refine lv_iconst (v := 0) hx hb dX4_askAgain_46 (by decide) ?_
        exact eMz S hr hlk hP hD hS dX4_askAgain_47 rfl rfl rfl
    · skip
      exact absurd b16 h1

set_option maxHeartbeats 4000000 in
set_option maxRecDepth 100000 in
theorem cc_askB_a (l : Launch) (dg : va_G) (cA : Nat → ClassId) (ad : Nat → Nat) (nh ni : Nat) (c : St) (h : Nat) (hh : h < 24) (a : Int32) (h0 : ¬ c 10 h = 0) (h1 : ¬ c 11 h = a) (v : Nat) (hv : v < 4) (hxv : c 12 h = nI v) (h2 : ¬ c 14 v + 1 < 2) (sz : Nat) : MetM l dg cA yX4_askAgain cX4_askAgain 4 (some .boolean) ({ frames := 1, cells := 0, slots := 0, locals := 22 } : Room) 0 0 (cw cA ad nh ni c) sz [.ref (ad 14), .int (nI h), .int a] (cw cA ad nh ni (upr (up c 14 v (c 14 v + 1)) 10 (c_dr (c 12) (nI v) (c 10) 24))) (some (.int 1)) := by
  refine ofM (by decide) (Nat.le_of_ble_eq_true rfl) (own := RX4) rfl (fun p e s0 m args below meth ccd ls A hAe S hr hlk hname hargs hK hP hD hS hA hsz hl => ?_)
  have hx := S.1
  have hb := S.2.1
  have hl : lv_has ls 4 [(0, .ref (ad 14)), (1, .int (nI h)), (2, .int a)] := hl
  refine lv_aload_n hx hb dX4_askAgain_0 rfl (lv_at hl 0 rfl) ?_
  refine gf S hK hP 14 cl_14 fX4_9 (v := .ref (ad 15)) ct1_0 dX4_askAgain_1 ?_
  refine lv_iload_n hx hb dX4_askAgain_4 rfl (lv_at hl 1 rfl) ?_
  refine zld S hK hP 15 cl_15 (j := h) (by omega) (Nat.le_of_ble_eq_true rfl) dX4_askAgain_5 ?_
  refine lv_as (y := c 10 h) rfl ?_
  refine lv_if_eq (tgt := 19) hx hb dX4_askAgain_6 (by decide) (fun b6 => ?_) (fun b6 => ?_)
  · skip
    exact absurd b6 h0
  · skip
    refine lv_aload_n hx hb dX4_askAgain_9 rfl (lv_at hl 0 rfl) ?_
    refine gf S hK hP 14 cl_14 fX4_15 (v := .ref (ad 16)) ct1_1 dX4_askAgain_10 ?_
    refine lv_iload_n hx hb dX4_askAgain_13 rfl (lv_at hl 1 rfl) ?_
    refine ild S hK hP 16 cl_16 (j := h) (by omega) (Nat.le_of_ble_eq_true rfl) dX4_askAgain_14 ?_
    refine lv_as (y := c 11 h) rfl ?_
    refine lv_iload_n hx hb dX4_askAgain_15 rfl (lv_at hl 2 rfl) ?_
    refine lv_icmp_ne (tgt := 21) hx hb dX4_askAgain_16 (by decide) (fun b16 => ?_) (fun b16 => ?_)
    · skip
      refine lv_aload_n hx hb dX4_askAgain_21 rfl (lv_at hl 0 rfl) ?_
      refine gf S hK hP 14 cl_14 fX4_19 (v := .ref (ad 17)) ct1_2 dX4_askAgain_22 ?_
      refine lv_iload_n hx hb dX4_askAgain_25 rfl (lv_at hl 1 rfl) ?_
      refine ild S hK hP 17 cl_17 (j := h) (by omega) (Nat.le_of_ble_eq_true rfl) dX4_askAgain_26 ?_
      refine lv_as (y := nI v) hxv ?_
      refine lv_istore_n (lv' := [(3, .int (nI v)), (0, .ref (ad 14)), (1, .int (nI h)), (2, .int a)]) hx hb dX4_askAgain_27 rfl hl (by decide) rfl (fun ls hl => ?_)
      refine lv_aload_n hx hb dX4_askAgain_28 rfl (lv_at hl 1 rfl) ?_
      refine gf S hK hP 14 cl_14 fX4_25 (v := .ref (ad 19)) ct1_4 dX4_askAgain_29 ?_
      refine lv_iload_n hx hb dX4_askAgain_32 rfl (lv_at hl 0 rfl) ?_
      refine lv_dup2_11 hx hb dX4_askAgain_33 rfl rfl ?_
      refine ild S hK hP 19 cl_19 (j := v) (by omega) (Nat.le_of_ble_eq_true rfl) dX4_askAgain_34 ?_
      refine lv_as (y := c 14 v) rfl ?_
      refine lv_iconst (v := 1) hx hb dX4_askAgain_35 (by decide) ?_
      refine lv_iadd hx hb dX4_askAgain_36 ?_
      refine ist S hK hP hD hS 19 cl_19 (j := v) (x := (c 14 v) + 1) (by omega) (Nat.le_of_ble_eq_true rfl) cs_19 dX4_askAgain_37 (fun H locs hP hD hS => ?_)
      refine lv_aload_n hx hb dX4_askAgain_38 rfl (lv_at hl 1 rfl) ?_
      refine lv_iload_n hx hb dX4_askAgain_39 rfl (lv_at hl 0 rfl) ?_
      refine cR S (cc_barred1_a l dg cA ad nh ni (up c 14 v ((c 14 v) + 1)) v (by omega) ((c 14 v) + 1) up_at h2) kX4_28 ⟨rfl, rfl, Nat.le_of_ble_eq_true rfl, Nat.le_of_ble_eq_true rfl⟩ hK hP 14 cl_14 (q := (RX4, TX4, 5)) rfl rfl (As := [.int (nI v)]) rfl hl.1 (rest := []) rfl (Nat.le_of_ble_eq_true rfl) dX4_askAgain_40 ⟨Nat.le_of_ble_eq_true rfl, Nat.le_of_ble_eq_true rfl⟩ (st1 := [.int 1]) rfl ?_
      refine lv_if_ne (tgt := 48) hx hb dX4_askAgain_43 (by decide) (fun b43 => ?_) (fun b43 => ?_)
      · skip
        refine lv_aload_n hx hb dX4_askAgain_48 rfl (lv_at hl 1 rfl) ?_
        refine lv_iload_n hx hb dX4_askAgain_49 rfl (lv_at hl 0 rfl) ?_
        refine cM S (cc_drop_a l dg cA ad nh ni (up c 14 v ((c 14 v) + 1)) (nI v) _) kX4_32 ⟨rfl, rfl, Nat.le_of_ble_eq_true rfl, Nat.le_of_ble_eq_true rfl⟩ hK hP hD hS hA 14 cl_14 (q := (RX4, TX4, 5)) rfl rfl (As := [.int (nI v)]) rfl hl.1 (rest := []) rfl (Nat.le_of_ble_eq_true rfl) dX4_askAgain_50 ⟨Nat.le_of_ble_eq_true rfl, Nat.le_of_ble_eq_true rfl⟩ (st1 := []) rfl (fun H locs hP hD hS => ?_)
        refine lv_iconst (v := 1) hx hb dX4_askAgain_53 (by decide) ?_
        exact eMz S hr hlk hP hD hS dX4_askAgain_54 rfl rfl rfl
      · skip
        exact False.elim (by revert b43; decide)
    · skip
      exact absurd b16 h1

set_option maxHeartbeats 4000000 in
set_option maxRecDepth 100000 in
theorem cc_clear_a (l : Launch) (dg : va_G) (cA : Nat → ClassId) (ad : Nat → Nat) (nh ni : Nat) (c : St)  (sz : Nat) : MetM l dg cA yX4_clear cX4_clear 2 none ({ frames := 0, cells := 0, slots := 0, locals := 0 } : Room) 0 0 (cw cA ad nh ni c) sz [.ref (ad 14)] (cw cA ad nh ni (upr (upr c 10 (fs_z (c 10) 24)) 14 (fs_z (c 14) 4))) none := by
  refine ofM (by decide) (Nat.le_of_ble_eq_true rfl) (own := RX4) rfl (fun p e s0 m args below meth ccd ls A hAe S hr hlk hname hargs hK hP hD hS hA hsz hl => ?_)
  have hx := S.1
  have hb := S.2.1
  have hl : lv_has ls 2 [(0, .ref (ad 14))] := hl
  refine lv_iconst (v := 0) hx hb dX4_clear_0 (by decide) ?_
  refine lv_istore_n (lv' := [(1, .int 0), (0, .ref (ad 14))]) hx hb dX4_clear_1 rfl hl (by decide) rfl (fun ls hl => ?_)
  have hL2 : ∀ (f : Nat) (j : Nat), 24 - j < f → (j ≤ 24) → ∀ ls, lv_has ls 2 [(0, .ref (ad 14)), (1, .int (nI j))] → ∀ (H : Heap) (locs : List Loc), PP dg (cw cA ad nh ni (upr c 10 (fs_z (c 10) j))) H → va_D A (cw cA ad nh ni (upr c 10 (fs_z (c 10) j))) → va_S A s0.heap H locs → W p l e ({ frames := 0, cells := 0, slots := 0, locals := 0 } : Room) s0 m args below meth ccd H locs 0 0 (MQ below (QcM dg (cw cA ad nh ni (upr (upr c 10 (fs_z (c 10) 24)) 14 (fs_z (c 14) 4))) none A) args s0 0 0 A) (F0 m 2 ls []) := by
    intro f
    induction f with
    | zero => intro j hm; exact absurd hm (Nat.not_lt_zero _)
    | succ f ih2 =>
      intro j hm2 hj ls hl H locs hP hD hS
      refine lv_iload_n hx hb dX4_clear_2 rfl (lv_at hl 1 rfl) ?_
      refine lv_aload_n hx hb dX4_clear_3 rfl (lv_at hl 0 rfl) ?_
      refine gf S hK hP 14 cl_14 fX4_9 (v := .ref (ad 15)) ct1_0 dX4_clear_4 ?_
      refine va_alen (v := 24) hx hb hK hP 15 1 cl_15 rfl rfl dX4_clear_7 ?_
      refine lv_icmp_ge (tgt := 24) hx hb dX4_clear_8 (by decide) (fun b8 => ?_) (fun b8 => ?_)
      · skip
        have g8 : 24 ≤ j := (nI_leI (a := 24) (b := j) (by omega) (by omega)).mp b8
        have ej : j = 24 := by omega
        rw [ej] at hl hP hD
        refine lv_iconst (v := 0) hx hb dX4_clear_24 (by decide) ?_
        refine lv_istore_n (lv' := [(1, .int 0), (0, .ref (ad 14))]) hx hb dX4_clear_25 rfl hl (by decide) rfl (fun ls hl => ?_)
        have hL26 : ∀ (f : Nat) (t : Nat), 4 - t < f → (t ≤ 4) → ∀ ls, lv_has ls 2 [(0, .ref (ad 14)), (1, .int (nI t))] → ∀ (H : Heap) (locs : List Loc), PP dg (cw cA ad nh ni (upr (upr c 10 (fs_z (c 10) 24)) 14 (fs_z (c 14) t))) H → va_D A (cw cA ad nh ni (upr (upr c 10 (fs_z (c 10) 24)) 14 (fs_z (c 14) t))) → va_S A s0.heap H locs → W p l e ({ frames := 0, cells := 0, slots := 0, locals := 0 } : Room) s0 m args below meth ccd H locs 0 0 (MQ below (QcM dg (cw cA ad nh ni (upr (upr c 10 (fs_z (c 10) 24)) 14 (fs_z (c 14) 4))) none A) args s0 0 0 A) (F0 m 26 ls []) := by
          intro f
          induction f with
          | zero => intro t hm; exact absurd hm (Nat.not_lt_zero _)
          | succ f ih26 =>
            intro t hm26 ht ls hl H locs hP hD hS
            refine lv_iload_n hx hb dX4_clear_26 rfl (lv_at hl 1 rfl) ?_
            refine lv_aload_n hx hb dX4_clear_27 rfl (lv_at hl 0 rfl) ?_
            refine gf S hK hP 14 cl_14 fX4_25 (v := .ref (ad 19)) ct1_4 dX4_clear_28 ?_
            refine va_alen (v := 4) hx hb hK hP 19 0 cl_19 rfl rfl dX4_clear_31 ?_
            refine lv_icmp_ge (tgt := 48) hx hb dX4_clear_32 (by decide) (fun b32 => ?_) (fun b32 => ?_)
            · skip
              have g32 : 4 ≤ t := (nI_leI (a := 4) (b := t) (by omega) (by omega)).mp b32
              exact eMv S hr hlk hP hD hS dX4_clear_48 (by rw [show t = 4 by omega])
            · skip
              have g32 : ¬ 4 ≤ t := fun zz => b32 ((nI_leI (a := 4) (b := t) (by omega) (by omega)).mpr zz)
              refine lv_aload_n hx hb dX4_clear_35 rfl (lv_at hl 0 rfl) ?_
              refine gf S hK hP 14 cl_14 fX4_25 (v := .ref (ad 19)) ct1_4 dX4_clear_36 ?_
              refine lv_iload_n hx hb dX4_clear_39 rfl (lv_at hl 1 rfl) ?_
              refine lv_iconst (v := 0) hx hb dX4_clear_40 (by decide) ?_
              refine ist S hK hP hD hS 19 cl_19 (j := t) (x := 0) (by omega) (Nat.le_of_ble_eq_true rfl) cs_19 dX4_clear_41 (fun H locs hP hD hS => ?_)
              refine lv_iinc (v := nI (t + 1)) (lv' := [(1, .int (nI (t + 1))), (0, .ref (ad 14))]) hx hb dX4_clear_42 hl (k := 1) rfl (nI_1 t) (by decide) rfl (fun ls hl => ?_)
              refine lv_goto (tgt := 26) hx hb dX4_clear_45 (by decide) ?_
              have es : (cw cA ad nh ni (up (upr (upr c 10 (fs_z (c 10) 24)) 14 (fs_z (c 14) t)) 14 t 0)) = (cw cA ad nh ni (upr (upr c 10 (fs_z (c 10) 24)) 14 (fs_z (c 14) (t + 1)))) := by rw [up_upr]; rfl
              rw [es] at hP hD
              exact ih26 (t + 1) (by omega) (by omega) ls (lv_sub hl [1, 0] rfl) _ _ hP hD hS
        have es : (cw cA ad nh ni (upr c 10 (fs_z (c 10) 24))) = (cw cA ad nh ni (upr (upr c 10 (fs_z (c 10) 24)) 14 (fs_z (c 14) 0))) := congrArg (cw cA ad nh ni) upr_self.symm
        rw [es] at hP hD
        exact hL26 _ 0 (Nat.lt_succ_self _) (Nat.zero_le _) ls (lv_cast (lv_sub (l' := [(0, .ref (ad 14)), (1, .int 0)]) hl [1, 0] rfl) (by rfl)) _ _ hP hD hS
      · skip
        have g8 : ¬ 24 ≤ j := fun zz => b8 ((nI_leI (a := 24) (b := j) (by omega) (by omega)).mpr zz)
        refine lv_aload_n hx hb dX4_clear_11 rfl (lv_at hl 0 rfl) ?_
        refine gf S hK hP 14 cl_14 fX4_9 (v := .ref (ad 15)) ct1_0 dX4_clear_12 ?_
        refine lv_iload_n hx hb dX4_clear_15 rfl (lv_at hl 1 rfl) ?_
        refine lv_iconst (v := 0) hx hb dX4_clear_16 (by decide) ?_
        refine zst S hK hP hD hS 15 cl_15 (j := j) (x := 0) (by omega) (Nat.le_of_ble_eq_true rfl) rfl cs_15 dX4_clear_17 (fun H locs hP hD hS => ?_)
        refine lv_iinc (v := nI (j + 1)) (lv' := [(1, .int (nI (j + 1))), (0, .ref (ad 14))]) hx hb dX4_clear_18 hl (k := 1) rfl (nI_1 j) (by decide) rfl (fun ls hl => ?_)
        refine lv_goto (tgt := 2) hx hb dX4_clear_21 (by decide) ?_
        have es : (cw cA ad nh ni (up (upr c 10 (fs_z (c 10) j)) 10 j 0)) = (cw cA ad nh ni (upr c 10 (fs_z (c 10) (j + 1)))) := by rw [up_upr]; rfl
        rw [es] at hP hD
        exact ih2 (j + 1) (by omega) (by omega) ls (lv_sub hl [1, 0] rfl) _ _ hP hD hS
  have es : (cw cA ad nh ni c) = (cw cA ad nh ni (upr c 10 (fs_z (c 10) 0))) := congrArg (cw cA ad nh ni) upr_self.symm
  rw [es] at hP hD
  exact hL2 _ 0 (Nat.lt_succ_self _) (Nat.zero_le _) ls (lv_cast (lv_sub (l' := [(0, .ref (ad 14)), (1, .int 0)]) hl [1, 0] rfl) (by rfl)) _ _ hP hD hS

set_option maxHeartbeats 4000000 in
set_option maxRecDepth 100000 in
theorem cc_meets (l : Launch) (dg : va_G) (cA : Nat → ClassId) (ad : Nat → Nat) (nh ni : Nat) (c : St) (hn : c 0 4 = nI nh) (hn24 : nh ≤ 24) (ns : Nat) (hns : c 0 3 = nI ns) (hns4 : ns ≤ 4) (hm : ∀ q, q < ns → 0 < ct (tmem (c 5) (c 1) (nI q)) nh → fs_sum (tmem (c 5) (c 1) (nI q)) (c 8) nh = c 3 q) : MetR l dg cA yX4_meetsStratumTargets cX4_meetsStratumTargets 3 (some .boolean) ({ frames := 2, cells := 0, slots := 0, locals := 48 } : Room) (cw cA ad nh ni c) [.ref (ad 8), .ref (ad 1)] (some (.int 1)) := by
  refine ofR (by decide) (Nat.le_of_ble_eq_true rfl) (own := RX4) rfl (fun p e s0 m args below meth ccd ls S hr hlk hargs hK hP hl => ?_)
  have hx := S.1
  have hb := S.2.1
  have hl : lv_has ls 3 [(0, .ref (ad 8)), (1, .ref (ad 1))] := hl
  refine lv_iconst (v := 0) hx hb dX4_meetsStratumTargets_0 (by decide) ?_
  refine lv_istore_n (lv' := [(2, .int 0), (0, .ref (ad 8)), (1, .ref (ad 1))]) hx hb dX4_meetsStratumTargets_1 rfl hl (by decide) rfl (fun ls hl => ?_)
  have hL2 : ∀ (f : Nat) (q : Nat), ns - q < f → (q ≤ ns) → ∀ ls, lv_has ls 3 [(0, .ref (ad 8)), (1, .ref (ad 1)), (2, .int (nI q))] → W p l e ({ frames := 2, cells := 0, slots := 0, locals := 48 } : Room) s0 m args below meth ccd s0.heap [] 0 0 (MQ below (QcR (some (.int 1))) args s0 0 0 (fun _ => False)) (F0 m 2 ls []) := by
    intro f
    induction f with
    | zero => intro q hm; exact absurd hm (Nat.not_lt_zero _)
    | succ f ih2 =>
      intro q hm2 hq ls hl
      refine lv_iload_n hx hb dX4_meetsStratumTargets_2 rfl (lv_at hl 2 rfl) ?_
      refine lv_aload_n hx hb dX4_meetsStratumTargets_3 rfl (lv_at hl 1 rfl) ?_
      refine gf S hK hP 1 cl_1 fX4_77 (v := .int (nI ns)) (cfr_4 hns) dX4_meetsStratumTargets_4 ?_
      refine lv_icmp_ge (tgt := 56) hx hb dX4_meetsStratumTargets_7 (by decide) (fun b7 => ?_) (fun b7 => ?_)
      · skip
        have g7 : ns ≤ q := (nI_leI (a := ns) (b := q) (by omega) (by omega)).mp b7
        refine lv_iconst (v := 1) hx hb dX4_meetsStratumTargets_56 (by decide) ?_
        exact eRz S hr hlk dX4_meetsStratumTargets_57 rfl rfl
      · skip
        have g7 : ¬ ns ≤ q := fun zz => b7 ((nI_leI (a := ns) (b := q) (by omega) (by omega)).mpr zz)
        refine lv_aload_n hx hb dX4_meetsStratumTargets_10 rfl (lv_at hl 0 rfl) ?_
        refine lv_aload_n hx hb dX4_meetsStratumTargets_11 rfl (lv_at hl 1 rfl) ?_
        refine gf S hK hP 1 cl_1 fX4_36 (v := .ref (ad 2)) cfr_0 dX4_meetsStratumTargets_12 ?_
        refine lv_iload_n hx hb dX4_meetsStratumTargets_15 rfl (lv_at hl 2 rfl) ?_
        refine lv_aload_n hx hb dX4_meetsStratumTargets_16 rfl (lv_at hl 1 rfl) ?_
        refine gf S hK hP 1 cl_1 fX4_44 (v := .int (nI nh)) (cfr_5 hn) dX4_meetsStratumTargets_17 ?_
        refine cR S (cc_memG_ks l dg cA ad nh ni c (nI q) nh hn24) kX4_58 ⟨rfl, rfl, Nat.le_of_ble_eq_true rfl, Nat.le_of_ble_eq_true rfl⟩ hK hP 8 cl_8 (q := (RX4, TX4, 5)) rfl rfl (As := [.ref (ad 2), .int (nI q), .int (nI nh)]) rfl hl.1 (rest := []) rfl (Nat.le_of_ble_eq_true rfl) dX4_meetsStratumTargets_20 ⟨Nat.le_of_ble_eq_true rfl, Nat.le_of_ble_eq_true rfl⟩ (st1 := [.int (nI (ct (tmem (c 5) (c 1) (nI q)) nh))]) rfl ?_
        have hctl := ct_le (tmem (c 5) (c 1) (nI q)) nh
        refine lv_if_le (tgt := 50) hx hb dX4_meetsStratumTargets_23 (by decide) (fun b23 => ?_) (fun b23 => ?_)
        · skip
          have g23 : ct (tmem (c 5) (c 1) (nI q)) nh ≤ 0 := (nI_leI (a := ct (tmem (c 5) (c 1) (nI q)) nh) (b := 0) (by omega) (by omega)).mp b23
          refine lv_iinc (v := nI (q + 1)) (lv' := [(2, .int (nI (q + 1))), (0, .ref (ad 8)), (1, .ref (ad 1))]) hx hb dX4_meetsStratumTargets_50 hl (k := 2) rfl (nI_1 q) (by decide) rfl (fun ls hl => ?_)
          refine lv_goto (tgt := 2) hx hb dX4_meetsStratumTargets_53 (by decide) ?_
          exact ih2 (q + 1) (by omega) (by omega) ls (lv_sub hl [1, 2, 0] rfl)
        · skip
          have g23 : ¬ ct (tmem (c 5) (c 1) (nI q)) nh ≤ 0 := fun zz => b23 ((nI_leI (a := ct (tmem (c 5) (c 1) (nI q)) nh) (b := 0) (by omega) (by omega)).mpr zz)
          refine lv_aload_n hx hb dX4_meetsStratumTargets_26 rfl (lv_at hl 0 rfl) ?_
          refine lv_aload_n hx hb dX4_meetsStratumTargets_27 rfl (lv_at hl 1 rfl) ?_
          refine gf S hK hP 1 cl_1 fX4_36 (v := .ref (ad 2)) cfr_0 dX4_meetsStratumTargets_28 ?_
          refine lv_iload_n hx hb dX4_meetsStratumTargets_31 rfl (lv_at hl 2 rfl) ?_
          refine lv_aload_n hx hb dX4_meetsStratumTargets_32 rfl (lv_at hl 1 rfl) ?_
          refine gf S hK hP 1 cl_1 fX4_44 (v := .int (nI nh)) (cfr_5 hn) dX4_meetsStratumTargets_33 ?_
          refine cR S (cc_sumG_ks l dg cA ad nh ni c (nI q) nh hn24) kX4_66 ⟨rfl, rfl, Nat.le_of_ble_eq_true rfl, Nat.le_of_ble_eq_true rfl⟩ hK hP 8 cl_8 (q := (RX4, TX4, 5)) rfl rfl (As := [.ref (ad 2), .int (nI q), .int (nI nh)]) rfl hl.1 (rest := []) rfl (Nat.le_of_ble_eq_true rfl) dX4_meetsStratumTargets_36 ⟨Nat.le_of_ble_eq_true rfl, Nat.le_of_ble_eq_true rfl⟩ (st1 := [.int (fs_sum (tmem (c 5) (c 1) (nI q)) (c 8) nh)]) rfl ?_
          refine lv_aload_n hx hb dX4_meetsStratumTargets_39 rfl (lv_at hl 1 rfl) ?_
          refine gf S hK hP 1 cl_1 fX4_41 (v := .ref (ad 4)) cfr_2 dX4_meetsStratumTargets_40 ?_
          refine lv_iload_n hx hb dX4_meetsStratumTargets_43 rfl (lv_at hl 2 rfl) ?_
          refine ild S hK hP 4 cl_4 (j := q) (by omega) (Nat.le_of_ble_eq_true rfl) dX4_meetsStratumTargets_44 ?_
          refine lv_as (y := c 3 q) rfl ?_
          refine lv_icmp_eq (tgt := 50) hx hb dX4_meetsStratumTargets_45 (by decide) (fun b45 => ?_) (fun b45 => ?_)
          · skip
            refine lv_iinc (v := nI (q + 1)) (lv' := [(2, .int (nI (q + 1))), (0, .ref (ad 8)), (1, .ref (ad 1))]) hx hb dX4_meetsStratumTargets_50 hl (k := 2) rfl (nI_1 q) (by decide) rfl (fun ls hl => ?_)
            refine lv_goto (tgt := 2) hx hb dX4_meetsStratumTargets_53 (by decide) ?_
            exact ih2 (q + 1) (by omega) (by omega) ls (lv_sub hl [1, 2, 0] rfl)
          · skip
            exact absurd (hm q (by omega) (by omega)) b45
  exact hL2 _ 0 (Nat.lt_succ_self _) (Nat.zero_le _) ls (lv_cast (lv_sub (l' := [(0, .ref (ad 8)), (1, .ref (ad 1)), (2, .int 0)]) hl [1, 2, 0] rfl) (by rfl))

set_option maxHeartbeats 4000000 in
set_option maxRecDepth 100000 in
theorem cc_hasW (l : Launch) (dg : va_G) (cA : Nat → ClassId) (ad : Nat → Nat) (nh ni : Nat) (c : St) (n : Nat) (hn24 : n ≤ 24) (hm : ∀ j, j < n → ¬ c 5 j = 0 → c 8 j = c 13 j) : MetR l dg cA yX4_hasWeightsOf cX4_hasWeightsOf 4 (some .boolean) ({ frames := 0, cells := 0, slots := 0, locals := 0 } : Room) (cw cA ad nh ni c) [.ref (ad 8), .ref (ad 14), .int (nI n)] (some (.int 1)) := by
  refine ofR (by decide) (Nat.le_of_ble_eq_true rfl) (own := RX4) rfl (fun p e s0 m args below meth ccd ls S hr hlk hargs hK hP hl => ?_)
  have hx := S.1
  have hb := S.2.1
  have hl : lv_has ls 4 [(0, .ref (ad 8)), (1, .ref (ad 14)), (2, .int (nI n))] := hl
  refine lv_iconst (v := 0) hx hb dX4_hasWeightsOf_0 (by decide) ?_
  refine lv_istore_n (lv' := [(3, .int 0), (0, .ref (ad 8)), (1, .ref (ad 14)), (2, .int (nI n))]) hx hb dX4_hasWeightsOf_1 rfl hl (by decide) rfl (fun ls hl => ?_)
  have hL2 : ∀ (f : Nat) (j : Nat), n - j < f → (j ≤ n) → ∀ ls, lv_has ls 4 [(0, .ref (ad 8)), (1, .ref (ad 14)), (2, .int (nI n)), (3, .int (nI j))] → W p l e ({ frames := 0, cells := 0, slots := 0, locals := 0 } : Room) s0 m args below meth ccd s0.heap [] 0 0 (MQ below (QcR (some (.int 1))) args s0 0 0 (fun _ => False)) (F0 m 2 ls []) := by
    intro f
    induction f with
    | zero => intro j hm; exact absurd hm (Nat.not_lt_zero _)
    | succ f ih2 =>
      intro j hm2 hj ls hl
      refine lv_iload_n hx hb dX4_hasWeightsOf_2 rfl (lv_at hl 3 rfl) ?_
      refine lv_iload_n hx hb dX4_hasWeightsOf_3 rfl (lv_at hl 2 rfl) ?_
      refine lv_icmp_ge (tgt := 39) hx hb dX4_hasWeightsOf_4 (by decide) (fun b4 => ?_) (fun b4 => ?_)
      · skip
        have g4 : n ≤ j := (nI_leI (a := n) (b := j) (by omega) (by omega)).mp b4
        refine lv_iconst (v := 1) hx hb dX4_hasWeightsOf_39 (by decide) ?_
        exact eRz S hr hlk dX4_hasWeightsOf_40 rfl rfl
      · skip
        have g4 : ¬ n ≤ j := fun zz => b4 ((nI_leI (a := n) (b := j) (by omega) (by omega)).mpr zz)
        refine lv_aload_n hx hb dX4_hasWeightsOf_7 rfl (lv_at hl 0 rfl) ?_
        refine gf S hK hP 8 cl_8 fX4_9 (v := .ref (ad 9)) ct0_0 dX4_hasWeightsOf_8 ?_
        refine lv_iload_n hx hb dX4_hasWeightsOf_11 rfl (lv_at hl 3 rfl) ?_
        refine zld S hK hP 9 cl_9 (j := j) (by omega) (Nat.le_of_ble_eq_true rfl) dX4_hasWeightsOf_12 ?_
        refine lv_as (y := c 5 j) rfl ?_
        refine lv_if_eq (tgt := 33) hx hb dX4_hasWeightsOf_13 (by decide) (fun b13 => ?_) (fun b13 => ?_)
        · skip
          refine lv_iinc (v := nI (j + 1)) (lv' := [(3, .int (nI (j + 1))), (0, .ref (ad 8)), (1, .ref (ad 14)), (2, .int (nI n))]) hx hb dX4_hasWeightsOf_33 hl (k := 3) rfl (nI_1 j) (by decide) rfl (fun ls hl => ?_)
          refine lv_goto (tgt := 2) hx hb dX4_hasWeightsOf_36 (by decide) ?_
          exact ih2 (j + 1) (by omega) (by omega) ls (lv_sub hl [1, 2, 3, 0] rfl)
        · skip
          refine lv_aload_n hx hb dX4_hasWeightsOf_16 rfl (lv_at hl 0 rfl) ?_
          refine gf S hK hP 8 cl_8 fX4_22 (v := .ref (ad 12)) ct0_3 dX4_hasWeightsOf_17 ?_
          refine lv_iload_n hx hb dX4_hasWeightsOf_20 rfl (lv_at hl 3 rfl) ?_
          refine ild S hK hP 12 cl_12 (j := j) (by omega) (Nat.le_of_ble_eq_true rfl) dX4_hasWeightsOf_21 ?_
          refine lv_as (y := c 8 j) rfl ?_
          refine lv_aload_n hx hb dX4_hasWeightsOf_22 rfl (lv_at hl 1 rfl) ?_
          refine gf S hK hP 14 cl_14 fX4_22 (v := .ref (ad 18)) ct1_3 dX4_hasWeightsOf_23 ?_
          refine lv_iload_n hx hb dX4_hasWeightsOf_26 rfl (lv_at hl 3 rfl) ?_
          refine ild S hK hP 18 cl_18 (j := j) (by omega) (Nat.le_of_ble_eq_true rfl) dX4_hasWeightsOf_27 ?_
          refine lv_as (y := c 13 j) rfl ?_
          refine lv_icmp_eq (tgt := 33) hx hb dX4_hasWeightsOf_28 (by decide) (fun b28 => ?_) (fun b28 => ?_)
          · skip
            refine lv_iinc (v := nI (j + 1)) (lv' := [(3, .int (nI (j + 1))), (0, .ref (ad 8)), (1, .ref (ad 14)), (2, .int (nI n))]) hx hb dX4_hasWeightsOf_33 hl (k := 3) rfl (nI_1 j) (by decide) rfl (fun ls hl => ?_)
            refine lv_goto (tgt := 2) hx hb dX4_hasWeightsOf_36 (by decide) ?_
            exact ih2 (j + 1) (by omega) (by omega) ls (lv_sub hl [1, 2, 3, 0] rfl)
          · skip
            exact absurd (hm j (by omega) b13) b28
  exact hL2 _ 0 (Nat.lt_succ_self _) (Nat.zero_le _) ls (lv_cast (lv_sub (l' := [(0, .ref (ad 8)), (1, .ref (ad 14)), (2, .int (nI n)), (3, .int 0)]) hl [1, 2, 3, 0] rfl) (by rfl))
