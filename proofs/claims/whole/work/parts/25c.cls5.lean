set_option maxHeartbeats 4000000 in
set_option maxRecDepth 100000 in
theorem cc_canAdd (l : Launch) (dg : va_G) (cA : Nat → ClassId) (ad : Nat → Nat) (nh ni : Nat) (c : St) (j i : Nat) (hj : j < nh) (hi : i < ni) (hn24 : nh ≤ 24) (hni4 : ni ≤ 4) : MetR l dg cA yX5_canAdd cX5_canAdd 5 (some .boolean) ({ frames := 2, cells := 0, slots := 0, locals := 35 } : Room) (cw cA ad nh ni c) [.ref (ad 0), .int (nI j), .int (nI i)] (some (.int (b2 (c_fit c i j)))) := by
  refine ofR (by decide) (Nat.le_of_ble_eq_true rfl) (own := RX5) rfl (fun p e s0 m args below meth ccd ls S hr hlk hargs hK hP hl => ?_)
  have hx := S.1
  have hb := S.2.1
  have hl : lv_has ls 5 [(0, .ref (ad 0)), (1, .int (nI j)), (2, .int (nI i))] := hl
  refine lv_aload_n hx hb dX5_canAdd_0 rfl (lv_at hl 0 rfl) ?_
  refine gf S hK hP 0 cl_0 fX5_18 (v := .ref (ad 6)) cfb_1 dX5_canAdd_1 ?_
  refine lv_iload_n hx hb dX5_canAdd_4 rfl (lv_at hl 1 rfl) ?_
  refine qld S hK hP 6 2 cl_6 (C := RX2) rfl (j := j) (b := ad (30 + j)) (by omega) (Nat.le_of_ble_eq_true rfl) (chs_at (by omega)) dX5_canAdd_5 ?_
  refine lv_astore_n (lv' := [(3, .ref (ad (30 + j))), (0, .ref (ad 0)), (1, .int (nI j)), (2, .int (nI i))]) hx hb dX5_canAdd_6 rfl hl (by decide) rfl (fun ls hl => ?_)
  refine lv_aload_n hx hb dX5_canAdd_7 rfl (lv_at hl 1 rfl) ?_
  refine gf S hK hP 0 cl_0 fX5_24 (v := .ref (ad 7)) cfb_2 dX5_canAdd_8 ?_
  refine lv_iload_n hx hb dX5_canAdd_11 rfl (lv_at hl 3 rfl) ?_
  refine qld S hK hP 7 3 cl_7 (C := RX3) rfl (j := i) (b := ad (60 + i)) (by omega) (Nat.le_of_ble_eq_true rfl) (cis_at (by omega)) dX5_canAdd_12 ?_
  refine lv_astore (lv' := [(4, .ref (ad (60 + i))), (3, .ref (ad (30 + j))), (0, .ref (ad 0)), (1, .int (nI j)), (2, .int (nI i))]) hx hb dX5_canAdd_13 hl (by decide) rfl (fun ls hl => ?_)
  refine lv_aload_n hx hb dX5_canAdd_15 rfl (lv_at hl 1 rfl) ?_
  refine lv_aload_n hx hb dX5_canAdd_16 rfl (lv_at hl 2 rfl) ?_
  refine gf S hK hP 0 cl_0 fX5_52 (v := .int (c 0 2)) (cfb_8 rfl) dX5_canAdd_17 ?_
  refine cR S (cc_isFree l dg cA ad nh ni c j (by omega) (c 0 2)) kX5_327 ⟨rfl, rfl, Nat.le_of_ble_eq_true rfl, Nat.le_of_ble_eq_true rfl⟩ hK hP (22 + j) (cl_h (by omega)) (q := (RX2, TX2, 11)) rfl rfl (As := [.int (c 0 2)]) rfl hl.1 (rest := []) rfl (Nat.le_of_ble_eq_true rfl) dX5_canAdd_20 ⟨Nat.le_of_ble_eq_true rfl, Nat.le_of_ble_eq_true rfl⟩ (st1 := [.int (b2 (decide (c 21 j = 119) && (decide (¬ (c 0 2) < c 22 j) && decide (c 27 j = -1))))]) rfl ?_
  refine lv_if_eq (tgt := 67) hx hb dX5_canAdd_23 (by decide) (fun b23 => ?_) (fun b23 => ?_)
  · skip
    have c23 := b2_0 b23
    refine lv_iconst (v := 0) hx hb dX5_canAdd_67 (by decide) ?_
    exact eRz S hr hlk dX5_canAdd_68 (by unfold c_fit; rw [c23]; rfl) (b2_nr _)
  · skip
    have c23 := b2_1 b23
    refine lv_aload_n hx hb dX5_canAdd_26 rfl (lv_at hl 1 rfl) ?_
    refine lv_iload_n hx hb dX5_canAdd_27 rfl (lv_at hl 4 rfl) ?_
    refine cR S (cc_hasRefused l dg cA ad nh ni c j (by omega) (nI i)) kX5_330 ⟨rfl, rfl, Nat.le_of_ble_eq_true rfl, Nat.le_of_ble_eq_true rfl⟩ hK hP (22 + j) (cl_h (by omega)) (q := (RX2, TX2, 11)) rfl rfl (As := [.int (nI i)]) rfl hl.1 (rest := []) rfl (Nat.le_of_ble_eq_true rfl) dX5_canAdd_28 ⟨Nat.le_of_ble_eq_true rfl, Nat.le_of_ble_eq_true rfl⟩ (st1 := [.int (b2 (decide ((c 26 j >>> ((nI i) &&& 31)) &&& 1 = 1)))]) rfl ?_
    refine lv_if_ne (tgt := 67) hx hb dX5_canAdd_31 (by decide) (fun b31 => ?_) (fun b31 => ?_)
    · skip
      have c31 := b2_1 b31
      refine lv_iconst (v := 0) hx hb dX5_canAdd_67 (by decide) ?_
      exact eRz S hr hlk dX5_canAdd_68 (by unfold c_fit; rw [c23, c31]; rfl) (b2_nr _)
    · skip
      have c31 := b2_0 b31
      refine lv_aload hx hb dX5_canAdd_34 (lv_at hl 0 rfl) ?_
      refine lv_aload_n hx hb dX5_canAdd_36 rfl (lv_at hl 2 rfl) ?_
      refine gf S hK hP 0 cl_0 fX5_10 (v := .ref (ad 1)) cfb_0 dX5_canAdd_37 ?_
      refine gf S hK hP 1 cl_1 fX5_91 (v := .ref (ad 3)) cfr_1 dX5_canAdd_40 ?_
      refine lv_iload_n hx hb dX5_canAdd_43 rfl (lv_at hl 3 rfl) ?_
      refine ild S hK hP 3 cl_3 (j := j) (by omega) (Nat.le_of_ble_eq_true rfl) dX5_canAdd_44 ?_
      refine lv_as (y := c 2 j) rfl ?_
      refine cR S (cc_speaks l dg cA ad nh ni c i (by omega) (c 2 j)) kX5_333 ⟨rfl, rfl, Nat.le_of_ble_eq_true rfl, Nat.le_of_ble_eq_true rfl⟩ hK hP (22 + (nh + i)) (cl_i (by omega)) (q := (RX3, TX3, 7)) rfl rfl (As := [.int (c 2 j)]) rfl hl.1 (rest := []) rfl (Nat.le_of_ble_eq_true rfl) dX5_canAdd_45 ⟨Nat.le_of_ble_eq_true rfl, Nat.le_of_ble_eq_true rfl⟩ (st1 := [.int (b2 (decide ((c 32 i >>> ((c 2 j) &&& 31)) &&& 1 = 1)))]) rfl ?_
      refine lv_if_eq (tgt := 67) hx hb dX5_canAdd_48 (by decide) (fun b48 => ?_) (fun b48 => ?_)
      · skip
        have c48 := b2_0 b48
        refine lv_iconst (v := 0) hx hb dX5_canAdd_67 (by decide) ?_
        exact eRz S hr hlk dX5_canAdd_68 (by unfold c_fit; rw [c23, c31, c48]; rfl) (b2_nr _)
      · skip
        have c48 := b2_1 b48
        refine lv_aload hx hb dX5_canAdd_51 (lv_at hl 0 rfl) ?_
        refine lv_aload_n hx hb dX5_canAdd_53 rfl (lv_at hl 1 rfl) ?_
        refine gf S hK hP (22 + j) (cl_h (by omega)) fX5_315 (v := .int (c 20 j)) (ch_0 rfl) dX5_canAdd_54 ?_
        refine cR S (cc_hasTime l dg cA ad nh ni c i (by omega) (c 20 j)) kX5_336 ⟨rfl, rfl, Nat.le_of_ble_eq_true rfl, Nat.le_of_ble_eq_true rfl⟩ hK hP (22 + (nh + i)) (cl_i (by omega)) (q := (RX3, TX3, 7)) rfl rfl (As := [.int (c 20 j)]) rfl hl.1 (rest := []) rfl (Nat.le_of_ble_eq_true rfl) dX5_canAdd_57 ⟨Nat.le_of_ble_eq_true rfl, Nat.le_of_ble_eq_true rfl⟩ (st1 := [.int (b2 (decide (¬ c 33 i < c 36 i + c_abs (c 20 j - c 35 i) + 30 + c_abs (c 20 j - c 31 i))))]) rfl ?_
        refine lv_if_eq (tgt := 67) hx hb dX5_canAdd_60 (by decide) (fun b60 => ?_) (fun b60 => ?_)
        · skip
          have c60 := b2_0 b60
          refine lv_iconst (v := 0) hx hb dX5_canAdd_67 (by decide) ?_
          exact eRz S hr hlk dX5_canAdd_68 (by unfold c_fit; rw [c23, c31, c48, c60]; rfl) (b2_nr _)
        · skip
          have c60 := b2_1 b60
          refine lv_iconst (v := 1) hx hb dX5_canAdd_63 (by decide) ?_
          refine lv_goto (tgt := 68) hx hb dX5_canAdd_64 (by decide) ?_
          exact eRz S hr hlk dX5_canAdd_68 (by unfold c_fit; rw [c23, c31, c48, c60]; rfl) (b2_nr _)

set_option maxHeartbeats 4000000 in
set_option maxRecDepth 100000 in
theorem cc_nx (l : Launch) (dg : va_G) (cA : Nat → ClassId) (ad : Nat → Nat) (nh ni : Nat) (c : St) (hn : c 0 4 = nI nh) (hn24 : nh ≤ 24) (i : Nat) (hi : i < ni) (hni4 : ni ≤ 4) : MetR l dg cA yX5_nearestFor cX5_nearestFor 7 (some .int) ({ frames := 3, cells := 0, slots := 0, locals := 59 } : Room) (cw cA ad nh ni c) [.ref (ad 0), .int (nI i)] (some (.int (oI (c_nx c i nh)))) := by
  refine ofR (by decide) (Nat.le_of_ble_eq_true rfl) (own := RX5) rfl (fun p e s0 m args below meth ccd ls S hr hlk hargs hK hP hl => ?_)
  have hx := S.1
  have hb := S.2.1
  have hl : lv_has ls 7 [(0, .ref (ad 0)), (1, .int (nI i))] := hl
  refine lv_aload_n hx hb dX5_nearestFor_0 rfl (lv_at hl 0 rfl) ?_
  refine gf S hK hP 0 cl_0 fX5_24 (v := .ref (ad 7)) cfb_2 dX5_nearestFor_1 ?_
  refine lv_iload_n hx hb dX5_nearestFor_4 rfl (lv_at hl 1 rfl) ?_
  refine qld S hK hP 7 3 cl_7 (C := RX3) rfl (j := i) (b := ad (60 + i)) (by omega) (Nat.le_of_ble_eq_true rfl) (cis_at (by omega)) dX5_nearestFor_5 ?_
  refine lv_astore_n (lv' := [(2, .ref (ad (60 + i))), (0, .ref (ad 0)), (1, .int (nI i))]) hx hb dX5_nearestFor_6 rfl hl (by decide) rfl (fun ls hl => ?_)
  refine lv_iconst (v := (-1)) hx hb dX5_nearestFor_7 (by decide) ?_
  refine lv_istore_n (lv' := [(3, .int (-1)), (2, .ref (ad (60 + i))), (0, .ref (ad 0)), (1, .int (nI i))]) hx hb dX5_nearestFor_8 rfl hl (by decide) rfl (fun ls hl => ?_)
  refine lv_iconst (v := 0) hx hb dX5_nearestFor_9 (by decide) ?_
  refine lv_istore (lv' := [(4, .int 0), (3, .int (-1)), (2, .ref (ad (60 + i))), (0, .ref (ad 0)), (1, .int (nI i))]) hx hb dX5_nearestFor_10 hl (by decide) rfl (fun ls hl => ?_)
  refine lv_iconst (v := 0) hx hb dX5_nearestFor_12 (by decide) ?_
  refine lv_istore (lv' := [(5, .int 0), (4, .int 0), (3, .int (-1)), (2, .ref (ad (60 + i))), (0, .ref (ad 0)), (1, .int (nI i))]) hx hb dX5_nearestFor_13 hl (by decide) rfl (fun ls hl => ?_)
  have hL15 : ∀ (f : Nat) (j : Nat), nh - j < f → (j ≤ nh) → ∀ ls, lv_has ls 7 [(0, .ref (ad 0)), (1, .int (nI i)), (2, .ref (ad (60 + i))), (3, .int (oI (nxt (c_fit c i) (c_dist c i) j))), (4, .int (c_lw (c_dist c i) (nxt (c_fit c i) (c_dist c i) j))), (5, .int (nI j))] → W p l e ({ frames := 3, cells := 0, slots := 0, locals := 59 } : Room) s0 m args below meth ccd s0.heap [] 0 0 (MQ below (QcR (some (.int (oI (c_nx c i nh))))) args s0 0 0 (fun _ => False)) (F0 m 15 ls []) := by
    intro f
    induction f with
    | zero => intro j hm; exact absurd hm (Nat.not_lt_zero _)
    | succ f ih15 =>
      intro j hm15 hj ls hl
      refine lv_iload hx hb dX5_nearestFor_15 (lv_at hl 5 rfl) ?_
      refine lv_aload_n hx hb dX5_nearestFor_17 rfl (lv_at hl 0 rfl) ?_
      refine gf S hK hP 0 cl_0 fX5_10 (v := .ref (ad 1)) cfb_0 dX5_nearestFor_18 ?_
      refine gf S hK hP 1 cl_1 fX5_81 (v := .int (nI nh)) (cfr_5 hn) dX5_nearestFor_21 ?_
      refine lv_icmp_ge (tgt := 78) hx hb dX5_nearestFor_24 (by decide) (fun b24 => ?_) (fun b24 => ?_)
      · skip
        have g24 : nh ≤ j := (nI_leI (a := nh) (b := j) (by omega) (by omega)).mp b24
        refine lv_iload_n hx hb dX5_nearestFor_78 rfl (lv_at hl 3 rfl) ?_
        exact eRi S hr hlk dX5_nearestFor_79 (by rw [show j = nh by omega]; rfl)
      · skip
        have g24 : ¬ nh ≤ j := fun zz => b24 ((nI_leI (a := nh) (b := j) (by omega) (by omega)).mpr zz)
        refine lv_aload_n hx hb dX5_nearestFor_27 rfl (lv_at hl 0 rfl) ?_
        refine lv_iload hx hb dX5_nearestFor_28 (lv_at hl 5 rfl) ?_
        refine lv_iload_n hx hb dX5_nearestFor_30 rfl (lv_at hl 1 rfl) ?_
        refine cR S (cc_canAdd l dg cA ad nh ni c j i (by omega) hi hn24 hni4) kX5_321 ⟨rfl, rfl, Nat.le_of_ble_eq_true rfl, Nat.le_of_ble_eq_true rfl⟩ hK hP 0 cl_0 (q := (RX5, TX5, 9)) rfl rfl (As := [.int (nI j), .int (nI i)]) rfl hl.1 (rest := []) rfl (Nat.le_of_ble_eq_true rfl) dX5_nearestFor_31 ⟨Nat.le_of_ble_eq_true rfl, Nat.le_of_ble_eq_true rfl⟩ (st1 := [.int (b2 (c_fit c i j))]) rfl ?_
        refine lv_if_eq (tgt := 72) hx hb dX5_nearestFor_34 (by decide) (fun b34 => ?_) (fun b34 => ?_)
        · skip
          have c34 := b2_0 b34
          refine lv_iinc (v := nI (j + 1)) (lv' := [(5, .int (nI (j + 1))), (0, .ref (ad 0)), (1, .int (nI i)), (2, .ref (ad (60 + i))), (3, .int (oI (nxt (c_fit c i) (c_dist c i) j))), (4, .int (c_lw (c_dist c i) (nxt (c_fit c i) (c_dist c i) j)))]) hx hb dX5_nearestFor_72 hl (k := 5) rfl (nI_1 j) (by decide) rfl (fun ls hl => ?_)
          refine lv_goto (tgt := 15) hx hb dX5_nearestFor_75 (by decide) ?_
          exact ih15 (j + 1) (by omega) (by omega) ls (lv_cast (lv_sub (l' := [(0, .ref (ad 0)), (1, .int (nI i)), (2, .ref (ad (60 + i))), (3, .int (oI (nxt (c_fit c i) (c_dist c i) j))), (4, .int (c_lw (c_dist c i) (nxt (c_fit c i) (c_dist c i) j))), (5, .int (nI (j + 1)))]) hl [1, 2, 3, 4, 5, 0] rfl) (by rw [nxt_f c34]))
        · skip
          have c34 := b2_1 b34
          refine lv_aload_n hx hb dX5_nearestFor_37 rfl (lv_at hl 2 rfl) ?_
          refine lv_aload_n hx hb dX5_nearestFor_38 rfl (lv_at hl 0 rfl) ?_
          refine gf S hK hP 0 cl_0 fX5_18 (v := .ref (ad 6)) cfb_1 dX5_nearestFor_39 ?_
          refine lv_iload hx hb dX5_nearestFor_42 (lv_at hl 5 rfl) ?_
          refine qld S hK hP 6 2 cl_6 (C := RX2) rfl (j := j) (b := ad (30 + j)) (by omega) (Nat.le_of_ble_eq_true rfl) (chs_at (by omega)) dX5_nearestFor_44 ?_
          refine gf S hK hP (22 + j) (cl_h (by omega)) fX5_315 (v := .int (c 20 j)) (ch_0 rfl) dX5_nearestFor_45 ?_
          refine cR S (cc_wayTo l dg cA ad nh ni c i (by omega) (c 20 j)) kX5_324 ⟨rfl, rfl, Nat.le_of_ble_eq_true rfl, Nat.le_of_ble_eq_true rfl⟩ hK hP (22 + (nh + i)) (cl_i (by omega)) (q := (RX3, TX3, 7)) rfl rfl (As := [.int (c 20 j)]) rfl hl.1 (rest := []) rfl (Nat.le_of_ble_eq_true rfl) dX5_nearestFor_48 ⟨Nat.le_of_ble_eq_true rfl, Nat.le_of_ble_eq_true rfl⟩ (st1 := [.int (c_abs ((c 20 j) - c 35 i))]) rfl ?_
          refine lv_istore (lv' := [(6, .int (c_abs ((c 20 j) - c 35 i))), (0, .ref (ad 0)), (1, .int (nI i)), (2, .ref (ad (60 + i))), (3, .int (oI (nxt (c_fit c i) (c_dist c i) j))), (4, .int (c_lw (c_dist c i) (nxt (c_fit c i) (c_dist c i) j))), (5, .int (nI j))]) hx hb dX5_nearestFor_51 hl (by decide) rfl (fun ls hl => ?_)
          rcases hb9 : nxt (c_fit c i) (c_dist c i) j with _ | b
          · skip
            rw [hb9] at hl
            have hl : lv_has ls 7 [(6, .int (c_abs ((c 20 j) - c 35 i))), (0, .ref (ad 0)), (1, .int (nI i)), (2, .ref (ad (60 + i))), (3, .int (-1)), (4, .int 0), (5, .int (nI j))] := hl
            refine lv_iload_n hx hb dX5_nearestFor_53 rfl (lv_at hl 4 rfl) ?_
            refine lv_iconst (v := (-1)) hx hb dX5_nearestFor_54 (by decide) ?_
            refine lv_icmp_eq (tgt := 65) hx hb dX5_nearestFor_55 (by decide) (fun b55 => ?_) (fun b55 => ?_)
            · skip
              refine lv_iload hx hb dX5_nearestFor_65 (lv_at hl 6 rfl) ?_
              refine lv_istore_n (lv' := [(3, .int (nI j)), (6, .int (c_abs ((c 20 j) - c 35 i))), (0, .ref (ad 0)), (1, .int (nI i)), (2, .ref (ad (60 + i))), (4, .int 0), (5, .int (nI j))]) hx hb dX5_nearestFor_67 rfl hl (by decide) rfl (fun ls hl => ?_)
              refine lv_iload hx hb dX5_nearestFor_68 (lv_at hl 1 rfl) ?_
              refine lv_istore (lv' := [(4, .int (c_abs ((c 20 j) - c 35 i))), (3, .int (nI j)), (6, .int (c_abs ((c 20 j) - c 35 i))), (0, .ref (ad 0)), (1, .int (nI i)), (2, .ref (ad (60 + i))), (5, .int (nI j))]) hx hb dX5_nearestFor_70 hl (by decide) rfl (fun ls hl => ?_)
              refine lv_iinc (v := nI (j + 1)) (lv' := [(5, .int (nI (j + 1))), (4, .int (c_abs ((c 20 j) - c 35 i))), (3, .int (nI j)), (6, .int (c_abs ((c 20 j) - c 35 i))), (0, .ref (ad 0)), (1, .int (nI i)), (2, .ref (ad (60 + i)))]) hx hb dX5_nearestFor_72 hl (k := 6) rfl (nI_1 j) (by decide) rfl (fun ls hl => ?_)
              refine lv_goto (tgt := 15) hx hb dX5_nearestFor_75 (by decide) ?_
              exact ih15 (j + 1) (by omega) (by omega) ls (lv_cast (lv_sub (l' := [(0, .ref (ad 0)), (1, .int (nI i)), (2, .ref (ad (60 + i))), (3, .int (nI j)), (4, .int (c_abs ((c 20 j) - c 35 i))), (5, .int (nI (j + 1)))]) hl [4, 5, 6, 2, 1, 0] rfl) (by rw [nxt_n c34 hb9]; rfl))
            · skip
              exact False.elim (by revert b55; decide)
          · skip
            rw [hb9] at hl
            have hl : lv_has ls 7 [(6, .int (c_abs ((c 20 j) - c 35 i))), (0, .ref (ad 0)), (1, .int (nI i)), (2, .ref (ad (60 + i))), (3, .int (nI b)), (4, .int (c_dist c i b)), (5, .int (nI j))] := hl
            have hbj := (nxt_some hb9).1
            refine lv_iload_n hx hb dX5_nearestFor_53 rfl (lv_at hl 4 rfl) ?_
            refine lv_iconst (v := (-1)) hx hb dX5_nearestFor_54 (by decide) ?_
            refine lv_icmp_eq (tgt := 65) hx hb dX5_nearestFor_55 (by decide) (fun b55 => ?_) (fun b55 => ?_)
            · skip
              exact absurd b55 (nI_m1 (by omega))
            · skip
              refine lv_iload hx hb dX5_nearestFor_58 (lv_at hl 0 rfl) ?_
              refine lv_iload hx hb dX5_nearestFor_60 (lv_at hl 5 rfl) ?_
              refine lv_icmp_ge (tgt := 72) hx hb dX5_nearestFor_62 (by decide) (fun b62 => ?_) (fun b62 => ?_)
              · skip
                refine lv_iinc (v := nI (j + 1)) (lv' := [(5, .int (nI (j + 1))), (6, .int (c_abs ((c 20 j) - c 35 i))), (0, .ref (ad 0)), (1, .int (nI i)), (2, .ref (ad (60 + i))), (3, .int (nI b)), (4, .int (c_dist c i b))]) hx hb dX5_nearestFor_72 hl (k := 6) rfl (nI_1 j) (by decide) rfl (fun ls hl => ?_)
                refine lv_goto (tgt := 15) hx hb dX5_nearestFor_75 (by decide) ?_
                exact ih15 (j + 1) (by omega) (by omega) ls (lv_cast (lv_sub (l' := [(0, .ref (ad 0)), (1, .int (nI i)), (2, .ref (ad (60 + i))), (3, .int (nI b)), (4, .int (c_dist c i b)), (5, .int (nI (j + 1)))]) hl [2, 3, 4, 5, 6, 0] rfl) (by rw [nxt_b c34 hb9 b62]; rfl))
              · skip
                refine lv_iload hx hb dX5_nearestFor_65 (lv_at hl 6 rfl) ?_
                refine lv_istore_n (lv' := [(3, .int (nI j)), (6, .int (c_abs ((c 20 j) - c 35 i))), (0, .ref (ad 0)), (1, .int (nI i)), (2, .ref (ad (60 + i))), (4, .int (c_dist c i b)), (5, .int (nI j))]) hx hb dX5_nearestFor_67 rfl hl (by decide) rfl (fun ls hl => ?_)
                refine lv_iload hx hb dX5_nearestFor_68 (lv_at hl 1 rfl) ?_
                refine lv_istore (lv' := [(4, .int (c_abs ((c 20 j) - c 35 i))), (3, .int (nI j)), (6, .int (c_abs ((c 20 j) - c 35 i))), (0, .ref (ad 0)), (1, .int (nI i)), (2, .ref (ad (60 + i))), (5, .int (nI j))]) hx hb dX5_nearestFor_70 hl (by decide) rfl (fun ls hl => ?_)
                refine lv_iinc (v := nI (j + 1)) (lv' := [(5, .int (nI (j + 1))), (4, .int (c_abs ((c 20 j) - c 35 i))), (3, .int (nI j)), (6, .int (c_abs ((c 20 j) - c 35 i))), (0, .ref (ad 0)), (1, .int (nI i)), (2, .ref (ad (60 + i)))]) hx hb dX5_nearestFor_72 hl (k := 6) rfl (nI_1 j) (by decide) rfl (fun ls hl => ?_)
                refine lv_goto (tgt := 15) hx hb dX5_nearestFor_75 (by decide) ?_
                exact ih15 (j + 1) (by omega) (by omega) ls (lv_cast (lv_sub (l' := [(0, .ref (ad 0)), (1, .int (nI i)), (2, .ref (ad (60 + i))), (3, .int (nI j)), (4, .int (c_abs ((c 20 j) - c 35 i))), (5, .int (nI (j + 1)))]) hl [4, 5, 6, 2, 1, 0] rfl) (by rw [nxt_j c34 hb9 (Int32.not_le.mpr (Int32.not_le.mp b62))]; rfl))
  exact hL15 _ 0 (Nat.lt_succ_self _) (Nat.zero_le _) ls (lv_cast (lv_sub (l' := [(0, .ref (ad 0)), (1, .int (nI i)), (2, .ref (ad (60 + i))), (3, .int (-1)), (4, .int 0), (5, .int 0)]) hl [4, 5, 3, 2, 1, 0] rfl) (by rfl))

set_option maxHeartbeats 4000000 in
set_option maxRecDepth 100000 in
theorem cc_mkR (l : Launch) (dg : va_G) (cA : Nat → ClassId) (ad : Nat → Nat) (nh ni : Nat) (c : St) (hn : c 0 4 = nI nh) (hn24 : nh ≤ 24) (i : Nat) (hi : i < ni) (hni4 : ni ≤ 4) (h34 : c 34 i = 0) (sz : Nat) : MetM l dg cA yX5_makeRound cX5_makeRound 5 none ({ frames := 4, cells := 0, slots := 0, locals := 85 } : Room) 0 0 (cw cA ad nh ni c) sz [.ref (ad 0), .int (nI i)] (cw cA ad nh ni (c_wl nh i nh c 0)) none := by
  refine ofM (by decide) (Nat.le_of_ble_eq_true rfl) (own := RX5) rfl (fun p e s0 m args below meth ccd ls A hAe S hr hlk hname hargs hK hP hD hS hA hsz hl => ?_)
  have hx := S.1
  have hb := S.2.1
  have hl : lv_has ls 5 [(0, .ref (ad 0)), (1, .int (nI i))] := hl
  refine lv_aload_n hx hb dX5_makeRound_0 rfl (lv_at hl 0 rfl) ?_
  refine gf S hK hP 0 cl_0 fX5_24 (v := .ref (ad 7)) cfb_2 dX5_makeRound_1 ?_
  refine lv_iload_n hx hb dX5_makeRound_4 rfl (lv_at hl 1 rfl) ?_
  refine qld S hK hP 7 3 cl_7 (C := RX3) rfl (j := i) (b := ad (60 + i)) (by omega) (Nat.le_of_ble_eq_true rfl) (cis_at (by omega)) dX5_makeRound_5 ?_
  refine lv_astore_n (lv' := [(2, .ref (ad (60 + i))), (0, .ref (ad 0)), (1, .int (nI i))]) hx hb dX5_makeRound_6 rfl hl (by decide) rfl (fun ls hl => ?_)
  refine lv_iconst (v := 0) hx hb dX5_makeRound_7 (by decide) ?_
  refine lv_istore_n (lv' := [(3, .int 0), (2, .ref (ad (60 + i))), (0, .ref (ad 0)), (1, .int (nI i))]) hx hb dX5_makeRound_8 rfl hl (by decide) rfl (fun ls hl => ?_)
  have hL9 : ∀ (f : Nat) (k : Nat) (q : St), nh - k < f → (k ≤ nh) → (q 0 4 = nI nh) → (q 34 i = nI k) → (c_wl nh i (nh - k) q k = c_wl nh i nh c 0) → ∀ ls, lv_has ls 5 [(0, .ref (ad 0)), (1, .int (nI i)), (2, .ref (ad (60 + i))), (3, .int (nI k))] → ∀ (H : Heap) (locs : List Loc), PP dg (cw cA ad nh ni q) H → va_D A (cw cA ad nh ni q) → va_S A s0.heap H locs → W p l e ({ frames := 4, cells := 0, slots := 0, locals := 85 } : Room) s0 m args below meth ccd H locs 0 0 (MQ below (QcM dg (cw cA ad nh ni (c_wl nh i nh c 0)) none A) args s0 0 0 A) (F0 m 9 ls []) := by
    intro f
    induction f with
    | zero => intro k q hm; exact absurd hm (Nat.not_lt_zero _)
    | succ f ih9 =>
      intro k q hm9 hk hqn hqk hqw ls hl H locs hP hD hS
      refine lv_iload_n hx hb dX5_makeRound_9 rfl (lv_at hl 3 rfl) ?_
      refine lv_aload_n hx hb dX5_makeRound_10 rfl (lv_at hl 0 rfl) ?_
      refine gf S hK hP 0 cl_0 fX5_10 (v := .ref (ad 1)) cfb_0 dX5_makeRound_11 ?_
      refine gf S hK hP 1 cl_1 fX5_81 (v := .int (nI nh)) (cfr_5 hqn) dX5_makeRound_14 ?_
      refine lv_icmp_ge (tgt := 67) hx hb dX5_makeRound_17 (by decide) (fun b17 => ?_) (fun b17 => ?_)
      · skip
        have g17 : nh ≤ k := (nI_leI (a := nh) (b := k) (by omega) (by omega)).mp b17
        exact eMv S hr hlk hP hD hS dX5_makeRound_67 (by rw [← hqw, show nh - k = 0 by omega]; rfl)
      · skip
        have g17 : ¬ nh ≤ k := fun zz => b17 ((nI_leI (a := nh) (b := k) (by omega) (by omega)).mpr zz)
        refine lv_aload_n hx hb dX5_makeRound_20 rfl (lv_at hl 0 rfl) ?_
        refine lv_iload_n hx hb dX5_makeRound_21 rfl (lv_at hl 1 rfl) ?_
        refine cR S (cc_nx l dg cA ad nh ni q hqn hn24 i hi hni4) kX5_312 ⟨rfl, rfl, Nat.le_of_ble_eq_true rfl, Nat.le_of_ble_eq_true rfl⟩ hK hP 0 cl_0 (q := (RX5, TX5, 9)) rfl rfl (As := [.int (nI i)]) rfl hl.1 (rest := []) rfl (Nat.le_of_ble_eq_true rfl) dX5_makeRound_22 ⟨Nat.le_of_ble_eq_true rfl, Nat.le_of_ble_eq_true rfl⟩ (st1 := [.int (oI (c_nx q i nh))]) rfl ?_
        refine lv_istore (lv' := [(4, .int (oI (c_nx q i nh))), (0, .ref (ad 0)), (1, .int (nI i)), (2, .ref (ad (60 + i))), (3, .int (nI k))]) hx hb dX5_makeRound_25 hl (by decide) rfl (fun ls hl => ?_)
        rcases hb9 : c_nx q i nh with _ | h
        · skip
          rw [hb9] at hl
          have hl : lv_has ls 5 [(4, .int (-1)), (0, .ref (ad 0)), (1, .int (nI i)), (2, .ref (ad (60 + i))), (3, .int (nI k))] := hl
          refine lv_iload hx hb dX5_makeRound_27 (lv_at hl 0 rfl) ?_
          refine lv_iconst (v := (-1)) hx hb dX5_makeRound_29 (by decide) ?_
          refine lv_icmp_ne (tgt := 34) hx hb dX5_makeRound_30 (by decide) (fun b30 => ?_) (fun b30 => ?_)
          · skip
            exact False.elim (by revert b30; decide)
          · skip
            exact eMv S hr hlk hP hD hS dX5_makeRound_33 (by rw [← hqw, c_wl_n hb9])
        · skip
          rw [hb9] at hl
          have hl : lv_has ls 5 [(4, .int (nI h)), (0, .ref (ad 0)), (1, .int (nI i)), (2, .ref (ad (60 + i))), (3, .int (nI k))] := hl
          have hbj := (nxt_some hb9).1
          refine lv_iload hx hb dX5_makeRound_27 (lv_at hl 0 rfl) ?_
          refine lv_iconst (v := (-1)) hx hb dX5_makeRound_29 (by decide) ?_
          refine lv_icmp_ne (tgt := 34) hx hb dX5_makeRound_30 (by decide) (fun b30 => ?_) (fun b30 => ?_)
          · skip
            refine lv_aload_n hx hb dX5_makeRound_34 rfl (lv_at hl 3 rfl) ?_
            refine lv_iload hx hb dX5_makeRound_35 (lv_at hl 0 rfl) ?_
            refine lv_aload_n hx hb dX5_makeRound_37 rfl (lv_at hl 1 rfl) ?_
            refine gf S hK hP 0 cl_0 fX5_18 (v := .ref (ad 6)) cfb_1 dX5_makeRound_38 ?_
            refine lv_iload hx hb dX5_makeRound_41 (lv_at hl 0 rfl) ?_
            refine qld S hK hP 6 2 cl_6 (C := RX2) rfl (j := h) (b := ad (30 + h)) (by omega) (Nat.le_of_ble_eq_true rfl) (chs_at (by omega)) dX5_makeRound_43 ?_
            refine gf S hK hP (22 + h) (cl_h (by omega)) fX5_315 (v := .int (q 20 h)) (ch_0 rfl) dX5_makeRound_44 ?_
            refine cM S (cc_addToRound l dg cA ad nh ni q i hi hni4 k hqk (by omega) (nI h) (q 20 h) _) kX5_318 ⟨rfl, rfl, Nat.le_of_ble_eq_true rfl, Nat.le_of_ble_eq_true rfl⟩ hK hP hD hS hA (22 + (nh + i)) (cl_i (by omega)) (q := (RX3, TX3, 7)) rfl rfl (As := [.int (nI h), .int (q 20 h)]) rfl hl.1 (rest := []) rfl (Nat.le_of_ble_eq_true rfl) dX5_makeRound_47 ⟨Nat.le_of_ble_eq_true rfl, Nat.le_of_ble_eq_true rfl⟩ (st1 := []) rfl (fun H locs hP hD hS => ?_)
            refine lv_aload_n hx hb dX5_makeRound_50 rfl (lv_at hl 1 rfl) ?_
            refine gf S hK hP 0 cl_0 fX5_18 (v := .ref (ad 6)) cfb_1 dX5_makeRound_51 ?_
            refine lv_iload hx hb dX5_makeRound_54 (lv_at hl 0 rfl) ?_
            refine qld S hK hP 6 2 cl_6 (C := RX2) rfl (j := h) (b := ad (30 + h)) (by omega) (Nat.le_of_ble_eq_true rfl) (chs_at (by omega)) dX5_makeRound_56 ?_
            refine lv_iload_n hx hb dX5_makeRound_57 rfl (lv_at hl 2 rfl) ?_
            refine pf S hK hP hD hS (22 + h) (cl_h (by omega)) fX5_155 fpX2 rfl (v := .int (nI i)) rfl rfl (Nat.le_of_ble_eq_true rfl) (cs_h_7 (by omega)) dX5_makeRound_58 (fun H locs hP hD hS => ?_)
            refine lv_iinc (v := nI (k + 1)) (lv' := [(3, .int (nI (k + 1))), (4, .int (nI h)), (0, .ref (ad 0)), (1, .int (nI i)), (2, .ref (ad (60 + i)))]) hx hb dX5_makeRound_61 hl (k := 4) rfl (nI_1 k) (by decide) rfl (fun ls hl => ?_)
            refine lv_goto (tgt := 9) hx hb dX5_makeRound_64 (by decide) ?_
            have es : (cw cA ad nh ni (up (up (up (up (up q 40 (4 * k + i) (nI h)) 34 i (nI (k + 1))) 36 i (q 36 i + (c_abs (q 20 h - q 35 i) + 30))) 35 i (q 20 h)) 27 h (nI i))) = (cw cA ad nh ni (c_ws q i h k)) := by rfl
            rw [es] at hP hD
            exact ih9 (k + 1) (c_ws q i h k) (by omega) (by omega) (by rw [c_ws_row (by decide) (by decide) (by decide) (by decide) (by decide)]; exact hqn) c_ws_34 (by rw [← hqw, show nh - k = (nh - (k + 1)) + 1 by omega, c_wl_s hb9]) ls (lv_sub hl [2, 3, 4, 0] rfl) _ _ hP hD hS
          · skip
            exact absurd b30 (nI_m1 (by omega))
  have es : (cw cA ad nh ni c) = (cw cA ad nh ni c) := rfl
  rw [es] at hP hD
  exact hL9 _ 0 c (Nat.lt_succ_self _) (Nat.zero_le _) hn h34 rfl ls (lv_cast (lv_sub (l' := [(0, .ref (ad 0)), (1, .int (nI i)), (2, .ref (ad (60 + i))), (3, .int 0)]) hl [2, 3, 1, 0] rfl) (by rfl)) _ _ hP hD hS

set_option maxHeartbeats 4000000 in
set_option maxRecDepth 100000 in
theorem cc_mkRs (l : Launch) (dg : va_G) (cA : Nat → ClassId) (ad : Nat → Nat) (nh ni : Nat) (c : St) (hn : c 0 4 = nI nh) (hn24 : nh ≤ 24) (hni : c 0 0 = nI ni) (hni4 : ni ≤ 4) (sz : Nat) : MetM l dg cA yX5_makeRounds cX5_makeRounds 2 none ({ frames := 5, cells := 0, slots := 0, locals := 109 } : Room) 0 0 (cw cA ad nh ni c) sz [.ref (ad 0)] (cw cA ad nh ni (c_rounds c nh ni)) none := by
  refine ofM (by decide) (Nat.le_of_ble_eq_true rfl) (own := RX5) rfl (fun p e s0 m args below meth ccd ls A hAe S hr hlk hname hargs hK hP hD hS hA hsz hl => ?_)
  have hx := S.1
  have hb := S.2.1
  have hl : lv_has ls 2 [(0, .ref (ad 0))] := hl
  refine lv_iconst (v := 0) hx hb dX5_makeRounds_0 (by decide) ?_
  refine lv_istore_n (lv' := [(1, .int 0), (0, .ref (ad 0))]) hx hb dX5_makeRounds_1 rfl hl (by decide) rfl (fun ls hl => ?_)
  have hL2 : ∀ (f : Nat) (j : Nat), nh - j < f → (j ≤ nh) → ∀ ls, lv_has ls 2 [(0, .ref (ad 0)), (1, .int (nI j))] → ∀ (H : Heap) (locs : List Loc), PP dg (cw cA ad nh ni (c_bd c j)) H → va_D A (cw cA ad nh ni (c_bd c j)) → va_S A s0.heap H locs → W p l e ({ frames := 5, cells := 0, slots := 0, locals := 109 } : Room) s0 m args below meth ccd H locs 0 0 (MQ below (QcM dg (cw cA ad nh ni (c_rounds c nh ni)) none A) args s0 0 0 A) (F0 m 2 ls []) := by
    intro f
    induction f with
    | zero => intro j hm; exact absurd hm (Nat.not_lt_zero _)
    | succ f ih2 =>
      intro j hm2 hj ls hl H locs hP hD hS
      refine lv_iload_n hx hb dX5_makeRounds_2 rfl (lv_at hl 1 rfl) ?_
      refine lv_aload_n hx hb dX5_makeRounds_3 rfl (lv_at hl 0 rfl) ?_
      refine gf S hK hP 0 cl_0 fX5_10 (v := .ref (ad 1)) cfb_0 dX5_makeRounds_4 ?_
      refine gf S hK hP 1 cl_1 fX5_81 (v := .int (nI nh)) (cfr_5 (show c_bd c j 0 4 = nI nh by rw [c_bd_row _ _ (by decide) (by decide) (by decide)]; exact hn)) dX5_makeRounds_7 ?_
      refine lv_icmp_ge (tgt := 28) hx hb dX5_makeRounds_10 (by decide) (fun b10 => ?_) (fun b10 => ?_)
      · skip
        have g10 : nh ≤ j := (nI_leI (a := nh) (b := j) (by omega) (by omega)).mp b10
        have ej : j = nh := by omega
        rw [ej] at hl hP hD
        refine lv_iconst (v := 0) hx hb dX5_makeRounds_28 (by decide) ?_
        refine lv_istore_n (lv' := [(1, .int 0), (0, .ref (ad 0))]) hx hb dX5_makeRounds_29 rfl hl (by decide) rfl (fun ls hl => ?_)
        have hL30 : ∀ (f : Nat) (i : Nat), ni - i < f → (i ≤ ni) → ∀ ls, lv_has ls 2 [(0, .ref (ad 0)), (1, .int (nI i))] → ∀ (H : Heap) (locs : List Loc), PP dg (cw cA ad nh ni (c_mis (c_bd c nh) nh i)) H → va_D A (cw cA ad nh ni (c_mis (c_bd c nh) nh i)) → va_S A s0.heap H locs → W p l e ({ frames := 5, cells := 0, slots := 0, locals := 109 } : Room) s0 m args below meth ccd H locs 0 0 (MQ below (QcM dg (cw cA ad nh ni (c_rounds c nh ni)) none A) args s0 0 0 A) (F0 m 30 ls []) := by
          intro f
          induction f with
          | zero => intro i hm; exact absurd hm (Nat.not_lt_zero _)
          | succ f ih30 =>
            intro i hm30 hi ls hl H locs hP hD hS
            have hmn : (c_mis (c_bd c nh) nh i) 0 4 = nI nh := by rw [c_mis_row (by decide) (by decide) (by decide) (by decide) (by decide), c_bd_row _ _ (by decide) (by decide) (by decide)]; exact hn
            have hmi : (c_mis (c_bd c nh) nh i) 0 0 = nI ni := by rw [c_mis_row (by decide) (by decide) (by decide) (by decide) (by decide), c_bd_row _ _ (by decide) (by decide) (by decide)]; exact hni
            have hm9 : (c_mis (c_bd c nh) nh i) 9 i = c 9 i := by rw [c_mis_row (by decide) (by decide) (by decide) (by decide) (by decide), c_bd_row _ _ (by decide) (by decide) (by decide)]
            refine lv_iload_n hx hb dX5_makeRounds_30 rfl (lv_at hl 1 rfl) ?_
            refine lv_aload_n hx hb dX5_makeRounds_31 rfl (lv_at hl 0 rfl) ?_
            refine gf S hK hP 0 cl_0 fX5_45 (v := .int (nI ni)) (cfb_6 hmi) dX5_makeRounds_32 ?_
            refine lv_icmp_ge (tgt := 69) hx hb dX5_makeRounds_35 (by decide) (fun b35 => ?_) (fun b35 => ?_)
            · skip
              have g35 : ni ≤ i := (nI_leI (a := ni) (b := i) (by omega) (by omega)).mp b35
              exact eMv S hr hlk hP hD hS dX5_makeRounds_69 (by rw [show i = ni by omega]; rfl)
            · skip
              have g35 : ¬ ni ≤ i := fun zz => b35 ((nI_leI (a := ni) (b := i) (by omega) (by omega)).mpr zz)
              refine lv_aload_n hx hb dX5_makeRounds_38 rfl (lv_at hl 0 rfl) ?_
              refine gf S hK hP 0 cl_0 fX5_24 (v := .ref (ad 7)) cfb_2 dX5_makeRounds_39 ?_
              refine lv_iload_n hx hb dX5_makeRounds_42 rfl (lv_at hl 1 rfl) ?_
              refine qld S hK hP 7 3 cl_7 (C := RX3) rfl (j := i) (b := ad (60 + i)) (by omega) (Nat.le_of_ble_eq_true rfl) (cis_at (by omega)) dX5_makeRounds_43 ?_
              refine cM S (cc_beginRound l dg cA ad nh ni (c_mis (c_bd c nh) nh i) i (by omega) _) kX5_306 ⟨rfl, rfl, Nat.le_of_ble_eq_true rfl, Nat.le_of_ble_eq_true rfl⟩ hK hP hD hS hA (22 + (nh + i)) (cl_i (by omega)) (q := (RX3, TX3, 7)) rfl rfl (As := []) rfl hl.1 (rest := []) rfl (Nat.le_of_ble_eq_true rfl) dX5_makeRounds_44 ⟨Nat.le_of_ble_eq_true rfl, Nat.le_of_ble_eq_true rfl⟩ (st1 := []) rfl (fun H locs hP hD hS => ?_)
              refine lv_aload_n hx hb dX5_makeRounds_47 rfl (lv_at hl 0 rfl) ?_
              refine gf S hK hP 0 cl_0 fX5_31 (v := .ref (ad 8)) cfb_3 dX5_makeRounds_48 ?_
              refine lv_iload_n hx hb dX5_makeRounds_51 rfl (lv_at hl 1 rfl) ?_
              by_cases u52 : c 9 i < 2
              · skip
                refine cR S (cc_barred0_k l dg cA ad nh ni (up (up (up (c_mis (c_bd c nh) nh i) 34 i 0) 35 i ((c_mis (c_bd c nh) nh i) 31 i)) 36 i 0) i (by omega) (c 9 i) hm9 u52) kX5_284 ⟨rfl, rfl, Nat.le_of_ble_eq_true rfl, Nat.le_of_ble_eq_true rfl⟩ hK hP 8 cl_8 (q := (RX4, TX4, 5)) rfl rfl (As := [.int (nI i)]) rfl hl.1 (rest := []) rfl (Nat.le_of_ble_eq_true rfl) dX5_makeRounds_52 ⟨Nat.le_of_ble_eq_true rfl, Nat.le_of_ble_eq_true rfl⟩ (st1 := [.int 0]) rfl ?_
                refine lv_if_ne (tgt := 63) hx hb dX5_makeRounds_55 (by decide) (fun b55 => ?_) (fun b55 => ?_)
                · skip
                  exact False.elim (by revert b55; decide)
                · skip
                  refine lv_aload_n hx hb dX5_makeRounds_58 rfl (lv_at hl 0 rfl) ?_
                  refine lv_iload_n hx hb dX5_makeRounds_59 rfl (lv_at hl 1 rfl) ?_
                  refine cM S (cc_mkR l dg cA ad nh ni (up (up (up (c_mis (c_bd c nh) nh i) 34 i 0) 35 i ((c_mis (c_bd c nh) nh i) 31 i)) 36 i 0) hmn hn24 i (by omega) hni4 up_b1 _) kX5_309 ⟨rfl, rfl, Nat.le_of_ble_eq_true rfl, Nat.le_of_ble_eq_true rfl⟩ hK hP hD hS hA 0 cl_0 (q := (RX5, TX5, 9)) rfl rfl (As := [.int (nI i)]) rfl hl.1 (rest := []) rfl (Nat.le_of_ble_eq_true rfl) dX5_makeRounds_60 ⟨Nat.le_of_ble_eq_true rfl, Nat.le_of_ble_eq_true rfl⟩ (st1 := []) rfl (fun H locs hP hD hS => ?_)
                  refine lv_iinc (v := nI (i + 1)) (lv' := [(1, .int (nI (i + 1))), (0, .ref (ad 0))]) hx hb dX5_makeRounds_63 hl (k := 1) rfl (nI_1 i) (by decide) rfl (fun ls hl => ?_)
                  refine lv_goto (tgt := 30) hx hb dX5_makeRounds_66 (by decide) ?_
                  have es : (cw cA ad nh ni (c_wl nh i nh (up (up (up (c_mis (c_bd c nh) nh i) 34 i 0) 35 i ((c_mis (c_bd c nh) nh i) 31 i)) 36 i 0) 0)) = (cw cA ad nh ni (c_mis (c_bd c nh) nh (i + 1))) := congrArg (cw cA ad nh ni) (show _ = c_mi _ _ _ by unfold c_mi; rw [if_pos (by rw [c_mis_row (by decide) (by decide) (by decide) (by decide) (by decide), c_bd_row _ _ (by decide) (by decide) (by decide)]; exact u52)]; rfl)
                  rw [es] at hP hD
                  exact ih30 (i + 1) (by omega) (by omega) ls (lv_sub hl [1, 0] rfl) _ _ hP hD hS
              · skip
                refine cR S (cc_barred1_k l dg cA ad nh ni (up (up (up (c_mis (c_bd c nh) nh i) 34 i 0) 35 i ((c_mis (c_bd c nh) nh i) 31 i)) 36 i 0) i (by omega) (c 9 i) hm9 u52) kX5_284 ⟨rfl, rfl, Nat.le_of_ble_eq_true rfl, Nat.le_of_ble_eq_true rfl⟩ hK hP 8 cl_8 (q := (RX4, TX4, 5)) rfl rfl (As := [.int (nI i)]) rfl hl.1 (rest := []) rfl (Nat.le_of_ble_eq_true rfl) dX5_makeRounds_52 ⟨Nat.le_of_ble_eq_true rfl, Nat.le_of_ble_eq_true rfl⟩ (st1 := [.int 1]) rfl ?_
                refine lv_if_ne (tgt := 63) hx hb dX5_makeRounds_55 (by decide) (fun b55 => ?_) (fun b55 => ?_)
                · skip
                  refine lv_iinc (v := nI (i + 1)) (lv' := [(1, .int (nI (i + 1))), (0, .ref (ad 0))]) hx hb dX5_makeRounds_63 hl (k := 1) rfl (nI_1 i) (by decide) rfl (fun ls hl => ?_)
                  refine lv_goto (tgt := 30) hx hb dX5_makeRounds_66 (by decide) ?_
                  have es : (cw cA ad nh ni (up (up (up (c_mis (c_bd c nh) nh i) 34 i 0) 35 i ((c_mis (c_bd c nh) nh i) 31 i)) 36 i 0)) = (cw cA ad nh ni (c_mis (c_bd c nh) nh (i + 1))) := congrArg (cw cA ad nh ni) (show _ = c_mi _ _ _ by unfold c_mi; rw [if_neg (by rw [c_mis_row (by decide) (by decide) (by decide) (by decide) (by decide), c_bd_row _ _ (by decide) (by decide) (by decide)]; exact u52)]; rfl)
                  rw [es] at hP hD
                  exact ih30 (i + 1) (by omega) (by omega) ls (lv_sub hl [1, 0] rfl) _ _ hP hD hS
                · skip
                  exact False.elim (by revert b55; decide)
        have es : (cw cA ad nh ni (c_bd c nh)) = (cw cA ad nh ni (c_mis (c_bd c nh) nh 0)) := rfl
        rw [es] at hP hD
        exact hL30 _ 0 (Nat.lt_succ_self _) (Nat.zero_le _) ls (lv_cast (lv_sub (l' := [(0, .ref (ad 0)), (1, .int 0)]) hl [1, 0] rfl) (by rfl)) _ _ hP hD hS
      · skip
        have g10 : ¬ nh ≤ j := fun zz => b10 ((nI_leI (a := nh) (b := j) (by omega) (by omega)).mpr zz)
        refine lv_aload_n hx hb dX5_makeRounds_13 rfl (lv_at hl 0 rfl) ?_
        refine gf S hK hP 0 cl_0 fX5_18 (v := .ref (ad 6)) cfb_1 dX5_makeRounds_14 ?_
        refine lv_iload_n hx hb dX5_makeRounds_17 rfl (lv_at hl 1 rfl) ?_
        refine qld S hK hP 6 2 cl_6 (C := RX2) rfl (j := j) (b := ad (30 + j)) (by omega) (Nat.le_of_ble_eq_true rfl) (chs_at (by omega)) dX5_makeRounds_18 ?_
        refine cM S (cc_beginDay l dg cA ad nh ni (c_bd c j) j (by omega) _) kX5_303 ⟨rfl, rfl, Nat.le_of_ble_eq_true rfl, Nat.le_of_ble_eq_true rfl⟩ hK hP hD hS hA (22 + j) (cl_h (by omega)) (q := (RX2, TX2, 11)) rfl rfl (As := []) rfl hl.1 (rest := []) rfl (Nat.le_of_ble_eq_true rfl) dX5_makeRounds_19 ⟨Nat.le_of_ble_eq_true rfl, Nat.le_of_ble_eq_true rfl⟩ (st1 := []) rfl (fun H locs hP hD hS => ?_)
        refine lv_iinc (v := nI (j + 1)) (lv' := [(1, .int (nI (j + 1))), (0, .ref (ad 0))]) hx hb dX5_makeRounds_22 hl (k := 1) rfl (nI_1 j) (by decide) rfl (fun ls hl => ?_)
        refine lv_goto (tgt := 2) hx hb dX5_makeRounds_25 (by decide) ?_
        have es : (cw cA ad nh ni (up (up (up (c_bd c j) 27 j (-1)) 28 j 0) 29 j 0)) = (cw cA ad nh ni (c_bd c (j + 1))) := by rfl
        rw [es] at hP hD
        exact ih2 (j + 1) (by omega) (by omega) ls (lv_sub hl [1, 0] rfl) _ _ hP hD hS
  have es : (cw cA ad nh ni c) = (cw cA ad nh ni (c_bd c 0)) := rfl
  rw [es] at hP hD
  exact hL2 _ 0 (Nat.lt_succ_self _) (Nat.zero_le _) ls (lv_cast (lv_sub (l' := [(0, .ref (ad 0)), (1, .int 0)]) hl [1, 0] rfl) (by rfl)) _ _ hP hD hS

set_option maxHeartbeats 4000000 in
set_option maxRecDepth 100000 in
theorem cc_re1 (l : Launch) (dg : va_G) (cA : Nat → ClassId) (ad : Nat → Nat) (nh ni : Nat) (c : St) (ev : Ev) (hev : e_ok ev) (htk : tk_ok 10 c) (sz : Nat) : MetM l dg cA yX1_retellOne cX1_retellOne 7 none ({ frames := 2, cells := 0, slots := 0, locals := 45 } : Room) 0 0 (cw cA ad nh ni c) sz [.ref (ad 20), .int (e_w ev), .ref (ad 14)] (cw cA ad nh ni (c_one 10 c ev)) none := by
  refine ofM (by decide) (Nat.le_of_ble_eq_true rfl) (own := RX1) rfl (fun p e s0 m args below meth ccd ls A hAe S hr hlk hname hargs hK hP hD hS hA hsz hl => ?_)
  have hx := S.1
  have hb := S.2.1
  have hl : lv_has ls 7 [(0, .ref (ad 20)), (1, .int (e_w ev)), (2, .ref (ad 14))] := hl
  obtain ⟨v, hv, hxv⟩ := htk ev.2.1 hev.2.1
  have hev1 := hev.2.1
  refine lv_iload_n hx hb dX1_retellOne_0 rfl (lv_at hl 1 rfl) ?_
  refine lv_bipush (v := 16) hx hb dX1_retellOne_1 (by decide) ?_
  refine lv_ishr hx hb dX1_retellOne_3 ?_
  refine lv_as (y := ev.1) (e_dk hev) ?_
  refine lv_istore_n (lv' := [(3, .int ev.1), (0, .ref (ad 20)), (1, .int (e_w ev)), (2, .ref (ad 14))]) hx hb dX1_retellOne_4 rfl hl (by decide) rfl (fun ls hl => ?_)
  refine lv_iload_n hx hb dX1_retellOne_5 rfl (lv_at hl 2 rfl) ?_
  refine lv_bipush (v := 12) hx hb dX1_retellOne_6 (by decide) ?_
  refine lv_ishr hx hb dX1_retellOne_8 ?_
  refine lv_iconst (v := 3) hx hb dX1_retellOne_9 (by decide) ?_
  refine lv_iand hx hb dX1_retellOne_10 ?_
  refine lv_as (y := nI ev.2.2.1) (e_dv hev) ?_
  refine lv_istore (lv' := [(4, .int (nI ev.2.2.1)), (3, .int ev.1), (0, .ref (ad 20)), (1, .int (e_w ev)), (2, .ref (ad 14))]) hx hb dX1_retellOne_11 hl (by decide) rfl (fun ls hl => ?_)
  refine lv_iload_n hx hb dX1_retellOne_13 rfl (lv_at hl 3 rfl) ?_
  refine lv_iconst (v := 4) hx hb dX1_retellOne_14 (by decide) ?_
  refine lv_ishr hx hb dX1_retellOne_15 ?_
  refine lv_bipush (v := 31) hx hb dX1_retellOne_16 (by decide) ?_
  refine lv_iand hx hb dX1_retellOne_18 ?_
  refine lv_as (y := nI ev.2.1) (e_dh hev) ?_
  refine lv_istore (lv' := [(5, .int (nI ev.2.1)), (4, .int (nI ev.2.2.1)), (3, .int ev.1), (0, .ref (ad 20)), (1, .int (e_w ev)), (2, .ref (ad 14))]) hx hb dX1_retellOne_19 hl (by decide) rfl (fun ls hl => ?_)
  refine lv_iload_n hx hb dX1_retellOne_21 rfl (lv_at hl 4 rfl) ?_
  refine lv_bipush (v := 15) hx hb dX1_retellOne_22 (by decide) ?_
  refine lv_iand hx hb dX1_retellOne_24 ?_
  refine lv_as (y := nI ev.2.2.2) (e_da hev) ?_
  refine lv_istore (lv' := [(6, .int (nI ev.2.2.2)), (5, .int (nI ev.2.1)), (4, .int (nI ev.2.2.1)), (3, .int ev.1), (0, .ref (ad 20)), (1, .int (e_w ev)), (2, .ref (ad 14))]) hx hb dX1_retellOne_25 hl (by decide) rfl (fun ls hl => ?_)
  refine lv_iload hx hb dX1_retellOne_27 (lv_at hl 1 rfl) ?_
  refine lv_bipush (v := 24) hx hb dX1_retellOne_29 (by decide) ?_
  refine lv_icmp_lt (tgt := 35) hx hb dX1_retellOne_31 (by decide) (fun b31 => ?_) (fun b31 => ?_)
  · skip
    have g31 : ev.2.1 < 24 := (nI_ltI (a := ev.2.1) (b := 24) (by omega) (by omega)).mp b31
    refine lv_iload_n hx hb dX1_retellOne_35 rfl (lv_at hl 3 rfl) ?_
    refine lv_bipush (v := 97) hx hb dX1_retellOne_36 (by decide) ?_
    refine lv_icmp_ne (tgt := 54) hx hb dX1_retellOne_38 (by decide) (fun b38 => ?_) (fun b38 => ?_)
    · skip
      refine lv_iload_n hx hb dX1_retellOne_54 rfl (lv_at hl 3 rfl) ?_
      refine lv_bipush (v := 99) hx hb dX1_retellOne_55 (by decide) ?_
      refine lv_icmp_ne (tgt := 69) hx hb dX1_retellOne_57 (by decide) (fun b57 => ?_) (fun b57 => ?_)
      · skip
        exact eMv S hr hlk hP hD hS dX1_retellOne_69 (by rw [c_one_n b38 b57])
      · skip
        refine lv_aload_n hx hb dX1_retellOne_60 rfl (lv_at hl 6 rfl) ?_
        refine lv_iload hx hb dX1_retellOne_61 (lv_at hl 1 rfl) ?_
        refine lv_iload hx hb dX1_retellOne_63 (lv_at hl 0 rfl) ?_
        by_cases u0 : c 10 ev.2.1 = 0
        · skip
          refine cM S (cc_ask0_a l dg cA ad nh ni c ev.2.1 hev.2.1 (nI ev.2.2.2) u0 _) kX1_32 ⟨rfl, rfl, Nat.le_of_ble_eq_true rfl, Nat.le_of_ble_eq_true rfl⟩ hK hP hD hS hA 14 cl_14 (q := (RX4, TX4, 5)) rfl rfl (As := [.int (nI ev.2.1), .int (nI ev.2.2.2)]) rfl hl.1 (rest := []) rfl (Nat.le_of_ble_eq_true rfl) dX1_retellOne_65 ⟨Nat.le_of_ble_eq_true rfl, Nat.le_of_ble_eq_true rfl⟩ (st1 := [.int 0]) rfl (fun H locs hP hD hS => ?_)
          have es := (c_ask_0 u0 : c_ask 10 c ev.2.1 (nI ev.2.2.2) = _)
          rw [← es] at hP hD
          refine lv_pop hx hb dX1_retellOne_68 rfl ?_
          exact eMv S hr hlk hP hD hS dX1_retellOne_69 (by rw [c_one_c b38 b57])
        · skip
          by_cases u1 : c 11 ev.2.1 = nI ev.2.2.2
          · skip
            refine cM S (cc_askS_a l dg cA ad nh ni c ev.2.1 hev.2.1 (nI ev.2.2.2) u0 u1 _) kX1_32 ⟨rfl, rfl, Nat.le_of_ble_eq_true rfl, Nat.le_of_ble_eq_true rfl⟩ hK hP hD hS hA 14 cl_14 (q := (RX4, TX4, 5)) rfl rfl (As := [.int (nI ev.2.1), .int (nI ev.2.2.2)]) rfl hl.1 (rest := []) rfl (Nat.le_of_ble_eq_true rfl) dX1_retellOne_65 ⟨Nat.le_of_ble_eq_true rfl, Nat.le_of_ble_eq_true rfl⟩ (st1 := [.int 0]) rfl (fun H locs hP hD hS => ?_)
            have es := (c_ask_s u0 u1 : c_ask 10 c ev.2.1 (nI ev.2.2.2) = _)
            rw [← es] at hP hD
            refine lv_pop hx hb dX1_retellOne_68 rfl ?_
            exact eMv S hr hlk hP hD hS dX1_retellOne_69 (by rw [c_one_c b38 b57])
          · skip
            by_cases u2 : c 14 v + 1 < 2
            · skip
              refine cM S (cc_askD_a l dg cA ad nh ni c ev.2.1 hev.2.1 (nI ev.2.2.2) u0 u1 v hv hxv u2 _) kX1_32 ⟨rfl, rfl, Nat.le_of_ble_eq_true rfl, Nat.le_of_ble_eq_true rfl⟩ hK hP hD hS hA 14 cl_14 (q := (RX4, TX4, 5)) rfl rfl (As := [.int (nI ev.2.1), .int (nI ev.2.2.2)]) rfl hl.1 (rest := []) rfl (Nat.le_of_ble_eq_true rfl) dX1_retellOne_65 ⟨Nat.le_of_ble_eq_true rfl, Nat.le_of_ble_eq_true rfl⟩ (st1 := [.int 0]) rfl (fun H locs hP hD hS => ?_)
              have es := (c_ask_d u0 u1 hv hxv u2 : c_ask 10 c ev.2.1 (nI ev.2.2.2) = _)
              rw [← es] at hP hD
              refine lv_pop hx hb dX1_retellOne_68 rfl ?_
              exact eMv S hr hlk hP hD hS dX1_retellOne_69 (by rw [c_one_c b38 b57])
            · skip
              refine cM S (cc_askB_a l dg cA ad nh ni c ev.2.1 hev.2.1 (nI ev.2.2.2) u0 u1 v hv hxv u2 _) kX1_32 ⟨rfl, rfl, Nat.le_of_ble_eq_true rfl, Nat.le_of_ble_eq_true rfl⟩ hK hP hD hS hA 14 cl_14 (q := (RX4, TX4, 5)) rfl rfl (As := [.int (nI ev.2.1), .int (nI ev.2.2.2)]) rfl hl.1 (rest := []) rfl (Nat.le_of_ble_eq_true rfl) dX1_retellOne_65 ⟨Nat.le_of_ble_eq_true rfl, Nat.le_of_ble_eq_true rfl⟩ (st1 := [.int 1]) rfl (fun H locs hP hD hS => ?_)
              have es := (c_ask_b u0 u1 hv hxv u2 : c_ask 10 c ev.2.1 (nI ev.2.2.2) = _)
              rw [← es] at hP hD
              refine lv_pop hx hb dX1_retellOne_68 rfl ?_
              exact eMv S hr hlk hP hD hS dX1_retellOne_69 (by rw [c_one_c b38 b57])
    · skip
      refine lv_aload_n hx hb dX1_retellOne_41 rfl (lv_at hl 6 rfl) ?_
      refine lv_iload hx hb dX1_retellOne_42 (lv_at hl 1 rfl) ?_
      refine lv_iload hx hb dX1_retellOne_44 (lv_at hl 2 rfl) ?_
      refine lv_iload hx hb dX1_retellOne_46 (lv_at hl 0 rfl) ?_
      refine cM S (cc_take_a l dg cA ad nh ni c ev.2.1 hev.2.1 (nI ev.2.2.1) (nI ev.2.2.2) _) kX1_28 ⟨rfl, rfl, Nat.le_of_ble_eq_true rfl, Nat.le_of_ble_eq_true rfl⟩ hK hP hD hS hA 14 cl_14 (q := (RX4, TX4, 5)) rfl rfl (As := [.int (nI ev.2.1), .int (nI ev.2.2.1), .int (nI ev.2.2.2)]) rfl hl.1 (rest := []) rfl (Nat.le_of_ble_eq_true rfl) dX1_retellOne_48 ⟨Nat.le_of_ble_eq_true rfl, Nat.le_of_ble_eq_true rfl⟩ (st1 := []) rfl (fun H locs hP hD hS => ?_)
      refine lv_goto (tgt := 69) hx hb dX1_retellOne_51 (by decide) ?_
      exact eMv S hr hlk hP hD hS dX1_retellOne_69 (by rw [c_one_t b38]; rfl)
  · skip
    have g31 : ¬ ev.2.1 < 24 := fun zz => b31 ((nI_ltI (a := ev.2.1) (b := 24) (by omega) (by omega)).mpr zz)
    exact absurd hev1 g31

set_option maxHeartbeats 4000000 in
set_option maxRecDepth 100000 in
theorem cc_retell (l : Launch) (dg : va_G) (cA : Nat → ClassId) (ad : Nat → Nat) (nh ni : Nat) (c : St) (E : Nat → Ev) (n : Nat) (h5 : c 0 5 = nI n) (hn512 : n ≤ 512) (hE : ∀ k, k < n → e_ok (E k)) (h15 : ∀ k, k < n → c 15 k = e_w (E k)) (htk : tk_ok 10 c) (sz : Nat) : MetM l dg cA yX1_retell cX1_retell 3 none ({ frames := 3, cells := 0, slots := 0, locals := 71 } : Room) 0 0 (cw cA ad nh ni c) sz [.ref (ad 20), .ref (ad 14)] (cw cA ad nh ni (c_re 10 c E n)) none := by
  refine ofM (by decide) (Nat.le_of_ble_eq_true rfl) (own := RX1) rfl (fun p e s0 m args below meth ccd ls A hAe S hr hlk hname hargs hK hP hD hS hA hsz hl => ?_)
  have hx := S.1
  have hb := S.2.1
  have hl : lv_has ls 3 [(0, .ref (ad 20)), (1, .ref (ad 14))] := hl
  refine lv_aload_n hx hb dX1_retell_0 rfl (lv_at hl 1 rfl) ?_
  refine cM S (cc_clear_a l dg cA ad nh ni c _) kX1_19 ⟨rfl, rfl, Nat.le_of_ble_eq_true rfl, Nat.le_of_ble_eq_true rfl⟩ hK hP hD hS hA 14 cl_14 (q := (RX4, TX4, 5)) rfl rfl (As := []) rfl hl.1 (rest := []) rfl (Nat.le_of_ble_eq_true rfl) dX1_retell_1 ⟨Nat.le_of_ble_eq_true rfl, Nat.le_of_ble_eq_true rfl⟩ (st1 := []) rfl (fun H locs hP hD hS => ?_)
  have hP : PP dg (cw cA ad nh ni (c_re 10 c E 0)) H := hP
  have hD : va_D A (cw cA ad nh ni (c_re 10 c E 0)) := hD
  refine lv_iconst (v := 0) hx hb dX1_retell_4 (by decide) ?_
  refine lv_istore_n (lv' := [(2, .int 0), (0, .ref (ad 20)), (1, .ref (ad 14))]) hx hb dX1_retell_5 rfl hl (by decide) rfl (fun ls hl => ?_)
  have hL6 : ∀ (f : Nat) (k : Nat), n - k < f → (k ≤ n) → ∀ ls, lv_has ls 3 [(0, .ref (ad 20)), (1, .ref (ad 14)), (2, .int (nI k))] → ∀ (H : Heap) (locs : List Loc), PP dg (cw cA ad nh ni (c_re 10 c E k)) H → va_D A (cw cA ad nh ni (c_re 10 c E k)) → va_S A s0.heap H locs → W p l e ({ frames := 3, cells := 0, slots := 0, locals := 71 } : Room) s0 m args below meth ccd H locs 0 0 (MQ below (QcM dg (cw cA ad nh ni (c_re 10 c E n)) none A) args s0 0 0 A) (F0 m 6 ls []) := by
    intro f
    induction f with
    | zero => intro k hm; exact absurd hm (Nat.not_lt_zero _)
    | succ f ih6 =>
      intro k hm6 hk ls hl H locs hP hD hS
      have hr5 : c_re 10 c E k 0 5 = nI n := by rw [c_re_row (by omega)]; exact h5
      refine lv_iload_n hx hb dX1_retell_6 rfl (lv_at hl 2 rfl) ?_
      refine lv_aload_n hx hb dX1_retell_7 rfl (lv_at hl 0 rfl) ?_
      refine gf S hK hP 20 cl_20 fX1_15 (v := .int (nI n)) (chi_1 hr5) dX1_retell_8 ?_
      refine lv_icmp_ge (tgt := 31) hx hb dX1_retell_11 (by decide) (fun b11 => ?_) (fun b11 => ?_)
      · skip
        have g11 : n ≤ k := (nI_leI (a := n) (b := k) (by omega) (by omega)).mp b11
        exact eMv S hr hlk hP hD hS dX1_retell_31 (by rw [show k = n by omega])
      · skip
        have g11 : ¬ n ≤ k := fun zz => b11 ((nI_leI (a := n) (b := k) (by omega) (by omega)).mpr zz)
        have hk2 : k < n := by omega
        refine lv_aload_n hx hb dX1_retell_14 rfl (lv_at hl 0 rfl) ?_
        refine lv_aload_n hx hb dX1_retell_15 rfl (lv_at hl 0 rfl) ?_
        refine gf S hK hP 20 cl_20 fX1_9 (v := .ref (ad 21)) chi_0 dX1_retell_16 ?_
        refine lv_iload_n hx hb dX1_retell_19 rfl (lv_at hl 2 rfl) ?_
        refine ild S hK hP 21 cl_21 (j := k) (by omega) (Nat.le_of_ble_eq_true rfl) dX1_retell_20 ?_
        refine lv_as (y := e_w (E k)) (show c_re 10 c E k 15 k = e_w (E k) by rw [c_re_row (by omega)]; exact h15 k hk2) ?_
        refine lv_aload_n hx hb dX1_retell_21 rfl (lv_at hl 1 rfl) ?_
        refine cM S (cc_re1 l dg cA ad nh ni (c_re 10 c E k) (E k) (hE k hk2) (c_re_tk htk hE k hk) _) kX1_24 ⟨rfl, rfl, Nat.le_of_ble_eq_true rfl, Nat.le_of_ble_eq_true rfl⟩ hK hP hD hS hA 20 cl_20 (q := (RX1, TX1, 2)) rfl rfl (As := [.int (e_w (E k)), .ref (ad 14)]) rfl hl.1 (rest := []) rfl (Nat.le_of_ble_eq_true rfl) dX1_retell_22 ⟨Nat.le_of_ble_eq_true rfl, Nat.le_of_ble_eq_true rfl⟩ (st1 := []) rfl (fun H locs hP hD hS => ?_)
        have hP : PP dg (cw cA ad nh ni (c_re 10 c E (k + 1))) H := hP
        have hD : va_D A (cw cA ad nh ni (c_re 10 c E (k + 1))) := hD
        refine lv_iinc (v := nI (k + 1)) (lv' := [(2, .int (nI (k + 1))), (0, .ref (ad 20)), (1, .ref (ad 14))]) hx hb dX1_retell_25 hl (k := 2) rfl (nI_1 k) (by decide) rfl (fun ls hl => ?_)
        refine lv_goto (tgt := 6) hx hb dX1_retell_28 (by decide) ?_
        have es : (cw cA ad nh ni (c_re 10 c E (k + 1))) = (cw cA ad nh ni (c_re 10 c E (k + 1))) := by rfl
        rw [es] at hP hD
        exact ih6 (k + 1) (by omega) (by omega) ls (lv_sub hl [1, 2, 0] rfl) _ _ hP hD hS
  have es : (cw cA ad nh ni (c_re 10 c E 0)) = (cw cA ad nh ni (c_re 10 c E 0)) := rfl
  rw [es] at hP hD
  exact hL6 _ 0 (Nat.lt_succ_self _) (Nat.zero_le _) ls (lv_cast (lv_sub (l' := [(0, .ref (ad 20)), (1, .ref (ad 14)), (2, .int 0)]) hl [1, 2, 0] rfl) (by rfl)) _ _ hP hD hS

set_option maxHeartbeats 4000000 in
set_option maxRecDepth 100000 in
theorem cc_wa (l : Launch) (dg : va_G) (cA : Nat → ClassId) (ad : Nat → Nat) (nh ni : Nat) (c : St) (hn : c 0 4 = nI nh) (hn24 : nh ≤ 24) (E : Nat → Ev) (n : Nat) (h5 : c 0 5 = nI n) (hn512 : n ≤ 512) (hE : ∀ k, k < n → e_ok (E k)) (h15 : ∀ k, k < n → c 15 k = e_w (E k)) (htk : tk_ok 10 c) (sz : Nat) : MetM l dg cA yX5_weighAnew cX5_weighAnew 1 none ({ frames := 5, cells := 0, slots := 0, locals := 126 } : Room) 0 0 (cw cA ad nh ni c) sz [.ref (ad 0)] (cw cA ad nh ni (c_wa c E n nh)) none := by
  refine ofM (by decide) (Nat.le_of_ble_eq_true rfl) (own := RX5) rfl (fun p e s0 m args below meth ccd ls A hAe S hr hlk hname hargs hK hP hD hS hA hsz hl => ?_)
  have hx := S.1
  have hb := S.2.1
  have hl : lv_has ls 1 [(0, .ref (ad 0))] := hl
  refine lv_aload_n hx hb dX5_weighAnew_0 rfl (lv_at hl 0 rfl) ?_
  refine gf S hK hP 0 cl_0 fX5_41 (v := .ref (ad 20)) cfb_5 dX5_weighAnew_1 ?_
  refine lv_aload_n hx hb dX5_weighAnew_4 rfl (lv_at hl 0 rfl) ?_
  refine gf S hK hP 0 cl_0 fX5_35 (v := .ref (ad 14)) cfb_4 dX5_weighAnew_5 ?_
  refine cM S (cc_retell l dg cA ad nh ni c E n h5 hn512 hE h15 htk _) kX5_342 ⟨rfl, rfl, Nat.le_of_ble_eq_true rfl, Nat.le_of_ble_eq_true rfl⟩ hK hP hD hS hA 20 cl_20 (q := (RX1, TX1, 2)) rfl rfl (As := [.ref (ad 14)]) rfl hl.1 (rest := []) rfl (Nat.le_of_ble_eq_true rfl) dX5_weighAnew_8 ⟨Nat.le_of_ble_eq_true rfl, Nat.le_of_ble_eq_true rfl⟩ (st1 := []) rfl (fun H locs hP hD hS => ?_)
  refine lv_aload_n hx hb dX5_weighAnew_11 rfl (lv_at hl 0 rfl) ?_
  refine gf S hK hP 0 cl_0 fX5_35 (v := .ref (ad 14)) cfb_4 dX5_weighAnew_12 ?_
  refine lv_aload_n hx hb dX5_weighAnew_15 rfl (lv_at hl 0 rfl) ?_
  refine gf S hK hP 0 cl_0 fX5_10 (v := .ref (ad 1)) cfb_0 dX5_weighAnew_16 ?_
  refine cM S (cc_fitTo_a l dg cA ad nh ni (c_re 10 c E n) (show c_re 10 c E n 0 4 = nI nh by rw [c_re_row (by omega)]; exact hn) hn24 _) kX5_117 ⟨rfl, rfl, Nat.le_of_ble_eq_true rfl, Nat.le_of_ble_eq_true rfl⟩ hK hP hD hS hA 14 cl_14 (q := (RX4, TX4, 5)) rfl rfl (As := [.ref (ad 1)]) rfl hl.1 (rest := []) rfl (Nat.le_of_ble_eq_true rfl) dX5_weighAnew_19 ⟨Nat.le_of_ble_eq_true rfl, Nat.le_of_ble_eq_true rfl⟩ (st1 := []) rfl (fun H locs hP hD hS => ?_)
  exact eMv S hr hlk hP hD hS dX5_weighAnew_22 rfl
