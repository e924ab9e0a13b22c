set_option maxHeartbeats 4000000 in
set_option maxRecDepth 100000 in
theorem cc_inG_ks (l : Launch) (dg : va_G) (cA : Nat → ClassId) (ad : Nat → Nat) (nh ni : Nat) (c : St) (k : Int32) (j : Nat) (hj : j < 24) : MetR l dg cA yX4_isInGroup cX4_isInGroup 4 (some .boolean) ({ frames := 0, cells := 0, slots := 0, locals := 0 } : Room) (cw cA ad nh ni c) [.ref (ad 8), .ref (ad 2), .int k, .int (nI j)] (some (.int (b2 (tmem (c 5) (c 1) k j)))) := by
  refine ofR (by decide) (Nat.le_of_ble_eq_true rfl) (own := RX4) rfl (fun p e s0 m args below meth ccd ls S hr hlk hargs hK hP hl => ?_)
  have hx := S.1
  have hb := S.2.1
  have hl : lv_has ls 4 [(0, .ref (ad 8)), (1, .ref (ad 2)), (2, .int k), (3, .int (nI j))] := hl
  refine lv_aload_n hx hb dX4_isInGroup_0 rfl (lv_at hl 0 rfl) ?_
  refine gf S hK hP 8 cl_8 fX4_9 (v := .ref (ad 9)) ct0_0 dX4_isInGroup_1 ?_
  refine lv_iload_n hx hb dX4_isInGroup_4 rfl (lv_at hl 3 rfl) ?_
  refine zld S hK hP 9 cl_9 (j := j) (by omega) (Nat.le_of_ble_eq_true rfl) dX4_isInGroup_5 ?_
  refine lv_as (y := c 5 j) rfl ?_
  refine lv_if_eq (tgt := 20) hx hb dX4_isInGroup_6 (by decide) (fun b6 => ?_) (fun b6 => ?_)
  · skip
    refine lv_iconst (v := 0) hx hb dX4_isInGroup_20 (by decide) ?_
    exact eRz S hr hlk dX4_isInGroup_21 (by simp [b2, tmem, b6]) (b2_nr _)
  · skip
    refine lv_aload_n hx hb dX4_isInGroup_9 rfl (lv_at hl 1 rfl) ?_
    refine lv_iload_n hx hb dX4_isInGroup_10 rfl (lv_at hl 3 rfl) ?_
    refine ild S hK hP 2 cl_2 (j := j) (by omega) (Nat.le_of_ble_eq_true rfl) dX4_isInGroup_11 ?_
    refine lv_as (y := c 1 j) rfl ?_
    refine lv_iload_n hx hb dX4_isInGroup_12 rfl (lv_at hl 2 rfl) ?_
    refine lv_icmp_ne (tgt := 20) hx hb dX4_isInGroup_13 (by decide) (fun b13 => ?_) (fun b13 => ?_)
    · skip
      refine lv_iconst (v := 0) hx hb dX4_isInGroup_20 (by decide) ?_
      exact eRz S hr hlk dX4_isInGroup_21 (by simp [b2, tmem, b6, b13]) (b2_nr _)
    · skip
      refine lv_iconst (v := 1) hx hb dX4_isInGroup_16 (by decide) ?_
      refine lv_goto (tgt := 21) hx hb dX4_isInGroup_17 (by decide) ?_
      exact eRz S hr hlk dX4_isInGroup_21 (by simp [b2, tmem, b6, b13]) (b2_nr _)

set_option maxHeartbeats 4000000 in
set_option maxRecDepth 100000 in
theorem cc_inG_kl (l : Launch) (dg : va_G) (cA : Nat → ClassId) (ad : Nat → Nat) (nh ni : Nat) (c : St) (k : Int32) (j : Nat) (hj : j < 24) : MetR l dg cA yX4_isInGroup cX4_isInGroup 4 (some .boolean) ({ frames := 0, cells := 0, slots := 0, locals := 0 } : Room) (cw cA ad nh ni c) [.ref (ad 8), .ref (ad 3), .int k, .int (nI j)] (some (.int (b2 (tmem (c 5) (c 2) k j)))) := by
  refine ofR (by decide) (Nat.le_of_ble_eq_true rfl) (own := RX4) rfl (fun p e s0 m args below meth ccd ls S hr hlk hargs hK hP hl => ?_)
  have hx := S.1
  have hb := S.2.1
  have hl : lv_has ls 4 [(0, .ref (ad 8)), (1, .ref (ad 3)), (2, .int k), (3, .int (nI j))] := hl
  refine lv_aload_n hx hb dX4_isInGroup_0 rfl (lv_at hl 0 rfl) ?_
  refine gf S hK hP 8 cl_8 fX4_9 (v := .ref (ad 9)) ct0_0 dX4_isInGroup_1 ?_
  refine lv_iload_n hx hb dX4_isInGroup_4 rfl (lv_at hl 3 rfl) ?_
  refine zld S hK hP 9 cl_9 (j := j) (by omega) (Nat.le_of_ble_eq_true rfl) dX4_isInGroup_5 ?_
  refine lv_as (y := c 5 j) rfl ?_
  refine lv_if_eq (tgt := 20) hx hb dX4_isInGroup_6 (by decide) (fun b6 => ?_) (fun b6 => ?_)
  · skip
    refine lv_iconst (v := 0) hx hb dX4_isInGroup_20 (by decide) ?_
    exact eRz S hr hlk dX4_isInGroup_21 (by simp [b2, tmem, b6]) (b2_nr _)
  · skip
    refine lv_aload_n hx hb dX4_isInGroup_9 rfl (lv_at hl 1 rfl) ?_
    refine lv_iload_n hx hb dX4_isInGroup_10 rfl (lv_at hl 3 rfl) ?_
    refine ild S hK hP 3 cl_3 (j := j) (by omega) (Nat.le_of_ble_eq_true rfl) dX4_isInGroup_11 ?_
    refine lv_as (y := c 2 j) rfl ?_
    refine lv_iload_n hx hb dX4_isInGroup_12 rfl (lv_at hl 2 rfl) ?_
    refine lv_icmp_ne (tgt := 20) hx hb dX4_isInGroup_13 (by decide) (fun b13 => ?_) (fun b13 => ?_)
    · skip
      refine lv_iconst (v := 0) hx hb dX4_isInGroup_20 (by decide) ?_
      exact eRz S hr hlk dX4_isInGroup_21 (by simp [b2, tmem, b6, b13]) (b2_nr _)
    · skip
      refine lv_iconst (v := 1) hx hb dX4_isInGroup_16 (by decide) ?_
      refine lv_goto (tgt := 21) hx hb dX4_isInGroup_17 (by decide) ?_
      exact eRz S hr hlk dX4_isInGroup_21 (by simp [b2, tmem, b6, b13]) (b2_nr _)

set_option maxHeartbeats 4000000 in
set_option maxRecDepth 100000 in
theorem cc_memG_ks (l : Launch) (dg : va_G) (cA : Nat → ClassId) (ad : Nat → Nat) (nh ni : Nat) (c : St) (k : Int32) (n : Nat) (hn24 : n ≤ 24) : MetR l dg cA yX4_membersOfGroup cX4_membersOfGroup 6 (some .int) ({ frames := 1, cells := 0, slots := 0, locals := 23 } : Room) (cw cA ad nh ni c) [.ref (ad 8), .ref (ad 2), .int k, .int (nI n)] (some (.int (nI (ct (tmem (c 5) (c 1) k) n)))) := by
  refine ofR (by decide) (Nat.le_of_ble_eq_true rfl) (own := RX4) rfl (fun p e s0 m args below meth ccd ls S hr hlk hargs hK hP hl => ?_)
  have hx := S.1
  have hb := S.2.1
  have hl : lv_has ls 6 [(0, .ref (ad 8)), (1, .ref (ad 2)), (2, .int k), (3, .int (nI n))] := hl
  refine lv_iconst (v := 0) hx hb dX4_membersOfGroup_0 (by decide) ?_
  refine lv_istore (lv' := [(4, .int 0), (0, .ref (ad 8)), (1, .ref (ad 2)), (2, .int k), (3, .int (nI n))]) hx hb dX4_membersOfGroup_1 hl (by decide) rfl (fun ls hl => ?_)
  refine lv_iconst (v := 0) hx hb dX4_membersOfGroup_3 (by decide) ?_
  refine lv_istore (lv' := [(5, .int 0), (4, .int 0), (0, .ref (ad 8)), (1, .ref (ad 2)), (2, .int k), (3, .int (nI n))]) hx hb dX4_membersOfGroup_4 hl (by decide) rfl (fun ls hl => ?_)
  have hL6 : ∀ (f : Nat) (j : Nat), n - j < f → (j ≤ n) → ∀ ls, lv_has ls 6 [(0, .ref (ad 8)), (1, .ref (ad 2)), (2, .int k), (3, .int (nI n)), (4, .int (nI (ct (tmem (c 5) (c 1) k) j))), (5, .int (nI j))] → W p l e ({ frames := 1, cells := 0, slots := 0, locals := 23 } : Room) s0 m args below meth ccd s0.heap [] 0 0 (MQ below (QcR (some (.int (nI (ct (tmem (c 5) (c 1) k) n))))) args s0 0 0 (fun _ => False)) (F0 m 6 ls []) := by
    intro f
    induction f with
    | zero => intro j hm; exact absurd hm (Nat.not_lt_zero _)
    | succ f ih6 =>
      intro j hm6 hj ls hl
      refine lv_iload hx hb dX4_membersOfGroup_6 (lv_at hl 5 rfl) ?_
      refine lv_iload_n hx hb dX4_membersOfGroup_8 rfl (lv_at hl 3 rfl) ?_
      refine lv_icmp_ge (tgt := 32) hx hb dX4_membersOfGroup_9 (by decide) (fun b9 => ?_) (fun b9 => ?_)
      · skip
        have g9 : n ≤ j := (nI_leI (a := n) (b := j) (by omega) (by omega)).mp b9
        refine lv_iload hx hb dX4_membersOfGroup_32 (lv_at hl 4 rfl) ?_
        exact eRi S hr hlk dX4_membersOfGroup_34 (by rw [show j = n by omega])
      · skip
        have g9 : ¬ n ≤ j := fun zz => b9 ((nI_leI (a := n) (b := j) (by omega) (by omega)).mpr zz)
        refine lv_aload_n hx hb dX4_membersOfGroup_12 rfl (lv_at hl 0 rfl) ?_
        refine lv_aload_n hx hb dX4_membersOfGroup_13 rfl (lv_at hl 1 rfl) ?_
        refine lv_iload_n hx hb dX4_membersOfGroup_14 rfl (lv_at hl 2 rfl) ?_
        refine lv_iload hx hb dX4_membersOfGroup_15 (lv_at hl 5 rfl) ?_
        refine cR S (cc_inG_ks l dg cA ad nh ni c k j (by omega)) kX4_69 ⟨rfl, rfl, Nat.le_of_ble_eq_true rfl, Nat.le_of_ble_eq_true rfl⟩ hK hP 8 cl_8 (q := (RX4, TX4, 5)) rfl rfl (As := [.ref (ad 2), .int k, .int (nI j)]) rfl hl.1 (rest := []) rfl (Nat.le_of_ble_eq_true rfl) dX4_membersOfGroup_17 ⟨Nat.le_of_ble_eq_true rfl, Nat.le_of_ble_eq_true rfl⟩ (st1 := [.int (b2 (tmem (c 5) (c 1) k j))]) rfl ?_
        refine lv_if_eq (tgt := 26) hx hb dX4_membersOfGroup_20 (by decide) (fun b20 => ?_) (fun b20 => ?_)
        · skip
          have c20 := b2_0 b20
          refine lv_iinc (v := nI (j + 1)) (lv' := [(5, .int (nI (j + 1))), (0, .ref (ad 8)), (1, .ref (ad 2)), (2, .int k), (3, .int (nI n)), (4, .int (nI (ct (tmem (c 5) (c 1) k) j)))]) hx hb dX4_membersOfGroup_26 hl (k := 5) rfl (nI_1 j) (by decide) rfl (fun ls hl => ?_)
          refine lv_goto (tgt := 6) hx hb dX4_membersOfGroup_29 (by decide) ?_
          exact ih6 (j + 1) (by omega) (by omega) ls (lv_cast (lv_sub (l' := [(0, .ref (ad 8)), (1, .ref (ad 2)), (2, .int k), (3, .int (nI n)), (4, .int (nI (ct (tmem (c 5) (c 1) k) j))), (5, .int (nI (j + 1)))]) hl [1, 2, 3, 4, 5, 0] rfl) (by rw [ct_f c20]))
        · skip
          have c20 := b2_1 b20
          refine lv_iinc (v := nI (ct (tmem (c 5) (c 1) k) j + 1)) (lv' := [(4, .int (nI (ct (tmem (c 5) (c 1) k) j + 1))), (0, .ref (ad 8)), (1, .ref (ad 2)), (2, .int k), (3, .int (nI n)), (5, .int (nI j))]) hx hb dX4_membersOfGroup_23 hl (k := 4) rfl (nI_1 (ct (tmem (c 5) (c 1) k) j)) (by decide) rfl (fun ls hl => ?_)
          refine lv_iinc (v := nI (j + 1)) (lv' := [(5, .int (nI (j + 1))), (4, .int (nI (ct (tmem (c 5) (c 1) k) j + 1))), (0, .ref (ad 8)), (1, .ref (ad 2)), (2, .int k), (3, .int (nI n))]) hx hb dX4_membersOfGroup_26 hl (k := 5) rfl (nI_1 j) (by decide) rfl (fun ls hl => ?_)
          refine lv_goto (tgt := 6) hx hb dX4_membersOfGroup_29 (by decide) ?_
          exact ih6 (j + 1) (by omega) (by omega) ls (lv_cast (lv_sub (l' := [(0, .ref (ad 8)), (1, .ref (ad 2)), (2, .int k), (3, .int (nI n)), (4, .int (nI (ct (tmem (c 5) (c 1) k) j + 1))), (5, .int (nI (j + 1)))]) hl [2, 3, 4, 5, 1, 0] rfl) (by rw [ct_t c20]))
  exact hL6 _ 0 (Nat.lt_succ_self _) (Nat.zero_le _) ls (lv_cast (lv_sub (l' := [(0, .ref (ad 8)), (1, .ref (ad 2)), (2, .int k), (3, .int (nI n)), (4, .int 0), (5, .int 0)]) hl [2, 3, 4, 5, 1, 0] rfl) (by rfl))

set_option maxHeartbeats 4000000 in
set_option maxRecDepth 100000 in
theorem cc_sumG_ks (l : Launch) (dg : va_G) (cA : Nat → ClassId) (ad : Nat → Nat) (nh ni : Nat) (c : St) (k : Int32) (n : Nat) (hn24 : n ≤ 24) : MetR l dg cA yX4_sumOfGroup cX4_sumOfGroup 6 (some .int) ({ frames := 1, cells := 0, slots := 0, locals := 23 } : Room) (cw cA ad nh ni c) [.ref (ad 8), .ref (ad 2), .int k, .int (nI n)] (some (.int (fs_sum (tmem (c 5) (c 1) k) (c 8) n))) := by
  refine ofR (by decide) (Nat.le_of_ble_eq_true rfl) (own := RX4) rfl (fun p e s0 m args below meth ccd ls S hr hlk hargs hK hP hl => ?_)
  have hx := S.1
  have hb := S.2.1
  have hl : lv_has ls 6 [(0, .ref (ad 8)), (1, .ref (ad 2)), (2, .int k), (3, .int (nI n))] := hl
  refine lv_iconst (v := 0) hx hb dX4_sumOfGroup_0 (by decide) ?_
  refine lv_istore (lv' := [(4, .int 0), (0, .ref (ad 8)), (1, .ref (ad 2)), (2, .int k), (3, .int (nI n))]) hx hb dX4_sumOfGroup_1 hl (by decide) rfl (fun ls hl => ?_)
  refine lv_iconst (v := 0) hx hb dX4_sumOfGroup_3 (by decide) ?_
  refine lv_istore (lv' := [(5, .int 0), (4, .int 0), (0, .ref (ad 8)), (1, .ref (ad 2)), (2, .int k), (3, .int (nI n))]) hx hb dX4_sumOfGroup_4 hl (by decide) rfl (fun ls hl => ?_)
  have hL6 : ∀ (f : Nat) (j : Nat), n - j < f → (j ≤ n) → ∀ ls, lv_has ls 6 [(0, .ref (ad 8)), (1, .ref (ad 2)), (2, .int k), (3, .int (nI n)), (4, .int (fs_sum (tmem (c 5) (c 1) k) (c 8) j)), (5, .int (nI j))] → W p l e ({ frames := 1, cells := 0, slots := 0, locals := 23 } : Room) s0 m args below meth ccd s0.heap [] 0 0 (MQ below (QcR (some (.int (fs_sum (tmem (c 5) (c 1) k) (c 8) n)))) args s0 0 0 (fun _ => False)) (F0 m 6 ls []) := by
    intro f
    induction f with
    | zero => intro j hm; exact absurd hm (Nat.not_lt_zero _)
    | succ f ih6 =>
      intro j hm6 hj ls hl
      refine lv_iload hx hb dX4_sumOfGroup_6 (lv_at hl 5 rfl) ?_
      refine lv_iload_n hx hb dX4_sumOfGroup_8 rfl (lv_at hl 3 rfl) ?_
      refine lv_icmp_ge (tgt := 41) hx hb dX4_sumOfGroup_9 (by decide) (fun b9 => ?_) (fun b9 => ?_)
      · skip
        have g9 : n ≤ j := (nI_leI (a := n) (b := j) (by omega) (by omega)).mp b9
        refine lv_iload hx hb dX4_sumOfGroup_41 (lv_at hl 4 rfl) ?_
        exact eRi S hr hlk dX4_sumOfGroup_43 (by rw [show j = n by omega])
      · skip
        have g9 : ¬ n ≤ j := fun zz => b9 ((nI_leI (a := n) (b := j) (by omega) (by omega)).mpr zz)
        refine lv_aload_n hx hb dX4_sumOfGroup_12 rfl (lv_at hl 0 rfl) ?_
        refine lv_aload_n hx hb dX4_sumOfGroup_13 rfl (lv_at hl 1 rfl) ?_
        refine lv_iload_n hx hb dX4_sumOfGroup_14 rfl (lv_at hl 2 rfl) ?_
        refine lv_iload hx hb dX4_sumOfGroup_15 (lv_at hl 5 rfl) ?_
        refine cR S (cc_inG_ks l dg cA ad nh ni c k j (by omega)) kX4_69 ⟨rfl, rfl, Nat.le_of_ble_eq_true rfl, Nat.le_of_ble_eq_true rfl⟩ hK hP 8 cl_8 (q := (RX4, TX4, 5)) rfl rfl (As := [.ref (ad 2), .int k, .int (nI j)]) rfl hl.1 (rest := []) rfl (Nat.le_of_ble_eq_true rfl) dX4_sumOfGroup_17 ⟨Nat.le_of_ble_eq_true rfl, Nat.le_of_ble_eq_true rfl⟩ (st1 := [.int (b2 (tmem (c 5) (c 1) k j))]) rfl ?_
        refine lv_if_eq (tgt := 35) hx hb dX4_sumOfGroup_20 (by decide) (fun b20 => ?_) (fun b20 => ?_)
        · skip
          have c20 := b2_0 b20
          refine lv_iinc (v := nI (j + 1)) (lv' := [(5, .int (nI (j + 1))), (0, .ref (ad 8)), (1, .ref (ad 2)), (2, .int k), (3, .int (nI n)), (4, .int (fs_sum (tmem (c 5) (c 1) k) (c 8) j))]) hx hb dX4_sumOfGroup_35 hl (k := 5) rfl (nI_1 j) (by decide) rfl (fun ls hl => ?_)
          refine lv_goto (tgt := 6) hx hb dX4_sumOfGroup_38 (by decide) ?_
          exact ih6 (j + 1) (by omega) (by omega) ls (lv_cast (lv_sub (l' := [(0, .ref (ad 8)), (1, .ref (ad 2)), (2, .int k), (3, .int (nI n)), (4, .int (fs_sum (tmem (c 5) (c 1) k) (c 8) j)), (5, .int (nI (j + 1)))]) hl [1, 2, 3, 4, 5, 0] rfl) (by rw [fs_sum_f c20]))
        · skip
          have c20 := b2_1 b20
          refine lv_iload hx hb dX4_sumOfGroup_23 (lv_at hl 4 rfl) ?_
          refine lv_aload_n hx hb dX4_sumOfGroup_25 rfl (lv_at hl 0 rfl) ?_
          refine gf S hK hP 8 cl_8 fX4_22 (v := .ref (ad 12)) ct0_3 dX4_sumOfGroup_26 ?_
          refine lv_iload hx hb dX4_sumOfGroup_29 (lv_at hl 5 rfl) ?_
          refine ild S hK hP 12 cl_12 (j := j) (by omega) (Nat.le_of_ble_eq_true rfl) dX4_sumOfGroup_31 ?_
          refine lv_as (y := c 8 j) rfl ?_
          refine lv_iadd hx hb dX4_sumOfGroup_32 ?_
          refine lv_istore (lv' := [(4, .int ((fs_sum (tmem (c 5) (c 1) k) (c 8) j) + (c 8 j))), (0, .ref (ad 8)), (1, .ref (ad 2)), (2, .int k), (3, .int (nI n)), (5, .int (nI j))]) hx hb dX4_sumOfGroup_33 hl (by decide) rfl (fun ls hl => ?_)
          refine lv_iinc (v := nI (j + 1)) (lv' := [(5, .int (nI (j + 1))), (4, .int ((fs_sum (tmem (c 5) (c 1) k) (c 8) j) + (c 8 j))), (0, .ref (ad 8)), (1, .ref (ad 2)), (2, .int k), (3, .int (nI n))]) hx hb dX4_sumOfGroup_35 hl (k := 5) rfl (nI_1 j) (by decide) rfl (fun ls hl => ?_)
          refine lv_goto (tgt := 6) hx hb dX4_sumOfGroup_38 (by decide) ?_
          exact ih6 (j + 1) (by omega) (by omega) ls (lv_cast (lv_sub (l' := [(0, .ref (ad 8)), (1, .ref (ad 2)), (2, .int k), (3, .int (nI n)), (4, .int ((fs_sum (tmem (c 5) (c 1) k) (c 8) j) + (c 8 j))), (5, .int (nI (j + 1)))]) hl [2, 3, 4, 5, 1, 0] rfl) (by rw [fs_sum_t c20]))
  exact hL6 _ 0 (Nat.lt_succ_self _) (Nat.zero_le _) ls (lv_cast (lv_sub (l' := [(0, .ref (ad 8)), (1, .ref (ad 2)), (2, .int k), (3, .int (nI n)), (4, .int 0), (5, .int 0)]) hl [2, 3, 4, 5, 1, 0] rfl) (by rfl))

set_option maxHeartbeats 4000000 in
set_option maxRecDepth 100000 in
theorem cc_spread_ks (l : Launch) (dg : va_G) (cA : Nat → ClassId) (ad : Nat → Nat) (nh ni : Nat) (c : St) (k : Int32) (n : Nat) (hn24 : n ≤ 24) (ms : Int32) (sz : Nat) : MetM l dg cA yX4_spreadMissing cX4_spreadMissing 7 none ({ frames := 1, cells := 0, slots := 0, locals := 23 } : Room) 0 0 (cw cA ad nh ni c) sz [.ref (ad 8), .ref (ad 2), .int k, .int (nI n), .int ms] (cw cA ad nh ni (upr c 8 (fs_w2 (tmem (c 5) (c 1) k) (c 8) ms n).1)) none := by
  refine ofM (by decide) (Nat.le_of_ble_eq_true rfl) (own := RX4) rfl (fun p e s0 m args below meth ccd ls A hAe S hr hlk hname hargs hK hP hD hS hA hsz hl => ?_)
  have hx := S.1
  have hb := S.2.1
  have hl : lv_has ls 7 [(0, .ref (ad 8)), (1, .ref (ad 2)), (2, .int k), (3, .int (nI n)), (4, .int ms)] := hl
  refine lv_iload hx hb dX4_spreadMissing_0 (lv_at hl 4 rfl) ?_
  refine lv_istore (lv' := [(5, .int ms), (0, .ref (ad 8)), (1, .ref (ad 2)), (2, .int k), (3, .int (nI n)), (4, .int ms)]) hx hb dX4_spreadMissing_2 hl (by decide) rfl (fun ls hl => ?_)
  refine lv_iconst (v := 0) hx hb dX4_spreadMissing_4 (by decide) ?_
  refine lv_istore (lv' := [(6, .int 0), (5, .int ms), (0, .ref (ad 8)), (1, .ref (ad 2)), (2, .int k), (3, .int (nI n)), (4, .int ms)]) hx hb dX4_spreadMissing_5 hl (by decide) rfl (fun ls hl => ?_)
  have hL7 : ∀ (f : Nat) (j : Nat), n - j < f → (j ≤ n) → ∀ ls, lv_has ls 7 [(0, .ref (ad 8)), (1, .ref (ad 2)), (2, .int k), (3, .int (nI n)), (4, .int ms), (5, .int ((fs_w2 (tmem (c 5) (c 1) k) (c 8) ms j).2)), (6, .int (nI j))] → ∀ (H : Heap) (locs : List Loc), PP dg (cw cA ad nh ni (upr c 8 (fs_w2 (tmem (c 5) (c 1) k) (c 8) ms j).1)) H → va_D A (cw cA ad nh ni (upr c 8 (fs_w2 (tmem (c 5) (c 1) k) (c 8) ms j).1)) → va_S A s0.heap H locs → W p l e ({ frames := 1, cells := 0, slots := 0, locals := 23 } : Room) s0 m args below meth ccd H locs 0 0 (MQ below (QcM dg (cw cA ad nh ni (upr c 8 (fs_w2 (tmem (c 5) (c 1) k) (c 8) ms n).1)) none A) args s0 0 0 A) (F0 m 7 ls []) := by
    intro f
    induction f with
    | zero => intro j hm; exact absurd hm (Nat.not_lt_zero _)
    | succ f ih7 =>
      intro j hm7 hj ls hl H locs hP hD hS
      refine lv_iload hx hb dX4_spreadMissing_7 (lv_at hl 6 rfl) ?_
      refine lv_iload_n hx hb dX4_spreadMissing_9 rfl (lv_at hl 3 rfl) ?_
      refine lv_icmp_ge (tgt := 49) hx hb dX4_spreadMissing_10 (by decide) (fun b10 => ?_) (fun b10 => ?_)
      · skip
        have g10 : n ≤ j := (nI_leI (a := n) (b := j) (by omega) (by omega)).mp b10
        exact eMv S hr hlk hP hD hS dX4_spreadMissing_49 (by rw [show j = n by omega])
      · skip
        have g10 : ¬ n ≤ j := fun zz => b10 ((nI_leI (a := n) (b := j) (by omega) (by omega)).mpr zz)
        refine lv_iload hx hb dX4_spreadMissing_13 (lv_at hl 5 rfl) ?_
        refine lv_if_le (tgt := 49) hx hb dX4_spreadMissing_15 (by decide) (fun b15 => ?_) (fun b15 => ?_)
        · skip
          exact eMv S hr hlk hP hD hS dX4_spreadMissing_49 (by rw [fs_w2_end (fun z => Int32.not_lt.mpr b15 z) hj])
        · skip
          refine lv_aload_n hx hb dX4_spreadMissing_18 rfl (lv_at hl 0 rfl) ?_
          refine lv_aload_n hx hb dX4_spreadMissing_19 rfl (lv_at hl 1 rfl) ?_
          refine lv_iload_n hx hb dX4_spreadMissing_20 rfl (lv_at hl 2 rfl) ?_
          refine lv_iload hx hb dX4_spreadMissing_21 (lv_at hl 6 rfl) ?_
          refine cR S (cc_inG_ks l dg cA ad nh ni (upr c 8 (fs_w2 (tmem (c 5) (c 1) k) (c 8) ms j).1) k j (by omega)) kX4_69 ⟨rfl, rfl, Nat.le_of_ble_eq_true rfl, Nat.le_of_ble_eq_true rfl⟩ hK hP 8 cl_8 (q := (RX4, TX4, 5)) rfl rfl (As := [.ref (ad 2), .int k, .int (nI j)]) rfl hl.1 (rest := []) rfl (Nat.le_of_ble_eq_true rfl) dX4_spreadMissing_23 ⟨Nat.le_of_ble_eq_true rfl, Nat.le_of_ble_eq_true rfl⟩ (st1 := [.int (b2 (tmem (c 5) (c 1) k j))]) rfl ?_
          refine lv_if_eq (tgt := 43) hx hb dX4_spreadMissing_26 (by decide) (fun b26 => ?_) (fun b26 => ?_)
          · skip
            have c26 := b2_0 b26
            refine lv_iinc (v := nI (j + 1)) (lv' := [(6, .int (nI (j + 1))), (0, .ref (ad 8)), (1, .ref (ad 2)), (2, .int k), (3, .int (nI n)), (4, .int ms), (5, .int ((fs_w2 (tmem (c 5) (c 1) k) (c 8) ms j).2))]) hx hb dX4_spreadMissing_43 hl (k := 6) rfl (nI_1 j) (by decide) rfl (fun ls hl => ?_)
            refine lv_goto (tgt := 7) hx hb dX4_spreadMissing_46 (by decide) ?_
            have es : (cw cA ad nh ni (upr c 8 (fs_w2 (tmem (c 5) (c 1) k) (c 8) ms j).1)) = (cw cA ad nh ni (upr c 8 (fs_w2 (tmem (c 5) (c 1) k) (c 8) ms (j + 1)).1)) := by rw [fs_w2_f c26]
            rw [es] at hP hD
            exact ih7 (j + 1) (by omega) (by omega) ls (lv_cast (lv_sub (l' := [(0, .ref (ad 8)), (1, .ref (ad 2)), (2, .int k), (3, .int (nI n)), (4, .int ms), (5, .int ((fs_w2 (tmem (c 5) (c 1) k) (c 8) ms j).2)), (6, .int (nI (j + 1)))]) hl [1, 2, 3, 4, 5, 6, 0] rfl) (by rw [fs_w2_f c26])) _ _ hP hD hS
          · skip
            have c26 := b2_1 b26
            refine lv_aload_n hx hb dX4_spreadMissing_29 rfl (lv_at hl 0 rfl) ?_
            refine gf S hK hP 8 cl_8 fX4_22 (v := .ref (ad 12)) ct0_3 dX4_spreadMissing_30 ?_
            refine lv_iload hx hb dX4_spreadMissing_33 (lv_at hl 6 rfl) ?_
            refine lv_dup2_11 hx hb dX4_spreadMissing_35 rfl rfl ?_
            refine ild S hK hP 12 cl_12 (j := j) (by omega) (Nat.le_of_ble_eq_true rfl) dX4_spreadMissing_36 ?_
            refine lv_as (y := ((fs_w2 (tmem (c 5) (c 1) k) (c 8) ms j).1) j) rfl ?_
            refine lv_iconst (v := 1) hx hb dX4_spreadMissing_37 (by decide) ?_
            refine lv_iadd hx hb dX4_spreadMissing_38 ?_
            refine ist S hK hP hD hS 12 cl_12 (j := j) (x := (((fs_w2 (tmem (c 5) (c 1) k) (c 8) ms j).1) j) + 1) (by omega) (Nat.le_of_ble_eq_true rfl) cs_12 dX4_spreadMissing_39 (fun H locs hP hD hS => ?_)
            refine lv_iinc (v := ((fs_w2 (tmem (c 5) (c 1) k) (c 8) ms j).2) + (-1)) (lv' := [(5, .int (((fs_w2 (tmem (c 5) (c 1) k) (c 8) ms j).2) + (-1))), (0, .ref (ad 8)), (1, .ref (ad 2)), (2, .int k), (3, .int (nI n)), (4, .int ms), (6, .int (nI j))]) hx hb dX4_spreadMissing_40 hl (k := 5) rfl (by rw [i32_m1]) (by decide) rfl (fun ls hl => ?_)
            refine lv_iinc (v := nI (j + 1)) (lv' := [(6, .int (nI (j + 1))), (5, .int (((fs_w2 (tmem (c 5) (c 1) k) (c 8) ms j).2) + (-1))), (0, .ref (ad 8)), (1, .ref (ad 2)), (2, .int k), (3, .int (nI n)), (4, .int ms)]) hx hb dX4_spreadMissing_43 hl (k := 6) rfl (nI_1 j) (by decide) rfl (fun ls hl => ?_)
            refine lv_goto (tgt := 7) hx hb dX4_spreadMissing_46 (by decide) ?_
            have es : (cw cA ad nh ni (up (upr c 8 (fs_w2 (tmem (c 5) (c 1) k) (c 8) ms j).1) 8 j ((((fs_w2 (tmem (c 5) (c 1) k) (c 8) ms j).1) j) + 1))) = (cw cA ad nh ni (upr c 8 (fs_w2 (tmem (c 5) (c 1) k) (c 8) ms (j + 1)).1)) := by rw [up_upr, fs_w2_t c26 (Int32.not_le.mp b15)]
            rw [es] at hP hD
            exact ih7 (j + 1) (by omega) (by omega) ls (lv_cast (lv_sub (l' := [(0, .ref (ad 8)), (1, .ref (ad 2)), (2, .int k), (3, .int (nI n)), (4, .int ms), (5, .int (((fs_w2 (tmem (c 5) (c 1) k) (c 8) ms j).2) + (-1))), (6, .int (nI (j + 1)))]) hl [2, 3, 4, 5, 6, 1, 0] rfl) (by rw [fs_w2_t c26 (Int32.not_le.mp b15)])) _ _ hP hD hS
  have es : (cw cA ad nh ni c) = (cw cA ad nh ni (upr c 8 (fs_w2 (tmem (c 5) (c 1) k) (c 8) ms 0).1)) := congrArg (cw cA ad nh ni) upr_self.symm
  rw [es] at hP hD
  exact hL7 _ 0 (Nat.lt_succ_self _) (Nat.zero_le _) ls (lv_cast (lv_sub (l' := [(0, .ref (ad 8)), (1, .ref (ad 2)), (2, .int k), (3, .int (nI n)), (4, .int ms), (5, .int ms), (6, .int 0)]) hl [2, 3, 4, 5, 6, 1, 0] rfl) (by rfl)) _ _ hP hD hS

set_option maxHeartbeats 4000000 in
set_option maxRecDepth 100000 in
theorem cc_fitG_ks (l : Launch) (dg : va_G) (cA : Nat → ClassId) (ad : Nat → Nat) (nh ni : Nat) (c : St) (k tg : Int32) (n : Nat) (hn24 : n ≤ 24) (hm : 0 < ct (tmem (c 5) (c 1) k) n) (sz : Nat) : MetM l dg cA yX4_fitGroup cX4_fitGroup 11 none ({ frames := 2, cells := 0, slots := 0, locals := 49 } : Room) 0 0 (cw cA ad nh ni c) sz [.ref (ad 8), .ref (ad 2), .int k, .int tg, .int (nI n), .int (nI (ct (tmem (c 5) (c 1) k) n))] (cw cA ad nh ni (upr c 8 (cs_fit (tmem (c 5) (c 1) k) (c 8) tg n))) none := by
  refine ofM (by decide) (Nat.le_of_ble_eq_true rfl) (own := RX4) rfl (fun p e s0 m args below meth ccd ls A hAe S hr hlk hname hargs hK hP hD hS hA hsz hl => ?_)
  have hx := S.1
  have hb := S.2.1
  have hl : lv_has ls 11 [(0, .ref (ad 8)), (1, .ref (ad 2)), (2, .int k), (3, .int tg), (4, .int (nI n)), (5, .int (nI (ct (tmem (c 5) (c 1) k) n)))] := hl
  have hctl := ct_le (tmem (c 5) (c 1) k) n
  refine lv_aload_n hx hb dX4_fitGroup_0 rfl (lv_at hl 0 rfl) ?_
  refine lv_aload_n hx hb dX4_fitGroup_1 rfl (lv_at hl 1 rfl) ?_
  refine lv_iload_n hx hb dX4_fitGroup_2 rfl (lv_at hl 2 rfl) ?_
  refine lv_iload hx hb dX4_fitGroup_3 (lv_at hl 4 rfl) ?_
  refine cR S (cc_sumG_ks l dg cA ad nh ni c k n hn24) kX4_66 ⟨rfl, rfl, Nat.le_of_ble_eq_true rfl, Nat.le_of_ble_eq_true rfl⟩ hK hP 8 cl_8 (q := (RX4, TX4, 5)) rfl rfl (As := [.ref (ad 2), .int k, .int (nI n)]) rfl hl.1 (rest := []) rfl (Nat.le_of_ble_eq_true rfl) dX4_fitGroup_5 ⟨Nat.le_of_ble_eq_true rfl, Nat.le_of_ble_eq_true rfl⟩ (st1 := [.int (fs_sum (tmem (c 5) (c 1) k) (c 8) n)]) rfl ?_
  refine lv_istore (lv' := [(6, .int (fs_sum (tmem (c 5) (c 1) k) (c 8) n)), (0, .ref (ad 8)), (1, .ref (ad 2)), (2, .int k), (3, .int tg), (4, .int (nI n)), (5, .int (nI (ct (tmem (c 5) (c 1) k) n)))]) hx hb dX4_fitGroup_8 hl (by decide) rfl (fun ls hl => ?_)
  refine lv_iload hx hb dX4_fitGroup_10 (lv_at hl 0 rfl) ?_
  refine lv_if_gt (tgt := 19) hx hb dX4_fitGroup_12 (by decide) (fun b12 => ?_) (fun b12 => ?_)
  · skip
    refine lv_iconst (v := 0) hx hb dX4_fitGroup_19 (by decide) ?_
    refine lv_istore (lv' := [(7, .int 0), (6, .int (fs_sum (tmem (c 5) (c 1) k) (c 8) n)), (0, .ref (ad 8)), (1, .ref (ad 2)), (2, .int k), (3, .int tg), (4, .int (nI n)), (5, .int (nI (ct (tmem (c 5) (c 1) k) n)))]) hx hb dX4_fitGroup_20 hl (by decide) rfl (fun ls hl => ?_)
    refine lv_iload hx hb dX4_fitGroup_22 (lv_at hl 0 rfl) ?_
    refine lv_if_eq (tgt := 32) hx hb dX4_fitGroup_24 (by decide) (fun b24 => ?_) (fun b24 => ?_)
    · skip
      refine lv_iload hx hb dX4_fitGroup_32 (lv_at hl 1 rfl) ?_
      refine lv_istore (lv' := [(8, .int (fs_sum (tmem (c 5) (c 1) k) (c 8) n)), (7, .int 0), (6, .int (fs_sum (tmem (c 5) (c 1) k) (c 8) n)), (0, .ref (ad 8)), (1, .ref (ad 2)), (2, .int k), (3, .int tg), (4, .int (nI n)), (5, .int (nI (ct (tmem (c 5) (c 1) k) n)))]) hx hb dX4_fitGroup_34 hl (by decide) rfl (fun ls hl => ?_)
      refine lv_iload hx hb dX4_fitGroup_36 (lv_at hl 0 rfl) ?_
      refine lv_if_gt (tgt := 42) hx hb dX4_fitGroup_38 (by decide) (fun b38 => ?_) (fun b38 => ?_)
      · skip
        refine lv_iload_n hx hb dX4_fitGroup_42 rfl (lv_at hl 6 rfl) ?_
        refine lv_istore (lv' := [(9, .int tg), (8, .int (fs_sum (tmem (c 5) (c 1) k) (c 8) n)), (7, .int 0), (6, .int (fs_sum (tmem (c 5) (c 1) k) (c 8) n)), (0, .ref (ad 8)), (1, .ref (ad 2)), (2, .int k), (3, .int tg), (4, .int (nI n)), (5, .int (nI (ct (tmem (c 5) (c 1) k) n)))]) hx hb dX4_fitGroup_43 hl (by decide) rfl (fun ls hl => ?_)
        refine lv_iconst (v := 0) hx hb dX4_fitGroup_45 (by decide) ?_
        refine lv_istore (lv' := [(10, .int 0), (9, .int tg), (8, .int (fs_sum (tmem (c 5) (c 1) k) (c 8) n)), (7, .int 0), (6, .int (fs_sum (tmem (c 5) (c 1) k) (c 8) n)), (0, .ref (ad 8)), (1, .ref (ad 2)), (2, .int k), (3, .int tg), (4, .int (nI n)), (5, .int (nI (ct (tmem (c 5) (c 1) k) n)))]) hx hb dX4_fitGroup_46 hl (by decide) rfl (fun ls hl => ?_)
        have hL48 : ∀ (f : Nat) (j : Nat), n - j < f → (j ≤ n) → ∀ ls, lv_has ls 11 [(0, .ref (ad 8)), (1, .ref (ad 2)), (2, .int k), (3, .int tg), (4, .int (nI n)), (5, .int (nI (ct (tmem (c 5) (c 1) k) n))), (6, .int (fs_sum (tmem (c 5) (c 1) k) (c 8) n)), (7, .int 0), (8, .int (fs_sum (tmem (c 5) (c 1) k) (c 8) n)), (9, .int (fs_ms (tmem (c 5) (c 1) k) (c 8) (cs_nw (fs_sum (tmem (c 5) (c 1) k) (c 8) n) tg (ct (tmem (c 5) (c 1) k) n)) tg j)), (10, .int (nI j))] → ∀ (H : Heap) (locs : List Loc), PP dg (cw cA ad nh ni (upr c 8 (fs_w1 (tmem (c 5) (c 1) k) (c 8) (cs_nw (fs_sum (tmem (c 5) (c 1) k) (c 8) n) tg (ct (tmem (c 5) (c 1) k) n)) j))) H → va_D A (cw cA ad nh ni (upr c 8 (fs_w1 (tmem (c 5) (c 1) k) (c 8) (cs_nw (fs_sum (tmem (c 5) (c 1) k) (c 8) n) tg (ct (tmem (c 5) (c 1) k) n)) j))) → va_S A s0.heap H locs → W p l e ({ frames := 2, cells := 0, slots := 0, locals := 49 } : Room) s0 m args below meth ccd H locs 0 0 (MQ below (QcM dg (cw cA ad nh ni (upr c 8 (cs_fit (tmem (c 5) (c 1) k) (c 8) tg n))) none A) args s0 0 0 A) (F0 m 48 ls []) := by
          intro f
          induction f with
          | zero => intro j hm; exact absurd hm (Nat.not_lt_zero _)
          | succ f ih48 =>
            intro j hm48 hj ls hl H locs hP hD hS
            refine lv_iload hx hb dX4_fitGroup_48 (lv_at hl 10 rfl) ?_
            refine lv_iload hx hb dX4_fitGroup_50 (lv_at hl 4 rfl) ?_
            refine lv_icmp_ge (tgt := 112) hx hb dX4_fitGroup_52 (by decide) (fun b52 => ?_) (fun b52 => ?_)
            · skip
              have g52 : n ≤ j := (nI_leI (a := n) (b := j) (by omega) (by omega)).mp b52
              have ej : j = n := by omega
              rw [ej] at hl hP hD
              refine lv_aload_n hx hb dX4_fitGroup_112 rfl (lv_at hl 0 rfl) ?_
              refine lv_aload_n hx hb dX4_fitGroup_113 rfl (lv_at hl 1 rfl) ?_
              refine lv_iload_n hx hb dX4_fitGroup_114 rfl (lv_at hl 2 rfl) ?_
              refine lv_iload hx hb dX4_fitGroup_115 (lv_at hl 4 rfl) ?_
              refine lv_iload hx hb dX4_fitGroup_117 (lv_at hl 9 rfl) ?_
              refine cM S (cc_spread_ks l dg cA ad nh ni (upr c 8 (fs_w1 (tmem (c 5) (c 1) k) (c 8) (cs_nw (fs_sum (tmem (c 5) (c 1) k) (c 8) n) tg (ct (tmem (c 5) (c 1) k) n)) n)) k n hn24 (fs_ms (tmem (c 5) (c 1) k) (c 8) (cs_nw (fs_sum (tmem (c 5) (c 1) k) (c 8) n) tg (ct (tmem (c 5) (c 1) k) n)) tg n) _) kX4_73 ⟨rfl, rfl, Nat.le_of_ble_eq_true rfl, Nat.le_of_ble_eq_true rfl⟩ hK hP hD hS hA 8 cl_8 (q := (RX4, TX4, 5)) rfl rfl (As := [.ref (ad 2), .int k, .int (nI n), .int (fs_ms (tmem (c 5) (c 1) k) (c 8) (cs_nw (fs_sum (tmem (c 5) (c 1) k) (c 8) n) tg (ct (tmem (c 5) (c 1) k) n)) tg n)]) rfl hl.1 (rest := []) rfl (Nat.le_of_ble_eq_true rfl) dX4_fitGroup_119 ⟨Nat.le_of_ble_eq_true rfl, Nat.le_of_ble_eq_true rfl⟩ (st1 := []) rfl (fun H locs hP hD hS => ?_)
              exact eMv S hr hlk hP hD hS dX4_fitGroup_122 (by rw [upr_upr]; rfl)
            · skip
              have g52 : ¬ n ≤ j := fun zz => b52 ((nI_leI (a := n) (b := j) (by omega) (by omega)).mpr zz)
              refine lv_aload_n hx hb dX4_fitGroup_55 rfl (lv_at hl 0 rfl) ?_
              refine lv_aload_n hx hb dX4_fitGroup_56 rfl (lv_at hl 1 rfl) ?_
              refine lv_iload_n hx hb dX4_fitGroup_57 rfl (lv_at hl 2 rfl) ?_
              refine lv_iload hx hb dX4_fitGroup_58 (lv_at hl 10 rfl) ?_
              refine cR S (cc_inG_ks l dg cA ad nh ni (upr c 8 (fs_w1 (tmem (c 5) (c 1) k) (c 8) (cs_nw (fs_sum (tmem (c 5) (c 1) k) (c 8) n) tg (ct (tmem (c 5) (c 1) k) n)) j)) k j (by omega)) kX4_69 ⟨rfl, rfl, Nat.le_of_ble_eq_true rfl, Nat.le_of_ble_eq_true rfl⟩ hK hP 8 cl_8 (q := (RX4, TX4, 5)) rfl rfl (As := [.ref (ad 2), .int k, .int (nI j)]) rfl hl.1 (rest := []) rfl (Nat.le_of_ble_eq_true rfl) dX4_fitGroup_60 ⟨Nat.le_of_ble_eq_true rfl, Nat.le_of_ble_eq_true rfl⟩ (st1 := [.int (b2 (tmem (c 5) (c 1) k j))]) rfl ?_
              refine lv_if_eq (tgt := 106) hx hb dX4_fitGroup_63 (by decide) (fun b63 => ?_) (fun b63 => ?_)
              · skip
                have c63 := b2_0 b63
                refine lv_iinc (v := nI (j + 1)) (lv' := [(10, .int (nI (j + 1))), (0, .ref (ad 8)), (1, .ref (ad 2)), (2, .int k), (3, .int tg), (4, .int (nI n)), (5, .int (nI (ct (tmem (c 5) (c 1) k) n))), (6, .int (fs_sum (tmem (c 5) (c 1) k) (c 8) n)), (7, .int 0), (8, .int (fs_sum (tmem (c 5) (c 1) k) (c 8) n)), (9, .int (fs_ms (tmem (c 5) (c 1) k) (c 8) (cs_nw (fs_sum (tmem (c 5) (c 1) k) (c 8) n) tg (ct (tmem (c 5) (c 1) k) n)) tg j))]) hx hb dX4_fitGroup_106 hl (k := 10) rfl (nI_1 j) (by decide) rfl (fun ls hl => ?_)
                refine lv_goto (tgt := 48) hx hb dX4_fitGroup_109 (by decide) ?_
                have es : (cw cA ad nh ni (upr c 8 (fs_w1 (tmem (c 5) (c 1) k) (c 8) (cs_nw (fs_sum (tmem (c 5) (c 1) k) (c 8) n) tg (ct (tmem (c 5) (c 1) k) n)) j))) = (cw cA ad nh ni (upr c 8 (fs_w1 (tmem (c 5) (c 1) k) (c 8) (cs_nw (fs_sum (tmem (c 5) (c 1) k) (c 8) n) tg (ct (tmem (c 5) (c 1) k) n)) (j + 1)))) := by rw [fs_w1_f c63]
                rw [es] at hP hD
                exact ih48 (j + 1) (by omega) (by omega) ls (lv_cast (lv_sub (l' := [(0, .ref (ad 8)), (1, .ref (ad 2)), (2, .int k), (3, .int tg), (4, .int (nI n)), (5, .int (nI (ct (tmem (c 5) (c 1) k) n))), (6, .int (fs_sum (tmem (c 5) (c 1) k) (c 8) n)), (7, .int 0), (8, .int (fs_sum (tmem (c 5) (c 1) k) (c 8) n)), (9, .int (fs_ms (tmem (c 5) (c 1) k) (c 8) (cs_nw (fs_sum (tmem (c 5) (c 1) k) (c 8) n) tg (ct (tmem (c 5) (c 1) k) n)) tg j)), (10, .int (nI (j + 1)))]) hl [1, 2, 3, 4, 5, 6, 7, 8, 9, 10, 0] rfl) (by rw [fs_ms_f c63])) _ _ hP hD hS
              · skip
                have c63 := b2_1 b63
                refine lv_aload_n hx hb dX4_fitGroup_66 rfl (lv_at hl 0 rfl) ?_
                refine gf S hK hP 8 cl_8 fX4_22 (v := .ref (ad 12)) ct0_3 dX4_fitGroup_67 ?_
                refine lv_iload hx hb dX4_fitGroup_70 (lv_at hl 10 rfl) ?_
                refine lv_iload hx hb dX4_fitGroup_72 (lv_at hl 7 rfl) ?_
                refine lv_if_eq (tgt := 81) hx hb dX4_fitGroup_74 (by decide) (fun b74 => ?_) (fun b74 => ?_)
                · skip
                  refine lv_aload_n hx hb dX4_fitGroup_81 rfl (lv_at hl 0 rfl) ?_
                  refine gf S hK hP 8 cl_8 fX4_22 (v := .ref (ad 12)) ct0_3 dX4_fitGroup_82 ?_
                  refine lv_iload hx hb dX4_fitGroup_85 (lv_at hl 10 rfl) ?_
                  refine ild S hK hP 12 cl_12 (j := j) (by omega) (Nat.le_of_ble_eq_true rfl) dX4_fitGroup_87 ?_
                  refine lv_as (y := c 8 j) (show upr c 8 (fs_w1 (tmem (c 5) (c 1) k) (c 8) (cs_nw (fs_sum (tmem (c 5) (c 1) k) (c 8) n) tg (ct (tmem (c 5) (c 1) k) n)) j) 8 j = c 8 j from fs_w1_ge (Nat.le_refl _)) ?_
                  refine lv_iload_n hx hb dX4_fitGroup_88 rfl (lv_at hl 3 rfl) ?_
                  refine lv_imul hx hb dX4_fitGroup_89 ?_
                  refine lv_iload hx hb dX4_fitGroup_90 (lv_at hl 8 rfl) ?_
                  refine lv_idiv hx hb dX4_fitGroup_92 (fun z => absurd b12 (by rw [z]; decide)) ?_
                  refine ist S hK hP hD hS 12 cl_12 (j := j) (x := ((c 8 j) * tg) / (fs_sum (tmem (c 5) (c 1) k) (c 8) n)) (by omega) (Nat.le_of_ble_eq_true rfl) cs_12 dX4_fitGroup_93 (fun H locs hP hD hS => ?_)
                  refine lv_iload hx hb dX4_fitGroup_94 (lv_at hl 9 rfl) ?_
                  refine lv_aload_n hx hb dX4_fitGroup_96 rfl (lv_at hl 0 rfl) ?_
                  refine gf S hK hP 8 cl_8 fX4_22 (v := .ref (ad 12)) ct0_3 dX4_fitGroup_97 ?_
                  refine lv_iload hx hb dX4_fitGroup_100 (lv_at hl 10 rfl) ?_
                  refine ild S hK hP 12 cl_12 (j := j) (by omega) (Nat.le_of_ble_eq_true rfl) dX4_fitGroup_102 ?_
                  refine lv_as (y := ((c 8 j) * tg) / (fs_sum (tmem (c 5) (c 1) k) (c 8) n)) up_at ?_
                  refine lv_isub hx hb dX4_fitGroup_103 ?_
                  refine lv_istore (lv' := [(9, .int ((fs_ms (tmem (c 5) (c 1) k) (c 8) (cs_nw (fs_sum (tmem (c 5) (c 1) k) (c 8) n) tg (ct (tmem (c 5) (c 1) k) n)) tg j) - (((c 8 j) * tg) / (fs_sum (tmem (c 5) (c 1) k) (c 8) n)))), (0, .ref (ad 8)), (1, .ref (ad 2)), (2, .int k), (3, .int tg), (4, .int (nI n)), (5, .int (nI (ct (tmem (c 5) (c 1) k) n))), (6, .int (fs_sum (tmem (c 5) (c 1) k) (c 8) n)), (7, .int 0), (8, .int (fs_sum (tmem (c 5) (c 1) k) (c 8) n)), (10, .int (nI j))]) hx hb dX4_fitGroup_104 hl (by decide) rfl (fun ls hl => ?_)
                  refine lv_iinc (v := nI (j + 1)) (lv' := [(10, .int (nI (j + 1))), (9, .int ((fs_ms (tmem (c 5) (c 1) k) (c 8) (cs_nw (fs_sum (tmem (c 5) (c 1) k) (c 8) n) tg (ct (tmem (c 5) (c 1) k) n)) tg j) - (((c 8 j) * tg) / (fs_sum (tmem (c 5) (c 1) k) (c 8) n)))), (0, .ref (ad 8)), (1, .ref (ad 2)), (2, .int k), (3, .int tg), (4, .int (nI n)), (5, .int (nI (ct (tmem (c 5) (c 1) k) n))), (6, .int (fs_sum (tmem (c 5) (c 1) k) (c 8) n)), (7, .int 0), (8, .int (fs_sum (tmem (c 5) (c 1) k) (c 8) n))]) hx hb dX4_fitGroup_106 hl (k := 10) rfl (nI_1 j) (by decide) rfl (fun ls hl => ?_)
                  refine lv_goto (tgt := 48) hx hb dX4_fitGroup_109 (by decide) ?_
                  have es : (cw cA ad nh ni (up (upr c 8 (fs_w1 (tmem (c 5) (c 1) k) (c 8) (cs_nw (fs_sum (tmem (c 5) (c 1) k) (c 8) n) tg (ct (tmem (c 5) (c 1) k) n)) j)) 8 j (((c 8 j) * tg) / (fs_sum (tmem (c 5) (c 1) k) (c 8) n)))) = (cw cA ad nh ni (upr c 8 (fs_w1 (tmem (c 5) (c 1) k) (c 8) (cs_nw (fs_sum (tmem (c 5) (c 1) k) (c 8) n) tg (ct (tmem (c 5) (c 1) k) n)) (j + 1)))) := by rw [up_upr, fs_w1_t c63, (show (cs_nw (fs_sum (tmem (c 5) (c 1) k) (c 8) n) tg (ct (tmem (c 5) (c 1) k) n)) (c 8 j) = _ by unfold cs_nw; rw [if_pos b12])]
                  rw [es] at hP hD
                  exact ih48 (j + 1) (by omega) (by omega) ls (lv_cast (lv_sub (l' := [(0, .ref (ad 8)), (1, .ref (ad 2)), (2, .int k), (3, .int tg), (4, .int (nI n)), (5, .int (nI (ct (tmem (c 5) (c 1) k) n))), (6, .int (fs_sum (tmem (c 5) (c 1) k) (c 8) n)), (7, .int 0), (8, .int (fs_sum (tmem (c 5) (c 1) k) (c 8) n)), (9, .int ((fs_ms (tmem (c 5) (c 1) k) (c 8) (cs_nw (fs_sum (tmem (c 5) (c 1) k) (c 8) n) tg (ct (tmem (c 5) (c 1) k) n)) tg j) - (((c 8 j) * tg) / (fs_sum (tmem (c 5) (c 1) k) (c 8) n)))), (10, .int (nI (j + 1)))]) hl [2, 3, 4, 5, 6, 7, 8, 9, 10, 1, 0] rfl) (by rw [fs_ms_t c63, (show (cs_nw (fs_sum (tmem (c 5) (c 1) k) (c 8) n) tg (ct (tmem (c 5) (c 1) k) n)) (c 8 j) = _ by unfold cs_nw; rw [if_pos b12])])) _ _ hP hD hS
                · skip
                  exact absurd b24 b74
        have es : (cw cA ad nh ni c) = (cw cA ad nh ni (upr c 8 (fs_w1 (tmem (c 5) (c 1) k) (c 8) (cs_nw (fs_sum (tmem (c 5) (c 1) k) (c 8) n) tg (ct (tmem (c 5) (c 1) k) n)) 0))) := congrArg (cw cA ad nh ni) upr_self.symm
        rw [es] at hP hD
        exact hL48 _ 0 (Nat.lt_succ_self _) (Nat.zero_le _) ls (lv_cast (lv_sub (l' := [(0, .ref (ad 8)), (1, .ref (ad 2)), (2, .int k), (3, .int tg), (4, .int (nI n)), (5, .int (nI (ct (tmem (c 5) (c 1) k) n))), (6, .int (fs_sum (tmem (c 5) (c 1) k) (c 8) n)), (7, .int 0), (8, .int (fs_sum (tmem (c 5) (c 1) k) (c 8) n)), (9, .int tg), (10, .int 0)]) hl [5, 6, 7, 8, 9, 10, 4, 3, 2, 1, 0] rfl) (by rfl)) _ _ hP hD hS
      · skip
        exact absurd b12 b38
    · skip
      exact False.elim (by revert b24; decide)
  · skip
    refine lv_iconst (v := 1) hx hb dX4_fitGroup_15 (by decide) ?_
    refine lv_goto (tgt := 20) hx hb dX4_fitGroup_16 (by decide) ?_
    refine lv_istore (lv' := [(7, .int 1), (6, .int (fs_sum (tmem (c 5) (c 1) k) (c 8) n)), (0, .ref (ad 8)), (1, .ref (ad 2)), (2, .int k), (3, .int tg), (4, .int (nI n)), (5, .int (nI (ct (tmem (c 5) (c 1) k) n)))]) hx hb dX4_fitGroup_20 hl (by decide) rfl (fun ls hl => ?_)
    refine lv_iload hx hb dX4_fitGroup_22 (lv_at hl 0 rfl) ?_
    refine lv_if_eq (tgt := 32) hx hb dX4_fitGroup_24 (by decide) (fun b24 => ?_) (fun b24 => ?_)
    · skip
      exact False.elim (by revert b24; decide)
    · skip
      refine lv_iload hx hb dX4_fitGroup_27 (lv_at hl 7 rfl) ?_
      refine lv_goto (tgt := 34) hx hb dX4_fitGroup_29 (by decide) ?_
      refine lv_istore (lv' := [(8, .int (nI (ct (tmem (c 5) (c 1) k) n))), (7, .int 1), (6, .int (fs_sum (tmem (c 5) (c 1) k) (c 8) n)), (0, .ref (ad 8)), (1, .ref (ad 2)), (2, .int k), (3, .int tg), (4, .int (nI n)), (5, .int (nI (ct (tmem (c 5) (c 1) k) n)))]) hx hb dX4_fitGroup_34 hl (by decide) rfl (fun ls hl => ?_)
      refine lv_iload hx hb dX4_fitGroup_36 (lv_at hl 0 rfl) ?_
      refine lv_if_gt (tgt := 42) hx hb dX4_fitGroup_38 (by decide) (fun b38 => ?_) (fun b38 => ?_)
      · skip
        have g38 : 0 < ct (tmem (c 5) (c 1) k) n := (nI_ltI (a := 0) (b := ct (tmem (c 5) (c 1) k) n) (by omega) (by omega)).mp b38
        refine lv_iload_n hx hb dX4_fitGroup_42 rfl (lv_at hl 6 rfl) ?_
        refine lv_istore (lv' := [(9, .int tg), (8, .int (nI (ct (tmem (c 5) (c 1) k) n))), (7, .int 1), (6, .int (fs_sum (tmem (c 5) (c 1) k) (c 8) n)), (0, .ref (ad 8)), (1, .ref (ad 2)), (2, .int k), (3, .int tg), (4, .int (nI n)), (5, .int (nI (ct (tmem (c 5) (c 1) k) n)))]) hx hb dX4_fitGroup_43 hl (by decide) rfl (fun ls hl => ?_)
        refine lv_iconst (v := 0) hx hb dX4_fitGroup_45 (by decide) ?_
        refine lv_istore (lv' := [(10, .int 0), (9, .int tg), (8, .int (nI (ct (tmem (c 5) (c 1) k) n))), (7, .int 1), (6, .int (fs_sum (tmem (c 5) (c 1) k) (c 8) n)), (0, .ref (ad 8)), (1, .ref (ad 2)), (2, .int k), (3, .int tg), (4, .int (nI n)), (5, .int (nI (ct (tmem (c 5) (c 1) k) n)))]) hx hb dX4_fitGroup_46 hl (by decide) rfl (fun ls hl => ?_)
        have hL48 : ∀ (f : Nat) (j : Nat), n - j < f → (j ≤ n) → ∀ ls, lv_has ls 11 [(0, .ref (ad 8)), (1, .ref (ad 2)), (2, .int k), (3, .int tg), (4, .int (nI n)), (5, .int (nI (ct (tmem (c 5) (c 1) k) n))), (6, .int (fs_sum (tmem (c 5) (c 1) k) (c 8) n)), (7, .int 1), (8, .int (nI (ct (tmem (c 5) (c 1) k) n))), (9, .int (fs_ms (tmem (c 5) (c 1) k) (c 8) (cs_nw (fs_sum (tmem (c 5) (c 1) k) (c 8) n) tg (ct (tmem (c 5) (c 1) k) n)) tg j)), (10, .int (nI j))] → ∀ (H : Heap) (locs : List Loc), PP dg (cw cA ad nh ni (upr c 8 (fs_w1 (tmem (c 5) (c 1) k) (c 8) (cs_nw (fs_sum (tmem (c 5) (c 1) k) (c 8) n) tg (ct (tmem (c 5) (c 1) k) n)) j))) H → va_D A (cw cA ad nh ni (upr c 8 (fs_w1 (tmem (c 5) (c 1) k) (c 8) (cs_nw (fs_sum (tmem (c 5) (c 1) k) (c 8) n) tg (ct (tmem (c 5) (c 1) k) n)) j))) → va_S A s0.heap H locs → W p l e ({ frames := 2, cells := 0, slots := 0, locals := 49 } : Room) s0 m args below meth ccd H locs 0 0 (MQ below (QcM dg (cw cA ad nh ni (upr c 8 (cs_fit (tmem (c 5) (c 1) k) (c 8) tg n))) none A) args s0 0 0 A) (F0 m 48 ls []) := by
          intro f
          induction f with
          | zero => intro j hm; exact absurd hm (Nat.not_lt_zero _)
          | succ f ih48 =>
            intro j hm48 hj ls hl H locs hP hD hS
            refine lv_iload hx hb dX4_fitGroup_48 (lv_at hl 10 rfl) ?_
            refine lv_iload hx hb dX4_fitGroup_50 (lv_at hl 4 rfl) ?_
            refine lv_icmp_ge (tgt := 112) hx hb dX4_fitGroup_52 (by decide) (fun b52 => ?_) (fun b52 => ?_)
            · skip
              have g52 : n ≤ j := (nI_leI (a := n) (b := j) (by omega) (by omega)).mp b52
              have ej : j = n := by omega
              rw [ej] at hl hP hD
              refine lv_aload_n hx hb dX4_fitGroup_112 rfl (lv_at hl 0 rfl) ?_
              refine lv_aload_n hx hb dX4_fitGroup_113 rfl (lv_at hl 1 rfl) ?_
              refine lv_iload_n hx hb dX4_fitGroup_114 rfl (lv_at hl 2 rfl) ?_
              refine lv_iload hx hb dX4_fitGroup_115 (lv_at hl 4 rfl) ?_
              refine lv_iload hx hb dX4_fitGroup_117 (lv_at hl 9 rfl) ?_
              refine cM S (cc_spread_ks l dg cA ad nh ni (upr c 8 (fs_w1 (tmem (c 5) (c 1) k) (c 8) (cs_nw (fs_sum (tmem (c 5) (c 1) k) (c 8) n) tg (ct (tmem (c 5) (c 1) k) n)) n)) k n hn24 (fs_ms (tmem (c 5) (c 1) k) (c 8) (cs_nw (fs_sum (tmem (c 5) (c 1) k) (c 8) n) tg (ct (tmem (c 5) (c 1) k) n)) tg n) _) kX4_73 ⟨rfl, rfl, Nat.le_of_ble_eq_true rfl, Nat.le_of_ble_eq_true rfl⟩ hK hP hD hS hA 8 cl_8 (q := (RX4, TX4, 5)) rfl rfl (As := [.ref (ad 2), .int k, .int (nI n), .int (fs_ms (tmem (c 5) (c 1) k) (c 8) (cs_nw (fs_sum (tmem (c 5) (c 1) k) (c 8) n) tg (ct (tmem (c 5) (c 1) k) n)) tg n)]) rfl hl.1 (rest := []) rfl (Nat.le_of_ble_eq_true rfl) dX4_fitGroup_119 ⟨Nat.le_of_ble_eq_true rfl, Nat.le_of_ble_eq_true rfl⟩ (st1 := []) rfl (fun H locs hP hD hS => ?_)
              exact eMv S hr hlk hP hD hS dX4_fitGroup_122 (by rw [upr_upr]; rfl)
            · skip
              have g52 : ¬ n ≤ j := fun zz => b52 ((nI_leI (a := n) (b := j) (by omega) (by omega)).mpr zz)
              refine lv_aload_n hx hb dX4_fitGroup_55 rfl (lv_at hl 0 rfl) ?_
              refine lv_aload_n hx hb dX4_fitGroup_56 rfl (lv_at hl 1 rfl) ?_
              refine lv_iload_n hx hb dX4_fitGroup_57 rfl (lv_at hl 2 rfl) ?_
              refine lv_iload hx hb dX4_fitGroup_58 (lv_at hl 10 rfl) ?_
              refine cR S (cc_inG_ks l dg cA ad nh ni (upr c 8 (fs_w1 (tmem (c 5) (c 1) k) (c 8) (cs_nw (fs_sum (tmem (c 5) (c 1) k) (c 8) n) tg (ct (tmem (c 5) (c 1) k) n)) j)) k j (by omega)) kX4_69 ⟨rfl, rfl, Nat.le_of_ble_eq_true rfl, Nat.le_of_ble_eq_true rfl⟩ hK hP 8 cl_8 (q := (RX4, TX4, 5)) rfl rfl (As := [.ref (ad 2), .int k, .int (nI j)]) rfl hl.1 (rest := []) rfl (Nat.le_of_ble_eq_true rfl) dX4_fitGroup_60 ⟨Nat.le_of_ble_eq_true rfl, Nat.le_of_ble_eq_true rfl⟩ (st1 := [.int (b2 (tmem (c 5) (c 1) k j))]) rfl ?_
              refine lv_if_eq (tgt := 106) hx hb dX4_fitGroup_63 (by decide) (fun b63 => ?_) (fun b63 => ?_)
              · skip
                have c63 := b2_0 b63
                refine lv_iinc (v := nI (j + 1)) (lv' := [(10, .int (nI (j + 1))), (0, .ref (ad 8)), (1, .ref (ad 2)), (2, .int k), (3, .int tg), (4, .int (nI n)), (5, .int (nI (ct (tmem (c 5) (c 1) k) n))), (6, .int (fs_sum (tmem (c 5) (c 1) k) (c 8) n)), (7, .int 1), (8, .int (nI (ct (tmem (c 5) (c 1) k) n))), (9, .int (fs_ms (tmem (c 5) (c 1) k) (c 8) (cs_nw (fs_sum (tmem (c 5) (c 1) k) (c 8) n) tg (ct (tmem (c 5) (c 1) k) n)) tg j))]) hx hb dX4_fitGroup_106 hl (k := 10) rfl (nI_1 j) (by decide) rfl (fun ls hl => ?_)
                refine lv_goto (tgt := 48) hx hb dX4_fitGroup_109 (by decide) ?_
                have es : (cw cA ad nh ni (upr c 8 (fs_w1 (tmem (c 5) (c 1) k) (c 8) (cs_nw (fs_sum (tmem (c 5) (c 1) k) (c 8) n) tg (ct (tmem (c 5) (c 1) k) n)) j))) = (cw cA ad nh ni (upr c 8 (fs_w1 (tmem (c 5) (c 1) k) (c 8) (cs_nw (fs_sum (tmem (c 5) (c 1) k) (c 8) n) tg (ct (tmem (c 5) (c 1) k) n)) (j + 1)))) := by rw [fs_w1_f c63]
                rw [es] at hP hD
                exact ih48 (j + 1) (by omega) (by omega) ls (lv_cast (lv_sub (l' := [(0, .ref (ad 8)), (1, .ref (ad 2)), (2, .int k), (3, .int tg), (4, .int (nI n)), (5, .int (nI (ct (tmem (c 5) (c 1) k) n))), (6, .int (fs_sum (tmem (c 5) (c 1) k) (c 8) n)), (7, .int 1), (8, .int (nI (ct (tmem (c 5) (c 1) k) n))), (9, .int (fs_ms (tmem (c 5) (c 1) k) (c 8) (cs_nw (fs_sum (tmem (c 5) (c 1) k) (c 8) n) tg (ct (tmem (c 5) (c 1) k) n)) tg j)), (10, .int (nI (j + 1)))]) hl [1, 2, 3, 4, 5, 6, 7, 8, 9, 10, 0] rfl) (by rw [fs_ms_f c63])) _ _ hP hD hS
              · skip
                have c63 := b2_1 b63
                refine lv_aload_n hx hb dX4_fitGroup_66 rfl (lv_at hl 0 rfl) ?_
                refine gf S hK hP 8 cl_8 fX4_22 (v := .ref (ad 12)) ct0_3 dX4_fitGroup_67 ?_
                refine lv_iload hx hb dX4_fitGroup_70 (lv_at hl 10 rfl) ?_
                refine lv_iload hx hb dX4_fitGroup_72 (lv_at hl 7 rfl) ?_
                refine lv_if_eq (tgt := 81) hx hb dX4_fitGroup_74 (by decide) (fun b74 => ?_) (fun b74 => ?_)
                · skip
                  exact absurd b74 b24
                · skip
                  refine lv_iconst (v := 1) hx hb dX4_fitGroup_77 (by decide) ?_
                  refine lv_goto (tgt := 88) hx hb dX4_fitGroup_78 (by decide) ?_
                  refine lv_iload_n hx hb dX4_fitGroup_88 rfl (lv_at hl 3 rfl) ?_
                  refine lv_imul hx hb dX4_fitGroup_89 ?_
                  refine lv_iload hx hb dX4_fitGroup_90 (lv_at hl 8 rfl) ?_
                  refine lv_idiv hx hb dX4_fitGroup_92 (nI_ne0 hm (by omega)) ?_
                  refine ist S hK hP hD hS 12 cl_12 (j := j) (x := (1 * tg) / (nI (ct (tmem (c 5) (c 1) k) n))) (by omega) (Nat.le_of_ble_eq_true rfl) cs_12 dX4_fitGroup_93 (fun H locs hP hD hS => ?_)
                  refine lv_iload hx hb dX4_fitGroup_94 (lv_at hl 9 rfl) ?_
                  refine lv_aload_n hx hb dX4_fitGroup_96 rfl (lv_at hl 0 rfl) ?_
                  refine gf S hK hP 8 cl_8 fX4_22 (v := .ref (ad 12)) ct0_3 dX4_fitGroup_97 ?_
                  refine lv_iload hx hb dX4_fitGroup_100 (lv_at hl 10 rfl) ?_
                  refine ild S hK hP 12 cl_12 (j := j) (by omega) (Nat.le_of_ble_eq_true rfl) dX4_fitGroup_102 ?_
                  refine lv_as (y := (1 * tg) / (nI (ct (tmem (c 5) (c 1) k) n))) up_at ?_
                  refine lv_isub hx hb dX4_fitGroup_103 ?_
                  refine lv_istore (lv' := [(9, .int ((fs_ms (tmem (c 5) (c 1) k) (c 8) (cs_nw (fs_sum (tmem (c 5) (c 1) k) (c 8) n) tg (ct (tmem (c 5) (c 1) k) n)) tg j) - ((1 * tg) / (nI (ct (tmem (c 5) (c 1) k) n))))), (0, .ref (ad 8)), (1, .ref (ad 2)), (2, .int k), (3, .int tg), (4, .int (nI n)), (5, .int (nI (ct (tmem (c 5) (c 1) k) n))), (6, .int (fs_sum (tmem (c 5) (c 1) k) (c 8) n)), (7, .int 1), (8, .int (nI (ct (tmem (c 5) (c 1) k) n))), (10, .int (nI j))]) hx hb dX4_fitGroup_104 hl (by decide) rfl (fun ls hl => ?_)
                  refine lv_iinc (v := nI (j + 1)) (lv' := [(10, .int (nI (j + 1))), (9, .int ((fs_ms (tmem (c 5) (c 1) k) (c 8) (cs_nw (fs_sum (tmem (c 5) (c 1) k) (c 8) n) tg (ct (tmem (c 5) (c 1) k) n)) tg j) - ((1 * tg) / (nI (ct (tmem (c 5) (c 1) k) n))))), (0, .ref (ad 8)), (1, .ref (ad 2)), (2, .int k), (3, .int tg), (4, .int (nI n)), (5, .int (nI (ct (tmem (c 5) (c 1) k) n))), (6, .int (fs_sum (tmem (c 5) (c 1) k) (c 8) n)), (7, .int 1), (8, .int (nI (ct (tmem (c 5) (c 1) k) n)))]) hx hb dX4_fitGroup_106 hl (k := 10) rfl (nI_1 j) (by decide) rfl (fun ls hl => ?_)
                  refine lv_goto (tgt := 48) hx hb dX4_fitGroup_109 (by decide) ?_
                  have es : (cw cA ad nh ni (up (upr c 8 (fs_w1 (tmem (c 5) (c 1) k) (c 8) (cs_nw (fs_sum (tmem (c 5) (c 1) k) (c 8) n) tg (ct (tmem (c 5) (c 1) k) n)) j)) 8 j ((1 * tg) / (nI (ct (tmem (c 5) (c 1) k) n))))) = (cw cA ad nh ni (upr c 8 (fs_w1 (tmem (c 5) (c 1) k) (c 8) (cs_nw (fs_sum (tmem (c 5) (c 1) k) (c 8) n) tg (ct (tmem (c 5) (c 1) k) n)) (j + 1)))) := by rw [up_upr, fs_w1_t c63, (show (cs_nw (fs_sum (tmem (c 5) (c 1) k) (c 8) n) tg (ct (tmem (c 5) (c 1) k) n)) (c 8 j) = _ by unfold cs_nw; rw [if_neg b12])]
                  rw [es] at hP hD
                  exact ih48 (j + 1) (by omega) (by omega) ls (lv_cast (lv_sub (l' := [(0, .ref (ad 8)), (1, .ref (ad 2)), (2, .int k), (3, .int tg), (4, .int (nI n)), (5, .int (nI (ct (tmem (c 5) (c 1) k) n))), (6, .int (fs_sum (tmem (c 5) (c 1) k) (c 8) n)), (7, .int 1), (8, .int (nI (ct (tmem (c 5) (c 1) k) n))), (9, .int ((fs_ms (tmem (c 5) (c 1) k) (c 8) (cs_nw (fs_sum (tmem (c 5) (c 1) k) (c 8) n) tg (ct (tmem (c 5) (c 1) k) n)) tg j) - ((1 * tg) / (nI (ct (tmem (c 5) (c 1) k) n))))), (10, .int (nI (j + 1)))]) hl [2, 3, 4, 5, 6, 7, 8, 9, 10, 1, 0] rfl) (by rw [fs_ms_t c63, (show (cs_nw (fs_sum (tmem (c 5) (c 1) k) (c 8) n) tg (ct (tmem (c 5) (c 1) k) n)) (c 8 j) = _ by unfold cs_nw; rw [if_neg b12])])) _ _ hP hD hS
        have es : (cw cA ad nh ni c) = (cw cA ad nh ni (upr c 8 (fs_w1 (tmem (c 5) (c 1) k) (c 8) (cs_nw (fs_sum (tmem (c 5) (c 1) k) (c 8) n) tg (ct (tmem (c 5) (c 1) k) n)) 0))) := congrArg (cw cA ad nh ni) upr_self.symm
        rw [es] at hP hD
        exact hL48 _ 0 (Nat.lt_succ_self _) (Nat.zero_le _) ls (lv_cast (lv_sub (l' := [(0, .ref (ad 8)), (1, .ref (ad 2)), (2, .int k), (3, .int tg), (4, .int (nI n)), (5, .int (nI (ct (tmem (c 5) (c 1) k) n))), (6, .int (fs_sum (tmem (c 5) (c 1) k) (c 8) n)), (7, .int 1), (8, .int (nI (ct (tmem (c 5) (c 1) k) n))), (9, .int tg), (10, .int 0)]) hl [5, 6, 7, 8, 9, 10, 4, 3, 2, 1, 0] rfl) (by rfl)) _ _ hP hD hS
      · skip
        have g38 : ¬ 0 < ct (tmem (c 5) (c 1) k) n := fun zz => b38 ((nI_ltI (a := 0) (b := ct (tmem (c 5) (c 1) k) n) (by omega) (by omega)).mpr zz)
        exact absurd hm g38

set_option maxHeartbeats 4000000 in
set_option maxRecDepth 100000 in
theorem cc_memG_kl (l : Launch) (dg : va_G) (cA : Nat → ClassId) (ad : Nat → Nat) (nh ni : Nat) (c : St) (k : Int32) (n : Nat) (hn24 : n ≤ 24) : MetR l dg cA yX4_membersOfGroup cX4_membersOfGroup 6 (some .int) ({ frames := 1, cells := 0, slots := 0, locals := 23 } : Room) (cw cA ad nh ni c) [.ref (ad 8), .ref (ad 3), .int k, .int (nI n)] (some (.int (nI (ct (tmem (c 5) (c 2) k) n)))) := by
  refine ofR (by decide) (Nat.le_of_ble_eq_true rfl) (own := RX4) rfl (fun p e s0 m args below meth ccd ls S hr hlk hargs hK hP hl => ?_)
  have hx := S.1
  have hb := S.2.1
  have hl : lv_has ls 6 [(0, .ref (ad 8)), (1, .ref (ad 3)), (2, .int k), (3, .int (nI n))] := hl
  refine lv_iconst (v := 0) hx hb dX4_membersOfGroup_0 (by decide) ?_
  refine lv_istore (lv' := [(4, .int 0), (0, .ref (ad 8)), (1, .ref (ad 3)), (2, .int k), (3, .int (nI n))]) hx hb dX4_membersOfGroup_1 hl (by decide) rfl (fun ls hl => ?_)
  refine lv_iconst (v := 0) hx hb dX4_membersOfGroup_3 (by decide) ?_
  refine lv_istore (lv' := [(5, .int 0), (4, .int 0), (0, .ref (ad 8)), (1, .ref (ad 3)), (2, .int k), (3, .int (nI n))]) hx hb dX4_membersOfGroup_4 hl (by decide) rfl (fun ls hl => ?_)
  have hL6 : ∀ (f : Nat) (j : Nat), n - j < f → (j ≤ n) → ∀ ls, lv_has ls 6 [(0, .ref (ad 8)), (1, .ref (ad 3)), (2, .int k), (3, .int (nI n)), (4, .int (nI (ct (tmem (c 5) (c 2) k) j))), (5, .int (nI j))] → W p l e ({ frames := 1, cells := 0, slots := 0, locals := 23 } : Room) s0 m args below meth ccd s0.heap [] 0 0 (MQ below (QcR (some (.int (nI (ct (tmem (c 5) (c 2) k) n))))) args s0 0 0 (fun _ => False)) (F0 m 6 ls []) := by
    intro f
    induction f with
    | zero => intro j hm; exact absurd hm (Nat.not_lt_zero _)
    | succ f ih6 =>
      intro j hm6 hj ls hl
      refine lv_iload hx hb dX4_membersOfGroup_6 (lv_at hl 5 rfl) ?_
      refine lv_iload_n hx hb dX4_membersOfGroup_8 rfl (lv_at hl 3 rfl) ?_
      refine lv_icmp_ge (tgt := 32) hx hb dX4_membersOfGroup_9 (by decide) (fun b9 => ?_) (fun b9 => ?_)
      · skip
        have g9 : n ≤ j := (nI_leI (a := n) (b := j) (by omega) (by omega)).mp b9
        refine lv_iload hx hb dX4_membersOfGroup_32 (lv_at hl 4 rfl) ?_
        exact eRi S hr hlk dX4_membersOfGroup_34 (by rw [show j = n by omega])
      · skip
        have g9 : ¬ n ≤ j := fun zz => b9 ((nI_leI (a := n) (b := j) (by omega) (by omega)).mpr zz)
        refine lv_aload_n hx hb dX4_membersOfGroup_12 rfl (lv_at hl 0 rfl) ?_
        refine lv_aload_n hx hb dX4_membersOfGroup_13 rfl (lv_at hl 1 rfl) ?_
        refine lv_iload_n hx hb dX4_membersOfGroup_14 rfl (lv_at hl 2 rfl) ?_
        refine lv_iload hx hb dX4_membersOfGroup_15 (lv_at hl 5 rfl) ?_
        refine cR S (cc_inG_kl l dg cA ad nh ni c k j (by omega)) kX4_69 ⟨rfl, rfl, Nat.le_of_ble_eq_true rfl, Nat.le_of_ble_eq_true rfl⟩ hK hP 8 cl_8 (q := (RX4, TX4, 5)) rfl rfl (As := [.ref (ad 3), .int k, .int (nI j)]) rfl hl.1 (rest := []) rfl (Nat.le_of_ble_eq_true rfl) dX4_membersOfGroup_17 ⟨Nat.le_of_ble_eq_true rfl, Nat.le_of_ble_eq_true rfl⟩ (st1 := [.int (b2 (tmem (c 5) (c 2) k j))]) rfl ?_
        refine lv_if_eq (tgt := 26) hx hb dX4_membersOfGroup_20 (by decide) (fun b20 => ?_) (fun b20 => ?_)
        · skip
          have c20 := b2_0 b20
          refine lv_iinc (v := nI (j + 1)) (lv' := [(5, .int (nI (j + 1))), (0, .ref (ad 8)), (1, .ref (ad 3)), (2, .int k), (3, .int (nI n)), (4, .int (nI (ct (tmem (c 5) (c 2) k) j)))]) hx hb dX4_membersOfGroup_26 hl (k := 5) rfl (nI_1 j) (by decide) rfl (fun ls hl => ?_)
          refine lv_goto (tgt := 6) hx hb dX4_membersOfGroup_29 (by decide) ?_
          exact ih6 (j + 1) (by omega) (by omega) ls (lv_cast (lv_sub (l' := [(0, .ref (ad 8)), (1, .ref (ad 3)), (2, .int k), (3, .int (nI n)), (4, .int (nI (ct (tmem (c 5) (c 2) k) j))), (5, .int (nI (j + 1)))]) hl [1, 2, 3, 4, 5, 0] rfl) (by rw [ct_f c20]))
        · skip
          have c20 := b2_1 b20
          refine lv_iinc (v := nI (ct (tmem (c 5) (c 2) k) j + 1)) (lv' := [(4, .int (nI (ct (tmem (c 5) (c 2) k) j + 1))), (0, .ref (ad 8)), (1, .ref (ad 3)), (2, .int k), (3, .int (nI n)), (5, .int (nI j))]) hx hb dX4_membersOfGroup_23 hl (k := 4) rfl (nI_1 (ct (tmem (c 5) (c 2) k) j)) (by decide) rfl (fun ls hl => ?_)
          refine lv_iinc (v := nI (j + 1)) (lv' := [(5, .int (nI (j + 1))), (4, .int (nI (ct (tmem (c 5) (c 2) k) j + 1))), (0, .ref (ad 8)), (1, .ref (ad 3)), (2, .int k), (3, .int (nI n))]) hx hb dX4_membersOfGroup_26 hl (k := 5) rfl (nI_1 j) (by decide) rfl (fun ls hl => ?_)
          refine lv_goto (tgt := 6) hx hb dX4_membersOfGroup_29 (by decide) ?_
          exact ih6 (j + 1) (by omega) (by omega) ls (lv_cast (lv_sub (l' := [(0, .ref (ad 8)), (1, .ref (ad 3)), (2, .int k), (3, .int (nI n)), (4, .int (nI (ct (tmem (c 5) (c 2) k) j + 1))), (5, .int (nI (j + 1)))]) hl [2, 3, 4, 5, 1, 0] rfl) (by rw [ct_t c20]))
  exact hL6 _ 0 (Nat.lt_succ_self _) (Nat.zero_le _) ls (lv_cast (lv_sub (l' := [(0, .ref (ad 8)), (1, .ref (ad 3)), (2, .int k), (3, .int (nI n)), (4, .int 0), (5, .int 0)]) hl [2, 3, 4, 5, 1, 0] rfl) (by rfl))

set_option maxHeartbeats 4000000 in
set_option maxRecDepth 100000 in
theorem cc_sumG_kl (l : Launch) (dg : va_G) (cA : Nat → ClassId) (ad : Nat → Nat) (nh ni : Nat) (c : St) (k : Int32) (n : Nat) (hn24 : n ≤ 24) : MetR l dg cA yX4_sumOfGroup cX4_sumOfGroup 6 (some .int) ({ frames := 1, cells := 0, slots := 0, locals := 23 } : Room) (cw cA ad nh ni c) [.ref (ad 8), .ref (ad 3), .int k, .int (nI n)] (some (.int (fs_sum (tmem (c 5) (c 2) k) (c 8) n))) := by
  refine ofR (by decide) (Nat.le_of_ble_eq_true rfl) (own := RX4) rfl (fun p e s0 m args below meth ccd ls S hr hlk hargs hK hP hl => ?_)
  have hx := S.1
  have hb := S.2.1
  have hl : lv_has ls 6 [(0, .ref (ad 8)), (1, .ref (ad 3)), (2, .int k), (3, .int (nI n))] := hl
  refine lv_iconst (v := 0) hx hb dX4_sumOfGroup_0 (by decide) ?_
  refine lv_istore (lv' := [(4, .int 0), (0, .ref (ad 8)), (1, .ref (ad 3)), (2, .int k), (3, .int (nI n))]) hx hb dX4_sumOfGroup_1 hl (by decide) rfl (fun ls hl => ?_)
  refine lv_iconst (v := 0) hx hb dX4_sumOfGroup_3 (by decide) ?_
  refine lv_istore (lv' := [(5, .int 0), (4, .int 0), (0, .ref (ad 8)), (1, .ref (ad 3)), (2, .int k), (3, .int (nI n))]) hx hb dX4_sumOfGroup_4 hl (by decide) rfl (fun ls hl => ?_)
  have hL6 : ∀ (f : Nat) (j : Nat), n - j < f → (j ≤ n) → ∀ ls, lv_has ls 6 [(0, .ref (ad 8)), (1, .ref (ad 3)), (2, .int k), (3, .int (nI n)), (4, .int (fs_sum (tmem (c 5) (c 2) k) (c 8) j)), (5, .int (nI j))] → W p l e ({ frames := 1, cells := 0, slots := 0, locals := 23 } : Room) s0 m args below meth ccd s0.heap [] 0 0 (MQ below (QcR (some (.int (fs_sum (tmem (c 5) (c 2) k) (c 8) n)))) args s0 0 0 (fun _ => False)) (F0 m 6 ls []) := by
    intro f
    induction f with
    | zero => intro j hm; exact absurd hm (Nat.not_lt_zero _)
    | succ f ih6 =>
      intro j hm6 hj ls hl
      refine lv_iload hx hb dX4_sumOfGroup_6 (lv_at hl 5 rfl) ?_
      refine lv_iload_n hx hb dX4_sumOfGroup_8 rfl (lv_at hl 3 rfl) ?_
      refine lv_icmp_ge (tgt := 41) hx hb dX4_sumOfGroup_9 (by decide) (fun b9 => ?_) (fun b9 => ?_)
      · skip
        have g9 : n ≤ j := (nI_leI (a := n) (b := j) (by omega) (by omega)).mp b9
        refine lv_iload hx hb dX4_sumOfGroup_41 (lv_at hl 4 rfl) ?_
        exact eRi S hr hlk dX4_sumOfGroup_43 (by rw [show j = n by omega])
      · skip
        have g9 : ¬ n ≤ j := fun zz => b9 ((nI_leI (a := n) (b := j) (by omega) (by omega)).mpr zz)
        refine lv_aload_n hx hb dX4_sumOfGroup_12 rfl (lv_at hl 0 rfl) ?_
        refine lv_aload_n hx hb dX4_sumOfGroup_13 rfl (lv_at hl 1 rfl) ?_
        refine lv_iload_n hx hb dX4_sumOfGroup_14 rfl (lv_at hl 2 rfl) ?_
        refine lv_iload hx hb dX4_sumOfGroup_15 (lv_at hl 5 rfl) ?_
        refine cR S (cc_inG_kl l dg cA ad nh ni c k j (by omega)) kX4_69 ⟨rfl, rfl, Nat.le_of_ble_eq_true rfl, Nat.le_of_ble_eq_true rfl⟩ hK hP 8 cl_8 (q := (RX4, TX4, 5)) rfl rfl (As := [.ref (ad 3), .int k, .int (nI j)]) rfl hl.1 (rest := []) rfl (Nat.le_of_ble_eq_true rfl) dX4_sumOfGroup_17 ⟨Nat.le_of_ble_eq_true rfl, Nat.le_of_ble_eq_true rfl⟩ (st1 := [.int (b2 (tmem (c 5) (c 2) k j))]) rfl ?_
        refine lv_if_eq (tgt := 35) hx hb dX4_sumOfGroup_20 (by decide) (fun b20 => ?_) (fun b20 => ?_)
        · skip
          have c20 := b2_0 b20
          refine lv_iinc (v := nI (j + 1)) (lv' := [(5, .int (nI (j + 1))), (0, .ref (ad 8)), (1, .ref (ad 3)), (2, .int k), (3, .int (nI n)), (4, .int (fs_sum (tmem (c 5) (c 2) k) (c 8) j))]) hx hb dX4_sumOfGroup_35 hl (k := 5) rfl (nI_1 j) (by decide) rfl (fun ls hl => ?_)
          refine lv_goto (tgt := 6) hx hb dX4_sumOfGroup_38 (by decide) ?_
          exact ih6 (j + 1) (by omega) (by omega) ls (lv_cast (lv_sub (l' := [(0, .ref (ad 8)), (1, .ref (ad 3)), (2, .int k), (3, .int (nI n)), (4, .int (fs_sum (tmem (c 5) (c 2) k) (c 8) j)), (5, .int (nI (j + 1)))]) hl [1, 2, 3, 4, 5, 0] rfl) (by rw [fs_sum_f c20]))
        · skip
          have c20 := b2_1 b20
          refine lv_iload hx hb dX4_sumOfGroup_23 (lv_at hl 4 rfl) ?_
          refine lv_aload_n hx hb dX4_sumOfGroup_25 rfl (lv_at hl 0 rfl) ?_
          refine gf S hK hP 8 cl_8 fX4_22 (v := .ref (ad 12)) ct0_3 dX4_sumOfGroup_26 ?_
          refine lv_iload hx hb dX4_sumOfGroup_29 (lv_at hl 5 rfl) ?_
          refine ild S hK hP 12 cl_12 (j := j) (by omega) (Nat.le_of_ble_eq_true rfl) dX4_sumOfGroup_31 ?_
          refine lv_as (y := c 8 j) rfl ?_
          refine lv_iadd hx hb dX4_sumOfGroup_32 ?_
          refine lv_istore (lv' := [(4, .int ((fs_sum (tmem (c 5) (c 2) k) (c 8) j) + (c 8 j))), (0, .ref (ad 8)), (1, .ref (ad 3)), (2, .int k), (3, .int (nI n)), (5, .int (nI j))]) hx hb dX4_sumOfGroup_33 hl (by decide) rfl (fun ls hl => ?_)
          refine lv_iinc (v := nI (j + 1)) (lv' := [(5, .int (nI (j + 1))), (4, .int ((fs_sum (tmem (c 5) (c 2) k) (c 8) j) + (c 8 j))), (0, .ref (ad 8)), (1, .ref (ad 3)), (2, .int k), (3, .int (nI n))]) hx hb dX4_sumOfGroup_35 hl (k := 5) rfl (nI_1 j) (by decide) rfl (fun ls hl => ?_)
          refine lv_goto (tgt := 6) hx hb dX4_sumOfGroup_38 (by decide) ?_
          exact ih6 (j + 1) (by omega) (by omega) ls (lv_cast (lv_sub (l' := [(0, .ref (ad 8)), (1, .ref (ad 3)), (2, .int k), (3, .int (nI n)), (4, .int ((fs_sum (tmem (c 5) (c 2) k) (c 8) j) + (c 8 j))), (5, .int (nI (j + 1)))]) hl [2, 3, 4, 5, 1, 0] rfl) (by rw [fs_sum_t c20]))
  exact hL6 _ 0 (Nat.lt_succ_self _) (Nat.zero_le _) ls (lv_cast (lv_sub (l' := [(0, .ref (ad 8)), (1, .ref (ad 3)), (2, .int k), (3, .int (nI n)), (4, .int 0), (5, .int 0)]) hl [2, 3, 4, 5, 1, 0] rfl) (by rfl))

set_option maxHeartbeats 4000000 in
set_option maxRecDepth 100000 in
theorem cc_spread_kl (l : Launch) (dg : va_G) (cA : Nat → ClassId) (ad : Nat → Nat) (nh ni : Nat) (c : St) (k : Int32) (n : Nat) (hn24 : n ≤ 24) (ms : Int32) (sz : Nat) : MetM l dg cA yX4_spreadMissing cX4_spreadMissing 7 none ({ frames := 1, cells := 0, slots := 0, locals := 23 } : Room) 0 0 (cw cA ad nh ni c) sz [.ref (ad 8), .ref (ad 3), .int k, .int (nI n), .int ms] (cw cA ad nh ni (upr c 8 (fs_w2 (tmem (c 5) (c 2) k) (c 8) ms n).1)) none := by
  refine ofM (by decide) (Nat.le_of_ble_eq_true rfl) (own := RX4) rfl (fun p e s0 m args below meth ccd ls A hAe S hr hlk hname hargs hK hP hD hS hA hsz hl => ?_)
  have hx := S.1
  have hb := S.2.1
  have hl : lv_has ls 7 [(0, .ref (ad 8)), (1, .ref (ad 3)), (2, .int k), (3, .int (nI n)), (4, .int ms)] := hl
  refine lv_iload hx hb dX4_spreadMissing_0 (lv_at hl 4 rfl) ?_
  refine lv_istore (lv' := [(5, .int ms), (0, .ref (ad 8)), (1, .ref (ad 3)), (2, .int k), (3, .int (nI n)), (4, .int ms)]) hx hb dX4_spreadMissing_2 hl (by decide) rfl (fun ls hl => ?_)
  refine lv_iconst (v := 0) hx hb dX4_spreadMissing_4 (by decide) ?_
  refine lv_istore (lv' := [(6, .int 0), (5, .int ms), (0, .ref (ad 8)), (1, .ref (ad 3)), (2, .int k), (3, .int (nI n)), (4, .int ms)]) hx hb dX4_spreadMissing_5 hl (by decide) rfl (fun ls hl => ?_)
  have hL7 : ∀ (f : Nat) (j : Nat), n - j < f → (j ≤ n) → ∀ ls, lv_has ls 7 [(0, .ref (ad 8)), (1, .ref (ad 3)), (2, .int k), (3, .int (nI n)), (4, .int ms), (5, .int ((fs_w2 (tmem (c 5) (c 2) k) (c 8) ms j).2)), (6, .int (nI j))] → ∀ (H : Heap) (locs : List Loc), PP dg (cw cA ad nh ni (upr c 8 (fs_w2 (tmem (c 5) (c 2) k) (c 8) ms j).1)) H → va_D A (cw cA ad nh ni (upr c 8 (fs_w2 (tmem (c 5) (c 2) k) (c 8) ms j).1)) → va_S A s0.heap H locs → W p l e ({ frames := 1, cells := 0, slots := 0, locals := 23 } : Room) s0 m args below meth ccd H locs 0 0 (MQ below (QcM dg (cw cA ad nh ni (upr c 8 (fs_w2 (tmem (c 5) (c 2) k) (c 8) ms n).1)) none A) args s0 0 0 A) (F0 m 7 ls []) := by
    intro f
    induction f with
    | zero => intro j hm; exact absurd hm (Nat.not_lt_zero _)
    | succ f ih7 =>
      intro j hm7 hj ls hl H locs hP hD hS
      refine lv_iload hx hb dX4_spreadMissing_7 (lv_at hl 6 rfl) ?_
      refine lv_iload_n hx hb dX4_spreadMissing_9 rfl (lv_at hl 3 rfl) ?_
      refine lv_icmp_ge (tgt := 49) hx hb dX4_spreadMissing_10 (by decide) (fun b10 => ?_) (fun b10 => ?_)
      · skip
        have g10 : n ≤ j := (nI_leI (a := n) (b := j) (by omega) (by omega)).mp b10
        exact eMv S hr hlk hP hD hS dX4_spreadMissing_49 (by rw [show j = n by omega])
      · skip
        have g10 : ¬ n ≤ j := fun zz => b10 ((nI_leI (a := n) (b := j) (by omega) (by omega)).mpr zz)
        refine lv_iload hx hb dX4_spreadMissing_13 (lv_at hl 5 rfl) ?_
        refine lv_if_le (tgt := 49) hx hb dX4_spreadMissing_15 (by decide) (fun b15 => ?_) (fun b15 => ?_)
        · skip
          exact eMv S hr hlk hP hD hS dX4_spreadMissing_49 (by rw [fs_w2_end (fun z => Int32.not_lt.mpr b15 z) hj])
        · skip
          refine lv_aload_n hx hb dX4_spreadMissing_18 rfl (lv_at hl 0 rfl) ?_
          refine lv_aload_n hx hb dX4_spreadMissing_19 rfl (lv_at hl 1 rfl) ?_
          refine lv_iload_n hx hb dX4_spreadMissing_20 rfl (lv_at hl 2 rfl) ?_
          refine lv_iload hx hb dX4_spreadMissing_21 (lv_at hl 6 rfl) ?_
          refine cR S (cc_inG_kl l dg cA ad nh ni (upr c 8 (fs_w2 (tmem (c 5) (c 2) k) (c 8) ms j).1) k j (by omega)) kX4_69 ⟨rfl, rfl, Nat.le_of_ble_eq_true rfl, Nat.le_of_ble_eq_true rfl⟩ hK hP 8 cl_8 (q := (RX4, TX4, 5)) rfl rfl (As := [.ref (ad 3), .int k, .int (nI j)]) rfl hl.1 (rest := []) rfl (Nat.le_of_ble_eq_true rfl) dX4_spreadMissing_23 ⟨Nat.le_of_ble_eq_true rfl, Nat.le_of_ble_eq_true rfl⟩ (st1 := [.int (b2 (tmem (c 5) (c 2) k j))]) rfl ?_
          refine lv_if_eq (tgt := 43) hx hb dX4_spreadMissing_26 (by decide) (fun b26 => ?_) (fun b26 => ?_)
          · skip
            have c26 := b2_0 b26
            refine lv_iinc (v := nI (j + 1)) (lv' := [(6, .int (nI (j + 1))), (0, .ref (ad 8)), (1, .ref (ad 3)), (2, .int k), (3, .int (nI n)), (4, .int ms), (5, .int ((fs_w2 (tmem (c 5) (c 2) k) (c 8) ms j).2))]) hx hb dX4_spreadMissing_43 hl (k := 6) rfl (nI_1 j) (by decide) rfl (fun ls hl => ?_)
            refine lv_goto (tgt := 7) hx hb dX4_spreadMissing_46 (by decide) ?_
            have es : (cw cA ad nh ni (upr c 8 (fs_w2 (tmem (c 5) (c 2) k) (c 8) ms j).1)) = (cw cA ad nh ni (upr c 8 (fs_w2 (tmem (c 5) (c 2) k) (c 8) ms (j + 1)).1)) := by rw [fs_w2_f c26]
            rw [es] at hP hD
            exact ih7 (j + 1) (by omega) (by omega) ls (lv_cast (lv_sub (l' := [(0, .ref (ad 8)), (1, .ref (ad 3)), (2, .int k), (3, .int (nI n)), (4, .int ms), (5, .int ((fs_w2 (tmem (c 5) (c 2) k) (c 8) ms j).2)), (6, .int (nI (j + 1)))]) hl [1, 2, 3, 4, 5, 6, 0] rfl) (by rw [fs_w2_f c26])) _ _ hP hD hS
          · skip
            have c26 := b2_1 b26
            refine lv_aload_n hx hb dX4_spreadMissing_29 rfl (lv_at hl 0 rfl) ?_
            refine gf S hK hP 8 cl_8 fX4_22 (v := .ref (ad 12)) ct0_3 dX4_spreadMissing_30 ?_
            refine lv_iload hx hb dX4_spreadMissing_33 (lv_at hl 6 rfl) ?_
            refine lv_dup2_11 hx hb dX4_spreadMissing_35 rfl rfl ?_
            refine ild S hK hP 12 cl_12 (j := j) (by omega) (Nat.le_of_ble_eq_true rfl) dX4_spreadMissing_36 ?_
            refine lv_as (y := ((fs_w2 (tmem (c 5) (c 2) k) (c 8) ms j).1) j) rfl ?_
            refine lv_iconst (v := 1) hx hb dX4_spreadMissing_37 (by decide) ?_
            refine lv_iadd hx hb dX4_spreadMissing_38 ?_
            refine ist S hK hP hD hS 12 cl_12 (j := j) (x := (((fs_w2 (tmem (c 5) (c 2) k) (c 8) ms j).1) j) + 1) (by omega) (Nat.le_of_ble_eq_true rfl) cs_12 dX4_spreadMissing_39 (fun H locs hP hD hS => ?_)
            refine lv_iinc (v := ((fs_w2 (tmem (c 5) (c 2) k) (c 8) ms j).2) + (-1)) (lv' := [(5, .int (((fs_w2 (tmem (c 5) (c 2) k) (c 8) ms j).2) + (-1))), (0, .ref (ad 8)), (1, .ref (ad 3)), (2, .int k), (3, .int (nI n)), (4, .int ms), (6, .int (nI j))]) hx hb dX4_spreadMissing_40 hl (k := 5) rfl (by rw [i32_m1]) (by decide) rfl (fun ls hl => ?_)
            refine lv_iinc (v := nI (j + 1)) (lv' := [(6, .int (nI (j + 1))), (5, .int (((fs_w2 (tmem (c 5) (c 2) k) (c 8) ms j).2) + (-1))), (0, .ref (ad 8)), (1, .ref (ad 3)), (2, .int k), (3, .int (nI n)), (4, .int ms)]) hx hb dX4_spreadMissing_43 hl (k := 6) rfl (nI_1 j) (by decide) rfl (fun ls hl => ?_)
            refine lv_goto (tgt := 7) hx hb dX4_spreadMissing_46 (by decide) ?_
            have es : (cw cA ad nh ni (up (upr c 8 (fs_w2 (tmem (c 5) (c 2) k) (c 8) ms j).1) 8 j ((((fs_w2 (tmem (c 5) (c 2) k) (c 8) ms j).1) j) + 1))) = (cw cA ad nh ni (upr c 8 (fs_w2 (tmem (c 5) (c 2) k) (c 8) ms (j + 1)).1)) := by rw [up_upr, fs_w2_t c26 (Int32.not_le.mp b15)]
            rw [es] at hP hD
            exact ih7 (j + 1) (by omega) (by omega) ls (lv_cast (lv_sub (l' := [(0, .ref (ad 8)), (1, .ref (ad 3)), (2, .int k), (3, .int (nI n)), (4, .int ms), (5, .int (((fs_w2 (tmem (c 5) (c 2) k) (c 8) ms j).2) + (-1))), (6, .int (nI (j + 1)))]) hl [2, 3, 4, 5, 6, 1, 0] rfl) (by rw [fs_w2_t c26 (Int32.not_le.mp b15)])) _ _ hP hD hS
  have es : (cw cA ad nh ni c) = (cw cA ad nh ni (upr c 8 (fs_w2 (tmem (c 5) (c 2) k) (c 8) ms 0).1)) := congrArg (cw cA ad nh ni) upr_self.symm
  rw [es] at hP hD
  exact hL7 _ 0 (Nat.lt_succ_self _) (Nat.zero_le _) ls (lv_cast (lv_sub (l' := [(0, .ref (ad 8)), (1, .ref (ad 3)), (2, .int k), (3, .int (nI n)), (4, .int ms), (5, .int ms), (6, .int 0)]) hl [2, 3, 4, 5, 6, 1, 0] rfl) (by rfl)) _ _ hP hD hS

set_option maxHeartbeats 4000000 in
set_option maxRecDepth 100000 in
theorem cc_fitG_kl (l : Launch) (dg : va_G) (cA : Nat → ClassId) (ad : Nat → Nat) (nh ni : Nat) (c : St) (k tg : Int32) (n : Nat) (hn24 : n ≤ 24) (hm : 0 < ct (tmem (c 5) (c 2) k) n) (sz : Nat) : MetM l dg cA yX4_fitGroup cX4_fitGroup 11 none ({ frames := 2, cells := 0, slots := 0, locals := 49 } : Room) 0 0 (cw cA ad nh ni c) sz [.ref (ad 8), .ref (ad 3), .int k, .int tg, .int (nI n), .int (nI (ct (tmem (c 5) (c 2) k) n))] (cw cA ad nh ni (upr c 8 (cs_fit (tmem (c 5) (c 2) k) (c 8) tg n))) none := by
  refine ofM (by decide) (Nat.le_of_ble_eq_true rfl) (own := RX4) rfl (fun p e s0 m args below meth ccd ls A hAe S hr hlk hname hargs hK hP hD hS hA hsz hl => ?_)
  have hx := S.1
  have hb := S.2.1
  have hl : lv_has ls 11 [(0, .ref (ad 8)), (1, .ref (ad 3)), (2, .int k), (3, .int tg), (4, .int (nI n)), (5, .int (nI (ct (tmem (c 5) (c 2) k) n)))] := hl
  have hctl := ct_le (tmem (c 5) (c 2) k) n
  refine lv_aload_n hx hb dX4_fitGroup_0 rfl (lv_at hl 0 rfl) ?_
  refine lv_aload_n hx hb dX4_fitGroup_1 rfl (lv_at hl 1 rfl) ?_
  refine lv_iload_n hx hb dX4_fitGroup_2 rfl (lv_at hl 2 rfl) ?_
  refine lv_iload hx hb dX4_fitGroup_3 (lv_at hl 4 rfl) ?_
  refine cR S (cc_sumG_kl l dg cA ad nh ni c k n hn24) kX4_66 ⟨rfl, rfl, Nat.le_of_ble_eq_true rfl, Nat.le_of_ble_eq_true rfl⟩ hK hP 8 cl_8 (q := (RX4, TX4, 5)) rfl rfl (As := [.ref (ad 3), .int k, .int (nI n)]) rfl hl.1 (rest := []) rfl (Nat.le_of_ble_eq_true rfl) dX4_fitGroup_5 ⟨Nat.le_of_ble_eq_true rfl, Nat.le_of_ble_eq_true rfl⟩ (st1 := [.int (fs_sum (tmem (c 5) (c 2) k) (c 8) n)]) rfl ?_
  refine lv_istore (lv' := [(6, .int (fs_sum (tmem (c 5) (c 2) k) (c 8) n)), (0, .ref (ad 8)), (1, .ref (ad 3)), (2, .int k), (3, .int tg), (4, .int (nI n)), (5, .int (nI (ct (tmem (c 5) (c 2) k) n)))]) hx hb dX4_fitGroup_8 hl (by decide) rfl (fun ls hl => ?_)
  refine lv_iload hx hb dX4_fitGroup_10 (lv_at hl 0 rfl) ?_
  refine lv_if_gt (tgt := 19) hx hb dX4_fitGroup_12 (by decide) (fun b12 => ?_) (fun b12 => ?_)
  · skip
    refine lv_iconst (v := 0) hx hb dX4_fitGroup_19 (by decide) ?_
    refine lv_istore (lv' := [(7, .int 0), (6, .int (fs_sum (tmem (c 5) (c 2) k) (c 8) n)), (0, .ref (ad 8)), (1, .ref (ad 3)), (2, .int k), (3, .int tg), (4, .int (nI n)), (5, .int (nI (ct (tmem (c 5) (c 2) k) n)))]) hx hb dX4_fitGroup_20 hl (by decide) rfl (fun ls hl => ?_)
    refine lv_iload hx hb dX4_fitGroup_22 (lv_at hl 0 rfl) ?_
    refine lv_if_eq (tgt := 32) hx hb dX4_fitGroup_24 (by decide) (fun b24 => ?_) (fun b24 => ?_)
    · skip
      refine lv_iload hx hb dX4_fitGroup_32 (lv_at hl 1 rfl) ?_
      refine lv_istore (lv' := [(8, .int (fs_sum (tmem (c 5) (c 2) k) (c 8) n)), (7, .int 0), (6, .int (fs_sum (tmem (c 5) (c 2) k) (c 8) n)), (0, .ref (ad 8)), (1, .ref (ad 3)), (2, .int k), (3, .int tg), (4, .int (nI n)), (5, .int (nI (ct (tmem (c 5) (c 2) k) n)))]) hx hb dX4_fitGroup_34 hl (by decide) rfl (fun ls hl => ?_)
      refine lv_iload hx hb dX4_fitGroup_36 (lv_at hl 0 rfl) ?_
      refine lv_if_gt (tgt := 42) hx hb dX4_fitGroup_38 (by decide) (fun b38 => ?_) (fun b38 => ?_)
      · skip
        refine lv_iload_n hx hb dX4_fitGroup_42 rfl (lv_at hl 6 rfl) ?_
        refine lv_istore (lv' := [(9, .int tg), (8, .int (fs_sum (tmem (c 5) (c 2) k) (c 8) n)), (7, .int 0), (6, .int (fs_sum (tmem (c 5) (c 2) k) (c 8) n)), (0, .ref (ad 8)), (1, .ref (ad 3)), (2, .int k), (3, .int tg), (4, .int (nI n)), (5, .int (nI (ct (tmem (c 5) (c 2) k) n)))]) hx hb dX4_fitGroup_43 hl (by decide) rfl (fun ls hl => ?_)
        refine lv_iconst (v := 0) hx hb dX4_fitGroup_45 (by decide) ?_
        refine lv_istore (lv' := [(10, .int 0), (9, .int tg), (8, .int (fs_sum (tmem (c 5) (c 2) k) (c 8) n)), (7, .int 0), (6, .int (fs_sum (tmem (c 5) (c 2) k) (c 8) n)), (0, .ref (ad 8)), (1, .ref (ad 3)), (2, .int k), (3, .int tg), (4, .int (nI n)), (5, .int (nI (ct (tmem (c 5) (c 2) k) n)))]) hx hb dX4_fitGroup_46 hl (by decide) rfl (fun ls hl => ?_)
        have hL48 : ∀ (f : Nat) (j : Nat), n - j < f → (j ≤ n) → ∀ ls, lv_has ls 11 [(0, .ref (ad 8)), (1, .ref (ad 3)), (2, .int k), (3, .int tg), (4, .int (nI n)), (5, .int (nI (ct (tmem (c 5) (c 2) k) n))), (6, .int (fs_sum (tmem (c 5) (c 2) k) (c 8) n)), (7, .int 0), (8, .int (fs_sum (tmem (c 5) (c 2) k) (c 8) n)), (9, .int (fs_ms (tmem (c 5) (c 2) k) (c 8) (cs_nw (fs_sum (tmem (c 5) (c 2) k) (c 8) n) tg (ct (tmem (c 5) (c 2) k) n)) tg j)), (10, .int (nI j))] → ∀ (H : Heap) (locs : List Loc), PP dg (cw cA ad nh ni (upr c 8 (fs_w1 (tmem (c 5) (c 2) k) (c 8) (cs_nw (fs_sum (tmem (c 5) (c 2) k) (c 8) n) tg (ct (tmem (c 5) (c 2) k) n)) j))) H → va_D A (cw cA ad nh ni (upr c 8 (fs_w1 (tmem (c 5) (c 2) k) (c 8) (cs_nw (fs_sum (tmem (c 5) (c 2) k) (c 8) n) tg (ct (tmem (c 5) (c 2) k) n)) j))) → va_S A s0.heap H locs → W p l e ({ frames := 2, cells := 0, slots := 0, locals := 49 } : Room) s0 m args below meth ccd H locs 0 0 (MQ below (QcM dg (cw cA ad nh ni (upr c 8 (cs_fit (tmem (c 5) (c 2) k) (c 8) tg n))) none A) args s0 0 0 A) (F0 m 48 ls []) := by
          intro f
          induction f with
          | zero => intro j hm; exact absurd hm (Nat.not_lt_zero _)
          | succ f ih48 =>
            intro j hm48 hj ls hl H locs hP hD hS
            refine lv_iload hx hb dX4_fitGroup_48 (lv_at hl 10 rfl) ?_
            refine lv_iload hx hb dX4_fitGroup_50 (lv_at hl 4 rfl) ?_
            refine lv_icmp_ge (tgt := 112) hx hb dX4_fitGroup_52 (by decide) (fun b52 => ?_) (fun b52 => ?_)
            · skip
              have g52 : n ≤ j := (nI_leI (a := n) (b := j) (by omega) (by omega)).mp b52
              have ej : j = n := by omega
              rw [ej] at hl hP hD
              refine lv_aload_n hx hb dX4_fitGroup_112 rfl (lv_at hl 0 rfl) ?_
              refine lv_aload_n hx hb dX4_fitGroup_113 rfl (lv_at hl 1 rfl) ?_
              refine lv_iload_n hx hb dX4_fitGroup_114 rfl (lv_at hl 2 rfl) ?_
              refine lv_iload hx hb dX4_fitGroup_115 (lv_at hl 4 rfl) ?_
              refine lv_iload hx hb dX4_fitGroup_117 (lv_at hl 9 rfl) ?_
              refine cM S (cc_spread_kl l dg cA ad nh ni (upr c 8 (fs_w1 (tmem (c 5) (c 2) k) (c 8) (cs_nw (fs_sum (tmem (c 5) (c 2) k) (c 8) n) tg (ct (tmem (c 5) (c 2) k) n)) n)) k n hn24 (fs_ms (tmem (c 5) (c 2) k) (c 8) (cs_nw (fs_sum (tmem (c 5) (c 2) k) (c 8) n) tg (ct (tmem (c 5) (c 2) k) n)) tg n) _) kX4_73 ⟨rfl, rfl, Nat.le_of_ble_eq_true rfl, Nat.le_of_ble_eq_true rfl⟩ hK hP hD hS hA 8 cl_8 (q := (RX4, TX4, 5)) rfl rfl (As := [.ref (ad 3), .int k, .int (nI n), .int (fs_ms (tmem (c 5) (c 2) k) (c 8) (cs_nw (fs_sum (tmem (c 5) (c 2) k) (c 8) n) tg (ct (tmem (c 5) (c 2) k) n)) tg n)]) rfl hl.1 (rest := []) rfl (Nat.le_of_ble_eq_true rfl) dX4_fitGroup_119 ⟨Nat.le_of_ble_eq_true rfl, Nat.le_of_ble_eq_true rfl⟩ (st1 := []) rfl (fun H locs hP hD hS => ?_)
              exact eMv S hr hlk hP hD hS dX4_fitGroup_122 (by rw [upr_upr]; rfl)
            · skip
              have g52 : ¬ n ≤ j := fun zz => b52 ((nI_leI (a := n) (b := j) (by omega) (by omega)).mpr zz)
              refine lv_aload_n hx hb dX4_fitGroup_55 rfl (lv_at hl 0 rfl) ?_
              refine lv_aload_n hx hb dX4_fitGroup_56 rfl (lv_at hl 1 rfl) ?_
              refine lv_iload_n hx hb dX4_fitGroup_57 rfl (lv_at hl 2 rfl) ?_
              refine lv_iload hx hb dX4_fitGroup_58 (lv_at hl 10 rfl) ?_
              refine cR S (cc_inG_kl l dg cA ad nh ni (upr c 8 (fs_w1 (tmem (c 5) (c 2) k) (c 8) (cs_nw (fs_sum (tmem (c 5) (c 2) k) (c 8) n) tg (ct (tmem (c 5) (c 2) k) n)) j)) k j (by omega)) kX4_69 ⟨rfl, rfl, Nat.le_of_ble_eq_true rfl, Nat.le_of_ble_eq_true rfl⟩ hK hP 8 cl_8 (q := (RX4, TX4, 5)) rfl rfl (As := [.ref (ad 3), .int k, .int (nI j)]) rfl hl.1 (rest := []) rfl (Nat.le_of_ble_eq_true rfl) dX4_fitGroup_60 ⟨Nat.le_of_ble_eq_true rfl, Nat.le_of_ble_eq_true rfl⟩ (st1 := [.int (b2 (tmem (c 5) (c 2) k j))]) rfl ?_
              refine lv_if_eq (tgt := 106) hx hb dX4_fitGroup_63 (by decide) (fun b63 => ?_) (fun b63 => ?_)
              · skip
                have c63 := b2_0 b63
                refine lv_iinc (v := nI (j + 1)) (lv' := [(10, .int (nI (j + 1))), (0, .ref (ad 8)), (1, .ref (ad 3)), (2, .int k), (3, .int tg), (4, .int (nI n)), (5, .int (nI (ct (tmem (c 5) (c 2) k) n))), (6, .int (fs_sum (tmem (c 5) (c 2) k) (c 8) n)), (7, .int 0), (8, .int (fs_sum (tmem (c 5) (c 2) k) (c 8) n)), (9, .int (fs_ms (tmem (c 5) (c 2) k) (c 8) (cs_nw (fs_sum (tmem (c 5) (c 2) k) (c 8) n) tg (ct (tmem (c 5) (c 2) k) n)) tg j))]) hx hb dX4_fitGroup_106 hl (k := 10) rfl (nI_1 j) (by decide) rfl (fun ls hl => ?_)
                refine lv_goto (tgt := 48) hx hb dX4_fitGroup_109 (by decide) ?_
                have es : (cw cA ad nh ni (upr c 8 (fs_w1 (tmem (c 5) (c 2) k) (c 8) (cs_nw (fs_sum (tmem (c 5) (c 2) k) (c 8) n) tg (ct (tmem (c 5) (c 2) k) n)) j))) = (cw cA ad nh ni (upr c 8 (fs_w1 (tmem (c 5) (c 2) k) (c 8) (cs_nw (fs_sum (tmem (c 5) (c 2) k) (c 8) n) tg (ct (tmem (c 5) (c 2) k) n)) (j + 1)))) := by rw [fs_w1_f c63]
                rw [es] at hP hD
                exact ih48 (j + 1) (by omega) (by omega) ls (lv_cast (lv_sub (l' := [(0, .ref (ad 8)), (1, .ref (ad 3)), (2, .int k), (3, .int tg), (4, .int (nI n)), (5, .int (nI (ct (tmem (c 5) (c 2) k) n))), (6, .int (fs_sum (tmem (c 5) (c 2) k) (c 8) n)), (7, .int 0), (8, .int (fs_sum (tmem (c 5) (c 2) k) (c 8) n)), (9, .int (fs_ms (tmem (c 5) (c 2) k) (c 8) (cs_nw (fs_sum (tmem (c 5) (c 2) k) (c 8) n) tg (ct (tmem (c 5) (c 2) k) n)) tg j)), (10, .int (nI (j + 1)))]) hl [1, 2, 3, 4, 5, 6, 7, 8, 9, 10, 0] rfl) (by rw [fs_ms_f c63])) _ _ hP hD hS
              · skip
                have c63 := b2_1 b63
                refine lv_aload_n hx hb dX4_fitGroup_66 rfl (lv_at hl 0 rfl) ?_
                refine gf S hK hP 8 cl_8 fX4_22 (v := .ref (ad 12)) ct0_3 dX4_fitGroup_67 ?_
                refine lv_iload hx hb dX4_fitGroup_70 (lv_at hl 10 rfl) ?_
                refine lv_iload hx hb dX4_fitGroup_72 (lv_at hl 7 rfl) ?_
                refine lv_if_eq (tgt := 81) hx hb dX4_fitGroup_74 (by decide) (fun b74 => ?_) (fun b74 => ?_)
                · skip
                  refine lv_aload_n hx hb dX4_fitGroup_81 rfl (lv_at hl 0 rfl) ?_
                  refine gf S hK hP 8 cl_8 fX4_22 (v := .ref (ad 12)) ct0_3 dX4_fitGroup_82 ?_
                  refine lv_iload hx hb dX4_fitGroup_85 (lv_at hl 10 rfl) ?_
                  refine ild S hK hP 12 cl_12 (j := j) (by omega) (Nat.le_of_ble_eq_true rfl) dX4_fitGroup_87 ?_
                  refine lv_as (y := c 8 j) (show upr c 8 (fs_w1 (tmem (c 5) (c 2) k) (c 8) (cs_nw (fs_sum (tmem (c 5) (c 2) k) (c 8) n) tg (ct (tmem (c 5) (c 2) k) n)) j) 8 j = c 8 j from fs_w1_ge (Nat.le_refl _)) ?_
                  refine lv_iload_n hx hb dX4_fitGroup_88 rfl (lv_at hl 3 rfl) ?_
                  refine lv_imul hx hb dX4_fitGroup_89 ?_
                  refine lv_iload hx hb dX4_fitGroup_90 (lv_at hl 8 rfl) ?_
                  refine lv_idiv hx hb dX4_fitGroup_92 (fun z => absurd b12 (by rw [z]; decide)) ?_
                  refine ist S hK hP hD hS 12 cl_12 (j := j) (x := ((c 8 j) * tg) / (fs_sum (tmem (c 5) (c 2) k) (c 8) n)) (by omega) (Nat.le_of_ble_eq_true rfl) cs_12 dX4_fitGroup_93 (fun H locs hP hD hS => ?_)
                  refine lv_iload hx hb dX4_fitGroup_94 (lv_at hl 9 rfl) ?_
                  refine lv_aload_n hx hb dX4_fitGroup_96 rfl (lv_at hl 0 rfl) ?_
                  refine gf S hK hP 8 cl_8 fX4_22 (v := .ref (ad 12)) ct0_3 dX4_fitGroup_97 ?_
                  refine lv_iload hx hb dX4_fitGroup_100 (lv_at hl 10 rfl) ?_
                  refine ild S hK hP 12 cl_12 (j := j) (by omega) (Nat.le_of_ble_eq_true rfl) dX4_fitGroup_102 ?_
                  refine lv_as (y := ((c 8 j) * tg) / (fs_sum (tmem (c 5) (c 2) k) (c 8) n)) up_at ?_
                  refine lv_isub hx hb dX4_fitGroup_103 ?_
                  refine lv_istore (lv' := [(9, .int ((fs_ms (tmem (c 5) (c 2) k) (c 8) (cs_nw (fs_sum (tmem (c 5) (c 2) k) (c 8) n) tg (ct (tmem (c 5) (c 2) k) n)) tg j) - (((c 8 j) * tg) / (fs_sum (tmem (c 5) (c 2) k) (c 8) n)))), (0, .ref (ad 8)), (1, .ref (ad 3)), (2, .int k), (3, .int tg), (4, .int (nI n)), (5, .int (nI (ct (tmem (c 5) (c 2) k) n))), (6, .int (fs_sum (tmem (c 5) (c 2) k) (c 8) n)), (7, .int 0), (8, .int (fs_sum (tmem (c 5) (c 2) k) (c 8) n)), (10, .int (nI j))]) hx hb dX4_fitGroup_104 hl (by decide) rfl (fun ls hl => ?_)
                  refine lv_iinc (v := nI (j + 1)) (lv' := [(10, .int (nI (j + 1))), (9, .int ((fs_ms (tmem (c 5) (c 2) k) (c 8) (cs_nw (fs_sum (tmem (c 5) (c 2) k) (c 8) n) tg (ct (tmem (c 5) (c 2) k) n)) tg j) - (((c 8 j) * tg) / (fs_sum (tmem (c 5) (c 2) k) (c 8) n)))), (0, .ref (ad 8)), (1, .ref (ad 3)), (2, .int k), (3, .int tg), (4, .int (nI n)), (5, .int (nI (ct (tmem (c 5) (c 2) k) n))), (6, .int (fs_sum (tmem (c 5) (c 2) k) (c 8) n)), (7, .int 0), (8, .int (fs_sum (tmem (c 5) (c 2) k) (c 8) n))]) hx hb dX4_fitGroup_106 hl (k := 10) rfl (nI_1 j) (by decide) rfl (fun ls hl => ?_)
                  refine lv_goto (tgt := 48) hx hb dX4_fitGroup_109 (by decide) ?_
                  have es : (cw cA ad nh ni (up (upr c 8 (fs_w1 (tmem (c 5) (c 2) k) (c 8) (cs_nw (fs_sum (tmem (c 5) (c 2) k) (c 8) n) tg (ct (tmem (c 5) (c 2) k) n)) j)) 8 j (((c 8 j) * tg) / (fs_sum (tmem (c 5) (c 2) k) (c 8) n)))) = (cw cA ad nh ni (upr c 8 (fs_w1 (tmem (c 5) (c 2) k) (c 8) (cs_nw (fs_sum (tmem (c 5) (c 2) k) (c 8) n) tg (ct (tmem (c 5) (c 2) k) n)) (j + 1)))) := by rw [up_upr, fs_w1_t c63, (show (cs_nw (fs_sum (tmem (c 5) (c 2) k) (c 8) n) tg (ct (tmem (c 5) (c 2) k) n)) (c 8 j) = _ by unfold cs_nw; rw [if_pos b12])]
                  rw [es] at hP hD
                  exact ih48 (j + 1) (by omega) (by omega) ls (lv_cast (lv_sub (l' := [(0, .ref (ad 8)), (1, .ref (ad 3)), (2, .int k), (3, .int tg), (4, .int (nI n)), (5, .int (nI (ct (tmem (c 5) (c 2) k) n))), (6, .int (fs_sum (tmem (c 5) (c 2) k) (c 8) n)), (7, .int 0), (8, .int (fs_sum (tmem (c 5) (c 2) k) (c 8) n)), (9, .int ((fs_ms (tmem (c 5) (c 2) k) (c 8) (cs_nw (fs_sum (tmem (c 5) (c 2) k) (c 8) n) tg (ct (tmem (c 5) (c 2) k) n)) tg j) - (((c 8 j) * tg) / (fs_sum (tmem (c 5) (c 2) k) (c 8) n)))), (10, .int (nI (j + 1)))]) hl [2, 3, 4, 5, 6, 7, 8, 9, 10, 1, 0] rfl) (by rw [fs_ms_t c63, (show (cs_nw (fs_sum (tmem (c 5) (c 2) k) (c 8) n) tg (ct (tmem (c 5) (c 2) k) n)) (c 8 j) = _ by unfold cs_nw; rw [if_pos b12])])) _ _ hP hD hS
                · skip
                  exact absurd b24 b74
        have es : (cw cA ad nh ni c) = (cw cA ad nh ni (upr c 8 (fs_w1 (tmem (c 5) (c 2) k) (c 8) (cs_nw (fs_sum (tmem (c 5) (c 2) k) (c 8) n) tg (ct (tmem (c 5) (c 2) k) n)) 0))) := congrArg (cw cA ad nh ni) upr_self.symm
        rw [es] at hP hD
        exact hL48 _ 0 (Nat.lt_succ_self _) (Nat.zero_le _) ls (lv_cast (lv_sub (l' := [(0, .ref (ad 8)), (1, .ref (ad 3)), (2, .int k), (3, .int tg), (4, .int (nI n)), (5, .int (nI (ct (tmem (c 5) (c 2) k) n))), (6, .int (fs_sum (tmem (c 5) (c 2) k) (c 8) n)), (7, .int 0), (8, .int (fs_sum (tmem (c 5) (c 2) k) (c 8) n)), (9, .int tg), (10, .int 0)]) hl [5, 6, 7, 8, 9, 10, 4, 3, 2, 1, 0] rfl) (by rfl)) _ _ hP hD hS
      · skip
        exact absurd b12 b38
    · skip
      exact False.elim (by revert b24; decide)
  · skip
    refine lv_iconst (v := 1) hx hb dX4_fitGroup_15 (by decide) ?_
    refine lv_goto (tgt := 20) hx hb dX4_fitGroup_16 (by decide) ?_
    refine lv_istore (lv' := [(7, .int 1), (6, .int (fs_sum (tmem (c 5) (c 2) k) (c 8) n)), (0, .ref (ad 8)), (1, .ref (ad 3)), (2, .int k), (3, .int tg), (4, .int (nI n)), (5, .int (nI (ct (tmem (c 5) (c 2) k) n)))]) hx hb dX4_fitGroup_20 hl (by decide) rfl (fun ls hl => ?_)
    refine lv_iload hx hb dX4_fitGroup_22 (lv_at hl 0 rfl) ?_
    refine lv_if_eq (tgt := 32) hx hb dX4_fitGroup_24 (by decide) (fun b24 => ?_) (fun b24 => ?_)
    · skip
      exact False.elim (by revert b24; decide)
    · skip
      refine lv_iload hx hb dX4_fitGroup_27 (lv_at hl 7 rfl) ?_
      refine lv_goto (tgt := 34) hx hb dX4_fitGroup_29 (by decide) ?_
      refine lv_istore (lv' := [(8, .int (nI (ct (tmem (c 5) (c 2) k) n))), (7, .int 1), (6, .int (fs_sum (tmem (c 5) (c 2) k) (c 8) n)), (0, .ref (ad 8)), (1, .ref (ad 3)), (2, .int k), (3, .int tg), (4, .int (nI n)), (5, .int (nI (ct (tmem (c 5) (c 2) k) n)))]) hx hb dX4_fitGroup_34 hl (by decide) rfl (fun ls hl => ?_)
      refine lv_iload hx hb dX4_fitGroup_36 (lv_at hl 0 rfl) ?_
      refine lv_if_gt (tgt := 42) hx hb dX4_fitGroup_38 (by decide) (fun b38 => ?_) (fun b38 => ?_)
      · skip
        have g38 : 0 < ct (tmem (c 5) (c 2) k) n := (nI_ltI (a := 0) (b := ct (tmem (c 5) (c 2) k) n) (by omega) (by omega)).mp b38
        refine lv_iload_n hx hb dX4_fitGroup_42 rfl (lv_at hl 6 rfl) ?_
        refine lv_istore (lv' := [(9, .int tg), (8, .int (nI (ct (tmem (c 5) (c 2) k) n))), (7, .int 1), (6, .int (fs_sum (tmem (c 5) (c 2) k) (c 8) n)), (0, .ref (ad 8)), (1, .ref (ad 3)), (2, .int k), (3, .int tg), (4, .int (nI n)), (5, .int (nI (ct (tmem (c 5) (c 2) k) n)))]) hx hb dX4_fitGroup_43 hl (by decide) rfl (fun ls hl => ?_)
        refine lv_iconst (v := 0) hx hb dX4_fitGroup_45 (by decide) ?_
        refine lv_istore (lv' := [(10, .int 0), (9, .int tg), (8, .int (nI (ct (tmem (c 5) (c 2) k) n))), (7, .int 1), (6, .int (fs_sum (tmem (c 5) (c 2) k) (c 8) n)), (0, .ref (ad 8)), (1, .ref (ad 3)), (2, .int k), (3, .int tg), (4, .int (nI n)), (5, .int (nI (ct (tmem (c 5) (c 2) k) n)))]) hx hb dX4_fitGroup_46 hl (by decide) rfl (fun ls hl => ?_)
        have hL48 : ∀ (f : Nat) (j : Nat), n - j < f → (j ≤ n) → ∀ ls, lv_has ls 11 [(0, .ref (ad 8)), (1, .ref (ad 3)), (2, .int k), (3, .int tg), (4, .int (nI n)), (5, .int (nI (ct (tmem (c 5) (c 2) k) n))), (6, .int (fs_sum (tmem (c 5) (c 2) k) (c 8) n)), (7, .int 1), (8, .int (nI (ct (tmem (c 5) (c 2) k) n))), (9, .int (fs_ms (tmem (c 5) (c 2) k) (c 8) (cs_nw (fs_sum (tmem (c 5) (c 2) k) (c 8) n) tg (ct (tmem (c 5) (c 2) k) n)) tg j)), (10, .int (nI j))] → ∀ (H : Heap) (locs : List Loc), PP dg (cw cA ad nh ni (upr c 8 (fs_w1 (tmem (c 5) (c 2) k) (c 8) (cs_nw (fs_sum (tmem (c 5) (c 2) k) (c 8) n) tg (ct (tmem (c 5) (c 2) k) n)) j))) H → va_D A (cw cA ad nh ni (upr c 8 (fs_w1 (tmem (c 5) (c 2) k) (c 8) (cs_nw (fs_sum (tmem (c 5) (c 2) k) (c 8) n) tg (ct (tmem (c 5) (c 2) k) n)) j))) → va_S A s0.heap H locs → W p l e ({ frames := 2, cells := 0, slots := 0, locals := 49 } : Room) s0 m args below meth ccd H locs 0 0 (MQ below (QcM dg (cw cA ad nh ni (upr c 8 (cs_fit (tmem (c 5) (c 2) k) (c 8) tg n))) none A) args s0 0 0 A) (F0 m 48 ls []) := by
          intro f
          induction f with
          | zero => intro j hm; exact absurd hm (Nat.not_lt_zero _)
          | succ f ih48 =>
            intro j hm48 hj ls hl H locs hP hD hS
            refine lv_iload hx hb dX4_fitGroup_48 (lv_at hl 10 rfl) ?_
            refine lv_iload hx hb dX4_fitGroup_50 (lv_at hl 4 rfl) ?_
            refine lv_icmp_ge (tgt := 112) hx hb dX4_fitGroup_52 (by decide) (fun b52 => ?_) (fun b52 => ?_)
            · skip
              have g52 : n ≤ j := (nI_leI (a := n) (b := j) (by omega) (by omega)).mp b52
              have ej : j = n := by omega
              rw [ej] at hl hP hD
              refine lv_aload_n hx hb dX4_fitGroup_112 rfl (lv_at hl 0 rfl) ?_
              refine lv_aload_n hx hb dX4_fitGroup_113 rfl (lv_at hl 1 rfl) ?_
              refine lv_iload_n hx hb dX4_fitGroup_114 rfl (lv_at hl 2 rfl) ?_
              refine lv_iload hx hb dX4_fitGroup_115 (lv_at hl 4 rfl) ?_
              refine lv_iload hx hb dX4_fitGroup_117 (lv_at hl 9 rfl) ?_
              refine cM S (cc_spread_kl l dg cA ad nh ni (upr c 8 (fs_w1 (tmem (c 5) (c 2) k) (c 8) (cs_nw (fs_sum (tmem (c 5) (c 2) k) (c 8) n) tg (ct (tmem (c 5) (c 2) k) n)) n)) k n hn24 (fs_ms (tmem (c 5) (c 2) k) (c 8) (cs_nw (fs_sum (tmem (c 5) (c 2) k) (c 8) n) tg (ct (tmem (c 5) (c 2) k) n)) tg n) _) kX4_73 ⟨rfl, rfl, Nat.le_of_ble_eq_true rfl, Nat.le_of_ble_eq_true rfl⟩ hK hP hD hS hA 8 cl_8 (q := (RX4, TX4, 5)) rfl rfl (As := [.ref (ad 3), .int k, .int (nI n), .int (fs_ms (tmem (c 5) (c 2) k) (c 8) (cs_nw (fs_sum (tmem (c 5) (c 2) k) (c 8) n) tg (ct (tmem (c 5) (c 2) k) n)) tg n)]) rfl hl.1 (rest := []) rfl (Nat.le_of_ble_eq_true rfl) dX4_fitGroup_119 ⟨Nat.le_of_ble_eq_true rfl, Nat.le_of_ble_eq_true rfl⟩ (st1 := []) rfl (fun H locs hP hD hS => ?_)
              exact eMv S hr hlk hP hD hS dX4_fitGroup_122 (by rw [upr_upr]; rfl)
            · skip
              have g52 : ¬ n ≤ j := fun zz => b52 ((nI_leI (a := n) (b := j) (by omega) (by omega)).mpr zz)
              refine lv_aload_n hx hb dX4_fitGroup_55 rfl (lv_at hl 0 rfl) ?_
              refine lv_aload_n hx hb dX4_fitGroup_56 rfl (lv_at hl 1 rfl) ?_
              refine lv_iload_n hx hb dX4_fitGroup_57 rfl (lv_at hl 2 rfl) ?_
              refine lv_iload hx hb dX4_fitGroup_58 (lv_at hl 10 rfl) ?_
              refine cR S (cc_inG_kl l dg cA ad nh ni (upr c 8 (fs_w1 (tmem (c 5) (c 2) k) (c 8) (cs_nw (fs_sum (tmem (c 5) (c 2) k) (c 8) n) tg (ct (tmem (c 5) (c 2) k) n)) j)) k j (by omega)) kX4_69 ⟨rfl, rfl, Nat.le_of_ble_eq_true rfl, Nat.le_of_ble_eq_true rfl⟩ hK hP 8 cl_8 (q := (RX4, TX4, 5)) rfl rfl (As := [.ref (ad 3), .int k, .int (nI j)]) rfl hl.1 (rest := []) rfl (Nat.le_of_ble_eq_true rfl) dX4_fitGroup_60 ⟨Nat.le_of_ble_eq_true rfl, Nat.le_of_ble_eq_true rfl⟩ (st1 := [.int (b2 (tmem (c 5) (c 2) k j))]) rfl ?_
              refine lv_if_eq (tgt := 106) hx hb dX4_fitGroup_63 (by decide) (fun b63 => ?_) (fun b63 => ?_)
              · skip
                have c63 := b2_0 b63
                refine lv_iinc (v := nI (j + 1)) (lv' := [(10, .int (nI (j + 1))), (0, .ref (ad 8)), (1, .ref (ad 3)), (2, .int k), (3, .int tg), (4, .int (nI n)), (5, .int (nI (ct (tmem (c 5) (c 2) k) n))), (6, .int (fs_sum (tmem (c 5) (c 2) k) (c 8) n)), (7, .int 1), (8, .int (nI (ct (tmem (c 5) (c 2) k) n))), (9, .int (fs_ms (tmem (c 5) (c 2) k) (c 8) (cs_nw (fs_sum (tmem (c 5) (c 2) k) (c 8) n) tg (ct (tmem (c 5) (c 2) k) n)) tg j))]) hx hb dX4_fitGroup_106 hl (k := 10) rfl (nI_1 j) (by decide) rfl (fun ls hl => ?_)
                refine lv_goto (tgt := 48) hx hb dX4_fitGroup_109 (by decide) ?_
                have es : (cw cA ad nh ni (upr c 8 (fs_w1 (tmem (c 5) (c 2) k) (c 8) (cs_nw (fs_sum (tmem (c 5) (c 2) k) (c 8) n) tg (ct (tmem (c 5) (c 2) k) n)) j))) = (cw cA ad nh ni (upr c 8 (fs_w1 (tmem (c 5) (c 2) k) (c 8) (cs_nw (fs_sum (tmem (c 5) (c 2) k) (c 8) n) tg (ct (tmem (c 5) (c 2) k) n)) (j + 1)))) := by rw [fs_w1_f c63]
                rw [es] at hP hD
                exact ih48 (j + 1) (by omega) (by omega) ls (lv_cast (lv_sub (l' := [(0, .ref (ad 8)), (1, .ref (ad 3)), (2, .int k), (3, .int tg), (4, .int (nI n)), (5, .int (nI (ct (tmem (c 5) (c 2) k) n))), (6, .int (fs_sum (tmem (c 5) (c 2) k) (c 8) n)), (7, .int 1), (8, .int (nI (ct (tmem (c 5) (c 2) k) n))), (9, .int (fs_ms (tmem (c 5) (c 2) k) (c 8) (cs_nw (fs_sum (tmem (c 5) (c 2) k) (c 8) n) tg (ct (tmem (c 5) (c 2) k) n)) tg j)), (10, .int (nI (j + 1)))]) hl [1, 2, 3, 4, 5, 6, 7, 8, 9, 10, 0] rfl) (by rw [fs_ms_f c63])) _ _ hP hD hS
              · skip
                have c63 := b2_1 b63
                refine lv_aload_n hx hb dX4_fitGroup_66 rfl (lv_at hl 0 rfl) ?_
                refine gf S hK hP 8 cl_8 fX4_22 (v := .ref (ad 12)) ct0_3 dX4_fitGroup_67 ?_
                refine lv_iload hx hb dX4_fitGroup_70 (lv_at hl 10 rfl) ?_
                refine lv_iload hx hb dX4_fitGroup_72 (lv_at hl 7 rfl) ?_
                refine lv_if_eq (tgt := 81) hx hb dX4_fitGroup_74 (by decide) (fun b74 => ?_) (fun b74 => ?_)
                · skip
                  exact absurd b74 b24
                · skip
                  refine lv_iconst (v := 1) hx hb dX4_fitGroup_77 (by decide) ?_
                  refine lv_goto (tgt := 88) hx hb dX4_fitGroup_78 (by decide) ?_
                  refine lv_iload_n hx hb dX4_fitGroup_88 rfl (lv_at hl 3 rfl) ?_
                  refine lv_imul hx hb dX4_fitGroup_89 ?_
                  refine lv_iload hx hb dX4_fitGroup_90 (lv_at hl 8 rfl) ?_
                  refine lv_idiv hx hb dX4_fitGroup_92 (nI_ne0 hm (by omega)) ?_
                  refine ist S hK hP hD hS 12 cl_12 (j := j) (x := (1 * tg) / (nI (ct (tmem (c 5) (c 2) k) n))) (by omega) (Nat.le_of_ble_eq_true rfl) cs_12 dX4_fitGroup_93 (fun H locs hP hD hS => ?_)
                  refine lv_iload hx hb dX4_fitGroup_94 (lv_at hl 9 rfl) ?_
                  refine lv_aload_n hx hb dX4_fitGroup_96 rfl (lv_at hl 0 rfl) ?_
                  refine gf S hK hP 8 cl_8 fX4_22 (v := .ref (ad 12)) ct0_3 dX4_fitGroup_97 ?_
                  refine lv_iload hx hb dX4_fitGroup_100 (lv_at hl 10 rfl) ?_
                  refine ild S hK hP 12 cl_12 (j := j) (by omega) (Nat.le_of_ble_eq_true rfl) dX4_fitGroup_102 ?_
                  refine lv_as (y := (1 * tg) / (nI (ct (tmem (c 5) (c 2) k) n))) up_at ?_
                  refine lv_isub hx hb dX4_fitGroup_103 ?_
                  refine lv_istore (lv' := [(9, .int ((fs_ms (tmem (c 5) (c 2) k) (c 8) (cs_nw (fs_sum (tmem (c 5) (c 2) k) (c 8) n) tg (ct (tmem (c 5) (c 2) k) n)) tg j) - ((1 * tg) / (nI (ct (tmem (c 5) (c 2) k) n))))), (0, .ref (ad 8)), (1, .ref (ad 3)), (2, .int k), (3, .int tg), (4, .int (nI n)), (5, .int (nI (ct (tmem (c 5) (c 2) k) n))), (6, .int (fs_sum (tmem (c 5) (c 2) k) (c 8) n)), (7, .int 1), (8, .int (nI (ct (tmem (c 5) (c 2) k) n))), (10, .int (nI j))]) hx hb dX4_fitGroup_104 hl (by decide) rfl (fun ls hl => ?_)
                  refine lv_iinc (v := nI (j + 1)) (lv' := [(10, .int (nI (j + 1))), (9, .int ((fs_ms (tmem (c 5) (c 2) k) (c 8) (cs_nw (fs_sum (tmem (c 5) (c 2) k) (c 8) n) tg (ct (tmem (c 5) (c 2) k) n)) tg j) - ((1 * tg) / (nI (ct (tmem (c 5) (c 2) k) n))))), (0, .ref (ad 8)), (1, .ref (ad 3)), (2, .int k), (3, .int tg), (4, .int (nI n)), (5, .int (nI (ct (tmem (c 5) (c 2) k) n))), (6, .int (fs_sum (tmem (c 5) (c 2) k) (c 8) n)), (7, .int 1), (8, .int (nI (ct (tmem (c 5) (c 2) k) n)))]) hx hb dX4_fitGroup_106 hl (k := 10) rfl (nI_1 j) (by decide) rfl (fun ls hl => ?_)
                  refine lv_goto (tgt := 48) hx hb dX4_fitGroup_109 (by decide) ?_
                  have es : (cw cA ad nh ni (up (upr c 8 (fs_w1 (tmem (c 5) (c 2) k) (c 8) (cs_nw (fs_sum (tmem (c 5) (c 2) k) (c 8) n) tg (ct (tmem (c 5) (c 2) k) n)) j)) 8 j ((1 * tg) / (nI (ct (tmem (c 5) (c 2) k) n))))) = (cw cA ad nh ni (upr c 8 (fs_w1 (tmem (c 5) (c 2) k) (c 8) (cs_nw (fs_sum (tmem (c 5) (c 2) k) (c 8) n) tg (ct (tmem (c 5) (c 2) k) n)) (j + 1)))) := by rw [up_upr, fs_w1_t c63, (show (cs_nw (fs_sum (tmem (c 5) (c 2) k) (c 8) n) tg (ct (tmem (c 5) (c 2) k) n)) (c 8 j) = _ by unfold cs_nw; rw [if_neg b12])]
                  rw [es] at hP hD
                  exact ih48 (j + 1) (by omega) (by omega) ls (lv_cast (lv_sub (l' := [(0, .ref (ad 8)), (1, .ref (ad 3)), (2, .int k), (3, .int tg), (4, .int (nI n)), (5, .int (nI (ct (tmem (c 5) (c 2) k) n))), (6, .int (fs_sum (tmem (c 5) (c 2) k) (c 8) n)), (7, .int 1), (8, .int (nI (ct (tmem (c 5) (c 2) k) n))), (9, .int ((fs_ms (tmem (c 5) (c 2) k) (c 8) (cs_nw (fs_sum (tmem (c 5) (c 2) k) (c 8) n) tg (ct (tmem (c 5) (c 2) k) n)) tg j) - ((1 * tg) / (nI (ct (tmem (c 5) (c 2) k) n))))), (10, .int (nI (j + 1)))]) hl [2, 3, 4, 5, 6, 7, 8, 9, 10, 1, 0] rfl) (by rw [fs_ms_t c63, (show (cs_nw (fs_sum (tmem (c 5) (c 2) k) (c 8) n) tg (ct (tmem (c 5) (c 2) k) n)) (c 8 j) = _ by unfold cs_nw; rw [if_neg b12])])) _ _ hP hD hS
        have es : (cw cA ad nh ni c) = (cw cA ad nh ni (upr c 8 (fs_w1 (tmem (c 5) (c 2) k) (c 8) (cs_nw (fs_sum (tmem (c 5) (c 2) k) (c 8) n) tg (ct (tmem (c 5) (c 2) k) n)) 0))) := congrArg (cw cA ad nh ni) upr_self.symm
        rw [es] at hP hD
        exact hL48 _ 0 (Nat.lt_succ_self _) (Nat.zero_le _) ls (lv_cast (lv_sub (l' := [(0, .ref (ad 8)), (1, .ref (ad 3)), (2, .int k), (3, .int tg), (4, .int (nI n)), (5, .int (nI (ct (tmem (c 5) (c 2) k) n))), (6, .int (fs_sum (tmem (c 5) (c 2) k) (c 8) n)), (7, .int 1), (8, .int (nI (ct (tmem (c 5) (c 2) k) n))), (9, .int tg), (10, .int 0)]) hl [5, 6, 7, 8, 9, 10, 4, 3, 2, 1, 0] rfl) (by rfl)) _ _ hP hD hS
      · skip
        have g38 : ¬ 0 < ct (tmem (c 5) (c 2) k) n := fun zz => b38 ((nI_ltI (a := 0) (b := ct (tmem (c 5) (c 2) k) n) (by omega) (by omega)).mpr zz)
        exact absurd hm g38

set_option maxHeartbeats 4000000 in
set_option maxRecDepth 100000 in
theorem cc_inG_as (l : Launch) (dg : va_G) (cA : Nat → ClassId) (ad : Nat → Nat) (nh ni : Nat) (c : St) (k : Int32) (j : Nat) (hj : j < 24) : MetR l dg cA yX4_isInGroup cX4_isInGroup 4 (some .boolean) ({ frames := 0, cells := 0, slots := 0, locals := 0 } : Room) (cw cA ad nh ni c) [.ref (ad 14), .ref (ad 2), .int k, .int (nI j)] (some (.int (b2 (tmem (c 10) (c 1) k j)))) := by
  refine ofR (by decide) (Nat.le_of_ble_eq_true rfl) (own := RX4) rfl (fun p e s0 m args below meth ccd ls S hr hlk hargs hK hP hl => ?_)
  have hx := S.1
  have hb := S.2.1
  have hl : lv_has ls 4 [(0, .ref (ad 14)), (1, .ref (ad 2)), (2, .int k), (3, .int (nI j))] := hl
  refine lv_aload_n hx hb dX4_isInGroup_0 rfl (lv_at hl 0 rfl) ?_
  refine gf S hK hP 14 cl_14 fX4_9 (v := .ref (ad 15)) ct1_0 dX4_isInGroup_1 ?_
  refine lv_iload_n hx hb dX4_isInGroup_4 rfl (lv_at hl 3 rfl) ?_
  refine zld S hK hP 15 cl_15 (j := j) (by omega) (Nat.le_of_ble_eq_true rfl) dX4_isInGroup_5 ?_
  refine lv_as (y := c 10 j) rfl ?_
  refine lv_if_eq (tgt := 20) hx hb dX4_isInGroup_6 (by decide) (fun b6 => ?_) (fun b6 => ?_)
  · skip
    refine lv_iconst (v := 0) hx hb dX4_isInGroup_20 (by decide) ?_
    exact eRz S hr hlk dX4_isInGroup_21 (by simp [b2, tmem, b6]) (b2_nr _)
  · skip
    refine lv_aload_n hx hb dX4_isInGroup_9 rfl (lv_at hl 1 rfl) ?_
    refine lv_iload_n hx hb dX4_isInGroup_10 rfl (lv_at hl 3 rfl) ?_
    refine ild S hK hP 2 cl_2 (j := j) (by omega) (Nat.le_of_ble_eq_true rfl) dX4_isInGroup_11 ?_
    refine lv_as (y := c 1 j) rfl ?_
    refine lv_iload_n hx hb dX4_isInGroup_12 rfl (lv_at hl 2 rfl) ?_
    refine lv_icmp_ne (tgt := 20) hx hb dX4_isInGroup_13 (by decide) (fun b13 => ?_) (fun b13 => ?_)
    · skip
      refine lv_iconst (v := 0) hx hb dX4_isInGroup_20 (by decide) ?_
      exact eRz S hr hlk dX4_isInGroup_21 (by simp [b2, tmem, b6, b13]) (b2_nr _)
    · skip
      refine lv_iconst (v := 1) hx hb dX4_isInGroup_16 (by decide) ?_
      refine lv_goto (tgt := 21) hx hb dX4_isInGroup_17 (by decide) ?_
      exact eRz S hr hlk dX4_isInGroup_21 (by simp [b2, tmem, b6, b13]) (b2_nr _)

set_option maxHeartbeats 4000000 in
set_option maxRecDepth 100000 in
theorem cc_inG_al (l : Launch) (dg : va_G) (cA : Nat → ClassId) (ad : Nat → Nat) (nh ni : Nat) (c : St) (k : Int32) (j : Nat) (hj : j < 24) : MetR l dg cA yX4_isInGroup cX4_isInGroup 4 (some .boolean) ({ frames := 0, cells := 0, slots := 0, locals := 0 } : Room) (cw cA ad nh ni c) [.ref (ad 14), .ref (ad 3), .int k, .int (nI j)] (some (.int (b2 (tmem (c 10) (c 2) k j)))) := by
  refine ofR (by decide) (Nat.le_of_ble_eq_true rfl) (own := RX4) rfl (fun p e s0 m args below meth ccd ls S hr hlk hargs hK hP hl => ?_)
  have hx := S.1
  have hb := S.2.1
  have hl : lv_has ls 4 [(0, .ref (ad 14)), (1, .ref (ad 3)), (2, .int k), (3, .int (nI j))] := hl
  refine lv_aload_n hx hb dX4_isInGroup_0 rfl (lv_at hl 0 rfl) ?_
  refine gf S hK hP 14 cl_14 fX4_9 (v := .ref (ad 15)) ct1_0 dX4_isInGroup_1 ?_
  refine lv_iload_n hx hb dX4_isInGroup_4 rfl (lv_at hl 3 rfl) ?_
  refine zld S hK hP 15 cl_15 (j := j) (by omega) (Nat.le_of_ble_eq_true rfl) dX4_isInGroup_5 ?_
  refine lv_as (y := c 10 j) rfl ?_
  refine lv_if_eq (tgt := 20) hx hb dX4_isInGroup_6 (by decide) (fun b6 => ?_) (fun b6 => ?_)
  · skip
    refine lv_iconst (v := 0) hx hb dX4_isInGroup_20 (by decide) ?_
    exact eRz S hr hlk dX4_isInGroup_21 (by simp [b2, tmem, b6]) (b2_nr _)
  · skip
    refine lv_aload_n hx hb dX4_isInGroup_9 rfl (lv_at hl 1 rfl) ?_
    refine lv_iload_n hx hb dX4_isInGroup_10 rfl (lv_at hl 3 rfl) ?_
    refine ild S hK hP 3 cl_3 (j := j) (by omega) (Nat.le_of_ble_eq_true rfl) dX4_isInGroup_11 ?_
    refine lv_as (y := c 2 j) rfl ?_
    refine lv_iload_n hx hb dX4_isInGroup_12 rfl (lv_at hl 2 rfl) ?_
    refine lv_icmp_ne (tgt := 20) hx hb dX4_isInGroup_13 (by decide) (fun b13 => ?_) (fun b13 => ?_)
    · skip
      refine lv_iconst (v := 0) hx hb dX4_isInGroup_20 (by decide) ?_
      exact eRz S hr hlk dX4_isInGroup_21 (by simp [b2, tmem, b6, b13]) (b2_nr _)
    · skip
      refine lv_iconst (v := 1) hx hb dX4_isInGroup_16 (by decide) ?_
      refine lv_goto (tgt := 21) hx hb dX4_isInGroup_17 (by decide) ?_
      exact eRz S hr hlk dX4_isInGroup_21 (by simp [b2, tmem, b6, b13]) (b2_nr _)

set_option maxHeartbeats 4000000 in
set_option maxRecDepth 100000 in
theorem cc_memG_as (l : Launch) (dg : va_G) (cA : Nat → ClassId) (ad : Nat → Nat) (nh ni : Nat) (c : St) (k : Int32) (n : Nat) (hn24 : n ≤ 24) : MetR l dg cA yX4_membersOfGroup cX4_membersOfGroup 6 (some .int) ({ frames := 1, cells := 0, slots := 0, locals := 23 } : Room) (cw cA ad nh ni c) [.ref (ad 14), .ref (ad 2), .int k, .int (nI n)] (some (.int (nI (ct (tmem (c 10) (c 1) k) n)))) := by
  refine ofR (by decide) (Nat.le_of_ble_eq_true rfl) (own := RX4) rfl (fun p e s0 m args below meth ccd ls S hr hlk hargs hK hP hl => ?_)
  have hx := S.1
  have hb := S.2.1
  have hl : lv_has ls 6 [(0, .ref (ad 14)), (1, .ref (ad 2)), (2, .int k), (3, .int (nI n))] := hl
  refine lv_iconst (v := 0) hx hb dX4_membersOfGroup_0 (by decide) ?_
  refine lv_istore (lv' := [(4, .int 0), (0, .ref (ad 14)), (1, .ref (ad 2)), (2, .int k), (3, .int (nI n))]) hx hb dX4_membersOfGroup_1 hl (by decide) rfl (fun ls hl => ?_)
  refine lv_iconst (v := 0) hx hb dX4_membersOfGroup_3 (by decide) ?_
  refine lv_istore (lv' := [(5, .int 0), (4, .int 0), (0, .ref (ad 14)), (1, .ref (ad 2)), (2, .int k), (3, .int (nI n))]) hx hb dX4_membersOfGroup_4 hl (by decide) rfl (fun ls hl => ?_)
  have hL6 : ∀ (f : Nat) (j : Nat), n - j < f → (j ≤ n) → ∀ ls, lv_has ls 6 [(0, .ref (ad 14)), (1, .ref (ad 2)), (2, .int k), (3, .int (nI n)), (4, .int (nI (ct (tmem (c 10) (c 1) k) j))), (5, .int (nI j))] → W p l e ({ frames := 1, cells := 0, slots := 0, locals := 23 } : Room) s0 m args below meth ccd s0.heap [] 0 0 (MQ below (QcR (some (.int (nI (ct (tmem (c 10) (c 1) k) n))))) args s0 0 0 (fun _ => False)) (F0 m 6 ls []) := by
    intro f
    induction f with
    | zero => intro j hm; exact absurd hm (Nat.not_lt_zero _)
    | succ f ih6 =>
      intro j hm6 hj ls hl
      refine lv_iload hx hb dX4_membersOfGroup_6 (lv_at hl 5 rfl) ?_
      refine lv_iload_n hx hb dX4_membersOfGroup_8 rfl (lv_at hl 3 rfl) ?_
      refine lv_icmp_ge (tgt := 32) hx hb dX4_membersOfGroup_9 (by decide) (fun b9 => ?_) (fun b9 => ?_)
      · skip
        have g9 : n ≤ j := (nI_leI (a := n) (b := j) (by omega) (by omega)).mp b9
        refine lv_iload hx hb dX4_membersOfGroup_32 (lv_at hl 4 rfl) ?_
        exact eRi S hr hlk dX4_membersOfGroup_34 (by rw [show j = n by omega])
      · skip
        have g9 : ¬ n ≤ j := fun zz => b9 ((nI_leI (a := n) (b := j) (by omega) (by omega)).mpr zz)
        refine lv_aload_n hx hb dX4_membersOfGroup_12 rfl (lv_at hl 0 rfl) ?_
        refine lv_aload_n hx hb dX4_membersOfGroup_13 rfl (lv_at hl 1 rfl) ?_
        refine lv_iload_n hx hb dX4_membersOfGroup_14 rfl (lv_at hl 2 rfl) ?_
        refine lv_iload hx hb dX4_membersOfGroup_15 (lv_at hl 5 rfl) ?_
        refine cR S (cc_inG_as l dg cA ad nh ni c k j (by omega)) kX4_69 ⟨rfl, rfl, Nat.le_of_ble_eq_true rfl, Nat.le_of_ble_eq_true rfl⟩ hK hP 14 cl_14 (q := (RX4, TX4, 5)) rfl rfl (As := [.ref (ad 2), .int k, .int (nI j)]) rfl hl.1 (rest := []) rfl (Nat.le_of_ble_eq_true rfl) dX4_membersOfGroup_17 ⟨Nat.le_of_ble_eq_true rfl, Nat.le_of_ble_eq_true rfl⟩ (st1 := [.int (b2 (tmem (c 10) (c 1) k j))]) rfl ?_
        refine lv_if_eq (tgt := 26) hx hb dX4_membersOfGroup_20 (by decide) (fun b20 => ?_) (fun b20 => ?_)
        · skip
          have c20 := b2_0 b20
          refine lv_iinc (v := nI (j + 1)) (lv' := [(5, .int (nI (j + 1))), (0, .ref (ad 14)), (1, .ref (ad 2)), (2, .int k), (3, .int (nI n)), (4, .int (nI (ct (tmem (c 10) (c 1) k) j)))]) hx hb dX4_membersOfGroup_26 hl (k := 5) rfl (nI_1 j) (by decide) rfl (fun ls hl => ?_)
          refine lv_goto (tgt := 6) hx hb dX4_membersOfGroup_29 (by decide) ?_
          exact ih6 (j + 1) (by omega) (by omega) ls (lv_cast (lv_sub (l' := [(0, .ref (ad 14)), (1, .ref (ad 2)), (2, .int k), (3, .int (nI n)), (4, .int (nI (ct (tmem (c 10) (c 1) k) j))), (5, .int (nI (j + 1)))]) hl [1, 2, 3, 4, 5, 0] rfl) (by rw [ct_f c20]))
        · skip
          have c20 := b2_1 b20
          refine lv_iinc (v := nI (ct (tmem (c 10) (c 1) k) j + 1)) (lv' := [(4, .int (nI (ct (tmem (c 10) (c 1) k) j + 1))), (0, .ref (ad 14)), (1, .ref (ad 2)), (2, .int k), (3, .int (nI n)), (5, .int (nI j))]) hx hb dX4_membersOfGroup_23 hl (k := 4) rfl (nI_1 (ct (tmem (c 10) (c 1) k) j)) (by decide) rfl (fun ls hl => ?_)
          refine lv_iinc (v := nI (j + 1)) (lv' := [(5, .int (nI (j + 1))), (4, .int (nI (ct (tmem (c 10) (c 1) k) j + 1))), (0, .ref (ad 14)), (1, .ref (ad 2)), (2, .int k), (3, .int (nI n))]) hx hb dX4_membersOfGroup_26 hl (k := 5) rfl (nI_1 j) (by decide) rfl (fun ls hl => ?_)
          refine lv_goto (tgt := 6) hx hb dX4_membersOfGroup_29 (by decide) ?_
          exact ih6 (j + 1) (by omega) (by omega) ls (lv_cast (lv_sub (l' := [(0, .ref (ad 14)), (1, .ref (ad 2)), (2, .int k), (3, .int (nI n)), (4, .int (nI (ct (tmem (c 10) (c 1) k) j + 1))), (5, .int (nI (j + 1)))]) hl [2, 3, 4, 5, 1, 0] rfl) (by rw [ct_t c20]))
  exact hL6 _ 0 (Nat.lt_succ_self _) (Nat.zero_le _) ls (lv_cast (lv_sub (l' := [(0, .ref (ad 14)), (1, .ref (ad 2)), (2, .int k), (3, .int (nI n)), (4, .int 0), (5, .int 0)]) hl [2, 3, 4, 5, 1, 0] rfl) (by rfl))

set_option maxHeartbeats 4000000 in
set_option maxRecDepth 100000 in
theorem cc_sumG_as (l : Launch) (dg : va_G) (cA : Nat → ClassId) (ad : Nat → Nat) (nh ni : Nat) (c : St) (k : Int32) (n : Nat) (hn24 : n ≤ 24) : MetR l dg cA yX4_sumOfGroup cX4_sumOfGroup 6 (some .int) ({ frames := 1, cells := 0, slots := 0, locals := 23 } : Room) (cw cA ad nh ni c) [.ref (ad 14), .ref (ad 2), .int k, .int (nI n)] (some (.int (fs_sum (tmem (c 10) (c 1) k) (c 13) n))) := by
  refine ofR (by decide) (Nat.le_of_ble_eq_true rfl) (own := RX4) rfl (fun p e s0 m args below meth ccd ls S hr hlk hargs hK hP hl => ?_)
  have hx := S.1
  have hb := S.2.1
  have hl : lv_has ls 6 [(0, .ref (ad 14)), (1, .ref (ad 2)), (2, .int k), (3, .int (nI n))] := hl
  refine lv_iconst (v := 0) hx hb dX4_sumOfGroup_0 (by decide) ?_
  refine lv_istore (lv' := [(4, .int 0), (0, .ref (ad 14)), (1, .ref (ad 2)), (2, .int k), (3, .int (nI n))]) hx hb dX4_sumOfGroup_1 hl (by decide) rfl (fun ls hl => ?_)
  refine lv_iconst (v := 0) hx hb dX4_sumOfGroup_3 (by decide) ?_
  refine lv_istore (lv' := [(5, .int 0), (4, .int 0), (0, .ref (ad 14)), (1, .ref (ad 2)), (2, .int k), (3, .int (nI n))]) hx hb dX4_sumOfGroup_4 hl (by decide) rfl (fun ls hl => ?_)
  have hL6 : ∀ (f : Nat) (j : Nat), n - j < f → (j ≤ n) → ∀ ls, lv_has ls 6 [(0, .ref (ad 14)), (1, .ref (ad 2)), (2, .int k), (3, .int (nI n)), (4, .int (fs_sum (tmem (c 10) (c 1) k) (c 13) j)), (5, .int (nI j))] → W p l e ({ frames := 1, cells := 0, slots := 0, locals := 23 } : Room) s0 m args below meth ccd s0.heap [] 0 0 (MQ below (QcR (some (.int (fs_sum (tmem (c 10) (c 1) k) (c 13) n)))) args s0 0 0 (fun _ => False)) (F0 m 6 ls []) := by
    intro f
    induction f with
    | zero => intro j hm; exact absurd hm (Nat.not_lt_zero _)
    | succ f ih6 =>
      intro j hm6 hj ls hl
      refine lv_iload hx hb dX4_sumOfGroup_6 (lv_at hl 5 rfl) ?_
      refine lv_iload_n hx hb dX4_sumOfGroup_8 rfl (lv_at hl 3 rfl) ?_
      refine lv_icmp_ge (tgt := 41) hx hb dX4_sumOfGroup_9 (by decide) (fun b9 => ?_) (fun b9 => ?_)
      · skip
        have g9 : n ≤ j := (nI_leI (a := n) (b := j) (by omega) (by omega)).mp b9
        refine lv_iload hx hb dX4_sumOfGroup_41 (lv_at hl 4 rfl) ?_
        exact eRi S hr hlk dX4_sumOfGroup_43 (by rw [show j = n by omega])
      · skip
        have g9 : ¬ n ≤ j := fun zz => b9 ((nI_leI (a := n) (b := j) (by omega) (by omega)).mpr zz)
        refine lv_aload_n hx hb dX4_sumOfGroup_12 rfl (lv_at hl 0 rfl) ?_
        refine lv_aload_n hx hb dX4_sumOfGroup_13 rfl (lv_at hl 1 rfl) ?_
        refine lv_iload_n hx hb dX4_sumOfGroup_14 rfl (lv_at hl 2 rfl) ?_
        refine lv_iload hx hb dX4_sumOfGroup_15 (lv_at hl 5 rfl) ?_
        refine cR S (cc_inG_as l dg cA ad nh ni c k j (by omega)) kX4_69 ⟨rfl, rfl, Nat.le_of_ble_eq_true rfl, Nat.le_of_ble_eq_true rfl⟩ hK hP 14 cl_14 (q := (RX4, TX4, 5)) rfl rfl (As := [.ref (ad 2), .int k, .int (nI j)]) rfl hl.1 (rest := []) rfl (Nat.le_of_ble_eq_true rfl) dX4_sumOfGroup_17 ⟨Nat.le_of_ble_eq_true rfl, Nat.le_of_ble_eq_true rfl⟩ (st1 := [.int (b2 (tmem (c 10) (c 1) k j))]) rfl ?_
        refine lv_if_eq (tgt := 35) hx hb dX4_sumOfGroup_20 (by decide) (fun b20 => ?_) (fun b20 => ?_)
        · skip
          have c20 := b2_0 b20
          refine lv_iinc (v := nI (j + 1)) (lv' := [(5, .int (nI (j + 1))), (0, .ref (ad 14)), (1, .ref (ad 2)), (2, .int k), (3, .int (nI n)), (4, .int (fs_sum (tmem (c 10) (c 1) k) (c 13) j))]) hx hb dX4_sumOfGroup_35 hl (k := 5) rfl (nI_1 j) (by decide) rfl (fun ls hl => ?_)
          refine lv_goto (tgt := 6) hx hb dX4_sumOfGroup_38 (by decide) ?_
          exact ih6 (j + 1) (by omega) (by omega) ls (lv_cast (lv_sub (l' := [(0, .ref (ad 14)), (1, .ref (ad 2)), (2, .int k), (3, .int (nI n)), (4, .int (fs_sum (tmem (c 10) (c 1) k) (c 13) j)), (5, .int (nI (j + 1)))]) hl [1, 2, 3, 4, 5, 0] rfl) (by rw [fs_sum_f c20]))
        · skip
          have c20 := b2_1 b20
          refine lv_iload hx hb dX4_sumOfGroup_23 (lv_at hl 4 rfl) ?_
          refine lv_aload_n hx hb dX4_sumOfGroup_25 rfl (lv_at hl 0 rfl) ?_
          refine gf S hK hP 14 cl_14 fX4_22 (v := .ref (ad 18)) ct1_3 dX4_sumOfGroup_26 ?_
          refine lv_iload hx hb dX4_sumOfGroup_29 (lv_at hl 5 rfl) ?_
          refine ild S hK hP 18 cl_18 (j := j) (by omega) (Nat.le_of_ble_eq_true rfl) dX4_sumOfGroup_31 ?_
          refine lv_as (y := c 13 j) rfl ?_
          refine lv_iadd hx hb dX4_sumOfGroup_32 ?_
          refine lv_istore (lv' := [(4, .int ((fs_sum (tmem (c 10) (c 1) k) (c 13) j) + (c 13 j))), (0, .ref (ad 14)), (1, .ref (ad 2)), (2, .int k), (3, .int (nI n)), (5, .int (nI j))]) hx hb dX4_sumOfGroup_33 hl (by decide) rfl (fun ls hl => ?_)
          refine lv_iinc (v := nI (j + 1)) (lv' := [(5, .int (nI (j + 1))), (4, .int ((fs_sum (tmem (c 10) (c 1) k) (c 13) j) + (c 13 j))), (0, .ref (ad 14)), (1, .ref (ad 2)), (2, .int k), (3, .int (nI n))]) hx hb dX4_sumOfGroup_35 hl (k := 5) rfl (nI_1 j) (by decide) rfl (fun ls hl => ?_)
          refine lv_goto (tgt := 6) hx hb dX4_sumOfGroup_38 (by decide) ?_
          exact ih6 (j + 1) (by omega) (by omega) ls (lv_cast (lv_sub (l' := [(0, .ref (ad 14)), (1, .ref (ad 2)), (2, .int k), (3, .int (nI n)), (4, .int ((fs_sum (tmem (c 10) (c 1) k) (c 13) j) + (c 13 j))), (5, .int (nI (j + 1)))]) hl [2, 3, 4, 5, 1, 0] rfl) (by rw [fs_sum_t c20]))
  exact hL6 _ 0 (Nat.lt_succ_self _) (Nat.zero_le _) ls (lv_cast (lv_sub (l' := [(0, .ref (ad 14)), (1, .ref (ad 2)), (2, .int k), (3, .int (nI n)), (4, .int 0), (5, .int 0)]) hl [2, 3, 4, 5, 1, 0] rfl) (by rfl))

set_option maxHeartbeats 4000000 in
set_option maxRecDepth 100000 in
theorem cc_spread_as (l : Launch) (dg : va_G) (cA : Nat → ClassId) (ad : Nat → Nat) (nh ni : Nat) (c : St) (k : Int32) (n : Nat) (hn24 : n ≤ 24) (ms : Int32) (sz : Nat) : MetM l dg cA yX4_spreadMissing cX4_spreadMissing 7 none ({ frames := 1, cells := 0, slots := 0, locals := 23 } : Room) 0 0 (cw cA ad nh ni c) sz [.ref (ad 14), .ref (ad 2), .int k, .int (nI n), .int ms] (cw cA ad nh ni (upr c 13 (fs_w2 (tmem (c 10) (c 1) k) (c 13) ms n).1)) none := by
  refine ofM (by decide) (Nat.le_of_ble_eq_true rfl) (own := RX4) rfl (fun p e s0 m args below meth ccd ls A hAe S hr hlk hname hargs hK hP hD hS hA hsz hl => ?_)
  have hx := S.1
  have hb := S.2.1
  have hl : lv_has ls 7 [(0, .ref (ad 14)), (1, .ref (ad 2)), (2, .int k), (3, .int (nI n)), (4, .int ms)] := hl
  refine lv_iload hx hb dX4_spreadMissing_0 (lv_at hl 4 rfl) ?_
  refine lv_istore (lv' := [(5, .int ms), (0, .ref (ad 14)), (1, .ref (ad 2)), (2, .int k), (3, .int (nI n)), (4, .int ms)]) hx hb dX4_spreadMissing_2 hl (by decide) rfl (fun ls hl => ?_)
  refine lv_iconst (v := 0) hx hb dX4_spreadMissing_4 (by decide) ?_
  refine lv_istore (lv' := [(6, .int 0), (5, .int ms), (0, .ref (ad 14)), (1, .ref (ad 2)), (2, .int k), (3, .int (nI n)), (4, .int ms)]) hx hb dX4_spreadMissing_5 hl (by decide) rfl (fun ls hl => ?_)
  have hL7 : ∀ (f : Nat) (j : Nat), n - j < f → (j ≤ n) → ∀ ls, lv_has ls 7 [(0, .ref (ad 14)), (1, .ref (ad 2)), (2, .int k), (3, .int (nI n)), (4, .int ms), (5, .int ((fs_w2 (tmem (c 10) (c 1) k) (c 13) ms j).2)), (6, .int (nI j))] → ∀ (H : Heap) (locs : List Loc), PP dg (cw cA ad nh ni (upr c 13 (fs_w2 (tmem (c 10) (c 1) k) (c 13) ms j).1)) H → va_D A (cw cA ad nh ni (upr c 13 (fs_w2 (tmem (c 10) (c 1) k) (c 13) ms j).1)) → va_S A s0.heap H locs → W p l e ({ frames := 1, cells := 0, slots := 0, locals := 23 } : Room) s0 m args below meth ccd H locs 0 0 (MQ below (QcM dg (cw cA ad nh ni (upr c 13 (fs_w2 (tmem (c 10) (c 1) k) (c 13) ms n).1)) none A) args s0 0 0 A) (F0 m 7 ls []) := by
    intro f
    induction f with
    | zero => intro j hm; exact absurd hm (Nat.not_lt_zero _)
    | succ f ih7 =>
      intro j hm7 hj ls hl H locs hP hD hS
      refine lv_iload hx hb dX4_spreadMissing_7 (lv_at hl 6 rfl) ?_
      refine lv_iload_n hx hb dX4_spreadMissing_9 rfl (lv_at hl 3 rfl) ?_
      refine lv_icmp_ge (tgt := 49) hx hb dX4_spreadMissing_10 (by decide) (fun b10 => ?_) (fun b10 => ?_)
      · skip
        have g10 : n ≤ j := (nI_leI (a := n) (b := j) (by omega) (by omega)).mp b10
        exact eMv S hr hlk hP hD hS dX4_spreadMissing_49 (by rw [show j = n by omega])
      · skip
        have g10 : ¬ n ≤ j := fun zz => b10 ((nI_leI (a := n) (b := j) (by omega) (by omega)).mpr zz)
        refine lv_iload hx hb dX4_spreadMissing_13 (lv_at hl 5 rfl) ?_
        refine lv_if_le (tgt := 49) hx hb dX4_spreadMissing_15 (by decide) (fun b15 => ?_) (fun b15 => ?_)
        · skip
          exact eMv S hr hlk hP hD hS dX4_spreadMissing_49 (by rw [fs_w2_end (fun z => Int32.not_lt.mpr b15 z) hj])
        · skip
          refine lv_aload_n hx hb dX4_spreadMissing_18 rfl (lv_at hl 0 rfl) ?_
          refine lv_aload_n hx hb dX4_spreadMissing_19 rfl (lv_at hl 1 rfl) ?_
          refine lv_iload_n hx hb dX4_spreadMissing_20 rfl (lv_at hl 2 rfl) ?_
          refine lv_iload hx hb dX4_spreadMissing_21 (lv_at hl 6 rfl) ?_
          refine cR S (cc_inG_as l dg cA ad nh ni (upr c 13 (fs_w2 (tmem (c 10) (c 1) k) (c 13) ms j).1) k j (by omega)) kX4_69 ⟨rfl, rfl, Nat.le_of_ble_eq_true rfl, Nat.le_of_ble_eq_true rfl⟩ hK hP 14 cl_14 (q := (RX4, TX4, 5)) rfl rfl (As := [.ref (ad 2), .int k, .int (nI j)]) rfl hl.1 (rest := []) rfl (Nat.le_of_ble_eq_true rfl) dX4_spreadMissing_23 ⟨Nat.le_of_ble_eq_true rfl, Nat.le_of_ble_eq_true rfl⟩ (st1 := [.int (b2 (tmem (c 10) (c 1) k j))]) rfl ?_
          refine lv_if_eq (tgt := 43) hx hb dX4_spreadMissing_26 (by decide) (fun b26 => ?_) (fun b26 => ?_)
          · skip
            have c26 := b2_0 b26
            refine lv_iinc (v := nI (j + 1)) (lv' := [(6, .int (nI (j + 1))), (0, .ref (ad 14)), (1, .ref (ad 2)), (2, .int k), (3, .int (nI n)), (4, .int ms), (5, .int ((fs_w2 (tmem (c 10) (c 1) k) (c 13) ms j).2))]) hx hb dX4_spreadMissing_43 hl (k := 6) rfl (nI_1 j) (by decide) rfl (fun ls hl => ?_)
            refine lv_goto (tgt := 7) hx hb dX4_spreadMissing_46 (by decide) ?_
            have es : (cw cA ad nh ni (upr c 13 (fs_w2 (tmem (c 10) (c 1) k) (c 13) ms j).1)) = (cw cA ad nh ni (upr c 13 (fs_w2 (tmem (c 10) (c 1) k) (c 13) ms (j + 1)).1)) := by rw [fs_w2_f c26]
            rw [es] at hP hD
            exact ih7 (j + 1) (by omega) (by omega) ls (lv_cast (lv_sub (l' := [(0, .ref (ad 14)), (1, .ref (ad 2)), (2, .int k), (3, .int (nI n)), (4, .int ms), (5, .int ((fs_w2 (tmem (c 10) (c 1) k) (c 13) ms j).2)), (6, .int (nI (j + 1)))]) hl [1, 2, 3, 4, 5, 6, 0] rfl) (by rw [fs_w2_f c26])) _ _ hP hD hS
          · skip
            have c26 := b2_1 b26
            refine lv_aload_n hx hb dX4_spreadMissing_29 rfl (lv_at hl 0 rfl) ?_
            refine gf S hK hP 14 cl_14 fX4_22 (v := .ref (ad 18)) ct1_3 dX4_spreadMissing_30 ?_
            refine lv_iload hx hb dX4_spreadMissing_33 (lv_at hl 6 rfl) ?_
            refine lv_dup2_11 hx hb dX4_spreadMissing_35 rfl rfl ?_
            refine ild S hK hP 18 cl_18 (j := j) (by omega) (Nat.le_of_ble_eq_true rfl) dX4_spreadMissing_36 ?_
            refine lv_as (y := ((fs_w2 (tmem (c 10) (c 1) k) (c 13) ms j).1) j) rfl ?_
            refine lv_iconst (v := 1) hx hb dX4_spreadMissing_37 (by decide) ?_
            refine lv_iadd hx hb dX4_spreadMissing_38 ?_
            refine ist S hK hP hD hS 18 cl_18 (j := j) (x := (((fs_w2 (tmem (c 10) (c 1) k) (c 13) ms j).1) j) + 1) (by omega) (Nat.le_of_ble_eq_true rfl) cs_18 dX4_spreadMissing_39 (fun H locs hP hD hS => ?_)
            refine lv_iinc (v := ((fs_w2 (tmem (c 10) (c 1) k) (c 13) ms j).2) + (-1)) (lv' := [(5, .int (((fs_w2 (tmem (c 10) (c 1) k) (c 13) ms j).2) + (-1))), (0, .ref (ad 14)), (1, .ref (ad 2)), (2, .int k), (3, .int (nI n)), (4, .int ms), (6, .int (nI j))]) hx hb dX4_spreadMissing_40 hl (k := 5) rfl (by rw [i32_m1]) (by decide) rfl (fun ls hl => ?_)
            refine lv_iinc (v := nI (j + 1)) (lv' := [(6, .int (nI (j + 1))), (5, .int (((fs_w2 (tmem (c 10) (c 1) k) (c 13) ms j).2) + (-1))), (0, .ref (ad 14)), (1, .ref (ad 2)), (2, .int k), (3, .int (nI n)), (4, .int ms)]) hx hb dX4_spreadMissing_43 hl (k := 6) rfl (nI_1 j) (by decide) rfl (fun ls hl => ?_)
            refine lv_goto (tgt := 7) hx hb dX4_spreadMissing_46 (by decide) ?_
            have es : (cw cA ad nh ni (up (upr c 13 (fs_w2 (tmem (c 10) (c 1) k) (c 13) ms j).1) 13 j ((((fs_w2 (tmem (c 10) (c 1) k) (c 13) ms j).1) j) + 1))) = (cw cA ad nh ni (upr c 13 (fs_w2 (tmem (c 10) (c 1) k) (c 13) ms (j + 1)).1)) := by rw [up_upr, fs_w2_t c26 (Int32.not_le.mp b15)]
            rw [es] at hP hD
            exact ih7 (j + 1) (by omega) (by omega) ls (lv_cast (lv_sub (l' := [(0, .ref (ad 14)), (1, .ref (ad 2)), (2, .int k), (3, .int (nI n)), (4, .int ms), (5, .int (((fs_w2 (tmem (c 10) (c 1) k) (c 13) ms j).2) + (-1))), (6, .int (nI (j + 1)))]) hl [2, 3, 4, 5, 6, 1, 0] rfl) (by rw [fs_w2_t c26 (Int32.not_le.mp b15)])) _ _ hP hD hS
  have es : (cw cA ad nh ni c) = (cw cA ad nh ni (upr c 13 (fs_w2 (tmem (c 10) (c 1) k) (c 13) ms 0).1)) := congrArg (cw cA ad nh ni) upr_self.symm
  rw [es] at hP hD
  exact hL7 _ 0 (Nat.lt_succ_self _) (Nat.zero_le _) ls (lv_cast (lv_sub (l' := [(0, .ref (ad 14)), (1, .ref (ad 2)), (2, .int k), (3, .int (nI n)), (4, .int ms), (5, .int ms), (6, .int 0)]) hl [2, 3, 4, 5, 6, 1, 0] rfl) (by rfl)) _ _ hP hD hS

set_option maxHeartbeats 4000000 in
set_option maxRecDepth 100000 in
theorem cc_fitG_as (l : Launch) (dg : va_G) (cA : Nat → ClassId) (ad : Nat → Nat) (nh ni : Nat) (c : St) (k tg : Int32) (n : Nat) (hn24 : n ≤ 24) (hm : 0 < ct (tmem (c 10) (c 1) k) n) (sz : Nat) : MetM l dg cA yX4_fitGroup cX4_fitGroup 11 none ({ frames := 2, cells := 0, slots := 0, locals := 49 } : Room) 0 0 (cw cA ad nh ni c) sz [.ref (ad 14), .ref (ad 2), .int k, .int tg, .int (nI n), .int (nI (ct (tmem (c 10) (c 1) k) n))] (cw cA ad nh ni (upr c 13 (cs_fit (tmem (c 10) (c 1) k) (c 13) tg n))) none := by
  refine ofM (by decide) (Nat.le_of_ble_eq_true rfl) (own := RX4) rfl (fun p e s0 m args below meth ccd ls A hAe S hr hlk hname hargs hK hP hD hS hA hsz hl => ?_)
  have hx := S.1
  have hb := S.2.1
  have hl : lv_has ls 11 [(0, .ref (ad 14)), (1, .ref (ad 2)), (2, .int k), (3, .int tg), (4, .int (nI n)), (5, .int (nI (ct (tmem (c 10) (c 1) k) n)))] := hl
  have hctl := ct_le (tmem (c 10) (c 1) k) n
  refine lv_aload_n hx hb dX4_fitGroup_0 rfl (lv_at hl 0 rfl) ?_
  refine lv_aload_n hx hb dX4_fitGroup_1 rfl (lv_at hl 1 rfl) ?_
  refine lv_iload_n hx hb dX4_fitGroup_2 rfl (lv_at hl 2 rfl) ?_
  refine lv_iload hx hb dX4_fitGroup_3 (lv_at hl 4 rfl) ?_
  refine cR S (cc_sumG_as l dg cA ad nh ni c k n hn24) kX4_66 ⟨rfl, rfl, Nat.le_of_ble_eq_true rfl, Nat.le_of_ble_eq_true rfl⟩ hK hP 14 cl_14 (q := (RX4, TX4, 5)) rfl rfl (As := [.ref (ad 2), .int k, .int (nI n)]) rfl hl.1 (rest := []) rfl (Nat.le_of_ble_eq_true rfl) dX4_fitGroup_5 ⟨Nat.le_of_ble_eq_true rfl, Nat.le_of_ble_eq_true rfl⟩ (st1 := [.int (fs_sum (tmem (c 10) (c 1) k) (c 13) n)]) rfl ?_
  refine lv_istore (lv' := [(6, .int (fs_sum (tmem (c 10) (c 1) k) (c 13) n)), (0, .ref (ad 14)), (1, .ref (ad 2)), (2, .int k), (3, .int tg), (4, .int (nI n)), (5, .int (nI (ct (tmem (c 10) (c 1) k) n)))]) hx hb dX4_fitGroup_8 hl (by decide) rfl (fun ls hl => ?_)
  refine lv_iload hx hb dX4_fitGroup_10 (lv_at hl 0 rfl) ?_
  refine lv_if_gt (tgt := 19) hx hb dX4_fitGroup_12 (by decide) (fun b12 => ?_) (fun b12 => ?_)
  · skip
    refine lv_iconst (v := 0) hx hb dX4_fitGroup_19 (by decide) ?_
    refine lv_istore (lv' := [(7, .int 0), (6, .int (fs_sum (tmem (c 10) (c 1) k) (c 13) n)), (0, .ref (ad 14)), (1, .ref (ad 2)), (2, .int k), (3, .int tg), (4, .int (nI n)), (5, .int (nI (ct (tmem (c 10) (c 1) k) n)))]) hx hb dX4_fitGroup_20 hl (by decide) rfl (fun ls hl => ?_)
    refine lv_iload hx hb dX4_fitGroup_22 (lv_at hl 0 rfl) ?_
    refine lv_if_eq (tgt := 32) hx hb dX4_fitGroup_24 (by decide) (fun b24 => ?_) (fun b24 => ?_)
    · skip
      refine lv_iload hx hb dX4_fitGroup_32 (lv_at hl 1 rfl) ?_
      refine lv_istore (lv' := [(8, .int (fs_sum (tmem (c 10) (c 1) k) (c 13) n)), (7, .int 0), (6, .int (fs_sum (tmem (c 10) (c 1) k) (c 13) n)), (0, .ref (ad 14)), (1, .ref (ad 2)), (2, .int k), (3, .int tg), (4, .int (nI n)), (5, .int (nI (ct (tmem (c 10) (c 1) k) n)))]) hx hb dX4_fitGroup_34 hl (by decide) rfl (fun ls hl => ?_)
      refine lv_iload hx hb dX4_fitGroup_36 (lv_at hl 0 rfl) ?_
      refine lv_if_gt (tgt := 42) hx hb dX4_fitGroup_38 (by decide) (fun b38 => ?_) (fun b38 => ?_)
      · skip
        refine lv_iload_n hx hb dX4_fitGroup_42 rfl (lv_at hl 6 rfl) ?_
        refine lv_istore (lv' := [(9, .int tg), (8, .int (fs_sum (tmem (c 10) (c 1) k) (c 13) n)), (7, .int 0), (6, .int (fs_sum (tmem (c 10) (c 1) k) (c 13) n)), (0, .ref (ad 14)), (1, .ref (ad 2)), (2, .int k), (3, .int tg), (4, .int (nI n)), (5, .int (nI (ct (tmem (c 10) (c 1) k) n)))]) hx hb dX4_fitGroup_43 hl (by decide) rfl (fun ls hl => ?_)
        refine lv_iconst (v := 0) hx hb dX4_fitGroup_45 (by decide) ?_
        refine lv_istore (lv' := [(10, .int 0), (9, .int tg), (8, .int (fs_sum (tmem (c 10) (c 1) k) (c 13) n)), (7, .int 0), (6, .int (fs_sum (tmem (c 10) (c 1) k) (c 13) n)), (0, .ref (ad 14)), (1, .ref (ad 2)), (2, .int k), (3, .int tg), (4, .int (nI n)), (5, .int (nI (ct (tmem (c 10) (c 1) k) n)))]) hx hb dX4_fitGroup_46 hl (by decide) rfl (fun ls hl => ?_)
        have hL48 : ∀ (f : Nat) (j : Nat), n - j < f → (j ≤ n) → ∀ ls, lv_has ls 11 [(0, .ref (ad 14)), (1, .ref (ad 2)), (2, .int k), (3, .int tg), (4, .int (nI n)), (5, .int (nI (ct (tmem (c 10) (c 1) k) n))), (6, .int (fs_sum (tmem (c 10) (c 1) k) (c 13) n)), (7, .int 0), (8, .int (fs_sum (tmem (c 10) (c 1) k) (c 13) n)), (9, .int (fs_ms (tmem (c 10) (c 1) k) (c 13) (cs_nw (fs_sum (tmem (c 10) (c 1) k) (c 13) n) tg (ct (tmem (c 10) (c 1) k) n)) tg j)), (10, .int (nI j))] → ∀ (H : Heap) (locs : List Loc), PP dg (cw cA ad nh ni (upr c 13 (fs_w1 (tmem (c 10) (c 1) k) (c 13) (cs_nw (fs_sum (tmem (c 10) (c 1) k) (c 13) n) tg (ct (tmem (c 10) (c 1) k) n)) j))) H → va_D A (cw cA ad nh ni (upr c 13 (fs_w1 (tmem (c 10) (c 1) k) (c 13) (cs_nw (fs_sum (tmem (c 10) (c 1) k) (c 13) n) tg (ct (tmem (c 10) (c 1) k) n)) j))) → va_S A s0.heap H locs → W p l e ({ frames := 2, cells := 0, slots := 0, locals := 49 } : Room) s0 m args below meth ccd H locs 0 0 (MQ below (QcM dg (cw cA ad nh ni (upr c 13 (cs_fit (tmem (c 10) (c 1) k) (c 13) tg n))) none A) args s0 0 0 A) (F0 m 48 ls []) := by
          intro f
          induction f with
          | zero => intro j hm; exact absurd hm (Nat.not_lt_zero _)
          | succ f ih48 =>
            intro j hm48 hj ls hl H locs hP hD hS
            refine lv_iload hx hb dX4_fitGroup_48 (lv_at hl 10 rfl) ?_
            refine lv_iload hx hb dX4_fitGroup_50 (lv_at hl 4 rfl) ?_
            refine lv_icmp_ge (tgt := 112) hx hb dX4_fitGroup_52 (by decide) (fun b52 => ?_) (fun b52 => ?_)
            · skip
              have g52 : n ≤ j := (nI_leI (a := n) (b := j) (by omega) (by omega)).mp b52
              have ej : j = n := by omega
              rw [ej] at hl hP hD
              refine lv_aload_n hx hb dX4_fitGroup_112 rfl (lv_at hl 0 rfl) ?_
              refine lv_aload_n hx hb dX4_fitGroup_113 rfl (lv_at hl 1 rfl) ?_
              refine lv_iload_n hx hb dX4_fitGroup_114 rfl (lv_at hl 2 rfl) ?_
              refine lv_iload hx hb dX4_fitGroup_115 (lv_at hl 4 rfl) ?_
              refine lv_iload hx hb dX4_fitGroup_117 (lv_at hl 9 rfl) ?_
              refine cM S (cc_spread_as l dg cA ad nh ni (upr c 13 (fs_w1 (tmem (c 10) (c 1) k) (c 13) (cs_nw (fs_sum (tmem (c 10) (c 1) k) (c 13) n) tg (ct (tmem (c 10) (c 1) k) n)) n)) k n hn24 (fs_ms (tmem (c 10) (c 1) k) (c 13) (cs_nw (fs_sum (tmem (c 10) (c 1) k) (c 13) n) tg (ct (tmem (c 10) (c 1) k) n)) tg n) _) kX4_73 ⟨rfl, rfl, Nat.le_of_ble_eq_true rfl, Nat.le_of_ble_eq_true rfl⟩ hK hP hD hS hA 14 cl_14 (q := (RX4, TX4, 5)) rfl rfl (As := [.ref (ad 2), .int k, .int (nI n), .int (fs_ms (tmem (c 10) (c 1) k) (c 13) (cs_nw (fs_sum (tmem (c 10) (c 1) k) (c 13) n) tg (ct (tmem (c 10) (c 1) k) n)) tg n)]) rfl hl.1 (rest := []) rfl (Nat.le_of_ble_eq_true rfl) dX4_fitGroup_119 ⟨Nat.le_of_ble_eq_true rfl, Nat.le_of_ble_eq_true rfl⟩ (st1 := []) rfl (fun H locs hP hD hS => ?_)
              exact eMv S hr hlk hP hD hS dX4_fitGroup_122 (by rw [upr_upr]; rfl)
            · skip
              have g52 : ¬ n ≤ j := fun zz => b52 ((nI_leI (a := n) (b := j) (by omega) (by omega)).mpr zz)
              refine lv_aload_n hx hb dX4_fitGroup_55 rfl (lv_at hl 0 rfl) ?_
              refine lv_aload_n hx hb dX4_fitGroup_56 rfl (lv_at hl 1 rfl) ?_
              refine lv_iload_n hx hb dX4_fitGroup_57 rfl (lv_at hl 2 rfl) ?_
              refine lv_iload hx hb dX4_fitGroup_58 (lv_at hl 10 rfl) ?_
              refine cR S (cc_inG_as l dg cA ad nh ni (upr c 13 (fs_w1 (tmem (c 10) (c 1) k) (c 13) (cs_nw (fs_sum (tmem (c 10) (c 1) k) (c 13) n) tg (ct (tmem (c 10) (c 1) k) n)) j)) k j (by omega)) kX4_69 ⟨rfl, rfl, Nat.le_of_ble_eq_true rfl, Nat.le_of_ble_eq_true rfl⟩ hK hP 14 cl_14 (q := (RX4, TX4, 5)) rfl rfl (As := [.ref (ad 2), .int k, .int (nI j)]) rfl hl.1 (rest := []) rfl (Nat.le_of_ble_eq_true rfl) dX4_fitGroup_60 ⟨Nat.le_of_ble_eq_true rfl, Nat.le_of_ble_eq_true rfl⟩ (st1 := [.int (b2 (tmem (c 10) (c 1) k j))]) rfl ?_
              refine lv_if_eq (tgt := 106) hx hb dX4_fitGroup_63 (by decide) (fun b63 => ?_) (fun b63 => ?_)
              · skip
                have c63 := b2_0 b63
                refine lv_iinc (v := nI (j + 1)) (lv' := [(10, .int (nI (j + 1))), (0, .ref (ad 14)), (1, .ref (ad 2)), (2, .int k), (3, .int tg), (4, .int (nI n)), (5, .int (nI (ct (tmem (c 10) (c 1) k) n))), (6, .int (fs_sum (tmem (c 10) (c 1) k) (c 13) n)), (7, .int 0), (8, .int (fs_sum (tmem (c 10) (c 1) k) (c 13) n)), (9, .int (fs_ms (tmem (c 10) (c 1) k) (c 13) (cs_nw (fs_sum (tmem (c 10) (c 1) k) (c 13) n) tg (ct (tmem (c 10) (c 1) k) n)) tg j))]) hx hb dX4_fitGroup_106 hl (k := 10) rfl (nI_1 j) (by decide) rfl (fun ls hl => ?_)
                refine lv_goto (tgt := 48) hx hb dX4_fitGroup_109 (by decide) ?_
                have es : (cw cA ad nh ni (upr c 13 (fs_w1 (tmem (c 10) (c 1) k) (c 13) (cs_nw (fs_sum (tmem (c 10) (c 1) k) (c 13) n) tg (ct (tmem (c 10) (c 1) k) n)) j))) = (cw cA ad nh ni (upr c 13 (fs_w1 (tmem (c 10) (c 1) k) (c 13) (cs_nw (fs_sum (tmem (c 10) (c 1) k) (c 13) n) tg (ct (tmem (c 10) (c 1) k) n)) (j + 1)))) := by rw [fs_w1_f c63]
                rw [es] at hP hD
                exact ih48 (j + 1) (by omega) (by omega) ls (lv_cast (lv_sub (l' := [(0, .ref (ad 14)), (1, .ref (ad 2)), (2, .int k), (3, .int tg), (4, .int (nI n)), (5, .int (nI (ct (tmem (c 10) (c 1) k) n))), (6, .int (fs_sum (tmem (c 10) (c 1) k) (c 13) n)), (7, .int 0), (8, .int (fs_sum (tmem (c 10) (c 1) k) (c 13) n)), (9, .int (fs_ms (tmem (c 10) (c 1) k) (c 13) (cs_nw (fs_sum (tmem (c 10) (c 1) k) (c 13) n) tg (ct (tmem (c 10) (c 1) k) n)) tg j)), (10, .int (nI (j + 1)))]) hl [1, 2, 3, 4, 5, 6, 7, 8, 9, 10, 0] rfl) (by rw [fs_ms_f c63])) _ _ hP hD hS
              · skip
                have c63 := b2_1 b63
                refine lv_aload_n hx hb dX4_fitGroup_66 rfl (lv_at hl 0 rfl) ?_
                refine gf S hK hP 14 cl_14 fX4_22 (v := .ref (ad 18)) ct1_3 dX4_fitGroup_67 ?_
                refine lv_iload hx hb dX4_fitGroup_70 (lv_at hl 10 rfl) ?_
                refine lv_iload hx hb dX4_fitGroup_72 (lv_at hl 7 rfl) ?_
                refine lv_if_eq (tgt := 81) hx hb dX4_fitGroup_74 (by decide) (fun b74 => ?_) (fun b74 => ?_)
                · skip
                  refine lv_aload_n hx hb dX4_fitGroup_81 rfl (lv_at hl 0 rfl) ?_
                  refine gf S hK hP 14 cl_14 fX4_22 (v := .ref (ad 18)) ct1_3 dX4_fitGroup_82 ?_
                  refine lv_iload hx hb dX4_fitGroup_85 (lv_at hl 10 rfl) ?_
                  refine ild S hK hP 18 cl_18 (j := j) (by omega) (Nat.le_of_ble_eq_true rfl) dX4_fitGroup_87 ?_
                  refine lv_as (y := c 13 j) (show upr c 13 (fs_w1 (tmem (c 10) (c 1) k) (c 13) (cs_nw (fs_sum (tmem (c 10) (c 1) k) (c 13) n) tg (ct (tmem (c 10) (c 1) k) n)) j) 13 j = c 13 j from fs_w1_ge (Nat.le_refl _)) ?_
                  refine lv_iload_n hx hb dX4_fitGroup_88 rfl (lv_at hl 3 rfl) ?_
                  refine lv_imul hx hb dX4_fitGroup_89 ?_
                  refine lv_iload hx hb dX4_fitGroup_90 (lv_at hl 8 rfl) ?_
                  refine lv_idiv hx hb dX4_fitGroup_92 (fun z => absurd b12 (by rw [z]; decide)) ?_
                  refine ist S hK hP hD hS 18 cl_18 (j := j) (x := ((c 13 j) * tg) / (fs_sum (tmem (c 10) (c 1) k) (c 13) n)) (by omega) (Nat.le_of_ble_eq_true rfl) cs_18 dX4_fitGroup_93 (fun H locs hP hD hS => ?_)
                  refine lv_iload hx hb dX4_fitGroup_94 (lv_at hl 9 rfl) ?_
                  refine lv_aload_n hx hb dX4_fitGroup_96 rfl (lv_at hl 0 rfl) ?_
                  refine gf S hK hP 14 cl_14 fX4_22 (v := .ref (ad 18)) ct1_3 dX4_fitGroup_97 ?_
                  refine lv_iload hx hb dX4_fitGroup_100 (lv_at hl 10 rfl) ?_
                  refine ild S hK hP 18 cl_18 (j := j) (by omega) (Nat.le_of_ble_eq_true rfl) dX4_fitGroup_102 ?_
                  refine lv_as (y := ((c 13 j) * tg) / (fs_sum (tmem (c 10) (c 1) k) (c 13) n)) up_at ?_
                  refine lv_isub hx hb dX4_fitGroup_103 ?_
                  refine lv_istore (lv' := [(9, .int ((fs_ms (tmem (c 10) (c 1) k) (c 13) (cs_nw (fs_sum (tmem (c 10) (c 1) k) (c 13) n) tg (ct (tmem (c 10) (c 1) k) n)) tg j) - (((c 13 j) * tg) / (fs_sum (tmem (c 10) (c 1) k) (c 13) n)))), (0, .ref (ad 14)), (1, .ref (ad 2)), (2, .int k), (3, .int tg), (4, .int (nI n)), (5, .int (nI (ct (tmem (c 10) (c 1) k) n))), (6, .int (fs_sum (tmem (c 10) (c 1) k) (c 13) n)), (7, .int 0), (8, .int (fs_sum (tmem (c 10) (c 1) k) (c 13) n)), (10, .int (nI j))]) hx hb dX4_fitGroup_104 hl (by decide) rfl (fun ls hl => ?_)
                  refine lv_iinc (v := nI (j + 1)) (lv' := [(10, .int (nI (j + 1))), (9, .int ((fs_ms (tmem (c 10) (c 1) k) (c 13) (cs_nw (fs_sum (tmem (c 10) (c 1) k) (c 13) n) tg (ct (tmem (c 10) (c 1) k) n)) tg j) - (((c 13 j) * tg) / (fs_sum (tmem (c 10) (c 1) k) (c 13) n)))), (0, .ref (ad 14)), (1, .ref (ad 2)), (2, .int k), (3, .int tg), (4, .int (nI n)), (5, .int (nI (ct (tmem (c 10) (c 1) k) n))), (6, .int (fs_sum (tmem (c 10) (c 1) k) (c 13) n)), (7, .int 0), (8, .int (fs_sum (tmem (c 10) (c 1) k) (c 13) n))]) hx hb dX4_fitGroup_106 hl (k := 10) rfl (nI_1 j) (by decide) rfl (fun ls hl => ?_)
                  refine lv_goto (tgt := 48) hx hb dX4_fitGroup_109 (by decide) ?_
                  have es : (cw cA ad nh ni (up (upr c 13 (fs_w1 (tmem (c 10) (c 1) k) (c 13) (cs_nw (fs_sum (tmem (c 10) (c 1) k) (c 13) n) tg (ct (tmem (c 10) (c 1) k) n)) j)) 13 j (((c 13 j) * tg) / (fs_sum (tmem (c 10) (c 1) k) (c 13) n)))) = (cw cA ad nh ni (upr c 13 (fs_w1 (tmem (c 10) (c 1) k) (c 13) (cs_nw (fs_sum (tmem (c 10) (c 1) k) (c 13) n) tg (ct (tmem (c 10) (c 1) k) n)) (j + 1)))) := by rw [up_upr, fs_w1_t c63, (show (cs_nw (fs_sum (tmem (c 10) (c 1) k) (c 13) n) tg (ct (tmem (c 10) (c 1) k) n)) (c 13 j) = _ by unfold cs_nw; rw [if_pos b12])]
                  rw [es] at hP hD
                  exact ih48 (j + 1) (by omega) (by omega) ls (lv_cast (lv_sub (l' := [(0, .ref (ad 14)), (1, .ref (ad 2)), (2, .int k), (3, .int tg), (4, .int (nI n)), (5, .int (nI (ct (tmem (c 10) (c 1) k) n))), (6, .int (fs_sum (tmem (c 10) (c 1) k) (c 13) n)), (7, .int 0), (8, .int (fs_sum (tmem (c 10) (c 1) k) (c 13) n)), (9, .int ((fs_ms (tmem (c 10) (c 1) k) (c 13) (cs_nw (fs_sum (tmem (c 10) (c 1) k) (c 13) n) tg (ct (tmem (c 10) (c 1) k) n)) tg j) - (((c 13 j) * tg) / (fs_sum (tmem (c 10) (c 1) k) (c 13) n)))), (10, .int (nI (j + 1)))]) hl [2, 3, 4, 5, 6, 7, 8, 9, 10, 1, 0] rfl) (by rw [fs_ms_t c63, (show (cs_nw (fs_sum (tmem (c 10) (c 1) k) (c 13) n) tg (ct (tmem (c 10) (c 1) k) n)) (c 13 j) = _ by unfold cs_nw; rw [if_pos b12])])) _ _ hP hD hS
                · skip
                  exact absurd b24 b74
        have es : (cw cA ad nh ni c) = (cw cA ad nh ni (upr c 13 (fs_w1 (tmem (c 10) (c 1) k) (c 13) (cs_nw (fs_sum (tmem (c 10) (c 1) k) (c 13) n) tg (ct (tmem (c 10) (c 1) k) n)) 0))) := congrArg (cw cA ad nh ni) upr_self.symm
        rw [es] at hP hD
        exact hL48 _ 0 (Nat.lt_succ_self _) (Nat.zero_le _) ls (lv_cast (lv_sub (l' := [(0, .ref (ad 14)), (1, .ref (ad 2)), (2, .int k), (3, .int tg), (4, .int (nI n)), (5, .int (nI (ct (tmem (c 10) (c 1) k) n))), (6, .int (fs_sum (tmem (c 10) (c 1) k) (c 13) n)), (7, .int 0), (8, .int (fs_sum (tmem (c 10) (c 1) k) (c 13) n)), (9, .int tg), (10, .int 0)]) hl [5, 6, 7, 8, 9, 10, 4, 3, 2, 1, 0] rfl) (by rfl)) _ _ hP hD hS
      · skip
        exact absurd b12 b38
    · skip
      exact False.elim (by revert b24; decide)
  · skip
    refine lv_iconst (v := 1) hx hb dX4_fitGroup_15 (by decide) ?_
    refine lv_goto (tgt := 20) hx hb dX4_fitGroup_16 (by decide) ?_
    refine lv_istore (lv' := [(7, .int 1), (6, .int (fs_sum (tmem (c 10) (c 1) k) (c 13) n)), (0, .ref (ad 14)), (1, .ref (ad 2)), (2, .int k), (3, .int tg), (4, .int (nI n)), (5, .int (nI (ct (tmem (c 10) (c 1) k) n)))]) hx hb dX4_fitGroup_20 hl (by decide) rfl (fun ls hl => ?_)
    refine lv_iload hx hb dX4_fitGroup_22 (lv_at hl 0 rfl) ?_
    refine lv_if_eq (tgt := 32) hx hb dX4_fitGroup_24 (by decide) (fun b24 => ?_) (fun b24 => ?_)
    · skip
      exact False.elim (by revert b24; decide)
    · skip
      refine lv_iload hx hb dX4_fitGroup_27 (lv_at hl 7 rfl) ?_
      refine lv_goto (tgt := 34) hx hb dX4_fitGroup_29 (by decide) ?_
      refine lv_istore (lv' := [(8, .int (nI (ct (tmem (c 10) (c 1) k) n))), (7, .int 1), (6, .int (fs_sum (tmem (c 10) (c 1) k) (c 13) n)), (0, .ref (ad 14)), (1, .ref (ad 2)), (2, .int k), (3, .int tg), (4, .int (nI n)), (5, .int (nI (ct (tmem (c 10) (c 1) k) n)))]) hx hb dX4_fitGroup_34 hl (by decide) rfl (fun ls hl => ?_)
      refine lv_iload hx hb dX4_fitGroup_36 (lv_at hl 0 rfl) ?_
      refine lv_if_gt (tgt := 42) hx hb dX4_fitGroup_38 (by decide) (fun b38 => ?_) (fun b38 => ?_)
      · skip
        have g38 : 0 < ct (tmem (c 10) (c 1) k) n := (nI_ltI (a := 0) (b := ct (tmem (c 10) (c 1) k) n) (by omega) (by omega)).mp b38
        refine lv_iload_n hx hb dX4_fitGroup_42 rfl (lv_at hl 6 rfl) ?_
        refine lv_istore (lv' := [(9, .int tg), (8, .int (nI (ct (tmem (c 10) (c 1) k) n))), (7, .int 1), (6, .int (fs_sum (tmem (c 10) (c 1) k) (c 13) n)), (0, .ref (ad 14)), (1, .ref (ad 2)), (2, .int k), (3, .int tg), (4, .int (nI n)), (5, .int (nI (ct (tmem (c 10) (c 1) k) n)))]) hx hb dX4_fitGroup_43 hl (by decide) rfl (fun ls hl => ?_)
        refine lv_iconst (v := 0) hx hb dX4_fitGroup_45 (by decide) ?_
        refine lv_istore (lv' := [(10, .int 0), (9, .int tg), (8, .int (nI (ct (tmem (c 10) (c 1) k) n))), (7, .int 1), (6, .int (fs_sum (tmem (c 10) (c 1) k) (c 13) n)), (0, .ref (ad 14)), (1, .ref (ad 2)), (2, .int k), (3, .int tg), (4, .int (nI n)), (5, .int (nI (ct (tmem (c 10) (c 1) k) n)))]) hx hb dX4_fitGroup_46 hl (by decide) rfl (fun ls hl => ?_)
        have hL48 : ∀ (f : Nat) (j : Nat), n - j < f → (j ≤ n) → ∀ ls, lv_has ls 11 [(0, .ref (ad 14)), (1, .ref (ad 2)), (2, .int k), (3, .int tg), (4, .int (nI n)), (5, .int (nI (ct (tmem (c 10) (c 1) k) n))), (6, .int (fs_sum (tmem (c 10) (c 1) k) (c 13) n)), (7, .int 1), (8, .int (nI (ct (tmem (c 10) (c 1) k) n))), (9, .int (fs_ms (tmem (c 10) (c 1) k) (c 13) (cs_nw (fs_sum (tmem (c 10) (c 1) k) (c 13) n) tg (ct (tmem (c 10) (c 1) k) n)) tg j)), (10, .int (nI j))] → ∀ (H : Heap) (locs : List Loc), PP dg (cw cA ad nh ni (upr c 13 (fs_w1 (tmem (c 10) (c 1) k) (c 13) (cs_nw (fs_sum (tmem (c 10) (c 1) k) (c 13) n) tg (ct (tmem (c 10) (c 1) k) n)) j))) H → va_D A (cw cA ad nh ni (upr c 13 (fs_w1 (tmem (c 10) (c 1) k) (c 13) (cs_nw (fs_sum (tmem (c 10) (c 1) k) (c 13) n) tg (ct (tmem (c 10) (c 1) k) n)) j))) → va_S A s0.heap H locs → W p l e ({ frames := 2, cells := 0, slots := 0, locals := 49 } : Room) s0 m args below meth ccd H locs 0 0 (MQ below (QcM dg (cw cA ad nh ni (upr c 13 (cs_fit (tmem (c 10) (c 1) k) (c 13) tg n))) none A) args s0 0 0 A) (F0 m 48 ls []) := by
          intro f
          induction f with
          | zero => intro j hm; exact absurd hm (Nat.not_lt_zero _)
          | succ f ih48 =>
            intro j hm48 hj ls hl H locs hP hD hS
            refine lv_iload hx hb dX4_fitGroup_48 (lv_at hl 10 rfl) ?_
            refine lv_iload hx hb dX4_fitGroup_50 (lv_at hl 4 rfl) ?_
            refine lv_icmp_ge (tgt := 112) hx hb dX4_fitGroup_52 (by decide) (fun b52 => ?_) (fun b52 => ?_)
            · skip
              have g52 : n ≤ j := (nI_leI (a := n) (b := j) (by omega) (by omega)).mp b52
              have ej : j = n := by omega
              rw [ej] at hl hP hD
              refine lv_aload_n hx hb dX4_fitGroup_112 rfl (lv_at hl 0 rfl) ?_
              refine lv_aload_n hx hb dX4_fitGroup_113 rfl (lv_at hl 1 rfl) ?_
              refine lv_iload_n hx hb dX4_fitGroup_114 rfl (lv_at hl 2 rfl) ?_
              refine lv_iload hx hb dX4_fitGroup_115 (lv_at hl 4 rfl) ?_
              refine lv_iload hx hb dX4_fitGroup_117 (lv_at hl 9 rfl) ?_
              refine cM S (cc_spread_as l dg cA ad nh ni (upr c 13 (fs_w1 (tmem (c 10) (c 1) k) (c 13) (cs_nw (fs_sum (tmem (c 10) (c 1) k) (c 13) n) tg (ct (tmem (c 10) (c 1) k) n)) n)) k n hn24 (fs_ms (tmem (c 10) (c 1) k) (c 13) (cs_nw (fs_sum (tmem (c 10) (c 1) k) (c 13) n) tg (ct (tmem (c 10) (c 1) k) n)) tg n) _) kX4_73 ⟨rfl, rfl, Nat.le_of_ble_eq_true rfl, Nat.le_of_ble_eq_true rfl⟩ hK hP hD hS hA 14 cl_14 (q := (RX4, TX4, 5)) rfl rfl (As := [.ref (ad 2), .int k, .int (nI n), .int (fs_ms (tmem (c 10) (c 1) k) (c 13) (cs_nw (fs_sum (tmem (c 10) (c 1) k) (c 13) n) tg (ct (tmem (c 10) (c 1) k) n)) tg n)]) rfl hl.1 (rest := []) rfl (Nat.le_of_ble_eq_true rfl) dX4_fitGroup_119 ⟨Nat.le_of_ble_eq_true rfl, Nat.le_of_ble_eq_true rfl⟩ (st1 := []) rfl (fun H locs hP hD hS => ?_)
              exact eMv S hr hlk hP hD hS dX4_fitGroup_122 (by rw [upr_upr]; rfl)
            · skip
              have g52 : ¬ n ≤ j := fun zz => b52 ((nI_leI (a := n) (b := j) (by omega) (by omega)).mpr zz)
              refine lv_aload_n hx hb dX4_fitGroup_55 rfl (lv_at hl 0 rfl) ?_
              refine lv_aload_n hx hb dX4_fitGroup_56 rfl (lv_at hl 1 rfl) ?_
              refine lv_iload_n hx hb dX4_fitGroup_57 rfl (lv_at hl 2 rfl) ?_
              refine lv_iload hx hb dX4_fitGroup_58 (lv_at hl 10 rfl) ?_
              refine cR S (cc_inG_as l dg cA ad nh ni (upr c 13 (fs_w1 (tmem (c 10) (c 1) k) (c 13) (cs_nw (fs_sum (tmem (c 10) (c 1) k) (c 13) n) tg (ct (tmem (c 10) (c 1) k) n)) j)) k j (by omega)) kX4_69 ⟨rfl, rfl, Nat.le_of_ble_eq_true rfl, Nat.le_of_ble_eq_true rfl⟩ hK hP 14 cl_14 (q := (RX4, TX4, 5)) rfl rfl (As := [.ref (ad 2), .int k, .int (nI j)]) rfl hl.1 (rest := []) rfl (Nat.le_of_ble_eq_true rfl) dX4_fitGroup_60 ⟨Nat.le_of_ble_eq_true rfl, Nat.le_of_ble_eq_true rfl⟩ (st1 := [.int (b2 (tmem (c 10) (c 1) k j))]) rfl ?_
              refine lv_if_eq (tgt := 106) hx hb dX4_fitGroup_63 (by decide) (fun b63 => ?_) (fun b63 => ?_)
              · skip
                have c63 := b2_0 b63
                refine lv_iinc (v := nI (j + 1)) (lv' := [(10, .int (nI (j + 1))), (0, .ref (ad 14)), (1, .ref (ad 2)), (2, .int k), (3, .int tg), (4, .int (nI n)), (5, .int (nI (ct (tmem (c 10) (c 1) k) n))), (6, .int (fs_sum (tmem (c 10) (c 1) k) (c 13) n)), (7, .int 1), (8, .int (nI (ct (tmem (c 10) (c 1) k) n))), (9, .int (fs_ms (tmem (c 10) (c 1) k) (c 13) (cs_nw (fs_sum (tmem (c 10) (c 1) k) (c 13) n) tg (ct (tmem (c 10) (c 1) k) n)) tg j))]) hx hb dX4_fitGroup_106 hl (k := 10) rfl (nI_1 j) (by decide) rfl (fun ls hl => ?_)
                refine lv_goto (tgt := 48) hx hb dX4_fitGroup_109 (by decide) ?_
                have es : (cw cA ad nh ni (upr c 13 (fs_w1 (tmem (c 10) (c 1) k) (c 13) (cs_nw (fs_sum (tmem (c 10) (c 1) k) (c 13) n) tg (ct (tmem (c 10) (c 1) k) n)) j))) = (cw cA ad nh ni (upr c 13 (fs_w1 (tmem (c 10) (c 1) k) (c 13) (cs_nw (fs_sum (tmem (c 10) (c 1) k) (c 13) n) tg (ct (tmem (c 10) (c 1) k) n)) (j + 1)))) := by rw [fs_w1_f c63]
                rw [es] at hP hD
                exact ih48 (j + 1) (by omega) (by omega) ls (lv_cast (lv_sub (l' := [(0, .ref (ad 14)), (1, .ref (ad 2)), (2, .int k), (3, .int tg), (4, .int (nI n)), (5, .int (nI (ct (tmem (c 10) (c 1) k) n))), (6, .int (fs_sum (tmem (c 10) (c 1) k) (c 13) n)), (7, .int 1), (8, .int (nI (ct (tmem (c 10) (c 1) k) n))), (9, .int (fs_ms (tmem (c 10) (c 1) k) (c 13) (cs_nw (fs_sum (tmem (c 10) (c 1) k) (c 13) n) tg (ct (tmem (c 10) (c 1) k) n)) tg j)), (10, .int (nI (j + 1)))]) hl [1, 2, 3, 4, 5, 6, 7, 8, 9, 10, 0] rfl) (by rw [fs_ms_f c63])) _ _ hP hD hS
              · skip
                have c63 := b2_1 b63
                refine lv_aload_n hx hb dX4_fitGroup_66 rfl (lv_at hl 0 rfl) ?_
                refine gf S hK hP 14 cl_14 fX4_22 (v := .ref (ad 18)) ct1_3 dX4_fitGroup_67 ?_
                refine lv_iload hx hb dX4_fitGroup_70 (lv_at hl 10 rfl) ?_
                refine lv_iload hx hb dX4_fitGroup_72 (lv_at hl 7 rfl) ?_
                refine lv_if_eq (tgt := 81) hx hb dX4_fitGroup_74 (by decide) (fun b74 => ?_) (fun b74 => ?_)
                · skip
                  exact absurd b74 b24
                · skip
                  refine lv_iconst (v := 1) hx hb dX4_fitGroup_77 (by decide) ?_
                  refine lv_goto (tgt := 88) hx hb dX4_fitGroup_78 (by decide) ?_
                  refine lv_iload_n hx hb dX4_fitGroup_88 rfl (lv_at hl 3 rfl) ?_
                  refine lv_imul hx hb dX4_fitGroup_89 ?_
                  refine lv_iload hx hb dX4_fitGroup_90 (lv_at hl 8 rfl) ?_
                  refine lv_idiv hx hb dX4_fitGroup_92 (nI_ne0 hm (by omega)) ?_
                  refine ist S hK hP hD hS 18 cl_18 (j := j) (x := (1 * tg) / (nI (ct (tmem (c 10) (c 1) k) n))) (by omega) (Nat.le_of_ble_eq_true rfl) cs_18 dX4_fitGroup_93 (fun H locs hP hD hS => ?_)
                  refine lv_iload hx hb dX4_fitGroup_94 (lv_at hl 9 rfl) ?_
                  refine lv_aload_n hx hb dX4_fitGroup_96 rfl (lv_at hl 0 rfl) ?_
                  refine gf S hK hP 14 cl_14 fX4_22 (v := .ref (ad 18)) ct1_3 dX4_fitGroup_97 ?_
                  refine lv_iload hx hb dX4_fitGroup_100 (lv_at hl 10 rfl) ?_
                  refine ild S hK hP 18 cl_18 (j := j) (by omega) (Nat.le_of_ble_eq_true rfl) dX4_fitGroup_102 ?_
                  refine lv_as (y := (1 * tg) / (nI (ct (tmem (c 10) (c 1) k) n))) up_at ?_
                  refine lv_isub hx hb dX4_fitGroup_103 ?_
                  refine lv_istore (lv' := [(9, .int ((fs_ms (tmem (c 10) (c 1) k) (c 13) (cs_nw (fs_sum (tmem (c 10) (c 1) k) (c 13) n) tg (ct (tmem (c 10) (c 1) k) n)) tg j) - ((1 * tg) / (nI (ct (tmem (c 10) (c 1) k) n))))), (0, .ref (ad 14)), (1, .ref (ad 2)), (2, .int k), (3, .int tg), (4, .int (nI n)), (5, .int (nI (ct (tmem (c 10) (c 1) k) n))), (6, .int (fs_sum (tmem (c 10) (c 1) k) (c 13) n)), (7, .int 1), (8, .int (nI (ct (tmem (c 10) (c 1) k) n))), (10, .int (nI j))]) hx hb dX4_fitGroup_104 hl (by decide) rfl (fun ls hl => ?_)
                  refine lv_iinc (v := nI (j + 1)) (lv' := [(10, .int (nI (j + 1))), (9, .int ((fs_ms (tmem (c 10) (c 1) k) (c 13) (cs_nw (fs_sum (tmem (c 10) (c 1) k) (c 13) n) tg (ct (tmem (c 10) (c 1) k) n)) tg j) - ((1 * tg) / (nI (ct (tmem (c 10) (c 1) k) n))))), (0, .ref (ad 14)), (1, .ref (ad 2)), (2, .int k), (3, .int tg), (4, .int (nI n)), (5, .int (nI (ct (tmem (c 10) (c 1) k) n))), (6, .int (fs_sum (tmem (c 10) (c 1) k) (c 13) n)), (7, .int 1), (8, .int (nI (ct (tmem (c 10) (c 1) k) n)))]) hx hb dX4_fitGroup_106 hl (k := 10) rfl (nI_1 j) (by decide) rfl (fun ls hl => ?_)
                  refine lv_goto (tgt := 48) hx hb dX4_fitGroup_109 (by decide) ?_
                  have es : (cw cA ad nh ni (up (upr c 13 (fs_w1 (tmem (c 10) (c 1) k) (c 13) (cs_nw (fs_sum (tmem (c 10) (c 1) k) (c 13) n) tg (ct (tmem (c 10) (c 1) k) n)) j)) 13 j ((1 * tg) / (nI (ct (tmem (c 10) (c 1) k) n))))) = (cw cA ad nh ni (upr c 13 (fs_w1 (tmem (c 10) (c 1) k) (c 13) (cs_nw (fs_sum (tmem (c 10) (c 1) k) (c 13) n) tg (ct (tmem (c 10) (c 1) k) n)) (j + 1)))) := by rw [up_upr, fs_w1_t c63, (show (cs_nw (fs_sum (tmem (c 10) (c 1) k) (c 13) n) tg (ct (tmem (c 10) (c 1) k) n)) (c 13 j) = _ by unfold cs_nw; rw [if_neg b12])]
                  rw [es] at hP hD
                  exact ih48 (j + 1) (by omega) (by omega) ls (lv_cast (lv_sub (l' := [(0, .ref (ad 14)), (1, .ref (ad 2)), (2, .int k), (3, .int tg), (4, .int (nI n)), (5, .int (nI (ct (tmem (c 10) (c 1) k) n))), (6, .int (fs_sum (tmem (c 10) (c 1) k) (c 13) n)), (7, .int 1), (8, .int (nI (ct (tmem (c 10) (c 1) k) n))), (9, .int ((fs_ms (tmem (c 10) (c 1) k) (c 13) (cs_nw (fs_sum (tmem (c 10) (c 1) k) (c 13) n) tg (ct (tmem (c 10) (c 1) k) n)) tg j) - ((1 * tg) / (nI (ct (tmem (c 10) (c 1) k) n))))), (10, .int (nI (j + 1)))]) hl [2, 3, 4, 5, 6, 7, 8, 9, 10, 1, 0] rfl) (by rw [fs_ms_t c63, (show (cs_nw (fs_sum (tmem (c 10) (c 1) k) (c 13) n) tg (ct (tmem (c 10) (c 1) k) n)) (c 13 j) = _ by unfold cs_nw; rw [if_neg b12])])) _ _ hP hD hS
        have es : (cw cA ad nh ni c) = (cw cA ad nh ni (upr c 13 (fs_w1 (tmem (c 10) (c 1) k) (c 13) (cs_nw (fs_sum (tmem (c 10) (c 1) k) (c 13) n) tg (ct (tmem (c 10) (c 1) k) n)) 0))) := congrArg (cw cA ad nh ni) upr_self.symm
        rw [es] at hP hD
        exact hL48 _ 0 (Nat.lt_succ_self _) (Nat.zero_le _) ls (lv_cast (lv_sub (l' := [(0, .ref (ad 14)), (1, .ref (ad 2)), (2, .int k), (3, .int tg), (4, .int (nI n)), (5, .int (nI (ct (tmem (c 10) (c 1) k) n))), (6, .int (fs_sum (tmem (c 10) (c 1) k) (c 13) n)), (7, .int 1), (8, .int (nI (ct (tmem (c 10) (c 1) k) n))), (9, .int tg), (10, .int 0)]) hl [5, 6, 7, 8, 9, 10, 4, 3, 2, 1, 0] rfl) (by rfl)) _ _ hP hD hS
      · skip
        have g38 : ¬ 0 < ct (tmem (c 10) (c 1) k) n := fun zz => b38 ((nI_ltI (a := 0) (b := ct (tmem (c 10) (c 1) k) n) (by omega) (by omega)).mpr zz)
        exact absurd hm g38

set_option maxHeartbeats 4000000 in
set_option maxRecDepth 100000 in
theorem cc_memG_al (l : Launch) (dg : va_G) (cA : Nat → ClassId) (ad : Nat → Nat) (nh ni : Nat) (c : St) (k : Int32) (n : Nat) (hn24 : n ≤ 24) : MetR l dg cA yX4_membersOfGroup cX4_membersOfGroup 6 (some .int) ({ frames := 1, cells := 0, slots := 0, locals := 23 } : Room) (cw cA ad nh ni c) [.ref (ad 14), .ref (ad 3), .int k, .int (nI n)] (some (.int (nI (ct (tmem (c 10) (c 2) k) n)))) := by
  refine ofR (by decide) (Nat.le_of_ble_eq_true rfl) (own := RX4) rfl (fun p e s0 m args below meth ccd ls S hr hlk hargs hK hP hl => ?_)
  have hx := S.1
  have hb := S.2.1
  have hl : lv_has ls 6 [(0, .ref (ad 14)), (1, .ref (ad 3)), (2, .int k), (3, .int (nI n))] := hl
  refine lv_iconst (v := 0) hx hb dX4_membersOfGroup_0 (by decide) ?_
  refine lv_istore (lv' := [(4, .int 0), (0, .ref (ad 14)), (1, .ref (ad 3)), (2, .int k), (3, .int (nI n))]) hx hb dX4_membersOfGroup_1 hl (by decide) rfl (fun ls hl => ?_)
  refine lv_iconst (v := 0) hx hb dX4_membersOfGroup_3 (by decide) ?_
  refine lv_istore (lv' := [(5, .int 0), (4, .int 0), (0, .ref (ad 14)), (1, .ref (ad 3)), (2, .int k), (3, .int (nI n))]) hx hb dX4_membersOfGroup_4 hl (by decide) rfl (fun ls hl => ?_)
  have hL6 : ∀ (f : Nat) (j : Nat), n - j < f → (j ≤ n) → ∀ ls, lv_has ls 6 [(0, .ref (ad 14)), (1, .ref (ad 3)), (2, .int k), (3, .int (nI n)), (4, .int (nI (ct (tmem (c 10) (c 2) k) j))), (5, .int (nI j))] → W p l e ({ frames := 1, cells := 0, slots := 0, locals := 23 } : Room) s0 m args below meth ccd s0.heap [] 0 0 (MQ below (QcR (some (.int (nI (ct (tmem (c 10) (c 2) k) n))))) args s0 0 0 (fun _ => False)) (F0 m 6 ls []) := by
    intro f
    induction f with
    | zero => intro j hm; exact absurd hm (Nat.not_lt_zero _)
    | succ f ih6 =>
      intro j hm6 hj ls hl
      refine lv_iload hx hb dX4_membersOfGroup_6 (lv_at hl 5 rfl) ?_
      refine lv_iload_n hx hb dX4_membersOfGroup_8 rfl (lv_at hl 3 rfl) ?_
      refine lv_icmp_ge (tgt := 32) hx hb dX4_membersOfGroup_9 (by decide) (fun b9 => ?_) (fun b9 => ?_)
      · skip
        have g9 : n ≤ j := (nI_leI (a := n) (b := j) (by omega) (by omega)).mp b9
        refine lv_iload hx hb dX4_membersOfGroup_32 (lv_at hl 4 rfl) ?_
        exact eRi S hr hlk dX4_membersOfGroup_34 (by rw [show j = n by omega])
      · skip
        have g9 : ¬ n ≤ j := fun zz => b9 ((nI_leI (a := n) (b := j) (by omega) (by omega)).mpr zz)
        refine lv_aload_n hx hb dX4_membersOfGroup_12 rfl (lv_at hl 0 rfl) ?_
        refine lv_aload_n hx hb dX4_membersOfGroup_13 rfl (lv_at hl 1 rfl) ?_
        refine lv_iload_n hx hb dX4_membersOfGroup_14 rfl (lv_at hl 2 rfl) ?_
        refine lv_iload hx hb dX4_membersOfGroup_15 (lv_at hl 5 rfl) ?_
        refine cR S (cc_inG_al l dg cA ad nh ni c k j (by omega)) kX4_69 ⟨rfl, rfl, Nat.le_of_ble_eq_true rfl, Nat.le_of_ble_eq_true rfl⟩ hK hP 14 cl_14 (q := (RX4, TX4, 5)) rfl rfl (As := [.ref (ad 3), .int k, .int (nI j)]) rfl hl.1 (rest := []) rfl (Nat.le_of_ble_eq_true rfl) dX4_membersOfGroup_17 ⟨Nat.le_of_ble_eq_true rfl, Nat.le_of_ble_eq_true rfl⟩ (st1 := [.int (b2 (tmem (c 10) (c 2) k j))]) rfl ?_
        refine lv_if_eq (tgt := 26) hx hb dX4_membersOfGroup_20 (by decide) (fun b20 => ?_) (fun b20 => ?_)
        · skip
          have c20 := b2_0 b20
          refine lv_iinc (v := nI (j + 1)) (lv' := [(5, .int (nI (j + 1))), (0, .ref (ad 14)), (1, .ref (ad 3)), (2, .int k), (3, .int (nI n)), (4, .int (nI (ct (tmem (c 10) (c 2) k) j)))]) hx hb dX4_membersOfGroup_26 hl (k := 5) rfl (nI_1 j) (by decide) rfl (fun ls hl => ?_)
          refine lv_goto (tgt := 6) hx hb dX4_membersOfGroup_29 (by decide) ?_
          exact ih6 (j + 1) (by omega) (by omega) ls (lv_cast (lv_sub (l' := [(0, .ref (ad 14)), (1, .ref (ad 3)), (2, .int k), (3, .int (nI n)), (4, .int (nI (ct (tmem (c 10) (c 2) k) j))), (5, .int (nI (j + 1)))]) hl [1, 2, 3, 4, 5, 0] rfl) (by rw [ct_f c20]))
        · skip
          have c20 := b2_1 b20
          refine lv_iinc (v := nI (ct (tmem (c 10) (c 2) k) j + 1)) (lv' := [(4, .int (nI (ct (tmem (c 10) (c 2) k) j + 1))), (0, .ref (ad 14)), (1, .ref (ad 3)), (2, .int k), (3, .int (nI n)), (5, .int (nI j))]) hx hb dX4_membersOfGroup_23 hl (k := 4) rfl (nI_1 (ct (tmem (c 10) (c 2) k) j)) (by decide) rfl (fun ls hl => ?_)
          refine lv_iinc (v := nI (j + 1)) (lv' := [(5, .int (nI (j + 1))), (4, .int (nI (ct (tmem (c 10) (c 2) k) j + 1))), (0, .ref (ad 14)), (1, .ref (ad 3)), (2, .int k), (3, .int (nI n))]) hx hb dX4_membersOfGroup_26 hl (k := 5) rfl (nI_1 j) (by decide) rfl (fun ls hl => ?_)
          refine lv_goto (tgt := 6) hx hb dX4_membersOfGroup_29 (by decide) ?_
          exact ih6 (j + 1) (by omega) (by omega) ls (lv_cast (lv_sub (l' := [(0, .ref (ad 14)), (1, .ref (ad 3)), (2, .int k), (3, .int (nI n)), (4, .int (nI (ct (tmem (c 10) (c 2) k) j + 1))), (5, .int (nI (j + 1)))]) hl [2, 3, 4, 5, 1, 0] rfl) (by rw [ct_t c20]))
  exact hL6 _ 0 (Nat.lt_succ_self _) (Nat.zero_le _) ls (lv_cast (lv_sub (l' := [(0, .ref (ad 14)), (1, .ref (ad 3)), (2, .int k), (3, .int (nI n)), (4, .int 0), (5, .int 0)]) hl [2, 3, 4, 5, 1, 0] rfl) (by rfl))

set_option maxHeartbeats 4000000 in
set_option maxRecDepth 100000 in
theorem cc_sumG_al (l : Launch) (dg : va_G) (cA : Nat → ClassId) (ad : Nat → Nat) (nh ni : Nat) (c : St) (k : Int32) (n : Nat) (hn24 : n ≤ 24) : MetR l dg cA yX4_sumOfGroup cX4_sumOfGroup 6 (some .int) ({ frames := 1, cells := 0, slots := 0, locals := 23 } : Room) (cw cA ad nh ni c) [.ref (ad 14), .ref (ad 3), .int k, .int (nI n)] (some (.int (fs_sum (tmem (c 10) (c 2) k) (c 13) n))) := by
  refine ofR (by decide) (Nat.le_of_ble_eq_true rfl) (own := RX4) rfl (fun p e s0 m args below meth ccd ls S hr hlk hargs hK hP hl => ?_)
  have hx := S.1
  have hb := S.2.1
  have hl : lv_has ls 6 [(0, .ref (ad 14)), (1, .ref (ad 3)), (2, .int k), (3, .int (nI n))] := hl
  refine lv_iconst (v := 0) hx hb dX4_sumOfGroup_0 (by decide) ?_
  refine lv_istore (lv' := [(4, .int 0), (0, .ref (ad 14)), (1, .ref (ad 3)), (2, .int k), (3, .int (nI n))]) hx hb dX4_sumOfGroup_1 hl (by decide) rfl (fun ls hl => ?_)
  refine lv_iconst (v := 0) hx hb dX4_sumOfGroup_3 (by decide) ?_
  refine lv_istore (lv' := [(5, .int 0), (4, .int 0), (0, .ref (ad 14)), (1, .ref (ad 3)), (2, .int k), (3, .int (nI n))]) hx hb dX4_sumOfGroup_4 hl (by decide) rfl (fun ls hl => ?_)
  have hL6 : ∀ (f : Nat) (j : Nat), n - j < f → (j ≤ n) → ∀ ls, lv_has ls 6 [(0, .ref (ad 14)), (1, .ref (ad 3)), (2, .int k), (3, .int (nI n)), (4, .int (fs_sum (tmem (c 10) (c 2) k) (c 13) j)), (5, .int (nI j))] → W p l e ({ frames := 1, cells := 0, slots := 0, locals := 23 } : Room) s0 m args below meth ccd s0.heap [] 0 0 (MQ below (QcR (some (.int (fs_sum (tmem (c 10) (c 2) k) (c 13) n)))) args s0 0 0 (fun _ => False)) (F0 m 6 ls []) := by
    intro f
    induction f with
    | zero => intro j hm; exact absurd hm (Nat.not_lt_zero _)
    | succ f ih6 =>
      intro j hm6 hj ls hl
      refine lv_iload hx hb dX4_sumOfGroup_6 (lv_at hl 5 rfl) ?_
      refine lv_iload_n hx hb dX4_sumOfGroup_8 rfl (lv_at hl 3 rfl) ?_
      refine lv_icmp_ge (tgt := 41) hx hb dX4_sumOfGroup_9 (by decide) (fun b9 => ?_) (fun b9 => ?_)
      · skip
        have g9 : n ≤ j := (nI_leI (a := n) (b := j) (by omega) (by omega)).mp b9
        refine lv_iload hx hb dX4_sumOfGroup_41 (lv_at hl 4 rfl) ?_
        exact eRi S hr hlk dX4_sumOfGroup_43 (by rw [show j = n by omega])
      · skip
        have g9 : ¬ n ≤ j := fun zz => b9 ((nI_leI (a := n) (b := j) (by omega) (by omega)).mpr zz)
        refine lv_aload_n hx hb dX4_sumOfGroup_12 rfl (lv_at hl 0 rfl) ?_
        refine lv_aload_n hx hb dX4_sumOfGroup_13 rfl (lv_at hl 1 rfl) ?_
        refine lv_iload_n hx hb dX4_sumOfGroup_14 rfl (lv_at hl 2 rfl) ?_
        refine lv_iload hx hb dX4_sumOfGroup_15 (lv_at hl 5 rfl) ?_
        refine cR S (cc_inG_al l dg cA ad nh ni c k j (by omega)) kX4_69 ⟨rfl, rfl, Nat.le_of_ble_eq_true rfl, Nat.le_of_ble_eq_true rfl⟩ hK hP 14 cl_14 (q := (RX4, TX4, 5)) rfl rfl (As := [.ref (ad 3), .int k, .int (nI j)]) rfl hl.1 (rest := []) rfl (Nat.le_of_ble_eq_true rfl) dX4_sumOfGroup_17 ⟨Nat.le_of_ble_eq_true rfl, Nat.le_of_ble_eq_true rfl⟩ (st1 := [.int (b2 (tmem (c 10) (c 2) k j))]) rfl ?_
        refine lv_if_eq (tgt := 35) hx hb dX4_sumOfGroup_20 (by decide) (fun b20 => ?_) (fun b20 => ?_)
        · skip
          have c20 := b2_0 b20
          refine lv_iinc (v := nI (j + 1)) (lv' := [(5, .int (nI (j + 1))), (0, .ref (ad 14)), (1, .ref (ad 3)), (2, .int k), (3, .int (nI n)), (4, .int (fs_sum (tmem (c 10) (c 2) k) (c 13) j))]) hx hb dX4_sumOfGroup_35 hl (k := 5) rfl (nI_1 j) (by decide) rfl (fun ls hl => ?_)
          refine lv_goto (tgt := 6) hx hb dX4_sumOfGroup_38 (by decide) ?_
          exact ih6 (j + 1) (by omega) (by omega) ls (lv_cast (lv_sub (l' := [(0, .ref (ad 14)), (1, .ref (ad 3)), (2, .int k), (3, .int (nI n)), (4, .int (fs_sum (tmem (c 10) (c 2) k) (c 13) j)), (5, .int (nI (j + 1)))]) hl [1, 2, 3, 4, 5, 0] rfl) (by rw [fs_sum_f c20]))
        · skip
          have c20 := b2_1 b20
          refine lv_iload hx hb dX4_sumOfGroup_23 (lv_at hl 4 rfl) ?_
          refine lv_aload_n hx hb dX4_sumOfGroup_25 rfl (lv_at hl 0 rfl) ?_
          refine gf S hK hP 14 cl_14 fX4_22 (v := .ref (ad 18)) ct1_3 dX4_sumOfGroup_26 ?_
          refine lv_iload hx hb dX4_sumOfGroup_29 (lv_at hl 5 rfl) ?_
          refine ild S hK hP 18 cl_18 (j := j) (by omega) (Nat.le_of_ble_eq_true rfl) dX4_sumOfGroup_31 ?_
          refine lv_as (y := c 13 j) rfl ?_
          refine lv_iadd hx hb dX4_sumOfGroup_32 ?_
          refine lv_istore (lv' := [(4, .int ((fs_sum (tmem (c 10) (c 2) k) (c 13) j) + (c 13 j))), (0, .ref (ad 14)), (1, .ref (ad 3)), (2, .int k), (3, .int (nI n)), (5, .int (nI j))]) hx hb dX4_sumOfGroup_33 hl (by decide) rfl (fun ls hl => ?_)
          refine lv_iinc (v := nI (j + 1)) (lv' := [(5, .int (nI (j + 1))), (4, .int ((fs_sum (tmem (c 10) (c 2) k) (c 13) j) + (c 13 j))), (0, .ref (ad 14)), (1, .ref (ad 3)), (2, .int k), (3, .int (nI n))]) hx hb dX4_sumOfGroup_35 hl (k := 5) rfl (nI_1 j) (by decide) rfl (fun ls hl => ?_)
          refine lv_goto (tgt := 6) hx hb dX4_sumOfGroup_38 (by decide) ?_
          exact ih6 (j + 1) (by omega) (by omega) ls (lv_cast (lv_sub (l' := [(0, .ref (ad 14)), (1, .ref (ad 3)), (2, .int k), (3, .int (nI n)), (4, .int ((fs_sum (tmem (c 10) (c 2) k) (c 13) j) + (c 13 j))), (5, .int (nI (j + 1)))]) hl [2, 3, 4, 5, 1, 0] rfl) (by rw [fs_sum_t c20]))
  exact hL6 _ 0 (Nat.lt_succ_self _) (Nat.zero_le _) ls (lv_cast (lv_sub (l' := [(0, .ref (ad 14)), (1, .ref (ad 3)), (2, .int k), (3, .int (nI n)), (4, .int 0), (5, .int 0)]) hl [2, 3, 4, 5, 1, 0] rfl) (by rfl))

set_option maxHeartbeats 4000000 in
set_option maxRecDepth 100000 in
theorem cc_spread_al (l : Launch) (dg : va_G) (cA : Nat → ClassId) (ad : Nat → Nat) (nh ni : Nat) (c : St) (k : Int32) (n : Nat) (hn24 : n ≤ 24) (ms : Int32) (sz : Nat) : MetM l dg cA yX4_spreadMissing cX4_spreadMissing 7 none ({ frames := 1, cells := 0, slots := 0, locals := 23 } : Room) 0 0 (cw cA ad nh ni c) sz [.ref (ad 14), .ref (ad 3), .int k, .int (nI n), .int ms] (cw cA ad nh ni (upr c 13 (fs_w2 (tmem (c 10) (c 2) k) (c 13) ms n).1)) none := by
  refine ofM (by decide) (Nat.le_of_ble_eq_true rfl) (own := RX4) rfl (fun p e s0 m args below meth ccd ls A hAe S hr hlk hname hargs hK hP hD hS hA hsz hl => ?_)
  have hx := S.1
  have hb := S.2.1
  have hl : lv_has ls 7 [(0, .ref (ad 14)), (1, .ref (ad 3)), (2, .int k), (3, .int (nI n)), (4, .int ms)] := hl
  refine lv_iload hx hb dX4_spreadMissing_0 (lv_at hl 4 rfl) ?_
  refine lv_istore (lv' := [(5, .int ms), (0, .ref (ad 14)), (1, .ref (ad 3)), (2, .int k), (3, .int (nI n)), (4, .int ms)]) hx hb dX4_spreadMissing_2 hl (by decide) rfl (fun ls hl => ?_)
  refine lv_iconst (v := 0) hx hb dX4_spreadMissing_4 (by decide) ?_
  refine lv_istore (lv' := [(6, .int 0), (5, .int ms), (0, .ref (ad 14)), (1, .ref (ad 3)), (2, .int k), (3, .int (nI n)), (4, .int ms)]) hx hb dX4_spreadMissing_5 hl (by decide) rfl (fun ls hl => ?_)
  have hL7 : ∀ (f : Nat) (j : Nat), n - j < f → (j ≤ n) → ∀ ls, lv_has ls 7 [(0, .ref (ad 14)), (1, .ref (ad 3)), (2, .int k), (3, .int (nI n)), (4, .int ms), (5, .int ((fs_w2 (tmem (c 10) (c 2) k) (c 13) ms j).2)), (6, .int (nI j))] → ∀ (H : Heap) (locs : List Loc), PP dg (cw cA ad nh ni (upr c 13 (fs_w2 (tmem (c 10) (c 2) k) (c 13) ms j).1)) H → va_D A (cw cA ad nh ni (upr c 13 (fs_w2 (tmem (c 10) (c 2) k) (c 13) ms j).1)) → va_S A s0.heap H locs → W p l e ({ frames := 1, cells := 0, slots := 0, locals := 23 } : Room) s0 m args below meth ccd H locs 0 0 (MQ below (QcM dg (cw cA ad nh ni (upr c 13 (fs_w2 (tmem (c 10) (c 2) k) (c 13) ms n).1)) none A) args s0 0 0 A) (F0 m 7 ls []) := by
    intro f
    induction f with
    | zero => intro j hm; exact absurd hm (Nat.not_lt_zero _)
    | succ f ih7 =>
      intro j hm7 hj ls hl H locs hP hD hS
      refine lv_iload hx hb dX4_spreadMissing_7 (lv_at hl 6 rfl) ?_
      refine lv_iload_n hx hb dX4_spreadMissing_9 rfl (lv_at hl 3 rfl) ?_
      refine lv_icmp_ge (tgt := 49) hx hb dX4_spreadMissing_10 (by decide) (fun b10 => ?_) (fun b10 => ?_)
      · skip
        have g10 : n ≤ j := (nI_leI (a := n) (b := j) (by omega) (by omega)).mp b10
        exact eMv S hr hlk hP hD hS dX4_spreadMissing_49 (by rw [show j = n by omega])
      · skip
        have g10 : ¬ n ≤ j := fun zz => b10 ((nI_leI (a := n) (b := j) (by omega) (by omega)).mpr zz)
        refine lv_iload hx hb dX4_spreadMissing_13 (lv_at hl 5 rfl) ?_
        refine lv_if_le (tgt := 49) hx hb dX4_spreadMissing_15 (by decide) (fun b15 => ?_) (fun b15 => ?_)
        · skip
          exact eMv S hr hlk hP hD hS dX4_spreadMissing_49 (by rw [fs_w2_end (fun z => Int32.not_lt.mpr b15 z) hj])
        · skip
          refine lv_aload_n hx hb dX4_spreadMissing_18 rfl (lv_at hl 0 rfl) ?_
          refine lv_aload_n hx hb dX4_spreadMissing_19 rfl (lv_at hl 1 rfl) ?_
          refine lv_iload_n hx hb dX4_spreadMissing_20 rfl (lv_at hl 2 rfl) ?_
          refine lv_iload hx hb dX4_spreadMissing_21 (lv_at hl 6 rfl) ?_
          refine cR S (cc_inG_al l dg cA ad nh ni (upr c 13 (fs_w2 (tmem (c 10) (c 2) k) (c 13) ms j).1) k j (by omega)) kX4_69 ⟨rfl, rfl, Nat.le_of_ble_eq_true rfl, Nat.le_of_ble_eq_true rfl⟩ hK hP 14 cl_14 (q := (RX4, TX4, 5)) rfl rfl (As := [.ref (ad 3), .int k, .int (nI j)]) rfl hl.1 (rest := []) rfl (Nat.le_of_ble_eq_true rfl) dX4_spreadMissing_23 ⟨Nat.le_of_ble_eq_true rfl, Nat.le_of_ble_eq_true rfl⟩ (st1 := [.int (b2 (tmem (c 10) (c 2) k j))]) rfl ?_
          refine lv_if_eq (tgt := 43) hx hb dX4_spreadMissing_26 (by decide) (fun b26 => ?_) (fun b26 => ?_)
          · skip
            have c26 := b2_0 b26
            refine lv_iinc (v := nI (j + 1)) (lv' := [(6, .int (nI (j + 1))), (0, .ref (ad 14)), (1, .ref (ad 3)), (2, .int k), (3, .int (nI n)), (4, .int ms), (5, .int ((fs_w2 (tmem (c 10) (c 2) k) (c 13) ms j).2))]) hx hb dX4_spreadMissing_43 hl (k := 6) rfl (nI_1 j) (by decide) rfl (fun ls hl => ?_)
            refine lv_goto (tgt := 7) hx hb dX4_spreadMissing_46 (by decide) ?_
            have es : (cw cA ad nh ni (upr c 13 (fs_w2 (tmem (c 10) (c 2) k) (c 13) ms j).1)) = (cw cA ad nh ni (upr c 13 (fs_w2 (tmem (c 10) (c 2) k) (c 13) ms (j + 1)).1)) := by rw [fs_w2_f c26]
            rw [es] at hP hD
            exact ih7 (j + 1) (by omega) (by omega) ls (lv_cast (lv_sub (l' := [(0, .ref (ad 14)), (1, .ref (ad 3)), (2, .int k), (3, .int (nI n)), (4, .int ms), (5, .int ((fs_w2 (tmem (c 10) (c 2) k) (c 13) ms j).2)), (6, .int (nI (j + 1)))]) hl [1, 2, 3, 4, 5, 6, 0] rfl) (by rw [fs_w2_f c26])) _ _ hP hD hS
          · skip
            have c26 := b2_1 b26
            refine lv_aload_n hx hb dX4_spreadMissing_29 rfl (lv_at hl 0 rfl) ?_
            refine gf S hK hP 14 cl_14 fX4_22 (v := .ref (ad 18)) ct1_3 dX4_spreadMissing_30 ?_
            refine lv_iload hx hb dX4_spreadMissing_33 (lv_at hl 6 rfl) ?_
            refine lv_dup2_11 hx hb dX4_spreadMissing_35 rfl rfl ?_
            refine ild S hK hP 18 cl_18 (j := j) (by omega) (Nat.le_of_ble_eq_true rfl) dX4_spreadMissing_36 ?_
            refine lv_as (y := ((fs_w2 (tmem (c 10) (c 2) k) (c 13) ms j).1) j) rfl ?_
            refine lv_iconst (v := 1) hx hb dX4_spreadMissing_37 (by decide) ?_
            refine lv_iadd hx hb dX4_spreadMissing_38 ?_
            refine ist S hK hP hD hS 18 cl_18 (j := j) (x := (((fs_w2 (tmem (c 10) (c 2) k) (c 13) ms j).1) j) + 1) (by omega) (Nat.le_of_ble_eq_true rfl) cs_18 dX4_spreadMissing_39 (fun H locs hP hD hS => ?_)
            refine lv_iinc (v := ((fs_w2 (tmem (c 10) (c 2) k) (c 13) ms j).2) + (-1)) (lv' := [(5, .int (((fs_w2 (tmem (c 10) (c 2) k) (c 13) ms j).2) + (-1))), (0, .ref (ad 14)), (1, .ref (ad 3)), (2, .int k), (3, .int (nI n)), (4, .int ms), (6, .int (nI j))]) hx hb dX4_spreadMissing_40 hl (k := 5) rfl (by rw [i32_m1]) (by decide) rfl (fun ls hl => ?_)
            refine lv_iinc (v := nI (j + 1)) (lv' := [(6, .int (nI (j + 1))), (5, .int (((fs_w2 (tmem (c 10) (c 2) k) (c 13) ms j).2) + (-1))), (0, .ref (ad 14)), (1, .ref (ad 3)), (2, .int k), (3, .int (nI n)), (4, .int ms)]) hx hb dX4_spreadMissing_43 hl (k := 6) rfl (nI_1 j) (by decide) rfl (fun ls hl => ?_)
            refine lv_goto (tgt := 7) hx hb dX4_spreadMissing_46 (by decide) ?_
            have es : (cw cA ad nh ni (up (upr c 13 (fs_w2 (tmem (c 10) (c 2) k) (c 13) ms j).1) 13 j ((((fs_w2 (tmem (c 10) (c 2) k) (c 13) ms j).1) j) + 1))) = (cw cA ad nh ni (upr c 13 (fs_w2 (tmem (c 10) (c 2) k) (c 13) ms (j + 1)).1)) := by rw [up_upr, fs_w2_t c26 (Int32.not_le.mp b15)]
            rw [es] at hP hD
            exact ih7 (j + 1) (by omega) (by omega) ls (lv_cast (lv_sub (l' := [(0, .ref (ad 14)), (1, .ref (ad 3)), (2, .int k), (3, .int (nI n)), (4, .int ms), (5, .int (((fs_w2 (tmem (c 10) (c 2) k) (c 13) ms j).2) + (-1))), (6, .int (nI (j + 1)))]) hl [2, 3, 4, 5, 6, 1, 0] rfl) (by rw [fs_w2_t c26 (Int32.not_le.mp b15)])) _ _ hP hD hS
  have es : (cw cA ad nh ni c) = (cw cA ad nh ni (upr c 13 (fs_w2 (tmem (c 10) (c 2) k) (c 13) ms 0).1)) := congrArg (cw cA ad nh ni) upr_self.symm
  rw [es] at hP hD
  exact hL7 _ 0 (Nat.lt_succ_self _) (Nat.zero_le _) ls (lv_cast (lv_sub (l' := [(0, .ref (ad 14)), (1, .ref (ad 3)), (2, .int k), (3, .int (nI n)), (4, .int ms), (5, .int ms), (6, .int 0)]) hl [2, 3, 4, 5, 6, 1, 0] rfl) (by rfl)) _ _ hP hD hS

set_option maxHeartbeats 4000000 in
set_option maxRecDepth 100000 in
theorem cc_fitG_al (l : Launch) (dg : va_G) (cA : Nat → ClassId) (ad : Nat → Nat) (nh ni : Nat) (c : St) (k tg : Int32) (n : Nat) (hn24 : n ≤ 24) (hm : 0 < ct (tmem (c 10) (c 2) k) n) (sz : Nat) : MetM l dg cA yX4_fitGroup cX4_fitGroup 11 none ({ frames := 2, cells := 0, slots := 0, locals := 49 } : Room) 0 0 (cw cA ad nh ni c) sz [.ref (ad 14), .ref (ad 3), .int k, .int tg, .int (nI n), .int (nI (ct (tmem (c 10) (c 2) k) n))] (cw cA ad nh ni (upr c 13 (cs_fit (tmem (c 10) (c 2) k) (c 13) tg n))) none := by
  refine ofM (by decide) (Nat.le_of_ble_eq_true rfl) (own := RX4) rfl (fun p e s0 m args below meth ccd ls A hAe S hr hlk hname hargs hK hP hD hS hA hsz hl => ?_)
  have hx := S.1
  have hb := S.2.1
  have hl : lv_has ls 11 [(0, .ref (ad 14)), (1, .ref (ad 3)), (2, .int k), (3, .int tg), (4, .int (nI n)), (5, .int (nI (ct (tmem (c 10) (c 2) k) n)))] := hl
  have hctl := ct_le (tmem (c 10) (c 2) k) n
  refine lv_aload_n hx hb dX4_fitGroup_0 rfl (lv_at hl 0 rfl) ?_
  refine lv_aload_n hx hb dX4_fitGroup_1 rfl (lv_at hl 1 rfl) ?_
  refine lv_iload_n hx hb dX4_fitGroup_2 rfl (lv_at hl 2 rfl) ?_
  refine lv_iload hx hb dX4_fitGroup_3 (lv_at hl 4 rfl) ?_
  refine cR S (cc_sumG_al l dg cA ad nh ni c k n hn24) kX4_66 ⟨rfl, rfl, Nat.le_of_ble_eq_true rfl, Nat.le_of_ble_eq_true rfl⟩ hK hP 14 cl_14 (q := (RX4, TX4, 5)) rfl rfl (As := [.ref (ad 3), .int k, .int (nI n)]) rfl hl.1 (rest := []) rfl (Nat.le_of_ble_eq_true rfl) dX4_fitGroup_5 ⟨Nat.le_of_ble_eq_true rfl, Nat.le_of_ble_eq_true rfl⟩ (st1 := [.int (fs_sum (tmem (c 10) (c 2) k) (c 13) n)]) rfl ?_
  refine lv_istore (lv' := [(6, .int (fs_sum (tmem (c 10) (c 2) k) (c 13) n)), (0, .ref (ad 14)), (1, .ref (ad 3)), (2, .int k), (3, .int tg), (4, .int (nI n)), (5, .int (nI (ct (tmem (c 10) (c 2) k) n)))]) hx hb dX4_fitGroup_8 hl (by decide) rfl (fun ls hl => ?_)
  refine lv_iload hx hb dX4_fitGroup_10 (lv_at hl 0 rfl) ?_
  refine lv_if_gt (tgt := 19) hx hb dX4_fitGroup_12 (by decide) (fun b12 => ?_) (fun b12 => ?_)
  · skip
    refine lv_iconst (v := 0) hx hb dX4_fitGroup_19 (by decide) ?_
    refine lv_istore (lv' := [(7, .int 0), (6, .int (fs_sum (tmem (c 10) (c 2) k) (c 13) n)), (0, .ref (ad 14)), (1, .ref (ad 3)), (2, .int k), (3, .int tg), (4, .int (nI n)), (5, .int (nI (ct (tmem (c 10) (c 2) k) n)))]) hx hb dX4_fitGroup_20 hl (by decide) rfl (fun ls hl => ?_)
    refine lv_iload hx hb dX4_fitGroup_22 (lv_at hl 0 rfl) ?_
    refine lv_if_eq (tgt := 32) hx hb dX4_fitGroup_24 (by decide) (fun b24 => ?_) (fun b24 => ?_)
    · skip
      refine lv_iload hx hb dX4_fitGroup_32 (lv_at hl 1 rfl) ?_
      refine lv_istore (lv' := [(8, .int (fs_sum (tmem (c 10) (c 2) k) (c 13) n)), (7, .int 0), (6, .int (fs_sum (tmem (c 10) (c 2) k) (c 13) n)), (0, .ref (ad 14)), (1, .ref (ad 3)), (2, .int k), (3, .int tg), (4, .int (nI n)), (5, .int (nI (ct (tmem (c 10) (c 2) k) n)))]) hx hb dX4_fitGroup_34 hl (by decide) rfl (fun ls hl => ?_)
      refine lv_iload hx hb dX4_fitGroup_36 (lv_at hl 0 rfl) ?_
      refine lv_if_gt (tgt := 42) hx hb dX4_fitGroup_38 (by decide) (fun b38 => ?_) (fun b38 => ?_)
      · skip
        refine lv_iload_n hx hb dX4_fitGroup_42 rfl (lv_at hl 6 rfl) ?_
        refine lv_istore (lv' := [(9, .int tg), (8, .int (fs_sum (tmem (c 10) (c 2) k) (c 13) n)), (7, .int 0), (6, .int (fs_sum (tmem (c 10) (c 2) k) (c 13) n)), (0, .ref (ad 14)), (1, .ref (ad 3)), (2, .int k), (3, .int tg), (4, .int (nI n)), (5, .int (nI (ct (tmem (c 10) (c 2) k) n)))]) hx hb dX4_fitGroup_43 hl (by decide) rfl (fun ls hl => ?_)
        refine lv_iconst (v := 0) hx hb dX4_fitGroup_45 (by decide) ?_
        refine lv_istore (lv' := [(10, .int 0), (9, .int tg), (8, .int (fs_sum (tmem (c 10) (c 2) k) (c 13) n)), (7, .int 0), (6, .int (fs_sum (tmem (c 10) (c 2) k) (c 13) n)), (0, .ref (ad 14)), (1, .ref (ad 3)), (2, .int k), (3, .int tg), (4, .int (nI n)), (5, .int (nI (ct (tmem (c 10) (c 2) k) n)))]) hx hb dX4_fitGroup_46 hl (by decide) rfl (fun ls hl => ?_)
        have hL48 : ∀ (f : Nat) (j : Nat), n - j < f → (j ≤ n) → ∀ ls, lv_has ls 11 [(0, .ref (ad 14)), (1, .ref (ad 3)), (2, .int k), (3, .int tg), (4, .int (nI n)), (5, .int (nI (ct (tmem (c 10) (c 2) k) n))), (6, .int (fs_sum (tmem (c 10) (c 2) k) (c 13) n)), (7, .int 0), (8, .int (fs_sum (tmem (c 10) (c 2) k) (c 13) n)), (9, .int (fs_ms (tmem (c 10) (c 2) k) (c 13) (cs_nw (fs_sum (tmem (c 10) (c 2) k) (c 13) n) tg (ct (tmem (c 10) (c 2) k) n)) tg j)), (10, .int (nI j))] → ∀ (H : Heap) (locs : List Loc), PP dg (cw cA ad nh ni (upr c 13 (fs_w1 (tmem (c 10) (c 2) k) (c 13) (cs_nw (fs_sum (tmem (c 10) (c 2) k) (c 13) n) tg (ct (tmem (c 10) (c 2) k) n)) j))) H → va_D A (cw cA ad nh ni (upr c 13 (fs_w1 (tmem (c 10) (c 2) k) (c 13) (cs_nw (fs_sum (tmem (c 10) (c 2) k) (c 13) n) tg (ct (tmem (c 10) (c 2) k) n)) j))) → va_S A s0.heap H locs → W p l e ({ frames := 2, cells := 0, slots := 0, locals := 49 } : Room) s0 m args below meth ccd H locs 0 0 (MQ below (QcM dg (cw cA ad nh ni (upr c 13 (cs_fit (tmem (c 10) (c 2) k) (c 13) tg n))) none A) args s0 0 0 A) (F0 m 48 ls []) := by
          intro f
          induction f with
          | zero => intro j hm; exact absurd hm (Nat.not_lt_zero _)
          | succ f ih48 =>
            intro j hm48 hj ls hl H locs hP hD hS
            refine lv_iload hx hb dX4_fitGroup_48 (lv_at hl 10 rfl) ?_
            refine lv_iload hx hb dX4_fitGroup_50 (lv_at hl 4 rfl) ?_
            refine lv_icmp_ge (tgt := 112) hx hb dX4_fitGroup_52 (by decide) (fun b52 => ?_) (fun b52 => ?_)
            · skip
              have g52 : n ≤ j := (nI_leI (a := n) (b := j) (by omega) (by omega)).mp b52
              have ej : j = n := by omega
              rw [ej] at hl hP hD
              refine lv_aload_n hx hb dX4_fitGroup_112 rfl (lv_at hl 0 rfl) ?_
              refine lv_aload_n hx hb dX4_fitGroup_113 rfl (lv_at hl 1 rfl) ?_
              refine lv_iload_n hx hb dX4_fitGroup_114 rfl (lv_at hl 2 rfl) ?_
              refine lv_iload hx hb dX4_fitGroup_115 (lv_at hl 4 rfl) ?_
              refine lv_iload hx hb dX4_fitGroup_117 (lv_at hl 9 rfl) ?_
              refine cM S (cc_spread_al l dg cA ad nh ni (upr c 13 (fs_w1 (tmem (c 10) (c 2) k) (c 13) (cs_nw (fs_sum (tmem (c 10) (c 2) k) (c 13) n) tg (ct (tmem (c 10) (c 2) k) n)) n)) k n hn24 (fs_ms (tmem (c 10) (c 2) k) (c 13) (cs_nw (fs_sum (tmem (c 10) (c 2) k) (c 13) n) tg (ct (tmem (c 10) (c 2) k) n)) tg n) _) kX4_73 ⟨rfl, rfl, Nat.le_of_ble_eq_true rfl, Nat.le_of_ble_eq_true rfl⟩ hK hP hD hS hA 14 cl_14 (q := (RX4, TX4, 5)) rfl rfl (As := [.ref (ad 3), .int k, .int (nI n), .int (fs_ms (tmem (c 10) (c 2) k) (c 13) (cs_nw (fs_sum (tmem (c 10) (c 2) k) (c 13) n) tg (ct (tmem (c 10) (c 2) k) n)) tg n)]) rfl hl.1 (rest := []) rfl (Nat.le_of_ble_eq_true rfl) dX4_fitGroup_119 ⟨Nat.le_of_ble_eq_true rfl, Nat.le_of_ble_eq_true rfl⟩ (st1 := []) rfl (fun H locs hP hD hS => ?_)
              exact eMv S hr hlk hP hD hS dX4_fitGroup_122 (by rw [upr_upr]; rfl)
            · skip
              have g52 : ¬ n ≤ j := fun zz => b52 ((nI_leI (a := n) (b := j) (by omega) (by omega)).mpr zz)
              refine lv_aload_n hx hb dX4_fitGroup_55 rfl (lv_at hl 0 rfl) ?_
              refine lv_aload_n hx hb dX4_fitGroup_56 rfl (lv_at hl 1 rfl) ?_
              refine lv_iload_n hx hb dX4_fitGroup_57 rfl (lv_at hl 2 rfl) ?_
              refine lv_iload hx hb dX4_fitGroup_58 (lv_at hl 10 rfl) ?_
              refine cR S (cc_inG_al l dg cA ad nh ni (upr c 13 (fs_w1 (tmem (c 10) (c 2) k) (c 13) (cs_nw (fs_sum (tmem (c 10) (c 2) k) (c 13) n) tg (ct (tmem (c 10) (c 2) k) n)) j)) k j (by omega)) kX4_69 ⟨rfl, rfl, Nat.le_of_ble_eq_true rfl, Nat.le_of_ble_eq_true rfl⟩ hK hP 14 cl_14 (q := (RX4, TX4, 5)) rfl rfl (As := [.ref (ad 3), .int k, .int (nI j)]) rfl hl.1 (rest := []) rfl (Nat.le_of_ble_eq_true rfl) dX4_fitGroup_60 ⟨Nat.le_of_ble_eq_true rfl, Nat.le_of_ble_eq_true rfl⟩ (st1 := [.int (b2 (tmem (c 10) (c 2) k j))]) rfl ?_
              refine lv_if_eq (tgt := 106) hx hb dX4_fitGroup_63 (by decide) (fun b63 => ?_) (fun b63 => ?_)
              · skip
                have c63 := b2_0 b63
                refine lv_iinc (v := nI (j + 1)) (lv' := [(10, .int (nI (j + 1))), (0, .ref (ad 14)), (1, .ref (ad 3)), (2, .int k), (3, .int tg), (4, .int (nI n)), (5, .int (nI (ct (tmem (c 10) (c 2) k) n))), (6, .int (fs_sum (tmem (c 10) (c 2) k) (c 13) n)), (7, .int 0), (8, .int (fs_sum (tmem (c 10) (c 2) k) (c 13) n)), (9, .int (fs_ms (tmem (c 10) (c 2) k) (c 13) (cs_nw (fs_sum (tmem (c 10) (c 2) k) (c 13) n) tg (ct (tmem (c 10) (c 2) k) n)) tg j))]) hx hb dX4_fitGroup_106 hl (k := 10) rfl (nI_1 j) (by decide) rfl (fun ls hl => ?_)
                refine lv_goto (tgt := 48) hx hb dX4_fitGroup_109 (by decide) ?_
                have es : (cw cA ad nh ni (upr c 13 (fs_w1 (tmem (c 10) (c 2) k) (c 13) (cs_nw (fs_sum (tmem (c 10) (c 2) k) (c 13) n) tg (ct (tmem (c 10) (c 2) k) n)) j))) = (cw cA ad nh ni (upr c 13 (fs_w1 (tmem (c 10) (c 2) k) (c 13) (cs_nw (fs_sum (tmem (c 10) (c 2) k) (c 13) n) tg (ct (tmem (c 10) (c 2) k) n)) (j + 1)))) := by rw [fs_w1_f c63]
                rw [es] at hP hD
                exact ih48 (j + 1) (by omega) (by omega) ls (lv_cast (lv_sub (l' := [(0, .ref (ad 14)), (1, .ref (ad 3)), (2, .int k), (3, .int tg), (4, .int (nI n)), (5, .int (nI (ct (tmem (c 10) (c 2) k) n))), (6, .int (fs_sum (tmem (c 10) (c 2) k) (c 13) n)), (7, .int 0), (8, .int (fs_sum (tmem (c 10) (c 2) k) (c 13) n)), (9, .int (fs_ms (tmem (c 10) (c 2) k) (c 13) (cs_nw (fs_sum (tmem (c 10) (c 2) k) (c 13) n) tg (ct (tmem (c 10) (c 2) k) n)) tg j)), (10, .int (nI (j + 1)))]) hl [1, 2, 3, 4, 5, 6, 7, 8, 9, 10, 0] rfl) (by rw [fs_ms_f c63])) _ _ hP hD hS
              · skip
                have c63 := b2_1 b63
                refine lv_aload_n hx hb dX4_fitGroup_66 rfl (lv_at hl 0 rfl) ?_
                refine gf S hK hP 14 cl_14 fX4_22 (v := .ref (ad 18)) ct1_3 dX4_fitGroup_67 ?_
                refine lv_iload hx hb dX4_fitGroup_70 (lv_at hl 10 rfl) ?_
                refine lv_iload hx hb dX4_fitGroup_72 (lv_at hl 7 rfl) ?_
                refine lv_if_eq (tgt := 81) hx hb dX4_fitGroup_74 (by decide) (fun b74 => ?_) (fun b74 => ?_)
                · skip
                  refine lv_aload_n hx hb dX4_fitGroup_81 rfl (lv_at hl 0 rfl) ?_
                  refine gf S hK hP 14 cl_14 fX4_22 (v := .ref (ad 18)) ct1_3 dX4_fitGroup_82 ?_
                  refine lv_iload hx hb dX4_fitGroup_85 (lv_at hl 10 rfl) ?_
                  refine ild S hK hP 18 cl_18 (j := j) (by omega) (Nat.le_of_ble_eq_true rfl) dX4_fitGroup_87 ?_
                  refine lv_as (y := c 13 j) (show upr c 13 (fs_w1 (tmem (c 10) (c 2) k) (c 13) (cs_nw (fs_sum (tmem (c 10) (c 2) k) (c 13) n) tg (ct (tmem (c 10) (c 2) k) n)) j) 13 j = c 13 j from fs_w1_ge (Nat.le_refl _)) ?_
                  refine lv_iload_n hx hb dX4_fitGroup_88 rfl (lv_at hl 3 rfl) ?_
                  refine lv_imul hx hb dX4_fitGroup_89 ?_
                  refine lv_iload hx hb dX4_fitGroup_90 (lv_at hl 8 rfl) ?_
                  refine lv_idiv hx hb dX4_fitGroup_92 (fun z => absurd b12 (by rw [z]; decide)) ?_
                  refine ist S hK hP hD hS 18 cl_18 (j := j) (x := ((c 13 j) * tg) / (fs_sum (tmem (c 10) (c 2) k) (c 13) n)) (by omega) (Nat.le_of_ble_eq_true rfl) cs_18 dX4_fitGroup_93 (fun H locs hP hD hS => ?_)
                  refine lv_iload hx hb dX4_fitGroup_94 (lv_at hl 9 rfl) ?_
                  refine lv_aload_n hx hb dX4_fitGroup_96 rfl (lv_at hl 0 rfl) ?_
                  refine gf S hK hP 14 cl_14 fX4_22 (v := .ref (ad 18)) ct1_3 dX4_fitGroup_97 ?_
                  refine lv_iload hx hb dX4_fitGroup_100 (lv_at hl 10 rfl) ?_
                  refine ild S hK hP 18 cl_18 (j := j) (by omega) (Nat.le_of_ble_eq_true rfl) dX4_fitGroup_102 ?_
                  refine lv_as (y := ((c 13 j) * tg) / (fs_sum (tmem (c 10) (c 2) k) (c 13) n)) up_at ?_
                  refine lv_isub hx hb dX4_fitGroup_103 ?_
                  refine lv_istore (lv' := [(9, .int ((fs_ms (tmem (c 10) (c 2) k) (c 13) (cs_nw (fs_sum (tmem (c 10) (c 2) k) (c 13) n) tg (ct (tmem (c 10) (c 2) k) n)) tg j) - (((c 13 j) * tg) / (fs_sum (tmem (c 10) (c 2) k) (c 13) n)))), (0, .ref (ad 14)), (1, .ref (ad 3)), (2, .int k), (3, .int tg), (4, .int (nI n)), (5, .int (nI (ct (tmem (c 10) (c 2) k) n))), (6, .int (fs_sum (tmem (c 10) (c 2) k) (c 13) n)), (7, .int 0), (8, .int (fs_sum (tmem (c 10) (c 2) k) (c 13) n)), (10, .int (nI j))]) hx hb dX4_fitGroup_104 hl (by decide) rfl (fun ls hl => ?_)
                  refine lv_iinc (v := nI (j + 1)) (lv' := [(10, .int (nI (j + 1))), (9, .int ((fs_ms (tmem (c 10) (c 2) k) (c 13) (cs_nw (fs_sum (tmem (c 10) (c 2) k) (c 13) n) tg (ct (tmem (c 10) (c 2) k) n)) tg j) - (((c 13 j) * tg) / (fs_sum (tmem (c 10) (c 2) k) (c 13) n)))), (0, .ref (ad 14)), (1, .ref (ad 3)), (2, .int k), (3, .int tg), (4, .int (nI n)), (5, .int (nI (ct (tmem (c 10) (c 2) k) n))), (6, .int (fs_sum (tmem (c 10) (c 2) k) (c 13) n)), (7, .int 0), (8, .int (fs_sum (tmem (c 10) (c 2) k) (c 13) n))]) hx hb dX4_fitGroup_106 hl (k := 10) rfl (nI_1 j) (by decide) rfl (fun ls hl => ?_)
                  refine lv_goto (tgt := 48) hx hb dX4_fitGroup_109 (by decide) ?_
                  have es : (cw cA ad nh ni (up (upr c 13 (fs_w1 (tmem (c 10) (c 2) k) (c 13) (cs_nw (fs_sum (tmem (c 10) (c 2) k) (c 13) n) tg (ct (tmem (c 10) (c 2) k) n)) j)) 13 j (((c 13 j) * tg) / (fs_sum (tmem (c 10) (c 2) k) (c 13) n)))) = (cw cA ad nh ni (upr c 13 (fs_w1 (tmem (c 10) (c 2) k) (c 13) (cs_nw (fs_sum (tmem (c 10) (c 2) k) (c 13) n) tg (ct (tmem (c 10) (c 2) k) n)) (j + 1)))) := by rw [up_upr, fs_w1_t c63, (show (cs_nw (fs_sum (tmem (c 10) (c 2) k) (c 13) n) tg (ct (tmem (c 10) (c 2) k) n)) (c 13 j) = _ by unfold cs_nw; rw [if_pos b12])]
                  rw [es] at hP hD
                  exact ih48 (j + 1) (by omega) (by omega) ls (lv_cast (lv_sub (l' := [(0, .ref (ad 14)), (1, .ref (ad 3)), (2, .int k), (3, .int tg), (4, .int (nI n)), (5, .int (nI (ct (tmem (c 10) (c 2) k) n))), (6, .int (fs_sum (tmem (c 10) (c 2) k) (c 13) n)), (7, .int 0), (8, .int (fs_sum (tmem (c 10) (c 2) k) (c 13) n)), (9, .int ((fs_ms (tmem (c 10) (c 2) k) (c 13) (cs_nw (fs_sum (tmem (c 10) (c 2) k) (c 13) n) tg (ct (tmem (c 10) (c 2) k) n)) tg j) - (((c 13 j) * tg) / (fs_sum (tmem (c 10) (c 2) k) (c 13) n)))), (10, .int (nI (j + 1)))]) hl [2, 3, 4, 5, 6, 7, 8, 9, 10, 1, 0] rfl) (by rw [fs_ms_t c63, (show (cs_nw (fs_sum (tmem (c 10) (c 2) k) (c 13) n) tg (ct (tmem (c 10) (c 2) k) n)) (c 13 j) = _ by unfold cs_nw; rw [if_pos b12])])) _ _ hP hD hS
                · skip
                  exact absurd b24 b74
        have es : (cw cA ad nh ni c) = (cw cA ad nh ni (upr c 13 (fs_w1 (tmem (c 10) (c 2) k) (c 13) (cs_nw (fs_sum (tmem (c 10) (c 2) k) (c 13) n) tg (ct (tmem (c 10) (c 2) k) n)) 0))) := congrArg (cw cA ad nh ni) upr_self.symm
        rw [es] at hP hD
        exact hL48 _ 0 (Nat.lt_succ_self _) (Nat.zero_le _) ls (lv_cast (lv_sub (l' := [(0, .ref (ad 14)), (1, .ref (ad 3)), (2, .int k), (3, .int tg), (4, .int (nI n)), (5, .int (nI (ct (tmem (c 10) (c 2) k) n))), (6, .int (fs_sum (tmem (c 10) (c 2) k) (c 13) n)), (7, .int 0), (8, .int (fs_sum (tmem (c 10) (c 2) k) (c 13) n)), (9, .int tg), (10, .int 0)]) hl [5, 6, 7, 8, 9, 10, 4, 3, 2, 1, 0] rfl) (by rfl)) _ _ hP hD hS
      · skip
        exact absurd b12 b38
    · skip
      exact False.elim (by revert b24; decide)
  · skip
    refine lv_iconst (v := 1) hx hb dX4_fitGroup_15 (by decide) ?_
    refine lv_goto (tgt := 20) hx hb dX4_fitGroup_16 (by decide) ?_
    refine lv_istore (lv' := [(7, .int 1), (6, .int (fs_sum (tmem (c 10) (c 2) k) (c 13) n)), (0, .ref (ad 14)), (1, .ref (ad 3)), (2, .int k), (3, .int tg), (4, .int (nI n)), (5, .int (nI (ct (tmem (c 10) (c 2) k) n)))]) hx hb dX4_fitGroup_20 hl (by decide) rfl (fun ls hl => ?_)
    refine lv_iload hx hb dX4_fitGroup_22 (lv_at hl 0 rfl) ?_
    refine lv_if_eq (tgt := 32) hx hb dX4_fitGroup_24 (by decide) (fun b24 => ?_) (fun b24 => ?_)
    · skip
      exact False.elim (by revert b24; decide)
    · skip
      refine lv_iload hx hb dX4_fitGroup_27 (lv_at hl 7 rfl) ?_
      refine lv_goto (tgt := 34) hx hb dX4_fitGroup_29 (by decide) ?_
      refine lv_istore (lv' := [(8, .int (nI (ct (tmem (c 10) (c 2) k) n))), (7, .int 1), (6, .int (fs_sum (tmem (c 10) (c 2) k) (c 13) n)), (0, .ref (ad 14)), (1, .ref (ad 3)), (2, .int k), (3, .int tg), (4, .int (nI n)), (5, .int (nI (ct (tmem (c 10) (c 2) k) n)))]) hx hb dX4_fitGroup_34 hl (by decide) rfl (fun ls hl => ?_)
      refine lv_iload hx hb dX4_fitGroup_36 (lv_at hl 0 rfl) ?_
      refine lv_if_gt (tgt := 42) hx hb dX4_fitGroup_38 (by decide) (fun b38 => ?_) (fun b38 => ?_)
      · skip
        have g38 : 0 < ct (tmem (c 10) (c 2) k) n := (nI_ltI (a := 0) (b := ct (tmem (c 10) (c 2) k) n) (by omega) (by omega)).mp b38
        refine lv_iload_n hx hb dX4_fitGroup_42 rfl (lv_at hl 6 rfl) ?_
        refine lv_istore (lv' := [(9, .int tg), (8, .int (nI (ct (tmem (c 10) (c 2) k) n))), (7, .int 1), (6, .int (fs_sum (tmem (c 10) (c 2) k) (c 13) n)), (0, .ref (ad 14)), (1, .ref (ad 3)), (2, .int k), (3, .int tg), (4, .int (nI n)), (5, .int (nI (ct (tmem (c 10) (c 2) k) n)))]) hx hb dX4_fitGroup_43 hl (by decide) rfl (fun ls hl => ?_)
        refine lv_iconst (v := 0) hx hb dX4_fitGroup_45 (by decide) ?_
        refine lv_istore (lv' := [(10, .int 0), (9, .int tg), (8, .int (nI (ct (tmem (c 10) (c 2) k) n))), (7, .int 1), (6, .int (fs_sum (tmem (c 10) (c 2) k) (c 13) n)), (0, .ref (ad 14)), (1, .ref (ad 3)), (2, .int k), (3, .int tg), (4, .int (nI n)), (5, .int (nI (ct (tmem (c 10) (c 2) k) n)))]) hx hb dX4_fitGroup_46 hl (by decide) rfl (fun ls hl => ?_)
        have hL48 : ∀ (f : Nat) (j : Nat), n - j < f → (j ≤ n) → ∀ ls, lv_has ls 11 [(0, .ref (ad 14)), (1, .ref (ad 3)), (2, .int k), (3, .int tg), (4, .int (nI n)), (5, .int (nI (ct (tmem (c 10) (c 2) k) n))), (6, .int (fs_sum (tmem (c 10) (c 2) k) (c 13) n)), (7, .int 1), (8, .int (nI (ct (tmem (c 10) (c 2) k) n))), (9, .int (fs_ms (tmem (c 10) (c 2) k) (c 13) (cs_nw (fs_sum (tmem (c 10) (c 2) k) (c 13) n) tg (ct (tmem (c 10) (c 2) k) n)) tg j)), (10, .int (nI j))] → ∀ (H : Heap) (locs : List Loc), PP dg (cw cA ad nh ni (upr c 13 (fs_w1 (tmem (c 10) (c 2) k) (c 13) (cs_nw (fs_sum (tmem (c 10) (c 2) k) (c 13) n) tg (ct (tmem (c 10) (c 2) k) n)) j))) H → va_D A (cw cA ad nh ni (upr c 13 (fs_w1 (tmem (c 10) (c 2) k) (c 13) (cs_nw (fs_sum (tmem (c 10) (c 2) k) (c 13) n) tg (ct (tmem (c 10) (c 2) k) n)) j))) → va_S A s0.heap H locs → W p l e ({ frames := 2, cells := 0, slots := 0, locals := 49 } : Room) s0 m args below meth ccd H locs 0 0 (MQ below (QcM dg (cw cA ad nh ni (upr c 13 (cs_fit (tmem (c 10) (c 2) k) (c 13) tg n))) none A) args s0 0 0 A) (F0 m 48 ls []) := by
          intro f
          induction f with
          | zero => intro j hm; exact absurd hm (Nat.not_lt_zero _)
          | succ f ih48 =>
            intro j hm48 hj ls hl H locs hP hD hS
            refine lv_iload hx hb dX4_fitGroup_48 (lv_at hl 10 rfl) ?_
            refine lv_iload hx hb dX4_fitGroup_50 (lv_at hl 4 rfl) ?_
            refine lv_icmp_ge (tgt := 112) hx hb dX4_fitGroup_52 (by decide) (fun b52 => ?_) (fun b52 => ?_)
            · skip
              have g52 : n ≤ j := (nI_leI (a := n) (b := j) (by omega) (by omega)).mp b52
              have ej : j = n := by omega
              rw [ej] at hl hP hD
              refine lv_aload_n hx hb dX4_fitGroup_112 rfl (lv_at hl 0 rfl) ?_
              refine lv_aload_n hx hb dX4_fitGroup_113 rfl (lv_at hl 1 rfl) ?_
              refine lv_iload_n hx hb dX4_fitGroup_114 rfl (lv_at hl 2 rfl) ?_
              refine lv_iload hx hb dX4_fitGroup_115 (lv_at hl 4 rfl) ?_
              refine lv_iload hx hb dX4_fitGroup_117 (lv_at hl 9 rfl) ?_
              refine cM S (cc_spread_al l dg cA ad nh ni (upr c 13 (fs_w1 (tmem (c 10) (c 2) k) (c 13) (cs_nw (fs_sum (tmem (c 10) (c 2) k) (c 13) n) tg (ct (tmem (c 10) (c 2) k) n)) n)) k n hn24 (fs_ms (tmem (c 10) (c 2) k) (c 13) (cs_nw (fs_sum (tmem (c 10) (c 2) k) (c 13) n) tg (ct (tmem (c 10) (c 2) k) n)) tg n) _) kX4_73 ⟨rfl, rfl, Nat.le_of_ble_eq_true rfl, Nat.le_of_ble_eq_true rfl⟩ hK hP hD hS hA 14 cl_14 (q := (RX4, TX4, 5)) rfl rfl (As := [.ref (ad 3), .int k, .int (nI n), .int (fs_ms (tmem (c 10) (c 2) k) (c 13) (cs_nw (fs_sum (tmem (c 10) (c 2) k) (c 13) n) tg (ct (tmem (c 10) (c 2) k) n)) tg n)]) rfl hl.1 (rest := []) rfl (Nat.le_of_ble_eq_true rfl) dX4_fitGroup_119 ⟨Nat.le_of_ble_eq_true rfl, Nat.le_of_ble_eq_true rfl⟩ (st1 := []) rfl (fun H locs hP hD hS => ?_)
              exact eMv S hr hlk hP hD hS dX4_fitGroup_122 (by rw [upr_upr]; rfl)
            · skip
              have g52 : ¬ n ≤ j := fun zz => b52 ((nI_leI (a := n) (b := j) (by omega) (by omega)).mpr zz)
              refine lv_aload_n hx hb dX4_fitGroup_55 rfl (lv_at hl 0 rfl) ?_
              refine lv_aload_n hx hb dX4_fitGroup_56 rfl (lv_at hl 1 rfl) ?_
              refine lv_iload_n hx hb dX4_fitGroup_57 rfl (lv_at hl 2 rfl) ?_
              refine lv_iload hx hb dX4_fitGroup_58 (lv_at hl 10 rfl) ?_
              refine cR S (cc_inG_al l dg cA ad nh ni (upr c 13 (fs_w1 (tmem (c 10) (c 2) k) (c 13) (cs_nw (fs_sum (tmem (c 10) (c 2) k) (c 13) n) tg (ct (tmem (c 10) (c 2) k) n)) j)) k j (by omega)) kX4_69 ⟨rfl, rfl, Nat.le_of_ble_eq_true rfl, Nat.le_of_ble_eq_true rfl⟩ hK hP 14 cl_14 (q := (RX4, TX4, 5)) rfl rfl (As := [.ref (ad 3), .int k, .int (nI j)]) rfl hl.1 (rest := []) rfl (Nat.le_of_ble_eq_true rfl) dX4_fitGroup_60 ⟨Nat.le_of_ble_eq_true rfl, Nat.le_of_ble_eq_true rfl⟩ (st1 := [.int (b2 (tmem (c 10) (c 2) k j))]) rfl ?_
              refine lv_if_eq (tgt := 106) hx hb dX4_fitGroup_63 (by decide) (fun b63 => ?_) (fun b63 => ?_)
              · skip
                have c63 := b2_0 b63
                refine lv_iinc (v := nI (j + 1)) (lv' := [(10, .int (nI (j + 1))), (0, .ref (ad 14)), (1, .ref (ad 3)), (2, .int k), (3, .int tg), (4, .int (nI n)), (5, .int (nI (ct (tmem (c 10) (c 2) k) n))), (6, .int (fs_sum (tmem (c 10) (c 2) k) (c 13) n)), (7, .int 1), (8, .int (nI (ct (tmem (c 10) (c 2) k) n))), (9, .int (fs_ms (tmem (c 10) (c 2) k) (c 13) (cs_nw (fs_sum (tmem (c 10) (c 2) k) (c 13) n) tg (ct (tmem (c 10) (c 2) k) n)) tg j))]) hx hb dX4_fitGroup_106 hl (k := 10) rfl (nI_1 j) (by decide) rfl (fun ls hl => ?_)
                refine lv_goto (tgt := 48) hx hb dX4_fitGroup_109 (by decide) ?_
                have es : (cw cA ad nh ni (upr c 13 (fs_w1 (tmem (c 10) (c 2) k) (c 13) (cs_nw (fs_sum (tmem (c 10) (c 2) k) (c 13) n) tg (ct (tmem (c 10) (c 2) k) n)) j))) = (cw cA ad nh ni (upr c 13 (fs_w1 (tmem (c 10) (c 2) k) (c 13) (cs_nw (fs_sum (tmem (c 10) (c 2) k) (c 13) n) tg (ct (tmem (c 10) (c 2) k) n)) (j + 1)))) := by rw [fs_w1_f c63]
                rw [es] at hP hD
                exact ih48 (j + 1) (by omega) (by omega) ls (lv_cast (lv_sub (l' := [(0, .ref (ad 14)), (1, .ref (ad 3)), (2, .int k), (3, .int tg), (4, .int (nI n)), (5, .int (nI (ct (tmem (c 10) (c 2) k) n))), (6, .int (fs_sum (tmem (c 10) (c 2) k) (c 13) n)), (7, .int 1), (8, .int (nI (ct (tmem (c 10) (c 2) k) n))), (9, .int (fs_ms (tmem (c 10) (c 2) k) (c 13) (cs_nw (fs_sum (tmem (c 10) (c 2) k) (c 13) n) tg (ct (tmem (c 10) (c 2) k) n)) tg j)), (10, .int (nI (j + 1)))]) hl [1, 2, 3, 4, 5, 6, 7, 8, 9, 10, 0] rfl) (by rw [fs_ms_f c63])) _ _ hP hD hS
              · skip
                have c63 := b2_1 b63
                refine lv_aload_n hx hb dX4_fitGroup_66 rfl (lv_at hl 0 rfl) ?_
                refine gf S hK hP 14 cl_14 fX4_22 (v := .ref (ad 18)) ct1_3 dX4_fitGroup_67 ?_
                refine lv_iload hx hb dX4_fitGroup_70 (lv_at hl 10 rfl) ?_
                refine lv_iload hx hb dX4_fitGroup_72 (lv_at hl 7 rfl) ?_
                refine lv_if_eq (tgt := 81) hx hb dX4_fitGroup_74 (by decide) (fun b74 => ?_) (fun b74 => ?_)
                · skip
                  exact absurd b74 b24
                · skip
                  refine lv_iconst (v := 1) hx hb dX4_fitGroup_77 (by decide) ?_
                  refine lv_goto (tgt := 88) hx hb dX4_fitGroup_78 (by decide) ?_
                  refine lv_iload_n hx hb dX4_fitGroup_88 rfl (lv_at hl 3 rfl) ?_
                  refine lv_imul hx hb dX4_fitGroup_89 ?_
                  refine lv_iload hx hb dX4_fitGroup_90 (lv_at hl 8 rfl) ?_
                  refine lv_idiv hx hb dX4_fitGroup_92 (nI_ne0 hm (by omega)) ?_
                  refine ist S hK hP hD hS 18 cl_18 (j := j) (x := (1 * tg) / (nI (ct (tmem (c 10) (c 2) k) n))) (by omega) (Nat.le_of_ble_eq_true rfl) cs_18 dX4_fitGroup_93 (fun H locs hP hD hS => ?_)
                  refine lv_iload hx hb dX4_fitGroup_94 (lv_at hl 9 rfl) ?_
                  refine lv_aload_n hx hb dX4_fitGroup_96 rfl (lv_at hl 0 rfl) ?_
                  refine gf S hK hP 14 cl_14 fX4_22 (v := .ref (ad 18)) ct1_3 dX4_fitGroup_97 ?_
                  refine lv_iload hx hb dX4_fitGroup_100 (lv_at hl 10 rfl) ?_
                  refine ild S hK hP 18 cl_18 (j := j) (by omega) (Nat.le_of_ble_eq_true rfl) dX4_fitGroup_102 ?_
                  refine lv_as (y := (1 * tg) / (nI (ct (tmem (c 10) (c 2) k) n))) up_at ?_
                  refine lv_isub hx hb dX4_fitGroup_103 ?_
                  refine lv_istore (lv' := [(9, .int ((fs_ms (tmem (c 10) (c 2) k) (c 13) (cs_nw (fs_sum (tmem (c 10) (c 2) k) (c 13) n) tg (ct (tmem (c 10) (c 2) k) n)) tg j) - ((1 * tg) / (nI (ct (tmem (c 10) (c 2) k) n))))), (0, .ref (ad 14)), (1, .ref (ad 3)), (2, .int k), (3, .int tg), (4, .int (nI n)), (5, .int (nI (ct (tmem (c 10) (c 2) k) n))), (6, .int (fs_sum (tmem (c 10) (c 2) k) (c 13) n)), (7, .int 1), (8, .int (nI (ct (tmem (c 10) (c 2) k) n))), (10, .int (nI j))]) hx hb dX4_fitGroup_104 hl (by decide) rfl (fun ls hl => ?_)
                  refine lv_iinc (v := nI (j + 1)) (lv' := [(10, .int (nI (j + 1))), (9, .int ((fs_ms (tmem (c 10) (c 2) k) (c 13) (cs_nw (fs_sum (tmem (c 10) (c 2) k) (c 13) n) tg (ct (tmem (c 10) (c 2) k) n)) tg j) - ((1 * tg) / (nI (ct (tmem (c 10) (c 2) k) n))))), (0, .ref (ad 14)), (1, .ref (ad 3)), (2, .int k), (3, .int tg), (4, .int (nI n)), (5, .int (nI (ct (tmem (c 10) (c 2) k) n))), (6, .int (fs_sum (tmem (c 10) (c 2) k) (c 13) n)), (7, .int 1), (8, .int (nI (ct (tmem (c 10) (c 2) k) n)))]) hx hb dX4_fitGroup_106 hl (k := 10) rfl (nI_1 j) (by decide) rfl (fun ls hl => ?_)
                  refine lv_goto (tgt := 48) hx hb dX4_fitGroup_109 (by decide) ?_
                  have es : (cw cA ad nh ni (up (upr c 13 (fs_w1 (tmem (c 10) (c 2) k) (c 13) (cs_nw (fs_sum (tmem (c 10) (c 2) k) (c 13) n) tg (ct (tmem (c 10) (c 2) k) n)) j)) 13 j ((1 * tg) / (nI (ct (tmem (c 10) (c 2) k) n))))) = (cw cA ad nh ni (upr c 13 (fs_w1 (tmem (c 10) (c 2) k) (c 13) (cs_nw (fs_sum (tmem (c 10) (c 2) k) (c 13) n) tg (ct (tmem (c 10) (c 2) k) n)) (j + 1)))) := by rw [up_upr, fs_w1_t c63, (show (cs_nw (fs_sum (tmem (c 10) (c 2) k) (c 13) n) tg (ct (tmem (c 10) (c 2) k) n)) (c 13 j) = _ by unfold cs_nw; rw [if_neg b12])]
                  rw [es] at hP hD
                  exact ih48 (j + 1) (by omega) (by omega) ls (lv_cast (lv_sub (l' := [(0, .ref (ad 14)), (1, .ref (ad 3)), (2, .int k), (3, .int tg), (4, .int (nI n)), (5, .int (nI (ct (tmem (c 10) (c 2) k) n))), (6, .int (fs_sum (tmem (c 10) (c 2) k) (c 13) n)), (7, .int 1), (8, .int (nI (ct (tmem (c 10) (c 2) k) n))), (9, .int ((fs_ms (tmem (c 10) (c 2) k) (c 13) (cs_nw (fs_sum (tmem (c 10) (c 2) k) (c 13) n) tg (ct (tmem (c 10) (c 2) k) n)) tg j) - ((1 * tg) / (nI (ct (tmem (c 10) (c 2) k) n))))), (10, .int (nI (j + 1)))]) hl [2, 3, 4, 5, 6, 7, 8, 9, 10, 1, 0] rfl) (by rw [fs_ms_t c63, (show (cs_nw (fs_sum (tmem (c 10) (c 2) k) (c 13) n) tg (ct (tmem (c 10) (c 2) k) n)) (c 13 j) = _ by unfold cs_nw; rw [if_neg b12])])) _ _ hP hD hS
        have es : (cw cA ad nh ni c) = (cw cA ad nh ni (upr c 13 (fs_w1 (tmem (c 10) (c 2) k) (c 13) (cs_nw (fs_sum (tmem (c 10) (c 2) k) (c 13) n) tg (ct (tmem (c 10) (c 2) k) n)) 0))) := congrArg (cw cA ad nh ni) upr_self.symm
        rw [es] at hP hD
        exact hL48 _ 0 (Nat.lt_succ_self _) (Nat.zero_le _) ls (lv_cast (lv_sub (l' := [(0, .ref (ad 14)), (1, .ref (ad 3)), (2, .int k), (3, .int tg), (4, .int (nI n)), (5, .int (nI (ct (tmem (c 10) (c 2) k) n))), (6, .int (fs_sum (tmem (c 10) (c 2) k) (c 13) n)), (7, .int 1), (8, .int (nI (ct (tmem (c 10) (c 2) k) n))), (9, .int tg), (10, .int 0)]) hl [5, 6, 7, 8, 9, 10, 4, 3, 2, 1, 0] rfl) (by rfl)) _ _ hP hD hS
      · skip
        have g38 : ¬ 0 < ct (tmem (c 10) (c 2) k) n := fun zz => b38 ((nI_ltI (a := 0) (b := ct (tmem (c 10) (c 2) k) n) (by omega) (by omega)).mpr zz)
        exact absurd hm g38
