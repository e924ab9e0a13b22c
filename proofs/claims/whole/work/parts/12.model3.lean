set_option maxHeartbeats 4000000 in
set_option maxRecDepth 100000 in
theorem rr_next (l : Launch) (dg : va_G) (cA : Nat → ClassId) (ad : Nat → Nat) (r : St) (n : Nat) (hn : r 0 3 = nI n) (hn24 : n ≤ 24) (i : Nat) (hi : i < 4) (at_ : Int32) : MetR l dg cA yX6_next cX6_next 5 (some .int) ({ frames := 1, cells := 0, slots := 0, locals := 21 } : Room) (mw cA ad r) [.ref (ad 0), .int (nI i), .int at_] (some (.int (oI (m_nx r i at_ n)))) := by
  refine ofR (by decide) (Nat.le_of_ble_eq_true rfl) (own := RX6) rfl (fun p e s0 m args below meth ccd ls S hr hlk hargs hK hP hl => ?_)
  have hx := S.1
  have hb := S.2.1
  have hl : lv_has ls 5 [(0, .ref (ad 0)), (1, .int (nI i)), (2, .int at_)] := hl
  refine lv_iconst (v := (-1)) hx hb dX6_next_0 (by decide) ?_
  refine lv_istore_n (lv' := [(3, .int (-1)), (0, .ref (ad 0)), (1, .int (nI i)), (2, .int at_)]) hx hb dX6_next_1 rfl hl (by decide) rfl (fun ls hl => ?_)
  refine lv_iconst (v := 0) hx hb dX6_next_2 (by decide) ?_
  refine lv_istore (lv' := [(4, .int 0), (3, .int (-1)), (0, .ref (ad 0)), (1, .int (nI i)), (2, .int at_)]) hx hb dX6_next_3 hl (by decide) rfl (fun ls hl => ?_)
  have hL5 : ∀ (f : Nat) (j : Nat), n - j < f → (j ≤ n) → ∀ ls, lv_has ls 5 [(0, .ref (ad 0)), (1, .int (nI i)), (2, .int at_), (3, .int (oI (nxt (m_fit r i at_) (m_dist r at_) j))), (4, .int (nI j))] → W p l e ({ frames := 1, cells := 0, slots := 0, locals := 21 } : Room) s0 m args below meth ccd s0.heap [] 0 0 (MQ below (QcR (some (.int (oI (m_nx r i at_ n))))) args s0 0 0 (fun _ => False)) (F0 m 5 ls []) := by
    intro f
    induction f with
    | zero => intro j hm; exact absurd hm (Nat.not_lt_zero _)
    | succ f ih5 =>
      intro j hm5 hj ls hl
      refine lv_iload hx hb dX6_next_5 (lv_at hl 4 rfl) ?_
      refine lv_aload_n hx hb dX6_next_7 rfl (lv_at hl 0 rfl) ?_
      refine gf S hK hP 0 ml_0 fX6_93 (v := .int (nI n)) (mv_3 hn) dX6_next_8 ?_
      refine lv_icmp_ge (tgt := 176) hx hb dX6_next_11 (by decide) (fun b11 => ?_) (fun b11 => ?_)
      · skip
        have g11 : n ≤ j := (nI_leI (a := n) (b := j) (by omega) (by omega)).mp b11
        refine lv_iload_n hx hb dX6_next_176 rfl (lv_at hl 3 rfl) ?_
        exact eRi S hr hlk dX6_next_177 (by rw [show j = n by omega]; rfl)
      · skip
        have g11 : ¬ n ≤ j := fun zz => b11 ((nI_leI (a := n) (b := j) (by omega) (by omega)).mpr zz)
        refine lv_aload_n hx hb dX6_next_14 rfl (lv_at hl 0 rfl) ?_
        refine gf S hK hP 0 ml_0 fX6_23 (v := .ref (ad 4)) mr_4 dX6_next_15 ?_
        refine lv_iload hx hb dX6_next_18 (lv_at hl 4 rfl) ?_
        refine ild S hK hP 4 ml_4 (j := j) (by omega) (Nat.le_of_ble_eq_true rfl) dX6_next_20 ?_
        refine lv_as (y := r 4 j) rfl ?_
        refine lv_bipush (v := 119) hx hb dX6_next_21 (by decide) ?_
        refine lv_icmp_ne (tgt := 170) hx hb dX6_next_23 (by decide) (fun b23 => ?_) (fun b23 => ?_)
        · skip
          refine lv_iinc (v := nI (j + 1)) (lv' := [(4, .int (nI (j + 1))), (0, .ref (ad 0)), (1, .int (nI i)), (2, .int at_), (3, .int (oI (nxt (m_fit r i at_) (m_dist r at_) j)))]) hx hb dX6_next_170 hl (k := 4) rfl (nI_1 j) (by decide) rfl (fun ls hl => ?_)
          refine lv_goto (tgt := 5) hx hb dX6_next_173 (by decide) ?_
          exact ih5 (j + 1) (by omega) (by omega) ls (lv_cast (lv_sub (l' := [(0, .ref (ad 0)), (1, .int (nI i)), (2, .int at_), (3, .int (oI (nxt (m_fit r i at_) (m_dist r at_) j))), (4, .int (nI (j + 1)))]) hl [1, 2, 3, 4, 0] rfl) (by rw [nxt_f (by simp [m_fit, b23])]))
        · skip
          refine lv_aload_n hx hb dX6_next_26 rfl (lv_at hl 0 rfl) ?_
          refine gf S hK hP 0 ml_0 fX6_26 (v := .ref (ad 5)) mr_5 dX6_next_27 ?_
          refine lv_iload hx hb dX6_next_30 (lv_at hl 4 rfl) ?_
          refine ild S hK hP 5 ml_5 (j := j) (by omega) (Nat.le_of_ble_eq_true rfl) dX6_next_32 ?_
          refine lv_as (y := r 5 j) rfl ?_
          refine lv_aload_n hx hb dX6_next_33 rfl (lv_at hl 0 rfl) ?_
          refine gf S hK hP 0 ml_0 fX6_115 (v := .int (r 0 5)) (mv_5 rfl) dX6_next_34 ?_
          refine lv_icmp_gt (tgt := 170) hx hb dX6_next_37 (by decide) (fun b37 => ?_) (fun b37 => ?_)
          · skip
            refine lv_iinc (v := nI (j + 1)) (lv' := [(4, .int (nI (j + 1))), (0, .ref (ad 0)), (1, .int (nI i)), (2, .int at_), (3, .int (oI (nxt (m_fit r i at_) (m_dist r at_) j)))]) hx hb dX6_next_170 hl (k := 4) rfl (nI_1 j) (by decide) rfl (fun ls hl => ?_)
            refine lv_goto (tgt := 5) hx hb dX6_next_173 (by decide) ?_
            exact ih5 (j + 1) (by omega) (by omega) ls (lv_cast (lv_sub (l' := [(0, .ref (ad 0)), (1, .int (nI i)), (2, .int at_), (3, .int (oI (nxt (m_fit r i at_) (m_dist r at_) j))), (4, .int (nI (j + 1)))]) hl [1, 2, 3, 4, 0] rfl) (by rw [nxt_f (by simp [m_fit, b23, b37])]))
          · skip
            refine lv_aload_n hx hb dX6_next_40 rfl (lv_at hl 0 rfl) ?_
            refine gf S hK hP 0 ml_0 fX6_66 (v := .ref (ad 18)) mr_18 dX6_next_41 ?_
            refine lv_iload hx hb dX6_next_44 (lv_at hl 4 rfl) ?_
            refine ild S hK hP 18 ml_18 (j := j) (by omega) (Nat.le_of_ble_eq_true rfl) dX6_next_46 ?_
            refine lv_as (y := r 18 j) rfl ?_
            refine lv_iconst (v := (-1)) hx hb dX6_next_47 (by decide) ?_
            refine lv_icmp_ne (tgt := 170) hx hb dX6_next_48 (by decide) (fun b48 => ?_) (fun b48 => ?_)
            · skip
              refine lv_iinc (v := nI (j + 1)) (lv' := [(4, .int (nI (j + 1))), (0, .ref (ad 0)), (1, .int (nI i)), (2, .int at_), (3, .int (oI (nxt (m_fit r i at_) (m_dist r at_) j)))]) hx hb dX6_next_170 hl (k := 4) rfl (nI_1 j) (by decide) rfl (fun ls hl => ?_)
              refine lv_goto (tgt := 5) hx hb dX6_next_173 (by decide) ?_
              exact ih5 (j + 1) (by omega) (by omega) ls (lv_cast (lv_sub (l' := [(0, .ref (ad 0)), (1, .int (nI i)), (2, .int at_), (3, .int (oI (nxt (m_fit r i at_) (m_dist r at_) j))), (4, .int (nI (j + 1)))]) hl [1, 2, 3, 4, 0] rfl) (by rw [nxt_f (by simp [m_fit, b23, b37, b48])]))
            · skip
              refine lv_aload_n hx hb dX6_next_51 rfl (lv_at hl 0 rfl) ?_
              refine gf S hK hP 0 ml_0 fX6_81 (v := .ref (ad 23)) mr_23 dX6_next_52 ?_
              refine lv_iload_n hx hb dX6_next_55 rfl (lv_at hl 1 rfl) ?_
              refine ild S hK hP 23 ml_23 (j := i) (by omega) (Nat.le_of_ble_eq_true rfl) dX6_next_56 ?_
              refine lv_as (y := r 23 i) rfl ?_
              refine lv_aload_n hx hb dX6_next_57 rfl (lv_at hl 0 rfl) ?_
              refine gf S hK hP 0 ml_0 fX6_20 (v := .ref (ad 3)) mr_3 dX6_next_58 ?_
              refine lv_iload hx hb dX6_next_61 (lv_at hl 4 rfl) ?_
              refine ild S hK hP 3 ml_3 (j := j) (by omega) (Nat.le_of_ble_eq_true rfl) dX6_next_63 ?_
              refine lv_as (y := r 3 j) rfl ?_
              refine lv_ishr hx hb dX6_next_64 ?_
              refine lv_iconst (v := 1) hx hb dX6_next_65 (by decide) ?_
              refine lv_iand hx hb dX6_next_66 ?_
              refine lv_if_eq (tgt := 170) hx hb dX6_next_67 (by decide) (fun b67 => ?_) (fun b67 => ?_)
              · skip
                refine lv_iinc (v := nI (j + 1)) (lv' := [(4, .int (nI (j + 1))), (0, .ref (ad 0)), (1, .int (nI i)), (2, .int at_), (3, .int (oI (nxt (m_fit r i at_) (m_dist r at_) j)))]) hx hb dX6_next_170 hl (k := 4) rfl (nI_1 j) (by decide) rfl (fun ls hl => ?_)
                refine lv_goto (tgt := 5) hx hb dX6_next_173 (by decide) ?_
                exact ih5 (j + 1) (by omega) (by omega) ls (lv_cast (lv_sub (l' := [(0, .ref (ad 0)), (1, .int (nI i)), (2, .int at_), (3, .int (oI (nxt (m_fit r i at_) (m_dist r at_) j))), (4, .int (nI (j + 1)))]) hl [1, 2, 3, 4, 0] rfl) (by rw [nxt_f (by simp [m_fit, b23, b37, b48, b67])]))
              · skip
                refine lv_aload_n hx hb dX6_next_70 rfl (lv_at hl 0 rfl) ?_
                refine gf S hK hP 0 ml_0 fX6_38 (v := .ref (ad 9)) mr_9 dX6_next_71 ?_
                refine lv_iload hx hb dX6_next_74 (lv_at hl 4 rfl) ?_
                refine ild S hK hP 9 ml_9 (j := j) (by omega) (Nat.le_of_ble_eq_true rfl) dX6_next_76 ?_
                refine lv_as (y := r 9 j) rfl ?_
                refine lv_iload_n hx hb dX6_next_77 rfl (lv_at hl 1 rfl) ?_
                refine lv_ishr hx hb dX6_next_78 ?_
                refine lv_iconst (v := 1) hx hb dX6_next_79 (by decide) ?_
                refine lv_iand hx hb dX6_next_80 ?_
                refine lv_iconst (v := 1) hx hb dX6_next_81 (by decide) ?_
                refine lv_icmp_ne (tgt := 88) hx hb dX6_next_82 (by decide) (fun b82 => ?_) (fun b82 => ?_)
                · skip
                  refine lv_aload_n hx hb dX6_next_88 rfl (lv_at hl 0 rfl) ?_
                  refine gf S hK hP 0 ml_0 fX6_75 (v := .ref (ad 21)) mr_21 dX6_next_89 ?_
                  refine lv_iload_n hx hb dX6_next_92 rfl (lv_at hl 1 rfl) ?_
                  refine ild S hK hP 21 ml_21 (j := i) (by omega) (Nat.le_of_ble_eq_true rfl) dX6_next_93 ?_
                  refine lv_as (y := r 21 i) rfl ?_
                  refine lv_iload_n hx hb dX6_next_94 rfl (lv_at hl 2 rfl) ?_
                  refine lv_aload_n hx hb dX6_next_95 rfl (lv_at hl 0 rfl) ?_
                  refine gf S hK hP 0 ml_0 fX6_17 (v := .ref (ad 2)) mr_2 dX6_next_96 ?_
                  refine lv_iload hx hb dX6_next_99 (lv_at hl 4 rfl) ?_
                  refine ild S hK hP 2 ml_2 (j := j) (by omega) (Nat.le_of_ble_eq_true rfl) dX6_next_101 ?_
                  refine lv_as (y := r 2 j) rfl ?_
                  refine cRS S (rr_way l dg cA (mw cA ad r) at_ (r 2 j)) kX6_122 ⟨rfl, rfl, Nat.le_of_ble_eq_true rfl, Nat.le_of_ble_eq_true rfl⟩ hK hP (As := [.int at_, .int (r 2 j)]) rfl hl.1 (rest := [.int (r 21 i)]) rfl (Nat.le_of_ble_eq_true rfl) dX6_next_102 ⟨Nat.le_of_ble_eq_true rfl, Nat.le_of_ble_eq_true rfl⟩ (st1 := [.int (m_way at_ (r 2 j)), .int (r 21 i)]) rfl ?_
                  refine lv_iadd hx hb dX6_next_105 ?_
                  refine lv_bipush (v := 30) hx hb dX6_next_106 (by decide) ?_
                  refine lv_iadd hx hb dX6_next_108 ?_
                  refine lv_aload_n hx hb dX6_next_109 rfl (lv_at hl 0 rfl) ?_
                  refine gf S hK hP 0 ml_0 fX6_17 (v := .ref (ad 2)) mr_2 dX6_next_110 ?_
                  refine lv_iload hx hb dX6_next_113 (lv_at hl 4 rfl) ?_
                  refine ild S hK hP 2 ml_2 (j := j) (by omega) (Nat.le_of_ble_eq_true rfl) dX6_next_115 ?_
                  refine lv_as (y := r 2 j) rfl ?_
                  refine lv_aload_n hx hb dX6_next_116 rfl (lv_at hl 0 rfl) ?_
                  refine gf S hK hP 0 ml_0 fX6_78 (v := .ref (ad 22)) mr_22 dX6_next_117 ?_
                  refine lv_iload_n hx hb dX6_next_120 rfl (lv_at hl 1 rfl) ?_
                  refine ild S hK hP 22 ml_22 (j := i) (by omega) (Nat.le_of_ble_eq_true rfl) dX6_next_121 ?_
                  refine lv_as (y := r 22 i) rfl ?_
                  refine cRS S (rr_way l dg cA (mw cA ad r) (r 2 j) (r 22 i)) kX6_122 ⟨rfl, rfl, Nat.le_of_ble_eq_true rfl, Nat.le_of_ble_eq_true rfl⟩ hK hP (As := [.int (r 2 j), .int (r 22 i)]) rfl hl.1 (rest := [.int (((r 21 i) + (m_way at_ (r 2 j))) + 30)]) rfl (Nat.le_of_ble_eq_true rfl) dX6_next_122 ⟨Nat.le_of_ble_eq_true rfl, Nat.le_of_ble_eq_true rfl⟩ (st1 := [.int (m_way (r 2 j) (r 22 i)), .int (((r 21 i) + (m_way at_ (r 2 j))) + 30)]) rfl ?_
                  refine lv_iadd hx hb dX6_next_125 ?_
                  refine lv_aload_n hx hb dX6_next_126 rfl (lv_at hl 0 rfl) ?_
                  refine gf S hK hP 0 ml_0 fX6_84 (v := .ref (ad 24)) mr_24 dX6_next_127 ?_
                  refine lv_iload_n hx hb dX6_next_130 rfl (lv_at hl 1 rfl) ?_
                  refine ild S hK hP 24 ml_24 (j := i) (by omega) (Nat.le_of_ble_eq_true rfl) dX6_next_131 ?_
                  refine lv_as (y := r 24 i) rfl ?_
                  refine lv_icmp_le (tgt := 138) hx hb dX6_next_132 (by decide) (fun b132 => ?_) (fun b132 => ?_)
                  · skip
                    have hfit : m_fit r i at_ j = true := by simp [m_fit, b23, b37, b48, b67, b82, b132]
                    rcases hb9 : nxt (m_fit r i at_) (m_dist r at_) j with _ | b
                    · skip
                      rw [hb9] at hl
                      have hl : lv_has ls 5 [(0, .ref (ad 0)), (1, .int (nI i)), (2, .int at_), (3, .int (-1)), (4, .int (nI j))] := hl
                      refine lv_iload_n hx hb dX6_next_138 rfl (lv_at hl 3 rfl) ?_
                      refine lv_iconst (v := (-1)) hx hb dX6_next_139 (by decide) ?_
                      refine lv_icmp_eq (tgt := 167) hx hb dX6_next_140 (by decide) (fun b140 => ?_) (fun b140 => ?_)
                      · skip
                        refine lv_iload hx hb dX6_next_167 (lv_at hl 4 rfl) ?_
                        refine lv_istore_n (lv' := [(3, .int (nI j)), (0, .ref (ad 0)), (1, .int (nI i)), (2, .int at_), (4, .int (nI j))]) hx hb dX6_next_169 rfl hl (by decide) rfl (fun ls hl => ?_)
                        refine lv_iinc (v := nI (j + 1)) (lv' := [(4, .int (nI (j + 1))), (3, .int (nI j)), (0, .ref (ad 0)), (1, .int (nI i)), (2, .int at_)]) hx hb dX6_next_170 hl (k := 4) rfl (nI_1 j) (by decide) rfl (fun ls hl => ?_)
                        refine lv_goto (tgt := 5) hx hb dX6_next_173 (by decide) ?_
                        exact ih5 (j + 1) (by omega) (by omega) ls (lv_cast (lv_sub (l' := [(0, .ref (ad 0)), (1, .int (nI i)), (2, .int at_), (3, .int (nI j)), (4, .int (nI (j + 1)))]) hl [2, 3, 4, 1, 0] rfl) (by rw [nxt_n hfit hb9]; rfl))
                      · skip
                        exact False.elim (by revert b140; decide)
                    · skip
                      rw [hb9] at hl
                      have hl : lv_has ls 5 [(0, .ref (ad 0)), (1, .int (nI i)), (2, .int at_), (3, .int (nI b)), (4, .int (nI j))] := hl
                      have hbj := (nxt_some hb9).1
                      refine lv_iload_n hx hb dX6_next_138 rfl (lv_at hl 3 rfl) ?_
                      refine lv_iconst (v := (-1)) hx hb dX6_next_139 (by decide) ?_
                      refine lv_icmp_eq (tgt := 167) hx hb dX6_next_140 (by decide) (fun b140 => ?_) (fun b140 => ?_)
                      · skip
                        exact absurd b140 (nI_m1 (by omega))
                      · skip
                        refine lv_iload_n hx hb dX6_next_143 rfl (lv_at hl 2 rfl) ?_
                        refine lv_aload_n hx hb dX6_next_144 rfl (lv_at hl 0 rfl) ?_
                        refine gf S hK hP 0 ml_0 fX6_17 (v := .ref (ad 2)) mr_2 dX6_next_145 ?_
                        refine lv_iload hx hb dX6_next_148 (lv_at hl 4 rfl) ?_
                        refine ild S hK hP 2 ml_2 (j := j) (by omega) (Nat.le_of_ble_eq_true rfl) dX6_next_150 ?_
                        refine lv_as (y := r 2 j) rfl ?_
                        refine cRS S (rr_way l dg cA (mw cA ad r) at_ (r 2 j)) kX6_122 ⟨rfl, rfl, Nat.le_of_ble_eq_true rfl, Nat.le_of_ble_eq_true rfl⟩ hK hP (As := [.int at_, .int (r 2 j)]) rfl hl.1 (rest := []) rfl (Nat.le_of_ble_eq_true rfl) dX6_next_151 ⟨Nat.le_of_ble_eq_true rfl, Nat.le_of_ble_eq_true rfl⟩ (st1 := [.int (m_way at_ (r 2 j))]) rfl ?_
                        refine lv_iload_n hx hb dX6_next_154 rfl (lv_at hl 2 rfl) ?_
                        refine lv_aload_n hx hb dX6_next_155 rfl (lv_at hl 0 rfl) ?_
                        refine gf S hK hP 0 ml_0 fX6_17 (v := .ref (ad 2)) mr_2 dX6_next_156 ?_
                        refine lv_iload_n hx hb dX6_next_159 rfl (lv_at hl 3 rfl) ?_
                        refine ild S hK hP 2 ml_2 (j := b) (by omega) (Nat.le_of_ble_eq_true rfl) dX6_next_160 ?_
                        refine lv_as (y := r 2 b) rfl ?_
                        refine cRS S (rr_way l dg cA (mw cA ad r) at_ (r 2 b)) kX6_122 ⟨rfl, rfl, Nat.le_of_ble_eq_true rfl, Nat.le_of_ble_eq_true rfl⟩ hK hP (As := [.int at_, .int (r 2 b)]) rfl hl.1 (rest := [.int (m_way at_ (r 2 j))]) rfl (Nat.le_of_ble_eq_true rfl) dX6_next_161 ⟨Nat.le_of_ble_eq_true rfl, Nat.le_of_ble_eq_true rfl⟩ (st1 := [.int (m_way at_ (r 2 b)), .int (m_way at_ (r 2 j))]) rfl ?_
                        refine lv_icmp_ge (tgt := 170) hx hb dX6_next_164 (by decide) (fun b164 => ?_) (fun b164 => ?_)
                        · skip
                          refine lv_iinc (v := nI (j + 1)) (lv' := [(4, .int (nI (j + 1))), (0, .ref (ad 0)), (1, .int (nI i)), (2, .int at_), (3, .int (nI b))]) hx hb dX6_next_170 hl (k := 4) rfl (nI_1 j) (by decide) rfl (fun ls hl => ?_)
                          refine lv_goto (tgt := 5) hx hb dX6_next_173 (by decide) ?_
                          exact ih5 (j + 1) (by omega) (by omega) ls (lv_cast (lv_sub (l' := [(0, .ref (ad 0)), (1, .int (nI i)), (2, .int at_), (3, .int (nI b)), (4, .int (nI (j + 1)))]) hl [1, 2, 3, 4, 0] rfl) (by rw [nxt_b hfit hb9 b164]; rfl))
                        · skip
                          refine lv_iload hx hb dX6_next_167 (lv_at hl 4 rfl) ?_
                          refine lv_istore_n (lv' := [(3, .int (nI j)), (0, .ref (ad 0)), (1, .int (nI i)), (2, .int at_), (4, .int (nI j))]) hx hb dX6_next_169 rfl hl (by decide) rfl (fun ls hl => ?_)
                          refine lv_iinc (v := nI (j + 1)) (lv' := [(4, .int (nI (j + 1))), (3, .int (nI j)), (0, .ref (ad 0)), (1, .int (nI i)), (2, .int at_)]) hx hb dX6_next_170 hl (k := 4) rfl (nI_1 j) (by decide) rfl (fun ls hl => ?_)
                          refine lv_goto (tgt := 5) hx hb dX6_next_173 (by decide) ?_
                          exact ih5 (j + 1) (by omega) (by omega) ls (lv_cast (lv_sub (l' := [(0, .ref (ad 0)), (1, .int (nI i)), (2, .int at_), (3, .int (nI j)), (4, .int (nI (j + 1)))]) hl [2, 3, 4, 1, 0] rfl) (by rw [nxt_j hfit hb9 b164]; rfl))
                  · skip
                    refine lv_goto (tgt := 170) hx hb dX6_next_135 (by decide) ?_
                    refine lv_iinc (v := nI (j + 1)) (lv' := [(4, .int (nI (j + 1))), (0, .ref (ad 0)), (1, .int (nI i)), (2, .int at_), (3, .int (oI (nxt (m_fit r i at_) (m_dist r at_) j)))]) hx hb dX6_next_170 hl (k := 4) rfl (nI_1 j) (by decide) rfl (fun ls hl => ?_)
                    refine lv_goto (tgt := 5) hx hb dX6_next_173 (by decide) ?_
                    exact ih5 (j + 1) (by omega) (by omega) ls (lv_cast (lv_sub (l' := [(0, .ref (ad 0)), (1, .int (nI i)), (2, .int at_), (3, .int (oI (nxt (m_fit r i at_) (m_dist r at_) j))), (4, .int (nI (j + 1)))]) hl [1, 2, 3, 4, 0] rfl) (by rw [nxt_f (by simp [m_fit, b23, b37, b48, b67, b82, b132])]))
                · skip
                  refine lv_goto (tgt := 170) hx hb dX6_next_85 (by decide) ?_
                  refine lv_iinc (v := nI (j + 1)) (lv' := [(4, .int (nI (j + 1))), (0, .ref (ad 0)), (1, .int (nI i)), (2, .int at_), (3, .int (oI (nxt (m_fit r i at_) (m_dist r at_) j)))]) hx hb dX6_next_170 hl (k := 4) rfl (nI_1 j) (by decide) rfl (fun ls hl => ?_)
                  refine lv_goto (tgt := 5) hx hb dX6_next_173 (by decide) ?_
                  exact ih5 (j + 1) (by omega) (by omega) ls (lv_cast (lv_sub (l' := [(0, .ref (ad 0)), (1, .int (nI i)), (2, .int at_), (3, .int (oI (nxt (m_fit r i at_) (m_dist r at_) j))), (4, .int (nI (j + 1)))]) hl [1, 2, 3, 4, 0] rfl) (by rw [nxt_f (by simp [m_fit, b23, b37, b48, b67, b82])]))
  exact hL5 _ 0 (Nat.lt_succ_self _) (Nat.zero_le _) ls (lv_cast (lv_sub (l' := [(0, .ref (ad 0)), (1, .int (nI i)), (2, .int at_), (3, .int (-1)), (4, .int 0)]) hl [2, 3, 4, 1, 0] rfl) (by rfl))

set_option maxHeartbeats 4000000 in
set_option maxRecDepth 100000 in
theorem rr_visit0 (l : Launch) (dg : va_G) (cA : Nat → ClassId) (ad : Nat → Nat) (r : St) (n : Nat) (hn : r 0 3 = nI n) (hn24 : n ≤ 24) (v : Int32) (hv : v < 0 ∨ nI n ≤ v) (o a : Int32) (sz : Nat) : MetM l dg cA yX6_visit cX6_visit 5 (some .int) ({ frames := 2, cells := 0, slots := 0, locals := 43 } : Room) 0 0 (mw cA ad r) sz [.ref (ad 0), .int v, .int o, .int a] (mw cA ad (up r 0 0 1)) (some (.int 0)) := by
  refine ofM (by decide) (Nat.le_of_ble_eq_true rfl) (own := RX6) rfl (fun p e s0 m args below meth ccd ls A hAe S hr hlk hname hargs hK hP hD hS hA hsz hl => ?_)
  have hx := S.1
  have hb := S.2.1
  have hl : lv_has ls 5 [(0, .ref (ad 0)), (1, .int v), (2, .int o), (3, .int a)] := hl
  refine lv_aload_n hx hb dX6_visit_0 rfl (lv_at hl 0 rfl) ?_
  refine lv_iload_n hx hb dX6_visit_1 rfl (lv_at hl 1 rfl) ?_
  refine cM S (rr_isHouse0 l dg cA ad r n hn hn24 v hv _) kX6_133 ⟨rfl, rfl, Nat.le_of_ble_eq_true rfl, Nat.le_of_ble_eq_true rfl⟩ hK hP hD hS hA 0 ml_0 (q := (RX6, TX6, 31)) rfl rfl (As := [.int v]) rfl hl.1 (rest := []) rfl (Nat.le_of_ble_eq_true rfl) dX6_visit_2 ⟨Nat.le_of_ble_eq_true rfl, Nat.le_of_ble_eq_true rfl⟩ (st1 := [.int 0]) rfl (fun H locs hP hD hS => ?_)
  refine lv_if_ne (tgt := 10) hx hb dX6_visit_5 (by decide) (fun b5 => ?_) (fun b5 => ?_)
  · skip
    exact False.elim (by revert b5; decide)
  · skip
    refine lv_iconst (v := 0) hx hb dX6_visit_8 (by decide) ?_
    exact eMi S hr hlk hP hD hS dX6_visit_9 rfl rfl

set_option maxHeartbeats 4000000 in
set_option maxRecDepth 100000 in
theorem rr_visit2a (l : Launch) (dg : va_G) (cA : Nat → ClassId) (ad : Nat → Nat) (r : St) (n : Nat) (hn : r 0 3 = nI n) (hn24 : n ≤ 24) (j : Nat) (hj : j < n) (o a : Int32) (h1 : ¬ o = 97) (h2 : ¬ o = 110) (h3 : ¬ o = 114) (h4 : ¬ o = 101) (sz : Nat) : MetM l dg cA yX6_visit cX6_visit 5 (some .int) ({ frames := 2, cells := 0, slots := 0, locals := 43 } : Room) 0 0 (mw cA ad r) sz [.ref (ad 0), .int (nI j), .int o, .int a] (mw cA ad (up r 0 0 2)) (some (.int 0)) := by
  refine ofM (by decide) (Nat.le_of_ble_eq_true rfl) (own := RX6) rfl (fun p e s0 m args below meth ccd ls A hAe S hr hlk hname hargs hK hP hD hS hA hsz hl => ?_)
  have hx := S.1
  have hb := S.2.1
  have hl : lv_has ls 5 [(0, .ref (ad 0)), (1, .int (nI j)), (2, .int o), (3, .int a)] := hl
  refine lv_aload_n hx hb dX6_visit_0 rfl (lv_at hl 0 rfl) ?_
  refine lv_iload_n hx hb dX6_visit_1 rfl (lv_at hl 1 rfl) ?_
  refine cM S (rr_isHouse1 l dg cA ad r n hn hn24 j hj _) kX6_133 ⟨rfl, rfl, Nat.le_of_ble_eq_true rfl, Nat.le_of_ble_eq_true rfl⟩ hK hP hD hS hA 0 ml_0 (q := (RX6, TX6, 31)) rfl rfl (As := [.int (nI j)]) rfl hl.1 (rest := []) rfl (Nat.le_of_ble_eq_true rfl) dX6_visit_2 ⟨Nat.le_of_ble_eq_true rfl, Nat.le_of_ble_eq_true rfl⟩ (st1 := [.int 1]) rfl (fun H locs hP hD hS => ?_)
  refine lv_if_ne (tgt := 10) hx hb dX6_visit_5 (by decide) (fun b5 => ?_) (fun b5 => ?_)
  · skip
    refine lv_iload_n hx hb dX6_visit_10 rfl (lv_at hl 2 rfl) ?_
    refine lv_bipush (v := 97) hx hb dX6_visit_11 (by decide) ?_
    refine lv_icmp_eq (tgt := 34) hx hb dX6_visit_13 (by decide) (fun b13 => ?_) (fun b13 => ?_)
    · skip
      exact absurd b13 h1
    · skip
      refine lv_iload_n hx hb dX6_visit_16 rfl (lv_at hl 2 rfl) ?_
      refine lv_bipush (v := 110) hx hb dX6_visit_17 (by decide) ?_
      refine lv_icmp_eq (tgt := 34) hx hb dX6_visit_19 (by decide) (fun b19 => ?_) (fun b19 => ?_)
      · skip
        exact absurd b19 h2
      · skip
        refine lv_iload_n hx hb dX6_visit_22 rfl (lv_at hl 2 rfl) ?_
        refine lv_bipush (v := 114) hx hb dX6_visit_23 (by decide) ?_
        refine lv_icmp_eq (tgt := 34) hx hb dX6_visit_25 (by decide) (fun b25 => ?_) (fun b25 => ?_)
        · skip
          exact absurd b25 h3
        · skip
          refine lv_iload_n hx hb dX6_visit_28 rfl (lv_at hl 2 rfl) ?_
          refine lv_bipush (v := 101) hx hb dX6_visit_29 (by decide) ?_
          refine lv_icmp_ne (tgt := 44) hx hb dX6_visit_31 (by decide) (fun b31 => ?_) (fun b31 => ?_)
          · skip
            refine lv_aload_n hx hb dX6_visit_44 rfl (lv_at hl 0 rfl) ?_
            refine lv_iconst (v := 2) hx hb dX6_visit_45 (by decide) ?_
            refine cM S (rr_fails l dg cA ad (up r 0 0 0) 2 _) kX6_104 ⟨rfl, rfl, Nat.le_of_ble_eq_true rfl, Nat.le_of_ble_eq_true rfl⟩ hK hP hD hS hA 0 ml_0 (q := (RX6, TX6, 31)) rfl rfl (As := [.int 2]) rfl hl.1 (rest := []) rfl (Nat.le_of_ble_eq_true rfl) dX6_visit_46 ⟨Nat.le_of_ble_eq_true rfl, Nat.le_of_ble_eq_true rfl⟩ (st1 := [.int 0]) rfl (fun H locs hP hD hS => ?_)
            exact eMi S hr hlk hP hD hS dX6_visit_49 rfl up_twice_mw
          · skip
            exact absurd b31 h4
  · skip
    exact False.elim (by revert b5; decide)

set_option maxHeartbeats 4000000 in
set_option maxRecDepth 100000 in
theorem rr_visit2b (l : Launch) (dg : va_G) (cA : Nat → ClassId) (ad : Nat → Nat) (r : St) (n : Nat) (hn : r 0 3 = nI n) (hn24 : n ≤ 24) (j : Nat) (hj : j < n) (o a : Int32) (hov : o = 97 ∨ o = 110 ∨ o = 114 ∨ o = 101) (ha : ¬ (¬ a < 0 ∧ ¬ 9 < a)) (sz : Nat) : MetM l dg cA yX6_visit cX6_visit 5 (some .int) ({ frames := 2, cells := 0, slots := 0, locals := 43 } : Room) 0 0 (mw cA ad r) sz [.ref (ad 0), .int (nI j), .int o, .int a] (mw cA ad (up r 0 0 2)) (some (.int 0)) := by
  refine ofM (by decide) (Nat.le_of_ble_eq_true rfl) (own := RX6) rfl (fun p e s0 m args below meth ccd ls A hAe S hr hlk hname hargs hK hP hD hS hA hsz hl => ?_)
  have hx := S.1
  have hb := S.2.1
  have hl : lv_has ls 5 [(0, .ref (ad 0)), (1, .int (nI j)), (2, .int o), (3, .int a)] := hl
  refine lv_aload_n hx hb dX6_visit_0 rfl (lv_at hl 0 rfl) ?_
  refine lv_iload_n hx hb dX6_visit_1 rfl (lv_at hl 1 rfl) ?_
  refine cM S (rr_isHouse1 l dg cA ad r n hn hn24 j hj _) kX6_133 ⟨rfl, rfl, Nat.le_of_ble_eq_true rfl, Nat.le_of_ble_eq_true rfl⟩ hK hP hD hS hA 0 ml_0 (q := (RX6, TX6, 31)) rfl rfl (As := [.int (nI j)]) rfl hl.1 (rest := []) rfl (Nat.le_of_ble_eq_true rfl) dX6_visit_2 ⟨Nat.le_of_ble_eq_true rfl, Nat.le_of_ble_eq_true rfl⟩ (st1 := [.int 1]) rfl (fun H locs hP hD hS => ?_)
  refine lv_if_ne (tgt := 10) hx hb dX6_visit_5 (by decide) (fun b5 => ?_) (fun b5 => ?_)
  · skip
    refine lv_iload_n hx hb dX6_visit_10 rfl (lv_at hl 2 rfl) ?_
    refine lv_bipush (v := 97) hx hb dX6_visit_11 (by decide) ?_
    refine lv_icmp_eq (tgt := 34) hx hb dX6_visit_13 (by decide) (fun b13 => ?_) (fun b13 => ?_)
    · skip
      refine lv_iload_n hx hb dX6_visit_34 rfl (lv_at hl 3 rfl) ?_
      refine lv_iconst (v := 0) hx hb dX6_visit_35 (by decide) ?_
      refine lv_bipush (v := 9) hx hb dX6_visit_36 (by decide) ?_
      refine cRS S (rr_in0 l dg cA (mw cA ad (up r 0 0 0)) a 0 9 ha) kX6_96 ⟨rfl, rfl, Nat.le_of_ble_eq_true rfl, Nat.le_of_ble_eq_true rfl⟩ hK hP (As := [.int a, .int 0, .int 9]) rfl hl.1 (rest := []) rfl (Nat.le_of_ble_eq_true rfl) dX6_visit_38 ⟨Nat.le_of_ble_eq_true rfl, Nat.le_of_ble_eq_true rfl⟩ (st1 := [.int 0]) rfl ?_
      refine lv_if_ne (tgt := 50) hx hb dX6_visit_41 (by decide) (fun b41 => ?_) (fun b41 => ?_)
      · skip
        exact False.elim (by revert b41; decide)
      · skip
        refine lv_aload_n hx hb dX6_visit_44 rfl (lv_at hl 0 rfl) ?_
        refine lv_iconst (v := 2) hx hb dX6_visit_45 (by decide) ?_
        refine cM S (rr_fails l dg cA ad (up r 0 0 0) 2 _) kX6_104 ⟨rfl, rfl, Nat.le_of_ble_eq_true rfl, Nat.le_of_ble_eq_true rfl⟩ hK hP hD hS hA 0 ml_0 (q := (RX6, TX6, 31)) rfl rfl (As := [.int 2]) rfl hl.1 (rest := []) rfl (Nat.le_of_ble_eq_true rfl) dX6_visit_46 ⟨Nat.le_of_ble_eq_true rfl, Nat.le_of_ble_eq_true rfl⟩ (st1 := [.int 0]) rfl (fun H locs hP hD hS => ?_)
        exact eMi S hr hlk hP hD hS dX6_visit_49 rfl up_twice_mw
    · skip
      refine lv_iload_n hx hb dX6_visit_16 rfl (lv_at hl 2 rfl) ?_
      refine lv_bipush (v := 110) hx hb dX6_visit_17 (by decide) ?_
      refine lv_icmp_eq (tgt := 34) hx hb dX6_visit_19 (by decide) (fun b19 => ?_) (fun b19 => ?_)
      · skip
        refine lv_iload_n hx hb dX6_visit_34 rfl (lv_at hl 3 rfl) ?_
        refine lv_iconst (v := 0) hx hb dX6_visit_35 (by decide) ?_
        refine lv_bipush (v := 9) hx hb dX6_visit_36 (by decide) ?_
        refine cRS S (rr_in0 l dg cA (mw cA ad (up r 0 0 0)) a 0 9 ha) kX6_96 ⟨rfl, rfl, Nat.le_of_ble_eq_true rfl, Nat.le_of_ble_eq_true rfl⟩ hK hP (As := [.int a, .int 0, .int 9]) rfl hl.1 (rest := []) rfl (Nat.le_of_ble_eq_true rfl) dX6_visit_38 ⟨Nat.le_of_ble_eq_true rfl, Nat.le_of_ble_eq_true rfl⟩ (st1 := [.int 0]) rfl ?_
        refine lv_if_ne (tgt := 50) hx hb dX6_visit_41 (by decide) (fun b41 => ?_) (fun b41 => ?_)
        · skip
          exact False.elim (by revert b41; decide)
        · skip
          refine lv_aload_n hx hb dX6_visit_44 rfl (lv_at hl 0 rfl) ?_
          refine lv_iconst (v := 2) hx hb dX6_visit_45 (by decide) ?_
          refine cM S (rr_fails l dg cA ad (up r 0 0 0) 2 _) kX6_104 ⟨rfl, rfl, Nat.le_of_ble_eq_true rfl, Nat.le_of_ble_eq_true rfl⟩ hK hP hD hS hA 0 ml_0 (q := (RX6, TX6, 31)) rfl rfl (As := [.int 2]) rfl hl.1 (rest := []) rfl (Nat.le_of_ble_eq_true rfl) dX6_visit_46 ⟨Nat.le_of_ble_eq_true rfl, Nat.le_of_ble_eq_true rfl⟩ (st1 := [.int 0]) rfl (fun H locs hP hD hS => ?_)
          exact eMi S hr hlk hP hD hS dX6_visit_49 rfl up_twice_mw
      · skip
        refine lv_iload_n hx hb dX6_visit_22 rfl (lv_at hl 2 rfl) ?_
        refine lv_bipush (v := 114) hx hb dX6_visit_23 (by decide) ?_
        refine lv_icmp_eq (tgt := 34) hx hb dX6_visit_25 (by decide) (fun b25 => ?_) (fun b25 => ?_)
        · skip
          refine lv_iload_n hx hb dX6_visit_34 rfl (lv_at hl 3 rfl) ?_
          refine lv_iconst (v := 0) hx hb dX6_visit_35 (by decide) ?_
          refine lv_bipush (v := 9) hx hb dX6_visit_36 (by decide) ?_
          refine cRS S (rr_in0 l dg cA (mw cA ad (up r 0 0 0)) a 0 9 ha) kX6_96 ⟨rfl, rfl, Nat.le_of_ble_eq_true rfl, Nat.le_of_ble_eq_true rfl⟩ hK hP (As := [.int a, .int 0, .int 9]) rfl hl.1 (rest := []) rfl (Nat.le_of_ble_eq_true rfl) dX6_visit_38 ⟨Nat.le_of_ble_eq_true rfl, Nat.le_of_ble_eq_true rfl⟩ (st1 := [.int 0]) rfl ?_
          refine lv_if_ne (tgt := 50) hx hb dX6_visit_41 (by decide) (fun b41 => ?_) (fun b41 => ?_)
          · skip
            exact False.elim (by revert b41; decide)
          · skip
            refine lv_aload_n hx hb dX6_visit_44 rfl (lv_at hl 0 rfl) ?_
            refine lv_iconst (v := 2) hx hb dX6_visit_45 (by decide) ?_
            refine cM S (rr_fails l dg cA ad (up r 0 0 0) 2 _) kX6_104 ⟨rfl, rfl, Nat.le_of_ble_eq_true rfl, Nat.le_of_ble_eq_true rfl⟩ hK hP hD hS hA 0 ml_0 (q := (RX6, TX6, 31)) rfl rfl (As := [.int 2]) rfl hl.1 (rest := []) rfl (Nat.le_of_ble_eq_true rfl) dX6_visit_46 ⟨Nat.le_of_ble_eq_true rfl, Nat.le_of_ble_eq_true rfl⟩ (st1 := [.int 0]) rfl (fun H locs hP hD hS => ?_)
            exact eMi S hr hlk hP hD hS dX6_visit_49 rfl up_twice_mw
        · skip
          refine lv_iload_n hx hb dX6_visit_28 rfl (lv_at hl 2 rfl) ?_
          refine lv_bipush (v := 101) hx hb dX6_visit_29 (by decide) ?_
          refine lv_icmp_ne (tgt := 44) hx hb dX6_visit_31 (by decide) (fun b31 => ?_) (fun b31 => ?_)
          · skip
            exact absurd hov (by simp [b13, b19, b25, b31])
          · skip
            refine lv_iload_n hx hb dX6_visit_34 rfl (lv_at hl 3 rfl) ?_
            refine lv_iconst (v := 0) hx hb dX6_visit_35 (by decide) ?_
            refine lv_bipush (v := 9) hx hb dX6_visit_36 (by decide) ?_
            refine cRS S (rr_in0 l dg cA (mw cA ad (up r 0 0 0)) a 0 9 ha) kX6_96 ⟨rfl, rfl, Nat.le_of_ble_eq_true rfl, Nat.le_of_ble_eq_true rfl⟩ hK hP (As := [.int a, .int 0, .int 9]) rfl hl.1 (rest := []) rfl (Nat.le_of_ble_eq_true rfl) dX6_visit_38 ⟨Nat.le_of_ble_eq_true rfl, Nat.le_of_ble_eq_true rfl⟩ (st1 := [.int 0]) rfl ?_
            refine lv_if_ne (tgt := 50) hx hb dX6_visit_41 (by decide) (fun b41 => ?_) (fun b41 => ?_)
            · skip
              exact False.elim (by revert b41; decide)
            · skip
              refine lv_aload_n hx hb dX6_visit_44 rfl (lv_at hl 0 rfl) ?_
              refine lv_iconst (v := 2) hx hb dX6_visit_45 (by decide) ?_
              refine cM S (rr_fails l dg cA ad (up r 0 0 0) 2 _) kX6_104 ⟨rfl, rfl, Nat.le_of_ble_eq_true rfl, Nat.le_of_ble_eq_true rfl⟩ hK hP hD hS hA 0 ml_0 (q := (RX6, TX6, 31)) rfl rfl (As := [.int 2]) rfl hl.1 (rest := []) rfl (Nat.le_of_ble_eq_true rfl) dX6_visit_46 ⟨Nat.le_of_ble_eq_true rfl, Nat.le_of_ble_eq_true rfl⟩ (st1 := [.int 0]) rfl (fun H locs hP hD hS => ?_)
              exact eMi S hr hlk hP hD hS dX6_visit_49 rfl up_twice_mw
  · skip
    exact False.elim (by revert b5; decide)

set_option maxHeartbeats 4000000 in
set_option maxRecDepth 100000 in
theorem rr_visit3a (l : Launch) (dg : va_G) (cA : Nat → ClassId) (ad : Nat → Nat) (r : St) (n : Nat) (hn : r 0 3 = nI n) (hn24 : n ≤ 24) (j : Nat) (hj : j < n) (o a : Int32) (hov : o = 97 ∨ o = 110 ∨ o = 114 ∨ o = 101) (h1 : ¬ a < 0) (h2 : ¬ 9 < a) (hr0 : r 18 j = -1) (sz : Nat) : MetM l dg cA yX6_visit cX6_visit 5 (some .int) ({ frames := 2, cells := 0, slots := 0, locals := 43 } : Room) 0 0 (mw cA ad r) sz [.ref (ad 0), .int (nI j), .int o, .int a] (mw cA ad (up r 0 0 3)) (some (.int 0)) := by
  refine ofM (by decide) (Nat.le_of_ble_eq_true rfl) (own := RX6) rfl (fun p e s0 m args below meth ccd ls A hAe S hr hlk hname hargs hK hP hD hS hA hsz hl => ?_)
  have hx := S.1
  have hb := S.2.1
  have hl : lv_has ls 5 [(0, .ref (ad 0)), (1, .int (nI j)), (2, .int o), (3, .int a)] := hl
  refine lv_aload_n hx hb dX6_visit_0 rfl (lv_at hl 0 rfl) ?_
  refine lv_iload_n hx hb dX6_visit_1 rfl (lv_at hl 1 rfl) ?_
  refine cM S (rr_isHouse1 l dg cA ad r n hn hn24 j hj _) kX6_133 ⟨rfl, rfl, Nat.le_of_ble_eq_true rfl, Nat.le_of_ble_eq_true rfl⟩ hK hP hD hS hA 0 ml_0 (q := (RX6, TX6, 31)) rfl rfl (As := [.int (nI j)]) rfl hl.1 (rest := []) rfl (Nat.le_of_ble_eq_true rfl) dX6_visit_2 ⟨Nat.le_of_ble_eq_true rfl, Nat.le_of_ble_eq_true rfl⟩ (st1 := [.int 1]) rfl (fun H locs hP hD hS => ?_)
  refine lv_if_ne (tgt := 10) hx hb dX6_visit_5 (by decide) (fun b5 => ?_) (fun b5 => ?_)
  · skip
    refine lv_iload_n hx hb dX6_visit_10 rfl (lv_at hl 2 rfl) ?_
    refine lv_bipush (v := 97) hx hb dX6_visit_11 (by decide) ?_
    refine lv_icmp_eq (tgt := 34) hx hb dX6_visit_13 (by decide) (fun b13 => ?_) (fun b13 => ?_)
    · skip
      refine lv_iload_n hx hb dX6_visit_34 rfl (lv_at hl 3 rfl) ?_
      refine lv_iconst (v := 0) hx hb dX6_visit_35 (by decide) ?_
      refine lv_bipush (v := 9) hx hb dX6_visit_36 (by decide) ?_
      refine cRS S (rr_in1 l dg cA (mw cA ad (up r 0 0 0)) a 0 9 h1 h2) kX6_96 ⟨rfl, rfl, Nat.le_of_ble_eq_true rfl, Nat.le_of_ble_eq_true rfl⟩ hK hP (As := [.int a, .int 0, .int 9]) rfl hl.1 (rest := []) rfl (Nat.le_of_ble_eq_true rfl) dX6_visit_38 ⟨Nat.le_of_ble_eq_true rfl, Nat.le_of_ble_eq_true rfl⟩ (st1 := [.int 1]) rfl ?_
      refine lv_if_ne (tgt := 50) hx hb dX6_visit_41 (by decide) (fun b41 => ?_) (fun b41 => ?_)
      · skip
        refine lv_aload_n hx hb dX6_visit_50 rfl (lv_at hl 0 rfl) ?_
        refine gf S hK hP 0 ml_0 fX6_66 (v := .ref (ad 18)) mr_18 dX6_visit_51 ?_
        refine lv_iload_n hx hb dX6_visit_54 rfl (lv_at hl 1 rfl) ?_
        refine ild S hK hP 18 ml_18 (j := j) (by omega) (Nat.le_of_ble_eq_true rfl) dX6_visit_55 ?_
        refine lv_as (y := (-1)) hr0 ?_
        refine lv_istore (lv' := [(4, .int (-1)), (0, .ref (ad 0)), (1, .int (nI j)), (2, .int o), (3, .int a)]) hx hb dX6_visit_56 hl (by decide) rfl (fun ls hl => ?_)
        refine lv_iload hx hb dX6_visit_58 (lv_at hl 0 rfl) ?_
        refine lv_iconst (v := (-1)) hx hb dX6_visit_60 (by decide) ?_
        refine lv_icmp_eq (tgt := 84) hx hb dX6_visit_61 (by decide) (fun b61 => ?_) (fun b61 => ?_)
        · skip
          refine lv_aload_n hx hb dX6_visit_84 rfl (lv_at hl 1 rfl) ?_
          refine lv_iconst (v := 3) hx hb dX6_visit_85 (by decide) ?_
          refine cM S (rr_fails l dg cA ad (up r 0 0 0) 3 _) kX6_104 ⟨rfl, rfl, Nat.le_of_ble_eq_true rfl, Nat.le_of_ble_eq_true rfl⟩ hK hP hD hS hA 0 ml_0 (q := (RX6, TX6, 31)) rfl rfl (As := [.int 3]) rfl hl.1 (rest := []) rfl (Nat.le_of_ble_eq_true rfl) dX6_visit_86 ⟨Nat.le_of_ble_eq_true rfl, Nat.le_of_ble_eq_true rfl⟩ (st1 := [.int 0]) rfl (fun H locs hP hD hS => ?_)
          exact eMi S hr hlk hP hD hS dX6_visit_89 rfl up_twice_mw
        · skip
          exact False.elim (by revert b61; decide)
      · skip
        exact absurd b41 b5
    · skip
      refine lv_iload_n hx hb dX6_visit_16 rfl (lv_at hl 2 rfl) ?_
      refine lv_bipush (v := 110) hx hb dX6_visit_17 (by decide) ?_
      refine lv_icmp_eq (tgt := 34) hx hb dX6_visit_19 (by decide) (fun b19 => ?_) (fun b19 => ?_)
      · skip
        refine lv_iload_n hx hb dX6_visit_34 rfl (lv_at hl 3 rfl) ?_
        refine lv_iconst (v := 0) hx hb dX6_visit_35 (by decide) ?_
        refine lv_bipush (v := 9) hx hb dX6_visit_36 (by decide) ?_
        refine cRS S (rr_in1 l dg cA (mw cA ad (up r 0 0 0)) a 0 9 h1 h2) kX6_96 ⟨rfl, rfl, Nat.le_of_ble_eq_true rfl, Nat.le_of_ble_eq_true rfl⟩ hK hP (As := [.int a, .int 0, .int 9]) rfl hl.1 (rest := []) rfl (Nat.le_of_ble_eq_true rfl) dX6_visit_38 ⟨Nat.le_of_ble_eq_true rfl, Nat.le_of_ble_eq_true rfl⟩ (st1 := [.int 1]) rfl ?_
        refine lv_if_ne (tgt := 50) hx hb dX6_visit_41 (by decide) (fun b41 => ?_) (fun b41 => ?_)
        · skip
          refine lv_aload_n hx hb dX6_visit_50 rfl (lv_at hl 0 rfl) ?_
          refine gf S hK hP 0 ml_0 fX6_66 (v := .ref (ad 18)) mr_18 dX6_visit_51 ?_
          refine lv_iload_n hx hb dX6_visit_54 rfl (lv_at hl 1 rfl) ?_
          refine ild S hK hP 18 ml_18 (j := j) (by omega) (Nat.le_of_ble_eq_true rfl) dX6_visit_55 ?_
          refine lv_as (y := (-1)) hr0 ?_
          refine lv_istore (lv' := [(4, .int (-1)), (0, .ref (ad 0)), (1, .int (nI j)), (2, .int o), (3, .int a)]) hx hb dX6_visit_56 hl (by decide) rfl (fun ls hl => ?_)
          refine lv_iload hx hb dX6_visit_58 (lv_at hl 0 rfl) ?_
          refine lv_iconst (v := (-1)) hx hb dX6_visit_60 (by decide) ?_
          refine lv_icmp_eq (tgt := 84) hx hb dX6_visit_61 (by decide) (fun b61 => ?_) (fun b61 => ?_)
          · skip
            refine lv_aload_n hx hb dX6_visit_84 rfl (lv_at hl 1 rfl) ?_
            refine lv_iconst (v := 3) hx hb dX6_visit_85 (by decide) ?_
            refine cM S (rr_fails l dg cA ad (up r 0 0 0) 3 _) kX6_104 ⟨rfl, rfl, Nat.le_of_ble_eq_true rfl, Nat.le_of_ble_eq_true rfl⟩ hK hP hD hS hA 0 ml_0 (q := (RX6, TX6, 31)) rfl rfl (As := [.int 3]) rfl hl.1 (rest := []) rfl (Nat.le_of_ble_eq_true rfl) dX6_visit_86 ⟨Nat.le_of_ble_eq_true rfl, Nat.le_of_ble_eq_true rfl⟩ (st1 := [.int 0]) rfl (fun H locs hP hD hS => ?_)
            exact eMi S hr hlk hP hD hS dX6_visit_89 rfl up_twice_mw
          · skip
            exact False.elim (by revert b61; decide)
        · skip
          exact absurd b41 b5
      · skip
        refine lv_iload_n hx hb dX6_visit_22 rfl (lv_at hl 2 rfl) ?_
        refine lv_bipush (v := 114) hx hb dX6_visit_23 (by decide) ?_
        refine lv_icmp_eq (tgt := 34) hx hb dX6_visit_25 (by decide) (fun b25 => ?_) (fun b25 => ?_)
        · skip
          refine lv_iload_n hx hb dX6_visit_34 rfl (lv_at hl 3 rfl) ?_
          refine lv_iconst (v := 0) hx hb dX6_visit_35 (by decide) ?_
          refine lv_bipush (v := 9) hx hb dX6_visit_36 (by decide) ?_
          refine cRS S (rr_in1 l dg cA (mw cA ad (up r 0 0 0)) a 0 9 h1 h2) kX6_96 ⟨rfl, rfl, Nat.le_of_ble_eq_true rfl, Nat.le_of_ble_eq_true rfl⟩ hK hP (As := [.int a, .int 0, .int 9]) rfl hl.1 (rest := []) rfl (Nat.le_of_ble_eq_true rfl) dX6_visit_38 ⟨Nat.le_of_ble_eq_true rfl, Nat.le_of_ble_eq_true rfl⟩ (st1 := [.int 1]) rfl ?_
          refine lv_if_ne (tgt := 50) hx hb dX6_visit_41 (by decide) (fun b41 => ?_) (fun b41 => ?_)
          · skip
            refine lv_aload_n hx hb dX6_visit_50 rfl (lv_at hl 0 rfl) ?_
            refine gf S hK hP 0 ml_0 fX6_66 (v := .ref (ad 18)) mr_18 dX6_visit_51 ?_
            refine lv_iload_n hx hb dX6_visit_54 rfl (lv_at hl 1 rfl) ?_
            refine ild S hK hP 18 ml_18 (j := j) (by omega) (Nat.le_of_ble_eq_true rfl) dX6_visit_55 ?_
            refine lv_as (y := (-1)) hr0 ?_
            refine lv_istore (lv' := [(4, .int (-1)), (0, .ref (ad 0)), (1, .int (nI j)), (2, .int o), (3, .int a)]) hx hb dX6_visit_56 hl (by decide) rfl (fun ls hl => ?_)
            refine lv_iload hx hb dX6_visit_58 (lv_at hl 0 rfl) ?_
            refine lv_iconst (v := (-1)) hx hb dX6_visit_60 (by decide) ?_
            refine lv_icmp_eq (tgt := 84) hx hb dX6_visit_61 (by decide) (fun b61 => ?_) (fun b61 => ?_)
            · skip
              refine lv_aload_n hx hb dX6_visit_84 rfl (lv_at hl 1 rfl) ?_
              refine lv_iconst (v := 3) hx hb dX6_visit_85 (by decide) ?_
              refine cM S (rr_fails l dg cA ad (up r 0 0 0) 3 _) kX6_104 ⟨rfl, rfl, Nat.le_of_ble_eq_true rfl, Nat.le_of_ble_eq_true rfl⟩ hK hP hD hS hA 0 ml_0 (q := (RX6, TX6, 31)) rfl rfl (As := [.int 3]) rfl hl.1 (rest := []) rfl (Nat.le_of_ble_eq_true rfl) dX6_visit_86 ⟨Nat.le_of_ble_eq_true rfl, Nat.le_of_ble_eq_true rfl⟩ (st1 := [.int 0]) rfl (fun H locs hP hD hS => ?_)
              exact eMi S hr hlk hP hD hS dX6_visit_89 rfl up_twice_mw
            · skip
              exact False.elim (by revert b61; decide)
          · skip
            exact absurd b41 b5
        · skip
          refine lv_iload_n hx hb dX6_visit_28 rfl (lv_at hl 2 rfl) ?_
          refine lv_bipush (v := 101) hx hb dX6_visit_29 (by decide) ?_
          refine lv_icmp_ne (tgt := 44) hx hb dX6_visit_31 (by decide) (fun b31 => ?_) (fun b31 => ?_)
          · skip
            exact absurd hov (by simp [b13, b19, b25, b31])
          · skip
            refine lv_iload_n hx hb dX6_visit_34 rfl (lv_at hl 3 rfl) ?_
            refine lv_iconst (v := 0) hx hb dX6_visit_35 (by decide) ?_
            refine lv_bipush (v := 9) hx hb dX6_visit_36 (by decide) ?_
            refine cRS S (rr_in1 l dg cA (mw cA ad (up r 0 0 0)) a 0 9 h1 h2) kX6_96 ⟨rfl, rfl, Nat.le_of_ble_eq_true rfl, Nat.le_of_ble_eq_true rfl⟩ hK hP (As := [.int a, .int 0, .int 9]) rfl hl.1 (rest := []) rfl (Nat.le_of_ble_eq_true rfl) dX6_visit_38 ⟨Nat.le_of_ble_eq_true rfl, Nat.le_of_ble_eq_true rfl⟩ (st1 := [.int 1]) rfl ?_
            refine lv_if_ne (tgt := 50) hx hb dX6_visit_41 (by decide) (fun b41 => ?_) (fun b41 => ?_)
            · skip
              refine lv_aload_n hx hb dX6_visit_50 rfl (lv_at hl 0 rfl) ?_
              refine gf S hK hP 0 ml_0 fX6_66 (v := .ref (ad 18)) mr_18 dX6_visit_51 ?_
              refine lv_iload_n hx hb dX6_visit_54 rfl (lv_at hl 1 rfl) ?_
              refine ild S hK hP 18 ml_18 (j := j) (by omega) (Nat.le_of_ble_eq_true rfl) dX6_visit_55 ?_
              refine lv_as (y := (-1)) hr0 ?_
              refine lv_istore (lv' := [(4, .int (-1)), (0, .ref (ad 0)), (1, .int (nI j)), (2, .int o), (3, .int a)]) hx hb dX6_visit_56 hl (by decide) rfl (fun ls hl => ?_)
              refine lv_iload hx hb dX6_visit_58 (lv_at hl 0 rfl) ?_
              refine lv_iconst (v := (-1)) hx hb dX6_visit_60 (by decide) ?_
              refine lv_icmp_eq (tgt := 84) hx hb dX6_visit_61 (by decide) (fun b61 => ?_) (fun b61 => ?_)
              · skip
                refine lv_aload_n hx hb dX6_visit_84 rfl (lv_at hl 1 rfl) ?_
                refine lv_iconst (v := 3) hx hb dX6_visit_85 (by decide) ?_
                refine cM S (rr_fails l dg cA ad (up r 0 0 0) 3 _) kX6_104 ⟨rfl, rfl, Nat.le_of_ble_eq_true rfl, Nat.le_of_ble_eq_true rfl⟩ hK hP hD hS hA 0 ml_0 (q := (RX6, TX6, 31)) rfl rfl (As := [.int 3]) rfl hl.1 (rest := []) rfl (Nat.le_of_ble_eq_true rfl) dX6_visit_86 ⟨Nat.le_of_ble_eq_true rfl, Nat.le_of_ble_eq_true rfl⟩ (st1 := [.int 0]) rfl (fun H locs hP hD hS => ?_)
                exact eMi S hr hlk hP hD hS dX6_visit_89 rfl up_twice_mw
              · skip
                exact False.elim (by revert b61; decide)
            · skip
              exact absurd b41 b5
  · skip
    exact False.elim (by revert b5; decide)

set_option maxHeartbeats 4000000 in
set_option maxRecDepth 100000 in
theorem rr_visit3b (l : Launch) (dg : va_G) (cA : Nat → ClassId) (ad : Nat → Nat) (r : St) (n : Nat) (hn : r 0 3 = nI n) (hn24 : n ≤ 24) (j : Nat) (hj : j < n) (o a : Int32) (hov : o = 97 ∨ o = 110 ∨ o = 114 ∨ o = 101) (h1 : ¬ a < 0) (h2 : ¬ 9 < a) (i : Nat) (hi4 : i < 4) (hr0 : r 18 j = nI i) (ht : ¬ r 17 j = 0) (sz : Nat) : MetM l dg cA yX6_visit cX6_visit 5 (some .int) ({ frames := 2, cells := 0, slots := 0, locals := 43 } : Room) 0 0 (mw cA ad r) sz [.ref (ad 0), .int (nI j), .int o, .int a] (mw cA ad (up r 0 0 3)) (some (.int 0)) := by
  refine ofM (by decide) (Nat.le_of_ble_eq_true rfl) (own := RX6) rfl (fun p e s0 m args below meth ccd ls A hAe S hr hlk hname hargs hK hP hD hS hA hsz hl => ?_)
  have hx := S.1
  have hb := S.2.1
  have hl : lv_has ls 5 [(0, .ref (ad 0)), (1, .int (nI j)), (2, .int o), (3, .int a)] := hl
  refine lv_aload_n hx hb dX6_visit_0 rfl (lv_at hl 0 rfl) ?_
  refine lv_iload_n hx hb dX6_visit_1 rfl (lv_at hl 1 rfl) ?_
  refine cM S (rr_isHouse1 l dg cA ad r n hn hn24 j hj _) kX6_133 ⟨rfl, rfl, Nat.le_of_ble_eq_true rfl, Nat.le_of_ble_eq_true rfl⟩ hK hP hD hS hA 0 ml_0 (q := (RX6, TX6, 31)) rfl rfl (As := [.int (nI j)]) rfl hl.1 (rest := []) rfl (Nat.le_of_ble_eq_true rfl) dX6_visit_2 ⟨Nat.le_of_ble_eq_true rfl, Nat.le_of_ble_eq_true rfl⟩ (st1 := [.int 1]) rfl (fun H locs hP hD hS => ?_)
  refine lv_if_ne (tgt := 10) hx hb dX6_visit_5 (by decide) (fun b5 => ?_) (fun b5 => ?_)
  · skip
    refine lv_iload_n hx hb dX6_visit_10 rfl (lv_at hl 2 rfl) ?_
    refine lv_bipush (v := 97) hx hb dX6_visit_11 (by decide) ?_
    refine lv_icmp_eq (tgt := 34) hx hb dX6_visit_13 (by decide) (fun b13 => ?_) (fun b13 => ?_)
    · skip
      refine lv_iload_n hx hb dX6_visit_34 rfl (lv_at hl 3 rfl) ?_
      refine lv_iconst (v := 0) hx hb dX6_visit_35 (by decide) ?_
      refine lv_bipush (v := 9) hx hb dX6_visit_36 (by decide) ?_
      refine cRS S (rr_in1 l dg cA (mw cA ad (up r 0 0 0)) a 0 9 h1 h2) kX6_96 ⟨rfl, rfl, Nat.le_of_ble_eq_true rfl, Nat.le_of_ble_eq_true rfl⟩ hK hP (As := [.int a, .int 0, .int 9]) rfl hl.1 (rest := []) rfl (Nat.le_of_ble_eq_true rfl) dX6_visit_38 ⟨Nat.le_of_ble_eq_true rfl, Nat.le_of_ble_eq_true rfl⟩ (st1 := [.int 1]) rfl ?_
      refine lv_if_ne (tgt := 50) hx hb dX6_visit_41 (by decide) (fun b41 => ?_) (fun b41 => ?_)
      · skip
        refine lv_aload_n hx hb dX6_visit_50 rfl (lv_at hl 0 rfl) ?_
        refine gf S hK hP 0 ml_0 fX6_66 (v := .ref (ad 18)) mr_18 dX6_visit_51 ?_
        refine lv_iload_n hx hb dX6_visit_54 rfl (lv_at hl 1 rfl) ?_
        refine ild S hK hP 18 ml_18 (j := j) (by omega) (Nat.le_of_ble_eq_true rfl) dX6_visit_55 ?_
        refine lv_as (y := nI i) hr0 ?_
        refine lv_istore (lv' := [(4, .int (nI i)), (0, .ref (ad 0)), (1, .int (nI j)), (2, .int o), (3, .int a)]) hx hb dX6_visit_56 hl (by decide) rfl (fun ls hl => ?_)
        refine lv_iload hx hb dX6_visit_58 (lv_at hl 0 rfl) ?_
        refine lv_iconst (v := (-1)) hx hb dX6_visit_60 (by decide) ?_
        refine lv_icmp_eq (tgt := 84) hx hb dX6_visit_61 (by decide) (fun b61 => ?_) (fun b61 => ?_)
        · skip
          exact absurd b61 (nI_m1 (by omega))
        · skip
          refine lv_aload_n hx hb dX6_visit_64 rfl (lv_at hl 1 rfl) ?_
          refine gf S hK hP 0 ml_0 fX6_63 (v := .ref (ad 17)) mr_17 dX6_visit_65 ?_
          refine lv_iload_n hx hb dX6_visit_68 rfl (lv_at hl 2 rfl) ?_
          refine zld S hK hP 17 ml_17 (j := j) (by omega) (Nat.le_of_ble_eq_true rfl) dX6_visit_69 ?_
          refine lv_as (y := r 17 j) rfl ?_
          refine lv_if_ne (tgt := 84) hx hb dX6_visit_70 (by decide) (fun b70 => ?_) (fun b70 => ?_)
          · skip
            refine lv_aload_n hx hb dX6_visit_84 rfl (lv_at hl 1 rfl) ?_
            refine lv_iconst (v := 3) hx hb dX6_visit_85 (by decide) ?_
            refine cM S (rr_fails l dg cA ad (up r 0 0 0) 3 _) kX6_104 ⟨rfl, rfl, Nat.le_of_ble_eq_true rfl, Nat.le_of_ble_eq_true rfl⟩ hK hP hD hS hA 0 ml_0 (q := (RX6, TX6, 31)) rfl rfl (As := [.int 3]) rfl hl.1 (rest := []) rfl (Nat.le_of_ble_eq_true rfl) dX6_visit_86 ⟨Nat.le_of_ble_eq_true rfl, Nat.le_of_ble_eq_true rfl⟩ (st1 := [.int 0]) rfl (fun H locs hP hD hS => ?_)
            exact eMi S hr hlk hP hD hS dX6_visit_89 rfl up_twice_mw
          · skip
            exact absurd b70 ht
      · skip
        exact absurd b41 b5
    · skip
      refine lv_iload_n hx hb dX6_visit_16 rfl (lv_at hl 2 rfl) ?_
      refine lv_bipush (v := 110) hx hb dX6_visit_17 (by decide) ?_
      refine lv_icmp_eq (tgt := 34) hx hb dX6_visit_19 (by decide) (fun b19 => ?_) (fun b19 => ?_)
      · skip
        refine lv_iload_n hx hb dX6_visit_34 rfl (lv_at hl 3 rfl) ?_
        refine lv_iconst (v := 0) hx hb dX6_visit_35 (by decide) ?_
        refine lv_bipush (v := 9) hx hb dX6_visit_36 (by decide) ?_
        refine cRS S (rr_in1 l dg cA (mw cA ad (up r 0 0 0)) a 0 9 h1 h2) kX6_96 ⟨rfl, rfl, Nat.le_of_ble_eq_true rfl, Nat.le_of_ble_eq_true rfl⟩ hK hP (As := [.int a, .int 0, .int 9]) rfl hl.1 (rest := []) rfl (Nat.le_of_ble_eq_true rfl) dX6_visit_38 ⟨Nat.le_of_ble_eq_true rfl, Nat.le_of_ble_eq_true rfl⟩ (st1 := [.int 1]) rfl ?_
        refine lv_if_ne (tgt := 50) hx hb dX6_visit_41 (by decide) (fun b41 => ?_) (fun b41 => ?_)
        · skip
          refine lv_aload_n hx hb dX6_visit_50 rfl (lv_at hl 0 rfl) ?_
          refine gf S hK hP 0 ml_0 fX6_66 (v := .ref (ad 18)) mr_18 dX6_visit_51 ?_
          refine lv_iload_n hx hb dX6_visit_54 rfl (lv_at hl 1 rfl) ?_
          refine ild S hK hP 18 ml_18 (j := j) (by omega) (Nat.le_of_ble_eq_true rfl) dX6_visit_55 ?_
          refine lv_as (y := nI i) hr0 ?_
          refine lv_istore (lv' := [(4, .int (nI i)), (0, .ref (ad 0)), (1, .int (nI j)), (2, .int o), (3, .int a)]) hx hb dX6_visit_56 hl (by decide) rfl (fun ls hl => ?_)
          refine lv_iload hx hb dX6_visit_58 (lv_at hl 0 rfl) ?_
          refine lv_iconst (v := (-1)) hx hb dX6_visit_60 (by decide) ?_
          refine lv_icmp_eq (tgt := 84) hx hb dX6_visit_61 (by decide) (fun b61 => ?_) (fun b61 => ?_)
          · skip
            exact absurd b61 (nI_m1 (by omega))
          · skip
            refine lv_aload_n hx hb dX6_visit_64 rfl (lv_at hl 1 rfl) ?_
            refine gf S hK hP 0 ml_0 fX6_63 (v := .ref (ad 17)) mr_17 dX6_visit_65 ?_
            refine lv_iload_n hx hb dX6_visit_68 rfl (lv_at hl 2 rfl) ?_
            refine zld S hK hP 17 ml_17 (j := j) (by omega) (Nat.le_of_ble_eq_true rfl) dX6_visit_69 ?_
            refine lv_as (y := r 17 j) rfl ?_
            refine lv_if_ne (tgt := 84) hx hb dX6_visit_70 (by decide) (fun b70 => ?_) (fun b70 => ?_)
            · skip
              refine lv_aload_n hx hb dX6_visit_84 rfl (lv_at hl 1 rfl) ?_
              refine lv_iconst (v := 3) hx hb dX6_visit_85 (by decide) ?_
              refine cM S (rr_fails l dg cA ad (up r 0 0 0) 3 _) kX6_104 ⟨rfl, rfl, Nat.le_of_ble_eq_true rfl, Nat.le_of_ble_eq_true rfl⟩ hK hP hD hS hA 0 ml_0 (q := (RX6, TX6, 31)) rfl rfl (As := [.int 3]) rfl hl.1 (rest := []) rfl (Nat.le_of_ble_eq_true rfl) dX6_visit_86 ⟨Nat.le_of_ble_eq_true rfl, Nat.le_of_ble_eq_true rfl⟩ (st1 := [.int 0]) rfl (fun H locs hP hD hS => ?_)
              exact eMi S hr hlk hP hD hS dX6_visit_89 rfl up_twice_mw
            · skip
              exact absurd b70 ht
        · skip
          exact absurd b41 b5
      · skip
        refine lv_iload_n hx hb dX6_visit_22 rfl (lv_at hl 2 rfl) ?_
        refine lv_bipush (v := 114) hx hb dX6_visit_23 (by decide) ?_
        refine lv_icmp_eq (tgt := 34) hx hb dX6_visit_25 (by decide) (fun b25 => ?_) (fun b25 => ?_)
        · skip
          refine lv_iload_n hx hb dX6_visit_34 rfl (lv_at hl 3 rfl) ?_
          refine lv_iconst (v := 0) hx hb dX6_visit_35 (by decide) ?_
          refine lv_bipush (v := 9) hx hb dX6_visit_36 (by decide) ?_
          refine cRS S (rr_in1 l dg cA (mw cA ad (up r 0 0 0)) a 0 9 h1 h2) kX6_96 ⟨rfl, rfl, Nat.le_of_ble_eq_true rfl, Nat.le_of_ble_eq_true rfl⟩ hK hP (As := [.int a, .int 0, .int 9]) rfl hl.1 (rest := []) rfl (Nat.le_of_ble_eq_true rfl) dX6_visit_38 ⟨Nat.le_of_ble_eq_true rfl, Nat.le_of_ble_eq_true rfl⟩ (st1 := [.int 1]) rfl ?_
          refine lv_if_ne (tgt := 50) hx hb dX6_visit_41 (by decide) (fun b41 => ?_) (fun b41 => ?_)
          · skip
            refine lv_aload_n hx hb dX6_visit_50 rfl (lv_at hl 0 rfl) ?_
            refine gf S hK hP 0 ml_0 fX6_66 (v := .ref (ad 18)) mr_18 dX6_visit_51 ?_
            refine lv_iload_n hx hb dX6_visit_54 rfl (lv_at hl 1 rfl) ?_
            refine ild S hK hP 18 ml_18 (j := j) (by omega) (Nat.le_of_ble_eq_true rfl) dX6_visit_55 ?_
            refine lv_as (y := nI i) hr0 ?_
            refine lv_istore (lv' := [(4, .int (nI i)), (0, .ref (ad 0)), (1, .int (nI j)), (2, .int o), (3, .int a)]) hx hb dX6_visit_56 hl (by decide) rfl (fun ls hl => ?_)
            refine lv_iload hx hb dX6_visit_58 (lv_at hl 0 rfl) ?_
            refine lv_iconst (v := (-1)) hx hb dX6_visit_60 (by decide) ?_
            refine lv_icmp_eq (tgt := 84) hx hb dX6_visit_61 (by decide) (fun b61 => ?_) (fun b61 => ?_)
            · skip
              exact absurd b61 (nI_m1 (by omega))
            · skip
              refine lv_aload_n hx hb dX6_visit_64 rfl (lv_at hl 1 rfl) ?_
              refine gf S hK hP 0 ml_0 fX6_63 (v := .ref (ad 17)) mr_17 dX6_visit_65 ?_
              refine lv_iload_n hx hb dX6_visit_68 rfl (lv_at hl 2 rfl) ?_
              refine zld S hK hP 17 ml_17 (j := j) (by omega) (Nat.le_of_ble_eq_true rfl) dX6_visit_69 ?_
              refine lv_as (y := r 17 j) rfl ?_
              refine lv_if_ne (tgt := 84) hx hb dX6_visit_70 (by decide) (fun b70 => ?_) (fun b70 => ?_)
              · skip
                refine lv_aload_n hx hb dX6_visit_84 rfl (lv_at hl 1 rfl) ?_
                refine lv_iconst (v := 3) hx hb dX6_visit_85 (by decide) ?_
                refine cM S (rr_fails l dg cA ad (up r 0 0 0) 3 _) kX6_104 ⟨rfl, rfl, Nat.le_of_ble_eq_true rfl, Nat.le_of_ble_eq_true rfl⟩ hK hP hD hS hA 0 ml_0 (q := (RX6, TX6, 31)) rfl rfl (As := [.int 3]) rfl hl.1 (rest := []) rfl (Nat.le_of_ble_eq_true rfl) dX6_visit_86 ⟨Nat.le_of_ble_eq_true rfl, Nat.le_of_ble_eq_true rfl⟩ (st1 := [.int 0]) rfl (fun H locs hP hD hS => ?_)
                exact eMi S hr hlk hP hD hS dX6_visit_89 rfl up_twice_mw
              · skip
                exact absurd b70 ht
          · skip
            exact absurd b41 b5
        · skip
          refine lv_iload_n hx hb dX6_visit_28 rfl (lv_at hl 2 rfl) ?_
          refine lv_bipush (v := 101) hx hb dX6_visit_29 (by decide) ?_
          refine lv_icmp_ne (tgt := 44) hx hb dX6_visit_31 (by decide) (fun b31 => ?_) (fun b31 => ?_)
          · skip
            exact absurd hov (by simp [b13, b19, b25, b31])
          · skip
            refine lv_iload_n hx hb dX6_visit_34 rfl (lv_at hl 3 rfl) ?_
            refine lv_iconst (v := 0) hx hb dX6_visit_35 (by decide) ?_
            refine lv_bipush (v := 9) hx hb dX6_visit_36 (by decide) ?_
            refine cRS S (rr_in1 l dg cA (mw cA ad (up r 0 0 0)) a 0 9 h1 h2) kX6_96 ⟨rfl, rfl, Nat.le_of_ble_eq_true rfl, Nat.le_of_ble_eq_true rfl⟩ hK hP (As := [.int a, .int 0, .int 9]) rfl hl.1 (rest := []) rfl (Nat.le_of_ble_eq_true rfl) dX6_visit_38 ⟨Nat.le_of_ble_eq_true rfl, Nat.le_of_ble_eq_true rfl⟩ (st1 := [.int 1]) rfl ?_
            refine lv_if_ne (tgt := 50) hx hb dX6_visit_41 (by decide) (fun b41 => ?_) (fun b41 => ?_)
            · skip
              refine lv_aload_n hx hb dX6_visit_50 rfl (lv_at hl 0 rfl) ?_
              refine gf S hK hP 0 ml_0 fX6_66 (v := .ref (ad 18)) mr_18 dX6_visit_51 ?_
              refine lv_iload_n hx hb dX6_visit_54 rfl (lv_at hl 1 rfl) ?_
              refine ild S hK hP 18 ml_18 (j := j) (by omega) (Nat.le_of_ble_eq_true rfl) dX6_visit_55 ?_
              refine lv_as (y := nI i) hr0 ?_
              refine lv_istore (lv' := [(4, .int (nI i)), (0, .ref (ad 0)), (1, .int (nI j)), (2, .int o), (3, .int a)]) hx hb dX6_visit_56 hl (by decide) rfl (fun ls hl => ?_)
              refine lv_iload hx hb dX6_visit_58 (lv_at hl 0 rfl) ?_
              refine lv_iconst (v := (-1)) hx hb dX6_visit_60 (by decide) ?_
              refine lv_icmp_eq (tgt := 84) hx hb dX6_visit_61 (by decide) (fun b61 => ?_) (fun b61 => ?_)
              · skip
                exact absurd b61 (nI_m1 (by omega))
              · skip
                refine lv_aload_n hx hb dX6_visit_64 rfl (lv_at hl 1 rfl) ?_
                refine gf S hK hP 0 ml_0 fX6_63 (v := .ref (ad 17)) mr_17 dX6_visit_65 ?_
                refine lv_iload_n hx hb dX6_visit_68 rfl (lv_at hl 2 rfl) ?_
                refine zld S hK hP 17 ml_17 (j := j) (by omega) (Nat.le_of_ble_eq_true rfl) dX6_visit_69 ?_
                refine lv_as (y := r 17 j) rfl ?_
                refine lv_if_ne (tgt := 84) hx hb dX6_visit_70 (by decide) (fun b70 => ?_) (fun b70 => ?_)
                · skip
                  refine lv_aload_n hx hb dX6_visit_84 rfl (lv_at hl 1 rfl) ?_
                  refine lv_iconst (v := 3) hx hb dX6_visit_85 (by decide) ?_
                  refine cM S (rr_fails l dg cA ad (up r 0 0 0) 3 _) kX6_104 ⟨rfl, rfl, Nat.le_of_ble_eq_true rfl, Nat.le_of_ble_eq_true rfl⟩ hK hP hD hS hA 0 ml_0 (q := (RX6, TX6, 31)) rfl rfl (As := [.int 3]) rfl hl.1 (rest := []) rfl (Nat.le_of_ble_eq_true rfl) dX6_visit_86 ⟨Nat.le_of_ble_eq_true rfl, Nat.le_of_ble_eq_true rfl⟩ (st1 := [.int 0]) rfl (fun H locs hP hD hS => ?_)
                  exact eMi S hr hlk hP hD hS dX6_visit_89 rfl up_twice_mw
                · skip
                  exact absurd b70 ht
            · skip
              exact absurd b41 b5
  · skip
    exact False.elim (by revert b5; decide)

set_option maxHeartbeats 4000000 in
set_option maxRecDepth 100000 in
theorem rr_visit3c (l : Launch) (dg : va_G) (cA : Nat → ClassId) (ad : Nat → Nat) (r : St) (n : Nat) (hn : r 0 3 = nI n) (hn24 : n ≤ 24) (j : Nat) (hj : j < n) (o a : Int32) (hov : o = 97 ∨ o = 110 ∨ o = 114 ∨ o = 101) (h1 : ¬ a < 0) (h2 : ¬ 9 < a) (i : Nat) (hi4 : i < 4) (hr0 : r 18 j = nI i) (hf : r 25 i = 2) (sz : Nat) : MetM l dg cA yX6_visit cX6_visit 5 (some .int) ({ frames := 2, cells := 0, slots := 0, locals := 43 } : Room) 0 0 (mw cA ad r) sz [.ref (ad 0), .int (nI j), .int o, .int a] (mw cA ad (up r 0 0 3)) (some (.int 0)) := by
  refine ofM (by decide) (Nat.le_of_ble_eq_true rfl) (own := RX6) rfl (fun p e s0 m args below meth ccd ls A hAe S hr hlk hname hargs hK hP hD hS hA hsz hl => ?_)
  have hx := S.1
  have hb := S.2.1
  have hl : lv_has ls 5 [(0, .ref (ad 0)), (1, .int (nI j)), (2, .int o), (3, .int a)] := hl
  refine lv_aload_n hx hb dX6_visit_0 rfl (lv_at hl 0 rfl) ?_
  refine lv_iload_n hx hb dX6_visit_1 rfl (lv_at hl 1 rfl) ?_
  refine cM S (rr_isHouse1 l dg cA ad r n hn hn24 j hj _) kX6_133 ⟨rfl, rfl, Nat.le_of_ble_eq_true rfl, Nat.le_of_ble_eq_true rfl⟩ hK hP hD hS hA 0 ml_0 (q := (RX6, TX6, 31)) rfl rfl (As := [.int (nI j)]) rfl hl.1 (rest := []) rfl (Nat.le_of_ble_eq_true rfl) dX6_visit_2 ⟨Nat.le_of_ble_eq_true rfl, Nat.le_of_ble_eq_true rfl⟩ (st1 := [.int 1]) rfl (fun H locs hP hD hS => ?_)
  refine lv_if_ne (tgt := 10) hx hb dX6_visit_5 (by decide) (fun b5 => ?_) (fun b5 => ?_)
  · skip
    refine lv_iload_n hx hb dX6_visit_10 rfl (lv_at hl 2 rfl) ?_
    refine lv_bipush (v := 97) hx hb dX6_visit_11 (by decide) ?_
    refine lv_icmp_eq (tgt := 34) hx hb dX6_visit_13 (by decide) (fun b13 => ?_) (fun b13 => ?_)
    · skip
      refine lv_iload_n hx hb dX6_visit_34 rfl (lv_at hl 3 rfl) ?_
      refine lv_iconst (v := 0) hx hb dX6_visit_35 (by decide) ?_
      refine lv_bipush (v := 9) hx hb dX6_visit_36 (by decide) ?_
      refine cRS S (rr_in1 l dg cA (mw cA ad (up r 0 0 0)) a 0 9 h1 h2) kX6_96 ⟨rfl, rfl, Nat.le_of_ble_eq_true rfl, Nat.le_of_ble_eq_true rfl⟩ hK hP (As := [.int a, .int 0, .int 9]) rfl hl.1 (rest := []) rfl (Nat.le_of_ble_eq_true rfl) dX6_visit_38 ⟨Nat.le_of_ble_eq_true rfl, Nat.le_of_ble_eq_true rfl⟩ (st1 := [.int 1]) rfl ?_
      refine lv_if_ne (tgt := 50) hx hb dX6_visit_41 (by decide) (fun b41 => ?_) (fun b41 => ?_)
      · skip
        refine lv_aload_n hx hb dX6_visit_50 rfl (lv_at hl 0 rfl) ?_
        refine gf S hK hP 0 ml_0 fX6_66 (v := .ref (ad 18)) mr_18 dX6_visit_51 ?_
        refine lv_iload_n hx hb dX6_visit_54 rfl (lv_at hl 1 rfl) ?_
        refine ild S hK hP 18 ml_18 (j := j) (by omega) (Nat.le_of_ble_eq_true rfl) dX6_visit_55 ?_
        refine lv_as (y := nI i) hr0 ?_
        refine lv_istore (lv' := [(4, .int (nI i)), (0, .ref (ad 0)), (1, .int (nI j)), (2, .int o), (3, .int a)]) hx hb dX6_visit_56 hl (by decide) rfl (fun ls hl => ?_)
        refine lv_iload hx hb dX6_visit_58 (lv_at hl 0 rfl) ?_
        refine lv_iconst (v := (-1)) hx hb dX6_visit_60 (by decide) ?_
        refine lv_icmp_eq (tgt := 84) hx hb dX6_visit_61 (by decide) (fun b61 => ?_) (fun b61 => ?_)
        · skip
          exact absurd b61 (nI_m1 (by omega))
        · skip
          refine lv_aload_n hx hb dX6_visit_64 rfl (lv_at hl 1 rfl) ?_
          refine gf S hK hP 0 ml_0 fX6_63 (v := .ref (ad 17)) mr_17 dX6_visit_65 ?_
          refine lv_iload_n hx hb dX6_visit_68 rfl (lv_at hl 2 rfl) ?_
          refine zld S hK hP 17 ml_17 (j := j) (by omega) (Nat.le_of_ble_eq_true rfl) dX6_visit_69 ?_
          refine lv_as (y := r 17 j) rfl ?_
          refine lv_if_ne (tgt := 84) hx hb dX6_visit_70 (by decide) (fun b70 => ?_) (fun b70 => ?_)
          · skip
            refine lv_aload_n hx hb dX6_visit_84 rfl (lv_at hl 1 rfl) ?_
            refine lv_iconst (v := 3) hx hb dX6_visit_85 (by decide) ?_
            refine cM S (rr_fails l dg cA ad (up r 0 0 0) 3 _) kX6_104 ⟨rfl, rfl, Nat.le_of_ble_eq_true rfl, Nat.le_of_ble_eq_true rfl⟩ hK hP hD hS hA 0 ml_0 (q := (RX6, TX6, 31)) rfl rfl (As := [.int 3]) rfl hl.1 (rest := []) rfl (Nat.le_of_ble_eq_true rfl) dX6_visit_86 ⟨Nat.le_of_ble_eq_true rfl, Nat.le_of_ble_eq_true rfl⟩ (st1 := [.int 0]) rfl (fun H locs hP hD hS => ?_)
            exact eMi S hr hlk hP hD hS dX6_visit_89 rfl up_twice_mw
          · skip
            refine lv_aload_n hx hb dX6_visit_73 rfl (lv_at hl 1 rfl) ?_
            refine gf S hK hP 0 ml_0 fX6_87 (v := .ref (ad 25)) mr_25 dX6_visit_74 ?_
            refine lv_iload hx hb dX6_visit_77 (lv_at hl 0 rfl) ?_
            refine ild S hK hP 25 ml_25 (j := i) (by omega) (Nat.le_of_ble_eq_true rfl) dX6_visit_79 ?_
            refine lv_as (y := 2) hf ?_
            refine lv_iconst (v := 2) hx hb dX6_visit_80 (by decide) ?_
            refine lv_icmp_ne (tgt := 90) hx hb dX6_visit_81 (by decide) (fun b81 => ?_) (fun b81 => ?_)
            · skip
              exact False.elim (by revert b81; decide)
            · skip
              refine lv_aload_n hx hb dX6_visit_84 rfl (lv_at hl 1 rfl) ?_
              refine lv_iconst (v := 3) hx hb dX6_visit_85 (by decide) ?_
              refine cM S (rr_fails l dg cA ad (up r 0 0 0) 3 _) kX6_104 ⟨rfl, rfl, Nat.le_of_ble_eq_true rfl, Nat.le_of_ble_eq_true rfl⟩ hK hP hD hS hA 0 ml_0 (q := (RX6, TX6, 31)) rfl rfl (As := [.int 3]) rfl hl.1 (rest := []) rfl (Nat.le_of_ble_eq_true rfl) dX6_visit_86 ⟨Nat.le_of_ble_eq_true rfl, Nat.le_of_ble_eq_true rfl⟩ (st1 := [.int 0]) rfl (fun H locs hP hD hS => ?_)
              exact eMi S hr hlk hP hD hS dX6_visit_89 rfl up_twice_mw
      · skip
        exact absurd b41 b5
    · skip
      refine lv_iload_n hx hb dX6_visit_16 rfl (lv_at hl 2 rfl) ?_
      refine lv_bipush (v := 110) hx hb dX6_visit_17 (by decide) ?_
      refine lv_icmp_eq (tgt := 34) hx hb dX6_visit_19 (by decide) (fun b19 => ?_) (fun b19 => ?_)
      · skip
        refine lv_iload_n hx hb dX6_visit_34 rfl (lv_at hl 3 rfl) ?_
        refine lv_iconst (v := 0) hx hb dX6_visit_35 (by decide) ?_
        refine lv_bipush (v := 9) hx hb dX6_visit_36 (by decide) ?_
        refine cRS S (rr_in1 l dg cA (mw cA ad (up r 0 0 0)) a 0 9 h1 h2) kX6_96 ⟨rfl, rfl, Nat.le_of_ble_eq_true rfl, Nat.le_of_ble_eq_true rfl⟩ hK hP (As := [.int a, .int 0, .int 9]) rfl hl.1 (rest := []) rfl (Nat.le_of_ble_eq_true rfl) dX6_visit_38 ⟨Nat.le_of_ble_eq_true rfl, Nat.le_of_ble_eq_true rfl⟩ (st1 := [.int 1]) rfl ?_
        refine lv_if_ne (tgt := 50) hx hb dX6_visit_41 (by decide) (fun b41 => ?_) (fun b41 => ?_)
        · skip
          refine lv_aload_n hx hb dX6_visit_50 rfl (lv_at hl 0 rfl) ?_
          refine gf S hK hP 0 ml_0 fX6_66 (v := .ref (ad 18)) mr_18 dX6_visit_51 ?_
          refine lv_iload_n hx hb dX6_visit_54 rfl (lv_at hl 1 rfl) ?_
          refine ild S hK hP 18 ml_18 (j := j) (by omega) (Nat.le_of_ble_eq_true rfl) dX6_visit_55 ?_
          refine lv_as (y := nI i) hr0 ?_
          refine lv_istore (lv' := [(4, .int (nI i)), (0, .ref (ad 0)), (1, .int (nI j)), (2, .int o), (3, .int a)]) hx hb dX6_visit_56 hl (by decide) rfl (fun ls hl => ?_)
          refine lv_iload hx hb dX6_visit_58 (lv_at hl 0 rfl) ?_
          refine lv_iconst (v := (-1)) hx hb dX6_visit_60 (by decide) ?_
          refine lv_icmp_eq (tgt := 84) hx hb dX6_visit_61 (by decide) (fun b61 => ?_) (fun b61 => ?_)
          · skip
            exact absurd b61 (nI_m1 (by omega))
          · skip
            refine lv_aload_n hx hb dX6_visit_64 rfl (lv_at hl 1 rfl) ?_
            refine gf S hK hP 0 ml_0 fX6_63 (v := .ref (ad 17)) mr_17 dX6_visit_65 ?_
            refine lv_iload_n hx hb dX6_visit_68 rfl (lv_at hl 2 rfl) ?_
            refine zld S hK hP 17 ml_17 (j := j) (by omega) (Nat.le_of_ble_eq_true rfl) dX6_visit_69 ?_
            refine lv_as (y := r 17 j) rfl ?_
            refine lv_if_ne (tgt := 84) hx hb dX6_visit_70 (by decide) (fun b70 => ?_) (fun b70 => ?_)
            · skip
              refine lv_aload_n hx hb dX6_visit_84 rfl (lv_at hl 1 rfl) ?_
              refine lv_iconst (v := 3) hx hb dX6_visit_85 (by decide) ?_
              refine cM S (rr_fails l dg cA ad (up r 0 0 0) 3 _) kX6_104 ⟨rfl, rfl, Nat.le_of_ble_eq_true rfl, Nat.le_of_ble_eq_true rfl⟩ hK hP hD hS hA 0 ml_0 (q := (RX6, TX6, 31)) rfl rfl (As := [.int 3]) rfl hl.1 (rest := []) rfl (Nat.le_of_ble_eq_true rfl) dX6_visit_86 ⟨Nat.le_of_ble_eq_true rfl, Nat.le_of_ble_eq_true rfl⟩ (st1 := [.int 0]) rfl (fun H locs hP hD hS => ?_)
              exact eMi S hr hlk hP hD hS dX6_visit_89 rfl up_twice_mw
            · skip
              refine lv_aload_n hx hb dX6_visit_73 rfl (lv_at hl 1 rfl) ?_
              refine gf S hK hP 0 ml_0 fX6_87 (v := .ref (ad 25)) mr_25 dX6_visit_74 ?_
              refine lv_iload hx hb dX6_visit_77 (lv_at hl 0 rfl) ?_
              refine ild S hK hP 25 ml_25 (j := i) (by omega) (Nat.le_of_ble_eq_true rfl) dX6_visit_79 ?_
              refine lv_as (y := 2) hf ?_
              refine lv_iconst (v := 2) hx hb dX6_visit_80 (by decide) ?_
              refine lv_icmp_ne (tgt := 90) hx hb dX6_visit_81 (by decide) (fun b81 => ?_) (fun b81 => ?_)
              · skip
                exact False.elim (by revert b81; decide)
              · skip
                refine lv_aload_n hx hb dX6_visit_84 rfl (lv_at hl 1 rfl) ?_
                refine lv_iconst (v := 3) hx hb dX6_visit_85 (by decide) ?_
                refine cM S (rr_fails l dg cA ad (up r 0 0 0) 3 _) kX6_104 ⟨rfl, rfl, Nat.le_of_ble_eq_true rfl, Nat.le_of_ble_eq_true rfl⟩ hK hP hD hS hA 0 ml_0 (q := (RX6, TX6, 31)) rfl rfl (As := [.int 3]) rfl hl.1 (rest := []) rfl (Nat.le_of_ble_eq_true rfl) dX6_visit_86 ⟨Nat.le_of_ble_eq_true rfl, Nat.le_of_ble_eq_true rfl⟩ (st1 := [.int 0]) rfl (fun H locs hP hD hS => ?_)
                exact eMi S hr hlk hP hD hS dX6_visit_89 rfl up_twice_mw
        · skip
          exact absurd b41 b5
      · skip
        refine lv_iload_n hx hb dX6_visit_22 rfl (lv_at hl 2 rfl) ?_
        refine lv_bipush (v := 114) hx hb dX6_visit_23 (by decide) ?_
        refine lv_icmp_eq (tgt := 34) hx hb dX6_visit_25 (by decide) (fun b25 => ?_) (fun b25 => ?_)
        · skip
          refine lv_iload_n hx hb dX6_visit_34 rfl (lv_at hl 3 rfl) ?_
          refine lv_iconst (v := 0) hx hb dX6_visit_35 (by decide) ?_
          refine lv_bipush (v := 9) hx hb dX6_visit_36 (by decide) ?_
          refine cRS S (rr_in1 l dg cA (mw cA ad (up r 0 0 0)) a 0 9 h1 h2) kX6_96 ⟨rfl, rfl, Nat.le_of_ble_eq_true rfl, Nat.le_of_ble_eq_true rfl⟩ hK hP (As := [.int a, .int 0, .int 9]) rfl hl.1 (rest := []) rfl (Nat.le_of_ble_eq_true rfl) dX6_visit_38 ⟨Nat.le_of_ble_eq_true rfl, Nat.le_of_ble_eq_true rfl⟩ (st1 := [.int 1]) rfl ?_
          refine lv_if_ne (tgt := 50) hx hb dX6_visit_41 (by decide) (fun b41 => ?_) (fun b41 => ?_)
          · skip
            refine lv_aload_n hx hb dX6_visit_50 rfl (lv_at hl 0 rfl) ?_
            refine gf S hK hP 0 ml_0 fX6_66 (v := .ref (ad 18)) mr_18 dX6_visit_51 ?_
            refine lv_iload_n hx hb dX6_visit_54 rfl (lv_at hl 1 rfl) ?_
            refine ild S hK hP 18 ml_18 (j := j) (by omega) (Nat.le_of_ble_eq_true rfl) dX6_visit_55 ?_
            refine lv_as (y := nI i) hr0 ?_
            refine lv_istore (lv' := [(4, .int (nI i)), (0, .ref (ad 0)), (1, .int (nI j)), (2, .int o), (3, .int a)]) hx hb dX6_visit_56 hl (by decide) rfl (fun ls hl => ?_)
            refine lv_iload hx hb dX6_visit_58 (lv_at hl 0 rfl) ?_
            refine lv_iconst (v := (-1)) hx hb dX6_visit_60 (by decide) ?_
            refine lv_icmp_eq (tgt := 84) hx hb dX6_visit_61 (by decide) (fun b61 => ?_) (fun b61 => ?_)
            · skip
              exact absurd b61 (nI_m1 (by omega))
            · skip
              refine lv_aload_n hx hb dX6_visit_64 rfl (lv_at hl 1 rfl) ?_
              refine gf S hK hP 0 ml_0 fX6_63 (v := .ref (ad 17)) mr_17 dX6_visit_65 ?_
              refine lv_iload_n hx hb dX6_visit_68 rfl (lv_at hl 2 rfl) ?_
              refine zld S hK hP 17 ml_17 (j := j) (by omega) (Nat.le_of_ble_eq_true rfl) dX6_visit_69 ?_
              refine lv_as (y := r 17 j) rfl ?_
              refine lv_if_ne (tgt := 84) hx hb dX6_visit_70 (by decide) (fun b70 => ?_) (fun b70 => ?_)
              · skip
                refine lv_aload_n hx hb dX6_visit_84 rfl (lv_at hl 1 rfl) ?_
                refine lv_iconst (v := 3) hx hb dX6_visit_85 (by decide) ?_
                refine cM S (rr_fails l dg cA ad (up r 0 0 0) 3 _) kX6_104 ⟨rfl, rfl, Nat.le_of_ble_eq_true rfl, Nat.le_of_ble_eq_true rfl⟩ hK hP hD hS hA 0 ml_0 (q := (RX6, TX6, 31)) rfl rfl (As := [.int 3]) rfl hl.1 (rest := []) rfl (Nat.le_of_ble_eq_true rfl) dX6_visit_86 ⟨Nat.le_of_ble_eq_true rfl, Nat.le_of_ble_eq_true rfl⟩ (st1 := [.int 0]) rfl (fun H locs hP hD hS => ?_)
                exact eMi S hr hlk hP hD hS dX6_visit_89 rfl up_twice_mw
              · skip
                refine lv_aload_n hx hb dX6_visit_73 rfl (lv_at hl 1 rfl) ?_
                refine gf S hK hP 0 ml_0 fX6_87 (v := .ref (ad 25)) mr_25 dX6_visit_74 ?_
                refine lv_iload hx hb dX6_visit_77 (lv_at hl 0 rfl) ?_
                refine ild S hK hP 25 ml_25 (j := i) (by omega) (Nat.le_of_ble_eq_true rfl) dX6_visit_79 ?_
                refine lv_as (y := 2) hf ?_
                refine lv_iconst (v := 2) hx hb dX6_visit_80 (by decide) ?_
                refine lv_icmp_ne (tgt := 90) hx hb dX6_visit_81 (by decide) (fun b81 => ?_) (fun b81 => ?_)
                · skip
                  exact False.elim (by revert b81; decide)
                · skip
                  refine lv_aload_n hx hb dX6_visit_84 rfl (lv_at hl 1 rfl) ?_
                  refine lv_iconst (v := 3) hx hb dX6_visit_85 (by decide) ?_
                  refine cM S (rr_fails l dg cA ad (up r 0 0 0) 3 _) kX6_104 ⟨rfl, rfl, Nat.le_of_ble_eq_true rfl, Nat.le_of_ble_eq_true rfl⟩ hK hP hD hS hA 0 ml_0 (q := (RX6, TX6, 31)) rfl rfl (As := [.int 3]) rfl hl.1 (rest := []) rfl (Nat.le_of_ble_eq_true rfl) dX6_visit_86 ⟨Nat.le_of_ble_eq_true rfl, Nat.le_of_ble_eq_true rfl⟩ (st1 := [.int 0]) rfl (fun H locs hP hD hS => ?_)
                  exact eMi S hr hlk hP hD hS dX6_visit_89 rfl up_twice_mw
          · skip
            exact absurd b41 b5
        · skip
          refine lv_iload_n hx hb dX6_visit_28 rfl (lv_at hl 2 rfl) ?_
          refine lv_bipush (v := 101) hx hb dX6_visit_29 (by decide) ?_
          refine lv_icmp_ne (tgt := 44) hx hb dX6_visit_31 (by decide) (fun b31 => ?_) (fun b31 => ?_)
          · skip
            exact absurd hov (by simp [b13, b19, b25, b31])
          · skip
            refine lv_iload_n hx hb dX6_visit_34 rfl (lv_at hl 3 rfl) ?_
            refine lv_iconst (v := 0) hx hb dX6_visit_35 (by decide) ?_
            refine lv_bipush (v := 9) hx hb dX6_visit_36 (by decide) ?_
            refine cRS S (rr_in1 l dg cA (mw cA ad (up r 0 0 0)) a 0 9 h1 h2) kX6_96 ⟨rfl, rfl, Nat.le_of_ble_eq_true rfl, Nat.le_of_ble_eq_true rfl⟩ hK hP (As := [.int a, .int 0, .int 9]) rfl hl.1 (rest := []) rfl (Nat.le_of_ble_eq_true rfl) dX6_visit_38 ⟨Nat.le_of_ble_eq_true rfl, Nat.le_of_ble_eq_true rfl⟩ (st1 := [.int 1]) rfl ?_
            refine lv_if_ne (tgt := 50) hx hb dX6_visit_41 (by decide) (fun b41 => ?_) (fun b41 => ?_)
            · skip
              refine lv_aload_n hx hb dX6_visit_50 rfl (lv_at hl 0 rfl) ?_
              refine gf S hK hP 0 ml_0 fX6_66 (v := .ref (ad 18)) mr_18 dX6_visit_51 ?_
              refine lv_iload_n hx hb dX6_visit_54 rfl (lv_at hl 1 rfl) ?_
              refine ild S hK hP 18 ml_18 (j := j) (by omega) (Nat.le_of_ble_eq_true rfl) dX6_visit_55 ?_
              refine lv_as (y := nI i) hr0 ?_
              refine lv_istore (lv' := [(4, .int (nI i)), (0, .ref (ad 0)), (1, .int (nI j)), (2, .int o), (3, .int a)]) hx hb dX6_visit_56 hl (by decide) rfl (fun ls hl => ?_)
              refine lv_iload hx hb dX6_visit_58 (lv_at hl 0 rfl) ?_
              refine lv_iconst (v := (-1)) hx hb dX6_visit_60 (by decide) ?_
              refine lv_icmp_eq (tgt := 84) hx hb dX6_visit_61 (by decide) (fun b61 => ?_) (fun b61 => ?_)
              · skip
                exact absurd b61 (nI_m1 (by omega))
              · skip
                refine lv_aload_n hx hb dX6_visit_64 rfl (lv_at hl 1 rfl) ?_
                refine gf S hK hP 0 ml_0 fX6_63 (v := .ref (ad 17)) mr_17 dX6_visit_65 ?_
                refine lv_iload_n hx hb dX6_visit_68 rfl (lv_at hl 2 rfl) ?_
                refine zld S hK hP 17 ml_17 (j := j) (by omega) (Nat.le_of_ble_eq_true rfl) dX6_visit_69 ?_
                refine lv_as (y := r 17 j) rfl ?_
                refine lv_if_ne (tgt := 84) hx hb dX6_visit_70 (by decide) (fun b70 => ?_) (fun b70 => ?_)
                · skip
                  refine lv_aload_n hx hb dX6_visit_84 rfl (lv_at hl 1 rfl) ?_
                  refine lv_iconst (v := 3) hx hb dX6_visit_85 (by decide) ?_
                  refine cM S (rr_fails l dg cA ad (up r 0 0 0) 3 _) kX6_104 ⟨rfl, rfl, Nat.le_of_ble_eq_true rfl, Nat.le_of_ble_eq_true rfl⟩ hK hP hD hS hA 0 ml_0 (q := (RX6, TX6, 31)) rfl rfl (As := [.int 3]) rfl hl.1 (rest := []) rfl (Nat.le_of_ble_eq_true rfl) dX6_visit_86 ⟨Nat.le_of_ble_eq_true rfl, Nat.le_of_ble_eq_true rfl⟩ (st1 := [.int 0]) rfl (fun H locs hP hD hS => ?_)
                  exact eMi S hr hlk hP hD hS dX6_visit_89 rfl up_twice_mw
                · skip
                  refine lv_aload_n hx hb dX6_visit_73 rfl (lv_at hl 1 rfl) ?_
                  refine gf S hK hP 0 ml_0 fX6_87 (v := .ref (ad 25)) mr_25 dX6_visit_74 ?_
                  refine lv_iload hx hb dX6_visit_77 (lv_at hl 0 rfl) ?_
                  refine ild S hK hP 25 ml_25 (j := i) (by omega) (Nat.le_of_ble_eq_true rfl) dX6_visit_79 ?_
                  refine lv_as (y := 2) hf ?_
                  refine lv_iconst (v := 2) hx hb dX6_visit_80 (by decide) ?_
                  refine lv_icmp_ne (tgt := 90) hx hb dX6_visit_81 (by decide) (fun b81 => ?_) (fun b81 => ?_)
                  · skip
                    exact False.elim (by revert b81; decide)
                  · skip
                    refine lv_aload_n hx hb dX6_visit_84 rfl (lv_at hl 1 rfl) ?_
                    refine lv_iconst (v := 3) hx hb dX6_visit_85 (by decide) ?_
                    refine cM S (rr_fails l dg cA ad (up r 0 0 0) 3 _) kX6_104 ⟨rfl, rfl, Nat.le_of_ble_eq_true rfl, Nat.le_of_ble_eq_true rfl⟩ hK hP hD hS hA 0 ml_0 (q := (RX6, TX6, 31)) rfl rfl (As := [.int 3]) rfl hl.1 (rest := []) rfl (Nat.le_of_ble_eq_true rfl) dX6_visit_86 ⟨Nat.le_of_ble_eq_true rfl, Nat.le_of_ble_eq_true rfl⟩ (st1 := [.int 0]) rfl (fun H locs hP hD hS => ?_)
                    exact eMi S hr hlk hP hD hS dX6_visit_89 rfl up_twice_mw
            · skip
              exact absurd b41 b5
  · skip
    exact False.elim (by revert b5; decide)

set_option maxHeartbeats 4000000 in
set_option maxRecDepth 100000 in
theorem rr_visit_a (l : Launch) (dg : va_G) (cA : Nat → ClassId) (ad : Nat → Nat) (r : St) (n : Nat) (hn : r 0 3 = nI n) (hn24 : n ≤ 24) (j : Nat) (hj : j < n) (a : Int32) (h1 : ¬ a < 0) (h2 : ¬ 9 < a) (i : Nat) (hi4 : i < 4) (hr0 : r 18 j = nI i) (ht : r 17 j = 0) (hf : ¬ r 25 i = 2) (sz : Nat) : MetM l dg cA yX6_visit cX6_visit 5 (some .int) ({ frames := 2, cells := 0, slots := 0, locals := 43 } : Room) 0 0 (mw cA ad r) sz [.ref (ad 0), .int (nI j), .int 97, .int a] (mw cA ad (up (up (up (up (up (up (up (up (up r 0 0 0) 17 j 1) 6 j (r 6 j + 1)) 4 j 97) 10 j a) 11 j (nI i)) 12 j (r 6 j + 1)) 15 j 0) 16 j 0)) (some (.int (nI i))) := by
  refine ofM (by decide) (Nat.le_of_ble_eq_true rfl) (own := RX6) rfl (fun p e s0 m args below meth ccd ls A hAe S hr hlk hname hargs hK hP hD hS hA hsz hl => ?_)
  have hx := S.1
  have hb := S.2.1
  have hl : lv_has ls 5 [(0, .ref (ad 0)), (1, .int (nI j)), (2, .int 97), (3, .int a)] := hl
  refine lv_aload_n hx hb dX6_visit_0 rfl (lv_at hl 0 rfl) ?_
  refine lv_iload_n hx hb dX6_visit_1 rfl (lv_at hl 1 rfl) ?_
  refine cM S (rr_isHouse1 l dg cA ad r n hn hn24 j hj _) kX6_133 ⟨rfl, rfl, Nat.le_of_ble_eq_true rfl, Nat.le_of_ble_eq_true rfl⟩ hK hP hD hS hA 0 ml_0 (q := (RX6, TX6, 31)) rfl rfl (As := [.int (nI j)]) rfl hl.1 (rest := []) rfl (Nat.le_of_ble_eq_true rfl) dX6_visit_2 ⟨Nat.le_of_ble_eq_true rfl, Nat.le_of_ble_eq_true rfl⟩ (st1 := [.int 1]) rfl (fun H locs hP hD hS => ?_)
  refine lv_if_ne (tgt := 10) hx hb dX6_visit_5 (by decide) (fun b5 => ?_) (fun b5 => ?_)
  · skip
    refine lv_iload_n hx hb dX6_visit_10 rfl (lv_at hl 2 rfl) ?_
    refine lv_bipush (v := 97) hx hb dX6_visit_11 (by decide) ?_
    refine lv_icmp_eq (tgt := 34) hx hb dX6_visit_13 (by decide) (fun b13 => ?_) (fun b13 => ?_)
    · skip
      refine lv_iload_n hx hb dX6_visit_34 rfl (lv_at hl 3 rfl) ?_
      refine lv_iconst (v := 0) hx hb dX6_visit_35 (by decide) ?_
      refine lv_bipush (v := 9) hx hb dX6_visit_36 (by decide) ?_
      refine cRS S (rr_in1 l dg cA (mw cA ad (up r 0 0 0)) a 0 9 h1 h2) kX6_96 ⟨rfl, rfl, Nat.le_of_ble_eq_true rfl, Nat.le_of_ble_eq_true rfl⟩ hK hP (As := [.int a, .int 0, .int 9]) rfl hl.1 (rest := []) rfl (Nat.le_of_ble_eq_true rfl) dX6_visit_38 ⟨Nat.le_of_ble_eq_true rfl, Nat.le_of_ble_eq_true rfl⟩ (st1 := [.int 1]) rfl ?_
      refine lv_if_ne (tgt := 50) hx hb dX6_visit_41 (by decide) (fun b41 => ?_) (fun b41 => ?_)
      · skip
        refine lv_aload_n hx hb dX6_visit_50 rfl (lv_at hl 0 rfl) ?_
        refine gf S hK hP 0 ml_0 fX6_66 (v := .ref (ad 18)) mr_18 dX6_visit_51 ?_
        refine lv_iload_n hx hb dX6_visit_54 rfl (lv_at hl 1 rfl) ?_
        refine ild S hK hP 18 ml_18 (j := j) (by omega) (Nat.le_of_ble_eq_true rfl) dX6_visit_55 ?_
        refine lv_as (y := nI i) hr0 ?_
        refine lv_istore (lv' := [(4, .int (nI i)), (0, .ref (ad 0)), (1, .int (nI j)), (2, .int 97), (3, .int a)]) hx hb dX6_visit_56 hl (by decide) rfl (fun ls hl => ?_)
        refine lv_iload hx hb dX6_visit_58 (lv_at hl 0 rfl) ?_
        refine lv_iconst (v := (-1)) hx hb dX6_visit_60 (by decide) ?_
        refine lv_icmp_eq (tgt := 84) hx hb dX6_visit_61 (by decide) (fun b61 => ?_) (fun b61 => ?_)
        · skip
          exact absurd b61 (nI_m1 (by omega))
        · skip
          refine lv_aload_n hx hb dX6_visit_64 rfl (lv_at hl 1 rfl) ?_
          refine gf S hK hP 0 ml_0 fX6_63 (v := .ref (ad 17)) mr_17 dX6_visit_65 ?_
          refine lv_iload_n hx hb dX6_visit_68 rfl (lv_at hl 2 rfl) ?_
          refine zld S hK hP 17 ml_17 (j := j) (by omega) (Nat.le_of_ble_eq_true rfl) dX6_visit_69 ?_
          refine lv_as (y := 0) ht ?_
          refine lv_if_ne (tgt := 84) hx hb dX6_visit_70 (by decide) (fun b70 => ?_) (fun b70 => ?_)
          · skip
            exact False.elim (by revert b70; decide)
          · skip
            refine lv_aload_n hx hb dX6_visit_73 rfl (lv_at hl 1 rfl) ?_
            refine gf S hK hP 0 ml_0 fX6_87 (v := .ref (ad 25)) mr_25 dX6_visit_74 ?_
            refine lv_iload hx hb dX6_visit_77 (lv_at hl 0 rfl) ?_
            refine ild S hK hP 25 ml_25 (j := i) (by omega) (Nat.le_of_ble_eq_true rfl) dX6_visit_79 ?_
            refine lv_as (y := r 25 i) rfl ?_
            refine lv_iconst (v := 2) hx hb dX6_visit_80 (by decide) ?_
            refine lv_icmp_ne (tgt := 90) hx hb dX6_visit_81 (by decide) (fun b81 => ?_) (fun b81 => ?_)
            · skip
              refine lv_aload_n hx hb dX6_visit_90 rfl (lv_at hl 1 rfl) ?_
              refine gf S hK hP 0 ml_0 fX6_63 (v := .ref (ad 17)) mr_17 dX6_visit_91 ?_
              refine lv_iload_n hx hb dX6_visit_94 rfl (lv_at hl 2 rfl) ?_
              refine lv_iconst (v := 1) hx hb dX6_visit_95 (by decide) ?_
              refine zst S hK hP hD hS 17 ml_17 (j := j) (x := 1) (by omega) (Nat.le_of_ble_eq_true rfl) rfl ms_17 dX6_visit_96 (fun H locs hP hD hS => ?_)
              refine lv_aload_n hx hb dX6_visit_97 rfl (lv_at hl 1 rfl) ?_
              refine gf S hK hP 0 ml_0 fX6_29 (v := .ref (ad 6)) mr_6 dX6_visit_98 ?_
              refine lv_iload_n hx hb dX6_visit_101 rfl (lv_at hl 2 rfl) ?_
              refine lv_dup2_11 hx hb dX6_visit_102 rfl rfl ?_
              refine ild S hK hP 6 ml_6 (j := j) (by omega) (Nat.le_of_ble_eq_true rfl) dX6_visit_103 ?_
              refine lv_as (y := r 6 j) rfl ?_
              refine lv_iconst (v := 1) hx hb dX6_visit_104 (by decide) ?_
              refine lv_iadd hx hb dX6_visit_105 ?_
              refine ist S hK hP hD hS 6 ml_6 (j := j) (x := (r 6 j) + 1) (by omega) (Nat.le_of_ble_eq_true rfl) ms_6 dX6_visit_106 (fun H locs hP hD hS => ?_)
              refine lv_iload_n hx hb dX6_visit_107 rfl (lv_at hl 3 rfl) ?_
              refine lv_bipush (v := 97) hx hb dX6_visit_108 (by decide) ?_
              refine lv_icmp_ne (tgt := 158) hx hb dX6_visit_110 (by decide) (fun b110 => ?_) (fun b110 => ?_)
              · skip
                exact absurd b13 b110
              · skip
                refine lv_aload_n hx hb dX6_visit_113 rfl (lv_at hl 1 rfl) ?_
                refine gf S hK hP 0 ml_0 fX6_23 (v := .ref (ad 4)) mr_4 dX6_visit_114 ?_
                refine lv_iload_n hx hb dX6_visit_117 rfl (lv_at hl 2 rfl) ?_
                refine lv_bipush (v := 97) hx hb dX6_visit_118 (by decide) ?_
                refine ist S hK hP hD hS 4 ml_4 (j := j) (x := 97) (by omega) (Nat.le_of_ble_eq_true rfl) ms_4 dX6_visit_120 (fun H locs hP hD hS => ?_)
                refine lv_aload_n hx hb dX6_visit_121 rfl (lv_at hl 1 rfl) ?_
                refine gf S hK hP 0 ml_0 fX6_41 (v := .ref (ad 10)) mr_10 dX6_visit_122 ?_
                refine lv_iload_n hx hb dX6_visit_125 rfl (lv_at hl 2 rfl) ?_
                refine lv_iload_n hx hb dX6_visit_126 rfl (lv_at hl 4 rfl) ?_
                refine ist S hK hP hD hS 10 ml_10 (j := j) (x := a) (by omega) (Nat.le_of_ble_eq_true rfl) ms_10 dX6_visit_127 (fun H locs hP hD hS => ?_)
                refine lv_aload_n hx hb dX6_visit_128 rfl (lv_at hl 1 rfl) ?_
                refine gf S hK hP 0 ml_0 fX6_44 (v := .ref (ad 11)) mr_11 dX6_visit_129 ?_
                refine lv_iload_n hx hb dX6_visit_132 rfl (lv_at hl 2 rfl) ?_
                refine lv_iload hx hb dX6_visit_133 (lv_at hl 0 rfl) ?_
                refine ist S hK hP hD hS 11 ml_11 (j := j) (x := nI i) (by omega) (Nat.le_of_ble_eq_true rfl) ms_11 dX6_visit_135 (fun H locs hP hD hS => ?_)
                refine lv_aload_n hx hb dX6_visit_136 rfl (lv_at hl 1 rfl) ?_
                refine gf S hK hP 0 ml_0 fX6_47 (v := .ref (ad 12)) mr_12 dX6_visit_137 ?_
                refine lv_iload_n hx hb dX6_visit_140 rfl (lv_at hl 2 rfl) ?_
                refine lv_aload_n hx hb dX6_visit_141 rfl (lv_at hl 1 rfl) ?_
                refine gf S hK hP 0 ml_0 fX6_29 (v := .ref (ad 6)) mr_6 dX6_visit_142 ?_
                refine lv_iload_n hx hb dX6_visit_145 rfl (lv_at hl 2 rfl) ?_
                refine ild S hK hP 6 ml_6 (j := j) (by omega) (Nat.le_of_ble_eq_true rfl) dX6_visit_146 ?_
                refine lv_as (y := (r 6 j) + 1) (up_at : up (up (up r 0 0 0) 17 j 1) 6 j ((r 6 j) + 1) 6 j = (r 6 j) + 1) ?_
                refine ist S hK hP hD hS 12 ml_12 (j := j) (x := (r 6 j) + 1) (by omega) (Nat.le_of_ble_eq_true rfl) ms_12 dX6_visit_147 (fun H locs hP hD hS => ?_)
                refine lv_aload_n hx hb dX6_visit_148 rfl (lv_at hl 1 rfl) ?_
                refine gf S hK hP 0 ml_0 fX6_57 (v := .ref (ad 15)) mr_15 dX6_visit_149 ?_
                refine lv_iload_n hx hb dX6_visit_152 rfl (lv_at hl 2 rfl) ?_
                refine lv_iconst (v := 0) hx hb dX6_visit_153 (by decide) ?_
                refine zst S hK hP hD hS 15 ml_15 (j := j) (x := 0) (by omega) (Nat.le_of_ble_eq_true rfl) rfl ms_15 dX6_visit_154 (fun H locs hP hD hS => ?_)
                refine lv_goto (tgt := 292) hx hb dX6_visit_155 (by decide) ?_
                refine lv_aload_n hx hb dX6_visit_292 rfl (lv_at hl 1 rfl) ?_
                refine gf S hK hP 0 ml_0 fX6_60 (v := .ref (ad 16)) mr_16 dX6_visit_293 ?_
                refine lv_iload_n hx hb dX6_visit_296 rfl (lv_at hl 2 rfl) ?_
                refine lv_aload_n hx hb dX6_visit_297 rfl (lv_at hl 1 rfl) ?_
                refine gf S hK hP 0 ml_0 fX6_23 (v := .ref (ad 4)) mr_4 dX6_visit_298 ?_
                refine lv_iload_n hx hb dX6_visit_301 rfl (lv_at hl 2 rfl) ?_
                refine ild S hK hP 4 ml_4 (j := j) (by omega) (Nat.le_of_ble_eq_true rfl) dX6_visit_302 ?_
                refine lv_as (y := 97) (up_at : up (up (up (up r 0 0 0) 17 j 1) 6 j ((r 6 j) + 1)) 4 j 97 4 j = 97) ?_
                refine lv_bipush (v := 97) hx hb dX6_visit_303 (by decide) ?_
                refine lv_icmp_eq (tgt := 323) hx hb dX6_visit_305 (by decide) (fun b305 => ?_) (fun b305 => ?_)
                · skip
                  refine lv_iconst (v := 0) hx hb dX6_visit_323 (by decide) ?_
                  refine zst S hK hP hD hS 16 ml_16 (j := j) (x := 0) (by omega) (Nat.le_of_ble_eq_true rfl) rfl ms_16 dX6_visit_324 (fun H locs hP hD hS => ?_)
                  refine lv_iload hx hb dX6_visit_325 (lv_at hl 0 rfl) ?_
                  exact eMi S hr hlk hP hD hS dX6_visit_327 rfl rfl
                · skip
                  exact absurd b110 b305
            · skip
              exact absurd b81 hf
      · skip
        exact absurd b41 b5
    · skip
      exact False.elim (by revert b13; decide)
  · skip
    exact False.elim (by revert b5; decide)

set_option maxHeartbeats 4000000 in
set_option maxRecDepth 100000 in
theorem rr_visit_n3 (l : Launch) (dg : va_G) (cA : Nat → ClassId) (ad : Nat → Nat) (r : St) (n : Nat) (hn : r 0 3 = nI n) (hn24 : n ≤ 24) (j : Nat) (hj : j < n) (a : Int32) (h1 : ¬ a < 0) (h2 : ¬ 9 < a) (i : Nat) (hi4 : i < 4) (hr0 : r 18 j = nI i) (ht : r 17 j = 0) (hf : ¬ r 25 i = 2) (h3 : r 7 j + 1 = 3) (sz : Nat) : MetM l dg cA yX6_visit cX6_visit 5 (some .int) ({ frames := 2, cells := 0, slots := 0, locals := 43 } : Room) 0 0 (mw cA ad r) sz [.ref (ad 0), .int (nI j), .int 110, .int a] (mw cA ad (up (up (up (up (up (up (up r 0 0 0) 17 j 1) 6 j (r 6 j + 1)) 7 j (r 7 j + 1)) 5 j (r 0 5 + (r 7 j + 1))) 4 j 103) 16 j 1)) (some (.int (nI i))) := by
  refine ofM (by decide) (Nat.le_of_ble_eq_true rfl) (own := RX6) rfl (fun p e s0 m args below meth ccd ls A hAe S hr hlk hname hargs hK hP hD hS hA hsz hl => ?_)
  have hx := S.1
  have hb := S.2.1
  have hl : lv_has ls 5 [(0, .ref (ad 0)), (1, .int (nI j)), (2, .int 110), (3, .int a)] := hl
  refine lv_aload_n hx hb dX6_visit_0 rfl (lv_at hl 0 rfl) ?_
  refine lv_iload_n hx hb dX6_visit_1 rfl (lv_at hl 1 rfl) ?_
  refine cM S (rr_isHouse1 l dg cA ad r n hn hn24 j hj _) kX6_133 ⟨rfl, rfl, Nat.le_of_ble_eq_true rfl, Nat.le_of_ble_eq_true rfl⟩ hK hP hD hS hA 0 ml_0 (q := (RX6, TX6, 31)) rfl rfl (As := [.int (nI j)]) rfl hl.1 (rest := []) rfl (Nat.le_of_ble_eq_true rfl) dX6_visit_2 ⟨Nat.le_of_ble_eq_true rfl, Nat.le_of_ble_eq_true rfl⟩ (st1 := [.int 1]) rfl (fun H locs hP hD hS => ?_)
  refine lv_if_ne (tgt := 10) hx hb dX6_visit_5 (by decide) (fun b5 => ?_) (fun b5 => ?_)
  · skip
    refine lv_iload_n hx hb dX6_visit_10 rfl (lv_at hl 2 rfl) ?_
    refine lv_bipush (v := 97) hx hb dX6_visit_11 (by decide) ?_
    refine lv_icmp_eq (tgt := 34) hx hb dX6_visit_13 (by decide) (fun b13 => ?_) (fun b13 => ?_)
    · skip
      exact False.elim (by revert b13; decide)
    · skip
      refine lv_iload_n hx hb dX6_visit_16 rfl (lv_at hl 2 rfl) ?_
      refine lv_bipush (v := 110) hx hb dX6_visit_17 (by decide) ?_
      refine lv_icmp_eq (tgt := 34) hx hb dX6_visit_19 (by decide) (fun b19 => ?_) (fun b19 => ?_)
      · skip
        refine lv_iload_n hx hb dX6_visit_34 rfl (lv_at hl 3 rfl) ?_
        refine lv_iconst (v := 0) hx hb dX6_visit_35 (by decide) ?_
        refine lv_bipush (v := 9) hx hb dX6_visit_36 (by decide) ?_
        refine cRS S (rr_in1 l dg cA (mw cA ad (up r 0 0 0)) a 0 9 h1 h2) kX6_96 ⟨rfl, rfl, Nat.le_of_ble_eq_true rfl, Nat.le_of_ble_eq_true rfl⟩ hK hP (As := [.int a, .int 0, .int 9]) rfl hl.1 (rest := []) rfl (Nat.le_of_ble_eq_true rfl) dX6_visit_38 ⟨Nat.le_of_ble_eq_true rfl, Nat.le_of_ble_eq_true rfl⟩ (st1 := [.int 1]) rfl ?_
        refine lv_if_ne (tgt := 50) hx hb dX6_visit_41 (by decide) (fun b41 => ?_) (fun b41 => ?_)
        · skip
          refine lv_aload_n hx hb dX6_visit_50 rfl (lv_at hl 0 rfl) ?_
          refine gf S hK hP 0 ml_0 fX6_66 (v := .ref (ad 18)) mr_18 dX6_visit_51 ?_
          refine lv_iload_n hx hb dX6_visit_54 rfl (lv_at hl 1 rfl) ?_
          refine ild S hK hP 18 ml_18 (j := j) (by omega) (Nat.le_of_ble_eq_true rfl) dX6_visit_55 ?_
          refine lv_as (y := nI i) hr0 ?_
          refine lv_istore (lv' := [(4, .int (nI i)), (0, .ref (ad 0)), (1, .int (nI j)), (2, .int 110), (3, .int a)]) hx hb dX6_visit_56 hl (by decide) rfl (fun ls hl => ?_)
          refine lv_iload hx hb dX6_visit_58 (lv_at hl 0 rfl) ?_
          refine lv_iconst (v := (-1)) hx hb dX6_visit_60 (by decide) ?_
          refine lv_icmp_eq (tgt := 84) hx hb dX6_visit_61 (by decide) (fun b61 => ?_) (fun b61 => ?_)
          · skip
            exact absurd b61 (nI_m1 (by omega))
          · skip
            refine lv_aload_n hx hb dX6_visit_64 rfl (lv_at hl 1 rfl) ?_
            refine gf S hK hP 0 ml_0 fX6_63 (v := .ref (ad 17)) mr_17 dX6_visit_65 ?_
            refine lv_iload_n hx hb dX6_visit_68 rfl (lv_at hl 2 rfl) ?_
            refine zld S hK hP 17 ml_17 (j := j) (by omega) (Nat.le_of_ble_eq_true rfl) dX6_visit_69 ?_
            refine lv_as (y := 0) ht ?_
            refine lv_if_ne (tgt := 84) hx hb dX6_visit_70 (by decide) (fun b70 => ?_) (fun b70 => ?_)
            · skip
              exact False.elim (by revert b70; decide)
            · skip
              refine lv_aload_n hx hb dX6_visit_73 rfl (lv_at hl 1 rfl) ?_
              refine gf S hK hP 0 ml_0 fX6_87 (v := .ref (ad 25)) mr_25 dX6_visit_74 ?_
              refine lv_iload hx hb dX6_visit_77 (lv_at hl 0 rfl) ?_
              refine ild S hK hP 25 ml_25 (j := i) (by omega) (Nat.le_of_ble_eq_true rfl) dX6_visit_79 ?_
              refine lv_as (y := r 25 i) rfl ?_
              refine lv_iconst (v := 2) hx hb dX6_visit_80 (by decide) ?_
              refine lv_icmp_ne (tgt := 90) hx hb dX6_visit_81 (by decide) (fun b81 => ?_) (fun b81 => ?_)
              · skip
                refine lv_aload_n hx hb dX6_visit_90 rfl (lv_at hl 1 rfl) ?_
                refine gf S hK hP 0 ml_0 fX6_63 (v := .ref (ad 17)) mr_17 dX6_visit_91 ?_
                refine lv_iload_n hx hb dX6_visit_94 rfl (lv_at hl 2 rfl) ?_
                refine lv_iconst (v := 1) hx hb dX6_visit_95 (by decide) ?_
                refine zst S hK hP hD hS 17 ml_17 (j := j) (x := 1) (by omega) (Nat.le_of_ble_eq_true rfl) rfl ms_17 dX6_visit_96 (fun H locs hP hD hS => ?_)
                refine lv_aload_n hx hb dX6_visit_97 rfl (lv_at hl 1 rfl) ?_
                refine gf S hK hP 0 ml_0 fX6_29 (v := .ref (ad 6)) mr_6 dX6_visit_98 ?_
                refine lv_iload_n hx hb dX6_visit_101 rfl (lv_at hl 2 rfl) ?_
                refine lv_dup2_11 hx hb dX6_visit_102 rfl rfl ?_
                refine ild S hK hP 6 ml_6 (j := j) (by omega) (Nat.le_of_ble_eq_true rfl) dX6_visit_103 ?_
                refine lv_as (y := r 6 j) rfl ?_
                refine lv_iconst (v := 1) hx hb dX6_visit_104 (by decide) ?_
                refine lv_iadd hx hb dX6_visit_105 ?_
                refine ist S hK hP hD hS 6 ml_6 (j := j) (x := (r 6 j) + 1) (by omega) (Nat.le_of_ble_eq_true rfl) ms_6 dX6_visit_106 (fun H locs hP hD hS => ?_)
                refine lv_iload_n hx hb dX6_visit_107 rfl (lv_at hl 3 rfl) ?_
                refine lv_bipush (v := 97) hx hb dX6_visit_108 (by decide) ?_
                refine lv_icmp_ne (tgt := 158) hx hb dX6_visit_110 (by decide) (fun b110 => ?_) (fun b110 => ?_)
                · skip
                  refine lv_iload_n hx hb dX6_visit_158 rfl (lv_at hl 3 rfl) ?_
                  refine lv_bipush (v := 110) hx hb dX6_visit_159 (by decide) ?_
                  refine lv_icmp_ne (tgt := 217) hx hb dX6_visit_161 (by decide) (fun b161 => ?_) (fun b161 => ?_)
                  · skip
                    exact absurd b19 b161
                  · skip
                    refine lv_aload_n hx hb dX6_visit_164 rfl (lv_at hl 1 rfl) ?_
                    refine gf S hK hP 0 ml_0 fX6_32 (v := .ref (ad 7)) mr_7 dX6_visit_165 ?_
                    refine lv_iload_n hx hb dX6_visit_168 rfl (lv_at hl 2 rfl) ?_
                    refine lv_dup2_11 hx hb dX6_visit_169 rfl rfl ?_
                    refine ild S hK hP 7 ml_7 (j := j) (by omega) (Nat.le_of_ble_eq_true rfl) dX6_visit_170 ?_
                    refine lv_as (y := r 7 j) rfl ?_
                    refine lv_iconst (v := 1) hx hb dX6_visit_171 (by decide) ?_
                    refine lv_iadd hx hb dX6_visit_172 ?_
                    refine ist S hK hP hD hS 7 ml_7 (j := j) (x := (r 7 j) + 1) (by omega) (Nat.le_of_ble_eq_true rfl) ms_7 dX6_visit_173 (fun H locs hP hD hS => ?_)
                    refine lv_aload_n hx hb dX6_visit_174 rfl (lv_at hl 1 rfl) ?_
                    refine gf S hK hP 0 ml_0 fX6_26 (v := .ref (ad 5)) mr_5 dX6_visit_175 ?_
                    refine lv_iload_n hx hb dX6_visit_178 rfl (lv_at hl 2 rfl) ?_
                    refine lv_aload_n hx hb dX6_visit_179 rfl (lv_at hl 1 rfl) ?_
                    refine gf S hK hP 0 ml_0 fX6_115 (v := .int (r 0 5)) (mv_5 rfl) dX6_visit_180 ?_
                    refine lv_aload_n hx hb dX6_visit_183 rfl (lv_at hl 1 rfl) ?_
                    refine gf S hK hP 0 ml_0 fX6_32 (v := .ref (ad 7)) mr_7 dX6_visit_184 ?_
                    refine lv_iload_n hx hb dX6_visit_187 rfl (lv_at hl 2 rfl) ?_
                    refine ild S hK hP 7 ml_7 (j := j) (by omega) (Nat.le_of_ble_eq_true rfl) dX6_visit_188 ?_
                    refine lv_as (y := (r 7 j) + 1) up_at ?_
                    refine lv_iadd hx hb dX6_visit_189 ?_
                    refine ist S hK hP hD hS 5 ml_5 (j := j) (x := (r 0 5) + ((r 7 j) + 1)) (by omega) (Nat.le_of_ble_eq_true rfl) ms_5 dX6_visit_190 (fun H locs hP hD hS => ?_)
                    refine lv_aload_n hx hb dX6_visit_191 rfl (lv_at hl 1 rfl) ?_
                    refine gf S hK hP 0 ml_0 fX6_23 (v := .ref (ad 4)) mr_4 dX6_visit_192 ?_
                    refine lv_iload_n hx hb dX6_visit_195 rfl (lv_at hl 2 rfl) ?_
                    refine lv_aload_n hx hb dX6_visit_196 rfl (lv_at hl 1 rfl) ?_
                    refine gf S hK hP 0 ml_0 fX6_32 (v := .ref (ad 7)) mr_7 dX6_visit_197 ?_
                    refine lv_iload_n hx hb dX6_visit_200 rfl (lv_at hl 2 rfl) ?_
                    refine ild S hK hP 7 ml_7 (j := j) (by omega) (Nat.le_of_ble_eq_true rfl) dX6_visit_201 ?_
                    refine lv_as (y := (r 7 j) + 1) (up_at : up (up (up (up r 0 0 0) 17 j 1) 6 j ((r 6 j) + 1)) 7 j ((r 7 j) + 1) 7 j = (r 7 j) + 1) ?_
                    refine lv_iconst (v := 3) hx hb dX6_visit_202 (by decide) ?_
                    refine lv_icmp_ne (tgt := 211) hx hb dX6_visit_203 (by decide) (fun b203 => ?_) (fun b203 => ?_)
                    · skip
                      exact absurd h3 b203
                    · skip
                      refine lv_bipush (v := 103) hx hb dX6_visit_206 (by decide) ?_
                      refine lv_goto (tgt := 213) hx hb dX6_visit_208 (by decide) ?_
                      refine ist S hK hP hD hS 4 ml_4 (j := j) (x := 103) (by omega) (Nat.le_of_ble_eq_true rfl) ms_4 dX6_visit_213 (fun H locs hP hD hS => ?_)
                      refine lv_goto (tgt := 292) hx hb dX6_visit_214 (by decide) ?_
                      refine lv_aload_n hx hb dX6_visit_292 rfl (lv_at hl 1 rfl) ?_
                      refine gf S hK hP 0 ml_0 fX6_60 (v := .ref (ad 16)) mr_16 dX6_visit_293 ?_
                      refine lv_iload_n hx hb dX6_visit_296 rfl (lv_at hl 2 rfl) ?_
                      refine lv_aload_n hx hb dX6_visit_297 rfl (lv_at hl 1 rfl) ?_
                      refine gf S hK hP 0 ml_0 fX6_23 (v := .ref (ad 4)) mr_4 dX6_visit_298 ?_
                      refine lv_iload_n hx hb dX6_visit_301 rfl (lv_at hl 2 rfl) ?_
                      refine ild S hK hP 4 ml_4 (j := j) (by omega) (Nat.le_of_ble_eq_true rfl) dX6_visit_302 ?_
                      refine lv_as (y := 103) up_at ?_
                      refine lv_bipush (v := 97) hx hb dX6_visit_303 (by decide) ?_
                      refine lv_icmp_eq (tgt := 323) hx hb dX6_visit_305 (by decide) (fun b305 => ?_) (fun b305 => ?_)
                      · skip
                        exact False.elim (by revert b305; decide)
                      · skip
                        refine lv_aload_n hx hb dX6_visit_308 rfl (lv_at hl 1 rfl) ?_
                        refine gf S hK hP 0 ml_0 fX6_23 (v := .ref (ad 4)) mr_4 dX6_visit_309 ?_
                        refine lv_iload_n hx hb dX6_visit_312 rfl (lv_at hl 2 rfl) ?_
                        refine ild S hK hP 4 ml_4 (j := j) (by omega) (Nat.le_of_ble_eq_true rfl) dX6_visit_313 ?_
                        refine lv_as (y := 103) up_at ?_
                        refine lv_bipush (v := 119) hx hb dX6_visit_314 (by decide) ?_
                        refine lv_icmp_eq (tgt := 323) hx hb dX6_visit_316 (by decide) (fun b316 => ?_) (fun b316 => ?_)
                        · skip
                          exact False.elim (by revert b316; decide)
                        · skip
                          refine lv_iconst (v := 1) hx hb dX6_visit_319 (by decide) ?_
                          refine lv_goto (tgt := 324) hx hb dX6_visit_320 (by decide) ?_
                          refine zst S hK hP hD hS 16 ml_16 (j := j) (x := 1) (by omega) (Nat.le_of_ble_eq_true rfl) rfl ms_16 dX6_visit_324 (fun H locs hP hD hS => ?_)
                          refine lv_iload hx hb dX6_visit_325 (lv_at hl 0 rfl) ?_
                          exact eMi S hr hlk hP hD hS dX6_visit_327 rfl rfl
                · skip
                  exact absurd b110 b13
              · skip
                exact absurd b81 hf
        · skip
          exact absurd b41 b5
      · skip
        exact False.elim (by revert b19; decide)
  · skip
    exact False.elim (by revert b5; decide)

set_option maxHeartbeats 4000000 in
set_option maxRecDepth 100000 in
theorem rr_visit_n (l : Launch) (dg : va_G) (cA : Nat → ClassId) (ad : Nat → Nat) (r : St) (n : Nat) (hn : r 0 3 = nI n) (hn24 : n ≤ 24) (j : Nat) (hj : j < n) (a : Int32) (h1 : ¬ a < 0) (h2 : ¬ 9 < a) (i : Nat) (hi4 : i < 4) (hr0 : r 18 j = nI i) (ht : r 17 j = 0) (hf : ¬ r 25 i = 2) (h3 : ¬ r 7 j + 1 = 3) (sz : Nat) : MetM l dg cA yX6_visit cX6_visit 5 (some .int) ({ frames := 2, cells := 0, slots := 0, locals := 43 } : Room) 0 0 (mw cA ad r) sz [.ref (ad 0), .int (nI j), .int 110, .int a] (mw cA ad (up (up (up (up (up (up (up r 0 0 0) 17 j 1) 6 j (r 6 j + 1)) 7 j (r 7 j + 1)) 5 j (r 0 5 + (r 7 j + 1))) 4 j 119) 16 j 0)) (some (.int (nI i))) := by
  refine ofM (by decide) (Nat.le_of_ble_eq_true rfl) (own := RX6) rfl (fun p e s0 m args below meth ccd ls A hAe S hr hlk hname hargs hK hP hD hS hA hsz hl => ?_)
  have hx := S.1
  have hb := S.2.1
  have hl : lv_has ls 5 [(0, .ref (ad 0)), (1, .int (nI j)), (2, .int 110), (3, .int a)] := hl
  refine lv_aload_n hx hb dX6_visit_0 rfl (lv_at hl 0 rfl) ?_
  refine lv_iload_n hx hb dX6_visit_1 rfl (lv_at hl 1 rfl) ?_
  refine cM S (rr_isHouse1 l dg cA ad r n hn hn24 j hj _) kX6_133 ⟨rfl, rfl, Nat.le_of_ble_eq_true rfl, Nat.le_of_ble_eq_true rfl⟩ hK hP hD hS hA 0 ml_0 (q := (RX6, TX6, 31)) rfl rfl (As := [.int (nI j)]) rfl hl.1 (rest := []) rfl (Nat.le_of_ble_eq_true rfl) dX6_visit_2 ⟨Nat.le_of_ble_eq_true rfl, Nat.le_of_ble_eq_true rfl⟩ (st1 := [.int 1]) rfl (fun H locs hP hD hS => ?_)
  refine lv_if_ne (tgt := 10) hx hb dX6_visit_5 (by decide) (fun b5 => ?_) (fun b5 => ?_)
  · skip
    refine lv_iload_n hx hb dX6_visit_10 rfl (lv_at hl 2 rfl) ?_
    refine lv_bipush (v := 97) hx hb dX6_visit_11 (by decide) ?_
    refine lv_icmp_eq (tgt := 34) hx hb dX6_visit_13 (by decide) (fun b13 => ?_) (fun b13 => ?_)
    · skip
      exact False.elim (by revert b13; decide)
    · skip
      refine lv_iload_n hx hb dX6_visit_16 rfl (lv_at hl 2 rfl) ?_
      refine lv_bipush (v := 110) hx hb dX6_visit_17 (by decide) ?_
      refine lv_icmp_eq (tgt := 34) hx hb dX6_visit_19 (by decide) (fun b19 => ?_) (fun b19 => ?_)
      · skip
        refine lv_iload_n hx hb dX6_visit_34 rfl (lv_at hl 3 rfl) ?_
        refine lv_iconst (v := 0) hx hb dX6_visit_35 (by decide) ?_
        refine lv_bipush (v := 9) hx hb dX6_visit_36 (by decide) ?_
        refine cRS S (rr_in1 l dg cA (mw cA ad (up r 0 0 0)) a 0 9 h1 h2) kX6_96 ⟨rfl, rfl, Nat.le_of_ble_eq_true rfl, Nat.le_of_ble_eq_true rfl⟩ hK hP (As := [.int a, .int 0, .int 9]) rfl hl.1 (rest := []) rfl (Nat.le_of_ble_eq_true rfl) dX6_visit_38 ⟨Nat.le_of_ble_eq_true rfl, Nat.le_of_ble_eq_true rfl⟩ (st1 := [.int 1]) rfl ?_
        refine lv_if_ne (tgt := 50) hx hb dX6_visit_41 (by decide) (fun b41 => ?_) (fun b41 => ?_)
        · skip
          refine lv_aload_n hx hb dX6_visit_50 rfl (lv_at hl 0 rfl) ?_
          refine gf S hK hP 0 ml_0 fX6_66 (v := .ref (ad 18)) mr_18 dX6_visit_51 ?_
          refine lv_iload_n hx hb dX6_visit_54 rfl (lv_at hl 1 rfl) ?_
          refine ild S hK hP 18 ml_18 (j := j) (by omega) (Nat.le_of_ble_eq_true rfl) dX6_visit_55 ?_
          refine lv_as (y := nI i) hr0 ?_
          refine lv_istore (lv' := [(4, .int (nI i)), (0, .ref (ad 0)), (1, .int (nI j)), (2, .int 110), (3, .int a)]) hx hb dX6_visit_56 hl (by decide) rfl (fun ls hl => ?_)
          refine lv_iload hx hb dX6_visit_58 (lv_at hl 0 rfl) ?_
          refine lv_iconst (v := (-1)) hx hb dX6_visit_60 (by decide) ?_
          refine lv_icmp_eq (tgt := 84) hx hb dX6_visit_61 (by decide) (fun b61 => ?_) (fun b61 => ?_)
          · skip
            exact absurd b61 (nI_m1 (by omega))
          · skip
            refine lv_aload_n hx hb dX6_visit_64 rfl (lv_at hl 1 rfl) ?_
            refine gf S hK hP 0 ml_0 fX6_63 (v := .ref (ad 17)) mr_17 dX6_visit_65 ?_
            refine lv_iload_n hx hb dX6_visit_68 rfl (lv_at hl 2 rfl) ?_
            refine zld S hK hP 17 ml_17 (j := j) (by omega) (Nat.le_of_ble_eq_true rfl) dX6_visit_69 ?_
            refine lv_as (y := 0) ht ?_
            refine lv_if_ne (tgt := 84) hx hb dX6_visit_70 (by decide) (fun b70 => ?_) (fun b70 => ?_)
            · skip
              exact False.elim (by revert b70; decide)
            · skip
              refine lv_aload_n hx hb dX6_visit_73 rfl (lv_at hl 1 rfl) ?_
              refine gf S hK hP 0 ml_0 fX6_87 (v := .ref (ad 25)) mr_25 dX6_visit_74 ?_
              refine lv_iload hx hb dX6_visit_77 (lv_at hl 0 rfl) ?_
              refine ild S hK hP 25 ml_25 (j := i) (by omega) (Nat.le_of_ble_eq_true rfl) dX6_visit_79 ?_
              refine lv_as (y := r 25 i) rfl ?_
              refine lv_iconst (v := 2) hx hb dX6_visit_80 (by decide) ?_
              refine lv_icmp_ne (tgt := 90) hx hb dX6_visit_81 (by decide) (fun b81 => ?_) (fun b81 => ?_)
              · skip
                refine lv_aload_n hx hb dX6_visit_90 rfl (lv_at hl 1 rfl) ?_
                refine gf S hK hP 0 ml_0 fX6_63 (v := .ref (ad 17)) mr_17 dX6_visit_91 ?_
                refine lv_iload_n hx hb dX6_visit_94 rfl (lv_at hl 2 rfl) ?_
                refine lv_iconst (v := 1) hx hb dX6_visit_95 (by decide) ?_
                refine zst S hK hP hD hS 17 ml_17 (j := j) (x := 1) (by omega) (Nat.le_of_ble_eq_true rfl) rfl ms_17 dX6_visit_96 (fun H locs hP hD hS => ?_)
                refine lv_aload_n hx hb dX6_visit_97 rfl (lv_at hl 1 rfl) ?_
                refine gf S hK hP 0 ml_0 fX6_29 (v := .ref (ad 6)) mr_6 dX6_visit_98 ?_
                refine lv_iload_n hx hb dX6_visit_101 rfl (lv_at hl 2 rfl) ?_
                refine lv_dup2_11 hx hb dX6_visit_102 rfl rfl ?_
                refine ild S hK hP 6 ml_6 (j := j) (by omega) (Nat.le_of_ble_eq_true rfl) dX6_visit_103 ?_
                refine lv_as (y := r 6 j) rfl ?_
                refine lv_iconst (v := 1) hx hb dX6_visit_104 (by decide) ?_
                refine lv_iadd hx hb dX6_visit_105 ?_
                refine ist S hK hP hD hS 6 ml_6 (j := j) (x := (r 6 j) + 1) (by omega) (Nat.le_of_ble_eq_true rfl) ms_6 dX6_visit_106 (fun H locs hP hD hS => ?_)
                refine lv_iload_n hx hb dX6_visit_107 rfl (lv_at hl 3 rfl) ?_
                refine lv_bipush (v := 97) hx hb dX6_visit_108 (by decide) ?_
                refine lv_icmp_ne (tgt := 158) hx hb dX6_visit_110 (by decide) (fun b110 => ?_) (fun b110 => ?_)
                · skip
                  refine lv_iload_n hx hb dX6_visit_158 rfl (lv_at hl 3 rfl) ?_
                  refine lv_bipush (v := 110) hx hb dX6_visit_159 (by decide) ?_
                  refine lv_icmp_ne (tgt := 217) hx hb dX6_visit_161 (by decide) (fun b161 => ?_) (fun b161 => ?_)
                  · skip
                    exact absurd b19 b161
                  · skip
                    refine lv_aload_n hx hb dX6_visit_164 rfl (lv_at hl 1 rfl) ?_
                    refine gf S hK hP 0 ml_0 fX6_32 (v := .ref (ad 7)) mr_7 dX6_visit_165 ?_
                    refine lv_iload_n hx hb dX6_visit_168 rfl (lv_at hl 2 rfl) ?_
                    refine lv_dup2_11 hx hb dX6_visit_169 rfl rfl ?_
                    refine ild S hK hP 7 ml_7 (j := j) (by omega) (Nat.le_of_ble_eq_true rfl) dX6_visit_170 ?_
                    refine lv_as (y := r 7 j) rfl ?_
                    refine lv_iconst (v := 1) hx hb dX6_visit_171 (by decide) ?_
                    refine lv_iadd hx hb dX6_visit_172 ?_
                    refine ist S hK hP hD hS 7 ml_7 (j := j) (x := (r 7 j) + 1) (by omega) (Nat.le_of_ble_eq_true rfl) ms_7 dX6_visit_173 (fun H locs hP hD hS => ?_)
                    refine lv_aload_n hx hb dX6_visit_174 rfl (lv_at hl 1 rfl) ?_
                    refine gf S hK hP 0 ml_0 fX6_26 (v := .ref (ad 5)) mr_5 dX6_visit_175 ?_
                    refine lv_iload_n hx hb dX6_visit_178 rfl (lv_at hl 2 rfl) ?_
                    refine lv_aload_n hx hb dX6_visit_179 rfl (lv_at hl 1 rfl) ?_
                    refine gf S hK hP 0 ml_0 fX6_115 (v := .int (r 0 5)) (mv_5 rfl) dX6_visit_180 ?_
                    refine lv_aload_n hx hb dX6_visit_183 rfl (lv_at hl 1 rfl) ?_
                    refine gf S hK hP 0 ml_0 fX6_32 (v := .ref (ad 7)) mr_7 dX6_visit_184 ?_
                    refine lv_iload_n hx hb dX6_visit_187 rfl (lv_at hl 2 rfl) ?_
                    refine ild S hK hP 7 ml_7 (j := j) (by omega) (Nat.le_of_ble_eq_true rfl) dX6_visit_188 ?_
                    refine lv_as (y := (r 7 j) + 1) up_at ?_
                    refine lv_iadd hx hb dX6_visit_189 ?_
                    refine ist S hK hP hD hS 5 ml_5 (j := j) (x := (r 0 5) + ((r 7 j) + 1)) (by omega) (Nat.le_of_ble_eq_true rfl) ms_5 dX6_visit_190 (fun H locs hP hD hS => ?_)
                    refine lv_aload_n hx hb dX6_visit_191 rfl (lv_at hl 1 rfl) ?_
                    refine gf S hK hP 0 ml_0 fX6_23 (v := .ref (ad 4)) mr_4 dX6_visit_192 ?_
                    refine lv_iload_n hx hb dX6_visit_195 rfl (lv_at hl 2 rfl) ?_
                    refine lv_aload_n hx hb dX6_visit_196 rfl (lv_at hl 1 rfl) ?_
                    refine gf S hK hP 0 ml_0 fX6_32 (v := .ref (ad 7)) mr_7 dX6_visit_197 ?_
                    refine lv_iload_n hx hb dX6_visit_200 rfl (lv_at hl 2 rfl) ?_
                    refine ild S hK hP 7 ml_7 (j := j) (by omega) (Nat.le_of_ble_eq_true rfl) dX6_visit_201 ?_
                    refine lv_as (y := (r 7 j) + 1) (up_at : up (up (up (up r 0 0 0) 17 j 1) 6 j ((r 6 j) + 1)) 7 j ((r 7 j) + 1) 7 j = (r 7 j) + 1) ?_
                    refine lv_iconst (v := 3) hx hb dX6_visit_202 (by decide) ?_
                    refine lv_icmp_ne (tgt := 211) hx hb dX6_visit_203 (by decide) (fun b203 => ?_) (fun b203 => ?_)
                    · skip
                      refine lv_bipush (v := 119) hx hb dX6_visit_211 (by decide) ?_
                      refine ist S hK hP hD hS 4 ml_4 (j := j) (x := 119) (by omega) (Nat.le_of_ble_eq_true rfl) ms_4 dX6_visit_213 (fun H locs hP hD hS => ?_)
                      refine lv_goto (tgt := 292) hx hb dX6_visit_214 (by decide) ?_
                      refine lv_aload_n hx hb dX6_visit_292 rfl (lv_at hl 1 rfl) ?_
                      refine gf S hK hP 0 ml_0 fX6_60 (v := .ref (ad 16)) mr_16 dX6_visit_293 ?_
                      refine lv_iload_n hx hb dX6_visit_296 rfl (lv_at hl 2 rfl) ?_
                      refine lv_aload_n hx hb dX6_visit_297 rfl (lv_at hl 1 rfl) ?_
                      refine gf S hK hP 0 ml_0 fX6_23 (v := .ref (ad 4)) mr_4 dX6_visit_298 ?_
                      refine lv_iload_n hx hb dX6_visit_301 rfl (lv_at hl 2 rfl) ?_
                      refine ild S hK hP 4 ml_4 (j := j) (by omega) (Nat.le_of_ble_eq_true rfl) dX6_visit_302 ?_
                      refine lv_as (y := 119) up_at ?_
                      refine lv_bipush (v := 97) hx hb dX6_visit_303 (by decide) ?_
                      refine lv_icmp_eq (tgt := 323) hx hb dX6_visit_305 (by decide) (fun b305 => ?_) (fun b305 => ?_)
                      · skip
                        exact False.elim (by revert b305; decide)
                      · skip
                        refine lv_aload_n hx hb dX6_visit_308 rfl (lv_at hl 1 rfl) ?_
                        refine gf S hK hP 0 ml_0 fX6_23 (v := .ref (ad 4)) mr_4 dX6_visit_309 ?_
                        refine lv_iload_n hx hb dX6_visit_312 rfl (lv_at hl 2 rfl) ?_
                        refine ild S hK hP 4 ml_4 (j := j) (by omega) (Nat.le_of_ble_eq_true rfl) dX6_visit_313 ?_
                        refine lv_as (y := 119) up_at ?_
                        refine lv_bipush (v := 119) hx hb dX6_visit_314 (by decide) ?_
                        refine lv_icmp_eq (tgt := 323) hx hb dX6_visit_316 (by decide) (fun b316 => ?_) (fun b316 => ?_)
                        · skip
                          refine lv_iconst (v := 0) hx hb dX6_visit_323 (by decide) ?_
                          refine zst S hK hP hD hS 16 ml_16 (j := j) (x := 0) (by omega) (Nat.le_of_ble_eq_true rfl) rfl ms_16 dX6_visit_324 (fun H locs hP hD hS => ?_)
                          refine lv_iload hx hb dX6_visit_325 (lv_at hl 0 rfl) ?_
                          exact eMi S hr hlk hP hD hS dX6_visit_327 rfl rfl
                        · skip
                          exact False.elim (by revert b316; decide)
                    · skip
                      exact absurd b203 h3
                · skip
                  exact absurd b110 b13
              · skip
                exact absurd b81 hf
        · skip
          exact absurd b41 b5
      · skip
        exact False.elim (by revert b19; decide)
  · skip
    exact False.elim (by revert b5; decide)

set_option maxHeartbeats 4000000 in
set_option maxRecDepth 100000 in
theorem rr_visit_r2 (l : Launch) (dg : va_G) (cA : Nat → ClassId) (ad : Nat → Nat) (r : St) (n : Nat) (hn : r 0 3 = nI n) (hn24 : n ≤ 24) (j : Nat) (hj : j < n) (a : Int32) (h1 : ¬ a < 0) (h2 : ¬ 9 < a) (i : Nat) (hi4 : i < 4) (hr0 : r 18 j = nI i) (ht : r 17 j = 0) (hf : ¬ r 25 i = 2) (h3 : r 8 j + 1 = 2) (sz : Nat) : MetM l dg cA yX6_visit cX6_visit 5 (some .int) ({ frames := 2, cells := 0, slots := 0, locals := 43 } : Room) 0 0 (mw cA ad r) sz [.ref (ad 0), .int (nI j), .int 114, .int a] (mw cA ad (up (up (up (up (up (up (up (up r 0 0 0) 17 j 1) 6 j (r 6 j + 1)) 8 j (r 8 j + 1)) 9 j (r 9 j ||| 1 <<< (nI i &&& 31))) 5 j (r 0 5 + 3)) 4 j 114) 16 j 1)) (some (.int (nI i))) := by
  refine ofM (by decide) (Nat.le_of_ble_eq_true rfl) (own := RX6) rfl (fun p e s0 m args below meth ccd ls A hAe S hr hlk hname hargs hK hP hD hS hA hsz hl => ?_)
  have hx := S.1
  have hb := S.2.1
  have hl : lv_has ls 5 [(0, .ref (ad 0)), (1, .int (nI j)), (2, .int 114), (3, .int a)] := hl
  refine lv_aload_n hx hb dX6_visit_0 rfl (lv_at hl 0 rfl) ?_
  refine lv_iload_n hx hb dX6_visit_1 rfl (lv_at hl 1 rfl) ?_
  refine cM S (rr_isHouse1 l dg cA ad r n hn hn24 j hj _) kX6_133 ⟨rfl, rfl, Nat.le_of_ble_eq_true rfl, Nat.le_of_ble_eq_true rfl⟩ hK hP hD hS hA 0 ml_0 (q := (RX6, TX6, 31)) rfl rfl (As := [.int (nI j)]) rfl hl.1 (rest := []) rfl (Nat.le_of_ble_eq_true rfl) dX6_visit_2 ⟨Nat.le_of_ble_eq_true rfl, Nat.le_of_ble_eq_true rfl⟩ (st1 := [.int 1]) rfl (fun H locs hP hD hS => ?_)
  refine lv_if_ne (tgt := 10) hx hb dX6_visit_5 (by decide) (fun b5 => ?_) (fun b5 => ?_)
  · skip
    refine lv_iload_n hx hb dX6_visit_10 rfl (lv_at hl 2 rfl) ?_
    refine lv_bipush (v := 97) hx hb dX6_visit_11 (by decide) ?_
    refine lv_icmp_eq (tgt := 34) hx hb dX6_visit_13 (by decide) (fun b13 => ?_) (fun b13 => ?_)
    · skip
      exact False.elim (by revert b13; decide)
    · skip
      refine lv_iload_n hx hb dX6_visit_16 rfl (lv_at hl 2 rfl) ?_
      refine lv_bipush (v := 110) hx hb dX6_visit_17 (by decide) ?_
      refine lv_icmp_eq (tgt := 34) hx hb dX6_visit_19 (by decide) (fun b19 => ?_) (fun b19 => ?_)
      · skip
        exact False.elim (by revert b19; decide)
      · skip
        refine lv_iload_n hx hb dX6_visit_22 rfl (lv_at hl 2 rfl) ?_
        refine lv_bipush (v := 114) hx hb dX6_visit_23 (by decide) ?_
        refine lv_icmp_eq (tgt := 34) hx hb dX6_visit_25 (by decide) (fun b25 => ?_) (fun b25 => ?_)
        · skip
          refine lv_iload_n hx hb dX6_visit_34 rfl (lv_at hl 3 rfl) ?_
          refine lv_iconst (v := 0) hx hb dX6_visit_35 (by decide) ?_
          refine lv_bipush (v := 9) hx hb dX6_visit_36 (by decide) ?_
          refine cRS S (rr_in1 l dg cA (mw cA ad (up r 0 0 0)) a 0 9 h1 h2) kX6_96 ⟨rfl, rfl, Nat.le_of_ble_eq_true rfl, Nat.le_of_ble_eq_true rfl⟩ hK hP (As := [.int a, .int 0, .int 9]) rfl hl.1 (rest := []) rfl (Nat.le_of_ble_eq_true rfl) dX6_visit_38 ⟨Nat.le_of_ble_eq_true rfl, Nat.le_of_ble_eq_true rfl⟩ (st1 := [.int 1]) rfl ?_
          refine lv_if_ne (tgt := 50) hx hb dX6_visit_41 (by decide) (fun b41 => ?_) (fun b41 => ?_)
          · skip
            refine lv_aload_n hx hb dX6_visit_50 rfl (lv_at hl 0 rfl) ?_
            refine gf S hK hP 0 ml_0 fX6_66 (v := .ref (ad 18)) mr_18 dX6_visit_51 ?_
            refine lv_iload_n hx hb dX6_visit_54 rfl (lv_at hl 1 rfl) ?_
            refine ild S hK hP 18 ml_18 (j := j) (by omega) (Nat.le_of_ble_eq_true rfl) dX6_visit_55 ?_
            refine lv_as (y := nI i) hr0 ?_
            refine lv_istore (lv' := [(4, .int (nI i)), (0, .ref (ad 0)), (1, .int (nI j)), (2, .int 114), (3, .int a)]) hx hb dX6_visit_56 hl (by decide) rfl (fun ls hl => ?_)
            refine lv_iload hx hb dX6_visit_58 (lv_at hl 0 rfl) ?_
            refine lv_iconst (v := (-1)) hx hb dX6_visit_60 (by decide) ?_
            refine lv_icmp_eq (tgt := 84) hx hb dX6_visit_61 (by decide) (fun b61 => ?_) (fun b61 => ?_)
            · skip
              exact absurd b61 (nI_m1 (by omega))
            · skip
              refine lv_aload_n hx hb dX6_visit_64 rfl (lv_at hl 1 rfl) ?_
              refine gf S hK hP 0 ml_0 fX6_63 (v := .ref (ad 17)) mr_17 dX6_visit_65 ?_
              refine lv_iload_n hx hb dX6_visit_68 rfl (lv_at hl 2 rfl) ?_
              refine zld S hK hP 17 ml_17 (j := j) (by omega) (Nat.le_of_ble_eq_true rfl) dX6_visit_69 ?_
              refine lv_as (y := 0) ht ?_
              refine lv_if_ne (tgt := 84) hx hb dX6_visit_70 (by decide) (fun b70 => ?_) (fun b70 => ?_)
              · skip
                exact False.elim (by revert b70; decide)
              · skip
                refine lv_aload_n hx hb dX6_visit_73 rfl (lv_at hl 1 rfl) ?_
                refine gf S hK hP 0 ml_0 fX6_87 (v := .ref (ad 25)) mr_25 dX6_visit_74 ?_
                refine lv_iload hx hb dX6_visit_77 (lv_at hl 0 rfl) ?_
                refine ild S hK hP 25 ml_25 (j := i) (by omega) (Nat.le_of_ble_eq_true rfl) dX6_visit_79 ?_
                refine lv_as (y := r 25 i) rfl ?_
                refine lv_iconst (v := 2) hx hb dX6_visit_80 (by decide) ?_
                refine lv_icmp_ne (tgt := 90) hx hb dX6_visit_81 (by decide) (fun b81 => ?_) (fun b81 => ?_)
                · skip
                  refine lv_aload_n hx hb dX6_visit_90 rfl (lv_at hl 1 rfl) ?_
                  refine gf S hK hP 0 ml_0 fX6_63 (v := .ref (ad 17)) mr_17 dX6_visit_91 ?_
                  refine lv_iload_n hx hb dX6_visit_94 rfl (lv_at hl 2 rfl) ?_
                  refine lv_iconst (v := 1) hx hb dX6_visit_95 (by decide) ?_
                  refine zst S hK hP hD hS 17 ml_17 (j := j) (x := 1) (by omega) (Nat.le_of_ble_eq_true rfl) rfl ms_17 dX6_visit_96 (fun H locs hP hD hS => ?_)
                  refine lv_aload_n hx hb dX6_visit_97 rfl (lv_at hl 1 rfl) ?_
                  refine gf S hK hP 0 ml_0 fX6_29 (v := .ref (ad 6)) mr_6 dX6_visit_98 ?_
                  refine lv_iload_n hx hb dX6_visit_101 rfl (lv_at hl 2 rfl) ?_
                  refine lv_dup2_11 hx hb dX6_visit_102 rfl rfl ?_
                  refine ild S hK hP 6 ml_6 (j := j) (by omega) (Nat.le_of_ble_eq_true rfl) dX6_visit_103 ?_
                  refine lv_as (y := r 6 j) rfl ?_
                  refine lv_iconst (v := 1) hx hb dX6_visit_104 (by decide) ?_
                  refine lv_iadd hx hb dX6_visit_105 ?_
                  refine ist S hK hP hD hS 6 ml_6 (j := j) (x := (r 6 j) + 1) (by omega) (Nat.le_of_ble_eq_true rfl) ms_6 dX6_visit_106 (fun H locs hP hD hS => ?_)
                  refine lv_iload_n hx hb dX6_visit_107 rfl (lv_at hl 3 rfl) ?_
                  refine lv_bipush (v := 97) hx hb dX6_visit_108 (by decide) ?_
                  refine lv_icmp_ne (tgt := 158) hx hb dX6_visit_110 (by decide) (fun b110 => ?_) (fun b110 => ?_)
                  · skip
                    refine lv_iload_n hx hb dX6_visit_158 rfl (lv_at hl 3 rfl) ?_
                    refine lv_bipush (v := 110) hx hb dX6_visit_159 (by decide) ?_
                    refine lv_icmp_ne (tgt := 217) hx hb dX6_visit_161 (by decide) (fun b161 => ?_) (fun b161 => ?_)
                    · skip
                      refine lv_iload_n hx hb dX6_visit_217 rfl (lv_at hl 3 rfl) ?_
                      refine lv_bipush (v := 114) hx hb dX6_visit_218 (by decide) ?_
                      refine lv_icmp_ne (tgt := 284) hx hb dX6_visit_220 (by decide) (fun b220 => ?_) (fun b220 => ?_)
                      · skip
                        exact absurd b25 b220
                      · skip
                        refine lv_aload_n hx hb dX6_visit_223 rfl (lv_at hl 1 rfl) ?_
                        refine gf S hK hP 0 ml_0 fX6_35 (v := .ref (ad 8)) mr_8 dX6_visit_224 ?_
                        refine lv_iload_n hx hb dX6_visit_227 rfl (lv_at hl 2 rfl) ?_
                        refine lv_dup2_11 hx hb dX6_visit_228 rfl rfl ?_
                        refine ild S hK hP 8 ml_8 (j := j) (by omega) (Nat.le_of_ble_eq_true rfl) dX6_visit_229 ?_
                        refine lv_as (y := r 8 j) rfl ?_
                        refine lv_iconst (v := 1) hx hb dX6_visit_230 (by decide) ?_
                        refine lv_iadd hx hb dX6_visit_231 ?_
                        refine ist S hK hP hD hS 8 ml_8 (j := j) (x := (r 8 j) + 1) (by omega) (Nat.le_of_ble_eq_true rfl) ms_8 dX6_visit_232 (fun H locs hP hD hS => ?_)
                        refine lv_aload_n hx hb dX6_visit_233 rfl (lv_at hl 1 rfl) ?_
                        refine gf S hK hP 0 ml_0 fX6_38 (v := .ref (ad 9)) mr_9 dX6_visit_234 ?_
                        refine lv_iload_n hx hb dX6_visit_237 rfl (lv_at hl 2 rfl) ?_
                        refine lv_dup2_11 hx hb dX6_visit_238 rfl rfl ?_
                        refine ild S hK hP 9 ml_9 (j := j) (by omega) (Nat.le_of_ble_eq_true rfl) dX6_visit_239 ?_
                        refine lv_as (y := r 9 j) rfl ?_
                        refine lv_iconst (v := 1) hx hb dX6_visit_240 (by decide) ?_
                        refine lv_iload hx hb dX6_visit_241 (lv_at hl 0 rfl) ?_
                        refine lv_ishl hx hb dX6_visit_243 ?_
                        refine lv_ior hx hb dX6_visit_244 ?_
                        refine ist S hK hP hD hS 9 ml_9 (j := j) (x := (r 9 j) ||| (1 <<< ((nI i) &&& 31))) (by omega) (Nat.le_of_ble_eq_true rfl) ms_9 dX6_visit_245 (fun H locs hP hD hS => ?_)
                        refine lv_aload_n hx hb dX6_visit_246 rfl (lv_at hl 1 rfl) ?_
                        refine gf S hK hP 0 ml_0 fX6_26 (v := .ref (ad 5)) mr_5 dX6_visit_247 ?_
                        refine lv_iload_n hx hb dX6_visit_250 rfl (lv_at hl 2 rfl) ?_
                        refine lv_aload_n hx hb dX6_visit_251 rfl (lv_at hl 1 rfl) ?_
                        refine gf S hK hP 0 ml_0 fX6_115 (v := .int (r 0 5)) (mv_5 rfl) dX6_visit_252 ?_
                        refine lv_iconst (v := 3) hx hb dX6_visit_255 (by decide) ?_
                        refine lv_iadd hx hb dX6_visit_256 ?_
                        refine ist S hK hP hD hS 5 ml_5 (j := j) (x := (r 0 5) + 3) (by omega) (Nat.le_of_ble_eq_true rfl) ms_5 dX6_visit_257 (fun H locs hP hD hS => ?_)
                        refine lv_aload_n hx hb dX6_visit_258 rfl (lv_at hl 1 rfl) ?_
                        refine gf S hK hP 0 ml_0 fX6_23 (v := .ref (ad 4)) mr_4 dX6_visit_259 ?_
                        refine lv_iload_n hx hb dX6_visit_262 rfl (lv_at hl 2 rfl) ?_
                        refine lv_aload_n hx hb dX6_visit_263 rfl (lv_at hl 1 rfl) ?_
                        refine gf S hK hP 0 ml_0 fX6_35 (v := .ref (ad 8)) mr_8 dX6_visit_264 ?_
                        refine lv_iload_n hx hb dX6_visit_267 rfl (lv_at hl 2 rfl) ?_
                        refine ild S hK hP 8 ml_8 (j := j) (by omega) (Nat.le_of_ble_eq_true rfl) dX6_visit_268 ?_
                        refine lv_as (y := (r 8 j) + 1) (up_at : up (up (up (up r 0 0 0) 17 j 1) 6 j ((r 6 j) + 1)) 8 j ((r 8 j) + 1) 8 j = (r 8 j) + 1) ?_
                        refine lv_iconst (v := 2) hx hb dX6_visit_269 (by decide) ?_
                        refine lv_icmp_ne (tgt := 278) hx hb dX6_visit_270 (by decide) (fun b270 => ?_) (fun b270 => ?_)
                        · skip
                          exact absurd h3 b270
                        · skip
                          refine lv_bipush (v := 114) hx hb dX6_visit_273 (by decide) ?_
                          refine lv_goto (tgt := 280) hx hb dX6_visit_275 (by decide) ?_
                          refine ist S hK hP hD hS 4 ml_4 (j := j) (x := 114) (by omega) (Nat.le_of_ble_eq_true rfl) ms_4 dX6_visit_280 (fun H locs hP hD hS => ?_)
                          refine lv_goto (tgt := 292) hx hb dX6_visit_281 (by decide) ?_
                          refine lv_aload_n hx hb dX6_visit_292 rfl (lv_at hl 1 rfl) ?_
                          refine gf S hK hP 0 ml_0 fX6_60 (v := .ref (ad 16)) mr_16 dX6_visit_293 ?_
                          refine lv_iload_n hx hb dX6_visit_296 rfl (lv_at hl 2 rfl) ?_
                          refine lv_aload_n hx hb dX6_visit_297 rfl (lv_at hl 1 rfl) ?_
                          refine gf S hK hP 0 ml_0 fX6_23 (v := .ref (ad 4)) mr_4 dX6_visit_298 ?_
                          refine lv_iload_n hx hb dX6_visit_301 rfl (lv_at hl 2 rfl) ?_
                          refine ild S hK hP 4 ml_4 (j := j) (by omega) (Nat.le_of_ble_eq_true rfl) dX6_visit_302 ?_
                          refine lv_as (y := 114) up_at ?_
                          refine lv_bipush (v := 97) hx hb dX6_visit_303 (by decide) ?_
                          refine lv_icmp_eq (tgt := 323) hx hb dX6_visit_305 (by decide) (fun b305 => ?_) (fun b305 => ?_)
                          · skip
                            exact absurd b305 b110
                          · skip
                            refine lv_aload_n hx hb dX6_visit_308 rfl (lv_at hl 1 rfl) ?_
                            refine gf S hK hP 0 ml_0 fX6_23 (v := .ref (ad 4)) mr_4 dX6_visit_309 ?_
                            refine lv_iload_n hx hb dX6_visit_312 rfl (lv_at hl 2 rfl) ?_
                            refine ild S hK hP 4 ml_4 (j := j) (by omega) (Nat.le_of_ble_eq_true rfl) dX6_visit_313 ?_
                            refine lv_as (y := 114) up_at ?_
                            refine lv_bipush (v := 119) hx hb dX6_visit_314 (by decide) ?_
                            refine lv_icmp_eq (tgt := 323) hx hb dX6_visit_316 (by decide) (fun b316 => ?_) (fun b316 => ?_)
                            · skip
                              exact False.elim (by revert b316; decide)
                            · skip
                              refine lv_iconst (v := 1) hx hb dX6_visit_319 (by decide) ?_
                              refine lv_goto (tgt := 324) hx hb dX6_visit_320 (by decide) ?_
                              refine zst S hK hP hD hS 16 ml_16 (j := j) (x := 1) (by omega) (Nat.le_of_ble_eq_true rfl) rfl ms_16 dX6_visit_324 (fun H locs hP hD hS => ?_)
                              refine lv_iload hx hb dX6_visit_325 (lv_at hl 0 rfl) ?_
                              exact eMi S hr hlk hP hD hS dX6_visit_327 rfl rfl
                    · skip
                      exact absurd b161 b19
                  · skip
                    exact absurd b110 b13
                · skip
                  exact absurd b81 hf
          · skip
            exact absurd b41 b5
        · skip
          exact False.elim (by revert b25; decide)
  · skip
    exact False.elim (by revert b5; decide)

set_option maxHeartbeats 4000000 in
set_option maxRecDepth 100000 in
theorem rr_visit_r (l : Launch) (dg : va_G) (cA : Nat → ClassId) (ad : Nat → Nat) (r : St) (n : Nat) (hn : r 0 3 = nI n) (hn24 : n ≤ 24) (j : Nat) (hj : j < n) (a : Int32) (h1 : ¬ a < 0) (h2 : ¬ 9 < a) (i : Nat) (hi4 : i < 4) (hr0 : r 18 j = nI i) (ht : r 17 j = 0) (hf : ¬ r 25 i = 2) (h3 : ¬ r 8 j + 1 = 2) (sz : Nat) : MetM l dg cA yX6_visit cX6_visit 5 (some .int) ({ frames := 2, cells := 0, slots := 0, locals := 43 } : Room) 0 0 (mw cA ad r) sz [.ref (ad 0), .int (nI j), .int 114, .int a] (mw cA ad (up (up (up (up (up (up (up (up r 0 0 0) 17 j 1) 6 j (r 6 j + 1)) 8 j (r 8 j + 1)) 9 j (r 9 j ||| 1 <<< (nI i &&& 31))) 5 j (r 0 5 + 3)) 4 j 119) 16 j 0)) (some (.int (nI i))) := by
  refine ofM (by decide) (Nat.le_of_ble_eq_true rfl) (own := RX6) rfl (fun p e s0 m args below meth ccd ls A hAe S hr hlk hname hargs hK hP hD hS hA hsz hl => ?_)
  have hx := S.1
  have hb := S.2.1
  have hl : lv_has ls 5 [(0, .ref (ad 0)), (1, .int (nI j)), (2, .int 114), (3, .int a)] := hl
  refine lv_aload_n hx hb dX6_visit_0 rfl (lv_at hl 0 rfl) ?_
  refine lv_iload_n hx hb dX6_visit_1 rfl (lv_at hl 1 rfl) ?_
  refine cM S (rr_isHouse1 l dg cA ad r n hn hn24 j hj _) kX6_133 ⟨rfl, rfl, Nat.le_of_ble_eq_true rfl, Nat.le_of_ble_eq_true rfl⟩ hK hP hD hS hA 0 ml_0 (q := (RX6, TX6, 31)) rfl rfl (As := [.int (nI j)]) rfl hl.1 (rest := []) rfl (Nat.le_of_ble_eq_true rfl) dX6_visit_2 ⟨Nat.le_of_ble_eq_true rfl, Nat.le_of_ble_eq_true rfl⟩ (st1 := [.int 1]) rfl (fun H locs hP hD hS => ?_)
  refine lv_if_ne (tgt := 10) hx hb dX6_visit_5 (by decide) (fun b5 => ?_) (fun b5 => ?_)
  · skip
    refine lv_iload_n hx hb dX6_visit_10 rfl (lv_at hl 2 rfl) ?_
    refine lv_bipush (v := 97) hx hb dX6_visit_11 (by decide) ?_
    refine lv_icmp_eq (tgt := 34) hx hb dX6_visit_13 (by decide) (fun b13 => ?_) (fun b13 => ?_)
    · skip
      exact False.elim (by revert b13; decide)
    · skip
      refine lv_iload_n hx hb dX6_visit_16 rfl (lv_at hl 2 rfl) ?_
      refine lv_bipush (v := 110) hx hb dX6_visit_17 (by decide) ?_
      refine lv_icmp_eq (tgt := 34) hx hb dX6_visit_19 (by decide) (fun b19 => ?_) (fun b19 => ?_)
      · skip
        exact False.elim (by revert b19; decide)
      · skip
        refine lv_iload_n hx hb dX6_visit_22 rfl (lv_at hl 2 rfl) ?_
        refine lv_bipush (v := 114) hx hb dX6_visit_23 (by decide) ?_
        refine lv_icmp_eq (tgt := 34) hx hb dX6_visit_25 (by decide) (fun b25 => ?_) (fun b25 => ?_)
        · skip
          refine lv_iload_n hx hb dX6_visit_34 rfl (lv_at hl 3 rfl) ?_
          refine lv_iconst (v := 0) hx hb dX6_visit_35 (by decide) ?_
          refine lv_bipush (v := 9) hx hb dX6_visit_36 (by decide) ?_
          refine cRS S (rr_in1 l dg cA (mw cA ad (up r 0 0 0)) a 0 9 h1 h2) kX6_96 ⟨rfl, rfl, Nat.le_of_ble_eq_true rfl, Nat.le_of_ble_eq_true rfl⟩ hK hP (As := [.int a, .int 0, .int 9]) rfl hl.1 (rest := []) rfl (Nat.le_of_ble_eq_true rfl) dX6_visit_38 ⟨Nat.le_of_ble_eq_true rfl, Nat.le_of_ble_eq_true rfl⟩ (st1 := [.int 1]) rfl ?_
          refine lv_if_ne (tgt := 50) hx hb dX6_visit_41 (by decide) (fun b41 => ?_) (fun b41 => ?_)
          · skip
            refine lv_aload_n hx hb dX6_visit_50 rfl (lv_at hl 0 rfl) ?_
            refine gf S hK hP 0 ml_0 fX6_66 (v := .ref (ad 18)) mr_18 dX6_visit_51 ?_
            refine lv_iload_n hx hb dX6_visit_54 rfl (lv_at hl 1 rfl) ?_
            refine ild S hK hP 18 ml_18 (j := j) (by omega) (Nat.le_of_ble_eq_true rfl) dX6_visit_55 ?_
            refine lv_as (y := nI i) hr0 ?_
            refine lv_istore (lv' := [(4, .int (nI i)), (0, .ref (ad 0)), (1, .int (nI j)), (2, .int 114), (3, .int a)]) hx hb dX6_visit_56 hl (by decide) rfl (fun ls hl => ?_)
            refine lv_iload hx hb dX6_visit_58 (lv_at hl 0 rfl) ?_
            refine lv_iconst (v := (-1)) hx hb dX6_visit_60 (by decide) ?_
            refine lv_icmp_eq (tgt := 84) hx hb dX6_visit_61 (by decide) (fun b61 => ?_) (fun b61 => ?_)
            · skip
              exact absurd b61 (nI_m1 (by omega))
            · skip
              refine lv_aload_n hx hb dX6_visit_64 rfl (lv_at hl 1 rfl) ?_
              refine gf S hK hP 0 ml_0 fX6_63 (v := .ref (ad 17)) mr_17 dX6_visit_65 ?_
              refine lv_iload_n hx hb dX6_visit_68 rfl (lv_at hl 2 rfl) ?_
              refine zld S hK hP 17 ml_17 (j := j) (by omega) (Nat.le_of_ble_eq_true rfl) dX6_visit_69 ?_
              refine lv_as (y := 0) ht ?_
              refine lv_if_ne (tgt := 84) hx hb dX6_visit_70 (by decide) (fun b70 => ?_) (fun b70 => ?_)
              · skip
                exact False.elim (by revert b70; decide)
              · skip
                refine lv_aload_n hx hb dX6_visit_73 rfl (lv_at hl 1 rfl) ?_
                refine gf S hK hP 0 ml_0 fX6_87 (v := .ref (ad 25)) mr_25 dX6_visit_74 ?_
                refine lv_iload hx hb dX6_visit_77 (lv_at hl 0 rfl) ?_
                refine ild S hK hP 25 ml_25 (j := i) (by omega) (Nat.le_of_ble_eq_true rfl) dX6_visit_79 ?_
                refine lv_as (y := r 25 i) rfl ?_
                refine lv_iconst (v := 2) hx hb dX6_visit_80 (by decide) ?_
                refine lv_icmp_ne (tgt := 90) hx hb dX6_visit_81 (by decide) (fun b81 => ?_) (fun b81 => ?_)
                · skip
                  refine lv_aload_n hx hb dX6_visit_90 rfl (lv_at hl 1 rfl) ?_
                  refine gf S hK hP 0 ml_0 fX6_63 (v := .ref (ad 17)) mr_17 dX6_visit_91 ?_
                  refine lv_iload_n hx hb dX6_visit_94 rfl (lv_at hl 2 rfl) ?_
                  refine lv_iconst (v := 1) hx hb dX6_visit_95 (by decide) ?_
                  refine zst S hK hP hD hS 17 ml_17 (j := j) (x := 1) (by omega) (Nat.le_of_ble_eq_true rfl) rfl ms_17 dX6_visit_96 (fun H locs hP hD hS => ?_)
                  refine lv_aload_n hx hb dX6_visit_97 rfl (lv_at hl 1 rfl) ?_
                  refine gf S hK hP 0 ml_0 fX6_29 (v := .ref (ad 6)) mr_6 dX6_visit_98 ?_
                  refine lv_iload_n hx hb dX6_visit_101 rfl (lv_at hl 2 rfl) ?_
                  refine lv_dup2_11 hx hb dX6_visit_102 rfl rfl ?_
                  refine ild S hK hP 6 ml_6 (j := j) (by omega) (Nat.le_of_ble_eq_true rfl) dX6_visit_103 ?_
                  refine lv_as (y := r 6 j) rfl ?_
                  refine lv_iconst (v := 1) hx hb dX6_visit_104 (by decide) ?_
                  refine lv_iadd hx hb dX6_visit_105 ?_
                  refine ist S hK hP hD hS 6 ml_6 (j := j) (x := (r 6 j) + 1) (by omega) (Nat.le_of_ble_eq_true rfl) ms_6 dX6_visit_106 (fun H locs hP hD hS => ?_)
                  refine lv_iload_n hx hb dX6_visit_107 rfl (lv_at hl 3 rfl) ?_
                  refine lv_bipush (v := 97) hx hb dX6_visit_108 (by decide) ?_
                  refine lv_icmp_ne (tgt := 158) hx hb dX6_visit_110 (by decide) (fun b110 => ?_) (fun b110 => ?_)
                  · skip
                    refine lv_iload_n hx hb dX6_visit_158 rfl (lv_at hl 3 rfl) ?_
                    refine lv_bipush (v := 110) hx hb dX6_visit_159 (by decide) ?_
                    refine lv_icmp_ne (tgt := 217) hx hb dX6_visit_161 (by decide) (fun b161 => ?_) (fun b161 => ?_)
                    · skip
                      refine lv_iload_n hx hb dX6_visit_217 rfl (lv_at hl 3 rfl) ?_
                      refine lv_bipush (v := 114) hx hb dX6_visit_218 (by decide) ?_
                      refine lv_icmp_ne (tgt := 284) hx hb dX6_visit_220 (by decide) (fun b220 => ?_) (fun b220 => ?_)
                      · skip
                        exact absurd b25 b220
                      · skip
                        refine lv_aload_n hx hb dX6_visit_223 rfl (lv_at hl 1 rfl) ?_
                        refine gf S hK hP 0 ml_0 fX6_35 (v := .ref (ad 8)) mr_8 dX6_visit_224 ?_
                        refine lv_iload_n hx hb dX6_visit_227 rfl (lv_at hl 2 rfl) ?_
                        refine lv_dup2_11 hx hb dX6_visit_228 rfl rfl ?_
                        refine ild S hK hP 8 ml_8 (j := j) (by omega) (Nat.le_of_ble_eq_true rfl) dX6_visit_229 ?_
                        refine lv_as (y := r 8 j) rfl ?_
                        refine lv_iconst (v := 1) hx hb dX6_visit_230 (by decide) ?_
                        refine lv_iadd hx hb dX6_visit_231 ?_
                        refine ist S hK hP hD hS 8 ml_8 (j := j) (x := (r 8 j) + 1) (by omega) (Nat.le_of_ble_eq_true rfl) ms_8 dX6_visit_232 (fun H locs hP hD hS => ?_)
                        refine lv_aload_n hx hb dX6_visit_233 rfl (lv_at hl 1 rfl) ?_
                        refine gf S hK hP 0 ml_0 fX6_38 (v := .ref (ad 9)) mr_9 dX6_visit_234 ?_
                        refine lv_iload_n hx hb dX6_visit_237 rfl (lv_at hl 2 rfl) ?_
                        refine lv_dup2_11 hx hb dX6_visit_238 rfl rfl ?_
                        refine ild S hK hP 9 ml_9 (j := j) (by omega) (Nat.le_of_ble_eq_true rfl) dX6_visit_239 ?_
                        refine lv_as (y := r 9 j) rfl ?_
                        refine lv_iconst (v := 1) hx hb dX6_visit_240 (by decide) ?_
                        refine lv_iload hx hb dX6_visit_241 (lv_at hl 0 rfl) ?_
                        refine lv_ishl hx hb dX6_visit_243 ?_
                        refine lv_ior hx hb dX6_visit_244 ?_
                        refine ist S hK hP hD hS 9 ml_9 (j := j) (x := (r 9 j) ||| (1 <<< ((nI i) &&& 31))) (by omega) (Nat.le_of_ble_eq_true rfl) ms_9 dX6_visit_245 (fun H locs hP hD hS => ?_)
                        refine lv_aload_n hx hb dX6_visit_246 rfl (lv_at hl 1 rfl) ?_
                        refine gf S hK hP 0 ml_0 fX6_26 (v := .ref (ad 5)) mr_5 dX6_visit_247 ?_
                        refine lv_iload_n hx hb dX6_visit_250 rfl (lv_at hl 2 rfl) ?_
                        refine lv_aload_n hx hb dX6_visit_251 rfl (lv_at hl 1 rfl) ?_
                        refine gf S hK hP 0 ml_0 fX6_115 (v := .int (r 0 5)) (mv_5 rfl) dX6_visit_252 ?_
                        refine lv_iconst (v := 3) hx hb dX6_visit_255 (by decide) ?_
                        refine lv_iadd hx hb dX6_visit_256 ?_
                        refine ist S hK hP hD hS 5 ml_5 (j := j) (x := (r 0 5) + 3) (by omega) (Nat.le_of_ble_eq_true rfl) ms_5 dX6_visit_257 (fun H locs hP hD hS => ?_)
                        refine lv_aload_n hx hb dX6_visit_258 rfl (lv_at hl 1 rfl) ?_
                        refine gf S hK hP 0 ml_0 fX6_23 (v := .ref (ad 4)) mr_4 dX6_visit_259 ?_
                        refine lv_iload_n hx hb dX6_visit_262 rfl (lv_at hl 2 rfl) ?_
                        refine lv_aload_n hx hb dX6_visit_263 rfl (lv_at hl 1 rfl) ?_
                        refine gf S hK hP 0 ml_0 fX6_35 (v := .ref (ad 8)) mr_8 dX6_visit_264 ?_
                        refine lv_iload_n hx hb dX6_visit_267 rfl (lv_at hl 2 rfl) ?_
                        refine ild S hK hP 8 ml_8 (j := j) (by omega) (Nat.le_of_ble_eq_true rfl) dX6_visit_268 ?_
                        refine lv_as (y := (r 8 j) + 1) (up_at : up (up (up (up r 0 0 0) 17 j 1) 6 j ((r 6 j) + 1)) 8 j ((r 8 j) + 1) 8 j = (r 8 j) + 1) ?_
                        refine lv_iconst (v := 2) hx hb dX6_visit_269 (by decide) ?_
                        refine lv_icmp_ne (tgt := 278) hx hb dX6_visit_270 (by decide) (fun b270 => ?_) (fun b270 => ?_)
                        · skip
                          refine lv_bipush (v := 119) hx hb dX6_visit_278 (by decide) ?_
                          refine ist S hK hP hD hS 4 ml_4 (j := j) (x := 119) (by omega) (Nat.le_of_ble_eq_true rfl) ms_4 dX6_visit_280 (fun H locs hP hD hS => ?_)
                          refine lv_goto (tgt := 292) hx hb dX6_visit_281 (by decide) ?_
                          refine lv_aload_n hx hb dX6_visit_292 rfl (lv_at hl 1 rfl) ?_
                          refine gf S hK hP 0 ml_0 fX6_60 (v := .ref (ad 16)) mr_16 dX6_visit_293 ?_
                          refine lv_iload_n hx hb dX6_visit_296 rfl (lv_at hl 2 rfl) ?_
                          refine lv_aload_n hx hb dX6_visit_297 rfl (lv_at hl 1 rfl) ?_
                          refine gf S hK hP 0 ml_0 fX6_23 (v := .ref (ad 4)) mr_4 dX6_visit_298 ?_
                          refine lv_iload_n hx hb dX6_visit_301 rfl (lv_at hl 2 rfl) ?_
                          refine ild S hK hP 4 ml_4 (j := j) (by omega) (Nat.le_of_ble_eq_true rfl) dX6_visit_302 ?_
                          refine lv_as (y := 119) up_at ?_
                          refine lv_bipush (v := 97) hx hb dX6_visit_303 (by decide) ?_
                          refine lv_icmp_eq (tgt := 323) hx hb dX6_visit_305 (by decide) (fun b305 => ?_) (fun b305 => ?_)
                          · skip
                            exact False.elim (by revert b305; decide)
                          · skip
                            refine lv_aload_n hx hb dX6_visit_308 rfl (lv_at hl 1 rfl) ?_
                            refine gf S hK hP 0 ml_0 fX6_23 (v := .ref (ad 4)) mr_4 dX6_visit_309 ?_
                            refine lv_iload_n hx hb dX6_visit_312 rfl (lv_at hl 2 rfl) ?_
                            refine ild S hK hP 4 ml_4 (j := j) (by omega) (Nat.le_of_ble_eq_true rfl) dX6_visit_313 ?_
                            refine lv_as (y := 119) up_at ?_
                            refine lv_bipush (v := 119) hx hb dX6_visit_314 (by decide) ?_
                            refine lv_icmp_eq (tgt := 323) hx hb dX6_visit_316 (by decide) (fun b316 => ?_) (fun b316 => ?_)
                            · skip
                              refine lv_iconst (v := 0) hx hb dX6_visit_323 (by decide) ?_
                              refine zst S hK hP hD hS 16 ml_16 (j := j) (x := 0) (by omega) (Nat.le_of_ble_eq_true rfl) rfl ms_16 dX6_visit_324 (fun H locs hP hD hS => ?_)
                              refine lv_iload hx hb dX6_visit_325 (lv_at hl 0 rfl) ?_
                              exact eMi S hr hlk hP hD hS dX6_visit_327 rfl rfl
                            · skip
                              exact False.elim (by revert b316; decide)
                        · skip
                          exact absurd b270 h3
                    · skip
                      exact absurd b161 b19
                  · skip
                    exact absurd b110 b13
                · skip
                  exact absurd b81 hf
          · skip
            exact absurd b41 b5
        · skip
          exact False.elim (by revert b25; decide)
  · skip
    exact False.elim (by revert b5; decide)

set_option maxHeartbeats 4000000 in
set_option maxRecDepth 100000 in
theorem rr_visit_e (l : Launch) (dg : va_G) (cA : Nat → ClassId) (ad : Nat → Nat) (r : St) (n : Nat) (hn : r 0 3 = nI n) (hn24 : n ≤ 24) (j : Nat) (hj : j < n) (a : Int32) (h1 : ¬ a < 0) (h2 : ¬ 9 < a) (i : Nat) (hi4 : i < 4) (hr0 : r 18 j = nI i) (ht : r 17 j = 0) (hf : ¬ r 25 i = 2) (sz : Nat) : MetM l dg cA yX6_visit cX6_visit 5 (some .int) ({ frames := 2, cells := 0, slots := 0, locals := 43 } : Room) 0 0 (mw cA ad r) sz [.ref (ad 0), .int (nI j), .int 101, .int a] (mw cA ad (up (up (up (up (up r 0 0 0) 17 j 1) 6 j (r 6 j + 1)) 4 j 101) 16 j 1)) (some (.int (nI i))) := by
  refine ofM (by decide) (Nat.le_of_ble_eq_true rfl) (own := RX6) rfl (fun p e s0 m args below meth ccd ls A hAe S hr hlk hname hargs hK hP hD hS hA hsz hl => ?_)
  have hx := S.1
  have hb := S.2.1
  have hl : lv_has ls 5 [(0, .ref (ad 0)), (1, .int (nI j)), (2, .int 101), (3, .int a)] := hl
  refine lv_aload_n hx hb dX6_visit_0 rfl (lv_at hl 0 rfl) ?_
  refine lv_iload_n hx hb dX6_visit_1 rfl (lv_at hl 1 rfl) ?_
  refine cM S (rr_isHouse1 l dg cA ad r n hn hn24 j hj _) kX6_133 ⟨rfl, rfl, Nat.le_of_ble_eq_true rfl, Nat.le_of_ble_eq_true rfl⟩ hK hP hD hS hA 0 ml_0 (q := (RX6, TX6, 31)) rfl rfl (As := [.int (nI j)]) rfl hl.1 (rest := []) rfl (Nat.le_of_ble_eq_true rfl) dX6_visit_2 ⟨Nat.le_of_ble_eq_true rfl, Nat.le_of_ble_eq_true rfl⟩ (st1 := [.int 1]) rfl (fun H locs hP hD hS => ?_)
  refine lv_if_ne (tgt := 10) hx hb dX6_visit_5 (by decide) (fun b5 => ?_) (fun b5 => ?_)
  · skip
    refine lv_iload_n hx hb dX6_visit_10 rfl (lv_at hl 2 rfl) ?_
    refine lv_bipush (v := 97) hx hb dX6_visit_11 (by decide) ?_
    refine lv_icmp_eq (tgt := 34) hx hb dX6_visit_13 (by decide) (fun b13 => ?_) (fun b13 => ?_)
    · skip
      exact False.elim (by revert b13; decide)
    · skip
      refine lv_iload_n hx hb dX6_visit_16 rfl (lv_at hl 2 rfl) ?_
      refine lv_bipush (v := 110) hx hb dX6_visit_17 (by decide) ?_
      refine lv_icmp_eq (tgt := 34) hx hb dX6_visit_19 (by decide) (fun b19 => ?_) (fun b19 => ?_)
      · skip
        exact False.elim (by revert b19; decide)
      · skip
        refine lv_iload_n hx hb dX6_visit_22 rfl (lv_at hl 2 rfl) ?_
        refine lv_bipush (v := 114) hx hb dX6_visit_23 (by decide) ?_
        refine lv_icmp_eq (tgt := 34) hx hb dX6_visit_25 (by decide) (fun b25 => ?_) (fun b25 => ?_)
        · skip
          exact False.elim (by revert b25; decide)
        · skip
          refine lv_iload_n hx hb dX6_visit_28 rfl (lv_at hl 2 rfl) ?_
          refine lv_bipush (v := 101) hx hb dX6_visit_29 (by decide) ?_
          refine lv_icmp_ne (tgt := 44) hx hb dX6_visit_31 (by decide) (fun b31 => ?_) (fun b31 => ?_)
          · skip
            exact False.elim (by revert b31; decide)
          · skip
            refine lv_iload_n hx hb dX6_visit_34 rfl (lv_at hl 3 rfl) ?_
            refine lv_iconst (v := 0) hx hb dX6_visit_35 (by decide) ?_
            refine lv_bipush (v := 9) hx hb dX6_visit_36 (by decide) ?_
            refine cRS S (rr_in1 l dg cA (mw cA ad (up r 0 0 0)) a 0 9 h1 h2) kX6_96 ⟨rfl, rfl, Nat.le_of_ble_eq_true rfl, Nat.le_of_ble_eq_true rfl⟩ hK hP (As := [.int a, .int 0, .int 9]) rfl hl.1 (rest := []) rfl (Nat.le_of_ble_eq_true rfl) dX6_visit_38 ⟨Nat.le_of_ble_eq_true rfl, Nat.le_of_ble_eq_true rfl⟩ (st1 := [.int 1]) rfl ?_
            refine lv_if_ne (tgt := 50) hx hb dX6_visit_41 (by decide) (fun b41 => ?_) (fun b41 => ?_)
            · skip
              refine lv_aload_n hx hb dX6_visit_50 rfl (lv_at hl 0 rfl) ?_
              refine gf S hK hP 0 ml_0 fX6_66 (v := .ref (ad 18)) mr_18 dX6_visit_51 ?_
              refine lv_iload_n hx hb dX6_visit_54 rfl (lv_at hl 1 rfl) ?_
              refine ild S hK hP 18 ml_18 (j := j) (by omega) (Nat.le_of_ble_eq_true rfl) dX6_visit_55 ?_
              refine lv_as (y := nI i) hr0 ?_
              refine lv_istore (lv' := [(4, .int (nI i)), (0, .ref (ad 0)), (1, .int (nI j)), (2, .int 101), (3, .int a)]) hx hb dX6_visit_56 hl (by decide) rfl (fun ls hl => ?_)
              refine lv_iload hx hb dX6_visit_58 (lv_at hl 0 rfl) ?_
              refine lv_iconst (v := (-1)) hx hb dX6_visit_60 (by decide) ?_
              refine lv_icmp_eq (tgt := 84) hx hb dX6_visit_61 (by decide) (fun b61 => ?_) (fun b61 => ?_)
              · skip
                exact absurd b61 (nI_m1 (by omega))
              · skip
                refine lv_aload_n hx hb dX6_visit_64 rfl (lv_at hl 1 rfl) ?_
                refine gf S hK hP 0 ml_0 fX6_63 (v := .ref (ad 17)) mr_17 dX6_visit_65 ?_
                refine lv_iload_n hx hb dX6_visit_68 rfl (lv_at hl 2 rfl) ?_
                refine zld S hK hP 17 ml_17 (j := j) (by omega) (Nat.le_of_ble_eq_true rfl) dX6_visit_69 ?_
                refine lv_as (y := 0) ht ?_
                refine lv_if_ne (tgt := 84) hx hb dX6_visit_70 (by decide) (fun b70 => ?_) (fun b70 => ?_)
                · skip
                  exact False.elim (by revert b70; decide)
                · skip
                  refine lv_aload_n hx hb dX6_visit_73 rfl (lv_at hl 1 rfl) ?_
                  refine gf S hK hP 0 ml_0 fX6_87 (v := .ref (ad 25)) mr_25 dX6_visit_74 ?_
                  refine lv_iload hx hb dX6_visit_77 (lv_at hl 0 rfl) ?_
                  refine ild S hK hP 25 ml_25 (j := i) (by omega) (Nat.le_of_ble_eq_true rfl) dX6_visit_79 ?_
                  refine lv_as (y := r 25 i) rfl ?_
                  refine lv_iconst (v := 2) hx hb dX6_visit_80 (by decide) ?_
                  refine lv_icmp_ne (tgt := 90) hx hb dX6_visit_81 (by decide) (fun b81 => ?_) (fun b81 => ?_)
                  · skip
                    refine lv_aload_n hx hb dX6_visit_90 rfl (lv_at hl 1 rfl) ?_
                    refine gf S hK hP 0 ml_0 fX6_63 (v := .ref (ad 17)) mr_17 dX6_visit_91 ?_
                    refine lv_iload_n hx hb dX6_visit_94 rfl (lv_at hl 2 rfl) ?_
                    refine lv_iconst (v := 1) hx hb dX6_visit_95 (by decide) ?_
                    refine zst S hK hP hD hS 17 ml_17 (j := j) (x := 1) (by omega) (Nat.le_of_ble_eq_true rfl) rfl ms_17 dX6_visit_96 (fun H locs hP hD hS => ?_)
                    refine lv_aload_n hx hb dX6_visit_97 rfl (lv_at hl 1 rfl) ?_
                    refine gf S hK hP 0 ml_0 fX6_29 (v := .ref (ad 6)) mr_6 dX6_visit_98 ?_
                    refine lv_iload_n hx hb dX6_visit_101 rfl (lv_at hl 2 rfl) ?_
                    refine lv_dup2_11 hx hb dX6_visit_102 rfl rfl ?_
                    refine ild S hK hP 6 ml_6 (j := j) (by omega) (Nat.le_of_ble_eq_true rfl) dX6_visit_103 ?_
                    refine lv_as (y := r 6 j) rfl ?_
                    refine lv_iconst (v := 1) hx hb dX6_visit_104 (by decide) ?_
                    refine lv_iadd hx hb dX6_visit_105 ?_
                    refine ist S hK hP hD hS 6 ml_6 (j := j) (x := (r 6 j) + 1) (by omega) (Nat.le_of_ble_eq_true rfl) ms_6 dX6_visit_106 (fun H locs hP hD hS => ?_)
                    refine lv_iload_n hx hb dX6_visit_107 rfl (lv_at hl 3 rfl) ?_
                    refine lv_bipush (v := 97) hx hb dX6_visit_108 (by decide) ?_
                    refine lv_icmp_ne (tgt := 158) hx hb dX6_visit_110 (by decide) (fun b110 => ?_) (fun b110 => ?_)
                    · skip
                      refine lv_iload_n hx hb dX6_visit_158 rfl (lv_at hl 3 rfl) ?_
                      refine lv_bipush (v := 110) hx hb dX6_visit_159 (by decide) ?_
                      refine lv_icmp_ne (tgt := 217) hx hb dX6_visit_161 (by decide) (fun b161 => ?_) (fun b161 => ?_)
                      · skip
                        refine lv_iload_n hx hb dX6_visit_217 rfl (lv_at hl 3 rfl) ?_
                        refine lv_bipush (v := 114) hx hb dX6_visit_218 (by decide) ?_
                        refine lv_icmp_ne (tgt := 284) hx hb dX6_visit_220 (by decide) (fun b220 => ?_) (fun b220 => ?_)
                        · skip
                          refine lv_aload_n hx hb dX6_visit_284 rfl (lv_at hl 1 rfl) ?_
                          refine gf S hK hP 0 ml_0 fX6_23 (v := .ref (ad 4)) mr_4 dX6_visit_285 ?_
                          refine lv_iload_n hx hb dX6_visit_288 rfl (lv_at hl 2 rfl) ?_
                          refine lv_bipush (v := 101) hx hb dX6_visit_289 (by decide) ?_
                          refine ist S hK hP hD hS 4 ml_4 (j := j) (x := 101) (by omega) (Nat.le_of_ble_eq_true rfl) ms_4 dX6_visit_291 (fun H locs hP hD hS => ?_)
                          refine lv_aload_n hx hb dX6_visit_292 rfl (lv_at hl 1 rfl) ?_
                          refine gf S hK hP 0 ml_0 fX6_60 (v := .ref (ad 16)) mr_16 dX6_visit_293 ?_
                          refine lv_iload_n hx hb dX6_visit_296 rfl (lv_at hl 2 rfl) ?_
                          refine lv_aload_n hx hb dX6_visit_297 rfl (lv_at hl 1 rfl) ?_
                          refine gf S hK hP 0 ml_0 fX6_23 (v := .ref (ad 4)) mr_4 dX6_visit_298 ?_
                          refine lv_iload_n hx hb dX6_visit_301 rfl (lv_at hl 2 rfl) ?_
                          refine ild S hK hP 4 ml_4 (j := j) (by omega) (Nat.le_of_ble_eq_true rfl) dX6_visit_302 ?_
                          refine lv_as (y := 101) up_at ?_
                          refine lv_bipush (v := 97) hx hb dX6_visit_303 (by decide) ?_
                          refine lv_icmp_eq (tgt := 323) hx hb dX6_visit_305 (by decide) (fun b305 => ?_) (fun b305 => ?_)
                          · skip
                            exact absurd b305 b110
                          · skip
                            refine lv_aload_n hx hb dX6_visit_308 rfl (lv_at hl 1 rfl) ?_
                            refine gf S hK hP 0 ml_0 fX6_23 (v := .ref (ad 4)) mr_4 dX6_visit_309 ?_
                            refine lv_iload_n hx hb dX6_visit_312 rfl (lv_at hl 2 rfl) ?_
                            refine ild S hK hP 4 ml_4 (j := j) (by omega) (Nat.le_of_ble_eq_true rfl) dX6_visit_313 ?_
                            refine lv_as (y := 101) up_at ?_
                            refine lv_bipush (v := 119) hx hb dX6_visit_314 (by decide) ?_
                            refine lv_icmp_eq (tgt := 323) hx hb dX6_visit_316 (by decide) (fun b316 => ?_) (fun b316 => ?_)
                            · skip
                              exact False.elim (by revert b316; decide)
                            · skip
                              refine lv_iconst (v := 1) hx hb dX6_visit_319 (by decide) ?_
                              refine lv_goto (tgt := 324) hx hb dX6_visit_320 (by decide) ?_
                              refine zst S hK hP hD hS 16 ml_16 (j := j) (x := 1) (by omega) (Nat.le_of_ble_eq_true rfl) rfl ms_16 dX6_visit_324 (fun H locs hP hD hS => ?_)
                              refine lv_iload hx hb dX6_visit_325 (lv_at hl 0 rfl) ?_
                              exact eMi S hr hlk hP hD hS dX6_visit_327 rfl rfl
                        · skip
                          exact absurd b220 b25
                      · skip
                        exact absurd b161 b19
                    · skip
                      exact absurd b110 b13
                  · skip
                    exact absurd b81 hf
            · skip
              exact absurd b41 b5
  · skip
    exact False.elim (by revert b5; decide)

set_option maxHeartbeats 4000000 in
set_option maxRecDepth 100000 in
theorem rr_check0 (l : Launch) (dg : va_G) (cA : Nat → ClassId) (ad : Nat → Nat) (r : St) (n : Nat) (hn : r 0 3 = nI n) (hn24 : n ≤ 24) (v : Int32) (hv : v < 0 ∨ nI n ≤ v) (a : Int32) (sz : Nat) : MetM l dg cA yX6_check cX6_check 5 (some .boolean) ({ frames := 2, cells := 0, slots := 0, locals := 43 } : Room) 0 0 (mw cA ad r) sz [.ref (ad 0), .int v, .int a] (mw cA ad (up r 0 0 1)) (some (.int 0)) := by
  refine ofM (by decide) (Nat.le_of_ble_eq_true rfl) (own := RX6) rfl (fun p e s0 m args below meth ccd ls A hAe S hr hlk hname hargs hK hP hD hS hA hsz hl => ?_)
  have hx := S.1
  have hb := S.2.1
  have hl : lv_has ls 5 [(0, .ref (ad 0)), (1, .int v), (2, .int a)] := hl
  refine lv_aload_n hx hb dX6_check_0 rfl (lv_at hl 0 rfl) ?_
  refine lv_iload_n hx hb dX6_check_1 rfl (lv_at hl 1 rfl) ?_
  refine cM S (rr_isHouse0 l dg cA ad r n hn hn24 v hv _) kX6_133 ⟨rfl, rfl, Nat.le_of_ble_eq_true rfl, Nat.le_of_ble_eq_true rfl⟩ hK hP hD hS hA 0 ml_0 (q := (RX6, TX6, 31)) rfl rfl (As := [.int v]) rfl hl.1 (rest := []) rfl (Nat.le_of_ble_eq_true rfl) dX6_check_2 ⟨Nat.le_of_ble_eq_true rfl, Nat.le_of_ble_eq_true rfl⟩ (st1 := [.int 0]) rfl (fun H locs hP hD hS => ?_)
  refine lv_if_ne (tgt := 10) hx hb dX6_check_5 (by decide) (fun b5 => ?_) (fun b5 => ?_)
  · skip
    exact False.elim (by revert b5; decide)
  · skip
    refine lv_iconst (v := 0) hx hb dX6_check_8 (by decide) ?_
    exact eMz S hr hlk hP hD hS dX6_check_9 rfl rfl rfl

set_option maxHeartbeats 4000000 in
set_option maxRecDepth 100000 in
theorem rr_check2 (l : Launch) (dg : va_G) (cA : Nat → ClassId) (ad : Nat → Nat) (r : St) (n : Nat) (hn : r 0 3 = nI n) (hn24 : n ≤ 24) (j : Nat) (hj : j < n) (a : Int32) (ha : ¬ (¬ a < 0 ∧ ¬ 9 < a)) (sz : Nat) : MetM l dg cA yX6_check cX6_check 5 (some .boolean) ({ frames := 2, cells := 0, slots := 0, locals := 43 } : Room) 0 0 (mw cA ad r) sz [.ref (ad 0), .int (nI j), .int a] (mw cA ad (up r 0 0 2)) (some (.int 0)) := by
  refine ofM (by decide) (Nat.le_of_ble_eq_true rfl) (own := RX6) rfl (fun p e s0 m args below meth ccd ls A hAe S hr hlk hname hargs hK hP hD hS hA hsz hl => ?_)
  have hx := S.1
  have hb := S.2.1
  have hl : lv_has ls 5 [(0, .ref (ad 0)), (1, .int (nI j)), (2, .int a)] := hl
  refine lv_aload_n hx hb dX6_check_0 rfl (lv_at hl 0 rfl) ?_
  refine lv_iload_n hx hb dX6_check_1 rfl (lv_at hl 1 rfl) ?_
  refine cM S (rr_isHouse1 l dg cA ad r n hn hn24 j hj _) kX6_133 ⟨rfl, rfl, Nat.le_of_ble_eq_true rfl, Nat.le_of_ble_eq_true rfl⟩ hK hP hD hS hA 0 ml_0 (q := (RX6, TX6, 31)) rfl rfl (As := [.int (nI j)]) rfl hl.1 (rest := []) rfl (Nat.le_of_ble_eq_true rfl) dX6_check_2 ⟨Nat.le_of_ble_eq_true rfl, Nat.le_of_ble_eq_true rfl⟩ (st1 := [.int 1]) rfl (fun H locs hP hD hS => ?_)
  refine lv_if_ne (tgt := 10) hx hb dX6_check_5 (by decide) (fun b5 => ?_) (fun b5 => ?_)
  · skip
    refine lv_aload_n hx hb dX6_check_10 rfl (lv_at hl 0 rfl) ?_
    refine lv_iload_n hx hb dX6_check_11 rfl (lv_at hl 2 rfl) ?_
    refine lv_iconst (v := 0) hx hb dX6_check_12 (by decide) ?_
    refine lv_bipush (v := 9) hx hb dX6_check_13 (by decide) ?_
    refine cRS S (rr_in0 l dg cA (mw cA ad (up r 0 0 0)) a 0 9 ha) kX6_96 ⟨rfl, rfl, Nat.le_of_ble_eq_true rfl, Nat.le_of_ble_eq_true rfl⟩ hK hP (As := [.int a, .int 0, .int 9]) rfl hl.1 (rest := [.ref (ad 0)]) rfl (Nat.le_of_ble_eq_true rfl) dX6_check_15 ⟨Nat.le_of_ble_eq_true rfl, Nat.le_of_ble_eq_true rfl⟩ (st1 := [.int 0, .ref (ad 0)]) rfl ?_
    refine lv_if_ne (tgt := 25) hx hb dX6_check_18 (by decide) (fun b18 => ?_) (fun b18 => ?_)
    · skip
      exact False.elim (by revert b18; decide)
    · skip
      refine lv_iconst (v := 2) hx hb dX6_check_21 (by decide) ?_
      refine lv_goto (tgt := 50) hx hb dX6_check_22 (by decide) ?_
      refine pf S hK hP hD hS 0 ml_0 fX6_90 fpX6 rfl (v := .int 2) rfl rfl (Nat.le_of_ble_eq_true rfl) ms_0_0 dX6_check_50 (fun H locs hP hD hS => ?_)
      refine lv_aload_n hx hb dX6_check_53 rfl (lv_at hl 0 rfl) ?_
      refine gf S hK hP 0 ml_0 fX6_90 (v := .int 2) (mv_0 up_at) dX6_check_54 ?_
      refine lv_if_le (tgt := 62) hx hb dX6_check_57 (by decide) (fun b57 => ?_) (fun b57 => ?_)
      · skip
        exact False.elim (by revert b57; decide)
      · skip
        refine lv_iconst (v := 0) hx hb dX6_check_60 (by decide) ?_
        exact eMz S hr hlk hP hD hS dX6_check_61 rfl up_twice_mw rfl
  · skip
    exact False.elim (by revert b5; decide)

set_option maxHeartbeats 4000000 in
set_option maxRecDepth 100000 in
theorem rr_check3a (l : Launch) (dg : va_G) (cA : Nat → ClassId) (ad : Nat → Nat) (r : St) (n : Nat) (hn : r 0 3 = nI n) (hn24 : n ≤ 24) (j : Nat) (hj : j < n) (a : Int32) (h1 : ¬ a < 0) (h2 : ¬ 9 < a) (hs : ¬ r 4 j = 97) (sz : Nat) : MetM l dg cA yX6_check cX6_check 5 (some .boolean) ({ frames := 2, cells := 0, slots := 0, locals := 43 } : Room) 0 0 (mw cA ad r) sz [.ref (ad 0), .int (nI j), .int a] (mw cA ad (up r 0 0 3)) (some (.int 0)) := by
  refine ofM (by decide) (Nat.le_of_ble_eq_true rfl) (own := RX6) rfl (fun p e s0 m args below meth ccd ls A hAe S hr hlk hname hargs hK hP hD hS hA hsz hl => ?_)
  have hx := S.1
  have hb := S.2.1
  have hl : lv_has ls 5 [(0, .ref (ad 0)), (1, .int (nI j)), (2, .int a)] := hl
  refine lv_aload_n hx hb dX6_check_0 rfl (lv_at hl 0 rfl) ?_
  refine lv_iload_n hx hb dX6_check_1 rfl (lv_at hl 1 rfl) ?_
  refine cM S (rr_isHouse1 l dg cA ad r n hn hn24 j hj _) kX6_133 ⟨rfl, rfl, Nat.le_of_ble_eq_true rfl, Nat.le_of_ble_eq_true rfl⟩ hK hP hD hS hA 0 ml_0 (q := (RX6, TX6, 31)) rfl rfl (As := [.int (nI j)]) rfl hl.1 (rest := []) rfl (Nat.le_of_ble_eq_true rfl) dX6_check_2 ⟨Nat.le_of_ble_eq_true rfl, Nat.le_of_ble_eq_true rfl⟩ (st1 := [.int 1]) rfl (fun H locs hP hD hS => ?_)
  refine lv_if_ne (tgt := 10) hx hb dX6_check_5 (by decide) (fun b5 => ?_) (fun b5 => ?_)
  · skip
    refine lv_aload_n hx hb dX6_check_10 rfl (lv_at hl 0 rfl) ?_
    refine lv_iload_n hx hb dX6_check_11 rfl (lv_at hl 2 rfl) ?_
    refine lv_iconst (v := 0) hx hb dX6_check_12 (by decide) ?_
    refine lv_bipush (v := 9) hx hb dX6_check_13 (by decide) ?_
    refine cRS S (rr_in1 l dg cA (mw cA ad (up r 0 0 0)) a 0 9 h1 h2) kX6_96 ⟨rfl, rfl, Nat.le_of_ble_eq_true rfl, Nat.le_of_ble_eq_true rfl⟩ hK hP (As := [.int a, .int 0, .int 9]) rfl hl.1 (rest := [.ref (ad 0)]) rfl (Nat.le_of_ble_eq_true rfl) dX6_check_15 ⟨Nat.le_of_ble_eq_true rfl, Nat.le_of_ble_eq_true rfl⟩ (st1 := [.int 1, .ref (ad 0)]) rfl ?_
    refine lv_if_ne (tgt := 25) hx hb dX6_check_18 (by decide) (fun b18 => ?_) (fun b18 => ?_)
    · skip
      refine lv_aload_n hx hb dX6_check_25 rfl (lv_at hl 0 rfl) ?_
      refine gf S hK hP 0 ml_0 fX6_23 (v := .ref (ad 4)) mr_4 dX6_check_26 ?_
      refine lv_iload_n hx hb dX6_check_29 rfl (lv_at hl 1 rfl) ?_
      refine ild S hK hP 4 ml_4 (j := j) (by omega) (Nat.le_of_ble_eq_true rfl) dX6_check_30 ?_
      refine lv_as (y := r 4 j) rfl ?_
      refine lv_bipush (v := 97) hx hb dX6_check_31 (by decide) ?_
      refine lv_icmp_ne (tgt := 45) hx hb dX6_check_33 (by decide) (fun b33 => ?_) (fun b33 => ?_)
      · skip
        refine lv_iconst (v := 3) hx hb dX6_check_45 (by decide) ?_
        refine lv_goto (tgt := 50) hx hb dX6_check_46 (by decide) ?_
        refine pf S hK hP hD hS 0 ml_0 fX6_90 fpX6 rfl (v := .int 3) rfl rfl (Nat.le_of_ble_eq_true rfl) ms_0_0 dX6_check_50 (fun H locs hP hD hS => ?_)
        refine lv_aload_n hx hb dX6_check_53 rfl (lv_at hl 0 rfl) ?_
        refine gf S hK hP 0 ml_0 fX6_90 (v := .int 3) (mv_0 up_at) dX6_check_54 ?_
        refine lv_if_le (tgt := 62) hx hb dX6_check_57 (by decide) (fun b57 => ?_) (fun b57 => ?_)
        · skip
          exact False.elim (by revert b57; decide)
        · skip
          refine lv_iconst (v := 0) hx hb dX6_check_60 (by decide) ?_
          exact eMz S hr hlk hP hD hS dX6_check_61 rfl up_twice_mw rfl
      · skip
        exact absurd b33 hs
    · skip
      exact absurd b18 b5
  · skip
    exact False.elim (by revert b5; decide)

set_option maxHeartbeats 4000000 in
set_option maxRecDepth 100000 in
theorem rr_check3b (l : Launch) (dg : va_G) (cA : Nat → ClassId) (ad : Nat → Nat) (r : St) (n : Nat) (hn : r 0 3 = nI n) (hn24 : n ≤ 24) (j : Nat) (hj : j < n) (a : Int32) (h1 : ¬ a < 0) (h2 : ¬ 9 < a) (hs : r 4 j = 97) (hk : ¬ r 15 j = 0) (sz : Nat) : MetM l dg cA yX6_check cX6_check 5 (some .boolean) ({ frames := 2, cells := 0, slots := 0, locals := 43 } : Room) 0 0 (mw cA ad r) sz [.ref (ad 0), .int (nI j), .int a] (mw cA ad (up r 0 0 3)) (some (.int 0)) := by
  refine ofM (by decide) (Nat.le_of_ble_eq_true rfl) (own := RX6) rfl (fun p e s0 m args below meth ccd ls A hAe S hr hlk hname hargs hK hP hD hS hA hsz hl => ?_)
  have hx := S.1
  have hb := S.2.1
  have hl : lv_has ls 5 [(0, .ref (ad 0)), (1, .int (nI j)), (2, .int a)] := hl
  refine lv_aload_n hx hb dX6_check_0 rfl (lv_at hl 0 rfl) ?_
  refine lv_iload_n hx hb dX6_check_1 rfl (lv_at hl 1 rfl) ?_
  refine cM S (rr_isHouse1 l dg cA ad r n hn hn24 j hj _) kX6_133 ⟨rfl, rfl, Nat.le_of_ble_eq_true rfl, Nat.le_of_ble_eq_true rfl⟩ hK hP hD hS hA 0 ml_0 (q := (RX6, TX6, 31)) rfl rfl (As := [.int (nI j)]) rfl hl.1 (rest := []) rfl (Nat.le_of_ble_eq_true rfl) dX6_check_2 ⟨Nat.le_of_ble_eq_true rfl, Nat.le_of_ble_eq_true rfl⟩ (st1 := [.int 1]) rfl (fun H locs hP hD hS => ?_)
  refine lv_if_ne (tgt := 10) hx hb dX6_check_5 (by decide) (fun b5 => ?_) (fun b5 => ?_)
  · skip
    refine lv_aload_n hx hb dX6_check_10 rfl (lv_at hl 0 rfl) ?_
    refine lv_iload_n hx hb dX6_check_11 rfl (lv_at hl 2 rfl) ?_
    refine lv_iconst (v := 0) hx hb dX6_check_12 (by decide) ?_
    refine lv_bipush (v := 9) hx hb dX6_check_13 (by decide) ?_
    refine cRS S (rr_in1 l dg cA (mw cA ad (up r 0 0 0)) a 0 9 h1 h2) kX6_96 ⟨rfl, rfl, Nat.le_of_ble_eq_true rfl, Nat.le_of_ble_eq_true rfl⟩ hK hP (As := [.int a, .int 0, .int 9]) rfl hl.1 (rest := [.ref (ad 0)]) rfl (Nat.le_of_ble_eq_true rfl) dX6_check_15 ⟨Nat.le_of_ble_eq_true rfl, Nat.le_of_ble_eq_true rfl⟩ (st1 := [.int 1, .ref (ad 0)]) rfl ?_
    refine lv_if_ne (tgt := 25) hx hb dX6_check_18 (by decide) (fun b18 => ?_) (fun b18 => ?_)
    · skip
      refine lv_aload_n hx hb dX6_check_25 rfl (lv_at hl 0 rfl) ?_
      refine gf S hK hP 0 ml_0 fX6_23 (v := .ref (ad 4)) mr_4 dX6_check_26 ?_
      refine lv_iload_n hx hb dX6_check_29 rfl (lv_at hl 1 rfl) ?_
      refine ild S hK hP 4 ml_4 (j := j) (by omega) (Nat.le_of_ble_eq_true rfl) dX6_check_30 ?_
      refine lv_as (y := 97) hs ?_
      refine lv_bipush (v := 97) hx hb dX6_check_31 (by decide) ?_
      refine lv_icmp_ne (tgt := 45) hx hb dX6_check_33 (by decide) (fun b33 => ?_) (fun b33 => ?_)
      · skip
        exact False.elim (by revert b33; decide)
      · skip
        refine lv_aload_n hx hb dX6_check_36 rfl (lv_at hl 0 rfl) ?_
        refine gf S hK hP 0 ml_0 fX6_57 (v := .ref (ad 15)) mr_15 dX6_check_37 ?_
        refine lv_iload_n hx hb dX6_check_40 rfl (lv_at hl 1 rfl) ?_
        refine zld S hK hP 15 ml_15 (j := j) (by omega) (Nat.le_of_ble_eq_true rfl) dX6_check_41 ?_
        refine lv_as (y := r 15 j) rfl ?_
        refine lv_if_eq (tgt := 49) hx hb dX6_check_42 (by decide) (fun b42 => ?_) (fun b42 => ?_)
        · skip
          exact absurd b42 hk
        · skip
          refine lv_iconst (v := 3) hx hb dX6_check_45 (by decide) ?_
          refine lv_goto (tgt := 50) hx hb dX6_check_46 (by decide) ?_
          refine pf S hK hP hD hS 0 ml_0 fX6_90 fpX6 rfl (v := .int 3) rfl rfl (Nat.le_of_ble_eq_true rfl) ms_0_0 dX6_check_50 (fun H locs hP hD hS => ?_)
          refine lv_aload_n hx hb dX6_check_53 rfl (lv_at hl 0 rfl) ?_
          refine gf S hK hP 0 ml_0 fX6_90 (v := .int 3) (mv_0 up_at) dX6_check_54 ?_
          refine lv_if_le (tgt := 62) hx hb dX6_check_57 (by decide) (fun b57 => ?_) (fun b57 => ?_)
          · skip
            exact False.elim (by revert b57; decide)
          · skip
            refine lv_iconst (v := 0) hx hb dX6_check_60 (by decide) ?_
            exact eMz S hr hlk hP hD hS dX6_check_61 rfl up_twice_mw rfl
    · skip
      exact absurd b18 b5
  · skip
    exact False.elim (by revert b5; decide)

set_option maxHeartbeats 4000000 in
set_option maxRecDepth 100000 in
theorem rr_check_s (l : Launch) (dg : va_G) (cA : Nat → ClassId) (ad : Nat → Nat) (r : St) (n : Nat) (hn : r 0 3 = nI n) (hn24 : n ≤ 24) (j : Nat) (hj : j < n) (a : Int32) (h1 : ¬ a < 0) (h2 : ¬ 9 < a) (hs : r 4 j = 97) (hk : r 15 j = 0) (hd : r 10 j = a) (sz : Nat) : MetM l dg cA yX6_check cX6_check 5 (some .boolean) ({ frames := 2, cells := 0, slots := 0, locals := 43 } : Room) 0 0 (mw cA ad r) sz [.ref (ad 0), .int (nI j), .int a] (mw cA ad (up (up r 0 0 0) 15 j 1)) (some (.int 1)) := by
  refine ofM (by decide) (Nat.le_of_ble_eq_true rfl) (own := RX6) rfl (fun p e s0 m args below meth ccd ls A hAe S hr hlk hname hargs hK hP hD hS hA hsz hl => ?_)
  have hx := S.1
  have hb := S.2.1
  have hl : lv_has ls 5 [(0, .ref (ad 0)), (1, .int (nI j)), (2, .int a)] := hl
  refine lv_aload_n hx hb dX6_check_0 rfl (lv_at hl 0 rfl) ?_
  refine lv_iload_n hx hb dX6_check_1 rfl (lv_at hl 1 rfl) ?_
  refine cM S (rr_isHouse1 l dg cA ad r n hn hn24 j hj _) kX6_133 ⟨rfl, rfl, Nat.le_of_ble_eq_true rfl, Nat.le_of_ble_eq_true rfl⟩ hK hP hD hS hA 0 ml_0 (q := (RX6, TX6, 31)) rfl rfl (As := [.int (nI j)]) rfl hl.1 (rest := []) rfl (Nat.le_of_ble_eq_true rfl) dX6_check_2 ⟨Nat.le_of_ble_eq_true rfl, Nat.le_of_ble_eq_true rfl⟩ (st1 := [.int 1]) rfl (fun H locs hP hD hS => ?_)
  refine lv_if_ne (tgt := 10) hx hb dX6_check_5 (by decide) (fun b5 => ?_) (fun b5 => ?_)
  · skip
    refine lv_aload_n hx hb dX6_check_10 rfl (lv_at hl 0 rfl) ?_
    refine lv_iload_n hx hb dX6_check_11 rfl (lv_at hl 2 rfl) ?_
    refine lv_iconst (v := 0) hx hb dX6_check_12 (by decide) ?_
    refine lv_bipush (v := 9) hx hb dX6_check_13 (by decide) ?_
    refine cRS S (rr_in1 l dg cA (mw cA ad (up r 0 0 0)) a 0 9 h1 h2) kX6_96 ⟨rfl, rfl, Nat.le_of_ble_eq_true rfl, Nat.le_of_ble_eq_true rfl⟩ hK hP (As := [.int a, .int 0, .int 9]) rfl hl.1 (rest := [.ref (ad 0)]) rfl (Nat.le_of_ble_eq_true rfl) dX6_check_15 ⟨Nat.le_of_ble_eq_true rfl, Nat.le_of_ble_eq_true rfl⟩ (st1 := [.int 1, .ref (ad 0)]) rfl ?_
    refine lv_if_ne (tgt := 25) hx hb dX6_check_18 (by decide) (fun b18 => ?_) (fun b18 => ?_)
    · skip
      refine lv_aload_n hx hb dX6_check_25 rfl (lv_at hl 0 rfl) ?_
      refine gf S hK hP 0 ml_0 fX6_23 (v := .ref (ad 4)) mr_4 dX6_check_26 ?_
      refine lv_iload_n hx hb dX6_check_29 rfl (lv_at hl 1 rfl) ?_
      refine ild S hK hP 4 ml_4 (j := j) (by omega) (Nat.le_of_ble_eq_true rfl) dX6_check_30 ?_
      refine lv_as (y := 97) hs ?_
      refine lv_bipush (v := 97) hx hb dX6_check_31 (by decide) ?_
      refine lv_icmp_ne (tgt := 45) hx hb dX6_check_33 (by decide) (fun b33 => ?_) (fun b33 => ?_)
      · skip
        exact False.elim (by revert b33; decide)
      · skip
        refine lv_aload_n hx hb dX6_check_36 rfl (lv_at hl 0 rfl) ?_
        refine gf S hK hP 0 ml_0 fX6_57 (v := .ref (ad 15)) mr_15 dX6_check_37 ?_
        refine lv_iload_n hx hb dX6_check_40 rfl (lv_at hl 1 rfl) ?_
        refine zld S hK hP 15 ml_15 (j := j) (by omega) (Nat.le_of_ble_eq_true rfl) dX6_check_41 ?_
        refine lv_as (y := 0) hk ?_
        refine lv_if_eq (tgt := 49) hx hb dX6_check_42 (by decide) (fun b42 => ?_) (fun b42 => ?_)
        · skip
          refine lv_iconst (v := 0) hx hb dX6_check_49 (by decide) ?_
          refine pf S hK hP hD hS 0 ml_0 fX6_90 fpX6 rfl (v := .int 0) rfl rfl (Nat.le_of_ble_eq_true rfl) ms_0_0 dX6_check_50 (fun H locs hP hD hS => ?_)
          refine lv_aload_n hx hb dX6_check_53 rfl (lv_at hl 0 rfl) ?_
          refine gf S hK hP 0 ml_0 fX6_90 (v := .int 0) (mv_0 up_at) dX6_check_54 ?_
          refine lv_if_le (tgt := 62) hx hb dX6_check_57 (by decide) (fun b57 => ?_) (fun b57 => ?_)
          · skip
            refine lv_aload_n hx hb dX6_check_62 rfl (lv_at hl 0 rfl) ?_
            refine gf S hK hP 0 ml_0 fX6_57 (v := .ref (ad 15)) mr_15 dX6_check_63 ?_
            refine lv_iload_n hx hb dX6_check_66 rfl (lv_at hl 1 rfl) ?_
            refine lv_iconst (v := 1) hx hb dX6_check_67 (by decide) ?_
            refine zst S hK hP hD hS 15 ml_15 (j := j) (x := 1) (by omega) (Nat.le_of_ble_eq_true rfl) rfl ms_15 dX6_check_68 (fun H locs hP hD hS => ?_)
            refine lv_aload_n hx hb dX6_check_69 rfl (lv_at hl 0 rfl) ?_
            refine gf S hK hP 0 ml_0 fX6_41 (v := .ref (ad 10)) mr_10 dX6_check_70 ?_
            refine lv_iload_n hx hb dX6_check_73 rfl (lv_at hl 1 rfl) ?_
            refine ild S hK hP 10 ml_10 (j := j) (by omega) (Nat.le_of_ble_eq_true rfl) dX6_check_74 ?_
            refine lv_as (y := r 10 j) rfl ?_
            refine lv_iload_n hx hb dX6_check_75 rfl (lv_at hl 2 rfl) ?_
            refine lv_icmp_ne (tgt := 81) hx hb dX6_check_76 (by decide) (fun b76 => ?_) (fun b76 => ?_)
            · skip
              exact absurd hd b76
            · skip
              refine lv_iconst (v := 1) hx hb dX6_check_79 (by decide) ?_
              exact eMz S hr hlk hP hD hS dX6_check_80 rfl (by rw [up_twice]) rfl
          · skip
            exact False.elim (by revert b57; decide)
        · skip
          exact False.elim (by revert b42; decide)
    · skip
      exact absurd b18 b5
  · skip
    exact False.elim (by revert b5; decide)

set_option maxHeartbeats 4000000 in
set_option maxRecDepth 100000 in
theorem rr_check_d1 (l : Launch) (dg : va_G) (cA : Nat → ClassId) (ad : Nat → Nat) (r : St) (n : Nat) (hn : r 0 3 = nI n) (hn24 : n ≤ 24) (j : Nat) (hj : j < n) (a : Int32) (h1 : ¬ a < 0) (h2 : ¬ 9 < a) (hs : r 4 j = 97) (hk : r 15 j = 0) (hd : ¬ r 10 j = a) (i : Nat) (hi4 : i < 4) (hi : r 11 j = nI i) (hf : ¬ r 25 i + 1 = 2) (sz : Nat) : MetM l dg cA yX6_check cX6_check 5 (some .boolean) ({ frames := 2, cells := 0, slots := 0, locals := 43 } : Room) 0 0 (mw cA ad r) sz [.ref (ad 0), .int (nI j), .int a] (mw cA ad (up (up (up r 0 0 0) 15 j 1) 25 i (r 25 i + 1))) (some (.int 0)) := by
  refine ofM (by decide) (Nat.le_of_ble_eq_true rfl) (own := RX6) rfl (fun p e s0 m args below meth ccd ls A hAe S hr hlk hname hargs hK hP hD hS hA hsz hl => ?_)
  have hx := S.1
  have hb := S.2.1
  have hl : lv_has ls 5 [(0, .ref (ad 0)), (1, .int (nI j)), (2, .int a)] := hl
  refine lv_aload_n hx hb dX6_check_0 rfl (lv_at hl 0 rfl) ?_
  refine lv_iload_n hx hb dX6_check_1 rfl (lv_at hl 1 rfl) ?_
  refine cM S (rr_isHouse1 l dg cA ad r n hn hn24 j hj _) kX6_133 ⟨rfl, rfl, Nat.le_of_ble_eq_true rfl, Nat.le_of_ble_eq_true rfl⟩ hK hP hD hS hA 0 ml_0 (q := (RX6, TX6, 31)) rfl rfl (As := [.int (nI j)]) rfl hl.1 (rest := []) rfl (Nat.le_of_ble_eq_true rfl) dX6_check_2 ⟨Nat.le_of_ble_eq_true rfl, Nat.le_of_ble_eq_true rfl⟩ (st1 := [.int 1]) rfl (fun H locs hP hD hS => ?_)
  refine lv_if_ne (tgt := 10) hx hb dX6_check_5 (by decide) (fun b5 => ?_) (fun b5 => ?_)
  · skip
    refine lv_aload_n hx hb dX6_check_10 rfl (lv_at hl 0 rfl) ?_
    refine lv_iload_n hx hb dX6_check_11 rfl (lv_at hl 2 rfl) ?_
    refine lv_iconst (v := 0) hx hb dX6_check_12 (by decide) ?_
    refine lv_bipush (v := 9) hx hb dX6_check_13 (by decide) ?_
    refine cRS S (rr_in1 l dg cA (mw cA ad (up r 0 0 0)) a 0 9 h1 h2) kX6_96 ⟨rfl, rfl, Nat.le_of_ble_eq_true rfl, Nat.le_of_ble_eq_true rfl⟩ hK hP (As := [.int a, .int 0, .int 9]) rfl hl.1 (rest := [.ref (ad 0)]) rfl (Nat.le_of_ble_eq_true rfl) dX6_check_15 ⟨Nat.le_of_ble_eq_true rfl, Nat.le_of_ble_eq_true rfl⟩ (st1 := [.int 1, .ref (ad 0)]) rfl ?_
    refine lv_if_ne (tgt := 25) hx hb dX6_check_18 (by decide) (fun b18 => ?_) (fun b18 => ?_)
    · skip
      refine lv_aload_n hx hb dX6_check_25 rfl (lv_at hl 0 rfl) ?_
      refine gf S hK hP 0 ml_0 fX6_23 (v := .ref (ad 4)) mr_4 dX6_check_26 ?_
      refine lv_iload_n hx hb dX6_check_29 rfl (lv_at hl 1 rfl) ?_
      refine ild S hK hP 4 ml_4 (j := j) (by omega) (Nat.le_of_ble_eq_true rfl) dX6_check_30 ?_
      refine lv_as (y := 97) hs ?_
      refine lv_bipush (v := 97) hx hb dX6_check_31 (by decide) ?_
      refine lv_icmp_ne (tgt := 45) hx hb dX6_check_33 (by decide) (fun b33 => ?_) (fun b33 => ?_)
      · skip
        exact False.elim (by revert b33; decide)
      · skip
        refine lv_aload_n hx hb dX6_check_36 rfl (lv_at hl 0 rfl) ?_
        refine gf S hK hP 0 ml_0 fX6_57 (v := .ref (ad 15)) mr_15 dX6_check_37 ?_
        refine lv_iload_n hx hb dX6_check_40 rfl (lv_at hl 1 rfl) ?_
        refine zld S hK hP 15 ml_15 (j := j) (by omega) (Nat.le_of_ble_eq_true rfl) dX6_check_41 ?_
        refine lv_as (y := 0) hk ?_
        refine lv_if_eq (tgt := 49) hx hb dX6_check_42 (by decide) (fun b42 => ?_) (fun b42 => ?_)
        · skip
          refine lv_iconst (v := 0) hx hb dX6_check_49 (by decide) ?_
          refine pf S hK hP hD hS 0 ml_0 fX6_90 fpX6 rfl (v := .int 0) rfl rfl (Nat.le_of_ble_eq_true rfl) ms_0_0 dX6_check_50 (fun H locs hP hD hS => ?_)
          refine lv_aload_n hx hb dX6_check_53 rfl (lv_at hl 0 rfl) ?_
          refine gf S hK hP 0 ml_0 fX6_90 (v := .int 0) (mv_0 up_at) dX6_check_54 ?_
          refine lv_if_le (tgt := 62) hx hb dX6_check_57 (by decide) (fun b57 => ?_) (fun b57 => ?_)
          · skip
            refine lv_aload_n hx hb dX6_check_62 rfl (lv_at hl 0 rfl) ?_
            refine gf S hK hP 0 ml_0 fX6_57 (v := .ref (ad 15)) mr_15 dX6_check_63 ?_
            refine lv_iload_n hx hb dX6_check_66 rfl (lv_at hl 1 rfl) ?_
            refine lv_iconst (v := 1) hx hb dX6_check_67 (by decide) ?_
            refine zst S hK hP hD hS 15 ml_15 (j := j) (x := 1) (by omega) (Nat.le_of_ble_eq_true rfl) rfl ms_15 dX6_check_68 (fun H locs hP hD hS => ?_)
            refine lv_aload_n hx hb dX6_check_69 rfl (lv_at hl 0 rfl) ?_
            refine gf S hK hP 0 ml_0 fX6_41 (v := .ref (ad 10)) mr_10 dX6_check_70 ?_
            refine lv_iload_n hx hb dX6_check_73 rfl (lv_at hl 1 rfl) ?_
            refine ild S hK hP 10 ml_10 (j := j) (by omega) (Nat.le_of_ble_eq_true rfl) dX6_check_74 ?_
            refine lv_as (y := r 10 j) rfl ?_
            refine lv_iload_n hx hb dX6_check_75 rfl (lv_at hl 2 rfl) ?_
            refine lv_icmp_ne (tgt := 81) hx hb dX6_check_76 (by decide) (fun b76 => ?_) (fun b76 => ?_)
            · skip
              refine lv_aload_n hx hb dX6_check_81 rfl (lv_at hl 0 rfl) ?_
              refine gf S hK hP 0 ml_0 fX6_44 (v := .ref (ad 11)) mr_11 dX6_check_82 ?_
              refine lv_iload_n hx hb dX6_check_85 rfl (lv_at hl 1 rfl) ?_
              refine ild S hK hP 11 ml_11 (j := j) (by omega) (Nat.le_of_ble_eq_true rfl) dX6_check_86 ?_
              refine lv_as (y := nI i) hi ?_
              refine lv_istore_n (lv' := [(3, .int (nI i)), (0, .ref (ad 0)), (1, .int (nI j)), (2, .int a)]) hx hb dX6_check_87 rfl hl (by decide) rfl (fun ls hl => ?_)
              refine lv_aload_n hx hb dX6_check_88 rfl (lv_at hl 1 rfl) ?_
              refine gf S hK hP 0 ml_0 fX6_87 (v := .ref (ad 25)) mr_25 dX6_check_89 ?_
              refine lv_iload_n hx hb dX6_check_92 rfl (lv_at hl 0 rfl) ?_
              refine lv_dup2_11 hx hb dX6_check_93 rfl rfl ?_
              refine ild S hK hP 25 ml_25 (j := i) (by omega) (Nat.le_of_ble_eq_true rfl) dX6_check_94 ?_
              refine lv_as (y := r 25 i) rfl ?_
              refine lv_iconst (v := 1) hx hb dX6_check_95 (by decide) ?_
              refine lv_iadd hx hb dX6_check_96 ?_
              refine ist S hK hP hD hS 25 ml_25 (j := i) (x := (r 25 i) + 1) (by omega) (Nat.le_of_ble_eq_true rfl) ms_25 dX6_check_97 (fun H locs hP hD hS => ?_)
              refine lv_iconst (v := 0) hx hb dX6_check_98 (by decide) ?_
              refine lv_istore (lv' := [(4, .int 0), (3, .int (nI i)), (0, .ref (ad 0)), (1, .int (nI j)), (2, .int a)]) hx hb dX6_check_99 hl (by decide) rfl (fun ls hl => ?_)
              have hL101 : ∀ (f : Nat) (q : Nat), n - q < f → (q ≤ n) → ∀ ls, lv_has ls 5 [(0, .ref (ad 0)), (1, .int (nI j)), (2, .int a), (3, .int (nI i)), (4, .int (nI q))] → ∀ (H : Heap) (locs : List Loc), PP dg (mw cA ad (up (up (up r 0 0 0) 15 j 1) 25 i (r 25 i + 1))) H → va_D A (mw cA ad (up (up (up r 0 0 0) 15 j 1) 25 i (r 25 i + 1))) → va_S A s0.heap H locs → W p l e ({ frames := 2, cells := 0, slots := 0, locals := 43 } : Room) s0 m args below meth ccd H locs 0 0 (MQ below (QcM dg (mw cA ad (up (up (up r 0 0 0) 15 j 1) 25 i (r 25 i + 1))) (some (.int 0)) A) args s0 0 0 A) (F0 m 101 ls []) := by
                intro f
                induction f with
                | zero => intro q hm; exact absurd hm (Nat.not_lt_zero _)
                | succ f ih101 =>
                  intro q hm101 hq ls hl H locs hP hD hS
                  refine lv_iload hx hb dX6_check_101 (lv_at hl 4 rfl) ?_
                  refine lv_aload_n hx hb dX6_check_103 rfl (lv_at hl 0 rfl) ?_
                  refine gf S hK hP 0 ml_0 fX6_93 (v := .int (nI n)) (mv_3 hn) dX6_check_104 ?_
                  refine lv_icmp_ge (tgt := 174) hx hb dX6_check_107 (by decide) (fun b107 => ?_) (fun b107 => ?_)
                  · skip
                    have g107 : n ≤ q := (nI_leI (a := n) (b := q) (by omega) (by omega)).mp b107
                    refine lv_iconst (v := 0) hx hb dX6_check_174 (by decide) ?_
                    exact eMz S hr hlk hP hD hS dX6_check_175 rfl rfl rfl
                  · skip
                    have g107 : ¬ n ≤ q := fun zz => b107 ((nI_leI (a := n) (b := q) (by omega) (by omega)).mpr zz)
                    refine lv_aload_n hx hb dX6_check_110 rfl (lv_at hl 0 rfl) ?_
                    refine gf S hK hP 0 ml_0 fX6_87 (v := .ref (ad 25)) mr_25 dX6_check_111 ?_
                    refine lv_iload_n hx hb dX6_check_114 rfl (lv_at hl 3 rfl) ?_
                    refine ild S hK hP 25 ml_25 (j := i) (by omega) (Nat.le_of_ble_eq_true rfl) dX6_check_115 ?_
                    refine lv_as (y := (r 25 i + 1)) up_at ?_
                    refine lv_iconst (v := 2) hx hb dX6_check_116 (by decide) ?_
                    refine lv_icmp_ne (tgt := 174) hx hb dX6_check_117 (by decide) (fun b117 => ?_) (fun b117 => ?_)
                    · skip
                      refine lv_iconst (v := 0) hx hb dX6_check_174 (by decide) ?_
                      exact eMz S hr hlk hP hD hS dX6_check_175 rfl rfl rfl
                    · skip
                      exact absurd b117 hf
              have es : (mw cA ad (up (up (up (up r 0 0 0) 0 0 0) 15 j 1) 25 i ((r 25 i) + 1))) = (mw cA ad (up (up (up r 0 0 0) 15 j 1) 25 i (r 25 i + 1))) := by rw [up_twice]
              rw [es] at hP hD
              exact hL101 _ 0 (Nat.lt_succ_self _) (Nat.zero_le _) ls (lv_cast (lv_sub (l' := [(0, .ref (ad 0)), (1, .int (nI j)), (2, .int a), (3, .int (nI i)), (4, .int 0)]) hl [2, 3, 4, 1, 0] rfl) (by rfl)) _ _ hP hD hS
            · skip
              exact absurd b76 hd
          · skip
            exact False.elim (by revert b57; decide)
        · skip
          exact False.elim (by revert b42; decide)
    · skip
      exact absurd b18 b5
  · skip
    exact False.elim (by revert b5; decide)

set_option maxHeartbeats 4000000 in
set_option maxRecDepth 100000 in
theorem rr_check_d2 (l : Launch) (dg : va_G) (cA : Nat → ClassId) (ad : Nat → Nat) (r : St) (n : Nat) (hn : r 0 3 = nI n) (hn24 : n ≤ 24) (j : Nat) (hj : j < n) (a : Int32) (h1 : ¬ a < 0) (h2 : ¬ 9 < a) (hs : r 4 j = 97) (hk : r 15 j = 0) (hd : ¬ r 10 j = a) (i : Nat) (hi4 : i < 4) (hi : r 11 j = nI i) (hf : r 25 i + 1 = 2) (sz : Nat) : MetM l dg cA yX6_check cX6_check 5 (some .boolean) ({ frames := 2, cells := 0, slots := 0, locals := 43 } : Room) 0 0 (mw cA ad r) sz [.ref (ad 0), .int (nI j), .int a] (mw cA ad (m_bar (up (up (up r 0 0 0) 15 j 1) 25 i (r 25 i + 1)) i n)) (some (.int 0)) := by
  refine ofM (by decide) (Nat.le_of_ble_eq_true rfl) (own := RX6) rfl (fun p e s0 m args below meth ccd ls A hAe S hr hlk hname hargs hK hP hD hS hA hsz hl => ?_)
  have hx := S.1
  have hb := S.2.1
  have hl : lv_has ls 5 [(0, .ref (ad 0)), (1, .int (nI j)), (2, .int a)] := hl
  refine lv_aload_n hx hb dX6_check_0 rfl (lv_at hl 0 rfl) ?_
  refine lv_iload_n hx hb dX6_check_1 rfl (lv_at hl 1 rfl) ?_
  refine cM S (rr_isHouse1 l dg cA ad r n hn hn24 j hj _) kX6_133 ⟨rfl, rfl, Nat.le_of_ble_eq_true rfl, Nat.le_of_ble_eq_true rfl⟩ hK hP hD hS hA 0 ml_0 (q := (RX6, TX6, 31)) rfl rfl (As := [.int (nI j)]) rfl hl.1 (rest := []) rfl (Nat.le_of_ble_eq_true rfl) dX6_check_2 ⟨Nat.le_of_ble_eq_true rfl, Nat.le_of_ble_eq_true rfl⟩ (st1 := [.int 1]) rfl (fun H locs hP hD hS => ?_)
  refine lv_if_ne (tgt := 10) hx hb dX6_check_5 (by decide) (fun b5 => ?_) (fun b5 => ?_)
  · skip
    refine lv_aload_n hx hb dX6_check_10 rfl (lv_at hl 0 rfl) ?_
    refine lv_iload_n hx hb dX6_check_11 rfl (lv_at hl 2 rfl) ?_
    refine lv_iconst (v := 0) hx hb dX6_check_12 (by decide) ?_
    refine lv_bipush (v := 9) hx hb dX6_check_13 (by decide) ?_
    refine cRS S (rr_in1 l dg cA (mw cA ad (up r 0 0 0)) a 0 9 h1 h2) kX6_96 ⟨rfl, rfl, Nat.le_of_ble_eq_true rfl, Nat.le_of_ble_eq_true rfl⟩ hK hP (As := [.int a, .int 0, .int 9]) rfl hl.1 (rest := [.ref (ad 0)]) rfl (Nat.le_of_ble_eq_true rfl) dX6_check_15 ⟨Nat.le_of_ble_eq_true rfl, Nat.le_of_ble_eq_true rfl⟩ (st1 := [.int 1, .ref (ad 0)]) rfl ?_
    refine lv_if_ne (tgt := 25) hx hb dX6_check_18 (by decide) (fun b18 => ?_) (fun b18 => ?_)
    · skip
      refine lv_aload_n hx hb dX6_check_25 rfl (lv_at hl 0 rfl) ?_
      refine gf S hK hP 0 ml_0 fX6_23 (v := .ref (ad 4)) mr_4 dX6_check_26 ?_
      refine lv_iload_n hx hb dX6_check_29 rfl (lv_at hl 1 rfl) ?_
      refine ild S hK hP 4 ml_4 (j := j) (by omega) (Nat.le_of_ble_eq_true rfl) dX6_check_30 ?_
      refine lv_as (y := 97) hs ?_
      refine lv_bipush (v := 97) hx hb dX6_check_31 (by decide) ?_
      refine lv_icmp_ne (tgt := 45) hx hb dX6_check_33 (by decide) (fun b33 => ?_) (fun b33 => ?_)
      · skip
        exact False.elim (by revert b33; decide)
      · skip
        refine lv_aload_n hx hb dX6_check_36 rfl (lv_at hl 0 rfl) ?_
        refine gf S hK hP 0 ml_0 fX6_57 (v := .ref (ad 15)) mr_15 dX6_check_37 ?_
        refine lv_iload_n hx hb dX6_check_40 rfl (lv_at hl 1 rfl) ?_
        refine zld S hK hP 15 ml_15 (j := j) (by omega) (Nat.le_of_ble_eq_true rfl) dX6_check_41 ?_
        refine lv_as (y := 0) hk ?_
        refine lv_if_eq (tgt := 49) hx hb dX6_check_42 (by decide) (fun b42 => ?_) (fun b42 => ?_)
        · skip
          refine lv_iconst (v := 0) hx hb dX6_check_49 (by decide) ?_
          refine pf S hK hP hD hS 0 ml_0 fX6_90 fpX6 rfl (v := .int 0) rfl rfl (Nat.le_of_ble_eq_true rfl) ms_0_0 dX6_check_50 (fun H locs hP hD hS => ?_)
          refine lv_aload_n hx hb dX6_check_53 rfl (lv_at hl 0 rfl) ?_
          refine gf S hK hP 0 ml_0 fX6_90 (v := .int 0) (mv_0 up_at) dX6_check_54 ?_
          refine lv_if_le (tgt := 62) hx hb dX6_check_57 (by decide) (fun b57 => ?_) (fun b57 => ?_)
          · skip
            refine lv_aload_n hx hb dX6_check_62 rfl (lv_at hl 0 rfl) ?_
            refine gf S hK hP 0 ml_0 fX6_57 (v := .ref (ad 15)) mr_15 dX6_check_63 ?_
            refine lv_iload_n hx hb dX6_check_66 rfl (lv_at hl 1 rfl) ?_
            refine lv_iconst (v := 1) hx hb dX6_check_67 (by decide) ?_
            refine zst S hK hP hD hS 15 ml_15 (j := j) (x := 1) (by omega) (Nat.le_of_ble_eq_true rfl) rfl ms_15 dX6_check_68 (fun H locs hP hD hS => ?_)
            refine lv_aload_n hx hb dX6_check_69 rfl (lv_at hl 0 rfl) ?_
            refine gf S hK hP 0 ml_0 fX6_41 (v := .ref (ad 10)) mr_10 dX6_check_70 ?_
            refine lv_iload_n hx hb dX6_check_73 rfl (lv_at hl 1 rfl) ?_
            refine ild S hK hP 10 ml_10 (j := j) (by omega) (Nat.le_of_ble_eq_true rfl) dX6_check_74 ?_
            refine lv_as (y := r 10 j) rfl ?_
            refine lv_iload_n hx hb dX6_check_75 rfl (lv_at hl 2 rfl) ?_
            refine lv_icmp_ne (tgt := 81) hx hb dX6_check_76 (by decide) (fun b76 => ?_) (fun b76 => ?_)
            · skip
              refine lv_aload_n hx hb dX6_check_81 rfl (lv_at hl 0 rfl) ?_
              refine gf S hK hP 0 ml_0 fX6_44 (v := .ref (ad 11)) mr_11 dX6_check_82 ?_
              refine lv_iload_n hx hb dX6_check_85 rfl (lv_at hl 1 rfl) ?_
              refine ild S hK hP 11 ml_11 (j := j) (by omega) (Nat.le_of_ble_eq_true rfl) dX6_check_86 ?_
              refine lv_as (y := nI i) hi ?_
              refine lv_istore_n (lv' := [(3, .int (nI i)), (0, .ref (ad 0)), (1, .int (nI j)), (2, .int a)]) hx hb dX6_check_87 rfl hl (by decide) rfl (fun ls hl => ?_)
              refine lv_aload_n hx hb dX6_check_88 rfl (lv_at hl 1 rfl) ?_
              refine gf S hK hP 0 ml_0 fX6_87 (v := .ref (ad 25)) mr_25 dX6_check_89 ?_
              refine lv_iload_n hx hb dX6_check_92 rfl (lv_at hl 0 rfl) ?_
              refine lv_dup2_11 hx hb dX6_check_93 rfl rfl ?_
              refine ild S hK hP 25 ml_25 (j := i) (by omega) (Nat.le_of_ble_eq_true rfl) dX6_check_94 ?_
              refine lv_as (y := r 25 i) rfl ?_
              refine lv_iconst (v := 1) hx hb dX6_check_95 (by decide) ?_
              refine lv_iadd hx hb dX6_check_96 ?_
              refine ist S hK hP hD hS 25 ml_25 (j := i) (x := (r 25 i) + 1) (by omega) (Nat.le_of_ble_eq_true rfl) ms_25 dX6_check_97 (fun H locs hP hD hS => ?_)
              refine lv_iconst (v := 0) hx hb dX6_check_98 (by decide) ?_
              refine lv_istore (lv' := [(4, .int 0), (3, .int (nI i)), (0, .ref (ad 0)), (1, .int (nI j)), (2, .int a)]) hx hb dX6_check_99 hl (by decide) rfl (fun ls hl => ?_)
              have hL101 : ∀ (f : Nat) (q : Nat), n - q < f → (q ≤ n) → ∀ ls, lv_has ls 5 [(0, .ref (ad 0)), (1, .int (nI j)), (2, .int a), (3, .int (nI i)), (4, .int (nI q))] → ∀ (H : Heap) (locs : List Loc), PP dg (mw cA ad (m_bar (up (up (up r 0 0 0) 15 j 1) 25 i (r 25 i + 1)) i q)) H → va_D A (mw cA ad (m_bar (up (up (up r 0 0 0) 15 j 1) 25 i (r 25 i + 1)) i q)) → va_S A s0.heap H locs → W p l e ({ frames := 2, cells := 0, slots := 0, locals := 43 } : Room) s0 m args below meth ccd H locs 0 0 (MQ below (QcM dg (mw cA ad (m_bar (up (up (up r 0 0 0) 15 j 1) 25 i (r 25 i + 1)) i n)) (some (.int 0)) A) args s0 0 0 A) (F0 m 101 ls []) := by
                intro f
                induction f with
                | zero => intro q hm; exact absurd hm (Nat.not_lt_zero _)
                | succ f ih101 =>
                  intro q hm101 hq ls hl H locs hP hD hS
                  refine lv_iload hx hb dX6_check_101 (lv_at hl 4 rfl) ?_
                  refine lv_aload_n hx hb dX6_check_103 rfl (lv_at hl 0 rfl) ?_
                  refine gf S hK hP 0 ml_0 fX6_93 (v := .int (nI n)) (mv_3 (show m_bar (up (up (up r 0 0 0) 15 j 1) 25 i (r 25 i + 1)) i q 0 3 = nI n by rw [m_bar_row _ _ (by decide) (by decide)]; exact hn)) dX6_check_104 ?_
                  refine lv_icmp_ge (tgt := 174) hx hb dX6_check_107 (by decide) (fun b107 => ?_) (fun b107 => ?_)
                  · skip
                    have g107 : n ≤ q := (nI_leI (a := n) (b := q) (by omega) (by omega)).mp b107
                    refine lv_iconst (v := 0) hx hb dX6_check_174 (by decide) ?_
                    exact eMz S hr hlk hP hD hS dX6_check_175 rfl (by rw [show q = n by omega]) rfl
                  · skip
                    have g107 : ¬ n ≤ q := fun zz => b107 ((nI_leI (a := n) (b := q) (by omega) (by omega)).mpr zz)
                    refine lv_aload_n hx hb dX6_check_110 rfl (lv_at hl 0 rfl) ?_
                    refine gf S hK hP 0 ml_0 fX6_87 (v := .ref (ad 25)) mr_25 dX6_check_111 ?_
                    refine lv_iload_n hx hb dX6_check_114 rfl (lv_at hl 3 rfl) ?_
                    refine ild S hK hP 25 ml_25 (j := i) (by omega) (Nat.le_of_ble_eq_true rfl) dX6_check_115 ?_
                    refine lv_as (y := r 25 i + 1) (show m_bar (up (up (up r 0 0 0) 15 j 1) 25 i (r 25 i + 1)) i q 25 i = r 25 i + 1 by rw [m_bar_row _ _ (by decide) (by decide)]; exact up_at) ?_
                    refine lv_iconst (v := 2) hx hb dX6_check_116 (by decide) ?_
                    refine lv_icmp_ne (tgt := 174) hx hb dX6_check_117 (by decide) (fun b117 => ?_) (fun b117 => ?_)
                    · skip
                      exact absurd hf b117
                    · skip
                      refine lv_aload_n hx hb dX6_check_120 rfl (lv_at hl 0 rfl) ?_
                      refine gf S hK hP 0 ml_0 fX6_23 (v := .ref (ad 4)) mr_4 dX6_check_121 ?_
                      refine lv_iload hx hb dX6_check_124 (lv_at hl 4 rfl) ?_
                      refine ild S hK hP 4 ml_4 (j := q) (by omega) (Nat.le_of_ble_eq_true rfl) dX6_check_126 ?_
                      refine lv_as (y := (m_bar (up (up (up r 0 0 0) 15 j 1) 25 i (r 25 i + 1)) i q) 4 q) rfl ?_
                      refine lv_bipush (v := 97) hx hb dX6_check_127 (by decide) ?_
                      refine lv_icmp_ne (tgt := 168) hx hb dX6_check_129 (by decide) (fun b129 => ?_) (fun b129 => ?_)
                      · skip
                        refine lv_iinc (v := nI (q + 1)) (lv' := [(4, .int (nI (q + 1))), (0, .ref (ad 0)), (1, .int (nI j)), (2, .int a), (3, .int (nI i))]) hx hb dX6_check_168 hl (k := 4) rfl (nI_1 q) (by decide) rfl (fun ls hl => ?_)
                        refine lv_goto (tgt := 101) hx hb dX6_check_171 (by decide) ?_
                        have es : (mw cA ad (m_bar (up (up (up r 0 0 0) 15 j 1) 25 i (r 25 i + 1)) i q)) = (mw cA ad (m_bar (up (up (up r 0 0 0) 15 j 1) 25 i (r 25 i + 1)) i (q + 1))) := by simp [m_bar, b129] <;> rfl
                        rw [es] at hP hD
                        exact ih101 (q + 1) (by omega) (by omega) ls (lv_sub hl [1, 2, 3, 4, 0] rfl) _ _ hP hD hS
                      · skip
                        refine lv_aload_n hx hb dX6_check_132 rfl (lv_at hl 0 rfl) ?_
                        refine gf S hK hP 0 ml_0 fX6_44 (v := .ref (ad 11)) mr_11 dX6_check_133 ?_
                        refine lv_iload hx hb dX6_check_136 (lv_at hl 4 rfl) ?_
                        refine ild S hK hP 11 ml_11 (j := q) (by omega) (Nat.le_of_ble_eq_true rfl) dX6_check_138 ?_
                        refine lv_as (y := (m_bar (up (up (up r 0 0 0) 15 j 1) 25 i (r 25 i + 1)) i q) 11 q) rfl ?_
                        refine lv_iload_n hx hb dX6_check_139 rfl (lv_at hl 3 rfl) ?_
                        refine lv_icmp_eq (tgt := 146) hx hb dX6_check_140 (by decide) (fun b140 => ?_) (fun b140 => ?_)
                        · skip
                          refine lv_aload_n hx hb dX6_check_146 rfl (lv_at hl 0 rfl) ?_
                          refine gf S hK hP 0 ml_0 fX6_23 (v := .ref (ad 4)) mr_4 dX6_check_147 ?_
                          refine lv_iload hx hb dX6_check_150 (lv_at hl 4 rfl) ?_
                          refine lv_bipush (v := 119) hx hb dX6_check_152 (by decide) ?_
                          refine ist S hK hP hD hS 4 ml_4 (j := q) (x := 119) (by omega) (Nat.le_of_ble_eq_true rfl) ms_4 dX6_check_154 (fun H locs hP hD hS => ?_)
                          refine lv_aload_n hx hb dX6_check_155 rfl (lv_at hl 0 rfl) ?_
                          refine gf S hK hP 0 ml_0 fX6_26 (v := .ref (ad 5)) mr_5 dX6_check_156 ?_
                          refine lv_iload hx hb dX6_check_159 (lv_at hl 4 rfl) ?_
                          refine lv_aload_n hx hb dX6_check_161 rfl (lv_at hl 0 rfl) ?_
                          refine gf S hK hP 0 ml_0 fX6_115 (v := .int (r 0 5)) (mv_5 (show m_bar (up (up (up r 0 0 0) 15 j 1) 25 i (r 25 i + 1)) i q 0 5 = r 0 5 by rw [m_bar_row _ _ (by decide) (by decide)]; rfl)) dX6_check_162 ?_
                          refine lv_iconst (v := 1) hx hb dX6_check_165 (by decide) ?_
                          refine lv_iadd hx hb dX6_check_166 ?_
                          refine ist S hK hP hD hS 5 ml_5 (j := q) (x := (r 0 5) + 1) (by omega) (Nat.le_of_ble_eq_true rfl) ms_5 dX6_check_167 (fun H locs hP hD hS => ?_)
                          refine lv_iinc (v := nI (q + 1)) (lv' := [(4, .int (nI (q + 1))), (0, .ref (ad 0)), (1, .int (nI j)), (2, .int a), (3, .int (nI i))]) hx hb dX6_check_168 hl (k := 4) rfl (nI_1 q) (by decide) rfl (fun ls hl => ?_)
                          refine lv_goto (tgt := 101) hx hb dX6_check_171 (by decide) ?_
                          have es : (mw cA ad (up (up (m_bar (up (up (up r 0 0 0) 15 j 1) 25 i (r 25 i + 1)) i q) 4 q 119) 5 q ((r 0 5) + 1))) = (mw cA ad (m_bar (up (up (up r 0 0 0) 15 j 1) 25 i (r 25 i + 1)) i (q + 1))) := by simp [m_bar, b129, b140] <;> rfl
                          rw [es] at hP hD
                          exact ih101 (q + 1) (by omega) (by omega) ls (lv_sub hl [1, 2, 3, 4, 0] rfl) _ _ hP hD hS
                        · skip
                          refine lv_goto (tgt := 168) hx hb dX6_check_143 (by decide) ?_
                          refine lv_iinc (v := nI (q + 1)) (lv' := [(4, .int (nI (q + 1))), (0, .ref (ad 0)), (1, .int (nI j)), (2, .int a), (3, .int (nI i))]) hx hb dX6_check_168 hl (k := 4) rfl (nI_1 q) (by decide) rfl (fun ls hl => ?_)
                          refine lv_goto (tgt := 101) hx hb dX6_check_171 (by decide) ?_
                          have es : (mw cA ad (m_bar (up (up (up r 0 0 0) 15 j 1) 25 i (r 25 i + 1)) i q)) = (mw cA ad (m_bar (up (up (up r 0 0 0) 15 j 1) 25 i (r 25 i + 1)) i (q + 1))) := by simp [m_bar, b129, b140] <;> rfl
                          rw [es] at hP hD
                          exact ih101 (q + 1) (by omega) (by omega) ls (lv_sub hl [1, 2, 3, 4, 0] rfl) _ _ hP hD hS
              have es : (mw cA ad (up (up (up (up r 0 0 0) 0 0 0) 15 j 1) 25 i ((r 25 i) + 1))) = (mw cA ad (m_bar (up (up (up r 0 0 0) 15 j 1) 25 i (r 25 i + 1)) i 0)) := by rw [up_twice]; rfl
              rw [es] at hP hD
              exact hL101 _ 0 (Nat.lt_succ_self _) (Nat.zero_le _) ls (lv_cast (lv_sub (l' := [(0, .ref (ad 0)), (1, .int (nI j)), (2, .int a), (3, .int (nI i)), (4, .int 0)]) hl [2, 3, 4, 1, 0] rfl) (by rfl)) _ _ hP hD hS
            · skip
              exact absurd b76 hd
          · skip
            exact False.elim (by revert b57; decide)
        · skip
          exact False.elim (by revert b42; decide)
    · skip
      exact absurd b18 b5
  · skip
    exact False.elim (by revert b5; decide)
