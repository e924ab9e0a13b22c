set_option maxHeartbeats 4000000 in
set_option maxRecDepth 100000 in
theorem rr_rounds (l : Launch) (dg : va_G) (cA : Nat → ClassId) (ad : Nat → Nat) (r : St) (n : Nat) (hn : r 0 3 = nI n) (hn24 : n ≤ 24) (ni : Nat) (hni : r 0 4 = nI ni) (hni4 : ni ≤ 4) (sz : Nat) : MetM l dg cA yX6_rounds cX6_rounds 4 none ({ frames := 2, cells := 0, slots := 0, locals := 45 } : Room) 0 0 (mw cA ad r) sz [.ref (ad 0)] (mw cA ad (m_rounds r n ni)) none := by
  refine ofM (by decide) (Nat.le_of_ble_eq_true rfl) (own := RX6) rfl (fun p e s0 m args below meth ccd ls A hAe S hr hlk hname hargs hK hP hD hS hA hsz hl => ?_)
  have hx := S.1
  have hb := S.2.1
  have hl : lv_has ls 4 [(0, .ref (ad 0))] := hl
  refine lv_iconst (v := 0) hx hb dX6_rounds_0 (by decide) ?_
  refine lv_istore_n (lv' := [(1, .int 0), (0, .ref (ad 0))]) hx hb dX6_rounds_1 rfl hl (by decide) rfl (fun ls hl => ?_)
  have hL2 : ∀ (f : Nat) (j : Nat), n - j < f → (j ≤ n) → ∀ ls, lv_has ls 4 [(0, .ref (ad 0)), (1, .int (nI j))] → ∀ (H : Heap) (locs : List Loc), PP dg (mw cA ad (m_rst r j)) H → va_D A (mw cA ad (m_rst r j)) → va_S A s0.heap H locs → W p l e ({ frames := 2, cells := 0, slots := 0, locals := 45 } : Room) s0 m args below meth ccd H locs 0 0 (MQ below (QcM dg (mw cA ad (m_rounds r n ni)) none A) args s0 0 0 A) (F0 m 2 ls []) := by
    intro f
    induction f with
    | zero => intro j hm; exact absurd hm (Nat.not_lt_zero _)
    | succ f ih2 =>
      intro j hm2 hj ls hl H locs hP hD hS
      refine lv_iload_n hx hb dX6_rounds_2 rfl (lv_at hl 1 rfl) ?_
      refine lv_aload_n hx hb dX6_rounds_3 rfl (lv_at hl 0 rfl) ?_
      refine gf S hK hP 0 ml_0 fX6_93 (v := .int (nI n)) (mv_3 (show m_rst r j 0 3 = nI n by rw [m_rst_row _ _ (by decide) (by decide) (by decide)]; exact hn)) dX6_rounds_4 ?_
      refine lv_icmp_ge (tgt := 37) hx hb dX6_rounds_7 (by decide) (fun b7 => ?_) (fun b7 => ?_)
      · skip
        have g7 : n ≤ j := (nI_leI (a := n) (b := j) (by omega) (by omega)).mp b7
        refine lv_iconst (v := 0) hx hb dX6_rounds_37 (by decide) ?_
        refine lv_istore_n (lv' := [(1, .int 0), (0, .ref (ad 0))]) hx hb dX6_rounds_38 rfl hl (by decide) rfl (fun ls hl => ?_)
        have hL39 : ∀ (f : Nat) (i : Nat), ni - i < f → (i ≤ ni) → ∀ ls, lv_has ls 4 [(0, .ref (ad 0)), (1, .int (nI i))] → ∀ (H : Heap) (locs : List Loc), PP dg (mw cA ad (m_rds (m_rst r n) n i)) H → va_D A (mw cA ad (m_rds (m_rst r n) n i)) → va_S A s0.heap H locs → W p l e ({ frames := 2, cells := 0, slots := 0, locals := 45 } : Room) s0 m args below meth ccd H locs 0 0 (MQ below (QcM dg (mw cA ad (m_rounds r n ni)) none A) args s0 0 0 A) (F0 m 39 ls []) := by
          intro f
          induction f with
          | zero => intro i hm; exact absurd hm (Nat.not_lt_zero _)
          | succ f ih39 =>
            intro i hm39 hi ls hl H locs hP hD hS
            obtain ⟨rr, hrr⟩ : ∃ z, z = m_rds (m_rst r n) n i := ⟨_, rfl⟩
            rw [← hrr] at hP hD
            have hrn : rr 0 3 = nI n := by rw [hrr, m_rds_row (by decide) (by decide) (by decide) (by decide), m_rst_row _ _ (by decide) (by decide) (by decide)]; exact hn
            have hrni : rr 0 4 = nI ni := by rw [hrr, m_rds_row (by decide) (by decide) (by decide) (by decide), m_rst_row _ _ (by decide) (by decide) (by decide)]; exact hni
            refine lv_iload_n hx hb dX6_rounds_39 rfl (lv_at hl 1 rfl) ?_
            refine lv_aload_n hx hb dX6_rounds_40 rfl (lv_at hl 0 rfl) ?_
            refine gf S hK hP 0 ml_0 fX6_100 (v := .int (nI ni)) (mv_4 hrni) dX6_rounds_41 ?_
            refine lv_icmp_ge (tgt := 192) hx hb dX6_rounds_44 (by decide) (fun b44 => ?_) (fun b44 => ?_)
            · skip
              have g44 : ni ≤ i := (nI_leI (a := ni) (b := i) (by omega) (by omega)).mp b44
              exact eMv S hr hlk hP hD hS dX6_rounds_192 (by rw [hrr, show i = ni by omega]; rfl)
            · skip
              have g44 : ¬ ni ≤ i := fun zz => b44 ((nI_leI (a := ni) (b := i) (by omega) (by omega)).mpr zz)
              refine lv_aload_n hx hb dX6_rounds_47 rfl (lv_at hl 0 rfl) ?_
              refine gf S hK hP 0 ml_0 fX6_72 (v := .ref (ad 20)) mr_20 dX6_rounds_48 ?_
              refine lv_iload_n hx hb dX6_rounds_51 rfl (lv_at hl 1 rfl) ?_
              refine lv_iconst (v := 0) hx hb dX6_rounds_52 (by decide) ?_
              refine ist S hK hP hD hS 20 ml_20 (j := i) (x := 0) (by omega) (Nat.le_of_ble_eq_true rfl) ms_20 dX6_rounds_53 (fun H locs hP hD hS => ?_)
              refine lv_aload_n hx hb dX6_rounds_54 rfl (lv_at hl 0 rfl) ?_
              refine gf S hK hP 0 ml_0 fX6_75 (v := .ref (ad 21)) mr_21 dX6_rounds_55 ?_
              refine lv_iload_n hx hb dX6_rounds_58 rfl (lv_at hl 1 rfl) ?_
              refine lv_iconst (v := 0) hx hb dX6_rounds_59 (by decide) ?_
              refine ist S hK hP hD hS 21 ml_21 (j := i) (x := 0) (by omega) (Nat.le_of_ble_eq_true rfl) ms_21 dX6_rounds_60 (fun H locs hP hD hS => ?_)
              refine lv_aload_n hx hb dX6_rounds_61 rfl (lv_at hl 0 rfl) ?_
              refine gf S hK hP 0 ml_0 fX6_78 (v := .ref (ad 22)) mr_22 dX6_rounds_62 ?_
              refine lv_iload_n hx hb dX6_rounds_65 rfl (lv_at hl 1 rfl) ?_
              refine ild S hK hP 22 ml_22 (j := i) (by omega) (Nat.le_of_ble_eq_true rfl) dX6_rounds_66 ?_
              refine lv_as (y := rr 22 i) rfl ?_
              refine lv_istore_n (lv' := [(2, .int (rr 22 i)), (0, .ref (ad 0)), (1, .int (nI i))]) hx hb dX6_rounds_67 rfl hl (by decide) rfl (fun ls hl => ?_)
              refine lv_aload_n hx hb dX6_rounds_68 rfl (lv_at hl 1 rfl) ?_
              refine gf S hK hP 0 ml_0 fX6_87 (v := .ref (ad 25)) mr_25 dX6_rounds_69 ?_
              refine lv_iload_n hx hb dX6_rounds_72 rfl (lv_at hl 2 rfl) ?_
              refine ild S hK hP 25 ml_25 (j := i) (by omega) (Nat.le_of_ble_eq_true rfl) dX6_rounds_73 ?_
              refine lv_as (y := rr 25 i) rfl ?_
              refine lv_iconst (v := 2) hx hb dX6_rounds_74 (by decide) ?_
              refine lv_icmp_ne (tgt := 82) hx hb dX6_rounds_75 (by decide) (fun b75 => ?_) (fun b75 => ?_)
              · skip
                refine lv_aload_n hx hb dX6_rounds_82 rfl (lv_at hl 1 rfl) ?_
                refine lv_iload_n hx hb dX6_rounds_83 rfl (lv_at hl 2 rfl) ?_
                refine lv_iload_n hx hb dX6_rounds_84 rfl (lv_at hl 0 rfl) ?_
                refine cR S (rr_next l dg cA ad (up (up rr 20 i 0) 21 i 0) n hrn hn24 i (by omega) (rr 22 i)) kX6_126 ⟨rfl, rfl, Nat.le_of_ble_eq_true rfl, Nat.le_of_ble_eq_true rfl⟩ hK hP 0 ml_0 (q := (RX6, TX6, 31)) rfl rfl (As := [.int (nI i), .int (rr 22 i)]) rfl hl.1 (rest := []) rfl (Nat.le_of_ble_eq_true rfl) dX6_rounds_85 ⟨Nat.le_of_ble_eq_true rfl, Nat.le_of_ble_eq_true rfl⟩ (st1 := [.int (oI (m_nx (up (up rr 20 i 0) 21 i 0) i (rr 22 i) n))]) rfl ?_
                refine lv_istore_n (lv' := [(3, .int (oI (m_nx (up (up rr 20 i 0) 21 i 0) i (rr 22 i) n))), (2, .int (rr 22 i)), (0, .ref (ad 0)), (1, .int (nI i))]) hx hb dX6_rounds_88 rfl hl (by decide) rfl (fun ls hl => ?_)
                have hL89 : ∀ (f : Nat) (fu : Nat) (q : St) (at_ : Int32) (k : Nat), fu < f → (m_wl n i fu q at_ k = m_rq rr n i) → (k + m_fr q n ≤ n) → (m_fr q n ≤ fu) → (q 0 3 = nI n) → (q 20 i = nI k) → (q 22 i = rr 22 i) → ∀ ls, lv_has ls 4 [(0, .ref (ad 0)), (1, .int (nI i)), (2, .int at_), (3, .int (oI (m_nx q i at_ n)))] → ∀ (H : Heap) (locs : List Loc), PP dg (mw cA ad q) H → va_D A (mw cA ad q) → va_S A s0.heap H locs → W p l e ({ frames := 2, cells := 0, slots := 0, locals := 45 } : Room) s0 m args below meth ccd H locs 0 0 (MQ below (QcM dg (mw cA ad (m_rounds r n ni)) none A) args s0 0 0 A) (F0 m 89 ls []) := by
                  intro f
                  induction f with
                  | zero => intro fu q at_ k hm; exact absurd hm (Nat.not_lt_zero _)
                  | succ f ih89 =>
                    intro fu q at_ k hm89 hW hk hfu hqn hq20 hq22 ls hl H locs hP hD hS
                    rcases hb9 : m_nx q i at_ n with _ | h
                    · skip
                      rw [hb9] at hl
                      have hl : lv_has ls 4 [(0, .ref (ad 0)), (1, .int (nI i)), (2, .int at_), (3, .int (-1))] := hl
                      have hW9 : (q, at_) = m_rq rr n i := by rw [← hW, m_wl_n hb9]
                      refine lv_iload_n hx hb dX6_rounds_89 rfl (lv_at hl 3 rfl) ?_
                      refine lv_iconst (v := (-1)) hx hb dX6_rounds_90 (by decide) ?_
                      refine lv_icmp_eq (tgt := 167) hx hb dX6_rounds_91 (by decide) (fun b91 => ?_) (fun b91 => ?_)
                      · skip
                        refine lv_aload_n hx hb dX6_rounds_167 rfl (lv_at hl 0 rfl) ?_
                        refine gf S hK hP 0 ml_0 fX6_75 (v := .ref (ad 21)) mr_21 dX6_rounds_168 ?_
                        refine lv_iload_n hx hb dX6_rounds_171 rfl (lv_at hl 1 rfl) ?_
                        refine lv_dup2_11 hx hb dX6_rounds_172 rfl rfl ?_
                        refine ild S hK hP 21 ml_21 (j := i) (by omega) (Nat.le_of_ble_eq_true rfl) dX6_rounds_173 ?_
                        refine lv_as (y := q 21 i) rfl ?_
                        refine lv_iload_n hx hb dX6_rounds_174 rfl (lv_at hl 2 rfl) ?_
                        refine lv_aload_n hx hb dX6_rounds_175 rfl (lv_at hl 0 rfl) ?_
                        refine gf S hK hP 0 ml_0 fX6_78 (v := .ref (ad 22)) mr_22 dX6_rounds_176 ?_
                        refine lv_iload_n hx hb dX6_rounds_179 rfl (lv_at hl 1 rfl) ?_
                        refine ild S hK hP 22 ml_22 (j := i) (by omega) (Nat.le_of_ble_eq_true rfl) dX6_rounds_180 ?_
                        refine lv_as (y := rr 22 i) hq22 ?_
                        refine cRS S (rr_way l dg cA (mw cA ad q) at_ (rr 22 i)) kX6_122 ⟨rfl, rfl, Nat.le_of_ble_eq_true rfl, Nat.le_of_ble_eq_true rfl⟩ hK hP (As := [.int at_, .int (rr 22 i)]) rfl hl.1 (rest := [.int (q 21 i), .int (nI i), .ref (ad 21)]) rfl (Nat.le_of_ble_eq_true rfl) dX6_rounds_181 ⟨Nat.le_of_ble_eq_true rfl, Nat.le_of_ble_eq_true rfl⟩ (st1 := [.int (m_way at_ (rr 22 i)), .int (q 21 i), .int (nI i), .ref (ad 21)]) rfl ?_
                        refine lv_iadd hx hb dX6_rounds_184 ?_
                        refine ist S hK hP hD hS 21 ml_21 (j := i) (x := (q 21 i) + (m_way at_ (rr 22 i))) (by omega) (Nat.le_of_ble_eq_true rfl) ms_21 dX6_rounds_185 (fun H locs hP hD hS => ?_)
                        refine lv_iinc (v := nI (i + 1)) (lv' := [(1, .int (nI (i + 1))), (0, .ref (ad 0)), (2, .int at_), (3, .int (-1))]) hx hb dX6_rounds_186 hl (k := 1) rfl (nI_1 i) (by decide) rfl (fun ls hl => ?_)
                        refine lv_goto (tgt := 39) hx hb dX6_rounds_189 (by decide) ?_
                        have es : (mw cA ad (up q 21 i ((q 21 i) + (m_way at_ (rr 22 i))))) = (mw cA ad (m_rds (m_rst r n) n (i + 1))) := by show _ = mw cA ad (m_rd (m_rds (m_rst r n) n i) n i); rw [← hrr]; unfold m_rd; rw [← hW9]
                        rw [es] at hP hD
                        exact ih39 (i + 1) (by omega) (by omega) ls (lv_sub hl [1, 0] rfl) _ _ hP hD hS
                      · skip
                        exact False.elim (by revert b91; decide)
                    · skip
                      rw [hb9] at hl
                      have hl : lv_has ls 4 [(0, .ref (ad 0)), (1, .int (nI i)), (2, .int at_), (3, .int (nI h))] := hl
                      have hhn := (nxt_some hb9).1
                      have hfw := m_fr_ws (k := k) (by omega) hb9
                      obtain ⟨fu9, rfl⟩ : ∃ z, fu = z + 1 := ⟨fu - 1, by omega⟩
                      refine lv_iload_n hx hb dX6_rounds_89 rfl (lv_at hl 3 rfl) ?_
                      refine lv_iconst (v := (-1)) hx hb dX6_rounds_90 (by decide) ?_
                      refine lv_icmp_eq (tgt := 167) hx hb dX6_rounds_91 (by decide) (fun b91 => ?_) (fun b91 => ?_)
                      · skip
                        exact absurd b91 (nI_m1 (by omega))
                      · skip
                        refine lv_aload_n hx hb dX6_rounds_94 rfl (lv_at hl 0 rfl) ?_
                        refine gf S hK hP 0 ml_0 fX6_69 (v := .ref (ad 19)) mr_19 dX6_rounds_95 ?_
                        refine lv_bipush (v := 24) hx hb dX6_rounds_98 (by decide) ?_
                        refine lv_iload_n hx hb dX6_rounds_100 rfl (lv_at hl 1 rfl) ?_
                        refine lv_imul hx hb dX6_rounds_101 ?_
                        refine lv_as (y := nI (24 * i)) (pk_mul 24 i) ?_
                        refine lv_aload_n hx hb dX6_rounds_102 rfl (lv_at hl 0 rfl) ?_
                        refine gf S hK hP 0 ml_0 fX6_72 (v := .ref (ad 20)) mr_20 dX6_rounds_103 ?_
                        refine lv_iload_n hx hb dX6_rounds_106 rfl (lv_at hl 1 rfl) ?_
                        refine ild S hK hP 20 ml_20 (j := i) (by omega) (Nat.le_of_ble_eq_true rfl) dX6_rounds_107 ?_
                        refine lv_as (y := nI k) hq20 ?_
                        refine lv_iadd hx hb dX6_rounds_108 ?_
                        refine lv_as (y := nI (24 * i + k)) (nI_add _ _) ?_
                        refine lv_iload_n hx hb dX6_rounds_109 rfl (lv_at hl 3 rfl) ?_
                        refine ist S hK hP hD hS 19 ml_19 (j := 24 * i + k) (x := nI h) (by omega) (Nat.le_of_ble_eq_true rfl) ms_19 dX6_rounds_110 (fun H locs hP hD hS => ?_)
                        refine lv_aload_n hx hb dX6_rounds_111 rfl (lv_at hl 0 rfl) ?_
                        refine gf S hK hP 0 ml_0 fX6_72 (v := .ref (ad 20)) mr_20 dX6_rounds_112 ?_
                        refine lv_iload_n hx hb dX6_rounds_115 rfl (lv_at hl 1 rfl) ?_
                        refine lv_dup2_11 hx hb dX6_rounds_116 rfl rfl ?_
                        refine ild S hK hP 20 ml_20 (j := i) (by omega) (Nat.le_of_ble_eq_true rfl) dX6_rounds_117 ?_
                        refine lv_as (y := nI k) hq20 ?_
                        refine lv_iconst (v := 1) hx hb dX6_rounds_118 (by decide) ?_
                        refine lv_iadd hx hb dX6_rounds_119 ?_
                        refine lv_as (y := nI (k + 1)) (nI_1 k) ?_
                        refine ist S hK hP hD hS 20 ml_20 (j := i) (x := nI (k + 1)) (by omega) (Nat.le_of_ble_eq_true rfl) ms_20 dX6_rounds_120 (fun H locs hP hD hS => ?_)
                        refine lv_aload_n hx hb dX6_rounds_121 rfl (lv_at hl 0 rfl) ?_
                        refine gf S hK hP 0 ml_0 fX6_75 (v := .ref (ad 21)) mr_21 dX6_rounds_122 ?_
                        refine lv_iload_n hx hb dX6_rounds_125 rfl (lv_at hl 1 rfl) ?_
                        refine lv_dup2_11 hx hb dX6_rounds_126 rfl rfl ?_
                        refine ild S hK hP 21 ml_21 (j := i) (by omega) (Nat.le_of_ble_eq_true rfl) dX6_rounds_127 ?_
                        refine lv_as (y := q 21 i) rfl ?_
                        refine lv_iload_n hx hb dX6_rounds_128 rfl (lv_at hl 2 rfl) ?_
                        refine lv_aload_n hx hb dX6_rounds_129 rfl (lv_at hl 0 rfl) ?_
                        refine gf S hK hP 0 ml_0 fX6_17 (v := .ref (ad 2)) mr_2 dX6_rounds_130 ?_
                        refine lv_iload_n hx hb dX6_rounds_133 rfl (lv_at hl 3 rfl) ?_
                        refine ild S hK hP 2 ml_2 (j := h) (by omega) (Nat.le_of_ble_eq_true rfl) dX6_rounds_134 ?_
                        refine lv_as (y := q 2 h) rfl ?_
                        refine cRS S (rr_way l dg cA (mw cA ad (up (up q 19 (24 * i + k) (nI h)) 20 i (nI (k + 1)))) at_ (q 2 h)) kX6_122 ⟨rfl, rfl, Nat.le_of_ble_eq_true rfl, Nat.le_of_ble_eq_true rfl⟩ hK hP (As := [.int at_, .int (q 2 h)]) rfl hl.1 (rest := [.int (q 21 i), .int (nI i), .ref (ad 21)]) rfl (Nat.le_of_ble_eq_true rfl) dX6_rounds_135 ⟨Nat.le_of_ble_eq_true rfl, Nat.le_of_ble_eq_true rfl⟩ (st1 := [.int (m_way at_ (q 2 h)), .int (q 21 i), .int (nI i), .ref (ad 21)]) rfl ?_
                        refine lv_bipush (v := 30) hx hb dX6_rounds_138 (by decide) ?_
                        refine lv_iadd hx hb dX6_rounds_140 ?_
                        refine lv_iadd hx hb dX6_rounds_141 ?_
                        refine ist S hK hP hD hS 21 ml_21 (j := i) (x := (q 21 i) + ((m_way at_ (q 2 h)) + 30)) (by omega) (Nat.le_of_ble_eq_true rfl) ms_21 dX6_rounds_142 (fun H locs hP hD hS => ?_)
                        refine lv_aload_n hx hb dX6_rounds_143 rfl (lv_at hl 0 rfl) ?_
                        refine gf S hK hP 0 ml_0 fX6_66 (v := .ref (ad 18)) mr_18 dX6_rounds_144 ?_
                        refine lv_iload_n hx hb dX6_rounds_147 rfl (lv_at hl 3 rfl) ?_
                        refine lv_iload_n hx hb dX6_rounds_148 rfl (lv_at hl 1 rfl) ?_
                        refine ist S hK hP hD hS 18 ml_18 (j := h) (x := nI i) (by omega) (Nat.le_of_ble_eq_true rfl) ms_18 dX6_rounds_149 (fun H locs hP hD hS => ?_)
                        refine lv_aload_n hx hb dX6_rounds_150 rfl (lv_at hl 0 rfl) ?_
                        refine gf S hK hP 0 ml_0 fX6_17 (v := .ref (ad 2)) mr_2 dX6_rounds_151 ?_
                        refine lv_iload_n hx hb dX6_rounds_154 rfl (lv_at hl 3 rfl) ?_
                        refine ild S hK hP 2 ml_2 (j := h) (by omega) (Nat.le_of_ble_eq_true rfl) dX6_rounds_155 ?_
                        refine lv_as (y := q 2 h) rfl ?_
                        refine lv_istore_n (lv' := [(2, .int (q 2 h)), (0, .ref (ad 0)), (1, .int (nI i)), (3, .int (nI h))]) hx hb dX6_rounds_156 rfl hl (by decide) rfl (fun ls hl => ?_)
                        refine lv_aload_n hx hb dX6_rounds_157 rfl (lv_at hl 1 rfl) ?_
                        refine lv_iload_n hx hb dX6_rounds_158 rfl (lv_at hl 2 rfl) ?_
                        refine lv_iload_n hx hb dX6_rounds_159 rfl (lv_at hl 0 rfl) ?_
                        refine cR S (rr_next l dg cA ad (up (up (up (up q 19 (24 * i + k) (nI h)) 20 i (nI (k + 1))) 21 i ((q 21 i) + ((m_way at_ (q 2 h)) + 30))) 18 h (nI i)) n hqn hn24 i (by omega) (q 2 h)) kX6_126 ⟨rfl, rfl, Nat.le_of_ble_eq_true rfl, Nat.le_of_ble_eq_true rfl⟩ hK hP 0 ml_0 (q := (RX6, TX6, 31)) rfl rfl (As := [.int (nI i), .int (q 2 h)]) rfl hl.1 (rest := []) rfl (Nat.le_of_ble_eq_true rfl) dX6_rounds_160 ⟨Nat.le_of_ble_eq_true rfl, Nat.le_of_ble_eq_true rfl⟩ (st1 := [.int (oI (m_nx (up (up (up (up q 19 (24 * i + k) (nI h)) 20 i (nI (k + 1))) 21 i ((q 21 i) + ((m_way at_ (q 2 h)) + 30))) 18 h (nI i)) i (q 2 h) n))]) rfl ?_
                        refine lv_istore_n (lv' := [(3, .int (oI (m_nx (up (up (up (up q 19 (24 * i + k) (nI h)) 20 i (nI (k + 1))) 21 i ((q 21 i) + ((m_way at_ (q 2 h)) + 30))) 18 h (nI i)) i (q 2 h) n))), (2, .int (q 2 h)), (0, .ref (ad 0)), (1, .int (nI i))]) hx hb dX6_rounds_163 rfl hl (by decide) rfl (fun ls hl => ?_)
                        refine lv_goto (tgt := 89) hx hb dX6_rounds_164 (by decide) ?_
                        have es : (mw cA ad (up (up (up (up q 19 (24 * i + k) (nI h)) 20 i (nI (k + 1))) 21 i ((q 21 i) + ((m_way at_ (q 2 h)) + 30))) 18 h (nI i))) = (mw cA ad (m_ws q i at_ h k)) := rfl
                        rw [es] at hP hD
                        exact ih89 fu9 (m_ws q i at_ h k) (q 2 h) (k + 1) (by omega) (by rw [← hW, m_wl_s hb9]) (by omega) (by omega) hqn (by unfold m_ws; rw [up_row (by decide), up_row (by decide)]; exact up_at) (by rw [m_ws_row _ (by decide) (by decide) (by decide) (by decide)]; exact hq22) ls (lv_cast (lv_sub (l' := [(0, .ref (ad 0)), (1, .int (nI i)), (2, .int (q 2 h)), (3, .int (oI (m_nx (up (up (up (up q 19 (24 * i + k) (nI h)) 20 i (nI (k + 1))) 21 i ((q 21 i) + ((m_way at_ (q 2 h)) + 30))) 18 h (nI i)) i (q 2 h) n)))]) hl [2, 3, 1, 0] rfl) (by rfl)) _ _ hP hD hS
                exact hL89 _ n (up (up rr 20 i 0) 21 i 0) (rr 22 i) 0 (Nat.lt_succ_self _) (by unfold m_rq; rw [if_neg b75]; rfl) (by rw [Nat.zero_add]; exact ct_le _ _) (ct_le _ _) hrn (by rw [up_row (by decide)]; exact up_at) (by rw [up_row (by decide), up_row (by decide)]) ls (lv_cast (lv_sub (l' := [(0, .ref (ad 0)), (1, .int (nI i)), (2, .int (rr 22 i)), (3, .int (oI (m_nx (up (up rr 20 i 0) 21 i 0) i (rr 22 i) n)))]) hl [2, 3, 1, 0] rfl) (by rfl)) _ _ hP hD hS
              · skip
                refine lv_iconst (v := (-1)) hx hb dX6_rounds_78 (by decide) ?_
                refine lv_goto (tgt := 88) hx hb dX6_rounds_79 (by decide) ?_
                refine lv_istore_n (lv' := [(3, .int (-1)), (2, .int (rr 22 i)), (0, .ref (ad 0)), (1, .int (nI i))]) hx hb dX6_rounds_88 rfl hl (by decide) rfl (fun ls hl => ?_)
                refine lv_iload_n hx hb dX6_rounds_89 rfl (lv_at hl 0 rfl) ?_
                refine lv_iconst (v := (-1)) hx hb dX6_rounds_90 (by decide) ?_
                refine lv_icmp_eq (tgt := 167) hx hb dX6_rounds_91 (by decide) (fun b91 => ?_) (fun b91 => ?_)
                · skip
                  refine lv_aload_n hx hb dX6_rounds_167 rfl (lv_at hl 2 rfl) ?_
                  refine gf S hK hP 0 ml_0 fX6_75 (v := .ref (ad 21)) mr_21 dX6_rounds_168 ?_
                  refine lv_iload_n hx hb dX6_rounds_171 rfl (lv_at hl 3 rfl) ?_
                  refine lv_dup2_11 hx hb dX6_rounds_172 rfl rfl ?_
                  refine ild S hK hP 21 ml_21 (j := i) (by omega) (Nat.le_of_ble_eq_true rfl) dX6_rounds_173 ?_
                  refine lv_as (y := 0) up_at ?_
                  refine lv_iload_n hx hb dX6_rounds_174 rfl (lv_at hl 1 rfl) ?_
                  refine lv_aload_n hx hb dX6_rounds_175 rfl (lv_at hl 2 rfl) ?_
                  refine gf S hK hP 0 ml_0 fX6_78 (v := .ref (ad 22)) mr_22 dX6_rounds_176 ?_
                  refine lv_iload_n hx hb dX6_rounds_179 rfl (lv_at hl 3 rfl) ?_
                  refine ild S hK hP 22 ml_22 (j := i) (by omega) (Nat.le_of_ble_eq_true rfl) dX6_rounds_180 ?_
                  refine lv_as (y := rr 22 i) rfl ?_
                  refine cRS S (rr_way l dg cA (mw cA ad (up (up rr 20 i 0) 21 i 0)) (rr 22 i) (rr 22 i)) kX6_122 ⟨rfl, rfl, Nat.le_of_ble_eq_true rfl, Nat.le_of_ble_eq_true rfl⟩ hK hP (As := [.int (rr 22 i), .int (rr 22 i)]) rfl hl.1 (rest := [.int 0, .int (nI i), .ref (ad 21)]) rfl (Nat.le_of_ble_eq_true rfl) dX6_rounds_181 ⟨Nat.le_of_ble_eq_true rfl, Nat.le_of_ble_eq_true rfl⟩ (st1 := [.int (m_way (rr 22 i) (rr 22 i)), .int 0, .int (nI i), .ref (ad 21)]) rfl ?_
                  refine lv_iadd hx hb dX6_rounds_184 ?_
                  refine ist S hK hP hD hS 21 ml_21 (j := i) (x := 0 + (m_way (rr 22 i) (rr 22 i))) (by omega) (Nat.le_of_ble_eq_true rfl) ms_21 dX6_rounds_185 (fun H locs hP hD hS => ?_)
                  refine lv_iinc (v := nI (i + 1)) (lv' := [(1, .int (nI (i + 1))), (3, .int (-1)), (2, .int (rr 22 i)), (0, .ref (ad 0))]) hx hb dX6_rounds_186 hl (k := 3) rfl (nI_1 i) (by decide) rfl (fun ls hl => ?_)
                  refine lv_goto (tgt := 39) hx hb dX6_rounds_189 (by decide) ?_
                  have es : (mw cA ad (up (up (up rr 20 i 0) 21 i 0) 21 i (0 + (m_way (rr 22 i) (rr 22 i))))) = (mw cA ad (m_rds (m_rst r n) n (i + 1))) := by show _ = mw cA ad (m_rd (m_rds (m_rst r n) n i) n i); rw [← hrr]; simp only [m_rd, m_rq, if_pos b75, m_r1, up_at]
                  rw [es] at hP hD
                  exact ih39 (i + 1) (by omega) (by omega) ls (lv_sub hl [3, 0] rfl) _ _ hP hD hS
                · skip
                  exact False.elim (by revert b91; decide)
        have es : (mw cA ad (m_rst r j)) = (mw cA ad (m_rds (m_rst r n) n 0)) := by rw [show j = n by omega]; rfl
        rw [es] at hP hD
        exact hL39 _ 0 (Nat.lt_succ_self _) (Nat.zero_le _) ls (lv_cast (lv_sub (l' := [(0, .ref (ad 0)), (1, .int 0)]) hl [1, 0] rfl) (by rfl)) _ _ hP hD hS
      · skip
        have g7 : ¬ n ≤ j := fun zz => b7 ((nI_leI (a := n) (b := j) (by omega) (by omega)).mpr zz)
        refine lv_aload_n hx hb dX6_rounds_10 rfl (lv_at hl 0 rfl) ?_
        refine gf S hK hP 0 ml_0 fX6_66 (v := .ref (ad 18)) mr_18 dX6_rounds_11 ?_
        refine lv_iload_n hx hb dX6_rounds_14 rfl (lv_at hl 1 rfl) ?_
        refine lv_iconst (v := (-1)) hx hb dX6_rounds_15 (by decide) ?_
        refine ist S hK hP hD hS 18 ml_18 (j := j) (x := (-1)) (by omega) (Nat.le_of_ble_eq_true rfl) ms_18 dX6_rounds_16 (fun H locs hP hD hS => ?_)
        refine lv_aload_n hx hb dX6_rounds_17 rfl (lv_at hl 0 rfl) ?_
        refine gf S hK hP 0 ml_0 fX6_63 (v := .ref (ad 17)) mr_17 dX6_rounds_18 ?_
        refine lv_iload_n hx hb dX6_rounds_21 rfl (lv_at hl 1 rfl) ?_
        refine lv_iconst (v := 0) hx hb dX6_rounds_22 (by decide) ?_
        refine zst S hK hP hD hS 17 ml_17 (j := j) (x := 0) (by omega) (Nat.le_of_ble_eq_true rfl) rfl ms_17 dX6_rounds_23 (fun H locs hP hD hS => ?_)
        refine lv_aload_n hx hb dX6_rounds_24 rfl (lv_at hl 0 rfl) ?_
        refine gf S hK hP 0 ml_0 fX6_60 (v := .ref (ad 16)) mr_16 dX6_rounds_25 ?_
        refine lv_iload_n hx hb dX6_rounds_28 rfl (lv_at hl 1 rfl) ?_
        refine lv_iconst (v := 0) hx hb dX6_rounds_29 (by decide) ?_
        refine zst S hK hP hD hS 16 ml_16 (j := j) (x := 0) (by omega) (Nat.le_of_ble_eq_true rfl) rfl ms_16 dX6_rounds_30 (fun H locs hP hD hS => ?_)
        refine lv_iinc (v := nI (j + 1)) (lv' := [(1, .int (nI (j + 1))), (0, .ref (ad 0))]) hx hb dX6_rounds_31 hl (k := 1) rfl (nI_1 j) (by decide) rfl (fun ls hl => ?_)
        refine lv_goto (tgt := 2) hx hb dX6_rounds_34 (by decide) ?_
        have es : (mw cA ad (up (up (up (m_rst r j) 18 j (-1)) 17 j 0) 16 j 0)) = (mw cA ad (m_rst r (j + 1))) := rfl
        rw [es] at hP hD
        exact ih2 (j + 1) (by omega) (by omega) ls (lv_sub hl [1, 0] rfl) _ _ hP hD hS
  have es : (mw cA ad r) = (mw cA ad (m_rst r 0)) := rfl
  rw [es] at hP hD
  exact hL2 _ 0 (Nat.lt_succ_self _) (Nat.zero_le _) ls (lv_cast (lv_sub (l' := [(0, .ref (ad 0)), (1, .int 0)]) hl [1, 0] rfl) (by rfl)) _ _ hP hD hS

set_option maxHeartbeats 4000000 in
set_option maxRecDepth 100000 in
theorem rr_endDay0 (l : Launch) (dg : va_G) (cA : Nat → ClassId) (ad : Nat → Nat) (r : St) (h99 : r 0 5 = 99) (sz : Nat) : MetM l dg cA yX6_endDay cX6_endDay 4 (some .int) ({ frames := 1, cells := 0, slots := 0, locals := 21 } : Room) 0 0 (mw cA ad r) sz [.ref (ad 0)] (mw cA ad (up r 0 0 1)) (some (.int 0)) := by
  refine ofM (by decide) (Nat.le_of_ble_eq_true rfl) (own := RX6) rfl (fun p e s0 m args below meth ccd ls A hAe S hr hlk hname hargs hK hP hD hS hA hsz hl => ?_)
  have hx := S.1
  have hb := S.2.1
  have hl : lv_has ls 4 [(0, .ref (ad 0))] := hl
  refine lv_aload_n hx hb dX6_endDay_0 rfl (lv_at hl 0 rfl) ?_
  refine gf S hK hP 0 ml_0 fX6_115 (v := .int 99) (mv_5 h99) dX6_endDay_1 ?_
  refine lv_bipush (v := 99) hx hb dX6_endDay_4 (by decide) ?_
  refine lv_icmp_ne (tgt := 15) hx hb dX6_endDay_6 (by decide) (fun b6 => ?_) (fun b6 => ?_)
  · skip
    exact False.elim (by revert b6; decide)
  · skip
    refine lv_aload_n hx hb dX6_endDay_9 rfl (lv_at hl 0 rfl) ?_
    refine lv_iconst (v := 1) hx hb dX6_endDay_10 (by decide) ?_
    refine cM S (rr_fails l dg cA ad r 1 _) kX6_104 ⟨rfl, rfl, Nat.le_of_ble_eq_true rfl, Nat.le_of_ble_eq_true rfl⟩ hK hP hD hS hA 0 ml_0 (q := (RX6, TX6, 31)) rfl rfl (As := [.int 1]) rfl hl.1 (rest := []) rfl (Nat.le_of_ble_eq_true rfl) dX6_endDay_11 ⟨Nat.le_of_ble_eq_true rfl, Nat.le_of_ble_eq_true rfl⟩ (st1 := [.int 0]) rfl (fun H locs hP hD hS => ?_)
    exact eMi S hr hlk hP hD hS dX6_endDay_14 rfl rfl

set_option maxHeartbeats 4000000 in
set_option maxRecDepth 100000 in
theorem rr_endDay1 (l : Launch) (dg : va_G) (cA : Nat → ClassId) (ad : Nat → Nat) (r : St) (n : Nat) (hn : r 0 3 = nI n) (hn24 : n ≤ 24) (ni : Nat) (hni : r 0 4 = nI ni) (hni4 : ni ≤ 4) (hc : ∃ k, k < 65536 ∧ r 0 1 = nI k) (h99 : ¬ r 0 5 = 99) (sz : Nat) : MetM l dg cA yX6_endDay cX6_endDay 4 (some .int) ({ frames := 3, cells := 0, slots := 0, locals := 68 } : Room) 0 0 (mw cA ad r) sz [.ref (ad 0)] (mw cA ad (m_endDay r n ni)) (some (.int (nI (m_repc (up r 0 0 0) n n)))) := by
  refine ofM (by decide) (Nat.le_of_ble_eq_true rfl) (own := RX6) rfl (fun p e s0 m args below meth ccd ls A hAe S hr hlk hname hargs hK hP hD hS hA hsz hl => ?_)
  have hx := S.1
  have hb := S.2.1
  have hl : lv_has ls 4 [(0, .ref (ad 0))] := hl
  have hc3 : ∃ k, k < 65536 ∧ (up r 0 0 0) 0 1 = nI k := hc
  refine lv_aload_n hx hb dX6_endDay_0 rfl (lv_at hl 0 rfl) ?_
  refine gf S hK hP 0 ml_0 fX6_115 (v := .int (r 0 5)) (mv_5 rfl) dX6_endDay_1 ?_
  refine lv_bipush (v := 99) hx hb dX6_endDay_4 (by decide) ?_
  refine lv_icmp_ne (tgt := 15) hx hb dX6_endDay_6 (by decide) (fun b6 => ?_) (fun b6 => ?_)
  · skip
    refine lv_aload_n hx hb dX6_endDay_15 rfl (lv_at hl 0 rfl) ?_
    refine lv_iconst (v := 0) hx hb dX6_endDay_16 (by decide) ?_
    refine pf S hK hP hD hS 0 ml_0 fX6_90 fpX6 rfl (v := .int 0) rfl rfl (Nat.le_of_ble_eq_true rfl) ms_0_0 dX6_endDay_17 (fun H locs hP hD hS => ?_)
    refine lv_iconst (v := 0) hx hb dX6_endDay_20 (by decide) ?_
    refine lv_istore_n (lv' := [(1, .int 0), (0, .ref (ad 0))]) hx hb dX6_endDay_21 rfl hl (by decide) rfl (fun ls hl => ?_)
    refine lv_iconst (v := 0) hx hb dX6_endDay_22 (by decide) ?_
    refine lv_istore_n (lv' := [(2, .int 0), (1, .int 0), (0, .ref (ad 0))]) hx hb dX6_endDay_23 rfl hl (by decide) rfl (fun ls hl => ?_)
    have hL24 : ∀ (f : Nat) (j : Nat), n - j < f → (j ≤ n) → ∀ ls, lv_has ls 4 [(0, .ref (ad 0)), (1, .int (nI (m_repc (up r 0 0 0) n j))), (2, .int (nI j))] → ∀ (H : Heap) (locs : List Loc), PP dg (mw cA ad (m_rep (up r 0 0 0) n j)) H → va_D A (mw cA ad (m_rep (up r 0 0 0) n j)) → va_S A s0.heap H locs → W p l e ({ frames := 3, cells := 0, slots := 0, locals := 68 } : Room) s0 m args below meth ccd H locs 0 0 (MQ below (QcM dg (mw cA ad (m_endDay r n ni)) (some (.int (nI (m_repc (up r 0 0 0) n n)))) A) args s0 0 0 A) (F0 m 24 ls []) := by
      intro f
      induction f with
      | zero => intro j hm; exact absurd hm (Nat.not_lt_zero _)
      | succ f ih24 =>
        intro j hm24 hj ls hl H locs hP hD hS
        have hrn : (m_rep (up r 0 0 0) n j) 0 3 = nI n := by rw [m_rep_sc _ _ (by decide)]; exact hn
        have hrni : (m_rep (up r 0 0 0) n j) 0 4 = nI ni := by rw [m_rep_sc _ _ (by decide)]; exact hni
        have hr5 : (m_rep (up r 0 0 0) n j) 0 5 = r 0 5 := by rw [m_rep_sc _ _ (by decide)]; rfl
        have hrc := m_rep_chance (n := n) hc3 j
        have hpc := m_repc_le (up r 0 0 0) n j
        have hctu := ct_le (isU ((m_rep (up r 0 0 0) n j) 1) ((m_rep (up r 0 0 0) n j) 4) ((m_rep (up r 0 0 0) n j) 1 j)) n
        refine lv_iload_n hx hb dX6_endDay_24 rfl (lv_at hl 2 rfl) ?_
        refine lv_aload_n hx hb dX6_endDay_25 rfl (lv_at hl 0 rfl) ?_
        refine gf S hK hP 0 ml_0 fX6_93 (v := .int (nI n)) (mv_3 hrn) dX6_endDay_26 ?_
        refine lv_icmp_ge (tgt := 87) hx hb dX6_endDay_29 (by decide) (fun b29 => ?_) (fun b29 => ?_)
        · skip
          have g29 : n ≤ j := (nI_leI (a := n) (b := j) (by omega) (by omega)).mp b29
          have ej : j = n := by omega
          rw [ej] at hP hD hl hrn hrni hr5
          refine lv_aload_n hx hb dX6_endDay_87 rfl (lv_at hl 0 rfl) ?_
          refine lv_dup hx hb dX6_endDay_88 rfl ?_
          refine gf S hK hP 0 ml_0 fX6_115 (v := .int (r 0 5)) (mv_5 hr5) dX6_endDay_89 ?_
          refine lv_iconst (v := 1) hx hb dX6_endDay_92 (by decide) ?_
          refine lv_iadd hx hb dX6_endDay_93 ?_
          refine pf S hK hP hD hS 0 ml_0 fX6_115 fpX6 rfl (v := .int ((r 0 5) + 1)) rfl rfl (Nat.le_of_ble_eq_true rfl) ms_0_5 dX6_endDay_94 (fun H locs hP hD hS => ?_)
          refine lv_aload_n hx hb dX6_endDay_97 rfl (lv_at hl 0 rfl) ?_
          refine cM S (rr_rounds l dg cA ad (up (m_rep (up r 0 0 0) n n) 0 5 ((r 0 5) + 1)) n hrn hn24 ni hrni hni4 _) kX6_136 ⟨rfl, rfl, Nat.le_of_ble_eq_true rfl, Nat.le_of_ble_eq_true rfl⟩ hK hP hD hS hA 0 ml_0 (q := (RX6, TX6, 31)) rfl rfl (As := []) rfl hl.1 (rest := []) rfl (Nat.le_of_ble_eq_true rfl) dX6_endDay_98 ⟨Nat.le_of_ble_eq_true rfl, Nat.le_of_ble_eq_true rfl⟩ (st1 := []) rfl (fun H locs hP hD hS => ?_)
          refine lv_iload_n hx hb dX6_endDay_101 rfl (lv_at hl 1 rfl) ?_
          exact eMi S hr hlk hP hD hS dX6_endDay_102 rfl rfl
        · skip
          have g29 : ¬ n ≤ j := fun zz => b29 ((nI_leI (a := n) (b := j) (by omega) (by omega)).mpr zz)
          refine lv_aload_n hx hb dX6_endDay_32 rfl (lv_at hl 0 rfl) ?_
          refine gf S hK hP 0 ml_0 fX6_60 (v := .ref (ad 16)) mr_16 dX6_endDay_33 ?_
          refine lv_iload_n hx hb dX6_endDay_36 rfl (lv_at hl 2 rfl) ?_
          refine zld S hK hP 16 ml_16 (j := j) (by omega) (Nat.le_of_ble_eq_true rfl) dX6_endDay_37 ?_
          refine lv_as (y := (m_rep (up r 0 0 0) n j) 16 j) rfl ?_
          refine lv_if_eq (tgt := 81) hx hb dX6_endDay_38 (by decide) (fun b38 => ?_) (fun b38 => ?_)
          · skip
            refine lv_iinc (v := nI (j + 1)) (lv' := [(2, .int (nI (j + 1))), (0, .ref (ad 0)), (1, .int (nI (m_repc (up r 0 0 0) n j)))]) hx hb dX6_endDay_81 hl (k := 2) rfl (nI_1 j) (by decide) rfl (fun ls hl => ?_)
            refine lv_goto (tgt := 24) hx hb dX6_endDay_84 (by decide) ?_
            have es : (mw cA ad (m_rep (up r 0 0 0) n j)) = (mw cA ad (m_rep (up r 0 0 0) n (j + 1))) := by rw [m_rep_p (Or.inl b38)]
            rw [es] at hP hD
            exact ih24 (j + 1) (by omega) (by omega) ls (lv_cast (lv_sub (l' := [(0, .ref (ad 0)), (1, .int (nI (m_repc (up r 0 0 0) n j))), (2, .int (nI (j + 1)))]) hl [1, 2, 0] rfl) (by rw [m_repc_p (Or.inl b38)])) _ _ hP hD hS
          · skip
            refine lv_aload_n hx hb dX6_endDay_41 rfl (lv_at hl 0 rfl) ?_
            refine lv_aload_n hx hb dX6_endDay_42 rfl (lv_at hl 0 rfl) ?_
            refine gf S hK hP 0 ml_0 fX6_13 (v := .ref (ad 1)) mr_1 dX6_endDay_43 ?_
            refine lv_iload_n hx hb dX6_endDay_46 rfl (lv_at hl 2 rfl) ?_
            refine ild S hK hP 1 ml_1 (j := j) (by omega) (Nat.le_of_ble_eq_true rfl) dX6_endDay_47 ?_
            refine lv_as (y := (m_rep (up r 0 0 0) n j) 1 j) rfl ?_
            refine cR S (rr_undrawn l dg cA ad (m_rep (up r 0 0 0) n j) n hrn hn24 ((m_rep (up r 0 0 0) n j) 1 j)) kX6_112 ⟨rfl, rfl, Nat.le_of_ble_eq_true rfl, Nat.le_of_ble_eq_true rfl⟩ hK hP 0 ml_0 (q := (RX6, TX6, 31)) rfl rfl (As := [.int ((m_rep (up r 0 0 0) n j) 1 j)]) rfl hl.1 (rest := []) rfl (Nat.le_of_ble_eq_true rfl) dX6_endDay_48 ⟨Nat.le_of_ble_eq_true rfl, Nat.le_of_ble_eq_true rfl⟩ (st1 := [.int (nI (ct (isU ((m_rep (up r 0 0 0) n j) 1) ((m_rep (up r 0 0 0) n j) 4) ((m_rep (up r 0 0 0) n j) 1 j)) n))]) rfl ?_
            refine lv_if_ne (tgt := 57) hx hb dX6_endDay_51 (by decide) (fun b51 => ?_) (fun b51 => ?_)
            · skip
              have g51 : ¬ ct (isU ((m_rep (up r 0 0 0) n j) 1) ((m_rep (up r 0 0 0) n j) 4) ((m_rep (up r 0 0 0) n j) 1 j)) n = 0 := fun zz => b51 ((nI_eq (a := ct (isU ((m_rep (up r 0 0 0) n j) 1) ((m_rep (up r 0 0 0) n j) 4) ((m_rep (up r 0 0 0) n j) 1 j)) n) (b := 0) (by omega) (by omega)).mpr zz)
              refine lv_aload_n hx hb dX6_endDay_57 rfl (lv_at hl 0 rfl) ?_
              refine lv_aload_n hx hb dX6_endDay_58 rfl (lv_at hl 0 rfl) ?_
              refine gf S hK hP 0 ml_0 fX6_13 (v := .ref (ad 1)) mr_1 dX6_endDay_59 ?_
              refine lv_iload_n hx hb dX6_endDay_62 rfl (lv_at hl 2 rfl) ?_
              refine ild S hK hP 1 ml_1 (j := j) (by omega) (Nat.le_of_ble_eq_true rfl) dX6_endDay_63 ?_
              refine lv_as (y := (m_rep (up r 0 0 0) n j) 1 j) rfl ?_
              refine lv_iconst (v := 1) hx hb dX6_endDay_64 (by decide) ?_
              refine cM S (rr_draws l dg cA ad (m_rep (up r 0 0 0) n j) n hrn hn24 ((m_rep (up r 0 0 0) n j) 1 j) 1 rfl hrc (Nat.pos_of_ne_zero g51) _) kX6_118 ⟨rfl, rfl, Nat.le_of_ble_eq_true rfl, Nat.le_of_ble_eq_true rfl⟩ hK hP hD hS hA 0 ml_0 (q := (RX6, TX6, 31)) rfl rfl (As := [.int ((m_rep (up r 0 0 0) n j) 1 j), .int 1]) rfl hl.1 (rest := []) rfl (Nat.le_of_ble_eq_true rfl) dX6_endDay_65 ⟨Nat.le_of_ble_eq_true rfl, Nat.le_of_ble_eq_true rfl⟩ (st1 := [.int (nI (m_h (m_rep (up r 0 0 0) n j) n ((m_rep (up r 0 0 0) n j) 1 j)))]) rfl (fun H locs hP hD hS => ?_)
              refine lv_istore_n (lv' := [(3, .int (nI (m_h (m_rep (up r 0 0 0) n j) n ((m_rep (up r 0 0 0) n j) 1 j)))), (0, .ref (ad 0)), (1, .int (nI (m_repc (up r 0 0 0) n j))), (2, .int (nI j))]) hx hb dX6_endDay_68 rfl hl (by decide) rfl (fun ls hl => ?_)
              refine lv_iload_n hx hb dX6_endDay_69 rfl (lv_at hl 2 rfl) ?_
              refine lv_iload_n hx hb dX6_endDay_70 rfl (lv_at hl 0 rfl) ?_
              refine lv_if_lt (tgt := 78) hx hb dX6_endDay_71 (by decide) (fun b71 => ?_) (fun b71 => ?_)
              · skip
                exact absurd b71 (nI_pos (Nat.lt_trans (m_h_lt hrc hn24 (Nat.pos_of_ne_zero g51)) (by omega)))
              · skip
                refine lv_iconst (v := 1) hx hb dX6_endDay_74 (by decide) ?_
                refine lv_goto (tgt := 79) hx hb dX6_endDay_75 (by decide) ?_
                refine lv_iadd hx hb dX6_endDay_79 ?_
                refine lv_as (y := nI (m_repc (up r 0 0 0) n j + 1)) (nI_1 (m_repc (up r 0 0 0) n j)) ?_
                refine lv_istore_n (lv' := [(1, .int (nI (m_repc (up r 0 0 0) n j + 1))), (3, .int (nI (m_h (m_rep (up r 0 0 0) n j) n ((m_rep (up r 0 0 0) n j) 1 j)))), (0, .ref (ad 0)), (2, .int (nI j))]) hx hb dX6_endDay_80 rfl hl (by decide) rfl (fun ls hl => ?_)
                refine lv_iinc (v := nI (j + 1)) (lv' := [(2, .int (nI (j + 1))), (1, .int (nI (m_repc (up r 0 0 0) n j + 1))), (3, .int (nI (m_h (m_rep (up r 0 0 0) n j) n ((m_rep (up r 0 0 0) n j) 1 j)))), (0, .ref (ad 0))]) hx hb dX6_endDay_81 hl (k := 3) rfl (nI_1 j) (by decide) rfl (fun ls hl => ?_)
                refine lv_goto (tgt := 24) hx hb dX6_endDay_84 (by decide) ?_
                have es : (mw cA ad (m_d1 (m_rep (up r 0 0 0) n j) n ((m_rep (up r 0 0 0) n j) 1 j) 1)) = (mw cA ad (m_rep (up r 0 0 0) n (j + 1))) := by rw [m_rep_n (by rintro (z | z) <;> contradiction)]
                rw [es] at hP hD
                exact ih24 (j + 1) (by omega) (by omega) ls (lv_cast (lv_sub (l' := [(0, .ref (ad 0)), (1, .int (nI (m_repc (up r 0 0 0) n j + 1))), (2, .int (nI (j + 1)))]) hl [3, 1, 0] rfl) (by rw [m_repc_n (by rintro (z | z) <;> contradiction)])) _ _ hP hD hS
            · skip
              have g51 : ct (isU ((m_rep (up r 0 0 0) n j) 1) ((m_rep (up r 0 0 0) n j) 4) ((m_rep (up r 0 0 0) n j) 1 j)) n = 0 := (nI_eq (a := ct (isU ((m_rep (up r 0 0 0) n j) 1) ((m_rep (up r 0 0 0) n j) 4) ((m_rep (up r 0 0 0) n j) 1 j)) n) (b := 0) (by omega) (by omega)).mp b51
              refine lv_goto (tgt := 81) hx hb dX6_endDay_54 (by decide) ?_
              refine lv_iinc (v := nI (j + 1)) (lv' := [(2, .int (nI (j + 1))), (0, .ref (ad 0)), (1, .int (nI (m_repc (up r 0 0 0) n j)))]) hx hb dX6_endDay_81 hl (k := 2) rfl (nI_1 j) (by decide) rfl (fun ls hl => ?_)
              refine lv_goto (tgt := 24) hx hb dX6_endDay_84 (by decide) ?_
              have es : (mw cA ad (m_rep (up r 0 0 0) n j)) = (mw cA ad (m_rep (up r 0 0 0) n (j + 1))) := by rw [m_rep_p (Or.inr g51)]
              rw [es] at hP hD
              exact ih24 (j + 1) (by omega) (by omega) ls (lv_cast (lv_sub (l' := [(0, .ref (ad 0)), (1, .int (nI (m_repc (up r 0 0 0) n j))), (2, .int (nI (j + 1)))]) hl [1, 2, 0] rfl) (by rw [m_repc_p (Or.inr g51)])) _ _ hP hD hS
    have es : (mw cA ad (up r 0 0 0)) = (mw cA ad (m_rep (up r 0 0 0) n 0)) := rfl
    rw [es] at hP hD
    exact hL24 _ 0 (Nat.lt_succ_self _) (Nat.zero_le _) ls (lv_cast (lv_sub (l' := [(0, .ref (ad 0)), (1, .int 0), (2, .int 0)]) hl [2, 1, 0] rfl) (by rfl)) _ _ hP hD hS
  · skip
    exact absurd b6 h99
