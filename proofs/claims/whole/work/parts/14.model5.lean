set_option maxHeartbeats 4000000 in
set_option maxRecDepth 100000 in
theorem rr_fits1 (l : Launch) (dg : va_G) (cA : Nat → ClassId) (ad : Nat → Nat) (r : St) (n : Nat) (hn : r 0 3 = nI n) (hn24 : n ≤ 24) (k : Int32) (sz : Nat) : MetM l dg cA yX6_fits cX6_fits 8 none ({ frames := 2, cells := 0, slots := 0, locals := 47 } : Room) 0 0 (mw cA ad r) sz [.ref (ad 0), .int k, .int 1] (mw cA ad (m_fits r 1 k n)) none := by
  refine ofM (by decide) (Nat.le_of_ble_eq_true rfl) (own := RX6) rfl (fun p e s0 m args below meth ccd ls A hAe S hr hlk hname hargs hK hP hD hS hA hsz hl => ?_)
  have hx := S.1
  have hb := S.2.1
  have hl : lv_has ls 8 [(0, .ref (ad 0)), (1, .int k), (2, .int 1)] := hl
  refine lv_iconst (v := 0) hx hb dX6_fits_0 (by decide) ?_
  refine lv_istore_n (lv' := [(3, .int 0), (0, .ref (ad 0)), (1, .int k), (2, .int 1)]) hx hb dX6_fits_1 rfl hl (by decide) rfl (fun ls hl => ?_)
  refine lv_iconst (v := 0) hx hb dX6_fits_2 (by decide) ?_
  refine lv_istore (lv' := [(4, .int 0), (3, .int 0), (0, .ref (ad 0)), (1, .int k), (2, .int 1)]) hx hb dX6_fits_3 hl (by decide) rfl (fun ls hl => ?_)
  refine lv_iconst (v := 0) hx hb dX6_fits_5 (by decide) ?_
  refine lv_istore (lv' := [(5, .int 0), (4, .int 0), (3, .int 0), (0, .ref (ad 0)), (1, .int k), (2, .int 1)]) hx hb dX6_fits_6 hl (by decide) rfl (fun ls hl => ?_)
  have hL8 : ∀ (f : Nat) (j : Nat), n - j < f → (j ≤ n) → ∀ ls, lv_has ls 8 [(0, .ref (ad 0)), (1, .int k), (2, .int 1), (3, .int (fs_sum (fs_mem (r 4) (r 1) k) (r 13) j)), (4, .int (nI (ct (fs_mem (r 4) (r 1) k) j))), (5, .int (nI j))] → ∀ (H : Heap) (locs : List Loc), PP dg (mw cA ad r) H → va_D A (mw cA ad r) → va_S A s0.heap H locs → W p l e ({ frames := 2, cells := 0, slots := 0, locals := 47 } : Room) s0 m args below meth ccd H locs 0 0 (MQ below (QcM dg (mw cA ad (m_fits r 1 k n)) none A) args s0 0 0 A) (F0 m 8 ls []) := by
    intro f
    induction f with
    | zero => intro j hm; exact absurd hm (Nat.not_lt_zero _)
    | succ f ih8 =>
      intro j hm8 hj ls hl H locs hP hD hS
      refine lv_iload hx hb dX6_fits_8 (lv_at hl 5 rfl) ?_
      refine lv_aload_n hx hb dX6_fits_10 rfl (lv_at hl 0 rfl) ?_
      refine gf S hK hP 0 ml_0 fX6_93 (v := .int (nI n)) (mv_3 hn) dX6_fits_11 ?_
      refine lv_icmp_ge (tgt := 62) hx hb dX6_fits_14 (by decide) (fun b14 => ?_) (fun b14 => ?_)
      · skip
        have g14 : n ≤ j := (nI_leI (a := n) (b := j) (by omega) (by omega)).mp b14
        have ej : j = n := by omega
        rw [ej] at hl
        have hctl := ct_le (fs_mem (r 4) (r 1) k) n
        refine lv_iload hx hb dX6_fits_62 (lv_at hl 4 rfl) ?_
        refine lv_if_ne (tgt := 68) hx hb dX6_fits_64 (by decide) (fun b64 => ?_) (fun b64 => ?_)
        · skip
          have g64 : ¬ ct (fs_mem (r 4) (r 1) k) n = 0 := fun zz => b64 ((nI_eq (a := ct (fs_mem (r 4) (r 1) k) n) (b := 0) (by omega) (by omega)).mpr zz)
          refine lv_aload_n hx hb dX6_fits_68 rfl (lv_at hl 0 rfl) ?_
          refine lv_iload_n hx hb dX6_fits_69 rfl (lv_at hl 1 rfl) ?_
          refine lv_iload_n hx hb dX6_fits_70 rfl (lv_at hl 2 rfl) ?_
          refine cR S (rr_goal1 l dg cA ad r n hn hn24 k) kX6_143 ⟨rfl, rfl, Nat.le_of_ble_eq_true rfl, Nat.le_of_ble_eq_true rfl⟩ hK hP 0 ml_0 (q := (RX6, TX6, 31)) rfl rfl (As := [.int k, .int 1]) rfl hl.1 (rest := []) rfl (Nat.le_of_ble_eq_true rfl) dX6_fits_71 ⟨Nat.le_of_ble_eq_true rfl, Nat.le_of_ble_eq_true rfl⟩ (st1 := [.int (m_gl (r 1) (r 4) (r 14) k n)]) rfl ?_
          refine lv_istore (lv' := [(5, .int (m_gl (r 1) (r 4) (r 14) k n)), (0, .ref (ad 0)), (1, .int k), (2, .int 1), (3, .int (fs_sum (fs_mem (r 4) (r 1) k) (r 13) n)), (4, .int (nI (ct (fs_mem (r 4) (r 1) k) n)))]) hx hb dX6_fits_74 hl (by decide) rfl (fun ls hl => ?_)
          refine lv_iload hx hb dX6_fits_76 (lv_at hl 0 rfl) ?_
          refine lv_istore (lv' := [(6, .int (m_gl (r 1) (r 4) (r 14) k n)), (5, .int (m_gl (r 1) (r 4) (r 14) k n)), (0, .ref (ad 0)), (1, .int k), (2, .int 1), (3, .int (fs_sum (fs_mem (r 4) (r 1) k) (r 13) n)), (4, .int (nI (ct (fs_mem (r 4) (r 1) k) n)))]) hx hb dX6_fits_78 hl (by decide) rfl (fun ls hl => ?_)
          refine lv_iconst (v := 0) hx hb dX6_fits_80 (by decide) ?_
          refine lv_istore (lv' := [(7, .int 0), (6, .int (m_gl (r 1) (r 4) (r 14) k n)), (5, .int (m_gl (r 1) (r 4) (r 14) k n)), (0, .ref (ad 0)), (1, .int k), (2, .int 1), (3, .int (fs_sum (fs_mem (r 4) (r 1) k) (r 13) n)), (4, .int (nI (ct (fs_mem (r 4) (r 1) k) n)))]) hx hb dX6_fits_81 hl (by decide) rfl (fun ls hl => ?_)
          have hL83 : ∀ (f : Nat) (h2 : Nat), n - h2 < f → (h2 ≤ n) → ∀ ls, lv_has ls 8 [(0, .ref (ad 0)), (1, .int k), (2, .int 1), (3, .int (fs_sum (fs_mem (r 4) (r 1) k) (r 13) n)), (4, .int (nI (ct (fs_mem (r 4) (r 1) k) n))), (5, .int (m_gl (r 1) (r 4) (r 14) k n)), (6, .int (fs_ms (fs_mem (r 4) (r 1) k) (r 13) (fs_nw (fs_sum (fs_mem (r 4) (r 1) k) (r 13) n) (m_gl (r 1) (r 4) (r 14) k n) (ct (fs_mem (r 4) (r 1) k) n)) (m_gl (r 1) (r 4) (r 14) k n) h2)), (7, .int (nI h2))] → ∀ (H : Heap) (locs : List Loc), PP dg (mw cA ad (upr r 13 (fs_w1 (fs_mem (r 4) (r 1) k) (r 13) (fs_nw (fs_sum (fs_mem (r 4) (r 1) k) (r 13) n) (m_gl (r 1) (r 4) (r 14) k n) (ct (fs_mem (r 4) (r 1) k) n)) h2))) H → va_D A (mw cA ad (upr r 13 (fs_w1 (fs_mem (r 4) (r 1) k) (r 13) (fs_nw (fs_sum (fs_mem (r 4) (r 1) k) (r 13) n) (m_gl (r 1) (r 4) (r 14) k n) (ct (fs_mem (r 4) (r 1) k) n)) h2))) → va_S A s0.heap H locs → W p l e ({ frames := 2, cells := 0, slots := 0, locals := 47 } : Room) s0 m args below meth ccd H locs 0 0 (MQ below (QcM dg (mw cA ad (m_fits r 1 k n)) none A) args s0 0 0 A) (F0 m 83 ls []) := by
            intro f
            induction f with
            | zero => intro h2 hm; exact absurd hm (Nat.not_lt_zero _)
            | succ f ih83 =>
              intro h2 hm83 hj2 ls hl H locs hP hD hS
              refine lv_iload hx hb dX6_fits_83 (lv_at hl 7 rfl) ?_
              refine lv_aload_n hx hb dX6_fits_85 rfl (lv_at hl 0 rfl) ?_
              refine gf S hK hP 0 ml_0 fX6_93 (v := .int (nI n)) (mv_3 hn) dX6_fits_86 ?_
              refine lv_icmp_ge (tgt := 167) hx hb dX6_fits_89 (by decide) (fun b89 => ?_) (fun b89 => ?_)
              · skip
                have g89 : n ≤ h2 := (nI_leI (a := n) (b := h2) (by omega) (by omega)).mp b89
                have eh2 : h2 = n := by omega
                rw [eh2] at hl hP hD
                refine lv_iconst (v := 0) hx hb dX6_fits_167 (by decide) ?_
                refine lv_istore (lv' := [(7, .int 0), (0, .ref (ad 0)), (1, .int k), (2, .int 1), (3, .int (fs_sum (fs_mem (r 4) (r 1) k) (r 13) n)), (4, .int (nI (ct (fs_mem (r 4) (r 1) k) n))), (5, .int (m_gl (r 1) (r 4) (r 14) k n)), (6, .int (fs_ms (fs_mem (r 4) (r 1) k) (r 13) (fs_nw (fs_sum (fs_mem (r 4) (r 1) k) (r 13) n) (m_gl (r 1) (r 4) (r 14) k n) (ct (fs_mem (r 4) (r 1) k) n)) (m_gl (r 1) (r 4) (r 14) k n) n))]) hx hb dX6_fits_168 hl (by decide) rfl (fun ls hl => ?_)
                have hL170 : ∀ (f : Nat) (h3 : Nat), n - h3 < f → (h3 ≤ n) → ∀ ls, lv_has ls 8 [(0, .ref (ad 0)), (1, .int k), (2, .int 1), (3, .int (fs_sum (fs_mem (r 4) (r 1) k) (r 13) n)), (4, .int (nI (ct (fs_mem (r 4) (r 1) k) n))), (5, .int (m_gl (r 1) (r 4) (r 14) k n)), (6, .int ((fs_w2 (fs_mem (r 4) (r 1) k) (fs_w1 (fs_mem (r 4) (r 1) k) (r 13) (fs_nw (fs_sum (fs_mem (r 4) (r 1) k) (r 13) n) (m_gl (r 1) (r 4) (r 14) k n) (ct (fs_mem (r 4) (r 1) k) n)) n) (fs_ms (fs_mem (r 4) (r 1) k) (r 13) (fs_nw (fs_sum (fs_mem (r 4) (r 1) k) (r 13) n) (m_gl (r 1) (r 4) (r 14) k n) (ct (fs_mem (r 4) (r 1) k) n)) (m_gl (r 1) (r 4) (r 14) k n) n) h3).2)), (7, .int (nI h3))] → ∀ (H : Heap) (locs : List Loc), PP dg (mw cA ad (upr r 13 (fs_w2 (fs_mem (r 4) (r 1) k) (fs_w1 (fs_mem (r 4) (r 1) k) (r 13) (fs_nw (fs_sum (fs_mem (r 4) (r 1) k) (r 13) n) (m_gl (r 1) (r 4) (r 14) k n) (ct (fs_mem (r 4) (r 1) k) n)) n) (fs_ms (fs_mem (r 4) (r 1) k) (r 13) (fs_nw (fs_sum (fs_mem (r 4) (r 1) k) (r 13) n) (m_gl (r 1) (r 4) (r 14) k n) (ct (fs_mem (r 4) (r 1) k) n)) (m_gl (r 1) (r 4) (r 14) k n) n) h3).1)) H → va_D A (mw cA ad (upr r 13 (fs_w2 (fs_mem (r 4) (r 1) k) (fs_w1 (fs_mem (r 4) (r 1) k) (r 13) (fs_nw (fs_sum (fs_mem (r 4) (r 1) k) (r 13) n) (m_gl (r 1) (r 4) (r 14) k n) (ct (fs_mem (r 4) (r 1) k) n)) n) (fs_ms (fs_mem (r 4) (r 1) k) (r 13) (fs_nw (fs_sum (fs_mem (r 4) (r 1) k) (r 13) n) (m_gl (r 1) (r 4) (r 14) k n) (ct (fs_mem (r 4) (r 1) k) n)) (m_gl (r 1) (r 4) (r 14) k n) n) h3).1)) → va_S A s0.heap H locs → W p l e ({ frames := 2, cells := 0, slots := 0, locals := 47 } : Room) s0 m args below meth ccd H locs 0 0 (MQ below (QcM dg (mw cA ad (m_fits r 1 k n)) none A) args s0 0 0 A) (F0 m 170 ls []) := by
                  intro f
                  induction f with
                  | zero => intro h3 hm; exact absurd hm (Nat.not_lt_zero _)
                  | succ f ih170 =>
                    intro h3 hm170 hj3 ls hl H locs hP hD hS
                    refine lv_iload hx hb dX6_fits_170 (lv_at hl 7 rfl) ?_
                    refine lv_aload_n hx hb dX6_fits_172 rfl (lv_at hl 0 rfl) ?_
                    refine gf S hK hP 0 ml_0 fX6_93 (v := .int (nI n)) (mv_3 hn) dX6_fits_173 ?_
                    refine lv_icmp_ge (tgt := 230) hx hb dX6_fits_176 (by decide) (fun b176 => ?_) (fun b176 => ?_)
                    · skip
                      have g176 : n ≤ h3 := (nI_leI (a := n) (b := h3) (by omega) (by omega)).mp b176
                      exact eMv S hr hlk hP hD hS dX6_fits_230 (by unfold m_fits fs_fit; rw [if_neg g64, show h3 = n by omega])
                    · skip
                      have g176 : ¬ n ≤ h3 := fun zz => b176 ((nI_leI (a := n) (b := h3) (by omega) (by omega)).mpr zz)
                      refine lv_iload hx hb dX6_fits_179 (lv_at hl 6 rfl) ?_
                      refine lv_if_le (tgt := 230) hx hb dX6_fits_181 (by decide) (fun b181 => ?_) (fun b181 => ?_)
                      · skip
                        exact eMv S hr hlk hP hD hS dX6_fits_230 (by unfold m_fits fs_fit; rw [if_neg g64, fs_w2_end (fun z => Int32.not_lt.mpr b181 z) hj3])
                      · skip
                        refine lv_aload_n hx hb dX6_fits_184 rfl (lv_at hl 0 rfl) ?_
                        refine gf S hK hP 0 ml_0 fX6_23 (v := .ref (ad 4)) mr_4 dX6_fits_185 ?_
                        refine lv_iload hx hb dX6_fits_188 (lv_at hl 7 rfl) ?_
                        refine ild S hK hP 4 ml_4 (j := h3) (by omega) (Nat.le_of_ble_eq_true rfl) dX6_fits_190 ?_
                        refine lv_as (y := r 4 h3) rfl ?_
                        refine lv_bipush (v := 97) hx hb dX6_fits_191 (by decide) ?_
                        refine lv_icmp_ne (tgt := 224) hx hb dX6_fits_193 (by decide) (fun b193 => ?_) (fun b193 => ?_)
                        · skip
                          refine lv_iinc (v := nI (h3 + 1)) (lv' := [(7, .int (nI (h3 + 1))), (0, .ref (ad 0)), (1, .int k), (2, .int 1), (3, .int (fs_sum (fs_mem (r 4) (r 1) k) (r 13) n)), (4, .int (nI (ct (fs_mem (r 4) (r 1) k) n))), (5, .int (m_gl (r 1) (r 4) (r 14) k n)), (6, .int ((fs_w2 (fs_mem (r 4) (r 1) k) (fs_w1 (fs_mem (r 4) (r 1) k) (r 13) (fs_nw (fs_sum (fs_mem (r 4) (r 1) k) (r 13) n) (m_gl (r 1) (r 4) (r 14) k n) (ct (fs_mem (r 4) (r 1) k) n)) n) (fs_ms (fs_mem (r 4) (r 1) k) (r 13) (fs_nw (fs_sum (fs_mem (r 4) (r 1) k) (r 13) n) (m_gl (r 1) (r 4) (r 14) k n) (ct (fs_mem (r 4) (r 1) k) n)) (m_gl (r 1) (r 4) (r 14) k n) n) h3).2))]) hx hb dX6_fits_224 hl (k := 7) rfl (nI_1 h3) (by decide) rfl (fun ls hl => ?_)
                          refine lv_goto (tgt := 170) hx hb dX6_fits_227 (by decide) ?_
                          have e9 := fs_mem_f1 (stt := r 4) (g := r 1) (k := k) (j := h3) b193
                          have es : (mw cA ad (upr r 13 (fs_w2 (fs_mem (r 4) (r 1) k) (fs_w1 (fs_mem (r 4) (r 1) k) (r 13) (fs_nw (fs_sum (fs_mem (r 4) (r 1) k) (r 13) n) (m_gl (r 1) (r 4) (r 14) k n) (ct (fs_mem (r 4) (r 1) k) n)) n) (fs_ms (fs_mem (r 4) (r 1) k) (r 13) (fs_nw (fs_sum (fs_mem (r 4) (r 1) k) (r 13) n) (m_gl (r 1) (r 4) (r 14) k n) (ct (fs_mem (r 4) (r 1) k) n)) (m_gl (r 1) (r 4) (r 14) k n) n) h3).1)) = (mw cA ad (upr r 13 (fs_w2 (fs_mem (r 4) (r 1) k) (fs_w1 (fs_mem (r 4) (r 1) k) (r 13) (fs_nw (fs_sum (fs_mem (r 4) (r 1) k) (r 13) n) (m_gl (r 1) (r 4) (r 14) k n) (ct (fs_mem (r 4) (r 1) k) n)) n) (fs_ms (fs_mem (r 4) (r 1) k) (r 13) (fs_nw (fs_sum (fs_mem (r 4) (r 1) k) (r 13) n) (m_gl (r 1) (r 4) (r 14) k n) (ct (fs_mem (r 4) (r 1) k) n)) (m_gl (r 1) (r 4) (r 14) k n) n) (h3 + 1)).1)) := by rw [fs_w2_f e9]
                          rw [es] at hP hD
                          exact ih170 (h3 + 1) (by omega) (by omega) ls (lv_cast (lv_sub (l' := [(0, .ref (ad 0)), (1, .int k), (2, .int 1), (3, .int (fs_sum (fs_mem (r 4) (r 1) k) (r 13) n)), (4, .int (nI (ct (fs_mem (r 4) (r 1) k) n))), (5, .int (m_gl (r 1) (r 4) (r 14) k n)), (6, .int ((fs_w2 (fs_mem (r 4) (r 1) k) (fs_w1 (fs_mem (r 4) (r 1) k) (r 13) (fs_nw (fs_sum (fs_mem (r 4) (r 1) k) (r 13) n) (m_gl (r 1) (r 4) (r 14) k n) (ct (fs_mem (r 4) (r 1) k) n)) n) (fs_ms (fs_mem (r 4) (r 1) k) (r 13) (fs_nw (fs_sum (fs_mem (r 4) (r 1) k) (r 13) n) (m_gl (r 1) (r 4) (r 14) k n) (ct (fs_mem (r 4) (r 1) k) n)) (m_gl (r 1) (r 4) (r 14) k n) n) h3).2)), (7, .int (nI (h3 + 1)))]) hl [1, 2, 3, 4, 5, 6, 7, 0] rfl) (by rw [fs_w2_f e9])) _ _ hP hD hS
                        · skip
                          refine lv_aload_n hx hb dX6_fits_196 rfl (lv_at hl 0 rfl) ?_
                          refine lv_iload hx hb dX6_fits_197 (lv_at hl 7 rfl) ?_
                          refine lv_iload_n hx hb dX6_fits_199 rfl (lv_at hl 1 rfl) ?_
                          refine lv_iload_n hx hb dX6_fits_200 rfl (lv_at hl 2 rfl) ?_
                          refine cR S (rr_isOf1 l dg cA ad (upr r 13 (fs_w2 (fs_mem (r 4) (r 1) k) (fs_w1 (fs_mem (r 4) (r 1) k) (r 13) (fs_nw (fs_sum (fs_mem (r 4) (r 1) k) (r 13) n) (m_gl (r 1) (r 4) (r 14) k n) (ct (fs_mem (r 4) (r 1) k) n)) n) (fs_ms (fs_mem (r 4) (r 1) k) (r 13) (fs_nw (fs_sum (fs_mem (r 4) (r 1) k) (r 13) n) (m_gl (r 1) (r 4) (r 14) k n) (ct (fs_mem (r 4) (r 1) k) n)) (m_gl (r 1) (r 4) (r 14) k n) n) h3).1) h3 (by omega) k) kX6_139 ⟨rfl, rfl, Nat.le_of_ble_eq_true rfl, Nat.le_of_ble_eq_true rfl⟩ hK hP 0 ml_0 (q := (RX6, TX6, 31)) rfl rfl (As := [.int (nI h3), .int k, .int 1]) rfl hl.1 (rest := []) rfl (Nat.le_of_ble_eq_true rfl) dX6_fits_201 ⟨Nat.le_of_ble_eq_true rfl, Nat.le_of_ble_eq_true rfl⟩ (st1 := [.int (b2 (decide (r 1 h3 = k)))]) rfl ?_
                          refine lv_if_ne (tgt := 210) hx hb dX6_fits_204 (by decide) (fun b204 => ?_) (fun b204 => ?_)
                          · skip
                            have c204 := b2d1 b204
                            refine lv_aload_n hx hb dX6_fits_210 rfl (lv_at hl 0 rfl) ?_
                            refine gf S hK hP 0 ml_0 fX6_50 (v := .ref (ad 13)) mr_13 dX6_fits_211 ?_
                            refine lv_iload hx hb dX6_fits_214 (lv_at hl 7 rfl) ?_
                            refine lv_dup2_11 hx hb dX6_fits_216 rfl rfl ?_
                            refine ild S hK hP 13 ml_13 (j := h3) (by omega) (Nat.le_of_ble_eq_true rfl) dX6_fits_217 ?_
                            refine lv_as (y := ((fs_w2 (fs_mem (r 4) (r 1) k) (fs_w1 (fs_mem (r 4) (r 1) k) (r 13) (fs_nw (fs_sum (fs_mem (r 4) (r 1) k) (r 13) n) (m_gl (r 1) (r 4) (r 14) k n) (ct (fs_mem (r 4) (r 1) k) n)) n) (fs_ms (fs_mem (r 4) (r 1) k) (r 13) (fs_nw (fs_sum (fs_mem (r 4) (r 1) k) (r 13) n) (m_gl (r 1) (r 4) (r 14) k n) (ct (fs_mem (r 4) (r 1) k) n)) (m_gl (r 1) (r 4) (r 14) k n) n) h3).1) h3) rfl ?_
                            refine lv_iconst (v := 1) hx hb dX6_fits_218 (by decide) ?_
                            refine lv_iadd hx hb dX6_fits_219 ?_
                            refine ist S hK hP hD hS 13 ml_13 (j := h3) (x := (((fs_w2 (fs_mem (r 4) (r 1) k) (fs_w1 (fs_mem (r 4) (r 1) k) (r 13) (fs_nw (fs_sum (fs_mem (r 4) (r 1) k) (r 13) n) (m_gl (r 1) (r 4) (r 14) k n) (ct (fs_mem (r 4) (r 1) k) n)) n) (fs_ms (fs_mem (r 4) (r 1) k) (r 13) (fs_nw (fs_sum (fs_mem (r 4) (r 1) k) (r 13) n) (m_gl (r 1) (r 4) (r 14) k n) (ct (fs_mem (r 4) (r 1) k) n)) (m_gl (r 1) (r 4) (r 14) k n) n) h3).1) h3) + 1) (by omega) (Nat.le_of_ble_eq_true rfl) ms_13 dX6_fits_220 (fun H locs hP hD hS => ?_)
                            refine lv_iinc (v := ((fs_w2 (fs_mem (r 4) (r 1) k) (fs_w1 (fs_mem (r 4) (r 1) k) (r 13) (fs_nw (fs_sum (fs_mem (r 4) (r 1) k) (r 13) n) (m_gl (r 1) (r 4) (r 14) k n) (ct (fs_mem (r 4) (r 1) k) n)) n) (fs_ms (fs_mem (r 4) (r 1) k) (r 13) (fs_nw (fs_sum (fs_mem (r 4) (r 1) k) (r 13) n) (m_gl (r 1) (r 4) (r 14) k n) (ct (fs_mem (r 4) (r 1) k) n)) (m_gl (r 1) (r 4) (r 14) k n) n) h3).2) + (-1)) (lv' := [(6, .int (((fs_w2 (fs_mem (r 4) (r 1) k) (fs_w1 (fs_mem (r 4) (r 1) k) (r 13) (fs_nw (fs_sum (fs_mem (r 4) (r 1) k) (r 13) n) (m_gl (r 1) (r 4) (r 14) k n) (ct (fs_mem (r 4) (r 1) k) n)) n) (fs_ms (fs_mem (r 4) (r 1) k) (r 13) (fs_nw (fs_sum (fs_mem (r 4) (r 1) k) (r 13) n) (m_gl (r 1) (r 4) (r 14) k n) (ct (fs_mem (r 4) (r 1) k) n)) (m_gl (r 1) (r 4) (r 14) k n) n) h3).2) + (-1))), (0, .ref (ad 0)), (1, .int k), (2, .int 1), (3, .int (fs_sum (fs_mem (r 4) (r 1) k) (r 13) n)), (4, .int (nI (ct (fs_mem (r 4) (r 1) k) n))), (5, .int (m_gl (r 1) (r 4) (r 14) k n)), (7, .int (nI h3))]) hx hb dX6_fits_221 hl (k := 6) rfl (by rw [i32_m1]) (by decide) rfl (fun ls hl => ?_)
                            refine lv_iinc (v := nI (h3 + 1)) (lv' := [(7, .int (nI (h3 + 1))), (6, .int (((fs_w2 (fs_mem (r 4) (r 1) k) (fs_w1 (fs_mem (r 4) (r 1) k) (r 13) (fs_nw (fs_sum (fs_mem (r 4) (r 1) k) (r 13) n) (m_gl (r 1) (r 4) (r 14) k n) (ct (fs_mem (r 4) (r 1) k) n)) n) (fs_ms (fs_mem (r 4) (r 1) k) (r 13) (fs_nw (fs_sum (fs_mem (r 4) (r 1) k) (r 13) n) (m_gl (r 1) (r 4) (r 14) k n) (ct (fs_mem (r 4) (r 1) k) n)) (m_gl (r 1) (r 4) (r 14) k n) n) h3).2) + (-1))), (0, .ref (ad 0)), (1, .int k), (2, .int 1), (3, .int (fs_sum (fs_mem (r 4) (r 1) k) (r 13) n)), (4, .int (nI (ct (fs_mem (r 4) (r 1) k) n))), (5, .int (m_gl (r 1) (r 4) (r 14) k n))]) hx hb dX6_fits_224 hl (k := 7) rfl (nI_1 h3) (by decide) rfl (fun ls hl => ?_)
                            refine lv_goto (tgt := 170) hx hb dX6_fits_227 (by decide) ?_
                            have e9 := fs_mem_t (stt := r 4) (g := r 1) (k := k) (j := h3) b193 c204
                            have es : (mw cA ad (up (upr r 13 (fs_w2 (fs_mem (r 4) (r 1) k) (fs_w1 (fs_mem (r 4) (r 1) k) (r 13) (fs_nw (fs_sum (fs_mem (r 4) (r 1) k) (r 13) n) (m_gl (r 1) (r 4) (r 14) k n) (ct (fs_mem (r 4) (r 1) k) n)) n) (fs_ms (fs_mem (r 4) (r 1) k) (r 13) (fs_nw (fs_sum (fs_mem (r 4) (r 1) k) (r 13) n) (m_gl (r 1) (r 4) (r 14) k n) (ct (fs_mem (r 4) (r 1) k) n)) (m_gl (r 1) (r 4) (r 14) k n) n) h3).1) 13 h3 ((((fs_w2 (fs_mem (r 4) (r 1) k) (fs_w1 (fs_mem (r 4) (r 1) k) (r 13) (fs_nw (fs_sum (fs_mem (r 4) (r 1) k) (r 13) n) (m_gl (r 1) (r 4) (r 14) k n) (ct (fs_mem (r 4) (r 1) k) n)) n) (fs_ms (fs_mem (r 4) (r 1) k) (r 13) (fs_nw (fs_sum (fs_mem (r 4) (r 1) k) (r 13) n) (m_gl (r 1) (r 4) (r 14) k n) (ct (fs_mem (r 4) (r 1) k) n)) (m_gl (r 1) (r 4) (r 14) k n) n) h3).1) h3) + 1))) = (mw cA ad (upr r 13 (fs_w2 (fs_mem (r 4) (r 1) k) (fs_w1 (fs_mem (r 4) (r 1) k) (r 13) (fs_nw (fs_sum (fs_mem (r 4) (r 1) k) (r 13) n) (m_gl (r 1) (r 4) (r 14) k n) (ct (fs_mem (r 4) (r 1) k) n)) n) (fs_ms (fs_mem (r 4) (r 1) k) (r 13) (fs_nw (fs_sum (fs_mem (r 4) (r 1) k) (r 13) n) (m_gl (r 1) (r 4) (r 14) k n) (ct (fs_mem (r 4) (r 1) k) n)) (m_gl (r 1) (r 4) (r 14) k n) n) (h3 + 1)).1)) := by rw [up_upr, fs_w2_t e9 (Int32.not_le.mp b181)]
                            rw [es] at hP hD
                            exact ih170 (h3 + 1) (by omega) (by omega) ls (lv_cast (lv_sub (l' := [(0, .ref (ad 0)), (1, .int k), (2, .int 1), (3, .int (fs_sum (fs_mem (r 4) (r 1) k) (r 13) n)), (4, .int (nI (ct (fs_mem (r 4) (r 1) k) n))), (5, .int (m_gl (r 1) (r 4) (r 14) k n)), (6, .int (((fs_w2 (fs_mem (r 4) (r 1) k) (fs_w1 (fs_mem (r 4) (r 1) k) (r 13) (fs_nw (fs_sum (fs_mem (r 4) (r 1) k) (r 13) n) (m_gl (r 1) (r 4) (r 14) k n) (ct (fs_mem (r 4) (r 1) k) n)) n) (fs_ms (fs_mem (r 4) (r 1) k) (r 13) (fs_nw (fs_sum (fs_mem (r 4) (r 1) k) (r 13) n) (m_gl (r 1) (r 4) (r 14) k n) (ct (fs_mem (r 4) (r 1) k) n)) (m_gl (r 1) (r 4) (r 14) k n) n) h3).2) + (-1))), (7, .int (nI (h3 + 1)))]) hl [2, 3, 4, 5, 6, 7, 1, 0] rfl) (by rw [fs_w2_t e9 (Int32.not_le.mp b181)])) _ _ hP hD hS
                          · skip
                            have c204 := b2d0 b204
                            refine lv_goto (tgt := 224) hx hb dX6_fits_207 (by decide) ?_
                            refine lv_iinc (v := nI (h3 + 1)) (lv' := [(7, .int (nI (h3 + 1))), (0, .ref (ad 0)), (1, .int k), (2, .int 1), (3, .int (fs_sum (fs_mem (r 4) (r 1) k) (r 13) n)), (4, .int (nI (ct (fs_mem (r 4) (r 1) k) n))), (5, .int (m_gl (r 1) (r 4) (r 14) k n)), (6, .int ((fs_w2 (fs_mem (r 4) (r 1) k) (fs_w1 (fs_mem (r 4) (r 1) k) (r 13) (fs_nw (fs_sum (fs_mem (r 4) (r 1) k) (r 13) n) (m_gl (r 1) (r 4) (r 14) k n) (ct (fs_mem (r 4) (r 1) k) n)) n) (fs_ms (fs_mem (r 4) (r 1) k) (r 13) (fs_nw (fs_sum (fs_mem (r 4) (r 1) k) (r 13) n) (m_gl (r 1) (r 4) (r 14) k n) (ct (fs_mem (r 4) (r 1) k) n)) (m_gl (r 1) (r 4) (r 14) k n) n) h3).2))]) hx hb dX6_fits_224 hl (k := 7) rfl (nI_1 h3) (by decide) rfl (fun ls hl => ?_)
                            refine lv_goto (tgt := 170) hx hb dX6_fits_227 (by decide) ?_
                            have e9 := fs_mem_f2 (stt := r 4) (g := r 1) (k := k) (j := h3) c204
                            have es : (mw cA ad (upr r 13 (fs_w2 (fs_mem (r 4) (r 1) k) (fs_w1 (fs_mem (r 4) (r 1) k) (r 13) (fs_nw (fs_sum (fs_mem (r 4) (r 1) k) (r 13) n) (m_gl (r 1) (r 4) (r 14) k n) (ct (fs_mem (r 4) (r 1) k) n)) n) (fs_ms (fs_mem (r 4) (r 1) k) (r 13) (fs_nw (fs_sum (fs_mem (r 4) (r 1) k) (r 13) n) (m_gl (r 1) (r 4) (r 14) k n) (ct (fs_mem (r 4) (r 1) k) n)) (m_gl (r 1) (r 4) (r 14) k n) n) h3).1)) = (mw cA ad (upr r 13 (fs_w2 (fs_mem (r 4) (r 1) k) (fs_w1 (fs_mem (r 4) (r 1) k) (r 13) (fs_nw (fs_sum (fs_mem (r 4) (r 1) k) (r 13) n) (m_gl (r 1) (r 4) (r 14) k n) (ct (fs_mem (r 4) (r 1) k) n)) n) (fs_ms (fs_mem (r 4) (r 1) k) (r 13) (fs_nw (fs_sum (fs_mem (r 4) (r 1) k) (r 13) n) (m_gl (r 1) (r 4) (r 14) k n) (ct (fs_mem (r 4) (r 1) k) n)) (m_gl (r 1) (r 4) (r 14) k n) n) (h3 + 1)).1)) := by rw [fs_w2_f e9]
                            rw [es] at hP hD
                            exact ih170 (h3 + 1) (by omega) (by omega) ls (lv_cast (lv_sub (l' := [(0, .ref (ad 0)), (1, .int k), (2, .int 1), (3, .int (fs_sum (fs_mem (r 4) (r 1) k) (r 13) n)), (4, .int (nI (ct (fs_mem (r 4) (r 1) k) n))), (5, .int (m_gl (r 1) (r 4) (r 14) k n)), (6, .int ((fs_w2 (fs_mem (r 4) (r 1) k) (fs_w1 (fs_mem (r 4) (r 1) k) (r 13) (fs_nw (fs_sum (fs_mem (r 4) (r 1) k) (r 13) n) (m_gl (r 1) (r 4) (r 14) k n) (ct (fs_mem (r 4) (r 1) k) n)) n) (fs_ms (fs_mem (r 4) (r 1) k) (r 13) (fs_nw (fs_sum (fs_mem (r 4) (r 1) k) (r 13) n) (m_gl (r 1) (r 4) (r 14) k n) (ct (fs_mem (r 4) (r 1) k) n)) (m_gl (r 1) (r 4) (r 14) k n) n) h3).2)), (7, .int (nI (h3 + 1)))]) hl [1, 2, 3, 4, 5, 6, 7, 0] rfl) (by rw [fs_w2_f e9])) _ _ hP hD hS
                have es : (mw cA ad (upr r 13 (fs_w1 (fs_mem (r 4) (r 1) k) (r 13) (fs_nw (fs_sum (fs_mem (r 4) (r 1) k) (r 13) n) (m_gl (r 1) (r 4) (r 14) k n) (ct (fs_mem (r 4) (r 1) k) n)) n))) = (mw cA ad (upr r 13 (fs_w2 (fs_mem (r 4) (r 1) k) (fs_w1 (fs_mem (r 4) (r 1) k) (r 13) (fs_nw (fs_sum (fs_mem (r 4) (r 1) k) (r 13) n) (m_gl (r 1) (r 4) (r 14) k n) (ct (fs_mem (r 4) (r 1) k) n)) n) (fs_ms (fs_mem (r 4) (r 1) k) (r 13) (fs_nw (fs_sum (fs_mem (r 4) (r 1) k) (r 13) n) (m_gl (r 1) (r 4) (r 14) k n) (ct (fs_mem (r 4) (r 1) k) n)) (m_gl (r 1) (r 4) (r 14) k n) n) 0).1)) := rfl
                rw [es] at hP hD
                exact hL170 _ 0 (Nat.lt_succ_self _) (Nat.zero_le _) ls (lv_cast (lv_sub (l' := [(0, .ref (ad 0)), (1, .int k), (2, .int 1), (3, .int (fs_sum (fs_mem (r 4) (r 1) k) (r 13) n)), (4, .int (nI (ct (fs_mem (r 4) (r 1) k) n))), (5, .int (m_gl (r 1) (r 4) (r 14) k n)), (6, .int (fs_ms (fs_mem (r 4) (r 1) k) (r 13) (fs_nw (fs_sum (fs_mem (r 4) (r 1) k) (r 13) n) (m_gl (r 1) (r 4) (r 14) k n) (ct (fs_mem (r 4) (r 1) k) n)) (m_gl (r 1) (r 4) (r 14) k n) n)), (7, .int 0)]) hl [1, 2, 3, 4, 5, 6, 7, 0] rfl) (by rfl)) _ _ hP hD hS
              · skip
                have g89 : ¬ n ≤ h2 := fun zz => b89 ((nI_leI (a := n) (b := h2) (by omega) (by omega)).mpr zz)
                refine lv_aload_n hx hb dX6_fits_92 rfl (lv_at hl 0 rfl) ?_
                refine gf S hK hP 0 ml_0 fX6_23 (v := .ref (ad 4)) mr_4 dX6_fits_93 ?_
                refine lv_iload hx hb dX6_fits_96 (lv_at hl 7 rfl) ?_
                refine ild S hK hP 4 ml_4 (j := h2) (by omega) (Nat.le_of_ble_eq_true rfl) dX6_fits_98 ?_
                refine lv_as (y := r 4 h2) rfl ?_
                refine lv_bipush (v := 97) hx hb dX6_fits_99 (by decide) ?_
                refine lv_icmp_ne (tgt := 161) hx hb dX6_fits_101 (by decide) (fun b101 => ?_) (fun b101 => ?_)
                · skip
                  refine lv_iinc (v := nI (h2 + 1)) (lv' := [(7, .int (nI (h2 + 1))), (0, .ref (ad 0)), (1, .int k), (2, .int 1), (3, .int (fs_sum (fs_mem (r 4) (r 1) k) (r 13) n)), (4, .int (nI (ct (fs_mem (r 4) (r 1) k) n))), (5, .int (m_gl (r 1) (r 4) (r 14) k n)), (6, .int (fs_ms (fs_mem (r 4) (r 1) k) (r 13) (fs_nw (fs_sum (fs_mem (r 4) (r 1) k) (r 13) n) (m_gl (r 1) (r 4) (r 14) k n) (ct (fs_mem (r 4) (r 1) k) n)) (m_gl (r 1) (r 4) (r 14) k n) h2))]) hx hb dX6_fits_161 hl (k := 7) rfl (nI_1 h2) (by decide) rfl (fun ls hl => ?_)
                  refine lv_goto (tgt := 83) hx hb dX6_fits_164 (by decide) ?_
                  have e9 := fs_mem_f1 (stt := r 4) (g := r 1) (k := k) (j := h2) b101
                  have es : (mw cA ad (upr r 13 (fs_w1 (fs_mem (r 4) (r 1) k) (r 13) (fs_nw (fs_sum (fs_mem (r 4) (r 1) k) (r 13) n) (m_gl (r 1) (r 4) (r 14) k n) (ct (fs_mem (r 4) (r 1) k) n)) h2))) = (mw cA ad (upr r 13 (fs_w1 (fs_mem (r 4) (r 1) k) (r 13) (fs_nw (fs_sum (fs_mem (r 4) (r 1) k) (r 13) n) (m_gl (r 1) (r 4) (r 14) k n) (ct (fs_mem (r 4) (r 1) k) n)) (h2 + 1)))) := by rw [fs_w1_f e9]
                  rw [es] at hP hD
                  exact ih83 (h2 + 1) (by omega) (by omega) ls (lv_cast (lv_sub (l' := [(0, .ref (ad 0)), (1, .int k), (2, .int 1), (3, .int (fs_sum (fs_mem (r 4) (r 1) k) (r 13) n)), (4, .int (nI (ct (fs_mem (r 4) (r 1) k) n))), (5, .int (m_gl (r 1) (r 4) (r 14) k n)), (6, .int (fs_ms (fs_mem (r 4) (r 1) k) (r 13) (fs_nw (fs_sum (fs_mem (r 4) (r 1) k) (r 13) n) (m_gl (r 1) (r 4) (r 14) k n) (ct (fs_mem (r 4) (r 1) k) n)) (m_gl (r 1) (r 4) (r 14) k n) h2)), (7, .int (nI (h2 + 1)))]) hl [1, 2, 3, 4, 5, 6, 7, 0] rfl) (by rw [fs_ms_f e9])) _ _ hP hD hS
                · skip
                  refine lv_aload_n hx hb dX6_fits_104 rfl (lv_at hl 0 rfl) ?_
                  refine lv_iload hx hb dX6_fits_105 (lv_at hl 7 rfl) ?_
                  refine lv_iload_n hx hb dX6_fits_107 rfl (lv_at hl 1 rfl) ?_
                  refine lv_iload_n hx hb dX6_fits_108 rfl (lv_at hl 2 rfl) ?_
                  refine cR S (rr_isOf1 l dg cA ad (upr r 13 (fs_w1 (fs_mem (r 4) (r 1) k) (r 13) (fs_nw (fs_sum (fs_mem (r 4) (r 1) k) (r 13) n) (m_gl (r 1) (r 4) (r 14) k n) (ct (fs_mem (r 4) (r 1) k) n)) h2)) h2 (by omega) k) kX6_139 ⟨rfl, rfl, Nat.le_of_ble_eq_true rfl, Nat.le_of_ble_eq_true rfl⟩ hK hP 0 ml_0 (q := (RX6, TX6, 31)) rfl rfl (As := [.int (nI h2), .int k, .int 1]) rfl hl.1 (rest := []) rfl (Nat.le_of_ble_eq_true rfl) dX6_fits_109 ⟨Nat.le_of_ble_eq_true rfl, Nat.le_of_ble_eq_true rfl⟩ (st1 := [.int (b2 (decide (r 1 h2 = k)))]) rfl ?_
                  refine lv_if_ne (tgt := 118) hx hb dX6_fits_112 (by decide) (fun b112 => ?_) (fun b112 => ?_)
                  · skip
                    have c112 := b2d1 b112
                    refine lv_aload_n hx hb dX6_fits_118 rfl (lv_at hl 0 rfl) ?_
                    refine gf S hK hP 0 ml_0 fX6_50 (v := .ref (ad 13)) mr_13 dX6_fits_119 ?_
                    refine lv_iload hx hb dX6_fits_122 (lv_at hl 7 rfl) ?_
                    refine lv_iload_n hx hb dX6_fits_124 rfl (lv_at hl 3 rfl) ?_
                    refine lv_if_ne (tgt := 136) hx hb dX6_fits_125 (by decide) (fun b125 => ?_) (fun b125 => ?_)
                    · skip
                      refine lv_aload_n hx hb dX6_fits_136 rfl (lv_at hl 0 rfl) ?_
                      refine gf S hK hP 0 ml_0 fX6_50 (v := .ref (ad 13)) mr_13 dX6_fits_137 ?_
                      refine lv_iload hx hb dX6_fits_140 (lv_at hl 7 rfl) ?_
                      refine ild S hK hP 13 ml_13 (j := h2) (by omega) (Nat.le_of_ble_eq_true rfl) dX6_fits_142 ?_
                      refine lv_as (y := r 13 h2) (show upr r 13 (fs_w1 (fs_mem (r 4) (r 1) k) (r 13) (fs_nw (fs_sum (fs_mem (r 4) (r 1) k) (r 13) n) (m_gl (r 1) (r 4) (r 14) k n) (ct (fs_mem (r 4) (r 1) k) n)) h2) 13 h2 = r 13 h2 from fs_w1_ge (Nat.le_refl _)) ?_
                      refine lv_iload hx hb dX6_fits_143 (lv_at hl 5 rfl) ?_
                      refine lv_imul hx hb dX6_fits_145 ?_
                      refine lv_iload_n hx hb dX6_fits_146 rfl (lv_at hl 3 rfl) ?_
                      refine lv_idiv hx hb dX6_fits_147 b125 ?_
                      refine ist S hK hP hD hS 13 ml_13 (j := h2) (x := ((r 13 h2) * (m_gl (r 1) (r 4) (r 14) k n)) / (fs_sum (fs_mem (r 4) (r 1) k) (r 13) n)) (by omega) (Nat.le_of_ble_eq_true rfl) ms_13 dX6_fits_148 (fun H locs hP hD hS => ?_)
                      refine lv_iload hx hb dX6_fits_149 (lv_at hl 6 rfl) ?_
                      refine lv_aload_n hx hb dX6_fits_151 rfl (lv_at hl 0 rfl) ?_
                      refine gf S hK hP 0 ml_0 fX6_50 (v := .ref (ad 13)) mr_13 dX6_fits_152 ?_
                      refine lv_iload hx hb dX6_fits_155 (lv_at hl 7 rfl) ?_
                      refine ild S hK hP 13 ml_13 (j := h2) (by omega) (Nat.le_of_ble_eq_true rfl) dX6_fits_157 ?_
                      refine lv_as (y := ((r 13 h2) * (m_gl (r 1) (r 4) (r 14) k n)) / (fs_sum (fs_mem (r 4) (r 1) k) (r 13) n)) up_at ?_
                      refine lv_isub hx hb dX6_fits_158 ?_
                      refine lv_istore (lv' := [(6, .int ((fs_ms (fs_mem (r 4) (r 1) k) (r 13) (fs_nw (fs_sum (fs_mem (r 4) (r 1) k) (r 13) n) (m_gl (r 1) (r 4) (r 14) k n) (ct (fs_mem (r 4) (r 1) k) n)) (m_gl (r 1) (r 4) (r 14) k n) h2) - (((r 13 h2) * (m_gl (r 1) (r 4) (r 14) k n)) / (fs_sum (fs_mem (r 4) (r 1) k) (r 13) n)))), (0, .ref (ad 0)), (1, .int k), (2, .int 1), (3, .int (fs_sum (fs_mem (r 4) (r 1) k) (r 13) n)), (4, .int (nI (ct (fs_mem (r 4) (r 1) k) n))), (5, .int (m_gl (r 1) (r 4) (r 14) k n)), (7, .int (nI h2))]) hx hb dX6_fits_159 hl (by decide) rfl (fun ls hl => ?_)
                      refine lv_iinc (v := nI (h2 + 1)) (lv' := [(7, .int (nI (h2 + 1))), (6, .int ((fs_ms (fs_mem (r 4) (r 1) k) (r 13) (fs_nw (fs_sum (fs_mem (r 4) (r 1) k) (r 13) n) (m_gl (r 1) (r 4) (r 14) k n) (ct (fs_mem (r 4) (r 1) k) n)) (m_gl (r 1) (r 4) (r 14) k n) h2) - (((r 13 h2) * (m_gl (r 1) (r 4) (r 14) k n)) / (fs_sum (fs_mem (r 4) (r 1) k) (r 13) n)))), (0, .ref (ad 0)), (1, .int k), (2, .int 1), (3, .int (fs_sum (fs_mem (r 4) (r 1) k) (r 13) n)), (4, .int (nI (ct (fs_mem (r 4) (r 1) k) n))), (5, .int (m_gl (r 1) (r 4) (r 14) k n))]) hx hb dX6_fits_161 hl (k := 7) rfl (nI_1 h2) (by decide) rfl (fun ls hl => ?_)
                      refine lv_goto (tgt := 83) hx hb dX6_fits_164 (by decide) ?_
                      have e9 := fs_mem_t (stt := r 4) (g := r 1) (k := k) (j := h2) b101 c112
                      have es : (mw cA ad (up (upr r 13 (fs_w1 (fs_mem (r 4) (r 1) k) (r 13) (fs_nw (fs_sum (fs_mem (r 4) (r 1) k) (r 13) n) (m_gl (r 1) (r 4) (r 14) k n) (ct (fs_mem (r 4) (r 1) k) n)) h2)) 13 h2 (((r 13 h2) * (m_gl (r 1) (r 4) (r 14) k n)) / (fs_sum (fs_mem (r 4) (r 1) k) (r 13) n)))) = (mw cA ad (upr r 13 (fs_w1 (fs_mem (r 4) (r 1) k) (r 13) (fs_nw (fs_sum (fs_mem (r 4) (r 1) k) (r 13) n) (m_gl (r 1) (r 4) (r 14) k n) (ct (fs_mem (r 4) (r 1) k) n)) (h2 + 1)))) := by rw [up_upr, fs_w1_t e9, (show (fs_nw (fs_sum (fs_mem (r 4) (r 1) k) (r 13) n) (m_gl (r 1) (r 4) (r 14) k n) (ct (fs_mem (r 4) (r 1) k) n)) (r 13 h2) = _ by unfold fs_nw; rw [if_neg b125])]
                      rw [es] at hP hD
                      exact ih83 (h2 + 1) (by omega) (by omega) ls (lv_cast (lv_sub (l' := [(0, .ref (ad 0)), (1, .int k), (2, .int 1), (3, .int (fs_sum (fs_mem (r 4) (r 1) k) (r 13) n)), (4, .int (nI (ct (fs_mem (r 4) (r 1) k) n))), (5, .int (m_gl (r 1) (r 4) (r 14) k n)), (6, .int ((fs_ms (fs_mem (r 4) (r 1) k) (r 13) (fs_nw (fs_sum (fs_mem (r 4) (r 1) k) (r 13) n) (m_gl (r 1) (r 4) (r 14) k n) (ct (fs_mem (r 4) (r 1) k) n)) (m_gl (r 1) (r 4) (r 14) k n) h2) - (((r 13 h2) * (m_gl (r 1) (r 4) (r 14) k n)) / (fs_sum (fs_mem (r 4) (r 1) k) (r 13) n)))), (7, .int (nI (h2 + 1)))]) hl [2, 3, 4, 5, 6, 7, 1, 0] rfl) (by rw [fs_ms_t e9, (show (fs_nw (fs_sum (fs_mem (r 4) (r 1) k) (r 13) n) (m_gl (r 1) (r 4) (r 14) k n) (ct (fs_mem (r 4) (r 1) k) n)) (r 13 h2) = _ by unfold fs_nw; rw [if_neg b125])])) _ _ hP hD hS
                    · skip
                      refine lv_iload hx hb dX6_fits_128 (lv_at hl 5 rfl) ?_
                      refine lv_iload hx hb dX6_fits_130 (lv_at hl 4 rfl) ?_
                      refine lv_idiv hx hb dX6_fits_132 (nI_ne0 (by omega) (by omega)) ?_
                      refine lv_goto (tgt := 148) hx hb dX6_fits_133 (by decide) ?_
                      refine ist S hK hP hD hS 13 ml_13 (j := h2) (x := (m_gl (r 1) (r 4) (r 14) k n) / (nI (ct (fs_mem (r 4) (r 1) k) n))) (by omega) (Nat.le_of_ble_eq_true rfl) ms_13 dX6_fits_148 (fun H locs hP hD hS => ?_)
                      refine lv_iload hx hb dX6_fits_149 (lv_at hl 6 rfl) ?_
                      refine lv_aload_n hx hb dX6_fits_151 rfl (lv_at hl 0 rfl) ?_
                      refine gf S hK hP 0 ml_0 fX6_50 (v := .ref (ad 13)) mr_13 dX6_fits_152 ?_
                      refine lv_iload hx hb dX6_fits_155 (lv_at hl 7 rfl) ?_
                      refine ild S hK hP 13 ml_13 (j := h2) (by omega) (Nat.le_of_ble_eq_true rfl) dX6_fits_157 ?_
                      refine lv_as (y := (m_gl (r 1) (r 4) (r 14) k n) / (nI (ct (fs_mem (r 4) (r 1) k) n))) up_at ?_
                      refine lv_isub hx hb dX6_fits_158 ?_
                      refine lv_istore (lv' := [(6, .int ((fs_ms (fs_mem (r 4) (r 1) k) (r 13) (fs_nw (fs_sum (fs_mem (r 4) (r 1) k) (r 13) n) (m_gl (r 1) (r 4) (r 14) k n) (ct (fs_mem (r 4) (r 1) k) n)) (m_gl (r 1) (r 4) (r 14) k n) h2) - ((m_gl (r 1) (r 4) (r 14) k n) / (nI (ct (fs_mem (r 4) (r 1) k) n))))), (0, .ref (ad 0)), (1, .int k), (2, .int 1), (3, .int (fs_sum (fs_mem (r 4) (r 1) k) (r 13) n)), (4, .int (nI (ct (fs_mem (r 4) (r 1) k) n))), (5, .int (m_gl (r 1) (r 4) (r 14) k n)), (7, .int (nI h2))]) hx hb dX6_fits_159 hl (by decide) rfl (fun ls hl => ?_)
                      refine lv_iinc (v := nI (h2 + 1)) (lv' := [(7, .int (nI (h2 + 1))), (6, .int ((fs_ms (fs_mem (r 4) (r 1) k) (r 13) (fs_nw (fs_sum (fs_mem (r 4) (r 1) k) (r 13) n) (m_gl (r 1) (r 4) (r 14) k n) (ct (fs_mem (r 4) (r 1) k) n)) (m_gl (r 1) (r 4) (r 14) k n) h2) - ((m_gl (r 1) (r 4) (r 14) k n) / (nI (ct (fs_mem (r 4) (r 1) k) n))))), (0, .ref (ad 0)), (1, .int k), (2, .int 1), (3, .int (fs_sum (fs_mem (r 4) (r 1) k) (r 13) n)), (4, .int (nI (ct (fs_mem (r 4) (r 1) k) n))), (5, .int (m_gl (r 1) (r 4) (r 14) k n))]) hx hb dX6_fits_161 hl (k := 7) rfl (nI_1 h2) (by decide) rfl (fun ls hl => ?_)
                      refine lv_goto (tgt := 83) hx hb dX6_fits_164 (by decide) ?_
                      have e9 := fs_mem_t (stt := r 4) (g := r 1) (k := k) (j := h2) b101 c112
                      have es : (mw cA ad (up (upr r 13 (fs_w1 (fs_mem (r 4) (r 1) k) (r 13) (fs_nw (fs_sum (fs_mem (r 4) (r 1) k) (r 13) n) (m_gl (r 1) (r 4) (r 14) k n) (ct (fs_mem (r 4) (r 1) k) n)) h2)) 13 h2 ((m_gl (r 1) (r 4) (r 14) k n) / (nI (ct (fs_mem (r 4) (r 1) k) n))))) = (mw cA ad (upr r 13 (fs_w1 (fs_mem (r 4) (r 1) k) (r 13) (fs_nw (fs_sum (fs_mem (r 4) (r 1) k) (r 13) n) (m_gl (r 1) (r 4) (r 14) k n) (ct (fs_mem (r 4) (r 1) k) n)) (h2 + 1)))) := by rw [up_upr, fs_w1_t e9, (show (fs_nw (fs_sum (fs_mem (r 4) (r 1) k) (r 13) n) (m_gl (r 1) (r 4) (r 14) k n) (ct (fs_mem (r 4) (r 1) k) n)) (r 13 h2) = _ by unfold fs_nw; rw [if_pos b125])]
                      rw [es] at hP hD
                      exact ih83 (h2 + 1) (by omega) (by omega) ls (lv_cast (lv_sub (l' := [(0, .ref (ad 0)), (1, .int k), (2, .int 1), (3, .int (fs_sum (fs_mem (r 4) (r 1) k) (r 13) n)), (4, .int (nI (ct (fs_mem (r 4) (r 1) k) n))), (5, .int (m_gl (r 1) (r 4) (r 14) k n)), (6, .int ((fs_ms (fs_mem (r 4) (r 1) k) (r 13) (fs_nw (fs_sum (fs_mem (r 4) (r 1) k) (r 13) n) (m_gl (r 1) (r 4) (r 14) k n) (ct (fs_mem (r 4) (r 1) k) n)) (m_gl (r 1) (r 4) (r 14) k n) h2) - ((m_gl (r 1) (r 4) (r 14) k n) / (nI (ct (fs_mem (r 4) (r 1) k) n))))), (7, .int (nI (h2 + 1)))]) hl [2, 3, 4, 5, 6, 7, 1, 0] rfl) (by rw [fs_ms_t e9, (show (fs_nw (fs_sum (fs_mem (r 4) (r 1) k) (r 13) n) (m_gl (r 1) (r 4) (r 14) k n) (ct (fs_mem (r 4) (r 1) k) n)) (r 13 h2) = _ by unfold fs_nw; rw [if_pos b125])])) _ _ hP hD hS
                  · skip
                    have c112 := b2d0 b112
                    refine lv_goto (tgt := 161) hx hb dX6_fits_115 (by decide) ?_
                    refine lv_iinc (v := nI (h2 + 1)) (lv' := [(7, .int (nI (h2 + 1))), (0, .ref (ad 0)), (1, .int k), (2, .int 1), (3, .int (fs_sum (fs_mem (r 4) (r 1) k) (r 13) n)), (4, .int (nI (ct (fs_mem (r 4) (r 1) k) n))), (5, .int (m_gl (r 1) (r 4) (r 14) k n)), (6, .int (fs_ms (fs_mem (r 4) (r 1) k) (r 13) (fs_nw (fs_sum (fs_mem (r 4) (r 1) k) (r 13) n) (m_gl (r 1) (r 4) (r 14) k n) (ct (fs_mem (r 4) (r 1) k) n)) (m_gl (r 1) (r 4) (r 14) k n) h2))]) hx hb dX6_fits_161 hl (k := 7) rfl (nI_1 h2) (by decide) rfl (fun ls hl => ?_)
                    refine lv_goto (tgt := 83) hx hb dX6_fits_164 (by decide) ?_
                    have e9 := fs_mem_f2 (stt := r 4) (g := r 1) (k := k) (j := h2) c112
                    have es : (mw cA ad (upr r 13 (fs_w1 (fs_mem (r 4) (r 1) k) (r 13) (fs_nw (fs_sum (fs_mem (r 4) (r 1) k) (r 13) n) (m_gl (r 1) (r 4) (r 14) k n) (ct (fs_mem (r 4) (r 1) k) n)) h2))) = (mw cA ad (upr r 13 (fs_w1 (fs_mem (r 4) (r 1) k) (r 13) (fs_nw (fs_sum (fs_mem (r 4) (r 1) k) (r 13) n) (m_gl (r 1) (r 4) (r 14) k n) (ct (fs_mem (r 4) (r 1) k) n)) (h2 + 1)))) := by rw [fs_w1_f e9]
                    rw [es] at hP hD
                    exact ih83 (h2 + 1) (by omega) (by omega) ls (lv_cast (lv_sub (l' := [(0, .ref (ad 0)), (1, .int k), (2, .int 1), (3, .int (fs_sum (fs_mem (r 4) (r 1) k) (r 13) n)), (4, .int (nI (ct (fs_mem (r 4) (r 1) k) n))), (5, .int (m_gl (r 1) (r 4) (r 14) k n)), (6, .int (fs_ms (fs_mem (r 4) (r 1) k) (r 13) (fs_nw (fs_sum (fs_mem (r 4) (r 1) k) (r 13) n) (m_gl (r 1) (r 4) (r 14) k n) (ct (fs_mem (r 4) (r 1) k) n)) (m_gl (r 1) (r 4) (r 14) k n) h2)), (7, .int (nI (h2 + 1)))]) hl [1, 2, 3, 4, 5, 6, 7, 0] rfl) (by rw [fs_ms_f e9])) _ _ hP hD hS
          have es : (mw cA ad r) = (mw cA ad (upr r 13 (fs_w1 (fs_mem (r 4) (r 1) k) (r 13) (fs_nw (fs_sum (fs_mem (r 4) (r 1) k) (r 13) n) (m_gl (r 1) (r 4) (r 14) k n) (ct (fs_mem (r 4) (r 1) k) n)) 0))) := congrArg (mw cA ad) upr_self.symm
          rw [es] at hP hD
          exact hL83 _ 0 (Nat.lt_succ_self _) (Nat.zero_le _) ls (lv_cast (lv_sub (l' := [(0, .ref (ad 0)), (1, .int k), (2, .int 1), (3, .int (fs_sum (fs_mem (r 4) (r 1) k) (r 13) n)), (4, .int (nI (ct (fs_mem (r 4) (r 1) k) n))), (5, .int (m_gl (r 1) (r 4) (r 14) k n)), (6, .int (m_gl (r 1) (r 4) (r 14) k n)), (7, .int 0)]) hl [3, 4, 5, 6, 7, 2, 1, 0] rfl) (by rfl)) _ _ hP hD hS
        · skip
          have g64 : ct (fs_mem (r 4) (r 1) k) n = 0 := (nI_eq (a := ct (fs_mem (r 4) (r 1) k) n) (b := 0) (by omega) (by omega)).mp b64
          exact eMv S hr hlk hP hD hS dX6_fits_67 ((congrArg (mw cA ad) (m_fits_0 g64)).symm)
      · skip
        have g14 : ¬ n ≤ j := fun zz => b14 ((nI_leI (a := n) (b := j) (by omega) (by omega)).mpr zz)
        refine lv_aload_n hx hb dX6_fits_17 rfl (lv_at hl 0 rfl) ?_
        refine gf S hK hP 0 ml_0 fX6_23 (v := .ref (ad 4)) mr_4 dX6_fits_18 ?_
        refine lv_iload hx hb dX6_fits_21 (lv_at hl 5 rfl) ?_
        refine ild S hK hP 4 ml_4 (j := j) (by omega) (Nat.le_of_ble_eq_true rfl) dX6_fits_23 ?_
        refine lv_as (y := r 4 j) rfl ?_
        refine lv_bipush (v := 97) hx hb dX6_fits_24 (by decide) ?_
        refine lv_icmp_ne (tgt := 56) hx hb dX6_fits_26 (by decide) (fun b26 => ?_) (fun b26 => ?_)
        · skip
          refine lv_iinc (v := nI (j + 1)) (lv' := [(5, .int (nI (j + 1))), (0, .ref (ad 0)), (1, .int k), (2, .int 1), (3, .int (fs_sum (fs_mem (r 4) (r 1) k) (r 13) j)), (4, .int (nI (ct (fs_mem (r 4) (r 1) k) j)))]) hx hb dX6_fits_56 hl (k := 5) rfl (nI_1 j) (by decide) rfl (fun ls hl => ?_)
          refine lv_goto (tgt := 8) hx hb dX6_fits_59 (by decide) ?_
          have e9 := fs_mem_f1 (stt := r 4) (g := r 1) (k := k) (j := j) b26
          exact ih8 (j + 1) (by omega) (by omega) ls (lv_cast (lv_sub (l' := [(0, .ref (ad 0)), (1, .int k), (2, .int 1), (3, .int (fs_sum (fs_mem (r 4) (r 1) k) (r 13) j)), (4, .int (nI (ct (fs_mem (r 4) (r 1) k) j))), (5, .int (nI (j + 1)))]) hl [1, 2, 3, 4, 5, 0] rfl) (by rw [fs_sum_f e9, ct_f e9])) _ _ hP hD hS
        · skip
          refine lv_aload_n hx hb dX6_fits_29 rfl (lv_at hl 0 rfl) ?_
          refine lv_iload hx hb dX6_fits_30 (lv_at hl 5 rfl) ?_
          refine lv_iload_n hx hb dX6_fits_32 rfl (lv_at hl 1 rfl) ?_
          refine lv_iload_n hx hb dX6_fits_33 rfl (lv_at hl 2 rfl) ?_
          refine cR S (rr_isOf1 l dg cA ad r j (by omega) k) kX6_139 ⟨rfl, rfl, Nat.le_of_ble_eq_true rfl, Nat.le_of_ble_eq_true rfl⟩ hK hP 0 ml_0 (q := (RX6, TX6, 31)) rfl rfl (As := [.int (nI j), .int k, .int 1]) rfl hl.1 (rest := []) rfl (Nat.le_of_ble_eq_true rfl) dX6_fits_34 ⟨Nat.le_of_ble_eq_true rfl, Nat.le_of_ble_eq_true rfl⟩ (st1 := [.int (b2 (decide (r 1 j = k)))]) rfl ?_
          refine lv_if_ne (tgt := 43) hx hb dX6_fits_37 (by decide) (fun b37 => ?_) (fun b37 => ?_)
          · skip
            have c37 := b2d1 b37
            refine lv_iload_n hx hb dX6_fits_43 rfl (lv_at hl 3 rfl) ?_
            refine lv_aload_n hx hb dX6_fits_44 rfl (lv_at hl 0 rfl) ?_
            refine gf S hK hP 0 ml_0 fX6_50 (v := .ref (ad 13)) mr_13 dX6_fits_45 ?_
            refine lv_iload hx hb dX6_fits_48 (lv_at hl 5 rfl) ?_
            refine ild S hK hP 13 ml_13 (j := j) (by omega) (Nat.le_of_ble_eq_true rfl) dX6_fits_50 ?_
            refine lv_as (y := r 13 j) rfl ?_
            refine lv_iadd hx hb dX6_fits_51 ?_
            refine lv_istore_n (lv' := [(3, .int ((fs_sum (fs_mem (r 4) (r 1) k) (r 13) j) + (r 13 j))), (0, .ref (ad 0)), (1, .int k), (2, .int 1), (4, .int (nI (ct (fs_mem (r 4) (r 1) k) j))), (5, .int (nI j))]) hx hb dX6_fits_52 rfl hl (by decide) rfl (fun ls hl => ?_)
            refine lv_iinc (v := nI (ct (fs_mem (r 4) (r 1) k) j + 1)) (lv' := [(4, .int (nI (ct (fs_mem (r 4) (r 1) k) j + 1))), (3, .int ((fs_sum (fs_mem (r 4) (r 1) k) (r 13) j) + (r 13 j))), (0, .ref (ad 0)), (1, .int k), (2, .int 1), (5, .int (nI j))]) hx hb dX6_fits_53 hl (k := 4) rfl (nI_1 (ct (fs_mem (r 4) (r 1) k) j)) (by decide) rfl (fun ls hl => ?_)
            refine lv_iinc (v := nI (j + 1)) (lv' := [(5, .int (nI (j + 1))), (4, .int (nI (ct (fs_mem (r 4) (r 1) k) j + 1))), (3, .int ((fs_sum (fs_mem (r 4) (r 1) k) (r 13) j) + (r 13 j))), (0, .ref (ad 0)), (1, .int k), (2, .int 1)]) hx hb dX6_fits_56 hl (k := 5) rfl (nI_1 j) (by decide) rfl (fun ls hl => ?_)
            refine lv_goto (tgt := 8) hx hb dX6_fits_59 (by decide) ?_
            have e9 := fs_mem_t (stt := r 4) (g := r 1) (k := k) (j := j) b26 c37
            exact ih8 (j + 1) (by omega) (by omega) ls (lv_cast (lv_sub (l' := [(0, .ref (ad 0)), (1, .int k), (2, .int 1), (3, .int ((fs_sum (fs_mem (r 4) (r 1) k) (r 13) j) + (r 13 j))), (4, .int (nI (ct (fs_mem (r 4) (r 1) k) j + 1))), (5, .int (nI (j + 1)))]) hl [3, 4, 5, 2, 1, 0] rfl) (by rw [fs_sum_t e9, ct_t e9])) _ _ hP hD hS
          · skip
            have c37 := b2d0 b37
            refine lv_goto (tgt := 56) hx hb dX6_fits_40 (by decide) ?_
            refine lv_iinc (v := nI (j + 1)) (lv' := [(5, .int (nI (j + 1))), (0, .ref (ad 0)), (1, .int k), (2, .int 1), (3, .int (fs_sum (fs_mem (r 4) (r 1) k) (r 13) j)), (4, .int (nI (ct (fs_mem (r 4) (r 1) k) j)))]) hx hb dX6_fits_56 hl (k := 5) rfl (nI_1 j) (by decide) rfl (fun ls hl => ?_)
            refine lv_goto (tgt := 8) hx hb dX6_fits_59 (by decide) ?_
            have e9 := fs_mem_f2 (stt := r 4) (g := r 1) (k := k) (j := j) c37
            exact ih8 (j + 1) (by omega) (by omega) ls (lv_cast (lv_sub (l' := [(0, .ref (ad 0)), (1, .int k), (2, .int 1), (3, .int (fs_sum (fs_mem (r 4) (r 1) k) (r 13) j)), (4, .int (nI (ct (fs_mem (r 4) (r 1) k) j))), (5, .int (nI (j + 1)))]) hl [1, 2, 3, 4, 5, 0] rfl) (by rw [fs_sum_f e9, ct_f e9])) _ _ hP hD hS
  exact hL8 _ 0 (Nat.lt_succ_self _) (Nat.zero_le _) ls (lv_cast (lv_sub (l' := [(0, .ref (ad 0)), (1, .int k), (2, .int 1), (3, .int 0), (4, .int 0), (5, .int 0)]) hl [3, 4, 5, 2, 1, 0] rfl) (by rfl)) _ _ hP hD hS

set_option maxHeartbeats 4000000 in
set_option maxRecDepth 100000 in
theorem rr_fits0 (l : Launch) (dg : va_G) (cA : Nat → ClassId) (ad : Nat → Nat) (r : St) (n : Nat) (hn : r 0 3 = nI n) (hn24 : n ≤ 24) (k : Int32) (sz : Nat) : MetM l dg cA yX6_fits cX6_fits 8 none ({ frames := 2, cells := 0, slots := 0, locals := 47 } : Room) 0 0 (mw cA ad r) sz [.ref (ad 0), .int k, .int 0] (mw cA ad (m_fits r 3 k n)) none := by
  refine ofM (by decide) (Nat.le_of_ble_eq_true rfl) (own := RX6) rfl (fun p e s0 m args below meth ccd ls A hAe S hr hlk hname hargs hK hP hD hS hA hsz hl => ?_)
  have hx := S.1
  have hb := S.2.1
  have hl : lv_has ls 8 [(0, .ref (ad 0)), (1, .int k), (2, .int 0)] := hl
  refine lv_iconst (v := 0) hx hb dX6_fits_0 (by decide) ?_
  refine lv_istore_n (lv' := [(3, .int 0), (0, .ref (ad 0)), (1, .int k), (2, .int 0)]) hx hb dX6_fits_1 rfl hl (by decide) rfl (fun ls hl => ?_)
  refine lv_iconst (v := 0) hx hb dX6_fits_2 (by decide) ?_
  refine lv_istore (lv' := [(4, .int 0), (3, .int 0), (0, .ref (ad 0)), (1, .int k), (2, .int 0)]) hx hb dX6_fits_3 hl (by decide) rfl (fun ls hl => ?_)
  refine lv_iconst (v := 0) hx hb dX6_fits_5 (by decide) ?_
  refine lv_istore (lv' := [(5, .int 0), (4, .int 0), (3, .int 0), (0, .ref (ad 0)), (1, .int k), (2, .int 0)]) hx hb dX6_fits_6 hl (by decide) rfl (fun ls hl => ?_)
  have hL8 : ∀ (f : Nat) (j : Nat), n - j < f → (j ≤ n) → ∀ ls, lv_has ls 8 [(0, .ref (ad 0)), (1, .int k), (2, .int 0), (3, .int (fs_sum (fs_mem (r 4) (r 3) k) (r 13) j)), (4, .int (nI (ct (fs_mem (r 4) (r 3) k) j))), (5, .int (nI j))] → ∀ (H : Heap) (locs : List Loc), PP dg (mw cA ad r) H → va_D A (mw cA ad r) → va_S A s0.heap H locs → W p l e ({ frames := 2, cells := 0, slots := 0, locals := 47 } : Room) s0 m args below meth ccd H locs 0 0 (MQ below (QcM dg (mw cA ad (m_fits r 3 k n)) none A) args s0 0 0 A) (F0 m 8 ls []) := by
    intro f
    induction f with
    | zero => intro j hm; exact absurd hm (Nat.not_lt_zero _)
    | succ f ih8 =>
      intro j hm8 hj ls hl H locs hP hD hS
      refine lv_iload hx hb dX6_fits_8 (lv_at hl 5 rfl) ?_
      refine lv_aload_n hx hb dX6_fits_10 rfl (lv_at hl 0 rfl) ?_
      refine gf S hK hP 0 ml_0 fX6_93 (v := .int (nI n)) (mv_3 hn) dX6_fits_11 ?_
      refine lv_icmp_ge (tgt := 62) hx hb dX6_fits_14 (by decide) (fun b14 => ?_) (fun b14 => ?_)
      · skip
        have g14 : n ≤ j := (nI_leI (a := n) (b := j) (by omega) (by omega)).mp b14
        have ej : j = n := by omega
        rw [ej] at hl
        have hctl := ct_le (fs_mem (r 4) (r 3) k) n
        refine lv_iload hx hb dX6_fits_62 (lv_at hl 4 rfl) ?_
        refine lv_if_ne (tgt := 68) hx hb dX6_fits_64 (by decide) (fun b64 => ?_) (fun b64 => ?_)
        · skip
          have g64 : ¬ ct (fs_mem (r 4) (r 3) k) n = 0 := fun zz => b64 ((nI_eq (a := ct (fs_mem (r 4) (r 3) k) n) (b := 0) (by omega) (by omega)).mpr zz)
          refine lv_aload_n hx hb dX6_fits_68 rfl (lv_at hl 0 rfl) ?_
          refine lv_iload_n hx hb dX6_fits_69 rfl (lv_at hl 1 rfl) ?_
          refine lv_iload_n hx hb dX6_fits_70 rfl (lv_at hl 2 rfl) ?_
          refine cR S (rr_goal0 l dg cA ad r n hn hn24 k) kX6_143 ⟨rfl, rfl, Nat.le_of_ble_eq_true rfl, Nat.le_of_ble_eq_true rfl⟩ hK hP 0 ml_0 (q := (RX6, TX6, 31)) rfl rfl (As := [.int k, .int 0]) rfl hl.1 (rest := []) rfl (Nat.le_of_ble_eq_true rfl) dX6_fits_71 ⟨Nat.le_of_ble_eq_true rfl, Nat.le_of_ble_eq_true rfl⟩ (st1 := [.int (m_gl (r 3) (r 4) (r 14) k n)]) rfl ?_
          refine lv_istore (lv' := [(5, .int (m_gl (r 3) (r 4) (r 14) k n)), (0, .ref (ad 0)), (1, .int k), (2, .int 0), (3, .int (fs_sum (fs_mem (r 4) (r 3) k) (r 13) n)), (4, .int (nI (ct (fs_mem (r 4) (r 3) k) n)))]) hx hb dX6_fits_74 hl (by decide) rfl (fun ls hl => ?_)
          refine lv_iload hx hb dX6_fits_76 (lv_at hl 0 rfl) ?_
          refine lv_istore (lv' := [(6, .int (m_gl (r 3) (r 4) (r 14) k n)), (5, .int (m_gl (r 3) (r 4) (r 14) k n)), (0, .ref (ad 0)), (1, .int k), (2, .int 0), (3, .int (fs_sum (fs_mem (r 4) (r 3) k) (r 13) n)), (4, .int (nI (ct (fs_mem (r 4) (r 3) k) n)))]) hx hb dX6_fits_78 hl (by decide) rfl (fun ls hl => ?_)
          refine lv_iconst (v := 0) hx hb dX6_fits_80 (by decide) ?_
          refine lv_istore (lv' := [(7, .int 0), (6, .int (m_gl (r 3) (r 4) (r 14) k n)), (5, .int (m_gl (r 3) (r 4) (r 14) k n)), (0, .ref (ad 0)), (1, .int k), (2, .int 0), (3, .int (fs_sum (fs_mem (r 4) (r 3) k) (r 13) n)), (4, .int (nI (ct (fs_mem (r 4) (r 3) k) n)))]) hx hb dX6_fits_81 hl (by decide) rfl (fun ls hl => ?_)
          have hL83 : ∀ (f : Nat) (h2 : Nat), n - h2 < f → (h2 ≤ n) → ∀ ls, lv_has ls 8 [(0, .ref (ad 0)), (1, .int k), (2, .int 0), (3, .int (fs_sum (fs_mem (r 4) (r 3) k) (r 13) n)), (4, .int (nI (ct (fs_mem (r 4) (r 3) k) n))), (5, .int (m_gl (r 3) (r 4) (r 14) k n)), (6, .int (fs_ms (fs_mem (r 4) (r 3) k) (r 13) (fs_nw (fs_sum (fs_mem (r 4) (r 3) k) (r 13) n) (m_gl (r 3) (r 4) (r 14) k n) (ct (fs_mem (r 4) (r 3) k) n)) (m_gl (r 3) (r 4) (r 14) k n) h2)), (7, .int (nI h2))] → ∀ (H : Heap) (locs : List Loc), PP dg (mw cA ad (upr r 13 (fs_w1 (fs_mem (r 4) (r 3) k) (r 13) (fs_nw (fs_sum (fs_mem (r 4) (r 3) k) (r 13) n) (m_gl (r 3) (r 4) (r 14) k n) (ct (fs_mem (r 4) (r 3) k) n)) h2))) H → va_D A (mw cA ad (upr r 13 (fs_w1 (fs_mem (r 4) (r 3) k) (r 13) (fs_nw (fs_sum (fs_mem (r 4) (r 3) k) (r 13) n) (m_gl (r 3) (r 4) (r 14) k n) (ct (fs_mem (r 4) (r 3) k) n)) h2))) → va_S A s0.heap H locs → W p l e ({ frames := 2, cells := 0, slots := 0, locals := 47 } : Room) s0 m args below meth ccd H locs 0 0 (MQ below (QcM dg (mw cA ad (m_fits r 3 k n)) none A) args s0 0 0 A) (F0 m 83 ls []) := by
            intro f
            induction f with
            | zero => intro h2 hm; exact absurd hm (Nat.not_lt_zero _)
            | succ f ih83 =>
              intro h2 hm83 hj2 ls hl H locs hP hD hS
              refine lv_iload hx hb dX6_fits_83 (lv_at hl 7 rfl) ?_
              refine lv_aload_n hx hb dX6_fits_85 rfl (lv_at hl 0 rfl) ?_
              refine gf S hK hP 0 ml_0 fX6_93 (v := .int (nI n)) (mv_3 hn) dX6_fits_86 ?_
              refine lv_icmp_ge (tgt := 167) hx hb dX6_fits_89 (by decide) (fun b89 => ?_) (fun b89 => ?_)
              · skip
                have g89 : n ≤ h2 := (nI_leI (a := n) (b := h2) (by omega) (by omega)).mp b89
                have eh2 : h2 = n := by omega
                rw [eh2] at hl hP hD
                refine lv_iconst (v := 0) hx hb dX6_fits_167 (by decide) ?_
                refine lv_istore (lv' := [(7, .int 0), (0, .ref (ad 0)), (1, .int k), (2, .int 0), (3, .int (fs_sum (fs_mem (r 4) (r 3) k) (r 13) n)), (4, .int (nI (ct (fs_mem (r 4) (r 3) k) n))), (5, .int (m_gl (r 3) (r 4) (r 14) k n)), (6, .int (fs_ms (fs_mem (r 4) (r 3) k) (r 13) (fs_nw (fs_sum (fs_mem (r 4) (r 3) k) (r 13) n) (m_gl (r 3) (r 4) (r 14) k n) (ct (fs_mem (r 4) (r 3) k) n)) (m_gl (r 3) (r 4) (r 14) k n) n))]) hx hb dX6_fits_168 hl (by decide) rfl (fun ls hl => ?_)
                have hL170 : ∀ (f : Nat) (h3 : Nat), n - h3 < f → (h3 ≤ n) → ∀ ls, lv_has ls 8 [(0, .ref (ad 0)), (1, .int k), (2, .int 0), (3, .int (fs_sum (fs_mem (r 4) (r 3) k) (r 13) n)), (4, .int (nI (ct (fs_mem (r 4) (r 3) k) n))), (5, .int (m_gl (r 3) (r 4) (r 14) k n)), (6, .int ((fs_w2 (fs_mem (r 4) (r 3) k) (fs_w1 (fs_mem (r 4) (r 3) k) (r 13) (fs_nw (fs_sum (fs_mem (r 4) (r 3) k) (r 13) n) (m_gl (r 3) (r 4) (r 14) k n) (ct (fs_mem (r 4) (r 3) k) n)) n) (fs_ms (fs_mem (r 4) (r 3) k) (r 13) (fs_nw (fs_sum (fs_mem (r 4) (r 3) k) (r 13) n) (m_gl (r 3) (r 4) (r 14) k n) (ct (fs_mem (r 4) (r 3) k) n)) (m_gl (r 3) (r 4) (r 14) k n) n) h3).2)), (7, .int (nI h3))] → ∀ (H : Heap) (locs : List Loc), PP dg (mw cA ad (upr r 13 (fs_w2 (fs_mem (r 4) (r 3) k) (fs_w1 (fs_mem (r 4) (r 3) k) (r 13) (fs_nw (fs_sum (fs_mem (r 4) (r 3) k) (r 13) n) (m_gl (r 3) (r 4) (r 14) k n) (ct (fs_mem (r 4) (r 3) k) n)) n) (fs_ms (fs_mem (r 4) (r 3) k) (r 13) (fs_nw (fs_sum (fs_mem (r 4) (r 3) k) (r 13) n) (m_gl (r 3) (r 4) (r 14) k n) (ct (fs_mem (r 4) (r 3) k) n)) (m_gl (r 3) (r 4) (r 14) k n) n) h3).1)) H → va_D A (mw cA ad (upr r 13 (fs_w2 (fs_mem (r 4) (r 3) k) (fs_w1 (fs_mem (r 4) (r 3) k) (r 13) (fs_nw (fs_sum (fs_mem (r 4) (r 3) k) (r 13) n) (m_gl (r 3) (r 4) (r 14) k n) (ct (fs_mem (r 4) (r 3) k) n)) n) (fs_ms (fs_mem (r 4) (r 3) k) (r 13) (fs_nw (fs_sum (fs_mem (r 4) (r 3) k) (r 13) n) (m_gl (r 3) (r 4) (r 14) k n) (ct (fs_mem (r 4) (r 3) k) n)) (m_gl (r 3) (r 4) (r 14) k n) n) h3).1)) → va_S A s0.heap H locs → W p l e ({ frames := 2, cells := 0, slots := 0, locals := 47 } : Room) s0 m args below meth ccd H locs 0 0 (MQ below (QcM dg (mw cA ad (m_fits r 3 k n)) none A) args s0 0 0 A) (F0 m 170 ls []) := by
                  intro f
                  induction f with
                  | zero => intro h3 hm; exact absurd hm (Nat.not_lt_zero _)
                  | succ f ih170 =>
                    intro h3 hm170 hj3 ls hl H locs hP hD hS
                    refine lv_iload hx hb dX6_fits_170 (lv_at hl 7 rfl) ?_
                    refine lv_aload_n hx hb dX6_fits_172 rfl (lv_at hl 0 rfl) ?_
                    refine gf S hK hP 0 ml_0 fX6_93 (v := .int (nI n)) (mv_3 hn) dX6_fits_173 ?_
                    refine lv_icmp_ge (tgt := 230) hx hb dX6_fits_176 (by decide) (fun b176 => ?_) (fun b176 => ?_)
                    · skip
                      have g176 : n ≤ h3 := (nI_leI (a := n) (b := h3) (by omega) (by omega)).mp b176
                      exact eMv S hr hlk hP hD hS dX6_fits_230 (by unfold m_fits fs_fit; rw [if_neg g64, show h3 = n by omega])
                    · skip
                      have g176 : ¬ n ≤ h3 := fun zz => b176 ((nI_leI (a := n) (b := h3) (by omega) (by omega)).mpr zz)
                      refine lv_iload hx hb dX6_fits_179 (lv_at hl 6 rfl) ?_
                      refine lv_if_le (tgt := 230) hx hb dX6_fits_181 (by decide) (fun b181 => ?_) (fun b181 => ?_)
                      · skip
                        exact eMv S hr hlk hP hD hS dX6_fits_230 (by unfold m_fits fs_fit; rw [if_neg g64, fs_w2_end (fun z => Int32.not_lt.mpr b181 z) hj3])
                      · skip
                        refine lv_aload_n hx hb dX6_fits_184 rfl (lv_at hl 0 rfl) ?_
                        refine gf S hK hP 0 ml_0 fX6_23 (v := .ref (ad 4)) mr_4 dX6_fits_185 ?_
                        refine lv_iload hx hb dX6_fits_188 (lv_at hl 7 rfl) ?_
                        refine ild S hK hP 4 ml_4 (j := h3) (by omega) (Nat.le_of_ble_eq_true rfl) dX6_fits_190 ?_
                        refine lv_as (y := r 4 h3) rfl ?_
                        refine lv_bipush (v := 97) hx hb dX6_fits_191 (by decide) ?_
                        refine lv_icmp_ne (tgt := 224) hx hb dX6_fits_193 (by decide) (fun b193 => ?_) (fun b193 => ?_)
                        · skip
                          refine lv_iinc (v := nI (h3 + 1)) (lv' := [(7, .int (nI (h3 + 1))), (0, .ref (ad 0)), (1, .int k), (2, .int 0), (3, .int (fs_sum (fs_mem (r 4) (r 3) k) (r 13) n)), (4, .int (nI (ct (fs_mem (r 4) (r 3) k) n))), (5, .int (m_gl (r 3) (r 4) (r 14) k n)), (6, .int ((fs_w2 (fs_mem (r 4) (r 3) k) (fs_w1 (fs_mem (r 4) (r 3) k) (r 13) (fs_nw (fs_sum (fs_mem (r 4) (r 3) k) (r 13) n) (m_gl (r 3) (r 4) (r 14) k n) (ct (fs_mem (r 4) (r 3) k) n)) n) (fs_ms (fs_mem (r 4) (r 3) k) (r 13) (fs_nw (fs_sum (fs_mem (r 4) (r 3) k) (r 13) n) (m_gl (r 3) (r 4) (r 14) k n) (ct (fs_mem (r 4) (r 3) k) n)) (m_gl (r 3) (r 4) (r 14) k n) n) h3).2))]) hx hb dX6_fits_224 hl (k := 7) rfl (nI_1 h3) (by decide) rfl (fun ls hl => ?_)
                          refine lv_goto (tgt := 170) hx hb dX6_fits_227 (by decide) ?_
                          have e9 := fs_mem_f1 (stt := r 4) (g := r 3) (k := k) (j := h3) b193
                          have es : (mw cA ad (upr r 13 (fs_w2 (fs_mem (r 4) (r 3) k) (fs_w1 (fs_mem (r 4) (r 3) k) (r 13) (fs_nw (fs_sum (fs_mem (r 4) (r 3) k) (r 13) n) (m_gl (r 3) (r 4) (r 14) k n) (ct (fs_mem (r 4) (r 3) k) n)) n) (fs_ms (fs_mem (r 4) (r 3) k) (r 13) (fs_nw (fs_sum (fs_mem (r 4) (r 3) k) (r 13) n) (m_gl (r 3) (r 4) (r 14) k n) (ct (fs_mem (r 4) (r 3) k) n)) (m_gl (r 3) (r 4) (r 14) k n) n) h3).1)) = (mw cA ad (upr r 13 (fs_w2 (fs_mem (r 4) (r 3) k) (fs_w1 (fs_mem (r 4) (r 3) k) (r 13) (fs_nw (fs_sum (fs_mem (r 4) (r 3) k) (r 13) n) (m_gl (r 3) (r 4) (r 14) k n) (ct (fs_mem (r 4) (r 3) k) n)) n) (fs_ms (fs_mem (r 4) (r 3) k) (r 13) (fs_nw (fs_sum (fs_mem (r 4) (r 3) k) (r 13) n) (m_gl (r 3) (r 4) (r 14) k n) (ct (fs_mem (r 4) (r 3) k) n)) (m_gl (r 3) (r 4) (r 14) k n) n) (h3 + 1)).1)) := by rw [fs_w2_f e9]
                          rw [es] at hP hD
                          exact ih170 (h3 + 1) (by omega) (by omega) ls (lv_cast (lv_sub (l' := [(0, .ref (ad 0)), (1, .int k), (2, .int 0), (3, .int (fs_sum (fs_mem (r 4) (r 3) k) (r 13) n)), (4, .int (nI (ct (fs_mem (r 4) (r 3) k) n))), (5, .int (m_gl (r 3) (r 4) (r 14) k n)), (6, .int ((fs_w2 (fs_mem (r 4) (r 3) k) (fs_w1 (fs_mem (r 4) (r 3) k) (r 13) (fs_nw (fs_sum (fs_mem (r 4) (r 3) k) (r 13) n) (m_gl (r 3) (r 4) (r 14) k n) (ct (fs_mem (r 4) (r 3) k) n)) n) (fs_ms (fs_mem (r 4) (r 3) k) (r 13) (fs_nw (fs_sum (fs_mem (r 4) (r 3) k) (r 13) n) (m_gl (r 3) (r 4) (r 14) k n) (ct (fs_mem (r 4) (r 3) k) n)) (m_gl (r 3) (r 4) (r 14) k n) n) h3).2)), (7, .int (nI (h3 + 1)))]) hl [1, 2, 3, 4, 5, 6, 7, 0] rfl) (by rw [fs_w2_f e9])) _ _ hP hD hS
                        · skip
                          refine lv_aload_n hx hb dX6_fits_196 rfl (lv_at hl 0 rfl) ?_
                          refine lv_iload hx hb dX6_fits_197 (lv_at hl 7 rfl) ?_
                          refine lv_iload_n hx hb dX6_fits_199 rfl (lv_at hl 1 rfl) ?_
                          refine lv_iload_n hx hb dX6_fits_200 rfl (lv_at hl 2 rfl) ?_
                          refine cR S (rr_isOf0 l dg cA ad (upr r 13 (fs_w2 (fs_mem (r 4) (r 3) k) (fs_w1 (fs_mem (r 4) (r 3) k) (r 13) (fs_nw (fs_sum (fs_mem (r 4) (r 3) k) (r 13) n) (m_gl (r 3) (r 4) (r 14) k n) (ct (fs_mem (r 4) (r 3) k) n)) n) (fs_ms (fs_mem (r 4) (r 3) k) (r 13) (fs_nw (fs_sum (fs_mem (r 4) (r 3) k) (r 13) n) (m_gl (r 3) (r 4) (r 14) k n) (ct (fs_mem (r 4) (r 3) k) n)) (m_gl (r 3) (r 4) (r 14) k n) n) h3).1) h3 (by omega) k) kX6_139 ⟨rfl, rfl, Nat.le_of_ble_eq_true rfl, Nat.le_of_ble_eq_true rfl⟩ hK hP 0 ml_0 (q := (RX6, TX6, 31)) rfl rfl (As := [.int (nI h3), .int k, .int 0]) rfl hl.1 (rest := []) rfl (Nat.le_of_ble_eq_true rfl) dX6_fits_201 ⟨Nat.le_of_ble_eq_true rfl, Nat.le_of_ble_eq_true rfl⟩ (st1 := [.int (b2 (decide (r 3 h3 = k)))]) rfl ?_
                          refine lv_if_ne (tgt := 210) hx hb dX6_fits_204 (by decide) (fun b204 => ?_) (fun b204 => ?_)
                          · skip
                            have c204 := b2d1 b204
                            refine lv_aload_n hx hb dX6_fits_210 rfl (lv_at hl 0 rfl) ?_
                            refine gf S hK hP 0 ml_0 fX6_50 (v := .ref (ad 13)) mr_13 dX6_fits_211 ?_
                            refine lv_iload hx hb dX6_fits_214 (lv_at hl 7 rfl) ?_
                            refine lv_dup2_11 hx hb dX6_fits_216 rfl rfl ?_
                            refine ild S hK hP 13 ml_13 (j := h3) (by omega) (Nat.le_of_ble_eq_true rfl) dX6_fits_217 ?_
                            refine lv_as (y := ((fs_w2 (fs_mem (r 4) (r 3) k) (fs_w1 (fs_mem (r 4) (r 3) k) (r 13) (fs_nw (fs_sum (fs_mem (r 4) (r 3) k) (r 13) n) (m_gl (r 3) (r 4) (r 14) k n) (ct (fs_mem (r 4) (r 3) k) n)) n) (fs_ms (fs_mem (r 4) (r 3) k) (r 13) (fs_nw (fs_sum (fs_mem (r 4) (r 3) k) (r 13) n) (m_gl (r 3) (r 4) (r 14) k n) (ct (fs_mem (r 4) (r 3) k) n)) (m_gl (r 3) (r 4) (r 14) k n) n) h3).1) h3) rfl ?_
                            refine lv_iconst (v := 1) hx hb dX6_fits_218 (by decide) ?_
                            refine lv_iadd hx hb dX6_fits_219 ?_
                            refine ist S hK hP hD hS 13 ml_13 (j := h3) (x := (((fs_w2 (fs_mem (r 4) (r 3) k) (fs_w1 (fs_mem (r 4) (r 3) k) (r 13) (fs_nw (fs_sum (fs_mem (r 4) (r 3) k) (r 13) n) (m_gl (r 3) (r 4) (r 14) k n) (ct (fs_mem (r 4) (r 3) k) n)) n) (fs_ms (fs_mem (r 4) (r 3) k) (r 13) (fs_nw (fs_sum (fs_mem (r 4) (r 3) k) (r 13) n) (m_gl (r 3) (r 4) (r 14) k n) (ct (fs_mem (r 4) (r 3) k) n)) (m_gl (r 3) (r 4) (r 14) k n) n) h3).1) h3) + 1) (by omega) (Nat.le_of_ble_eq_true rfl) ms_13 dX6_fits_220 (fun H locs hP hD hS => ?_)
                            refine lv_iinc (v := ((fs_w2 (fs_mem (r 4) (r 3) k) (fs_w1 (fs_mem (r 4) (r 3) k) (r 13) (fs_nw (fs_sum (fs_mem (r 4) (r 3) k) (r 13) n) (m_gl (r 3) (r 4) (r 14) k n) (ct (fs_mem (r 4) (r 3) k) n)) n) (fs_ms (fs_mem (r 4) (r 3) k) (r 13) (fs_nw (fs_sum (fs_mem (r 4) (r 3) k) (r 13) n) (m_gl (r 3) (r 4) (r 14) k n) (ct (fs_mem (r 4) (r 3) k) n)) (m_gl (r 3) (r 4) (r 14) k n) n) h3).2) + (-1)) (lv' := [(6, .int (((fs_w2 (fs_mem (r 4) (r 3) k) (fs_w1 (fs_mem (r 4) (r 3) k) (r 13) (fs_nw (fs_sum (fs_mem (r 4) (r 3) k) (r 13) n) (m_gl (r 3) (r 4) (r 14) k n) (ct (fs_mem (r 4) (r 3) k) n)) n) (fs_ms (fs_mem (r 4) (r 3) k) (r 13) (fs_nw (fs_sum (fs_mem (r 4) (r 3) k) (r 13) n) (m_gl (r 3) (r 4) (r 14) k n) (ct (fs_mem (r 4) (r 3) k) n)) (m_gl (r 3) (r 4) (r 14) k n) n) h3).2) + (-1))), (0, .ref (ad 0)), (1, .int k), (2, .int 0), (3, .int (fs_sum (fs_mem (r 4) (r 3) k) (r 13) n)), (4, .int (nI (ct (fs_mem (r 4) (r 3) k) n))), (5, .int (m_gl (r 3) (r 4) (r 14) k n)), (7, .int (nI h3))]) hx hb dX6_fits_221 hl (k := 6) rfl (by rw [i32_m1]) (by decide) rfl (fun ls hl => ?_)
                            refine lv_iinc (v := nI (h3 + 1)) (lv' := [(7, .int (nI (h3 + 1))), (6, .int (((fs_w2 (fs_mem (r 4) (r 3) k) (fs_w1 (fs_mem (r 4) (r 3) k) (r 13) (fs_nw (fs_sum (fs_mem (r 4) (r 3) k) (r 13) n) (m_gl (r 3) (r 4) (r 14) k n) (ct (fs_mem (r 4) (r 3) k) n)) n) (fs_ms (fs_mem (r 4) (r 3) k) (r 13) (fs_nw (fs_sum (fs_mem (r 4) (r 3) k) (r 13) n) (m_gl (r 3) (r 4) (r 14) k n) (ct (fs_mem (r 4) (r 3) k) n)) (m_gl (r 3) (r 4) (r 14) k n) n) h3).2) + (-1))), (0, .ref (ad 0)), (1, .int k), (2, .int 0), (3, .int (fs_sum (fs_mem (r 4) (r 3) k) (r 13) n)), (4, .int (nI (ct (fs_mem (r 4) (r 3) k) n))), (5, .int (m_gl (r 3) (r 4) (r 14) k n))]) hx hb dX6_fits_224 hl (k := 7) rfl (nI_1 h3) (by decide) rfl (fun ls hl => ?_)
                            refine lv_goto (tgt := 170) hx hb dX6_fits_227 (by decide) ?_
                            have e9 := fs_mem_t (stt := r 4) (g := r 3) (k := k) (j := h3) b193 c204
                            have es : (mw cA ad (up (upr r 13 (fs_w2 (fs_mem (r 4) (r 3) k) (fs_w1 (fs_mem (r 4) (r 3) k) (r 13) (fs_nw (fs_sum (fs_mem (r 4) (r 3) k) (r 13) n) (m_gl (r 3) (r 4) (r 14) k n) (ct (fs_mem (r 4) (r 3) k) n)) n) (fs_ms (fs_mem (r 4) (r 3) k) (r 13) (fs_nw (fs_sum (fs_mem (r 4) (r 3) k) (r 13) n) (m_gl (r 3) (r 4) (r 14) k n) (ct (fs_mem (r 4) (r 3) k) n)) (m_gl (r 3) (r 4) (r 14) k n) n) h3).1) 13 h3 ((((fs_w2 (fs_mem (r 4) (r 3) k) (fs_w1 (fs_mem (r 4) (r 3) k) (r 13) (fs_nw (fs_sum (fs_mem (r 4) (r 3) k) (r 13) n) (m_gl (r 3) (r 4) (r 14) k n) (ct (fs_mem (r 4) (r 3) k) n)) n) (fs_ms (fs_mem (r 4) (r 3) k) (r 13) (fs_nw (fs_sum (fs_mem (r 4) (r 3) k) (r 13) n) (m_gl (r 3) (r 4) (r 14) k n) (ct (fs_mem (r 4) (r 3) k) n)) (m_gl (r 3) (r 4) (r 14) k n) n) h3).1) h3) + 1))) = (mw cA ad (upr r 13 (fs_w2 (fs_mem (r 4) (r 3) k) (fs_w1 (fs_mem (r 4) (r 3) k) (r 13) (fs_nw (fs_sum (fs_mem (r 4) (r 3) k) (r 13) n) (m_gl (r 3) (r 4) (r 14) k n) (ct (fs_mem (r 4) (r 3) k) n)) n) (fs_ms (fs_mem (r 4) (r 3) k) (r 13) (fs_nw (fs_sum (fs_mem (r 4) (r 3) k) (r 13) n) (m_gl (r 3) (r 4) (r 14) k n) (ct (fs_mem (r 4) (r 3) k) n)) (m_gl (r 3) (r 4) (r 14) k n) n) (h3 + 1)).1)) := by rw [up_upr, fs_w2_t e9 (Int32.not_le.mp b181)]
                            rw [es] at hP hD
                            exact ih170 (h3 + 1) (by omega) (by omega) ls (lv_cast (lv_sub (l' := [(0, .ref (ad 0)), (1, .int k), (2, .int 0), (3, .int (fs_sum (fs_mem (r 4) (r 3) k) (r 13) n)), (4, .int (nI (ct (fs_mem (r 4) (r 3) k) n))), (5, .int (m_gl (r 3) (r 4) (r 14) k n)), (6, .int (((fs_w2 (fs_mem (r 4) (r 3) k) (fs_w1 (fs_mem (r 4) (r 3) k) (r 13) (fs_nw (fs_sum (fs_mem (r 4) (r 3) k) (r 13) n) (m_gl (r 3) (r 4) (r 14) k n) (ct (fs_mem (r 4) (r 3) k) n)) n) (fs_ms (fs_mem (r 4) (r 3) k) (r 13) (fs_nw (fs_sum (fs_mem (r 4) (r 3) k) (r 13) n) (m_gl (r 3) (r 4) (r 14) k n) (ct (fs_mem (r 4) (r 3) k) n)) (m_gl (r 3) (r 4) (r 14) k n) n) h3).2) + (-1))), (7, .int (nI (h3 + 1)))]) hl [2, 3, 4, 5, 6, 7, 1, 0] rfl) (by rw [fs_w2_t e9 (Int32.not_le.mp b181)])) _ _ hP hD hS
                          · skip
                            have c204 := b2d0 b204
                            refine lv_goto (tgt := 224) hx hb dX6_fits_207 (by decide) ?_
                            refine lv_iinc (v := nI (h3 + 1)) (lv' := [(7, .int (nI (h3 + 1))), (0, .ref (ad 0)), (1, .int k), (2, .int 0), (3, .int (fs_sum (fs_mem (r 4) (r 3) k) (r 13) n)), (4, .int (nI (ct (fs_mem (r 4) (r 3) k) n))), (5, .int (m_gl (r 3) (r 4) (r 14) k n)), (6, .int ((fs_w2 (fs_mem (r 4) (r 3) k) (fs_w1 (fs_mem (r 4) (r 3) k) (r 13) (fs_nw (fs_sum (fs_mem (r 4) (r 3) k) (r 13) n) (m_gl (r 3) (r 4) (r 14) k n) (ct (fs_mem (r 4) (r 3) k) n)) n) (fs_ms (fs_mem (r 4) (r 3) k) (r 13) (fs_nw (fs_sum (fs_mem (r 4) (r 3) k) (r 13) n) (m_gl (r 3) (r 4) (r 14) k n) (ct (fs_mem (r 4) (r 3) k) n)) (m_gl (r 3) (r 4) (r 14) k n) n) h3).2))]) hx hb dX6_fits_224 hl (k := 7) rfl (nI_1 h3) (by decide) rfl (fun ls hl => ?_)
                            refine lv_goto (tgt := 170) hx hb dX6_fits_227 (by decide) ?_
                            have e9 := fs_mem_f2 (stt := r 4) (g := r 3) (k := k) (j := h3) c204
                            have es : (mw cA ad (upr r 13 (fs_w2 (fs_mem (r 4) (r 3) k) (fs_w1 (fs_mem (r 4) (r 3) k) (r 13) (fs_nw (fs_sum (fs_mem (r 4) (r 3) k) (r 13) n) (m_gl (r 3) (r 4) (r 14) k n) (ct (fs_mem (r 4) (r 3) k) n)) n) (fs_ms (fs_mem (r 4) (r 3) k) (r 13) (fs_nw (fs_sum (fs_mem (r 4) (r 3) k) (r 13) n) (m_gl (r 3) (r 4) (r 14) k n) (ct (fs_mem (r 4) (r 3) k) n)) (m_gl (r 3) (r 4) (r 14) k n) n) h3).1)) = (mw cA ad (upr r 13 (fs_w2 (fs_mem (r 4) (r 3) k) (fs_w1 (fs_mem (r 4) (r 3) k) (r 13) (fs_nw (fs_sum (fs_mem (r 4) (r 3) k) (r 13) n) (m_gl (r 3) (r 4) (r 14) k n) (ct (fs_mem (r 4) (r 3) k) n)) n) (fs_ms (fs_mem (r 4) (r 3) k) (r 13) (fs_nw (fs_sum (fs_mem (r 4) (r 3) k) (r 13) n) (m_gl (r 3) (r 4) (r 14) k n) (ct (fs_mem (r 4) (r 3) k) n)) (m_gl (r 3) (r 4) (r 14) k n) n) (h3 + 1)).1)) := by rw [fs_w2_f e9]
                            rw [es] at hP hD
                            exact ih170 (h3 + 1) (by omega) (by omega) ls (lv_cast (lv_sub (l' := [(0, .ref (ad 0)), (1, .int k), (2, .int 0), (3, .int (fs_sum (fs_mem (r 4) (r 3) k) (r 13) n)), (4, .int (nI (ct (fs_mem (r 4) (r 3) k) n))), (5, .int (m_gl (r 3) (r 4) (r 14) k n)), (6, .int ((fs_w2 (fs_mem (r 4) (r 3) k) (fs_w1 (fs_mem (r 4) (r 3) k) (r 13) (fs_nw (fs_sum (fs_mem (r 4) (r 3) k) (r 13) n) (m_gl (r 3) (r 4) (r 14) k n) (ct (fs_mem (r 4) (r 3) k) n)) n) (fs_ms (fs_mem (r 4) (r 3) k) (r 13) (fs_nw (fs_sum (fs_mem (r 4) (r 3) k) (r 13) n) (m_gl (r 3) (r 4) (r 14) k n) (ct (fs_mem (r 4) (r 3) k) n)) (m_gl (r 3) (r 4) (r 14) k n) n) h3).2)), (7, .int (nI (h3 + 1)))]) hl [1, 2, 3, 4, 5, 6, 7, 0] rfl) (by rw [fs_w2_f e9])) _ _ hP hD hS
                have es : (mw cA ad (upr r 13 (fs_w1 (fs_mem (r 4) (r 3) k) (r 13) (fs_nw (fs_sum (fs_mem (r 4) (r 3) k) (r 13) n) (m_gl (r 3) (r 4) (r 14) k n) (ct (fs_mem (r 4) (r 3) k) n)) n))) = (mw cA ad (upr r 13 (fs_w2 (fs_mem (r 4) (r 3) k) (fs_w1 (fs_mem (r 4) (r 3) k) (r 13) (fs_nw (fs_sum (fs_mem (r 4) (r 3) k) (r 13) n) (m_gl (r 3) (r 4) (r 14) k n) (ct (fs_mem (r 4) (r 3) k) n)) n) (fs_ms (fs_mem (r 4) (r 3) k) (r 13) (fs_nw (fs_sum (fs_mem (r 4) (r 3) k) (r 13) n) (m_gl (r 3) (r 4) (r 14) k n) (ct (fs_mem (r 4) (r 3) k) n)) (m_gl (r 3) (r 4) (r 14) k n) n) 0).1)) := rfl
                rw [es] at hP hD
                exact hL170 _ 0 (Nat.lt_succ_self _) (Nat.zero_le _) ls (lv_cast (lv_sub (l' := [(0, .ref (ad 0)), (1, .int k), (2, .int 0), (3, .int (fs_sum (fs_mem (r 4) (r 3) k) (r 13) n)), (4, .int (nI (ct (fs_mem (r 4) (r 3) k) n))), (5, .int (m_gl (r 3) (r 4) (r 14) k n)), (6, .int (fs_ms (fs_mem (r 4) (r 3) k) (r 13) (fs_nw (fs_sum (fs_mem (r 4) (r 3) k) (r 13) n) (m_gl (r 3) (r 4) (r 14) k n) (ct (fs_mem (r 4) (r 3) k) n)) (m_gl (r 3) (r 4) (r 14) k n) n)), (7, .int 0)]) hl [1, 2, 3, 4, 5, 6, 7, 0] rfl) (by rfl)) _ _ hP hD hS
              · skip
                have g89 : ¬ n ≤ h2 := fun zz => b89 ((nI_leI (a := n) (b := h2) (by omega) (by omega)).mpr zz)
                refine lv_aload_n hx hb dX6_fits_92 rfl (lv_at hl 0 rfl) ?_
                refine gf S hK hP 0 ml_0 fX6_23 (v := .ref (ad 4)) mr_4 dX6_fits_93 ?_
                refine lv_iload hx hb dX6_fits_96 (lv_at hl 7 rfl) ?_
                refine ild S hK hP 4 ml_4 (j := h2) (by omega) (Nat.le_of_ble_eq_true rfl) dX6_fits_98 ?_
                refine lv_as (y := r 4 h2) rfl ?_
                refine lv_bipush (v := 97) hx hb dX6_fits_99 (by decide) ?_
                refine lv_icmp_ne (tgt := 161) hx hb dX6_fits_101 (by decide) (fun b101 => ?_) (fun b101 => ?_)
                · skip
                  refine lv_iinc (v := nI (h2 + 1)) (lv' := [(7, .int (nI (h2 + 1))), (0, .ref (ad 0)), (1, .int k), (2, .int 0), (3, .int (fs_sum (fs_mem (r 4) (r 3) k) (r 13) n)), (4, .int (nI (ct (fs_mem (r 4) (r 3) k) n))), (5, .int (m_gl (r 3) (r 4) (r 14) k n)), (6, .int (fs_ms (fs_mem (r 4) (r 3) k) (r 13) (fs_nw (fs_sum (fs_mem (r 4) (r 3) k) (r 13) n) (m_gl (r 3) (r 4) (r 14) k n) (ct (fs_mem (r 4) (r 3) k) n)) (m_gl (r 3) (r 4) (r 14) k n) h2))]) hx hb dX6_fits_161 hl (k := 7) rfl (nI_1 h2) (by decide) rfl (fun ls hl => ?_)
                  refine lv_goto (tgt := 83) hx hb dX6_fits_164 (by decide) ?_
                  have e9 := fs_mem_f1 (stt := r 4) (g := r 3) (k := k) (j := h2) b101
                  have es : (mw cA ad (upr r 13 (fs_w1 (fs_mem (r 4) (r 3) k) (r 13) (fs_nw (fs_sum (fs_mem (r 4) (r 3) k) (r 13) n) (m_gl (r 3) (r 4) (r 14) k n) (ct (fs_mem (r 4) (r 3) k) n)) h2))) = (mw cA ad (upr r 13 (fs_w1 (fs_mem (r 4) (r 3) k) (r 13) (fs_nw (fs_sum (fs_mem (r 4) (r 3) k) (r 13) n) (m_gl (r 3) (r 4) (r 14) k n) (ct (fs_mem (r 4) (r 3) k) n)) (h2 + 1)))) := by rw [fs_w1_f e9]
                  rw [es] at hP hD
                  exact ih83 (h2 + 1) (by omega) (by omega) ls (lv_cast (lv_sub (l' := [(0, .ref (ad 0)), (1, .int k), (2, .int 0), (3, .int (fs_sum (fs_mem (r 4) (r 3) k) (r 13) n)), (4, .int (nI (ct (fs_mem (r 4) (r 3) k) n))), (5, .int (m_gl (r 3) (r 4) (r 14) k n)), (6, .int (fs_ms (fs_mem (r 4) (r 3) k) (r 13) (fs_nw (fs_sum (fs_mem (r 4) (r 3) k) (r 13) n) (m_gl (r 3) (r 4) (r 14) k n) (ct (fs_mem (r 4) (r 3) k) n)) (m_gl (r 3) (r 4) (r 14) k n) h2)), (7, .int (nI (h2 + 1)))]) hl [1, 2, 3, 4, 5, 6, 7, 0] rfl) (by rw [fs_ms_f e9])) _ _ hP hD hS
                · skip
                  refine lv_aload_n hx hb dX6_fits_104 rfl (lv_at hl 0 rfl) ?_
                  refine lv_iload hx hb dX6_fits_105 (lv_at hl 7 rfl) ?_
                  refine lv_iload_n hx hb dX6_fits_107 rfl (lv_at hl 1 rfl) ?_
                  refine lv_iload_n hx hb dX6_fits_108 rfl (lv_at hl 2 rfl) ?_
                  refine cR S (rr_isOf0 l dg cA ad (upr r 13 (fs_w1 (fs_mem (r 4) (r 3) k) (r 13) (fs_nw (fs_sum (fs_mem (r 4) (r 3) k) (r 13) n) (m_gl (r 3) (r 4) (r 14) k n) (ct (fs_mem (r 4) (r 3) k) n)) h2)) h2 (by omega) k) kX6_139 ⟨rfl, rfl, Nat.le_of_ble_eq_true rfl, Nat.le_of_ble_eq_true rfl⟩ hK hP 0 ml_0 (q := (RX6, TX6, 31)) rfl rfl (As := [.int (nI h2), .int k, .int 0]) rfl hl.1 (rest := []) rfl (Nat.le_of_ble_eq_true rfl) dX6_fits_109 ⟨Nat.le_of_ble_eq_true rfl, Nat.le_of_ble_eq_true rfl⟩ (st1 := [.int (b2 (decide (r 3 h2 = k)))]) rfl ?_
                  refine lv_if_ne (tgt := 118) hx hb dX6_fits_112 (by decide) (fun b112 => ?_) (fun b112 => ?_)
                  · skip
                    have c112 := b2d1 b112
                    refine lv_aload_n hx hb dX6_fits_118 rfl (lv_at hl 0 rfl) ?_
                    refine gf S hK hP 0 ml_0 fX6_50 (v := .ref (ad 13)) mr_13 dX6_fits_119 ?_
                    refine lv_iload hx hb dX6_fits_122 (lv_at hl 7 rfl) ?_
                    refine lv_iload_n hx hb dX6_fits_124 rfl (lv_at hl 3 rfl) ?_
                    refine lv_if_ne (tgt := 136) hx hb dX6_fits_125 (by decide) (fun b125 => ?_) (fun b125 => ?_)
                    · skip
                      refine lv_aload_n hx hb dX6_fits_136 rfl (lv_at hl 0 rfl) ?_
                      refine gf S hK hP 0 ml_0 fX6_50 (v := .ref (ad 13)) mr_13 dX6_fits_137 ?_
                      refine lv_iload hx hb dX6_fits_140 (lv_at hl 7 rfl) ?_
                      refine ild S hK hP 13 ml_13 (j := h2) (by omega) (Nat.le_of_ble_eq_true rfl) dX6_fits_142 ?_
                      refine lv_as (y := r 13 h2) (show upr r 13 (fs_w1 (fs_mem (r 4) (r 3) k) (r 13) (fs_nw (fs_sum (fs_mem (r 4) (r 3) k) (r 13) n) (m_gl (r 3) (r 4) (r 14) k n) (ct (fs_mem (r 4) (r 3) k) n)) h2) 13 h2 = r 13 h2 from fs_w1_ge (Nat.le_refl _)) ?_
                      refine lv_iload hx hb dX6_fits_143 (lv_at hl 5 rfl) ?_
                      refine lv_imul hx hb dX6_fits_145 ?_
                      refine lv_iload_n hx hb dX6_fits_146 rfl (lv_at hl 3 rfl) ?_
                      refine lv_idiv hx hb dX6_fits_147 b125 ?_
                      refine ist S hK hP hD hS 13 ml_13 (j := h2) (x := ((r 13 h2) * (m_gl (r 3) (r 4) (r 14) k n)) / (fs_sum (fs_mem (r 4) (r 3) k) (r 13) n)) (by omega) (Nat.le_of_ble_eq_true rfl) ms_13 dX6_fits_148 (fun H locs hP hD hS => ?_)
                      refine lv_iload hx hb dX6_fits_149 (lv_at hl 6 rfl) ?_
                      refine lv_aload_n hx hb dX6_fits_151 rfl (lv_at hl 0 rfl) ?_
                      refine gf S hK hP 0 ml_0 fX6_50 (v := .ref (ad 13)) mr_13 dX6_fits_152 ?_
                      refine lv_iload hx hb dX6_fits_155 (lv_at hl 7 rfl) ?_
                      refine ild S hK hP 13 ml_13 (j := h2) (by omega) (Nat.le_of_ble_eq_true rfl) dX6_fits_157 ?_
                      refine lv_as (y := ((r 13 h2) * (m_gl (r 3) (r 4) (r 14) k n)) / (fs_sum (fs_mem (r 4) (r 3) k) (r 13) n)) up_at ?_
                      refine lv_isub hx hb dX6_fits_158 ?_
                      refine lv_istore (lv' := [(6, .int ((fs_ms (fs_mem (r 4) (r 3) k) (r 13) (fs_nw (fs_sum (fs_mem (r 4) (r 3) k) (r 13) n) (m_gl (r 3) (r 4) (r 14) k n) (ct (fs_mem (r 4) (r 3) k) n)) (m_gl (r 3) (r 4) (r 14) k n) h2) - (((r 13 h2) * (m_gl (r 3) (r 4) (r 14) k n)) / (fs_sum (fs_mem (r 4) (r 3) k) (r 13) n)))), (0, .ref (ad 0)), (1, .int k), (2, .int 0), (3, .int (fs_sum (fs_mem (r 4) (r 3) k) (r 13) n)), (4, .int (nI (ct (fs_mem (r 4) (r 3) k) n))), (5, .int (m_gl (r 3) (r 4) (r 14) k n)), (7, .int (nI h2))]) hx hb dX6_fits_159 hl (by decide) rfl (fun ls hl => ?_)
                      refine lv_iinc (v := nI (h2 + 1)) (lv' := [(7, .int (nI (h2 + 1))), (6, .int ((fs_ms (fs_mem (r 4) (r 3) k) (r 13) (fs_nw (fs_sum (fs_mem (r 4) (r 3) k) (r 13) n) (m_gl (r 3) (r 4) (r 14) k n) (ct (fs_mem (r 4) (r 3) k) n)) (m_gl (r 3) (r 4) (r 14) k n) h2) - (((r 13 h2) * (m_gl (r 3) (r 4) (r 14) k n)) / (fs_sum (fs_mem (r 4) (r 3) k) (r 13) n)))), (0, .ref (ad 0)), (1, .int k), (2, .int 0), (3, .int (fs_sum (fs_mem (r 4) (r 3) k) (r 13) n)), (4, .int (nI (ct (fs_mem (r 4) (r 3) k) n))), (5, .int (m_gl (r 3) (r 4) (r 14) k n))]) hx hb dX6_fits_161 hl (k := 7) rfl (nI_1 h2) (by decide) rfl (fun ls hl => ?_)
                      refine lv_goto (tgt := 83) hx hb dX6_fits_164 (by decide) ?_
                      have e9 := fs_mem_t (stt := r 4) (g := r 3) (k := k) (j := h2) b101 c112
                      have es : (mw cA ad (up (upr r 13 (fs_w1 (fs_mem (r 4) (r 3) k) (r 13) (fs_nw (fs_sum (fs_mem (r 4) (r 3) k) (r 13) n) (m_gl (r 3) (r 4) (r 14) k n) (ct (fs_mem (r 4) (r 3) k) n)) h2)) 13 h2 (((r 13 h2) * (m_gl (r 3) (r 4) (r 14) k n)) / (fs_sum (fs_mem (r 4) (r 3) k) (r 13) n)))) = (mw cA ad (upr r 13 (fs_w1 (fs_mem (r 4) (r 3) k) (r 13) (fs_nw (fs_sum (fs_mem (r 4) (r 3) k) (r 13) n) (m_gl (r 3) (r 4) (r 14) k n) (ct (fs_mem (r 4) (r 3) k) n)) (h2 + 1)))) := by rw [up_upr, fs_w1_t e9, (show (fs_nw (fs_sum (fs_mem (r 4) (r 3) k) (r 13) n) (m_gl (r 3) (r 4) (r 14) k n) (ct (fs_mem (r 4) (r 3) k) n)) (r 13 h2) = _ by unfold fs_nw; rw [if_neg b125])]
                      rw [es] at hP hD
                      exact ih83 (h2 + 1) (by omega) (by omega) ls (lv_cast (lv_sub (l' := [(0, .ref (ad 0)), (1, .int k), (2, .int 0), (3, .int (fs_sum (fs_mem (r 4) (r 3) k) (r 13) n)), (4, .int (nI (ct (fs_mem (r 4) (r 3) k) n))), (5, .int (m_gl (r 3) (r 4) (r 14) k n)), (6, .int ((fs_ms (fs_mem (r 4) (r 3) k) (r 13) (fs_nw (fs_sum (fs_mem (r 4) (r 3) k) (r 13) n) (m_gl (r 3) (r 4) (r 14) k n) (ct (fs_mem (r 4) (r 3) k) n)) (m_gl (r 3) (r 4) (r 14) k n) h2) - (((r 13 h2) * (m_gl (r 3) (r 4) (r 14) k n)) / (fs_sum (fs_mem (r 4) (r 3) k) (r 13) n)))), (7, .int (nI (h2 + 1)))]) hl [2, 3, 4, 5, 6, 7, 1, 0] rfl) (by rw [fs_ms_t e9, (show (fs_nw (fs_sum (fs_mem (r 4) (r 3) k) (r 13) n) (m_gl (r 3) (r 4) (r 14) k n) (ct (fs_mem (r 4) (r 3) k) n)) (r 13 h2) = _ by unfold fs_nw; rw [if_neg b125])])) _ _ hP hD hS
                    · skip
                      refine lv_iload hx hb dX6_fits_128 (lv_at hl 5 rfl) ?_
                      refine lv_iload hx hb dX6_fits_130 (lv_at hl 4 rfl) ?_
                      refine lv_idiv hx hb dX6_fits_132 (nI_ne0 (by omega) (by omega)) ?_
                      refine lv_goto (tgt := 148) hx hb dX6_fits_133 (by decide) ?_
                      refine ist S hK hP hD hS 13 ml_13 (j := h2) (x := (m_gl (r 3) (r 4) (r 14) k n) / (nI (ct (fs_mem (r 4) (r 3) k) n))) (by omega) (Nat.le_of_ble_eq_true rfl) ms_13 dX6_fits_148 (fun H locs hP hD hS => ?_)
                      refine lv_iload hx hb dX6_fits_149 (lv_at hl 6 rfl) ?_
                      refine lv_aload_n hx hb dX6_fits_151 rfl (lv_at hl 0 rfl) ?_
                      refine gf S hK hP 0 ml_0 fX6_50 (v := .ref (ad 13)) mr_13 dX6_fits_152 ?_
                      refine lv_iload hx hb dX6_fits_155 (lv_at hl 7 rfl) ?_
                      refine ild S hK hP 13 ml_13 (j := h2) (by omega) (Nat.le_of_ble_eq_true rfl) dX6_fits_157 ?_
                      refine lv_as (y := (m_gl (r 3) (r 4) (r 14) k n) / (nI (ct (fs_mem (r 4) (r 3) k) n))) up_at ?_
                      refine lv_isub hx hb dX6_fits_158 ?_
                      refine lv_istore (lv' := [(6, .int ((fs_ms (fs_mem (r 4) (r 3) k) (r 13) (fs_nw (fs_sum (fs_mem (r 4) (r 3) k) (r 13) n) (m_gl (r 3) (r 4) (r 14) k n) (ct (fs_mem (r 4) (r 3) k) n)) (m_gl (r 3) (r 4) (r 14) k n) h2) - ((m_gl (r 3) (r 4) (r 14) k n) / (nI (ct (fs_mem (r 4) (r 3) k) n))))), (0, .ref (ad 0)), (1, .int k), (2, .int 0), (3, .int (fs_sum (fs_mem (r 4) (r 3) k) (r 13) n)), (4, .int (nI (ct (fs_mem (r 4) (r 3) k) n))), (5, .int (m_gl (r 3) (r 4) (r 14) k n)), (7, .int (nI h2))]) hx hb dX6_fits_159 hl (by decide) rfl (fun ls hl => ?_)
                      refine lv_iinc (v := nI (h2 + 1)) (lv' := [(7, .int (nI (h2 + 1))), (6, .int ((fs_ms (fs_mem (r 4) (r 3) k) (r 13) (fs_nw (fs_sum (fs_mem (r 4) (r 3) k) (r 13) n) (m_gl (r 3) (r 4) (r 14) k n) (ct (fs_mem (r 4) (r 3) k) n)) (m_gl (r 3) (r 4) (r 14) k n) h2) - ((m_gl (r 3) (r 4) (r 14) k n) / (nI (ct (fs_mem (r 4) (r 3) k) n))))), (0, .ref (ad 0)), (1, .int k), (2, .int 0), (3, .int (fs_sum (fs_mem (r 4) (r 3) k) (r 13) n)), (4, .int (nI (ct (fs_mem (r 4) (r 3) k) n))), (5, .int (m_gl (r 3) (r 4) (r 14) k n))]) hx hb dX6_fits_161 hl (k := 7) rfl (nI_1 h2) (by decide) rfl (fun ls hl => ?_)
                      refine lv_goto (tgt := 83) hx hb dX6_fits_164 (by decide) ?_
                      have e9 := fs_mem_t (stt := r 4) (g := r 3) (k := k) (j := h2) b101 c112
                      have es : (mw cA ad (up (upr r 13 (fs_w1 (fs_mem (r 4) (r 3) k) (r 13) (fs_nw (fs_sum (fs_mem (r 4) (r 3) k) (r 13) n) (m_gl (r 3) (r 4) (r 14) k n) (ct (fs_mem (r 4) (r 3) k) n)) h2)) 13 h2 ((m_gl (r 3) (r 4) (r 14) k n) / (nI (ct (fs_mem (r 4) (r 3) k) n))))) = (mw cA ad (upr r 13 (fs_w1 (fs_mem (r 4) (r 3) k) (r 13) (fs_nw (fs_sum (fs_mem (r 4) (r 3) k) (r 13) n) (m_gl (r 3) (r 4) (r 14) k n) (ct (fs_mem (r 4) (r 3) k) n)) (h2 + 1)))) := by rw [up_upr, fs_w1_t e9, (show (fs_nw (fs_sum (fs_mem (r 4) (r 3) k) (r 13) n) (m_gl (r 3) (r 4) (r 14) k n) (ct (fs_mem (r 4) (r 3) k) n)) (r 13 h2) = _ by unfold fs_nw; rw [if_pos b125])]
                      rw [es] at hP hD
                      exact ih83 (h2 + 1) (by omega) (by omega) ls (lv_cast (lv_sub (l' := [(0, .ref (ad 0)), (1, .int k), (2, .int 0), (3, .int (fs_sum (fs_mem (r 4) (r 3) k) (r 13) n)), (4, .int (nI (ct (fs_mem (r 4) (r 3) k) n))), (5, .int (m_gl (r 3) (r 4) (r 14) k n)), (6, .int ((fs_ms (fs_mem (r 4) (r 3) k) (r 13) (fs_nw (fs_sum (fs_mem (r 4) (r 3) k) (r 13) n) (m_gl (r 3) (r 4) (r 14) k n) (ct (fs_mem (r 4) (r 3) k) n)) (m_gl (r 3) (r 4) (r 14) k n) h2) - ((m_gl (r 3) (r 4) (r 14) k n) / (nI (ct (fs_mem (r 4) (r 3) k) n))))), (7, .int (nI (h2 + 1)))]) hl [2, 3, 4, 5, 6, 7, 1, 0] rfl) (by rw [fs_ms_t e9, (show (fs_nw (fs_sum (fs_mem (r 4) (r 3) k) (r 13) n) (m_gl (r 3) (r 4) (r 14) k n) (ct (fs_mem (r 4) (r 3) k) n)) (r 13 h2) = _ by unfold fs_nw; rw [if_pos b125])])) _ _ hP hD hS
                  · skip
                    have c112 := b2d0 b112
                    refine lv_goto (tgt := 161) hx hb dX6_fits_115 (by decide) ?_
                    refine lv_iinc (v := nI (h2 + 1)) (lv' := [(7, .int (nI (h2 + 1))), (0, .ref (ad 0)), (1, .int k), (2, .int 0), (3, .int (fs_sum (fs_mem (r 4) (r 3) k) (r 13) n)), (4, .int (nI (ct (fs_mem (r 4) (r 3) k) n))), (5, .int (m_gl (r 3) (r 4) (r 14) k n)), (6, .int (fs_ms (fs_mem (r 4) (r 3) k) (r 13) (fs_nw (fs_sum (fs_mem (r 4) (r 3) k) (r 13) n) (m_gl (r 3) (r 4) (r 14) k n) (ct (fs_mem (r 4) (r 3) k) n)) (m_gl (r 3) (r 4) (r 14) k n) h2))]) hx hb dX6_fits_161 hl (k := 7) rfl (nI_1 h2) (by decide) rfl (fun ls hl => ?_)
                    refine lv_goto (tgt := 83) hx hb dX6_fits_164 (by decide) ?_
                    have e9 := fs_mem_f2 (stt := r 4) (g := r 3) (k := k) (j := h2) c112
                    have es : (mw cA ad (upr r 13 (fs_w1 (fs_mem (r 4) (r 3) k) (r 13) (fs_nw (fs_sum (fs_mem (r 4) (r 3) k) (r 13) n) (m_gl (r 3) (r 4) (r 14) k n) (ct (fs_mem (r 4) (r 3) k) n)) h2))) = (mw cA ad (upr r 13 (fs_w1 (fs_mem (r 4) (r 3) k) (r 13) (fs_nw (fs_sum (fs_mem (r 4) (r 3) k) (r 13) n) (m_gl (r 3) (r 4) (r 14) k n) (ct (fs_mem (r 4) (r 3) k) n)) (h2 + 1)))) := by rw [fs_w1_f e9]
                    rw [es] at hP hD
                    exact ih83 (h2 + 1) (by omega) (by omega) ls (lv_cast (lv_sub (l' := [(0, .ref (ad 0)), (1, .int k), (2, .int 0), (3, .int (fs_sum (fs_mem (r 4) (r 3) k) (r 13) n)), (4, .int (nI (ct (fs_mem (r 4) (r 3) k) n))), (5, .int (m_gl (r 3) (r 4) (r 14) k n)), (6, .int (fs_ms (fs_mem (r 4) (r 3) k) (r 13) (fs_nw (fs_sum (fs_mem (r 4) (r 3) k) (r 13) n) (m_gl (r 3) (r 4) (r 14) k n) (ct (fs_mem (r 4) (r 3) k) n)) (m_gl (r 3) (r 4) (r 14) k n) h2)), (7, .int (nI (h2 + 1)))]) hl [1, 2, 3, 4, 5, 6, 7, 0] rfl) (by rw [fs_ms_f e9])) _ _ hP hD hS
          have es : (mw cA ad r) = (mw cA ad (upr r 13 (fs_w1 (fs_mem (r 4) (r 3) k) (r 13) (fs_nw (fs_sum (fs_mem (r 4) (r 3) k) (r 13) n) (m_gl (r 3) (r 4) (r 14) k n) (ct (fs_mem (r 4) (r 3) k) n)) 0))) := congrArg (mw cA ad) upr_self.symm
          rw [es] at hP hD
          exact hL83 _ 0 (Nat.lt_succ_self _) (Nat.zero_le _) ls (lv_cast (lv_sub (l' := [(0, .ref (ad 0)), (1, .int k), (2, .int 0), (3, .int (fs_sum (fs_mem (r 4) (r 3) k) (r 13) n)), (4, .int (nI (ct (fs_mem (r 4) (r 3) k) n))), (5, .int (m_gl (r 3) (r 4) (r 14) k n)), (6, .int (m_gl (r 3) (r 4) (r 14) k n)), (7, .int 0)]) hl [3, 4, 5, 6, 7, 2, 1, 0] rfl) (by rfl)) _ _ hP hD hS
        · skip
          have g64 : ct (fs_mem (r 4) (r 3) k) n = 0 := (nI_eq (a := ct (fs_mem (r 4) (r 3) k) n) (b := 0) (by omega) (by omega)).mp b64
          exact eMv S hr hlk hP hD hS dX6_fits_67 ((congrArg (mw cA ad) (m_fits_0 g64)).symm)
      · skip
        have g14 : ¬ n ≤ j := fun zz => b14 ((nI_leI (a := n) (b := j) (by omega) (by omega)).mpr zz)
        refine lv_aload_n hx hb dX6_fits_17 rfl (lv_at hl 0 rfl) ?_
        refine gf S hK hP 0 ml_0 fX6_23 (v := .ref (ad 4)) mr_4 dX6_fits_18 ?_
        refine lv_iload hx hb dX6_fits_21 (lv_at hl 5 rfl) ?_
        refine ild S hK hP 4 ml_4 (j := j) (by omega) (Nat.le_of_ble_eq_true rfl) dX6_fits_23 ?_
        refine lv_as (y := r 4 j) rfl ?_
        refine lv_bipush (v := 97) hx hb dX6_fits_24 (by decide) ?_
        refine lv_icmp_ne (tgt := 56) hx hb dX6_fits_26 (by decide) (fun b26 => ?_) (fun b26 => ?_)
        · skip
          refine lv_iinc (v := nI (j + 1)) (lv' := [(5, .int (nI (j + 1))), (0, .ref (ad 0)), (1, .int k), (2, .int 0), (3, .int (fs_sum (fs_mem (r 4) (r 3) k) (r 13) j)), (4, .int (nI (ct (fs_mem (r 4) (r 3) k) j)))]) hx hb dX6_fits_56 hl (k := 5) rfl (nI_1 j) (by decide) rfl (fun ls hl => ?_)
          refine lv_goto (tgt := 8) hx hb dX6_fits_59 (by decide) ?_
          have e9 := fs_mem_f1 (stt := r 4) (g := r 3) (k := k) (j := j) b26
          exact ih8 (j + 1) (by omega) (by omega) ls (lv_cast (lv_sub (l' := [(0, .ref (ad 0)), (1, .int k), (2, .int 0), (3, .int (fs_sum (fs_mem (r 4) (r 3) k) (r 13) j)), (4, .int (nI (ct (fs_mem (r 4) (r 3) k) j))), (5, .int (nI (j + 1)))]) hl [1, 2, 3, 4, 5, 0] rfl) (by rw [fs_sum_f e9, ct_f e9])) _ _ hP hD hS
        · skip
          refine lv_aload_n hx hb dX6_fits_29 rfl (lv_at hl 0 rfl) ?_
          refine lv_iload hx hb dX6_fits_30 (lv_at hl 5 rfl) ?_
          refine lv_iload_n hx hb dX6_fits_32 rfl (lv_at hl 1 rfl) ?_
          refine lv_iload_n hx hb dX6_fits_33 rfl (lv_at hl 2 rfl) ?_
          refine cR S (rr_isOf0 l dg cA ad r j (by omega) k) kX6_139 ⟨rfl, rfl, Nat.le_of_ble_eq_true rfl, Nat.le_of_ble_eq_true rfl⟩ hK hP 0 ml_0 (q := (RX6, TX6, 31)) rfl rfl (As := [.int (nI j), .int k, .int 0]) rfl hl.1 (rest := []) rfl (Nat.le_of_ble_eq_true rfl) dX6_fits_34 ⟨Nat.le_of_ble_eq_true rfl, Nat.le_of_ble_eq_true rfl⟩ (st1 := [.int (b2 (decide (r 3 j = k)))]) rfl ?_
          refine lv_if_ne (tgt := 43) hx hb dX6_fits_37 (by decide) (fun b37 => ?_) (fun b37 => ?_)
          · skip
            have c37 := b2d1 b37
            refine lv_iload_n hx hb dX6_fits_43 rfl (lv_at hl 3 rfl) ?_
            refine lv_aload_n hx hb dX6_fits_44 rfl (lv_at hl 0 rfl) ?_
            refine gf S hK hP 0 ml_0 fX6_50 (v := .ref (ad 13)) mr_13 dX6_fits_45 ?_
            refine lv_iload hx hb dX6_fits_48 (lv_at hl 5 rfl) ?_
            refine ild S hK hP 13 ml_13 (j := j) (by omega) (Nat.le_of_ble_eq_true rfl) dX6_fits_50 ?_
            refine lv_as (y := r 13 j) rfl ?_
            refine lv_iadd hx hb dX6_fits_51 ?_
            refine lv_istore_n (lv' := [(3, .int ((fs_sum (fs_mem (r 4) (r 3) k) (r 13) j) + (r 13 j))), (0, .ref (ad 0)), (1, .int k), (2, .int 0), (4, .int (nI (ct (fs_mem (r 4) (r 3) k) j))), (5, .int (nI j))]) hx hb dX6_fits_52 rfl hl (by decide) rfl (fun ls hl => ?_)
            refine lv_iinc (v := nI (ct (fs_mem (r 4) (r 3) k) j + 1)) (lv' := [(4, .int (nI (ct (fs_mem (r 4) (r 3) k) j + 1))), (3, .int ((fs_sum (fs_mem (r 4) (r 3) k) (r 13) j) + (r 13 j))), (0, .ref (ad 0)), (1, .int k), (2, .int 0), (5, .int (nI j))]) hx hb dX6_fits_53 hl (k := 4) rfl (nI_1 (ct (fs_mem (r 4) (r 3) k) j)) (by decide) rfl (fun ls hl => ?_)
            refine lv_iinc (v := nI (j + 1)) (lv' := [(5, .int (nI (j + 1))), (4, .int (nI (ct (fs_mem (r 4) (r 3) k) j + 1))), (3, .int ((fs_sum (fs_mem (r 4) (r 3) k) (r 13) j) + (r 13 j))), (0, .ref (ad 0)), (1, .int k), (2, .int 0)]) hx hb dX6_fits_56 hl (k := 5) rfl (nI_1 j) (by decide) rfl (fun ls hl => ?_)
            refine lv_goto (tgt := 8) hx hb dX6_fits_59 (by decide) ?_
            have e9 := fs_mem_t (stt := r 4) (g := r 3) (k := k) (j := j) b26 c37
            exact ih8 (j + 1) (by omega) (by omega) ls (lv_cast (lv_sub (l' := [(0, .ref (ad 0)), (1, .int k), (2, .int 0), (3, .int ((fs_sum (fs_mem (r 4) (r 3) k) (r 13) j) + (r 13 j))), (4, .int (nI (ct (fs_mem (r 4) (r 3) k) j + 1))), (5, .int (nI (j + 1)))]) hl [3, 4, 5, 2, 1, 0] rfl) (by rw [fs_sum_t e9, ct_t e9])) _ _ hP hD hS
          · skip
            have c37 := b2d0 b37
            refine lv_goto (tgt := 56) hx hb dX6_fits_40 (by decide) ?_
            refine lv_iinc (v := nI (j + 1)) (lv' := [(5, .int (nI (j + 1))), (0, .ref (ad 0)), (1, .int k), (2, .int 0), (3, .int (fs_sum (fs_mem (r 4) (r 3) k) (r 13) j)), (4, .int (nI (ct (fs_mem (r 4) (r 3) k) j)))]) hx hb dX6_fits_56 hl (k := 5) rfl (nI_1 j) (by decide) rfl (fun ls hl => ?_)
            refine lv_goto (tgt := 8) hx hb dX6_fits_59 (by decide) ?_
            have e9 := fs_mem_f2 (stt := r 4) (g := r 3) (k := k) (j := j) c37
            exact ih8 (j + 1) (by omega) (by omega) ls (lv_cast (lv_sub (l' := [(0, .ref (ad 0)), (1, .int k), (2, .int 0), (3, .int (fs_sum (fs_mem (r 4) (r 3) k) (r 13) j)), (4, .int (nI (ct (fs_mem (r 4) (r 3) k) j))), (5, .int (nI (j + 1)))]) hl [1, 2, 3, 4, 5, 0] rfl) (by rw [fs_sum_f e9, ct_f e9])) _ _ hP hD hS
  exact hL8 _ 0 (Nat.lt_succ_self _) (Nat.zero_le _) ls (lv_cast (lv_sub (l' := [(0, .ref (ad 0)), (1, .int k), (2, .int 0), (3, .int 0), (4, .int 0), (5, .int 0)]) hl [3, 4, 5, 2, 1, 0] rfl) (by rfl)) _ _ hP hD hS

set_option maxHeartbeats 4000000 in
set_option maxRecDepth 100000 in
theorem rr_weighs (l : Launch) (dg : va_G) (cA : Nat → ClassId) (ad : Nat → Nat) (r : St) (n : Nat) (hn : r 0 3 = nI n) (hn24 : n ≤ 24) (ns : Nat) (hns : r 0 2 = nI ns) (hns4 : ns ≤ 4) (sz : Nat) : MetM l dg cA yX6_weighs cX6_weighs 3 none ({ frames := 3, cells := 0, slots := 0, locals := 74 } : Room) 0 0 (mw cA ad r) sz [.ref (ad 0)] (mw cA ad (m_weigh r n ns)) none := by
  refine ofM (by decide) (Nat.le_of_ble_eq_true rfl) (own := RX6) rfl (fun p e s0 m args below meth ccd ls A hAe S hr hlk hname hargs hK hP hD hS hA hsz hl => ?_)
  have hx := S.1
  have hb := S.2.1
  have hl : lv_has ls 3 [(0, .ref (ad 0))] := hl
  refine lv_iconst (v := 0) hx hb dX6_weighs_0 (by decide) ?_
  refine lv_istore_n (lv' := [(1, .int 0), (0, .ref (ad 0))]) hx hb dX6_weighs_1 rfl hl (by decide) rfl (fun ls hl => ?_)
  have hL2 : ∀ (f : Nat) (j : Nat), n - j < f → (j ≤ n) → ∀ ls, lv_has ls 3 [(0, .ref (ad 0)), (1, .int (nI j))] → ∀ (H : Heap) (locs : List Loc), PP dg (mw cA ad (upr r 13 (fs_w0 (r 13) j))) H → va_D A (mw cA ad (upr r 13 (fs_w0 (r 13) j))) → va_S A s0.heap H locs → W p l e ({ frames := 3, cells := 0, slots := 0, locals := 74 } : Room) s0 m args below meth ccd H locs 0 0 (MQ below (QcM dg (mw cA ad (m_weigh r n ns)) none A) args s0 0 0 A) (F0 m 2 ls []) := by
    intro f
    induction f with
    | zero => intro j hm; exact absurd hm (Nat.not_lt_zero _)
    | succ f ih2 =>
      intro j hm2 hj ls hl H locs hP hD hS
      refine lv_iload_n hx hb dX6_weighs_2 rfl (lv_at hl 1 rfl) ?_
      refine lv_aload_n hx hb dX6_weighs_3 rfl (lv_at hl 0 rfl) ?_
      refine gf S hK hP 0 ml_0 fX6_93 (v := .int (nI n)) (mv_3 hn) dX6_weighs_4 ?_
      refine lv_icmp_ge (tgt := 25) hx hb dX6_weighs_7 (by decide) (fun b7 => ?_) (fun b7 => ?_)
      · skip
        have g7 : n ≤ j := (nI_leI (a := n) (b := j) (by omega) (by omega)).mp b7
        have ej : j = n := by omega
        rw [ej] at hl hP hD
        refine lv_iconst (v := 0) hx hb dX6_weighs_25 (by decide) ?_
        refine lv_istore_n (lv' := [(1, .int 0), (0, .ref (ad 0))]) hx hb dX6_weighs_26 rfl hl (by decide) rfl (fun ls hl => ?_)
        have hL27 : ∀ (f : Nat) (t : Nat), 7 - t < f → (t ≤ 7) → ∀ ls, lv_has ls 3 [(0, .ref (ad 0)), (1, .int (nI t))] → ∀ (H : Heap) (locs : List Loc), PP dg (mw cA ad (upr r 13 (m_wt r n ns t))) H → va_D A (mw cA ad (upr r 13 (m_wt r n ns t))) → va_S A s0.heap H locs → W p l e ({ frames := 3, cells := 0, slots := 0, locals := 74 } : Room) s0 m args below meth ccd H locs 0 0 (MQ below (QcM dg (mw cA ad (m_weigh r n ns)) none A) args s0 0 0 A) (F0 m 27 ls []) := by
          intro f
          induction f with
          | zero => intro t hm; exact absurd hm (Nat.not_lt_zero _)
          | succ f ih27 =>
            intro t hm27 ht ls hl H locs hP hD hS
            refine lv_iload_n hx hb dX6_weighs_27 rfl (lv_at hl 1 rfl) ?_
            refine lv_bipush (v := 7) hx hb dX6_weighs_28 (by decide) ?_
            refine lv_icmp_ge (tgt := 81) hx hb dX6_weighs_30 (by decide) (fun b30 => ?_) (fun b30 => ?_)
            · skip
              have g30 : 7 ≤ t := (nI_leI (a := 7) (b := t) (by omega) (by omega)).mp b30
              exact eMv S hr hlk hP hD hS dX6_weighs_81 (by rw [show t = 7 by omega]; rfl)
            · skip
              have g30 : ¬ 7 ≤ t := fun zz => b30 ((nI_leI (a := 7) (b := t) (by omega) (by omega)).mpr zz)
              rcases (show t % 2 = 0 ∨ ¬ t % 2 = 0 by omega) with g39 | g39
              · skip
                have q39 : nI (t % 2) = 0 := by rw [g39]; rfl
                refine lv_iconst (v := 0) hx hb dX6_weighs_33 (by decide) ?_
                refine lv_istore_n (lv' := [(2, .int 0), (0, .ref (ad 0)), (1, .int (nI t))]) hx hb dX6_weighs_34 rfl hl (by decide) rfl (fun ls hl => ?_)
                have hL35 : ∀ (f : Nat) (k : Nat), ns - k < f → (k ≤ ns) → ∀ ls, lv_has ls 3 [(0, .ref (ad 0)), (1, .int (nI t)), (2, .int (nI k))] → ∀ (H : Heap) (locs : List Loc), PP dg (mw cA ad (upr r 13 (m_wk r n 1 (m_wt r n ns t) k))) H → va_D A (mw cA ad (upr r 13 (m_wk r n 1 (m_wt r n ns t) k))) → va_S A s0.heap H locs → W p l e ({ frames := 3, cells := 0, slots := 0, locals := 74 } : Room) s0 m args below meth ccd H locs 0 0 (MQ below (QcM dg (mw cA ad (m_weigh r n ns)) none A) args s0 0 0 A) (F0 m 35 ls []) := by
                  intro f
                  induction f with
                  | zero => intro k hm; exact absurd hm (Nat.not_lt_zero _)
                  | succ f ih35 =>
                    intro k hm35 hk ls hl H locs hP hD hS
                    refine lv_iload_n hx hb dX6_weighs_35 rfl (lv_at hl 2 rfl) ?_
                    refine lv_iload_n hx hb dX6_weighs_36 rfl (lv_at hl 1 rfl) ?_
                    refine lv_iconst (v := 2) hx hb dX6_weighs_37 (by decide) ?_
                    refine lv_irem hx hb dX6_weighs_38 (by decide) ?_
                    refine lv_as (y := nI (t % 2)) (pk_rem (a := t) (d := 2) (by omega) (by omega) (by omega)) ?_
                    refine lv_if_ne (tgt := 49) hx hb dX6_weighs_39 (by decide) (fun b39 => ?_) (fun b39 => ?_)
                    · skip
                      have g39 : ¬ t % 2 = 0 := fun zz => b39 ((nI_eq (a := t % 2) (b := 0) (by omega) (by omega)).mpr zz)
                      exact absurd q39 b39
                    · skip
                      have g39 : t % 2 = 0 := (nI_eq (a := t % 2) (b := 0) (by omega) (by omega)).mp b39
                      refine lv_aload_n hx hb dX6_weighs_42 rfl (lv_at hl 0 rfl) ?_
                      refine gf S hK hP 0 ml_0 fX6_108 (v := .int (nI ns)) (mv_2 hns) dX6_weighs_43 ?_
                      refine lv_goto (tgt := 50) hx hb dX6_weighs_46 (by decide) ?_
                      refine lv_icmp_ge (tgt := 75) hx hb dX6_weighs_50 (by decide) (fun b50 => ?_) (fun b50 => ?_)
                      · skip
                        have g50 : ns ≤ k := (nI_leI (a := ns) (b := k) (by omega) (by omega)).mp b50
                        have ek : k = ns := by omega
                        rw [ek] at hl hP hD
                        refine lv_iinc (v := nI (t + 1)) (lv' := [(1, .int (nI (t + 1))), (0, .ref (ad 0)), (2, .int (nI ns))]) hx hb dX6_weighs_75 hl (k := 1) rfl (nI_1 t) (by decide) rfl (fun ls hl => ?_)
                        refine lv_goto (tgt := 27) hx hb dX6_weighs_78 (by decide) ?_
                        have es : (mw cA ad (upr r 13 (m_wk r n 1 (m_wt r n ns t) ns))) = (mw cA ad (upr r 13 (m_wt r n ns (t + 1)))) := by rw [m_wt_0 g39]
                        rw [es] at hP hD
                        exact ih27 (t + 1) (by omega) (by omega) ls (lv_sub hl [1, 0] rfl) _ _ hP hD hS
                      · skip
                        have g50 : ¬ ns ≤ k := fun zz => b50 ((nI_leI (a := ns) (b := k) (by omega) (by omega)).mpr zz)
                        refine lv_aload_n hx hb dX6_weighs_53 rfl (lv_at hl 0 rfl) ?_
                        refine lv_iload_n hx hb dX6_weighs_54 rfl (lv_at hl 2 rfl) ?_
                        refine lv_iload_n hx hb dX6_weighs_55 rfl (lv_at hl 1 rfl) ?_
                        refine lv_iconst (v := 2) hx hb dX6_weighs_56 (by decide) ?_
                        refine lv_irem hx hb dX6_weighs_57 (by decide) ?_
                        refine lv_as (y := nI (t % 2)) (pk_rem (a := t) (d := 2) (by omega) (by omega) (by omega)) ?_
                        refine lv_if_ne (tgt := 65) hx hb dX6_weighs_58 (by decide) (fun b58 => ?_) (fun b58 => ?_)
                        · skip
                          have g58 : ¬ t % 2 = 0 := fun zz => b58 ((nI_eq (a := t % 2) (b := 0) (by omega) (by omega)).mpr zz)
                          exact absurd b39 b58
                        · skip
                          have g58 : t % 2 = 0 := (nI_eq (a := t % 2) (b := 0) (by omega) (by omega)).mp b58
                          refine lv_iconst (v := 1) hx hb dX6_weighs_61 (by decide) ?_
                          refine lv_goto (tgt := 66) hx hb dX6_weighs_62 (by decide) ?_
                          refine cM S (rr_fits1 l dg cA ad (upr r 13 (m_wk r n 1 (m_wt r n ns t) k)) n hn hn24 (nI k) _) kX6_146 ⟨rfl, rfl, Nat.le_of_ble_eq_true rfl, Nat.le_of_ble_eq_true rfl⟩ hK hP hD hS hA 0 ml_0 (q := (RX6, TX6, 31)) rfl rfl (As := [.int (nI k), .int 1]) rfl hl.1 (rest := []) rfl (Nat.le_of_ble_eq_true rfl) dX6_weighs_66 ⟨Nat.le_of_ble_eq_true rfl, Nat.le_of_ble_eq_true rfl⟩ (st1 := []) rfl (fun H locs hP hD hS => ?_)
                          refine lv_iinc (v := nI (k + 1)) (lv' := [(2, .int (nI (k + 1))), (0, .ref (ad 0)), (1, .int (nI t))]) hx hb dX6_weighs_69 hl (k := 2) rfl (nI_1 k) (by decide) rfl (fun ls hl => ?_)
                          refine lv_goto (tgt := 35) hx hb dX6_weighs_72 (by decide) ?_
                          have es : (mw cA ad (m_fits (upr r 13 (m_wk r n 1 (m_wt r n ns t) k)) 1 (nI k) n)) = (mw cA ad (upr r 13 (m_wk r n 1 (m_wt r n ns t) (k + 1)))) := by rw [m_fits_w1]; rfl
                          rw [es] at hP hD
                          exact ih35 (k + 1) (by omega) (by omega) ls (lv_sub hl [1, 2, 0] rfl) _ _ hP hD hS
                have es : (mw cA ad (upr r 13 (m_wt r n ns t))) = (mw cA ad (upr r 13 (m_wk r n 1 (m_wt r n ns t) 0))) := rfl
                rw [es] at hP hD
                exact hL35 _ 0 (Nat.lt_succ_self _) (Nat.zero_le _) ls (lv_cast (lv_sub (l' := [(0, .ref (ad 0)), (1, .int (nI t)), (2, .int 0)]) hl [1, 2, 0] rfl) (by rfl)) _ _ hP hD hS
              · skip
                have q39 : ¬ nI (t % 2) = 0 := nI_ne0 (by omega) (by omega)
                refine lv_iconst (v := 0) hx hb dX6_weighs_33 (by decide) ?_
                refine lv_istore_n (lv' := [(2, .int 0), (0, .ref (ad 0)), (1, .int (nI t))]) hx hb dX6_weighs_34 rfl hl (by decide) rfl (fun ls hl => ?_)
                have hL35 : ∀ (f : Nat) (k : Nat), 3 - k < f → (k ≤ 3) → ∀ ls, lv_has ls 3 [(0, .ref (ad 0)), (1, .int (nI t)), (2, .int (nI k))] → ∀ (H : Heap) (locs : List Loc), PP dg (mw cA ad (upr r 13 (m_wk r n 3 (m_wt r n ns t) k))) H → va_D A (mw cA ad (upr r 13 (m_wk r n 3 (m_wt r n ns t) k))) → va_S A s0.heap H locs → W p l e ({ frames := 3, cells := 0, slots := 0, locals := 74 } : Room) s0 m args below meth ccd H locs 0 0 (MQ below (QcM dg (mw cA ad (m_weigh r n ns)) none A) args s0 0 0 A) (F0 m 35 ls []) := by
                  intro f
                  induction f with
                  | zero => intro k hm; exact absurd hm (Nat.not_lt_zero _)
                  | succ f ih35 =>
                    intro k hm35 hk ls hl H locs hP hD hS
                    refine lv_iload_n hx hb dX6_weighs_35 rfl (lv_at hl 2 rfl) ?_
                    refine lv_iload_n hx hb dX6_weighs_36 rfl (lv_at hl 1 rfl) ?_
                    refine lv_iconst (v := 2) hx hb dX6_weighs_37 (by decide) ?_
                    refine lv_irem hx hb dX6_weighs_38 (by decide) ?_
                    refine lv_as (y := nI (t % 2)) (pk_rem (a := t) (d := 2) (by omega) (by omega) (by omega)) ?_
                    refine lv_if_ne (tgt := 49) hx hb dX6_weighs_39 (by decide) (fun b39 => ?_) (fun b39 => ?_)
                    · skip
                      have g39 : ¬ t % 2 = 0 := fun zz => b39 ((nI_eq (a := t % 2) (b := 0) (by omega) (by omega)).mpr zz)
                      refine lv_iconst (v := 3) hx hb dX6_weighs_49 (by decide) ?_
                      refine lv_icmp_ge (tgt := 75) hx hb dX6_weighs_50 (by decide) (fun b50 => ?_) (fun b50 => ?_)
                      · skip
                        have g50 : 3 ≤ k := (nI_leI (a := 3) (b := k) (by omega) (by omega)).mp b50
                        have ek : k = 3 := by omega
                        rw [ek] at hl hP hD
                        refine lv_iinc (v := nI (t + 1)) (lv' := [(1, .int (nI (t + 1))), (0, .ref (ad 0)), (2, .int (nI 3))]) hx hb dX6_weighs_75 hl (k := 1) rfl (nI_1 t) (by decide) rfl (fun ls hl => ?_)
                        refine lv_goto (tgt := 27) hx hb dX6_weighs_78 (by decide) ?_
                        have es : (mw cA ad (upr r 13 (m_wk r n 3 (m_wt r n ns t) 3))) = (mw cA ad (upr r 13 (m_wt r n ns (t + 1)))) := by rw [m_wt_1 g39]
                        rw [es] at hP hD
                        exact ih27 (t + 1) (by omega) (by omega) ls (lv_sub hl [1, 0] rfl) _ _ hP hD hS
                      · skip
                        have g50 : ¬ 3 ≤ k := fun zz => b50 ((nI_leI (a := 3) (b := k) (by omega) (by omega)).mpr zz)
                        refine lv_aload_n hx hb dX6_weighs_53 rfl (lv_at hl 0 rfl) ?_
                        refine lv_iload_n hx hb dX6_weighs_54 rfl (lv_at hl 2 rfl) ?_
                        refine lv_iload_n hx hb dX6_weighs_55 rfl (lv_at hl 1 rfl) ?_
                        refine lv_iconst (v := 2) hx hb dX6_weighs_56 (by decide) ?_
                        refine lv_irem hx hb dX6_weighs_57 (by decide) ?_
                        refine lv_as (y := nI (t % 2)) (pk_rem (a := t) (d := 2) (by omega) (by omega) (by omega)) ?_
                        refine lv_if_ne (tgt := 65) hx hb dX6_weighs_58 (by decide) (fun b58 => ?_) (fun b58 => ?_)
                        · skip
                          have g58 : ¬ t % 2 = 0 := fun zz => b58 ((nI_eq (a := t % 2) (b := 0) (by omega) (by omega)).mpr zz)
                          refine lv_iconst (v := 0) hx hb dX6_weighs_65 (by decide) ?_
                          refine cM S (rr_fits0 l dg cA ad (upr r 13 (m_wk r n 3 (m_wt r n ns t) k)) n hn hn24 (nI k) _) kX6_146 ⟨rfl, rfl, Nat.le_of_ble_eq_true rfl, Nat.le_of_ble_eq_true rfl⟩ hK hP hD hS hA 0 ml_0 (q := (RX6, TX6, 31)) rfl rfl (As := [.int (nI k), .int 0]) rfl hl.1 (rest := []) rfl (Nat.le_of_ble_eq_true rfl) dX6_weighs_66 ⟨Nat.le_of_ble_eq_true rfl, Nat.le_of_ble_eq_true rfl⟩ (st1 := []) rfl (fun H locs hP hD hS => ?_)
                          refine lv_iinc (v := nI (k + 1)) (lv' := [(2, .int (nI (k + 1))), (0, .ref (ad 0)), (1, .int (nI t))]) hx hb dX6_weighs_69 hl (k := 2) rfl (nI_1 k) (by decide) rfl (fun ls hl => ?_)
                          refine lv_goto (tgt := 35) hx hb dX6_weighs_72 (by decide) ?_
                          have es : (mw cA ad (m_fits (upr r 13 (m_wk r n 3 (m_wt r n ns t) k)) 3 (nI k) n)) = (mw cA ad (upr r 13 (m_wk r n 3 (m_wt r n ns t) (k + 1)))) := by rw [m_fits_w3]; rfl
                          rw [es] at hP hD
                          exact ih35 (k + 1) (by omega) (by omega) ls (lv_sub hl [1, 2, 0] rfl) _ _ hP hD hS
                        · skip
                          have g58 : t % 2 = 0 := (nI_eq (a := t % 2) (b := 0) (by omega) (by omega)).mp b58
                          exact absurd b58 b39
                    · skip
                      have g39 : t % 2 = 0 := (nI_eq (a := t % 2) (b := 0) (by omega) (by omega)).mp b39
                      exact absurd b39 q39
                have es : (mw cA ad (upr r 13 (m_wt r n ns t))) = (mw cA ad (upr r 13 (m_wk r n 3 (m_wt r n ns t) 0))) := rfl
                rw [es] at hP hD
                exact hL35 _ 0 (Nat.lt_succ_self _) (Nat.zero_le _) ls (lv_cast (lv_sub (l' := [(0, .ref (ad 0)), (1, .int (nI t)), (2, .int 0)]) hl [1, 2, 0] rfl) (by rfl)) _ _ hP hD hS
        have es : (mw cA ad (upr r 13 (fs_w0 (r 13) n))) = (mw cA ad (upr r 13 (m_wt r n ns 0))) := rfl
        rw [es] at hP hD
        exact hL27 _ 0 (Nat.lt_succ_self _) (Nat.zero_le _) ls (lv_cast (lv_sub (l' := [(0, .ref (ad 0)), (1, .int 0)]) hl [1, 0] rfl) (by rfl)) _ _ hP hD hS
      · skip
        have g7 : ¬ n ≤ j := fun zz => b7 ((nI_leI (a := n) (b := j) (by omega) (by omega)).mpr zz)
        refine lv_aload_n hx hb dX6_weighs_10 rfl (lv_at hl 0 rfl) ?_
        refine gf S hK hP 0 ml_0 fX6_50 (v := .ref (ad 13)) mr_13 dX6_weighs_11 ?_
        refine lv_iload_n hx hb dX6_weighs_14 rfl (lv_at hl 1 rfl) ?_
        refine lv_sipush (v := 1000) hx hb dX6_weighs_15 (by decide) ?_
        refine ist S hK hP hD hS 13 ml_13 (j := j) (x := 1000) (by omega) (Nat.le_of_ble_eq_true rfl) ms_13 dX6_weighs_18 (fun H locs hP hD hS => ?_)
        refine lv_iinc (v := nI (j + 1)) (lv' := [(1, .int (nI (j + 1))), (0, .ref (ad 0))]) hx hb dX6_weighs_19 hl (k := 1) rfl (nI_1 j) (by decide) rfl (fun ls hl => ?_)
        refine lv_goto (tgt := 2) hx hb dX6_weighs_22 (by decide) ?_
        have es : (mw cA ad (up (upr r 13 (fs_w0 (r 13) j)) 13 j 1000)) = (mw cA ad (upr r 13 (fs_w0 (r 13) (j + 1)))) := by rw [up_upr]; rfl
        rw [es] at hP hD
        exact ih2 (j + 1) (by omega) (by omega) ls (lv_sub hl [1, 0] rfl) _ _ hP hD hS
  have es : (mw cA ad r) = (mw cA ad (upr r 13 (fs_w0 (r 13) 0))) := congrArg (mw cA ad) upr_self.symm
  rw [es] at hP hD
  exact hL2 _ 0 (Nat.lt_succ_self _) (Nat.zero_le _) ls (lv_cast (lv_sub (l' := [(0, .ref (ad 0)), (1, .int 0)]) hl [1, 0] rfl) (by rfl)) _ _ hP hD hS

set_option maxHeartbeats 4000000 in
set_option maxRecDepth 100000 in
theorem rr_weight1 (l : Launch) (dg : va_G) (cA : Nat → ClassId) (ad : Nat → Nat) (r : St) (n : Nat) (hn : r 0 3 = nI n) (hn24 : n ≤ 24) (ns : Nat) (hns : r 0 2 = nI ns) (hns4 : ns ≤ 4) (j : Nat) (hj : j < n) (hs : r 4 j = 97) (sz : Nat) : MetM l dg cA yX6_weight cX6_weight 2 (some .int) ({ frames := 4, cells := 0, slots := 0, locals := 96 } : Room) 0 0 (mw cA ad r) sz [.ref (ad 0), .int (nI j)] (mw cA ad (m_weigh (up r 0 0 0) n ns)) (some (.int (m_wt (up r 0 0 0) n ns 7 j))) := by
  refine ofM (by decide) (Nat.le_of_ble_eq_true rfl) (own := RX6) rfl (fun p e s0 m args below meth ccd ls A hAe S hr hlk hname hargs hK hP hD hS hA hsz hl => ?_)
  have hx := S.1
  have hb := S.2.1
  have hl : lv_has ls 2 [(0, .ref (ad 0)), (1, .int (nI j))] := hl
  refine lv_aload_n hx hb dX6_weight_0 rfl (lv_at hl 0 rfl) ?_
  refine lv_iload_n hx hb dX6_weight_1 rfl (lv_at hl 1 rfl) ?_
  refine cM S (rr_isHouse1 l dg cA ad r n hn hn24 j hj _) kX6_133 ⟨rfl, rfl, Nat.le_of_ble_eq_true rfl, Nat.le_of_ble_eq_true rfl⟩ hK hP hD hS hA 0 ml_0 (q := (RX6, TX6, 31)) rfl rfl (As := [.int (nI j)]) rfl hl.1 (rest := []) rfl (Nat.le_of_ble_eq_true rfl) dX6_weight_2 ⟨Nat.le_of_ble_eq_true rfl, Nat.le_of_ble_eq_true rfl⟩ (st1 := [.int 1]) rfl (fun H locs hP hD hS => ?_)
  refine lv_if_ne (tgt := 10) hx hb dX6_weight_5 (by decide) (fun b5 => ?_) (fun b5 => ?_)
  · skip
    refine lv_aload_n hx hb dX6_weight_10 rfl (lv_at hl 0 rfl) ?_
    refine gf S hK hP 0 ml_0 fX6_23 (v := .ref (ad 4)) mr_4 dX6_weight_11 ?_
    refine lv_iload_n hx hb dX6_weight_14 rfl (lv_at hl 1 rfl) ?_
    refine ild S hK hP 4 ml_4 (j := j) (by omega) (Nat.le_of_ble_eq_true rfl) dX6_weight_15 ?_
    refine lv_as (y := 97) hs ?_
    refine lv_bipush (v := 97) hx hb dX6_weight_16 (by decide) ?_
    refine lv_icmp_eq (tgt := 27) hx hb dX6_weight_18 (by decide) (fun b18 => ?_) (fun b18 => ?_)
    · skip
      refine lv_aload_n hx hb dX6_weight_27 rfl (lv_at hl 0 rfl) ?_
      refine cM S (rr_weighs l dg cA ad (up r 0 0 0) n hn hn24 ns hns hns4 _) kX6_150 ⟨rfl, rfl, Nat.le_of_ble_eq_true rfl, Nat.le_of_ble_eq_true rfl⟩ hK hP hD hS hA 0 ml_0 (q := (RX6, TX6, 31)) rfl rfl (As := []) rfl hl.1 (rest := []) rfl (Nat.le_of_ble_eq_true rfl) dX6_weight_28 ⟨Nat.le_of_ble_eq_true rfl, Nat.le_of_ble_eq_true rfl⟩ (st1 := []) rfl (fun H locs hP hD hS => ?_)
      refine lv_aload_n hx hb dX6_weight_31 rfl (lv_at hl 0 rfl) ?_
      refine gf S hK hP 0 ml_0 fX6_50 (v := .ref (ad 13)) mr_13 dX6_weight_32 ?_
      refine lv_iload_n hx hb dX6_weight_35 rfl (lv_at hl 1 rfl) ?_
      refine ild S hK hP 13 ml_13 (j := j) (by omega) (Nat.le_of_ble_eq_true rfl) dX6_weight_36 ?_
      refine lv_as (y := (m_wt (up r 0 0 0) n ns 7) j) rfl ?_
      exact eMi S hr hlk hP hD hS dX6_weight_37 rfl rfl
    · skip
      exact False.elim (by revert b18; decide)
  · skip
    exact False.elim (by revert b5; decide)

set_option maxHeartbeats 4000000 in
set_option maxRecDepth 100000 in
theorem rr_weight2 (l : Launch) (dg : va_G) (cA : Nat → ClassId) (ad : Nat → Nat) (r : St) (n : Nat) (hn : r 0 3 = nI n) (hn24 : n ≤ 24) (j : Nat) (hj : j < n) (hs : ¬ r 4 j = 97) (sz : Nat) : MetM l dg cA yX6_weight cX6_weight 2 (some .int) ({ frames := 2, cells := 0, slots := 0, locals := 43 } : Room) 0 0 (mw cA ad r) sz [.ref (ad 0), .int (nI j)] (mw cA ad (up r 0 0 2)) (some (.int 0)) := by
  refine ofM (by decide) (Nat.le_of_ble_eq_true rfl) (own := RX6) rfl (fun p e s0 m args below meth ccd ls A hAe S hr hlk hname hargs hK hP hD hS hA hsz hl => ?_)
  have hx := S.1
  have hb := S.2.1
  have hl : lv_has ls 2 [(0, .ref (ad 0)), (1, .int (nI j))] := hl
  refine lv_aload_n hx hb dX6_weight_0 rfl (lv_at hl 0 rfl) ?_
  refine lv_iload_n hx hb dX6_weight_1 rfl (lv_at hl 1 rfl) ?_
  refine cM S (rr_isHouse1 l dg cA ad r n hn hn24 j hj _) kX6_133 ⟨rfl, rfl, Nat.le_of_ble_eq_true rfl, Nat.le_of_ble_eq_true rfl⟩ hK hP hD hS hA 0 ml_0 (q := (RX6, TX6, 31)) rfl rfl (As := [.int (nI j)]) rfl hl.1 (rest := []) rfl (Nat.le_of_ble_eq_true rfl) dX6_weight_2 ⟨Nat.le_of_ble_eq_true rfl, Nat.le_of_ble_eq_true rfl⟩ (st1 := [.int 1]) rfl (fun H locs hP hD hS => ?_)
  refine lv_if_ne (tgt := 10) hx hb dX6_weight_5 (by decide) (fun b5 => ?_) (fun b5 => ?_)
  · skip
    refine lv_aload_n hx hb dX6_weight_10 rfl (lv_at hl 0 rfl) ?_
    refine gf S hK hP 0 ml_0 fX6_23 (v := .ref (ad 4)) mr_4 dX6_weight_11 ?_
    refine lv_iload_n hx hb dX6_weight_14 rfl (lv_at hl 1 rfl) ?_
    refine ild S hK hP 4 ml_4 (j := j) (by omega) (Nat.le_of_ble_eq_true rfl) dX6_weight_15 ?_
    refine lv_as (y := r 4 j) rfl ?_
    refine lv_bipush (v := 97) hx hb dX6_weight_16 (by decide) ?_
    refine lv_icmp_eq (tgt := 27) hx hb dX6_weight_18 (by decide) (fun b18 => ?_) (fun b18 => ?_)
    · skip
      exact absurd b18 hs
    · skip
      refine lv_aload_n hx hb dX6_weight_21 rfl (lv_at hl 0 rfl) ?_
      refine lv_iconst (v := 2) hx hb dX6_weight_22 (by decide) ?_
      refine cM S (rr_fails l dg cA ad (up r 0 0 0) 2 _) kX6_104 ⟨rfl, rfl, Nat.le_of_ble_eq_true rfl, Nat.le_of_ble_eq_true rfl⟩ hK hP hD hS hA 0 ml_0 (q := (RX6, TX6, 31)) rfl rfl (As := [.int 2]) rfl hl.1 (rest := []) rfl (Nat.le_of_ble_eq_true rfl) dX6_weight_23 ⟨Nat.le_of_ble_eq_true rfl, Nat.le_of_ble_eq_true rfl⟩ (st1 := [.int 0]) rfl (fun H locs hP hD hS => ?_)
      exact eMi S hr hlk hP hD hS dX6_weight_26 rfl up_twice_mw
  · skip
    exact False.elim (by revert b5; decide)

set_option maxHeartbeats 4000000 in
set_option maxRecDepth 100000 in
theorem rr_weight0 (l : Launch) (dg : va_G) (cA : Nat → ClassId) (ad : Nat → Nat) (r : St) (n : Nat) (hn : r 0 3 = nI n) (hn24 : n ≤ 24) (v : Int32) (hv : v < 0 ∨ nI n ≤ v) (sz : Nat) : MetM l dg cA yX6_weight cX6_weight 2 (some .int) ({ frames := 2, cells := 0, slots := 0, locals := 43 } : Room) 0 0 (mw cA ad r) sz [.ref (ad 0), .int v] (mw cA ad (up r 0 0 1)) (some (.int 0)) := by
  refine ofM (by decide) (Nat.le_of_ble_eq_true rfl) (own := RX6) rfl (fun p e s0 m args below meth ccd ls A hAe S hr hlk hname hargs hK hP hD hS hA hsz hl => ?_)
  have hx := S.1
  have hb := S.2.1
  have hl : lv_has ls 2 [(0, .ref (ad 0)), (1, .int v)] := hl
  refine lv_aload_n hx hb dX6_weight_0 rfl (lv_at hl 0 rfl) ?_
  refine lv_iload_n hx hb dX6_weight_1 rfl (lv_at hl 1 rfl) ?_
  refine cM S (rr_isHouse0 l dg cA ad r n hn hn24 v hv _) kX6_133 ⟨rfl, rfl, Nat.le_of_ble_eq_true rfl, Nat.le_of_ble_eq_true rfl⟩ hK hP hD hS hA 0 ml_0 (q := (RX6, TX6, 31)) rfl rfl (As := [.int v]) rfl hl.1 (rest := []) rfl (Nat.le_of_ble_eq_true rfl) dX6_weight_2 ⟨Nat.le_of_ble_eq_true rfl, Nat.le_of_ble_eq_true rfl⟩ (st1 := [.int 0]) rfl (fun H locs hP hD hS => ?_)
  refine lv_if_ne (tgt := 10) hx hb dX6_weight_5 (by decide) (fun b5 => ?_) (fun b5 => ?_)
  · skip
    exact False.elim (by revert b5; decide)
  · skip
    refine lv_iconst (v := 0) hx hb dX6_weight_8 (by decide) ?_
    exact eMi S hr hlk hP hD hS dX6_weight_9 rfl rfl

set_option maxHeartbeats 4000000 in
set_option maxRecDepth 100000 in
theorem rr_weightAnew1 (l : Launch) (dg : va_G) (cA : Nat → ClassId) (ad : Nat → Nat) (r : St) (n : Nat) (hn : r 0 3 = nI n) (hn24 : n ≤ 24) (ns : Nat) (hns : r 0 2 = nI ns) (hns4 : ns ≤ 4) (j : Nat) (hj : j < n) (hs : r 4 j = 97) (sz : Nat) : MetM l dg cA yX6_weightAnew cX6_weightAnew 2 (some .int) ({ frames := 5, cells := 0, slots := 0, locals := 117 } : Room) 0 0 (mw cA ad r) sz [.ref (ad 0), .int (nI j)] (mw cA ad (m_weigh (up r 0 0 0) n ns)) (some (.int (m_wt (up r 0 0 0) n ns 7 j))) := by
  refine ofM (by decide) (Nat.le_of_ble_eq_true rfl) (own := RX6) rfl (fun p e s0 m args below meth ccd ls A hAe S hr hlk hname hargs hK hP hD hS hA hsz hl => ?_)
  have hx := S.1
  have hb := S.2.1
  have hl : lv_has ls 2 [(0, .ref (ad 0)), (1, .int (nI j))] := hl
  refine lv_aload_n hx hb dX6_weightAnew_0 rfl (lv_at hl 0 rfl) ?_
  refine lv_iload_n hx hb dX6_weightAnew_1 rfl (lv_at hl 1 rfl) ?_
  refine cM S (rr_weight1 l dg cA ad r n hn hn24 ns hns hns4 j hj hs _) kX6_153 ⟨rfl, rfl, Nat.le_of_ble_eq_true rfl, Nat.le_of_ble_eq_true rfl⟩ hK hP hD hS hA 0 ml_0 (q := (RX6, TX6, 31)) rfl rfl (As := [.int (nI j)]) rfl hl.1 (rest := []) rfl (Nat.le_of_ble_eq_true rfl) dX6_weightAnew_2 ⟨Nat.le_of_ble_eq_true rfl, Nat.le_of_ble_eq_true rfl⟩ (st1 := [.int (m_wt (up r 0 0 0) n ns 7 j)]) rfl (fun H locs hP hD hS => ?_)
  exact eMi S hr hlk hP hD hS dX6_weightAnew_5 rfl rfl

set_option maxHeartbeats 4000000 in
set_option maxRecDepth 100000 in
theorem rr_weightAnew2 (l : Launch) (dg : va_G) (cA : Nat → ClassId) (ad : Nat → Nat) (r : St) (n : Nat) (hn : r 0 3 = nI n) (hn24 : n ≤ 24) (j : Nat) (hj : j < n) (hs : ¬ r 4 j = 97) (sz : Nat) : MetM l dg cA yX6_weightAnew cX6_weightAnew 2 (some .int) ({ frames := 3, cells := 0, slots := 0, locals := 64 } : Room) 0 0 (mw cA ad r) sz [.ref (ad 0), .int (nI j)] (mw cA ad (up r 0 0 2)) (some (.int 0)) := by
  refine ofM (by decide) (Nat.le_of_ble_eq_true rfl) (own := RX6) rfl (fun p e s0 m args below meth ccd ls A hAe S hr hlk hname hargs hK hP hD hS hA hsz hl => ?_)
  have hx := S.1
  have hb := S.2.1
  have hl : lv_has ls 2 [(0, .ref (ad 0)), (1, .int (nI j))] := hl
  refine lv_aload_n hx hb dX6_weightAnew_0 rfl (lv_at hl 0 rfl) ?_
  refine lv_iload_n hx hb dX6_weightAnew_1 rfl (lv_at hl 1 rfl) ?_
  refine cM S (rr_weight2 l dg cA ad r n hn hn24 j hj hs _) kX6_153 ⟨rfl, rfl, Nat.le_of_ble_eq_true rfl, Nat.le_of_ble_eq_true rfl⟩ hK hP hD hS hA 0 ml_0 (q := (RX6, TX6, 31)) rfl rfl (As := [.int (nI j)]) rfl hl.1 (rest := []) rfl (Nat.le_of_ble_eq_true rfl) dX6_weightAnew_2 ⟨Nat.le_of_ble_eq_true rfl, Nat.le_of_ble_eq_true rfl⟩ (st1 := [.int 0]) rfl (fun H locs hP hD hS => ?_)
  exact eMi S hr hlk hP hD hS dX6_weightAnew_5 rfl rfl

set_option maxHeartbeats 4000000 in
set_option maxRecDepth 100000 in
theorem rr_weightAnew0 (l : Launch) (dg : va_G) (cA : Nat → ClassId) (ad : Nat → Nat) (r : St) (n : Nat) (hn : r 0 3 = nI n) (hn24 : n ≤ 24) (v : Int32) (hv : v < 0 ∨ nI n ≤ v) (sz : Nat) : MetM l dg cA yX6_weightAnew cX6_weightAnew 2 (some .int) ({ frames := 3, cells := 0, slots := 0, locals := 64 } : Room) 0 0 (mw cA ad r) sz [.ref (ad 0), .int v] (mw cA ad (up r 0 0 1)) (some (.int 0)) := by
  refine ofM (by decide) (Nat.le_of_ble_eq_true rfl) (own := RX6) rfl (fun p e s0 m args below meth ccd ls A hAe S hr hlk hname hargs hK hP hD hS hA hsz hl => ?_)
  have hx := S.1
  have hb := S.2.1
  have hl : lv_has ls 2 [(0, .ref (ad 0)), (1, .int v)] := hl
  refine lv_aload_n hx hb dX6_weightAnew_0 rfl (lv_at hl 0 rfl) ?_
  refine lv_iload_n hx hb dX6_weightAnew_1 rfl (lv_at hl 1 rfl) ?_
  refine cM S (rr_weight0 l dg cA ad r n hn hn24 v hv _) kX6_153 ⟨rfl, rfl, Nat.le_of_ble_eq_true rfl, Nat.le_of_ble_eq_true rfl⟩ hK hP hD hS hA 0 ml_0 (q := (RX6, TX6, 31)) rfl rfl (As := [.int v]) rfl hl.1 (rest := []) rfl (Nat.le_of_ble_eq_true rfl) dX6_weightAnew_2 ⟨Nat.le_of_ble_eq_true rfl, Nat.le_of_ble_eq_true rfl⟩ (st1 := [.int 0]) rfl (fun H locs hP hD hS => ?_)
  exact eMi S hr hlk hP hD hS dX6_weightAnew_5 rfl rfl

set_option maxHeartbeats 4000000 in
set_option maxRecDepth 100000 in
theorem rr_wol0 (l : Launch) (dg : va_G) (cA : Nat → ClassId) (ad : Nat → Nat) (r : St) (k : Int32) (hk : ¬ (¬ k < 0 ∧ ¬ 2 < k)) (sz : Nat) : MetM l dg cA yX6_weightOfLanguage cX6_weightOfLanguage 4 (some .int) ({ frames := 1, cells := 0, slots := 0, locals := 22 } : Room) 0 0 (mw cA ad r) sz [.ref (ad 0), .int k] (mw cA ad (up r 0 0 1)) (some (.int 0)) := by
  refine ofM (by decide) (Nat.le_of_ble_eq_true rfl) (own := RX6) rfl (fun p e s0 m args below meth ccd ls A hAe S hr hlk hname hargs hK hP hD hS hA hsz hl => ?_)
  have hx := S.1
  have hb := S.2.1
  have hl : lv_has ls 4 [(0, .ref (ad 0)), (1, .int k)] := hl
  refine lv_iload_n hx hb dX6_weightOfLanguage_0 rfl (lv_at hl 1 rfl) ?_
  refine lv_iconst (v := 0) hx hb dX6_weightOfLanguage_1 (by decide) ?_
  refine lv_iconst (v := 2) hx hb dX6_weightOfLanguage_2 (by decide) ?_
  refine cRS S (rr_in0 l dg cA (mw cA ad r) k 0 2 hk) kX6_96 ⟨rfl, rfl, Nat.le_of_ble_eq_true rfl, Nat.le_of_ble_eq_true rfl⟩ hK hP (As := [.int k, .int 0, .int 2]) rfl hl.1 (rest := []) rfl (Nat.le_of_ble_eq_true rfl) dX6_weightOfLanguage_3 ⟨Nat.le_of_ble_eq_true rfl, Nat.le_of_ble_eq_true rfl⟩ (st1 := [.int 0]) rfl ?_
  refine lv_if_ne (tgt := 15) hx hb dX6_weightOfLanguage_6 (by decide) (fun b6 => ?_) (fun b6 => ?_)
  · skip
    exact False.elim (by revert b6; decide)
  · skip
    refine lv_aload_n hx hb dX6_weightOfLanguage_9 rfl (lv_at hl 0 rfl) ?_
    refine lv_iconst (v := 1) hx hb dX6_weightOfLanguage_10 (by decide) ?_
    refine cM S (rr_fails l dg cA ad r 1 _) kX6_104 ⟨rfl, rfl, Nat.le_of_ble_eq_true rfl, Nat.le_of_ble_eq_true rfl⟩ hK hP hD hS hA 0 ml_0 (q := (RX6, TX6, 31)) rfl rfl (As := [.int 1]) rfl hl.1 (rest := []) rfl (Nat.le_of_ble_eq_true rfl) dX6_weightOfLanguage_11 ⟨Nat.le_of_ble_eq_true rfl, Nat.le_of_ble_eq_true rfl⟩ (st1 := [.int 0]) rfl (fun H locs hP hD hS => ?_)
    exact eMi S hr hlk hP hD hS dX6_weightOfLanguage_14 rfl rfl

set_option maxHeartbeats 4000000 in
set_option maxRecDepth 100000 in
theorem rr_wol1 (l : Launch) (dg : va_G) (cA : Nat → ClassId) (ad : Nat → Nat) (r : St) (n : Nat) (hn : r 0 3 = nI n) (hn24 : n ≤ 24) (ns : Nat) (hns : r 0 2 = nI ns) (hns4 : ns ≤ 4) (k : Int32) (h1 : ¬ k < 0) (h2 : ¬ 2 < k) (sz : Nat) : MetM l dg cA yX6_weightOfLanguage cX6_weightOfLanguage 4 (some .int) ({ frames := 4, cells := 0, slots := 0, locals := 96 } : Room) 0 0 (mw cA ad r) sz [.ref (ad 0), .int k] (mw cA ad (m_weigh (up r 0 0 0) n ns)) (some (.int (fs_sum (fs_mem (r 4) (r 3) k) (m_wt (up r 0 0 0) n ns 7) n))) := by
  refine ofM (by decide) (Nat.le_of_ble_eq_true rfl) (own := RX6) rfl (fun p e s0 m args below meth ccd ls A hAe S hr hlk hname hargs hK hP hD hS hA hsz hl => ?_)
  have hx := S.1
  have hb := S.2.1
  have hl : lv_has ls 4 [(0, .ref (ad 0)), (1, .int k)] := hl
  refine lv_iload_n hx hb dX6_weightOfLanguage_0 rfl (lv_at hl 1 rfl) ?_
  refine lv_iconst (v := 0) hx hb dX6_weightOfLanguage_1 (by decide) ?_
  refine lv_iconst (v := 2) hx hb dX6_weightOfLanguage_2 (by decide) ?_
  refine cRS S (rr_in1 l dg cA (mw cA ad r) k 0 2 h1 h2) kX6_96 ⟨rfl, rfl, Nat.le_of_ble_eq_true rfl, Nat.le_of_ble_eq_true rfl⟩ hK hP (As := [.int k, .int 0, .int 2]) rfl hl.1 (rest := []) rfl (Nat.le_of_ble_eq_true rfl) dX6_weightOfLanguage_3 ⟨Nat.le_of_ble_eq_true rfl, Nat.le_of_ble_eq_true rfl⟩ (st1 := [.int 1]) rfl ?_
  refine lv_if_ne (tgt := 15) hx hb dX6_weightOfLanguage_6 (by decide) (fun b6 => ?_) (fun b6 => ?_)
  · skip
    refine lv_aload_n hx hb dX6_weightOfLanguage_15 rfl (lv_at hl 0 rfl) ?_
    refine lv_iconst (v := 0) hx hb dX6_weightOfLanguage_16 (by decide) ?_
    refine pf S hK hP hD hS 0 ml_0 fX6_90 fpX6 rfl (v := .int 0) rfl rfl (Nat.le_of_ble_eq_true rfl) ms_0_0 dX6_weightOfLanguage_17 (fun H locs hP hD hS => ?_)
    refine lv_aload_n hx hb dX6_weightOfLanguage_20 rfl (lv_at hl 0 rfl) ?_
    refine cM S (rr_weighs l dg cA ad (up r 0 0 0) n hn hn24 ns hns hns4 _) kX6_150 ⟨rfl, rfl, Nat.le_of_ble_eq_true rfl, Nat.le_of_ble_eq_true rfl⟩ hK hP hD hS hA 0 ml_0 (q := (RX6, TX6, 31)) rfl rfl (As := []) rfl hl.1 (rest := []) rfl (Nat.le_of_ble_eq_true rfl) dX6_weightOfLanguage_21 ⟨Nat.le_of_ble_eq_true rfl, Nat.le_of_ble_eq_true rfl⟩ (st1 := []) rfl (fun H locs hP hD hS => ?_)
    refine lv_iconst (v := 0) hx hb dX6_weightOfLanguage_24 (by decide) ?_
    refine lv_istore_n (lv' := [(2, .int 0), (0, .ref (ad 0)), (1, .int k)]) hx hb dX6_weightOfLanguage_25 rfl hl (by decide) rfl (fun ls hl => ?_)
    refine lv_iconst (v := 0) hx hb dX6_weightOfLanguage_26 (by decide) ?_
    refine lv_istore_n (lv' := [(3, .int 0), (2, .int 0), (0, .ref (ad 0)), (1, .int k)]) hx hb dX6_weightOfLanguage_27 rfl hl (by decide) rfl (fun ls hl => ?_)
    have hL28 : ∀ (f : Nat) (j : Nat), n - j < f → (j ≤ n) → ∀ ls, lv_has ls 4 [(0, .ref (ad 0)), (1, .int k), (2, .int (fs_sum (fs_mem (r 4) (r 3) k) (m_wt (up r 0 0 0) n ns 7) j)), (3, .int (nI j))] → ∀ (H : Heap) (locs : List Loc), PP dg (mw cA ad (m_weigh (up r 0 0 0) n ns)) H → va_D A (mw cA ad (m_weigh (up r 0 0 0) n ns)) → va_S A s0.heap H locs → W p l e ({ frames := 4, cells := 0, slots := 0, locals := 96 } : Room) s0 m args below meth ccd H locs 0 0 (MQ below (QcM dg (mw cA ad (m_weigh (up r 0 0 0) n ns)) (some (.int (fs_sum (fs_mem (r 4) (r 3) k) (m_wt (up r 0 0 0) n ns 7) n))) A) args s0 0 0 A) (F0 m 28 ls []) := by
      intro f
      induction f with
      | zero => intro j hm; exact absurd hm (Nat.not_lt_zero _)
      | succ f ih28 =>
        intro j hm28 hj ls hl H locs hP hD hS
        refine lv_iload_n hx hb dX6_weightOfLanguage_28 rfl (lv_at hl 3 rfl) ?_
        refine lv_aload_n hx hb dX6_weightOfLanguage_29 rfl (lv_at hl 0 rfl) ?_
        refine gf S hK hP 0 ml_0 fX6_93 (v := .int (nI n)) (mv_3 hn) dX6_weightOfLanguage_30 ?_
        refine lv_icmp_ge (tgt := 76) hx hb dX6_weightOfLanguage_33 (by decide) (fun b33 => ?_) (fun b33 => ?_)
        · skip
          have g33 : n ≤ j := (nI_leI (a := n) (b := j) (by omega) (by omega)).mp b33
          refine lv_iload_n hx hb dX6_weightOfLanguage_76 rfl (lv_at hl 2 rfl) ?_
          exact eMi S hr hlk hP hD hS dX6_weightOfLanguage_77 (by rw [show j = n by omega]) rfl
        · skip
          have g33 : ¬ n ≤ j := fun zz => b33 ((nI_leI (a := n) (b := j) (by omega) (by omega)).mpr zz)
          refine lv_iload_n hx hb dX6_weightOfLanguage_36 rfl (lv_at hl 2 rfl) ?_
          refine lv_aload_n hx hb dX6_weightOfLanguage_37 rfl (lv_at hl 0 rfl) ?_
          refine gf S hK hP 0 ml_0 fX6_23 (v := .ref (ad 4)) mr_4 dX6_weightOfLanguage_38 ?_
          refine lv_iload_n hx hb dX6_weightOfLanguage_41 rfl (lv_at hl 3 rfl) ?_
          refine ild S hK hP 4 ml_4 (j := j) (by omega) (Nat.le_of_ble_eq_true rfl) dX6_weightOfLanguage_42 ?_
          refine lv_as (y := r 4 j) rfl ?_
          refine lv_bipush (v := 97) hx hb dX6_weightOfLanguage_43 (by decide) ?_
          refine lv_icmp_ne (tgt := 67) hx hb dX6_weightOfLanguage_45 (by decide) (fun b45 => ?_) (fun b45 => ?_)
          · skip
            refine lv_iconst (v := 0) hx hb dX6_weightOfLanguage_67 (by decide) ?_
            refine lv_iadd hx hb dX6_weightOfLanguage_68 ?_
            refine lv_istore_n (lv' := [(2, .int ((fs_sum (fs_mem (r 4) (r 3) k) (m_wt (up r 0 0 0) n ns 7) j) + 0)), (0, .ref (ad 0)), (1, .int k), (3, .int (nI j))]) hx hb dX6_weightOfLanguage_69 rfl hl (by decide) rfl (fun ls hl => ?_)
            refine lv_iinc (v := nI (j + 1)) (lv' := [(3, .int (nI (j + 1))), (2, .int ((fs_sum (fs_mem (r 4) (r 3) k) (m_wt (up r 0 0 0) n ns 7) j) + 0)), (0, .ref (ad 0)), (1, .int k)]) hx hb dX6_weightOfLanguage_70 hl (k := 3) rfl (nI_1 j) (by decide) rfl (fun ls hl => ?_)
            refine lv_goto (tgt := 28) hx hb dX6_weightOfLanguage_73 (by decide) ?_
            have e9 := fs_mem_f1 (stt := r 4) (g := r 3) (k := k) (j := j) b45
            exact ih28 (j + 1) (by omega) (by omega) ls (lv_cast (lv_sub (l' := [(0, .ref (ad 0)), (1, .int k), (2, .int ((fs_sum (fs_mem (r 4) (r 3) k) (m_wt (up r 0 0 0) n ns 7) j) + 0)), (3, .int (nI (j + 1)))]) hl [2, 3, 1, 0] rfl) (by rw [fs_sum_f e9, i32_add0])) _ _ hP hD hS
          · skip
            refine lv_aload_n hx hb dX6_weightOfLanguage_48 rfl (lv_at hl 0 rfl) ?_
            refine gf S hK hP 0 ml_0 fX6_20 (v := .ref (ad 3)) mr_3 dX6_weightOfLanguage_49 ?_
            refine lv_iload_n hx hb dX6_weightOfLanguage_52 rfl (lv_at hl 3 rfl) ?_
            refine ild S hK hP 3 ml_3 (j := j) (by omega) (Nat.le_of_ble_eq_true rfl) dX6_weightOfLanguage_53 ?_
            refine lv_as (y := r 3 j) rfl ?_
            refine lv_iload_n hx hb dX6_weightOfLanguage_54 rfl (lv_at hl 1 rfl) ?_
            refine lv_icmp_ne (tgt := 67) hx hb dX6_weightOfLanguage_55 (by decide) (fun b55 => ?_) (fun b55 => ?_)
            · skip
              refine lv_iconst (v := 0) hx hb dX6_weightOfLanguage_67 (by decide) ?_
              refine lv_iadd hx hb dX6_weightOfLanguage_68 ?_
              refine lv_istore_n (lv' := [(2, .int ((fs_sum (fs_mem (r 4) (r 3) k) (m_wt (up r 0 0 0) n ns 7) j) + 0)), (0, .ref (ad 0)), (1, .int k), (3, .int (nI j))]) hx hb dX6_weightOfLanguage_69 rfl hl (by decide) rfl (fun ls hl => ?_)
              refine lv_iinc (v := nI (j + 1)) (lv' := [(3, .int (nI (j + 1))), (2, .int ((fs_sum (fs_mem (r 4) (r 3) k) (m_wt (up r 0 0 0) n ns 7) j) + 0)), (0, .ref (ad 0)), (1, .int k)]) hx hb dX6_weightOfLanguage_70 hl (k := 3) rfl (nI_1 j) (by decide) rfl (fun ls hl => ?_)
              refine lv_goto (tgt := 28) hx hb dX6_weightOfLanguage_73 (by decide) ?_
              have e9 := fs_mem_f2 (stt := r 4) (g := r 3) (k := k) (j := j) b55
              exact ih28 (j + 1) (by omega) (by omega) ls (lv_cast (lv_sub (l' := [(0, .ref (ad 0)), (1, .int k), (2, .int ((fs_sum (fs_mem (r 4) (r 3) k) (m_wt (up r 0 0 0) n ns 7) j) + 0)), (3, .int (nI (j + 1)))]) hl [2, 3, 1, 0] rfl) (by rw [fs_sum_f e9, i32_add0])) _ _ hP hD hS
            · skip
              refine lv_aload_n hx hb dX6_weightOfLanguage_58 rfl (lv_at hl 0 rfl) ?_
              refine gf S hK hP 0 ml_0 fX6_50 (v := .ref (ad 13)) mr_13 dX6_weightOfLanguage_59 ?_
              refine lv_iload_n hx hb dX6_weightOfLanguage_62 rfl (lv_at hl 3 rfl) ?_
              refine ild S hK hP 13 ml_13 (j := j) (by omega) (Nat.le_of_ble_eq_true rfl) dX6_weightOfLanguage_63 ?_
              refine lv_as (y := (m_wt (up r 0 0 0) n ns 7) j) rfl ?_
              refine lv_goto (tgt := 68) hx hb dX6_weightOfLanguage_64 (by decide) ?_
              refine lv_iadd hx hb dX6_weightOfLanguage_68 ?_
              refine lv_istore_n (lv' := [(2, .int ((fs_sum (fs_mem (r 4) (r 3) k) (m_wt (up r 0 0 0) n ns 7) j) + ((m_wt (up r 0 0 0) n ns 7) j))), (0, .ref (ad 0)), (1, .int k), (3, .int (nI j))]) hx hb dX6_weightOfLanguage_69 rfl hl (by decide) rfl (fun ls hl => ?_)
              refine lv_iinc (v := nI (j + 1)) (lv' := [(3, .int (nI (j + 1))), (2, .int ((fs_sum (fs_mem (r 4) (r 3) k) (m_wt (up r 0 0 0) n ns 7) j) + ((m_wt (up r 0 0 0) n ns 7) j))), (0, .ref (ad 0)), (1, .int k)]) hx hb dX6_weightOfLanguage_70 hl (k := 3) rfl (nI_1 j) (by decide) rfl (fun ls hl => ?_)
              refine lv_goto (tgt := 28) hx hb dX6_weightOfLanguage_73 (by decide) ?_
              have e9 := fs_mem_t (stt := r 4) (g := r 3) (k := k) (j := j) b45 b55
              exact ih28 (j + 1) (by omega) (by omega) ls (lv_cast (lv_sub (l' := [(0, .ref (ad 0)), (1, .int k), (2, .int ((fs_sum (fs_mem (r 4) (r 3) k) (m_wt (up r 0 0 0) n ns 7) j) + ((m_wt (up r 0 0 0) n ns 7) j))), (3, .int (nI (j + 1)))]) hl [2, 3, 1, 0] rfl) (by rw [fs_sum_t e9])) _ _ hP hD hS
    have es : (mw cA ad (m_weigh (up r 0 0 0) n ns)) = (mw cA ad (m_weigh (up r 0 0 0) n ns)) := rfl
    rw [es] at hP hD
    exact hL28 _ 0 (Nat.lt_succ_self _) (Nat.zero_le _) ls (lv_cast (lv_sub (l' := [(0, .ref (ad 0)), (1, .int k), (2, .int 0), (3, .int 0)]) hl [2, 3, 1, 0] rfl) (by rfl)) _ _ hP hD hS
  · skip
    exact False.elim (by revert b6; decide)

set_option maxHeartbeats 4000000 in
set_option maxRecDepth 100000 in
theorem rr_wsum (l : Launch) (dg : va_G) (cA : Nat → ClassId) (ad : Nat → Nat) (r : St) (n : Nat) (hn : r 0 3 = nI n) (hn24 : n ≤ 24) (ns : Nat) (hns : r 0 2 = nI ns) (hns4 : ns ≤ 4) (sz : Nat) : MetM l dg cA yX6_weightedSum cX6_weightedSum 4 (some .long) ({ frames := 4, cells := 0, slots := 0, locals := 96 } : Room) 0 0 (mw cA ad r) sz [.ref (ad 0)] (mw cA ad (m_weigh (up r 0 0 0) n ns)) (some (.long (m_ws64 (r 4) (r 10) (m_wt (up r 0 0 0) n ns 7) n))) := by
  refine ofM (by decide) (Nat.le_of_ble_eq_true rfl) (own := RX6) rfl (fun p e s0 m args below meth ccd ls A hAe S hr hlk hname hargs hK hP hD hS hA hsz hl => ?_)
  have hx := S.1
  have hb := S.2.1
  have hl : lv_has ls 4 [(0, .ref (ad 0))] := hl
  refine lv_aload_n hx hb dX6_weightedSum_0 rfl (lv_at hl 0 rfl) ?_
  refine lv_iconst (v := 0) hx hb dX6_weightedSum_1 (by decide) ?_
  refine pf S hK hP hD hS 0 ml_0 fX6_90 fpX6 rfl (v := .int 0) rfl rfl (Nat.le_of_ble_eq_true rfl) ms_0_0 dX6_weightedSum_2 (fun H locs hP hD hS => ?_)
  refine lv_aload_n hx hb dX6_weightedSum_5 rfl (lv_at hl 0 rfl) ?_
  refine cM S (rr_weighs l dg cA ad (up r 0 0 0) n hn hn24 ns hns hns4 _) kX6_150 ⟨rfl, rfl, Nat.le_of_ble_eq_true rfl, Nat.le_of_ble_eq_true rfl⟩ hK hP hD hS hA 0 ml_0 (q := (RX6, TX6, 31)) rfl rfl (As := []) rfl hl.1 (rest := []) rfl (Nat.le_of_ble_eq_true rfl) dX6_weightedSum_6 ⟨Nat.le_of_ble_eq_true rfl, Nat.le_of_ble_eq_true rfl⟩ (st1 := []) rfl (fun H locs hP hD hS => ?_)
  refine lv_lconst (v := 0) hx hb dX6_weightedSum_9 (by decide) ?_
  refine lv_lstore_n (lv' := [(1, .long 0), (0, .ref (ad 0))]) hx hb dX6_weightedSum_10 rfl hl (by decide) rfl (fun ls hl => ?_)
  refine lv_iconst (v := 0) hx hb dX6_weightedSum_11 (by decide) ?_
  refine lv_istore_n (lv' := [(3, .int 0), (1, .long 0), (0, .ref (ad 0))]) hx hb dX6_weightedSum_12 rfl hl (by decide) rfl (fun ls hl => ?_)
  have hL13 : ∀ (f : Nat) (j : Nat), n - j < f → (j ≤ n) → ∀ ls, lv_has ls 4 [(0, .ref (ad 0)), (1, .long (m_ws64 (r 4) (r 10) (m_wt (up r 0 0 0) n ns 7) j)), (3, .int (nI j))] → ∀ (H : Heap) (locs : List Loc), PP dg (mw cA ad (m_weigh (up r 0 0 0) n ns)) H → va_D A (mw cA ad (m_weigh (up r 0 0 0) n ns)) → va_S A s0.heap H locs → W p l e ({ frames := 4, cells := 0, slots := 0, locals := 96 } : Room) s0 m args below meth ccd H locs 0 0 (MQ below (QcM dg (mw cA ad (m_weigh (up r 0 0 0) n ns)) (some (.long (m_ws64 (r 4) (r 10) (m_wt (up r 0 0 0) n ns 7) n))) A) args s0 0 0 A) (F0 m 13 ls []) := by
    intro f
    induction f with
    | zero => intro j hm; exact absurd hm (Nat.not_lt_zero _)
    | succ f ih13 =>
      intro j hm13 hj ls hl H locs hP hD hS
      refine lv_iload_n hx hb dX6_weightedSum_13 rfl (lv_at hl 2 rfl) ?_
      refine lv_aload_n hx hb dX6_weightedSum_14 rfl (lv_at hl 0 rfl) ?_
      refine gf S hK hP 0 ml_0 fX6_93 (v := .int (nI n)) (mv_3 hn) dX6_weightedSum_15 ?_
      refine lv_icmp_ge (tgt := 59) hx hb dX6_weightedSum_18 (by decide) (fun b18 => ?_) (fun b18 => ?_)
      · skip
        have g18 : n ≤ j := (nI_leI (a := n) (b := j) (by omega) (by omega)).mp b18
        refine lv_lload_n hx hb dX6_weightedSum_59 rfl (lv_at hl 1 rfl) ?_
        exact eMl S hr hlk hP hD hS dX6_weightedSum_60 (by rw [show j = n by omega]) rfl
      · skip
        have g18 : ¬ n ≤ j := fun zz => b18 ((nI_leI (a := n) (b := j) (by omega) (by omega)).mpr zz)
        refine lv_lload_n hx hb dX6_weightedSum_21 rfl (lv_at hl 1 rfl) ?_
        refine lv_aload_n hx hb dX6_weightedSum_22 rfl (lv_at hl 0 rfl) ?_
        refine gf S hK hP 0 ml_0 fX6_23 (v := .ref (ad 4)) mr_4 dX6_weightedSum_23 ?_
        refine lv_iload_n hx hb dX6_weightedSum_26 rfl (lv_at hl 2 rfl) ?_
        refine ild S hK hP 4 ml_4 (j := j) (by omega) (Nat.le_of_ble_eq_true rfl) dX6_weightedSum_27 ?_
        refine lv_as (y := r 4 j) rfl ?_
        refine lv_bipush (v := 97) hx hb dX6_weightedSum_28 (by decide) ?_
        refine lv_icmp_ne (tgt := 50) hx hb dX6_weightedSum_30 (by decide) (fun b30 => ?_) (fun b30 => ?_)
        · skip
          refine lv_lconst (v := 0) hx hb dX6_weightedSum_50 (by decide) ?_
          refine lv_ladd hx hb dX6_weightedSum_51 ?_
          refine lv_lstore_n (lv' := [(1, .long ((m_ws64 (r 4) (r 10) (m_wt (up r 0 0 0) n ns 7) j) + 0)), (0, .ref (ad 0)), (3, .int (nI j))]) hx hb dX6_weightedSum_52 rfl hl (by decide) rfl (fun ls hl => ?_)
          refine lv_iinc (v := nI (j + 1)) (lv' := [(3, .int (nI (j + 1))), (1, .long ((m_ws64 (r 4) (r 10) (m_wt (up r 0 0 0) n ns 7) j) + 0)), (0, .ref (ad 0))]) hx hb dX6_weightedSum_53 hl (k := 2) rfl (nI_1 j) (by decide) rfl (fun ls hl => ?_)
          refine lv_goto (tgt := 13) hx hb dX6_weightedSum_56 (by decide) ?_
          exact ih13 (j + 1) (by omega) (by omega) ls (lv_cast (lv_sub (l' := [(0, .ref (ad 0)), (1, .long ((m_ws64 (r 4) (r 10) (m_wt (up r 0 0 0) n ns 7) j) + 0)), (3, .int (nI (j + 1)))]) hl [2, 1, 0] rfl) (by rw [m_ws64_f b30])) _ _ hP hD hS
        · skip
          refine lv_aload_n hx hb dX6_weightedSum_33 rfl (lv_at hl 0 rfl) ?_
          refine gf S hK hP 0 ml_0 fX6_41 (v := .ref (ad 10)) mr_10 dX6_weightedSum_34 ?_
          refine lv_iload_n hx hb dX6_weightedSum_37 rfl (lv_at hl 2 rfl) ?_
          refine ild S hK hP 10 ml_10 (j := j) (by omega) (Nat.le_of_ble_eq_true rfl) dX6_weightedSum_38 ?_
          refine lv_as (y := r 10 j) rfl ?_
          refine lv_aload_n hx hb dX6_weightedSum_39 rfl (lv_at hl 0 rfl) ?_
          refine gf S hK hP 0 ml_0 fX6_50 (v := .ref (ad 13)) mr_13 dX6_weightedSum_40 ?_
          refine lv_iload_n hx hb dX6_weightedSum_43 rfl (lv_at hl 2 rfl) ?_
          refine ild S hK hP 13 ml_13 (j := j) (by omega) (Nat.le_of_ble_eq_true rfl) dX6_weightedSum_44 ?_
          refine lv_as (y := (m_wt (up r 0 0 0) n ns 7) j) rfl ?_
          refine lv_imul hx hb dX6_weightedSum_45 ?_
          refine lv_i2l (v := ((r 10 j) * ((m_wt (up r 0 0 0) n ns 7) j)).toInt64) hx hb dX6_weightedSum_46 rfl ?_
          refine lv_goto (tgt := 51) hx hb dX6_weightedSum_47 (by decide) ?_
          refine lv_ladd hx hb dX6_weightedSum_51 ?_
          refine lv_lstore_n (lv' := [(1, .long ((m_ws64 (r 4) (r 10) (m_wt (up r 0 0 0) n ns 7) j) + (((r 10 j) * ((m_wt (up r 0 0 0) n ns 7) j)).toInt64))), (0, .ref (ad 0)), (3, .int (nI j))]) hx hb dX6_weightedSum_52 rfl hl (by decide) rfl (fun ls hl => ?_)
          refine lv_iinc (v := nI (j + 1)) (lv' := [(3, .int (nI (j + 1))), (1, .long ((m_ws64 (r 4) (r 10) (m_wt (up r 0 0 0) n ns 7) j) + (((r 10 j) * ((m_wt (up r 0 0 0) n ns 7) j)).toInt64))), (0, .ref (ad 0))]) hx hb dX6_weightedSum_53 hl (k := 2) rfl (nI_1 j) (by decide) rfl (fun ls hl => ?_)
          refine lv_goto (tgt := 13) hx hb dX6_weightedSum_56 (by decide) ?_
          exact ih13 (j + 1) (by omega) (by omega) ls (lv_cast (lv_sub (l' := [(0, .ref (ad 0)), (1, .long ((m_ws64 (r 4) (r 10) (m_wt (up r 0 0 0) n ns 7) j) + (((r 10 j) * ((m_wt (up r 0 0 0) n ns 7) j)).toInt64))), (3, .int (nI (j + 1)))]) hl [2, 1, 0] rfl) (by rw [m_ws64_t b30])) _ _ hP hD hS
  have es : (mw cA ad (m_weigh (up r 0 0 0) n ns)) = (mw cA ad (m_weigh (up r 0 0 0) n ns)) := rfl
  rw [es] at hP hD
  exact hL13 _ 0 (Nat.lt_succ_self _) (Nat.zero_le _) ls (lv_cast (lv_sub (l' := [(0, .ref (ad 0)), (1, .long 0), (3, .int 0)]) hl [2, 1, 0] rfl) (by rfl)) _ _ hP hD hS
