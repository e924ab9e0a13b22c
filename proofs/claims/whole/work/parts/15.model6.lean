set_option maxHeartbeats 4000000 in
set_option maxRecDepth 100000 in
theorem rr_mean1 (l : Launch) (dg : va_G) (cA : Nat → ClassId) (ad : Nat → Nat) (r : St) (n : Nat) (hn : r 0 3 = nI n) (hn24 : n ≤ 24) (ns : Nat) (hns : r 0 2 = nI ns) (hns4 : ns ≤ 4) (ha : ¬ m_all r n ns = 0) (hnan : vf_n64 (FP.ddiv (FP.l2d (m_wsm r n ns)) (FP.i2d (m_all r n ns)))) (sz : Nat) : MetM l dg cA yX6_weightedMean cX6_weightedMean 4 (some .double) ({ frames := 5, cells := 0, slots := 0, locals := 119 } : Room) 0 0 (mw cA ad r) sz [.ref (ad 0)] (mw cA ad (up (m_weigh (up (m_weigh (up (m_weigh (up (m_weigh (up r 0 0 0) n ns) 0 0 0) n ns) 0 0 0) n ns) 0 0 0) n ns) 0 0 0)) (some (.double (FP.ddiv (FP.l2d (m_wsm r n ns)) (FP.i2d (m_all r n ns))))) := by
  refine ofM (by decide) (Nat.le_of_ble_eq_true rfl) (own := RX6) rfl (fun p e s0 m args below meth ccd ls A hAe S hr hlk hname hargs hK hP hD hS hA hsz hl => ?_)
  have hx := S.1
  have hb := S.2.1
  have hl : lv_has ls 4 [(0, .ref (ad 0))] := hl
  refine lv_aload_n hx hb dX6_weightedMean_0 rfl (lv_at hl 0 rfl) ?_
  refine lv_iconst (v := 0) hx hb dX6_weightedMean_1 (by decide) ?_
  refine cM S (rr_wol1 l dg cA ad r n hn hn24 ns hns hns4 0 (by decide) (by decide) _) kX6_155 ⟨rfl, rfl, Nat.le_of_ble_eq_true rfl, Nat.le_of_ble_eq_true rfl⟩ hK hP hD hS hA 0 ml_0 (q := (RX6, TX6, 31)) rfl rfl (As := [.int 0]) rfl hl.1 (rest := []) rfl (Nat.le_of_ble_eq_true rfl) dX6_weightedMean_2 ⟨Nat.le_of_ble_eq_true rfl, Nat.le_of_ble_eq_true rfl⟩ (st1 := [.int (fs_sum (fs_mem (r 4) (r 3) 0) (m_wt (up r 0 0 0) n ns 7) n)]) rfl (fun H locs hP hD hS => ?_)
  refine lv_aload_n hx hb dX6_weightedMean_5 rfl (lv_at hl 0 rfl) ?_
  refine lv_iconst (v := 1) hx hb dX6_weightedMean_6 (by decide) ?_
  refine cM S (rr_wol1 l dg cA ad (m_weigh (up r 0 0 0) n ns) n hn hn24 ns hns hns4 1 (by decide) (by decide) _) kX6_155 ⟨rfl, rfl, Nat.le_of_ble_eq_true rfl, Nat.le_of_ble_eq_true rfl⟩ hK hP hD hS hA 0 ml_0 (q := (RX6, TX6, 31)) rfl rfl (As := [.int 1]) rfl hl.1 (rest := [.int (fs_sum (fs_mem (r 4) (r 3) 0) (m_wt (up r 0 0 0) n ns 7) n)]) rfl (Nat.le_of_ble_eq_true rfl) dX6_weightedMean_7 ⟨Nat.le_of_ble_eq_true rfl, Nat.le_of_ble_eq_true rfl⟩ (st1 := [.int (fs_sum (fs_mem (r 4) (r 3) 1) (m_wt (up (m_weigh (up r 0 0 0) n ns) 0 0 0) n ns 7) n), .int (fs_sum (fs_mem (r 4) (r 3) 0) (m_wt (up r 0 0 0) n ns 7) n)]) rfl (fun H locs hP hD hS => ?_)
  refine lv_iadd hx hb dX6_weightedMean_10 ?_
  refine lv_aload_n hx hb dX6_weightedMean_11 rfl (lv_at hl 0 rfl) ?_
  refine lv_iconst (v := 2) hx hb dX6_weightedMean_12 (by decide) ?_
  refine cM S (rr_wol1 l dg cA ad (m_weigh (up (m_weigh (up r 0 0 0) n ns) 0 0 0) n ns) n hn hn24 ns hns hns4 2 (by decide) (by decide) _) kX6_155 ⟨rfl, rfl, Nat.le_of_ble_eq_true rfl, Nat.le_of_ble_eq_true rfl⟩ hK hP hD hS hA 0 ml_0 (q := (RX6, TX6, 31)) rfl rfl (As := [.int 2]) rfl hl.1 (rest := [.int ((fs_sum (fs_mem (r 4) (r 3) 0) (m_wt (up r 0 0 0) n ns 7) n) + (fs_sum (fs_mem (r 4) (r 3) 1) (m_wt (up (m_weigh (up r 0 0 0) n ns) 0 0 0) n ns 7) n))]) rfl (Nat.le_of_ble_eq_true rfl) dX6_weightedMean_13 ⟨Nat.le_of_ble_eq_true rfl, Nat.le_of_ble_eq_true rfl⟩ (st1 := [.int (fs_sum (fs_mem (r 4) (r 3) 2) (m_wt (up (m_weigh (up (m_weigh (up r 0 0 0) n ns) 0 0 0) n ns) 0 0 0) n ns 7) n), .int ((fs_sum (fs_mem (r 4) (r 3) 0) (m_wt (up r 0 0 0) n ns 7) n) + (fs_sum (fs_mem (r 4) (r 3) 1) (m_wt (up (m_weigh (up r 0 0 0) n ns) 0 0 0) n ns 7) n))]) rfl (fun H locs hP hD hS => ?_)
  refine lv_iadd hx hb dX6_weightedMean_16 ?_
  refine lv_as (y := m_all r n ns) rfl ?_
  refine lv_istore_n (lv' := [(1, .int (m_all r n ns)), (0, .ref (ad 0))]) hx hb dX6_weightedMean_17 rfl hl (by decide) rfl (fun ls hl => ?_)
  refine lv_aload_n hx hb dX6_weightedMean_18 rfl (lv_at hl 1 rfl) ?_
  refine cM S (rr_wsum l dg cA ad (m_weigh (up (m_weigh (up (m_weigh (up r 0 0 0) n ns) 0 0 0) n ns) 0 0 0) n ns) n hn hn24 ns hns hns4 _) kX6_158 ⟨rfl, rfl, Nat.le_of_ble_eq_true rfl, Nat.le_of_ble_eq_true rfl⟩ hK hP hD hS hA 0 ml_0 (q := (RX6, TX6, 31)) rfl rfl (As := []) rfl hl.1 (rest := []) rfl (Nat.le_of_ble_eq_true rfl) dX6_weightedMean_19 ⟨Nat.le_of_ble_eq_true rfl, Nat.le_of_ble_eq_true rfl⟩ (st1 := [.long (m_ws64 (r 4) (r 10) (m_wt (up (m_weigh (up (m_weigh (up (m_weigh (up r 0 0 0) n ns) 0 0 0) n ns) 0 0 0) n ns) 0 0 0) n ns 7) n)]) rfl (fun H locs hP hD hS => ?_)
  refine lv_lstore_n (lv' := [(2, .long (m_ws64 (r 4) (r 10) (m_wt (up (m_weigh (up (m_weigh (up (m_weigh (up r 0 0 0) n ns) 0 0 0) n ns) 0 0 0) n ns) 0 0 0) n ns 7) n)), (1, .int (m_all r n ns)), (0, .ref (ad 0))]) hx hb dX6_weightedMean_22 rfl hl (by decide) rfl (fun ls hl => ?_)
  refine lv_aload_n hx hb dX6_weightedMean_23 rfl (lv_at hl 2 rfl) ?_
  refine lv_iload_n hx hb dX6_weightedMean_24 rfl (lv_at hl 1 rfl) ?_
  refine lv_if_ne (tgt := 32) hx hb dX6_weightedMean_25 (by decide) (fun b25 => ?_) (fun b25 => ?_)
  · skip
    refine lv_iconst (v := 0) hx hb dX6_weightedMean_32 (by decide) ?_
    refine pf S hK hP hD hS 0 ml_0 fX6_90 fpX6 rfl (v := .int 0) rfl rfl (Nat.le_of_ble_eq_true rfl) ms_0_0 dX6_weightedMean_33 (fun H locs hP hD hS => ?_)
    refine lv_iload_n hx hb dX6_weightedMean_36 rfl (lv_at hl 1 rfl) ?_
    refine lv_if_ne (tgt := 44) hx hb dX6_weightedMean_37 (by decide) (fun b37 => ?_) (fun b37 => ?_)
    · skip
      refine lv_lload_n hx hb dX6_weightedMean_44 rfl (lv_at hl 0 rfl) ?_
      refine lv_l2d hx hb dX6_weightedMean_45 ?_
      refine lv_iload_n hx hb dX6_weightedMean_46 rfl (lv_at hl 1 rfl) ?_
      refine lv_i2d hx hb dX6_weightedMean_47 ?_
      refine lv_ddiv hx hb dX6_weightedMean_48 hnan ?_
      exact eMd S hr hlk hP hD hS dX6_weightedMean_49 rfl rfl
    · skip
      exact absurd b37 b25
  · skip
    exact absurd b25 ha

set_option maxHeartbeats 4000000 in
set_option maxRecDepth 100000 in
theorem rr_mean0 (l : Launch) (dg : va_G) (cA : Nat → ClassId) (ad : Nat → Nat) (r : St) (n : Nat) (hn : r 0 3 = nI n) (hn24 : n ≤ 24) (ns : Nat) (hns : r 0 2 = nI ns) (hns4 : ns ≤ 4) (ha : m_all r n ns = 0) (sz : Nat) : MetM l dg cA yX6_weightedMean cX6_weightedMean 4 (some .double) ({ frames := 5, cells := 0, slots := 0, locals := 119 } : Room) 0 0 (mw cA ad r) sz [.ref (ad 0)] (mw cA ad (up (m_weigh (up (m_weigh (up (m_weigh (up (m_weigh (up r 0 0 0) n ns) 0 0 0) n ns) 0 0 0) n ns) 0 0 0) n ns) 0 0 1)) (some (.double FP.dconst0)) := by
  refine ofM (by decide) (Nat.le_of_ble_eq_true rfl) (own := RX6) rfl (fun p e s0 m args below meth ccd ls A hAe S hr hlk hname hargs hK hP hD hS hA hsz hl => ?_)
  have hx := S.1
  have hb := S.2.1
  have hl : lv_has ls 4 [(0, .ref (ad 0))] := hl
  refine lv_aload_n hx hb dX6_weightedMean_0 rfl (lv_at hl 0 rfl) ?_
  refine lv_iconst (v := 0) hx hb dX6_weightedMean_1 (by decide) ?_
  refine cM S (rr_wol1 l dg cA ad r n hn hn24 ns hns hns4 0 (by decide) (by decide) _) kX6_155 ⟨rfl, rfl, Nat.le_of_ble_eq_true rfl, Nat.le_of_ble_eq_true rfl⟩ hK hP hD hS hA 0 ml_0 (q := (RX6, TX6, 31)) rfl rfl (As := [.int 0]) rfl hl.1 (rest := []) rfl (Nat.le_of_ble_eq_true rfl) dX6_weightedMean_2 ⟨Nat.le_of_ble_eq_true rfl, Nat.le_of_ble_eq_true rfl⟩ (st1 := [.int (fs_sum (fs_mem (r 4) (r 3) 0) (m_wt (up r 0 0 0) n ns 7) n)]) rfl (fun H locs hP hD hS => ?_)
  refine lv_aload_n hx hb dX6_weightedMean_5 rfl (lv_at hl 0 rfl) ?_
  refine lv_iconst (v := 1) hx hb dX6_weightedMean_6 (by decide) ?_
  refine cM S (rr_wol1 l dg cA ad (m_weigh (up r 0 0 0) n ns) n hn hn24 ns hns hns4 1 (by decide) (by decide) _) kX6_155 ⟨rfl, rfl, Nat.le_of_ble_eq_true rfl, Nat.le_of_ble_eq_true rfl⟩ hK hP hD hS hA 0 ml_0 (q := (RX6, TX6, 31)) rfl rfl (As := [.int 1]) rfl hl.1 (rest := [.int (fs_sum (fs_mem (r 4) (r 3) 0) (m_wt (up r 0 0 0) n ns 7) n)]) rfl (Nat.le_of_ble_eq_true rfl) dX6_weightedMean_7 ⟨Nat.le_of_ble_eq_true rfl, Nat.le_of_ble_eq_true rfl⟩ (st1 := [.int (fs_sum (fs_mem (r 4) (r 3) 1) (m_wt (up (m_weigh (up r 0 0 0) n ns) 0 0 0) n ns 7) n), .int (fs_sum (fs_mem (r 4) (r 3) 0) (m_wt (up r 0 0 0) n ns 7) n)]) rfl (fun H locs hP hD hS => ?_)
  refine lv_iadd hx hb dX6_weightedMean_10 ?_
  refine lv_aload_n hx hb dX6_weightedMean_11 rfl (lv_at hl 0 rfl) ?_
  refine lv_iconst (v := 2) hx hb dX6_weightedMean_12 (by decide) ?_
  refine cM S (rr_wol1 l dg cA ad (m_weigh (up (m_weigh (up r 0 0 0) n ns) 0 0 0) n ns) n hn hn24 ns hns hns4 2 (by decide) (by decide) _) kX6_155 ⟨rfl, rfl, Nat.le_of_ble_eq_true rfl, Nat.le_of_ble_eq_true rfl⟩ hK hP hD hS hA 0 ml_0 (q := (RX6, TX6, 31)) rfl rfl (As := [.int 2]) rfl hl.1 (rest := [.int ((fs_sum (fs_mem (r 4) (r 3) 0) (m_wt (up r 0 0 0) n ns 7) n) + (fs_sum (fs_mem (r 4) (r 3) 1) (m_wt (up (m_weigh (up r 0 0 0) n ns) 0 0 0) n ns 7) n))]) rfl (Nat.le_of_ble_eq_true rfl) dX6_weightedMean_13 ⟨Nat.le_of_ble_eq_true rfl, Nat.le_of_ble_eq_true rfl⟩ (st1 := [.int (fs_sum (fs_mem (r 4) (r 3) 2) (m_wt (up (m_weigh (up (m_weigh (up r 0 0 0) n ns) 0 0 0) n ns) 0 0 0) n ns 7) n), .int ((fs_sum (fs_mem (r 4) (r 3) 0) (m_wt (up r 0 0 0) n ns 7) n) + (fs_sum (fs_mem (r 4) (r 3) 1) (m_wt (up (m_weigh (up r 0 0 0) n ns) 0 0 0) n ns 7) n))]) rfl (fun H locs hP hD hS => ?_)
  refine lv_iadd hx hb dX6_weightedMean_16 ?_
  refine lv_as (y := 0) ha ?_
  refine lv_istore_n (lv' := [(1, .int 0), (0, .ref (ad 0))]) hx hb dX6_weightedMean_17 rfl hl (by decide) rfl (fun ls hl => ?_)
  refine lv_aload_n hx hb dX6_weightedMean_18 rfl (lv_at hl 1 rfl) ?_
  refine cM S (rr_wsum l dg cA ad (m_weigh (up (m_weigh (up (m_weigh (up r 0 0 0) n ns) 0 0 0) n ns) 0 0 0) n ns) n hn hn24 ns hns hns4 _) kX6_158 ⟨rfl, rfl, Nat.le_of_ble_eq_true rfl, Nat.le_of_ble_eq_true rfl⟩ hK hP hD hS hA 0 ml_0 (q := (RX6, TX6, 31)) rfl rfl (As := []) rfl hl.1 (rest := []) rfl (Nat.le_of_ble_eq_true rfl) dX6_weightedMean_19 ⟨Nat.le_of_ble_eq_true rfl, Nat.le_of_ble_eq_true rfl⟩ (st1 := [.long (m_ws64 (r 4) (r 10) (m_wt (up (m_weigh (up (m_weigh (up (m_weigh (up r 0 0 0) n ns) 0 0 0) n ns) 0 0 0) n ns) 0 0 0) n ns 7) n)]) rfl (fun H locs hP hD hS => ?_)
  refine lv_lstore_n (lv' := [(2, .long (m_ws64 (r 4) (r 10) (m_wt (up (m_weigh (up (m_weigh (up (m_weigh (up r 0 0 0) n ns) 0 0 0) n ns) 0 0 0) n ns) 0 0 0) n ns 7) n)), (1, .int 0), (0, .ref (ad 0))]) hx hb dX6_weightedMean_22 rfl hl (by decide) rfl (fun ls hl => ?_)
  refine lv_aload_n hx hb dX6_weightedMean_23 rfl (lv_at hl 2 rfl) ?_
  refine lv_iload_n hx hb dX6_weightedMean_24 rfl (lv_at hl 1 rfl) ?_
  refine lv_if_ne (tgt := 32) hx hb dX6_weightedMean_25 (by decide) (fun b25 => ?_) (fun b25 => ?_)
  · skip
    exact False.elim (by revert b25; decide)
  · skip
    refine lv_iconst (v := 1) hx hb dX6_weightedMean_28 (by decide) ?_
    refine lv_goto (tgt := 33) hx hb dX6_weightedMean_29 (by decide) ?_
    refine pf S hK hP hD hS 0 ml_0 fX6_90 fpX6 rfl (v := .int 1) rfl rfl (Nat.le_of_ble_eq_true rfl) ms_0_0 dX6_weightedMean_33 (fun H locs hP hD hS => ?_)
    refine lv_iload_n hx hb dX6_weightedMean_36 rfl (lv_at hl 1 rfl) ?_
    refine lv_if_ne (tgt := 44) hx hb dX6_weightedMean_37 (by decide) (fun b37 => ?_) (fun b37 => ?_)
    · skip
      exact absurd b25 b37
    · skip
      refine lv_dconst0 hx hb dX6_weightedMean_40 ?_
      refine lv_goto (tgt := 49) hx hb dX6_weightedMean_41 (by decide) ?_
      exact eMd S hr hlk hP hD hS dX6_weightedMean_49 rfl rfl

set_option maxHeartbeats 4000000 in
set_option maxRecDepth 100000 in
theorem rr_rate1 (l : Launch) (dg : va_G) (cA : Nat → ClassId) (ad : Nat → Nat) (r : St) (n : Nat) (hn : r 0 3 = nI n) (hn24 : n ≤ 24) (ha : ¬ nI (ct (fun h => decide (¬ r 4 h = 117) && decide (¬ r 4 h = 101)) n) = 0) (hnan : vf_n32 (FP.fdiv (FP.i2f (nI (ct (fun h => decide (r 4 h = 97)) n))) (FP.i2f (nI (ct (fun h => decide (¬ r 4 h = 117) && decide (¬ r 4 h = 101)) n))))) (sz : Nat) : MetM l dg cA yX6_rate cX6_rate 4 (some .float) ({ frames := 0, cells := 0, slots := 0, locals := 0 } : Room) 0 0 (mw cA ad r) sz [.ref (ad 0)] (mw cA ad (up r 0 0 0)) (some (.float (FP.fdiv (FP.i2f (nI (ct (fun h => decide (r 4 h = 97)) n))) (FP.i2f (nI (ct (fun h => decide (¬ r 4 h = 117) && decide (¬ r 4 h = 101)) n)))))) := by
  refine ofM (by decide) (Nat.le_of_ble_eq_true rfl) (own := RX6) rfl (fun p e s0 m args below meth ccd ls A hAe S hr hlk hname hargs hK hP hD hS hA hsz hl => ?_)
  have hx := S.1
  have hb := S.2.1
  have hl : lv_has ls 4 [(0, .ref (ad 0))] := hl
  refine lv_iconst (v := 0) hx hb dX6_rate_0 (by decide) ?_
  refine lv_istore_n (lv' := [(1, .int 0), (0, .ref (ad 0))]) hx hb dX6_rate_1 rfl hl (by decide) rfl (fun ls hl => ?_)
  refine lv_iconst (v := 0) hx hb dX6_rate_2 (by decide) ?_
  refine lv_istore_n (lv' := [(2, .int 0), (1, .int 0), (0, .ref (ad 0))]) hx hb dX6_rate_3 rfl hl (by decide) rfl (fun ls hl => ?_)
  refine lv_iconst (v := 0) hx hb dX6_rate_4 (by decide) ?_
  refine lv_istore_n (lv' := [(3, .int 0), (2, .int 0), (1, .int 0), (0, .ref (ad 0))]) hx hb dX6_rate_5 rfl hl (by decide) rfl (fun ls hl => ?_)
  have hL6 : ∀ (f : Nat) (j : Nat), n - j < f → (j ≤ n) → ∀ ls, lv_has ls 4 [(0, .ref (ad 0)), (1, .int (nI (ct (fun h => decide (r 4 h = 97)) j))), (2, .int (nI (ct (fun h => decide (¬ r 4 h = 117) && decide (¬ r 4 h = 101)) j))), (3, .int (nI j))] → ∀ (H : Heap) (locs : List Loc), PP dg (mw cA ad r) H → va_D A (mw cA ad r) → va_S A s0.heap H locs → W p l e ({ frames := 0, cells := 0, slots := 0, locals := 0 } : Room) s0 m args below meth ccd H locs 0 0 (MQ below (QcM dg (mw cA ad (up r 0 0 0)) (some (.float (FP.fdiv (FP.i2f (nI (ct (fun h => decide (r 4 h = 97)) n))) (FP.i2f (nI (ct (fun h => decide (¬ r 4 h = 117) && decide (¬ r 4 h = 101)) n)))))) A) args s0 0 0 A) (F0 m 6 ls []) := by
    intro f
    induction f with
    | zero => intro j hm; exact absurd hm (Nat.not_lt_zero _)
    | succ f ih6 =>
      intro j hm6 hj ls hl H locs hP hD hS
      refine lv_iload_n hx hb dX6_rate_6 rfl (lv_at hl 3 rfl) ?_
      refine lv_aload_n hx hb dX6_rate_7 rfl (lv_at hl 0 rfl) ?_
      refine gf S hK hP 0 ml_0 fX6_93 (v := .int (nI n)) (mv_3 hn) dX6_rate_8 ?_
      refine lv_icmp_ge (tgt := 69) hx hb dX6_rate_11 (by decide) (fun b11 => ?_) (fun b11 => ?_)
      · skip
        have g11 : n ≤ j := (nI_leI (a := n) (b := j) (by omega) (by omega)).mp b11
        have ej : j = n := by omega
        rw [ej] at hl
        refine lv_aload_n hx hb dX6_rate_69 rfl (lv_at hl 0 rfl) ?_
        refine lv_iload_n hx hb dX6_rate_70 rfl (lv_at hl 2 rfl) ?_
        refine lv_if_ne (tgt := 78) hx hb dX6_rate_71 (by decide) (fun b71 => ?_) (fun b71 => ?_)
        · skip
          refine lv_iconst (v := 0) hx hb dX6_rate_78 (by decide) ?_
          refine pf S hK hP hD hS 0 ml_0 fX6_90 fpX6 rfl (v := .int 0) rfl rfl (Nat.le_of_ble_eq_true rfl) ms_0_0 dX6_rate_79 (fun H locs hP hD hS => ?_)
          refine lv_iload_n hx hb dX6_rate_82 rfl (lv_at hl 2 rfl) ?_
          refine lv_if_ne (tgt := 90) hx hb dX6_rate_83 (by decide) (fun b83 => ?_) (fun b83 => ?_)
          · skip
            refine lv_iload_n hx hb dX6_rate_90 rfl (lv_at hl 1 rfl) ?_
            refine lv_i2f hx hb dX6_rate_91 ?_
            refine lv_iload_n hx hb dX6_rate_92 rfl (lv_at hl 2 rfl) ?_
            refine lv_i2f hx hb dX6_rate_93 ?_
            refine lv_fdiv hx hb dX6_rate_94 hnan ?_
            exact eMf S hr hlk hP hD hS dX6_rate_95 rfl rfl
          · skip
            exact absurd b83 b71
        · skip
          exact absurd b71 ha
      · skip
        have g11 : ¬ n ≤ j := fun zz => b11 ((nI_leI (a := n) (b := j) (by omega) (by omega)).mpr zz)
        refine lv_iload_n hx hb dX6_rate_14 rfl (lv_at hl 1 rfl) ?_
        refine lv_aload_n hx hb dX6_rate_15 rfl (lv_at hl 0 rfl) ?_
        refine gf S hK hP 0 ml_0 fX6_23 (v := .ref (ad 4)) mr_4 dX6_rate_16 ?_
        refine lv_iload_n hx hb dX6_rate_19 rfl (lv_at hl 3 rfl) ?_
        refine ild S hK hP 4 ml_4 (j := j) (by omega) (Nat.le_of_ble_eq_true rfl) dX6_rate_20 ?_
        refine lv_as (y := r 4 j) rfl ?_
        refine lv_bipush (v := 97) hx hb dX6_rate_21 (by decide) ?_
        refine lv_icmp_ne (tgt := 30) hx hb dX6_rate_23 (by decide) (fun b23 => ?_) (fun b23 => ?_)
        · skip
          refine lv_iconst (v := 0) hx hb dX6_rate_30 (by decide) ?_
          refine lv_iadd hx hb dX6_rate_31 ?_
          refine lv_istore_n (lv' := [(1, .int ((nI (ct (fun h => decide (r 4 h = 97)) j)) + 0)), (0, .ref (ad 0)), (2, .int (nI (ct (fun h => decide (¬ r 4 h = 117) && decide (¬ r 4 h = 101)) j))), (3, .int (nI j))]) hx hb dX6_rate_32 rfl hl (by decide) rfl (fun ls hl => ?_)
          refine lv_iload_n hx hb dX6_rate_33 rfl (lv_at hl 2 rfl) ?_
          refine lv_aload_n hx hb dX6_rate_34 rfl (lv_at hl 1 rfl) ?_
          refine gf S hK hP 0 ml_0 fX6_23 (v := .ref (ad 4)) mr_4 dX6_rate_35 ?_
          refine lv_iload_n hx hb dX6_rate_38 rfl (lv_at hl 3 rfl) ?_
          refine ild S hK hP 4 ml_4 (j := j) (by omega) (Nat.le_of_ble_eq_true rfl) dX6_rate_39 ?_
          refine lv_as (y := r 4 j) rfl ?_
          refine lv_bipush (v := 117) hx hb dX6_rate_40 (by decide) ?_
          refine lv_icmp_eq (tgt := 60) hx hb dX6_rate_42 (by decide) (fun b42 => ?_) (fun b42 => ?_)
          · skip
            refine lv_iconst (v := 0) hx hb dX6_rate_60 (by decide) ?_
            refine lv_iadd hx hb dX6_rate_61 ?_
            refine lv_istore_n (lv' := [(2, .int ((nI (ct (fun h => decide (¬ r 4 h = 117) && decide (¬ r 4 h = 101)) j)) + 0)), (1, .int ((nI (ct (fun h => decide (r 4 h = 97)) j)) + 0)), (0, .ref (ad 0)), (3, .int (nI j))]) hx hb dX6_rate_62 rfl hl (by decide) rfl (fun ls hl => ?_)
            refine lv_iinc (v := nI (j + 1)) (lv' := [(3, .int (nI (j + 1))), (2, .int ((nI (ct (fun h => decide (¬ r 4 h = 117) && decide (¬ r 4 h = 101)) j)) + 0)), (1, .int ((nI (ct (fun h => decide (r 4 h = 97)) j)) + 0)), (0, .ref (ad 0))]) hx hb dX6_rate_63 hl (k := 3) rfl (nI_1 j) (by decide) rfl (fun ls hl => ?_)
            refine lv_goto (tgt := 6) hx hb dX6_rate_66 (by decide) ?_
            exact ih6 (j + 1) (by omega) (by omega) ls (lv_cast (lv_sub (l' := [(0, .ref (ad 0)), (1, .int ((nI (ct (fun h => decide (r 4 h = 97)) j)) + 0)), (2, .int ((nI (ct (fun h => decide (¬ r 4 h = 117) && decide (¬ r 4 h = 101)) j)) + 0)), (3, .int (nI (j + 1)))]) hl [3, 2, 1, 0] rfl) (by simp [ct, nI_1, b11, b23, b42])) _ _ hP hD hS
          · skip
            refine lv_aload_n hx hb dX6_rate_45 rfl (lv_at hl 1 rfl) ?_
            refine gf S hK hP 0 ml_0 fX6_23 (v := .ref (ad 4)) mr_4 dX6_rate_46 ?_
            refine lv_iload_n hx hb dX6_rate_49 rfl (lv_at hl 3 rfl) ?_
            refine ild S hK hP 4 ml_4 (j := j) (by omega) (Nat.le_of_ble_eq_true rfl) dX6_rate_50 ?_
            refine lv_as (y := r 4 j) rfl ?_
            refine lv_bipush (v := 101) hx hb dX6_rate_51 (by decide) ?_
            refine lv_icmp_eq (tgt := 60) hx hb dX6_rate_53 (by decide) (fun b53 => ?_) (fun b53 => ?_)
            · skip
              refine lv_iconst (v := 0) hx hb dX6_rate_60 (by decide) ?_
              refine lv_iadd hx hb dX6_rate_61 ?_
              refine lv_istore_n (lv' := [(2, .int ((nI (ct (fun h => decide (¬ r 4 h = 117) && decide (¬ r 4 h = 101)) j)) + 0)), (1, .int ((nI (ct (fun h => decide (r 4 h = 97)) j)) + 0)), (0, .ref (ad 0)), (3, .int (nI j))]) hx hb dX6_rate_62 rfl hl (by decide) rfl (fun ls hl => ?_)
              refine lv_iinc (v := nI (j + 1)) (lv' := [(3, .int (nI (j + 1))), (2, .int ((nI (ct (fun h => decide (¬ r 4 h = 117) && decide (¬ r 4 h = 101)) j)) + 0)), (1, .int ((nI (ct (fun h => decide (r 4 h = 97)) j)) + 0)), (0, .ref (ad 0))]) hx hb dX6_rate_63 hl (k := 3) rfl (nI_1 j) (by decide) rfl (fun ls hl => ?_)
              refine lv_goto (tgt := 6) hx hb dX6_rate_66 (by decide) ?_
              exact ih6 (j + 1) (by omega) (by omega) ls (lv_cast (lv_sub (l' := [(0, .ref (ad 0)), (1, .int ((nI (ct (fun h => decide (r 4 h = 97)) j)) + 0)), (2, .int ((nI (ct (fun h => decide (¬ r 4 h = 117) && decide (¬ r 4 h = 101)) j)) + 0)), (3, .int (nI (j + 1)))]) hl [3, 2, 1, 0] rfl) (by simp [ct, nI_1, b11, b23, b42, b53])) _ _ hP hD hS
            · skip
              refine lv_iconst (v := 1) hx hb dX6_rate_56 (by decide) ?_
              refine lv_goto (tgt := 61) hx hb dX6_rate_57 (by decide) ?_
              refine lv_iadd hx hb dX6_rate_61 ?_
              refine lv_as (y := nI (ct (fun h => decide (¬ r 4 h = 117) && decide (¬ r 4 h = 101)) j + 1)) (nI_1 (ct (fun h => decide (¬ r 4 h = 117) && decide (¬ r 4 h = 101)) j)) ?_
              refine lv_istore_n (lv' := [(2, .int (nI (ct (fun h => decide (¬ r 4 h = 117) && decide (¬ r 4 h = 101)) j + 1))), (1, .int ((nI (ct (fun h => decide (r 4 h = 97)) j)) + 0)), (0, .ref (ad 0)), (3, .int (nI j))]) hx hb dX6_rate_62 rfl hl (by decide) rfl (fun ls hl => ?_)
              refine lv_iinc (v := nI (j + 1)) (lv' := [(3, .int (nI (j + 1))), (2, .int (nI (ct (fun h => decide (¬ r 4 h = 117) && decide (¬ r 4 h = 101)) j + 1))), (1, .int ((nI (ct (fun h => decide (r 4 h = 97)) j)) + 0)), (0, .ref (ad 0))]) hx hb dX6_rate_63 hl (k := 3) rfl (nI_1 j) (by decide) rfl (fun ls hl => ?_)
              refine lv_goto (tgt := 6) hx hb dX6_rate_66 (by decide) ?_
              exact ih6 (j + 1) (by omega) (by omega) ls (lv_cast (lv_sub (l' := [(0, .ref (ad 0)), (1, .int ((nI (ct (fun h => decide (r 4 h = 97)) j)) + 0)), (2, .int (nI (ct (fun h => decide (¬ r 4 h = 117) && decide (¬ r 4 h = 101)) j + 1))), (3, .int (nI (j + 1)))]) hl [3, 2, 1, 0] rfl) (by simp [ct, nI_1, b11, b23, b42, b53])) _ _ hP hD hS
        · skip
          refine lv_iconst (v := 1) hx hb dX6_rate_26 (by decide) ?_
          refine lv_goto (tgt := 31) hx hb dX6_rate_27 (by decide) ?_
          refine lv_iadd hx hb dX6_rate_31 ?_
          refine lv_as (y := nI (ct (fun h => decide (r 4 h = 97)) j + 1)) (nI_1 (ct (fun h => decide (r 4 h = 97)) j)) ?_
          refine lv_istore_n (lv' := [(1, .int (nI (ct (fun h => decide (r 4 h = 97)) j + 1))), (0, .ref (ad 0)), (2, .int (nI (ct (fun h => decide (¬ r 4 h = 117) && decide (¬ r 4 h = 101)) j))), (3, .int (nI j))]) hx hb dX6_rate_32 rfl hl (by decide) rfl (fun ls hl => ?_)
          refine lv_iload_n hx hb dX6_rate_33 rfl (lv_at hl 2 rfl) ?_
          refine lv_aload_n hx hb dX6_rate_34 rfl (lv_at hl 1 rfl) ?_
          refine gf S hK hP 0 ml_0 fX6_23 (v := .ref (ad 4)) mr_4 dX6_rate_35 ?_
          refine lv_iload_n hx hb dX6_rate_38 rfl (lv_at hl 3 rfl) ?_
          refine ild S hK hP 4 ml_4 (j := j) (by omega) (Nat.le_of_ble_eq_true rfl) dX6_rate_39 ?_
          refine lv_as (y := r 4 j) rfl ?_
          refine lv_bipush (v := 117) hx hb dX6_rate_40 (by decide) ?_
          refine lv_icmp_eq (tgt := 60) hx hb dX6_rate_42 (by decide) (fun b42 => ?_) (fun b42 => ?_)
          · skip
            exact absurd (b23.symm.trans b42) (by decide)
          · skip
            refine lv_aload_n hx hb dX6_rate_45 rfl (lv_at hl 1 rfl) ?_
            refine gf S hK hP 0 ml_0 fX6_23 (v := .ref (ad 4)) mr_4 dX6_rate_46 ?_
            refine lv_iload_n hx hb dX6_rate_49 rfl (lv_at hl 3 rfl) ?_
            refine ild S hK hP 4 ml_4 (j := j) (by omega) (Nat.le_of_ble_eq_true rfl) dX6_rate_50 ?_
            refine lv_as (y := r 4 j) rfl ?_
            refine lv_bipush (v := 101) hx hb dX6_rate_51 (by decide) ?_
            refine lv_icmp_eq (tgt := 60) hx hb dX6_rate_53 (by decide) (fun b53 => ?_) (fun b53 => ?_)
            · skip
              exact absurd (b23.symm.trans b53) (by decide)
            · skip
              refine lv_iconst (v := 1) hx hb dX6_rate_56 (by decide) ?_
              refine lv_goto (tgt := 61) hx hb dX6_rate_57 (by decide) ?_
              refine lv_iadd hx hb dX6_rate_61 ?_
              refine lv_as (y := nI (ct (fun h => decide (¬ r 4 h = 117) && decide (¬ r 4 h = 101)) j + 1)) (nI_1 (ct (fun h => decide (¬ r 4 h = 117) && decide (¬ r 4 h = 101)) j)) ?_
              refine lv_istore_n (lv' := [(2, .int (nI (ct (fun h => decide (¬ r 4 h = 117) && decide (¬ r 4 h = 101)) j + 1))), (1, .int (nI (ct (fun h => decide (r 4 h = 97)) j + 1))), (0, .ref (ad 0)), (3, .int (nI j))]) hx hb dX6_rate_62 rfl hl (by decide) rfl (fun ls hl => ?_)
              refine lv_iinc (v := nI (j + 1)) (lv' := [(3, .int (nI (j + 1))), (2, .int (nI (ct (fun h => decide (¬ r 4 h = 117) && decide (¬ r 4 h = 101)) j + 1))), (1, .int (nI (ct (fun h => decide (r 4 h = 97)) j + 1))), (0, .ref (ad 0))]) hx hb dX6_rate_63 hl (k := 3) rfl (nI_1 j) (by decide) rfl (fun ls hl => ?_)
              refine lv_goto (tgt := 6) hx hb dX6_rate_66 (by decide) ?_
              exact ih6 (j + 1) (by omega) (by omega) ls (lv_cast (lv_sub (l' := [(0, .ref (ad 0)), (1, .int (nI (ct (fun h => decide (r 4 h = 97)) j + 1))), (2, .int (nI (ct (fun h => decide (¬ r 4 h = 117) && decide (¬ r 4 h = 101)) j + 1))), (3, .int (nI (j + 1)))]) hl [3, 2, 1, 0] rfl) (by simp [ct, nI_1, b11, b23, b42, b53])) _ _ hP hD hS
  exact hL6 _ 0 (Nat.lt_succ_self _) (Nat.zero_le _) ls (lv_cast (lv_sub (l' := [(0, .ref (ad 0)), (1, .int 0), (2, .int 0), (3, .int 0)]) hl [3, 2, 1, 0] rfl) (by rfl)) _ _ hP hD hS

set_option maxHeartbeats 4000000 in
set_option maxRecDepth 100000 in
theorem rr_rate0 (l : Launch) (dg : va_G) (cA : Nat → ClassId) (ad : Nat → Nat) (r : St) (n : Nat) (hn : r 0 3 = nI n) (hn24 : n ≤ 24) (ha : nI (ct (fun h => decide (¬ r 4 h = 117) && decide (¬ r 4 h = 101)) n) = 0) (sz : Nat) : MetM l dg cA yX6_rate cX6_rate 4 (some .float) ({ frames := 0, cells := 0, slots := 0, locals := 0 } : Room) 0 0 (mw cA ad r) sz [.ref (ad 0)] (mw cA ad (up r 0 0 1)) (some (.float FP.fconst0)) := by
  refine ofM (by decide) (Nat.le_of_ble_eq_true rfl) (own := RX6) rfl (fun p e s0 m args below meth ccd ls A hAe S hr hlk hname hargs hK hP hD hS hA hsz hl => ?_)
  have hx := S.1
  have hb := S.2.1
  have hl : lv_has ls 4 [(0, .ref (ad 0))] := hl
  refine lv_iconst (v := 0) hx hb dX6_rate_0 (by decide) ?_
  refine lv_istore_n (lv' := [(1, .int 0), (0, .ref (ad 0))]) hx hb dX6_rate_1 rfl hl (by decide) rfl (fun ls hl => ?_)
  refine lv_iconst (v := 0) hx hb dX6_rate_2 (by decide) ?_
  refine lv_istore_n (lv' := [(2, .int 0), (1, .int 0), (0, .ref (ad 0))]) hx hb dX6_rate_3 rfl hl (by decide) rfl (fun ls hl => ?_)
  refine lv_iconst (v := 0) hx hb dX6_rate_4 (by decide) ?_
  refine lv_istore_n (lv' := [(3, .int 0), (2, .int 0), (1, .int 0), (0, .ref (ad 0))]) hx hb dX6_rate_5 rfl hl (by decide) rfl (fun ls hl => ?_)
  have hL6 : ∀ (f : Nat) (j : Nat), n - j < f → (j ≤ n) → ∀ ls, lv_has ls 4 [(0, .ref (ad 0)), (1, .int (nI (ct (fun h => decide (r 4 h = 97)) j))), (2, .int (nI (ct (fun h => decide (¬ r 4 h = 117) && decide (¬ r 4 h = 101)) j))), (3, .int (nI j))] → ∀ (H : Heap) (locs : List Loc), PP dg (mw cA ad r) H → va_D A (mw cA ad r) → va_S A s0.heap H locs → W p l e ({ frames := 0, cells := 0, slots := 0, locals := 0 } : Room) s0 m args below meth ccd H locs 0 0 (MQ below (QcM dg (mw cA ad (up r 0 0 1)) (some (.float FP.fconst0)) A) args s0 0 0 A) (F0 m 6 ls []) := by
    intro f
    induction f with
    | zero => intro j hm; exact absurd hm (Nat.not_lt_zero _)
    | succ f ih6 =>
      intro j hm6 hj ls hl H locs hP hD hS
      refine lv_iload_n hx hb dX6_rate_6 rfl (lv_at hl 3 rfl) ?_
      refine lv_aload_n hx hb dX6_rate_7 rfl (lv_at hl 0 rfl) ?_
      refine gf S hK hP 0 ml_0 fX6_93 (v := .int (nI n)) (mv_3 hn) dX6_rate_8 ?_
      refine lv_icmp_ge (tgt := 69) hx hb dX6_rate_11 (by decide) (fun b11 => ?_) (fun b11 => ?_)
      · skip
        have g11 : n ≤ j := (nI_leI (a := n) (b := j) (by omega) (by omega)).mp b11
        have ej : j = n := by omega
        rw [ej] at hl
        refine lv_aload_n hx hb dX6_rate_69 rfl (lv_at hl 0 rfl) ?_
        refine lv_iload_n hx hb dX6_rate_70 rfl (lv_at hl 2 rfl) ?_
        refine lv_if_ne (tgt := 78) hx hb dX6_rate_71 (by decide) (fun b71 => ?_) (fun b71 => ?_)
        · skip
          exact absurd ha b71
        · skip
          refine lv_iconst (v := 1) hx hb dX6_rate_74 (by decide) ?_
          refine lv_goto (tgt := 79) hx hb dX6_rate_75 (by decide) ?_
          refine pf S hK hP hD hS 0 ml_0 fX6_90 fpX6 rfl (v := .int 1) rfl rfl (Nat.le_of_ble_eq_true rfl) ms_0_0 dX6_rate_79 (fun H locs hP hD hS => ?_)
          refine lv_iload_n hx hb dX6_rate_82 rfl (lv_at hl 2 rfl) ?_
          refine lv_if_ne (tgt := 90) hx hb dX6_rate_83 (by decide) (fun b83 => ?_) (fun b83 => ?_)
          · skip
            exact absurd b71 b83
          · skip
            refine lv_fconst0 hx hb dX6_rate_86 ?_
            refine lv_goto (tgt := 95) hx hb dX6_rate_87 (by decide) ?_
            exact eMf S hr hlk hP hD hS dX6_rate_95 rfl rfl
      · skip
        have g11 : ¬ n ≤ j := fun zz => b11 ((nI_leI (a := n) (b := j) (by omega) (by omega)).mpr zz)
        refine lv_iload_n hx hb dX6_rate_14 rfl (lv_at hl 1 rfl) ?_
        refine lv_aload_n hx hb dX6_rate_15 rfl (lv_at hl 0 rfl) ?_
        refine gf S hK hP 0 ml_0 fX6_23 (v := .ref (ad 4)) mr_4 dX6_rate_16 ?_
        refine lv_iload_n hx hb dX6_rate_19 rfl (lv_at hl 3 rfl) ?_
        refine ild S hK hP 4 ml_4 (j := j) (by omega) (Nat.le_of_ble_eq_true rfl) dX6_rate_20 ?_
        refine lv_as (y := r 4 j) rfl ?_
        refine lv_bipush (v := 97) hx hb dX6_rate_21 (by decide) ?_
        refine lv_icmp_ne (tgt := 30) hx hb dX6_rate_23 (by decide) (fun b23 => ?_) (fun b23 => ?_)
        · skip
          refine lv_iconst (v := 0) hx hb dX6_rate_30 (by decide) ?_
          refine lv_iadd hx hb dX6_rate_31 ?_
          refine lv_istore_n (lv' := [(1, .int ((nI (ct (fun h => decide (r 4 h = 97)) j)) + 0)), (0, .ref (ad 0)), (2, .int (nI (ct (fun h => decide (¬ r 4 h = 117) && decide (¬ r 4 h = 101)) j))), (3, .int (nI j))]) hx hb dX6_rate_32 rfl hl (by decide) rfl (fun ls hl => ?_)
          refine lv_iload_n hx hb dX6_rate_33 rfl (lv_at hl 2 rfl) ?_
          refine lv_aload_n hx hb dX6_rate_34 rfl (lv_at hl 1 rfl) ?_
          refine gf S hK hP 0 ml_0 fX6_23 (v := .ref (ad 4)) mr_4 dX6_rate_35 ?_
          refine lv_iload_n hx hb dX6_rate_38 rfl (lv_at hl 3 rfl) ?_
          refine ild S hK hP 4 ml_4 (j := j) (by omega) (Nat.le_of_ble_eq_true rfl) dX6_rate_39 ?_
          refine lv_as (y := r 4 j) rfl ?_
          refine lv_bipush (v := 117) hx hb dX6_rate_40 (by decide) ?_
          refine lv_icmp_eq (tgt := 60) hx hb dX6_rate_42 (by decide) (fun b42 => ?_) (fun b42 => ?_)
          · skip
            refine lv_iconst (v := 0) hx hb dX6_rate_60 (by decide) ?_
            refine lv_iadd hx hb dX6_rate_61 ?_
            refine lv_istore_n (lv' := [(2, .int ((nI (ct (fun h => decide (¬ r 4 h = 117) && decide (¬ r 4 h = 101)) j)) + 0)), (1, .int ((nI (ct (fun h => decide (r 4 h = 97)) j)) + 0)), (0, .ref (ad 0)), (3, .int (nI j))]) hx hb dX6_rate_62 rfl hl (by decide) rfl (fun ls hl => ?_)
            refine lv_iinc (v := nI (j + 1)) (lv' := [(3, .int (nI (j + 1))), (2, .int ((nI (ct (fun h => decide (¬ r 4 h = 117) && decide (¬ r 4 h = 101)) j)) + 0)), (1, .int ((nI (ct (fun h => decide (r 4 h = 97)) j)) + 0)), (0, .ref (ad 0))]) hx hb dX6_rate_63 hl (k := 3) rfl (nI_1 j) (by decide) rfl (fun ls hl => ?_)
            refine lv_goto (tgt := 6) hx hb dX6_rate_66 (by decide) ?_
            exact ih6 (j + 1) (by omega) (by omega) ls (lv_cast (lv_sub (l' := [(0, .ref (ad 0)), (1, .int ((nI (ct (fun h => decide (r 4 h = 97)) j)) + 0)), (2, .int ((nI (ct (fun h => decide (¬ r 4 h = 117) && decide (¬ r 4 h = 101)) j)) + 0)), (3, .int (nI (j + 1)))]) hl [3, 2, 1, 0] rfl) (by simp [ct, nI_1, b11, b23, b42])) _ _ hP hD hS
          · skip
            refine lv_aload_n hx hb dX6_rate_45 rfl (lv_at hl 1 rfl) ?_
            refine gf S hK hP 0 ml_0 fX6_23 (v := .ref (ad 4)) mr_4 dX6_rate_46 ?_
            refine lv_iload_n hx hb dX6_rate_49 rfl (lv_at hl 3 rfl) ?_
            refine ild S hK hP 4 ml_4 (j := j) (by omega) (Nat.le_of_ble_eq_true rfl) dX6_rate_50 ?_
            refine lv_as (y := r 4 j) rfl ?_
            refine lv_bipush (v := 101) hx hb dX6_rate_51 (by decide) ?_
            refine lv_icmp_eq (tgt := 60) hx hb dX6_rate_53 (by decide) (fun b53 => ?_) (fun b53 => ?_)
            · skip
              refine lv_iconst (v := 0) hx hb dX6_rate_60 (by decide) ?_
              refine lv_iadd hx hb dX6_rate_61 ?_
              refine lv_istore_n (lv' := [(2, .int ((nI (ct (fun h => decide (¬ r 4 h = 117) && decide (¬ r 4 h = 101)) j)) + 0)), (1, .int ((nI (ct (fun h => decide (r 4 h = 97)) j)) + 0)), (0, .ref (ad 0)), (3, .int (nI j))]) hx hb dX6_rate_62 rfl hl (by decide) rfl (fun ls hl => ?_)
              refine lv_iinc (v := nI (j + 1)) (lv' := [(3, .int (nI (j + 1))), (2, .int ((nI (ct (fun h => decide (¬ r 4 h = 117) && decide (¬ r 4 h = 101)) j)) + 0)), (1, .int ((nI (ct (fun h => decide (r 4 h = 97)) j)) + 0)), (0, .ref (ad 0))]) hx hb dX6_rate_63 hl (k := 3) rfl (nI_1 j) (by decide) rfl (fun ls hl => ?_)
              refine lv_goto (tgt := 6) hx hb dX6_rate_66 (by decide) ?_
              exact ih6 (j + 1) (by omega) (by omega) ls (lv_cast (lv_sub (l' := [(0, .ref (ad 0)), (1, .int ((nI (ct (fun h => decide (r 4 h = 97)) j)) + 0)), (2, .int ((nI (ct (fun h => decide (¬ r 4 h = 117) && decide (¬ r 4 h = 101)) j)) + 0)), (3, .int (nI (j + 1)))]) hl [3, 2, 1, 0] rfl) (by simp [ct, nI_1, b11, b23, b42, b53])) _ _ hP hD hS
            · skip
              refine lv_iconst (v := 1) hx hb dX6_rate_56 (by decide) ?_
              refine lv_goto (tgt := 61) hx hb dX6_rate_57 (by decide) ?_
              refine lv_iadd hx hb dX6_rate_61 ?_
              refine lv_as (y := nI (ct (fun h => decide (¬ r 4 h = 117) && decide (¬ r 4 h = 101)) j + 1)) (nI_1 (ct (fun h => decide (¬ r 4 h = 117) && decide (¬ r 4 h = 101)) j)) ?_
              refine lv_istore_n (lv' := [(2, .int (nI (ct (fun h => decide (¬ r 4 h = 117) && decide (¬ r 4 h = 101)) j + 1))), (1, .int ((nI (ct (fun h => decide (r 4 h = 97)) j)) + 0)), (0, .ref (ad 0)), (3, .int (nI j))]) hx hb dX6_rate_62 rfl hl (by decide) rfl (fun ls hl => ?_)
              refine lv_iinc (v := nI (j + 1)) (lv' := [(3, .int (nI (j + 1))), (2, .int (nI (ct (fun h => decide (¬ r 4 h = 117) && decide (¬ r 4 h = 101)) j + 1))), (1, .int ((nI (ct (fun h => decide (r 4 h = 97)) j)) + 0)), (0, .ref (ad 0))]) hx hb dX6_rate_63 hl (k := 3) rfl (nI_1 j) (by decide) rfl (fun ls hl => ?_)
              refine lv_goto (tgt := 6) hx hb dX6_rate_66 (by decide) ?_
              exact ih6 (j + 1) (by omega) (by omega) ls (lv_cast (lv_sub (l' := [(0, .ref (ad 0)), (1, .int ((nI (ct (fun h => decide (r 4 h = 97)) j)) + 0)), (2, .int (nI (ct (fun h => decide (¬ r 4 h = 117) && decide (¬ r 4 h = 101)) j + 1))), (3, .int (nI (j + 1)))]) hl [3, 2, 1, 0] rfl) (by simp [ct, nI_1, b11, b23, b42, b53])) _ _ hP hD hS
        · skip
          refine lv_iconst (v := 1) hx hb dX6_rate_26 (by decide) ?_
          refine lv_goto (tgt := 31) hx hb dX6_rate_27 (by decide) ?_
          refine lv_iadd hx hb dX6_rate_31 ?_
          refine lv_as (y := nI (ct (fun h => decide (r 4 h = 97)) j + 1)) (nI_1 (ct (fun h => decide (r 4 h = 97)) j)) ?_
          refine lv_istore_n (lv' := [(1, .int (nI (ct (fun h => decide (r 4 h = 97)) j + 1))), (0, .ref (ad 0)), (2, .int (nI (ct (fun h => decide (¬ r 4 h = 117) && decide (¬ r 4 h = 101)) j))), (3, .int (nI j))]) hx hb dX6_rate_32 rfl hl (by decide) rfl (fun ls hl => ?_)
          refine lv_iload_n hx hb dX6_rate_33 rfl (lv_at hl 2 rfl) ?_
          refine lv_aload_n hx hb dX6_rate_34 rfl (lv_at hl 1 rfl) ?_
          refine gf S hK hP 0 ml_0 fX6_23 (v := .ref (ad 4)) mr_4 dX6_rate_35 ?_
          refine lv_iload_n hx hb dX6_rate_38 rfl (lv_at hl 3 rfl) ?_
          refine ild S hK hP 4 ml_4 (j := j) (by omega) (Nat.le_of_ble_eq_true rfl) dX6_rate_39 ?_
          refine lv_as (y := r 4 j) rfl ?_
          refine lv_bipush (v := 117) hx hb dX6_rate_40 (by decide) ?_
          refine lv_icmp_eq (tgt := 60) hx hb dX6_rate_42 (by decide) (fun b42 => ?_) (fun b42 => ?_)
          · skip
            exact absurd (b23.symm.trans b42) (by decide)
          · skip
            refine lv_aload_n hx hb dX6_rate_45 rfl (lv_at hl 1 rfl) ?_
            refine gf S hK hP 0 ml_0 fX6_23 (v := .ref (ad 4)) mr_4 dX6_rate_46 ?_
            refine lv_iload_n hx hb dX6_rate_49 rfl (lv_at hl 3 rfl) ?_
            refine ild S hK hP 4 ml_4 (j := j) (by omega) (Nat.le_of_ble_eq_true rfl) dX6_rate_50 ?_
            refine lv_as (y := r 4 j) rfl ?_
            refine lv_bipush (v := 101) hx hb dX6_rate_51 (by decide) ?_
            refine lv_icmp_eq (tgt := 60) hx hb dX6_rate_53 (by decide) (fun b53 => ?_) (fun b53 => ?_)
            · skip
              exact absurd (b23.symm.trans b53) (by decide)
            · skip
              refine lv_iconst (v := 1) hx hb dX6_rate_56 (by decide) ?_
              refine lv_goto (tgt := 61) hx hb dX6_rate_57 (by decide) ?_
              refine lv_iadd hx hb dX6_rate_61 ?_
              refine lv_as (y := nI (ct (fun h => decide (¬ r 4 h = 117) && decide (¬ r 4 h = 101)) j + 1)) (nI_1 (ct (fun h => decide (¬ r 4 h = 117) && decide (¬ r 4 h = 101)) j)) ?_
              refine lv_istore_n (lv' := [(2, .int (nI (ct (fun h => decide (¬ r 4 h = 117) && decide (¬ r 4 h = 101)) j + 1))), (1, .int (nI (ct (fun h => decide (r 4 h = 97)) j + 1))), (0, .ref (ad 0)), (3, .int (nI j))]) hx hb dX6_rate_62 rfl hl (by decide) rfl (fun ls hl => ?_)
              refine lv_iinc (v := nI (j + 1)) (lv' := [(3, .int (nI (j + 1))), (2, .int (nI (ct (fun h => decide (¬ r 4 h = 117) && decide (¬ r 4 h = 101)) j + 1))), (1, .int (nI (ct (fun h => decide (r 4 h = 97)) j + 1))), (0, .ref (ad 0))]) hx hb dX6_rate_63 hl (k := 3) rfl (nI_1 j) (by decide) rfl (fun ls hl => ?_)
              refine lv_goto (tgt := 6) hx hb dX6_rate_66 (by decide) ?_
              exact ih6 (j + 1) (by omega) (by omega) ls (lv_cast (lv_sub (l' := [(0, .ref (ad 0)), (1, .int (nI (ct (fun h => decide (r 4 h = 97)) j + 1))), (2, .int (nI (ct (fun h => decide (¬ r 4 h = 117) && decide (¬ r 4 h = 101)) j + 1))), (3, .int (nI (j + 1)))]) hl [3, 2, 1, 0] rfl) (by simp [ct, nI_1, b11, b23, b42, b53])) _ _ hP hD hS
  exact hL6 _ 0 (Nat.lt_succ_self _) (Nat.zero_le _) ls (lv_cast (lv_sub (l' := [(0, .ref (ad 0)), (1, .int 0), (2, .int 0), (3, .int 0)]) hl [3, 2, 1, 0] rfl) (by rfl)) _ _ hP hD hS
