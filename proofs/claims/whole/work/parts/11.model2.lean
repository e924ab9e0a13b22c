set_option maxHeartbeats 4000000 in
set_option maxRecDepth 100000 in
theorem rr_draw1 (l : Launch) (dg : va_G) (cA : Nat → ClassId) (ad : Nat → Nat) (r : St) (ns : Nat) (hns : r 0 2 = nI ns) (hns4 : ns ≤ 4) (s : Int32) (hv : s < 0 ∨ nI ns ≤ s) (k : Int32) (sz : Nat) : MetM l dg cA yX6_draw cX6_draw 5 (some .int) ({ frames := 1, cells := 0, slots := 0, locals := 22 } : Room) 0 0 (mw cA ad r) sz [.ref (ad 0), .int s, .int k] (mw cA ad (up r 0 0 1)) (some (.int 0)) := by
  refine ofM (by decide) (Nat.le_of_ble_eq_true rfl) (own := RX6) rfl (fun p e s0 m args below meth ccd ls A hAe S hr hlk hname hargs hK hP hD hS hA hsz hl => ?_)
  have hx := S.1
  have hb := S.2.1
  have hl : lv_has ls 5 [(0, .ref (ad 0)), (1, .int s), (2, .int k)] := hl
  refine lv_iload_n hx hb dX6_draw_0 rfl (lv_at hl 1 rfl) ?_
  refine lv_iconst (v := 0) hx hb dX6_draw_1 (by decide) ?_
  refine lv_aload_n hx hb dX6_draw_2 rfl (lv_at hl 0 rfl) ?_
  refine gf S hK hP 0 ml_0 fX6_108 (v := .int (nI ns)) (mv_2 hns) dX6_draw_3 ?_
  refine lv_iconst (v := 1) hx hb dX6_draw_6 (by decide) ?_
  refine lv_isub hx hb dX6_draw_7 ?_
  refine cRS S (rr_in0 l dg cA (mw cA ad r) s 0 ((nI ns) - 1) (idx_bad hv (by omega))) kX6_96 ⟨rfl, rfl, Nat.le_of_ble_eq_true rfl, Nat.le_of_ble_eq_true rfl⟩ hK hP (As := [.int s, .int 0, .int ((nI ns) - 1)]) rfl hl.1 (rest := []) rfl (Nat.le_of_ble_eq_true rfl) dX6_draw_8 ⟨Nat.le_of_ble_eq_true rfl, Nat.le_of_ble_eq_true rfl⟩ (st1 := [.int 0]) rfl ?_
  refine lv_if_ne (tgt := 20) hx hb dX6_draw_11 (by decide) (fun b11 => ?_) (fun b11 => ?_)
  · skip
    exact False.elim (by revert b11; decide)
  · skip
    refine lv_aload_n hx hb dX6_draw_14 rfl (lv_at hl 0 rfl) ?_
    refine lv_iconst (v := 1) hx hb dX6_draw_15 (by decide) ?_
    refine cM S (rr_fails l dg cA ad r 1 _) kX6_104 ⟨rfl, rfl, Nat.le_of_ble_eq_true rfl, Nat.le_of_ble_eq_true rfl⟩ hK hP hD hS hA 0 ml_0 (q := (RX6, TX6, 31)) rfl rfl (As := [.int 1]) rfl hl.1 (rest := []) rfl (Nat.le_of_ble_eq_true rfl) dX6_draw_16 ⟨Nat.le_of_ble_eq_true rfl, Nat.le_of_ble_eq_true rfl⟩ (st1 := [.int 0]) rfl (fun H locs hP hD hS => ?_)
    exact eMi S hr hlk hP hD hS dX6_draw_19 rfl rfl

set_option maxHeartbeats 4000000 in
set_option maxRecDepth 100000 in
theorem rr_draw2 (l : Launch) (dg : va_G) (cA : Nat → ClassId) (ad : Nat → Nat) (r : St) (ns : Nat) (hns : r 0 2 = nI ns) (hns4 : ns ≤ 4) (js : Nat) (hjs : js < ns) (k : Int32) (hk : ¬ (¬ k < 1 ∧ ¬ 24 < k)) (sz : Nat) : MetM l dg cA yX6_draw cX6_draw 5 (some .int) ({ frames := 1, cells := 0, slots := 0, locals := 22 } : Room) 0 0 (mw cA ad r) sz [.ref (ad 0), .int (nI js), .int k] (mw cA ad (up r 0 0 2)) (some (.int 0)) := by
  refine ofM (by decide) (Nat.le_of_ble_eq_true rfl) (own := RX6) rfl (fun p e s0 m args below meth ccd ls A hAe S hr hlk hname hargs hK hP hD hS hA hsz hl => ?_)
  have hx := S.1
  have hb := S.2.1
  have hl : lv_has ls 5 [(0, .ref (ad 0)), (1, .int (nI js)), (2, .int k)] := hl
  refine lv_iload_n hx hb dX6_draw_0 rfl (lv_at hl 1 rfl) ?_
  refine lv_iconst (v := 0) hx hb dX6_draw_1 (by decide) ?_
  refine lv_aload_n hx hb dX6_draw_2 rfl (lv_at hl 0 rfl) ?_
  refine gf S hK hP 0 ml_0 fX6_108 (v := .int (nI ns)) (mv_2 hns) dX6_draw_3 ?_
  refine lv_iconst (v := 1) hx hb dX6_draw_6 (by decide) ?_
  refine lv_isub hx hb dX6_draw_7 ?_
  refine cRS S (rr_in1 l dg cA (mw cA ad r) (nI js) 0 ((nI ns) - 1) (nI_pos (by omega)) (idx_hi hjs (by omega))) kX6_96 ⟨rfl, rfl, Nat.le_of_ble_eq_true rfl, Nat.le_of_ble_eq_true rfl⟩ hK hP (As := [.int (nI js), .int 0, .int ((nI ns) - 1)]) rfl hl.1 (rest := []) rfl (Nat.le_of_ble_eq_true rfl) dX6_draw_8 ⟨Nat.le_of_ble_eq_true rfl, Nat.le_of_ble_eq_true rfl⟩ (st1 := [.int 1]) rfl ?_
  refine lv_if_ne (tgt := 20) hx hb dX6_draw_11 (by decide) (fun b11 => ?_) (fun b11 => ?_)
  · skip
    refine lv_iload_n hx hb dX6_draw_20 rfl (lv_at hl 2 rfl) ?_
    refine lv_iconst (v := 1) hx hb dX6_draw_21 (by decide) ?_
    refine lv_bipush (v := 24) hx hb dX6_draw_22 (by decide) ?_
    refine cRS S (rr_in0 l dg cA (mw cA ad r) k 1 24 hk) kX6_96 ⟨rfl, rfl, Nat.le_of_ble_eq_true rfl, Nat.le_of_ble_eq_true rfl⟩ hK hP (As := [.int k, .int 1, .int 24]) rfl hl.1 (rest := []) rfl (Nat.le_of_ble_eq_true rfl) dX6_draw_24 ⟨Nat.le_of_ble_eq_true rfl, Nat.le_of_ble_eq_true rfl⟩ (st1 := [.int 0]) rfl ?_
    refine lv_if_ne (tgt := 36) hx hb dX6_draw_27 (by decide) (fun b27 => ?_) (fun b27 => ?_)
    · skip
      exact False.elim (by revert b27; decide)
    · skip
      refine lv_aload_n hx hb dX6_draw_30 rfl (lv_at hl 0 rfl) ?_
      refine lv_iconst (v := 2) hx hb dX6_draw_31 (by decide) ?_
      refine cM S (rr_fails l dg cA ad r 2 _) kX6_104 ⟨rfl, rfl, Nat.le_of_ble_eq_true rfl, Nat.le_of_ble_eq_true rfl⟩ hK hP hD hS hA 0 ml_0 (q := (RX6, TX6, 31)) rfl rfl (As := [.int 2]) rfl hl.1 (rest := []) rfl (Nat.le_of_ble_eq_true rfl) dX6_draw_32 ⟨Nat.le_of_ble_eq_true rfl, Nat.le_of_ble_eq_true rfl⟩ (st1 := [.int 0]) rfl (fun H locs hP hD hS => ?_)
      exact eMi S hr hlk hP hD hS dX6_draw_35 rfl rfl
  · skip
    exact False.elim (by revert b11; decide)

set_option maxHeartbeats 4000000 in
set_option maxRecDepth 100000 in
theorem rr_draw3 (l : Launch) (dg : va_G) (cA : Nat → ClassId) (ad : Nat → Nat) (r : St) (n : Nat) (hn : r 0 3 = nI n) (hn24 : n ≤ 24) (ns : Nat) (hns : r 0 2 = nI ns) (hns4 : ns ≤ 4) (js : Nat) (hjs : js < ns) (kk : Nat) (hk1 : 1 ≤ kk) (hk2 : kk ≤ 24) (hu : m_und r n (nI js) < kk) (sz : Nat) : MetM l dg cA yX6_draw cX6_draw 5 (some .int) ({ frames := 1, cells := 0, slots := 0, locals := 23 } : Room) 0 0 (mw cA ad r) sz [.ref (ad 0), .int (nI js), .int (nI kk)] (mw cA ad (up r 0 0 3)) (some (.int 0)) := by
  refine ofM (by decide) (Nat.le_of_ble_eq_true rfl) (own := RX6) rfl (fun p e s0 m args below meth ccd ls A hAe S hr hlk hname hargs hK hP hD hS hA hsz hl => ?_)
  have hx := S.1
  have hb := S.2.1
  have hl : lv_has ls 5 [(0, .ref (ad 0)), (1, .int (nI js)), (2, .int (nI kk))] := hl
  unfold m_und at hu
  refine lv_iload_n hx hb dX6_draw_0 rfl (lv_at hl 1 rfl) ?_
  refine lv_iconst (v := 0) hx hb dX6_draw_1 (by decide) ?_
  refine lv_aload_n hx hb dX6_draw_2 rfl (lv_at hl 0 rfl) ?_
  refine gf S hK hP 0 ml_0 fX6_108 (v := .int (nI ns)) (mv_2 hns) dX6_draw_3 ?_
  refine lv_iconst (v := 1) hx hb dX6_draw_6 (by decide) ?_
  refine lv_isub hx hb dX6_draw_7 ?_
  refine cRS S (rr_in1 l dg cA (mw cA ad r) (nI js) 0 ((nI ns) - 1) (nI_pos (by omega)) (idx_hi hjs (by omega))) kX6_96 ⟨rfl, rfl, Nat.le_of_ble_eq_true rfl, Nat.le_of_ble_eq_true rfl⟩ hK hP (As := [.int (nI js), .int 0, .int ((nI ns) - 1)]) rfl hl.1 (rest := []) rfl (Nat.le_of_ble_eq_true rfl) dX6_draw_8 ⟨Nat.le_of_ble_eq_true rfl, Nat.le_of_ble_eq_true rfl⟩ (st1 := [.int 1]) rfl ?_
  refine lv_if_ne (tgt := 20) hx hb dX6_draw_11 (by decide) (fun b11 => ?_) (fun b11 => ?_)
  · skip
    refine lv_iload_n hx hb dX6_draw_20 rfl (lv_at hl 2 rfl) ?_
    refine lv_iconst (v := 1) hx hb dX6_draw_21 (by decide) ?_
    refine lv_bipush (v := 24) hx hb dX6_draw_22 (by decide) ?_
    refine cRS S (rr_in1 l dg cA (mw cA ad r) (nI kk) 1 24 (nI_nlt (a := kk) (b := 1) hk1 (by omega)) (nI_nlt (a := 24) (b := kk) hk2 (by omega))) kX6_96 ⟨rfl, rfl, Nat.le_of_ble_eq_true rfl, Nat.le_of_ble_eq_true rfl⟩ hK hP (As := [.int (nI kk), .int 1, .int 24]) rfl hl.1 (rest := []) rfl (Nat.le_of_ble_eq_true rfl) dX6_draw_24 ⟨Nat.le_of_ble_eq_true rfl, Nat.le_of_ble_eq_true rfl⟩ (st1 := [.int 1]) rfl ?_
    refine lv_if_ne (tgt := 36) hx hb dX6_draw_27 (by decide) (fun b27 => ?_) (fun b27 => ?_)
    · skip
      refine lv_aload_n hx hb dX6_draw_36 rfl (lv_at hl 0 rfl) ?_
      refine lv_iload_n hx hb dX6_draw_37 rfl (lv_at hl 1 rfl) ?_
      refine cR S (rr_undrawn l dg cA ad r n hn hn24 (nI js)) kX6_112 ⟨rfl, rfl, Nat.le_of_ble_eq_true rfl, Nat.le_of_ble_eq_true rfl⟩ hK hP 0 ml_0 (q := (RX6, TX6, 31)) rfl rfl (As := [.int (nI js)]) rfl hl.1 (rest := []) rfl (Nat.le_of_ble_eq_true rfl) dX6_draw_38 ⟨Nat.le_of_ble_eq_true rfl, Nat.le_of_ble_eq_true rfl⟩ (st1 := [.int (nI (ct (isU (r 1) (r 4) (nI js)) n))]) rfl ?_
      refine lv_iload_n hx hb dX6_draw_41 rfl (lv_at hl 2 rfl) ?_
      refine lv_icmp_ge (tgt := 51) hx hb dX6_draw_42 (by decide) (fun b42 => ?_) (fun b42 => ?_)
      · skip
        have g42 : kk ≤ ct (isU (r 1) (r 4) (nI js)) n := (nI_leI (a := kk) (b := ct (isU (r 1) (r 4) (nI js)) n) (by omega) (by omega)).mp b42
        exact absurd g42 (by omega)
      · skip
        have g42 : ¬ kk ≤ ct (isU (r 1) (r 4) (nI js)) n := fun zz => b42 ((nI_leI (a := kk) (b := ct (isU (r 1) (r 4) (nI js)) n) (by omega) (by omega)).mpr zz)
        refine lv_aload_n hx hb dX6_draw_45 rfl (lv_at hl 0 rfl) ?_
        refine lv_iconst (v := 3) hx hb dX6_draw_46 (by decide) ?_
        refine cM S (rr_fails l dg cA ad r 3 _) kX6_104 ⟨rfl, rfl, Nat.le_of_ble_eq_true rfl, Nat.le_of_ble_eq_true rfl⟩ hK hP hD hS hA 0 ml_0 (q := (RX6, TX6, 31)) rfl rfl (As := [.int 3]) rfl hl.1 (rest := []) rfl (Nat.le_of_ble_eq_true rfl) dX6_draw_47 ⟨Nat.le_of_ble_eq_true rfl, Nat.le_of_ble_eq_true rfl⟩ (st1 := [.int 0]) rfl (fun H locs hP hD hS => ?_)
        exact eMi S hr hlk hP hD hS dX6_draw_50 rfl rfl
    · skip
      exact absurd b27 b11
  · skip
    exact False.elim (by revert b11; decide)

set_option maxHeartbeats 4000000 in
set_option maxRecDepth 100000 in
theorem rr_draw4 (l : Launch) (dg : va_G) (cA : Nat → ClassId) (ad : Nat → Nat) (r : St) (n : Nat) (hn : r 0 3 = nI n) (hn24 : n ≤ 24) (ns : Nat) (hns : r 0 2 = nI ns) (hns4 : ns ≤ 4) (js : Nat) (hjs : js < ns) (hc : ∃ k, k < 65536 ∧ r 0 1 = nI k) (kk : Nat) (hk1 : 1 ≤ kk) (hk2 : kk ≤ 24) (hu : kk ≤ m_und r n (nI js)) (sz : Nat) : MetM l dg cA yX6_draw cX6_draw 5 (some .int) ({ frames := 2, cells := 0, slots := 0, locals := 47 } : Room) 0 0 (mw cA ad r) sz [.ref (ad 0), .int (nI js), .int (nI kk)] (mw cA ad (m_dk (up r 0 0 0) n (nI js) kk)) (some (.int (m_last (up r 0 0 0) n (nI js) kk))) := by
  refine ofM (by decide) (Nat.le_of_ble_eq_true rfl) (own := RX6) rfl (fun p e s0 m args below meth ccd ls A hAe S hr hlk hname hargs hK hP hD hS hA hsz hl => ?_)
  have hx := S.1
  have hb := S.2.1
  have hl : lv_has ls 5 [(0, .ref (ad 0)), (1, .int (nI js)), (2, .int (nI kk))] := hl
  have hu3 : kk ≤ m_und (up r 0 0 0) n (nI js) := hu
  have hc3 : ∃ k, k < 65536 ∧ (up r 0 0 0) 0 1 = nI k := hc
  have hu4 : ¬ ct (isU (r 1) (r 4) (nI js)) n < kk := Nat.not_lt.mpr hu
  have hu5 := ct_le (isU (r 1) (r 4) (nI js)) n
  refine lv_iload_n hx hb dX6_draw_0 rfl (lv_at hl 1 rfl) ?_
  refine lv_iconst (v := 0) hx hb dX6_draw_1 (by decide) ?_
  refine lv_aload_n hx hb dX6_draw_2 rfl (lv_at hl 0 rfl) ?_
  refine gf S hK hP 0 ml_0 fX6_108 (v := .int (nI ns)) (mv_2 hns) dX6_draw_3 ?_
  refine lv_iconst (v := 1) hx hb dX6_draw_6 (by decide) ?_
  refine lv_isub hx hb dX6_draw_7 ?_
  refine cRS S (rr_in1 l dg cA (mw cA ad r) (nI js) 0 ((nI ns) - 1) (nI_pos (by omega)) (idx_hi hjs (by omega))) kX6_96 ⟨rfl, rfl, Nat.le_of_ble_eq_true rfl, Nat.le_of_ble_eq_true rfl⟩ hK hP (As := [.int (nI js), .int 0, .int ((nI ns) - 1)]) rfl hl.1 (rest := []) rfl (Nat.le_of_ble_eq_true rfl) dX6_draw_8 ⟨Nat.le_of_ble_eq_true rfl, Nat.le_of_ble_eq_true rfl⟩ (st1 := [.int 1]) rfl ?_
  refine lv_if_ne (tgt := 20) hx hb dX6_draw_11 (by decide) (fun b11 => ?_) (fun b11 => ?_)
  · skip
    refine lv_iload_n hx hb dX6_draw_20 rfl (lv_at hl 2 rfl) ?_
    refine lv_iconst (v := 1) hx hb dX6_draw_21 (by decide) ?_
    refine lv_bipush (v := 24) hx hb dX6_draw_22 (by decide) ?_
    refine cRS S (rr_in1 l dg cA (mw cA ad r) (nI kk) 1 24 (nI_nlt (a := kk) (b := 1) hk1 (by omega)) (nI_nlt (a := 24) (b := kk) hk2 (by omega))) kX6_96 ⟨rfl, rfl, Nat.le_of_ble_eq_true rfl, Nat.le_of_ble_eq_true rfl⟩ hK hP (As := [.int (nI kk), .int 1, .int 24]) rfl hl.1 (rest := []) rfl (Nat.le_of_ble_eq_true rfl) dX6_draw_24 ⟨Nat.le_of_ble_eq_true rfl, Nat.le_of_ble_eq_true rfl⟩ (st1 := [.int 1]) rfl ?_
    refine lv_if_ne (tgt := 36) hx hb dX6_draw_27 (by decide) (fun b27 => ?_) (fun b27 => ?_)
    · skip
      refine lv_aload_n hx hb dX6_draw_36 rfl (lv_at hl 0 rfl) ?_
      refine lv_iload_n hx hb dX6_draw_37 rfl (lv_at hl 1 rfl) ?_
      refine cR S (rr_undrawn l dg cA ad r n hn hn24 (nI js)) kX6_112 ⟨rfl, rfl, Nat.le_of_ble_eq_true rfl, Nat.le_of_ble_eq_true rfl⟩ hK hP 0 ml_0 (q := (RX6, TX6, 31)) rfl rfl (As := [.int (nI js)]) rfl hl.1 (rest := []) rfl (Nat.le_of_ble_eq_true rfl) dX6_draw_38 ⟨Nat.le_of_ble_eq_true rfl, Nat.le_of_ble_eq_true rfl⟩ (st1 := [.int (nI (ct (isU (r 1) (r 4) (nI js)) n))]) rfl ?_
      refine lv_iload_n hx hb dX6_draw_41 rfl (lv_at hl 2 rfl) ?_
      refine lv_icmp_ge (tgt := 51) hx hb dX6_draw_42 (by decide) (fun b42 => ?_) (fun b42 => ?_)
      · skip
        have g42 : kk ≤ ct (isU (r 1) (r 4) (nI js)) n := (nI_leI (a := kk) (b := ct (isU (r 1) (r 4) (nI js)) n) (by omega) (by omega)).mp b42
        refine lv_aload_n hx hb dX6_draw_51 rfl (lv_at hl 0 rfl) ?_
        refine lv_iconst (v := 0) hx hb dX6_draw_52 (by decide) ?_
        refine pf S hK hP hD hS 0 ml_0 fX6_90 fpX6 rfl (v := .int 0) rfl rfl (Nat.le_of_ble_eq_true rfl) ms_0_0 dX6_draw_53 (fun H locs hP hD hS => ?_)
        refine lv_iconst (v := (-1)) hx hb dX6_draw_56 (by decide) ?_
        refine lv_istore_n (lv' := [(3, .int (-1)), (0, .ref (ad 0)), (1, .int (nI js)), (2, .int (nI kk))]) hx hb dX6_draw_57 rfl hl (by decide) rfl (fun ls hl => ?_)
        refine lv_iconst (v := 0) hx hb dX6_draw_58 (by decide) ?_
        refine lv_istore (lv' := [(4, .int 0), (3, .int (-1)), (0, .ref (ad 0)), (1, .int (nI js)), (2, .int (nI kk))]) hx hb dX6_draw_59 hl (by decide) rfl (fun ls hl => ?_)
        have hL61 : ∀ (f : Nat) (i : Nat), kk - i < f → (i ≤ kk) → ∀ ls, lv_has ls 5 [(0, .ref (ad 0)), (1, .int (nI js)), (2, .int (nI kk)), (3, .int (m_last (up r 0 0 0) n (nI js) i)), (4, .int (nI i))] → ∀ (H : Heap) (locs : List Loc), PP dg (mw cA ad (m_dk (up r 0 0 0) n (nI js) i)) H → va_D A (mw cA ad (m_dk (up r 0 0 0) n (nI js) i)) → va_S A s0.heap H locs → W p l e ({ frames := 2, cells := 0, slots := 0, locals := 47 } : Room) s0 m args below meth ccd H locs 0 0 (MQ below (QcM dg (mw cA ad (m_dk (up r 0 0 0) n (nI js) kk)) (some (.int (m_last (up r 0 0 0) n (nI js) kk))) A) args s0 0 0 A) (F0 m 61 ls []) := by
          intro f
          induction f with
          | zero => intro i hm; exact absurd hm (Nat.not_lt_zero _)
          | succ f ih61 =>
            intro i hm61 hi ls hl H locs hP hD hS
            refine lv_iload hx hb dX6_draw_61 (lv_at hl 4 rfl) ?_
            refine lv_iload_n hx hb dX6_draw_63 rfl (lv_at hl 2 rfl) ?_
            refine lv_icmp_ge (tgt := 80) hx hb dX6_draw_64 (by decide) (fun b64 => ?_) (fun b64 => ?_)
            · skip
              have g64 : kk ≤ i := (nI_leI (a := kk) (b := i) (by omega) (by omega)).mp b64
              refine lv_iload_n hx hb dX6_draw_80 rfl (lv_at hl 3 rfl) ?_
              exact eMi S hr hlk hP hD hS dX6_draw_81 (by rw [show i = kk by omega]) (by rw [show i = kk by omega])
            · skip
              have g64 : ¬ kk ≤ i := fun zz => b64 ((nI_leI (a := kk) (b := i) (by omega) (by omega)).mpr zz)
              have hd := m_und_dk (s := nI js) hc3 hn24 i (by omega)
              have hhn : m_dk (up r 0 0 0) n (nI js) i 0 3 = nI n := by rw [m_dk_sc _ _ (by decide)]; exact hn
              refine lv_aload_n hx hb dX6_draw_67 rfl (lv_at hl 0 rfl) ?_
              refine lv_iload_n hx hb dX6_draw_68 rfl (lv_at hl 1 rfl) ?_
              refine lv_iconst (v := 0) hx hb dX6_draw_69 (by decide) ?_
              refine cM S (rr_draws l dg cA ad (m_dk (up r 0 0 0) n (nI js) i) n hhn hn24 (nI js) 0 rfl (m_dk_chance hc3 i) (by omega) _) kX6_118 ⟨rfl, rfl, Nat.le_of_ble_eq_true rfl, Nat.le_of_ble_eq_true rfl⟩ hK hP hD hS hA 0 ml_0 (q := (RX6, TX6, 31)) rfl rfl (As := [.int (nI js), .int 0]) rfl hl.1 (rest := []) rfl (Nat.le_of_ble_eq_true rfl) dX6_draw_70 ⟨Nat.le_of_ble_eq_true rfl, Nat.le_of_ble_eq_true rfl⟩ (st1 := [.int (nI (m_h (m_dk (up r 0 0 0) n (nI js) i) n (nI js)))]) rfl (fun H locs hP hD hS => ?_)
              refine lv_istore_n (lv' := [(3, .int (nI (m_h (m_dk (up r 0 0 0) n (nI js) i) n (nI js)))), (0, .ref (ad 0)), (1, .int (nI js)), (2, .int (nI kk)), (4, .int (nI i))]) hx hb dX6_draw_73 rfl hl (by decide) rfl (fun ls hl => ?_)
              refine lv_iinc (v := nI (i + 1)) (lv' := [(4, .int (nI (i + 1))), (3, .int (nI (m_h (m_dk (up r 0 0 0) n (nI js) i) n (nI js)))), (0, .ref (ad 0)), (1, .int (nI js)), (2, .int (nI kk))]) hx hb dX6_draw_74 hl (k := 4) rfl (nI_1 i) (by decide) rfl (fun ls hl => ?_)
              refine lv_goto (tgt := 61) hx hb dX6_draw_77 (by decide) ?_
              have es : (mw cA ad (m_d1 (m_dk (up r 0 0 0) n (nI js) i) n (nI js) 0)) = (mw cA ad (m_dk (up r 0 0 0) n (nI js) (i + 1))) := rfl
              rw [es] at hP hD
              exact ih61 (i + 1) (by omega) (by omega) ls (lv_cast (lv_sub (l' := [(0, .ref (ad 0)), (1, .int (nI js)), (2, .int (nI kk)), (3, .int (nI (m_h (m_dk (up r 0 0 0) n (nI js) i) n (nI js)))), (4, .int (nI (i + 1)))]) hl [2, 3, 4, 1, 0] rfl) (by rfl)) _ _ hP hD hS
        have es : (mw cA ad (up r 0 0 0)) = (mw cA ad (m_dk (up r 0 0 0) n (nI js) 0)) := rfl
        rw [es] at hP hD
        exact hL61 _ 0 (Nat.lt_succ_self _) (Nat.zero_le _) ls (lv_cast (lv_sub (l' := [(0, .ref (ad 0)), (1, .int (nI js)), (2, .int (nI kk)), (3, .int (-1)), (4, .int 0)]) hl [2, 3, 4, 1, 0] rfl) (by rfl)) _ _ hP hD hS
      · skip
        have g42 : ¬ kk ≤ ct (isU (r 1) (r 4) (nI js)) n := fun zz => b42 ((nI_leI (a := kk) (b := ct (isU (r 1) (r 4) (nI js)) n) (by omega) (by omega)).mpr zz)
        exact absurd (Nat.lt_of_not_le g42) hu4
    · skip
      exact absurd b27 b11
  · skip
    exact False.elim (by revert b11; decide)

set_option maxHeartbeats 4000000 in
set_option maxRecDepth 100000 in
theorem rr_roundSize1 (l : Launch) (dg : va_G) (cA : Nat → ClassId) (ad : Nat → Nat) (r : St) (ni : Nat) (hni : r 0 4 = nI ni) (hni4 : ni ≤ 4) (i : Nat) (hi : i < ni) (sz : Nat) : MetM l dg cA yX6_roundSize cX6_roundSize 2 (some .int) ({ frames := 2, cells := 0, slots := 0, locals := 43 } : Room) 0 0 (mw cA ad r) sz [.ref (ad 0), .int (nI i)] (mw cA ad (up r 0 0 0)) (some (.int (r 20 i))) := by
  refine ofM (by decide) (Nat.le_of_ble_eq_true rfl) (own := RX6) rfl (fun p e s0 m args below meth ccd ls A hAe S hr hlk hname hargs hK hP hD hS hA hsz hl => ?_)
  have hx := S.1
  have hb := S.2.1
  have hl : lv_has ls 2 [(0, .ref (ad 0)), (1, .int (nI i))] := hl
  refine lv_aload_n hx hb dX6_roundSize_0 rfl (lv_at hl 0 rfl) ?_
  refine lv_iload_n hx hb dX6_roundSize_1 rfl (lv_at hl 1 rfl) ?_
  refine cM S (rr_isInt1 l dg cA ad r ni hni hni4 i hi _) kX6_129 ⟨rfl, rfl, Nat.le_of_ble_eq_true rfl, Nat.le_of_ble_eq_true rfl⟩ hK hP hD hS hA 0 ml_0 (q := (RX6, TX6, 31)) rfl rfl (As := [.int (nI i)]) rfl hl.1 (rest := []) rfl (Nat.le_of_ble_eq_true rfl) dX6_roundSize_2 ⟨Nat.le_of_ble_eq_true rfl, Nat.le_of_ble_eq_true rfl⟩ (st1 := [.int 1]) rfl (fun H locs hP hD hS => ?_)
  refine lv_if_eq (tgt := 17) hx hb dX6_roundSize_5 (by decide) (fun b5 => ?_) (fun b5 => ?_)
  · skip
    exact False.elim (by revert b5; decide)
  · skip
    refine lv_aload_n hx hb dX6_roundSize_8 rfl (lv_at hl 0 rfl) ?_
    refine gf S hK hP 0 ml_0 fX6_72 (v := .ref (ad 20)) mr_20 dX6_roundSize_9 ?_
    refine lv_iload_n hx hb dX6_roundSize_12 rfl (lv_at hl 1 rfl) ?_
    refine ild S hK hP 20 ml_20 (j := i) (by omega) (Nat.le_of_ble_eq_true rfl) dX6_roundSize_13 ?_
    refine lv_as (y := r 20 i) rfl ?_
    refine lv_goto (tgt := 18) hx hb dX6_roundSize_14 (by decide) ?_
    exact eMi S hr hlk hP hD hS dX6_roundSize_18 rfl rfl

set_option maxHeartbeats 4000000 in
set_option maxRecDepth 100000 in
theorem rr_roundSize0 (l : Launch) (dg : va_G) (cA : Nat → ClassId) (ad : Nat → Nat) (r : St) (ni : Nat) (hni : r 0 4 = nI ni) (hni4 : ni ≤ 4) (v : Int32) (hv : v < 0 ∨ nI ni ≤ v) (sz : Nat) : MetM l dg cA yX6_roundSize cX6_roundSize 2 (some .int) ({ frames := 2, cells := 0, slots := 0, locals := 43 } : Room) 0 0 (mw cA ad r) sz [.ref (ad 0), .int v] (mw cA ad (up r 0 0 1)) (some (.int 0)) := by
  refine ofM (by decide) (Nat.le_of_ble_eq_true rfl) (own := RX6) rfl (fun p e s0 m args below meth ccd ls A hAe S hr hlk hname hargs hK hP hD hS hA hsz hl => ?_)
  have hx := S.1
  have hb := S.2.1
  have hl : lv_has ls 2 [(0, .ref (ad 0)), (1, .int v)] := hl
  refine lv_aload_n hx hb dX6_roundSize_0 rfl (lv_at hl 0 rfl) ?_
  refine lv_iload_n hx hb dX6_roundSize_1 rfl (lv_at hl 1 rfl) ?_
  refine cM S (rr_isInt0 l dg cA ad r ni hni hni4 v hv _) kX6_129 ⟨rfl, rfl, Nat.le_of_ble_eq_true rfl, Nat.le_of_ble_eq_true rfl⟩ hK hP hD hS hA 0 ml_0 (q := (RX6, TX6, 31)) rfl rfl (As := [.int v]) rfl hl.1 (rest := []) rfl (Nat.le_of_ble_eq_true rfl) dX6_roundSize_2 ⟨Nat.le_of_ble_eq_true rfl, Nat.le_of_ble_eq_true rfl⟩ (st1 := [.int 0]) rfl (fun H locs hP hD hS => ?_)
  refine lv_if_eq (tgt := 17) hx hb dX6_roundSize_5 (by decide) (fun b5 => ?_) (fun b5 => ?_)
  · skip
    refine lv_iconst (v := 0) hx hb dX6_roundSize_17 (by decide) ?_
    exact eMi S hr hlk hP hD hS dX6_roundSize_18 rfl rfl
  · skip
    exact False.elim (by revert b5; decide)

set_option maxHeartbeats 4000000 in
set_option maxRecDepth 100000 in
theorem rr_roundMinutes1 (l : Launch) (dg : va_G) (cA : Nat → ClassId) (ad : Nat → Nat) (r : St) (ni : Nat) (hni : r 0 4 = nI ni) (hni4 : ni ≤ 4) (i : Nat) (hi : i < ni) (sz : Nat) : MetM l dg cA yX6_roundMinutes cX6_roundMinutes 2 (some .int) ({ frames := 2, cells := 0, slots := 0, locals := 43 } : Room) 0 0 (mw cA ad r) sz [.ref (ad 0), .int (nI i)] (mw cA ad (up r 0 0 0)) (some (.int (r 21 i))) := by
  refine ofM (by decide) (Nat.le_of_ble_eq_true rfl) (own := RX6) rfl (fun p e s0 m args below meth ccd ls A hAe S hr hlk hname hargs hK hP hD hS hA hsz hl => ?_)
  have hx := S.1
  have hb := S.2.1
  have hl : lv_has ls 2 [(0, .ref (ad 0)), (1, .int (nI i))] := hl
  refine lv_aload_n hx hb dX6_roundMinutes_0 rfl (lv_at hl 0 rfl) ?_
  refine lv_iload_n hx hb dX6_roundMinutes_1 rfl (lv_at hl 1 rfl) ?_
  refine cM S (rr_isInt1 l dg cA ad r ni hni hni4 i hi _) kX6_129 ⟨rfl, rfl, Nat.le_of_ble_eq_true rfl, Nat.le_of_ble_eq_true rfl⟩ hK hP hD hS hA 0 ml_0 (q := (RX6, TX6, 31)) rfl rfl (As := [.int (nI i)]) rfl hl.1 (rest := []) rfl (Nat.le_of_ble_eq_true rfl) dX6_roundMinutes_2 ⟨Nat.le_of_ble_eq_true rfl, Nat.le_of_ble_eq_true rfl⟩ (st1 := [.int 1]) rfl (fun H locs hP hD hS => ?_)
  refine lv_if_eq (tgt := 17) hx hb dX6_roundMinutes_5 (by decide) (fun b5 => ?_) (fun b5 => ?_)
  · skip
    exact False.elim (by revert b5; decide)
  · skip
    refine lv_aload_n hx hb dX6_roundMinutes_8 rfl (lv_at hl 0 rfl) ?_
    refine gf S hK hP 0 ml_0 fX6_75 (v := .ref (ad 21)) mr_21 dX6_roundMinutes_9 ?_
    refine lv_iload_n hx hb dX6_roundMinutes_12 rfl (lv_at hl 1 rfl) ?_
    refine ild S hK hP 21 ml_21 (j := i) (by omega) (Nat.le_of_ble_eq_true rfl) dX6_roundMinutes_13 ?_
    refine lv_as (y := r 21 i) rfl ?_
    refine lv_goto (tgt := 18) hx hb dX6_roundMinutes_14 (by decide) ?_
    exact eMi S hr hlk hP hD hS dX6_roundMinutes_18 rfl rfl

set_option maxHeartbeats 4000000 in
set_option maxRecDepth 100000 in
theorem rr_roundMinutes0 (l : Launch) (dg : va_G) (cA : Nat → ClassId) (ad : Nat → Nat) (r : St) (ni : Nat) (hni : r 0 4 = nI ni) (hni4 : ni ≤ 4) (v : Int32) (hv : v < 0 ∨ nI ni ≤ v) (sz : Nat) : MetM l dg cA yX6_roundMinutes cX6_roundMinutes 2 (some .int) ({ frames := 2, cells := 0, slots := 0, locals := 43 } : Room) 0 0 (mw cA ad r) sz [.ref (ad 0), .int v] (mw cA ad (up r 0 0 1)) (some (.int 0)) := by
  refine ofM (by decide) (Nat.le_of_ble_eq_true rfl) (own := RX6) rfl (fun p e s0 m args below meth ccd ls A hAe S hr hlk hname hargs hK hP hD hS hA hsz hl => ?_)
  have hx := S.1
  have hb := S.2.1
  have hl : lv_has ls 2 [(0, .ref (ad 0)), (1, .int v)] := hl
  refine lv_aload_n hx hb dX6_roundMinutes_0 rfl (lv_at hl 0 rfl) ?_
  refine lv_iload_n hx hb dX6_roundMinutes_1 rfl (lv_at hl 1 rfl) ?_
  refine cM S (rr_isInt0 l dg cA ad r ni hni hni4 v hv _) kX6_129 ⟨rfl, rfl, Nat.le_of_ble_eq_true rfl, Nat.le_of_ble_eq_true rfl⟩ hK hP hD hS hA 0 ml_0 (q := (RX6, TX6, 31)) rfl rfl (As := [.int v]) rfl hl.1 (rest := []) rfl (Nat.le_of_ble_eq_true rfl) dX6_roundMinutes_2 ⟨Nat.le_of_ble_eq_true rfl, Nat.le_of_ble_eq_true rfl⟩ (st1 := [.int 0]) rfl (fun H locs hP hD hS => ?_)
  refine lv_if_eq (tgt := 17) hx hb dX6_roundMinutes_5 (by decide) (fun b5 => ?_) (fun b5 => ?_)
  · skip
    refine lv_iconst (v := 0) hx hb dX6_roundMinutes_17 (by decide) ?_
    exact eMi S hr hlk hP hD hS dX6_roundMinutes_18 rfl rfl
  · skip
    exact False.elim (by revert b5; decide)

set_option maxHeartbeats 4000000 in
set_option maxRecDepth 100000 in
theorem rr_faults1 (l : Launch) (dg : va_G) (cA : Nat → ClassId) (ad : Nat → Nat) (r : St) (ni : Nat) (hni : r 0 4 = nI ni) (hni4 : ni ≤ 4) (i : Nat) (hi : i < ni) (sz : Nat) : MetM l dg cA yX6_faults cX6_faults 2 (some .int) ({ frames := 2, cells := 0, slots := 0, locals := 43 } : Room) 0 0 (mw cA ad r) sz [.ref (ad 0), .int (nI i)] (mw cA ad (up r 0 0 0)) (some (.int (r 25 i))) := by
  refine ofM (by decide) (Nat.le_of_ble_eq_true rfl) (own := RX6) rfl (fun p e s0 m args below meth ccd ls A hAe S hr hlk hname hargs hK hP hD hS hA hsz hl => ?_)
  have hx := S.1
  have hb := S.2.1
  have hl : lv_has ls 2 [(0, .ref (ad 0)), (1, .int (nI i))] := hl
  refine lv_aload_n hx hb dX6_faults_0 rfl (lv_at hl 0 rfl) ?_
  refine lv_iload_n hx hb dX6_faults_1 rfl (lv_at hl 1 rfl) ?_
  refine cM S (rr_isInt1 l dg cA ad r ni hni hni4 i hi _) kX6_129 ⟨rfl, rfl, Nat.le_of_ble_eq_true rfl, Nat.le_of_ble_eq_true rfl⟩ hK hP hD hS hA 0 ml_0 (q := (RX6, TX6, 31)) rfl rfl (As := [.int (nI i)]) rfl hl.1 (rest := []) rfl (Nat.le_of_ble_eq_true rfl) dX6_faults_2 ⟨Nat.le_of_ble_eq_true rfl, Nat.le_of_ble_eq_true rfl⟩ (st1 := [.int 1]) rfl (fun H locs hP hD hS => ?_)
  refine lv_if_eq (tgt := 17) hx hb dX6_faults_5 (by decide) (fun b5 => ?_) (fun b5 => ?_)
  · skip
    exact False.elim (by revert b5; decide)
  · skip
    refine lv_aload_n hx hb dX6_faults_8 rfl (lv_at hl 0 rfl) ?_
    refine gf S hK hP 0 ml_0 fX6_87 (v := .ref (ad 25)) mr_25 dX6_faults_9 ?_
    refine lv_iload_n hx hb dX6_faults_12 rfl (lv_at hl 1 rfl) ?_
    refine ild S hK hP 25 ml_25 (j := i) (by omega) (Nat.le_of_ble_eq_true rfl) dX6_faults_13 ?_
    refine lv_as (y := r 25 i) rfl ?_
    refine lv_goto (tgt := 18) hx hb dX6_faults_14 (by decide) ?_
    exact eMi S hr hlk hP hD hS dX6_faults_18 rfl rfl

set_option maxHeartbeats 4000000 in
set_option maxRecDepth 100000 in
theorem rr_faults0 (l : Launch) (dg : va_G) (cA : Nat → ClassId) (ad : Nat → Nat) (r : St) (ni : Nat) (hni : r 0 4 = nI ni) (hni4 : ni ≤ 4) (v : Int32) (hv : v < 0 ∨ nI ni ≤ v) (sz : Nat) : MetM l dg cA yX6_faults cX6_faults 2 (some .int) ({ frames := 2, cells := 0, slots := 0, locals := 43 } : Room) 0 0 (mw cA ad r) sz [.ref (ad 0), .int v] (mw cA ad (up r 0 0 1)) (some (.int 0)) := by
  refine ofM (by decide) (Nat.le_of_ble_eq_true rfl) (own := RX6) rfl (fun p e s0 m args below meth ccd ls A hAe S hr hlk hname hargs hK hP hD hS hA hsz hl => ?_)
  have hx := S.1
  have hb := S.2.1
  have hl : lv_has ls 2 [(0, .ref (ad 0)), (1, .int v)] := hl
  refine lv_aload_n hx hb dX6_faults_0 rfl (lv_at hl 0 rfl) ?_
  refine lv_iload_n hx hb dX6_faults_1 rfl (lv_at hl 1 rfl) ?_
  refine cM S (rr_isInt0 l dg cA ad r ni hni hni4 v hv _) kX6_129 ⟨rfl, rfl, Nat.le_of_ble_eq_true rfl, Nat.le_of_ble_eq_true rfl⟩ hK hP hD hS hA 0 ml_0 (q := (RX6, TX6, 31)) rfl rfl (As := [.int v]) rfl hl.1 (rest := []) rfl (Nat.le_of_ble_eq_true rfl) dX6_faults_2 ⟨Nat.le_of_ble_eq_true rfl, Nat.le_of_ble_eq_true rfl⟩ (st1 := [.int 0]) rfl (fun H locs hP hD hS => ?_)
  refine lv_if_eq (tgt := 17) hx hb dX6_faults_5 (by decide) (fun b5 => ?_) (fun b5 => ?_)
  · skip
    refine lv_iconst (v := 0) hx hb dX6_faults_17 (by decide) ?_
    exact eMi S hr hlk hP hD hS dX6_faults_18 rfl rfl
  · skip
    exact False.elim (by revert b5; decide)

set_option maxHeartbeats 4000000 in
set_option maxRecDepth 100000 in
theorem rr_stateOf1 (l : Launch) (dg : va_G) (cA : Nat → ClassId) (ad : Nat → Nat) (r : St) (n : Nat) (hn : r 0 3 = nI n) (hn24 : n ≤ 24) (j : Nat) (hj : j < n) (hch : ((r 4 j).toUInt32 % 65536).toInt32 = r 4 j) (hnc : narrow .char (.int (r 4 j)) = .int (r 4 j)) (sz : Nat) : MetM l dg cA yX6_stateOf cX6_stateOf 2 (some .char) ({ frames := 2, cells := 0, slots := 0, locals := 43 } : Room) 0 0 (mw cA ad r) sz [.ref (ad 0), .int (nI j)] (mw cA ad (up r 0 0 0)) (some (.int (r 4 j))) := by
  refine ofM (by decide) (Nat.le_of_ble_eq_true rfl) (own := RX6) rfl (fun p e s0 m args below meth ccd ls A hAe S hr hlk hname hargs hK hP hD hS hA hsz hl => ?_)
  have hx := S.1
  have hb := S.2.1
  have hl : lv_has ls 2 [(0, .ref (ad 0)), (1, .int (nI j))] := hl
  refine lv_aload_n hx hb dX6_stateOf_0 rfl (lv_at hl 0 rfl) ?_
  refine lv_iload_n hx hb dX6_stateOf_1 rfl (lv_at hl 1 rfl) ?_
  refine cM S (rr_isHouse1 l dg cA ad r n hn hn24 j hj _) kX6_133 ⟨rfl, rfl, Nat.le_of_ble_eq_true rfl, Nat.le_of_ble_eq_true rfl⟩ hK hP hD hS hA 0 ml_0 (q := (RX6, TX6, 31)) rfl rfl (As := [.int (nI j)]) rfl hl.1 (rest := []) rfl (Nat.le_of_ble_eq_true rfl) dX6_stateOf_2 ⟨Nat.le_of_ble_eq_true rfl, Nat.le_of_ble_eq_true rfl⟩ (st1 := [.int 1]) rfl (fun H locs hP hD hS => ?_)
  refine lv_if_eq (tgt := 17) hx hb dX6_stateOf_5 (by decide) (fun b5 => ?_) (fun b5 => ?_)
  · skip
    exact False.elim (by revert b5; decide)
  · skip
    refine lv_aload_n hx hb dX6_stateOf_8 rfl (lv_at hl 0 rfl) ?_
    refine gf S hK hP 0 ml_0 fX6_23 (v := .ref (ad 4)) mr_4 dX6_stateOf_9 ?_
    refine lv_iload_n hx hb dX6_stateOf_12 rfl (lv_at hl 1 rfl) ?_
    refine ild S hK hP 4 ml_4 (j := j) (by omega) (Nat.le_of_ble_eq_true rfl) dX6_stateOf_13 ?_
    refine lv_as (y := r 4 j) rfl ?_
    refine lv_goto (tgt := 18) hx hb dX6_stateOf_14 (by decide) ?_
    refine lv_i2c (v := ((r 4 j : Int32).toUInt32 % 65536).toInt32) hx hb dX6_stateOf_18 rfl ?_
    exact eMz S hr hlk hP hD hS dX6_stateOf_19 hch rfl hnc

set_option maxHeartbeats 4000000 in
set_option maxRecDepth 100000 in
theorem rr_stateOf0 (l : Launch) (dg : va_G) (cA : Nat → ClassId) (ad : Nat → Nat) (r : St) (n : Nat) (hn : r 0 3 = nI n) (hn24 : n ≤ 24) (v : Int32) (hv : v < 0 ∨ nI n ≤ v) (sz : Nat) : MetM l dg cA yX6_stateOf cX6_stateOf 2 (some .char) ({ frames := 2, cells := 0, slots := 0, locals := 43 } : Room) 0 0 (mw cA ad r) sz [.ref (ad 0), .int v] (mw cA ad (up r 0 0 1)) (some (.int 0)) := by
  refine ofM (by decide) (Nat.le_of_ble_eq_true rfl) (own := RX6) rfl (fun p e s0 m args below meth ccd ls A hAe S hr hlk hname hargs hK hP hD hS hA hsz hl => ?_)
  have hx := S.1
  have hb := S.2.1
  have hl : lv_has ls 2 [(0, .ref (ad 0)), (1, .int v)] := hl
  refine lv_aload_n hx hb dX6_stateOf_0 rfl (lv_at hl 0 rfl) ?_
  refine lv_iload_n hx hb dX6_stateOf_1 rfl (lv_at hl 1 rfl) ?_
  refine cM S (rr_isHouse0 l dg cA ad r n hn hn24 v hv _) kX6_133 ⟨rfl, rfl, Nat.le_of_ble_eq_true rfl, Nat.le_of_ble_eq_true rfl⟩ hK hP hD hS hA 0 ml_0 (q := (RX6, TX6, 31)) rfl rfl (As := [.int v]) rfl hl.1 (rest := []) rfl (Nat.le_of_ble_eq_true rfl) dX6_stateOf_2 ⟨Nat.le_of_ble_eq_true rfl, Nat.le_of_ble_eq_true rfl⟩ (st1 := [.int 0]) rfl (fun H locs hP hD hS => ?_)
  refine lv_if_eq (tgt := 17) hx hb dX6_stateOf_5 (by decide) (fun b5 => ?_) (fun b5 => ?_)
  · skip
    refine lv_iconst (v := 0) hx hb dX6_stateOf_17 (by decide) ?_
    refine lv_i2c (v := ((0 : Int32).toUInt32 % 65536).toInt32) hx hb dX6_stateOf_18 rfl ?_
    exact eMz S hr hlk hP hD hS dX6_stateOf_19 (by decide) rfl rfl
  · skip
    exact False.elim (by revert b5; decide)

set_option maxHeartbeats 4000000 in
set_option maxRecDepth 100000 in
theorem rr_wantedFrom1 (l : Launch) (dg : va_G) (cA : Nat → ClassId) (ad : Nat → Nat) (r : St) (n : Nat) (hn : r 0 3 = nI n) (hn24 : n ≤ 24) (j : Nat) (hj : j < n) (hs : r 4 j = 119) (sz : Nat) : MetM l dg cA yX6_wantedFrom cX6_wantedFrom 2 (some .int) ({ frames := 2, cells := 0, slots := 0, locals := 43 } : Room) 0 0 (mw cA ad r) sz [.ref (ad 0), .int (nI j)] (mw cA ad (up r 0 0 0)) (some (.int (r 5 j))) := by
  refine ofM (by decide) (Nat.le_of_ble_eq_true rfl) (own := RX6) rfl (fun p e s0 m args below meth ccd ls A hAe S hr hlk hname hargs hK hP hD hS hA hsz hl => ?_)
  have hx := S.1
  have hb := S.2.1
  have hl : lv_has ls 2 [(0, .ref (ad 0)), (1, .int (nI j))] := hl
  refine lv_aload_n hx hb dX6_wantedFrom_0 rfl (lv_at hl 0 rfl) ?_
  refine lv_iload_n hx hb dX6_wantedFrom_1 rfl (lv_at hl 1 rfl) ?_
  refine cM S (rr_isHouse1 l dg cA ad r n hn hn24 j hj _) kX6_133 ⟨rfl, rfl, Nat.le_of_ble_eq_true rfl, Nat.le_of_ble_eq_true rfl⟩ hK hP hD hS hA 0 ml_0 (q := (RX6, TX6, 31)) rfl rfl (As := [.int (nI j)]) rfl hl.1 (rest := []) rfl (Nat.le_of_ble_eq_true rfl) dX6_wantedFrom_2 ⟨Nat.le_of_ble_eq_true rfl, Nat.le_of_ble_eq_true rfl⟩ (st1 := [.int 1]) rfl (fun H locs hP hD hS => ?_)
  refine lv_if_ne (tgt := 10) hx hb dX6_wantedFrom_5 (by decide) (fun b5 => ?_) (fun b5 => ?_)
  · skip
    refine lv_aload_n hx hb dX6_wantedFrom_10 rfl (lv_at hl 0 rfl) ?_
    refine gf S hK hP 0 ml_0 fX6_23 (v := .ref (ad 4)) mr_4 dX6_wantedFrom_11 ?_
    refine lv_iload_n hx hb dX6_wantedFrom_14 rfl (lv_at hl 1 rfl) ?_
    refine ild S hK hP 4 ml_4 (j := j) (by omega) (Nat.le_of_ble_eq_true rfl) dX6_wantedFrom_15 ?_
    refine lv_as (y := 119) hs ?_
    refine lv_bipush (v := 119) hx hb dX6_wantedFrom_16 (by decide) ?_
    refine lv_icmp_ne (tgt := 30) hx hb dX6_wantedFrom_18 (by decide) (fun b18 => ?_) (fun b18 => ?_)
    · skip
      exact False.elim (by revert b18; decide)
    · skip
      refine lv_aload_n hx hb dX6_wantedFrom_21 rfl (lv_at hl 0 rfl) ?_
      refine gf S hK hP 0 ml_0 fX6_26 (v := .ref (ad 5)) mr_5 dX6_wantedFrom_22 ?_
      refine lv_iload_n hx hb dX6_wantedFrom_25 rfl (lv_at hl 1 rfl) ?_
      refine ild S hK hP 5 ml_5 (j := j) (by omega) (Nat.le_of_ble_eq_true rfl) dX6_wantedFrom_26 ?_
      refine lv_as (y := r 5 j) rfl ?_
      refine lv_goto (tgt := 35) hx hb dX6_wantedFrom_27 (by decide) ?_
      exact eMi S hr hlk hP hD hS dX6_wantedFrom_35 rfl rfl
  · skip
    exact False.elim (by revert b5; decide)

set_option maxHeartbeats 4000000 in
set_option maxRecDepth 100000 in
theorem rr_wantedFrom2 (l : Launch) (dg : va_G) (cA : Nat → ClassId) (ad : Nat → Nat) (r : St) (n : Nat) (hn : r 0 3 = nI n) (hn24 : n ≤ 24) (j : Nat) (hj : j < n) (hs : ¬ r 4 j = 119) (sz : Nat) : MetM l dg cA yX6_wantedFrom cX6_wantedFrom 2 (some .int) ({ frames := 2, cells := 0, slots := 0, locals := 43 } : Room) 0 0 (mw cA ad r) sz [.ref (ad 0), .int (nI j)] (mw cA ad (up r 0 0 2)) (some (.int 0)) := by
  refine ofM (by decide) (Nat.le_of_ble_eq_true rfl) (own := RX6) rfl (fun p e s0 m args below meth ccd ls A hAe S hr hlk hname hargs hK hP hD hS hA hsz hl => ?_)
  have hx := S.1
  have hb := S.2.1
  have hl : lv_has ls 2 [(0, .ref (ad 0)), (1, .int (nI j))] := hl
  refine lv_aload_n hx hb dX6_wantedFrom_0 rfl (lv_at hl 0 rfl) ?_
  refine lv_iload_n hx hb dX6_wantedFrom_1 rfl (lv_at hl 1 rfl) ?_
  refine cM S (rr_isHouse1 l dg cA ad r n hn hn24 j hj _) kX6_133 ⟨rfl, rfl, Nat.le_of_ble_eq_true rfl, Nat.le_of_ble_eq_true rfl⟩ hK hP hD hS hA 0 ml_0 (q := (RX6, TX6, 31)) rfl rfl (As := [.int (nI j)]) rfl hl.1 (rest := []) rfl (Nat.le_of_ble_eq_true rfl) dX6_wantedFrom_2 ⟨Nat.le_of_ble_eq_true rfl, Nat.le_of_ble_eq_true rfl⟩ (st1 := [.int 1]) rfl (fun H locs hP hD hS => ?_)
  refine lv_if_ne (tgt := 10) hx hb dX6_wantedFrom_5 (by decide) (fun b5 => ?_) (fun b5 => ?_)
  · skip
    refine lv_aload_n hx hb dX6_wantedFrom_10 rfl (lv_at hl 0 rfl) ?_
    refine gf S hK hP 0 ml_0 fX6_23 (v := .ref (ad 4)) mr_4 dX6_wantedFrom_11 ?_
    refine lv_iload_n hx hb dX6_wantedFrom_14 rfl (lv_at hl 1 rfl) ?_
    refine ild S hK hP 4 ml_4 (j := j) (by omega) (Nat.le_of_ble_eq_true rfl) dX6_wantedFrom_15 ?_
    refine lv_as (y := r 4 j) rfl ?_
    refine lv_bipush (v := 119) hx hb dX6_wantedFrom_16 (by decide) ?_
    refine lv_icmp_ne (tgt := 30) hx hb dX6_wantedFrom_18 (by decide) (fun b18 => ?_) (fun b18 => ?_)
    · skip
      refine lv_aload_n hx hb dX6_wantedFrom_30 rfl (lv_at hl 0 rfl) ?_
      refine lv_iconst (v := 2) hx hb dX6_wantedFrom_31 (by decide) ?_
      refine cM S (rr_fails l dg cA ad (up r 0 0 0) 2 _) kX6_104 ⟨rfl, rfl, Nat.le_of_ble_eq_true rfl, Nat.le_of_ble_eq_true rfl⟩ hK hP hD hS hA 0 ml_0 (q := (RX6, TX6, 31)) rfl rfl (As := [.int 2]) rfl hl.1 (rest := []) rfl (Nat.le_of_ble_eq_true rfl) dX6_wantedFrom_32 ⟨Nat.le_of_ble_eq_true rfl, Nat.le_of_ble_eq_true rfl⟩ (st1 := [.int 0]) rfl (fun H locs hP hD hS => ?_)
      exact eMi S hr hlk hP hD hS dX6_wantedFrom_35 rfl up_twice_mw
    · skip
      exact absurd b18 hs
  · skip
    exact False.elim (by revert b5; decide)

set_option maxHeartbeats 4000000 in
set_option maxRecDepth 100000 in
theorem rr_wantedFrom0 (l : Launch) (dg : va_G) (cA : Nat → ClassId) (ad : Nat → Nat) (r : St) (n : Nat) (hn : r 0 3 = nI n) (hn24 : n ≤ 24) (v : Int32) (hv : v < 0 ∨ nI n ≤ v) (sz : Nat) : MetM l dg cA yX6_wantedFrom cX6_wantedFrom 2 (some .int) ({ frames := 2, cells := 0, slots := 0, locals := 43 } : Room) 0 0 (mw cA ad r) sz [.ref (ad 0), .int v] (mw cA ad (up r 0 0 1)) (some (.int 0)) := by
  refine ofM (by decide) (Nat.le_of_ble_eq_true rfl) (own := RX6) rfl (fun p e s0 m args below meth ccd ls A hAe S hr hlk hname hargs hK hP hD hS hA hsz hl => ?_)
  have hx := S.1
  have hb := S.2.1
  have hl : lv_has ls 2 [(0, .ref (ad 0)), (1, .int v)] := hl
  refine lv_aload_n hx hb dX6_wantedFrom_0 rfl (lv_at hl 0 rfl) ?_
  refine lv_iload_n hx hb dX6_wantedFrom_1 rfl (lv_at hl 1 rfl) ?_
  refine cM S (rr_isHouse0 l dg cA ad r n hn hn24 v hv _) kX6_133 ⟨rfl, rfl, Nat.le_of_ble_eq_true rfl, Nat.le_of_ble_eq_true rfl⟩ hK hP hD hS hA 0 ml_0 (q := (RX6, TX6, 31)) rfl rfl (As := [.int v]) rfl hl.1 (rest := []) rfl (Nat.le_of_ble_eq_true rfl) dX6_wantedFrom_2 ⟨Nat.le_of_ble_eq_true rfl, Nat.le_of_ble_eq_true rfl⟩ (st1 := [.int 0]) rfl (fun H locs hP hD hS => ?_)
  refine lv_if_ne (tgt := 10) hx hb dX6_wantedFrom_5 (by decide) (fun b5 => ?_) (fun b5 => ?_)
  · skip
    exact False.elim (by revert b5; decide)
  · skip
    refine lv_iconst (v := 0) hx hb dX6_wantedFrom_8 (by decide) ?_
    exact eMi S hr hlk hP hD hS dX6_wantedFrom_9 rfl rfl

set_option maxHeartbeats 4000000 in
set_option maxRecDepth 100000 in
theorem rr_answerOf1 (l : Launch) (dg : va_G) (cA : Nat → ClassId) (ad : Nat → Nat) (r : St) (n : Nat) (hn : r 0 3 = nI n) (hn24 : n ≤ 24) (j : Nat) (hj : j < n) (hs : r 4 j = 97) (sz : Nat) : MetM l dg cA yX6_answerOf cX6_answerOf 2 (some .int) ({ frames := 2, cells := 0, slots := 0, locals := 43 } : Room) 0 0 (mw cA ad r) sz [.ref (ad 0), .int (nI j)] (mw cA ad (up r 0 0 0)) (some (.int (r 10 j))) := by
  refine ofM (by decide) (Nat.le_of_ble_eq_true rfl) (own := RX6) rfl (fun p e s0 m args below meth ccd ls A hAe S hr hlk hname hargs hK hP hD hS hA hsz hl => ?_)
  have hx := S.1
  have hb := S.2.1
  have hl : lv_has ls 2 [(0, .ref (ad 0)), (1, .int (nI j))] := hl
  refine lv_aload_n hx hb dX6_answerOf_0 rfl (lv_at hl 0 rfl) ?_
  refine lv_iload_n hx hb dX6_answerOf_1 rfl (lv_at hl 1 rfl) ?_
  refine cM S (rr_isHouse1 l dg cA ad r n hn hn24 j hj _) kX6_133 ⟨rfl, rfl, Nat.le_of_ble_eq_true rfl, Nat.le_of_ble_eq_true rfl⟩ hK hP hD hS hA 0 ml_0 (q := (RX6, TX6, 31)) rfl rfl (As := [.int (nI j)]) rfl hl.1 (rest := []) rfl (Nat.le_of_ble_eq_true rfl) dX6_answerOf_2 ⟨Nat.le_of_ble_eq_true rfl, Nat.le_of_ble_eq_true rfl⟩ (st1 := [.int 1]) rfl (fun H locs hP hD hS => ?_)
  refine lv_if_ne (tgt := 10) hx hb dX6_answerOf_5 (by decide) (fun b5 => ?_) (fun b5 => ?_)
  · skip
    refine lv_aload_n hx hb dX6_answerOf_10 rfl (lv_at hl 0 rfl) ?_
    refine gf S hK hP 0 ml_0 fX6_23 (v := .ref (ad 4)) mr_4 dX6_answerOf_11 ?_
    refine lv_iload_n hx hb dX6_answerOf_14 rfl (lv_at hl 1 rfl) ?_
    refine ild S hK hP 4 ml_4 (j := j) (by omega) (Nat.le_of_ble_eq_true rfl) dX6_answerOf_15 ?_
    refine lv_as (y := 97) hs ?_
    refine lv_bipush (v := 97) hx hb dX6_answerOf_16 (by decide) ?_
    refine lv_icmp_ne (tgt := 30) hx hb dX6_answerOf_18 (by decide) (fun b18 => ?_) (fun b18 => ?_)
    · skip
      exact False.elim (by revert b18; decide)
    · skip
      refine lv_aload_n hx hb dX6_answerOf_21 rfl (lv_at hl 0 rfl) ?_
      refine gf S hK hP 0 ml_0 fX6_41 (v := .ref (ad 10)) mr_10 dX6_answerOf_22 ?_
      refine lv_iload_n hx hb dX6_answerOf_25 rfl (lv_at hl 1 rfl) ?_
      refine ild S hK hP 10 ml_10 (j := j) (by omega) (Nat.le_of_ble_eq_true rfl) dX6_answerOf_26 ?_
      refine lv_as (y := r 10 j) rfl ?_
      refine lv_goto (tgt := 35) hx hb dX6_answerOf_27 (by decide) ?_
      exact eMi S hr hlk hP hD hS dX6_answerOf_35 rfl rfl
  · skip
    exact False.elim (by revert b5; decide)

set_option maxHeartbeats 4000000 in
set_option maxRecDepth 100000 in
theorem rr_answerOf2 (l : Launch) (dg : va_G) (cA : Nat → ClassId) (ad : Nat → Nat) (r : St) (n : Nat) (hn : r 0 3 = nI n) (hn24 : n ≤ 24) (j : Nat) (hj : j < n) (hs : ¬ r 4 j = 97) (sz : Nat) : MetM l dg cA yX6_answerOf cX6_answerOf 2 (some .int) ({ frames := 2, cells := 0, slots := 0, locals := 43 } : Room) 0 0 (mw cA ad r) sz [.ref (ad 0), .int (nI j)] (mw cA ad (up r 0 0 2)) (some (.int 0)) := by
  refine ofM (by decide) (Nat.le_of_ble_eq_true rfl) (own := RX6) rfl (fun p e s0 m args below meth ccd ls A hAe S hr hlk hname hargs hK hP hD hS hA hsz hl => ?_)
  have hx := S.1
  have hb := S.2.1
  have hl : lv_has ls 2 [(0, .ref (ad 0)), (1, .int (nI j))] := hl
  refine lv_aload_n hx hb dX6_answerOf_0 rfl (lv_at hl 0 rfl) ?_
  refine lv_iload_n hx hb dX6_answerOf_1 rfl (lv_at hl 1 rfl) ?_
  refine cM S (rr_isHouse1 l dg cA ad r n hn hn24 j hj _) kX6_133 ⟨rfl, rfl, Nat.le_of_ble_eq_true rfl, Nat.le_of_ble_eq_true rfl⟩ hK hP hD hS hA 0 ml_0 (q := (RX6, TX6, 31)) rfl rfl (As := [.int (nI j)]) rfl hl.1 (rest := []) rfl (Nat.le_of_ble_eq_true rfl) dX6_answerOf_2 ⟨Nat.le_of_ble_eq_true rfl, Nat.le_of_ble_eq_true rfl⟩ (st1 := [.int 1]) rfl (fun H locs hP hD hS => ?_)
  refine lv_if_ne (tgt := 10) hx hb dX6_answerOf_5 (by decide) (fun b5 => ?_) (fun b5 => ?_)
  · skip
    refine lv_aload_n hx hb dX6_answerOf_10 rfl (lv_at hl 0 rfl) ?_
    refine gf S hK hP 0 ml_0 fX6_23 (v := .ref (ad 4)) mr_4 dX6_answerOf_11 ?_
    refine lv_iload_n hx hb dX6_answerOf_14 rfl (lv_at hl 1 rfl) ?_
    refine ild S hK hP 4 ml_4 (j := j) (by omega) (Nat.le_of_ble_eq_true rfl) dX6_answerOf_15 ?_
    refine lv_as (y := r 4 j) rfl ?_
    refine lv_bipush (v := 97) hx hb dX6_answerOf_16 (by decide) ?_
    refine lv_icmp_ne (tgt := 30) hx hb dX6_answerOf_18 (by decide) (fun b18 => ?_) (fun b18 => ?_)
    · skip
      refine lv_aload_n hx hb dX6_answerOf_30 rfl (lv_at hl 0 rfl) ?_
      refine lv_iconst (v := 2) hx hb dX6_answerOf_31 (by decide) ?_
      refine cM S (rr_fails l dg cA ad (up r 0 0 0) 2 _) kX6_104 ⟨rfl, rfl, Nat.le_of_ble_eq_true rfl, Nat.le_of_ble_eq_true rfl⟩ hK hP hD hS hA 0 ml_0 (q := (RX6, TX6, 31)) rfl rfl (As := [.int 2]) rfl hl.1 (rest := []) rfl (Nat.le_of_ble_eq_true rfl) dX6_answerOf_32 ⟨Nat.le_of_ble_eq_true rfl, Nat.le_of_ble_eq_true rfl⟩ (st1 := [.int 0]) rfl (fun H locs hP hD hS => ?_)
      exact eMi S hr hlk hP hD hS dX6_answerOf_35 rfl up_twice_mw
    · skip
      exact absurd b18 hs
  · skip
    exact False.elim (by revert b5; decide)

set_option maxHeartbeats 4000000 in
set_option maxRecDepth 100000 in
theorem rr_answerOf0 (l : Launch) (dg : va_G) (cA : Nat → ClassId) (ad : Nat → Nat) (r : St) (n : Nat) (hn : r 0 3 = nI n) (hn24 : n ≤ 24) (v : Int32) (hv : v < 0 ∨ nI n ≤ v) (sz : Nat) : MetM l dg cA yX6_answerOf cX6_answerOf 2 (some .int) ({ frames := 2, cells := 0, slots := 0, locals := 43 } : Room) 0 0 (mw cA ad r) sz [.ref (ad 0), .int v] (mw cA ad (up r 0 0 1)) (some (.int 0)) := by
  refine ofM (by decide) (Nat.le_of_ble_eq_true rfl) (own := RX6) rfl (fun p e s0 m args below meth ccd ls A hAe S hr hlk hname hargs hK hP hD hS hA hsz hl => ?_)
  have hx := S.1
  have hb := S.2.1
  have hl : lv_has ls 2 [(0, .ref (ad 0)), (1, .int v)] := hl
  refine lv_aload_n hx hb dX6_answerOf_0 rfl (lv_at hl 0 rfl) ?_
  refine lv_iload_n hx hb dX6_answerOf_1 rfl (lv_at hl 1 rfl) ?_
  refine cM S (rr_isHouse0 l dg cA ad r n hn hn24 v hv _) kX6_133 ⟨rfl, rfl, Nat.le_of_ble_eq_true rfl, Nat.le_of_ble_eq_true rfl⟩ hK hP hD hS hA 0 ml_0 (q := (RX6, TX6, 31)) rfl rfl (As := [.int v]) rfl hl.1 (rest := []) rfl (Nat.le_of_ble_eq_true rfl) dX6_answerOf_2 ⟨Nat.le_of_ble_eq_true rfl, Nat.le_of_ble_eq_true rfl⟩ (st1 := [.int 0]) rfl (fun H locs hP hD hS => ?_)
  refine lv_if_ne (tgt := 10) hx hb dX6_answerOf_5 (by decide) (fun b5 => ?_) (fun b5 => ?_)
  · skip
    exact False.elim (by revert b5; decide)
  · skip
    refine lv_iconst (v := 0) hx hb dX6_answerOf_8 (by decide) ?_
    exact eMi S hr hlk hP hD hS dX6_answerOf_9 rfl rfl

set_option maxHeartbeats 4000000 in
set_option maxRecDepth 100000 in
theorem rr_codeOf_u (l : Launch) (dg : va_G) (cA : Nat → ClassId) (ad : Nat → Nat) (r : St) (n : Nat) (hn : r 0 3 = nI n) (hn24 : n ≤ 24) (j : Nat) (hj : j < n) (hs : r 4 j = 117) (sz : Nat) : MetM l dg cA yX6_codeOf cX6_codeOf 2 (some .int) ({ frames := 2, cells := 0, slots := 0, locals := 43 } : Room) 0 0 (mw cA ad r) sz [.ref (ad 0), .int (nI j)] (mw cA ad (up r 0 0 0)) (some (.int (0))) := by
  refine ofM (by decide) (Nat.le_of_ble_eq_true rfl) (own := RX6) rfl (fun p e s0 m args below meth ccd ls A hAe S hr hlk hname hargs hK hP hD hS hA hsz hl => ?_)
  have hx := S.1
  have hb := S.2.1
  have hl : lv_has ls 2 [(0, .ref (ad 0)), (1, .int (nI j))] := hl
  refine lv_aload_n hx hb dX6_codeOf_0 rfl (lv_at hl 0 rfl) ?_
  refine lv_iload_n hx hb dX6_codeOf_1 rfl (lv_at hl 1 rfl) ?_
  refine cM S (rr_isHouse1 l dg cA ad r n hn hn24 j hj _) kX6_133 ⟨rfl, rfl, Nat.le_of_ble_eq_true rfl, Nat.le_of_ble_eq_true rfl⟩ hK hP hD hS hA 0 ml_0 (q := (RX6, TX6, 31)) rfl rfl (As := [.int (nI j)]) rfl hl.1 (rest := []) rfl (Nat.le_of_ble_eq_true rfl) dX6_codeOf_2 ⟨Nat.le_of_ble_eq_true rfl, Nat.le_of_ble_eq_true rfl⟩ (st1 := [.int 1]) rfl (fun H locs hP hD hS => ?_)
  refine lv_if_ne (tgt := 10) hx hb dX6_codeOf_5 (by decide) (fun b5 => ?_) (fun b5 => ?_)
  · skip
    refine lv_aload_n hx hb dX6_codeOf_10 rfl (lv_at hl 0 rfl) ?_
    refine gf S hK hP 0 ml_0 fX6_23 (v := .ref (ad 4)) mr_4 dX6_codeOf_11 ?_
    refine lv_iload_n hx hb dX6_codeOf_14 rfl (lv_at hl 1 rfl) ?_
    refine ild S hK hP 4 ml_4 (j := j) (by omega) (Nat.le_of_ble_eq_true rfl) dX6_codeOf_15 ?_
    refine lv_as (y := 117) hs ?_
    refine lv_lookup (tgt := 68) (off := 52) hx hb dX6_codeOf_16 (by decide) (by decide) (by decide) ?_
    refine lv_iconst (v := 0) hx hb dX6_codeOf_68 (by decide) ?_
    exact eMi S hr hlk hP hD hS dX6_codeOf_69 rfl rfl
  · skip
    exact False.elim (by revert b5; decide)

set_option maxHeartbeats 4000000 in
set_option maxRecDepth 100000 in
theorem rr_codeOf_w (l : Launch) (dg : va_G) (cA : Nat → ClassId) (ad : Nat → Nat) (r : St) (n : Nat) (hn : r 0 3 = nI n) (hn24 : n ≤ 24) (j : Nat) (hj : j < n) (hs : r 4 j = 119) (sz : Nat) : MetM l dg cA yX6_codeOf cX6_codeOf 2 (some .int) ({ frames := 2, cells := 0, slots := 0, locals := 43 } : Room) 0 0 (mw cA ad r) sz [.ref (ad 0), .int (nI j)] (mw cA ad (up r 0 0 0)) (some (.int (300 + r 6 j))) := by
  refine ofM (by decide) (Nat.le_of_ble_eq_true rfl) (own := RX6) rfl (fun p e s0 m args below meth ccd ls A hAe S hr hlk hname hargs hK hP hD hS hA hsz hl => ?_)
  have hx := S.1
  have hb := S.2.1
  have hl : lv_has ls 2 [(0, .ref (ad 0)), (1, .int (nI j))] := hl
  refine lv_aload_n hx hb dX6_codeOf_0 rfl (lv_at hl 0 rfl) ?_
  refine lv_iload_n hx hb dX6_codeOf_1 rfl (lv_at hl 1 rfl) ?_
  refine cM S (rr_isHouse1 l dg cA ad r n hn hn24 j hj _) kX6_133 ⟨rfl, rfl, Nat.le_of_ble_eq_true rfl, Nat.le_of_ble_eq_true rfl⟩ hK hP hD hS hA 0 ml_0 (q := (RX6, TX6, 31)) rfl rfl (As := [.int (nI j)]) rfl hl.1 (rest := []) rfl (Nat.le_of_ble_eq_true rfl) dX6_codeOf_2 ⟨Nat.le_of_ble_eq_true rfl, Nat.le_of_ble_eq_true rfl⟩ (st1 := [.int 1]) rfl (fun H locs hP hD hS => ?_)
  refine lv_if_ne (tgt := 10) hx hb dX6_codeOf_5 (by decide) (fun b5 => ?_) (fun b5 => ?_)
  · skip
    refine lv_aload_n hx hb dX6_codeOf_10 rfl (lv_at hl 0 rfl) ?_
    refine gf S hK hP 0 ml_0 fX6_23 (v := .ref (ad 4)) mr_4 dX6_codeOf_11 ?_
    refine lv_iload_n hx hb dX6_codeOf_14 rfl (lv_at hl 1 rfl) ?_
    refine ild S hK hP 4 ml_4 (j := j) (by omega) (Nat.le_of_ble_eq_true rfl) dX6_codeOf_15 ?_
    refine lv_as (y := 119) hs ?_
    refine lv_lookup (tgt := 70) (off := 54) hx hb dX6_codeOf_16 (by decide) (by decide) (by decide) ?_
    refine lv_sipush (v := 300) hx hb dX6_codeOf_70 (by decide) ?_
    refine lv_aload_n hx hb dX6_codeOf_73 rfl (lv_at hl 0 rfl) ?_
    refine gf S hK hP 0 ml_0 fX6_29 (v := .ref (ad 6)) mr_6 dX6_codeOf_74 ?_
    refine lv_iload_n hx hb dX6_codeOf_77 rfl (lv_at hl 1 rfl) ?_
    refine ild S hK hP 6 ml_6 (j := j) (by omega) (Nat.le_of_ble_eq_true rfl) dX6_codeOf_78 ?_
    refine lv_as (y := r 6 j) rfl ?_
    refine lv_iadd hx hb dX6_codeOf_79 ?_
    exact eMi S hr hlk hP hD hS dX6_codeOf_80 rfl rfl
  · skip
    exact False.elim (by revert b5; decide)

set_option maxHeartbeats 4000000 in
set_option maxRecDepth 100000 in
theorem rr_codeOf_r (l : Launch) (dg : va_G) (cA : Nat → ClassId) (ad : Nat → Nat) (r : St) (n : Nat) (hn : r 0 3 = nI n) (hn24 : n ≤ 24) (j : Nat) (hj : j < n) (hs : r 4 j = 114) (sz : Nat) : MetM l dg cA yX6_codeOf cX6_codeOf 2 (some .int) ({ frames := 2, cells := 0, slots := 0, locals := 43 } : Room) 0 0 (mw cA ad r) sz [.ref (ad 0), .int (nI j)] (mw cA ad (up r 0 0 0)) (some (.int (210))) := by
  refine ofM (by decide) (Nat.le_of_ble_eq_true rfl) (own := RX6) rfl (fun p e s0 m args below meth ccd ls A hAe S hr hlk hname hargs hK hP hD hS hA hsz hl => ?_)
  have hx := S.1
  have hb := S.2.1
  have hl : lv_has ls 2 [(0, .ref (ad 0)), (1, .int (nI j))] := hl
  refine lv_aload_n hx hb dX6_codeOf_0 rfl (lv_at hl 0 rfl) ?_
  refine lv_iload_n hx hb dX6_codeOf_1 rfl (lv_at hl 1 rfl) ?_
  refine cM S (rr_isHouse1 l dg cA ad r n hn hn24 j hj _) kX6_133 ⟨rfl, rfl, Nat.le_of_ble_eq_true rfl, Nat.le_of_ble_eq_true rfl⟩ hK hP hD hS hA 0 ml_0 (q := (RX6, TX6, 31)) rfl rfl (As := [.int (nI j)]) rfl hl.1 (rest := []) rfl (Nat.le_of_ble_eq_true rfl) dX6_codeOf_2 ⟨Nat.le_of_ble_eq_true rfl, Nat.le_of_ble_eq_true rfl⟩ (st1 := [.int 1]) rfl (fun H locs hP hD hS => ?_)
  refine lv_if_ne (tgt := 10) hx hb dX6_codeOf_5 (by decide) (fun b5 => ?_) (fun b5 => ?_)
  · skip
    refine lv_aload_n hx hb dX6_codeOf_10 rfl (lv_at hl 0 rfl) ?_
    refine gf S hK hP 0 ml_0 fX6_23 (v := .ref (ad 4)) mr_4 dX6_codeOf_11 ?_
    refine lv_iload_n hx hb dX6_codeOf_14 rfl (lv_at hl 1 rfl) ?_
    refine ild S hK hP 4 ml_4 (j := j) (by omega) (Nat.le_of_ble_eq_true rfl) dX6_codeOf_15 ?_
    refine lv_as (y := 114) hs ?_
    refine lv_lookup (tgt := 99) (off := 83) hx hb dX6_codeOf_16 (by decide) (by decide) (by decide) ?_
    refine lv_sipush (v := 210) hx hb dX6_codeOf_99 (by decide) ?_
    exact eMi S hr hlk hP hD hS dX6_codeOf_102 rfl rfl
  · skip
    exact False.elim (by revert b5; decide)

set_option maxHeartbeats 4000000 in
set_option maxRecDepth 100000 in
theorem rr_codeOf_g (l : Launch) (dg : va_G) (cA : Nat → ClassId) (ad : Nat → Nat) (r : St) (n : Nat) (hn : r 0 3 = nI n) (hn24 : n ≤ 24) (j : Nat) (hj : j < n) (hs : r 4 j = 103) (sz : Nat) : MetM l dg cA yX6_codeOf cX6_codeOf 2 (some .int) ({ frames := 2, cells := 0, slots := 0, locals := 43 } : Room) 0 0 (mw cA ad r) sz [.ref (ad 0), .int (nI j)] (mw cA ad (up r 0 0 0)) (some (.int (220))) := by
  refine ofM (by decide) (Nat.le_of_ble_eq_true rfl) (own := RX6) rfl (fun p e s0 m args below meth ccd ls A hAe S hr hlk hname hargs hK hP hD hS hA hsz hl => ?_)
  have hx := S.1
  have hb := S.2.1
  have hl : lv_has ls 2 [(0, .ref (ad 0)), (1, .int (nI j))] := hl
  refine lv_aload_n hx hb dX6_codeOf_0 rfl (lv_at hl 0 rfl) ?_
  refine lv_iload_n hx hb dX6_codeOf_1 rfl (lv_at hl 1 rfl) ?_
  refine cM S (rr_isHouse1 l dg cA ad r n hn hn24 j hj _) kX6_133 ⟨rfl, rfl, Nat.le_of_ble_eq_true rfl, Nat.le_of_ble_eq_true rfl⟩ hK hP hD hS hA 0 ml_0 (q := (RX6, TX6, 31)) rfl rfl (As := [.int (nI j)]) rfl hl.1 (rest := []) rfl (Nat.le_of_ble_eq_true rfl) dX6_codeOf_2 ⟨Nat.le_of_ble_eq_true rfl, Nat.le_of_ble_eq_true rfl⟩ (st1 := [.int 1]) rfl (fun H locs hP hD hS => ?_)
  refine lv_if_ne (tgt := 10) hx hb dX6_codeOf_5 (by decide) (fun b5 => ?_) (fun b5 => ?_)
  · skip
    refine lv_aload_n hx hb dX6_codeOf_10 rfl (lv_at hl 0 rfl) ?_
    refine gf S hK hP 0 ml_0 fX6_23 (v := .ref (ad 4)) mr_4 dX6_codeOf_11 ?_
    refine lv_iload_n hx hb dX6_codeOf_14 rfl (lv_at hl 1 rfl) ?_
    refine ild S hK hP 4 ml_4 (j := j) (by omega) (Nat.le_of_ble_eq_true rfl) dX6_codeOf_15 ?_
    refine lv_as (y := 103) hs ?_
    refine lv_lookup (tgt := 103) (off := 87) hx hb dX6_codeOf_16 (by decide) (by decide) (by decide) ?_
    refine lv_sipush (v := 220) hx hb dX6_codeOf_103 (by decide) ?_
    exact eMi S hr hlk hP hD hS dX6_codeOf_106 rfl rfl
  · skip
    exact False.elim (by revert b5; decide)

set_option maxHeartbeats 4000000 in
set_option maxRecDepth 100000 in
theorem rr_codeOf_e (l : Launch) (dg : va_G) (cA : Nat → ClassId) (ad : Nat → Nat) (r : St) (n : Nat) (hn : r 0 3 = nI n) (hn24 : n ≤ 24) (j : Nat) (hj : j < n) (hs : r 4 j = 101) (sz : Nat) : MetM l dg cA yX6_codeOf cX6_codeOf 2 (some .int) ({ frames := 2, cells := 0, slots := 0, locals := 43 } : Room) 0 0 (mw cA ad r) sz [.ref (ad 0), .int (nI j)] (mw cA ad (up r 0 0 0)) (some (.int (400))) := by
  refine ofM (by decide) (Nat.le_of_ble_eq_true rfl) (own := RX6) rfl (fun p e s0 m args below meth ccd ls A hAe S hr hlk hname hargs hK hP hD hS hA hsz hl => ?_)
  have hx := S.1
  have hb := S.2.1
  have hl : lv_has ls 2 [(0, .ref (ad 0)), (1, .int (nI j))] := hl
  refine lv_aload_n hx hb dX6_codeOf_0 rfl (lv_at hl 0 rfl) ?_
  refine lv_iload_n hx hb dX6_codeOf_1 rfl (lv_at hl 1 rfl) ?_
  refine cM S (rr_isHouse1 l dg cA ad r n hn hn24 j hj _) kX6_133 ⟨rfl, rfl, Nat.le_of_ble_eq_true rfl, Nat.le_of_ble_eq_true rfl⟩ hK hP hD hS hA 0 ml_0 (q := (RX6, TX6, 31)) rfl rfl (As := [.int (nI j)]) rfl hl.1 (rest := []) rfl (Nat.le_of_ble_eq_true rfl) dX6_codeOf_2 ⟨Nat.le_of_ble_eq_true rfl, Nat.le_of_ble_eq_true rfl⟩ (st1 := [.int 1]) rfl (fun H locs hP hD hS => ?_)
  refine lv_if_ne (tgt := 10) hx hb dX6_codeOf_5 (by decide) (fun b5 => ?_) (fun b5 => ?_)
  · skip
    refine lv_aload_n hx hb dX6_codeOf_10 rfl (lv_at hl 0 rfl) ?_
    refine gf S hK hP 0 ml_0 fX6_23 (v := .ref (ad 4)) mr_4 dX6_codeOf_11 ?_
    refine lv_iload_n hx hb dX6_codeOf_14 rfl (lv_at hl 1 rfl) ?_
    refine ild S hK hP 4 ml_4 (j := j) (by omega) (Nat.le_of_ble_eq_true rfl) dX6_codeOf_15 ?_
    refine lv_as (y := 101) hs ?_
    refine lv_lookup (tgt := 107) (off := 91) hx hb dX6_codeOf_16 (by decide) (by decide) (by decide) ?_
    refine lv_sipush (v := 400) hx hb dX6_codeOf_107 (by decide) ?_
    exact eMi S hr hlk hP hD hS dX6_codeOf_110 rfl rfl
  · skip
    exact False.elim (by revert b5; decide)

set_option maxHeartbeats 4000000 in
set_option maxRecDepth 100000 in
theorem rr_codeOf_a1 (l : Launch) (dg : va_G) (cA : Nat → ClassId) (ad : Nat → Nat) (r : St) (n : Nat) (hn : r 0 3 = nI n) (hn24 : n ≤ 24) (j : Nat) (hj : j < n) (hs : r 4 j = 97) (ha : r 12 j = 1) (sz : Nat) : MetM l dg cA yX6_codeOf cX6_codeOf 2 (some .int) ({ frames := 2, cells := 0, slots := 0, locals := 43 } : Room) 0 0 (mw cA ad r) sz [.ref (ad 0), .int (nI j)] (mw cA ad (up r 0 0 0)) (some (.int 110)) := by
  refine ofM (by decide) (Nat.le_of_ble_eq_true rfl) (own := RX6) rfl (fun p e s0 m args below meth ccd ls A hAe S hr hlk hname hargs hK hP hD hS hA hsz hl => ?_)
  have hx := S.1
  have hb := S.2.1
  have hl : lv_has ls 2 [(0, .ref (ad 0)), (1, .int (nI j))] := hl
  refine lv_aload_n hx hb dX6_codeOf_0 rfl (lv_at hl 0 rfl) ?_
  refine lv_iload_n hx hb dX6_codeOf_1 rfl (lv_at hl 1 rfl) ?_
  refine cM S (rr_isHouse1 l dg cA ad r n hn hn24 j hj _) kX6_133 ⟨rfl, rfl, Nat.le_of_ble_eq_true rfl, Nat.le_of_ble_eq_true rfl⟩ hK hP hD hS hA 0 ml_0 (q := (RX6, TX6, 31)) rfl rfl (As := [.int (nI j)]) rfl hl.1 (rest := []) rfl (Nat.le_of_ble_eq_true rfl) dX6_codeOf_2 ⟨Nat.le_of_ble_eq_true rfl, Nat.le_of_ble_eq_true rfl⟩ (st1 := [.int 1]) rfl (fun H locs hP hD hS => ?_)
  refine lv_if_ne (tgt := 10) hx hb dX6_codeOf_5 (by decide) (fun b5 => ?_) (fun b5 => ?_)
  · skip
    refine lv_aload_n hx hb dX6_codeOf_10 rfl (lv_at hl 0 rfl) ?_
    refine gf S hK hP 0 ml_0 fX6_23 (v := .ref (ad 4)) mr_4 dX6_codeOf_11 ?_
    refine lv_iload_n hx hb dX6_codeOf_14 rfl (lv_at hl 1 rfl) ?_
    refine ild S hK hP 4 ml_4 (j := j) (by omega) (Nat.le_of_ble_eq_true rfl) dX6_codeOf_15 ?_
    refine lv_as (y := 97) hs ?_
    refine lv_lookup (tgt := 81) (off := 65) hx hb dX6_codeOf_16 (by decide) (by decide) (by decide) ?_
    refine lv_aload_n hx hb dX6_codeOf_81 rfl (lv_at hl 0 rfl) ?_
    refine gf S hK hP 0 ml_0 fX6_47 (v := .ref (ad 12)) mr_12 dX6_codeOf_82 ?_
    refine lv_iload_n hx hb dX6_codeOf_85 rfl (lv_at hl 1 rfl) ?_
    refine ild S hK hP 12 ml_12 (j := j) (by omega) (Nat.le_of_ble_eq_true rfl) dX6_codeOf_86 ?_
    refine lv_as (y := 1) ha ?_
    refine lv_iconst (v := 1) hx hb dX6_codeOf_87 (by decide) ?_
    refine lv_icmp_ne (tgt := 96) hx hb dX6_codeOf_88 (by decide) (fun b88 => ?_) (fun b88 => ?_)
    · skip
      exact False.elim (by revert b88; decide)
    · skip
      refine lv_bipush (v := 110) hx hb dX6_codeOf_91 (by decide) ?_
      refine lv_goto (tgt := 98) hx hb dX6_codeOf_93 (by decide) ?_
      exact eMi S hr hlk hP hD hS dX6_codeOf_98 rfl rfl
  · skip
    exact False.elim (by revert b5; decide)

set_option maxHeartbeats 4000000 in
set_option maxRecDepth 100000 in
theorem rr_codeOf_a2 (l : Launch) (dg : va_G) (cA : Nat → ClassId) (ad : Nat → Nat) (r : St) (n : Nat) (hn : r 0 3 = nI n) (hn24 : n ≤ 24) (j : Nat) (hj : j < n) (hs : r 4 j = 97) (ha : ¬ r 12 j = 1) (sz : Nat) : MetM l dg cA yX6_codeOf cX6_codeOf 2 (some .int) ({ frames := 2, cells := 0, slots := 0, locals := 43 } : Room) 0 0 (mw cA ad r) sz [.ref (ad 0), .int (nI j)] (mw cA ad (up r 0 0 0)) (some (.int 120)) := by
  refine ofM (by decide) (Nat.le_of_ble_eq_true rfl) (own := RX6) rfl (fun p e s0 m args below meth ccd ls A hAe S hr hlk hname hargs hK hP hD hS hA hsz hl => ?_)
  have hx := S.1
  have hb := S.2.1
  have hl : lv_has ls 2 [(0, .ref (ad 0)), (1, .int (nI j))] := hl
  refine lv_aload_n hx hb dX6_codeOf_0 rfl (lv_at hl 0 rfl) ?_
  refine lv_iload_n hx hb dX6_codeOf_1 rfl (lv_at hl 1 rfl) ?_
  refine cM S (rr_isHouse1 l dg cA ad r n hn hn24 j hj _) kX6_133 ⟨rfl, rfl, Nat.le_of_ble_eq_true rfl, Nat.le_of_ble_eq_true rfl⟩ hK hP hD hS hA 0 ml_0 (q := (RX6, TX6, 31)) rfl rfl (As := [.int (nI j)]) rfl hl.1 (rest := []) rfl (Nat.le_of_ble_eq_true rfl) dX6_codeOf_2 ⟨Nat.le_of_ble_eq_true rfl, Nat.le_of_ble_eq_true rfl⟩ (st1 := [.int 1]) rfl (fun H locs hP hD hS => ?_)
  refine lv_if_ne (tgt := 10) hx hb dX6_codeOf_5 (by decide) (fun b5 => ?_) (fun b5 => ?_)
  · skip
    refine lv_aload_n hx hb dX6_codeOf_10 rfl (lv_at hl 0 rfl) ?_
    refine gf S hK hP 0 ml_0 fX6_23 (v := .ref (ad 4)) mr_4 dX6_codeOf_11 ?_
    refine lv_iload_n hx hb dX6_codeOf_14 rfl (lv_at hl 1 rfl) ?_
    refine ild S hK hP 4 ml_4 (j := j) (by omega) (Nat.le_of_ble_eq_true rfl) dX6_codeOf_15 ?_
    refine lv_as (y := 97) hs ?_
    refine lv_lookup (tgt := 81) (off := 65) hx hb dX6_codeOf_16 (by decide) (by decide) (by decide) ?_
    refine lv_aload_n hx hb dX6_codeOf_81 rfl (lv_at hl 0 rfl) ?_
    refine gf S hK hP 0 ml_0 fX6_47 (v := .ref (ad 12)) mr_12 dX6_codeOf_82 ?_
    refine lv_iload_n hx hb dX6_codeOf_85 rfl (lv_at hl 1 rfl) ?_
    refine ild S hK hP 12 ml_12 (j := j) (by omega) (Nat.le_of_ble_eq_true rfl) dX6_codeOf_86 ?_
    refine lv_as (y := r 12 j) rfl ?_
    refine lv_iconst (v := 1) hx hb dX6_codeOf_87 (by decide) ?_
    refine lv_icmp_ne (tgt := 96) hx hb dX6_codeOf_88 (by decide) (fun b88 => ?_) (fun b88 => ?_)
    · skip
      refine lv_bipush (v := 120) hx hb dX6_codeOf_96 (by decide) ?_
      exact eMi S hr hlk hP hD hS dX6_codeOf_98 rfl rfl
    · skip
      exact absurd b88 ha
  · skip
    exact False.elim (by revert b5; decide)

set_option maxHeartbeats 4000000 in
set_option maxRecDepth 100000 in
theorem rr_codeOf0 (l : Launch) (dg : va_G) (cA : Nat → ClassId) (ad : Nat → Nat) (r : St) (n : Nat) (hn : r 0 3 = nI n) (hn24 : n ≤ 24) (v : Int32) (hv : v < 0 ∨ nI n ≤ v) (sz : Nat) : MetM l dg cA yX6_codeOf cX6_codeOf 2 (some .int) ({ frames := 2, cells := 0, slots := 0, locals := 43 } : Room) 0 0 (mw cA ad r) sz [.ref (ad 0), .int v] (mw cA ad (up r 0 0 1)) (some (.int 0)) := by
  refine ofM (by decide) (Nat.le_of_ble_eq_true rfl) (own := RX6) rfl (fun p e s0 m args below meth ccd ls A hAe S hr hlk hname hargs hK hP hD hS hA hsz hl => ?_)
  have hx := S.1
  have hb := S.2.1
  have hl : lv_has ls 2 [(0, .ref (ad 0)), (1, .int v)] := hl
  refine lv_aload_n hx hb dX6_codeOf_0 rfl (lv_at hl 0 rfl) ?_
  refine lv_iload_n hx hb dX6_codeOf_1 rfl (lv_at hl 1 rfl) ?_
  refine cM S (rr_isHouse0 l dg cA ad r n hn hn24 v hv _) kX6_133 ⟨rfl, rfl, Nat.le_of_ble_eq_true rfl, Nat.le_of_ble_eq_true rfl⟩ hK hP hD hS hA 0 ml_0 (q := (RX6, TX6, 31)) rfl rfl (As := [.int v]) rfl hl.1 (rest := []) rfl (Nat.le_of_ble_eq_true rfl) dX6_codeOf_2 ⟨Nat.le_of_ble_eq_true rfl, Nat.le_of_ble_eq_true rfl⟩ (st1 := [.int 0]) rfl (fun H locs hP hD hS => ?_)
  refine lv_if_ne (tgt := 10) hx hb dX6_codeOf_5 (by decide) (fun b5 => ?_) (fun b5 => ?_)
  · skip
    exact False.elim (by revert b5; decide)
  · skip
    refine lv_iconst (v := 0) hx hb dX6_codeOf_8 (by decide) ?_
    exact eMi S hr hlk hP hD hS dX6_codeOf_9 rfl rfl

set_option maxHeartbeats 4000000 in
set_option maxRecDepth 100000 in
theorem rr_roundAt0 (l : Launch) (dg : va_G) (cA : Nat → ClassId) (ad : Nat → Nat) (r : St) (ni : Nat) (hni : r 0 4 = nI ni) (hni4 : ni ≤ 4) (v : Int32) (hv : v < 0 ∨ nI ni ≤ v) (x : Int32) (sz : Nat) : MetM l dg cA yX6_roundAt cX6_roundAt 3 (some .int) ({ frames := 2, cells := 0, slots := 0, locals := 43 } : Room) 0 0 (mw cA ad r) sz [.ref (ad 0), .int v, .int x] (mw cA ad (up r 0 0 1)) (some (.int 0)) := by
  refine ofM (by decide) (Nat.le_of_ble_eq_true rfl) (own := RX6) rfl (fun p e s0 m args below meth ccd ls A hAe S hr hlk hname hargs hK hP hD hS hA hsz hl => ?_)
  have hx := S.1
  have hb := S.2.1
  have hl : lv_has ls 3 [(0, .ref (ad 0)), (1, .int v), (2, .int x)] := hl
  refine lv_aload_n hx hb dX6_roundAt_0 rfl (lv_at hl 0 rfl) ?_
  refine lv_iload_n hx hb dX6_roundAt_1 rfl (lv_at hl 1 rfl) ?_
  refine cM S (rr_isInt0 l dg cA ad r ni hni hni4 v hv _) kX6_129 ⟨rfl, rfl, Nat.le_of_ble_eq_true rfl, Nat.le_of_ble_eq_true rfl⟩ hK hP hD hS hA 0 ml_0 (q := (RX6, TX6, 31)) rfl rfl (As := [.int v]) rfl hl.1 (rest := []) rfl (Nat.le_of_ble_eq_true rfl) dX6_roundAt_2 ⟨Nat.le_of_ble_eq_true rfl, Nat.le_of_ble_eq_true rfl⟩ (st1 := [.int 0]) rfl (fun H locs hP hD hS => ?_)
  refine lv_if_ne (tgt := 10) hx hb dX6_roundAt_5 (by decide) (fun b5 => ?_) (fun b5 => ?_)
  · skip
    exact False.elim (by revert b5; decide)
  · skip
    refine lv_iconst (v := 0) hx hb dX6_roundAt_8 (by decide) ?_
    exact eMi S hr hlk hP hD hS dX6_roundAt_9 rfl rfl

set_option maxHeartbeats 4000000 in
set_option maxRecDepth 100000 in
theorem rr_roundAt2 (l : Launch) (dg : va_G) (cA : Nat → ClassId) (ad : Nat → Nat) (r : St) (ni : Nat) (hni : r 0 4 = nI ni) (hni4 : ni ≤ 4) (i : Nat) (hi : i < ni) (k : Nat) (hk : r 20 i = nI k) (hk24 : k ≤ 24) (x : Int32) (hxx0 : x < 0 ∨ nI k ≤ x) (sz : Nat) : MetM l dg cA yX6_roundAt cX6_roundAt 3 (some .int) ({ frames := 2, cells := 0, slots := 0, locals := 43 } : Room) 0 0 (mw cA ad r) sz [.ref (ad 0), .int (nI i), .int x] (mw cA ad (up r 0 0 2)) (some (.int 0)) := by
  refine ofM (by decide) (Nat.le_of_ble_eq_true rfl) (own := RX6) rfl (fun p e s0 m args below meth ccd ls A hAe S hr hlk hname hargs hK hP hD hS hA hsz hl => ?_)
  have hx := S.1
  have hb := S.2.1
  have hl : lv_has ls 3 [(0, .ref (ad 0)), (1, .int (nI i)), (2, .int x)] := hl
  have hxx := hxx0
  refine lv_aload_n hx hb dX6_roundAt_0 rfl (lv_at hl 0 rfl) ?_
  refine lv_iload_n hx hb dX6_roundAt_1 rfl (lv_at hl 1 rfl) ?_
  refine cM S (rr_isInt1 l dg cA ad r ni hni hni4 i hi _) kX6_129 ⟨rfl, rfl, Nat.le_of_ble_eq_true rfl, Nat.le_of_ble_eq_true rfl⟩ hK hP hD hS hA 0 ml_0 (q := (RX6, TX6, 31)) rfl rfl (As := [.int (nI i)]) rfl hl.1 (rest := []) rfl (Nat.le_of_ble_eq_true rfl) dX6_roundAt_2 ⟨Nat.le_of_ble_eq_true rfl, Nat.le_of_ble_eq_true rfl⟩ (st1 := [.int 1]) rfl (fun H locs hP hD hS => ?_)
  refine lv_if_ne (tgt := 10) hx hb dX6_roundAt_5 (by decide) (fun b5 => ?_) (fun b5 => ?_)
  · skip
    refine lv_iload_n hx hb dX6_roundAt_10 rfl (lv_at hl 2 rfl) ?_
    refine lv_iconst (v := 0) hx hb dX6_roundAt_11 (by decide) ?_
    refine lv_aload_n hx hb dX6_roundAt_12 rfl (lv_at hl 0 rfl) ?_
    refine gf S hK hP 0 ml_0 fX6_72 (v := .ref (ad 20)) mr_20 dX6_roundAt_13 ?_
    refine lv_iload_n hx hb dX6_roundAt_16 rfl (lv_at hl 1 rfl) ?_
    refine ild S hK hP 20 ml_20 (j := i) (by omega) (Nat.le_of_ble_eq_true rfl) dX6_roundAt_17 ?_
    refine lv_as (y := nI k) hk ?_
    refine lv_iconst (v := 1) hx hb dX6_roundAt_18 (by decide) ?_
    refine lv_isub hx hb dX6_roundAt_19 ?_
    refine cRS S (rr_in0 l dg cA (mw cA ad (up r 0 0 0)) x 0 ((nI k) - 1) (idx_bad hxx (by omega))) kX6_96 ⟨rfl, rfl, Nat.le_of_ble_eq_true rfl, Nat.le_of_ble_eq_true rfl⟩ hK hP (As := [.int x, .int 0, .int ((nI k) - 1)]) rfl hl.1 (rest := []) rfl (Nat.le_of_ble_eq_true rfl) dX6_roundAt_20 ⟨Nat.le_of_ble_eq_true rfl, Nat.le_of_ble_eq_true rfl⟩ (st1 := [.int 0]) rfl ?_
    refine lv_if_eq (tgt := 40) hx hb dX6_roundAt_23 (by decide) (fun b23 => ?_) (fun b23 => ?_)
    · skip
      refine lv_aload_n hx hb dX6_roundAt_40 rfl (lv_at hl 0 rfl) ?_
      refine lv_iconst (v := 2) hx hb dX6_roundAt_41 (by decide) ?_
      refine cM S (rr_fails l dg cA ad (up r 0 0 0) 2 _) kX6_104 ⟨rfl, rfl, Nat.le_of_ble_eq_true rfl, Nat.le_of_ble_eq_true rfl⟩ hK hP hD hS hA 0 ml_0 (q := (RX6, TX6, 31)) rfl rfl (As := [.int 2]) rfl hl.1 (rest := []) rfl (Nat.le_of_ble_eq_true rfl) dX6_roundAt_42 ⟨Nat.le_of_ble_eq_true rfl, Nat.le_of_ble_eq_true rfl⟩ (st1 := [.int 0]) rfl (fun H locs hP hD hS => ?_)
      exact eMi S hr hlk hP hD hS dX6_roundAt_45 rfl up_twice_mw
    · skip
      exact False.elim (by revert b23; decide)
  · skip
    exact False.elim (by revert b5; decide)

set_option maxHeartbeats 4000000 in
set_option maxRecDepth 100000 in
theorem rr_roundAt1 (l : Launch) (dg : va_G) (cA : Nat → ClassId) (ad : Nat → Nat) (r : St) (ni : Nat) (hni : r 0 4 = nI ni) (hni4 : ni ≤ 4) (i : Nat) (hi : i < ni) (k : Nat) (hk : r 20 i = nI k) (hk24 : k ≤ 24) (x : Nat) (hxk : x < k) (sz : Nat) : MetM l dg cA yX6_roundAt cX6_roundAt 3 (some .int) ({ frames := 2, cells := 0, slots := 0, locals := 43 } : Room) 0 0 (mw cA ad r) sz [.ref (ad 0), .int (nI i), .int (nI x)] (mw cA ad (up r 0 0 0)) (some (.int (r 19 (24 * i + x)))) := by
  refine ofM (by decide) (Nat.le_of_ble_eq_true rfl) (own := RX6) rfl (fun p e s0 m args below meth ccd ls A hAe S hr hlk hname hargs hK hP hD hS hA hsz hl => ?_)
  have hx := S.1
  have hb := S.2.1
  have hl : lv_has ls 3 [(0, .ref (ad 0)), (1, .int (nI i)), (2, .int (nI x))] := hl
  refine lv_aload_n hx hb dX6_roundAt_0 rfl (lv_at hl 0 rfl) ?_
  refine lv_iload_n hx hb dX6_roundAt_1 rfl (lv_at hl 1 rfl) ?_
  refine cM S (rr_isInt1 l dg cA ad r ni hni hni4 i hi _) kX6_129 ⟨rfl, rfl, Nat.le_of_ble_eq_true rfl, Nat.le_of_ble_eq_true rfl⟩ hK hP hD hS hA 0 ml_0 (q := (RX6, TX6, 31)) rfl rfl (As := [.int (nI i)]) rfl hl.1 (rest := []) rfl (Nat.le_of_ble_eq_true rfl) dX6_roundAt_2 ⟨Nat.le_of_ble_eq_true rfl, Nat.le_of_ble_eq_true rfl⟩ (st1 := [.int 1]) rfl (fun H locs hP hD hS => ?_)
  refine lv_if_ne (tgt := 10) hx hb dX6_roundAt_5 (by decide) (fun b5 => ?_) (fun b5 => ?_)
  · skip
    refine lv_iload_n hx hb dX6_roundAt_10 rfl (lv_at hl 2 rfl) ?_
    refine lv_iconst (v := 0) hx hb dX6_roundAt_11 (by decide) ?_
    refine lv_aload_n hx hb dX6_roundAt_12 rfl (lv_at hl 0 rfl) ?_
    refine gf S hK hP 0 ml_0 fX6_72 (v := .ref (ad 20)) mr_20 dX6_roundAt_13 ?_
    refine lv_iload_n hx hb dX6_roundAt_16 rfl (lv_at hl 1 rfl) ?_
    refine ild S hK hP 20 ml_20 (j := i) (by omega) (Nat.le_of_ble_eq_true rfl) dX6_roundAt_17 ?_
    refine lv_as (y := nI k) hk ?_
    refine lv_iconst (v := 1) hx hb dX6_roundAt_18 (by decide) ?_
    refine lv_isub hx hb dX6_roundAt_19 ?_
    refine cRS S (rr_in1 l dg cA (mw cA ad (up r 0 0 0)) (nI x) 0 ((nI k) - 1) (nI_pos (by omega)) (idx_hi hxk (by omega))) kX6_96 ⟨rfl, rfl, Nat.le_of_ble_eq_true rfl, Nat.le_of_ble_eq_true rfl⟩ hK hP (As := [.int (nI x), .int 0, .int ((nI k) - 1)]) rfl hl.1 (rest := []) rfl (Nat.le_of_ble_eq_true rfl) dX6_roundAt_20 ⟨Nat.le_of_ble_eq_true rfl, Nat.le_of_ble_eq_true rfl⟩ (st1 := [.int 1]) rfl ?_
    refine lv_if_eq (tgt := 40) hx hb dX6_roundAt_23 (by decide) (fun b23 => ?_) (fun b23 => ?_)
    · skip
      exact absurd b23 b5
    · skip
      refine lv_aload_n hx hb dX6_roundAt_26 rfl (lv_at hl 0 rfl) ?_
      refine gf S hK hP 0 ml_0 fX6_69 (v := .ref (ad 19)) mr_19 dX6_roundAt_27 ?_
      refine lv_bipush (v := 24) hx hb dX6_roundAt_30 (by decide) ?_
      refine lv_iload_n hx hb dX6_roundAt_32 rfl (lv_at hl 1 rfl) ?_
      refine lv_imul hx hb dX6_roundAt_33 ?_
      refine lv_as (y := nI (24 * i)) (pk_mul 24 i) ?_
      refine lv_iload_n hx hb dX6_roundAt_34 rfl (lv_at hl 2 rfl) ?_
      refine lv_iadd hx hb dX6_roundAt_35 ?_
      refine lv_as (y := nI (24 * i + x)) (nI_add _ _) ?_
      refine ild S hK hP 19 ml_19 (j := 24 * i + x) (by omega) (Nat.le_of_ble_eq_true rfl) dX6_roundAt_36 ?_
      refine lv_as (y := r 19 (24 * i + x)) rfl ?_
      refine lv_goto (tgt := 45) hx hb dX6_roundAt_37 (by decide) ?_
      exact eMi S hr hlk hP hD hS dX6_roundAt_45 rfl rfl
  · skip
    exact False.elim (by revert b5; decide)

set_option maxHeartbeats 4000000 in
set_option maxRecDepth 100000 in
theorem rr_isOf1 (l : Launch) (dg : va_G) (cA : Nat → ClassId) (ad : Nat → Nat) (r : St) (j : Nat) (hj : j < 24) (k : Int32) : MetR l dg cA yX6_isOf cX6_isOf 4 (some .boolean) ({ frames := 0, cells := 0, slots := 0, locals := 0 } : Room) (mw cA ad r) [.ref (ad 0), .int (nI j), .int k, .int 1] (some (.int (b2 (decide (r 1 j = k))))) := by
  refine ofR (by decide) (Nat.le_of_ble_eq_true rfl) (own := RX6) rfl (fun p e s0 m args below meth ccd ls S hr hlk hargs hK hP hl => ?_)
  have hx := S.1
  have hb := S.2.1
  have hl : lv_has ls 4 [(0, .ref (ad 0)), (1, .int (nI j)), (2, .int k), (3, .int 1)] := hl
  refine lv_iload_n hx hb dX6_isOf_0 rfl (lv_at hl 3 rfl) ?_
  refine lv_if_eq (tgt := 13) hx hb dX6_isOf_1 (by decide) (fun b1 => ?_) (fun b1 => ?_)
  · skip
    exact False.elim (by revert b1; decide)
  · skip
    refine lv_aload_n hx hb dX6_isOf_4 rfl (lv_at hl 0 rfl) ?_
    refine gf S hK hP 0 ml_0 fX6_13 (v := .ref (ad 1)) mr_1 dX6_isOf_5 ?_
    refine lv_iload_n hx hb dX6_isOf_8 rfl (lv_at hl 1 rfl) ?_
    refine ild S hK hP 1 ml_1 (j := j) (by omega) (Nat.le_of_ble_eq_true rfl) dX6_isOf_9 ?_
    refine lv_as (y := r 1 j) rfl ?_
    refine lv_goto (tgt := 19) hx hb dX6_isOf_10 (by decide) ?_
    refine lv_iload_n hx hb dX6_isOf_19 rfl (lv_at hl 2 rfl) ?_
    refine lv_icmp_ne (tgt := 27) hx hb dX6_isOf_20 (by decide) (fun b20 => ?_) (fun b20 => ?_)
    · skip
      refine lv_iconst (v := 0) hx hb dX6_isOf_27 (by decide) ?_
      exact eRz S hr hlk dX6_isOf_28 (by simp [b2, b1, b20]) (b2_nr _)
    · skip
      refine lv_iconst (v := 1) hx hb dX6_isOf_23 (by decide) ?_
      refine lv_goto (tgt := 28) hx hb dX6_isOf_24 (by decide) ?_
      exact eRz S hr hlk dX6_isOf_28 (by simp [b2, b1, b20]) (b2_nr _)

set_option maxHeartbeats 4000000 in
set_option maxRecDepth 100000 in
theorem rr_isOf0 (l : Launch) (dg : va_G) (cA : Nat → ClassId) (ad : Nat → Nat) (r : St) (j : Nat) (hj : j < 24) (k : Int32) : MetR l dg cA yX6_isOf cX6_isOf 4 (some .boolean) ({ frames := 0, cells := 0, slots := 0, locals := 0 } : Room) (mw cA ad r) [.ref (ad 0), .int (nI j), .int k, .int 0] (some (.int (b2 (decide (r 3 j = k))))) := by
  refine ofR (by decide) (Nat.le_of_ble_eq_true rfl) (own := RX6) rfl (fun p e s0 m args below meth ccd ls S hr hlk hargs hK hP hl => ?_)
  have hx := S.1
  have hb := S.2.1
  have hl : lv_has ls 4 [(0, .ref (ad 0)), (1, .int (nI j)), (2, .int k), (3, .int 0)] := hl
  refine lv_iload_n hx hb dX6_isOf_0 rfl (lv_at hl 3 rfl) ?_
  refine lv_if_eq (tgt := 13) hx hb dX6_isOf_1 (by decide) (fun b1 => ?_) (fun b1 => ?_)
  · skip
    refine lv_aload_n hx hb dX6_isOf_13 rfl (lv_at hl 0 rfl) ?_
    refine gf S hK hP 0 ml_0 fX6_20 (v := .ref (ad 3)) mr_3 dX6_isOf_14 ?_
    refine lv_iload_n hx hb dX6_isOf_17 rfl (lv_at hl 1 rfl) ?_
    refine ild S hK hP 3 ml_3 (j := j) (by omega) (Nat.le_of_ble_eq_true rfl) dX6_isOf_18 ?_
    refine lv_as (y := r 3 j) rfl ?_
    refine lv_iload_n hx hb dX6_isOf_19 rfl (lv_at hl 2 rfl) ?_
    refine lv_icmp_ne (tgt := 27) hx hb dX6_isOf_20 (by decide) (fun b20 => ?_) (fun b20 => ?_)
    · skip
      refine lv_iconst (v := 0) hx hb dX6_isOf_27 (by decide) ?_
      exact eRz S hr hlk dX6_isOf_28 (by simp [b2, b1, b20]) (b2_nr _)
    · skip
      refine lv_iconst (v := 1) hx hb dX6_isOf_23 (by decide) ?_
      refine lv_goto (tgt := 28) hx hb dX6_isOf_24 (by decide) ?_
      exact eRz S hr hlk dX6_isOf_28 (by simp [b2, b1, b20]) (b2_nr _)
  · skip
    exact False.elim (by revert b1; decide)

set_option maxHeartbeats 4000000 in
set_option maxRecDepth 100000 in
theorem rr_goal1 (l : Launch) (dg : va_G) (cA : Nat → ClassId) (ad : Nat → Nat) (r : St) (n : Nat) (hn : r 0 3 = nI n) (hn24 : n ≤ 24) (k : Int32) : MetR l dg cA yX6_goal cX6_goal 5 (some .int) ({ frames := 1, cells := 0, slots := 0, locals := 23 } : Room) (mw cA ad r) [.ref (ad 0), .int k, .int 1] (some (.int (m_gl (r 1) (r 4) (r 14) k n))) := by
  refine ofR (by decide) (Nat.le_of_ble_eq_true rfl) (own := RX6) rfl (fun p e s0 m args below meth ccd ls S hr hlk hargs hK hP hl => ?_)
  have hx := S.1
  have hb := S.2.1
  have hl : lv_has ls 5 [(0, .ref (ad 0)), (1, .int k), (2, .int 1)] := hl
  refine lv_iconst (v := 0) hx hb dX6_goal_0 (by decide) ?_
  refine lv_istore_n (lv' := [(3, .int 0), (0, .ref (ad 0)), (1, .int k), (2, .int 1)]) hx hb dX6_goal_1 rfl hl (by decide) rfl (fun ls hl => ?_)
  refine lv_iconst (v := 0) hx hb dX6_goal_2 (by decide) ?_
  refine lv_istore (lv' := [(4, .int 0), (3, .int 0), (0, .ref (ad 0)), (1, .int k), (2, .int 1)]) hx hb dX6_goal_3 hl (by decide) rfl (fun ls hl => ?_)
  have hL5 : ∀ (f : Nat) (j : Nat), n - j < f → (j ≤ n) → ∀ ls, lv_has ls 5 [(0, .ref (ad 0)), (1, .int k), (2, .int 1), (3, .int (m_gl (r 1) (r 4) (r 14) k j)), (4, .int (nI j))] → W p l e ({ frames := 1, cells := 0, slots := 0, locals := 23 } : Room) s0 m args below meth ccd s0.heap [] 0 0 (MQ below (QcR (some (.int (m_gl (r 1) (r 4) (r 14) k n)))) args s0 0 0 (fun _ => False)) (F0 m 5 ls []) := by
    intro f
    induction f with
    | zero => intro j hm; exact absurd hm (Nat.not_lt_zero _)
    | succ f ih5 =>
      intro j hm5 hj ls hl
      refine lv_iload hx hb dX6_goal_5 (lv_at hl 4 rfl) ?_
      refine lv_aload_n hx hb dX6_goal_7 rfl (lv_at hl 0 rfl) ?_
      refine gf S hK hP 0 ml_0 fX6_93 (v := .int (nI n)) (mv_3 hn) dX6_goal_8 ?_
      refine lv_icmp_ge (tgt := 63) hx hb dX6_goal_11 (by decide) (fun b11 => ?_) (fun b11 => ?_)
      · skip
        have g11 : n ≤ j := (nI_leI (a := n) (b := j) (by omega) (by omega)).mp b11
        refine lv_iload_n hx hb dX6_goal_63 rfl (lv_at hl 3 rfl) ?_
        exact eRi S hr hlk dX6_goal_64 (by rw [show j = n by omega])
      · skip
        have g11 : ¬ n ≤ j := fun zz => b11 ((nI_leI (a := n) (b := j) (by omega) (by omega)).mpr zz)
        refine lv_iload_n hx hb dX6_goal_14 rfl (lv_at hl 3 rfl) ?_
        refine lv_aload_n hx hb dX6_goal_15 rfl (lv_at hl 0 rfl) ?_
        refine lv_iload hx hb dX6_goal_16 (lv_at hl 4 rfl) ?_
        refine lv_iload_n hx hb dX6_goal_18 rfl (lv_at hl 1 rfl) ?_
        refine lv_iload_n hx hb dX6_goal_19 rfl (lv_at hl 2 rfl) ?_
        refine cR S (rr_isOf1 l dg cA ad r j (by omega) k) kX6_139 ⟨rfl, rfl, Nat.le_of_ble_eq_true rfl, Nat.le_of_ble_eq_true rfl⟩ hK hP 0 ml_0 (q := (RX6, TX6, 31)) rfl rfl (As := [.int (nI j), .int k, .int 1]) rfl hl.1 (rest := [.int (m_gl (r 1) (r 4) (r 14) k j)]) rfl (Nat.le_of_ble_eq_true rfl) dX6_goal_20 ⟨Nat.le_of_ble_eq_true rfl, Nat.le_of_ble_eq_true rfl⟩ (st1 := [.int (b2 (decide (r 1 j = k))), .int (m_gl (r 1) (r 4) (r 14) k j)]) rfl ?_
        refine lv_if_eq (tgt := 54) hx hb dX6_goal_23 (by decide) (fun b23 => ?_) (fun b23 => ?_)
        · skip
          have c23 := b2d0 b23
          refine lv_iconst (v := 0) hx hb dX6_goal_54 (by decide) ?_
          refine lv_iadd hx hb dX6_goal_55 ?_
          refine lv_istore_n (lv' := [(3, .int ((m_gl (r 1) (r 4) (r 14) k j) + 0)), (0, .ref (ad 0)), (1, .int k), (2, .int 1), (4, .int (nI j))]) hx hb dX6_goal_56 rfl hl (by decide) rfl (fun ls hl => ?_)
          refine lv_iinc (v := nI (j + 1)) (lv' := [(4, .int (nI (j + 1))), (3, .int ((m_gl (r 1) (r 4) (r 14) k j) + 0)), (0, .ref (ad 0)), (1, .int k), (2, .int 1)]) hx hb dX6_goal_57 hl (k := 4) rfl (nI_1 j) (by decide) rfl (fun ls hl => ?_)
          refine lv_goto (tgt := 5) hx hb dX6_goal_60 (by decide) ?_
          exact ih5 (j + 1) (by omega) (by omega) ls (lv_cast (lv_sub (l' := [(0, .ref (ad 0)), (1, .int k), (2, .int 1), (3, .int ((m_gl (r 1) (r 4) (r 14) k j) + 0)), (4, .int (nI (j + 1)))]) hl [2, 3, 4, 1, 0] rfl) (by simp [m_gl, nI_1, b11, c23]))
        · skip
          have c23 := b2d1 b23
          refine lv_aload_n hx hb dX6_goal_26 rfl (lv_at hl 0 rfl) ?_
          refine gf S hK hP 0 ml_0 fX6_23 (v := .ref (ad 4)) mr_4 dX6_goal_27 ?_
          refine lv_iload hx hb dX6_goal_30 (lv_at hl 4 rfl) ?_
          refine ild S hK hP 4 ml_4 (j := j) (by omega) (Nat.le_of_ble_eq_true rfl) dX6_goal_32 ?_
          refine lv_as (y := r 4 j) rfl ?_
          refine lv_bipush (v := 117) hx hb dX6_goal_33 (by decide) ?_
          refine lv_icmp_eq (tgt := 54) hx hb dX6_goal_35 (by decide) (fun b35 => ?_) (fun b35 => ?_)
          · skip
            refine lv_iconst (v := 0) hx hb dX6_goal_54 (by decide) ?_
            refine lv_iadd hx hb dX6_goal_55 ?_
            refine lv_istore_n (lv' := [(3, .int ((m_gl (r 1) (r 4) (r 14) k j) + 0)), (0, .ref (ad 0)), (1, .int k), (2, .int 1), (4, .int (nI j))]) hx hb dX6_goal_56 rfl hl (by decide) rfl (fun ls hl => ?_)
            refine lv_iinc (v := nI (j + 1)) (lv' := [(4, .int (nI (j + 1))), (3, .int ((m_gl (r 1) (r 4) (r 14) k j) + 0)), (0, .ref (ad 0)), (1, .int k), (2, .int 1)]) hx hb dX6_goal_57 hl (k := 4) rfl (nI_1 j) (by decide) rfl (fun ls hl => ?_)
            refine lv_goto (tgt := 5) hx hb dX6_goal_60 (by decide) ?_
            exact ih5 (j + 1) (by omega) (by omega) ls (lv_cast (lv_sub (l' := [(0, .ref (ad 0)), (1, .int k), (2, .int 1), (3, .int ((m_gl (r 1) (r 4) (r 14) k j) + 0)), (4, .int (nI (j + 1)))]) hl [2, 3, 4, 1, 0] rfl) (by simp [m_gl, nI_1, b11, c23, b35]))
          · skip
            refine lv_aload_n hx hb dX6_goal_38 rfl (lv_at hl 0 rfl) ?_
            refine gf S hK hP 0 ml_0 fX6_53 (v := .ref (ad 14)) mr_14 dX6_goal_39 ?_
            refine lv_iload hx hb dX6_goal_42 (lv_at hl 4 rfl) ?_
            refine zld S hK hP 14 ml_14 (j := j) (by omega) (Nat.le_of_ble_eq_true rfl) dX6_goal_44 ?_
            refine lv_as (y := r 14 j) rfl ?_
            refine lv_if_ne (tgt := 54) hx hb dX6_goal_45 (by decide) (fun b45 => ?_) (fun b45 => ?_)
            · skip
              refine lv_iconst (v := 0) hx hb dX6_goal_54 (by decide) ?_
              refine lv_iadd hx hb dX6_goal_55 ?_
              refine lv_istore_n (lv' := [(3, .int ((m_gl (r 1) (r 4) (r 14) k j) + 0)), (0, .ref (ad 0)), (1, .int k), (2, .int 1), (4, .int (nI j))]) hx hb dX6_goal_56 rfl hl (by decide) rfl (fun ls hl => ?_)
              refine lv_iinc (v := nI (j + 1)) (lv' := [(4, .int (nI (j + 1))), (3, .int ((m_gl (r 1) (r 4) (r 14) k j) + 0)), (0, .ref (ad 0)), (1, .int k), (2, .int 1)]) hx hb dX6_goal_57 hl (k := 4) rfl (nI_1 j) (by decide) rfl (fun ls hl => ?_)
              refine lv_goto (tgt := 5) hx hb dX6_goal_60 (by decide) ?_
              exact ih5 (j + 1) (by omega) (by omega) ls (lv_cast (lv_sub (l' := [(0, .ref (ad 0)), (1, .int k), (2, .int 1), (3, .int ((m_gl (r 1) (r 4) (r 14) k j) + 0)), (4, .int (nI (j + 1)))]) hl [2, 3, 4, 1, 0] rfl) (by simp [m_gl, nI_1, b11, c23, b35, b45]))
            · skip
              refine lv_sipush (v := 1000) hx hb dX6_goal_48 (by decide) ?_
              refine lv_goto (tgt := 55) hx hb dX6_goal_51 (by decide) ?_
              refine lv_iadd hx hb dX6_goal_55 ?_
              refine lv_istore_n (lv' := [(3, .int ((m_gl (r 1) (r 4) (r 14) k j) + 1000)), (0, .ref (ad 0)), (1, .int k), (2, .int 1), (4, .int (nI j))]) hx hb dX6_goal_56 rfl hl (by decide) rfl (fun ls hl => ?_)
              refine lv_iinc (v := nI (j + 1)) (lv' := [(4, .int (nI (j + 1))), (3, .int ((m_gl (r 1) (r 4) (r 14) k j) + 1000)), (0, .ref (ad 0)), (1, .int k), (2, .int 1)]) hx hb dX6_goal_57 hl (k := 4) rfl (nI_1 j) (by decide) rfl (fun ls hl => ?_)
              refine lv_goto (tgt := 5) hx hb dX6_goal_60 (by decide) ?_
              exact ih5 (j + 1) (by omega) (by omega) ls (lv_cast (lv_sub (l' := [(0, .ref (ad 0)), (1, .int k), (2, .int 1), (3, .int ((m_gl (r 1) (r 4) (r 14) k j) + 1000)), (4, .int (nI (j + 1)))]) hl [2, 3, 4, 1, 0] rfl) (by simp [m_gl, nI_1, b11, c23, b35, b45]))
  exact hL5 _ 0 (Nat.lt_succ_self _) (Nat.zero_le _) ls (lv_cast (lv_sub (l' := [(0, .ref (ad 0)), (1, .int k), (2, .int 1), (3, .int 0), (4, .int 0)]) hl [2, 3, 4, 1, 0] rfl) (by rfl))

set_option maxHeartbeats 4000000 in
set_option maxRecDepth 100000 in
theorem rr_goal0 (l : Launch) (dg : va_G) (cA : Nat → ClassId) (ad : Nat → Nat) (r : St) (n : Nat) (hn : r 0 3 = nI n) (hn24 : n ≤ 24) (k : Int32) : MetR l dg cA yX6_goal cX6_goal 5 (some .int) ({ frames := 1, cells := 0, slots := 0, locals := 23 } : Room) (mw cA ad r) [.ref (ad 0), .int k, .int 0] (some (.int (m_gl (r 3) (r 4) (r 14) k n))) := by
  refine ofR (by decide) (Nat.le_of_ble_eq_true rfl) (own := RX6) rfl (fun p e s0 m args below meth ccd ls S hr hlk hargs hK hP hl => ?_)
  have hx := S.1
  have hb := S.2.1
  have hl : lv_has ls 5 [(0, .ref (ad 0)), (1, .int k), (2, .int 0)] := hl
  refine lv_iconst (v := 0) hx hb dX6_goal_0 (by decide) ?_
  refine lv_istore_n (lv' := [(3, .int 0), (0, .ref (ad 0)), (1, .int k), (2, .int 0)]) hx hb dX6_goal_1 rfl hl (by decide) rfl (fun ls hl => ?_)
  refine lv_iconst (v := 0) hx hb dX6_goal_2 (by decide) ?_
  refine lv_istore (lv' := [(4, .int 0), (3, .int 0), (0, .ref (ad 0)), (1, .int k), (2, .int 0)]) hx hb dX6_goal_3 hl (by decide) rfl (fun ls hl => ?_)
  have hL5 : ∀ (f : Nat) (j : Nat), n - j < f → (j ≤ n) → ∀ ls, lv_has ls 5 [(0, .ref (ad 0)), (1, .int k), (2, .int 0), (3, .int (m_gl (r 3) (r 4) (r 14) k j)), (4, .int (nI j))] → W p l e ({ frames := 1, cells := 0, slots := 0, locals := 23 } : Room) s0 m args below meth ccd s0.heap [] 0 0 (MQ below (QcR (some (.int (m_gl (r 3) (r 4) (r 14) k n)))) args s0 0 0 (fun _ => False)) (F0 m 5 ls []) := by
    intro f
    induction f with
    | zero => intro j hm; exact absurd hm (Nat.not_lt_zero _)
    | succ f ih5 =>
      intro j hm5 hj ls hl
      refine lv_iload hx hb dX6_goal_5 (lv_at hl 4 rfl) ?_
      refine lv_aload_n hx hb dX6_goal_7 rfl (lv_at hl 0 rfl) ?_
      refine gf S hK hP 0 ml_0 fX6_93 (v := .int (nI n)) (mv_3 hn) dX6_goal_8 ?_
      refine lv_icmp_ge (tgt := 63) hx hb dX6_goal_11 (by decide) (fun b11 => ?_) (fun b11 => ?_)
      · skip
        have g11 : n ≤ j := (nI_leI (a := n) (b := j) (by omega) (by omega)).mp b11
        refine lv_iload_n hx hb dX6_goal_63 rfl (lv_at hl 3 rfl) ?_
        exact eRi S hr hlk dX6_goal_64 (by rw [show j = n by omega])
      · skip
        have g11 : ¬ n ≤ j := fun zz => b11 ((nI_leI (a := n) (b := j) (by omega) (by omega)).mpr zz)
        refine lv_iload_n hx hb dX6_goal_14 rfl (lv_at hl 3 rfl) ?_
        refine lv_aload_n hx hb dX6_goal_15 rfl (lv_at hl 0 rfl) ?_
        refine lv_iload hx hb dX6_goal_16 (lv_at hl 4 rfl) ?_
        refine lv_iload_n hx hb dX6_goal_18 rfl (lv_at hl 1 rfl) ?_
        refine lv_iload_n hx hb dX6_goal_19 rfl (lv_at hl 2 rfl) ?_
        refine cR S (rr_isOf0 l dg cA ad r j (by omega) k) kX6_139 ⟨rfl, rfl, Nat.le_of_ble_eq_true rfl, Nat.le_of_ble_eq_true rfl⟩ hK hP 0 ml_0 (q := (RX6, TX6, 31)) rfl rfl (As := [.int (nI j), .int k, .int 0]) rfl hl.1 (rest := [.int (m_gl (r 3) (r 4) (r 14) k j)]) rfl (Nat.le_of_ble_eq_true rfl) dX6_goal_20 ⟨Nat.le_of_ble_eq_true rfl, Nat.le_of_ble_eq_true rfl⟩ (st1 := [.int (b2 (decide (r 3 j = k))), .int (m_gl (r 3) (r 4) (r 14) k j)]) rfl ?_
        refine lv_if_eq (tgt := 54) hx hb dX6_goal_23 (by decide) (fun b23 => ?_) (fun b23 => ?_)
        · skip
          have c23 := b2d0 b23
          refine lv_iconst (v := 0) hx hb dX6_goal_54 (by decide) ?_
          refine lv_iadd hx hb dX6_goal_55 ?_
          refine lv_istore_n (lv' := [(3, .int ((m_gl (r 3) (r 4) (r 14) k j) + 0)), (0, .ref (ad 0)), (1, .int k), (2, .int 0), (4, .int (nI j))]) hx hb dX6_goal_56 rfl hl (by decide) rfl (fun ls hl => ?_)
          refine lv_iinc (v := nI (j + 1)) (lv' := [(4, .int (nI (j + 1))), (3, .int ((m_gl (r 3) (r 4) (r 14) k j) + 0)), (0, .ref (ad 0)), (1, .int k), (2, .int 0)]) hx hb dX6_goal_57 hl (k := 4) rfl (nI_1 j) (by decide) rfl (fun ls hl => ?_)
          refine lv_goto (tgt := 5) hx hb dX6_goal_60 (by decide) ?_
          exact ih5 (j + 1) (by omega) (by omega) ls (lv_cast (lv_sub (l' := [(0, .ref (ad 0)), (1, .int k), (2, .int 0), (3, .int ((m_gl (r 3) (r 4) (r 14) k j) + 0)), (4, .int (nI (j + 1)))]) hl [2, 3, 4, 1, 0] rfl) (by simp [m_gl, nI_1, b11, c23]))
        · skip
          have c23 := b2d1 b23
          refine lv_aload_n hx hb dX6_goal_26 rfl (lv_at hl 0 rfl) ?_
          refine gf S hK hP 0 ml_0 fX6_23 (v := .ref (ad 4)) mr_4 dX6_goal_27 ?_
          refine lv_iload hx hb dX6_goal_30 (lv_at hl 4 rfl) ?_
          refine ild S hK hP 4 ml_4 (j := j) (by omega) (Nat.le_of_ble_eq_true rfl) dX6_goal_32 ?_
          refine lv_as (y := r 4 j) rfl ?_
          refine lv_bipush (v := 117) hx hb dX6_goal_33 (by decide) ?_
          refine lv_icmp_eq (tgt := 54) hx hb dX6_goal_35 (by decide) (fun b35 => ?_) (fun b35 => ?_)
          · skip
            refine lv_iconst (v := 0) hx hb dX6_goal_54 (by decide) ?_
            refine lv_iadd hx hb dX6_goal_55 ?_
            refine lv_istore_n (lv' := [(3, .int ((m_gl (r 3) (r 4) (r 14) k j) + 0)), (0, .ref (ad 0)), (1, .int k), (2, .int 0), (4, .int (nI j))]) hx hb dX6_goal_56 rfl hl (by decide) rfl (fun ls hl => ?_)
            refine lv_iinc (v := nI (j + 1)) (lv' := [(4, .int (nI (j + 1))), (3, .int ((m_gl (r 3) (r 4) (r 14) k j) + 0)), (0, .ref (ad 0)), (1, .int k), (2, .int 0)]) hx hb dX6_goal_57 hl (k := 4) rfl (nI_1 j) (by decide) rfl (fun ls hl => ?_)
            refine lv_goto (tgt := 5) hx hb dX6_goal_60 (by decide) ?_
            exact ih5 (j + 1) (by omega) (by omega) ls (lv_cast (lv_sub (l' := [(0, .ref (ad 0)), (1, .int k), (2, .int 0), (3, .int ((m_gl (r 3) (r 4) (r 14) k j) + 0)), (4, .int (nI (j + 1)))]) hl [2, 3, 4, 1, 0] rfl) (by simp [m_gl, nI_1, b11, c23, b35]))
          · skip
            refine lv_aload_n hx hb dX6_goal_38 rfl (lv_at hl 0 rfl) ?_
            refine gf S hK hP 0 ml_0 fX6_53 (v := .ref (ad 14)) mr_14 dX6_goal_39 ?_
            refine lv_iload hx hb dX6_goal_42 (lv_at hl 4 rfl) ?_
            refine zld S hK hP 14 ml_14 (j := j) (by omega) (Nat.le_of_ble_eq_true rfl) dX6_goal_44 ?_
            refine lv_as (y := r 14 j) rfl ?_
            refine lv_if_ne (tgt := 54) hx hb dX6_goal_45 (by decide) (fun b45 => ?_) (fun b45 => ?_)
            · skip
              refine lv_iconst (v := 0) hx hb dX6_goal_54 (by decide) ?_
              refine lv_iadd hx hb dX6_goal_55 ?_
              refine lv_istore_n (lv' := [(3, .int ((m_gl (r 3) (r 4) (r 14) k j) + 0)), (0, .ref (ad 0)), (1, .int k), (2, .int 0), (4, .int (nI j))]) hx hb dX6_goal_56 rfl hl (by decide) rfl (fun ls hl => ?_)
              refine lv_iinc (v := nI (j + 1)) (lv' := [(4, .int (nI (j + 1))), (3, .int ((m_gl (r 3) (r 4) (r 14) k j) + 0)), (0, .ref (ad 0)), (1, .int k), (2, .int 0)]) hx hb dX6_goal_57 hl (k := 4) rfl (nI_1 j) (by decide) rfl (fun ls hl => ?_)
              refine lv_goto (tgt := 5) hx hb dX6_goal_60 (by decide) ?_
              exact ih5 (j + 1) (by omega) (by omega) ls (lv_cast (lv_sub (l' := [(0, .ref (ad 0)), (1, .int k), (2, .int 0), (3, .int ((m_gl (r 3) (r 4) (r 14) k j) + 0)), (4, .int (nI (j + 1)))]) hl [2, 3, 4, 1, 0] rfl) (by simp [m_gl, nI_1, b11, c23, b35, b45]))
            · skip
              refine lv_sipush (v := 1000) hx hb dX6_goal_48 (by decide) ?_
              refine lv_goto (tgt := 55) hx hb dX6_goal_51 (by decide) ?_
              refine lv_iadd hx hb dX6_goal_55 ?_
              refine lv_istore_n (lv' := [(3, .int ((m_gl (r 3) (r 4) (r 14) k j) + 1000)), (0, .ref (ad 0)), (1, .int k), (2, .int 0), (4, .int (nI j))]) hx hb dX6_goal_56 rfl hl (by decide) rfl (fun ls hl => ?_)
              refine lv_iinc (v := nI (j + 1)) (lv' := [(4, .int (nI (j + 1))), (3, .int ((m_gl (r 3) (r 4) (r 14) k j) + 1000)), (0, .ref (ad 0)), (1, .int k), (2, .int 0)]) hx hb dX6_goal_57 hl (k := 4) rfl (nI_1 j) (by decide) rfl (fun ls hl => ?_)
              refine lv_goto (tgt := 5) hx hb dX6_goal_60 (by decide) ?_
              exact ih5 (j + 1) (by omega) (by omega) ls (lv_cast (lv_sub (l' := [(0, .ref (ad 0)), (1, .int k), (2, .int 0), (3, .int ((m_gl (r 3) (r 4) (r 14) k j) + 1000)), (4, .int (nI (j + 1)))]) hl [2, 3, 4, 1, 0] rfl) (by simp [m_gl, nI_1, b11, c23, b35, b45]))
  exact hL5 _ 0 (Nat.lt_succ_self _) (Nat.zero_le _) ls (lv_cast (lv_sub (l' := [(0, .ref (ad 0)), (1, .int k), (2, .int 0), (3, .int 0), (4, .int 0)]) hl [2, 3, 4, 1, 0] rfl) (by rfl))

set_option maxHeartbeats 4000000 in
set_option maxRecDepth 100000 in
theorem rr_target0 (l : Launch) (dg : va_G) (cA : Nat → ClassId) (ad : Nat → Nat) (r : St) (ns : Nat) (hns : r 0 2 = nI ns) (hns4 : ns ≤ 4) (s : Int32) (hv : s < 0 ∨ nI ns ≤ s) (sz : Nat) : MetM l dg cA yX6_target cX6_target 2 (some .int) ({ frames := 1, cells := 0, slots := 0, locals := 22 } : Room) 0 0 (mw cA ad r) sz [.ref (ad 0), .int s] (mw cA ad (up r 0 0 1)) (some (.int 0)) := by
  refine ofM (by decide) (Nat.le_of_ble_eq_true rfl) (own := RX6) rfl (fun p e s0 m args below meth ccd ls A hAe S hr hlk hname hargs hK hP hD hS hA hsz hl => ?_)
  have hx := S.1
  have hb := S.2.1
  have hl : lv_has ls 2 [(0, .ref (ad 0)), (1, .int s)] := hl
  refine lv_iload_n hx hb dX6_target_0 rfl (lv_at hl 1 rfl) ?_
  refine lv_iconst (v := 0) hx hb dX6_target_1 (by decide) ?_
  refine lv_aload_n hx hb dX6_target_2 rfl (lv_at hl 0 rfl) ?_
  refine gf S hK hP 0 ml_0 fX6_108 (v := .int (nI ns)) (mv_2 hns) dX6_target_3 ?_
  refine lv_iconst (v := 1) hx hb dX6_target_6 (by decide) ?_
  refine lv_isub hx hb dX6_target_7 ?_
  refine cRS S (rr_in0 l dg cA (mw cA ad r) s 0 ((nI ns) - 1) (idx_bad hv (by omega))) kX6_96 ⟨rfl, rfl, Nat.le_of_ble_eq_true rfl, Nat.le_of_ble_eq_true rfl⟩ hK hP (As := [.int s, .int 0, .int ((nI ns) - 1)]) rfl hl.1 (rest := []) rfl (Nat.le_of_ble_eq_true rfl) dX6_target_8 ⟨Nat.le_of_ble_eq_true rfl, Nat.le_of_ble_eq_true rfl⟩ (st1 := [.int 0]) rfl ?_
  refine lv_if_ne (tgt := 20) hx hb dX6_target_11 (by decide) (fun b11 => ?_) (fun b11 => ?_)
  · skip
    exact False.elim (by revert b11; decide)
  · skip
    refine lv_aload_n hx hb dX6_target_14 rfl (lv_at hl 0 rfl) ?_
    refine lv_iconst (v := 1) hx hb dX6_target_15 (by decide) ?_
    refine cM S (rr_fails l dg cA ad r 1 _) kX6_104 ⟨rfl, rfl, Nat.le_of_ble_eq_true rfl, Nat.le_of_ble_eq_true rfl⟩ hK hP hD hS hA 0 ml_0 (q := (RX6, TX6, 31)) rfl rfl (As := [.int 1]) rfl hl.1 (rest := []) rfl (Nat.le_of_ble_eq_true rfl) dX6_target_16 ⟨Nat.le_of_ble_eq_true rfl, Nat.le_of_ble_eq_true rfl⟩ (st1 := [.int 0]) rfl (fun H locs hP hD hS => ?_)
    exact eMi S hr hlk hP hD hS dX6_target_19 rfl rfl

set_option maxHeartbeats 4000000 in
set_option maxRecDepth 100000 in
theorem rr_target1 (l : Launch) (dg : va_G) (cA : Nat → ClassId) (ad : Nat → Nat) (r : St) (n : Nat) (hn : r 0 3 = nI n) (hn24 : n ≤ 24) (ns : Nat) (hns : r 0 2 = nI ns) (hns4 : ns ≤ 4) (js : Nat) (hjs : js < ns) (sz : Nat) : MetM l dg cA yX6_target cX6_target 2 (some .int) ({ frames := 2, cells := 0, slots := 0, locals := 47 } : Room) 0 0 (mw cA ad r) sz [.ref (ad 0), .int (nI js)] (mw cA ad (up r 0 0 0)) (some (.int (m_gl (r 1) (r 4) (r 14) (nI js) n))) := by
  refine ofM (by decide) (Nat.le_of_ble_eq_true rfl) (own := RX6) rfl (fun p e s0 m args below meth ccd ls A hAe S hr hlk hname hargs hK hP hD hS hA hsz hl => ?_)
  have hx := S.1
  have hb := S.2.1
  have hl : lv_has ls 2 [(0, .ref (ad 0)), (1, .int (nI js))] := hl
  refine lv_iload_n hx hb dX6_target_0 rfl (lv_at hl 1 rfl) ?_
  refine lv_iconst (v := 0) hx hb dX6_target_1 (by decide) ?_
  refine lv_aload_n hx hb dX6_target_2 rfl (lv_at hl 0 rfl) ?_
  refine gf S hK hP 0 ml_0 fX6_108 (v := .int (nI ns)) (mv_2 hns) dX6_target_3 ?_
  refine lv_iconst (v := 1) hx hb dX6_target_6 (by decide) ?_
  refine lv_isub hx hb dX6_target_7 ?_
  refine cRS S (rr_in1 l dg cA (mw cA ad r) (nI js) 0 ((nI ns) - 1) (nI_pos (by omega)) (idx_hi hjs (by omega))) kX6_96 ⟨rfl, rfl, Nat.le_of_ble_eq_true rfl, Nat.le_of_ble_eq_true rfl⟩ hK hP (As := [.int (nI js), .int 0, .int ((nI ns) - 1)]) rfl hl.1 (rest := []) rfl (Nat.le_of_ble_eq_true rfl) dX6_target_8 ⟨Nat.le_of_ble_eq_true rfl, Nat.le_of_ble_eq_true rfl⟩ (st1 := [.int 1]) rfl ?_
  refine lv_if_ne (tgt := 20) hx hb dX6_target_11 (by decide) (fun b11 => ?_) (fun b11 => ?_)
  · skip
    refine lv_aload_n hx hb dX6_target_20 rfl (lv_at hl 0 rfl) ?_
    refine lv_iconst (v := 0) hx hb dX6_target_21 (by decide) ?_
    refine pf S hK hP hD hS 0 ml_0 fX6_90 fpX6 rfl (v := .int 0) rfl rfl (Nat.le_of_ble_eq_true rfl) ms_0_0 dX6_target_22 (fun H locs hP hD hS => ?_)
    refine lv_aload_n hx hb dX6_target_25 rfl (lv_at hl 0 rfl) ?_
    refine lv_iload_n hx hb dX6_target_26 rfl (lv_at hl 1 rfl) ?_
    refine lv_iconst (v := 1) hx hb dX6_target_27 (by decide) ?_
    refine cR S (rr_goal1 l dg cA ad (up r 0 0 0) n hn hn24 (nI js)) kX6_143 ⟨rfl, rfl, Nat.le_of_ble_eq_true rfl, Nat.le_of_ble_eq_true rfl⟩ hK hP 0 ml_0 (q := (RX6, TX6, 31)) rfl rfl (As := [.int (nI js), .int 1]) rfl hl.1 (rest := []) rfl (Nat.le_of_ble_eq_true rfl) dX6_target_28 ⟨Nat.le_of_ble_eq_true rfl, Nat.le_of_ble_eq_true rfl⟩ (st1 := [.int (m_gl (r 1) (r 4) (r 14) (nI js) n)]) rfl ?_
    exact eMi S hr hlk hP hD hS dX6_target_31 rfl rfl
  · skip
    exact False.elim (by revert b11; decide)

set_option maxHeartbeats 4000000 in
set_option maxRecDepth 100000 in
theorem rr_isSound (l : Launch) (dg : va_G) (cA : Nat → ClassId) (ad : Nat → Nat) (r : St) (sz : Nat) : MetM l dg cA yX6_isSound cX6_isSound 1 (some .boolean) ({ frames := 0, cells := 0, slots := 0, locals := 0 } : Room) 0 0 (mw cA ad r) sz [.ref (ad 0)] (mw cA ad (up r 0 0 0)) (some (.int 1)) := by
  refine ofM (by decide) (Nat.le_of_ble_eq_true rfl) (own := RX6) rfl (fun p e s0 m args below meth ccd ls A hAe S hr hlk hname hargs hK hP hD hS hA hsz hl => ?_)
  have hx := S.1
  have hb := S.2.1
  have hl : lv_has ls 1 [(0, .ref (ad 0))] := hl
  refine lv_aload_n hx hb dX6_isSound_0 rfl (lv_at hl 0 rfl) ?_
  refine lv_iconst (v := 0) hx hb dX6_isSound_1 (by decide) ?_
  refine pf S hK hP hD hS 0 ml_0 fX6_90 fpX6 rfl (v := .int 0) rfl rfl (Nat.le_of_ble_eq_true rfl) ms_0_0 dX6_isSound_2 (fun H locs hP hD hS => ?_)
  refine lv_iconst (v := 1) hx hb dX6_isSound_5 (by decide) ?_
  exact eMz S hr hlk hP hD hS dX6_isSound_6 rfl rfl rfl

set_option maxHeartbeats 4000000 in
set_option maxRecDepth 100000 in
theorem rr_answersTo0 (l : Launch) (dg : va_G) (cA : Nat → ClassId) (ad : Nat → Nat) (r : St) (ni : Nat) (hni : r 0 4 = nI ni) (hni4 : ni ≤ 4) (v : Int32) (hv : v < 0 ∨ nI ni ≤ v) (sz : Nat) : MetM l dg cA yX6_answersTo cX6_answersTo 4 (some .int) ({ frames := 2, cells := 0, slots := 0, locals := 43 } : Room) 0 0 (mw cA ad r) sz [.ref (ad 0), .int v] (mw cA ad (up r 0 0 1)) (some (.int 0)) := by
  refine ofM (by decide) (Nat.le_of_ble_eq_true rfl) (own := RX6) rfl (fun p e s0 m args below meth ccd ls A hAe S hr hlk hname hargs hK hP hD hS hA hsz hl => ?_)
  have hx := S.1
  have hb := S.2.1
  have hl : lv_has ls 4 [(0, .ref (ad 0)), (1, .int v)] := hl
  refine lv_aload_n hx hb dX6_answersTo_0 rfl (lv_at hl 0 rfl) ?_
  refine lv_iload_n hx hb dX6_answersTo_1 rfl (lv_at hl 1 rfl) ?_
  refine cM S (rr_isInt0 l dg cA ad r ni hni hni4 v hv _) kX6_129 ⟨rfl, rfl, Nat.le_of_ble_eq_true rfl, Nat.le_of_ble_eq_true rfl⟩ hK hP hD hS hA 0 ml_0 (q := (RX6, TX6, 31)) rfl rfl (As := [.int v]) rfl hl.1 (rest := []) rfl (Nat.le_of_ble_eq_true rfl) dX6_answersTo_2 ⟨Nat.le_of_ble_eq_true rfl, Nat.le_of_ble_eq_true rfl⟩ (st1 := [.int 0]) rfl (fun H locs hP hD hS => ?_)
  refine lv_if_ne (tgt := 10) hx hb dX6_answersTo_5 (by decide) (fun b5 => ?_) (fun b5 => ?_)
  · skip
    exact False.elim (by revert b5; decide)
  · skip
    refine lv_iconst (v := 0) hx hb dX6_answersTo_8 (by decide) ?_
    exact eMi S hr hlk hP hD hS dX6_answersTo_9 rfl rfl

set_option maxHeartbeats 4000000 in
set_option maxRecDepth 100000 in
theorem rr_answersTo1 (l : Launch) (dg : va_G) (cA : Nat → ClassId) (ad : Nat → Nat) (r : St) (n : Nat) (hn : r 0 3 = nI n) (hn24 : n ≤ 24) (ni : Nat) (hni : r 0 4 = nI ni) (hni4 : ni ≤ 4) (i : Nat) (hi : i < ni) (sz : Nat) : MetM l dg cA yX6_answersTo cX6_answersTo 4 (some .int) ({ frames := 2, cells := 0, slots := 0, locals := 43 } : Room) 0 0 (mw cA ad r) sz [.ref (ad 0), .int (nI i)] (mw cA ad (up r 0 0 0)) (some (.int (nI (ct (fun h => decide (r 4 h = 97) && decide (r 11 h = nI i)) n)))) := by
  refine ofM (by decide) (Nat.le_of_ble_eq_true rfl) (own := RX6) rfl (fun p e s0 m args below meth ccd ls A hAe S hr hlk hname hargs hK hP hD hS hA hsz hl => ?_)
  have hx := S.1
  have hb := S.2.1
  have hl : lv_has ls 4 [(0, .ref (ad 0)), (1, .int (nI i))] := hl
  refine lv_aload_n hx hb dX6_answersTo_0 rfl (lv_at hl 0 rfl) ?_
  refine lv_iload_n hx hb dX6_answersTo_1 rfl (lv_at hl 1 rfl) ?_
  refine cM S (rr_isInt1 l dg cA ad r ni hni hni4 i hi _) kX6_129 ⟨rfl, rfl, Nat.le_of_ble_eq_true rfl, Nat.le_of_ble_eq_true rfl⟩ hK hP hD hS hA 0 ml_0 (q := (RX6, TX6, 31)) rfl rfl (As := [.int (nI i)]) rfl hl.1 (rest := []) rfl (Nat.le_of_ble_eq_true rfl) dX6_answersTo_2 ⟨Nat.le_of_ble_eq_true rfl, Nat.le_of_ble_eq_true rfl⟩ (st1 := [.int 1]) rfl (fun H locs hP hD hS => ?_)
  refine lv_if_ne (tgt := 10) hx hb dX6_answersTo_5 (by decide) (fun b5 => ?_) (fun b5 => ?_)
  · skip
    refine lv_iconst (v := 0) hx hb dX6_answersTo_10 (by decide) ?_
    refine lv_istore_n (lv' := [(2, .int 0), (0, .ref (ad 0)), (1, .int (nI i))]) hx hb dX6_answersTo_11 rfl hl (by decide) rfl (fun ls hl => ?_)
    refine lv_iconst (v := 0) hx hb dX6_answersTo_12 (by decide) ?_
    refine lv_istore_n (lv' := [(3, .int 0), (2, .int 0), (0, .ref (ad 0)), (1, .int (nI i))]) hx hb dX6_answersTo_13 rfl hl (by decide) rfl (fun ls hl => ?_)
    have hL14 : ∀ (f : Nat) (j : Nat), n - j < f → (j ≤ n) → ∀ ls, lv_has ls 4 [(0, .ref (ad 0)), (1, .int (nI i)), (2, .int (nI (ct (fun h => decide (r 4 h = 97) && decide (r 11 h = nI i)) j))), (3, .int (nI j))] → ∀ (H : Heap) (locs : List Loc), PP dg (mw cA ad (up r 0 0 0)) H → va_D A (mw cA ad (up r 0 0 0)) → va_S A s0.heap H locs → W p l e ({ frames := 2, cells := 0, slots := 0, locals := 43 } : Room) s0 m args below meth ccd H locs 0 0 (MQ below (QcM dg (mw cA ad (up r 0 0 0)) (some (.int (nI (ct (fun h => decide (r 4 h = 97) && decide (r 11 h = nI i)) n)))) A) args s0 0 0 A) (F0 m 14 ls []) := by
      intro f
      induction f with
      | zero => intro j hm; exact absurd hm (Nat.not_lt_zero _)
      | succ f ih14 =>
        intro j hm14 hj ls hl H locs hP hD hS
        refine lv_iload_n hx hb dX6_answersTo_14 rfl (lv_at hl 3 rfl) ?_
        refine lv_aload_n hx hb dX6_answersTo_15 rfl (lv_at hl 0 rfl) ?_
        refine gf S hK hP 0 ml_0 fX6_93 (v := .int (nI n)) (mv_3 hn) dX6_answersTo_16 ?_
        refine lv_icmp_ge (tgt := 57) hx hb dX6_answersTo_19 (by decide) (fun b19 => ?_) (fun b19 => ?_)
        · skip
          have g19 : n ≤ j := (nI_leI (a := n) (b := j) (by omega) (by omega)).mp b19
          refine lv_iload_n hx hb dX6_answersTo_57 rfl (lv_at hl 2 rfl) ?_
          exact eMi S hr hlk hP hD hS dX6_answersTo_58 (by rw [show j = n by omega]) rfl
        · skip
          have g19 : ¬ n ≤ j := fun zz => b19 ((nI_leI (a := n) (b := j) (by omega) (by omega)).mpr zz)
          refine lv_iload_n hx hb dX6_answersTo_22 rfl (lv_at hl 2 rfl) ?_
          refine lv_aload_n hx hb dX6_answersTo_23 rfl (lv_at hl 0 rfl) ?_
          refine gf S hK hP 0 ml_0 fX6_23 (v := .ref (ad 4)) mr_4 dX6_answersTo_24 ?_
          refine lv_iload_n hx hb dX6_answersTo_27 rfl (lv_at hl 3 rfl) ?_
          refine ild S hK hP 4 ml_4 (j := j) (by omega) (Nat.le_of_ble_eq_true rfl) dX6_answersTo_28 ?_
          refine lv_as (y := r 4 j) rfl ?_
          refine lv_bipush (v := 97) hx hb dX6_answersTo_29 (by decide) ?_
          refine lv_icmp_ne (tgt := 48) hx hb dX6_answersTo_31 (by decide) (fun b31 => ?_) (fun b31 => ?_)
          · skip
            refine lv_iconst (v := 0) hx hb dX6_answersTo_48 (by decide) ?_
            refine lv_iadd hx hb dX6_answersTo_49 ?_
            refine lv_istore_n (lv' := [(2, .int ((nI (ct (fun h => decide (r 4 h = 97) && decide (r 11 h = nI i)) j)) + 0)), (0, .ref (ad 0)), (1, .int (nI i)), (3, .int (nI j))]) hx hb dX6_answersTo_50 rfl hl (by decide) rfl (fun ls hl => ?_)
            refine lv_iinc (v := nI (j + 1)) (lv' := [(3, .int (nI (j + 1))), (2, .int ((nI (ct (fun h => decide (r 4 h = 97) && decide (r 11 h = nI i)) j)) + 0)), (0, .ref (ad 0)), (1, .int (nI i))]) hx hb dX6_answersTo_51 hl (k := 3) rfl (nI_1 j) (by decide) rfl (fun ls hl => ?_)
            refine lv_goto (tgt := 14) hx hb dX6_answersTo_54 (by decide) ?_
            exact ih14 (j + 1) (by omega) (by omega) ls (lv_cast (lv_sub (l' := [(0, .ref (ad 0)), (1, .int (nI i)), (2, .int ((nI (ct (fun h => decide (r 4 h = 97) && decide (r 11 h = nI i)) j)) + 0)), (3, .int (nI (j + 1)))]) hl [2, 3, 1, 0] rfl) (by simp [ct, nI_1, b19, b31])) _ _ hP hD hS
          · skip
            refine lv_aload_n hx hb dX6_answersTo_34 rfl (lv_at hl 0 rfl) ?_
            refine gf S hK hP 0 ml_0 fX6_44 (v := .ref (ad 11)) mr_11 dX6_answersTo_35 ?_
            refine lv_iload_n hx hb dX6_answersTo_38 rfl (lv_at hl 3 rfl) ?_
            refine ild S hK hP 11 ml_11 (j := j) (by omega) (Nat.le_of_ble_eq_true rfl) dX6_answersTo_39 ?_
            refine lv_as (y := r 11 j) rfl ?_
            refine lv_iload_n hx hb dX6_answersTo_40 rfl (lv_at hl 1 rfl) ?_
            refine lv_icmp_ne (tgt := 48) hx hb dX6_answersTo_41 (by decide) (fun b41 => ?_) (fun b41 => ?_)
            · skip
              refine lv_iconst (v := 0) hx hb dX6_answersTo_48 (by decide) ?_
              refine lv_iadd hx hb dX6_answersTo_49 ?_
              refine lv_istore_n (lv' := [(2, .int ((nI (ct (fun h => decide (r 4 h = 97) && decide (r 11 h = nI i)) j)) + 0)), (0, .ref (ad 0)), (1, .int (nI i)), (3, .int (nI j))]) hx hb dX6_answersTo_50 rfl hl (by decide) rfl (fun ls hl => ?_)
              refine lv_iinc (v := nI (j + 1)) (lv' := [(3, .int (nI (j + 1))), (2, .int ((nI (ct (fun h => decide (r 4 h = 97) && decide (r 11 h = nI i)) j)) + 0)), (0, .ref (ad 0)), (1, .int (nI i))]) hx hb dX6_answersTo_51 hl (k := 3) rfl (nI_1 j) (by decide) rfl (fun ls hl => ?_)
              refine lv_goto (tgt := 14) hx hb dX6_answersTo_54 (by decide) ?_
              exact ih14 (j + 1) (by omega) (by omega) ls (lv_cast (lv_sub (l' := [(0, .ref (ad 0)), (1, .int (nI i)), (2, .int ((nI (ct (fun h => decide (r 4 h = 97) && decide (r 11 h = nI i)) j)) + 0)), (3, .int (nI (j + 1)))]) hl [2, 3, 1, 0] rfl) (by simp [ct, nI_1, b19, b31, b41])) _ _ hP hD hS
            · skip
              refine lv_iconst (v := 1) hx hb dX6_answersTo_44 (by decide) ?_
              refine lv_goto (tgt := 49) hx hb dX6_answersTo_45 (by decide) ?_
              refine lv_iadd hx hb dX6_answersTo_49 ?_
              refine lv_as (y := nI (ct (fun h => decide (r 4 h = 97) && decide (r 11 h = nI i)) j + 1)) (nI_1 (ct (fun h => decide (r 4 h = 97) && decide (r 11 h = nI i)) j)) ?_
              refine lv_istore_n (lv' := [(2, .int (nI (ct (fun h => decide (r 4 h = 97) && decide (r 11 h = nI i)) j + 1))), (0, .ref (ad 0)), (1, .int (nI i)), (3, .int (nI j))]) hx hb dX6_answersTo_50 rfl hl (by decide) rfl (fun ls hl => ?_)
              refine lv_iinc (v := nI (j + 1)) (lv' := [(3, .int (nI (j + 1))), (2, .int (nI (ct (fun h => decide (r 4 h = 97) && decide (r 11 h = nI i)) j + 1))), (0, .ref (ad 0)), (1, .int (nI i))]) hx hb dX6_answersTo_51 hl (k := 3) rfl (nI_1 j) (by decide) rfl (fun ls hl => ?_)
              refine lv_goto (tgt := 14) hx hb dX6_answersTo_54 (by decide) ?_
              exact ih14 (j + 1) (by omega) (by omega) ls (lv_cast (lv_sub (l' := [(0, .ref (ad 0)), (1, .int (nI i)), (2, .int (nI (ct (fun h => decide (r 4 h = 97) && decide (r 11 h = nI i)) j + 1))), (3, .int (nI (j + 1)))]) hl [2, 3, 1, 0] rfl) (by simp [ct, nI_1, b19, b31, b41])) _ _ hP hD hS
    exact hL14 _ 0 (Nat.lt_succ_self _) (Nat.zero_le _) ls (lv_cast (lv_sub (l' := [(0, .ref (ad 0)), (1, .int (nI i)), (2, .int 0), (3, .int 0)]) hl [2, 3, 1, 0] rfl) (by rfl)) _ _ hP hD hS
  · skip
    exact False.elim (by revert b5; decide)

set_option maxHeartbeats 4000000 in
set_option maxRecDepth 100000 in
theorem rr_addHouse1 (l : Launch) (dg : va_G) (cA : Nat → ClassId) (ad : Nat → Nat) (r : St) (ns : Nat) (hns : r 0 2 = nI ns) (hns4 : ns ≤ 4) (s : Int32) (hv : s < 0 ∨ nI ns ≤ s) (pl lg : Int32) (sz : Nat) : MetM l dg cA yX6_addHouse cX6_addHouse 4 (some .int) ({ frames := 1, cells := 0, slots := 0, locals := 22 } : Room) 0 0 (mw cA ad r) sz [.ref (ad 0), .int s, .int pl, .int lg] (mw cA ad (up r 0 0 1)) (some (.int 0)) := by
  refine ofM (by decide) (Nat.le_of_ble_eq_true rfl) (own := RX6) rfl (fun p e s0 m args below meth ccd ls A hAe S hr hlk hname hargs hK hP hD hS hA hsz hl => ?_)
  have hx := S.1
  have hb := S.2.1
  have hl : lv_has ls 4 [(0, .ref (ad 0)), (1, .int s), (2, .int pl), (3, .int lg)] := hl
  refine lv_iload_n hx hb dX6_addHouse_0 rfl (lv_at hl 1 rfl) ?_
  refine lv_iconst (v := 0) hx hb dX6_addHouse_1 (by decide) ?_
  refine lv_aload_n hx hb dX6_addHouse_2 rfl (lv_at hl 0 rfl) ?_
  refine gf S hK hP 0 ml_0 fX6_108 (v := .int (nI ns)) (mv_2 hns) dX6_addHouse_3 ?_
  refine lv_iconst (v := 1) hx hb dX6_addHouse_6 (by decide) ?_
  refine lv_isub hx hb dX6_addHouse_7 ?_
  refine cRS S (rr_in0 l dg cA (mw cA ad r) s 0 ((nI ns) - 1) (idx_bad hv (by omega))) kX6_96 ⟨rfl, rfl, Nat.le_of_ble_eq_true rfl, Nat.le_of_ble_eq_true rfl⟩ hK hP (As := [.int s, .int 0, .int ((nI ns) - 1)]) rfl hl.1 (rest := []) rfl (Nat.le_of_ble_eq_true rfl) dX6_addHouse_8 ⟨Nat.le_of_ble_eq_true rfl, Nat.le_of_ble_eq_true rfl⟩ (st1 := [.int 0]) rfl ?_
  refine lv_if_ne (tgt := 20) hx hb dX6_addHouse_11 (by decide) (fun b11 => ?_) (fun b11 => ?_)
  · skip
    exact False.elim (by revert b11; decide)
  · skip
    refine lv_aload_n hx hb dX6_addHouse_14 rfl (lv_at hl 0 rfl) ?_
    refine lv_iconst (v := 1) hx hb dX6_addHouse_15 (by decide) ?_
    refine cM S (rr_fails l dg cA ad r 1 _) kX6_104 ⟨rfl, rfl, Nat.le_of_ble_eq_true rfl, Nat.le_of_ble_eq_true rfl⟩ hK hP hD hS hA 0 ml_0 (q := (RX6, TX6, 31)) rfl rfl (As := [.int 1]) rfl hl.1 (rest := []) rfl (Nat.le_of_ble_eq_true rfl) dX6_addHouse_16 ⟨Nat.le_of_ble_eq_true rfl, Nat.le_of_ble_eq_true rfl⟩ (st1 := [.int 0]) rfl (fun H locs hP hD hS => ?_)
    exact eMi S hr hlk hP hD hS dX6_addHouse_19 rfl rfl

set_option maxHeartbeats 4000000 in
set_option maxRecDepth 100000 in
theorem rr_addHouse2 (l : Launch) (dg : va_G) (cA : Nat → ClassId) (ad : Nat → Nat) (r : St) (ns : Nat) (hns : r 0 2 = nI ns) (hns4 : ns ≤ 4) (js : Nat) (hjs : js < ns) (pl lg : Int32) (hb2 : ¬ ((¬ pl < 0 ∧ ¬ 99 < pl) ∧ (¬ lg < 0 ∧ ¬ 2 < lg))) (sz : Nat) : MetM l dg cA yX6_addHouse cX6_addHouse 4 (some .int) ({ frames := 1, cells := 0, slots := 0, locals := 22 } : Room) 0 0 (mw cA ad r) sz [.ref (ad 0), .int (nI js), .int pl, .int lg] (mw cA ad (up r 0 0 2)) (some (.int 0)) := by
  refine ofM (by decide) (Nat.le_of_ble_eq_true rfl) (own := RX6) rfl (fun p e s0 m args below meth ccd ls A hAe S hr hlk hname hargs hK hP hD hS hA hsz hl => ?_)
  have hx := S.1
  have hb := S.2.1
  have hl : lv_has ls 4 [(0, .ref (ad 0)), (1, .int (nI js)), (2, .int pl), (3, .int lg)] := hl
  refine lv_iload_n hx hb dX6_addHouse_0 rfl (lv_at hl 1 rfl) ?_
  refine lv_iconst (v := 0) hx hb dX6_addHouse_1 (by decide) ?_
  refine lv_aload_n hx hb dX6_addHouse_2 rfl (lv_at hl 0 rfl) ?_
  refine gf S hK hP 0 ml_0 fX6_108 (v := .int (nI ns)) (mv_2 hns) dX6_addHouse_3 ?_
  refine lv_iconst (v := 1) hx hb dX6_addHouse_6 (by decide) ?_
  refine lv_isub hx hb dX6_addHouse_7 ?_
  refine cRS S (rr_in1 l dg cA (mw cA ad r) (nI js) 0 ((nI ns) - 1) (nI_pos (by omega)) (idx_hi hjs (by omega))) kX6_96 ⟨rfl, rfl, Nat.le_of_ble_eq_true rfl, Nat.le_of_ble_eq_true rfl⟩ hK hP (As := [.int (nI js), .int 0, .int ((nI ns) - 1)]) rfl hl.1 (rest := []) rfl (Nat.le_of_ble_eq_true rfl) dX6_addHouse_8 ⟨Nat.le_of_ble_eq_true rfl, Nat.le_of_ble_eq_true rfl⟩ (st1 := [.int 1]) rfl ?_
  refine lv_if_ne (tgt := 20) hx hb dX6_addHouse_11 (by decide) (fun b11 => ?_) (fun b11 => ?_)
  · skip
    refine lv_iload_n hx hb dX6_addHouse_20 rfl (lv_at hl 2 rfl) ?_
    refine lv_iconst (v := 0) hx hb dX6_addHouse_21 (by decide) ?_
    refine lv_bipush (v := 99) hx hb dX6_addHouse_22 (by decide) ?_
    by_cases c24 : ¬ pl < 0 ∧ ¬ 99 < pl
    · skip
      refine cRS S (rr_in1 l dg cA (mw cA ad r) pl 0 99 c24.1 c24.2) kX6_96 ⟨rfl, rfl, Nat.le_of_ble_eq_true rfl, Nat.le_of_ble_eq_true rfl⟩ hK hP (As := [.int pl, .int 0, .int 99]) rfl hl.1 (rest := []) rfl (Nat.le_of_ble_eq_true rfl) dX6_addHouse_24 ⟨Nat.le_of_ble_eq_true rfl, Nat.le_of_ble_eq_true rfl⟩ (st1 := [.int 1]) rfl ?_
      refine lv_if_eq (tgt := 39) hx hb dX6_addHouse_27 (by decide) (fun b27 => ?_) (fun b27 => ?_)
      · skip
        exact absurd b27 b11
      · skip
        refine lv_iload_n hx hb dX6_addHouse_30 rfl (lv_at hl 3 rfl) ?_
        refine lv_iconst (v := 0) hx hb dX6_addHouse_31 (by decide) ?_
        refine lv_iconst (v := 2) hx hb dX6_addHouse_32 (by decide) ?_
        refine cRS S (rr_in0 l dg cA (mw cA ad r) lg 0 2 (fun z => hb2 ⟨c24, z⟩)) kX6_96 ⟨rfl, rfl, Nat.le_of_ble_eq_true rfl, Nat.le_of_ble_eq_true rfl⟩ hK hP (As := [.int lg, .int 0, .int 2]) rfl hl.1 (rest := []) rfl (Nat.le_of_ble_eq_true rfl) dX6_addHouse_33 ⟨Nat.le_of_ble_eq_true rfl, Nat.le_of_ble_eq_true rfl⟩ (st1 := [.int 0]) rfl ?_
        refine lv_if_ne (tgt := 45) hx hb dX6_addHouse_36 (by decide) (fun b36 => ?_) (fun b36 => ?_)
        · skip
          exact False.elim (by revert b36; decide)
        · skip
          refine lv_aload_n hx hb dX6_addHouse_39 rfl (lv_at hl 0 rfl) ?_
          refine lv_iconst (v := 2) hx hb dX6_addHouse_40 (by decide) ?_
          refine cM S (rr_fails l dg cA ad r 2 _) kX6_104 ⟨rfl, rfl, Nat.le_of_ble_eq_true rfl, Nat.le_of_ble_eq_true rfl⟩ hK hP hD hS hA 0 ml_0 (q := (RX6, TX6, 31)) rfl rfl (As := [.int 2]) rfl hl.1 (rest := []) rfl (Nat.le_of_ble_eq_true rfl) dX6_addHouse_41 ⟨Nat.le_of_ble_eq_true rfl, Nat.le_of_ble_eq_true rfl⟩ (st1 := [.int 0]) rfl (fun H locs hP hD hS => ?_)
          exact eMi S hr hlk hP hD hS dX6_addHouse_44 rfl rfl
    · skip
      refine cRS S (rr_in0 l dg cA (mw cA ad r) pl 0 99 c24) kX6_96 ⟨rfl, rfl, Nat.le_of_ble_eq_true rfl, Nat.le_of_ble_eq_true rfl⟩ hK hP (As := [.int pl, .int 0, .int 99]) rfl hl.1 (rest := []) rfl (Nat.le_of_ble_eq_true rfl) dX6_addHouse_24 ⟨Nat.le_of_ble_eq_true rfl, Nat.le_of_ble_eq_true rfl⟩ (st1 := [.int 0]) rfl ?_
      refine lv_if_eq (tgt := 39) hx hb dX6_addHouse_27 (by decide) (fun b27 => ?_) (fun b27 => ?_)
      · skip
        refine lv_aload_n hx hb dX6_addHouse_39 rfl (lv_at hl 0 rfl) ?_
        refine lv_iconst (v := 2) hx hb dX6_addHouse_40 (by decide) ?_
        refine cM S (rr_fails l dg cA ad r 2 _) kX6_104 ⟨rfl, rfl, Nat.le_of_ble_eq_true rfl, Nat.le_of_ble_eq_true rfl⟩ hK hP hD hS hA 0 ml_0 (q := (RX6, TX6, 31)) rfl rfl (As := [.int 2]) rfl hl.1 (rest := []) rfl (Nat.le_of_ble_eq_true rfl) dX6_addHouse_41 ⟨Nat.le_of_ble_eq_true rfl, Nat.le_of_ble_eq_true rfl⟩ (st1 := [.int 0]) rfl (fun H locs hP hD hS => ?_)
        exact eMi S hr hlk hP hD hS dX6_addHouse_44 rfl rfl
      · skip
        exact False.elim (by revert b27; decide)
  · skip
    exact False.elim (by revert b11; decide)

set_option maxHeartbeats 4000000 in
set_option maxRecDepth 100000 in
theorem rr_addHouse3 (l : Launch) (dg : va_G) (cA : Nat → ClassId) (ad : Nat → Nat) (r : St) (hn : r 0 3 = 24) (ns : Nat) (hns : r 0 2 = nI ns) (hns4 : ns ≤ 4) (js : Nat) (hjs : js < ns) (pl lg : Int32) (h1 : ¬ pl < 0) (h2 : ¬ 99 < pl) (h3 : ¬ lg < 0) (h4 : ¬ 2 < lg) (sz : Nat) : MetM l dg cA yX6_addHouse cX6_addHouse 4 (some .int) ({ frames := 1, cells := 0, slots := 0, locals := 22 } : Room) 0 0 (mw cA ad r) sz [.ref (ad 0), .int (nI js), .int pl, .int lg] (mw cA ad (up r 0 0 3)) (some (.int 0)) := by
  refine ofM (by decide) (Nat.le_of_ble_eq_true rfl) (own := RX6) rfl (fun p e s0 m args below meth ccd ls A hAe S hr hlk hname hargs hK hP hD hS hA hsz hl => ?_)
  have hx := S.1
  have hb := S.2.1
  have hl : lv_has ls 4 [(0, .ref (ad 0)), (1, .int (nI js)), (2, .int pl), (3, .int lg)] := hl
  refine lv_iload_n hx hb dX6_addHouse_0 rfl (lv_at hl 1 rfl) ?_
  refine lv_iconst (v := 0) hx hb dX6_addHouse_1 (by decide) ?_
  refine lv_aload_n hx hb dX6_addHouse_2 rfl (lv_at hl 0 rfl) ?_
  refine gf S hK hP 0 ml_0 fX6_108 (v := .int (nI ns)) (mv_2 hns) dX6_addHouse_3 ?_
  refine lv_iconst (v := 1) hx hb dX6_addHouse_6 (by decide) ?_
  refine lv_isub hx hb dX6_addHouse_7 ?_
  refine cRS S (rr_in1 l dg cA (mw cA ad r) (nI js) 0 ((nI ns) - 1) (nI_pos (by omega)) (idx_hi hjs (by omega))) kX6_96 ⟨rfl, rfl, Nat.le_of_ble_eq_true rfl, Nat.le_of_ble_eq_true rfl⟩ hK hP (As := [.int (nI js), .int 0, .int ((nI ns) - 1)]) rfl hl.1 (rest := []) rfl (Nat.le_of_ble_eq_true rfl) dX6_addHouse_8 ⟨Nat.le_of_ble_eq_true rfl, Nat.le_of_ble_eq_true rfl⟩ (st1 := [.int 1]) rfl ?_
  refine lv_if_ne (tgt := 20) hx hb dX6_addHouse_11 (by decide) (fun b11 => ?_) (fun b11 => ?_)
  · skip
    refine lv_iload_n hx hb dX6_addHouse_20 rfl (lv_at hl 2 rfl) ?_
    refine lv_iconst (v := 0) hx hb dX6_addHouse_21 (by decide) ?_
    refine lv_bipush (v := 99) hx hb dX6_addHouse_22 (by decide) ?_
    refine cRS S (rr_in1 l dg cA (mw cA ad r) pl 0 99 h1 h2) kX6_96 ⟨rfl, rfl, Nat.le_of_ble_eq_true rfl, Nat.le_of_ble_eq_true rfl⟩ hK hP (As := [.int pl, .int 0, .int 99]) rfl hl.1 (rest := []) rfl (Nat.le_of_ble_eq_true rfl) dX6_addHouse_24 ⟨Nat.le_of_ble_eq_true rfl, Nat.le_of_ble_eq_true rfl⟩ (st1 := [.int 1]) rfl ?_
    refine lv_if_eq (tgt := 39) hx hb dX6_addHouse_27 (by decide) (fun b27 => ?_) (fun b27 => ?_)
    · skip
      exact absurd b27 b11
    · skip
      refine lv_iload_n hx hb dX6_addHouse_30 rfl (lv_at hl 3 rfl) ?_
      refine lv_iconst (v := 0) hx hb dX6_addHouse_31 (by decide) ?_
      refine lv_iconst (v := 2) hx hb dX6_addHouse_32 (by decide) ?_
      refine cRS S (rr_in1 l dg cA (mw cA ad r) lg 0 2 h3 h4) kX6_96 ⟨rfl, rfl, Nat.le_of_ble_eq_true rfl, Nat.le_of_ble_eq_true rfl⟩ hK hP (As := [.int lg, .int 0, .int 2]) rfl hl.1 (rest := []) rfl (Nat.le_of_ble_eq_true rfl) dX6_addHouse_33 ⟨Nat.le_of_ble_eq_true rfl, Nat.le_of_ble_eq_true rfl⟩ (st1 := [.int 1]) rfl ?_
      refine lv_if_ne (tgt := 45) hx hb dX6_addHouse_36 (by decide) (fun b36 => ?_) (fun b36 => ?_)
      · skip
        refine lv_aload_n hx hb dX6_addHouse_45 rfl (lv_at hl 0 rfl) ?_
        refine gf S hK hP 0 ml_0 fX6_93 (v := .int 24) (mv_3 hn) dX6_addHouse_46 ?_
        refine lv_bipush (v := 24) hx hb dX6_addHouse_49 (by decide) ?_
        refine lv_icmp_ne (tgt := 60) hx hb dX6_addHouse_51 (by decide) (fun b51 => ?_) (fun b51 => ?_)
        · skip
          exact False.elim (by revert b51; decide)
        · skip
          refine lv_aload_n hx hb dX6_addHouse_54 rfl (lv_at hl 0 rfl) ?_
          refine lv_iconst (v := 3) hx hb dX6_addHouse_55 (by decide) ?_
          refine cM S (rr_fails l dg cA ad r 3 _) kX6_104 ⟨rfl, rfl, Nat.le_of_ble_eq_true rfl, Nat.le_of_ble_eq_true rfl⟩ hK hP hD hS hA 0 ml_0 (q := (RX6, TX6, 31)) rfl rfl (As := [.int 3]) rfl hl.1 (rest := []) rfl (Nat.le_of_ble_eq_true rfl) dX6_addHouse_56 ⟨Nat.le_of_ble_eq_true rfl, Nat.le_of_ble_eq_true rfl⟩ (st1 := [.int 0]) rfl (fun H locs hP hD hS => ?_)
          exact eMi S hr hlk hP hD hS dX6_addHouse_59 rfl rfl
      · skip
        exact absurd b36 b27
  · skip
    exact False.elim (by revert b11; decide)

set_option maxHeartbeats 4000000 in
set_option maxRecDepth 100000 in
theorem rr_addHouse4 (l : Launch) (dg : va_G) (cA : Nat → ClassId) (ad : Nat → Nat) (r : St) (n : Nat) (hn : r 0 3 = nI n) (hn24 : n < 24) (ns : Nat) (hns : r 0 2 = nI ns) (hns4 : ns ≤ 4) (js : Nat) (hjs : js < ns) (pl lg : Int32) (h1 : ¬ pl < 0) (h2 : ¬ 99 < pl) (h3 : ¬ lg < 0) (h4 : ¬ 2 < lg) (sz : Nat) : MetM l dg cA yX6_addHouse cX6_addHouse 4 (some .int) ({ frames := 1, cells := 0, slots := 0, locals := 22 } : Room) 0 0 (mw cA ad r) sz [.ref (ad 0), .int (nI js), .int pl, .int lg] (mw cA ad (m_addH r n (nI js) pl lg)) (some (.int (nI n))) := by
  refine ofM (by decide) (Nat.le_of_ble_eq_true rfl) (own := RX6) rfl (fun p e s0 m args below meth ccd ls A hAe S hr hlk hname hargs hK hP hD hS hA hsz hl => ?_)
  have hx := S.1
  have hb := S.2.1
  have hl : lv_has ls 4 [(0, .ref (ad 0)), (1, .int (nI js)), (2, .int pl), (3, .int lg)] := hl
  refine lv_iload_n hx hb dX6_addHouse_0 rfl (lv_at hl 1 rfl) ?_
  refine lv_iconst (v := 0) hx hb dX6_addHouse_1 (by decide) ?_
  refine lv_aload_n hx hb dX6_addHouse_2 rfl (lv_at hl 0 rfl) ?_
  refine gf S hK hP 0 ml_0 fX6_108 (v := .int (nI ns)) (mv_2 hns) dX6_addHouse_3 ?_
  refine lv_iconst (v := 1) hx hb dX6_addHouse_6 (by decide) ?_
  refine lv_isub hx hb dX6_addHouse_7 ?_
  refine cRS S (rr_in1 l dg cA (mw cA ad r) (nI js) 0 ((nI ns) - 1) (nI_pos (by omega)) (idx_hi hjs (by omega))) kX6_96 ⟨rfl, rfl, Nat.le_of_ble_eq_true rfl, Nat.le_of_ble_eq_true rfl⟩ hK hP (As := [.int (nI js), .int 0, .int ((nI ns) - 1)]) rfl hl.1 (rest := []) rfl (Nat.le_of_ble_eq_true rfl) dX6_addHouse_8 ⟨Nat.le_of_ble_eq_true rfl, Nat.le_of_ble_eq_true rfl⟩ (st1 := [.int 1]) rfl ?_
  refine lv_if_ne (tgt := 20) hx hb dX6_addHouse_11 (by decide) (fun b11 => ?_) (fun b11 => ?_)
  · skip
    refine lv_iload_n hx hb dX6_addHouse_20 rfl (lv_at hl 2 rfl) ?_
    refine lv_iconst (v := 0) hx hb dX6_addHouse_21 (by decide) ?_
    refine lv_bipush (v := 99) hx hb dX6_addHouse_22 (by decide) ?_
    refine cRS S (rr_in1 l dg cA (mw cA ad r) pl 0 99 h1 h2) kX6_96 ⟨rfl, rfl, Nat.le_of_ble_eq_true rfl, Nat.le_of_ble_eq_true rfl⟩ hK hP (As := [.int pl, .int 0, .int 99]) rfl hl.1 (rest := []) rfl (Nat.le_of_ble_eq_true rfl) dX6_addHouse_24 ⟨Nat.le_of_ble_eq_true rfl, Nat.le_of_ble_eq_true rfl⟩ (st1 := [.int 1]) rfl ?_
    refine lv_if_eq (tgt := 39) hx hb dX6_addHouse_27 (by decide) (fun b27 => ?_) (fun b27 => ?_)
    · skip
      exact absurd b27 b11
    · skip
      refine lv_iload_n hx hb dX6_addHouse_30 rfl (lv_at hl 3 rfl) ?_
      refine lv_iconst (v := 0) hx hb dX6_addHouse_31 (by decide) ?_
      refine lv_iconst (v := 2) hx hb dX6_addHouse_32 (by decide) ?_
      refine cRS S (rr_in1 l dg cA (mw cA ad r) lg 0 2 h3 h4) kX6_96 ⟨rfl, rfl, Nat.le_of_ble_eq_true rfl, Nat.le_of_ble_eq_true rfl⟩ hK hP (As := [.int lg, .int 0, .int 2]) rfl hl.1 (rest := []) rfl (Nat.le_of_ble_eq_true rfl) dX6_addHouse_33 ⟨Nat.le_of_ble_eq_true rfl, Nat.le_of_ble_eq_true rfl⟩ (st1 := [.int 1]) rfl ?_
      refine lv_if_ne (tgt := 45) hx hb dX6_addHouse_36 (by decide) (fun b36 => ?_) (fun b36 => ?_)
      · skip
        refine lv_aload_n hx hb dX6_addHouse_45 rfl (lv_at hl 0 rfl) ?_
        refine gf S hK hP 0 ml_0 fX6_93 (v := .int (nI n)) (mv_3 hn) dX6_addHouse_46 ?_
        refine lv_bipush (v := 24) hx hb dX6_addHouse_49 (by decide) ?_
        refine lv_icmp_ne (tgt := 60) hx hb dX6_addHouse_51 (by decide) (fun b51 => ?_) (fun b51 => ?_)
        · skip
          have g51 : ¬ n = 24 := fun zz => b51 ((nI_eq (a := n) (b := 24) (by omega) (by omega)).mpr zz)
          refine lv_aload_n hx hb dX6_addHouse_60 rfl (lv_at hl 0 rfl) ?_
          refine lv_iconst (v := 0) hx hb dX6_addHouse_61 (by decide) ?_
          refine pf S hK hP hD hS 0 ml_0 fX6_90 fpX6 rfl (v := .int 0) rfl rfl (Nat.le_of_ble_eq_true rfl) ms_0_0 dX6_addHouse_62 (fun H locs hP hD hS => ?_)
          refine lv_aload_n hx hb dX6_addHouse_65 rfl (lv_at hl 0 rfl) ?_
          refine gf S hK hP 0 ml_0 fX6_13 (v := .ref (ad 1)) mr_1 dX6_addHouse_66 ?_
          refine lv_aload_n hx hb dX6_addHouse_69 rfl (lv_at hl 0 rfl) ?_
          refine gf S hK hP 0 ml_0 fX6_93 (v := .int (nI n)) (mv_3 hn) dX6_addHouse_70 ?_
          refine lv_iload_n hx hb dX6_addHouse_73 rfl (lv_at hl 1 rfl) ?_
          refine ist S hK hP hD hS 1 ml_1 (j := n) (x := nI js) (by omega) (Nat.le_of_ble_eq_true rfl) ms_1 dX6_addHouse_74 (fun H locs hP hD hS => ?_)
          refine lv_aload_n hx hb dX6_addHouse_75 rfl (lv_at hl 0 rfl) ?_
          refine gf S hK hP 0 ml_0 fX6_17 (v := .ref (ad 2)) mr_2 dX6_addHouse_76 ?_
          refine lv_aload_n hx hb dX6_addHouse_79 rfl (lv_at hl 0 rfl) ?_
          refine gf S hK hP 0 ml_0 fX6_93 (v := .int (nI n)) (mv_3 hn) dX6_addHouse_80 ?_
          refine lv_iload_n hx hb dX6_addHouse_83 rfl (lv_at hl 2 rfl) ?_
          refine ist S hK hP hD hS 2 ml_2 (j := n) (x := pl) (by omega) (Nat.le_of_ble_eq_true rfl) ms_2 dX6_addHouse_84 (fun H locs hP hD hS => ?_)
          refine lv_aload_n hx hb dX6_addHouse_85 rfl (lv_at hl 0 rfl) ?_
          refine gf S hK hP 0 ml_0 fX6_20 (v := .ref (ad 3)) mr_3 dX6_addHouse_86 ?_
          refine lv_aload_n hx hb dX6_addHouse_89 rfl (lv_at hl 0 rfl) ?_
          refine gf S hK hP 0 ml_0 fX6_93 (v := .int (nI n)) (mv_3 hn) dX6_addHouse_90 ?_
          refine lv_iload_n hx hb dX6_addHouse_93 rfl (lv_at hl 3 rfl) ?_
          refine ist S hK hP hD hS 3 ml_3 (j := n) (x := lg) (by omega) (Nat.le_of_ble_eq_true rfl) ms_3 dX6_addHouse_94 (fun H locs hP hD hS => ?_)
          refine lv_aload_n hx hb dX6_addHouse_95 rfl (lv_at hl 0 rfl) ?_
          refine gf S hK hP 0 ml_0 fX6_23 (v := .ref (ad 4)) mr_4 dX6_addHouse_96 ?_
          refine lv_aload_n hx hb dX6_addHouse_99 rfl (lv_at hl 0 rfl) ?_
          refine gf S hK hP 0 ml_0 fX6_93 (v := .int (nI n)) (mv_3 hn) dX6_addHouse_100 ?_
          refine lv_bipush (v := 117) hx hb dX6_addHouse_103 (by decide) ?_
          refine ist S hK hP hD hS 4 ml_4 (j := n) (x := 117) (by omega) (Nat.le_of_ble_eq_true rfl) ms_4 dX6_addHouse_105 (fun H locs hP hD hS => ?_)
          refine lv_aload_n hx hb dX6_addHouse_106 rfl (lv_at hl 0 rfl) ?_
          refine gf S hK hP 0 ml_0 fX6_66 (v := .ref (ad 18)) mr_18 dX6_addHouse_107 ?_
          refine lv_aload_n hx hb dX6_addHouse_110 rfl (lv_at hl 0 rfl) ?_
          refine gf S hK hP 0 ml_0 fX6_93 (v := .int (nI n)) (mv_3 hn) dX6_addHouse_111 ?_
          refine lv_iconst (v := (-1)) hx hb dX6_addHouse_114 (by decide) ?_
          refine ist S hK hP hD hS 18 ml_18 (j := n) (x := (-1)) (by omega) (Nat.le_of_ble_eq_true rfl) ms_18 dX6_addHouse_115 (fun H locs hP hD hS => ?_)
          refine lv_aload_n hx hb dX6_addHouse_116 rfl (lv_at hl 0 rfl) ?_
          refine lv_dup hx hb dX6_addHouse_117 rfl ?_
          refine gf S hK hP 0 ml_0 fX6_93 (v := .int (nI n)) (mv_3 hn) dX6_addHouse_118 ?_
          refine lv_iconst (v := 1) hx hb dX6_addHouse_121 (by decide) ?_
          refine lv_iadd hx hb dX6_addHouse_122 ?_
          refine lv_as (y := nI (n + 1)) (nI_1 n) ?_
          refine pf S hK hP hD hS 0 ml_0 fX6_93 fpX6 rfl (v := .int (nI (n + 1))) rfl rfl (Nat.le_of_ble_eq_true rfl) ms_0_3 dX6_addHouse_123 (fun H locs hP hD hS => ?_)
          refine lv_aload_n hx hb dX6_addHouse_126 rfl (lv_at hl 0 rfl) ?_
          refine gf S hK hP 0 ml_0 fX6_93 (v := .int (nI (n + 1))) (mv_3 up_at) dX6_addHouse_127 ?_
          refine lv_iconst (v := 1) hx hb dX6_addHouse_130 (by decide) ?_
          refine lv_isub hx hb dX6_addHouse_131 ?_
          refine lv_as (y := nI n) (nI_pred n) ?_
          exact eMi S hr hlk hP hD hS dX6_addHouse_132 rfl rfl
        · skip
          have g51 : n = 24 := (nI_eq (a := n) (b := 24) (by omega) (by omega)).mp b51
          exact absurd g51 (by omega)
      · skip
        exact absurd b36 b27
  · skip
    exact False.elim (by revert b11; decide)

set_option maxHeartbeats 4000000 in
set_option maxRecDepth 100000 in
theorem rr_addInt1 (l : Launch) (dg : va_G) (cA : Nat → ClassId) (ad : Nat → Nat) (r : St) (ho lg mi : Int32) (hb2 : ¬ ((¬ ho < 0 ∧ ¬ 99 < ho) ∧ (¬ lg < 1 ∧ ¬ 7 < lg) ∧ (¬ mi < 30 ∧ ¬ 600 < mi))) (sz : Nat) : MetM l dg cA yX6_addInterviewer cX6_addInterviewer 4 (some .int) ({ frames := 1, cells := 0, slots := 0, locals := 22 } : Room) 0 0 (mw cA ad r) sz [.ref (ad 0), .int ho, .int lg, .int mi] (mw cA ad (up r 0 0 1)) (some (.int 0)) := by
  refine ofM (by decide) (Nat.le_of_ble_eq_true rfl) (own := RX6) rfl (fun p e s0 m args below meth ccd ls A hAe S hr hlk hname hargs hK hP hD hS hA hsz hl => ?_)
  have hx := S.1
  have hb := S.2.1
  have hl : lv_has ls 4 [(0, .ref (ad 0)), (1, .int ho), (2, .int lg), (3, .int mi)] := hl
  refine lv_iload_n hx hb dX6_addInterviewer_0 rfl (lv_at hl 1 rfl) ?_
  refine lv_iconst (v := 0) hx hb dX6_addInterviewer_1 (by decide) ?_
  refine lv_bipush (v := 99) hx hb dX6_addInterviewer_2 (by decide) ?_
  by_cases c4 : ¬ ho < 0 ∧ ¬ 99 < ho
  · skip
    refine cRS S (rr_in1 l dg cA (mw cA ad r) ho 0 99 c4.1 c4.2) kX6_96 ⟨rfl, rfl, Nat.le_of_ble_eq_true rfl, Nat.le_of_ble_eq_true rfl⟩ hK hP (As := [.int ho, .int 0, .int 99]) rfl hl.1 (rest := []) rfl (Nat.le_of_ble_eq_true rfl) dX6_addInterviewer_4 ⟨Nat.le_of_ble_eq_true rfl, Nat.le_of_ble_eq_true rfl⟩ (st1 := [.int 1]) rfl ?_
    refine lv_if_eq (tgt := 32) hx hb dX6_addInterviewer_7 (by decide) (fun b7 => ?_) (fun b7 => ?_)
    · skip
      exact False.elim (by revert b7; decide)
    · skip
      refine lv_iload_n hx hb dX6_addInterviewer_10 rfl (lv_at hl 2 rfl) ?_
      refine lv_iconst (v := 1) hx hb dX6_addInterviewer_11 (by decide) ?_
      refine lv_bipush (v := 7) hx hb dX6_addInterviewer_12 (by decide) ?_
      by_cases c14 : ¬ lg < 1 ∧ ¬ 7 < lg
      · skip
        refine cRS S (rr_in1 l dg cA (mw cA ad r) lg 1 7 c14.1 c14.2) kX6_96 ⟨rfl, rfl, Nat.le_of_ble_eq_true rfl, Nat.le_of_ble_eq_true rfl⟩ hK hP (As := [.int lg, .int 1, .int 7]) rfl hl.1 (rest := []) rfl (Nat.le_of_ble_eq_true rfl) dX6_addInterviewer_14 ⟨Nat.le_of_ble_eq_true rfl, Nat.le_of_ble_eq_true rfl⟩ (st1 := [.int 1]) rfl ?_
        refine lv_if_eq (tgt := 32) hx hb dX6_addInterviewer_17 (by decide) (fun b17 => ?_) (fun b17 => ?_)
        · skip
          exact absurd b17 b7
        · skip
          refine lv_iload_n hx hb dX6_addInterviewer_20 rfl (lv_at hl 3 rfl) ?_
          refine lv_bipush (v := 30) hx hb dX6_addInterviewer_21 (by decide) ?_
          refine lv_sipush (v := 600) hx hb dX6_addInterviewer_23 (by decide) ?_
          refine cRS S (rr_in0 l dg cA (mw cA ad r) mi 30 600 (fun z => hb2 ⟨c4, c14, z⟩)) kX6_96 ⟨rfl, rfl, Nat.le_of_ble_eq_true rfl, Nat.le_of_ble_eq_true rfl⟩ hK hP (As := [.int mi, .int 30, .int 600]) rfl hl.1 (rest := []) rfl (Nat.le_of_ble_eq_true rfl) dX6_addInterviewer_26 ⟨Nat.le_of_ble_eq_true rfl, Nat.le_of_ble_eq_true rfl⟩ (st1 := [.int 0]) rfl ?_
          refine lv_if_ne (tgt := 38) hx hb dX6_addInterviewer_29 (by decide) (fun b29 => ?_) (fun b29 => ?_)
          · skip
            exact False.elim (by revert b29; decide)
          · skip
            refine lv_aload_n hx hb dX6_addInterviewer_32 rfl (lv_at hl 0 rfl) ?_
            refine lv_iconst (v := 1) hx hb dX6_addInterviewer_33 (by decide) ?_
            refine cM S (rr_fails l dg cA ad r 1 _) kX6_104 ⟨rfl, rfl, Nat.le_of_ble_eq_true rfl, Nat.le_of_ble_eq_true rfl⟩ hK hP hD hS hA 0 ml_0 (q := (RX6, TX6, 31)) rfl rfl (As := [.int 1]) rfl hl.1 (rest := []) rfl (Nat.le_of_ble_eq_true rfl) dX6_addInterviewer_34 ⟨Nat.le_of_ble_eq_true rfl, Nat.le_of_ble_eq_true rfl⟩ (st1 := [.int 0]) rfl (fun H locs hP hD hS => ?_)
            exact eMi S hr hlk hP hD hS dX6_addInterviewer_37 rfl rfl
      · skip
        refine cRS S (rr_in0 l dg cA (mw cA ad r) lg 1 7 c14) kX6_96 ⟨rfl, rfl, Nat.le_of_ble_eq_true rfl, Nat.le_of_ble_eq_true rfl⟩ hK hP (As := [.int lg, .int 1, .int 7]) rfl hl.1 (rest := []) rfl (Nat.le_of_ble_eq_true rfl) dX6_addInterviewer_14 ⟨Nat.le_of_ble_eq_true rfl, Nat.le_of_ble_eq_true rfl⟩ (st1 := [.int 0]) rfl ?_
        refine lv_if_eq (tgt := 32) hx hb dX6_addInterviewer_17 (by decide) (fun b17 => ?_) (fun b17 => ?_)
        · skip
          refine lv_aload_n hx hb dX6_addInterviewer_32 rfl (lv_at hl 0 rfl) ?_
          refine lv_iconst (v := 1) hx hb dX6_addInterviewer_33 (by decide) ?_
          refine cM S (rr_fails l dg cA ad r 1 _) kX6_104 ⟨rfl, rfl, Nat.le_of_ble_eq_true rfl, Nat.le_of_ble_eq_true rfl⟩ hK hP hD hS hA 0 ml_0 (q := (RX6, TX6, 31)) rfl rfl (As := [.int 1]) rfl hl.1 (rest := []) rfl (Nat.le_of_ble_eq_true rfl) dX6_addInterviewer_34 ⟨Nat.le_of_ble_eq_true rfl, Nat.le_of_ble_eq_true rfl⟩ (st1 := [.int 0]) rfl (fun H locs hP hD hS => ?_)
          exact eMi S hr hlk hP hD hS dX6_addInterviewer_37 rfl rfl
        · skip
          exact False.elim (by revert b17; decide)
  · skip
    refine cRS S (rr_in0 l dg cA (mw cA ad r) ho 0 99 c4) kX6_96 ⟨rfl, rfl, Nat.le_of_ble_eq_true rfl, Nat.le_of_ble_eq_true rfl⟩ hK hP (As := [.int ho, .int 0, .int 99]) rfl hl.1 (rest := []) rfl (Nat.le_of_ble_eq_true rfl) dX6_addInterviewer_4 ⟨Nat.le_of_ble_eq_true rfl, Nat.le_of_ble_eq_true rfl⟩ (st1 := [.int 0]) rfl ?_
    refine lv_if_eq (tgt := 32) hx hb dX6_addInterviewer_7 (by decide) (fun b7 => ?_) (fun b7 => ?_)
    · skip
      refine lv_aload_n hx hb dX6_addInterviewer_32 rfl (lv_at hl 0 rfl) ?_
      refine lv_iconst (v := 1) hx hb dX6_addInterviewer_33 (by decide) ?_
      refine cM S (rr_fails l dg cA ad r 1 _) kX6_104 ⟨rfl, rfl, Nat.le_of_ble_eq_true rfl, Nat.le_of_ble_eq_true rfl⟩ hK hP hD hS hA 0 ml_0 (q := (RX6, TX6, 31)) rfl rfl (As := [.int 1]) rfl hl.1 (rest := []) rfl (Nat.le_of_ble_eq_true rfl) dX6_addInterviewer_34 ⟨Nat.le_of_ble_eq_true rfl, Nat.le_of_ble_eq_true rfl⟩ (st1 := [.int 0]) rfl (fun H locs hP hD hS => ?_)
      exact eMi S hr hlk hP hD hS dX6_addInterviewer_37 rfl rfl
    · skip
      exact False.elim (by revert b7; decide)

set_option maxHeartbeats 4000000 in
set_option maxRecDepth 100000 in
theorem rr_addInt2 (l : Launch) (dg : va_G) (cA : Nat → ClassId) (ad : Nat → Nat) (r : St) (hni : r 0 4 = 4) (ho lg mi : Int32) (hb2 : (¬ ho < 0 ∧ ¬ 99 < ho) ∧ (¬ lg < 1 ∧ ¬ 7 < lg) ∧ (¬ mi < 30 ∧ ¬ 600 < mi)) (sz : Nat) : MetM l dg cA yX6_addInterviewer cX6_addInterviewer 4 (some .int) ({ frames := 1, cells := 0, slots := 0, locals := 22 } : Room) 0 0 (mw cA ad r) sz [.ref (ad 0), .int ho, .int lg, .int mi] (mw cA ad (up r 0 0 2)) (some (.int 0)) := by
  refine ofM (by decide) (Nat.le_of_ble_eq_true rfl) (own := RX6) rfl (fun p e s0 m args below meth ccd ls A hAe S hr hlk hname hargs hK hP hD hS hA hsz hl => ?_)
  have hx := S.1
  have hb := S.2.1
  have hl : lv_has ls 4 [(0, .ref (ad 0)), (1, .int ho), (2, .int lg), (3, .int mi)] := hl
  refine lv_iload_n hx hb dX6_addInterviewer_0 rfl (lv_at hl 1 rfl) ?_
  refine lv_iconst (v := 0) hx hb dX6_addInterviewer_1 (by decide) ?_
  refine lv_bipush (v := 99) hx hb dX6_addInterviewer_2 (by decide) ?_
  refine cRS S (rr_in1 l dg cA (mw cA ad r) ho 0 99 hb2.1.1 hb2.1.2) kX6_96 ⟨rfl, rfl, Nat.le_of_ble_eq_true rfl, Nat.le_of_ble_eq_true rfl⟩ hK hP (As := [.int ho, .int 0, .int 99]) rfl hl.1 (rest := []) rfl (Nat.le_of_ble_eq_true rfl) dX6_addInterviewer_4 ⟨Nat.le_of_ble_eq_true rfl, Nat.le_of_ble_eq_true rfl⟩ (st1 := [.int 1]) rfl ?_
  refine lv_if_eq (tgt := 32) hx hb dX6_addInterviewer_7 (by decide) (fun b7 => ?_) (fun b7 => ?_)
  · skip
    exact False.elim (by revert b7; decide)
  · skip
    refine lv_iload_n hx hb dX6_addInterviewer_10 rfl (lv_at hl 2 rfl) ?_
    refine lv_iconst (v := 1) hx hb dX6_addInterviewer_11 (by decide) ?_
    refine lv_bipush (v := 7) hx hb dX6_addInterviewer_12 (by decide) ?_
    refine cRS S (rr_in1 l dg cA (mw cA ad r) lg 1 7 hb2.2.1.1 hb2.2.1.2) kX6_96 ⟨rfl, rfl, Nat.le_of_ble_eq_true rfl, Nat.le_of_ble_eq_true rfl⟩ hK hP (As := [.int lg, .int 1, .int 7]) rfl hl.1 (rest := []) rfl (Nat.le_of_ble_eq_true rfl) dX6_addInterviewer_14 ⟨Nat.le_of_ble_eq_true rfl, Nat.le_of_ble_eq_true rfl⟩ (st1 := [.int 1]) rfl ?_
    refine lv_if_eq (tgt := 32) hx hb dX6_addInterviewer_17 (by decide) (fun b17 => ?_) (fun b17 => ?_)
    · skip
      exact absurd b17 b7
    · skip
      refine lv_iload_n hx hb dX6_addInterviewer_20 rfl (lv_at hl 3 rfl) ?_
      refine lv_bipush (v := 30) hx hb dX6_addInterviewer_21 (by decide) ?_
      refine lv_sipush (v := 600) hx hb dX6_addInterviewer_23 (by decide) ?_
      refine cRS S (rr_in1 l dg cA (mw cA ad r) mi 30 600 hb2.2.2.1 hb2.2.2.2) kX6_96 ⟨rfl, rfl, Nat.le_of_ble_eq_true rfl, Nat.le_of_ble_eq_true rfl⟩ hK hP (As := [.int mi, .int 30, .int 600]) rfl hl.1 (rest := []) rfl (Nat.le_of_ble_eq_true rfl) dX6_addInterviewer_26 ⟨Nat.le_of_ble_eq_true rfl, Nat.le_of_ble_eq_true rfl⟩ (st1 := [.int 1]) rfl ?_
      refine lv_if_ne (tgt := 38) hx hb dX6_addInterviewer_29 (by decide) (fun b29 => ?_) (fun b29 => ?_)
      · skip
        refine lv_aload_n hx hb dX6_addInterviewer_38 rfl (lv_at hl 0 rfl) ?_
        refine gf S hK hP 0 ml_0 fX6_100 (v := .int 4) (mv_4 hni) dX6_addInterviewer_39 ?_
        refine lv_iconst (v := 4) hx hb dX6_addInterviewer_42 (by decide) ?_
        refine lv_icmp_ne (tgt := 52) hx hb dX6_addInterviewer_43 (by decide) (fun b43 => ?_) (fun b43 => ?_)
        · skip
          exact False.elim (by revert b43; decide)
        · skip
          refine lv_aload_n hx hb dX6_addInterviewer_46 rfl (lv_at hl 0 rfl) ?_
          refine lv_iconst (v := 2) hx hb dX6_addInterviewer_47 (by decide) ?_
          refine cM S (rr_fails l dg cA ad r 2 _) kX6_104 ⟨rfl, rfl, Nat.le_of_ble_eq_true rfl, Nat.le_of_ble_eq_true rfl⟩ hK hP hD hS hA 0 ml_0 (q := (RX6, TX6, 31)) rfl rfl (As := [.int 2]) rfl hl.1 (rest := []) rfl (Nat.le_of_ble_eq_true rfl) dX6_addInterviewer_48 ⟨Nat.le_of_ble_eq_true rfl, Nat.le_of_ble_eq_true rfl⟩ (st1 := [.int 0]) rfl (fun H locs hP hD hS => ?_)
          exact eMi S hr hlk hP hD hS dX6_addInterviewer_51 rfl rfl
      · skip
        exact absurd b29 b17

set_option maxHeartbeats 4000000 in
set_option maxRecDepth 100000 in
theorem rr_addInt3 (l : Launch) (dg : va_G) (cA : Nat → ClassId) (ad : Nat → Nat) (r : St) (ni : Nat) (hni : r 0 4 = nI ni) (hni4 : ni < 4) (ho lg mi : Int32) (hb2 : (¬ ho < 0 ∧ ¬ 99 < ho) ∧ (¬ lg < 1 ∧ ¬ 7 < lg) ∧ (¬ mi < 30 ∧ ¬ 600 < mi)) (sz : Nat) : MetM l dg cA yX6_addInterviewer cX6_addInterviewer 4 (some .int) ({ frames := 1, cells := 0, slots := 0, locals := 22 } : Room) 0 0 (mw cA ad r) sz [.ref (ad 0), .int ho, .int lg, .int mi] (mw cA ad (m_addI r ni ho lg mi)) (some (.int (nI ni))) := by
  refine ofM (by decide) (Nat.le_of_ble_eq_true rfl) (own := RX6) rfl (fun p e s0 m args below meth ccd ls A hAe S hr hlk hname hargs hK hP hD hS hA hsz hl => ?_)
  have hx := S.1
  have hb := S.2.1
  have hl : lv_has ls 4 [(0, .ref (ad 0)), (1, .int ho), (2, .int lg), (3, .int mi)] := hl
  refine lv_iload_n hx hb dX6_addInterviewer_0 rfl (lv_at hl 1 rfl) ?_
  refine lv_iconst (v := 0) hx hb dX6_addInterviewer_1 (by decide) ?_
  refine lv_bipush (v := 99) hx hb dX6_addInterviewer_2 (by decide) ?_
  refine cRS S (rr_in1 l dg cA (mw cA ad r) ho 0 99 hb2.1.1 hb2.1.2) kX6_96 ⟨rfl, rfl, Nat.le_of_ble_eq_true rfl, Nat.le_of_ble_eq_true rfl⟩ hK hP (As := [.int ho, .int 0, .int 99]) rfl hl.1 (rest := []) rfl (Nat.le_of_ble_eq_true rfl) dX6_addInterviewer_4 ⟨Nat.le_of_ble_eq_true rfl, Nat.le_of_ble_eq_true rfl⟩ (st1 := [.int 1]) rfl ?_
  refine lv_if_eq (tgt := 32) hx hb dX6_addInterviewer_7 (by decide) (fun b7 => ?_) (fun b7 => ?_)
  · skip
    exact False.elim (by revert b7; decide)
  · skip
    refine lv_iload_n hx hb dX6_addInterviewer_10 rfl (lv_at hl 2 rfl) ?_
    refine lv_iconst (v := 1) hx hb dX6_addInterviewer_11 (by decide) ?_
    refine lv_bipush (v := 7) hx hb dX6_addInterviewer_12 (by decide) ?_
    refine cRS S (rr_in1 l dg cA (mw cA ad r) lg 1 7 hb2.2.1.1 hb2.2.1.2) kX6_96 ⟨rfl, rfl, Nat.le_of_ble_eq_true rfl, Nat.le_of_ble_eq_true rfl⟩ hK hP (As := [.int lg, .int 1, .int 7]) rfl hl.1 (rest := []) rfl (Nat.le_of_ble_eq_true rfl) dX6_addInterviewer_14 ⟨Nat.le_of_ble_eq_true rfl, Nat.le_of_ble_eq_true rfl⟩ (st1 := [.int 1]) rfl ?_
    refine lv_if_eq (tgt := 32) hx hb dX6_addInterviewer_17 (by decide) (fun b17 => ?_) (fun b17 => ?_)
    · skip
      exact absurd b17 b7
    · skip
      refine lv_iload_n hx hb dX6_addInterviewer_20 rfl (lv_at hl 3 rfl) ?_
      refine lv_bipush (v := 30) hx hb dX6_addInterviewer_21 (by decide) ?_
      refine lv_sipush (v := 600) hx hb dX6_addInterviewer_23 (by decide) ?_
      refine cRS S (rr_in1 l dg cA (mw cA ad r) mi 30 600 hb2.2.2.1 hb2.2.2.2) kX6_96 ⟨rfl, rfl, Nat.le_of_ble_eq_true rfl, Nat.le_of_ble_eq_true rfl⟩ hK hP (As := [.int mi, .int 30, .int 600]) rfl hl.1 (rest := []) rfl (Nat.le_of_ble_eq_true rfl) dX6_addInterviewer_26 ⟨Nat.le_of_ble_eq_true rfl, Nat.le_of_ble_eq_true rfl⟩ (st1 := [.int 1]) rfl ?_
      refine lv_if_ne (tgt := 38) hx hb dX6_addInterviewer_29 (by decide) (fun b29 => ?_) (fun b29 => ?_)
      · skip
        refine lv_aload_n hx hb dX6_addInterviewer_38 rfl (lv_at hl 0 rfl) ?_
        refine gf S hK hP 0 ml_0 fX6_100 (v := .int (nI ni)) (mv_4 hni) dX6_addInterviewer_39 ?_
        refine lv_iconst (v := 4) hx hb dX6_addInterviewer_42 (by decide) ?_
        refine lv_icmp_ne (tgt := 52) hx hb dX6_addInterviewer_43 (by decide) (fun b43 => ?_) (fun b43 => ?_)
        · skip
          have g43 : ¬ ni = 4 := fun zz => b43 ((nI_eq (a := ni) (b := 4) (by omega) (by omega)).mpr zz)
          refine lv_aload_n hx hb dX6_addInterviewer_52 rfl (lv_at hl 0 rfl) ?_
          refine lv_iconst (v := 0) hx hb dX6_addInterviewer_53 (by decide) ?_
          refine pf S hK hP hD hS 0 ml_0 fX6_90 fpX6 rfl (v := .int 0) rfl rfl (Nat.le_of_ble_eq_true rfl) ms_0_0 dX6_addInterviewer_54 (fun H locs hP hD hS => ?_)
          refine lv_aload_n hx hb dX6_addInterviewer_57 rfl (lv_at hl 0 rfl) ?_
          refine gf S hK hP 0 ml_0 fX6_78 (v := .ref (ad 22)) mr_22 dX6_addInterviewer_58 ?_
          refine lv_aload_n hx hb dX6_addInterviewer_61 rfl (lv_at hl 0 rfl) ?_
          refine gf S hK hP 0 ml_0 fX6_100 (v := .int (nI ni)) (mv_4 hni) dX6_addInterviewer_62 ?_
          refine lv_iload_n hx hb dX6_addInterviewer_65 rfl (lv_at hl 1 rfl) ?_
          refine ist S hK hP hD hS 22 ml_22 (j := ni) (x := ho) (by omega) (Nat.le_of_ble_eq_true rfl) ms_22 dX6_addInterviewer_66 (fun H locs hP hD hS => ?_)
          refine lv_aload_n hx hb dX6_addInterviewer_67 rfl (lv_at hl 0 rfl) ?_
          refine gf S hK hP 0 ml_0 fX6_81 (v := .ref (ad 23)) mr_23 dX6_addInterviewer_68 ?_
          refine lv_aload_n hx hb dX6_addInterviewer_71 rfl (lv_at hl 0 rfl) ?_
          refine gf S hK hP 0 ml_0 fX6_100 (v := .int (nI ni)) (mv_4 hni) dX6_addInterviewer_72 ?_
          refine lv_iload_n hx hb dX6_addInterviewer_75 rfl (lv_at hl 2 rfl) ?_
          refine ist S hK hP hD hS 23 ml_23 (j := ni) (x := lg) (by omega) (Nat.le_of_ble_eq_true rfl) ms_23 dX6_addInterviewer_76 (fun H locs hP hD hS => ?_)
          refine lv_aload_n hx hb dX6_addInterviewer_77 rfl (lv_at hl 0 rfl) ?_
          refine gf S hK hP 0 ml_0 fX6_84 (v := .ref (ad 24)) mr_24 dX6_addInterviewer_78 ?_
          refine lv_aload_n hx hb dX6_addInterviewer_81 rfl (lv_at hl 0 rfl) ?_
          refine gf S hK hP 0 ml_0 fX6_100 (v := .int (nI ni)) (mv_4 hni) dX6_addInterviewer_82 ?_
          refine lv_iload_n hx hb dX6_addInterviewer_85 rfl (lv_at hl 3 rfl) ?_
          refine ist S hK hP hD hS 24 ml_24 (j := ni) (x := mi) (by omega) (Nat.le_of_ble_eq_true rfl) ms_24 dX6_addInterviewer_86 (fun H locs hP hD hS => ?_)
          refine lv_aload_n hx hb dX6_addInterviewer_87 rfl (lv_at hl 0 rfl) ?_
          refine lv_dup hx hb dX6_addInterviewer_88 rfl ?_
          refine gf S hK hP 0 ml_0 fX6_100 (v := .int (nI ni)) (mv_4 hni) dX6_addInterviewer_89 ?_
          refine lv_iconst (v := 1) hx hb dX6_addInterviewer_92 (by decide) ?_
          refine lv_iadd hx hb dX6_addInterviewer_93 ?_
          refine lv_as (y := nI (ni + 1)) (nI_1 ni) ?_
          refine pf S hK hP hD hS 0 ml_0 fX6_100 fpX6 rfl (v := .int (nI (ni + 1))) rfl rfl (Nat.le_of_ble_eq_true rfl) ms_0_4 dX6_addInterviewer_94 (fun H locs hP hD hS => ?_)
          refine lv_aload_n hx hb dX6_addInterviewer_97 rfl (lv_at hl 0 rfl) ?_
          refine gf S hK hP 0 ml_0 fX6_100 (v := .int (nI (ni + 1))) (mv_4 up_at) dX6_addInterviewer_98 ?_
          refine lv_iconst (v := 1) hx hb dX6_addInterviewer_101 (by decide) ?_
          refine lv_isub hx hb dX6_addInterviewer_102 ?_
          refine lv_as (y := nI ni) (nI_pred ni) ?_
          exact eMi S hr hlk hP hD hS dX6_addInterviewer_103 rfl rfl
        · skip
          have g43 : ni = 4 := (nI_eq (a := ni) (b := 4) (by omega) (by omega)).mp b43
          exact absurd g43 (by omega)
      · skip
        exact absurd b29 b17
