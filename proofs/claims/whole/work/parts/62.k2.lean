/-! the law's cases, second half -/
set_option maxHeartbeats 4000000 in
set_option maxRecDepth 100000 in
theorem k_check {p : Program} {l : Launch} {e : Env} {s : State} {m : MethodId} {args : Array Value} {below : List Frame} {meth : Method} {c : Code} {Q : State → Prop} {dg : va_G} {cA : Nat → ClassId} {A : Nat → Prop} {b L : Nat} {xs : Nat → Int32} (C : LC p l dg cA s m c args A b L xs) (hL : L ≤ 2048) (k : Nat) (hk : 4 * k + 4 ≤ L) {u ad : Nat → Nat} {o od n ni ns hs : Nat} {cs r : St} {f : Nat → Int64} {g : Nat → UInt64} {H : Heap} {locs : List Loc} {cells slots : Nat} {ls : Array Slot} (Re : Rel cs r n ni ns hs) (hhs : hs ≤ k) (hP : PP dg (LW cA u ad o od n ni cs r f g) H) (hD : va_D A (LW cA u ad o od n ni cs r f g)) (hS : va_S A s.heap H locs) (hl : lv_has ls 9 (lL b (u 0) (ad 0) o od (nI (4 * k)))) (hce : cells ≤ 60 + 8 * k) (hsl : slots ≤ 2000 + 100 * k) (K : KN p l e s m args below meth c Q dg cA A b (u 0) ad o od k) : W p l e room_1 s m args below meth c H locs cells slots Q (F0 m 767 ls []) := by
  have hx := C.1.1
  have hb := C.1.2.1
  have hK := C.2.1
  obtain ⟨kk, f1, w, c1, r1, n1, ni1, ns1, hs1, mc, ms, rm2, h1, ⟨hmc, hms⟩, h2, h3, h4, h5, Re1, hhs1⟩ := p_check l dg cA C.2.2.2.2.2.2 (u := u) (ad := ad) (o := o) (f := f) Re (by omega) (xs (4 * k + 1)) (xs (4 * k + 2))
  refine lv_aload_n hx hb dL_law_767 rfl (lv_at hl 1 rfl) ?_
  refine lv_aload_n hx hb dL_law_768 rfl (lv_at hl 0 rfl) ?_
  refine lv_iload hx hb dL_law_769 (lv_at hl 5 rfl) ?_
  refine lv_iconst (v := 1) hx hb dL_law_771 (by decide) ?_
  refine lv_iadd hx hb dL_law_772 ?_
  refine lv_as (y := nI (4 * k + 1)) (nI_1 (4 * k)) ?_
  refine sldk C hS (j := 4 * k + 1) (by omega) hL dL_law_773 ?_
  refine lv_aload_n hx hb dL_law_774 rfl (lv_at hl 0 rfl) ?_
  refine lv_iload hx hb dL_law_775 (lv_at hl 5 rfl) ?_
  refine lv_iconst (v := 2) hx hb dL_law_777 (by decide) ?_
  refine lv_iadd hx hb dL_law_778 ?_
  refine lv_as (y := nI (4 * k + 2)) (nI_a2 (4 * k)) ?_
  refine sldk C hS (j := 4 * k + 2) (by omega) hL dL_law_779 ?_
  refine lv_aload_n hx hb dL_law_780 rfl (lv_at hl 3 rfl) ?_
  refine lwZ C h1 kL_142 (by decide) hmc hms (by omega) (by omega) hP hD hS rfl hl.1 (rest := []) rfl (Nat.le_of_ble_eq_true rfl) dL_law_781 (fun z H locs hP hD hS => ?_)
  refine lv_istore (lv' := [(6, .int kk), (0, .ref b), (1, .ref (u 0)), (2, .ref (ad 0)), (3, .ref o), (4, .ref od), (5, .int (nI (4 * k)))]) hx hb dL_law_784 hl (by decide) rfl (fun ls hl => ?_)
  refine lv_aload_n hx hb dL_law_786 rfl (lv_at hl 3 rfl) ?_
  refine lv_aload_n hx hb dL_law_787 rfl (lv_at hl 1 rfl) ?_
  refine lv_iload hx hb dL_law_788 (lv_at hl 6 rfl) ?_
  refine lv_iconst (v := 1) hx hb dL_law_790 (by decide) ?_
  refine lv_iadd hx hb dL_law_791 ?_
  refine lv_as (y := nI (4 * k + 1)) (nI_1 (4 * k)) ?_
  refine sldk C hS (j := 4 * k + 1) (by omega) hL dL_law_792 ?_
  refine lv_aload_n hx hb dL_law_793 rfl (lv_at hl 1 rfl) ?_
  refine lv_iload hx hb dL_law_794 (lv_at hl 6 rfl) ?_
  refine lv_iconst (v := 2) hx hb dL_law_796 (by decide) ?_
  refine lv_iadd hx hb dL_law_797 ?_
  refine lv_as (y := nI (4 * k + 2)) (nI_a2 (4 * k)) ?_
  refine sldk C hS (j := 4 * k + 2) (by omega) hL dL_law_798 ?_
  refine lwM C (fun sz => Met.ofM (h2 sz)) kL_144 h3 (by decide) (by omega) (by omega) hP hD hS rfl hl.1 (rest := []) rfl (Nat.le_of_ble_eq_true rfl) dL_law_799 (st1 := [.int w]) rfl (fun H locs hP hD hS => ?_)
  refine lv_istore (lv' := [(7, .int w), (6, .int kk), (0, .ref b), (1, .ref (u 0)), (2, .ref (ad 0)), (3, .ref o), (4, .ref od), (5, .int (nI (4 * k)))]) hx hb dL_law_802 hl (by decide) rfl (fun ls hl => ?_)
  refine lv_aload_n hx hb dL_law_804 rfl (lv_at hl 4 rfl) ?_
  refine lwM C (fun sz => Met.ofR (rr_thrown l dg cA ad r1) sz) kL_107 ⟨rfl, rfl, (Nat.le_of_ble_eq_true rfl), (Nat.le_of_ble_eq_true rfl)⟩ (by decide) (by omega) (by omega) hP hD hS rfl hl.1 (rest := []) rfl (Nat.le_of_ble_eq_true rfl) dL_law_805 (st1 := [.int (r1 0 0)]) rfl (fun H locs hP hD hS => ?_)
  refine lv_as (y := kk) h4 ?_
  refine lv_iload hx hb dL_law_808 (lv_at hl 1 rfl) ?_
  refine lv_icmp_eq (tgt := 815) hx hb dL_law_810 (by decide) (fun _ => ?_) (fun h => absurd rfl h)
  refine lv_iload hx hb dL_law_815 (lv_at hl 1 rfl) ?_
  refine lv_if_ne (tgt := 839) hx hb dL_law_817 (by decide) (fun _ => ?_) (fun h => ?_)
  · skip
    refine lv_goto (tgt := 1604) hx hb dL_law_839 (by decide) ?_
    exact K (fixz (u 0) z) n1 ni1 ns1 hs1 c1 r1 f1 g H locs _ _ ls fixz_0 Re1 (by omega) hP hD hS (lv_sub hl [2, 3, 4, 5, 6, 7] rfl) (by omega) (by omega)
  · skip
    refine lv_aload_n hx hb dL_law_820 rfl (lv_at hl 5 rfl) ?_
    refine lv_iconst (v := 0) hx hb dL_law_821 (by decide) ?_
    refine va_lald hx hb hK hP (cw cA (fixz (u 0) z) n1 ni1 c1).length 4 lw_lo rfl vi01 dL_law_822 ?_
    refine lv_iload hx hb dL_law_823 (lv_at hl 0 rfl) ?_
    refine lv_if_eq (tgt := 832) hx hb dL_law_825 (by decide) (fun hw => ?_) (fun hw => ?_)
    · skip
      refine lv_lconst (v := 0) hx hb dL_law_832 (by decide) ?_
      refine W.lcmp hx hb dL_law_833 ?_
      refine lv_as (y := 0) ((lg_cmp_eq (f1 0) 0).mpr (by rw [h5 h]; exact if_pos hw)) ?_
      refine lv_if_eq (tgt := 839) hx hb dL_law_834 (by decide) (fun _ => ?_) (fun h => absurd rfl h)
      refine lv_goto (tgt := 1604) hx hb dL_law_839 (by decide) ?_
      exact K (fixz (u 0) z) n1 ni1 ns1 hs1 c1 r1 f1 g H locs _ _ ls fixz_0 Re1 (by omega) hP hD hS (lv_sub hl [2, 3, 4, 5, 6, 7] rfl) (by omega) (by omega)
    · skip
      refine lv_lconst (v := 1) hx hb dL_law_828 (by decide) ?_
      refine lv_goto (tgt := 833) hx hb dL_law_829 (by decide) ?_
      refine W.lcmp hx hb dL_law_833 ?_
      refine lv_as (y := 0) ((lg_cmp_eq (f1 0) 1).mpr (by rw [h5 h]; exact if_neg hw)) ?_
      refine lv_if_eq (tgt := 839) hx hb dL_law_834 (by decide) (fun _ => ?_) (fun h => absurd rfl h)
      refine lv_goto (tgt := 1604) hx hb dL_law_839 (by decide) ?_
      exact K (fixz (u 0) z) n1 ni1 ns1 hs1 c1 r1 f1 g H locs _ _ ls fixz_0 Re1 (by omega) hP hD hS (lv_sub hl [2, 3, 4, 5, 6, 7] rfl) (by omega) (by omega)
set_option maxHeartbeats 4000000 in
set_option maxRecDepth 100000 in
theorem k_endDay {p : Program} {l : Launch} {e : Env} {s : State} {m : MethodId} {args : Array Value} {below : List Frame} {meth : Method} {c : Code} {Q : State → Prop} {dg : va_G} {cA : Nat → ClassId} {A : Nat → Prop} {b L : Nat} {xs : Nat → Int32} (C : LC p l dg cA s m c args A b L xs) (hL : L ≤ 2048) (k : Nat) (hk : 4 * k + 4 ≤ L) {u ad : Nat → Nat} {o od n ni ns hs : Nat} {cs r : St} {f : Nat → Int64} {g : Nat → UInt64} {H : Heap} {locs : List Loc} {cells slots : Nat} {ls : Array Slot} (Re : Rel cs r n ni ns hs) (hhs : hs ≤ k) (hP : PP dg (LW cA u ad o od n ni cs r f g) H) (hD : va_D A (LW cA u ad o od n ni cs r f g)) (hS : va_S A s.heap H locs) (hl : lv_has ls 9 (lL b (u 0) (ad 0) o od (nI (4 * k)))) (hce : cells ≤ 60 + 8 * k) (hsl : slots ≤ 2000 + 100 * k) (K : KN p l e s m args below meth c Q dg cA A b (u 0) ad o od k) : W p l e room_1 s m args below meth c H locs cells slots Q (F0 m 842 ls []) := by
  have hx := C.1.1
  have hb := C.1.2.1
  have hK := C.2.1
  obtain ⟨kk, f1, w, c1, r1, n1, ni1, ns1, hs1, mc, ms, rm2, h1, ⟨hmc, hms⟩, h2, h3, h4, h5, Re1, hhs1⟩ := p_endDay l dg cA C.2.2.2.2.2.2 (u := u) (ad := ad) (o := o) (f := f) Re (by omega) 
  refine lv_aload_n hx hb dL_law_842 rfl (lv_at hl 1 rfl) ?_
  refine lv_aload_n hx hb dL_law_843 rfl (lv_at hl 3 rfl) ?_
  refine lwZ C h1 kL_145 (by decide) hmc hms (by omega) (by omega) hP hD hS rfl hl.1 (rest := []) rfl (Nat.le_of_ble_eq_true rfl) dL_law_844 (fun z H locs hP hD hS => ?_)
  refine lv_istore (lv' := [(6, .int kk), (0, .ref b), (1, .ref (u 0)), (2, .ref (ad 0)), (3, .ref o), (4, .ref od), (5, .int (nI (4 * k)))]) hx hb dL_law_847 hl (by decide) rfl (fun ls hl => ?_)
  refine lv_aload_n hx hb dL_law_849 rfl (lv_at hl 3 rfl) ?_
  refine lwM C (fun sz => Met.ofM (h2 sz)) kL_147 h3 (by decide) (by omega) (by omega) hP hD hS rfl hl.1 (rest := []) rfl (Nat.le_of_ble_eq_true rfl) dL_law_850 (st1 := [.int w]) rfl (fun H locs hP hD hS => ?_)
  refine lv_istore (lv' := [(7, .int w), (6, .int kk), (0, .ref b), (1, .ref (u 0)), (2, .ref (ad 0)), (3, .ref o), (4, .ref od), (5, .int (nI (4 * k)))]) hx hb dL_law_853 hl (by decide) rfl (fun ls hl => ?_)
  refine lv_aload_n hx hb dL_law_855 rfl (lv_at hl 4 rfl) ?_
  refine lwM C (fun sz => Met.ofR (rr_thrown l dg cA ad r1) sz) kL_107 ⟨rfl, rfl, (Nat.le_of_ble_eq_true rfl), (Nat.le_of_ble_eq_true rfl)⟩ (by decide) (by omega) (by omega) hP hD hS rfl hl.1 (rest := []) rfl (Nat.le_of_ble_eq_true rfl) dL_law_856 (st1 := [.int (r1 0 0)]) rfl (fun H locs hP hD hS => ?_)
  refine lv_as (y := kk) h4 ?_
  refine lv_iload hx hb dL_law_859 (lv_at hl 1 rfl) ?_
  refine lv_icmp_eq (tgt := 866) hx hb dL_law_861 (by decide) (fun _ => ?_) (fun h => absurd rfl h)
  refine lv_iload hx hb dL_law_866 (lv_at hl 1 rfl) ?_
  refine lv_if_ne (tgt := 883) hx hb dL_law_868 (by decide) (fun _ => ?_) (fun h => ?_)
  · skip
    refine lv_goto (tgt := 1604) hx hb dL_law_883 (by decide) ?_
    exact K (fixz (u 0) z) n1 ni1 ns1 hs1 c1 r1 f1 g H locs _ _ ls fixz_0 Re1 (by omega) hP hD hS (lv_sub hl [2, 3, 4, 5, 6, 7] rfl) (by omega) (by omega)
  · skip
    refine lv_aload_n hx hb dL_law_871 rfl (lv_at hl 5 rfl) ?_
    refine lv_iconst (v := 0) hx hb dL_law_872 (by decide) ?_
    refine va_lald hx hb hK hP (cw cA (fixz (u 0) z) n1 ni1 c1).length 4 lw_lo rfl vi01 dL_law_873 ?_
    refine lv_iload hx hb dL_law_874 (lv_at hl 0 rfl) ?_
    refine lv_i2l (v := w.toInt64) hx hb dL_law_876 rfl ?_
    refine W.lcmp hx hb dL_law_877 ?_
    refine lv_as (y := 0) ((lg_cmp_eq (f1 0) w.toInt64).mpr (h5 h)) ?_
    refine lv_if_eq (tgt := 883) hx hb dL_law_878 (by decide) (fun _ => ?_) (fun h => absurd rfl h)
    refine lv_goto (tgt := 1604) hx hb dL_law_883 (by decide) ?_
    exact K (fixz (u 0) z) n1 ni1 ns1 hs1 c1 r1 f1 g H locs _ _ ls fixz_0 Re1 (by omega) hP hD hS (lv_sub hl [2, 3, 4, 5, 6, 7] rfl) (by omega) (by omega)
set_option maxHeartbeats 4000000 in
set_option maxRecDepth 100000 in
theorem k_stateOf {p : Program} {l : Launch} {e : Env} {s : State} {m : MethodId} {args : Array Value} {below : List Frame} {meth : Method} {c : Code} {Q : State → Prop} {dg : va_G} {cA : Nat → ClassId} {A : Nat → Prop} {b L : Nat} {xs : Nat → Int32} (C : LC p l dg cA s m c args A b L xs) (hL : L ≤ 2048) (k : Nat) (hk : 4 * k + 4 ≤ L) {u ad : Nat → Nat} {o od n ni ns hs : Nat} {cs r : St} {f : Nat → Int64} {g : Nat → UInt64} {H : Heap} {locs : List Loc} {cells slots : Nat} {ls : Array Slot} (Re : Rel cs r n ni ns hs) (hhs : hs ≤ k) (hP : PP dg (LW cA u ad o od n ni cs r f g) H) (hD : va_D A (LW cA u ad o od n ni cs r f g)) (hS : va_S A s.heap H locs) (hl : lv_has ls 9 (lL b (u 0) (ad 0) o od (nI (4 * k)))) (hce : cells ≤ 60 + 8 * k) (hsl : slots ≤ 2000 + 100 * k) (K : KN p l e s m args below meth c Q dg cA A b (u 0) ad o od k) : W p l e room_1 s m args below meth c H locs cells slots Q (F0 m 886 ls []) := by
  have hx := C.1.1
  have hb := C.1.2.1
  have hK := C.2.1
  obtain ⟨kk, f1, w, c1, r1, n1, ni1, ns1, hs1, mc, ms, rm2, h1, ⟨hmc, hms⟩, h2, h3, h4, h5, Re1, hhs1⟩ := p_stateOf l dg cA C.2.2.2.2.2.2 (u := u) (ad := ad) (o := o) (f := f) Re (by omega) (xs (4 * k + 1))
  refine lv_aload_n hx hb dL_law_886 rfl (lv_at hl 1 rfl) ?_
  refine lv_aload_n hx hb dL_law_887 rfl (lv_at hl 0 rfl) ?_
  refine lv_iload hx hb dL_law_888 (lv_at hl 5 rfl) ?_
  refine lv_iconst (v := 1) hx hb dL_law_890 (by decide) ?_
  refine lv_iadd hx hb dL_law_891 ?_
  refine lv_as (y := nI (4 * k + 1)) (nI_1 (4 * k)) ?_
  refine sldk C hS (j := 4 * k + 1) (by omega) hL dL_law_892 ?_
  refine lv_aload_n hx hb dL_law_893 rfl (lv_at hl 3 rfl) ?_
  refine lwZ C h1 kL_148 (by decide) hmc hms (by omega) (by omega) hP hD hS rfl hl.1 (rest := []) rfl (Nat.le_of_ble_eq_true rfl) dL_law_894 (fun z H locs hP hD hS => ?_)
  refine lv_istore (lv' := [(6, .int kk), (0, .ref b), (1, .ref (u 0)), (2, .ref (ad 0)), (3, .ref o), (4, .ref od), (5, .int (nI (4 * k)))]) hx hb dL_law_897 hl (by decide) rfl (fun ls hl => ?_)
  refine lv_aload_n hx hb dL_law_899 rfl (lv_at hl 3 rfl) ?_
  refine lv_aload_n hx hb dL_law_900 rfl (lv_at hl 1 rfl) ?_
  refine lv_iload hx hb dL_law_901 (lv_at hl 6 rfl) ?_
  refine lv_iconst (v := 1) hx hb dL_law_903 (by decide) ?_
  refine lv_iadd hx hb dL_law_904 ?_
  refine lv_as (y := nI (4 * k + 1)) (nI_1 (4 * k)) ?_
  refine sldk C hS (j := 4 * k + 1) (by omega) hL dL_law_905 ?_
  refine lwM C (fun sz => Met.ofM (h2 sz)) kL_150 h3 (by decide) (by omega) (by omega) hP hD hS rfl hl.1 (rest := []) rfl (Nat.le_of_ble_eq_true rfl) dL_law_906 (st1 := [.int w]) rfl (fun H locs hP hD hS => ?_)
  refine lv_istore (lv' := [(7, .int w), (6, .int kk), (0, .ref b), (1, .ref (u 0)), (2, .ref (ad 0)), (3, .ref o), (4, .ref od), (5, .int (nI (4 * k)))]) hx hb dL_law_909 hl (by decide) rfl (fun ls hl => ?_)
  refine lv_aload_n hx hb dL_law_911 rfl (lv_at hl 4 rfl) ?_
  refine lwM C (fun sz => Met.ofR (rr_thrown l dg cA ad r1) sz) kL_107 ⟨rfl, rfl, (Nat.le_of_ble_eq_true rfl), (Nat.le_of_ble_eq_true rfl)⟩ (by decide) (by omega) (by omega) hP hD hS rfl hl.1 (rest := []) rfl (Nat.le_of_ble_eq_true rfl) dL_law_912 (st1 := [.int (r1 0 0)]) rfl (fun H locs hP hD hS => ?_)
  refine lv_as (y := kk) h4 ?_
  refine lv_iload hx hb dL_law_915 (lv_at hl 1 rfl) ?_
  refine lv_icmp_eq (tgt := 922) hx hb dL_law_917 (by decide) (fun _ => ?_) (fun h => absurd rfl h)
  refine lv_iload hx hb dL_law_922 (lv_at hl 1 rfl) ?_
  refine lv_if_ne (tgt := 939) hx hb dL_law_924 (by decide) (fun _ => ?_) (fun h => ?_)
  · skip
    refine lv_goto (tgt := 1604) hx hb dL_law_939 (by decide) ?_
    exact K (fixz (u 0) z) n1 ni1 ns1 hs1 c1 r1 f1 g H locs _ _ ls fixz_0 Re1 (by omega) hP hD hS (lv_sub hl [2, 3, 4, 5, 6, 7] rfl) (by omega) (by omega)
  · skip
    refine lv_aload_n hx hb dL_law_927 rfl (lv_at hl 5 rfl) ?_
    refine lv_iconst (v := 0) hx hb dL_law_928 (by decide) ?_
    refine va_lald hx hb hK hP (cw cA (fixz (u 0) z) n1 ni1 c1).length 4 lw_lo rfl vi01 dL_law_929 ?_
    refine lv_iload hx hb dL_law_930 (lv_at hl 0 rfl) ?_
    refine lv_i2l (v := w.toInt64) hx hb dL_law_932 rfl ?_
    refine W.lcmp hx hb dL_law_933 ?_
    refine lv_as (y := 0) ((lg_cmp_eq (f1 0) w.toInt64).mpr (h5 h)) ?_
    refine lv_if_eq (tgt := 939) hx hb dL_law_934 (by decide) (fun _ => ?_) (fun h => absurd rfl h)
    refine lv_goto (tgt := 1604) hx hb dL_law_939 (by decide) ?_
    exact K (fixz (u 0) z) n1 ni1 ns1 hs1 c1 r1 f1 g H locs _ _ ls fixz_0 Re1 (by omega) hP hD hS (lv_sub hl [2, 3, 4, 5, 6, 7] rfl) (by omega) (by omega)
set_option maxHeartbeats 4000000 in
set_option maxRecDepth 100000 in
theorem k_wantedFrom {p : Program} {l : Launch} {e : Env} {s : State} {m : MethodId} {args : Array Value} {below : List Frame} {meth : Method} {c : Code} {Q : State → Prop} {dg : va_G} {cA : Nat → ClassId} {A : Nat → Prop} {b L : Nat} {xs : Nat → Int32} (C : LC p l dg cA s m c args A b L xs) (hL : L ≤ 2048) (k : Nat) (hk : 4 * k + 4 ≤ L) {u ad : Nat → Nat} {o od n ni ns hs : Nat} {cs r : St} {f : Nat → Int64} {g : Nat → UInt64} {H : Heap} {locs : List Loc} {cells slots : Nat} {ls : Array Slot} (Re : Rel cs r n ni ns hs) (hhs : hs ≤ k) (hP : PP dg (LW cA u ad o od n ni cs r f g) H) (hD : va_D A (LW cA u ad o od n ni cs r f g)) (hS : va_S A s.heap H locs) (hl : lv_has ls 9 (lL b (u 0) (ad 0) o od (nI (4 * k)))) (hce : cells ≤ 60 + 8 * k) (hsl : slots ≤ 2000 + 100 * k) (K : KN p l e s m args below meth c Q dg cA A b (u 0) ad o od k) : W p l e room_1 s m args below meth c H locs cells slots Q (F0 m 942 ls []) := by
  have hx := C.1.1
  have hb := C.1.2.1
  have hK := C.2.1
  obtain ⟨kk, f1, w, c1, r1, n1, ni1, ns1, hs1, mc, ms, rm2, h1, ⟨hmc, hms⟩, h2, h3, h4, h5, Re1, hhs1⟩ := p_wantedFrom l dg cA C.2.2.2.2.2.2 (u := u) (ad := ad) (o := o) (f := f) Re (by omega) (xs (4 * k + 1))
  refine lv_aload_n hx hb dL_law_942 rfl (lv_at hl 1 rfl) ?_
  refine lv_aload_n hx hb dL_law_943 rfl (lv_at hl 0 rfl) ?_
  refine lv_iload hx hb dL_law_944 (lv_at hl 5 rfl) ?_
  refine lv_iconst (v := 1) hx hb dL_law_946 (by decide) ?_
  refine lv_iadd hx hb dL_law_947 ?_
  refine lv_as (y := nI (4 * k + 1)) (nI_1 (4 * k)) ?_
  refine sldk C hS (j := 4 * k + 1) (by omega) hL dL_law_948 ?_
  refine lv_aload_n hx hb dL_law_949 rfl (lv_at hl 3 rfl) ?_
  refine lwZ C h1 kL_151 (by decide) hmc hms (by omega) (by omega) hP hD hS rfl hl.1 (rest := []) rfl (Nat.le_of_ble_eq_true rfl) dL_law_950 (fun z H locs hP hD hS => ?_)
  refine lv_istore (lv' := [(6, .int kk), (0, .ref b), (1, .ref (u 0)), (2, .ref (ad 0)), (3, .ref o), (4, .ref od), (5, .int (nI (4 * k)))]) hx hb dL_law_953 hl (by decide) rfl (fun ls hl => ?_)
  refine lv_aload_n hx hb dL_law_955 rfl (lv_at hl 3 rfl) ?_
  refine lv_aload_n hx hb dL_law_956 rfl (lv_at hl 1 rfl) ?_
  refine lv_iload hx hb dL_law_957 (lv_at hl 6 rfl) ?_
  refine lv_iconst (v := 1) hx hb dL_law_959 (by decide) ?_
  refine lv_iadd hx hb dL_law_960 ?_
  refine lv_as (y := nI (4 * k + 1)) (nI_1 (4 * k)) ?_
  refine sldk C hS (j := 4 * k + 1) (by omega) hL dL_law_961 ?_
  refine lwM C (fun sz => Met.ofM (h2 sz)) kL_153 h3 (by decide) (by omega) (by omega) hP hD hS rfl hl.1 (rest := []) rfl (Nat.le_of_ble_eq_true rfl) dL_law_962 (st1 := [.int w]) rfl (fun H locs hP hD hS => ?_)
  refine lv_istore (lv' := [(7, .int w), (6, .int kk), (0, .ref b), (1, .ref (u 0)), (2, .ref (ad 0)), (3, .ref o), (4, .ref od), (5, .int (nI (4 * k)))]) hx hb dL_law_965 hl (by decide) rfl (fun ls hl => ?_)
  refine lv_aload_n hx hb dL_law_967 rfl (lv_at hl 4 rfl) ?_
  refine lwM C (fun sz => Met.ofR (rr_thrown l dg cA ad r1) sz) kL_107 ⟨rfl, rfl, (Nat.le_of_ble_eq_true rfl), (Nat.le_of_ble_eq_true rfl)⟩ (by decide) (by omega) (by omega) hP hD hS rfl hl.1 (rest := []) rfl (Nat.le_of_ble_eq_true rfl) dL_law_968 (st1 := [.int (r1 0 0)]) rfl (fun H locs hP hD hS => ?_)
  refine lv_as (y := kk) h4 ?_
  refine lv_iload hx hb dL_law_971 (lv_at hl 1 rfl) ?_
  refine lv_icmp_eq (tgt := 978) hx hb dL_law_973 (by decide) (fun _ => ?_) (fun h => absurd rfl h)
  refine lv_iload hx hb dL_law_978 (lv_at hl 1 rfl) ?_
  refine lv_if_ne (tgt := 995) hx hb dL_law_980 (by decide) (fun _ => ?_) (fun h => ?_)
  · skip
    refine lv_goto (tgt := 1604) hx hb dL_law_995 (by decide) ?_
    exact K (fixz (u 0) z) n1 ni1 ns1 hs1 c1 r1 f1 g H locs _ _ ls fixz_0 Re1 (by omega) hP hD hS (lv_sub hl [2, 3, 4, 5, 6, 7] rfl) (by omega) (by omega)
  · skip
    refine lv_aload_n hx hb dL_law_983 rfl (lv_at hl 5 rfl) ?_
    refine lv_iconst (v := 0) hx hb dL_law_984 (by decide) ?_
    refine va_lald hx hb hK hP (cw cA (fixz (u 0) z) n1 ni1 c1).length 4 lw_lo rfl vi01 dL_law_985 ?_
    refine lv_iload hx hb dL_law_986 (lv_at hl 0 rfl) ?_
    refine lv_i2l (v := w.toInt64) hx hb dL_law_988 rfl ?_
    refine W.lcmp hx hb dL_law_989 ?_
    refine lv_as (y := 0) ((lg_cmp_eq (f1 0) w.toInt64).mpr (h5 h)) ?_
    refine lv_if_eq (tgt := 995) hx hb dL_law_990 (by decide) (fun _ => ?_) (fun h => absurd rfl h)
    refine lv_goto (tgt := 1604) hx hb dL_law_995 (by decide) ?_
    exact K (fixz (u 0) z) n1 ni1 ns1 hs1 c1 r1 f1 g H locs _ _ ls fixz_0 Re1 (by omega) hP hD hS (lv_sub hl [2, 3, 4, 5, 6, 7] rfl) (by omega) (by omega)
set_option maxHeartbeats 4000000 in
set_option maxRecDepth 100000 in
theorem k_codeOf {p : Program} {l : Launch} {e : Env} {s : State} {m : MethodId} {args : Array Value} {below : List Frame} {meth : Method} {c : Code} {Q : State → Prop} {dg : va_G} {cA : Nat → ClassId} {A : Nat → Prop} {b L : Nat} {xs : Nat → Int32} (C : LC p l dg cA s m c args A b L xs) (hL : L ≤ 2048) (k : Nat) (hk : 4 * k + 4 ≤ L) {u ad : Nat → Nat} {o od n ni ns hs : Nat} {cs r : St} {f : Nat → Int64} {g : Nat → UInt64} {H : Heap} {locs : List Loc} {cells slots : Nat} {ls : Array Slot} (Re : Rel cs r n ni ns hs) (hhs : hs ≤ k) (hP : PP dg (LW cA u ad o od n ni cs r f g) H) (hD : va_D A (LW cA u ad o od n ni cs r f g)) (hS : va_S A s.heap H locs) (hl : lv_has ls 9 (lL b (u 0) (ad 0) o od (nI (4 * k)))) (hce : cells ≤ 60 + 8 * k) (hsl : slots ≤ 2000 + 100 * k) (K : KN p l e s m args below meth c Q dg cA A b (u 0) ad o od k) : W p l e room_1 s m args below meth c H locs cells slots Q (F0 m 998 ls []) := by
  have hx := C.1.1
  have hb := C.1.2.1
  have hK := C.2.1
  obtain ⟨kk, f1, w, c1, r1, n1, ni1, ns1, hs1, mc, ms, rm2, h1, ⟨hmc, hms⟩, h2, h3, h4, h5, Re1, hhs1⟩ := p_codeOf l dg cA C.2.2.2.2.2.2 (u := u) (ad := ad) (o := o) (f := f) Re (by omega) (xs (4 * k + 1))
  refine lv_aload_n hx hb dL_law_998 rfl (lv_at hl 1 rfl) ?_
  refine lv_aload_n hx hb dL_law_999 rfl (lv_at hl 0 rfl) ?_
  refine lv_iload hx hb dL_law_1000 (lv_at hl 5 rfl) ?_
  refine lv_iconst (v := 1) hx hb dL_law_1002 (by decide) ?_
  refine lv_iadd hx hb dL_law_1003 ?_
  refine lv_as (y := nI (4 * k + 1)) (nI_1 (4 * k)) ?_
  refine sldk C hS (j := 4 * k + 1) (by omega) hL dL_law_1004 ?_
  refine lv_aload_n hx hb dL_law_1005 rfl (lv_at hl 3 rfl) ?_
  refine lwZ C h1 kL_154 (by decide) hmc hms (by omega) (by omega) hP hD hS rfl hl.1 (rest := []) rfl (Nat.le_of_ble_eq_true rfl) dL_law_1006 (fun z H locs hP hD hS => ?_)
  refine lv_istore (lv' := [(6, .int kk), (0, .ref b), (1, .ref (u 0)), (2, .ref (ad 0)), (3, .ref o), (4, .ref od), (5, .int (nI (4 * k)))]) hx hb dL_law_1009 hl (by decide) rfl (fun ls hl => ?_)
  refine lv_aload_n hx hb dL_law_1011 rfl (lv_at hl 3 rfl) ?_
  refine lv_aload_n hx hb dL_law_1012 rfl (lv_at hl 1 rfl) ?_
  refine lv_iload hx hb dL_law_1013 (lv_at hl 6 rfl) ?_
  refine lv_iconst (v := 1) hx hb dL_law_1015 (by decide) ?_
  refine lv_iadd hx hb dL_law_1016 ?_
  refine lv_as (y := nI (4 * k + 1)) (nI_1 (4 * k)) ?_
  refine sldk C hS (j := 4 * k + 1) (by omega) hL dL_law_1017 ?_
  refine lwM C (fun sz => Met.ofM (h2 sz)) kL_156 h3 (by decide) (by omega) (by omega) hP hD hS rfl hl.1 (rest := []) rfl (Nat.le_of_ble_eq_true rfl) dL_law_1018 (st1 := [.int w]) rfl (fun H locs hP hD hS => ?_)
  refine lv_istore (lv' := [(7, .int w), (6, .int kk), (0, .ref b), (1, .ref (u 0)), (2, .ref (ad 0)), (3, .ref o), (4, .ref od), (5, .int (nI (4 * k)))]) hx hb dL_law_1021 hl (by decide) rfl (fun ls hl => ?_)
  refine lv_aload_n hx hb dL_law_1023 rfl (lv_at hl 4 rfl) ?_
  refine lwM C (fun sz => Met.ofR (rr_thrown l dg cA ad r1) sz) kL_107 ⟨rfl, rfl, (Nat.le_of_ble_eq_true rfl), (Nat.le_of_ble_eq_true rfl)⟩ (by decide) (by omega) (by omega) hP hD hS rfl hl.1 (rest := []) rfl (Nat.le_of_ble_eq_true rfl) dL_law_1024 (st1 := [.int (r1 0 0)]) rfl (fun H locs hP hD hS => ?_)
  refine lv_as (y := kk) h4 ?_
  refine lv_iload hx hb dL_law_1027 (lv_at hl 1 rfl) ?_
  refine lv_icmp_eq (tgt := 1034) hx hb dL_law_1029 (by decide) (fun _ => ?_) (fun h => absurd rfl h)
  refine lv_iload hx hb dL_law_1034 (lv_at hl 1 rfl) ?_
  refine lv_if_ne (tgt := 1051) hx hb dL_law_1036 (by decide) (fun _ => ?_) (fun h => ?_)
  · skip
    refine lv_goto (tgt := 1604) hx hb dL_law_1051 (by decide) ?_
    exact K (fixz (u 0) z) n1 ni1 ns1 hs1 c1 r1 f1 g H locs _ _ ls fixz_0 Re1 (by omega) hP hD hS (lv_sub hl [2, 3, 4, 5, 6, 7] rfl) (by omega) (by omega)
  · skip
    refine lv_aload_n hx hb dL_law_1039 rfl (lv_at hl 5 rfl) ?_
    refine lv_iconst (v := 0) hx hb dL_law_1040 (by decide) ?_
    refine va_lald hx hb hK hP (cw cA (fixz (u 0) z) n1 ni1 c1).length 4 lw_lo rfl vi01 dL_law_1041 ?_
    refine lv_iload hx hb dL_law_1042 (lv_at hl 0 rfl) ?_
    refine lv_i2l (v := w.toInt64) hx hb dL_law_1044 rfl ?_
    refine W.lcmp hx hb dL_law_1045 ?_
    refine lv_as (y := 0) ((lg_cmp_eq (f1 0) w.toInt64).mpr (h5 h)) ?_
    refine lv_if_eq (tgt := 1051) hx hb dL_law_1046 (by decide) (fun _ => ?_) (fun h => absurd rfl h)
    refine lv_goto (tgt := 1604) hx hb dL_law_1051 (by decide) ?_
    exact K (fixz (u 0) z) n1 ni1 ns1 hs1 c1 r1 f1 g H locs _ _ ls fixz_0 Re1 (by omega) hP hD hS (lv_sub hl [2, 3, 4, 5, 6, 7] rfl) (by omega) (by omega)
set_option maxHeartbeats 4000000 in
set_option maxRecDepth 100000 in
theorem k_answerOf {p : Program} {l : Launch} {e : Env} {s : State} {m : MethodId} {args : Array Value} {below : List Frame} {meth : Method} {c : Code} {Q : State → Prop} {dg : va_G} {cA : Nat → ClassId} {A : Nat → Prop} {b L : Nat} {xs : Nat → Int32} (C : LC p l dg cA s m c args A b L xs) (hL : L ≤ 2048) (k : Nat) (hk : 4 * k + 4 ≤ L) {u ad : Nat → Nat} {o od n ni ns hs : Nat} {cs r : St} {f : Nat → Int64} {g : Nat → UInt64} {H : Heap} {locs : List Loc} {cells slots : Nat} {ls : Array Slot} (Re : Rel cs r n ni ns hs) (hhs : hs ≤ k) (hP : PP dg (LW cA u ad o od n ni cs r f g) H) (hD : va_D A (LW cA u ad o od n ni cs r f g)) (hS : va_S A s.heap H locs) (hl : lv_has ls 9 (lL b (u 0) (ad 0) o od (nI (4 * k)))) (hce : cells ≤ 60 + 8 * k) (hsl : slots ≤ 2000 + 100 * k) (K : KN p l e s m args below meth c Q dg cA A b (u 0) ad o od k) : W p l e room_1 s m args below meth c H locs cells slots Q (F0 m 1054 ls []) := by
  have hx := C.1.1
  have hb := C.1.2.1
  have hK := C.2.1
  obtain ⟨kk, f1, w, c1, r1, n1, ni1, ns1, hs1, mc, ms, rm2, h1, ⟨hmc, hms⟩, h2, h3, h4, h5, Re1, hhs1⟩ := p_answerOf l dg cA C.2.2.2.2.2.2 (u := u) (ad := ad) (o := o) (f := f) Re (by omega) (xs (4 * k + 1))
  refine lv_aload_n hx hb dL_law_1054 rfl (lv_at hl 1 rfl) ?_
  refine lv_aload_n hx hb dL_law_1055 rfl (lv_at hl 0 rfl) ?_
  refine lv_iload hx hb dL_law_1056 (lv_at hl 5 rfl) ?_
  refine lv_iconst (v := 1) hx hb dL_law_1058 (by decide) ?_
  refine lv_iadd hx hb dL_law_1059 ?_
  refine lv_as (y := nI (4 * k + 1)) (nI_1 (4 * k)) ?_
  refine sldk C hS (j := 4 * k + 1) (by omega) hL dL_law_1060 ?_
  refine lv_aload_n hx hb dL_law_1061 rfl (lv_at hl 3 rfl) ?_
  refine lwZ C h1 kL_157 (by decide) hmc hms (by omega) (by omega) hP hD hS rfl hl.1 (rest := []) rfl (Nat.le_of_ble_eq_true rfl) dL_law_1062 (fun z H locs hP hD hS => ?_)
  refine lv_istore (lv' := [(6, .int kk), (0, .ref b), (1, .ref (u 0)), (2, .ref (ad 0)), (3, .ref o), (4, .ref od), (5, .int (nI (4 * k)))]) hx hb dL_law_1065 hl (by decide) rfl (fun ls hl => ?_)
  refine lv_aload_n hx hb dL_law_1067 rfl (lv_at hl 3 rfl) ?_
  refine lv_aload_n hx hb dL_law_1068 rfl (lv_at hl 1 rfl) ?_
  refine lv_iload hx hb dL_law_1069 (lv_at hl 6 rfl) ?_
  refine lv_iconst (v := 1) hx hb dL_law_1071 (by decide) ?_
  refine lv_iadd hx hb dL_law_1072 ?_
  refine lv_as (y := nI (4 * k + 1)) (nI_1 (4 * k)) ?_
  refine sldk C hS (j := 4 * k + 1) (by omega) hL dL_law_1073 ?_
  refine lwM C (fun sz => Met.ofM (h2 sz)) kL_159 h3 (by decide) (by omega) (by omega) hP hD hS rfl hl.1 (rest := []) rfl (Nat.le_of_ble_eq_true rfl) dL_law_1074 (st1 := [.int w]) rfl (fun H locs hP hD hS => ?_)
  refine lv_istore (lv' := [(7, .int w), (6, .int kk), (0, .ref b), (1, .ref (u 0)), (2, .ref (ad 0)), (3, .ref o), (4, .ref od), (5, .int (nI (4 * k)))]) hx hb dL_law_1077 hl (by decide) rfl (fun ls hl => ?_)
  refine lv_aload_n hx hb dL_law_1079 rfl (lv_at hl 4 rfl) ?_
  refine lwM C (fun sz => Met.ofR (rr_thrown l dg cA ad r1) sz) kL_107 ⟨rfl, rfl, (Nat.le_of_ble_eq_true rfl), (Nat.le_of_ble_eq_true rfl)⟩ (by decide) (by omega) (by omega) hP hD hS rfl hl.1 (rest := []) rfl (Nat.le_of_ble_eq_true rfl) dL_law_1080 (st1 := [.int (r1 0 0)]) rfl (fun H locs hP hD hS => ?_)
  refine lv_as (y := kk) h4 ?_
  refine lv_iload hx hb dL_law_1083 (lv_at hl 1 rfl) ?_
  refine lv_icmp_eq (tgt := 1090) hx hb dL_law_1085 (by decide) (fun _ => ?_) (fun h => absurd rfl h)
  refine lv_iload hx hb dL_law_1090 (lv_at hl 1 rfl) ?_
  refine lv_if_ne (tgt := 1107) hx hb dL_law_1092 (by decide) (fun _ => ?_) (fun h => ?_)
  · skip
    refine lv_goto (tgt := 1604) hx hb dL_law_1107 (by decide) ?_
    exact K (fixz (u 0) z) n1 ni1 ns1 hs1 c1 r1 f1 g H locs _ _ ls fixz_0 Re1 (by omega) hP hD hS (lv_sub hl [2, 3, 4, 5, 6, 7] rfl) (by omega) (by omega)
  · skip
    refine lv_aload_n hx hb dL_law_1095 rfl (lv_at hl 5 rfl) ?_
    refine lv_iconst (v := 0) hx hb dL_law_1096 (by decide) ?_
    refine va_lald hx hb hK hP (cw cA (fixz (u 0) z) n1 ni1 c1).length 4 lw_lo rfl vi01 dL_law_1097 ?_
    refine lv_iload hx hb dL_law_1098 (lv_at hl 0 rfl) ?_
    refine lv_i2l (v := w.toInt64) hx hb dL_law_1100 rfl ?_
    refine W.lcmp hx hb dL_law_1101 ?_
    refine lv_as (y := 0) ((lg_cmp_eq (f1 0) w.toInt64).mpr (h5 h)) ?_
    refine lv_if_eq (tgt := 1107) hx hb dL_law_1102 (by decide) (fun _ => ?_) (fun h => absurd rfl h)
    refine lv_goto (tgt := 1604) hx hb dL_law_1107 (by decide) ?_
    exact K (fixz (u 0) z) n1 ni1 ns1 hs1 c1 r1 f1 g H locs _ _ ls fixz_0 Re1 (by omega) hP hD hS (lv_sub hl [2, 3, 4, 5, 6, 7] rfl) (by omega) (by omega)
set_option maxHeartbeats 4000000 in
set_option maxRecDepth 100000 in
theorem k_faults {p : Program} {l : Launch} {e : Env} {s : State} {m : MethodId} {args : Array Value} {below : List Frame} {meth : Method} {c : Code} {Q : State → Prop} {dg : va_G} {cA : Nat → ClassId} {A : Nat → Prop} {b L : Nat} {xs : Nat → Int32} (C : LC p l dg cA s m c args A b L xs) (hL : L ≤ 2048) (k : Nat) (hk : 4 * k + 4 ≤ L) {u ad : Nat → Nat} {o od n ni ns hs : Nat} {cs r : St} {f : Nat → Int64} {g : Nat → UInt64} {H : Heap} {locs : List Loc} {cells slots : Nat} {ls : Array Slot} (Re : Rel cs r n ni ns hs) (hhs : hs ≤ k) (hP : PP dg (LW cA u ad o od n ni cs r f g) H) (hD : va_D A (LW cA u ad o od n ni cs r f g)) (hS : va_S A s.heap H locs) (hl : lv_has ls 9 (lL b (u 0) (ad 0) o od (nI (4 * k)))) (hce : cells ≤ 60 + 8 * k) (hsl : slots ≤ 2000 + 100 * k) (K : KN p l e s m args below meth c Q dg cA A b (u 0) ad o od k) : W p l e room_1 s m args below meth c H locs cells slots Q (F0 m 1110 ls []) := by
  have hx := C.1.1
  have hb := C.1.2.1
  have hK := C.2.1
  obtain ⟨kk, f1, w, c1, r1, n1, ni1, ns1, hs1, mc, ms, rm2, h1, ⟨hmc, hms⟩, h2, h3, h4, h5, Re1, hhs1⟩ := p_faults l dg cA C.2.2.2.2.2.2 (u := u) (ad := ad) (o := o) (f := f) Re (by omega) (xs (4 * k + 1))
  refine lv_aload_n hx hb dL_law_1110 rfl (lv_at hl 1 rfl) ?_
  refine lv_aload_n hx hb dL_law_1111 rfl (lv_at hl 0 rfl) ?_
  refine lv_iload hx hb dL_law_1112 (lv_at hl 5 rfl) ?_
  refine lv_iconst (v := 1) hx hb dL_law_1114 (by decide) ?_
  refine lv_iadd hx hb dL_law_1115 ?_
  refine lv_as (y := nI (4 * k + 1)) (nI_1 (4 * k)) ?_
  refine sldk C hS (j := 4 * k + 1) (by omega) hL dL_law_1116 ?_
  refine lv_aload_n hx hb dL_law_1117 rfl (lv_at hl 3 rfl) ?_
  refine lwZ C h1 kL_160 (by decide) hmc hms (by omega) (by omega) hP hD hS rfl hl.1 (rest := []) rfl (Nat.le_of_ble_eq_true rfl) dL_law_1118 (fun z H locs hP hD hS => ?_)
  refine lv_istore (lv' := [(6, .int kk), (0, .ref b), (1, .ref (u 0)), (2, .ref (ad 0)), (3, .ref o), (4, .ref od), (5, .int (nI (4 * k)))]) hx hb dL_law_1121 hl (by decide) rfl (fun ls hl => ?_)
  refine lv_aload_n hx hb dL_law_1123 rfl (lv_at hl 3 rfl) ?_
  refine lv_aload_n hx hb dL_law_1124 rfl (lv_at hl 1 rfl) ?_
  refine lv_iload hx hb dL_law_1125 (lv_at hl 6 rfl) ?_
  refine lv_iconst (v := 1) hx hb dL_law_1127 (by decide) ?_
  refine lv_iadd hx hb dL_law_1128 ?_
  refine lv_as (y := nI (4 * k + 1)) (nI_1 (4 * k)) ?_
  refine sldk C hS (j := 4 * k + 1) (by omega) hL dL_law_1129 ?_
  refine lwM C (fun sz => Met.ofM (h2 sz)) kL_162 h3 (by decide) (by omega) (by omega) hP hD hS rfl hl.1 (rest := []) rfl (Nat.le_of_ble_eq_true rfl) dL_law_1130 (st1 := [.int w]) rfl (fun H locs hP hD hS => ?_)
  refine lv_istore (lv' := [(7, .int w), (6, .int kk), (0, .ref b), (1, .ref (u 0)), (2, .ref (ad 0)), (3, .ref o), (4, .ref od), (5, .int (nI (4 * k)))]) hx hb dL_law_1133 hl (by decide) rfl (fun ls hl => ?_)
  refine lv_aload_n hx hb dL_law_1135 rfl (lv_at hl 4 rfl) ?_
  refine lwM C (fun sz => Met.ofR (rr_thrown l dg cA ad r1) sz) kL_107 ⟨rfl, rfl, (Nat.le_of_ble_eq_true rfl), (Nat.le_of_ble_eq_true rfl)⟩ (by decide) (by omega) (by omega) hP hD hS rfl hl.1 (rest := []) rfl (Nat.le_of_ble_eq_true rfl) dL_law_1136 (st1 := [.int (r1 0 0)]) rfl (fun H locs hP hD hS => ?_)
  refine lv_as (y := kk) h4 ?_
  refine lv_iload hx hb dL_law_1139 (lv_at hl 1 rfl) ?_
  refine lv_icmp_eq (tgt := 1146) hx hb dL_law_1141 (by decide) (fun _ => ?_) (fun h => absurd rfl h)
  refine lv_iload hx hb dL_law_1146 (lv_at hl 1 rfl) ?_
  refine lv_if_ne (tgt := 1163) hx hb dL_law_1148 (by decide) (fun _ => ?_) (fun h => ?_)
  · skip
    refine lv_goto (tgt := 1604) hx hb dL_law_1163 (by decide) ?_
    exact K (fixz (u 0) z) n1 ni1 ns1 hs1 c1 r1 f1 g H locs _ _ ls fixz_0 Re1 (by omega) hP hD hS (lv_sub hl [2, 3, 4, 5, 6, 7] rfl) (by omega) (by omega)
  · skip
    refine lv_aload_n hx hb dL_law_1151 rfl (lv_at hl 5 rfl) ?_
    refine lv_iconst (v := 0) hx hb dL_law_1152 (by decide) ?_
    refine va_lald hx hb hK hP (cw cA (fixz (u 0) z) n1 ni1 c1).length 4 lw_lo rfl vi01 dL_law_1153 ?_
    refine lv_iload hx hb dL_law_1154 (lv_at hl 0 rfl) ?_
    refine lv_i2l (v := w.toInt64) hx hb dL_law_1156 rfl ?_
    refine W.lcmp hx hb dL_law_1157 ?_
    refine lv_as (y := 0) ((lg_cmp_eq (f1 0) w.toInt64).mpr (h5 h)) ?_
    refine lv_if_eq (tgt := 1163) hx hb dL_law_1158 (by decide) (fun _ => ?_) (fun h => absurd rfl h)
    refine lv_goto (tgt := 1604) hx hb dL_law_1163 (by decide) ?_
    exact K (fixz (u 0) z) n1 ni1 ns1 hs1 c1 r1 f1 g H locs _ _ ls fixz_0 Re1 (by omega) hP hD hS (lv_sub hl [2, 3, 4, 5, 6, 7] rfl) (by omega) (by omega)
set_option maxHeartbeats 4000000 in
set_option maxRecDepth 100000 in
theorem k_answersTo {p : Program} {l : Launch} {e : Env} {s : State} {m : MethodId} {args : Array Value} {below : List Frame} {meth : Method} {c : Code} {Q : State → Prop} {dg : va_G} {cA : Nat → ClassId} {A : Nat → Prop} {b L : Nat} {xs : Nat → Int32} (C : LC p l dg cA s m c args A b L xs) (hL : L ≤ 2048) (k : Nat) (hk : 4 * k + 4 ≤ L) {u ad : Nat → Nat} {o od n ni ns hs : Nat} {cs r : St} {f : Nat → Int64} {g : Nat → UInt64} {H : Heap} {locs : List Loc} {cells slots : Nat} {ls : Array Slot} (Re : Rel cs r n ni ns hs) (hhs : hs ≤ k) (hP : PP dg (LW cA u ad o od n ni cs r f g) H) (hD : va_D A (LW cA u ad o od n ni cs r f g)) (hS : va_S A s.heap H locs) (hl : lv_has ls 9 (lL b (u 0) (ad 0) o od (nI (4 * k)))) (hce : cells ≤ 60 + 8 * k) (hsl : slots ≤ 2000 + 100 * k) (K : KN p l e s m args below meth c Q dg cA A b (u 0) ad o od k) : W p l e room_1 s m args below meth c H locs cells slots Q (F0 m 1166 ls []) := by
  have hx := C.1.1
  have hb := C.1.2.1
  have hK := C.2.1
  obtain ⟨kk, f1, w, c1, r1, n1, ni1, ns1, hs1, mc, ms, rm2, h1, ⟨hmc, hms⟩, h2, h3, h4, h5, Re1, hhs1⟩ := p_answersTo l dg cA C.2.2.2.2.2.2 (u := u) (ad := ad) (o := o) (f := f) Re (by omega) (xs (4 * k + 1))
  refine lv_aload_n hx hb dL_law_1166 rfl (lv_at hl 1 rfl) ?_
  refine lv_aload_n hx hb dL_law_1167 rfl (lv_at hl 0 rfl) ?_
  refine lv_iload hx hb dL_law_1168 (lv_at hl 5 rfl) ?_
  refine lv_iconst (v := 1) hx hb dL_law_1170 (by decide) ?_
  refine lv_iadd hx hb dL_law_1171 ?_
  refine lv_as (y := nI (4 * k + 1)) (nI_1 (4 * k)) ?_
  refine sldk C hS (j := 4 * k + 1) (by omega) hL dL_law_1172 ?_
  refine lv_aload_n hx hb dL_law_1173 rfl (lv_at hl 3 rfl) ?_
  refine lwZ C h1 kL_163 (by decide) hmc hms (by omega) (by omega) hP hD hS rfl hl.1 (rest := []) rfl (Nat.le_of_ble_eq_true rfl) dL_law_1174 (fun z H locs hP hD hS => ?_)
  refine lv_istore (lv' := [(6, .int kk), (0, .ref b), (1, .ref (u 0)), (2, .ref (ad 0)), (3, .ref o), (4, .ref od), (5, .int (nI (4 * k)))]) hx hb dL_law_1177 hl (by decide) rfl (fun ls hl => ?_)
  refine lv_aload_n hx hb dL_law_1179 rfl (lv_at hl 3 rfl) ?_
  refine lv_aload_n hx hb dL_law_1180 rfl (lv_at hl 1 rfl) ?_
  refine lv_iload hx hb dL_law_1181 (lv_at hl 6 rfl) ?_
  refine lv_iconst (v := 1) hx hb dL_law_1183 (by decide) ?_
  refine lv_iadd hx hb dL_law_1184 ?_
  refine lv_as (y := nI (4 * k + 1)) (nI_1 (4 * k)) ?_
  refine sldk C hS (j := 4 * k + 1) (by omega) hL dL_law_1185 ?_
  refine lwM C (fun sz => Met.ofM (h2 sz)) kL_165 h3 (by decide) (by omega) (by omega) hP hD hS rfl hl.1 (rest := []) rfl (Nat.le_of_ble_eq_true rfl) dL_law_1186 (st1 := [.int w]) rfl (fun H locs hP hD hS => ?_)
  refine lv_istore (lv' := [(7, .int w), (6, .int kk), (0, .ref b), (1, .ref (u 0)), (2, .ref (ad 0)), (3, .ref o), (4, .ref od), (5, .int (nI (4 * k)))]) hx hb dL_law_1189 hl (by decide) rfl (fun ls hl => ?_)
  refine lv_aload_n hx hb dL_law_1191 rfl (lv_at hl 4 rfl) ?_
  refine lwM C (fun sz => Met.ofR (rr_thrown l dg cA ad r1) sz) kL_107 ⟨rfl, rfl, (Nat.le_of_ble_eq_true rfl), (Nat.le_of_ble_eq_true rfl)⟩ (by decide) (by omega) (by omega) hP hD hS rfl hl.1 (rest := []) rfl (Nat.le_of_ble_eq_true rfl) dL_law_1192 (st1 := [.int (r1 0 0)]) rfl (fun H locs hP hD hS => ?_)
  refine lv_as (y := kk) h4 ?_
  refine lv_iload hx hb dL_law_1195 (lv_at hl 1 rfl) ?_
  refine lv_icmp_eq (tgt := 1202) hx hb dL_law_1197 (by decide) (fun _ => ?_) (fun h => absurd rfl h)
  refine lv_iload hx hb dL_law_1202 (lv_at hl 1 rfl) ?_
  refine lv_if_ne (tgt := 1219) hx hb dL_law_1204 (by decide) (fun _ => ?_) (fun h => ?_)
  · skip
    refine lv_goto (tgt := 1604) hx hb dL_law_1219 (by decide) ?_
    exact K (fixz (u 0) z) n1 ni1 ns1 hs1 c1 r1 f1 g H locs _ _ ls fixz_0 Re1 (by omega) hP hD hS (lv_sub hl [2, 3, 4, 5, 6, 7] rfl) (by omega) (by omega)
  · skip
    refine lv_aload_n hx hb dL_law_1207 rfl (lv_at hl 5 rfl) ?_
    refine lv_iconst (v := 0) hx hb dL_law_1208 (by decide) ?_
    refine va_lald hx hb hK hP (cw cA (fixz (u 0) z) n1 ni1 c1).length 4 lw_lo rfl vi01 dL_law_1209 ?_
    refine lv_iload hx hb dL_law_1210 (lv_at hl 0 rfl) ?_
    refine lv_i2l (v := w.toInt64) hx hb dL_law_1212 rfl ?_
    refine W.lcmp hx hb dL_law_1213 ?_
    refine lv_as (y := 0) ((lg_cmp_eq (f1 0) w.toInt64).mpr (h5 h)) ?_
    refine lv_if_eq (tgt := 1219) hx hb dL_law_1214 (by decide) (fun _ => ?_) (fun h => absurd rfl h)
    refine lv_goto (tgt := 1604) hx hb dL_law_1219 (by decide) ?_
    exact K (fixz (u 0) z) n1 ni1 ns1 hs1 c1 r1 f1 g H locs _ _ ls fixz_0 Re1 (by omega) hP hD hS (lv_sub hl [2, 3, 4, 5, 6, 7] rfl) (by omega) (by omega)
set_option maxHeartbeats 4000000 in
set_option maxRecDepth 100000 in
theorem k_target {p : Program} {l : Launch} {e : Env} {s : State} {m : MethodId} {args : Array Value} {below : List Frame} {meth : Method} {c : Code} {Q : State → Prop} {dg : va_G} {cA : Nat → ClassId} {A : Nat → Prop} {b L : Nat} {xs : Nat → Int32} (C : LC p l dg cA s m c args A b L xs) (hL : L ≤ 2048) (k : Nat) (hk : 4 * k + 4 ≤ L) {u ad : Nat → Nat} {o od n ni ns hs : Nat} {cs r : St} {f : Nat → Int64} {g : Nat → UInt64} {H : Heap} {locs : List Loc} {cells slots : Nat} {ls : Array Slot} (Re : Rel cs r n ni ns hs) (hhs : hs ≤ k) (hP : PP dg (LW cA u ad o od n ni cs r f g) H) (hD : va_D A (LW cA u ad o od n ni cs r f g)) (hS : va_S A s.heap H locs) (hl : lv_has ls 9 (lL b (u 0) (ad 0) o od (nI (4 * k)))) (hce : cells ≤ 60 + 8 * k) (hsl : slots ≤ 2000 + 100 * k) (K : KN p l e s m args below meth c Q dg cA A b (u 0) ad o od k) : W p l e room_1 s m args below meth c H locs cells slots Q (F0 m 1222 ls []) := by
  have hx := C.1.1
  have hb := C.1.2.1
  have hK := C.2.1
  obtain ⟨kk, f1, w, c1, r1, n1, ni1, ns1, hs1, mc, ms, rm2, h1, ⟨hmc, hms⟩, h2, h3, h4, h5, Re1, hhs1⟩ := p_target l dg cA C.2.2.2.2.2.2 (u := u) (ad := ad) (o := o) (f := f) Re (by omega) (xs (4 * k + 1))
  refine lv_aload_n hx hb dL_law_1222 rfl (lv_at hl 1 rfl) ?_
  refine lv_aload_n hx hb dL_law_1223 rfl (lv_at hl 0 rfl) ?_
  refine lv_iload hx hb dL_law_1224 (lv_at hl 5 rfl) ?_
  refine lv_iconst (v := 1) hx hb dL_law_1226 (by decide) ?_
  refine lv_iadd hx hb dL_law_1227 ?_
  refine lv_as (y := nI (4 * k + 1)) (nI_1 (4 * k)) ?_
  refine sldk C hS (j := 4 * k + 1) (by omega) hL dL_law_1228 ?_
  refine lv_aload_n hx hb dL_law_1229 rfl (lv_at hl 3 rfl) ?_
  refine lwZ C h1 kL_166 (by decide) hmc hms (by omega) (by omega) hP hD hS rfl hl.1 (rest := []) rfl (Nat.le_of_ble_eq_true rfl) dL_law_1230 (fun z H locs hP hD hS => ?_)
  refine lv_istore (lv' := [(6, .int kk), (0, .ref b), (1, .ref (u 0)), (2, .ref (ad 0)), (3, .ref o), (4, .ref od), (5, .int (nI (4 * k)))]) hx hb dL_law_1233 hl (by decide) rfl (fun ls hl => ?_)
  refine lv_aload_n hx hb dL_law_1235 rfl (lv_at hl 3 rfl) ?_
  refine lv_aload_n hx hb dL_law_1236 rfl (lv_at hl 1 rfl) ?_
  refine lv_iload hx hb dL_law_1237 (lv_at hl 6 rfl) ?_
  refine lv_iconst (v := 1) hx hb dL_law_1239 (by decide) ?_
  refine lv_iadd hx hb dL_law_1240 ?_
  refine lv_as (y := nI (4 * k + 1)) (nI_1 (4 * k)) ?_
  refine sldk C hS (j := 4 * k + 1) (by omega) hL dL_law_1241 ?_
  refine lwM C (fun sz => Met.ofM (h2 sz)) kL_168 h3 (by decide) (by omega) (by omega) hP hD hS rfl hl.1 (rest := []) rfl (Nat.le_of_ble_eq_true rfl) dL_law_1242 (st1 := [.int w]) rfl (fun H locs hP hD hS => ?_)
  refine lv_istore (lv' := [(7, .int w), (6, .int kk), (0, .ref b), (1, .ref (u 0)), (2, .ref (ad 0)), (3, .ref o), (4, .ref od), (5, .int (nI (4 * k)))]) hx hb dL_law_1245 hl (by decide) rfl (fun ls hl => ?_)
  refine lv_aload_n hx hb dL_law_1247 rfl (lv_at hl 4 rfl) ?_
  refine lwM C (fun sz => Met.ofR (rr_thrown l dg cA ad r1) sz) kL_107 ⟨rfl, rfl, (Nat.le_of_ble_eq_true rfl), (Nat.le_of_ble_eq_true rfl)⟩ (by decide) (by omega) (by omega) hP hD hS rfl hl.1 (rest := []) rfl (Nat.le_of_ble_eq_true rfl) dL_law_1248 (st1 := [.int (r1 0 0)]) rfl (fun H locs hP hD hS => ?_)
  refine lv_as (y := kk) h4 ?_
  refine lv_iload hx hb dL_law_1251 (lv_at hl 1 rfl) ?_
  refine lv_icmp_eq (tgt := 1258) hx hb dL_law_1253 (by decide) (fun _ => ?_) (fun h => absurd rfl h)
  refine lv_iload hx hb dL_law_1258 (lv_at hl 1 rfl) ?_
  refine lv_if_ne (tgt := 1275) hx hb dL_law_1260 (by decide) (fun _ => ?_) (fun h => ?_)
  · skip
    refine lv_goto (tgt := 1604) hx hb dL_law_1275 (by decide) ?_
    exact K (fixz (u 0) z) n1 ni1 ns1 hs1 c1 r1 f1 g H locs _ _ ls fixz_0 Re1 (by omega) hP hD hS (lv_sub hl [2, 3, 4, 5, 6, 7] rfl) (by omega) (by omega)
  · skip
    refine lv_aload_n hx hb dL_law_1263 rfl (lv_at hl 5 rfl) ?_
    refine lv_iconst (v := 0) hx hb dL_law_1264 (by decide) ?_
    refine va_lald hx hb hK hP (cw cA (fixz (u 0) z) n1 ni1 c1).length 4 lw_lo rfl vi01 dL_law_1265 ?_
    refine lv_iload hx hb dL_law_1266 (lv_at hl 0 rfl) ?_
    refine lv_i2l (v := w.toInt64) hx hb dL_law_1268 rfl ?_
    refine W.lcmp hx hb dL_law_1269 ?_
    refine lv_as (y := 0) ((lg_cmp_eq (f1 0) w.toInt64).mpr (h5 h)) ?_
    refine lv_if_eq (tgt := 1275) hx hb dL_law_1270 (by decide) (fun _ => ?_) (fun h => absurd rfl h)
    refine lv_goto (tgt := 1604) hx hb dL_law_1275 (by decide) ?_
    exact K (fixz (u 0) z) n1 ni1 ns1 hs1 c1 r1 f1 g H locs _ _ ls fixz_0 Re1 (by omega) hP hD hS (lv_sub hl [2, 3, 4, 5, 6, 7] rfl) (by omega) (by omega)
set_option maxHeartbeats 4000000 in
set_option maxRecDepth 100000 in
theorem k_weight {p : Program} {l : Launch} {e : Env} {s : State} {m : MethodId} {args : Array Value} {below : List Frame} {meth : Method} {c : Code} {Q : State → Prop} {dg : va_G} {cA : Nat → ClassId} {A : Nat → Prop} {b L : Nat} {xs : Nat → Int32} (C : LC p l dg cA s m c args A b L xs) (hL : L ≤ 2048) (k : Nat) (hk : 4 * k + 4 ≤ L) {u ad : Nat → Nat} {o od n ni ns hs : Nat} {cs r : St} {f : Nat → Int64} {g : Nat → UInt64} {H : Heap} {locs : List Loc} {cells slots : Nat} {ls : Array Slot} (Re : Rel cs r n ni ns hs) (hhs : hs ≤ k) (hP : PP dg (LW cA u ad o od n ni cs r f g) H) (hD : va_D A (LW cA u ad o od n ni cs r f g)) (hS : va_S A s.heap H locs) (hl : lv_has ls 9 (lL b (u 0) (ad 0) o od (nI (4 * k)))) (hce : cells ≤ 60 + 8 * k) (hsl : slots ≤ 2000 + 100 * k) (K : KN p l e s m args below meth c Q dg cA A b (u 0) ad o od k) : W p l e room_1 s m args below meth c H locs cells slots Q (F0 m 1278 ls []) := by
  have hx := C.1.1
  have hb := C.1.2.1
  have hK := C.2.1
  obtain ⟨kk, f1, w, c1, r1, n1, ni1, ns1, hs1, mc, ms, rm2, h1, ⟨hmc, hms⟩, h2, h3, h4, h5, Re1, hhs1⟩ := p_weight l dg cA C.2.2.2.2.2.2 (u := u) (ad := ad) (o := o) (f := f) Re (by omega) (xs (4 * k + 1))
  refine lv_aload_n hx hb dL_law_1278 rfl (lv_at hl 1 rfl) ?_
  refine lv_aload_n hx hb dL_law_1279 rfl (lv_at hl 0 rfl) ?_
  refine lv_iload hx hb dL_law_1280 (lv_at hl 5 rfl) ?_
  refine lv_iconst (v := 1) hx hb dL_law_1282 (by decide) ?_
  refine lv_iadd hx hb dL_law_1283 ?_
  refine lv_as (y := nI (4 * k + 1)) (nI_1 (4 * k)) ?_
  refine sldk C hS (j := 4 * k + 1) (by omega) hL dL_law_1284 ?_
  refine lv_aload_n hx hb dL_law_1285 rfl (lv_at hl 3 rfl) ?_
  refine lwZ C h1 kL_169 (by decide) hmc hms (by omega) (by omega) hP hD hS rfl hl.1 (rest := []) rfl (Nat.le_of_ble_eq_true rfl) dL_law_1286 (fun z H locs hP hD hS => ?_)
  refine lv_istore (lv' := [(6, .int kk), (0, .ref b), (1, .ref (u 0)), (2, .ref (ad 0)), (3, .ref o), (4, .ref od), (5, .int (nI (4 * k)))]) hx hb dL_law_1289 hl (by decide) rfl (fun ls hl => ?_)
  refine lv_aload_n hx hb dL_law_1291 rfl (lv_at hl 3 rfl) ?_
  refine lv_aload_n hx hb dL_law_1292 rfl (lv_at hl 1 rfl) ?_
  refine lv_iload hx hb dL_law_1293 (lv_at hl 6 rfl) ?_
  refine lv_iconst (v := 1) hx hb dL_law_1295 (by decide) ?_
  refine lv_iadd hx hb dL_law_1296 ?_
  refine lv_as (y := nI (4 * k + 1)) (nI_1 (4 * k)) ?_
  refine sldk C hS (j := 4 * k + 1) (by omega) hL dL_law_1297 ?_
  refine lwM C (fun sz => Met.ofM (h2 sz)) kL_171 h3 (by decide) (by omega) (by omega) hP hD hS rfl hl.1 (rest := []) rfl (Nat.le_of_ble_eq_true rfl) dL_law_1298 (st1 := [.int w]) rfl (fun H locs hP hD hS => ?_)
  refine lv_istore (lv' := [(7, .int w), (6, .int kk), (0, .ref b), (1, .ref (u 0)), (2, .ref (ad 0)), (3, .ref o), (4, .ref od), (5, .int (nI (4 * k)))]) hx hb dL_law_1301 hl (by decide) rfl (fun ls hl => ?_)
  refine lv_aload_n hx hb dL_law_1303 rfl (lv_at hl 4 rfl) ?_
  refine lwM C (fun sz => Met.ofR (rr_thrown l dg cA ad r1) sz) kL_107 ⟨rfl, rfl, (Nat.le_of_ble_eq_true rfl), (Nat.le_of_ble_eq_true rfl)⟩ (by decide) (by omega) (by omega) hP hD hS rfl hl.1 (rest := []) rfl (Nat.le_of_ble_eq_true rfl) dL_law_1304 (st1 := [.int (r1 0 0)]) rfl (fun H locs hP hD hS => ?_)
  refine lv_as (y := kk) h4 ?_
  refine lv_iload hx hb dL_law_1307 (lv_at hl 1 rfl) ?_
  refine lv_icmp_eq (tgt := 1314) hx hb dL_law_1309 (by decide) (fun _ => ?_) (fun h => absurd rfl h)
  refine lv_iload hx hb dL_law_1314 (lv_at hl 1 rfl) ?_
  refine lv_if_ne (tgt := 1331) hx hb dL_law_1316 (by decide) (fun _ => ?_) (fun h => ?_)
  · skip
    refine lv_goto (tgt := 1604) hx hb dL_law_1331 (by decide) ?_
    exact K (fixz (u 0) z) n1 ni1 ns1 hs1 c1 r1 f1 g H locs _ _ ls fixz_0 Re1 (by omega) hP hD hS (lv_sub hl [2, 3, 4, 5, 6, 7] rfl) (by omega) (by omega)
  · skip
    refine lv_aload_n hx hb dL_law_1319 rfl (lv_at hl 5 rfl) ?_
    refine lv_iconst (v := 0) hx hb dL_law_1320 (by decide) ?_
    refine va_lald hx hb hK hP (cw cA (fixz (u 0) z) n1 ni1 c1).length 4 lw_lo rfl vi01 dL_law_1321 ?_
    refine lv_iload hx hb dL_law_1322 (lv_at hl 0 rfl) ?_
    refine lv_i2l (v := w.toInt64) hx hb dL_law_1324 rfl ?_
    refine W.lcmp hx hb dL_law_1325 ?_
    refine lv_as (y := 0) ((lg_cmp_eq (f1 0) w.toInt64).mpr (h5 h)) ?_
    refine lv_if_eq (tgt := 1331) hx hb dL_law_1326 (by decide) (fun _ => ?_) (fun h => absurd rfl h)
    refine lv_goto (tgt := 1604) hx hb dL_law_1331 (by decide) ?_
    exact K (fixz (u 0) z) n1 ni1 ns1 hs1 c1 r1 f1 g H locs _ _ ls fixz_0 Re1 (by omega) hP hD hS (lv_sub hl [2, 3, 4, 5, 6, 7] rfl) (by omega) (by omega)
set_option maxHeartbeats 4000000 in
set_option maxRecDepth 100000 in
theorem k_weightAnew {p : Program} {l : Launch} {e : Env} {s : State} {m : MethodId} {args : Array Value} {below : List Frame} {meth : Method} {c : Code} {Q : State → Prop} {dg : va_G} {cA : Nat → ClassId} {A : Nat → Prop} {b L : Nat} {xs : Nat → Int32} (C : LC p l dg cA s m c args A b L xs) (hL : L ≤ 2048) (k : Nat) (hk : 4 * k + 4 ≤ L) {u ad : Nat → Nat} {o od n ni ns hs : Nat} {cs r : St} {f : Nat → Int64} {g : Nat → UInt64} {H : Heap} {locs : List Loc} {cells slots : Nat} {ls : Array Slot} (Re : Rel cs r n ni ns hs) (hhs : hs ≤ k) (hP : PP dg (LW cA u ad o od n ni cs r f g) H) (hD : va_D A (LW cA u ad o od n ni cs r f g)) (hS : va_S A s.heap H locs) (hl : lv_has ls 9 (lL b (u 0) (ad 0) o od (nI (4 * k)))) (hce : cells ≤ 60 + 8 * k) (hsl : slots ≤ 2000 + 100 * k) (K : KN p l e s m args below meth c Q dg cA A b (u 0) ad o od k) : W p l e room_1 s m args below meth c H locs cells slots Q (F0 m 1334 ls []) := by
  have hx := C.1.1
  have hb := C.1.2.1
  have hK := C.2.1
  obtain ⟨kk, f1, w, c1, r1, n1, ni1, ns1, hs1, mc, ms, rm2, h1, ⟨hmc, hms⟩, h2, h3, h4, h5, Re1, hhs1⟩ := p_weightAnew l dg cA C.2.2.2.2.2.2 (u := u) (ad := ad) (o := o) (f := f) Re (by omega) (xs (4 * k + 1))
  refine lv_aload_n hx hb dL_law_1334 rfl (lv_at hl 1 rfl) ?_
  refine lv_aload_n hx hb dL_law_1335 rfl (lv_at hl 0 rfl) ?_
  refine lv_iload hx hb dL_law_1336 (lv_at hl 5 rfl) ?_
  refine lv_iconst (v := 1) hx hb dL_law_1338 (by decide) ?_
  refine lv_iadd hx hb dL_law_1339 ?_
  refine lv_as (y := nI (4 * k + 1)) (nI_1 (4 * k)) ?_
  refine sldk C hS (j := 4 * k + 1) (by omega) hL dL_law_1340 ?_
  refine lv_aload_n hx hb dL_law_1341 rfl (lv_at hl 3 rfl) ?_
  refine lwZ C h1 kL_172 (by decide) hmc hms (by omega) (by omega) hP hD hS rfl hl.1 (rest := []) rfl (Nat.le_of_ble_eq_true rfl) dL_law_1342 (fun z H locs hP hD hS => ?_)
  refine lv_istore (lv' := [(6, .int kk), (0, .ref b), (1, .ref (u 0)), (2, .ref (ad 0)), (3, .ref o), (4, .ref od), (5, .int (nI (4 * k)))]) hx hb dL_law_1345 hl (by decide) rfl (fun ls hl => ?_)
  refine lv_aload_n hx hb dL_law_1347 rfl (lv_at hl 3 rfl) ?_
  refine lv_aload_n hx hb dL_law_1348 rfl (lv_at hl 1 rfl) ?_
  refine lv_iload hx hb dL_law_1349 (lv_at hl 6 rfl) ?_
  refine lv_iconst (v := 1) hx hb dL_law_1351 (by decide) ?_
  refine lv_iadd hx hb dL_law_1352 ?_
  refine lv_as (y := nI (4 * k + 1)) (nI_1 (4 * k)) ?_
  refine sldk C hS (j := 4 * k + 1) (by omega) hL dL_law_1353 ?_
  refine lwM C (fun sz => Met.ofM (h2 sz)) kL_174 h3 (by decide) (by omega) (by omega) hP hD hS rfl hl.1 (rest := []) rfl (Nat.le_of_ble_eq_true rfl) dL_law_1354 (st1 := [.int w]) rfl (fun H locs hP hD hS => ?_)
  refine lv_istore (lv' := [(7, .int w), (6, .int kk), (0, .ref b), (1, .ref (u 0)), (2, .ref (ad 0)), (3, .ref o), (4, .ref od), (5, .int (nI (4 * k)))]) hx hb dL_law_1357 hl (by decide) rfl (fun ls hl => ?_)
  refine lv_aload_n hx hb dL_law_1359 rfl (lv_at hl 4 rfl) ?_
  refine lwM C (fun sz => Met.ofR (rr_thrown l dg cA ad r1) sz) kL_107 ⟨rfl, rfl, (Nat.le_of_ble_eq_true rfl), (Nat.le_of_ble_eq_true rfl)⟩ (by decide) (by omega) (by omega) hP hD hS rfl hl.1 (rest := []) rfl (Nat.le_of_ble_eq_true rfl) dL_law_1360 (st1 := [.int (r1 0 0)]) rfl (fun H locs hP hD hS => ?_)
  refine lv_as (y := kk) h4 ?_
  refine lv_iload hx hb dL_law_1363 (lv_at hl 1 rfl) ?_
  refine lv_icmp_eq (tgt := 1370) hx hb dL_law_1365 (by decide) (fun _ => ?_) (fun h => absurd rfl h)
  refine lv_iload hx hb dL_law_1370 (lv_at hl 1 rfl) ?_
  refine lv_if_ne (tgt := 1387) hx hb dL_law_1372 (by decide) (fun _ => ?_) (fun h => ?_)
  · skip
    refine lv_goto (tgt := 1604) hx hb dL_law_1387 (by decide) ?_
    exact K (fixz (u 0) z) n1 ni1 ns1 hs1 c1 r1 f1 g H locs _ _ ls fixz_0 Re1 (by omega) hP hD hS (lv_sub hl [2, 3, 4, 5, 6, 7] rfl) (by omega) (by omega)
  · skip
    refine lv_aload_n hx hb dL_law_1375 rfl (lv_at hl 5 rfl) ?_
    refine lv_iconst (v := 0) hx hb dL_law_1376 (by decide) ?_
    refine va_lald hx hb hK hP (cw cA (fixz (u 0) z) n1 ni1 c1).length 4 lw_lo rfl vi01 dL_law_1377 ?_
    refine lv_iload hx hb dL_law_1378 (lv_at hl 0 rfl) ?_
    refine lv_i2l (v := w.toInt64) hx hb dL_law_1380 rfl ?_
    refine W.lcmp hx hb dL_law_1381 ?_
    refine lv_as (y := 0) ((lg_cmp_eq (f1 0) w.toInt64).mpr (h5 h)) ?_
    refine lv_if_eq (tgt := 1387) hx hb dL_law_1382 (by decide) (fun _ => ?_) (fun h => absurd rfl h)
    refine lv_goto (tgt := 1604) hx hb dL_law_1387 (by decide) ?_
    exact K (fixz (u 0) z) n1 ni1 ns1 hs1 c1 r1 f1 g H locs _ _ ls fixz_0 Re1 (by omega) hP hD hS (lv_sub hl [2, 3, 4, 5, 6, 7] rfl) (by omega) (by omega)
set_option maxHeartbeats 4000000 in
set_option maxRecDepth 100000 in
theorem k_weightOfLanguage {p : Program} {l : Launch} {e : Env} {s : State} {m : MethodId} {args : Array Value} {below : List Frame} {meth : Method} {c : Code} {Q : State → Prop} {dg : va_G} {cA : Nat → ClassId} {A : Nat → Prop} {b L : Nat} {xs : Nat → Int32} (C : LC p l dg cA s m c args A b L xs) (hL : L ≤ 2048) (k : Nat) (hk : 4 * k + 4 ≤ L) {u ad : Nat → Nat} {o od n ni ns hs : Nat} {cs r : St} {f : Nat → Int64} {g : Nat → UInt64} {H : Heap} {locs : List Loc} {cells slots : Nat} {ls : Array Slot} (Re : Rel cs r n ni ns hs) (hhs : hs ≤ k) (hP : PP dg (LW cA u ad o od n ni cs r f g) H) (hD : va_D A (LW cA u ad o od n ni cs r f g)) (hS : va_S A s.heap H locs) (hl : lv_has ls 9 (lL b (u 0) (ad 0) o od (nI (4 * k)))) (hce : cells ≤ 60 + 8 * k) (hsl : slots ≤ 2000 + 100 * k) (K : KN p l e s m args below meth c Q dg cA A b (u 0) ad o od k) : W p l e room_1 s m args below meth c H locs cells slots Q (F0 m 1390 ls []) := by
  have hx := C.1.1
  have hb := C.1.2.1
  have hK := C.2.1
  obtain ⟨kk, f1, w, c1, r1, n1, ni1, ns1, hs1, mc, ms, rm2, h1, ⟨hmc, hms⟩, h2, h3, h4, h5, Re1, hhs1⟩ := p_weightOfLanguage l dg cA C.2.2.2.2.2.2 (u := u) (ad := ad) (o := o) (f := f) Re (by omega) (xs (4 * k + 1))
  refine lv_aload_n hx hb dL_law_1390 rfl (lv_at hl 1 rfl) ?_
  refine lv_aload_n hx hb dL_law_1391 rfl (lv_at hl 0 rfl) ?_
  refine lv_iload hx hb dL_law_1392 (lv_at hl 5 rfl) ?_
  refine lv_iconst (v := 1) hx hb dL_law_1394 (by decide) ?_
  refine lv_iadd hx hb dL_law_1395 ?_
  refine lv_as (y := nI (4 * k + 1)) (nI_1 (4 * k)) ?_
  refine sldk C hS (j := 4 * k + 1) (by omega) hL dL_law_1396 ?_
  refine lv_aload_n hx hb dL_law_1397 rfl (lv_at hl 3 rfl) ?_
  refine lwZ C h1 kL_175 (by decide) hmc hms (by omega) (by omega) hP hD hS rfl hl.1 (rest := []) rfl (Nat.le_of_ble_eq_true rfl) dL_law_1398 (fun z H locs hP hD hS => ?_)
  refine lv_istore (lv' := [(6, .int kk), (0, .ref b), (1, .ref (u 0)), (2, .ref (ad 0)), (3, .ref o), (4, .ref od), (5, .int (nI (4 * k)))]) hx hb dL_law_1401 hl (by decide) rfl (fun ls hl => ?_)
  refine lv_aload_n hx hb dL_law_1403 rfl (lv_at hl 3 rfl) ?_
  refine lv_aload_n hx hb dL_law_1404 rfl (lv_at hl 1 rfl) ?_
  refine lv_iload hx hb dL_law_1405 (lv_at hl 6 rfl) ?_
  refine lv_iconst (v := 1) hx hb dL_law_1407 (by decide) ?_
  refine lv_iadd hx hb dL_law_1408 ?_
  refine lv_as (y := nI (4 * k + 1)) (nI_1 (4 * k)) ?_
  refine sldk C hS (j := 4 * k + 1) (by omega) hL dL_law_1409 ?_
  refine lwM C (fun sz => Met.ofM (h2 sz)) kL_177 h3 (by decide) (by omega) (by omega) hP hD hS rfl hl.1 (rest := []) rfl (Nat.le_of_ble_eq_true rfl) dL_law_1410 (st1 := [.int w]) rfl (fun H locs hP hD hS => ?_)
  refine lv_istore (lv' := [(7, .int w), (6, .int kk), (0, .ref b), (1, .ref (u 0)), (2, .ref (ad 0)), (3, .ref o), (4, .ref od), (5, .int (nI (4 * k)))]) hx hb dL_law_1413 hl (by decide) rfl (fun ls hl => ?_)
  refine lv_aload_n hx hb dL_law_1415 rfl (lv_at hl 4 rfl) ?_
  refine lwM C (fun sz => Met.ofR (rr_thrown l dg cA ad r1) sz) kL_107 ⟨rfl, rfl, (Nat.le_of_ble_eq_true rfl), (Nat.le_of_ble_eq_true rfl)⟩ (by decide) (by omega) (by omega) hP hD hS rfl hl.1 (rest := []) rfl (Nat.le_of_ble_eq_true rfl) dL_law_1416 (st1 := [.int (r1 0 0)]) rfl (fun H locs hP hD hS => ?_)
  refine lv_as (y := kk) h4 ?_
  refine lv_iload hx hb dL_law_1419 (lv_at hl 1 rfl) ?_
  refine lv_icmp_eq (tgt := 1426) hx hb dL_law_1421 (by decide) (fun _ => ?_) (fun h => absurd rfl h)
  refine lv_iload hx hb dL_law_1426 (lv_at hl 1 rfl) ?_
  refine lv_if_ne (tgt := 1443) hx hb dL_law_1428 (by decide) (fun _ => ?_) (fun h => ?_)
  · skip
    refine lv_goto (tgt := 1604) hx hb dL_law_1443 (by decide) ?_
    exact K (fixz (u 0) z) n1 ni1 ns1 hs1 c1 r1 f1 g H locs _ _ ls fixz_0 Re1 (by omega) hP hD hS (lv_sub hl [2, 3, 4, 5, 6, 7] rfl) (by omega) (by omega)
  · skip
    refine lv_aload_n hx hb dL_law_1431 rfl (lv_at hl 5 rfl) ?_
    refine lv_iconst (v := 0) hx hb dL_law_1432 (by decide) ?_
    refine va_lald hx hb hK hP (cw cA (fixz (u 0) z) n1 ni1 c1).length 4 lw_lo rfl vi01 dL_law_1433 ?_
    refine lv_iload hx hb dL_law_1434 (lv_at hl 0 rfl) ?_
    refine lv_i2l (v := w.toInt64) hx hb dL_law_1436 rfl ?_
    refine W.lcmp hx hb dL_law_1437 ?_
    refine lv_as (y := 0) ((lg_cmp_eq (f1 0) w.toInt64).mpr (h5 h)) ?_
    refine lv_if_eq (tgt := 1443) hx hb dL_law_1438 (by decide) (fun _ => ?_) (fun h => absurd rfl h)
    refine lv_goto (tgt := 1604) hx hb dL_law_1443 (by decide) ?_
    exact K (fixz (u 0) z) n1 ni1 ns1 hs1 c1 r1 f1 g H locs _ _ ls fixz_0 Re1 (by omega) hP hD hS (lv_sub hl [2, 3, 4, 5, 6, 7] rfl) (by omega) (by omega)
set_option maxHeartbeats 4000000 in
set_option maxRecDepth 100000 in
theorem k_weightedSum {p : Program} {l : Launch} {e : Env} {s : State} {m : MethodId} {args : Array Value} {below : List Frame} {meth : Method} {c : Code} {Q : State → Prop} {dg : va_G} {cA : Nat → ClassId} {A : Nat → Prop} {b L : Nat} {xs : Nat → Int32} (C : LC p l dg cA s m c args A b L xs) (hL : L ≤ 2048) (k : Nat) (hk : 4 * k + 4 ≤ L) {u ad : Nat → Nat} {o od n ni ns hs : Nat} {cs r : St} {f : Nat → Int64} {g : Nat → UInt64} {H : Heap} {locs : List Loc} {cells slots : Nat} {ls : Array Slot} (Re : Rel cs r n ni ns hs) (hhs : hs ≤ k) (hP : PP dg (LW cA u ad o od n ni cs r f g) H) (hD : va_D A (LW cA u ad o od n ni cs r f g)) (hS : va_S A s.heap H locs) (hl : lv_has ls 9 (lL b (u 0) (ad 0) o od (nI (4 * k)))) (hce : cells ≤ 60 + 8 * k) (hsl : slots ≤ 2000 + 100 * k) (K : KN p l e s m args below meth c Q dg cA A b (u 0) ad o od k) : W p l e room_1 s m args below meth c H locs cells slots Q (F0 m 1446 ls []) := by
  have hx := C.1.1
  have hb := C.1.2.1
  have hK := C.2.1
  obtain ⟨w, r1, rm, rm2, h1, h0, h2, h3, Re1⟩ := p_wsum l dg cA (u := u) (ad := ad) Re
  refine lv_aload_n hx hb dL_law_1446 rfl (lv_at hl 1 rfl) ?_
  refine lwC C h1 kL_178 h0 (by decide) (by omega) (by omega) hP hD hS rfl hl.1 (rest := []) rfl (Nat.le_of_ble_eq_true rfl) dL_law_1447 (st1 := [.long w]) rfl (fun z H locs hP hD hS => ?_)
  refine lv_aload_n hx hb dL_law_1450 rfl (lv_at hl 2 rfl) ?_
  refine lwM C (fun sz => Met.ofM (h2 sz)) kL_182 h3 (by decide) (by omega) (by omega) hP hD hS rfl hl.1 (rest := [.long w]) rfl (Nat.le_of_ble_eq_true rfl) dL_law_1451 (st1 := [.long w, .long w]) rfl (fun H locs hP hD hS => ?_)
  refine W.lcmp hx hb dL_law_1454 ?_
  refine lv_as (y := 0) ((lg_cmp_eq w w).mpr rfl) ?_
  refine lv_if_eq (tgt := 1604) hx hb dL_law_1455 (by decide) (fun _ => ?_) (fun h => absurd rfl h)
  exact K (fixz (u 0) z) n ni ns hs cs r1 f g H locs _ _ ls fixz_0 Re1 (by omega) hP hD hS (lv_sub hl [0, 1, 2, 3, 4, 5] rfl) (by omega) (by omega)
set_option maxHeartbeats 4000000 in
set_option maxRecDepth 100000 in
theorem k_weightedMean {p : Program} {l : Launch} {e : Env} {s : State} {m : MethodId} {args : Array Value} {below : List Frame} {meth : Method} {c : Code} {Q : State → Prop} {dg : va_G} {cA : Nat → ClassId} {A : Nat → Prop} {b L : Nat} {xs : Nat → Int32} (C : LC p l dg cA s m c args A b L xs) (hL : L ≤ 2048) (k : Nat) (hk : 4 * k + 4 ≤ L) {u ad : Nat → Nat} {o od n ni ns hs : Nat} {cs r : St} {f : Nat → Int64} {g : Nat → UInt64} {H : Heap} {locs : List Loc} {cells slots : Nat} {ls : Array Slot} (Re : Rel cs r n ni ns hs) (hhs : hs ≤ k) (hP : PP dg (LW cA u ad o od n ni cs r f g) H) (hD : va_D A (LW cA u ad o od n ni cs r f g)) (hS : va_S A s.heap H locs) (hl : lv_has ls 9 (lL b (u 0) (ad 0) o od (nI (4 * k)))) (hce : cells ≤ 60 + 8 * k) (hsl : slots ≤ 2000 + 100 * k) (K : KN p l e s m args below meth c Q dg cA A b (u 0) ad o od k) : W p l e room_1 s m args below meth c H locs cells slots Q (F0 m 1460 ls []) := by
  have hx := C.1.1
  have hb := C.1.2.1
  have hK := C.2.1
  obtain ⟨kk, g1, w, r1, ns1, mc, ms, rm2, h1, ⟨hmc, hms⟩, h2, h3, h4, h5, Re1⟩ := p_weightedMean l dg cA C.2.2.2.2.2.2 (u := u) (ad := ad) (o := od) (g := g) Re
  refine lv_aload_n hx hb dL_law_1460 rfl (lv_at hl 1 rfl) ?_
  refine lv_aload hx hb dL_law_1461 (lv_at hl 4 rfl) ?_
  refine lwD C h1 kL_183 (by decide) hmc hms (by omega) (by omega) hP hD hS rfl hl.1 (rest := []) rfl (Nat.le_of_ble_eq_true rfl) dL_law_1463 (fun z H locs hP hD hS => ?_)
  refine lv_istore (lv' := [(6, .int kk), (0, .ref b), (1, .ref (u 0)), (2, .ref (ad 0)), (3, .ref o), (4, .ref od), (5, .int (nI (4 * k)))]) hx hb dL_law_1466 hl (by decide) rfl (fun ls hl => ?_)
  refine lv_aload_n hx hb dL_law_1468 rfl (lv_at hl 3 rfl) ?_
  refine lwM C (fun sz => Met.ofM (h2 sz)) kL_186 h3 (by decide) (by omega) (by omega) hP hD hS rfl hl.1 (rest := []) rfl (Nat.le_of_ble_eq_true rfl) dL_law_1469 (st1 := [.double w]) rfl (fun H locs hP hD hS => ?_)
  refine lv_dstore (lv' := [(7, .double w), (6, .int kk), (0, .ref b), (1, .ref (u 0)), (2, .ref (ad 0)), (3, .ref o), (4, .ref od), (5, .int (nI (4 * k)))]) hx hb dL_law_1472 hl (by decide) rfl (fun ls hl => ?_)
  refine lv_aload_n hx hb dL_law_1474 rfl (lv_at hl 4 rfl) ?_
  refine lwM C (fun sz => Met.ofR (rr_thrown l dg cA ad r1) sz) kL_107 ⟨rfl, rfl, (Nat.le_of_ble_eq_true rfl), (Nat.le_of_ble_eq_true rfl)⟩ (by decide) (by omega) (by omega) hP hD hS rfl hl.1 (rest := []) rfl (Nat.le_of_ble_eq_true rfl) dL_law_1475 (st1 := [.int (r1 0 0)]) rfl (fun H locs hP hD hS => ?_)
  refine lv_as (y := kk) h4 ?_
  refine lv_iload hx hb dL_law_1478 (lv_at hl 1 rfl) ?_
  refine lv_icmp_eq (tgt := 1485) hx hb dL_law_1480 (by decide) (fun _ => ?_) (fun h => absurd rfl h)
  refine lv_iload hx hb dL_law_1485 (lv_at hl 1 rfl) ?_
  refine lv_if_ne (tgt := 1522) hx hb dL_law_1487 (by decide) (fun _ => ?_) (fun h => ?_)
  · skip
    refine lv_goto (tgt := 1604) hx hb dL_law_1522 (by decide) ?_
    exact K (fixz (u 0) z) n ni ns1 hs cs r1 f g1 H locs _ _ ls fixz_0 Re1 (by omega) hP hD hS (lv_sub hl [2, 3, 4, 5, 6, 7] rfl) (by omega) (by omega)
  · skip
    refine lv_aload hx hb dL_law_1490 (lv_at hl 6 rfl) ?_
    refine lv_iconst (v := 0) hx hb dL_law_1492 (by decide) ?_
    refine va_dald hx hb hK hP ((cw cA (fixz (u 0) z) n ni cs).length + 1) 5 lw_ld rfl vi01 dL_law_1493 ?_
    refine lv_dload hx hb dL_law_1494 (lv_at hl 0 rfl) ?_
    refine lv_dcmp hx hb dL_law_1496 ?_
    refine lv_as (y := 0) (by show Op.cmpValue (FP.dcmp (g1 0) w) .l = 0; rw [show g1 0 = w from (h5 h).1]; exact fp_dcmp (h5 h).2) ?_
    refine lv_if_eq (tgt := 1522) hx hb dL_law_1497 (by decide) (fun _ => ?_) (fun h => absurd rfl h)
    refine lv_goto (tgt := 1604) hx hb dL_law_1522 (by decide) ?_
    exact K (fixz (u 0) z) n ni ns1 hs cs r1 f g1 H locs _ _ ls fixz_0 Re1 (by omega) hP hD hS (lv_sub hl [2, 3, 4, 5, 6, 7] rfl) (by omega) (by omega)
set_option maxHeartbeats 4000000 in
set_option maxRecDepth 100000 in
theorem k_rate {p : Program} {l : Launch} {e : Env} {s : State} {m : MethodId} {args : Array Value} {below : List Frame} {meth : Method} {c : Code} {Q : State → Prop} {dg : va_G} {cA : Nat → ClassId} {A : Nat → Prop} {b L : Nat} {xs : Nat → Int32} (C : LC p l dg cA s m c args A b L xs) (hL : L ≤ 2048) (k : Nat) (hk : 4 * k + 4 ≤ L) {u ad : Nat → Nat} {o od n ni ns hs : Nat} {cs r : St} {f : Nat → Int64} {g : Nat → UInt64} {H : Heap} {locs : List Loc} {cells slots : Nat} {ls : Array Slot} (Re : Rel cs r n ni ns hs) (hhs : hs ≤ k) (hP : PP dg (LW cA u ad o od n ni cs r f g) H) (hD : va_D A (LW cA u ad o od n ni cs r f g)) (hS : va_S A s.heap H locs) (hl : lv_has ls 9 (lL b (u 0) (ad 0) o od (nI (4 * k)))) (hce : cells ≤ 60 + 8 * k) (hsl : slots ≤ 2000 + 100 * k) (K : KN p l e s m args below meth c Q dg cA A b (u 0) ad o od k) : W p l e room_1 s m args below meth c H locs cells slots Q (F0 m 1525 ls []) := by
  have hx := C.1.1
  have hb := C.1.2.1
  have hK := C.2.1
  obtain ⟨kk, g1, w, r1, ns1, mc, ms, rm2, h1, ⟨hmc, hms⟩, h2, h3, h4, h5, Re1⟩ := p_rate l dg cA C.2.2.2.2.2.2 (u := u) (ad := ad) (o := od) (g := g) Re
  refine lv_aload_n hx hb dL_law_1525 rfl (lv_at hl 1 rfl) ?_
  refine lv_aload hx hb dL_law_1526 (lv_at hl 4 rfl) ?_
  refine lwD C h1 kL_187 (by decide) hmc hms (by omega) (by omega) hP hD hS rfl hl.1 (rest := []) rfl (Nat.le_of_ble_eq_true rfl) dL_law_1528 (fun z H locs hP hD hS => ?_)
  refine lv_istore (lv' := [(6, .int kk), (0, .ref b), (1, .ref (u 0)), (2, .ref (ad 0)), (3, .ref o), (4, .ref od), (5, .int (nI (4 * k)))]) hx hb dL_law_1531 hl (by decide) rfl (fun ls hl => ?_)
  refine lv_aload_n hx hb dL_law_1533 rfl (lv_at hl 3 rfl) ?_
  refine lwM C (fun sz => Met.ofM (h2 sz)) kL_189 h3 (by decide) (by omega) (by omega) hP hD hS rfl hl.1 (rest := []) rfl (Nat.le_of_ble_eq_true rfl) dL_law_1534 (st1 := [.float w]) rfl (fun H locs hP hD hS => ?_)
  refine lv_fstore (lv' := [(7, .float w), (6, .int kk), (0, .ref b), (1, .ref (u 0)), (2, .ref (ad 0)), (3, .ref o), (4, .ref od), (5, .int (nI (4 * k)))]) hx hb dL_law_1537 hl (by decide) rfl (fun ls hl => ?_)
  refine lv_aload_n hx hb dL_law_1539 rfl (lv_at hl 4 rfl) ?_
  refine lwM C (fun sz => Met.ofR (rr_thrown l dg cA ad r1) sz) kL_107 ⟨rfl, rfl, (Nat.le_of_ble_eq_true rfl), (Nat.le_of_ble_eq_true rfl)⟩ (by decide) (by omega) (by omega) hP hD hS rfl hl.1 (rest := []) rfl (Nat.le_of_ble_eq_true rfl) dL_law_1540 (st1 := [.int (r1 0 0)]) rfl (fun H locs hP hD hS => ?_)
  refine lv_as (y := kk) h4 ?_
  refine lv_iload hx hb dL_law_1543 (lv_at hl 1 rfl) ?_
  refine lv_icmp_eq (tgt := 1550) hx hb dL_law_1545 (by decide) (fun _ => ?_) (fun h => absurd rfl h)
  refine lv_iload hx hb dL_law_1550 (lv_at hl 1 rfl) ?_
  refine lv_if_ne (tgt := 1588) hx hb dL_law_1552 (by decide) (fun _ => ?_) (fun h => ?_)
  · skip
    refine lv_goto (tgt := 1604) hx hb dL_law_1588 (by decide) ?_
    exact K (fixz (u 0) z) n ni ns1 hs cs r1 f g1 H locs _ _ ls fixz_0 Re1 (by omega) hP hD hS (lv_sub hl [2, 3, 4, 5, 6, 7] rfl) (by omega) (by omega)
  · skip
    refine lv_aload hx hb dL_law_1555 (lv_at hl 6 rfl) ?_
    refine lv_iconst (v := 0) hx hb dL_law_1557 (by decide) ?_
    refine va_dald hx hb hK hP ((cw cA (fixz (u 0) z) n ni cs).length + 1) 5 lw_ld rfl vi01 dL_law_1558 ?_
    refine lv_fload hx hb dL_law_1559 (lv_at hl 0 rfl) ?_
    refine lv_f2d hx hb dL_law_1561 (fp_n64 (h5 h).2) ?_
    refine lv_dcmp hx hb dL_law_1562 ?_
    refine lv_as (y := 0) (by show Op.cmpValue (FP.dcmp (g1 0) (FP.f2d w)) .l = 0; rw [show g1 0 = (FP.f2d w) from (h5 h).1]; exact fp_dcmp (h5 h).2) ?_
    refine lv_if_eq (tgt := 1588) hx hb dL_law_1563 (by decide) (fun _ => ?_) (fun h => absurd rfl h)
    refine lv_goto (tgt := 1604) hx hb dL_law_1588 (by decide) ?_
    exact K (fixz (u 0) z) n ni ns1 hs cs r1 f g1 H locs _ _ ls fixz_0 Re1 (by omega) hP hD hS (lv_sub hl [2, 3, 4, 5, 6, 7] rfl) (by omega) (by omega)
set_option maxHeartbeats 4000000 in
set_option maxRecDepth 100000 in
theorem k_isSound {p : Program} {l : Launch} {e : Env} {s : State} {m : MethodId} {args : Array Value} {below : List Frame} {meth : Method} {c : Code} {Q : State → Prop} {dg : va_G} {cA : Nat → ClassId} {A : Nat → Prop} {b L : Nat} {xs : Nat → Int32} (C : LC p l dg cA s m c args A b L xs) (hL : L ≤ 2048) (k : Nat) (hk : 4 * k + 4 ≤ L) {u ad : Nat → Nat} {o od n ni ns hs : Nat} {cs r : St} {f : Nat → Int64} {g : Nat → UInt64} {H : Heap} {locs : List Loc} {cells slots : Nat} {ls : Array Slot} (Re : Rel cs r n ni ns hs) (hhs : hs ≤ k) (hP : PP dg (LW cA u ad o od n ni cs r f g) H) (hD : va_D A (LW cA u ad o od n ni cs r f g)) (hS : va_S A s.heap H locs) (hl : lv_has ls 9 (lL b (u 0) (ad 0) o od (nI (4 * k)))) (hce : cells ≤ 60 + 8 * k) (hsl : slots ≤ 2000 + 100 * k) (K : KN p l e s m args below meth c Q dg cA A b (u 0) ad o od k) : W p l e room_1 s m args below meth c H locs cells slots Q (F0 m 1591 ls []) := by
  have hx := C.1.1
  have hb := C.1.2.1
  have hK := C.2.1
  obtain ⟨c1, r1, rm, rm2, h1, h0, h2, h3, Re1⟩ := p_isSound l dg cA (u := u) (ad := ad) Re
  refine lv_aload_n hx hb dL_law_1591 rfl (lv_at hl 1 rfl) ?_
  refine lwC C h1 kL_190 h0 (by decide) (by omega) (by omega) hP hD hS rfl hl.1 (rest := []) rfl (Nat.le_of_ble_eq_true rfl) dL_law_1592 (st1 := [.int 1]) rfl (fun z H locs hP hD hS => ?_)
  refine lv_aload_n hx hb dL_law_1595 rfl (lv_at hl 2 rfl) ?_
  refine lwM C (fun sz => Met.ofM (h2 sz)) kL_194 h3 (by decide) (by omega) (by omega) hP hD hS rfl hl.1 (rest := [.int 1]) rfl (Nat.le_of_ble_eq_true rfl) dL_law_1596 (st1 := [.int 1, .int 1]) rfl (fun H locs hP hD hS => ?_)
  refine lv_icmp_eq (tgt := 1604) hx hb dL_law_1599 (by decide) (fun _ => ?_) (fun h => absurd rfl h)
  exact K (fixz (u 0) z) n ni ns hs c1 r1 f g H locs _ _ ls fixz_0 Re1 (by omega) hP hD hS (lv_sub hl [0, 1, 2, 3, 4, 5] rfl) (by omega) (by omega)
