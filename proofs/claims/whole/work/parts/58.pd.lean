/-! .. means, rates, days, sums, soundness -/
theorem fp_divN {a b : Int64} (hb : b ≠ 0) : Jvm.FP.Core.dIsNaN (FP.ddiv (FP.l2d a) (FP.l2d b)) = false := Jvm.FP.Core.ddiv_out (Jvm.FP.Core.l2d_notNaN a) (Jvm.FP.Core.l2d_fin b) (fun h => Jvm.FP.Core.l2d_ne_zero hb ((Jvm.FP.Core.zero_bits2 _).mp h))
theorem fp_fdivN {a b : Int32} (hb : ¬ b = 0) : Jvm.FP.Core.fIsNaN (FP.fdiv (FP.i2f a) (FP.i2f b)) = false := Jvm.FP.Core.fdiv_out (Jvm.FP.Core.i2f_fin a).notNaN (Jvm.FP.Core.i2f_fin b) (fun h => Jvm.FP.Core.i2f_ne_zero hb ((Jvm.FP.Core.zero_bits232 _).mp h))
theorem fp_dcmp {x : UInt64} (h : Jvm.FP.Core.dIsNaN x = false) : Op.cmpValue (FP.dcmp x x) .l = 0 := by
  rw [show FP.dcmp x x = some .eq from Jvm.FP.Core.dcmp_self ((Jvm.FP.Core.notNaN_iff x).mp h)]; rfl
theorem fp_f2d {x : UInt32} (h : Jvm.FP.Core.fIsNaN x = false) : Jvm.FP.Core.dIsNaN (FP.f2d x) = false := by
  rw [show Jvm.FP.Core.dIsNaN (FP.f2d x) = Jvm.FP.Core.fIsNaN x from FP.f2d_nan x]; exact h
theorem q_mnan {c r : St} {n ni ns hs : Nat} (H : Rel c r n ni ns hs) (h : ¬ m_all r n ns = 0) : Jvm.FP.Core.dIsNaN (FP.ddiv (FP.l2d (m_wsm r n ns)) (FP.i2d (m_all r n ns))) = false := by
  have hle := q_S_le (r := r) (ns := ns) H.1.1.1.1.1
  have ei : (nI (q_S r n ns)).toInt64 = lN (q_S r n ns) := nI_l (by omega)
  have ez : (lN (q_S r n ns) = 0) ↔ q_S r n ns = 0 := lN_eq (b := 0) (by omega) (by omega)
  rw [q_all H] at h ⊢
  rw [fp_il, ei]
  exact fp_divN (fun q => h (by rw [ez.mp q]; rfl))
def PairD (l : Launch) (dg : va_G) (cA : Nat → ClassId) (hy : MethodName) (hb : ByteArray) (hml : Nat) (hh : List (Nat × Nat × Nat × Nat)) (my : MethodName) (mb : ByteArray) (mml : Nat) (mret : FieldType) (V : Type) (mv : V → Value) (fv : V → UInt64) (u ad : Nat → Nat) (o : Nat) (g : Nat → UInt64) (c r : St) (n ni hs : Nat) : Prop :=
  ∃ (k : Int32) (g' : Nat → UInt64) (w : V) (r' : St) (ns' mc ms : Nat) (rm2 : Room), (∀ sz, MetZ l dg cA hy hb hml hh ({ frames := 9, cells := mc, slots := ms, locals := 250 } : Room) mc ms (cw cA u n ni c ++ [ld cA o g]) sz [.ref (u 0), .ref o] (fun z => cw cA (fixz (u 0) z) n ni c ++ [ld cA o g']) k) ∧ (mc ≤ 2 ∧ ms ≤ 40) ∧ (∀ sz, MetM l dg cA my mb mml (some mret) rm2 0 0 (mw cA ad r) sz [.ref (ad 0)] (mw cA ad r') (some (mv w))) ∧ (rm2.cells = 0 ∧ rm2.slots = 0 ∧ rm2.frames ≤ 9 ∧ rm2.locals ≤ 250) ∧ r' 0 0 = k ∧ (k = 0 → g' 0 = fv w ∧ Jvm.FP.Core.dIsNaN (fv w) = false) ∧ Rel c r' n ni ns' hs
theorem updD0 {f : Nat → UInt64} {x : UInt64} : vf_upd f 0 x 0 = x := if_pos rfl
set_option maxHeartbeats 4000000 in
set_option maxRecDepth 100000 in
theorem p_weightedMean (l : Launch) (dg : va_G) (cA : Nat → ClassId) (hst : l.stackTraces = false) {u ad : Nat → Nat} {o : Nat} {g : Nat → UInt64} {c r : St} {n ni ns hs : Nat} (H : Rel c r n ni ns hs) : PairD l dg cA yL_weightedMean cL_weightedMean 3 [(0, 7, 10, 91)] yX6_weightedMean cX6_weightedMean 4 .double UInt64 Value.double id u ad o g c r n ni hs := by
  obtain ⟨zs1, zs2, zs3⟩ := zns H
  obtain ⟨zn1, zn2, zn3⟩ := zn H
  obtain ⟨m1, m2, m3⟩ := q_mean H
  by_cases z : m_all r n ns = 0
  · have h2 := fun sz => MetZ.any (g := fun z => cw cA (fixz (u 0) z) n ni c ++ [ld cA o g]) u (by rw [cw_fz]) (ht_weightedMean_1 l dg cA (o := o) (g := g) cl_0 (cx_mean l dg cA hst u n ni c zn1 zn3 (m1.mpr z)) rfl rfl (Nat.le_of_ble_eq_true rfl) (Nat.le_of_ble_eq_true rfl) sz)
    have h3 := fun sz => rr_mean0 l dg cA ad r n zn2 zn3 ns zs2 zs3 z sz
    exact ⟨1, g, _, _, ns, 1, 6, _, h2, ⟨Nat.le_of_ble_eq_true rfl, Nat.le_of_ble_eq_true rfl⟩, h3, ⟨rfl, rfl, Nat.le_of_ble_eq_true rfl, Nat.le_of_ble_eq_true rfl⟩, up_at, fun q => absurd q (by decide), Rel_t (Rel_w (Rel_t (Rel_w (Rel_t (Rel_w (Rel_t (Rel_w (Rel_t H))))))))⟩
  · have h1 := fun sz => MetN.any (g := fun w => cw cA (fixz (u 0) w) n ni c) u cw_fz (Met.ofM (cc_mean l dg cA u n ni c zn1 zn3 (fun q => z (m1.mp q)) (by rw [m2]; exact m3 z) sz))
    have h2 := fun sz => hs_weightedMean l dg cA (o := o) (g := g) cl_0 h1 rfl rfl (Nat.le_of_ble_eq_true rfl) (Nat.le_of_ble_eq_true rfl) sz
    have h3 := fun sz => rr_mean1 l dg cA ad r n zn2 zn3 ns zs2 zs3 z (m3 z) sz
    exact ⟨0, _, _, _, ns, 0, 0, _, h2, ⟨Nat.le_of_ble_eq_true rfl, Nat.le_of_ble_eq_true rfl⟩, h3, ⟨rfl, rfl, Nat.le_of_ble_eq_true rfl, Nat.le_of_ble_eq_true rfl⟩, up_at, fun _ => ⟨by rw [updD0, m2]; rfl, q_mnan H z⟩, Rel_t (Rel_w (Rel_t (Rel_w (Rel_t (Rel_w (Rel_t (Rel_w (Rel_t H))))))))⟩
set_option maxHeartbeats 4000000 in
set_option maxRecDepth 100000 in
theorem p_rate (l : Launch) (dg : va_G) (cA : Nat → ClassId) (hst : l.stackTraces = false) {u ad : Nat → Nat} {o : Nat} {g : Nat → UInt64} {c r : St} {n ni ns hs : Nat} (H : Rel c r n ni ns hs) : PairD l dg cA yL_rate cL_rate 3 [(0, 8, 11, 91)] yX6_rate cX6_rate 4 .float UInt32 Value.float FP.f2d u ad o g c r n ni hs := by
  obtain ⟨zn1, zn2, zn3⟩ := zn H
  have e1 := q_c97 H
  have e2 := q_cue H
  by_cases z : nI (ct (fun h => decide (¬ r 4 h = 117) && decide (¬ r 4 h = 101)) n) = 0
  · have h2 := fun sz => MetZ.any (g := fun z => cw cA (fixz (u 0) z) n ni c ++ [ld cA o g]) u (by rw [cw_fz]) (ht_rate_1 l dg cA (o := o) (g := g) cl_0 (cx_rate l dg cA hst u n ni c zn1 zn3 (by rw [e2]; exact z)) rfl rfl (Nat.le_of_ble_eq_true rfl) (Nat.le_of_ble_eq_true rfl) sz)
    have h3 := fun sz => rr_rate0 l dg cA ad r n zn2 zn3 z sz
    exact ⟨1, g, _, _, ns, 1, 6, _, h2, ⟨Nat.le_of_ble_eq_true rfl, Nat.le_of_ble_eq_true rfl⟩, h3, ⟨rfl, rfl, Nat.le_of_ble_eq_true rfl, Nat.le_of_ble_eq_true rfl⟩, up_at, fun q => absurd q (by decide), Rel_t H⟩
  · have hN := fp_fdivN (a := nI (ct (fun h => decide (r 4 h = 97)) n)) z
    have hD := fp_f2d hN
    have h1 := fun sz => MetN.any (g := fun w => cw cA (fixz (u 0) w) n ni c) u cw_fz (Met.ofM (cc_rate l dg cA u n ni c zn1 zn3 (by rw [e2]; exact z) (by rw [e1, e2]; exact fp_n32 hN) sz))
    have h2 := fun sz => hs_rate l dg cA (o := o) (g := g) cl_0 h1 rfl rfl (Nat.le_of_ble_eq_true rfl) (Nat.le_of_ble_eq_true rfl) (by rw [e1, e2]; exact fp_n64 hD) sz
    have h3 := fun sz => rr_rate1 l dg cA ad r n zn2 zn3 z (fp_n32 hN) sz
    exact ⟨0, _, _, _, ns, 0, 0, _, h2, ⟨Nat.le_of_ble_eq_true rfl, Nat.le_of_ble_eq_true rfl⟩, h3, ⟨rfl, rfl, Nat.le_of_ble_eq_true rfl, Nat.le_of_ble_eq_true rfl⟩, up_at, fun _ => ⟨by rw [updD0, e1, e2], hD⟩, Rel_t H⟩
set_option maxHeartbeats 4000000 in
set_option maxRecDepth 100000 in
theorem p_wsum (l : Launch) (dg : va_G) (cA : Nat → ClassId) {u ad : Nat → Nat} {c r : St} {n ni ns hs : Nat} (H : Rel c r n ni ns hs) : ∃ (w : Int64) (r' : St) (rm rm2 : Room), (∀ sz, MetN l dg cA yX5_weightedSum cX5_weightedSum 4 (some .long) rm 0 0 (cw cA u n ni c) sz [.ref (u 0)] (fun z => cw cA (fixz (u 0) z) n ni c) (some (.long w))) ∧ (rm.cells = 0 ∧ rm.slots = 0 ∧ rm.frames ≤ 9 ∧ rm.locals ≤ 250) ∧ (∀ sz, MetM l dg cA yX6_weightedSum cX6_weightedSum 4 (some .long) rm2 0 0 (mw cA ad r) sz [.ref (ad 0)] (mw cA ad r') (some (.long w))) ∧ (rm2.cells = 0 ∧ rm2.slots = 0 ∧ rm2.frames ≤ 9 ∧ rm2.locals ≤ 250) ∧ Rel c r' n ni ns hs := by
  obtain ⟨zs1, zs2, zs3⟩ := zns H
  obtain ⟨zn1, zn2, zn3⟩ := zn H
  have e := q_w64 (r' := up r 0 0 0) H (up_row (by decide)) (up_row (by decide)) (up_row (by decide)) (up_row (by decide))
  have h1 := fun sz => MetN.any (g := fun w => cw cA (fixz (u 0) w) n ni c) u cw_fz (Met.ofR (cc_wsum l dg cA u n ni c zn1 zn3) sz)
  have h3 := fun sz => rr_wsum l dg cA ad r n zn2 zn3 ns zs2 zs3 sz
  rw [← e] at h3
  exact ⟨_, _, _, _, h1, ⟨rfl, rfl, Nat.le_of_ble_eq_true rfl, Nat.le_of_ble_eq_true rfl⟩, h3, ⟨rfl, rfl, Nat.le_of_ble_eq_true rfl, Nat.le_of_ble_eq_true rfl⟩, Rel_w (Rel_t H)⟩
set_option maxHeartbeats 4000000 in
set_option maxRecDepth 100000 in
theorem p_day (l : Launch) (dg : va_G) (cA : Nat → ClassId) {u ad : Nat → Nat} {c r : St} {n ni ns hs : Nat} (H : Rel c r n ni ns hs) : ∃ (w : Int32) (r' : St) (rm rm2 : Room), (∀ sz, MetN l dg cA yX5_day cX5_day 1 (some .int) rm 0 0 (cw cA u n ni c) sz [.ref (u 0)] (fun z => cw cA (fixz (u 0) z) n ni c) (some (.int w))) ∧ (rm.cells = 0 ∧ rm.slots = 0 ∧ rm.frames ≤ 9 ∧ rm.locals ≤ 250) ∧ (∀ sz, MetM l dg cA yX6_day cX6_day 1 (some .int) rm2 0 0 (mw cA ad r) sz [.ref (ad 0)] (mw cA ad r') (some (.int w))) ∧ (rm2.cells = 0 ∧ rm2.slots = 0 ∧ rm2.frames ≤ 9 ∧ rm2.locals ≤ 250) ∧ Rel c r' n ni ns hs := by
  have e := dd0 H
  have h1 := fun sz => MetN.any (g := fun w => cw cA (fixz (u 0) w) n ni c) u cw_fz (Met.ofR (cc_day l dg cA u n ni c) sz)
  have h3 := fun sz => rr_day l dg cA ad r sz
  rw [← e] at h3
  exact ⟨_, _, _, _, h1, ⟨rfl, rfl, Nat.le_of_ble_eq_true rfl, Nat.le_of_ble_eq_true rfl⟩, h3, ⟨rfl, rfl, Nat.le_of_ble_eq_true rfl, Nat.le_of_ble_eq_true rfl⟩, Rel_t H⟩
set_option maxHeartbeats 4000000 in
set_option maxRecDepth 100000 in
theorem p_isSound (l : Launch) (dg : va_G) (cA : Nat → ClassId) {u ad : Nat → Nat} {c r : St} {n ni ns hs : Nat} (H : Rel c r n ni ns hs) : ∃ (c' r' : St) (rm rm2 : Room), (∀ sz, MetN l dg cA yX5_isSound cX5_isSound 1 (some .boolean) rm 0 0 (cw cA u n ni c) sz [.ref (u 0)] (fun z => cw cA (fixz (u 0) z) n ni c') (some (.int 1))) ∧ (rm.cells = 0 ∧ rm.slots = 0 ∧ rm.frames ≤ 9 ∧ rm.locals ≤ 250) ∧ (∀ sz, MetM l dg cA yX6_isSound cX6_isSound 1 (some .boolean) rm2 0 0 (mw cA ad r) sz [.ref (ad 0)] (mw cA ad r') (some (.int 1))) ∧ (rm2.cells = 0 ∧ rm2.slots = 0 ∧ rm2.frames ≤ 9 ∧ rm2.locals ≤ 250) ∧ Rel c' r' n ni ns hs := by
  obtain ⟨zs1, zs2, zs3⟩ := zns H
  obtain ⟨zn1, zn2, zn3⟩ := zn H
  obtain ⟨E, hE⟩ := H.1.1.2.2.2.2.2.2
  have h1 := fun sz => MetN.any (g := fun w => cw cA (fixz (u 0) w) n ni (c_wa c E hs n)) u cw_fz (Met.ofM (cc_isSound l dg cA u n ni c zn1 zn3 ns zs1 zs3 E hs (zhs H) H.1.1.1.1.2.2.2 (fun k hk => (hE.1 k hk).1) (fun k hk => (hE.1 k hk).2) hE.2.1 (fun q hq hc => q_sum1 H hq hc) (q_isS H hE) sz))
  have h3 := fun sz => rr_isSound l dg cA ad r sz
  exact ⟨_, _, _, _, h1, ⟨rfl, rfl, Nat.le_of_ble_eq_true rfl, Nat.le_of_ble_eq_true rfl⟩, h3, ⟨rfl, rfl, Nat.le_of_ble_eq_true rfl, Nat.le_of_ble_eq_true rfl⟩, Rel_t (t_wa H hE)⟩
