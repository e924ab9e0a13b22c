/-! each call of both sides: their answers agree, the relation stays -/
theorem MetN.any {l : Launch} {dg : va_G} {cA : Nat → ClassId} {y : MethodName} {bytes : ByteArray} {maxL : Nat} {ret : Option FieldType} {rm : Room} {mc ms : Nat} {ws : va_W} {av : List Value} {v : Option Value} {sz : Nat} {g : (Nat → Nat) → va_W} {w1 : va_W} (u0 : Nat → Nat) (hg : g u0 = w1) (h : MetN l dg cA y bytes maxL ret rm mc ms ws sz av (fun _ => w1) v) : MetN l dg cA y bytes maxL ret rm mc ms ws sz av g v := by
  subst hg
  intro p e ha hc hk s m args below hf happ hP ht
  obtain ⟨k, o, h1, h2, h3, hQ, L, hE, hL⟩ := h p e ha hc hk s m args below hf happ hP ht
  exact ⟨k, o, h1, h2, h3, ⟨⟨hQ.1.1, u0, hQ.1.2.elim fun _ z => z⟩, hQ.2⟩, L, hE, hL⟩
theorem MetZ.any {l : Launch} {dg : va_G} {cA : Nat → ClassId} {y : MethodName} {bytes : ByteArray} {maxL : Nat} {hh : List (Nat × Nat × Nat × Nat)} {rm : Room} {mc ms : Nat} {ws : va_W} {av : List Value} {k : Int32} {sz : Nat} {g : (Nat → Nat) → va_W} {w1 : va_W} (u0 : Nat → Nat) (hg : g u0 = w1) (h : MetZ l dg cA y bytes maxL hh rm mc ms ws sz av (fun _ => w1) k) : MetZ l dg cA y bytes maxL hh rm mc ms ws sz av g k := by
  subst hg
  intro p e ha hc hk s m args below hf happ hP ht
  obtain ⟨k, o, h1, h2, h3, hQ, L, hE, hL⟩ := h p e ha hc hk s m args below hf happ hP ht
  exact ⟨k, o, h1, h2, h3, ⟨⟨hQ.1.1, u0, hQ.1.2.elim fun _ z => z⟩, hQ.2⟩, L, hE, hL⟩
theorem cw_fz {cA : Nat → ClassId} {u : Nat → Nat} {n ni : Nat} {c : St} : cw cA (fixz (u 0) u) n ni c = cw cA u n ni c := by rw [fixz_self]
def PairI (l : Launch) (dg : va_G) (cA : Nat → ClassId) (hy : MethodName) (hb : ByteArray) (hml : Nat) (hh : List (Nat × Nat × Nat × Nat)) (my : MethodName) (mb : ByteArray) (mml : Nat) (mret : Option FieldType) (fn : Int32 → Int64) (u ad : Nat → Nat) (o : Nat) (f : Nat → Int64) (c r : St) (n ni hs : Nat) (as : List Value) : Prop :=
  ∃ (k : Int32) (f' : Nat → Int64) (w : Int32) (c' r' : St) (n' ni' ns' hs' mc ms : Nat) (rm2 : Room), (∀ sz, MetZ l dg cA hy hb hml hh ({ frames := 9, cells := mc, slots := ms, locals := 250 } : Room) mc ms (cw cA u n ni c ++ [lo cA o f]) sz (.ref (u 0) :: (as ++ [.ref o])) (fun z => cw cA (fixz (u 0) z) n' ni' c' ++ [lo cA o f']) k) ∧ (mc ≤ 2 ∧ ms ≤ 40) ∧ (∀ sz, MetM l dg cA my mb mml mret rm2 0 0 (mw cA ad r) sz (.ref (ad 0) :: as) (mw cA ad r') (some (.int w))) ∧ (rm2.cells = 0 ∧ rm2.slots = 0 ∧ rm2.frames ≤ 9 ∧ rm2.locals ≤ 250) ∧ r' 0 0 = k ∧ (k = 0 → f' 0 = fn w) ∧ Rel c' r' n' ni' ns' hs' ∧ hs' ≤ hs + 1
theorem ixc {v : Int32} {n : Nat} (hn : n < 2 ^ 31) : (∃ j, j < n ∧ v = nI j) ∨ ((v < 0 ∨ nI n ≤ v) ∧ ¬ (¬ v < 0 ∧ v < nI n)) := by
  by_cases z : v < 0
  · exact Or.inr ⟨Or.inl z, fun q => q.1 z⟩
  · obtain ⟨j, hj, rfl⟩ := nI_of z
    by_cases y : j < n
    · exact Or.inl ⟨j, y, rfl⟩
    · exact Or.inr ⟨Or.inr ((nI_leI hn hj).mpr (by omega)), fun q => y ((nI_ltI hj hn).mp q.2)⟩
theorem bnd {v : Int32} {B : Nat} (hB : B < 2 ^ 30) (h1 : ¬ v < 0) (h2 : ¬ nI B < v) : ∃ j, j < B + 1 ∧ v = nI j := by
  obtain ⟨j, hj, rfl⟩ := nI_of h1
  have h3 : ¬ B < j := fun q => h2 ((nI_ltI (a := B) (b := j) (by omega) hj).mpr q)
  exact ⟨j, by omega, rfl⟩
theorem not0 {v : Int32} {k : Nat} (hk : k < 2 ^ 30) (h : ¬ v < nI k) : ¬ v < 0 := fun q => h (Int32.lt_of_lt_of_le q (nI_pos' (by omega)))
theorem updL0 {f : Nat → Int64} {x : Int64} : vp_updL f 0 x 0 = x := if_pos rfl
theorem u00 {r : St} {x : Int32} : up r 0 0 x 0 0 = x := up_at
theorem dd0 {c r : St} {n ni ns hs : Nat} (H : Rel c r n ni ns hs) : c 0 2 = r 0 5 := by
  obtain ⟨d, -, a, b⟩ := H.1.1.1.2.2.2.2.2.1
  exact a.trans b.symm
theorem zns {c r : St} {n ni ns hs : Nat} (H : Rel c r n ni ns hs) : c 0 3 = nI ns ∧ r 0 2 = nI ns ∧ ns ≤ 4 := ⟨H.1.1.1.2.2.2.1.1, H.1.1.1.2.2.2.1.2, H.1.1.1.1.2.2.1⟩
theorem zn {c r : St} {n ni ns hs : Nat} (H : Rel c r n ni ns hs) : c 0 4 = nI n ∧ r 0 3 = nI n ∧ n ≤ 24 := ⟨H.1.1.1.2.1.1, H.1.1.1.2.1.2, H.1.1.1.1.1⟩
theorem zni {c r : St} {n ni ns hs : Nat} (H : Rel c r n ni ns hs) : c 0 0 = nI ni ∧ r 0 4 = nI ni ∧ ni ≤ 4 := ⟨H.1.1.1.2.2.1.1, H.1.1.1.2.2.1.2, H.1.1.1.1.2.1⟩
theorem zch {c r : St} {n ni ns hs : Nat} (H : Rel c r n ni ns hs) : (∃ k, k < 65536 ∧ c 0 1 = nI k) ∧ (∃ k, k < 65536 ∧ r 0 1 = nI k) ∧ c 0 1 = r 0 1 := by
  obtain ⟨a, b⟩ := H.1.1.1.2.2.2.2.1
  exact ⟨a ▸ b, b, a⟩
theorem zhs {c r : St} {n ni ns hs : Nat} (H : Rel c r n ni ns hs) : c 0 5 = nI hs := H.1.1.1.2.2.2.2.2.2
set_option maxHeartbeats 4000000 in
set_option maxRecDepth 100000 in
theorem p_setChance (l : Launch) (dg : va_G) (cA : Nat → ClassId) (hst : l.stackTraces = false) {u ad : Nat → Nat} {o : Nat} {f : Nat → Int64} {c r : St} {n ni ns hs : Nat} (H : Rel c r n ni ns hs) (h512 : hs < 512) (x1 : Int32) : PairI l dg cA yL_setChance cL_setChance 4 [(0, 9, 12, 13)] yX6_setChance cX6_setChance 3 (some .int) Int32.toInt64 u ad o f c r n ni hs [.int x1] := by
  obtain ⟨zs1, zs2, zs3⟩ := zns H
  obtain ⟨zn1, zn2, zn3⟩ := zn H
  obtain ⟨zi1, zi2, zi3⟩ := zni H
  by_cases z : ¬ x1 < 0 ∧ ¬ 65535 < x1
  · obtain ⟨j, hj, e⟩ := bnd (B := 65535) (by omega) z.1 z.2
    have h1 := fun sz => MetN.any (g := fun w => cw cA (fixz (u 0) w) n ni (up c 0 1 x1)) u cw_fz (Met.ofM (cc_setChance l dg cA u n ni c x1 z.1 (i32_lt65536 z.2) sz))
    have h2 := fun sz => hs_setChance l dg cA (o := o) (f := f) x1 cl_0 h1 rfl rfl (Nat.le_of_ble_eq_true rfl) (Nat.le_of_ble_eq_true rfl) sz
    have h3 := fun sz => rr_setChance1 l dg cA ad r x1 z.1 z.2 sz
    exact ⟨0, _, r 0 1, up c 0 1 x1, up (up r 0 0 0) 0 1 x1, n, ni, ns, hs, 0, 0, _, h2, ⟨Nat.le_of_ble_eq_true rfl, Nat.le_of_ble_eq_true rfl⟩, h3, ⟨rfl, rfl, Nat.le_of_ble_eq_true rfl, Nat.le_of_ble_eq_true rfl⟩, by rw [up_off (by decide)]; exact up_at, fun _ => by rw [updL0, (zch H).2.2], t_setChance ⟨j, hj, e⟩ H, Nat.le_succ _⟩
  · have z2 : ¬ (¬ x1 < 0 ∧ x1 < 65536) := fun q => z ⟨q.1, fun w => by
      obtain ⟨j, hj, rfl⟩ := nI_of q.1
      have a := (nI_ltI (a := j) (b := 65536) hj (by omega)).mp q.2
      have b := (nI_ltI (a := 65535) (b := j) (by omega) hj).mp w
      omega⟩
    have h2 := fun sz => MetZ.any (g := fun z => cw cA (fixz (u 0) z) n ni c ++ [lo cA o f]) u (by rw [cw_fz]) (ht_setChance_1 l dg cA (o := o) (f := f) x1 cl_0 (cx_setChance l dg cA hst u n ni c x1 z2) rfl rfl (Nat.le_of_ble_eq_true rfl) (Nat.le_of_ble_eq_true rfl) sz)
    have h3 := fun sz => rr_setChance0 l dg cA ad r x1 z sz
    exact ⟨1, f, 0, c, up r 0 0 1, n, ni, ns, hs, 1, 6, _, h2, ⟨Nat.le_of_ble_eq_true rfl, Nat.le_of_ble_eq_true rfl⟩, h3, ⟨rfl, rfl, Nat.le_of_ble_eq_true rfl, Nat.le_of_ble_eq_true rfl⟩, u00, fun q => absurd q (by decide), Rel_t H, Nat.le_succ _⟩
set_option maxHeartbeats 4000000 in
set_option maxRecDepth 100000 in
theorem p_addStratum (l : Launch) (dg : va_G) (cA : Nat → ClassId) (hst : l.stackTraces = false) {u ad : Nat → Nat} {o : Nat} {f : Nat → Int64} {c r : St} {n ni ns hs : Nat} (H : Rel c r n ni ns hs) (h512 : hs < 512) : PairI l dg cA yL_addStratum cL_addStratum 3 [(0, 8, 11, 19)] yX6_addStratum cX6_addStratum 1 (some .int) Int32.toInt64 u ad o f c r n ni hs [] := by
  obtain ⟨zs1, zs2, zs3⟩ := zns H
  obtain ⟨zn1, zn2, zn3⟩ := zn H
  obtain ⟨zi1, zi2, zi3⟩ := zni H
  by_cases z : ns < 4
  · skip
    have h1 := fun sz => MetN.any (g := fun w => cw cA (fixz (u 0) w) n ni (up c 0 3 (nI (ns + 1)))) u cw_fz (Met.ofM (cc_addStratum l dg cA u n ni c ns zs1 zs3 z sz))
    have h2 := fun sz => hs_addStratum l dg cA (o := o) (f := f)  cl_0 h1 rfl rfl (Nat.le_of_ble_eq_true rfl) (Nat.le_of_ble_eq_true rfl) sz
    have h3 := fun sz => rr_addStratum1 l dg cA ad r ns zs2 z sz
    exact ⟨0, _, nI ns, up c 0 3 (nI (ns + 1)), up (up r 0 0 0) 0 2 (nI (ns + 1)), n, ni, (ns + 1), hs, 0, 0, _, h2, ⟨Nat.le_of_ble_eq_true rfl, Nat.le_of_ble_eq_true rfl⟩, h3, ⟨rfl, rfl, Nat.le_of_ble_eq_true rfl, Nat.le_of_ble_eq_true rfl⟩, by rw [up_off (by decide)]; exact up_at, fun _ => updL0, t_addStratum z H, Nat.le_succ _⟩
  · have e : r 0 2 = 4 := by rw [zs2, show ns = 4 by omega]; rfl
    have h2 := fun sz => MetZ.any (g := fun z => cw cA (fixz (u 0) z) n ni c ++ [lo cA o f]) u (by rw [cw_fz]) (ht_addStratum_1 l dg cA (o := o) (f := f)  cl_0 (cx_addStratum l dg cA hst u n ni c ns zs1 zs3 z) rfl rfl (Nat.le_of_ble_eq_true rfl) (Nat.le_of_ble_eq_true rfl) sz)
    have h3 := fun sz => rr_addStratum0 l dg cA ad r e sz
    exact ⟨1, f, 0, c, up r 0 0 1, n, ni, ns, hs, 1, 6, _, h2, ⟨Nat.le_of_ble_eq_true rfl, Nat.le_of_ble_eq_true rfl⟩, h3, ⟨rfl, rfl, Nat.le_of_ble_eq_true rfl, Nat.le_of_ble_eq_true rfl⟩, u00, fun q => absurd q (by decide), Rel_t H, Nat.le_succ _⟩
set_option maxHeartbeats 4000000 in
set_option maxRecDepth 100000 in
theorem p_addHouse (l : Launch) (dg : va_G) (cA : Nat → ClassId) (hst : l.stackTraces = false) {u ad : Nat → Nat} {o : Nat} {f : Nat → Int64} {c r : St} {n ni ns hs : Nat} (H : Rel c r n ni ns hs) (h512 : hs < 512) (x1 x2 x3 : Int32) : PairI l dg cA yL_addHouse cL_addHouse 6 [(0, 12, 15, 25), (0, 12, 19, 13), (0, 12, 23, 19)] yX6_addHouse cX6_addHouse 4 (some .int) Int32.toInt64 u ad o f c r n ni hs [.int x1, .int x2, .int x3] := by
  obtain ⟨zs1, zs2, zs3⟩ := zns H
  obtain ⟨zn1, zn2, zn3⟩ := zn H
  obtain ⟨zi1, zi2, zi3⟩ := zni H
  rcases ixc (v := x1) (n := ns) (by omega) with ⟨js, hjs, rfl⟩ | ⟨z1, z2⟩
  · by_cases z : ¬ x2 < 0 ∧ ¬ 99 < x2
    · obtain ⟨pl, hp, rfl⟩ := bnd (B := 99) (by omega) z.1 z.2
      by_cases y : ¬ x3 < 0 ∧ ¬ 2 < x3
      · obtain ⟨g3, hg, rfl⟩ := bnd (B := 2) (by omega) y.1 y.2
        by_cases w : n < 24
        · skip
          have h1 := fun sz => cc_addHouseZ l dg cA u n ni c zn1 zn3 ns zs1 zs3 js hjs pl hp g3 hg w sz
          have h2 := fun sz => hs_addHouse l dg cA (o := o) (f := f) (nI js) (nI pl) (nI g3) cl_0 h1 rfl rfl (Nat.le_of_ble_eq_true rfl) (Nat.le_of_ble_eq_true rfl) sz
          have h3 := fun sz => rr_addHouse4 l dg cA ad r n zn2 w ns zs2 zs3 js hjs (nI pl) (nI g3) z.1 z.2 y.1 y.2 sz
          exact ⟨0, _, nI n, up (up (up (c_nh c n (nI pl)) 1 n (nI js)) 2 n (nI g3)) 0 4 (nI (n + 1)), m_addH r n (nI js) (nI pl) (nI g3), (n + 1), ni, ns, hs, 1, 11, _, h2, ⟨Nat.le_of_ble_eq_true rfl, Nat.le_of_ble_eq_true rfl⟩, h3, ⟨rfl, rfl, Nat.le_of_ble_eq_true rfl, Nat.le_of_ble_eq_true rfl⟩, by unfold m_addH; rw [up_off (by decide), up_row (by decide), up_row (by decide), up_row (by decide), up_row (by decide), up_row (by decide)]; exact up_at, fun _ => updL0, t_addHouse w hjs hp hg H, Nat.le_succ _⟩
        · have e : r 0 3 = 24 := by rw [zn2, show n = 24 by omega]; rfl
          have h2 := fun sz => MetZ.any (g := fun z => cw cA (fixz (u 0) z) n ni c ++ [lo cA o f]) u (by rw [cw_fz]) (ht_addHouse_3 l dg cA (o := o) (f := f) (nI js) (nI pl) (nI g3) cl_0 (cx_addHouse4 l dg cA hst u n ni c zn1 zn3 ns zs1 zs3 js hjs pl hp g3 hg w) rfl rfl (Nat.le_of_ble_eq_true rfl) (Nat.le_of_ble_eq_true rfl) sz)
          have h3 := fun sz => rr_addHouse3 l dg cA ad r e ns zs2 zs3 js hjs (nI pl) (nI g3) z.1 z.2 y.1 y.2 sz
          exact ⟨3, f, 0, c, up r 0 0 3, n, ni, ns, hs, 1, 6, _, h2, ⟨Nat.le_of_ble_eq_true rfl, Nat.le_of_ble_eq_true rfl⟩, h3, ⟨rfl, rfl, Nat.le_of_ble_eq_true rfl, Nat.le_of_ble_eq_true rfl⟩, u00, fun q => absurd q (by decide), Rel_t H, Nat.le_succ _⟩
      · skip
        have h2 := fun sz => MetZ.any (g := fun z => cw cA (fixz (u 0) z) n ni c ++ [lo cA o f]) u (by rw [cw_fz]) (ht_addHouse_2 l dg cA (o := o) (f := f) (nI js) (nI pl) x3 cl_0 (cx_addHouse3 l dg cA hst u n ni c ns zs1 zs3 js hjs pl hp x3 y) rfl rfl (Nat.le_of_ble_eq_true rfl) (Nat.le_of_ble_eq_true rfl) sz)
        have h3 := fun sz => rr_addHouse2 l dg cA ad r ns zs2 zs3 js hjs (nI pl) x3 (fun q => y q.2) sz
        exact ⟨2, f, 0, c, up r 0 0 2, n, ni, ns, hs, 1, 6, _, h2, ⟨Nat.le_of_ble_eq_true rfl, Nat.le_of_ble_eq_true rfl⟩, h3, ⟨rfl, rfl, Nat.le_of_ble_eq_true rfl, Nat.le_of_ble_eq_true rfl⟩, u00, fun q => absurd q (by decide), Rel_t H, Nat.le_succ _⟩
    · skip
      have h2 := fun sz => MetZ.any (g := fun z => cw cA (fixz (u 0) z) n ni c ++ [lo cA o f]) u (by rw [cw_fz]) (ht_addHouse_2 l dg cA (o := o) (f := f) (nI js) x2 x3 cl_0 (cx_addHouse2 l dg cA hst u n ni c ns zs1 zs3 js hjs x2 z x3) rfl rfl (Nat.le_of_ble_eq_true rfl) (Nat.le_of_ble_eq_true rfl) sz)
      have h3 := fun sz => rr_addHouse2 l dg cA ad r ns zs2 zs3 js hjs x2 x3 (fun q => z q.1) sz
      exact ⟨2, f, 0, c, up r 0 0 2, n, ni, ns, hs, 1, 6, _, h2, ⟨Nat.le_of_ble_eq_true rfl, Nat.le_of_ble_eq_true rfl⟩, h3, ⟨rfl, rfl, Nat.le_of_ble_eq_true rfl, Nat.le_of_ble_eq_true rfl⟩, u00, fun q => absurd q (by decide), Rel_t H, Nat.le_succ _⟩
  · skip
    have h2 := fun sz => MetZ.any (g := fun z => cw cA (fixz (u 0) z) n ni c ++ [lo cA o f]) u (by rw [cw_fz]) (ht_addHouse_1 l dg cA (o := o) (f := f) x1 x2 x3 cl_0 (cx_addHouse1 l dg cA hst u n ni c ns zs1 zs3 x1 z2 x2 x3) rfl rfl (Nat.le_of_ble_eq_true rfl) (Nat.le_of_ble_eq_true rfl) sz)
    have h3 := fun sz => rr_addHouse1 l dg cA ad r ns zs2 zs3 x1 z1 x2 x3 sz
    exact ⟨1, f, 0, c, up r 0 0 1, n, ni, ns, hs, 1, 6, _, h2, ⟨Nat.le_of_ble_eq_true rfl, Nat.le_of_ble_eq_true rfl⟩, h3, ⟨rfl, rfl, Nat.le_of_ble_eq_true rfl, Nat.le_of_ble_eq_true rfl⟩, u00, fun q => absurd q (by decide), Rel_t H, Nat.le_succ _⟩
set_option maxHeartbeats 4000000 in
set_option maxRecDepth 100000 in
theorem p_addInterviewer (l : Launch) (dg : va_G) (cA : Nat → ClassId) (hst : l.stackTraces = false) {u ad : Nat → Nat} {o : Nat} {f : Nat → Int64} {c r : St} {n ni ns hs : Nat} (H : Rel c r n ni ns hs) (h512 : hs < 512) (x1 x2 x3 : Int32) : PairI l dg cA yL_addInterviewer cL_addInterviewer 6 [(0, 12, 15, 13), (0, 12, 19, 19)] yX6_addInterviewer cX6_addInterviewer 4 (some .int) Int32.toInt64 u ad o f c r n ni hs [.int x1, .int x2, .int x3] := by
  obtain ⟨zs1, zs2, zs3⟩ := zns H
  obtain ⟨zn1, zn2, zn3⟩ := zn H
  obtain ⟨zi1, zi2, zi3⟩ := zni H
  by_cases z : ¬ x1 < 0 ∧ ¬ 99 < x1
  · obtain ⟨pl, hp, rfl⟩ := bnd (B := 99) (by omega) z.1 z.2
    by_cases y : ¬ x2 < 1 ∧ ¬ 7 < x2
    · by_cases y2 : ¬ x3 < 30 ∧ ¬ 600 < x3
      · by_cases w : ni < 4
        · skip
          have h1 := fun sz => cc_addIntZ l dg cA u n ni c zn3 zi1 zi3 pl hp x2 y.1 y.2 x3 y2.1 y2.2 w sz
          have h2 := fun sz => hs_addInterviewer l dg cA (o := o) (f := f) (nI pl) x2 x3 cl_0 h1 rfl rfl (Nat.le_of_ble_eq_true rfl) (Nat.le_of_ble_eq_true rfl) sz
          have h3 := fun sz => rr_addInt3 l dg cA ad r ni zi2 w (nI pl) x2 x3 ⟨z, y, y2⟩ sz
          exact ⟨0, _, nI ni, up (c_ni c ni (nI pl) x2 x3) 0 0 (nI (ni + 1)), m_addI r ni (nI pl) x2 x3, n, (ni + 1), ns, hs, 2, 31, _, h2, ⟨Nat.le_of_ble_eq_true rfl, Nat.le_of_ble_eq_true rfl⟩, h3, ⟨rfl, rfl, Nat.le_of_ble_eq_true rfl, Nat.le_of_ble_eq_true rfl⟩, by unfold m_addI; rw [up_off (by decide), up_row (by decide), up_row (by decide), up_row (by decide)]; exact up_at, fun _ => updL0, t_addInt w hp H, Nat.le_succ _⟩
        · have e : r 0 4 = 4 := by rw [zi2, show ni = 4 by omega]; rfl
          have h2 := fun sz => MetZ.any (g := fun z => cw cA (fixz (u 0) z) n ni c ++ [lo cA o f]) u (by rw [cw_fz]) (ht_addInterviewer_2 l dg cA (o := o) (f := f) (nI pl) x2 x3 cl_0 (cx_addInt4 l dg cA hst u n ni c zi1 zi3 pl hp x2 y.1 y.2 x3 y2.1 y2.2 w) rfl rfl (Nat.le_of_ble_eq_true rfl) (Nat.le_of_ble_eq_true rfl) sz)
          have h3 := fun sz => rr_addInt2 l dg cA ad r e (nI pl) x2 x3 ⟨z, y, y2⟩ sz
          exact ⟨2, f, 0, c, up r 0 0 2, n, ni, ns, hs, 1, 6, _, h2, ⟨Nat.le_of_ble_eq_true rfl, Nat.le_of_ble_eq_true rfl⟩, h3, ⟨rfl, rfl, Nat.le_of_ble_eq_true rfl, Nat.le_of_ble_eq_true rfl⟩, u00, fun q => absurd q (by decide), Rel_t H, Nat.le_succ _⟩
      · skip
        have h2 := fun sz => MetZ.any (g := fun z => cw cA (fixz (u 0) z) n ni c ++ [lo cA o f]) u (by rw [cw_fz]) (ht_addInterviewer_1 l dg cA (o := o) (f := f) (nI pl) x2 x3 cl_0 (cx_addInt3 l dg cA hst u n ni c pl hp x2 y.1 y.2 x3 y2) rfl rfl (Nat.le_of_ble_eq_true rfl) (Nat.le_of_ble_eq_true rfl) sz)
        have h3 := fun sz => rr_addInt1 l dg cA ad r (nI pl) x2 x3 (fun q => y2 q.2.2) sz
        exact ⟨1, f, 0, c, up r 0 0 1, n, ni, ns, hs, 1, 6, _, h2, ⟨Nat.le_of_ble_eq_true rfl, Nat.le_of_ble_eq_true rfl⟩, h3, ⟨rfl, rfl, Nat.le_of_ble_eq_true rfl, Nat.le_of_ble_eq_true rfl⟩, u00, fun q => absurd q (by decide), Rel_t H, Nat.le_succ _⟩
    · skip
      have h2 := fun sz => MetZ.any (g := fun z => cw cA (fixz (u 0) z) n ni c ++ [lo cA o f]) u (by rw [cw_fz]) (ht_addInterviewer_1 l dg cA (o := o) (f := f) (nI pl) x2 x3 cl_0 (cx_addInt2 l dg cA hst u n ni c pl hp x2 x3 y) rfl rfl (Nat.le_of_ble_eq_true rfl) (Nat.le_of_ble_eq_true rfl) sz)
      have h3 := fun sz => rr_addInt1 l dg cA ad r (nI pl) x2 x3 (fun q => y q.2.1) sz
      exact ⟨1, f, 0, c, up r 0 0 1, n, ni, ns, hs, 1, 6, _, h2, ⟨Nat.le_of_ble_eq_true rfl, Nat.le_of_ble_eq_true rfl⟩, h3, ⟨rfl, rfl, Nat.le_of_ble_eq_true rfl, Nat.le_of_ble_eq_true rfl⟩, u00, fun q => absurd q (by decide), Rel_t H, Nat.le_succ _⟩
  · skip
    have h2 := fun sz => MetZ.any (g := fun z => cw cA (fixz (u 0) z) n ni c ++ [lo cA o f]) u (by rw [cw_fz]) (ht_addInterviewer_1 l dg cA (o := o) (f := f) x1 x2 x3 cl_0 (cx_addInt1 l dg cA hst u n ni c x1 z x2 x3) rfl rfl (Nat.le_of_ble_eq_true rfl) (Nat.le_of_ble_eq_true rfl) sz)
    have h3 := fun sz => rr_addInt1 l dg cA ad r x1 x2 x3 (fun q => z q.1) sz
    exact ⟨1, f, 0, c, up r 0 0 1, n, ni, ns, hs, 1, 6, _, h2, ⟨Nat.le_of_ble_eq_true rfl, Nat.le_of_ble_eq_true rfl⟩, h3, ⟨rfl, rfl, Nat.le_of_ble_eq_true rfl, Nat.le_of_ble_eq_true rfl⟩, u00, fun q => absurd q (by decide), Rel_t H, Nat.le_succ _⟩
set_option maxHeartbeats 4000000 in
set_option maxRecDepth 100000 in
theorem p_draw (l : Launch) (dg : va_G) (cA : Nat → ClassId) (hst : l.stackTraces = false) {u ad : Nat → Nat} {o : Nat} {f : Nat → Int64} {c r : St} {n ni ns hs : Nat} (H : Rel c r n ni ns hs) (h512 : hs < 512) (x1 x2 : Int32) : PairI l dg cA yL_draw cL_draw 5 [(0, 10, 13, 25), (0, 10, 17, 13), (0, 10, 21, 19)] yX6_draw cX6_draw 5 (some .int) Int32.toInt64 u ad o f c r n ni hs [.int x1, .int x2] := by
  obtain ⟨zs1, zs2, zs3⟩ := zns H
  obtain ⟨zn1, zn2, zn3⟩ := zn H
  obtain ⟨zi1, zi2, zi3⟩ := zni H
  obtain ⟨zc1, zc2, -⟩ := zch H
  rcases ixc (v := x1) (n := ns) (by omega) with ⟨js, hjs, rfl⟩ | ⟨z1, z2⟩
  · by_cases z : ¬ x2 < 1 ∧ ¬ 24 < x2
    · obtain ⟨kk, hk, rfl⟩ := bnd (B := 24) (by omega) (not0 (k := 1) (by omega) z.1) z.2
      have hk1 : 1 ≤ kk := Nat.le_of_not_lt fun q => z.1 ((nI_ltI (a := kk) (b := 1) (by omega) (by omega)).mpr q)
      have eu := und_eq (s := nI js) H.1.1
      by_cases w : kk ≤ c_und c n (nI js)
      · have gr : cg_ok c n := fun j hj => by
          obtain ⟨b1, ⟨s, hs, e1⟩, ⟨g, hg, e2⟩, -⟩ := (H.1.1.2.1 j hj).1
          exact ⟨⟨s, by omega, b1.1.trans e1⟩, g, hg, b1.2.1.trans e2⟩
        obtain ⟨t1, t2⟩ := t_draw (k := kk) hjs w H
        have h1 := fun sz => MetN.any (g := fun w => cw cA (fixz (u 0) w) n ni (c_fin (c_drw c n (nI js) kk) n)) u cw_fz (Met.ofM (cc_draw l dg cA u n ni c zn1 zn3 ns zs1 zs3 js hjs zc1 gr kk hk1 (by omega) w sz))
        have h2 := fun sz => hs_draw l dg cA (o := o) (f := f) (nI js) (nI kk) cl_0 h1 rfl rfl (Nat.le_of_ble_eq_true rfl) (Nat.le_of_ble_eq_true rfl) sz
        have h3 := fun sz => rr_draw4 l dg cA ad r n zn2 zn3 ns zs2 zs3 js hjs zc2 kk hk1 (by omega) (by rw [← eu]; exact w) sz
        exact ⟨0, _, m_last (up r 0 0 0) n (nI js) kk, c_fin (c_drw c n (nI js) kk) n, m_dk (up r 0 0 0) n (nI js) kk, n, ni, ns, hs, 0, 0, _, h2, ⟨Nat.le_of_ble_eq_true rfl, Nat.le_of_ble_eq_true rfl⟩, h3, ⟨rfl, rfl, Nat.le_of_ble_eq_true rfl, Nat.le_of_ble_eq_true rfl⟩, by rw [m_dk_sc kk 0 (by decide)]; exact up_at, fun _ => by rw [updL0, t2], t1, Nat.le_succ _⟩
      · skip
        have h2 := fun sz => MetZ.any (g := fun z => cw cA (fixz (u 0) z) n ni c ++ [lo cA o f]) u (by rw [cw_fz]) (ht_draw_3 l dg cA (o := o) (f := f) (nI js) (nI kk) cl_0 (cx_draw3 l dg cA hst u n ni c zn1 zn3 ns zs1 zs3 js hjs kk hk1 (by omega) w) rfl rfl (Nat.le_of_ble_eq_true rfl) (Nat.le_of_ble_eq_true rfl) sz)
        have h3 := fun sz => rr_draw3 l dg cA ad r n zn2 zn3 ns zs2 zs3 js hjs kk hk1 (by omega) (by rw [← eu]; omega) sz
        exact ⟨3, f, 0, c, up r 0 0 3, n, ni, ns, hs, 1, 6, _, h2, ⟨Nat.le_of_ble_eq_true rfl, Nat.le_of_ble_eq_true rfl⟩, h3, ⟨rfl, rfl, Nat.le_of_ble_eq_true rfl, Nat.le_of_ble_eq_true rfl⟩, u00, fun q => absurd q (by decide), Rel_t H, Nat.le_succ _⟩
    · skip
      have h2 := fun sz => MetZ.any (g := fun z => cw cA (fixz (u 0) z) n ni c ++ [lo cA o f]) u (by rw [cw_fz]) (ht_draw_2 l dg cA (o := o) (f := f) (nI js) x2 cl_0 (cx_draw2 l dg cA hst u n ni c ns zs1 zs3 js hjs x2 z) rfl rfl (Nat.le_of_ble_eq_true rfl) (Nat.le_of_ble_eq_true rfl) sz)
      have h3 := fun sz => rr_draw2 l dg cA ad r ns zs2 zs3 js hjs x2 z sz
      exact ⟨2, f, 0, c, up r 0 0 2, n, ni, ns, hs, 1, 6, _, h2, ⟨Nat.le_of_ble_eq_true rfl, Nat.le_of_ble_eq_true rfl⟩, h3, ⟨rfl, rfl, Nat.le_of_ble_eq_true rfl, Nat.le_of_ble_eq_true rfl⟩, u00, fun q => absurd q (by decide), Rel_t H, Nat.le_succ _⟩
  · skip
    have h2 := fun sz => MetZ.any (g := fun z => cw cA (fixz (u 0) z) n ni c ++ [lo cA o f]) u (by rw [cw_fz]) (ht_draw_1 l dg cA (o := o) (f := f) x1 x2 cl_0 (cx_draw1 l dg cA hst u n ni c ns zs1 zs3 x1 z2 x2) rfl rfl (Nat.le_of_ble_eq_true rfl) (Nat.le_of_ble_eq_true rfl) sz)
    have h3 := fun sz => rr_draw1 l dg cA ad r ns zs2 zs3 x1 z1 x2 sz
    exact ⟨1, f, 0, c, up r 0 0 1, n, ni, ns, hs, 1, 6, _, h2, ⟨Nat.le_of_ble_eq_true rfl, Nat.le_of_ble_eq_true rfl⟩, h3, ⟨rfl, rfl, Nat.le_of_ble_eq_true rfl, Nat.le_of_ble_eq_true rfl⟩, u00, fun q => absurd q (by decide), Rel_t H, Nat.le_succ _⟩
set_option maxHeartbeats 4000000 in
set_option maxRecDepth 100000 in
theorem p_roundSize (l : Launch) (dg : va_G) (cA : Nat → ClassId) (hst : l.stackTraces = false) {u ad : Nat → Nat} {o : Nat} {f : Nat → Int64} {c r : St} {n ni ns hs : Nat} (H : Rel c r n ni ns hs) (h512 : hs < 512) (x1 : Int32) : PairI l dg cA yL_roundSize cL_roundSize 4 [(0, 9, 12, 25)] yX6_roundSize cX6_roundSize 2 (some .int) Int32.toInt64 u ad o f c r n ni hs [.int x1] := by
  obtain ⟨zs1, zs2, zs3⟩ := zns H
  obtain ⟨zn1, zn2, zn3⟩ := zn H
  obtain ⟨zi1, zi2, zi3⟩ := zni H
  rcases ixc (v := x1) (n := ni) (by omega) with ⟨i, hi, rfl⟩ | ⟨z1, z2⟩
  · obtain ⟨i1, ⟨i2, z, hz, i3, i4⟩, i5⟩ := H.1.1.2.2.2.2.1 i hi
    obtain ⟨bf, -⟩ := H.1.1.2.2.2.1 i (by omega)
    have h1 := fun sz => MetN.any (g := fun w => cw cA (fixz (u 0) w) n ni (c)) u cw_fz (Met.ofR (cc_roundSize l dg cA u n ni c zi1 zi3 i hi) sz)
    have h2 := fun sz => hs_roundSize l dg cA (o := o) (f := f) (nI i) cl_0 h1 rfl rfl (Nat.le_of_ble_eq_true rfl) (Nat.le_of_ble_eq_true rfl) sz
    have h3 := fun sz => rr_roundSize1 l dg cA ad r ni zi2 zi3 i hi sz
    exact ⟨0, _, r 20 i, c, up r 0 0 0, n, ni, ns, hs, 0, 0, _, h2, ⟨Nat.le_of_ble_eq_true rfl, Nat.le_of_ble_eq_true rfl⟩, h3, ⟨rfl, rfl, Nat.le_of_ble_eq_true rfl, Nat.le_of_ble_eq_true rfl⟩, u00, fun _ => by rw [updL0, i2], Rel_t H, Nat.le_succ _⟩
  · skip
    have h2 := fun sz => MetZ.any (g := fun z => cw cA (fixz (u 0) z) n ni c ++ [lo cA o f]) u (by rw [cw_fz]) (ht_roundSize_1 l dg cA (o := o) (f := f) x1 cl_0 (cx_roundSize l dg cA hst u n ni c zi1 zi3 x1 z2) rfl rfl (Nat.le_of_ble_eq_true rfl) (Nat.le_of_ble_eq_true rfl) sz)
    have h3 := fun sz => rr_roundSize0 l dg cA ad r ni zi2 zi3 x1 z1 sz
    exact ⟨1, f, 0, c, up r 0 0 1, n, ni, ns, hs, 1, 6, _, h2, ⟨Nat.le_of_ble_eq_true rfl, Nat.le_of_ble_eq_true rfl⟩, h3, ⟨rfl, rfl, Nat.le_of_ble_eq_true rfl, Nat.le_of_ble_eq_true rfl⟩, u00, fun q => absurd q (by decide), Rel_t H, Nat.le_succ _⟩
set_option maxHeartbeats 4000000 in
set_option maxRecDepth 100000 in
theorem p_roundMinutes (l : Launch) (dg : va_G) (cA : Nat → ClassId) (hst : l.stackTraces = false) {u ad : Nat → Nat} {o : Nat} {f : Nat → Int64} {c r : St} {n ni ns hs : Nat} (H : Rel c r n ni ns hs) (h512 : hs < 512) (x1 : Int32) : PairI l dg cA yL_roundMinutes cL_roundMinutes 4 [(0, 9, 12, 25)] yX6_roundMinutes cX6_roundMinutes 2 (some .int) Int32.toInt64 u ad o f c r n ni hs [.int x1] := by
  obtain ⟨zs1, zs2, zs3⟩ := zns H
  obtain ⟨zn1, zn2, zn3⟩ := zn H
  obtain ⟨zi1, zi2, zi3⟩ := zni H
  rcases ixc (v := x1) (n := ni) (by omega) with ⟨i, hi, rfl⟩ | ⟨z1, z2⟩
  · obtain ⟨i1, ⟨i2, z, hz, i3, i4⟩, i5⟩ := H.1.1.2.2.2.2.1 i hi
    obtain ⟨bf, -⟩ := H.1.1.2.2.2.1 i (by omega)
    have h1 := fun sz => MetN.any (g := fun w => cw cA (fixz (u 0) w) n ni (c)) u cw_fz (Met.ofR (cc_roundMinutes l dg cA u n ni c zi1 zi3 i hi) sz)
    have h2 := fun sz => hs_roundMinutes l dg cA (o := o) (f := f) (nI i) cl_0 h1 rfl rfl (Nat.le_of_ble_eq_true rfl) (Nat.le_of_ble_eq_true rfl) sz
    have h3 := fun sz => rr_roundMinutes1 l dg cA ad r ni zi2 zi3 i hi sz
    exact ⟨0, _, r 21 i, c, up r 0 0 0, n, ni, ns, hs, 0, 0, _, h2, ⟨Nat.le_of_ble_eq_true rfl, Nat.le_of_ble_eq_true rfl⟩, h3, ⟨rfl, rfl, Nat.le_of_ble_eq_true rfl, Nat.le_of_ble_eq_true rfl⟩, u00, fun _ => by rw [updL0, i5], Rel_t H, Nat.le_succ _⟩
  · skip
    have h2 := fun sz => MetZ.any (g := fun z => cw cA (fixz (u 0) z) n ni c ++ [lo cA o f]) u (by rw [cw_fz]) (ht_roundMinutes_1 l dg cA (o := o) (f := f) x1 cl_0 (cx_roundMinutes l dg cA hst u n ni c zi1 zi3 x1 z2) rfl rfl (Nat.le_of_ble_eq_true rfl) (Nat.le_of_ble_eq_true rfl) sz)
    have h3 := fun sz => rr_roundMinutes0 l dg cA ad r ni zi2 zi3 x1 z1 sz
    exact ⟨1, f, 0, c, up r 0 0 1, n, ni, ns, hs, 1, 6, _, h2, ⟨Nat.le_of_ble_eq_true rfl, Nat.le_of_ble_eq_true rfl⟩, h3, ⟨rfl, rfl, Nat.le_of_ble_eq_true rfl, Nat.le_of_ble_eq_true rfl⟩, u00, fun q => absurd q (by decide), Rel_t H, Nat.le_succ _⟩
set_option maxHeartbeats 4000000 in
set_option maxRecDepth 100000 in
theorem p_faults (l : Launch) (dg : va_G) (cA : Nat → ClassId) (hst : l.stackTraces = false) {u ad : Nat → Nat} {o : Nat} {f : Nat → Int64} {c r : St} {n ni ns hs : Nat} (H : Rel c r n ni ns hs) (h512 : hs < 512) (x1 : Int32) : PairI l dg cA yL_faults cL_faults 4 [(0, 9, 12, 25)] yX6_faults cX6_faults 2 (some .int) Int32.toInt64 u ad o f c r n ni hs [.int x1] := by
  obtain ⟨zs1, zs2, zs3⟩ := zns H
  obtain ⟨zn1, zn2, zn3⟩ := zn H
  obtain ⟨zi1, zi2, zi3⟩ := zni H
  rcases ixc (v := x1) (n := ni) (by omega) with ⟨i, hi, rfl⟩ | ⟨z1, z2⟩
  · obtain ⟨i1, ⟨i2, z, hz, i3, i4⟩, i5⟩ := H.1.1.2.2.2.2.1 i hi
    obtain ⟨bf, -⟩ := H.1.1.2.2.2.1 i (by omega)
    have h1 := fun sz => MetN.any (g := fun w => cw cA (fixz (u 0) w) n ni (c)) u cw_fz (Met.ofR (cc_faults l dg cA u n ni c zi1 zi3 i hi) sz)
    have h2 := fun sz => hs_faults l dg cA (o := o) (f := f) (nI i) cl_0 h1 rfl rfl (Nat.le_of_ble_eq_true rfl) (Nat.le_of_ble_eq_true rfl) sz
    have h3 := fun sz => rr_faults1 l dg cA ad r ni zi2 zi3 i hi sz
    exact ⟨0, _, r 25 i, c, up r 0 0 0, n, ni, ns, hs, 0, 0, _, h2, ⟨Nat.le_of_ble_eq_true rfl, Nat.le_of_ble_eq_true rfl⟩, h3, ⟨rfl, rfl, Nat.le_of_ble_eq_true rfl, Nat.le_of_ble_eq_true rfl⟩, u00, fun _ => by rw [updL0, bf], Rel_t H, Nat.le_succ _⟩
  · skip
    have h2 := fun sz => MetZ.any (g := fun z => cw cA (fixz (u 0) z) n ni c ++ [lo cA o f]) u (by rw [cw_fz]) (ht_faults_1 l dg cA (o := o) (f := f) x1 cl_0 (cx_faults l dg cA hst u n ni c zi1 zi3 x1 z2) rfl rfl (Nat.le_of_ble_eq_true rfl) (Nat.le_of_ble_eq_true rfl) sz)
    have h3 := fun sz => rr_faults0 l dg cA ad r ni zi2 zi3 x1 z1 sz
    exact ⟨1, f, 0, c, up r 0 0 1, n, ni, ns, hs, 1, 6, _, h2, ⟨Nat.le_of_ble_eq_true rfl, Nat.le_of_ble_eq_true rfl⟩, h3, ⟨rfl, rfl, Nat.le_of_ble_eq_true rfl, Nat.le_of_ble_eq_true rfl⟩, u00, fun q => absurd q (by decide), Rel_t H, Nat.le_succ _⟩
set_option maxHeartbeats 4000000 in
set_option maxRecDepth 100000 in
theorem p_answersTo (l : Launch) (dg : va_G) (cA : Nat → ClassId) (hst : l.stackTraces = false) {u ad : Nat → Nat} {o : Nat} {f : Nat → Int64} {c r : St} {n ni ns hs : Nat} (H : Rel c r n ni ns hs) (h512 : hs < 512) (x1 : Int32) : PairI l dg cA yL_answersTo cL_answersTo 4 [(0, 9, 12, 25)] yX6_answersTo cX6_answersTo 4 (some .int) Int32.toInt64 u ad o f c r n ni hs [.int x1] := by
  obtain ⟨zs1, zs2, zs3⟩ := zns H
  obtain ⟨zn1, zn2, zn3⟩ := zn H
  obtain ⟨zi1, zi2, zi3⟩ := zni H
  rcases ixc (v := x1) (n := ni) (by omega) with ⟨i, hi, rfl⟩ | ⟨z1, z2⟩
  · obtain ⟨i1, ⟨i2, z, hz, i3, i4⟩, i5⟩ := H.1.1.2.2.2.2.1 i hi
    obtain ⟨bf, -⟩ := H.1.1.2.2.2.1 i (by omega)
    have h1 := fun sz => MetN.any (g := fun w => cw cA (fixz (u 0) w) n ni (c)) u cw_fz (Met.ofR (cc_answersTo l dg cA u n ni c zn1 zn3 zi1 zi3 i hi) sz)
    have h2 := fun sz => hs_answersTo l dg cA (o := o) (f := f) (nI i) cl_0 h1 rfl rfl (Nat.le_of_ble_eq_true rfl) (Nat.le_of_ble_eq_true rfl) sz
    have h3 := fun sz => rr_answersTo1 l dg cA ad r n zn2 zn3 ni zi2 zi3 i hi sz
    exact ⟨0, _, _, c, up r 0 0 0, n, ni, ns, hs, 0, 0, _, h2, ⟨Nat.le_of_ble_eq_true rfl, Nat.le_of_ble_eq_true rfl⟩, h3, ⟨rfl, rfl, Nat.le_of_ble_eq_true rfl, Nat.le_of_ble_eq_true rfl⟩, u00, fun _ => by rw [updL0, q_ansTo H], Rel_t H, Nat.le_succ _⟩
  · skip
    have h2 := fun sz => MetZ.any (g := fun z => cw cA (fixz (u 0) z) n ni c ++ [lo cA o f]) u (by rw [cw_fz]) (ht_answersTo_1 l dg cA (o := o) (f := f) x1 cl_0 (cx_answersTo l dg cA hst u n ni c zi1 zi3 x1 z2) rfl rfl (Nat.le_of_ble_eq_true rfl) (Nat.le_of_ble_eq_true rfl) sz)
    have h3 := fun sz => rr_answersTo0 l dg cA ad r ni zi2 zi3 x1 z1 sz
    exact ⟨1, f, 0, c, up r 0 0 1, n, ni, ns, hs, 1, 6, _, h2, ⟨Nat.le_of_ble_eq_true rfl, Nat.le_of_ble_eq_true rfl⟩, h3, ⟨rfl, rfl, Nat.le_of_ble_eq_true rfl, Nat.le_of_ble_eq_true rfl⟩, u00, fun q => absurd q (by decide), Rel_t H, Nat.le_succ _⟩
set_option maxHeartbeats 4000000 in
set_option maxRecDepth 100000 in
theorem p_roundAt (l : Launch) (dg : va_G) (cA : Nat → ClassId) (hst : l.stackTraces = false) {u ad : Nat → Nat} {o : Nat} {f : Nat → Int64} {c r : St} {n ni ns hs : Nat} (H : Rel c r n ni ns hs) (h512 : hs < 512) (x1 x2 : Int32) : PairI l dg cA yL_roundAt cL_roundAt 5 [(0, 10, 13, 25), (0, 10, 17, 40)] yX6_roundAt cX6_roundAt 3 (some .int) Int32.toInt64 u ad o f c r n ni hs [.int x1, .int x2] := by
  obtain ⟨zs1, zs2, zs3⟩ := zns H
  obtain ⟨zn1, zn2, zn3⟩ := zn H
  obtain ⟨zi1, zi2, zi3⟩ := zni H
  rcases ixc (v := x1) (n := ni) (by omega) with ⟨i, hi, rfl⟩ | ⟨z1, z2⟩
  · obtain ⟨i1, ⟨i2, z, hz, i3, i4⟩, i5⟩ := H.1.1.2.2.2.2.1 i hi
    rcases ixc (v := x2) (n := z) (by omega) with ⟨q, hq, rfl⟩ | ⟨y1, y2⟩
    · skip
      have h1 := fun sz => MetN.any (g := fun w => cw cA (fixz (u 0) w) n ni (c)) u cw_fz (Met.ofR (cc_roundAt l dg cA u n ni c zi1 zi3 i hi z q (i2.trans i3) (by omega) hq) sz)
      have h2 := fun sz => hs_roundAt l dg cA (o := o) (f := f) (nI i) (nI q) cl_0 h1 rfl rfl (Nat.le_of_ble_eq_true rfl) (Nat.le_of_ble_eq_true rfl) sz
      have h3 := fun sz => rr_roundAt1 l dg cA ad r ni zi2 zi3 i hi z i3 (by omega) q hq sz
      exact ⟨0, _, r 19 (24 * i + q), c, up r 0 0 0, n, ni, ns, hs, 0, 0, _, h2, ⟨Nat.le_of_ble_eq_true rfl, Nat.le_of_ble_eq_true rfl⟩, h3, ⟨rfl, rfl, Nat.le_of_ble_eq_true rfl, Nat.le_of_ble_eq_true rfl⟩, u00, fun _ => by rw [updL0, i4 q hq], Rel_t H, Nat.le_succ _⟩
    · skip
      have h2 := fun sz => MetZ.any (g := fun z => cw cA (fixz (u 0) z) n ni c ++ [lo cA o f]) u (by rw [cw_fz]) (ht_roundAt_2 l dg cA (o := o) (f := f) (nI i) x2 cl_0 (cx_roundAt2 l dg cA hst u n ni c zi1 zi3 i hi z (i2.trans i3) (by omega) x2 y2) rfl rfl (Nat.le_of_ble_eq_true rfl) (Nat.le_of_ble_eq_true rfl) sz)
      have h3 := fun sz => rr_roundAt2 l dg cA ad r ni zi2 zi3 i hi z i3 (by omega) x2 y1 sz
      exact ⟨2, f, 0, c, up r 0 0 2, n, ni, ns, hs, 1, 6, _, h2, ⟨Nat.le_of_ble_eq_true rfl, Nat.le_of_ble_eq_true rfl⟩, h3, ⟨rfl, rfl, Nat.le_of_ble_eq_true rfl, Nat.le_of_ble_eq_true rfl⟩, u00, fun q => absurd q (by decide), Rel_t H, Nat.le_succ _⟩
  · skip
    have h2 := fun sz => MetZ.any (g := fun z => cw cA (fixz (u 0) z) n ni c ++ [lo cA o f]) u (by rw [cw_fz]) (ht_roundAt_1 l dg cA (o := o) (f := f) x1 x2 cl_0 (cx_roundAt1 l dg cA hst u n ni c zi1 zi3 x1 z2 x2) rfl rfl (Nat.le_of_ble_eq_true rfl) (Nat.le_of_ble_eq_true rfl) sz)
    have h3 := fun sz => rr_roundAt0 l dg cA ad r ni zi2 zi3 x1 z1 x2 sz
    exact ⟨1, f, 0, c, up r 0 0 1, n, ni, ns, hs, 1, 6, _, h2, ⟨Nat.le_of_ble_eq_true rfl, Nat.le_of_ble_eq_true rfl⟩, h3, ⟨rfl, rfl, Nat.le_of_ble_eq_true rfl, Nat.le_of_ble_eq_true rfl⟩, u00, fun q => absurd q (by decide), Rel_t H, Nat.le_succ _⟩
