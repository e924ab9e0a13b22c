/-! what holds at the law's entry -/
theorem ar_p {args : Array Value} {s : State} {ty : FieldType} (h : (Cond.arrayClass ty).before args s = true) (hty : ∀ cB : ClassId, s.vm.findClass ("[" ++ ty.toString) = some cB → va_RA s cB ty) : ∃ cB : ClassId, ArrOfT s cB ty ∧ va_RA s cB ty := by
  obtain ⟨c, k, comp, h1, h2, h3⟩ := Cond.arrayClass_spec h
  exact ⟨c, fun n z => ⟨fun k h => (by cases h), k, h2, comp, h3⟩, hty c h1⟩
theorem ar_o {s : State} {C : String} (h : va_AO C s) : ∃ cB : ClassId, ArrOfT s cB (.object C) ∧ va_RA s cB (.object C) := by
  obtain ⟨comp, c, k, h1, h2, h3, h4, h5⟩ := Cond.arrayOver_spec h
  exact ⟨c, fun n z => ⟨fun k h => (by cases h), k, h3, comp, h4⟩, k, comp, h3, h4, h1, h5⟩
section ST
variable {s : State} {args : Array Value}
theorem st_g (hts : ∀ w ∈ lw_tbl, w.before args s = true) : ∀ w ∈ gW, w.before args s = true := fun w hw => hts w (List.mem_filter.mp hw).1
theorem st_i (hts : ∀ w ∈ lw_tbl, w.before args s = true) {w : Cond} (i : Nat) (h : lw_tbl[i]? = some w) : w.before args s = true := hts w (List.mem_of_getElem? h)
theorem st_0 (hts : ∀ w ∈ lw_tbl, w.before args s = true) {w : Cond} (i : Nat) (h : lw_tbl[i]? = some w) (ho : w.onTables = true) : w.before #[] s = true := va_tabs ho (rfl : s.vm = s.vm) (hts w (List.mem_of_getElem? h))
theorem st_CC (hts : ∀ w ∈ lw_tbl, w.before args s = true) : CC s := fun w hw => va_tabs (xW_ot hw).1 (rfl : s.vm = s.vm) (hts w (List.mem_filter.mp hw).1)
theorem st_NN (hts : ∀ w ∈ lw_tbl, w.before args s = true) : NN s := ⟨⟨st_0 (w := .methodLinkNest RX5 9 yX0_init RX5) hts 70 (by decide +kernel) rfl, st_0 (w := .methodLinkNest RX5 30 yX4_init RX5) hts 111 (by decide +kernel) rfl, st_0 (w := .methodLinkNest RX5 40 yX1_init RX5) hts 139 (by decide +kernel) rfl⟩, va_AO.of (st_i (w := .arrayOver (.object RX2)) hts 106 (by decide +kernel)), va_AO.of (st_i (w := .arrayOver (.object RX3)) hts 108 (by decide +kernel))⟩
theorem xS_in : ∀ q ∈ xS, Cond.stringRef RX5 q.1 q.2 ∈ lw_tbl := by decide +kernel
theorem st_SS (hts : ∀ w ∈ lw_tbl, w.before args s = true) {cF : ClassId} (hF : s.vm.findClass RX5 = some cF) : SS s := fun q hq => by
  have h := hts _ (xS_in q hq)
  obtain ⟨k, cf, i, a, -, -, -, -, -, hev⟩ := Cond.stringRef_spec hF h
  exact ⟨a, vk_R.of h hev⟩
theorem st_KK (hts : ∀ w ∈ lw_tbl, w.before args s = true) : ∃ (dg : va_G) (cA : Nat → ClassId), KK dg cA s := by
  have hg := st_g hts
  obtain ⟨c0, i0, k0⟩ := u_known (C := RX0) (T := TX0) (N := 6) hg uX0 (st_i (w := Cond.instantiable RX0 6) hts 69 (by decide +kernel))
  obtain ⟨c1, i1, k1⟩ := u_known (C := RX1) (T := TX1) (N := 2) hg uX1 (st_i (w := Cond.instantiable RX1 2) hts 138 (by decide +kernel))
  obtain ⟨c2, i2, k2⟩ := u_known (C := RX2) (T := TX2) (N := 11) hg uX2 (st_i (w := Cond.instantiable RX2 11) hts 421 (by decide +kernel))
  obtain ⟨c3, i3, k3⟩ := u_known (C := RX3) (T := TX3) (N := 7) hg uX3 (st_i (w := Cond.instantiable RX3 7) hts 478 (by decide +kernel))
  obtain ⟨c4, i4, k4⟩ := u_known (C := RX4) (T := TX4) (N := 5) hg uX4 (st_i (w := Cond.instantiable RX4 5) hts 110 (by decide +kernel))
  obtain ⟨c5, i5, k5⟩ := u_known (C := RX5) (T := TX5) (N := 9) hg uX5 (st_i (w := Cond.instantiable RX5 9) hts 61 (by decide +kernel))
  obtain ⟨c6, i6, k6⟩ := u_known (C := RX6) (T := TX6) (N := 31) hg uX6 (st_i (w := Cond.instantiable RX6 31) hts 832 (by decide +kernel))
  obtain ⟨a0, b0⟩ := ar_p (ty := .int) (st_i hts 104 (by decide +kernel)) (fun _ h => h)
  obtain ⟨a1, b1⟩ := ar_p (ty := .boolean) (st_i hts 136 (by decide +kernel)) (fun _ h => h)
  obtain ⟨a4, b4⟩ := ar_p (ty := .long) (st_i hts 1094 (by decide +kernel)) (fun _ h => h)
  obtain ⟨a5, b5⟩ := ar_p (ty := .double) (st_i hts 1095 (by decide +kernel)) (fun _ h => h)
  obtain ⟨a2, b2⟩ := ar_o (st_NN hts).2.1
  obtain ⟨a3, b3⟩ := ar_o (st_NN hts).2.2
  refine ⟨(fun k => match k with | 0 => c0 | 1 => c1 | 2 => c2 | 3 => c3 | 4 => c4 | 5 => c5 | _ => c6, fun k => match k with | 0 => i0 | 1 => i1 | 2 => i2 | 3 => i3 | 4 => i4 | 5 => i5 | _ => i6), fun k => match k with | 0 => a0 | 1 => a1 | 2 => a2 | 3 => a3 | 4 => a4 | _ => a5, fun ci q hq => ?_, fun k q hq => ?_⟩
  · rcases ci with _ | _ | _ | _ | _ | _ | _ | ci
    · cases hq; exact k0
    · cases hq; exact k1
    · cases hq; exact k2
    · cases hq; exact k3
    · cases hq; exact k4
    · cases hq; exact k5
    · cases hq; exact k6
    · cases hq
  · rcases k with _ | _ | _ | _ | _ | _ | k
    · cases hq; exact b0
    · cases hq; exact b1
    · cases hq; exact b2
    · cases hq; exact b3
    · cases hq; exact b4
    · cases hq; exact b5
    · cases hq
end ST
section SR
variable {p : Program} {l : Launch} {e : Env} {R : Room} {s : State} {m : MethodId} {args : Array Value} {below : List Frame} {meth : Method} {c : Code} {H : Heap} {locs : List Loc} {cells slots : Nat} {Q : State → Prop}
variable {cc : ByteArray} {pc nL idx n maxL mc ms : Nat} {ls : Array Slot} {rest st : List Value} {dg : va_G} {cA : Nat → ClassId} {A : Nat → Prop} {b : Nat} {ws : va_W} {ws1 : (Nat → Nat) → va_W} {H0 : Heap} {own : String} {y : MethodName} {bytes : ByteArray} {rm : Room} {As : List Value}
theorem cBI (S : CallFix p m c cc nL s args gW own) (hM : MetB l dg cA y bytes maxL none rm mc ms ws H.size (.ref b :: As) ws1 none) (F : CI own idx y bytes maxL n) (hR : rm.cells = mc ∧ rm.slots = ms ∧ rm.frames + 1 ≤ R.frames ∧ 8 + (maxL + 11) + rm.locals ≤ R.locals) (hK : KK dg cA s) (hN : NN s) (hP : PP dg ws H) (hD : va_D A ws) (hS : va_S A H0 H locs) (hA : ∀ q, H0.size ≤ q → A q) (hn : As.length = n) (hls : ls.size = nL) (hst : st = As.reverse ++ .ref b :: rest) (hW : (rest.map fun v => v.category).sum ≤ 8) (hdg : decode cc pc = .ok (.invokespecial idx, 3)) (hf : cells + mc ≤ R.cells ∧ slots + ms ≤ R.slots)
    (kk : ∀ (u : Nat → Nat) (H1 : Heap) (locs1 : List Loc), PP dg (ws1 u) H1 → va_D A (ws1 u) → va_S A H0 H1 locs1 → W p l e R s m args below meth c H1 locs1 (cells + mc) (slots + ms) Q (F0 m (pc + 3) ls rest)) : W p l e R s m args below meth c H locs cells slots Q (F0 m pc ls st) :=
  runN (va_runI S hM (ci_w S.2.2.2.2 F hR) ⟨PcB.blind, fun U hU hW => ⟨rfl, by rw [hU], by rw [hU]; exact hP, KK.moved hW.alike hK, hD.weaken (fun _ _ _ _ => trivial), NN.moved hW hN⟩⟩ rfl hn hls hst (lv_room (ls := ls) (pc := pc) (m := m) (rest := rest) hW) hdg hf) hS (va_A.sub hD hS hA) rfl kk
theorem nwL (S : CallFix p m c cc nL s args gW own) (hK : KK dg cA s) (hP : PP dg ws H) (hD : va_D A ws) (hS : va_S A H0 H locs) (hA : ∀ q, H0.size ≤ q → A q) (hw : Cond.arrayClass .long ∈ gW) {k : Int32} {N : Nat} (hk : ¬ k < 0) (hN : k.toNatClampNeg = N) (hb : N * 8 ≤ 536870912) (hcells : cells + 1 ≤ R.cells) (hslots : slots + N ≤ R.slots) (hdg : decode cc pc = .ok (.newarray .long, 2))
    (kk : ∀ (q : Nat) (H1 : Heap), PP dg (ws ++ [(q, .inl (cA 4, N, .inr (.inl (fun _ => 0))))]) H1 → va_D A (ws ++ [(q, .inl (cA 4, N, .inr (.inl (fun _ => 0))))]) → va_S A H0 H1 locs → W p l e R s m args below meth c H1 locs (cells + 1) (slots + N) Q (F0 m (pc + 2) ls (.ref q :: rest))) : W p l e R s m args below meth c H locs cells slots Q (F0 m pc ls (.int k :: rest)) :=
  va_newa (atype := .long) (a0 := (N, .inr (.inl (fun _ => 0)))) S.1 S.2.1 (S.2.2.2.2 _ hw) rfl hK hP hD hS hA (fun _ => rfl) hk hN hb hcells hslots hdg (fun q cB H1 hK1 hP1 hD1 hS1 => by
    have e : cB = cA 4 := Option.some.inj ((hK1.2 6 _ rfl).2.symm.trans (hK.2 4 _ rfl).2)
    subst e
    exact kk q H1 hP1 hD1 hS1)
theorem nwD (S : CallFix p m c cc nL s args gW own) (hK : KK dg cA s) (hP : PP dg ws H) (hD : va_D A ws) (hS : va_S A H0 H locs) (hA : ∀ q, H0.size ≤ q → A q) (hw : Cond.arrayClass .double ∈ gW) {k : Int32} {N : Nat} (hk : ¬ k < 0) (hN : k.toNatClampNeg = N) (hb : N * 8 ≤ 536870912) (hcells : cells + 1 ≤ R.cells) (hslots : slots + N ≤ R.slots) (hdg : decode cc pc = .ok (.newarray .double, 2))
    (kk : ∀ (q : Nat) (H1 : Heap), PP dg (ws ++ [(q, .inl (cA 5, N, .inr (.inr (.inr (.inl (fun _ => 0))))))]) H1 → va_D A (ws ++ [(q, .inl (cA 5, N, .inr (.inr (.inr (.inl (fun _ => 0))))))]) → va_S A H0 H1 locs → W p l e R s m args below meth c H1 locs (cells + 1) (slots + N) Q (F0 m (pc + 2) ls (.ref q :: rest))) : W p l e R s m args below meth c H locs cells slots Q (F0 m pc ls (.int k :: rest)) :=
  va_newa (atype := .double) (a0 := (N, .inr (.inr (.inr (.inl (fun _ => 0)))))) S.1 S.2.1 (S.2.2.2.2 _ hw) rfl hK hP hD hS hA (fun _ => rfl) hk hN hb hcells hslots hdg (fun q cB H1 hK1 hP1 hD1 hS1 => by
    have e : cB = cA 5 := Option.some.inj ((hK1.2 6 _ rfl).2.symm.trans (hK.2 5 _ rfl).2)
    subst e
    exact kk q H1 hP1 hD1 hS1)
end SR
