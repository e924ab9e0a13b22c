/-! new cells: worlds up to order, contracts whose world grows -/
theorem va_D_iff {A : Nat → Prop} {ws : va_W} : va_D A ws ↔ (ws.map Prod.fst).Nodup ∧ ∀ q ∈ ws, A q.1 := by
  constructor
  · rintro ⟨h1, h2⟩
    refine ⟨?_, fun q hq => ?_⟩
    · refine List.pairwise_iff_getElem.mpr (fun i j hi hj hij e => ?_)
      have hi' : i < ws.length := by simpa using hi
      have hj' : j < ws.length := by simpa using hj
      have e' : (ws[i]'hi').1 = (ws[j]'hj').1 := by simpa using e
      have := h1 i j _ _ (List.getElem?_eq_getElem hi') (List.getElem?_eq_getElem hj') e'
      omega
    · obtain ⟨k, hk⟩ := List.getElem?_of_mem hq
      exact h2 k q hk
  · rintro ⟨h1, h2⟩
    refine ⟨fun i j p q hi hj e => ?_, fun k q hk => h2 q (List.mem_of_getElem? hk)⟩
    obtain ⟨hi', ei⟩ := List.getElem?_eq_some_iff.mp hi
    obtain ⟨hj', ej⟩ := List.getElem?_eq_some_iff.mp hj
    have hp := List.pairwise_iff_getElem.mp h1
    rcases Nat.lt_trichotomy i j with z | z | z
    · exact (hp i j (by simpa using hi') (by simpa using hj') z (by simp [ei, ej, e])).elim
    · exact z
    · exact (hp j i (by simpa using hj') (by simpa using hi') z (by simp [ei, ej, e])).elim
theorem pPP {dg : va_G} {ws ws1 : va_W} {H : Heap} (h : ws1.Perm ws) (hP : PP dg ws H) : PP dg ws1 H := fun k q hk => by
  obtain ⟨i, hi⟩ := List.getElem?_of_mem (h.mem_iff.mp (List.mem_of_getElem? hk))
  exact hP i q hi
theorem pD {A : Nat → Prop} {ws ws1 : va_W} (h : ws1.Perm ws) (hD : va_D A ws) : va_D A ws1 := by
  obtain ⟨h1, h2⟩ := va_D_iff.mp hD
  exact va_D_iff.mpr ⟨((h.map Prod.fst).nodup_iff).mpr h1, fun q hq => h2 q (h.mem_iff.mp hq)⟩
def QcN (dg : va_G) (ws1 : (Nat → Nat) → va_W) (v : Option Value) (A : Nat → Prop) : Array Value → State → Outcome → State → Prop := fun _ st o t => (o = .returned v ∧ ∃ u : Nat → Nat, PP dg (ws1 u) t.heap ∧ va_D A (ws1 u)) ∧ va_F A st t
abbrev MetN (l : Launch) (dg : va_G) (cA : Nat → ClassId) (y : MethodName) (bytes : ByteArray) (maxL : Nat) (ret : Option FieldType) (rm : Room) (mc ms : Nat) (ws : va_W) (sz : Nat) (av : List Value) (ws1 : (Nat → Nat) → va_W) (v : Option Value) : Prop := Met l y (wg y bytes maxL ret) rm (PcM dg cA ws sz av) (QcN dg ws1 v (va_A ws sz)) mc ms (va_A ws sz)
section NA
variable {l : Launch} {dg : va_G} {cA : Nat → ClassId} {y : MethodName} {bytes : ByteArray} {maxL : Nat} {ret : Option FieldType} {rm : Room} {ws : va_W} {ws1 : (Nat → Nat) → va_W} {av : List Value} {v : Option Value} {sz mc ms : Nat}
theorem ofN (hy : plainName y.cls = true) (hn : (lg_sl av).length ≤ maxL) {own : String} (ho : y.cls = own)
    (body : ∀ (p : Program) (e : Env) (s : State) (m : MethodId) (args : Array Value) (below : List Frame) (meth : Method) (c : Code) (ls : Array Slot) (A : Nat → Prop), va_A ws s.heap.size = A → CallFix p m c bytes maxL s args gW own → meth.sig.returnType = ret → meth.locks = false → meth.name = y.name → args = av.toArray → KK dg cA s → PP dg ws s.heap → va_D A ws → va_S A s.heap s.heap [] → (∀ q : Nat, s.heap.size ≤ q → A q) → s.heap.size = sz → lv_has ls maxL (lv_args 0 av) →
      W p l e rm s m args below meth c s.heap [] 0 0 (MQ below (QcN dg ws1 v A) args s mc ms A) (F0 m 0 ls [])) : MetN l dg cA y bytes maxL ret rm mc ms ws sz av ws1 v := by
  refine Met.ofW hy rfl ?_
  intro p e s m args below meth c s₁ B hml hv
  obtain ⟨rfl, hsz, hP, hK, hD0⟩ := hv
  have hts : ∀ w ∈ gW, w.before av.toArray s = true := fun w h => atoms_spec (ws := wg y bytes maxL ret) B.pre w (List.mem_cons_of_mem _ h)
  subst hsz
  rw [lg_entry_eq]
  exact body p e s m av.toArray below meth c _ _ rfl ⟨B.exec, B.bytes, hml, ho ▸ findClass_of_methodNamed B.named, hts⟩ B.returns B.notSynchronized (name_of_methodNamed B.named B.method).1 rfl hK hP (hD0.self (sz := s.heap.size)) va_S.rf (fun q h => Or.inr h) rfl (lv_entry av hn)
end NA
section NB
variable {p : Program} {l : Launch} {e : Env} {R : Room} {s : State} {m : MethodId} {args : Array Value} {below : List Frame} {meth : Method} {c : Code} {H : Heap} {locs : List Loc} {cells slots : Nat} {Q : State → Prop}
variable {cc : ByteArray} {pc nL : Nat} {ls : Array Slot} {rest st st1 : List Value} {dg : va_G} {cA : Nat → ClassId} {A : Nat → Prop} {b : Nat} {ws : va_W} {ws1 : (Nat → Nat) → va_W} {H0 : Heap} {own : String}
variable {idx n maxL mc ms : Nat} {C : String} {y : MethodName} {bytes : ByteArray} {ret : Option FieldType} {rm : Room} {As : List Value} {v : Option Value}
theorem runN {A1 : Nat → Prop} {aa : Array Value} (hr : va_Run p l e R s m args below meth c H locs cells slots mc ms (F0 m pc ls st) rest (QcN dg ws1 v A1 aa) A1) (hS : va_S A H0 H locs) (hA1 : ∀ q, A1 q → A q) (hst1 : v.toList ++ rest = st1)
    (kk : ∀ (u : Nat → Nat) (H1 : Heap) (locs1 : List Loc), PP dg (ws1 u) H1 → va_D A (ws1 u) → va_S A H0 H1 locs1 → W p l e R s m args below meth c H1 locs1 (cells + mc) (slots + ms) Q (F0 m (pc + 3) ls st1)) : W p l e R s m args below meth c H locs cells slots Q (F0 m pc ls st) := by
  intro T hT X
  obtain ⟨v', st₀, t, T', L, h0, X', hL, e1, e2, ⟨⟨hv, u, hp, hd⟩, hF⟩, st⟩ := hr T hT X
  cases hv
  subst hst1
  obtain ⟨k1, k2, k3⟩ := vx_keep h0 e1 hS (fun q _ h => hA1 q h) hA1 hL hF
  obtain ⟨t2, a1, b1⟩ := kk u T'.heap (locs ++ L) (by rw [e1]; exact hp) (hd.weaken (fun _ q _ h => hA1 q.1 h)) k3 T' rfl X'
  exact ⟨t2, st t2 a1, b1⟩
theorem cN (S : CallFix p m c cc nL s args gW own) (hM : MetN l dg cA y bytes maxL ret rm mc ms ws H.size (.ref b :: As) ws1 v) (F : CV own idx C y bytes maxL ret n) (hR : rm.cells = mc ∧ rm.slots = ms ∧ rm.frames + 1 ≤ R.frames ∧ 8 + (maxL + 11) + rm.locals ≤ R.locals) (hK : KK dg cA s) (hP : PP dg ws H) (hD : va_D A ws) (hS : va_S A H0 H locs) (hA : ∀ q, H0.size ≤ q → A q) (q0 : Nat) {ci : Nat} {fs : List Value} (he : ws[q0]? = some (b, .inr (ci, fs))) {q : vw_C} (hc : gcl[ci]? = some q) (hC : q.1 = C) (hn : As.length = n) (hls : ls.size = nL) (hst : st = As.reverse ++ .ref b :: rest) (hW : (rest.map fun v => v.category).sum ≤ 8) (hdg : decode cc pc = .ok (.invokevirtual idx, 3)) (hf : cells + mc ≤ R.cells ∧ slots + ms ≤ R.slots) (hst1 : v.toList ++ rest = st1)
    (kk : ∀ (u : Nat → Nat) (H1 : Heap) (locs1 : List Loc), PP dg (ws1 u) H1 → va_D A (ws1 u) → va_S A H0 H1 locs1 → W p l e R s m args below meth c H1 locs1 (cells + mc) (slots + ms) Q (F0 m (pc + 3) ls st1)) : W p l e R s m args below meth c H locs cells slots Q (F0 m pc ls st) :=
  runN (va_runV S hM (cv_w S.2.2.2.2 F hR) ⟨PcM.blind, by subst hC; exact va_recv hK hP hc he, fun U hU hW => ⟨rfl, by rw [hU], by rw [hU]; exact hP, KK.moved hW.alike hK, hD.weaken (fun _ _ _ _ => trivial)⟩⟩ rfl hn hls hst (lv_room (ls := ls) (pc := pc) (m := m) (rest := rest) hW) hdg hf) hS (va_A.sub hD hS hA) hst1 kk
theorem cNI (S : CallFix p m c cc nL s args gW own) (hM : MetN l dg cA y bytes maxL none rm mc ms ws H.size (.ref b :: As) ws1 none) (F : CI own idx y bytes maxL n) (hR : rm.cells = mc ∧ rm.slots = ms ∧ rm.frames + 1 ≤ R.frames ∧ 8 + (maxL + 11) + rm.locals ≤ R.locals) (hK : KK dg cA s) (hP : PP dg ws H) (hD : va_D A ws) (hS : va_S A H0 H locs) (hA : ∀ q, H0.size ≤ q → A q) (hn : As.length = n) (hls : ls.size = nL) (hst : st = As.reverse ++ .ref b :: rest) (hW : (rest.map fun v => v.category).sum ≤ 8) (hdg : decode cc pc = .ok (.invokespecial idx, 3)) (hf : cells + mc ≤ R.cells ∧ slots + ms ≤ R.slots)
    (kk : ∀ (u : Nat → Nat) (H1 : Heap) (locs1 : List Loc), PP dg (ws1 u) H1 → va_D A (ws1 u) → va_S A H0 H1 locs1 → W p l e R s m args below meth c H1 locs1 (cells + mc) (slots + ms) Q (F0 m (pc + 3) ls rest)) : W p l e R s m args below meth c H locs cells slots Q (F0 m pc ls st) :=
  runN (va_runI S hM (ci_w S.2.2.2.2 F hR) ⟨PcM.blind, fun U hU hW => ⟨rfl, by rw [hU], by rw [hU]; exact hP, KK.moved hW.alike hK, hD.weaken (fun _ _ _ _ => trivial)⟩⟩ rfl hn hls hst (lv_room (ls := ls) (pc := pc) (m := m) (rest := rest) hW) hdg hf) hS (va_A.sub hD hS hA) rfl kk
/-- a nest mate's private constructor -/
theorem cNN (S : CallFix p m c cc nL s args gW own) (hM : MetN l dg cA y bytes maxL none rm mc ms ws H.size (.ref b :: As) ws1 none) {host : String} (hl : va_Nw (.methodLinkNest own idx y host) s) (F : Cond.instanceMethod y ∈ gW ∧ Cond.initialized y.cls ∈ gW ∧ Cond.code y bytes maxL none ∈ gW ∧ y.name = "<init>" ∧ y.cls ≠ "java/lang/invoke/MethodHandle" ∧ y.cls ≠ "java/lang/invoke/VarHandle" ∧ (parseMethodDescriptor y.desc).map (fun d => d.parameters.length) = some n) (hR : rm.cells = mc ∧ rm.slots = ms ∧ rm.frames + 1 ≤ R.frames ∧ 8 + (maxL + 11) + rm.locals ≤ R.locals) (hK : KK dg cA s) (hP : PP dg ws H) (hD : va_D A ws) (hS : va_S A H0 H locs) (hA : ∀ q, H0.size ≤ q → A q) (hn : As.length = n) (hls : ls.size = nL) (hst : st = As.reverse ++ .ref b :: rest) (hW : (rest.map fun v => v.category).sum ≤ 8) (hdg : decode cc pc = .ok (.invokespecial idx, 3)) (hf : cells + mc ≤ R.cells ∧ slots + ms ≤ R.slots)
    (kk : ∀ (u : Nat → Nat) (H1 : Heap) (locs1 : List Loc), PP dg (ws1 u) H1 → va_D A (ws1 u) → va_S A H0 H1 locs1 → W p l e R s m args below meth c H1 locs1 (cells + mc) (slots + ms) Q (F0 m (pc + 3) ls rest)) : W p l e R s m args below meth c H locs cells slots Q (F0 m pc ls st) :=
  runN (va_runIN S hM ⟨va_cnB n S.2.2.2.2 (gI_all F.2.2.1) rfl hR.1 hR.2.1 hl (S.2.2.2.2 _ F.2.1) ⟨F.2.2.2.2.1, F.2.2.2.2.2.1, F.2.2.2.2.2.2⟩ hR.2.2, F.2.2.2.1, S.2.2.2.2 _ F.1⟩ ⟨PcM.blind, fun U hU hW => ⟨rfl, by rw [hU], by rw [hU]; exact hP, KK.moved hW.alike hK, hD.weaken (fun _ _ _ _ => trivial)⟩⟩ rfl hn hls hst (lv_room (ls := ls) (pc := pc) (m := m) (rest := rest) hW) hdg hf) hS (va_A.sub hD hS hA) rfl kk
/-- new rows -/
theorem nwO (S : CallFix p m c cc nL s args gW own) (hK : KK dg cA s) (hP : PP dg ws H) (hD : va_D A ws) (hS : va_S A H0 H locs) (hA : ∀ q, H0.size ≤ q → A q) {ci N : Nat} {T : u_T} (hc : gcl[ci]? = some (C, T, N)) {ty : Nat → FieldType} (F : FP ci C T N ty) (hin : ∀ w ∈ u_ws C T N, w ∈ gW) (hw : Cond.classLink own idx C ∈ gW ∧ Cond.instantiable C N ∈ gW ∧ Cond.initialized C ∈ gW) {fs : List Value} (hfs : ∀ j, j < N → defaultValue (ty j) = vp_V fs j) (hcells : cells + 1 ≤ R.cells) (hslots : slots + N ≤ R.slots) (hdg : decode cc pc = .ok (.new idx, 3))
    (kk : ∀ (q : Nat) (H1 : Heap), PP dg (ws ++ [(q, .inr (ci, fs))]) H1 → va_D A (ws ++ [(q, .inr (ci, fs))]) → va_S A H0 H1 locs → W p l e R s m args below meth c H1 locs (cells + 1) (slots + N) Q (F0 m (pc + 3) ls (.ref q :: rest))) : W p l e R s m args below meth c H locs cells slots Q (F0 m pc ls rest) :=
  va_new S.1 S.2.1 S.2.2.2.2 hin ty F.1 S.2.2.2.1 (S.2.2.2.2 _ hw.1) (S.2.2.2.2 _ hw.2.1) (S.2.2.2.2 _ hw.2.2) hK hP hD hS hA hc hfs hcells hslots hdg kk
theorem kA0 {cB : ClassId} {U : State} (hK : KK dg cA U) {cl : List vw_C} (h : va_K dg cl (gty cA ++ [(cB, .int)]) U) : cB = cA 0 := Option.some.inj ((h.2 6 _ rfl).2.symm.trans (hK.2 0 _ rfl).2)
theorem kA1 {cB : ClassId} {U : State} (hK : KK dg cA U) {cl : List vw_C} (h : va_K dg cl (gty cA ++ [(cB, .boolean)]) U) : cB = cA 1 := Option.some.inj ((h.2 6 _ rfl).2.symm.trans (hK.2 1 _ rfl).2)
theorem kA2 {cB : ClassId} {U : State} (hK : KK dg cA U) {cl : List vw_C} (h : va_K dg cl (gty cA ++ [(cB, .object RX2)]) U) : cB = cA 2 := by
  obtain ⟨_, _, _, _, _, e1⟩ := (h.2 6 _ rfl).2
  obtain ⟨_, _, _, _, _, e2⟩ := (hK.2 2 _ rfl).2
  exact Option.some.inj (e1.symm.trans e2)
theorem kA3 {cB : ClassId} {U : State} (hK : KK dg cA U) {cl : List vw_C} (h : va_K dg cl (gty cA ++ [(cB, .object RX3)]) U) : cB = cA 3 := by
  obtain ⟨_, _, _, _, _, e1⟩ := (h.2 6 _ rfl).2
  obtain ⟨_, _, _, _, _, e2⟩ := (hK.2 3 _ rfl).2
  exact Option.some.inj (e1.symm.trans e2)
theorem nwI (S : CallFix p m c cc nL s args gW own) (hK : KK dg cA s) (hP : PP dg ws H) (hD : va_D A ws) (hS : va_S A H0 H locs) (hA : ∀ q, H0.size ≤ q → A q) (hw : Cond.arrayClass .int ∈ gW) {k : Int32} {N : Nat} (hk : ¬ k < 0) (hN : k.toNatClampNeg = N) (hb : N * 4 ≤ 536870912) (hcells : cells + 1 ≤ R.cells) (hslots : slots + N ≤ R.slots) (hdg : decode cc pc = .ok (.newarray .int, 2))
    (kk : ∀ (q : Nat) (H1 : Heap), PP dg (ws ++ [(q, .inl (cA 0, N, .inl (fun _ => 0)))]) H1 → va_D A (ws ++ [(q, .inl (cA 0, N, .inl (fun _ => 0)))]) → va_S A H0 H1 locs → W p l e R s m args below meth c H1 locs (cells + 1) (slots + N) Q (F0 m (pc + 2) ls (.ref q :: rest))) : W p l e R s m args below meth c H locs cells slots Q (F0 m pc ls (.int k :: rest)) :=
  va_newa (atype := .int) (a0 := (N, .inl (fun _ => 0))) S.1 S.2.1 (S.2.2.2.2 _ hw) rfl hK hP hD hS hA (fun _ => rfl) hk hN hb hcells hslots hdg (fun q cB H1 hK1 hP1 hD1 hS1 => by
    have e := kA0 hK hK1
    subst e
    exact kk q H1 hP1 hD1 hS1)
theorem nwZ (S : CallFix p m c cc nL s args gW own) (hK : KK dg cA s) (hP : PP dg ws H) (hD : va_D A ws) (hS : va_S A H0 H locs) (hA : ∀ q, H0.size ≤ q → A q) (hw : Cond.arrayClass .boolean ∈ gW) {k : Int32} {N : Nat} (hk : ¬ k < 0) (hN : k.toNatClampNeg = N) (hb : N * 1 ≤ 536870912) (hcells : cells + 1 ≤ R.cells) (hslots : slots + N ≤ R.slots) (hdg : decode cc pc = .ok (.newarray .boolean, 2))
    (kk : ∀ (q : Nat) (H1 : Heap), PP dg (ws ++ [(q, .inl (cA 1, N, .inl (fun _ => 0)))]) H1 → va_D A (ws ++ [(q, .inl (cA 1, N, .inl (fun _ => 0)))]) → va_S A H0 H1 locs → W p l e R s m args below meth c H1 locs (cells + 1) (slots + N) Q (F0 m (pc + 2) ls (.ref q :: rest))) : W p l e R s m args below meth c H locs cells slots Q (F0 m pc ls (.int k :: rest)) :=
  va_newa (atype := .boolean) (a0 := (N, .inl (fun _ => 0))) S.1 S.2.1 (S.2.2.2.2 _ hw) rfl hK hP hD hS hA (fun _ => rfl) hk hN hb hcells hslots hdg (fun q cB H1 hK1 hP1 hD1 hS1 => by
    have e := kA1 hK hK1
    subst e
    exact kk q H1 hP1 hD1 hS1)
theorem eNv (S : CallFix p m c cc nL s args gW own) (hr : meth.sig.returnType = none) (hlk : meth.locks = false) (u : Nat → Nat) (hP : PP dg ws H) (hD : va_D A ws) (hS : va_S A s.heap H locs) (hdg : decode cc pc = .ok (.return_, 1)) (hw : ws = ws1 u) : W p l e R s m args below meth c H locs cells slots (MQ below (QcN dg ws1 none A) args s cells slots A) (F0 m pc ls []) := by
  subst hw
  exact W.vret S.1 S.2.1 hr (fun t ht _ => ⟨⟨rfl, u, by rw [ht]; exact hP, hD⟩, hS.F ht⟩) hS.2.2 hdg hlk
theorem eNi (S : CallFix p m c cc nL s args gW own) (hr : meth.sig.returnType = some .int) (hlk : meth.locks = false) (u : Nat → Nat) (hP : PP dg ws H) (hD : va_D A ws) (hS : va_S A s.heap H locs) (hdg : decode cc pc = .ok (.ireturn, 1)) {v x : Int32} (hv : x = v) (hw : ws = ws1 u) : W p l e R s m args below meth c H locs cells slots (MQ below (QcN dg ws1 (some (.int v)) A) args s cells slots A) (F0 m pc ls [.int x]) := by
  subst hv hw
  exact W.iret S.1 S.2.1 hr (fun t ht _ => ⟨⟨rfl, u, by rw [ht]; exact hP, hD⟩, hS.F ht⟩) hS.2.2 hdg hlk
theorem oI0 (S : CallFix p m c cc nL s args gW own) (hw : Cond.methodLink own idx objectInit ∈ gW ∧ Cond.instanceMethod objectInit ∈ gW ∧ Cond.code objectInit ⟨#[0xb1]⟩ 1 none ∈ gW) (hls : ls.size = nL) (hdg : decode cc pc = .ok (.invokespecial idx, 3)) (hf : 1 ≤ R.frames) (hl : (rest.map fun v => v.category).sum + 12 ≤ R.locals)
    (kk : W p l e R s m args below meth c H locs cells slots Q (F0 m (pc + 3) ls rest)) : W p l e R s m args below meth c H locs cells slots Q (F0 m pc ls (.ref b :: rest)) :=
  W.objInit S.1 S.2.1 S.2.2.2.1 (S.2.2.2.2 _ hw.1) (S.2.2.2.2 _ hw.2.1) (S.2.2.2.2 _ hw.2.2) rfl (hls.trans S.2.2.1.symm) rfl hdg hf (by show 2 * 0 + _ + 12 ≤ _; omega) kk
end NB
