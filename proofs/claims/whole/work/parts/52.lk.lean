/-! the law's rows: calls on a part of the world, methods with handlers -/
theorem PPm {dg : va_G} {ws : va_W} {H : Heap} (h : PP dg ws H) {q : Nat × va_E} (hq : q ∈ ws) : va_at dg gcl q H := by
  obtain ⟨k, hk⟩ := List.getElem?_of_mem hq
  exact h k q hk
theorem PPi {dg : va_G} {ws : va_W} {H : Heap} (h : ∀ q ∈ ws, va_at dg gcl q H) : PP dg ws H := fun k q hk => h q (List.mem_of_getElem? hk)
theorem PP_l {dg : va_G} {X Y : va_W} {H : Heap} (h : PP dg (X ++ Y) H) : PP dg X H := PPi fun _ hq => PPm h (List.mem_append_left _ hq)
theorem PP_r {dg : va_G} {X Y : va_W} {H : Heap} (h : PP dg (X ++ Y) H) : PP dg Y H := PPi fun _ hq => PPm h (List.mem_append_right _ hq)
theorem D_l {A : Nat → Prop} {X Y : va_W} (h : va_D A (X ++ Y)) : va_D A X := by
  obtain ⟨h1, h2⟩ := va_D_iff.mp h
  rw [List.map_append, List.nodup_append] at h1
  exact va_D_iff.mpr ⟨h1.1, fun q hq => h2 q (List.mem_append_left _ hq)⟩
theorem fr_join {dg : va_G} {A : Nat → Prop} {X Y X1 : va_W} {H H1 : Heap} (hP : PP dg (X ++ Y) H) (hD : va_D A (X ++ Y)) (hA : ∀ q, va_A X H.size q → A q) (hP1 : PP dg X1 H1) (hD1 : va_D (va_A X H.size) X1) (hF : ∀ q : Nat, q < H.size → ¬ va_A X H.size q → H1[q]? = H[q]?) : PP dg (X1 ++ Y) H1 ∧ va_D A (X1 ++ Y) := by
  obtain ⟨h1, h2⟩ := va_D_iff.mp hD
  obtain ⟨h3, h4⟩ := va_D_iff.mp hD1
  rw [List.map_append, List.nodup_append] at h1
  have apart : ∀ y ∈ Y, y.1 < H.size ∧ ¬ va_A X H.size y.1 := fun y hy => by
    have hl := (PPm hP (List.mem_append_right _ hy)).lt
    refine ⟨hl, fun q => ?_⟩
    rcases q with ⟨k, e, q⟩ | q
    · exact h1.2.2 y.1 (List.mem_map.mpr ⟨(y.1, e), List.mem_of_getElem? q, rfl⟩) y.1 (List.mem_map.mpr ⟨y, hy, rfl⟩) rfl
    · omega
  refine ⟨PPi fun q hq => ?_, va_D_iff.mpr ⟨?_, fun q hq => ?_⟩⟩
  · rcases List.mem_append.mp hq with h | h
    · exact PPm hP1 h
    · obtain ⟨a, b⟩ := apart q h
      exact (PPm hP (List.mem_append_right _ h)).kept (hF q.1 a b)
  · rw [List.map_append, List.nodup_append]
    refine ⟨h3, h1.2.1, fun a ha b hb e => ?_⟩
    obtain ⟨x, hx, rfl⟩ := List.mem_map.mp ha
    obtain ⟨y, hy, rfl⟩ := List.mem_map.mp hb
    exact (apart y hy).2 (e ▸ h4 x hx)
  · rcases List.mem_append.mp hq with h | h
    · exact hA _ (h4 q h)
    · exact h2 q (List.mem_append_right _ h)
/-- contracts made alike -/
theorem Met.ofR {l : Launch} {dg : va_G} {cA : Nat → ClassId} {y : MethodName} {bytes : ByteArray} {maxL : Nat} {ret : Option FieldType} {rm : Room} {ws : va_W} {av : List Value} {v : Option Value} (h : MetR l dg cA y bytes maxL ret rm ws av v) (sz : Nat) : MetN l dg cA y bytes maxL ret rm 0 0 ws sz av (fun _ => ws) v := by
  intro p e ha hc hk s m args below hf happ hP ht
  obtain ⟨k, o, h1, h2, h3, hQ, L, hE, hL⟩ := h p e ha hc hk s m args below hf happ ⟨hP.1, hP.2.2.1, hP.2.2.2.1⟩ ht
  refine ⟨k, o, h1, h2, h3, ⟨⟨hQ.1, fun _ => 0, by rw [hQ.2]; exact hP.2.2.1, hP.2.2.2.2.self⟩, by rw [hQ.2]; exact Nat.le_refl _, fun q _ _ => by rw [hQ.2]⟩, L, hE, fun q hq => (hL q hq).elim⟩
theorem Met.ofM {l : Launch} {dg : va_G} {cA : Nat → ClassId} {y : MethodName} {bytes : ByteArray} {maxL : Nat} {ret : Option FieldType} {rm : Room} {mc ms : Nat} {ws ws1 : va_W} {av : List Value} {v : Option Value} {sz : Nat} (h : MetM l dg cA y bytes maxL ret rm mc ms ws sz av ws1 v) : MetN l dg cA y bytes maxL ret rm mc ms ws sz av (fun _ => ws1) v := by
  intro p e ha hc hk s m args below hf happ hP ht
  obtain ⟨k, o, h1, h2, h3, hQ, L, hE, hL⟩ := h p e ha hc hk s m args below hf happ hP ht
  exact ⟨k, o, h1, h2, h3, ⟨⟨hQ.1.1, fun _ => 0, hQ.1.2.1, hQ.1.2.2⟩, hQ.2⟩, L, hE, hL⟩
section LA
variable {p : Program} {l : Launch} {e : Env} {R : Room} {s : State} {m : MethodId} {args : Array Value} {below : List Frame} {meth : Method} {c : Code} {H : Heap} {locs : List Loc} {cells slots : Nat} {Q : State → Prop}
variable {cc : ByteArray} {pc nL : Nat} {ls : Array Slot} {rest st st1 : List Value} {dg : va_G} {cA : Nat → ClassId} {A : Nat → Prop} {b : Nat} {X Y : va_W} {ws1 : (Nat → Nat) → va_W} {H0 : Heap} {own : String}
variable {idx n maxL mc ms : Nat} {C : String} {y : MethodName} {bytes : ByteArray} {ret : Option FieldType} {rm : Room} {As : List Value} {v : Option Value}
theorem A_l (hD : va_D A (X ++ Y)) (hS : va_S A H0 H locs) (hA : ∀ q, H0.size ≤ q → A q) : ∀ q, va_A X H.size q → A q := va_A.sub (D_l hD) hS hA
theorem runNF {aa : Array Value} (hr : va_Run p l e R s m args below meth c H locs cells slots mc ms (F0 m pc ls st) rest (QcN dg ws1 v (va_A X H.size) aa) (va_A X H.size)) (hP : PP dg (X ++ Y) H) (hD : va_D A (X ++ Y)) (hS : va_S A H0 H locs) (hA : ∀ q, H0.size ≤ q → A q) (hst1 : v.toList ++ rest = st1)
    (kk : ∀ (u : Nat → Nat) (H1 : Heap) (locs1 : List Loc), PP dg (ws1 u ++ Y) H1 → va_D A (ws1 u ++ Y) → va_S A H0 H1 locs1 → W p l e R s m args below meth c H1 locs1 (cells + mc) (slots + ms) Q (F0 m (pc + 3) ls st1)) : W p l e R s m args below meth c H locs cells slots Q (F0 m pc ls st) := by
  intro T hT Z
  obtain ⟨v', st₀, t, T', L, h0, Z', hL, e1, e2, ⟨⟨hv, u, hp, hd⟩, hF⟩, st⟩ := hr T hT Z
  cases hv
  subst hst1
  have hA1 := A_l hD hS hA
  obtain ⟨k1, k2, k3⟩ := vx_keep h0 e1 hS (fun q _ h => hA1 q h) hA1 hL hF
  obtain ⟨j1, j2⟩ := fr_join hP hD hA1 (by rw [e1]; exact hp) hd k2
  obtain ⟨t2, a1, b1⟩ := kk u T'.heap (locs ++ L) j1 j2 k3 T' rfl Z'
  exact ⟨t2, st t2 a1, b1⟩
/-- a call of an object's method over its part of the world -/
theorem cNF (S : CallFix p m c cc nL s args gW own) (hM : MetN l dg cA y bytes maxL ret rm mc ms X H.size (.ref b :: As) ws1 v) (F : CV own idx C y bytes maxL ret n) (hR : rm.cells = mc ∧ rm.slots = ms ∧ rm.frames + 1 ≤ R.frames ∧ 8 + (maxL + 11) + rm.locals ≤ R.locals) (hK : KK dg cA s) (hP : PP dg (X ++ Y) H) (hD : va_D A (X ++ Y)) (hS : va_S A H0 H locs) (hA : ∀ q, H0.size ≤ q → A q) (q0 : Nat) {ci : Nat} {fs : List Value} (he : X[q0]? = some (b, .inr (ci, fs))) {q : vw_C} (hc : gcl[ci]? = some q) (hC : q.1 = C) (hn : As.length = n) (hls : ls.size = nL) (hst : st = As.reverse ++ .ref b :: rest) (hW : (rest.map fun v => v.category).sum ≤ 8) (hdg : decode cc pc = .ok (.invokevirtual idx, 3)) (hf : cells + mc ≤ R.cells ∧ slots + ms ≤ R.slots) (hst1 : v.toList ++ rest = st1)
    (kk : ∀ (u : Nat → Nat) (H1 : Heap) (locs1 : List Loc), PP dg (ws1 u ++ Y) H1 → va_D A (ws1 u ++ Y) → va_S A H0 H1 locs1 → W p l e R s m args below meth c H1 locs1 (cells + mc) (slots + ms) Q (F0 m (pc + 3) ls st1)) : W p l e R s m args below meth c H locs cells slots Q (F0 m pc ls st) :=
  runNF (va_runV S hM (cv_w S.2.2.2.2 F hR) ⟨PcM.blind, by subst hC; exact va_recv hK (PP_l hP) hc he, fun U hU hW => ⟨rfl, by rw [hU], by rw [hU]; exact PP_l hP, KK.moved hW.alike hK, (D_l hD).weaken (fun _ _ _ _ => trivial)⟩⟩ rfl hn hls hst (lv_room (ls := ls) (pc := pc) (m := m) (rest := rest) hW) hdg hf) hP hD hS hA hst1 kk
/-- .. which throws -/
theorem cXF {rmx : Room} {E : String} (S : CallFix p m c cc nL s args gW own) (hM : MetX l dg cA y bytes maxL ret rmx X (.ref b :: As) E) (F : CV own idx C y bytes maxL ret n) (hR : rmx.cells = 1 ∧ rmx.slots = 6 ∧ rmx.frames + 1 ≤ R.frames ∧ 8 + (maxL + 11) + rmx.locals ≤ R.locals) (hK : KK dg cA s) (hZ : ZZ s s.heap) (hP : PP dg (X ++ Y) s.heap) (q0 : Nat) {ci : Nat} {fs : List Value} (he : X[q0]? = some (b, .inr (ci, fs))) {q : vw_C} (hc : gcl[ci]? = some q) (hC : q.1 = C) (hn : As.length = n) (hls : ls.size = nL) (hst : st = As.reverse ++ .ref b :: rest) (hW : (rest.map fun v => v.category).sum ≤ 8) (hdg : decode cc pc = .ok (.invokevirtual idx, 3)) (hf : 0 + 1 ≤ R.cells ∧ 0 + 6 ≤ R.slots)
    (kk : ∀ (q : Addr) (ce : Cell) (H1 : Heap) (locs1 : List Loc), PP dg (X ++ Y) H1 → va_S A s.heap H1 locs1 → H1[q]? = some ce → ce.vm = .none → s.vm.findClass E = some ce.cls → vx_W p l e R s m args below meth c H1 locs1 1 6 Q (F0 m pc ls rest) q) : W p l e R s m args below meth c s.heap [] 0 0 Q (F0 m pc ls st) := by
  intro T hT Z
  have hr := vx_runV (e := e) (meth := meth) (below := below) (H := s.heap) (locs := []) (cells := 0) (slots := 0) (g := F0 m pc ls st) (rest := rest) S hM (cv_w S.2.2.2.2 F hR) ⟨PcX.blind, by subst hC; exact va_recv hK (PP_l hP) hc he, fun U hU hW => ⟨rfl, by rw [hU]; exact PP_l hP, KK.moved hW.alike hK, by rw [hU]; exact ZZ.moved hW hZ⟩⟩ rfl hn hls hst (lv_room (ls := ls) (pc := pc) (m := m) (rest := rest) hW) hdg hf
  rcases hr T hT Z with ⟨v, st₀, t, T', L, h0, Z', hL, e1, e2, hq, st'⟩ | ⟨q, st₀, t, T', L, E', ce, h0, Z', hL, e1, e2, ⟨hE, hPx, hF⟩, hce, hcv, hcl, st'⟩
  · exact hq.elim
  · cases hE
    have hk : ∀ z : Nat, z < s.heap.size → T'.heap[z]? = s.heap[z]? := fun z hz => by
      rw [e1, ← h0]
      exact hF.2 z (by rw [h0]; exact hz) (fun z => z)
    have hsz : s.heap.size ≤ T'.heap.size := by rw [e1, ← h0]; exact hF.1
    obtain ⟨t2, a1, b1⟩ := kk q ce T'.heap ([] ++ L) (xPP hP hk) ⟨hsz, fun z hz _ => hk z hz, fun z hz => by
      rcases List.mem_append.mp hz with h | h
      · exact (List.not_mem_nil h).elim
      · exact (hL z h).elim⟩ (by rw [e1]; exact hce) hcv hcl T' rfl Z'
    exact ⟨t2, st'.trans a1, b1⟩
end LA
/-! methods with handlers -/
def NCC (U : State) : Prop := va_Nc "java/lang/IllegalArgumentException" "java/lang/IndexOutOfBoundsException" U ∧ va_Nc "java/lang/IllegalStateException" "java/lang/IndexOutOfBoundsException" U ∧ va_Nc "java/lang/IllegalStateException" "java/lang/IllegalArgumentException" U ∧ va_Nc "java/util/NoSuchElementException" "java/lang/IndexOutOfBoundsException" U
theorem NCC.moved {u U : State} (hvm : u.vm.Alike U.vm) (h : NCC u) : NCC U := ⟨va_Nc.moved hvm h.1, va_Nc.moved hvm h.2.1, va_Nc.moved hvm h.2.2.1, va_Nc.moved hvm h.2.2.2⟩
def PcZ (dg : va_G) (cA : Nat → ClassId) (ws : va_W) (sz : Nat) (av : List Value) : Array Value → State → Prop := va_Pc av (fun U => U.heap.size = sz ∧ PP dg ws U.heap ∧ KK dg cA U ∧ va_D (fun _ => True) ws ∧ ZZ U U.heap ∧ NCC U)
theorem PcZ.blind {dg : va_G} {cA : Nat → ClassId} {ws : va_W} {sz : Nat} {av : List Value} : FrameBlind (PcZ dg cA ws sz av) := fun a U g mk q => ⟨q.1, q.2.1, q.2.2.1, KK.moved (u := U) (U := U.calling g mk a) (Vm.Alike.refl U.vm) q.2.2.2.1, q.2.2.2.2.1, ZZ.moved (u := U) (U := U.calling g mk a) (State.WarmedH.refl U) q.2.2.2.2.2.1, NCC.moved (u := U) (U := U.calling g mk a) (Vm.Alike.refl U.vm) q.2.2.2.2.2.2⟩
abbrev MetZ (l : Launch) (dg : va_G) (cA : Nat → ClassId) (y : MethodName) (bytes : ByteArray) (maxL : Nat) (hh : List (Nat × Nat × Nat × Nat)) (rm : Room) (mc ms : Nat) (ws : va_W) (sz : Nat) (av : List Value) (ws1 : (Nat → Nat) → va_W) (k : Int32) : Prop := Met l y (Cond.codeWith y bytes maxL (some .int) hh :: gW) rm (PcZ dg cA ws sz av) (QcN dg ws1 (some (.int k)) (va_A ws sz)) mc ms (va_A ws sz)
def CSW (own : String) (idx : Nat) (y : MethodName) (bytes : ByteArray) (maxL : Nat) (hh : List (Nat × Nat × Nat × Nat)) (n : Nat) : Prop :=
  Cond.methodLink own idx y ∈ gW ∧ Cond.static y ∈ gW ∧ Cond.initialized own ∈ gW ∧ Cond.codeWith y bytes maxL (some .int) hh ∈ gW ∧ y.cls = own ∧ y.cls ≠ "java/lang/invoke/MethodHandle" ∧ y.cls ≠ "java/lang/invoke/VarHandle" ∧ (parseMethodDescriptor y.desc).map (fun d => d.parameters.length) = some n
section LB
variable {l : Launch} {dg : va_G} {cA : Nat → ClassId} {y : MethodName} {bytes : ByteArray} {maxL : Nat} {hh : List (Nat × Nat × Nat × Nat)} {rm : Room} {ws : va_W} {ws1 : (Nat → Nat) → va_W} {av : List Value} {k : Int32} {sz mc ms : Nat}
theorem ofZ (hy : plainName y.cls = true) (hn : (lg_sl av).length ≤ maxL) {own : String} (ho : y.cls = own)
    (body : ∀ (p : Program) (e : Env) (s : State) (m : MethodId) (args : Array Value) (below : List Frame) (meth : Method) (c : Code) (ls : Array Slot) (A : Nat → Prop), va_A ws s.heap.size = A → CallFix p m c bytes maxL s args gW own → meth.sig.returnType = some .int → meth.locks = false → c.exceptionTable.toList = tableOf hh → KK dg cA s → ZZ s s.heap → NCC s → PP dg ws s.heap → va_D A ws → va_S A s.heap s.heap [] → (∀ q : Nat, s.heap.size ≤ q → A q) → s.heap.size = sz → lv_has ls maxL (lv_args 0 av) →
      W p l e rm s m args below meth c s.heap [] 0 0 (MQ below (QcN dg ws1 (some (.int k)) A) args s mc ms A) (F0 m 0 ls [])) : MetZ l dg cA y bytes maxL hh rm mc ms ws sz av ws1 k := by
  refine va_MetW hy rfl ?_
  intro p e s m args below meth c s₁ B hml hv
  obtain ⟨rfl, hsz, hP, hK, hD0, hZ, hN⟩ := hv
  have hall := atoms_spec (ws := Cond.codeWith y bytes maxL (some .int) hh :: gW) B.pre
  have hts : ∀ w ∈ gW, w.before av.toArray s = true := fun w h => hall w (List.mem_cons_of_mem _ h)
  have htab := vx_table (x := y) B (hall _ List.mem_cons_self)
  subst hsz
  rw [lg_entry_eq]
  exact body p e s m av.toArray below meth c _ _ rfl ⟨B.exec, B.bytes, hml, ho ▸ findClass_of_methodNamed B.named, hts⟩ B.returns B.notSynchronized htab hK hZ hN hP (hD0.self (sz := s.heap.size)) va_S.rf (fun q h => Or.inr h) rfl (lv_entry av hn)
end LB
section LC
variable {p : Program} {l : Launch} {e : Env} {R : Room} {s : State} {m : MethodId} {args : Array Value} {below : List Frame} {meth : Method} {c : Code} {H : Heap} {locs : List Loc} {cells slots : Nat} {Q : State → Prop}
variable {cc : ByteArray} {pc nL : Nat} {ls : Array Slot} {rest st st1 : List Value} {dg : va_G} {cA : Nat → ClassId} {A : Nat → Prop} {b : Nat} {X Y : va_W} {ws1 : (Nat → Nat) → va_W} {H0 : Heap} {own : String}
variable {idx n maxL mc ms : Nat} {C : String} {y : MethodName} {bytes : ByteArray} {hh : List (Nat × Nat × Nat × Nat)} {rm : Room} {As : List Value} {k : Int32}
/-- a static method with handlers is called -/
theorem cZF (S : CallFix p m c cc nL s args gW own) (hM : MetZ l dg cA y bytes maxL hh rm mc ms X H.size As ws1 k) (F : CSW own idx y bytes maxL hh n) (hR : rm.cells = mc ∧ rm.slots = ms ∧ rm.frames + 1 ≤ R.frames ∧ 8 + (maxL + 11) + rm.locals ≤ R.locals) (hK : KK dg cA s) (hZ : ∀ U : State, U.heap = H → s.WarmedH U.vm → ZZ U U.heap) (hN : NCC s) (hP : PP dg (X ++ Y) H) (hD : va_D A (X ++ Y)) (hS : va_S A H0 H locs) (hA : ∀ q, H0.size ≤ q → A q) (hn : As.length = n) (hls : ls.size = nL) (hst : st = As.reverse ++ rest) (hW : (rest.map fun v => v.category).sum ≤ 8) (hdg : decode cc pc = .ok (.invokestatic idx, 3)) (hf : cells + mc ≤ R.cells ∧ slots + ms ≤ R.slots) (hst1 : .int k :: rest = st1)
    (kk : ∀ (u : Nat → Nat) (H1 : Heap) (locs1 : List Loc), PP dg (ws1 u ++ Y) H1 → va_D A (ws1 u ++ Y) → va_S A H0 H1 locs1 → W p l e R s m args below meth c H1 locs1 (cells + mc) (slots + ms) Q (F0 m (pc + 3) ls st1)) : W p l e R s m args below meth c H locs cells slots Q (F0 m pc ls st) := by
  obtain ⟨f1, f2, f3, f4, f5, f6, f7, f8⟩ := F
  have hT : GoodIn gW (va_wsS own idx y (Cond.codeWith y bytes maxL (some .int) hh :: gW)) := fun w hw => by
    rcases List.mem_append.mp hw with hw | hw
    · simp only [List.mem_cons, List.not_mem_nil, or_false] at hw
      rcases hw with rfl | rfl | rfl
      · exact gI_one f1
      · exact gI_one f2
      · exact gI_one (f5 ▸ f3)
    · exact gI_all f4 w hw
  exact runNF (vx_runSW S hM (vx_cwSW n S.2.2.2.2 hT rfl hR.1 hR.2.1 ⟨f6, f7, f8⟩ hR.2.2) ⟨PcZ.blind, fun U hU hW => ⟨rfl, by rw [hU], by rw [hU]; exact PP_l hP, KK.moved hW.alike hK, (D_l hD).weaken (fun _ _ _ _ => trivial), hZ U hU hW, NCC.moved hW.alike hN⟩⟩ rfl hn hls hst (lv_room (ls := ls) (pc := pc) (m := m) (rest := rest) hW) hdg hf) hP hD hS hA (v := some (.int k)) hst1 kk
/-- words that the tables alone decide -/
theorem cc_word {U : State} {w : Cond} (h : CC U) (hw : w ∈ xW) : w.before args U = true := va_tabs (xW_ot hw).1 (rfl : U.vm = U.vm) (h w hw)
end LC
