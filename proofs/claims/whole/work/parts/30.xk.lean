/-! methods that throw: what they ask, and rows -/
def xN1 : List String := ["java/lang/RuntimeException", "java/lang/Exception"]
def xW : List Cond := lw_tbl.filter (fun w => !goodWord w && (w.onTables && w.keepsFace))
def xS : List (Nat × String) := [(58, "the chance number is out of range"), (68, "there are 4 strata"), (267, "there is no such stratum"), (272, "the place is out of range"), (274, "the language is out of range"), (83, "there are 24 houses"), (94, "the set of languages is out of range"), (96, "the minutes are out of range"), (98, "there are 4 interviewers"), (103, "the number of houses is out of range"), (109, "fewer houses of the stratum are undrawn"), (270, "there is no such interviewer"), (130, "there is no such place in the round"), (292, "there is no such house"), (276, "there is no such outcome"), (278, "the answer is out of range"), (280, "the house is in no round of this day"), (282, "what came of the visit was told already"), (288, "the interviewer is barred"), (189, "the house has no answer that is unchecked"), (201, "the day is 99"), (209, "the house is not wanted"), (290, "the house has not answered"), (249, "the sum of the weights is 0"), (255, "no house was drawn that is not empty")]
def XE (E : String) (ik ic : Nat) : Prop := (∀ w ∈ (vx_atS RX5 ic E xN1).filter goodWord, w ∈ gW) ∧ (∀ w ∈ (vx_atS RX5 ic E xN1).filter (fun w => !goodWord w), w ∈ xW) ∧ (∀ w ∈ Cond.classLink RX5 ik E :: Cond.initialized E :: vx_atS RX5 ic E xN1, vx_ot w = true) ∧ Bundle.fit E = true ∧ Cond.classLink RX5 ik E ∈ gW ∧ Cond.initialized E ∈ gW
theorem xN1_fit : ∀ n ∈ xN1, Bundle.fit n = true := by decide +kernel
theorem xE_w (L : List Cond) (h : (L.filter goodWord).all (fun w => decide (w ∈ lw_tbl)) = true) : ∀ w ∈ L.filter goodWord, w ∈ gW := fun w hw => List.mem_filter.mpr ⟨of_decide_eq_true (List.all_eq_true.mp h w hw), (List.mem_filter.mp hw).2⟩
theorem xE_b (L : List Cond) (h : (L.filter (fun w => !goodWord w)).all (fun w => decide (w ∈ xW)) = true) : ∀ w ∈ L.filter (fun w => !goodWord w), w ∈ xW := fun w hw => of_decide_eq_true (List.all_eq_true.mp h w hw)
theorem x_iae : XE "java/lang/IllegalArgumentException" 56 60 := ⟨xE_w _ (by decide +kernel), xE_b _ (by decide +kernel), by decide +kernel, by decide +kernel, gW_mem 267 (by decide +kernel) (by decide +kernel), gW_mem 50 (by decide +kernel) (by decide +kernel)⟩
theorem x_ise : XE "java/lang/IllegalStateException" 66 70 := ⟨xE_w _ (by decide +kernel), xE_b _ (by decide +kernel), by decide +kernel, by decide +kernel, gW_mem 346 (by decide +kernel) (by decide +kernel), gW_mem 51 (by decide +kernel) (by decide +kernel)⟩
theorem x_are : XE "java/lang/ArithmeticException" 247 251 := ⟨xE_w _ (by decide +kernel), xE_b _ (by decide +kernel), by decide +kernel, by decide +kernel, gW_mem 819 (by decide +kernel) (by decide +kernel), gW_mem 59 (by decide +kernel) (by decide +kernel)⟩
theorem x_ibe : XE "java/lang/IndexOutOfBoundsException" 265 269 := ⟨xE_w _ (by decide +kernel), xE_b _ (by decide +kernel), by decide +kernel, by decide +kernel, gW_mem 397 (by decide +kernel) (by decide +kernel), gW_mem 52 (by decide +kernel) (by decide +kernel)⟩
def CC (U : State) : Prop := ∀ w ∈ xW, w.before #[] U = true
def SS (U : State) : Prop := ∀ q ∈ xS, ∃ a, vk_R RX5 q.1 q.2 a U
def ZZ (U : State) (H : Heap) : Prop := vx_Zq Bundle.tN "UNASSIGNED_STACK" Bundle.steD (fun _ => False) U H ∧ vx_Zq Bundle.tN "SUPPRESSED_SENTINEL" Bundle.listD (fun _ => False) U H ∧ CC U ∧ SS U
theorem xW_ot {w : Cond} (h : w ∈ xW) : w.onTables = true ∧ w.keepsFace = true := by
  have h2 := (List.mem_filter.mp h).2
  simp only [Bool.and_eq_true] at h2
  exact h2.2
theorem CC.moved {u U : State} (hW : u.WarmedH U.vm) (h : CC u) : CC U := fun w hw => va_tabs (xW_ot hw).1 (rfl : (u.setVm U.vm).vm = U.vm) (Cond.rides (args := #[]) hW.wide (xW_ot hw).2 (h w hw))
theorem SS.moved {u U : State} (hW : u.WarmedH U.vm) (h : SS u) : SS U := fun q hq => (h q hq).elim fun a ha => ⟨a, vk_R.warm hW ha⟩
theorem ZZ.moved {u U : State} {H : Heap} (hW : u.WarmedH U.vm) (h : ZZ u H) : ZZ U H := ⟨vx_Zq.moved hW.alike h.1, vx_Zq.moved hW.alike h.2.1, CC.moved hW h.2.2.1, SS.moved hW h.2.2.2⟩
def PcX (dg : va_G) (cA : Nat → ClassId) (ws : va_W) (av : List Value) : Array Value → State → Prop := va_Pc av (fun U => PP dg ws U.heap ∧ KK dg cA U ∧ ZZ U U.heap)
def XCE (dg : va_G) (ws : va_W) (E0 : String) : String → State → State → Prop := fun E st t => E = E0 ∧ PP dg ws t.heap ∧ va_F (fun _ => False) st t
def QcF : Array Value → State → Outcome → State → Prop := fun _ _ _ _ => False
theorem PcX.blind {dg : va_G} {cA : Nat → ClassId} {ws : va_W} {av : List Value} : FrameBlind (PcX dg cA ws av) := fun a U g mk q => ⟨q.1, q.2.1, KK.moved (u := U) (U := U.calling g mk a) (Vm.Alike.refl U.vm) q.2.2.1, ZZ.moved (u := U) (U := U.calling g mk a) (State.WarmedH.refl U) q.2.2.2⟩
abbrev MetX (l : Launch) (dg : va_G) (cA : Nat → ClassId) (y : MethodName) (bytes : ByteArray) (maxL : Nat) (ret : Option FieldType) (rm : Room) (ws : va_W) (av : List Value) (E : String) : Prop := vx_Met l y (wg y bytes maxL ret) rm (PcX dg cA ws av) QcF (XCE dg ws E) 1 6 (fun _ => False)
section GX
variable {l : Launch} {dg : va_G} {cA : Nat → ClassId} {y : MethodName} {bytes : ByteArray} {maxL : Nat} {ret : Option FieldType} {rm : Room} {ws : va_W} {av : List Value} {E : String}
theorem ofX (hy : plainName y.cls = true) (hn : (lg_sl av).length ≤ maxL) {own : String} (ho : y.cls = own)
    (body : ∀ (p : Program) (e : Env) (s : State) (m : MethodId) (args : Array Value) (below : List Frame) (meth : Method) (c : Code) (ls : Array Slot), CallFix p m c bytes maxL s args gW own → meth.locks = false → (∀ x ∈ c.exceptionTable.toList, False) → args = av.toArray → KK dg cA s → ZZ s s.heap → PP dg ws s.heap → lv_has ls maxL (lv_args 0 av) →
      W p l e rm s m args below meth c s.heap [] 0 0 (vx_MQ below QcF (XCE dg ws E) args s 1 6 (fun _ => False)) (F0 m 0 ls [])) : MetX l dg cA y bytes maxL ret rm ws av E := by
  refine vx_ofW hy rfl ?_
  intro p e s m args below meth c s₁ B hml hex hv
  obtain ⟨rfl, hP, hK, hZ⟩ := hv
  have hts : ∀ w ∈ gW, w.before av.toArray s = true := fun w h => atoms_spec (ws := wg y bytes maxL ret) B.pre w (List.mem_cons_of_mem _ h)
  rw [lg_entry_eq]
  exact body p e s m av.toArray below meth c _ ⟨B.exec, B.bytes, hml, ho ▸ findClass_of_methodNamed B.named, hts⟩ B.notSynchronized hex rfl hK hZ hP (lv_entry av hn)
end GX
section GY
variable {p : Program} {l : Launch} {e : Env} {R : Room} {s : State} {m : MethodId} {args : Array Value} {below : List Frame} {meth : Method} {c : Code}
variable {cc : ByteArray} {pc nL : Nat} {ls : Array Slot} {rest st : List Value} {dg : va_G} {cA : Nat → ClassId} {b : Nat} {ws : va_W} {own : String}
variable {idx n maxL : Nat} {C : String} {y : MethodName} {bytes : ByteArray} {ret : Option FieldType} {rm : Room} {As : List Value} {E : String}
theorem xPP {H : Heap} {t : Heap} (hP : PP dg ws H) (h : ∀ q : Nat, q < H.size → t[q]? = H[q]?) : PP dg ws t := by
  refine va_P.kept hP (fun k q hk => h q.1 ?_)
  obtain ⟨a0, z | z⟩ := q
  · have q1 : H[a0]? = some (vp_cell z.1 z.2) := hP k _ hk
    exact (Array.getElem?_eq_some_iff.mp q1).1
  · obtain ⟨r, h1, cell, q1, -⟩ := hP k _ hk
    exact (Array.getElem?_eq_some_iff.mp q1).1
/-- a call that throws -/
theorem cX (S : CallFix p m c cc nL s args gW own) (hex : ∀ x ∈ c.exceptionTable.toList, False) (hlk : meth.locks = false) (hM : MetX l dg cA y bytes maxL ret rm ws (.ref b :: As) E) (F : CV own idx C y bytes maxL ret n) (hR : rm.cells = 1 ∧ rm.slots = 6 ∧ rm.frames + 1 ≤ R.frames ∧ 8 + (maxL + 11) + rm.locals ≤ R.locals) (hK : KK dg cA s) (hZ : ZZ s s.heap) (hP : PP dg ws s.heap) (q0 : Nat) {ci : Nat} {fs : List Value} (he : ws[q0]? = some (b, .inr (ci, fs))) {q : vw_C} (hc : gcl[ci]? = some q) (hC : q.1 = C) (hn : As.length = n) (hls : ls.size = nL) (hst : st = As.reverse ++ .ref b :: rest) (hW : (rest.map fun v => v.category).sum ≤ 8) (hdg : decode cc pc = .ok (.invokevirtual idx, 3)) (hf : 0 + 1 ≤ R.cells ∧ 0 + 6 ≤ R.slots) :
    W p l e R s m args below meth c s.heap [] 0 0 (vx_MQ below QcF (XCE dg ws E) args s 1 6 (fun _ => False)) (F0 m pc ls st) := by
  intro T hT X
  have hr := vx_runV (e := e) (meth := meth) (below := below) (H := s.heap) (locs := []) (cells := 0) (slots := 0) (g := F0 m pc ls st) (rest := rest) S hM (cv_w S.2.2.2.2 F hR) ⟨PcX.blind, by subst hC; exact va_recv hK hP hc he, fun U hU hW => ⟨rfl, by rw [hU]; exact hP, KK.moved hW.alike hK, by rw [hU]; exact ZZ.moved hW hZ⟩⟩ rfl hn hls hst (lv_room (ls := ls) (pc := pc) (m := m) (rest := rest) hW) hdg hf
  rcases hr T hT X with ⟨v, st₀, t, T', L, h0, X', hL, e1, e2, hq, st'⟩ | ⟨q, st₀, t, T', L, E', ce, h0, X', hL, e1, e2, ⟨hE, hPx, hF⟩, hce, hcv, hcl, st'⟩
  · exact hq.elim
  · obtain ⟨t2, a1, b1⟩ := vx_out (p := p) (l := l) (e := e) (R := R) (args := args) (below := below) (locs := [] ++ L) (cells := 0 + 1) (slots := 0 + 6) (m := m) (ls := ls) (rest := rest) (pc := pc) (H := T'.heap) (E := E') (ce := ce) (q := q) (mc := 1) (ms := 6) (free := fun _ => False) (Qc := QcF) (XC := XCE dg ws E)
      (fun x hx => (hex x hx).elim) hlk (by rw [e1]; exact hce) hcv hcl (fun t3 h3 _ => ⟨hE, by rw [h3, e1]; exact hPx, by rw [h3, e1]; rw [← h0]; exact hF.1, fun z hz _ => by rw [h3, e1, ← h0]; exact hF.2 z (by rw [h0]; exact hz) (fun z => z)⟩) (fun z hz => by rcases List.mem_append.mp hz with h | h; exact (List.not_mem_nil h).elim; exact hL z h) (Nat.le_refl _) (Nat.le_refl _) T' rfl X'
    exact ⟨t2, st'.trans a1, b1⟩
theorem xat (S : CallFix p m c cc nL s args gW RX5) (hZ : ZZ s s.heap) {ik ic : Nat} (x : XE E ik ic) : ∀ w ∈ vx_atS RX5 ic E xN1, w.before args s = true := by
  obtain ⟨h1, h2, h3, -⟩ := x
  exact vx_hat (B := xW) (fun w hw => S.2.2.2.2 w (h1 w hw)) h2 (fun w hw => va_tabs (xW_ot hw).1 rfl (hZ.2.2.1 w hw))
theorem thS (S : CallFix p m c cc nL s args gW RX5) (hst : l.stackTraces = false) (hex : ∀ x ∈ c.exceptionTable.toList, False) (hlk : meth.locks = false) (hZ : ZZ s s.heap) (hP : PP dg ws s.heap) {ik ic is : Nat} {text : String} (x : XE E ik ic) (hsr : (is, text) ∈ xS) (hls : ls.size = nL)
    (d0 : decode cc pc = .ok (.new ik, 3)) (d3 : decode cc (pc + 3) = .ok (.dup, 1)) (d4 : decode cc (pc + 4) = .ok (.ldc is, 2)) (d6 : decode cc (pc + 6) = .ok (.invokespecial ic, 3)) (d9 : decode cc (pc + 9) = .ok (.athrow, 1))
    (hR : 5 < R.frames ∧ 82 ≤ R.locals ∧ 1 ≤ R.cells ∧ 6 ≤ R.slots) :
    W p l e R s m args below meth c s.heap [] 0 0 (vx_MQ below QcF (XCE dg ws E) args s 1 6 (fun _ => False)) (F0 m pc ls []) := by
  have hat := xat S hZ x
  obtain ⟨h1, h2, h3, h4, h5, h6⟩ := x
  obtain ⟨a, hvk⟩ := hZ.2.2.2 _ hsr
  exact vx_throwS (A := fun _ => False) (names := xN1) S.1 S.2.1 hst S.2.2.2.1 h4 xN1_fit (S.2.2.2.2 _ h5) (S.2.2.2.2 _ h6) hvk hat h3 hZ.1 hZ.2.1 va_S.rf (hls.trans S.2.2.1.symm) d0 d3 d4 d6 d9 (fun x hx => (hex x hx).elim) hR.1 (Nat.le_trans (by decide) hR.2.1) hR.2.2.1 hR.2.2.2 hlk (fun t _ hz hq => ⟨rfl, xPP hP hq, hz, fun q h _ => hq q h⟩) (fun z hz => (List.not_mem_nil hz).elim) (Nat.le_refl _) (Nat.le_refl _)
theorem thW (S : CallFix p m c cc nL s args gW RX5) (hst : l.stackTraces = false) (hex : ∀ x ∈ c.exceptionTable.toList, False) (hlk : meth.locks = false) (hZ : ZZ s s.heap) (hP : PP dg ws s.heap) {ik ic is : Nat} {text : String} (x : XE E ik ic) (hsr : (is, text) ∈ xS) (hls : ls.size = nL)
    (d0 : decode cc pc = .ok (.new ik, 3)) (d3 : decode cc (pc + 3) = .ok (.dup, 1)) (d4 : decode cc (pc + 4) = .ok (.ldc_w is, 3)) (d7 : decode cc (pc + 7) = .ok (.invokespecial ic, 3)) (d10 : decode cc (pc + 10) = .ok (.athrow, 1))
    (hR : 5 < R.frames ∧ 82 ≤ R.locals ∧ 1 ≤ R.cells ∧ 6 ≤ R.slots) :
    W p l e R s m args below meth c s.heap [] 0 0 (vx_MQ below QcF (XCE dg ws E) args s 1 6 (fun _ => False)) (F0 m pc ls []) := by
  have hat := xat S hZ x
  obtain ⟨h1, h2, h3, h4, h5, h6⟩ := x
  obtain ⟨a, hvk⟩ := hZ.2.2.2 _ hsr
  exact vx_throwSW (A := fun _ => False) (names := xN1) S.1 S.2.1 hst S.2.2.2.1 h4 xN1_fit (S.2.2.2.2 _ h5) (S.2.2.2.2 _ h6) hvk hat h3 hZ.1 hZ.2.1 va_S.rf (hls.trans S.2.2.1.symm) d0 d3 d4 d7 d10 (fun x hx => (hex x hx).elim) hR.1 (Nat.le_trans (by decide) hR.2.1) hR.2.2.1 hR.2.2.2 hlk (fun t _ hz hq => ⟨rfl, xPP hP hq, hz, fun q h _ => hq q h⟩) (fun z hz => (List.not_mem_nil hz).elim) (Nat.le_refl _) (Nat.le_refl _)
end GY
theorem i32_3lt {x : Int32} (h : x < 3) : ¬ 2 < x := by
  rw [Int32.lt_iff_toInt_lt] at *
  have e2 : (2 : Int32).toInt = 2 := by decide
  have e3 : (3 : Int32).toInt = 3 := by decide
  omega
