/-! the law's body: its world, its rows -/
def ZL (A : Nat → Prop) (s : State) : Prop := vx_Zq Bundle.tN "UNASSIGNED_STACK" Bundle.steD A s s.heap ∧ vx_Zq Bundle.tN "SUPPRESSED_SENTINEL" Bundle.listD A s s.heap ∧ CC s ∧ SS s
theorem ZL.at {A : Nat → Prop} {s : State} {H : Heap} {locs : List Loc} (h : ZL A s) (hS : va_S A s.heap H locs) : ∀ U : State, U.heap = H → s.WarmedH U.vm → ZZ U U.heap := fun U hU hW => by
  rw [hU]
  refine ⟨?_, ?_, CC.moved hW h.2.2.1, SS.moved hW h.2.2.2⟩
  · exact vx_Zq.moved hW.alike (vx_Zq.narrow (vx_Zq.kept h.1 hS.2.1) (fun _ q => q.elim))
  · exact vx_Zq.moved hW.alike (vx_Zq.narrow (vx_Zq.kept h.2.1 hS.2.1) (fun _ q => q.elim))
def LW (cA : Nat → ClassId) (u ad : Nat → Nat) (o od n ni : Nat) (c r : St) (f : Nat → Int64) (g : Nat → UInt64) : va_W := cw cA u n ni c ++ (lo cA o f :: ld cA od g :: mw cA ad r)
abbrev lL (b a0 m0 o od : Nat) (i : Int32) : List (Nat × Value) := [(0, .ref b), (1, .ref a0), (2, .ref m0), (3, .ref o), (4, .ref od), (5, .int i)]
def LC (p : Program) (l : Launch) (dg : va_G) (cA : Nat → ClassId) (s : State) (m : MethodId) (c : Code) (args : Array Value) (A : Nat → Prop) (b L : Nat) (xs : Nat → Int32) : Prop := CallFix p m c cL_law 9 s args gW RL ∧ KK dg cA s ∧ NCC s ∧ ZL A s ∧ (va_X b L xs s s.heap ∧ b < s.heap.size ∧ ¬ A b) ∧ (∀ q : Nat, s.heap.size ≤ q → A q) ∧ l.stackTraces = false
def KN (p : Program) (l : Launch) (e : Env) (s : State) (m : MethodId) (args : Array Value) (below : List Frame) (meth : Method) (c : Code) (Q : State → Prop) (dg : va_G) (cA : Nat → ClassId) (A : Nat → Prop) (b a0 : Nat) (ad : Nat → Nat) (o od k : Nat) : Prop :=
  ∀ (u : Nat → Nat) (n ni ns hs : Nat) (cs r : St) (f : Nat → Int64) (g : Nat → UInt64) (H : Heap) (locs : List Loc) (cells slots : Nat) (ls : Array Slot), u 0 = a0 → Rel cs r n ni ns hs → hs ≤ k + 1 → PP dg (LW cA u ad o od n ni cs r f g) H → va_D A (LW cA u ad o od n ni cs r f g) → va_S A s.heap H locs → lv_has ls 9 (lL b a0 (ad 0) o od (nI (4 * k))) → cells ≤ 60 + 8 * (k + 1) → slots ≤ 2000 + 100 * (k + 1) → W p l e room_1 s m args below meth c H locs cells slots Q (F0 m 1604 ls [])
theorem lw_lo {cA : Nat → ClassId} {u ad : Nat → Nat} {o od n ni : Nat} {c r : St} {f : Nat → Int64} {g : Nat → UInt64} : (LW cA u ad o od n ni c r f g)[(cw cA u n ni c).length]? = some (o, .inl (cA 4, 1, .inr (.inl f))) := by
  unfold LW
  rw [List.getElem?_append_right (Nat.le_refl _), Nat.sub_self]
  rfl
theorem lw_ld {cA : Nat → ClassId} {u ad : Nat → Nat} {o od n ni : Nat} {c r : St} {f : Nat → Int64} {g : Nat → UInt64} : (LW cA u ad o od n ni c r f g)[(cw cA u n ni c).length + 1]? = some (od, .inl (cA 5, 1, .inr (.inr (.inr (.inl g))))) := by
  unfold LW
  rw [List.getElem?_append_right (by omega), show (cw cA u n ni c).length + 1 - (cw cA u n ni c).length = 1 by omega]
  rfl
theorem lw_pO {cA : Nat → ClassId} {u ad : Nat → Nat} {o od n ni : Nat} {c r : St} {f : Nat → Int64} {g : Nat → UInt64} : (cw cA u n ni c ++ [lo cA o f]) ++ (ld cA od g :: mw cA ad r) = LW cA u ad o od n ni c r f g := by
  unfold LW
  rw [List.append_assoc]
  rfl
theorem lw_pD {cA : Nat → ClassId} {u ad : Nat → Nat} {o od n ni : Nat} {c r : St} {f : Nat → Int64} {g : Nat → UInt64} : ((cw cA u n ni c ++ [ld cA od g]) ++ (lo cA o f :: mw cA ad r)).Perm (LW cA u ad o od n ni c r f g) := by
  unfold LW
  rw [List.append_assoc]
  exact List.Perm.append_left _ (List.Perm.swap _ _ _)
theorem lw_pM {cA : Nat → ClassId} {u ad : Nat → Nat} {o od n ni : Nat} {c r : St} {f : Nat → Int64} {g : Nat → UInt64} : (mw cA ad r ++ (cw cA u n ni c ++ [lo cA o f, ld cA od g])).Perm (LW cA u ad o od n ni c r f g) := by
  unfold LW
  refine List.perm_append_comm.trans ?_
  rw [List.append_assoc]
  exact List.Perm.refl _
section LF
variable {p : Program} {l : Launch} {e : Env} {s : State} {m : MethodId} {args : Array Value} {below : List Frame} {meth : Method} {c : Code} {H : Heap} {locs : List Loc} {cells slots : Nat} {Q : State → Prop}
variable {pc : Nat} {ls : Array Slot} {rest st st1 : List Value} {dg : va_G} {cA : Nat → ClassId} {A : Nat → Prop} {b L : Nat} {xs : Nat → Int32}
variable {idx nn maxL mc ms : Nat} {y : MethodName} {bytes : ByteArray} {ret : Option FieldType} {rm : Room} {As : List Value} {v : Option Value}
variable {u ad : Nat → Nat} {o od n ni n' ni' : Nat} {cs cs' r r' : St} {f f' : Nat → Int64} {g g' : Nat → UInt64} {k : Int32} {hh : List (Nat × Nat × Nat × Nat)}
theorem sldk (C : LC p l dg cA s m c args A b L xs) (hS : va_S A s.heap H locs) {j : Nat} (hj : j < L) (hL : L ≤ 2048) (hdg : decode cL_law pc = .ok (.iaload, 1))
    (kk : W p l e room_1 s m args below meth c H locs cells slots Q (F0 m (pc + 1) ls (.int (xs j) :: rest))) : W p l e room_1 s m args below meth c H locs cells slots Q (F0 m pc ls (.int (nI j) :: .ref b :: rest)) := by
  refine va_sld C.1.1 C.1.2.1 C.2.2.2.2.1.1 C.2.2.2.2.1.2.1 C.2.2.2.2.1.2.2 hS (vp_in_nI hj (by omega)) hdg ?_
  rw [nI_clamp (by omega)]
  exact kk
theorem lwZ (C : LC p l dg cA s m c args A b L xs) (hM : ∀ sz, MetZ l dg cA y bytes maxL hh ({ frames := 9, cells := mc, slots := ms, locals := 250 } : Room) mc ms (cw cA u n ni cs ++ [lo cA o f]) sz As (fun z => cw cA (fixz (u 0) z) n' ni' cs' ++ [lo cA o f']) k) (F : CSW RL idx y bytes maxL hh nn) (hmx : maxL ≤ 10) (hmc : mc ≤ 2) (hms : ms ≤ 40) (hce : cells ≤ 600000) (hsl : slots ≤ 7000000) (hP : PP dg (LW cA u ad o od n ni cs r f g) H) (hD : va_D A (LW cA u ad o od n ni cs r f g)) (hS : va_S A s.heap H locs) (hn : As.length = nn) (hls : ls.size = 9) (hst : st = As.reverse ++ rest) (hW : (rest.map fun v => v.category).sum ≤ 8) (hdg : decode cL_law pc = .ok (.invokestatic idx, 3))
    (kk : ∀ (z : Nat → Nat) (H1 : Heap) (locs1 : List Loc), PP dg (LW cA (fixz (u 0) z) ad o od n' ni' cs' r f' g) H1 → va_D A (LW cA (fixz (u 0) z) ad o od n' ni' cs' r f' g) → va_S A s.heap H1 locs1 → W p l e room_1 s m args below meth c H1 locs1 (cells + mc) (slots + ms) Q (F0 m (pc + 3) ls (.int k :: rest))) : W p l e room_1 s m args below meth c H locs cells slots Q (F0 m pc ls st) := by
  rw [← lw_pO] at hP hD
  refine cZF C.1 (hM _) F ⟨rfl, rfl, Nat.le_of_ble_eq_true rfl, by show 8 + (maxL + 11) + 250 ≤ 10828; omega⟩ C.2.1 (C.2.2.2.1.at hS) C.2.2.1 hP hD hS C.2.2.2.2.2.1 hn hls hst hW hdg ⟨by show cells + mc ≤ 603072; omega, by show slots + ms ≤ 7202922; omega⟩ rfl (fun z H1 locs1 hP hD hS => ?_)
  rw [lw_pO] at hP hD
  exact kk z H1 locs1 hP hD hS
theorem lwD (C : LC p l dg cA s m c args A b L xs) (hM : ∀ sz, MetZ l dg cA y bytes maxL hh ({ frames := 9, cells := mc, slots := ms, locals := 250 } : Room) mc ms (cw cA u n ni cs ++ [ld cA od g]) sz As (fun z => cw cA (fixz (u 0) z) n' ni' cs' ++ [ld cA od g']) k) (F : CSW RL idx y bytes maxL hh nn) (hmx : maxL ≤ 10) (hmc : mc ≤ 2) (hms : ms ≤ 40) (hce : cells ≤ 600000) (hsl : slots ≤ 7000000) (hP : PP dg (LW cA u ad o od n ni cs r f g) H) (hD : va_D A (LW cA u ad o od n ni cs r f g)) (hS : va_S A s.heap H locs) (hn : As.length = nn) (hls : ls.size = 9) (hst : st = As.reverse ++ rest) (hW : (rest.map fun v => v.category).sum ≤ 8) (hdg : decode cL_law pc = .ok (.invokestatic idx, 3))
    (kk : ∀ (z : Nat → Nat) (H1 : Heap) (locs1 : List Loc), PP dg (LW cA (fixz (u 0) z) ad o od n' ni' cs' r f g') H1 → va_D A (LW cA (fixz (u 0) z) ad o od n' ni' cs' r f g') → va_S A s.heap H1 locs1 → W p l e room_1 s m args below meth c H1 locs1 (cells + mc) (slots + ms) Q (F0 m (pc + 3) ls (.int k :: rest))) : W p l e room_1 s m args below meth c H locs cells slots Q (F0 m pc ls st) :=
  cZF C.1 (hM _) F ⟨rfl, rfl, Nat.le_of_ble_eq_true rfl, by show 8 + (maxL + 11) + 250 ≤ 10828; omega⟩ C.2.1 (C.2.2.2.1.at hS) C.2.2.1 (pPP lw_pD hP) (pD lw_pD hD) hS C.2.2.2.2.2.1 hn hls hst hW hdg ⟨by show cells + mc ≤ 603072; omega, by show slots + ms ≤ 7202922; omega⟩ rfl (fun z H1 locs1 hP hD hS => kk z H1 locs1 (pPP lw_pD.symm hP) (pD lw_pD.symm hD) hS)
theorem lwM (C : LC p l dg cA s m c args A b L xs) (hM : ∀ sz, MetN l dg cA y bytes maxL ret rm 0 0 (mw cA ad r) sz (.ref (ad 0) :: As) (fun _ => mw cA ad r') v) (F : CV RL idx RX6 y bytes maxL ret nn) (hR : rm.cells = 0 ∧ rm.slots = 0 ∧ rm.frames ≤ 9 ∧ rm.locals ≤ 250) (hmx : maxL ≤ 10) (hce : cells ≤ 600000) (hsl : slots ≤ 7000000) (hP : PP dg (LW cA u ad o od n ni cs r f g) H) (hD : va_D A (LW cA u ad o od n ni cs r f g)) (hS : va_S A s.heap H locs) (hn : As.length = nn) (hls : ls.size = 9) (hst : st = As.reverse ++ .ref (ad 0) :: rest) (hW : (rest.map fun v => v.category).sum ≤ 8) (hdg : decode cL_law pc = .ok (.invokevirtual idx, 3)) (hst1 : v.toList ++ rest = st1)
    (kk : ∀ (H1 : Heap) (locs1 : List Loc), PP dg (LW cA u ad o od n ni cs r' f g) H1 → va_D A (LW cA u ad o od n ni cs r' f g) → va_S A s.heap H1 locs1 → W p l e room_1 s m args below meth c H1 locs1 cells slots Q (F0 m (pc + 3) ls st1)) : W p l e room_1 s m args below meth c H locs cells slots Q (F0 m pc ls st) :=
  cNF C.1 (hM _) F ⟨hR.1, hR.2.1, by show rm.frames + 1 ≤ 20; omega, by show 8 + (maxL + 11) + rm.locals ≤ 10828; omega⟩ C.2.1 (pPP lw_pM hP) (pD lw_pM hD) hS C.2.2.2.2.2.1 0 ml_0 (q := (RX6, TX6, 31)) rfl rfl hn hls hst hW hdg ⟨by show cells + 0 ≤ 603072; omega, by show slots + 0 ≤ 7202922; omega⟩ hst1 (fun _ H1 locs1 hP hD hS => kk H1 locs1 (pPP lw_pM.symm hP) (pD lw_pM.symm hD) hS)
theorem lwC (C : LC p l dg cA s m c args A b L xs) (hM : ∀ sz, MetN l dg cA y bytes maxL ret rm 0 0 (cw cA u n ni cs) sz (.ref (u 0) :: As) (fun z => cw cA (fixz (u 0) z) n ni cs') v) (F : CV RL idx RX5 y bytes maxL ret nn) (hR : rm.cells = 0 ∧ rm.slots = 0 ∧ rm.frames ≤ 9 ∧ rm.locals ≤ 250) (hmx : maxL ≤ 10) (hce : cells ≤ 600000) (hsl : slots ≤ 7000000) (hP : PP dg (LW cA u ad o od n ni cs r f g) H) (hD : va_D A (LW cA u ad o od n ni cs r f g)) (hS : va_S A s.heap H locs) (hn : As.length = nn) (hls : ls.size = 9) (hst : st = As.reverse ++ .ref (u 0) :: rest) (hW : (rest.map fun v => v.category).sum ≤ 8) (hdg : decode cL_law pc = .ok (.invokevirtual idx, 3)) (hst1 : v.toList ++ rest = st1)
    (kk : ∀ (z : Nat → Nat) (H1 : Heap) (locs1 : List Loc), PP dg (LW cA (fixz (u 0) z) ad o od n ni cs' r f g) H1 → va_D A (LW cA (fixz (u 0) z) ad o od n ni cs' r f g) → va_S A s.heap H1 locs1 → W p l e room_1 s m args below meth c H1 locs1 cells slots Q (F0 m (pc + 3) ls st1)) : W p l e room_1 s m args below meth c H locs cells slots Q (F0 m pc ls st) :=
  cNF C.1 (hM _) F ⟨hR.1, hR.2.1, by show rm.frames + 1 ≤ 20; omega, by show 8 + (maxL + 11) + rm.locals ≤ 10828; omega⟩ C.2.1 hP hD hS C.2.2.2.2.2.1 0 cl_0 (q := (RX5, TX5, 9)) rfl rfl hn hls hst hW hdg ⟨by show cells + 0 ≤ 603072; omega, by show slots + 0 ≤ 7202922; omega⟩ hst1 (fun z H1 locs1 hP hD hS => kk z H1 locs1 hP hD hS)
end LF
theorem nI_a2 (a : Nat) : nI a + 2 = nI (a + 2) := nI_add a 2
theorem nI_a3 (a : Nat) : nI a + 3 = nI (a + 3) := nI_add a 3
