set_option maxHeartbeats 4000000 in
set_option maxRecDepth 100000 in
theorem hs_setChance (l : Launch) (dg : va_G) (cA : Nat → ClassId) {X : va_W} {ws1 : (Nat → Nat) → va_W} {b o mc ms : Nat} {fs : List Value} {f : Nat → Int64} {rm : Room} (x1 : Int32) {v : Int32} (he : X[0]? = some (b, .inr (5, fs))) (hM : ∀ sz, MetN l dg cA yX5_setChance cX5_setChance 3 (some .int) rm mc ms X sz [.ref b, .int x1] ws1 (some (.int v))) (hb1 : rm.cells = mc) (hb2 : rm.slots = ms) (hb3 : rm.frames ≤ 8) (hb4 : rm.locals ≤ 200) (sz : Nat) : MetZ l dg cA yL_setChance cL_setChance 4 [(0, 9, 12, 13)] ({ frames := 9, cells := mc, slots := ms, locals := 250 } : Room) mc ms (X ++ [lo cA o f]) sz [.ref b, .int x1, .ref o] (fun u => ws1 u ++ [lo cA o (vp_updL f 0 v.toInt64)]) 0 := by
  refine ofZ (by decide) (Nat.le_of_ble_eq_true rfl) (own := RL) rfl (fun p e s0 m args below meth ccd ls A hAe S hr hlk htab hK hZ hN hP hD hS hA hsz hl => ?_)
  have hx := S.1
  have hb := S.2.1
  have hl : lv_has ls 4 [(0, .ref b), (1, .int x1), (2, .ref o)] := hl
  refine lv_aload_n hx hb dL_setChance_0 rfl (lv_at hl 2 rfl) ?_
  refine lv_iconst (v := 0) hx hb dL_setChance_1 (by decide) ?_
  refine lv_aload_n hx hb dL_setChance_2 rfl (lv_at hl 0 rfl) ?_
  refine lv_iload_n hx hb dL_setChance_3 rfl (lv_at hl 1 rfl) ?_
  refine cNF S (hM _) kL_7 ⟨hb1, hb2, by show rm.frames + 1 ≤ 9; omega, by show 8 + (3 + 11) + rm.locals ≤ 250; omega⟩ hK hP hD hS hA 0 he (q := (RX5, TX5, 9)) rfl rfl (As := [.int x1]) rfl hl.1 (rest := [.int 0, .ref o]) rfl (Nat.le_of_ble_eq_true rfl) dL_setChance_4 ⟨Nat.le_of_eq (Nat.zero_add _), Nat.le_of_eq (Nat.zero_add _)⟩ (st1 := [.int v, .int 0, .ref o]) rfl (fun u H locs hP hD hS => ?_)
  refine lv_i2l (v := v.toInt64) hx hb dL_setChance_7 rfl ?_
  refine va_last hx hb hK hP hD hS (ws1 u).length 4 gl_last rfl vi01 dL_setChance_8 (fun H locs hP hD hS => ?_)
  rw [st_last, z0n] at hP hD
  refine lv_goto (tgt := 15) hx hb dL_setChance_9 (by decide) ?_
  refine lv_iconst (v := 0) hx hb dL_setChance_15 (by decide) ?_
  refine W.widen (k := mc) (n := ms) (by omega) (by omega) ?_
  exact eNi S hr hlk u hP hD hS dL_setChance_16 rfl rfl
set_option maxHeartbeats 4000000 in
set_option maxRecDepth 100000 in
theorem ht_setChance_1 (l : Launch) (dg : va_G) (cA : Nat → ClassId) {X : va_W} {b o : Nat} {fs : List Value} {f : Nat → Int64} {rm : Room} (x1 : Int32) (he : X[0]? = some (b, .inr (5, fs))) (hM : MetX l dg cA yX5_setChance cX5_setChance 3 (some .int) rm X [.ref b, .int x1] "java/lang/IllegalArgumentException") (hb1 : rm.cells = 1) (hb2 : rm.slots = 6) (hb3 : rm.frames ≤ 8) (hb4 : rm.locals ≤ 200) (sz : Nat) : MetZ l dg cA yL_setChance cL_setChance 4 [(0, 9, 12, 13)] ({ frames := 9, cells := 1, slots := 6, locals := 250 } : Room) 1 6 (X ++ [lo cA o f]) sz [.ref b, .int x1, .ref o] (fun _ => X ++ [lo cA o f]) 1 := by
  refine ofZ (by decide) (Nat.le_of_ble_eq_true rfl) (own := RL) rfl (fun p e s0 m args below meth ccd ls A hAe S hr hlk htab hK hZ hN hP hD hS hA hsz hl => ?_)
  have hx := S.1
  have hb := S.2.1
  have hl : lv_has ls 4 [(0, .ref b), (1, .int x1), (2, .ref o)] := hl
  refine lv_aload_n hx hb dL_setChance_0 rfl (lv_at hl 2 rfl) ?_
  refine lv_iconst (v := 0) hx hb dL_setChance_1 (by decide) ?_
  refine lv_aload_n hx hb dL_setChance_2 rfl (lv_at hl 0 rfl) ?_
  refine lv_iload_n hx hb dL_setChance_3 rfl (lv_at hl 1 rfl) ?_
  refine cXF (A := A) S hM kL_7 ⟨hb1, hb2, by show rm.frames + 1 ≤ 9; omega, by show 8 + (3 + 11) + rm.locals ≤ 250; omega⟩ hK hZ hP 0 he (q := (RX5, TX5, 9)) rfl rfl (As := [.int x1]) rfl hl.1 (rest := [.int 0, .ref o]) rfl (Nat.le_of_ble_eq_true rfl) dL_setChance_4 ⟨Nat.le_of_ble_eq_true rfl, Nat.le_of_ble_eq_true rfl⟩ (fun z ce H locs hP hS h1 h2 h3 => ?_)
  have hpass : ∀ z ∈ ([] : List ExceptionTableEntry), covers z 4 = false ∨ (z.catchType ≠ 0 ∧ ∃ nm : String, (Cond.classLink RL z.catchType nm).before args s0 = true ∧ va_Nc "java/lang/IllegalArgumentException" nm s0) := fun z hz => by cases hz
  refine vx_catch S.2.2.2.1 [] ⟨0, 9, 12, 13⟩ [] (by rw [htab]; rfl) hpass (by decide) (by decide) (S.2.2.2.2 _ clL_13) (cc_word hZ.2.2.1 cst_iae) h1 h2 h3 ?_
  refine lv_astore_n (lv' := [(3, .ref z), (0, .ref b), (1, .int x1), (2, .ref o)]) hx hb dL_setChance_12 rfl hl (by decide) rfl (fun ls hl => ?_)
  refine lv_iconst (v := 1) hx hb dL_setChance_13 (by decide) ?_
  exact eNi S hr hlk (fun _ => 0) hP hD hS dL_setChance_14 rfl rfl
set_option maxHeartbeats 4000000 in
set_option maxRecDepth 100000 in
theorem hs_addStratum (l : Launch) (dg : va_G) (cA : Nat → ClassId) {X : va_W} {ws1 : (Nat → Nat) → va_W} {b o mc ms : Nat} {fs : List Value} {f : Nat → Int64} {rm : Room} {v : Int32} (he : X[0]? = some (b, .inr (5, fs))) (hM : ∀ sz, MetN l dg cA yX5_addStratum cX5_addStratum 2 (some .int) rm mc ms X sz [.ref b] ws1 (some (.int v))) (hb1 : rm.cells = mc) (hb2 : rm.slots = ms) (hb3 : rm.frames ≤ 8) (hb4 : rm.locals ≤ 200) (sz : Nat) : MetZ l dg cA yL_addStratum cL_addStratum 3 [(0, 8, 11, 19)] ({ frames := 9, cells := mc, slots := ms, locals := 250 } : Room) mc ms (X ++ [lo cA o f]) sz [.ref b, .ref o] (fun u => ws1 u ++ [lo cA o (vp_updL f 0 v.toInt64)]) 0 := by
  refine ofZ (by decide) (Nat.le_of_ble_eq_true rfl) (own := RL) rfl (fun p e s0 m args below meth ccd ls A hAe S hr hlk htab hK hZ hN hP hD hS hA hsz hl => ?_)
  have hx := S.1
  have hb := S.2.1
  have hl : lv_has ls 3 [(0, .ref b), (1, .ref o)] := hl
  refine lv_aload_n hx hb dL_addStratum_0 rfl (lv_at hl 1 rfl) ?_
  refine lv_iconst (v := 0) hx hb dL_addStratum_1 (by decide) ?_
  refine lv_aload_n hx hb dL_addStratum_2 rfl (lv_at hl 0 rfl) ?_
  refine cNF S (hM _) kL_15 ⟨hb1, hb2, by show rm.frames + 1 ≤ 9; omega, by show 8 + (2 + 11) + rm.locals ≤ 250; omega⟩ hK hP hD hS hA 0 he (q := (RX5, TX5, 9)) rfl rfl (As := []) rfl hl.1 (rest := [.int 0, .ref o]) rfl (Nat.le_of_ble_eq_true rfl) dL_addStratum_3 ⟨Nat.le_of_eq (Nat.zero_add _), Nat.le_of_eq (Nat.zero_add _)⟩ (st1 := [.int v, .int 0, .ref o]) rfl (fun u H locs hP hD hS => ?_)
  refine lv_i2l (v := v.toInt64) hx hb dL_addStratum_6 rfl ?_
  refine va_last hx hb hK hP hD hS (ws1 u).length 4 gl_last rfl vi01 dL_addStratum_7 (fun H locs hP hD hS => ?_)
  rw [st_last, z0n] at hP hD
  refine lv_goto (tgt := 14) hx hb dL_addStratum_8 (by decide) ?_
  refine lv_iconst (v := 0) hx hb dL_addStratum_14 (by decide) ?_
  refine W.widen (k := mc) (n := ms) (by omega) (by omega) ?_
  exact eNi S hr hlk u hP hD hS dL_addStratum_15 rfl rfl
set_option maxHeartbeats 4000000 in
set_option maxRecDepth 100000 in
theorem ht_addStratum_1 (l : Launch) (dg : va_G) (cA : Nat → ClassId) {X : va_W} {b o : Nat} {fs : List Value} {f : Nat → Int64} {rm : Room} (he : X[0]? = some (b, .inr (5, fs))) (hM : MetX l dg cA yX5_addStratum cX5_addStratum 2 (some .int) rm X [.ref b] "java/lang/IllegalStateException") (hb1 : rm.cells = 1) (hb2 : rm.slots = 6) (hb3 : rm.frames ≤ 8) (hb4 : rm.locals ≤ 200) (sz : Nat) : MetZ l dg cA yL_addStratum cL_addStratum 3 [(0, 8, 11, 19)] ({ frames := 9, cells := 1, slots := 6, locals := 250 } : Room) 1 6 (X ++ [lo cA o f]) sz [.ref b, .ref o] (fun _ => X ++ [lo cA o f]) 1 := by
  refine ofZ (by decide) (Nat.le_of_ble_eq_true rfl) (own := RL) rfl (fun p e s0 m args below meth ccd ls A hAe S hr hlk htab hK hZ hN hP hD hS hA hsz hl => ?_)
  have hx := S.1
  have hb := S.2.1
  have hl : lv_has ls 3 [(0, .ref b), (1, .ref o)] := hl
  refine lv_aload_n hx hb dL_addStratum_0 rfl (lv_at hl 1 rfl) ?_
  refine lv_iconst (v := 0) hx hb dL_addStratum_1 (by decide) ?_
  refine lv_aload_n hx hb dL_addStratum_2 rfl (lv_at hl 0 rfl) ?_
  refine cXF (A := A) S hM kL_15 ⟨hb1, hb2, by show rm.frames + 1 ≤ 9; omega, by show 8 + (2 + 11) + rm.locals ≤ 250; omega⟩ hK hZ hP 0 he (q := (RX5, TX5, 9)) rfl rfl (As := []) rfl hl.1 (rest := [.int 0, .ref o]) rfl (Nat.le_of_ble_eq_true rfl) dL_addStratum_3 ⟨Nat.le_of_ble_eq_true rfl, Nat.le_of_ble_eq_true rfl⟩ (fun z ce H locs hP hS h1 h2 h3 => ?_)
  have hpass : ∀ z ∈ ([] : List ExceptionTableEntry), covers z 3 = false ∨ (z.catchType ≠ 0 ∧ ∃ nm : String, (Cond.classLink RL z.catchType nm).before args s0 = true ∧ va_Nc "java/lang/IllegalStateException" nm s0) := fun z hz => by cases hz
  refine vx_catch S.2.2.2.1 [] ⟨0, 8, 11, 19⟩ [] (by rw [htab]; rfl) hpass (by decide) (by decide) (S.2.2.2.2 _ clL_19) (cc_word hZ.2.2.1 cst_ise) h1 h2 h3 ?_
  refine lv_astore_n (lv' := [(2, .ref z), (0, .ref b), (1, .ref o)]) hx hb dL_addStratum_11 rfl hl (by decide) rfl (fun ls hl => ?_)
  refine lv_iconst (v := 1) hx hb dL_addStratum_12 (by decide) ?_
  exact eNi S hr hlk (fun _ => 0) hP hD hS dL_addStratum_13 rfl rfl
set_option maxHeartbeats 4000000 in
set_option maxRecDepth 100000 in
theorem hs_addHouse (l : Launch) (dg : va_G) (cA : Nat → ClassId) {X : va_W} {ws1 : (Nat → Nat) → va_W} {b o mc ms : Nat} {fs : List Value} {f : Nat → Int64} {rm : Room} (x1 x2 x3 : Int32) {v : Int32} (he : X[0]? = some (b, .inr (5, fs))) (hM : ∀ sz, MetN l dg cA yX5_addHouse cX5_addHouse 5 (some .int) rm mc ms X sz [.ref b, .int x1, .int x2, .int x3] ws1 (some (.int v))) (hb1 : rm.cells = mc) (hb2 : rm.slots = ms) (hb3 : rm.frames ≤ 8) (hb4 : rm.locals ≤ 200) (sz : Nat) : MetZ l dg cA yL_addHouse cL_addHouse 6 [(0, 12, 15, 25), (0, 12, 19, 13), (0, 12, 23, 19)] ({ frames := 9, cells := mc, slots := ms, locals := 250 } : Room) mc ms (X ++ [lo cA o f]) sz [.ref b, .int x1, .int x2, .int x3, .ref o] (fun u => ws1 u ++ [lo cA o (vp_updL f 0 v.toInt64)]) 0 := by
  refine ofZ (by decide) (Nat.le_of_ble_eq_true rfl) (own := RL) rfl (fun p e s0 m args below meth ccd ls A hAe S hr hlk htab hK hZ hN hP hD hS hA hsz hl => ?_)
  have hx := S.1
  have hb := S.2.1
  have hl : lv_has ls 6 [(0, .ref b), (1, .int x1), (2, .int x2), (3, .int x3), (4, .ref o)] := hl
  refine lv_aload hx hb dL_addHouse_0 (lv_at hl 4 rfl) ?_
  refine lv_iconst (v := 0) hx hb dL_addHouse_2 (by decide) ?_
  refine lv_aload_n hx hb dL_addHouse_3 rfl (lv_at hl 0 rfl) ?_
  refine lv_iload_n hx hb dL_addHouse_4 rfl (lv_at hl 1 rfl) ?_
  refine lv_iload_n hx hb dL_addHouse_5 rfl (lv_at hl 2 rfl) ?_
  refine lv_iload_n hx hb dL_addHouse_6 rfl (lv_at hl 3 rfl) ?_
  refine cNF S (hM _) kL_21 ⟨hb1, hb2, by show rm.frames + 1 ≤ 9; omega, by show 8 + (5 + 11) + rm.locals ≤ 250; omega⟩ hK hP hD hS hA 0 he (q := (RX5, TX5, 9)) rfl rfl (As := [.int x1, .int x2, .int x3]) rfl hl.1 (rest := [.int 0, .ref o]) rfl (Nat.le_of_ble_eq_true rfl) dL_addHouse_7 ⟨Nat.le_of_eq (Nat.zero_add _), Nat.le_of_eq (Nat.zero_add _)⟩ (st1 := [.int v, .int 0, .ref o]) rfl (fun u H locs hP hD hS => ?_)
  refine lv_i2l (v := v.toInt64) hx hb dL_addHouse_10 rfl ?_
  refine va_last hx hb hK hP hD hS (ws1 u).length 4 gl_last rfl vi01 dL_addHouse_11 (fun H locs hP hD hS => ?_)
  rw [st_last, z0n] at hP hD
  refine lv_goto (tgt := 27) hx hb dL_addHouse_12 (by decide) ?_
  refine lv_iconst (v := 0) hx hb dL_addHouse_27 (by decide) ?_
  refine W.widen (k := mc) (n := ms) (by omega) (by omega) ?_
  exact eNi S hr hlk u hP hD hS dL_addHouse_28 rfl rfl
set_option maxHeartbeats 4000000 in
set_option maxRecDepth 100000 in
theorem ht_addHouse_1 (l : Launch) (dg : va_G) (cA : Nat → ClassId) {X : va_W} {b o : Nat} {fs : List Value} {f : Nat → Int64} {rm : Room} (x1 x2 x3 : Int32) (he : X[0]? = some (b, .inr (5, fs))) (hM : MetX l dg cA yX5_addHouse cX5_addHouse 5 (some .int) rm X [.ref b, .int x1, .int x2, .int x3] "java/lang/IndexOutOfBoundsException") (hb1 : rm.cells = 1) (hb2 : rm.slots = 6) (hb3 : rm.frames ≤ 8) (hb4 : rm.locals ≤ 200) (sz : Nat) : MetZ l dg cA yL_addHouse cL_addHouse 6 [(0, 12, 15, 25), (0, 12, 19, 13), (0, 12, 23, 19)] ({ frames := 9, cells := 1, slots := 6, locals := 250 } : Room) 1 6 (X ++ [lo cA o f]) sz [.ref b, .int x1, .int x2, .int x3, .ref o] (fun _ => X ++ [lo cA o f]) 1 := by
  refine ofZ (by decide) (Nat.le_of_ble_eq_true rfl) (own := RL) rfl (fun p e s0 m args below meth ccd ls A hAe S hr hlk htab hK hZ hN hP hD hS hA hsz hl => ?_)
  have hx := S.1
  have hb := S.2.1
  have hl : lv_has ls 6 [(0, .ref b), (1, .int x1), (2, .int x2), (3, .int x3), (4, .ref o)] := hl
  refine lv_aload hx hb dL_addHouse_0 (lv_at hl 4 rfl) ?_
  refine lv_iconst (v := 0) hx hb dL_addHouse_2 (by decide) ?_
  refine lv_aload_n hx hb dL_addHouse_3 rfl (lv_at hl 0 rfl) ?_
  refine lv_iload_n hx hb dL_addHouse_4 rfl (lv_at hl 1 rfl) ?_
  refine lv_iload_n hx hb dL_addHouse_5 rfl (lv_at hl 2 rfl) ?_
  refine lv_iload_n hx hb dL_addHouse_6 rfl (lv_at hl 3 rfl) ?_
  refine cXF (A := A) S hM kL_21 ⟨hb1, hb2, by show rm.frames + 1 ≤ 9; omega, by show 8 + (5 + 11) + rm.locals ≤ 250; omega⟩ hK hZ hP 0 he (q := (RX5, TX5, 9)) rfl rfl (As := [.int x1, .int x2, .int x3]) rfl hl.1 (rest := [.int 0, .ref o]) rfl (Nat.le_of_ble_eq_true rfl) dL_addHouse_7 ⟨Nat.le_of_ble_eq_true rfl, Nat.le_of_ble_eq_true rfl⟩ (fun z ce H locs hP hS h1 h2 h3 => ?_)
  have hpass : ∀ z ∈ ([] : List ExceptionTableEntry), covers z 7 = false ∨ (z.catchType ≠ 0 ∧ ∃ nm : String, (Cond.classLink RL z.catchType nm).before args s0 = true ∧ va_Nc "java/lang/IndexOutOfBoundsException" nm s0) := fun z hz => by cases hz
  refine vx_catch S.2.2.2.1 [] ⟨0, 12, 15, 25⟩ [⟨0, 12, 19, 13⟩, ⟨0, 12, 23, 19⟩] (by rw [htab]; rfl) hpass (by decide) (by decide) (S.2.2.2.2 _ clL_25) (cc_word hZ.2.2.1 cst_ibe) h1 h2 h3 ?_
  refine lv_astore (lv' := [(5, .ref z), (0, .ref b), (1, .int x1), (2, .int x2), (3, .int x3), (4, .ref o)]) hx hb dL_addHouse_15 hl (by decide) rfl (fun ls hl => ?_)
  refine lv_iconst (v := 1) hx hb dL_addHouse_17 (by decide) ?_
  exact eNi S hr hlk (fun _ => 0) hP hD hS dL_addHouse_18 rfl rfl
set_option maxHeartbeats 4000000 in
set_option maxRecDepth 100000 in
theorem ht_addHouse_2 (l : Launch) (dg : va_G) (cA : Nat → ClassId) {X : va_W} {b o : Nat} {fs : List Value} {f : Nat → Int64} {rm : Room} (x1 x2 x3 : Int32) (he : X[0]? = some (b, .inr (5, fs))) (hM : MetX l dg cA yX5_addHouse cX5_addHouse 5 (some .int) rm X [.ref b, .int x1, .int x2, .int x3] "java/lang/IllegalArgumentException") (hb1 : rm.cells = 1) (hb2 : rm.slots = 6) (hb3 : rm.frames ≤ 8) (hb4 : rm.locals ≤ 200) (sz : Nat) : MetZ l dg cA yL_addHouse cL_addHouse 6 [(0, 12, 15, 25), (0, 12, 19, 13), (0, 12, 23, 19)] ({ frames := 9, cells := 1, slots := 6, locals := 250 } : Room) 1 6 (X ++ [lo cA o f]) sz [.ref b, .int x1, .int x2, .int x3, .ref o] (fun _ => X ++ [lo cA o f]) 2 := by
  refine ofZ (by decide) (Nat.le_of_ble_eq_true rfl) (own := RL) rfl (fun p e s0 m args below meth ccd ls A hAe S hr hlk htab hK hZ hN hP hD hS hA hsz hl => ?_)
  have hx := S.1
  have hb := S.2.1
  have hl : lv_has ls 6 [(0, .ref b), (1, .int x1), (2, .int x2), (3, .int x3), (4, .ref o)] := hl
  refine lv_aload hx hb dL_addHouse_0 (lv_at hl 4 rfl) ?_
  refine lv_iconst (v := 0) hx hb dL_addHouse_2 (by decide) ?_
  refine lv_aload_n hx hb dL_addHouse_3 rfl (lv_at hl 0 rfl) ?_
  refine lv_iload_n hx hb dL_addHouse_4 rfl (lv_at hl 1 rfl) ?_
  refine lv_iload_n hx hb dL_addHouse_5 rfl (lv_at hl 2 rfl) ?_
  refine lv_iload_n hx hb dL_addHouse_6 rfl (lv_at hl 3 rfl) ?_
  refine cXF (A := A) S hM kL_21 ⟨hb1, hb2, by show rm.frames + 1 ≤ 9; omega, by show 8 + (5 + 11) + rm.locals ≤ 250; omega⟩ hK hZ hP 0 he (q := (RX5, TX5, 9)) rfl rfl (As := [.int x1, .int x2, .int x3]) rfl hl.1 (rest := [.int 0, .ref o]) rfl (Nat.le_of_ble_eq_true rfl) dL_addHouse_7 ⟨Nat.le_of_ble_eq_true rfl, Nat.le_of_ble_eq_true rfl⟩ (fun z ce H locs hP hS h1 h2 h3 => ?_)
  have hpass : ∀ z ∈ ([⟨0, 12, 15, 25⟩] : List ExceptionTableEntry), covers z 7 = false ∨ (z.catchType ≠ 0 ∧ ∃ nm : String, (Cond.classLink RL z.catchType nm).before args s0 = true ∧ va_Nc "java/lang/IllegalArgumentException" nm s0) := fun z hz => by
    simp only [List.mem_cons, List.not_mem_nil, or_false] at hz
    rcases hz with rfl
    exact Or.inr ⟨by decide, _, S.2.2.2.2 _ clL_25, hN.1⟩
  refine vx_catch S.2.2.2.1 [⟨0, 12, 15, 25⟩] ⟨0, 12, 19, 13⟩ [⟨0, 12, 23, 19⟩] (by rw [htab]; rfl) hpass (by decide) (by decide) (S.2.2.2.2 _ clL_13) (cc_word hZ.2.2.1 cst_iae) h1 h2 h3 ?_
  refine lv_astore (lv' := [(5, .ref z), (0, .ref b), (1, .int x1), (2, .int x2), (3, .int x3), (4, .ref o)]) hx hb dL_addHouse_19 hl (by decide) rfl (fun ls hl => ?_)
  refine lv_iconst (v := 2) hx hb dL_addHouse_21 (by decide) ?_
  exact eNi S hr hlk (fun _ => 0) hP hD hS dL_addHouse_22 rfl rfl
set_option maxHeartbeats 4000000 in
set_option maxRecDepth 100000 in
theorem ht_addHouse_3 (l : Launch) (dg : va_G) (cA : Nat → ClassId) {X : va_W} {b o : Nat} {fs : List Value} {f : Nat → Int64} {rm : Room} (x1 x2 x3 : Int32) (he : X[0]? = some (b, .inr (5, fs))) (hM : MetX l dg cA yX5_addHouse cX5_addHouse 5 (some .int) rm X [.ref b, .int x1, .int x2, .int x3] "java/lang/IllegalStateException") (hb1 : rm.cells = 1) (hb2 : rm.slots = 6) (hb3 : rm.frames ≤ 8) (hb4 : rm.locals ≤ 200) (sz : Nat) : MetZ l dg cA yL_addHouse cL_addHouse 6 [(0, 12, 15, 25), (0, 12, 19, 13), (0, 12, 23, 19)] ({ frames := 9, cells := 1, slots := 6, locals := 250 } : Room) 1 6 (X ++ [lo cA o f]) sz [.ref b, .int x1, .int x2, .int x3, .ref o] (fun _ => X ++ [lo cA o f]) 3 := by
  refine ofZ (by decide) (Nat.le_of_ble_eq_true rfl) (own := RL) rfl (fun p e s0 m args below meth ccd ls A hAe S hr hlk htab hK hZ hN hP hD hS hA hsz hl => ?_)
  have hx := S.1
  have hb := S.2.1
  have hl : lv_has ls 6 [(0, .ref b), (1, .int x1), (2, .int x2), (3, .int x3), (4, .ref o)] := hl
  refine lv_aload hx hb dL_addHouse_0 (lv_at hl 4 rfl) ?_
  refine lv_iconst (v := 0) hx hb dL_addHouse_2 (by decide) ?_
  refine lv_aload_n hx hb dL_addHouse_3 rfl (lv_at hl 0 rfl) ?_
  refine lv_iload_n hx hb dL_addHouse_4 rfl (lv_at hl 1 rfl) ?_
  refine lv_iload_n hx hb dL_addHouse_5 rfl (lv_at hl 2 rfl) ?_
  refine lv_iload_n hx hb dL_addHouse_6 rfl (lv_at hl 3 rfl) ?_
  refine cXF (A := A) S hM kL_21 ⟨hb1, hb2, by show rm.frames + 1 ≤ 9; omega, by show 8 + (5 + 11) + rm.locals ≤ 250; omega⟩ hK hZ hP 0 he (q := (RX5, TX5, 9)) rfl rfl (As := [.int x1, .int x2, .int x3]) rfl hl.1 (rest := [.int 0, .ref o]) rfl (Nat.le_of_ble_eq_true rfl) dL_addHouse_7 ⟨Nat.le_of_ble_eq_true rfl, Nat.le_of_ble_eq_true rfl⟩ (fun z ce H locs hP hS h1 h2 h3 => ?_)
  have hpass : ∀ z ∈ ([⟨0, 12, 15, 25⟩, ⟨0, 12, 19, 13⟩] : List ExceptionTableEntry), covers z 7 = false ∨ (z.catchType ≠ 0 ∧ ∃ nm : String, (Cond.classLink RL z.catchType nm).before args s0 = true ∧ va_Nc "java/lang/IllegalStateException" nm s0) := fun z hz => by
    simp only [List.mem_cons, List.not_mem_nil, or_false] at hz
    rcases hz with rfl | rfl
    · exact Or.inr ⟨by decide, _, S.2.2.2.2 _ clL_25, hN.2.1⟩
    · exact Or.inr ⟨by decide, _, S.2.2.2.2 _ clL_13, hN.2.2.1⟩
  refine vx_catch S.2.2.2.1 [⟨0, 12, 15, 25⟩, ⟨0, 12, 19, 13⟩] ⟨0, 12, 23, 19⟩ [] (by rw [htab]; rfl) hpass (by decide) (by decide) (S.2.2.2.2 _ clL_19) (cc_word hZ.2.2.1 cst_ise) h1 h2 h3 ?_
  refine lv_astore (lv' := [(5, .ref z), (0, .ref b), (1, .int x1), (2, .int x2), (3, .int x3), (4, .ref o)]) hx hb dL_addHouse_23 hl (by decide) rfl (fun ls hl => ?_)
  refine lv_iconst (v := 3) hx hb dL_addHouse_25 (by decide) ?_
  exact eNi S hr hlk (fun _ => 0) hP hD hS dL_addHouse_26 rfl rfl
set_option maxHeartbeats 4000000 in
set_option maxRecDepth 100000 in
theorem hs_addInterviewer (l : Launch) (dg : va_G) (cA : Nat → ClassId) {X : va_W} {ws1 : (Nat → Nat) → va_W} {b o mc ms : Nat} {fs : List Value} {f : Nat → Int64} {rm : Room} (x1 x2 x3 : Int32) {v : Int32} (he : X[0]? = some (b, .inr (5, fs))) (hM : ∀ sz, MetN l dg cA yX5_addInterviewer cX5_addInterviewer 5 (some .int) rm mc ms X sz [.ref b, .int x1, .int x2, .int x3] ws1 (some (.int v))) (hb1 : rm.cells = mc) (hb2 : rm.slots = ms) (hb3 : rm.frames ≤ 8) (hb4 : rm.locals ≤ 200) (sz : Nat) : MetZ l dg cA yL_addInterviewer cL_addInterviewer 6 [(0, 12, 15, 13), (0, 12, 19, 19)] ({ frames := 9, cells := mc, slots := ms, locals := 250 } : Room) mc ms (X ++ [lo cA o f]) sz [.ref b, .int x1, .int x2, .int x3, .ref o] (fun u => ws1 u ++ [lo cA o (vp_updL f 0 v.toInt64)]) 0 := by
  refine ofZ (by decide) (Nat.le_of_ble_eq_true rfl) (own := RL) rfl (fun p e s0 m args below meth ccd ls A hAe S hr hlk htab hK hZ hN hP hD hS hA hsz hl => ?_)
  have hx := S.1
  have hb := S.2.1
  have hl : lv_has ls 6 [(0, .ref b), (1, .int x1), (2, .int x2), (3, .int x3), (4, .ref o)] := hl
  refine lv_aload hx hb dL_addInterviewer_0 (lv_at hl 4 rfl) ?_
  refine lv_iconst (v := 0) hx hb dL_addInterviewer_2 (by decide) ?_
  refine lv_aload_n hx hb dL_addInterviewer_3 rfl (lv_at hl 0 rfl) ?_
  refine lv_iload_n hx hb dL_addInterviewer_4 rfl (lv_at hl 1 rfl) ?_
  refine lv_iload_n hx hb dL_addInterviewer_5 rfl (lv_at hl 2 rfl) ?_
  refine lv_iload_n hx hb dL_addInterviewer_6 rfl (lv_at hl 3 rfl) ?_
  refine cNF S (hM _) kL_27 ⟨hb1, hb2, by show rm.frames + 1 ≤ 9; omega, by show 8 + (5 + 11) + rm.locals ≤ 250; omega⟩ hK hP hD hS hA 0 he (q := (RX5, TX5, 9)) rfl rfl (As := [.int x1, .int x2, .int x3]) rfl hl.1 (rest := [.int 0, .ref o]) rfl (Nat.le_of_ble_eq_true rfl) dL_addInterviewer_7 ⟨Nat.le_of_eq (Nat.zero_add _), Nat.le_of_eq (Nat.zero_add _)⟩ (st1 := [.int v, .int 0, .ref o]) rfl (fun u H locs hP hD hS => ?_)
  refine lv_i2l (v := v.toInt64) hx hb dL_addInterviewer_10 rfl ?_
  refine va_last hx hb hK hP hD hS (ws1 u).length 4 gl_last rfl vi01 dL_addInterviewer_11 (fun H locs hP hD hS => ?_)
  rw [st_last, z0n] at hP hD
  refine lv_goto (tgt := 23) hx hb dL_addInterviewer_12 (by decide) ?_
  refine lv_iconst (v := 0) hx hb dL_addInterviewer_23 (by decide) ?_
  refine W.widen (k := mc) (n := ms) (by omega) (by omega) ?_
  exact eNi S hr hlk u hP hD hS dL_addInterviewer_24 rfl rfl
set_option maxHeartbeats 4000000 in
set_option maxRecDepth 100000 in
theorem ht_addInterviewer_1 (l : Launch) (dg : va_G) (cA : Nat → ClassId) {X : va_W} {b o : Nat} {fs : List Value} {f : Nat → Int64} {rm : Room} (x1 x2 x3 : Int32) (he : X[0]? = some (b, .inr (5, fs))) (hM : MetX l dg cA yX5_addInterviewer cX5_addInterviewer 5 (some .int) rm X [.ref b, .int x1, .int x2, .int x3] "java/lang/IllegalArgumentException") (hb1 : rm.cells = 1) (hb2 : rm.slots = 6) (hb3 : rm.frames ≤ 8) (hb4 : rm.locals ≤ 200) (sz : Nat) : MetZ l dg cA yL_addInterviewer cL_addInterviewer 6 [(0, 12, 15, 13), (0, 12, 19, 19)] ({ frames := 9, cells := 1, slots := 6, locals := 250 } : Room) 1 6 (X ++ [lo cA o f]) sz [.ref b, .int x1, .int x2, .int x3, .ref o] (fun _ => X ++ [lo cA o f]) 1 := by
  refine ofZ (by decide) (Nat.le_of_ble_eq_true rfl) (own := RL) rfl (fun p e s0 m args below meth ccd ls A hAe S hr hlk htab hK hZ hN hP hD hS hA hsz hl => ?_)
  have hx := S.1
  have hb := S.2.1
  have hl : lv_has ls 6 [(0, .ref b), (1, .int x1), (2, .int x2), (3, .int x3), (4, .ref o)] := hl
  refine lv_aload hx hb dL_addInterviewer_0 (lv_at hl 4 rfl) ?_
  refine lv_iconst (v := 0) hx hb dL_addInterviewer_2 (by decide) ?_
  refine lv_aload_n hx hb dL_addInterviewer_3 rfl (lv_at hl 0 rfl) ?_
  refine lv_iload_n hx hb dL_addInterviewer_4 rfl (lv_at hl 1 rfl) ?_
  refine lv_iload_n hx hb dL_addInterviewer_5 rfl (lv_at hl 2 rfl) ?_
  refine lv_iload_n hx hb dL_addInterviewer_6 rfl (lv_at hl 3 rfl) ?_
  refine cXF (A := A) S hM kL_27 ⟨hb1, hb2, by show rm.frames + 1 ≤ 9; omega, by show 8 + (5 + 11) + rm.locals ≤ 250; omega⟩ hK hZ hP 0 he (q := (RX5, TX5, 9)) rfl rfl (As := [.int x1, .int x2, .int x3]) rfl hl.1 (rest := [.int 0, .ref o]) rfl (Nat.le_of_ble_eq_true rfl) dL_addInterviewer_7 ⟨Nat.le_of_ble_eq_true rfl, Nat.le_of_ble_eq_true rfl⟩ (fun z ce H locs hP hS h1 h2 h3 => ?_)
  have hpass : ∀ z ∈ ([] : List ExceptionTableEntry), covers z 7 = false ∨ (z.catchType ≠ 0 ∧ ∃ nm : String, (Cond.classLink RL z.catchType nm).before args s0 = true ∧ va_Nc "java/lang/IllegalArgumentException" nm s0) := fun z hz => by cases hz
  refine vx_catch S.2.2.2.1 [] ⟨0, 12, 15, 13⟩ [⟨0, 12, 19, 19⟩] (by rw [htab]; rfl) hpass (by decide) (by decide) (S.2.2.2.2 _ clL_13) (cc_word hZ.2.2.1 cst_iae) h1 h2 h3 ?_
  refine lv_astore (lv' := [(5, .ref z), (0, .ref b), (1, .int x1), (2, .int x2), (3, .int x3), (4, .ref o)]) hx hb dL_addInterviewer_15 hl (by decide) rfl (fun ls hl => ?_)
  refine lv_iconst (v := 1) hx hb dL_addInterviewer_17 (by decide) ?_
  exact eNi S hr hlk (fun _ => 0) hP hD hS dL_addInterviewer_18 rfl rfl
set_option maxHeartbeats 4000000 in
set_option maxRecDepth 100000 in
theorem ht_addInterviewer_2 (l : Launch) (dg : va_G) (cA : Nat → ClassId) {X : va_W} {b o : Nat} {fs : List Value} {f : Nat → Int64} {rm : Room} (x1 x2 x3 : Int32) (he : X[0]? = some (b, .inr (5, fs))) (hM : MetX l dg cA yX5_addInterviewer cX5_addInterviewer 5 (some .int) rm X [.ref b, .int x1, .int x2, .int x3] "java/lang/IllegalStateException") (hb1 : rm.cells = 1) (hb2 : rm.slots = 6) (hb3 : rm.frames ≤ 8) (hb4 : rm.locals ≤ 200) (sz : Nat) : MetZ l dg cA yL_addInterviewer cL_addInterviewer 6 [(0, 12, 15, 13), (0, 12, 19, 19)] ({ frames := 9, cells := 1, slots := 6, locals := 250 } : Room) 1 6 (X ++ [lo cA o f]) sz [.ref b, .int x1, .int x2, .int x3, .ref o] (fun _ => X ++ [lo cA o f]) 2 := by
  refine ofZ (by decide) (Nat.le_of_ble_eq_true rfl) (own := RL) rfl (fun p e s0 m args below meth ccd ls A hAe S hr hlk htab hK hZ hN hP hD hS hA hsz hl => ?_)
  have hx := S.1
  have hb := S.2.1
  have hl : lv_has ls 6 [(0, .ref b), (1, .int x1), (2, .int x2), (3, .int x3), (4, .ref o)] := hl
  refine lv_aload hx hb dL_addInterviewer_0 (lv_at hl 4 rfl) ?_
  refine lv_iconst (v := 0) hx hb dL_addInterviewer_2 (by decide) ?_
  refine lv_aload_n hx hb dL_addInterviewer_3 rfl (lv_at hl 0 rfl) ?_
  refine lv_iload_n hx hb dL_addInterviewer_4 rfl (lv_at hl 1 rfl) ?_
  refine lv_iload_n hx hb dL_addInterviewer_5 rfl (lv_at hl 2 rfl) ?_
  refine lv_iload_n hx hb dL_addInterviewer_6 rfl (lv_at hl 3 rfl) ?_
  refine cXF (A := A) S hM kL_27 ⟨hb1, hb2, by show rm.frames + 1 ≤ 9; omega, by show 8 + (5 + 11) + rm.locals ≤ 250; omega⟩ hK hZ hP 0 he (q := (RX5, TX5, 9)) rfl rfl (As := [.int x1, .int x2, .int x3]) rfl hl.1 (rest := [.int 0, .ref o]) rfl (Nat.le_of_ble_eq_true rfl) dL_addInterviewer_7 ⟨Nat.le_of_ble_eq_true rfl, Nat.le_of_ble_eq_true rfl⟩ (fun z ce H locs hP hS h1 h2 h3 => ?_)
  have hpass : ∀ z ∈ ([⟨0, 12, 15, 13⟩] : List ExceptionTableEntry), covers z 7 = false ∨ (z.catchType ≠ 0 ∧ ∃ nm : String, (Cond.classLink RL z.catchType nm).before args s0 = true ∧ va_Nc "java/lang/IllegalStateException" nm s0) := fun z hz => by
    simp only [List.mem_cons, List.not_mem_nil, or_false] at hz
    rcases hz with rfl
    exact Or.inr ⟨by decide, _, S.2.2.2.2 _ clL_13, hN.2.2.1⟩
  refine vx_catch S.2.2.2.1 [⟨0, 12, 15, 13⟩] ⟨0, 12, 19, 19⟩ [] (by rw [htab]; rfl) hpass (by decide) (by decide) (S.2.2.2.2 _ clL_19) (cc_word hZ.2.2.1 cst_ise) h1 h2 h3 ?_
  refine lv_astore (lv' := [(5, .ref z), (0, .ref b), (1, .int x1), (2, .int x2), (3, .int x3), (4, .ref o)]) hx hb dL_addInterviewer_19 hl (by decide) rfl (fun ls hl => ?_)
  refine lv_iconst (v := 2) hx hb dL_addInterviewer_21 (by decide) ?_
  exact eNi S hr hlk (fun _ => 0) hP hD hS dL_addInterviewer_22 rfl rfl
set_option maxHeartbeats 4000000 in
set_option maxRecDepth 100000 in
theorem hs_draw (l : Launch) (dg : va_G) (cA : Nat → ClassId) {X : va_W} {ws1 : (Nat → Nat) → va_W} {b o mc ms : Nat} {fs : List Value} {f : Nat → Int64} {rm : Room} (x1 x2 : Int32) {v : Int32} (he : X[0]? = some (b, .inr (5, fs))) (hM : ∀ sz, MetN l dg cA yX5_draw cX5_draw 5 (some .int) rm mc ms X sz [.ref b, .int x1, .int x2] ws1 (some (.int v))) (hb1 : rm.cells = mc) (hb2 : rm.slots = ms) (hb3 : rm.frames ≤ 8) (hb4 : rm.locals ≤ 200) (sz : Nat) : MetZ l dg cA yL_draw cL_draw 5 [(0, 10, 13, 25), (0, 10, 17, 13), (0, 10, 21, 19)] ({ frames := 9, cells := mc, slots := ms, locals := 250 } : Room) mc ms (X ++ [lo cA o f]) sz [.ref b, .int x1, .int x2, .ref o] (fun u => ws1 u ++ [lo cA o (vp_updL f 0 v.toInt64)]) 0 := by
  refine ofZ (by decide) (Nat.le_of_ble_eq_true rfl) (own := RL) rfl (fun p e s0 m args below meth ccd ls A hAe S hr hlk htab hK hZ hN hP hD hS hA hsz hl => ?_)
  have hx := S.1
  have hb := S.2.1
  have hl : lv_has ls 5 [(0, .ref b), (1, .int x1), (2, .int x2), (3, .ref o)] := hl
  refine lv_aload_n hx hb dL_draw_0 rfl (lv_at hl 3 rfl) ?_
  refine lv_iconst (v := 0) hx hb dL_draw_1 (by decide) ?_
  refine lv_aload_n hx hb dL_draw_2 rfl (lv_at hl 0 rfl) ?_
  refine lv_iload_n hx hb dL_draw_3 rfl (lv_at hl 1 rfl) ?_
  refine lv_iload_n hx hb dL_draw_4 rfl (lv_at hl 2 rfl) ?_
  refine cNF S (hM _) kL_30 ⟨hb1, hb2, by show rm.frames + 1 ≤ 9; omega, by show 8 + (5 + 11) + rm.locals ≤ 250; omega⟩ hK hP hD hS hA 0 he (q := (RX5, TX5, 9)) rfl rfl (As := [.int x1, .int x2]) rfl hl.1 (rest := [.int 0, .ref o]) rfl (Nat.le_of_ble_eq_true rfl) dL_draw_5 ⟨Nat.le_of_eq (Nat.zero_add _), Nat.le_of_eq (Nat.zero_add _)⟩ (st1 := [.int v, .int 0, .ref o]) rfl (fun u H locs hP hD hS => ?_)
  refine lv_i2l (v := v.toInt64) hx hb dL_draw_8 rfl ?_
  refine va_last hx hb hK hP hD hS (ws1 u).length 4 gl_last rfl vi01 dL_draw_9 (fun H locs hP hD hS => ?_)
  rw [st_last, z0n] at hP hD
  refine lv_goto (tgt := 25) hx hb dL_draw_10 (by decide) ?_
  refine lv_iconst (v := 0) hx hb dL_draw_25 (by decide) ?_
  refine W.widen (k := mc) (n := ms) (by omega) (by omega) ?_
  exact eNi S hr hlk u hP hD hS dL_draw_26 rfl rfl
set_option maxHeartbeats 4000000 in
set_option maxRecDepth 100000 in
theorem ht_draw_1 (l : Launch) (dg : va_G) (cA : Nat → ClassId) {X : va_W} {b o : Nat} {fs : List Value} {f : Nat → Int64} {rm : Room} (x1 x2 : Int32) (he : X[0]? = some (b, .inr (5, fs))) (hM : MetX l dg cA yX5_draw cX5_draw 5 (some .int) rm X [.ref b, .int x1, .int x2] "java/lang/IndexOutOfBoundsException") (hb1 : rm.cells = 1) (hb2 : rm.slots = 6) (hb3 : rm.frames ≤ 8) (hb4 : rm.locals ≤ 200) (sz : Nat) : MetZ l dg cA yL_draw cL_draw 5 [(0, 10, 13, 25), (0, 10, 17, 13), (0, 10, 21, 19)] ({ frames := 9, cells := 1, slots := 6, locals := 250 } : Room) 1 6 (X ++ [lo cA o f]) sz [.ref b, .int x1, .int x2, .ref o] (fun _ => X ++ [lo cA o f]) 1 := by
  refine ofZ (by decide) (Nat.le_of_ble_eq_true rfl) (own := RL) rfl (fun p e s0 m args below meth ccd ls A hAe S hr hlk htab hK hZ hN hP hD hS hA hsz hl => ?_)
  have hx := S.1
  have hb := S.2.1
  have hl : lv_has ls 5 [(0, .ref b), (1, .int x1), (2, .int x2), (3, .ref o)] := hl
  refine lv_aload_n hx hb dL_draw_0 rfl (lv_at hl 3 rfl) ?_
  refine lv_iconst (v := 0) hx hb dL_draw_1 (by decide) ?_
  refine lv_aload_n hx hb dL_draw_2 rfl (lv_at hl 0 rfl) ?_
  refine lv_iload_n hx hb dL_draw_3 rfl (lv_at hl 1 rfl) ?_
  refine lv_iload_n hx hb dL_draw_4 rfl (lv_at hl 2 rfl) ?_
  refine cXF (A := A) S hM kL_30 ⟨hb1, hb2, by show rm.frames + 1 ≤ 9; omega, by show 8 + (5 + 11) + rm.locals ≤ 250; omega⟩ hK hZ hP 0 he (q := (RX5, TX5, 9)) rfl rfl (As := [.int x1, .int x2]) rfl hl.1 (rest := [.int 0, .ref o]) rfl (Nat.le_of_ble_eq_true rfl) dL_draw_5 ⟨Nat.le_of_ble_eq_true rfl, Nat.le_of_ble_eq_true rfl⟩ (fun z ce H locs hP hS h1 h2 h3 => ?_)
  have hpass : ∀ z ∈ ([] : List ExceptionTableEntry), covers z 5 = false ∨ (z.catchType ≠ 0 ∧ ∃ nm : String, (Cond.classLink RL z.catchType nm).before args s0 = true ∧ va_Nc "java/lang/IndexOutOfBoundsException" nm s0) := fun z hz => by cases hz
  refine vx_catch S.2.2.2.1 [] ⟨0, 10, 13, 25⟩ [⟨0, 10, 17, 13⟩, ⟨0, 10, 21, 19⟩] (by rw [htab]; rfl) hpass (by decide) (by decide) (S.2.2.2.2 _ clL_25) (cc_word hZ.2.2.1 cst_ibe) h1 h2 h3 ?_
  refine lv_astore (lv' := [(4, .ref z), (0, .ref b), (1, .int x1), (2, .int x2), (3, .ref o)]) hx hb dL_draw_13 hl (by decide) rfl (fun ls hl => ?_)
  refine lv_iconst (v := 1) hx hb dL_draw_15 (by decide) ?_
  exact eNi S hr hlk (fun _ => 0) hP hD hS dL_draw_16 rfl rfl
set_option maxHeartbeats 4000000 in
set_option maxRecDepth 100000 in
theorem ht_draw_2 (l : Launch) (dg : va_G) (cA : Nat → ClassId) {X : va_W} {b o : Nat} {fs : List Value} {f : Nat → Int64} {rm : Room} (x1 x2 : Int32) (he : X[0]? = some (b, .inr (5, fs))) (hM : MetX l dg cA yX5_draw cX5_draw 5 (some .int) rm X [.ref b, .int x1, .int x2] "java/lang/IllegalArgumentException") (hb1 : rm.cells = 1) (hb2 : rm.slots = 6) (hb3 : rm.frames ≤ 8) (hb4 : rm.locals ≤ 200) (sz : Nat) : MetZ l dg cA yL_draw cL_draw 5 [(0, 10, 13, 25), (0, 10, 17, 13), (0, 10, 21, 19)] ({ frames := 9, cells := 1, slots := 6, locals := 250 } : Room) 1 6 (X ++ [lo cA o f]) sz [.ref b, .int x1, .int x2, .ref o] (fun _ => X ++ [lo cA o f]) 2 := by
  refine ofZ (by decide) (Nat.le_of_ble_eq_true rfl) (own := RL) rfl (fun p e s0 m args below meth ccd ls A hAe S hr hlk htab hK hZ hN hP hD hS hA hsz hl => ?_)
  have hx := S.1
  have hb := S.2.1
  have hl : lv_has ls 5 [(0, .ref b), (1, .int x1), (2, .int x2), (3, .ref o)] := hl
  refine lv_aload_n hx hb dL_draw_0 rfl (lv_at hl 3 rfl) ?_
  refine lv_iconst (v := 0) hx hb dL_draw_1 (by decide) ?_
  refine lv_aload_n hx hb dL_draw_2 rfl (lv_at hl 0 rfl) ?_
  refine lv_iload_n hx hb dL_draw_3 rfl (lv_at hl 1 rfl) ?_
  refine lv_iload_n hx hb dL_draw_4 rfl (lv_at hl 2 rfl) ?_
  refine cXF (A := A) S hM kL_30 ⟨hb1, hb2, by show rm.frames + 1 ≤ 9; omega, by show 8 + (5 + 11) + rm.locals ≤ 250; omega⟩ hK hZ hP 0 he (q := (RX5, TX5, 9)) rfl rfl (As := [.int x1, .int x2]) rfl hl.1 (rest := [.int 0, .ref o]) rfl (Nat.le_of_ble_eq_true rfl) dL_draw_5 ⟨Nat.le_of_ble_eq_true rfl, Nat.le_of_ble_eq_true rfl⟩ (fun z ce H locs hP hS h1 h2 h3 => ?_)
  have hpass : ∀ z ∈ ([⟨0, 10, 13, 25⟩] : List ExceptionTableEntry), covers z 5 = false ∨ (z.catchType ≠ 0 ∧ ∃ nm : String, (Cond.classLink RL z.catchType nm).before args s0 = true ∧ va_Nc "java/lang/IllegalArgumentException" nm s0) := fun z hz => by
    simp only [List.mem_cons, List.not_mem_nil, or_false] at hz
    rcases hz with rfl
    exact Or.inr ⟨by decide, _, S.2.2.2.2 _ clL_25, hN.1⟩
  refine vx_catch S.2.2.2.1 [⟨0, 10, 13, 25⟩] ⟨0, 10, 17, 13⟩ [⟨0, 10, 21, 19⟩] (by rw [htab]; rfl) hpass (by decide) (by decide) (S.2.2.2.2 _ clL_13) (cc_word hZ.2.2.1 cst_iae) h1 h2 h3 ?_
  refine lv_astore (lv' := [(4, .ref z), (0, .ref b), (1, .int x1), (2, .int x2), (3, .ref o)]) hx hb dL_draw_17 hl (by decide) rfl (fun ls hl => ?_)
  refine lv_iconst (v := 2) hx hb dL_draw_19 (by decide) ?_
  exact eNi S hr hlk (fun _ => 0) hP hD hS dL_draw_20 rfl rfl
set_option maxHeartbeats 4000000 in
set_option maxRecDepth 100000 in
theorem ht_draw_3 (l : Launch) (dg : va_G) (cA : Nat → ClassId) {X : va_W} {b o : Nat} {fs : List Value} {f : Nat → Int64} {rm : Room} (x1 x2 : Int32) (he : X[0]? = some (b, .inr (5, fs))) (hM : MetX l dg cA yX5_draw cX5_draw 5 (some .int) rm X [.ref b, .int x1, .int x2] "java/lang/IllegalStateException") (hb1 : rm.cells = 1) (hb2 : rm.slots = 6) (hb3 : rm.frames ≤ 8) (hb4 : rm.locals ≤ 200) (sz : Nat) : MetZ l dg cA yL_draw cL_draw 5 [(0, 10, 13, 25), (0, 10, 17, 13), (0, 10, 21, 19)] ({ frames := 9, cells := 1, slots := 6, locals := 250 } : Room) 1 6 (X ++ [lo cA o f]) sz [.ref b, .int x1, .int x2, .ref o] (fun _ => X ++ [lo cA o f]) 3 := by
  refine ofZ (by decide) (Nat.le_of_ble_eq_true rfl) (own := RL) rfl (fun p e s0 m args below meth ccd ls A hAe S hr hlk htab hK hZ hN hP hD hS hA hsz hl => ?_)
  have hx := S.1
  have hb := S.2.1
  have hl : lv_has ls 5 [(0, .ref b), (1, .int x1), (2, .int x2), (3, .ref o)] := hl
  refine lv_aload_n hx hb dL_draw_0 rfl (lv_at hl 3 rfl) ?_
  refine lv_iconst (v := 0) hx hb dL_draw_1 (by decide) ?_
  refine lv_aload_n hx hb dL_draw_2 rfl (lv_at hl 0 rfl) ?_
  refine lv_iload_n hx hb dL_draw_3 rfl (lv_at hl 1 rfl) ?_
  refine lv_iload_n hx hb dL_draw_4 rfl (lv_at hl 2 rfl) ?_
  refine cXF (A := A) S hM kL_30 ⟨hb1, hb2, by show rm.frames + 1 ≤ 9; omega, by show 8 + (5 + 11) + rm.locals ≤ 250; omega⟩ hK hZ hP 0 he (q := (RX5, TX5, 9)) rfl rfl (As := [.int x1, .int x2]) rfl hl.1 (rest := [.int 0, .ref o]) rfl (Nat.le_of_ble_eq_true rfl) dL_draw_5 ⟨Nat.le_of_ble_eq_true rfl, Nat.le_of_ble_eq_true rfl⟩ (fun z ce H locs hP hS h1 h2 h3 => ?_)
  have hpass : ∀ z ∈ ([⟨0, 10, 13, 25⟩, ⟨0, 10, 17, 13⟩] : List ExceptionTableEntry), covers z 5 = false ∨ (z.catchType ≠ 0 ∧ ∃ nm : String, (Cond.classLink RL z.catchType nm).before args s0 = true ∧ va_Nc "java/lang/IllegalStateException" nm s0) := fun z hz => by
    simp only [List.mem_cons, List.not_mem_nil, or_false] at hz
    rcases hz with rfl | rfl
    · exact Or.inr ⟨by decide, _, S.2.2.2.2 _ clL_25, hN.2.1⟩
    · exact Or.inr ⟨by decide, _, S.2.2.2.2 _ clL_13, hN.2.2.1⟩
  refine vx_catch S.2.2.2.1 [⟨0, 10, 13, 25⟩, ⟨0, 10, 17, 13⟩] ⟨0, 10, 21, 19⟩ [] (by rw [htab]; rfl) hpass (by decide) (by decide) (S.2.2.2.2 _ clL_19) (cc_word hZ.2.2.1 cst_ise) h1 h2 h3 ?_
  refine lv_astore (lv' := [(4, .ref z), (0, .ref b), (1, .int x1), (2, .int x2), (3, .ref o)]) hx hb dL_draw_21 hl (by decide) rfl (fun ls hl => ?_)
  refine lv_iconst (v := 3) hx hb dL_draw_23 (by decide) ?_
  exact eNi S hr hlk (fun _ => 0) hP hD hS dL_draw_24 rfl rfl
set_option maxHeartbeats 4000000 in
set_option maxRecDepth 100000 in
theorem hs_roundSize (l : Launch) (dg : va_G) (cA : Nat → ClassId) {X : va_W} {ws1 : (Nat → Nat) → va_W} {b o mc ms : Nat} {fs : List Value} {f : Nat → Int64} {rm : Room} (x1 : Int32) {v : Int32} (he : X[0]? = some (b, .inr (5, fs))) (hM : ∀ sz, MetN l dg cA yX5_roundSize cX5_roundSize 2 (some .int) rm mc ms X sz [.ref b, .int x1] ws1 (some (.int v))) (hb1 : rm.cells = mc) (hb2 : rm.slots = ms) (hb3 : rm.frames ≤ 8) (hb4 : rm.locals ≤ 200) (sz : Nat) : MetZ l dg cA yL_roundSize cL_roundSize 4 [(0, 9, 12, 25)] ({ frames := 9, cells := mc, slots := ms, locals := 250 } : Room) mc ms (X ++ [lo cA o f]) sz [.ref b, .int x1, .ref o] (fun u => ws1 u ++ [lo cA o (vp_updL f 0 v.toInt64)]) 0 := by
  refine ofZ (by decide) (Nat.le_of_ble_eq_true rfl) (own := RL) rfl (fun p e s0 m args below meth ccd ls A hAe S hr hlk htab hK hZ hN hP hD hS hA hsz hl => ?_)
  have hx := S.1
  have hb := S.2.1
  have hl : lv_has ls 4 [(0, .ref b), (1, .int x1), (2, .ref o)] := hl
  refine lv_aload_n hx hb dL_roundSize_0 rfl (lv_at hl 2 rfl) ?_
  refine lv_iconst (v := 0) hx hb dL_roundSize_1 (by decide) ?_
  refine lv_aload_n hx hb dL_roundSize_2 rfl (lv_at hl 0 rfl) ?_
  refine lv_iload_n hx hb dL_roundSize_3 rfl (lv_at hl 1 rfl) ?_
  refine cNF S (hM _) kL_34 ⟨hb1, hb2, by show rm.frames + 1 ≤ 9; omega, by show 8 + (2 + 11) + rm.locals ≤ 250; omega⟩ hK hP hD hS hA 0 he (q := (RX5, TX5, 9)) rfl rfl (As := [.int x1]) rfl hl.1 (rest := [.int 0, .ref o]) rfl (Nat.le_of_ble_eq_true rfl) dL_roundSize_4 ⟨Nat.le_of_eq (Nat.zero_add _), Nat.le_of_eq (Nat.zero_add _)⟩ (st1 := [.int v, .int 0, .ref o]) rfl (fun u H locs hP hD hS => ?_)
  refine lv_i2l (v := v.toInt64) hx hb dL_roundSize_7 rfl ?_
  refine va_last hx hb hK hP hD hS (ws1 u).length 4 gl_last rfl vi01 dL_roundSize_8 (fun H locs hP hD hS => ?_)
  rw [st_last, z0n] at hP hD
  refine lv_goto (tgt := 15) hx hb dL_roundSize_9 (by decide) ?_
  refine lv_iconst (v := 0) hx hb dL_roundSize_15 (by decide) ?_
  refine W.widen (k := mc) (n := ms) (by omega) (by omega) ?_
  exact eNi S hr hlk u hP hD hS dL_roundSize_16 rfl rfl
set_option maxHeartbeats 4000000 in
set_option maxRecDepth 100000 in
theorem ht_roundSize_1 (l : Launch) (dg : va_G) (cA : Nat → ClassId) {X : va_W} {b o : Nat} {fs : List Value} {f : Nat → Int64} {rm : Room} (x1 : Int32) (he : X[0]? = some (b, .inr (5, fs))) (hM : MetX l dg cA yX5_roundSize cX5_roundSize 2 (some .int) rm X [.ref b, .int x1] "java/lang/IndexOutOfBoundsException") (hb1 : rm.cells = 1) (hb2 : rm.slots = 6) (hb3 : rm.frames ≤ 8) (hb4 : rm.locals ≤ 200) (sz : Nat) : MetZ l dg cA yL_roundSize cL_roundSize 4 [(0, 9, 12, 25)] ({ frames := 9, cells := 1, slots := 6, locals := 250 } : Room) 1 6 (X ++ [lo cA o f]) sz [.ref b, .int x1, .ref o] (fun _ => X ++ [lo cA o f]) 1 := by
  refine ofZ (by decide) (Nat.le_of_ble_eq_true rfl) (own := RL) rfl (fun p e s0 m args below meth ccd ls A hAe S hr hlk htab hK hZ hN hP hD hS hA hsz hl => ?_)
  have hx := S.1
  have hb := S.2.1
  have hl : lv_has ls 4 [(0, .ref b), (1, .int x1), (2, .ref o)] := hl
  refine lv_aload_n hx hb dL_roundSize_0 rfl (lv_at hl 2 rfl) ?_
  refine lv_iconst (v := 0) hx hb dL_roundSize_1 (by decide) ?_
  refine lv_aload_n hx hb dL_roundSize_2 rfl (lv_at hl 0 rfl) ?_
  refine lv_iload_n hx hb dL_roundSize_3 rfl (lv_at hl 1 rfl) ?_
  refine cXF (A := A) S hM kL_34 ⟨hb1, hb2, by show rm.frames + 1 ≤ 9; omega, by show 8 + (2 + 11) + rm.locals ≤ 250; omega⟩ hK hZ hP 0 he (q := (RX5, TX5, 9)) rfl rfl (As := [.int x1]) rfl hl.1 (rest := [.int 0, .ref o]) rfl (Nat.le_of_ble_eq_true rfl) dL_roundSize_4 ⟨Nat.le_of_ble_eq_true rfl, Nat.le_of_ble_eq_true rfl⟩ (fun z ce H locs hP hS h1 h2 h3 => ?_)
  have hpass : ∀ z ∈ ([] : List ExceptionTableEntry), covers z 4 = false ∨ (z.catchType ≠ 0 ∧ ∃ nm : String, (Cond.classLink RL z.catchType nm).before args s0 = true ∧ va_Nc "java/lang/IndexOutOfBoundsException" nm s0) := fun z hz => by cases hz
  refine vx_catch S.2.2.2.1 [] ⟨0, 9, 12, 25⟩ [] (by rw [htab]; rfl) hpass (by decide) (by decide) (S.2.2.2.2 _ clL_25) (cc_word hZ.2.2.1 cst_ibe) h1 h2 h3 ?_
  refine lv_astore_n (lv' := [(3, .ref z), (0, .ref b), (1, .int x1), (2, .ref o)]) hx hb dL_roundSize_12 rfl hl (by decide) rfl (fun ls hl => ?_)
  refine lv_iconst (v := 1) hx hb dL_roundSize_13 (by decide) ?_
  exact eNi S hr hlk (fun _ => 0) hP hD hS dL_roundSize_14 rfl rfl
set_option maxHeartbeats 4000000 in
set_option maxRecDepth 100000 in
theorem hs_roundAt (l : Launch) (dg : va_G) (cA : Nat → ClassId) {X : va_W} {ws1 : (Nat → Nat) → va_W} {b o mc ms : Nat} {fs : List Value} {f : Nat → Int64} {rm : Room} (x1 x2 : Int32) {v : Int32} (he : X[0]? = some (b, .inr (5, fs))) (hM : ∀ sz, MetN l dg cA yX5_roundAt cX5_roundAt 4 (some .int) rm mc ms X sz [.ref b, .int x1, .int x2] ws1 (some (.int v))) (hb1 : rm.cells = mc) (hb2 : rm.slots = ms) (hb3 : rm.frames ≤ 8) (hb4 : rm.locals ≤ 200) (sz : Nat) : MetZ l dg cA yL_roundAt cL_roundAt 5 [(0, 10, 13, 25), (0, 10, 17, 40)] ({ frames := 9, cells := mc, slots := ms, locals := 250 } : Room) mc ms (X ++ [lo cA o f]) sz [.ref b, .int x1, .int x2, .ref o] (fun u => ws1 u ++ [lo cA o (vp_updL f 0 v.toInt64)]) 0 := by
  refine ofZ (by decide) (Nat.le_of_ble_eq_true rfl) (own := RL) rfl (fun p e s0 m args below meth ccd ls A hAe S hr hlk htab hK hZ hN hP hD hS hA hsz hl => ?_)
  have hx := S.1
  have hb := S.2.1
  have hl : lv_has ls 5 [(0, .ref b), (1, .int x1), (2, .int x2), (3, .ref o)] := hl
  refine lv_aload_n hx hb dL_roundAt_0 rfl (lv_at hl 3 rfl) ?_
  refine lv_iconst (v := 0) hx hb dL_roundAt_1 (by decide) ?_
  refine lv_aload_n hx hb dL_roundAt_2 rfl (lv_at hl 0 rfl) ?_
  refine lv_iload_n hx hb dL_roundAt_3 rfl (lv_at hl 1 rfl) ?_
  refine lv_iload_n hx hb dL_roundAt_4 rfl (lv_at hl 2 rfl) ?_
  refine cNF S (hM _) kL_37 ⟨hb1, hb2, by show rm.frames + 1 ≤ 9; omega, by show 8 + (4 + 11) + rm.locals ≤ 250; omega⟩ hK hP hD hS hA 0 he (q := (RX5, TX5, 9)) rfl rfl (As := [.int x1, .int x2]) rfl hl.1 (rest := [.int 0, .ref o]) rfl (Nat.le_of_ble_eq_true rfl) dL_roundAt_5 ⟨Nat.le_of_eq (Nat.zero_add _), Nat.le_of_eq (Nat.zero_add _)⟩ (st1 := [.int v, .int 0, .ref o]) rfl (fun u H locs hP hD hS => ?_)
  refine lv_i2l (v := v.toInt64) hx hb dL_roundAt_8 rfl ?_
  refine va_last hx hb hK hP hD hS (ws1 u).length 4 gl_last rfl vi01 dL_roundAt_9 (fun H locs hP hD hS => ?_)
  rw [st_last, z0n] at hP hD
  refine lv_goto (tgt := 21) hx hb dL_roundAt_10 (by decide) ?_
  refine lv_iconst (v := 0) hx hb dL_roundAt_21 (by decide) ?_
  refine W.widen (k := mc) (n := ms) (by omega) (by omega) ?_
  exact eNi S hr hlk u hP hD hS dL_roundAt_22 rfl rfl
set_option maxHeartbeats 4000000 in
set_option maxRecDepth 100000 in
theorem ht_roundAt_1 (l : Launch) (dg : va_G) (cA : Nat → ClassId) {X : va_W} {b o : Nat} {fs : List Value} {f : Nat → Int64} {rm : Room} (x1 x2 : Int32) (he : X[0]? = some (b, .inr (5, fs))) (hM : MetX l dg cA yX5_roundAt cX5_roundAt 4 (some .int) rm X [.ref b, .int x1, .int x2] "java/lang/IndexOutOfBoundsException") (hb1 : rm.cells = 1) (hb2 : rm.slots = 6) (hb3 : rm.frames ≤ 8) (hb4 : rm.locals ≤ 200) (sz : Nat) : MetZ l dg cA yL_roundAt cL_roundAt 5 [(0, 10, 13, 25), (0, 10, 17, 40)] ({ frames := 9, cells := 1, slots := 6, locals := 250 } : Room) 1 6 (X ++ [lo cA o f]) sz [.ref b, .int x1, .int x2, .ref o] (fun _ => X ++ [lo cA o f]) 1 := by
  refine ofZ (by decide) (Nat.le_of_ble_eq_true rfl) (own := RL) rfl (fun p e s0 m args below meth ccd ls A hAe S hr hlk htab hK hZ hN hP hD hS hA hsz hl => ?_)
  have hx := S.1
  have hb := S.2.1
  have hl : lv_has ls 5 [(0, .ref b), (1, .int x1), (2, .int x2), (3, .ref o)] := hl
  refine lv_aload_n hx hb dL_roundAt_0 rfl (lv_at hl 3 rfl) ?_
  refine lv_iconst (v := 0) hx hb dL_roundAt_1 (by decide) ?_
  refine lv_aload_n hx hb dL_roundAt_2 rfl (lv_at hl 0 rfl) ?_
  refine lv_iload_n hx hb dL_roundAt_3 rfl (lv_at hl 1 rfl) ?_
  refine lv_iload_n hx hb dL_roundAt_4 rfl (lv_at hl 2 rfl) ?_
  refine cXF (A := A) S hM kL_37 ⟨hb1, hb2, by show rm.frames + 1 ≤ 9; omega, by show 8 + (4 + 11) + rm.locals ≤ 250; omega⟩ hK hZ hP 0 he (q := (RX5, TX5, 9)) rfl rfl (As := [.int x1, .int x2]) rfl hl.1 (rest := [.int 0, .ref o]) rfl (Nat.le_of_ble_eq_true rfl) dL_roundAt_5 ⟨Nat.le_of_ble_eq_true rfl, Nat.le_of_ble_eq_true rfl⟩ (fun z ce H locs hP hS h1 h2 h3 => ?_)
  have hpass : ∀ z ∈ ([] : List ExceptionTableEntry), covers z 5 = false ∨ (z.catchType ≠ 0 ∧ ∃ nm : String, (Cond.classLink RL z.catchType nm).before args s0 = true ∧ va_Nc "java/lang/IndexOutOfBoundsException" nm s0) := fun z hz => by cases hz
  refine vx_catch S.2.2.2.1 [] ⟨0, 10, 13, 25⟩ [⟨0, 10, 17, 40⟩] (by rw [htab]; rfl) hpass (by decide) (by decide) (S.2.2.2.2 _ clL_25) (cc_word hZ.2.2.1 cst_ibe) h1 h2 h3 ?_
  refine lv_astore (lv' := [(4, .ref z), (0, .ref b), (1, .int x1), (2, .int x2), (3, .ref o)]) hx hb dL_roundAt_13 hl (by decide) rfl (fun ls hl => ?_)
  refine lv_iconst (v := 1) hx hb dL_roundAt_15 (by decide) ?_
  exact eNi S hr hlk (fun _ => 0) hP hD hS dL_roundAt_16 rfl rfl
set_option maxHeartbeats 4000000 in
set_option maxRecDepth 100000 in
theorem ht_roundAt_2 (l : Launch) (dg : va_G) (cA : Nat → ClassId) {X : va_W} {b o : Nat} {fs : List Value} {f : Nat → Int64} {rm : Room} (x1 x2 : Int32) (he : X[0]? = some (b, .inr (5, fs))) (hM : MetX l dg cA yX5_roundAt cX5_roundAt 4 (some .int) rm X [.ref b, .int x1, .int x2] "java/util/NoSuchElementException") (hb1 : rm.cells = 1) (hb2 : rm.slots = 6) (hb3 : rm.frames ≤ 8) (hb4 : rm.locals ≤ 200) (sz : Nat) : MetZ l dg cA yL_roundAt cL_roundAt 5 [(0, 10, 13, 25), (0, 10, 17, 40)] ({ frames := 9, cells := 1, slots := 6, locals := 250 } : Room) 1 6 (X ++ [lo cA o f]) sz [.ref b, .int x1, .int x2, .ref o] (fun _ => X ++ [lo cA o f]) 2 := by
  refine ofZ (by decide) (Nat.le_of_ble_eq_true rfl) (own := RL) rfl (fun p e s0 m args below meth ccd ls A hAe S hr hlk htab hK hZ hN hP hD hS hA hsz hl => ?_)
  have hx := S.1
  have hb := S.2.1
  have hl : lv_has ls 5 [(0, .ref b), (1, .int x1), (2, .int x2), (3, .ref o)] := hl
  refine lv_aload_n hx hb dL_roundAt_0 rfl (lv_at hl 3 rfl) ?_
  refine lv_iconst (v := 0) hx hb dL_roundAt_1 (by decide) ?_
  refine lv_aload_n hx hb dL_roundAt_2 rfl (lv_at hl 0 rfl) ?_
  refine lv_iload_n hx hb dL_roundAt_3 rfl (lv_at hl 1 rfl) ?_
  refine lv_iload_n hx hb dL_roundAt_4 rfl (lv_at hl 2 rfl) ?_
  refine cXF (A := A) S hM kL_37 ⟨hb1, hb2, by show rm.frames + 1 ≤ 9; omega, by show 8 + (4 + 11) + rm.locals ≤ 250; omega⟩ hK hZ hP 0 he (q := (RX5, TX5, 9)) rfl rfl (As := [.int x1, .int x2]) rfl hl.1 (rest := [.int 0, .ref o]) rfl (Nat.le_of_ble_eq_true rfl) dL_roundAt_5 ⟨Nat.le_of_ble_eq_true rfl, Nat.le_of_ble_eq_true rfl⟩ (fun z ce H locs hP hS h1 h2 h3 => ?_)
  have hpass : ∀ z ∈ ([⟨0, 10, 13, 25⟩] : List ExceptionTableEntry), covers z 5 = false ∨ (z.catchType ≠ 0 ∧ ∃ nm : String, (Cond.classLink RL z.catchType nm).before args s0 = true ∧ va_Nc "java/util/NoSuchElementException" nm s0) := fun z hz => by
    simp only [List.mem_cons, List.not_mem_nil, or_false] at hz
    rcases hz with rfl
    exact Or.inr ⟨by decide, _, S.2.2.2.2 _ clL_25, hN.2.2.2⟩
  refine vx_catch S.2.2.2.1 [⟨0, 10, 13, 25⟩] ⟨0, 10, 17, 40⟩ [] (by rw [htab]; rfl) hpass (by decide) (by decide) (S.2.2.2.2 _ clL_40) (cc_word hZ.2.2.1 cst_nse) h1 h2 h3 ?_
  refine lv_astore (lv' := [(4, .ref z), (0, .ref b), (1, .int x1), (2, .int x2), (3, .ref o)]) hx hb dL_roundAt_17 hl (by decide) rfl (fun ls hl => ?_)
  refine lv_iconst (v := 2) hx hb dL_roundAt_19 (by decide) ?_
  exact eNi S hr hlk (fun _ => 0) hP hD hS dL_roundAt_20 rfl rfl
set_option maxHeartbeats 4000000 in
set_option maxRecDepth 100000 in
theorem hs_roundMinutes (l : Launch) (dg : va_G) (cA : Nat → ClassId) {X : va_W} {ws1 : (Nat → Nat) → va_W} {b o mc ms : Nat} {fs : List Value} {f : Nat → Int64} {rm : Room} (x1 : Int32) {v : Int32} (he : X[0]? = some (b, .inr (5, fs))) (hM : ∀ sz, MetN l dg cA yX5_roundMinutes cX5_roundMinutes 2 (some .int) rm mc ms X sz [.ref b, .int x1] ws1 (some (.int v))) (hb1 : rm.cells = mc) (hb2 : rm.slots = ms) (hb3 : rm.frames ≤ 8) (hb4 : rm.locals ≤ 200) (sz : Nat) : MetZ l dg cA yL_roundMinutes cL_roundMinutes 4 [(0, 9, 12, 25)] ({ frames := 9, cells := mc, slots := ms, locals := 250 } : Room) mc ms (X ++ [lo cA o f]) sz [.ref b, .int x1, .ref o] (fun u => ws1 u ++ [lo cA o (vp_updL f 0 v.toInt64)]) 0 := by
  refine ofZ (by decide) (Nat.le_of_ble_eq_true rfl) (own := RL) rfl (fun p e s0 m args below meth ccd ls A hAe S hr hlk htab hK hZ hN hP hD hS hA hsz hl => ?_)
  have hx := S.1
  have hb := S.2.1
  have hl : lv_has ls 4 [(0, .ref b), (1, .int x1), (2, .ref o)] := hl
  refine lv_aload_n hx hb dL_roundMinutes_0 rfl (lv_at hl 2 rfl) ?_
  refine lv_iconst (v := 0) hx hb dL_roundMinutes_1 (by decide) ?_
  refine lv_aload_n hx hb dL_roundMinutes_2 rfl (lv_at hl 0 rfl) ?_
  refine lv_iload_n hx hb dL_roundMinutes_3 rfl (lv_at hl 1 rfl) ?_
  refine cNF S (hM _) kL_42 ⟨hb1, hb2, by show rm.frames + 1 ≤ 9; omega, by show 8 + (2 + 11) + rm.locals ≤ 250; omega⟩ hK hP hD hS hA 0 he (q := (RX5, TX5, 9)) rfl rfl (As := [.int x1]) rfl hl.1 (rest := [.int 0, .ref o]) rfl (Nat.le_of_ble_eq_true rfl) dL_roundMinutes_4 ⟨Nat.le_of_eq (Nat.zero_add _), Nat.le_of_eq (Nat.zero_add _)⟩ (st1 := [.int v, .int 0, .ref o]) rfl (fun u H locs hP hD hS => ?_)
  refine lv_i2l (v := v.toInt64) hx hb dL_roundMinutes_7 rfl ?_
  refine va_last hx hb hK hP hD hS (ws1 u).length 4 gl_last rfl vi01 dL_roundMinutes_8 (fun H locs hP hD hS => ?_)
  rw [st_last, z0n] at hP hD
  refine lv_goto (tgt := 15) hx hb dL_roundMinutes_9 (by decide) ?_
  refine lv_iconst (v := 0) hx hb dL_roundMinutes_15 (by decide) ?_
  refine W.widen (k := mc) (n := ms) (by omega) (by omega) ?_
  exact eNi S hr hlk u hP hD hS dL_roundMinutes_16 rfl rfl
set_option maxHeartbeats 4000000 in
set_option maxRecDepth 100000 in
theorem ht_roundMinutes_1 (l : Launch) (dg : va_G) (cA : Nat → ClassId) {X : va_W} {b o : Nat} {fs : List Value} {f : Nat → Int64} {rm : Room} (x1 : Int32) (he : X[0]? = some (b, .inr (5, fs))) (hM : MetX l dg cA yX5_roundMinutes cX5_roundMinutes 2 (some .int) rm X [.ref b, .int x1] "java/lang/IndexOutOfBoundsException") (hb1 : rm.cells = 1) (hb2 : rm.slots = 6) (hb3 : rm.frames ≤ 8) (hb4 : rm.locals ≤ 200) (sz : Nat) : MetZ l dg cA yL_roundMinutes cL_roundMinutes 4 [(0, 9, 12, 25)] ({ frames := 9, cells := 1, slots := 6, locals := 250 } : Room) 1 6 (X ++ [lo cA o f]) sz [.ref b, .int x1, .ref o] (fun _ => X ++ [lo cA o f]) 1 := by
  refine ofZ (by decide) (Nat.le_of_ble_eq_true rfl) (own := RL) rfl (fun p e s0 m args below meth ccd ls A hAe S hr hlk htab hK hZ hN hP hD hS hA hsz hl => ?_)
  have hx := S.1
  have hb := S.2.1
  have hl : lv_has ls 4 [(0, .ref b), (1, .int x1), (2, .ref o)] := hl
  refine lv_aload_n hx hb dL_roundMinutes_0 rfl (lv_at hl 2 rfl) ?_
  refine lv_iconst (v := 0) hx hb dL_roundMinutes_1 (by decide) ?_
  refine lv_aload_n hx hb dL_roundMinutes_2 rfl (lv_at hl 0 rfl) ?_
  refine lv_iload_n hx hb dL_roundMinutes_3 rfl (lv_at hl 1 rfl) ?_
  refine cXF (A := A) S hM kL_42 ⟨hb1, hb2, by show rm.frames + 1 ≤ 9; omega, by show 8 + (2 + 11) + rm.locals ≤ 250; omega⟩ hK hZ hP 0 he (q := (RX5, TX5, 9)) rfl rfl (As := [.int x1]) rfl hl.1 (rest := [.int 0, .ref o]) rfl (Nat.le_of_ble_eq_true rfl) dL_roundMinutes_4 ⟨Nat.le_of_ble_eq_true rfl, Nat.le_of_ble_eq_true rfl⟩ (fun z ce H locs hP hS h1 h2 h3 => ?_)
  have hpass : ∀ z ∈ ([] : List ExceptionTableEntry), covers z 4 = false ∨ (z.catchType ≠ 0 ∧ ∃ nm : String, (Cond.classLink RL z.catchType nm).before args s0 = true ∧ va_Nc "java/lang/IndexOutOfBoundsException" nm s0) := fun z hz => by cases hz
  refine vx_catch S.2.2.2.1 [] ⟨0, 9, 12, 25⟩ [] (by rw [htab]; rfl) hpass (by decide) (by decide) (S.2.2.2.2 _ clL_25) (cc_word hZ.2.2.1 cst_ibe) h1 h2 h3 ?_
  refine lv_astore_n (lv' := [(3, .ref z), (0, .ref b), (1, .int x1), (2, .ref o)]) hx hb dL_roundMinutes_12 rfl hl (by decide) rfl (fun ls hl => ?_)
  refine lv_iconst (v := 1) hx hb dL_roundMinutes_13 (by decide) ?_
  exact eNi S hr hlk (fun _ => 0) hP hD hS dL_roundMinutes_14 rfl rfl
set_option maxHeartbeats 4000000 in
set_option maxRecDepth 100000 in
theorem hs_visit (l : Launch) (dg : va_G) (cA : Nat → ClassId) {X : va_W} {ws1 : (Nat → Nat) → va_W} {b o mc ms : Nat} {fs : List Value} {f : Nat → Int64} {rm : Room} (x1 x2 x3 : Int32) {v : Int32} (he : X[0]? = some (b, .inr (5, fs))) (hM : ∀ sz, MetN l dg cA yX5_visit cX5_visit 6 (some .int) rm mc ms X sz [.ref b, .int x1, .int x2, .int x3] ws1 (some (.int v))) (hb1 : rm.cells = mc) (hb2 : rm.slots = ms) (hb3 : rm.frames ≤ 8) (hb4 : rm.locals ≤ 200) (sz : Nat) : MetZ l dg cA yL_visit cL_visit 6 [(0, 12, 15, 25), (0, 12, 19, 13), (0, 12, 23, 19)] ({ frames := 9, cells := mc, slots := ms, locals := 250 } : Room) mc ms (X ++ [lo cA o f]) sz [.ref b, .int x1, .int x2, .int x3, .ref o] (fun u => ws1 u ++ [lo cA o (vp_updL f 0 v.toInt64)]) 0 := by
  refine ofZ (by decide) (Nat.le_of_ble_eq_true rfl) (own := RL) rfl (fun p e s0 m args below meth ccd ls A hAe S hr hlk htab hK hZ hN hP hD hS hA hsz hl => ?_)
  have hx := S.1
  have hb := S.2.1
  have hl : lv_has ls 6 [(0, .ref b), (1, .int x1), (2, .int x2), (3, .int x3), (4, .ref o)] := hl
  refine lv_aload hx hb dL_visit_0 (lv_at hl 4 rfl) ?_
  refine lv_iconst (v := 0) hx hb dL_visit_2 (by decide) ?_
  refine lv_aload_n hx hb dL_visit_3 rfl (lv_at hl 0 rfl) ?_
  refine lv_iload_n hx hb dL_visit_4 rfl (lv_at hl 1 rfl) ?_
  refine lv_iload_n hx hb dL_visit_5 rfl (lv_at hl 2 rfl) ?_
  refine lv_iload_n hx hb dL_visit_6 rfl (lv_at hl 3 rfl) ?_
  refine cNF S (hM _) kL_45 ⟨hb1, hb2, by show rm.frames + 1 ≤ 9; omega, by show 8 + (6 + 11) + rm.locals ≤ 250; omega⟩ hK hP hD hS hA 0 he (q := (RX5, TX5, 9)) rfl rfl (As := [.int x1, .int x2, .int x3]) rfl hl.1 (rest := [.int 0, .ref o]) rfl (Nat.le_of_ble_eq_true rfl) dL_visit_7 ⟨Nat.le_of_eq (Nat.zero_add _), Nat.le_of_eq (Nat.zero_add _)⟩ (st1 := [.int v, .int 0, .ref o]) rfl (fun u H locs hP hD hS => ?_)
  refine lv_i2l (v := v.toInt64) hx hb dL_visit_10 rfl ?_
  refine va_last hx hb hK hP hD hS (ws1 u).length 4 gl_last rfl vi01 dL_visit_11 (fun H locs hP hD hS => ?_)
  rw [st_last, z0n] at hP hD
  refine lv_goto (tgt := 27) hx hb dL_visit_12 (by decide) ?_
  refine lv_iconst (v := 0) hx hb dL_visit_27 (by decide) ?_
  refine W.widen (k := mc) (n := ms) (by omega) (by omega) ?_
  exact eNi S hr hlk u hP hD hS dL_visit_28 rfl rfl
set_option maxHeartbeats 4000000 in
set_option maxRecDepth 100000 in
theorem ht_visit_1 (l : Launch) (dg : va_G) (cA : Nat → ClassId) {X : va_W} {b o : Nat} {fs : List Value} {f : Nat → Int64} {rm : Room} (x1 x2 x3 : Int32) (he : X[0]? = some (b, .inr (5, fs))) (hM : MetX l dg cA yX5_visit cX5_visit 6 (some .int) rm X [.ref b, .int x1, .int x2, .int x3] "java/lang/IndexOutOfBoundsException") (hb1 : rm.cells = 1) (hb2 : rm.slots = 6) (hb3 : rm.frames ≤ 8) (hb4 : rm.locals ≤ 200) (sz : Nat) : MetZ l dg cA yL_visit cL_visit 6 [(0, 12, 15, 25), (0, 12, 19, 13), (0, 12, 23, 19)] ({ frames := 9, cells := 1, slots := 6, locals := 250 } : Room) 1 6 (X ++ [lo cA o f]) sz [.ref b, .int x1, .int x2, .int x3, .ref o] (fun _ => X ++ [lo cA o f]) 1 := by
  refine ofZ (by decide) (Nat.le_of_ble_eq_true rfl) (own := RL) rfl (fun p e s0 m args below meth ccd ls A hAe S hr hlk htab hK hZ hN hP hD hS hA hsz hl => ?_)
  have hx := S.1
  have hb := S.2.1
  have hl : lv_has ls 6 [(0, .ref b), (1, .int x1), (2, .int x2), (3, .int x3), (4, .ref o)] := hl
  refine lv_aload hx hb dL_visit_0 (lv_at hl 4 rfl) ?_
  refine lv_iconst (v := 0) hx hb dL_visit_2 (by decide) ?_
  refine lv_aload_n hx hb dL_visit_3 rfl (lv_at hl 0 rfl) ?_
  refine lv_iload_n hx hb dL_visit_4 rfl (lv_at hl 1 rfl) ?_
  refine lv_iload_n hx hb dL_visit_5 rfl (lv_at hl 2 rfl) ?_
  refine lv_iload_n hx hb dL_visit_6 rfl (lv_at hl 3 rfl) ?_
  refine cXF (A := A) S hM kL_45 ⟨hb1, hb2, by show rm.frames + 1 ≤ 9; omega, by show 8 + (6 + 11) + rm.locals ≤ 250; omega⟩ hK hZ hP 0 he (q := (RX5, TX5, 9)) rfl rfl (As := [.int x1, .int x2, .int x3]) rfl hl.1 (rest := [.int 0, .ref o]) rfl (Nat.le_of_ble_eq_true rfl) dL_visit_7 ⟨Nat.le_of_ble_eq_true rfl, Nat.le_of_ble_eq_true rfl⟩ (fun z ce H locs hP hS h1 h2 h3 => ?_)
  have hpass : ∀ z ∈ ([] : List ExceptionTableEntry), covers z 7 = false ∨ (z.catchType ≠ 0 ∧ ∃ nm : String, (Cond.classLink RL z.catchType nm).before args s0 = true ∧ va_Nc "java/lang/IndexOutOfBoundsException" nm s0) := fun z hz => by cases hz
  refine vx_catch S.2.2.2.1 [] ⟨0, 12, 15, 25⟩ [⟨0, 12, 19, 13⟩, ⟨0, 12, 23, 19⟩] (by rw [htab]; rfl) hpass (by decide) (by decide) (S.2.2.2.2 _ clL_25) (cc_word hZ.2.2.1 cst_ibe) h1 h2 h3 ?_
  refine lv_astore (lv' := [(5, .ref z), (0, .ref b), (1, .int x1), (2, .int x2), (3, .int x3), (4, .ref o)]) hx hb dL_visit_15 hl (by decide) rfl (fun ls hl => ?_)
  refine lv_iconst (v := 1) hx hb dL_visit_17 (by decide) ?_
  exact eNi S hr hlk (fun _ => 0) hP hD hS dL_visit_18 rfl rfl
set_option maxHeartbeats 4000000 in
set_option maxRecDepth 100000 in
theorem ht_visit_2 (l : Launch) (dg : va_G) (cA : Nat → ClassId) {X : va_W} {b o : Nat} {fs : List Value} {f : Nat → Int64} {rm : Room} (x1 x2 x3 : Int32) (he : X[0]? = some (b, .inr (5, fs))) (hM : MetX l dg cA yX5_visit cX5_visit 6 (some .int) rm X [.ref b, .int x1, .int x2, .int x3] "java/lang/IllegalArgumentException") (hb1 : rm.cells = 1) (hb2 : rm.slots = 6) (hb3 : rm.frames ≤ 8) (hb4 : rm.locals ≤ 200) (sz : Nat) : MetZ l dg cA yL_visit cL_visit 6 [(0, 12, 15, 25), (0, 12, 19, 13), (0, 12, 23, 19)] ({ frames := 9, cells := 1, slots := 6, locals := 250 } : Room) 1 6 (X ++ [lo cA o f]) sz [.ref b, .int x1, .int x2, .int x3, .ref o] (fun _ => X ++ [lo cA o f]) 2 := by
  refine ofZ (by decide) (Nat.le_of_ble_eq_true rfl) (own := RL) rfl (fun p e s0 m args below meth ccd ls A hAe S hr hlk htab hK hZ hN hP hD hS hA hsz hl => ?_)
  have hx := S.1
  have hb := S.2.1
  have hl : lv_has ls 6 [(0, .ref b), (1, .int x1), (2, .int x2), (3, .int x3), (4, .ref o)] := hl
  refine lv_aload hx hb dL_visit_0 (lv_at hl 4 rfl) ?_
  refine lv_iconst (v := 0) hx hb dL_visit_2 (by decide) ?_
  refine lv_aload_n hx hb dL_visit_3 rfl (lv_at hl 0 rfl) ?_
  refine lv_iload_n hx hb dL_visit_4 rfl (lv_at hl 1 rfl) ?_
  refine lv_iload_n hx hb dL_visit_5 rfl (lv_at hl 2 rfl) ?_
  refine lv_iload_n hx hb dL_visit_6 rfl (lv_at hl 3 rfl) ?_
  refine cXF (A := A) S hM kL_45 ⟨hb1, hb2, by show rm.frames + 1 ≤ 9; omega, by show 8 + (6 + 11) + rm.locals ≤ 250; omega⟩ hK hZ hP 0 he (q := (RX5, TX5, 9)) rfl rfl (As := [.int x1, .int x2, .int x3]) rfl hl.1 (rest := [.int 0, .ref o]) rfl (Nat.le_of_ble_eq_true rfl) dL_visit_7 ⟨Nat.le_of_ble_eq_true rfl, Nat.le_of_ble_eq_true rfl⟩ (fun z ce H locs hP hS h1 h2 h3 => ?_)
  have hpass : ∀ z ∈ ([⟨0, 12, 15, 25⟩] : List ExceptionTableEntry), covers z 7 = false ∨ (z.catchType ≠ 0 ∧ ∃ nm : String, (Cond.classLink RL z.catchType nm).before args s0 = true ∧ va_Nc "java/lang/IllegalArgumentException" nm s0) := fun z hz => by
    simp only [List.mem_cons, List.not_mem_nil, or_false] at hz
    rcases hz with rfl
    exact Or.inr ⟨by decide, _, S.2.2.2.2 _ clL_25, hN.1⟩
  refine vx_catch S.2.2.2.1 [⟨0, 12, 15, 25⟩] ⟨0, 12, 19, 13⟩ [⟨0, 12, 23, 19⟩] (by rw [htab]; rfl) hpass (by decide) (by decide) (S.2.2.2.2 _ clL_13) (cc_word hZ.2.2.1 cst_iae) h1 h2 h3 ?_
  refine lv_astore (lv' := [(5, .ref z), (0, .ref b), (1, .int x1), (2, .int x2), (3, .int x3), (4, .ref o)]) hx hb dL_visit_19 hl (by decide) rfl (fun ls hl => ?_)
  refine lv_iconst (v := 2) hx hb dL_visit_21 (by decide) ?_
  exact eNi S hr hlk (fun _ => 0) hP hD hS dL_visit_22 rfl rfl
set_option maxHeartbeats 4000000 in
set_option maxRecDepth 100000 in
theorem ht_visit_3 (l : Launch) (dg : va_G) (cA : Nat → ClassId) {X : va_W} {b o : Nat} {fs : List Value} {f : Nat → Int64} {rm : Room} (x1 x2 x3 : Int32) (he : X[0]? = some (b, .inr (5, fs))) (hM : MetX l dg cA yX5_visit cX5_visit 6 (some .int) rm X [.ref b, .int x1, .int x2, .int x3] "java/lang/IllegalStateException") (hb1 : rm.cells = 1) (hb2 : rm.slots = 6) (hb3 : rm.frames ≤ 8) (hb4 : rm.locals ≤ 200) (sz : Nat) : MetZ l dg cA yL_visit cL_visit 6 [(0, 12, 15, 25), (0, 12, 19, 13), (0, 12, 23, 19)] ({ frames := 9, cells := 1, slots := 6, locals := 250 } : Room) 1 6 (X ++ [lo cA o f]) sz [.ref b, .int x1, .int x2, .int x3, .ref o] (fun _ => X ++ [lo cA o f]) 3 := by
  refine ofZ (by decide) (Nat.le_of_ble_eq_true rfl) (own := RL) rfl (fun p e s0 m args below meth ccd ls A hAe S hr hlk htab hK hZ hN hP hD hS hA hsz hl => ?_)
  have hx := S.1
  have hb := S.2.1
  have hl : lv_has ls 6 [(0, .ref b), (1, .int x1), (2, .int x2), (3, .int x3), (4, .ref o)] := hl
  refine lv_aload hx hb dL_visit_0 (lv_at hl 4 rfl) ?_
  refine lv_iconst (v := 0) hx hb dL_visit_2 (by decide) ?_
  refine lv_aload_n hx hb dL_visit_3 rfl (lv_at hl 0 rfl) ?_
  refine lv_iload_n hx hb dL_visit_4 rfl (lv_at hl 1 rfl) ?_
  refine lv_iload_n hx hb dL_visit_5 rfl (lv_at hl 2 rfl) ?_
  refine lv_iload_n hx hb dL_visit_6 rfl (lv_at hl 3 rfl) ?_
  refine cXF (A := A) S hM kL_45 ⟨hb1, hb2, by show rm.frames + 1 ≤ 9; omega, by show 8 + (6 + 11) + rm.locals ≤ 250; omega⟩ hK hZ hP 0 he (q := (RX5, TX5, 9)) rfl rfl (As := [.int x1, .int x2, .int x3]) rfl hl.1 (rest := [.int 0, .ref o]) rfl (Nat.le_of_ble_eq_true rfl) dL_visit_7 ⟨Nat.le_of_ble_eq_true rfl, Nat.le_of_ble_eq_true rfl⟩ (fun z ce H locs hP hS h1 h2 h3 => ?_)
  have hpass : ∀ z ∈ ([⟨0, 12, 15, 25⟩, ⟨0, 12, 19, 13⟩] : List ExceptionTableEntry), covers z 7 = false ∨ (z.catchType ≠ 0 ∧ ∃ nm : String, (Cond.classLink RL z.catchType nm).before args s0 = true ∧ va_Nc "java/lang/IllegalStateException" nm s0) := fun z hz => by
    simp only [List.mem_cons, List.not_mem_nil, or_false] at hz
    rcases hz with rfl | rfl
    · exact Or.inr ⟨by decide, _, S.2.2.2.2 _ clL_25, hN.2.1⟩
    · exact Or.inr ⟨by decide, _, S.2.2.2.2 _ clL_13, hN.2.2.1⟩
  refine vx_catch S.2.2.2.1 [⟨0, 12, 15, 25⟩, ⟨0, 12, 19, 13⟩] ⟨0, 12, 23, 19⟩ [] (by rw [htab]; rfl) hpass (by decide) (by decide) (S.2.2.2.2 _ clL_19) (cc_word hZ.2.2.1 cst_ise) h1 h2 h3 ?_
  refine lv_astore (lv' := [(5, .ref z), (0, .ref b), (1, .int x1), (2, .int x2), (3, .int x3), (4, .ref o)]) hx hb dL_visit_23 hl (by decide) rfl (fun ls hl => ?_)
  refine lv_iconst (v := 3) hx hb dL_visit_25 (by decide) ?_
  exact eNi S hr hlk (fun _ => 0) hP hD hS dL_visit_26 rfl rfl
set_option maxHeartbeats 4000000 in
set_option maxRecDepth 100000 in
theorem hs_check (l : Launch) (dg : va_G) (cA : Nat → ClassId) {X : va_W} {ws1 : (Nat → Nat) → va_W} {b o mc ms : Nat} {fs : List Value} {f : Nat → Int64} {rm : Room} (x1 x2 : Int32) {v : Int32} (he : X[0]? = some (b, .inr (5, fs))) (hM : ∀ sz, MetN l dg cA yX5_check cX5_check 5 (some .boolean) rm mc ms X sz [.ref b, .int x1, .int x2] ws1 (some (.int v))) (hb1 : rm.cells = mc) (hb2 : rm.slots = ms) (hb3 : rm.frames ≤ 8) (hb4 : rm.locals ≤ 200) (sz : Nat) : MetZ l dg cA yL_check cL_check 5 [(0, 17, 20, 25), (0, 17, 24, 13), (0, 17, 28, 19)] ({ frames := 9, cells := mc, slots := ms, locals := 250 } : Room) mc ms (X ++ [lo cA o f]) sz [.ref b, .int x1, .int x2, .ref o] (fun u => ws1 u ++ [lo cA o (vp_updL f 0 (if v = 0 then 0 else 1))]) 0 := by
  refine ofZ (by decide) (Nat.le_of_ble_eq_true rfl) (own := RL) rfl (fun p e s0 m args below meth ccd ls A hAe S hr hlk htab hK hZ hN hP hD hS hA hsz hl => ?_)
  have hx := S.1
  have hb := S.2.1
  have hl : lv_has ls 5 [(0, .ref b), (1, .int x1), (2, .int x2), (3, .ref o)] := hl
  refine lv_aload_n hx hb dL_check_0 rfl (lv_at hl 3 rfl) ?_
  refine lv_iconst (v := 0) hx hb dL_check_1 (by decide) ?_
  refine lv_aload_n hx hb dL_check_2 rfl (lv_at hl 0 rfl) ?_
  refine lv_iload_n hx hb dL_check_3 rfl (lv_at hl 1 rfl) ?_
  refine lv_iload_n hx hb dL_check_4 rfl (lv_at hl 2 rfl) ?_
  refine cNF S (hM _) kL_49 ⟨hb1, hb2, by show rm.frames + 1 ≤ 9; omega, by show 8 + (5 + 11) + rm.locals ≤ 250; omega⟩ hK hP hD hS hA 0 he (q := (RX5, TX5, 9)) rfl rfl (As := [.int x1, .int x2]) rfl hl.1 (rest := [.int 0, .ref o]) rfl (Nat.le_of_ble_eq_true rfl) dL_check_5 ⟨Nat.le_of_eq (Nat.zero_add _), Nat.le_of_eq (Nat.zero_add _)⟩ (st1 := [.int v, .int 0, .ref o]) rfl (fun u H locs hP hD hS => ?_)
  refine lv_if_eq (tgt := 15) hx hb dL_check_8 (by decide) (fun h => ?_) (fun h => ?_)
  · refine lv_lconst (v := 0) hx hb dL_check_15 (by decide) ?_
    refine va_last hx hb hK hP hD hS (ws1 u).length 4 gl_last rfl vi01 dL_check_16 (fun H locs hP hD hS => ?_)
    rw [st_last, z0n] at hP hD
    refine lv_goto (tgt := 32) hx hb dL_check_17 (by decide) ?_
    refine lv_iconst (v := 0) hx hb dL_check_32 (by decide) ?_
    refine W.widen (k := mc) (n := ms) (by omega) (by omega) ?_
    exact eNi S hr hlk u hP hD hS dL_check_33 rfl (by rw [if_pos h])
  · refine lv_lconst (v := 1) hx hb dL_check_11 (by decide) ?_
    refine lv_goto (tgt := 16) hx hb dL_check_12 (by decide) ?_
    refine va_last hx hb hK hP hD hS (ws1 u).length 4 gl_last rfl vi01 dL_check_16 (fun H locs hP hD hS => ?_)
    rw [st_last, z0n] at hP hD
    refine lv_goto (tgt := 32) hx hb dL_check_17 (by decide) ?_
    refine lv_iconst (v := 0) hx hb dL_check_32 (by decide) ?_
    refine W.widen (k := mc) (n := ms) (by omega) (by omega) ?_
    exact eNi S hr hlk u hP hD hS dL_check_33 rfl (by rw [if_neg h])
set_option maxHeartbeats 4000000 in
set_option maxRecDepth 100000 in
theorem ht_check_1 (l : Launch) (dg : va_G) (cA : Nat → ClassId) {X : va_W} {b o : Nat} {fs : List Value} {f : Nat → Int64} {rm : Room} (x1 x2 : Int32) (he : X[0]? = some (b, .inr (5, fs))) (hM : MetX l dg cA yX5_check cX5_check 5 (some .boolean) rm X [.ref b, .int x1, .int x2] "java/lang/IndexOutOfBoundsException") (hb1 : rm.cells = 1) (hb2 : rm.slots = 6) (hb3 : rm.frames ≤ 8) (hb4 : rm.locals ≤ 200) (sz : Nat) : MetZ l dg cA yL_check cL_check 5 [(0, 17, 20, 25), (0, 17, 24, 13), (0, 17, 28, 19)] ({ frames := 9, cells := 1, slots := 6, locals := 250 } : Room) 1 6 (X ++ [lo cA o f]) sz [.ref b, .int x1, .int x2, .ref o] (fun _ => X ++ [lo cA o f]) 1 := by
  refine ofZ (by decide) (Nat.le_of_ble_eq_true rfl) (own := RL) rfl (fun p e s0 m args below meth ccd ls A hAe S hr hlk htab hK hZ hN hP hD hS hA hsz hl => ?_)
  have hx := S.1
  have hb := S.2.1
  have hl : lv_has ls 5 [(0, .ref b), (1, .int x1), (2, .int x2), (3, .ref o)] := hl
  refine lv_aload_n hx hb dL_check_0 rfl (lv_at hl 3 rfl) ?_
  refine lv_iconst (v := 0) hx hb dL_check_1 (by decide) ?_
  refine lv_aload_n hx hb dL_check_2 rfl (lv_at hl 0 rfl) ?_
  refine lv_iload_n hx hb dL_check_3 rfl (lv_at hl 1 rfl) ?_
  refine lv_iload_n hx hb dL_check_4 rfl (lv_at hl 2 rfl) ?_
  refine cXF (A := A) S hM kL_49 ⟨hb1, hb2, by show rm.frames + 1 ≤ 9; omega, by show 8 + (5 + 11) + rm.locals ≤ 250; omega⟩ hK hZ hP 0 he (q := (RX5, TX5, 9)) rfl rfl (As := [.int x1, .int x2]) rfl hl.1 (rest := [.int 0, .ref o]) rfl (Nat.le_of_ble_eq_true rfl) dL_check_5 ⟨Nat.le_of_ble_eq_true rfl, Nat.le_of_ble_eq_true rfl⟩ (fun z ce H locs hP hS h1 h2 h3 => ?_)
  have hpass : ∀ z ∈ ([] : List ExceptionTableEntry), covers z 5 = false ∨ (z.catchType ≠ 0 ∧ ∃ nm : String, (Cond.classLink RL z.catchType nm).before args s0 = true ∧ va_Nc "java/lang/IndexOutOfBoundsException" nm s0) := fun z hz => by cases hz
  refine vx_catch S.2.2.2.1 [] ⟨0, 17, 20, 25⟩ [⟨0, 17, 24, 13⟩, ⟨0, 17, 28, 19⟩] (by rw [htab]; rfl) hpass (by decide) (by decide) (S.2.2.2.2 _ clL_25) (cc_word hZ.2.2.1 cst_ibe) h1 h2 h3 ?_
  refine lv_astore (lv' := [(4, .ref z), (0, .ref b), (1, .int x1), (2, .int x2), (3, .ref o)]) hx hb dL_check_20 hl (by decide) rfl (fun ls hl => ?_)
  refine lv_iconst (v := 1) hx hb dL_check_22 (by decide) ?_
  exact eNi S hr hlk (fun _ => 0) hP hD hS dL_check_23 rfl rfl
set_option maxHeartbeats 4000000 in
set_option maxRecDepth 100000 in
theorem ht_check_2 (l : Launch) (dg : va_G) (cA : Nat → ClassId) {X : va_W} {b o : Nat} {fs : List Value} {f : Nat → Int64} {rm : Room} (x1 x2 : Int32) (he : X[0]? = some (b, .inr (5, fs))) (hM : MetX l dg cA yX5_check cX5_check 5 (some .boolean) rm X [.ref b, .int x1, .int x2] "java/lang/IllegalArgumentException") (hb1 : rm.cells = 1) (hb2 : rm.slots = 6) (hb3 : rm.frames ≤ 8) (hb4 : rm.locals ≤ 200) (sz : Nat) : MetZ l dg cA yL_check cL_check 5 [(0, 17, 20, 25), (0, 17, 24, 13), (0, 17, 28, 19)] ({ frames := 9, cells := 1, slots := 6, locals := 250 } : Room) 1 6 (X ++ [lo cA o f]) sz [.ref b, .int x1, .int x2, .ref o] (fun _ => X ++ [lo cA o f]) 2 := by
  refine ofZ (by decide) (Nat.le_of_ble_eq_true rfl) (own := RL) rfl (fun p e s0 m args below meth ccd ls A hAe S hr hlk htab hK hZ hN hP hD hS hA hsz hl => ?_)
  have hx := S.1
  have hb := S.2.1
  have hl : lv_has ls 5 [(0, .ref b), (1, .int x1), (2, .int x2), (3, .ref o)] := hl
  refine lv_aload_n hx hb dL_check_0 rfl (lv_at hl 3 rfl) ?_
  refine lv_iconst (v := 0) hx hb dL_check_1 (by decide) ?_
  refine lv_aload_n hx hb dL_check_2 rfl (lv_at hl 0 rfl) ?_
  refine lv_iload_n hx hb dL_check_3 rfl (lv_at hl 1 rfl) ?_
  refine lv_iload_n hx hb dL_check_4 rfl (lv_at hl 2 rfl) ?_
  refine cXF (A := A) S hM kL_49 ⟨hb1, hb2, by show rm.frames + 1 ≤ 9; omega, by show 8 + (5 + 11) + rm.locals ≤ 250; omega⟩ hK hZ hP 0 he (q := (RX5, TX5, 9)) rfl rfl (As := [.int x1, .int x2]) rfl hl.1 (rest := [.int 0, .ref o]) rfl (Nat.le_of_ble_eq_true rfl) dL_check_5 ⟨Nat.le_of_ble_eq_true rfl, Nat.le_of_ble_eq_true rfl⟩ (fun z ce H locs hP hS h1 h2 h3 => ?_)
  have hpass : ∀ z ∈ ([⟨0, 17, 20, 25⟩] : List ExceptionTableEntry), covers z 5 = false ∨ (z.catchType ≠ 0 ∧ ∃ nm : String, (Cond.classLink RL z.catchType nm).before args s0 = true ∧ va_Nc "java/lang/IllegalArgumentException" nm s0) := fun z hz => by
    simp only [List.mem_cons, List.not_mem_nil, or_false] at hz
    rcases hz with rfl
    exact Or.inr ⟨by decide, _, S.2.2.2.2 _ clL_25, hN.1⟩
  refine vx_catch S.2.2.2.1 [⟨0, 17, 20, 25⟩] ⟨0, 17, 24, 13⟩ [⟨0, 17, 28, 19⟩] (by rw [htab]; rfl) hpass (by decide) (by decide) (S.2.2.2.2 _ clL_13) (cc_word hZ.2.2.1 cst_iae) h1 h2 h3 ?_
  refine lv_astore (lv' := [(4, .ref z), (0, .ref b), (1, .int x1), (2, .int x2), (3, .ref o)]) hx hb dL_check_24 hl (by decide) rfl (fun ls hl => ?_)
  refine lv_iconst (v := 2) hx hb dL_check_26 (by decide) ?_
  exact eNi S hr hlk (fun _ => 0) hP hD hS dL_check_27 rfl rfl
set_option maxHeartbeats 4000000 in
set_option maxRecDepth 100000 in
theorem ht_check_3 (l : Launch) (dg : va_G) (cA : Nat → ClassId) {X : va_W} {b o : Nat} {fs : List Value} {f : Nat → Int64} {rm : Room} (x1 x2 : Int32) (he : X[0]? = some (b, .inr (5, fs))) (hM : MetX l dg cA yX5_check cX5_check 5 (some .boolean) rm X [.ref b, .int x1, .int x2] "java/lang/IllegalStateException") (hb1 : rm.cells = 1) (hb2 : rm.slots = 6) (hb3 : rm.frames ≤ 8) (hb4 : rm.locals ≤ 200) (sz : Nat) : MetZ l dg cA yL_check cL_check 5 [(0, 17, 20, 25), (0, 17, 24, 13), (0, 17, 28, 19)] ({ frames := 9, cells := 1, slots := 6, locals := 250 } : Room) 1 6 (X ++ [lo cA o f]) sz [.ref b, .int x1, .int x2, .ref o] (fun _ => X ++ [lo cA o f]) 3 := by
  refine ofZ (by decide) (Nat.le_of_ble_eq_true rfl) (own := RL) rfl (fun p e s0 m args below meth ccd ls A hAe S hr hlk htab hK hZ hN hP hD hS hA hsz hl => ?_)
  have hx := S.1
  have hb := S.2.1
  have hl : lv_has ls 5 [(0, .ref b), (1, .int x1), (2, .int x2), (3, .ref o)] := hl
  refine lv_aload_n hx hb dL_check_0 rfl (lv_at hl 3 rfl) ?_
  refine lv_iconst (v := 0) hx hb dL_check_1 (by decide) ?_
  refine lv_aload_n hx hb dL_check_2 rfl (lv_at hl 0 rfl) ?_
  refine lv_iload_n hx hb dL_check_3 rfl (lv_at hl 1 rfl) ?_
  refine lv_iload_n hx hb dL_check_4 rfl (lv_at hl 2 rfl) ?_
  refine cXF (A := A) S hM kL_49 ⟨hb1, hb2, by show rm.frames + 1 ≤ 9; omega, by show 8 + (5 + 11) + rm.locals ≤ 250; omega⟩ hK hZ hP 0 he (q := (RX5, TX5, 9)) rfl rfl (As := [.int x1, .int x2]) rfl hl.1 (rest := [.int 0, .ref o]) rfl (Nat.le_of_ble_eq_true rfl) dL_check_5 ⟨Nat.le_of_ble_eq_true rfl, Nat.le_of_ble_eq_true rfl⟩ (fun z ce H locs hP hS h1 h2 h3 => ?_)
  have hpass : ∀ z ∈ ([⟨0, 17, 20, 25⟩, ⟨0, 17, 24, 13⟩] : List ExceptionTableEntry), covers z 5 = false ∨ (z.catchType ≠ 0 ∧ ∃ nm : String, (Cond.classLink RL z.catchType nm).before args s0 = true ∧ va_Nc "java/lang/IllegalStateException" nm s0) := fun z hz => by
    simp only [List.mem_cons, List.not_mem_nil, or_false] at hz
    rcases hz with rfl | rfl
    · exact Or.inr ⟨by decide, _, S.2.2.2.2 _ clL_25, hN.2.1⟩
    · exact Or.inr ⟨by decide, _, S.2.2.2.2 _ clL_13, hN.2.2.1⟩
  refine vx_catch S.2.2.2.1 [⟨0, 17, 20, 25⟩, ⟨0, 17, 24, 13⟩] ⟨0, 17, 28, 19⟩ [] (by rw [htab]; rfl) hpass (by decide) (by decide) (S.2.2.2.2 _ clL_19) (cc_word hZ.2.2.1 cst_ise) h1 h2 h3 ?_
  refine lv_astore (lv' := [(4, .ref z), (0, .ref b), (1, .int x1), (2, .int x2), (3, .ref o)]) hx hb dL_check_28 hl (by decide) rfl (fun ls hl => ?_)
  refine lv_iconst (v := 3) hx hb dL_check_30 (by decide) ?_
  exact eNi S hr hlk (fun _ => 0) hP hD hS dL_check_31 rfl rfl
set_option maxHeartbeats 4000000 in
set_option maxRecDepth 100000 in
theorem hs_endDay (l : Launch) (dg : va_G) (cA : Nat → ClassId) {X : va_W} {ws1 : (Nat → Nat) → va_W} {b o mc ms : Nat} {fs : List Value} {f : Nat → Int64} {rm : Room} {v : Int32} (he : X[0]? = some (b, .inr (5, fs))) (hM : ∀ sz, MetN l dg cA yX5_endDay cX5_endDay 2 (some .int) rm mc ms X sz [.ref b] ws1 (some (.int v))) (hb1 : rm.cells = mc) (hb2 : rm.slots = ms) (hb3 : rm.frames ≤ 8) (hb4 : rm.locals ≤ 200) (sz : Nat) : MetZ l dg cA yL_endDay cL_endDay 3 [(0, 8, 11, 19)] ({ frames := 9, cells := mc, slots := ms, locals := 250 } : Room) mc ms (X ++ [lo cA o f]) sz [.ref b, .ref o] (fun u => ws1 u ++ [lo cA o (vp_updL f 0 v.toInt64)]) 0 := by
  refine ofZ (by decide) (Nat.le_of_ble_eq_true rfl) (own := RL) rfl (fun p e s0 m args below meth ccd ls A hAe S hr hlk htab hK hZ hN hP hD hS hA hsz hl => ?_)
  have hx := S.1
  have hb := S.2.1
  have hl : lv_has ls 3 [(0, .ref b), (1, .ref o)] := hl
  refine lv_aload_n hx hb dL_endDay_0 rfl (lv_at hl 1 rfl) ?_
  refine lv_iconst (v := 0) hx hb dL_endDay_1 (by decide) ?_
  refine lv_aload_n hx hb dL_endDay_2 rfl (lv_at hl 0 rfl) ?_
  refine cNF S (hM _) kL_53 ⟨hb1, hb2, by show rm.frames + 1 ≤ 9; omega, by show 8 + (2 + 11) + rm.locals ≤ 250; omega⟩ hK hP hD hS hA 0 he (q := (RX5, TX5, 9)) rfl rfl (As := []) rfl hl.1 (rest := [.int 0, .ref o]) rfl (Nat.le_of_ble_eq_true rfl) dL_endDay_3 ⟨Nat.le_of_eq (Nat.zero_add _), Nat.le_of_eq (Nat.zero_add _)⟩ (st1 := [.int v, .int 0, .ref o]) rfl (fun u H locs hP hD hS => ?_)
  refine lv_i2l (v := v.toInt64) hx hb dL_endDay_6 rfl ?_
  refine va_last hx hb hK hP hD hS (ws1 u).length 4 gl_last rfl vi01 dL_endDay_7 (fun H locs hP hD hS => ?_)
  rw [st_last, z0n] at hP hD
  refine lv_goto (tgt := 14) hx hb dL_endDay_8 (by decide) ?_
  refine lv_iconst (v := 0) hx hb dL_endDay_14 (by decide) ?_
  refine W.widen (k := mc) (n := ms) (by omega) (by omega) ?_
  exact eNi S hr hlk u hP hD hS dL_endDay_15 rfl rfl
set_option maxHeartbeats 4000000 in
set_option maxRecDepth 100000 in
theorem ht_endDay_1 (l : Launch) (dg : va_G) (cA : Nat → ClassId) {X : va_W} {b o : Nat} {fs : List Value} {f : Nat → Int64} {rm : Room} (he : X[0]? = some (b, .inr (5, fs))) (hM : MetX l dg cA yX5_endDay cX5_endDay 2 (some .int) rm X [.ref b] "java/lang/IllegalStateException") (hb1 : rm.cells = 1) (hb2 : rm.slots = 6) (hb3 : rm.frames ≤ 8) (hb4 : rm.locals ≤ 200) (sz : Nat) : MetZ l dg cA yL_endDay cL_endDay 3 [(0, 8, 11, 19)] ({ frames := 9, cells := 1, slots := 6, locals := 250 } : Room) 1 6 (X ++ [lo cA o f]) sz [.ref b, .ref o] (fun _ => X ++ [lo cA o f]) 1 := by
  refine ofZ (by decide) (Nat.le_of_ble_eq_true rfl) (own := RL) rfl (fun p e s0 m args below meth ccd ls A hAe S hr hlk htab hK hZ hN hP hD hS hA hsz hl => ?_)
  have hx := S.1
  have hb := S.2.1
  have hl : lv_has ls 3 [(0, .ref b), (1, .ref o)] := hl
  refine lv_aload_n hx hb dL_endDay_0 rfl (lv_at hl 1 rfl) ?_
  refine lv_iconst (v := 0) hx hb dL_endDay_1 (by decide) ?_
  refine lv_aload_n hx hb dL_endDay_2 rfl (lv_at hl 0 rfl) ?_
  refine cXF (A := A) S hM kL_53 ⟨hb1, hb2, by show rm.frames + 1 ≤ 9; omega, by show 8 + (2 + 11) + rm.locals ≤ 250; omega⟩ hK hZ hP 0 he (q := (RX5, TX5, 9)) rfl rfl (As := []) rfl hl.1 (rest := [.int 0, .ref o]) rfl (Nat.le_of_ble_eq_true rfl) dL_endDay_3 ⟨Nat.le_of_ble_eq_true rfl, Nat.le_of_ble_eq_true rfl⟩ (fun z ce H locs hP hS h1 h2 h3 => ?_)
  have hpass : ∀ z ∈ ([] : List ExceptionTableEntry), covers z 3 = false ∨ (z.catchType ≠ 0 ∧ ∃ nm : String, (Cond.classLink RL z.catchType nm).before args s0 = true ∧ va_Nc "java/lang/IllegalStateException" nm s0) := fun z hz => by cases hz
  refine vx_catch S.2.2.2.1 [] ⟨0, 8, 11, 19⟩ [] (by rw [htab]; rfl) hpass (by decide) (by decide) (S.2.2.2.2 _ clL_19) (cc_word hZ.2.2.1 cst_ise) h1 h2 h3 ?_
  refine lv_astore_n (lv' := [(2, .ref z), (0, .ref b), (1, .ref o)]) hx hb dL_endDay_11 rfl hl (by decide) rfl (fun ls hl => ?_)
  refine lv_iconst (v := 1) hx hb dL_endDay_12 (by decide) ?_
  exact eNi S hr hlk (fun _ => 0) hP hD hS dL_endDay_13 rfl rfl
set_option maxHeartbeats 4000000 in
set_option maxRecDepth 100000 in
theorem hs_stateOf (l : Launch) (dg : va_G) (cA : Nat → ClassId) {X : va_W} {ws1 : (Nat → Nat) → va_W} {b o mc ms : Nat} {fs : List Value} {f : Nat → Int64} {rm : Room} (x1 : Int32) {v : Int32} (he : X[0]? = some (b, .inr (5, fs))) (hM : ∀ sz, MetN l dg cA yX5_stateOf cX5_stateOf 2 (some .char) rm mc ms X sz [.ref b, .int x1] ws1 (some (.int v))) (hb1 : rm.cells = mc) (hb2 : rm.slots = ms) (hb3 : rm.frames ≤ 8) (hb4 : rm.locals ≤ 200) (sz : Nat) : MetZ l dg cA yL_stateOf cL_stateOf 4 [(0, 9, 12, 25)] ({ frames := 9, cells := mc, slots := ms, locals := 250 } : Room) mc ms (X ++ [lo cA o f]) sz [.ref b, .int x1, .ref o] (fun u => ws1 u ++ [lo cA o (vp_updL f 0 v.toInt64)]) 0 := by
  refine ofZ (by decide) (Nat.le_of_ble_eq_true rfl) (own := RL) rfl (fun p e s0 m args below meth ccd ls A hAe S hr hlk htab hK hZ hN hP hD hS hA hsz hl => ?_)
  have hx := S.1
  have hb := S.2.1
  have hl : lv_has ls 4 [(0, .ref b), (1, .int x1), (2, .ref o)] := hl
  refine lv_aload_n hx hb dL_stateOf_0 rfl (lv_at hl 2 rfl) ?_
  refine lv_iconst (v := 0) hx hb dL_stateOf_1 (by decide) ?_
  refine lv_aload_n hx hb dL_stateOf_2 rfl (lv_at hl 0 rfl) ?_
  refine lv_iload_n hx hb dL_stateOf_3 rfl (lv_at hl 1 rfl) ?_
  refine cNF S (hM _) kL_56 ⟨hb1, hb2, by show rm.frames + 1 ≤ 9; omega, by show 8 + (2 + 11) + rm.locals ≤ 250; omega⟩ hK hP hD hS hA 0 he (q := (RX5, TX5, 9)) rfl rfl (As := [.int x1]) rfl hl.1 (rest := [.int 0, .ref o]) rfl (Nat.le_of_ble_eq_true rfl) dL_stateOf_4 ⟨Nat.le_of_eq (Nat.zero_add _), Nat.le_of_eq (Nat.zero_add _)⟩ (st1 := [.int v, .int 0, .ref o]) rfl (fun u H locs hP hD hS => ?_)
  refine lv_i2l (v := v.toInt64) hx hb dL_stateOf_7 rfl ?_
  refine va_last hx hb hK hP hD hS (ws1 u).length 4 gl_last rfl vi01 dL_stateOf_8 (fun H locs hP hD hS => ?_)
  rw [st_last, z0n] at hP hD
  refine lv_goto (tgt := 15) hx hb dL_stateOf_9 (by decide) ?_
  refine lv_iconst (v := 0) hx hb dL_stateOf_15 (by decide) ?_
  refine W.widen (k := mc) (n := ms) (by omega) (by omega) ?_
  exact eNi S hr hlk u hP hD hS dL_stateOf_16 rfl rfl
set_option maxHeartbeats 4000000 in
set_option maxRecDepth 100000 in
theorem ht_stateOf_1 (l : Launch) (dg : va_G) (cA : Nat → ClassId) {X : va_W} {b o : Nat} {fs : List Value} {f : Nat → Int64} {rm : Room} (x1 : Int32) (he : X[0]? = some (b, .inr (5, fs))) (hM : MetX l dg cA yX5_stateOf cX5_stateOf 2 (some .char) rm X [.ref b, .int x1] "java/lang/IndexOutOfBoundsException") (hb1 : rm.cells = 1) (hb2 : rm.slots = 6) (hb3 : rm.frames ≤ 8) (hb4 : rm.locals ≤ 200) (sz : Nat) : MetZ l dg cA yL_stateOf cL_stateOf 4 [(0, 9, 12, 25)] ({ frames := 9, cells := 1, slots := 6, locals := 250 } : Room) 1 6 (X ++ [lo cA o f]) sz [.ref b, .int x1, .ref o] (fun _ => X ++ [lo cA o f]) 1 := by
  refine ofZ (by decide) (Nat.le_of_ble_eq_true rfl) (own := RL) rfl (fun p e s0 m args below meth ccd ls A hAe S hr hlk htab hK hZ hN hP hD hS hA hsz hl => ?_)
  have hx := S.1
  have hb := S.2.1
  have hl : lv_has ls 4 [(0, .ref b), (1, .int x1), (2, .ref o)] := hl
  refine lv_aload_n hx hb dL_stateOf_0 rfl (lv_at hl 2 rfl) ?_
  refine lv_iconst (v := 0) hx hb dL_stateOf_1 (by decide) ?_
  refine lv_aload_n hx hb dL_stateOf_2 rfl (lv_at hl 0 rfl) ?_
  refine lv_iload_n hx hb dL_stateOf_3 rfl (lv_at hl 1 rfl) ?_
  refine cXF (A := A) S hM kL_56 ⟨hb1, hb2, by show rm.frames + 1 ≤ 9; omega, by show 8 + (2 + 11) + rm.locals ≤ 250; omega⟩ hK hZ hP 0 he (q := (RX5, TX5, 9)) rfl rfl (As := [.int x1]) rfl hl.1 (rest := [.int 0, .ref o]) rfl (Nat.le_of_ble_eq_true rfl) dL_stateOf_4 ⟨Nat.le_of_ble_eq_true rfl, Nat.le_of_ble_eq_true rfl⟩ (fun z ce H locs hP hS h1 h2 h3 => ?_)
  have hpass : ∀ z ∈ ([] : List ExceptionTableEntry), covers z 4 = false ∨ (z.catchType ≠ 0 ∧ ∃ nm : String, (Cond.classLink RL z.catchType nm).before args s0 = true ∧ va_Nc "java/lang/IndexOutOfBoundsException" nm s0) := fun z hz => by cases hz
  refine vx_catch S.2.2.2.1 [] ⟨0, 9, 12, 25⟩ [] (by rw [htab]; rfl) hpass (by decide) (by decide) (S.2.2.2.2 _ clL_25) (cc_word hZ.2.2.1 cst_ibe) h1 h2 h3 ?_
  refine lv_astore_n (lv' := [(3, .ref z), (0, .ref b), (1, .int x1), (2, .ref o)]) hx hb dL_stateOf_12 rfl hl (by decide) rfl (fun ls hl => ?_)
  refine lv_iconst (v := 1) hx hb dL_stateOf_13 (by decide) ?_
  exact eNi S hr hlk (fun _ => 0) hP hD hS dL_stateOf_14 rfl rfl
set_option maxHeartbeats 4000000 in
set_option maxRecDepth 100000 in
theorem hs_wantedFrom (l : Launch) (dg : va_G) (cA : Nat → ClassId) {X : va_W} {ws1 : (Nat → Nat) → va_W} {b o mc ms : Nat} {fs : List Value} {f : Nat → Int64} {rm : Room} (x1 : Int32) {v : Int32} (he : X[0]? = some (b, .inr (5, fs))) (hM : ∀ sz, MetN l dg cA yX5_wantedFrom cX5_wantedFrom 3 (some .int) rm mc ms X sz [.ref b, .int x1] ws1 (some (.int v))) (hb1 : rm.cells = mc) (hb2 : rm.slots = ms) (hb3 : rm.frames ≤ 8) (hb4 : rm.locals ≤ 200) (sz : Nat) : MetZ l dg cA yL_wantedFrom cL_wantedFrom 4 [(0, 9, 12, 25), (0, 9, 15, 19)] ({ frames := 9, cells := mc, slots := ms, locals := 250 } : Room) mc ms (X ++ [lo cA o f]) sz [.ref b, .int x1, .ref o] (fun u => ws1 u ++ [lo cA o (vp_updL f 0 v.toInt64)]) 0 := by
  refine ofZ (by decide) (Nat.le_of_ble_eq_true rfl) (own := RL) rfl (fun p e s0 m args below meth ccd ls A hAe S hr hlk htab hK hZ hN hP hD hS hA hsz hl => ?_)
  have hx := S.1
  have hb := S.2.1
  have hl : lv_has ls 4 [(0, .ref b), (1, .int x1), (2, .ref o)] := hl
  refine lv_aload_n hx hb dL_wantedFrom_0 rfl (lv_at hl 2 rfl) ?_
  refine lv_iconst (v := 0) hx hb dL_wantedFrom_1 (by decide) ?_
  refine lv_aload_n hx hb dL_wantedFrom_2 rfl (lv_at hl 0 rfl) ?_
  refine lv_iload_n hx hb dL_wantedFrom_3 rfl (lv_at hl 1 rfl) ?_
  refine cNF S (hM _) kL_60 ⟨hb1, hb2, by show rm.frames + 1 ≤ 9; omega, by show 8 + (3 + 11) + rm.locals ≤ 250; omega⟩ hK hP hD hS hA 0 he (q := (RX5, TX5, 9)) rfl rfl (As := [.int x1]) rfl hl.1 (rest := [.int 0, .ref o]) rfl (Nat.le_of_ble_eq_true rfl) dL_wantedFrom_4 ⟨Nat.le_of_eq (Nat.zero_add _), Nat.le_of_eq (Nat.zero_add _)⟩ (st1 := [.int v, .int 0, .ref o]) rfl (fun u H locs hP hD hS => ?_)
  refine lv_i2l (v := v.toInt64) hx hb dL_wantedFrom_7 rfl ?_
  refine va_last hx hb hK hP hD hS (ws1 u).length 4 gl_last rfl vi01 dL_wantedFrom_8 (fun H locs hP hD hS => ?_)
  rw [st_last, z0n] at hP hD
  refine lv_goto (tgt := 18) hx hb dL_wantedFrom_9 (by decide) ?_
  refine lv_iconst (v := 0) hx hb dL_wantedFrom_18 (by decide) ?_
  refine W.widen (k := mc) (n := ms) (by omega) (by omega) ?_
  exact eNi S hr hlk u hP hD hS dL_wantedFrom_19 rfl rfl
set_option maxHeartbeats 4000000 in
set_option maxRecDepth 100000 in
theorem ht_wantedFrom_1 (l : Launch) (dg : va_G) (cA : Nat → ClassId) {X : va_W} {b o : Nat} {fs : List Value} {f : Nat → Int64} {rm : Room} (x1 : Int32) (he : X[0]? = some (b, .inr (5, fs))) (hM : MetX l dg cA yX5_wantedFrom cX5_wantedFrom 3 (some .int) rm X [.ref b, .int x1] "java/lang/IndexOutOfBoundsException") (hb1 : rm.cells = 1) (hb2 : rm.slots = 6) (hb3 : rm.frames ≤ 8) (hb4 : rm.locals ≤ 200) (sz : Nat) : MetZ l dg cA yL_wantedFrom cL_wantedFrom 4 [(0, 9, 12, 25), (0, 9, 15, 19)] ({ frames := 9, cells := 1, slots := 6, locals := 250 } : Room) 1 6 (X ++ [lo cA o f]) sz [.ref b, .int x1, .ref o] (fun _ => X ++ [lo cA o f]) 1 := by
  refine ofZ (by decide) (Nat.le_of_ble_eq_true rfl) (own := RL) rfl (fun p e s0 m args below meth ccd ls A hAe S hr hlk htab hK hZ hN hP hD hS hA hsz hl => ?_)
  have hx := S.1
  have hb := S.2.1
  have hl : lv_has ls 4 [(0, .ref b), (1, .int x1), (2, .ref o)] := hl
  refine lv_aload_n hx hb dL_wantedFrom_0 rfl (lv_at hl 2 rfl) ?_
  refine lv_iconst (v := 0) hx hb dL_wantedFrom_1 (by decide) ?_
  refine lv_aload_n hx hb dL_wantedFrom_2 rfl (lv_at hl 0 rfl) ?_
  refine lv_iload_n hx hb dL_wantedFrom_3 rfl (lv_at hl 1 rfl) ?_
  refine cXF (A := A) S hM kL_60 ⟨hb1, hb2, by show rm.frames + 1 ≤ 9; omega, by show 8 + (3 + 11) + rm.locals ≤ 250; omega⟩ hK hZ hP 0 he (q := (RX5, TX5, 9)) rfl rfl (As := [.int x1]) rfl hl.1 (rest := [.int 0, .ref o]) rfl (Nat.le_of_ble_eq_true rfl) dL_wantedFrom_4 ⟨Nat.le_of_ble_eq_true rfl, Nat.le_of_ble_eq_true rfl⟩ (fun z ce H locs hP hS h1 h2 h3 => ?_)
  have hpass : ∀ z ∈ ([] : List ExceptionTableEntry), covers z 4 = false ∨ (z.catchType ≠ 0 ∧ ∃ nm : String, (Cond.classLink RL z.catchType nm).before args s0 = true ∧ va_Nc "java/lang/IndexOutOfBoundsException" nm s0) := fun z hz => by cases hz
  refine vx_catch S.2.2.2.1 [] ⟨0, 9, 12, 25⟩ [⟨0, 9, 15, 19⟩] (by rw [htab]; rfl) hpass (by decide) (by decide) (S.2.2.2.2 _ clL_25) (cc_word hZ.2.2.1 cst_ibe) h1 h2 h3 ?_
  refine lv_astore_n (lv' := [(3, .ref z), (0, .ref b), (1, .int x1), (2, .ref o)]) hx hb dL_wantedFrom_12 rfl hl (by decide) rfl (fun ls hl => ?_)
  refine lv_iconst (v := 1) hx hb dL_wantedFrom_13 (by decide) ?_
  exact eNi S hr hlk (fun _ => 0) hP hD hS dL_wantedFrom_14 rfl rfl
set_option maxHeartbeats 4000000 in
set_option maxRecDepth 100000 in
theorem ht_wantedFrom_2 (l : Launch) (dg : va_G) (cA : Nat → ClassId) {X : va_W} {b o : Nat} {fs : List Value} {f : Nat → Int64} {rm : Room} (x1 : Int32) (he : X[0]? = some (b, .inr (5, fs))) (hM : MetX l dg cA yX5_wantedFrom cX5_wantedFrom 3 (some .int) rm X [.ref b, .int x1] "java/lang/IllegalStateException") (hb1 : rm.cells = 1) (hb2 : rm.slots = 6) (hb3 : rm.frames ≤ 8) (hb4 : rm.locals ≤ 200) (sz : Nat) : MetZ l dg cA yL_wantedFrom cL_wantedFrom 4 [(0, 9, 12, 25), (0, 9, 15, 19)] ({ frames := 9, cells := 1, slots := 6, locals := 250 } : Room) 1 6 (X ++ [lo cA o f]) sz [.ref b, .int x1, .ref o] (fun _ => X ++ [lo cA o f]) 2 := by
  refine ofZ (by decide) (Nat.le_of_ble_eq_true rfl) (own := RL) rfl (fun p e s0 m args below meth ccd ls A hAe S hr hlk htab hK hZ hN hP hD hS hA hsz hl => ?_)
  have hx := S.1
  have hb := S.2.1
  have hl : lv_has ls 4 [(0, .ref b), (1, .int x1), (2, .ref o)] := hl
  refine lv_aload_n hx hb dL_wantedFrom_0 rfl (lv_at hl 2 rfl) ?_
  refine lv_iconst (v := 0) hx hb dL_wantedFrom_1 (by decide) ?_
  refine lv_aload_n hx hb dL_wantedFrom_2 rfl (lv_at hl 0 rfl) ?_
  refine lv_iload_n hx hb dL_wantedFrom_3 rfl (lv_at hl 1 rfl) ?_
  refine cXF (A := A) S hM kL_60 ⟨hb1, hb2, by show rm.frames + 1 ≤ 9; omega, by show 8 + (3 + 11) + rm.locals ≤ 250; omega⟩ hK hZ hP 0 he (q := (RX5, TX5, 9)) rfl rfl (As := [.int x1]) rfl hl.1 (rest := [.int 0, .ref o]) rfl (Nat.le_of_ble_eq_true rfl) dL_wantedFrom_4 ⟨Nat.le_of_ble_eq_true rfl, Nat.le_of_ble_eq_true rfl⟩ (fun z ce H locs hP hS h1 h2 h3 => ?_)
  have hpass : ∀ z ∈ ([⟨0, 9, 12, 25⟩] : List ExceptionTableEntry), covers z 4 = false ∨ (z.catchType ≠ 0 ∧ ∃ nm : String, (Cond.classLink RL z.catchType nm).before args s0 = true ∧ va_Nc "java/lang/IllegalStateException" nm s0) := fun z hz => by
    simp only [List.mem_cons, List.not_mem_nil, or_false] at hz
    rcases hz with rfl
    exact Or.inr ⟨by decide, _, S.2.2.2.2 _ clL_25, hN.2.1⟩
  refine vx_catch S.2.2.2.1 [⟨0, 9, 12, 25⟩] ⟨0, 9, 15, 19⟩ [] (by rw [htab]; rfl) hpass (by decide) (by decide) (S.2.2.2.2 _ clL_19) (cc_word hZ.2.2.1 cst_ise) h1 h2 h3 ?_
  refine lv_astore_n (lv' := [(3, .ref z), (0, .ref b), (1, .int x1), (2, .ref o)]) hx hb dL_wantedFrom_15 rfl hl (by decide) rfl (fun ls hl => ?_)
  refine lv_iconst (v := 2) hx hb dL_wantedFrom_16 (by decide) ?_
  exact eNi S hr hlk (fun _ => 0) hP hD hS dL_wantedFrom_17 rfl rfl
set_option maxHeartbeats 4000000 in
set_option maxRecDepth 100000 in
theorem hs_codeOf (l : Launch) (dg : va_G) (cA : Nat → ClassId) {X : va_W} {ws1 : (Nat → Nat) → va_W} {b o mc ms : Nat} {fs : List Value} {f : Nat → Int64} {rm : Room} (x1 : Int32) {v : Int32} (he : X[0]? = some (b, .inr (5, fs))) (hM : ∀ sz, MetN l dg cA yX5_codeOf cX5_codeOf 3 (some .int) rm mc ms X sz [.ref b, .int x1] ws1 (some (.int v))) (hb1 : rm.cells = mc) (hb2 : rm.slots = ms) (hb3 : rm.frames ≤ 8) (hb4 : rm.locals ≤ 200) (sz : Nat) : MetZ l dg cA yL_codeOf cL_codeOf 4 [(0, 9, 12, 25)] ({ frames := 9, cells := mc, slots := ms, locals := 250 } : Room) mc ms (X ++ [lo cA o f]) sz [.ref b, .int x1, .ref o] (fun u => ws1 u ++ [lo cA o (vp_updL f 0 v.toInt64)]) 0 := by
  refine ofZ (by decide) (Nat.le_of_ble_eq_true rfl) (own := RL) rfl (fun p e s0 m args below meth ccd ls A hAe S hr hlk htab hK hZ hN hP hD hS hA hsz hl => ?_)
  have hx := S.1
  have hb := S.2.1
  have hl : lv_has ls 4 [(0, .ref b), (1, .int x1), (2, .ref o)] := hl
  refine lv_aload_n hx hb dL_codeOf_0 rfl (lv_at hl 2 rfl) ?_
  refine lv_iconst (v := 0) hx hb dL_codeOf_1 (by decide) ?_
  refine lv_aload_n hx hb dL_codeOf_2 rfl (lv_at hl 0 rfl) ?_
  refine lv_iload_n hx hb dL_codeOf_3 rfl (lv_at hl 1 rfl) ?_
  refine cNF S (hM _) kL_63 ⟨hb1, hb2, by show rm.frames + 1 ≤ 9; omega, by show 8 + (3 + 11) + rm.locals ≤ 250; omega⟩ hK hP hD hS hA 0 he (q := (RX5, TX5, 9)) rfl rfl (As := [.int x1]) rfl hl.1 (rest := [.int 0, .ref o]) rfl (Nat.le_of_ble_eq_true rfl) dL_codeOf_4 ⟨Nat.le_of_eq (Nat.zero_add _), Nat.le_of_eq (Nat.zero_add _)⟩ (st1 := [.int v, .int 0, .ref o]) rfl (fun u H locs hP hD hS => ?_)
  refine lv_i2l (v := v.toInt64) hx hb dL_codeOf_7 rfl ?_
  refine va_last hx hb hK hP hD hS (ws1 u).length 4 gl_last rfl vi01 dL_codeOf_8 (fun H locs hP hD hS => ?_)
  rw [st_last, z0n] at hP hD
  refine lv_goto (tgt := 15) hx hb dL_codeOf_9 (by decide) ?_
  refine lv_iconst (v := 0) hx hb dL_codeOf_15 (by decide) ?_
  refine W.widen (k := mc) (n := ms) (by omega) (by omega) ?_
  exact eNi S hr hlk u hP hD hS dL_codeOf_16 rfl rfl
set_option maxHeartbeats 4000000 in
set_option maxRecDepth 100000 in
theorem ht_codeOf_1 (l : Launch) (dg : va_G) (cA : Nat → ClassId) {X : va_W} {b o : Nat} {fs : List Value} {f : Nat → Int64} {rm : Room} (x1 : Int32) (he : X[0]? = some (b, .inr (5, fs))) (hM : MetX l dg cA yX5_codeOf cX5_codeOf 3 (some .int) rm X [.ref b, .int x1] "java/lang/IndexOutOfBoundsException") (hb1 : rm.cells = 1) (hb2 : rm.slots = 6) (hb3 : rm.frames ≤ 8) (hb4 : rm.locals ≤ 200) (sz : Nat) : MetZ l dg cA yL_codeOf cL_codeOf 4 [(0, 9, 12, 25)] ({ frames := 9, cells := 1, slots := 6, locals := 250 } : Room) 1 6 (X ++ [lo cA o f]) sz [.ref b, .int x1, .ref o] (fun _ => X ++ [lo cA o f]) 1 := by
  refine ofZ (by decide) (Nat.le_of_ble_eq_true rfl) (own := RL) rfl (fun p e s0 m args below meth ccd ls A hAe S hr hlk htab hK hZ hN hP hD hS hA hsz hl => ?_)
  have hx := S.1
  have hb := S.2.1
  have hl : lv_has ls 4 [(0, .ref b), (1, .int x1), (2, .ref o)] := hl
  refine lv_aload_n hx hb dL_codeOf_0 rfl (lv_at hl 2 rfl) ?_
  refine lv_iconst (v := 0) hx hb dL_codeOf_1 (by decide) ?_
  refine lv_aload_n hx hb dL_codeOf_2 rfl (lv_at hl 0 rfl) ?_
  refine lv_iload_n hx hb dL_codeOf_3 rfl (lv_at hl 1 rfl) ?_
  refine cXF (A := A) S hM kL_63 ⟨hb1, hb2, by show rm.frames + 1 ≤ 9; omega, by show 8 + (3 + 11) + rm.locals ≤ 250; omega⟩ hK hZ hP 0 he (q := (RX5, TX5, 9)) rfl rfl (As := [.int x1]) rfl hl.1 (rest := [.int 0, .ref o]) rfl (Nat.le_of_ble_eq_true rfl) dL_codeOf_4 ⟨Nat.le_of_ble_eq_true rfl, Nat.le_of_ble_eq_true rfl⟩ (fun z ce H locs hP hS h1 h2 h3 => ?_)
  have hpass : ∀ z ∈ ([] : List ExceptionTableEntry), covers z 4 = false ∨ (z.catchType ≠ 0 ∧ ∃ nm : String, (Cond.classLink RL z.catchType nm).before args s0 = true ∧ va_Nc "java/lang/IndexOutOfBoundsException" nm s0) := fun z hz => by cases hz
  refine vx_catch S.2.2.2.1 [] ⟨0, 9, 12, 25⟩ [] (by rw [htab]; rfl) hpass (by decide) (by decide) (S.2.2.2.2 _ clL_25) (cc_word hZ.2.2.1 cst_ibe) h1 h2 h3 ?_
  refine lv_astore_n (lv' := [(3, .ref z), (0, .ref b), (1, .int x1), (2, .ref o)]) hx hb dL_codeOf_12 rfl hl (by decide) rfl (fun ls hl => ?_)
  refine lv_iconst (v := 1) hx hb dL_codeOf_13 (by decide) ?_
  exact eNi S hr hlk (fun _ => 0) hP hD hS dL_codeOf_14 rfl rfl
set_option maxHeartbeats 4000000 in
set_option maxRecDepth 100000 in
theorem hs_answerOf (l : Launch) (dg : va_G) (cA : Nat → ClassId) {X : va_W} {ws1 : (Nat → Nat) → va_W} {b o mc ms : Nat} {fs : List Value} {f : Nat → Int64} {rm : Room} (x1 : Int32) {v : Int32} (he : X[0]? = some (b, .inr (5, fs))) (hM : ∀ sz, MetN l dg cA yX5_answerOf cX5_answerOf 2 (some .int) rm mc ms X sz [.ref b, .int x1] ws1 (some (.int v))) (hb1 : rm.cells = mc) (hb2 : rm.slots = ms) (hb3 : rm.frames ≤ 8) (hb4 : rm.locals ≤ 200) (sz : Nat) : MetZ l dg cA yL_answerOf cL_answerOf 4 [(0, 9, 12, 25), (0, 9, 15, 40)] ({ frames := 9, cells := mc, slots := ms, locals := 250 } : Room) mc ms (X ++ [lo cA o f]) sz [.ref b, .int x1, .ref o] (fun u => ws1 u ++ [lo cA o (vp_updL f 0 v.toInt64)]) 0 := by
  refine ofZ (by decide) (Nat.le_of_ble_eq_true rfl) (own := RL) rfl (fun p e s0 m args below meth ccd ls A hAe S hr hlk htab hK hZ hN hP hD hS hA hsz hl => ?_)
  have hx := S.1
  have hb := S.2.1
  have hl : lv_has ls 4 [(0, .ref b), (1, .int x1), (2, .ref o)] := hl
  refine lv_aload_n hx hb dL_answerOf_0 rfl (lv_at hl 2 rfl) ?_
  refine lv_iconst (v := 0) hx hb dL_answerOf_1 (by decide) ?_
  refine lv_aload_n hx hb dL_answerOf_2 rfl (lv_at hl 0 rfl) ?_
  refine lv_iload_n hx hb dL_answerOf_3 rfl (lv_at hl 1 rfl) ?_
  refine cNF S (hM _) kL_66 ⟨hb1, hb2, by show rm.frames + 1 ≤ 9; omega, by show 8 + (2 + 11) + rm.locals ≤ 250; omega⟩ hK hP hD hS hA 0 he (q := (RX5, TX5, 9)) rfl rfl (As := [.int x1]) rfl hl.1 (rest := [.int 0, .ref o]) rfl (Nat.le_of_ble_eq_true rfl) dL_answerOf_4 ⟨Nat.le_of_eq (Nat.zero_add _), Nat.le_of_eq (Nat.zero_add _)⟩ (st1 := [.int v, .int 0, .ref o]) rfl (fun u H locs hP hD hS => ?_)
  refine lv_i2l (v := v.toInt64) hx hb dL_answerOf_7 rfl ?_
  refine va_last hx hb hK hP hD hS (ws1 u).length 4 gl_last rfl vi01 dL_answerOf_8 (fun H locs hP hD hS => ?_)
  rw [st_last, z0n] at hP hD
  refine lv_goto (tgt := 18) hx hb dL_answerOf_9 (by decide) ?_
  refine lv_iconst (v := 0) hx hb dL_answerOf_18 (by decide) ?_
  refine W.widen (k := mc) (n := ms) (by omega) (by omega) ?_
  exact eNi S hr hlk u hP hD hS dL_answerOf_19 rfl rfl
set_option maxHeartbeats 4000000 in
set_option maxRecDepth 100000 in
theorem ht_answerOf_1 (l : Launch) (dg : va_G) (cA : Nat → ClassId) {X : va_W} {b o : Nat} {fs : List Value} {f : Nat → Int64} {rm : Room} (x1 : Int32) (he : X[0]? = some (b, .inr (5, fs))) (hM : MetX l dg cA yX5_answerOf cX5_answerOf 2 (some .int) rm X [.ref b, .int x1] "java/lang/IndexOutOfBoundsException") (hb1 : rm.cells = 1) (hb2 : rm.slots = 6) (hb3 : rm.frames ≤ 8) (hb4 : rm.locals ≤ 200) (sz : Nat) : MetZ l dg cA yL_answerOf cL_answerOf 4 [(0, 9, 12, 25), (0, 9, 15, 40)] ({ frames := 9, cells := 1, slots := 6, locals := 250 } : Room) 1 6 (X ++ [lo cA o f]) sz [.ref b, .int x1, .ref o] (fun _ => X ++ [lo cA o f]) 1 := by
  refine ofZ (by decide) (Nat.le_of_ble_eq_true rfl) (own := RL) rfl (fun p e s0 m args below meth ccd ls A hAe S hr hlk htab hK hZ hN hP hD hS hA hsz hl => ?_)
  have hx := S.1
  have hb := S.2.1
  have hl : lv_has ls 4 [(0, .ref b), (1, .int x1), (2, .ref o)] := hl
  refine lv_aload_n hx hb dL_answerOf_0 rfl (lv_at hl 2 rfl) ?_
  refine lv_iconst (v := 0) hx hb dL_answerOf_1 (by decide) ?_
  refine lv_aload_n hx hb dL_answerOf_2 rfl (lv_at hl 0 rfl) ?_
  refine lv_iload_n hx hb dL_answerOf_3 rfl (lv_at hl 1 rfl) ?_
  refine cXF (A := A) S hM kL_66 ⟨hb1, hb2, by show rm.frames + 1 ≤ 9; omega, by show 8 + (2 + 11) + rm.locals ≤ 250; omega⟩ hK hZ hP 0 he (q := (RX5, TX5, 9)) rfl rfl (As := [.int x1]) rfl hl.1 (rest := [.int 0, .ref o]) rfl (Nat.le_of_ble_eq_true rfl) dL_answerOf_4 ⟨Nat.le_of_ble_eq_true rfl, Nat.le_of_ble_eq_true rfl⟩ (fun z ce H locs hP hS h1 h2 h3 => ?_)
  have hpass : ∀ z ∈ ([] : List ExceptionTableEntry), covers z 4 = false ∨ (z.catchType ≠ 0 ∧ ∃ nm : String, (Cond.classLink RL z.catchType nm).before args s0 = true ∧ va_Nc "java/lang/IndexOutOfBoundsException" nm s0) := fun z hz => by cases hz
  refine vx_catch S.2.2.2.1 [] ⟨0, 9, 12, 25⟩ [⟨0, 9, 15, 40⟩] (by rw [htab]; rfl) hpass (by decide) (by decide) (S.2.2.2.2 _ clL_25) (cc_word hZ.2.2.1 cst_ibe) h1 h2 h3 ?_
  refine lv_astore_n (lv' := [(3, .ref z), (0, .ref b), (1, .int x1), (2, .ref o)]) hx hb dL_answerOf_12 rfl hl (by decide) rfl (fun ls hl => ?_)
  refine lv_iconst (v := 1) hx hb dL_answerOf_13 (by decide) ?_
  exact eNi S hr hlk (fun _ => 0) hP hD hS dL_answerOf_14 rfl rfl
set_option maxHeartbeats 4000000 in
set_option maxRecDepth 100000 in
theorem ht_answerOf_2 (l : Launch) (dg : va_G) (cA : Nat → ClassId) {X : va_W} {b o : Nat} {fs : List Value} {f : Nat → Int64} {rm : Room} (x1 : Int32) (he : X[0]? = some (b, .inr (5, fs))) (hM : MetX l dg cA yX5_answerOf cX5_answerOf 2 (some .int) rm X [.ref b, .int x1] "java/util/NoSuchElementException") (hb1 : rm.cells = 1) (hb2 : rm.slots = 6) (hb3 : rm.frames ≤ 8) (hb4 : rm.locals ≤ 200) (sz : Nat) : MetZ l dg cA yL_answerOf cL_answerOf 4 [(0, 9, 12, 25), (0, 9, 15, 40)] ({ frames := 9, cells := 1, slots := 6, locals := 250 } : Room) 1 6 (X ++ [lo cA o f]) sz [.ref b, .int x1, .ref o] (fun _ => X ++ [lo cA o f]) 2 := by
  refine ofZ (by decide) (Nat.le_of_ble_eq_true rfl) (own := RL) rfl (fun p e s0 m args below meth ccd ls A hAe S hr hlk htab hK hZ hN hP hD hS hA hsz hl => ?_)
  have hx := S.1
  have hb := S.2.1
  have hl : lv_has ls 4 [(0, .ref b), (1, .int x1), (2, .ref o)] := hl
  refine lv_aload_n hx hb dL_answerOf_0 rfl (lv_at hl 2 rfl) ?_
  refine lv_iconst (v := 0) hx hb dL_answerOf_1 (by decide) ?_
  refine lv_aload_n hx hb dL_answerOf_2 rfl (lv_at hl 0 rfl) ?_
  refine lv_iload_n hx hb dL_answerOf_3 rfl (lv_at hl 1 rfl) ?_
  refine cXF (A := A) S hM kL_66 ⟨hb1, hb2, by show rm.frames + 1 ≤ 9; omega, by show 8 + (2 + 11) + rm.locals ≤ 250; omega⟩ hK hZ hP 0 he (q := (RX5, TX5, 9)) rfl rfl (As := [.int x1]) rfl hl.1 (rest := [.int 0, .ref o]) rfl (Nat.le_of_ble_eq_true rfl) dL_answerOf_4 ⟨Nat.le_of_ble_eq_true rfl, Nat.le_of_ble_eq_true rfl⟩ (fun z ce H locs hP hS h1 h2 h3 => ?_)
  have hpass : ∀ z ∈ ([⟨0, 9, 12, 25⟩] : List ExceptionTableEntry), covers z 4 = false ∨ (z.catchType ≠ 0 ∧ ∃ nm : String, (Cond.classLink RL z.catchType nm).before args s0 = true ∧ va_Nc "java/util/NoSuchElementException" nm s0) := fun z hz => by
    simp only [List.mem_cons, List.not_mem_nil, or_false] at hz
    rcases hz with rfl
    exact Or.inr ⟨by decide, _, S.2.2.2.2 _ clL_25, hN.2.2.2⟩
  refine vx_catch S.2.2.2.1 [⟨0, 9, 12, 25⟩] ⟨0, 9, 15, 40⟩ [] (by rw [htab]; rfl) hpass (by decide) (by decide) (S.2.2.2.2 _ clL_40) (cc_word hZ.2.2.1 cst_nse) h1 h2 h3 ?_
  refine lv_astore_n (lv' := [(3, .ref z), (0, .ref b), (1, .int x1), (2, .ref o)]) hx hb dL_answerOf_15 rfl hl (by decide) rfl (fun ls hl => ?_)
  refine lv_iconst (v := 2) hx hb dL_answerOf_16 (by decide) ?_
  exact eNi S hr hlk (fun _ => 0) hP hD hS dL_answerOf_17 rfl rfl
set_option maxHeartbeats 4000000 in
set_option maxRecDepth 100000 in
theorem hs_faults (l : Launch) (dg : va_G) (cA : Nat → ClassId) {X : va_W} {ws1 : (Nat → Nat) → va_W} {b o mc ms : Nat} {fs : List Value} {f : Nat → Int64} {rm : Room} (x1 : Int32) {v : Int32} (he : X[0]? = some (b, .inr (5, fs))) (hM : ∀ sz, MetN l dg cA yX5_faults cX5_faults 2 (some .int) rm mc ms X sz [.ref b, .int x1] ws1 (some (.int v))) (hb1 : rm.cells = mc) (hb2 : rm.slots = ms) (hb3 : rm.frames ≤ 8) (hb4 : rm.locals ≤ 200) (sz : Nat) : MetZ l dg cA yL_faults cL_faults 4 [(0, 9, 12, 25)] ({ frames := 9, cells := mc, slots := ms, locals := 250 } : Room) mc ms (X ++ [lo cA o f]) sz [.ref b, .int x1, .ref o] (fun u => ws1 u ++ [lo cA o (vp_updL f 0 v.toInt64)]) 0 := by
  refine ofZ (by decide) (Nat.le_of_ble_eq_true rfl) (own := RL) rfl (fun p e s0 m args below meth ccd ls A hAe S hr hlk htab hK hZ hN hP hD hS hA hsz hl => ?_)
  have hx := S.1
  have hb := S.2.1
  have hl : lv_has ls 4 [(0, .ref b), (1, .int x1), (2, .ref o)] := hl
  refine lv_aload_n hx hb dL_faults_0 rfl (lv_at hl 2 rfl) ?_
  refine lv_iconst (v := 0) hx hb dL_faults_1 (by decide) ?_
  refine lv_aload_n hx hb dL_faults_2 rfl (lv_at hl 0 rfl) ?_
  refine lv_iload_n hx hb dL_faults_3 rfl (lv_at hl 1 rfl) ?_
  refine cNF S (hM _) kL_69 ⟨hb1, hb2, by show rm.frames + 1 ≤ 9; omega, by show 8 + (2 + 11) + rm.locals ≤ 250; omega⟩ hK hP hD hS hA 0 he (q := (RX5, TX5, 9)) rfl rfl (As := [.int x1]) rfl hl.1 (rest := [.int 0, .ref o]) rfl (Nat.le_of_ble_eq_true rfl) dL_faults_4 ⟨Nat.le_of_eq (Nat.zero_add _), Nat.le_of_eq (Nat.zero_add _)⟩ (st1 := [.int v, .int 0, .ref o]) rfl (fun u H locs hP hD hS => ?_)
  refine lv_i2l (v := v.toInt64) hx hb dL_faults_7 rfl ?_
  refine va_last hx hb hK hP hD hS (ws1 u).length 4 gl_last rfl vi01 dL_faults_8 (fun H locs hP hD hS => ?_)
  rw [st_last, z0n] at hP hD
  refine lv_goto (tgt := 15) hx hb dL_faults_9 (by decide) ?_
  refine lv_iconst (v := 0) hx hb dL_faults_15 (by decide) ?_
  refine W.widen (k := mc) (n := ms) (by omega) (by omega) ?_
  exact eNi S hr hlk u hP hD hS dL_faults_16 rfl rfl
set_option maxHeartbeats 4000000 in
set_option maxRecDepth 100000 in
theorem ht_faults_1 (l : Launch) (dg : va_G) (cA : Nat → ClassId) {X : va_W} {b o : Nat} {fs : List Value} {f : Nat → Int64} {rm : Room} (x1 : Int32) (he : X[0]? = some (b, .inr (5, fs))) (hM : MetX l dg cA yX5_faults cX5_faults 2 (some .int) rm X [.ref b, .int x1] "java/lang/IndexOutOfBoundsException") (hb1 : rm.cells = 1) (hb2 : rm.slots = 6) (hb3 : rm.frames ≤ 8) (hb4 : rm.locals ≤ 200) (sz : Nat) : MetZ l dg cA yL_faults cL_faults 4 [(0, 9, 12, 25)] ({ frames := 9, cells := 1, slots := 6, locals := 250 } : Room) 1 6 (X ++ [lo cA o f]) sz [.ref b, .int x1, .ref o] (fun _ => X ++ [lo cA o f]) 1 := by
  refine ofZ (by decide) (Nat.le_of_ble_eq_true rfl) (own := RL) rfl (fun p e s0 m args below meth ccd ls A hAe S hr hlk htab hK hZ hN hP hD hS hA hsz hl => ?_)
  have hx := S.1
  have hb := S.2.1
  have hl : lv_has ls 4 [(0, .ref b), (1, .int x1), (2, .ref o)] := hl
  refine lv_aload_n hx hb dL_faults_0 rfl (lv_at hl 2 rfl) ?_
  refine lv_iconst (v := 0) hx hb dL_faults_1 (by decide) ?_
  refine lv_aload_n hx hb dL_faults_2 rfl (lv_at hl 0 rfl) ?_
  refine lv_iload_n hx hb dL_faults_3 rfl (lv_at hl 1 rfl) ?_
  refine cXF (A := A) S hM kL_69 ⟨hb1, hb2, by show rm.frames + 1 ≤ 9; omega, by show 8 + (2 + 11) + rm.locals ≤ 250; omega⟩ hK hZ hP 0 he (q := (RX5, TX5, 9)) rfl rfl (As := [.int x1]) rfl hl.1 (rest := [.int 0, .ref o]) rfl (Nat.le_of_ble_eq_true rfl) dL_faults_4 ⟨Nat.le_of_ble_eq_true rfl, Nat.le_of_ble_eq_true rfl⟩ (fun z ce H locs hP hS h1 h2 h3 => ?_)
  have hpass : ∀ z ∈ ([] : List ExceptionTableEntry), covers z 4 = false ∨ (z.catchType ≠ 0 ∧ ∃ nm : String, (Cond.classLink RL z.catchType nm).before args s0 = true ∧ va_Nc "java/lang/IndexOutOfBoundsException" nm s0) := fun z hz => by cases hz
  refine vx_catch S.2.2.2.1 [] ⟨0, 9, 12, 25⟩ [] (by rw [htab]; rfl) hpass (by decide) (by decide) (S.2.2.2.2 _ clL_25) (cc_word hZ.2.2.1 cst_ibe) h1 h2 h3 ?_
  refine lv_astore_n (lv' := [(3, .ref z), (0, .ref b), (1, .int x1), (2, .ref o)]) hx hb dL_faults_12 rfl hl (by decide) rfl (fun ls hl => ?_)
  refine lv_iconst (v := 1) hx hb dL_faults_13 (by decide) ?_
  exact eNi S hr hlk (fun _ => 0) hP hD hS dL_faults_14 rfl rfl
set_option maxHeartbeats 4000000 in
set_option maxRecDepth 100000 in
theorem hs_answersTo (l : Launch) (dg : va_G) (cA : Nat → ClassId) {X : va_W} {ws1 : (Nat → Nat) → va_W} {b o mc ms : Nat} {fs : List Value} {f : Nat → Int64} {rm : Room} (x1 : Int32) {v : Int32} (he : X[0]? = some (b, .inr (5, fs))) (hM : ∀ sz, MetN l dg cA yX5_answersTo cX5_answersTo 4 (some .int) rm mc ms X sz [.ref b, .int x1] ws1 (some (.int v))) (hb1 : rm.cells = mc) (hb2 : rm.slots = ms) (hb3 : rm.frames ≤ 8) (hb4 : rm.locals ≤ 200) (sz : Nat) : MetZ l dg cA yL_answersTo cL_answersTo 4 [(0, 9, 12, 25)] ({ frames := 9, cells := mc, slots := ms, locals := 250 } : Room) mc ms (X ++ [lo cA o f]) sz [.ref b, .int x1, .ref o] (fun u => ws1 u ++ [lo cA o (vp_updL f 0 v.toInt64)]) 0 := by
  refine ofZ (by decide) (Nat.le_of_ble_eq_true rfl) (own := RL) rfl (fun p e s0 m args below meth ccd ls A hAe S hr hlk htab hK hZ hN hP hD hS hA hsz hl => ?_)
  have hx := S.1
  have hb := S.2.1
  have hl : lv_has ls 4 [(0, .ref b), (1, .int x1), (2, .ref o)] := hl
  refine lv_aload_n hx hb dL_answersTo_0 rfl (lv_at hl 2 rfl) ?_
  refine lv_iconst (v := 0) hx hb dL_answersTo_1 (by decide) ?_
  refine lv_aload_n hx hb dL_answersTo_2 rfl (lv_at hl 0 rfl) ?_
  refine lv_iload_n hx hb dL_answersTo_3 rfl (lv_at hl 1 rfl) ?_
  refine cNF S (hM _) kL_72 ⟨hb1, hb2, by show rm.frames + 1 ≤ 9; omega, by show 8 + (4 + 11) + rm.locals ≤ 250; omega⟩ hK hP hD hS hA 0 he (q := (RX5, TX5, 9)) rfl rfl (As := [.int x1]) rfl hl.1 (rest := [.int 0, .ref o]) rfl (Nat.le_of_ble_eq_true rfl) dL_answersTo_4 ⟨Nat.le_of_eq (Nat.zero_add _), Nat.le_of_eq (Nat.zero_add _)⟩ (st1 := [.int v, .int 0, .ref o]) rfl (fun u H locs hP hD hS => ?_)
  refine lv_i2l (v := v.toInt64) hx hb dL_answersTo_7 rfl ?_
  refine va_last hx hb hK hP hD hS (ws1 u).length 4 gl_last rfl vi01 dL_answersTo_8 (fun H locs hP hD hS => ?_)
  rw [st_last, z0n] at hP hD
  refine lv_goto (tgt := 15) hx hb dL_answersTo_9 (by decide) ?_
  refine lv_iconst (v := 0) hx hb dL_answersTo_15 (by decide) ?_
  refine W.widen (k := mc) (n := ms) (by omega) (by omega) ?_
  exact eNi S hr hlk u hP hD hS dL_answersTo_16 rfl rfl
set_option maxHeartbeats 4000000 in
set_option maxRecDepth 100000 in
theorem ht_answersTo_1 (l : Launch) (dg : va_G) (cA : Nat → ClassId) {X : va_W} {b o : Nat} {fs : List Value} {f : Nat → Int64} {rm : Room} (x1 : Int32) (he : X[0]? = some (b, .inr (5, fs))) (hM : MetX l dg cA yX5_answersTo cX5_answersTo 4 (some .int) rm X [.ref b, .int x1] "java/lang/IndexOutOfBoundsException") (hb1 : rm.cells = 1) (hb2 : rm.slots = 6) (hb3 : rm.frames ≤ 8) (hb4 : rm.locals ≤ 200) (sz : Nat) : MetZ l dg cA yL_answersTo cL_answersTo 4 [(0, 9, 12, 25)] ({ frames := 9, cells := 1, slots := 6, locals := 250 } : Room) 1 6 (X ++ [lo cA o f]) sz [.ref b, .int x1, .ref o] (fun _ => X ++ [lo cA o f]) 1 := by
  refine ofZ (by decide) (Nat.le_of_ble_eq_true rfl) (own := RL) rfl (fun p e s0 m args below meth ccd ls A hAe S hr hlk htab hK hZ hN hP hD hS hA hsz hl => ?_)
  have hx := S.1
  have hb := S.2.1
  have hl : lv_has ls 4 [(0, .ref b), (1, .int x1), (2, .ref o)] := hl
  refine lv_aload_n hx hb dL_answersTo_0 rfl (lv_at hl 2 rfl) ?_
  refine lv_iconst (v := 0) hx hb dL_answersTo_1 (by decide) ?_
  refine lv_aload_n hx hb dL_answersTo_2 rfl (lv_at hl 0 rfl) ?_
  refine lv_iload_n hx hb dL_answersTo_3 rfl (lv_at hl 1 rfl) ?_
  refine cXF (A := A) S hM kL_72 ⟨hb1, hb2, by show rm.frames + 1 ≤ 9; omega, by show 8 + (4 + 11) + rm.locals ≤ 250; omega⟩ hK hZ hP 0 he (q := (RX5, TX5, 9)) rfl rfl (As := [.int x1]) rfl hl.1 (rest := [.int 0, .ref o]) rfl (Nat.le_of_ble_eq_true rfl) dL_answersTo_4 ⟨Nat.le_of_ble_eq_true rfl, Nat.le_of_ble_eq_true rfl⟩ (fun z ce H locs hP hS h1 h2 h3 => ?_)
  have hpass : ∀ z ∈ ([] : List ExceptionTableEntry), covers z 4 = false ∨ (z.catchType ≠ 0 ∧ ∃ nm : String, (Cond.classLink RL z.catchType nm).before args s0 = true ∧ va_Nc "java/lang/IndexOutOfBoundsException" nm s0) := fun z hz => by cases hz
  refine vx_catch S.2.2.2.1 [] ⟨0, 9, 12, 25⟩ [] (by rw [htab]; rfl) hpass (by decide) (by decide) (S.2.2.2.2 _ clL_25) (cc_word hZ.2.2.1 cst_ibe) h1 h2 h3 ?_
  refine lv_astore_n (lv' := [(3, .ref z), (0, .ref b), (1, .int x1), (2, .ref o)]) hx hb dL_answersTo_12 rfl hl (by decide) rfl (fun ls hl => ?_)
  refine lv_iconst (v := 1) hx hb dL_answersTo_13 (by decide) ?_
  exact eNi S hr hlk (fun _ => 0) hP hD hS dL_answersTo_14 rfl rfl
set_option maxHeartbeats 4000000 in
set_option maxRecDepth 100000 in
theorem hs_target (l : Launch) (dg : va_G) (cA : Nat → ClassId) {X : va_W} {ws1 : (Nat → Nat) → va_W} {b o mc ms : Nat} {fs : List Value} {f : Nat → Int64} {rm : Room} (x1 : Int32) {v : Int32} (he : X[0]? = some (b, .inr (5, fs))) (hM : ∀ sz, MetN l dg cA yX5_target cX5_target 2 (some .int) rm mc ms X sz [.ref b, .int x1] ws1 (some (.int v))) (hb1 : rm.cells = mc) (hb2 : rm.slots = ms) (hb3 : rm.frames ≤ 8) (hb4 : rm.locals ≤ 200) (sz : Nat) : MetZ l dg cA yL_target cL_target 4 [(0, 9, 12, 25)] ({ frames := 9, cells := mc, slots := ms, locals := 250 } : Room) mc ms (X ++ [lo cA o f]) sz [.ref b, .int x1, .ref o] (fun u => ws1 u ++ [lo cA o (vp_updL f 0 v.toInt64)]) 0 := by
  refine ofZ (by decide) (Nat.le_of_ble_eq_true rfl) (own := RL) rfl (fun p e s0 m args below meth ccd ls A hAe S hr hlk htab hK hZ hN hP hD hS hA hsz hl => ?_)
  have hx := S.1
  have hb := S.2.1
  have hl : lv_has ls 4 [(0, .ref b), (1, .int x1), (2, .ref o)] := hl
  refine lv_aload_n hx hb dL_target_0 rfl (lv_at hl 2 rfl) ?_
  refine lv_iconst (v := 0) hx hb dL_target_1 (by decide) ?_
  refine lv_aload_n hx hb dL_target_2 rfl (lv_at hl 0 rfl) ?_
  refine lv_iload_n hx hb dL_target_3 rfl (lv_at hl 1 rfl) ?_
  refine cNF S (hM _) kL_75 ⟨hb1, hb2, by show rm.frames + 1 ≤ 9; omega, by show 8 + (2 + 11) + rm.locals ≤ 250; omega⟩ hK hP hD hS hA 0 he (q := (RX5, TX5, 9)) rfl rfl (As := [.int x1]) rfl hl.1 (rest := [.int 0, .ref o]) rfl (Nat.le_of_ble_eq_true rfl) dL_target_4 ⟨Nat.le_of_eq (Nat.zero_add _), Nat.le_of_eq (Nat.zero_add _)⟩ (st1 := [.int v, .int 0, .ref o]) rfl (fun u H locs hP hD hS => ?_)
  refine lv_i2l (v := v.toInt64) hx hb dL_target_7 rfl ?_
  refine va_last hx hb hK hP hD hS (ws1 u).length 4 gl_last rfl vi01 dL_target_8 (fun H locs hP hD hS => ?_)
  rw [st_last, z0n] at hP hD
  refine lv_goto (tgt := 15) hx hb dL_target_9 (by decide) ?_
  refine lv_iconst (v := 0) hx hb dL_target_15 (by decide) ?_
  refine W.widen (k := mc) (n := ms) (by omega) (by omega) ?_
  exact eNi S hr hlk u hP hD hS dL_target_16 rfl rfl
set_option maxHeartbeats 4000000 in
set_option maxRecDepth 100000 in
theorem ht_target_1 (l : Launch) (dg : va_G) (cA : Nat → ClassId) {X : va_W} {b o : Nat} {fs : List Value} {f : Nat → Int64} {rm : Room} (x1 : Int32) (he : X[0]? = some (b, .inr (5, fs))) (hM : MetX l dg cA yX5_target cX5_target 2 (some .int) rm X [.ref b, .int x1] "java/lang/IndexOutOfBoundsException") (hb1 : rm.cells = 1) (hb2 : rm.slots = 6) (hb3 : rm.frames ≤ 8) (hb4 : rm.locals ≤ 200) (sz : Nat) : MetZ l dg cA yL_target cL_target 4 [(0, 9, 12, 25)] ({ frames := 9, cells := 1, slots := 6, locals := 250 } : Room) 1 6 (X ++ [lo cA o f]) sz [.ref b, .int x1, .ref o] (fun _ => X ++ [lo cA o f]) 1 := by
  refine ofZ (by decide) (Nat.le_of_ble_eq_true rfl) (own := RL) rfl (fun p e s0 m args below meth ccd ls A hAe S hr hlk htab hK hZ hN hP hD hS hA hsz hl => ?_)
  have hx := S.1
  have hb := S.2.1
  have hl : lv_has ls 4 [(0, .ref b), (1, .int x1), (2, .ref o)] := hl
  refine lv_aload_n hx hb dL_target_0 rfl (lv_at hl 2 rfl) ?_
  refine lv_iconst (v := 0) hx hb dL_target_1 (by decide) ?_
  refine lv_aload_n hx hb dL_target_2 rfl (lv_at hl 0 rfl) ?_
  refine lv_iload_n hx hb dL_target_3 rfl (lv_at hl 1 rfl) ?_
  refine cXF (A := A) S hM kL_75 ⟨hb1, hb2, by show rm.frames + 1 ≤ 9; omega, by show 8 + (2 + 11) + rm.locals ≤ 250; omega⟩ hK hZ hP 0 he (q := (RX5, TX5, 9)) rfl rfl (As := [.int x1]) rfl hl.1 (rest := [.int 0, .ref o]) rfl (Nat.le_of_ble_eq_true rfl) dL_target_4 ⟨Nat.le_of_ble_eq_true rfl, Nat.le_of_ble_eq_true rfl⟩ (fun z ce H locs hP hS h1 h2 h3 => ?_)
  have hpass : ∀ z ∈ ([] : List ExceptionTableEntry), covers z 4 = false ∨ (z.catchType ≠ 0 ∧ ∃ nm : String, (Cond.classLink RL z.catchType nm).before args s0 = true ∧ va_Nc "java/lang/IndexOutOfBoundsException" nm s0) := fun z hz => by cases hz
  refine vx_catch S.2.2.2.1 [] ⟨0, 9, 12, 25⟩ [] (by rw [htab]; rfl) hpass (by decide) (by decide) (S.2.2.2.2 _ clL_25) (cc_word hZ.2.2.1 cst_ibe) h1 h2 h3 ?_
  refine lv_astore_n (lv' := [(3, .ref z), (0, .ref b), (1, .int x1), (2, .ref o)]) hx hb dL_target_12 rfl hl (by decide) rfl (fun ls hl => ?_)
  refine lv_iconst (v := 1) hx hb dL_target_13 (by decide) ?_
  exact eNi S hr hlk (fun _ => 0) hP hD hS dL_target_14 rfl rfl
set_option maxHeartbeats 4000000 in
set_option maxRecDepth 100000 in
theorem hs_weight (l : Launch) (dg : va_G) (cA : Nat → ClassId) {X : va_W} {ws1 : (Nat → Nat) → va_W} {b o mc ms : Nat} {fs : List Value} {f : Nat → Int64} {rm : Room} (x1 : Int32) {v : Int32} (he : X[0]? = some (b, .inr (5, fs))) (hM : ∀ sz, MetN l dg cA yX5_weight cX5_weight 2 (some .int) rm mc ms X sz [.ref b, .int x1] ws1 (some (.int v))) (hb1 : rm.cells = mc) (hb2 : rm.slots = ms) (hb3 : rm.frames ≤ 8) (hb4 : rm.locals ≤ 200) (sz : Nat) : MetZ l dg cA yL_weight cL_weight 4 [(0, 9, 12, 25), (0, 9, 15, 40)] ({ frames := 9, cells := mc, slots := ms, locals := 250 } : Room) mc ms (X ++ [lo cA o f]) sz [.ref b, .int x1, .ref o] (fun u => ws1 u ++ [lo cA o (vp_updL f 0 v.toInt64)]) 0 := by
  refine ofZ (by decide) (Nat.le_of_ble_eq_true rfl) (own := RL) rfl (fun p e s0 m args below meth ccd ls A hAe S hr hlk htab hK hZ hN hP hD hS hA hsz hl => ?_)
  have hx := S.1
  have hb := S.2.1
  have hl : lv_has ls 4 [(0, .ref b), (1, .int x1), (2, .ref o)] := hl
  refine lv_aload_n hx hb dL_weight_0 rfl (lv_at hl 2 rfl) ?_
  refine lv_iconst (v := 0) hx hb dL_weight_1 (by decide) ?_
  refine lv_aload_n hx hb dL_weight_2 rfl (lv_at hl 0 rfl) ?_
  refine lv_iload_n hx hb dL_weight_3 rfl (lv_at hl 1 rfl) ?_
  refine cNF S (hM _) kL_78 ⟨hb1, hb2, by show rm.frames + 1 ≤ 9; omega, by show 8 + (2 + 11) + rm.locals ≤ 250; omega⟩ hK hP hD hS hA 0 he (q := (RX5, TX5, 9)) rfl rfl (As := [.int x1]) rfl hl.1 (rest := [.int 0, .ref o]) rfl (Nat.le_of_ble_eq_true rfl) dL_weight_4 ⟨Nat.le_of_eq (Nat.zero_add _), Nat.le_of_eq (Nat.zero_add _)⟩ (st1 := [.int v, .int 0, .ref o]) rfl (fun u H locs hP hD hS => ?_)
  refine lv_i2l (v := v.toInt64) hx hb dL_weight_7 rfl ?_
  refine va_last hx hb hK hP hD hS (ws1 u).length 4 gl_last rfl vi01 dL_weight_8 (fun H locs hP hD hS => ?_)
  rw [st_last, z0n] at hP hD
  refine lv_goto (tgt := 18) hx hb dL_weight_9 (by decide) ?_
  refine lv_iconst (v := 0) hx hb dL_weight_18 (by decide) ?_
  refine W.widen (k := mc) (n := ms) (by omega) (by omega) ?_
  exact eNi S hr hlk u hP hD hS dL_weight_19 rfl rfl
set_option maxHeartbeats 4000000 in
set_option maxRecDepth 100000 in
theorem ht_weight_1 (l : Launch) (dg : va_G) (cA : Nat → ClassId) {X : va_W} {b o : Nat} {fs : List Value} {f : Nat → Int64} {rm : Room} (x1 : Int32) (he : X[0]? = some (b, .inr (5, fs))) (hM : MetX l dg cA yX5_weight cX5_weight 2 (some .int) rm X [.ref b, .int x1] "java/lang/IndexOutOfBoundsException") (hb1 : rm.cells = 1) (hb2 : rm.slots = 6) (hb3 : rm.frames ≤ 8) (hb4 : rm.locals ≤ 200) (sz : Nat) : MetZ l dg cA yL_weight cL_weight 4 [(0, 9, 12, 25), (0, 9, 15, 40)] ({ frames := 9, cells := 1, slots := 6, locals := 250 } : Room) 1 6 (X ++ [lo cA o f]) sz [.ref b, .int x1, .ref o] (fun _ => X ++ [lo cA o f]) 1 := by
  refine ofZ (by decide) (Nat.le_of_ble_eq_true rfl) (own := RL) rfl (fun p e s0 m args below meth ccd ls A hAe S hr hlk htab hK hZ hN hP hD hS hA hsz hl => ?_)
  have hx := S.1
  have hb := S.2.1
  have hl : lv_has ls 4 [(0, .ref b), (1, .int x1), (2, .ref o)] := hl
  refine lv_aload_n hx hb dL_weight_0 rfl (lv_at hl 2 rfl) ?_
  refine lv_iconst (v := 0) hx hb dL_weight_1 (by decide) ?_
  refine lv_aload_n hx hb dL_weight_2 rfl (lv_at hl 0 rfl) ?_
  refine lv_iload_n hx hb dL_weight_3 rfl (lv_at hl 1 rfl) ?_
  refine cXF (A := A) S hM kL_78 ⟨hb1, hb2, by show rm.frames + 1 ≤ 9; omega, by show 8 + (2 + 11) + rm.locals ≤ 250; omega⟩ hK hZ hP 0 he (q := (RX5, TX5, 9)) rfl rfl (As := [.int x1]) rfl hl.1 (rest := [.int 0, .ref o]) rfl (Nat.le_of_ble_eq_true rfl) dL_weight_4 ⟨Nat.le_of_ble_eq_true rfl, Nat.le_of_ble_eq_true rfl⟩ (fun z ce H locs hP hS h1 h2 h3 => ?_)
  have hpass : ∀ z ∈ ([] : List ExceptionTableEntry), covers z 4 = false ∨ (z.catchType ≠ 0 ∧ ∃ nm : String, (Cond.classLink RL z.catchType nm).before args s0 = true ∧ va_Nc "java/lang/IndexOutOfBoundsException" nm s0) := fun z hz => by cases hz
  refine vx_catch S.2.2.2.1 [] ⟨0, 9, 12, 25⟩ [⟨0, 9, 15, 40⟩] (by rw [htab]; rfl) hpass (by decide) (by decide) (S.2.2.2.2 _ clL_25) (cc_word hZ.2.2.1 cst_ibe) h1 h2 h3 ?_
  refine lv_astore_n (lv' := [(3, .ref z), (0, .ref b), (1, .int x1), (2, .ref o)]) hx hb dL_weight_12 rfl hl (by decide) rfl (fun ls hl => ?_)
  refine lv_iconst (v := 1) hx hb dL_weight_13 (by decide) ?_
  exact eNi S hr hlk (fun _ => 0) hP hD hS dL_weight_14 rfl rfl
set_option maxHeartbeats 4000000 in
set_option maxRecDepth 100000 in
theorem ht_weight_2 (l : Launch) (dg : va_G) (cA : Nat → ClassId) {X : va_W} {b o : Nat} {fs : List Value} {f : Nat → Int64} {rm : Room} (x1 : Int32) (he : X[0]? = some (b, .inr (5, fs))) (hM : MetX l dg cA yX5_weight cX5_weight 2 (some .int) rm X [.ref b, .int x1] "java/util/NoSuchElementException") (hb1 : rm.cells = 1) (hb2 : rm.slots = 6) (hb3 : rm.frames ≤ 8) (hb4 : rm.locals ≤ 200) (sz : Nat) : MetZ l dg cA yL_weight cL_weight 4 [(0, 9, 12, 25), (0, 9, 15, 40)] ({ frames := 9, cells := 1, slots := 6, locals := 250 } : Room) 1 6 (X ++ [lo cA o f]) sz [.ref b, .int x1, .ref o] (fun _ => X ++ [lo cA o f]) 2 := by
  refine ofZ (by decide) (Nat.le_of_ble_eq_true rfl) (own := RL) rfl (fun p e s0 m args below meth ccd ls A hAe S hr hlk htab hK hZ hN hP hD hS hA hsz hl => ?_)
  have hx := S.1
  have hb := S.2.1
  have hl : lv_has ls 4 [(0, .ref b), (1, .int x1), (2, .ref o)] := hl
  refine lv_aload_n hx hb dL_weight_0 rfl (lv_at hl 2 rfl) ?_
  refine lv_iconst (v := 0) hx hb dL_weight_1 (by decide) ?_
  refine lv_aload_n hx hb dL_weight_2 rfl (lv_at hl 0 rfl) ?_
  refine lv_iload_n hx hb dL_weight_3 rfl (lv_at hl 1 rfl) ?_
  refine cXF (A := A) S hM kL_78 ⟨hb1, hb2, by show rm.frames + 1 ≤ 9; omega, by show 8 + (2 + 11) + rm.locals ≤ 250; omega⟩ hK hZ hP 0 he (q := (RX5, TX5, 9)) rfl rfl (As := [.int x1]) rfl hl.1 (rest := [.int 0, .ref o]) rfl (Nat.le_of_ble_eq_true rfl) dL_weight_4 ⟨Nat.le_of_ble_eq_true rfl, Nat.le_of_ble_eq_true rfl⟩ (fun z ce H locs hP hS h1 h2 h3 => ?_)
  have hpass : ∀ z ∈ ([⟨0, 9, 12, 25⟩] : List ExceptionTableEntry), covers z 4 = false ∨ (z.catchType ≠ 0 ∧ ∃ nm : String, (Cond.classLink RL z.catchType nm).before args s0 = true ∧ va_Nc "java/util/NoSuchElementException" nm s0) := fun z hz => by
    simp only [List.mem_cons, List.not_mem_nil, or_false] at hz
    rcases hz with rfl
    exact Or.inr ⟨by decide, _, S.2.2.2.2 _ clL_25, hN.2.2.2⟩
  refine vx_catch S.2.2.2.1 [⟨0, 9, 12, 25⟩] ⟨0, 9, 15, 40⟩ [] (by rw [htab]; rfl) hpass (by decide) (by decide) (S.2.2.2.2 _ clL_40) (cc_word hZ.2.2.1 cst_nse) h1 h2 h3 ?_
  refine lv_astore_n (lv' := [(3, .ref z), (0, .ref b), (1, .int x1), (2, .ref o)]) hx hb dL_weight_15 rfl hl (by decide) rfl (fun ls hl => ?_)
  refine lv_iconst (v := 2) hx hb dL_weight_16 (by decide) ?_
  exact eNi S hr hlk (fun _ => 0) hP hD hS dL_weight_17 rfl rfl
set_option maxHeartbeats 4000000 in
set_option maxRecDepth 100000 in
theorem hs_weightAnew (l : Launch) (dg : va_G) (cA : Nat → ClassId) {X : va_W} {ws1 : (Nat → Nat) → va_W} {b o mc ms : Nat} {fs : List Value} {f : Nat → Int64} {rm : Room} (x1 : Int32) {v : Int32} (he : X[0]? = some (b, .inr (5, fs))) (hM : ∀ sz, MetN l dg cA yX5_weightAnew cX5_weightAnew 2 (some .int) rm mc ms X sz [.ref b, .int x1] ws1 (some (.int v))) (hb1 : rm.cells = mc) (hb2 : rm.slots = ms) (hb3 : rm.frames ≤ 8) (hb4 : rm.locals ≤ 200) (sz : Nat) : MetZ l dg cA yL_weightAnew cL_weightAnew 4 [(0, 9, 12, 25), (0, 9, 15, 40)] ({ frames := 9, cells := mc, slots := ms, locals := 250 } : Room) mc ms (X ++ [lo cA o f]) sz [.ref b, .int x1, .ref o] (fun u => ws1 u ++ [lo cA o (vp_updL f 0 v.toInt64)]) 0 := by
  refine ofZ (by decide) (Nat.le_of_ble_eq_true rfl) (own := RL) rfl (fun p e s0 m args below meth ccd ls A hAe S hr hlk htab hK hZ hN hP hD hS hA hsz hl => ?_)
  have hx := S.1
  have hb := S.2.1
  have hl : lv_has ls 4 [(0, .ref b), (1, .int x1), (2, .ref o)] := hl
  refine lv_aload_n hx hb dL_weightAnew_0 rfl (lv_at hl 2 rfl) ?_
  refine lv_iconst (v := 0) hx hb dL_weightAnew_1 (by decide) ?_
  refine lv_aload_n hx hb dL_weightAnew_2 rfl (lv_at hl 0 rfl) ?_
  refine lv_iload_n hx hb dL_weightAnew_3 rfl (lv_at hl 1 rfl) ?_
  refine cNF S (hM _) kL_81 ⟨hb1, hb2, by show rm.frames + 1 ≤ 9; omega, by show 8 + (2 + 11) + rm.locals ≤ 250; omega⟩ hK hP hD hS hA 0 he (q := (RX5, TX5, 9)) rfl rfl (As := [.int x1]) rfl hl.1 (rest := [.int 0, .ref o]) rfl (Nat.le_of_ble_eq_true rfl) dL_weightAnew_4 ⟨Nat.le_of_eq (Nat.zero_add _), Nat.le_of_eq (Nat.zero_add _)⟩ (st1 := [.int v, .int 0, .ref o]) rfl (fun u H locs hP hD hS => ?_)
  refine lv_i2l (v := v.toInt64) hx hb dL_weightAnew_7 rfl ?_
  refine va_last hx hb hK hP hD hS (ws1 u).length 4 gl_last rfl vi01 dL_weightAnew_8 (fun H locs hP hD hS => ?_)
  rw [st_last, z0n] at hP hD
  refine lv_goto (tgt := 18) hx hb dL_weightAnew_9 (by decide) ?_
  refine lv_iconst (v := 0) hx hb dL_weightAnew_18 (by decide) ?_
  refine W.widen (k := mc) (n := ms) (by omega) (by omega) ?_
  exact eNi S hr hlk u hP hD hS dL_weightAnew_19 rfl rfl
set_option maxHeartbeats 4000000 in
set_option maxRecDepth 100000 in
theorem ht_weightAnew_1 (l : Launch) (dg : va_G) (cA : Nat → ClassId) {X : va_W} {b o : Nat} {fs : List Value} {f : Nat → Int64} {rm : Room} (x1 : Int32) (he : X[0]? = some (b, .inr (5, fs))) (hM : MetX l dg cA yX5_weightAnew cX5_weightAnew 2 (some .int) rm X [.ref b, .int x1] "java/lang/IndexOutOfBoundsException") (hb1 : rm.cells = 1) (hb2 : rm.slots = 6) (hb3 : rm.frames ≤ 8) (hb4 : rm.locals ≤ 200) (sz : Nat) : MetZ l dg cA yL_weightAnew cL_weightAnew 4 [(0, 9, 12, 25), (0, 9, 15, 40)] ({ frames := 9, cells := 1, slots := 6, locals := 250 } : Room) 1 6 (X ++ [lo cA o f]) sz [.ref b, .int x1, .ref o] (fun _ => X ++ [lo cA o f]) 1 := by
  refine ofZ (by decide) (Nat.le_of_ble_eq_true rfl) (own := RL) rfl (fun p e s0 m args below meth ccd ls A hAe S hr hlk htab hK hZ hN hP hD hS hA hsz hl => ?_)
  have hx := S.1
  have hb := S.2.1
  have hl : lv_has ls 4 [(0, .ref b), (1, .int x1), (2, .ref o)] := hl
  refine lv_aload_n hx hb dL_weightAnew_0 rfl (lv_at hl 2 rfl) ?_
  refine lv_iconst (v := 0) hx hb dL_weightAnew_1 (by decide) ?_
  refine lv_aload_n hx hb dL_weightAnew_2 rfl (lv_at hl 0 rfl) ?_
  refine lv_iload_n hx hb dL_weightAnew_3 rfl (lv_at hl 1 rfl) ?_
  refine cXF (A := A) S hM kL_81 ⟨hb1, hb2, by show rm.frames + 1 ≤ 9; omega, by show 8 + (2 + 11) + rm.locals ≤ 250; omega⟩ hK hZ hP 0 he (q := (RX5, TX5, 9)) rfl rfl (As := [.int x1]) rfl hl.1 (rest := [.int 0, .ref o]) rfl (Nat.le_of_ble_eq_true rfl) dL_weightAnew_4 ⟨Nat.le_of_ble_eq_true rfl, Nat.le_of_ble_eq_true rfl⟩ (fun z ce H locs hP hS h1 h2 h3 => ?_)
  have hpass : ∀ z ∈ ([] : List ExceptionTableEntry), covers z 4 = false ∨ (z.catchType ≠ 0 ∧ ∃ nm : String, (Cond.classLink RL z.catchType nm).before args s0 = true ∧ va_Nc "java/lang/IndexOutOfBoundsException" nm s0) := fun z hz => by cases hz
  refine vx_catch S.2.2.2.1 [] ⟨0, 9, 12, 25⟩ [⟨0, 9, 15, 40⟩] (by rw [htab]; rfl) hpass (by decide) (by decide) (S.2.2.2.2 _ clL_25) (cc_word hZ.2.2.1 cst_ibe) h1 h2 h3 ?_
  refine lv_astore_n (lv' := [(3, .ref z), (0, .ref b), (1, .int x1), (2, .ref o)]) hx hb dL_weightAnew_12 rfl hl (by decide) rfl (fun ls hl => ?_)
  refine lv_iconst (v := 1) hx hb dL_weightAnew_13 (by decide) ?_
  exact eNi S hr hlk (fun _ => 0) hP hD hS dL_weightAnew_14 rfl rfl
set_option maxHeartbeats 4000000 in
set_option maxRecDepth 100000 in
theorem ht_weightAnew_2 (l : Launch) (dg : va_G) (cA : Nat → ClassId) {X : va_W} {b o : Nat} {fs : List Value} {f : Nat → Int64} {rm : Room} (x1 : Int32) (he : X[0]? = some (b, .inr (5, fs))) (hM : MetX l dg cA yX5_weightAnew cX5_weightAnew 2 (some .int) rm X [.ref b, .int x1] "java/util/NoSuchElementException") (hb1 : rm.cells = 1) (hb2 : rm.slots = 6) (hb3 : rm.frames ≤ 8) (hb4 : rm.locals ≤ 200) (sz : Nat) : MetZ l dg cA yL_weightAnew cL_weightAnew 4 [(0, 9, 12, 25), (0, 9, 15, 40)] ({ frames := 9, cells := 1, slots := 6, locals := 250 } : Room) 1 6 (X ++ [lo cA o f]) sz [.ref b, .int x1, .ref o] (fun _ => X ++ [lo cA o f]) 2 := by
  refine ofZ (by decide) (Nat.le_of_ble_eq_true rfl) (own := RL) rfl (fun p e s0 m args below meth ccd ls A hAe S hr hlk htab hK hZ hN hP hD hS hA hsz hl => ?_)
  have hx := S.1
  have hb := S.2.1
  have hl : lv_has ls 4 [(0, .ref b), (1, .int x1), (2, .ref o)] := hl
  refine lv_aload_n hx hb dL_weightAnew_0 rfl (lv_at hl 2 rfl) ?_
  refine lv_iconst (v := 0) hx hb dL_weightAnew_1 (by decide) ?_
  refine lv_aload_n hx hb dL_weightAnew_2 rfl (lv_at hl 0 rfl) ?_
  refine lv_iload_n hx hb dL_weightAnew_3 rfl (lv_at hl 1 rfl) ?_
  refine cXF (A := A) S hM kL_81 ⟨hb1, hb2, by show rm.frames + 1 ≤ 9; omega, by show 8 + (2 + 11) + rm.locals ≤ 250; omega⟩ hK hZ hP 0 he (q := (RX5, TX5, 9)) rfl rfl (As := [.int x1]) rfl hl.1 (rest := [.int 0, .ref o]) rfl (Nat.le_of_ble_eq_true rfl) dL_weightAnew_4 ⟨Nat.le_of_ble_eq_true rfl, Nat.le_of_ble_eq_true rfl⟩ (fun z ce H locs hP hS h1 h2 h3 => ?_)
  have hpass : ∀ z ∈ ([⟨0, 9, 12, 25⟩] : List ExceptionTableEntry), covers z 4 = false ∨ (z.catchType ≠ 0 ∧ ∃ nm : String, (Cond.classLink RL z.catchType nm).before args s0 = true ∧ va_Nc "java/util/NoSuchElementException" nm s0) := fun z hz => by
    simp only [List.mem_cons, List.not_mem_nil, or_false] at hz
    rcases hz with rfl
    exact Or.inr ⟨by decide, _, S.2.2.2.2 _ clL_25, hN.2.2.2⟩
  refine vx_catch S.2.2.2.1 [⟨0, 9, 12, 25⟩] ⟨0, 9, 15, 40⟩ [] (by rw [htab]; rfl) hpass (by decide) (by decide) (S.2.2.2.2 _ clL_40) (cc_word hZ.2.2.1 cst_nse) h1 h2 h3 ?_
  refine lv_astore_n (lv' := [(3, .ref z), (0, .ref b), (1, .int x1), (2, .ref o)]) hx hb dL_weightAnew_15 rfl hl (by decide) rfl (fun ls hl => ?_)
  refine lv_iconst (v := 2) hx hb dL_weightAnew_16 (by decide) ?_
  exact eNi S hr hlk (fun _ => 0) hP hD hS dL_weightAnew_17 rfl rfl
set_option maxHeartbeats 4000000 in
set_option maxRecDepth 100000 in
theorem hs_weightOfLanguage (l : Launch) (dg : va_G) (cA : Nat → ClassId) {X : va_W} {ws1 : (Nat → Nat) → va_W} {b o mc ms : Nat} {fs : List Value} {f : Nat → Int64} {rm : Room} (x1 : Int32) {v : Int32} (he : X[0]? = some (b, .inr (5, fs))) (hM : ∀ sz, MetN l dg cA yX5_weightOfLanguage cX5_weightOfLanguage 2 (some .int) rm mc ms X sz [.ref b, .int x1] ws1 (some (.int v))) (hb1 : rm.cells = mc) (hb2 : rm.slots = ms) (hb3 : rm.frames ≤ 8) (hb4 : rm.locals ≤ 200) (sz : Nat) : MetZ l dg cA yL_weightOfLanguage cL_weightOfLanguage 4 [(0, 9, 12, 13)] ({ frames := 9, cells := mc, slots := ms, locals := 250 } : Room) mc ms (X ++ [lo cA o f]) sz [.ref b, .int x1, .ref o] (fun u => ws1 u ++ [lo cA o (vp_updL f 0 v.toInt64)]) 0 := by
  refine ofZ (by decide) (Nat.le_of_ble_eq_true rfl) (own := RL) rfl (fun p e s0 m args below meth ccd ls A hAe S hr hlk htab hK hZ hN hP hD hS hA hsz hl => ?_)
  have hx := S.1
  have hb := S.2.1
  have hl : lv_has ls 4 [(0, .ref b), (1, .int x1), (2, .ref o)] := hl
  refine lv_aload_n hx hb dL_weightOfLanguage_0 rfl (lv_at hl 2 rfl) ?_
  refine lv_iconst (v := 0) hx hb dL_weightOfLanguage_1 (by decide) ?_
  refine lv_aload_n hx hb dL_weightOfLanguage_2 rfl (lv_at hl 0 rfl) ?_
  refine lv_iload_n hx hb dL_weightOfLanguage_3 rfl (lv_at hl 1 rfl) ?_
  refine cNF S (hM _) kL_84 ⟨hb1, hb2, by show rm.frames + 1 ≤ 9; omega, by show 8 + (2 + 11) + rm.locals ≤ 250; omega⟩ hK hP hD hS hA 0 he (q := (RX5, TX5, 9)) rfl rfl (As := [.int x1]) rfl hl.1 (rest := [.int 0, .ref o]) rfl (Nat.le_of_ble_eq_true rfl) dL_weightOfLanguage_4 ⟨Nat.le_of_eq (Nat.zero_add _), Nat.le_of_eq (Nat.zero_add _)⟩ (st1 := [.int v, .int 0, .ref o]) rfl (fun u H locs hP hD hS => ?_)
  refine lv_i2l (v := v.toInt64) hx hb dL_weightOfLanguage_7 rfl ?_
  refine va_last hx hb hK hP hD hS (ws1 u).length 4 gl_last rfl vi01 dL_weightOfLanguage_8 (fun H locs hP hD hS => ?_)
  rw [st_last, z0n] at hP hD
  refine lv_goto (tgt := 15) hx hb dL_weightOfLanguage_9 (by decide) ?_
  refine lv_iconst (v := 0) hx hb dL_weightOfLanguage_15 (by decide) ?_
  refine W.widen (k := mc) (n := ms) (by omega) (by omega) ?_
  exact eNi S hr hlk u hP hD hS dL_weightOfLanguage_16 rfl rfl
set_option maxHeartbeats 4000000 in
set_option maxRecDepth 100000 in
theorem ht_weightOfLanguage_1 (l : Launch) (dg : va_G) (cA : Nat → ClassId) {X : va_W} {b o : Nat} {fs : List Value} {f : Nat → Int64} {rm : Room} (x1 : Int32) (he : X[0]? = some (b, .inr (5, fs))) (hM : MetX l dg cA yX5_weightOfLanguage cX5_weightOfLanguage 2 (some .int) rm X [.ref b, .int x1] "java/lang/IllegalArgumentException") (hb1 : rm.cells = 1) (hb2 : rm.slots = 6) (hb3 : rm.frames ≤ 8) (hb4 : rm.locals ≤ 200) (sz : Nat) : MetZ l dg cA yL_weightOfLanguage cL_weightOfLanguage 4 [(0, 9, 12, 13)] ({ frames := 9, cells := 1, slots := 6, locals := 250 } : Room) 1 6 (X ++ [lo cA o f]) sz [.ref b, .int x1, .ref o] (fun _ => X ++ [lo cA o f]) 1 := by
  refine ofZ (by decide) (Nat.le_of_ble_eq_true rfl) (own := RL) rfl (fun p e s0 m args below meth ccd ls A hAe S hr hlk htab hK hZ hN hP hD hS hA hsz hl => ?_)
  have hx := S.1
  have hb := S.2.1
  have hl : lv_has ls 4 [(0, .ref b), (1, .int x1), (2, .ref o)] := hl
  refine lv_aload_n hx hb dL_weightOfLanguage_0 rfl (lv_at hl 2 rfl) ?_
  refine lv_iconst (v := 0) hx hb dL_weightOfLanguage_1 (by decide) ?_
  refine lv_aload_n hx hb dL_weightOfLanguage_2 rfl (lv_at hl 0 rfl) ?_
  refine lv_iload_n hx hb dL_weightOfLanguage_3 rfl (lv_at hl 1 rfl) ?_
  refine cXF (A := A) S hM kL_84 ⟨hb1, hb2, by show rm.frames + 1 ≤ 9; omega, by show 8 + (2 + 11) + rm.locals ≤ 250; omega⟩ hK hZ hP 0 he (q := (RX5, TX5, 9)) rfl rfl (As := [.int x1]) rfl hl.1 (rest := [.int 0, .ref o]) rfl (Nat.le_of_ble_eq_true rfl) dL_weightOfLanguage_4 ⟨Nat.le_of_ble_eq_true rfl, Nat.le_of_ble_eq_true rfl⟩ (fun z ce H locs hP hS h1 h2 h3 => ?_)
  have hpass : ∀ z ∈ ([] : List ExceptionTableEntry), covers z 4 = false ∨ (z.catchType ≠ 0 ∧ ∃ nm : String, (Cond.classLink RL z.catchType nm).before args s0 = true ∧ va_Nc "java/lang/IllegalArgumentException" nm s0) := fun z hz => by cases hz
  refine vx_catch S.2.2.2.1 [] ⟨0, 9, 12, 13⟩ [] (by rw [htab]; rfl) hpass (by decide) (by decide) (S.2.2.2.2 _ clL_13) (cc_word hZ.2.2.1 cst_iae) h1 h2 h3 ?_
  refine lv_astore_n (lv' := [(3, .ref z), (0, .ref b), (1, .int x1), (2, .ref o)]) hx hb dL_weightOfLanguage_12 rfl hl (by decide) rfl (fun ls hl => ?_)
  refine lv_iconst (v := 1) hx hb dL_weightOfLanguage_13 (by decide) ?_
  exact eNi S hr hlk (fun _ => 0) hP hD hS dL_weightOfLanguage_14 rfl rfl
set_option maxHeartbeats 4000000 in
set_option maxRecDepth 100000 in
theorem hs_weightedMean (l : Launch) (dg : va_G) (cA : Nat → ClassId) {X : va_W} {ws1 : (Nat → Nat) → va_W} {b o mc ms : Nat} {fs : List Value} {g : Nat → UInt64} {rm : Room} {v : UInt64} (he : X[0]? = some (b, .inr (5, fs))) (hM : ∀ sz, MetN l dg cA yX5_weightedMean cX5_weightedMean 3 (some .double) rm mc ms X sz [.ref b] ws1 (some (.double v))) (hb1 : rm.cells = mc) (hb2 : rm.slots = ms) (hb3 : rm.frames ≤ 8) (hb4 : rm.locals ≤ 200) (sz : Nat) : MetZ l dg cA yL_weightedMean cL_weightedMean 3 [(0, 7, 10, 91)] ({ frames := 9, cells := mc, slots := ms, locals := 250 } : Room) mc ms (X ++ [ld cA o g]) sz [.ref b, .ref o] (fun u => ws1 u ++ [ld cA o (vf_upd g 0 (v))]) 0 := by
  refine ofZ (by decide) (Nat.le_of_ble_eq_true rfl) (own := RL) rfl (fun p e s0 m args below meth ccd ls A hAe S hr hlk htab hK hZ hN hP hD hS hA hsz hl => ?_)
  have hx := S.1
  have hb := S.2.1
  have hl : lv_has ls 3 [(0, .ref b), (1, .ref o)] := hl
  refine lv_aload_n hx hb dL_weightedMean_0 rfl (lv_at hl 1 rfl) ?_
  refine lv_iconst (v := 0) hx hb dL_weightedMean_1 (by decide) ?_
  refine lv_aload_n hx hb dL_weightedMean_2 rfl (lv_at hl 0 rfl) ?_
  refine cNF S (hM _) kL_87 ⟨hb1, hb2, by show rm.frames + 1 ≤ 9; omega, by show 8 + (3 + 11) + rm.locals ≤ 250; omega⟩ hK hP hD hS hA 0 he (q := (RX5, TX5, 9)) rfl rfl (As := []) rfl hl.1 (rest := [.int 0, .ref o]) rfl (Nat.le_of_ble_eq_true rfl) dL_weightedMean_3 ⟨Nat.le_of_eq (Nat.zero_add _), Nat.le_of_eq (Nat.zero_add _)⟩ (st1 := [.double v, .int 0, .ref o]) rfl (fun u H locs hP hD hS => ?_)
  refine va_dast hx hb hK hP hD hS (ws1 u).length 5 gl_last rfl vi01 dL_weightedMean_6 (fun H locs hP hD hS => ?_)
  rw [st_last, z0n] at hP hD
  refine lv_goto (tgt := 13) hx hb dL_weightedMean_7 (by decide) ?_
  refine lv_iconst (v := 0) hx hb dL_weightedMean_13 (by decide) ?_
  refine W.widen (k := mc) (n := ms) (by omega) (by omega) ?_
  exact eNi S hr hlk u hP hD hS dL_weightedMean_14 rfl rfl
set_option maxHeartbeats 4000000 in
set_option maxRecDepth 100000 in
theorem ht_weightedMean_1 (l : Launch) (dg : va_G) (cA : Nat → ClassId) {X : va_W} {b o : Nat} {fs : List Value} {g : Nat → UInt64} {rm : Room} (he : X[0]? = some (b, .inr (5, fs))) (hM : MetX l dg cA yX5_weightedMean cX5_weightedMean 3 (some .double) rm X [.ref b] "java/lang/ArithmeticException") (hb1 : rm.cells = 1) (hb2 : rm.slots = 6) (hb3 : rm.frames ≤ 8) (hb4 : rm.locals ≤ 200) (sz : Nat) : MetZ l dg cA yL_weightedMean cL_weightedMean 3 [(0, 7, 10, 91)] ({ frames := 9, cells := 1, slots := 6, locals := 250 } : Room) 1 6 (X ++ [ld cA o g]) sz [.ref b, .ref o] (fun _ => X ++ [ld cA o g]) 1 := by
  refine ofZ (by decide) (Nat.le_of_ble_eq_true rfl) (own := RL) rfl (fun p e s0 m args below meth ccd ls A hAe S hr hlk htab hK hZ hN hP hD hS hA hsz hl => ?_)
  have hx := S.1
  have hb := S.2.1
  have hl : lv_has ls 3 [(0, .ref b), (1, .ref o)] := hl
  refine lv_aload_n hx hb dL_weightedMean_0 rfl (lv_at hl 1 rfl) ?_
  refine lv_iconst (v := 0) hx hb dL_weightedMean_1 (by decide) ?_
  refine lv_aload_n hx hb dL_weightedMean_2 rfl (lv_at hl 0 rfl) ?_
  refine cXF (A := A) S hM kL_87 ⟨hb1, hb2, by show rm.frames + 1 ≤ 9; omega, by show 8 + (3 + 11) + rm.locals ≤ 250; omega⟩ hK hZ hP 0 he (q := (RX5, TX5, 9)) rfl rfl (As := []) rfl hl.1 (rest := [.int 0, .ref o]) rfl (Nat.le_of_ble_eq_true rfl) dL_weightedMean_3 ⟨Nat.le_of_ble_eq_true rfl, Nat.le_of_ble_eq_true rfl⟩ (fun z ce H locs hP hS h1 h2 h3 => ?_)
  have hpass : ∀ z ∈ ([] : List ExceptionTableEntry), covers z 3 = false ∨ (z.catchType ≠ 0 ∧ ∃ nm : String, (Cond.classLink RL z.catchType nm).before args s0 = true ∧ va_Nc "java/lang/ArithmeticException" nm s0) := fun z hz => by cases hz
  refine vx_catch S.2.2.2.1 [] ⟨0, 7, 10, 91⟩ [] (by rw [htab]; rfl) hpass (by decide) (by decide) (S.2.2.2.2 _ clL_91) (cc_word hZ.2.2.1 cst_are) h1 h2 h3 ?_
  refine lv_astore_n (lv' := [(2, .ref z), (0, .ref b), (1, .ref o)]) hx hb dL_weightedMean_10 rfl hl (by decide) rfl (fun ls hl => ?_)
  refine lv_iconst (v := 1) hx hb dL_weightedMean_11 (by decide) ?_
  exact eNi S hr hlk (fun _ => 0) hP hD hS dL_weightedMean_12 rfl rfl
set_option maxHeartbeats 4000000 in
set_option maxRecDepth 100000 in
theorem hs_rate (l : Launch) (dg : va_G) (cA : Nat → ClassId) {X : va_W} {ws1 : (Nat → Nat) → va_W} {b o mc ms : Nat} {fs : List Value} {g : Nat → UInt64} {rm : Room} {v : UInt32} (he : X[0]? = some (b, .inr (5, fs))) (hM : ∀ sz, MetN l dg cA yX5_rate cX5_rate 5 (some .float) rm mc ms X sz [.ref b] ws1 (some (.float v))) (hb1 : rm.cells = mc) (hb2 : rm.slots = ms) (hb3 : rm.frames ≤ 8) (hb4 : rm.locals ≤ 200) (hnan : vf_n64 (FP.f2d v)) (sz : Nat) : MetZ l dg cA yL_rate cL_rate 3 [(0, 8, 11, 91)] ({ frames := 9, cells := mc, slots := ms, locals := 250 } : Room) mc ms (X ++ [ld cA o g]) sz [.ref b, .ref o] (fun u => ws1 u ++ [ld cA o (vf_upd g 0 (FP.f2d v))]) 0 := by
  refine ofZ (by decide) (Nat.le_of_ble_eq_true rfl) (own := RL) rfl (fun p e s0 m args below meth ccd ls A hAe S hr hlk htab hK hZ hN hP hD hS hA hsz hl => ?_)
  have hx := S.1
  have hb := S.2.1
  have hl : lv_has ls 3 [(0, .ref b), (1, .ref o)] := hl
  refine lv_aload_n hx hb dL_rate_0 rfl (lv_at hl 1 rfl) ?_
  refine lv_iconst (v := 0) hx hb dL_rate_1 (by decide) ?_
  refine lv_aload_n hx hb dL_rate_2 rfl (lv_at hl 0 rfl) ?_
  refine cNF S (hM _) kL_93 ⟨hb1, hb2, by show rm.frames + 1 ≤ 9; omega, by show 8 + (5 + 11) + rm.locals ≤ 250; omega⟩ hK hP hD hS hA 0 he (q := (RX5, TX5, 9)) rfl rfl (As := []) rfl hl.1 (rest := [.int 0, .ref o]) rfl (Nat.le_of_ble_eq_true rfl) dL_rate_3 ⟨Nat.le_of_eq (Nat.zero_add _), Nat.le_of_eq (Nat.zero_add _)⟩ (st1 := [.float v, .int 0, .ref o]) rfl (fun u H locs hP hD hS => ?_)
  refine lv_f2d hx hb dL_rate_6 hnan ?_
  refine va_dast hx hb hK hP hD hS (ws1 u).length 5 gl_last rfl vi01 dL_rate_7 (fun H locs hP hD hS => ?_)
  rw [st_last, z0n] at hP hD
  refine lv_goto (tgt := 14) hx hb dL_rate_8 (by decide) ?_
  refine lv_iconst (v := 0) hx hb dL_rate_14 (by decide) ?_
  refine W.widen (k := mc) (n := ms) (by omega) (by omega) ?_
  exact eNi S hr hlk u hP hD hS dL_rate_15 rfl rfl
set_option maxHeartbeats 4000000 in
set_option maxRecDepth 100000 in
theorem ht_rate_1 (l : Launch) (dg : va_G) (cA : Nat → ClassId) {X : va_W} {b o : Nat} {fs : List Value} {g : Nat → UInt64} {rm : Room} (he : X[0]? = some (b, .inr (5, fs))) (hM : MetX l dg cA yX5_rate cX5_rate 5 (some .float) rm X [.ref b] "java/lang/ArithmeticException") (hb1 : rm.cells = 1) (hb2 : rm.slots = 6) (hb3 : rm.frames ≤ 8) (hb4 : rm.locals ≤ 200) (sz : Nat) : MetZ l dg cA yL_rate cL_rate 3 [(0, 8, 11, 91)] ({ frames := 9, cells := 1, slots := 6, locals := 250 } : Room) 1 6 (X ++ [ld cA o g]) sz [.ref b, .ref o] (fun _ => X ++ [ld cA o g]) 1 := by
  refine ofZ (by decide) (Nat.le_of_ble_eq_true rfl) (own := RL) rfl (fun p e s0 m args below meth ccd ls A hAe S hr hlk htab hK hZ hN hP hD hS hA hsz hl => ?_)
  have hx := S.1
  have hb := S.2.1
  have hl : lv_has ls 3 [(0, .ref b), (1, .ref o)] := hl
  refine lv_aload_n hx hb dL_rate_0 rfl (lv_at hl 1 rfl) ?_
  refine lv_iconst (v := 0) hx hb dL_rate_1 (by decide) ?_
  refine lv_aload_n hx hb dL_rate_2 rfl (lv_at hl 0 rfl) ?_
  refine cXF (A := A) S hM kL_93 ⟨hb1, hb2, by show rm.frames + 1 ≤ 9; omega, by show 8 + (5 + 11) + rm.locals ≤ 250; omega⟩ hK hZ hP 0 he (q := (RX5, TX5, 9)) rfl rfl (As := []) rfl hl.1 (rest := [.int 0, .ref o]) rfl (Nat.le_of_ble_eq_true rfl) dL_rate_3 ⟨Nat.le_of_ble_eq_true rfl, Nat.le_of_ble_eq_true rfl⟩ (fun z ce H locs hP hS h1 h2 h3 => ?_)
  have hpass : ∀ z ∈ ([] : List ExceptionTableEntry), covers z 3 = false ∨ (z.catchType ≠ 0 ∧ ∃ nm : String, (Cond.classLink RL z.catchType nm).before args s0 = true ∧ va_Nc "java/lang/ArithmeticException" nm s0) := fun z hz => by cases hz
  refine vx_catch S.2.2.2.1 [] ⟨0, 8, 11, 91⟩ [] (by rw [htab]; rfl) hpass (by decide) (by decide) (S.2.2.2.2 _ clL_91) (cc_word hZ.2.2.1 cst_are) h1 h2 h3 ?_
  refine lv_astore_n (lv' := [(2, .ref z), (0, .ref b), (1, .ref o)]) hx hb dL_rate_11 rfl hl (by decide) rfl (fun ls hl => ?_)
  refine lv_iconst (v := 1) hx hb dL_rate_12 (by decide) ?_
  exact eNi S hr hlk (fun _ => 0) hP hD hS dL_rate_13 rfl rfl
