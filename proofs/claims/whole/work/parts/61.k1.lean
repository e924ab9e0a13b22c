/-! the law's cases, first half -/
set_option maxHeartbeats 4000000 in
set_option maxRecDepth 100000 in
theorem k_setChance {p : Program} {l : Launch} {e : Env} {s : State} {m : MethodId} {args : Array Value} {below : List Frame} {meth : Method} {c : Code} {Q : State → Prop} {dg : va_G} {cA : Nat → ClassId} {A : Nat → Prop} {b L : Nat} {xs : Nat → Int32} (C : LC p l dg cA s m c args A b L xs) (hL : L ≤ 2048) (k : Nat) (hk : 4 * k + 4 ≤ L) {u ad : Nat → Nat} {o od n ni ns hs : Nat} {cs r : St} {f : Nat → Int64} {g : Nat → UInt64} {H : Heap} {locs : List Loc} {cells slots : Nat} {ls : Array Slot} (Re : Rel cs r n ni ns hs) (hhs : hs ≤ k) (hP : PP dg (LW cA u ad o od n ni cs r f g) H) (hD : va_D A (LW cA u ad o od n ni cs r f g)) (hS : va_S A s.heap H locs) (hl : lv_has ls 9 (lL b (u 0) (ad 0) o od (nI (4 * k)))) (hce : cells ≤ 60 + 8 * k) (hsl : slots ≤ 2000 + 100 * k) (K : KN p l e s m args below meth c Q dg cA A b (u 0) ad o od k) : W p l e room_1 s m args below meth c H locs cells slots Q (F0 m 164 ls []) := by
  have hx := C.1.1
  have hb := C.1.2.1
  have hK := C.2.1
  obtain ⟨kk, f1, w, c1, r1, n1, ni1, ns1, hs1, mc, ms, rm2, h1, ⟨hmc, hms⟩, h2, h3, h4, h5, Re1, hhs1⟩ := p_setChance l dg cA C.2.2.2.2.2.2 (u := u) (ad := ad) (o := o) (f := f) Re (by omega) (xs (4 * k + 1))
  refine lv_aload_n hx hb dL_law_164 rfl (lv_at hl 1 rfl) ?_
  refine lv_aload_n hx hb dL_law_165 rfl (lv_at hl 0 rfl) ?_
  refine lv_iload hx hb dL_law_166 (lv_at hl 5 rfl) ?_
  refine lv_iconst (v := 1) hx hb dL_law_168 (by decide) ?_
  refine lv_iadd hx hb dL_law_169 ?_
  refine lv_as (y := nI (4 * k + 1)) (nI_1 (4 * k)) ?_
  refine sldk C hS (j := 4 * k + 1) (by omega) hL dL_law_170 ?_
  refine lv_aload_n hx hb dL_law_171 rfl (lv_at hl 3 rfl) ?_
  refine lwZ C h1 kL_101 (by decide) hmc hms (by omega) (by omega) hP hD hS rfl hl.1 (rest := []) rfl (Nat.le_of_ble_eq_true rfl) dL_law_172 (fun z H locs hP hD hS => ?_)
  refine lv_istore (lv' := [(6, .int kk), (0, .ref b), (1, .ref (u 0)), (2, .ref (ad 0)), (3, .ref o), (4, .ref od), (5, .int (nI (4 * k)))]) hx hb dL_law_175 hl (by decide) rfl (fun ls hl => ?_)
  refine lv_aload_n hx hb dL_law_177 rfl (lv_at hl 3 rfl) ?_
  refine lv_aload_n hx hb dL_law_178 rfl (lv_at hl 1 rfl) ?_
  refine lv_iload hx hb dL_law_179 (lv_at hl 6 rfl) ?_
  refine lv_iconst (v := 1) hx hb dL_law_181 (by decide) ?_
  refine lv_iadd hx hb dL_law_182 ?_
  refine lv_as (y := nI (4 * k + 1)) (nI_1 (4 * k)) ?_
  refine sldk C hS (j := 4 * k + 1) (by omega) hL dL_law_183 ?_
  refine lwM C (fun sz => Met.ofM (h2 sz)) kL_106 h3 (by decide) (by omega) (by omega) hP hD hS rfl hl.1 (rest := []) rfl (Nat.le_of_ble_eq_true rfl) dL_law_184 (st1 := [.int w]) rfl (fun H locs hP hD hS => ?_)
  refine lv_istore (lv' := [(7, .int w), (6, .int kk), (0, .ref b), (1, .ref (u 0)), (2, .ref (ad 0)), (3, .ref o), (4, .ref od), (5, .int (nI (4 * k)))]) hx hb dL_law_187 hl (by decide) rfl (fun ls hl => ?_)
  refine lv_aload_n hx hb dL_law_189 rfl (lv_at hl 4 rfl) ?_
  refine lwM C (fun sz => Met.ofR (rr_thrown l dg cA ad r1) sz) kL_107 ⟨rfl, rfl, (Nat.le_of_ble_eq_true rfl), (Nat.le_of_ble_eq_true rfl)⟩ (by decide) (by omega) (by omega) hP hD hS rfl hl.1 (rest := []) rfl (Nat.le_of_ble_eq_true rfl) dL_law_190 (st1 := [.int (r1 0 0)]) rfl (fun H locs hP hD hS => ?_)
  refine lv_as (y := kk) h4 ?_
  refine lv_iload hx hb dL_law_193 (lv_at hl 1 rfl) ?_
  refine lv_icmp_eq (tgt := 200) hx hb dL_law_195 (by decide) (fun _ => ?_) (fun h => absurd rfl h)
  refine lv_iload hx hb dL_law_200 (lv_at hl 1 rfl) ?_
  refine lv_if_ne (tgt := 217) hx hb dL_law_202 (by decide) (fun _ => ?_) (fun h => ?_)
  · skip
    refine lv_goto (tgt := 1604) hx hb dL_law_217 (by decide) ?_
    exact K (fixz (u 0) z) n1 ni1 ns1 hs1 c1 r1 f1 g H locs _ _ ls fixz_0 Re1 (by omega) hP hD hS (lv_sub hl [2, 3, 4, 5, 6, 7] rfl) (by omega) (by omega)
  · skip
    refine lv_aload_n hx hb dL_law_205 rfl (lv_at hl 5 rfl) ?_
    refine lv_iconst (v := 0) hx hb dL_law_206 (by decide) ?_
    refine va_lald hx hb hK hP (cw cA (fixz (u 0) z) n1 ni1 c1).length 4 lw_lo rfl vi01 dL_law_207 ?_
    refine lv_iload hx hb dL_law_208 (lv_at hl 0 rfl) ?_
    refine lv_i2l (v := w.toInt64) hx hb dL_law_210 rfl ?_
    refine W.lcmp hx hb dL_law_211 ?_
    refine lv_as (y := 0) ((lg_cmp_eq (f1 0) w.toInt64).mpr (h5 h)) ?_
    refine lv_if_eq (tgt := 217) hx hb dL_law_212 (by decide) (fun _ => ?_) (fun h => absurd rfl h)
    refine lv_goto (tgt := 1604) hx hb dL_law_217 (by decide) ?_
    exact K (fixz (u 0) z) n1 ni1 ns1 hs1 c1 r1 f1 g H locs _ _ ls fixz_0 Re1 (by omega) hP hD hS (lv_sub hl [2, 3, 4, 5, 6, 7] rfl) (by omega) (by omega)
set_option maxHeartbeats 4000000 in
set_option maxRecDepth 100000 in
theorem k_addStratum {p : Program} {l : Launch} {e : Env} {s : State} {m : MethodId} {args : Array Value} {below : List Frame} {meth : Method} {c : Code} {Q : State → Prop} {dg : va_G} {cA : Nat → ClassId} {A : Nat → Prop} {b L : Nat} {xs : Nat → Int32} (C : LC p l dg cA s m c args A b L xs) (hL : L ≤ 2048) (k : Nat) (hk : 4 * k + 4 ≤ L) {u ad : Nat → Nat} {o od n ni ns hs : Nat} {cs r : St} {f : Nat → Int64} {g : Nat → UInt64} {H : Heap} {locs : List Loc} {cells slots : Nat} {ls : Array Slot} (Re : Rel cs r n ni ns hs) (hhs : hs ≤ k) (hP : PP dg (LW cA u ad o od n ni cs r f g) H) (hD : va_D A (LW cA u ad o od n ni cs r f g)) (hS : va_S A s.heap H locs) (hl : lv_has ls 9 (lL b (u 0) (ad 0) o od (nI (4 * k)))) (hce : cells ≤ 60 + 8 * k) (hsl : slots ≤ 2000 + 100 * k) (K : KN p l e s m args below meth c Q dg cA A b (u 0) ad o od k) : W p l e room_1 s m args below meth c H locs cells slots Q (F0 m 220 ls []) := by
  have hx := C.1.1
  have hb := C.1.2.1
  have hK := C.2.1
  obtain ⟨kk, f1, w, c1, r1, n1, ni1, ns1, hs1, mc, ms, rm2, h1, ⟨hmc, hms⟩, h2, h3, h4, h5, Re1, hhs1⟩ := p_addStratum l dg cA C.2.2.2.2.2.2 (u := u) (ad := ad) (o := o) (f := f) Re (by omega) 
  refine lv_aload_n hx hb dL_law_220 rfl (lv_at hl 1 rfl) ?_
  refine lv_aload_n hx hb dL_law_221 rfl (lv_at hl 3 rfl) ?_
  refine lwZ C h1 kL_110 (by decide) hmc hms (by omega) (by omega) hP hD hS rfl hl.1 (rest := []) rfl (Nat.le_of_ble_eq_true rfl) dL_law_222 (fun z H locs hP hD hS => ?_)
  refine lv_istore (lv' := [(6, .int kk), (0, .ref b), (1, .ref (u 0)), (2, .ref (ad 0)), (3, .ref o), (4, .ref od), (5, .int (nI (4 * k)))]) hx hb dL_law_225 hl (by decide) rfl (fun ls hl => ?_)
  refine lv_aload_n hx hb dL_law_227 rfl (lv_at hl 3 rfl) ?_
  refine lwM C (fun sz => Met.ofM (h2 sz)) kL_113 h3 (by decide) (by omega) (by omega) hP hD hS rfl hl.1 (rest := []) rfl (Nat.le_of_ble_eq_true rfl) dL_law_228 (st1 := [.int w]) rfl (fun H locs hP hD hS => ?_)
  refine lv_istore (lv' := [(7, .int w), (6, .int kk), (0, .ref b), (1, .ref (u 0)), (2, .ref (ad 0)), (3, .ref o), (4, .ref od), (5, .int (nI (4 * k)))]) hx hb dL_law_231 hl (by decide) rfl (fun ls hl => ?_)
  refine lv_aload_n hx hb dL_law_233 rfl (lv_at hl 4 rfl) ?_
  refine lwM C (fun sz => Met.ofR (rr_thrown l dg cA ad r1) sz) kL_107 ⟨rfl, rfl, (Nat.le_of_ble_eq_true rfl), (Nat.le_of_ble_eq_true rfl)⟩ (by decide) (by omega) (by omega) hP hD hS rfl hl.1 (rest := []) rfl (Nat.le_of_ble_eq_true rfl) dL_law_234 (st1 := [.int (r1 0 0)]) rfl (fun H locs hP hD hS => ?_)
  refine lv_as (y := kk) h4 ?_
  refine lv_iload hx hb dL_law_237 (lv_at hl 1 rfl) ?_
  refine lv_icmp_eq (tgt := 244) hx hb dL_law_239 (by decide) (fun _ => ?_) (fun h => absurd rfl h)
  refine lv_iload hx hb dL_law_244 (lv_at hl 1 rfl) ?_
  refine lv_if_ne (tgt := 261) hx hb dL_law_246 (by decide) (fun _ => ?_) (fun h => ?_)
  · skip
    refine lv_goto (tgt := 1604) hx hb dL_law_261 (by decide) ?_
    exact K (fixz (u 0) z) n1 ni1 ns1 hs1 c1 r1 f1 g H locs _ _ ls fixz_0 Re1 (by omega) hP hD hS (lv_sub hl [2, 3, 4, 5, 6, 7] rfl) (by omega) (by omega)
  · skip
    refine lv_aload_n hx hb dL_law_249 rfl (lv_at hl 5 rfl) ?_
    refine lv_iconst (v := 0) hx hb dL_law_250 (by decide) ?_
    refine va_lald hx hb hK hP (cw cA (fixz (u 0) z) n1 ni1 c1).length 4 lw_lo rfl vi01 dL_law_251 ?_
    refine lv_iload hx hb dL_law_252 (lv_at hl 0 rfl) ?_
    refine lv_i2l (v := w.toInt64) hx hb dL_law_254 rfl ?_
    refine W.lcmp hx hb dL_law_255 ?_
    refine lv_as (y := 0) ((lg_cmp_eq (f1 0) w.toInt64).mpr (h5 h)) ?_
    refine lv_if_eq (tgt := 261) hx hb dL_law_256 (by decide) (fun _ => ?_) (fun h => absurd rfl h)
    refine lv_goto (tgt := 1604) hx hb dL_law_261 (by decide) ?_
    exact K (fixz (u 0) z) n1 ni1 ns1 hs1 c1 r1 f1 g H locs _ _ ls fixz_0 Re1 (by omega) hP hD hS (lv_sub hl [2, 3, 4, 5, 6, 7] rfl) (by omega) (by omega)
set_option maxHeartbeats 4000000 in
set_option maxRecDepth 100000 in
theorem k_addHouse {p : Program} {l : Launch} {e : Env} {s : State} {m : MethodId} {args : Array Value} {below : List Frame} {meth : Method} {c : Code} {Q : State → Prop} {dg : va_G} {cA : Nat → ClassId} {A : Nat → Prop} {b L : Nat} {xs : Nat → Int32} (C : LC p l dg cA s m c args A b L xs) (hL : L ≤ 2048) (k : Nat) (hk : 4 * k + 4 ≤ L) {u ad : Nat → Nat} {o od n ni ns hs : Nat} {cs r : St} {f : Nat → Int64} {g : Nat → UInt64} {H : Heap} {locs : List Loc} {cells slots : Nat} {ls : Array Slot} (Re : Rel cs r n ni ns hs) (hhs : hs ≤ k) (hP : PP dg (LW cA u ad o od n ni cs r f g) H) (hD : va_D A (LW cA u ad o od n ni cs r f g)) (hS : va_S A s.heap H locs) (hl : lv_has ls 9 (lL b (u 0) (ad 0) o od (nI (4 * k)))) (hce : cells ≤ 60 + 8 * k) (hsl : slots ≤ 2000 + 100 * k) (K : KN p l e s m args below meth c Q dg cA A b (u 0) ad o od k) : W p l e room_1 s m args below meth c H locs cells slots Q (F0 m 264 ls []) := by
  have hx := C.1.1
  have hb := C.1.2.1
  have hK := C.2.1
  obtain ⟨kk, f1, w, c1, r1, n1, ni1, ns1, hs1, mc, ms, rm2, h1, ⟨hmc, hms⟩, h2, h3, h4, h5, Re1, hhs1⟩ := p_addHouse l dg cA C.2.2.2.2.2.2 (u := u) (ad := ad) (o := o) (f := f) Re (by omega) (xs (4 * k + 1)) (xs (4 * k + 2)) (xs (4 * k + 3))
  refine lv_aload_n hx hb dL_law_264 rfl (lv_at hl 1 rfl) ?_
  refine lv_aload_n hx hb dL_law_265 rfl (lv_at hl 0 rfl) ?_
  refine lv_iload hx hb dL_law_266 (lv_at hl 5 rfl) ?_
  refine lv_iconst (v := 1) hx hb dL_law_268 (by decide) ?_
  refine lv_iadd hx hb dL_law_269 ?_
  refine lv_as (y := nI (4 * k + 1)) (nI_1 (4 * k)) ?_
  refine sldk C hS (j := 4 * k + 1) (by omega) hL dL_law_270 ?_
  refine lv_aload_n hx hb dL_law_271 rfl (lv_at hl 0 rfl) ?_
  refine lv_iload hx hb dL_law_272 (lv_at hl 5 rfl) ?_
  refine lv_iconst (v := 2) hx hb dL_law_274 (by decide) ?_
  refine lv_iadd hx hb dL_law_275 ?_
  refine lv_as (y := nI (4 * k + 2)) (nI_a2 (4 * k)) ?_
  refine sldk C hS (j := 4 * k + 2) (by omega) hL dL_law_276 ?_
  refine lv_aload_n hx hb dL_law_277 rfl (lv_at hl 0 rfl) ?_
  refine lv_iload hx hb dL_law_278 (lv_at hl 5 rfl) ?_
  refine lv_iconst (v := 3) hx hb dL_law_280 (by decide) ?_
  refine lv_iadd hx hb dL_law_281 ?_
  refine lv_as (y := nI (4 * k + 3)) (nI_a3 (4 * k)) ?_
  refine sldk C hS (j := 4 * k + 3) (by omega) hL dL_law_282 ?_
  refine lv_aload_n hx hb dL_law_283 rfl (lv_at hl 3 rfl) ?_
  refine lwZ C h1 kL_114 (by decide) hmc hms (by omega) (by omega) hP hD hS rfl hl.1 (rest := []) rfl (Nat.le_of_ble_eq_true rfl) dL_law_284 (fun z H locs hP hD hS => ?_)
  refine lv_istore (lv' := [(6, .int kk), (0, .ref b), (1, .ref (u 0)), (2, .ref (ad 0)), (3, .ref o), (4, .ref od), (5, .int (nI (4 * k)))]) hx hb dL_law_287 hl (by decide) rfl (fun ls hl => ?_)
  refine lv_aload_n hx hb dL_law_289 rfl (lv_at hl 3 rfl) ?_
  refine lv_aload_n hx hb dL_law_290 rfl (lv_at hl 1 rfl) ?_
  refine lv_iload hx hb dL_law_291 (lv_at hl 6 rfl) ?_
  refine lv_iconst (v := 1) hx hb dL_law_293 (by decide) ?_
  refine lv_iadd hx hb dL_law_294 ?_
  refine lv_as (y := nI (4 * k + 1)) (nI_1 (4 * k)) ?_
  refine sldk C hS (j := 4 * k + 1) (by omega) hL dL_law_295 ?_
  refine lv_aload_n hx hb dL_law_296 rfl (lv_at hl 1 rfl) ?_
  refine lv_iload hx hb dL_law_297 (lv_at hl 6 rfl) ?_
  refine lv_iconst (v := 2) hx hb dL_law_299 (by decide) ?_
  refine lv_iadd hx hb dL_law_300 ?_
  refine lv_as (y := nI (4 * k + 2)) (nI_a2 (4 * k)) ?_
  refine sldk C hS (j := 4 * k + 2) (by omega) hL dL_law_301 ?_
  refine lv_aload_n hx hb dL_law_302 rfl (lv_at hl 1 rfl) ?_
  refine lv_iload hx hb dL_law_303 (lv_at hl 6 rfl) ?_
  refine lv_iconst (v := 3) hx hb dL_law_305 (by decide) ?_
  refine lv_iadd hx hb dL_law_306 ?_
  refine lv_as (y := nI (4 * k + 3)) (nI_a3 (4 * k)) ?_
  refine sldk C hS (j := 4 * k + 3) (by omega) hL dL_law_307 ?_
  refine lwM C (fun sz => Met.ofM (h2 sz)) kL_117 h3 (by decide) (by omega) (by omega) hP hD hS rfl hl.1 (rest := []) rfl (Nat.le_of_ble_eq_true rfl) dL_law_308 (st1 := [.int w]) rfl (fun H locs hP hD hS => ?_)
  refine lv_istore (lv' := [(7, .int w), (6, .int kk), (0, .ref b), (1, .ref (u 0)), (2, .ref (ad 0)), (3, .ref o), (4, .ref od), (5, .int (nI (4 * k)))]) hx hb dL_law_311 hl (by decide) rfl (fun ls hl => ?_)
  refine lv_aload_n hx hb dL_law_313 rfl (lv_at hl 4 rfl) ?_
  refine lwM C (fun sz => Met.ofR (rr_thrown l dg cA ad r1) sz) kL_107 ⟨rfl, rfl, (Nat.le_of_ble_eq_true rfl), (Nat.le_of_ble_eq_true rfl)⟩ (by decide) (by omega) (by omega) hP hD hS rfl hl.1 (rest := []) rfl (Nat.le_of_ble_eq_true rfl) dL_law_314 (st1 := [.int (r1 0 0)]) rfl (fun H locs hP hD hS => ?_)
  refine lv_as (y := kk) h4 ?_
  refine lv_iload hx hb dL_law_317 (lv_at hl 1 rfl) ?_
  refine lv_icmp_eq (tgt := 324) hx hb dL_law_319 (by decide) (fun _ => ?_) (fun h => absurd rfl h)
  refine lv_iload hx hb dL_law_324 (lv_at hl 1 rfl) ?_
  refine lv_if_ne (tgt := 341) hx hb dL_law_326 (by decide) (fun _ => ?_) (fun h => ?_)
  · skip
    refine lv_goto (tgt := 1604) hx hb dL_law_341 (by decide) ?_
    exact K (fixz (u 0) z) n1 ni1 ns1 hs1 c1 r1 f1 g H locs _ _ ls fixz_0 Re1 (by omega) hP hD hS (lv_sub hl [2, 3, 4, 5, 6, 7] rfl) (by omega) (by omega)
  · skip
    refine lv_aload_n hx hb dL_law_329 rfl (lv_at hl 5 rfl) ?_
    refine lv_iconst (v := 0) hx hb dL_law_330 (by decide) ?_
    refine va_lald hx hb hK hP (cw cA (fixz (u 0) z) n1 ni1 c1).length 4 lw_lo rfl vi01 dL_law_331 ?_
    refine lv_iload hx hb dL_law_332 (lv_at hl 0 rfl) ?_
    refine lv_i2l (v := w.toInt64) hx hb dL_law_334 rfl ?_
    refine W.lcmp hx hb dL_law_335 ?_
    refine lv_as (y := 0) ((lg_cmp_eq (f1 0) w.toInt64).mpr (h5 h)) ?_
    refine lv_if_eq (tgt := 341) hx hb dL_law_336 (by decide) (fun _ => ?_) (fun h => absurd rfl h)
    refine lv_goto (tgt := 1604) hx hb dL_law_341 (by decide) ?_
    exact K (fixz (u 0) z) n1 ni1 ns1 hs1 c1 r1 f1 g H locs _ _ ls fixz_0 Re1 (by omega) hP hD hS (lv_sub hl [2, 3, 4, 5, 6, 7] rfl) (by omega) (by omega)
set_option maxHeartbeats 4000000 in
set_option maxRecDepth 100000 in
theorem k_addInterviewer {p : Program} {l : Launch} {e : Env} {s : State} {m : MethodId} {args : Array Value} {below : List Frame} {meth : Method} {c : Code} {Q : State → Prop} {dg : va_G} {cA : Nat → ClassId} {A : Nat → Prop} {b L : Nat} {xs : Nat → Int32} (C : LC p l dg cA s m c args A b L xs) (hL : L ≤ 2048) (k : Nat) (hk : 4 * k + 4 ≤ L) {u ad : Nat → Nat} {o od n ni ns hs : Nat} {cs r : St} {f : Nat → Int64} {g : Nat → UInt64} {H : Heap} {locs : List Loc} {cells slots : Nat} {ls : Array Slot} (Re : Rel cs r n ni ns hs) (hhs : hs ≤ k) (hP : PP dg (LW cA u ad o od n ni cs r f g) H) (hD : va_D A (LW cA u ad o od n ni cs r f g)) (hS : va_S A s.heap H locs) (hl : lv_has ls 9 (lL b (u 0) (ad 0) o od (nI (4 * k)))) (hce : cells ≤ 60 + 8 * k) (hsl : slots ≤ 2000 + 100 * k) (K : KN p l e s m args below meth c Q dg cA A b (u 0) ad o od k) : W p l e room_1 s m args below meth c H locs cells slots Q (F0 m 344 ls []) := by
  have hx := C.1.1
  have hb := C.1.2.1
  have hK := C.2.1
  obtain ⟨kk, f1, w, c1, r1, n1, ni1, ns1, hs1, mc, ms, rm2, h1, ⟨hmc, hms⟩, h2, h3, h4, h5, Re1, hhs1⟩ := p_addInterviewer l dg cA C.2.2.2.2.2.2 (u := u) (ad := ad) (o := o) (f := f) Re (by omega) (xs (4 * k + 1)) (xs (4 * k + 2)) (xs (4 * k + 3))
  refine lv_aload_n hx hb dL_law_344 rfl (lv_at hl 1 rfl) ?_
  refine lv_aload_n hx hb dL_law_345 rfl (lv_at hl 0 rfl) ?_
  refine lv_iload hx hb dL_law_346 (lv_at hl 5 rfl) ?_
  refine lv_iconst (v := 1) hx hb dL_law_348 (by decide) ?_
  refine lv_iadd hx hb dL_law_349 ?_
  refine lv_as (y := nI (4 * k + 1)) (nI_1 (4 * k)) ?_
  refine sldk C hS (j := 4 * k + 1) (by omega) hL dL_law_350 ?_
  refine lv_aload_n hx hb dL_law_351 rfl (lv_at hl 0 rfl) ?_
  refine lv_iload hx hb dL_law_352 (lv_at hl 5 rfl) ?_
  refine lv_iconst (v := 2) hx hb dL_law_354 (by decide) ?_
  refine lv_iadd hx hb dL_law_355 ?_
  refine lv_as (y := nI (4 * k + 2)) (nI_a2 (4 * k)) ?_
  refine sldk C hS (j := 4 * k + 2) (by omega) hL dL_law_356 ?_
  refine lv_aload_n hx hb dL_law_357 rfl (lv_at hl 0 rfl) ?_
  refine lv_iload hx hb dL_law_358 (lv_at hl 5 rfl) ?_
  refine lv_iconst (v := 3) hx hb dL_law_360 (by decide) ?_
  refine lv_iadd hx hb dL_law_361 ?_
  refine lv_as (y := nI (4 * k + 3)) (nI_a3 (4 * k)) ?_
  refine sldk C hS (j := 4 * k + 3) (by omega) hL dL_law_362 ?_
  refine lv_aload_n hx hb dL_law_363 rfl (lv_at hl 3 rfl) ?_
  refine lwZ C h1 kL_118 (by decide) hmc hms (by omega) (by omega) hP hD hS rfl hl.1 (rest := []) rfl (Nat.le_of_ble_eq_true rfl) dL_law_364 (fun z H locs hP hD hS => ?_)
  refine lv_istore (lv' := [(6, .int kk), (0, .ref b), (1, .ref (u 0)), (2, .ref (ad 0)), (3, .ref o), (4, .ref od), (5, .int (nI (4 * k)))]) hx hb dL_law_367 hl (by decide) rfl (fun ls hl => ?_)
  refine lv_aload_n hx hb dL_law_369 rfl (lv_at hl 3 rfl) ?_
  refine lv_aload_n hx hb dL_law_370 rfl (lv_at hl 1 rfl) ?_
  refine lv_iload hx hb dL_law_371 (lv_at hl 6 rfl) ?_
  refine lv_iconst (v := 1) hx hb dL_law_373 (by decide) ?_
  refine lv_iadd hx hb dL_law_374 ?_
  refine lv_as (y := nI (4 * k + 1)) (nI_1 (4 * k)) ?_
  refine sldk C hS (j := 4 * k + 1) (by omega) hL dL_law_375 ?_
  refine lv_aload_n hx hb dL_law_376 rfl (lv_at hl 1 rfl) ?_
  refine lv_iload hx hb dL_law_377 (lv_at hl 6 rfl) ?_
  refine lv_iconst (v := 2) hx hb dL_law_379 (by decide) ?_
  refine lv_iadd hx hb dL_law_380 ?_
  refine lv_as (y := nI (4 * k + 2)) (nI_a2 (4 * k)) ?_
  refine sldk C hS (j := 4 * k + 2) (by omega) hL dL_law_381 ?_
  refine lv_aload_n hx hb dL_law_382 rfl (lv_at hl 1 rfl) ?_
  refine lv_iload hx hb dL_law_383 (lv_at hl 6 rfl) ?_
  refine lv_iconst (v := 3) hx hb dL_law_385 (by decide) ?_
  refine lv_iadd hx hb dL_law_386 ?_
  refine lv_as (y := nI (4 * k + 3)) (nI_a3 (4 * k)) ?_
  refine sldk C hS (j := 4 * k + 3) (by omega) hL dL_law_387 ?_
  refine lwM C (fun sz => Met.ofM (h2 sz)) kL_120 h3 (by decide) (by omega) (by omega) hP hD hS rfl hl.1 (rest := []) rfl (Nat.le_of_ble_eq_true rfl) dL_law_388 (st1 := [.int w]) rfl (fun H locs hP hD hS => ?_)
  refine lv_istore (lv' := [(7, .int w), (6, .int kk), (0, .ref b), (1, .ref (u 0)), (2, .ref (ad 0)), (3, .ref o), (4, .ref od), (5, .int (nI (4 * k)))]) hx hb dL_law_391 hl (by decide) rfl (fun ls hl => ?_)
  refine lv_aload_n hx hb dL_law_393 rfl (lv_at hl 4 rfl) ?_
  refine lwM C (fun sz => Met.ofR (rr_thrown l dg cA ad r1) sz) kL_107 ⟨rfl, rfl, (Nat.le_of_ble_eq_true rfl), (Nat.le_of_ble_eq_true rfl)⟩ (by decide) (by omega) (by omega) hP hD hS rfl hl.1 (rest := []) rfl (Nat.le_of_ble_eq_true rfl) dL_law_394 (st1 := [.int (r1 0 0)]) rfl (fun H locs hP hD hS => ?_)
  refine lv_as (y := kk) h4 ?_
  refine lv_iload hx hb dL_law_397 (lv_at hl 1 rfl) ?_
  refine lv_icmp_eq (tgt := 404) hx hb dL_law_399 (by decide) (fun _ => ?_) (fun h => absurd rfl h)
  refine lv_iload hx hb dL_law_404 (lv_at hl 1 rfl) ?_
  refine lv_if_ne (tgt := 421) hx hb dL_law_406 (by decide) (fun _ => ?_) (fun h => ?_)
  · skip
    refine lv_goto (tgt := 1604) hx hb dL_law_421 (by decide) ?_
    exact K (fixz (u 0) z) n1 ni1 ns1 hs1 c1 r1 f1 g H locs _ _ ls fixz_0 Re1 (by omega) hP hD hS (lv_sub hl [2, 3, 4, 5, 6, 7] rfl) (by omega) (by omega)
  · skip
    refine lv_aload_n hx hb dL_law_409 rfl (lv_at hl 5 rfl) ?_
    refine lv_iconst (v := 0) hx hb dL_law_410 (by decide) ?_
    refine va_lald hx hb hK hP (cw cA (fixz (u 0) z) n1 ni1 c1).length 4 lw_lo rfl vi01 dL_law_411 ?_
    refine lv_iload hx hb dL_law_412 (lv_at hl 0 rfl) ?_
    refine lv_i2l (v := w.toInt64) hx hb dL_law_414 rfl ?_
    refine W.lcmp hx hb dL_law_415 ?_
    refine lv_as (y := 0) ((lg_cmp_eq (f1 0) w.toInt64).mpr (h5 h)) ?_
    refine lv_if_eq (tgt := 421) hx hb dL_law_416 (by decide) (fun _ => ?_) (fun h => absurd rfl h)
    refine lv_goto (tgt := 1604) hx hb dL_law_421 (by decide) ?_
    exact K (fixz (u 0) z) n1 ni1 ns1 hs1 c1 r1 f1 g H locs _ _ ls fixz_0 Re1 (by omega) hP hD hS (lv_sub hl [2, 3, 4, 5, 6, 7] rfl) (by omega) (by omega)
set_option maxHeartbeats 4000000 in
set_option maxRecDepth 100000 in
theorem k_draw {p : Program} {l : Launch} {e : Env} {s : State} {m : MethodId} {args : Array Value} {below : List Frame} {meth : Method} {c : Code} {Q : State → Prop} {dg : va_G} {cA : Nat → ClassId} {A : Nat → Prop} {b L : Nat} {xs : Nat → Int32} (C : LC p l dg cA s m c args A b L xs) (hL : L ≤ 2048) (k : Nat) (hk : 4 * k + 4 ≤ L) {u ad : Nat → Nat} {o od n ni ns hs : Nat} {cs r : St} {f : Nat → Int64} {g : Nat → UInt64} {H : Heap} {locs : List Loc} {cells slots : Nat} {ls : Array Slot} (Re : Rel cs r n ni ns hs) (hhs : hs ≤ k) (hP : PP dg (LW cA u ad o od n ni cs r f g) H) (hD : va_D A (LW cA u ad o od n ni cs r f g)) (hS : va_S A s.heap H locs) (hl : lv_has ls 9 (lL b (u 0) (ad 0) o od (nI (4 * k)))) (hce : cells ≤ 60 + 8 * k) (hsl : slots ≤ 2000 + 100 * k) (K : KN p l e s m args below meth c Q dg cA A b (u 0) ad o od k) : W p l e room_1 s m args below meth c H locs cells slots Q (F0 m 424 ls []) := by
  have hx := C.1.1
  have hb := C.1.2.1
  have hK := C.2.1
  obtain ⟨kk, f1, w, c1, r1, n1, ni1, ns1, hs1, mc, ms, rm2, h1, ⟨hmc, hms⟩, h2, h3, h4, h5, Re1, hhs1⟩ := p_draw l dg cA C.2.2.2.2.2.2 (u := u) (ad := ad) (o := o) (f := f) Re (by omega) (xs (4 * k + 1)) (xs (4 * k + 2))
  refine lv_aload_n hx hb dL_law_424 rfl (lv_at hl 1 rfl) ?_
  refine lv_aload_n hx hb dL_law_425 rfl (lv_at hl 0 rfl) ?_
  refine lv_iload hx hb dL_law_426 (lv_at hl 5 rfl) ?_
  refine lv_iconst (v := 1) hx hb dL_law_428 (by decide) ?_
  refine lv_iadd hx hb dL_law_429 ?_
  refine lv_as (y := nI (4 * k + 1)) (nI_1 (4 * k)) ?_
  refine sldk C hS (j := 4 * k + 1) (by omega) hL dL_law_430 ?_
  refine lv_aload_n hx hb dL_law_431 rfl (lv_at hl 0 rfl) ?_
  refine lv_iload hx hb dL_law_432 (lv_at hl 5 rfl) ?_
  refine lv_iconst (v := 2) hx hb dL_law_434 (by decide) ?_
  refine lv_iadd hx hb dL_law_435 ?_
  refine lv_as (y := nI (4 * k + 2)) (nI_a2 (4 * k)) ?_
  refine sldk C hS (j := 4 * k + 2) (by omega) hL dL_law_436 ?_
  refine lv_aload_n hx hb dL_law_437 rfl (lv_at hl 3 rfl) ?_
  refine lwZ C h1 kL_121 (by decide) hmc hms (by omega) (by omega) hP hD hS rfl hl.1 (rest := []) rfl (Nat.le_of_ble_eq_true rfl) dL_law_438 (fun z H locs hP hD hS => ?_)
  refine lv_istore (lv' := [(6, .int kk), (0, .ref b), (1, .ref (u 0)), (2, .ref (ad 0)), (3, .ref o), (4, .ref od), (5, .int (nI (4 * k)))]) hx hb dL_law_441 hl (by decide) rfl (fun ls hl => ?_)
  refine lv_aload_n hx hb dL_law_443 rfl (lv_at hl 3 rfl) ?_
  refine lv_aload_n hx hb dL_law_444 rfl (lv_at hl 1 rfl) ?_
  refine lv_iload hx hb dL_law_445 (lv_at hl 6 rfl) ?_
  refine lv_iconst (v := 1) hx hb dL_law_447 (by decide) ?_
  refine lv_iadd hx hb dL_law_448 ?_
  refine lv_as (y := nI (4 * k + 1)) (nI_1 (4 * k)) ?_
  refine sldk C hS (j := 4 * k + 1) (by omega) hL dL_law_449 ?_
  refine lv_aload_n hx hb dL_law_450 rfl (lv_at hl 1 rfl) ?_
  refine lv_iload hx hb dL_law_451 (lv_at hl 6 rfl) ?_
  refine lv_iconst (v := 2) hx hb dL_law_453 (by decide) ?_
  refine lv_iadd hx hb dL_law_454 ?_
  refine lv_as (y := nI (4 * k + 2)) (nI_a2 (4 * k)) ?_
  refine sldk C hS (j := 4 * k + 2) (by omega) hL dL_law_455 ?_
  refine lwM C (fun sz => Met.ofM (h2 sz)) kL_124 h3 (by decide) (by omega) (by omega) hP hD hS rfl hl.1 (rest := []) rfl (Nat.le_of_ble_eq_true rfl) dL_law_456 (st1 := [.int w]) rfl (fun H locs hP hD hS => ?_)
  refine lv_istore (lv' := [(7, .int w), (6, .int kk), (0, .ref b), (1, .ref (u 0)), (2, .ref (ad 0)), (3, .ref o), (4, .ref od), (5, .int (nI (4 * k)))]) hx hb dL_law_459 hl (by decide) rfl (fun ls hl => ?_)
  refine lv_aload_n hx hb dL_law_461 rfl (lv_at hl 4 rfl) ?_
  refine lwM C (fun sz => Met.ofR (rr_thrown l dg cA ad r1) sz) kL_107 ⟨rfl, rfl, (Nat.le_of_ble_eq_true rfl), (Nat.le_of_ble_eq_true rfl)⟩ (by decide) (by omega) (by omega) hP hD hS rfl hl.1 (rest := []) rfl (Nat.le_of_ble_eq_true rfl) dL_law_462 (st1 := [.int (r1 0 0)]) rfl (fun H locs hP hD hS => ?_)
  refine lv_as (y := kk) h4 ?_
  refine lv_iload hx hb dL_law_465 (lv_at hl 1 rfl) ?_
  refine lv_icmp_eq (tgt := 472) hx hb dL_law_467 (by decide) (fun _ => ?_) (fun h => absurd rfl h)
  refine lv_iload hx hb dL_law_472 (lv_at hl 1 rfl) ?_
  refine lv_if_ne (tgt := 489) hx hb dL_law_474 (by decide) (fun _ => ?_) (fun h => ?_)
  · skip
    refine lv_goto (tgt := 1604) hx hb dL_law_489 (by decide) ?_
    exact K (fixz (u 0) z) n1 ni1 ns1 hs1 c1 r1 f1 g H locs _ _ ls fixz_0 Re1 (by omega) hP hD hS (lv_sub hl [2, 3, 4, 5, 6, 7] rfl) (by omega) (by omega)
  · skip
    refine lv_aload_n hx hb dL_law_477 rfl (lv_at hl 5 rfl) ?_
    refine lv_iconst (v := 0) hx hb dL_law_478 (by decide) ?_
    refine va_lald hx hb hK hP (cw cA (fixz (u 0) z) n1 ni1 c1).length 4 lw_lo rfl vi01 dL_law_479 ?_
    refine lv_iload hx hb dL_law_480 (lv_at hl 0 rfl) ?_
    refine lv_i2l (v := w.toInt64) hx hb dL_law_482 rfl ?_
    refine W.lcmp hx hb dL_law_483 ?_
    refine lv_as (y := 0) ((lg_cmp_eq (f1 0) w.toInt64).mpr (h5 h)) ?_
    refine lv_if_eq (tgt := 489) hx hb dL_law_484 (by decide) (fun _ => ?_) (fun h => absurd rfl h)
    refine lv_goto (tgt := 1604) hx hb dL_law_489 (by decide) ?_
    exact K (fixz (u 0) z) n1 ni1 ns1 hs1 c1 r1 f1 g H locs _ _ ls fixz_0 Re1 (by omega) hP hD hS (lv_sub hl [2, 3, 4, 5, 6, 7] rfl) (by omega) (by omega)
set_option maxHeartbeats 4000000 in
set_option maxRecDepth 100000 in
theorem k_day {p : Program} {l : Launch} {e : Env} {s : State} {m : MethodId} {args : Array Value} {below : List Frame} {meth : Method} {c : Code} {Q : State → Prop} {dg : va_G} {cA : Nat → ClassId} {A : Nat → Prop} {b L : Nat} {xs : Nat → Int32} (C : LC p l dg cA s m c args A b L xs) (hL : L ≤ 2048) (k : Nat) (hk : 4 * k + 4 ≤ L) {u ad : Nat → Nat} {o od n ni ns hs : Nat} {cs r : St} {f : Nat → Int64} {g : Nat → UInt64} {H : Heap} {locs : List Loc} {cells slots : Nat} {ls : Array Slot} (Re : Rel cs r n ni ns hs) (hhs : hs ≤ k) (hP : PP dg (LW cA u ad o od n ni cs r f g) H) (hD : va_D A (LW cA u ad o od n ni cs r f g)) (hS : va_S A s.heap H locs) (hl : lv_has ls 9 (lL b (u 0) (ad 0) o od (nI (4 * k)))) (hce : cells ≤ 60 + 8 * k) (hsl : slots ≤ 2000 + 100 * k) (K : KN p l e s m args below meth c Q dg cA A b (u 0) ad o od k) : W p l e room_1 s m args below meth c H locs cells slots Q (F0 m 492 ls []) := by
  have hx := C.1.1
  have hb := C.1.2.1
  have hK := C.2.1
  obtain ⟨w, r1, rm, rm2, h1, h0, h2, h3, Re1⟩ := p_day l dg cA (u := u) (ad := ad) Re
  refine lv_aload_n hx hb dL_law_492 rfl (lv_at hl 1 rfl) ?_
  refine lwC C h1 kL_125 h0 (by decide) (by omega) (by omega) hP hD hS rfl hl.1 (rest := []) rfl (Nat.le_of_ble_eq_true rfl) dL_law_493 (st1 := [.int w]) rfl (fun z H locs hP hD hS => ?_)
  refine lv_aload_n hx hb dL_law_496 rfl (lv_at hl 2 rfl) ?_
  refine lwM C (fun sz => Met.ofM (h2 sz)) kL_128 h3 (by decide) (by omega) (by omega) hP hD hS rfl hl.1 (rest := [.int w]) rfl (Nat.le_of_ble_eq_true rfl) dL_law_497 (st1 := [.int w, .int w]) rfl (fun H locs hP hD hS => ?_)
  refine lv_icmp_eq (tgt := 1604) hx hb dL_law_500 (by decide) (fun _ => ?_) (fun h => absurd rfl h)
  exact K (fixz (u 0) z) n ni ns hs cs r1 f g H locs _ _ ls fixz_0 Re1 (by omega) hP hD hS (lv_sub hl [0, 1, 2, 3, 4, 5] rfl) (by omega) (by omega)
set_option maxHeartbeats 4000000 in
set_option maxRecDepth 100000 in
theorem k_roundSize {p : Program} {l : Launch} {e : Env} {s : State} {m : MethodId} {args : Array Value} {below : List Frame} {meth : Method} {c : Code} {Q : State → Prop} {dg : va_G} {cA : Nat → ClassId} {A : Nat → Prop} {b L : Nat} {xs : Nat → Int32} (C : LC p l dg cA s m c args A b L xs) (hL : L ≤ 2048) (k : Nat) (hk : 4 * k + 4 ≤ L) {u ad : Nat → Nat} {o od n ni ns hs : Nat} {cs r : St} {f : Nat → Int64} {g : Nat → UInt64} {H : Heap} {locs : List Loc} {cells slots : Nat} {ls : Array Slot} (Re : Rel cs r n ni ns hs) (hhs : hs ≤ k) (hP : PP dg (LW cA u ad o od n ni cs r f g) H) (hD : va_D A (LW cA u ad o od n ni cs r f g)) (hS : va_S A s.heap H locs) (hl : lv_has ls 9 (lL b (u 0) (ad 0) o od (nI (4 * k)))) (hce : cells ≤ 60 + 8 * k) (hsl : slots ≤ 2000 + 100 * k) (K : KN p l e s m args below meth c Q dg cA A b (u 0) ad o od k) : W p l e room_1 s m args below meth c H locs cells slots Q (F0 m 505 ls []) := by
  have hx := C.1.1
  have hb := C.1.2.1
  have hK := C.2.1
  obtain ⟨kk, f1, w, c1, r1, n1, ni1, ns1, hs1, mc, ms, rm2, h1, ⟨hmc, hms⟩, h2, h3, h4, h5, Re1, hhs1⟩ := p_roundSize l dg cA C.2.2.2.2.2.2 (u := u) (ad := ad) (o := o) (f := f) Re (by omega) (xs (4 * k + 1))
  refine lv_aload_n hx hb dL_law_505 rfl (lv_at hl 1 rfl) ?_
  refine lv_aload_n hx hb dL_law_506 rfl (lv_at hl 0 rfl) ?_
  refine lv_iload hx hb dL_law_507 (lv_at hl 5 rfl) ?_
  refine lv_iconst (v := 1) hx hb dL_law_509 (by decide) ?_
  refine lv_iadd hx hb dL_law_510 ?_
  refine lv_as (y := nI (4 * k + 1)) (nI_1 (4 * k)) ?_
  refine sldk C hS (j := 4 * k + 1) (by omega) hL dL_law_511 ?_
  refine lv_aload_n hx hb dL_law_512 rfl (lv_at hl 3 rfl) ?_
  refine lwZ C h1 kL_129 (by decide) hmc hms (by omega) (by omega) hP hD hS rfl hl.1 (rest := []) rfl (Nat.le_of_ble_eq_true rfl) dL_law_513 (fun z H locs hP hD hS => ?_)
  refine lv_istore (lv' := [(6, .int kk), (0, .ref b), (1, .ref (u 0)), (2, .ref (ad 0)), (3, .ref o), (4, .ref od), (5, .int (nI (4 * k)))]) hx hb dL_law_516 hl (by decide) rfl (fun ls hl => ?_)
  refine lv_aload_n hx hb dL_law_518 rfl (lv_at hl 3 rfl) ?_
  refine lv_aload_n hx hb dL_law_519 rfl (lv_at hl 1 rfl) ?_
  refine lv_iload hx hb dL_law_520 (lv_at hl 6 rfl) ?_
  refine lv_iconst (v := 1) hx hb dL_law_522 (by decide) ?_
  refine lv_iadd hx hb dL_law_523 ?_
  refine lv_as (y := nI (4 * k + 1)) (nI_1 (4 * k)) ?_
  refine sldk C hS (j := 4 * k + 1) (by omega) hL dL_law_524 ?_
  refine lwM C (fun sz => Met.ofM (h2 sz)) kL_131 h3 (by decide) (by omega) (by omega) hP hD hS rfl hl.1 (rest := []) rfl (Nat.le_of_ble_eq_true rfl) dL_law_525 (st1 := [.int w]) rfl (fun H locs hP hD hS => ?_)
  refine lv_istore (lv' := [(7, .int w), (6, .int kk), (0, .ref b), (1, .ref (u 0)), (2, .ref (ad 0)), (3, .ref o), (4, .ref od), (5, .int (nI (4 * k)))]) hx hb dL_law_528 hl (by decide) rfl (fun ls hl => ?_)
  refine lv_aload_n hx hb dL_law_530 rfl (lv_at hl 4 rfl) ?_
  refine lwM C (fun sz => Met.ofR (rr_thrown l dg cA ad r1) sz) kL_107 ⟨rfl, rfl, (Nat.le_of_ble_eq_true rfl), (Nat.le_of_ble_eq_true rfl)⟩ (by decide) (by omega) (by omega) hP hD hS rfl hl.1 (rest := []) rfl (Nat.le_of_ble_eq_true rfl) dL_law_531 (st1 := [.int (r1 0 0)]) rfl (fun H locs hP hD hS => ?_)
  refine lv_as (y := kk) h4 ?_
  refine lv_iload hx hb dL_law_534 (lv_at hl 1 rfl) ?_
  refine lv_icmp_eq (tgt := 541) hx hb dL_law_536 (by decide) (fun _ => ?_) (fun h => absurd rfl h)
  refine lv_iload hx hb dL_law_541 (lv_at hl 1 rfl) ?_
  refine lv_if_ne (tgt := 558) hx hb dL_law_543 (by decide) (fun _ => ?_) (fun h => ?_)
  · skip
    refine lv_goto (tgt := 1604) hx hb dL_law_558 (by decide) ?_
    exact K (fixz (u 0) z) n1 ni1 ns1 hs1 c1 r1 f1 g H locs _ _ ls fixz_0 Re1 (by omega) hP hD hS (lv_sub hl [2, 3, 4, 5, 6, 7] rfl) (by omega) (by omega)
  · skip
    refine lv_aload_n hx hb dL_law_546 rfl (lv_at hl 5 rfl) ?_
    refine lv_iconst (v := 0) hx hb dL_law_547 (by decide) ?_
    refine va_lald hx hb hK hP (cw cA (fixz (u 0) z) n1 ni1 c1).length 4 lw_lo rfl vi01 dL_law_548 ?_
    refine lv_iload hx hb dL_law_549 (lv_at hl 0 rfl) ?_
    refine lv_i2l (v := w.toInt64) hx hb dL_law_551 rfl ?_
    refine W.lcmp hx hb dL_law_552 ?_
    refine lv_as (y := 0) ((lg_cmp_eq (f1 0) w.toInt64).mpr (h5 h)) ?_
    refine lv_if_eq (tgt := 558) hx hb dL_law_553 (by decide) (fun _ => ?_) (fun h => absurd rfl h)
    refine lv_goto (tgt := 1604) hx hb dL_law_558 (by decide) ?_
    exact K (fixz (u 0) z) n1 ni1 ns1 hs1 c1 r1 f1 g H locs _ _ ls fixz_0 Re1 (by omega) hP hD hS (lv_sub hl [2, 3, 4, 5, 6, 7] rfl) (by omega) (by omega)
set_option maxHeartbeats 4000000 in
set_option maxRecDepth 100000 in
theorem k_roundAt {p : Program} {l : Launch} {e : Env} {s : State} {m : MethodId} {args : Array Value} {below : List Frame} {meth : Method} {c : Code} {Q : State → Prop} {dg : va_G} {cA : Nat → ClassId} {A : Nat → Prop} {b L : Nat} {xs : Nat → Int32} (C : LC p l dg cA s m c args A b L xs) (hL : L ≤ 2048) (k : Nat) (hk : 4 * k + 4 ≤ L) {u ad : Nat → Nat} {o od n ni ns hs : Nat} {cs r : St} {f : Nat → Int64} {g : Nat → UInt64} {H : Heap} {locs : List Loc} {cells slots : Nat} {ls : Array Slot} (Re : Rel cs r n ni ns hs) (hhs : hs ≤ k) (hP : PP dg (LW cA u ad o od n ni cs r f g) H) (hD : va_D A (LW cA u ad o od n ni cs r f g)) (hS : va_S A s.heap H locs) (hl : lv_has ls 9 (lL b (u 0) (ad 0) o od (nI (4 * k)))) (hce : cells ≤ 60 + 8 * k) (hsl : slots ≤ 2000 + 100 * k) (K : KN p l e s m args below meth c Q dg cA A b (u 0) ad o od k) : W p l e room_1 s m args below meth c H locs cells slots Q (F0 m 561 ls []) := by
  have hx := C.1.1
  have hb := C.1.2.1
  have hK := C.2.1
  obtain ⟨kk, f1, w, c1, r1, n1, ni1, ns1, hs1, mc, ms, rm2, h1, ⟨hmc, hms⟩, h2, h3, h4, h5, Re1, hhs1⟩ := p_roundAt l dg cA C.2.2.2.2.2.2 (u := u) (ad := ad) (o := o) (f := f) Re (by omega) (xs (4 * k + 1)) (xs (4 * k + 2))
  refine lv_aload_n hx hb dL_law_561 rfl (lv_at hl 1 rfl) ?_
  refine lv_aload_n hx hb dL_law_562 rfl (lv_at hl 0 rfl) ?_
  refine lv_iload hx hb dL_law_563 (lv_at hl 5 rfl) ?_
  refine lv_iconst (v := 1) hx hb dL_law_565 (by decide) ?_
  refine lv_iadd hx hb dL_law_566 ?_
  refine lv_as (y := nI (4 * k + 1)) (nI_1 (4 * k)) ?_
  refine sldk C hS (j := 4 * k + 1) (by omega) hL dL_law_567 ?_
  refine lv_aload_n hx hb dL_law_568 rfl (lv_at hl 0 rfl) ?_
  refine lv_iload hx hb dL_law_569 (lv_at hl 5 rfl) ?_
  refine lv_iconst (v := 2) hx hb dL_law_571 (by decide) ?_
  refine lv_iadd hx hb dL_law_572 ?_
  refine lv_as (y := nI (4 * k + 2)) (nI_a2 (4 * k)) ?_
  refine sldk C hS (j := 4 * k + 2) (by omega) hL dL_law_573 ?_
  refine lv_aload_n hx hb dL_law_574 rfl (lv_at hl 3 rfl) ?_
  refine lwZ C h1 kL_132 (by decide) hmc hms (by omega) (by omega) hP hD hS rfl hl.1 (rest := []) rfl (Nat.le_of_ble_eq_true rfl) dL_law_575 (fun z H locs hP hD hS => ?_)
  refine lv_istore (lv' := [(6, .int kk), (0, .ref b), (1, .ref (u 0)), (2, .ref (ad 0)), (3, .ref o), (4, .ref od), (5, .int (nI (4 * k)))]) hx hb dL_law_578 hl (by decide) rfl (fun ls hl => ?_)
  refine lv_aload_n hx hb dL_law_580 rfl (lv_at hl 3 rfl) ?_
  refine lv_aload_n hx hb dL_law_581 rfl (lv_at hl 1 rfl) ?_
  refine lv_iload hx hb dL_law_582 (lv_at hl 6 rfl) ?_
  refine lv_iconst (v := 1) hx hb dL_law_584 (by decide) ?_
  refine lv_iadd hx hb dL_law_585 ?_
  refine lv_as (y := nI (4 * k + 1)) (nI_1 (4 * k)) ?_
  refine sldk C hS (j := 4 * k + 1) (by omega) hL dL_law_586 ?_
  refine lv_aload_n hx hb dL_law_587 rfl (lv_at hl 1 rfl) ?_
  refine lv_iload hx hb dL_law_588 (lv_at hl 6 rfl) ?_
  refine lv_iconst (v := 2) hx hb dL_law_590 (by decide) ?_
  refine lv_iadd hx hb dL_law_591 ?_
  refine lv_as (y := nI (4 * k + 2)) (nI_a2 (4 * k)) ?_
  refine sldk C hS (j := 4 * k + 2) (by omega) hL dL_law_592 ?_
  refine lwM C (fun sz => Met.ofM (h2 sz)) kL_134 h3 (by decide) (by omega) (by omega) hP hD hS rfl hl.1 (rest := []) rfl (Nat.le_of_ble_eq_true rfl) dL_law_593 (st1 := [.int w]) rfl (fun H locs hP hD hS => ?_)
  refine lv_istore (lv' := [(7, .int w), (6, .int kk), (0, .ref b), (1, .ref (u 0)), (2, .ref (ad 0)), (3, .ref o), (4, .ref od), (5, .int (nI (4 * k)))]) hx hb dL_law_596 hl (by decide) rfl (fun ls hl => ?_)
  refine lv_aload_n hx hb dL_law_598 rfl (lv_at hl 4 rfl) ?_
  refine lwM C (fun sz => Met.ofR (rr_thrown l dg cA ad r1) sz) kL_107 ⟨rfl, rfl, (Nat.le_of_ble_eq_true rfl), (Nat.le_of_ble_eq_true rfl)⟩ (by decide) (by omega) (by omega) hP hD hS rfl hl.1 (rest := []) rfl (Nat.le_of_ble_eq_true rfl) dL_law_599 (st1 := [.int (r1 0 0)]) rfl (fun H locs hP hD hS => ?_)
  refine lv_as (y := kk) h4 ?_
  refine lv_iload hx hb dL_law_602 (lv_at hl 1 rfl) ?_
  refine lv_icmp_eq (tgt := 609) hx hb dL_law_604 (by decide) (fun _ => ?_) (fun h => absurd rfl h)
  refine lv_iload hx hb dL_law_609 (lv_at hl 1 rfl) ?_
  refine lv_if_ne (tgt := 626) hx hb dL_law_611 (by decide) (fun _ => ?_) (fun h => ?_)
  · skip
    refine lv_goto (tgt := 1604) hx hb dL_law_626 (by decide) ?_
    exact K (fixz (u 0) z) n1 ni1 ns1 hs1 c1 r1 f1 g H locs _ _ ls fixz_0 Re1 (by omega) hP hD hS (lv_sub hl [2, 3, 4, 5, 6, 7] rfl) (by omega) (by omega)
  · skip
    refine lv_aload_n hx hb dL_law_614 rfl (lv_at hl 5 rfl) ?_
    refine lv_iconst (v := 0) hx hb dL_law_615 (by decide) ?_
    refine va_lald hx hb hK hP (cw cA (fixz (u 0) z) n1 ni1 c1).length 4 lw_lo rfl vi01 dL_law_616 ?_
    refine lv_iload hx hb dL_law_617 (lv_at hl 0 rfl) ?_
    refine lv_i2l (v := w.toInt64) hx hb dL_law_619 rfl ?_
    refine W.lcmp hx hb dL_law_620 ?_
    refine lv_as (y := 0) ((lg_cmp_eq (f1 0) w.toInt64).mpr (h5 h)) ?_
    refine lv_if_eq (tgt := 626) hx hb dL_law_621 (by decide) (fun _ => ?_) (fun h => absurd rfl h)
    refine lv_goto (tgt := 1604) hx hb dL_law_626 (by decide) ?_
    exact K (fixz (u 0) z) n1 ni1 ns1 hs1 c1 r1 f1 g H locs _ _ ls fixz_0 Re1 (by omega) hP hD hS (lv_sub hl [2, 3, 4, 5, 6, 7] rfl) (by omega) (by omega)
set_option maxHeartbeats 4000000 in
set_option maxRecDepth 100000 in
theorem k_roundMinutes {p : Program} {l : Launch} {e : Env} {s : State} {m : MethodId} {args : Array Value} {below : List Frame} {meth : Method} {c : Code} {Q : State → Prop} {dg : va_G} {cA : Nat → ClassId} {A : Nat → Prop} {b L : Nat} {xs : Nat → Int32} (C : LC p l dg cA s m c args A b L xs) (hL : L ≤ 2048) (k : Nat) (hk : 4 * k + 4 ≤ L) {u ad : Nat → Nat} {o od n ni ns hs : Nat} {cs r : St} {f : Nat → Int64} {g : Nat → UInt64} {H : Heap} {locs : List Loc} {cells slots : Nat} {ls : Array Slot} (Re : Rel cs r n ni ns hs) (hhs : hs ≤ k) (hP : PP dg (LW cA u ad o od n ni cs r f g) H) (hD : va_D A (LW cA u ad o od n ni cs r f g)) (hS : va_S A s.heap H locs) (hl : lv_has ls 9 (lL b (u 0) (ad 0) o od (nI (4 * k)))) (hce : cells ≤ 60 + 8 * k) (hsl : slots ≤ 2000 + 100 * k) (K : KN p l e s m args below meth c Q dg cA A b (u 0) ad o od k) : W p l e room_1 s m args below meth c H locs cells slots Q (F0 m 629 ls []) := by
  have hx := C.1.1
  have hb := C.1.2.1
  have hK := C.2.1
  obtain ⟨kk, f1, w, c1, r1, n1, ni1, ns1, hs1, mc, ms, rm2, h1, ⟨hmc, hms⟩, h2, h3, h4, h5, Re1, hhs1⟩ := p_roundMinutes l dg cA C.2.2.2.2.2.2 (u := u) (ad := ad) (o := o) (f := f) Re (by omega) (xs (4 * k + 1))
  refine lv_aload_n hx hb dL_law_629 rfl (lv_at hl 1 rfl) ?_
  refine lv_aload_n hx hb dL_law_630 rfl (lv_at hl 0 rfl) ?_
  refine lv_iload hx hb dL_law_631 (lv_at hl 5 rfl) ?_
  refine lv_iconst (v := 1) hx hb dL_law_633 (by decide) ?_
  refine lv_iadd hx hb dL_law_634 ?_
  refine lv_as (y := nI (4 * k + 1)) (nI_1 (4 * k)) ?_
  refine sldk C hS (j := 4 * k + 1) (by omega) hL dL_law_635 ?_
  refine lv_aload_n hx hb dL_law_636 rfl (lv_at hl 3 rfl) ?_
  refine lwZ C h1 kL_135 (by decide) hmc hms (by omega) (by omega) hP hD hS rfl hl.1 (rest := []) rfl (Nat.le_of_ble_eq_true rfl) dL_law_637 (fun z H locs hP hD hS => ?_)
  refine lv_istore (lv' := [(6, .int kk), (0, .ref b), (1, .ref (u 0)), (2, .ref (ad 0)), (3, .ref o), (4, .ref od), (5, .int (nI (4 * k)))]) hx hb dL_law_640 hl (by decide) rfl (fun ls hl => ?_)
  refine lv_aload_n hx hb dL_law_642 rfl (lv_at hl 3 rfl) ?_
  refine lv_aload_n hx hb dL_law_643 rfl (lv_at hl 1 rfl) ?_
  refine lv_iload hx hb dL_law_644 (lv_at hl 6 rfl) ?_
  refine lv_iconst (v := 1) hx hb dL_law_646 (by decide) ?_
  refine lv_iadd hx hb dL_law_647 ?_
  refine lv_as (y := nI (4 * k + 1)) (nI_1 (4 * k)) ?_
  refine sldk C hS (j := 4 * k + 1) (by omega) hL dL_law_648 ?_
  refine lwM C (fun sz => Met.ofM (h2 sz)) kL_137 h3 (by decide) (by omega) (by omega) hP hD hS rfl hl.1 (rest := []) rfl (Nat.le_of_ble_eq_true rfl) dL_law_649 (st1 := [.int w]) rfl (fun H locs hP hD hS => ?_)
  refine lv_istore (lv' := [(7, .int w), (6, .int kk), (0, .ref b), (1, .ref (u 0)), (2, .ref (ad 0)), (3, .ref o), (4, .ref od), (5, .int (nI (4 * k)))]) hx hb dL_law_652 hl (by decide) rfl (fun ls hl => ?_)
  refine lv_aload_n hx hb dL_law_654 rfl (lv_at hl 4 rfl) ?_
  refine lwM C (fun sz => Met.ofR (rr_thrown l dg cA ad r1) sz) kL_107 ⟨rfl, rfl, (Nat.le_of_ble_eq_true rfl), (Nat.le_of_ble_eq_true rfl)⟩ (by decide) (by omega) (by omega) hP hD hS rfl hl.1 (rest := []) rfl (Nat.le_of_ble_eq_true rfl) dL_law_655 (st1 := [.int (r1 0 0)]) rfl (fun H locs hP hD hS => ?_)
  refine lv_as (y := kk) h4 ?_
  refine lv_iload hx hb dL_law_658 (lv_at hl 1 rfl) ?_
  refine lv_icmp_eq (tgt := 665) hx hb dL_law_660 (by decide) (fun _ => ?_) (fun h => absurd rfl h)
  refine lv_iload hx hb dL_law_665 (lv_at hl 1 rfl) ?_
  refine lv_if_ne (tgt := 682) hx hb dL_law_667 (by decide) (fun _ => ?_) (fun h => ?_)
  · skip
    refine lv_goto (tgt := 1604) hx hb dL_law_682 (by decide) ?_
    exact K (fixz (u 0) z) n1 ni1 ns1 hs1 c1 r1 f1 g H locs _ _ ls fixz_0 Re1 (by omega) hP hD hS (lv_sub hl [2, 3, 4, 5, 6, 7] rfl) (by omega) (by omega)
  · skip
    refine lv_aload_n hx hb dL_law_670 rfl (lv_at hl 5 rfl) ?_
    refine lv_iconst (v := 0) hx hb dL_law_671 (by decide) ?_
    refine va_lald hx hb hK hP (cw cA (fixz (u 0) z) n1 ni1 c1).length 4 lw_lo rfl vi01 dL_law_672 ?_
    refine lv_iload hx hb dL_law_673 (lv_at hl 0 rfl) ?_
    refine lv_i2l (v := w.toInt64) hx hb dL_law_675 rfl ?_
    refine W.lcmp hx hb dL_law_676 ?_
    refine lv_as (y := 0) ((lg_cmp_eq (f1 0) w.toInt64).mpr (h5 h)) ?_
    refine lv_if_eq (tgt := 682) hx hb dL_law_677 (by decide) (fun _ => ?_) (fun h => absurd rfl h)
    refine lv_goto (tgt := 1604) hx hb dL_law_682 (by decide) ?_
    exact K (fixz (u 0) z) n1 ni1 ns1 hs1 c1 r1 f1 g H locs _ _ ls fixz_0 Re1 (by omega) hP hD hS (lv_sub hl [2, 3, 4, 5, 6, 7] rfl) (by omega) (by omega)
set_option maxHeartbeats 4000000 in
set_option maxRecDepth 100000 in
theorem k_visit {p : Program} {l : Launch} {e : Env} {s : State} {m : MethodId} {args : Array Value} {below : List Frame} {meth : Method} {c : Code} {Q : State → Prop} {dg : va_G} {cA : Nat → ClassId} {A : Nat → Prop} {b L : Nat} {xs : Nat → Int32} (C : LC p l dg cA s m c args A b L xs) (hL : L ≤ 2048) (k : Nat) (hk : 4 * k + 4 ≤ L) {u ad : Nat → Nat} {o od n ni ns hs : Nat} {cs r : St} {f : Nat → Int64} {g : Nat → UInt64} {H : Heap} {locs : List Loc} {cells slots : Nat} {ls : Array Slot} (Re : Rel cs r n ni ns hs) (hhs : hs ≤ k) (hP : PP dg (LW cA u ad o od n ni cs r f g) H) (hD : va_D A (LW cA u ad o od n ni cs r f g)) (hS : va_S A s.heap H locs) (hl : lv_has ls 9 (lL b (u 0) (ad 0) o od (nI (4 * k)))) (hce : cells ≤ 60 + 8 * k) (hsl : slots ≤ 2000 + 100 * k) (K : KN p l e s m args below meth c Q dg cA A b (u 0) ad o od k) : W p l e room_1 s m args below meth c H locs cells slots Q (F0 m 685 ls []) := by
  have hx := C.1.1
  have hb := C.1.2.1
  have hK := C.2.1
  obtain ⟨kk, f1, w, c1, r1, n1, ni1, ns1, hs1, mc, ms, rm2, h1, ⟨hmc, hms⟩, h2, h3, h4, h5, Re1, hhs1⟩ := p_visit l dg cA C.2.2.2.2.2.2 (u := u) (ad := ad) (o := o) (f := f) Re (by omega) (xs (4 * k + 1)) (((xs (4 * k + 2)).toUInt32 % 65536).toInt32) (xs (4 * k + 3))
  refine lv_aload_n hx hb dL_law_685 rfl (lv_at hl 1 rfl) ?_
  refine lv_aload_n hx hb dL_law_686 rfl (lv_at hl 0 rfl) ?_
  refine lv_iload hx hb dL_law_687 (lv_at hl 5 rfl) ?_
  refine lv_iconst (v := 1) hx hb dL_law_689 (by decide) ?_
  refine lv_iadd hx hb dL_law_690 ?_
  refine lv_as (y := nI (4 * k + 1)) (nI_1 (4 * k)) ?_
  refine sldk C hS (j := 4 * k + 1) (by omega) hL dL_law_691 ?_
  refine lv_aload_n hx hb dL_law_692 rfl (lv_at hl 0 rfl) ?_
  refine lv_iload hx hb dL_law_693 (lv_at hl 5 rfl) ?_
  refine lv_iconst (v := 2) hx hb dL_law_695 (by decide) ?_
  refine lv_iadd hx hb dL_law_696 ?_
  refine lv_as (y := nI (4 * k + 2)) (nI_a2 (4 * k)) ?_
  refine sldk C hS (j := 4 * k + 2) (by omega) hL dL_law_697 ?_
  refine lv_i2c (v := ((xs (4 * k + 2)).toUInt32 % 65536).toInt32) hx hb dL_law_698 rfl ?_
  refine lv_aload_n hx hb dL_law_699 rfl (lv_at hl 0 rfl) ?_
  refine lv_iload hx hb dL_law_700 (lv_at hl 5 rfl) ?_
  refine lv_iconst (v := 3) hx hb dL_law_702 (by decide) ?_
  refine lv_iadd hx hb dL_law_703 ?_
  refine lv_as (y := nI (4 * k + 3)) (nI_a3 (4 * k)) ?_
  refine sldk C hS (j := 4 * k + 3) (by omega) hL dL_law_704 ?_
  refine lv_aload_n hx hb dL_law_705 rfl (lv_at hl 3 rfl) ?_
  refine lwZ C h1 kL_138 (by decide) hmc hms (by omega) (by omega) hP hD hS rfl hl.1 (rest := []) rfl (Nat.le_of_ble_eq_true rfl) dL_law_706 (fun z H locs hP hD hS => ?_)
  refine lv_istore (lv' := [(6, .int kk), (0, .ref b), (1, .ref (u 0)), (2, .ref (ad 0)), (3, .ref o), (4, .ref od), (5, .int (nI (4 * k)))]) hx hb dL_law_709 hl (by decide) rfl (fun ls hl => ?_)
  refine lv_aload_n hx hb dL_law_711 rfl (lv_at hl 3 rfl) ?_
  refine lv_aload_n hx hb dL_law_712 rfl (lv_at hl 1 rfl) ?_
  refine lv_iload hx hb dL_law_713 (lv_at hl 6 rfl) ?_
  refine lv_iconst (v := 1) hx hb dL_law_715 (by decide) ?_
  refine lv_iadd hx hb dL_law_716 ?_
  refine lv_as (y := nI (4 * k + 1)) (nI_1 (4 * k)) ?_
  refine sldk C hS (j := 4 * k + 1) (by omega) hL dL_law_717 ?_
  refine lv_aload_n hx hb dL_law_718 rfl (lv_at hl 1 rfl) ?_
  refine lv_iload hx hb dL_law_719 (lv_at hl 6 rfl) ?_
  refine lv_iconst (v := 2) hx hb dL_law_721 (by decide) ?_
  refine lv_iadd hx hb dL_law_722 ?_
  refine lv_as (y := nI (4 * k + 2)) (nI_a2 (4 * k)) ?_
  refine sldk C hS (j := 4 * k + 2) (by omega) hL dL_law_723 ?_
  refine lv_i2c (v := ((xs (4 * k + 2)).toUInt32 % 65536).toInt32) hx hb dL_law_724 rfl ?_
  refine lv_aload_n hx hb dL_law_725 rfl (lv_at hl 1 rfl) ?_
  refine lv_iload hx hb dL_law_726 (lv_at hl 6 rfl) ?_
  refine lv_iconst (v := 3) hx hb dL_law_728 (by decide) ?_
  refine lv_iadd hx hb dL_law_729 ?_
  refine lv_as (y := nI (4 * k + 3)) (nI_a3 (4 * k)) ?_
  refine sldk C hS (j := 4 * k + 3) (by omega) hL dL_law_730 ?_
  refine lwM C (fun sz => Met.ofM (h2 sz)) kL_141 h3 (by decide) (by omega) (by omega) hP hD hS rfl hl.1 (rest := []) rfl (Nat.le_of_ble_eq_true rfl) dL_law_731 (st1 := [.int w]) rfl (fun H locs hP hD hS => ?_)
  refine lv_istore (lv' := [(7, .int w), (6, .int kk), (0, .ref b), (1, .ref (u 0)), (2, .ref (ad 0)), (3, .ref o), (4, .ref od), (5, .int (nI (4 * k)))]) hx hb dL_law_734 hl (by decide) rfl (fun ls hl => ?_)
  refine lv_aload_n hx hb dL_law_736 rfl (lv_at hl 4 rfl) ?_
  refine lwM C (fun sz => Met.ofR (rr_thrown l dg cA ad r1) sz) kL_107 ⟨rfl, rfl, (Nat.le_of_ble_eq_true rfl), (Nat.le_of_ble_eq_true rfl)⟩ (by decide) (by omega) (by omega) hP hD hS rfl hl.1 (rest := []) rfl (Nat.le_of_ble_eq_true rfl) dL_law_737 (st1 := [.int (r1 0 0)]) rfl (fun H locs hP hD hS => ?_)
  refine lv_as (y := kk) h4 ?_
  refine lv_iload hx hb dL_law_740 (lv_at hl 1 rfl) ?_
  refine lv_icmp_eq (tgt := 747) hx hb dL_law_742 (by decide) (fun _ => ?_) (fun h => absurd rfl h)
  refine lv_iload hx hb dL_law_747 (lv_at hl 1 rfl) ?_
  refine lv_if_ne (tgt := 764) hx hb dL_law_749 (by decide) (fun _ => ?_) (fun h => ?_)
  · skip
    refine lv_goto (tgt := 1604) hx hb dL_law_764 (by decide) ?_
    exact K (fixz (u 0) z) n1 ni1 ns1 hs1 c1 r1 f1 g H locs _ _ ls fixz_0 Re1 (by omega) hP hD hS (lv_sub hl [2, 3, 4, 5, 6, 7] rfl) (by omega) (by omega)
  · skip
    refine lv_aload_n hx hb dL_law_752 rfl (lv_at hl 5 rfl) ?_
    refine lv_iconst (v := 0) hx hb dL_law_753 (by decide) ?_
    refine va_lald hx hb hK hP (cw cA (fixz (u 0) z) n1 ni1 c1).length 4 lw_lo rfl vi01 dL_law_754 ?_
    refine lv_iload hx hb dL_law_755 (lv_at hl 0 rfl) ?_
    refine lv_i2l (v := w.toInt64) hx hb dL_law_757 rfl ?_
    refine W.lcmp hx hb dL_law_758 ?_
    refine lv_as (y := 0) ((lg_cmp_eq (f1 0) w.toInt64).mpr (h5 h)) ?_
    refine lv_if_eq (tgt := 764) hx hb dL_law_759 (by decide) (fun _ => ?_) (fun h => absurd rfl h)
    refine lv_goto (tgt := 1604) hx hb dL_law_764 (by decide) ?_
    exact K (fixz (u 0) z) n1 ni1 ns1 hs1 c1 r1 f1 g H locs _ _ ls fixz_0 Re1 (by omega) hP hD hS (lv_sub hl [2, 3, 4, 5, 6, 7] rfl) (by omega) (by omega)
