/-! the law's loop -/
theorem i32_31 (x : Int32) : ∃ j, j < 32 ∧ x &&& 31 = nI j := by
  refine ⟨(x.toBitVec &&& 31#32).toNat, ?_, ?_⟩
  · rw [BitVec.toNat_and]
    exact Nat.lt_of_le_of_lt Nat.and_le_right (by decide)
  · apply Int32.toBitVec_inj.mp
    rw [Int32.toBitVec_and]
    show x.toBitVec &&& 31#32 = BitVec.ofNat 32 (x.toBitVec &&& 31#32).toNat
    rw [BitVec.ofNat_toNat, BitVec.setWidth_eq]
theorem ex4 {L j : Nat} (hL : L ≤ 2048) (hj : j ≤ 2048) (h : ¬ nI L - 4 < nI j) : j + 4 ≤ L := by
  by_cases z : 4 ≤ L
  · rw [show (4 : Int32) = nI 4 from rfl, pk_sub z] at h
    have : ¬ L - 4 < j := fun q => h ((nI_ltI (by omega) (by omega)).mpr q)
    omega
  · refine absurd (Int32.lt_of_lt_of_le ?_ (nI_pos' (show j < 2 ^ 31 by omega))) h
    have : L = 0 ∨ L = 1 ∨ L = 2 ∨ L = 3 := by omega
    rcases this with rfl | rfl | rfl | rfl <;> decide
set_option maxHeartbeats 4000000 in
set_option maxRecDepth 100000 in
theorem law_loop {p : Program} {l : Launch} {e : Env} {s : State} {m : MethodId} {args : Array Value} {below : List Frame} {meth : Method} {c : Code} {Q : State → Prop} {dg : va_G} {cA : Nat → ClassId} {A : Nat → Prop} {b L : Nat} {xs : Nat → Int32} (C : LC p l dg cA s m c args A b L xs) (hL : L ≤ 2048)
    (hend : ∀ (H : Heap) (locs : List Loc) (cells slots : Nat) (ls : Array Slot), va_S A s.heap H locs → cells ≤ 603072 → slots ≤ 7202922 → W p l e room_1 s m args below meth c H locs cells slots Q (F0 m 1610 ls [])) :
    ∀ (t k : Nat), L - 4 * k < t → 4 * k ≤ L → ∀ {u ad : Nat → Nat} {o od n ni ns hs : Nat} {cs r : St} {f : Nat → Int64} {g : Nat → UInt64} {H : Heap} {locs : List Loc} {cells slots : Nat} {ls : Array Slot}, Rel cs r n ni ns hs → hs ≤ k → PP dg (LW cA u ad o od n ni cs r f g) H → va_D A (LW cA u ad o od n ni cs r f g) → va_S A s.heap H locs → lv_has ls 9 (lL b (u 0) (ad 0) o od (nI (4 * k))) → cells ≤ 60 + 8 * k → slots ≤ 2000 + 100 * k → W p l e room_1 s m args below meth c H locs cells slots Q (F0 m 28 ls []) := by
  intro t
  induction t with
  | zero => intro k h; exact absurd h (Nat.not_lt_zero _)
  | succ t ih =>
    intro k ht hkL u ad o od n ni ns hs cs r f g H locs cells slots ls Re hhs hP hD hS hl hce hsl
    have hx := C.1.1
    have hb := C.1.2.1
    refine lv_iload hx hb dL_law_28 (lv_at hl 5 rfl) ?_
    refine lv_aload_n hx hb dL_law_30 rfl (lv_at hl 0 rfl) ?_
    refine va_slen hx hb C.2.2.2.2.1.1 C.2.2.2.2.1.2.1 C.2.2.2.2.1.2.2 hS dL_law_31 ?_
    refine lv_as (y := nI L) rfl ?_
    refine lv_iconst (v := 4) hx hb dL_law_32 (by decide) ?_
    refine lv_isub hx hb dL_law_33 ?_
    refine lv_icmp_gt (tgt := 1610) hx hb dL_law_34 (by decide) (fun h => ?_) (fun h => ?_)
    · exact hend H locs cells slots ls hS (by omega) (by omega)
    · have hk := ex4 (j := 4 * k) hL (by omega) h
      refine lv_aload_n hx hb dL_law_37 rfl (lv_at hl 0 rfl) ?_
      refine lv_iload hx hb dL_law_38 (lv_at hl 5 rfl) ?_
      refine sldk C hS (j := 4 * k) (by omega) hL dL_law_40 ?_
      refine lv_bipush (v := 31) hx hb dL_law_41 (by decide) ?_
      refine lv_iand hx hb dL_law_43 ?_
      obtain ⟨j, hj, ej⟩ := i32_31 (xs (4 * k))
      refine lv_as (y := nI j) ej ?_
      have K : KN p l e s m args below meth c Q dg cA A b (u 0) ad o od k := by
        intro u' n' ni' ns' hs' cs' r' f' g' H locs cells slots ls hu Re hhs hP hD hS hl hce hsl
        refine lv_iinc (v := nI (4 * (k + 1))) (lv' := [(5, .int (nI (4 * (k + 1)))), (0, .ref b), (1, .ref (u 0)), (2, .ref (ad 0)), (3, .ref o), (4, .ref od)]) hx hb dL_law_1604 hl (k := 5) rfl (nI_add (4 * k) 4) (by decide) rfl (fun ls hl => ?_)
        refine lv_goto (tgt := 28) hx hb dL_law_1607 (by decide) ?_
        rw [← hu] at hl
        exact ih (k + 1) (by omega) (by omega) Re hhs hP hD hS (lv_sub hl [1, 2, 3, 4, 5, 0] rfl) hce hsl
      rcases (show j = 0 ∨ j = 1 ∨ j = 2 ∨ j = 3 ∨ j = 4 ∨ j = 5 ∨ j = 6 ∨ j = 7 ∨ j = 8 ∨ j = 9 ∨ j = 10 ∨ j = 11 ∨ j = 12 ∨ j = 13 ∨ j = 14 ∨ j = 15 ∨ j = 16 ∨ j = 17 ∨ j = 18 ∨ j = 19 ∨ j = 20 ∨ j = 21 ∨ j = 22 ∨ j = 23 ∨ j = 24 ∨ j = 25 ∨ 26 ≤ j by omega) with rfl | rfl | rfl | rfl | rfl | rfl | rfl | rfl | rfl | rfl | rfl | rfl | rfl | rfl | rfl | rfl | rfl | rfl | rfl | rfl | rfl | rfl | rfl | rfl | rfl | rfl | hj2
      · refine lv_tableIn (off := 120) (tgt := 164) hx hb dL_law_44 (by decide) (by decide) (by decide) (by decide) ?_
        exact k_setChance C hL k hk Re hhs hP hD hS hl hce hsl K
      · refine lv_tableIn (off := 176) (tgt := 220) hx hb dL_law_44 (by decide) (by decide) (by decide) (by decide) ?_
        exact k_addStratum C hL k hk Re hhs hP hD hS hl hce hsl K
      · refine lv_tableIn (off := 220) (tgt := 264) hx hb dL_law_44 (by decide) (by decide) (by decide) (by decide) ?_
        exact k_addHouse C hL k hk Re hhs hP hD hS hl hce hsl K
      · refine lv_tableIn (off := 300) (tgt := 344) hx hb dL_law_44 (by decide) (by decide) (by decide) (by decide) ?_
        exact k_addInterviewer C hL k hk Re hhs hP hD hS hl hce hsl K
      · refine lv_tableIn (off := 380) (tgt := 424) hx hb dL_law_44 (by decide) (by decide) (by decide) (by decide) ?_
        exact k_draw C hL k hk Re hhs hP hD hS hl hce hsl K
      · refine lv_tableIn (off := 448) (tgt := 492) hx hb dL_law_44 (by decide) (by decide) (by decide) (by decide) ?_
        exact k_day C hL k hk Re hhs hP hD hS hl hce hsl K
      · refine lv_tableIn (off := 461) (tgt := 505) hx hb dL_law_44 (by decide) (by decide) (by decide) (by decide) ?_
        exact k_roundSize C hL k hk Re hhs hP hD hS hl hce hsl K
      · refine lv_tableIn (off := 517) (tgt := 561) hx hb dL_law_44 (by decide) (by decide) (by decide) (by decide) ?_
        exact k_roundAt C hL k hk Re hhs hP hD hS hl hce hsl K
      · refine lv_tableIn (off := 585) (tgt := 629) hx hb dL_law_44 (by decide) (by decide) (by decide) (by decide) ?_
        exact k_roundMinutes C hL k hk Re hhs hP hD hS hl hce hsl K
      · refine lv_tableIn (off := 641) (tgt := 685) hx hb dL_law_44 (by decide) (by decide) (by decide) (by decide) ?_
        exact k_visit C hL k hk Re hhs hP hD hS hl hce hsl K
      · refine lv_tableIn (off := 723) (tgt := 767) hx hb dL_law_44 (by decide) (by decide) (by decide) (by decide) ?_
        exact k_check C hL k hk Re hhs hP hD hS hl hce hsl K
      · refine lv_tableIn (off := 798) (tgt := 842) hx hb dL_law_44 (by decide) (by decide) (by decide) (by decide) ?_
        exact k_endDay C hL k hk Re hhs hP hD hS hl hce hsl K
      · refine lv_tableIn (off := 842) (tgt := 886) hx hb dL_law_44 (by decide) (by decide) (by decide) (by decide) ?_
        exact k_stateOf C hL k hk Re hhs hP hD hS hl hce hsl K
      · refine lv_tableIn (off := 898) (tgt := 942) hx hb dL_law_44 (by decide) (by decide) (by decide) (by decide) ?_
        exact k_wantedFrom C hL k hk Re hhs hP hD hS hl hce hsl K
      · refine lv_tableIn (off := 954) (tgt := 998) hx hb dL_law_44 (by decide) (by decide) (by decide) (by decide) ?_
        exact k_codeOf C hL k hk Re hhs hP hD hS hl hce hsl K
      · refine lv_tableIn (off := 1010) (tgt := 1054) hx hb dL_law_44 (by decide) (by decide) (by decide) (by decide) ?_
        exact k_answerOf C hL k hk Re hhs hP hD hS hl hce hsl K
      · refine lv_tableIn (off := 1066) (tgt := 1110) hx hb dL_law_44 (by decide) (by decide) (by decide) (by decide) ?_
        exact k_faults C hL k hk Re hhs hP hD hS hl hce hsl K
      · refine lv_tableIn (off := 1122) (tgt := 1166) hx hb dL_law_44 (by decide) (by decide) (by decide) (by decide) ?_
        exact k_answersTo C hL k hk Re hhs hP hD hS hl hce hsl K
      · refine lv_tableIn (off := 1178) (tgt := 1222) hx hb dL_law_44 (by decide) (by decide) (by decide) (by decide) ?_
        exact k_target C hL k hk Re hhs hP hD hS hl hce hsl K
      · refine lv_tableIn (off := 1234) (tgt := 1278) hx hb dL_law_44 (by decide) (by decide) (by decide) (by decide) ?_
        exact k_weight C hL k hk Re hhs hP hD hS hl hce hsl K
      · refine lv_tableIn (off := 1290) (tgt := 1334) hx hb dL_law_44 (by decide) (by decide) (by decide) (by decide) ?_
        exact k_weightAnew C hL k hk Re hhs hP hD hS hl hce hsl K
      · refine lv_tableIn (off := 1346) (tgt := 1390) hx hb dL_law_44 (by decide) (by decide) (by decide) (by decide) ?_
        exact k_weightOfLanguage C hL k hk Re hhs hP hD hS hl hce hsl K
      · refine lv_tableIn (off := 1402) (tgt := 1446) hx hb dL_law_44 (by decide) (by decide) (by decide) (by decide) ?_
        exact k_weightedSum C hL k hk Re hhs hP hD hS hl hce hsl K
      · refine lv_tableIn (off := 1416) (tgt := 1460) hx hb dL_law_44 (by decide) (by decide) (by decide) (by decide) ?_
        exact k_weightedMean C hL k hk Re hhs hP hD hS hl hce hsl K
      · refine lv_tableIn (off := 1481) (tgt := 1525) hx hb dL_law_44 (by decide) (by decide) (by decide) (by decide) ?_
        exact k_rate C hL k hk Re hhs hP hD hS hl hce hsl K
      · refine lv_tableIn (off := 1547) (tgt := 1591) hx hb dL_law_44 (by decide) (by decide) (by decide) (by decide) ?_
        exact k_isSound C hL k hk Re hhs hP hD hS hl hce hsl K
      · refine lv_tableOut (tgt := 1604) hx hb dL_law_44 (Or.inr ?_) (by decide) ?_
        · rw [nI_toInt (by omega)]; omega
        · exact K u n ni ns hs cs r f g H locs cells slots ls rfl Re (by omega) hP hD hS hl (by omega) (by omega)
