/-! the tally's pure words -/
def tmem (ans g : Nat → Int32) (k : Int32) : Nat → Bool := fun j => decide (¬ ans j = 0) && decide (g j = k)
theorem b2_0 {b : Bool} (h : b2 b = 0) : b = false := by cases b with
  | false => rfl
  | true => exact absurd h (by decide)
theorem b2_1 {b : Bool} (h : ¬ b2 b = 0) : b = true := by cases b with
  | true => rfl
  | false => exact absurd rfl h
def cs_nw (S tg : Int32) (many : Nat) (w : Int32) : Int32 := if 0 < S then w * tg / S else 1 * tg / nI many
def cs_fit (mem : Nat → Bool) (w : Nat → Int32) (tg : Int32) (n : Nat) : Nat → Int32 :=
  (fs_w2 mem (fs_w1 mem w (cs_nw (fs_sum mem w n) tg (ct mem n)) n) (fs_ms mem w (cs_nw (fs_sum mem w n) tg (ct mem n)) tg n) n).1
def cs_g (ans g t : Nat → Int32) (n : Nat) (w : Nat → Int32) : Nat → (Nat → Int32)
  | 0 => w
  | k + 1 => if 0 < ct (tmem ans g (nI k)) n then cs_fit (tmem ans g (nI k)) (cs_g ans g t n w k) (t k) n else cs_g ans g t n w k
theorem cs_g_t {ans g t : Nat → Int32} {n k : Nat} {w : Nat → Int32} (h : 0 < ct (tmem ans g (nI k)) n) : cs_g ans g t n w (k + 1) = cs_fit (tmem ans g (nI k)) (cs_g ans g t n w k) (t k) n := by
  conv => lhs; unfold cs_g
  rw [if_pos h]
theorem cs_g_f {ans g t : Nat → Int32} {n k : Nat} {w : Nat → Int32} (h : ¬ 0 < ct (tmem ans g (nI k)) n) : cs_g ans g t n w (k + 1) = cs_g ans g t n w k := by
  conv => lhs; unfold cs_g
  rw [if_neg h]
def cs_w0 (ans : Nat → Int32) (w : Nat → Int32) : Nat → (Nat → Int32)
  | 0 => w
  | j + 1 => upd (cs_w0 ans w j) j (if ans j = 0 then 0 else 1000)
theorem cs_w0_t {ans w : Nat → Int32} {j : Nat} (h : ans j = 0) : cs_w0 ans w (j + 1) = upd (cs_w0 ans w j) j 0 := by
  conv => lhs; unfold cs_w0
  rw [if_pos h]
theorem cs_w0_f {ans w : Nat → Int32} {j : Nat} (h : ¬ ans j = 0) : cs_w0 ans w (j + 1) = upd (cs_w0 ans w j) j 1000 := by
  conv => lhs; unfold cs_w0
  rw [if_neg h]
/-- strata, then languages, three times -/
def cs_t (c : St) (b n : Nat) : Nat → (Nat → Int32)
  | 0 => cs_w0 (c b) (c (b + 3)) 24
  | k + 1 => cs_g (c b) (c 2) (c 4) n (cs_g (c b) (c 1) (c 3) n (cs_t c b n k) 4) 3
def cs_wt (c : St) (b n : Nat) : Nat → Int32 := cs_g (c b) (c 1) (c 3) n (cs_t c b n 3) 4
def fs_z (f : Nat → Int32) : Nat → (Nat → Int32)
  | 0 => f
  | j + 1 => upd (fs_z f j) j 0
def c_dr (tk : Nat → Int32) (v : Int32) (f : Nat → Int32) : Nat → (Nat → Int32)
  | 0 => f
  | j + 1 => if tk j = v then upd (c_dr tk v f j) j 0 else c_dr tk v f j
theorem c_dr_t {tk f : Nat → Int32} {v : Int32} {j : Nat} (h : tk j = v) : c_dr tk v f (j + 1) = upd (c_dr tk v f j) j 0 := by
  conv => lhs; unfold c_dr
  rw [if_pos h]
theorem c_dr_f {tk f : Nat → Int32} {v : Int32} {j : Nat} (h : ¬ tk j = v) : c_dr tk v f (j + 1) = c_dr tk v f j := by
  conv => lhs; unfold c_dr
  rw [if_neg h]
