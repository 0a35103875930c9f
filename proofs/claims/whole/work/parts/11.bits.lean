/-! bits of a long, of a row -/
def bl (x : Int64) (i : Nat) : Bool := x.toBitVec.getLsbD i
theorem bl_and (x y : Int64) (i : Nat) : bl (x &&& y) i = (bl x i && bl y i) := by
  unfold bl
  rw [Int64.toBitVec_and, BitVec.getLsbD_and]
theorem bl_or (x y : Int64) (i : Nat) : bl (x ||| y) i = (bl x i || bl y i) := by
  unfold bl
  rw [Int64.toBitVec_or, BitVec.getLsbD_or]
theorem bl_xor (x y : Int64) (i : Nat) : bl (x ^^^ y) i = (bl x i ^^ bl y i) := by
  unfold bl
  rw [Int64.toBitVec_xor, BitVec.getLsbD_xor]
theorem bl_ext {x y : Int64} (h : ∀ i, i < 64 → bl x i = bl y i) : x = y := wb_inj (BitVec.eq_of_getLsbD_eq (fun i hi => h i hi))
theorem bl_lN (n i : Nat) : bl (lN n) i = (decide (i < 64) && n.testBit i) := by
  unfold bl
  rw [wb_tb, BitVec.getLsbD_ofNat]
theorem bl_lt {n i : Nat} (h : n < 2 ^ 64) : bl (lN n) i = n.testBit i := by
  rw [bl_lN]
  by_cases hi : i < 64
  · simp [hi]
  · have : n.testBit i = false := Nat.testBit_lt_two_pow (Nat.lt_of_lt_of_le h (Nat.pow_le_pow_right (by decide) (by omega)))
    simp [this]
theorem bl_0 (i : Nat) : bl 0 i = false := by
  rw [show (0 : Int64) = lN 0 from rfl, bl_lN, Nat.zero_testBit, Bool.and_false]
theorem bl_m1 {i : Nat} (h : i < 64) : bl (-1) i = true := by
  rw [show (-1 : Int64) = lN (2 ^ 64 - 1) by decide +kernel, bl_lN, Nat.testBit_two_pow_sub_one]
  simp [h]
theorem bl_big {x : Int64} {i : Nat} (h : 64 ≤ i) : bl x i = false := BitVec.getLsbD_of_ge _ _ h
theorem bl_not (x : Int64) {i : Nat} (h : i < 64) : bl (x ^^^ (-1)) i = !bl x i := by
  rw [bl_xor, bl_m1 h, Bool.xor_true]
theorem bl_ne0 {x : Int64} (h : ¬ x = 0) : ∃ i, i < 64 ∧ bl x i = true := by
  apply Classical.byContradiction
  intro hn
  apply h
  apply bl_ext
  intro i hi
  rw [bl_0]
  cases hb : bl x i with
  | false => rfl
  | true => exact absurd ⟨i, hi, hb⟩ hn
theorem bl_eq0 {x : Int64} (h : x = 0) (i : Nat) : bl x i = false := by
  rw [h, bl_0]
theorem bl_shr {k : Nat} (hk : k < 64) (x : Int64) (i : Nat) : bl (x.toUInt64 >>> ((nI k).toInt64.toUInt64 &&& Int64.toUInt64 63)).toInt64 i = bl x (k + i) := by
  obtain ⟨n, hn, rfl⟩ := wb_of x
  rw [wb_shr hn hk, bl_lt hn, bl_lt (Nat.lt_of_le_of_lt (Nat.div_le_self _ _) hn), Nat.testBit_div_two_pow, Nat.add_comm]
theorem bl_shl {k : Nat} (hk : k < 64) (x : Int64) {i : Nat} (hi : i < 64) : bl (x <<< ((nI k).toInt64 &&& 63)) i = (decide (k ≤ i) && bl x (i - k)) := by
  obtain ⟨n, hn, rfl⟩ := wb_of x
  rw [wb_shl n hk, bl_lN, bl_lt hn, ← Nat.shiftLeft_eq, Nat.testBit_shiftLeft]
  simp [hi]
/-- the lowest bits -/
theorem lb_bit (c : Int32) {k : Nat} (hk : k < 64) : bl (fX0_lowBits c) k = decide ((k : Int) < c.toInt) := by
  unfold fX0_lowBits
  have e0 : (0 : Int32).toInt = 0 := rfl
  have e64 : (64 : Int32).toInt = 64 := rfl
  by_cases c1 : 0 < c
  · rw [if_pos c1]
    rw [Int32.lt_iff_toInt_lt] at c1
    by_cases c2 : c < 64
    · rw [if_pos c2]
      rw [Int32.lt_iff_toInt_lt] at c2
      obtain ⟨n, hn, rfl⟩ := nI_of (x := c) (by rw [Int32.lt_iff_toInt_lt]; omega)
      rw [nI_toInt hn] at c1 c2 ⊢
      have h1 : 1 ≤ 1 * 2 ^ n := by
        have := Nat.two_pow_pos n
        omega
      rw [show (1 : Int64) = lN 1 from rfl, wb_shl 1 (by omega), lN_sub h1, Nat.one_mul, bl_lN, Nat.testBit_two_pow_sub_one]
      by_cases h : k < n
      · have h' : (k : Int) < (n : Int) := by omega
        simp [hk, h, h']
      · have h' : ¬ (k : Int) < (n : Int) := by omega
        simp [hk, h, h']
    · rw [if_neg c2]
      rw [Int32.lt_iff_toInt_lt] at c2
      rw [bl_m1 hk]
      exact (decide_eq_true (by omega)).symm
  · rw [if_neg c1]
    rw [Int32.lt_iff_toInt_lt] at c1
    rw [bl_0]
    exact (decide_eq_false (by omega)).symm
/-- bit k of a row -/
def rb (w : Nat → Int64) (k : Nat) : Bool := bl (w (k / 64)) (k % 64)
theorem rb_at (w : Nat → Int64) (i : Nat) {k : Nat} (hk : k < 64) : rb w (64 * i + k) = bl (w i) k := by
  unfold rb
  rw [show (64 * i + k) / 64 = i by omega, show (64 * i + k) % 64 = k by omega]
theorem m64 (b i : Nat) (hb : b ≤ 5000) (hi : i < 63) : (nI b - 64 * nI i).toInt = (b : Int) - 64 * i := by
  rw [show (64 : Int32) = nI 64 from rfl, pk_mul, pk_sub_toInt (by omega) (by omega)]
  omega
theorem lb64 (b i : Nat) {k : Nat} (hb : b ≤ 5000) (hi : i < 63) (hk : k < 64) : bl (fX0_lowBits (nI b - 64 * nI i)) k = decide (64 * i + k < b) := by
  rw [lb_bit _ hk, m64 b i hb hi]
  by_cases h : 64 * i + k < b
  · rw [decide_eq_true h, decide_eq_true (by omega)]
  · rw [decide_eq_false h, decide_eq_false (by omega)]
theorem mk_bit (a b i : Nat) {k : Nat} (ha : a ≤ 5000) (hb : b ≤ 5000) (hi : i < 63) (hk : k < 64) : bl (mkC (nI a) (nI b) i) k = (decide (64 * i + k < b) && !decide (64 * i + k < a)) := by
  unfold mkC
  rw [bl_and, bl_not _ hk, lb64 b i hb hi hk, lb64 a i ha hi hk]
/-- how many of the first m are true -/
def cnt (b : Nat → Bool) : Nat → Nat
  | 0 => 0
  | m + 1 => cnt b m + (if b m = true then 1 else 0)
theorem cnt_c {b d : Nat → Bool} : ∀ m, (∀ k, k < m → b k = d k) → cnt b m = cnt d m := by
  intro m
  induction m with
  | zero => exact fun _ => rfl
  | succ m ih =>
    intro h
    show cnt b m + _ = cnt d m + _
    rw [ih (fun k hk => h k (by omega)), h m (by omega)]
theorem cnt_a (b : Nat → Bool) (m : Nat) : ∀ k, cnt b (m + k) = cnt b m + cnt (fun i => b (m + i)) k := by
  intro k
  induction k with
  | zero => rfl
  | succ k ih =>
    show cnt b (m + k) + (if b (m + k) = true then 1 else 0) = cnt b m + (cnt (fun i => b (m + i)) k + (if b (m + k) = true then 1 else 0))
    rw [ih, Nat.add_assoc]
theorem cnt_s (b : Nat → Bool) (m : Nat) : cnt b (m + 1) = (if b 0 = true then 1 else 0) + cnt (fun i => b (i + 1)) m := by
  rw [Nat.add_comm m 1, cnt_a]
  have e : (fun i => b (1 + i)) = (fun i => b (i + 1)) := by
    funext i
    rw [Nat.add_comm]
  rw [e]
  show 0 + _ + _ = _
  rw [Nat.zero_add]
theorem cnt_le (b : Nat → Bool) : ∀ m, cnt b m ≤ m := by
  intro m
  induction m with
  | zero => exact Nat.le_refl _
  | succ m ih =>
    show cnt b m + _ ≤ m + 1
    by_cases h : b m = true
    · rw [if_pos h]
      omega
    · rw [if_neg h]
      omega
theorem sd_cnt : ∀ m n, sd 2 m n = cnt n.testBit m := by
  intro m
  induction m with
  | zero => exact fun _ => rfl
  | succ m ih =>
    intro n
    rw [cnt_s]
    show n % 2 + sd 2 m (n / 2) = _
    rw [ih (n / 2)]
    have e : (fun i => n.testBit (i + 1)) = (n / 2).testBit := by
      funext i
      rw [Nat.testBit_succ]
    rw [e]
    congr 1
    rw [Nat.testBit_zero]
    by_cases h : n % 2 = 1
    · simp [h]
    · have h0 : n % 2 = 0 := by omega
      simp [h0]
theorem pcN_cnt (x : Int64) : pcN x = cnt (bl x) 64 := by
  obtain ⟨n, hn, rfl, -, h2⟩ := bc_ex x
  rw [h2, sd_cnt]
  exact cnt_c 64 (fun k _ => (bl_lt hn).symm)
theorem on_sum (w : Nat → Int64) : ∀ i, sI (bcW w) i = nI (cnt (rb w) (64 * i)) := by
  intro i
  induction i with
  | zero => rfl
  | succ i ih =>
    show sI (bcW w) i + fJ7_bitCount (w i) = _
    rw [ih, bc_eq, nI_add, pcN_cnt, Nat.mul_succ, cnt_a]
    congr 2
    exact cnt_c 64 (fun k hk => (rb_at w i hk).symm)
theorem on_eq (w : Nat → Int64) : fX0_ones w = nI (cnt (rb w) 4032) := on_sum w 63
/-! the lowest bit, the highest -/
theorem low_ex : ∀ (m n : Nat), n ≤ m → 0 < n → ∃ r q, n = 2 ^ r * (2 * q + 1) := by
  intro m
  induction m with
  | zero =>
    intro n h h0
    omega
  | succ m ih =>
    intro n h h0
    by_cases e : n % 2 = 1
    · exact ⟨0, n / 2, by rw [Nat.pow_zero]; omega⟩
    · obtain ⟨r, q, hq⟩ := ih (n / 2) (by omega) (by omega)
      exact ⟨r + 1, q, by rw [Nat.pow_succ, Nat.mul_assoc, Nat.mul_left_comm, ← hq]; omega⟩
theorem low_bit (r q k : Nat) : (2 ^ r * (2 * q + 1)).testBit k = (decide (r ≤ k) && (2 * q + 1).testBit (k - r)) := by
  rw [Nat.mul_comm, ← Nat.shiftLeft_eq, Nat.testBit_shiftLeft]
theorem low_m1 (r q : Nat) : 2 ^ r * (2 * q + 1) - 1 = 2 ^ r * (2 * q) + (2 ^ r - 1) := by
  have := Nat.two_pow_pos r
  rw [Nat.mul_add]
  omega
theorem low_mb (r q k : Nat) : (2 ^ r * (2 * q + 1) - 1).testBit k = if k < r then true else (2 * q).testBit (k - r) := by
  have := Nat.two_pow_pos r
  rw [low_m1, Nat.testBit_two_pow_mul_add _ (show 2 ^ r - 1 < 2 ^ r by omega), Nat.testBit_two_pow_sub_one]
  by_cases h : k < r
  · rw [if_pos h, if_pos h, decide_eq_true h]
  · rw [if_neg h, if_neg h]
theorem od_bit (q j : Nat) : (2 * q + 1).testBit (j + 1) = (2 * q).testBit (j + 1) := by
  rw [Nat.testBit_succ, Nat.testBit_succ]
  congr 1
  omega
theorem od_0 (q : Nat) : (2 * q + 1).testBit 0 = true ∧ (2 * q).testBit 0 = false := by
  rw [Nat.testBit_zero, Nat.testBit_zero]
  exact ⟨decide_eq_true (by omega), decide_eq_false (by omega)⟩
/-- ~n & (n - 1) -/
theorem nt_n {w r q : Nat} (hr : r < w) (hn : 2 ^ r * (2 * q + 1) < 2 ^ w) : ((2 ^ r * (2 * q + 1)) ^^^ (2 ^ w - 1)) &&& (2 ^ r * (2 * q + 1) - 1) = 2 ^ r - 1 := by
  apply Nat.eq_of_testBit_eq
  intro k
  rw [Nat.testBit_and, Nat.testBit_xor, Nat.testBit_two_pow_sub_one, Nat.testBit_two_pow_sub_one, low_mb]
  by_cases h : k < r
  · rw [if_pos h, low_bit, decide_eq_true h, decide_eq_false (show ¬ r ≤ k by omega), decide_eq_true (show k < w by omega)]
    rfl
  · rw [if_neg h, decide_eq_false h]
    by_cases hk : k < w
    · rw [decide_eq_true hk, low_bit, decide_eq_true (show r ≤ k by omega)]
      obtain ⟨j, rfl⟩ : ∃ j, k = r + j := ⟨k - r, by omega⟩
      rw [Nat.add_sub_cancel_left]
      cases j with
      | zero => simp [(od_0 q).2]
      | succ j =>
        rw [od_bit]
        cases (2 * q).testBit (j + 1) <;> rfl
    · have hz : (2 * q).testBit (k - r) = false := by
        have h1 : (2 ^ r * (2 * q + 1) - 1).testBit k = false := Nat.testBit_lt_two_pow (Nat.lt_of_lt_of_le (show 2 ^ r * (2 * q + 1) - 1 < 2 ^ w by omega) (Nat.pow_le_pow_right (by decide) (by omega)))
        rw [low_mb, if_neg h] at h1
        exact h1
      rw [hz, Bool.and_false]
/-- n & (n - 1): the lowest bit away -/
theorem cl_n {r q k : Nat} : ((2 ^ r * (2 * q + 1)) &&& (2 ^ r * (2 * q + 1) - 1)).testBit k = if k = r then false else (2 ^ r * (2 * q + 1)).testBit k := by
  rw [Nat.testBit_and, low_mb]
  by_cases h : k < r
  · rw [if_pos h, if_neg (show ¬ k = r by omega), Bool.and_true]
  · rw [if_neg h]
    obtain ⟨j, rfl⟩ : ∃ j, k = r + j := ⟨k - r, by omega⟩
    rw [low_bit, Nat.add_sub_cancel_left, decide_eq_true (show r ≤ r + j by omega)]
    cases j with
    | zero => simp [(od_0 q).2]
    | succ j =>
      rw [if_neg (show ¬ r + (j + 1) = r by omega), od_bit]
      cases (2 * q).testBit (j + 1) <;> rfl

theorem nI_md (n : Nat) : nI n = nI (n % 2 ^ 32) := by
  apply Int32.toBitVec_inj.mp
  show BitVec.ofNat 32 n = BitVec.ofNat 32 (n % 2 ^ 32)
  apply BitVec.eq_of_toNat_eq
  rw [BitVec.toNat_ofNat, BitVec.toNat_ofNat, Nat.mod_mod]
theorem nI_z {n : Nat} (h : n < 2 ^ 32) (h0 : 0 < n) : ¬ nI n = 0 := by
  intro e
  have e2 : (nI n).toBitVec.toNat = (0 : Int32).toBitVec.toNat := by rw [e]
  rw [pk_tn h] at e2
  have e3 : (0 : Int32).toBitVec.toNat = 0 := rfl
  omega
theorem nI_m {n : Nat} (h0 : 0 < n) : nI n - 1 = nI (n - 1) := by
  obtain ⟨k, rfl⟩ : ∃ k, n = k + 1 := ⟨n - 1, by omega⟩
  rw [nI_pred, Nat.add_sub_cancel]
theorem gt6 : ∀ r, r < 32 → gJ6_numberOfTrailingZeros (nI (2 ^ r - 1)) = nI r := by decide +kernel
theorem lo_pos (r q : Nat) : 0 < 2 ^ r * (2 * q + 1) := Nat.mul_pos (Nat.two_pow_pos r) (by omega)
theorem lo_lt {r q w : Nat} (h : 2 ^ r * (2 * q + 1) < 2 ^ w) : r < w := by
  rcases Nat.lt_or_ge r w with k | k
  · exact k
  · have h1 : 2 ^ w ≤ 2 ^ r := Nat.pow_le_pow_right (by decide) k
    have h2 : 2 ^ r ≤ 2 ^ r * (2 * q + 1) := Nat.le_mul_of_pos_right _ (by omega)
    omega
theorem nt6 {r q : Nat} (hn : 2 ^ r * (2 * q + 1) < 2 ^ 32) : fJ6_numberOfTrailingZeros (nI (2 ^ r * (2 * q + 1))) = nI r := by
  have hr := lo_lt hn
  have e : nt0 (nI (2 ^ r * (2 * q + 1))) = nI (2 ^ r - 1) := by
    unfold nt0
    rw [nI_m (lo_pos r q), show (-1 : Int32) = nI (2 ^ 32 - 1) by decide +kernel, nx_xor, nx_and, nt_n hr hn]
  unfold fJ6_numberOfTrailingZeros
  rw [e]
  exact gt6 r hr
theorem nt7 {r q : Nat} (hn : 2 ^ r * (2 * q + 1) < 2 ^ 64) : fJ7_numberOfTrailingZeros (lN (2 ^ r * (2 * q + 1))) = nI r := by
  have hr := lo_lt hn
  unfold fJ7_numberOfTrailingZeros
  rw [lN_i, show (32 : Int32) = nI 32 from rfl, wb_shr hn (by decide), lN_i]
  by_cases h : r < 32
  · obtain ⟨s, hs⟩ : ∃ s, 32 = r + (s + 1) := ⟨31 - r, by omega⟩
    have e1 : 2 ^ r * (2 * q + 1) % 2 ^ 32 = 2 ^ r * ((2 * q + 1) % 2 ^ (s + 1)) := by
      rw [hs, Nat.pow_add, Nat.mul_mod_mul_left]
    have e2 : (2 * q + 1) % 2 ^ (s + 1) % 2 = 1 := by
      rw [Nat.mod_mod_of_dvd _ ⟨2 ^ s, by rw [Nat.pow_succ, Nat.mul_comm]⟩]
      omega
    have e3 : (2 * q + 1) % 2 ^ (s + 1) = 2 * ((2 * q + 1) % 2 ^ (s + 1) / 2) + 1 := by omega
    have hlt : 2 ^ r * (2 * q + 1) % 2 ^ 32 < 2 ^ 32 := Nat.mod_lt _ (by decide)
    rw [nI_md (2 ^ r * (2 * q + 1))]
    rw [e1, e3] at hlt ⊢
    rw [if_neg (nI_z hlt (lo_pos _ _)), nt6 hlt]
  · obtain ⟨s, rfl⟩ : ∃ s, r = 32 + s := ⟨r - 32, by omega⟩
    have e1 : 2 ^ (32 + s) * (2 * q + 1) = 2 ^ 32 * (2 ^ s * (2 * q + 1)) := by
      rw [Nat.pow_add, Nat.mul_assoc]
    rw [e1] at hn ⊢
    have hs : 2 ^ s * (2 * q + 1) < 2 ^ 32 := by
      generalize 2 ^ s * (2 * q + 1) = y at hn ⊢
      omega
    rw [nI_md (2 ^ 32 * _), Nat.mul_mod_right, if_pos nI_0, Nat.mul_div_cancel_left _ (by decide), nt6 hs, nI_add]
theorem nt_ok {x : Int64} (h : ¬ x = 0) : ∃ r, r < 64 ∧ bl x r = true ∧ (∀ k, k < r → bl x k = false) ∧ fJ7_numberOfTrailingZeros x = nI r ∧ ∀ k, bl (x &&& (x - 1)) k = if k = r then false else bl x k := by
  obtain ⟨n, hn, rfl⟩ := wb_of x
  have h0 : 0 < n := by
    rcases Nat.eq_zero_or_pos n with e | e
    · subst e
      exact absurd rfl h
    · exact e
  obtain ⟨r, q, rfl⟩ := low_ex n n (Nat.le_refl _) h0
  refine ⟨r, lo_lt hn, ?_, fun k hk => ?_, nt7 hn, fun k => ?_⟩
  · rw [bl_lt hn, low_bit, Nat.sub_self, (od_0 q).1, decide_eq_true (Nat.le_refl r)]
    rfl
  · rw [bl_lt hn, low_bit, decide_eq_false (by omega)]
    rfl
  · rw [show (1 : Int64) = lN 1 from rfl, lN_sub (lo_pos r q), wb_and hn (by omega), bl_lt (Nat.lt_of_le_of_lt Nat.and_le_left hn), bl_lt hn, cl_n]
/-! leading zeros -/
theorem nI_neg {m k : Nat} {K : Int32} (hK : K = -nI k) (h : k ≤ m) : nI m + K = nI (m - k) := by
  rw [hK, ← pk_sub h, Int32.sub_eq_add_neg]
theorem up_pw {s r v : Nat} (h1 : 2 ^ r ≤ v / 2 ^ s) (h2 : v / 2 ^ s < 2 ^ (r + 1)) : 2 ^ (s + r) ≤ v ∧ v < 2 ^ (s + r + 1) := by
  have hp : 0 < 2 ^ s := Nat.two_pow_pos s
  refine ⟨?_, ?_⟩
  · rw [Nat.pow_add, Nat.mul_comm]
    exact (Nat.le_div_iff_mul_le hp).mp h1
  · rw [Nat.add_assoc, Nat.pow_add, Nat.mul_comm]
    exact (Nat.div_lt_iff_lt_mul hp).mp h2
theorem us_n {n : Nat} (hn : n < 2 ^ 32) (s : Int32) (k : Nat) (hs : ((s.toUInt32 &&& Int32.toUInt32 31).toBitVec % 32).toNat = k) : ((nI n).toUInt32 >>> (s.toUInt32 &&& Int32.toUInt32 31)).toInt32 = nI (n / 2 ^ k) := pk_ushrN hn s k hs
theorem nl4 {m v : Nat} (hm : 3 ≤ m) (h1 : 1 ≤ v) (h2 : v < 16) : ∃ r, r ≤ 3 ∧ 2 ^ r ≤ v ∧ v < 2 ^ (r + 1) ∧ nl_4 (nI m) (nI v) = nI (m - r) := by
  unfold nl_4
  by_cases h : v < 4
  · rw [if_pos (show nI v < 4 from nI_lt (b := 4) h (by decide)), us_n (by omega) 1 1 (by decide), pk_sub (by omega)]
    rcases (show v = 1 ∨ v = 2 ∨ v = 3 by omega) with rfl | rfl | rfl
    · exact ⟨0, by decide, by decide, by decide, rfl⟩
    · exact ⟨1, by decide, by decide, by decide, rfl⟩
    · exact ⟨1, by decide, by decide, by decide, rfl⟩
  · rw [if_neg (show ¬ nI v < 4 from nI_nlt (b := 4) (by omega) (by omega)), us_n (by omega) 2 2 (by decide), us_n (by omega) 1 1 (by decide), nI_neg (k := 2) (by decide) (by omega), pk_sub (by omega)]
    have hv : v / 2 ^ 2 = 1 ∨ v / 2 ^ 2 = 2 ∨ v / 2 ^ 2 = 3 := by omega
    rcases hv with e | e | e
    · exact ⟨2, by decide, by omega, by omega, by rw [e]; rfl⟩
    · exact ⟨3, by decide, by omega, by omega, by rw [e]; congr 1⟩
    · exact ⟨3, by decide, by omega, by omega, by rw [e]; congr 1⟩
theorem nl16 {m v : Nat} (hm : 7 ≤ m) (h1 : 1 ≤ v) (h2 : v < 256) : ∃ r, r ≤ 7 ∧ 2 ^ r ≤ v ∧ v < 2 ^ (r + 1) ∧ nl_16 (nI m) (nI v) = nI (m - r) := by
  unfold nl_16
  by_cases h : v < 16
  · rw [if_pos (show nI v < 16 from nI_lt (b := 16) h (by decide))]
    obtain ⟨r, a, b, c, d⟩ := nl4 (m := m) (by omega) h1 h
    exact ⟨r, by omega, b, c, d⟩
  · rw [if_neg (show ¬ nI v < 16 from nI_nlt (b := 16) (by omega) (by omega)), us_n (by omega) 4 4 (by decide), nI_neg (k := 4) (by decide) (by omega)]
    obtain ⟨r, a, b, c, d⟩ := nl4 (m := m - 4) (v := v / 2 ^ 4) (by omega) (by omega) (by omega)
    obtain ⟨e, f⟩ := up_pw b c
    exact ⟨4 + r, by omega, e, f, by rw [d]; congr 1; omega⟩
theorem nl256 {m v : Nat} (hm : 15 ≤ m) (h1 : 1 ≤ v) (h2 : v < 65536) : ∃ r, r ≤ 15 ∧ 2 ^ r ≤ v ∧ v < 2 ^ (r + 1) ∧ nl_256 (nI m) (nI v) = nI (m - r) := by
  unfold nl_256
  by_cases h : v < 256
  · rw [if_pos (show nI v < 256 from nI_lt (b := 256) h (by decide))]
    obtain ⟨r, a, b, c, d⟩ := nl16 (m := m) (by omega) h1 h
    exact ⟨r, by omega, b, c, d⟩
  · rw [if_neg (show ¬ nI v < 256 from nI_nlt (b := 256) (by omega) (by omega)), us_n (by omega) 8 8 (by decide), nI_neg (k := 8) (by decide) (by omega)]
    obtain ⟨r, a, b, c, d⟩ := nl16 (m := m - 8) (v := v / 2 ^ 8) (by omega) (by omega) (by omega)
    obtain ⟨e, f⟩ := up_pw b c
    exact ⟨8 + r, by omega, e, f, by rw [d]; congr 1; omega⟩
theorem nl6 {v : Nat} (h1 : 1 ≤ v) (h2 : v < 2 ^ 32) : ∃ r, r ≤ 31 ∧ 2 ^ r ≤ v ∧ v < 2 ^ (r + 1) ∧ fJ6_numberOfLeadingZeros (nI v) = nI (31 - r) := by
  unfold fJ6_numberOfLeadingZeros
  by_cases hs : v < 2 ^ 31
  · rw [if_pos (show (0 : Int32) < nI v by rw [← nI_0]; exact nI_lt h1 hs)]
    unfold nl_65536
    by_cases h : v < 65536
    · rw [if_pos (show nI v < 65536 from nI_lt (b := 65536) h (by decide))]
      obtain ⟨r, a, b, c, d⟩ := nl256 (m := 31) (by omega) h1 h
      exact ⟨r, by omega, b, c, d⟩
    · rw [if_neg (show ¬ nI v < 65536 from nI_nlt (b := 65536) (by omega) hs), us_n h2 16 16 (by decide), show (31 : Int32) + (-16) = nI 15 by decide]
      obtain ⟨r, a, b, c, d⟩ := nl256 (m := 15) (v := v / 2 ^ 16) (by omega) (by omega) (by omega)
      obtain ⟨e, f⟩ := up_pw b c
      exact ⟨16 + r, by omega, e, f, by rw [d]; congr 1; omega⟩
  · have hng : ¬ (0 : Int32) < nI v := by
      rw [Int32.lt_iff_toInt_lt]
      have e : (nI v).toInt = (v : Int) - 2 ^ 32 := by
        have e1 : (nI v).toInt = (nI v).toBitVec.toInt := rfl
        rw [e1, BitVec.toInt_eq_toNat_cond, pk_tn h2, if_neg (by omega)]
        rfl
      rw [e]
      have e0 : (0 : Int32).toInt = 0 := rfl
      omega
    rw [if_neg hng, if_neg (nI_z h2 (by omega))]
    exact ⟨31, by decide, by omega, by omega, rfl⟩
theorem nl7 {n : Nat} (h0 : 0 < n) (hn : n < 2 ^ 64) : ∃ r, r ≤ 63 ∧ 2 ^ r ≤ n ∧ n < 2 ^ (r + 1) ∧ fJ7_numberOfLeadingZeros (lN n) = nI (63 - r) := by
  unfold fJ7_numberOfLeadingZeros
  rw [show (32 : Int32) = nI 32 from rfl, wb_shr hn (by decide), lN_i, lN_i]
  by_cases h : n < 2 ^ 32
  · rw [show n / 2 ^ 32 = 0 by omega, if_pos nI_0]
    obtain ⟨r, a, b, c, d⟩ := nl6 (v := n) h0 h
    exact ⟨r, by omega, b, c, by rw [d, nI_add]; congr 1; omega⟩
  · rw [if_neg (nI_z (show n / 2 ^ 32 < 2 ^ 32 by omega) (by omega))]
    obtain ⟨r, a, b, c, d⟩ := nl6 (v := n / 2 ^ 32) (by omega) (by omega)
    obtain ⟨e, f⟩ := up_pw b c
    exact ⟨32 + r, by omega, e, f, by rw [d]; congr 1; omega⟩
theorem hi_bit {n r : Nat} (h1 : 2 ^ r ≤ n) (h2 : n < 2 ^ (r + 1)) : n.testBit r = true ∧ ∀ k, r < k → n.testBit k = false := by
  refine ⟨?_, fun k hk => Nat.testBit_lt_two_pow (Nat.lt_of_lt_of_le h2 (Nat.pow_le_pow_right (by decide) hk))⟩
  have hp : 0 < 2 ^ r := Nat.two_pow_pos r
  have e : n / 2 ^ r = 1 := by
    apply Nat.div_eq_of_lt_le
    · rw [Nat.one_mul]
      exact h1
    · rw [Nat.pow_succ] at h2
      rw [show (1 + 1) * 2 ^ r = 2 ^ r * 2 by omega]
      exact h2
  rw [Nat.testBit_eq_decide_div_mod_eq, e]
  rfl
theorem nl_ok {x : Int64} (h : ¬ x = 0) : ∃ r, r < 64 ∧ bl x r = true ∧ (∀ k, r < k → bl x k = false) ∧ fJ7_numberOfLeadingZeros x = nI (63 - r) := by
  obtain ⟨n, hn, rfl⟩ := wb_of x
  have h0 : 0 < n := by
    rcases Nat.eq_zero_or_pos n with e | e
    · subst e
      exact absurd rfl h
    · exact e
  obtain ⟨r, a, b, c, d⟩ := nl7 h0 hn
  obtain ⟨e, f⟩ := hi_bit b c
  exact ⟨r, by omega, by rw [bl_lt hn]; exact e, fun k hk => by rw [bl_lt hn]; exact f k hk, d⟩
/-! first and last -/
def fpv (c : Bool) : Int64 := if c = true then -1 else 0
theorem fpv_b (c : Bool) {k : Nat} (hk : k < 64) : bl (fpv c) k = c := by
  unfold fpv
  cases c with
  | false => exact bl_0 k
  | true => exact bl_m1 hk
theorem ff_bit (w : Nat → Int64) (c : Bool) (p i : Nat) {k : Nat} (hp : p ≤ 4001) (hi : i < 63) (hk : k < 64) : bl (ffW w (nI p) (fpv c) i) k = ((rb w (64 * i + k) ^^ c) && decide (p ≤ 64 * i + k)) := by
  unfold ffW
  rw [bl_and, bl_xor, fpv_b c hk, bl_not _ hk, lb64 p i (by omega) hi hk, rb_at w i hk]
  congr 1
  by_cases h : 64 * i + k < p
  · rw [decide_eq_true h, decide_eq_false (by omega)]
    rfl
  · rw [decide_eq_false h, decide_eq_true (by omega)]
    rfl
theorem lu_bit (w : Nat → Int64) (c : Bool) (p i : Nat) {k : Nat} (hp : p ≤ 4001) (hi : i < 63) (hk : k < 64) : bl (luW w (nI p) (fpv c) i) k = ((rb w (64 * i + k) ^^ c) && decide (64 * i + k ≤ p)) := by
  unfold luW
  rw [bl_and, bl_xor, fpv_b c hk, nI_1, lb64 (p + 1) i (by omega) hi hk, rb_at w i hk]
  congr 1
  by_cases h : 64 * i + k ≤ p
  · rw [decide_eq_true h, decide_eq_true (by omega)]
  · rw [decide_eq_false h, decide_eq_false (by omega)]
def fpF (g : Nat → Bool) (p : Nat) (r : Int32) : Prop := (∃ K, p ≤ K ∧ K < 4032 ∧ g K = true ∧ (∀ k, p ≤ k → k < K → g k = false) ∧ r = nI K) ∨ ((∀ k, p ≤ k → k < 4032 → g k = false) ∧ r = -1)
def fpL (g : Nat → Bool) (p : Nat) (r : Int32) : Prop := (∃ K, K ≤ p ∧ K < 4032 ∧ g K = true ∧ (∀ k, K < k → k ≤ p → k < 4032 → g k = false) ∧ r = nI K) ∨ ((∀ k, k ≤ p → k < 4032 → g k = false) ∧ r = -1)
theorem tf_ {b : Bool} (h1 : b = true) (h2 : b = false) : False := by
  rw [h1] at h2
  cases h2
theorem fpF_u {g : Nat → Bool} {p : Nat} {r q : Int32} (h : fpF g p r) (k : fpF g p q) : r = q := by
  rcases h with ⟨K, a1, a2, a3, a4, rfl⟩ | ⟨a4, rfl⟩
  · rcases k with ⟨L, b1, b2, b3, b4, rfl⟩ | ⟨b4, rfl⟩
    · rcases Nat.lt_trichotomy K L with h | h | h
      · exact (tf_ a3 (b4 K a1 h)).elim
      · rw [h]
      · exact (tf_ b3 (a4 L b1 h)).elim
    · exact (tf_ a3 (b4 K a1 a2)).elim
  · rcases k with ⟨L, b1, b2, b3, b4, rfl⟩ | ⟨b4, rfl⟩
    · exact (tf_ b3 (a4 L b1 b2)).elim
    · rfl
theorem fpL_u {g : Nat → Bool} {p : Nat} {r q : Int32} (h : fpL g p r) (k : fpL g p q) : r = q := by
  rcases h with ⟨K, a1, a2, a3, a4, rfl⟩ | ⟨a4, rfl⟩
  · rcases k with ⟨L, b1, b2, b3, b4, rfl⟩ | ⟨b4, rfl⟩
    · rcases Nat.lt_trichotomy K L with h | h | h
      · exact (tf_ b3 (a4 L h b1 b2)).elim
      · rw [h]
      · exact (tf_ a3 (b4 K h a1 a2)).elim
    · exact (tf_ a3 (b4 K a1 a2)).elim
  · rcases k with ⟨L, b1, b2, b3, b4, rfl⟩ | ⟨b4, rfl⟩
    · exact (tf_ b3 (a4 L b1 b2)).elim
    · rfl
theorem sp64 (K : Nat) (h : K < 4032) : ∃ i k, i < 63 ∧ k < 64 ∧ K = 64 * i + k := ⟨K / 64, K % 64, by omega, by omega, by omega⟩
theorem a_f {b d : Bool} (h : (b && d) = false) (hd : d = true) : b = false := by
  rw [hd, Bool.and_true] at h
  exact h
theorem ff_ok {w : Nat → Int64} {c : Bool} {p : Nat} {r : Int32} (hp : p ≤ 4001) (h : pFF w (nI p) (fpv c) r) : fpF (fun k => rb w k ^^ c) p r := by
  have zero : ∀ i, i < 63 → ffW w (nI p) (fpv c) i = 0 → ∀ k, k < 64 → p ≤ 64 * i + k → (rb w (64 * i + k) ^^ c) = false := by
    intro i hi h0 k hk hle
    have e := ff_bit w c p i hp hi hk
    rw [h0, bl_0] at e
    exact a_f e.symm (decide_eq_true hle)
  rcases h with ⟨i, hi, hz, hne, rfl⟩ | ⟨hz, rfl⟩
  · obtain ⟨q, hq, b1, b2, b3, -⟩ := nt_ok hne
    rw [ff_bit w c p i hp hi hq, Bool.and_eq_true] at b1
    refine Or.inl ⟨64 * i + q, of_decide_eq_true b1.2, by omega, b1.1, ?_, ?_⟩
    · intro k h1 h2
      obtain ⟨i2, k2, g1, g2, rfl⟩ := sp64 k (by omega)
      by_cases hii : i2 < i
      · exact zero i2 g1 (hz i2 hii) k2 g2 h1
      · obtain rfl : i2 = i := by omega
        have e := ff_bit w c p i2 hp g1 g2
        rw [b2 k2 (by omega)] at e
        exact a_f e.symm (decide_eq_true h1)
    · rw [b3, show (64 : Int32) = nI 64 from rfl, pk_mul, nI_add]
  · refine Or.inr ⟨fun k h1 h2 => ?_, rfl⟩
    obtain ⟨i2, k2, g1, g2, rfl⟩ := sp64 k h2
    exact zero i2 g1 (hz i2 g1) k2 g2 h1
theorem lu_ok {w : Nat → Int64} {c : Bool} {p : Nat} {r : Int32} (hp : p ≤ 4001) (h : pLU w (nI p) (fpv c) r) : fpL (fun k => rb w k ^^ c) p r := by
  have zero : ∀ i, i < 63 → luW w (nI p) (fpv c) i = 0 → ∀ k, k < 64 → 64 * i + k ≤ p → (rb w (64 * i + k) ^^ c) = false := by
    intro i hi h0 k hk hle
    have e := lu_bit w c p i hp hi hk
    rw [h0, bl_0] at e
    exact a_f e.symm (decide_eq_true hle)
  rcases h with ⟨i, hi, hz, hne, rfl⟩ | ⟨hz, rfl⟩
  · obtain ⟨q, hq, b1, b2, b3⟩ := nl_ok hne
    rw [lu_bit w c p i hp hi hq, Bool.and_eq_true] at b1
    refine Or.inl ⟨64 * i + q, of_decide_eq_true b1.2, by omega, b1.1, ?_, ?_⟩
    · intro k h1 h2 h3
      obtain ⟨i2, k2, g1, g2, rfl⟩ := sp64 k h3
      by_cases hii : i < i2
      · exact zero i2 g1 (hz i2 hii g1) k2 g2 h2
      · obtain rfl : i2 = i := by omega
        have e := lu_bit w c p i2 hp g1 g2
        rw [b2 k2 (by omega)] at e
        exact a_f e.symm (decide_eq_true h2)
    · rw [b3, show (64 : Int32) = nI 64 from rfl, show (63 : Int32) = nI 63 from rfl, pk_mul, nI_add, pk_sub (by omega)]
      congr 1
      omega
  · refine Or.inr ⟨fun k h1 h2 => ?_, rfl⟩
    obtain ⟨i2, k2, g1, g2, rfl⟩ := sp64 k h2
    exact zero i2 g1 (hz i2 g1) k2 g2 h1
/-! what the changes do to the bits -/
theorem rb_fl (F g : Nat → Int64) {k : Nat} (hk : k < 4032) : rb (fl F g 63) k = bl (F (k / 64)) (k % 64) := by
  unfold rb
  rw [fl_lt _ _ (by omega)]
def chB (what : Int32) (old : Bool) : Bool := if what = 0 then false else if what = 1 then true else !old
theorem ch_bit (w : Nat → Int64) (p0 : Int32) (a b : Nat) (ha : a ≤ 4001) (hb : b ≤ 4001) {k : Nat} (hk : k < 4032) : rb (fl (chW w p0 (nI a) (nI b)) w 63) k = if a ≤ k ∧ k < b then chB p0 (rb w k) else rb w k := by
  rw [rb_fl _ _ hk]
  obtain ⟨i, q, hi, hq, rfl⟩ := sp64 k hk
  rw [show (64 * i + q) / 64 = i by omega, show (64 * i + q) % 64 = q by omega, rb_at w i hq]
  have hm := mk_bit a b i (by omega) (by omega) hi hq
  unfold chW fX0_changed chB
  by_cases h0 : p0 = 0
  · rw [if_pos h0, if_pos h0, bl_and, bl_not _ hq, hm]
    by_cases h : a ≤ 64 * i + q ∧ 64 * i + q < b
    · rw [if_pos h, decide_eq_true h.2, decide_eq_false (by omega)]
      simp
    · rw [if_neg h]
      by_cases h1 : 64 * i + q < b
      · rw [decide_eq_true h1, decide_eq_true (show 64 * i + q < a by omega)]
        simp
      · rw [decide_eq_false h1]
        simp
  · rw [if_neg h0, if_neg h0]
    by_cases h1 : p0 = 1
    · rw [if_pos h1, if_pos h1, bl_or, hm]
      by_cases h : a ≤ 64 * i + q ∧ 64 * i + q < b
      · rw [if_pos h, decide_eq_true h.2, decide_eq_false (by omega)]
        simp
      · rw [if_neg h]
        by_cases h1 : 64 * i + q < b
        · rw [decide_eq_true h1, decide_eq_true (show 64 * i + q < a by omega)]
          simp
        · rw [decide_eq_false h1]
          simp
    · rw [if_neg h1, if_neg h1, bl_xor, hm]
      by_cases h : a ≤ 64 * i + q ∧ 64 * i + q < b
      · rw [if_pos h, decide_eq_true h.2, decide_eq_false (by omega)]
        simp
      · rw [if_neg h]
        by_cases h1 : 64 * i + q < b
        · rw [decide_eq_true h1, decide_eq_true (show 64 * i + q < a by omega)]
          simp
        · rw [decide_eq_false h1]
          simp
def cbB (op : Int32) (x y : Bool) : Bool := if op = 0 then (x && y) else if op = 1 then (x || y) else if op = 2 then (x ^^ y) else (x && !y)
theorem cb_bit (w v : Nat → Int64) (p0 : Int32) {k : Nat} (hk : k < 4032) : rb (fl (cbW w v p0) w 63) k = cbB p0 (rb w k) (rb v k) := by
  rw [rb_fl _ _ hk]
  obtain ⟨i, q, hi, hq, rfl⟩ := sp64 k hk
  rw [show (64 * i + q) / 64 = i by omega, show (64 * i + q) % 64 = q by omega, rb_at w i hq, rb_at v i hq]
  unfold cbW fX0_combined cbB
  by_cases h0 : p0 = 0
  · rw [if_pos h0, if_pos h0, bl_and]
  · rw [if_neg h0, if_neg h0]
    by_cases h1 : p0 = 1
    · rw [if_pos h1, if_pos h1, bl_or]
    · rw [if_neg h1, if_neg h1]
      by_cases h2 : p0 = 2
      · rw [if_pos h2, if_pos h2, bl_xor]
      · rw [if_neg h2, if_neg h2, bl_and, bl_not _ hq]
/-- bit q of a row, nothing behind 4032 -/
def rz (w : Nat → Int64) (q : Nat) : Bool := decide (q < 4032) && rb w q
theorem wa_n (w : Nat → Int64) {n : Nat} (h : n < 2 ^ 30) : fX0_wordAt w (nI n) = if n < 63 then w n else 0 := by
  unfold fX0_wordAt
  rw [if_neg (nI_pos (by omega))]
  by_cases c : n < 63
  · rw [if_neg (show ¬ (63 : Int32) ≤ nI n from nI_ge (b := 63) c (by decide)), if_pos c, nI_clamp (by omega)]
  · rw [if_pos (show (63 : Int32) ≤ nI n from nI_le (a := 63) (by omega) (by omega)), if_neg c]
theorem wa_b (w : Nat → Int64) {n k : Nat} (h : n < 2 ^ 30) (hk : k < 64) : bl (fX0_wordAt w (nI n)) k = rz w (64 * n + k) := by
  rw [wa_n w h]
  unfold rz
  by_cases c : n < 63
  · rw [if_pos c, decide_eq_true (by omega), rb_at w n hk]
    rfl
  · rw [if_neg c, decide_eq_false (by omega), bl_0]
    rfl
theorem bf_bit (w : Nat → Int64) {p k : Nat} (hp : p < 2 ^ 20) (hk : k < 64) : bl (fX0_bitsFrom w (nI p)) k = rz w (p + k) := by
  have e6 : nI p >>> ((6 : Int32) &&& 31) = nI (p / 2 ^ 6) := pk_shrN (by omega) _ 6 (by decide)
  have em : nI p &&& 63 = nI (p % 2 ^ 6) := pk_andN (by omega) 6 (by decide)
  unfold fX0_bitsFrom
  rw [e6, em]
  by_cases h : p % 2 ^ 6 = 0
  · rw [if_pos (by rw [h]; rfl), wa_b w (by omega) hk]
    congr 1
    omega
  · rw [if_neg (nI_ne0 (by omega) (by omega)), bl_or, bl_shr (by omega), show (64 : Int32) = nI 64 from rfl, pk_sub (by omega), bl_shl (by omega) _ hk, nI_1]
    by_cases c : p % 2 ^ 6 + k < 64
    · rw [decide_eq_false (show ¬ 64 - p % 2 ^ 6 ≤ k by omega), Bool.false_and, Bool.or_false, wa_b w (by omega) c]
      congr 1
      omega
    · rw [bl_big (show 64 ≤ p % 2 ^ 6 + k by omega), Bool.false_or, decide_eq_true (show 64 - p % 2 ^ 6 ≤ k by omega), Bool.true_and, wa_b w (by omega) (by omega)]
      congr 1
      omega
theorem tp_bit (w v : Nat → Int64) (a b : Nat) (hab : a ≤ b) (hb : b ≤ 4001) {k : Nat} (hk : k < 4032) : rb (fl (tpW v (nI a) (nI b)) w 63) k = (decide (k < b - a) && rz v (a + k)) := by
  rw [rb_fl _ _ hk]
  obtain ⟨i, q, hi, hq, rfl⟩ := sp64 k hk
  rw [show (64 * i + q) / 64 = i by omega, show (64 * i + q) % 64 = q by omega]
  unfold tpW
  rw [show (nI b - nI a - 64 * nI i) = nI (b - a) - 64 * nI i by rw [pk_sub hab], bl_and, lb64 (b - a) i (by omega) hi hq, show (64 : Int32) = nI 64 from rfl, pk_mul, nI_add, bf_bit v (by omega) hq, Bool.and_comm]
  congr 2
  omega
theorem wd_eq {w v : Nat → Int64} (h : ∀ k, k < 4032 → rb w k = rb v k) : ∀ i, i < 63 → w i = v i := by
  intro i hi
  apply bl_ext
  intro q hq
  have := h (64 * i + q) (by omega)
  rw [rb_at w i hq, rb_at v i hq] at this
  exact this
