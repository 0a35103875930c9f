theorem nx_and (a b : Nat) : nI a &&& nI b = nI (a &&& b) := by
  apply Int32.toBitVec_inj.1
  show BitVec.ofNat 32 a &&& BitVec.ofNat 32 b = BitVec.ofNat 32 (a &&& b)
  apply BitVec.eq_of_getLsbD_eq
  intro i hi
  simp [hi]
theorem nx_xor (a b : Nat) : nI a ^^^ nI b = nI (a ^^^ b) := by
  apply Int32.toBitVec_inj.1
  show BitVec.ofNat 32 a ^^^ BitVec.ofNat 32 b = BitVec.ofNat 32 (a ^^^ b)
  apply BitVec.eq_of_getLsbD_eq
  intro i hi
  simp [hi]
theorem wb_tb (n : Nat) : (lN n).toBitVec = BitVec.ofNat 64 n := rfl
theorem wb_inj {a b : Int64} (h : a.toBitVec = b.toBitVec) : a = b := Int64.toBitVec_inj.mp h
theorem wb_tn {n : Nat} (h : n < 2 ^ 64) : (lN n).toBitVec.toNat = n := by rw [wb_tb, BitVec.toNat_ofNat, Nat.mod_eq_of_lt h]
theorem wb_of (x : Int64) : ∃ n, n < 2 ^ 64 ∧ x = lN n := ⟨x.toBitVec.toNat, x.toBitVec.isLt, wb_inj (by rw [wb_tb]; simp)⟩
theorem wb_of32 (x : Int32) : ∃ n, n < 2 ^ 32 ∧ x = nI n := ⟨x.toBitVec.toNat, x.toBitVec.isLt, Int32.toBitVec_inj.mp (by show _ = BitVec.ofNat 32 _; simp)⟩
theorem wb_c : ∀ k, k < 64 → ((nI k).toInt64 &&& 63) = lN k := by decide +kernel
theorem wb_cu : ∀ k, k < 64 → ((nI k).toInt64.toUInt64 &&& Int64.toUInt64 63) = UInt64.ofNat k := by decide +kernel
theorem wb_sm : ∀ k, k < 64 → (BitVec.ofNat 64 k).smod 64 = BitVec.ofNat 64 k := by decide +kernel
theorem wb_pw {a b : Nat} (h : a ≤ b) : 2 ^ b = 2 ^ a * 2 ^ (b - a) := by rw [← Nat.pow_add]; congr 1; omega
theorem wb_lt2 {a b : Nat} (h : a < b) : 2 ^ a < 2 ^ b := Nat.pow_lt_pow_right (by decide) h
theorem wb_mod (n : Nat) : lN n = lN (n % 2 ^ 64) := wb_inj (by rw [wb_tb, wb_tb]; apply BitVec.eq_of_toNat_eq; rw [BitVec.toNat_ofNat, BitVec.toNat_ofNat, Nat.mod_mod])
theorem wb_shr {n k : Nat} (hn : n < 2 ^ 64) (hk : k < 64) : ((lN n).toUInt64 >>> ((nI k).toInt64.toUInt64 &&& Int64.toUInt64 63)).toInt64 = lN (n / 2 ^ k) := by
  rw [wb_cu k hk]
  apply wb_inj
  apply BitVec.eq_of_toNat_eq
  show ((lN n).toUInt64 >>> UInt64.ofNat k).toNat = (BitVec.ofNat 64 _).toNat
  have h1 : (UInt64.ofNat k).toNat = k := by
    show (BitVec.ofNat 64 k).toNat = k
    rw [BitVec.toNat_ofNat, Nat.mod_eq_of_lt (by omega)]
  have h2 : (lN n).toUInt64.toNat = n := wb_tn hn
  rw [UInt64.toNat_shiftRight, h1, h2, Nat.mod_eq_of_lt hk, Nat.shiftRight_eq_div_pow, BitVec.toNat_ofNat, Nat.mod_eq_of_lt (Nat.lt_of_le_of_lt (Nat.div_le_self _ _) hn)]
theorem wb_shl (n : Nat) {k : Nat} (hk : k < 64) : lN n <<< ((nI k).toInt64 &&& 63) = lN (n * 2 ^ k) := by
  rw [wb_c k hk]
  apply wb_inj
  rw [Int64.toBitVec_shiftLeft, wb_tb, wb_tb, wb_tb, wb_sm k hk]
  apply BitVec.eq_of_toNat_eq
  rw [BitVec.shiftLeft_eq', BitVec.toNat_shiftLeft, BitVec.toNat_ofNat, BitVec.toNat_ofNat, BitVec.toNat_ofNat, Nat.mod_eq_of_lt (show k < 2 ^ 64 by omega), Nat.shiftLeft_eq, Nat.mul_mod, Nat.mod_mod, ← Nat.mul_mod]
theorem wb_and {a b : Nat} (ha : a < 2 ^ 64) (hb : b < 2 ^ 64) : lN a &&& lN b = lN (a &&& b) := by
  apply wb_inj
  rw [Int64.toBitVec_and, wb_tb, wb_tb, wb_tb]
  apply BitVec.eq_of_toNat_eq
  rw [BitVec.toNat_and, BitVec.toNat_ofNat, BitVec.toNat_ofNat, BitVec.toNat_ofNat, Nat.mod_eq_of_lt ha, Nat.mod_eq_of_lt hb, Nat.mod_eq_of_lt (Nat.and_lt_two_pow _ hb)]
theorem wb_or {a b : Nat} (ha : a < 2 ^ 64) (hb : b < 2 ^ 64) : lN a ||| lN b = lN (a ||| b) := by
  apply wb_inj
  rw [Int64.toBitVec_or, wb_tb, wb_tb, wb_tb]
  apply BitVec.eq_of_toNat_eq
  rw [BitVec.toNat_or, BitVec.toNat_ofNat, BitVec.toNat_ofNat, BitVec.toNat_ofNat, Nat.mod_eq_of_lt ha, Nat.mod_eq_of_lt hb, Nat.mod_eq_of_lt (Nat.or_lt_two_pow ha hb)]
theorem wb_mask {n k : Nat} (hn : n < 2 ^ 64) (hk : k < 64) : lN n &&& lN (2 ^ k - 1) = lN (n % 2 ^ k) := by
  rw [wb_and hn (by have := wb_lt2 hk; omega), Nat.and_two_pow_sub_one_eq_mod]
theorem wb_a1 {n : Nat} (hn : n < 2 ^ 64) : lN n &&& 1 = lN (n % 2) := wb_mask (k := 1) hn (by decide)
theorem wb_bit {n k : Nat} (hn : n < 2 ^ 64) (hk : k < 64) : ((lN n).toUInt64 >>> ((nI k).toInt64.toUInt64 &&& Int64.toUInt64 63)).toInt64 &&& 1 = lN (n / 2 ^ k % 2) := by
  rw [wb_shr hn hk, wb_a1 (Nat.lt_of_le_of_lt (Nat.div_le_self _ _) hn)]
theorem wb_xor {q k : Nat} (hk : k < 63) (h : 2 ^ k ≤ q) (h2 : q < 2 ^ (k + 1)) : lN q ^^^ lN (2 ^ k) = lN (q - 2 ^ k) := by
  obtain ⟨r, rfl⟩ : ∃ r, q = 2 ^ k + r := ⟨q - 2 ^ k, by omega⟩
  have hr : r < 2 ^ k := by rw [Nat.pow_succ] at h2; omega
  have hx : (2 ^ k + r) ^^^ 2 ^ k = r := by
    apply Nat.eq_of_testBit_eq
    intro i
    rw [Nat.testBit_xor, Nat.testBit_two_pow]
    rcases Nat.lt_trichotomy i k with h | h | h
    · rw [Nat.testBit_two_pow_add_gt h]
      simp [show ¬ k = i by omega]
    · subst h
      rw [Nat.testBit_two_pow_add_eq]
      simp
    · have a1 : 2 ^ (k + 1) ≤ 2 ^ i := Nat.pow_le_pow_right (by decide) h
      rw [Nat.testBit_lt_two_pow (show 2 ^ k + r < 2 ^ i by omega), Nat.testBit_lt_two_pow (show r < 2 ^ i by omega)]
      simp [show ¬ k = i by omega]
  have b1 := wb_lt2 (show k + 1 < 64 by omega)
  have b2 := wb_lt2 (show k < 64 by omega)
  apply wb_inj
  rw [Int64.toBitVec_xor, wb_tb, wb_tb, wb_tb]
  apply BitVec.eq_of_toNat_eq
  rw [BitVec.toNat_xor, BitVec.toNat_ofNat, BitVec.toNat_ofNat, BitVec.toNat_ofNat, Nat.mod_eq_of_lt (by omega : 2 ^ k + r < 2 ^ 64), Nat.mod_eq_of_lt b2, hx, Nat.add_sub_cancel_left, Nat.mod_eq_of_lt (by omega)]
/-! how many bits: sums of digits -/
theorem and_sp {s a b x y : Nat} (ha : a < 2 ^ s) (hb : b < 2 ^ s) : (2 ^ s * x + a) &&& (2 ^ s * y + b) = 2 ^ s * (x &&& y) + (a &&& b) := by
  apply Nat.eq_of_testBit_eq
  intro j
  rw [Nat.testBit_and, Nat.testBit_two_pow_mul_add _ ha, Nat.testBit_two_pow_mul_add _ hb, Nat.testBit_two_pow_mul_add _ (Nat.lt_of_le_of_lt Nat.and_le_left ha)]
  split
  · rw [Nat.testBit_and]
  · rw [Nat.testBit_and]
/-- the sum of m digits of n, base B -/
def sd (B : Nat) : Nat → Nat → Nat
  | 0, _ => 0
  | m + 1, n => n % B + sd B m (n / B)
/-- the mask of the even digits, base 2^t, of m pairs -/
def ev (t : Nat) : Nat → Nat
  | 0 => 0
  | m + 1 => 2 ^ (2 * t) * ev t m + (2 ^ t - 1)
/-- pairs of digits added -/
def fP (t m n : Nat) : Nat := (n &&& ev t m) + (n / 2 ^ t &&& ev t m)
theorem p2t (t : Nat) : 2 ^ (2 * t) = 2 ^ t * 2 ^ t := by
  rw [← Nat.pow_add]
  congr 1
  omega
theorem ev_lo (t m n : Nat) : n &&& ev t (m + 1) = 2 ^ (2 * t) * (n / 2 ^ (2 * t) &&& ev t m) + n % 2 ^ t := by
  have h1 : 0 < 2 ^ t := Nat.two_pow_pos t
  have h2 : 2 ^ t ≤ 2 ^ (2 * t) := Nat.pow_le_pow_right (by decide) (by omega)
  have h3 : n % 2 ^ (2 * t) < 2 ^ (2 * t) := Nat.mod_lt _ (by omega)
  have e : n = 2 ^ (2 * t) * (n / 2 ^ (2 * t)) + n % 2 ^ (2 * t) := (Nat.div_add_mod _ _).symm
  have e2 : n % 2 ^ (2 * t) % 2 ^ t = n % 2 ^ t := Nat.mod_mod_of_dvd _ ⟨2 ^ t, p2t t⟩
  have k : n &&& ev t (m + 1) = (2 ^ (2 * t) * (n / 2 ^ (2 * t)) + n % 2 ^ (2 * t)) &&& (2 ^ (2 * t) * ev t m + (2 ^ t - 1)) := by
    rw [← e]
    rfl
  rw [k, and_sp h3 (by omega), Nat.and_two_pow_sub_one_eq_mod, e2]
theorem dv2 (t n : Nat) : n / 2 ^ t / 2 ^ (2 * t) = n / 2 ^ (2 * t) / 2 ^ t := by
  rw [Nat.div_div_eq_div_mul, Nat.div_div_eq_div_mul, Nat.mul_comm]
theorem fP_s (t m n : Nat) : fP t (m + 1) n = 2 ^ (2 * t) * fP t m (n / 2 ^ (2 * t)) + (n % 2 ^ t + n / 2 ^ t % 2 ^ t) := by
  unfold fP
  rw [ev_lo, ev_lo, dv2, Nat.mul_add]
  omega
theorem dg_lt {t : Nat} (ht : 0 < t) (n : Nat) : n % 2 ^ t + n / 2 ^ t % 2 ^ t < 2 ^ (2 * t) := by
  have h1 : 2 ≤ 2 ^ t := by
    have := Nat.pow_le_pow_right (n := 2) (by decide) ht
    exact this
  have h3 : n % 2 ^ t < 2 ^ t := Nat.mod_lt _ (by omega)
  have h4 : n / 2 ^ t % 2 ^ t < 2 ^ t := Nat.mod_lt _ (by omega)
  have h5 : 2 * 2 ^ t ≤ 2 ^ t * 2 ^ t := Nat.mul_le_mul_right _ h1
  rw [p2t]
  omega
theorem sd_P {t : Nat} (ht : 0 < t) : ∀ m n, sd (2 ^ (2 * t)) m (fP t m n) = sd (2 ^ t) (2 * m) n := by
  intro m
  induction m with
  | zero => exact fun n => rfl
  | succ m ih =>
    intro n
    have h := dg_lt ht n
    have e1 : fP t (m + 1) n % 2 ^ (2 * t) = n % 2 ^ t + n / 2 ^ t % 2 ^ t := by
      rw [fP_s, Nat.mul_add_mod, Nat.mod_eq_of_lt h]
    have e2 : fP t (m + 1) n / 2 ^ (2 * t) = fP t m (n / 2 ^ (2 * t)) := by
      rw [fP_s, Nat.mul_add_div (by omega), Nat.div_eq_of_lt h, Nat.add_zero]
    have e3 : sd (2 ^ t) (2 * (m + 1)) n = n % 2 ^ t + (n / 2 ^ t % 2 ^ t + sd (2 ^ t) (2 * m) (n / 2 ^ t / 2 ^ t)) := rfl
    show fP t (m + 1) n % 2 ^ (2 * t) + sd (2 ^ (2 * t)) m (fP t (m + 1) n / 2 ^ (2 * t)) = _
    rw [e1, e2, ih, e3, Nat.div_div_eq_div_mul, ← p2t]
    omega
/-- all m digits at most c, and nothing behind -/
def dgs (B c : Nat) : Nat → Nat → Prop
  | 0, n => n = 0
  | m + 1, n => n % B ≤ c ∧ dgs B c m (n / B)
theorem dgs_P {t c : Nat} (ht : 0 < t) (hc : 2 * (2 ^ t - 1) ≤ c) : ∀ m n, dgs (2 ^ (2 * t)) c m (fP t m n) := by
  intro m
  induction m with
  | zero =>
    intro n
    show (n &&& 0) + (n / 2 ^ t &&& 0) = 0
    rw [Nat.and_zero, Nat.and_zero]
  | succ m ih =>
    intro n
    have h := dg_lt ht n
    have h0 : 0 < 2 ^ t := Nat.two_pow_pos t
    have h3 : n % 2 ^ t < 2 ^ t := Nat.mod_lt _ h0
    have h4 : n / 2 ^ t % 2 ^ t < 2 ^ t := Nat.mod_lt _ h0
    refine ⟨?_, ?_⟩
    · rw [fP_s, Nat.mul_add_mod, Nat.mod_eq_of_lt h]
      omega
    · rw [fP_s, Nat.mul_add_div (by omega), Nat.div_eq_of_lt h, Nat.add_zero]
      exact ih _
/-- a number is its even digits and its odd ones -/
theorem ev_all {t : Nat} : ∀ m n, n < (2 ^ (2 * t)) ^ m → (n &&& ev t m) + 2 ^ t * (n / 2 ^ t &&& ev t m) = n := by
  intro m
  induction m with
  | zero =>
    intro n h
    have : n = 0 := by
      rw [Nat.pow_zero] at h
      omega
    subst this
    simp
  | succ m ih =>
    intro n h
    have hq : n / 2 ^ (2 * t) < (2 ^ (2 * t)) ^ m := by
      rw [Nat.pow_succ] at h
      exact Nat.div_lt_of_lt_mul (by rw [Nat.mul_comm]; exact h)
    have k := ih _ hq
    rw [ev_lo, ev_lo, dv2]
    generalize n / 2 ^ (2 * t) &&& ev t m = a at k ⊢
    generalize n / 2 ^ (2 * t) / 2 ^ t &&& ev t m = b at k ⊢
    have e1 : 2 ^ (2 * t) * (n / 2 ^ (2 * t)) + n % 2 ^ (2 * t) = n := Nat.div_add_mod _ _
    have e2 : 2 ^ t * (n / 2 ^ t % 2 ^ t) + n % 2 ^ t = n % 2 ^ (2 * t) := by
      rw [p2t, Nat.mod_mul]
      omega
    have e3 : 2 ^ t * (2 ^ (2 * t) * b + n / 2 ^ t % 2 ^ t) = 2 ^ (2 * t) * (2 ^ t * b) + 2 ^ t * (n / 2 ^ t % 2 ^ t) := by
      rw [Nat.mul_add, ← Nat.mul_assoc, ← Nat.mul_assoc, Nat.mul_comm (2 ^ t) (2 ^ (2 * t))]
    rw [e3]
    have e4 : 2 ^ (2 * t) * a + 2 ^ (2 * t) * (2 ^ t * b) = 2 ^ (2 * t) * (n / 2 ^ (2 * t)) := by
      rw [← Nat.mul_add, k]
    omega
theorem ad16_h {n a q q' d0 d1 d2 : Nat} (e0 : n = 16 * a + d0) (e1 : a = 16 * q + d1) (e2 : q = 16 * q' + d2) (h0 : d0 ≤ 6) (h1 : d1 ≤ 6) (h2 : d2 ≤ 6) : (n + a) / 256 = q + q' := by omega
/-- the third step: added first, masked then -/
theorem ad16 : ∀ m n, dgs 16 6 (2 * m) n → (n + n / 16) &&& ev 4 m = fP 4 m n := by
  intro m
  induction m with
  | zero =>
    intro n h
    show (n + n / 16) &&& 0 = (n &&& 0) + (n / 2 ^ 4 &&& 0)
    rw [Nat.and_zero, Nat.and_zero, Nat.and_zero]
  | succ m ih =>
    intro n h
    obtain ⟨h0, h1, h2⟩ : n % 16 ≤ 6 ∧ n / 16 % 16 ≤ 6 ∧ dgs 16 6 (2 * m) (n / 16 / 16) := h
    have hq : n / 16 / 16 % 16 ≤ 6 := by
      cases m with
      | zero =>
        have : n / 16 / 16 = 0 := h2
        omega
      | succ m => exact h2.1
    have e8 : (2 : Nat) ^ (2 * 4) = 256 := by decide
    have e4 : (2 : Nat) ^ 4 = 16 := by decide
    have k := ih _ h2
    rw [ev_lo, fP_s, e8, e4]
    have en : n / 256 = n / 16 / 16 := by rw [Nat.div_div_eq_div_mul]
    have q1 : (n + n / 16) / 256 = n / 256 + n / 256 / 16 := by
      rw [en]
      exact ad16_h (d0 := n % 16) (d1 := n / 16 % 16) (d2 := n / 16 / 16 % 16) (by omega) (by omega) (by omega) h0 h1 hq
    have q2 : (n + n / 16) % 16 = n % 16 + n / 16 % 16 := by omega
    rw [q1, q2]
    rw [show n / 256 = n / 16 / 16 by omega, k]
/-- the last steps: 8 bytes added up -/
theorem dgs_c {m n : Nat} (h : dgs 256 12 (m + 1) n) : ∃ d q, n = 256 * q + d ∧ d ≤ 12 ∧ dgs 256 12 m q ∧ sd 256 (m + 1) n = d + sd 256 m q ∧ n / 256 = q := ⟨n % 256, n / 256, by omega, h.1, h.2, rfl, rfl⟩
theorem q1_ad {n r0 r1 r2 d0 d1 d2 : Nat} (e0 : n = 256 * r0 + d0) (e1 : r0 = 256 * r1 + d1) (e2 : r1 = 256 * r2 + d2) (h0 : d0 ≤ 12) (h1 : d1 ≤ 12) (h2 : d2 ≤ 12) : (n + r0) / 65536 = r1 + r2 := by omega
theorem q2_ad {n r0 r1 r2 r3 d0 d1 d2 d3 : Nat} (e0 : n = 256 * r0 + d0) (e1 : r0 = 256 * r1 + d1) (e2 : r1 = 256 * r2 + d2) (e3 : r2 = 256 * r3 + d3) (h0 : d0 ≤ 12) (h1 : d1 ≤ 12) (h2 : d2 ≤ 12) (h3 : d3 ≤ 12) : ∃ x, n = 4294967296 * r3 + x ∧ x ≤ 202116108 := ⟨d0 + 256 * d1 + 65536 * d2 + 16777216 * d3, by omega, by omega⟩
theorem q3_ad {a b c d x y z w p q r s : Nat} (e0 : a = 4294967296 * p + x) (e1 : b = 4294967296 * q + y) (e2 : c = 4294967296 * r + z) (e3 : d = 4294967296 * s + w) (h0 : x ≤ 202116108) (h1 : y ≤ 202116108) (h2 : z ≤ 202116108) (h3 : w ≤ 202116108) : (a + b + (c + d)) / 4294967296 = p + q + (r + s) := by omega
theorem q4_ad {N K S : Nat} (h : N = 256 * K + S) (hS : S ≤ 96) : N % 128 = S := by omega
theorem ad256 {n : Nat} (h : dgs 256 12 8 n) : (n + n / 256 + (n + n / 256) / 65536 + (n + n / 256 + (n + n / 256) / 65536) / 4294967296) % 128 = sd 256 8 n ∧ n < 2 ^ 60 ∧ sd 256 8 n ≤ 96 := by
  obtain ⟨d0, r0, e0, g0, h, s0, f0⟩ := dgs_c h
  obtain ⟨d1, r1, e1, g1, h, s1, -⟩ := dgs_c h
  obtain ⟨d2, r2, e2, g2, h, s2, -⟩ := dgs_c h
  obtain ⟨d3, r3, e3, g3, h, s3, -⟩ := dgs_c h
  obtain ⟨d4, r4, e4, g4, h, s4, -⟩ := dgs_c h
  obtain ⟨d5, r5, e5, g5, h, s5, -⟩ := dgs_c h
  obtain ⟨d6, r6, e6, g6, h, s6, -⟩ := dgs_c h
  obtain ⟨d7, r7, e7, g7, h, s7, -⟩ := dgs_c h
  have hz : r7 = 0 := h
  have hs8 : sd 256 0 r7 = 0 := rfl
  obtain ⟨x0, a0, b0⟩ := q2_ad e0 e1 e2 e3 g0 g1 g2 g3
  obtain ⟨x1, a1, b1⟩ := q2_ad e1 e2 e3 e4 g1 g2 g3 g4
  obtain ⟨x2, a2, b2⟩ := q2_ad e2 e3 e4 e5 g2 g3 g4 g5
  obtain ⟨x3, a3, b3⟩ := q2_ad e3 e4 e5 e6 g3 g4 g5 g6
  obtain ⟨x4, a4, b4⟩ := q2_ad e4 e5 e6 e7 g4 g5 g6 g7
  have eS : sd 256 8 n = d0 + d1 + d2 + d3 + d4 + d5 + d6 + d7 := by
    rw [s0, s1, s2, s3, s4, s5, s6, s7, hs8]
    clear a0 a1 a2 a3 a4 e0 e1 e2 e3 e4 e5 e6 e7
    omega
  have hS : d0 + d1 + d2 + d3 + d4 + d5 + d6 + d7 ≤ 96 := by
    clear a0 a1 a2 a3 a4 e0 e1 e2 e3 e4 e5 e6 e7
    omega
  rw [f0, q1_ad e0 e1 e2 g0 g1 g2, q3_ad a0 a1 a2 a3 b0 b1 b2 b3, eS]
  refine ⟨q4_ad (K := r0 + r1 + r2 + r3 + r4 + r5 + r6 + r7) ?_ hS, ?_, hS⟩
  · clear a0 a1 a2 a3 a4
    omega
  · have h3 : r3 ≤ 202116108 := by
      rw [hz] at a4
      clear a0 a1 a2 a3 e0 e1 e2 e3 e4 e5 e6 e7
      omega
    clear a1 a2 a3 a4 e0 e1 e2 e3 e4 e5 e6 e7
    show n < 1152921504606846976
    omega
theorem dgs_P4 : ∀ m n, dgs 16 6 (2 * m) n → dgs 256 12 m (fP 4 m n) := by
  intro m
  induction m with
  | zero =>
    intro n h
    show (n &&& 0) + (n / 2 ^ 4 &&& 0) = 0
    rw [Nat.and_zero, Nat.and_zero]
  | succ m ih =>
    intro n h
    obtain ⟨h0, h1, h2⟩ : n % 16 ≤ 6 ∧ n / 16 % 16 ≤ 6 ∧ dgs 16 6 (2 * m) (n / 16 / 16) := h
    have e8 : (2 : Nat) ^ (2 * 4) = 256 := by decide
    have e4 : (2 : Nat) ^ 4 = 16 := by decide
    have k := ih _ h2
    have ef : fP 4 (m + 1) n = 256 * fP 4 m (n / 256) + (n % 16 + n / 16 % 16) := by
      have := fP_s 4 m n
      rw [e8, e4] at this
      exact this
    refine ⟨?_, ?_⟩
    · rw [ef]
      omega
    · rw [ef, show (256 * fP 4 m (n / 256) + (n % 16 + n / 16 % 16)) / 256 = fP 4 m (n / 256) by omega, show n / 256 = n / 16 / 16 by omega]
      exact k
theorem dgs_lt : ∀ m n, dgs 16 6 m n → 15 * n + 6 ≤ 6 * 16 ^ m := by
  intro m
  induction m with
  | zero =>
    intro n h
    have : n = 0 := h
    subst this
    decide
  | succ m ih =>
    intro n h
    have k := ih _ h.2
    have h1 : n % 16 ≤ 6 := h.1
    rw [Nat.pow_succ]
    omega
theorem M1e : (6148914691236517205 : Int64) = lN (ev 1 32) := by decide +kernel
theorem M2e : (3689348814741910323 : Int64) = lN (ev 2 16) := by decide +kernel
theorem M3e : (1085102592571150095 : Int64) = lN (ev 4 8) := by decide +kernel
theorem bc1_n {n : Nat} (hn : n < 2 ^ 64) : bc1 (lN n) = lN (fP 1 32 n) := by
  have k := ev_all (t := 1) 32 n (by rw [show ((2 : Nat) ^ (2 * 1)) ^ 32 = 2 ^ 64 by decide]; exact hn)
  have e : n - (n / 2 ^ 1 &&& ev 1 32) = fP 1 32 n := by
    unfold fP
    generalize n / 2 ^ 1 &&& ev 1 32 = X at k ⊢
    generalize n &&& ev 1 32 = Y at k ⊢
    rw [Nat.pow_one] at k
    omega
  have hle : n / 2 ^ 1 &&& ev 1 32 ≤ n := Nat.le_trans Nat.and_le_left (Nat.div_le_self _ _)
  unfold bc1
  rw [show (1 : Int32) = nI 1 from rfl, wb_shr hn (by decide), M1e, wb_and (Nat.lt_of_le_of_lt (Nat.div_le_self _ _) hn) (by decide +kernel), lN_sub hle, e]
theorem bc2_n {n : Nat} (hn : n < 2 ^ 64) : bc2 (lN n) = lN (fP 2 16 n) := by
  unfold bc2
  rw [show (2 : Int32) = nI 2 from rfl, wb_shr hn (by decide), M2e, wb_and hn (by decide +kernel), wb_and (Nat.lt_of_le_of_lt (Nat.div_le_self _ _) hn) (by decide +kernel), lN_add]
  rfl
theorem bc3_n {n : Nat} (hn : n + n / 16 < 2 ^ 64) : bc3 (lN n) = lN ((n + n / 16) &&& ev 4 8) := by
  unfold bc3
  rw [show (4 : Int32) = nI 4 from rfl, wb_shr (by omega) (by decide), show (2 : Nat) ^ 4 = 16 by decide, lN_add, M3e, wb_and hn (by decide +kernel)]
theorem bc4_n {n : Nat} (hn : n < 2 ^ 64) : bc4 (lN n) = lN (n + n / 256) := by
  unfold bc4
  rw [show (8 : Int32) = nI 8 from rfl, wb_shr hn (by decide), lN_add]
theorem bc5_n {n : Nat} (hn : n < 2 ^ 64) : bc5 (lN n) = lN (n + n / 65536) := by
  unfold bc5
  rw [show (16 : Int32) = nI 16 from rfl, wb_shr hn (by decide), lN_add]
theorem bc6_n {n : Nat} (hn : n < 2 ^ 64) : bc6 (lN n) = lN (n + n / 4294967296) := by
  unfold bc6
  rw [show (32 : Int32) = nI 32 from rfl, wb_shr hn (by decide), lN_add]
theorem nI_127 (n : Nat) : nI n &&& 127 = nI (n % 128) := by
  rw [pk_and (nI n) 7 (by decide)]
  have e : (nI n).toBitVec.toNat = n % 2 ^ 32 := BitVec.toNat_ofNat _ _
  rw [e]
  congr 1
  omega
theorem bc_lN {n : Nat} (hn : n < 2 ^ 64) : fJ7_bitCount (lN n) = nI (sd 2 64 n) ∧ sd 2 64 n ≤ 96 := by
  have i1 : fP 1 32 n < 2 ^ 64 := by
    have k := ev_all (t := 1) 32 n (by rw [show ((2 : Nat) ^ (2 * 1)) ^ 32 = 2 ^ 64 by decide]; exact hn)
    unfold fP
    generalize n / 2 ^ 1 &&& ev 1 32 = X at k ⊢
    generalize n &&& ev 1 32 = Y at k ⊢
    rw [Nat.pow_one] at k
    omega
  have g2 : dgs 16 6 16 (fP 2 16 (fP 1 32 n)) := dgs_P (t := 2) (by decide) (by decide) 16 _
  have b2 := dgs_lt _ _ g2
  have e16 : (16 : Nat) ^ 16 = 18446744073709551616 := by decide
  rw [e16] at b2
  have e64 : (2 : Nat) ^ 64 = 18446744073709551616 := by decide
  have a3 : (fP 2 16 (fP 1 32 n) + fP 2 16 (fP 1 32 n) / 16) &&& ev 4 8 = fP 4 8 (fP 2 16 (fP 1 32 n)) := ad16 8 _ g2
  have g3 : dgs 256 12 8 (fP 4 8 (fP 2 16 (fP 1 32 n))) := dgs_P4 8 _ g2
  obtain ⟨q1, q2, q3⟩ := ad256 g3
  have s3 : sd 256 8 (fP 4 8 (fP 2 16 (fP 1 32 n))) = sd 16 16 (fP 2 16 (fP 1 32 n)) := sd_P (t := 4) (by decide) 8 _
  have s2 : sd 16 16 (fP 2 16 (fP 1 32 n)) = sd 4 32 (fP 1 32 n) := sd_P (t := 2) (by decide) 16 _
  have s1 : sd 4 32 (fP 1 32 n) = sd 2 64 n := sd_P (t := 1) (by decide) 32 _
  have e60 : (2 : Nat) ^ 60 = 1152921504606846976 := by decide
  rw [e60] at q2
  unfold fJ7_bitCount
  rw [bc1_n hn, bc2_n i1, bc3_n (by omega), a3, bc4_n (by omega), bc5_n (by omega), bc6_n (by omega), lN_i, nI_127, q1, s3, s2, s1]
  refine ⟨rfl, ?_⟩
  rw [s3, s2, s1] at q3
  exact q3
theorem bc_ex (x : Int64) : ∃ n, n < 2 ^ 64 ∧ x = lN n ∧ fJ7_bitCount x = nI (sd 2 64 n) ∧ pcN x = sd 2 64 n := by
  obtain ⟨n, hn, rfl⟩ := wb_of x
  obtain ⟨h1, h2⟩ := bc_lN hn
  exact ⟨n, hn, rfl, h1, by unfold pcN; rw [h1, nI_clamp (by omega)]⟩
theorem bc_eq (x : Int64) : fJ7_bitCount x = nI (pcN x) := by
  obtain ⟨n, -, -, h1, h2⟩ := bc_ex x
  rw [h2, h1]
