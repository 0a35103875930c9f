/-! what the reference's methods answer and do -/
def pcZ (f : Nat → Bool) (p : Int32) (k : Nat) : Bool := chZ p (f k)
def cbZ (f g : Nat → Bool) (p : Int32) (k : Nat) : Bool := cbB p (f k) (g k)
def ldZ (a b c : Int64) (k : Nat) : Bool := if 192 ≤ k then false else bl (if k < 64 then a else if k < 128 then b else c) (k % 64)
def ctZ (f : Nat → Bool) (a b k : Nat) : Bool := decide (k < b - a) && f (a + k)
def peR (f : Nat → Bool) (r : Int32) : Prop := ∃ K, K ≤ 4032 ∧ r = nI K ∧ (∀ k, K ≤ k → k < 4032 → f k = false) ∧ (0 < K → f (K - 1) = true)
theorem dn_s {p : Nat → Prop} {i : Nat} (h : ∀ k, i + 1 ≤ k → k < 4032 → p k) (hi : p i) : ∀ k, i ≤ k → k < 4032 → p k := by
  intro k h1 h2
  by_cases e : k = i
  · exact e ▸ hi
  · exact h k (by omega) h2
theorem nx_s {p : Nat → Prop} {a i : Nat} (h : ∀ k, a ≤ k → k < i → p k) (hi : p i) : ∀ k, a ≤ k → k < i + 1 → p k := by
  intro k h1 h2
  by_cases e : k = i
  · exact e ▸ hi
  · exact h k h1 (by omega)
theorem ny_s {p : Nat → Prop} {a i : Nat} (h : ∀ k, i + 1 ≤ k → k ≤ a → p k) (hi : p i) : ∀ k, i ≤ k → k ≤ a → p k := by
  intro k h1 h2
  by_cases e : k = i
  · exact e ▸ hi
  · exact h k (by omega) h2
theorem pl_n {p : Int32} (h : ¬ fX3_isPlace p = 0) : p = nI p.toNatClampNeg ∧ p.toNatClampNeg ≤ 4032 ∧ p.toNatClampNeg ≤ 4000 := by
  obtain ⟨h1, h2⟩ := pl_in h
  exact ⟨h2, by omega, h1⟩
def fpG (f : Nat → Bool) (b : Bool) (p : Nat) (d r : Int32) : Prop := (∃ K, p ≤ K ∧ K < 4032 ∧ f K = b ∧ (∀ k, p ≤ k → k < K → f k = !b) ∧ r = nI K) ∨ ((∀ k, p ≤ k → k < 4032 → f k = !b) ∧ r = d)
def fpH (f : Nat → Bool) (b : Bool) (p : Nat) (r : Int32) : Prop := (∃ K, K ≤ p ∧ f K = b ∧ (∀ k, K < k → k ≤ p → f k = !b) ∧ r = nI K) ∨ ((∀ k, k ≤ p → f k = !b) ∧ r = -1)
theorem fq_u0 (F : Nat → Bool) (u : StR) : u = (u.1, flz F u.2.1 0 0, u.2.2) := by
  rw [flz_0]
theorem fq_uS (F : Nat → Bool) (u : StR) {i : Nat} {b : Bool} (hb : b = F i) : ((u.1, upZ (flz F u.2.1 0 i) i b, u.2.2) : StR) = (u.1, flz F u.2.1 0 (i + 1), u.2.2) := by
  rw [flz_s _ _ (Nat.zero_le _) hb]
theorem fk_u0 (F G : Nat → Bool) (u : StR) (j : Nat) : ((u.1, G, u.2.2) : StR) = (upR u.1 j (flz F (u.1 j) 0 0), G, u.2.2) := by
  rw [flz_0, upR_id]
theorem fk_uS (F G : Nat → Bool) (u : StR) (j : Nat) {i : Nat} : ((upR (upR u.1 j (flz F (u.1 j) 0 i)) j (upZ (upR u.1 j (flz F (u.1 j) 0 i) j) i (F i)), G, u.2.2) : StR) = (upR u.1 j (flz F (u.1 j) 0 (i + 1)), G, u.2.2) := by
  rw [upR_u, upR_s, flz_s _ _ (Nat.zero_le _) rfl]
section CT
variable {p2 p3 : Int32} {f : Nat → Bool} {i : Nat}
theorem ct_sub (hpc : p2.toNatClampNeg ≤ p3.toNatClampNeg ∧ p3.toNatClampNeg ≤ 4001 ∧ p2 = nI p2.toNatClampNeg ∧ p3 = nI p3.toNatClampNeg) : p3 - p2 = nI (p3.toNatClampNeg - p2.toNatClampNeg) := by
  obtain ⟨h1, h2, h3, h4⟩ := hpc
  generalize p2.toNatClampNeg = a at *
  generalize p3.toNatClampNeg = b at *
  rw [h3, h4, pk_sub h1]
theorem ct_lt (hpc : p2.toNatClampNeg ≤ p3.toNatClampNeg ∧ p3.toNatClampNeg ≤ 4001 ∧ p2 = nI p2.toNatClampNeg ∧ p3 = nI p3.toNatClampNeg) (hi : i < 4032) (c : ¬ p3 - p2 ≤ nI i) : i < p3.toNatClampNeg - p2.toNatClampNeg := by
  rw [ct_sub hpc, nI_leI (by omega) (by omega)] at c
  omega
theorem ct_ix (hpc : p2.toNatClampNeg ≤ p3.toNatClampNeg ∧ p3.toNatClampNeg ≤ 4001 ∧ p2 = nI p2.toNatClampNeg ∧ p3 = nI p3.toNatClampNeg) : p2 + nI i = nI (p2.toNatClampNeg + i) := by
  have h3 := hpc.2.2.1
  generalize p2.toNatClampNeg = a at *
  rw [h3, nI_add]
theorem ct_hi (hpc : p2.toNatClampNeg ≤ p3.toNatClampNeg ∧ p3.toNatClampNeg ≤ 4001 ∧ p2 = nI p2.toNatClampNeg ∧ p3 = nI p3.toNatClampNeg) (hi : i < 4032) (c : p3 - p2 ≤ nI i) : false = ctZ f p2.toNatClampNeg p3.toNatClampNeg i := by
  rw [ct_sub hpc, nI_leI (by omega) (by omega)] at c
  unfold ctZ
  rw [decide_eq_false (by omega)]
  rfl
theorem ct_t (hpc : p2.toNatClampNeg ≤ p3.toNatClampNeg ∧ p3.toNatClampNeg ≤ 4001 ∧ p2 = nI p2.toNatClampNeg ∧ p3 = nI p3.toNatClampNeg) (hi : i < 4032) (c : ¬ p3 - p2 ≤ nI i) (h : f (p2.toNatClampNeg + i) = true) : true = ctZ f p2.toNatClampNeg p3.toNatClampNeg i := by
  have := ct_lt hpc hi c
  unfold ctZ
  rw [decide_eq_true this, h]
  rfl
theorem ct_f (hpc : p2.toNatClampNeg ≤ p3.toNatClampNeg ∧ p3.toNatClampNeg ≤ 4001 ∧ p2 = nI p2.toNatClampNeg ∧ p3 = nI p3.toNatClampNeg) (hi : i < 4032) (c : ¬ p3 - p2 ≤ nI i) (h : f (p2.toNatClampNeg + i) = false) : false = ctZ f p2.toNatClampNeg p3.toNatClampNeg i := by
  unfold ctZ
  rw [h, Bool.and_false]
end CT
/-! load -/
theorem ts_f {b : Bool} (h : ¬ b = true) : b = false := by
  cases b with
  | false => rfl
  | true => exact absurd rfl h
theorem ls_bit (x : Int64) {k : Nat} (hk : k < 64) : bl (x >>> ((nI k).toInt64 &&& 63)) 0 = bl x k := by
  unfold bl
  rw [wb_c k hk, Int64.toBitVec_shiftRight, wb_tb, wb_sm k hk, BitVec.sshiftRight_eq', BitVec.getLsbD_sshiftRight, BitVec.toNat_ofNat]
  rw [show k % 2 ^ 64 = k from Nat.mod_eq_of_lt (by omega)]
  simp [show k < 64 from hk]
theorem ls_1 (x : Int64) : (x &&& 1 = 1) ↔ bl x 0 = true := by
  constructor
  · intro h
    have h2 : bl (x &&& 1) 0 = bl 1 0 := by rw [h]
    rw [bl_and] at h2
    have e : bl 1 0 = true := by decide
    rw [e, Bool.and_true] at h2
    exact h2
  · intro h
    apply bl_ext
    intro i hi
    rw [bl_and]
    by_cases e : i = 0
    · subst e
      rw [h, Bool.true_and]
    · have e1 : bl 1 i = false := by
        rw [show (1 : Int64) = lN 1 from rfl, bl_lN, Nat.testBit_lt_two_pow (Nat.one_lt_two_pow e), Bool.and_false]
      rw [e1, Bool.and_false]
theorem ls_ok (x : Int64) {i : Nat} (hi : i < 4032) : (lg_cmp ((x >>> ((nI i - nI i / 64 * 64).toInt64 &&& 63)) &&& 1) 1 = 0) ↔ bl x (i % 64) = true := by
  have e : nI i - nI i / 64 * 64 = nI (i % 64) := pk_rem (d := 64) (by omega) (by decide) (by decide)
  rw [e, lg_cmp_eq, ls_1, ls_bit x (by omega)]
section LD
variable {a b c : Int64} {i : Nat}
theorem ld_hi (hi : i < 4032) (c1 : 192 ≤ nI i) : false = ldZ a b c i := by
  have h : 192 ≤ i := (nI_leI (a := 192) (by decide) (by omega)).mp c1
  unfold ldZ
  rw [if_pos h]
theorem ld_v (hi : i < 4032) (c1 : ¬ 192 ≤ nI i) : ldZ a b c i = bl (if i < 64 then a else if i < 128 then b else c) (i % 64) := by
  have h : ¬ 192 ≤ i := fun h => c1 (nI_le (a := 192) h (by omega))
  unfold ldZ
  rw [if_neg h]
theorem l64 (hi : i < 4032) (c2 : ¬ 64 ≤ nI i) : i < 64 := Nat.not_le.mp fun h => c2 (nI_le (a := 64) h (by omega))
theorem g64 (hi : i < 4032) (c2 : 64 ≤ nI i) : ¬ i < 64 := Nat.not_lt.mpr ((nI_leI (a := 64) (by decide) (by omega)).mp c2)
theorem l128 (hi : i < 4032) (c2 : ¬ 128 ≤ nI i) : i < 128 := Nat.not_le.mp fun h => c2 (nI_le (a := 128) h (by omega))
theorem g128 (hi : i < 4032) (c2 : 128 ≤ nI i) : ¬ i < 128 := Nat.not_lt.mpr ((nI_leI (a := 128) (by decide) (by omega)).mp c2)
theorem ld_t1 (hi : i < 4032) (c1 : ¬ 192 ≤ nI i) (c2 : ¬ 64 ≤ nI i) (k : lg_cmp ((a >>> ((nI i - nI i / 64 * 64).toInt64 &&& 63)) &&& 1) 1 = 0) : true = ldZ a b c i := by
  rw [ld_v hi c1, if_pos (l64 hi c2), (ls_ok a hi).mp k]
theorem ld_f1 (hi : i < 4032) (c1 : ¬ 192 ≤ nI i) (c2 : ¬ 64 ≤ nI i) (k : ¬ lg_cmp ((a >>> ((nI i - nI i / 64 * 64).toInt64 &&& 63)) &&& 1) 1 = 0) : false = ldZ a b c i := by
  rw [ld_v hi c1, if_pos (l64 hi c2)]
  exact (ts_f (fun h => k ((ls_ok a hi).mpr h))).symm
theorem ld_t2 (hi : i < 4032) (c1 : ¬ 192 ≤ nI i) (c2 : 64 ≤ nI i) (c3 : ¬ 128 ≤ nI i) (k : lg_cmp ((b >>> ((nI i - nI i / 64 * 64).toInt64 &&& 63)) &&& 1) 1 = 0) : true = ldZ a b c i := by
  rw [ld_v hi c1, if_neg (g64 hi c2), if_pos (l128 hi c3), (ls_ok b hi).mp k]
theorem ld_f2 (hi : i < 4032) (c1 : ¬ 192 ≤ nI i) (c2 : 64 ≤ nI i) (c3 : ¬ 128 ≤ nI i) (k : ¬ lg_cmp ((b >>> ((nI i - nI i / 64 * 64).toInt64 &&& 63)) &&& 1) 1 = 0) : false = ldZ a b c i := by
  rw [ld_v hi c1, if_neg (g64 hi c2), if_pos (l128 hi c3)]
  exact (ts_f (fun h => k ((ls_ok b hi).mpr h))).symm
theorem ld_t3 (hi : i < 4032) (c1 : ¬ 192 ≤ nI i) (c2 : 64 ≤ nI i) (c3 : 128 ≤ nI i) (k : lg_cmp ((c >>> ((nI i - nI i / 64 * 64).toInt64 &&& 63)) &&& 1) 1 = 0) : true = ldZ a b c i := by
  rw [ld_v hi c1, if_neg (g64 hi c2), if_neg (g128 hi c3), (ls_ok c hi).mp k]
theorem ld_f3 (hi : i < 4032) (c1 : ¬ 192 ≤ nI i) (c2 : 64 ≤ nI i) (c3 : 128 ≤ nI i) (k : ¬ lg_cmp ((c >>> ((nI i - nI i / 64 * 64).toInt64 &&& 63)) &&& 1) 1 = 0) : false = ldZ a b c i := by
  rw [ld_v hi c1, if_neg (g64 hi c2), if_neg (g128 hi c3)]
  exact (ts_f (fun h => k ((ls_ok c hi).mpr h))).symm
end LD
/-! meet -/
def anB (f g : Nat → Bool) : Nat → Bool
  | 0 => false
  | n + 1 => anB f g n || (f n && g n)
def alB (f g : Nat → Bool) : Nat → Bool
  | 0 => true
  | n + 1 => alB f g n && (f n == g n)
/-! walk -/
theorem wk_n {f : Nat → Bool} {i : Nat} (h : f i = false) : wkf f 0 (i + 1) (0, 0) = wkf f 0 i (0, 0) := by
  show (if f i = true then _ else _) = _
  rw [if_neg (by rw [h]; exact Bool.false_ne_true)]
theorem wk_t {f : Nat → Bool} {i : Nat} (h : f i = true) : wkf f 0 (i + 1) (0, 0) = ((wkf f 0 i (0, 0)).1 + 1, (wkf f 0 i (0, 0)).2 + ((wkf f 0 i (0, 0)).1 + 1) * (0 + i)) := by
  show (if f i = true then _ else _) = _
  rw [if_pos h]
theorem wk_r {f : Nat → Bool} {i : Nat} (h : f i = true) : nI (wkf f 0 i (0, 0)).1 + 1 = nI (wkf f 0 (i + 1) (0, 0)).1 := by
  rw [wk_t h, nI_1]
theorem wk_le (f : Nat → Bool) : ∀ i, (wkf f 0 i (0, 0)).1 ≤ i := by
  intro i
  induction i with
  | zero => exact Nat.le_refl _
  | succ i ih =>
    cases h : f i with
    | false =>
      rw [wk_n h]
      omega
    | true =>
      rw [wk_t h]
      show _ + 1 ≤ i + 1
      omega
theorem wk_s {f : Nat → Bool} {i : Nat} (hi : i < 4032) (h : f i = true) : lN (wkf f 0 i (0, 0)).2 + (nI i).toInt64 * (nI (wkf f 0 (i + 1) (0, 0)).1).toInt64 = lN (wkf f 0 (i + 1) (0, 0)).2 := by
  have h1 := wk_le f i
  rw [wk_t h, nI_l (by omega), nI_l (show (wkf f 0 i (0, 0)).1 + 1 < 2 ^ 31 by omega), lN_mul, lN_add, Nat.zero_add, Nat.mul_comm i]
/-! word -/
def wdG (f : Nat → Bool) (n k : Nat) : Bool := f (64 * n + k)
def hwN (g : Nat → Bool) : Nat → Nat
  | 0 => 0
  | m + 1 => 2 * hwN g m + (if g (63 - m) = true then 1 else 0)
theorem wd_n {p : Int32} (c1 : ¬ p < 0) (c2 : p ≤ 62) : p = nI p.toNatClampNeg ∧ p.toNatClampNeg ≤ 62 := by
  obtain ⟨j, hj, rfl⟩ := nI_of2 (n := 62) rfl c1 c2
  rw [nI_clamp (by omega)]
  exact ⟨rfl, hj⟩
theorem wd_ix {p : Int32} {i : Nat} (h : p = nI p.toNatClampNeg ∧ p.toNatClampNeg ≤ 62) : 64 * p + nI i = nI (64 * p.toNatClampNeg + i) := by
  have h1 := h.1
  generalize p.toNatClampNeg = n at *
  rw [h1, show (64 : Int32) = nI 64 from rfl, pk_mul, nI_add]
theorem hw_s (g : Nat → Bool) {i : Nat} (hi : i < 64) : hwN g (64 - i) = 2 * hwN g (64 - (i + 1)) + (if g i = true then 1 else 0) := by
  obtain ⟨m, hm⟩ : ∃ m, 64 - i = m + 1 := ⟨63 - i, by omega⟩
  rw [hm, show 64 - (i + 1) = m by omega]
  show 2 * hwN g m + (if g (63 - m) = true then 1 else 0) = _
  rw [show 63 - m = i by omega]
theorem hw_0 {f : Nat → Bool} {n i : Nat} (hi : i < 64) (h : f (64 * n + i) = false) : 2 * lN (hwN (wdG f n) (64 - (i + 1))) + 0 = lN (hwN (wdG f n) (64 - i)) := by
  rw [hw_s _ hi, if_neg (show ¬ wdG f n i = true by unfold wdG; rw [h]; exact Bool.false_ne_true), show (2 : Int64) = lN 2 from rfl, show (0 : Int64) = lN 0 from rfl, lN_mul, lN_add]
theorem hw_1 {f : Nat → Bool} {n i : Nat} (hi : i < 64) (h : f (64 * n + i) = true) : 2 * lN (hwN (wdG f n) (64 - (i + 1))) + 1 = lN (hwN (wdG f n) (64 - i)) := by
  rw [hw_s _ hi, if_pos (show wdG f n i = true from h), show (2 : Int64) = lN 2 from rfl, lN_mul, lN_1]
/-! the signs -/
def txR (v : StR) (t : List Int32) : Prop := v.2.2.2 = nI t.length ∧ t.length ≤ 700 ∧ ∀ k, k < t.length → v.2.2.1 k = t.getD k 0
theorem tr2 {α β : Type} {a b c : α} {d e g : β} (h : a = b ∧ d = e) (k : b = c ∧ e = g) : a = c ∧ d = g := ⟨h.1.trans k.1, h.2.trans k.2⟩
theorem tr_nil (B : Nat → Nat → Bool) (P : Nat → Bool) (f : Nat → Int32) : txR (B, P, f, 0) [] := ⟨rfl, by decide, fun k h => absurd h (by simp)⟩
theorem tr_in {u : StR} {t : List Int32} (ht : txR u t) (h : t.length < 700) : vp_in u.2.2.2 700 := by
  rw [ht.1]
  exact vp_in_nI h (by decide)
theorem tr_ok {u : StR} {t : List Int32} (x : Int32) (ht : txR u t) (h : t.length < 700) : txR (u.1, u.2.1, upd u.2.2.1 u.2.2.2.toNatClampNeg x, u.2.2.2 + 1) (t ++ [x]) := by
  obtain ⟨h1, h2, h3⟩ := ht
  have ec : u.2.2.2.toNatClampNeg = t.length := by rw [h1, nI_clamp (by omega)]
  refine ⟨?_, ?_, fun k hk => ?_⟩
  · show u.2.2.2 + 1 = _
    rw [h1, nI_1, List.length_append]
    rfl
  · rw [List.length_append]
    exact h
  · show upd u.2.2.1 u.2.2.2.toNatClampNeg x k = _
    rw [ec]
    rw [List.length_append, List.length_singleton] at hk
    by_cases hq : k = t.length
    · subst hq
      rw [pk_us]
      simp
    · rw [pk_un hq, h3 k (by omega)]
      simp [List.getElem?_append_left (show k < t.length by omega)]
def fX3_octet (u : StR) (p0 : Int32) : Int32 := if p0 < 0 then -2 else if p0 < u.2.2.2 then u.2.2.1 p0.toNatClampNeg else -2
theorem tr_px {u : StR} {t : List Int32} {p : Int32} (ht : txR u t) (c1 : ¬ p < 0) (c2 : p < u.2.2.2) : vp_in p 700 := by
  obtain ⟨h1, h2, -⟩ := ht
  rw [h1] at c2
  rw [Int32.lt_iff_toInt_lt] at c1 c2
  rw [nI_toInt (by omega)] at c2
  have e0 : (0 : Int32).toInt = 0 := rfl
  rw [vp_in_iff]
  omega
