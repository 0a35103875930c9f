/-! what the reference's methods answer and do -/
def pcZ (f : Nat → Bool) (p : Int32) (k : Nat) : Bool := chZ p (f k)
def cbZ (f g : Nat → Bool) (p : Int32) (k : Nat) : Bool := cbB p (f k) (g k)
def ldZ (a b c : Int64) (k : Nat) : Bool := if 192 ≤ k then false else bl (if k < 64 then a else if k < 128 then b else c) (k % 64)
def ctZ (f : Nat → Bool) (a b k : Nat) : Bool := decide (k < b - a) && f (a + k)
def peR (f : Nat → Bool) (r : Int32) : Prop := ∃ K, K ≤ 4032 ∧ r = nI K ∧ (∀ k, K ≤ k → k < 4032 → f k = false) ∧ (0 < K → f (K - 1) = true)
theorem dn_s {p : Nat → Prop} {i : Nat} (h : ∀ k, i + 1 ≤ k → k < 4032 → p k) (hi : p i) : ∀ k, i ≤ k → k < 4032 → p k := by
  intro k h1 h2
  by_cases e : k = i
  · exact e ▸ hi
  · exact h k (by omega) h2
theorem nx_s {p : Nat → Prop} {a i : Nat} (h : ∀ k, a ≤ k → k < i → p k) (hi : p i) : ∀ k, a ≤ k → k < i + 1 → p k := by
  intro k h1 h2
  by_cases e : k = i
  · exact e ▸ hi
  · exact h k h1 (by omega)
theorem ny_s {p : Nat → Prop} {a i : Nat} (h : ∀ k, i + 1 ≤ k → k ≤ a → p k) (hi : p i) : ∀ k, i ≤ k → k ≤ a → p k := by
  intro k h1 h2
  by_cases e : k = i
  · exact e ▸ hi
  · exact h k (by omega) h2
theorem pl_n {p : Int32} (h : ¬ fX3_isPlace p = 0) : p = nI p.toNatClampNeg ∧ p.toNatClampNeg ≤ 4032 ∧ p.toNatClampNeg ≤ 4000 := by
  obtain ⟨h1, h2⟩ := pl_in h
  exact ⟨h2, by omega, h1⟩
def fpG (f : Nat → Bool) (b : Bool) (p : Nat) (d r : Int32) : Prop := (∃ K, p ≤ K ∧ K < 4032 ∧ f K = b ∧ (∀ k, p ≤ k → k < K → f k = !b) ∧ r = nI K) ∨ ((∀ k, p ≤ k → k < 4032 → f k = !b) ∧ r = d)
def fpH (f : Nat → Bool) (b : Bool) (p : Nat) (r : Int32) : Prop := (∃ K, K ≤ p ∧ f K = b ∧ (∀ k, K < k → k ≤ p → f k = !b) ∧ r = nI K) ∨ ((∀ k, k ≤ p → f k = !b) ∧ r = -1)
theorem fq_u0 (F : Nat → Bool) (u : StR) : u = (u.1, flz F u.2.1 0 0, u.2.2) := by
  rw [flz_0]
theorem fq_uS (F : Nat → Bool) (u : StR) {i : Nat} {b : Bool} (hb : b = F i) : ((u.1, upZ (flz F u.2.1 0 i) i b, u.2.2) : StR) = (u.1, flz F u.2.1 0 (i + 1), u.2.2) := by
  rw [flz_s _ _ (Nat.zero_le _) hb]
theorem fk_u0 (F G : Nat → Bool) (u : StR) (j : Nat) : ((u.1, G, u.2.2) : StR) = (upR u.1 j (flz F (u.1 j) 0 0), G, u.2.2) := by
  rw [flz_0, upR_id]
theorem fk_uS (F G : Nat → Bool) (u : StR) (j : Nat) {i : Nat} : ((upR (upR u.1 j (flz F (u.1 j) 0 i)) j (upZ (upR u.1 j (flz F (u.1 j) 0 i) j) i (F i)), G, u.2.2) : StR) = (upR u.1 j (flz F (u.1 j) 0 (i + 1)), G, u.2.2) := by
  rw [upR_u, upR_s, flz_s _ _ (Nat.zero_le _) rfl]
section CT
variable {p2 p3 : Int32} {f : Nat → Bool} {i : Nat}
theorem ct_sub (hpc : p2.toNatClampNeg ≤ p3.toNatClampNeg ∧ p3.toNatClampNeg ≤ 4001 ∧ p2 = nI p2.toNatClampNeg ∧ p3 = nI p3.toNatClampNeg) : p3 - p2 = nI (p3.toNatClampNeg - p2.toNatClampNeg) := by
  obtain ⟨h1, h2, h3, h4⟩ := hpc
  generalize p2.toNatClampNeg = a at *
  generalize p3.toNatClampNeg = b at *
  rw [h3, h4, pk_sub h1]
theorem ct_lt (hpc : p2.toNatClampNeg ≤ p3.toNatClampNeg ∧ p3.toNatClampNeg ≤ 4001 ∧ p2 = nI p2.toNatClampNeg ∧ p3 = nI p3.toNatClampNeg) (hi : i < 4032) (c : ¬ p3 - p2 ≤ nI i) : i < p3.toNatClampNeg - p2.toNatClampNeg := by
  rw [ct_sub hpc, nI_leI (by omega) (by omega)] at c
  omega
theorem ct_ix (hpc : p2.toNatClampNeg ≤ p3.toNatClampNeg ∧ p3.toNatClampNeg ≤ 4001 ∧ p2 = nI p2.toNatClampNeg ∧ p3 = nI p3.toNatClampNeg) : p2 + nI i = nI (p2.toNatClampNeg + i) := by
  have h3 := hpc.2.2.1
  generalize p2.toNatClampNeg = a at *
  rw [h3, nI_add]
theorem ct_hi (hpc : p2.toNatClampNeg ≤ p3.toNatClampNeg ∧ p3.toNatClampNeg ≤ 4001 ∧ p2 = nI p2.toNatClampNeg ∧ p3 = nI p3.toNatClampNeg) (hi : i < 4032) (c : p3 - p2 ≤ nI i) : false = ctZ f p2.toNatClampNeg p3.toNatClampNeg i := by
  rw [ct_sub hpc, nI_leI (by omega) (by omega)] at c
  unfold ctZ
  rw [decide_eq_false (by omega)]
  rfl
theorem ct_t (hpc : p2.toNatClampNeg ≤ p3.toNatClampNeg ∧ p3.toNatClampNeg ≤ 4001 ∧ p2 = nI p2.toNatClampNeg ∧ p3 = nI p3.toNatClampNeg) (hi : i < 4032) (c : ¬ p3 - p2 ≤ nI i) (h : f (p2.toNatClampNeg + i) = true) : true = ctZ f p2.toNatClampNeg p3.toNatClampNeg i := by
  have := ct_lt hpc hi c
  unfold ctZ
  rw [decide_eq_true this, h]
  rfl
theorem ct_f (hpc : p2.toNatClampNeg ≤ p3.toNatClampNeg ∧ p3.toNatClampNeg ≤ 4001 ∧ p2 = nI p2.toNatClampNeg ∧ p3 = nI p3.toNatClampNeg) (hi : i < 4032) (c : ¬ p3 - p2 ≤ nI i) (h : f (p2.toNatClampNeg + i) = false) : false = ctZ f p2.toNatClampNeg p3.toNatClampNeg i := by
  unfold ctZ
  rw [h, Bool.and_false]
end CT
/-! load -/
theorem ts_f {b : Bool} (h : ¬ b = true) : b = false := by
  cases b with
  | false => rfl
  | true => exact absurd rfl h
theorem ls_bit (x : Int64) {k : Nat} (hk : k < 64) : bl (x >>> ((nI k).toInt64 &&& 63)) 0 = bl x k := by
  unfold bl
  rw [wb_c k hk, Int64.toBitVec_shiftRight, wb_tb, wb_sm k hk, BitVec.sshiftRight_eq', BitVec.getLsbD_sshiftRight, BitVec.toNat_ofNat]
  rw [show k % 2 ^ 64 = k from Nat.mod_eq_of_lt (by omega)]
  simp [show k < 64 from hk]
theorem ls_1 (x : Int64) : (x &&& 1 = 1) ↔ bl x 0 = true := by
  constructor
  · intro h
    have h2 : bl (x &&& 1) 0 = bl 1 0 := by rw [h]
    rw [bl_and] at h2
    have e : bl 1 0 = true := by decide
    rw [e, Bool.and_true] at h2
    exact h2
  · intro h
    apply bl_ext
    intro i hi
    rw [bl_and]
    by_cases e : i = 0
    · subst e
      rw [h, Bool.true_and]
    · have e1 : bl 1 i = false := by
        rw [show (1 : Int64) = lN 1 from rfl, bl_lN, Nat.testBit_lt_two_pow (Nat.one_lt_two_pow e), Bool.and_false]
      rw [e1, Bool.and_false]
theorem ls_ok (x : Int64) {i : Nat} (hi : i < 4032) : (lg_cmp ((x >>> ((nI i - nI i / 64 * 64).toInt64 &&& 63)) &&& 1) 1 = 0) ↔ bl x (i % 64) = true := by
  have e : nI i - nI i / 64 * 64 = nI (i % 64) := pk_rem (d := 64) (by omega) (by decide) (by decide)
  rw [e, lg_cmp_eq, ls_1, ls_bit x (by omega)]
section LD
variable {a b c : Int64} {i : Nat}
theorem ld_hi (hi : i < 4032) (c1 : 192 ≤ nI i) : false = ldZ a b c i := by
  have h : 192 ≤ i := (nI_leI (a := 192) (by decide) (by omega)).mp c1
  unfold ldZ
  rw [if_pos h]
theorem ld_v (hi : i < 4032) (c1 : ¬ 192 ≤ nI i) : ldZ a b c i = bl (if i < 64 then a else if i < 128 then b else c) (i % 64) := by
  have h : ¬ 192 ≤ i := fun h => c1 (nI_le (a := 192) h (by omega))
  unfold ldZ
  rw [if_neg h]
theorem l64 (hi : i < 4032) (c2 : ¬ 64 ≤ nI i) : i < 64 := Nat.not_le.mp fun h => c2 (nI_le (a := 64) h (by omega))
theorem g64 (hi : i < 4032) (c2 : 64 ≤ nI i) : ¬ i < 64 := Nat.not_lt.mpr ((nI_leI (a := 64) (by decide) (by omega)).mp c2)
theorem l128 (hi : i < 4032) (c2 : ¬ 128 ≤ nI i) : i < 128 := Nat.not_le.mp fun h => c2 (nI_le (a := 128) h (by omega))
theorem g128 (hi : i < 4032) (c2 : 128 ≤ nI i) : ¬ i < 128 := Nat.not_lt.mpr ((nI_leI (a := 128) (by decide) (by omega)).mp c2)
theorem ld_t1 (hi : i < 4032) (c1 : ¬ 192 ≤ nI i) (c2 : ¬ 64 ≤ nI i) (k : lg_cmp ((a >>> ((nI i - nI i / 64 * 64).toInt64 &&& 63)) &&& 1) 1 = 0) : true = ldZ a b c i := by
  rw [ld_v hi c1, if_pos (l64 hi c2), (ls_ok a hi).mp k]
theorem ld_f1 (hi : i < 4032) (c1 : ¬ 192 ≤ nI i) (c2 : ¬ 64 ≤ nI i) (k : ¬ lg_cmp ((a >>> ((nI i - nI i / 64 * 64).toInt64 &&& 63)) &&& 1) 1 = 0) : false = ldZ a b c i := by
  rw [ld_v hi c1, if_pos (l64 hi c2)]
  exact (ts_f (fun h => k ((ls_ok a hi).mpr h))).symm
theorem ld_t2 (hi : i < 4032) (c1 : ¬ 192 ≤ nI i) (c2 : 64 ≤ nI i) (c3 : ¬ 128 ≤ nI i) (k : lg_cmp ((b >>> ((nI i - nI i / 64 * 64).toInt64 &&& 63)) &&& 1) 1 = 0) : true = ldZ a b c i := by
  rw [ld_v hi c1, if_neg (g64 hi c2), if_pos (l128 hi c3), (ls_ok b hi).mp k]
theorem ld_f2 (hi : i < 4032) (c1 : ¬ 192 ≤ nI i) (c2 : 64 ≤ nI i) (c3 : ¬ 128 ≤ nI i) (k : ¬ lg_cmp ((b >>> ((nI i - nI i / 64 * 64).toInt64 &&& 63)) &&& 1) 1 = 0) : false = ldZ a b c i := by
  rw [ld_v hi c1, if_neg (g64 hi c2), if_pos (l128 hi c3)]
  exact (ts_f (fun h => k ((ls_ok b hi).mpr h))).symm
theorem ld_t3 (hi : i < 4032) (c1 : ¬ 192 ≤ nI i) (c2 : 64 ≤ nI i) (c3 : 128 ≤ nI i) (k : lg_cmp ((c >>> ((nI i - nI i / 64 * 64).toInt64 &&& 63)) &&& 1) 1 = 0) : true = ldZ a b c i := by
  rw [ld_v hi c1, if_neg (g64 hi c2), if_neg (g128 hi c3), (ls_ok c hi).mp k]
theorem ld_f3 (hi : i < 4032) (c1 : ¬ 192 ≤ nI i) (c2 : 64 ≤ nI i) (c3 : 128 ≤ nI i) (k : ¬ lg_cmp ((c >>> ((nI i - nI i / 64 * 64).toInt64 &&& 63)) &&& 1) 1 = 0) : false = ldZ a b c i := by
  rw [ld_v hi c1, if_neg (g64 hi c2), if_neg (g128 hi c3)]
  exact (ts_f (fun h => k ((ls_ok c hi).mpr h))).symm
end LD
/-! meet -/
def anB (f g : Nat → Bool) : Nat → Bool
  | 0 => false
  | n + 1 => anB f g n || (f n && g n)
def alB (f g : Nat → Bool) : Nat → Bool
  | 0 => true
  | n + 1 => alB f g n && (f n == g n)
/-! walk -/
theorem wk_n {f : Nat → Bool} {i : Nat} (h : f i = false) : wkf f 0 (i + 1) (0, 0) = wkf f 0 i (0, 0) := by
  show (if f i = true then _ else _) = _
  rw [if_neg (by rw [h]; exact Bool.false_ne_true)]
theorem wk_t {f : Nat → Bool} {i : Nat} (h : f i = true) : wkf f 0 (i + 1) (0, 0) = ((wkf f 0 i (0, 0)).1 + 1, (wkf f 0 i (0, 0)).2 + ((wkf f 0 i (0, 0)).1 + 1) * (0 + i)) := by
  show (if f i = true then _ else _) = _
  rw [if_pos h]
theorem wk_r {f : Nat → Bool} {i : Nat} (h : f i = true) : nI (wkf f 0 i (0, 0)).1 + 1 = nI (wkf f 0 (i + 1) (0, 0)).1 := by
  rw [wk_t h, nI_1]
theorem wk_le (f : Nat → Bool) : ∀ i, (wkf f 0 i (0, 0)).1 ≤ i := by
  intro i
  induction i with
  | zero => exact Nat.le_refl _
  | succ i ih =>
    cases h : f i with
    | false =>
      rw [wk_n h]
      omega
    | true =>
      rw [wk_t h]
      show _ + 1 ≤ i + 1
      omega
theorem wk_s {f : Nat → Bool} {i : Nat} (hi : i < 4032) (h : f i = true) : lN (wkf f 0 i (0, 0)).2 + (nI i).toInt64 * (nI (wkf f 0 (i + 1) (0, 0)).1).toInt64 = lN (wkf f 0 (i + 1) (0, 0)).2 := by
  have h1 := wk_le f i
  rw [wk_t h, nI_l (by omega), nI_l (show (wkf f 0 i (0, 0)).1 + 1 < 2 ^ 31 by omega), lN_mul, lN_add, Nat.zero_add, Nat.mul_comm i]
/-! word -/
def wdG (f : Nat → Bool) (n k : Nat) : Bool := f (64 * n + k)
def hwN (g : Nat → Bool) : Nat → Nat
  | 0 => 0
  | m + 1 => 2 * hwN g m + (if g (63 - m) = true then 1 else 0)
theorem wd_n {p : Int32} (c1 : ¬ p < 0) (c2 : p ≤ 62) : p = nI p.toNatClampNeg ∧ p.toNatClampNeg ≤ 62 := by
  obtain ⟨j, hj, rfl⟩ := nI_of2 (n := 62) rfl c1 c2
  rw [nI_clamp (by omega)]
  exact ⟨rfl, hj⟩
theorem wd_ix {p : Int32} {i : Nat} (h : p = nI p.toNatClampNeg ∧ p.toNatClampNeg ≤ 62) : 64 * p + nI i = nI (64 * p.toNatClampNeg + i) := by
  have h1 := h.1
  generalize p.toNatClampNeg = n at *
  rw [h1, show (64 : Int32) = nI 64 from rfl, pk_mul, nI_add]
theorem hw_s (g : Nat → Bool) {i : Nat} (hi : i < 64) : hwN g (64 - i) = 2 * hwN g (64 - (i + 1)) + (if g i = true then 1 else 0) := by
  obtain ⟨m, hm⟩ : ∃ m, 64 - i = m + 1 := ⟨63 - i, by omega⟩
  rw [hm, show 64 - (i + 1) = m by omega]
  show 2 * hwN g m + (if g (63 - m) = true then 1 else 0) = _
  rw [show 63 - m = i by omega]
theorem hw_0 {f : Nat → Bool} {n i : Nat} (hi : i < 64) (h : f (64 * n + i) = false) : 2 * lN (hwN (wdG f n) (64 - (i + 1))) + 0 = lN (hwN (wdG f n) (64 - i)) := by
  rw [hw_s _ hi, if_neg (show ¬ wdG f n i = true by unfold wdG; rw [h]; exact Bool.false_ne_true), show (2 : Int64) = lN 2 from rfl, show (0 : Int64) = lN 0 from rfl, lN_mul, lN_add]
theorem hw_1 {f : Nat → Bool} {n i : Nat} (hi : i < 64) (h : f (64 * n + i) = true) : 2 * lN (hwN (wdG f n) (64 - (i + 1))) + 1 = lN (hwN (wdG f n) (64 - i)) := by
  rw [hw_s _ hi, if_pos (show wdG f n i = true from h), show (2 : Int64) = lN 2 from rfl, lN_mul, lN_1]
/-! the signs -/
def txR (v : StR) (t : List Int32) : Prop := v.2.2.2 = nI t.length ∧ t.length ≤ 700 ∧ ∀ k, k < t.length → v.2.2.1 k = t.getD k 0
theorem tr2 {α β : Type} {a b c : α} {d e g : β} (h : a = b ∧ d = e) (k : b = c ∧ e = g) : a = c ∧ d = g := ⟨h.1.trans k.1, h.2.trans k.2⟩
theorem tr_nil (B : Nat → Nat → Bool) (P : Nat → Bool) (f : Nat → Int32) : txR (B, P, f, 0) [] := ⟨rfl, by decide, fun k h => absurd h (by simp)⟩
theorem tr_in {u : StR} {t : List Int32} (ht : txR u t) (h : t.length < 700) : vp_in u.2.2.2 700 := by
  rw [ht.1]
  exact vp_in_nI h (by decide)
theorem tr_ok {u : StR} {t : List Int32} (x : Int32) (ht : txR u t) (h : t.length < 700) : txR (u.1, u.2.1, upd u.2.2.1 u.2.2.2.toNatClampNeg x, u.2.2.2 + 1) (t ++ [x]) := by
  obtain ⟨h1, h2, h3⟩ := ht
  have ec : u.2.2.2.toNatClampNeg = t.length := by rw [h1, nI_clamp (by omega)]
  refine ⟨?_, ?_, fun k hk => ?_⟩
  · show u.2.2.2 + 1 = _
    rw [h1, nI_1, List.length_append]
    rfl
  · rw [List.length_append]
    exact h
  · show upd u.2.2.1 u.2.2.2.toNatClampNeg x k = _
    rw [ec]
    rw [List.length_append, List.length_singleton] at hk
    by_cases hq : k = t.length
    · subst hq
      rw [pk_us]
      simp
    · rw [pk_un hq, h3 k (by omega)]
      simp [List.getElem?_append_left (show k < t.length by omega)]
def fX3_octet (u : StR) (p0 : Int32) : Int32 := if p0 < 0 then -2 else if p0 < u.2.2.2 then u.2.2.1 p0.toNatClampNeg else -2
theorem tr_px {u : StR} {t : List Int32} {p : Int32} (ht : txR u t) (c1 : ¬ p < 0) (c2 : p < u.2.2.2) : vp_in p 700 := by
  obtain ⟨h1, h2, -⟩ := ht
  rw [h1] at c2
  rw [Int32.lt_iff_toInt_lt] at c1 c2
  rw [nI_toInt (by omega)] at c2
  have e0 : (0 : Int32).toInt = 0 := rfl
  rw [vp_in_iff]
  omega
/-! text -/
theorem pe_128 {f : Nat → Bool} {q : Int32} (h : peR f q) (c : q ≤ 128) : ∀ k, 128 ≤ k → k < 4032 → f k = false := by
  obtain ⟨K, h1, rfl, h3, -⟩ := h
  have h4 : K ≤ 128 := (nI_leI (b := 128) (by omega) (by decide)).mp c
  exact fun k a b => h3 k (by omega) b
theorem tx_128 {f : Nat → Bool} {i : Nat} (hend : ∀ k, 128 ≤ k → k < 4032 → f k = false) (hi : i < 4032) (h : f i = true) : i < 128 := by
  rcases Nat.lt_or_ge i 128 with k | k
  · exact k
  · exact (tf_ h (hend i k hi)).elim
def pre2 (t : List Int32) : List Int32 := if t.length ≤ 1 then t else t ++ [44, 32]
theorem wt_s {f : Nat → Bool} {i : Nat} (h : f i = true) : wtL f (i + 1) = pre2 (wtL f i) ++ dgl i := by
  show (if f i = true then _ else _) = _
  rw [if_pos h]
  rfl
theorem wt_n {f : Nat → Bool} {i : Nat} (h : f i = false) : wtL f (i + 1) = wtL f i := by
  show (if f i = true then _ else _) = _
  rw [if_neg (by rw [h]; exact Bool.false_ne_true)]
theorem wt_hi {f : Nat → Bool} (hend : ∀ k, 128 ≤ k → k < 4032 → f k = false) : ∀ n, 128 + n ≤ 4032 → wtL f (128 + n) = wtL f 128 := by
  intro n
  induction n with
  | zero => exact fun _ => rfl
  | succ n ih =>
    intro h
    rw [← Nat.add_assoc, wt_n (hend _ (by omega) (by omega)), ih (by omega)]
theorem wt_b {f : Nat → Bool} {i : Nat} (hend : ∀ k, 128 ≤ k → k < 4032 → f k = false) (hi : i ≤ 4032) : (wtL f i).length ≤ 529 := by
  have key : ∀ j, j ≤ 128 → (wtL f j).length ≤ 529 := by
    intro j hj
    have h1 := (wt_len f j hj).2.2
    have h2 : tlen j ≤ 529 := (show ∀ j, j < 129 → tlen j ≤ 529 by decide +kernel) j (by omega)
    omega
  by_cases h : i ≤ 128
  · exact key i h
  · obtain ⟨n, rfl⟩ : ∃ n, i = 128 + n := ⟨i - 128, by omega⟩
    rw [wt_hi hend n hi]
    exact key 128 (Nat.le_refl _)
theorem wt_rm {f : Nat → Bool} {i : Nat} {t : List Int32} (n : Nat) (hend : ∀ k, 128 ≤ k → k < 4032 → f k = false) (hi : i ≤ 4032) (h : t.length = (wtL f i).length + n) (hn : n ≤ 100) : t.length < 700 := by
  have := wt_b hend hi
  omega
theorem nb44 : vp_nar .byte (44 : Int32).toInt8.toInt32 = 44 ∧ vp_nar .byte (32 : Int32).toInt8.toInt32 = 32 ∧ vp_nar .byte (123 : Int32).toInt8.toInt32 = 123 ∧ vp_nar .byte (125 : Int32).toInt8.toInt32 = 125 := by decide +kernel
theorem nbd : ∀ d, d < 10 → vp_nar .byte (nI (48 + d)).toInt8.toInt32 = nI (48 + d) := by decide +kernel
theorem tx_0 {f : Nat → Bool} {v : StR} (h : txR v ([] ++ [vp_nar .byte (123 : Int32).toInt8.toInt32])) : txR v (wtL f 0) := by
  rw [nb44.2.2.1] at h
  exact h
theorem p2_le {f : Nat → Bool} {i : Nat} (hend : ∀ k, 128 ≤ k → k < 4032 → f k = false) (hi : i ≤ 4032) (c : nI (wtL f i).length ≤ 1) : pre2 (wtL f i) = wtL f i := by
  have h := wt_b hend hi
  exact if_pos ((nI_leI (b := 1) (by omega) (by decide)).mp c)
theorem p2_gt {f : Nat → Bool} {i : Nat} (c : ¬ nI (wtL f i).length ≤ 1) : pre2 (wtL f i) = (wtL f i ++ [vp_nar .byte (44 : Int32).toInt8.toInt32]) ++ [vp_nar .byte (32 : Int32).toInt8.toInt32] := by
  rw [nb44.1, nb44.2.1, List.append_assoc]
  exact if_neg (fun h => c (nI_le (b := 1) h (by decide)))
theorem dl_3 {i : Nat} {t : List Int32} (hi : i < 128) (c : ¬ nI i ≤ 99) : t ++ dgl i = ((t ++ [vp_nar .byte (nI (48 + i / 100 % 10)).toInt8.toInt32]) ++ [vp_nar .byte (nI (48 + i / 10 % 10)).toInt8.toInt32]) ++ [vp_nar .byte (nI (48 + i / 1 % 10)).toInt8.toInt32] := by
  have h : ¬ i ≤ 99 := fun h => c (nI_le (b := 99) h (by decide))
  rw [nbd _ (by omega), nbd _ (by omega), nbd _ (by omega), Nat.div_one, show i / 100 % 10 = i / 100 by omega]
  unfold dgl
  rw [if_neg (show ¬ i < 100 by omega), if_neg (show ¬ i < 10 by omega), List.append_assoc, List.append_assoc, List.append_assoc]
theorem dl_2 {i : Nat} {t : List Int32} (hi : i < 128) (c : nI i ≤ 99) (c2 : ¬ nI i ≤ 9) : t ++ dgl i = (t ++ [vp_nar .byte (nI (48 + i / 10 % 10)).toInt8.toInt32]) ++ [vp_nar .byte (nI (48 + i / 1 % 10)).toInt8.toInt32] := by
  have h : i ≤ 99 := (nI_leI (b := 99) (by omega) (by decide)).mp c
  have h2 : ¬ i ≤ 9 := fun h => c2 (nI_le (b := 9) h (by decide))
  rw [nbd _ (by omega), nbd _ (by omega), Nat.div_one]
  unfold dgl
  rw [if_pos (show i < 100 by omega), if_neg (show ¬ i < 10 by omega), List.nil_append, List.append_assoc]
theorem dl_1 {i : Nat} {t : List Int32} (hi : i < 128) (c : nI i ≤ 99) (c2 : nI i ≤ 9) : t ++ dgl i = t ++ [vp_nar .byte (nI (48 + i / 1 % 10)).toInt8.toInt32] := by
  have h2 : i ≤ 9 := (nI_leI (b := 9) (by omega) (by decide)).mp c2
  rw [nbd _ (by omega), Nat.div_one]
  unfold dgl
  rw [if_pos (show i < 100 by omega), if_pos (show i < 10 by omega), List.nil_append, List.nil_append]
theorem dg_x {i d : Nat} (hi : i < 128) (h0 : 0 < d) (hd : d < 2 ^ 31) : 48 + (nI i / nI d - nI i / nI d / 10 * 10) = nI (48 + i / d % 10) := by
  rw [pk_div (by omega) h0 hd, show nI (i / d) - nI (i / d) / 10 * 10 = nI (i / d % 10) from pk_rem (d := 10) (Nat.lt_of_le_of_lt (Nat.div_le_self _ _) (by omega)) (by decide) (by decide), show (48 : Int32) = nI 48 from rfl, nI_add]
theorem dg_100 {i : Nat} (hi : i < 128) : 48 + (nI i / 100 - nI i / 100 / 10 * 10) = nI (48 + i / 100 % 10) := dg_x (d := 100) hi (by decide) (by decide)
theorem dg_10 {i : Nat} (hi : i < 128) : 48 + (nI i / 10 - nI i / 10 / 10 * 10) = nI (48 + i / 10 % 10) := dg_x (d := 10) hi (by decide) (by decide)
theorem dg_1 {i : Nat} (hi : i < 128) : 48 + (nI i / 1 - nI i / 1 / 10 * 10) = nI (48 + i / 1 % 10) := dg_x (d := 1) hi (by decide) (by decide)
theorem bz_v {v u : StR} {j i : Nat} (h : v.1 = u.1) : bz (v.1 j) i = bz (u.1 j) i := by
  rw [h]
theorem wtT_e {f : Nat → Bool} (hend : ∀ k, 128 ≤ k → k < 4032 → f k = false) : wtT f = wtL f 4032 ++ [vp_nar .byte (125 : Int32).toInt8.toInt32] := by
  rw [nb44.2.2.2, show 4032 = 128 + 3904 from rfl, wt_hi hend 3904 (by decide)]
  rfl
