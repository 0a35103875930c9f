/-! one bit, and the text -/
theorem nI_1b (n : Nat) : nI n &&& 1 = nI (n % 2) := by
  rw [pk_and (nI n) 1 (by decide)]
  have e : (nI n).toBitVec.toNat = n % 2 ^ 32 := BitVec.toNat_ofNat _ _
  rw [e]
  congr 1
  omega
def b01 (b : Bool) : Int32 := if b = true then 1 else 0
theorem bt_eq (w : Nat → Int64) {n : Nat} (hn : n < 4032) : fX0_bit w (nI n) = b01 (rb w n) := by
  have e6 : nI n >>> ((6 : Int32) &&& 31) = nI (n / 2 ^ 6) := pk_shrN (by omega) _ 6 (by decide)
  have em : nI n &&& 63 = nI (n % 2 ^ 6) := pk_andN (by omega) 6 (by decide)
  unfold fX0_bit rb b01
  rw [e6, em, wa_n w (by omega), if_pos (show n / 2 ^ 6 < 63 by omega), show n / 2 ^ 6 = n / 64 from rfl, show n % 2 ^ 6 = n % 64 from rfl]
  obtain ⟨m, hm, e⟩ := wb_of (w (n / 64))
  rw [e, wb_shr hm (by omega), lN_i, nI_1b, bl_lt hm, Nat.testBit_eq_decide_div_mod_eq]
  by_cases h : m / 2 ^ (n % 64) % 2 = 1
  · rw [decide_eq_true h, if_pos rfl, h]
    rfl
  · rw [decide_eq_false h, if_neg Bool.false_ne_true, show m / 2 ^ (n % 64) % 2 = 0 by omega]
    rfl
theorem b01_1 (b : Bool) : b01 b = 1 ↔ b = true := by
  cases b <;> decide
def dgl (n : Nat) : List Int32 := (if n < 100 then [] else [nI (48 + n / 100)]) ++ (if n < 10 then [] else [nI (48 + n / 10 % 10)]) ++ [nI (48 + n % 10)]
def wtL (b : Nat → Bool) : Nat → List Int32
  | 0 => [123]
  | n + 1 => if b n = true then (if (wtL b n).length ≤ 1 then wtL b n else wtL b n ++ [44, 32]) ++ dgl n else wtL b n
def wtT (b : Nat → Bool) : List Int32 := wtL b 128 ++ [125]
/-- how many signs the first n places can need -/
def tlen (n : Nat) : Nat := 1 + (if n ≤ 10 then n else if n ≤ 100 then 2 * n - 10 else 3 * n - 110) + 2 * (n - 1)
theorem dgl_len {n : Nat} (h : n < 128) : (dgl n).length = if n < 10 then 1 else if n < 100 then 2 else 3 := by
  unfold dgl
  rw [List.length_append, List.length_append]
  by_cases h1 : n < 10
  · rw [if_pos (show n < 100 by omega), if_pos h1, if_pos h1]
    rfl
  · rw [if_neg h1, if_neg h1]
    by_cases h2 : n < 100
    · rw [if_pos h2, if_pos h2]
      rfl
    · rw [if_neg h2, if_neg h2]
      rfl
theorem tl_s : ∀ n, n < 128 → tlen n + (if n < 10 then 1 else if n < 100 then 2 else 3) + (if 1 ≤ n then 2 else 0) ≤ tlen (n + 1) := by decide +kernel
theorem wt_len (b : Nat → Bool) : ∀ n, n ≤ 128 → 1 ≤ (wtL b n).length ∧ ((wtL b n).length = 1 ∨ 1 ≤ n) ∧ (wtL b n).length ≤ tlen n := by
  intro n
  induction n with
  | zero => exact fun _ => ⟨Nat.le_refl 1, Or.inl rfl, Nat.le_refl 1⟩
  | succ n ih =>
    intro hn
    obtain ⟨h1, h2, h3⟩ := ih (by omega)
    unfold wtL
    have hd := dgl_len (show n < 128 by omega)
    have hs := tl_s n (by omega)
    by_cases hb : b n = true
    · rw [if_pos hb]
      by_cases hl : (wtL b n).length ≤ 1
      · rw [if_pos hl, List.length_append, hd]
        refine ⟨by omega, Or.inr (by omega), ?_⟩
        omega
      · rw [if_neg hl, List.length_append, List.length_append, hd]
        have h1n : 1 ≤ n := by omega
        rw [if_pos h1n] at hs
        refine ⟨by omega, Or.inr (by omega), ?_⟩
        show (wtL b n).length + 2 + _ ≤ _
        omega
    · rw [if_neg hb]
      exact ⟨h1, Or.inr (by omega), by omega⟩
theorem adT_n {t : List Int32} (c : Int32) (h : t.length < 530) : adT t c = t ++ [c] := if_pos h
theorem ch_d : ∀ q, q < 10 → vp_nar .char ((48 + nI q).toUInt32 % 65536).toInt32 = nI (48 + q) := by decide +kernel
theorem dgT_n {t : List Int32} {q : Nat} (hq : q < 10) (h : t.length < 530) : dgT t (nI q) = t ++ [nI (48 + q)] := by
  unfold dgT
  rw [ch_d q hq, adT_n _ h]
theorem c44 : vp_nar .char 44 = 44 ∧ vp_nar .char 32 = 32 ∧ vp_nar .char 123 = 123 ∧ vp_nar .char 125 = 125 := by decide +kernel
theorem apT_n {t : List Int32} {n : Nat} (hn : n < 128) (h : t.length ≤ 524) : apT (nI n) t = (if t.length ≤ 1 then t else t ++ [44, 32]) ++ dgl n := by
  have e1 : ap1 t = if t.length ≤ 1 then t else t ++ [44, 32] := by
    unfold ap1
    by_cases h1 : t.length ≤ 1
    · rw [if_pos h1, if_pos (show nI t.length ≤ 1 from nI_le (b := 1) h1 (by decide))]
    · rw [if_neg h1, if_neg (show ¬ nI t.length ≤ 1 from nI_ge (a := 1) (by omega) (by omega)), adT_n _ (show t.length < 530 by omega), adT_n _ (by rw [List.length_append]; show t.length + 1 < 530; omega), c44.1, c44.2.1, List.append_assoc]
      rfl
  have l1 : (ap1 t).length ≤ t.length + 2 := by
    rw [e1]
    by_cases h1 : t.length ≤ 1
    · rw [if_pos h1]
      omega
    · rw [if_neg h1, List.length_append]
      exact Nat.le_refl _
  unfold apT
  rw [← e1]
  generalize ap1 t = t1 at l1 ⊢
  have e100 : nI n / 100 = nI (n / 100) := pk_div (d := 100) (by omega) (by decide) (by decide)
  have e10 : nI n / 10 = nI (n / 10) := pk_div (d := 10) (by omega) (by decide) (by decide)
  have er : nI n - nI n / 10 * 10 = nI (n % 10) := pk_rem (d := 10) (by omega) (by decide) (by decide)
  have er2 : nI (n / 10) - nI (n / 10) / 10 * 10 = nI (n / 10 % 10) := pk_rem (d := 10) (by omega) (by decide) (by decide)
  have e2 : ap2 (nI n) t1 = t1 ++ (if n < 100 then [] else [nI (48 + n / 100)]) := by
    unfold ap2
    by_cases h1 : n < 100
    · rw [if_pos h1, if_pos (show nI n < 100 from nI_lt (b := 100) h1 (by decide)), List.append_nil]
    · rw [if_neg h1, if_neg (show ¬ nI n < 100 from nI_nlt (b := 100) (by omega) (by omega)), e100, dgT_n (by omega) (by omega)]
  have l2 : (ap2 (nI n) t1).length ≤ t1.length + 1 := by
    rw [e2, List.length_append]
    split
    · show t1.length + 0 ≤ _
      omega
    · exact Nat.le_refl _
  unfold dgl
  rw [er, List.append_assoc, ← List.append_assoc t1, ← e2]
  generalize ap2 (nI n) t1 = t2 at l2 ⊢
  have e3 : ap3 (nI n) t2 = t2 ++ (if n < 10 then [] else [nI (48 + n / 10 % 10)]) := by
    unfold ap3
    by_cases h1 : n < 10
    · rw [if_pos h1, if_pos (show nI n < 10 from nI_lt (b := 10) h1 (by decide)), List.append_nil]
    · rw [if_neg h1, if_neg (show ¬ nI n < 10 from nI_nlt (b := 10) (by omega) (by omega)), e10, er2, dgT_n (by omega) (by omega)]
  have l3 : (ap3 (nI n) t2).length ≤ t2.length + 1 := by
    rw [e3, List.length_append]
    split
    · show t2.length + 0 ≤ _
      omega
    · exact Nat.le_refl _
  rw [← List.append_assoc, ← e3]
  exact dgT_n (by omega) (by omega)
theorem wr_eq (w : Nat → Int64) : ∀ n, n ≤ 128 → wrL w n = wtL (rb w) n := by
  intro n
  induction n with
  | zero =>
    intro _
    show adT [] _ = _
    rw [adT_n _ (by decide), c44.2.2.1]
    rfl
  | succ n ih =>
    intro hn
    unfold wrL wtL
    rw [ih (by omega), bt_eq w (by omega)]
    by_cases h : rb w n = true
    · rw [if_pos h, if_pos ((b01_1 _).mpr h)]
      refine apT_n (by omega) ?_
      have := (wt_len (rb w) n (by omega)).2.2
      unfold tlen at this
      split at this <;> (try split at this) <;> omega
    · rw [if_neg h, if_neg (fun k => h ((b01_1 _).mp k))]
theorem wrT_eq (w : Nat → Int64) : wrT w = wtT (rb w) := by
  unfold wrT wtT
  have := (wt_len (rb w) 128 (by omega)).2.2
  rw [wr_eq w 128 (by omega), adT_n _ (by unfold tlen at this; simp at this; omega), c44.2.2.2]
