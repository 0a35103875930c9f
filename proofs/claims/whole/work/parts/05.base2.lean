/-! what the class's methods answer and do, in words of the state; bounds and loops -/
theorem vp_in_lit {x M : Int32} {n : Nat} (hM : M.toInt = n) (h0 : ¬ x < 0) (h1 : ¬ M ≤ x) : vp_in x n := by
  rw [Int32.lt_iff_toInt_lt] at h0
  rw [Int32.le_iff_toInt_le] at h1
  have h2 : (0 : Int32).toInt = 0 := rfl
  rw [vp_in_iff]
  omega
theorem i_rf (x : Int32) : x ≤ x := by
  rw [Int32.le_iff_toInt_le]
  exact Int.le_refl _
theorem lp_out {i n : Nat} {M : Int32} (hM : M = nI n) (hi : i ≤ n) (hn : n < 2 ^ 31) (c : M ≤ nI i) : i = n := by
  subst hM
  rw [nI_leI hn (by omega)] at c
  omega
theorem lp_in {i n : Nat} {M : Int32} (hM : M = nI n) (hi : i ≤ n) (c : ¬ M ≤ nI i) : i < n := by
  rcases Nat.lt_or_ge i n with h | h
  · exact h
  · have e : i = n := by omega
    subst e
    subst hM
    exact absurd (i_rf _) c
theorem tr_P {D : va_G} {A : AdB} {u v : StB} {H : Heap} (e : u = v) (h : va_P D bwCl (wB A u) H) : va_P D bwCl (wB A v) H := by
  subst e
  exact h
theorem tr_D {X : Nat → Prop} {A : AdB} {u v : StB} (e : u = v) (h : va_D X (wB A u)) : va_D X (wB A v) := by
  subst e
  exact h
theorem st_P {D : va_G} {A : AdB} {u : StB} {H : Heap} {j : Nat} {f : Nat → Int64} (hj : j < 4) (h : va_P D bwCl ((wB A u).set (8 + j) (aw_ A j, .inl (kJ_ A j, 63, .inr (.inl f)))) H) : va_P D bwCl (wB A (upM u.1 j f, u.2)) H := by
  rw [wB_set A u hj] at h
  exact h
theorem st_D {X : Nat → Prop} {A : AdB} {u : StB} {j : Nat} {f : Nat → Int64} (hj : j < 4) (h : va_D X ((wB A u).set (8 + j) (aw_ A j, .inl (kJ_ A j, 63, .inr (.inl f))))) : va_D X (wB A (upM u.1 j f, u.2)) := by
  rw [wB_set A u hj] at h
  exact h
/-- the first i words from F, the others from g -/
def fl (F g : Nat → Int64) (i : Nat) : Nat → Int64 := fun k => if k < i then F k else g k
theorem fl_0 (F g : Nat → Int64) : fl F g 0 = g := by
  funext k
  exact if_neg (by omega)
theorem fl_ge (F g : Nat → Int64) {i k : Nat} (h : i ≤ k) : fl F g i k = g k := if_neg (by omega)
theorem fl_lt (F g : Nat → Int64) {i k : Nat} (h : k < i) : fl F g i k = F k := if_pos h
theorem fl_s (F g : Nat → Int64) (i : Nat) : vp_updL (fl F g i) i (F i) = fl F g (i + 1) := by
  funext k
  by_cases h : k = i
  · subst h
    rw [pk_uLs, fl_lt _ _ (by omega)]
  · rw [pk_uLn h]
    by_cases h2 : k < i
    · rw [fl_lt _ _ h2, fl_lt _ _ (by omega)]
    · rw [fl_ge _ _ (by omega), fl_ge _ _ (by omega)]
theorem fl_u0 (F : Nat → Int64) (u : StB) (j : Nat) : u = (upM u.1 j (fl F (u.1 j) 0), u.2) := by
  rw [fl_0, upM_id]
theorem fl_uS (F : Nat → Int64) (u : StB) (j i : Nat) {x : Int64} (hx : x = F i) : ((upM (upM u.1 j (fl F (u.1 j) i)) j (vp_updL (upM u.1 j (fl F (u.1 j) i) j) i x), u.2) : StB) = (upM u.1 j (fl F (u.1 j) (i + 1)), u.2) := by
  subst hx
  rw [upM_u, upM_s, fl_s]
/-- a row not yet written from i on, read there -/
theorem fl_rd (F : Nat → Int64) (M : Nat → Nat → Int64) (j o : Nat) {i k : Nat} (h : i ≤ k) : upM M j (fl F (M j) i) o k = M o k := by
  by_cases hq : o = j
  · subst hq
    rw [upM_s, fl_ge _ _ h]
  · rw [upM_n _ _ hq]
def sI (f : Nat → Int32) : Nat → Int32
  | 0 => 0
  | n + 1 => sI f n + f n
def fX0_wordAt (w : Nat → Int64) (p0 : Int32) : Int64 := if p0 < 0 then 0 else if 63 ≤ p0 then 0 else w p0.toNatClampNeg
def fX0_bit (w : Nat → Int64) (p0 : Int32) : Int32 := ((fX0_wordAt w (p0 >>> (6 &&& 31))).toUInt64 >>> ((p0 &&& 63).toInt64.toUInt64 &&& Int64.toUInt64 63)).toInt64.toInt32 &&& 1
def fX0_bitsFrom (w : Nat → Int64) (p0 : Int32) : Int64 := if p0 &&& 63 = 0 then fX0_wordAt w (p0 >>> (6 &&& 31)) else ((fX0_wordAt w (p0 >>> (6 &&& 31))).toUInt64 >>> ((p0 &&& 63).toInt64.toUInt64 &&& Int64.toUInt64 63)).toInt64 ||| (fX0_wordAt w ((p0 >>> (6 &&& 31)) + 1)) <<< ((64 - (p0 &&& 63)).toInt64 &&& 63)
def bcW (w : Nat → Int64) (i : Nat) : Int32 := fJ7_bitCount (w i)
def fX0_ones (w : Nat → Int64) : Int32 := sI (bcW w) 63
def mkC (p1 p2 : Int32) (i : Nat) : Int64 := fX0_lowBits (p2 - 64 * nI i) &&& (fX0_lowBits (p1 - 64 * nI i) ^^^ (-1))
def chW (w : Nat → Int64) (p0 p1 p2 : Int32) (i : Nat) : Int64 := fX0_changed (w i) p0 (mkC p1 p2 i)
def ffW (w : Nat → Int64) (p0 : Int32) (p1 : Int64) (i : Nat) : Int64 := (w i ^^^ p1) &&& (fX0_lowBits (p0 - 64 * nI i) ^^^ (-1))
def luW (w : Nat → Int64) (p0 : Int32) (p1 : Int64) (i : Nat) : Int64 := (w i ^^^ p1) &&& fX0_lowBits (p0 + 1 - 64 * nI i)
/-- the answer of firstFrom, of lastUpTo -/
def pFF (w : Nat → Int64) (p0 : Int32) (p1 : Int64) (r : Int32) : Prop := (∃ i, i < 63 ∧ (∀ k, k < i → ffW w p0 p1 k = 0) ∧ ¬ ffW w p0 p1 i = 0 ∧ r = 64 * nI i + fJ7_numberOfTrailingZeros (ffW w p0 p1 i)) ∨ ((∀ k, k < 63 → ffW w p0 p1 k = 0) ∧ r = -1)
def pLU (w : Nat → Int64) (p0 : Int32) (p1 : Int64) (r : Int32) : Prop := (∃ i, i < 63 ∧ (∀ k, i < k → k < 63 → luW w p0 p1 k = 0) ∧ ¬ luW w p0 p1 i = 0 ∧ r = 64 * nI i + 63 - fJ7_numberOfLeadingZeros (luW w p0 p1 i)) ∨ ((∀ k, k < 63 → luW w p0 p1 k = 0) ∧ r = -1)
def cbW (w v : Nat → Int64) (p0 : Int32) (i : Nat) : Int64 := fX0_combined (w i) p0 (v i)
def tpW (v : Nat → Int64) (p1 p2 : Int32) (i : Nat) : Int64 := fX0_bitsFrom v (p1 + 64 * nI i) &&& fX0_lowBits (p2 - p1 - 64 * nI i)
def zr (w : Nat → Int64) (i : Nat) : Nat → Int64 := fun k => if k < 3 then w k else if k < i then 0 else w k
theorem zr_0 (w : Nat → Int64) : zr w 3 = w := by
  funext k
  unfold zr
  by_cases h : k < 3
  · rw [if_pos h]
  · rw [if_neg h, if_neg h]
theorem zr_s (w : Nat → Int64) {i : Nat} (hi : 3 ≤ i) : vp_updL (zr w i) i 0 = zr w (i + 1) := by
  funext k
  unfold zr vp_updL
  by_cases h : k = i
  · subst h
    rw [if_pos rfl, if_neg (by omega), if_pos (by omega)]
  · rw [if_neg h]
    show (if k < 3 then w k else if k < i then 0 else w k) = _
    by_cases h3 : k < 3
    · rw [if_pos h3, if_pos h3]
    · rw [if_neg h3, if_neg h3]
      by_cases h2 : k < i
      · rw [if_pos h2, if_pos (by omega)]
      · rw [if_neg h2, if_neg (by omega)]
theorem zr_u0 (u : StB) (j : Nat) : u = (upM u.1 j (zr (u.1 j) 3), u.2) := by
  rw [zr_0, upM_id]
theorem zr_uS (u : StB) (j i : Nat) (hi : 3 ≤ i) : ((upM (upM u.1 j (zr (u.1 j) i)) j (vp_updL (upM u.1 j (zr (u.1 j) i) j) i 0), u.2) : StB) = (upM u.1 j (zr (u.1 j) (i + 1)), u.2) := by
  rw [upM_u, upM_s, zr_s _ hi]
def twW (w : Nat → Int64) (a b c : Int64) : Nat → Int64 := vp_updL (vp_updL (vp_updL (zr w 63) 0 a) 1 b) 2 c
theorem tw_uE (u : StB) (j : Nat) (a b c : Int64) : ((upM (upM (upM (upM u.1 j (zr (u.1 j) 63)) j (vp_updL (upM u.1 j (zr (u.1 j) 63) j) 0 a)) j (vp_updL (upM (upM u.1 j (zr (u.1 j) 63)) j (vp_updL (upM u.1 j (zr (u.1 j) 63) j) 0 a) j) 1 b)) j (vp_updL (upM (upM (upM u.1 j (zr (u.1 j) 63)) j (vp_updL (upM u.1 j (zr (u.1 j) 63) j) 0 a)) j (vp_updL (upM (upM u.1 j (zr (u.1 j) 63)) j (vp_updL (upM u.1 j (zr (u.1 j) 63) j) 0 a) j) 1 b) j) 2 c), u.2) : StB) = (upM u.1 j (twW (u.1 j) a b c), u.2) := by
  simp only [upM_u, upM_s]
  rfl
def pSO (w v : Nat → Int64) (r : Int32) : Prop := (r = 1 ∧ ∃ i, i < 63 ∧ ¬ w i &&& v i = 0) ∨ (r = 0 ∧ ∀ i, i < 63 → w i &&& v i = 0)
def pSM (w v : Nat → Int64) (r : Int32) : Prop := (r = 0 ∧ ∃ i, i < 63 ∧ ¬ w i = v i) ∨ (r = 1 ∧ ∀ i, i < 63 → w i = v i)
/-- walk: rest, rank, sum after one more 1, after n, after all of i words -/
def rk1 (i : Nat) (q : Int64 × Int64 × Int64) : Int64 × Int64 × Int64 := (q.1 &&& (q.1 - 1), q.2.1 + 1, q.2.2 + (q.2.1 + 1) * (64 * nI i + fJ7_numberOfTrailingZeros q.1).toInt64)
def rkN (i : Nat) (q : Int64 × Int64 × Int64) : Nat → Int64 × Int64 × Int64
  | 0 => q
  | n + 1 => rk1 i (rkN i q n)
def pcN (x : Int64) : Nat := (fJ7_bitCount x).toNatClampNeg
def rkO (w : Nat → Int64) : Nat → Int64 × Int64
  | 0 => (0, 0)
  | i + 1 => (rkN i (w i, rkO w i) (pcN (w i))).2
theorem lp0_out {k C : Nat} (h : k ≤ C) (hC : C < 2 ^ 31) (c : nI (C - k) ≤ 0) : k = C := by
  rw [← nI_0, nI_leI (by omega) (by omega)] at c
  omega
theorem lp0_in {k C : Nat} (h : k ≤ C) (c : ¬ nI (C - k) ≤ 0) : k < C := by
  rcases Nat.lt_or_ge k C with q | q
  · exact q
  · exact absurd (by rw [show C - k = 0 by omega, nI_0]; exact i_rf _) c
/-! a piece of words: what is read isn't written yet -/
theorem wa_ext {w v : Nat → Int64} {i : Nat} (h : ∀ k, i ≤ k → w k = v k) {p : Int32} (hp : i ≤ p.toNatClampNeg) : fX0_wordAt w p = fX0_wordAt v p := by
  unfold fX0_wordAt
  rw [h _ hp]
theorem pc_of {p1 p2 : Int32} (h : ¬ fX2_isPiece p1 p2 = 0) : ∃ a b : Nat, a ≤ b ∧ b ≤ 4001 ∧ p1 = nI a ∧ p2 = nI b := by
  unfold fX2_isPiece at h
  by_cases c1 : p1 < 0
  · rw [if_pos c1] at h
    exact absurd rfl h
  · rw [if_neg c1] at h
    by_cases c2 : p2 < p1
    · rw [if_pos c2] at h
      exact absurd rfl h
    · rw [if_neg c2] at h
      by_cases c3 : 4001 < p2
      · rw [if_pos c3] at h
        exact absurd rfl h
      · rw [Int32.lt_iff_toInt_lt] at c1 c2 c3
        have e0 : (0 : Int32).toInt = 0 := rfl
        have e1 : (4001 : Int32).toInt = 4001 := rfl
        obtain ⟨a, ha, rfl⟩ := nI_of (x := p1) (by rw [Int32.lt_iff_toInt_lt]; omega)
        obtain ⟨b, hb, rfl⟩ := nI_of (x := p2) (by rw [Int32.lt_iff_toInt_lt]; omega)
        rw [nI_toInt ha] at c2
        rw [nI_toInt hb] at c2 c3
        exact ⟨a, b, by omega, by omega, rfl, rfl⟩
theorem bf_ext {w v : Nat → Int64} {a i : Nat} (ha : a ≤ 4001) (hi : i ≤ 63) (h : ∀ k, i ≤ k → w k = v k) : fX0_bitsFrom w (nI a + 64 * nI i) = fX0_bitsFrom v (nI a + 64 * nI i) := by
  have e : nI a + 64 * nI i = nI (a + 64 * i) := by
    rw [show (64 : Int32) = nI 64 from rfl, pk_mul, nI_add]
  have e6 : nI (a + 64 * i) >>> ((6 : Int32) &&& 31) = nI ((a + 64 * i) / 2 ^ 6) := pk_shrN (by omega) _ 6 (by decide)
  unfold fX0_bitsFrom
  rw [e, e6, wa_ext h (by rw [nI_clamp (by omega)]; omega), wa_ext h (p := nI ((a + 64 * i) / 2 ^ 6) + 1) (by rw [nI_1, nI_clamp (by omega)]; omega)]
theorem tp_uS (u : StB) (j o i : Nat) {p1 p2 : Int32} (hp : ¬ fX2_isPiece p1 p2 = 0) (hi : i ≤ 63) : fX0_bitsFrom (upM u.1 j (fl (tpW (u.1 o) p1 p2) (u.1 j) i) o) (p1 + 64 * nI i) &&& fX0_lowBits (p2 - p1 - 64 * nI i) = tpW (u.1 o) p1 p2 i := by
  obtain ⟨a, b, h1, h2, rfl, rfl⟩ := pc_of hp
  unfold tpW
  rw [bf_ext (by omega) hi (fun k hk => fl_rd _ u.1 j o hk)]
/-! rows that there are -/
theorem row_in {p : Int32} (h : ¬ fX2_isRow p = 0) : vp_in p 4 := by
  unfold fX2_isRow at h
  by_cases c1 : p < 0
  · rw [if_pos c1] at h
    exact absurd rfl h
  · rw [if_neg c1] at h
    by_cases c2 : 4 ≤ p
    · rw [if_pos c2] at h
      exact absurd rfl h
    · exact vp_in_lit rfl c1 c2
theorem row_lt {p : Int32} (h : ¬ fX2_isRow p = 0) : p.toNatClampNeg < 4 := Nat.not_le.mp fun q => row_in h (Or.inr q)
/-! the latest text -/
def txB (v : StB) (t : List Int32) : Prop := v.2.2 = nI t.length ∧ t.length ≤ 530 ∧ ∀ k, k < t.length → v.2.1 k = t.getD k 0
def adT (t : List Int32) (c : Int32) : List Int32 := if t.length < 530 then t ++ [c] else t
theorem tx_nil (M : Nat → Nat → Int64) (f : Nat → Int32) : txB (M, f, 0) [] := ⟨rfl, by decide, fun k h => absurd h (by simp)⟩
theorem ad_lt {u : StB} {t : List Int32} (ht : txB u t) (c : ¬ 530 ≤ u.2.2) : t.length < 530 := by
  obtain ⟨h1, h2, -⟩ := ht
  rw [h1] at c
  exact lp_in (M := 530) rfl h2 c
theorem ad_in {u : StB} {t : List Int32} (ht : txB u t) (c : ¬ 530 ≤ u.2.2) : vp_in u.2.2 530 := by
  have h := ad_lt ht c
  rw [ht.1]
  exact vp_in_nI h (by decide)
theorem ad_ok {u : StB} {t : List Int32} (x : Int32) (ht : txB u t) (c : ¬ 530 ≤ u.2.2) : txB (u.1, upd u.2.1 u.2.2.toNatClampNeg x, u.2.2 + 1) (adT t x) := by
  have h := ad_lt ht c
  obtain ⟨h1, h2, h3⟩ := ht
  have e : adT t x = t ++ [x] := if_pos h
  have ec : u.2.2.toNatClampNeg = t.length := by rw [h1, nI_clamp (by omega)]
  rw [e]
  refine ⟨?_, ?_, fun k hk => ?_⟩
  · show u.2.2 + 1 = _
    rw [h1, nI_1, List.length_append]
    rfl
  · rw [List.length_append]
    exact h
  · show upd u.2.1 u.2.2.toNatClampNeg x k = _
    rw [ec]
    rw [List.length_append, List.length_singleton] at hk
    by_cases hq : k = t.length
    · subst hq
      rw [pk_us]
      simp
    · rw [pk_un hq, h3 k (by omega)]
      simp [List.getElem?_append_left (show k < t.length by omega)]
theorem ad_no {u : StB} {t : List Int32} (x : Int32) (ht : txB u t) (c : 530 ≤ u.2.2) : txB u (adT t x) := by
  have h : ¬ t.length < 530 := fun h => by
    rw [ht.1] at c
    have := lp_out (n := 530) rfl ht.2.1 (by decide) c
    omega
  have e : adT t x = t := if_neg h
  rw [e]
  exact ht
def dgT (t : List Int32) (d : Int32) : List Int32 := adT t (vp_nar .char ((48 + d).toUInt32 % 65536).toInt32)
def ap1 (t : List Int32) : List Int32 := if nI t.length ≤ 1 then t else adT (adT t (vp_nar .char 44)) (vp_nar .char 32)
def ap2 (p : Int32) (t : List Int32) : List Int32 := if p < 100 then t else dgT t (p / 100)
def ap3 (p : Int32) (t : List Int32) : List Int32 := if p < 10 then t else dgT t ((p / 10) - (p / 10) / 10 * 10)
def apT (p : Int32) (t : List Int32) : List Int32 := dgT (ap3 p (ap2 p (ap1 t))) (p - p / 10 * 10)
def wrL (w : Nat → Int64) : Nat → List Int32
  | 0 => adT [] (vp_nar .char 123)
  | n + 1 => if fX0_bit w (nI n) = 1 then apT (nI n) (wrL w n) else wrL w n
def wrT (w : Nat → Int64) : List Int32 := adT (wrL w 128) (vp_nar .char 125)
/-! the count of a loop that counts down: n places are left, the next is n - 1 -/
def iD : Nat → Int32
  | 0 => -1
  | n + 1 => nI n
theorem iD_m1 (n : Nat) : nI n + (-1) = iD n := by
  cases n with
  | zero => rfl
  | succ n => exact pk_m1 n
theorem lu_s {p : Nat → Prop} {i : Nat} (h : ∀ k, i + 1 ≤ k → k < 63 → p k) (hi : p i) : ∀ k, i ≤ k → k < 63 → p k := by
  intro k h1 h2
  by_cases e : k = i
  · exact e ▸ hi
  · exact h k (by omega) h2
section GD
variable {p : Program} {l : Launch} {e : Env} {R : Room} {s : State} {m : MethodId} {args : Array Value} {below : List Frame} {meth : Method} {c : Code} {H : Heap} {locs : List Loc} {cells slots : Nat} {Q : State → Prop} {ls : Array Slot}
theorem w_loopD {N : Nat} {pc : Nat} (Iv : Nat → Heap → List Loc → Array Slot → Prop) (h0 : Iv N H locs ls)
    (base : ∀ (H : Heap) (locs : List Loc) (ls : Array Slot), Iv 0 H locs ls → W p l e R s m args below meth c H locs cells slots Q (F0 m pc ls []))
    (step : ∀ (i : Nat) (H : Heap) (locs : List Loc) (ls : Array Slot), i < N → Iv (i + 1) H locs ls → (∀ (H' : Heap) (locs' : List Loc) (ls' : Array Slot), Iv i H' locs' ls' → W p l e R s m args below meth c H' locs' cells slots Q (F0 m pc ls' [])) → W p l e R s m args below meth c H locs cells slots Q (F0 m pc ls [])) :
    W p l e R s m args below meth c H locs cells slots Q (F0 m pc ls []) := by
  have key : ∀ (n : Nat), n ≤ N → ∀ (H : Heap) (locs : List Loc) (ls : Array Slot), Iv n H locs ls → W p l e R s m args below meth c H locs cells slots Q (F0 m pc ls []) := by
    intro n
    induction n with
    | zero => exact fun _ H locs ls hI => base H locs ls hI
    | succ n ih => exact fun hn H locs ls hI => step n H locs ls (by omega) hI (fun H' locs' ls' hI' => ih (by omega) H' locs' ls' hI')
  exact key N (Nat.le_refl _) H locs ls h0
end GD

def fX1_codeAt (u : StB) (p0 : Int32) : Int32 := if p0 < 0 then -2 else if p0 < u.2.2 then u.2.1 p0.toNatClampNeg else -2
theorem ca_in {u : StB} {t : List Int32} {p : Int32} (ht : txB u t) (c1 : ¬ p < 0) (c2 : p < u.2.2) : vp_in p 530 := by
  obtain ⟨h1, h2, -⟩ := ht
  rw [h1] at c2
  rw [Int32.lt_iff_toInt_lt] at c1 c2
  rw [nI_toInt (by omega)] at c2
  have e0 : (0 : Int32).toInt = 0 := rfl
  rw [vp_in_iff]
  omega
theorem pcN_lt (x : Int64) : pcN x < 2 ^ 31 := by
  unfold pcN
  have h := (fJ7_bitCount x).toInt_lt
  have e : (fJ7_bitCount x).toNatClampNeg = (fJ7_bitCount x).toInt.toNat := rfl
  omega
theorem rk_dec {k C : Nat} (h : k < C) : nI (C - k) + (-1) = nI (C - (k + 1)) := by
  rw [nI_dec (by omega)]
  congr 1
