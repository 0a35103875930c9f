/-! walk: the ones in their order, each with its rank -/
def wkf (b : Nat → Bool) (o : Nat) : Nat → Nat × Nat → Nat × Nat
  | 0, q => q
  | m + 1, q => if b m = true then ((wkf b o m q).1 + 1, (wkf b o m q).2 + ((wkf b o m q).1 + 1) * (o + m)) else wkf b o m q
theorem wkf_c {b d : Nat → Bool} (o : Nat) (q : Nat × Nat) : ∀ m, (∀ k, k < m → b k = d k) → wkf b o m q = wkf d o m q := by
  intro m
  induction m with
  | zero => exact fun _ => rfl
  | succ m ih =>
    intro h
    unfold wkf
    rw [ih (fun k hk => h k (by omega)), h m (by omega)]
theorem wkf_a (b : Nat → Bool) (o m : Nat) (q : Nat × Nat) : ∀ k, wkf b o (m + k) q = wkf (fun j => b (m + j)) (o + m) k (wkf b o m q) := by
  intro k
  induction k with
  | zero => rfl
  | succ k ih =>
    show (if b (m + k) = true then ((wkf b o (m + k) q).1 + 1, (wkf b o (m + k) q).2 + ((wkf b o (m + k) q).1 + 1) * (o + (m + k))) else wkf b o (m + k) q) = (if b (m + k) = true then _ else _)
    rw [ih, Nat.add_assoc]
theorem wkf_n {b : Nat → Bool} (o : Nat) (q : Nat × Nat) : ∀ m, (∀ k, k < m → b k = false) → wkf b o m q = q := by
  intro m
  induction m with
  | zero => exact fun _ => rfl
  | succ m ih =>
    intro h
    unfold wkf
    rw [if_neg (by rw [h m (by omega)]; exact Bool.false_ne_true), ih (fun k hk => h k (by omega))]
theorem wkf_1 {b d : Nat → Bool} {r : Nat} (o : Nat) (q : Nat × Nat) (h1 : b r = true) (h2 : ∀ k, k < r → b k = false) (hd : ∀ k, d k = if k = r then false else b k) : ∀ m, r < m → wkf b o m q = wkf d o m (q.1 + 1, q.2 + (q.1 + 1) * (o + r)) := by
  intro m
  induction m with
  | zero => exact fun h => absurd h (by omega)
  | succ m ih =>
    intro h
    by_cases e : m = r
    · subst e
      unfold wkf
      rw [if_pos h1, wkf_n o q m h2, if_neg (by rw [hd m, if_pos rfl]; exact Bool.false_ne_true), wkf_n o _ m (fun k hk => by rw [hd k, if_neg (by omega)]; exact h2 k hk)]
    · unfold wkf
      rw [ih (by omega), show d m = b m by rw [hd m, if_neg e]]
theorem cnt_1 {b d : Nat → Bool} {r : Nat} (h1 : b r = true) (hd : ∀ k, d k = if k = r then false else b k) : ∀ m, r < m → cnt b m = cnt d m + 1 := by
  intro m
  induction m with
  | zero => exact fun h => absurd h (by omega)
  | succ m ih =>
    intro h
    by_cases e : m = r
    · subst e
      show cnt b m + _ = cnt d m + _ + 1
      rw [if_pos h1, if_neg (by rw [hd m, if_pos rfl]; exact Bool.false_ne_true), cnt_c m (fun k hk => show b k = d k by rw [hd k, if_neg (by omega)])]
    · show cnt b m + _ = cnt d m + _ + 1
      rw [ih (by omega), show d m = b m by rw [hd m, if_neg e]]
      omega
theorem cnt_0 {b : Nat → Bool} : ∀ m, cnt b m = 0 → ∀ k, k < m → b k = false := by
  intro m
  induction m with
  | zero => exact fun _ k h => absurd h (by omega)
  | succ m ih =>
    intro h k hk
    have h' : cnt b m + (if b m = true then 1 else 0) = 0 := h
    by_cases e : k = m
    · subst e
      cases hb : b k with
      | false => rfl
      | true =>
        rw [if_pos hb] at h'
        omega
    · exact ih (by omega) k (by omega)
theorem rkN_s (i : Nat) (q : Int64 × Int64 × Int64) : ∀ n, rkN i q (n + 1) = rkN i (rk1 i q) n := by
  intro n
  induction n with
  | zero => rfl
  | succ n ih =>
    show rk1 i (rkN i q (n + 1)) = rk1 i (rkN i (rk1 i q) n)
    rw [ih]
theorem rk_in (i : Nat) (hi : i < 63) : ∀ (n : Nat) (x : Int64) (R S : Nat), cnt (bl x) 64 = n → (rkN i (x, lN R, lN S) n).2 = (lN (wkf (bl x) (64 * i) 64 (R, S)).1, lN (wkf (bl x) (64 * i) 64 (R, S)).2) := by
  intro n
  induction n with
  | zero =>
    intro x R S h
    rw [wkf_n _ _ 64 (cnt_0 64 h)]
    rfl
  | succ n ih =>
    intro x R S h
    have hx : ¬ x = 0 := by
      intro e
      rw [cnt_c (d := fun _ => false) 64 (fun k _ => bl_eq0 e k)] at h
      have : cnt (fun _ => false) 64 = 0 := by decide
      omega
    obtain ⟨r, hr, b1, b2, b3, b4⟩ := nt_ok hx
    have e1 : rk1 i (x, lN R, lN S) = (x &&& (x - 1), lN (R + 1), lN (S + (R + 1) * (64 * i + r))) := by
      unfold rk1
      show (x &&& (x - 1), lN R + 1, lN S + (lN R + 1) * (64 * nI i + fJ7_numberOfTrailingZeros x).toInt64) = _
      rw [b3, show (64 : Int32) = nI 64 from rfl, pk_mul, nI_add, nI_l (by omega), lN_1, lN_mul, lN_add]
    rw [rkN_s, e1, ih _ _ _ (by have := cnt_1 b1 b4 64 hr; omega), wkf_1 (64 * i) (R, S) b1 b2 b4 64 hr]
theorem rk_out (w : Nat → Int64) : ∀ i, i ≤ 63 → rkO w i = (lN (wkf (rb w) 0 (64 * i) (0, 0)).1, lN (wkf (rb w) 0 (64 * i) (0, 0)).2) := by
  intro i
  induction i with
  | zero => exact fun _ => rfl
  | succ i ih =>
    intro hi
    show (rkN i (w i, rkO w i) (pcN (w i))).2 = _
    rw [ih (by omega), pcN_cnt, rk_in i (by omega) _ _ _ _ rfl, Nat.mul_succ, wkf_a, Nat.zero_add, wkf_c (b := fun j => rb w (64 * i + j)) (d := bl (w i)) (64 * i) _ 64 (fun k hk => rb_at w i hk)]
theorem rk_eq (w : Nat → Int64) : (rkO w 63).2 = lN (wkf (rb w) 0 4032 (0, 0)).2 := by
  rw [rk_out w 63 (Nat.le_refl _)]
