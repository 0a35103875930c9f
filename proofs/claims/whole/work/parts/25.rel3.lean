/-! meet, word, walk, text, octet, next -/
theorem an_t {f g : Nat → Bool} : ∀ n k, k < n → f k = true → g k = true → anB f g n = true := by
  intro n
  induction n with
  | zero => exact fun k h => absurd h (by omega)
  | succ n ih =>
    intro k hk h1 h2
    show (anB f g n || (f n && g n)) = true
    by_cases e : k = n
    · subst e
      rw [h1, h2]
      simp
    · rw [ih k (by omega) h1 h2]
      simp
theorem an_f {f g : Nat → Bool} : ∀ n, (∀ k, k < n → (f k && g k) = false) → anB f g n = false := by
  intro n
  induction n with
  | zero => exact fun _ => rfl
  | succ n ih =>
    intro h
    show (anB f g n || (f n && g n)) = false
    rw [ih (fun k hk => h k (by omega)), h n (by omega)]
    rfl
theorem al_t {f g : Nat → Bool} : ∀ n, (∀ k, k < n → f k = g k) → alB f g n = true := by
  intro n
  induction n with
  | zero => exact fun _ => rfl
  | succ n ih =>
    intro h
    show (alB f g n && (f n == g n)) = true
    rw [ih (fun k hk => h k (by omega)), h n (by omega)]
    simp
theorem al_f {f g : Nat → Bool} : ∀ n k, k < n → ¬ f k = g k → alB f g n = false := by
  intro n
  induction n with
  | zero => exact fun k h => absurd h (by omega)
  | succ n ih =>
    intro k hk h1
    show (alB f g n && (f n == g n)) = false
    by_cases e : k = n
    · subst e
      simp [h1]
    · rw [ih k (by omega) h1]
      rfl
theorem so_eq {w x : Nat → Int64} {f g : Nat → Bool} {q r : Int32} (hf : ∀ k, k < 4032 → f k = rb w k) (hg : ∀ k, k < 4032 → g k = rb x k) (a : pSO w x q) (c : (q = 0 ∧ r = 0) ∨ (¬ q = 0 ∧ r = 1)) : r = b01 (anB f g 4032) := by
  rcases a with ⟨rfl, i, hi, hne⟩ | ⟨rfl, hz⟩
  · rcases c with ⟨c, -⟩ | ⟨-, rfl⟩
    · exact absurd c (by decide)
    · obtain ⟨k, hk, hb⟩ := bl_ne0 hne
      rw [bl_and, Bool.and_eq_true] at hb
      rw [an_t 4032 (64 * i + k) (by omega) (by rw [hf _ (by omega), rb_at w i hk]; exact hb.1) (by rw [hg _ (by omega), rb_at x i hk]; exact hb.2)]
      rfl
  · rcases c with ⟨-, rfl⟩ | ⟨c, -⟩
    · rw [an_f 4032 (fun k hk => ?_)]
      · rfl
      · obtain ⟨i, q, hi, hq, rfl⟩ := sp64 k hk
        rw [hf _ hk, hg _ hk, rb_at w i hq, rb_at x i hq, ← bl_and, hz i hi, bl_0]
    · exact absurd rfl c
theorem sm_eq {w x : Nat → Int64} {f g : Nat → Bool} {q r : Int32} (hf : ∀ k, k < 4032 → f k = rb w k) (hg : ∀ k, k < 4032 → g k = rb x k) (a : pSM w x q) (c : (q = 0 ∧ r = 0) ∨ (¬ q = 0 ∧ r = 1)) : r = b01 (alB f g 4032) := by
  rcases a with ⟨rfl, i, hi, hne⟩ | ⟨rfl, hz⟩
  · rcases c with ⟨-, rfl⟩ | ⟨c, -⟩
    · have hex : ∃ k, k < 64 ∧ ¬ bl (w i) k = bl (x i) k := by
        apply Classical.byContradiction
        intro hn
        apply hne
        apply bl_ext
        intro k hk
        apply Classical.byContradiction
        intro h2
        exact hn ⟨k, hk, h2⟩
      obtain ⟨k, hk, hb⟩ := hex
      rw [al_f 4032 (64 * i + k) (by omega) (by rw [hf _ (by omega), hg _ (by omega), rb_at w i hk, rb_at x i hk]; exact hb)]
      rfl
    · exact absurd rfl c
  · rcases c with ⟨c, -⟩ | ⟨-, rfl⟩
    · exact absurd c (by decide)
    · rw [al_t 4032 (fun k hk => ?_)]
      · rfl
      · rw [hf _ hk, hg _ hk]
        unfold rb
        rw [hz _ (by omega)]
theorem st_meet {u u' : StB} {v v' : StR} {p0 p1 p2 r r' : Int32} (h : Rel u v) (a : q2_meet u p0 p1 p2 r u') (b : q3_meet v p0 p1 p2 r' v') : r = r' ∧ Rel u' v' := by
  rcases a with ⟨a1, a2, rfl⟩ | ⟨a1, rfl, rfl⟩
  · have hj := row_lt a1.1
    have ho := row_lt a1.2
    rcases b with ⟨b1, b2, rfl⟩ | ⟨b1, rfl, rfl⟩
    · refine ⟨?_, h⟩
      rcases b2 with ⟨c1, c9⟩ | ⟨c1, c9⟩
      · rcases a2 with ⟨-, q, d1, d2⟩ | ⟨d, -⟩ | ⟨⟨d, -⟩, -⟩
        · exact (so_eq (h.1 _ hj) (h.1 _ ho) d1 d2).trans c9.symm
        · rw [c1] at d
          exact absurd d (by decide)
        · exact absurd c1 d
      · rcases a2 with ⟨d, -⟩ | ⟨-, q, d1, d2⟩ | ⟨⟨d0, d1⟩, -⟩
        · exact absurd d c1
        · exact (sm_eq (h.1 _ hj) (h.1 _ ho) d1 d2).trans c9.symm
        · obtain ⟨k, hk, rfl⟩ := i3_of (n := 1) rfl b1.2.1 b1.2.2.1
          rcases (show k = 0 ∨ k = 1 by omega) with rfl | rfl
          · exact absurd rfl d0
          · exact absurd rfl d1
    · rcases a2 with ⟨d, -⟩ | ⟨d, -⟩ | ⟨-, rfl⟩
      · exact absurd ⟨a1.1, by rw [d]; decide, by rw [d]; decide, a1.2⟩ b1
      · exact absurd ⟨a1.1, by rw [d]; decide, by rw [d]; decide, a1.2⟩ b1
      · exact ⟨rfl, h⟩
  · rcases b with ⟨b1, -⟩ | ⟨b1, rfl, rfl⟩
    · exact absurd ⟨b1.1, b1.2.2.2⟩ a1
    · exact ⟨rfl, h⟩
theorem hw_bit (g : Nat → Bool) : ∀ m, m ≤ 64 → hwN g m < 2 ^ m ∧ ∀ k, (hwN g m).testBit k = (decide (k < m) && g (64 - m + k)) := by
  intro m
  induction m with
  | zero =>
    intro _
    refine ⟨Nat.zero_lt_one, fun k => ?_⟩
    show Nat.testBit 0 k = _
    rw [Nat.zero_testBit, decide_eq_false (by omega)]
    rfl
  | succ m ih =>
    intro hm
    obtain ⟨i1, i2⟩ := ih (by omega)
    have e : hwN g (m + 1) = 2 * hwN g m + (if g (63 - m) = true then 1 else 0) := rfl
    have hb : (if g (63 - m) = true then 1 else 0) < 2 := by split <;> decide
    refine ⟨?_, fun k => ?_⟩
    · rw [e, Nat.pow_succ]
      omega
    · rw [e]
      cases k with
      | zero =>
        rw [Nat.testBit_zero, decide_eq_true (show 0 < m + 1 by omega), Bool.true_and, show 64 - (m + 1) + 0 = 63 - m by omega]
        cases g (63 - m) with
        | false => simp
        | true => simp
      | succ k =>
        rw [Nat.testBit_succ, show (2 * hwN g m + (if g (63 - m) = true then 1 else 0)) / 2 = hwN g m by omega, i2 k, show 64 - (m + 1) + (k + 1) = 64 - m + k by omega]
        congr 1
        by_cases h : k < m
        · rw [decide_eq_true h, decide_eq_true (by omega)]
        · rw [decide_eq_false h, decide_eq_false (by omega)]
theorem hw_eq {w : Nat → Int64} {f : Nat → Bool} {n : Nat} (hn : n ≤ 62) (hf : ∀ k, k < 4032 → f k = rb w k) : w n = lN (hwN (wdG f n) 64) := by
  apply bl_ext
  intro k hk
  rw [bl_lN, (hw_bit _ 64 (Nat.le_refl _)).2 k, decide_eq_true hk, Bool.true_and, Bool.true_and, Nat.sub_self, Nat.zero_add]
  unfold wdG
  rw [hf _ (by omega), rb_at w n hk]
theorem wd_g {p : Int32} : (¬ p < 0 ∧ p < 63) ↔ (¬ p < 0 ∧ p ≤ 62) := by
  rw [Int32.lt_iff_toInt_lt, Int32.lt_iff_toInt_lt, Int32.le_iff_toInt_le, show (63 : Int32).toInt = 63 from rfl, show (62 : Int32).toInt = 62 from rfl]
  omega
theorem st_word {u u' : StB} {v v' : StR} {p0 p1 : Int32} {r r' : Int64} (h : Rel u v) (a : q2_word u p0 p1 r u') (b : q3_word v p0 p1 r' v') : r = r' ∧ Rel u' v' := by
  refine both ?_ a b ?_ ?_
  · exact ⟨fun h => ⟨h.1, wd_g.mp h.2⟩, fun h => ⟨h.1, wd_g.mpr h.2⟩⟩
  · intro g1 g2 a b
    obtain ⟨rfl, rfl⟩ := a
    obtain ⟨rfl, rfl⟩ := b
    have hj := row_lt g1.1
    obtain ⟨k1, k2⟩ := wd_n g2.2.1 g2.2.2
    generalize p1.toNatClampNeg = n at *
    subst k1
    refine ⟨?_, h⟩
    rw [wa_n _ (by omega), if_pos (by omega)]
    exact hw_eq k2 (h.1 _ hj)
  · intro a b
    obtain ⟨rfl, rfl⟩ := a
    obtain ⟨rfl, rfl⟩ := b
    exact ⟨rfl, h⟩
theorem st_walk {u u' : StB} {v v' : StR} {p0 : Int32} {r r' : Int64} (h : Rel u v) (a : q2_walk u p0 r u') (b : q3_walk v p0 r' v') : r = r' ∧ Rel u' v' := by
  refine both Iff.rfl a b ?_ ?_
  · intro g1 g2 a b
    obtain ⟨rfl, rfl⟩ := a
    obtain ⟨rfl, rfl⟩ := b
    have hj := row_lt g1
    refine ⟨?_, h⟩
    rw [rk_eq, wkf_c 0 (0, 0) 4032 (fun k hk => (h.1 _ hj k hk).symm)]
  · intro a b
    obtain ⟨rfl, rfl⟩ := a
    obtain ⟨rfl, rfl⟩ := b
    exact ⟨rfl, h⟩
theorem wtL_c {f g : Nat → Bool} : ∀ n, (∀ k, k < n → f k = g k) → wtL f n = wtL g n := by
  intro n
  induction n with
  | zero => exact fun _ => rfl
  | succ n ih =>
    intro h
    unfold wtL
    rw [ih (fun k hk => h k (by omega)), h n (by omega)]
theorem st_text {u u' : StB} {v v' : StR} {p0 r r' : Int32} (h : Rel u v) (a : q2_text u p0 r u') (b : q3_text v p0 r' v') : r = r' ∧ Rel u' v' := by
  refine both Iff.rfl a b ?_ ?_
  · intro g1 g2 a b
    have hj := row_lt g1
    obtain ⟨q, ⟨x, a1, rfl⟩, a2⟩ := a
    obtain ⟨y, b1, b2⟩ := b
    have e := end_eq (h.1 _ hj) (h.2.1 _ hj) a1 b1
    rw [e] at a2
    rcases a2 with ⟨c1, ⟨c2, c3⟩, rfl⟩ | ⟨c1, rfl, rfl⟩
    · rcases b2 with ⟨-, ⟨d2, d3⟩, d4, rfl⟩ | ⟨d1, -⟩
      · have et : wrT (u.1 p0.toNatClampNeg) = wtT (v.1 p0.toNatClampNeg) := by
          rw [wrT_eq]
          unfold wtT
          rw [wtL_c 128 (fun k hk => (h.1 _ hj k (by omega)).symm)]
        rw [et] at c3
        refine ⟨?_, ?_, ?_, _, c3, d4⟩
        · rw [c3.1, d4.1]
        · intro j hj k hk
          rw [c2, d2]
          exact h.1 j hj k hk
        · intro j hj k h1 h2
          rw [c2]
          exact h.2.1 j hj k h1 h2
      · exact absurd c1 d1
    · rcases b2 with ⟨d1, -⟩ | ⟨-, rfl, rfl⟩
      · exact absurd d1 c1
      · exact ⟨rfl, h⟩
  · intro a b
    obtain ⟨rfl, rfl⟩ := a
    obtain ⟨rfl, rfl⟩ := b
    exact ⟨rfl, h⟩
theorem st_octet {u u' : StB} {v v' : StR} {p0 r r' : Int32} (h : Rel u v) (a : q2_octet u p0 r u') (b : q3_octet v p0 r' v') : r = r' ∧ Rel u' v' := by
  obtain ⟨rfl, rfl⟩ := a
  obtain ⟨rfl, rfl⟩ := b
  refine ⟨?_, h⟩
  obtain ⟨-, -, t, h1, h2⟩ := h
  unfold fX1_codeAt fX3_octet
  by_cases c1 : p0 < 0
  · rw [if_pos c1, if_pos c1]
  · rw [if_neg c1, if_neg c1, h1.1, h2.1]
    by_cases c2 : p0 < nI t.length
    · rw [if_pos c2, if_pos c2]
      obtain ⟨k, hk, rfl⟩ := nI_of c1
      have hlt : k < t.length := (nI_ltI hk (by have := h1.2.1; omega)).mp c2
      rw [nI_clamp hk, h1.2.2 k hlt, h2.2.2 k hlt]
    · rw [if_neg c2, if_neg c2]
theorem fpG_F {f h : Nat → Bool} {b : Bool} {p : Nat} {r : Int32} (hf : ∀ k, k < 4032 → f k = h k) (a : fpG f b p (-1) r) : fpF (fun k => h k ^^ !b) p r := by
  rcases a with ⟨K, a1, a2, a3, a4, rfl⟩ | ⟨a4, rfl⟩
  · refine Or.inl ⟨K, a1, a2, ?_, fun k h1 h2 => ?_, rfl⟩
    · show (h K ^^ !b) = true
      rw [← hf K a2, a3]
      cases b <;> rfl
    · show (h k ^^ !b) = false
      rw [← hf k (by omega), a4 k h1 h2]
      cases b <;> rfl
  · refine Or.inr ⟨fun k h1 h2 => ?_, rfl⟩
    show (h k ^^ !b) = false
    rw [← hf k h2, a4 k h1 h2]
    cases b <;> rfl
theorem fpG_0 {f : Nat → Bool} {p : Nat} {d r : Int32} (hp : p ≤ 4000) (h0 : f 4001 = false) (a : fpG f false p d r) : fpG f false p (-1) r := by
  rcases a with a | ⟨a, -⟩
  · exact Or.inl a
  · exact (tf_ (a 4001 (by omega) (by decide)) h0).elim
theorem fpH_L {f h : Nat → Bool} {b : Bool} {p : Nat} {r : Int32} (hp : p ≤ 4000) (hf : ∀ k, k < 4032 → f k = h k) (a : fpH f b p r) : fpL (fun k => h k ^^ !b) p r := by
  rcases a with ⟨K, a1, a3, a4, rfl⟩ | ⟨a4, rfl⟩
  · refine Or.inl ⟨K, a1, by omega, ?_, fun k h1 h2 h3 => ?_, rfl⟩
    · show (h K ^^ !b) = true
      rw [← hf K (by omega), a3]
      cases b <;> rfl
    · show (h k ^^ !b) = false
      rw [← hf k (by omega), a4 k h1 h2]
      cases b <;> rfl
  · refine Or.inr ⟨fun k h1 h2 => ?_, rfl⟩
    show (h k ^^ !b) = false
    rw [← hf k h2, a4 k h1]
    cases b <;> rfl
theorem st_next {u u' : StB} {v v' : StR} {p0 p1 p2 r r' : Int32} (h : Rel u v) (a : q2_next u p0 p1 p2 r u') (b : q3_next v p0 p1 p2 r' v') : r = r' ∧ Rel u' v' := by
  rcases a with ⟨a1, a2, rfl⟩ | ⟨a1, rfl, rfl⟩
  · have hj := row_lt a1.1
    obtain ⟨k1, k2⟩ := pl_in (p := p2) a1.2
    rcases b with ⟨b1, b2, rfl⟩ | ⟨b1, rfl, rfl⟩
    · refine ⟨?_, h⟩
      generalize p2.toNatClampNeg = x at *
      subst k2
      have hf := h.1 _ hj
      have hz : v.1 p0.toNatClampNeg 4001 = false := (hf 4001 (by decide)).trans (h.2.1 _ hj 4001 (by decide) (by decide))
      obtain ⟨k, hk, rfl⟩ := i3_of (n := 3) rfl b1.2.1 b1.2.2.1
      rcases (show k = 0 ∨ k = 1 ∨ k = 2 ∨ k = 3 by omega) with rfl | rfl | rfl | rfl
      · rcases a2 with ⟨-, d⟩ | ⟨d, -⟩ | ⟨d, -⟩ | ⟨d, -⟩ | ⟨⟨d, -⟩, -⟩
        · rcases b2 with ⟨-, e⟩ | ⟨⟨e, -⟩, -⟩ | ⟨⟨-, e⟩, -⟩ | ⟨⟨-, e⟩, -⟩
          · exact fpF_u (ff_ok (c := false) (by omega) d) (fpG_F hf e)
          · exact absurd (by decide) e
          · exact absurd e (by decide)
          · exact absurd e (by decide)
        · exact absurd d (by decide)
        · exact absurd d (by decide)
        · exact absurd d (by decide)
        · exact absurd rfl d
      · rcases a2 with ⟨d, -⟩ | ⟨-, d⟩ | ⟨d, -⟩ | ⟨d, -⟩ | ⟨⟨-, d, -⟩, -⟩
        · exact absurd d (by decide)
        · rcases b2 with ⟨⟨e, -⟩, -⟩ | ⟨-, e⟩ | ⟨⟨-, e⟩, -⟩ | ⟨⟨-, e⟩, -⟩
          · exact absurd e (by decide)
          · exact fpF_u (ff_ok (c := true) (by omega) d) (fpG_F hf (fpG_0 k1 hz e))
          · exact absurd e (by decide)
          · exact absurd e (by decide)
        · exact absurd d (by decide)
        · exact absurd d (by decide)
        · exact absurd rfl d
      · rcases a2 with ⟨d, -⟩ | ⟨d, -⟩ | ⟨-, d⟩ | ⟨d, -⟩ | ⟨⟨-, -, d, -⟩, -⟩
        · exact absurd d (by decide)
        · exact absurd d (by decide)
        · rcases b2 with ⟨⟨-, e⟩, -⟩ | ⟨⟨-, e⟩, -⟩ | ⟨-, e⟩ | ⟨⟨e, -⟩, -⟩
          · exact absurd (by decide) e
          · exact absurd (by decide) e
          · exact fpL_u (lu_ok (c := false) (by omega) d) (fpH_L k1 hf e)
          · exact absurd (by decide) e
        · exact absurd d (by decide)
        · exact absurd rfl d
      · rcases a2 with ⟨d, -⟩ | ⟨d, -⟩ | ⟨d, -⟩ | ⟨-, d⟩ | ⟨⟨-, -, -, d⟩, -⟩
        · exact absurd d (by decide)
        · exact absurd d (by decide)
        · exact absurd d (by decide)
        · rcases b2 with ⟨⟨-, e⟩, -⟩ | ⟨⟨-, e⟩, -⟩ | ⟨⟨e, -⟩, -⟩ | ⟨-, e⟩
          · exact absurd (by decide) e
          · exact absurd (by decide) e
          · exact absurd e (by decide)
          · exact fpL_u (lu_ok (c := true) (by omega) d) (fpH_L k1 hf e)
        · exact absurd rfl d
    · rcases a2 with ⟨d, -⟩ | ⟨d, -⟩ | ⟨d, -⟩ | ⟨d, -⟩ | ⟨-, rfl⟩
      · exact absurd ⟨a1.1, by rw [d]; decide, by rw [d]; decide, a1.2⟩ b1
      · exact absurd ⟨a1.1, by rw [d]; decide, by rw [d]; decide, a1.2⟩ b1
      · exact absurd ⟨a1.1, by rw [d]; decide, by rw [d]; decide, a1.2⟩ b1
      · exact absurd ⟨a1.1, by rw [d]; decide, by rw [d]; decide, a1.2⟩ b1
      · exact ⟨rfl, h⟩
  · rcases b with ⟨b1, -⟩ | ⟨b1, rfl, rfl⟩
    · exact absurd ⟨b1.1, b1.2.2.2⟩ a1
    · exact ⟨rfl, h⟩
theorem rel_0 : Rel u0B u0R := by
  refine ⟨fun j _ k _ => ?_, fun j _ k _ _ => ?_, [], tx_nil _ _, tr_nil _ _ _⟩
  · show false = bl 0 (k % 64)
    rw [bl_0]
  · show bl 0 (k % 64) = false
    rw [bl_0]
