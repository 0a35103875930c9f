/-! the other calls -/
theorem jn_g {p : Int32} : (¬ p < 0 ∧ p ≤ 3) ↔ (¬ p < 0 ∧ ¬ 3 < p) := by
  rw [Int32.le_iff_toInt_le, Int32.lt_iff_toInt_lt, Int32.lt_iff_toInt_lt]
  omega
theorem fz_all (F g : Nat → Bool) {k : Nat} (hk : k < 4032) : flz F g 0 4032 k = F k := if_pos ⟨Nat.zero_le _, hk⟩
theorem st_join {u u' : StB} {v v' : StR} {p0 p1 p2 r r' : Int32} (h : Rel u v) (a : q2_join u p0 p1 p2 r u') (b : q3_join v p0 p1 p2 r' v') : r = r' ∧ Rel u' v' := by
  refine both ?_ a b ?_ ?_
  · exact ⟨fun h => ⟨h.1, h.2.2.1, (jn_g.mp h.2.2).2, h.2.1⟩, fun h => ⟨h.1, h.2.2.2, jn_g.mpr ⟨h.2.1, h.2.2.1⟩⟩⟩
  · intro g1 g2 a b
    obtain ⟨rfl, rfl⟩ := a
    obtain ⟨rfl, rfl⟩ := b
    have hj := row_lt g1.1
    have ho := row_lt g1.2.1
    generalize p0.toNatClampNeg = j at *
    generalize p2.toNatClampNeg = o at *
    have hg : ∀ k, k < 4032 → flz (cbZ (v.1 j) (v.1 o) p1) (v.1 j) 0 4032 k = rb (fl (cbW (u.1 j) (u.1 o) p1) (u.1 j) 63) k := by
      intro k hk
      rw [cb_bit _ _ _ hk, fz_all _ _ hk]
      unfold cbZ
      rw [h.1 j hj k hk, h.1 o ho k hk]
    refine ⟨on_up hg, rel_up h hg (fun k a b => ?_)⟩
    rw [cb_bit _ _ _ b, h.2.1 j hj k a b, h.2.1 o ho k a b]
    unfold cbB
    simp
  · intro a b
    obtain ⟨rfl, rfl⟩ := a
    obtain ⟨rfl, rfl⟩ := b
    exact ⟨rfl, h⟩
theorem st_cut {u u' : StB} {v v' : StR} {p0 p1 p2 p3 r r' : Int32} (h : Rel u v) (a : q2_cut u p0 p1 p2 p3 r u') (b : q3_cut v p0 p1 p2 p3 r' v') : r = r' ∧ Rel u' v' := by
  refine both Iff.rfl a b ?_ ?_
  · intro g1 g2 a b
    obtain ⟨rfl, rfl⟩ := a
    obtain ⟨rfl, rfl⟩ := b
    have hj := row_lt g1.1
    have ho := row_lt g1.2.1
    obtain ⟨k1, k2, k3, k4⟩ := pc_ab g2.2.2
    generalize p2.toNatClampNeg = x at *
    generalize p3.toNatClampNeg = y at *
    subst k3
    subst k4
    generalize p0.toNatClampNeg = j at *
    generalize p1.toNatClampNeg = o at *
    have hg : ∀ k, k < 4032 → flz (flz (ctZ (v.1 o) x y) v.2.1 0 4032) (v.1 j) 0 4032 k = rb (fl (tpW (u.1 o) (nI x) (nI y)) (u.1 j) 63) k := by
      intro k hk
      rw [tp_bit _ _ _ _ k1 k2 hk, fz_all _ _ hk, fz_all _ _ hk]
      unfold ctZ rz
      by_cases e : k < y - x
      · rw [h.1 o ho (x + k) (by omega), decide_eq_true (show x + k < 4032 by omega), Bool.true_and]
      · rw [decide_eq_false e, Bool.false_and, Bool.false_and]
    refine ⟨on_up hg, rel_up h hg (fun k a b => ?_)⟩
    rw [tp_bit _ _ _ _ k1 k2 b, decide_eq_false (show ¬ k < y - x by omega), Bool.false_and]
  · intro a b
    obtain ⟨rfl, rfl⟩ := a
    obtain ⟨rfl, rfl⟩ := b
    exact ⟨rfl, h⟩
theorem st_copy {u u' : StB} {v v' : StR} {p0 p1 r r' : Int32} (h : Rel u v) (a : q2_copy u p0 p1 r u') (b : q3_copy v p0 p1 r' v') : r = r' ∧ Rel u' v' := by
  refine both Iff.rfl a b ?_ ?_
  · intro g1 g2 a b
    obtain ⟨rfl, rfl⟩ := a
    obtain ⟨rfl, rfl⟩ := b
    have hj := row_lt g1.1
    have ho := row_lt g1.2
    generalize p0.toNatClampNeg = j at *
    generalize p1.toNatClampNeg = o at *
    have e1 : ∀ k, k < 4032 → rb (fl (tpW (u.1 o) 0 4001) (u.1 j) 63) k = (decide (k < 4001) && rb (u.1 o) k) := by
      intro k hk
      have := tp_bit (u.1 j) (u.1 o) 0 4001 (by decide) (by decide) hk
      rw [show (0 : Int32) = nI 0 from rfl, show (4001 : Int32) = nI 4001 from rfl, this]
      unfold rz
      rw [Nat.zero_add, decide_eq_true hk, Bool.true_and]
    have hg : ∀ k, k < 4032 → flz (v.1 o) (v.1 j) 0 4032 k = rb (fl (tpW (u.1 o) 0 4001) (u.1 j) 63) k := by
      intro k hk
      rw [e1 k hk, fz_all _ _ hk, h.1 o ho k hk]
      by_cases e : k < 4001
      · rw [decide_eq_true e, Bool.true_and]
      · rw [decide_eq_false e, Bool.false_and, h.2.1 o ho k (by omega) hk]
    refine ⟨on_up hg, rel_up h hg (fun k a b => ?_)⟩
    rw [e1 k b, decide_eq_false (show ¬ k < 4001 by omega), Bool.false_and]
  · intro a b
    obtain ⟨rfl, rfl⟩ := a
    obtain ⟨rfl, rfl⟩ := b
    exact ⟨rfl, h⟩
theorem tw_bit (w : Nat → Int64) (a b c : Int64) {k : Nat} (hk : k < 4032) : rb (twW w a b c) k = ldZ a b c k := by
  obtain ⟨i, q, hi, hq, rfl⟩ := sp64 k hk
  rw [rb_at _ i hq]
  unfold ldZ twW
  rw [show (64 * i + q) % 64 = q by omega]
  by_cases h2 : i = 2
  · subst h2
    rw [pk_uLs, if_neg (by omega), if_neg (by omega), if_neg (by omega)]
  · rw [pk_uLn h2]
    by_cases h1 : i = 1
    · subst h1
      rw [pk_uLs, if_neg (by omega), if_neg (by omega), if_pos (by omega)]
    · rw [pk_uLn h1]
      by_cases h0 : i = 0
      · subst h0
        rw [pk_uLs, if_neg (by omega), if_pos (by omega)]
      · rw [pk_uLn h0, if_pos (by omega)]
        unfold zr
        rw [if_neg (by omega), if_pos hi, bl_0]
theorem st_load {u u' : StB} {v v' : StR} {p0 r r' : Int32} {p1 p2 p3 : Int64} (h : Rel u v) (a : q2_load u p0 p1 p2 p3 r u') (b : q3_load v p0 p1 p2 p3 r' v') : r = r' ∧ Rel u' v' := by
  refine both Iff.rfl a b ?_ ?_
  · intro g1 g2 a b
    obtain ⟨rfl, rfl⟩ := a
    obtain ⟨rfl, rfl⟩ := b
    have hg : ∀ k, k < 4032 → flz (ldZ p1 p2 p3) (v.1 p0.toNatClampNeg) 0 4032 k = rb (twW (u.1 p0.toNatClampNeg) p1 p2 p3) k := by
      intro k hk
      rw [tw_bit _ _ _ _ hk, fz_all _ _ hk]
    refine ⟨on_up hg, rel_up h hg (fun k a b => ?_)⟩
    rw [tw_bit _ _ _ _ b]
    unfold ldZ
    rw [if_pos (by omega)]
  · intro a b
    obtain ⟨rfl, rfl⟩ := a
    obtain ⟨rfl, rfl⟩ := b
    exact ⟨rfl, h⟩
theorem st_clear {u u' : StB} {v v' : StR} {p0 r r' : Int32} (h : Rel u v) (a : q2_clear u p0 r u') (b : q3_clear v p0 r' v') : r = r' ∧ Rel u' v' := by
  refine both Iff.rfl a b ?_ ?_
  · intro g1 g2 a b
    obtain ⟨rfl, rfl⟩ := a
    obtain ⟨rfl, rfl⟩ := b
    have hj := row_lt g1
    generalize p0.toNatClampNeg = j at *
    have hg : ∀ k, k < 4032 → flz (fun _ => false) (v.1 j) 0 4032 k = rb (fl (chW (u.1 j) 0 0 4001) (u.1 j) 63) k := by
      intro k hk
      have := ch_bit (u.1 j) 0 0 4001 (by decide) (by decide) hk
      rw [fz_all _ _ hk]
      refine Eq.symm (Eq.trans this ?_)
      by_cases e : 0 ≤ k ∧ k < 4001
      · rw [if_pos e]
        rfl
      · rw [if_neg e]
        exact h.2.1 j hj k (by omega) hk
    refine ⟨?_, rel_up h hg (fun k a b => ?_)⟩
    · rw [on_eq, cnt_c 4032 (fun k hk => (h.1 j hj k hk).symm)]
    · rw [← hg k b, fz_all _ _ b]
  · intro a b
    obtain ⟨rfl, rfl⟩ := a
    obtain ⟨rfl, rfl⟩ := b
    exact ⟨rfl, h⟩
/-- the end, on both sides -/
theorem end_eq {w : Nat → Int64} {f : Nat → Bool} {x q : Int32} (hf : ∀ k, k < 4032 → f k = rb w k) (hz : ∀ k, 4001 ≤ k → k < 4032 → rb w k = false) (a : pLU w 4000 0 x) (b : peR f q) : x + 1 = q := by
  have a' : fpL (fun k => rb w k ^^ false) 4000 x := lu_ok (c := false) (p := 4000) (by decide) a
  obtain ⟨K, b1, rfl, b3, b4⟩ := b
  rcases a' with ⟨L, c1, c2, c3, c4, rfl⟩ | ⟨c4, rfl⟩
  · have c3 : rb w L = true := by
      have c3' : (rb w L ^^ false) = true := c3
      rw [Bool.xor_false] at c3'
      exact c3'
    have e1 : L < K := by
      rcases Nat.lt_or_ge L K with k | k
      · exact k
      · exact (tf_ c3 ((hf L c2).symm.trans (b3 L k c2))).elim
    have e2 : rb w (K - 1) = true := (hf (K - 1) (by omega)).symm.trans (b4 (by omega))
    have e3 : K - 1 ≤ L := by
      rcases Nat.lt_or_ge L (K - 1) with k | k
      · by_cases h4 : K - 1 ≤ 4000
        · have c5 : (rb w (K - 1) ^^ false) = false := c4 (K - 1) k h4 (by omega)
          rw [Bool.xor_false] at c5
          exact (tf_ e2 c5).elim
        · exact (tf_ e2 (hz (K - 1) (by omega) (by omega))).elim
      · exact k
    rw [nI_1]
    congr 1
    omega
  · have e0 : K = 0 := by
      rcases Nat.eq_zero_or_pos K with k | k
      · exact k
      · have e2 : rb w (K - 1) = true := (hf (K - 1) (by omega)).symm.trans (b4 k)
        by_cases h4 : K - 1 ≤ 4000
        · have c5 : (rb w (K - 1) ^^ false) = false := c4 (K - 1) h4 (by omega)
          rw [Bool.xor_false] at c5
          exact (tf_ e2 c5).elim
        · exact (tf_ e2 (hz (K - 1) (by omega) (by omega))).elim
    subst e0
    rfl
theorem st_look {u u' : StB} {v v' : StR} {p0 p1 r r' : Int32} (h : Rel u v) (a : q2_look u p0 p1 r u') (b : q3_look v p0 p1 r' v') : r = r' ∧ Rel u' v' := by
  rcases a with ⟨a1, a2, rfl⟩ | ⟨a1, rfl, rfl⟩
  · have hj := row_lt a1
    rcases b with ⟨b1, b2, rfl⟩ | ⟨b1, rfl, rfl⟩
    · refine ⟨?_, h⟩
      rcases b2 with ⟨c1, rfl⟩ | ⟨⟨c1, c2⟩, c3⟩ | ⟨⟨c1, c2⟩, q, c3, c4⟩
      · rcases a2 with ⟨-, rfl⟩ | ⟨d, -⟩ | ⟨d, -⟩ | ⟨⟨d, -⟩, -⟩
        · rw [on_eq, cnt_c 4032 (fun k hk => (h.1 _ hj k hk).symm)]
        · rw [c1] at d
          exact absurd d (by decide)
        · rw [c1] at d
          exact absurd d (by decide)
        · exact absurd c1 d
      · rcases a2 with ⟨d, -⟩ | ⟨-, x, d1, rfl⟩ | ⟨d, -⟩ | ⟨⟨-, d, -⟩, -⟩
        · exact absurd d c1
        · exact end_eq (h.1 _ hj) (h.2.1 _ hj) d1 c3
        · rw [c2] at d
          exact absurd d (by decide)
        · exact absurd c2 d
      · rcases a2 with ⟨d, -⟩ | ⟨d, -⟩ | ⟨d, y, ⟨x, d1, rfl⟩, d2⟩ | ⟨⟨d0, d1, d2⟩, -⟩
        · exact absurd d c1
        · exact absurd d c2
        · rw [end_eq (h.1 _ hj) (h.2.1 _ hj) d1 c3] at d2
          rcases d2 with ⟨d2, rfl⟩ | ⟨d2, rfl⟩ <;> rcases c4 with ⟨c4, rfl⟩ | ⟨c4, rfl⟩ <;> first | rfl | exact absurd d2 c4 | exact absurd c4 d2
        · obtain ⟨k, hk, rfl⟩ := nI_of2 (n := 2) rfl b1.2.1 b1.2.2
          rcases (show k = 0 ∨ k = 1 ∨ k = 2 by omega) with rfl | rfl | rfl
          · exact absurd rfl d0
          · exact absurd rfl d1
          · exact absurd rfl d2
    · rcases a2 with ⟨d, -⟩ | ⟨d, -⟩ | ⟨d, -⟩ | ⟨-, rfl⟩
      · exact absurd ⟨a1, by rw [d]; decide, by rw [d]; decide⟩ b1
      · exact absurd ⟨a1, by rw [d]; decide, by rw [d]; decide⟩ b1
      · exact absurd ⟨a1, by rw [d]; decide, by rw [d]; decide⟩ b1
      · exact ⟨rfl, h⟩
  · rcases b with ⟨b1, -⟩ | ⟨b1, rfl, rfl⟩
    · exact absurd b1.1 a1
    · exact ⟨rfl, h⟩
