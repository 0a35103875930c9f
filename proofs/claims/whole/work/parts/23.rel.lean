/-! both sides hold the same bits and the same text -/
def Rel (u : StB) (v : StR) : Prop := (∀ j, j < 4 → ∀ k, k < 4032 → v.1 j k = rb (u.1 j) k) ∧ (∀ j, j < 4 → ∀ k, 4001 ≤ k → k < 4032 → rb (u.1 j) k = false) ∧ ∃ t, txB u t ∧ txR v t
theorem rel_up {u : StB} {v : StR} {j : Nat} {f : Nat → Int64} {g P : Nat → Bool} (h : Rel u v) (hg : ∀ k, k < 4032 → g k = rb f k) (hz : ∀ k, 4001 ≤ k → k < 4032 → rb f k = false) : Rel (upM u.1 j f, u.2) (upR v.1 j g, P, v.2.2) := by
  obtain ⟨h1, h2, t, h3, h4⟩ := h
  refine ⟨fun i hi k hk => ?_, fun i hi k a b => ?_, t, h3, h4⟩
  · show upR v.1 j g i k = rb (upM u.1 j f i) k
    by_cases e : i = j
    · subst e
      rw [upR_s, upM_s, hg k hk]
    · rw [upR_n _ _ e, upM_n _ _ e, h1 i hi k hk]
  · show rb (upM u.1 j f i) k = false
    by_cases e : i = j
    · subst e
      rw [upM_s]
      exact hz k a b
    · rw [upM_n _ _ e]
      exact h2 i hi k a b
theorem on_up {u : StB} {v : StR} {j : Nat} {f : Nat → Int64} {g P : Nat → Bool} (hg : ∀ k, k < 4032 → g k = rb f k) : fX0_ones (((upM u.1 j f, u.2) : StB).1 j) = nI (cnt (((upR v.1 j g, P, v.2.2) : StR).1 j) 4032) := by
  show fX0_ones (upM u.1 j f j) = nI (cnt (upR v.1 j g j) 4032)
  rw [upM_s, upR_s, on_eq, cnt_c 4032 (fun k hk => (hg k hk).symm)]
theorem ch_g {p : Int32} : (¬ fX2_isChange p = 0) ↔ (¬ p < 0 ∧ ¬ 2 < p) := by
  unfold fX2_isChange
  by_cases c1 : p < 0
  · rw [if_pos c1]
    exact ⟨fun h => absurd rfl h, fun h => absurd c1 h.1⟩
  · rw [if_neg c1]
    by_cases c2 : 2 < p
    · rw [if_pos c2]
      exact ⟨fun h => absurd rfl h, fun h => absurd c2 h.2⟩
    · rw [if_neg c2]
      exact ⟨fun _ => ⟨c1, c2⟩, fun _ => by decide⟩
theorem i3_of {p : Int32} {n : Nat} {M : Int32} (hM : M.toInt = n) (h0 : ¬ p < 0) (h1 : ¬ M < p) : ∃ k : Nat, k ≤ n ∧ p = nI k := by
  refine nI_of2 hM h0 ?_
  rw [Int32.le_iff_toInt_le]
  rw [Int32.lt_iff_toInt_lt] at h1
  omega
theorem chBZ {p : Int32} (h0 : ¬ p < 0) (h2 : ¬ 2 < p) (b : Bool) : chZ p b = chB p b := by
  obtain ⟨k, hk, rfl⟩ := i3_of (n := 2) rfl h0 h2
  rcases (show k = 0 ∨ k = 1 ∨ k = 2 by omega) with rfl | rfl | rfl <;> cases b <;> decide
/-- both answer, or both refuse -/
theorem both {A B C D E F G : Prop} (hg : A ↔ B) (a : (A ∧ C) ∨ (¬ A ∧ D)) (b : (B ∧ E) ∨ (¬ B ∧ F)) (hok : A → B → C → E → G) (hno : D → F → G) : G := by
  rcases a with ⟨a1, a2⟩ | ⟨a1, a2⟩
  · rcases b with ⟨b1, b2⟩ | ⟨b1, -⟩
    · exact hok a1 b1 a2 b2
    · exact absurd (hg.mp a1) b1
  · rcases b with ⟨b1, -⟩ | ⟨-, b2⟩
    · exact absurd (hg.mpr b1) a1
    · exact hno a2 b2
theorem st_set {u u' : StB} {v v' : StR} {p0 p1 p2 r r' : Int32} (h : Rel u v) (a : q2_set u p0 p1 p2 r u') (b : q3_set v p0 p1 p2 r' v') : r = r' ∧ Rel u' v' := by
  refine both ?_ a b ?_ ?_
  · rw [ch_g]
    exact ⟨fun h => ⟨h.1, h.2.1.1, h.2.1.2, h.2.2⟩, fun h => ⟨h.1, ⟨h.2.1, h.2.2.1⟩, h.2.2.2⟩⟩
  · intro g1 g2 a b
    obtain ⟨rfl, rfl⟩ := a
    obtain ⟨rfl, rfl⟩ := b
    have hj := row_lt g1.1
    obtain ⟨k1, k2⟩ := pl_in g2.2.2.2
    generalize p2.toNatClampNeg = x at *
    subst k2
    generalize p0.toNatClampNeg = j at *
    have hg : ∀ k, k < 4032 → upZ (v.1 j) x (chZ p1 (v.1 j x)) k = rb (fl (chW (u.1 j) p1 (nI x) (nI x + 1)) (u.1 j) 63) k := by
      intro k hk
      rw [nI_1, ch_bit _ _ _ _ (by omega) (by omega) hk]
      unfold upZ
      by_cases e : k = x
      · subst e
        rw [if_pos rfl, if_pos (by omega), chBZ g2.2.1 g2.2.2.1, h.1 j hj k hk]
      · rw [if_neg e, if_neg (by omega), h.1 j hj k hk]
    refine ⟨?_, rel_up h hg (fun k a b => ?_)⟩
    · rw [bt_eq _ (by omega)]
      unfold bz
      rw [h.1 j hj x (by omega)]
    · rw [← hg k b]
      unfold upZ
      rw [if_neg (by omega), h.1 j hj k b]
      exact h.2.1 j hj k a b
  · intro a b
    obtain ⟨rfl, rfl⟩ := a
    obtain ⟨rfl, rfl⟩ := b
    exact ⟨rfl, h⟩
theorem st_get {u u' : StB} {v v' : StR} {p0 p1 r r' : Int32} (h : Rel u v) (a : q2_get u p0 p1 r u') (b : q3_get v p0 p1 r' v') : r = r' ∧ Rel u' v' := by
  refine both Iff.rfl a b ?_ ?_
  · intro g1 g2 a b
    obtain ⟨rfl, rfl⟩ := a
    obtain ⟨rfl, rfl⟩ := b
    have hj := row_lt g1.1
    obtain ⟨k1, k2⟩ := pl_in g2.2
    generalize p1.toNatClampNeg = x at *
    subst k2
    refine ⟨?_, h⟩
    rw [bt_eq _ (by omega)]
    unfold bz
    rw [h.1 _ hj x (by omega)]
  · intro a b
    obtain ⟨rfl, rfl⟩ := a
    obtain ⟨rfl, rfl⟩ := b
    exact ⟨rfl, h⟩
theorem st_piece {u u' : StB} {v v' : StR} {p0 p1 p2 p3 r r' : Int32} (h : Rel u v) (a : q2_piece u p0 p1 p2 p3 r u') (b : q3_piece v p0 p1 p2 p3 r' v') : r = r' ∧ Rel u' v' := by
  refine both ?_ a b ?_ ?_
  · rw [ch_g]
    exact ⟨fun h => ⟨h.1, h.2.1.1, h.2.1.2, h.2.2⟩, fun h => ⟨h.1, ⟨h.2.1, h.2.2.1⟩, h.2.2.2⟩⟩
  · intro g1 g2 a b
    obtain ⟨rfl, rfl⟩ := a
    obtain ⟨rfl, rfl⟩ := b
    have hj := row_lt g1.1
    obtain ⟨k1, k2, k3, k4⟩ := pc_ab g2.2.2.2
    generalize p2.toNatClampNeg = x at *
    generalize p3.toNatClampNeg = y at *
    subst k3
    subst k4
    generalize p0.toNatClampNeg = j at *
    have hg : ∀ k, k < 4032 → flz (pcZ (v.1 j) p1) (v.1 j) x y k = rb (fl (chW (u.1 j) p1 (nI x) (nI y)) (u.1 j) 63) k := by
      intro k hk
      rw [ch_bit _ _ _ _ (by omega) (by omega) hk]
      unfold flz pcZ
      by_cases e : x ≤ k ∧ k < y
      · rw [if_pos e, if_pos e, chBZ g2.2.1 g2.2.2.1, h.1 j hj k hk]
      · rw [if_neg e, if_neg e, h.1 j hj k hk]
    refine ⟨on_up hg, rel_up h hg (fun k a b => ?_)⟩
    rw [← hg k b]
    unfold flz
    rw [if_neg (by omega), h.1 j hj k b]
    exact h.2.1 j hj k a b
  · intro a b
    obtain ⟨rfl, rfl⟩ := a
    obtain ⟨rfl, rfl⟩ := b
    exact ⟨rfl, h⟩
