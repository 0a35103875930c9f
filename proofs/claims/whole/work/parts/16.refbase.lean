def fX3_isRow (p0 : Int32) : Int32 := if p0 < 0 then (0) else (if 4 ≤ p0 then (0) else (1))
set_option maxHeartbeats 4000000 in
set_option maxRecDepth 100000 in
theorem c_X3_isRow (l : Launch) (p0 : Int32) : Met l yX3_isRow wX3_isRow ({ frames := 0, cells := 0, slots := 0, locals := 0 }) (fun a _ => a = ([.int p0] : List Value).toArray) (vp_Si (fun r => r = fX3_isRow p0)) 0 0 (fun _ => False) := by
  refine Met.ofW (cc := cX3_isRow) (maxL := 1) (ret := (some .boolean)) (by decide) rfl ?_
  intro p e s m args below meth c s₁ B hml hv
  obtain rfl := hv
  have hx := B.exec
  have hb := B.bytes
  have hr := B.returns
  have hts := atoms_spec (ws := wX3_isRow) B.pre
  have hw : ∀ w ∈ tg_, w.before _ s = true := fun w h => hts w (List.mem_cons_of_mem _ h)
  have hown : s.vm.findClass RX3 = some m.cls := findClass_of_methodNamed B.named
  have hlocks := B.notSynchronized
  have hl := lv_entry ([.int p0]) (n := 1) (Nat.le_of_ble_eq_true rfl)
  rw [lg_entry_eq]
  generalize (lg_sl ([.int p0]) ++ List.replicate (1 - (lg_sl ([.int p0])).length) Slot.unset).toArray = ls at hl ⊢
  have hl : lv_has ls 1 [(0, .int p0)] := hl
  refine lv_iload_n hx hb dX3_isRow_0 rfl (lv_at hl 0 rfl) ?_
  refine lv_if_lt (tgt := 13) hx hb dX3_isRow_1 (by decide) (fun c1 => ?_) (fun c1 => ?_)
  · refine lv_iconst (v := 0) hx hb dX3_isRow_13 (by decide) ?_
    exact W.zret hx hb hr (rfl) (fun t ht hW => ⟨_, rfl, by unfold fX3_isRow; rw [if_pos c1], ht⟩) (fun q h => absurd h List.not_mem_nil) dX3_isRow_14
  · refine lv_iload_n hx hb dX3_isRow_4 rfl (lv_at hl 0 rfl) ?_
    refine lv_iconst (v := 4) hx hb dX3_isRow_5 (by decide) ?_
    refine lv_icmp_ge (tgt := 13) hx hb dX3_isRow_6 (by decide) (fun c2 => ?_) (fun c2 => ?_)
    · refine lv_iconst (v := 0) hx hb dX3_isRow_13 (by decide) ?_
      exact W.zret hx hb hr (rfl) (fun t ht hW => ⟨_, rfl, by unfold fX3_isRow; rw [if_neg c1, if_pos c2], ht⟩) (fun q h => absurd h List.not_mem_nil) dX3_isRow_14
    · refine lv_iconst (v := 1) hx hb dX3_isRow_9 (by decide) ?_
      refine lv_goto (tgt := 14) hx hb dX3_isRow_10 (by decide) ?_
      exact W.zret hx hb hr (rfl) (fun t ht hW => ⟨_, rfl, by unfold fX3_isRow; rw [if_neg c1, if_neg c2], ht⟩) (fun q h => absurd h List.not_mem_nil) dX3_isRow_14
def fX3_isPlace (p0 : Int32) : Int32 := if p0 < 0 then (0) else (if 4000 < p0 then (0) else (1))
set_option maxHeartbeats 4000000 in
set_option maxRecDepth 100000 in
theorem c_X3_isPlace (l : Launch) (p0 : Int32) : Met l yX3_isPlace wX3_isPlace ({ frames := 0, cells := 0, slots := 0, locals := 0 }) (fun a _ => a = ([.int p0] : List Value).toArray) (vp_Si (fun r => r = fX3_isPlace p0)) 0 0 (fun _ => False) := by
  refine Met.ofW (cc := cX3_isPlace) (maxL := 1) (ret := (some .boolean)) (by decide) rfl ?_
  intro p e s m args below meth c s₁ B hml hv
  obtain rfl := hv
  have hx := B.exec
  have hb := B.bytes
  have hr := B.returns
  have hts := atoms_spec (ws := wX3_isPlace) B.pre
  have hw : ∀ w ∈ tg_, w.before _ s = true := fun w h => hts w (List.mem_cons_of_mem _ h)
  have hown : s.vm.findClass RX3 = some m.cls := findClass_of_methodNamed B.named
  have hlocks := B.notSynchronized
  have hl := lv_entry ([.int p0]) (n := 1) (Nat.le_of_ble_eq_true rfl)
  rw [lg_entry_eq]
  generalize (lg_sl ([.int p0]) ++ List.replicate (1 - (lg_sl ([.int p0])).length) Slot.unset).toArray = ls at hl ⊢
  have hl : lv_has ls 1 [(0, .int p0)] := hl
  refine lv_iload_n hx hb dX3_isPlace_0 rfl (lv_at hl 0 rfl) ?_
  refine lv_if_lt (tgt := 15) hx hb dX3_isPlace_1 (by decide) (fun c1 => ?_) (fun c1 => ?_)
  · refine lv_iconst (v := 0) hx hb dX3_isPlace_15 (by decide) ?_
    exact W.zret hx hb hr (rfl) (fun t ht hW => ⟨_, rfl, by unfold fX3_isPlace; rw [if_pos c1], ht⟩) (fun q h => absurd h List.not_mem_nil) dX3_isPlace_16
  · refine lv_iload_n hx hb dX3_isPlace_4 rfl (lv_at hl 0 rfl) ?_
    refine lv_sipush (v := 4000) hx hb dX3_isPlace_5 (by decide) ?_
    refine lv_icmp_gt (tgt := 15) hx hb dX3_isPlace_8 (by decide) (fun c2 => ?_) (fun c2 => ?_)
    · refine lv_iconst (v := 0) hx hb dX3_isPlace_15 (by decide) ?_
      exact W.zret hx hb hr (rfl) (fun t ht hW => ⟨_, rfl, by unfold fX3_isPlace; rw [if_neg c1, if_pos c2], ht⟩) (fun q h => absurd h List.not_mem_nil) dX3_isPlace_16
    · refine lv_iconst (v := 1) hx hb dX3_isPlace_11 (by decide) ?_
      refine lv_goto (tgt := 16) hx hb dX3_isPlace_12 (by decide) ?_
      exact W.zret hx hb hr (rfl) (fun t ht hW => ⟨_, rfl, by unfold fX3_isPlace; rw [if_neg c1, if_neg c2], ht⟩) (fun q h => absurd h List.not_mem_nil) dX3_isPlace_16
def fX3_isPiece (p0 : Int32) (p1 : Int32) : Int32 := if p0 < 0 then (0) else (if p1 < p0 then (0) else (if 4001 < p1 then (0) else (1)))
set_option maxHeartbeats 4000000 in
set_option maxRecDepth 100000 in
theorem c_X3_isPiece (l : Launch) (p0 : Int32) (p1 : Int32) : Met l yX3_isPiece wX3_isPiece ({ frames := 0, cells := 0, slots := 0, locals := 0 }) (fun a _ => a = ([.int p0, .int p1] : List Value).toArray) (vp_Si (fun r => r = fX3_isPiece p0 p1)) 0 0 (fun _ => False) := by
  refine Met.ofW (cc := cX3_isPiece) (maxL := 2) (ret := (some .boolean)) (by decide) rfl ?_
  intro p e s m args below meth c s₁ B hml hv
  obtain rfl := hv
  have hx := B.exec
  have hb := B.bytes
  have hr := B.returns
  have hts := atoms_spec (ws := wX3_isPiece) B.pre
  have hw : ∀ w ∈ tg_, w.before _ s = true := fun w h => hts w (List.mem_cons_of_mem _ h)
  have hown : s.vm.findClass RX3 = some m.cls := findClass_of_methodNamed B.named
  have hlocks := B.notSynchronized
  have hl := lv_entry ([.int p0, .int p1]) (n := 2) (Nat.le_of_ble_eq_true rfl)
  rw [lg_entry_eq]
  generalize (lg_sl ([.int p0, .int p1]) ++ List.replicate (2 - (lg_sl ([.int p0, .int p1])).length) Slot.unset).toArray = ls at hl ⊢
  have hl : lv_has ls 2 [(0, .int p0), (1, .int p1)] := hl
  refine lv_iload_n hx hb dX3_isPiece_0 rfl (lv_at hl 0 rfl) ?_
  refine lv_if_lt (tgt := 20) hx hb dX3_isPiece_1 (by decide) (fun c1 => ?_) (fun c1 => ?_)
  · refine lv_iconst (v := 0) hx hb dX3_isPiece_20 (by decide) ?_
    exact W.zret hx hb hr (rfl) (fun t ht hW => ⟨_, rfl, by unfold fX3_isPiece; rw [if_pos c1], ht⟩) (fun q h => absurd h List.not_mem_nil) dX3_isPiece_21
  · refine lv_iload_n hx hb dX3_isPiece_4 rfl (lv_at hl 0 rfl) ?_
    refine lv_iload_n hx hb dX3_isPiece_5 rfl (lv_at hl 1 rfl) ?_
    refine lv_icmp_gt (tgt := 20) hx hb dX3_isPiece_6 (by decide) (fun c2 => ?_) (fun c2 => ?_)
    · refine lv_iconst (v := 0) hx hb dX3_isPiece_20 (by decide) ?_
      exact W.zret hx hb hr (rfl) (fun t ht hW => ⟨_, rfl, by unfold fX3_isPiece; rw [if_neg c1, if_pos c2], ht⟩) (fun q h => absurd h List.not_mem_nil) dX3_isPiece_21
    · refine lv_iload_n hx hb dX3_isPiece_9 rfl (lv_at hl 1 rfl) ?_
      refine lv_sipush (v := 4001) hx hb dX3_isPiece_10 (by decide) ?_
      refine lv_icmp_gt (tgt := 20) hx hb dX3_isPiece_13 (by decide) (fun c3 => ?_) (fun c3 => ?_)
      · refine lv_iconst (v := 0) hx hb dX3_isPiece_20 (by decide) ?_
        exact W.zret hx hb hr (rfl) (fun t ht hW => ⟨_, rfl, by unfold fX3_isPiece; rw [if_neg c1, if_neg c2, if_pos c3], ht⟩) (fun q h => absurd h List.not_mem_nil) dX3_isPiece_21
      · refine lv_iconst (v := 1) hx hb dX3_isPiece_16 (by decide) ?_
        refine lv_goto (tgt := 21) hx hb dX3_isPiece_17 (by decide) ?_
        exact W.zret hx hb hr (rfl) (fun t ht hW => ⟨_, rfl, by unfold fX3_isPiece; rw [if_neg c1, if_neg c2, if_neg c3], ht⟩) (fun q h => absurd h List.not_mem_nil) dX3_isPiece_21
def fX3_changed (p0 : Int32) (p1 : Int32) : Int32 := if p1 = 1 then (1) else (if p1 = 2 then (if p0 = 0 then (1) else (0)) else (0))
set_option maxHeartbeats 4000000 in
set_option maxRecDepth 100000 in
theorem c_X3_changed (l : Launch) (p0 : Int32) (p1 : Int32) : Met l yX3_changed wX3_changed ({ frames := 0, cells := 0, slots := 0, locals := 0 }) (fun a _ => a = ([.int p0, .int p1] : List Value).toArray) (vp_Si (fun r => r = fX3_changed p0 p1)) 0 0 (fun _ => False) := by
  refine Met.ofW (cc := cX3_changed) (maxL := 2) (ret := (some .boolean)) (by decide) rfl ?_
  intro p e s m args below meth c s₁ B hml hv
  obtain rfl := hv
  have hx := B.exec
  have hb := B.bytes
  have hr := B.returns
  have hts := atoms_spec (ws := wX3_changed) B.pre
  have hw : ∀ w ∈ tg_, w.before _ s = true := fun w h => hts w (List.mem_cons_of_mem _ h)
  have hown : s.vm.findClass RX3 = some m.cls := findClass_of_methodNamed B.named
  have hlocks := B.notSynchronized
  have hl := lv_entry ([.int p0, .int p1]) (n := 2) (Nat.le_of_ble_eq_true rfl)
  rw [lg_entry_eq]
  generalize (lg_sl ([.int p0, .int p1]) ++ List.replicate (2 - (lg_sl ([.int p0, .int p1])).length) Slot.unset).toArray = ls at hl ⊢
  have hl : lv_has ls 2 [(0, .int p0), (1, .int p1)] := hl
  refine lv_iload_n hx hb dX3_changed_0 rfl (lv_at hl 1 rfl) ?_
  refine lv_iconst (v := 1) hx hb dX3_changed_1 (by decide) ?_
  refine lv_icmp_eq (tgt := 14) hx hb dX3_changed_2 (by decide) (fun c1 => ?_) (fun c1 => ?_)
  · refine lv_iconst (v := 1) hx hb dX3_changed_14 (by decide) ?_
    refine lv_goto (tgt := 19) hx hb dX3_changed_15 (by decide) ?_
    exact W.zret hx hb hr (rfl) (fun t ht hW => ⟨_, rfl, by unfold fX3_changed; rw [if_pos c1], ht⟩) (fun q h => absurd h List.not_mem_nil) dX3_changed_19
  · refine lv_iload_n hx hb dX3_changed_5 rfl (lv_at hl 1 rfl) ?_
    refine lv_iconst (v := 2) hx hb dX3_changed_6 (by decide) ?_
    refine lv_icmp_ne (tgt := 18) hx hb dX3_changed_7 (by decide) (fun c2 => ?_) (fun c2 => ?_)
    · refine lv_iconst (v := 0) hx hb dX3_changed_18 (by decide) ?_
      exact W.zret hx hb hr (rfl) (fun t ht hW => ⟨_, rfl, by unfold fX3_changed; rw [if_neg c1, if_neg c2], ht⟩) (fun q h => absurd h List.not_mem_nil) dX3_changed_19
    · refine lv_iload_n hx hb dX3_changed_10 rfl (lv_at hl 0 rfl) ?_
      refine lv_if_ne (tgt := 18) hx hb dX3_changed_11 (by decide) (fun c3 => ?_) (fun c3 => ?_)
      · refine lv_iconst (v := 0) hx hb dX3_changed_18 (by decide) ?_
        exact W.zret hx hb hr (rfl) (fun t ht hW => ⟨_, rfl, by unfold fX3_changed; rw [if_neg c1, if_pos c2, if_neg c3], ht⟩) (fun q h => absurd h List.not_mem_nil) dX3_changed_19
      · refine lv_iconst (v := 1) hx hb dX3_changed_14 (by decide) ?_
        refine lv_goto (tgt := 19) hx hb dX3_changed_15 (by decide) ?_
        exact W.zret hx hb hr (rfl) (fun t ht hW => ⟨_, rfl, by unfold fX3_changed; rw [if_neg c1, if_pos c2, if_pos c3], ht⟩) (fun q h => absurd h List.not_mem_nil) dX3_changed_19
/-! the reference's world: rows and piece as bits, signs, how many -/
def bz (b : Nat → Bool) (k : Nat) : Int32 := b01 (b k)
abbrev AdR : Type := (Nat × Nat × Nat × Nat) × (Nat → Nat) × (ClassId × ClassId × ClassId × (Nat → ClassId))
def mh_ (A : AdR) : Nat := A.1.1
def mq_ (A : AdR) : Nat := A.1.2.1
def mp_ (A : AdR) : Nat := A.1.2.2.1
def ms_ (A : AdR) : Nat := A.1.2.2.2
def mr_ (A : AdR) (j : Nat) : Nat := A.2.1 j
def nQ_ (A : AdR) : ClassId := A.2.2.1
def nP_ (A : AdR) : ClassId := A.2.2.2.1
def nS_ (A : AdR) : ClassId := A.2.2.2.2.1
def nZ_ (A : AdR) (j : Nat) : ClassId := A.2.2.2.2.2 j
abbrev StR : Type := (Nat → Nat → Bool) × (Nat → Bool) × (Nat → Int32) × Int32
def mqF (A : AdR) : Nat → Option Nat := va_up (va_up (va_up (va_up (fun _ => none) 0 (some (mr_ A 0))) 1 (some (mr_ A 1))) 2 (some (mr_ A 2))) 3 (some (mr_ A 3))
theorem mqF_at (A : AdR) {j : Nat} (hj : j < 4) : mqF A j = some (mr_ A j) := by
  rcases j4 hj with rfl | rfl | rfl | rfl <;> rfl
def wR (A : AdR) (u : StR) : va_W := [(mh_ A, .inr (3, [.ref (mq_ A), .ref (mp_ A), .ref (ms_ A), .int u.2.2.2])), (mq_ A, .inl (nQ_ A, 4, .inr (.inr (.inr (.inr (mqF A)))))), (mp_ A, .inl (nP_ A, 4032, .inl (bz u.2.1))), (ms_ A, .inl (nS_ A, 700, .inl u.2.2.1)),
  (mr_ A 0, .inl (nZ_ A 0, 4032, .inl (bz (u.1 0)))), (mr_ A 1, .inl (nZ_ A 1, 4032, .inl (bz (u.1 1)))), (mr_ A 2, .inl (nZ_ A 2, 4032, .inl (bz (u.1 2)))), (mr_ A 3, .inl (nZ_ A 3, 4032, .inl (bz (u.1 3))))]
def tyR (A : AdR) : List (ClassId × FieldType) := [(nQ_ A, .array .boolean), (nP_ A, .boolean), (nS_ A, .byte), (nZ_ A 0, .boolean), (nZ_ A 1, .boolean), (nZ_ A 2, .boolean), (nZ_ A 3, .boolean)]
def aR (A : AdR) (sz : Nat) : Nat → Prop := va_A (wR A (fun _ _ => false, fun _ => false, fun _ => 0, 0)) sz
def upR (M : Nat → Nat → Bool) (j : Nat) (f : Nat → Bool) : Nat → Nat → Bool := fun k => if k = j then f else M k
theorem upR_s (M : Nat → Nat → Bool) (j : Nat) (f : Nat → Bool) : upR M j f j = f := if_pos rfl
theorem upR_n (M : Nat → Nat → Bool) {j k : Nat} (f : Nat → Bool) (h : ¬ k = j) : upR M j f k = M k := if_neg h
theorem upR_u (M : Nat → Nat → Bool) (j : Nat) (f g : Nat → Bool) : upR (upR M j f) j g = upR M j g := by
  funext k
  by_cases h : k = j
  · subst h; rw [upR_s, upR_s]
  · rw [upR_n _ _ h, upR_n _ _ h, upR_n _ _ h]
theorem upR_id (M : Nat → Nat → Bool) (j : Nat) : upR M j (M j) = M := by
  funext k
  by_cases h : k = j
  · subst h; rw [upR_s]
  · rw [upR_n _ _ h]
def upZ (f : Nat → Bool) (k : Nat) (b : Bool) : Nat → Bool := fun q => if q = k then b else f q
theorem bz_up (f : Nat → Bool) (k : Nat) (b : Bool) : upd (bz f) k (b01 b) = bz (upZ f k b) := by
  funext q
  by_cases h : q = k
  · subst h
    rw [pk_us]
    unfold bz upZ
    rw [if_pos rfl]
  · rw [pk_un h]
    unfold bz upZ
    rw [if_neg h]
theorem wR_row (A : AdR) (u : StR) {j : Nat} (hj : j < 4) : (wR A u)[4 + j]? = some (mr_ A j, .inl (nZ_ A j, 4032, .inl (bz (u.1 j)))) := by
  rcases j4 hj with rfl | rfl | rfl | rfl <;> rfl
theorem tyR_row (A : AdR) {j : Nat} (hj : j < 4) : (tyR A)[3 + j]? = some (nZ_ A j, .boolean) := by
  rcases j4 hj with rfl | rfl | rfl | rfl <;> rfl
theorem wR_set (A : AdR) (u : StR) {j : Nat} (hj : j < 4) (f : Nat → Bool) : (wR A u).set (4 + j) (mr_ A j, .inl (nZ_ A j, 4032, .inl (bz f))) = wR A (upR u.1 j f, u.2) := by
  rcases j4 hj with rfl | rfl | rfl | rfl <;> rfl
theorem wR_pc (A : AdR) (u : StR) (f : Nat → Bool) : (wR A u).set 2 (mp_ A, .inl (nP_ A, 4032, .inl (bz f))) = wR A (u.1, f, u.2.2) := rfl
theorem aR_mono {A : AdR} {sz sz' q : Nat} (h : sz ≤ sz') (k : aR A sz' q) : aR A sz q := k.imp id (Nat.le_trans h)
theorem wR_at (A : AdR) (u v : StR) {k : Nat} {q : Nat × va_E} (h : (wR A u)[k]? = some q) : ∃ e, (wR A v)[k]? = some (q.1, e) := by
  have hk : k < 8 := (List.getElem?_eq_some_iff.mp h).1
  rcases (show k = 0 ∨ k = 1 ∨ k = 2 ∨ k = 3 ∨ k = 4 ∨ k = 5 ∨ k = 6 ∨ k = 7 by omega) with rfl | rfl | rfl | rfl | rfl | rfl | rfl | rfl <;> (cases h; exact ⟨_, rfl⟩)
theorem aR_D {A : AdR} {X : Nat → Prop} {sz : Nat} {v : StR} (h : va_D X (wR A v)) : va_D (aR A sz) (wR A v) := ⟨h.1, fun k q hk => by
  obtain ⟨e, he⟩ := wR_at A v (fun _ _ => false, fun _ => false, fun _ => 0, 0) hk
  exact Or.inl ⟨k, e, he⟩⟩
theorem tr_PR {D : va_G} {A : AdR} {u v : StR} {H : Heap} (e : u = v) (h : va_P D bwCl (wR A u) H) : va_P D bwCl (wR A v) H := by
  subst e
  exact h
theorem tr_DR {X : Nat → Prop} {A : AdR} {u v : StR} (e : u = v) (h : va_D X (wR A u)) : va_D X (wR A v) := by
  subst e
  exact h
theorem stR_P {D : va_G} {A : AdR} {u : StR} {H : Heap} {j k : Nat} {x : Int32} {b : Bool} (hx : vp_nar .boolean x = b01 b) (hj : j < 4) (h : va_P D bwCl ((wR A u).set (4 + j) (mr_ A j, .inl (nZ_ A j, 4032, .inl (upd (bz (u.1 j)) k (vp_nar .boolean x))))) H) : va_P D bwCl (wR A (upR u.1 j (upZ (u.1 j) k b), u.2)) H := by
  rw [hx, bz_up, wR_set A u hj] at h
  exact h
theorem stR_D {X : Nat → Prop} {A : AdR} {u : StR} {j k : Nat} {x : Int32} {b : Bool} (hx : vp_nar .boolean x = b01 b) (hj : j < 4) (h : va_D X ((wR A u).set (4 + j) (mr_ A j, .inl (nZ_ A j, 4032, .inl (upd (bz (u.1 j)) k (vp_nar .boolean x)))))) : va_D X (wR A (upR u.1 j (upZ (u.1 j) k b), u.2)) := by
  rw [hx, bz_up, wR_set A u hj] at h
  exact h
theorem stp_P {D : va_G} {A : AdR} {u : StR} {H : Heap} {k : Nat} {x : Int32} {b : Bool} (hx : vp_nar .boolean x = b01 b) (h : va_P D bwCl ((wR A u).set 2 (mp_ A, .inl (nP_ A, 4032, .inl (upd (bz u.2.1) k (vp_nar .boolean x))))) H) : va_P D bwCl (wR A (u.1, upZ u.2.1 k b, u.2.2)) H := by
  rw [hx, bz_up, wR_pc A u] at h
  exact h
theorem stp_D {X : Nat → Prop} {A : AdR} {u : StR} {k : Nat} {x : Int32} {b : Bool} (hx : vp_nar .boolean x = b01 b) (h : va_D X ((wR A u).set 2 (mp_ A, .inl (nP_ A, 4032, .inl (upd (bz u.2.1) k (vp_nar .boolean x)))))) : va_D X (wR A (u.1, upZ u.2.1 k b, u.2.2)) := by
  rw [hx, bz_up, wR_pc A u] at h
  exact h
theorem nb_b (b : Bool) : vp_nar .boolean (b01 b) = b01 b := by
  cases b <;> decide
theorem nb_0 : vp_nar .boolean 0 = b01 false := by decide
theorem nb_1 : vp_nar .boolean 1 = b01 true := by decide
theorem b1f {b : Bool} (h : b01 b = 0) : b = false := by
  cases b with
  | false => rfl
  | true => exact absurd h (by decide)
theorem b1t {b : Bool} (h : ¬ b01 b = 0) : b = true := by
  cases b with
  | false => exact absurd rfl h
  | true => rfl
theorem bzf {b : Nat → Bool} {k : Nat} (h : bz b k = 0) : b k = false := b1f h
theorem bzt {b : Nat → Bool} {k : Nat} (h : ¬ bz b k = 0) : b k = true := b1t h
theorem b1_1 {b : Bool} (h : b01 b = 1) : b = true := (b01_1 b).mp h
theorem b1_n {b : Bool} (h : ¬ b01 b = 1) : b = false := by
  cases b with
  | false => rfl
  | true => exact absurd rfl h
theorem b1_e {b d : Bool} (h : b01 b = b01 d) : b = d := by
  cases b <;> cases d <;> first | rfl | exact absurd h (by decide)
theorem b1_ne {b d : Bool} (h : ¬ b01 b = b01 d) : ¬ b = d := fun e => h (by rw [e])
section RL
variable {p : Program} {l : Launch} {e : Env} {R : Room} {s : State} {m : MethodId} {args : Array Value} {below : List Frame} {meth : Method} {c : Code} {H : Heap} {locs : List Loc} {cells slots : Nat} {Q : State → Prop}
variable {cc : ByteArray} {pc : Nat} {ls : Array Slot} {rest : List Value} {D : va_G} {cl : List vw_C} {a : Nat} {tys : List (ClassId × FieldType)} {ws : va_W}
/-- a row out of an array of rows -/
theorem va_aldz (hexec : p.tables.exec = Jvm.exec) (hb : c.code = cc) (hK : va_K D cl tys s) (hP : va_P D cl ws H) (q0 t0 : Nat) {cA : ClassId} {n : Nat} {f : Nat → Option Nat} (ha : ws[q0]? = some (a, .inl (cA, n, .inr (.inr (.inr (.inr f)))))) (ht : tys[t0]? = some (cA, .array .boolean)) {i : Int32} (hin : vp_in i n) (hdg : decode cc pc = .ok (.aaload, 1))
    (kk : W p l e R s m args below meth c H locs cells slots Q (F0 m (pc + 1) ls (va_rf (f i.toNatClampNeg) :: rest))) : W p l e R s m args below meth c H locs cells slots Q (F0 m pc ls (.int i :: .ref a :: rest)) := by
  have hlt : i.toNatClampNeg < n := Nat.not_le.mp fun q => hin (Or.inr q)
  exact W.aald (v := va_rf (f i.toNatClampNeg)) (ty := .array .boolean) hexec hb (hP q0 _ ha) ((hK.2 t0 _ ht).1 n (fun j => va_rf (f j))) rfl (fun q => by cases q) (by show ¬ (i < 0 ∨ (arrV _ _ _).slots.size ≤ _); rw [arrV_size]; exact hin) (by show (arrV _ _ _).slots[_]? = _; rw [arrV_read _ _ hlt]) rfl rfl hdg kk
end RL
/-- from a on, up to i, F; else g -/
def flz (F g : Nat → Bool) (a i : Nat) : Nat → Bool := fun k => if a ≤ k ∧ k < i then F k else g k
theorem flz_0 (F g : Nat → Bool) (a : Nat) : flz F g a a = g := by
  funext k
  exact if_neg (by omega)
theorem flz_ge (F g : Nat → Bool) (a : Nat) {i k : Nat} (h : i ≤ k) : flz F g a i k = g k := if_neg (by omega)
theorem flz_s (F g : Nat → Bool) {a i : Nat} (ha : a ≤ i) {b : Bool} (hb : b = F i) : upZ (flz F g a i) i b = flz F g a (i + 1) := by
  funext k
  unfold upZ flz
  by_cases h : k = i
  · subst h
    rw [if_pos rfl, if_pos (by omega), hb]
  · rw [if_neg h]
    by_cases h2 : a ≤ k ∧ k < i
    · rw [if_pos h2, if_pos (by omega)]
    · rw [if_neg h2, if_neg (by omega)]
theorem fz_u0 (F : Nat → Bool) (u : StR) (j a : Nat) : u = (upR u.1 j (flz F (u.1 j) a a), u.2) := by
  rw [flz_0, upR_id]
theorem fz_uS (F : Nat → Bool) (u : StR) (j : Nat) {a i : Nat} (ha : a ≤ i) {b : Bool} (hb : b = F i) : ((upR (upR u.1 j (flz F (u.1 j) a i)) j (upZ (upR u.1 j (flz F (u.1 j) a i) j) i b), u.2) : StR) = (upR u.1 j (flz F (u.1 j) a (i + 1)), u.2) := by
  rw [upR_u, upR_s, flz_s _ _ ha hb]
theorem fz_rd (F : Nat → Bool) (M : Nat → Nat → Bool) (j o a : Nat) {i k : Nat} (h : i ≤ k) : bz (upR M j (flz F (M j) a i) o) k = bz (M o) k := by
  unfold bz
  by_cases hq : o = j
  · subst hq
    rw [upR_s, flz_ge _ _ _ h]
  · rw [upR_n _ _ hq]
theorem cn_1 {b : Nat → Bool} {n : Nat} (h : b n = true) : nI (cnt b n) + 1 = nI (cnt b (n + 1)) := by
  rw [nI_1]
  show _ = nI (cnt b n + (if b n = true then 1 else 0))
  rw [if_pos h]
theorem cn_0 {b : Nat → Bool} {n : Nat} (h : b n = false) : nI (cnt b n) + 0 = nI (cnt b (n + 1)) := by
  show nI (cnt b n) + nI 0 = nI (cnt b n + (if b n = true then 1 else 0))
  rw [if_neg (by rw [h]; exact Bool.false_ne_true), nI_add]
def chZ (what : Int32) (old : Bool) : Bool := if what = 1 then true else if what = 2 then !old else false
theorem ch_z (p : Int32) (b : Bool) : vp_nar .boolean (fX3_changed (b01 b) p) = b01 (chZ p b) := by
  unfold fX3_changed chZ
  by_cases h1 : p = 1
  · rw [if_pos h1, if_pos h1]
    exact nb_1
  · rw [if_neg h1, if_neg h1]
    by_cases h2 : p = 2
    · rw [if_pos h2, if_pos h2]
      cases b <;> decide
    · rw [if_neg h2, if_neg h2]
      exact nb_0
theorem pl_in {p : Int32} (h : ¬ fX3_isPlace p = 0) : p.toNatClampNeg ≤ 4000 ∧ p = nI p.toNatClampNeg := by
  unfold fX3_isPlace at h
  by_cases c1 : p < 0
  · rw [if_pos c1] at h
    exact absurd rfl h
  · rw [if_neg c1] at h
    by_cases c2 : 4000 < p
    · rw [if_pos c2] at h
      exact absurd rfl h
    · obtain ⟨a, ha, rfl⟩ := nI_of c1
      rw [nI_clamp ha]
      rw [Int32.lt_iff_toInt_lt, nI_toInt ha, show (4000 : Int32).toInt = 4000 from rfl] at c2
      exact ⟨by omega, rfl⟩
theorem pl_4032 {p : Int32} (h : ¬ fX3_isPlace p = 0) : vp_in p 4032 := by
  obtain ⟨h1, h2⟩ := pl_in h
  rw [h2]
  exact vp_in_nI (by omega) (by decide)
theorem pc_ab {p1 p2 : Int32} (h : ¬ fX3_isPiece p1 p2 = 0) : p1.toNatClampNeg ≤ p2.toNatClampNeg ∧ p2.toNatClampNeg ≤ 4001 ∧ p1 = nI p1.toNatClampNeg ∧ p2 = nI p2.toNatClampNeg := by
  obtain ⟨a, b, h1, h2, rfl, rfl⟩ := pc_of (p1 := p1) (p2 := p2) h
  rw [nI_clamp (by omega), nI_clamp (by omega)]
  exact ⟨h1, h2, rfl, rfl⟩
theorem z_lit0 {f : Nat → Bool} {k : Nat} (h : f k = false) : (0 : Int32) = bz f k := by
  unfold bz
  rw [h]
  rfl
theorem z_lit1 {f : Nat → Bool} {k : Nat} (h : f k = true) : (1 : Int32) = bz f k := by
  unfold bz
  rw [h]
  rfl
