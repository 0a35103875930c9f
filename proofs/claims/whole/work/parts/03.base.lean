/-! words: one list for all methods -/
theorem gi_in {big : List Cond} {c2 : Cond} (hb : ∀ w ∈ tg_, w ∈ big) (h : c2 ∈ tg_) : GoodIn big (c2 :: tg_) := by
  intro w hw
  have h1 : w ∈ tg_ := (List.mem_cons.mp hw).elim (fun e => e ▸ h) id
  exact ⟨hb w h1, good_of_word (tg_good h1)⟩
theorem gi_V {big : List Cond} {own C : String} {idx : Nat} {y : MethodName} {c2 : Cond} (hb : ∀ w ∈ tg_, w ∈ big) (h1 : (.methodLink own idx y : Cond) ∈ tg_) (h2 : (.instanceMethod y : Cond) ∈ tg_) (h3 : (.selects C y y : Cond) ∈ tg_) (h4 : (.initialized C : Cond) ∈ tg_) (h : c2 ∈ tg_) : GoodIn big (wsV own idx C y (c2 :: tg_)) := by
  intro w hw
  have h5 : w ∈ tg_ := by
    unfold wsV at hw
    rcases List.mem_append.mp hw with hw | hw
    · simp only [List.mem_cons, List.not_mem_nil, or_false] at hw
      rcases hw with rfl | rfl | rfl | rfl <;> assumption
    · exact (List.mem_cons.mp hw).elim (fun e => e ▸ h) id
  exact ⟨hb w h5, good_of_word (tg_good h5)⟩
theorem gi_S {big : List Cond} {own : String} {idx : Nat} {y : MethodName} {c2 : Cond} (hb : ∀ w ∈ tg_, w ∈ big) (h1 : (.methodLink own idx y : Cond) ∈ tg_) (h2 : (.static y : Cond) ∈ tg_) (h4 : (.initialized y.cls : Cond) ∈ tg_) (h : c2 ∈ tg_) : GoodIn big (va_wsS own idx y (c2 :: tg_)) := by
  intro w hw
  have h5 : w ∈ tg_ := by
    unfold va_wsS at hw
    rcases List.mem_append.mp hw with hw | hw
    · simp only [List.mem_cons, List.not_mem_nil, or_false] at hw
      rcases hw with rfl | rfl | rfl <;> assumption
    · exact (List.mem_cons.mp hw).elim (fun e => e ▸ h) id
  exact ⟨hb w h5, good_of_word (tg_good h5)⟩
theorem hbc {c1 : Cond} : ∀ w ∈ tg_, w ∈ c1 :: tg_ := fun _ h => List.mem_cons_of_mem _ h
theorem nI_dec {n : Nat} (h : 0 < n) : nI n + (-1) = nI (n - 1) := by
  obtain ⟨k, rfl⟩ : ∃ k, n = k + 1 := ⟨n - 1, by omega⟩
  rw [pk_m1, Nat.add_sub_cancel]
/-- a table switch's way out -/
theorem sw_out3 {x : Int32} (h0 : ¬ x = 0) (h1 : ¬ x = 1) (h2 : ¬ x = 2) : x.toInt < 0 ∨ 2 < x.toInt := by
  have a0 : ¬ x.toInt = 0 := lv_neT h0 rfl
  have a1 : ¬ x.toInt = 1 := lv_neT h1 rfl
  have a2 : ¬ x.toInt = 2 := lv_neT h2 rfl
  omega
theorem sw_out4 {x : Int32} (h0 : ¬ x = 0) (h1 : ¬ x = 1) (h2 : ¬ x = 2) (h3 : ¬ x = 3) : x.toInt < 0 ∨ 3 < x.toInt := by
  have a0 : ¬ x.toInt = 0 := lv_neT h0 rfl
  have a1 : ¬ x.toInt = 1 := lv_neT h1 rfl
  have a2 : ¬ x.toInt = 2 := lv_neT h2 rfl
  have a3 : ¬ x.toInt = 3 := lv_neT h3 rfl
  omega
/-! a system's world: a state u of type σ, its cells w u, the addresses that it owns (and all behind sz) -/
def gP {σ : Type} (D : va_G) (cl : List vw_C) (tys : List (ClassId × FieldType)) (w : σ → va_W) (aX : Nat → Nat → Prop) (sz : Nat) (u : σ) : State → Prop := fun U => U.heap.size = sz ∧ va_P D cl (w u) U.heap ∧ va_K D cl tys U ∧ va_D (aX sz) (w u)
def gB {σ : Type} (D : va_G) (cl : List vw_C) (tys : List (ClassId × FieldType)) (w : σ → va_W) (A : Nat → Prop) : σ → State → Prop := fun u U => va_P D cl (w u) U.heap ∧ va_K D cl tys U ∧ va_D A (w u)
def gMi {σ : Type} (l : Launch) (y : MethodName) (ws : List Cond) (rm : Room) (D : va_G) (cl : List vw_C) (tys : List (ClassId × FieldType)) (w : σ → va_W) (aX : Nat → Nat → Prop) (av : List Value) (u : σ) (post : Int32 → σ → Prop) : Prop :=
  ∀ sz : Nat, Met l y ws rm (va_Pc av (gP D cl tys w aX sz u)) (va_Qi post (gB D cl tys w (aX sz)) (aX sz)) 0 0 (aX sz)
def gMl {σ : Type} (l : Launch) (y : MethodName) (ws : List Cond) (rm : Room) (D : va_G) (cl : List vw_C) (tys : List (ClassId × FieldType)) (w : σ → va_W) (aX : Nat → Nat → Prop) (av : List Value) (u : σ) (post : Int64 → σ → Prop) : Prop :=
  ∀ sz : Nat, Met l y ws rm (va_Pc av (gP D cl tys w aX sz u)) (va_Ql post (gB D cl tys w (aX sz)) (aX sz)) 0 0 (aX sz)
def gMv {σ : Type} (l : Launch) (y : MethodName) (ws : List Cond) (rm : Room) (D : va_G) (cl : List vw_C) (tys : List (ClassId × FieldType)) (w : σ → va_W) (aX : Nat → Nat → Prop) (av : List Value) (u : σ) (post : σ → Prop) : Prop :=
  ∀ sz : Nat, Met l y ws rm (va_Pc av (gP D cl tys w aX sz u)) (va_Qv post (gB D cl tys w (aX sz)) (aX sz)) 0 0 (aX sz)
theorem gP_blind {σ : Type} {D : va_G} {cl : List vw_C} {tys : List (ClassId × FieldType)} {w : σ → va_W} {aX : Nat → Nat → Prop} {sz : Nat} {u : σ} {av : List Value} : FrameBlind (va_Pc av (gP D cl tys w aX sz u)) := by
  intro a U g mk q
  obtain ⟨q0, q1, qP, qK, qD⟩ := q
  exact ⟨q0, q1, qP, va_K.moved (u := U) (U := U.calling g mk a) (Vm.Alike.refl U.vm) qK, qD⟩
section GC
variable {p : Program} {l : Launch} {e : Env} {R : Room} {s : State} {m : MethodId} {args : Array Value} {below : List Frame} {meth : Method} {c : Code} {H : Heap} {locs : List Loc} {cells slots : Nat} {Q : State → Prop}
variable {pc : Nat} {ls : Array Slot} {rest st0 : List Value} {y : MethodName} {bytes cc : ByteArray} {maxL nL n index : Nat} {ret : Option FieldType} {ws Ts : List Cond} {rm : Room} {own C : String} {b : Addr} {As : List Value}
variable {σ : Type} {D : va_G} {cl : List vw_C} {tys : List (ClassId × FieldType)} {w : σ → va_W} {aX : Nat → Nat → Prop} {u : σ}
theorem gVi {post : Int32 → σ → Prop} (S : CallFix p m c cc nL s args Ts own) (hM : gMi l y ws rm D cl tys w aX (.ref b :: As) u post) (cw : CallW R s args own C index y bytes maxL ret ws rm 0 0 n)
    (hrc : ∃ cellB : Cell, H[b]? = some cellB ∧ cellB.vm.isStatics = false ∧ s.vm.findClass C = some cellB.cls) (hmono : ∀ {sz sz' q : Nat}, sz ≤ sz' → aX sz' q → aX sz q) (hself : ∀ {X : Nat → Prop} {sz : Nat} {v : σ}, va_D X (w v) → va_D (aX sz) (w v))
    (hP : va_P D cl (w u) H) (hK : va_K D cl tys s) (hD : va_D (aX s.heap.size) (w u)) (hS : va_S (aX s.heap.size) s.heap H locs) (hn : As.length = n) (hsz : ls.size = nL) (hst : st0 = As.reverse ++ .ref b :: rest) (hrm : (rest.map fun v => v.category).sum ≤ 8) (hdg : decode cc pc = .ok (.invokevirtual index, 3)) (hf : cells + 0 ≤ R.cells ∧ slots + 0 ≤ R.slots)
    (kk : ∀ (r : Int32) (v : σ) (H1 : Heap) (locs1 : List Loc), post r v → va_P D cl (w v) H1 → va_D (aX s.heap.size) (w v) → va_S (aX s.heap.size) s.heap H1 locs1 → W p l e R s m args below meth c H1 locs1 cells slots Q (F0 m (pc + 3) ls (.int r :: rest))) : W p l e R s m args below meth c H locs cells slots Q (F0 m pc ls st0) := by
  refine va_calli (va_runV S (hM H.size) cw ⟨gP_blind, hrc, fun U hU hW => ⟨rfl, by rw [hU], by rw [hU]; exact hP, va_K.moved hW.alike hK, hself hD⟩⟩ rfl hn hsz hst (lv_room hrm) hdg hf) hS (fun q _ h => hmono hS.1 h) (fun q h => hmono hS.1 h) (fun r v t H1 locs1 ht hvm hp hB hz hk hS1 => ?_)
  obtain ⟨hP1, -, hD1⟩ := hB
  rw [ht] at hP1
  exact kk r v H1 locs1 hp hP1 (hself hD1) hS1
theorem gVl {post : Int64 → σ → Prop} (S : CallFix p m c cc nL s args Ts own) (hM : gMl l y ws rm D cl tys w aX (.ref b :: As) u post) (cw : CallW R s args own C index y bytes maxL ret ws rm 0 0 n)
    (hrc : ∃ cellB : Cell, H[b]? = some cellB ∧ cellB.vm.isStatics = false ∧ s.vm.findClass C = some cellB.cls) (hmono : ∀ {sz sz' q : Nat}, sz ≤ sz' → aX sz' q → aX sz q) (hself : ∀ {X : Nat → Prop} {sz : Nat} {v : σ}, va_D X (w v) → va_D (aX sz) (w v))
    (hP : va_P D cl (w u) H) (hK : va_K D cl tys s) (hD : va_D (aX s.heap.size) (w u)) (hS : va_S (aX s.heap.size) s.heap H locs) (hn : As.length = n) (hsz : ls.size = nL) (hst : st0 = As.reverse ++ .ref b :: rest) (hrm : (rest.map fun v => v.category).sum ≤ 8) (hdg : decode cc pc = .ok (.invokevirtual index, 3)) (hf : cells + 0 ≤ R.cells ∧ slots + 0 ≤ R.slots)
    (kk : ∀ (r : Int64) (v : σ) (H1 : Heap) (locs1 : List Loc), post r v → va_P D cl (w v) H1 → va_D (aX s.heap.size) (w v) → va_S (aX s.heap.size) s.heap H1 locs1 → W p l e R s m args below meth c H1 locs1 cells slots Q (F0 m (pc + 3) ls (.long r :: rest))) : W p l e R s m args below meth c H locs cells slots Q (F0 m pc ls st0) := by
  refine va_calll (va_runV S (hM H.size) cw ⟨gP_blind, hrc, fun U hU hW => ⟨rfl, by rw [hU], by rw [hU]; exact hP, va_K.moved hW.alike hK, hself hD⟩⟩ rfl hn hsz hst (lv_room hrm) hdg hf) hS (fun q _ h => hmono hS.1 h) (fun q h => hmono hS.1 h) (fun r v t H1 locs1 ht hvm hp hB hz hk hS1 => ?_)
  obtain ⟨hP1, -, hD1⟩ := hB
  rw [ht] at hP1
  exact kk r v H1 locs1 hp hP1 (hself hD1) hS1
theorem gVv {post : σ → Prop} (S : CallFix p m c cc nL s args Ts own) (hM : gMv l y ws rm D cl tys w aX (.ref b :: As) u post) (cw : CallW R s args own C index y bytes maxL ret ws rm 0 0 n)
    (hrc : ∃ cellB : Cell, H[b]? = some cellB ∧ cellB.vm.isStatics = false ∧ s.vm.findClass C = some cellB.cls) (hmono : ∀ {sz sz' q : Nat}, sz ≤ sz' → aX sz' q → aX sz q) (hself : ∀ {X : Nat → Prop} {sz : Nat} {v : σ}, va_D X (w v) → va_D (aX sz) (w v))
    (hP : va_P D cl (w u) H) (hK : va_K D cl tys s) (hD : va_D (aX s.heap.size) (w u)) (hS : va_S (aX s.heap.size) s.heap H locs) (hn : As.length = n) (hsz : ls.size = nL) (hst : st0 = As.reverse ++ .ref b :: rest) (hrm : (rest.map fun v => v.category).sum ≤ 8) (hdg : decode cc pc = .ok (.invokevirtual index, 3)) (hf : cells + 0 ≤ R.cells ∧ slots + 0 ≤ R.slots)
    (kk : ∀ (v : σ) (H1 : Heap) (locs1 : List Loc), post v → va_P D cl (w v) H1 → va_D (aX s.heap.size) (w v) → va_S (aX s.heap.size) s.heap H1 locs1 → W p l e R s m args below meth c H1 locs1 cells slots Q (F0 m (pc + 3) ls rest)) : W p l e R s m args below meth c H locs cells slots Q (F0 m pc ls st0) := by
  refine va_callv (va_runV S (hM H.size) cw ⟨gP_blind, hrc, fun U hU hW => ⟨rfl, by rw [hU], by rw [hU]; exact hP, va_K.moved hW.alike hK, hself hD⟩⟩ rfl hn hsz hst (lv_room hrm) hdg hf) hS (fun q _ h => hmono hS.1 h) (fun q h => hmono hS.1 h) (fun v t H1 locs1 ht hvm hp hB hz hk hS1 => ?_)
  obtain ⟨hP1, -, hD1⟩ := hB
  rw [ht] at hP1
  exact kk v H1 locs1 hp hP1 (hself hD1) hS1
/-- a loop that counts up: the invariant by the count, the head's stack empty -/
theorem w_loop {N i0 : Nat} {pc : Nat} (Iv : Nat → Heap → List Loc → Array Slot → Prop) (hi0 : i0 ≤ N) (h0 : Iv i0 H locs ls)
    (step : ∀ (i : Nat) (H : Heap) (locs : List Loc) (ls : Array Slot), i0 ≤ i → i ≤ N → Iv i H locs ls → (∀ (H' : Heap) (locs' : List Loc) (ls' : Array Slot), i < N → Iv (i + 1) H' locs' ls' → W p l e R s m args below meth c H' locs' cells slots Q (F0 m pc ls' [])) → W p l e R s m args below meth c H locs cells slots Q (F0 m pc ls [])) :
    W p l e R s m args below meth c H locs cells slots Q (F0 m pc ls []) := by
  have key : ∀ (n i : Nat), i + n = N → i0 ≤ i → ∀ (H : Heap) (locs : List Loc) (ls : Array Slot), Iv i H locs ls → W p l e R s m args below meth c H locs cells slots Q (F0 m pc ls []) := by
    intro n
    induction n with
    | zero => exact fun i hi h1 H locs ls hI => step i H locs ls h1 (by omega) hI (fun _ _ _ hlt => absurd hlt (by omega))
    | succ n ih => exact fun i hi h1 H locs ls hI => step i H locs ls h1 (by omega) hI (fun H' locs' ls' _ hI' => ih (i + 1) (by omega) (by omega) H' locs' ls' hI')
  exact key (N - i0) i0 (by omega) (Nat.le_refl _) H locs ls h0
end GC
/-! the class's world -/
abbrev AdB : Type := (Nat × Nat × Nat × Nat) × ((Nat → Nat) × (Nat → Nat)) × (ClassId × (Nat → ClassId) × ClassId)
def ah_ (A : AdB) : Nat := A.1.1
def aq_ (A : AdB) : Nat := A.1.2.1
def ag_ (A : AdB) : Nat := A.1.2.2.1
def ac_ (A : AdB) : Nat := A.1.2.2.2
def ar_ (A : AdB) (j : Nat) : Nat := A.2.1.1 j
def aw_ (A : AdB) (j : Nat) : Nat := A.2.1.2 j
def kR_ (A : AdB) : ClassId := A.2.2.1
def kJ_ (A : AdB) (j : Nat) : ClassId := A.2.2.2.1 j
def kC_ (A : AdB) : ClassId := A.2.2.2.2
def rwF (A : AdB) : Nat → Option Nat := va_up (va_up (va_up (va_up (fun _ => none) 0 (some (ar_ A 0))) 1 (some (ar_ A 1))) 2 (some (ar_ A 2))) 3 (some (ar_ A 3))
theorem rwF_at (A : AdB) {j : Nat} (hj : j < 4) : rwF A j = some (ar_ A j) := by
  rcases (show j = 0 ∨ j = 1 ∨ j = 2 ∨ j = 3 by omega) with rfl | rfl | rfl | rfl <;> rfl
/-- the words of each row, the signs, how many -/
abbrev StB : Type := (Nat → Nat → Int64) × (Nat → Int32) × Int32
def wB (A : AdB) (u : StB) : va_W := [(ah_ A, .inr (2, [.ref (aq_ A), .ref (ag_ A)])), (aq_ A, .inl (kR_ A, 4, .inr (.inr (.inr (.inr (rwF A)))))), (ag_ A, .inr (1, [.ref (ac_ A), .int u.2.2])), (ac_ A, .inl (kC_ A, 530, .inl u.2.1)),
  (ar_ A 0, .inr (0, [.ref (aw_ A 0)])), (ar_ A 1, .inr (0, [.ref (aw_ A 1)])), (ar_ A 2, .inr (0, [.ref (aw_ A 2)])), (ar_ A 3, .inr (0, [.ref (aw_ A 3)])),
  (aw_ A 0, .inl (kJ_ A 0, 63, .inr (.inl (u.1 0)))), (aw_ A 1, .inl (kJ_ A 1, 63, .inr (.inl (u.1 1)))), (aw_ A 2, .inl (kJ_ A 2, 63, .inr (.inl (u.1 2)))), (aw_ A 3, .inl (kJ_ A 3, 63, .inr (.inl (u.1 3))))]
def tyB (A : AdB) : List (ClassId × FieldType) := [(kR_ A, .object RX0), (kC_ A, .char), (kJ_ A 0, .long), (kJ_ A 1, .long), (kJ_ A 2, .long), (kJ_ A 3, .long)]
def aB (A : AdB) (sz : Nat) : Nat → Prop := va_A (wB A (fun _ _ => 0, fun _ => 0, 0)) sz
def upM (M : Nat → Nat → Int64) (j : Nat) (f : Nat → Int64) : Nat → Nat → Int64 := fun k => if k = j then f else M k
theorem upM_s (M : Nat → Nat → Int64) (j : Nat) (f : Nat → Int64) : upM M j f j = f := if_pos rfl
theorem upM_n (M : Nat → Nat → Int64) {j k : Nat} (f : Nat → Int64) (h : ¬ k = j) : upM M j f k = M k := if_neg h
theorem upM_u (M : Nat → Nat → Int64) (j : Nat) (f g : Nat → Int64) : upM (upM M j f) j g = upM M j g := by
  funext k
  by_cases h : k = j
  · subst h; rw [upM_s, upM_s]
  · rw [upM_n _ _ h, upM_n _ _ h, upM_n _ _ h]
theorem upM_id (M : Nat → Nat → Int64) (j : Nat) : upM M j (M j) = M := by
  funext k
  by_cases h : k = j
  · subst h; rw [upM_s]
  · rw [upM_n _ _ h]
theorem j4 {j : Nat} (hj : j < 4) : j = 0 ∨ j = 1 ∨ j = 2 ∨ j = 3 := by omega
theorem wB_row (A : AdB) (u : StB) {j : Nat} (hj : j < 4) : (wB A u)[4 + j]? = some (ar_ A j, .inr (0, [.ref (aw_ A j)])) := by
  rcases j4 hj with rfl | rfl | rfl | rfl <;> rfl
theorem tyB_wds (A : AdB) {j : Nat} (hj : j < 4) : (tyB A)[2 + j]? = some (kJ_ A j, .long) := by
  rcases j4 hj with rfl | rfl | rfl | rfl <;> rfl
theorem wB_wds (A : AdB) (u : StB) {j : Nat} (hj : j < 4) : (wB A u)[8 + j]? = some (aw_ A j, .inl (kJ_ A j, 63, .inr (.inl (u.1 j)))) := by
  rcases j4 hj with rfl | rfl | rfl | rfl <;> rfl
theorem wB_set (A : AdB) (u : StB) {j : Nat} (hj : j < 4) (f : Nat → Int64) : (wB A u).set (8 + j) (aw_ A j, .inl (kJ_ A j, 63, .inr (.inl f))) = wB A (upM u.1 j f, u.2) := by
  rcases j4 hj with rfl | rfl | rfl | rfl <;> rfl
theorem wB_len (A : AdB) (u : StB) (n : Int32) : (wB A u).set 2 (ag_ A, .inr (1, [.ref (ac_ A), .int n])) = wB A (u.1, u.2.1, n) := rfl
theorem wB_chr (A : AdB) (u : StB) (f : Nat → Int32) : (wB A u).set 3 (ac_ A, .inl (kC_ A, 530, .inl f)) = wB A (u.1, f, u.2.2) := rfl
theorem aB_mono {A : AdB} {sz sz' q : Nat} (h : sz ≤ sz') (k : aB A sz' q) : aB A sz q := k.imp id (Nat.le_trans h)
theorem wB_at (A : AdB) (u v : StB) {k : Nat} {q : Nat × va_E} (h : (wB A u)[k]? = some q) : ∃ e, (wB A v)[k]? = some (q.1, e) := by
  have hk : k < 12 := (List.getElem?_eq_some_iff.mp h).1
  rcases (show k = 0 ∨ k = 1 ∨ k = 2 ∨ k = 3 ∨ k = 4 ∨ k = 5 ∨ k = 6 ∨ k = 7 ∨ k = 8 ∨ k = 9 ∨ k = 10 ∨ k = 11 by omega) with rfl | rfl | rfl | rfl | rfl | rfl | rfl | rfl | rfl | rfl | rfl | rfl <;> (cases h; exact ⟨_, rfl⟩)
theorem aB_D {A : AdB} {X : Nat → Prop} {sz : Nat} {v : StB} (h : va_D X (wB A v)) : va_D (aB A sz) (wB A v) := ⟨h.1, fun k q hk => by
  obtain ⟨e, he⟩ := wB_at A v (fun _ _ => 0, fun _ => 0, 0) hk
  exact Or.inl ⟨k, e, he⟩⟩
