/-! an array of four rows of 4032 booleans, made by one instruction -/
def mz_f (h : Nat) : Nat → Nat → Option Nat
  | 0 => fun _ => none
  | i + 1 => va_up (mz_f h i) i (some (h + 1 + i))
def mz_oc (cQ : ClassId) (h i : Nat) : Cell := vp_cell cQ (4, .inr (.inr (.inr (.inr (mz_f h i)))))
def mz_in (cZ : ClassId) : Cell := vp_cell cZ (4032, .inl (fun _ => 0))
def mz_st (T : State) (cQ cZ : ClassId) : Nat → State
  | 0 => T.pushCell (mz_oc cQ T.heap.size 0)
  | i + 1 => ((mz_st T cQ cZ i).pushCell (mz_in cZ)).setCell T.heap.size (mz_oc cQ T.heap.size (i + 1))
theorem mz_set (cQ : ClassId) (h i : Nat) : (mz_oc cQ h i).setSlot i (.ref (h + 1 + i)) = mz_oc cQ h (i + 1) := by
  unfold mz_oc
  rw [vp_cell_q, vp_cell_q, arrV_store]
  congr 1
  funext q
  by_cases hq : q = i
  · subst hq
    simp [mz_f, updV, va_up, va_rf]
  · simp [mz_f, updV, va_up, hq]
theorem mz_o0 (cQ : ClassId) (h : Nat) : ({ cls := cQ, slots := Array.replicate 4 .null, vm := .none } : Cell) = mz_oc cQ h 0 := by
  unfold mz_oc
  rw [vp_cell_q, arrV_new]
  rfl
theorem mz_i0 (cZ : ClassId) : ({ cls := cZ, slots := Array.replicate 4032 (.int 0), vm := .none } : Cell) = mz_in cZ := by
  unfold mz_in
  rw [vp_cell_i, arrV_new]
theorem mz_osz (cQ : ClassId) (h i : Nat) : (mz_oc cQ h i).slots.size = 4 := by
  unfold mz_oc
  rw [vp_cell_q, arrV_size]
theorem mz_isz (cZ : ClassId) : (mz_in cZ).slots.size = 4032 := by
  unfold mz_in
  rw [vp_cell_i, arrV_size]
theorem mz_stf (T : State) (cQ cZ : ClassId) : ∀ i, (mz_st T cQ cZ i).heap.size = T.heap.size + 1 + i ∧ (mz_st T cQ cZ i).heap[T.heap.size]? = some (mz_oc cQ T.heap.size i) ∧ (mz_st T cQ cZ i).vm = T.vm ∧ (mz_st T cQ cZ i).slotsUsed = T.slotsUsed + 4 + i * 4032 := by
  intro i
  induction i with
  | zero => exact ⟨by simp [mz_st], by simp [mz_st], rfl, by simp [mz_st, mz_osz]⟩
  | succ i ih =>
    obtain ⟨a, b, d, g⟩ := ih
    have hlt : T.heap.size < (mz_st T cQ cZ i).heap.size := by omega
    have hb' : ((mz_st T cQ cZ i).pushCell (mz_in cZ)).heap[T.heap.size]? = some (mz_oc cQ T.heap.size i) := by
      rw [State.heap_pushCell_of_lt (h := hlt)]
      exact b
    refine ⟨?_, State.heap_setCell_self hb', by simp [mz_st, d], ?_⟩
    · simp [mz_st, State.setCell, a]
      omega
    · have e := mz_osz cQ T.heap.size (i + 1)
      have e0 := mz_osz cQ T.heap.size i
      simp [mz_st, g, mz_isz, Nat.succ_mul]
      omega
theorem mz_top (T : State) (f : JFrame) (cQ cZ : ClassId) : ∀ i, mz_st (T.setTop f) cQ cZ i = (mz_st T cQ cZ i).setTop f := by
  intro i
  induction i with
  | zero => rfl
  | succ i ih => simp only [mz_st, ih, State.heap_setTop, State.pushCell_setTop, State.setCell_setTop]
theorem mz_old (T : State) (cQ cZ : ClassId) {a : Nat} (ha : a < T.heap.size) : ∀ i, (mz_st T cQ cZ i).heap[a]? = T.heap[a]? := by
  intro i
  induction i with
  | zero => exact State.heap_pushCell_of_lt _ _ ha
  | succ i ih =>
    have f1 := (mz_stf T cQ cZ i).1
    have hlt : a < (mz_st T cQ cZ i).heap.size := by
      rw [f1]
      omega
    show (((mz_st T cQ cZ i).pushCell (mz_in cZ)).setCell T.heap.size _).heap[a]? = _
    rw [State.heap_setCell_other (Nat.ne_of_gt ha), State.heap_pushCell_of_lt (h := hlt)]
    exact ih
theorem mz_new (T : State) (cQ cZ : ClassId) : ∀ i j, j < i → (mz_st T cQ cZ i).heap[T.heap.size + 1 + j]? = some (mz_in cZ) := by
  intro i
  induction i with
  | zero => exact fun j h => absurd h (Nat.not_lt_zero _)
  | succ i ih =>
    intro j h
    have f1 := (mz_stf T cQ cZ i).1
    show (((mz_st T cQ cZ i).pushCell (mz_in cZ)).setCell T.heap.size _).heap[T.heap.size + 1 + j]? = _
    rw [State.heap_setCell_other (show T.heap.size ≠ T.heap.size + 1 + j by omega)]
    rcases Nat.lt_or_ge j i with hj | hj
    · have hlt : T.heap.size + 1 + j < (mz_st T cQ cZ i).heap.size := by
        rw [f1]
        omega
      rw [State.heap_pushCell_of_lt (h := hlt)]
      exact ih j hj
    · obtain rfl : j = i := by omega
      rw [← f1]
      exact State.heap_pushCell_size _ _
section MZ
variable {E : CtlPost} {e : Env} {d : Bool} {acts : List Action} {s : State}
/-- one row -/
theorem mz_wp1 {cZ cB : ClassId} {kc : Class} (hkc : s.vm.classes[cZ]? = some kc) (hkindc : kc.kind = .array cB .boolean) (hl2 : ¬ 4032 > e.platform.arrayLengthLimit) (hh2 : ¬ 4032 * componentBytes .boolean > e.platform.maxHeapBytes)
    (h1 : s.heap.size < e.platform.maxCells) (h2 : s.slotsUsed + 4032 ≤ e.platform.maxSlots) {Q : Addr → Pre} (hq : ∀ acts', Q s.heap.size d acts' (s.pushCell (mz_in cZ))) : wp (multianewarray.make cZ [4032]) Q E e d acts s := by
  have hm : ¬ (4032 : Int32) < 0 := by decide
  rw [multianewarray.make]
  simp only [wp_bind', W.ite, hm, if_false, wp_pure', W.theClass, hkc, hkindc, Option.some.injEq, exists_eq_left']
  refine W.newArray_of (howMany := 4032) (init := .int 0) hkc hkindc hl2 hh2 h1 h2 rfl (fun acts' => ?_)
  have e0 := mz_i0 cZ
  rw [e0]
  exact hq acts'
/-- four rows -/
theorem mz_wp {cQ cZ cB : ClassId} {k kc : Class} (hk : s.vm.classes[cQ]? = some k) (hkind : k.kind = .array cZ (.array .boolean)) (hkc : s.vm.classes[cZ]? = some kc) (hkindc : kc.kind = .array cB .boolean)
    (hl1 : ¬ 4 > e.platform.arrayLengthLimit) (hh1 : ¬ 4 * componentBytes (.array .boolean) > e.platform.maxHeapBytes) (hl2 : ¬ 4032 > e.platform.arrayLengthLimit) (hh2 : ¬ 4032 * componentBytes .boolean > e.platform.maxHeapBytes)
    (hc : s.heap.size + 5 ≤ e.platform.maxCells) (hs : s.slotsUsed + 16132 ≤ e.platform.maxSlots) {Q : Addr → Pre} (hq : ∀ d' acts', Q s.heap.size d' acts' (mz_st s cQ cZ 4)) : wp (multianewarray.make cQ [4, 4032]) Q E e d acts s := by
  have hn : ¬ (4 : Int32) < 0 := by decide
  have e4 : (4 : Int32).toNatClampNeg = 4 := rfl
  have hfind : ([(4032 : Int32)].find? (· < 0)) = none := by decide
  rw [multianewarray.make]
  simp only [wp_bind', W.ite, hn, if_false, wp_pure', W.theClass, hk, hkind, Option.some.injEq, exists_eq_left', e4]
  refine W.newArray_of (howMany := 4) (init := .null) hk hkind hl1 hh1 (by omega) (by omega) rfl (fun acts1 => ?_)
  have e0 := mz_o0 cQ s.heap.size
  rw [e0]
  simp only [hfind]
  rw [ite_self, wp_bind', Std.Legacy.Range.forIn_eq_forIn_range']
  have hsz : ([:4] : Std.Legacy.Range).size = 4 := by simp [Std.Legacy.Range.size]
  rw [hsz]
  show wp (forIn (List.range' 0 4 1) PUnit.unit _) _ E e d acts1 _
  refine wp_forIn_inv (fun rest s' => ∃ i, i ≤ 4 ∧ rest = List.range' i (4 - i) ∧ s' = mz_st s cQ cZ i) _ _ ⟨0, Nat.zero_le _, rfl, rfl⟩ ?_ ?_
  · rintro x rest s' d' acts' Q' ⟨i, hi, hl, rfl⟩ hnext
    have hlt : i < 4 := by
      rcases Nat.lt_or_ge i 4 with h | h
      · exact h
      · rw [show 4 - i = 0 by omega] at hl
        simp at hl
    obtain ⟨rfl, hrest⟩ : x = i ∧ rest = List.range' (i + 1) (4 - (i + 1)) := by
      rw [show 4 - i = (4 - (i + 1)) + 1 by omega, List.range'_succ] at hl
      exact ⟨(List.cons.inj hl).1, (List.cons.inj hl).2⟩
    obtain ⟨f1, f2, f3, f4⟩ := mz_stf s cQ cZ x
    simp only [wp_bind']
    refine mz_wp1 (by rw [f3]; exact hkc) hkindc hl2 hh2 (by rw [f1]; omega) (by rw [f4]; omega) (fun acts2 => ?_)
    have hlt0 : s.heap.size < (mz_st s cQ cZ x).heap.size := by
      rw [f1]
      omega
    simp only [wp_bind', W.writeLoc, wp_pure']
    refine ⟨mz_oc cQ s.heap.size x, by rw [State.heap_pushCell_of_lt (h := hlt0)]; exact f2, (by intro q; cases q), (by rw [mz_osz]; exact hlt), ?_, hnext _ _ _ ⟨x + 1, hlt, hrest, ?_⟩⟩
    · simp [mz_oc, vp_cell, arrV, State.fitsSlot, State.slotType?, f3, hk, hkind, fits]
    · rw [f1, mz_set]
      rfl
  · rintro s' d' acts' ⟨i, hi, hl, rfl⟩
    obtain rfl : i = 4 := by
      rcases Nat.lt_or_ge i 4 with h | h
      · rw [show 4 - i = (4 - (i + 1)) + 1 by omega, List.range'_succ] at hl
        cases hl
      · omega
    simp only [wp_pure']
    exact hq _ _
end MZ
/-- the array class over rows of booleans is there -/
def va_AQ (U : State) : Prop := ∃ (comp c : ClassId) (k : Class), U.vm.findClass "[Z" = some comp ∧ U.vm.classes[c]? = some k ∧ k.kind = .array comp (.array .boolean) ∧ U.vm.findClass "[[Z" = some c
theorem va_AQ.moved {u U : State} (hvm : u.vm.Alike U.vm) (h : va_AQ u) : va_AQ U := by
  obtain ⟨comp, c, k, h1, h2, h3, h4⟩ := h
  obtain ⟨k', g1, g2⟩ := hvm.2.2 _ _ h2
  exact ⟨comp, c, k', by rw [hvm.findClass]; exact h1, g1, by rw [g2]; exact h3, by rw [hvm.findClass]; exact h4⟩
theorem va_AQ.of {s : State} {args : Array Value} (h : (Cond.arrayOver (.array .boolean)).before args s = true) : va_AQ s := by
  obtain ⟨comp, c, k, h1, -, h2, h3, h4⟩ := arrayOverA_spec h
  exact ⟨comp, c, k, h1, h2, h3, h4⟩
section MZW
variable {p : Program} {l : Launch} {e : Env} {R : Room} {s : State} {m : MethodId} {args : Array Value} {below : List Frame} {meth : Method} {c : Code} {T : State} {H : Heap} {locs : List Loc} {cells slots : Nat} {Q : State → Prop}
def mz_l (h : Nat) : Nat → List Loc
  | 0 => []
  | i + 1 => mz_l h i ++ [⟨h, i⟩]
theorem mz_stand (X : Stand p l e R s m args below meth c T locs cells slots) (cQ cZ : ClassId) : ∀ i, Stand p l e R s m args below meth c (mz_st T cQ cZ i) (locs ++ mz_l T.heap.size i) (cells + 1 + i) (slots + 4 + i * 4032) := by
  intro i
  induction i with
  | zero =>
    have h := X.pushed (mz_oc cQ T.heap.size 0)
    rw [mz_osz] at h
    simpa [mz_st, mz_l] using h
  | succ i ih =>
    obtain ⟨f1, f2, f3, f4⟩ := mz_stf T cQ cZ i
    have hlt0 : T.heap.size < (mz_st T cQ cZ i).heap.size := by
      rw [f1]
      omega
    have hcell : ((mz_st T cQ cZ i).pushCell (mz_in cZ)).heap[T.heap.size]? = some (mz_oc cQ T.heap.size i) := by
      rw [State.heap_pushCell_of_lt (h := hlt0)]
      exact f2
    have h := (ih.pushed (mz_in cZ)).stored hcell i (.ref (T.heap.size + 1 + i))
    rw [mz_isz, mz_set] at h
    have e2 : locs ++ mz_l T.heap.size (i + 1) = (locs ++ mz_l T.heap.size i) ++ [⟨T.heap.size, i⟩] := by
      rw [List.append_assoc]
      rfl
    have e3 : slots + 4 + (i + 1) * 4032 = slots + 4 + i * 4032 + 4032 := by omega
    rw [e2, e3]
    exact h
theorem mz_row {cc : ByteArray} (hexec : p.tables.exec = Jvm.exec) (hb : c.code = cc) {own : String} {index : Nat} (hown : s.vm.findClass own = some m.cls) (hclink : (Cond.classLink own index "[[Z").before args s = true) (hover : va_AQ s) (harr : (Cond.arrayClass .boolean).before args s = true)
    {g : JFrame} (hg : g.method = m) (hdg : decode cc g.pc = .ok (.multianewarray index 2, 4)) {rest : List Value} (hstack : g.stack = .int 4032 :: .int 4 :: rest) (hcells : cells + 5 ≤ R.cells) (hslots : slots + 16132 ≤ R.slots)
    (kk : ∀ (cQ cZ : ClassId) (kA kC : Class) (cB : ClassId) (T1 : State), s.vm.findClass "[[Z" = some cQ → s.vm.findClass "[Z" = some cZ → s.vm.classes[cQ]? = some kA → kA.kind = .array cZ (.array .boolean) → s.vm.classes[cZ]? = some kC → kC.kind = .array cB .boolean → T1.heap = H →
      W p l e R s m args below meth c (mz_st T1 cQ cZ 4).heap (locs ++ mz_l H.size 4) (cells + 5) (slots + 16132) Q { g with pc := g.pc + 4, stack := .ref H.size :: rest }) : W p l e R s m args below meth c H locs cells slots Q g := by
  intro T hT X
  subst hT; subst hb; subst hg
  have hpl : e.platform.magicAccessors = ({} : Platform).magicAccessors := by rw [X.admits.platform]
  obtain ⟨comp, cA, kA, hcomp, hkA, hkindA, hnameA⟩ := hover
  obtain ⟨comp', kC, cB, hcomp', hkC, hkindC⟩ := Cond.arrayClass_spec harr
  have ecomp : comp' = comp := Option.some.inj (hcomp'.symm.trans hcomp)
  subst ecomp
  obtain ⟨c0, hfc0, hcl⟩ := Cond.classLink_spec hown hclink e.platform hpl
  cases hnameA.symm.trans hfc0
  obtain ⟨hg₁, hwarm₁, hready₁⟩ := State.classEntry (e := e) X.warmed hcl
  generalize T.vm.noted g.method.cls index (.cls cA) = vm₁ at hg₁ hwarm₁ hready₁
  have hal : s.vm.Alike vm₁ := hwarm₁.alike
  obtain ⟨kA₁, hkA₁, heA⟩ := hal.2.2 _ _ hkA
  obtain ⟨kC₁, hkC₁, heC⟩ := hal.2.2 _ _ hkC
  have hkindA₁ : kA₁.kind = .array comp' (.array .boolean) := by rw [heA]; exact hkindA
  have hkindC₁ : kC₁.kind = .array cB .boolean := by rw [heC]; exact hkindC
  have X₁ := X.noted hwarm₁
  obtain ⟨hr1, hr2⟩ := X.roomAbove hcells hslots
  have hl1 : ¬ 4 > e.platform.arrayLengthLimit := by rw [Launch.admits_arrayLengthLimit X.admits]; omega
  have hh1 : ¬ 4 * componentBytes (.array .boolean) > e.platform.maxHeapBytes := by
    rw [Launch.admits_maxHeapBytes X.admits]; show ¬ 4 * 4 > 536870912; omega
  have hl2 : ¬ 4032 > e.platform.arrayLengthLimit := by rw [Launch.admits_arrayLengthLimit X.admits]; omega
  have hh2 : ¬ 4032 * componentBytes .boolean > e.platform.maxHeapBytes := by
    rw [Launch.admits_maxHeapBytes X.admits]; show ¬ 4032 * 1 > 536870912; omega
  have XF := mz_stand X₁ cA comp' 4
  have es : slots + 4 + 4 * 4032 = slots + 16132 := by omega
  have ec : cells + 1 + 4 = cells + 5 := by omega
  rw [es, ec] at XF
  obtain ⟨t', a1, b1⟩ := kk cA comp' kA kC cB (T.setVm vm₁) hnameA hcomp hkA hkindA hkC hkindC rfl (mz_st (T.setVm vm₁) cA comp' 4) rfl XF
  refine ⟨t', ?_, b1⟩
  jvm_step X.here [hexec, hdg]
  simp only [multianewarray.sem, wp_bind', W.resolveClassAt_links (State.method?_setTop g X.here.top) hg₁]
  rw [W.popN, if_neg (by decide)]
  refine ⟨g, State.topJava?_setTop' (s := T.setVm vm₁) g X.here.top, [.int 4, .int 4032], rest, rfl, hstack, ?_⟩
  simp only [List.mapM_cons, List.mapM_nil, wp_bind', wp_pure']
  refine mz_wp (k := kA₁) (kc := kC₁) (cB := cB) hkA₁ hkindA₁ hkC₁ hkindC₁ hl1 hh1 hl2 hh2 (by show T.heap.size + 5 ≤ _; omega) (by show T.slotsUsed + _ ≤ _; omega) (fun d' acts' => ?_)
  have eS : ((T.setTop g).setVm vm₁).setTop { g with stack := rest } = (T.setVm vm₁).setTop { g with stack := rest } := by
    show ((T.setVm vm₁).setTop g).setTop _ = _
    rw [State.setTop_setTop]
  rw [eS, mz_top]
  simp only [wp_bind', W.mark, W.pushRef, State.topJava?_setTop' _ XF.here.top, Option.some.injEq, exists_eq_left', State.setTop_setTop, State.heap_setTop]
  intro acts2
  simp [jvm, XF.here.top]
  exact a1
end MZW

def mz_w (q : Nat) (cQ cZ : ClassId) : va_W := [(q, .inl (cQ, 4, .inr (.inr (.inr (.inr (mz_f q 4)))))), (q + 1 + 0, .inl (cZ, 4032, .inl (fun _ => 0))), (q + 1 + 1, .inl (cZ, 4032, .inl (fun _ => 0))), (q + 1 + 2, .inl (cZ, 4032, .inl (fun _ => 0))), (q + 1 + 3, .inl (cZ, 4032, .inl (fun _ => 0)))]
theorem mz_wat {q : Nat} {cQ cZ : ClassId} {i : Nat} {x : Nat × va_E} (h : (mz_w q cQ cZ)[i]? = some x) : i < 5 ∧ x.1 = q + i := by
  have hk : i < 5 := (List.getElem?_eq_some_iff.mp h).1
  refine ⟨hk, ?_⟩
  rcases (show i = 0 ∨ i = 1 ∨ i = 2 ∨ i = 3 ∨ i = 4 by omega) with rfl | rfl | rfl | rfl | rfl <;> (cases h; rfl)
section MZV
variable {p : Program} {l : Launch} {e : Env} {R : Room} {s : State} {m : MethodId} {args : Array Value} {below : List Frame} {meth : Method} {c : Code} {H : Heap} {locs : List Loc} {cells slots : Nat} {Q : State → Prop}
variable {cc : ByteArray} {pc : Nat} {ls : Array Slot} {rest : List Value} {D : va_G} {cl : List vw_C} {A : Nat → Prop} {tys : List (ClassId × FieldType)} {ws : va_W} {H0 : Heap}
theorem va_mz (hexec : p.tables.exec = Jvm.exec) (hb : c.code = cc) {own : String} {index : Nat} (hown : s.vm.findClass own = some m.cls) (hclink : (Cond.classLink own index "[[Z").before args s = true) (hover : va_AQ s) (harr : (Cond.arrayClass .boolean).before args s = true)
    (hK : va_K D cl tys s) (hP : va_P D cl ws H) (hD : va_D A ws) (hS : va_S A H0 H locs) (hA : ∀ q, H0.size ≤ q → A q) (hcells : cells + 5 ≤ R.cells) (hslots : slots + 16132 ≤ R.slots) (hdg : decode cc pc = .ok (.multianewarray index 2, 4))
    (kk : ∀ (q : Nat) (cQ cZ : ClassId) (H1 : Heap) (locs1 : List Loc), va_K D cl (tys ++ [(cQ, .array .boolean), (cZ, .boolean)]) s → va_P D cl (ws ++ mz_w q cQ cZ) H1 → va_D A (ws ++ mz_w q cQ cZ) → va_S A H0 H1 locs1 →
      W p l e R s m args below meth c H1 locs1 (cells + 5) (slots + 16132) Q (F0 m (pc + 4) ls (.ref q :: rest))) : W p l e R s m args below meth c H locs cells slots Q (F0 m pc ls (.int 4032 :: .int 4 :: rest)) := by
  refine mz_row hexec hb hown hclink hover harr rfl hdg rfl hcells hslots fun cQ cZ kA kC cB T1 n1 n2 k1 k2 k3 k4 hT => ?_
  subst hT
  obtain ⟨z1, z2, -, -⟩ := mz_stf T1 cQ cZ 4
  have o1 : ∀ q : Nat, q < T1.heap.size → (mz_st T1 cQ cZ 4).heap[q]? = T1.heap[q]? := fun q hq => mz_old T1 cQ cZ hq 4
  have hk : ∀ (k : Nat) (x : Nat × va_E), ws[k]? = some x → (mz_st T1 cQ cZ 4).heap[x.1]? = T1.heap[x.1]? := fun k x hx => o1 x.1 ((hP k x hx).lt)
  have hDn : va_D A (mz_w T1.heap.size cQ cZ) := ⟨fun i j x y hi hj hxy => by
      have a1 := (mz_wat hi).2
      have a2 := (mz_wat hj).2
      omega, fun k q hq => by
      rw [(mz_wat hq).2]
      exact hA _ (Nat.le_trans hS.1 (Nat.le_add_right _ _))⟩
  refine kk T1.heap.size cQ cZ _ _ ⟨hK.1, fun k x hx => ?_⟩ ((hP.kept hk).app (fun k x hx => ?_)) (hD.app hDn (fun i j x y hx hy hxy => ?_)) ⟨Nat.le_trans hS.1 (by omega), fun x h1 h2 => (o1 x (Nat.lt_of_lt_of_le h1 hS.1)).trans (hS.2.1 x h1 h2), fun q hq => ?_⟩
  · by_cases hl : k < tys.length
    · rw [List.getElem?_append_left hl] at hx
      exact hK.2 k x hx
    · rw [List.getElem?_append_right (by omega)] at hx
      have hz : k - tys.length < 2 := (List.getElem?_eq_some_iff.mp hx).1
      rcases (show k - tys.length = 0 ∨ k - tys.length = 1 by omega) with e0 | e0
      · rw [e0] at hx
        cases hx
        exact ⟨fun n z => ⟨fun k h => (by cases h), kA, k1, cZ, k2⟩, n1⟩
      · rw [e0] at hx
        cases hx
        exact ⟨fun n z => ⟨fun k h => (by cases h), kC, k3, cB, k4⟩, n2⟩
  · have hz : k < 5 := (mz_wat hx).1
    rcases (show k = 0 ∨ k = 1 ∨ k = 2 ∨ k = 3 ∨ k = 4 by omega) with rfl | rfl | rfl | rfl | rfl
    · cases hx
      exact z2
    · cases hx
      exact mz_new T1 cQ cZ 4 0 (by decide)
    · cases hx
      exact mz_new T1 cQ cZ 4 1 (by decide)
    · cases hx
      exact mz_new T1 cQ cZ 4 2 (by decide)
    · cases hx
      exact mz_new T1 cQ cZ 4 3 (by decide)
  · have a1 := (hP i x hx).lt
    have a2 := (mz_wat hy).2
    omega
  · rcases List.mem_append.mp hq with h | h
    · exact hS.2.2 q h
    · have hbse : q.base = T1.heap.size := by
        simp [mz_l] at h
        rcases h with h | h | h | h <;> rw [h]
      rw [hbse]
      exact hA _ hS.1
end MZV
