/-! THE CLAIM OUT OF ONE WALK OF THE LAW'S BODY. Your part is whole_start (and what it stands on); all else here is the same for every law, but numbers. -/
def R_law : String := "BitBoardLaw"
def lw_P (b : Addr) (xs : List Int32) (args : Array Value) (s : State) : Prop := args = #[.ref b] ∧ s.IntsAt b xs ∧ xs.length ≤ 4096 ∧ (Jvm.Cond.and given_1 narrow_1).before args s = true
def lw_Q (_ : Array Value) (s : State) (o : Outcome) (t : State) : Prop := o = .returned (some (.int 1)) ∧ Framed s o t [] 600000 7302250
def lw_Z (below : List Frame) (a : Array Value) (s : State) : State → Prop := fun t => ∃ o, t.status = .running ∧ Ended t below o ∧ lw_Q a s o t
/-- the law's own end, with 1 on the stack, nothing written that was there before, its room as the claim has it -/
theorem lw_ret {p : Program} {l : Launch} {e : Env} {s : State} {m : MethodId} {below : List Frame} {meth : Method} {c : Code} {b : Nat} (hx : p.tables.exec = Jvm.exec) (hb : c.code = code) (hr : meth.sig.returnType = ret) (hlocks : meth.locks = false) {pc : Nat} {H : Heap} {ls : Array Slot} (hdg : decode code pc = .ok (.ireturn, 1)) : W p l e room_1 s m #[Value.ref b] below meth c H [] 600000 7302250 (lw_Z below #[Value.ref b] s) (F0 m pc ls [.int 1]) := by
  intro T hT X
  obtain ⟨fs, hret, hrun, hended, hW, hframe⟩ := X.leave (v := some (.int 1)) (hlocks := hlocks) (fun h => by rw [hr] at h; cases h)
  have hmeth' : T.vm.method? m = some meth := X.method'
  refine ⟨T.setFrames fs, ?_, .returned (some (.int 1)), hrun, hended, rfl, ⟨_, rfl⟩, hW, hframe⟩
  jvm_step X.here [X.here.top, hx, hb, hdg, hmeth', hr, ret, narrow_b1]
  (try refine ⟨rfl, ?_⟩); (try refine ⟨rfl, ?_⟩)
  first | (intro acts; rw [hret _ acts rfl rfl rfl]) | rw [hret _ _ rfl rfl rfl]
  exact Steps.refl _
/-- what holds at the law's entry: the machine, the code, the tables' words (any of lw_tbl by 'hts w (by decide +kernel)'), the script of L ints xs at the cell b, what the Statement gives of the start (any of its parts by flat_of_before) -/
def lw_At (p : Program) (s : State) (m : MethodId) (meth : Method) (c : Code) (b L : Nat) (xs : Nat → Int32) : Prop :=
  p.tables.exec = Jvm.exec ∧ c.code = code ∧ meth.sig.returnType = ret ∧ c.maxLocals = 4 ∧ s.vm.findClass R_law = some m.cls ∧ (∀ w ∈ lw_tbl, w.before #[Value.ref b] s = true) ∧ va_X b L xs s s.heap ∧ b < s.heap.size ∧ meth.locks = false ∧ (Jvm.Cond.and given_1 narrow_1).before #[Value.ref b] s = true
/-! the law's two worlds: whose cells are whose -/
def oB (A : AdB) (q : Nat) : Prop := ∃ (k : Nat) (e : va_E), (wB A u0B)[k]? = some (q, e)
def oR (E : AdR) (q : Nat) : Prop := ∃ (k : Nat) (e : va_E), (wR E u0R)[k]? = some (q, e)
section LB
variable {A : AdB} {E : AdR} {s : State} {H : Heap} {locs : List Loc} {D : va_G} {u : StB} {v : StR}
theorem lw_in1 (hi : ∀ q, oB A q → s.heap.size ≤ q) (hS : va_S (fun q : Nat => s.heap.size ≤ q) s.heap H locs) : ∀ q, aB A H.size q → (fun q : Nat => s.heap.size ≤ q) q := fun q h => h.elim (fun h => hi q h) (fun h => Nat.le_trans hS.1 h)
theorem lw_in2 (hi : ∀ q, oR E q → s.heap.size ≤ q) (hS : va_S (fun q : Nat => s.heap.size ≤ q) s.heap H locs) : ∀ q, aR E H.size q → (fun q : Nat => s.heap.size ≤ q) q := fun q h => h.elim (fun h => hi q h) (fun h => Nat.le_trans hS.1 h)
theorem lw_out1 (hap : ∀ q, oB A q → ¬ oR E q) (hP : va_P D bwCl (wR E v) H) : ∀ (k : Nat) (q : Nat × va_E), (wR E v)[k]? = some q → ¬ aB A H.size q.1 := by
  intro k q hk h
  rcases h with h | h
  · obtain ⟨e, he⟩ := wR_at E v u0R hk
    exact hap _ h ⟨k, e, he⟩
  · have := (hP k q hk).lt
    omega
theorem lw_out2 (hap : ∀ q, oB A q → ¬ oR E q) (hP : va_P D bwCl (wB A u) H) : ∀ (k : Nat) (q : Nat × va_E), (wB A u)[k]? = some q → ¬ aR E H.size q.1 := by
  intro k q hk h
  rcases h with h | h
  · obtain ⟨e, he⟩ := wB_at A u u0B hk
    exact hap _ ⟨k, e, he⟩ h
  · have := (hP k q hk).lt
    omega
theorem lw_sep {X : Nat → Prop} (hD : va_D X (wB A u0B ++ wR E u0R)) : (∀ q, oB A q → X q) ∧ (∀ q, oR E q → X q) ∧ ∀ q, oB A q → ¬ oR E q := by
  have l1 : ∀ {k : Nat} {x : Nat × va_E}, (wB A u0B)[k]? = some x → k < 12 ∧ (wB A u0B ++ wR E u0R)[k]? = some x := by
    intro k x h
    have hk : k < 12 := (List.getElem?_eq_some_iff.mp h).1
    exact ⟨hk, by rw [List.getElem?_append_left hk]; exact h⟩
  have l2 : ∀ {k : Nat} {x : Nat × va_E}, (wR E u0R)[k]? = some x → (wB A u0B ++ wR E u0R)[12 + k]? = some x := by
    intro k x h
    rw [List.getElem?_append_right (show (wB A u0B).length ≤ 12 + k from Nat.le_add_right 12 k)]
    show (wR E u0R)[12 + k - 12]? = _
    rw [Nat.add_sub_cancel_left]
    exact h
  refine ⟨fun q h => ?_, fun q h => ?_, fun q h1 h2 => ?_⟩
  · obtain ⟨k, e, h⟩ := h
    exact hD.2 k _ (l1 h).2
  · obtain ⟨k, e, h⟩ := h
    exact hD.2 (12 + k) _ (l2 h)
  · obtain ⟨k, e, h⟩ := h1
    obtain ⟨i, e', h'⟩ := h2
    have := hD.1 k (12 + i) _ _ (l1 h).2 (l2 h') rfl
    have := (l1 h).1
    omega
end LB
theorem lw_le {L i : Nat} (hL : L ≤ 4096) (hi : i ≤ L) (c : ¬ nI L - 8 < nI i) : i + 8 ≤ L := by
  rw [Int32.lt_iff_toInt_lt, show (8 : Int32) = nI 8 from rfl, pk_sub_toInt (by omega) (by decide), nI_toInt (by omega)] at c
  omega
theorem sw_out15 {x : Int32} (h0 : ¬ x = 0) (h1 : ¬ x = 1) (h2 : ¬ x = 2) (h3 : ¬ x = 3) (h4 : ¬ x = 4) (h5 : ¬ x = 5) (h6 : ¬ x = 6) (h7 : ¬ x = 7) (h8 : ¬ x = 8) (h9 : ¬ x = 9) (h10 : ¬ x = 10) (h11 : ¬ x = 11) (h12 : ¬ x = 12) (h13 : ¬ x = 13) (h14 : ¬ x = 14) : x.toInt < 0 ∨ 14 < x.toInt := by
  have a0 : ¬ x.toInt = 0 := lv_neT h0 rfl
  have a1 : ¬ x.toInt = 1 := lv_neT h1 rfl
  have a2 : ¬ x.toInt = 2 := lv_neT h2 rfl
  have a3 : ¬ x.toInt = 3 := lv_neT h3 rfl
  have a4 : ¬ x.toInt = 4 := lv_neT h4 rfl
  have a5 : ¬ x.toInt = 5 := lv_neT h5 rfl
  have a6 : ¬ x.toInt = 6 := lv_neT h6 rfl
  have a7 : ¬ x.toInt = 7 := lv_neT h7 rfl
  have a8 : ¬ x.toInt = 8 := lv_neT h8 rfl
  have a9 : ¬ x.toInt = 9 := lv_neT h9 rfl
  have a10 : ¬ x.toInt = 10 := lv_neT h10 rfl
  have a11 : ¬ x.toInt = 11 := lv_neT h11 rfl
  have a12 : ¬ x.toInt = 12 := lv_neT h12 rfl
  have a13 : ¬ x.toInt = 13 := lv_neT h13 rfl
  have a14 : ¬ x.toInt = 14 := lv_neT h14 rfl
  omega
