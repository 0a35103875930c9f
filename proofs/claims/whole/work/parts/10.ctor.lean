set_option maxHeartbeats 4000000 in
set_option maxRecDepth 100000 in
theorem c_X0_init (l : Launch) (dC : Nat → ClassId) (dI : Nat → Nat → Nat) (h0 sz : Nat) : Met l yX0_init wX0_init ({ frames := 1, cells := 1, slots := 63, locals := 12 }) (va_Pc [.ref h0] (fun U => U.heap.size = sz ∧ va_P (dC, dI) bwCl [(h0, .inr (0, [.null]))] U.heap ∧ va_K (dC, dI) bwCl [] U ∧ va_D (fun _ => True) [(h0, .inr (0, [.null]))])) (va_Qv (fun q : Nat × ClassId => True) (fun q t => va_P (dC, dI) bwCl [(h0, .inr (0, [.ref q.1])), (q.1, .inl (q.2, 63, .inr (.inl (fun _ => 0))))] t.heap ∧ va_K (dC, dI) bwCl [(q.2, .long)] t ∧ va_D (va_A [(h0, .inr (0, [.null]))] sz) [(h0, .inr (0, [.ref q.1])), (q.1, .inl (q.2, 63, .inr (.inl (fun _ => 0))))]) (va_A [(h0, .inr (0, [.null]))] sz)) 1 63 (va_A [(h0, .inr (0, [.null]))] sz) := by
  refine Met.ofW (cc := cX0_init) (maxL := 1) (ret := none) (by decide) rfl ?_
  intro p e s m args below meth c s₁ B hml hv
  obtain ⟨rfl, hsz, hP, hK, hD0⟩ := hv
  have hx := B.exec
  have hb := B.bytes
  have hr := B.returns
  have hts := atoms_spec (ws := wX0_init) B.pre
  have hw : ∀ w ∈ tg_, w.before _ s = true := fun w h => hts w (List.mem_cons_of_mem _ h)
  have hown : s.vm.findClass RX0 = some m.cls := findClass_of_methodNamed B.named
  have hlocks := B.notSynchronized
  have hin : meth.name = "<init>" := (name_of_methodNamed B.named B.method).1
  subst hsz
  have hD := hD0.self (sz := s.heap.size)
  generalize hAe : va_A [(h0, .inr (0, [.null]))] s.heap.size = X at hD ⊢
  have hA : ∀ q : Nat, s.heap.size ≤ q → X q := fun q h => by rw [← hAe]; exact Or.inr h
  have hS : va_S X s.heap s.heap [] := va_S.rf
  have hP : va_P (dC, dI) bwCl [(h0, .inr (0, [.null]))] s.heap := hP
  have hl := lv_entry ([.ref h0]) (n := 1) (Nat.le_of_ble_eq_true rfl)
  rw [lg_entry_eq]
  generalize (lg_sl ([.ref h0]) ++ List.replicate (1 - (lg_sl ([.ref h0])).length) Slot.unset).toArray = ls at hl ⊢
  have hl : lv_has ls 1 [(0, .ref h0)] := hl
  refine lv_aload_n hx hb dX0_init_0 rfl (lv_at hl 0 rfl) ?_
  refine W.objInit hx hb hown (hw _ tw_21) (hw _ tw_13) (hw _ tw_14) rfl (by rw [hml]; exact hl.1) rfl dX0_init_1 (Nat.le_of_ble_eq_true rfl) (Nat.le_of_ble_eq_true rfl) ?_
  show W p l e _ s m _ below meth c s.heap [] 0 0 _ (F0 m 4 ls [])
  refine lv_aload_n hx hb dX0_init_4 rfl (lv_at hl 0 rfl) ?_
  refine lv_bipush (v := 63) hx hb dX0_init_5 (by decide) ?_
  refine va_newa (D := (dC, dI)) (atype := .long) (ty := .long) (N' := 63) (a0 := (63, .inr (.inl (fun _ => 0)))) hx hb (hw _ tw_26) rfl hK hP hD hS hA (fun _ => rfl) (by decide) rfl (by decide) (Nat.le_of_ble_eq_true rfl) (Nat.le_of_ble_eq_true rfl) dX0_init_7 (fun q1 k2 H hK hP hD hS => ?_)
  have hP : va_P (dC, dI) bwCl [(h0, .inr (0, [.null])), (q1, .inl (k2, 63, .inr (.inl (fun _ => 0))))] H := hP
  have hD : va_D X [(h0, .inr (0, [.null])), (q1, .inl (k2, 63, .inr (.inl (fun _ => 0))))] := hD
  have hK : va_K (dC, dI) bwCl [(k2, .long)] s := hK
  refine va_putF (D := (dC, dI)) (ci := 0) (v := .ref q1) (ty := .array .long) (C := RX0) (T := TX0) (N := 1) hx hb hw igX0 tyX0 tyX0_ok nmX0 hown hK hP hD hS 0 rfl rfl 0 (by decide) (hw _ tw_22) (fun _ h9 => h9) rfl hin rfl (by decide +kernel) rfl rfl (Nat.le_of_ble_eq_true rfl) dX0_init_9 (fun H locs hP hD hS => ?_)
  have hP : va_P (dC, dI) bwCl [(h0, .inr (0, [.ref q1])), (q1, .inl (k2, 63, .inr (.inl (fun _ => 0))))] H := hP
  have hD : va_D X [(h0, .inr (0, [.ref q1])), (q1, .inl (k2, 63, .inr (.inl (fun _ => 0))))] := hD
  refine W.widen (k := 1) (n := 63) (Nat.le_of_ble_eq_true rfl) (Nat.le_of_ble_eq_true rfl) ?_
  exact W.vret hx hb hr (fun t ht hW => ⟨⟨(q1, k2), rfl, trivial, by rw [ht]; exact hP.sub [0, 1] rfl, va_K.moved hW.alike (hK.sub [0] rfl), hD.sub [0, 1] (by decide) rfl⟩, hS.F ht⟩) hS.2.2 dX0_init_12
set_option maxHeartbeats 4000000 in
set_option maxRecDepth 100000 in
theorem c_X1_init (l : Launch) (dC : Nat → ClassId) (dI : Nat → Nat → Nat) (h0 sz : Nat) : Met l yX1_init wX1_init ({ frames := 1, cells := 1, slots := 530, locals := 12 }) (va_Pc [.ref h0] (fun U => U.heap.size = sz ∧ va_P (dC, dI) bwCl [(h0, .inr (1, [.null, .int 0]))] U.heap ∧ va_K (dC, dI) bwCl [] U ∧ va_D (fun _ => True) [(h0, .inr (1, [.null, .int 0]))])) (va_Qv (fun q : Nat × ClassId => True) (fun q t => va_P (dC, dI) bwCl [(h0, .inr (1, [.ref q.1, .int 0])), (q.1, .inl (q.2, 530, .inl (fun _ => 0)))] t.heap ∧ va_K (dC, dI) bwCl [(q.2, .char)] t ∧ va_D (va_A [(h0, .inr (1, [.null, .int 0]))] sz) [(h0, .inr (1, [.ref q.1, .int 0])), (q.1, .inl (q.2, 530, .inl (fun _ => 0)))]) (va_A [(h0, .inr (1, [.null, .int 0]))] sz)) 1 530 (va_A [(h0, .inr (1, [.null, .int 0]))] sz) := by
  refine Met.ofW (cc := cX1_init) (maxL := 1) (ret := none) (by decide) rfl ?_
  intro p e s m args below meth c s₁ B hml hv
  obtain ⟨rfl, hsz, hP, hK, hD0⟩ := hv
  have hx := B.exec
  have hb := B.bytes
  have hr := B.returns
  have hts := atoms_spec (ws := wX1_init) B.pre
  have hw : ∀ w ∈ tg_, w.before _ s = true := fun w h => hts w (List.mem_cons_of_mem _ h)
  have hown : s.vm.findClass RX1 = some m.cls := findClass_of_methodNamed B.named
  have hlocks := B.notSynchronized
  have hin : meth.name = "<init>" := (name_of_methodNamed B.named B.method).1
  subst hsz
  have hD := hD0.self (sz := s.heap.size)
  generalize hAe : va_A [(h0, .inr (1, [.null, .int 0]))] s.heap.size = X at hD ⊢
  have hA : ∀ q : Nat, s.heap.size ≤ q → X q := fun q h => by rw [← hAe]; exact Or.inr h
  have hS : va_S X s.heap s.heap [] := va_S.rf
  have hP : va_P (dC, dI) bwCl [(h0, .inr (1, [.null, .int 0]))] s.heap := hP
  have hl := lv_entry ([.ref h0]) (n := 1) (Nat.le_of_ble_eq_true rfl)
  rw [lg_entry_eq]
  generalize (lg_sl ([.ref h0]) ++ List.replicate (1 - (lg_sl ([.ref h0])).length) Slot.unset).toArray = ls at hl ⊢
  have hl : lv_has ls 1 [(0, .ref h0)] := hl
  refine lv_aload_n hx hb dX1_init_0 rfl (lv_at hl 0 rfl) ?_
  refine W.objInit hx hb hown (hw _ tw_32) (hw _ tw_13) (hw _ tw_14) rfl (by rw [hml]; exact hl.1) rfl dX1_init_1 (Nat.le_of_ble_eq_true rfl) (Nat.le_of_ble_eq_true rfl) ?_
  show W p l e _ s m _ below meth c s.heap [] 0 0 _ (F0 m 4 ls [])
  refine lv_aload_n hx hb dX1_init_4 rfl (lv_at hl 0 rfl) ?_
  refine lv_sipush (v := 530) hx hb dX1_init_5 (by decide) ?_
  refine va_newa (D := (dC, dI)) (atype := .char) (ty := .char) (N' := 530) (a0 := (530, .inl (fun _ => 0))) hx hb (hw _ tw_40) rfl hK hP hD hS hA (fun _ => rfl) (by decide) rfl (by decide) (Nat.le_of_ble_eq_true rfl) (Nat.le_of_ble_eq_true rfl) dX1_init_8 (fun q1 k2 H hK hP hD hS => ?_)
  have hP : va_P (dC, dI) bwCl [(h0, .inr (1, [.null, .int 0])), (q1, .inl (k2, 530, .inl (fun _ => 0)))] H := hP
  have hD : va_D X [(h0, .inr (1, [.null, .int 0])), (q1, .inl (k2, 530, .inl (fun _ => 0)))] := hD
  have hK : va_K (dC, dI) bwCl [(k2, .char)] s := hK
  refine va_putF (D := (dC, dI)) (ci := 1) (v := .ref q1) (ty := .array .char) (C := RX1) (T := TX1) (N := 2) hx hb hw igX1 tyX1 tyX1_ok nmX1 hown hK hP hD hS 0 rfl rfl 0 (by decide) (hw _ tw_33) (fun _ h9 => h9) rfl hin rfl (by decide +kernel) rfl rfl (Nat.le_of_ble_eq_true rfl) dX1_init_10 (fun H locs hP hD hS => ?_)
  have hP : va_P (dC, dI) bwCl [(h0, .inr (1, [.ref q1, .int 0])), (q1, .inl (k2, 530, .inl (fun _ => 0)))] H := hP
  have hD : va_D X [(h0, .inr (1, [.ref q1, .int 0])), (q1, .inl (k2, 530, .inl (fun _ => 0)))] := hD
  refine lv_aload_n hx hb dX1_init_13 rfl (lv_at hl 0 rfl) ?_
  refine lv_iconst (v := 0) hx hb dX1_init_14 (by decide) ?_
  refine va_put (D := (dC, dI)) (ci := 1) (v := .int 0) (ty := .int) (C := RX1) (T := TX1) (N := 2) hx hb hw igX1 tyX1 tyX1_ok nmX1 hown hK hP hD hS 0 rfl rfl 1 (by decide) (hw _ tw_34) (fun _ h9 => h9) rfl (by decide +kernel) rfl rfl (Nat.le_of_ble_eq_true rfl) dX1_init_15 (fun H locs hP hD hS => ?_)
  have hP : va_P (dC, dI) bwCl [(h0, .inr (1, [.ref q1, .int 0])), (q1, .inl (k2, 530, .inl (fun _ => 0)))] H := hP
  have hD : va_D X [(h0, .inr (1, [.ref q1, .int 0])), (q1, .inl (k2, 530, .inl (fun _ => 0)))] := hD
  refine W.widen (k := 1) (n := 530) (Nat.le_of_ble_eq_true rfl) (Nat.le_of_ble_eq_true rfl) ?_
  exact W.vret hx hb hr (fun t ht hW => ⟨⟨(q1, k2), rfl, trivial, by rw [ht]; exact hP.sub [0, 1] rfl, va_K.moved hW.alike (hK.sub [0] rfl), hD.sub [0, 1] (by decide) rfl⟩, hS.F ht⟩) hS.2.2 dX1_init_18
def tb4 {α : Type} (a b c d : α) : Nat → α
  | 0 => a
  | 1 => b
  | 2 => c
  | _ => d
def u0B : StB := (fun _ _ => 0, fun _ => 0, 0)
set_option maxHeartbeats 4000000 in
set_option maxRecDepth 100000 in
theorem c_X2_init (l : Launch) (dC : Nat → ClassId) (dI : Nat → Nat → Nat) (h0 sz : Nat) : Met l yX2_init wX2_init ({ frames := 2, cells := 11, slots := 792, locals := 32 }) (va_Pc [.ref h0] (fun U => U.heap.size = sz ∧ va_P (dC, dI) bwCl [(h0, .inr (2, [.null, .null]))] U.heap ∧ va_K (dC, dI) bwCl [] U ∧ va_D (fun _ => True) [(h0, .inr (2, [.null, .null]))] ∧ va_AO RX0 U ∧ va_Nw (.methodLinkNest RX2 15 yX0_init RX2) U ∧ va_Nw (.methodLinkNest RX2 18 yX1_init RX2) U)) (va_Qv (fun q : AdB => ah_ q = h0) (fun A t => va_P (dC, dI) bwCl (wB A u0B) t.heap ∧ va_K (dC, dI) bwCl (tyB A) t ∧ va_D (va_A [(h0, .inr (2, [.null, .null]))] sz) (wB A u0B)) (va_A [(h0, .inr (2, [.null, .null]))] sz)) 11 792 (va_A [(h0, .inr (2, [.null, .null]))] sz) := by
  refine Met.ofW (cc := cX2_init) (maxL := 2) (ret := none) (by decide) rfl ?_
  intro p e s m args below meth c s₁ B hml hv
  obtain ⟨rfl, hsz, hP, hK, hD0, hAO, hN18, hN29⟩ := hv
  have hx := B.exec
  have hb := B.bytes
  have hr := B.returns
  have hts := atoms_spec (ws := wX2_init) B.pre
  have hw : ∀ w ∈ tg_, w.before _ s = true := fun w h => hts w (List.mem_cons_of_mem _ h)
  have hown : s.vm.findClass RX2 = some m.cls := findClass_of_methodNamed B.named
  have hlocks := B.notSynchronized
  have hin : meth.name = "<init>" := (name_of_methodNamed B.named B.method).1
  subst hsz
  have hD := hD0.self (sz := s.heap.size)
  generalize hAe : va_A [(h0, .inr (2, [.null, .null]))] s.heap.size = X at hD ⊢
  have hA : ∀ q : Nat, s.heap.size ≤ q → X q := fun q h => by rw [← hAe]; exact Or.inr h
  have hS : va_S X s.heap s.heap [] := va_S.rf
  have hP : va_P (dC, dI) bwCl [(h0, .inr (2, [.null, .null]))] s.heap := hP
  have hl := lv_entry ([.ref h0]) (n := 2) (Nat.le_of_ble_eq_true rfl)
  rw [lg_entry_eq]
  generalize (lg_sl ([.ref h0]) ++ List.replicate (2 - (lg_sl ([.ref h0])).length) Slot.unset).toArray = ls at hl ⊢
  have hl : lv_has ls 2 [(0, .ref h0)] := hl
  refine lv_aload_n hx hb dX2_init_0 rfl (lv_at hl 0 rfl) ?_
  refine W.objInit hx hb hown (hw _ tw_12) (hw _ tw_13) (hw _ tw_14) rfl (by rw [hml]; exact hl.1) rfl dX2_init_1 (Nat.le_of_ble_eq_true rfl) (Nat.le_of_ble_eq_true rfl) ?_
  show W p l e _ s m _ below meth c s.heap [] 0 0 _ (F0 m 4 ls [])
  refine lv_aload_n hx hb dX2_init_4 rfl (lv_at hl 0 rfl) ?_
  refine lv_iconst (v := 4) hx hb dX2_init_5 (by decide) ?_
  refine va_newq (D := (dC, dI)) (N' := 4) hx hb hown (hw _ tw_15) hAO hK hP hD hS hA (by decide) rfl (by decide) (Nat.le_of_ble_eq_true rfl) (Nat.le_of_ble_eq_true rfl) dX2_init_6 (fun q1 k2 H hK hP hD hS => ?_)
  have hP : va_P (dC, dI) bwCl [(h0, .inr (2, [.null, .null])), (q1, .inl (k2, 4, .inr (.inr (.inr (.inr (fun _ => none))))))] H := hP
  have hD : va_D X [(h0, .inr (2, [.null, .null])), (q1, .inl (k2, 4, .inr (.inr (.inr (.inr (fun _ => none))))))] := hD
  have hK : va_K (dC, dI) bwCl [(k2, .object RX0)] s := hK
  refine va_putF (D := (dC, dI)) (ci := 2) (v := .ref q1) (ty := .array (.object "BitBoard$Row")) (C := RX2) (T := TX2) (N := 2) hx hb hw igX2 tyX2 tyX2_ok nmX2 hown hK hP hD hS 0 rfl rfl 0 (by decide) (hw _ tw_41) (fun _ h9 => h9) rfl hin rfl (by decide +kernel) rfl rfl (Nat.le_of_ble_eq_true rfl) dX2_init_9 (fun H locs hP hD hS => ?_)
  have hP : va_P (dC, dI) bwCl [(h0, .inr (2, [.ref q1, .null])), (q1, .inl (k2, 4, .inr (.inr (.inr (.inr (fun _ => none))))))] H := hP
  have hD : va_D X [(h0, .inr (2, [.ref q1, .null])), (q1, .inl (k2, 4, .inr (.inr (.inr (.inr (fun _ => none))))))] := hD
  refine lv_iconst (v := 0) hx hb dX2_init_12 (by decide) ?_
  refine lv_istore_n (lv' := [(1, .int 0), (0, .ref h0)]) hx hb dX2_init_13 rfl hl (by decide) rfl (fun ls hl => ?_)
  refine lv_iload_n hx hb dX2_init_14 rfl (lv_at hl 0 rfl) ?_
  refine lv_iconst (v := 4) hx hb dX2_init_15 (by decide) ?_
  refine lv_icmp_ge (tgt := 38) hx hb dX2_init_16 (by decide) (fun c3 => ?_) (fun c3 => ?_)
  · exact absurd c3 (by decide)
  · refine lv_aload_n hx hb dX2_init_19 rfl (lv_at hl 1 rfl) ?_
    refine va_get (D := (dC, dI)) (ci := 2) (v := .ref q1) (C := RX2) (T := TX2) (N := 2) hx hb hw igX2 hown hK hP 0 rfl rfl 0 (by decide) (hw _ tw_41) (fun _ h9 => h9) rfl dX2_init_20 ?_
    refine lv_iload_n hx hb dX2_init_23 rfl (lv_at hl 0 rfl) ?_
    refine va_new (D := (dC, dI)) (ci := 0) (fs := [.null]) (C := RX0) (T := TX0) (N := 1) hx hb hw igX0 tyX0 tyX0_ok hown (hw _ tw_15) (hw _ tw_17) (hw _ tw_2) hK hP hD hS hA rfl (fun j hj => by rcases (show j = 0 by omega) with rfl <;> rfl) (Nat.le_of_ble_eq_true rfl) (Nat.le_of_ble_eq_true rfl) dX2_init_24 (fun q4 H hP hD hS => ?_)
    have hP : va_P (dC, dI) bwCl [(h0, .inr (2, [.ref q1, .null])), (q1, .inl (k2, 4, .inr (.inr (.inr (.inr (fun _ => none)))))), (q4, .inr (0, [.null]))] H := hP
    have hD : va_D X [(h0, .inr (2, [.ref q1, .null])), (q1, .inl (k2, 4, .inr (.inr (.inr (.inr (fun _ => none)))))), (q4, .inr (0, [.null]))] := hD
    refine lv_dup hx hb dX2_init_27 rfl ?_
    have hPc := hP.sub (ws' := [(q4, .inr (0, [.null]))]) [2] rfl
    have hDc := hD.sub (ws' := [(q4, .inr (0, [.null]))]) [2] (by decide) rfl
    have hKc := hK.sub (tys' := []) [] rfl
    have hFc := va_free (wc := [(q4, .inr (0, [.null]))]) hD hS hA [2] rfl
    refine va_callv (va_runIN (As := []) (rest := [.ref q4, .int 0, .ref q1]) ⟨hx, hb, hml, hown, hts⟩ (c_X0_init l dC dI q4 H.size) (⟨va_cnB 0 hts (gi_in hbc tw_20) rfl rfl rfl hN18 (hw _ tw_2) (by decide +kernel) ⟨Nat.le_of_ble_eq_true rfl, Nat.le_of_ble_eq_true rfl⟩, rfl, hw _ tw_19⟩) ⟨fun a U g mk q => by obtain ⟨q0, q1, qP, qK, qD⟩ := q; exact ⟨q0, q1, qP, va_K.moved (u := U) (U := U.calling g mk a) (Vm.Alike.refl U.vm) qK, qD⟩, fun U hU hW => ⟨rfl, by rw [hU], by rw [hU]; exact hPc, va_K.moved hW.alike hKc, hDc.weaken (fun _ _ _ _ => trivial)⟩⟩ rfl rfl hl.1 rfl (lv_room (Nat.le_of_ble_eq_true rfl)) dX2_init_28 ⟨Nat.le_of_ble_eq_true rfl, Nat.le_of_ble_eq_true rfl⟩) hS (fun q _ h => hFc q h) hFc (fun u9 t H1 locs ht hvm hw9 hB hz1 hk1 hS => ?_)
    obtain ⟨q5, k6⟩ := u9
    obtain ⟨hP1, hK1, hD1⟩ := hB
    rw [ht] at hP1
    have hK1 := va_K.moved hvm.symm hK1
    obtain ⟨hP, hD⟩ := va_join (wr := [(h0, .inr (2, [.ref q1, .null])), (q1, .inl (k2, 4, .inr (.inr (.inr (.inr (fun _ => none))))))]) (w1 := [(q4, .inr (0, [.ref q5])), (q5, .inl (k6, 63, .inr (.inl (fun _ => 0))))]) hP hD [2] [0, 1] rfl rfl (by decide) (by decide) hk1 hFc hP1 hD1
    have hK := (hK.sub (tys' := [(k2, .object RX0)]) [0] rfl).app hK1
    generalize H1 = H at hP hS ⊢
    have hP : va_P (dC, dI) bwCl [(h0, .inr (2, [.ref q1, .null])), (q1, .inl (k2, 4, .inr (.inr (.inr (.inr (fun _ => none)))))), (q4, .inr (0, [.ref q5])), (q5, .inl (k6, 63, .inr (.inl (fun _ => 0))))] H := hP
    have hD : va_D X [(h0, .inr (2, [.ref q1, .null])), (q1, .inl (k2, 4, .inr (.inr (.inr (.inr (fun _ => none)))))), (q4, .inr (0, [.ref q5])), (q5, .inl (k6, 63, .inr (.inl (fun _ => 0))))] := hD
    have hK : va_K (dC, dI) bwCl [(k2, .object RX0), (k6, .long)] s := hK
    refine va_astq hx hb hK hP hD hS 1 0 2 0 rfl rfl rfl rfl (vp_in_nI (n := 0) (by decide) (by decide)) dX2_init_31 (fun H locs hP hD hS => ?_)
    have hP : va_P (dC, dI) bwCl [(h0, .inr (2, [.ref q1, .null])), (q1, .inl (k2, 4, .inr (.inr (.inr (.inr (va_up (fun _ => none) 0 (some q4))))))), (q4, .inr (0, [.ref q5])), (q5, .inl (k6, 63, .inr (.inl (fun _ => 0))))] H := hP
    have hD : va_D X [(h0, .inr (2, [.ref q1, .null])), (q1, .inl (k2, 4, .inr (.inr (.inr (.inr (va_up (fun _ => none) 0 (some q4))))))), (q4, .inr (0, [.ref q5])), (q5, .inl (k6, 63, .inr (.inl (fun _ => 0))))] := hD
    refine lv_iinc (v := 1) (lv' := [(1, .int 1), (0, .ref h0)]) hx hb dX2_init_32 hl (k := 0) rfl ((by decide)) (by decide) rfl (fun ls hl => ?_)
    refine lv_goto (tgt := 14) hx hb dX2_init_35 (by decide) ?_
    refine lv_iload_n hx hb dX2_init_14 rfl (lv_at hl 0 rfl) ?_
    refine lv_iconst (v := 4) hx hb dX2_init_15 (by decide) ?_
    refine lv_icmp_ge (tgt := 38) hx hb dX2_init_16 (by decide) (fun c7 => ?_) (fun c7 => ?_)
    · exact absurd c7 (by decide)
    · refine lv_aload_n hx hb dX2_init_19 rfl (lv_at hl 1 rfl) ?_
      refine va_get (D := (dC, dI)) (ci := 2) (v := .ref q1) (C := RX2) (T := TX2) (N := 2) hx hb hw igX2 hown hK hP 0 rfl rfl 0 (by decide) (hw _ tw_41) (fun _ h9 => h9) rfl dX2_init_20 ?_
      refine lv_iload_n hx hb dX2_init_23 rfl (lv_at hl 0 rfl) ?_
      refine va_new (D := (dC, dI)) (ci := 0) (fs := [.null]) (C := RX0) (T := TX0) (N := 1) hx hb hw igX0 tyX0 tyX0_ok hown (hw _ tw_15) (hw _ tw_17) (hw _ tw_2) hK hP hD hS hA rfl (fun j hj => by rcases (show j = 0 by omega) with rfl <;> rfl) (Nat.le_of_ble_eq_true rfl) (Nat.le_of_ble_eq_true rfl) dX2_init_24 (fun q8 H hP hD hS => ?_)
      have hP : va_P (dC, dI) bwCl [(h0, .inr (2, [.ref q1, .null])), (q1, .inl (k2, 4, .inr (.inr (.inr (.inr (va_up (fun _ => none) 0 (some q4))))))), (q4, .inr (0, [.ref q5])), (q5, .inl (k6, 63, .inr (.inl (fun _ => 0)))), (q8, .inr (0, [.null]))] H := hP
      have hD : va_D X [(h0, .inr (2, [.ref q1, .null])), (q1, .inl (k2, 4, .inr (.inr (.inr (.inr (va_up (fun _ => none) 0 (some q4))))))), (q4, .inr (0, [.ref q5])), (q5, .inl (k6, 63, .inr (.inl (fun _ => 0)))), (q8, .inr (0, [.null]))] := hD
      refine lv_dup hx hb dX2_init_27 rfl ?_
      have hPc := hP.sub (ws' := [(q8, .inr (0, [.null]))]) [4] rfl
      have hDc := hD.sub (ws' := [(q8, .inr (0, [.null]))]) [4] (by decide) rfl
      have hKc := hK.sub (tys' := []) [] rfl
      have hFc := va_free (wc := [(q8, .inr (0, [.null]))]) hD hS hA [4] rfl
      refine va_callv (va_runIN (As := []) (rest := [.ref q8, .int 1, .ref q1]) ⟨hx, hb, hml, hown, hts⟩ (c_X0_init l dC dI q8 H.size) (⟨va_cnB 0 hts (gi_in hbc tw_20) rfl rfl rfl hN18 (hw _ tw_2) (by decide +kernel) ⟨Nat.le_of_ble_eq_true rfl, Nat.le_of_ble_eq_true rfl⟩, rfl, hw _ tw_19⟩) ⟨fun a U g mk q => by obtain ⟨q0, q1, qP, qK, qD⟩ := q; exact ⟨q0, q1, qP, va_K.moved (u := U) (U := U.calling g mk a) (Vm.Alike.refl U.vm) qK, qD⟩, fun U hU hW => ⟨rfl, by rw [hU], by rw [hU]; exact hPc, va_K.moved hW.alike hKc, hDc.weaken (fun _ _ _ _ => trivial)⟩⟩ rfl rfl hl.1 rfl (lv_room (Nat.le_of_ble_eq_true rfl)) dX2_init_28 ⟨Nat.le_of_ble_eq_true rfl, Nat.le_of_ble_eq_true rfl⟩) hS (fun q _ h => hFc q h) hFc (fun u9 t H1 locs ht hvm hw9 hB hz1 hk1 hS => ?_)
      obtain ⟨q9, k10⟩ := u9
      obtain ⟨hP1, hK1, hD1⟩ := hB
      rw [ht] at hP1
      have hK1 := va_K.moved hvm.symm hK1
      obtain ⟨hP, hD⟩ := va_join (wr := [(h0, .inr (2, [.ref q1, .null])), (q1, .inl (k2, 4, .inr (.inr (.inr (.inr (va_up (fun _ => none) 0 (some q4))))))), (q4, .inr (0, [.ref q5])), (q5, .inl (k6, 63, .inr (.inl (fun _ => 0))))]) (w1 := [(q8, .inr (0, [.ref q9])), (q9, .inl (k10, 63, .inr (.inl (fun _ => 0))))]) hP hD [4] [0, 1, 2, 3] rfl rfl (by decide) (by decide) hk1 hFc hP1 hD1
      have hK := (hK.sub (tys' := [(k2, .object RX0), (k6, .long)]) [0, 1] rfl).app hK1
      generalize H1 = H at hP hS ⊢
      have hP : va_P (dC, dI) bwCl [(h0, .inr (2, [.ref q1, .null])), (q1, .inl (k2, 4, .inr (.inr (.inr (.inr (va_up (fun _ => none) 0 (some q4))))))), (q4, .inr (0, [.ref q5])), (q5, .inl (k6, 63, .inr (.inl (fun _ => 0)))), (q8, .inr (0, [.ref q9])), (q9, .inl (k10, 63, .inr (.inl (fun _ => 0))))] H := hP
      have hD : va_D X [(h0, .inr (2, [.ref q1, .null])), (q1, .inl (k2, 4, .inr (.inr (.inr (.inr (va_up (fun _ => none) 0 (some q4))))))), (q4, .inr (0, [.ref q5])), (q5, .inl (k6, 63, .inr (.inl (fun _ => 0)))), (q8, .inr (0, [.ref q9])), (q9, .inl (k10, 63, .inr (.inl (fun _ => 0))))] := hD
      have hK : va_K (dC, dI) bwCl [(k2, .object RX0), (k6, .long), (k10, .long)] s := hK
      refine va_astq hx hb hK hP hD hS 1 0 4 0 rfl rfl rfl rfl (vp_in_nI (n := 1) (by decide) (by decide)) dX2_init_31 (fun H locs hP hD hS => ?_)
      have hP : va_P (dC, dI) bwCl [(h0, .inr (2, [.ref q1, .null])), (q1, .inl (k2, 4, .inr (.inr (.inr (.inr (va_up (va_up (fun _ => none) 0 (some q4)) 1 (some q8))))))), (q4, .inr (0, [.ref q5])), (q5, .inl (k6, 63, .inr (.inl (fun _ => 0)))), (q8, .inr (0, [.ref q9])), (q9, .inl (k10, 63, .inr (.inl (fun _ => 0))))] H := hP
      have hD : va_D X [(h0, .inr (2, [.ref q1, .null])), (q1, .inl (k2, 4, .inr (.inr (.inr (.inr (va_up (va_up (fun _ => none) 0 (some q4)) 1 (some q8))))))), (q4, .inr (0, [.ref q5])), (q5, .inl (k6, 63, .inr (.inl (fun _ => 0)))), (q8, .inr (0, [.ref q9])), (q9, .inl (k10, 63, .inr (.inl (fun _ => 0))))] := hD
      refine lv_iinc (v := 2) (lv' := [(1, .int 2), (0, .ref h0)]) hx hb dX2_init_32 hl (k := 0) rfl ((by decide)) (by decide) rfl (fun ls hl => ?_)
      refine lv_goto (tgt := 14) hx hb dX2_init_35 (by decide) ?_
      refine lv_iload_n hx hb dX2_init_14 rfl (lv_at hl 0 rfl) ?_
      refine lv_iconst (v := 4) hx hb dX2_init_15 (by decide) ?_
      refine lv_icmp_ge (tgt := 38) hx hb dX2_init_16 (by decide) (fun c11 => ?_) (fun c11 => ?_)
      · exact absurd c11 (by decide)
      · refine lv_aload_n hx hb dX2_init_19 rfl (lv_at hl 1 rfl) ?_
        refine va_get (D := (dC, dI)) (ci := 2) (v := .ref q1) (C := RX2) (T := TX2) (N := 2) hx hb hw igX2 hown hK hP 0 rfl rfl 0 (by decide) (hw _ tw_41) (fun _ h9 => h9) rfl dX2_init_20 ?_
        refine lv_iload_n hx hb dX2_init_23 rfl (lv_at hl 0 rfl) ?_
        refine va_new (D := (dC, dI)) (ci := 0) (fs := [.null]) (C := RX0) (T := TX0) (N := 1) hx hb hw igX0 tyX0 tyX0_ok hown (hw _ tw_15) (hw _ tw_17) (hw _ tw_2) hK hP hD hS hA rfl (fun j hj => by rcases (show j = 0 by omega) with rfl <;> rfl) (Nat.le_of_ble_eq_true rfl) (Nat.le_of_ble_eq_true rfl) dX2_init_24 (fun q12 H hP hD hS => ?_)
        have hP : va_P (dC, dI) bwCl [(h0, .inr (2, [.ref q1, .null])), (q1, .inl (k2, 4, .inr (.inr (.inr (.inr (va_up (va_up (fun _ => none) 0 (some q4)) 1 (some q8))))))), (q4, .inr (0, [.ref q5])), (q5, .inl (k6, 63, .inr (.inl (fun _ => 0)))), (q8, .inr (0, [.ref q9])), (q9, .inl (k10, 63, .inr (.inl (fun _ => 0)))), (q12, .inr (0, [.null]))] H := hP
        have hD : va_D X [(h0, .inr (2, [.ref q1, .null])), (q1, .inl (k2, 4, .inr (.inr (.inr (.inr (va_up (va_up (fun _ => none) 0 (some q4)) 1 (some q8))))))), (q4, .inr (0, [.ref q5])), (q5, .inl (k6, 63, .inr (.inl (fun _ => 0)))), (q8, .inr (0, [.ref q9])), (q9, .inl (k10, 63, .inr (.inl (fun _ => 0)))), (q12, .inr (0, [.null]))] := hD
        refine lv_dup hx hb dX2_init_27 rfl ?_
        have hPc := hP.sub (ws' := [(q12, .inr (0, [.null]))]) [6] rfl
        have hDc := hD.sub (ws' := [(q12, .inr (0, [.null]))]) [6] (by decide) rfl
        have hKc := hK.sub (tys' := []) [] rfl
        have hFc := va_free (wc := [(q12, .inr (0, [.null]))]) hD hS hA [6] rfl
        refine va_callv (va_runIN (As := []) (rest := [.ref q12, .int 2, .ref q1]) ⟨hx, hb, hml, hown, hts⟩ (c_X0_init l dC dI q12 H.size) (⟨va_cnB 0 hts (gi_in hbc tw_20) rfl rfl rfl hN18 (hw _ tw_2) (by decide +kernel) ⟨Nat.le_of_ble_eq_true rfl, Nat.le_of_ble_eq_true rfl⟩, rfl, hw _ tw_19⟩) ⟨fun a U g mk q => by obtain ⟨q0, q1, qP, qK, qD⟩ := q; exact ⟨q0, q1, qP, va_K.moved (u := U) (U := U.calling g mk a) (Vm.Alike.refl U.vm) qK, qD⟩, fun U hU hW => ⟨rfl, by rw [hU], by rw [hU]; exact hPc, va_K.moved hW.alike hKc, hDc.weaken (fun _ _ _ _ => trivial)⟩⟩ rfl rfl hl.1 rfl (lv_room (Nat.le_of_ble_eq_true rfl)) dX2_init_28 ⟨Nat.le_of_ble_eq_true rfl, Nat.le_of_ble_eq_true rfl⟩) hS (fun q _ h => hFc q h) hFc (fun u9 t H1 locs ht hvm hw9 hB hz1 hk1 hS => ?_)
        obtain ⟨q13, k14⟩ := u9
        obtain ⟨hP1, hK1, hD1⟩ := hB
        rw [ht] at hP1
        have hK1 := va_K.moved hvm.symm hK1
        obtain ⟨hP, hD⟩ := va_join (wr := [(h0, .inr (2, [.ref q1, .null])), (q1, .inl (k2, 4, .inr (.inr (.inr (.inr (va_up (va_up (fun _ => none) 0 (some q4)) 1 (some q8))))))), (q4, .inr (0, [.ref q5])), (q5, .inl (k6, 63, .inr (.inl (fun _ => 0)))), (q8, .inr (0, [.ref q9])), (q9, .inl (k10, 63, .inr (.inl (fun _ => 0))))]) (w1 := [(q12, .inr (0, [.ref q13])), (q13, .inl (k14, 63, .inr (.inl (fun _ => 0))))]) hP hD [6] [0, 1, 2, 3, 4, 5] rfl rfl (by decide) (by decide) hk1 hFc hP1 hD1
        have hK := (hK.sub (tys' := [(k2, .object RX0), (k6, .long), (k10, .long)]) [0, 1, 2] rfl).app hK1
        generalize H1 = H at hP hS ⊢
        have hP : va_P (dC, dI) bwCl [(h0, .inr (2, [.ref q1, .null])), (q1, .inl (k2, 4, .inr (.inr (.inr (.inr (va_up (va_up (fun _ => none) 0 (some q4)) 1 (some q8))))))), (q4, .inr (0, [.ref q5])), (q5, .inl (k6, 63, .inr (.inl (fun _ => 0)))), (q8, .inr (0, [.ref q9])), (q9, .inl (k10, 63, .inr (.inl (fun _ => 0)))), (q12, .inr (0, [.ref q13])), (q13, .inl (k14, 63, .inr (.inl (fun _ => 0))))] H := hP
        have hD : va_D X [(h0, .inr (2, [.ref q1, .null])), (q1, .inl (k2, 4, .inr (.inr (.inr (.inr (va_up (va_up (fun _ => none) 0 (some q4)) 1 (some q8))))))), (q4, .inr (0, [.ref q5])), (q5, .inl (k6, 63, .inr (.inl (fun _ => 0)))), (q8, .inr (0, [.ref q9])), (q9, .inl (k10, 63, .inr (.inl (fun _ => 0)))), (q12, .inr (0, [.ref q13])), (q13, .inl (k14, 63, .inr (.inl (fun _ => 0))))] := hD
        have hK : va_K (dC, dI) bwCl [(k2, .object RX0), (k6, .long), (k10, .long), (k14, .long)] s := hK
        refine va_astq hx hb hK hP hD hS 1 0 6 0 rfl rfl rfl rfl (vp_in_nI (n := 2) (by decide) (by decide)) dX2_init_31 (fun H locs hP hD hS => ?_)
        have hP : va_P (dC, dI) bwCl [(h0, .inr (2, [.ref q1, .null])), (q1, .inl (k2, 4, .inr (.inr (.inr (.inr (va_up (va_up (va_up (fun _ => none) 0 (some q4)) 1 (some q8)) 2 (some q12))))))), (q4, .inr (0, [.ref q5])), (q5, .inl (k6, 63, .inr (.inl (fun _ => 0)))), (q8, .inr (0, [.ref q9])), (q9, .inl (k10, 63, .inr (.inl (fun _ => 0)))), (q12, .inr (0, [.ref q13])), (q13, .inl (k14, 63, .inr (.inl (fun _ => 0))))] H := hP
        have hD : va_D X [(h0, .inr (2, [.ref q1, .null])), (q1, .inl (k2, 4, .inr (.inr (.inr (.inr (va_up (va_up (va_up (fun _ => none) 0 (some q4)) 1 (some q8)) 2 (some q12))))))), (q4, .inr (0, [.ref q5])), (q5, .inl (k6, 63, .inr (.inl (fun _ => 0)))), (q8, .inr (0, [.ref q9])), (q9, .inl (k10, 63, .inr (.inl (fun _ => 0)))), (q12, .inr (0, [.ref q13])), (q13, .inl (k14, 63, .inr (.inl (fun _ => 0))))] := hD
        refine lv_iinc (v := 3) (lv' := [(1, .int 3), (0, .ref h0)]) hx hb dX2_init_32 hl (k := 0) rfl ((by decide)) (by decide) rfl (fun ls hl => ?_)
        refine lv_goto (tgt := 14) hx hb dX2_init_35 (by decide) ?_
        refine lv_iload_n hx hb dX2_init_14 rfl (lv_at hl 0 rfl) ?_
        refine lv_iconst (v := 4) hx hb dX2_init_15 (by decide) ?_
        refine lv_icmp_ge (tgt := 38) hx hb dX2_init_16 (by decide) (fun c15 => ?_) (fun c15 => ?_)
        · exact absurd c15 (by decide)
        · refine lv_aload_n hx hb dX2_init_19 rfl (lv_at hl 1 rfl) ?_
          refine va_get (D := (dC, dI)) (ci := 2) (v := .ref q1) (C := RX2) (T := TX2) (N := 2) hx hb hw igX2 hown hK hP 0 rfl rfl 0 (by decide) (hw _ tw_41) (fun _ h9 => h9) rfl dX2_init_20 ?_
          refine lv_iload_n hx hb dX2_init_23 rfl (lv_at hl 0 rfl) ?_
          refine va_new (D := (dC, dI)) (ci := 0) (fs := [.null]) (C := RX0) (T := TX0) (N := 1) hx hb hw igX0 tyX0 tyX0_ok hown (hw _ tw_15) (hw _ tw_17) (hw _ tw_2) hK hP hD hS hA rfl (fun j hj => by rcases (show j = 0 by omega) with rfl <;> rfl) (Nat.le_of_ble_eq_true rfl) (Nat.le_of_ble_eq_true rfl) dX2_init_24 (fun q16 H hP hD hS => ?_)
          have hP : va_P (dC, dI) bwCl [(h0, .inr (2, [.ref q1, .null])), (q1, .inl (k2, 4, .inr (.inr (.inr (.inr (va_up (va_up (va_up (fun _ => none) 0 (some q4)) 1 (some q8)) 2 (some q12))))))), (q4, .inr (0, [.ref q5])), (q5, .inl (k6, 63, .inr (.inl (fun _ => 0)))), (q8, .inr (0, [.ref q9])), (q9, .inl (k10, 63, .inr (.inl (fun _ => 0)))), (q12, .inr (0, [.ref q13])), (q13, .inl (k14, 63, .inr (.inl (fun _ => 0)))), (q16, .inr (0, [.null]))] H := hP
          have hD : va_D X [(h0, .inr (2, [.ref q1, .null])), (q1, .inl (k2, 4, .inr (.inr (.inr (.inr (va_up (va_up (va_up (fun _ => none) 0 (some q4)) 1 (some q8)) 2 (some q12))))))), (q4, .inr (0, [.ref q5])), (q5, .inl (k6, 63, .inr (.inl (fun _ => 0)))), (q8, .inr (0, [.ref q9])), (q9, .inl (k10, 63, .inr (.inl (fun _ => 0)))), (q12, .inr (0, [.ref q13])), (q13, .inl (k14, 63, .inr (.inl (fun _ => 0)))), (q16, .inr (0, [.null]))] := hD
          refine lv_dup hx hb dX2_init_27 rfl ?_
          have hPc := hP.sub (ws' := [(q16, .inr (0, [.null]))]) [8] rfl
          have hDc := hD.sub (ws' := [(q16, .inr (0, [.null]))]) [8] (by decide) rfl
          have hKc := hK.sub (tys' := []) [] rfl
          have hFc := va_free (wc := [(q16, .inr (0, [.null]))]) hD hS hA [8] rfl
          refine va_callv (va_runIN (As := []) (rest := [.ref q16, .int 3, .ref q1]) ⟨hx, hb, hml, hown, hts⟩ (c_X0_init l dC dI q16 H.size) (⟨va_cnB 0 hts (gi_in hbc tw_20) rfl rfl rfl hN18 (hw _ tw_2) (by decide +kernel) ⟨Nat.le_of_ble_eq_true rfl, Nat.le_of_ble_eq_true rfl⟩, rfl, hw _ tw_19⟩) ⟨fun a U g mk q => by obtain ⟨q0, q1, qP, qK, qD⟩ := q; exact ⟨q0, q1, qP, va_K.moved (u := U) (U := U.calling g mk a) (Vm.Alike.refl U.vm) qK, qD⟩, fun U hU hW => ⟨rfl, by rw [hU], by rw [hU]; exact hPc, va_K.moved hW.alike hKc, hDc.weaken (fun _ _ _ _ => trivial)⟩⟩ rfl rfl hl.1 rfl (lv_room (Nat.le_of_ble_eq_true rfl)) dX2_init_28 ⟨Nat.le_of_ble_eq_true rfl, Nat.le_of_ble_eq_true rfl⟩) hS (fun q _ h => hFc q h) hFc (fun u9 t H1 locs ht hvm hw9 hB hz1 hk1 hS => ?_)
          obtain ⟨q17, k18⟩ := u9
          obtain ⟨hP1, hK1, hD1⟩ := hB
          rw [ht] at hP1
          have hK1 := va_K.moved hvm.symm hK1
          obtain ⟨hP, hD⟩ := va_join (wr := [(h0, .inr (2, [.ref q1, .null])), (q1, .inl (k2, 4, .inr (.inr (.inr (.inr (va_up (va_up (va_up (fun _ => none) 0 (some q4)) 1 (some q8)) 2 (some q12))))))), (q4, .inr (0, [.ref q5])), (q5, .inl (k6, 63, .inr (.inl (fun _ => 0)))), (q8, .inr (0, [.ref q9])), (q9, .inl (k10, 63, .inr (.inl (fun _ => 0)))), (q12, .inr (0, [.ref q13])), (q13, .inl (k14, 63, .inr (.inl (fun _ => 0))))]) (w1 := [(q16, .inr (0, [.ref q17])), (q17, .inl (k18, 63, .inr (.inl (fun _ => 0))))]) hP hD [8] [0, 1, 2, 3, 4, 5, 6, 7] rfl rfl (by decide) (by decide) hk1 hFc hP1 hD1
          have hK := (hK.sub (tys' := [(k2, .object RX0), (k6, .long), (k10, .long), (k14, .long)]) [0, 1, 2, 3] rfl).app hK1
          generalize H1 = H at hP hS ⊢
          have hP : va_P (dC, dI) bwCl [(h0, .inr (2, [.ref q1, .null])), (q1, .inl (k2, 4, .inr (.inr (.inr (.inr (va_up (va_up (va_up (fun _ => none) 0 (some q4)) 1 (some q8)) 2 (some q12))))))), (q4, .inr (0, [.ref q5])), (q5, .inl (k6, 63, .inr (.inl (fun _ => 0)))), (q8, .inr (0, [.ref q9])), (q9, .inl (k10, 63, .inr (.inl (fun _ => 0)))), (q12, .inr (0, [.ref q13])), (q13, .inl (k14, 63, .inr (.inl (fun _ => 0)))), (q16, .inr (0, [.ref q17])), (q17, .inl (k18, 63, .inr (.inl (fun _ => 0))))] H := hP
          have hD : va_D X [(h0, .inr (2, [.ref q1, .null])), (q1, .inl (k2, 4, .inr (.inr (.inr (.inr (va_up (va_up (va_up (fun _ => none) 0 (some q4)) 1 (some q8)) 2 (some q12))))))), (q4, .inr (0, [.ref q5])), (q5, .inl (k6, 63, .inr (.inl (fun _ => 0)))), (q8, .inr (0, [.ref q9])), (q9, .inl (k10, 63, .inr (.inl (fun _ => 0)))), (q12, .inr (0, [.ref q13])), (q13, .inl (k14, 63, .inr (.inl (fun _ => 0)))), (q16, .inr (0, [.ref q17])), (q17, .inl (k18, 63, .inr (.inl (fun _ => 0))))] := hD
          have hK : va_K (dC, dI) bwCl [(k2, .object RX0), (k6, .long), (k10, .long), (k14, .long), (k18, .long)] s := hK
          refine va_astq hx hb hK hP hD hS 1 0 8 0 rfl rfl rfl rfl (vp_in_nI (n := 3) (by decide) (by decide)) dX2_init_31 (fun H locs hP hD hS => ?_)
          have hP : va_P (dC, dI) bwCl [(h0, .inr (2, [.ref q1, .null])), (q1, .inl (k2, 4, .inr (.inr (.inr (.inr (va_up (va_up (va_up (va_up (fun _ => none) 0 (some q4)) 1 (some q8)) 2 (some q12)) 3 (some q16))))))), (q4, .inr (0, [.ref q5])), (q5, .inl (k6, 63, .inr (.inl (fun _ => 0)))), (q8, .inr (0, [.ref q9])), (q9, .inl (k10, 63, .inr (.inl (fun _ => 0)))), (q12, .inr (0, [.ref q13])), (q13, .inl (k14, 63, .inr (.inl (fun _ => 0)))), (q16, .inr (0, [.ref q17])), (q17, .inl (k18, 63, .inr (.inl (fun _ => 0))))] H := hP
          have hD : va_D X [(h0, .inr (2, [.ref q1, .null])), (q1, .inl (k2, 4, .inr (.inr (.inr (.inr (va_up (va_up (va_up (va_up (fun _ => none) 0 (some q4)) 1 (some q8)) 2 (some q12)) 3 (some q16))))))), (q4, .inr (0, [.ref q5])), (q5, .inl (k6, 63, .inr (.inl (fun _ => 0)))), (q8, .inr (0, [.ref q9])), (q9, .inl (k10, 63, .inr (.inl (fun _ => 0)))), (q12, .inr (0, [.ref q13])), (q13, .inl (k14, 63, .inr (.inl (fun _ => 0)))), (q16, .inr (0, [.ref q17])), (q17, .inl (k18, 63, .inr (.inl (fun _ => 0))))] := hD
          refine lv_iinc (v := 4) (lv' := [(1, .int 4), (0, .ref h0)]) hx hb dX2_init_32 hl (k := 0) rfl ((by decide)) (by decide) rfl (fun ls hl => ?_)
          refine lv_goto (tgt := 14) hx hb dX2_init_35 (by decide) ?_
          refine lv_iload_n hx hb dX2_init_14 rfl (lv_at hl 0 rfl) ?_
          refine lv_iconst (v := 4) hx hb dX2_init_15 (by decide) ?_
          refine lv_icmp_ge (tgt := 38) hx hb dX2_init_16 (by decide) (fun c19 => ?_) (fun c19 => ?_)
          · refine lv_aload_n hx hb dX2_init_38 rfl (lv_at hl 1 rfl) ?_
            refine va_new (D := (dC, dI)) (ci := 1) (fs := [.null, .int 0]) (C := RX1) (T := TX1) (N := 2) hx hb hw igX1 tyX1 tyX1_ok hown (hw _ tw_27) (hw _ tw_28) (hw _ tw_3) hK hP hD hS hA rfl (fun j hj => by rcases (show j = 0 ∨ j = 1 by omega) with rfl | rfl <;> rfl) (Nat.le_of_ble_eq_true rfl) (Nat.le_of_ble_eq_true rfl) dX2_init_39 (fun q20 H hP hD hS => ?_)
            have hP : va_P (dC, dI) bwCl [(h0, .inr (2, [.ref q1, .null])), (q1, .inl (k2, 4, .inr (.inr (.inr (.inr (va_up (va_up (va_up (va_up (fun _ => none) 0 (some q4)) 1 (some q8)) 2 (some q12)) 3 (some q16))))))), (q4, .inr (0, [.ref q5])), (q5, .inl (k6, 63, .inr (.inl (fun _ => 0)))), (q8, .inr (0, [.ref q9])), (q9, .inl (k10, 63, .inr (.inl (fun _ => 0)))), (q12, .inr (0, [.ref q13])), (q13, .inl (k14, 63, .inr (.inl (fun _ => 0)))), (q16, .inr (0, [.ref q17])), (q17, .inl (k18, 63, .inr (.inl (fun _ => 0)))), (q20, .inr (1, [.null, .int 0]))] H := hP
            have hD : va_D X [(h0, .inr (2, [.ref q1, .null])), (q1, .inl (k2, 4, .inr (.inr (.inr (.inr (va_up (va_up (va_up (va_up (fun _ => none) 0 (some q4)) 1 (some q8)) 2 (some q12)) 3 (some q16))))))), (q4, .inr (0, [.ref q5])), (q5, .inl (k6, 63, .inr (.inl (fun _ => 0)))), (q8, .inr (0, [.ref q9])), (q9, .inl (k10, 63, .inr (.inl (fun _ => 0)))), (q12, .inr (0, [.ref q13])), (q13, .inl (k14, 63, .inr (.inl (fun _ => 0)))), (q16, .inr (0, [.ref q17])), (q17, .inl (k18, 63, .inr (.inl (fun _ => 0)))), (q20, .inr (1, [.null, .int 0]))] := hD
            refine lv_dup hx hb dX2_init_42 rfl ?_
            have hPc := hP.sub (ws' := [(q20, .inr (1, [.null, .int 0]))]) [10] rfl
            have hDc := hD.sub (ws' := [(q20, .inr (1, [.null, .int 0]))]) [10] (by decide) rfl
            have hKc := hK.sub (tys' := []) [] rfl
            have hFc := va_free (wc := [(q20, .inr (1, [.null, .int 0]))]) hD hS hA [10] rfl
            refine va_callv (va_runIN (As := []) (rest := [.ref q20, .ref h0]) ⟨hx, hb, hml, hown, hts⟩ (c_X1_init l dC dI q20 H.size) (⟨va_cnB 0 hts (gi_in hbc tw_31) rfl rfl rfl hN29 (hw _ tw_3) (by decide +kernel) ⟨Nat.le_of_ble_eq_true rfl, Nat.le_of_ble_eq_true rfl⟩, rfl, hw _ tw_30⟩) ⟨fun a U g mk q => by obtain ⟨q0, q1, qP, qK, qD⟩ := q; exact ⟨q0, q1, qP, va_K.moved (u := U) (U := U.calling g mk a) (Vm.Alike.refl U.vm) qK, qD⟩, fun U hU hW => ⟨rfl, by rw [hU], by rw [hU]; exact hPc, va_K.moved hW.alike hKc, hDc.weaken (fun _ _ _ _ => trivial)⟩⟩ rfl rfl hl.1 rfl (lv_room (Nat.le_of_ble_eq_true rfl)) dX2_init_43 ⟨Nat.le_of_ble_eq_true rfl, Nat.le_of_ble_eq_true rfl⟩) hS (fun q _ h => hFc q h) hFc (fun u9 t H1 locs ht hvm hw9 hB hz1 hk1 hS => ?_)
            obtain ⟨q21, k22⟩ := u9
            obtain ⟨hP1, hK1, hD1⟩ := hB
            rw [ht] at hP1
            have hK1 := va_K.moved hvm.symm hK1
            obtain ⟨hP, hD⟩ := va_join (wr := [(h0, .inr (2, [.ref q1, .null])), (q1, .inl (k2, 4, .inr (.inr (.inr (.inr (va_up (va_up (va_up (va_up (fun _ => none) 0 (some q4)) 1 (some q8)) 2 (some q12)) 3 (some q16))))))), (q4, .inr (0, [.ref q5])), (q5, .inl (k6, 63, .inr (.inl (fun _ => 0)))), (q8, .inr (0, [.ref q9])), (q9, .inl (k10, 63, .inr (.inl (fun _ => 0)))), (q12, .inr (0, [.ref q13])), (q13, .inl (k14, 63, .inr (.inl (fun _ => 0)))), (q16, .inr (0, [.ref q17])), (q17, .inl (k18, 63, .inr (.inl (fun _ => 0))))]) (w1 := [(q20, .inr (1, [.ref q21, .int 0])), (q21, .inl (k22, 530, .inl (fun _ => 0)))]) hP hD [10] [0, 1, 2, 3, 4, 5, 6, 7, 8, 9] rfl rfl (by decide) (by decide) hk1 hFc hP1 hD1
            have hK := (hK.sub (tys' := [(k2, .object RX0), (k6, .long), (k10, .long), (k14, .long), (k18, .long)]) [0, 1, 2, 3, 4] rfl).app hK1
            generalize H1 = H at hP hS ⊢
            have hP : va_P (dC, dI) bwCl [(h0, .inr (2, [.ref q1, .null])), (q1, .inl (k2, 4, .inr (.inr (.inr (.inr (va_up (va_up (va_up (va_up (fun _ => none) 0 (some q4)) 1 (some q8)) 2 (some q12)) 3 (some q16))))))), (q4, .inr (0, [.ref q5])), (q5, .inl (k6, 63, .inr (.inl (fun _ => 0)))), (q8, .inr (0, [.ref q9])), (q9, .inl (k10, 63, .inr (.inl (fun _ => 0)))), (q12, .inr (0, [.ref q13])), (q13, .inl (k14, 63, .inr (.inl (fun _ => 0)))), (q16, .inr (0, [.ref q17])), (q17, .inl (k18, 63, .inr (.inl (fun _ => 0)))), (q20, .inr (1, [.ref q21, .int 0])), (q21, .inl (k22, 530, .inl (fun _ => 0)))] H := hP
            have hD : va_D X [(h0, .inr (2, [.ref q1, .null])), (q1, .inl (k2, 4, .inr (.inr (.inr (.inr (va_up (va_up (va_up (va_up (fun _ => none) 0 (some q4)) 1 (some q8)) 2 (some q12)) 3 (some q16))))))), (q4, .inr (0, [.ref q5])), (q5, .inl (k6, 63, .inr (.inl (fun _ => 0)))), (q8, .inr (0, [.ref q9])), (q9, .inl (k10, 63, .inr (.inl (fun _ => 0)))), (q12, .inr (0, [.ref q13])), (q13, .inl (k14, 63, .inr (.inl (fun _ => 0)))), (q16, .inr (0, [.ref q17])), (q17, .inl (k18, 63, .inr (.inl (fun _ => 0)))), (q20, .inr (1, [.ref q21, .int 0])), (q21, .inl (k22, 530, .inl (fun _ => 0)))] := hD
            have hK : va_K (dC, dI) bwCl [(k2, .object RX0), (k6, .long), (k10, .long), (k14, .long), (k18, .long), (k22, .char)] s := hK
            refine va_putF (D := (dC, dI)) (ci := 2) (v := .ref q20) (ty := .object "BitBoard$Signs") (C := RX2) (T := TX2) (N := 2) hx hb hw igX2 tyX2 tyX2_ok nmX2 hown hK hP hD hS 0 rfl rfl 1 (by decide) (hw _ tw_42) (fun _ h9 => h9) rfl hin rfl (by decide +kernel) rfl rfl (Nat.le_of_ble_eq_true rfl) dX2_init_46 (fun H locs hP hD hS => ?_)
            have hP : va_P (dC, dI) bwCl [(h0, .inr (2, [.ref q1, .ref q20])), (q1, .inl (k2, 4, .inr (.inr (.inr (.inr (va_up (va_up (va_up (va_up (fun _ => none) 0 (some q4)) 1 (some q8)) 2 (some q12)) 3 (some q16))))))), (q4, .inr (0, [.ref q5])), (q5, .inl (k6, 63, .inr (.inl (fun _ => 0)))), (q8, .inr (0, [.ref q9])), (q9, .inl (k10, 63, .inr (.inl (fun _ => 0)))), (q12, .inr (0, [.ref q13])), (q13, .inl (k14, 63, .inr (.inl (fun _ => 0)))), (q16, .inr (0, [.ref q17])), (q17, .inl (k18, 63, .inr (.inl (fun _ => 0)))), (q20, .inr (1, [.ref q21, .int 0])), (q21, .inl (k22, 530, .inl (fun _ => 0)))] H := hP
            have hD : va_D X [(h0, .inr (2, [.ref q1, .ref q20])), (q1, .inl (k2, 4, .inr (.inr (.inr (.inr (va_up (va_up (va_up (va_up (fun _ => none) 0 (some q4)) 1 (some q8)) 2 (some q12)) 3 (some q16))))))), (q4, .inr (0, [.ref q5])), (q5, .inl (k6, 63, .inr (.inl (fun _ => 0)))), (q8, .inr (0, [.ref q9])), (q9, .inl (k10, 63, .inr (.inl (fun _ => 0)))), (q12, .inr (0, [.ref q13])), (q13, .inl (k14, 63, .inr (.inl (fun _ => 0)))), (q16, .inr (0, [.ref q17])), (q17, .inl (k18, 63, .inr (.inl (fun _ => 0)))), (q20, .inr (1, [.ref q21, .int 0])), (q21, .inl (k22, 530, .inl (fun _ => 0)))] := hD
            refine W.widen (k := 11) (n := 792) (Nat.le_of_ble_eq_true rfl) (Nat.le_of_ble_eq_true rfl) ?_
            exact W.vret hx hb hr (fun t ht hW => ⟨⟨((h0, q1, q20, q21), (tb4 q4 q8 q12 q16, tb4 q5 q9 q13 q17), (k2, tb4 k6 k10 k14 k18, k22)), rfl, rfl, by rw [ht]; exact hP.sub [0, 1, 10, 11, 2, 4, 6, 8, 3, 5, 7, 9] rfl, va_K.moved hW.alike (hK.sub [0, 5, 1, 2, 3, 4] rfl), hD.sub [0, 1, 10, 11, 2, 4, 6, 8, 3, 5, 7, 9] (by decide) rfl⟩, hS.F ht⟩) hS.2.2 dX2_init_49
          · exact absurd (by decide) c19
