def u0R : StR := (fun _ _ => false, fun _ => false, fun _ => 0, 0)
set_option maxHeartbeats 4000000 in
set_option maxRecDepth 100000 in
theorem c_X3_init (l : Launch) (dC : Nat → ClassId) (dI : Nat → Nat → Nat) (h0 sz : Nat) : Met l yX3_init wX3_init ({ frames := 1, cells := 7, slots := 20864, locals := 12 }) (va_Pc [.ref h0] (fun U => U.heap.size = sz ∧ va_P (dC, dI) bwCl [(h0, .inr (3, [.null, .null, .null, .int 0]))] U.heap ∧ va_K (dC, dI) bwCl [] U ∧ va_D (fun _ => True) [(h0, .inr (3, [.null, .null, .null, .int 0]))] ∧ va_AQ U)) (va_Qv (fun q : AdR => mh_ q = h0) (fun A t => va_P (dC, dI) bwCl (wR A u0R) t.heap ∧ va_K (dC, dI) bwCl (tyR A) t ∧ va_D (va_A [(h0, .inr (3, [.null, .null, .null, .int 0]))] sz) (wR A u0R)) (va_A [(h0, .inr (3, [.null, .null, .null, .int 0]))] sz)) 7 20864 (va_A [(h0, .inr (3, [.null, .null, .null, .int 0]))] sz) := by
  refine Met.ofW (cc := cX3_init) (maxL := 1) (ret := none) (by decide) rfl ?_
  intro p e s m args below meth c s₁ B hml hv
  obtain ⟨rfl, hsz, hP, hK, hD0, hAQ⟩ := hv
  have hx := B.exec
  have hb := B.bytes
  have hr := B.returns
  have hts := atoms_spec (ws := wX3_init) B.pre
  have hw : ∀ w ∈ tg_, w.before _ s = true := fun w h => hts w (List.mem_cons_of_mem _ h)
  have hown : s.vm.findClass RX3 = some m.cls := findClass_of_methodNamed B.named
  have hlocks := B.notSynchronized
  have hin : meth.name = "<init>" := (name_of_methodNamed B.named B.method).1
  subst hsz
  have hD := hD0.self (sz := s.heap.size)
  generalize hAe : va_A [(h0, .inr (3, [.null, .null, .null, .int 0]))] s.heap.size = X at hD ⊢
  have hA : ∀ q : Nat, s.heap.size ≤ q → X q := fun q h => by rw [← hAe]; exact Or.inr h
  have hS : va_S X s.heap s.heap [] := va_S.rf
  have hP : va_P (dC, dI) bwCl [(h0, .inr (3, [.null, .null, .null, .int 0]))] s.heap := hP
  have hl := lv_entry ([.ref h0]) (n := 1) (Nat.le_of_ble_eq_true rfl)
  rw [lg_entry_eq]
  generalize (lg_sl ([.ref h0]) ++ List.replicate (1 - (lg_sl ([.ref h0])).length) Slot.unset).toArray = ls at hl ⊢
  have hl : lv_has ls 1 [(0, .ref h0)] := hl
  refine lv_aload_n hx hb dX3_init_0 rfl (lv_at hl 0 rfl) ?_
  refine W.objInit hx hb hown (hw _ tw_239) (hw _ tw_13) (hw _ tw_14) rfl (by rw [hml]; exact hl.1) rfl dX3_init_1 (Nat.le_of_ble_eq_true rfl) (Nat.le_of_ble_eq_true rfl) ?_
  show W p l e _ s m _ below meth c s.heap [] 0 0 _ (F0 m 4 ls [])
  refine lv_aload_n hx hb dX3_init_4 rfl (lv_at hl 0 rfl) ?_
  refine lv_iconst (v := 4) hx hb dX3_init_5 (by decide) ?_
  refine lv_sipush (v := 4032) hx hb dX3_init_6 (by decide) ?_
  refine va_mz (D := (dC, dI)) hx hb hown (hw _ tw_240) hAQ (hw _ tw_255) hK hP hD hS hA (Nat.le_of_ble_eq_true rfl) (Nat.le_of_ble_eq_true rfl) dX3_init_9 (fun q1 k2 k3 H locs hK hP hD hS => ?_)
  have hP : va_P (dC, dI) bwCl [(h0, .inr (3, [.null, .null, .null, .int 0])), (q1, .inl (k2, 4, .inr (.inr (.inr (.inr (mz_f q1 4)))))), (q1 + 1 + 0, .inl (k3, 4032, .inl (fun _ => 0))), (q1 + 1 + 1, .inl (k3, 4032, .inl (fun _ => 0))), (q1 + 1 + 2, .inl (k3, 4032, .inl (fun _ => 0))), (q1 + 1 + 3, .inl (k3, 4032, .inl (fun _ => 0)))] H := hP
  have hD : va_D X [(h0, .inr (3, [.null, .null, .null, .int 0])), (q1, .inl (k2, 4, .inr (.inr (.inr (.inr (mz_f q1 4)))))), (q1 + 1 + 0, .inl (k3, 4032, .inl (fun _ => 0))), (q1 + 1 + 1, .inl (k3, 4032, .inl (fun _ => 0))), (q1 + 1 + 2, .inl (k3, 4032, .inl (fun _ => 0))), (q1 + 1 + 3, .inl (k3, 4032, .inl (fun _ => 0)))] := hD
  have hK : va_K (dC, dI) bwCl [(k2, .array .boolean), (k3, .boolean)] s := hK
  refine va_putF (D := (dC, dI)) (ci := 3) (v := .ref q1) (ty := .array (.array .boolean)) (C := RX3) (T := TX3) (N := 4) hx hb hw igX3 tyX3 tyX3_ok nmX3 hown hK hP hD hS 0 rfl rfl 0 (by decide) (hw _ tw_242) (fun _ h9 => h9) rfl hin rfl (by decide +kernel) rfl rfl (Nat.le_of_ble_eq_true rfl) dX3_init_13 (fun H locs hP hD hS => ?_)
  have hP : va_P (dC, dI) bwCl [(h0, .inr (3, [.ref q1, .null, .null, .int 0])), (q1, .inl (k2, 4, .inr (.inr (.inr (.inr (mz_f q1 4)))))), (q1 + 1 + 0, .inl (k3, 4032, .inl (fun _ => 0))), (q1 + 1 + 1, .inl (k3, 4032, .inl (fun _ => 0))), (q1 + 1 + 2, .inl (k3, 4032, .inl (fun _ => 0))), (q1 + 1 + 3, .inl (k3, 4032, .inl (fun _ => 0)))] H := hP
  have hD : va_D X [(h0, .inr (3, [.ref q1, .null, .null, .int 0])), (q1, .inl (k2, 4, .inr (.inr (.inr (.inr (mz_f q1 4)))))), (q1 + 1 + 0, .inl (k3, 4032, .inl (fun _ => 0))), (q1 + 1 + 1, .inl (k3, 4032, .inl (fun _ => 0))), (q1 + 1 + 2, .inl (k3, 4032, .inl (fun _ => 0))), (q1 + 1 + 3, .inl (k3, 4032, .inl (fun _ => 0)))] := hD
  refine lv_aload_n hx hb dX3_init_16 rfl (lv_at hl 0 rfl) ?_
  refine lv_sipush (v := 4032) hx hb dX3_init_17 (by decide) ?_
  refine va_newa (D := (dC, dI)) (atype := .boolean) (ty := .boolean) (N' := 4032) (a0 := (4032, .inl (fun _ => 0))) hx hb (hw _ tw_255) rfl hK hP hD hS hA (fun _ => rfl) (by decide) rfl (by decide) (Nat.le_of_ble_eq_true rfl) (Nat.le_of_ble_eq_true rfl) dX3_init_20 (fun q4 k5 H hK hP hD hS => ?_)
  have hP : va_P (dC, dI) bwCl [(h0, .inr (3, [.ref q1, .null, .null, .int 0])), (q1, .inl (k2, 4, .inr (.inr (.inr (.inr (mz_f q1 4)))))), (q1 + 1 + 0, .inl (k3, 4032, .inl (fun _ => 0))), (q1 + 1 + 1, .inl (k3, 4032, .inl (fun _ => 0))), (q1 + 1 + 2, .inl (k3, 4032, .inl (fun _ => 0))), (q1 + 1 + 3, .inl (k3, 4032, .inl (fun _ => 0))), (q4, .inl (k5, 4032, .inl (fun _ => 0)))] H := hP
  have hD : va_D X [(h0, .inr (3, [.ref q1, .null, .null, .int 0])), (q1, .inl (k2, 4, .inr (.inr (.inr (.inr (mz_f q1 4)))))), (q1 + 1 + 0, .inl (k3, 4032, .inl (fun _ => 0))), (q1 + 1 + 1, .inl (k3, 4032, .inl (fun _ => 0))), (q1 + 1 + 2, .inl (k3, 4032, .inl (fun _ => 0))), (q1 + 1 + 3, .inl (k3, 4032, .inl (fun _ => 0))), (q4, .inl (k5, 4032, .inl (fun _ => 0)))] := hD
  have hK : va_K (dC, dI) bwCl [(k2, .array .boolean), (k3, .boolean), (k5, .boolean)] s := hK
  refine va_putF (D := (dC, dI)) (ci := 3) (v := .ref q4) (ty := .array .boolean) (C := RX3) (T := TX3) (N := 4) hx hb hw igX3 tyX3 tyX3_ok nmX3 hown hK hP hD hS 0 rfl rfl 1 (by decide) (hw _ tw_243) (fun _ h9 => h9) rfl hin rfl (by decide +kernel) rfl rfl (Nat.le_of_ble_eq_true rfl) dX3_init_22 (fun H locs hP hD hS => ?_)
  have hP : va_P (dC, dI) bwCl [(h0, .inr (3, [.ref q1, .ref q4, .null, .int 0])), (q1, .inl (k2, 4, .inr (.inr (.inr (.inr (mz_f q1 4)))))), (q1 + 1 + 0, .inl (k3, 4032, .inl (fun _ => 0))), (q1 + 1 + 1, .inl (k3, 4032, .inl (fun _ => 0))), (q1 + 1 + 2, .inl (k3, 4032, .inl (fun _ => 0))), (q1 + 1 + 3, .inl (k3, 4032, .inl (fun _ => 0))), (q4, .inl (k5, 4032, .inl (fun _ => 0)))] H := hP
  have hD : va_D X [(h0, .inr (3, [.ref q1, .ref q4, .null, .int 0])), (q1, .inl (k2, 4, .inr (.inr (.inr (.inr (mz_f q1 4)))))), (q1 + 1 + 0, .inl (k3, 4032, .inl (fun _ => 0))), (q1 + 1 + 1, .inl (k3, 4032, .inl (fun _ => 0))), (q1 + 1 + 2, .inl (k3, 4032, .inl (fun _ => 0))), (q1 + 1 + 3, .inl (k3, 4032, .inl (fun _ => 0))), (q4, .inl (k5, 4032, .inl (fun _ => 0)))] := hD
  refine lv_aload_n hx hb dX3_init_25 rfl (lv_at hl 0 rfl) ?_
  refine lv_sipush (v := 700) hx hb dX3_init_26 (by decide) ?_
  refine va_newa (D := (dC, dI)) (atype := .byte) (ty := .byte) (N' := 700) (a0 := (700, .inl (fun _ => 0))) hx hb (hw _ tw_256) rfl hK hP hD hS hA (fun _ => rfl) (by decide) rfl (by decide) (Nat.le_of_ble_eq_true rfl) (Nat.le_of_ble_eq_true rfl) dX3_init_29 (fun q6 k7 H hK hP hD hS => ?_)
  have hP : va_P (dC, dI) bwCl [(h0, .inr (3, [.ref q1, .ref q4, .null, .int 0])), (q1, .inl (k2, 4, .inr (.inr (.inr (.inr (mz_f q1 4)))))), (q1 + 1 + 0, .inl (k3, 4032, .inl (fun _ => 0))), (q1 + 1 + 1, .inl (k3, 4032, .inl (fun _ => 0))), (q1 + 1 + 2, .inl (k3, 4032, .inl (fun _ => 0))), (q1 + 1 + 3, .inl (k3, 4032, .inl (fun _ => 0))), (q4, .inl (k5, 4032, .inl (fun _ => 0))), (q6, .inl (k7, 700, .inl (fun _ => 0)))] H := hP
  have hD : va_D X [(h0, .inr (3, [.ref q1, .ref q4, .null, .int 0])), (q1, .inl (k2, 4, .inr (.inr (.inr (.inr (mz_f q1 4)))))), (q1 + 1 + 0, .inl (k3, 4032, .inl (fun _ => 0))), (q1 + 1 + 1, .inl (k3, 4032, .inl (fun _ => 0))), (q1 + 1 + 2, .inl (k3, 4032, .inl (fun _ => 0))), (q1 + 1 + 3, .inl (k3, 4032, .inl (fun _ => 0))), (q4, .inl (k5, 4032, .inl (fun _ => 0))), (q6, .inl (k7, 700, .inl (fun _ => 0)))] := hD
  have hK : va_K (dC, dI) bwCl [(k2, .array .boolean), (k3, .boolean), (k5, .boolean), (k7, .byte)] s := hK
  refine va_putF (D := (dC, dI)) (ci := 3) (v := .ref q6) (ty := .array .byte) (C := RX3) (T := TX3) (N := 4) hx hb hw igX3 tyX3 tyX3_ok nmX3 hown hK hP hD hS 0 rfl rfl 2 (by decide) (hw _ tw_244) (fun _ h9 => h9) rfl hin rfl (by decide +kernel) rfl rfl (Nat.le_of_ble_eq_true rfl) dX3_init_31 (fun H locs hP hD hS => ?_)
  have hP : va_P (dC, dI) bwCl [(h0, .inr (3, [.ref q1, .ref q4, .ref q6, .int 0])), (q1, .inl (k2, 4, .inr (.inr (.inr (.inr (mz_f q1 4)))))), (q1 + 1 + 0, .inl (k3, 4032, .inl (fun _ => 0))), (q1 + 1 + 1, .inl (k3, 4032, .inl (fun _ => 0))), (q1 + 1 + 2, .inl (k3, 4032, .inl (fun _ => 0))), (q1 + 1 + 3, .inl (k3, 4032, .inl (fun _ => 0))), (q4, .inl (k5, 4032, .inl (fun _ => 0))), (q6, .inl (k7, 700, .inl (fun _ => 0)))] H := hP
  have hD : va_D X [(h0, .inr (3, [.ref q1, .ref q4, .ref q6, .int 0])), (q1, .inl (k2, 4, .inr (.inr (.inr (.inr (mz_f q1 4)))))), (q1 + 1 + 0, .inl (k3, 4032, .inl (fun _ => 0))), (q1 + 1 + 1, .inl (k3, 4032, .inl (fun _ => 0))), (q1 + 1 + 2, .inl (k3, 4032, .inl (fun _ => 0))), (q1 + 1 + 3, .inl (k3, 4032, .inl (fun _ => 0))), (q4, .inl (k5, 4032, .inl (fun _ => 0))), (q6, .inl (k7, 700, .inl (fun _ => 0)))] := hD
  refine W.widen (k := 7) (n := 20864) (Nat.le_of_ble_eq_true rfl) (Nat.le_of_ble_eq_true rfl) ?_
  exact W.vret hx hb hr (fun t ht hW => ⟨⟨((h0, q1, q4, q6), tb4 (q1 + 1 + 0) (q1 + 1 + 1) (q1 + 1 + 2) (q1 + 1 + 3), (k2, k5, k7, fun _ => k3)), rfl, rfl, by rw [ht]; exact hP.sub [0, 1, 6, 7, 2, 3, 4, 5] rfl, va_K.moved hW.alike (hK.sub [0, 2, 3, 1, 1, 1, 1] rfl), hD.sub [0, 1, 6, 7, 2, 3, 4, 5] (by decide) rfl⟩, hS.F ht⟩) hS.2.2 dX3_init_34
