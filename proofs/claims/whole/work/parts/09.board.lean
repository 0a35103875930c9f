set_option maxHeartbeats 4000000 in
set_option maxRecDepth 100000 in
theorem c_X2_set (l : Launch) (dC : Nat → ClassId) (dI : Nat → Nat → Nat) (A : AdB) (u : StB) (p0 : Int32) (p1 : Int32) (p2 : Int32) : gMi l yX2_set wX2_set ({ frames := 2, cells := 0, slots := 0, locals := 50 }) (dC, dI) bwCl (tyB A) (wB A) (aB A) [.ref (ah_ A), .int p0, .int p1, .int p2] u (fun r v => ((¬ (fX2_isRow p0) = 0 ∧ ¬ (fX2_isChange p1) = 0 ∧ ¬ (fX2_isPlace p2) = 0) ∧ (r = fX0_bit (u.1 p0.toNatClampNeg) p2 ∧ ((upM u.1 p0.toNatClampNeg (fl (chW (u.1 p0.toNatClampNeg) p1 p2 (p2 + 1)) (u.1 p0.toNatClampNeg) 63), u.2) : StB) = v)) ∨ (¬ (¬ (fX2_isRow p0) = 0 ∧ ¬ (fX2_isChange p1) = 0 ∧ ¬ (fX2_isPlace p2) = 0) ∧ r = -2 ∧ u = v)) := by
  unfold gMi
  intro sz
  refine Met.ofW (cc := cX2_set) (maxL := 5) (ret := (some .int)) (by decide) rfl ?_
  intro p e s m args below meth c s₁ B hml hv
  obtain ⟨rfl, hsz, hP, hK, hD⟩ := hv
  subst hsz
  have hS : va_S (aB A s.heap.size) s.heap s.heap [] := va_S.rf
  have hx := B.exec
  have hb := B.bytes
  have hr := B.returns
  have hts := atoms_spec (ws := wX2_set) B.pre
  have hw : ∀ w ∈ tg_, w.before _ s = true := fun w h => hts w (List.mem_cons_of_mem _ h)
  have hown : s.vm.findClass RX2 = some m.cls := findClass_of_methodNamed B.named
  have hlocks := B.notSynchronized
  have hl := lv_entry ([.ref (ah_ A), .int p0, .int p1, .int p2]) (n := 5) (Nat.le_of_ble_eq_true rfl)
  rw [lg_entry_eq]
  generalize (lg_sl ([.ref (ah_ A), .int p0, .int p1, .int p2]) ++ List.replicate (5 - (lg_sl ([.ref (ah_ A), .int p0, .int p1, .int p2])).length) Slot.unset).toArray = ls at hl ⊢
  have hl : lv_has ls 5 [(0, .ref (ah_ A)), (1, .int p0), (2, .int p1), (3, .int p2)] := hl
  refine lv_iload_n hx hb dX2_set_0 rfl (lv_at hl 1 rfl) ?_
  refine vp_callSi (W.runS (As := [.int p0]) (rest := []) ⟨hx, hb, hml, hown, hts⟩ (c_X2_isRow l p0) (va_cwS 1 hts (gi_S hbc tw_52 tw_53 tw_1 tw_54) rfl rfl rfl (by decide +kernel) ⟨Nat.le_of_ble_eq_true rfl, Nat.le_of_ble_eq_true rfl⟩) preEq rfl rfl hl.1 rfl (lv_room (Nat.le_of_ble_eq_true rfl)) dX2_set_1 ⟨Nat.le_of_ble_eq_true rfl, Nat.le_of_ble_eq_true rfl⟩) (fun r hq => ?_)
  subst hq
  refine lv_if_eq (tgt := 21) hx hb dX2_set_4 (by decide) (fun c1 => ?_) (fun c1 => ?_)
  · refine lv_bipush (v := -2) hx hb dX2_set_21 (by decide) ?_
    exact W.iret hx hb hr (fun t9 ht9 hW => ⟨⟨_, u, rfl, Or.inr ⟨fun h => h.1 c1, rfl, rfl⟩, by rw [ht9]; exact hP, va_K.moved hW.alike hK, hD⟩, hS.F ht9⟩) hS.2.2 dX2_set_23
  · have hj_p0 := row_lt c1
    refine lv_iload_n hx hb dX2_set_7 rfl (lv_at hl 2 rfl) ?_
    refine vp_callSi (W.runS (As := [.int p1]) (rest := []) ⟨hx, hb, hml, hown, hts⟩ (c_X2_isChange l p1) (va_cwS 1 hts (gi_S hbc tw_55 tw_56 tw_1 tw_57) rfl rfl rfl (by decide +kernel) ⟨Nat.le_of_ble_eq_true rfl, Nat.le_of_ble_eq_true rfl⟩) preEq rfl rfl hl.1 rfl (lv_room (Nat.le_of_ble_eq_true rfl)) dX2_set_8 ⟨Nat.le_of_ble_eq_true rfl, Nat.le_of_ble_eq_true rfl⟩) (fun r hq => ?_)
    subst hq
    refine lv_if_eq (tgt := 21) hx hb dX2_set_11 (by decide) (fun c2 => ?_) (fun c2 => ?_)
    · refine lv_bipush (v := -2) hx hb dX2_set_21 (by decide) ?_
      exact W.iret hx hb hr (fun t9 ht9 hW => ⟨⟨_, u, rfl, Or.inr ⟨fun h => h.2.1 c2, rfl, rfl⟩, by rw [ht9]; exact hP, va_K.moved hW.alike hK, hD⟩, hS.F ht9⟩) hS.2.2 dX2_set_23
    · refine lv_iload_n hx hb dX2_set_14 rfl (lv_at hl 3 rfl) ?_
      refine vp_callSi (W.runS (As := [.int p2]) (rest := []) ⟨hx, hb, hml, hown, hts⟩ (c_X2_isPlace l p2) (va_cwS 1 hts (gi_S hbc tw_58 tw_59 tw_1 tw_60) rfl rfl rfl (by decide +kernel) ⟨Nat.le_of_ble_eq_true rfl, Nat.le_of_ble_eq_true rfl⟩) preEq rfl rfl hl.1 rfl (lv_room (Nat.le_of_ble_eq_true rfl)) dX2_set_15 ⟨Nat.le_of_ble_eq_true rfl, Nat.le_of_ble_eq_true rfl⟩) (fun r hq => ?_)
      subst hq
      refine lv_if_ne (tgt := 24) hx hb dX2_set_18 (by decide) (fun c3 => ?_) (fun c3 => ?_)
      · refine lv_aload_n hx hb dX2_set_24 rfl (lv_at hl 0 rfl) ?_
        refine va_get (D := (dC, dI)) (ci := 2) (v := .ref (aq_ A)) (C := RX2) (T := TX2) (N := 2) hx hb hw igX2 hown hK hP 0 rfl rfl 0 (by decide) (hw _ tw_41) (fun _ h9 => h9) rfl dX2_set_25 ?_
        refine lv_iload_n hx hb dX2_set_28 rfl (lv_at hl 1 rfl) ?_
        refine va_aldq hx hb hK hP 1 0 rfl rfl (row_in c1) dX2_set_29 ?_
        rw [rwF_at A hj_p0]
        refine lv_iload_n hx hb dX2_set_30 rfl (lv_at hl 3 rfl) ?_
        refine gVi (As := [.int p2]) (rest := []) ⟨hx, hb, hml, hown, hts⟩ (c_X0_bit l dC dI A u hj_p0 p2) (cwV 1 hts (gi_V hbc tw_61 tw_62 tw_63 tw_2 tw_64) rfl rfl rfl (by decide +kernel) ⟨Nat.le_of_ble_eq_true rfl, Nat.le_of_ble_eq_true rfl⟩) (va_recv hK hP (ci := 0) (q0 := (4 + p0.toNatClampNeg)) rfl (wB_row A u hj_p0)) aB_mono aB_D hP hK hD hS rfl hl.1 rfl (Nat.le_of_ble_eq_true rfl) dX2_set_31 ⟨Nat.le_of_ble_eq_true rfl, Nat.le_of_ble_eq_true rfl⟩ (fun r4 v6 H locs hq5 hP hD hS => ?_)
        obtain ⟨rfl, rfl⟩ := hq5
        refine lv_istore (lv' := [(4, .int (fX0_bit (u.1 p0.toNatClampNeg) p2)), (0, .ref (ah_ A)), (1, .int p0), (2, .int p1), (3, .int p2)]) hx hb dX2_set_34 hl (by decide) rfl (fun ls hl => ?_)
        refine lv_aload_n hx hb dX2_set_36 rfl (lv_at hl 1 rfl) ?_
        refine va_get (D := (dC, dI)) (ci := 2) (v := .ref (aq_ A)) (C := RX2) (T := TX2) (N := 2) hx hb hw igX2 hown hK hP 0 rfl rfl 0 (by decide) (hw _ tw_41) (fun _ h9 => h9) rfl dX2_set_37 ?_
        refine lv_iload_n hx hb dX2_set_40 rfl (lv_at hl 2 rfl) ?_
        refine va_aldq hx hb hK hP 1 0 rfl rfl (row_in c1) dX2_set_41 ?_
        rw [rwF_at A hj_p0]
        refine lv_iload_n hx hb dX2_set_42 rfl (lv_at hl 3 rfl) ?_
        refine lv_iload_n hx hb dX2_set_43 rfl (lv_at hl 4 rfl) ?_
        refine lv_iload_n hx hb dX2_set_44 rfl (lv_at hl 4 rfl) ?_
        refine lv_iconst (v := 1) hx hb dX2_set_45 (by decide) ?_
        refine lv_iadd hx hb dX2_set_46 ?_
        refine gVv (As := [.int p1, .int p2, .int (p2 + 1)]) (rest := []) ⟨hx, hb, hml, hown, hts⟩ (c_X0_change l dC dI A u hj_p0 p1 p2 (p2 + 1)) (cwV 3 hts (gi_V hbc tw_69 tw_70 tw_71 tw_2 tw_72) rfl rfl rfl (by decide +kernel) ⟨Nat.le_of_ble_eq_true rfl, Nat.le_of_ble_eq_true rfl⟩) (va_recv hK hP (ci := 0) (q0 := (4 + p0.toNatClampNeg)) rfl (wB_row A u hj_p0)) aB_mono aB_D hP hK hD hS rfl hl.1 rfl (Nat.le_of_ble_eq_true rfl) dX2_set_47 ⟨Nat.le_of_ble_eq_true rfl, Nat.le_of_ble_eq_true rfl⟩ (fun v9 H locs hq8 hP hD hS => ?_)
        obtain rfl := hq8
        refine lv_iload hx hb dX2_set_50 (lv_at hl 0 rfl) ?_
        exact W.iret hx hb hr (fun t9 ht9 hW => ⟨⟨_, (upM u.1 p0.toNatClampNeg (fl (chW (u.1 p0.toNatClampNeg) p1 p2 (p2 + 1)) (u.1 p0.toNatClampNeg) 63), u.2), rfl, Or.inl ⟨⟨c1, c2, c3⟩, ⟨rfl, rfl⟩⟩, by rw [ht9]; exact hP, va_K.moved hW.alike hK, hD⟩, hS.F ht9⟩) hS.2.2 dX2_set_52
      · refine lv_bipush (v := -2) hx hb dX2_set_21 (by decide) ?_
        exact W.iret hx hb hr (fun t9 ht9 hW => ⟨⟨_, u, rfl, Or.inr ⟨fun h => h.2.2 c3, rfl, rfl⟩, by rw [ht9]; exact hP, va_K.moved hW.alike hK, hD⟩, hS.F ht9⟩) hS.2.2 dX2_set_23
set_option maxHeartbeats 4000000 in
set_option maxRecDepth 100000 in
theorem c_X2_piece (l : Launch) (dC : Nat → ClassId) (dI : Nat → Nat → Nat) (A : AdB) (u : StB) (p0 : Int32) (p1 : Int32) (p2 : Int32) (p3 : Int32) : gMi l yX2_piece wX2_piece ({ frames := 2, cells := 0, slots := 0, locals := 50 }) (dC, dI) bwCl (tyB A) (wB A) (aB A) [.ref (ah_ A), .int p0, .int p1, .int p2, .int p3] u (fun r v => ((¬ (fX2_isRow p0) = 0 ∧ ¬ (fX2_isChange p1) = 0 ∧ ¬ (fX2_isPiece p2 p3) = 0) ∧ (r = fX0_ones (((upM u.1 p0.toNatClampNeg (fl (chW (u.1 p0.toNatClampNeg) p1 p2 p3) (u.1 p0.toNatClampNeg) 63), u.2) : StB).1 p0.toNatClampNeg) ∧ ((upM u.1 p0.toNatClampNeg (fl (chW (u.1 p0.toNatClampNeg) p1 p2 p3) (u.1 p0.toNatClampNeg) 63), u.2) : StB) = v)) ∨ (¬ (¬ (fX2_isRow p0) = 0 ∧ ¬ (fX2_isChange p1) = 0 ∧ ¬ (fX2_isPiece p2 p3) = 0) ∧ r = -2 ∧ u = v)) := by
  unfold gMi
  intro sz
  refine Met.ofW (cc := cX2_piece) (maxL := 5) (ret := (some .int)) (by decide) rfl ?_
  intro p e s m args below meth c s₁ B hml hv
  obtain ⟨rfl, hsz, hP, hK, hD⟩ := hv
  subst hsz
  have hS : va_S (aB A s.heap.size) s.heap s.heap [] := va_S.rf
  have hx := B.exec
  have hb := B.bytes
  have hr := B.returns
  have hts := atoms_spec (ws := wX2_piece) B.pre
  have hw : ∀ w ∈ tg_, w.before _ s = true := fun w h => hts w (List.mem_cons_of_mem _ h)
  have hown : s.vm.findClass RX2 = some m.cls := findClass_of_methodNamed B.named
  have hlocks := B.notSynchronized
  have hl := lv_entry ([.ref (ah_ A), .int p0, .int p1, .int p2, .int p3]) (n := 5) (Nat.le_of_ble_eq_true rfl)
  rw [lg_entry_eq]
  generalize (lg_sl ([.ref (ah_ A), .int p0, .int p1, .int p2, .int p3]) ++ List.replicate (5 - (lg_sl ([.ref (ah_ A), .int p0, .int p1, .int p2, .int p3])).length) Slot.unset).toArray = ls at hl ⊢
  have hl : lv_has ls 5 [(0, .ref (ah_ A)), (1, .int p0), (2, .int p1), (3, .int p2), (4, .int p3)] := hl
  refine lv_iload_n hx hb dX2_piece_0 rfl (lv_at hl 1 rfl) ?_
  refine vp_callSi (W.runS (As := [.int p0]) (rest := []) ⟨hx, hb, hml, hown, hts⟩ (c_X2_isRow l p0) (va_cwS 1 hts (gi_S hbc tw_52 tw_53 tw_1 tw_54) rfl rfl rfl (by decide +kernel) ⟨Nat.le_of_ble_eq_true rfl, Nat.le_of_ble_eq_true rfl⟩) preEq rfl rfl hl.1 rfl (lv_room (Nat.le_of_ble_eq_true rfl)) dX2_piece_1 ⟨Nat.le_of_ble_eq_true rfl, Nat.le_of_ble_eq_true rfl⟩) (fun r hq => ?_)
  subst hq
  refine lv_if_eq (tgt := 23) hx hb dX2_piece_4 (by decide) (fun c1 => ?_) (fun c1 => ?_)
  · refine lv_bipush (v := -2) hx hb dX2_piece_23 (by decide) ?_
    exact W.iret hx hb hr (fun t9 ht9 hW => ⟨⟨_, u, rfl, Or.inr ⟨fun h => h.1 c1, rfl, rfl⟩, by rw [ht9]; exact hP, va_K.moved hW.alike hK, hD⟩, hS.F ht9⟩) hS.2.2 dX2_piece_25
  · have hj_p0 := row_lt c1
    refine lv_iload_n hx hb dX2_piece_7 rfl (lv_at hl 2 rfl) ?_
    refine vp_callSi (W.runS (As := [.int p1]) (rest := []) ⟨hx, hb, hml, hown, hts⟩ (c_X2_isChange l p1) (va_cwS 1 hts (gi_S hbc tw_55 tw_56 tw_1 tw_57) rfl rfl rfl (by decide +kernel) ⟨Nat.le_of_ble_eq_true rfl, Nat.le_of_ble_eq_true rfl⟩) preEq rfl rfl hl.1 rfl (lv_room (Nat.le_of_ble_eq_true rfl)) dX2_piece_8 ⟨Nat.le_of_ble_eq_true rfl, Nat.le_of_ble_eq_true rfl⟩) (fun r hq => ?_)
    subst hq
    refine lv_if_eq (tgt := 23) hx hb dX2_piece_11 (by decide) (fun c2 => ?_) (fun c2 => ?_)
    · refine lv_bipush (v := -2) hx hb dX2_piece_23 (by decide) ?_
      exact W.iret hx hb hr (fun t9 ht9 hW => ⟨⟨_, u, rfl, Or.inr ⟨fun h => h.2.1 c2, rfl, rfl⟩, by rw [ht9]; exact hP, va_K.moved hW.alike hK, hD⟩, hS.F ht9⟩) hS.2.2 dX2_piece_25
    · refine lv_iload_n hx hb dX2_piece_14 rfl (lv_at hl 3 rfl) ?_
      refine lv_iload hx hb dX2_piece_15 (lv_at hl 4 rfl) ?_
      refine vp_callSi (W.runS (As := [.int p2, .int p3]) (rest := []) ⟨hx, hb, hml, hown, hts⟩ (c_X2_isPiece l p2 p3) (va_cwS 2 hts (gi_S hbc tw_84 tw_85 tw_1 tw_86) rfl rfl rfl (by decide +kernel) ⟨Nat.le_of_ble_eq_true rfl, Nat.le_of_ble_eq_true rfl⟩) preEq rfl rfl hl.1 rfl (lv_room (Nat.le_of_ble_eq_true rfl)) dX2_piece_17 ⟨Nat.le_of_ble_eq_true rfl, Nat.le_of_ble_eq_true rfl⟩) (fun r hq => ?_)
      subst hq
      refine lv_if_ne (tgt := 26) hx hb dX2_piece_20 (by decide) (fun c3 => ?_) (fun c3 => ?_)
      · refine lv_aload_n hx hb dX2_piece_26 rfl (lv_at hl 0 rfl) ?_
        refine va_get (D := (dC, dI)) (ci := 2) (v := .ref (aq_ A)) (C := RX2) (T := TX2) (N := 2) hx hb hw igX2 hown hK hP 0 rfl rfl 0 (by decide) (hw _ tw_41) (fun _ h9 => h9) rfl dX2_piece_27 ?_
        refine lv_iload_n hx hb dX2_piece_30 rfl (lv_at hl 1 rfl) ?_
        refine va_aldq hx hb hK hP 1 0 rfl rfl (row_in c1) dX2_piece_31 ?_
        rw [rwF_at A hj_p0]
        refine lv_iload_n hx hb dX2_piece_32 rfl (lv_at hl 2 rfl) ?_
        refine lv_iload_n hx hb dX2_piece_33 rfl (lv_at hl 3 rfl) ?_
        refine lv_iload hx hb dX2_piece_34 (lv_at hl 4 rfl) ?_
        refine gVv (As := [.int p1, .int p2, .int p3]) (rest := []) ⟨hx, hb, hml, hown, hts⟩ (c_X0_change l dC dI A u hj_p0 p1 p2 p3) (cwV 3 hts (gi_V hbc tw_69 tw_70 tw_71 tw_2 tw_72) rfl rfl rfl (by decide +kernel) ⟨Nat.le_of_ble_eq_true rfl, Nat.le_of_ble_eq_true rfl⟩) (va_recv hK hP (ci := 0) (q0 := (4 + p0.toNatClampNeg)) rfl (wB_row A u hj_p0)) aB_mono aB_D hP hK hD hS rfl hl.1 rfl (Nat.le_of_ble_eq_true rfl) dX2_piece_36 ⟨Nat.le_of_ble_eq_true rfl, Nat.le_of_ble_eq_true rfl⟩ (fun v6 H locs hq5 hP hD hS => ?_)
        obtain rfl := hq5
        refine lv_aload_n hx hb dX2_piece_39 rfl (lv_at hl 0 rfl) ?_
        refine va_get (D := (dC, dI)) (ci := 2) (v := .ref (aq_ A)) (C := RX2) (T := TX2) (N := 2) hx hb hw igX2 hown hK hP 0 rfl rfl 0 (by decide) (hw _ tw_41) (fun _ h9 => h9) rfl dX2_piece_40 ?_
        refine lv_iload_n hx hb dX2_piece_43 rfl (lv_at hl 1 rfl) ?_
        refine va_aldq hx hb hK hP 1 0 rfl rfl (row_in c1) dX2_piece_44 ?_
        rw [rwF_at A hj_p0]
        refine gVi (As := []) (rest := []) ⟨hx, hb, hml, hown, hts⟩ (c_X0_ones l dC dI A (upM u.1 p0.toNatClampNeg (fl (chW (u.1 p0.toNatClampNeg) p1 p2 p3) (u.1 p0.toNatClampNeg) 63), u.2) hj_p0) (cwV 0 hts (gi_V hbc tw_87 tw_88 tw_89 tw_2 tw_90) rfl rfl rfl (by decide +kernel) ⟨Nat.le_of_ble_eq_true rfl, Nat.le_of_ble_eq_true rfl⟩) (va_recv hK hP (ci := 0) (q0 := (4 + p0.toNatClampNeg)) rfl (wB_row A (upM u.1 p0.toNatClampNeg (fl (chW (u.1 p0.toNatClampNeg) p1 p2 p3) (u.1 p0.toNatClampNeg) 63), u.2) hj_p0)) aB_mono aB_D hP hK hD hS rfl hl.1 rfl (Nat.le_of_ble_eq_true rfl) dX2_piece_45 ⟨Nat.le_of_ble_eq_true rfl, Nat.le_of_ble_eq_true rfl⟩ (fun r7 v9 H locs hq8 hP hD hS => ?_)
        obtain ⟨rfl, rfl⟩ := hq8
        exact W.iret hx hb hr (fun t9 ht9 hW => ⟨⟨_, (upM u.1 p0.toNatClampNeg (fl (chW (u.1 p0.toNatClampNeg) p1 p2 p3) (u.1 p0.toNatClampNeg) 63), u.2), rfl, Or.inl ⟨⟨c1, c2, c3⟩, ⟨rfl, rfl⟩⟩, by rw [ht9]; exact hP, va_K.moved hW.alike hK, hD⟩, hS.F ht9⟩) hS.2.2 dX2_piece_48
      · refine lv_bipush (v := -2) hx hb dX2_piece_23 (by decide) ?_
        exact W.iret hx hb hr (fun t9 ht9 hW => ⟨⟨_, u, rfl, Or.inr ⟨fun h => h.2.2 c3, rfl, rfl⟩, by rw [ht9]; exact hP, va_K.moved hW.alike hK, hD⟩, hS.F ht9⟩) hS.2.2 dX2_piece_25
set_option maxHeartbeats 4000000 in
set_option maxRecDepth 100000 in
theorem c_X2_get (l : Launch) (dC : Nat → ClassId) (dI : Nat → Nat → Nat) (A : AdB) (u : StB) (p0 : Int32) (p1 : Int32) : gMi l yX2_get wX2_get ({ frames := 2, cells := 0, slots := 0, locals := 42 }) (dC, dI) bwCl (tyB A) (wB A) (aB A) [.ref (ah_ A), .int p0, .int p1] u (fun r v => ((¬ (fX2_isRow p0) = 0 ∧ ¬ (fX2_isPlace p1) = 0) ∧ (r = fX0_bit (u.1 p0.toNatClampNeg) p1 ∧ u = v)) ∨ (¬ (¬ (fX2_isRow p0) = 0 ∧ ¬ (fX2_isPlace p1) = 0) ∧ r = -2 ∧ u = v)) := by
  unfold gMi
  intro sz
  refine Met.ofW (cc := cX2_get) (maxL := 3) (ret := (some .int)) (by decide) rfl ?_
  intro p e s m args below meth c s₁ B hml hv
  obtain ⟨rfl, hsz, hP, hK, hD⟩ := hv
  subst hsz
  have hS : va_S (aB A s.heap.size) s.heap s.heap [] := va_S.rf
  have hx := B.exec
  have hb := B.bytes
  have hr := B.returns
  have hts := atoms_spec (ws := wX2_get) B.pre
  have hw : ∀ w ∈ tg_, w.before _ s = true := fun w h => hts w (List.mem_cons_of_mem _ h)
  have hown : s.vm.findClass RX2 = some m.cls := findClass_of_methodNamed B.named
  have hlocks := B.notSynchronized
  have hl := lv_entry ([.ref (ah_ A), .int p0, .int p1]) (n := 3) (Nat.le_of_ble_eq_true rfl)
  rw [lg_entry_eq]
  generalize (lg_sl ([.ref (ah_ A), .int p0, .int p1]) ++ List.replicate (3 - (lg_sl ([.ref (ah_ A), .int p0, .int p1])).length) Slot.unset).toArray = ls at hl ⊢
  have hl : lv_has ls 3 [(0, .ref (ah_ A)), (1, .int p0), (2, .int p1)] := hl
  refine lv_iload_n hx hb dX2_get_0 rfl (lv_at hl 1 rfl) ?_
  refine vp_callSi (W.runS (As := [.int p0]) (rest := []) ⟨hx, hb, hml, hown, hts⟩ (c_X2_isRow l p0) (va_cwS 1 hts (gi_S hbc tw_52 tw_53 tw_1 tw_54) rfl rfl rfl (by decide +kernel) ⟨Nat.le_of_ble_eq_true rfl, Nat.le_of_ble_eq_true rfl⟩) preEq rfl rfl hl.1 rfl (lv_room (Nat.le_of_ble_eq_true rfl)) dX2_get_1 ⟨Nat.le_of_ble_eq_true rfl, Nat.le_of_ble_eq_true rfl⟩) (fun r hq => ?_)
  subst hq
  refine lv_if_eq (tgt := 14) hx hb dX2_get_4 (by decide) (fun c1 => ?_) (fun c1 => ?_)
  · refine lv_bipush (v := -2) hx hb dX2_get_14 (by decide) ?_
    exact W.iret hx hb hr (fun t9 ht9 hW => ⟨⟨_, u, rfl, Or.inr ⟨fun h => h.1 c1, rfl, rfl⟩, by rw [ht9]; exact hP, va_K.moved hW.alike hK, hD⟩, hS.F ht9⟩) hS.2.2 dX2_get_16
  · have hj_p0 := row_lt c1
    refine lv_iload_n hx hb dX2_get_7 rfl (lv_at hl 2 rfl) ?_
    refine vp_callSi (W.runS (As := [.int p1]) (rest := []) ⟨hx, hb, hml, hown, hts⟩ (c_X2_isPlace l p1) (va_cwS 1 hts (gi_S hbc tw_58 tw_59 tw_1 tw_60) rfl rfl rfl (by decide +kernel) ⟨Nat.le_of_ble_eq_true rfl, Nat.le_of_ble_eq_true rfl⟩) preEq rfl rfl hl.1 rfl (lv_room (Nat.le_of_ble_eq_true rfl)) dX2_get_8 ⟨Nat.le_of_ble_eq_true rfl, Nat.le_of_ble_eq_true rfl⟩) (fun r hq => ?_)
    subst hq
    refine lv_if_ne (tgt := 17) hx hb dX2_get_11 (by decide) (fun c2 => ?_) (fun c2 => ?_)
    · refine lv_aload_n hx hb dX2_get_17 rfl (lv_at hl 0 rfl) ?_
      refine va_get (D := (dC, dI)) (ci := 2) (v := .ref (aq_ A)) (C := RX2) (T := TX2) (N := 2) hx hb hw igX2 hown hK hP 0 rfl rfl 0 (by decide) (hw _ tw_41) (fun _ h9 => h9) rfl dX2_get_18 ?_
      refine lv_iload_n hx hb dX2_get_21 rfl (lv_at hl 1 rfl) ?_
      refine va_aldq hx hb hK hP 1 0 rfl rfl (row_in c1) dX2_get_22 ?_
      rw [rwF_at A hj_p0]
      refine lv_iload_n hx hb dX2_get_23 rfl (lv_at hl 2 rfl) ?_
      refine gVi (As := [.int p1]) (rest := []) ⟨hx, hb, hml, hown, hts⟩ (c_X0_bit l dC dI A u hj_p0 p1) (cwV 1 hts (gi_V hbc tw_61 tw_62 tw_63 tw_2 tw_64) rfl rfl rfl (by decide +kernel) ⟨Nat.le_of_ble_eq_true rfl, Nat.le_of_ble_eq_true rfl⟩) (va_recv hK hP (ci := 0) (q0 := (4 + p0.toNatClampNeg)) rfl (wB_row A u hj_p0)) aB_mono aB_D hP hK hD hS rfl hl.1 rfl (Nat.le_of_ble_eq_true rfl) dX2_get_24 ⟨Nat.le_of_ble_eq_true rfl, Nat.le_of_ble_eq_true rfl⟩ (fun r3 v5 H locs hq4 hP hD hS => ?_)
      obtain ⟨rfl, rfl⟩ := hq4
      exact W.iret hx hb hr (fun t9 ht9 hW => ⟨⟨_, u, rfl, Or.inl ⟨⟨c1, c2⟩, ⟨rfl, rfl⟩⟩, by rw [ht9]; exact hP, va_K.moved hW.alike hK, hD⟩, hS.F ht9⟩) hS.2.2 dX2_get_27
    · refine lv_bipush (v := -2) hx hb dX2_get_14 (by decide) ?_
      exact W.iret hx hb hr (fun t9 ht9 hW => ⟨⟨_, u, rfl, Or.inr ⟨fun h => h.2 c2, rfl, rfl⟩, by rw [ht9]; exact hP, va_K.moved hW.alike hK, hD⟩, hS.F ht9⟩) hS.2.2 dX2_get_16
set_option maxHeartbeats 4000000 in
set_option maxRecDepth 100000 in
theorem c_X2_next (l : Launch) (dC : Nat → ClassId) (dI : Nat → Nat → Nat) (A : AdB) (u : StB) (p0 : Int32) (p1 : Int32) (p2 : Int32) : gMi l yX2_next wX2_next ({ frames := 3, cells := 0, slots := 0, locals := 69 }) (dC, dI) bwCl (tyB A) (wB A) (aB A) [.ref (ah_ A), .int p0, .int p1, .int p2] u (fun r v => ((¬ (fX2_isRow p0) = 0 ∧ ¬ (fX2_isPlace p2) = 0) ∧ ((p1 = 0 ∧ pFF (u.1 p0.toNatClampNeg) p2 0 r) ∨ (p1 = 1 ∧ pFF (u.1 p0.toNatClampNeg) p2 (-1) r) ∨ (p1 = 2 ∧ pLU (u.1 p0.toNatClampNeg) p2 0 r) ∨ (p1 = 3 ∧ pLU (u.1 p0.toNatClampNeg) p2 (-1) r) ∨ ((¬ p1 = 0 ∧ ¬ p1 = 1 ∧ ¬ p1 = 2 ∧ ¬ p1 = 3) ∧ r = -2)) ∧ u = v) ∨ (¬ (¬ (fX2_isRow p0) = 0 ∧ ¬ (fX2_isPlace p2) = 0) ∧ r = -2 ∧ u = v)) := by
  unfold gMi
  intro sz
  refine Met.ofW (cc := cX2_next) (maxL := 4) (ret := (some .int)) (by decide) rfl ?_
  intro p e s m args below meth c s₁ B hml hv
  obtain ⟨rfl, hsz, hP, hK, hD⟩ := hv
  subst hsz
  have hS : va_S (aB A s.heap.size) s.heap s.heap [] := va_S.rf
  have hx := B.exec
  have hb := B.bytes
  have hr := B.returns
  have hts := atoms_spec (ws := wX2_next) B.pre
  have hw : ∀ w ∈ tg_, w.before _ s = true := fun w h => hts w (List.mem_cons_of_mem _ h)
  have hown : s.vm.findClass RX2 = some m.cls := findClass_of_methodNamed B.named
  have hlocks := B.notSynchronized
  have hl := lv_entry ([.ref (ah_ A), .int p0, .int p1, .int p2]) (n := 4) (Nat.le_of_ble_eq_true rfl)
  rw [lg_entry_eq]
  generalize (lg_sl ([.ref (ah_ A), .int p0, .int p1, .int p2]) ++ List.replicate (4 - (lg_sl ([.ref (ah_ A), .int p0, .int p1, .int p2])).length) Slot.unset).toArray = ls at hl ⊢
  have hl : lv_has ls 4 [(0, .ref (ah_ A)), (1, .int p0), (2, .int p1), (3, .int p2)] := hl
  refine lv_iload_n hx hb dX2_next_0 rfl (lv_at hl 1 rfl) ?_
  refine vp_callSi (W.runS (As := [.int p0]) (rest := []) ⟨hx, hb, hml, hown, hts⟩ (c_X2_isRow l p0) (va_cwS 1 hts (gi_S hbc tw_52 tw_53 tw_1 tw_54) rfl rfl rfl (by decide +kernel) ⟨Nat.le_of_ble_eq_true rfl, Nat.le_of_ble_eq_true rfl⟩) preEq rfl rfl hl.1 rfl (lv_room (Nat.le_of_ble_eq_true rfl)) dX2_next_1 ⟨Nat.le_of_ble_eq_true rfl, Nat.le_of_ble_eq_true rfl⟩) (fun r hq => ?_)
  subst hq
  refine lv_if_eq (tgt := 14) hx hb dX2_next_4 (by decide) (fun c1 => ?_) (fun c1 => ?_)
  · refine lv_bipush (v := -2) hx hb dX2_next_14 (by decide) ?_
    exact W.iret hx hb hr (fun t9 ht9 hW => ⟨⟨_, u, rfl, Or.inr ⟨fun h => h.1 c1, rfl, rfl⟩, by rw [ht9]; exact hP, va_K.moved hW.alike hK, hD⟩, hS.F ht9⟩) hS.2.2 dX2_next_16
  · have hj_p0 := row_lt c1
    refine lv_iload_n hx hb dX2_next_7 rfl (lv_at hl 3 rfl) ?_
    refine vp_callSi (W.runS (As := [.int p2]) (rest := []) ⟨hx, hb, hml, hown, hts⟩ (c_X2_isPlace l p2) (va_cwS 1 hts (gi_S hbc tw_58 tw_59 tw_1 tw_60) rfl rfl rfl (by decide +kernel) ⟨Nat.le_of_ble_eq_true rfl, Nat.le_of_ble_eq_true rfl⟩) preEq rfl rfl hl.1 rfl (lv_room (Nat.le_of_ble_eq_true rfl)) dX2_next_8 ⟨Nat.le_of_ble_eq_true rfl, Nat.le_of_ble_eq_true rfl⟩) (fun r hq => ?_)
    subst hq
    refine lv_if_ne (tgt := 17) hx hb dX2_next_11 (by decide) (fun c2 => ?_) (fun c2 => ?_)
    · refine lv_iload_n hx hb dX2_next_17 rfl (lv_at hl 2 rfl) ?_
      by_cases c3 : p1 = 0
      · refine lv_tableIn (off := 30) (tgt := 48) hx hb dX2_next_18 (by rw [c3]; decide) (by rw [c3]; decide) (by rw [c3]; decide) (by decide) ?_
        refine lv_aload_n hx hb dX2_next_48 rfl (lv_at hl 0 rfl) ?_
        refine va_get (D := (dC, dI)) (ci := 2) (v := .ref (aq_ A)) (C := RX2) (T := TX2) (N := 2) hx hb hw igX2 hown hK hP 0 rfl rfl 0 (by decide) (hw _ tw_41) (fun _ h9 => h9) rfl dX2_next_49 ?_
        refine lv_iload_n hx hb dX2_next_52 rfl (lv_at hl 1 rfl) ?_
        refine va_aldq hx hb hK hP 1 0 rfl rfl (row_in c1) dX2_next_53 ?_
        rw [rwF_at A hj_p0]
        refine lv_iload_n hx hb dX2_next_54 rfl (lv_at hl 3 rfl) ?_
        refine lv_lconst (v := 0) hx hb dX2_next_55 (by decide) ?_
        refine gVi (As := [.int p2, .long 0]) (rest := []) ⟨hx, hb, hml, hown, hts⟩ (c_X0_firstFrom l dC dI A u hj_p0 p2 0) (cwV 2 hts (gi_V hbc tw_105 tw_106 tw_107 tw_2 tw_108) rfl rfl rfl (by decide +kernel) ⟨Nat.le_of_ble_eq_true rfl, Nat.le_of_ble_eq_true rfl⟩) (va_recv hK hP (ci := 0) (q0 := (4 + p0.toNatClampNeg)) rfl (wB_row A u hj_p0)) aB_mono aB_D hP hK hD hS rfl hl.1 rfl (Nat.le_of_ble_eq_true rfl) dX2_next_56 ⟨Nat.le_of_ble_eq_true rfl, Nat.le_of_ble_eq_true rfl⟩ (fun r4 v6 H locs hq5 hP hD hS => ?_)
        obtain ⟨hq5, rfl⟩ := hq5
        exact W.iret hx hb hr (fun t9 ht9 hW => ⟨⟨_, u, rfl, Or.inl ⟨⟨c1, c2⟩, ⟨Or.inl ⟨c3, hq5⟩, rfl⟩⟩, by rw [ht9]; exact hP, va_K.moved hW.alike hK, hD⟩, hS.F ht9⟩) hS.2.2 dX2_next_59
      by_cases c7 : p1 = 1
      · refine lv_tableIn (off := 42) (tgt := 60) hx hb dX2_next_18 (by rw [c7]; decide) (by rw [c7]; decide) (by rw [c7]; decide) (by decide) ?_
        refine lv_aload_n hx hb dX2_next_60 rfl (lv_at hl 0 rfl) ?_
        refine va_get (D := (dC, dI)) (ci := 2) (v := .ref (aq_ A)) (C := RX2) (T := TX2) (N := 2) hx hb hw igX2 hown hK hP 0 rfl rfl 0 (by decide) (hw _ tw_41) (fun _ h9 => h9) rfl dX2_next_61 ?_
        refine lv_iload_n hx hb dX2_next_64 rfl (lv_at hl 1 rfl) ?_
        refine va_aldq hx hb hK hP 1 0 rfl rfl (row_in c1) dX2_next_65 ?_
        rw [rwF_at A hj_p0]
        refine lv_iload_n hx hb dX2_next_66 rfl (lv_at hl 3 rfl) ?_
        refine lv_ldc2 (v := (-1)) hx hb hown (hw _ tw_116) dX2_next_67 ?_
        refine gVi (As := [.int p2, .long (-1)]) (rest := []) ⟨hx, hb, hml, hown, hts⟩ (c_X0_firstFrom l dC dI A u hj_p0 p2 (-1)) (cwV 2 hts (gi_V hbc tw_105 tw_106 tw_107 tw_2 tw_108) rfl rfl rfl (by decide +kernel) ⟨Nat.le_of_ble_eq_true rfl, Nat.le_of_ble_eq_true rfl⟩) (va_recv hK hP (ci := 0) (q0 := (4 + p0.toNatClampNeg)) rfl (wB_row A u hj_p0)) aB_mono aB_D hP hK hD hS rfl hl.1 rfl (Nat.le_of_ble_eq_true rfl) dX2_next_70 ⟨Nat.le_of_ble_eq_true rfl, Nat.le_of_ble_eq_true rfl⟩ (fun r8 v10 H locs hq9 hP hD hS => ?_)
        obtain ⟨hq9, rfl⟩ := hq9
        exact W.iret hx hb hr (fun t9 ht9 hW => ⟨⟨_, u, rfl, Or.inl ⟨⟨c1, c2⟩, ⟨Or.inr (Or.inl ⟨c7, hq9⟩), rfl⟩⟩, by rw [ht9]; exact hP, va_K.moved hW.alike hK, hD⟩, hS.F ht9⟩) hS.2.2 dX2_next_73
      by_cases c11 : p1 = 2
      · refine lv_tableIn (off := 56) (tgt := 74) hx hb dX2_next_18 (by rw [c11]; decide) (by rw [c11]; decide) (by rw [c11]; decide) (by decide) ?_
        refine lv_aload_n hx hb dX2_next_74 rfl (lv_at hl 0 rfl) ?_
        refine va_get (D := (dC, dI)) (ci := 2) (v := .ref (aq_ A)) (C := RX2) (T := TX2) (N := 2) hx hb hw igX2 hown hK hP 0 rfl rfl 0 (by decide) (hw _ tw_41) (fun _ h9 => h9) rfl dX2_next_75 ?_
        refine lv_iload_n hx hb dX2_next_78 rfl (lv_at hl 1 rfl) ?_
        refine va_aldq hx hb hK hP 1 0 rfl rfl (row_in c1) dX2_next_79 ?_
        rw [rwF_at A hj_p0]
        refine lv_iload_n hx hb dX2_next_80 rfl (lv_at hl 3 rfl) ?_
        refine lv_lconst (v := 0) hx hb dX2_next_81 (by decide) ?_
        refine gVi (As := [.int p2, .long 0]) (rest := []) ⟨hx, hb, hml, hown, hts⟩ (c_X0_lastUpTo l dC dI A u hj_p0 p2 0) (cwV 2 hts (gi_V hbc tw_117 tw_118 tw_119 tw_2 tw_120) rfl rfl rfl (by decide +kernel) ⟨Nat.le_of_ble_eq_true rfl, Nat.le_of_ble_eq_true rfl⟩) (va_recv hK hP (ci := 0) (q0 := (4 + p0.toNatClampNeg)) rfl (wB_row A u hj_p0)) aB_mono aB_D hP hK hD hS rfl hl.1 rfl (Nat.le_of_ble_eq_true rfl) dX2_next_82 ⟨Nat.le_of_ble_eq_true rfl, Nat.le_of_ble_eq_true rfl⟩ (fun r12 v14 H locs hq13 hP hD hS => ?_)
        obtain ⟨hq13, rfl⟩ := hq13
        exact W.iret hx hb hr (fun t9 ht9 hW => ⟨⟨_, u, rfl, Or.inl ⟨⟨c1, c2⟩, ⟨Or.inr (Or.inr (Or.inl ⟨c11, hq13⟩)), rfl⟩⟩, by rw [ht9]; exact hP, va_K.moved hW.alike hK, hD⟩, hS.F ht9⟩) hS.2.2 dX2_next_85
      by_cases c15 : p1 = 3
      · refine lv_tableIn (off := 68) (tgt := 86) hx hb dX2_next_18 (by rw [c15]; decide) (by rw [c15]; decide) (by rw [c15]; decide) (by decide) ?_
        refine lv_aload_n hx hb dX2_next_86 rfl (lv_at hl 0 rfl) ?_
        refine va_get (D := (dC, dI)) (ci := 2) (v := .ref (aq_ A)) (C := RX2) (T := TX2) (N := 2) hx hb hw igX2 hown hK hP 0 rfl rfl 0 (by decide) (hw _ tw_41) (fun _ h9 => h9) rfl dX2_next_87 ?_
        refine lv_iload_n hx hb dX2_next_90 rfl (lv_at hl 1 rfl) ?_
        refine va_aldq hx hb hK hP 1 0 rfl rfl (row_in c1) dX2_next_91 ?_
        rw [rwF_at A hj_p0]
        refine lv_iload_n hx hb dX2_next_92 rfl (lv_at hl 3 rfl) ?_
        refine lv_ldc2 (v := (-1)) hx hb hown (hw _ tw_116) dX2_next_93 ?_
        refine gVi (As := [.int p2, .long (-1)]) (rest := []) ⟨hx, hb, hml, hown, hts⟩ (c_X0_lastUpTo l dC dI A u hj_p0 p2 (-1)) (cwV 2 hts (gi_V hbc tw_117 tw_118 tw_119 tw_2 tw_120) rfl rfl rfl (by decide +kernel) ⟨Nat.le_of_ble_eq_true rfl, Nat.le_of_ble_eq_true rfl⟩) (va_recv hK hP (ci := 0) (q0 := (4 + p0.toNatClampNeg)) rfl (wB_row A u hj_p0)) aB_mono aB_D hP hK hD hS rfl hl.1 rfl (Nat.le_of_ble_eq_true rfl) dX2_next_96 ⟨Nat.le_of_ble_eq_true rfl, Nat.le_of_ble_eq_true rfl⟩ (fun r16 v18 H locs hq17 hP hD hS => ?_)
        obtain ⟨hq17, rfl⟩ := hq17
        exact W.iret hx hb hr (fun t9 ht9 hW => ⟨⟨_, u, rfl, Or.inl ⟨⟨c1, c2⟩, ⟨Or.inr (Or.inr (Or.inr (Or.inl ⟨c15, hq17⟩))), rfl⟩⟩, by rw [ht9]; exact hP, va_K.moved hW.alike hK, hD⟩, hS.F ht9⟩) hS.2.2 dX2_next_99
      refine lv_tableOut (tgt := 100) hx hb dX2_next_18 (sw_out4 c3 c7 c11 c15) (by decide) ?_
      refine lv_bipush (v := -2) hx hb dX2_next_100 (by decide) ?_
      exact W.iret hx hb hr (fun t9 ht9 hW => ⟨⟨_, u, rfl, Or.inl ⟨⟨c1, c2⟩, ⟨Or.inr (Or.inr (Or.inr (Or.inr (⟨⟨c3, c7, c11, c15⟩, rfl⟩)))), rfl⟩⟩, by rw [ht9]; exact hP, va_K.moved hW.alike hK, hD⟩, hS.F ht9⟩) hS.2.2 dX2_next_102
    · refine lv_bipush (v := -2) hx hb dX2_next_14 (by decide) ?_
      exact W.iret hx hb hr (fun t9 ht9 hW => ⟨⟨_, u, rfl, Or.inr ⟨fun h => h.2 c2, rfl, rfl⟩, by rw [ht9]; exact hP, va_K.moved hW.alike hK, hD⟩, hS.F ht9⟩) hS.2.2 dX2_next_16
set_option maxHeartbeats 4000000 in
set_option maxRecDepth 100000 in
theorem c_X2_join (l : Launch) (dC : Nat → ClassId) (dI : Nat → Nat → Nat) (A : AdB) (u : StB) (p0 : Int32) (p1 : Int32) (p2 : Int32) : gMi l yX2_join wX2_join ({ frames := 2, cells := 0, slots := 0, locals := 47 }) (dC, dI) bwCl (tyB A) (wB A) (aB A) [.ref (ah_ A), .int p0, .int p1, .int p2] u (fun r v => ((¬ (fX2_isRow p0) = 0 ∧ ¬ (fX2_isRow p2) = 0 ∧ ¬ p1 < 0 ∧ p1 ≤ 3) ∧ (r = fX0_ones (((upM u.1 p0.toNatClampNeg (fl (cbW (u.1 p0.toNatClampNeg) (u.1 p2.toNatClampNeg) p1) (u.1 p0.toNatClampNeg) 63), u.2) : StB).1 p0.toNatClampNeg) ∧ ((upM u.1 p0.toNatClampNeg (fl (cbW (u.1 p0.toNatClampNeg) (u.1 p2.toNatClampNeg) p1) (u.1 p0.toNatClampNeg) 63), u.2) : StB) = v)) ∨ (¬ (¬ (fX2_isRow p0) = 0 ∧ ¬ (fX2_isRow p2) = 0 ∧ ¬ p1 < 0 ∧ p1 ≤ 3) ∧ r = -2 ∧ u = v)) := by
  unfold gMi
  intro sz
  refine Met.ofW (cc := cX2_join) (maxL := 4) (ret := (some .int)) (by decide) rfl ?_
  intro p e s m args below meth c s₁ B hml hv
  obtain ⟨rfl, hsz, hP, hK, hD⟩ := hv
  subst hsz
  have hS : va_S (aB A s.heap.size) s.heap s.heap [] := va_S.rf
  have hx := B.exec
  have hb := B.bytes
  have hr := B.returns
  have hts := atoms_spec (ws := wX2_join) B.pre
  have hw : ∀ w ∈ tg_, w.before _ s = true := fun w h => hts w (List.mem_cons_of_mem _ h)
  have hown : s.vm.findClass RX2 = some m.cls := findClass_of_methodNamed B.named
  have hlocks := B.notSynchronized
  have hl := lv_entry ([.ref (ah_ A), .int p0, .int p1, .int p2]) (n := 4) (Nat.le_of_ble_eq_true rfl)
  rw [lg_entry_eq]
  generalize (lg_sl ([.ref (ah_ A), .int p0, .int p1, .int p2]) ++ List.replicate (4 - (lg_sl ([.ref (ah_ A), .int p0, .int p1, .int p2])).length) Slot.unset).toArray = ls at hl ⊢
  have hl : lv_has ls 4 [(0, .ref (ah_ A)), (1, .int p0), (2, .int p1), (3, .int p2)] := hl
  refine lv_iload_n hx hb dX2_join_0 rfl (lv_at hl 1 rfl) ?_
  refine vp_callSi (W.runS (As := [.int p0]) (rest := []) ⟨hx, hb, hml, hown, hts⟩ (c_X2_isRow l p0) (va_cwS 1 hts (gi_S hbc tw_52 tw_53 tw_1 tw_54) rfl rfl rfl (by decide +kernel) ⟨Nat.le_of_ble_eq_true rfl, Nat.le_of_ble_eq_true rfl⟩) preEq rfl rfl hl.1 rfl (lv_room (Nat.le_of_ble_eq_true rfl)) dX2_join_1 ⟨Nat.le_of_ble_eq_true rfl, Nat.le_of_ble_eq_true rfl⟩) (fun r hq => ?_)
  subst hq
  refine lv_if_eq (tgt := 23) hx hb dX2_join_4 (by decide) (fun c1 => ?_) (fun c1 => ?_)
  · refine lv_bipush (v := -2) hx hb dX2_join_23 (by decide) ?_
    exact W.iret hx hb hr (fun t9 ht9 hW => ⟨⟨_, u, rfl, Or.inr ⟨fun h => h.1 c1, rfl, rfl⟩, by rw [ht9]; exact hP, va_K.moved hW.alike hK, hD⟩, hS.F ht9⟩) hS.2.2 dX2_join_25
  · have hj_p0 := row_lt c1
    refine lv_iload_n hx hb dX2_join_7 rfl (lv_at hl 3 rfl) ?_
    refine vp_callSi (W.runS (As := [.int p2]) (rest := []) ⟨hx, hb, hml, hown, hts⟩ (c_X2_isRow l p2) (va_cwS 1 hts (gi_S hbc tw_52 tw_53 tw_1 tw_54) rfl rfl rfl (by decide +kernel) ⟨Nat.le_of_ble_eq_true rfl, Nat.le_of_ble_eq_true rfl⟩) preEq rfl rfl hl.1 rfl (lv_room (Nat.le_of_ble_eq_true rfl)) dX2_join_8 ⟨Nat.le_of_ble_eq_true rfl, Nat.le_of_ble_eq_true rfl⟩) (fun r hq => ?_)
    subst hq
    refine lv_if_eq (tgt := 23) hx hb dX2_join_11 (by decide) (fun c2 => ?_) (fun c2 => ?_)
    · refine lv_bipush (v := -2) hx hb dX2_join_23 (by decide) ?_
      exact W.iret hx hb hr (fun t9 ht9 hW => ⟨⟨_, u, rfl, Or.inr ⟨fun h => h.2.1 c2, rfl, rfl⟩, by rw [ht9]; exact hP, va_K.moved hW.alike hK, hD⟩, hS.F ht9⟩) hS.2.2 dX2_join_25
    · have hj_p2 := row_lt c2
      refine lv_iload_n hx hb dX2_join_14 rfl (lv_at hl 2 rfl) ?_
      refine lv_if_lt (tgt := 23) hx hb dX2_join_15 (by decide) (fun c3 => ?_) (fun c3 => ?_)
      · refine lv_bipush (v := -2) hx hb dX2_join_23 (by decide) ?_
        exact W.iret hx hb hr (fun t9 ht9 hW => ⟨⟨_, u, rfl, Or.inr ⟨fun h => h.2.2.1 c3, rfl, rfl⟩, by rw [ht9]; exact hP, va_K.moved hW.alike hK, hD⟩, hS.F ht9⟩) hS.2.2 dX2_join_25
      · refine lv_iload_n hx hb dX2_join_18 rfl (lv_at hl 2 rfl) ?_
        refine lv_iconst (v := 3) hx hb dX2_join_19 (by decide) ?_
        refine lv_icmp_le (tgt := 26) hx hb dX2_join_20 (by decide) (fun c4 => ?_) (fun c4 => ?_)
        · refine lv_aload_n hx hb dX2_join_26 rfl (lv_at hl 0 rfl) ?_
          refine va_get (D := (dC, dI)) (ci := 2) (v := .ref (aq_ A)) (C := RX2) (T := TX2) (N := 2) hx hb hw igX2 hown hK hP 0 rfl rfl 0 (by decide) (hw _ tw_41) (fun _ h9 => h9) rfl dX2_join_27 ?_
          refine lv_iload_n hx hb dX2_join_30 rfl (lv_at hl 1 rfl) ?_
          refine va_aldq hx hb hK hP 1 0 rfl rfl (row_in c1) dX2_join_31 ?_
          rw [rwF_at A hj_p0]
          refine lv_iload_n hx hb dX2_join_32 rfl (lv_at hl 2 rfl) ?_
          refine lv_aload_n hx hb dX2_join_33 rfl (lv_at hl 0 rfl) ?_
          refine va_get (D := (dC, dI)) (ci := 2) (v := .ref (aq_ A)) (C := RX2) (T := TX2) (N := 2) hx hb hw igX2 hown hK hP 0 rfl rfl 0 (by decide) (hw _ tw_41) (fun _ h9 => h9) rfl dX2_join_34 ?_
          refine lv_iload_n hx hb dX2_join_37 rfl (lv_at hl 3 rfl) ?_
          refine va_aldq hx hb hK hP 1 0 rfl rfl (row_in c2) dX2_join_38 ?_
          rw [rwF_at A hj_p2]
          refine gVv (As := [.int p1, .ref (ar_ A p2.toNatClampNeg)]) (rest := []) ⟨hx, hb, hml, hown, hts⟩ (c_X0_combine l dC dI A u hj_p0 hj_p2 p1) (cwV 2 hts (gi_V hbc tw_131 tw_132 tw_133 tw_2 tw_134) rfl rfl rfl (by decide +kernel) ⟨Nat.le_of_ble_eq_true rfl, Nat.le_of_ble_eq_true rfl⟩) (va_recv hK hP (ci := 0) (q0 := (4 + p0.toNatClampNeg)) rfl (wB_row A u hj_p0)) aB_mono aB_D hP hK hD hS rfl hl.1 rfl (Nat.le_of_ble_eq_true rfl) dX2_join_39 ⟨Nat.le_of_ble_eq_true rfl, Nat.le_of_ble_eq_true rfl⟩ (fun v7 H locs hq6 hP hD hS => ?_)
          obtain rfl := hq6
          refine lv_aload_n hx hb dX2_join_42 rfl (lv_at hl 0 rfl) ?_
          refine va_get (D := (dC, dI)) (ci := 2) (v := .ref (aq_ A)) (C := RX2) (T := TX2) (N := 2) hx hb hw igX2 hown hK hP 0 rfl rfl 0 (by decide) (hw _ tw_41) (fun _ h9 => h9) rfl dX2_join_43 ?_
          refine lv_iload_n hx hb dX2_join_46 rfl (lv_at hl 1 rfl) ?_
          refine va_aldq hx hb hK hP 1 0 rfl rfl (row_in c1) dX2_join_47 ?_
          rw [rwF_at A hj_p0]
          refine gVi (As := []) (rest := []) ⟨hx, hb, hml, hown, hts⟩ (c_X0_ones l dC dI A (upM u.1 p0.toNatClampNeg (fl (cbW (u.1 p0.toNatClampNeg) (u.1 p2.toNatClampNeg) p1) (u.1 p0.toNatClampNeg) 63), u.2) hj_p0) (cwV 0 hts (gi_V hbc tw_87 tw_88 tw_89 tw_2 tw_90) rfl rfl rfl (by decide +kernel) ⟨Nat.le_of_ble_eq_true rfl, Nat.le_of_ble_eq_true rfl⟩) (va_recv hK hP (ci := 0) (q0 := (4 + p0.toNatClampNeg)) rfl (wB_row A (upM u.1 p0.toNatClampNeg (fl (cbW (u.1 p0.toNatClampNeg) (u.1 p2.toNatClampNeg) p1) (u.1 p0.toNatClampNeg) 63), u.2) hj_p0)) aB_mono aB_D hP hK hD hS rfl hl.1 rfl (Nat.le_of_ble_eq_true rfl) dX2_join_48 ⟨Nat.le_of_ble_eq_true rfl, Nat.le_of_ble_eq_true rfl⟩ (fun r8 v10 H locs hq9 hP hD hS => ?_)
          obtain ⟨rfl, rfl⟩ := hq9
          exact W.iret hx hb hr (fun t9 ht9 hW => ⟨⟨_, (upM u.1 p0.toNatClampNeg (fl (cbW (u.1 p0.toNatClampNeg) (u.1 p2.toNatClampNeg) p1) (u.1 p0.toNatClampNeg) 63), u.2), rfl, Or.inl ⟨⟨c1, c2, c3, c4⟩, ⟨rfl, rfl⟩⟩, by rw [ht9]; exact hP, va_K.moved hW.alike hK, hD⟩, hS.F ht9⟩) hS.2.2 dX2_join_51
        · refine lv_bipush (v := -2) hx hb dX2_join_23 (by decide) ?_
          exact W.iret hx hb hr (fun t9 ht9 hW => ⟨⟨_, u, rfl, Or.inr ⟨fun h => c4 h.2.2.2, rfl, rfl⟩, by rw [ht9]; exact hP, va_K.moved hW.alike hK, hD⟩, hS.F ht9⟩) hS.2.2 dX2_join_25
set_option maxHeartbeats 4000000 in
set_option maxRecDepth 100000 in
theorem c_X2_cut (l : Launch) (dC : Nat → ClassId) (dI : Nat → Nat → Nat) (A : AdB) (u : StB) (p0 : Int32) (p1 : Int32) (p2 : Int32) (p3 : Int32) : gMi l yX2_cut wX2_cut ({ frames := 3, cells := 0, slots := 0, locals := 68 }) (dC, dI) bwCl (tyB A) (wB A) (aB A) [.ref (ah_ A), .int p0, .int p1, .int p2, .int p3] u (fun r v => ((¬ (fX2_isRow p0) = 0 ∧ ¬ (fX2_isRow p1) = 0 ∧ ¬ (fX2_isPiece p2 p3) = 0) ∧ (r = fX0_ones (((upM u.1 p0.toNatClampNeg (fl (tpW (u.1 p1.toNatClampNeg) p2 p3) (u.1 p0.toNatClampNeg) 63), u.2) : StB).1 p0.toNatClampNeg) ∧ ((upM u.1 p0.toNatClampNeg (fl (tpW (u.1 p1.toNatClampNeg) p2 p3) (u.1 p0.toNatClampNeg) 63), u.2) : StB) = v)) ∨ (¬ (¬ (fX2_isRow p0) = 0 ∧ ¬ (fX2_isRow p1) = 0 ∧ ¬ (fX2_isPiece p2 p3) = 0) ∧ r = -2 ∧ u = v)) := by
  unfold gMi
  intro sz
  refine Met.ofW (cc := cX2_cut) (maxL := 5) (ret := (some .int)) (by decide) rfl ?_
  intro p e s m args below meth c s₁ B hml hv
  obtain ⟨rfl, hsz, hP, hK, hD⟩ := hv
  subst hsz
  have hS : va_S (aB A s.heap.size) s.heap s.heap [] := va_S.rf
  have hx := B.exec
  have hb := B.bytes
  have hr := B.returns
  have hts := atoms_spec (ws := wX2_cut) B.pre
  have hw : ∀ w ∈ tg_, w.before _ s = true := fun w h => hts w (List.mem_cons_of_mem _ h)
  have hown : s.vm.findClass RX2 = some m.cls := findClass_of_methodNamed B.named
  have hlocks := B.notSynchronized
  have hl := lv_entry ([.ref (ah_ A), .int p0, .int p1, .int p2, .int p3]) (n := 5) (Nat.le_of_ble_eq_true rfl)
  rw [lg_entry_eq]
  generalize (lg_sl ([.ref (ah_ A), .int p0, .int p1, .int p2, .int p3]) ++ List.replicate (5 - (lg_sl ([.ref (ah_ A), .int p0, .int p1, .int p2, .int p3])).length) Slot.unset).toArray = ls at hl ⊢
  have hl : lv_has ls 5 [(0, .ref (ah_ A)), (1, .int p0), (2, .int p1), (3, .int p2), (4, .int p3)] := hl
  refine lv_iload_n hx hb dX2_cut_0 rfl (lv_at hl 1 rfl) ?_
  refine vp_callSi (W.runS (As := [.int p0]) (rest := []) ⟨hx, hb, hml, hown, hts⟩ (c_X2_isRow l p0) (va_cwS 1 hts (gi_S hbc tw_52 tw_53 tw_1 tw_54) rfl rfl rfl (by decide +kernel) ⟨Nat.le_of_ble_eq_true rfl, Nat.le_of_ble_eq_true rfl⟩) preEq rfl rfl hl.1 rfl (lv_room (Nat.le_of_ble_eq_true rfl)) dX2_cut_1 ⟨Nat.le_of_ble_eq_true rfl, Nat.le_of_ble_eq_true rfl⟩) (fun r hq => ?_)
  subst hq
  refine lv_if_eq (tgt := 23) hx hb dX2_cut_4 (by decide) (fun c1 => ?_) (fun c1 => ?_)
  · refine lv_bipush (v := -2) hx hb dX2_cut_23 (by decide) ?_
    exact W.iret hx hb hr (fun t9 ht9 hW => ⟨⟨_, u, rfl, Or.inr ⟨fun h => h.1 c1, rfl, rfl⟩, by rw [ht9]; exact hP, va_K.moved hW.alike hK, hD⟩, hS.F ht9⟩) hS.2.2 dX2_cut_25
  · have hj_p0 := row_lt c1
    refine lv_iload_n hx hb dX2_cut_7 rfl (lv_at hl 2 rfl) ?_
    refine vp_callSi (W.runS (As := [.int p1]) (rest := []) ⟨hx, hb, hml, hown, hts⟩ (c_X2_isRow l p1) (va_cwS 1 hts (gi_S hbc tw_52 tw_53 tw_1 tw_54) rfl rfl rfl (by decide +kernel) ⟨Nat.le_of_ble_eq_true rfl, Nat.le_of_ble_eq_true rfl⟩) preEq rfl rfl hl.1 rfl (lv_room (Nat.le_of_ble_eq_true rfl)) dX2_cut_8 ⟨Nat.le_of_ble_eq_true rfl, Nat.le_of_ble_eq_true rfl⟩) (fun r hq => ?_)
    subst hq
    refine lv_if_eq (tgt := 23) hx hb dX2_cut_11 (by decide) (fun c2 => ?_) (fun c2 => ?_)
    · refine lv_bipush (v := -2) hx hb dX2_cut_23 (by decide) ?_
      exact W.iret hx hb hr (fun t9 ht9 hW => ⟨⟨_, u, rfl, Or.inr ⟨fun h => h.2.1 c2, rfl, rfl⟩, by rw [ht9]; exact hP, va_K.moved hW.alike hK, hD⟩, hS.F ht9⟩) hS.2.2 dX2_cut_25
    · have hj_p1 := row_lt c2
      refine lv_iload_n hx hb dX2_cut_14 rfl (lv_at hl 3 rfl) ?_
      refine lv_iload hx hb dX2_cut_15 (lv_at hl 4 rfl) ?_
      refine vp_callSi (W.runS (As := [.int p2, .int p3]) (rest := []) ⟨hx, hb, hml, hown, hts⟩ (c_X2_isPiece l p2 p3) (va_cwS 2 hts (gi_S hbc tw_84 tw_85 tw_1 tw_86) rfl rfl rfl (by decide +kernel) ⟨Nat.le_of_ble_eq_true rfl, Nat.le_of_ble_eq_true rfl⟩) preEq rfl rfl hl.1 rfl (lv_room (Nat.le_of_ble_eq_true rfl)) dX2_cut_17 ⟨Nat.le_of_ble_eq_true rfl, Nat.le_of_ble_eq_true rfl⟩) (fun r hq => ?_)
      subst hq
      refine lv_if_ne (tgt := 26) hx hb dX2_cut_20 (by decide) (fun c3 => ?_) (fun c3 => ?_)
      · refine lv_aload_n hx hb dX2_cut_26 rfl (lv_at hl 0 rfl) ?_
        refine va_get (D := (dC, dI)) (ci := 2) (v := .ref (aq_ A)) (C := RX2) (T := TX2) (N := 2) hx hb hw igX2 hown hK hP 0 rfl rfl 0 (by decide) (hw _ tw_41) (fun _ h9 => h9) rfl dX2_cut_27 ?_
        refine lv_iload_n hx hb dX2_cut_30 rfl (lv_at hl 1 rfl) ?_
        refine va_aldq hx hb hK hP 1 0 rfl rfl (row_in c1) dX2_cut_31 ?_
        rw [rwF_at A hj_p0]
        refine lv_aload_n hx hb dX2_cut_32 rfl (lv_at hl 0 rfl) ?_
        refine va_get (D := (dC, dI)) (ci := 2) (v := .ref (aq_ A)) (C := RX2) (T := TX2) (N := 2) hx hb hw igX2 hown hK hP 0 rfl rfl 0 (by decide) (hw _ tw_41) (fun _ h9 => h9) rfl dX2_cut_33 ?_
        refine lv_iload_n hx hb dX2_cut_36 rfl (lv_at hl 2 rfl) ?_
        refine va_aldq hx hb hK hP 1 0 rfl rfl (row_in c2) dX2_cut_37 ?_
        rw [rwF_at A hj_p1]
        refine lv_iload_n hx hb dX2_cut_38 rfl (lv_at hl 3 rfl) ?_
        refine lv_iload hx hb dX2_cut_39 (lv_at hl 4 rfl) ?_
        refine gVv (As := [.ref (ar_ A p1.toNatClampNeg), .int p2, .int p3]) (rest := []) ⟨hx, hb, hml, hown, hts⟩ (c_X0_takePiece l dC dI A u hj_p0 hj_p1 p2 p3 c3) (cwV 3 hts (gi_V hbc tw_142 tw_143 tw_144 tw_2 tw_145) rfl rfl rfl (by decide +kernel) ⟨Nat.le_of_ble_eq_true rfl, Nat.le_of_ble_eq_true rfl⟩) (va_recv hK hP (ci := 0) (q0 := (4 + p0.toNatClampNeg)) rfl (wB_row A u hj_p0)) aB_mono aB_D hP hK hD hS rfl hl.1 rfl (Nat.le_of_ble_eq_true rfl) dX2_cut_41 ⟨Nat.le_of_ble_eq_true rfl, Nat.le_of_ble_eq_true rfl⟩ (fun v6 H locs hq5 hP hD hS => ?_)
        obtain rfl := hq5
        refine lv_aload_n hx hb dX2_cut_44 rfl (lv_at hl 0 rfl) ?_
        refine va_get (D := (dC, dI)) (ci := 2) (v := .ref (aq_ A)) (C := RX2) (T := TX2) (N := 2) hx hb hw igX2 hown hK hP 0 rfl rfl 0 (by decide) (hw _ tw_41) (fun _ h9 => h9) rfl dX2_cut_45 ?_
        refine lv_iload_n hx hb dX2_cut_48 rfl (lv_at hl 1 rfl) ?_
        refine va_aldq hx hb hK hP 1 0 rfl rfl (row_in c1) dX2_cut_49 ?_
        rw [rwF_at A hj_p0]
        refine gVi (As := []) (rest := []) ⟨hx, hb, hml, hown, hts⟩ (c_X0_ones l dC dI A (upM u.1 p0.toNatClampNeg (fl (tpW (u.1 p1.toNatClampNeg) p2 p3) (u.1 p0.toNatClampNeg) 63), u.2) hj_p0) (cwV 0 hts (gi_V hbc tw_87 tw_88 tw_89 tw_2 tw_90) rfl rfl rfl (by decide +kernel) ⟨Nat.le_of_ble_eq_true rfl, Nat.le_of_ble_eq_true rfl⟩) (va_recv hK hP (ci := 0) (q0 := (4 + p0.toNatClampNeg)) rfl (wB_row A (upM u.1 p0.toNatClampNeg (fl (tpW (u.1 p1.toNatClampNeg) p2 p3) (u.1 p0.toNatClampNeg) 63), u.2) hj_p0)) aB_mono aB_D hP hK hD hS rfl hl.1 rfl (Nat.le_of_ble_eq_true rfl) dX2_cut_50 ⟨Nat.le_of_ble_eq_true rfl, Nat.le_of_ble_eq_true rfl⟩ (fun r7 v9 H locs hq8 hP hD hS => ?_)
        obtain ⟨rfl, rfl⟩ := hq8
        exact W.iret hx hb hr (fun t9 ht9 hW => ⟨⟨_, (upM u.1 p0.toNatClampNeg (fl (tpW (u.1 p1.toNatClampNeg) p2 p3) (u.1 p0.toNatClampNeg) 63), u.2), rfl, Or.inl ⟨⟨c1, c2, c3⟩, ⟨rfl, rfl⟩⟩, by rw [ht9]; exact hP, va_K.moved hW.alike hK, hD⟩, hS.F ht9⟩) hS.2.2 dX2_cut_53
      · refine lv_bipush (v := -2) hx hb dX2_cut_23 (by decide) ?_
        exact W.iret hx hb hr (fun t9 ht9 hW => ⟨⟨_, u, rfl, Or.inr ⟨fun h => h.2.2 c3, rfl, rfl⟩, by rw [ht9]; exact hP, va_K.moved hW.alike hK, hD⟩, hS.F ht9⟩) hS.2.2 dX2_cut_25
set_option maxHeartbeats 4000000 in
set_option maxRecDepth 100000 in
theorem c_X2_copy (l : Launch) (dC : Nat → ClassId) (dI : Nat → Nat → Nat) (A : AdB) (u : StB) (p0 : Int32) (p1 : Int32) : gMi l yX2_copy wX2_copy ({ frames := 3, cells := 0, slots := 0, locals := 68 }) (dC, dI) bwCl (tyB A) (wB A) (aB A) [.ref (ah_ A), .int p0, .int p1] u (fun r v => ((¬ (fX2_isRow p0) = 0 ∧ ¬ (fX2_isRow p1) = 0) ∧ (r = fX0_ones (((upM u.1 p0.toNatClampNeg (fl (tpW (u.1 p1.toNatClampNeg) 0 4001) (u.1 p0.toNatClampNeg) 63), u.2) : StB).1 p0.toNatClampNeg) ∧ ((upM u.1 p0.toNatClampNeg (fl (tpW (u.1 p1.toNatClampNeg) 0 4001) (u.1 p0.toNatClampNeg) 63), u.2) : StB) = v)) ∨ (¬ (¬ (fX2_isRow p0) = 0 ∧ ¬ (fX2_isRow p1) = 0) ∧ r = -2 ∧ u = v)) := by
  unfold gMi
  intro sz
  refine Met.ofW (cc := cX2_copy) (maxL := 3) (ret := (some .int)) (by decide) rfl ?_
  intro p e s m args below meth c s₁ B hml hv
  obtain ⟨rfl, hsz, hP, hK, hD⟩ := hv
  subst hsz
  have hS : va_S (aB A s.heap.size) s.heap s.heap [] := va_S.rf
  have hx := B.exec
  have hb := B.bytes
  have hr := B.returns
  have hts := atoms_spec (ws := wX2_copy) B.pre
  have hw : ∀ w ∈ tg_, w.before _ s = true := fun w h => hts w (List.mem_cons_of_mem _ h)
  have hown : s.vm.findClass RX2 = some m.cls := findClass_of_methodNamed B.named
  have hlocks := B.notSynchronized
  have hl := lv_entry ([.ref (ah_ A), .int p0, .int p1]) (n := 3) (Nat.le_of_ble_eq_true rfl)
  rw [lg_entry_eq]
  generalize (lg_sl ([.ref (ah_ A), .int p0, .int p1]) ++ List.replicate (3 - (lg_sl ([.ref (ah_ A), .int p0, .int p1])).length) Slot.unset).toArray = ls at hl ⊢
  have hl : lv_has ls 3 [(0, .ref (ah_ A)), (1, .int p0), (2, .int p1)] := hl
  refine lv_iload_n hx hb dX2_copy_0 rfl (lv_at hl 1 rfl) ?_
  refine vp_callSi (W.runS (As := [.int p0]) (rest := []) ⟨hx, hb, hml, hown, hts⟩ (c_X2_isRow l p0) (va_cwS 1 hts (gi_S hbc tw_52 tw_53 tw_1 tw_54) rfl rfl rfl (by decide +kernel) ⟨Nat.le_of_ble_eq_true rfl, Nat.le_of_ble_eq_true rfl⟩) preEq rfl rfl hl.1 rfl (lv_room (Nat.le_of_ble_eq_true rfl)) dX2_copy_1 ⟨Nat.le_of_ble_eq_true rfl, Nat.le_of_ble_eq_true rfl⟩) (fun r hq => ?_)
  subst hq
  refine lv_if_eq (tgt := 14) hx hb dX2_copy_4 (by decide) (fun c1 => ?_) (fun c1 => ?_)
  · refine lv_bipush (v := -2) hx hb dX2_copy_14 (by decide) ?_
    exact W.iret hx hb hr (fun t9 ht9 hW => ⟨⟨_, u, rfl, Or.inr ⟨fun h => h.1 c1, rfl, rfl⟩, by rw [ht9]; exact hP, va_K.moved hW.alike hK, hD⟩, hS.F ht9⟩) hS.2.2 dX2_copy_16
  · have hj_p0 := row_lt c1
    refine lv_iload_n hx hb dX2_copy_7 rfl (lv_at hl 2 rfl) ?_
    refine vp_callSi (W.runS (As := [.int p1]) (rest := []) ⟨hx, hb, hml, hown, hts⟩ (c_X2_isRow l p1) (va_cwS 1 hts (gi_S hbc tw_52 tw_53 tw_1 tw_54) rfl rfl rfl (by decide +kernel) ⟨Nat.le_of_ble_eq_true rfl, Nat.le_of_ble_eq_true rfl⟩) preEq rfl rfl hl.1 rfl (lv_room (Nat.le_of_ble_eq_true rfl)) dX2_copy_8 ⟨Nat.le_of_ble_eq_true rfl, Nat.le_of_ble_eq_true rfl⟩) (fun r hq => ?_)
    subst hq
    refine lv_if_ne (tgt := 17) hx hb dX2_copy_11 (by decide) (fun c2 => ?_) (fun c2 => ?_)
    · have hj_p1 := row_lt c2
      refine lv_aload_n hx hb dX2_copy_17 rfl (lv_at hl 0 rfl) ?_
      refine va_get (D := (dC, dI)) (ci := 2) (v := .ref (aq_ A)) (C := RX2) (T := TX2) (N := 2) hx hb hw igX2 hown hK hP 0 rfl rfl 0 (by decide) (hw _ tw_41) (fun _ h9 => h9) rfl dX2_copy_18 ?_
      refine lv_iload_n hx hb dX2_copy_21 rfl (lv_at hl 1 rfl) ?_
      refine va_aldq hx hb hK hP 1 0 rfl rfl (row_in c1) dX2_copy_22 ?_
      rw [rwF_at A hj_p0]
      refine lv_aload_n hx hb dX2_copy_23 rfl (lv_at hl 0 rfl) ?_
      refine va_get (D := (dC, dI)) (ci := 2) (v := .ref (aq_ A)) (C := RX2) (T := TX2) (N := 2) hx hb hw igX2 hown hK hP 0 rfl rfl 0 (by decide) (hw _ tw_41) (fun _ h9 => h9) rfl dX2_copy_24 ?_
      refine lv_iload_n hx hb dX2_copy_27 rfl (lv_at hl 2 rfl) ?_
      refine va_aldq hx hb hK hP 1 0 rfl rfl (row_in c2) dX2_copy_28 ?_
      rw [rwF_at A hj_p1]
      refine lv_iconst (v := 0) hx hb dX2_copy_29 (by decide) ?_
      refine lv_sipush (v := 4001) hx hb dX2_copy_30 (by decide) ?_
      refine gVv (As := [.ref (ar_ A p1.toNatClampNeg), .int 0, .int 4001]) (rest := []) ⟨hx, hb, hml, hown, hts⟩ (c_X0_takePiece l dC dI A u hj_p0 hj_p1 0 4001 (by decide)) (cwV 3 hts (gi_V hbc tw_142 tw_143 tw_144 tw_2 tw_145) rfl rfl rfl (by decide +kernel) ⟨Nat.le_of_ble_eq_true rfl, Nat.le_of_ble_eq_true rfl⟩) (va_recv hK hP (ci := 0) (q0 := (4 + p0.toNatClampNeg)) rfl (wB_row A u hj_p0)) aB_mono aB_D hP hK hD hS rfl hl.1 rfl (Nat.le_of_ble_eq_true rfl) dX2_copy_33 ⟨Nat.le_of_ble_eq_true rfl, Nat.le_of_ble_eq_true rfl⟩ (fun v5 H locs hq4 hP hD hS => ?_)
      obtain rfl := hq4
      refine lv_aload_n hx hb dX2_copy_36 rfl (lv_at hl 0 rfl) ?_
      refine va_get (D := (dC, dI)) (ci := 2) (v := .ref (aq_ A)) (C := RX2) (T := TX2) (N := 2) hx hb hw igX2 hown hK hP 0 rfl rfl 0 (by decide) (hw _ tw_41) (fun _ h9 => h9) rfl dX2_copy_37 ?_
      refine lv_iload_n hx hb dX2_copy_40 rfl (lv_at hl 1 rfl) ?_
      refine va_aldq hx hb hK hP 1 0 rfl rfl (row_in c1) dX2_copy_41 ?_
      rw [rwF_at A hj_p0]
      refine gVi (As := []) (rest := []) ⟨hx, hb, hml, hown, hts⟩ (c_X0_ones l dC dI A (upM u.1 p0.toNatClampNeg (fl (tpW (u.1 p1.toNatClampNeg) 0 4001) (u.1 p0.toNatClampNeg) 63), u.2) hj_p0) (cwV 0 hts (gi_V hbc tw_87 tw_88 tw_89 tw_2 tw_90) rfl rfl rfl (by decide +kernel) ⟨Nat.le_of_ble_eq_true rfl, Nat.le_of_ble_eq_true rfl⟩) (va_recv hK hP (ci := 0) (q0 := (4 + p0.toNatClampNeg)) rfl (wB_row A (upM u.1 p0.toNatClampNeg (fl (tpW (u.1 p1.toNatClampNeg) 0 4001) (u.1 p0.toNatClampNeg) 63), u.2) hj_p0)) aB_mono aB_D hP hK hD hS rfl hl.1 rfl (Nat.le_of_ble_eq_true rfl) dX2_copy_42 ⟨Nat.le_of_ble_eq_true rfl, Nat.le_of_ble_eq_true rfl⟩ (fun r6 v8 H locs hq7 hP hD hS => ?_)
      obtain ⟨rfl, rfl⟩ := hq7
      exact W.iret hx hb hr (fun t9 ht9 hW => ⟨⟨_, (upM u.1 p0.toNatClampNeg (fl (tpW (u.1 p1.toNatClampNeg) 0 4001) (u.1 p0.toNatClampNeg) 63), u.2), rfl, Or.inl ⟨⟨c1, c2⟩, ⟨rfl, rfl⟩⟩, by rw [ht9]; exact hP, va_K.moved hW.alike hK, hD⟩, hS.F ht9⟩) hS.2.2 dX2_copy_45
    · refine lv_bipush (v := -2) hx hb dX2_copy_14 (by decide) ?_
      exact W.iret hx hb hr (fun t9 ht9 hW => ⟨⟨_, u, rfl, Or.inr ⟨fun h => h.2 c2, rfl, rfl⟩, by rw [ht9]; exact hP, va_K.moved hW.alike hK, hD⟩, hS.F ht9⟩) hS.2.2 dX2_copy_16
set_option maxHeartbeats 4000000 in
set_option maxRecDepth 100000 in
theorem c_X2_look (l : Launch) (dC : Nat → ClassId) (dI : Nat → Nat → Nat) (A : AdB) (u : StB) (p0 : Int32) (p1 : Int32) : gMi l yX2_look wX2_look ({ frames := 4, cells := 0, slots := 0, locals := 89 }) (dC, dI) bwCl (tyB A) (wB A) (aB A) [.ref (ah_ A), .int p0, .int p1] u (fun r v => ((¬ (fX2_isRow p0) = 0) ∧ ((p1 = 0 ∧ r = fX0_ones (u.1 p0.toNatClampNeg)) ∨ (p1 = 1 ∧ ∃ q, pLU (u.1 p0.toNatClampNeg) 4000 0 q ∧ r = q + 1) ∨ (p1 = 2 ∧ ∃ q, (∃ x, pLU (u.1 p0.toNatClampNeg) 4000 0 x ∧ q = x + 1) ∧ ((q = 0 ∧ r = 1) ∨ (¬ q = 0 ∧ r = 0))) ∨ ((¬ p1 = 0 ∧ ¬ p1 = 1 ∧ ¬ p1 = 2) ∧ r = -2)) ∧ u = v) ∨ (¬ (¬ (fX2_isRow p0) = 0) ∧ r = -2 ∧ u = v)) := by
  unfold gMi
  intro sz
  refine Met.ofW (cc := cX2_look) (maxL := 3) (ret := (some .int)) (by decide) rfl ?_
  intro p e s m args below meth c s₁ B hml hv
  obtain ⟨rfl, hsz, hP, hK, hD⟩ := hv
  subst hsz
  have hS : va_S (aB A s.heap.size) s.heap s.heap [] := va_S.rf
  have hx := B.exec
  have hb := B.bytes
  have hr := B.returns
  have hts := atoms_spec (ws := wX2_look) B.pre
  have hw : ∀ w ∈ tg_, w.before _ s = true := fun w h => hts w (List.mem_cons_of_mem _ h)
  have hown : s.vm.findClass RX2 = some m.cls := findClass_of_methodNamed B.named
  have hlocks := B.notSynchronized
  have hl := lv_entry ([.ref (ah_ A), .int p0, .int p1]) (n := 3) (Nat.le_of_ble_eq_true rfl)
  rw [lg_entry_eq]
  generalize (lg_sl ([.ref (ah_ A), .int p0, .int p1]) ++ List.replicate (3 - (lg_sl ([.ref (ah_ A), .int p0, .int p1])).length) Slot.unset).toArray = ls at hl ⊢
  have hl : lv_has ls 3 [(0, .ref (ah_ A)), (1, .int p0), (2, .int p1)] := hl
  refine lv_iload_n hx hb dX2_look_0 rfl (lv_at hl 1 rfl) ?_
  refine vp_callSi (W.runS (As := [.int p0]) (rest := []) ⟨hx, hb, hml, hown, hts⟩ (c_X2_isRow l p0) (va_cwS 1 hts (gi_S hbc tw_52 tw_53 tw_1 tw_54) rfl rfl rfl (by decide +kernel) ⟨Nat.le_of_ble_eq_true rfl, Nat.le_of_ble_eq_true rfl⟩) preEq rfl rfl hl.1 rfl (lv_room (Nat.le_of_ble_eq_true rfl)) dX2_look_1 ⟨Nat.le_of_ble_eq_true rfl, Nat.le_of_ble_eq_true rfl⟩) (fun r hq => ?_)
  subst hq
  refine lv_if_ne (tgt := 10) hx hb dX2_look_4 (by decide) (fun c1 => ?_) (fun c1 => ?_)
  · have hj_p0 := row_lt c1
    refine lv_iload_n hx hb dX2_look_10 rfl (lv_at hl 2 rfl) ?_
    by_cases c2 : p1 = 0
    · refine lv_tableIn (off := 25) (tgt := 36) hx hb dX2_look_11 (by rw [c2]; decide) (by rw [c2]; decide) (by rw [c2]; decide) (by decide) ?_
      refine lv_aload_n hx hb dX2_look_36 rfl (lv_at hl 0 rfl) ?_
      refine va_get (D := (dC, dI)) (ci := 2) (v := .ref (aq_ A)) (C := RX2) (T := TX2) (N := 2) hx hb hw igX2 hown hK hP 0 rfl rfl 0 (by decide) (hw _ tw_41) (fun _ h9 => h9) rfl dX2_look_37 ?_
      refine lv_iload_n hx hb dX2_look_40 rfl (lv_at hl 1 rfl) ?_
      refine va_aldq hx hb hK hP 1 0 rfl rfl (row_in c1) dX2_look_41 ?_
      rw [rwF_at A hj_p0]
      refine gVi (As := []) (rest := []) ⟨hx, hb, hml, hown, hts⟩ (c_X0_ones l dC dI A u hj_p0) (cwV 0 hts (gi_V hbc tw_87 tw_88 tw_89 tw_2 tw_90) rfl rfl rfl (by decide +kernel) ⟨Nat.le_of_ble_eq_true rfl, Nat.le_of_ble_eq_true rfl⟩) (va_recv hK hP (ci := 0) (q0 := (4 + p0.toNatClampNeg)) rfl (wB_row A u hj_p0)) aB_mono aB_D hP hK hD hS rfl hl.1 rfl (Nat.le_of_ble_eq_true rfl) dX2_look_42 ⟨Nat.le_of_ble_eq_true rfl, Nat.le_of_ble_eq_true rfl⟩ (fun r3 v5 H locs hq4 hP hD hS => ?_)
      obtain ⟨rfl, rfl⟩ := hq4
      exact W.iret hx hb hr (fun t9 ht9 hW => ⟨⟨_, u, rfl, Or.inl ⟨c1, ⟨Or.inl ⟨c2, rfl⟩, rfl⟩⟩, by rw [ht9]; exact hP, va_K.moved hW.alike hK, hD⟩, hS.F ht9⟩) hS.2.2 dX2_look_45
    by_cases c6 : p1 = 1
    · refine lv_tableIn (off := 35) (tgt := 46) hx hb dX2_look_11 (by rw [c6]; decide) (by rw [c6]; decide) (by rw [c6]; decide) (by decide) ?_
      refine lv_aload_n hx hb dX2_look_46 rfl (lv_at hl 0 rfl) ?_
      refine va_get (D := (dC, dI)) (ci := 2) (v := .ref (aq_ A)) (C := RX2) (T := TX2) (N := 2) hx hb hw igX2 hown hK hP 0 rfl rfl 0 (by decide) (hw _ tw_41) (fun _ h9 => h9) rfl dX2_look_47 ?_
      refine lv_iload_n hx hb dX2_look_50 rfl (lv_at hl 1 rfl) ?_
      refine va_aldq hx hb hK hP 1 0 rfl rfl (row_in c1) dX2_look_51 ?_
      rw [rwF_at A hj_p0]
      refine gVi (As := []) (rest := []) ⟨hx, hb, hml, hown, hts⟩ (c_X0_end l dC dI A u hj_p0) (cwV 0 hts (gi_V hbc tw_158 tw_159 tw_160 tw_2 tw_161) rfl rfl rfl (by decide +kernel) ⟨Nat.le_of_ble_eq_true rfl, Nat.le_of_ble_eq_true rfl⟩) (va_recv hK hP (ci := 0) (q0 := (4 + p0.toNatClampNeg)) rfl (wB_row A u hj_p0)) aB_mono aB_D hP hK hD hS rfl hl.1 rfl (Nat.le_of_ble_eq_true rfl) dX2_look_52 ⟨Nat.le_of_ble_eq_true rfl, Nat.le_of_ble_eq_true rfl⟩ (fun r7 v9 H locs hq8 hP hD hS => ?_)
      obtain ⟨hq8, rfl⟩ := hq8
      exact W.iret hx hb hr (fun t9 ht9 hW => ⟨⟨_, u, rfl, Or.inl ⟨c1, ⟨Or.inr (Or.inl ⟨c6, hq8⟩), rfl⟩⟩, by rw [ht9]; exact hP, va_K.moved hW.alike hK, hD⟩, hS.F ht9⟩) hS.2.2 dX2_look_55
    by_cases c10 : p1 = 2
    · refine lv_tableIn (off := 45) (tgt := 56) hx hb dX2_look_11 (by rw [c10]; decide) (by rw [c10]; decide) (by rw [c10]; decide) (by decide) ?_
      refine lv_aload_n hx hb dX2_look_56 rfl (lv_at hl 0 rfl) ?_
      refine va_get (D := (dC, dI)) (ci := 2) (v := .ref (aq_ A)) (C := RX2) (T := TX2) (N := 2) hx hb hw igX2 hown hK hP 0 rfl rfl 0 (by decide) (hw _ tw_41) (fun _ h9 => h9) rfl dX2_look_57 ?_
      refine lv_iload_n hx hb dX2_look_60 rfl (lv_at hl 1 rfl) ?_
      refine va_aldq hx hb hK hP 1 0 rfl rfl (row_in c1) dX2_look_61 ?_
      rw [rwF_at A hj_p0]
      refine gVi (As := []) (rest := []) ⟨hx, hb, hml, hown, hts⟩ (c_X0_end l dC dI A u hj_p0) (cwV 0 hts (gi_V hbc tw_158 tw_159 tw_160 tw_2 tw_161) rfl rfl rfl (by decide +kernel) ⟨Nat.le_of_ble_eq_true rfl, Nat.le_of_ble_eq_true rfl⟩) (va_recv hK hP (ci := 0) (q0 := (4 + p0.toNatClampNeg)) rfl (wB_row A u hj_p0)) aB_mono aB_D hP hK hD hS rfl hl.1 rfl (Nat.le_of_ble_eq_true rfl) dX2_look_62 ⟨Nat.le_of_ble_eq_true rfl, Nat.le_of_ble_eq_true rfl⟩ (fun r11 v13 H locs hq12 hP hD hS => ?_)
      obtain ⟨hq12, rfl⟩ := hq12
      refine lv_if_ne (tgt := 72) hx hb dX2_look_65 (by decide) (fun c14 => ?_) (fun c14 => ?_)
      · refine lv_iconst (v := 0) hx hb dX2_look_72 (by decide) ?_
        exact W.iret hx hb hr (fun t9 ht9 hW => ⟨⟨_, u, rfl, Or.inl ⟨c1, ⟨Or.inr (Or.inr (Or.inl ⟨c10, _, hq12, Or.inr ⟨c14, rfl⟩⟩)), rfl⟩⟩, by rw [ht9]; exact hP, va_K.moved hW.alike hK, hD⟩, hS.F ht9⟩) hS.2.2 dX2_look_73
      · refine lv_iconst (v := 1) hx hb dX2_look_68 (by decide) ?_
        refine lv_goto (tgt := 73) hx hb dX2_look_69 (by decide) ?_
        exact W.iret hx hb hr (fun t9 ht9 hW => ⟨⟨_, u, rfl, Or.inl ⟨c1, ⟨Or.inr (Or.inr (Or.inl ⟨c10, _, hq12, Or.inl ⟨c14, rfl⟩⟩)), rfl⟩⟩, by rw [ht9]; exact hP, va_K.moved hW.alike hK, hD⟩, hS.F ht9⟩) hS.2.2 dX2_look_73
    refine lv_tableOut (tgt := 74) hx hb dX2_look_11 (sw_out3 c2 c6 c10) (by decide) ?_
    refine lv_bipush (v := -2) hx hb dX2_look_74 (by decide) ?_
    exact W.iret hx hb hr (fun t9 ht9 hW => ⟨⟨_, u, rfl, Or.inl ⟨c1, ⟨Or.inr (Or.inr (Or.inr (⟨⟨c2, c6, c10⟩, rfl⟩))), rfl⟩⟩, by rw [ht9]; exact hP, va_K.moved hW.alike hK, hD⟩, hS.F ht9⟩) hS.2.2 dX2_look_76
  · refine lv_bipush (v := -2) hx hb dX2_look_7 (by decide) ?_
    exact W.iret hx hb hr (fun t9 ht9 hW => ⟨⟨_, u, rfl, Or.inr ⟨fun h => h c1, rfl, rfl⟩, by rw [ht9]; exact hP, va_K.moved hW.alike hK, hD⟩, hS.F ht9⟩) hS.2.2 dX2_look_9
set_option maxHeartbeats 4000000 in
set_option maxRecDepth 100000 in
theorem c_X2_meet (l : Launch) (dC : Nat → ClassId) (dI : Nat → Nat → Nat) (A : AdB) (u : StB) (p0 : Int32) (p1 : Int32) (p2 : Int32) : gMi l yX2_meet wX2_meet ({ frames := 1, cells := 0, slots := 0, locals := 22 }) (dC, dI) bwCl (tyB A) (wB A) (aB A) [.ref (ah_ A), .int p0, .int p1, .int p2] u (fun r v => ((¬ (fX2_isRow p0) = 0 ∧ ¬ (fX2_isRow p2) = 0) ∧ ((p1 = 0 ∧ ∃ q, pSO (u.1 p0.toNatClampNeg) (u.1 p2.toNatClampNeg) q ∧ ((q = 0 ∧ r = 0) ∨ (¬ q = 0 ∧ r = 1))) ∨ (p1 = 1 ∧ ∃ q, pSM (u.1 p0.toNatClampNeg) (u.1 p2.toNatClampNeg) q ∧ ((q = 0 ∧ r = 0) ∨ (¬ q = 0 ∧ r = 1))) ∨ ((¬ p1 = 0 ∧ ¬ p1 = 1) ∧ r = -2)) ∧ u = v) ∨ (¬ (¬ (fX2_isRow p0) = 0 ∧ ¬ (fX2_isRow p2) = 0) ∧ r = -2 ∧ u = v)) := by
  unfold gMi
  intro sz
  refine Met.ofW (cc := cX2_meet) (maxL := 4) (ret := (some .int)) (by decide) rfl ?_
  intro p e s m args below meth c s₁ B hml hv
  obtain ⟨rfl, hsz, hP, hK, hD⟩ := hv
  subst hsz
  have hS : va_S (aB A s.heap.size) s.heap s.heap [] := va_S.rf
  have hx := B.exec
  have hb := B.bytes
  have hr := B.returns
  have hts := atoms_spec (ws := wX2_meet) B.pre
  have hw : ∀ w ∈ tg_, w.before _ s = true := fun w h => hts w (List.mem_cons_of_mem _ h)
  have hown : s.vm.findClass RX2 = some m.cls := findClass_of_methodNamed B.named
  have hlocks := B.notSynchronized
  have hl := lv_entry ([.ref (ah_ A), .int p0, .int p1, .int p2]) (n := 4) (Nat.le_of_ble_eq_true rfl)
  rw [lg_entry_eq]
  generalize (lg_sl ([.ref (ah_ A), .int p0, .int p1, .int p2]) ++ List.replicate (4 - (lg_sl ([.ref (ah_ A), .int p0, .int p1, .int p2])).length) Slot.unset).toArray = ls at hl ⊢
  have hl : lv_has ls 4 [(0, .ref (ah_ A)), (1, .int p0), (2, .int p1), (3, .int p2)] := hl
  refine lv_iload_n hx hb dX2_meet_0 rfl (lv_at hl 1 rfl) ?_
  refine vp_callSi (W.runS (As := [.int p0]) (rest := []) ⟨hx, hb, hml, hown, hts⟩ (c_X2_isRow l p0) (va_cwS 1 hts (gi_S hbc tw_52 tw_53 tw_1 tw_54) rfl rfl rfl (by decide +kernel) ⟨Nat.le_of_ble_eq_true rfl, Nat.le_of_ble_eq_true rfl⟩) preEq rfl rfl hl.1 rfl (lv_room (Nat.le_of_ble_eq_true rfl)) dX2_meet_1 ⟨Nat.le_of_ble_eq_true rfl, Nat.le_of_ble_eq_true rfl⟩) (fun r hq => ?_)
  subst hq
  refine lv_if_eq (tgt := 14) hx hb dX2_meet_4 (by decide) (fun c1 => ?_) (fun c1 => ?_)
  · refine lv_bipush (v := -2) hx hb dX2_meet_14 (by decide) ?_
    exact W.iret hx hb hr (fun t9 ht9 hW => ⟨⟨_, u, rfl, Or.inr ⟨fun h => h.1 c1, rfl, rfl⟩, by rw [ht9]; exact hP, va_K.moved hW.alike hK, hD⟩, hS.F ht9⟩) hS.2.2 dX2_meet_16
  · have hj_p0 := row_lt c1
    refine lv_iload_n hx hb dX2_meet_7 rfl (lv_at hl 3 rfl) ?_
    refine vp_callSi (W.runS (As := [.int p2]) (rest := []) ⟨hx, hb, hml, hown, hts⟩ (c_X2_isRow l p2) (va_cwS 1 hts (gi_S hbc tw_52 tw_53 tw_1 tw_54) rfl rfl rfl (by decide +kernel) ⟨Nat.le_of_ble_eq_true rfl, Nat.le_of_ble_eq_true rfl⟩) preEq rfl rfl hl.1 rfl (lv_room (Nat.le_of_ble_eq_true rfl)) dX2_meet_8 ⟨Nat.le_of_ble_eq_true rfl, Nat.le_of_ble_eq_true rfl⟩) (fun r hq => ?_)
    subst hq
    refine lv_if_ne (tgt := 17) hx hb dX2_meet_11 (by decide) (fun c2 => ?_) (fun c2 => ?_)
    · have hj_p2 := row_lt c2
      refine lv_iload_n hx hb dX2_meet_17 rfl (lv_at hl 2 rfl) ?_
      by_cases c3 : p1 = 0
      · refine lv_lookup (off := 26) (tgt := 44) hx hb dX2_meet_18 (by decide) (by rw [c3]; decide) (by decide) ?_
        refine lv_aload_n hx hb dX2_meet_44 rfl (lv_at hl 0 rfl) ?_
        refine va_get (D := (dC, dI)) (ci := 2) (v := .ref (aq_ A)) (C := RX2) (T := TX2) (N := 2) hx hb hw igX2 hown hK hP 0 rfl rfl 0 (by decide) (hw _ tw_41) (fun _ h9 => h9) rfl dX2_meet_45 ?_
        refine lv_iload_n hx hb dX2_meet_48 rfl (lv_at hl 1 rfl) ?_
        refine va_aldq hx hb hK hP 1 0 rfl rfl (row_in c1) dX2_meet_49 ?_
        rw [rwF_at A hj_p0]
        refine lv_aload_n hx hb dX2_meet_50 rfl (lv_at hl 0 rfl) ?_
        refine va_get (D := (dC, dI)) (ci := 2) (v := .ref (aq_ A)) (C := RX2) (T := TX2) (N := 2) hx hb hw igX2 hown hK hP 0 rfl rfl 0 (by decide) (hw _ tw_41) (fun _ h9 => h9) rfl dX2_meet_51 ?_
        refine lv_iload_n hx hb dX2_meet_54 rfl (lv_at hl 3 rfl) ?_
        refine va_aldq hx hb hK hP 1 0 rfl rfl (row_in c2) dX2_meet_55 ?_
        rw [rwF_at A hj_p2]
        refine gVi (As := [.ref (ar_ A p2.toNatClampNeg)]) (rest := []) ⟨hx, hb, hml, hown, hts⟩ (c_X0_sharesOne l dC dI A u hj_p0 hj_p2) (cwV 1 hts (gi_V hbc tw_167 tw_168 tw_169 tw_2 tw_170) rfl rfl rfl (by decide +kernel) ⟨Nat.le_of_ble_eq_true rfl, Nat.le_of_ble_eq_true rfl⟩) (va_recv hK hP (ci := 0) (q0 := (4 + p0.toNatClampNeg)) rfl (wB_row A u hj_p0)) aB_mono aB_D hP hK hD hS rfl hl.1 rfl (Nat.le_of_ble_eq_true rfl) dX2_meet_56 ⟨Nat.le_of_ble_eq_true rfl, Nat.le_of_ble_eq_true rfl⟩ (fun r4 v6 H locs hq5 hP hD hS => ?_)
        obtain ⟨hq5, rfl⟩ := hq5
        refine lv_if_eq (tgt := 66) hx hb dX2_meet_59 (by decide) (fun c7 => ?_) (fun c7 => ?_)
        · refine lv_iconst (v := 0) hx hb dX2_meet_66 (by decide) ?_
          exact W.iret hx hb hr (fun t9 ht9 hW => ⟨⟨_, u, rfl, Or.inl ⟨⟨c1, c2⟩, ⟨Or.inl ⟨c3, _, hq5, Or.inl ⟨c7, rfl⟩⟩, rfl⟩⟩, by rw [ht9]; exact hP, va_K.moved hW.alike hK, hD⟩, hS.F ht9⟩) hS.2.2 dX2_meet_67
        · refine lv_iconst (v := 1) hx hb dX2_meet_62 (by decide) ?_
          refine lv_goto (tgt := 67) hx hb dX2_meet_63 (by decide) ?_
          exact W.iret hx hb hr (fun t9 ht9 hW => ⟨⟨_, u, rfl, Or.inl ⟨⟨c1, c2⟩, ⟨Or.inl ⟨c3, _, hq5, Or.inr ⟨c7, rfl⟩⟩, rfl⟩⟩, by rw [ht9]; exact hP, va_K.moved hW.alike hK, hD⟩, hS.F ht9⟩) hS.2.2 dX2_meet_67
      by_cases c8 : p1 = 1
      · refine lv_lookup (off := 50) (tgt := 68) hx hb dX2_meet_18 (by decide) (by rw [c8]; decide) (by decide) ?_
        refine lv_aload_n hx hb dX2_meet_68 rfl (lv_at hl 0 rfl) ?_
        refine va_get (D := (dC, dI)) (ci := 2) (v := .ref (aq_ A)) (C := RX2) (T := TX2) (N := 2) hx hb hw igX2 hown hK hP 0 rfl rfl 0 (by decide) (hw _ tw_41) (fun _ h9 => h9) rfl dX2_meet_69 ?_
        refine lv_iload_n hx hb dX2_meet_72 rfl (lv_at hl 1 rfl) ?_
        refine va_aldq hx hb hK hP 1 0 rfl rfl (row_in c1) dX2_meet_73 ?_
        rw [rwF_at A hj_p0]
        refine lv_aload_n hx hb dX2_meet_74 rfl (lv_at hl 0 rfl) ?_
        refine va_get (D := (dC, dI)) (ci := 2) (v := .ref (aq_ A)) (C := RX2) (T := TX2) (N := 2) hx hb hw igX2 hown hK hP 0 rfl rfl 0 (by decide) (hw _ tw_41) (fun _ h9 => h9) rfl dX2_meet_75 ?_
        refine lv_iload_n hx hb dX2_meet_78 rfl (lv_at hl 3 rfl) ?_
        refine va_aldq hx hb hK hP 1 0 rfl rfl (row_in c2) dX2_meet_79 ?_
        rw [rwF_at A hj_p2]
        refine gVi (As := [.ref (ar_ A p2.toNatClampNeg)]) (rest := []) ⟨hx, hb, hml, hown, hts⟩ (c_X0_isSame l dC dI A u hj_p0 hj_p2) (cwV 1 hts (gi_V hbc tw_171 tw_172 tw_173 tw_2 tw_174) rfl rfl rfl (by decide +kernel) ⟨Nat.le_of_ble_eq_true rfl, Nat.le_of_ble_eq_true rfl⟩) (va_recv hK hP (ci := 0) (q0 := (4 + p0.toNatClampNeg)) rfl (wB_row A u hj_p0)) aB_mono aB_D hP hK hD hS rfl hl.1 rfl (Nat.le_of_ble_eq_true rfl) dX2_meet_80 ⟨Nat.le_of_ble_eq_true rfl, Nat.le_of_ble_eq_true rfl⟩ (fun r9 v11 H locs hq10 hP hD hS => ?_)
        obtain ⟨hq10, rfl⟩ := hq10
        refine lv_if_eq (tgt := 90) hx hb dX2_meet_83 (by decide) (fun c12 => ?_) (fun c12 => ?_)
        · refine lv_iconst (v := 0) hx hb dX2_meet_90 (by decide) ?_
          exact W.iret hx hb hr (fun t9 ht9 hW => ⟨⟨_, u, rfl, Or.inl ⟨⟨c1, c2⟩, ⟨Or.inr (Or.inl ⟨c8, _, hq10, Or.inl ⟨c12, rfl⟩⟩), rfl⟩⟩, by rw [ht9]; exact hP, va_K.moved hW.alike hK, hD⟩, hS.F ht9⟩) hS.2.2 dX2_meet_91
        · refine lv_iconst (v := 1) hx hb dX2_meet_86 (by decide) ?_
          refine lv_goto (tgt := 91) hx hb dX2_meet_87 (by decide) ?_
          exact W.iret hx hb hr (fun t9 ht9 hW => ⟨⟨_, u, rfl, Or.inl ⟨⟨c1, c2⟩, ⟨Or.inr (Or.inl ⟨c8, _, hq10, Or.inr ⟨c12, rfl⟩⟩), rfl⟩⟩, by rw [ht9]; exact hP, va_K.moved hW.alike hK, hD⟩, hS.F ht9⟩) hS.2.2 dX2_meet_91
      refine lv_lookup (off := 74) (tgt := 92) hx hb dX2_meet_18 (by decide) (by show Op.lookupswitch.offset [(0, 26), (1, 50)] 74 (p1).toInt = 74; rw [lv_osw (a := 0) c3 rfl, lv_osw (a := 1) c8 rfl]; rfl) (by decide) ?_
      refine lv_bipush (v := -2) hx hb dX2_meet_92 (by decide) ?_
      exact W.iret hx hb hr (fun t9 ht9 hW => ⟨⟨_, u, rfl, Or.inl ⟨⟨c1, c2⟩, ⟨Or.inr (Or.inr (⟨⟨c3, c8⟩, rfl⟩)), rfl⟩⟩, by rw [ht9]; exact hP, va_K.moved hW.alike hK, hD⟩, hS.F ht9⟩) hS.2.2 dX2_meet_94
    · refine lv_bipush (v := -2) hx hb dX2_meet_14 (by decide) ?_
      exact W.iret hx hb hr (fun t9 ht9 hW => ⟨⟨_, u, rfl, Or.inr ⟨fun h => h.2 c2, rfl, rfl⟩, by rw [ht9]; exact hP, va_K.moved hW.alike hK, hD⟩, hS.F ht9⟩) hS.2.2 dX2_meet_16
set_option maxHeartbeats 4000000 in
set_option maxRecDepth 100000 in
theorem c_X2_word (l : Launch) (dC : Nat → ClassId) (dI : Nat → Nat → Nat) (A : AdB) (u : StB) (p0 : Int32) (p1 : Int32) : gMl l yX2_word wX2_word ({ frames := 1, cells := 0, slots := 0, locals := 21 }) (dC, dI) bwCl (tyB A) (wB A) (aB A) [.ref (ah_ A), .int p0, .int p1] u (fun r v => ((¬ (fX2_isRow p0) = 0 ∧ ¬ p1 < 0 ∧ p1 < 63) ∧ (r = fX0_wordAt (u.1 p0.toNatClampNeg) p1 ∧ u = v)) ∨ (¬ (¬ (fX2_isRow p0) = 0 ∧ ¬ p1 < 0 ∧ p1 < 63) ∧ r = 4611686018427387904 ∧ u = v)) := by
  unfold gMl
  intro sz
  refine Met.ofW (cc := cX2_word) (maxL := 3) (ret := (some .long)) (by decide) rfl ?_
  intro p e s m args below meth c s₁ B hml hv
  obtain ⟨rfl, hsz, hP, hK, hD⟩ := hv
  subst hsz
  have hS : va_S (aB A s.heap.size) s.heap s.heap [] := va_S.rf
  have hx := B.exec
  have hb := B.bytes
  have hr := B.returns
  have hts := atoms_spec (ws := wX2_word) B.pre
  have hw : ∀ w ∈ tg_, w.before _ s = true := fun w h => hts w (List.mem_cons_of_mem _ h)
  have hown : s.vm.findClass RX2 = some m.cls := findClass_of_methodNamed B.named
  have hlocks := B.notSynchronized
  have hl := lv_entry ([.ref (ah_ A), .int p0, .int p1]) (n := 3) (Nat.le_of_ble_eq_true rfl)
  rw [lg_entry_eq]
  generalize (lg_sl ([.ref (ah_ A), .int p0, .int p1]) ++ List.replicate (3 - (lg_sl ([.ref (ah_ A), .int p0, .int p1])).length) Slot.unset).toArray = ls at hl ⊢
  have hl : lv_has ls 3 [(0, .ref (ah_ A)), (1, .int p0), (2, .int p1)] := hl
  refine lv_iload_n hx hb dX2_word_0 rfl (lv_at hl 1 rfl) ?_
  refine vp_callSi (W.runS (As := [.int p0]) (rest := []) ⟨hx, hb, hml, hown, hts⟩ (c_X2_isRow l p0) (va_cwS 1 hts (gi_S hbc tw_52 tw_53 tw_1 tw_54) rfl rfl rfl (by decide +kernel) ⟨Nat.le_of_ble_eq_true rfl, Nat.le_of_ble_eq_true rfl⟩) preEq rfl rfl hl.1 rfl (lv_room (Nat.le_of_ble_eq_true rfl)) dX2_word_1 ⟨Nat.le_of_ble_eq_true rfl, Nat.le_of_ble_eq_true rfl⟩) (fun r hq => ?_)
  subst hq
  refine lv_if_eq (tgt := 17) hx hb dX2_word_4 (by decide) (fun c1 => ?_) (fun c1 => ?_)
  · refine lv_ldc2 (v := 4611686018427387904) hx hb hown (hw _ tw_179) dX2_word_17 ?_
    exact W.lret hx hb hr (fun t9 ht9 hW => ⟨⟨_, u, rfl, Or.inr ⟨fun h => h.1 c1, rfl, rfl⟩, by rw [ht9]; exact hP, va_K.moved hW.alike hK, hD⟩, hS.F ht9⟩) hS.2.2 dX2_word_20
  · have hj_p0 := row_lt c1
    refine lv_iload_n hx hb dX2_word_7 rfl (lv_at hl 2 rfl) ?_
    refine lv_if_lt (tgt := 17) hx hb dX2_word_8 (by decide) (fun c2 => ?_) (fun c2 => ?_)
    · refine lv_ldc2 (v := 4611686018427387904) hx hb hown (hw _ tw_179) dX2_word_17 ?_
      exact W.lret hx hb hr (fun t9 ht9 hW => ⟨⟨_, u, rfl, Or.inr ⟨fun h => h.2.1 c2, rfl, rfl⟩, by rw [ht9]; exact hP, va_K.moved hW.alike hK, hD⟩, hS.F ht9⟩) hS.2.2 dX2_word_20
    · refine lv_iload_n hx hb dX2_word_11 rfl (lv_at hl 2 rfl) ?_
      refine lv_bipush (v := 63) hx hb dX2_word_12 (by decide) ?_
      refine lv_icmp_lt (tgt := 21) hx hb dX2_word_14 (by decide) (fun c3 => ?_) (fun c3 => ?_)
      · refine lv_aload_n hx hb dX2_word_21 rfl (lv_at hl 0 rfl) ?_
        refine va_get (D := (dC, dI)) (ci := 2) (v := .ref (aq_ A)) (C := RX2) (T := TX2) (N := 2) hx hb hw igX2 hown hK hP 0 rfl rfl 0 (by decide) (hw _ tw_41) (fun _ h9 => h9) rfl dX2_word_22 ?_
        refine lv_iload_n hx hb dX2_word_25 rfl (lv_at hl 1 rfl) ?_
        refine va_aldq hx hb hK hP 1 0 rfl rfl (row_in c1) dX2_word_26 ?_
        rw [rwF_at A hj_p0]
        refine lv_iload_n hx hb dX2_word_27 rfl (lv_at hl 2 rfl) ?_
        refine gVl (As := [.int p1]) (rest := []) ⟨hx, hb, hml, hown, hts⟩ (c_X0_wordAt l dC dI A u hj_p0 p1) (cwV 1 hts (gi_V hbc tw_180 tw_66 tw_67 tw_2 tw_68) rfl rfl rfl (by decide +kernel) ⟨Nat.le_of_ble_eq_true rfl, Nat.le_of_ble_eq_true rfl⟩) (va_recv hK hP (ci := 0) (q0 := (4 + p0.toNatClampNeg)) rfl (wB_row A u hj_p0)) aB_mono aB_D hP hK hD hS rfl hl.1 rfl (Nat.le_of_ble_eq_true rfl) dX2_word_28 ⟨Nat.le_of_ble_eq_true rfl, Nat.le_of_ble_eq_true rfl⟩ (fun r4 v6 H locs hq5 hP hD hS => ?_)
        obtain ⟨rfl, rfl⟩ := hq5
        exact W.lret hx hb hr (fun t9 ht9 hW => ⟨⟨_, u, rfl, Or.inl ⟨⟨c1, c2, c3⟩, ⟨rfl, rfl⟩⟩, by rw [ht9]; exact hP, va_K.moved hW.alike hK, hD⟩, hS.F ht9⟩) hS.2.2 dX2_word_31
      · refine lv_ldc2 (v := 4611686018427387904) hx hb hown (hw _ tw_179) dX2_word_17 ?_
        exact W.lret hx hb hr (fun t9 ht9 hW => ⟨⟨_, u, rfl, Or.inr ⟨fun h => c3 h.2.2, rfl, rfl⟩, by rw [ht9]; exact hP, va_K.moved hW.alike hK, hD⟩, hS.F ht9⟩) hS.2.2 dX2_word_20
set_option maxHeartbeats 4000000 in
set_option maxRecDepth 100000 in
theorem c_X2_load (l : Launch) (dC : Nat → ClassId) (dI : Nat → Nat → Nat) (A : AdB) (u : StB) (p0 : Int32) (p1 : Int64) (p2 : Int64) (p3 : Int64) : gMi l yX2_load wX2_load ({ frames := 2, cells := 0, slots := 0, locals := 43 }) (dC, dI) bwCl (tyB A) (wB A) (aB A) [.ref (ah_ A), .int p0, .long p1, .long p2, .long p3] u (fun r v => ((¬ (fX2_isRow p0) = 0) ∧ (r = fX0_ones (((upM u.1 p0.toNatClampNeg (twW (u.1 p0.toNatClampNeg) p1 p2 p3), u.2) : StB).1 p0.toNatClampNeg) ∧ ((upM u.1 p0.toNatClampNeg (twW (u.1 p0.toNatClampNeg) p1 p2 p3), u.2) : StB) = v)) ∨ (¬ (¬ (fX2_isRow p0) = 0) ∧ r = -2 ∧ u = v)) := by
  unfold gMi
  intro sz
  refine Met.ofW (cc := cX2_load) (maxL := 8) (ret := (some .int)) (by decide) rfl ?_
  intro p e s m args below meth c s₁ B hml hv
  obtain ⟨rfl, hsz, hP, hK, hD⟩ := hv
  subst hsz
  have hS : va_S (aB A s.heap.size) s.heap s.heap [] := va_S.rf
  have hx := B.exec
  have hb := B.bytes
  have hr := B.returns
  have hts := atoms_spec (ws := wX2_load) B.pre
  have hw : ∀ w ∈ tg_, w.before _ s = true := fun w h => hts w (List.mem_cons_of_mem _ h)
  have hown : s.vm.findClass RX2 = some m.cls := findClass_of_methodNamed B.named
  have hlocks := B.notSynchronized
  have hl := lv_entry ([.ref (ah_ A), .int p0, .long p1, .long p2, .long p3]) (n := 8) (Nat.le_of_ble_eq_true rfl)
  rw [lg_entry_eq]
  generalize (lg_sl ([.ref (ah_ A), .int p0, .long p1, .long p2, .long p3]) ++ List.replicate (8 - (lg_sl ([.ref (ah_ A), .int p0, .long p1, .long p2, .long p3])).length) Slot.unset).toArray = ls at hl ⊢
  have hl : lv_has ls 8 [(0, .ref (ah_ A)), (1, .int p0), (2, .long p1), (4, .long p2), (6, .long p3)] := hl
  refine lv_iload_n hx hb dX2_load_0 rfl (lv_at hl 1 rfl) ?_
  refine vp_callSi (W.runS (As := [.int p0]) (rest := []) ⟨hx, hb, hml, hown, hts⟩ (c_X2_isRow l p0) (va_cwS 1 hts (gi_S hbc tw_52 tw_53 tw_1 tw_54) rfl rfl rfl (by decide +kernel) ⟨Nat.le_of_ble_eq_true rfl, Nat.le_of_ble_eq_true rfl⟩) preEq rfl rfl hl.1 rfl (lv_room (Nat.le_of_ble_eq_true rfl)) dX2_load_1 ⟨Nat.le_of_ble_eq_true rfl, Nat.le_of_ble_eq_true rfl⟩) (fun r hq => ?_)
  subst hq
  refine lv_if_ne (tgt := 10) hx hb dX2_load_4 (by decide) (fun c1 => ?_) (fun c1 => ?_)
  · have hj_p0 := row_lt c1
    refine lv_aload_n hx hb dX2_load_10 rfl (lv_at hl 0 rfl) ?_
    refine va_get (D := (dC, dI)) (ci := 2) (v := .ref (aq_ A)) (C := RX2) (T := TX2) (N := 2) hx hb hw igX2 hown hK hP 0 rfl rfl 0 (by decide) (hw _ tw_41) (fun _ h9 => h9) rfl dX2_load_11 ?_
    refine lv_iload_n hx hb dX2_load_14 rfl (lv_at hl 1 rfl) ?_
    refine va_aldq hx hb hK hP 1 0 rfl rfl (row_in c1) dX2_load_15 ?_
    rw [rwF_at A hj_p0]
    refine lv_lload_n hx hb dX2_load_16 rfl (lv_at hl 2 rfl) ?_
    refine lv_lload hx hb dX2_load_17 (lv_at hl 3 rfl) ?_
    refine lv_lload hx hb dX2_load_19 (lv_at hl 4 rfl) ?_
    refine gVv (As := [.long p1, .long p2, .long p3]) (rest := []) ⟨hx, hb, hml, hown, hts⟩ (c_X0_takeWords l dC dI A u hj_p0 p1 p2 p3) (cwV 3 hts (gi_V hbc tw_185 tw_186 tw_187 tw_2 tw_188) rfl rfl rfl (by decide +kernel) ⟨Nat.le_of_ble_eq_true rfl, Nat.le_of_ble_eq_true rfl⟩) (va_recv hK hP (ci := 0) (q0 := (4 + p0.toNatClampNeg)) rfl (wB_row A u hj_p0)) aB_mono aB_D hP hK hD hS rfl hl.1 rfl (Nat.le_of_ble_eq_true rfl) dX2_load_21 ⟨Nat.le_of_ble_eq_true rfl, Nat.le_of_ble_eq_true rfl⟩ (fun v4 H locs hq3 hP hD hS => ?_)
    obtain rfl := hq3
    refine lv_aload_n hx hb dX2_load_24 rfl (lv_at hl 0 rfl) ?_
    refine va_get (D := (dC, dI)) (ci := 2) (v := .ref (aq_ A)) (C := RX2) (T := TX2) (N := 2) hx hb hw igX2 hown hK hP 0 rfl rfl 0 (by decide) (hw _ tw_41) (fun _ h9 => h9) rfl dX2_load_25 ?_
    refine lv_iload_n hx hb dX2_load_28 rfl (lv_at hl 1 rfl) ?_
    refine va_aldq hx hb hK hP 1 0 rfl rfl (row_in c1) dX2_load_29 ?_
    rw [rwF_at A hj_p0]
    refine gVi (As := []) (rest := []) ⟨hx, hb, hml, hown, hts⟩ (c_X0_ones l dC dI A (upM u.1 p0.toNatClampNeg (twW (u.1 p0.toNatClampNeg) p1 p2 p3), u.2) hj_p0) (cwV 0 hts (gi_V hbc tw_87 tw_88 tw_89 tw_2 tw_90) rfl rfl rfl (by decide +kernel) ⟨Nat.le_of_ble_eq_true rfl, Nat.le_of_ble_eq_true rfl⟩) (va_recv hK hP (ci := 0) (q0 := (4 + p0.toNatClampNeg)) rfl (wB_row A (upM u.1 p0.toNatClampNeg (twW (u.1 p0.toNatClampNeg) p1 p2 p3), u.2) hj_p0)) aB_mono aB_D hP hK hD hS rfl hl.1 rfl (Nat.le_of_ble_eq_true rfl) dX2_load_30 ⟨Nat.le_of_ble_eq_true rfl, Nat.le_of_ble_eq_true rfl⟩ (fun r5 v7 H locs hq6 hP hD hS => ?_)
    obtain ⟨rfl, rfl⟩ := hq6
    exact W.iret hx hb hr (fun t9 ht9 hW => ⟨⟨_, (upM u.1 p0.toNatClampNeg (twW (u.1 p0.toNatClampNeg) p1 p2 p3), u.2), rfl, Or.inl ⟨c1, ⟨rfl, rfl⟩⟩, by rw [ht9]; exact hP, va_K.moved hW.alike hK, hD⟩, hS.F ht9⟩) hS.2.2 dX2_load_33
  · refine lv_bipush (v := -2) hx hb dX2_load_7 (by decide) ?_
    exact W.iret hx hb hr (fun t9 ht9 hW => ⟨⟨_, u, rfl, Or.inr ⟨fun h => h c1, rfl, rfl⟩, by rw [ht9]; exact hP, va_K.moved hW.alike hK, hD⟩, hS.F ht9⟩) hS.2.2 dX2_load_9
set_option maxHeartbeats 4000000 in
set_option maxRecDepth 100000 in
theorem c_X2_walk (l : Launch) (dC : Nat → ClassId) (dI : Nat → Nat → Nat) (A : AdB) (u : StB) (p0 : Int32) : gMl l yX2_walk wX2_walk ({ frames := 3, cells := 0, slots := 0, locals := 71 }) (dC, dI) bwCl (tyB A) (wB A) (aB A) [.ref (ah_ A), .int p0] u (fun r v => ((¬ (fX2_isRow p0) = 0) ∧ (r = (rkO (u.1 p0.toNatClampNeg) 63).2 ∧ u = v)) ∨ (¬ (¬ (fX2_isRow p0) = 0) ∧ r = 4611686018427387904 ∧ u = v)) := by
  unfold gMl
  intro sz
  refine Met.ofW (cc := cX2_walk) (maxL := 2) (ret := (some .long)) (by decide) rfl ?_
  intro p e s m args below meth c s₁ B hml hv
  obtain ⟨rfl, hsz, hP, hK, hD⟩ := hv
  subst hsz
  have hS : va_S (aB A s.heap.size) s.heap s.heap [] := va_S.rf
  have hx := B.exec
  have hb := B.bytes
  have hr := B.returns
  have hts := atoms_spec (ws := wX2_walk) B.pre
  have hw : ∀ w ∈ tg_, w.before _ s = true := fun w h => hts w (List.mem_cons_of_mem _ h)
  have hown : s.vm.findClass RX2 = some m.cls := findClass_of_methodNamed B.named
  have hlocks := B.notSynchronized
  have hl := lv_entry ([.ref (ah_ A), .int p0]) (n := 2) (Nat.le_of_ble_eq_true rfl)
  rw [lg_entry_eq]
  generalize (lg_sl ([.ref (ah_ A), .int p0]) ++ List.replicate (2 - (lg_sl ([.ref (ah_ A), .int p0])).length) Slot.unset).toArray = ls at hl ⊢
  have hl : lv_has ls 2 [(0, .ref (ah_ A)), (1, .int p0)] := hl
  refine lv_iload_n hx hb dX2_walk_0 rfl (lv_at hl 1 rfl) ?_
  refine vp_callSi (W.runS (As := [.int p0]) (rest := []) ⟨hx, hb, hml, hown, hts⟩ (c_X2_isRow l p0) (va_cwS 1 hts (gi_S hbc tw_52 tw_53 tw_1 tw_54) rfl rfl rfl (by decide +kernel) ⟨Nat.le_of_ble_eq_true rfl, Nat.le_of_ble_eq_true rfl⟩) preEq rfl rfl hl.1 rfl (lv_room (Nat.le_of_ble_eq_true rfl)) dX2_walk_1 ⟨Nat.le_of_ble_eq_true rfl, Nat.le_of_ble_eq_true rfl⟩) (fun r hq => ?_)
  subst hq
  refine lv_if_ne (tgt := 11) hx hb dX2_walk_4 (by decide) (fun c1 => ?_) (fun c1 => ?_)
  · have hj_p0 := row_lt c1
    refine lv_aload_n hx hb dX2_walk_11 rfl (lv_at hl 0 rfl) ?_
    refine va_get (D := (dC, dI)) (ci := 2) (v := .ref (aq_ A)) (C := RX2) (T := TX2) (N := 2) hx hb hw igX2 hown hK hP 0 rfl rfl 0 (by decide) (hw _ tw_41) (fun _ h9 => h9) rfl dX2_walk_12 ?_
    refine lv_iload_n hx hb dX2_walk_15 rfl (lv_at hl 1 rfl) ?_
    refine va_aldq hx hb hK hP 1 0 rfl rfl (row_in c1) dX2_walk_16 ?_
    rw [rwF_at A hj_p0]
    refine gVl (As := []) (rest := []) ⟨hx, hb, hml, hown, hts⟩ (c_X0_rankedSum l dC dI A u hj_p0) (cwV 0 hts (gi_V hbc tw_193 tw_194 tw_195 tw_2 tw_196) rfl rfl rfl (by decide +kernel) ⟨Nat.le_of_ble_eq_true rfl, Nat.le_of_ble_eq_true rfl⟩) (va_recv hK hP (ci := 0) (q0 := (4 + p0.toNatClampNeg)) rfl (wB_row A u hj_p0)) aB_mono aB_D hP hK hD hS rfl hl.1 rfl (Nat.le_of_ble_eq_true rfl) dX2_walk_17 ⟨Nat.le_of_ble_eq_true rfl, Nat.le_of_ble_eq_true rfl⟩ (fun r2 v4 H locs hq3 hP hD hS => ?_)
    obtain ⟨rfl, rfl⟩ := hq3
    exact W.lret hx hb hr (fun t9 ht9 hW => ⟨⟨_, u, rfl, Or.inl ⟨c1, ⟨rfl, rfl⟩⟩, by rw [ht9]; exact hP, va_K.moved hW.alike hK, hD⟩, hS.F ht9⟩) hS.2.2 dX2_walk_20
  · refine lv_ldc2 (v := 4611686018427387904) hx hb hown (hw _ tw_179) dX2_walk_7 ?_
    exact W.lret hx hb hr (fun t9 ht9 hW => ⟨⟨_, u, rfl, Or.inr ⟨fun h => h c1, rfl, rfl⟩, by rw [ht9]; exact hP, va_K.moved hW.alike hK, hD⟩, hS.F ht9⟩) hS.2.2 dX2_walk_10
set_option maxHeartbeats 4000000 in
set_option maxRecDepth 100000 in
theorem c_X2_clear (l : Launch) (dC : Nat → ClassId) (dI : Nat → Nat → Nat) (A : AdB) (u : StB) (p0 : Int32) : gMi l yX2_clear wX2_clear ({ frames := 2, cells := 0, slots := 0, locals := 50 }) (dC, dI) bwCl (tyB A) (wB A) (aB A) [.ref (ah_ A), .int p0] u (fun r v => ((¬ (fX2_isRow p0) = 0) ∧ (r = fX0_ones (u.1 p0.toNatClampNeg) ∧ ((upM u.1 p0.toNatClampNeg (fl (chW (u.1 p0.toNatClampNeg) 0 0 4001) (u.1 p0.toNatClampNeg) 63), u.2) : StB) = v)) ∨ (¬ (¬ (fX2_isRow p0) = 0) ∧ r = -2 ∧ u = v)) := by
  unfold gMi
  intro sz
  refine Met.ofW (cc := cX2_clear) (maxL := 3) (ret := (some .int)) (by decide) rfl ?_
  intro p e s m args below meth c s₁ B hml hv
  obtain ⟨rfl, hsz, hP, hK, hD⟩ := hv
  subst hsz
  have hS : va_S (aB A s.heap.size) s.heap s.heap [] := va_S.rf
  have hx := B.exec
  have hb := B.bytes
  have hr := B.returns
  have hts := atoms_spec (ws := wX2_clear) B.pre
  have hw : ∀ w ∈ tg_, w.before _ s = true := fun w h => hts w (List.mem_cons_of_mem _ h)
  have hown : s.vm.findClass RX2 = some m.cls := findClass_of_methodNamed B.named
  have hlocks := B.notSynchronized
  have hl := lv_entry ([.ref (ah_ A), .int p0]) (n := 3) (Nat.le_of_ble_eq_true rfl)
  rw [lg_entry_eq]
  generalize (lg_sl ([.ref (ah_ A), .int p0]) ++ List.replicate (3 - (lg_sl ([.ref (ah_ A), .int p0])).length) Slot.unset).toArray = ls at hl ⊢
  have hl : lv_has ls 3 [(0, .ref (ah_ A)), (1, .int p0)] := hl
  refine lv_iload_n hx hb dX2_clear_0 rfl (lv_at hl 1 rfl) ?_
  refine vp_callSi (W.runS (As := [.int p0]) (rest := []) ⟨hx, hb, hml, hown, hts⟩ (c_X2_isRow l p0) (va_cwS 1 hts (gi_S hbc tw_52 tw_53 tw_1 tw_54) rfl rfl rfl (by decide +kernel) ⟨Nat.le_of_ble_eq_true rfl, Nat.le_of_ble_eq_true rfl⟩) preEq rfl rfl hl.1 rfl (lv_room (Nat.le_of_ble_eq_true rfl)) dX2_clear_1 ⟨Nat.le_of_ble_eq_true rfl, Nat.le_of_ble_eq_true rfl⟩) (fun r hq => ?_)
  subst hq
  refine lv_if_ne (tgt := 10) hx hb dX2_clear_4 (by decide) (fun c1 => ?_) (fun c1 => ?_)
  · have hj_p0 := row_lt c1
    refine lv_aload_n hx hb dX2_clear_10 rfl (lv_at hl 0 rfl) ?_
    refine va_get (D := (dC, dI)) (ci := 2) (v := .ref (aq_ A)) (C := RX2) (T := TX2) (N := 2) hx hb hw igX2 hown hK hP 0 rfl rfl 0 (by decide) (hw _ tw_41) (fun _ h9 => h9) rfl dX2_clear_11 ?_
    refine lv_iload_n hx hb dX2_clear_14 rfl (lv_at hl 1 rfl) ?_
    refine va_aldq hx hb hK hP 1 0 rfl rfl (row_in c1) dX2_clear_15 ?_
    rw [rwF_at A hj_p0]
    refine gVi (As := []) (rest := []) ⟨hx, hb, hml, hown, hts⟩ (c_X0_ones l dC dI A u hj_p0) (cwV 0 hts (gi_V hbc tw_87 tw_88 tw_89 tw_2 tw_90) rfl rfl rfl (by decide +kernel) ⟨Nat.le_of_ble_eq_true rfl, Nat.le_of_ble_eq_true rfl⟩) (va_recv hK hP (ci := 0) (q0 := (4 + p0.toNatClampNeg)) rfl (wB_row A u hj_p0)) aB_mono aB_D hP hK hD hS rfl hl.1 rfl (Nat.le_of_ble_eq_true rfl) dX2_clear_16 ⟨Nat.le_of_ble_eq_true rfl, Nat.le_of_ble_eq_true rfl⟩ (fun r2 v4 H locs hq3 hP hD hS => ?_)
    obtain ⟨rfl, rfl⟩ := hq3
    refine lv_istore_n (lv' := [(2, .int (fX0_ones (u.1 p0.toNatClampNeg))), (0, .ref (ah_ A)), (1, .int p0)]) hx hb dX2_clear_19 rfl hl (by decide) rfl (fun ls hl => ?_)
    refine lv_aload_n hx hb dX2_clear_20 rfl (lv_at hl 1 rfl) ?_
    refine va_get (D := (dC, dI)) (ci := 2) (v := .ref (aq_ A)) (C := RX2) (T := TX2) (N := 2) hx hb hw igX2 hown hK hP 0 rfl rfl 0 (by decide) (hw _ tw_41) (fun _ h9 => h9) rfl dX2_clear_21 ?_
    refine lv_iload_n hx hb dX2_clear_24 rfl (lv_at hl 2 rfl) ?_
    refine va_aldq hx hb hK hP 1 0 rfl rfl (row_in c1) dX2_clear_25 ?_
    rw [rwF_at A hj_p0]
    refine lv_iconst (v := 0) hx hb dX2_clear_26 (by decide) ?_
    refine lv_iconst (v := 0) hx hb dX2_clear_27 (by decide) ?_
    refine lv_sipush (v := 4001) hx hb dX2_clear_28 (by decide) ?_
    refine gVv (As := [.int 0, .int 0, .int 4001]) (rest := []) ⟨hx, hb, hml, hown, hts⟩ (c_X0_change l dC dI A u hj_p0 0 0 4001) (cwV 3 hts (gi_V hbc tw_69 tw_70 tw_71 tw_2 tw_72) rfl rfl rfl (by decide +kernel) ⟨Nat.le_of_ble_eq_true rfl, Nat.le_of_ble_eq_true rfl⟩) (va_recv hK hP (ci := 0) (q0 := (4 + p0.toNatClampNeg)) rfl (wB_row A u hj_p0)) aB_mono aB_D hP hK hD hS rfl hl.1 rfl (Nat.le_of_ble_eq_true rfl) dX2_clear_31 ⟨Nat.le_of_ble_eq_true rfl, Nat.le_of_ble_eq_true rfl⟩ (fun v7 H locs hq6 hP hD hS => ?_)
    obtain rfl := hq6
    refine lv_iload_n hx hb dX2_clear_34 rfl (lv_at hl 0 rfl) ?_
    exact W.iret hx hb hr (fun t9 ht9 hW => ⟨⟨_, (upM u.1 p0.toNatClampNeg (fl (chW (u.1 p0.toNatClampNeg) 0 0 4001) (u.1 p0.toNatClampNeg) 63), u.2), rfl, Or.inl ⟨c1, ⟨rfl, rfl⟩⟩, by rw [ht9]; exact hP, va_K.moved hW.alike hK, hD⟩, hS.F ht9⟩) hS.2.2 dX2_clear_35
  · refine lv_bipush (v := -2) hx hb dX2_clear_7 (by decide) ?_
    exact W.iret hx hb hr (fun t9 ht9 hW => ⟨⟨_, u, rfl, Or.inr ⟨fun h => h c1, rfl, rfl⟩, by rw [ht9]; exact hP, va_K.moved hW.alike hK, hD⟩, hS.F ht9⟩) hS.2.2 dX2_clear_9
set_option maxHeartbeats 4000000 in
set_option maxRecDepth 100000 in
theorem c_X2_text (l : Launch) (dC : Nat → ClassId) (dI : Nat → Nat → Nat) (A : AdB) (u : StB) (p0 : Int32) : gMi l yX2_text wX2_text ({ frames := 4, cells := 0, slots := 0, locals := 89 }) (dC, dI) bwCl (tyB A) (wB A) (aB A) [.ref (ah_ A), .int p0] u (fun r v => ((¬ (fX2_isRow p0) = 0) ∧ (∃ q, (∃ x, pLU (u.1 p0.toNatClampNeg) 4000 0 x ∧ q = x + 1) ∧ ((q ≤ 128 ∧ (v.1 = u.1 ∧ txB v (wrT (u.1 p0.toNatClampNeg))) ∧ r = v.2.2) ∨ (¬ q ≤ 128 ∧ r = -2 ∧ u = v)))) ∨ (¬ (¬ (fX2_isRow p0) = 0) ∧ r = -2 ∧ u = v)) := by
  unfold gMi
  intro sz
  refine Met.ofW (cc := cX2_text) (maxL := 2) (ret := (some .int)) (by decide) rfl ?_
  intro p e s m args below meth c s₁ B hml hv
  obtain ⟨rfl, hsz, hP, hK, hD⟩ := hv
  subst hsz
  have hS : va_S (aB A s.heap.size) s.heap s.heap [] := va_S.rf
  have hx := B.exec
  have hb := B.bytes
  have hr := B.returns
  have hts := atoms_spec (ws := wX2_text) B.pre
  have hw : ∀ w ∈ tg_, w.before _ s = true := fun w h => hts w (List.mem_cons_of_mem _ h)
  have hown : s.vm.findClass RX2 = some m.cls := findClass_of_methodNamed B.named
  have hlocks := B.notSynchronized
  have hl := lv_entry ([.ref (ah_ A), .int p0]) (n := 2) (Nat.le_of_ble_eq_true rfl)
  rw [lg_entry_eq]
  generalize (lg_sl ([.ref (ah_ A), .int p0]) ++ List.replicate (2 - (lg_sl ([.ref (ah_ A), .int p0])).length) Slot.unset).toArray = ls at hl ⊢
  have hl : lv_has ls 2 [(0, .ref (ah_ A)), (1, .int p0)] := hl
  refine lv_iload_n hx hb dX2_text_0 rfl (lv_at hl 1 rfl) ?_
  refine vp_callSi (W.runS (As := [.int p0]) (rest := []) ⟨hx, hb, hml, hown, hts⟩ (c_X2_isRow l p0) (va_cwS 1 hts (gi_S hbc tw_52 tw_53 tw_1 tw_54) rfl rfl rfl (by decide +kernel) ⟨Nat.le_of_ble_eq_true rfl, Nat.le_of_ble_eq_true rfl⟩) preEq rfl rfl hl.1 rfl (lv_room (Nat.le_of_ble_eq_true rfl)) dX2_text_1 ⟨Nat.le_of_ble_eq_true rfl, Nat.le_of_ble_eq_true rfl⟩) (fun r hq => ?_)
  subst hq
  refine lv_if_eq (tgt := 22) hx hb dX2_text_4 (by decide) (fun c1 => ?_) (fun c1 => ?_)
  · refine lv_bipush (v := -2) hx hb dX2_text_22 (by decide) ?_
    exact W.iret hx hb hr (fun t9 ht9 hW => ⟨⟨_, u, rfl, Or.inr ⟨fun h => h c1, rfl, rfl⟩, by rw [ht9]; exact hP, va_K.moved hW.alike hK, hD⟩, hS.F ht9⟩) hS.2.2 dX2_text_24
  · have hj_p0 := row_lt c1
    refine lv_aload_n hx hb dX2_text_7 rfl (lv_at hl 0 rfl) ?_
    refine va_get (D := (dC, dI)) (ci := 2) (v := .ref (aq_ A)) (C := RX2) (T := TX2) (N := 2) hx hb hw igX2 hown hK hP 0 rfl rfl 0 (by decide) (hw _ tw_41) (fun _ h9 => h9) rfl dX2_text_8 ?_
    refine lv_iload_n hx hb dX2_text_11 rfl (lv_at hl 1 rfl) ?_
    refine va_aldq hx hb hK hP 1 0 rfl rfl (row_in c1) dX2_text_12 ?_
    rw [rwF_at A hj_p0]
    refine gVi (As := []) (rest := []) ⟨hx, hb, hml, hown, hts⟩ (c_X0_end l dC dI A u hj_p0) (cwV 0 hts (gi_V hbc tw_158 tw_159 tw_160 tw_2 tw_161) rfl rfl rfl (by decide +kernel) ⟨Nat.le_of_ble_eq_true rfl, Nat.le_of_ble_eq_true rfl⟩) (va_recv hK hP (ci := 0) (q0 := (4 + p0.toNatClampNeg)) rfl (wB_row A u hj_p0)) aB_mono aB_D hP hK hD hS rfl hl.1 rfl (Nat.le_of_ble_eq_true rfl) dX2_text_13 ⟨Nat.le_of_ble_eq_true rfl, Nat.le_of_ble_eq_true rfl⟩ (fun r2 v4 H locs hq3 hP hD hS => ?_)
    obtain ⟨hq3, rfl⟩ := hq3
    refine lv_sipush (v := 128) hx hb dX2_text_16 (by decide) ?_
    refine lv_icmp_le (tgt := 25) hx hb dX2_text_19 (by decide) (fun c5 => ?_) (fun c5 => ?_)
    · refine lv_aload_n hx hb dX2_text_25 rfl (lv_at hl 0 rfl) ?_
      refine va_get (D := (dC, dI)) (ci := 2) (v := .ref (ag_ A)) (C := RX2) (T := TX2) (N := 2) hx hb hw igX2 hown hK hP 0 rfl rfl 1 (by decide) (hw _ tw_42) (fun _ h9 => h9) rfl dX2_text_26 ?_
      refine lv_aload_n hx hb dX2_text_29 rfl (lv_at hl 0 rfl) ?_
      refine va_get (D := (dC, dI)) (ci := 2) (v := .ref (aq_ A)) (C := RX2) (T := TX2) (N := 2) hx hb hw igX2 hown hK hP 0 rfl rfl 0 (by decide) (hw _ tw_41) (fun _ h9 => h9) rfl dX2_text_30 ?_
      refine lv_iload_n hx hb dX2_text_33 rfl (lv_at hl 1 rfl) ?_
      refine va_aldq hx hb hK hP 1 0 rfl rfl (row_in c1) dX2_text_34 ?_
      rw [rwF_at A hj_p0]
      refine gVv (As := [.ref (ar_ A p0.toNatClampNeg)]) (rest := []) ⟨hx, hb, hml, hown, hts⟩ (c_X1_write l dC dI A u hj_p0) (cwV 1 hts (gi_V hbc tw_205 tw_206 tw_207 tw_3 tw_208) rfl rfl rfl (by decide +kernel) ⟨Nat.le_of_ble_eq_true rfl, Nat.le_of_ble_eq_true rfl⟩) (va_recv hK hP (ci := 1) (q0 := 2) rfl rfl) aB_mono aB_D hP hK hD hS rfl hl.1 rfl (Nat.le_of_ble_eq_true rfl) dX2_text_35 ⟨Nat.le_of_ble_eq_true rfl, Nat.le_of_ble_eq_true rfl⟩ (fun v8 H locs hq7 hP hD hS => ?_)
      obtain ⟨h9, ht10⟩ := hq7
      refine lv_aload_n hx hb dX2_text_38 rfl (lv_at hl 0 rfl) ?_
      refine va_get (D := (dC, dI)) (ci := 2) (v := .ref (ag_ A)) (C := RX2) (T := TX2) (N := 2) hx hb hw igX2 hown hK hP 0 rfl rfl 1 (by decide) (hw _ tw_42) (fun _ h9 => h9) rfl dX2_text_39 ?_
      refine gVi (As := []) (rest := []) ⟨hx, hb, hml, hown, hts⟩ (c_X1_length l dC dI A v8) (cwV 0 hts (gi_V hbc tw_222 tw_223 tw_224 tw_3 tw_225) rfl rfl rfl (by decide +kernel) ⟨Nat.le_of_ble_eq_true rfl, Nat.le_of_ble_eq_true rfl⟩) (va_recv hK hP (ci := 1) (q0 := 2) rfl rfl) aB_mono aB_D hP hK hD hS rfl hl.1 rfl (Nat.le_of_ble_eq_true rfl) dX2_text_42 ⟨Nat.le_of_ble_eq_true rfl, Nat.le_of_ble_eq_true rfl⟩ (fun r11 v13 H locs hq12 hP hD hS => ?_)
      obtain ⟨rfl, rfl⟩ := hq12
      exact W.iret hx hb hr (fun t9 ht9 hW => ⟨⟨_, v8, rfl, Or.inl ⟨c1, ⟨_, hq3, Or.inl ⟨c5, ⟨h9, ht10⟩, rfl⟩⟩⟩, by rw [ht9]; exact hP, va_K.moved hW.alike hK, hD⟩, hS.F ht9⟩) hS.2.2 dX2_text_45
    · refine lv_bipush (v := -2) hx hb dX2_text_22 (by decide) ?_
      exact W.iret hx hb hr (fun t9 ht9 hW => ⟨⟨_, u, rfl, Or.inl ⟨c1, ⟨_, hq3, Or.inr ⟨c5, rfl, rfl⟩⟩⟩, by rw [ht9]; exact hP, va_K.moved hW.alike hK, hD⟩, hS.F ht9⟩) hS.2.2 dX2_text_24
set_option maxHeartbeats 4000000 in
set_option maxRecDepth 100000 in
theorem c_X2_octet (l : Launch) (dC : Nat → ClassId) (dI : Nat → Nat → Nat) (A : AdB) (u : StB) {t : List Int32} (ht : txB u t) (p0 : Int32) : gMi l yX2_octet wX2_octet ({ frames := 1, cells := 0, slots := 0, locals := 21 }) (dC, dI) bwCl (tyB A) (wB A) (aB A) [.ref (ah_ A), .int p0] u (fun r v => (r = fX1_codeAt u p0 ∧ u = v)) := by
  unfold gMi
  intro sz
  refine Met.ofW (cc := cX2_octet) (maxL := 2) (ret := (some .int)) (by decide) rfl ?_
  intro p e s m args below meth c s₁ B hml hv
  obtain ⟨rfl, hsz, hP, hK, hD⟩ := hv
  subst hsz
  have hS : va_S (aB A s.heap.size) s.heap s.heap [] := va_S.rf
  have hx := B.exec
  have hb := B.bytes
  have hr := B.returns
  have hts := atoms_spec (ws := wX2_octet) B.pre
  have hw : ∀ w ∈ tg_, w.before _ s = true := fun w h => hts w (List.mem_cons_of_mem _ h)
  have hown : s.vm.findClass RX2 = some m.cls := findClass_of_methodNamed B.named
  have hlocks := B.notSynchronized
  have hl := lv_entry ([.ref (ah_ A), .int p0]) (n := 2) (Nat.le_of_ble_eq_true rfl)
  rw [lg_entry_eq]
  generalize (lg_sl ([.ref (ah_ A), .int p0]) ++ List.replicate (2 - (lg_sl ([.ref (ah_ A), .int p0])).length) Slot.unset).toArray = ls at hl ⊢
  have hl : lv_has ls 2 [(0, .ref (ah_ A)), (1, .int p0)] := hl
  refine lv_aload_n hx hb dX2_octet_0 rfl (lv_at hl 0 rfl) ?_
  refine va_get (D := (dC, dI)) (ci := 2) (v := .ref (ag_ A)) (C := RX2) (T := TX2) (N := 2) hx hb hw igX2 hown hK hP 0 rfl rfl 1 (by decide) (hw _ tw_42) (fun _ h9 => h9) rfl dX2_octet_1 ?_
  refine lv_iload_n hx hb dX2_octet_4 rfl (lv_at hl 1 rfl) ?_
  refine gVi (As := [.int p0]) (rest := []) ⟨hx, hb, hml, hown, hts⟩ (c_X1_codeAt l dC dI A u ht p0) (cwV 1 hts (gi_V hbc tw_230 tw_231 tw_232 tw_3 tw_233) rfl rfl rfl (by decide +kernel) ⟨Nat.le_of_ble_eq_true rfl, Nat.le_of_ble_eq_true rfl⟩) (va_recv hK hP (ci := 1) (q0 := 2) rfl rfl) aB_mono aB_D hP hK hD hS rfl hl.1 rfl (Nat.le_of_ble_eq_true rfl) dX2_octet_5 ⟨Nat.le_of_ble_eq_true rfl, Nat.le_of_ble_eq_true rfl⟩ (fun r1 v3 H locs hq2 hP hD hS => ?_)
  obtain ⟨rfl, rfl⟩ := hq2
  exact W.iret hx hb hr (fun t9 ht9 hW => ⟨⟨_, u, rfl, ⟨rfl, rfl⟩, by rw [ht9]; exact hP, va_K.moved hW.alike hK, hD⟩, hS.F ht9⟩) hS.2.2 dX2_octet_8
