set_option maxHeartbeats 4000000 in
set_option maxRecDepth 100000 in
theorem c_X3_ones (l : Launch) (dC : Nat → ClassId) (dI : Nat → Nat → Nat) (A : AdR) (u : StR) (p0 : Int32) (hj_p0 : p0.toNatClampNeg < 4) (hin : vp_in p0 4) : gMi l yX3_ones wX3_ones ({ frames := 0, cells := 0, slots := 0, locals := 0 }) (dC, dI) bwCl (tyR A) (wR A) (aR A) [.ref (mh_ A), .int p0] u (fun r v => r = nI (cnt (u.1 p0.toNatClampNeg) 4032) ∧ u = v) := by
  unfold gMi
  intro sz
  refine Met.ofW (cc := cX3_ones) (maxL := 4) (ret := (some .int)) (by decide) rfl ?_
  intro p e s m args below meth c s₁ B hml hv
  obtain ⟨rfl, hsz, hP, hK, hD⟩ := hv
  subst hsz
  have hS : va_S (aR A s.heap.size) s.heap s.heap [] := va_S.rf
  have hx := B.exec
  have hb := B.bytes
  have hr := B.returns
  have hts := atoms_spec (ws := wX3_ones) B.pre
  have hw : ∀ w ∈ tg_, w.before _ s = true := fun w h => hts w (List.mem_cons_of_mem _ h)
  have hown : s.vm.findClass RX3 = some m.cls := findClass_of_methodNamed B.named
  have hlocks := B.notSynchronized
  have hl := lv_entry ([.ref (mh_ A), .int p0]) (n := 4) (Nat.le_of_ble_eq_true rfl)
  rw [lg_entry_eq]
  generalize (lg_sl ([.ref (mh_ A), .int p0]) ++ List.replicate (4 - (lg_sl ([.ref (mh_ A), .int p0])).length) Slot.unset).toArray = ls at hl ⊢
  have hl : lv_has ls 4 [(0, .ref (mh_ A)), (1, .int p0)] := hl
  refine lv_iconst (v := 0) hx hb dX3_ones_0 (by decide) ?_
  refine lv_istore_n (lv' := [(2, .int 0), (0, .ref (mh_ A)), (1, .int p0)]) hx hb dX3_ones_1 rfl hl (by decide) rfl (fun ls hl => ?_)
  refine lv_iconst (v := 0) hx hb dX3_ones_2 (by decide) ?_
  refine lv_istore_n (lv' := [(3, .int 0), (2, .int 0), (0, .ref (mh_ A)), (1, .int p0)]) hx hb dX3_ones_3 rfl hl (by decide) rfl (fun ls hl => ?_)
  have hu_i : u = u := rfl
  refine w_loop (N := 4032) (i0 := 0) (fun i H locs ls => va_P (dC, dI) bwCl (wR A u) H ∧ va_D (aR A s.heap.size) (wR A u) ∧ va_S (aR A s.heap.size) s.heap H locs ∧ lv_has ls 4 [(0, .ref (mh_ A)), (1, .int p0), (2, .int (nI (cnt (u.1 p0.toNatClampNeg) i))), (3, .int (nI i))]) (by decide) ⟨tr_PR hu_i hP, tr_DR hu_i hD, hS, lv_sub hl [2, 3, 1, 0] rfl⟩ ?_
  intro i H locs ls hz_i hi_i hI ih_i
  obtain ⟨hP, hD, hS, hl⟩ := hI
  refine lv_iload_n hx hb dX3_ones_4 rfl (lv_at hl 3 rfl) ?_
  refine lv_sipush (v := 4032) hx hb dX3_ones_5 (by decide) ?_
  refine lv_icmp_ge (tgt := 36) hx hb dX3_ones_8 (by decide) (fun c1 => ?_) (fun c1 => ?_)
  · obtain rfl : i = 4032 := lp_out (n := 4032) rfl hi_i (by decide) c1
    refine lv_iload_n hx hb dX3_ones_36 rfl (lv_at hl 2 rfl) ?_
    exact W.iret hx hb hr (fun t9 ht9 hW => ⟨⟨_, u, rfl, ⟨rfl, rfl⟩, by rw [ht9]; exact hP, va_K.moved hW.alike hK, hD⟩, hS.F ht9⟩) hS.2.2 dX3_ones_37
  · have hlt_i : i < 4032 := lp_in (n := 4032) rfl hi_i c1
    refine lv_iload_n hx hb dX3_ones_11 rfl (lv_at hl 2 rfl) ?_
    refine lv_aload_n hx hb dX3_ones_12 rfl (lv_at hl 0 rfl) ?_
    refine va_get (D := (dC, dI)) (ci := 3) (v := .ref (mq_ A)) (C := RX3) (T := TX3) (N := 4) hx hb hw igX3 hown hK hP 0 rfl rfl 0 (by decide) (hw _ tw_242) (fun _ h9 => h9) rfl dX3_ones_13 ?_
    refine lv_iload_n hx hb dX3_ones_16 rfl (lv_at hl 1 rfl) ?_
    refine va_aldz hx hb hK hP 1 0 rfl rfl hin dX3_ones_17 ?_
    rw [mqF_at A hj_p0]
    refine lv_iload_n hx hb dX3_ones_18 rfl (lv_at hl 3 rfl) ?_
    refine va_zald hx hb hK hP (4 + p0.toNatClampNeg) (3 + p0.toNatClampNeg) (wR_row A u hj_p0) (tyR_row A hj_p0) (vp_in_nI (by omega) (by omega)) dX3_ones_19 ?_
    rw [nI_clamp (n := i) (by omega)]
    refine lv_if_eq (tgt := 27) hx hb dX3_ones_20 (by decide) (fun c2 => ?_) (fun c2 => ?_)
    · have c2 := b1f (b := _) c2
      refine lv_iconst (v := 0) hx hb dX3_ones_27 (by decide) ?_
      refine lv_iadd hx hb dX3_ones_28 ?_
      refine lv_topi (fun z3 ez3 => ?_)
      obtain rfl : z3 = nI (cnt (u.1 p0.toNatClampNeg) (i + 1)) := ez3.trans (cn_0 c2)
      refine lv_istore_n (lv' := [(2, .int (nI (cnt (u.1 p0.toNatClampNeg) (i + 1)))), (0, .ref (mh_ A)), (1, .int p0), (3, .int (nI i))]) hx hb dX3_ones_29 rfl hl (by decide) rfl (fun ls hl => ?_)
      refine lv_iinc (v := nI (i + 1)) (lv' := [(3, .int (nI (i + 1))), (2, .int (nI (cnt (u.1 p0.toNatClampNeg) (i + 1)))), (0, .ref (mh_ A)), (1, .int p0)]) hx hb dX3_ones_30 hl (k := 3) rfl (nI_1 _) (by decide) rfl (fun ls hl => ?_)
      refine lv_goto (tgt := 4) hx hb dX3_ones_33 (by decide) ?_
      have hv_i : u = u := rfl
      exact ih_i _ _ _ (by omega) ⟨tr_PR hv_i hP, tr_DR hv_i hD, hS, lv_sub hl [2, 3, 1, 0] rfl⟩
    · have c2 := b1t (b := _) c2
      refine lv_iconst (v := 1) hx hb dX3_ones_23 (by decide) ?_
      refine lv_goto (tgt := 28) hx hb dX3_ones_24 (by decide) ?_
      refine lv_iadd hx hb dX3_ones_28 ?_
      refine lv_topi (fun z4 ez4 => ?_)
      obtain rfl : z4 = nI (cnt (u.1 p0.toNatClampNeg) (i + 1)) := ez4.trans (cn_1 c2)
      refine lv_istore_n (lv' := [(2, .int (nI (cnt (u.1 p0.toNatClampNeg) (i + 1)))), (0, .ref (mh_ A)), (1, .int p0), (3, .int (nI i))]) hx hb dX3_ones_29 rfl hl (by decide) rfl (fun ls hl => ?_)
      refine lv_iinc (v := nI (i + 1)) (lv' := [(3, .int (nI (i + 1))), (2, .int (nI (cnt (u.1 p0.toNatClampNeg) (i + 1)))), (0, .ref (mh_ A)), (1, .int p0)]) hx hb dX3_ones_30 hl (k := 3) rfl (nI_1 _) (by decide) rfl (fun ls hl => ?_)
      refine lv_goto (tgt := 4) hx hb dX3_ones_33 (by decide) ?_
      have hv_i : u = u := rfl
      exact ih_i _ _ _ (by omega) ⟨tr_PR hv_i hP, tr_DR hv_i hD, hS, lv_sub hl [2, 3, 1, 0] rfl⟩
set_option maxHeartbeats 4000000 in
set_option maxRecDepth 100000 in
theorem c_X3_end (l : Launch) (dC : Nat → ClassId) (dI : Nat → Nat → Nat) (A : AdR) (u : StR) (p0 : Int32) (hj_p0 : p0.toNatClampNeg < 4) (hin : vp_in p0 4) : gMi l yX3_end wX3_end ({ frames := 0, cells := 0, slots := 0, locals := 0 }) (dC, dI) bwCl (tyR A) (wR A) (aR A) [.ref (mh_ A), .int p0] u (fun r v => peR (u.1 p0.toNatClampNeg) r ∧ u = v) := by
  unfold gMi
  intro sz
  refine Met.ofW (cc := cX3_end) (maxL := 3) (ret := (some .int)) (by decide) rfl ?_
  intro p e s m args below meth c s₁ B hml hv
  obtain ⟨rfl, hsz, hP, hK, hD⟩ := hv
  subst hsz
  have hS : va_S (aR A s.heap.size) s.heap s.heap [] := va_S.rf
  have hx := B.exec
  have hb := B.bytes
  have hr := B.returns
  have hts := atoms_spec (ws := wX3_end) B.pre
  have hw : ∀ w ∈ tg_, w.before _ s = true := fun w h => hts w (List.mem_cons_of_mem _ h)
  have hown : s.vm.findClass RX3 = some m.cls := findClass_of_methodNamed B.named
  have hlocks := B.notSynchronized
  have hl := lv_entry ([.ref (mh_ A), .int p0]) (n := 3) (Nat.le_of_ble_eq_true rfl)
  rw [lg_entry_eq]
  generalize (lg_sl ([.ref (mh_ A), .int p0]) ++ List.replicate (3 - (lg_sl ([.ref (mh_ A), .int p0])).length) Slot.unset).toArray = ls at hl ⊢
  have hl : lv_has ls 3 [(0, .ref (mh_ A)), (1, .int p0)] := hl
  refine lv_sipush (v := 4032) hx hb dX3_end_0 (by decide) ?_
  refine lv_istore_n (lv' := [(2, .int 4032), (0, .ref (mh_ A)), (1, .int p0)]) hx hb dX3_end_3 rfl hl (by decide) rfl (fun ls hl => ?_)
  refine w_loopD (N := 4032) (fun i H locs ls => va_P (dC, dI) bwCl (wR A u) H ∧ va_D (aR A s.heap.size) (wR A u) ∧ va_S (aR A s.heap.size) s.heap H locs ∧ lv_has ls 3 [(0, .ref (mh_ A)), (1, .int p0), (2, .int (nI i))] ∧ (∀ k, i ≤ k → k < 4032 → u.1 p0.toNatClampNeg k = false)) ⟨hP, hD, hS, lv_sub hl [1, 2, 0] rfl, fun k h1 h2 => absurd h2 (by omega)⟩ ?_ ?_
  · intro H locs ls hI
    obtain ⟨hP, hD, hS, hl, hF⟩ := hI
    have hl : lv_has ls 3 [(0, .ref (mh_ A)), (1, .int p0), (2, .int (nI 0))] := hl
    refine lv_iload_n hx hb dX3_end_4 rfl (lv_at hl 2 rfl) ?_
    refine lv_if_le (tgt := 27) hx hb dX3_end_5 (by decide) (fun c1 => ?_) (fun c1 => ?_)
    · refine lv_iload_n hx hb dX3_end_27 rfl (lv_at hl 2 rfl) ?_
      exact W.iret hx hb hr (fun t9 ht9 hW => ⟨⟨_, u, rfl, ⟨⟨0, by decide, rfl, hF, fun h => absurd h (by decide)⟩, rfl⟩, by rw [ht9]; exact hP, va_K.moved hW.alike hK, hD⟩, hS.F ht9⟩) hS.2.2 dX3_end_28
    · exact absurd (i_rf _) c1
  · intro i H locs ls hlt hI ih
    obtain ⟨hP, hD, hS, hl, hF⟩ := hI
    have hl : lv_has ls 3 [(0, .ref (mh_ A)), (1, .int p0), (2, .int (nI (i + 1)))] := hl
    refine lv_iload_n hx hb dX3_end_4 rfl (lv_at hl 2 rfl) ?_
    refine lv_if_le (tgt := 27) hx hb dX3_end_5 (by decide) (fun c2 => ?_) (fun c2 => ?_)
    · exact absurd c2 (nI_nle (by omega) (by omega))
    · refine lv_aload_n hx hb dX3_end_8 rfl (lv_at hl 0 rfl) ?_
      refine va_get (D := (dC, dI)) (ci := 3) (v := .ref (mq_ A)) (C := RX3) (T := TX3) (N := 4) hx hb hw igX3 hown hK hP 0 rfl rfl 0 (by decide) (hw _ tw_242) (fun _ h9 => h9) rfl dX3_end_9 ?_
      refine lv_iload_n hx hb dX3_end_12 rfl (lv_at hl 1 rfl) ?_
      refine va_aldz hx hb hK hP 1 0 rfl rfl hin dX3_end_13 ?_
      rw [mqF_at A hj_p0]
      refine lv_iload_n hx hb dX3_end_14 rfl (lv_at hl 2 rfl) ?_
      refine lv_iconst (v := 1) hx hb dX3_end_15 (by decide) ?_
      refine lv_isub hx hb dX3_end_16 ?_
      refine lv_topi (fun z3 ez3 => ?_)
      obtain rfl : z3 = nI i := ez3.trans (nI_pred _)
      refine va_zald hx hb hK hP (4 + p0.toNatClampNeg) (3 + p0.toNatClampNeg) (wR_row A u hj_p0) (tyR_row A hj_p0) (vp_in_nI (by omega) (by omega)) dX3_end_17 ?_
      rw [nI_clamp (n := i) (by omega)]
      refine lv_if_ne (tgt := 27) hx hb dX3_end_18 (by decide) (fun c4 => ?_) (fun c4 => ?_)
      · have c4 := b1t (b := _) c4
        refine lv_iload_n hx hb dX3_end_27 rfl (lv_at hl 2 rfl) ?_
        exact W.iret hx hb hr (fun t9 ht9 hW => ⟨⟨_, u, rfl, ⟨⟨i + 1, by omega, rfl, hF, fun _ => c4⟩, rfl⟩, by rw [ht9]; exact hP, va_K.moved hW.alike hK, hD⟩, hS.F ht9⟩) hS.2.2 dX3_end_28
      · have c4 := b1f (b := _) c4
        refine lv_iinc (v := nI i) (lv' := [(2, .int (nI i)), (0, .ref (mh_ A)), (1, .int p0)]) hx hb dX3_end_21 hl (k := 2) rfl (pk_m1 _) (by decide) rfl (fun ls hl => ?_)
        refine lv_goto (tgt := 4) hx hb dX3_end_24 (by decide) ?_
        exact ih _ _ _ ⟨hP, hD, hS, lv_sub hl [1, 2, 0] rfl, dn_s hF c4⟩
set_option maxHeartbeats 4000000 in
set_option maxRecDepth 100000 in
theorem c_X3_set (l : Launch) (dC : Nat → ClassId) (dI : Nat → Nat → Nat) (A : AdR) (u : StR)  (p0 : Int32) (p1 : Int32) (p2 : Int32) : gMi l yX3_set wX3_set ({ frames := 1, cells := 0, slots := 0, locals := 21 }) (dC, dI) bwCl (tyR A) (wR A) (aR A) [.ref (mh_ A), .int p0, .int p1, .int p2] u (fun r v => ((¬ (fX3_isRow p0) = 0 ∧ ¬ p1 < 0 ∧ ¬ 2 < p1 ∧ ¬ (fX3_isPlace p2) = 0) ∧ (r = bz (u.1 p0.toNatClampNeg) p2.toNatClampNeg ∧ ((upR u.1 p0.toNatClampNeg (upZ (u.1 p0.toNatClampNeg) p2.toNatClampNeg (chZ p1 (u.1 p0.toNatClampNeg p2.toNatClampNeg))), u.2) : StR) = v)) ∨ (¬ (¬ (fX3_isRow p0) = 0 ∧ ¬ p1 < 0 ∧ ¬ 2 < p1 ∧ ¬ (fX3_isPlace p2) = 0) ∧ r = -2 ∧ u = v)) := by
  unfold gMi
  intro sz
  refine Met.ofW (cc := cX3_set) (maxL := 5) (ret := (some .int)) (by decide) rfl ?_
  intro p e s m args below meth c s₁ B hml hv
  obtain ⟨rfl, hsz, hP, hK, hD⟩ := hv
  subst hsz
  have hS : va_S (aR A s.heap.size) s.heap s.heap [] := va_S.rf
  have hx := B.exec
  have hb := B.bytes
  have hr := B.returns
  have hts := atoms_spec (ws := wX3_set) B.pre
  have hw : ∀ w ∈ tg_, w.before _ s = true := fun w h => hts w (List.mem_cons_of_mem _ h)
  have hown : s.vm.findClass RX3 = some m.cls := findClass_of_methodNamed B.named
  have hlocks := B.notSynchronized
  have hl := lv_entry ([.ref (mh_ A), .int p0, .int p1, .int p2]) (n := 5) (Nat.le_of_ble_eq_true rfl)
  rw [lg_entry_eq]
  generalize (lg_sl ([.ref (mh_ A), .int p0, .int p1, .int p2]) ++ List.replicate (5 - (lg_sl ([.ref (mh_ A), .int p0, .int p1, .int p2])).length) Slot.unset).toArray = ls at hl ⊢
  have hl : lv_has ls 5 [(0, .ref (mh_ A)), (1, .int p0), (2, .int p1), (3, .int p2)] := hl
  refine lv_iload_n hx hb dX3_set_0 rfl (lv_at hl 1 rfl) ?_
  refine vp_callSi (W.runS (As := [.int p0]) (rest := []) ⟨hx, hb, hml, hown, hts⟩ (c_X3_isRow l p0) (va_cwS 1 hts (gi_S hbc tw_261 tw_262 tw_4 tw_263) rfl rfl rfl (by decide +kernel) ⟨Nat.le_of_ble_eq_true rfl, Nat.le_of_ble_eq_true rfl⟩) preEq rfl rfl hl.1 rfl (lv_room (Nat.le_of_ble_eq_true rfl)) dX3_set_1 ⟨Nat.le_of_ble_eq_true rfl, Nat.le_of_ble_eq_true rfl⟩) (fun r hq => ?_)
  subst hq
  refine lv_if_eq (tgt := 23) hx hb dX3_set_4 (by decide) (fun c1 => ?_) (fun c1 => ?_)
  · refine lv_bipush (v := -2) hx hb dX3_set_23 (by decide) ?_
    exact W.iret hx hb hr (fun t9 ht9 hW => ⟨⟨_, u, rfl, Or.inr ⟨fun h => h.1 c1, rfl, rfl⟩, by rw [ht9]; exact hP, va_K.moved hW.alike hK, hD⟩, hS.F ht9⟩) hS.2.2 dX3_set_25
  · have hj_p0 := row_lt (p := p0) c1
    refine lv_iload_n hx hb dX3_set_7 rfl (lv_at hl 2 rfl) ?_
    refine lv_if_lt (tgt := 23) hx hb dX3_set_8 (by decide) (fun c2 => ?_) (fun c2 => ?_)
    · refine lv_bipush (v := -2) hx hb dX3_set_23 (by decide) ?_
      exact W.iret hx hb hr (fun t9 ht9 hW => ⟨⟨_, u, rfl, Or.inr ⟨fun h => h.2.1 c2, rfl, rfl⟩, by rw [ht9]; exact hP, va_K.moved hW.alike hK, hD⟩, hS.F ht9⟩) hS.2.2 dX3_set_25
    · refine lv_iload_n hx hb dX3_set_11 rfl (lv_at hl 2 rfl) ?_
      refine lv_iconst (v := 2) hx hb dX3_set_12 (by decide) ?_
      refine lv_icmp_gt (tgt := 23) hx hb dX3_set_13 (by decide) (fun c3 => ?_) (fun c3 => ?_)
      · refine lv_bipush (v := -2) hx hb dX3_set_23 (by decide) ?_
        exact W.iret hx hb hr (fun t9 ht9 hW => ⟨⟨_, u, rfl, Or.inr ⟨fun h => h.2.2.1 c3, rfl, rfl⟩, by rw [ht9]; exact hP, va_K.moved hW.alike hK, hD⟩, hS.F ht9⟩) hS.2.2 dX3_set_25
      · refine lv_iload_n hx hb dX3_set_16 rfl (lv_at hl 3 rfl) ?_
        refine vp_callSi (W.runS (As := [.int p2]) (rest := []) ⟨hx, hb, hml, hown, hts⟩ (c_X3_isPlace l p2) (va_cwS 1 hts (gi_S hbc tw_264 tw_265 tw_4 tw_266) rfl rfl rfl (by decide +kernel) ⟨Nat.le_of_ble_eq_true rfl, Nat.le_of_ble_eq_true rfl⟩) preEq rfl rfl hl.1 rfl (lv_room (Nat.le_of_ble_eq_true rfl)) dX3_set_17 ⟨Nat.le_of_ble_eq_true rfl, Nat.le_of_ble_eq_true rfl⟩) (fun r hq => ?_)
        subst hq
        refine lv_if_ne (tgt := 26) hx hb dX3_set_20 (by decide) (fun c4 => ?_) (fun c4 => ?_)
        · refine lv_aload_n hx hb dX3_set_26 rfl (lv_at hl 0 rfl) ?_
          refine va_get (D := (dC, dI)) (ci := 3) (v := .ref (mq_ A)) (C := RX3) (T := TX3) (N := 4) hx hb hw igX3 hown hK hP 0 rfl rfl 0 (by decide) (hw _ tw_242) (fun _ h9 => h9) rfl dX3_set_27 ?_
          refine lv_iload_n hx hb dX3_set_30 rfl (lv_at hl 1 rfl) ?_
          refine va_aldz hx hb hK hP 1 0 rfl rfl (row_in (p := p0) c1) dX3_set_31 ?_
          rw [mqF_at A hj_p0]
          refine lv_iload_n hx hb dX3_set_32 rfl (lv_at hl 3 rfl) ?_
          refine va_zald hx hb hK hP (4 + p0.toNatClampNeg) (3 + p0.toNatClampNeg) (wR_row A u hj_p0) (tyR_row A hj_p0) (pl_4032 c4) dX3_set_33 ?_
          refine lv_istore (lv' := [(4, .int (bz (u.1 p0.toNatClampNeg) p2.toNatClampNeg)), (0, .ref (mh_ A)), (1, .int p0), (2, .int p1), (3, .int p2)]) hx hb dX3_set_34 hl (by decide) rfl (fun ls hl => ?_)
          refine lv_aload_n hx hb dX3_set_36 rfl (lv_at hl 1 rfl) ?_
          refine va_get (D := (dC, dI)) (ci := 3) (v := .ref (mq_ A)) (C := RX3) (T := TX3) (N := 4) hx hb hw igX3 hown hK hP 0 rfl rfl 0 (by decide) (hw _ tw_242) (fun _ h9 => h9) rfl dX3_set_37 ?_
          refine lv_iload_n hx hb dX3_set_40 rfl (lv_at hl 2 rfl) ?_
          refine va_aldz hx hb hK hP 1 0 rfl rfl (row_in (p := p0) c1) dX3_set_41 ?_
          rw [mqF_at A hj_p0]
          refine lv_iload_n hx hb dX3_set_42 rfl (lv_at hl 4 rfl) ?_
          refine lv_iload hx hb dX3_set_43 (lv_at hl 0 rfl) ?_
          refine lv_iload_n hx hb dX3_set_45 rfl (lv_at hl 3 rfl) ?_
          refine vp_callSi (W.runS (As := [.int (bz (u.1 p0.toNatClampNeg) p2.toNatClampNeg), .int p1]) (rest := [.int p2, .ref (mr_ A p0.toNatClampNeg)]) ⟨hx, hb, hml, hown, hts⟩ (c_X3_changed l (bz (u.1 p0.toNatClampNeg) p2.toNatClampNeg) p1) (va_cwS 2 hts (gi_S hbc tw_267 tw_268 tw_4 tw_269) rfl rfl rfl (by decide +kernel) ⟨Nat.le_of_ble_eq_true rfl, Nat.le_of_ble_eq_true rfl⟩) preEq rfl rfl hl.1 rfl (lv_room (Nat.le_of_ble_eq_true rfl)) dX3_set_46 ⟨Nat.le_of_ble_eq_true rfl, Nat.le_of_ble_eq_true rfl⟩) (fun r hq => ?_)
          subst hq
          refine va_zast hx hb hK hP hD hS (4 + p0.toNatClampNeg) (3 + p0.toNatClampNeg) (wR_row A u hj_p0) (tyR_row A hj_p0) (pl_4032 c4) dX3_set_49 (fun H locs hP hD hS => ?_)
          have hP : va_P (dC, dI) bwCl (wR A (upR u.1 p0.toNatClampNeg (upZ (u.1 p0.toNatClampNeg) p2.toNatClampNeg (chZ p1 ((u.1 p0.toNatClampNeg) p2.toNatClampNeg))), u.2)) H := stR_P (ch_z _ _) hj_p0 hP
          have hD : va_D (aR A s.heap.size) (wR A (upR u.1 p0.toNatClampNeg (upZ (u.1 p0.toNatClampNeg) p2.toNatClampNeg (chZ p1 ((u.1 p0.toNatClampNeg) p2.toNatClampNeg))), u.2)) := stR_D (ch_z _ _) hj_p0 hD
          refine lv_iload hx hb dX3_set_50 (lv_at hl 0 rfl) ?_
          refine lv_if_eq (tgt := 59) hx hb dX3_set_52 (by decide) (fun c5 => ?_) (fun c5 => ?_)
          · have c5 := b1f (b := _) c5
            refine lv_iconst (v := 0) hx hb dX3_set_59 (by decide) ?_
            exact W.iret hx hb hr (fun t9 ht9 hW => ⟨⟨_, (upR u.1 p0.toNatClampNeg (upZ (u.1 p0.toNatClampNeg) p2.toNatClampNeg (chZ p1 ((u.1 p0.toNatClampNeg) p2.toNatClampNeg))), u.2), rfl, Or.inl ⟨⟨c1, c2, c3, c4⟩, ⟨z_lit0 c5, rfl⟩⟩, by rw [ht9]; exact hP, va_K.moved hW.alike hK, hD⟩, hS.F ht9⟩) hS.2.2 dX3_set_60
          · have c5 := b1t (b := _) c5
            refine lv_iconst (v := 1) hx hb dX3_set_55 (by decide) ?_
            refine lv_goto (tgt := 60) hx hb dX3_set_56 (by decide) ?_
            exact W.iret hx hb hr (fun t9 ht9 hW => ⟨⟨_, (upR u.1 p0.toNatClampNeg (upZ (u.1 p0.toNatClampNeg) p2.toNatClampNeg (chZ p1 ((u.1 p0.toNatClampNeg) p2.toNatClampNeg))), u.2), rfl, Or.inl ⟨⟨c1, c2, c3, c4⟩, ⟨z_lit1 c5, rfl⟩⟩, by rw [ht9]; exact hP, va_K.moved hW.alike hK, hD⟩, hS.F ht9⟩) hS.2.2 dX3_set_60
        · refine lv_bipush (v := -2) hx hb dX3_set_23 (by decide) ?_
          exact W.iret hx hb hr (fun t9 ht9 hW => ⟨⟨_, u, rfl, Or.inr ⟨fun h => h.2.2.2 c4, rfl, rfl⟩, by rw [ht9]; exact hP, va_K.moved hW.alike hK, hD⟩, hS.F ht9⟩) hS.2.2 dX3_set_25
set_option maxHeartbeats 4000000 in
set_option maxRecDepth 100000 in
theorem c_X3_get (l : Launch) (dC : Nat → ClassId) (dI : Nat → Nat → Nat) (A : AdR) (u : StR)  (p0 : Int32) (p1 : Int32) : gMi l yX3_get wX3_get ({ frames := 1, cells := 0, slots := 0, locals := 20 }) (dC, dI) bwCl (tyR A) (wR A) (aR A) [.ref (mh_ A), .int p0, .int p1] u (fun r v => ((¬ (fX3_isRow p0) = 0 ∧ ¬ (fX3_isPlace p1) = 0) ∧ (r = bz (u.1 p0.toNatClampNeg) p1.toNatClampNeg ∧ u = v)) ∨ (¬ (¬ (fX3_isRow p0) = 0 ∧ ¬ (fX3_isPlace p1) = 0) ∧ r = -2 ∧ u = v)) := by
  unfold gMi
  intro sz
  refine Met.ofW (cc := cX3_get) (maxL := 3) (ret := (some .int)) (by decide) rfl ?_
  intro p e s m args below meth c s₁ B hml hv
  obtain ⟨rfl, hsz, hP, hK, hD⟩ := hv
  subst hsz
  have hS : va_S (aR A s.heap.size) s.heap s.heap [] := va_S.rf
  have hx := B.exec
  have hb := B.bytes
  have hr := B.returns
  have hts := atoms_spec (ws := wX3_get) B.pre
  have hw : ∀ w ∈ tg_, w.before _ s = true := fun w h => hts w (List.mem_cons_of_mem _ h)
  have hown : s.vm.findClass RX3 = some m.cls := findClass_of_methodNamed B.named
  have hlocks := B.notSynchronized
  have hl := lv_entry ([.ref (mh_ A), .int p0, .int p1]) (n := 3) (Nat.le_of_ble_eq_true rfl)
  rw [lg_entry_eq]
  generalize (lg_sl ([.ref (mh_ A), .int p0, .int p1]) ++ List.replicate (3 - (lg_sl ([.ref (mh_ A), .int p0, .int p1])).length) Slot.unset).toArray = ls at hl ⊢
  have hl : lv_has ls 3 [(0, .ref (mh_ A)), (1, .int p0), (2, .int p1)] := hl
  refine lv_iload_n hx hb dX3_get_0 rfl (lv_at hl 1 rfl) ?_
  refine vp_callSi (W.runS (As := [.int p0]) (rest := []) ⟨hx, hb, hml, hown, hts⟩ (c_X3_isRow l p0) (va_cwS 1 hts (gi_S hbc tw_261 tw_262 tw_4 tw_263) rfl rfl rfl (by decide +kernel) ⟨Nat.le_of_ble_eq_true rfl, Nat.le_of_ble_eq_true rfl⟩) preEq rfl rfl hl.1 rfl (lv_room (Nat.le_of_ble_eq_true rfl)) dX3_get_1 ⟨Nat.le_of_ble_eq_true rfl, Nat.le_of_ble_eq_true rfl⟩) (fun r hq => ?_)
  subst hq
  refine lv_if_eq (tgt := 14) hx hb dX3_get_4 (by decide) (fun c1 => ?_) (fun c1 => ?_)
  · refine lv_bipush (v := -2) hx hb dX3_get_14 (by decide) ?_
    refine lv_goto (tgt := 35) hx hb dX3_get_16 (by decide) ?_
    exact W.iret hx hb hr (fun t9 ht9 hW => ⟨⟨_, u, rfl, Or.inr ⟨fun h => h.1 c1, rfl, rfl⟩, by rw [ht9]; exact hP, va_K.moved hW.alike hK, hD⟩, hS.F ht9⟩) hS.2.2 dX3_get_35
  · have hj_p0 := row_lt (p := p0) c1
    refine lv_iload_n hx hb dX3_get_7 rfl (lv_at hl 2 rfl) ?_
    refine vp_callSi (W.runS (As := [.int p1]) (rest := []) ⟨hx, hb, hml, hown, hts⟩ (c_X3_isPlace l p1) (va_cwS 1 hts (gi_S hbc tw_264 tw_265 tw_4 tw_266) rfl rfl rfl (by decide +kernel) ⟨Nat.le_of_ble_eq_true rfl, Nat.le_of_ble_eq_true rfl⟩) preEq rfl rfl hl.1 rfl (lv_room (Nat.le_of_ble_eq_true rfl)) dX3_get_8 ⟨Nat.le_of_ble_eq_true rfl, Nat.le_of_ble_eq_true rfl⟩) (fun r hq => ?_)
    subst hq
    refine lv_if_ne (tgt := 19) hx hb dX3_get_11 (by decide) (fun c2 => ?_) (fun c2 => ?_)
    · refine lv_aload_n hx hb dX3_get_19 rfl (lv_at hl 0 rfl) ?_
      refine va_get (D := (dC, dI)) (ci := 3) (v := .ref (mq_ A)) (C := RX3) (T := TX3) (N := 4) hx hb hw igX3 hown hK hP 0 rfl rfl 0 (by decide) (hw _ tw_242) (fun _ h9 => h9) rfl dX3_get_20 ?_
      refine lv_iload_n hx hb dX3_get_23 rfl (lv_at hl 1 rfl) ?_
      refine va_aldz hx hb hK hP 1 0 rfl rfl (row_in (p := p0) c1) dX3_get_24 ?_
      rw [mqF_at A hj_p0]
      refine lv_iload_n hx hb dX3_get_25 rfl (lv_at hl 2 rfl) ?_
      refine va_zald hx hb hK hP (4 + p0.toNatClampNeg) (3 + p0.toNatClampNeg) (wR_row A u hj_p0) (tyR_row A hj_p0) (pl_4032 c2) dX3_get_26 ?_
      refine lv_if_eq (tgt := 34) hx hb dX3_get_27 (by decide) (fun c3 => ?_) (fun c3 => ?_)
      · have c3 := b1f (b := _) c3
        refine lv_iconst (v := 0) hx hb dX3_get_34 (by decide) ?_
        exact W.iret hx hb hr (fun t9 ht9 hW => ⟨⟨_, u, rfl, Or.inl ⟨⟨c1, c2⟩, ⟨z_lit0 c3, rfl⟩⟩, by rw [ht9]; exact hP, va_K.moved hW.alike hK, hD⟩, hS.F ht9⟩) hS.2.2 dX3_get_35
      · have c3 := b1t (b := _) c3
        refine lv_iconst (v := 1) hx hb dX3_get_30 (by decide) ?_
        refine lv_goto (tgt := 35) hx hb dX3_get_31 (by decide) ?_
        exact W.iret hx hb hr (fun t9 ht9 hW => ⟨⟨_, u, rfl, Or.inl ⟨⟨c1, c2⟩, ⟨z_lit1 c3, rfl⟩⟩, by rw [ht9]; exact hP, va_K.moved hW.alike hK, hD⟩, hS.F ht9⟩) hS.2.2 dX3_get_35
    · refine lv_bipush (v := -2) hx hb dX3_get_14 (by decide) ?_
      refine lv_goto (tgt := 35) hx hb dX3_get_16 (by decide) ?_
      exact W.iret hx hb hr (fun t9 ht9 hW => ⟨⟨_, u, rfl, Or.inr ⟨fun h => h.2 c2, rfl, rfl⟩, by rw [ht9]; exact hP, va_K.moved hW.alike hK, hD⟩, hS.F ht9⟩) hS.2.2 dX3_get_35
set_option maxHeartbeats 4000000 in
set_option maxRecDepth 100000 in
theorem c_X3_piece (l : Launch) (dC : Nat → ClassId) (dI : Nat → Nat → Nat) (A : AdR) (u : StR)  (p0 : Int32) (p1 : Int32) (p2 : Int32) (p3 : Int32) : gMi l yX3_piece wX3_piece ({ frames := 1, cells := 0, slots := 0, locals := 23 }) (dC, dI) bwCl (tyR A) (wR A) (aR A) [.ref (mh_ A), .int p0, .int p1, .int p2, .int p3] u (fun r v => ((¬ (fX3_isRow p0) = 0 ∧ ¬ p1 < 0 ∧ ¬ 2 < p1 ∧ ¬ (fX3_isPiece p2 p3) = 0) ∧ (r = nI (cnt (((upR u.1 p0.toNatClampNeg (flz (pcZ (u.1 p0.toNatClampNeg) p1) (u.1 p0.toNatClampNeg) p2.toNatClampNeg p3.toNatClampNeg), u.2) : StR).1 p0.toNatClampNeg) 4032) ∧ ((upR u.1 p0.toNatClampNeg (flz (pcZ (u.1 p0.toNatClampNeg) p1) (u.1 p0.toNatClampNeg) p2.toNatClampNeg p3.toNatClampNeg), u.2) : StR) = v)) ∨ (¬ (¬ (fX3_isRow p0) = 0 ∧ ¬ p1 < 0 ∧ ¬ 2 < p1 ∧ ¬ (fX3_isPiece p2 p3) = 0) ∧ r = -2 ∧ u = v)) := by
  unfold gMi
  intro sz
  refine Met.ofW (cc := cX3_piece) (maxL := 6) (ret := (some .int)) (by decide) rfl ?_
  intro p e s m args below meth c s₁ B hml hv
  obtain ⟨rfl, hsz, hP, hK, hD⟩ := hv
  subst hsz
  have hS : va_S (aR A s.heap.size) s.heap s.heap [] := va_S.rf
  have hx := B.exec
  have hb := B.bytes
  have hr := B.returns
  have hts := atoms_spec (ws := wX3_piece) B.pre
  have hw : ∀ w ∈ tg_, w.before _ s = true := fun w h => hts w (List.mem_cons_of_mem _ h)
  have hown : s.vm.findClass RX3 = some m.cls := findClass_of_methodNamed B.named
  have hlocks := B.notSynchronized
  have hl := lv_entry ([.ref (mh_ A), .int p0, .int p1, .int p2, .int p3]) (n := 6) (Nat.le_of_ble_eq_true rfl)
  rw [lg_entry_eq]
  generalize (lg_sl ([.ref (mh_ A), .int p0, .int p1, .int p2, .int p3]) ++ List.replicate (6 - (lg_sl ([.ref (mh_ A), .int p0, .int p1, .int p2, .int p3])).length) Slot.unset).toArray = ls at hl ⊢
  have hl : lv_has ls 6 [(0, .ref (mh_ A)), (1, .int p0), (2, .int p1), (3, .int p2), (4, .int p3)] := hl
  refine lv_iload_n hx hb dX3_piece_0 rfl (lv_at hl 1 rfl) ?_
  refine vp_callSi (W.runS (As := [.int p0]) (rest := []) ⟨hx, hb, hml, hown, hts⟩ (c_X3_isRow l p0) (va_cwS 1 hts (gi_S hbc tw_261 tw_262 tw_4 tw_263) rfl rfl rfl (by decide +kernel) ⟨Nat.le_of_ble_eq_true rfl, Nat.le_of_ble_eq_true rfl⟩) preEq rfl rfl hl.1 rfl (lv_room (Nat.le_of_ble_eq_true rfl)) dX3_piece_1 ⟨Nat.le_of_ble_eq_true rfl, Nat.le_of_ble_eq_true rfl⟩) (fun r hq => ?_)
  subst hq
  refine lv_if_eq (tgt := 25) hx hb dX3_piece_4 (by decide) (fun c1 => ?_) (fun c1 => ?_)
  · refine lv_bipush (v := -2) hx hb dX3_piece_25 (by decide) ?_
    exact W.iret hx hb hr (fun t9 ht9 hW => ⟨⟨_, u, rfl, Or.inr ⟨fun h => h.1 c1, rfl, rfl⟩, by rw [ht9]; exact hP, va_K.moved hW.alike hK, hD⟩, hS.F ht9⟩) hS.2.2 dX3_piece_27
  · have hj_p0 := row_lt (p := p0) c1
    refine lv_iload_n hx hb dX3_piece_7 rfl (lv_at hl 2 rfl) ?_
    refine lv_if_lt (tgt := 25) hx hb dX3_piece_8 (by decide) (fun c2 => ?_) (fun c2 => ?_)
    · refine lv_bipush (v := -2) hx hb dX3_piece_25 (by decide) ?_
      exact W.iret hx hb hr (fun t9 ht9 hW => ⟨⟨_, u, rfl, Or.inr ⟨fun h => h.2.1 c2, rfl, rfl⟩, by rw [ht9]; exact hP, va_K.moved hW.alike hK, hD⟩, hS.F ht9⟩) hS.2.2 dX3_piece_27
    · refine lv_iload_n hx hb dX3_piece_11 rfl (lv_at hl 2 rfl) ?_
      refine lv_iconst (v := 2) hx hb dX3_piece_12 (by decide) ?_
      refine lv_icmp_gt (tgt := 25) hx hb dX3_piece_13 (by decide) (fun c3 => ?_) (fun c3 => ?_)
      · refine lv_bipush (v := -2) hx hb dX3_piece_25 (by decide) ?_
        exact W.iret hx hb hr (fun t9 ht9 hW => ⟨⟨_, u, rfl, Or.inr ⟨fun h => h.2.2.1 c3, rfl, rfl⟩, by rw [ht9]; exact hP, va_K.moved hW.alike hK, hD⟩, hS.F ht9⟩) hS.2.2 dX3_piece_27
      · refine lv_iload_n hx hb dX3_piece_16 rfl (lv_at hl 3 rfl) ?_
        refine lv_iload hx hb dX3_piece_17 (lv_at hl 4 rfl) ?_
        refine vp_callSi (W.runS (As := [.int p2, .int p3]) (rest := []) ⟨hx, hb, hml, hown, hts⟩ (c_X3_isPiece l p2 p3) (va_cwS 2 hts (gi_S hbc tw_274 tw_275 tw_4 tw_276) rfl rfl rfl (by decide +kernel) ⟨Nat.le_of_ble_eq_true rfl, Nat.le_of_ble_eq_true rfl⟩) preEq rfl rfl hl.1 rfl (lv_room (Nat.le_of_ble_eq_true rfl)) dX3_piece_19 ⟨Nat.le_of_ble_eq_true rfl, Nat.le_of_ble_eq_true rfl⟩) (fun r hq => ?_)
        subst hq
        refine lv_if_ne (tgt := 28) hx hb dX3_piece_22 (by decide) (fun c4 => ?_) (fun c4 => ?_)
        · have hpc := pc_ab c4
          refine lv_iload_n hx hb dX3_piece_28 rfl (lv_at hl 3 rfl) ?_
          refine lv_topi (fun z5 ez5 => ?_)
          obtain rfl : z5 = nI p2.toNatClampNeg := ez5.trans hpc.2.2.1
          refine lv_istore (lv' := [(5, .int (nI p2.toNatClampNeg)), (0, .ref (mh_ A)), (1, .int p0), (2, .int p1), (3, .int p2), (4, .int p3)]) hx hb dX3_piece_29 hl (by decide) rfl (fun ls hl => ?_)
          have hu_i : u = (upR u.1 p0.toNatClampNeg (flz (pcZ (u.1 p0.toNatClampNeg) p1) (u.1 p0.toNatClampNeg) p2.toNatClampNeg p2.toNatClampNeg), u.2) := fz_u0 _ u _ _
          refine w_loop (N := p3.toNatClampNeg) (i0 := p2.toNatClampNeg) (fun i H locs ls => va_P (dC, dI) bwCl (wR A (upR u.1 p0.toNatClampNeg (flz (pcZ (u.1 p0.toNatClampNeg) p1) (u.1 p0.toNatClampNeg) p2.toNatClampNeg i), u.2)) H ∧ va_D (aR A s.heap.size) (wR A (upR u.1 p0.toNatClampNeg (flz (pcZ (u.1 p0.toNatClampNeg) p1) (u.1 p0.toNatClampNeg) p2.toNatClampNeg i), u.2)) ∧ va_S (aR A s.heap.size) s.heap H locs ∧ lv_has ls 6 [(0, .ref (mh_ A)), (1, .int p0), (2, .int p1), (3, .int p2), (4, .int p3), (5, .int (nI i))]) hpc.1 ⟨tr_PR hu_i hP, tr_DR hu_i hD, hS, lv_sub hl [1, 2, 3, 4, 5, 0] rfl⟩ ?_
          intro i H locs ls hz_i hi_i hI ih_i
          obtain ⟨hP, hD, hS, hl⟩ := hI
          refine lv_iload hx hb dX3_piece_31 (lv_at hl 5 rfl) ?_
          refine lv_iload hx hb dX3_piece_33 (lv_at hl 4 rfl) ?_
          refine lv_icmp_ge (tgt := 66) hx hb dX3_piece_35 (by decide) (fun c6 => ?_) (fun c6 => ?_)
          · obtain rfl : i = p3.toNatClampNeg := lp_out hpc.2.2.2 hi_i (by omega) c6
            refine lv_aload_n hx hb dX3_piece_66 rfl (lv_at hl 0 rfl) ?_
            refine lv_iload_n hx hb dX3_piece_67 rfl (lv_at hl 1 rfl) ?_
            refine gVi (As := [.int p0]) (rest := []) ⟨hx, hb, hml, hown, hts⟩ (c_X3_ones l dC dI A (upR u.1 p0.toNatClampNeg (flz (pcZ (u.1 p0.toNatClampNeg) p1) (u.1 p0.toNatClampNeg) p2.toNatClampNeg (p3.toNatClampNeg)), u.2) p0 hj_p0 (row_in (p := p0) c1)) (cwV 1 hts (gi_V hbc tw_277 tw_279 ts_4 tw_4 tw_280) rfl rfl rfl (by decide +kernel) ⟨Nat.le_of_ble_eq_true rfl, Nat.le_of_ble_eq_true rfl⟩) (va_recv hK hP (ci := 3) (q0 := 0) rfl rfl) aR_mono aR_D hP hK hD hS rfl hl.1 rfl (Nat.le_of_ble_eq_true rfl) dX3_piece_68 ⟨Nat.le_of_ble_eq_true rfl, Nat.le_of_ble_eq_true rfl⟩ (fun r7 v9 H locs hq8 hP hD hS => ?_)
            obtain ⟨rfl, rfl⟩ := hq8
            exact W.iret hx hb hr (fun t9 ht9 hW => ⟨⟨_, (upR u.1 p0.toNatClampNeg (flz (pcZ (u.1 p0.toNatClampNeg) p1) (u.1 p0.toNatClampNeg) p2.toNatClampNeg (p3.toNatClampNeg)), u.2), rfl, Or.inl ⟨⟨c1, c2, c3, c4⟩, ⟨rfl, rfl⟩⟩, by rw [ht9]; exact hP, va_K.moved hW.alike hK, hD⟩, hS.F ht9⟩) hS.2.2 dX3_piece_71
          · have hlt_i : i < p3.toNatClampNeg := lp_in hpc.2.2.2 hi_i c6
            refine lv_aload_n hx hb dX3_piece_38 rfl (lv_at hl 0 rfl) ?_
            refine va_get (D := (dC, dI)) (ci := 3) (v := .ref (mq_ A)) (C := RX3) (T := TX3) (N := 4) hx hb hw igX3 hown hK hP 0 rfl rfl 0 (by decide) (hw _ tw_242) (fun _ h9 => h9) rfl dX3_piece_39 ?_
            refine lv_iload_n hx hb dX3_piece_42 rfl (lv_at hl 1 rfl) ?_
            refine va_aldz hx hb hK hP 1 0 rfl rfl (row_in (p := p0) c1) dX3_piece_43 ?_
            rw [mqF_at A hj_p0]
            refine lv_iload hx hb dX3_piece_44 (lv_at hl 5 rfl) ?_
            refine lv_aload_n hx hb dX3_piece_46 rfl (lv_at hl 0 rfl) ?_
            refine va_get (D := (dC, dI)) (ci := 3) (v := .ref (mq_ A)) (C := RX3) (T := TX3) (N := 4) hx hb hw igX3 hown hK hP 0 rfl rfl 0 (by decide) (hw _ tw_242) (fun _ h9 => h9) rfl dX3_piece_47 ?_
            refine lv_iload_n hx hb dX3_piece_50 rfl (lv_at hl 1 rfl) ?_
            refine va_aldz hx hb hK hP 1 0 rfl rfl (row_in (p := p0) c1) dX3_piece_51 ?_
            rw [mqF_at A hj_p0]
            refine lv_iload hx hb dX3_piece_52 (lv_at hl 5 rfl) ?_
            refine va_zald hx hb hK hP (4 + p0.toNatClampNeg) (3 + p0.toNatClampNeg) (wR_row A (upR u.1 p0.toNatClampNeg (flz (pcZ (u.1 p0.toNatClampNeg) p1) (u.1 p0.toNatClampNeg) p2.toNatClampNeg i), u.2) hj_p0) (tyR_row A hj_p0) (vp_in_nI (by omega) (by omega)) dX3_piece_54 ?_
            rw [nI_clamp (n := i) (by omega)]
            refine lv_topi (fun z10 ez10 => ?_)
            obtain rfl : z10 = bz (u.1 p0.toNatClampNeg) i := ez10.trans (fz_rd _ u.1 p0.toNatClampNeg p0.toNatClampNeg p2.toNatClampNeg (Nat.le_refl i))
            refine lv_iload_n hx hb dX3_piece_55 rfl (lv_at hl 2 rfl) ?_
            refine vp_callSi (W.runS (As := [.int (bz (u.1 p0.toNatClampNeg) i), .int p1]) (rest := [.int (nI i), .ref (mr_ A p0.toNatClampNeg)]) ⟨hx, hb, hml, hown, hts⟩ (c_X3_changed l (bz (u.1 p0.toNatClampNeg) i) p1) (va_cwS 2 hts (gi_S hbc tw_267 tw_268 tw_4 tw_269) rfl rfl rfl (by decide +kernel) ⟨Nat.le_of_ble_eq_true rfl, Nat.le_of_ble_eq_true rfl⟩) preEq rfl rfl hl.1 rfl (lv_room (Nat.le_of_ble_eq_true rfl)) dX3_piece_56 ⟨Nat.le_of_ble_eq_true rfl, Nat.le_of_ble_eq_true rfl⟩) (fun r hq => ?_)
            subst hq
            refine va_zast hx hb hK hP hD hS (4 + p0.toNatClampNeg) (3 + p0.toNatClampNeg) (wR_row A (upR u.1 p0.toNatClampNeg (flz (pcZ (u.1 p0.toNatClampNeg) p1) (u.1 p0.toNatClampNeg) p2.toNatClampNeg i), u.2) hj_p0) (tyR_row A hj_p0) (vp_in_nI (by omega) (by omega)) dX3_piece_59 (fun H locs hP hD hS => ?_)
            rw [nI_clamp (n := i) (by omega)] at hP hD
            have hP : va_P (dC, dI) bwCl (wR A (upR (upR u.1 p0.toNatClampNeg (flz (pcZ (u.1 p0.toNatClampNeg) p1) (u.1 p0.toNatClampNeg) p2.toNatClampNeg i), u.2).1 p0.toNatClampNeg (upZ ((upR u.1 p0.toNatClampNeg (flz (pcZ (u.1 p0.toNatClampNeg) p1) (u.1 p0.toNatClampNeg) p2.toNatClampNeg i), u.2).1 p0.toNatClampNeg) i (chZ p1 ((u.1 p0.toNatClampNeg) i))), (upR u.1 p0.toNatClampNeg (flz (pcZ (u.1 p0.toNatClampNeg) p1) (u.1 p0.toNatClampNeg) p2.toNatClampNeg i), u.2).2)) H := stR_P (ch_z _ _) hj_p0 hP
            have hD : va_D (aR A s.heap.size) (wR A (upR (upR u.1 p0.toNatClampNeg (flz (pcZ (u.1 p0.toNatClampNeg) p1) (u.1 p0.toNatClampNeg) p2.toNatClampNeg i), u.2).1 p0.toNatClampNeg (upZ ((upR u.1 p0.toNatClampNeg (flz (pcZ (u.1 p0.toNatClampNeg) p1) (u.1 p0.toNatClampNeg) p2.toNatClampNeg i), u.2).1 p0.toNatClampNeg) i (chZ p1 ((u.1 p0.toNatClampNeg) i))), (upR u.1 p0.toNatClampNeg (flz (pcZ (u.1 p0.toNatClampNeg) p1) (u.1 p0.toNatClampNeg) p2.toNatClampNeg i), u.2).2)) := stR_D (ch_z _ _) hj_p0 hD
            refine lv_iinc (v := nI (i + 1)) (lv' := [(5, .int (nI (i + 1))), (0, .ref (mh_ A)), (1, .int p0), (2, .int p1), (3, .int p2), (4, .int p3)]) hx hb dX3_piece_60 hl (k := 5) rfl (nI_1 _) (by decide) rfl (fun ls hl => ?_)
            refine lv_goto (tgt := 31) hx hb dX3_piece_63 (by decide) ?_
            have hv_i : (upR (upR u.1 p0.toNatClampNeg (flz (pcZ (u.1 p0.toNatClampNeg) p1) (u.1 p0.toNatClampNeg) p2.toNatClampNeg i), u.2).1 p0.toNatClampNeg (upZ ((upR u.1 p0.toNatClampNeg (flz (pcZ (u.1 p0.toNatClampNeg) p1) (u.1 p0.toNatClampNeg) p2.toNatClampNeg i), u.2).1 p0.toNatClampNeg) i (chZ p1 ((u.1 p0.toNatClampNeg) i))), (upR u.1 p0.toNatClampNeg (flz (pcZ (u.1 p0.toNatClampNeg) p1) (u.1 p0.toNatClampNeg) p2.toNatClampNeg i), u.2).2) = (upR u.1 p0.toNatClampNeg (flz (pcZ (u.1 p0.toNatClampNeg) p1) (u.1 p0.toNatClampNeg) p2.toNatClampNeg (i + 1)), u.2) := fz_uS _ u _ hz_i rfl
            exact ih_i _ _ _ (by omega) ⟨tr_PR hv_i hP, tr_DR hv_i hD, hS, lv_sub hl [1, 2, 3, 4, 5, 0] rfl⟩
        · refine lv_bipush (v := -2) hx hb dX3_piece_25 (by decide) ?_
          exact W.iret hx hb hr (fun t9 ht9 hW => ⟨⟨_, u, rfl, Or.inr ⟨fun h => h.2.2.2 c4, rfl, rfl⟩, by rw [ht9]; exact hP, va_K.moved hW.alike hK, hD⟩, hS.F ht9⟩) hS.2.2 dX3_piece_27
set_option maxHeartbeats 4000000 in
set_option maxRecDepth 100000 in
theorem c_X3_join (l : Launch) (dC : Nat → ClassId) (dI : Nat → Nat → Nat) (A : AdR) (u : StR)  (p0 : Int32) (p1 : Int32) (p2 : Int32) : gMi l yX3_join wX3_join ({ frames := 1, cells := 0, slots := 0, locals := 23 }) (dC, dI) bwCl (tyR A) (wR A) (aR A) [.ref (mh_ A), .int p0, .int p1, .int p2] u (fun r v => ((¬ (fX3_isRow p0) = 0 ∧ ¬ p1 < 0 ∧ ¬ 3 < p1 ∧ ¬ (fX3_isRow p2) = 0) ∧ (r = nI (cnt (((upR u.1 p0.toNatClampNeg (flz (cbZ (u.1 p0.toNatClampNeg) (u.1 p2.toNatClampNeg) p1) (u.1 p0.toNatClampNeg) 0 4032), u.2) : StR).1 p0.toNatClampNeg) 4032) ∧ ((upR u.1 p0.toNatClampNeg (flz (cbZ (u.1 p0.toNatClampNeg) (u.1 p2.toNatClampNeg) p1) (u.1 p0.toNatClampNeg) 0 4032), u.2) : StR) = v)) ∨ (¬ (¬ (fX3_isRow p0) = 0 ∧ ¬ p1 < 0 ∧ ¬ 3 < p1 ∧ ¬ (fX3_isRow p2) = 0) ∧ r = -2 ∧ u = v)) := by
  unfold gMi
  intro sz
  refine Met.ofW (cc := cX3_join) (maxL := 7) (ret := (some .int)) (by decide) rfl ?_
  intro p e s m args below meth c s₁ B hml hv
  obtain ⟨rfl, hsz, hP, hK, hD⟩ := hv
  subst hsz
  have hS : va_S (aR A s.heap.size) s.heap s.heap [] := va_S.rf
  have hx := B.exec
  have hb := B.bytes
  have hr := B.returns
  have hts := atoms_spec (ws := wX3_join) B.pre
  have hw : ∀ w ∈ tg_, w.before _ s = true := fun w h => hts w (List.mem_cons_of_mem _ h)
  have hown : s.vm.findClass RX3 = some m.cls := findClass_of_methodNamed B.named
  have hlocks := B.notSynchronized
  have hl := lv_entry ([.ref (mh_ A), .int p0, .int p1, .int p2]) (n := 7) (Nat.le_of_ble_eq_true rfl)
  rw [lg_entry_eq]
  generalize (lg_sl ([.ref (mh_ A), .int p0, .int p1, .int p2]) ++ List.replicate (7 - (lg_sl ([.ref (mh_ A), .int p0, .int p1, .int p2])).length) Slot.unset).toArray = ls at hl ⊢
  have hl : lv_has ls 7 [(0, .ref (mh_ A)), (1, .int p0), (2, .int p1), (3, .int p2)] := hl
  refine lv_iload_n hx hb dX3_join_0 rfl (lv_at hl 1 rfl) ?_
  refine vp_callSi (W.runS (As := [.int p0]) (rest := []) ⟨hx, hb, hml, hown, hts⟩ (c_X3_isRow l p0) (va_cwS 1 hts (gi_S hbc tw_261 tw_262 tw_4 tw_263) rfl rfl rfl (by decide +kernel) ⟨Nat.le_of_ble_eq_true rfl, Nat.le_of_ble_eq_true rfl⟩) preEq rfl rfl hl.1 rfl (lv_room (Nat.le_of_ble_eq_true rfl)) dX3_join_1 ⟨Nat.le_of_ble_eq_true rfl, Nat.le_of_ble_eq_true rfl⟩) (fun r hq => ?_)
  subst hq
  refine lv_if_eq (tgt := 23) hx hb dX3_join_4 (by decide) (fun c1 => ?_) (fun c1 => ?_)
  · refine lv_bipush (v := -2) hx hb dX3_join_23 (by decide) ?_
    exact W.iret hx hb hr (fun t9 ht9 hW => ⟨⟨_, u, rfl, Or.inr ⟨fun h => h.1 c1, rfl, rfl⟩, by rw [ht9]; exact hP, va_K.moved hW.alike hK, hD⟩, hS.F ht9⟩) hS.2.2 dX3_join_25
  · have hj_p0 := row_lt (p := p0) c1
    refine lv_iload_n hx hb dX3_join_7 rfl (lv_at hl 2 rfl) ?_
    refine lv_if_lt (tgt := 23) hx hb dX3_join_8 (by decide) (fun c2 => ?_) (fun c2 => ?_)
    · refine lv_bipush (v := -2) hx hb dX3_join_23 (by decide) ?_
      exact W.iret hx hb hr (fun t9 ht9 hW => ⟨⟨_, u, rfl, Or.inr ⟨fun h => h.2.1 c2, rfl, rfl⟩, by rw [ht9]; exact hP, va_K.moved hW.alike hK, hD⟩, hS.F ht9⟩) hS.2.2 dX3_join_25
    · refine lv_iload_n hx hb dX3_join_11 rfl (lv_at hl 2 rfl) ?_
      refine lv_iconst (v := 3) hx hb dX3_join_12 (by decide) ?_
      refine lv_icmp_gt (tgt := 23) hx hb dX3_join_13 (by decide) (fun c3 => ?_) (fun c3 => ?_)
      · refine lv_bipush (v := -2) hx hb dX3_join_23 (by decide) ?_
        exact W.iret hx hb hr (fun t9 ht9 hW => ⟨⟨_, u, rfl, Or.inr ⟨fun h => h.2.2.1 c3, rfl, rfl⟩, by rw [ht9]; exact hP, va_K.moved hW.alike hK, hD⟩, hS.F ht9⟩) hS.2.2 dX3_join_25
      · refine lv_iload_n hx hb dX3_join_16 rfl (lv_at hl 3 rfl) ?_
        refine vp_callSi (W.runS (As := [.int p2]) (rest := []) ⟨hx, hb, hml, hown, hts⟩ (c_X3_isRow l p2) (va_cwS 1 hts (gi_S hbc tw_261 tw_262 tw_4 tw_263) rfl rfl rfl (by decide +kernel) ⟨Nat.le_of_ble_eq_true rfl, Nat.le_of_ble_eq_true rfl⟩) preEq rfl rfl hl.1 rfl (lv_room (Nat.le_of_ble_eq_true rfl)) dX3_join_17 ⟨Nat.le_of_ble_eq_true rfl, Nat.le_of_ble_eq_true rfl⟩) (fun r hq => ?_)
        subst hq
        refine lv_if_ne (tgt := 26) hx hb dX3_join_20 (by decide) (fun c4 => ?_) (fun c4 => ?_)
        · have hj_p2 := row_lt (p := p2) c4
          refine lv_iconst (v := 0) hx hb dX3_join_26 (by decide) ?_
          refine lv_istore (lv' := [(4, .int 0), (0, .ref (mh_ A)), (1, .int p0), (2, .int p1), (3, .int p2)]) hx hb dX3_join_27 hl (by decide) rfl (fun ls hl => ?_)
          have hu_i : u = (upR u.1 p0.toNatClampNeg (flz (cbZ (u.1 p0.toNatClampNeg) (u.1 p2.toNatClampNeg) p1) (u.1 p0.toNatClampNeg) 0 0), u.2) := fz_u0 _ u _ _
          refine w_loop (N := 4032) (i0 := 0) (fun i H locs ls => va_P (dC, dI) bwCl (wR A (upR u.1 p0.toNatClampNeg (flz (cbZ (u.1 p0.toNatClampNeg) (u.1 p2.toNatClampNeg) p1) (u.1 p0.toNatClampNeg) 0 i), u.2)) H ∧ va_D (aR A s.heap.size) (wR A (upR u.1 p0.toNatClampNeg (flz (cbZ (u.1 p0.toNatClampNeg) (u.1 p2.toNatClampNeg) p1) (u.1 p0.toNatClampNeg) 0 i), u.2)) ∧ va_S (aR A s.heap.size) s.heap H locs ∧ lv_has ls 7 [(0, .ref (mh_ A)), (1, .int p0), (2, .int p1), (3, .int p2), (4, .int (nI i))]) (by decide) ⟨tr_PR hu_i hP, tr_DR hu_i hD, hS, lv_sub hl [1, 2, 3, 4, 0] rfl⟩ ?_
          intro i H locs ls hz_i hi_i hI ih_i
          obtain ⟨hP, hD, hS, hl⟩ := hI
          refine lv_iload hx hb dX3_join_29 (lv_at hl 4 rfl) ?_
          refine lv_sipush (v := 4032) hx hb dX3_join_31 (by decide) ?_
          refine lv_icmp_ge (tgt := 154) hx hb dX3_join_34 (by decide) (fun c5 => ?_) (fun c5 => ?_)
          · obtain rfl : i = 4032 := lp_out (n := 4032) rfl hi_i (by decide) c5
            refine lv_aload_n hx hb dX3_join_154 rfl (lv_at hl 0 rfl) ?_
            refine lv_iload_n hx hb dX3_join_155 rfl (lv_at hl 1 rfl) ?_
            refine gVi (As := [.int p0]) (rest := []) ⟨hx, hb, hml, hown, hts⟩ (c_X3_ones l dC dI A (upR u.1 p0.toNatClampNeg (flz (cbZ (u.1 p0.toNatClampNeg) (u.1 p2.toNatClampNeg) p1) (u.1 p0.toNatClampNeg) 0 4032), u.2) p0 hj_p0 (row_in (p := p0) c1)) (cwV 1 hts (gi_V hbc tw_277 tw_279 ts_4 tw_4 tw_280) rfl rfl rfl (by decide +kernel) ⟨Nat.le_of_ble_eq_true rfl, Nat.le_of_ble_eq_true rfl⟩) (va_recv hK hP (ci := 3) (q0 := 0) rfl rfl) aR_mono aR_D hP hK hD hS rfl hl.1 rfl (Nat.le_of_ble_eq_true rfl) dX3_join_156 ⟨Nat.le_of_ble_eq_true rfl, Nat.le_of_ble_eq_true rfl⟩ (fun r6 v8 H locs hq7 hP hD hS => ?_)
            obtain ⟨rfl, rfl⟩ := hq7
            exact W.iret hx hb hr (fun t9 ht9 hW => ⟨⟨_, (upR u.1 p0.toNatClampNeg (flz (cbZ (u.1 p0.toNatClampNeg) (u.1 p2.toNatClampNeg) p1) (u.1 p0.toNatClampNeg) 0 4032), u.2), rfl, Or.inl ⟨⟨c1, c2, c3, c4⟩, ⟨rfl, rfl⟩⟩, by rw [ht9]; exact hP, va_K.moved hW.alike hK, hD⟩, hS.F ht9⟩) hS.2.2 dX3_join_159
          · have hlt_i : i < 4032 := lp_in (n := 4032) rfl hi_i c5
            refine lv_aload_n hx hb dX3_join_37 rfl (lv_at hl 0 rfl) ?_
            refine va_get (D := (dC, dI)) (ci := 3) (v := .ref (mq_ A)) (C := RX3) (T := TX3) (N := 4) hx hb hw igX3 hown hK hP 0 rfl rfl 0 (by decide) (hw _ tw_242) (fun _ h9 => h9) rfl dX3_join_38 ?_
            refine lv_iload_n hx hb dX3_join_41 rfl (lv_at hl 1 rfl) ?_
            refine va_aldz hx hb hK hP 1 0 rfl rfl (row_in (p := p0) c1) dX3_join_42 ?_
            rw [mqF_at A hj_p0]
            refine lv_iload hx hb dX3_join_43 (lv_at hl 4 rfl) ?_
            refine va_zald hx hb hK hP (4 + p0.toNatClampNeg) (3 + p0.toNatClampNeg) (wR_row A (upR u.1 p0.toNatClampNeg (flz (cbZ (u.1 p0.toNatClampNeg) (u.1 p2.toNatClampNeg) p1) (u.1 p0.toNatClampNeg) 0 i), u.2) hj_p0) (tyR_row A hj_p0) (vp_in_nI (by omega) (by omega)) dX3_join_45 ?_
            rw [nI_clamp (n := i) (by omega)]
            refine lv_topi (fun z9 ez9 => ?_)
            obtain rfl : z9 = bz (u.1 p0.toNatClampNeg) i := ez9.trans (fz_rd _ u.1 p0.toNatClampNeg p0.toNatClampNeg 0 (Nat.le_refl i))
            refine lv_istore (lv' := [(5, .int (bz (u.1 p0.toNatClampNeg) i)), (0, .ref (mh_ A)), (1, .int p0), (2, .int p1), (3, .int p2), (4, .int (nI i))]) hx hb dX3_join_46 hl (by decide) rfl (fun ls hl => ?_)
            refine lv_aload_n hx hb dX3_join_48 rfl (lv_at hl 1 rfl) ?_
            refine va_get (D := (dC, dI)) (ci := 3) (v := .ref (mq_ A)) (C := RX3) (T := TX3) (N := 4) hx hb hw igX3 hown hK hP 0 rfl rfl 0 (by decide) (hw _ tw_242) (fun _ h9 => h9) rfl dX3_join_49 ?_
            refine lv_iload_n hx hb dX3_join_52 rfl (lv_at hl 4 rfl) ?_
            refine va_aldz hx hb hK hP 1 0 rfl rfl (row_in (p := p2) c4) dX3_join_53 ?_
            rw [mqF_at A hj_p2]
            refine lv_iload hx hb dX3_join_54 (lv_at hl 5 rfl) ?_
            refine va_zald hx hb hK hP (4 + p2.toNatClampNeg) (3 + p2.toNatClampNeg) (wR_row A (upR u.1 p0.toNatClampNeg (flz (cbZ (u.1 p0.toNatClampNeg) (u.1 p2.toNatClampNeg) p1) (u.1 p0.toNatClampNeg) 0 i), u.2) hj_p2) (tyR_row A hj_p2) (vp_in_nI (by omega) (by omega)) dX3_join_56 ?_
            rw [nI_clamp (n := i) (by omega)]
            refine lv_topi (fun z10 ez10 => ?_)
            obtain rfl : z10 = bz (u.1 p2.toNatClampNeg) i := ez10.trans (fz_rd _ u.1 p0.toNatClampNeg p2.toNatClampNeg 0 (Nat.le_refl i))
            refine lv_istore (lv' := [(6, .int (bz (u.1 p2.toNatClampNeg) i)), (5, .int (bz (u.1 p0.toNatClampNeg) i)), (0, .ref (mh_ A)), (1, .int p0), (2, .int p1), (3, .int p2), (4, .int (nI i))]) hx hb dX3_join_57 hl (by decide) rfl (fun ls hl => ?_)
            refine lv_aload_n hx hb dX3_join_59 rfl (lv_at hl 2 rfl) ?_
            refine va_get (D := (dC, dI)) (ci := 3) (v := .ref (mq_ A)) (C := RX3) (T := TX3) (N := 4) hx hb hw igX3 hown hK hP 0 rfl rfl 0 (by decide) (hw _ tw_242) (fun _ h9 => h9) rfl dX3_join_60 ?_
            refine lv_iload_n hx hb dX3_join_63 rfl (lv_at hl 3 rfl) ?_
            refine va_aldz hx hb hK hP 1 0 rfl rfl (row_in (p := p0) c1) dX3_join_64 ?_
            rw [mqF_at A hj_p0]
            refine lv_iload hx hb dX3_join_65 (lv_at hl 6 rfl) ?_
            refine lv_iload_n hx hb dX3_join_67 rfl (lv_at hl 4 rfl) ?_
            refine lv_if_ne (tgt := 89) hx hb dX3_join_68 (by decide) (fun c11 => ?_) (fun c11 => ?_)
            · refine lv_iload_n hx hb dX3_join_89 rfl (lv_at hl 4 rfl) ?_
              refine lv_iconst (v := 1) hx hb dX3_join_90 (by decide) ?_
              refine lv_icmp_ne (tgt := 112) hx hb dX3_join_91 (by decide) (fun c12 => ?_) (fun c12 => ?_)
              · refine lv_iload_n hx hb dX3_join_112 rfl (lv_at hl 4 rfl) ?_
                refine lv_iconst (v := 2) hx hb dX3_join_113 (by decide) ?_
                refine lv_icmp_ne (tgt := 132) hx hb dX3_join_114 (by decide) (fun c13 => ?_) (fun c13 => ?_)
                · refine lv_iload hx hb dX3_join_132 (lv_at hl 1 rfl) ?_
                  refine lv_if_eq (tgt := 146) hx hb dX3_join_134 (by decide) (fun c14 => ?_) (fun c14 => ?_)
                  · have c14 := b1f (b := _) c14
                    refine lv_iconst (v := 0) hx hb dX3_join_146 (by decide) ?_
                    refine va_zast hx hb hK hP hD hS (4 + p0.toNatClampNeg) (3 + p0.toNatClampNeg) (wR_row A (upR u.1 p0.toNatClampNeg (flz (cbZ (u.1 p0.toNatClampNeg) (u.1 p2.toNatClampNeg) p1) (u.1 p0.toNatClampNeg) 0 i), u.2) hj_p0) (tyR_row A hj_p0) (vp_in_nI (by omega) (by omega)) dX3_join_147 (fun H locs hP hD hS => ?_)
                    rw [nI_clamp (n := i) (by omega)] at hP hD
                    have hP : va_P (dC, dI) bwCl (wR A (upR (upR u.1 p0.toNatClampNeg (flz (cbZ (u.1 p0.toNatClampNeg) (u.1 p2.toNatClampNeg) p1) (u.1 p0.toNatClampNeg) 0 i), u.2).1 p0.toNatClampNeg (upZ ((upR u.1 p0.toNatClampNeg (flz (cbZ (u.1 p0.toNatClampNeg) (u.1 p2.toNatClampNeg) p1) (u.1 p0.toNatClampNeg) 0 i), u.2).1 p0.toNatClampNeg) i false), (upR u.1 p0.toNatClampNeg (flz (cbZ (u.1 p0.toNatClampNeg) (u.1 p2.toNatClampNeg) p1) (u.1 p0.toNatClampNeg) 0 i), u.2).2)) H := stR_P (nb_0) hj_p0 hP
                    have hD : va_D (aR A s.heap.size) (wR A (upR (upR u.1 p0.toNatClampNeg (flz (cbZ (u.1 p0.toNatClampNeg) (u.1 p2.toNatClampNeg) p1) (u.1 p0.toNatClampNeg) 0 i), u.2).1 p0.toNatClampNeg (upZ ((upR u.1 p0.toNatClampNeg (flz (cbZ (u.1 p0.toNatClampNeg) (u.1 p2.toNatClampNeg) p1) (u.1 p0.toNatClampNeg) 0 i), u.2).1 p0.toNatClampNeg) i false), (upR u.1 p0.toNatClampNeg (flz (cbZ (u.1 p0.toNatClampNeg) (u.1 p2.toNatClampNeg) p1) (u.1 p0.toNatClampNeg) 0 i), u.2).2)) := stR_D (nb_0) hj_p0 hD
                    refine lv_iinc (v := nI (i + 1)) (lv' := [(4, .int (nI (i + 1))), (6, .int (bz (u.1 p2.toNatClampNeg) i)), (5, .int (bz (u.1 p0.toNatClampNeg) i)), (0, .ref (mh_ A)), (1, .int p0), (2, .int p1), (3, .int p2)]) hx hb dX3_join_148 hl (k := 6) rfl (nI_1 _) (by decide) rfl (fun ls hl => ?_)
                    refine lv_goto (tgt := 29) hx hb dX3_join_151 (by decide) ?_
                    have hv_i : (upR (upR u.1 p0.toNatClampNeg (flz (cbZ (u.1 p0.toNatClampNeg) (u.1 p2.toNatClampNeg) p1) (u.1 p0.toNatClampNeg) 0 i), u.2).1 p0.toNatClampNeg (upZ ((upR u.1 p0.toNatClampNeg (flz (cbZ (u.1 p0.toNatClampNeg) (u.1 p2.toNatClampNeg) p1) (u.1 p0.toNatClampNeg) 0 i), u.2).1 p0.toNatClampNeg) i false), (upR u.1 p0.toNatClampNeg (flz (cbZ (u.1 p0.toNatClampNeg) (u.1 p2.toNatClampNeg) p1) (u.1 p0.toNatClampNeg) 0 i), u.2).2) = (upR u.1 p0.toNatClampNeg (flz (cbZ (u.1 p0.toNatClampNeg) (u.1 p2.toNatClampNeg) p1) (u.1 p0.toNatClampNeg) 0 (i + 1)), u.2) := fz_uS _ u _ (Nat.zero_le _) (by simp [cbZ, cbB, c11, c12, c13, c14])
                    exact ih_i _ _ _ (by omega) ⟨tr_PR hv_i hP, tr_DR hv_i hD, hS, lv_sub hl [3, 4, 5, 6, 0] rfl⟩
                  · have c14 := b1t (b := _) c14
                    refine lv_iload hx hb dX3_join_137 (lv_at hl 0 rfl) ?_
                    refine lv_if_ne (tgt := 146) hx hb dX3_join_139 (by decide) (fun c15 => ?_) (fun c15 => ?_)
                    · have c15 := b1t (b := _) c15
                      refine lv_iconst (v := 0) hx hb dX3_join_146 (by decide) ?_
                      refine va_zast hx hb hK hP hD hS (4 + p0.toNatClampNeg) (3 + p0.toNatClampNeg) (wR_row A (upR u.1 p0.toNatClampNeg (flz (cbZ (u.1 p0.toNatClampNeg) (u.1 p2.toNatClampNeg) p1) (u.1 p0.toNatClampNeg) 0 i), u.2) hj_p0) (tyR_row A hj_p0) (vp_in_nI (by omega) (by omega)) dX3_join_147 (fun H locs hP hD hS => ?_)
                      rw [nI_clamp (n := i) (by omega)] at hP hD
                      have hP : va_P (dC, dI) bwCl (wR A (upR (upR u.1 p0.toNatClampNeg (flz (cbZ (u.1 p0.toNatClampNeg) (u.1 p2.toNatClampNeg) p1) (u.1 p0.toNatClampNeg) 0 i), u.2).1 p0.toNatClampNeg (upZ ((upR u.1 p0.toNatClampNeg (flz (cbZ (u.1 p0.toNatClampNeg) (u.1 p2.toNatClampNeg) p1) (u.1 p0.toNatClampNeg) 0 i), u.2).1 p0.toNatClampNeg) i false), (upR u.1 p0.toNatClampNeg (flz (cbZ (u.1 p0.toNatClampNeg) (u.1 p2.toNatClampNeg) p1) (u.1 p0.toNatClampNeg) 0 i), u.2).2)) H := stR_P (nb_0) hj_p0 hP
                      have hD : va_D (aR A s.heap.size) (wR A (upR (upR u.1 p0.toNatClampNeg (flz (cbZ (u.1 p0.toNatClampNeg) (u.1 p2.toNatClampNeg) p1) (u.1 p0.toNatClampNeg) 0 i), u.2).1 p0.toNatClampNeg (upZ ((upR u.1 p0.toNatClampNeg (flz (cbZ (u.1 p0.toNatClampNeg) (u.1 p2.toNatClampNeg) p1) (u.1 p0.toNatClampNeg) 0 i), u.2).1 p0.toNatClampNeg) i false), (upR u.1 p0.toNatClampNeg (flz (cbZ (u.1 p0.toNatClampNeg) (u.1 p2.toNatClampNeg) p1) (u.1 p0.toNatClampNeg) 0 i), u.2).2)) := stR_D (nb_0) hj_p0 hD
                      refine lv_iinc (v := nI (i + 1)) (lv' := [(4, .int (nI (i + 1))), (6, .int (bz (u.1 p2.toNatClampNeg) i)), (5, .int (bz (u.1 p0.toNatClampNeg) i)), (0, .ref (mh_ A)), (1, .int p0), (2, .int p1), (3, .int p2)]) hx hb dX3_join_148 hl (k := 6) rfl (nI_1 _) (by decide) rfl (fun ls hl => ?_)
                      refine lv_goto (tgt := 29) hx hb dX3_join_151 (by decide) ?_
                      have hv_i : (upR (upR u.1 p0.toNatClampNeg (flz (cbZ (u.1 p0.toNatClampNeg) (u.1 p2.toNatClampNeg) p1) (u.1 p0.toNatClampNeg) 0 i), u.2).1 p0.toNatClampNeg (upZ ((upR u.1 p0.toNatClampNeg (flz (cbZ (u.1 p0.toNatClampNeg) (u.1 p2.toNatClampNeg) p1) (u.1 p0.toNatClampNeg) 0 i), u.2).1 p0.toNatClampNeg) i false), (upR u.1 p0.toNatClampNeg (flz (cbZ (u.1 p0.toNatClampNeg) (u.1 p2.toNatClampNeg) p1) (u.1 p0.toNatClampNeg) 0 i), u.2).2) = (upR u.1 p0.toNatClampNeg (flz (cbZ (u.1 p0.toNatClampNeg) (u.1 p2.toNatClampNeg) p1) (u.1 p0.toNatClampNeg) 0 (i + 1)), u.2) := fz_uS _ u _ (Nat.zero_le _) (by simp [cbZ, cbB, c11, c12, c13, c14, c15])
                      exact ih_i _ _ _ (by omega) ⟨tr_PR hv_i hP, tr_DR hv_i hD, hS, lv_sub hl [3, 4, 5, 6, 0] rfl⟩
                    · have c15 := b1f (b := _) c15
                      refine lv_iconst (v := 1) hx hb dX3_join_142 (by decide) ?_
                      refine lv_goto (tgt := 147) hx hb dX3_join_143 (by decide) ?_
                      refine va_zast hx hb hK hP hD hS (4 + p0.toNatClampNeg) (3 + p0.toNatClampNeg) (wR_row A (upR u.1 p0.toNatClampNeg (flz (cbZ (u.1 p0.toNatClampNeg) (u.1 p2.toNatClampNeg) p1) (u.1 p0.toNatClampNeg) 0 i), u.2) hj_p0) (tyR_row A hj_p0) (vp_in_nI (by omega) (by omega)) dX3_join_147 (fun H locs hP hD hS => ?_)
                      rw [nI_clamp (n := i) (by omega)] at hP hD
                      have hP : va_P (dC, dI) bwCl (wR A (upR (upR u.1 p0.toNatClampNeg (flz (cbZ (u.1 p0.toNatClampNeg) (u.1 p2.toNatClampNeg) p1) (u.1 p0.toNatClampNeg) 0 i), u.2).1 p0.toNatClampNeg (upZ ((upR u.1 p0.toNatClampNeg (flz (cbZ (u.1 p0.toNatClampNeg) (u.1 p2.toNatClampNeg) p1) (u.1 p0.toNatClampNeg) 0 i), u.2).1 p0.toNatClampNeg) i true), (upR u.1 p0.toNatClampNeg (flz (cbZ (u.1 p0.toNatClampNeg) (u.1 p2.toNatClampNeg) p1) (u.1 p0.toNatClampNeg) 0 i), u.2).2)) H := stR_P (nb_1) hj_p0 hP
                      have hD : va_D (aR A s.heap.size) (wR A (upR (upR u.1 p0.toNatClampNeg (flz (cbZ (u.1 p0.toNatClampNeg) (u.1 p2.toNatClampNeg) p1) (u.1 p0.toNatClampNeg) 0 i), u.2).1 p0.toNatClampNeg (upZ ((upR u.1 p0.toNatClampNeg (flz (cbZ (u.1 p0.toNatClampNeg) (u.1 p2.toNatClampNeg) p1) (u.1 p0.toNatClampNeg) 0 i), u.2).1 p0.toNatClampNeg) i true), (upR u.1 p0.toNatClampNeg (flz (cbZ (u.1 p0.toNatClampNeg) (u.1 p2.toNatClampNeg) p1) (u.1 p0.toNatClampNeg) 0 i), u.2).2)) := stR_D (nb_1) hj_p0 hD
                      refine lv_iinc (v := nI (i + 1)) (lv' := [(4, .int (nI (i + 1))), (6, .int (bz (u.1 p2.toNatClampNeg) i)), (5, .int (bz (u.1 p0.toNatClampNeg) i)), (0, .ref (mh_ A)), (1, .int p0), (2, .int p1), (3, .int p2)]) hx hb dX3_join_148 hl (k := 6) rfl (nI_1 _) (by decide) rfl (fun ls hl => ?_)
                      refine lv_goto (tgt := 29) hx hb dX3_join_151 (by decide) ?_
                      have hv_i : (upR (upR u.1 p0.toNatClampNeg (flz (cbZ (u.1 p0.toNatClampNeg) (u.1 p2.toNatClampNeg) p1) (u.1 p0.toNatClampNeg) 0 i), u.2).1 p0.toNatClampNeg (upZ ((upR u.1 p0.toNatClampNeg (flz (cbZ (u.1 p0.toNatClampNeg) (u.1 p2.toNatClampNeg) p1) (u.1 p0.toNatClampNeg) 0 i), u.2).1 p0.toNatClampNeg) i true), (upR u.1 p0.toNatClampNeg (flz (cbZ (u.1 p0.toNatClampNeg) (u.1 p2.toNatClampNeg) p1) (u.1 p0.toNatClampNeg) 0 i), u.2).2) = (upR u.1 p0.toNatClampNeg (flz (cbZ (u.1 p0.toNatClampNeg) (u.1 p2.toNatClampNeg) p1) (u.1 p0.toNatClampNeg) 0 (i + 1)), u.2) := fz_uS _ u _ (Nat.zero_le _) (by simp [cbZ, cbB, c11, c12, c13, c14, c15])
                      exact ih_i _ _ _ (by omega) ⟨tr_PR hv_i hP, tr_DR hv_i hD, hS, lv_sub hl [3, 4, 5, 6, 0] rfl⟩
                · refine lv_iload hx hb dX3_join_117 (lv_at hl 1 rfl) ?_
                  refine lv_iload hx hb dX3_join_119 (lv_at hl 0 rfl) ?_
                  refine lv_icmp_eq (tgt := 128) hx hb dX3_join_121 (by decide) (fun c16 => ?_) (fun c16 => ?_)
                  · have c16 := b1_e (b := _) (d := _) c16
                    refine lv_iconst (v := 0) hx hb dX3_join_128 (by decide) ?_
                    refine lv_goto (tgt := 147) hx hb dX3_join_129 (by decide) ?_
                    refine va_zast hx hb hK hP hD hS (4 + p0.toNatClampNeg) (3 + p0.toNatClampNeg) (wR_row A (upR u.1 p0.toNatClampNeg (flz (cbZ (u.1 p0.toNatClampNeg) (u.1 p2.toNatClampNeg) p1) (u.1 p0.toNatClampNeg) 0 i), u.2) hj_p0) (tyR_row A hj_p0) (vp_in_nI (by omega) (by omega)) dX3_join_147 (fun H locs hP hD hS => ?_)
                    rw [nI_clamp (n := i) (by omega)] at hP hD
                    have hP : va_P (dC, dI) bwCl (wR A (upR (upR u.1 p0.toNatClampNeg (flz (cbZ (u.1 p0.toNatClampNeg) (u.1 p2.toNatClampNeg) p1) (u.1 p0.toNatClampNeg) 0 i), u.2).1 p0.toNatClampNeg (upZ ((upR u.1 p0.toNatClampNeg (flz (cbZ (u.1 p0.toNatClampNeg) (u.1 p2.toNatClampNeg) p1) (u.1 p0.toNatClampNeg) 0 i), u.2).1 p0.toNatClampNeg) i false), (upR u.1 p0.toNatClampNeg (flz (cbZ (u.1 p0.toNatClampNeg) (u.1 p2.toNatClampNeg) p1) (u.1 p0.toNatClampNeg) 0 i), u.2).2)) H := stR_P (nb_0) hj_p0 hP
                    have hD : va_D (aR A s.heap.size) (wR A (upR (upR u.1 p0.toNatClampNeg (flz (cbZ (u.1 p0.toNatClampNeg) (u.1 p2.toNatClampNeg) p1) (u.1 p0.toNatClampNeg) 0 i), u.2).1 p0.toNatClampNeg (upZ ((upR u.1 p0.toNatClampNeg (flz (cbZ (u.1 p0.toNatClampNeg) (u.1 p2.toNatClampNeg) p1) (u.1 p0.toNatClampNeg) 0 i), u.2).1 p0.toNatClampNeg) i false), (upR u.1 p0.toNatClampNeg (flz (cbZ (u.1 p0.toNatClampNeg) (u.1 p2.toNatClampNeg) p1) (u.1 p0.toNatClampNeg) 0 i), u.2).2)) := stR_D (nb_0) hj_p0 hD
                    refine lv_iinc (v := nI (i + 1)) (lv' := [(4, .int (nI (i + 1))), (6, .int (bz (u.1 p2.toNatClampNeg) i)), (5, .int (bz (u.1 p0.toNatClampNeg) i)), (0, .ref (mh_ A)), (1, .int p0), (2, .int p1), (3, .int p2)]) hx hb dX3_join_148 hl (k := 6) rfl (nI_1 _) (by decide) rfl (fun ls hl => ?_)
                    refine lv_goto (tgt := 29) hx hb dX3_join_151 (by decide) ?_
                    have hv_i : (upR (upR u.1 p0.toNatClampNeg (flz (cbZ (u.1 p0.toNatClampNeg) (u.1 p2.toNatClampNeg) p1) (u.1 p0.toNatClampNeg) 0 i), u.2).1 p0.toNatClampNeg (upZ ((upR u.1 p0.toNatClampNeg (flz (cbZ (u.1 p0.toNatClampNeg) (u.1 p2.toNatClampNeg) p1) (u.1 p0.toNatClampNeg) 0 i), u.2).1 p0.toNatClampNeg) i false), (upR u.1 p0.toNatClampNeg (flz (cbZ (u.1 p0.toNatClampNeg) (u.1 p2.toNatClampNeg) p1) (u.1 p0.toNatClampNeg) 0 i), u.2).2) = (upR u.1 p0.toNatClampNeg (flz (cbZ (u.1 p0.toNatClampNeg) (u.1 p2.toNatClampNeg) p1) (u.1 p0.toNatClampNeg) 0 (i + 1)), u.2) := fz_uS _ u _ (Nat.zero_le _) (by simp [cbZ, cbB, c11, c12, c13, c16])
                    exact ih_i _ _ _ (by omega) ⟨tr_PR hv_i hP, tr_DR hv_i hD, hS, lv_sub hl [3, 4, 5, 6, 0] rfl⟩
                  · have c16 := b1_ne (b := _) (d := _) c16
                    refine lv_iconst (v := 1) hx hb dX3_join_124 (by decide) ?_
                    refine lv_goto (tgt := 147) hx hb dX3_join_125 (by decide) ?_
                    refine va_zast hx hb hK hP hD hS (4 + p0.toNatClampNeg) (3 + p0.toNatClampNeg) (wR_row A (upR u.1 p0.toNatClampNeg (flz (cbZ (u.1 p0.toNatClampNeg) (u.1 p2.toNatClampNeg) p1) (u.1 p0.toNatClampNeg) 0 i), u.2) hj_p0) (tyR_row A hj_p0) (vp_in_nI (by omega) (by omega)) dX3_join_147 (fun H locs hP hD hS => ?_)
                    rw [nI_clamp (n := i) (by omega)] at hP hD
                    have hP : va_P (dC, dI) bwCl (wR A (upR (upR u.1 p0.toNatClampNeg (flz (cbZ (u.1 p0.toNatClampNeg) (u.1 p2.toNatClampNeg) p1) (u.1 p0.toNatClampNeg) 0 i), u.2).1 p0.toNatClampNeg (upZ ((upR u.1 p0.toNatClampNeg (flz (cbZ (u.1 p0.toNatClampNeg) (u.1 p2.toNatClampNeg) p1) (u.1 p0.toNatClampNeg) 0 i), u.2).1 p0.toNatClampNeg) i true), (upR u.1 p0.toNatClampNeg (flz (cbZ (u.1 p0.toNatClampNeg) (u.1 p2.toNatClampNeg) p1) (u.1 p0.toNatClampNeg) 0 i), u.2).2)) H := stR_P (nb_1) hj_p0 hP
                    have hD : va_D (aR A s.heap.size) (wR A (upR (upR u.1 p0.toNatClampNeg (flz (cbZ (u.1 p0.toNatClampNeg) (u.1 p2.toNatClampNeg) p1) (u.1 p0.toNatClampNeg) 0 i), u.2).1 p0.toNatClampNeg (upZ ((upR u.1 p0.toNatClampNeg (flz (cbZ (u.1 p0.toNatClampNeg) (u.1 p2.toNatClampNeg) p1) (u.1 p0.toNatClampNeg) 0 i), u.2).1 p0.toNatClampNeg) i true), (upR u.1 p0.toNatClampNeg (flz (cbZ (u.1 p0.toNatClampNeg) (u.1 p2.toNatClampNeg) p1) (u.1 p0.toNatClampNeg) 0 i), u.2).2)) := stR_D (nb_1) hj_p0 hD
                    refine lv_iinc (v := nI (i + 1)) (lv' := [(4, .int (nI (i + 1))), (6, .int (bz (u.1 p2.toNatClampNeg) i)), (5, .int (bz (u.1 p0.toNatClampNeg) i)), (0, .ref (mh_ A)), (1, .int p0), (2, .int p1), (3, .int p2)]) hx hb dX3_join_148 hl (k := 6) rfl (nI_1 _) (by decide) rfl (fun ls hl => ?_)
                    refine lv_goto (tgt := 29) hx hb dX3_join_151 (by decide) ?_
                    have hv_i : (upR (upR u.1 p0.toNatClampNeg (flz (cbZ (u.1 p0.toNatClampNeg) (u.1 p2.toNatClampNeg) p1) (u.1 p0.toNatClampNeg) 0 i), u.2).1 p0.toNatClampNeg (upZ ((upR u.1 p0.toNatClampNeg (flz (cbZ (u.1 p0.toNatClampNeg) (u.1 p2.toNatClampNeg) p1) (u.1 p0.toNatClampNeg) 0 i), u.2).1 p0.toNatClampNeg) i true), (upR u.1 p0.toNatClampNeg (flz (cbZ (u.1 p0.toNatClampNeg) (u.1 p2.toNatClampNeg) p1) (u.1 p0.toNatClampNeg) 0 i), u.2).2) = (upR u.1 p0.toNatClampNeg (flz (cbZ (u.1 p0.toNatClampNeg) (u.1 p2.toNatClampNeg) p1) (u.1 p0.toNatClampNeg) 0 (i + 1)), u.2) := fz_uS _ u _ (Nat.zero_le _) (by simp [cbZ, cbB, c11, c12, c13, c16])
                    exact ih_i _ _ _ (by omega) ⟨tr_PR hv_i hP, tr_DR hv_i hD, hS, lv_sub hl [3, 4, 5, 6, 0] rfl⟩
              · refine lv_iload hx hb dX3_join_94 (lv_at hl 1 rfl) ?_
                refine lv_if_ne (tgt := 104) hx hb dX3_join_96 (by decide) (fun c17 => ?_) (fun c17 => ?_)
                · have c17 := b1t (b := _) c17
                  refine lv_iconst (v := 1) hx hb dX3_join_104 (by decide) ?_
                  refine lv_goto (tgt := 147) hx hb dX3_join_105 (by decide) ?_
                  refine va_zast hx hb hK hP hD hS (4 + p0.toNatClampNeg) (3 + p0.toNatClampNeg) (wR_row A (upR u.1 p0.toNatClampNeg (flz (cbZ (u.1 p0.toNatClampNeg) (u.1 p2.toNatClampNeg) p1) (u.1 p0.toNatClampNeg) 0 i), u.2) hj_p0) (tyR_row A hj_p0) (vp_in_nI (by omega) (by omega)) dX3_join_147 (fun H locs hP hD hS => ?_)
                  rw [nI_clamp (n := i) (by omega)] at hP hD
                  have hP : va_P (dC, dI) bwCl (wR A (upR (upR u.1 p0.toNatClampNeg (flz (cbZ (u.1 p0.toNatClampNeg) (u.1 p2.toNatClampNeg) p1) (u.1 p0.toNatClampNeg) 0 i), u.2).1 p0.toNatClampNeg (upZ ((upR u.1 p0.toNatClampNeg (flz (cbZ (u.1 p0.toNatClampNeg) (u.1 p2.toNatClampNeg) p1) (u.1 p0.toNatClampNeg) 0 i), u.2).1 p0.toNatClampNeg) i true), (upR u.1 p0.toNatClampNeg (flz (cbZ (u.1 p0.toNatClampNeg) (u.1 p2.toNatClampNeg) p1) (u.1 p0.toNatClampNeg) 0 i), u.2).2)) H := stR_P (nb_1) hj_p0 hP
                  have hD : va_D (aR A s.heap.size) (wR A (upR (upR u.1 p0.toNatClampNeg (flz (cbZ (u.1 p0.toNatClampNeg) (u.1 p2.toNatClampNeg) p1) (u.1 p0.toNatClampNeg) 0 i), u.2).1 p0.toNatClampNeg (upZ ((upR u.1 p0.toNatClampNeg (flz (cbZ (u.1 p0.toNatClampNeg) (u.1 p2.toNatClampNeg) p1) (u.1 p0.toNatClampNeg) 0 i), u.2).1 p0.toNatClampNeg) i true), (upR u.1 p0.toNatClampNeg (flz (cbZ (u.1 p0.toNatClampNeg) (u.1 p2.toNatClampNeg) p1) (u.1 p0.toNatClampNeg) 0 i), u.2).2)) := stR_D (nb_1) hj_p0 hD
                  refine lv_iinc (v := nI (i + 1)) (lv' := [(4, .int (nI (i + 1))), (6, .int (bz (u.1 p2.toNatClampNeg) i)), (5, .int (bz (u.1 p0.toNatClampNeg) i)), (0, .ref (mh_ A)), (1, .int p0), (2, .int p1), (3, .int p2)]) hx hb dX3_join_148 hl (k := 6) rfl (nI_1 _) (by decide) rfl (fun ls hl => ?_)
                  refine lv_goto (tgt := 29) hx hb dX3_join_151 (by decide) ?_
                  have hv_i : (upR (upR u.1 p0.toNatClampNeg (flz (cbZ (u.1 p0.toNatClampNeg) (u.1 p2.toNatClampNeg) p1) (u.1 p0.toNatClampNeg) 0 i), u.2).1 p0.toNatClampNeg (upZ ((upR u.1 p0.toNatClampNeg (flz (cbZ (u.1 p0.toNatClampNeg) (u.1 p2.toNatClampNeg) p1) (u.1 p0.toNatClampNeg) 0 i), u.2).1 p0.toNatClampNeg) i true), (upR u.1 p0.toNatClampNeg (flz (cbZ (u.1 p0.toNatClampNeg) (u.1 p2.toNatClampNeg) p1) (u.1 p0.toNatClampNeg) 0 i), u.2).2) = (upR u.1 p0.toNatClampNeg (flz (cbZ (u.1 p0.toNatClampNeg) (u.1 p2.toNatClampNeg) p1) (u.1 p0.toNatClampNeg) 0 (i + 1)), u.2) := fz_uS _ u _ (Nat.zero_le _) (by simp [cbZ, cbB, c11, c12, c17])
                  exact ih_i _ _ _ (by omega) ⟨tr_PR hv_i hP, tr_DR hv_i hD, hS, lv_sub hl [3, 4, 5, 6, 0] rfl⟩
                · have c17 := b1f (b := _) c17
                  refine lv_iload hx hb dX3_join_99 (lv_at hl 0 rfl) ?_
                  refine lv_if_eq (tgt := 108) hx hb dX3_join_101 (by decide) (fun c18 => ?_) (fun c18 => ?_)
                  · have c18 := b1f (b := _) c18
                    refine lv_iconst (v := 0) hx hb dX3_join_108 (by decide) ?_
                    refine lv_goto (tgt := 147) hx hb dX3_join_109 (by decide) ?_
                    refine va_zast hx hb hK hP hD hS (4 + p0.toNatClampNeg) (3 + p0.toNatClampNeg) (wR_row A (upR u.1 p0.toNatClampNeg (flz (cbZ (u.1 p0.toNatClampNeg) (u.1 p2.toNatClampNeg) p1) (u.1 p0.toNatClampNeg) 0 i), u.2) hj_p0) (tyR_row A hj_p0) (vp_in_nI (by omega) (by omega)) dX3_join_147 (fun H locs hP hD hS => ?_)
                    rw [nI_clamp (n := i) (by omega)] at hP hD
                    have hP : va_P (dC, dI) bwCl (wR A (upR (upR u.1 p0.toNatClampNeg (flz (cbZ (u.1 p0.toNatClampNeg) (u.1 p2.toNatClampNeg) p1) (u.1 p0.toNatClampNeg) 0 i), u.2).1 p0.toNatClampNeg (upZ ((upR u.1 p0.toNatClampNeg (flz (cbZ (u.1 p0.toNatClampNeg) (u.1 p2.toNatClampNeg) p1) (u.1 p0.toNatClampNeg) 0 i), u.2).1 p0.toNatClampNeg) i false), (upR u.1 p0.toNatClampNeg (flz (cbZ (u.1 p0.toNatClampNeg) (u.1 p2.toNatClampNeg) p1) (u.1 p0.toNatClampNeg) 0 i), u.2).2)) H := stR_P (nb_0) hj_p0 hP
                    have hD : va_D (aR A s.heap.size) (wR A (upR (upR u.1 p0.toNatClampNeg (flz (cbZ (u.1 p0.toNatClampNeg) (u.1 p2.toNatClampNeg) p1) (u.1 p0.toNatClampNeg) 0 i), u.2).1 p0.toNatClampNeg (upZ ((upR u.1 p0.toNatClampNeg (flz (cbZ (u.1 p0.toNatClampNeg) (u.1 p2.toNatClampNeg) p1) (u.1 p0.toNatClampNeg) 0 i), u.2).1 p0.toNatClampNeg) i false), (upR u.1 p0.toNatClampNeg (flz (cbZ (u.1 p0.toNatClampNeg) (u.1 p2.toNatClampNeg) p1) (u.1 p0.toNatClampNeg) 0 i), u.2).2)) := stR_D (nb_0) hj_p0 hD
                    refine lv_iinc (v := nI (i + 1)) (lv' := [(4, .int (nI (i + 1))), (6, .int (bz (u.1 p2.toNatClampNeg) i)), (5, .int (bz (u.1 p0.toNatClampNeg) i)), (0, .ref (mh_ A)), (1, .int p0), (2, .int p1), (3, .int p2)]) hx hb dX3_join_148 hl (k := 6) rfl (nI_1 _) (by decide) rfl (fun ls hl => ?_)
                    refine lv_goto (tgt := 29) hx hb dX3_join_151 (by decide) ?_
                    have hv_i : (upR (upR u.1 p0.toNatClampNeg (flz (cbZ (u.1 p0.toNatClampNeg) (u.1 p2.toNatClampNeg) p1) (u.1 p0.toNatClampNeg) 0 i), u.2).1 p0.toNatClampNeg (upZ ((upR u.1 p0.toNatClampNeg (flz (cbZ (u.1 p0.toNatClampNeg) (u.1 p2.toNatClampNeg) p1) (u.1 p0.toNatClampNeg) 0 i), u.2).1 p0.toNatClampNeg) i false), (upR u.1 p0.toNatClampNeg (flz (cbZ (u.1 p0.toNatClampNeg) (u.1 p2.toNatClampNeg) p1) (u.1 p0.toNatClampNeg) 0 i), u.2).2) = (upR u.1 p0.toNatClampNeg (flz (cbZ (u.1 p0.toNatClampNeg) (u.1 p2.toNatClampNeg) p1) (u.1 p0.toNatClampNeg) 0 (i + 1)), u.2) := fz_uS _ u _ (Nat.zero_le _) (by simp [cbZ, cbB, c11, c12, c17, c18])
                    exact ih_i _ _ _ (by omega) ⟨tr_PR hv_i hP, tr_DR hv_i hD, hS, lv_sub hl [3, 4, 5, 6, 0] rfl⟩
                  · have c18 := b1t (b := _) c18
                    refine lv_iconst (v := 1) hx hb dX3_join_104 (by decide) ?_
                    refine lv_goto (tgt := 147) hx hb dX3_join_105 (by decide) ?_
                    refine va_zast hx hb hK hP hD hS (4 + p0.toNatClampNeg) (3 + p0.toNatClampNeg) (wR_row A (upR u.1 p0.toNatClampNeg (flz (cbZ (u.1 p0.toNatClampNeg) (u.1 p2.toNatClampNeg) p1) (u.1 p0.toNatClampNeg) 0 i), u.2) hj_p0) (tyR_row A hj_p0) (vp_in_nI (by omega) (by omega)) dX3_join_147 (fun H locs hP hD hS => ?_)
                    rw [nI_clamp (n := i) (by omega)] at hP hD
                    have hP : va_P (dC, dI) bwCl (wR A (upR (upR u.1 p0.toNatClampNeg (flz (cbZ (u.1 p0.toNatClampNeg) (u.1 p2.toNatClampNeg) p1) (u.1 p0.toNatClampNeg) 0 i), u.2).1 p0.toNatClampNeg (upZ ((upR u.1 p0.toNatClampNeg (flz (cbZ (u.1 p0.toNatClampNeg) (u.1 p2.toNatClampNeg) p1) (u.1 p0.toNatClampNeg) 0 i), u.2).1 p0.toNatClampNeg) i true), (upR u.1 p0.toNatClampNeg (flz (cbZ (u.1 p0.toNatClampNeg) (u.1 p2.toNatClampNeg) p1) (u.1 p0.toNatClampNeg) 0 i), u.2).2)) H := stR_P (nb_1) hj_p0 hP
                    have hD : va_D (aR A s.heap.size) (wR A (upR (upR u.1 p0.toNatClampNeg (flz (cbZ (u.1 p0.toNatClampNeg) (u.1 p2.toNatClampNeg) p1) (u.1 p0.toNatClampNeg) 0 i), u.2).1 p0.toNatClampNeg (upZ ((upR u.1 p0.toNatClampNeg (flz (cbZ (u.1 p0.toNatClampNeg) (u.1 p2.toNatClampNeg) p1) (u.1 p0.toNatClampNeg) 0 i), u.2).1 p0.toNatClampNeg) i true), (upR u.1 p0.toNatClampNeg (flz (cbZ (u.1 p0.toNatClampNeg) (u.1 p2.toNatClampNeg) p1) (u.1 p0.toNatClampNeg) 0 i), u.2).2)) := stR_D (nb_1) hj_p0 hD
                    refine lv_iinc (v := nI (i + 1)) (lv' := [(4, .int (nI (i + 1))), (6, .int (bz (u.1 p2.toNatClampNeg) i)), (5, .int (bz (u.1 p0.toNatClampNeg) i)), (0, .ref (mh_ A)), (1, .int p0), (2, .int p1), (3, .int p2)]) hx hb dX3_join_148 hl (k := 6) rfl (nI_1 _) (by decide) rfl (fun ls hl => ?_)
                    refine lv_goto (tgt := 29) hx hb dX3_join_151 (by decide) ?_
                    have hv_i : (upR (upR u.1 p0.toNatClampNeg (flz (cbZ (u.1 p0.toNatClampNeg) (u.1 p2.toNatClampNeg) p1) (u.1 p0.toNatClampNeg) 0 i), u.2).1 p0.toNatClampNeg (upZ ((upR u.1 p0.toNatClampNeg (flz (cbZ (u.1 p0.toNatClampNeg) (u.1 p2.toNatClampNeg) p1) (u.1 p0.toNatClampNeg) 0 i), u.2).1 p0.toNatClampNeg) i true), (upR u.1 p0.toNatClampNeg (flz (cbZ (u.1 p0.toNatClampNeg) (u.1 p2.toNatClampNeg) p1) (u.1 p0.toNatClampNeg) 0 i), u.2).2) = (upR u.1 p0.toNatClampNeg (flz (cbZ (u.1 p0.toNatClampNeg) (u.1 p2.toNatClampNeg) p1) (u.1 p0.toNatClampNeg) 0 (i + 1)), u.2) := fz_uS _ u _ (Nat.zero_le _) (by simp [cbZ, cbB, c11, c12, c17, c18])
                    exact ih_i _ _ _ (by omega) ⟨tr_PR hv_i hP, tr_DR hv_i hD, hS, lv_sub hl [3, 4, 5, 6, 0] rfl⟩
            · refine lv_iload hx hb dX3_join_71 (lv_at hl 1 rfl) ?_
              refine lv_if_eq (tgt := 85) hx hb dX3_join_73 (by decide) (fun c19 => ?_) (fun c19 => ?_)
              · have c19 := b1f (b := _) c19
                refine lv_iconst (v := 0) hx hb dX3_join_85 (by decide) ?_
                refine lv_goto (tgt := 147) hx hb dX3_join_86 (by decide) ?_
                refine va_zast hx hb hK hP hD hS (4 + p0.toNatClampNeg) (3 + p0.toNatClampNeg) (wR_row A (upR u.1 p0.toNatClampNeg (flz (cbZ (u.1 p0.toNatClampNeg) (u.1 p2.toNatClampNeg) p1) (u.1 p0.toNatClampNeg) 0 i), u.2) hj_p0) (tyR_row A hj_p0) (vp_in_nI (by omega) (by omega)) dX3_join_147 (fun H locs hP hD hS => ?_)
                rw [nI_clamp (n := i) (by omega)] at hP hD
                have hP : va_P (dC, dI) bwCl (wR A (upR (upR u.1 p0.toNatClampNeg (flz (cbZ (u.1 p0.toNatClampNeg) (u.1 p2.toNatClampNeg) p1) (u.1 p0.toNatClampNeg) 0 i), u.2).1 p0.toNatClampNeg (upZ ((upR u.1 p0.toNatClampNeg (flz (cbZ (u.1 p0.toNatClampNeg) (u.1 p2.toNatClampNeg) p1) (u.1 p0.toNatClampNeg) 0 i), u.2).1 p0.toNatClampNeg) i false), (upR u.1 p0.toNatClampNeg (flz (cbZ (u.1 p0.toNatClampNeg) (u.1 p2.toNatClampNeg) p1) (u.1 p0.toNatClampNeg) 0 i), u.2).2)) H := stR_P (nb_0) hj_p0 hP
                have hD : va_D (aR A s.heap.size) (wR A (upR (upR u.1 p0.toNatClampNeg (flz (cbZ (u.1 p0.toNatClampNeg) (u.1 p2.toNatClampNeg) p1) (u.1 p0.toNatClampNeg) 0 i), u.2).1 p0.toNatClampNeg (upZ ((upR u.1 p0.toNatClampNeg (flz (cbZ (u.1 p0.toNatClampNeg) (u.1 p2.toNatClampNeg) p1) (u.1 p0.toNatClampNeg) 0 i), u.2).1 p0.toNatClampNeg) i false), (upR u.1 p0.toNatClampNeg (flz (cbZ (u.1 p0.toNatClampNeg) (u.1 p2.toNatClampNeg) p1) (u.1 p0.toNatClampNeg) 0 i), u.2).2)) := stR_D (nb_0) hj_p0 hD
                refine lv_iinc (v := nI (i + 1)) (lv' := [(4, .int (nI (i + 1))), (6, .int (bz (u.1 p2.toNatClampNeg) i)), (5, .int (bz (u.1 p0.toNatClampNeg) i)), (0, .ref (mh_ A)), (1, .int p0), (2, .int p1), (3, .int p2)]) hx hb dX3_join_148 hl (k := 6) rfl (nI_1 _) (by decide) rfl (fun ls hl => ?_)
                refine lv_goto (tgt := 29) hx hb dX3_join_151 (by decide) ?_
                have hv_i : (upR (upR u.1 p0.toNatClampNeg (flz (cbZ (u.1 p0.toNatClampNeg) (u.1 p2.toNatClampNeg) p1) (u.1 p0.toNatClampNeg) 0 i), u.2).1 p0.toNatClampNeg (upZ ((upR u.1 p0.toNatClampNeg (flz (cbZ (u.1 p0.toNatClampNeg) (u.1 p2.toNatClampNeg) p1) (u.1 p0.toNatClampNeg) 0 i), u.2).1 p0.toNatClampNeg) i false), (upR u.1 p0.toNatClampNeg (flz (cbZ (u.1 p0.toNatClampNeg) (u.1 p2.toNatClampNeg) p1) (u.1 p0.toNatClampNeg) 0 i), u.2).2) = (upR u.1 p0.toNatClampNeg (flz (cbZ (u.1 p0.toNatClampNeg) (u.1 p2.toNatClampNeg) p1) (u.1 p0.toNatClampNeg) 0 (i + 1)), u.2) := fz_uS _ u _ (Nat.zero_le _) (by simp [cbZ, cbB, c11, c19])
                exact ih_i _ _ _ (by omega) ⟨tr_PR hv_i hP, tr_DR hv_i hD, hS, lv_sub hl [3, 4, 5, 6, 0] rfl⟩
              · have c19 := b1t (b := _) c19
                refine lv_iload hx hb dX3_join_76 (lv_at hl 0 rfl) ?_
                refine lv_if_eq (tgt := 85) hx hb dX3_join_78 (by decide) (fun c20 => ?_) (fun c20 => ?_)
                · have c20 := b1f (b := _) c20
                  refine lv_iconst (v := 0) hx hb dX3_join_85 (by decide) ?_
                  refine lv_goto (tgt := 147) hx hb dX3_join_86 (by decide) ?_
                  refine va_zast hx hb hK hP hD hS (4 + p0.toNatClampNeg) (3 + p0.toNatClampNeg) (wR_row A (upR u.1 p0.toNatClampNeg (flz (cbZ (u.1 p0.toNatClampNeg) (u.1 p2.toNatClampNeg) p1) (u.1 p0.toNatClampNeg) 0 i), u.2) hj_p0) (tyR_row A hj_p0) (vp_in_nI (by omega) (by omega)) dX3_join_147 (fun H locs hP hD hS => ?_)
                  rw [nI_clamp (n := i) (by omega)] at hP hD
                  have hP : va_P (dC, dI) bwCl (wR A (upR (upR u.1 p0.toNatClampNeg (flz (cbZ (u.1 p0.toNatClampNeg) (u.1 p2.toNatClampNeg) p1) (u.1 p0.toNatClampNeg) 0 i), u.2).1 p0.toNatClampNeg (upZ ((upR u.1 p0.toNatClampNeg (flz (cbZ (u.1 p0.toNatClampNeg) (u.1 p2.toNatClampNeg) p1) (u.1 p0.toNatClampNeg) 0 i), u.2).1 p0.toNatClampNeg) i false), (upR u.1 p0.toNatClampNeg (flz (cbZ (u.1 p0.toNatClampNeg) (u.1 p2.toNatClampNeg) p1) (u.1 p0.toNatClampNeg) 0 i), u.2).2)) H := stR_P (nb_0) hj_p0 hP
                  have hD : va_D (aR A s.heap.size) (wR A (upR (upR u.1 p0.toNatClampNeg (flz (cbZ (u.1 p0.toNatClampNeg) (u.1 p2.toNatClampNeg) p1) (u.1 p0.toNatClampNeg) 0 i), u.2).1 p0.toNatClampNeg (upZ ((upR u.1 p0.toNatClampNeg (flz (cbZ (u.1 p0.toNatClampNeg) (u.1 p2.toNatClampNeg) p1) (u.1 p0.toNatClampNeg) 0 i), u.2).1 p0.toNatClampNeg) i false), (upR u.1 p0.toNatClampNeg (flz (cbZ (u.1 p0.toNatClampNeg) (u.1 p2.toNatClampNeg) p1) (u.1 p0.toNatClampNeg) 0 i), u.2).2)) := stR_D (nb_0) hj_p0 hD
                  refine lv_iinc (v := nI (i + 1)) (lv' := [(4, .int (nI (i + 1))), (6, .int (bz (u.1 p2.toNatClampNeg) i)), (5, .int (bz (u.1 p0.toNatClampNeg) i)), (0, .ref (mh_ A)), (1, .int p0), (2, .int p1), (3, .int p2)]) hx hb dX3_join_148 hl (k := 6) rfl (nI_1 _) (by decide) rfl (fun ls hl => ?_)
                  refine lv_goto (tgt := 29) hx hb dX3_join_151 (by decide) ?_
                  have hv_i : (upR (upR u.1 p0.toNatClampNeg (flz (cbZ (u.1 p0.toNatClampNeg) (u.1 p2.toNatClampNeg) p1) (u.1 p0.toNatClampNeg) 0 i), u.2).1 p0.toNatClampNeg (upZ ((upR u.1 p0.toNatClampNeg (flz (cbZ (u.1 p0.toNatClampNeg) (u.1 p2.toNatClampNeg) p1) (u.1 p0.toNatClampNeg) 0 i), u.2).1 p0.toNatClampNeg) i false), (upR u.1 p0.toNatClampNeg (flz (cbZ (u.1 p0.toNatClampNeg) (u.1 p2.toNatClampNeg) p1) (u.1 p0.toNatClampNeg) 0 i), u.2).2) = (upR u.1 p0.toNatClampNeg (flz (cbZ (u.1 p0.toNatClampNeg) (u.1 p2.toNatClampNeg) p1) (u.1 p0.toNatClampNeg) 0 (i + 1)), u.2) := fz_uS _ u _ (Nat.zero_le _) (by simp [cbZ, cbB, c11, c19, c20])
                  exact ih_i _ _ _ (by omega) ⟨tr_PR hv_i hP, tr_DR hv_i hD, hS, lv_sub hl [3, 4, 5, 6, 0] rfl⟩
                · have c20 := b1t (b := _) c20
                  refine lv_iconst (v := 1) hx hb dX3_join_81 (by decide) ?_
                  refine lv_goto (tgt := 147) hx hb dX3_join_82 (by decide) ?_
                  refine va_zast hx hb hK hP hD hS (4 + p0.toNatClampNeg) (3 + p0.toNatClampNeg) (wR_row A (upR u.1 p0.toNatClampNeg (flz (cbZ (u.1 p0.toNatClampNeg) (u.1 p2.toNatClampNeg) p1) (u.1 p0.toNatClampNeg) 0 i), u.2) hj_p0) (tyR_row A hj_p0) (vp_in_nI (by omega) (by omega)) dX3_join_147 (fun H locs hP hD hS => ?_)
                  rw [nI_clamp (n := i) (by omega)] at hP hD
                  have hP : va_P (dC, dI) bwCl (wR A (upR (upR u.1 p0.toNatClampNeg (flz (cbZ (u.1 p0.toNatClampNeg) (u.1 p2.toNatClampNeg) p1) (u.1 p0.toNatClampNeg) 0 i), u.2).1 p0.toNatClampNeg (upZ ((upR u.1 p0.toNatClampNeg (flz (cbZ (u.1 p0.toNatClampNeg) (u.1 p2.toNatClampNeg) p1) (u.1 p0.toNatClampNeg) 0 i), u.2).1 p0.toNatClampNeg) i true), (upR u.1 p0.toNatClampNeg (flz (cbZ (u.1 p0.toNatClampNeg) (u.1 p2.toNatClampNeg) p1) (u.1 p0.toNatClampNeg) 0 i), u.2).2)) H := stR_P (nb_1) hj_p0 hP
                  have hD : va_D (aR A s.heap.size) (wR A (upR (upR u.1 p0.toNatClampNeg (flz (cbZ (u.1 p0.toNatClampNeg) (u.1 p2.toNatClampNeg) p1) (u.1 p0.toNatClampNeg) 0 i), u.2).1 p0.toNatClampNeg (upZ ((upR u.1 p0.toNatClampNeg (flz (cbZ (u.1 p0.toNatClampNeg) (u.1 p2.toNatClampNeg) p1) (u.1 p0.toNatClampNeg) 0 i), u.2).1 p0.toNatClampNeg) i true), (upR u.1 p0.toNatClampNeg (flz (cbZ (u.1 p0.toNatClampNeg) (u.1 p2.toNatClampNeg) p1) (u.1 p0.toNatClampNeg) 0 i), u.2).2)) := stR_D (nb_1) hj_p0 hD
                  refine lv_iinc (v := nI (i + 1)) (lv' := [(4, .int (nI (i + 1))), (6, .int (bz (u.1 p2.toNatClampNeg) i)), (5, .int (bz (u.1 p0.toNatClampNeg) i)), (0, .ref (mh_ A)), (1, .int p0), (2, .int p1), (3, .int p2)]) hx hb dX3_join_148 hl (k := 6) rfl (nI_1 _) (by decide) rfl (fun ls hl => ?_)
                  refine lv_goto (tgt := 29) hx hb dX3_join_151 (by decide) ?_
                  have hv_i : (upR (upR u.1 p0.toNatClampNeg (flz (cbZ (u.1 p0.toNatClampNeg) (u.1 p2.toNatClampNeg) p1) (u.1 p0.toNatClampNeg) 0 i), u.2).1 p0.toNatClampNeg (upZ ((upR u.1 p0.toNatClampNeg (flz (cbZ (u.1 p0.toNatClampNeg) (u.1 p2.toNatClampNeg) p1) (u.1 p0.toNatClampNeg) 0 i), u.2).1 p0.toNatClampNeg) i true), (upR u.1 p0.toNatClampNeg (flz (cbZ (u.1 p0.toNatClampNeg) (u.1 p2.toNatClampNeg) p1) (u.1 p0.toNatClampNeg) 0 i), u.2).2) = (upR u.1 p0.toNatClampNeg (flz (cbZ (u.1 p0.toNatClampNeg) (u.1 p2.toNatClampNeg) p1) (u.1 p0.toNatClampNeg) 0 (i + 1)), u.2) := fz_uS _ u _ (Nat.zero_le _) (by simp [cbZ, cbB, c11, c19, c20])
                  exact ih_i _ _ _ (by omega) ⟨tr_PR hv_i hP, tr_DR hv_i hD, hS, lv_sub hl [3, 4, 5, 6, 0] rfl⟩
        · refine lv_bipush (v := -2) hx hb dX3_join_23 (by decide) ?_
          exact W.iret hx hb hr (fun t9 ht9 hW => ⟨⟨_, u, rfl, Or.inr ⟨fun h => h.2.2.2 c4, rfl, rfl⟩, by rw [ht9]; exact hP, va_K.moved hW.alike hK, hD⟩, hS.F ht9⟩) hS.2.2 dX3_join_25
set_option maxHeartbeats 4000000 in
set_option maxRecDepth 100000 in
theorem c_X3_copy (l : Launch) (dC : Nat → ClassId) (dI : Nat → Nat → Nat) (A : AdR) (u : StR)  (p0 : Int32) (p1 : Int32) : gMi l yX3_copy wX3_copy ({ frames := 1, cells := 0, slots := 0, locals := 23 }) (dC, dI) bwCl (tyR A) (wR A) (aR A) [.ref (mh_ A), .int p0, .int p1] u (fun r v => ((¬ (fX3_isRow p0) = 0 ∧ ¬ (fX3_isRow p1) = 0) ∧ (r = nI (cnt (((upR u.1 p0.toNatClampNeg (flz (u.1 p1.toNatClampNeg) (u.1 p0.toNatClampNeg) 0 4032), u.2) : StR).1 p0.toNatClampNeg) 4032) ∧ ((upR u.1 p0.toNatClampNeg (flz (u.1 p1.toNatClampNeg) (u.1 p0.toNatClampNeg) 0 4032), u.2) : StR) = v)) ∨ (¬ (¬ (fX3_isRow p0) = 0 ∧ ¬ (fX3_isRow p1) = 0) ∧ r = -2 ∧ u = v)) := by
  unfold gMi
  intro sz
  refine Met.ofW (cc := cX3_copy) (maxL := 4) (ret := (some .int)) (by decide) rfl ?_
  intro p e s m args below meth c s₁ B hml hv
  obtain ⟨rfl, hsz, hP, hK, hD⟩ := hv
  subst hsz
  have hS : va_S (aR A s.heap.size) s.heap s.heap [] := va_S.rf
  have hx := B.exec
  have hb := B.bytes
  have hr := B.returns
  have hts := atoms_spec (ws := wX3_copy) B.pre
  have hw : ∀ w ∈ tg_, w.before _ s = true := fun w h => hts w (List.mem_cons_of_mem _ h)
  have hown : s.vm.findClass RX3 = some m.cls := findClass_of_methodNamed B.named
  have hlocks := B.notSynchronized
  have hl := lv_entry ([.ref (mh_ A), .int p0, .int p1]) (n := 4) (Nat.le_of_ble_eq_true rfl)
  rw [lg_entry_eq]
  generalize (lg_sl ([.ref (mh_ A), .int p0, .int p1]) ++ List.replicate (4 - (lg_sl ([.ref (mh_ A), .int p0, .int p1])).length) Slot.unset).toArray = ls at hl ⊢
  have hl : lv_has ls 4 [(0, .ref (mh_ A)), (1, .int p0), (2, .int p1)] := hl
  refine lv_iload_n hx hb dX3_copy_0 rfl (lv_at hl 1 rfl) ?_
  refine vp_callSi (W.runS (As := [.int p0]) (rest := []) ⟨hx, hb, hml, hown, hts⟩ (c_X3_isRow l p0) (va_cwS 1 hts (gi_S hbc tw_261 tw_262 tw_4 tw_263) rfl rfl rfl (by decide +kernel) ⟨Nat.le_of_ble_eq_true rfl, Nat.le_of_ble_eq_true rfl⟩) preEq rfl rfl hl.1 rfl (lv_room (Nat.le_of_ble_eq_true rfl)) dX3_copy_1 ⟨Nat.le_of_ble_eq_true rfl, Nat.le_of_ble_eq_true rfl⟩) (fun r hq => ?_)
  subst hq
  refine lv_if_eq (tgt := 14) hx hb dX3_copy_4 (by decide) (fun c1 => ?_) (fun c1 => ?_)
  · refine lv_bipush (v := -2) hx hb dX3_copy_14 (by decide) ?_
    exact W.iret hx hb hr (fun t9 ht9 hW => ⟨⟨_, u, rfl, Or.inr ⟨fun h => h.1 c1, rfl, rfl⟩, by rw [ht9]; exact hP, va_K.moved hW.alike hK, hD⟩, hS.F ht9⟩) hS.2.2 dX3_copy_16
  · have hj_p0 := row_lt (p := p0) c1
    refine lv_iload_n hx hb dX3_copy_7 rfl (lv_at hl 2 rfl) ?_
    refine vp_callSi (W.runS (As := [.int p1]) (rest := []) ⟨hx, hb, hml, hown, hts⟩ (c_X3_isRow l p1) (va_cwS 1 hts (gi_S hbc tw_261 tw_262 tw_4 tw_263) rfl rfl rfl (by decide +kernel) ⟨Nat.le_of_ble_eq_true rfl, Nat.le_of_ble_eq_true rfl⟩) preEq rfl rfl hl.1 rfl (lv_room (Nat.le_of_ble_eq_true rfl)) dX3_copy_8 ⟨Nat.le_of_ble_eq_true rfl, Nat.le_of_ble_eq_true rfl⟩) (fun r hq => ?_)
    subst hq
    refine lv_if_ne (tgt := 17) hx hb dX3_copy_11 (by decide) (fun c2 => ?_) (fun c2 => ?_)
    · have hj_p1 := row_lt (p := p1) c2
      refine lv_iconst (v := 0) hx hb dX3_copy_17 (by decide) ?_
      refine lv_istore_n (lv' := [(3, .int 0), (0, .ref (mh_ A)), (1, .int p0), (2, .int p1)]) hx hb dX3_copy_18 rfl hl (by decide) rfl (fun ls hl => ?_)
      have hu_i : u = (upR u.1 p0.toNatClampNeg (flz (u.1 p1.toNatClampNeg) (u.1 p0.toNatClampNeg) 0 0), u.2) := fz_u0 _ u _ _
      refine w_loop (N := 4032) (i0 := 0) (fun i H locs ls => va_P (dC, dI) bwCl (wR A (upR u.1 p0.toNatClampNeg (flz (u.1 p1.toNatClampNeg) (u.1 p0.toNatClampNeg) 0 i), u.2)) H ∧ va_D (aR A s.heap.size) (wR A (upR u.1 p0.toNatClampNeg (flz (u.1 p1.toNatClampNeg) (u.1 p0.toNatClampNeg) 0 i), u.2)) ∧ va_S (aR A s.heap.size) s.heap H locs ∧ lv_has ls 4 [(0, .ref (mh_ A)), (1, .int p0), (2, .int p1), (3, .int (nI i))]) (by decide) ⟨tr_PR hu_i hP, tr_DR hu_i hD, hS, lv_sub hl [1, 2, 3, 0] rfl⟩ ?_
      intro i H locs ls hz_i hi_i hI ih_i
      obtain ⟨hP, hD, hS, hl⟩ := hI
      refine lv_iload_n hx hb dX3_copy_19 rfl (lv_at hl 3 rfl) ?_
      refine lv_sipush (v := 4032) hx hb dX3_copy_20 (by decide) ?_
      refine lv_icmp_ge (tgt := 48) hx hb dX3_copy_23 (by decide) (fun c3 => ?_) (fun c3 => ?_)
      · obtain rfl : i = 4032 := lp_out (n := 4032) rfl hi_i (by decide) c3
        refine lv_aload_n hx hb dX3_copy_48 rfl (lv_at hl 0 rfl) ?_
        refine lv_iload_n hx hb dX3_copy_49 rfl (lv_at hl 1 rfl) ?_
        refine gVi (As := [.int p0]) (rest := []) ⟨hx, hb, hml, hown, hts⟩ (c_X3_ones l dC dI A (upR u.1 p0.toNatClampNeg (flz (u.1 p1.toNatClampNeg) (u.1 p0.toNatClampNeg) 0 4032), u.2) p0 hj_p0 (row_in (p := p0) c1)) (cwV 1 hts (gi_V hbc tw_277 tw_279 ts_4 tw_4 tw_280) rfl rfl rfl (by decide +kernel) ⟨Nat.le_of_ble_eq_true rfl, Nat.le_of_ble_eq_true rfl⟩) (va_recv hK hP (ci := 3) (q0 := 0) rfl rfl) aR_mono aR_D hP hK hD hS rfl hl.1 rfl (Nat.le_of_ble_eq_true rfl) dX3_copy_50 ⟨Nat.le_of_ble_eq_true rfl, Nat.le_of_ble_eq_true rfl⟩ (fun r4 v6 H locs hq5 hP hD hS => ?_)
        obtain ⟨rfl, rfl⟩ := hq5
        exact W.iret hx hb hr (fun t9 ht9 hW => ⟨⟨_, (upR u.1 p0.toNatClampNeg (flz (u.1 p1.toNatClampNeg) (u.1 p0.toNatClampNeg) 0 4032), u.2), rfl, Or.inl ⟨⟨c1, c2⟩, ⟨rfl, rfl⟩⟩, by rw [ht9]; exact hP, va_K.moved hW.alike hK, hD⟩, hS.F ht9⟩) hS.2.2 dX3_copy_53
      · have hlt_i : i < 4032 := lp_in (n := 4032) rfl hi_i c3
        refine lv_aload_n hx hb dX3_copy_26 rfl (lv_at hl 0 rfl) ?_
        refine va_get (D := (dC, dI)) (ci := 3) (v := .ref (mq_ A)) (C := RX3) (T := TX3) (N := 4) hx hb hw igX3 hown hK hP 0 rfl rfl 0 (by decide) (hw _ tw_242) (fun _ h9 => h9) rfl dX3_copy_27 ?_
        refine lv_iload_n hx hb dX3_copy_30 rfl (lv_at hl 1 rfl) ?_
        refine va_aldz hx hb hK hP 1 0 rfl rfl (row_in (p := p0) c1) dX3_copy_31 ?_
        rw [mqF_at A hj_p0]
        refine lv_iload_n hx hb dX3_copy_32 rfl (lv_at hl 3 rfl) ?_
        refine lv_aload_n hx hb dX3_copy_33 rfl (lv_at hl 0 rfl) ?_
        refine va_get (D := (dC, dI)) (ci := 3) (v := .ref (mq_ A)) (C := RX3) (T := TX3) (N := 4) hx hb hw igX3 hown hK hP 0 rfl rfl 0 (by decide) (hw _ tw_242) (fun _ h9 => h9) rfl dX3_copy_34 ?_
        refine lv_iload_n hx hb dX3_copy_37 rfl (lv_at hl 2 rfl) ?_
        refine va_aldz hx hb hK hP 1 0 rfl rfl (row_in (p := p1) c2) dX3_copy_38 ?_
        rw [mqF_at A hj_p1]
        refine lv_iload_n hx hb dX3_copy_39 rfl (lv_at hl 3 rfl) ?_
        refine va_zald hx hb hK hP (4 + p1.toNatClampNeg) (3 + p1.toNatClampNeg) (wR_row A (upR u.1 p0.toNatClampNeg (flz (u.1 p1.toNatClampNeg) (u.1 p0.toNatClampNeg) 0 i), u.2) hj_p1) (tyR_row A hj_p1) (vp_in_nI (by omega) (by omega)) dX3_copy_40 ?_
        rw [nI_clamp (n := i) (by omega)]
        refine lv_topi (fun z7 ez7 => ?_)
        obtain rfl : z7 = bz (u.1 p1.toNatClampNeg) i := ez7.trans (fz_rd _ u.1 p0.toNatClampNeg p1.toNatClampNeg 0 (Nat.le_refl i))
        refine va_zast hx hb hK hP hD hS (4 + p0.toNatClampNeg) (3 + p0.toNatClampNeg) (wR_row A (upR u.1 p0.toNatClampNeg (flz (u.1 p1.toNatClampNeg) (u.1 p0.toNatClampNeg) 0 i), u.2) hj_p0) (tyR_row A hj_p0) (vp_in_nI (by omega) (by omega)) dX3_copy_41 (fun H locs hP hD hS => ?_)
        rw [nI_clamp (n := i) (by omega)] at hP hD
        have hP : va_P (dC, dI) bwCl (wR A (upR (upR u.1 p0.toNatClampNeg (flz (u.1 p1.toNatClampNeg) (u.1 p0.toNatClampNeg) 0 i), u.2).1 p0.toNatClampNeg (upZ ((upR u.1 p0.toNatClampNeg (flz (u.1 p1.toNatClampNeg) (u.1 p0.toNatClampNeg) 0 i), u.2).1 p0.toNatClampNeg) i ((u.1 p1.toNatClampNeg) i)), (upR u.1 p0.toNatClampNeg (flz (u.1 p1.toNatClampNeg) (u.1 p0.toNatClampNeg) 0 i), u.2).2)) H := stR_P (nb_b _) hj_p0 hP
        have hD : va_D (aR A s.heap.size) (wR A (upR (upR u.1 p0.toNatClampNeg (flz (u.1 p1.toNatClampNeg) (u.1 p0.toNatClampNeg) 0 i), u.2).1 p0.toNatClampNeg (upZ ((upR u.1 p0.toNatClampNeg (flz (u.1 p1.toNatClampNeg) (u.1 p0.toNatClampNeg) 0 i), u.2).1 p0.toNatClampNeg) i ((u.1 p1.toNatClampNeg) i)), (upR u.1 p0.toNatClampNeg (flz (u.1 p1.toNatClampNeg) (u.1 p0.toNatClampNeg) 0 i), u.2).2)) := stR_D (nb_b _) hj_p0 hD
        refine lv_iinc (v := nI (i + 1)) (lv' := [(3, .int (nI (i + 1))), (0, .ref (mh_ A)), (1, .int p0), (2, .int p1)]) hx hb dX3_copy_42 hl (k := 3) rfl (nI_1 _) (by decide) rfl (fun ls hl => ?_)
        refine lv_goto (tgt := 19) hx hb dX3_copy_45 (by decide) ?_
        have hv_i : (upR (upR u.1 p0.toNatClampNeg (flz (u.1 p1.toNatClampNeg) (u.1 p0.toNatClampNeg) 0 i), u.2).1 p0.toNatClampNeg (upZ ((upR u.1 p0.toNatClampNeg (flz (u.1 p1.toNatClampNeg) (u.1 p0.toNatClampNeg) 0 i), u.2).1 p0.toNatClampNeg) i ((u.1 p1.toNatClampNeg) i)), (upR u.1 p0.toNatClampNeg (flz (u.1 p1.toNatClampNeg) (u.1 p0.toNatClampNeg) 0 i), u.2).2) = (upR u.1 p0.toNatClampNeg (flz (u.1 p1.toNatClampNeg) (u.1 p0.toNatClampNeg) 0 (i + 1)), u.2) := fz_uS _ u _ (Nat.zero_le _) rfl
        exact ih_i _ _ _ (by omega) ⟨tr_PR hv_i hP, tr_DR hv_i hD, hS, lv_sub hl [1, 2, 3, 0] rfl⟩
    · refine lv_bipush (v := -2) hx hb dX3_copy_14 (by decide) ?_
      exact W.iret hx hb hr (fun t9 ht9 hW => ⟨⟨_, u, rfl, Or.inr ⟨fun h => h.2 c2, rfl, rfl⟩, by rw [ht9]; exact hP, va_K.moved hW.alike hK, hD⟩, hS.F ht9⟩) hS.2.2 dX3_copy_16
set_option maxHeartbeats 4000000 in
set_option maxRecDepth 100000 in
theorem c_X3_clear (l : Launch) (dC : Nat → ClassId) (dI : Nat → Nat → Nat) (A : AdR) (u : StR)  (p0 : Int32) : gMi l yX3_clear wX3_clear ({ frames := 1, cells := 0, slots := 0, locals := 23 }) (dC, dI) bwCl (tyR A) (wR A) (aR A) [.ref (mh_ A), .int p0] u (fun r v => ((¬ (fX3_isRow p0) = 0) ∧ (r = nI (cnt (u.1 p0.toNatClampNeg) 4032) ∧ ((upR u.1 p0.toNatClampNeg (flz (fun _ => false) (u.1 p0.toNatClampNeg) 0 4032), u.2) : StR) = v)) ∨ (¬ (¬ (fX3_isRow p0) = 0) ∧ r = -2 ∧ u = v)) := by
  unfold gMi
  intro sz
  refine Met.ofW (cc := cX3_clear) (maxL := 4) (ret := (some .int)) (by decide) rfl ?_
  intro p e s m args below meth c s₁ B hml hv
  obtain ⟨rfl, hsz, hP, hK, hD⟩ := hv
  subst hsz
  have hS : va_S (aR A s.heap.size) s.heap s.heap [] := va_S.rf
  have hx := B.exec
  have hb := B.bytes
  have hr := B.returns
  have hts := atoms_spec (ws := wX3_clear) B.pre
  have hw : ∀ w ∈ tg_, w.before _ s = true := fun w h => hts w (List.mem_cons_of_mem _ h)
  have hown : s.vm.findClass RX3 = some m.cls := findClass_of_methodNamed B.named
  have hlocks := B.notSynchronized
  have hl := lv_entry ([.ref (mh_ A), .int p0]) (n := 4) (Nat.le_of_ble_eq_true rfl)
  rw [lg_entry_eq]
  generalize (lg_sl ([.ref (mh_ A), .int p0]) ++ List.replicate (4 - (lg_sl ([.ref (mh_ A), .int p0])).length) Slot.unset).toArray = ls at hl ⊢
  have hl : lv_has ls 4 [(0, .ref (mh_ A)), (1, .int p0)] := hl
  refine lv_iload_n hx hb dX3_clear_0 rfl (lv_at hl 1 rfl) ?_
  refine vp_callSi (W.runS (As := [.int p0]) (rest := []) ⟨hx, hb, hml, hown, hts⟩ (c_X3_isRow l p0) (va_cwS 1 hts (gi_S hbc tw_261 tw_262 tw_4 tw_263) rfl rfl rfl (by decide +kernel) ⟨Nat.le_of_ble_eq_true rfl, Nat.le_of_ble_eq_true rfl⟩) preEq rfl rfl hl.1 rfl (lv_room (Nat.le_of_ble_eq_true rfl)) dX3_clear_1 ⟨Nat.le_of_ble_eq_true rfl, Nat.le_of_ble_eq_true rfl⟩) (fun r hq => ?_)
  subst hq
  refine lv_if_ne (tgt := 10) hx hb dX3_clear_4 (by decide) (fun c1 => ?_) (fun c1 => ?_)
  · have hj_p0 := row_lt (p := p0) c1
    refine lv_aload_n hx hb dX3_clear_10 rfl (lv_at hl 0 rfl) ?_
    refine lv_iload_n hx hb dX3_clear_11 rfl (lv_at hl 1 rfl) ?_
    refine gVi (As := [.int p0]) (rest := []) ⟨hx, hb, hml, hown, hts⟩ (c_X3_ones l dC dI A u p0 hj_p0 (row_in (p := p0) c1)) (cwV 1 hts (gi_V hbc tw_277 tw_279 ts_4 tw_4 tw_280) rfl rfl rfl (by decide +kernel) ⟨Nat.le_of_ble_eq_true rfl, Nat.le_of_ble_eq_true rfl⟩) (va_recv hK hP (ci := 3) (q0 := 0) rfl rfl) aR_mono aR_D hP hK hD hS rfl hl.1 rfl (Nat.le_of_ble_eq_true rfl) dX3_clear_12 ⟨Nat.le_of_ble_eq_true rfl, Nat.le_of_ble_eq_true rfl⟩ (fun r2 v4 H locs hq3 hP hD hS => ?_)
    obtain ⟨rfl, rfl⟩ := hq3
    refine lv_istore_n (lv' := [(2, .int (nI (cnt (u.1 p0.toNatClampNeg) 4032))), (0, .ref (mh_ A)), (1, .int p0)]) hx hb dX3_clear_15 rfl hl (by decide) rfl (fun ls hl => ?_)
    refine lv_iconst (v := 0) hx hb dX3_clear_16 (by decide) ?_
    refine lv_istore_n (lv' := [(3, .int 0), (2, .int (nI (cnt (u.1 p0.toNatClampNeg) 4032))), (0, .ref (mh_ A)), (1, .int p0)]) hx hb dX3_clear_17 rfl hl (by decide) rfl (fun ls hl => ?_)
    have hu_i : u = (upR u.1 p0.toNatClampNeg (flz (fun _ => false) (u.1 p0.toNatClampNeg) 0 0), u.2) := fz_u0 _ u _ _
    refine w_loop (N := 4032) (i0 := 0) (fun i H locs ls => va_P (dC, dI) bwCl (wR A (upR u.1 p0.toNatClampNeg (flz (fun _ => false) (u.1 p0.toNatClampNeg) 0 i), u.2)) H ∧ va_D (aR A s.heap.size) (wR A (upR u.1 p0.toNatClampNeg (flz (fun _ => false) (u.1 p0.toNatClampNeg) 0 i), u.2)) ∧ va_S (aR A s.heap.size) s.heap H locs ∧ lv_has ls 4 [(0, .ref (mh_ A)), (1, .int p0), (2, .int (nI (cnt (u.1 p0.toNatClampNeg) 4032))), (3, .int (nI i))]) (by decide) ⟨tr_PR hu_i hP, tr_DR hu_i hD, hS, lv_sub hl [2, 3, 1, 0] rfl⟩ ?_
    intro i H locs ls hz_i hi_i hI ih_i
    obtain ⟨hP, hD, hS, hl⟩ := hI
    refine lv_iload_n hx hb dX3_clear_18 rfl (lv_at hl 3 rfl) ?_
    refine lv_sipush (v := 4032) hx hb dX3_clear_19 (by decide) ?_
    refine lv_icmp_ge (tgt := 40) hx hb dX3_clear_22 (by decide) (fun c5 => ?_) (fun c5 => ?_)
    · obtain rfl : i = 4032 := lp_out (n := 4032) rfl hi_i (by decide) c5
      refine lv_iload_n hx hb dX3_clear_40 rfl (lv_at hl 2 rfl) ?_
      exact W.iret hx hb hr (fun t9 ht9 hW => ⟨⟨_, (upR u.1 p0.toNatClampNeg (flz (fun _ => false) (u.1 p0.toNatClampNeg) 0 4032), u.2), rfl, Or.inl ⟨c1, ⟨rfl, rfl⟩⟩, by rw [ht9]; exact hP, va_K.moved hW.alike hK, hD⟩, hS.F ht9⟩) hS.2.2 dX3_clear_41
    · have hlt_i : i < 4032 := lp_in (n := 4032) rfl hi_i c5
      refine lv_aload_n hx hb dX3_clear_25 rfl (lv_at hl 0 rfl) ?_
      refine va_get (D := (dC, dI)) (ci := 3) (v := .ref (mq_ A)) (C := RX3) (T := TX3) (N := 4) hx hb hw igX3 hown hK hP 0 rfl rfl 0 (by decide) (hw _ tw_242) (fun _ h9 => h9) rfl dX3_clear_26 ?_
      refine lv_iload_n hx hb dX3_clear_29 rfl (lv_at hl 1 rfl) ?_
      refine va_aldz hx hb hK hP 1 0 rfl rfl (row_in (p := p0) c1) dX3_clear_30 ?_
      rw [mqF_at A hj_p0]
      refine lv_iload_n hx hb dX3_clear_31 rfl (lv_at hl 3 rfl) ?_
      refine lv_iconst (v := 0) hx hb dX3_clear_32 (by decide) ?_
      refine va_zast hx hb hK hP hD hS (4 + p0.toNatClampNeg) (3 + p0.toNatClampNeg) (wR_row A (upR u.1 p0.toNatClampNeg (flz (fun _ => false) (u.1 p0.toNatClampNeg) 0 i), u.2) hj_p0) (tyR_row A hj_p0) (vp_in_nI (by omega) (by omega)) dX3_clear_33 (fun H locs hP hD hS => ?_)
      rw [nI_clamp (n := i) (by omega)] at hP hD
      have hP : va_P (dC, dI) bwCl (wR A (upR (upR u.1 p0.toNatClampNeg (flz (fun _ => false) (u.1 p0.toNatClampNeg) 0 i), u.2).1 p0.toNatClampNeg (upZ ((upR u.1 p0.toNatClampNeg (flz (fun _ => false) (u.1 p0.toNatClampNeg) 0 i), u.2).1 p0.toNatClampNeg) i false), (upR u.1 p0.toNatClampNeg (flz (fun _ => false) (u.1 p0.toNatClampNeg) 0 i), u.2).2)) H := stR_P (nb_0) hj_p0 hP
      have hD : va_D (aR A s.heap.size) (wR A (upR (upR u.1 p0.toNatClampNeg (flz (fun _ => false) (u.1 p0.toNatClampNeg) 0 i), u.2).1 p0.toNatClampNeg (upZ ((upR u.1 p0.toNatClampNeg (flz (fun _ => false) (u.1 p0.toNatClampNeg) 0 i), u.2).1 p0.toNatClampNeg) i false), (upR u.1 p0.toNatClampNeg (flz (fun _ => false) (u.1 p0.toNatClampNeg) 0 i), u.2).2)) := stR_D (nb_0) hj_p0 hD
      refine lv_iinc (v := nI (i + 1)) (lv' := [(3, .int (nI (i + 1))), (0, .ref (mh_ A)), (1, .int p0), (2, .int (nI (cnt (u.1 p0.toNatClampNeg) 4032)))]) hx hb dX3_clear_34 hl (k := 3) rfl (nI_1 _) (by decide) rfl (fun ls hl => ?_)
      refine lv_goto (tgt := 18) hx hb dX3_clear_37 (by decide) ?_
      have hv_i : (upR (upR u.1 p0.toNatClampNeg (flz (fun _ => false) (u.1 p0.toNatClampNeg) 0 i), u.2).1 p0.toNatClampNeg (upZ ((upR u.1 p0.toNatClampNeg (flz (fun _ => false) (u.1 p0.toNatClampNeg) 0 i), u.2).1 p0.toNatClampNeg) i false), (upR u.1 p0.toNatClampNeg (flz (fun _ => false) (u.1 p0.toNatClampNeg) 0 i), u.2).2) = (upR u.1 p0.toNatClampNeg (flz (fun _ => false) (u.1 p0.toNatClampNeg) 0 (i + 1)), u.2) := fz_uS _ u _ (Nat.zero_le _) rfl
      exact ih_i _ _ _ (by omega) ⟨tr_PR hv_i hP, tr_DR hv_i hD, hS, lv_sub hl [1, 2, 3, 0] rfl⟩
  · refine lv_bipush (v := -2) hx hb dX3_clear_7 (by decide) ?_
    exact W.iret hx hb hr (fun t9 ht9 hW => ⟨⟨_, u, rfl, Or.inr ⟨fun h => h c1, rfl, rfl⟩, by rw [ht9]; exact hP, va_K.moved hW.alike hK, hD⟩, hS.F ht9⟩) hS.2.2 dX3_clear_9
set_option maxHeartbeats 4000000 in
set_option maxRecDepth 100000 in
theorem c_X3_load (l : Launch) (dC : Nat → ClassId) (dI : Nat → Nat → Nat) (A : AdR) (u : StR)  (p0 : Int32) (p1 : Int64) (p2 : Int64) (p3 : Int64) : gMi l yX3_load wX3_load ({ frames := 1, cells := 0, slots := 0, locals := 23 }) (dC, dI) bwCl (tyR A) (wR A) (aR A) [.ref (mh_ A), .int p0, .long p1, .long p2, .long p3] u (fun r v => ((¬ (fX3_isRow p0) = 0) ∧ (r = nI (cnt (((upR u.1 p0.toNatClampNeg (flz (ldZ p1 p2 p3) (u.1 p0.toNatClampNeg) 0 4032), u.2) : StR).1 p0.toNatClampNeg) 4032) ∧ ((upR u.1 p0.toNatClampNeg (flz (ldZ p1 p2 p3) (u.1 p0.toNatClampNeg) 0 4032), u.2) : StR) = v)) ∨ (¬ (¬ (fX3_isRow p0) = 0) ∧ r = -2 ∧ u = v)) := by
  unfold gMi
  intro sz
  refine Met.ofW (cc := cX3_load) (maxL := 9) (ret := (some .int)) (by decide) rfl ?_
  intro p e s m args below meth c s₁ B hml hv
  obtain ⟨rfl, hsz, hP, hK, hD⟩ := hv
  subst hsz
  have hS : va_S (aR A s.heap.size) s.heap s.heap [] := va_S.rf
  have hx := B.exec
  have hb := B.bytes
  have hr := B.returns
  have hts := atoms_spec (ws := wX3_load) B.pre
  have hw : ∀ w ∈ tg_, w.before _ s = true := fun w h => hts w (List.mem_cons_of_mem _ h)
  have hown : s.vm.findClass RX3 = some m.cls := findClass_of_methodNamed B.named
  have hlocks := B.notSynchronized
  have hl := lv_entry ([.ref (mh_ A), .int p0, .long p1, .long p2, .long p3]) (n := 9) (Nat.le_of_ble_eq_true rfl)
  rw [lg_entry_eq]
  generalize (lg_sl ([.ref (mh_ A), .int p0, .long p1, .long p2, .long p3]) ++ List.replicate (9 - (lg_sl ([.ref (mh_ A), .int p0, .long p1, .long p2, .long p3])).length) Slot.unset).toArray = ls at hl ⊢
  have hl : lv_has ls 9 [(0, .ref (mh_ A)), (1, .int p0), (2, .long p1), (4, .long p2), (6, .long p3)] := hl
  refine lv_iload_n hx hb dX3_load_0 rfl (lv_at hl 1 rfl) ?_
  refine vp_callSi (W.runS (As := [.int p0]) (rest := []) ⟨hx, hb, hml, hown, hts⟩ (c_X3_isRow l p0) (va_cwS 1 hts (gi_S hbc tw_261 tw_262 tw_4 tw_263) rfl rfl rfl (by decide +kernel) ⟨Nat.le_of_ble_eq_true rfl, Nat.le_of_ble_eq_true rfl⟩) preEq rfl rfl hl.1 rfl (lv_room (Nat.le_of_ble_eq_true rfl)) dX3_load_1 ⟨Nat.le_of_ble_eq_true rfl, Nat.le_of_ble_eq_true rfl⟩) (fun r hq => ?_)
  subst hq
  refine lv_if_ne (tgt := 10) hx hb dX3_load_4 (by decide) (fun c1 => ?_) (fun c1 => ?_)
  · have hj_p0 := row_lt (p := p0) c1
    refine lv_iconst (v := 0) hx hb dX3_load_10 (by decide) ?_
    refine lv_istore (lv' := [(8, .int 0), (0, .ref (mh_ A)), (1, .int p0), (2, .long p1), (4, .long p2), (6, .long p3)]) hx hb dX3_load_11 hl (by decide) rfl (fun ls hl => ?_)
    have hu_i : u = (upR u.1 p0.toNatClampNeg (flz (ldZ p1 p2 p3) (u.1 p0.toNatClampNeg) 0 0), u.2) := fz_u0 _ u _ _
    refine w_loop (N := 4032) (i0 := 0) (fun i H locs ls => va_P (dC, dI) bwCl (wR A (upR u.1 p0.toNatClampNeg (flz (ldZ p1 p2 p3) (u.1 p0.toNatClampNeg) 0 i), u.2)) H ∧ va_D (aR A s.heap.size) (wR A (upR u.1 p0.toNatClampNeg (flz (ldZ p1 p2 p3) (u.1 p0.toNatClampNeg) 0 i), u.2)) ∧ va_S (aR A s.heap.size) s.heap H locs ∧ lv_has ls 9 [(0, .ref (mh_ A)), (1, .int p0), (2, .long p1), (4, .long p2), (6, .long p3), (8, .int (nI i))]) (by decide) ⟨tr_PR hu_i hP, tr_DR hu_i hD, hS, lv_sub hl [1, 2, 3, 4, 5, 0] rfl⟩ ?_
    intro i H locs ls hz_i hi_i hI ih_i
    obtain ⟨hP, hD, hS, hl⟩ := hI
    refine lv_iload hx hb dX3_load_13 (lv_at hl 5 rfl) ?_
    refine lv_sipush (v := 4032) hx hb dX3_load_15 (by decide) ?_
    refine lv_icmp_ge (tgt := 88) hx hb dX3_load_18 (by decide) (fun c2 => ?_) (fun c2 => ?_)
    · obtain rfl : i = 4032 := lp_out (n := 4032) rfl hi_i (by decide) c2
      refine lv_aload_n hx hb dX3_load_88 rfl (lv_at hl 0 rfl) ?_
      refine lv_iload_n hx hb dX3_load_89 rfl (lv_at hl 1 rfl) ?_
      refine gVi (As := [.int p0]) (rest := []) ⟨hx, hb, hml, hown, hts⟩ (c_X3_ones l dC dI A (upR u.1 p0.toNatClampNeg (flz (ldZ p1 p2 p3) (u.1 p0.toNatClampNeg) 0 4032), u.2) p0 hj_p0 (row_in (p := p0) c1)) (cwV 1 hts (gi_V hbc tw_277 tw_279 ts_4 tw_4 tw_280) rfl rfl rfl (by decide +kernel) ⟨Nat.le_of_ble_eq_true rfl, Nat.le_of_ble_eq_true rfl⟩) (va_recv hK hP (ci := 3) (q0 := 0) rfl rfl) aR_mono aR_D hP hK hD hS rfl hl.1 rfl (Nat.le_of_ble_eq_true rfl) dX3_load_90 ⟨Nat.le_of_ble_eq_true rfl, Nat.le_of_ble_eq_true rfl⟩ (fun r3 v5 H locs hq4 hP hD hS => ?_)
      obtain ⟨rfl, rfl⟩ := hq4
      exact W.iret hx hb hr (fun t9 ht9 hW => ⟨⟨_, (upR u.1 p0.toNatClampNeg (flz (ldZ p1 p2 p3) (u.1 p0.toNatClampNeg) 0 4032), u.2), rfl, Or.inl ⟨c1, ⟨rfl, rfl⟩⟩, by rw [ht9]; exact hP, va_K.moved hW.alike hK, hD⟩, hS.F ht9⟩) hS.2.2 dX3_load_93
    · have hlt_i : i < 4032 := lp_in (n := 4032) rfl hi_i c2
      refine lv_aload_n hx hb dX3_load_21 rfl (lv_at hl 0 rfl) ?_
      refine va_get (D := (dC, dI)) (ci := 3) (v := .ref (mq_ A)) (C := RX3) (T := TX3) (N := 4) hx hb hw igX3 hown hK hP 0 rfl rfl 0 (by decide) (hw _ tw_242) (fun _ h9 => h9) rfl dX3_load_22 ?_
      refine lv_iload_n hx hb dX3_load_25 rfl (lv_at hl 1 rfl) ?_
      refine va_aldz hx hb hK hP 1 0 rfl rfl (row_in (p := p0) c1) dX3_load_26 ?_
      rw [mqF_at A hj_p0]
      refine lv_iload hx hb dX3_load_27 (lv_at hl 5 rfl) ?_
      refine lv_iload hx hb dX3_load_29 (lv_at hl 5 rfl) ?_
      refine lv_sipush (v := 192) hx hb dX3_load_31 (by decide) ?_
      refine lv_icmp_ge (tgt := 80) hx hb dX3_load_34 (by decide) (fun c6 => ?_) (fun c6 => ?_)
      · refine lv_iconst (v := 0) hx hb dX3_load_80 (by decide) ?_
        refine va_zast hx hb hK hP hD hS (4 + p0.toNatClampNeg) (3 + p0.toNatClampNeg) (wR_row A (upR u.1 p0.toNatClampNeg (flz (ldZ p1 p2 p3) (u.1 p0.toNatClampNeg) 0 i), u.2) hj_p0) (tyR_row A hj_p0) (vp_in_nI (by omega) (by omega)) dX3_load_81 (fun H locs hP hD hS => ?_)
        rw [nI_clamp (n := i) (by omega)] at hP hD
        have hP : va_P (dC, dI) bwCl (wR A (upR (upR u.1 p0.toNatClampNeg (flz (ldZ p1 p2 p3) (u.1 p0.toNatClampNeg) 0 i), u.2).1 p0.toNatClampNeg (upZ ((upR u.1 p0.toNatClampNeg (flz (ldZ p1 p2 p3) (u.1 p0.toNatClampNeg) 0 i), u.2).1 p0.toNatClampNeg) i false), (upR u.1 p0.toNatClampNeg (flz (ldZ p1 p2 p3) (u.1 p0.toNatClampNeg) 0 i), u.2).2)) H := stR_P (nb_0) hj_p0 hP
        have hD : va_D (aR A s.heap.size) (wR A (upR (upR u.1 p0.toNatClampNeg (flz (ldZ p1 p2 p3) (u.1 p0.toNatClampNeg) 0 i), u.2).1 p0.toNatClampNeg (upZ ((upR u.1 p0.toNatClampNeg (flz (ldZ p1 p2 p3) (u.1 p0.toNatClampNeg) 0 i), u.2).1 p0.toNatClampNeg) i false), (upR u.1 p0.toNatClampNeg (flz (ldZ p1 p2 p3) (u.1 p0.toNatClampNeg) 0 i), u.2).2)) := stR_D (nb_0) hj_p0 hD
        refine lv_iinc (v := nI (i + 1)) (lv' := [(8, .int (nI (i + 1))), (0, .ref (mh_ A)), (1, .int p0), (2, .long p1), (4, .long p2), (6, .long p3)]) hx hb dX3_load_82 hl (k := 5) rfl (nI_1 _) (by decide) rfl (fun ls hl => ?_)
        refine lv_goto (tgt := 13) hx hb dX3_load_85 (by decide) ?_
        have hv_i : (upR (upR u.1 p0.toNatClampNeg (flz (ldZ p1 p2 p3) (u.1 p0.toNatClampNeg) 0 i), u.2).1 p0.toNatClampNeg (upZ ((upR u.1 p0.toNatClampNeg (flz (ldZ p1 p2 p3) (u.1 p0.toNatClampNeg) 0 i), u.2).1 p0.toNatClampNeg) i false), (upR u.1 p0.toNatClampNeg (flz (ldZ p1 p2 p3) (u.1 p0.toNatClampNeg) 0 i), u.2).2) = (upR u.1 p0.toNatClampNeg (flz (ldZ p1 p2 p3) (u.1 p0.toNatClampNeg) 0 (i + 1)), u.2) := fz_uS _ u _ (Nat.zero_le _) (ld_hi hlt_i c6)
        exact ih_i _ _ _ (by omega) ⟨tr_PR hv_i hP, tr_DR hv_i hD, hS, lv_sub hl [1, 2, 3, 4, 5, 0] rfl⟩
      · refine lv_iload hx hb dX3_load_37 (lv_at hl 5 rfl) ?_
        refine lv_bipush (v := 64) hx hb dX3_load_39 (by decide) ?_
        refine lv_icmp_ge (tgt := 48) hx hb dX3_load_41 (by decide) (fun c7 => ?_) (fun c7 => ?_)
        · refine lv_iload hx hb dX3_load_48 (lv_at hl 5 rfl) ?_
          refine lv_sipush (v := 128) hx hb dX3_load_50 (by decide) ?_
          refine lv_icmp_ge (tgt := 61) hx hb dX3_load_53 (by decide) (fun c8 => ?_) (fun c8 => ?_)
          · refine lv_lload hx hb dX3_load_61 (lv_at hl 4 rfl) ?_
            refine lv_iload hx hb dX3_load_63 (lv_at hl 5 rfl) ?_
            refine lv_bipush (v := 64) hx hb dX3_load_65 (by decide) ?_
            refine lv_irem hx hb dX3_load_67 (by decide) ?_
            refine lv_lshr hx hb dX3_load_68 rfl ?_
            refine lv_lconst (v := 1) hx hb dX3_load_69 (by decide) ?_
            refine lv_land hx hb dX3_load_70 ?_
            refine lv_lconst (v := 1) hx hb dX3_load_71 (by decide) ?_
            refine W.lcmp hx hb dX3_load_72 ?_
            refine lv_if_ne (tgt := 80) hx hb dX3_load_73 (by decide) (fun c9 => ?_) (fun c9 => ?_)
            · refine lv_iconst (v := 0) hx hb dX3_load_80 (by decide) ?_
              refine va_zast hx hb hK hP hD hS (4 + p0.toNatClampNeg) (3 + p0.toNatClampNeg) (wR_row A (upR u.1 p0.toNatClampNeg (flz (ldZ p1 p2 p3) (u.1 p0.toNatClampNeg) 0 i), u.2) hj_p0) (tyR_row A hj_p0) (vp_in_nI (by omega) (by omega)) dX3_load_81 (fun H locs hP hD hS => ?_)
              rw [nI_clamp (n := i) (by omega)] at hP hD
              have hP : va_P (dC, dI) bwCl (wR A (upR (upR u.1 p0.toNatClampNeg (flz (ldZ p1 p2 p3) (u.1 p0.toNatClampNeg) 0 i), u.2).1 p0.toNatClampNeg (upZ ((upR u.1 p0.toNatClampNeg (flz (ldZ p1 p2 p3) (u.1 p0.toNatClampNeg) 0 i), u.2).1 p0.toNatClampNeg) i false), (upR u.1 p0.toNatClampNeg (flz (ldZ p1 p2 p3) (u.1 p0.toNatClampNeg) 0 i), u.2).2)) H := stR_P (nb_0) hj_p0 hP
              have hD : va_D (aR A s.heap.size) (wR A (upR (upR u.1 p0.toNatClampNeg (flz (ldZ p1 p2 p3) (u.1 p0.toNatClampNeg) 0 i), u.2).1 p0.toNatClampNeg (upZ ((upR u.1 p0.toNatClampNeg (flz (ldZ p1 p2 p3) (u.1 p0.toNatClampNeg) 0 i), u.2).1 p0.toNatClampNeg) i false), (upR u.1 p0.toNatClampNeg (flz (ldZ p1 p2 p3) (u.1 p0.toNatClampNeg) 0 i), u.2).2)) := stR_D (nb_0) hj_p0 hD
              refine lv_iinc (v := nI (i + 1)) (lv' := [(8, .int (nI (i + 1))), (0, .ref (mh_ A)), (1, .int p0), (2, .long p1), (4, .long p2), (6, .long p3)]) hx hb dX3_load_82 hl (k := 5) rfl (nI_1 _) (by decide) rfl (fun ls hl => ?_)
              refine lv_goto (tgt := 13) hx hb dX3_load_85 (by decide) ?_
              have hv_i : (upR (upR u.1 p0.toNatClampNeg (flz (ldZ p1 p2 p3) (u.1 p0.toNatClampNeg) 0 i), u.2).1 p0.toNatClampNeg (upZ ((upR u.1 p0.toNatClampNeg (flz (ldZ p1 p2 p3) (u.1 p0.toNatClampNeg) 0 i), u.2).1 p0.toNatClampNeg) i false), (upR u.1 p0.toNatClampNeg (flz (ldZ p1 p2 p3) (u.1 p0.toNatClampNeg) 0 i), u.2).2) = (upR u.1 p0.toNatClampNeg (flz (ldZ p1 p2 p3) (u.1 p0.toNatClampNeg) 0 (i + 1)), u.2) := fz_uS _ u _ (Nat.zero_le _) (ld_f3 hlt_i c6 c7 c8 c9)
              exact ih_i _ _ _ (by omega) ⟨tr_PR hv_i hP, tr_DR hv_i hD, hS, lv_sub hl [1, 2, 3, 4, 5, 0] rfl⟩
            · refine lv_iconst (v := 1) hx hb dX3_load_76 (by decide) ?_
              refine lv_goto (tgt := 81) hx hb dX3_load_77 (by decide) ?_
              refine va_zast hx hb hK hP hD hS (4 + p0.toNatClampNeg) (3 + p0.toNatClampNeg) (wR_row A (upR u.1 p0.toNatClampNeg (flz (ldZ p1 p2 p3) (u.1 p0.toNatClampNeg) 0 i), u.2) hj_p0) (tyR_row A hj_p0) (vp_in_nI (by omega) (by omega)) dX3_load_81 (fun H locs hP hD hS => ?_)
              rw [nI_clamp (n := i) (by omega)] at hP hD
              have hP : va_P (dC, dI) bwCl (wR A (upR (upR u.1 p0.toNatClampNeg (flz (ldZ p1 p2 p3) (u.1 p0.toNatClampNeg) 0 i), u.2).1 p0.toNatClampNeg (upZ ((upR u.1 p0.toNatClampNeg (flz (ldZ p1 p2 p3) (u.1 p0.toNatClampNeg) 0 i), u.2).1 p0.toNatClampNeg) i true), (upR u.1 p0.toNatClampNeg (flz (ldZ p1 p2 p3) (u.1 p0.toNatClampNeg) 0 i), u.2).2)) H := stR_P (nb_1) hj_p0 hP
              have hD : va_D (aR A s.heap.size) (wR A (upR (upR u.1 p0.toNatClampNeg (flz (ldZ p1 p2 p3) (u.1 p0.toNatClampNeg) 0 i), u.2).1 p0.toNatClampNeg (upZ ((upR u.1 p0.toNatClampNeg (flz (ldZ p1 p2 p3) (u.1 p0.toNatClampNeg) 0 i), u.2).1 p0.toNatClampNeg) i true), (upR u.1 p0.toNatClampNeg (flz (ldZ p1 p2 p3) (u.1 p0.toNatClampNeg) 0 i), u.2).2)) := stR_D (nb_1) hj_p0 hD
              refine lv_iinc (v := nI (i + 1)) (lv' := [(8, .int (nI (i + 1))), (0, .ref (mh_ A)), (1, .int p0), (2, .long p1), (4, .long p2), (6, .long p3)]) hx hb dX3_load_82 hl (k := 5) rfl (nI_1 _) (by decide) rfl (fun ls hl => ?_)
              refine lv_goto (tgt := 13) hx hb dX3_load_85 (by decide) ?_
              have hv_i : (upR (upR u.1 p0.toNatClampNeg (flz (ldZ p1 p2 p3) (u.1 p0.toNatClampNeg) 0 i), u.2).1 p0.toNatClampNeg (upZ ((upR u.1 p0.toNatClampNeg (flz (ldZ p1 p2 p3) (u.1 p0.toNatClampNeg) 0 i), u.2).1 p0.toNatClampNeg) i true), (upR u.1 p0.toNatClampNeg (flz (ldZ p1 p2 p3) (u.1 p0.toNatClampNeg) 0 i), u.2).2) = (upR u.1 p0.toNatClampNeg (flz (ldZ p1 p2 p3) (u.1 p0.toNatClampNeg) 0 (i + 1)), u.2) := fz_uS _ u _ (Nat.zero_le _) (ld_t3 hlt_i c6 c7 c8 c9)
              exact ih_i _ _ _ (by omega) ⟨tr_PR hv_i hP, tr_DR hv_i hD, hS, lv_sub hl [1, 2, 3, 4, 5, 0] rfl⟩
          · refine lv_lload hx hb dX3_load_56 (lv_at hl 3 rfl) ?_
            refine lv_goto (tgt := 63) hx hb dX3_load_58 (by decide) ?_
            refine lv_iload hx hb dX3_load_63 (lv_at hl 5 rfl) ?_
            refine lv_bipush (v := 64) hx hb dX3_load_65 (by decide) ?_
            refine lv_irem hx hb dX3_load_67 (by decide) ?_
            refine lv_lshr hx hb dX3_load_68 rfl ?_
            refine lv_lconst (v := 1) hx hb dX3_load_69 (by decide) ?_
            refine lv_land hx hb dX3_load_70 ?_
            refine lv_lconst (v := 1) hx hb dX3_load_71 (by decide) ?_
            refine W.lcmp hx hb dX3_load_72 ?_
            refine lv_if_ne (tgt := 80) hx hb dX3_load_73 (by decide) (fun c10 => ?_) (fun c10 => ?_)
            · refine lv_iconst (v := 0) hx hb dX3_load_80 (by decide) ?_
              refine va_zast hx hb hK hP hD hS (4 + p0.toNatClampNeg) (3 + p0.toNatClampNeg) (wR_row A (upR u.1 p0.toNatClampNeg (flz (ldZ p1 p2 p3) (u.1 p0.toNatClampNeg) 0 i), u.2) hj_p0) (tyR_row A hj_p0) (vp_in_nI (by omega) (by omega)) dX3_load_81 (fun H locs hP hD hS => ?_)
              rw [nI_clamp (n := i) (by omega)] at hP hD
              have hP : va_P (dC, dI) bwCl (wR A (upR (upR u.1 p0.toNatClampNeg (flz (ldZ p1 p2 p3) (u.1 p0.toNatClampNeg) 0 i), u.2).1 p0.toNatClampNeg (upZ ((upR u.1 p0.toNatClampNeg (flz (ldZ p1 p2 p3) (u.1 p0.toNatClampNeg) 0 i), u.2).1 p0.toNatClampNeg) i false), (upR u.1 p0.toNatClampNeg (flz (ldZ p1 p2 p3) (u.1 p0.toNatClampNeg) 0 i), u.2).2)) H := stR_P (nb_0) hj_p0 hP
              have hD : va_D (aR A s.heap.size) (wR A (upR (upR u.1 p0.toNatClampNeg (flz (ldZ p1 p2 p3) (u.1 p0.toNatClampNeg) 0 i), u.2).1 p0.toNatClampNeg (upZ ((upR u.1 p0.toNatClampNeg (flz (ldZ p1 p2 p3) (u.1 p0.toNatClampNeg) 0 i), u.2).1 p0.toNatClampNeg) i false), (upR u.1 p0.toNatClampNeg (flz (ldZ p1 p2 p3) (u.1 p0.toNatClampNeg) 0 i), u.2).2)) := stR_D (nb_0) hj_p0 hD
              refine lv_iinc (v := nI (i + 1)) (lv' := [(8, .int (nI (i + 1))), (0, .ref (mh_ A)), (1, .int p0), (2, .long p1), (4, .long p2), (6, .long p3)]) hx hb dX3_load_82 hl (k := 5) rfl (nI_1 _) (by decide) rfl (fun ls hl => ?_)
              refine lv_goto (tgt := 13) hx hb dX3_load_85 (by decide) ?_
              have hv_i : (upR (upR u.1 p0.toNatClampNeg (flz (ldZ p1 p2 p3) (u.1 p0.toNatClampNeg) 0 i), u.2).1 p0.toNatClampNeg (upZ ((upR u.1 p0.toNatClampNeg (flz (ldZ p1 p2 p3) (u.1 p0.toNatClampNeg) 0 i), u.2).1 p0.toNatClampNeg) i false), (upR u.1 p0.toNatClampNeg (flz (ldZ p1 p2 p3) (u.1 p0.toNatClampNeg) 0 i), u.2).2) = (upR u.1 p0.toNatClampNeg (flz (ldZ p1 p2 p3) (u.1 p0.toNatClampNeg) 0 (i + 1)), u.2) := fz_uS _ u _ (Nat.zero_le _) (ld_f2 hlt_i c6 c7 c8 c10)
              exact ih_i _ _ _ (by omega) ⟨tr_PR hv_i hP, tr_DR hv_i hD, hS, lv_sub hl [1, 2, 3, 4, 5, 0] rfl⟩
            · refine lv_iconst (v := 1) hx hb dX3_load_76 (by decide) ?_
              refine lv_goto (tgt := 81) hx hb dX3_load_77 (by decide) ?_
              refine va_zast hx hb hK hP hD hS (4 + p0.toNatClampNeg) (3 + p0.toNatClampNeg) (wR_row A (upR u.1 p0.toNatClampNeg (flz (ldZ p1 p2 p3) (u.1 p0.toNatClampNeg) 0 i), u.2) hj_p0) (tyR_row A hj_p0) (vp_in_nI (by omega) (by omega)) dX3_load_81 (fun H locs hP hD hS => ?_)
              rw [nI_clamp (n := i) (by omega)] at hP hD
              have hP : va_P (dC, dI) bwCl (wR A (upR (upR u.1 p0.toNatClampNeg (flz (ldZ p1 p2 p3) (u.1 p0.toNatClampNeg) 0 i), u.2).1 p0.toNatClampNeg (upZ ((upR u.1 p0.toNatClampNeg (flz (ldZ p1 p2 p3) (u.1 p0.toNatClampNeg) 0 i), u.2).1 p0.toNatClampNeg) i true), (upR u.1 p0.toNatClampNeg (flz (ldZ p1 p2 p3) (u.1 p0.toNatClampNeg) 0 i), u.2).2)) H := stR_P (nb_1) hj_p0 hP
              have hD : va_D (aR A s.heap.size) (wR A (upR (upR u.1 p0.toNatClampNeg (flz (ldZ p1 p2 p3) (u.1 p0.toNatClampNeg) 0 i), u.2).1 p0.toNatClampNeg (upZ ((upR u.1 p0.toNatClampNeg (flz (ldZ p1 p2 p3) (u.1 p0.toNatClampNeg) 0 i), u.2).1 p0.toNatClampNeg) i true), (upR u.1 p0.toNatClampNeg (flz (ldZ p1 p2 p3) (u.1 p0.toNatClampNeg) 0 i), u.2).2)) := stR_D (nb_1) hj_p0 hD
              refine lv_iinc (v := nI (i + 1)) (lv' := [(8, .int (nI (i + 1))), (0, .ref (mh_ A)), (1, .int p0), (2, .long p1), (4, .long p2), (6, .long p3)]) hx hb dX3_load_82 hl (k := 5) rfl (nI_1 _) (by decide) rfl (fun ls hl => ?_)
              refine lv_goto (tgt := 13) hx hb dX3_load_85 (by decide) ?_
              have hv_i : (upR (upR u.1 p0.toNatClampNeg (flz (ldZ p1 p2 p3) (u.1 p0.toNatClampNeg) 0 i), u.2).1 p0.toNatClampNeg (upZ ((upR u.1 p0.toNatClampNeg (flz (ldZ p1 p2 p3) (u.1 p0.toNatClampNeg) 0 i), u.2).1 p0.toNatClampNeg) i true), (upR u.1 p0.toNatClampNeg (flz (ldZ p1 p2 p3) (u.1 p0.toNatClampNeg) 0 i), u.2).2) = (upR u.1 p0.toNatClampNeg (flz (ldZ p1 p2 p3) (u.1 p0.toNatClampNeg) 0 (i + 1)), u.2) := fz_uS _ u _ (Nat.zero_le _) (ld_t2 hlt_i c6 c7 c8 c10)
              exact ih_i _ _ _ (by omega) ⟨tr_PR hv_i hP, tr_DR hv_i hD, hS, lv_sub hl [1, 2, 3, 4, 5, 0] rfl⟩
        · refine lv_lload_n hx hb dX3_load_44 rfl (lv_at hl 2 rfl) ?_
          refine lv_goto (tgt := 63) hx hb dX3_load_45 (by decide) ?_
          refine lv_iload hx hb dX3_load_63 (lv_at hl 5 rfl) ?_
          refine lv_bipush (v := 64) hx hb dX3_load_65 (by decide) ?_
          refine lv_irem hx hb dX3_load_67 (by decide) ?_
          refine lv_lshr hx hb dX3_load_68 rfl ?_
          refine lv_lconst (v := 1) hx hb dX3_load_69 (by decide) ?_
          refine lv_land hx hb dX3_load_70 ?_
          refine lv_lconst (v := 1) hx hb dX3_load_71 (by decide) ?_
          refine W.lcmp hx hb dX3_load_72 ?_
          refine lv_if_ne (tgt := 80) hx hb dX3_load_73 (by decide) (fun c11 => ?_) (fun c11 => ?_)
          · refine lv_iconst (v := 0) hx hb dX3_load_80 (by decide) ?_
            refine va_zast hx hb hK hP hD hS (4 + p0.toNatClampNeg) (3 + p0.toNatClampNeg) (wR_row A (upR u.1 p0.toNatClampNeg (flz (ldZ p1 p2 p3) (u.1 p0.toNatClampNeg) 0 i), u.2) hj_p0) (tyR_row A hj_p0) (vp_in_nI (by omega) (by omega)) dX3_load_81 (fun H locs hP hD hS => ?_)
            rw [nI_clamp (n := i) (by omega)] at hP hD
            have hP : va_P (dC, dI) bwCl (wR A (upR (upR u.1 p0.toNatClampNeg (flz (ldZ p1 p2 p3) (u.1 p0.toNatClampNeg) 0 i), u.2).1 p0.toNatClampNeg (upZ ((upR u.1 p0.toNatClampNeg (flz (ldZ p1 p2 p3) (u.1 p0.toNatClampNeg) 0 i), u.2).1 p0.toNatClampNeg) i false), (upR u.1 p0.toNatClampNeg (flz (ldZ p1 p2 p3) (u.1 p0.toNatClampNeg) 0 i), u.2).2)) H := stR_P (nb_0) hj_p0 hP
            have hD : va_D (aR A s.heap.size) (wR A (upR (upR u.1 p0.toNatClampNeg (flz (ldZ p1 p2 p3) (u.1 p0.toNatClampNeg) 0 i), u.2).1 p0.toNatClampNeg (upZ ((upR u.1 p0.toNatClampNeg (flz (ldZ p1 p2 p3) (u.1 p0.toNatClampNeg) 0 i), u.2).1 p0.toNatClampNeg) i false), (upR u.1 p0.toNatClampNeg (flz (ldZ p1 p2 p3) (u.1 p0.toNatClampNeg) 0 i), u.2).2)) := stR_D (nb_0) hj_p0 hD
            refine lv_iinc (v := nI (i + 1)) (lv' := [(8, .int (nI (i + 1))), (0, .ref (mh_ A)), (1, .int p0), (2, .long p1), (4, .long p2), (6, .long p3)]) hx hb dX3_load_82 hl (k := 5) rfl (nI_1 _) (by decide) rfl (fun ls hl => ?_)
            refine lv_goto (tgt := 13) hx hb dX3_load_85 (by decide) ?_
            have hv_i : (upR (upR u.1 p0.toNatClampNeg (flz (ldZ p1 p2 p3) (u.1 p0.toNatClampNeg) 0 i), u.2).1 p0.toNatClampNeg (upZ ((upR u.1 p0.toNatClampNeg (flz (ldZ p1 p2 p3) (u.1 p0.toNatClampNeg) 0 i), u.2).1 p0.toNatClampNeg) i false), (upR u.1 p0.toNatClampNeg (flz (ldZ p1 p2 p3) (u.1 p0.toNatClampNeg) 0 i), u.2).2) = (upR u.1 p0.toNatClampNeg (flz (ldZ p1 p2 p3) (u.1 p0.toNatClampNeg) 0 (i + 1)), u.2) := fz_uS _ u _ (Nat.zero_le _) (ld_f1 hlt_i c6 c7 c11)
            exact ih_i _ _ _ (by omega) ⟨tr_PR hv_i hP, tr_DR hv_i hD, hS, lv_sub hl [1, 2, 3, 4, 5, 0] rfl⟩
          · refine lv_iconst (v := 1) hx hb dX3_load_76 (by decide) ?_
            refine lv_goto (tgt := 81) hx hb dX3_load_77 (by decide) ?_
            refine va_zast hx hb hK hP hD hS (4 + p0.toNatClampNeg) (3 + p0.toNatClampNeg) (wR_row A (upR u.1 p0.toNatClampNeg (flz (ldZ p1 p2 p3) (u.1 p0.toNatClampNeg) 0 i), u.2) hj_p0) (tyR_row A hj_p0) (vp_in_nI (by omega) (by omega)) dX3_load_81 (fun H locs hP hD hS => ?_)
            rw [nI_clamp (n := i) (by omega)] at hP hD
            have hP : va_P (dC, dI) bwCl (wR A (upR (upR u.1 p0.toNatClampNeg (flz (ldZ p1 p2 p3) (u.1 p0.toNatClampNeg) 0 i), u.2).1 p0.toNatClampNeg (upZ ((upR u.1 p0.toNatClampNeg (flz (ldZ p1 p2 p3) (u.1 p0.toNatClampNeg) 0 i), u.2).1 p0.toNatClampNeg) i true), (upR u.1 p0.toNatClampNeg (flz (ldZ p1 p2 p3) (u.1 p0.toNatClampNeg) 0 i), u.2).2)) H := stR_P (nb_1) hj_p0 hP
            have hD : va_D (aR A s.heap.size) (wR A (upR (upR u.1 p0.toNatClampNeg (flz (ldZ p1 p2 p3) (u.1 p0.toNatClampNeg) 0 i), u.2).1 p0.toNatClampNeg (upZ ((upR u.1 p0.toNatClampNeg (flz (ldZ p1 p2 p3) (u.1 p0.toNatClampNeg) 0 i), u.2).1 p0.toNatClampNeg) i true), (upR u.1 p0.toNatClampNeg (flz (ldZ p1 p2 p3) (u.1 p0.toNatClampNeg) 0 i), u.2).2)) := stR_D (nb_1) hj_p0 hD
            refine lv_iinc (v := nI (i + 1)) (lv' := [(8, .int (nI (i + 1))), (0, .ref (mh_ A)), (1, .int p0), (2, .long p1), (4, .long p2), (6, .long p3)]) hx hb dX3_load_82 hl (k := 5) rfl (nI_1 _) (by decide) rfl (fun ls hl => ?_)
            refine lv_goto (tgt := 13) hx hb dX3_load_85 (by decide) ?_
            have hv_i : (upR (upR u.1 p0.toNatClampNeg (flz (ldZ p1 p2 p3) (u.1 p0.toNatClampNeg) 0 i), u.2).1 p0.toNatClampNeg (upZ ((upR u.1 p0.toNatClampNeg (flz (ldZ p1 p2 p3) (u.1 p0.toNatClampNeg) 0 i), u.2).1 p0.toNatClampNeg) i true), (upR u.1 p0.toNatClampNeg (flz (ldZ p1 p2 p3) (u.1 p0.toNatClampNeg) 0 i), u.2).2) = (upR u.1 p0.toNatClampNeg (flz (ldZ p1 p2 p3) (u.1 p0.toNatClampNeg) 0 (i + 1)), u.2) := fz_uS _ u _ (Nat.zero_le _) (ld_t1 hlt_i c6 c7 c11)
            exact ih_i _ _ _ (by omega) ⟨tr_PR hv_i hP, tr_DR hv_i hD, hS, lv_sub hl [1, 2, 3, 4, 5, 0] rfl⟩
  · refine lv_bipush (v := -2) hx hb dX3_load_7 (by decide) ?_
    exact W.iret hx hb hr (fun t9 ht9 hW => ⟨⟨_, u, rfl, Or.inr ⟨fun h => h c1, rfl, rfl⟩, by rw [ht9]; exact hP, va_K.moved hW.alike hK, hD⟩, hS.F ht9⟩) hS.2.2 dX3_load_9
set_option maxHeartbeats 4000000 in
set_option maxRecDepth 100000 in
theorem c_X3_cut (l : Launch) (dC : Nat → ClassId) (dI : Nat → Nat → Nat) (A : AdR) (u : StR)  (p0 : Int32) (p1 : Int32) (p2 : Int32) (p3 : Int32) : gMi l yX3_cut wX3_cut ({ frames := 1, cells := 0, slots := 0, locals := 23 }) (dC, dI) bwCl (tyR A) (wR A) (aR A) [.ref (mh_ A), .int p0, .int p1, .int p2, .int p3] u (fun r v => ((¬ (fX3_isRow p0) = 0 ∧ ¬ (fX3_isRow p1) = 0 ∧ ¬ (fX3_isPiece p2 p3) = 0) ∧ (r = nI (cnt (((upR u.1 p0.toNatClampNeg (flz (flz (ctZ (u.1 p1.toNatClampNeg) p2.toNatClampNeg p3.toNatClampNeg) u.2.1 0 4032) (u.1 p0.toNatClampNeg) 0 4032), flz (ctZ (u.1 p1.toNatClampNeg) p2.toNatClampNeg p3.toNatClampNeg) u.2.1 0 4032, u.2.2) : StR).1 p0.toNatClampNeg) 4032) ∧ ((upR u.1 p0.toNatClampNeg (flz (flz (ctZ (u.1 p1.toNatClampNeg) p2.toNatClampNeg p3.toNatClampNeg) u.2.1 0 4032) (u.1 p0.toNatClampNeg) 0 4032), flz (ctZ (u.1 p1.toNatClampNeg) p2.toNatClampNeg p3.toNatClampNeg) u.2.1 0 4032, u.2.2) : StR) = v)) ∨ (¬ (¬ (fX3_isRow p0) = 0 ∧ ¬ (fX3_isRow p1) = 0 ∧ ¬ (fX3_isPiece p2 p3) = 0) ∧ r = -2 ∧ u = v)) := by
  unfold gMi
  intro sz
  refine Met.ofW (cc := cX3_cut) (maxL := 6) (ret := (some .int)) (by decide) rfl ?_
  intro p e s m args below meth c s₁ B hml hv
  obtain ⟨rfl, hsz, hP, hK, hD⟩ := hv
  subst hsz
  have hS : va_S (aR A s.heap.size) s.heap s.heap [] := va_S.rf
  have hx := B.exec
  have hb := B.bytes
  have hr := B.returns
  have hts := atoms_spec (ws := wX3_cut) B.pre
  have hw : ∀ w ∈ tg_, w.before _ s = true := fun w h => hts w (List.mem_cons_of_mem _ h)
  have hown : s.vm.findClass RX3 = some m.cls := findClass_of_methodNamed B.named
  have hlocks := B.notSynchronized
  have hl := lv_entry ([.ref (mh_ A), .int p0, .int p1, .int p2, .int p3]) (n := 6) (Nat.le_of_ble_eq_true rfl)
  rw [lg_entry_eq]
  generalize (lg_sl ([.ref (mh_ A), .int p0, .int p1, .int p2, .int p3]) ++ List.replicate (6 - (lg_sl ([.ref (mh_ A), .int p0, .int p1, .int p2, .int p3])).length) Slot.unset).toArray = ls at hl ⊢
  have hl : lv_has ls 6 [(0, .ref (mh_ A)), (1, .int p0), (2, .int p1), (3, .int p2), (4, .int p3)] := hl
  refine lv_iload_n hx hb dX3_cut_0 rfl (lv_at hl 1 rfl) ?_
  refine vp_callSi (W.runS (As := [.int p0]) (rest := []) ⟨hx, hb, hml, hown, hts⟩ (c_X3_isRow l p0) (va_cwS 1 hts (gi_S hbc tw_261 tw_262 tw_4 tw_263) rfl rfl rfl (by decide +kernel) ⟨Nat.le_of_ble_eq_true rfl, Nat.le_of_ble_eq_true rfl⟩) preEq rfl rfl hl.1 rfl (lv_room (Nat.le_of_ble_eq_true rfl)) dX3_cut_1 ⟨Nat.le_of_ble_eq_true rfl, Nat.le_of_ble_eq_true rfl⟩) (fun r hq => ?_)
  subst hq
  refine lv_if_eq (tgt := 23) hx hb dX3_cut_4 (by decide) (fun c1 => ?_) (fun c1 => ?_)
  · refine lv_bipush (v := -2) hx hb dX3_cut_23 (by decide) ?_
    exact W.iret hx hb hr (fun t9 ht9 hW => ⟨⟨_, u, rfl, Or.inr ⟨fun h => h.1 c1, rfl, rfl⟩, by rw [ht9]; exact hP, va_K.moved hW.alike hK, hD⟩, hS.F ht9⟩) hS.2.2 dX3_cut_25
  · have hj_p0 := row_lt (p := p0) c1
    refine lv_iload_n hx hb dX3_cut_7 rfl (lv_at hl 2 rfl) ?_
    refine vp_callSi (W.runS (As := [.int p1]) (rest := []) ⟨hx, hb, hml, hown, hts⟩ (c_X3_isRow l p1) (va_cwS 1 hts (gi_S hbc tw_261 tw_262 tw_4 tw_263) rfl rfl rfl (by decide +kernel) ⟨Nat.le_of_ble_eq_true rfl, Nat.le_of_ble_eq_true rfl⟩) preEq rfl rfl hl.1 rfl (lv_room (Nat.le_of_ble_eq_true rfl)) dX3_cut_8 ⟨Nat.le_of_ble_eq_true rfl, Nat.le_of_ble_eq_true rfl⟩) (fun r hq => ?_)
    subst hq
    refine lv_if_eq (tgt := 23) hx hb dX3_cut_11 (by decide) (fun c2 => ?_) (fun c2 => ?_)
    · refine lv_bipush (v := -2) hx hb dX3_cut_23 (by decide) ?_
      exact W.iret hx hb hr (fun t9 ht9 hW => ⟨⟨_, u, rfl, Or.inr ⟨fun h => h.2.1 c2, rfl, rfl⟩, by rw [ht9]; exact hP, va_K.moved hW.alike hK, hD⟩, hS.F ht9⟩) hS.2.2 dX3_cut_25
    · have hj_p1 := row_lt (p := p1) c2
      refine lv_iload_n hx hb dX3_cut_14 rfl (lv_at hl 3 rfl) ?_
      refine lv_iload hx hb dX3_cut_15 (lv_at hl 4 rfl) ?_
      refine vp_callSi (W.runS (As := [.int p2, .int p3]) (rest := []) ⟨hx, hb, hml, hown, hts⟩ (c_X3_isPiece l p2 p3) (va_cwS 2 hts (gi_S hbc tw_274 tw_275 tw_4 tw_276) rfl rfl rfl (by decide +kernel) ⟨Nat.le_of_ble_eq_true rfl, Nat.le_of_ble_eq_true rfl⟩) preEq rfl rfl hl.1 rfl (lv_room (Nat.le_of_ble_eq_true rfl)) dX3_cut_17 ⟨Nat.le_of_ble_eq_true rfl, Nat.le_of_ble_eq_true rfl⟩) (fun r hq => ?_)
      subst hq
      refine lv_if_ne (tgt := 26) hx hb dX3_cut_20 (by decide) (fun c3 => ?_) (fun c3 => ?_)
      · have hpc := pc_ab c3
        refine lv_iconst (v := 0) hx hb dX3_cut_26 (by decide) ?_
        refine lv_istore (lv' := [(5, .int 0), (0, .ref (mh_ A)), (1, .int p0), (2, .int p1), (3, .int p2), (4, .int p3)]) hx hb dX3_cut_27 hl (by decide) rfl (fun ls hl => ?_)
        have hu_i : u = (u.1, flz (ctZ (u.1 p1.toNatClampNeg) p2.toNatClampNeg p3.toNatClampNeg) u.2.1 0 0, u.2.2) := fq_u0 _ u
        refine w_loop (N := 4032) (i0 := 0) (fun i H locs ls => va_P (dC, dI) bwCl (wR A (u.1, flz (ctZ (u.1 p1.toNatClampNeg) p2.toNatClampNeg p3.toNatClampNeg) u.2.1 0 i, u.2.2)) H ∧ va_D (aR A s.heap.size) (wR A (u.1, flz (ctZ (u.1 p1.toNatClampNeg) p2.toNatClampNeg p3.toNatClampNeg) u.2.1 0 i, u.2.2)) ∧ va_S (aR A s.heap.size) s.heap H locs ∧ lv_has ls 6 [(0, .ref (mh_ A)), (1, .int p0), (2, .int p1), (3, .int p2), (4, .int p3), (5, .int (nI i))]) (by decide) ⟨tr_PR hu_i hP, tr_DR hu_i hD, hS, lv_sub hl [1, 2, 3, 4, 5, 0] rfl⟩ ?_
        intro i H locs ls hz_i hi_i hI ih_i
        obtain ⟨hP, hD, hS, hl⟩ := hI
        refine lv_iload hx hb dX3_cut_29 (lv_at hl 5 rfl) ?_
        refine lv_sipush (v := 4032) hx hb dX3_cut_31 (by decide) ?_
        refine lv_icmp_ge (tgt := 78) hx hb dX3_cut_34 (by decide) (fun c4 => ?_) (fun c4 => ?_)
        · obtain rfl : i = 4032 := lp_out (n := 4032) rfl hi_i (by decide) c4
          refine lv_iconst (v := 0) hx hb dX3_cut_78 (by decide) ?_
          refine lv_istore (lv' := [(5, .int 0), (0, .ref (mh_ A)), (1, .int p0), (2, .int p1), (3, .int p2), (4, .int p3)]) hx hb dX3_cut_79 hl (by decide) rfl (fun ls hl => ?_)
          have hu_k : (u.1, flz (ctZ (u.1 p1.toNatClampNeg) p2.toNatClampNeg p3.toNatClampNeg) u.2.1 0 4032, u.2.2) = (upR u.1 p0.toNatClampNeg (flz (flz (ctZ (u.1 p1.toNatClampNeg) p2.toNatClampNeg p3.toNatClampNeg) u.2.1 0 4032) (u.1 p0.toNatClampNeg) 0 0), flz (ctZ (u.1 p1.toNatClampNeg) p2.toNatClampNeg p3.toNatClampNeg) u.2.1 0 4032, u.2.2) := fk_u0 _ _ u _
          refine w_loop (N := 4032) (i0 := 0) (fun k H locs ls => va_P (dC, dI) bwCl (wR A (upR u.1 p0.toNatClampNeg (flz (flz (ctZ (u.1 p1.toNatClampNeg) p2.toNatClampNeg p3.toNatClampNeg) u.2.1 0 4032) (u.1 p0.toNatClampNeg) 0 k), flz (ctZ (u.1 p1.toNatClampNeg) p2.toNatClampNeg p3.toNatClampNeg) u.2.1 0 4032, u.2.2)) H ∧ va_D (aR A s.heap.size) (wR A (upR u.1 p0.toNatClampNeg (flz (flz (ctZ (u.1 p1.toNatClampNeg) p2.toNatClampNeg p3.toNatClampNeg) u.2.1 0 4032) (u.1 p0.toNatClampNeg) 0 k), flz (ctZ (u.1 p1.toNatClampNeg) p2.toNatClampNeg p3.toNatClampNeg) u.2.1 0 4032, u.2.2)) ∧ va_S (aR A s.heap.size) s.heap H locs ∧ lv_has ls 6 [(0, .ref (mh_ A)), (1, .int p0), (2, .int p1), (3, .int p2), (4, .int p3), (5, .int (nI k))]) (by decide) ⟨tr_PR hu_k hP, tr_DR hu_k hD, hS, lv_sub hl [1, 2, 3, 4, 5, 0] rfl⟩ ?_
          intro k H locs ls hz_k hi_k hI ih_k
          obtain ⟨hP, hD, hS, hl⟩ := hI
          refine lv_iload hx hb dX3_cut_81 (lv_at hl 5 rfl) ?_
          refine lv_sipush (v := 4032) hx hb dX3_cut_83 (by decide) ?_
          refine lv_icmp_ge (tgt := 111) hx hb dX3_cut_86 (by decide) (fun c5 => ?_) (fun c5 => ?_)
          · obtain rfl : k = 4032 := lp_out (n := 4032) rfl hi_k (by decide) c5
            refine lv_aload_n hx hb dX3_cut_111 rfl (lv_at hl 0 rfl) ?_
            refine lv_iload_n hx hb dX3_cut_112 rfl (lv_at hl 1 rfl) ?_
            refine gVi (As := [.int p0]) (rest := []) ⟨hx, hb, hml, hown, hts⟩ (c_X3_ones l dC dI A (upR u.1 p0.toNatClampNeg (flz (flz (ctZ (u.1 p1.toNatClampNeg) p2.toNatClampNeg p3.toNatClampNeg) u.2.1 0 4032) (u.1 p0.toNatClampNeg) 0 4032), flz (ctZ (u.1 p1.toNatClampNeg) p2.toNatClampNeg p3.toNatClampNeg) u.2.1 0 4032, u.2.2) p0 hj_p0 (row_in (p := p0) c1)) (cwV 1 hts (gi_V hbc tw_277 tw_279 ts_4 tw_4 tw_280) rfl rfl rfl (by decide +kernel) ⟨Nat.le_of_ble_eq_true rfl, Nat.le_of_ble_eq_true rfl⟩) (va_recv hK hP (ci := 3) (q0 := 0) rfl rfl) aR_mono aR_D hP hK hD hS rfl hl.1 rfl (Nat.le_of_ble_eq_true rfl) dX3_cut_113 ⟨Nat.le_of_ble_eq_true rfl, Nat.le_of_ble_eq_true rfl⟩ (fun r6 v8 H locs hq7 hP hD hS => ?_)
            obtain ⟨rfl, rfl⟩ := hq7
            exact W.iret hx hb hr (fun t9 ht9 hW => ⟨⟨_, (upR u.1 p0.toNatClampNeg (flz (flz (ctZ (u.1 p1.toNatClampNeg) p2.toNatClampNeg p3.toNatClampNeg) u.2.1 0 4032) (u.1 p0.toNatClampNeg) 0 4032), flz (ctZ (u.1 p1.toNatClampNeg) p2.toNatClampNeg p3.toNatClampNeg) u.2.1 0 4032, u.2.2), rfl, Or.inl ⟨⟨c1, c2, c3⟩, ⟨rfl, rfl⟩⟩, by rw [ht9]; exact hP, va_K.moved hW.alike hK, hD⟩, hS.F ht9⟩) hS.2.2 dX3_cut_116
          · have hlt_k : k < 4032 := lp_in (n := 4032) rfl hi_k c5
            refine lv_aload_n hx hb dX3_cut_89 rfl (lv_at hl 0 rfl) ?_
            refine va_get (D := (dC, dI)) (ci := 3) (v := .ref (mq_ A)) (C := RX3) (T := TX3) (N := 4) hx hb hw igX3 hown hK hP 0 rfl rfl 0 (by decide) (hw _ tw_242) (fun _ h9 => h9) rfl dX3_cut_90 ?_
            refine lv_iload_n hx hb dX3_cut_93 rfl (lv_at hl 1 rfl) ?_
            refine va_aldz hx hb hK hP 1 0 rfl rfl (row_in (p := p0) c1) dX3_cut_94 ?_
            rw [mqF_at A hj_p0]
            refine lv_iload hx hb dX3_cut_95 (lv_at hl 5 rfl) ?_
            refine lv_aload_n hx hb dX3_cut_97 rfl (lv_at hl 0 rfl) ?_
            refine va_get (D := (dC, dI)) (ci := 3) (v := .ref (mp_ A)) (C := RX3) (T := TX3) (N := 4) hx hb hw igX3 hown hK hP 0 rfl rfl 1 (by decide) (hw _ tw_243) (fun _ h9 => h9) rfl dX3_cut_98 ?_
            refine lv_iload hx hb dX3_cut_101 (lv_at hl 5 rfl) ?_
            refine va_zald hx hb hK hP 2 1 rfl rfl (vp_in_nI (by omega) (by omega)) dX3_cut_103 ?_
            rw [nI_clamp (n := k) (by omega)]
            refine lv_topi (fun z9 ez9 => ?_)
            obtain rfl : z9 = bz (flz (ctZ (u.1 p1.toNatClampNeg) p2.toNatClampNeg p3.toNatClampNeg) u.2.1 0 4032) k := ez9.trans rfl
            refine va_zast hx hb hK hP hD hS (4 + p0.toNatClampNeg) (3 + p0.toNatClampNeg) (wR_row A (upR u.1 p0.toNatClampNeg (flz (flz (ctZ (u.1 p1.toNatClampNeg) p2.toNatClampNeg p3.toNatClampNeg) u.2.1 0 4032) (u.1 p0.toNatClampNeg) 0 k), flz (ctZ (u.1 p1.toNatClampNeg) p2.toNatClampNeg p3.toNatClampNeg) u.2.1 0 4032, u.2.2) hj_p0) (tyR_row A hj_p0) (vp_in_nI (by omega) (by omega)) dX3_cut_104 (fun H locs hP hD hS => ?_)
            rw [nI_clamp (n := k) (by omega)] at hP hD
            have hP : va_P (dC, dI) bwCl (wR A (upR (upR u.1 p0.toNatClampNeg (flz (flz (ctZ (u.1 p1.toNatClampNeg) p2.toNatClampNeg p3.toNatClampNeg) u.2.1 0 4032) (u.1 p0.toNatClampNeg) 0 k), flz (ctZ (u.1 p1.toNatClampNeg) p2.toNatClampNeg p3.toNatClampNeg) u.2.1 0 4032, u.2.2).1 p0.toNatClampNeg (upZ ((upR u.1 p0.toNatClampNeg (flz (flz (ctZ (u.1 p1.toNatClampNeg) p2.toNatClampNeg p3.toNatClampNeg) u.2.1 0 4032) (u.1 p0.toNatClampNeg) 0 k), flz (ctZ (u.1 p1.toNatClampNeg) p2.toNatClampNeg p3.toNatClampNeg) u.2.1 0 4032, u.2.2).1 p0.toNatClampNeg) k ((flz (ctZ (u.1 p1.toNatClampNeg) p2.toNatClampNeg p3.toNatClampNeg) u.2.1 0 4032) k)), (upR u.1 p0.toNatClampNeg (flz (flz (ctZ (u.1 p1.toNatClampNeg) p2.toNatClampNeg p3.toNatClampNeg) u.2.1 0 4032) (u.1 p0.toNatClampNeg) 0 k), flz (ctZ (u.1 p1.toNatClampNeg) p2.toNatClampNeg p3.toNatClampNeg) u.2.1 0 4032, u.2.2).2)) H := stR_P (nb_b _) hj_p0 hP
            have hD : va_D (aR A s.heap.size) (wR A (upR (upR u.1 p0.toNatClampNeg (flz (flz (ctZ (u.1 p1.toNatClampNeg) p2.toNatClampNeg p3.toNatClampNeg) u.2.1 0 4032) (u.1 p0.toNatClampNeg) 0 k), flz (ctZ (u.1 p1.toNatClampNeg) p2.toNatClampNeg p3.toNatClampNeg) u.2.1 0 4032, u.2.2).1 p0.toNatClampNeg (upZ ((upR u.1 p0.toNatClampNeg (flz (flz (ctZ (u.1 p1.toNatClampNeg) p2.toNatClampNeg p3.toNatClampNeg) u.2.1 0 4032) (u.1 p0.toNatClampNeg) 0 k), flz (ctZ (u.1 p1.toNatClampNeg) p2.toNatClampNeg p3.toNatClampNeg) u.2.1 0 4032, u.2.2).1 p0.toNatClampNeg) k ((flz (ctZ (u.1 p1.toNatClampNeg) p2.toNatClampNeg p3.toNatClampNeg) u.2.1 0 4032) k)), (upR u.1 p0.toNatClampNeg (flz (flz (ctZ (u.1 p1.toNatClampNeg) p2.toNatClampNeg p3.toNatClampNeg) u.2.1 0 4032) (u.1 p0.toNatClampNeg) 0 k), flz (ctZ (u.1 p1.toNatClampNeg) p2.toNatClampNeg p3.toNatClampNeg) u.2.1 0 4032, u.2.2).2)) := stR_D (nb_b _) hj_p0 hD
            refine lv_iinc (v := nI (k + 1)) (lv' := [(5, .int (nI (k + 1))), (0, .ref (mh_ A)), (1, .int p0), (2, .int p1), (3, .int p2), (4, .int p3)]) hx hb dX3_cut_105 hl (k := 5) rfl (nI_1 _) (by decide) rfl (fun ls hl => ?_)
            refine lv_goto (tgt := 81) hx hb dX3_cut_108 (by decide) ?_
            have hv_k : (upR (upR u.1 p0.toNatClampNeg (flz (flz (ctZ (u.1 p1.toNatClampNeg) p2.toNatClampNeg p3.toNatClampNeg) u.2.1 0 4032) (u.1 p0.toNatClampNeg) 0 k), flz (ctZ (u.1 p1.toNatClampNeg) p2.toNatClampNeg p3.toNatClampNeg) u.2.1 0 4032, u.2.2).1 p0.toNatClampNeg (upZ ((upR u.1 p0.toNatClampNeg (flz (flz (ctZ (u.1 p1.toNatClampNeg) p2.toNatClampNeg p3.toNatClampNeg) u.2.1 0 4032) (u.1 p0.toNatClampNeg) 0 k), flz (ctZ (u.1 p1.toNatClampNeg) p2.toNatClampNeg p3.toNatClampNeg) u.2.1 0 4032, u.2.2).1 p0.toNatClampNeg) k ((flz (ctZ (u.1 p1.toNatClampNeg) p2.toNatClampNeg p3.toNatClampNeg) u.2.1 0 4032) k)), (upR u.1 p0.toNatClampNeg (flz (flz (ctZ (u.1 p1.toNatClampNeg) p2.toNatClampNeg p3.toNatClampNeg) u.2.1 0 4032) (u.1 p0.toNatClampNeg) 0 k), flz (ctZ (u.1 p1.toNatClampNeg) p2.toNatClampNeg p3.toNatClampNeg) u.2.1 0 4032, u.2.2).2) = (upR u.1 p0.toNatClampNeg (flz (flz (ctZ (u.1 p1.toNatClampNeg) p2.toNatClampNeg p3.toNatClampNeg) u.2.1 0 4032) (u.1 p0.toNatClampNeg) 0 (k + 1)), flz (ctZ (u.1 p1.toNatClampNeg) p2.toNatClampNeg p3.toNatClampNeg) u.2.1 0 4032, u.2.2) := fk_uS _ _ u _
            exact ih_k _ _ _ (by omega) ⟨tr_PR hv_k hP, tr_DR hv_k hD, hS, lv_sub hl [1, 2, 3, 4, 5, 0] rfl⟩
        · have hlt_i : i < 4032 := lp_in (n := 4032) rfl hi_i c4
          refine lv_aload_n hx hb dX3_cut_37 rfl (lv_at hl 0 rfl) ?_
          refine va_get (D := (dC, dI)) (ci := 3) (v := .ref (mp_ A)) (C := RX3) (T := TX3) (N := 4) hx hb hw igX3 hown hK hP 0 rfl rfl 1 (by decide) (hw _ tw_243) (fun _ h9 => h9) rfl dX3_cut_38 ?_
          refine lv_iload hx hb dX3_cut_41 (lv_at hl 5 rfl) ?_
          refine lv_iload hx hb dX3_cut_43 (lv_at hl 5 rfl) ?_
          refine lv_iload hx hb dX3_cut_45 (lv_at hl 4 rfl) ?_
          refine lv_iload_n hx hb dX3_cut_47 rfl (lv_at hl 3 rfl) ?_
          refine lv_isub hx hb dX3_cut_48 ?_
          refine lv_icmp_ge (tgt := 70) hx hb dX3_cut_49 (by decide) (fun c10 => ?_) (fun c10 => ?_)
          · refine lv_iconst (v := 0) hx hb dX3_cut_70 (by decide) ?_
            refine va_zast hx hb hK hP hD hS 2 1 rfl rfl (vp_in_nI (by omega) (by omega)) dX3_cut_71 (fun H locs hP hD hS => ?_)
            rw [nI_clamp (n := i) (by omega)] at hP hD
            have hP : va_P (dC, dI) bwCl (wR A ((u.1, flz (ctZ (u.1 p1.toNatClampNeg) p2.toNatClampNeg p3.toNatClampNeg) u.2.1 0 i, u.2.2).1, upZ (u.1, flz (ctZ (u.1 p1.toNatClampNeg) p2.toNatClampNeg p3.toNatClampNeg) u.2.1 0 i, u.2.2).2.1 i false, (u.1, flz (ctZ (u.1 p1.toNatClampNeg) p2.toNatClampNeg p3.toNatClampNeg) u.2.1 0 i, u.2.2).2.2)) H := stp_P (nb_0) hP
            have hD : va_D (aR A s.heap.size) (wR A ((u.1, flz (ctZ (u.1 p1.toNatClampNeg) p2.toNatClampNeg p3.toNatClampNeg) u.2.1 0 i, u.2.2).1, upZ (u.1, flz (ctZ (u.1 p1.toNatClampNeg) p2.toNatClampNeg p3.toNatClampNeg) u.2.1 0 i, u.2.2).2.1 i false, (u.1, flz (ctZ (u.1 p1.toNatClampNeg) p2.toNatClampNeg p3.toNatClampNeg) u.2.1 0 i, u.2.2).2.2)) := stp_D (nb_0) hD
            refine lv_iinc (v := nI (i + 1)) (lv' := [(5, .int (nI (i + 1))), (0, .ref (mh_ A)), (1, .int p0), (2, .int p1), (3, .int p2), (4, .int p3)]) hx hb dX3_cut_72 hl (k := 5) rfl (nI_1 _) (by decide) rfl (fun ls hl => ?_)
            refine lv_goto (tgt := 29) hx hb dX3_cut_75 (by decide) ?_
            have hv_i : ((u.1, flz (ctZ (u.1 p1.toNatClampNeg) p2.toNatClampNeg p3.toNatClampNeg) u.2.1 0 i, u.2.2).1, upZ (u.1, flz (ctZ (u.1 p1.toNatClampNeg) p2.toNatClampNeg p3.toNatClampNeg) u.2.1 0 i, u.2.2).2.1 i false, (u.1, flz (ctZ (u.1 p1.toNatClampNeg) p2.toNatClampNeg p3.toNatClampNeg) u.2.1 0 i, u.2.2).2.2) = (u.1, flz (ctZ (u.1 p1.toNatClampNeg) p2.toNatClampNeg p3.toNatClampNeg) u.2.1 0 (i + 1), u.2.2) := fq_uS _ u (ct_hi hpc hlt_i c10)
            exact ih_i _ _ _ (by omega) ⟨tr_PR hv_i hP, tr_DR hv_i hD, hS, lv_sub hl [1, 2, 3, 4, 5, 0] rfl⟩
          · refine lv_aload_n hx hb dX3_cut_52 rfl (lv_at hl 0 rfl) ?_
            refine va_get (D := (dC, dI)) (ci := 3) (v := .ref (mq_ A)) (C := RX3) (T := TX3) (N := 4) hx hb hw igX3 hown hK hP 0 rfl rfl 0 (by decide) (hw _ tw_242) (fun _ h9 => h9) rfl dX3_cut_53 ?_
            refine lv_iload_n hx hb dX3_cut_56 rfl (lv_at hl 2 rfl) ?_
            refine va_aldz hx hb hK hP 1 0 rfl rfl (row_in (p := p1) c2) dX3_cut_57 ?_
            rw [mqF_at A hj_p1]
            refine lv_iload_n hx hb dX3_cut_58 rfl (lv_at hl 3 rfl) ?_
            refine lv_iload hx hb dX3_cut_59 (lv_at hl 5 rfl) ?_
            refine lv_iadd hx hb dX3_cut_61 ?_
            have hib := ct_lt hpc hlt_i c10
            refine lv_topi (fun z11 ez11 => ?_)
            obtain rfl : z11 = nI (p2.toNatClampNeg + i) := ez11.trans (ct_ix hpc)
            refine va_zald hx hb hK hP (4 + p1.toNatClampNeg) (3 + p1.toNatClampNeg) (wR_row A (u.1, flz (ctZ (u.1 p1.toNatClampNeg) p2.toNatClampNeg p3.toNatClampNeg) u.2.1 0 i, u.2.2) hj_p1) (tyR_row A hj_p1) (vp_in_nI (by omega) (by omega)) dX3_cut_62 ?_
            rw [nI_clamp (n := (p2.toNatClampNeg + i)) (by omega)]
            refine lv_topi (fun z12 ez12 => ?_)
            obtain rfl : z12 = bz (u.1 p1.toNatClampNeg) (p2.toNatClampNeg + i) := ez12.trans rfl
            refine lv_if_eq (tgt := 70) hx hb dX3_cut_63 (by decide) (fun c13 => ?_) (fun c13 => ?_)
            · have c13 := b1f (b := _) c13
              refine lv_iconst (v := 0) hx hb dX3_cut_70 (by decide) ?_
              refine va_zast hx hb hK hP hD hS 2 1 rfl rfl (vp_in_nI (by omega) (by omega)) dX3_cut_71 (fun H locs hP hD hS => ?_)
              rw [nI_clamp (n := i) (by omega)] at hP hD
              have hP : va_P (dC, dI) bwCl (wR A ((u.1, flz (ctZ (u.1 p1.toNatClampNeg) p2.toNatClampNeg p3.toNatClampNeg) u.2.1 0 i, u.2.2).1, upZ (u.1, flz (ctZ (u.1 p1.toNatClampNeg) p2.toNatClampNeg p3.toNatClampNeg) u.2.1 0 i, u.2.2).2.1 i false, (u.1, flz (ctZ (u.1 p1.toNatClampNeg) p2.toNatClampNeg p3.toNatClampNeg) u.2.1 0 i, u.2.2).2.2)) H := stp_P (nb_0) hP
              have hD : va_D (aR A s.heap.size) (wR A ((u.1, flz (ctZ (u.1 p1.toNatClampNeg) p2.toNatClampNeg p3.toNatClampNeg) u.2.1 0 i, u.2.2).1, upZ (u.1, flz (ctZ (u.1 p1.toNatClampNeg) p2.toNatClampNeg p3.toNatClampNeg) u.2.1 0 i, u.2.2).2.1 i false, (u.1, flz (ctZ (u.1 p1.toNatClampNeg) p2.toNatClampNeg p3.toNatClampNeg) u.2.1 0 i, u.2.2).2.2)) := stp_D (nb_0) hD
              refine lv_iinc (v := nI (i + 1)) (lv' := [(5, .int (nI (i + 1))), (0, .ref (mh_ A)), (1, .int p0), (2, .int p1), (3, .int p2), (4, .int p3)]) hx hb dX3_cut_72 hl (k := 5) rfl (nI_1 _) (by decide) rfl (fun ls hl => ?_)
              refine lv_goto (tgt := 29) hx hb dX3_cut_75 (by decide) ?_
              have hv_i : ((u.1, flz (ctZ (u.1 p1.toNatClampNeg) p2.toNatClampNeg p3.toNatClampNeg) u.2.1 0 i, u.2.2).1, upZ (u.1, flz (ctZ (u.1 p1.toNatClampNeg) p2.toNatClampNeg p3.toNatClampNeg) u.2.1 0 i, u.2.2).2.1 i false, (u.1, flz (ctZ (u.1 p1.toNatClampNeg) p2.toNatClampNeg p3.toNatClampNeg) u.2.1 0 i, u.2.2).2.2) = (u.1, flz (ctZ (u.1 p1.toNatClampNeg) p2.toNatClampNeg p3.toNatClampNeg) u.2.1 0 (i + 1), u.2.2) := fq_uS _ u (ct_f hpc hlt_i c10 c13)
              exact ih_i _ _ _ (by omega) ⟨tr_PR hv_i hP, tr_DR hv_i hD, hS, lv_sub hl [1, 2, 3, 4, 5, 0] rfl⟩
            · have c13 := b1t (b := _) c13
              refine lv_iconst (v := 1) hx hb dX3_cut_66 (by decide) ?_
              refine lv_goto (tgt := 71) hx hb dX3_cut_67 (by decide) ?_
              refine va_zast hx hb hK hP hD hS 2 1 rfl rfl (vp_in_nI (by omega) (by omega)) dX3_cut_71 (fun H locs hP hD hS => ?_)
              rw [nI_clamp (n := i) (by omega)] at hP hD
              have hP : va_P (dC, dI) bwCl (wR A ((u.1, flz (ctZ (u.1 p1.toNatClampNeg) p2.toNatClampNeg p3.toNatClampNeg) u.2.1 0 i, u.2.2).1, upZ (u.1, flz (ctZ (u.1 p1.toNatClampNeg) p2.toNatClampNeg p3.toNatClampNeg) u.2.1 0 i, u.2.2).2.1 i true, (u.1, flz (ctZ (u.1 p1.toNatClampNeg) p2.toNatClampNeg p3.toNatClampNeg) u.2.1 0 i, u.2.2).2.2)) H := stp_P (nb_1) hP
              have hD : va_D (aR A s.heap.size) (wR A ((u.1, flz (ctZ (u.1 p1.toNatClampNeg) p2.toNatClampNeg p3.toNatClampNeg) u.2.1 0 i, u.2.2).1, upZ (u.1, flz (ctZ (u.1 p1.toNatClampNeg) p2.toNatClampNeg p3.toNatClampNeg) u.2.1 0 i, u.2.2).2.1 i true, (u.1, flz (ctZ (u.1 p1.toNatClampNeg) p2.toNatClampNeg p3.toNatClampNeg) u.2.1 0 i, u.2.2).2.2)) := stp_D (nb_1) hD
              refine lv_iinc (v := nI (i + 1)) (lv' := [(5, .int (nI (i + 1))), (0, .ref (mh_ A)), (1, .int p0), (2, .int p1), (3, .int p2), (4, .int p3)]) hx hb dX3_cut_72 hl (k := 5) rfl (nI_1 _) (by decide) rfl (fun ls hl => ?_)
              refine lv_goto (tgt := 29) hx hb dX3_cut_75 (by decide) ?_
              have hv_i : ((u.1, flz (ctZ (u.1 p1.toNatClampNeg) p2.toNatClampNeg p3.toNatClampNeg) u.2.1 0 i, u.2.2).1, upZ (u.1, flz (ctZ (u.1 p1.toNatClampNeg) p2.toNatClampNeg p3.toNatClampNeg) u.2.1 0 i, u.2.2).2.1 i true, (u.1, flz (ctZ (u.1 p1.toNatClampNeg) p2.toNatClampNeg p3.toNatClampNeg) u.2.1 0 i, u.2.2).2.2) = (u.1, flz (ctZ (u.1 p1.toNatClampNeg) p2.toNatClampNeg p3.toNatClampNeg) u.2.1 0 (i + 1), u.2.2) := fq_uS _ u (ct_t hpc hlt_i c10 c13)
              exact ih_i _ _ _ (by omega) ⟨tr_PR hv_i hP, tr_DR hv_i hD, hS, lv_sub hl [1, 2, 3, 4, 5, 0] rfl⟩
      · refine lv_bipush (v := -2) hx hb dX3_cut_23 (by decide) ?_
        exact W.iret hx hb hr (fun t9 ht9 hW => ⟨⟨_, u, rfl, Or.inr ⟨fun h => h.2.2 c3, rfl, rfl⟩, by rw [ht9]; exact hP, va_K.moved hW.alike hK, hD⟩, hS.F ht9⟩) hS.2.2 dX3_cut_25
set_option maxHeartbeats 4000000 in
set_option maxRecDepth 100000 in
theorem c_X3_look (l : Launch) (dC : Nat → ClassId) (dI : Nat → Nat → Nat) (A : AdR) (u : StR)  (p0 : Int32) (p1 : Int32) : gMi l yX3_look wX3_look ({ frames := 1, cells := 0, slots := 0, locals := 23 }) (dC, dI) bwCl (tyR A) (wR A) (aR A) [.ref (mh_ A), .int p0, .int p1] u (fun r v => ((¬ (fX3_isRow p0) = 0 ∧ ¬ p1 < 0 ∧ p1 ≤ 2) ∧ ((p1 = 0 ∧ r = nI (cnt (u.1 p0.toNatClampNeg) 4032)) ∨ ((¬ p1 = 0 ∧ p1 = 1) ∧ peR (u.1 p0.toNatClampNeg) r) ∨ ((¬ p1 = 0 ∧ ¬ p1 = 1) ∧ ∃ q, peR (u.1 p0.toNatClampNeg) q ∧ ((q = 0 ∧ r = 1) ∨ (¬ q = 0 ∧ r = 0)))) ∧ u = v) ∨ (¬ (¬ (fX3_isRow p0) = 0 ∧ ¬ p1 < 0 ∧ p1 ≤ 2) ∧ r = -2 ∧ u = v)) := by
  unfold gMi
  intro sz
  refine Met.ofW (cc := cX3_look) (maxL := 3) (ret := (some .int)) (by decide) rfl ?_
  intro p e s m args below meth c s₁ B hml hv
  obtain ⟨rfl, hsz, hP, hK, hD⟩ := hv
  subst hsz
  have hS : va_S (aR A s.heap.size) s.heap s.heap [] := va_S.rf
  have hx := B.exec
  have hb := B.bytes
  have hr := B.returns
  have hts := atoms_spec (ws := wX3_look) B.pre
  have hw : ∀ w ∈ tg_, w.before _ s = true := fun w h => hts w (List.mem_cons_of_mem _ h)
  have hown : s.vm.findClass RX3 = some m.cls := findClass_of_methodNamed B.named
  have hlocks := B.notSynchronized
  have hl := lv_entry ([.ref (mh_ A), .int p0, .int p1]) (n := 3) (Nat.le_of_ble_eq_true rfl)
  rw [lg_entry_eq]
  generalize (lg_sl ([.ref (mh_ A), .int p0, .int p1]) ++ List.replicate (3 - (lg_sl ([.ref (mh_ A), .int p0, .int p1])).length) Slot.unset).toArray = ls at hl ⊢
  have hl : lv_has ls 3 [(0, .ref (mh_ A)), (1, .int p0), (2, .int p1)] := hl
  refine lv_iload_n hx hb dX3_look_0 rfl (lv_at hl 1 rfl) ?_
  refine vp_callSi (W.runS (As := [.int p0]) (rest := []) ⟨hx, hb, hml, hown, hts⟩ (c_X3_isRow l p0) (va_cwS 1 hts (gi_S hbc tw_261 tw_262 tw_4 tw_263) rfl rfl rfl (by decide +kernel) ⟨Nat.le_of_ble_eq_true rfl, Nat.le_of_ble_eq_true rfl⟩) preEq rfl rfl hl.1 rfl (lv_room (Nat.le_of_ble_eq_true rfl)) dX3_look_1 ⟨Nat.le_of_ble_eq_true rfl, Nat.le_of_ble_eq_true rfl⟩) (fun r hq => ?_)
  subst hq
  refine lv_if_eq (tgt := 16) hx hb dX3_look_4 (by decide) (fun c1 => ?_) (fun c1 => ?_)
  · refine lv_bipush (v := -2) hx hb dX3_look_16 (by decide) ?_
    exact W.iret hx hb hr (fun t9 ht9 hW => ⟨⟨_, u, rfl, Or.inr ⟨fun h => h.1 c1, rfl, rfl⟩, by rw [ht9]; exact hP, va_K.moved hW.alike hK, hD⟩, hS.F ht9⟩) hS.2.2 dX3_look_18
  · have hj_p0 := row_lt (p := p0) c1
    refine lv_iload_n hx hb dX3_look_7 rfl (lv_at hl 2 rfl) ?_
    refine lv_if_lt (tgt := 16) hx hb dX3_look_8 (by decide) (fun c2 => ?_) (fun c2 => ?_)
    · refine lv_bipush (v := -2) hx hb dX3_look_16 (by decide) ?_
      exact W.iret hx hb hr (fun t9 ht9 hW => ⟨⟨_, u, rfl, Or.inr ⟨fun h => h.2.1 c2, rfl, rfl⟩, by rw [ht9]; exact hP, va_K.moved hW.alike hK, hD⟩, hS.F ht9⟩) hS.2.2 dX3_look_18
    · refine lv_iload_n hx hb dX3_look_11 rfl (lv_at hl 2 rfl) ?_
      refine lv_iconst (v := 2) hx hb dX3_look_12 (by decide) ?_
      refine lv_icmp_le (tgt := 19) hx hb dX3_look_13 (by decide) (fun c3 => ?_) (fun c3 => ?_)
      · refine lv_iload_n hx hb dX3_look_19 rfl (lv_at hl 2 rfl) ?_
        refine lv_if_ne (tgt := 31) hx hb dX3_look_20 (by decide) (fun c4 => ?_) (fun c4 => ?_)
        · refine lv_iload_n hx hb dX3_look_31 rfl (lv_at hl 2 rfl) ?_
          refine lv_iconst (v := 1) hx hb dX3_look_32 (by decide) ?_
          refine lv_icmp_ne (tgt := 44) hx hb dX3_look_33 (by decide) (fun c5 => ?_) (fun c5 => ?_)
          · refine lv_aload_n hx hb dX3_look_44 rfl (lv_at hl 0 rfl) ?_
            refine lv_iload_n hx hb dX3_look_45 rfl (lv_at hl 1 rfl) ?_
            refine gVi (As := [.int p0]) (rest := []) ⟨hx, hb, hml, hown, hts⟩ (c_X3_end l dC dI A u p0 hj_p0 (row_in (p := p0) c1)) (cwV 1 hts (gi_V hbc tw_305 tw_307 ts_5 tw_4 tw_308) rfl rfl rfl (by decide +kernel) ⟨Nat.le_of_ble_eq_true rfl, Nat.le_of_ble_eq_true rfl⟩) (va_recv hK hP (ci := 3) (q0 := 0) rfl rfl) aR_mono aR_D hP hK hD hS rfl hl.1 rfl (Nat.le_of_ble_eq_true rfl) dX3_look_46 ⟨Nat.le_of_ble_eq_true rfl, Nat.le_of_ble_eq_true rfl⟩ (fun r6 v8 H locs hq7 hP hD hS => ?_)
            obtain ⟨hq7, rfl⟩ := hq7
            refine lv_if_ne (tgt := 56) hx hb dX3_look_49 (by decide) (fun c9 => ?_) (fun c9 => ?_)
            · refine lv_iconst (v := 0) hx hb dX3_look_56 (by decide) ?_
              exact W.iret hx hb hr (fun t9 ht9 hW => ⟨⟨_, u, rfl, Or.inl ⟨⟨c1, c2, c3⟩, ⟨Or.inr (Or.inr ⟨⟨c4, c5⟩, _, hq7, Or.inr ⟨c9, rfl⟩⟩), rfl⟩⟩, by rw [ht9]; exact hP, va_K.moved hW.alike hK, hD⟩, hS.F ht9⟩) hS.2.2 dX3_look_57
            · refine lv_iconst (v := 1) hx hb dX3_look_52 (by decide) ?_
              refine lv_goto (tgt := 57) hx hb dX3_look_53 (by decide) ?_
              exact W.iret hx hb hr (fun t9 ht9 hW => ⟨⟨_, u, rfl, Or.inl ⟨⟨c1, c2, c3⟩, ⟨Or.inr (Or.inr ⟨⟨c4, c5⟩, _, hq7, Or.inl ⟨c9, rfl⟩⟩), rfl⟩⟩, by rw [ht9]; exact hP, va_K.moved hW.alike hK, hD⟩, hS.F ht9⟩) hS.2.2 dX3_look_57
          · refine lv_aload_n hx hb dX3_look_36 rfl (lv_at hl 0 rfl) ?_
            refine lv_iload_n hx hb dX3_look_37 rfl (lv_at hl 1 rfl) ?_
            refine gVi (As := [.int p0]) (rest := []) ⟨hx, hb, hml, hown, hts⟩ (c_X3_end l dC dI A u p0 hj_p0 (row_in (p := p0) c1)) (cwV 1 hts (gi_V hbc tw_305 tw_307 ts_5 tw_4 tw_308) rfl rfl rfl (by decide +kernel) ⟨Nat.le_of_ble_eq_true rfl, Nat.le_of_ble_eq_true rfl⟩) (va_recv hK hP (ci := 3) (q0 := 0) rfl rfl) aR_mono aR_D hP hK hD hS rfl hl.1 rfl (Nat.le_of_ble_eq_true rfl) dX3_look_38 ⟨Nat.le_of_ble_eq_true rfl, Nat.le_of_ble_eq_true rfl⟩ (fun r10 v12 H locs hq11 hP hD hS => ?_)
            obtain ⟨hq11, rfl⟩ := hq11
            refine lv_goto (tgt := 57) hx hb dX3_look_41 (by decide) ?_
            exact W.iret hx hb hr (fun t9 ht9 hW => ⟨⟨_, u, rfl, Or.inl ⟨⟨c1, c2, c3⟩, ⟨Or.inr (Or.inl ⟨⟨c4, c5⟩, hq11⟩), rfl⟩⟩, by rw [ht9]; exact hP, va_K.moved hW.alike hK, hD⟩, hS.F ht9⟩) hS.2.2 dX3_look_57
        · refine lv_aload_n hx hb dX3_look_23 rfl (lv_at hl 0 rfl) ?_
          refine lv_iload_n hx hb dX3_look_24 rfl (lv_at hl 1 rfl) ?_
          refine gVi (As := [.int p0]) (rest := []) ⟨hx, hb, hml, hown, hts⟩ (c_X3_ones l dC dI A u p0 hj_p0 (row_in (p := p0) c1)) (cwV 1 hts (gi_V hbc tw_277 tw_279 ts_4 tw_4 tw_280) rfl rfl rfl (by decide +kernel) ⟨Nat.le_of_ble_eq_true rfl, Nat.le_of_ble_eq_true rfl⟩) (va_recv hK hP (ci := 3) (q0 := 0) rfl rfl) aR_mono aR_D hP hK hD hS rfl hl.1 rfl (Nat.le_of_ble_eq_true rfl) dX3_look_25 ⟨Nat.le_of_ble_eq_true rfl, Nat.le_of_ble_eq_true rfl⟩ (fun r13 v15 H locs hq14 hP hD hS => ?_)
          obtain ⟨rfl, rfl⟩ := hq14
          refine lv_goto (tgt := 57) hx hb dX3_look_28 (by decide) ?_
          exact W.iret hx hb hr (fun t9 ht9 hW => ⟨⟨_, u, rfl, Or.inl ⟨⟨c1, c2, c3⟩, ⟨Or.inl ⟨c4, rfl⟩, rfl⟩⟩, by rw [ht9]; exact hP, va_K.moved hW.alike hK, hD⟩, hS.F ht9⟩) hS.2.2 dX3_look_57
      · refine lv_bipush (v := -2) hx hb dX3_look_16 (by decide) ?_
        exact W.iret hx hb hr (fun t9 ht9 hW => ⟨⟨_, u, rfl, Or.inr ⟨fun h => c3 h.2.2, rfl, rfl⟩, by rw [ht9]; exact hP, va_K.moved hW.alike hK, hD⟩, hS.F ht9⟩) hS.2.2 dX3_look_18
set_option maxHeartbeats 4000000 in
set_option maxRecDepth 100000 in
theorem c_X3_meet (l : Launch) (dC : Nat → ClassId) (dI : Nat → Nat → Nat) (A : AdR) (u : StR)  (p0 : Int32) (p1 : Int32) (p2 : Int32) : gMi l yX3_meet wX3_meet ({ frames := 1, cells := 0, slots := 0, locals := 20 }) (dC, dI) bwCl (tyR A) (wR A) (aR A) [.ref (mh_ A), .int p0, .int p1, .int p2] u (fun r v => ((¬ (fX3_isRow p0) = 0 ∧ ¬ p1 < 0 ∧ ¬ 1 < p1 ∧ ¬ (fX3_isRow p2) = 0) ∧ ((p1 = 0 ∧ r = b01 (anB (u.1 p0.toNatClampNeg) (u.1 p2.toNatClampNeg) 4032)) ∨ (¬ p1 = 0 ∧ r = b01 (alB (u.1 p0.toNatClampNeg) (u.1 p2.toNatClampNeg) 4032))) ∧ u = v) ∨ (¬ (¬ (fX3_isRow p0) = 0 ∧ ¬ p1 < 0 ∧ ¬ 1 < p1 ∧ ¬ (fX3_isRow p2) = 0) ∧ r = -2 ∧ u = v)) := by
  unfold gMi
  intro sz
  refine Met.ofW (cc := cX3_meet) (maxL := 7) (ret := (some .int)) (by decide) rfl ?_
  intro p e s m args below meth c s₁ B hml hv
  obtain ⟨rfl, hsz, hP, hK, hD⟩ := hv
  subst hsz
  have hS : va_S (aR A s.heap.size) s.heap s.heap [] := va_S.rf
  have hx := B.exec
  have hb := B.bytes
  have hr := B.returns
  have hts := atoms_spec (ws := wX3_meet) B.pre
  have hw : ∀ w ∈ tg_, w.before _ s = true := fun w h => hts w (List.mem_cons_of_mem _ h)
  have hown : s.vm.findClass RX3 = some m.cls := findClass_of_methodNamed B.named
  have hlocks := B.notSynchronized
  have hl := lv_entry ([.ref (mh_ A), .int p0, .int p1, .int p2]) (n := 7) (Nat.le_of_ble_eq_true rfl)
  rw [lg_entry_eq]
  generalize (lg_sl ([.ref (mh_ A), .int p0, .int p1, .int p2]) ++ List.replicate (7 - (lg_sl ([.ref (mh_ A), .int p0, .int p1, .int p2])).length) Slot.unset).toArray = ls at hl ⊢
  have hl : lv_has ls 7 [(0, .ref (mh_ A)), (1, .int p0), (2, .int p1), (3, .int p2)] := hl
  refine lv_iload_n hx hb dX3_meet_0 rfl (lv_at hl 1 rfl) ?_
  refine vp_callSi (W.runS (As := [.int p0]) (rest := []) ⟨hx, hb, hml, hown, hts⟩ (c_X3_isRow l p0) (va_cwS 1 hts (gi_S hbc tw_261 tw_262 tw_4 tw_263) rfl rfl rfl (by decide +kernel) ⟨Nat.le_of_ble_eq_true rfl, Nat.le_of_ble_eq_true rfl⟩) preEq rfl rfl hl.1 rfl (lv_room (Nat.le_of_ble_eq_true rfl)) dX3_meet_1 ⟨Nat.le_of_ble_eq_true rfl, Nat.le_of_ble_eq_true rfl⟩) (fun r hq => ?_)
  subst hq
  refine lv_if_eq (tgt := 23) hx hb dX3_meet_4 (by decide) (fun c1 => ?_) (fun c1 => ?_)
  · refine lv_bipush (v := -2) hx hb dX3_meet_23 (by decide) ?_
    exact W.iret hx hb hr (fun t9 ht9 hW => ⟨⟨_, u, rfl, Or.inr ⟨fun h => h.1 c1, rfl, rfl⟩, by rw [ht9]; exact hP, va_K.moved hW.alike hK, hD⟩, hS.F ht9⟩) hS.2.2 dX3_meet_25
  · have hj_p0 := row_lt (p := p0) c1
    refine lv_iload_n hx hb dX3_meet_7 rfl (lv_at hl 2 rfl) ?_
    refine lv_if_lt (tgt := 23) hx hb dX3_meet_8 (by decide) (fun c2 => ?_) (fun c2 => ?_)
    · refine lv_bipush (v := -2) hx hb dX3_meet_23 (by decide) ?_
      exact W.iret hx hb hr (fun t9 ht9 hW => ⟨⟨_, u, rfl, Or.inr ⟨fun h => h.2.1 c2, rfl, rfl⟩, by rw [ht9]; exact hP, va_K.moved hW.alike hK, hD⟩, hS.F ht9⟩) hS.2.2 dX3_meet_25
    · refine lv_iload_n hx hb dX3_meet_11 rfl (lv_at hl 2 rfl) ?_
      refine lv_iconst (v := 1) hx hb dX3_meet_12 (by decide) ?_
      refine lv_icmp_gt (tgt := 23) hx hb dX3_meet_13 (by decide) (fun c3 => ?_) (fun c3 => ?_)
      · refine lv_bipush (v := -2) hx hb dX3_meet_23 (by decide) ?_
        exact W.iret hx hb hr (fun t9 ht9 hW => ⟨⟨_, u, rfl, Or.inr ⟨fun h => h.2.2.1 c3, rfl, rfl⟩, by rw [ht9]; exact hP, va_K.moved hW.alike hK, hD⟩, hS.F ht9⟩) hS.2.2 dX3_meet_25
      · refine lv_iload_n hx hb dX3_meet_16 rfl (lv_at hl 3 rfl) ?_
        refine vp_callSi (W.runS (As := [.int p2]) (rest := []) ⟨hx, hb, hml, hown, hts⟩ (c_X3_isRow l p2) (va_cwS 1 hts (gi_S hbc tw_261 tw_262 tw_4 tw_263) rfl rfl rfl (by decide +kernel) ⟨Nat.le_of_ble_eq_true rfl, Nat.le_of_ble_eq_true rfl⟩) preEq rfl rfl hl.1 rfl (lv_room (Nat.le_of_ble_eq_true rfl)) dX3_meet_17 ⟨Nat.le_of_ble_eq_true rfl, Nat.le_of_ble_eq_true rfl⟩) (fun r hq => ?_)
        subst hq
        refine lv_if_ne (tgt := 26) hx hb dX3_meet_20 (by decide) (fun c4 => ?_) (fun c4 => ?_)
        · have hj_p2 := row_lt (p := p2) c4
          refine lv_iconst (v := 0) hx hb dX3_meet_26 (by decide) ?_
          refine lv_istore (lv' := [(4, .int 0), (0, .ref (mh_ A)), (1, .int p0), (2, .int p1), (3, .int p2)]) hx hb dX3_meet_27 hl (by decide) rfl (fun ls hl => ?_)
          refine lv_iconst (v := 1) hx hb dX3_meet_29 (by decide) ?_
          refine lv_istore (lv' := [(5, .int 1), (4, .int 0), (0, .ref (mh_ A)), (1, .int p0), (2, .int p1), (3, .int p2)]) hx hb dX3_meet_30 hl (by decide) rfl (fun ls hl => ?_)
          refine lv_iconst (v := 0) hx hb dX3_meet_32 (by decide) ?_
          refine lv_istore (lv' := [(6, .int 0), (5, .int 1), (4, .int 0), (0, .ref (mh_ A)), (1, .int p0), (2, .int p1), (3, .int p2)]) hx hb dX3_meet_33 hl (by decide) rfl (fun ls hl => ?_)
          have hu_i : u = u := rfl
          refine w_loop (N := 4032) (i0 := 0) (fun i H locs ls => va_P (dC, dI) bwCl (wR A u) H ∧ va_D (aR A s.heap.size) (wR A u) ∧ va_S (aR A s.heap.size) s.heap H locs ∧ lv_has ls 7 [(0, .ref (mh_ A)), (1, .int p0), (2, .int p1), (3, .int p2), (4, .int (b01 (anB (u.1 p0.toNatClampNeg) (u.1 p2.toNatClampNeg) i))), (5, .int (b01 (alB (u.1 p0.toNatClampNeg) (u.1 p2.toNatClampNeg) i))), (6, .int (nI i))]) (by decide) ⟨tr_PR hu_i hP, tr_DR hu_i hD, hS, lv_sub hl [3, 4, 5, 6, 2, 1, 0] rfl⟩ ?_
          intro i H locs ls hz_i hi_i hI ih_i
          obtain ⟨hP, hD, hS, hl⟩ := hI
          refine lv_iload hx hb dX3_meet_35 (lv_at hl 6 rfl) ?_
          refine lv_sipush (v := 4032) hx hb dX3_meet_37 (by decide) ?_
          refine lv_icmp_ge (tgt := 118) hx hb dX3_meet_40 (by decide) (fun c5 => ?_) (fun c5 => ?_)
          · obtain rfl : i = 4032 := lp_out (n := 4032) rfl hi_i (by decide) c5
            refine lv_iload_n hx hb dX3_meet_118 rfl (lv_at hl 2 rfl) ?_
            refine lv_if_ne (tgt := 130) hx hb dX3_meet_119 (by decide) (fun c6 => ?_) (fun c6 => ?_)
            · refine lv_iload hx hb dX3_meet_130 (lv_at hl 5 rfl) ?_
              refine lv_if_eq (tgt := 139) hx hb dX3_meet_132 (by decide) (fun c7 => ?_) (fun c7 => ?_)
              · have c7 := b1f (b := _) c7
                refine lv_iconst (v := 0) hx hb dX3_meet_139 (by decide) ?_
                exact W.iret hx hb hr (fun t9 ht9 hW => ⟨⟨_, u, rfl, Or.inl ⟨⟨c1, c2, c3, c4⟩, ⟨Or.inr ⟨c6, by simp [b01, c7]⟩, rfl⟩⟩, by rw [ht9]; exact hP, va_K.moved hW.alike hK, hD⟩, hS.F ht9⟩) hS.2.2 dX3_meet_140
              · have c7 := b1t (b := _) c7
                refine lv_iconst (v := 1) hx hb dX3_meet_135 (by decide) ?_
                refine lv_goto (tgt := 140) hx hb dX3_meet_136 (by decide) ?_
                exact W.iret hx hb hr (fun t9 ht9 hW => ⟨⟨_, u, rfl, Or.inl ⟨⟨c1, c2, c3, c4⟩, ⟨Or.inr ⟨c6, by simp [b01, c7]⟩, rfl⟩⟩, by rw [ht9]; exact hP, va_K.moved hW.alike hK, hD⟩, hS.F ht9⟩) hS.2.2 dX3_meet_140
            · refine lv_iload hx hb dX3_meet_122 (lv_at hl 4 rfl) ?_
              refine lv_if_eq (tgt := 139) hx hb dX3_meet_124 (by decide) (fun c8 => ?_) (fun c8 => ?_)
              · have c8 := b1f (b := _) c8
                refine lv_iconst (v := 0) hx hb dX3_meet_139 (by decide) ?_
                exact W.iret hx hb hr (fun t9 ht9 hW => ⟨⟨_, u, rfl, Or.inl ⟨⟨c1, c2, c3, c4⟩, ⟨Or.inl ⟨c6, by simp [b01, c8]⟩, rfl⟩⟩, by rw [ht9]; exact hP, va_K.moved hW.alike hK, hD⟩, hS.F ht9⟩) hS.2.2 dX3_meet_140
              · have c8 := b1t (b := _) c8
                refine lv_goto (tgt := 135) hx hb dX3_meet_127 (by decide) ?_
                refine lv_iconst (v := 1) hx hb dX3_meet_135 (by decide) ?_
                refine lv_goto (tgt := 140) hx hb dX3_meet_136 (by decide) ?_
                exact W.iret hx hb hr (fun t9 ht9 hW => ⟨⟨_, u, rfl, Or.inl ⟨⟨c1, c2, c3, c4⟩, ⟨Or.inl ⟨c6, by simp [b01, c8]⟩, rfl⟩⟩, by rw [ht9]; exact hP, va_K.moved hW.alike hK, hD⟩, hS.F ht9⟩) hS.2.2 dX3_meet_140
          · have hlt_i : i < 4032 := lp_in (n := 4032) rfl hi_i c5
            refine lv_iload hx hb dX3_meet_43 (lv_at hl 4 rfl) ?_
            refine lv_if_ne (tgt := 72) hx hb dX3_meet_45 (by decide) (fun c9 => ?_) (fun c9 => ?_)
            · have c9 := b1t (b := _) c9
              refine lv_iconst (v := 1) hx hb dX3_meet_72 (by decide) ?_
              refine lv_goto (tgt := 77) hx hb dX3_meet_73 (by decide) ?_
              refine lv_topi (fun z10 ez10 => ?_)
              obtain rfl : z10 = b01 (anB (u.1 p0.toNatClampNeg) (u.1 p2.toNatClampNeg) (i + 1)) := ez10.trans (by simp [anB, b01, c9])
              refine lv_istore (lv' := [(4, .int (b01 (anB (u.1 p0.toNatClampNeg) (u.1 p2.toNatClampNeg) (i + 1)))), (0, .ref (mh_ A)), (1, .int p0), (2, .int p1), (3, .int p2), (5, .int (b01 (alB (u.1 p0.toNatClampNeg) (u.1 p2.toNatClampNeg) i))), (6, .int (nI i))]) hx hb dX3_meet_77 hl (by decide) rfl (fun ls hl => ?_)
              refine lv_iload hx hb dX3_meet_79 (lv_at hl 5 rfl) ?_
              refine lv_if_eq (tgt := 109) hx hb dX3_meet_81 (by decide) (fun c11 => ?_) (fun c11 => ?_)
              · have c11 := b1f (b := _) c11
                refine lv_iconst (v := 0) hx hb dX3_meet_109 (by decide) ?_
                refine lv_topi (fun z12 ez12 => ?_)
                obtain rfl : z12 = b01 (alB (u.1 p0.toNatClampNeg) (u.1 p2.toNatClampNeg) (i + 1)) := ez12.trans (by simp [alB, b01, c11])
                refine lv_istore (lv' := [(5, .int (b01 (alB (u.1 p0.toNatClampNeg) (u.1 p2.toNatClampNeg) (i + 1)))), (4, .int (b01 (anB (u.1 p0.toNatClampNeg) (u.1 p2.toNatClampNeg) (i + 1)))), (0, .ref (mh_ A)), (1, .int p0), (2, .int p1), (3, .int p2), (6, .int (nI i))]) hx hb dX3_meet_110 hl (by decide) rfl (fun ls hl => ?_)
                refine lv_iinc (v := nI (i + 1)) (lv' := [(6, .int (nI (i + 1))), (5, .int (b01 (alB (u.1 p0.toNatClampNeg) (u.1 p2.toNatClampNeg) (i + 1)))), (4, .int (b01 (anB (u.1 p0.toNatClampNeg) (u.1 p2.toNatClampNeg) (i + 1)))), (0, .ref (mh_ A)), (1, .int p0), (2, .int p1), (3, .int p2)]) hx hb dX3_meet_112 hl (k := 6) rfl (nI_1 _) (by decide) rfl (fun ls hl => ?_)
                refine lv_goto (tgt := 35) hx hb dX3_meet_115 (by decide) ?_
                have hv_i : u = u := rfl
                exact ih_i _ _ _ (by omega) ⟨tr_PR hv_i hP, tr_DR hv_i hD, hS, lv_sub hl [3, 4, 5, 6, 2, 1, 0] rfl⟩
              · have c11 := b1t (b := _) c11
                refine lv_aload_n hx hb dX3_meet_84 rfl (lv_at hl 1 rfl) ?_
                refine va_get (D := (dC, dI)) (ci := 3) (v := .ref (mq_ A)) (C := RX3) (T := TX3) (N := 4) hx hb hw igX3 hown hK hP 0 rfl rfl 0 (by decide) (hw _ tw_242) (fun _ h9 => h9) rfl dX3_meet_85 ?_
                refine lv_iload_n hx hb dX3_meet_88 rfl (lv_at hl 2 rfl) ?_
                refine va_aldz hx hb hK hP 1 0 rfl rfl (row_in (p := p0) c1) dX3_meet_89 ?_
                rw [mqF_at A hj_p0]
                refine lv_iload hx hb dX3_meet_90 (lv_at hl 6 rfl) ?_
                refine va_zald hx hb hK hP (4 + p0.toNatClampNeg) (3 + p0.toNatClampNeg) (wR_row A u hj_p0) (tyR_row A hj_p0) (vp_in_nI (by omega) (by omega)) dX3_meet_92 ?_
                rw [nI_clamp (n := i) (by omega)]
                refine lv_aload_n hx hb dX3_meet_93 rfl (lv_at hl 1 rfl) ?_
                refine va_get (D := (dC, dI)) (ci := 3) (v := .ref (mq_ A)) (C := RX3) (T := TX3) (N := 4) hx hb hw igX3 hown hK hP 0 rfl rfl 0 (by decide) (hw _ tw_242) (fun _ h9 => h9) rfl dX3_meet_94 ?_
                refine lv_iload_n hx hb dX3_meet_97 rfl (lv_at hl 4 rfl) ?_
                refine va_aldz hx hb hK hP 1 0 rfl rfl (row_in (p := p2) c4) dX3_meet_98 ?_
                rw [mqF_at A hj_p2]
                refine lv_iload hx hb dX3_meet_99 (lv_at hl 6 rfl) ?_
                refine va_zald hx hb hK hP (4 + p2.toNatClampNeg) (3 + p2.toNatClampNeg) (wR_row A u hj_p2) (tyR_row A hj_p2) (vp_in_nI (by omega) (by omega)) dX3_meet_101 ?_
                rw [nI_clamp (n := i) (by omega)]
                refine lv_icmp_ne (tgt := 109) hx hb dX3_meet_102 (by decide) (fun c13 => ?_) (fun c13 => ?_)
                · have c13 := b1_ne (b := _) (d := _) c13
                  refine lv_iconst (v := 0) hx hb dX3_meet_109 (by decide) ?_
                  refine lv_topi (fun z14 ez14 => ?_)
                  obtain rfl : z14 = b01 (alB (u.1 p0.toNatClampNeg) (u.1 p2.toNatClampNeg) (i + 1)) := ez14.trans (by simp [alB, b01, c11, c13])
                  refine lv_istore (lv' := [(5, .int (b01 (alB (u.1 p0.toNatClampNeg) (u.1 p2.toNatClampNeg) (i + 1)))), (4, .int (b01 (anB (u.1 p0.toNatClampNeg) (u.1 p2.toNatClampNeg) (i + 1)))), (0, .ref (mh_ A)), (1, .int p0), (2, .int p1), (3, .int p2), (6, .int (nI i))]) hx hb dX3_meet_110 hl (by decide) rfl (fun ls hl => ?_)
                  refine lv_iinc (v := nI (i + 1)) (lv' := [(6, .int (nI (i + 1))), (5, .int (b01 (alB (u.1 p0.toNatClampNeg) (u.1 p2.toNatClampNeg) (i + 1)))), (4, .int (b01 (anB (u.1 p0.toNatClampNeg) (u.1 p2.toNatClampNeg) (i + 1)))), (0, .ref (mh_ A)), (1, .int p0), (2, .int p1), (3, .int p2)]) hx hb dX3_meet_112 hl (k := 6) rfl (nI_1 _) (by decide) rfl (fun ls hl => ?_)
                  refine lv_goto (tgt := 35) hx hb dX3_meet_115 (by decide) ?_
                  have hv_i : u = u := rfl
                  exact ih_i _ _ _ (by omega) ⟨tr_PR hv_i hP, tr_DR hv_i hD, hS, lv_sub hl [3, 4, 5, 6, 2, 1, 0] rfl⟩
                · have c13 := b1_e (b := _) (d := _) c13
                  refine lv_iconst (v := 1) hx hb dX3_meet_105 (by decide) ?_
                  refine lv_goto (tgt := 110) hx hb dX3_meet_106 (by decide) ?_
                  refine lv_topi (fun z15 ez15 => ?_)
                  obtain rfl : z15 = b01 (alB (u.1 p0.toNatClampNeg) (u.1 p2.toNatClampNeg) (i + 1)) := ez15.trans (by simp [alB, b01, c11, c13])
                  refine lv_istore (lv' := [(5, .int (b01 (alB (u.1 p0.toNatClampNeg) (u.1 p2.toNatClampNeg) (i + 1)))), (4, .int (b01 (anB (u.1 p0.toNatClampNeg) (u.1 p2.toNatClampNeg) (i + 1)))), (0, .ref (mh_ A)), (1, .int p0), (2, .int p1), (3, .int p2), (6, .int (nI i))]) hx hb dX3_meet_110 hl (by decide) rfl (fun ls hl => ?_)
                  refine lv_iinc (v := nI (i + 1)) (lv' := [(6, .int (nI (i + 1))), (5, .int (b01 (alB (u.1 p0.toNatClampNeg) (u.1 p2.toNatClampNeg) (i + 1)))), (4, .int (b01 (anB (u.1 p0.toNatClampNeg) (u.1 p2.toNatClampNeg) (i + 1)))), (0, .ref (mh_ A)), (1, .int p0), (2, .int p1), (3, .int p2)]) hx hb dX3_meet_112 hl (k := 6) rfl (nI_1 _) (by decide) rfl (fun ls hl => ?_)
                  refine lv_goto (tgt := 35) hx hb dX3_meet_115 (by decide) ?_
                  have hv_i : u = u := rfl
                  exact ih_i _ _ _ (by omega) ⟨tr_PR hv_i hP, tr_DR hv_i hD, hS, lv_sub hl [3, 4, 5, 6, 2, 1, 0] rfl⟩
            · have c9 := b1f (b := _) c9
              refine lv_aload_n hx hb dX3_meet_48 rfl (lv_at hl 0 rfl) ?_
              refine va_get (D := (dC, dI)) (ci := 3) (v := .ref (mq_ A)) (C := RX3) (T := TX3) (N := 4) hx hb hw igX3 hown hK hP 0 rfl rfl 0 (by decide) (hw _ tw_242) (fun _ h9 => h9) rfl dX3_meet_49 ?_
              refine lv_iload_n hx hb dX3_meet_52 rfl (lv_at hl 1 rfl) ?_
              refine va_aldz hx hb hK hP 1 0 rfl rfl (row_in (p := p0) c1) dX3_meet_53 ?_
              rw [mqF_at A hj_p0]
              refine lv_iload hx hb dX3_meet_54 (lv_at hl 6 rfl) ?_
              refine va_zald hx hb hK hP (4 + p0.toNatClampNeg) (3 + p0.toNatClampNeg) (wR_row A u hj_p0) (tyR_row A hj_p0) (vp_in_nI (by omega) (by omega)) dX3_meet_56 ?_
              rw [nI_clamp (n := i) (by omega)]
              refine lv_if_eq (tgt := 76) hx hb dX3_meet_57 (by decide) (fun c16 => ?_) (fun c16 => ?_)
              · have c16 := b1f (b := _) c16
                refine lv_iconst (v := 0) hx hb dX3_meet_76 (by decide) ?_
                refine lv_topi (fun z17 ez17 => ?_)
                obtain rfl : z17 = b01 (anB (u.1 p0.toNatClampNeg) (u.1 p2.toNatClampNeg) (i + 1)) := ez17.trans (by simp [anB, b01, c9, c16])
                refine lv_istore (lv' := [(4, .int (b01 (anB (u.1 p0.toNatClampNeg) (u.1 p2.toNatClampNeg) (i + 1)))), (0, .ref (mh_ A)), (1, .int p0), (2, .int p1), (3, .int p2), (5, .int (b01 (alB (u.1 p0.toNatClampNeg) (u.1 p2.toNatClampNeg) i))), (6, .int (nI i))]) hx hb dX3_meet_77 hl (by decide) rfl (fun ls hl => ?_)
                refine lv_iload hx hb dX3_meet_79 (lv_at hl 5 rfl) ?_
                refine lv_if_eq (tgt := 109) hx hb dX3_meet_81 (by decide) (fun c18 => ?_) (fun c18 => ?_)
                · have c18 := b1f (b := _) c18
                  refine lv_iconst (v := 0) hx hb dX3_meet_109 (by decide) ?_
                  refine lv_topi (fun z19 ez19 => ?_)
                  obtain rfl : z19 = b01 (alB (u.1 p0.toNatClampNeg) (u.1 p2.toNatClampNeg) (i + 1)) := ez19.trans (by simp [alB, b01, c18])
                  refine lv_istore (lv' := [(5, .int (b01 (alB (u.1 p0.toNatClampNeg) (u.1 p2.toNatClampNeg) (i + 1)))), (4, .int (b01 (anB (u.1 p0.toNatClampNeg) (u.1 p2.toNatClampNeg) (i + 1)))), (0, .ref (mh_ A)), (1, .int p0), (2, .int p1), (3, .int p2), (6, .int (nI i))]) hx hb dX3_meet_110 hl (by decide) rfl (fun ls hl => ?_)
                  refine lv_iinc (v := nI (i + 1)) (lv' := [(6, .int (nI (i + 1))), (5, .int (b01 (alB (u.1 p0.toNatClampNeg) (u.1 p2.toNatClampNeg) (i + 1)))), (4, .int (b01 (anB (u.1 p0.toNatClampNeg) (u.1 p2.toNatClampNeg) (i + 1)))), (0, .ref (mh_ A)), (1, .int p0), (2, .int p1), (3, .int p2)]) hx hb dX3_meet_112 hl (k := 6) rfl (nI_1 _) (by decide) rfl (fun ls hl => ?_)
                  refine lv_goto (tgt := 35) hx hb dX3_meet_115 (by decide) ?_
                  have hv_i : u = u := rfl
                  exact ih_i _ _ _ (by omega) ⟨tr_PR hv_i hP, tr_DR hv_i hD, hS, lv_sub hl [3, 4, 5, 6, 2, 1, 0] rfl⟩
                · have c18 := b1t (b := _) c18
                  refine lv_aload_n hx hb dX3_meet_84 rfl (lv_at hl 1 rfl) ?_
                  refine va_get (D := (dC, dI)) (ci := 3) (v := .ref (mq_ A)) (C := RX3) (T := TX3) (N := 4) hx hb hw igX3 hown hK hP 0 rfl rfl 0 (by decide) (hw _ tw_242) (fun _ h9 => h9) rfl dX3_meet_85 ?_
                  refine lv_iload_n hx hb dX3_meet_88 rfl (lv_at hl 2 rfl) ?_
                  refine va_aldz hx hb hK hP 1 0 rfl rfl (row_in (p := p0) c1) dX3_meet_89 ?_
                  rw [mqF_at A hj_p0]
                  refine lv_iload hx hb dX3_meet_90 (lv_at hl 6 rfl) ?_
                  refine va_zald hx hb hK hP (4 + p0.toNatClampNeg) (3 + p0.toNatClampNeg) (wR_row A u hj_p0) (tyR_row A hj_p0) (vp_in_nI (by omega) (by omega)) dX3_meet_92 ?_
                  rw [nI_clamp (n := i) (by omega)]
                  refine lv_aload_n hx hb dX3_meet_93 rfl (lv_at hl 1 rfl) ?_
                  refine va_get (D := (dC, dI)) (ci := 3) (v := .ref (mq_ A)) (C := RX3) (T := TX3) (N := 4) hx hb hw igX3 hown hK hP 0 rfl rfl 0 (by decide) (hw _ tw_242) (fun _ h9 => h9) rfl dX3_meet_94 ?_
                  refine lv_iload_n hx hb dX3_meet_97 rfl (lv_at hl 4 rfl) ?_
                  refine va_aldz hx hb hK hP 1 0 rfl rfl (row_in (p := p2) c4) dX3_meet_98 ?_
                  rw [mqF_at A hj_p2]
                  refine lv_iload hx hb dX3_meet_99 (lv_at hl 6 rfl) ?_
                  refine va_zald hx hb hK hP (4 + p2.toNatClampNeg) (3 + p2.toNatClampNeg) (wR_row A u hj_p2) (tyR_row A hj_p2) (vp_in_nI (by omega) (by omega)) dX3_meet_101 ?_
                  rw [nI_clamp (n := i) (by omega)]
                  refine lv_icmp_ne (tgt := 109) hx hb dX3_meet_102 (by decide) (fun c20 => ?_) (fun c20 => ?_)
                  · have c20 := b1_ne (b := _) (d := _) c20
                    refine lv_iconst (v := 0) hx hb dX3_meet_109 (by decide) ?_
                    refine lv_topi (fun z21 ez21 => ?_)
                    obtain rfl : z21 = b01 (alB (u.1 p0.toNatClampNeg) (u.1 p2.toNatClampNeg) (i + 1)) := ez21.trans (by simp [alB, b01, c18, c20])
                    refine lv_istore (lv' := [(5, .int (b01 (alB (u.1 p0.toNatClampNeg) (u.1 p2.toNatClampNeg) (i + 1)))), (4, .int (b01 (anB (u.1 p0.toNatClampNeg) (u.1 p2.toNatClampNeg) (i + 1)))), (0, .ref (mh_ A)), (1, .int p0), (2, .int p1), (3, .int p2), (6, .int (nI i))]) hx hb dX3_meet_110 hl (by decide) rfl (fun ls hl => ?_)
                    refine lv_iinc (v := nI (i + 1)) (lv' := [(6, .int (nI (i + 1))), (5, .int (b01 (alB (u.1 p0.toNatClampNeg) (u.1 p2.toNatClampNeg) (i + 1)))), (4, .int (b01 (anB (u.1 p0.toNatClampNeg) (u.1 p2.toNatClampNeg) (i + 1)))), (0, .ref (mh_ A)), (1, .int p0), (2, .int p1), (3, .int p2)]) hx hb dX3_meet_112 hl (k := 6) rfl (nI_1 _) (by decide) rfl (fun ls hl => ?_)
                    refine lv_goto (tgt := 35) hx hb dX3_meet_115 (by decide) ?_
                    have hv_i : u = u := rfl
                    exact ih_i _ _ _ (by omega) ⟨tr_PR hv_i hP, tr_DR hv_i hD, hS, lv_sub hl [3, 4, 5, 6, 2, 1, 0] rfl⟩
                  · have c20 := b1_e (b := _) (d := _) c20
                    refine lv_iconst (v := 1) hx hb dX3_meet_105 (by decide) ?_
                    refine lv_goto (tgt := 110) hx hb dX3_meet_106 (by decide) ?_
                    refine lv_topi (fun z22 ez22 => ?_)
                    obtain rfl : z22 = b01 (alB (u.1 p0.toNatClampNeg) (u.1 p2.toNatClampNeg) (i + 1)) := ez22.trans (by simp [alB, b01, c18, c20])
                    refine lv_istore (lv' := [(5, .int (b01 (alB (u.1 p0.toNatClampNeg) (u.1 p2.toNatClampNeg) (i + 1)))), (4, .int (b01 (anB (u.1 p0.toNatClampNeg) (u.1 p2.toNatClampNeg) (i + 1)))), (0, .ref (mh_ A)), (1, .int p0), (2, .int p1), (3, .int p2), (6, .int (nI i))]) hx hb dX3_meet_110 hl (by decide) rfl (fun ls hl => ?_)
                    refine lv_iinc (v := nI (i + 1)) (lv' := [(6, .int (nI (i + 1))), (5, .int (b01 (alB (u.1 p0.toNatClampNeg) (u.1 p2.toNatClampNeg) (i + 1)))), (4, .int (b01 (anB (u.1 p0.toNatClampNeg) (u.1 p2.toNatClampNeg) (i + 1)))), (0, .ref (mh_ A)), (1, .int p0), (2, .int p1), (3, .int p2)]) hx hb dX3_meet_112 hl (k := 6) rfl (nI_1 _) (by decide) rfl (fun ls hl => ?_)
                    refine lv_goto (tgt := 35) hx hb dX3_meet_115 (by decide) ?_
                    have hv_i : u = u := rfl
                    exact ih_i _ _ _ (by omega) ⟨tr_PR hv_i hP, tr_DR hv_i hD, hS, lv_sub hl [3, 4, 5, 6, 2, 1, 0] rfl⟩
              · have c16 := b1t (b := _) c16
                refine lv_aload_n hx hb dX3_meet_60 rfl (lv_at hl 0 rfl) ?_
                refine va_get (D := (dC, dI)) (ci := 3) (v := .ref (mq_ A)) (C := RX3) (T := TX3) (N := 4) hx hb hw igX3 hown hK hP 0 rfl rfl 0 (by decide) (hw _ tw_242) (fun _ h9 => h9) rfl dX3_meet_61 ?_
                refine lv_iload_n hx hb dX3_meet_64 rfl (lv_at hl 3 rfl) ?_
                refine va_aldz hx hb hK hP 1 0 rfl rfl (row_in (p := p2) c4) dX3_meet_65 ?_
                rw [mqF_at A hj_p2]
                refine lv_iload hx hb dX3_meet_66 (lv_at hl 6 rfl) ?_
                refine va_zald hx hb hK hP (4 + p2.toNatClampNeg) (3 + p2.toNatClampNeg) (wR_row A u hj_p2) (tyR_row A hj_p2) (vp_in_nI (by omega) (by omega)) dX3_meet_68 ?_
                rw [nI_clamp (n := i) (by omega)]
                refine lv_if_eq (tgt := 76) hx hb dX3_meet_69 (by decide) (fun c23 => ?_) (fun c23 => ?_)
                · have c23 := b1f (b := _) c23
                  refine lv_iconst (v := 0) hx hb dX3_meet_76 (by decide) ?_
                  refine lv_topi (fun z24 ez24 => ?_)
                  obtain rfl : z24 = b01 (anB (u.1 p0.toNatClampNeg) (u.1 p2.toNatClampNeg) (i + 1)) := ez24.trans (by simp [anB, b01, c9, c16, c23])
                  refine lv_istore (lv' := [(4, .int (b01 (anB (u.1 p0.toNatClampNeg) (u.1 p2.toNatClampNeg) (i + 1)))), (0, .ref (mh_ A)), (1, .int p0), (2, .int p1), (3, .int p2), (5, .int (b01 (alB (u.1 p0.toNatClampNeg) (u.1 p2.toNatClampNeg) i))), (6, .int (nI i))]) hx hb dX3_meet_77 hl (by decide) rfl (fun ls hl => ?_)
                  refine lv_iload hx hb dX3_meet_79 (lv_at hl 5 rfl) ?_
                  refine lv_if_eq (tgt := 109) hx hb dX3_meet_81 (by decide) (fun c25 => ?_) (fun c25 => ?_)
                  · have c25 := b1f (b := _) c25
                    refine lv_iconst (v := 0) hx hb dX3_meet_109 (by decide) ?_
                    refine lv_topi (fun z26 ez26 => ?_)
                    obtain rfl : z26 = b01 (alB (u.1 p0.toNatClampNeg) (u.1 p2.toNatClampNeg) (i + 1)) := ez26.trans (by simp [alB, b01, c25])
                    refine lv_istore (lv' := [(5, .int (b01 (alB (u.1 p0.toNatClampNeg) (u.1 p2.toNatClampNeg) (i + 1)))), (4, .int (b01 (anB (u.1 p0.toNatClampNeg) (u.1 p2.toNatClampNeg) (i + 1)))), (0, .ref (mh_ A)), (1, .int p0), (2, .int p1), (3, .int p2), (6, .int (nI i))]) hx hb dX3_meet_110 hl (by decide) rfl (fun ls hl => ?_)
                    refine lv_iinc (v := nI (i + 1)) (lv' := [(6, .int (nI (i + 1))), (5, .int (b01 (alB (u.1 p0.toNatClampNeg) (u.1 p2.toNatClampNeg) (i + 1)))), (4, .int (b01 (anB (u.1 p0.toNatClampNeg) (u.1 p2.toNatClampNeg) (i + 1)))), (0, .ref (mh_ A)), (1, .int p0), (2, .int p1), (3, .int p2)]) hx hb dX3_meet_112 hl (k := 6) rfl (nI_1 _) (by decide) rfl (fun ls hl => ?_)
                    refine lv_goto (tgt := 35) hx hb dX3_meet_115 (by decide) ?_
                    have hv_i : u = u := rfl
                    exact ih_i _ _ _ (by omega) ⟨tr_PR hv_i hP, tr_DR hv_i hD, hS, lv_sub hl [3, 4, 5, 6, 2, 1, 0] rfl⟩
                  · have c25 := b1t (b := _) c25
                    refine lv_aload_n hx hb dX3_meet_84 rfl (lv_at hl 1 rfl) ?_
                    refine va_get (D := (dC, dI)) (ci := 3) (v := .ref (mq_ A)) (C := RX3) (T := TX3) (N := 4) hx hb hw igX3 hown hK hP 0 rfl rfl 0 (by decide) (hw _ tw_242) (fun _ h9 => h9) rfl dX3_meet_85 ?_
                    refine lv_iload_n hx hb dX3_meet_88 rfl (lv_at hl 2 rfl) ?_
                    refine va_aldz hx hb hK hP 1 0 rfl rfl (row_in (p := p0) c1) dX3_meet_89 ?_
                    rw [mqF_at A hj_p0]
                    refine lv_iload hx hb dX3_meet_90 (lv_at hl 6 rfl) ?_
                    refine va_zald hx hb hK hP (4 + p0.toNatClampNeg) (3 + p0.toNatClampNeg) (wR_row A u hj_p0) (tyR_row A hj_p0) (vp_in_nI (by omega) (by omega)) dX3_meet_92 ?_
                    rw [nI_clamp (n := i) (by omega)]
                    refine lv_aload_n hx hb dX3_meet_93 rfl (lv_at hl 1 rfl) ?_
                    refine va_get (D := (dC, dI)) (ci := 3) (v := .ref (mq_ A)) (C := RX3) (T := TX3) (N := 4) hx hb hw igX3 hown hK hP 0 rfl rfl 0 (by decide) (hw _ tw_242) (fun _ h9 => h9) rfl dX3_meet_94 ?_
                    refine lv_iload_n hx hb dX3_meet_97 rfl (lv_at hl 4 rfl) ?_
                    refine va_aldz hx hb hK hP 1 0 rfl rfl (row_in (p := p2) c4) dX3_meet_98 ?_
                    rw [mqF_at A hj_p2]
                    refine lv_iload hx hb dX3_meet_99 (lv_at hl 6 rfl) ?_
                    refine va_zald hx hb hK hP (4 + p2.toNatClampNeg) (3 + p2.toNatClampNeg) (wR_row A u hj_p2) (tyR_row A hj_p2) (vp_in_nI (by omega) (by omega)) dX3_meet_101 ?_
                    rw [nI_clamp (n := i) (by omega)]
                    refine lv_icmp_ne (tgt := 109) hx hb dX3_meet_102 (by decide) (fun c27 => ?_) (fun c27 => ?_)
                    · have c27 := b1_ne (b := _) (d := _) c27
                      refine lv_iconst (v := 0) hx hb dX3_meet_109 (by decide) ?_
                      refine lv_topi (fun z28 ez28 => ?_)
                      obtain rfl : z28 = b01 (alB (u.1 p0.toNatClampNeg) (u.1 p2.toNatClampNeg) (i + 1)) := ez28.trans (by simp [alB, b01, c25, c27])
                      refine lv_istore (lv' := [(5, .int (b01 (alB (u.1 p0.toNatClampNeg) (u.1 p2.toNatClampNeg) (i + 1)))), (4, .int (b01 (anB (u.1 p0.toNatClampNeg) (u.1 p2.toNatClampNeg) (i + 1)))), (0, .ref (mh_ A)), (1, .int p0), (2, .int p1), (3, .int p2), (6, .int (nI i))]) hx hb dX3_meet_110 hl (by decide) rfl (fun ls hl => ?_)
                      refine lv_iinc (v := nI (i + 1)) (lv' := [(6, .int (nI (i + 1))), (5, .int (b01 (alB (u.1 p0.toNatClampNeg) (u.1 p2.toNatClampNeg) (i + 1)))), (4, .int (b01 (anB (u.1 p0.toNatClampNeg) (u.1 p2.toNatClampNeg) (i + 1)))), (0, .ref (mh_ A)), (1, .int p0), (2, .int p1), (3, .int p2)]) hx hb dX3_meet_112 hl (k := 6) rfl (nI_1 _) (by decide) rfl (fun ls hl => ?_)
                      refine lv_goto (tgt := 35) hx hb dX3_meet_115 (by decide) ?_
                      have hv_i : u = u := rfl
                      exact ih_i _ _ _ (by omega) ⟨tr_PR hv_i hP, tr_DR hv_i hD, hS, lv_sub hl [3, 4, 5, 6, 2, 1, 0] rfl⟩
                    · have c27 := b1_e (b := _) (d := _) c27
                      refine lv_iconst (v := 1) hx hb dX3_meet_105 (by decide) ?_
                      refine lv_goto (tgt := 110) hx hb dX3_meet_106 (by decide) ?_
                      refine lv_topi (fun z29 ez29 => ?_)
                      obtain rfl : z29 = b01 (alB (u.1 p0.toNatClampNeg) (u.1 p2.toNatClampNeg) (i + 1)) := ez29.trans (by simp [alB, b01, c25, c27])
                      refine lv_istore (lv' := [(5, .int (b01 (alB (u.1 p0.toNatClampNeg) (u.1 p2.toNatClampNeg) (i + 1)))), (4, .int (b01 (anB (u.1 p0.toNatClampNeg) (u.1 p2.toNatClampNeg) (i + 1)))), (0, .ref (mh_ A)), (1, .int p0), (2, .int p1), (3, .int p2), (6, .int (nI i))]) hx hb dX3_meet_110 hl (by decide) rfl (fun ls hl => ?_)
                      refine lv_iinc (v := nI (i + 1)) (lv' := [(6, .int (nI (i + 1))), (5, .int (b01 (alB (u.1 p0.toNatClampNeg) (u.1 p2.toNatClampNeg) (i + 1)))), (4, .int (b01 (anB (u.1 p0.toNatClampNeg) (u.1 p2.toNatClampNeg) (i + 1)))), (0, .ref (mh_ A)), (1, .int p0), (2, .int p1), (3, .int p2)]) hx hb dX3_meet_112 hl (k := 6) rfl (nI_1 _) (by decide) rfl (fun ls hl => ?_)
                      refine lv_goto (tgt := 35) hx hb dX3_meet_115 (by decide) ?_
                      have hv_i : u = u := rfl
                      exact ih_i _ _ _ (by omega) ⟨tr_PR hv_i hP, tr_DR hv_i hD, hS, lv_sub hl [3, 4, 5, 6, 2, 1, 0] rfl⟩
                · have c23 := b1t (b := _) c23
                  refine lv_iconst (v := 1) hx hb dX3_meet_72 (by decide) ?_
                  refine lv_goto (tgt := 77) hx hb dX3_meet_73 (by decide) ?_
                  refine lv_topi (fun z30 ez30 => ?_)
                  obtain rfl : z30 = b01 (anB (u.1 p0.toNatClampNeg) (u.1 p2.toNatClampNeg) (i + 1)) := ez30.trans (by simp [anB, b01, c9, c16, c23])
                  refine lv_istore (lv' := [(4, .int (b01 (anB (u.1 p0.toNatClampNeg) (u.1 p2.toNatClampNeg) (i + 1)))), (0, .ref (mh_ A)), (1, .int p0), (2, .int p1), (3, .int p2), (5, .int (b01 (alB (u.1 p0.toNatClampNeg) (u.1 p2.toNatClampNeg) i))), (6, .int (nI i))]) hx hb dX3_meet_77 hl (by decide) rfl (fun ls hl => ?_)
                  refine lv_iload hx hb dX3_meet_79 (lv_at hl 5 rfl) ?_
                  refine lv_if_eq (tgt := 109) hx hb dX3_meet_81 (by decide) (fun c31 => ?_) (fun c31 => ?_)
                  · have c31 := b1f (b := _) c31
                    refine lv_iconst (v := 0) hx hb dX3_meet_109 (by decide) ?_
                    refine lv_topi (fun z32 ez32 => ?_)
                    obtain rfl : z32 = b01 (alB (u.1 p0.toNatClampNeg) (u.1 p2.toNatClampNeg) (i + 1)) := ez32.trans (by simp [alB, b01, c31])
                    refine lv_istore (lv' := [(5, .int (b01 (alB (u.1 p0.toNatClampNeg) (u.1 p2.toNatClampNeg) (i + 1)))), (4, .int (b01 (anB (u.1 p0.toNatClampNeg) (u.1 p2.toNatClampNeg) (i + 1)))), (0, .ref (mh_ A)), (1, .int p0), (2, .int p1), (3, .int p2), (6, .int (nI i))]) hx hb dX3_meet_110 hl (by decide) rfl (fun ls hl => ?_)
                    refine lv_iinc (v := nI (i + 1)) (lv' := [(6, .int (nI (i + 1))), (5, .int (b01 (alB (u.1 p0.toNatClampNeg) (u.1 p2.toNatClampNeg) (i + 1)))), (4, .int (b01 (anB (u.1 p0.toNatClampNeg) (u.1 p2.toNatClampNeg) (i + 1)))), (0, .ref (mh_ A)), (1, .int p0), (2, .int p1), (3, .int p2)]) hx hb dX3_meet_112 hl (k := 6) rfl (nI_1 _) (by decide) rfl (fun ls hl => ?_)
                    refine lv_goto (tgt := 35) hx hb dX3_meet_115 (by decide) ?_
                    have hv_i : u = u := rfl
                    exact ih_i _ _ _ (by omega) ⟨tr_PR hv_i hP, tr_DR hv_i hD, hS, lv_sub hl [3, 4, 5, 6, 2, 1, 0] rfl⟩
                  · have c31 := b1t (b := _) c31
                    refine lv_aload_n hx hb dX3_meet_84 rfl (lv_at hl 1 rfl) ?_
                    refine va_get (D := (dC, dI)) (ci := 3) (v := .ref (mq_ A)) (C := RX3) (T := TX3) (N := 4) hx hb hw igX3 hown hK hP 0 rfl rfl 0 (by decide) (hw _ tw_242) (fun _ h9 => h9) rfl dX3_meet_85 ?_
                    refine lv_iload_n hx hb dX3_meet_88 rfl (lv_at hl 2 rfl) ?_
                    refine va_aldz hx hb hK hP 1 0 rfl rfl (row_in (p := p0) c1) dX3_meet_89 ?_
                    rw [mqF_at A hj_p0]
                    refine lv_iload hx hb dX3_meet_90 (lv_at hl 6 rfl) ?_
                    refine va_zald hx hb hK hP (4 + p0.toNatClampNeg) (3 + p0.toNatClampNeg) (wR_row A u hj_p0) (tyR_row A hj_p0) (vp_in_nI (by omega) (by omega)) dX3_meet_92 ?_
                    rw [nI_clamp (n := i) (by omega)]
                    refine lv_aload_n hx hb dX3_meet_93 rfl (lv_at hl 1 rfl) ?_
                    refine va_get (D := (dC, dI)) (ci := 3) (v := .ref (mq_ A)) (C := RX3) (T := TX3) (N := 4) hx hb hw igX3 hown hK hP 0 rfl rfl 0 (by decide) (hw _ tw_242) (fun _ h9 => h9) rfl dX3_meet_94 ?_
                    refine lv_iload_n hx hb dX3_meet_97 rfl (lv_at hl 4 rfl) ?_
                    refine va_aldz hx hb hK hP 1 0 rfl rfl (row_in (p := p2) c4) dX3_meet_98 ?_
                    rw [mqF_at A hj_p2]
                    refine lv_iload hx hb dX3_meet_99 (lv_at hl 6 rfl) ?_
                    refine va_zald hx hb hK hP (4 + p2.toNatClampNeg) (3 + p2.toNatClampNeg) (wR_row A u hj_p2) (tyR_row A hj_p2) (vp_in_nI (by omega) (by omega)) dX3_meet_101 ?_
                    rw [nI_clamp (n := i) (by omega)]
                    refine lv_icmp_ne (tgt := 109) hx hb dX3_meet_102 (by decide) (fun c33 => ?_) (fun c33 => ?_)
                    · have c33 := b1_ne (b := _) (d := _) c33
                      refine lv_iconst (v := 0) hx hb dX3_meet_109 (by decide) ?_
                      refine lv_topi (fun z34 ez34 => ?_)
                      obtain rfl : z34 = b01 (alB (u.1 p0.toNatClampNeg) (u.1 p2.toNatClampNeg) (i + 1)) := ez34.trans (by simp [alB, b01, c31, c33])
                      refine lv_istore (lv' := [(5, .int (b01 (alB (u.1 p0.toNatClampNeg) (u.1 p2.toNatClampNeg) (i + 1)))), (4, .int (b01 (anB (u.1 p0.toNatClampNeg) (u.1 p2.toNatClampNeg) (i + 1)))), (0, .ref (mh_ A)), (1, .int p0), (2, .int p1), (3, .int p2), (6, .int (nI i))]) hx hb dX3_meet_110 hl (by decide) rfl (fun ls hl => ?_)
                      refine lv_iinc (v := nI (i + 1)) (lv' := [(6, .int (nI (i + 1))), (5, .int (b01 (alB (u.1 p0.toNatClampNeg) (u.1 p2.toNatClampNeg) (i + 1)))), (4, .int (b01 (anB (u.1 p0.toNatClampNeg) (u.1 p2.toNatClampNeg) (i + 1)))), (0, .ref (mh_ A)), (1, .int p0), (2, .int p1), (3, .int p2)]) hx hb dX3_meet_112 hl (k := 6) rfl (nI_1 _) (by decide) rfl (fun ls hl => ?_)
                      refine lv_goto (tgt := 35) hx hb dX3_meet_115 (by decide) ?_
                      have hv_i : u = u := rfl
                      exact ih_i _ _ _ (by omega) ⟨tr_PR hv_i hP, tr_DR hv_i hD, hS, lv_sub hl [3, 4, 5, 6, 2, 1, 0] rfl⟩
                    · have c33 := b1_e (b := _) (d := _) c33
                      refine lv_iconst (v := 1) hx hb dX3_meet_105 (by decide) ?_
                      refine lv_goto (tgt := 110) hx hb dX3_meet_106 (by decide) ?_
                      refine lv_topi (fun z35 ez35 => ?_)
                      obtain rfl : z35 = b01 (alB (u.1 p0.toNatClampNeg) (u.1 p2.toNatClampNeg) (i + 1)) := ez35.trans (by simp [alB, b01, c31, c33])
                      refine lv_istore (lv' := [(5, .int (b01 (alB (u.1 p0.toNatClampNeg) (u.1 p2.toNatClampNeg) (i + 1)))), (4, .int (b01 (anB (u.1 p0.toNatClampNeg) (u.1 p2.toNatClampNeg) (i + 1)))), (0, .ref (mh_ A)), (1, .int p0), (2, .int p1), (3, .int p2), (6, .int (nI i))]) hx hb dX3_meet_110 hl (by decide) rfl (fun ls hl => ?_)
                      refine lv_iinc (v := nI (i + 1)) (lv' := [(6, .int (nI (i + 1))), (5, .int (b01 (alB (u.1 p0.toNatClampNeg) (u.1 p2.toNatClampNeg) (i + 1)))), (4, .int (b01 (anB (u.1 p0.toNatClampNeg) (u.1 p2.toNatClampNeg) (i + 1)))), (0, .ref (mh_ A)), (1, .int p0), (2, .int p1), (3, .int p2)]) hx hb dX3_meet_112 hl (k := 6) rfl (nI_1 _) (by decide) rfl (fun ls hl => ?_)
                      refine lv_goto (tgt := 35) hx hb dX3_meet_115 (by decide) ?_
                      have hv_i : u = u := rfl
                      exact ih_i _ _ _ (by omega) ⟨tr_PR hv_i hP, tr_DR hv_i hD, hS, lv_sub hl [3, 4, 5, 6, 2, 1, 0] rfl⟩
        · refine lv_bipush (v := -2) hx hb dX3_meet_23 (by decide) ?_
          exact W.iret hx hb hr (fun t9 ht9 hW => ⟨⟨_, u, rfl, Or.inr ⟨fun h => h.2.2.2 c4, rfl, rfl⟩, by rw [ht9]; exact hP, va_K.moved hW.alike hK, hD⟩, hS.F ht9⟩) hS.2.2 dX3_meet_25
set_option maxHeartbeats 4000000 in
set_option maxRecDepth 100000 in
theorem c_X3_walk (l : Launch) (dC : Nat → ClassId) (dI : Nat → Nat → Nat) (A : AdR) (u : StR)  (p0 : Int32) : gMl l yX3_walk wX3_walk ({ frames := 1, cells := 0, slots := 0, locals := 20 }) (dC, dI) bwCl (tyR A) (wR A) (aR A) [.ref (mh_ A), .int p0] u (fun r v => ((¬ (fX3_isRow p0) = 0) ∧ (r = lN (wkf (u.1 p0.toNatClampNeg) 0 4032 (0, 0)).2 ∧ u = v)) ∨ (¬ (¬ (fX3_isRow p0) = 0) ∧ r = 4611686018427387904 ∧ u = v)) := by
  unfold gMl
  intro sz
  refine Met.ofW (cc := cX3_walk) (maxL := 6) (ret := (some .long)) (by decide) rfl ?_
  intro p e s m args below meth c s₁ B hml hv
  obtain ⟨rfl, hsz, hP, hK, hD⟩ := hv
  subst hsz
  have hS : va_S (aR A s.heap.size) s.heap s.heap [] := va_S.rf
  have hx := B.exec
  have hb := B.bytes
  have hr := B.returns
  have hts := atoms_spec (ws := wX3_walk) B.pre
  have hw : ∀ w ∈ tg_, w.before _ s = true := fun w h => hts w (List.mem_cons_of_mem _ h)
  have hown : s.vm.findClass RX3 = some m.cls := findClass_of_methodNamed B.named
  have hlocks := B.notSynchronized
  have hl := lv_entry ([.ref (mh_ A), .int p0]) (n := 6) (Nat.le_of_ble_eq_true rfl)
  rw [lg_entry_eq]
  generalize (lg_sl ([.ref (mh_ A), .int p0]) ++ List.replicate (6 - (lg_sl ([.ref (mh_ A), .int p0])).length) Slot.unset).toArray = ls at hl ⊢
  have hl : lv_has ls 6 [(0, .ref (mh_ A)), (1, .int p0)] := hl
  refine lv_iload_n hx hb dX3_walk_0 rfl (lv_at hl 1 rfl) ?_
  refine vp_callSi (W.runS (As := [.int p0]) (rest := []) ⟨hx, hb, hml, hown, hts⟩ (c_X3_isRow l p0) (va_cwS 1 hts (gi_S hbc tw_261 tw_262 tw_4 tw_263) rfl rfl rfl (by decide +kernel) ⟨Nat.le_of_ble_eq_true rfl, Nat.le_of_ble_eq_true rfl⟩) preEq rfl rfl hl.1 rfl (lv_room (Nat.le_of_ble_eq_true rfl)) dX3_walk_1 ⟨Nat.le_of_ble_eq_true rfl, Nat.le_of_ble_eq_true rfl⟩) (fun r hq => ?_)
  subst hq
  refine lv_if_ne (tgt := 11) hx hb dX3_walk_4 (by decide) (fun c1 => ?_) (fun c1 => ?_)
  · have hj_p0 := row_lt (p := p0) c1
    refine lv_lconst (v := 0) hx hb dX3_walk_11 (by decide) ?_
    refine lv_lstore_n (lv' := [(2, .long 0), (0, .ref (mh_ A)), (1, .int p0)]) hx hb dX3_walk_12 rfl hl (by decide) rfl (fun ls hl => ?_)
    refine lv_iconst (v := 0) hx hb dX3_walk_13 (by decide) ?_
    refine lv_istore (lv' := [(4, .int 0), (2, .long 0), (0, .ref (mh_ A)), (1, .int p0)]) hx hb dX3_walk_14 hl (by decide) rfl (fun ls hl => ?_)
    refine lv_iconst (v := 0) hx hb dX3_walk_16 (by decide) ?_
    refine lv_istore (lv' := [(5, .int 0), (4, .int 0), (2, .long 0), (0, .ref (mh_ A)), (1, .int p0)]) hx hb dX3_walk_17 hl (by decide) rfl (fun ls hl => ?_)
    have hu_i : u = u := rfl
    refine w_loop (N := 4032) (i0 := 0) (fun i H locs ls => va_P (dC, dI) bwCl (wR A u) H ∧ va_D (aR A s.heap.size) (wR A u) ∧ va_S (aR A s.heap.size) s.heap H locs ∧ lv_has ls 6 [(0, .ref (mh_ A)), (1, .int p0), (2, .long (lN (wkf (u.1 p0.toNatClampNeg) 0 i (0, 0)).2)), (4, .int (nI (wkf (u.1 p0.toNatClampNeg) 0 i (0, 0)).1)), (5, .int (nI i))]) (by decide) ⟨tr_PR hu_i hP, tr_DR hu_i hD, hS, lv_sub hl [3, 4, 2, 1, 0] rfl⟩ ?_
    intro i H locs ls hz_i hi_i hI ih_i
    obtain ⟨hP, hD, hS, hl⟩ := hI
    refine lv_iload hx hb dX3_walk_19 (lv_at hl 4 rfl) ?_
    refine lv_sipush (v := 4032) hx hb dX3_walk_21 (by decide) ?_
    refine lv_icmp_ge (tgt := 61) hx hb dX3_walk_24 (by decide) (fun c2 => ?_) (fun c2 => ?_)
    · obtain rfl : i = 4032 := lp_out (n := 4032) rfl hi_i (by decide) c2
      refine lv_lload_n hx hb dX3_walk_61 rfl (lv_at hl 2 rfl) ?_
      exact W.lret hx hb hr (fun t9 ht9 hW => ⟨⟨_, u, rfl, Or.inl ⟨c1, ⟨rfl, rfl⟩⟩, by rw [ht9]; exact hP, va_K.moved hW.alike hK, hD⟩, hS.F ht9⟩) hS.2.2 dX3_walk_62
    · have hlt_i : i < 4032 := lp_in (n := 4032) rfl hi_i c2
      refine lv_aload_n hx hb dX3_walk_27 rfl (lv_at hl 0 rfl) ?_
      refine va_get (D := (dC, dI)) (ci := 3) (v := .ref (mq_ A)) (C := RX3) (T := TX3) (N := 4) hx hb hw igX3 hown hK hP 0 rfl rfl 0 (by decide) (hw _ tw_242) (fun _ h9 => h9) rfl dX3_walk_28 ?_
      refine lv_iload_n hx hb dX3_walk_31 rfl (lv_at hl 1 rfl) ?_
      refine va_aldz hx hb hK hP 1 0 rfl rfl (row_in (p := p0) c1) dX3_walk_32 ?_
      rw [mqF_at A hj_p0]
      refine lv_iload hx hb dX3_walk_33 (lv_at hl 4 rfl) ?_
      refine va_zald hx hb hK hP (4 + p0.toNatClampNeg) (3 + p0.toNatClampNeg) (wR_row A u hj_p0) (tyR_row A hj_p0) (vp_in_nI (by omega) (by omega)) dX3_walk_35 ?_
      rw [nI_clamp (n := i) (by omega)]
      refine lv_if_ne (tgt := 42) hx hb dX3_walk_36 (by decide) (fun c3 => ?_) (fun c3 => ?_)
      · have c3 := b1t (b := _) c3
        refine lv_iinc (v := nI (wkf (u.1 p0.toNatClampNeg) 0 (i + 1) (0, 0)).1) (lv' := [(4, .int (nI (wkf (u.1 p0.toNatClampNeg) 0 (i + 1) (0, 0)).1)), (0, .ref (mh_ A)), (1, .int p0), (2, .long (lN (wkf (u.1 p0.toNatClampNeg) 0 i (0, 0)).2)), (5, .int (nI i))]) hx hb dX3_walk_42 hl (k := 3) rfl (wk_r c3) (by decide) rfl (fun ls hl => ?_)
        refine lv_lload_n hx hb dX3_walk_45 rfl (lv_at hl 3 rfl) ?_
        refine lv_iload hx hb dX3_walk_46 (lv_at hl 4 rfl) ?_
        refine lv_i2l hx hb dX3_walk_48 rfl ?_
        refine lv_iload hx hb dX3_walk_49 (lv_at hl 0 rfl) ?_
        refine lv_i2l hx hb dX3_walk_51 rfl ?_
        refine lv_lmul hx hb dX3_walk_52 ?_
        refine lv_ladd hx hb dX3_walk_53 ?_
        refine lv_topl (fun z4 ez4 => ?_)
        obtain rfl : z4 = lN (wkf (u.1 p0.toNatClampNeg) 0 (i + 1) (0, 0)).2 := ez4.trans (wk_s (by omega) c3)
        refine lv_lstore_n (lv' := [(2, .long (lN (wkf (u.1 p0.toNatClampNeg) 0 (i + 1) (0, 0)).2)), (4, .int (nI (wkf (u.1 p0.toNatClampNeg) 0 (i + 1) (0, 0)).1)), (0, .ref (mh_ A)), (1, .int p0), (5, .int (nI i))]) hx hb dX3_walk_54 rfl hl (by decide) rfl (fun ls hl => ?_)
        refine lv_iinc (v := nI (i + 1)) (lv' := [(5, .int (nI (i + 1))), (2, .long (lN (wkf (u.1 p0.toNatClampNeg) 0 (i + 1) (0, 0)).2)), (4, .int (nI (wkf (u.1 p0.toNatClampNeg) 0 (i + 1) (0, 0)).1)), (0, .ref (mh_ A)), (1, .int p0)]) hx hb dX3_walk_55 hl (k := 4) rfl (nI_1 _) (by decide) rfl (fun ls hl => ?_)
        refine lv_goto (tgt := 19) hx hb dX3_walk_58 (by decide) ?_
        have hv_i : u = u := rfl
        exact ih_i _ _ _ (by omega) ⟨tr_PR hv_i hP, tr_DR hv_i hD, hS, lv_sub hl [3, 4, 1, 2, 0] rfl⟩
      · have c3 := b1f (b := _) c3
        refine lv_goto (tgt := 55) hx hb dX3_walk_39 (by decide) ?_
        refine lv_iinc (v := nI (i + 1)) (lv' := [(5, .int (nI (i + 1))), (0, .ref (mh_ A)), (1, .int p0), (2, .long (lN (wkf (u.1 p0.toNatClampNeg) 0 i (0, 0)).2)), (4, .int (nI (wkf (u.1 p0.toNatClampNeg) 0 i (0, 0)).1))]) hx hb dX3_walk_55 hl (k := 4) rfl (nI_1 _) (by decide) rfl (fun ls hl => ?_)
        refine lv_goto (tgt := 19) hx hb dX3_walk_58 (by decide) ?_
        have hv_i : u = u := rfl
        exact ih_i _ _ _ (by omega) ⟨tr_PR hv_i hP, tr_DR hv_i hD, hS, (by rw [wk_n c3]; exact lv_sub hl [1, 2, 3, 4, 0] rfl)⟩
  · refine lv_ldc2 (v := 4611686018427387904) hx hb hown (hw _ tw_317) dX3_walk_7 ?_
    exact W.lret hx hb hr (fun t9 ht9 hW => ⟨⟨_, u, rfl, Or.inr ⟨fun h => h c1, rfl, rfl⟩, by rw [ht9]; exact hP, va_K.moved hW.alike hK, hD⟩, hS.F ht9⟩) hS.2.2 dX3_walk_10
set_option maxHeartbeats 4000000 in
set_option maxRecDepth 100000 in
theorem c_X3_word (l : Launch) (dC : Nat → ClassId) (dI : Nat → Nat → Nat) (A : AdR) (u : StR)  (p0 : Int32) (p1 : Int32) : gMl l yX3_word wX3_word ({ frames := 1, cells := 0, slots := 0, locals := 20 }) (dC, dI) bwCl (tyR A) (wR A) (aR A) [.ref (mh_ A), .int p0, .int p1] u (fun r v => ((¬ (fX3_isRow p0) = 0 ∧ ¬ p1 < 0 ∧ p1 ≤ 62) ∧ (r = lN (hwN (wdG (u.1 p0.toNatClampNeg) p1.toNatClampNeg) 64) ∧ u = v)) ∨ (¬ (¬ (fX3_isRow p0) = 0 ∧ ¬ p1 < 0 ∧ p1 ≤ 62) ∧ r = 4611686018427387904 ∧ u = v)) := by
  unfold gMl
  intro sz
  refine Met.ofW (cc := cX3_word) (maxL := 6) (ret := (some .long)) (by decide) rfl ?_
  intro p e s m args below meth c s₁ B hml hv
  obtain ⟨rfl, hsz, hP, hK, hD⟩ := hv
  subst hsz
  have hS : va_S (aR A s.heap.size) s.heap s.heap [] := va_S.rf
  have hx := B.exec
  have hb := B.bytes
  have hr := B.returns
  have hts := atoms_spec (ws := wX3_word) B.pre
  have hw : ∀ w ∈ tg_, w.before _ s = true := fun w h => hts w (List.mem_cons_of_mem _ h)
  have hown : s.vm.findClass RX3 = some m.cls := findClass_of_methodNamed B.named
  have hlocks := B.notSynchronized
  have hl := lv_entry ([.ref (mh_ A), .int p0, .int p1]) (n := 6) (Nat.le_of_ble_eq_true rfl)
  rw [lg_entry_eq]
  generalize (lg_sl ([.ref (mh_ A), .int p0, .int p1]) ++ List.replicate (6 - (lg_sl ([.ref (mh_ A), .int p0, .int p1])).length) Slot.unset).toArray = ls at hl ⊢
  have hl : lv_has ls 6 [(0, .ref (mh_ A)), (1, .int p0), (2, .int p1)] := hl
  refine lv_iload_n hx hb dX3_word_0 rfl (lv_at hl 1 rfl) ?_
  refine vp_callSi (W.runS (As := [.int p0]) (rest := []) ⟨hx, hb, hml, hown, hts⟩ (c_X3_isRow l p0) (va_cwS 1 hts (gi_S hbc tw_261 tw_262 tw_4 tw_263) rfl rfl rfl (by decide +kernel) ⟨Nat.le_of_ble_eq_true rfl, Nat.le_of_ble_eq_true rfl⟩) preEq rfl rfl hl.1 rfl (lv_room (Nat.le_of_ble_eq_true rfl)) dX3_word_1 ⟨Nat.le_of_ble_eq_true rfl, Nat.le_of_ble_eq_true rfl⟩) (fun r hq => ?_)
  subst hq
  refine lv_if_eq (tgt := 17) hx hb dX3_word_4 (by decide) (fun c1 => ?_) (fun c1 => ?_)
  · refine lv_ldc2 (v := 4611686018427387904) hx hb hown (hw _ tw_317) dX3_word_17 ?_
    exact W.lret hx hb hr (fun t9 ht9 hW => ⟨⟨_, u, rfl, Or.inr ⟨fun h => h.1 c1, rfl, rfl⟩, by rw [ht9]; exact hP, va_K.moved hW.alike hK, hD⟩, hS.F ht9⟩) hS.2.2 dX3_word_20
  · have hj_p0 := row_lt (p := p0) c1
    refine lv_iload_n hx hb dX3_word_7 rfl (lv_at hl 2 rfl) ?_
    refine lv_if_lt (tgt := 17) hx hb dX3_word_8 (by decide) (fun c2 => ?_) (fun c2 => ?_)
    · refine lv_ldc2 (v := 4611686018427387904) hx hb hown (hw _ tw_317) dX3_word_17 ?_
      exact W.lret hx hb hr (fun t9 ht9 hW => ⟨⟨_, u, rfl, Or.inr ⟨fun h => h.2.1 c2, rfl, rfl⟩, by rw [ht9]; exact hP, va_K.moved hW.alike hK, hD⟩, hS.F ht9⟩) hS.2.2 dX3_word_20
    · refine lv_iload_n hx hb dX3_word_11 rfl (lv_at hl 2 rfl) ?_
      refine lv_bipush (v := 62) hx hb dX3_word_12 (by decide) ?_
      refine lv_icmp_le (tgt := 21) hx hb dX3_word_14 (by decide) (fun c3 => ?_) (fun c3 => ?_)
      · have hwn := wd_n c2 c3
        refine lv_lconst (v := 0) hx hb dX3_word_21 (by decide) ?_
        refine lv_lstore_n (lv' := [(3, .long 0), (0, .ref (mh_ A)), (1, .int p0), (2, .int p1)]) hx hb dX3_word_22 rfl hl (by decide) rfl (fun ls hl => ?_)
        refine lv_bipush (v := 63) hx hb dX3_word_23 (by decide) ?_
        refine lv_istore (lv' := [(5, .int 63), (3, .long 0), (0, .ref (mh_ A)), (1, .int p0), (2, .int p1)]) hx hb dX3_word_25 hl (by decide) rfl (fun ls hl => ?_)
        refine w_loopD (N := 64) (fun i H locs ls => va_P (dC, dI) bwCl (wR A u) H ∧ va_D (aR A s.heap.size) (wR A u) ∧ va_S (aR A s.heap.size) s.heap H locs ∧ lv_has ls 6 [(0, .ref (mh_ A)), (1, .int p0), (2, .int p1), (3, .long (lN (hwN (wdG (u.1 p0.toNatClampNeg) p1.toNatClampNeg) (64 - i)))), (5, .int (iD i))] ∧ True) ⟨hP, hD, hS, lv_sub hl [2, 3, 4, 1, 0] rfl, trivial⟩ ?_ ?_
        · intro H locs ls hI
          obtain ⟨hP, hD, hS, hl, hF⟩ := hI
          have hl : lv_has ls 6 [(0, .ref (mh_ A)), (1, .int p0), (2, .int p1), (3, .long (lN (hwN (wdG (u.1 p0.toNatClampNeg) p1.toNatClampNeg) (64 - 0)))), (5, .int (-1))] := hl
          refine lv_iload hx hb dX3_word_27 (lv_at hl 4 rfl) ?_
          refine lv_if_lt (tgt := 67) hx hb dX3_word_29 (by decide) (fun c4 => ?_) (fun c4 => ?_)
          · refine lv_lload_n hx hb dX3_word_67 rfl (lv_at hl 3 rfl) ?_
            exact W.lret hx hb hr (fun t9 ht9 hW => ⟨⟨_, u, rfl, Or.inl ⟨⟨c1, c2, c3⟩, ⟨rfl, rfl⟩⟩, by rw [ht9]; exact hP, va_K.moved hW.alike hK, hD⟩, hS.F ht9⟩) hS.2.2 dX3_word_68
          · exact absurd (by decide) c4
        · intro i H locs ls hlt hI ih
          obtain ⟨hP, hD, hS, hl, hF⟩ := hI
          have hl : lv_has ls 6 [(0, .ref (mh_ A)), (1, .int p0), (2, .int p1), (3, .long (lN (hwN (wdG (u.1 p0.toNatClampNeg) p1.toNatClampNeg) (64 - (i + 1))))), (5, .int (nI i))] := hl
          refine lv_iload hx hb dX3_word_27 (lv_at hl 4 rfl) ?_
          refine lv_if_lt (tgt := 67) hx hb dX3_word_29 (by decide) (fun c5 => ?_) (fun c5 => ?_)
          · exact absurd c5 (nI_pos (by omega))
          · refine lv_ldc2 (v := 2) hx hb hown (hw _ tw_318) dX3_word_32 ?_
            refine lv_lload_n hx hb dX3_word_35 rfl (lv_at hl 3 rfl) ?_
            refine lv_lmul hx hb dX3_word_36 ?_
            refine lv_aload_n hx hb dX3_word_37 rfl (lv_at hl 0 rfl) ?_
            refine va_get (D := (dC, dI)) (ci := 3) (v := .ref (mq_ A)) (C := RX3) (T := TX3) (N := 4) hx hb hw igX3 hown hK hP 0 rfl rfl 0 (by decide) (hw _ tw_242) (fun _ h9 => h9) rfl dX3_word_38 ?_
            refine lv_iload_n hx hb dX3_word_41 rfl (lv_at hl 1 rfl) ?_
            refine va_aldz hx hb hK hP 1 0 rfl rfl (row_in (p := p0) c1) dX3_word_42 ?_
            rw [mqF_at A hj_p0]
            refine lv_bipush (v := 64) hx hb dX3_word_43 (by decide) ?_
            refine lv_iload_n hx hb dX3_word_45 rfl (lv_at hl 2 rfl) ?_
            refine lv_imul hx hb dX3_word_46 ?_
            refine lv_iload hx hb dX3_word_47 (lv_at hl 4 rfl) ?_
            refine lv_iadd hx hb dX3_word_49 ?_
            refine lv_topi (fun z6 ez6 => ?_)
            obtain rfl : z6 = nI (64 * p1.toNatClampNeg + i) := ez6.trans (wd_ix hwn)
            refine va_zald hx hb hK hP (4 + p0.toNatClampNeg) (3 + p0.toNatClampNeg) (wR_row A u hj_p0) (tyR_row A hj_p0) (vp_in_nI (by omega) (by omega)) dX3_word_50 ?_
            rw [nI_clamp (n := (64 * p1.toNatClampNeg + i)) (by omega)]
            refine lv_if_eq (tgt := 58) hx hb dX3_word_51 (by decide) (fun c7 => ?_) (fun c7 => ?_)
            · have c7 := b1f (b := _) c7
              refine lv_lconst (v := 0) hx hb dX3_word_58 (by decide) ?_
              refine lv_ladd hx hb dX3_word_59 ?_
              refine lv_topl (fun z8 ez8 => ?_)
              obtain rfl : z8 = lN (hwN (wdG (u.1 p0.toNatClampNeg) p1.toNatClampNeg) (64 - i)) := ez8.trans (hw_0 hlt c7)
              refine lv_lstore_n (lv' := [(3, .long (lN (hwN (wdG (u.1 p0.toNatClampNeg) p1.toNatClampNeg) (64 - i)))), (0, .ref (mh_ A)), (1, .int p0), (2, .int p1), (5, .int (nI i))]) hx hb dX3_word_60 rfl hl (by decide) rfl (fun ls hl => ?_)
              refine lv_iinc (v := iD i) (lv' := [(5, .int (iD i)), (3, .long (lN (hwN (wdG (u.1 p0.toNatClampNeg) p1.toNatClampNeg) (64 - i)))), (0, .ref (mh_ A)), (1, .int p0), (2, .int p1)]) hx hb dX3_word_61 hl (k := 4) rfl (iD_m1 _) (by decide) rfl (fun ls hl => ?_)
              refine lv_goto (tgt := 27) hx hb dX3_word_64 (by decide) ?_
              exact ih _ _ _ ⟨hP, hD, hS, lv_sub hl [2, 3, 4, 1, 0] rfl, trivial⟩
            · have c7 := b1t (b := _) c7
              refine lv_lconst (v := 1) hx hb dX3_word_54 (by decide) ?_
              refine lv_goto (tgt := 59) hx hb dX3_word_55 (by decide) ?_
              refine lv_ladd hx hb dX3_word_59 ?_
              refine lv_topl (fun z9 ez9 => ?_)
              obtain rfl : z9 = lN (hwN (wdG (u.1 p0.toNatClampNeg) p1.toNatClampNeg) (64 - i)) := ez9.trans (hw_1 hlt c7)
              refine lv_lstore_n (lv' := [(3, .long (lN (hwN (wdG (u.1 p0.toNatClampNeg) p1.toNatClampNeg) (64 - i)))), (0, .ref (mh_ A)), (1, .int p0), (2, .int p1), (5, .int (nI i))]) hx hb dX3_word_60 rfl hl (by decide) rfl (fun ls hl => ?_)
              refine lv_iinc (v := iD i) (lv' := [(5, .int (iD i)), (3, .long (lN (hwN (wdG (u.1 p0.toNatClampNeg) p1.toNatClampNeg) (64 - i)))), (0, .ref (mh_ A)), (1, .int p0), (2, .int p1)]) hx hb dX3_word_61 hl (k := 4) rfl (iD_m1 _) (by decide) rfl (fun ls hl => ?_)
              refine lv_goto (tgt := 27) hx hb dX3_word_64 (by decide) ?_
              exact ih _ _ _ ⟨hP, hD, hS, lv_sub hl [2, 3, 4, 1, 0] rfl, trivial⟩
      · refine lv_ldc2 (v := 4611686018427387904) hx hb hown (hw _ tw_317) dX3_word_17 ?_
        exact W.lret hx hb hr (fun t9 ht9 hW => ⟨⟨_, u, rfl, Or.inr ⟨fun h => c3 h.2.2, rfl, rfl⟩, by rw [ht9]; exact hP, va_K.moved hW.alike hK, hD⟩, hS.F ht9⟩) hS.2.2 dX3_word_20
set_option maxHeartbeats 4000000 in
set_option maxRecDepth 100000 in
theorem c_X3_next (l : Launch) (dC : Nat → ClassId) (dI : Nat → Nat → Nat) (A : AdR) (u : StR)  (p0 : Int32) (p1 : Int32) (p2 : Int32) : gMi l yX3_next wX3_next ({ frames := 1, cells := 0, slots := 0, locals := 20 }) (dC, dI) bwCl (tyR A) (wR A) (aR A) [.ref (mh_ A), .int p0, .int p1, .int p2] u (fun r v => ((¬ (fX3_isRow p0) = 0 ∧ ¬ p1 < 0 ∧ ¬ 3 < p1 ∧ ¬ (fX3_isPlace p2) = 0) ∧ (((p1 - p1 / 2 * 2 = 0 ∧ ¬ 2 ≤ p1) ∧ fpG (u.1 p0.toNatClampNeg) true p2.toNatClampNeg (-1) r) ∨ ((¬ p1 - p1 / 2 * 2 = 0 ∧ ¬ 2 ≤ p1) ∧ fpG (u.1 p0.toNatClampNeg) false p2.toNatClampNeg 4032 r) ∨ ((p1 - p1 / 2 * 2 = 0 ∧ 2 ≤ p1) ∧ fpH (u.1 p0.toNatClampNeg) true p2.toNatClampNeg r) ∨ ((¬ p1 - p1 / 2 * 2 = 0 ∧ 2 ≤ p1) ∧ fpH (u.1 p0.toNatClampNeg) false p2.toNatClampNeg r)) ∧ u = v) ∨ (¬ (¬ (fX3_isRow p0) = 0 ∧ ¬ p1 < 0 ∧ ¬ 3 < p1 ∧ ¬ (fX3_isPlace p2) = 0) ∧ r = -2 ∧ u = v)) := by
  unfold gMi
  intro sz
  refine Met.ofW (cc := cX3_next) (maxL := 6) (ret := (some .int)) (by decide) rfl ?_
  intro p e s m args below meth c s₁ B hml hv
  obtain ⟨rfl, hsz, hP, hK, hD⟩ := hv
  subst hsz
  have hS : va_S (aR A s.heap.size) s.heap s.heap [] := va_S.rf
  have hx := B.exec
  have hb := B.bytes
  have hr := B.returns
  have hts := atoms_spec (ws := wX3_next) B.pre
  have hw : ∀ w ∈ tg_, w.before _ s = true := fun w h => hts w (List.mem_cons_of_mem _ h)
  have hown : s.vm.findClass RX3 = some m.cls := findClass_of_methodNamed B.named
  have hlocks := B.notSynchronized
  have hl := lv_entry ([.ref (mh_ A), .int p0, .int p1, .int p2]) (n := 6) (Nat.le_of_ble_eq_true rfl)
  rw [lg_entry_eq]
  generalize (lg_sl ([.ref (mh_ A), .int p0, .int p1, .int p2]) ++ List.replicate (6 - (lg_sl ([.ref (mh_ A), .int p0, .int p1, .int p2])).length) Slot.unset).toArray = ls at hl ⊢
  have hl : lv_has ls 6 [(0, .ref (mh_ A)), (1, .int p0), (2, .int p1), (3, .int p2)] := hl
  refine lv_iload_n hx hb dX3_next_0 rfl (lv_at hl 1 rfl) ?_
  refine vp_callSi (W.runS (As := [.int p0]) (rest := []) ⟨hx, hb, hml, hown, hts⟩ (c_X3_isRow l p0) (va_cwS 1 hts (gi_S hbc tw_261 tw_262 tw_4 tw_263) rfl rfl rfl (by decide +kernel) ⟨Nat.le_of_ble_eq_true rfl, Nat.le_of_ble_eq_true rfl⟩) preEq rfl rfl hl.1 rfl (lv_room (Nat.le_of_ble_eq_true rfl)) dX3_next_1 ⟨Nat.le_of_ble_eq_true rfl, Nat.le_of_ble_eq_true rfl⟩) (fun r hq => ?_)
  subst hq
  refine lv_if_eq (tgt := 23) hx hb dX3_next_4 (by decide) (fun c1 => ?_) (fun c1 => ?_)
  · refine lv_bipush (v := -2) hx hb dX3_next_23 (by decide) ?_
    exact W.iret hx hb hr (fun t9 ht9 hW => ⟨⟨_, u, rfl, Or.inr ⟨fun h => h.1 c1, rfl, rfl⟩, by rw [ht9]; exact hP, va_K.moved hW.alike hK, hD⟩, hS.F ht9⟩) hS.2.2 dX3_next_25
  · have hj_p0 := row_lt (p := p0) c1
    refine lv_iload_n hx hb dX3_next_7 rfl (lv_at hl 2 rfl) ?_
    refine lv_if_lt (tgt := 23) hx hb dX3_next_8 (by decide) (fun c2 => ?_) (fun c2 => ?_)
    · refine lv_bipush (v := -2) hx hb dX3_next_23 (by decide) ?_
      exact W.iret hx hb hr (fun t9 ht9 hW => ⟨⟨_, u, rfl, Or.inr ⟨fun h => h.2.1 c2, rfl, rfl⟩, by rw [ht9]; exact hP, va_K.moved hW.alike hK, hD⟩, hS.F ht9⟩) hS.2.2 dX3_next_25
    · refine lv_iload_n hx hb dX3_next_11 rfl (lv_at hl 2 rfl) ?_
      refine lv_iconst (v := 3) hx hb dX3_next_12 (by decide) ?_
      refine lv_icmp_gt (tgt := 23) hx hb dX3_next_13 (by decide) (fun c3 => ?_) (fun c3 => ?_)
      · refine lv_bipush (v := -2) hx hb dX3_next_23 (by decide) ?_
        exact W.iret hx hb hr (fun t9 ht9 hW => ⟨⟨_, u, rfl, Or.inr ⟨fun h => h.2.2.1 c3, rfl, rfl⟩, by rw [ht9]; exact hP, va_K.moved hW.alike hK, hD⟩, hS.F ht9⟩) hS.2.2 dX3_next_25
      · refine lv_iload_n hx hb dX3_next_16 rfl (lv_at hl 3 rfl) ?_
        refine vp_callSi (W.runS (As := [.int p2]) (rest := []) ⟨hx, hb, hml, hown, hts⟩ (c_X3_isPlace l p2) (va_cwS 1 hts (gi_S hbc tw_264 tw_265 tw_4 tw_266) rfl rfl rfl (by decide +kernel) ⟨Nat.le_of_ble_eq_true rfl, Nat.le_of_ble_eq_true rfl⟩) preEq rfl rfl hl.1 rfl (lv_room (Nat.le_of_ble_eq_true rfl)) dX3_next_17 ⟨Nat.le_of_ble_eq_true rfl, Nat.le_of_ble_eq_true rfl⟩) (fun r hq => ?_)
        subst hq
        refine lv_if_ne (tgt := 26) hx hb dX3_next_20 (by decide) (fun c4 => ?_) (fun c4 => ?_)
        · have hpl := pl_n c4
          refine lv_iload_n hx hb dX3_next_26 rfl (lv_at hl 2 rfl) ?_
          refine lv_iconst (v := 2) hx hb dX3_next_27 (by decide) ?_
          refine lv_irem hx hb dX3_next_28 (by decide) ?_
          refine lv_if_ne (tgt := 36) hx hb dX3_next_29 (by decide) (fun c5 => ?_) (fun c5 => ?_)
          · refine lv_iconst (v := 0) hx hb dX3_next_36 (by decide) ?_
            refine lv_istore (lv' := [(4, .int 0), (0, .ref (mh_ A)), (1, .int p0), (2, .int p1), (3, .int p2)]) hx hb dX3_next_37 hl (by decide) rfl (fun ls hl => ?_)
            refine lv_iload_n hx hb dX3_next_39 rfl (lv_at hl 3 rfl) ?_
            refine lv_iconst (v := 2) hx hb dX3_next_40 (by decide) ?_
            refine lv_icmp_ge (tgt := 101) hx hb dX3_next_41 (by decide) (fun c6 => ?_) (fun c6 => ?_)
            · refine lv_iload_n hx hb dX3_next_101 rfl (lv_at hl 4 rfl) ?_
              refine lv_topi (fun z7 ez7 => ?_)
              obtain rfl : z7 = nI p2.toNatClampNeg := ez7.trans hpl.1
              refine lv_istore (lv' := [(5, .int (nI p2.toNatClampNeg)), (4, .int 0), (0, .ref (mh_ A)), (1, .int p0), (2, .int p1), (3, .int p2)]) hx hb dX3_next_102 hl (by decide) rfl (fun ls hl => ?_)
              refine w_loopD (N := (p2.toNatClampNeg + 1)) (fun i H locs ls => va_P (dC, dI) bwCl (wR A u) H ∧ va_D (aR A s.heap.size) (wR A u) ∧ va_S (aR A s.heap.size) s.heap H locs ∧ lv_has ls 6 [(0, .ref (mh_ A)), (1, .int p0), (2, .int p1), (3, .int p2), (4, .int 0), (5, .int (iD i))] ∧ (∀ k, i ≤ k → k ≤ p2.toNatClampNeg → u.1 p0.toNatClampNeg k = true)) ⟨hP, hD, hS, lv_sub hl [2, 3, 4, 5, 1, 0] rfl, fun k h1 h2 => absurd h2 (by omega)⟩ ?_ ?_
              · intro H locs ls hI
                obtain ⟨hP, hD, hS, hl, hF⟩ := hI
                have hl : lv_has ls 6 [(0, .ref (mh_ A)), (1, .int p0), (2, .int p1), (3, .int p2), (4, .int 0), (5, .int (-1))] := hl
                refine lv_iload hx hb dX3_next_104 (lv_at hl 5 rfl) ?_
                refine lv_if_lt (tgt := 129) hx hb dX3_next_106 (by decide) (fun c8 => ?_) (fun c8 => ?_)
                · refine lv_iload hx hb dX3_next_129 (lv_at hl 5 rfl) ?_
                  exact W.iret hx hb hr (fun t9 ht9 hW => ⟨⟨_, u, rfl, Or.inl ⟨⟨c1, c2, c3, c4⟩, ⟨Or.inr (Or.inr (Or.inr (⟨⟨c5, c6⟩, Or.inr ⟨fun k hk => hF k (Nat.zero_le _) hk, rfl⟩⟩))), rfl⟩⟩, by rw [ht9]; exact hP, va_K.moved hW.alike hK, hD⟩, hS.F ht9⟩) hS.2.2 dX3_next_131
                · exact absurd (by decide) c8
              · intro i H locs ls hlt hI ih
                obtain ⟨hP, hD, hS, hl, hF⟩ := hI
                have hl : lv_has ls 6 [(0, .ref (mh_ A)), (1, .int p0), (2, .int p1), (3, .int p2), (4, .int 0), (5, .int (nI i))] := hl
                refine lv_iload hx hb dX3_next_104 (lv_at hl 5 rfl) ?_
                refine lv_if_lt (tgt := 129) hx hb dX3_next_106 (by decide) (fun c9 => ?_) (fun c9 => ?_)
                · exact absurd c9 (nI_pos (by omega))
                · refine lv_aload_n hx hb dX3_next_109 rfl (lv_at hl 0 rfl) ?_
                  refine va_get (D := (dC, dI)) (ci := 3) (v := .ref (mq_ A)) (C := RX3) (T := TX3) (N := 4) hx hb hw igX3 hown hK hP 0 rfl rfl 0 (by decide) (hw _ tw_242) (fun _ h9 => h9) rfl dX3_next_110 ?_
                  refine lv_iload_n hx hb dX3_next_113 rfl (lv_at hl 1 rfl) ?_
                  refine va_aldz hx hb hK hP 1 0 rfl rfl (row_in (p := p0) c1) dX3_next_114 ?_
                  rw [mqF_at A hj_p0]
                  refine lv_iload hx hb dX3_next_115 (lv_at hl 5 rfl) ?_
                  refine va_zald hx hb hK hP (4 + p0.toNatClampNeg) (3 + p0.toNatClampNeg) (wR_row A u hj_p0) (tyR_row A hj_p0) (vp_in_nI (by omega) (by omega)) dX3_next_117 ?_
                  rw [nI_clamp (n := i) (by omega)]
                  refine lv_iload hx hb dX3_next_118 (lv_at hl 4 rfl) ?_
                  refine lv_icmp_eq (tgt := 129) hx hb dX3_next_120 (by decide) (fun c10 => ?_) (fun c10 => ?_)
                  · have c10 := b1f (b := _) c10
                    refine lv_iload hx hb dX3_next_129 (lv_at hl 5 rfl) ?_
                    exact W.iret hx hb hr (fun t9 ht9 hW => ⟨⟨_, u, rfl, Or.inl ⟨⟨c1, c2, c3, c4⟩, ⟨Or.inr (Or.inr (Or.inr (⟨⟨c5, c6⟩, Or.inl ⟨i, by omega, c10, fun k h1 h2 => hF k h1 h2, rfl⟩⟩))), rfl⟩⟩, by rw [ht9]; exact hP, va_K.moved hW.alike hK, hD⟩, hS.F ht9⟩) hS.2.2 dX3_next_131
                  · have c10 := b1t (b := _) c10
                    refine lv_iinc (v := iD i) (lv' := [(5, .int (iD i)), (0, .ref (mh_ A)), (1, .int p0), (2, .int p1), (3, .int p2), (4, .int 0)]) hx hb dX3_next_123 hl (k := 5) rfl (iD_m1 _) (by decide) rfl (fun ls hl => ?_)
                    refine lv_goto (tgt := 104) hx hb dX3_next_126 (by decide) ?_
                    exact ih _ _ _ ⟨hP, hD, hS, lv_sub hl [1, 2, 3, 4, 5, 0] rfl, ny_s hF c10⟩
            · refine lv_iload_n hx hb dX3_next_44 rfl (lv_at hl 4 rfl) ?_
              refine lv_topi (fun z11 ez11 => ?_)
              obtain rfl : z11 = nI p2.toNatClampNeg := ez11.trans hpl.1
              refine lv_istore (lv' := [(5, .int (nI p2.toNatClampNeg)), (4, .int 0), (0, .ref (mh_ A)), (1, .int p0), (2, .int p1), (3, .int p2)]) hx hb dX3_next_45 hl (by decide) rfl (fun ls hl => ?_)
              have hu_i : u = u := rfl
              refine w_loop (N := 4032) (i0 := p2.toNatClampNeg) (fun i H locs ls => va_P (dC, dI) bwCl (wR A u) H ∧ va_D (aR A s.heap.size) (wR A u) ∧ va_S (aR A s.heap.size) s.heap H locs ∧ lv_has ls 6 [(0, .ref (mh_ A)), (1, .int p0), (2, .int p1), (3, .int p2), (4, .int 0), (5, .int (nI i))] ∧ (∀ k, p2.toNatClampNeg ≤ k → k < i → u.1 p0.toNatClampNeg k = true)) hpl.2.1 ⟨tr_PR hu_i hP, tr_DR hu_i hD, hS, lv_sub hl [2, 3, 4, 5, 1, 0] rfl, fun k h1 h2 => absurd h2 (by omega)⟩ ?_
              intro i H locs ls hz_i hi_i hI ih_i
              obtain ⟨hP, hD, hS, hl, hF_i⟩ := hI
              refine lv_iload hx hb dX3_next_47 (lv_at hl 5 rfl) ?_
              refine lv_sipush (v := 4032) hx hb dX3_next_49 (by decide) ?_
              refine lv_icmp_ge (tgt := 75) hx hb dX3_next_52 (by decide) (fun c12 => ?_) (fun c12 => ?_)
              · obtain rfl : i = 4032 := lp_out (n := 4032) rfl hi_i (by decide) c12
                refine lv_iload hx hb dX3_next_75 (lv_at hl 5 rfl) ?_
                refine lv_sipush (v := 4032) hx hb dX3_next_77 (by decide) ?_
                refine lv_icmp_ge (tgt := 88) hx hb dX3_next_80 (by decide) (fun c13 => ?_) (fun c13 => ?_)
                · refine lv_iload hx hb dX3_next_88 (lv_at hl 4 rfl) ?_
                  refine lv_if_eq (tgt := 97) hx hb dX3_next_90 (by decide) (fun c14 => ?_) (fun c14 => ?_)
                  · refine lv_sipush (v := 4032) hx hb dX3_next_97 (by decide) ?_
                    exact W.iret hx hb hr (fun t9 ht9 hW => ⟨⟨_, u, rfl, Or.inl ⟨⟨c1, c2, c3, c4⟩, ⟨Or.inr (Or.inl ⟨⟨c5, c6⟩, Or.inr ⟨hF_i, rfl⟩⟩), rfl⟩⟩, by rw [ht9]; exact hP, va_K.moved hW.alike hK, hD⟩, hS.F ht9⟩) hS.2.2 dX3_next_100
                  · exact absurd rfl c14
                · exact absurd (i_rf _) c13
              · have hlt_i : i < 4032 := lp_in (n := 4032) rfl hi_i c12
                refine lv_aload_n hx hb dX3_next_55 rfl (lv_at hl 0 rfl) ?_
                refine va_get (D := (dC, dI)) (ci := 3) (v := .ref (mq_ A)) (C := RX3) (T := TX3) (N := 4) hx hb hw igX3 hown hK hP 0 rfl rfl 0 (by decide) (hw _ tw_242) (fun _ h9 => h9) rfl dX3_next_56 ?_
                refine lv_iload_n hx hb dX3_next_59 rfl (lv_at hl 1 rfl) ?_
                refine va_aldz hx hb hK hP 1 0 rfl rfl (row_in (p := p0) c1) dX3_next_60 ?_
                rw [mqF_at A hj_p0]
                refine lv_iload hx hb dX3_next_61 (lv_at hl 5 rfl) ?_
                refine va_zald hx hb hK hP (4 + p0.toNatClampNeg) (3 + p0.toNatClampNeg) (wR_row A u hj_p0) (tyR_row A hj_p0) (vp_in_nI (by omega) (by omega)) dX3_next_63 ?_
                rw [nI_clamp (n := i) (by omega)]
                refine lv_iload hx hb dX3_next_64 (lv_at hl 4 rfl) ?_
                refine lv_icmp_eq (tgt := 75) hx hb dX3_next_66 (by decide) (fun c15 => ?_) (fun c15 => ?_)
                · have c15 := b1f (b := _) c15
                  refine lv_iload hx hb dX3_next_75 (lv_at hl 5 rfl) ?_
                  refine lv_sipush (v := 4032) hx hb dX3_next_77 (by decide) ?_
                  refine lv_icmp_ge (tgt := 88) hx hb dX3_next_80 (by decide) (fun c16 => ?_) (fun c16 => ?_)
                  · exact absurd c16 (nI_ge (b := 4032) hlt_i (by decide))
                  · refine lv_iload hx hb dX3_next_83 (lv_at hl 5 rfl) ?_
                    refine lv_goto (tgt := 100) hx hb dX3_next_85 (by decide) ?_
                    exact W.iret hx hb hr (fun t9 ht9 hW => ⟨⟨_, u, rfl, Or.inl ⟨⟨c1, c2, c3, c4⟩, ⟨Or.inr (Or.inl ⟨⟨c5, c6⟩, Or.inl ⟨i, hz_i, hlt_i, c15, hF_i, rfl⟩⟩), rfl⟩⟩, by rw [ht9]; exact hP, va_K.moved hW.alike hK, hD⟩, hS.F ht9⟩) hS.2.2 dX3_next_100
                · have c15 := b1t (b := _) c15
                  refine lv_iinc (v := nI (i + 1)) (lv' := [(5, .int (nI (i + 1))), (0, .ref (mh_ A)), (1, .int p0), (2, .int p1), (3, .int p2), (4, .int 0)]) hx hb dX3_next_69 hl (k := 5) rfl (nI_1 _) (by decide) rfl (fun ls hl => ?_)
                  refine lv_goto (tgt := 47) hx hb dX3_next_72 (by decide) ?_
                  have hv_i : u = u := rfl
                  exact ih_i _ _ _ (by omega) ⟨tr_PR hv_i hP, tr_DR hv_i hD, hS, lv_sub hl [1, 2, 3, 4, 5, 0] rfl, nx_s hF_i c15⟩
          · refine lv_iconst (v := 1) hx hb dX3_next_32 (by decide) ?_
            refine lv_goto (tgt := 37) hx hb dX3_next_33 (by decide) ?_
            refine lv_istore (lv' := [(4, .int 1), (0, .ref (mh_ A)), (1, .int p0), (2, .int p1), (3, .int p2)]) hx hb dX3_next_37 hl (by decide) rfl (fun ls hl => ?_)
            refine lv_iload_n hx hb dX3_next_39 rfl (lv_at hl 3 rfl) ?_
            refine lv_iconst (v := 2) hx hb dX3_next_40 (by decide) ?_
            refine lv_icmp_ge (tgt := 101) hx hb dX3_next_41 (by decide) (fun c17 => ?_) (fun c17 => ?_)
            · refine lv_iload_n hx hb dX3_next_101 rfl (lv_at hl 4 rfl) ?_
              refine lv_topi (fun z18 ez18 => ?_)
              obtain rfl : z18 = nI p2.toNatClampNeg := ez18.trans hpl.1
              refine lv_istore (lv' := [(5, .int (nI p2.toNatClampNeg)), (4, .int 1), (0, .ref (mh_ A)), (1, .int p0), (2, .int p1), (3, .int p2)]) hx hb dX3_next_102 hl (by decide) rfl (fun ls hl => ?_)
              refine w_loopD (N := (p2.toNatClampNeg + 1)) (fun i H locs ls => va_P (dC, dI) bwCl (wR A u) H ∧ va_D (aR A s.heap.size) (wR A u) ∧ va_S (aR A s.heap.size) s.heap H locs ∧ lv_has ls 6 [(0, .ref (mh_ A)), (1, .int p0), (2, .int p1), (3, .int p2), (4, .int 1), (5, .int (iD i))] ∧ (∀ k, i ≤ k → k ≤ p2.toNatClampNeg → u.1 p0.toNatClampNeg k = false)) ⟨hP, hD, hS, lv_sub hl [2, 3, 4, 5, 1, 0] rfl, fun k h1 h2 => absurd h2 (by omega)⟩ ?_ ?_
              · intro H locs ls hI
                obtain ⟨hP, hD, hS, hl, hF⟩ := hI
                have hl : lv_has ls 6 [(0, .ref (mh_ A)), (1, .int p0), (2, .int p1), (3, .int p2), (4, .int 1), (5, .int (-1))] := hl
                refine lv_iload hx hb dX3_next_104 (lv_at hl 5 rfl) ?_
                refine lv_if_lt (tgt := 129) hx hb dX3_next_106 (by decide) (fun c19 => ?_) (fun c19 => ?_)
                · refine lv_iload hx hb dX3_next_129 (lv_at hl 5 rfl) ?_
                  exact W.iret hx hb hr (fun t9 ht9 hW => ⟨⟨_, u, rfl, Or.inl ⟨⟨c1, c2, c3, c4⟩, ⟨Or.inr (Or.inr (Or.inl ⟨⟨c5, c17⟩, Or.inr ⟨fun k hk => hF k (Nat.zero_le _) hk, rfl⟩⟩)), rfl⟩⟩, by rw [ht9]; exact hP, va_K.moved hW.alike hK, hD⟩, hS.F ht9⟩) hS.2.2 dX3_next_131
                · exact absurd (by decide) c19
              · intro i H locs ls hlt hI ih
                obtain ⟨hP, hD, hS, hl, hF⟩ := hI
                have hl : lv_has ls 6 [(0, .ref (mh_ A)), (1, .int p0), (2, .int p1), (3, .int p2), (4, .int 1), (5, .int (nI i))] := hl
                refine lv_iload hx hb dX3_next_104 (lv_at hl 5 rfl) ?_
                refine lv_if_lt (tgt := 129) hx hb dX3_next_106 (by decide) (fun c20 => ?_) (fun c20 => ?_)
                · exact absurd c20 (nI_pos (by omega))
                · refine lv_aload_n hx hb dX3_next_109 rfl (lv_at hl 0 rfl) ?_
                  refine va_get (D := (dC, dI)) (ci := 3) (v := .ref (mq_ A)) (C := RX3) (T := TX3) (N := 4) hx hb hw igX3 hown hK hP 0 rfl rfl 0 (by decide) (hw _ tw_242) (fun _ h9 => h9) rfl dX3_next_110 ?_
                  refine lv_iload_n hx hb dX3_next_113 rfl (lv_at hl 1 rfl) ?_
                  refine va_aldz hx hb hK hP 1 0 rfl rfl (row_in (p := p0) c1) dX3_next_114 ?_
                  rw [mqF_at A hj_p0]
                  refine lv_iload hx hb dX3_next_115 (lv_at hl 5 rfl) ?_
                  refine va_zald hx hb hK hP (4 + p0.toNatClampNeg) (3 + p0.toNatClampNeg) (wR_row A u hj_p0) (tyR_row A hj_p0) (vp_in_nI (by omega) (by omega)) dX3_next_117 ?_
                  rw [nI_clamp (n := i) (by omega)]
                  refine lv_iload hx hb dX3_next_118 (lv_at hl 4 rfl) ?_
                  refine lv_icmp_eq (tgt := 129) hx hb dX3_next_120 (by decide) (fun c21 => ?_) (fun c21 => ?_)
                  · have c21 := b1_1 (b := _) c21
                    refine lv_iload hx hb dX3_next_129 (lv_at hl 5 rfl) ?_
                    exact W.iret hx hb hr (fun t9 ht9 hW => ⟨⟨_, u, rfl, Or.inl ⟨⟨c1, c2, c3, c4⟩, ⟨Or.inr (Or.inr (Or.inl ⟨⟨c5, c17⟩, Or.inl ⟨i, by omega, c21, fun k h1 h2 => hF k h1 h2, rfl⟩⟩)), rfl⟩⟩, by rw [ht9]; exact hP, va_K.moved hW.alike hK, hD⟩, hS.F ht9⟩) hS.2.2 dX3_next_131
                  · have c21 := b1_n (b := _) c21
                    refine lv_iinc (v := iD i) (lv' := [(5, .int (iD i)), (0, .ref (mh_ A)), (1, .int p0), (2, .int p1), (3, .int p2), (4, .int 1)]) hx hb dX3_next_123 hl (k := 5) rfl (iD_m1 _) (by decide) rfl (fun ls hl => ?_)
                    refine lv_goto (tgt := 104) hx hb dX3_next_126 (by decide) ?_
                    exact ih _ _ _ ⟨hP, hD, hS, lv_sub hl [1, 2, 3, 4, 5, 0] rfl, ny_s hF c21⟩
            · refine lv_iload_n hx hb dX3_next_44 rfl (lv_at hl 4 rfl) ?_
              refine lv_topi (fun z22 ez22 => ?_)
              obtain rfl : z22 = nI p2.toNatClampNeg := ez22.trans hpl.1
              refine lv_istore (lv' := [(5, .int (nI p2.toNatClampNeg)), (4, .int 1), (0, .ref (mh_ A)), (1, .int p0), (2, .int p1), (3, .int p2)]) hx hb dX3_next_45 hl (by decide) rfl (fun ls hl => ?_)
              have hu_i : u = u := rfl
              refine w_loop (N := 4032) (i0 := p2.toNatClampNeg) (fun i H locs ls => va_P (dC, dI) bwCl (wR A u) H ∧ va_D (aR A s.heap.size) (wR A u) ∧ va_S (aR A s.heap.size) s.heap H locs ∧ lv_has ls 6 [(0, .ref (mh_ A)), (1, .int p0), (2, .int p1), (3, .int p2), (4, .int 1), (5, .int (nI i))] ∧ (∀ k, p2.toNatClampNeg ≤ k → k < i → u.1 p0.toNatClampNeg k = false)) hpl.2.1 ⟨tr_PR hu_i hP, tr_DR hu_i hD, hS, lv_sub hl [2, 3, 4, 5, 1, 0] rfl, fun k h1 h2 => absurd h2 (by omega)⟩ ?_
              intro i H locs ls hz_i hi_i hI ih_i
              obtain ⟨hP, hD, hS, hl, hF_i⟩ := hI
              refine lv_iload hx hb dX3_next_47 (lv_at hl 5 rfl) ?_
              refine lv_sipush (v := 4032) hx hb dX3_next_49 (by decide) ?_
              refine lv_icmp_ge (tgt := 75) hx hb dX3_next_52 (by decide) (fun c23 => ?_) (fun c23 => ?_)
              · obtain rfl : i = 4032 := lp_out (n := 4032) rfl hi_i (by decide) c23
                refine lv_iload hx hb dX3_next_75 (lv_at hl 5 rfl) ?_
                refine lv_sipush (v := 4032) hx hb dX3_next_77 (by decide) ?_
                refine lv_icmp_ge (tgt := 88) hx hb dX3_next_80 (by decide) (fun c24 => ?_) (fun c24 => ?_)
                · refine lv_iload hx hb dX3_next_88 (lv_at hl 4 rfl) ?_
                  refine lv_if_eq (tgt := 97) hx hb dX3_next_90 (by decide) (fun c25 => ?_) (fun c25 => ?_)
                  · exact absurd c25 (by decide)
                  · refine lv_iconst (v := -1) hx hb dX3_next_93 (by decide) ?_
                    refine lv_goto (tgt := 100) hx hb dX3_next_94 (by decide) ?_
                    exact W.iret hx hb hr (fun t9 ht9 hW => ⟨⟨_, u, rfl, Or.inl ⟨⟨c1, c2, c3, c4⟩, ⟨Or.inl ⟨⟨c5, c17⟩, Or.inr ⟨hF_i, rfl⟩⟩, rfl⟩⟩, by rw [ht9]; exact hP, va_K.moved hW.alike hK, hD⟩, hS.F ht9⟩) hS.2.2 dX3_next_100
                · exact absurd (i_rf _) c24
              · have hlt_i : i < 4032 := lp_in (n := 4032) rfl hi_i c23
                refine lv_aload_n hx hb dX3_next_55 rfl (lv_at hl 0 rfl) ?_
                refine va_get (D := (dC, dI)) (ci := 3) (v := .ref (mq_ A)) (C := RX3) (T := TX3) (N := 4) hx hb hw igX3 hown hK hP 0 rfl rfl 0 (by decide) (hw _ tw_242) (fun _ h9 => h9) rfl dX3_next_56 ?_
                refine lv_iload_n hx hb dX3_next_59 rfl (lv_at hl 1 rfl) ?_
                refine va_aldz hx hb hK hP 1 0 rfl rfl (row_in (p := p0) c1) dX3_next_60 ?_
                rw [mqF_at A hj_p0]
                refine lv_iload hx hb dX3_next_61 (lv_at hl 5 rfl) ?_
                refine va_zald hx hb hK hP (4 + p0.toNatClampNeg) (3 + p0.toNatClampNeg) (wR_row A u hj_p0) (tyR_row A hj_p0) (vp_in_nI (by omega) (by omega)) dX3_next_63 ?_
                rw [nI_clamp (n := i) (by omega)]
                refine lv_iload hx hb dX3_next_64 (lv_at hl 4 rfl) ?_
                refine lv_icmp_eq (tgt := 75) hx hb dX3_next_66 (by decide) (fun c26 => ?_) (fun c26 => ?_)
                · have c26 := b1_1 (b := _) c26
                  refine lv_iload hx hb dX3_next_75 (lv_at hl 5 rfl) ?_
                  refine lv_sipush (v := 4032) hx hb dX3_next_77 (by decide) ?_
                  refine lv_icmp_ge (tgt := 88) hx hb dX3_next_80 (by decide) (fun c27 => ?_) (fun c27 => ?_)
                  · exact absurd c27 (nI_ge (b := 4032) hlt_i (by decide))
                  · refine lv_iload hx hb dX3_next_83 (lv_at hl 5 rfl) ?_
                    refine lv_goto (tgt := 100) hx hb dX3_next_85 (by decide) ?_
                    exact W.iret hx hb hr (fun t9 ht9 hW => ⟨⟨_, u, rfl, Or.inl ⟨⟨c1, c2, c3, c4⟩, ⟨Or.inl ⟨⟨c5, c17⟩, Or.inl ⟨i, hz_i, hlt_i, c26, hF_i, rfl⟩⟩, rfl⟩⟩, by rw [ht9]; exact hP, va_K.moved hW.alike hK, hD⟩, hS.F ht9⟩) hS.2.2 dX3_next_100
                · have c26 := b1_n (b := _) c26
                  refine lv_iinc (v := nI (i + 1)) (lv' := [(5, .int (nI (i + 1))), (0, .ref (mh_ A)), (1, .int p0), (2, .int p1), (3, .int p2), (4, .int 1)]) hx hb dX3_next_69 hl (k := 5) rfl (nI_1 _) (by decide) rfl (fun ls hl => ?_)
                  refine lv_goto (tgt := 47) hx hb dX3_next_72 (by decide) ?_
                  have hv_i : u = u := rfl
                  exact ih_i _ _ _ (by omega) ⟨tr_PR hv_i hP, tr_DR hv_i hD, hS, lv_sub hl [1, 2, 3, 4, 5, 0] rfl, nx_s hF_i c26⟩
        · refine lv_bipush (v := -2) hx hb dX3_next_23 (by decide) ?_
          exact W.iret hx hb hr (fun t9 ht9 hW => ⟨⟨_, u, rfl, Or.inr ⟨fun h => h.2.2.2 c4, rfl, rfl⟩, by rw [ht9]; exact hP, va_K.moved hW.alike hK, hD⟩, hS.F ht9⟩) hS.2.2 dX3_next_25
set_option maxHeartbeats 4000000 in
set_option maxRecDepth 100000 in
theorem c_X3_write (l : Launch) (dC : Nat → ClassId) (dI : Nat → Nat → Nat) (A : AdR) (u : StR) {t : List Int32} (ht : txR u t) (hlen : t.length < 700) (p0 : Int32) : gMv l yX3_write wX3_write ({ frames := 0, cells := 0, slots := 0, locals := 0 }) (dC, dI) bwCl (tyR A) (wR A) (aR A) [.ref (mh_ A), .int p0] u (fun v => (v.1 = u.1 ∧ v.2.1 = u.2.1) ∧ txR v (t ++ [vp_nar .byte p0.toInt8.toInt32])) := by
  unfold gMv
  intro sz
  refine Met.ofW (cc := cX3_write) (maxL := 2) (ret := none) (by decide) rfl ?_
  intro p e s m args below meth c s₁ B hml hv
  obtain ⟨rfl, hsz, hP, hK, hD⟩ := hv
  subst hsz
  have hS : va_S (aR A s.heap.size) s.heap s.heap [] := va_S.rf
  have hx := B.exec
  have hb := B.bytes
  have hr := B.returns
  have hts := atoms_spec (ws := wX3_write) B.pre
  have hw : ∀ w ∈ tg_, w.before _ s = true := fun w h => hts w (List.mem_cons_of_mem _ h)
  have hown : s.vm.findClass RX3 = some m.cls := findClass_of_methodNamed B.named
  have hlocks := B.notSynchronized
  have hl := lv_entry ([.ref (mh_ A), .int p0]) (n := 2) (Nat.le_of_ble_eq_true rfl)
  rw [lg_entry_eq]
  generalize (lg_sl ([.ref (mh_ A), .int p0]) ++ List.replicate (2 - (lg_sl ([.ref (mh_ A), .int p0])).length) Slot.unset).toArray = ls at hl ⊢
  have hl : lv_has ls 2 [(0, .ref (mh_ A)), (1, .int p0)] := hl
  refine lv_aload_n hx hb dX3_write_0 rfl (lv_at hl 0 rfl) ?_
  refine va_get (D := (dC, dI)) (ci := 3) (v := .ref (ms_ A)) (C := RX3) (T := TX3) (N := 4) hx hb hw igX3 hown hK hP 0 rfl rfl 2 (by decide) (hw _ tw_244) (fun _ h9 => h9) rfl dX3_write_1 ?_
  refine lv_aload_n hx hb dX3_write_4 rfl (lv_at hl 0 rfl) ?_
  refine va_get (D := (dC, dI)) (ci := 3) (v := .int u.2.2.2) (C := RX3) (T := TX3) (N := 4) hx hb hw igX3 hown hK hP 0 rfl rfl 3 (by decide) (hw _ tw_245) (fun _ h9 => h9) rfl dX3_write_5 ?_
  refine lv_iload_n hx hb dX3_write_8 rfl (lv_at hl 1 rfl) ?_
  refine lv_i2b hx hb dX3_write_9 rfl ?_
  refine va_bast hx hb hK hP hD hS 3 2 rfl rfl (tr_in ht hlen) dX3_write_10 (fun H locs hP hD hS => ?_)
  have hP : va_P (dC, dI) bwCl (wR A (u.1, u.2.1, upd u.2.2.1 u.2.2.2.toNatClampNeg (vp_nar .byte p0.toInt8.toInt32), u.2.2.2)) H := hP
  have hD : va_D (aR A s.heap.size) (wR A (u.1, u.2.1, upd u.2.2.1 u.2.2.2.toNatClampNeg (vp_nar .byte p0.toInt8.toInt32), u.2.2.2)) := hD
  refine lv_aload_n hx hb dX3_write_11 rfl (lv_at hl 0 rfl) ?_
  refine lv_dup hx hb dX3_write_12 rfl ?_
  refine va_get (D := (dC, dI)) (ci := 3) (v := .int ((u.1, u.2.1, upd u.2.2.1 u.2.2.2.toNatClampNeg (vp_nar .byte p0.toInt8.toInt32), u.2.2.2).2.2.2)) (C := RX3) (T := TX3) (N := 4) hx hb hw igX3 hown hK hP 0 rfl rfl 3 (by decide) (hw _ tw_245) (fun _ h9 => h9) rfl dX3_write_13 ?_
  refine lv_iconst (v := 1) hx hb dX3_write_16 (by decide) ?_
  refine lv_iadd hx hb dX3_write_17 ?_
  refine va_put (D := (dC, dI)) (ci := 3) (v := .int (((u.1, u.2.1, upd u.2.2.1 u.2.2.2.toNatClampNeg (vp_nar .byte p0.toInt8.toInt32), u.2.2.2).2.2.2) + 1)) (ty := .int) (C := RX3) (T := TX3) (N := 4) hx hb hw igX3 tyX3 tyX3_ok nmX3 hown hK hP hD hS 0 rfl rfl 3 (by decide) (hw _ tw_245) (fun _ h9 => h9) rfl (by decide +kernel) rfl rfl (Nat.le_of_ble_eq_true rfl) dX3_write_18 (fun H locs hP hD hS => ?_)
  have hP : va_P (dC, dI) bwCl (wR A ((u.1, u.2.1, upd u.2.2.1 u.2.2.2.toNatClampNeg (vp_nar .byte p0.toInt8.toInt32), u.2.2.2).1, (u.1, u.2.1, upd u.2.2.1 u.2.2.2.toNatClampNeg (vp_nar .byte p0.toInt8.toInt32), u.2.2.2).2.1, (u.1, u.2.1, upd u.2.2.1 u.2.2.2.toNatClampNeg (vp_nar .byte p0.toInt8.toInt32), u.2.2.2).2.2.1, ((u.1, u.2.1, upd u.2.2.1 u.2.2.2.toNatClampNeg (vp_nar .byte p0.toInt8.toInt32), u.2.2.2).2.2.2) + 1)) H := hP
  have hD : va_D (aR A s.heap.size) (wR A ((u.1, u.2.1, upd u.2.2.1 u.2.2.2.toNatClampNeg (vp_nar .byte p0.toInt8.toInt32), u.2.2.2).1, (u.1, u.2.1, upd u.2.2.1 u.2.2.2.toNatClampNeg (vp_nar .byte p0.toInt8.toInt32), u.2.2.2).2.1, (u.1, u.2.1, upd u.2.2.1 u.2.2.2.toNatClampNeg (vp_nar .byte p0.toInt8.toInt32), u.2.2.2).2.2.1, ((u.1, u.2.1, upd u.2.2.1 u.2.2.2.toNatClampNeg (vp_nar .byte p0.toInt8.toInt32), u.2.2.2).2.2.2) + 1)) := hD
  exact W.vret hx hb hr (fun t9 ht9 hW => ⟨⟨((u.1, u.2.1, upd u.2.2.1 u.2.2.2.toNatClampNeg (vp_nar .byte p0.toInt8.toInt32), u.2.2.2).1, (u.1, u.2.1, upd u.2.2.1 u.2.2.2.toNatClampNeg (vp_nar .byte p0.toInt8.toInt32), u.2.2.2).2.1, (u.1, u.2.1, upd u.2.2.1 u.2.2.2.toNatClampNeg (vp_nar .byte p0.toInt8.toInt32), u.2.2.2).2.2.1, ((u.1, u.2.1, upd u.2.2.1 u.2.2.2.toNatClampNeg (vp_nar .byte p0.toInt8.toInt32), u.2.2.2).2.2.2) + 1), rfl, ⟨⟨rfl, rfl⟩, tr_ok _ ht hlen⟩, by rw [ht9]; exact hP, va_K.moved hW.alike hK, hD⟩, hS.F ht9⟩) hS.2.2 dX3_write_21
set_option maxHeartbeats 4000000 in
set_option maxRecDepth 100000 in
theorem c_X3_octet (l : Launch) (dC : Nat → ClassId) (dI : Nat → Nat → Nat) (A : AdR) (u : StR) {t : List Int32} (ht : txR u t) (p0 : Int32) : gMi l yX3_octet wX3_octet ({ frames := 0, cells := 0, slots := 0, locals := 0 }) (dC, dI) bwCl (tyR A) (wR A) (aR A) [.ref (mh_ A), .int p0] u (fun r v => (r = fX3_octet u p0 ∧ u = v)) := by
  unfold gMi
  intro sz
  refine Met.ofW (cc := cX3_octet) (maxL := 2) (ret := (some .int)) (by decide) rfl ?_
  intro p e s m args below meth c s₁ B hml hv
  obtain ⟨rfl, hsz, hP, hK, hD⟩ := hv
  subst hsz
  have hS : va_S (aR A s.heap.size) s.heap s.heap [] := va_S.rf
  have hx := B.exec
  have hb := B.bytes
  have hr := B.returns
  have hts := atoms_spec (ws := wX3_octet) B.pre
  have hw : ∀ w ∈ tg_, w.before _ s = true := fun w h => hts w (List.mem_cons_of_mem _ h)
  have hown : s.vm.findClass RX3 = some m.cls := findClass_of_methodNamed B.named
  have hlocks := B.notSynchronized
  have hl := lv_entry ([.ref (mh_ A), .int p0]) (n := 2) (Nat.le_of_ble_eq_true rfl)
  rw [lg_entry_eq]
  generalize (lg_sl ([.ref (mh_ A), .int p0]) ++ List.replicate (2 - (lg_sl ([.ref (mh_ A), .int p0])).length) Slot.unset).toArray = ls at hl ⊢
  have hl : lv_has ls 2 [(0, .ref (mh_ A)), (1, .int p0)] := hl
  refine lv_iload_n hx hb dX3_octet_0 rfl (lv_at hl 1 rfl) ?_
  refine lv_if_lt (tgt := 12) hx hb dX3_octet_1 (by decide) (fun c1 => ?_) (fun c1 => ?_)
  · refine lv_bipush (v := -2) hx hb dX3_octet_12 (by decide) ?_
    refine lv_goto (tgt := 23) hx hb dX3_octet_14 (by decide) ?_
    exact W.iret hx hb hr (fun t9 ht9 hW => ⟨⟨_, u, rfl, ⟨by unfold fX3_octet; rw [if_pos c1], rfl⟩, by rw [ht9]; exact hP, va_K.moved hW.alike hK, hD⟩, hS.F ht9⟩) hS.2.2 dX3_octet_23
  · refine lv_iload_n hx hb dX3_octet_4 rfl (lv_at hl 1 rfl) ?_
    refine lv_aload_n hx hb dX3_octet_5 rfl (lv_at hl 0 rfl) ?_
    refine va_get (D := (dC, dI)) (ci := 3) (v := .int u.2.2.2) (C := RX3) (T := TX3) (N := 4) hx hb hw igX3 hown hK hP 0 rfl rfl 3 (by decide) (hw _ tw_245) (fun _ h9 => h9) rfl dX3_octet_6 ?_
    refine lv_icmp_lt (tgt := 17) hx hb dX3_octet_9 (by decide) (fun c2 => ?_) (fun c2 => ?_)
    · refine lv_aload_n hx hb dX3_octet_17 rfl (lv_at hl 0 rfl) ?_
      refine va_get (D := (dC, dI)) (ci := 3) (v := .ref (ms_ A)) (C := RX3) (T := TX3) (N := 4) hx hb hw igX3 hown hK hP 0 rfl rfl 2 (by decide) (hw _ tw_244) (fun _ h9 => h9) rfl dX3_octet_18 ?_
      refine lv_iload_n hx hb dX3_octet_21 rfl (lv_at hl 1 rfl) ?_
      refine va_bald hx hb hK hP 3 2 rfl rfl (tr_px ht c1 c2) dX3_octet_22 ?_
      exact W.iret hx hb hr (fun t9 ht9 hW => ⟨⟨_, u, rfl, ⟨by unfold fX3_octet; rw [if_neg c1, if_pos c2], rfl⟩, by rw [ht9]; exact hP, va_K.moved hW.alike hK, hD⟩, hS.F ht9⟩) hS.2.2 dX3_octet_23
    · refine lv_bipush (v := -2) hx hb dX3_octet_12 (by decide) ?_
      refine lv_goto (tgt := 23) hx hb dX3_octet_14 (by decide) ?_
      exact W.iret hx hb hr (fun t9 ht9 hW => ⟨⟨_, u, rfl, ⟨by unfold fX3_octet; rw [if_neg c1, if_neg c2], rfl⟩, by rw [ht9]; exact hP, va_K.moved hW.alike hK, hD⟩, hS.F ht9⟩) hS.2.2 dX3_octet_23
