set_option maxHeartbeats 4000000 in
set_option maxRecDepth 100000 in
theorem c_X0_wordAt (l : Launch) (dC : Nat → ClassId) (dI : Nat → Nat → Nat) (A : AdB) (u : StB) {j : Nat} (hj : j < 4) (p0 : Int32) : gMl l yX0_wordAt wX0_wordAt ({ frames := 0, cells := 0, slots := 0, locals := 0 }) (dC, dI) bwCl (tyB A) (wB A) (aB A) [.ref (ar_ A j), .int p0] u (fun r v => r = fX0_wordAt (u.1 j) p0 ∧ u = v) := by
  unfold gMl
  intro sz
  refine Met.ofW (cc := cX0_wordAt) (maxL := 2) (ret := (some .long)) (by decide) rfl ?_
  intro p e s m args below meth c s₁ B hml hv
  obtain ⟨rfl, hsz, hP, hK, hD⟩ := hv
  subst hsz
  have hS : va_S (aB A s.heap.size) s.heap s.heap [] := va_S.rf
  have hx := B.exec
  have hb := B.bytes
  have hr := B.returns
  have hts := atoms_spec (ws := wX0_wordAt) B.pre
  have hw : ∀ w ∈ tg_, w.before _ s = true := fun w h => hts w (List.mem_cons_of_mem _ h)
  have hown : s.vm.findClass RX0 = some m.cls := findClass_of_methodNamed B.named
  have hlocks := B.notSynchronized
  have hl := lv_entry ([.ref (ar_ A j), .int p0]) (n := 2) (Nat.le_of_ble_eq_true rfl)
  rw [lg_entry_eq]
  generalize (lg_sl ([.ref (ar_ A j), .int p0]) ++ List.replicate (2 - (lg_sl ([.ref (ar_ A j), .int p0])).length) Slot.unset).toArray = ls at hl ⊢
  have hl : lv_has ls 2 [(0, .ref (ar_ A j)), (1, .int p0)] := hl
  refine lv_iload_n hx hb dX0_wordAt_0 rfl (lv_at hl 1 rfl) ?_
  refine lv_if_lt (tgt := 19) hx hb dX0_wordAt_1 (by decide) (fun c1 => ?_) (fun c1 => ?_)
  · refine lv_lconst (v := 0) hx hb dX0_wordAt_19 (by decide) ?_
    exact W.lret hx hb hr (fun t9 ht9 hW => ⟨⟨_, u, rfl, ⟨by unfold fX0_wordAt; rw [if_pos c1], rfl⟩, by rw [ht9]; exact hP, va_K.moved hW.alike hK, hD⟩, hS.F ht9⟩) hS.2.2 dX0_wordAt_20
  · refine lv_iload_n hx hb dX0_wordAt_4 rfl (lv_at hl 1 rfl) ?_
    refine lv_bipush (v := 63) hx hb dX0_wordAt_5 (by decide) ?_
    refine lv_icmp_ge (tgt := 19) hx hb dX0_wordAt_7 (by decide) (fun c2 => ?_) (fun c2 => ?_)
    · refine lv_lconst (v := 0) hx hb dX0_wordAt_19 (by decide) ?_
      exact W.lret hx hb hr (fun t9 ht9 hW => ⟨⟨_, u, rfl, ⟨by unfold fX0_wordAt; rw [if_neg c1, if_pos c2], rfl⟩, by rw [ht9]; exact hP, va_K.moved hW.alike hK, hD⟩, hS.F ht9⟩) hS.2.2 dX0_wordAt_20
    · refine lv_aload_n hx hb dX0_wordAt_10 rfl (lv_at hl 0 rfl) ?_
      refine va_get (D := (dC, dI)) (ci := 0) (v := .ref (aw_ A j)) (C := RX0) (T := TX0) (N := 1) hx hb hw igX0 hown hK hP (4 + j) (wB_row A u hj) rfl 0 (by decide) (hw _ tw_22) (fun _ h9 => h9) rfl dX0_wordAt_11 ?_
      refine lv_iload_n hx hb dX0_wordAt_14 rfl (lv_at hl 1 rfl) ?_
      refine va_lald hx hb hK hP (8 + j) (2 + j) (wB_wds A u hj) (tyB_wds A hj) (vp_in_lit rfl c1 c2) dX0_wordAt_15 ?_
      refine lv_goto (tgt := 20) hx hb dX0_wordAt_16 (by decide) ?_
      exact W.lret hx hb hr (fun t9 ht9 hW => ⟨⟨_, u, rfl, ⟨by unfold fX0_wordAt; rw [if_neg c1, if_neg c2], rfl⟩, by rw [ht9]; exact hP, va_K.moved hW.alike hK, hD⟩, hS.F ht9⟩) hS.2.2 dX0_wordAt_20
set_option maxHeartbeats 4000000 in
set_option maxRecDepth 100000 in
theorem c_X0_bit (l : Launch) (dC : Nat → ClassId) (dI : Nat → Nat → Nat) (A : AdB) (u : StB) {j : Nat} (hj : j < 4) (p0 : Int32) : gMi l yX0_bit wX0_bit ({ frames := 1, cells := 0, slots := 0, locals := 21 }) (dC, dI) bwCl (tyB A) (wB A) (aB A) [.ref (ar_ A j), .int p0] u (fun r v => r = fX0_bit (u.1 j) p0 ∧ u = v) := by
  unfold gMi
  intro sz
  refine Met.ofW (cc := cX0_bit) (maxL := 2) (ret := (some .int)) (by decide) rfl ?_
  intro p e s m args below meth c s₁ B hml hv
  obtain ⟨rfl, hsz, hP, hK, hD⟩ := hv
  subst hsz
  have hS : va_S (aB A s.heap.size) s.heap s.heap [] := va_S.rf
  have hx := B.exec
  have hb := B.bytes
  have hr := B.returns
  have hts := atoms_spec (ws := wX0_bit) B.pre
  have hw : ∀ w ∈ tg_, w.before _ s = true := fun w h => hts w (List.mem_cons_of_mem _ h)
  have hown : s.vm.findClass RX0 = some m.cls := findClass_of_methodNamed B.named
  have hlocks := B.notSynchronized
  have hl := lv_entry ([.ref (ar_ A j), .int p0]) (n := 2) (Nat.le_of_ble_eq_true rfl)
  rw [lg_entry_eq]
  generalize (lg_sl ([.ref (ar_ A j), .int p0]) ++ List.replicate (2 - (lg_sl ([.ref (ar_ A j), .int p0])).length) Slot.unset).toArray = ls at hl ⊢
  have hl : lv_has ls 2 [(0, .ref (ar_ A j)), (1, .int p0)] := hl
  refine lv_aload_n hx hb dX0_bit_0 rfl (lv_at hl 0 rfl) ?_
  refine lv_iload_n hx hb dX0_bit_1 rfl (lv_at hl 1 rfl) ?_
  refine lv_bipush (v := 6) hx hb dX0_bit_2 (by decide) ?_
  refine lv_ishr hx hb dX0_bit_4 ?_
  refine gVl (As := [.int (p0 >>> (6 &&& 31))]) (rest := []) ⟨hx, hb, hml, hown, hts⟩ (c_X0_wordAt l dC dI A u hj (p0 >>> (6 &&& 31))) (cwV 1 hts (gi_V hbc tw_65 tw_66 tw_67 tw_2 tw_68) rfl rfl rfl (by decide +kernel) ⟨Nat.le_of_ble_eq_true rfl, Nat.le_of_ble_eq_true rfl⟩) (va_recv hK hP (ci := 0) (q0 := (4 + j)) rfl (wB_row A u hj)) aB_mono aB_D hP hK hD hS rfl hl.1 rfl (Nat.le_of_ble_eq_true rfl) dX0_bit_5 ⟨Nat.le_of_ble_eq_true rfl, Nat.le_of_ble_eq_true rfl⟩ (fun r1 v3 H locs hq2 hP hD hS => ?_)
  obtain ⟨rfl, rfl⟩ := hq2
  refine lv_iload_n hx hb dX0_bit_8 rfl (lv_at hl 1 rfl) ?_
  refine lv_bipush (v := 63) hx hb dX0_bit_9 (by decide) ?_
  refine lv_iand hx hb dX0_bit_11 ?_
  refine lv_lushr hx hb dX0_bit_12 rfl ?_
  refine lv_l2i hx hb dX0_bit_13 rfl ?_
  refine lv_iconst (v := 1) hx hb dX0_bit_14 (by decide) ?_
  refine lv_iand hx hb dX0_bit_15 ?_
  exact W.iret hx hb hr (fun t9 ht9 hW => ⟨⟨_, u, rfl, ⟨rfl, rfl⟩, by rw [ht9]; exact hP, va_K.moved hW.alike hK, hD⟩, hS.F ht9⟩) hS.2.2 dX0_bit_16
set_option maxHeartbeats 4000000 in
set_option maxRecDepth 100000 in
theorem c_X0_bitsFrom (l : Launch) (dC : Nat → ClassId) (dI : Nat → Nat → Nat) (A : AdB) (u : StB) {j : Nat} (hj : j < 4) (p0 : Int32) : gMl l yX0_bitsFrom wX0_bitsFrom ({ frames := 1, cells := 0, slots := 0, locals := 21 }) (dC, dI) bwCl (tyB A) (wB A) (aB A) [.ref (ar_ A j), .int p0] u (fun r v => r = fX0_bitsFrom (u.1 j) p0 ∧ u = v) := by
  unfold gMl
  intro sz
  refine Met.ofW (cc := cX0_bitsFrom) (maxL := 4) (ret := (some .long)) (by decide) rfl ?_
  intro p e s m args below meth c s₁ B hml hv
  obtain ⟨rfl, hsz, hP, hK, hD⟩ := hv
  subst hsz
  have hS : va_S (aB A s.heap.size) s.heap s.heap [] := va_S.rf
  have hx := B.exec
  have hb := B.bytes
  have hr := B.returns
  have hts := atoms_spec (ws := wX0_bitsFrom) B.pre
  have hw : ∀ w ∈ tg_, w.before _ s = true := fun w h => hts w (List.mem_cons_of_mem _ h)
  have hown : s.vm.findClass RX0 = some m.cls := findClass_of_methodNamed B.named
  have hlocks := B.notSynchronized
  have hl := lv_entry ([.ref (ar_ A j), .int p0]) (n := 4) (Nat.le_of_ble_eq_true rfl)
  rw [lg_entry_eq]
  generalize (lg_sl ([.ref (ar_ A j), .int p0]) ++ List.replicate (4 - (lg_sl ([.ref (ar_ A j), .int p0])).length) Slot.unset).toArray = ls at hl ⊢
  have hl : lv_has ls 4 [(0, .ref (ar_ A j)), (1, .int p0)] := hl
  refine lv_iload_n hx hb dX0_bitsFrom_0 rfl (lv_at hl 1 rfl) ?_
  refine lv_bipush (v := 6) hx hb dX0_bitsFrom_1 (by decide) ?_
  refine lv_ishr hx hb dX0_bitsFrom_3 ?_
  refine lv_istore_n (lv' := [(2, .int (p0 >>> (6 &&& 31))), (0, .ref (ar_ A j)), (1, .int p0)]) hx hb dX0_bitsFrom_4 rfl hl (by decide) rfl (fun ls hl => ?_)
  refine lv_iload_n hx hb dX0_bitsFrom_5 rfl (lv_at hl 2 rfl) ?_
  refine lv_bipush (v := 63) hx hb dX0_bitsFrom_6 (by decide) ?_
  refine lv_iand hx hb dX0_bitsFrom_8 ?_
  refine lv_istore_n (lv' := [(3, .int (p0 &&& 63)), (2, .int (p0 >>> (6 &&& 31))), (0, .ref (ar_ A j)), (1, .int p0)]) hx hb dX0_bitsFrom_9 rfl hl (by decide) rfl (fun ls hl => ?_)
  refine lv_iload_n hx hb dX0_bitsFrom_10 rfl (lv_at hl 0 rfl) ?_
  refine lv_if_ne (tgt := 20) hx hb dX0_bitsFrom_11 (by decide) (fun c1 => ?_) (fun c1 => ?_)
  · refine lv_aload_n hx hb dX0_bitsFrom_20 rfl (lv_at hl 2 rfl) ?_
    refine lv_iload_n hx hb dX0_bitsFrom_21 rfl (lv_at hl 1 rfl) ?_
    refine gVl (As := [.int (p0 >>> (6 &&& 31))]) (rest := []) ⟨hx, hb, hml, hown, hts⟩ (c_X0_wordAt l dC dI A u hj (p0 >>> (6 &&& 31))) (cwV 1 hts (gi_V hbc tw_65 tw_66 tw_67 tw_2 tw_68) rfl rfl rfl (by decide +kernel) ⟨Nat.le_of_ble_eq_true rfl, Nat.le_of_ble_eq_true rfl⟩) (va_recv hK hP (ci := 0) (q0 := (4 + j)) rfl (wB_row A u hj)) aB_mono aB_D hP hK hD hS rfl hl.1 rfl (Nat.le_of_ble_eq_true rfl) dX0_bitsFrom_22 ⟨Nat.le_of_ble_eq_true rfl, Nat.le_of_ble_eq_true rfl⟩ (fun r2 v4 H locs hq3 hP hD hS => ?_)
    obtain ⟨rfl, rfl⟩ := hq3
    refine lv_iload_n hx hb dX0_bitsFrom_25 rfl (lv_at hl 0 rfl) ?_
    refine lv_lushr hx hb dX0_bitsFrom_26 rfl ?_
    refine lv_aload_n hx hb dX0_bitsFrom_27 rfl (lv_at hl 2 rfl) ?_
    refine lv_iload_n hx hb dX0_bitsFrom_28 rfl (lv_at hl 1 rfl) ?_
    refine lv_iconst (v := 1) hx hb dX0_bitsFrom_29 (by decide) ?_
    refine lv_iadd hx hb dX0_bitsFrom_30 ?_
    refine gVl (As := [.int ((p0 >>> (6 &&& 31)) + 1)]) (rest := [.long (((fX0_wordAt (u.1 j) (p0 >>> (6 &&& 31))).toUInt64 >>> ((p0 &&& 63).toInt64.toUInt64 &&& Int64.toUInt64 63)).toInt64)]) ⟨hx, hb, hml, hown, hts⟩ (c_X0_wordAt l dC dI A u hj ((p0 >>> (6 &&& 31)) + 1)) (cwV 1 hts (gi_V hbc tw_65 tw_66 tw_67 tw_2 tw_68) rfl rfl rfl (by decide +kernel) ⟨Nat.le_of_ble_eq_true rfl, Nat.le_of_ble_eq_true rfl⟩) (va_recv hK hP (ci := 0) (q0 := (4 + j)) rfl (wB_row A u hj)) aB_mono aB_D hP hK hD hS rfl hl.1 rfl (Nat.le_of_ble_eq_true rfl) dX0_bitsFrom_31 ⟨Nat.le_of_ble_eq_true rfl, Nat.le_of_ble_eq_true rfl⟩ (fun r5 v7 H locs hq6 hP hD hS => ?_)
    obtain ⟨rfl, rfl⟩ := hq6
    refine lv_bipush (v := 64) hx hb dX0_bitsFrom_34 (by decide) ?_
    refine lv_iload_n hx hb dX0_bitsFrom_36 rfl (lv_at hl 0 rfl) ?_
    refine lv_isub hx hb dX0_bitsFrom_37 ?_
    refine lv_lshl hx hb dX0_bitsFrom_38 rfl ?_
    refine lv_lor hx hb dX0_bitsFrom_39 ?_
    exact W.lret hx hb hr (fun t9 ht9 hW => ⟨⟨_, u, rfl, ⟨by unfold fX0_bitsFrom; rw [if_neg c1], rfl⟩, by rw [ht9]; exact hP, va_K.moved hW.alike hK, hD⟩, hS.F ht9⟩) hS.2.2 dX0_bitsFrom_40
  · refine lv_aload_n hx hb dX0_bitsFrom_14 rfl (lv_at hl 2 rfl) ?_
    refine lv_iload_n hx hb dX0_bitsFrom_15 rfl (lv_at hl 1 rfl) ?_
    refine gVl (As := [.int (p0 >>> (6 &&& 31))]) (rest := []) ⟨hx, hb, hml, hown, hts⟩ (c_X0_wordAt l dC dI A u hj (p0 >>> (6 &&& 31))) (cwV 1 hts (gi_V hbc tw_65 tw_66 tw_67 tw_2 tw_68) rfl rfl rfl (by decide +kernel) ⟨Nat.le_of_ble_eq_true rfl, Nat.le_of_ble_eq_true rfl⟩) (va_recv hK hP (ci := 0) (q0 := (4 + j)) rfl (wB_row A u hj)) aB_mono aB_D hP hK hD hS rfl hl.1 rfl (Nat.le_of_ble_eq_true rfl) dX0_bitsFrom_16 ⟨Nat.le_of_ble_eq_true rfl, Nat.le_of_ble_eq_true rfl⟩ (fun r8 v10 H locs hq9 hP hD hS => ?_)
    obtain ⟨rfl, rfl⟩ := hq9
    exact W.lret hx hb hr (fun t9 ht9 hW => ⟨⟨_, u, rfl, ⟨by unfold fX0_bitsFrom; rw [if_pos c1], rfl⟩, by rw [ht9]; exact hP, va_K.moved hW.alike hK, hD⟩, hS.F ht9⟩) hS.2.2 dX0_bitsFrom_19
set_option maxHeartbeats 4000000 in
set_option maxRecDepth 100000 in
theorem c_X0_ones (l : Launch) (dC : Nat → ClassId) (dI : Nat → Nat → Nat) (A : AdB) (u : StB) {j : Nat} (hj : j < 4) : gMi l yX0_ones wX0_ones ({ frames := 1, cells := 0, slots := 0, locals := 21 }) (dC, dI) bwCl (tyB A) (wB A) (aB A) [.ref (ar_ A j)] u (fun r v => r = fX0_ones (u.1 j) ∧ u = v) := by
  unfold gMi
  intro sz
  refine Met.ofW (cc := cX0_ones) (maxL := 3) (ret := (some .int)) (by decide) rfl ?_
  intro p e s m args below meth c s₁ B hml hv
  obtain ⟨rfl, hsz, hP, hK, hD⟩ := hv
  subst hsz
  have hS : va_S (aB A s.heap.size) s.heap s.heap [] := va_S.rf
  have hx := B.exec
  have hb := B.bytes
  have hr := B.returns
  have hts := atoms_spec (ws := wX0_ones) B.pre
  have hw : ∀ w ∈ tg_, w.before _ s = true := fun w h => hts w (List.mem_cons_of_mem _ h)
  have hown : s.vm.findClass RX0 = some m.cls := findClass_of_methodNamed B.named
  have hlocks := B.notSynchronized
  have hl := lv_entry ([.ref (ar_ A j)]) (n := 3) (Nat.le_of_ble_eq_true rfl)
  rw [lg_entry_eq]
  generalize (lg_sl ([.ref (ar_ A j)]) ++ List.replicate (3 - (lg_sl ([.ref (ar_ A j)])).length) Slot.unset).toArray = ls at hl ⊢
  have hl : lv_has ls 3 [(0, .ref (ar_ A j))] := hl
  refine lv_iconst (v := 0) hx hb dX0_ones_0 (by decide) ?_
  refine lv_istore_n (lv' := [(1, .int 0), (0, .ref (ar_ A j))]) hx hb dX0_ones_1 rfl hl (by decide) rfl (fun ls hl => ?_)
  refine lv_iconst (v := 0) hx hb dX0_ones_2 (by decide) ?_
  refine lv_istore_n (lv' := [(2, .int 0), (1, .int 0), (0, .ref (ar_ A j))]) hx hb dX0_ones_3 rfl hl (by decide) rfl (fun ls hl => ?_)
  have hu_i : u = u := rfl
  refine w_loop (N := 63) (i0 := 0) (fun i H locs ls => va_P (dC, dI) bwCl (wB A u) H ∧ va_D (aB A s.heap.size) (wB A u) ∧ va_S (aB A s.heap.size) s.heap H locs ∧ lv_has ls 3 [(0, .ref (ar_ A j)), (1, .int (sI (bcW (u.1 j)) i)), (2, .int (nI i))]) (by decide) ⟨tr_P hu_i hP, tr_D hu_i hD, hS, lv_sub hl [2, 1, 0] rfl⟩ ?_
  intro i H locs ls hz_i hi_i hI ih_i
  obtain ⟨hP, hD, hS, hl⟩ := hI
  refine lv_iload_n hx hb dX0_ones_4 rfl (lv_at hl 2 rfl) ?_
  refine lv_bipush (v := 63) hx hb dX0_ones_5 (by decide) ?_
  refine lv_icmp_ge (tgt := 28) hx hb dX0_ones_7 (by decide) (fun c1 => ?_) (fun c1 => ?_)
  · obtain rfl : i = 63 := lp_out (n := 63) rfl hi_i (by decide) c1
    refine lv_iload_n hx hb dX0_ones_28 rfl (lv_at hl 1 rfl) ?_
    exact W.iret hx hb hr (fun t9 ht9 hW => ⟨⟨_, u, rfl, ⟨rfl, rfl⟩, by rw [ht9]; exact hP, va_K.moved hW.alike hK, hD⟩, hS.F ht9⟩) hS.2.2 dX0_ones_29
  · have hlt_i : i < 63 := lp_in (n := 63) rfl hi_i c1
    refine lv_iload_n hx hb dX0_ones_10 rfl (lv_at hl 1 rfl) ?_
    refine lv_aload_n hx hb dX0_ones_11 rfl (lv_at hl 0 rfl) ?_
    refine va_get (D := (dC, dI)) (ci := 0) (v := .ref (aw_ A j)) (C := RX0) (T := TX0) (N := 1) hx hb hw igX0 hown hK hP (4 + j) (wB_row A u hj) rfl 0 (by decide) (hw _ tw_22) (fun _ h9 => h9) rfl dX0_ones_12 ?_
    refine lv_iload_n hx hb dX0_ones_15 rfl (lv_at hl 2 rfl) ?_
    refine va_lald hx hb hK hP (8 + j) (2 + j) (wB_wds A u hj) (tyB_wds A hj) (vp_in_nI (by omega) (by omega)) dX0_ones_16 ?_
    rw [nI_clamp (n := i) (by omega)]
    refine vp_callSi (W.runS (As := [.long (u.1 j i)]) (rest := [.int (sI (bcW (u.1 j)) i)]) ⟨hx, hb, hml, hown, hts⟩ (c_J7_bitCount l (u.1 j i)) (va_cwS 1 hts (gi_S hbc tw_91 tw_92 tw_5 tw_93) rfl rfl rfl (by decide +kernel) ⟨Nat.le_of_ble_eq_true rfl, Nat.le_of_ble_eq_true rfl⟩) preEq rfl rfl hl.1 rfl (lv_room (Nat.le_of_ble_eq_true rfl)) dX0_ones_17 ⟨Nat.le_of_ble_eq_true rfl, Nat.le_of_ble_eq_true rfl⟩) (fun r hq => ?_)
    subst hq
    refine lv_iadd hx hb dX0_ones_20 ?_
    refine lv_istore_n (lv' := [(1, .int ((sI (bcW (u.1 j)) i) + (fJ7_bitCount (u.1 j i)))), (0, .ref (ar_ A j)), (2, .int (nI i))]) hx hb dX0_ones_21 rfl hl (by decide) rfl (fun ls hl => ?_)
    refine lv_iinc (v := nI (i + 1)) (lv' := [(2, .int (nI (i + 1))), (1, .int ((sI (bcW (u.1 j)) i) + (fJ7_bitCount (u.1 j i)))), (0, .ref (ar_ A j))]) hx hb dX0_ones_22 hl (k := 2) rfl (nI_1 _) (by decide) rfl (fun ls hl => ?_)
    refine lv_goto (tgt := 4) hx hb dX0_ones_25 (by decide) ?_
    have hv_i : u = u := rfl
    exact ih_i _ _ _ (by omega) ⟨tr_P hv_i hP, tr_D hv_i hD, hS, lv_sub hl [2, 1, 0] rfl⟩
set_option maxHeartbeats 4000000 in
set_option maxRecDepth 100000 in
theorem c_X0_change (l : Launch) (dC : Nat → ClassId) (dI : Nat → Nat → Nat) (A : AdB) (u : StB) {j : Nat} (hj : j < 4) (p0 p1 p2 : Int32) : gMv l yX0_change wX0_change ({ frames := 1, cells := 0, slots := 0, locals := 24 }) (dC, dI) bwCl (tyB A) (wB A) (aB A) [.ref (ar_ A j), .int p0, .int p1, .int p2] u (fun v => (upM u.1 j (fl (chW (u.1 j) p0 p1 p2) (u.1 j) 63), u.2) = v) := by
  unfold gMv
  intro sz
  refine Met.ofW (cc := cX0_change) (maxL := 7) (ret := none) (by decide) rfl ?_
  intro p e s m args below meth c s₁ B hml hv
  obtain ⟨rfl, hsz, hP, hK, hD⟩ := hv
  subst hsz
  have hS : va_S (aB A s.heap.size) s.heap s.heap [] := va_S.rf
  have hx := B.exec
  have hb := B.bytes
  have hr := B.returns
  have hts := atoms_spec (ws := wX0_change) B.pre
  have hw : ∀ w ∈ tg_, w.before _ s = true := fun w h => hts w (List.mem_cons_of_mem _ h)
  have hown : s.vm.findClass RX0 = some m.cls := findClass_of_methodNamed B.named
  have hlocks := B.notSynchronized
  have hl := lv_entry ([.ref (ar_ A j), .int p0, .int p1, .int p2]) (n := 7) (Nat.le_of_ble_eq_true rfl)
  rw [lg_entry_eq]
  generalize (lg_sl ([.ref (ar_ A j), .int p0, .int p1, .int p2]) ++ List.replicate (7 - (lg_sl ([.ref (ar_ A j), .int p0, .int p1, .int p2])).length) Slot.unset).toArray = ls at hl ⊢
  have hl : lv_has ls 7 [(0, .ref (ar_ A j)), (1, .int p0), (2, .int p1), (3, .int p2)] := hl
  refine lv_iconst (v := 0) hx hb dX0_change_0 (by decide) ?_
  refine lv_istore (lv' := [(4, .int 0), (0, .ref (ar_ A j)), (1, .int p0), (2, .int p1), (3, .int p2)]) hx hb dX0_change_1 hl (by decide) rfl (fun ls hl => ?_)
  have hu_i : u = (upM u.1 j (fl (chW (u.1 j) p0 p1 p2) (u.1 j) 0), u.2) := fl_u0 _ u j
  refine w_loop (N := 63) (i0 := 0) (fun i H locs ls => va_P (dC, dI) bwCl (wB A (upM u.1 j (fl (chW (u.1 j) p0 p1 p2) (u.1 j) i), u.2)) H ∧ va_D (aB A s.heap.size) (wB A (upM u.1 j (fl (chW (u.1 j) p0 p1 p2) (u.1 j) i), u.2)) ∧ va_S (aB A s.heap.size) s.heap H locs ∧ lv_has ls 7 [(0, .ref (ar_ A j)), (1, .int p0), (2, .int p1), (3, .int p2), (4, .int (nI i))]) (by decide) ⟨tr_P hu_i hP, tr_D hu_i hD, hS, lv_sub hl [1, 2, 3, 4, 0] rfl⟩ ?_
  intro i H locs ls hz_i hi_i hI ih_i
  obtain ⟨hP, hD, hS, hl⟩ := hI
  refine lv_iload hx hb dX0_change_3 (lv_at hl 4 rfl) ?_
  refine lv_bipush (v := 63) hx hb dX0_change_5 (by decide) ?_
  refine lv_icmp_ge (tgt := 63) hx hb dX0_change_7 (by decide) (fun c1 => ?_) (fun c1 => ?_)
  · obtain rfl : i = 63 := lp_out (n := 63) rfl hi_i (by decide) c1
    exact W.vret hx hb hr (fun t9 ht9 hW => ⟨⟨(upM u.1 j (fl (chW (u.1 j) p0 p1 p2) (u.1 j) 63), u.2), rfl, rfl, by rw [ht9]; exact hP, va_K.moved hW.alike hK, hD⟩, hS.F ht9⟩) hS.2.2 dX0_change_63
  · have hlt_i : i < 63 := lp_in (n := 63) rfl hi_i c1
    refine lv_iload_n hx hb dX0_change_10 rfl (lv_at hl 3 rfl) ?_
    refine lv_bipush (v := 64) hx hb dX0_change_11 (by decide) ?_
    refine lv_iload hx hb dX0_change_13 (lv_at hl 4 rfl) ?_
    refine lv_imul hx hb dX0_change_15 ?_
    refine lv_isub hx hb dX0_change_16 ?_
    refine vp_callSl (W.runS (As := [.int (p2 - (64 * (nI i)))]) (rest := []) ⟨hx, hb, hml, hown, hts⟩ (c_X0_lowBits l (p2 - (64 * (nI i)))) (va_cwS 1 hts (gi_S hbc tw_73 tw_74 tw_2 tw_75) rfl rfl rfl (by decide +kernel) ⟨Nat.le_of_ble_eq_true rfl, Nat.le_of_ble_eq_true rfl⟩) preEq rfl rfl hl.1 rfl (lv_room (Nat.le_of_ble_eq_true rfl)) dX0_change_17 ⟨Nat.le_of_ble_eq_true rfl, Nat.le_of_ble_eq_true rfl⟩) (fun r hq => ?_)
    subst hq
    refine lv_iload_n hx hb dX0_change_20 rfl (lv_at hl 2 rfl) ?_
    refine lv_bipush (v := 64) hx hb dX0_change_21 (by decide) ?_
    refine lv_iload hx hb dX0_change_23 (lv_at hl 4 rfl) ?_
    refine lv_imul hx hb dX0_change_25 ?_
    refine lv_isub hx hb dX0_change_26 ?_
    refine vp_callSl (W.runS (As := [.int (p1 - (64 * (nI i)))]) (rest := [.long (fX0_lowBits (p2 - (64 * (nI i))))]) ⟨hx, hb, hml, hown, hts⟩ (c_X0_lowBits l (p1 - (64 * (nI i)))) (va_cwS 1 hts (gi_S hbc tw_73 tw_74 tw_2 tw_75) rfl rfl rfl (by decide +kernel) ⟨Nat.le_of_ble_eq_true rfl, Nat.le_of_ble_eq_true rfl⟩) preEq rfl rfl hl.1 rfl (lv_room (Nat.le_of_ble_eq_true rfl)) dX0_change_27 ⟨Nat.le_of_ble_eq_true rfl, Nat.le_of_ble_eq_true rfl⟩) (fun r hq => ?_)
    subst hq
    refine lv_ldc2 (v := (-1)) hx hb hown (hw _ tw_76) dX0_change_30 ?_
    refine lv_lxor hx hb dX0_change_33 ?_
    refine lv_land hx hb dX0_change_34 ?_
    refine lv_lstore (lv' := [(5, .long ((fX0_lowBits (p2 - (64 * (nI i)))) &&& ((fX0_lowBits (p1 - (64 * (nI i)))) ^^^ (-1)))), (0, .ref (ar_ A j)), (1, .int p0), (2, .int p1), (3, .int p2), (4, .int (nI i))]) hx hb dX0_change_35 hl (by decide) rfl (fun ls hl => ?_)
    refine lv_aload_n hx hb dX0_change_37 rfl (lv_at hl 1 rfl) ?_
    refine va_get (D := (dC, dI)) (ci := 0) (v := .ref (aw_ A j)) (C := RX0) (T := TX0) (N := 1) hx hb hw igX0 hown hK hP (4 + j) (wB_row A (upM u.1 j (fl (chW (u.1 j) p0 p1 p2) (u.1 j) i), u.2) hj) rfl 0 (by decide) (hw _ tw_22) (fun _ h9 => h9) rfl dX0_change_38 ?_
    refine lv_iload hx hb dX0_change_41 (lv_at hl 5 rfl) ?_
    refine lv_aload_n hx hb dX0_change_43 rfl (lv_at hl 1 rfl) ?_
    refine va_get (D := (dC, dI)) (ci := 0) (v := .ref (aw_ A j)) (C := RX0) (T := TX0) (N := 1) hx hb hw igX0 hown hK hP (4 + j) (wB_row A (upM u.1 j (fl (chW (u.1 j) p0 p1 p2) (u.1 j) i), u.2) hj) rfl 0 (by decide) (hw _ tw_22) (fun _ h9 => h9) rfl dX0_change_44 ?_
    refine lv_iload hx hb dX0_change_47 (lv_at hl 5 rfl) ?_
    refine va_lald hx hb hK hP (8 + j) (2 + j) (wB_wds A (upM u.1 j (fl (chW (u.1 j) p0 p1 p2) (u.1 j) i), u.2) hj) (tyB_wds A hj) (vp_in_nI (by omega) (by omega)) dX0_change_49 ?_
    rw [nI_clamp (n := i) (by omega)]
    refine lv_iload_n hx hb dX0_change_50 rfl (lv_at hl 2 rfl) ?_
    refine lv_lload hx hb dX0_change_51 (lv_at hl 0 rfl) ?_
    refine vp_callSl (W.runS (As := [.long ((upM u.1 j (fl (chW (u.1 j) p0 p1 p2) (u.1 j) i), u.2).1 j i), .int p0, .long ((fX0_lowBits (p2 - (64 * (nI i)))) &&& ((fX0_lowBits (p1 - (64 * (nI i)))) ^^^ (-1)))]) (rest := [.int (nI i), .ref (aw_ A j)]) ⟨hx, hb, hml, hown, hts⟩ (c_X0_changed l ((upM u.1 j (fl (chW (u.1 j) p0 p1 p2) (u.1 j) i), u.2).1 j i) p0 ((fX0_lowBits (p2 - (64 * (nI i)))) &&& ((fX0_lowBits (p1 - (64 * (nI i)))) ^^^ (-1)))) (va_cwS 3 hts (gi_S hbc tw_77 tw_78 tw_2 tw_79) rfl rfl rfl (by decide +kernel) ⟨Nat.le_of_ble_eq_true rfl, Nat.le_of_ble_eq_true rfl⟩) preEq rfl rfl hl.1 rfl (lv_room (Nat.le_of_ble_eq_true rfl)) dX0_change_53 ⟨Nat.le_of_ble_eq_true rfl, Nat.le_of_ble_eq_true rfl⟩) (fun r hq => ?_)
    subst hq
    refine va_last hx hb hK hP hD hS (8 + j) (2 + j) (wB_wds A (upM u.1 j (fl (chW (u.1 j) p0 p1 p2) (u.1 j) i), u.2) hj) (tyB_wds A hj) (vp_in_nI (by omega) (by omega)) dX0_change_56 (fun H locs hP hD hS => ?_)
    rw [nI_clamp (n := i) (by omega)] at hP hD
    have hP : va_P (dC, dI) bwCl (wB A (upM (upM u.1 j (fl (chW (u.1 j) p0 p1 p2) (u.1 j) i), u.2).1 j (vp_updL ((upM u.1 j (fl (chW (u.1 j) p0 p1 p2) (u.1 j) i), u.2).1 j) i (fX0_changed ((upM u.1 j (fl (chW (u.1 j) p0 p1 p2) (u.1 j) i), u.2).1 j i) p0 ((fX0_lowBits (p2 - (64 * (nI i)))) &&& ((fX0_lowBits (p1 - (64 * (nI i)))) ^^^ (-1))))), (upM u.1 j (fl (chW (u.1 j) p0 p1 p2) (u.1 j) i), u.2).2)) H := st_P hj hP
    have hD : va_D (aB A s.heap.size) (wB A (upM (upM u.1 j (fl (chW (u.1 j) p0 p1 p2) (u.1 j) i), u.2).1 j (vp_updL ((upM u.1 j (fl (chW (u.1 j) p0 p1 p2) (u.1 j) i), u.2).1 j) i (fX0_changed ((upM u.1 j (fl (chW (u.1 j) p0 p1 p2) (u.1 j) i), u.2).1 j i) p0 ((fX0_lowBits (p2 - (64 * (nI i)))) &&& ((fX0_lowBits (p1 - (64 * (nI i)))) ^^^ (-1))))), (upM u.1 j (fl (chW (u.1 j) p0 p1 p2) (u.1 j) i), u.2).2)) := st_D hj hD
    refine lv_iinc (v := nI (i + 1)) (lv' := [(4, .int (nI (i + 1))), (5, .long ((fX0_lowBits (p2 - (64 * (nI i)))) &&& ((fX0_lowBits (p1 - (64 * (nI i)))) ^^^ (-1)))), (0, .ref (ar_ A j)), (1, .int p0), (2, .int p1), (3, .int p2)]) hx hb dX0_change_57 hl (k := 5) rfl (nI_1 _) (by decide) rfl (fun ls hl => ?_)
    refine lv_goto (tgt := 3) hx hb dX0_change_60 (by decide) ?_
    have hv_i : (upM (upM u.1 j (fl (chW (u.1 j) p0 p1 p2) (u.1 j) i), u.2).1 j (vp_updL ((upM u.1 j (fl (chW (u.1 j) p0 p1 p2) (u.1 j) i), u.2).1 j) i (fX0_changed ((upM u.1 j (fl (chW (u.1 j) p0 p1 p2) (u.1 j) i), u.2).1 j i) p0 ((fX0_lowBits (p2 - (64 * (nI i)))) &&& ((fX0_lowBits (p1 - (64 * (nI i)))) ^^^ (-1))))), (upM u.1 j (fl (chW (u.1 j) p0 p1 p2) (u.1 j) i), u.2).2) = (upM u.1 j (fl (chW (u.1 j) p0 p1 p2) (u.1 j) (i + 1)), u.2) := fl_uS _ u j i (congrArg (fun x => fX0_changed x p0 (mkC p1 p2 i)) (fl_rd _ u.1 j j (Nat.le_refl i)))
    exact ih_i _ _ _ (by omega) ⟨tr_P hv_i hP, tr_D hv_i hD, hS, lv_sub hl [2, 3, 4, 5, 0] rfl⟩
set_option maxHeartbeats 4000000 in
set_option maxRecDepth 100000 in
theorem c_X0_firstFrom (l : Launch) (dC : Nat → ClassId) (dI : Nat → Nat → Nat) (A : AdB) (u : StB) {j : Nat} (hj : j < 4) (p0 : Int32) (p1 : Int64) : gMi l yX0_firstFrom wX0_firstFrom ({ frames := 2, cells := 0, slots := 0, locals := 43 }) (dC, dI) bwCl (tyB A) (wB A) (aB A) [.ref (ar_ A j), .int p0, .long p1] u (fun r v => pFF (u.1 j) p0 p1 r ∧ u = v) := by
  unfold gMi
  intro sz
  refine Met.ofW (cc := cX0_firstFrom) (maxL := 7) (ret := (some .int)) (by decide) rfl ?_
  intro p e s m args below meth c s₁ B hml hv
  obtain ⟨rfl, hsz, hP, hK, hD⟩ := hv
  subst hsz
  have hS : va_S (aB A s.heap.size) s.heap s.heap [] := va_S.rf
  have hx := B.exec
  have hb := B.bytes
  have hr := B.returns
  have hts := atoms_spec (ws := wX0_firstFrom) B.pre
  have hw : ∀ w ∈ tg_, w.before _ s = true := fun w h => hts w (List.mem_cons_of_mem _ h)
  have hown : s.vm.findClass RX0 = some m.cls := findClass_of_methodNamed B.named
  have hlocks := B.notSynchronized
  have hl := lv_entry ([.ref (ar_ A j), .int p0, .long p1]) (n := 7) (Nat.le_of_ble_eq_true rfl)
  rw [lg_entry_eq]
  generalize (lg_sl ([.ref (ar_ A j), .int p0, .long p1]) ++ List.replicate (7 - (lg_sl ([.ref (ar_ A j), .int p0, .long p1])).length) Slot.unset).toArray = ls at hl ⊢
  have hl : lv_has ls 7 [(0, .ref (ar_ A j)), (1, .int p0), (2, .long p1)] := hl
  refine lv_iconst (v := 0) hx hb dX0_firstFrom_0 (by decide) ?_
  refine lv_istore (lv' := [(4, .int 0), (0, .ref (ar_ A j)), (1, .int p0), (2, .long p1)]) hx hb dX0_firstFrom_1 hl (by decide) rfl (fun ls hl => ?_)
  have hu_i : u = u := rfl
  refine w_loop (N := 63) (i0 := 0) (fun i H locs ls => va_P (dC, dI) bwCl (wB A u) H ∧ va_D (aB A s.heap.size) (wB A u) ∧ va_S (aB A s.heap.size) s.heap H locs ∧ lv_has ls 7 [(0, .ref (ar_ A j)), (1, .int p0), (2, .long p1), (4, .int (nI i))] ∧ (∀ k, k < i → ffW (u.1 j) p0 p1 k = 0)) (by decide) ⟨tr_P hu_i hP, tr_D hu_i hD, hS, lv_sub hl [1, 2, 3, 0] rfl, lt_0⟩ ?_
  intro i H locs ls hz_i hi_i hI ih_i
  obtain ⟨hP, hD, hS, hl, hF_i⟩ := hI
  refine lv_iload hx hb dX0_firstFrom_3 (lv_at hl 3 rfl) ?_
  refine lv_bipush (v := 63) hx hb dX0_firstFrom_5 (by decide) ?_
  refine lv_icmp_ge (tgt := 61) hx hb dX0_firstFrom_7 (by decide) (fun c1 => ?_) (fun c1 => ?_)
  · obtain rfl : i = 63 := lp_out (n := 63) rfl hi_i (by decide) c1
    refine lv_iconst (v := -1) hx hb dX0_firstFrom_61 (by decide) ?_
    exact W.iret hx hb hr (fun t9 ht9 hW => ⟨⟨_, u, rfl, ⟨Or.inr ⟨hF_i, rfl⟩, rfl⟩, by rw [ht9]; exact hP, va_K.moved hW.alike hK, hD⟩, hS.F ht9⟩) hS.2.2 dX0_firstFrom_62
  · have hlt_i : i < 63 := lp_in (n := 63) rfl hi_i c1
    refine lv_aload_n hx hb dX0_firstFrom_10 rfl (lv_at hl 0 rfl) ?_
    refine va_get (D := (dC, dI)) (ci := 0) (v := .ref (aw_ A j)) (C := RX0) (T := TX0) (N := 1) hx hb hw igX0 hown hK hP (4 + j) (wB_row A u hj) rfl 0 (by decide) (hw _ tw_22) (fun _ h9 => h9) rfl dX0_firstFrom_11 ?_
    refine lv_iload hx hb dX0_firstFrom_14 (lv_at hl 3 rfl) ?_
    refine va_lald hx hb hK hP (8 + j) (2 + j) (wB_wds A u hj) (tyB_wds A hj) (vp_in_nI (by omega) (by omega)) dX0_firstFrom_16 ?_
    rw [nI_clamp (n := i) (by omega)]
    refine lv_lload_n hx hb dX0_firstFrom_17 rfl (lv_at hl 2 rfl) ?_
    refine lv_lxor hx hb dX0_firstFrom_18 ?_
    refine lv_iload_n hx hb dX0_firstFrom_19 rfl (lv_at hl 1 rfl) ?_
    refine lv_bipush (v := 64) hx hb dX0_firstFrom_20 (by decide) ?_
    refine lv_iload hx hb dX0_firstFrom_22 (lv_at hl 3 rfl) ?_
    refine lv_imul hx hb dX0_firstFrom_24 ?_
    refine lv_isub hx hb dX0_firstFrom_25 ?_
    refine vp_callSl (W.runS (As := [.int (p0 - (64 * (nI i)))]) (rest := [.long ((u.1 j i) ^^^ p1)]) ⟨hx, hb, hml, hown, hts⟩ (c_X0_lowBits l (p0 - (64 * (nI i)))) (va_cwS 1 hts (gi_S hbc tw_73 tw_74 tw_2 tw_75) rfl rfl rfl (by decide +kernel) ⟨Nat.le_of_ble_eq_true rfl, Nat.le_of_ble_eq_true rfl⟩) preEq rfl rfl hl.1 rfl (lv_room (Nat.le_of_ble_eq_true rfl)) dX0_firstFrom_26 ⟨Nat.le_of_ble_eq_true rfl, Nat.le_of_ble_eq_true rfl⟩) (fun r hq => ?_)
    subst hq
    refine lv_ldc2 (v := (-1)) hx hb hown (hw _ tw_76) dX0_firstFrom_29 ?_
    refine lv_lxor hx hb dX0_firstFrom_32 ?_
    refine lv_land hx hb dX0_firstFrom_33 ?_
    refine lv_lstore (lv' := [(5, .long (((u.1 j i) ^^^ p1) &&& ((fX0_lowBits (p0 - (64 * (nI i)))) ^^^ (-1)))), (0, .ref (ar_ A j)), (1, .int p0), (2, .long p1), (4, .int (nI i))]) hx hb dX0_firstFrom_34 hl (by decide) rfl (fun ls hl => ?_)
    refine lv_lload hx hb dX0_firstFrom_36 (lv_at hl 0 rfl) ?_
    refine lv_lconst (v := 0) hx hb dX0_firstFrom_38 (by decide) ?_
    refine W.lcmp hx hb dX0_firstFrom_39 ?_
    refine lv_if_eq (tgt := 55) hx hb dX0_firstFrom_40 (by decide) (fun c2 => ?_) (fun c2 => ?_)
    · refine lv_iinc (v := nI (i + 1)) (lv' := [(4, .int (nI (i + 1))), (5, .long (((u.1 j i) ^^^ p1) &&& ((fX0_lowBits (p0 - (64 * (nI i)))) ^^^ (-1)))), (0, .ref (ar_ A j)), (1, .int p0), (2, .long p1)]) hx hb dX0_firstFrom_55 hl (k := 4) rfl (nI_1 _) (by decide) rfl (fun ls hl => ?_)
      refine lv_goto (tgt := 3) hx hb dX0_firstFrom_58 (by decide) ?_
      have hv_i : u = u := rfl
      exact ih_i _ _ _ (by omega) ⟨tr_P hv_i hP, tr_D hv_i hD, hS, lv_sub hl [2, 3, 4, 0] rfl, lt_s hF_i ((lg_cmp_eq _ _).mp c2)⟩
    · refine lv_bipush (v := 64) hx hb dX0_firstFrom_43 (by decide) ?_
      refine lv_iload hx hb dX0_firstFrom_45 (lv_at hl 4 rfl) ?_
      refine lv_imul hx hb dX0_firstFrom_47 ?_
      refine lv_lload hx hb dX0_firstFrom_48 (lv_at hl 0 rfl) ?_
      refine vp_callSi (W.runS (As := [.long (((u.1 j i) ^^^ p1) &&& ((fX0_lowBits (p0 - (64 * (nI i)))) ^^^ (-1)))]) (rest := [.int (64 * (nI i))]) ⟨hx, hb, hml, hown, hts⟩ (c_J7_numberOfTrailingZeros l (((u.1 j i) ^^^ p1) &&& ((fX0_lowBits (p0 - (64 * (nI i)))) ^^^ (-1)))) (va_cwS 1 hts (gi_S hbc tw_109 tw_110 tw_5 tw_111) rfl rfl rfl (by decide +kernel) ⟨Nat.le_of_ble_eq_true rfl, Nat.le_of_ble_eq_true rfl⟩) preEq rfl rfl hl.1 rfl (lv_room (Nat.le_of_ble_eq_true rfl)) dX0_firstFrom_50 ⟨Nat.le_of_ble_eq_true rfl, Nat.le_of_ble_eq_true rfl⟩) (fun r hq => ?_)
      subst hq
      refine lv_iadd hx hb dX0_firstFrom_53 ?_
      exact W.iret hx hb hr (fun t9 ht9 hW => ⟨⟨_, u, rfl, ⟨Or.inl ⟨i, hlt_i, hF_i, fun h => c2 ((lg_cmp_eq _ _).mpr h), rfl⟩, rfl⟩, by rw [ht9]; exact hP, va_K.moved hW.alike hK, hD⟩, hS.F ht9⟩) hS.2.2 dX0_firstFrom_54
set_option maxHeartbeats 4000000 in
set_option maxRecDepth 100000 in
theorem c_X0_lastUpTo (l : Launch) (dC : Nat → ClassId) (dI : Nat → Nat → Nat) (A : AdB) (u : StB) {j : Nat} (hj : j < 4) (p0 : Int32) (p1 : Int64) : gMi l yX0_lastUpTo wX0_lastUpTo ({ frames := 2, cells := 0, slots := 0, locals := 43 }) (dC, dI) bwCl (tyB A) (wB A) (aB A) [.ref (ar_ A j), .int p0, .long p1] u (fun r v => pLU (u.1 j) p0 p1 r ∧ u = v) := by
  unfold gMi
  intro sz
  refine Met.ofW (cc := cX0_lastUpTo) (maxL := 7) (ret := (some .int)) (by decide) rfl ?_
  intro p e s m args below meth c s₁ B hml hv
  obtain ⟨rfl, hsz, hP, hK, hD⟩ := hv
  subst hsz
  have hS : va_S (aB A s.heap.size) s.heap s.heap [] := va_S.rf
  have hx := B.exec
  have hb := B.bytes
  have hr := B.returns
  have hts := atoms_spec (ws := wX0_lastUpTo) B.pre
  have hw : ∀ w ∈ tg_, w.before _ s = true := fun w h => hts w (List.mem_cons_of_mem _ h)
  have hown : s.vm.findClass RX0 = some m.cls := findClass_of_methodNamed B.named
  have hlocks := B.notSynchronized
  have hl := lv_entry ([.ref (ar_ A j), .int p0, .long p1]) (n := 7) (Nat.le_of_ble_eq_true rfl)
  rw [lg_entry_eq]
  generalize (lg_sl ([.ref (ar_ A j), .int p0, .long p1]) ++ List.replicate (7 - (lg_sl ([.ref (ar_ A j), .int p0, .long p1])).length) Slot.unset).toArray = ls at hl ⊢
  have hl : lv_has ls 7 [(0, .ref (ar_ A j)), (1, .int p0), (2, .long p1)] := hl
  refine lv_bipush (v := 62) hx hb dX0_lastUpTo_0 (by decide) ?_
  refine lv_istore (lv' := [(4, .int 62), (0, .ref (ar_ A j)), (1, .int p0), (2, .long p1)]) hx hb dX0_lastUpTo_2 hl (by decide) rfl (fun ls hl => ?_)
  refine w_loopD (N := 63) (fun i H locs ls => va_P (dC, dI) bwCl (wB A u) H ∧ va_D (aB A s.heap.size) (wB A u) ∧ va_S (aB A s.heap.size) s.heap H locs ∧ lv_has ls 7 [(0, .ref (ar_ A j)), (1, .int p0), (2, .long p1), (4, .int (iD i))] ∧ (∀ k, i ≤ k → k < 63 → luW (u.1 j) p0 p1 k = 0)) ⟨hP, hD, hS, lv_sub hl [1, 2, 3, 0] rfl, fun k h1 h2 => absurd h2 (by omega)⟩ ?_ ?_
  · intro H locs ls hI
    obtain ⟨hP, hD, hS, hl, hF⟩ := hI
    have hl : lv_has ls 7 [(0, .ref (ar_ A j)), (1, .int p0), (2, .long p1), (4, .int (-1))] := hl
    refine lv_iload hx hb dX0_lastUpTo_4 (lv_at hl 3 rfl) ?_
    refine lv_if_lt (tgt := 61) hx hb dX0_lastUpTo_6 (by decide) (fun c1 => ?_) (fun c1 => ?_)
    · refine lv_iconst (v := -1) hx hb dX0_lastUpTo_61 (by decide) ?_
      exact W.iret hx hb hr (fun t9 ht9 hW => ⟨⟨_, u, rfl, ⟨Or.inr ⟨fun k hk => hF k (Nat.zero_le _) hk, rfl⟩, rfl⟩, by rw [ht9]; exact hP, va_K.moved hW.alike hK, hD⟩, hS.F ht9⟩) hS.2.2 dX0_lastUpTo_62
    · exact absurd (by decide) c1
  · intro i H locs ls hlt hI ih
    obtain ⟨hP, hD, hS, hl, hF⟩ := hI
    have hl : lv_has ls 7 [(0, .ref (ar_ A j)), (1, .int p0), (2, .long p1), (4, .int (nI i))] := hl
    refine lv_iload hx hb dX0_lastUpTo_4 (lv_at hl 3 rfl) ?_
    refine lv_if_lt (tgt := 61) hx hb dX0_lastUpTo_6 (by decide) (fun c2 => ?_) (fun c2 => ?_)
    · exact absurd c2 (nI_pos (by omega))
    · refine lv_aload_n hx hb dX0_lastUpTo_9 rfl (lv_at hl 0 rfl) ?_
      refine va_get (D := (dC, dI)) (ci := 0) (v := .ref (aw_ A j)) (C := RX0) (T := TX0) (N := 1) hx hb hw igX0 hown hK hP (4 + j) (wB_row A u hj) rfl 0 (by decide) (hw _ tw_22) (fun _ h9 => h9) rfl dX0_lastUpTo_10 ?_
      refine lv_iload hx hb dX0_lastUpTo_13 (lv_at hl 3 rfl) ?_
      refine va_lald hx hb hK hP (8 + j) (2 + j) (wB_wds A u hj) (tyB_wds A hj) (vp_in_nI (by omega) (by omega)) dX0_lastUpTo_15 ?_
      rw [nI_clamp (n := i) (by omega)]
      refine lv_lload_n hx hb dX0_lastUpTo_16 rfl (lv_at hl 2 rfl) ?_
      refine lv_lxor hx hb dX0_lastUpTo_17 ?_
      refine lv_iload_n hx hb dX0_lastUpTo_18 rfl (lv_at hl 1 rfl) ?_
      refine lv_iconst (v := 1) hx hb dX0_lastUpTo_19 (by decide) ?_
      refine lv_iadd hx hb dX0_lastUpTo_20 ?_
      refine lv_bipush (v := 64) hx hb dX0_lastUpTo_21 (by decide) ?_
      refine lv_iload hx hb dX0_lastUpTo_23 (lv_at hl 3 rfl) ?_
      refine lv_imul hx hb dX0_lastUpTo_25 ?_
      refine lv_isub hx hb dX0_lastUpTo_26 ?_
      refine vp_callSl (W.runS (As := [.int ((p0 + 1) - (64 * (nI i)))]) (rest := [.long ((u.1 j i) ^^^ p1)]) ⟨hx, hb, hml, hown, hts⟩ (c_X0_lowBits l ((p0 + 1) - (64 * (nI i)))) (va_cwS 1 hts (gi_S hbc tw_73 tw_74 tw_2 tw_75) rfl rfl rfl (by decide +kernel) ⟨Nat.le_of_ble_eq_true rfl, Nat.le_of_ble_eq_true rfl⟩) preEq rfl rfl hl.1 rfl (lv_room (Nat.le_of_ble_eq_true rfl)) dX0_lastUpTo_27 ⟨Nat.le_of_ble_eq_true rfl, Nat.le_of_ble_eq_true rfl⟩) (fun r hq => ?_)
      subst hq
      refine lv_land hx hb dX0_lastUpTo_30 ?_
      refine lv_lstore (lv' := [(5, .long (((u.1 j i) ^^^ p1) &&& (fX0_lowBits ((p0 + 1) - (64 * (nI i)))))), (0, .ref (ar_ A j)), (1, .int p0), (2, .long p1), (4, .int (nI i))]) hx hb dX0_lastUpTo_31 hl (by decide) rfl (fun ls hl => ?_)
      refine lv_lload hx hb dX0_lastUpTo_33 (lv_at hl 0 rfl) ?_
      refine lv_lconst (v := 0) hx hb dX0_lastUpTo_35 (by decide) ?_
      refine W.lcmp hx hb dX0_lastUpTo_36 ?_
      refine lv_if_eq (tgt := 55) hx hb dX0_lastUpTo_37 (by decide) (fun c3 => ?_) (fun c3 => ?_)
      · refine lv_iinc (v := iD i) (lv' := [(4, .int (iD i)), (5, .long (((u.1 j i) ^^^ p1) &&& (fX0_lowBits ((p0 + 1) - (64 * (nI i)))))), (0, .ref (ar_ A j)), (1, .int p0), (2, .long p1)]) hx hb dX0_lastUpTo_55 hl (k := 4) rfl (iD_m1 _) (by decide) rfl (fun ls hl => ?_)
        refine lv_goto (tgt := 4) hx hb dX0_lastUpTo_58 (by decide) ?_
        exact ih _ _ _ ⟨hP, hD, hS, lv_sub hl [2, 3, 4, 0] rfl, lu_s hF ((lg_cmp_eq _ _).mp c3)⟩
      · refine lv_bipush (v := 64) hx hb dX0_lastUpTo_40 (by decide) ?_
        refine lv_iload hx hb dX0_lastUpTo_42 (lv_at hl 4 rfl) ?_
        refine lv_imul hx hb dX0_lastUpTo_44 ?_
        refine lv_bipush (v := 63) hx hb dX0_lastUpTo_45 (by decide) ?_
        refine lv_iadd hx hb dX0_lastUpTo_47 ?_
        refine lv_lload hx hb dX0_lastUpTo_48 (lv_at hl 0 rfl) ?_
        refine vp_callSi (W.runS (As := [.long (((u.1 j i) ^^^ p1) &&& (fX0_lowBits ((p0 + 1) - (64 * (nI i)))))]) (rest := [.int ((64 * (nI i)) + 63)]) ⟨hx, hb, hml, hown, hts⟩ (c_J7_numberOfLeadingZeros l (((u.1 j i) ^^^ p1) &&& (fX0_lowBits ((p0 + 1) - (64 * (nI i)))))) (va_cwS 1 hts (gi_S hbc tw_121 tw_122 tw_5 tw_123) rfl rfl rfl (by decide +kernel) ⟨Nat.le_of_ble_eq_true rfl, Nat.le_of_ble_eq_true rfl⟩) preEq rfl rfl hl.1 rfl (lv_room (Nat.le_of_ble_eq_true rfl)) dX0_lastUpTo_50 ⟨Nat.le_of_ble_eq_true rfl, Nat.le_of_ble_eq_true rfl⟩) (fun r hq => ?_)
        subst hq
        refine lv_isub hx hb dX0_lastUpTo_53 ?_
        exact W.iret hx hb hr (fun t9 ht9 hW => ⟨⟨_, u, rfl, ⟨Or.inl ⟨i, hlt, fun k h1 h2 => hF k h1 h2, fun h => c3 ((lg_cmp_eq _ _).mpr h), rfl⟩, rfl⟩, by rw [ht9]; exact hP, va_K.moved hW.alike hK, hD⟩, hS.F ht9⟩) hS.2.2 dX0_lastUpTo_54
set_option maxHeartbeats 4000000 in
set_option maxRecDepth 100000 in
theorem c_X0_end (l : Launch) (dC : Nat → ClassId) (dI : Nat → Nat → Nat) (A : AdB) (u : StB) {j : Nat} (hj : j < 4) : gMi l yX0_end wX0_end ({ frames := 3, cells := 0, slots := 0, locals := 69 }) (dC, dI) bwCl (tyB A) (wB A) (aB A) [.ref (ar_ A j)] u (fun r v => (∃ q, pLU (u.1 j) 4000 0 q ∧ r = q + 1) ∧ u = v) := by
  unfold gMi
  intro sz
  refine Met.ofW (cc := cX0_end) (maxL := 1) (ret := (some .int)) (by decide) rfl ?_
  intro p e s m args below meth c s₁ B hml hv
  obtain ⟨rfl, hsz, hP, hK, hD⟩ := hv
  subst hsz
  have hS : va_S (aB A s.heap.size) s.heap s.heap [] := va_S.rf
  have hx := B.exec
  have hb := B.bytes
  have hr := B.returns
  have hts := atoms_spec (ws := wX0_end) B.pre
  have hw : ∀ w ∈ tg_, w.before _ s = true := fun w h => hts w (List.mem_cons_of_mem _ h)
  have hown : s.vm.findClass RX0 = some m.cls := findClass_of_methodNamed B.named
  have hlocks := B.notSynchronized
  have hl := lv_entry ([.ref (ar_ A j)]) (n := 1) (Nat.le_of_ble_eq_true rfl)
  rw [lg_entry_eq]
  generalize (lg_sl ([.ref (ar_ A j)]) ++ List.replicate (1 - (lg_sl ([.ref (ar_ A j)])).length) Slot.unset).toArray = ls at hl ⊢
  have hl : lv_has ls 1 [(0, .ref (ar_ A j))] := hl
  refine lv_aload_n hx hb dX0_end_0 rfl (lv_at hl 0 rfl) ?_
  refine lv_sipush (v := 4000) hx hb dX0_end_1 (by decide) ?_
  refine lv_lconst (v := 0) hx hb dX0_end_4 (by decide) ?_
  refine gVi (As := [.int 4000, .long 0]) (rest := []) ⟨hx, hb, hml, hown, hts⟩ (c_X0_lastUpTo l dC dI A u hj 4000 0) (cwV 2 hts (gi_V hbc tw_162 tw_118 tw_119 tw_2 tw_120) rfl rfl rfl (by decide +kernel) ⟨Nat.le_of_ble_eq_true rfl, Nat.le_of_ble_eq_true rfl⟩) (va_recv hK hP (ci := 0) (q0 := (4 + j)) rfl (wB_row A u hj)) aB_mono aB_D hP hK hD hS rfl hl.1 rfl (Nat.le_of_ble_eq_true rfl) dX0_end_5 ⟨Nat.le_of_ble_eq_true rfl, Nat.le_of_ble_eq_true rfl⟩ (fun r1 v3 H locs hq2 hP hD hS => ?_)
  obtain ⟨hq2, rfl⟩ := hq2
  refine lv_iconst (v := 1) hx hb dX0_end_8 (by decide) ?_
  refine lv_iadd hx hb dX0_end_9 ?_
  exact W.iret hx hb hr (fun t9 ht9 hW => ⟨⟨_, u, rfl, ⟨⟨_, hq2, rfl⟩, rfl⟩, by rw [ht9]; exact hP, va_K.moved hW.alike hK, hD⟩, hS.F ht9⟩) hS.2.2 dX0_end_10
set_option maxHeartbeats 4000000 in
set_option maxRecDepth 100000 in
theorem c_X0_combine (l : Launch) (dC : Nat → ClassId) (dI : Nat → Nat → Nat) (A : AdB) (u : StB) {j o : Nat} (hj : j < 4) (ho : o < 4) (p0 : Int32) : gMv l yX0_combine wX0_combine ({ frames := 1, cells := 0, slots := 0, locals := 24 }) (dC, dI) bwCl (tyB A) (wB A) (aB A) [.ref (ar_ A j), .int p0, .ref (ar_ A o)] u (fun v => (upM u.1 j (fl (cbW (u.1 j) (u.1 o) p0) (u.1 j) 63), u.2) = v) := by
  unfold gMv
  intro sz
  refine Met.ofW (cc := cX0_combine) (maxL := 4) (ret := none) (by decide) rfl ?_
  intro p e s m args below meth c s₁ B hml hv
  obtain ⟨rfl, hsz, hP, hK, hD⟩ := hv
  subst hsz
  have hS : va_S (aB A s.heap.size) s.heap s.heap [] := va_S.rf
  have hx := B.exec
  have hb := B.bytes
  have hr := B.returns
  have hts := atoms_spec (ws := wX0_combine) B.pre
  have hw : ∀ w ∈ tg_, w.before _ s = true := fun w h => hts w (List.mem_cons_of_mem _ h)
  have hown : s.vm.findClass RX0 = some m.cls := findClass_of_methodNamed B.named
  have hlocks := B.notSynchronized
  have hl := lv_entry ([.ref (ar_ A j), .int p0, .ref (ar_ A o)]) (n := 4) (Nat.le_of_ble_eq_true rfl)
  rw [lg_entry_eq]
  generalize (lg_sl ([.ref (ar_ A j), .int p0, .ref (ar_ A o)]) ++ List.replicate (4 - (lg_sl ([.ref (ar_ A j), .int p0, .ref (ar_ A o)])).length) Slot.unset).toArray = ls at hl ⊢
  have hl : lv_has ls 4 [(0, .ref (ar_ A j)), (1, .int p0), (2, .ref (ar_ A o))] := hl
  refine lv_iconst (v := 0) hx hb dX0_combine_0 (by decide) ?_
  refine lv_istore_n (lv' := [(3, .int 0), (0, .ref (ar_ A j)), (1, .int p0), (2, .ref (ar_ A o))]) hx hb dX0_combine_1 rfl hl (by decide) rfl (fun ls hl => ?_)
  have hu_i : u = (upM u.1 j (fl (cbW (u.1 j) (u.1 o) p0) (u.1 j) 0), u.2) := fl_u0 _ u j
  refine w_loop (N := 63) (i0 := 0) (fun i H locs ls => va_P (dC, dI) bwCl (wB A (upM u.1 j (fl (cbW (u.1 j) (u.1 o) p0) (u.1 j) i), u.2)) H ∧ va_D (aB A s.heap.size) (wB A (upM u.1 j (fl (cbW (u.1 j) (u.1 o) p0) (u.1 j) i), u.2)) ∧ va_S (aB A s.heap.size) s.heap H locs ∧ lv_has ls 4 [(0, .ref (ar_ A j)), (1, .int p0), (2, .ref (ar_ A o)), (3, .int (nI i))]) (by decide) ⟨tr_P hu_i hP, tr_D hu_i hD, hS, lv_sub hl [1, 2, 3, 0] rfl⟩ ?_
  intro i H locs ls hz_i hi_i hI ih_i
  obtain ⟨hP, hD, hS, hl⟩ := hI
  refine lv_iload_n hx hb dX0_combine_2 rfl (lv_at hl 3 rfl) ?_
  refine lv_bipush (v := 63) hx hb dX0_combine_3 (by decide) ?_
  refine lv_icmp_ge (tgt := 36) hx hb dX0_combine_5 (by decide) (fun c1 => ?_) (fun c1 => ?_)
  · obtain rfl : i = 63 := lp_out (n := 63) rfl hi_i (by decide) c1
    exact W.vret hx hb hr (fun t9 ht9 hW => ⟨⟨(upM u.1 j (fl (cbW (u.1 j) (u.1 o) p0) (u.1 j) 63), u.2), rfl, rfl, by rw [ht9]; exact hP, va_K.moved hW.alike hK, hD⟩, hS.F ht9⟩) hS.2.2 dX0_combine_36
  · have hlt_i : i < 63 := lp_in (n := 63) rfl hi_i c1
    refine lv_aload_n hx hb dX0_combine_8 rfl (lv_at hl 0 rfl) ?_
    refine va_get (D := (dC, dI)) (ci := 0) (v := .ref (aw_ A j)) (C := RX0) (T := TX0) (N := 1) hx hb hw igX0 hown hK hP (4 + j) (wB_row A (upM u.1 j (fl (cbW (u.1 j) (u.1 o) p0) (u.1 j) i), u.2) hj) rfl 0 (by decide) (hw _ tw_22) (fun _ h9 => h9) rfl dX0_combine_9 ?_
    refine lv_iload_n hx hb dX0_combine_12 rfl (lv_at hl 3 rfl) ?_
    refine lv_aload_n hx hb dX0_combine_13 rfl (lv_at hl 0 rfl) ?_
    refine va_get (D := (dC, dI)) (ci := 0) (v := .ref (aw_ A j)) (C := RX0) (T := TX0) (N := 1) hx hb hw igX0 hown hK hP (4 + j) (wB_row A (upM u.1 j (fl (cbW (u.1 j) (u.1 o) p0) (u.1 j) i), u.2) hj) rfl 0 (by decide) (hw _ tw_22) (fun _ h9 => h9) rfl dX0_combine_14 ?_
    refine lv_iload_n hx hb dX0_combine_17 rfl (lv_at hl 3 rfl) ?_
    refine va_lald hx hb hK hP (8 + j) (2 + j) (wB_wds A (upM u.1 j (fl (cbW (u.1 j) (u.1 o) p0) (u.1 j) i), u.2) hj) (tyB_wds A hj) (vp_in_nI (by omega) (by omega)) dX0_combine_18 ?_
    rw [nI_clamp (n := i) (by omega)]
    refine lv_iload_n hx hb dX0_combine_19 rfl (lv_at hl 1 rfl) ?_
    refine lv_aload_n hx hb dX0_combine_20 rfl (lv_at hl 2 rfl) ?_
    refine va_get (D := (dC, dI)) (ci := 0) (v := .ref (aw_ A o)) (C := RX0) (T := TX0) (N := 1) hx hb hw igX0 hown hK hP (4 + o) (wB_row A (upM u.1 j (fl (cbW (u.1 j) (u.1 o) p0) (u.1 j) i), u.2) ho) rfl 0 (by decide) (hw _ tw_22) (fun _ h9 => h9) rfl dX0_combine_21 ?_
    refine lv_iload_n hx hb dX0_combine_24 rfl (lv_at hl 3 rfl) ?_
    refine va_lald hx hb hK hP (8 + o) (2 + o) (wB_wds A (upM u.1 j (fl (cbW (u.1 j) (u.1 o) p0) (u.1 j) i), u.2) ho) (tyB_wds A ho) (vp_in_nI (by omega) (by omega)) dX0_combine_25 ?_
    rw [nI_clamp (n := i) (by omega)]
    refine vp_callSl (W.runS (As := [.long ((upM u.1 j (fl (cbW (u.1 j) (u.1 o) p0) (u.1 j) i), u.2).1 j i), .int p0, .long ((upM u.1 j (fl (cbW (u.1 j) (u.1 o) p0) (u.1 j) i), u.2).1 o i)]) (rest := [.int (nI i), .ref (aw_ A j)]) ⟨hx, hb, hml, hown, hts⟩ (c_X0_combined l ((upM u.1 j (fl (cbW (u.1 j) (u.1 o) p0) (u.1 j) i), u.2).1 j i) p0 ((upM u.1 j (fl (cbW (u.1 j) (u.1 o) p0) (u.1 j) i), u.2).1 o i)) (va_cwS 3 hts (gi_S hbc tw_135 tw_136 tw_2 tw_137) rfl rfl rfl (by decide +kernel) ⟨Nat.le_of_ble_eq_true rfl, Nat.le_of_ble_eq_true rfl⟩) preEq rfl rfl hl.1 rfl (lv_room (Nat.le_of_ble_eq_true rfl)) dX0_combine_26 ⟨Nat.le_of_ble_eq_true rfl, Nat.le_of_ble_eq_true rfl⟩) (fun r hq => ?_)
    subst hq
    refine va_last hx hb hK hP hD hS (8 + j) (2 + j) (wB_wds A (upM u.1 j (fl (cbW (u.1 j) (u.1 o) p0) (u.1 j) i), u.2) hj) (tyB_wds A hj) (vp_in_nI (by omega) (by omega)) dX0_combine_29 (fun H locs hP hD hS => ?_)
    rw [nI_clamp (n := i) (by omega)] at hP hD
    have hP : va_P (dC, dI) bwCl (wB A (upM (upM u.1 j (fl (cbW (u.1 j) (u.1 o) p0) (u.1 j) i), u.2).1 j (vp_updL ((upM u.1 j (fl (cbW (u.1 j) (u.1 o) p0) (u.1 j) i), u.2).1 j) i (fX0_combined ((upM u.1 j (fl (cbW (u.1 j) (u.1 o) p0) (u.1 j) i), u.2).1 j i) p0 ((upM u.1 j (fl (cbW (u.1 j) (u.1 o) p0) (u.1 j) i), u.2).1 o i))), (upM u.1 j (fl (cbW (u.1 j) (u.1 o) p0) (u.1 j) i), u.2).2)) H := st_P hj hP
    have hD : va_D (aB A s.heap.size) (wB A (upM (upM u.1 j (fl (cbW (u.1 j) (u.1 o) p0) (u.1 j) i), u.2).1 j (vp_updL ((upM u.1 j (fl (cbW (u.1 j) (u.1 o) p0) (u.1 j) i), u.2).1 j) i (fX0_combined ((upM u.1 j (fl (cbW (u.1 j) (u.1 o) p0) (u.1 j) i), u.2).1 j i) p0 ((upM u.1 j (fl (cbW (u.1 j) (u.1 o) p0) (u.1 j) i), u.2).1 o i))), (upM u.1 j (fl (cbW (u.1 j) (u.1 o) p0) (u.1 j) i), u.2).2)) := st_D hj hD
    refine lv_iinc (v := nI (i + 1)) (lv' := [(3, .int (nI (i + 1))), (0, .ref (ar_ A j)), (1, .int p0), (2, .ref (ar_ A o))]) hx hb dX0_combine_30 hl (k := 3) rfl (nI_1 _) (by decide) rfl (fun ls hl => ?_)
    refine lv_goto (tgt := 2) hx hb dX0_combine_33 (by decide) ?_
    have hv_i : (upM (upM u.1 j (fl (cbW (u.1 j) (u.1 o) p0) (u.1 j) i), u.2).1 j (vp_updL ((upM u.1 j (fl (cbW (u.1 j) (u.1 o) p0) (u.1 j) i), u.2).1 j) i (fX0_combined ((upM u.1 j (fl (cbW (u.1 j) (u.1 o) p0) (u.1 j) i), u.2).1 j i) p0 ((upM u.1 j (fl (cbW (u.1 j) (u.1 o) p0) (u.1 j) i), u.2).1 o i))), (upM u.1 j (fl (cbW (u.1 j) (u.1 o) p0) (u.1 j) i), u.2).2) = (upM u.1 j (fl (cbW (u.1 j) (u.1 o) p0) (u.1 j) (i + 1)), u.2) := fl_uS _ u j i (congr (congrArg (fun x y => fX0_combined x p0 y) (fl_rd _ u.1 j j (Nat.le_refl i))) (fl_rd _ u.1 j o (Nat.le_refl i)))
    exact ih_i _ _ _ (by omega) ⟨tr_P hv_i hP, tr_D hv_i hD, hS, lv_sub hl [1, 2, 3, 0] rfl⟩
set_option maxHeartbeats 4000000 in
set_option maxRecDepth 100000 in
theorem c_X0_takePiece (l : Launch) (dC : Nat → ClassId) (dI : Nat → Nat → Nat) (A : AdB) (u : StB) {j o : Nat} (hj : j < 4) (ho : o < 4) (p1 p2 : Int32) (hpc : ¬ fX2_isPiece p1 p2 = 0) : gMv l yX0_takePiece wX0_takePiece ({ frames := 2, cells := 0, slots := 0, locals := 44 }) (dC, dI) bwCl (tyB A) (wB A) (aB A) [.ref (ar_ A j), .ref (ar_ A o), .int p1, .int p2] u (fun v => (upM u.1 j (fl (tpW (u.1 o) p1 p2) (u.1 j) 63), u.2) = v) := by
  unfold gMv
  intro sz
  refine Met.ofW (cc := cX0_takePiece) (maxL := 5) (ret := none) (by decide) rfl ?_
  intro p e s m args below meth c s₁ B hml hv
  obtain ⟨rfl, hsz, hP, hK, hD⟩ := hv
  subst hsz
  have hS : va_S (aB A s.heap.size) s.heap s.heap [] := va_S.rf
  have hx := B.exec
  have hb := B.bytes
  have hr := B.returns
  have hts := atoms_spec (ws := wX0_takePiece) B.pre
  have hw : ∀ w ∈ tg_, w.before _ s = true := fun w h => hts w (List.mem_cons_of_mem _ h)
  have hown : s.vm.findClass RX0 = some m.cls := findClass_of_methodNamed B.named
  have hlocks := B.notSynchronized
  have hl := lv_entry ([.ref (ar_ A j), .ref (ar_ A o), .int p1, .int p2]) (n := 5) (Nat.le_of_ble_eq_true rfl)
  rw [lg_entry_eq]
  generalize (lg_sl ([.ref (ar_ A j), .ref (ar_ A o), .int p1, .int p2]) ++ List.replicate (5 - (lg_sl ([.ref (ar_ A j), .ref (ar_ A o), .int p1, .int p2])).length) Slot.unset).toArray = ls at hl ⊢
  have hl : lv_has ls 5 [(0, .ref (ar_ A j)), (1, .ref (ar_ A o)), (2, .int p1), (3, .int p2)] := hl
  refine lv_iconst (v := 0) hx hb dX0_takePiece_0 (by decide) ?_
  refine lv_istore (lv' := [(4, .int 0), (0, .ref (ar_ A j)), (1, .ref (ar_ A o)), (2, .int p1), (3, .int p2)]) hx hb dX0_takePiece_1 hl (by decide) rfl (fun ls hl => ?_)
  have hu_i : u = (upM u.1 j (fl (tpW (u.1 o) p1 p2) (u.1 j) 0), u.2) := fl_u0 _ u j
  refine w_loop (N := 63) (i0 := 0) (fun i H locs ls => va_P (dC, dI) bwCl (wB A (upM u.1 j (fl (tpW (u.1 o) p1 p2) (u.1 j) i), u.2)) H ∧ va_D (aB A s.heap.size) (wB A (upM u.1 j (fl (tpW (u.1 o) p1 p2) (u.1 j) i), u.2)) ∧ va_S (aB A s.heap.size) s.heap H locs ∧ lv_has ls 5 [(0, .ref (ar_ A j)), (1, .ref (ar_ A o)), (2, .int p1), (3, .int p2), (4, .int (nI i))]) (by decide) ⟨tr_P hu_i hP, tr_D hu_i hD, hS, lv_sub hl [1, 2, 3, 4, 0] rfl⟩ ?_
  intro i H locs ls hz_i hi_i hI ih_i
  obtain ⟨hP, hD, hS, hl⟩ := hI
  refine lv_iload hx hb dX0_takePiece_3 (lv_at hl 4 rfl) ?_
  refine lv_bipush (v := 63) hx hb dX0_takePiece_5 (by decide) ?_
  refine lv_icmp_ge (tgt := 47) hx hb dX0_takePiece_7 (by decide) (fun c1 => ?_) (fun c1 => ?_)
  · obtain rfl : i = 63 := lp_out (n := 63) rfl hi_i (by decide) c1
    exact W.vret hx hb hr (fun t9 ht9 hW => ⟨⟨(upM u.1 j (fl (tpW (u.1 o) p1 p2) (u.1 j) 63), u.2), rfl, rfl, by rw [ht9]; exact hP, va_K.moved hW.alike hK, hD⟩, hS.F ht9⟩) hS.2.2 dX0_takePiece_47
  · have hlt_i : i < 63 := lp_in (n := 63) rfl hi_i c1
    refine lv_aload_n hx hb dX0_takePiece_10 rfl (lv_at hl 0 rfl) ?_
    refine va_get (D := (dC, dI)) (ci := 0) (v := .ref (aw_ A j)) (C := RX0) (T := TX0) (N := 1) hx hb hw igX0 hown hK hP (4 + j) (wB_row A (upM u.1 j (fl (tpW (u.1 o) p1 p2) (u.1 j) i), u.2) hj) rfl 0 (by decide) (hw _ tw_22) (fun _ h9 => h9) rfl dX0_takePiece_11 ?_
    refine lv_iload hx hb dX0_takePiece_14 (lv_at hl 4 rfl) ?_
    refine lv_aload_n hx hb dX0_takePiece_16 rfl (lv_at hl 1 rfl) ?_
    refine lv_iload_n hx hb dX0_takePiece_17 rfl (lv_at hl 2 rfl) ?_
    refine lv_bipush (v := 64) hx hb dX0_takePiece_18 (by decide) ?_
    refine lv_iload hx hb dX0_takePiece_20 (lv_at hl 4 rfl) ?_
    refine lv_imul hx hb dX0_takePiece_22 ?_
    refine lv_iadd hx hb dX0_takePiece_23 ?_
    refine gVl (As := [.int (p1 + (64 * (nI i)))]) (rest := [.int (nI i), .ref (aw_ A j)]) ⟨hx, hb, hml, hown, hts⟩ (c_X0_bitsFrom l dC dI A (upM u.1 j (fl (tpW (u.1 o) p1 p2) (u.1 j) i), u.2) ho (p1 + (64 * (nI i)))) (cwV 1 hts (gi_V hbc tw_146 tw_148 ts_0 tw_2 tw_149) rfl rfl rfl (by decide +kernel) ⟨Nat.le_of_ble_eq_true rfl, Nat.le_of_ble_eq_true rfl⟩) (va_recv hK hP (ci := 0) (q0 := (4 + o)) rfl (wB_row A (upM u.1 j (fl (tpW (u.1 o) p1 p2) (u.1 j) i), u.2) ho)) aB_mono aB_D hP hK hD hS rfl hl.1 rfl (Nat.le_of_ble_eq_true rfl) dX0_takePiece_24 ⟨Nat.le_of_ble_eq_true rfl, Nat.le_of_ble_eq_true rfl⟩ (fun r2 v4 H locs hq3 hP hD hS => ?_)
    obtain ⟨rfl, rfl⟩ := hq3
    refine lv_iload_n hx hb dX0_takePiece_27 rfl (lv_at hl 3 rfl) ?_
    refine lv_iload_n hx hb dX0_takePiece_28 rfl (lv_at hl 2 rfl) ?_
    refine lv_isub hx hb dX0_takePiece_29 ?_
    refine lv_bipush (v := 64) hx hb dX0_takePiece_30 (by decide) ?_
    refine lv_iload hx hb dX0_takePiece_32 (lv_at hl 4 rfl) ?_
    refine lv_imul hx hb dX0_takePiece_34 ?_
    refine lv_isub hx hb dX0_takePiece_35 ?_
    refine vp_callSl (W.runS (As := [.int ((p2 - p1) - (64 * (nI i)))]) (rest := [.long (fX0_bitsFrom ((upM u.1 j (fl (tpW (u.1 o) p1 p2) (u.1 j) i), u.2).1 o) (p1 + (64 * (nI i)))), .int (nI i), .ref (aw_ A j)]) ⟨hx, hb, hml, hown, hts⟩ (c_X0_lowBits l ((p2 - p1) - (64 * (nI i)))) (va_cwS 1 hts (gi_S hbc tw_73 tw_74 tw_2 tw_75) rfl rfl rfl (by decide +kernel) ⟨Nat.le_of_ble_eq_true rfl, Nat.le_of_ble_eq_true rfl⟩) preEq rfl rfl hl.1 rfl (lv_room (Nat.le_of_ble_eq_true rfl)) dX0_takePiece_36 ⟨Nat.le_of_ble_eq_true rfl, Nat.le_of_ble_eq_true rfl⟩) (fun r hq => ?_)
    subst hq
    refine lv_land hx hb dX0_takePiece_39 ?_
    refine va_last hx hb hK hP hD hS (8 + j) (2 + j) (wB_wds A (upM u.1 j (fl (tpW (u.1 o) p1 p2) (u.1 j) i), u.2) hj) (tyB_wds A hj) (vp_in_nI (by omega) (by omega)) dX0_takePiece_40 (fun H locs hP hD hS => ?_)
    rw [nI_clamp (n := i) (by omega)] at hP hD
    have hP : va_P (dC, dI) bwCl (wB A (upM (upM u.1 j (fl (tpW (u.1 o) p1 p2) (u.1 j) i), u.2).1 j (vp_updL ((upM u.1 j (fl (tpW (u.1 o) p1 p2) (u.1 j) i), u.2).1 j) i ((fX0_bitsFrom ((upM u.1 j (fl (tpW (u.1 o) p1 p2) (u.1 j) i), u.2).1 o) (p1 + (64 * (nI i)))) &&& (fX0_lowBits ((p2 - p1) - (64 * (nI i)))))), (upM u.1 j (fl (tpW (u.1 o) p1 p2) (u.1 j) i), u.2).2)) H := st_P hj hP
    have hD : va_D (aB A s.heap.size) (wB A (upM (upM u.1 j (fl (tpW (u.1 o) p1 p2) (u.1 j) i), u.2).1 j (vp_updL ((upM u.1 j (fl (tpW (u.1 o) p1 p2) (u.1 j) i), u.2).1 j) i ((fX0_bitsFrom ((upM u.1 j (fl (tpW (u.1 o) p1 p2) (u.1 j) i), u.2).1 o) (p1 + (64 * (nI i)))) &&& (fX0_lowBits ((p2 - p1) - (64 * (nI i)))))), (upM u.1 j (fl (tpW (u.1 o) p1 p2) (u.1 j) i), u.2).2)) := st_D hj hD
    refine lv_iinc (v := nI (i + 1)) (lv' := [(4, .int (nI (i + 1))), (0, .ref (ar_ A j)), (1, .ref (ar_ A o)), (2, .int p1), (3, .int p2)]) hx hb dX0_takePiece_41 hl (k := 4) rfl (nI_1 _) (by decide) rfl (fun ls hl => ?_)
    refine lv_goto (tgt := 3) hx hb dX0_takePiece_44 (by decide) ?_
    have hv_i : (upM (upM u.1 j (fl (tpW (u.1 o) p1 p2) (u.1 j) i), u.2).1 j (vp_updL ((upM u.1 j (fl (tpW (u.1 o) p1 p2) (u.1 j) i), u.2).1 j) i ((fX0_bitsFrom ((upM u.1 j (fl (tpW (u.1 o) p1 p2) (u.1 j) i), u.2).1 o) (p1 + (64 * (nI i)))) &&& (fX0_lowBits ((p2 - p1) - (64 * (nI i)))))), (upM u.1 j (fl (tpW (u.1 o) p1 p2) (u.1 j) i), u.2).2) = (upM u.1 j (fl (tpW (u.1 o) p1 p2) (u.1 j) (i + 1)), u.2) := fl_uS _ u j i (tp_uS u j o i hpc hi_i)
    exact ih_i _ _ _ (by omega) ⟨tr_P hv_i hP, tr_D hv_i hD, hS, lv_sub hl [1, 2, 3, 4, 0] rfl⟩
set_option maxHeartbeats 4000000 in
set_option maxRecDepth 100000 in
theorem c_X0_takeWords (l : Launch) (dC : Nat → ClassId) (dI : Nat → Nat → Nat) (A : AdB) (u : StB) {j : Nat} (hj : j < 4) (p0 p1 p2 : Int64) : gMv l yX0_takeWords wX0_takeWords ({ frames := 0, cells := 0, slots := 0, locals := 0 }) (dC, dI) bwCl (tyB A) (wB A) (aB A) [.ref (ar_ A j), .long p0, .long p1, .long p2] u (fun v => (upM u.1 j (twW (u.1 j) p0 p1 p2), u.2) = v) := by
  unfold gMv
  intro sz
  refine Met.ofW (cc := cX0_takeWords) (maxL := 8) (ret := none) (by decide) rfl ?_
  intro p e s m args below meth c s₁ B hml hv
  obtain ⟨rfl, hsz, hP, hK, hD⟩ := hv
  subst hsz
  have hS : va_S (aB A s.heap.size) s.heap s.heap [] := va_S.rf
  have hx := B.exec
  have hb := B.bytes
  have hr := B.returns
  have hts := atoms_spec (ws := wX0_takeWords) B.pre
  have hw : ∀ w ∈ tg_, w.before _ s = true := fun w h => hts w (List.mem_cons_of_mem _ h)
  have hown : s.vm.findClass RX0 = some m.cls := findClass_of_methodNamed B.named
  have hlocks := B.notSynchronized
  have hl := lv_entry ([.ref (ar_ A j), .long p0, .long p1, .long p2]) (n := 8) (Nat.le_of_ble_eq_true rfl)
  rw [lg_entry_eq]
  generalize (lg_sl ([.ref (ar_ A j), .long p0, .long p1, .long p2]) ++ List.replicate (8 - (lg_sl ([.ref (ar_ A j), .long p0, .long p1, .long p2])).length) Slot.unset).toArray = ls at hl ⊢
  have hl : lv_has ls 8 [(0, .ref (ar_ A j)), (1, .long p0), (3, .long p1), (5, .long p2)] := hl
  refine lv_iconst (v := 3) hx hb dX0_takeWords_0 (by decide) ?_
  refine lv_istore (lv' := [(7, .int 3), (0, .ref (ar_ A j)), (1, .long p0), (3, .long p1), (5, .long p2)]) hx hb dX0_takeWords_1 hl (by decide) rfl (fun ls hl => ?_)
  have hu_i : u = (upM u.1 j (zr (u.1 j) 3), u.2) := zr_u0 u j
  refine w_loop (N := 63) (i0 := 3) (fun i H locs ls => va_P (dC, dI) bwCl (wB A (upM u.1 j (zr (u.1 j) i), u.2)) H ∧ va_D (aB A s.heap.size) (wB A (upM u.1 j (zr (u.1 j) i), u.2)) ∧ va_S (aB A s.heap.size) s.heap H locs ∧ lv_has ls 8 [(0, .ref (ar_ A j)), (1, .long p0), (3, .long p1), (5, .long p2), (7, .int (nI i))]) (by decide) ⟨tr_P hu_i hP, tr_D hu_i hD, hS, lv_sub hl [1, 2, 3, 4, 0] rfl⟩ ?_
  intro i H locs ls hz_i hi_i hI ih_i
  obtain ⟨hP, hD, hS, hl⟩ := hI
  refine lv_iload hx hb dX0_takeWords_3 (lv_at hl 4 rfl) ?_
  refine lv_bipush (v := 63) hx hb dX0_takeWords_5 (by decide) ?_
  refine lv_icmp_ge (tgt := 24) hx hb dX0_takeWords_7 (by decide) (fun c1 => ?_) (fun c1 => ?_)
  · obtain rfl : i = 63 := lp_out (n := 63) rfl hi_i (by decide) c1
    refine lv_aload_n hx hb dX0_takeWords_24 rfl (lv_at hl 0 rfl) ?_
    refine va_get (D := (dC, dI)) (ci := 0) (v := .ref (aw_ A j)) (C := RX0) (T := TX0) (N := 1) hx hb hw igX0 hown hK hP (4 + j) (wB_row A (upM u.1 j (zr (u.1 j) 63), u.2) hj) rfl 0 (by decide) (hw _ tw_22) (fun _ h9 => h9) rfl dX0_takeWords_25 ?_
    refine lv_iconst (v := 0) hx hb dX0_takeWords_28 (by decide) ?_
    refine lv_lload_n hx hb dX0_takeWords_29 rfl (lv_at hl 1 rfl) ?_
    refine va_last hx hb hK hP hD hS (8 + j) (2 + j) (wB_wds A (upM u.1 j (zr (u.1 j) 63), u.2) hj) (tyB_wds A hj) (vp_in_nI (n := 0) (by decide) (by decide)) dX0_takeWords_30 (fun H locs hP hD hS => ?_)
    have hP : va_P (dC, dI) bwCl (wB A (upM (upM u.1 j (zr (u.1 j) 63), u.2).1 j (vp_updL ((upM u.1 j (zr (u.1 j) 63), u.2).1 j) 0 p0), (upM u.1 j (zr (u.1 j) 63), u.2).2)) H := st_P hj hP
    have hD : va_D (aB A s.heap.size) (wB A (upM (upM u.1 j (zr (u.1 j) 63), u.2).1 j (vp_updL ((upM u.1 j (zr (u.1 j) 63), u.2).1 j) 0 p0), (upM u.1 j (zr (u.1 j) 63), u.2).2)) := st_D hj hD
    refine lv_aload_n hx hb dX0_takeWords_31 rfl (lv_at hl 0 rfl) ?_
    refine va_get (D := (dC, dI)) (ci := 0) (v := .ref (aw_ A j)) (C := RX0) (T := TX0) (N := 1) hx hb hw igX0 hown hK hP (4 + j) (wB_row A (upM (upM u.1 j (zr (u.1 j) 63), u.2).1 j (vp_updL ((upM u.1 j (zr (u.1 j) 63), u.2).1 j) 0 p0), (upM u.1 j (zr (u.1 j) 63), u.2).2) hj) rfl 0 (by decide) (hw _ tw_22) (fun _ h9 => h9) rfl dX0_takeWords_32 ?_
    refine lv_iconst (v := 1) hx hb dX0_takeWords_35 (by decide) ?_
    refine lv_lload_n hx hb dX0_takeWords_36 rfl (lv_at hl 2 rfl) ?_
    refine va_last hx hb hK hP hD hS (8 + j) (2 + j) (wB_wds A (upM (upM u.1 j (zr (u.1 j) 63), u.2).1 j (vp_updL ((upM u.1 j (zr (u.1 j) 63), u.2).1 j) 0 p0), (upM u.1 j (zr (u.1 j) 63), u.2).2) hj) (tyB_wds A hj) (vp_in_nI (n := 1) (by decide) (by decide)) dX0_takeWords_37 (fun H locs hP hD hS => ?_)
    have hP : va_P (dC, dI) bwCl (wB A (upM (upM (upM u.1 j (zr (u.1 j) 63), u.2).1 j (vp_updL ((upM u.1 j (zr (u.1 j) 63), u.2).1 j) 0 p0), (upM u.1 j (zr (u.1 j) 63), u.2).2).1 j (vp_updL ((upM (upM u.1 j (zr (u.1 j) 63), u.2).1 j (vp_updL ((upM u.1 j (zr (u.1 j) 63), u.2).1 j) 0 p0), (upM u.1 j (zr (u.1 j) 63), u.2).2).1 j) 1 p1), (upM (upM u.1 j (zr (u.1 j) 63), u.2).1 j (vp_updL ((upM u.1 j (zr (u.1 j) 63), u.2).1 j) 0 p0), (upM u.1 j (zr (u.1 j) 63), u.2).2).2)) H := st_P hj hP
    have hD : va_D (aB A s.heap.size) (wB A (upM (upM (upM u.1 j (zr (u.1 j) 63), u.2).1 j (vp_updL ((upM u.1 j (zr (u.1 j) 63), u.2).1 j) 0 p0), (upM u.1 j (zr (u.1 j) 63), u.2).2).1 j (vp_updL ((upM (upM u.1 j (zr (u.1 j) 63), u.2).1 j (vp_updL ((upM u.1 j (zr (u.1 j) 63), u.2).1 j) 0 p0), (upM u.1 j (zr (u.1 j) 63), u.2).2).1 j) 1 p1), (upM (upM u.1 j (zr (u.1 j) 63), u.2).1 j (vp_updL ((upM u.1 j (zr (u.1 j) 63), u.2).1 j) 0 p0), (upM u.1 j (zr (u.1 j) 63), u.2).2).2)) := st_D hj hD
    refine lv_aload_n hx hb dX0_takeWords_38 rfl (lv_at hl 0 rfl) ?_
    refine va_get (D := (dC, dI)) (ci := 0) (v := .ref (aw_ A j)) (C := RX0) (T := TX0) (N := 1) hx hb hw igX0 hown hK hP (4 + j) (wB_row A (upM (upM (upM u.1 j (zr (u.1 j) 63), u.2).1 j (vp_updL ((upM u.1 j (zr (u.1 j) 63), u.2).1 j) 0 p0), (upM u.1 j (zr (u.1 j) 63), u.2).2).1 j (vp_updL ((upM (upM u.1 j (zr (u.1 j) 63), u.2).1 j (vp_updL ((upM u.1 j (zr (u.1 j) 63), u.2).1 j) 0 p0), (upM u.1 j (zr (u.1 j) 63), u.2).2).1 j) 1 p1), (upM (upM u.1 j (zr (u.1 j) 63), u.2).1 j (vp_updL ((upM u.1 j (zr (u.1 j) 63), u.2).1 j) 0 p0), (upM u.1 j (zr (u.1 j) 63), u.2).2).2) hj) rfl 0 (by decide) (hw _ tw_22) (fun _ h9 => h9) rfl dX0_takeWords_39 ?_
    refine lv_iconst (v := 2) hx hb dX0_takeWords_42 (by decide) ?_
    refine lv_lload hx hb dX0_takeWords_43 (lv_at hl 3 rfl) ?_
    refine va_last hx hb hK hP hD hS (8 + j) (2 + j) (wB_wds A (upM (upM (upM u.1 j (zr (u.1 j) 63), u.2).1 j (vp_updL ((upM u.1 j (zr (u.1 j) 63), u.2).1 j) 0 p0), (upM u.1 j (zr (u.1 j) 63), u.2).2).1 j (vp_updL ((upM (upM u.1 j (zr (u.1 j) 63), u.2).1 j (vp_updL ((upM u.1 j (zr (u.1 j) 63), u.2).1 j) 0 p0), (upM u.1 j (zr (u.1 j) 63), u.2).2).1 j) 1 p1), (upM (upM u.1 j (zr (u.1 j) 63), u.2).1 j (vp_updL ((upM u.1 j (zr (u.1 j) 63), u.2).1 j) 0 p0), (upM u.1 j (zr (u.1 j) 63), u.2).2).2) hj) (tyB_wds A hj) (vp_in_nI (n := 2) (by decide) (by decide)) dX0_takeWords_45 (fun H locs hP hD hS => ?_)
    have hP : va_P (dC, dI) bwCl (wB A (upM (upM (upM (upM u.1 j (zr (u.1 j) 63), u.2).1 j (vp_updL ((upM u.1 j (zr (u.1 j) 63), u.2).1 j) 0 p0), (upM u.1 j (zr (u.1 j) 63), u.2).2).1 j (vp_updL ((upM (upM u.1 j (zr (u.1 j) 63), u.2).1 j (vp_updL ((upM u.1 j (zr (u.1 j) 63), u.2).1 j) 0 p0), (upM u.1 j (zr (u.1 j) 63), u.2).2).1 j) 1 p1), (upM (upM u.1 j (zr (u.1 j) 63), u.2).1 j (vp_updL ((upM u.1 j (zr (u.1 j) 63), u.2).1 j) 0 p0), (upM u.1 j (zr (u.1 j) 63), u.2).2).2).1 j (vp_updL ((upM (upM (upM u.1 j (zr (u.1 j) 63), u.2).1 j (vp_updL ((upM u.1 j (zr (u.1 j) 63), u.2).1 j) 0 p0), (upM u.1 j (zr (u.1 j) 63), u.2).2).1 j (vp_updL ((upM (upM u.1 j (zr (u.1 j) 63), u.2).1 j (vp_updL ((upM u.1 j (zr (u.1 j) 63), u.2).1 j) 0 p0), (upM u.1 j (zr (u.1 j) 63), u.2).2).1 j) 1 p1), (upM (upM u.1 j (zr (u.1 j) 63), u.2).1 j (vp_updL ((upM u.1 j (zr (u.1 j) 63), u.2).1 j) 0 p0), (upM u.1 j (zr (u.1 j) 63), u.2).2).2).1 j) 2 p2), (upM (upM (upM u.1 j (zr (u.1 j) 63), u.2).1 j (vp_updL ((upM u.1 j (zr (u.1 j) 63), u.2).1 j) 0 p0), (upM u.1 j (zr (u.1 j) 63), u.2).2).1 j (vp_updL ((upM (upM u.1 j (zr (u.1 j) 63), u.2).1 j (vp_updL ((upM u.1 j (zr (u.1 j) 63), u.2).1 j) 0 p0), (upM u.1 j (zr (u.1 j) 63), u.2).2).1 j) 1 p1), (upM (upM u.1 j (zr (u.1 j) 63), u.2).1 j (vp_updL ((upM u.1 j (zr (u.1 j) 63), u.2).1 j) 0 p0), (upM u.1 j (zr (u.1 j) 63), u.2).2).2).2)) H := st_P hj hP
    have hD : va_D (aB A s.heap.size) (wB A (upM (upM (upM (upM u.1 j (zr (u.1 j) 63), u.2).1 j (vp_updL ((upM u.1 j (zr (u.1 j) 63), u.2).1 j) 0 p0), (upM u.1 j (zr (u.1 j) 63), u.2).2).1 j (vp_updL ((upM (upM u.1 j (zr (u.1 j) 63), u.2).1 j (vp_updL ((upM u.1 j (zr (u.1 j) 63), u.2).1 j) 0 p0), (upM u.1 j (zr (u.1 j) 63), u.2).2).1 j) 1 p1), (upM (upM u.1 j (zr (u.1 j) 63), u.2).1 j (vp_updL ((upM u.1 j (zr (u.1 j) 63), u.2).1 j) 0 p0), (upM u.1 j (zr (u.1 j) 63), u.2).2).2).1 j (vp_updL ((upM (upM (upM u.1 j (zr (u.1 j) 63), u.2).1 j (vp_updL ((upM u.1 j (zr (u.1 j) 63), u.2).1 j) 0 p0), (upM u.1 j (zr (u.1 j) 63), u.2).2).1 j (vp_updL ((upM (upM u.1 j (zr (u.1 j) 63), u.2).1 j (vp_updL ((upM u.1 j (zr (u.1 j) 63), u.2).1 j) 0 p0), (upM u.1 j (zr (u.1 j) 63), u.2).2).1 j) 1 p1), (upM (upM u.1 j (zr (u.1 j) 63), u.2).1 j (vp_updL ((upM u.1 j (zr (u.1 j) 63), u.2).1 j) 0 p0), (upM u.1 j (zr (u.1 j) 63), u.2).2).2).1 j) 2 p2), (upM (upM (upM u.1 j (zr (u.1 j) 63), u.2).1 j (vp_updL ((upM u.1 j (zr (u.1 j) 63), u.2).1 j) 0 p0), (upM u.1 j (zr (u.1 j) 63), u.2).2).1 j (vp_updL ((upM (upM u.1 j (zr (u.1 j) 63), u.2).1 j (vp_updL ((upM u.1 j (zr (u.1 j) 63), u.2).1 j) 0 p0), (upM u.1 j (zr (u.1 j) 63), u.2).2).1 j) 1 p1), (upM (upM u.1 j (zr (u.1 j) 63), u.2).1 j (vp_updL ((upM u.1 j (zr (u.1 j) 63), u.2).1 j) 0 p0), (upM u.1 j (zr (u.1 j) 63), u.2).2).2).2)) := st_D hj hD
    exact W.vret hx hb hr (fun t9 ht9 hW => ⟨⟨(upM (upM (upM (upM u.1 j (zr (u.1 j) 63), u.2).1 j (vp_updL ((upM u.1 j (zr (u.1 j) 63), u.2).1 j) 0 p0), (upM u.1 j (zr (u.1 j) 63), u.2).2).1 j (vp_updL ((upM (upM u.1 j (zr (u.1 j) 63), u.2).1 j (vp_updL ((upM u.1 j (zr (u.1 j) 63), u.2).1 j) 0 p0), (upM u.1 j (zr (u.1 j) 63), u.2).2).1 j) 1 p1), (upM (upM u.1 j (zr (u.1 j) 63), u.2).1 j (vp_updL ((upM u.1 j (zr (u.1 j) 63), u.2).1 j) 0 p0), (upM u.1 j (zr (u.1 j) 63), u.2).2).2).1 j (vp_updL ((upM (upM (upM u.1 j (zr (u.1 j) 63), u.2).1 j (vp_updL ((upM u.1 j (zr (u.1 j) 63), u.2).1 j) 0 p0), (upM u.1 j (zr (u.1 j) 63), u.2).2).1 j (vp_updL ((upM (upM u.1 j (zr (u.1 j) 63), u.2).1 j (vp_updL ((upM u.1 j (zr (u.1 j) 63), u.2).1 j) 0 p0), (upM u.1 j (zr (u.1 j) 63), u.2).2).1 j) 1 p1), (upM (upM u.1 j (zr (u.1 j) 63), u.2).1 j (vp_updL ((upM u.1 j (zr (u.1 j) 63), u.2).1 j) 0 p0), (upM u.1 j (zr (u.1 j) 63), u.2).2).2).1 j) 2 p2), (upM (upM (upM u.1 j (zr (u.1 j) 63), u.2).1 j (vp_updL ((upM u.1 j (zr (u.1 j) 63), u.2).1 j) 0 p0), (upM u.1 j (zr (u.1 j) 63), u.2).2).1 j (vp_updL ((upM (upM u.1 j (zr (u.1 j) 63), u.2).1 j (vp_updL ((upM u.1 j (zr (u.1 j) 63), u.2).1 j) 0 p0), (upM u.1 j (zr (u.1 j) 63), u.2).2).1 j) 1 p1), (upM (upM u.1 j (zr (u.1 j) 63), u.2).1 j (vp_updL ((upM u.1 j (zr (u.1 j) 63), u.2).1 j) 0 p0), (upM u.1 j (zr (u.1 j) 63), u.2).2).2).2), rfl, (tw_uE u j p0 p1 p2).symm, by rw [ht9]; exact hP, va_K.moved hW.alike hK, hD⟩, hS.F ht9⟩) hS.2.2 dX0_takeWords_46
  · have hlt_i : i < 63 := lp_in (n := 63) rfl hi_i c1
    refine lv_aload_n hx hb dX0_takeWords_10 rfl (lv_at hl 0 rfl) ?_
    refine va_get (D := (dC, dI)) (ci := 0) (v := .ref (aw_ A j)) (C := RX0) (T := TX0) (N := 1) hx hb hw igX0 hown hK hP (4 + j) (wB_row A (upM u.1 j (zr (u.1 j) i), u.2) hj) rfl 0 (by decide) (hw _ tw_22) (fun _ h9 => h9) rfl dX0_takeWords_11 ?_
    refine lv_iload hx hb dX0_takeWords_14 (lv_at hl 4 rfl) ?_
    refine lv_lconst (v := 0) hx hb dX0_takeWords_16 (by decide) ?_
    refine va_last hx hb hK hP hD hS (8 + j) (2 + j) (wB_wds A (upM u.1 j (zr (u.1 j) i), u.2) hj) (tyB_wds A hj) (vp_in_nI (by omega) (by omega)) dX0_takeWords_17 (fun H locs hP hD hS => ?_)
    rw [nI_clamp (n := i) (by omega)] at hP hD
    have hP : va_P (dC, dI) bwCl (wB A (upM (upM u.1 j (zr (u.1 j) i), u.2).1 j (vp_updL ((upM u.1 j (zr (u.1 j) i), u.2).1 j) i 0), (upM u.1 j (zr (u.1 j) i), u.2).2)) H := st_P hj hP
    have hD : va_D (aB A s.heap.size) (wB A (upM (upM u.1 j (zr (u.1 j) i), u.2).1 j (vp_updL ((upM u.1 j (zr (u.1 j) i), u.2).1 j) i 0), (upM u.1 j (zr (u.1 j) i), u.2).2)) := st_D hj hD
    refine lv_iinc (v := nI (i + 1)) (lv' := [(7, .int (nI (i + 1))), (0, .ref (ar_ A j)), (1, .long p0), (3, .long p1), (5, .long p2)]) hx hb dX0_takeWords_18 hl (k := 4) rfl (nI_1 _) (by decide) rfl (fun ls hl => ?_)
    refine lv_goto (tgt := 3) hx hb dX0_takeWords_21 (by decide) ?_
    have hv_i : (upM (upM u.1 j (zr (u.1 j) i), u.2).1 j (vp_updL ((upM u.1 j (zr (u.1 j) i), u.2).1 j) i 0), (upM u.1 j (zr (u.1 j) i), u.2).2) = (upM u.1 j (zr (u.1 j) (i + 1)), u.2) := zr_uS u j i hz_i
    exact ih_i _ _ _ (by omega) ⟨tr_P hv_i hP, tr_D hv_i hD, hS, lv_sub hl [1, 2, 3, 4, 0] rfl⟩
set_option maxHeartbeats 4000000 in
set_option maxRecDepth 100000 in
theorem c_X0_sharesOne (l : Launch) (dC : Nat → ClassId) (dI : Nat → Nat → Nat) (A : AdB) (u : StB) {j o : Nat} (hj : j < 4) (ho : o < 4) : gMi l yX0_sharesOne wX0_sharesOne ({ frames := 0, cells := 0, slots := 0, locals := 0 }) (dC, dI) bwCl (tyB A) (wB A) (aB A) [.ref (ar_ A j), .ref (ar_ A o)] u (fun r v => pSO (u.1 j) (u.1 o) r ∧ u = v) := by
  unfold gMi
  intro sz
  refine Met.ofW (cc := cX0_sharesOne) (maxL := 3) (ret := (some .boolean)) (by decide) rfl ?_
  intro p e s m args below meth c s₁ B hml hv
  obtain ⟨rfl, hsz, hP, hK, hD⟩ := hv
  subst hsz
  have hS : va_S (aB A s.heap.size) s.heap s.heap [] := va_S.rf
  have hx := B.exec
  have hb := B.bytes
  have hr := B.returns
  have hts := atoms_spec (ws := wX0_sharesOne) B.pre
  have hw : ∀ w ∈ tg_, w.before _ s = true := fun w h => hts w (List.mem_cons_of_mem _ h)
  have hown : s.vm.findClass RX0 = some m.cls := findClass_of_methodNamed B.named
  have hlocks := B.notSynchronized
  have hl := lv_entry ([.ref (ar_ A j), .ref (ar_ A o)]) (n := 3) (Nat.le_of_ble_eq_true rfl)
  rw [lg_entry_eq]
  generalize (lg_sl ([.ref (ar_ A j), .ref (ar_ A o)]) ++ List.replicate (3 - (lg_sl ([.ref (ar_ A j), .ref (ar_ A o)])).length) Slot.unset).toArray = ls at hl ⊢
  have hl : lv_has ls 3 [(0, .ref (ar_ A j)), (1, .ref (ar_ A o))] := hl
  refine lv_iconst (v := 0) hx hb dX0_sharesOne_0 (by decide) ?_
  refine lv_istore_n (lv' := [(2, .int 0), (0, .ref (ar_ A j)), (1, .ref (ar_ A o))]) hx hb dX0_sharesOne_1 rfl hl (by decide) rfl (fun ls hl => ?_)
  have hu_i : u = u := rfl
  refine w_loop (N := 63) (i0 := 0) (fun i H locs ls => va_P (dC, dI) bwCl (wB A u) H ∧ va_D (aB A s.heap.size) (wB A u) ∧ va_S (aB A s.heap.size) s.heap H locs ∧ lv_has ls 3 [(0, .ref (ar_ A j)), (1, .ref (ar_ A o)), (2, .int (nI i))] ∧ (∀ k, k < i → u.1 j k &&& u.1 o k = 0)) (by decide) ⟨tr_P hu_i hP, tr_D hu_i hD, hS, lv_sub hl [1, 2, 0] rfl, lt_0⟩ ?_
  intro i H locs ls hz_i hi_i hI ih_i
  obtain ⟨hP, hD, hS, hl, hF_i⟩ := hI
  refine lv_iload_n hx hb dX0_sharesOne_2 rfl (lv_at hl 2 rfl) ?_
  refine lv_bipush (v := 63) hx hb dX0_sharesOne_3 (by decide) ?_
  refine lv_icmp_ge (tgt := 34) hx hb dX0_sharesOne_5 (by decide) (fun c1 => ?_) (fun c1 => ?_)
  · obtain rfl : i = 63 := lp_out (n := 63) rfl hi_i (by decide) c1
    refine lv_iconst (v := 0) hx hb dX0_sharesOne_34 (by decide) ?_
    exact W.zret hx hb hr rfl (fun t9 ht9 hW => ⟨⟨_, u, rfl, ⟨Or.inr ⟨rfl, hF_i⟩, rfl⟩, by rw [ht9]; exact hP, va_K.moved hW.alike hK, hD⟩, hS.F ht9⟩) hS.2.2 dX0_sharesOne_35
  · have hlt_i : i < 63 := lp_in (n := 63) rfl hi_i c1
    refine lv_aload_n hx hb dX0_sharesOne_8 rfl (lv_at hl 0 rfl) ?_
    refine va_get (D := (dC, dI)) (ci := 0) (v := .ref (aw_ A j)) (C := RX0) (T := TX0) (N := 1) hx hb hw igX0 hown hK hP (4 + j) (wB_row A u hj) rfl 0 (by decide) (hw _ tw_22) (fun _ h9 => h9) rfl dX0_sharesOne_9 ?_
    refine lv_iload_n hx hb dX0_sharesOne_12 rfl (lv_at hl 2 rfl) ?_
    refine va_lald hx hb hK hP (8 + j) (2 + j) (wB_wds A u hj) (tyB_wds A hj) (vp_in_nI (by omega) (by omega)) dX0_sharesOne_13 ?_
    rw [nI_clamp (n := i) (by omega)]
    refine lv_aload_n hx hb dX0_sharesOne_14 rfl (lv_at hl 1 rfl) ?_
    refine va_get (D := (dC, dI)) (ci := 0) (v := .ref (aw_ A o)) (C := RX0) (T := TX0) (N := 1) hx hb hw igX0 hown hK hP (4 + o) (wB_row A u ho) rfl 0 (by decide) (hw _ tw_22) (fun _ h9 => h9) rfl dX0_sharesOne_15 ?_
    refine lv_iload_n hx hb dX0_sharesOne_18 rfl (lv_at hl 2 rfl) ?_
    refine va_lald hx hb hK hP (8 + o) (2 + o) (wB_wds A u ho) (tyB_wds A ho) (vp_in_nI (by omega) (by omega)) dX0_sharesOne_19 ?_
    rw [nI_clamp (n := i) (by omega)]
    refine lv_land hx hb dX0_sharesOne_20 ?_
    refine lv_lconst (v := 0) hx hb dX0_sharesOne_21 (by decide) ?_
    refine W.lcmp hx hb dX0_sharesOne_22 ?_
    refine lv_if_eq (tgt := 28) hx hb dX0_sharesOne_23 (by decide) (fun c2 => ?_) (fun c2 => ?_)
    · refine lv_iinc (v := nI (i + 1)) (lv' := [(2, .int (nI (i + 1))), (0, .ref (ar_ A j)), (1, .ref (ar_ A o))]) hx hb dX0_sharesOne_28 hl (k := 2) rfl (nI_1 _) (by decide) rfl (fun ls hl => ?_)
      refine lv_goto (tgt := 2) hx hb dX0_sharesOne_31 (by decide) ?_
      have hv_i : u = u := rfl
      exact ih_i _ _ _ (by omega) ⟨tr_P hv_i hP, tr_D hv_i hD, hS, lv_sub hl [1, 2, 0] rfl, lt_s hF_i ((lg_cmp_eq _ _).mp c2)⟩
    · refine lv_iconst (v := 1) hx hb dX0_sharesOne_26 (by decide) ?_
      exact W.zret hx hb hr rfl (fun t9 ht9 hW => ⟨⟨_, u, rfl, ⟨Or.inl ⟨rfl, i, hlt_i, fun h => c2 ((lg_cmp_eq _ _).mpr h)⟩, rfl⟩, by rw [ht9]; exact hP, va_K.moved hW.alike hK, hD⟩, hS.F ht9⟩) hS.2.2 dX0_sharesOne_27
set_option maxHeartbeats 4000000 in
set_option maxRecDepth 100000 in
theorem c_X0_isSame (l : Launch) (dC : Nat → ClassId) (dI : Nat → Nat → Nat) (A : AdB) (u : StB) {j o : Nat} (hj : j < 4) (ho : o < 4) : gMi l yX0_isSame wX0_isSame ({ frames := 0, cells := 0, slots := 0, locals := 0 }) (dC, dI) bwCl (tyB A) (wB A) (aB A) [.ref (ar_ A j), .ref (ar_ A o)] u (fun r v => pSM (u.1 j) (u.1 o) r ∧ u = v) := by
  unfold gMi
  intro sz
  refine Met.ofW (cc := cX0_isSame) (maxL := 3) (ret := (some .boolean)) (by decide) rfl ?_
  intro p e s m args below meth c s₁ B hml hv
  obtain ⟨rfl, hsz, hP, hK, hD⟩ := hv
  subst hsz
  have hS : va_S (aB A s.heap.size) s.heap s.heap [] := va_S.rf
  have hx := B.exec
  have hb := B.bytes
  have hr := B.returns
  have hts := atoms_spec (ws := wX0_isSame) B.pre
  have hw : ∀ w ∈ tg_, w.before _ s = true := fun w h => hts w (List.mem_cons_of_mem _ h)
  have hown : s.vm.findClass RX0 = some m.cls := findClass_of_methodNamed B.named
  have hlocks := B.notSynchronized
  have hl := lv_entry ([.ref (ar_ A j), .ref (ar_ A o)]) (n := 3) (Nat.le_of_ble_eq_true rfl)
  rw [lg_entry_eq]
  generalize (lg_sl ([.ref (ar_ A j), .ref (ar_ A o)]) ++ List.replicate (3 - (lg_sl ([.ref (ar_ A j), .ref (ar_ A o)])).length) Slot.unset).toArray = ls at hl ⊢
  have hl : lv_has ls 3 [(0, .ref (ar_ A j)), (1, .ref (ar_ A o))] := hl
  refine lv_iconst (v := 0) hx hb dX0_isSame_0 (by decide) ?_
  refine lv_istore_n (lv' := [(2, .int 0), (0, .ref (ar_ A j)), (1, .ref (ar_ A o))]) hx hb dX0_isSame_1 rfl hl (by decide) rfl (fun ls hl => ?_)
  have hu_i : u = u := rfl
  refine w_loop (N := 63) (i0 := 0) (fun i H locs ls => va_P (dC, dI) bwCl (wB A u) H ∧ va_D (aB A s.heap.size) (wB A u) ∧ va_S (aB A s.heap.size) s.heap H locs ∧ lv_has ls 3 [(0, .ref (ar_ A j)), (1, .ref (ar_ A o)), (2, .int (nI i))] ∧ (∀ k, k < i → u.1 j k = u.1 o k)) (by decide) ⟨tr_P hu_i hP, tr_D hu_i hD, hS, lv_sub hl [1, 2, 0] rfl, lt_0⟩ ?_
  intro i H locs ls hz_i hi_i hI ih_i
  obtain ⟨hP, hD, hS, hl, hF_i⟩ := hI
  refine lv_iload_n hx hb dX0_isSame_2 rfl (lv_at hl 2 rfl) ?_
  refine lv_bipush (v := 63) hx hb dX0_isSame_3 (by decide) ?_
  refine lv_icmp_ge (tgt := 32) hx hb dX0_isSame_5 (by decide) (fun c1 => ?_) (fun c1 => ?_)
  · obtain rfl : i = 63 := lp_out (n := 63) rfl hi_i (by decide) c1
    refine lv_iconst (v := 1) hx hb dX0_isSame_32 (by decide) ?_
    exact W.zret hx hb hr rfl (fun t9 ht9 hW => ⟨⟨_, u, rfl, ⟨Or.inr ⟨rfl, hF_i⟩, rfl⟩, by rw [ht9]; exact hP, va_K.moved hW.alike hK, hD⟩, hS.F ht9⟩) hS.2.2 dX0_isSame_33
  · have hlt_i : i < 63 := lp_in (n := 63) rfl hi_i c1
    refine lv_aload_n hx hb dX0_isSame_8 rfl (lv_at hl 0 rfl) ?_
    refine va_get (D := (dC, dI)) (ci := 0) (v := .ref (aw_ A j)) (C := RX0) (T := TX0) (N := 1) hx hb hw igX0 hown hK hP (4 + j) (wB_row A u hj) rfl 0 (by decide) (hw _ tw_22) (fun _ h9 => h9) rfl dX0_isSame_9 ?_
    refine lv_iload_n hx hb dX0_isSame_12 rfl (lv_at hl 2 rfl) ?_
    refine va_lald hx hb hK hP (8 + j) (2 + j) (wB_wds A u hj) (tyB_wds A hj) (vp_in_nI (by omega) (by omega)) dX0_isSame_13 ?_
    rw [nI_clamp (n := i) (by omega)]
    refine lv_aload_n hx hb dX0_isSame_14 rfl (lv_at hl 1 rfl) ?_
    refine va_get (D := (dC, dI)) (ci := 0) (v := .ref (aw_ A o)) (C := RX0) (T := TX0) (N := 1) hx hb hw igX0 hown hK hP (4 + o) (wB_row A u ho) rfl 0 (by decide) (hw _ tw_22) (fun _ h9 => h9) rfl dX0_isSame_15 ?_
    refine lv_iload_n hx hb dX0_isSame_18 rfl (lv_at hl 2 rfl) ?_
    refine va_lald hx hb hK hP (8 + o) (2 + o) (wB_wds A u ho) (tyB_wds A ho) (vp_in_nI (by omega) (by omega)) dX0_isSame_19 ?_
    rw [nI_clamp (n := i) (by omega)]
    refine W.lcmp hx hb dX0_isSame_20 ?_
    refine lv_if_eq (tgt := 26) hx hb dX0_isSame_21 (by decide) (fun c2 => ?_) (fun c2 => ?_)
    · refine lv_iinc (v := nI (i + 1)) (lv' := [(2, .int (nI (i + 1))), (0, .ref (ar_ A j)), (1, .ref (ar_ A o))]) hx hb dX0_isSame_26 hl (k := 2) rfl (nI_1 _) (by decide) rfl (fun ls hl => ?_)
      refine lv_goto (tgt := 2) hx hb dX0_isSame_29 (by decide) ?_
      have hv_i : u = u := rfl
      exact ih_i _ _ _ (by omega) ⟨tr_P hv_i hP, tr_D hv_i hD, hS, lv_sub hl [1, 2, 0] rfl, lt_s hF_i ((lg_cmp_eq _ _).mp c2)⟩
    · refine lv_iconst (v := 0) hx hb dX0_isSame_24 (by decide) ?_
      exact W.zret hx hb hr rfl (fun t9 ht9 hW => ⟨⟨_, u, rfl, ⟨Or.inl ⟨rfl, i, hlt_i, fun h => c2 ((lg_cmp_eq _ _).mpr h)⟩, rfl⟩, by rw [ht9]; exact hP, va_K.moved hW.alike hK, hD⟩, hS.F ht9⟩) hS.2.2 dX0_isSame_25
set_option maxHeartbeats 4000000 in
set_option maxRecDepth 100000 in
theorem c_X0_rankedSum (l : Launch) (dC : Nat → ClassId) (dI : Nat → Nat → Nat) (A : AdB) (u : StB) {j : Nat} (hj : j < 4) : gMl l yX0_rankedSum wX0_rankedSum ({ frames := 2, cells := 0, slots := 0, locals := 43 }) (dC, dI) bwCl (tyB A) (wB A) (aB A) [.ref (ar_ A j)] u (fun r v => r = (rkO (u.1 j) 63).2 ∧ u = v) := by
  unfold gMl
  intro sz
  refine Met.ofW (cc := cX0_rankedSum) (maxL := 9) (ret := (some .long)) (by decide) rfl ?_
  intro p e s m args below meth c s₁ B hml hv
  obtain ⟨rfl, hsz, hP, hK, hD⟩ := hv
  subst hsz
  have hS : va_S (aB A s.heap.size) s.heap s.heap [] := va_S.rf
  have hx := B.exec
  have hb := B.bytes
  have hr := B.returns
  have hts := atoms_spec (ws := wX0_rankedSum) B.pre
  have hw : ∀ w ∈ tg_, w.before _ s = true := fun w h => hts w (List.mem_cons_of_mem _ h)
  have hown : s.vm.findClass RX0 = some m.cls := findClass_of_methodNamed B.named
  have hlocks := B.notSynchronized
  have hl := lv_entry ([.ref (ar_ A j)]) (n := 9) (Nat.le_of_ble_eq_true rfl)
  rw [lg_entry_eq]
  generalize (lg_sl ([.ref (ar_ A j)]) ++ List.replicate (9 - (lg_sl ([.ref (ar_ A j)])).length) Slot.unset).toArray = ls at hl ⊢
  have hl : lv_has ls 9 [(0, .ref (ar_ A j))] := hl
  refine lv_lconst (v := 0) hx hb dX0_rankedSum_0 (by decide) ?_
  refine lv_lstore_n (lv' := [(1, .long 0), (0, .ref (ar_ A j))]) hx hb dX0_rankedSum_1 rfl hl (by decide) rfl (fun ls hl => ?_)
  refine lv_lconst (v := 0) hx hb dX0_rankedSum_2 (by decide) ?_
  refine lv_lstore_n (lv' := [(3, .long 0), (1, .long 0), (0, .ref (ar_ A j))]) hx hb dX0_rankedSum_3 rfl hl (by decide) rfl (fun ls hl => ?_)
  refine lv_iconst (v := 0) hx hb dX0_rankedSum_4 (by decide) ?_
  refine lv_istore (lv' := [(5, .int 0), (3, .long 0), (1, .long 0), (0, .ref (ar_ A j))]) hx hb dX0_rankedSum_5 hl (by decide) rfl (fun ls hl => ?_)
  have hu_i : u = u := rfl
  refine w_loop (N := 63) (i0 := 0) (fun i H locs ls => va_P (dC, dI) bwCl (wB A u) H ∧ va_D (aB A s.heap.size) (wB A u) ∧ va_S (aB A s.heap.size) s.heap H locs ∧ lv_has ls 9 [(0, .ref (ar_ A j)), (1, .long ((rkO (u.1 j) i).2)), (3, .long ((rkO (u.1 j) i).1)), (5, .int (nI i))]) (by decide) ⟨tr_P hu_i hP, tr_D hu_i hD, hS, lv_sub hl [3, 2, 1, 0] rfl⟩ ?_
  intro i H locs ls hz_i hi_i hI ih_i
  obtain ⟨hP, hD, hS, hl⟩ := hI
  refine lv_iload hx hb dX0_rankedSum_7 (lv_at hl 3 rfl) ?_
  refine lv_bipush (v := 63) hx hb dX0_rankedSum_9 (by decide) ?_
  refine lv_icmp_ge (tgt := 77) hx hb dX0_rankedSum_11 (by decide) (fun c1 => ?_) (fun c1 => ?_)
  · obtain rfl : i = 63 := lp_out (n := 63) rfl hi_i (by decide) c1
    refine lv_lload_n hx hb dX0_rankedSum_77 rfl (lv_at hl 1 rfl) ?_
    exact W.lret hx hb hr (fun t9 ht9 hW => ⟨⟨_, u, rfl, ⟨rfl, rfl⟩, by rw [ht9]; exact hP, va_K.moved hW.alike hK, hD⟩, hS.F ht9⟩) hS.2.2 dX0_rankedSum_78
  · have hlt_i : i < 63 := lp_in (n := 63) rfl hi_i c1
    refine lv_aload_n hx hb dX0_rankedSum_14 rfl (lv_at hl 0 rfl) ?_
    refine va_get (D := (dC, dI)) (ci := 0) (v := .ref (aw_ A j)) (C := RX0) (T := TX0) (N := 1) hx hb hw igX0 hown hK hP (4 + j) (wB_row A u hj) rfl 0 (by decide) (hw _ tw_22) (fun _ h9 => h9) rfl dX0_rankedSum_15 ?_
    refine lv_iload hx hb dX0_rankedSum_18 (lv_at hl 3 rfl) ?_
    refine va_lald hx hb hK hP (8 + j) (2 + j) (wB_wds A u hj) (tyB_wds A hj) (vp_in_nI (by omega) (by omega)) dX0_rankedSum_20 ?_
    rw [nI_clamp (n := i) (by omega)]
    refine lv_lstore (lv' := [(6, .long (u.1 j i)), (0, .ref (ar_ A j)), (1, .long ((rkO (u.1 j) i).2)), (3, .long ((rkO (u.1 j) i).1)), (5, .int (nI i))]) hx hb dX0_rankedSum_21 hl (by decide) rfl (fun ls hl => ?_)
    refine lv_lload hx hb dX0_rankedSum_23 (lv_at hl 0 rfl) ?_
    refine vp_callSi (W.runS (As := [.long (u.1 j i)]) (rest := []) ⟨hx, hb, hml, hown, hts⟩ (c_J7_bitCount l (u.1 j i)) (va_cwS 1 hts (gi_S hbc tw_91 tw_92 tw_5 tw_93) rfl rfl rfl (by decide +kernel) ⟨Nat.le_of_ble_eq_true rfl, Nat.le_of_ble_eq_true rfl⟩) preEq rfl rfl hl.1 rfl (lv_room (Nat.le_of_ble_eq_true rfl)) dX0_rankedSum_25 ⟨Nat.le_of_ble_eq_true rfl, Nat.le_of_ble_eq_true rfl⟩) (fun r hq => ?_)
    subst hq
    rw [bc_eq]
    refine lv_istore (lv' := [(8, .int (nI (pcN (u.1 j i)))), (6, .long (u.1 j i)), (0, .ref (ar_ A j)), (1, .long ((rkO (u.1 j) i).2)), (3, .long ((rkO (u.1 j) i).1)), (5, .int (nI i))]) hx hb dX0_rankedSum_28 hl (by decide) rfl (fun ls hl => ?_)
    have hu_k : u = u := rfl
    refine w_loop (N := pcN (u.1 j i)) (i0 := 0) (fun k H locs ls => va_P (dC, dI) bwCl (wB A u) H ∧ va_D (aB A s.heap.size) (wB A u) ∧ va_S (aB A s.heap.size) s.heap H locs ∧ lv_has ls 9 [(0, .ref (ar_ A j)), (1, .long ((rkN i (u.1 j i, rkO (u.1 j) i) k).2.2)), (3, .long ((rkN i (u.1 j i, rkO (u.1 j) i) k).2.1)), (5, .int (nI i)), (6, .long ((rkN i (u.1 j i, rkO (u.1 j) i) k).1)), (8, .int (nI (pcN (u.1 j i) - k)))]) (Nat.zero_le _) ⟨tr_P hu_k hP, tr_D hu_k hD, hS, lv_sub hl [2, 3, 4, 5, 1, 0] rfl⟩ ?_
    intro k H locs ls hz_k hi_k hI ih_k
    obtain ⟨hP, hD, hS, hl⟩ := hI
    refine lv_iload hx hb dX0_rankedSum_30 (lv_at hl 5 rfl) ?_
    refine lv_if_le (tgt := 71) hx hb dX0_rankedSum_32 (by decide) (fun c2 => ?_) (fun c2 => ?_)
    · obtain rfl : k = pcN (u.1 j i) := lp0_out hi_k (pcN_lt _) c2
      refine lv_iinc (v := nI (i + 1)) (lv' := [(5, .int (nI (i + 1))), (0, .ref (ar_ A j)), (1, .long ((rkN i (u.1 j i, rkO (u.1 j) i) (pcN (u.1 j i))).2.2)), (3, .long ((rkN i (u.1 j i, rkO (u.1 j) i) (pcN (u.1 j i))).2.1)), (6, .long ((rkN i (u.1 j i, rkO (u.1 j) i) (pcN (u.1 j i))).1)), (8, .int (nI (pcN (u.1 j i) - (pcN (u.1 j i)))))]) hx hb dX0_rankedSum_71 hl (k := 3) rfl (nI_1 _) (by decide) rfl (fun ls hl => ?_)
      refine lv_goto (tgt := 7) hx hb dX0_rankedSum_74 (by decide) ?_
      have hv_i : u = u := rfl
      exact ih_i _ _ _ (by omega) ⟨tr_P hv_i hP, tr_D hv_i hD, hS, lv_sub hl [1, 2, 3, 0] rfl⟩
    · have hlt_k : k < pcN (u.1 j i) := lp0_in hi_k c2
      refine lv_lload_n hx hb dX0_rankedSum_35 rfl (lv_at hl 2 rfl) ?_
      refine lv_lconst (v := 1) hx hb dX0_rankedSum_36 (by decide) ?_
      refine lv_ladd hx hb dX0_rankedSum_37 ?_
      refine lv_lstore_n (lv' := [(3, .long (((rkN i (u.1 j i, rkO (u.1 j) i) k).2.1) + 1)), (0, .ref (ar_ A j)), (1, .long ((rkN i (u.1 j i, rkO (u.1 j) i) k).2.2)), (5, .int (nI i)), (6, .long ((rkN i (u.1 j i, rkO (u.1 j) i) k).1)), (8, .int (nI (pcN (u.1 j i) - k)))]) hx hb dX0_rankedSum_38 rfl hl (by decide) rfl (fun ls hl => ?_)
      refine lv_lload_n hx hb dX0_rankedSum_39 rfl (lv_at hl 2 rfl) ?_
      refine lv_lload_n hx hb dX0_rankedSum_40 rfl (lv_at hl 0 rfl) ?_
      refine lv_bipush (v := 64) hx hb dX0_rankedSum_41 (by decide) ?_
      refine lv_iload hx hb dX0_rankedSum_43 (lv_at hl 3 rfl) ?_
      refine lv_imul hx hb dX0_rankedSum_45 ?_
      refine lv_lload hx hb dX0_rankedSum_46 (lv_at hl 4 rfl) ?_
      refine vp_callSi (W.runS (As := [.long ((rkN i (u.1 j i, rkO (u.1 j) i) k).1)]) (rest := [.int (64 * (nI i)), .long (((rkN i (u.1 j i, rkO (u.1 j) i) k).2.1) + 1), .long ((rkN i (u.1 j i, rkO (u.1 j) i) k).2.2)]) ⟨hx, hb, hml, hown, hts⟩ (c_J7_numberOfTrailingZeros l ((rkN i (u.1 j i, rkO (u.1 j) i) k).1)) (va_cwS 1 hts (gi_S hbc tw_109 tw_110 tw_5 tw_111) rfl rfl rfl (by decide +kernel) ⟨Nat.le_of_ble_eq_true rfl, Nat.le_of_ble_eq_true rfl⟩) preEq rfl rfl hl.1 rfl (lv_room (Nat.le_of_ble_eq_true rfl)) dX0_rankedSum_48 ⟨Nat.le_of_ble_eq_true rfl, Nat.le_of_ble_eq_true rfl⟩) (fun r hq => ?_)
      subst hq
      refine lv_iadd hx hb dX0_rankedSum_51 ?_
      refine lv_i2l hx hb dX0_rankedSum_52 rfl ?_
      refine lv_lmul hx hb dX0_rankedSum_53 ?_
      refine lv_ladd hx hb dX0_rankedSum_54 ?_
      refine lv_lstore_n (lv' := [(1, .long (((rkN i (u.1 j i, rkO (u.1 j) i) k).2.2) + ((((rkN i (u.1 j i, rkO (u.1 j) i) k).2.1) + 1) * (((64 * (nI i)) + (fJ7_numberOfTrailingZeros ((rkN i (u.1 j i, rkO (u.1 j) i) k).1))).toInt64)))), (3, .long (((rkN i (u.1 j i, rkO (u.1 j) i) k).2.1) + 1)), (0, .ref (ar_ A j)), (5, .int (nI i)), (6, .long ((rkN i (u.1 j i, rkO (u.1 j) i) k).1)), (8, .int (nI (pcN (u.1 j i) - k)))]) hx hb dX0_rankedSum_55 rfl hl (by decide) rfl (fun ls hl => ?_)
      refine lv_lload hx hb dX0_rankedSum_56 (lv_at hl 4 rfl) ?_
      refine lv_lload hx hb dX0_rankedSum_58 (lv_at hl 4 rfl) ?_
      refine lv_lconst (v := 1) hx hb dX0_rankedSum_60 (by decide) ?_
      refine lv_lsub hx hb dX0_rankedSum_61 ?_
      refine lv_land hx hb dX0_rankedSum_62 ?_
      refine lv_lstore (lv' := [(6, .long (((rkN i (u.1 j i, rkO (u.1 j) i) k).1) &&& (((rkN i (u.1 j i, rkO (u.1 j) i) k).1) - 1))), (1, .long (((rkN i (u.1 j i, rkO (u.1 j) i) k).2.2) + ((((rkN i (u.1 j i, rkO (u.1 j) i) k).2.1) + 1) * (((64 * (nI i)) + (fJ7_numberOfTrailingZeros ((rkN i (u.1 j i, rkO (u.1 j) i) k).1))).toInt64)))), (3, .long (((rkN i (u.1 j i, rkO (u.1 j) i) k).2.1) + 1)), (0, .ref (ar_ A j)), (5, .int (nI i)), (8, .int (nI (pcN (u.1 j i) - k)))]) hx hb dX0_rankedSum_63 hl (by decide) rfl (fun ls hl => ?_)
      refine lv_iinc (v := nI (pcN (u.1 j i) - (k + 1))) (lv' := [(8, .int (nI (pcN (u.1 j i) - (k + 1)))), (6, .long (((rkN i (u.1 j i, rkO (u.1 j) i) k).1) &&& (((rkN i (u.1 j i, rkO (u.1 j) i) k).1) - 1))), (1, .long (((rkN i (u.1 j i, rkO (u.1 j) i) k).2.2) + ((((rkN i (u.1 j i, rkO (u.1 j) i) k).2.1) + 1) * (((64 * (nI i)) + (fJ7_numberOfTrailingZeros ((rkN i (u.1 j i, rkO (u.1 j) i) k).1))).toInt64)))), (3, .long (((rkN i (u.1 j i, rkO (u.1 j) i) k).2.1) + 1)), (0, .ref (ar_ A j)), (5, .int (nI i))]) hx hb dX0_rankedSum_65 hl (k := 5) rfl (rk_dec hlt_k) (by decide) rfl (fun ls hl => ?_)
      refine lv_goto (tgt := 30) hx hb dX0_rankedSum_68 (by decide) ?_
      have hv_k : u = u := rfl
      exact ih_k _ _ _ (by omega) ⟨tr_P hv_k hP, tr_D hv_k hD, hS, lv_sub hl [4, 2, 3, 5, 1, 0] rfl⟩
