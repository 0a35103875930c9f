set_option maxHeartbeats 4000000 in
set_option maxRecDepth 100000 in
theorem c_X1_length (l : Launch) (dC : Nat → ClassId) (dI : Nat → Nat → Nat) (A : AdB) (u : StB)  : gMi l yX1_length wX1_length ({ frames := 0, cells := 0, slots := 0, locals := 0 }) (dC, dI) bwCl (tyB A) (wB A) (aB A) [.ref (ag_ A)] u (fun r v => r = u.2.2 ∧ u = v) := by
  unfold gMi
  intro sz
  refine Met.ofW (cc := cX1_length) (maxL := 1) (ret := (some .int)) (by decide) rfl ?_
  intro p e s m args below meth c s₁ B hml hv
  obtain ⟨rfl, hsz, hP, hK, hD⟩ := hv
  subst hsz
  have hS : va_S (aB A s.heap.size) s.heap s.heap [] := va_S.rf
  have hx := B.exec
  have hb := B.bytes
  have hr := B.returns
  have hts := atoms_spec (ws := wX1_length) B.pre
  have hw : ∀ w ∈ tg_, w.before _ s = true := fun w h => hts w (List.mem_cons_of_mem _ h)
  have hown : s.vm.findClass RX1 = some m.cls := findClass_of_methodNamed B.named
  have hlocks := B.notSynchronized
  have hl := lv_entry ([.ref (ag_ A)]) (n := 1) (Nat.le_of_ble_eq_true rfl)
  rw [lg_entry_eq]
  generalize (lg_sl ([.ref (ag_ A)]) ++ List.replicate (1 - (lg_sl ([.ref (ag_ A)])).length) Slot.unset).toArray = ls at hl ⊢
  have hl : lv_has ls 1 [(0, .ref (ag_ A))] := hl
  refine lv_aload_n hx hb dX1_length_0 rfl (lv_at hl 0 rfl) ?_
  refine va_get (D := (dC, dI)) (ci := 1) (v := .int u.2.2) (C := RX1) (T := TX1) (N := 2) hx hb hw igX1 hown hK hP 2 rfl rfl 1 (by decide) (hw _ tw_34) (fun _ h9 => h9) rfl dX1_length_1 ?_
  exact W.iret hx hb hr (fun t9 ht9 hW => ⟨⟨_, u, rfl, ⟨rfl, rfl⟩, by rw [ht9]; exact hP, va_K.moved hW.alike hK, hD⟩, hS.F ht9⟩) hS.2.2 dX1_length_4
set_option maxHeartbeats 4000000 in
set_option maxRecDepth 100000 in
theorem c_X1_codeAt (l : Launch) (dC : Nat → ClassId) (dI : Nat → Nat → Nat) (A : AdB) (u : StB) {t : List Int32} (ht : txB u t) (p0 : Int32) : gMi l yX1_codeAt wX1_codeAt ({ frames := 0, cells := 0, slots := 0, locals := 0 }) (dC, dI) bwCl (tyB A) (wB A) (aB A) [.ref (ag_ A), .int p0] u (fun r v => r = fX1_codeAt u p0 ∧ u = v) := by
  unfold gMi
  intro sz
  refine Met.ofW (cc := cX1_codeAt) (maxL := 2) (ret := (some .int)) (by decide) rfl ?_
  intro p e s m args below meth c s₁ B hml hv
  obtain ⟨rfl, hsz, hP, hK, hD⟩ := hv
  subst hsz
  have hS : va_S (aB A s.heap.size) s.heap s.heap [] := va_S.rf
  have hx := B.exec
  have hb := B.bytes
  have hr := B.returns
  have hts := atoms_spec (ws := wX1_codeAt) B.pre
  have hw : ∀ w ∈ tg_, w.before _ s = true := fun w h => hts w (List.mem_cons_of_mem _ h)
  have hown : s.vm.findClass RX1 = some m.cls := findClass_of_methodNamed B.named
  have hlocks := B.notSynchronized
  have hl := lv_entry ([.ref (ag_ A), .int p0]) (n := 2) (Nat.le_of_ble_eq_true rfl)
  rw [lg_entry_eq]
  generalize (lg_sl ([.ref (ag_ A), .int p0]) ++ List.replicate (2 - (lg_sl ([.ref (ag_ A), .int p0])).length) Slot.unset).toArray = ls at hl ⊢
  have hl : lv_has ls 2 [(0, .ref (ag_ A)), (1, .int p0)] := hl
  refine lv_iload_n hx hb dX1_codeAt_0 rfl (lv_at hl 1 rfl) ?_
  refine lv_if_lt (tgt := 12) hx hb dX1_codeAt_1 (by decide) (fun c1 => ?_) (fun c1 => ?_)
  · refine lv_bipush (v := -2) hx hb dX1_codeAt_12 (by decide) ?_
    exact W.iret hx hb hr (fun t9 ht9 hW => ⟨⟨_, u, rfl, ⟨by unfold fX1_codeAt; rw [if_pos c1], rfl⟩, by rw [ht9]; exact hP, va_K.moved hW.alike hK, hD⟩, hS.F ht9⟩) hS.2.2 dX1_codeAt_14
  · refine lv_iload_n hx hb dX1_codeAt_4 rfl (lv_at hl 1 rfl) ?_
    refine lv_aload_n hx hb dX1_codeAt_5 rfl (lv_at hl 0 rfl) ?_
    refine va_get (D := (dC, dI)) (ci := 1) (v := .int u.2.2) (C := RX1) (T := TX1) (N := 2) hx hb hw igX1 hown hK hP 2 rfl rfl 1 (by decide) (hw _ tw_34) (fun _ h9 => h9) rfl dX1_codeAt_6 ?_
    refine lv_icmp_lt (tgt := 15) hx hb dX1_codeAt_9 (by decide) (fun c2 => ?_) (fun c2 => ?_)
    · refine lv_aload_n hx hb dX1_codeAt_15 rfl (lv_at hl 0 rfl) ?_
      refine va_get (D := (dC, dI)) (ci := 1) (v := .ref (ac_ A)) (C := RX1) (T := TX1) (N := 2) hx hb hw igX1 hown hK hP 2 rfl rfl 0 (by decide) (hw _ tw_33) (fun _ h9 => h9) rfl dX1_codeAt_16 ?_
      refine lv_iload_n hx hb dX1_codeAt_19 rfl (lv_at hl 1 rfl) ?_
      refine va_cald hx hb hK hP 3 1 rfl rfl (ca_in ht c1 c2) dX1_codeAt_20 ?_
      exact W.iret hx hb hr (fun t9 ht9 hW => ⟨⟨_, u, rfl, ⟨by unfold fX1_codeAt; rw [if_neg c1, if_pos c2], rfl⟩, by rw [ht9]; exact hP, va_K.moved hW.alike hK, hD⟩, hS.F ht9⟩) hS.2.2 dX1_codeAt_21
    · refine lv_bipush (v := -2) hx hb dX1_codeAt_12 (by decide) ?_
      exact W.iret hx hb hr (fun t9 ht9 hW => ⟨⟨_, u, rfl, ⟨by unfold fX1_codeAt; rw [if_neg c1, if_neg c2], rfl⟩, by rw [ht9]; exact hP, va_K.moved hW.alike hK, hD⟩, hS.F ht9⟩) hS.2.2 dX1_codeAt_14
set_option maxHeartbeats 4000000 in
set_option maxRecDepth 100000 in
theorem c_X1_add (l : Launch) (dC : Nat → ClassId) (dI : Nat → Nat → Nat) (A : AdB) (u : StB) {t : List Int32} (ht : txB u t) (p0 : Int32) : gMv l yX1_add wX1_add ({ frames := 0, cells := 0, slots := 0, locals := 0 }) (dC, dI) bwCl (tyB A) (wB A) (aB A) [.ref (ag_ A), .int p0] u (fun v => v.1 = u.1 ∧ txB v (adT t (vp_nar .char p0))) := by
  unfold gMv
  intro sz
  refine Met.ofW (cc := cX1_add) (maxL := 2) (ret := none) (by decide) rfl ?_
  intro p e s m args below meth c s₁ B hml hv
  obtain ⟨rfl, hsz, hP, hK, hD⟩ := hv
  subst hsz
  have hS : va_S (aB A s.heap.size) s.heap s.heap [] := va_S.rf
  have hx := B.exec
  have hb := B.bytes
  have hr := B.returns
  have hts := atoms_spec (ws := wX1_add) B.pre
  have hw : ∀ w ∈ tg_, w.before _ s = true := fun w h => hts w (List.mem_cons_of_mem _ h)
  have hown : s.vm.findClass RX1 = some m.cls := findClass_of_methodNamed B.named
  have hlocks := B.notSynchronized
  have hl := lv_entry ([.ref (ag_ A), .int p0]) (n := 2) (Nat.le_of_ble_eq_true rfl)
  rw [lg_entry_eq]
  generalize (lg_sl ([.ref (ag_ A), .int p0]) ++ List.replicate (2 - (lg_sl ([.ref (ag_ A), .int p0])).length) Slot.unset).toArray = ls at hl ⊢
  have hl : lv_has ls 2 [(0, .ref (ag_ A)), (1, .int p0)] := hl
  refine lv_aload_n hx hb dX1_add_0 rfl (lv_at hl 0 rfl) ?_
  refine va_get (D := (dC, dI)) (ci := 1) (v := .int u.2.2) (C := RX1) (T := TX1) (N := 2) hx hb hw igX1 hown hK hP 2 rfl rfl 1 (by decide) (hw _ tw_34) (fun _ h9 => h9) rfl dX1_add_1 ?_
  refine lv_sipush (v := 530) hx hb dX1_add_4 (by decide) ?_
  refine lv_icmp_ge (tgt := 30) hx hb dX1_add_7 (by decide) (fun c1 => ?_) (fun c1 => ?_)
  · exact W.vret hx hb hr (fun t9 ht9 hW => ⟨⟨u, rfl, ⟨rfl, ad_no _ ht c1⟩, by rw [ht9]; exact hP, va_K.moved hW.alike hK, hD⟩, hS.F ht9⟩) hS.2.2 dX1_add_30
  · refine lv_aload_n hx hb dX1_add_10 rfl (lv_at hl 0 rfl) ?_
    refine va_get (D := (dC, dI)) (ci := 1) (v := .ref (ac_ A)) (C := RX1) (T := TX1) (N := 2) hx hb hw igX1 hown hK hP 2 rfl rfl 0 (by decide) (hw _ tw_33) (fun _ h9 => h9) rfl dX1_add_11 ?_
    refine lv_aload_n hx hb dX1_add_14 rfl (lv_at hl 0 rfl) ?_
    refine va_get (D := (dC, dI)) (ci := 1) (v := .int u.2.2) (C := RX1) (T := TX1) (N := 2) hx hb hw igX1 hown hK hP 2 rfl rfl 1 (by decide) (hw _ tw_34) (fun _ h9 => h9) rfl dX1_add_15 ?_
    refine lv_iload_n hx hb dX1_add_18 rfl (lv_at hl 1 rfl) ?_
    refine va_cast hx hb hK hP hD hS 3 1 rfl rfl (ad_in ht c1) dX1_add_19 (fun H locs hP hD hS => ?_)
    rw [wB_chr] at hP hD
    refine lv_aload_n hx hb dX1_add_20 rfl (lv_at hl 0 rfl) ?_
    refine lv_dup hx hb dX1_add_21 rfl ?_
    refine va_get (D := (dC, dI)) (ci := 1) (v := .int ((u.1, upd u.2.1 u.2.2.toNatClampNeg (vp_nar .char p0), u.2.2).2.2)) (C := RX1) (T := TX1) (N := 2) hx hb hw igX1 hown hK hP 2 rfl rfl 1 (by decide) (hw _ tw_34) (fun _ h9 => h9) rfl dX1_add_22 ?_
    refine lv_iconst (v := 1) hx hb dX1_add_25 (by decide) ?_
    refine lv_iadd hx hb dX1_add_26 ?_
    refine va_put (D := (dC, dI)) (ci := 1) (v := .int (((u.1, upd u.2.1 u.2.2.toNatClampNeg (vp_nar .char p0), u.2.2).2.2) + 1)) (ty := .int) (C := RX1) (T := TX1) (N := 2) hx hb hw igX1 tyX1 tyX1_ok nmX1 hown hK hP hD hS 2 rfl rfl 1 (by decide) (hw _ tw_34) (fun _ h9 => h9) rfl (by decide +kernel) rfl rfl (Nat.le_of_ble_eq_true rfl) dX1_add_27 (fun H locs hP hD hS => ?_)
    have hP : va_P (dC, dI) bwCl (wB A ((u.1, upd u.2.1 u.2.2.toNatClampNeg (vp_nar .char p0), u.2.2).1, (u.1, upd u.2.1 u.2.2.toNatClampNeg (vp_nar .char p0), u.2.2).2.1, ((u.1, upd u.2.1 u.2.2.toNatClampNeg (vp_nar .char p0), u.2.2).2.2) + 1)) H := hP
    have hD : va_D (aB A s.heap.size) (wB A ((u.1, upd u.2.1 u.2.2.toNatClampNeg (vp_nar .char p0), u.2.2).1, (u.1, upd u.2.1 u.2.2.toNatClampNeg (vp_nar .char p0), u.2.2).2.1, ((u.1, upd u.2.1 u.2.2.toNatClampNeg (vp_nar .char p0), u.2.2).2.2) + 1)) := hD
    exact W.vret hx hb hr (fun t9 ht9 hW => ⟨⟨((u.1, upd u.2.1 u.2.2.toNatClampNeg (vp_nar .char p0), u.2.2).1, (u.1, upd u.2.1 u.2.2.toNatClampNeg (vp_nar .char p0), u.2.2).2.1, ((u.1, upd u.2.1 u.2.2.toNatClampNeg (vp_nar .char p0), u.2.2).2.2) + 1), rfl, ⟨rfl, ad_ok _ ht c1⟩, by rw [ht9]; exact hP, va_K.moved hW.alike hK, hD⟩, hS.F ht9⟩) hS.2.2 dX1_add_30
set_option maxHeartbeats 4000000 in
set_option maxRecDepth 100000 in
theorem c_X1_addDigit (l : Launch) (dC : Nat → ClassId) (dI : Nat → Nat → Nat) (A : AdB) (u : StB) {t : List Int32} (ht : txB u t) (p0 : Int32) : gMv l yX1_addDigit wX1_addDigit ({ frames := 1, cells := 0, slots := 0, locals := 21 }) (dC, dI) bwCl (tyB A) (wB A) (aB A) [.ref (ag_ A), .int p0] u (fun v => v.1 = u.1 ∧ txB v (dgT t p0)) := by
  unfold gMv
  intro sz
  refine Met.ofW (cc := cX1_addDigit) (maxL := 2) (ret := none) (by decide) rfl ?_
  intro p e s m args below meth c s₁ B hml hv
  obtain ⟨rfl, hsz, hP, hK, hD⟩ := hv
  subst hsz
  have hS : va_S (aB A s.heap.size) s.heap s.heap [] := va_S.rf
  have hx := B.exec
  have hb := B.bytes
  have hr := B.returns
  have hts := atoms_spec (ws := wX1_addDigit) B.pre
  have hw : ∀ w ∈ tg_, w.before _ s = true := fun w h => hts w (List.mem_cons_of_mem _ h)
  have hown : s.vm.findClass RX1 = some m.cls := findClass_of_methodNamed B.named
  have hlocks := B.notSynchronized
  have hl := lv_entry ([.ref (ag_ A), .int p0]) (n := 2) (Nat.le_of_ble_eq_true rfl)
  rw [lg_entry_eq]
  generalize (lg_sl ([.ref (ag_ A), .int p0]) ++ List.replicate (2 - (lg_sl ([.ref (ag_ A), .int p0])).length) Slot.unset).toArray = ls at hl ⊢
  have hl : lv_has ls 2 [(0, .ref (ag_ A)), (1, .int p0)] := hl
  refine lv_aload_n hx hb dX1_addDigit_0 rfl (lv_at hl 0 rfl) ?_
  refine lv_bipush (v := 48) hx hb dX1_addDigit_1 (by decide) ?_
  refine lv_iload_n hx hb dX1_addDigit_3 rfl (lv_at hl 1 rfl) ?_
  refine lv_iadd hx hb dX1_addDigit_4 ?_
  refine lv_i2c hx hb dX1_addDigit_5 rfl ?_
  refine gVv (As := [.int (((48 + p0).toUInt32 % 65536).toInt32)]) (rest := []) ⟨hx, hb, hml, hown, hts⟩ (c_X1_add l dC dI A u ht (((48 + p0).toUInt32 % 65536).toInt32)) (cwV 1 hts (gi_V hbc tw_209 tw_211 ts_1 tw_3 tw_212) rfl rfl rfl (by decide +kernel) ⟨Nat.le_of_ble_eq_true rfl, Nat.le_of_ble_eq_true rfl⟩) (va_recv hK hP (ci := 1) (q0 := 2) rfl rfl) aB_mono aB_D hP hK hD hS rfl hl.1 rfl (Nat.le_of_ble_eq_true rfl) dX1_addDigit_6 ⟨Nat.le_of_ble_eq_true rfl, Nat.le_of_ble_eq_true rfl⟩ (fun v3 H locs hq2 hP hD hS => ?_)
  obtain ⟨h4, ht5⟩ := hq2
  exact W.vret hx hb hr (fun t9 ht9 hW => ⟨⟨v3, rfl, ⟨h4, ht5⟩, by rw [ht9]; exact hP, va_K.moved hW.alike hK, hD⟩, hS.F ht9⟩) hS.2.2 dX1_addDigit_9
set_option maxHeartbeats 4000000 in
set_option maxRecDepth 100000 in
theorem c_X1_addPlace (l : Launch) (dC : Nat → ClassId) (dI : Nat → Nat → Nat) (A : AdB) (u : StB) {t : List Int32} (ht : txB u t) (p0 : Int32) : gMv l yX1_addPlace wX1_addPlace ({ frames := 2, cells := 0, slots := 0, locals := 42 }) (dC, dI) bwCl (tyB A) (wB A) (aB A) [.ref (ag_ A), .int p0] u (fun v => v.1 = u.1 ∧ txB v (apT p0 t)) := by
  unfold gMv
  intro sz
  refine Met.ofW (cc := cX1_addPlace) (maxL := 2) (ret := none) (by decide) rfl ?_
  intro p e s m args below meth c s₁ B hml hv
  obtain ⟨rfl, hsz, hP, hK, hD⟩ := hv
  subst hsz
  have hS : va_S (aB A s.heap.size) s.heap s.heap [] := va_S.rf
  have hx := B.exec
  have hb := B.bytes
  have hr := B.returns
  have hts := atoms_spec (ws := wX1_addPlace) B.pre
  have hw : ∀ w ∈ tg_, w.before _ s = true := fun w h => hts w (List.mem_cons_of_mem _ h)
  have hown : s.vm.findClass RX1 = some m.cls := findClass_of_methodNamed B.named
  have hlocks := B.notSynchronized
  have hl := lv_entry ([.ref (ag_ A), .int p0]) (n := 2) (Nat.le_of_ble_eq_true rfl)
  rw [lg_entry_eq]
  generalize (lg_sl ([.ref (ag_ A), .int p0]) ++ List.replicate (2 - (lg_sl ([.ref (ag_ A), .int p0])).length) Slot.unset).toArray = ls at hl ⊢
  have hl : lv_has ls 2 [(0, .ref (ag_ A)), (1, .int p0)] := hl
  refine lv_aload_n hx hb dX1_addPlace_0 rfl (lv_at hl 0 rfl) ?_
  refine va_get (D := (dC, dI)) (ci := 1) (v := .int u.2.2) (C := RX1) (T := TX1) (N := 2) hx hb hw igX1 hown hK hP 2 rfl rfl 1 (by decide) (hw _ tw_34) (fun _ h9 => h9) rfl dX1_addPlace_1 ?_
  refine lv_iconst (v := 1) hx hb dX1_addPlace_4 (by decide) ?_
  refine lv_icmp_le (tgt := 20) hx hb dX1_addPlace_5 (by decide) (fun c1 => ?_) (fun c1 => ?_)
  · rw [ht.1] at c1
    refine lv_iload_n hx hb dX1_addPlace_20 rfl (lv_at hl 1 rfl) ?_
    refine lv_bipush (v := 100) hx hb dX1_addPlace_21 (by decide) ?_
    refine lv_icmp_lt (tgt := 34) hx hb dX1_addPlace_23 (by decide) (fun c2 => ?_) (fun c2 => ?_)
    · refine lv_iload_n hx hb dX1_addPlace_34 rfl (lv_at hl 1 rfl) ?_
      refine lv_bipush (v := 10) hx hb dX1_addPlace_35 (by decide) ?_
      refine lv_icmp_lt (tgt := 51) hx hb dX1_addPlace_37 (by decide) (fun c3 => ?_) (fun c3 => ?_)
      · refine lv_aload_n hx hb dX1_addPlace_51 rfl (lv_at hl 0 rfl) ?_
        refine lv_iload_n hx hb dX1_addPlace_52 rfl (lv_at hl 1 rfl) ?_
        refine lv_bipush (v := 10) hx hb dX1_addPlace_53 (by decide) ?_
        refine lv_irem hx hb dX1_addPlace_55 (by decide) ?_
        refine gVv (As := [.int (p0 - p0 / 10 * 10)]) (rest := []) ⟨hx, hb, hml, hown, hts⟩ (c_X1_addDigit l dC dI A u ht (p0 - p0 / 10 * 10)) (cwV 1 hts (gi_V hbc tw_218 tw_220 ts_3 tw_3 tw_221) rfl rfl rfl (by decide +kernel) ⟨Nat.le_of_ble_eq_true rfl, Nat.le_of_ble_eq_true rfl⟩) (va_recv hK hP (ci := 1) (q0 := 2) rfl rfl) aB_mono aB_D hP hK hD hS rfl hl.1 rfl (Nat.le_of_ble_eq_true rfl) dX1_addPlace_56 ⟨Nat.le_of_ble_eq_true rfl, Nat.le_of_ble_eq_true rfl⟩ (fun v6 H locs hq5 hP hD hS => ?_)
        obtain ⟨h7, ht8⟩ := hq5
        exact W.vret hx hb hr (fun t9 ht9 hW => ⟨⟨v6, rfl, ⟨h7, by unfold apT ap3 ap2 ap1; rw [if_pos c1, if_pos c2, if_pos c3]; exact ht8⟩, by rw [ht9]; exact hP, va_K.moved hW.alike hK, hD⟩, hS.F ht9⟩) hS.2.2 dX1_addPlace_59
      · refine lv_aload_n hx hb dX1_addPlace_40 rfl (lv_at hl 0 rfl) ?_
        refine lv_iload_n hx hb dX1_addPlace_41 rfl (lv_at hl 1 rfl) ?_
        refine lv_bipush (v := 10) hx hb dX1_addPlace_42 (by decide) ?_
        refine lv_idiv hx hb dX1_addPlace_44 (by decide) ?_
        refine lv_bipush (v := 10) hx hb dX1_addPlace_45 (by decide) ?_
        refine lv_irem hx hb dX1_addPlace_47 (by decide) ?_
        refine gVv (As := [.int ((p0 / 10) - (p0 / 10) / 10 * 10)]) (rest := []) ⟨hx, hb, hml, hown, hts⟩ (c_X1_addDigit l dC dI A u ht ((p0 / 10) - (p0 / 10) / 10 * 10)) (cwV 1 hts (gi_V hbc tw_218 tw_220 ts_3 tw_3 tw_221) rfl rfl rfl (by decide +kernel) ⟨Nat.le_of_ble_eq_true rfl, Nat.le_of_ble_eq_true rfl⟩) (va_recv hK hP (ci := 1) (q0 := 2) rfl rfl) aB_mono aB_D hP hK hD hS rfl hl.1 rfl (Nat.le_of_ble_eq_true rfl) dX1_addPlace_48 ⟨Nat.le_of_ble_eq_true rfl, Nat.le_of_ble_eq_true rfl⟩ (fun v11 H locs hq10 hP hD hS => ?_)
        obtain ⟨h12, ht13⟩ := hq10
        refine lv_aload_n hx hb dX1_addPlace_51 rfl (lv_at hl 0 rfl) ?_
        refine lv_iload_n hx hb dX1_addPlace_52 rfl (lv_at hl 1 rfl) ?_
        refine lv_bipush (v := 10) hx hb dX1_addPlace_53 (by decide) ?_
        refine lv_irem hx hb dX1_addPlace_55 (by decide) ?_
        refine gVv (As := [.int (p0 - p0 / 10 * 10)]) (rest := []) ⟨hx, hb, hml, hown, hts⟩ (c_X1_addDigit l dC dI A v11 ht13 (p0 - p0 / 10 * 10)) (cwV 1 hts (gi_V hbc tw_218 tw_220 ts_3 tw_3 tw_221) rfl rfl rfl (by decide +kernel) ⟨Nat.le_of_ble_eq_true rfl, Nat.le_of_ble_eq_true rfl⟩) (va_recv hK hP (ci := 1) (q0 := 2) rfl rfl) aB_mono aB_D hP hK hD hS rfl hl.1 rfl (Nat.le_of_ble_eq_true rfl) dX1_addPlace_56 ⟨Nat.le_of_ble_eq_true rfl, Nat.le_of_ble_eq_true rfl⟩ (fun v16 H locs hq15 hP hD hS => ?_)
        obtain ⟨h17, ht18⟩ := hq15
        have h17 := h17.trans h12
        exact W.vret hx hb hr (fun t9 ht9 hW => ⟨⟨v16, rfl, ⟨h17, by unfold apT ap3 ap2 ap1; rw [if_pos c1, if_pos c2, if_neg c3]; exact ht18⟩, by rw [ht9]; exact hP, va_K.moved hW.alike hK, hD⟩, hS.F ht9⟩) hS.2.2 dX1_addPlace_59
    · refine lv_aload_n hx hb dX1_addPlace_26 rfl (lv_at hl 0 rfl) ?_
      refine lv_iload_n hx hb dX1_addPlace_27 rfl (lv_at hl 1 rfl) ?_
      refine lv_bipush (v := 100) hx hb dX1_addPlace_28 (by decide) ?_
      refine lv_idiv hx hb dX1_addPlace_30 (by decide) ?_
      refine gVv (As := [.int (p0 / 100)]) (rest := []) ⟨hx, hb, hml, hown, hts⟩ (c_X1_addDigit l dC dI A u ht (p0 / 100)) (cwV 1 hts (gi_V hbc tw_218 tw_220 ts_3 tw_3 tw_221) rfl rfl rfl (by decide +kernel) ⟨Nat.le_of_ble_eq_true rfl, Nat.le_of_ble_eq_true rfl⟩) (va_recv hK hP (ci := 1) (q0 := 2) rfl rfl) aB_mono aB_D hP hK hD hS rfl hl.1 rfl (Nat.le_of_ble_eq_true rfl) dX1_addPlace_31 ⟨Nat.le_of_ble_eq_true rfl, Nat.le_of_ble_eq_true rfl⟩ (fun v21 H locs hq20 hP hD hS => ?_)
      obtain ⟨h22, ht23⟩ := hq20
      refine lv_iload_n hx hb dX1_addPlace_34 rfl (lv_at hl 1 rfl) ?_
      refine lv_bipush (v := 10) hx hb dX1_addPlace_35 (by decide) ?_
      refine lv_icmp_lt (tgt := 51) hx hb dX1_addPlace_37 (by decide) (fun c24 => ?_) (fun c24 => ?_)
      · refine lv_aload_n hx hb dX1_addPlace_51 rfl (lv_at hl 0 rfl) ?_
        refine lv_iload_n hx hb dX1_addPlace_52 rfl (lv_at hl 1 rfl) ?_
        refine lv_bipush (v := 10) hx hb dX1_addPlace_53 (by decide) ?_
        refine lv_irem hx hb dX1_addPlace_55 (by decide) ?_
        refine gVv (As := [.int (p0 - p0 / 10 * 10)]) (rest := []) ⟨hx, hb, hml, hown, hts⟩ (c_X1_addDigit l dC dI A v21 ht23 (p0 - p0 / 10 * 10)) (cwV 1 hts (gi_V hbc tw_218 tw_220 ts_3 tw_3 tw_221) rfl rfl rfl (by decide +kernel) ⟨Nat.le_of_ble_eq_true rfl, Nat.le_of_ble_eq_true rfl⟩) (va_recv hK hP (ci := 1) (q0 := 2) rfl rfl) aB_mono aB_D hP hK hD hS rfl hl.1 rfl (Nat.le_of_ble_eq_true rfl) dX1_addPlace_56 ⟨Nat.le_of_ble_eq_true rfl, Nat.le_of_ble_eq_true rfl⟩ (fun v27 H locs hq26 hP hD hS => ?_)
        obtain ⟨h28, ht29⟩ := hq26
        have h28 := h28.trans h22
        exact W.vret hx hb hr (fun t9 ht9 hW => ⟨⟨v27, rfl, ⟨h28, by unfold apT ap3 ap2 ap1; rw [if_pos c1, if_neg c2, if_pos c24]; exact ht29⟩, by rw [ht9]; exact hP, va_K.moved hW.alike hK, hD⟩, hS.F ht9⟩) hS.2.2 dX1_addPlace_59
      · refine lv_aload_n hx hb dX1_addPlace_40 rfl (lv_at hl 0 rfl) ?_
        refine lv_iload_n hx hb dX1_addPlace_41 rfl (lv_at hl 1 rfl) ?_
        refine lv_bipush (v := 10) hx hb dX1_addPlace_42 (by decide) ?_
        refine lv_idiv hx hb dX1_addPlace_44 (by decide) ?_
        refine lv_bipush (v := 10) hx hb dX1_addPlace_45 (by decide) ?_
        refine lv_irem hx hb dX1_addPlace_47 (by decide) ?_
        refine gVv (As := [.int ((p0 / 10) - (p0 / 10) / 10 * 10)]) (rest := []) ⟨hx, hb, hml, hown, hts⟩ (c_X1_addDigit l dC dI A v21 ht23 ((p0 / 10) - (p0 / 10) / 10 * 10)) (cwV 1 hts (gi_V hbc tw_218 tw_220 ts_3 tw_3 tw_221) rfl rfl rfl (by decide +kernel) ⟨Nat.le_of_ble_eq_true rfl, Nat.le_of_ble_eq_true rfl⟩) (va_recv hK hP (ci := 1) (q0 := 2) rfl rfl) aB_mono aB_D hP hK hD hS rfl hl.1 rfl (Nat.le_of_ble_eq_true rfl) dX1_addPlace_48 ⟨Nat.le_of_ble_eq_true rfl, Nat.le_of_ble_eq_true rfl⟩ (fun v32 H locs hq31 hP hD hS => ?_)
        obtain ⟨h33, ht34⟩ := hq31
        have h33 := h33.trans h22
        refine lv_aload_n hx hb dX1_addPlace_51 rfl (lv_at hl 0 rfl) ?_
        refine lv_iload_n hx hb dX1_addPlace_52 rfl (lv_at hl 1 rfl) ?_
        refine lv_bipush (v := 10) hx hb dX1_addPlace_53 (by decide) ?_
        refine lv_irem hx hb dX1_addPlace_55 (by decide) ?_
        refine gVv (As := [.int (p0 - p0 / 10 * 10)]) (rest := []) ⟨hx, hb, hml, hown, hts⟩ (c_X1_addDigit l dC dI A v32 ht34 (p0 - p0 / 10 * 10)) (cwV 1 hts (gi_V hbc tw_218 tw_220 ts_3 tw_3 tw_221) rfl rfl rfl (by decide +kernel) ⟨Nat.le_of_ble_eq_true rfl, Nat.le_of_ble_eq_true rfl⟩) (va_recv hK hP (ci := 1) (q0 := 2) rfl rfl) aB_mono aB_D hP hK hD hS rfl hl.1 rfl (Nat.le_of_ble_eq_true rfl) dX1_addPlace_56 ⟨Nat.le_of_ble_eq_true rfl, Nat.le_of_ble_eq_true rfl⟩ (fun v37 H locs hq36 hP hD hS => ?_)
        obtain ⟨h38, ht39⟩ := hq36
        have h38 := h38.trans h33
        exact W.vret hx hb hr (fun t9 ht9 hW => ⟨⟨v37, rfl, ⟨h38, by unfold apT ap3 ap2 ap1; rw [if_pos c1, if_neg c2, if_neg c24]; exact ht39⟩, by rw [ht9]; exact hP, va_K.moved hW.alike hK, hD⟩, hS.F ht9⟩) hS.2.2 dX1_addPlace_59
  · rw [ht.1] at c1
    refine lv_aload_n hx hb dX1_addPlace_8 rfl (lv_at hl 0 rfl) ?_
    refine lv_bipush (v := 44) hx hb dX1_addPlace_9 (by decide) ?_
    refine gVv (As := [.int 44]) (rest := []) ⟨hx, hb, hml, hown, hts⟩ (c_X1_add l dC dI A u ht 44) (cwV 1 hts (gi_V hbc tw_209 tw_211 ts_1 tw_3 tw_212) rfl rfl rfl (by decide +kernel) ⟨Nat.le_of_ble_eq_true rfl, Nat.le_of_ble_eq_true rfl⟩) (va_recv hK hP (ci := 1) (q0 := 2) rfl rfl) aB_mono aB_D hP hK hD hS rfl hl.1 rfl (Nat.le_of_ble_eq_true rfl) dX1_addPlace_11 ⟨Nat.le_of_ble_eq_true rfl, Nat.le_of_ble_eq_true rfl⟩ (fun v42 H locs hq41 hP hD hS => ?_)
    obtain ⟨h43, ht44⟩ := hq41
    refine lv_aload_n hx hb dX1_addPlace_14 rfl (lv_at hl 0 rfl) ?_
    refine lv_bipush (v := 32) hx hb dX1_addPlace_15 (by decide) ?_
    refine gVv (As := [.int 32]) (rest := []) ⟨hx, hb, hml, hown, hts⟩ (c_X1_add l dC dI A v42 ht44 32) (cwV 1 hts (gi_V hbc tw_209 tw_211 ts_1 tw_3 tw_212) rfl rfl rfl (by decide +kernel) ⟨Nat.le_of_ble_eq_true rfl, Nat.le_of_ble_eq_true rfl⟩) (va_recv hK hP (ci := 1) (q0 := 2) rfl rfl) aB_mono aB_D hP hK hD hS rfl hl.1 rfl (Nat.le_of_ble_eq_true rfl) dX1_addPlace_17 ⟨Nat.le_of_ble_eq_true rfl, Nat.le_of_ble_eq_true rfl⟩ (fun v47 H locs hq46 hP hD hS => ?_)
    obtain ⟨h48, ht49⟩ := hq46
    have h48 := h48.trans h43
    refine lv_iload_n hx hb dX1_addPlace_20 rfl (lv_at hl 1 rfl) ?_
    refine lv_bipush (v := 100) hx hb dX1_addPlace_21 (by decide) ?_
    refine lv_icmp_lt (tgt := 34) hx hb dX1_addPlace_23 (by decide) (fun c50 => ?_) (fun c50 => ?_)
    · refine lv_iload_n hx hb dX1_addPlace_34 rfl (lv_at hl 1 rfl) ?_
      refine lv_bipush (v := 10) hx hb dX1_addPlace_35 (by decide) ?_
      refine lv_icmp_lt (tgt := 51) hx hb dX1_addPlace_37 (by decide) (fun c51 => ?_) (fun c51 => ?_)
      · refine lv_aload_n hx hb dX1_addPlace_51 rfl (lv_at hl 0 rfl) ?_
        refine lv_iload_n hx hb dX1_addPlace_52 rfl (lv_at hl 1 rfl) ?_
        refine lv_bipush (v := 10) hx hb dX1_addPlace_53 (by decide) ?_
        refine lv_irem hx hb dX1_addPlace_55 (by decide) ?_
        refine gVv (As := [.int (p0 - p0 / 10 * 10)]) (rest := []) ⟨hx, hb, hml, hown, hts⟩ (c_X1_addDigit l dC dI A v47 ht49 (p0 - p0 / 10 * 10)) (cwV 1 hts (gi_V hbc tw_218 tw_220 ts_3 tw_3 tw_221) rfl rfl rfl (by decide +kernel) ⟨Nat.le_of_ble_eq_true rfl, Nat.le_of_ble_eq_true rfl⟩) (va_recv hK hP (ci := 1) (q0 := 2) rfl rfl) aB_mono aB_D hP hK hD hS rfl hl.1 rfl (Nat.le_of_ble_eq_true rfl) dX1_addPlace_56 ⟨Nat.le_of_ble_eq_true rfl, Nat.le_of_ble_eq_true rfl⟩ (fun v54 H locs hq53 hP hD hS => ?_)
        obtain ⟨h55, ht56⟩ := hq53
        have h55 := h55.trans h48
        exact W.vret hx hb hr (fun t9 ht9 hW => ⟨⟨v54, rfl, ⟨h55, by unfold apT ap3 ap2 ap1; rw [if_neg c1, if_pos c50, if_pos c51]; exact ht56⟩, by rw [ht9]; exact hP, va_K.moved hW.alike hK, hD⟩, hS.F ht9⟩) hS.2.2 dX1_addPlace_59
      · refine lv_aload_n hx hb dX1_addPlace_40 rfl (lv_at hl 0 rfl) ?_
        refine lv_iload_n hx hb dX1_addPlace_41 rfl (lv_at hl 1 rfl) ?_
        refine lv_bipush (v := 10) hx hb dX1_addPlace_42 (by decide) ?_
        refine lv_idiv hx hb dX1_addPlace_44 (by decide) ?_
        refine lv_bipush (v := 10) hx hb dX1_addPlace_45 (by decide) ?_
        refine lv_irem hx hb dX1_addPlace_47 (by decide) ?_
        refine gVv (As := [.int ((p0 / 10) - (p0 / 10) / 10 * 10)]) (rest := []) ⟨hx, hb, hml, hown, hts⟩ (c_X1_addDigit l dC dI A v47 ht49 ((p0 / 10) - (p0 / 10) / 10 * 10)) (cwV 1 hts (gi_V hbc tw_218 tw_220 ts_3 tw_3 tw_221) rfl rfl rfl (by decide +kernel) ⟨Nat.le_of_ble_eq_true rfl, Nat.le_of_ble_eq_true rfl⟩) (va_recv hK hP (ci := 1) (q0 := 2) rfl rfl) aB_mono aB_D hP hK hD hS rfl hl.1 rfl (Nat.le_of_ble_eq_true rfl) dX1_addPlace_48 ⟨Nat.le_of_ble_eq_true rfl, Nat.le_of_ble_eq_true rfl⟩ (fun v59 H locs hq58 hP hD hS => ?_)
        obtain ⟨h60, ht61⟩ := hq58
        have h60 := h60.trans h48
        refine lv_aload_n hx hb dX1_addPlace_51 rfl (lv_at hl 0 rfl) ?_
        refine lv_iload_n hx hb dX1_addPlace_52 rfl (lv_at hl 1 rfl) ?_
        refine lv_bipush (v := 10) hx hb dX1_addPlace_53 (by decide) ?_
        refine lv_irem hx hb dX1_addPlace_55 (by decide) ?_
        refine gVv (As := [.int (p0 - p0 / 10 * 10)]) (rest := []) ⟨hx, hb, hml, hown, hts⟩ (c_X1_addDigit l dC dI A v59 ht61 (p0 - p0 / 10 * 10)) (cwV 1 hts (gi_V hbc tw_218 tw_220 ts_3 tw_3 tw_221) rfl rfl rfl (by decide +kernel) ⟨Nat.le_of_ble_eq_true rfl, Nat.le_of_ble_eq_true rfl⟩) (va_recv hK hP (ci := 1) (q0 := 2) rfl rfl) aB_mono aB_D hP hK hD hS rfl hl.1 rfl (Nat.le_of_ble_eq_true rfl) dX1_addPlace_56 ⟨Nat.le_of_ble_eq_true rfl, Nat.le_of_ble_eq_true rfl⟩ (fun v64 H locs hq63 hP hD hS => ?_)
        obtain ⟨h65, ht66⟩ := hq63
        have h65 := h65.trans h60
        exact W.vret hx hb hr (fun t9 ht9 hW => ⟨⟨v64, rfl, ⟨h65, by unfold apT ap3 ap2 ap1; rw [if_neg c1, if_pos c50, if_neg c51]; exact ht66⟩, by rw [ht9]; exact hP, va_K.moved hW.alike hK, hD⟩, hS.F ht9⟩) hS.2.2 dX1_addPlace_59
    · refine lv_aload_n hx hb dX1_addPlace_26 rfl (lv_at hl 0 rfl) ?_
      refine lv_iload_n hx hb dX1_addPlace_27 rfl (lv_at hl 1 rfl) ?_
      refine lv_bipush (v := 100) hx hb dX1_addPlace_28 (by decide) ?_
      refine lv_idiv hx hb dX1_addPlace_30 (by decide) ?_
      refine gVv (As := [.int (p0 / 100)]) (rest := []) ⟨hx, hb, hml, hown, hts⟩ (c_X1_addDigit l dC dI A v47 ht49 (p0 / 100)) (cwV 1 hts (gi_V hbc tw_218 tw_220 ts_3 tw_3 tw_221) rfl rfl rfl (by decide +kernel) ⟨Nat.le_of_ble_eq_true rfl, Nat.le_of_ble_eq_true rfl⟩) (va_recv hK hP (ci := 1) (q0 := 2) rfl rfl) aB_mono aB_D hP hK hD hS rfl hl.1 rfl (Nat.le_of_ble_eq_true rfl) dX1_addPlace_31 ⟨Nat.le_of_ble_eq_true rfl, Nat.le_of_ble_eq_true rfl⟩ (fun v69 H locs hq68 hP hD hS => ?_)
      obtain ⟨h70, ht71⟩ := hq68
      have h70 := h70.trans h48
      refine lv_iload_n hx hb dX1_addPlace_34 rfl (lv_at hl 1 rfl) ?_
      refine lv_bipush (v := 10) hx hb dX1_addPlace_35 (by decide) ?_
      refine lv_icmp_lt (tgt := 51) hx hb dX1_addPlace_37 (by decide) (fun c72 => ?_) (fun c72 => ?_)
      · refine lv_aload_n hx hb dX1_addPlace_51 rfl (lv_at hl 0 rfl) ?_
        refine lv_iload_n hx hb dX1_addPlace_52 rfl (lv_at hl 1 rfl) ?_
        refine lv_bipush (v := 10) hx hb dX1_addPlace_53 (by decide) ?_
        refine lv_irem hx hb dX1_addPlace_55 (by decide) ?_
        refine gVv (As := [.int (p0 - p0 / 10 * 10)]) (rest := []) ⟨hx, hb, hml, hown, hts⟩ (c_X1_addDigit l dC dI A v69 ht71 (p0 - p0 / 10 * 10)) (cwV 1 hts (gi_V hbc tw_218 tw_220 ts_3 tw_3 tw_221) rfl rfl rfl (by decide +kernel) ⟨Nat.le_of_ble_eq_true rfl, Nat.le_of_ble_eq_true rfl⟩) (va_recv hK hP (ci := 1) (q0 := 2) rfl rfl) aB_mono aB_D hP hK hD hS rfl hl.1 rfl (Nat.le_of_ble_eq_true rfl) dX1_addPlace_56 ⟨Nat.le_of_ble_eq_true rfl, Nat.le_of_ble_eq_true rfl⟩ (fun v75 H locs hq74 hP hD hS => ?_)
        obtain ⟨h76, ht77⟩ := hq74
        have h76 := h76.trans h70
        exact W.vret hx hb hr (fun t9 ht9 hW => ⟨⟨v75, rfl, ⟨h76, by unfold apT ap3 ap2 ap1; rw [if_neg c1, if_neg c50, if_pos c72]; exact ht77⟩, by rw [ht9]; exact hP, va_K.moved hW.alike hK, hD⟩, hS.F ht9⟩) hS.2.2 dX1_addPlace_59
      · refine lv_aload_n hx hb dX1_addPlace_40 rfl (lv_at hl 0 rfl) ?_
        refine lv_iload_n hx hb dX1_addPlace_41 rfl (lv_at hl 1 rfl) ?_
        refine lv_bipush (v := 10) hx hb dX1_addPlace_42 (by decide) ?_
        refine lv_idiv hx hb dX1_addPlace_44 (by decide) ?_
        refine lv_bipush (v := 10) hx hb dX1_addPlace_45 (by decide) ?_
        refine lv_irem hx hb dX1_addPlace_47 (by decide) ?_
        refine gVv (As := [.int ((p0 / 10) - (p0 / 10) / 10 * 10)]) (rest := []) ⟨hx, hb, hml, hown, hts⟩ (c_X1_addDigit l dC dI A v69 ht71 ((p0 / 10) - (p0 / 10) / 10 * 10)) (cwV 1 hts (gi_V hbc tw_218 tw_220 ts_3 tw_3 tw_221) rfl rfl rfl (by decide +kernel) ⟨Nat.le_of_ble_eq_true rfl, Nat.le_of_ble_eq_true rfl⟩) (va_recv hK hP (ci := 1) (q0 := 2) rfl rfl) aB_mono aB_D hP hK hD hS rfl hl.1 rfl (Nat.le_of_ble_eq_true rfl) dX1_addPlace_48 ⟨Nat.le_of_ble_eq_true rfl, Nat.le_of_ble_eq_true rfl⟩ (fun v80 H locs hq79 hP hD hS => ?_)
        obtain ⟨h81, ht82⟩ := hq79
        have h81 := h81.trans h70
        refine lv_aload_n hx hb dX1_addPlace_51 rfl (lv_at hl 0 rfl) ?_
        refine lv_iload_n hx hb dX1_addPlace_52 rfl (lv_at hl 1 rfl) ?_
        refine lv_bipush (v := 10) hx hb dX1_addPlace_53 (by decide) ?_
        refine lv_irem hx hb dX1_addPlace_55 (by decide) ?_
        refine gVv (As := [.int (p0 - p0 / 10 * 10)]) (rest := []) ⟨hx, hb, hml, hown, hts⟩ (c_X1_addDigit l dC dI A v80 ht82 (p0 - p0 / 10 * 10)) (cwV 1 hts (gi_V hbc tw_218 tw_220 ts_3 tw_3 tw_221) rfl rfl rfl (by decide +kernel) ⟨Nat.le_of_ble_eq_true rfl, Nat.le_of_ble_eq_true rfl⟩) (va_recv hK hP (ci := 1) (q0 := 2) rfl rfl) aB_mono aB_D hP hK hD hS rfl hl.1 rfl (Nat.le_of_ble_eq_true rfl) dX1_addPlace_56 ⟨Nat.le_of_ble_eq_true rfl, Nat.le_of_ble_eq_true rfl⟩ (fun v85 H locs hq84 hP hD hS => ?_)
        obtain ⟨h86, ht87⟩ := hq84
        have h86 := h86.trans h81
        exact W.vret hx hb hr (fun t9 ht9 hW => ⟨⟨v85, rfl, ⟨h86, by unfold apT ap3 ap2 ap1; rw [if_neg c1, if_neg c50, if_neg c72]; exact ht87⟩, by rw [ht9]; exact hP, va_K.moved hW.alike hK, hD⟩, hS.F ht9⟩) hS.2.2 dX1_addPlace_59
set_option maxHeartbeats 4000000 in
set_option maxRecDepth 100000 in
theorem c_X1_write (l : Launch) (dC : Nat → ClassId) (dI : Nat → Nat → Nat) (A : AdB) (u : StB) {j : Nat} (hj : j < 4) : gMv l yX1_write wX1_write ({ frames := 3, cells := 0, slots := 0, locals := 63 }) (dC, dI) bwCl (tyB A) (wB A) (aB A) [.ref (ag_ A), .ref (ar_ A j)] u (fun v => v.1 = u.1 ∧ txB v (wrT (u.1 j))) := by
  unfold gMv
  intro sz
  refine Met.ofW (cc := cX1_write) (maxL := 3) (ret := none) (by decide) rfl ?_
  intro p e s m args below meth c s₁ B hml hv
  obtain ⟨rfl, hsz, hP, hK, hD⟩ := hv
  subst hsz
  have hS : va_S (aB A s.heap.size) s.heap s.heap [] := va_S.rf
  have hx := B.exec
  have hb := B.bytes
  have hr := B.returns
  have hts := atoms_spec (ws := wX1_write) B.pre
  have hw : ∀ w ∈ tg_, w.before _ s = true := fun w h => hts w (List.mem_cons_of_mem _ h)
  have hown : s.vm.findClass RX1 = some m.cls := findClass_of_methodNamed B.named
  have hlocks := B.notSynchronized
  have hl := lv_entry ([.ref (ag_ A), .ref (ar_ A j)]) (n := 3) (Nat.le_of_ble_eq_true rfl)
  rw [lg_entry_eq]
  generalize (lg_sl ([.ref (ag_ A), .ref (ar_ A j)]) ++ List.replicate (3 - (lg_sl ([.ref (ag_ A), .ref (ar_ A j)])).length) Slot.unset).toArray = ls at hl ⊢
  have hl : lv_has ls 3 [(0, .ref (ag_ A)), (1, .ref (ar_ A j))] := hl
  refine lv_aload_n hx hb dX1_write_0 rfl (lv_at hl 0 rfl) ?_
  refine lv_iconst (v := 0) hx hb dX1_write_1 (by decide) ?_
  refine va_put (D := (dC, dI)) (ci := 1) (v := .int 0) (ty := .int) (C := RX1) (T := TX1) (N := 2) hx hb hw igX1 tyX1 tyX1_ok nmX1 hown hK hP hD hS 2 rfl rfl 1 (by decide) (hw _ tw_34) (fun _ h9 => h9) rfl (by decide +kernel) rfl rfl (Nat.le_of_ble_eq_true rfl) dX1_write_2 (fun H locs hP hD hS => ?_)
  have hP : va_P (dC, dI) bwCl (wB A (u.1, u.2.1, 0)) H := hP
  have hD : va_D (aB A s.heap.size) (wB A (u.1, u.2.1, 0)) := hD
  refine lv_aload_n hx hb dX1_write_5 rfl (lv_at hl 0 rfl) ?_
  refine lv_bipush (v := 123) hx hb dX1_write_6 (by decide) ?_
  refine gVv (As := [.int 123]) (rest := []) ⟨hx, hb, hml, hown, hts⟩ (c_X1_add l dC dI A (u.1, u.2.1, 0) (tx_nil _ _) 123) (cwV 1 hts (gi_V hbc tw_209 tw_211 ts_1 tw_3 tw_212) rfl rfl rfl (by decide +kernel) ⟨Nat.le_of_ble_eq_true rfl, Nat.le_of_ble_eq_true rfl⟩) (va_recv hK hP (ci := 1) (q0 := 2) rfl rfl) aB_mono aB_D hP hK hD hS rfl hl.1 rfl (Nat.le_of_ble_eq_true rfl) dX1_write_8 ⟨Nat.le_of_ble_eq_true rfl, Nat.le_of_ble_eq_true rfl⟩ (fun v3 H locs hq2 hP hD hS => ?_)
  obtain ⟨h4, ht5⟩ := hq2
  refine lv_iconst (v := 0) hx hb dX1_write_11 (by decide) ?_
  refine lv_istore_n (lv' := [(2, .int 0), (0, .ref (ag_ A)), (1, .ref (ar_ A j))]) hx hb dX1_write_12 rfl hl (by decide) rfl (fun ls hl => ?_)
  refine w_loop (N := 128) (i0 := 0) (fun i H locs ls => ∃ v : StB, va_P (dC, dI) bwCl (wB A v) H ∧ va_D (aB A s.heap.size) (wB A v) ∧ va_S (aB A s.heap.size) s.heap H locs ∧ lv_has ls 3 [(0, .ref (ag_ A)), (1, .ref (ar_ A j)), (2, .int (nI i))] ∧ v.1 = u.1 ∧ txB v (wrL (u.1 j) i)) (by decide) ⟨v3, hP, hD, hS, lv_sub hl [1, 2, 0] rfl, h4, ht5⟩ ?_
  intro i H locs ls hz_i hi_i hI ih_i
  obtain ⟨v, hP, hD, hS, hl, hF_i⟩ := hI
  obtain ⟨hF1, hF2⟩ := hF_i
  refine lv_iload_n hx hb dX1_write_13 rfl (lv_at hl 2 rfl) ?_
  refine lv_sipush (v := 128) hx hb dX1_write_14 (by decide) ?_
  refine lv_icmp_ge (tgt := 40) hx hb dX1_write_17 (by decide) (fun c6 => ?_) (fun c6 => ?_)
  · obtain rfl : i = 128 := lp_out (n := 128) rfl hi_i (by decide) c6
    refine lv_aload_n hx hb dX1_write_40 rfl (lv_at hl 0 rfl) ?_
    refine lv_bipush (v := 125) hx hb dX1_write_41 (by decide) ?_
    refine gVv (As := [.int 125]) (rest := []) ⟨hx, hb, hml, hown, hts⟩ (c_X1_add l dC dI A v hF2 125) (cwV 1 hts (gi_V hbc tw_209 tw_211 ts_1 tw_3 tw_212) rfl rfl rfl (by decide +kernel) ⟨Nat.le_of_ble_eq_true rfl, Nat.le_of_ble_eq_true rfl⟩) (va_recv hK hP (ci := 1) (q0 := 2) rfl rfl) aB_mono aB_D hP hK hD hS rfl hl.1 rfl (Nat.le_of_ble_eq_true rfl) dX1_write_43 ⟨Nat.le_of_ble_eq_true rfl, Nat.le_of_ble_eq_true rfl⟩ (fun v9 H locs hq8 hP hD hS => ?_)
    obtain ⟨h10, ht11⟩ := hq8
    have h10 := h10.trans hF1
    exact W.vret hx hb hr (fun t9 ht9 hW => ⟨⟨v9, rfl, ⟨h10, ht11⟩, by rw [ht9]; exact hP, va_K.moved hW.alike hK, hD⟩, hS.F ht9⟩) hS.2.2 dX1_write_46
  · have hlt_i : i < 128 := lp_in (n := 128) rfl hi_i c6
    refine lv_aload_n hx hb dX1_write_20 rfl (lv_at hl 1 rfl) ?_
    refine lv_iload_n hx hb dX1_write_21 rfl (lv_at hl 2 rfl) ?_
    refine gVi (As := [.int (nI i)]) (rest := []) ⟨hx, hb, hml, hown, hts⟩ (c_X0_bit l dC dI A v hj (nI i)) (cwV 1 hts (gi_V hbc tw_213 tw_62 tw_63 tw_2 tw_64) rfl rfl rfl (by decide +kernel) ⟨Nat.le_of_ble_eq_true rfl, Nat.le_of_ble_eq_true rfl⟩) (va_recv hK hP (ci := 0) (q0 := (4 + j)) rfl (wB_row A v hj)) aB_mono aB_D hP hK hD hS rfl hl.1 rfl (Nat.le_of_ble_eq_true rfl) dX1_write_22 ⟨Nat.le_of_ble_eq_true rfl, Nat.le_of_ble_eq_true rfl⟩ (fun r12 v14 H locs hq13 hP hD hS => ?_)
    obtain ⟨rfl, rfl⟩ := hq13
    refine lv_iconst (v := 1) hx hb dX1_write_25 (by decide) ?_
    refine lv_icmp_ne (tgt := 34) hx hb dX1_write_26 (by decide) (fun c15 => ?_) (fun c15 => ?_)
    · rw [hF1] at c15
      refine lv_iinc (v := nI (i + 1)) (lv' := [(2, .int (nI (i + 1))), (0, .ref (ag_ A)), (1, .ref (ar_ A j))]) hx hb dX1_write_34 hl (k := 2) rfl (nI_1 _) (by decide) rfl (fun ls hl => ?_)
      refine lv_goto (tgt := 13) hx hb dX1_write_37 (by decide) ?_
      exact ih_i _ _ _ (by omega) ⟨v, hP, hD, hS, lv_sub hl [1, 2, 0] rfl, hF1, by unfold wrL; rw [if_neg c15]; exact hF2⟩
    · rw [hF1] at c15
      refine lv_aload_n hx hb dX1_write_29 rfl (lv_at hl 0 rfl) ?_
      refine lv_iload_n hx hb dX1_write_30 rfl (lv_at hl 2 rfl) ?_
      refine gVv (As := [.int (nI i)]) (rest := []) ⟨hx, hb, hml, hown, hts⟩ (c_X1_addPlace l dC dI A v hF2 (nI i)) (cwV 1 hts (gi_V hbc tw_214 tw_216 ts_2 tw_3 tw_217) rfl rfl rfl (by decide +kernel) ⟨Nat.le_of_ble_eq_true rfl, Nat.le_of_ble_eq_true rfl⟩) (va_recv hK hP (ci := 1) (q0 := 2) rfl rfl) aB_mono aB_D hP hK hD hS rfl hl.1 rfl (Nat.le_of_ble_eq_true rfl) dX1_write_31 ⟨Nat.le_of_ble_eq_true rfl, Nat.le_of_ble_eq_true rfl⟩ (fun v18 H locs hq17 hP hD hS => ?_)
      obtain ⟨h19, ht20⟩ := hq17
      have h19 := h19.trans hF1
      refine lv_iinc (v := nI (i + 1)) (lv' := [(2, .int (nI (i + 1))), (0, .ref (ag_ A)), (1, .ref (ar_ A j))]) hx hb dX1_write_34 hl (k := 2) rfl (nI_1 _) (by decide) rfl (fun ls hl => ?_)
      refine lv_goto (tgt := 13) hx hb dX1_write_37 (by decide) ?_
      exact ih_i _ _ _ (by omega) ⟨v18, hP, hD, hS, lv_sub hl [1, 2, 0] rfl, h19, by unfold wrL; rw [if_pos c15]; exact ht20⟩
