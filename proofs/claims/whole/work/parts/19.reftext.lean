set_option maxHeartbeats 4000000 in
set_option maxRecDepth 100000 in
theorem c_X3_text (l : Launch) (dC : Nat → ClassId) (dI : Nat → Nat → Nat) (A : AdR) (u : StR)  (p0 : Int32) : gMi l yX3_text wX3_text ({ frames := 1, cells := 0, slots := 0, locals := 22 }) (dC, dI) bwCl (tyR A) (wR A) (aR A) [.ref (mh_ A), .int p0] u (fun r v => ((¬ (fX3_isRow p0) = 0) ∧ (∃ q, peR (u.1 p0.toNatClampNeg) q ∧ ((q ≤ 128 ∧ (v.1 = u.1 ∧ v.2.1 = u.2.1) ∧ txR v (wtT (u.1 p0.toNatClampNeg)) ∧ r = v.2.2.2) ∨ (¬ q ≤ 128 ∧ r = -2 ∧ u = v)))) ∨ (¬ (¬ (fX3_isRow p0) = 0) ∧ r = -2 ∧ u = v)) := by
  unfold gMi
  intro sz
  refine Met.ofW (cc := cX3_text) (maxL := 4) (ret := (some .int)) (by decide) rfl ?_
  intro p e s m args below meth c s₁ B hml hv
  obtain ⟨rfl, hsz, hP, hK, hD⟩ := hv
  subst hsz
  have hS : va_S (aR A s.heap.size) s.heap s.heap [] := va_S.rf
  have hx := B.exec
  have hb := B.bytes
  have hr := B.returns
  have hts := atoms_spec (ws := wX3_text) B.pre
  have hw : ∀ w ∈ tg_, w.before _ s = true := fun w h => hts w (List.mem_cons_of_mem _ h)
  have hown : s.vm.findClass RX3 = some m.cls := findClass_of_methodNamed B.named
  have hlocks := B.notSynchronized
  have hl := lv_entry ([.ref (mh_ A), .int p0]) (n := 4) (Nat.le_of_ble_eq_true rfl)
  rw [lg_entry_eq]
  generalize (lg_sl ([.ref (mh_ A), .int p0]) ++ List.replicate (4 - (lg_sl ([.ref (mh_ A), .int p0])).length) Slot.unset).toArray = ls at hl ⊢
  have hl : lv_has ls 4 [(0, .ref (mh_ A)), (1, .int p0)] := hl
  refine lv_iload_n hx hb dX3_text_0 rfl (lv_at hl 1 rfl) ?_
  refine vp_callSi (W.runS (As := [.int p0]) (rest := []) ⟨hx, hb, hml, hown, hts⟩ (c_X3_isRow l p0) (va_cwS 1 hts (gi_S hbc tw_261 tw_262 tw_4 tw_263) rfl rfl rfl (by decide +kernel) ⟨Nat.le_of_ble_eq_true rfl, Nat.le_of_ble_eq_true rfl⟩) preEq rfl rfl hl.1 rfl (lv_room (Nat.le_of_ble_eq_true rfl)) dX3_text_1 ⟨Nat.le_of_ble_eq_true rfl, Nat.le_of_ble_eq_true rfl⟩) (fun r hq => ?_)
  subst hq
  refine lv_if_eq (tgt := 18) hx hb dX3_text_4 (by decide) (fun c1 => ?_) (fun c1 => ?_)
  · refine lv_bipush (v := -2) hx hb dX3_text_18 (by decide) ?_
    exact W.iret hx hb hr (fun t9 ht9 hW => ⟨⟨_, u, rfl, Or.inr ⟨fun h => h c1, rfl, rfl⟩, by rw [ht9]; exact hP, va_K.moved hW.alike hK, hD⟩, hS.F ht9⟩) hS.2.2 dX3_text_20
  · have hj_p0 := row_lt (p := p0) c1
    refine lv_aload_n hx hb dX3_text_7 rfl (lv_at hl 0 rfl) ?_
    refine lv_iload_n hx hb dX3_text_8 rfl (lv_at hl 1 rfl) ?_
    refine gVi (As := [.int p0]) (rest := []) ⟨hx, hb, hml, hown, hts⟩ (c_X3_end l dC dI A u p0 hj_p0 (row_in (p := p0) c1)) (cwV 1 hts (gi_V hbc tw_305 tw_307 ts_5 tw_4 tw_308) rfl rfl rfl (by decide +kernel) ⟨Nat.le_of_ble_eq_true rfl, Nat.le_of_ble_eq_true rfl⟩) (va_recv hK hP (ci := 3) (q0 := 0) rfl rfl) aR_mono aR_D hP hK hD hS rfl hl.1 rfl (Nat.le_of_ble_eq_true rfl) dX3_text_9 ⟨Nat.le_of_ble_eq_true rfl, Nat.le_of_ble_eq_true rfl⟩ (fun r2 v4 H locs hq3 hP hD hS => ?_)
    obtain ⟨hq3, rfl⟩ := hq3
    refine lv_sipush (v := 128) hx hb dX3_text_12 (by decide) ?_
    refine lv_icmp_le (tgt := 21) hx hb dX3_text_15 (by decide) (fun c5 => ?_) (fun c5 => ?_)
    · have hend := pe_128 hq3 c5
      refine lv_aload_n hx hb dX3_text_21 rfl (lv_at hl 0 rfl) ?_
      refine lv_iconst (v := 0) hx hb dX3_text_22 (by decide) ?_
      refine va_put (D := (dC, dI)) (ci := 3) (v := .int 0) (ty := .int) (C := RX3) (T := TX3) (N := 4) hx hb hw igX3 tyX3 tyX3_ok nmX3 hown hK hP hD hS 0 rfl rfl 3 (by decide) (hw _ tw_245) (fun _ h9 => h9) rfl (by decide +kernel) rfl rfl (Nat.le_of_ble_eq_true rfl) dX3_text_23 (fun H locs hP hD hS => ?_)
      have hP : va_P (dC, dI) bwCl (wR A (u.1, u.2.1, u.2.2.1, 0)) H := hP
      have hD : va_D (aR A s.heap.size) (wR A (u.1, u.2.1, u.2.2.1, 0)) := hD
      refine lv_aload_n hx hb dX3_text_26 rfl (lv_at hl 0 rfl) ?_
      refine lv_bipush (v := 123) hx hb dX3_text_27 (by decide) ?_
      refine gVv (As := [.int 123]) (rest := []) ⟨hx, hb, hml, hown, hts⟩ (c_X3_write l dC dI A (u.1, u.2.1, u.2.2.1, 0) (tr_nil _ _ _) (by decide) 123) (cwV 1 hts (gi_V hbc tw_335 tw_337 ts_6 tw_4 tw_338) rfl rfl rfl (by decide +kernel) ⟨Nat.le_of_ble_eq_true rfl, Nat.le_of_ble_eq_true rfl⟩) (va_recv hK hP (ci := 3) (q0 := 0) rfl rfl) aR_mono aR_D hP hK hD hS rfl hl.1 rfl (Nat.le_of_ble_eq_true rfl) dX3_text_29 ⟨Nat.le_of_ble_eq_true rfl, Nat.le_of_ble_eq_true rfl⟩ (fun v8 H locs hq7 hP hD hS => ?_)
      obtain ⟨h9, ht10⟩ := hq7
      have h9 := tr2 h9 ⟨rfl, rfl⟩
      refine lv_iconst (v := 0) hx hb dX3_text_32 (by decide) ?_
      refine lv_istore_n (lv' := [(2, .int 0), (0, .ref (mh_ A)), (1, .int p0)]) hx hb dX3_text_33 rfl hl (by decide) rfl (fun ls hl => ?_)
      refine w_loop (N := 4032) (i0 := 0) (fun i H locs ls => ∃ v : StR, va_P (dC, dI) bwCl (wR A v) H ∧ va_D (aR A s.heap.size) (wR A v) ∧ va_S (aR A s.heap.size) s.heap H locs ∧ lv_has ls 4 [(0, .ref (mh_ A)), (1, .int p0), (2, .int (nI i))] ∧ (v.1 = u.1 ∧ v.2.1 = u.2.1) ∧ txR v (wtL (u.1 p0.toNatClampNeg) i)) (by decide) ⟨v8, hP, hD, hS, lv_sub hl [1, 2, 0] rfl, h9, tx_0 ht10⟩ ?_
      intro i H locs ls hz_i hi_i hI ih_i
      obtain ⟨v, hP, hD, hS, hl, hF_i⟩ := hI
      obtain ⟨hF1, hF2⟩ := hF_i
      refine lv_iload_n hx hb dX3_text_34 rfl (lv_at hl 2 rfl) ?_
      refine lv_sipush (v := 4032) hx hb dX3_text_35 (by decide) ?_
      refine lv_icmp_ge (tgt := 130) hx hb dX3_text_38 (by decide) (fun c11 => ?_) (fun c11 => ?_)
      · obtain rfl : i = 4032 := lp_out (n := 4032) rfl hi_i (by decide) c11
        refine lv_aload_n hx hb dX3_text_130 rfl (lv_at hl 0 rfl) ?_
        refine lv_bipush (v := 125) hx hb dX3_text_131 (by decide) ?_
        refine gVv (As := [.int 125]) (rest := []) ⟨hx, hb, hml, hown, hts⟩ (c_X3_write l dC dI A v hF2 (wt_rm 0 hend (Nat.le_refl _) rfl (by decide)) 125) (cwV 1 hts (gi_V hbc tw_335 tw_337 ts_6 tw_4 tw_338) rfl rfl rfl (by decide +kernel) ⟨Nat.le_of_ble_eq_true rfl, Nat.le_of_ble_eq_true rfl⟩) (va_recv hK hP (ci := 3) (q0 := 0) rfl rfl) aR_mono aR_D hP hK hD hS rfl hl.1 rfl (Nat.le_of_ble_eq_true rfl) dX3_text_133 ⟨Nat.le_of_ble_eq_true rfl, Nat.le_of_ble_eq_true rfl⟩ (fun v14 H locs hq13 hP hD hS => ?_)
        obtain ⟨h15, ht16⟩ := hq13
        have h15 := tr2 h15 hF1
        refine lv_aload_n hx hb dX3_text_136 rfl (lv_at hl 0 rfl) ?_
        refine va_get (D := (dC, dI)) (ci := 3) (v := .int v14.2.2.2) (C := RX3) (T := TX3) (N := 4) hx hb hw igX3 hown hK hP 0 rfl rfl 3 (by decide) (hw _ tw_245) (fun _ h9 => h9) rfl dX3_text_137 ?_
        exact W.iret hx hb hr (fun t9 ht9 hW => ⟨⟨_, v14, rfl, Or.inl ⟨c1, ⟨_, hq3, Or.inl ⟨c5, h15, by rw [wtT_e hend]; exact ht16, rfl⟩⟩⟩, by rw [ht9]; exact hP, va_K.moved hW.alike hK, hD⟩, hS.F ht9⟩) hS.2.2 dX3_text_140
      · have hlt_i : i < 4032 := lp_in (n := 4032) rfl hi_i c11
        refine lv_aload_n hx hb dX3_text_41 rfl (lv_at hl 0 rfl) ?_
        refine va_get (D := (dC, dI)) (ci := 3) (v := .ref (mq_ A)) (C := RX3) (T := TX3) (N := 4) hx hb hw igX3 hown hK hP 0 rfl rfl 0 (by decide) (hw _ tw_242) (fun _ h9 => h9) rfl dX3_text_42 ?_
        refine lv_iload_n hx hb dX3_text_45 rfl (lv_at hl 1 rfl) ?_
        refine va_aldz hx hb hK hP 1 0 rfl rfl (row_in (p := p0) c1) dX3_text_46 ?_
        rw [mqF_at A hj_p0]
        refine lv_iload_n hx hb dX3_text_47 rfl (lv_at hl 2 rfl) ?_
        refine va_zald hx hb hK hP (4 + p0.toNatClampNeg) (3 + p0.toNatClampNeg) (wR_row A v hj_p0) (tyR_row A hj_p0) (vp_in_nI (by omega) (by omega)) dX3_text_48 ?_
        rw [nI_clamp (n := i) (by omega)]
        refine lv_topi (fun z17 ez17 => ?_)
        obtain rfl : z17 = bz (u.1 p0.toNatClampNeg) i := ez17.trans (bz_v hF1.1)
        refine lv_if_ne (tgt := 55) hx hb dX3_text_49 (by decide) (fun c18 => ?_) (fun c18 => ?_)
        · have c18 := b1t (b := _) c18
          have hi128 := tx_128 hend hlt_i c18
          refine lv_aload_n hx hb dX3_text_55 rfl (lv_at hl 0 rfl) ?_
          refine va_get (D := (dC, dI)) (ci := 3) (v := .int v.2.2.2) (C := RX3) (T := TX3) (N := 4) hx hb hw igX3 hown hK hP 0 rfl rfl 3 (by decide) (hw _ tw_245) (fun _ h9 => h9) rfl dX3_text_56 ?_
          refine lv_iconst (v := 1) hx hb dX3_text_59 (by decide) ?_
          refine lv_icmp_le (tgt := 75) hx hb dX3_text_60 (by decide) (fun c19 => ?_) (fun c19 => ?_)
          · rw [hF2.1] at c19
            refine lv_iload_n hx hb dX3_text_75 rfl (lv_at hl 2 rfl) ?_
            refine lv_bipush (v := 99) hx hb dX3_text_76 (by decide) ?_
            refine lv_icmp_le (tgt := 86) hx hb dX3_text_78 (by decide) (fun c20 => ?_) (fun c20 => ?_)
            · refine lv_iload_n hx hb dX3_text_86 rfl (lv_at hl 2 rfl) ?_
              refine lv_bipush (v := 9) hx hb dX3_text_87 (by decide) ?_
              refine lv_icmp_le (tgt := 97) hx hb dX3_text_89 (by decide) (fun c21 => ?_) (fun c21 => ?_)
              · refine lv_iconst (v := 1) hx hb dX3_text_97 (by decide) ?_
                refine lv_istore_n (lv' := [(3, .int 1), (0, .ref (mh_ A)), (1, .int p0), (2, .int (nI i))]) hx hb dX3_text_98 rfl hl (by decide) rfl (fun ls hl => ?_)
                refine lv_iload_n hx hb dX3_text_99 rfl (lv_at hl 0 rfl) ?_
                refine lv_if_le (tgt := 124) hx hb dX3_text_100 (by decide) (fun c22 => ?_) (fun c22 => ?_)
                · exact absurd c22 (by decide)
                · refine lv_aload_n hx hb dX3_text_103 rfl (lv_at hl 1 rfl) ?_
                  refine lv_bipush (v := 48) hx hb dX3_text_104 (by decide) ?_
                  refine lv_iload_n hx hb dX3_text_106 rfl (lv_at hl 3 rfl) ?_
                  refine lv_iload_n hx hb dX3_text_107 rfl (lv_at hl 0 rfl) ?_
                  refine lv_idiv hx hb dX3_text_108 (by decide) ?_
                  refine lv_bipush (v := 10) hx hb dX3_text_109 (by decide) ?_
                  refine lv_irem hx hb dX3_text_111 (by decide) ?_
                  refine lv_iadd hx hb dX3_text_112 ?_
                  refine lv_topi (fun z23 ez23 => ?_)
                  obtain rfl : z23 = nI (48 + i / 1 % 10) := ez23.trans (dg_1 hi128)
                  refine gVv (As := [.int (nI (48 + i / 1 % 10))]) (rest := []) ⟨hx, hb, hml, hown, hts⟩ (c_X3_write l dC dI A v hF2 (wt_rm 0 hend hi_i rfl (by decide)) (nI (48 + i / 1 % 10))) (cwV 1 hts (gi_V hbc tw_335 tw_337 ts_6 tw_4 tw_338) rfl rfl rfl (by decide +kernel) ⟨Nat.le_of_ble_eq_true rfl, Nat.le_of_ble_eq_true rfl⟩) (va_recv hK hP (ci := 3) (q0 := 0) rfl rfl) aR_mono aR_D hP hK hD hS rfl hl.1 rfl (Nat.le_of_ble_eq_true rfl) dX3_text_113 ⟨Nat.le_of_ble_eq_true rfl, Nat.le_of_ble_eq_true rfl⟩ (fun v26 H locs hq25 hP hD hS => ?_)
                  obtain ⟨h27, ht28⟩ := hq25
                  have h27 := tr2 h27 hF1
                  refine lv_iload_n hx hb dX3_text_116 rfl (lv_at hl 0 rfl) ?_
                  refine lv_bipush (v := 10) hx hb dX3_text_117 (by decide) ?_
                  refine lv_idiv hx hb dX3_text_119 (by decide) ?_
                  refine lv_topi (fun z29 ez29 => ?_)
                  obtain rfl : z29 = 0 := ez29.trans (by decide)
                  refine lv_istore_n (lv' := [(3, .int 0), (0, .ref (mh_ A)), (1, .int p0), (2, .int (nI i))]) hx hb dX3_text_120 rfl hl (by decide) rfl (fun ls hl => ?_)
                  refine lv_goto (tgt := 99) hx hb dX3_text_121 (by decide) ?_
                  refine lv_iload_n hx hb dX3_text_99 rfl (lv_at hl 0 rfl) ?_
                  refine lv_if_le (tgt := 124) hx hb dX3_text_100 (by decide) (fun c30 => ?_) (fun c30 => ?_)
                  · refine lv_iinc (v := nI (i + 1)) (lv' := [(2, .int (nI (i + 1))), (3, .int 0), (0, .ref (mh_ A)), (1, .int p0)]) hx hb dX3_text_124 hl (k := 3) rfl (nI_1 _) (by decide) rfl (fun ls hl => ?_)
                    refine lv_goto (tgt := 34) hx hb dX3_text_127 (by decide) ?_
                    exact ih_i _ _ _ (by omega) ⟨v26, hP, hD, hS, lv_sub hl [2, 3, 0] rfl, h27, by rw [wt_s c18, p2_le hend hi_i c19, dl_1 hi128 c20 c21]; exact ht28⟩
                  · exact absurd (by decide) c30
              · refine lv_bipush (v := 10) hx hb dX3_text_92 (by decide) ?_
                refine lv_goto (tgt := 98) hx hb dX3_text_94 (by decide) ?_
                refine lv_istore_n (lv' := [(3, .int 10), (0, .ref (mh_ A)), (1, .int p0), (2, .int (nI i))]) hx hb dX3_text_98 rfl hl (by decide) rfl (fun ls hl => ?_)
                refine lv_iload_n hx hb dX3_text_99 rfl (lv_at hl 0 rfl) ?_
                refine lv_if_le (tgt := 124) hx hb dX3_text_100 (by decide) (fun c31 => ?_) (fun c31 => ?_)
                · exact absurd c31 (by decide)
                · refine lv_aload_n hx hb dX3_text_103 rfl (lv_at hl 1 rfl) ?_
                  refine lv_bipush (v := 48) hx hb dX3_text_104 (by decide) ?_
                  refine lv_iload_n hx hb dX3_text_106 rfl (lv_at hl 3 rfl) ?_
                  refine lv_iload_n hx hb dX3_text_107 rfl (lv_at hl 0 rfl) ?_
                  refine lv_idiv hx hb dX3_text_108 (by decide) ?_
                  refine lv_bipush (v := 10) hx hb dX3_text_109 (by decide) ?_
                  refine lv_irem hx hb dX3_text_111 (by decide) ?_
                  refine lv_iadd hx hb dX3_text_112 ?_
                  refine lv_topi (fun z32 ez32 => ?_)
                  obtain rfl : z32 = nI (48 + i / 10 % 10) := ez32.trans (dg_10 hi128)
                  refine gVv (As := [.int (nI (48 + i / 10 % 10))]) (rest := []) ⟨hx, hb, hml, hown, hts⟩ (c_X3_write l dC dI A v hF2 (wt_rm 0 hend hi_i rfl (by decide)) (nI (48 + i / 10 % 10))) (cwV 1 hts (gi_V hbc tw_335 tw_337 ts_6 tw_4 tw_338) rfl rfl rfl (by decide +kernel) ⟨Nat.le_of_ble_eq_true rfl, Nat.le_of_ble_eq_true rfl⟩) (va_recv hK hP (ci := 3) (q0 := 0) rfl rfl) aR_mono aR_D hP hK hD hS rfl hl.1 rfl (Nat.le_of_ble_eq_true rfl) dX3_text_113 ⟨Nat.le_of_ble_eq_true rfl, Nat.le_of_ble_eq_true rfl⟩ (fun v35 H locs hq34 hP hD hS => ?_)
                  obtain ⟨h36, ht37⟩ := hq34
                  have h36 := tr2 h36 hF1
                  refine lv_iload_n hx hb dX3_text_116 rfl (lv_at hl 0 rfl) ?_
                  refine lv_bipush (v := 10) hx hb dX3_text_117 (by decide) ?_
                  refine lv_idiv hx hb dX3_text_119 (by decide) ?_
                  refine lv_topi (fun z38 ez38 => ?_)
                  obtain rfl : z38 = 1 := ez38.trans (by decide)
                  refine lv_istore_n (lv' := [(3, .int 1), (0, .ref (mh_ A)), (1, .int p0), (2, .int (nI i))]) hx hb dX3_text_120 rfl hl (by decide) rfl (fun ls hl => ?_)
                  refine lv_goto (tgt := 99) hx hb dX3_text_121 (by decide) ?_
                  refine lv_iload_n hx hb dX3_text_99 rfl (lv_at hl 0 rfl) ?_
                  refine lv_if_le (tgt := 124) hx hb dX3_text_100 (by decide) (fun c39 => ?_) (fun c39 => ?_)
                  · exact absurd c39 (by decide)
                  · refine lv_aload_n hx hb dX3_text_103 rfl (lv_at hl 1 rfl) ?_
                    refine lv_bipush (v := 48) hx hb dX3_text_104 (by decide) ?_
                    refine lv_iload_n hx hb dX3_text_106 rfl (lv_at hl 3 rfl) ?_
                    refine lv_iload_n hx hb dX3_text_107 rfl (lv_at hl 0 rfl) ?_
                    refine lv_idiv hx hb dX3_text_108 (by decide) ?_
                    refine lv_bipush (v := 10) hx hb dX3_text_109 (by decide) ?_
                    refine lv_irem hx hb dX3_text_111 (by decide) ?_
                    refine lv_iadd hx hb dX3_text_112 ?_
                    refine lv_topi (fun z40 ez40 => ?_)
                    obtain rfl : z40 = nI (48 + i / 1 % 10) := ez40.trans (dg_1 hi128)
                    refine gVv (As := [.int (nI (48 + i / 1 % 10))]) (rest := []) ⟨hx, hb, hml, hown, hts⟩ (c_X3_write l dC dI A v35 ht37 (wt_rm 1 hend hi_i (by simp) (by decide)) (nI (48 + i / 1 % 10))) (cwV 1 hts (gi_V hbc tw_335 tw_337 ts_6 tw_4 tw_338) rfl rfl rfl (by decide +kernel) ⟨Nat.le_of_ble_eq_true rfl, Nat.le_of_ble_eq_true rfl⟩) (va_recv hK hP (ci := 3) (q0 := 0) rfl rfl) aR_mono aR_D hP hK hD hS rfl hl.1 rfl (Nat.le_of_ble_eq_true rfl) dX3_text_113 ⟨Nat.le_of_ble_eq_true rfl, Nat.le_of_ble_eq_true rfl⟩ (fun v43 H locs hq42 hP hD hS => ?_)
                    obtain ⟨h44, ht45⟩ := hq42
                    have h44 := tr2 h44 h36
                    refine lv_iload_n hx hb dX3_text_116 rfl (lv_at hl 0 rfl) ?_
                    refine lv_bipush (v := 10) hx hb dX3_text_117 (by decide) ?_
                    refine lv_idiv hx hb dX3_text_119 (by decide) ?_
                    refine lv_topi (fun z46 ez46 => ?_)
                    obtain rfl : z46 = 0 := ez46.trans (by decide)
                    refine lv_istore_n (lv' := [(3, .int 0), (0, .ref (mh_ A)), (1, .int p0), (2, .int (nI i))]) hx hb dX3_text_120 rfl hl (by decide) rfl (fun ls hl => ?_)
                    refine lv_goto (tgt := 99) hx hb dX3_text_121 (by decide) ?_
                    refine lv_iload_n hx hb dX3_text_99 rfl (lv_at hl 0 rfl) ?_
                    refine lv_if_le (tgt := 124) hx hb dX3_text_100 (by decide) (fun c47 => ?_) (fun c47 => ?_)
                    · refine lv_iinc (v := nI (i + 1)) (lv' := [(2, .int (nI (i + 1))), (3, .int 0), (0, .ref (mh_ A)), (1, .int p0)]) hx hb dX3_text_124 hl (k := 3) rfl (nI_1 _) (by decide) rfl (fun ls hl => ?_)
                      refine lv_goto (tgt := 34) hx hb dX3_text_127 (by decide) ?_
                      exact ih_i _ _ _ (by omega) ⟨v43, hP, hD, hS, lv_sub hl [2, 3, 0] rfl, h44, by rw [wt_s c18, p2_le hend hi_i c19, dl_2 hi128 c20 c21]; exact ht45⟩
                    · exact absurd (by decide) c47
            · refine lv_bipush (v := 100) hx hb dX3_text_81 (by decide) ?_
              refine lv_goto (tgt := 98) hx hb dX3_text_83 (by decide) ?_
              refine lv_istore_n (lv' := [(3, .int 100), (0, .ref (mh_ A)), (1, .int p0), (2, .int (nI i))]) hx hb dX3_text_98 rfl hl (by decide) rfl (fun ls hl => ?_)
              refine lv_iload_n hx hb dX3_text_99 rfl (lv_at hl 0 rfl) ?_
              refine lv_if_le (tgt := 124) hx hb dX3_text_100 (by decide) (fun c48 => ?_) (fun c48 => ?_)
              · exact absurd c48 (by decide)
              · refine lv_aload_n hx hb dX3_text_103 rfl (lv_at hl 1 rfl) ?_
                refine lv_bipush (v := 48) hx hb dX3_text_104 (by decide) ?_
                refine lv_iload_n hx hb dX3_text_106 rfl (lv_at hl 3 rfl) ?_
                refine lv_iload_n hx hb dX3_text_107 rfl (lv_at hl 0 rfl) ?_
                refine lv_idiv hx hb dX3_text_108 (by decide) ?_
                refine lv_bipush (v := 10) hx hb dX3_text_109 (by decide) ?_
                refine lv_irem hx hb dX3_text_111 (by decide) ?_
                refine lv_iadd hx hb dX3_text_112 ?_
                refine lv_topi (fun z49 ez49 => ?_)
                obtain rfl : z49 = nI (48 + i / 100 % 10) := ez49.trans (dg_100 hi128)
                refine gVv (As := [.int (nI (48 + i / 100 % 10))]) (rest := []) ⟨hx, hb, hml, hown, hts⟩ (c_X3_write l dC dI A v hF2 (wt_rm 0 hend hi_i rfl (by decide)) (nI (48 + i / 100 % 10))) (cwV 1 hts (gi_V hbc tw_335 tw_337 ts_6 tw_4 tw_338) rfl rfl rfl (by decide +kernel) ⟨Nat.le_of_ble_eq_true rfl, Nat.le_of_ble_eq_true rfl⟩) (va_recv hK hP (ci := 3) (q0 := 0) rfl rfl) aR_mono aR_D hP hK hD hS rfl hl.1 rfl (Nat.le_of_ble_eq_true rfl) dX3_text_113 ⟨Nat.le_of_ble_eq_true rfl, Nat.le_of_ble_eq_true rfl⟩ (fun v52 H locs hq51 hP hD hS => ?_)
                obtain ⟨h53, ht54⟩ := hq51
                have h53 := tr2 h53 hF1
                refine lv_iload_n hx hb dX3_text_116 rfl (lv_at hl 0 rfl) ?_
                refine lv_bipush (v := 10) hx hb dX3_text_117 (by decide) ?_
                refine lv_idiv hx hb dX3_text_119 (by decide) ?_
                refine lv_topi (fun z55 ez55 => ?_)
                obtain rfl : z55 = 10 := ez55.trans (by decide)
                refine lv_istore_n (lv' := [(3, .int 10), (0, .ref (mh_ A)), (1, .int p0), (2, .int (nI i))]) hx hb dX3_text_120 rfl hl (by decide) rfl (fun ls hl => ?_)
                refine lv_goto (tgt := 99) hx hb dX3_text_121 (by decide) ?_
                refine lv_iload_n hx hb dX3_text_99 rfl (lv_at hl 0 rfl) ?_
                refine lv_if_le (tgt := 124) hx hb dX3_text_100 (by decide) (fun c56 => ?_) (fun c56 => ?_)
                · exact absurd c56 (by decide)
                · refine lv_aload_n hx hb dX3_text_103 rfl (lv_at hl 1 rfl) ?_
                  refine lv_bipush (v := 48) hx hb dX3_text_104 (by decide) ?_
                  refine lv_iload_n hx hb dX3_text_106 rfl (lv_at hl 3 rfl) ?_
                  refine lv_iload_n hx hb dX3_text_107 rfl (lv_at hl 0 rfl) ?_
                  refine lv_idiv hx hb dX3_text_108 (by decide) ?_
                  refine lv_bipush (v := 10) hx hb dX3_text_109 (by decide) ?_
                  refine lv_irem hx hb dX3_text_111 (by decide) ?_
                  refine lv_iadd hx hb dX3_text_112 ?_
                  refine lv_topi (fun z57 ez57 => ?_)
                  obtain rfl : z57 = nI (48 + i / 10 % 10) := ez57.trans (dg_10 hi128)
                  refine gVv (As := [.int (nI (48 + i / 10 % 10))]) (rest := []) ⟨hx, hb, hml, hown, hts⟩ (c_X3_write l dC dI A v52 ht54 (wt_rm 1 hend hi_i (by simp) (by decide)) (nI (48 + i / 10 % 10))) (cwV 1 hts (gi_V hbc tw_335 tw_337 ts_6 tw_4 tw_338) rfl rfl rfl (by decide +kernel) ⟨Nat.le_of_ble_eq_true rfl, Nat.le_of_ble_eq_true rfl⟩) (va_recv hK hP (ci := 3) (q0 := 0) rfl rfl) aR_mono aR_D hP hK hD hS rfl hl.1 rfl (Nat.le_of_ble_eq_true rfl) dX3_text_113 ⟨Nat.le_of_ble_eq_true rfl, Nat.le_of_ble_eq_true rfl⟩ (fun v60 H locs hq59 hP hD hS => ?_)
                  obtain ⟨h61, ht62⟩ := hq59
                  have h61 := tr2 h61 h53
                  refine lv_iload_n hx hb dX3_text_116 rfl (lv_at hl 0 rfl) ?_
                  refine lv_bipush (v := 10) hx hb dX3_text_117 (by decide) ?_
                  refine lv_idiv hx hb dX3_text_119 (by decide) ?_
                  refine lv_topi (fun z63 ez63 => ?_)
                  obtain rfl : z63 = 1 := ez63.trans (by decide)
                  refine lv_istore_n (lv' := [(3, .int 1), (0, .ref (mh_ A)), (1, .int p0), (2, .int (nI i))]) hx hb dX3_text_120 rfl hl (by decide) rfl (fun ls hl => ?_)
                  refine lv_goto (tgt := 99) hx hb dX3_text_121 (by decide) ?_
                  refine lv_iload_n hx hb dX3_text_99 rfl (lv_at hl 0 rfl) ?_
                  refine lv_if_le (tgt := 124) hx hb dX3_text_100 (by decide) (fun c64 => ?_) (fun c64 => ?_)
                  · exact absurd c64 (by decide)
                  · refine lv_aload_n hx hb dX3_text_103 rfl (lv_at hl 1 rfl) ?_
                    refine lv_bipush (v := 48) hx hb dX3_text_104 (by decide) ?_
                    refine lv_iload_n hx hb dX3_text_106 rfl (lv_at hl 3 rfl) ?_
                    refine lv_iload_n hx hb dX3_text_107 rfl (lv_at hl 0 rfl) ?_
                    refine lv_idiv hx hb dX3_text_108 (by decide) ?_
                    refine lv_bipush (v := 10) hx hb dX3_text_109 (by decide) ?_
                    refine lv_irem hx hb dX3_text_111 (by decide) ?_
                    refine lv_iadd hx hb dX3_text_112 ?_
                    refine lv_topi (fun z65 ez65 => ?_)
                    obtain rfl : z65 = nI (48 + i / 1 % 10) := ez65.trans (dg_1 hi128)
                    refine gVv (As := [.int (nI (48 + i / 1 % 10))]) (rest := []) ⟨hx, hb, hml, hown, hts⟩ (c_X3_write l dC dI A v60 ht62 (wt_rm 2 hend hi_i (by simp) (by decide)) (nI (48 + i / 1 % 10))) (cwV 1 hts (gi_V hbc tw_335 tw_337 ts_6 tw_4 tw_338) rfl rfl rfl (by decide +kernel) ⟨Nat.le_of_ble_eq_true rfl, Nat.le_of_ble_eq_true rfl⟩) (va_recv hK hP (ci := 3) (q0 := 0) rfl rfl) aR_mono aR_D hP hK hD hS rfl hl.1 rfl (Nat.le_of_ble_eq_true rfl) dX3_text_113 ⟨Nat.le_of_ble_eq_true rfl, Nat.le_of_ble_eq_true rfl⟩ (fun v68 H locs hq67 hP hD hS => ?_)
                    obtain ⟨h69, ht70⟩ := hq67
                    have h69 := tr2 h69 h61
                    refine lv_iload_n hx hb dX3_text_116 rfl (lv_at hl 0 rfl) ?_
                    refine lv_bipush (v := 10) hx hb dX3_text_117 (by decide) ?_
                    refine lv_idiv hx hb dX3_text_119 (by decide) ?_
                    refine lv_topi (fun z71 ez71 => ?_)
                    obtain rfl : z71 = 0 := ez71.trans (by decide)
                    refine lv_istore_n (lv' := [(3, .int 0), (0, .ref (mh_ A)), (1, .int p0), (2, .int (nI i))]) hx hb dX3_text_120 rfl hl (by decide) rfl (fun ls hl => ?_)
                    refine lv_goto (tgt := 99) hx hb dX3_text_121 (by decide) ?_
                    refine lv_iload_n hx hb dX3_text_99 rfl (lv_at hl 0 rfl) ?_
                    refine lv_if_le (tgt := 124) hx hb dX3_text_100 (by decide) (fun c72 => ?_) (fun c72 => ?_)
                    · refine lv_iinc (v := nI (i + 1)) (lv' := [(2, .int (nI (i + 1))), (3, .int 0), (0, .ref (mh_ A)), (1, .int p0)]) hx hb dX3_text_124 hl (k := 3) rfl (nI_1 _) (by decide) rfl (fun ls hl => ?_)
                      refine lv_goto (tgt := 34) hx hb dX3_text_127 (by decide) ?_
                      exact ih_i _ _ _ (by omega) ⟨v68, hP, hD, hS, lv_sub hl [2, 3, 0] rfl, h69, by rw [wt_s c18, p2_le hend hi_i c19, dl_3 hi128 c20]; exact ht70⟩
                    · exact absurd (by decide) c72
          · rw [hF2.1] at c19
            refine lv_aload_n hx hb dX3_text_63 rfl (lv_at hl 0 rfl) ?_
            refine lv_bipush (v := 44) hx hb dX3_text_64 (by decide) ?_
            refine gVv (As := [.int 44]) (rest := []) ⟨hx, hb, hml, hown, hts⟩ (c_X3_write l dC dI A v hF2 (wt_rm 0 hend hi_i rfl (by decide)) 44) (cwV 1 hts (gi_V hbc tw_335 tw_337 ts_6 tw_4 tw_338) rfl rfl rfl (by decide +kernel) ⟨Nat.le_of_ble_eq_true rfl, Nat.le_of_ble_eq_true rfl⟩) (va_recv hK hP (ci := 3) (q0 := 0) rfl rfl) aR_mono aR_D hP hK hD hS rfl hl.1 rfl (Nat.le_of_ble_eq_true rfl) dX3_text_66 ⟨Nat.le_of_ble_eq_true rfl, Nat.le_of_ble_eq_true rfl⟩ (fun v75 H locs hq74 hP hD hS => ?_)
            obtain ⟨h76, ht77⟩ := hq74
            have h76 := tr2 h76 hF1
            refine lv_aload_n hx hb dX3_text_69 rfl (lv_at hl 0 rfl) ?_
            refine lv_bipush (v := 32) hx hb dX3_text_70 (by decide) ?_
            refine gVv (As := [.int 32]) (rest := []) ⟨hx, hb, hml, hown, hts⟩ (c_X3_write l dC dI A v75 ht77 (wt_rm 1 hend hi_i (by simp) (by decide)) 32) (cwV 1 hts (gi_V hbc tw_335 tw_337 ts_6 tw_4 tw_338) rfl rfl rfl (by decide +kernel) ⟨Nat.le_of_ble_eq_true rfl, Nat.le_of_ble_eq_true rfl⟩) (va_recv hK hP (ci := 3) (q0 := 0) rfl rfl) aR_mono aR_D hP hK hD hS rfl hl.1 rfl (Nat.le_of_ble_eq_true rfl) dX3_text_72 ⟨Nat.le_of_ble_eq_true rfl, Nat.le_of_ble_eq_true rfl⟩ (fun v80 H locs hq79 hP hD hS => ?_)
            obtain ⟨h81, ht82⟩ := hq79
            have h81 := tr2 h81 h76
            refine lv_iload_n hx hb dX3_text_75 rfl (lv_at hl 2 rfl) ?_
            refine lv_bipush (v := 99) hx hb dX3_text_76 (by decide) ?_
            refine lv_icmp_le (tgt := 86) hx hb dX3_text_78 (by decide) (fun c83 => ?_) (fun c83 => ?_)
            · refine lv_iload_n hx hb dX3_text_86 rfl (lv_at hl 2 rfl) ?_
              refine lv_bipush (v := 9) hx hb dX3_text_87 (by decide) ?_
              refine lv_icmp_le (tgt := 97) hx hb dX3_text_89 (by decide) (fun c84 => ?_) (fun c84 => ?_)
              · refine lv_iconst (v := 1) hx hb dX3_text_97 (by decide) ?_
                refine lv_istore_n (lv' := [(3, .int 1), (0, .ref (mh_ A)), (1, .int p0), (2, .int (nI i))]) hx hb dX3_text_98 rfl hl (by decide) rfl (fun ls hl => ?_)
                refine lv_iload_n hx hb dX3_text_99 rfl (lv_at hl 0 rfl) ?_
                refine lv_if_le (tgt := 124) hx hb dX3_text_100 (by decide) (fun c85 => ?_) (fun c85 => ?_)
                · exact absurd c85 (by decide)
                · refine lv_aload_n hx hb dX3_text_103 rfl (lv_at hl 1 rfl) ?_
                  refine lv_bipush (v := 48) hx hb dX3_text_104 (by decide) ?_
                  refine lv_iload_n hx hb dX3_text_106 rfl (lv_at hl 3 rfl) ?_
                  refine lv_iload_n hx hb dX3_text_107 rfl (lv_at hl 0 rfl) ?_
                  refine lv_idiv hx hb dX3_text_108 (by decide) ?_
                  refine lv_bipush (v := 10) hx hb dX3_text_109 (by decide) ?_
                  refine lv_irem hx hb dX3_text_111 (by decide) ?_
                  refine lv_iadd hx hb dX3_text_112 ?_
                  refine lv_topi (fun z86 ez86 => ?_)
                  obtain rfl : z86 = nI (48 + i / 1 % 10) := ez86.trans (dg_1 hi128)
                  refine gVv (As := [.int (nI (48 + i / 1 % 10))]) (rest := []) ⟨hx, hb, hml, hown, hts⟩ (c_X3_write l dC dI A v80 ht82 (wt_rm 2 hend hi_i (by simp) (by decide)) (nI (48 + i / 1 % 10))) (cwV 1 hts (gi_V hbc tw_335 tw_337 ts_6 tw_4 tw_338) rfl rfl rfl (by decide +kernel) ⟨Nat.le_of_ble_eq_true rfl, Nat.le_of_ble_eq_true rfl⟩) (va_recv hK hP (ci := 3) (q0 := 0) rfl rfl) aR_mono aR_D hP hK hD hS rfl hl.1 rfl (Nat.le_of_ble_eq_true rfl) dX3_text_113 ⟨Nat.le_of_ble_eq_true rfl, Nat.le_of_ble_eq_true rfl⟩ (fun v89 H locs hq88 hP hD hS => ?_)
                  obtain ⟨h90, ht91⟩ := hq88
                  have h90 := tr2 h90 h81
                  refine lv_iload_n hx hb dX3_text_116 rfl (lv_at hl 0 rfl) ?_
                  refine lv_bipush (v := 10) hx hb dX3_text_117 (by decide) ?_
                  refine lv_idiv hx hb dX3_text_119 (by decide) ?_
                  refine lv_topi (fun z92 ez92 => ?_)
                  obtain rfl : z92 = 0 := ez92.trans (by decide)
                  refine lv_istore_n (lv' := [(3, .int 0), (0, .ref (mh_ A)), (1, .int p0), (2, .int (nI i))]) hx hb dX3_text_120 rfl hl (by decide) rfl (fun ls hl => ?_)
                  refine lv_goto (tgt := 99) hx hb dX3_text_121 (by decide) ?_
                  refine lv_iload_n hx hb dX3_text_99 rfl (lv_at hl 0 rfl) ?_
                  refine lv_if_le (tgt := 124) hx hb dX3_text_100 (by decide) (fun c93 => ?_) (fun c93 => ?_)
                  · refine lv_iinc (v := nI (i + 1)) (lv' := [(2, .int (nI (i + 1))), (3, .int 0), (0, .ref (mh_ A)), (1, .int p0)]) hx hb dX3_text_124 hl (k := 3) rfl (nI_1 _) (by decide) rfl (fun ls hl => ?_)
                    refine lv_goto (tgt := 34) hx hb dX3_text_127 (by decide) ?_
                    exact ih_i _ _ _ (by omega) ⟨v89, hP, hD, hS, lv_sub hl [2, 3, 0] rfl, h90, by rw [wt_s c18, p2_gt c19, dl_1 hi128 c83 c84]; exact ht91⟩
                  · exact absurd (by decide) c93
              · refine lv_bipush (v := 10) hx hb dX3_text_92 (by decide) ?_
                refine lv_goto (tgt := 98) hx hb dX3_text_94 (by decide) ?_
                refine lv_istore_n (lv' := [(3, .int 10), (0, .ref (mh_ A)), (1, .int p0), (2, .int (nI i))]) hx hb dX3_text_98 rfl hl (by decide) rfl (fun ls hl => ?_)
                refine lv_iload_n hx hb dX3_text_99 rfl (lv_at hl 0 rfl) ?_
                refine lv_if_le (tgt := 124) hx hb dX3_text_100 (by decide) (fun c94 => ?_) (fun c94 => ?_)
                · exact absurd c94 (by decide)
                · refine lv_aload_n hx hb dX3_text_103 rfl (lv_at hl 1 rfl) ?_
                  refine lv_bipush (v := 48) hx hb dX3_text_104 (by decide) ?_
                  refine lv_iload_n hx hb dX3_text_106 rfl (lv_at hl 3 rfl) ?_
                  refine lv_iload_n hx hb dX3_text_107 rfl (lv_at hl 0 rfl) ?_
                  refine lv_idiv hx hb dX3_text_108 (by decide) ?_
                  refine lv_bipush (v := 10) hx hb dX3_text_109 (by decide) ?_
                  refine lv_irem hx hb dX3_text_111 (by decide) ?_
                  refine lv_iadd hx hb dX3_text_112 ?_
                  refine lv_topi (fun z95 ez95 => ?_)
                  obtain rfl : z95 = nI (48 + i / 10 % 10) := ez95.trans (dg_10 hi128)
                  refine gVv (As := [.int (nI (48 + i / 10 % 10))]) (rest := []) ⟨hx, hb, hml, hown, hts⟩ (c_X3_write l dC dI A v80 ht82 (wt_rm 2 hend hi_i (by simp) (by decide)) (nI (48 + i / 10 % 10))) (cwV 1 hts (gi_V hbc tw_335 tw_337 ts_6 tw_4 tw_338) rfl rfl rfl (by decide +kernel) ⟨Nat.le_of_ble_eq_true rfl, Nat.le_of_ble_eq_true rfl⟩) (va_recv hK hP (ci := 3) (q0 := 0) rfl rfl) aR_mono aR_D hP hK hD hS rfl hl.1 rfl (Nat.le_of_ble_eq_true rfl) dX3_text_113 ⟨Nat.le_of_ble_eq_true rfl, Nat.le_of_ble_eq_true rfl⟩ (fun v98 H locs hq97 hP hD hS => ?_)
                  obtain ⟨h99, ht100⟩ := hq97
                  have h99 := tr2 h99 h81
                  refine lv_iload_n hx hb dX3_text_116 rfl (lv_at hl 0 rfl) ?_
                  refine lv_bipush (v := 10) hx hb dX3_text_117 (by decide) ?_
                  refine lv_idiv hx hb dX3_text_119 (by decide) ?_
                  refine lv_topi (fun z101 ez101 => ?_)
                  obtain rfl : z101 = 1 := ez101.trans (by decide)
                  refine lv_istore_n (lv' := [(3, .int 1), (0, .ref (mh_ A)), (1, .int p0), (2, .int (nI i))]) hx hb dX3_text_120 rfl hl (by decide) rfl (fun ls hl => ?_)
                  refine lv_goto (tgt := 99) hx hb dX3_text_121 (by decide) ?_
                  refine lv_iload_n hx hb dX3_text_99 rfl (lv_at hl 0 rfl) ?_
                  refine lv_if_le (tgt := 124) hx hb dX3_text_100 (by decide) (fun c102 => ?_) (fun c102 => ?_)
                  · exact absurd c102 (by decide)
                  · refine lv_aload_n hx hb dX3_text_103 rfl (lv_at hl 1 rfl) ?_
                    refine lv_bipush (v := 48) hx hb dX3_text_104 (by decide) ?_
                    refine lv_iload_n hx hb dX3_text_106 rfl (lv_at hl 3 rfl) ?_
                    refine lv_iload_n hx hb dX3_text_107 rfl (lv_at hl 0 rfl) ?_
                    refine lv_idiv hx hb dX3_text_108 (by decide) ?_
                    refine lv_bipush (v := 10) hx hb dX3_text_109 (by decide) ?_
                    refine lv_irem hx hb dX3_text_111 (by decide) ?_
                    refine lv_iadd hx hb dX3_text_112 ?_
                    refine lv_topi (fun z103 ez103 => ?_)
                    obtain rfl : z103 = nI (48 + i / 1 % 10) := ez103.trans (dg_1 hi128)
                    refine gVv (As := [.int (nI (48 + i / 1 % 10))]) (rest := []) ⟨hx, hb, hml, hown, hts⟩ (c_X3_write l dC dI A v98 ht100 (wt_rm 3 hend hi_i (by simp) (by decide)) (nI (48 + i / 1 % 10))) (cwV 1 hts (gi_V hbc tw_335 tw_337 ts_6 tw_4 tw_338) rfl rfl rfl (by decide +kernel) ⟨Nat.le_of_ble_eq_true rfl, Nat.le_of_ble_eq_true rfl⟩) (va_recv hK hP (ci := 3) (q0 := 0) rfl rfl) aR_mono aR_D hP hK hD hS rfl hl.1 rfl (Nat.le_of_ble_eq_true rfl) dX3_text_113 ⟨Nat.le_of_ble_eq_true rfl, Nat.le_of_ble_eq_true rfl⟩ (fun v106 H locs hq105 hP hD hS => ?_)
                    obtain ⟨h107, ht108⟩ := hq105
                    have h107 := tr2 h107 h99
                    refine lv_iload_n hx hb dX3_text_116 rfl (lv_at hl 0 rfl) ?_
                    refine lv_bipush (v := 10) hx hb dX3_text_117 (by decide) ?_
                    refine lv_idiv hx hb dX3_text_119 (by decide) ?_
                    refine lv_topi (fun z109 ez109 => ?_)
                    obtain rfl : z109 = 0 := ez109.trans (by decide)
                    refine lv_istore_n (lv' := [(3, .int 0), (0, .ref (mh_ A)), (1, .int p0), (2, .int (nI i))]) hx hb dX3_text_120 rfl hl (by decide) rfl (fun ls hl => ?_)
                    refine lv_goto (tgt := 99) hx hb dX3_text_121 (by decide) ?_
                    refine lv_iload_n hx hb dX3_text_99 rfl (lv_at hl 0 rfl) ?_
                    refine lv_if_le (tgt := 124) hx hb dX3_text_100 (by decide) (fun c110 => ?_) (fun c110 => ?_)
                    · refine lv_iinc (v := nI (i + 1)) (lv' := [(2, .int (nI (i + 1))), (3, .int 0), (0, .ref (mh_ A)), (1, .int p0)]) hx hb dX3_text_124 hl (k := 3) rfl (nI_1 _) (by decide) rfl (fun ls hl => ?_)
                      refine lv_goto (tgt := 34) hx hb dX3_text_127 (by decide) ?_
                      exact ih_i _ _ _ (by omega) ⟨v106, hP, hD, hS, lv_sub hl [2, 3, 0] rfl, h107, by rw [wt_s c18, p2_gt c19, dl_2 hi128 c83 c84]; exact ht108⟩
                    · exact absurd (by decide) c110
            · refine lv_bipush (v := 100) hx hb dX3_text_81 (by decide) ?_
              refine lv_goto (tgt := 98) hx hb dX3_text_83 (by decide) ?_
              refine lv_istore_n (lv' := [(3, .int 100), (0, .ref (mh_ A)), (1, .int p0), (2, .int (nI i))]) hx hb dX3_text_98 rfl hl (by decide) rfl (fun ls hl => ?_)
              refine lv_iload_n hx hb dX3_text_99 rfl (lv_at hl 0 rfl) ?_
              refine lv_if_le (tgt := 124) hx hb dX3_text_100 (by decide) (fun c111 => ?_) (fun c111 => ?_)
              · exact absurd c111 (by decide)
              · refine lv_aload_n hx hb dX3_text_103 rfl (lv_at hl 1 rfl) ?_
                refine lv_bipush (v := 48) hx hb dX3_text_104 (by decide) ?_
                refine lv_iload_n hx hb dX3_text_106 rfl (lv_at hl 3 rfl) ?_
                refine lv_iload_n hx hb dX3_text_107 rfl (lv_at hl 0 rfl) ?_
                refine lv_idiv hx hb dX3_text_108 (by decide) ?_
                refine lv_bipush (v := 10) hx hb dX3_text_109 (by decide) ?_
                refine lv_irem hx hb dX3_text_111 (by decide) ?_
                refine lv_iadd hx hb dX3_text_112 ?_
                refine lv_topi (fun z112 ez112 => ?_)
                obtain rfl : z112 = nI (48 + i / 100 % 10) := ez112.trans (dg_100 hi128)
                refine gVv (As := [.int (nI (48 + i / 100 % 10))]) (rest := []) ⟨hx, hb, hml, hown, hts⟩ (c_X3_write l dC dI A v80 ht82 (wt_rm 2 hend hi_i (by simp) (by decide)) (nI (48 + i / 100 % 10))) (cwV 1 hts (gi_V hbc tw_335 tw_337 ts_6 tw_4 tw_338) rfl rfl rfl (by decide +kernel) ⟨Nat.le_of_ble_eq_true rfl, Nat.le_of_ble_eq_true rfl⟩) (va_recv hK hP (ci := 3) (q0 := 0) rfl rfl) aR_mono aR_D hP hK hD hS rfl hl.1 rfl (Nat.le_of_ble_eq_true rfl) dX3_text_113 ⟨Nat.le_of_ble_eq_true rfl, Nat.le_of_ble_eq_true rfl⟩ (fun v115 H locs hq114 hP hD hS => ?_)
                obtain ⟨h116, ht117⟩ := hq114
                have h116 := tr2 h116 h81
                refine lv_iload_n hx hb dX3_text_116 rfl (lv_at hl 0 rfl) ?_
                refine lv_bipush (v := 10) hx hb dX3_text_117 (by decide) ?_
                refine lv_idiv hx hb dX3_text_119 (by decide) ?_
                refine lv_topi (fun z118 ez118 => ?_)
                obtain rfl : z118 = 10 := ez118.trans (by decide)
                refine lv_istore_n (lv' := [(3, .int 10), (0, .ref (mh_ A)), (1, .int p0), (2, .int (nI i))]) hx hb dX3_text_120 rfl hl (by decide) rfl (fun ls hl => ?_)
                refine lv_goto (tgt := 99) hx hb dX3_text_121 (by decide) ?_
                refine lv_iload_n hx hb dX3_text_99 rfl (lv_at hl 0 rfl) ?_
                refine lv_if_le (tgt := 124) hx hb dX3_text_100 (by decide) (fun c119 => ?_) (fun c119 => ?_)
                · exact absurd c119 (by decide)
                · refine lv_aload_n hx hb dX3_text_103 rfl (lv_at hl 1 rfl) ?_
                  refine lv_bipush (v := 48) hx hb dX3_text_104 (by decide) ?_
                  refine lv_iload_n hx hb dX3_text_106 rfl (lv_at hl 3 rfl) ?_
                  refine lv_iload_n hx hb dX3_text_107 rfl (lv_at hl 0 rfl) ?_
                  refine lv_idiv hx hb dX3_text_108 (by decide) ?_
                  refine lv_bipush (v := 10) hx hb dX3_text_109 (by decide) ?_
                  refine lv_irem hx hb dX3_text_111 (by decide) ?_
                  refine lv_iadd hx hb dX3_text_112 ?_
                  refine lv_topi (fun z120 ez120 => ?_)
                  obtain rfl : z120 = nI (48 + i / 10 % 10) := ez120.trans (dg_10 hi128)
                  refine gVv (As := [.int (nI (48 + i / 10 % 10))]) (rest := []) ⟨hx, hb, hml, hown, hts⟩ (c_X3_write l dC dI A v115 ht117 (wt_rm 3 hend hi_i (by simp) (by decide)) (nI (48 + i / 10 % 10))) (cwV 1 hts (gi_V hbc tw_335 tw_337 ts_6 tw_4 tw_338) rfl rfl rfl (by decide +kernel) ⟨Nat.le_of_ble_eq_true rfl, Nat.le_of_ble_eq_true rfl⟩) (va_recv hK hP (ci := 3) (q0 := 0) rfl rfl) aR_mono aR_D hP hK hD hS rfl hl.1 rfl (Nat.le_of_ble_eq_true rfl) dX3_text_113 ⟨Nat.le_of_ble_eq_true rfl, Nat.le_of_ble_eq_true rfl⟩ (fun v123 H locs hq122 hP hD hS => ?_)
                  obtain ⟨h124, ht125⟩ := hq122
                  have h124 := tr2 h124 h116
                  refine lv_iload_n hx hb dX3_text_116 rfl (lv_at hl 0 rfl) ?_
                  refine lv_bipush (v := 10) hx hb dX3_text_117 (by decide) ?_
                  refine lv_idiv hx hb dX3_text_119 (by decide) ?_
                  refine lv_topi (fun z126 ez126 => ?_)
                  obtain rfl : z126 = 1 := ez126.trans (by decide)
                  refine lv_istore_n (lv' := [(3, .int 1), (0, .ref (mh_ A)), (1, .int p0), (2, .int (nI i))]) hx hb dX3_text_120 rfl hl (by decide) rfl (fun ls hl => ?_)
                  refine lv_goto (tgt := 99) hx hb dX3_text_121 (by decide) ?_
                  refine lv_iload_n hx hb dX3_text_99 rfl (lv_at hl 0 rfl) ?_
                  refine lv_if_le (tgt := 124) hx hb dX3_text_100 (by decide) (fun c127 => ?_) (fun c127 => ?_)
                  · exact absurd c127 (by decide)
                  · refine lv_aload_n hx hb dX3_text_103 rfl (lv_at hl 1 rfl) ?_
                    refine lv_bipush (v := 48) hx hb dX3_text_104 (by decide) ?_
                    refine lv_iload_n hx hb dX3_text_106 rfl (lv_at hl 3 rfl) ?_
                    refine lv_iload_n hx hb dX3_text_107 rfl (lv_at hl 0 rfl) ?_
                    refine lv_idiv hx hb dX3_text_108 (by decide) ?_
                    refine lv_bipush (v := 10) hx hb dX3_text_109 (by decide) ?_
                    refine lv_irem hx hb dX3_text_111 (by decide) ?_
                    refine lv_iadd hx hb dX3_text_112 ?_
                    refine lv_topi (fun z128 ez128 => ?_)
                    obtain rfl : z128 = nI (48 + i / 1 % 10) := ez128.trans (dg_1 hi128)
                    refine gVv (As := [.int (nI (48 + i / 1 % 10))]) (rest := []) ⟨hx, hb, hml, hown, hts⟩ (c_X3_write l dC dI A v123 ht125 (wt_rm 4 hend hi_i (by simp) (by decide)) (nI (48 + i / 1 % 10))) (cwV 1 hts (gi_V hbc tw_335 tw_337 ts_6 tw_4 tw_338) rfl rfl rfl (by decide +kernel) ⟨Nat.le_of_ble_eq_true rfl, Nat.le_of_ble_eq_true rfl⟩) (va_recv hK hP (ci := 3) (q0 := 0) rfl rfl) aR_mono aR_D hP hK hD hS rfl hl.1 rfl (Nat.le_of_ble_eq_true rfl) dX3_text_113 ⟨Nat.le_of_ble_eq_true rfl, Nat.le_of_ble_eq_true rfl⟩ (fun v131 H locs hq130 hP hD hS => ?_)
                    obtain ⟨h132, ht133⟩ := hq130
                    have h132 := tr2 h132 h124
                    refine lv_iload_n hx hb dX3_text_116 rfl (lv_at hl 0 rfl) ?_
                    refine lv_bipush (v := 10) hx hb dX3_text_117 (by decide) ?_
                    refine lv_idiv hx hb dX3_text_119 (by decide) ?_
                    refine lv_topi (fun z134 ez134 => ?_)
                    obtain rfl : z134 = 0 := ez134.trans (by decide)
                    refine lv_istore_n (lv' := [(3, .int 0), (0, .ref (mh_ A)), (1, .int p0), (2, .int (nI i))]) hx hb dX3_text_120 rfl hl (by decide) rfl (fun ls hl => ?_)
                    refine lv_goto (tgt := 99) hx hb dX3_text_121 (by decide) ?_
                    refine lv_iload_n hx hb dX3_text_99 rfl (lv_at hl 0 rfl) ?_
                    refine lv_if_le (tgt := 124) hx hb dX3_text_100 (by decide) (fun c135 => ?_) (fun c135 => ?_)
                    · refine lv_iinc (v := nI (i + 1)) (lv' := [(2, .int (nI (i + 1))), (3, .int 0), (0, .ref (mh_ A)), (1, .int p0)]) hx hb dX3_text_124 hl (k := 3) rfl (nI_1 _) (by decide) rfl (fun ls hl => ?_)
                      refine lv_goto (tgt := 34) hx hb dX3_text_127 (by decide) ?_
                      exact ih_i _ _ _ (by omega) ⟨v131, hP, hD, hS, lv_sub hl [2, 3, 0] rfl, h132, by rw [wt_s c18, p2_gt c19, dl_3 hi128 c83]; exact ht133⟩
                    · exact absurd (by decide) c135
        · have c18 := b1f (b := _) c18
          refine lv_goto (tgt := 124) hx hb dX3_text_52 (by decide) ?_
          refine lv_iinc (v := nI (i + 1)) (lv' := [(2, .int (nI (i + 1))), (0, .ref (mh_ A)), (1, .int p0)]) hx hb dX3_text_124 hl (k := 2) rfl (nI_1 _) (by decide) rfl (fun ls hl => ?_)
          refine lv_goto (tgt := 34) hx hb dX3_text_127 (by decide) ?_
          exact ih_i _ _ _ (by omega) ⟨v, hP, hD, hS, lv_sub hl [1, 2, 0] rfl, hF1, by rw [wt_n c18]; exact hF2⟩
    · refine lv_bipush (v := -2) hx hb dX3_text_18 (by decide) ?_
      exact W.iret hx hb hr (fun t9 ht9 hW => ⟨⟨_, u, rfl, Or.inl ⟨c1, ⟨_, hq3, Or.inr ⟨c5, rfl, rfl⟩⟩⟩, by rw [ht9]; exact hP, va_K.moved hW.alike hK, hD⟩, hS.F ht9⟩) hS.2.2 dX3_text_20
