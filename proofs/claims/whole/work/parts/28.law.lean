set_option maxHeartbeats 8000000 in
set_option maxRecDepth 100000 in
theorem law_loop {p : Program} {l : Launch} {e : Env} {s : State} {m : MethodId} {below : List Frame} {meth : Method} {c : Code} {dC : Nat → ClassId} {dI : Nat → Nat → Nat} {b L : Nat} {xs : Nat → Int32} {A : AdB} {E : AdR} (hL : L ≤ 4096) (C0 : lw_At p s m meth c b L xs) (hK1 : va_K (dC, dI) bwCl (tyB A) s) (hK2 : va_K (dC, dI) bwCl (tyR E) s) (hi1 : ∀ q, oB A q → s.heap.size ≤ q) (hi2 : ∀ q, oR E q → s.heap.size ≤ q) (hap : ∀ q, oB A q → ¬ oR E q) :
    ∀ (n i : Nat), i ≤ L → L + 8 ≤ i + 8 * n → ∀ (u : StB) (v : StR) (H : Heap) (locs : List Loc), Rel u v → va_P (dC, dI) bwCl (wB A u) H → va_D (aB A 0) (wB A u) → va_P (dC, dI) bwCl (wR E v) H → va_D (aR E 0) (wR E v) → va_S (fun q : Nat => s.heap.size ≤ q) s.heap H locs → ∀ (ls : Array Slot), lv_has ls 4 [(0, .ref b), (1, .ref (ah_ A)), (2, .ref (mh_ E)), (3, .int (nI i))] → W p l e room_1 s m #[Value.ref b] below meth c H locs 600000 7302250 (lw_Z below #[Value.ref b] s) (F0 m 18 ls []) := by
  obtain ⟨hx, hb, hr, hml, hown, hts, hX, hbl, hlocks, hgv⟩ := C0
  have hbA : ¬ (fun q : Nat => s.heap.size ≤ q) b := Nat.not_le.mpr hbl
  have hw : ∀ w ∈ tg_, w.before _ s = true := fun w h => hts w (tg_tbl h)
  intro n
  induction n with
  | zero =>
    intro i h1 h2
    exact absurd h2 (by omega)
  | succ n ih =>
    intro i hi hin u v H locs hR hP1 hD1 hP2 hD2 hS ls hl
    refine lv_iload_n hx hb dL_law_18 rfl (lv_at hl 3 rfl) ?_
    refine lv_aload_n hx hb dL_law_19 rfl (lv_at hl 0 rfl) ?_
    refine va_slen hx hb hX hbl hbA hS dL_law_20 ?_
    refine lv_bipush (v := 8) hx hb dL_law_21 (by decide) ?_
    refine lv_isub hx hb dL_law_23 ?_
    refine lv_icmp_gt (tgt := 765) hx hb dL_law_24 (by decide) (fun c1 => ?_) (fun c1 => ?_)
    · refine lv_iconst (v := 1) hx hb dL_law_765 (by decide) ?_
      refine va_forget (fun q hq => hS.2.2 q hq) ?_
      exact lw_ret hx hb hr hlocks dL_law_766
    · have hi8 := lw_le hL hi c1
      obtain ⟨t, ht1, ht2⟩ := id hR.2.2
      refine lv_aload_n hx hb dL_law_27 rfl (lv_at hl 0 rfl) ?_
      refine lv_iload_n hx hb dL_law_28 rfl (lv_at hl 3 rfl) ?_
      refine va_sld hx hb hX hbl hbA hS (vp_in_nI (by omega) (by omega)) dL_law_29 ?_
      rw [nI_clamp (n := i) (by omega)]
      refine lv_bipush (v := 15) hx hb dL_law_30 (by decide) ?_
      refine lv_iand hx hb dL_law_32 ?_
      by_cases c2 : ((xs i) &&& 15) = 0
      · refine lv_tableIn (off := 75) (tgt := 108) hx hb dL_law_33 (by rw [c2]; decide) (by rw [c2]; decide) (by rw [c2]; decide) (by decide) ?_
        refine lv_aload_n hx hb dL_law_108 rfl (lv_at hl 1 rfl) ?_
        refine lv_aload_n hx hb dL_law_109 rfl (lv_at hl 0 rfl) ?_
        refine lv_iload_n hx hb dL_law_110 rfl (lv_at hl 3 rfl) ?_
        refine lv_iconst (v := 1) hx hb dL_law_111 (by decide) ?_
        refine lv_iadd hx hb dL_law_112 ?_
        refine lv_topi (fun z3 ez3 => ?_)
        obtain rfl : z3 = nI (i + 1) := ez3.trans (nI_add i 1)
        refine va_sld hx hb hX hbl hbA hS (vp_in_nI (by omega) (by omega)) dL_law_113 ?_
        rw [nI_clamp (n := (i + 1)) (by omega)]
        refine lv_aload_n hx hb dL_law_114 rfl (lv_at hl 0 rfl) ?_
        refine lv_iload_n hx hb dL_law_115 rfl (lv_at hl 3 rfl) ?_
        refine lv_iconst (v := 2) hx hb dL_law_116 (by decide) ?_
        refine lv_iadd hx hb dL_law_117 ?_
        refine lv_topi (fun z4 ez4 => ?_)
        obtain rfl : z4 = nI (i + 2) := ez4.trans (nI_add i 2)
        refine va_sld hx hb hX hbl hbA hS (vp_in_nI (by omega) (by omega)) dL_law_118 ?_
        rw [nI_clamp (n := (i + 2)) (by omega)]
        refine lv_aload_n hx hb dL_law_119 rfl (lv_at hl 0 rfl) ?_
        refine lv_iload_n hx hb dL_law_120 rfl (lv_at hl 3 rfl) ?_
        refine lv_iconst (v := 3) hx hb dL_law_121 (by decide) ?_
        refine lv_iadd hx hb dL_law_122 ?_
        refine lv_topi (fun z5 ez5 => ?_)
        obtain rfl : z5 = nI (i + 3) := ez5.trans (nI_add i 3)
        refine va_sld hx hb hX hbl hbA hS (vp_in_nI (by omega) (by omega)) dL_law_123 ?_
        rw [nI_clamp (n := (i + 3)) (by omega)]
        refine gLi (X := fun q : Nat => s.heap.size ≤ q) (As := [.int (xs (i + 1)), .int (xs (i + 2)), .int (xs (i + 3))]) (rest := []) ⟨hx, hb, hml, hown, hts⟩ (c_X2_set l dC dI A u (xs (i + 1)) (xs (i + 2)) (xs (i + 3))) (cwV 3 hts (gi_V (fun _ h => tg_tbl h) tw_48 tw_49 tw_50 tw_1 tw_51) rfl rfl rfl (by decide +kernel) ⟨Nat.le_of_ble_eq_true rfl, Nat.le_of_ble_eq_true rfl⟩) (va_recv hK1 hP1 (ci := 2) (q0 := 0) rfl rfl) aB_D hP1 hP2 hK1 hD1 hS (lw_in1 hi1 hS) (lw_out1 hap hP2) rfl hl.1 rfl (Nat.le_of_ble_eq_true rfl) dL_law_124 ⟨Nat.le_refl _, Nat.le_refl _⟩ (fun r6 u7 H locs hq8 hP1 hD1 hP2 hz hS => ?_)
        refine lv_aload_n hx hb dL_law_127 rfl (lv_at hl 2 rfl) ?_
        refine lv_aload_n hx hb dL_law_128 rfl (lv_at hl 0 rfl) ?_
        refine lv_iload_n hx hb dL_law_129 rfl (lv_at hl 3 rfl) ?_
        refine lv_iconst (v := 1) hx hb dL_law_130 (by decide) ?_
        refine lv_iadd hx hb dL_law_131 ?_
        refine lv_topi (fun z9 ez9 => ?_)
        obtain rfl : z9 = nI (i + 1) := ez9.trans (nI_add i 1)
        refine va_sld hx hb hX hbl hbA hS (vp_in_nI (by omega) (by omega)) dL_law_132 ?_
        rw [nI_clamp (n := (i + 1)) (by omega)]
        refine lv_aload_n hx hb dL_law_133 rfl (lv_at hl 0 rfl) ?_
        refine lv_iload_n hx hb dL_law_134 rfl (lv_at hl 3 rfl) ?_
        refine lv_iconst (v := 2) hx hb dL_law_135 (by decide) ?_
        refine lv_iadd hx hb dL_law_136 ?_
        refine lv_topi (fun z10 ez10 => ?_)
        obtain rfl : z10 = nI (i + 2) := ez10.trans (nI_add i 2)
        refine va_sld hx hb hX hbl hbA hS (vp_in_nI (by omega) (by omega)) dL_law_137 ?_
        rw [nI_clamp (n := (i + 2)) (by omega)]
        refine lv_aload_n hx hb dL_law_138 rfl (lv_at hl 0 rfl) ?_
        refine lv_iload_n hx hb dL_law_139 rfl (lv_at hl 3 rfl) ?_
        refine lv_iconst (v := 3) hx hb dL_law_140 (by decide) ?_
        refine lv_iadd hx hb dL_law_141 ?_
        refine lv_topi (fun z11 ez11 => ?_)
        obtain rfl : z11 = nI (i + 3) := ez11.trans (nI_add i 3)
        refine va_sld hx hb hX hbl hbA hS (vp_in_nI (by omega) (by omega)) dL_law_142 ?_
        rw [nI_clamp (n := (i + 3)) (by omega)]
        refine gLi (X := fun q : Nat => s.heap.size ≤ q) (As := [.int (xs (i + 1)), .int (xs (i + 2)), .int (xs (i + 3))]) (rest := [.int r6]) ⟨hx, hb, hml, hown, hts⟩ (c_X3_set l dC dI E v (xs (i + 1)) (xs (i + 2)) (xs (i + 3))) (cwV 3 hts (gi_V (fun _ h => tg_tbl h) tw_257 tw_258 tw_259 tw_4 tw_260) rfl rfl rfl (by decide +kernel) ⟨Nat.le_of_ble_eq_true rfl, Nat.le_of_ble_eq_true rfl⟩) (va_recv hK2 hP2 (ci := 3) (q0 := 0) rfl rfl) aR_D hP2 hP1 hK2 hD2 hS (lw_in2 hi2 hS) (lw_out2 hap hP1) rfl hl.1 rfl (Nat.le_of_ble_eq_true rfl) dL_law_143 ⟨Nat.le_refl _, Nat.le_refl _⟩ (fun r12 v13 H locs hq14 hP2 hD2 hP1 hz hS => ?_)
        refine lv_icmp_eq (tgt := 759) hx hb dL_law_146 (by decide) (fun c15 => ?_) (fun c15 => ?_)
        · have hR := (st_set hR hq8 hq14).2
          refine lv_iinc (v := nI (i + 8)) (lv' := [(3, .int (nI (i + 8))), (0, .ref b), (1, .ref (ah_ A)), (2, .ref (mh_ E))]) hx hb dL_law_759 hl (k := 3) rfl (nI_add i 8) (by decide) rfl (fun ls hl => ?_)
          refine lv_goto (tgt := 18) hx hb dL_law_762 (by decide) ?_
          exact ih (i + 8) (by omega) (by omega) u7 v13 _ _ hR hP1 (aB_D hD1) hP2 (aR_D hD2) hS ls (lv_sub hl [1, 2, 3, 0] rfl)
        · exact absurd (st_set hR hq8 hq14).1 c15
      by_cases c16 : ((xs i) &&& 15) = 1
      · refine lv_tableIn (off := 118) (tgt := 151) hx hb dL_law_33 (by rw [c16]; decide) (by rw [c16]; decide) (by rw [c16]; decide) (by decide) ?_
        refine lv_aload_n hx hb dL_law_151 rfl (lv_at hl 1 rfl) ?_
        refine lv_aload_n hx hb dL_law_152 rfl (lv_at hl 0 rfl) ?_
        refine lv_iload_n hx hb dL_law_153 rfl (lv_at hl 3 rfl) ?_
        refine lv_iconst (v := 1) hx hb dL_law_154 (by decide) ?_
        refine lv_iadd hx hb dL_law_155 ?_
        refine lv_topi (fun z17 ez17 => ?_)
        obtain rfl : z17 = nI (i + 1) := ez17.trans (nI_add i 1)
        refine va_sld hx hb hX hbl hbA hS (vp_in_nI (by omega) (by omega)) dL_law_156 ?_
        rw [nI_clamp (n := (i + 1)) (by omega)]
        refine lv_aload_n hx hb dL_law_157 rfl (lv_at hl 0 rfl) ?_
        refine lv_iload_n hx hb dL_law_158 rfl (lv_at hl 3 rfl) ?_
        refine lv_iconst (v := 2) hx hb dL_law_159 (by decide) ?_
        refine lv_iadd hx hb dL_law_160 ?_
        refine lv_topi (fun z18 ez18 => ?_)
        obtain rfl : z18 = nI (i + 2) := ez18.trans (nI_add i 2)
        refine va_sld hx hb hX hbl hbA hS (vp_in_nI (by omega) (by omega)) dL_law_161 ?_
        rw [nI_clamp (n := (i + 2)) (by omega)]
        refine lv_aload_n hx hb dL_law_162 rfl (lv_at hl 0 rfl) ?_
        refine lv_iload_n hx hb dL_law_163 rfl (lv_at hl 3 rfl) ?_
        refine lv_iconst (v := 3) hx hb dL_law_164 (by decide) ?_
        refine lv_iadd hx hb dL_law_165 ?_
        refine lv_topi (fun z19 ez19 => ?_)
        obtain rfl : z19 = nI (i + 3) := ez19.trans (nI_add i 3)
        refine va_sld hx hb hX hbl hbA hS (vp_in_nI (by omega) (by omega)) dL_law_166 ?_
        rw [nI_clamp (n := (i + 3)) (by omega)]
        refine lv_aload_n hx hb dL_law_167 rfl (lv_at hl 0 rfl) ?_
        refine lv_iload_n hx hb dL_law_168 rfl (lv_at hl 3 rfl) ?_
        refine lv_iconst (v := 4) hx hb dL_law_169 (by decide) ?_
        refine lv_iadd hx hb dL_law_170 ?_
        refine lv_topi (fun z20 ez20 => ?_)
        obtain rfl : z20 = nI (i + 4) := ez20.trans (nI_add i 4)
        refine va_sld hx hb hX hbl hbA hS (vp_in_nI (by omega) (by omega)) dL_law_171 ?_
        rw [nI_clamp (n := (i + 4)) (by omega)]
        refine gLi (X := fun q : Nat => s.heap.size ≤ q) (As := [.int (xs (i + 1)), .int (xs (i + 2)), .int (xs (i + 3)), .int (xs (i + 4))]) (rest := []) ⟨hx, hb, hml, hown, hts⟩ (c_X2_piece l dC dI A u (xs (i + 1)) (xs (i + 2)) (xs (i + 3)) (xs (i + 4))) (cwV 4 hts (gi_V (fun _ h => tg_tbl h) tw_80 tw_81 tw_82 tw_1 tw_83) rfl rfl rfl (by decide +kernel) ⟨Nat.le_of_ble_eq_true rfl, Nat.le_of_ble_eq_true rfl⟩) (va_recv hK1 hP1 (ci := 2) (q0 := 0) rfl rfl) aB_D hP1 hP2 hK1 hD1 hS (lw_in1 hi1 hS) (lw_out1 hap hP2) rfl hl.1 rfl (Nat.le_of_ble_eq_true rfl) dL_law_172 ⟨Nat.le_refl _, Nat.le_refl _⟩ (fun r21 u22 H locs hq23 hP1 hD1 hP2 hz hS => ?_)
        refine lv_aload_n hx hb dL_law_175 rfl (lv_at hl 2 rfl) ?_
        refine lv_aload_n hx hb dL_law_176 rfl (lv_at hl 0 rfl) ?_
        refine lv_iload_n hx hb dL_law_177 rfl (lv_at hl 3 rfl) ?_
        refine lv_iconst (v := 1) hx hb dL_law_178 (by decide) ?_
        refine lv_iadd hx hb dL_law_179 ?_
        refine lv_topi (fun z24 ez24 => ?_)
        obtain rfl : z24 = nI (i + 1) := ez24.trans (nI_add i 1)
        refine va_sld hx hb hX hbl hbA hS (vp_in_nI (by omega) (by omega)) dL_law_180 ?_
        rw [nI_clamp (n := (i + 1)) (by omega)]
        refine lv_aload_n hx hb dL_law_181 rfl (lv_at hl 0 rfl) ?_
        refine lv_iload_n hx hb dL_law_182 rfl (lv_at hl 3 rfl) ?_
        refine lv_iconst (v := 2) hx hb dL_law_183 (by decide) ?_
        refine lv_iadd hx hb dL_law_184 ?_
        refine lv_topi (fun z25 ez25 => ?_)
        obtain rfl : z25 = nI (i + 2) := ez25.trans (nI_add i 2)
        refine va_sld hx hb hX hbl hbA hS (vp_in_nI (by omega) (by omega)) dL_law_185 ?_
        rw [nI_clamp (n := (i + 2)) (by omega)]
        refine lv_aload_n hx hb dL_law_186 rfl (lv_at hl 0 rfl) ?_
        refine lv_iload_n hx hb dL_law_187 rfl (lv_at hl 3 rfl) ?_
        refine lv_iconst (v := 3) hx hb dL_law_188 (by decide) ?_
        refine lv_iadd hx hb dL_law_189 ?_
        refine lv_topi (fun z26 ez26 => ?_)
        obtain rfl : z26 = nI (i + 3) := ez26.trans (nI_add i 3)
        refine va_sld hx hb hX hbl hbA hS (vp_in_nI (by omega) (by omega)) dL_law_190 ?_
        rw [nI_clamp (n := (i + 3)) (by omega)]
        refine lv_aload_n hx hb dL_law_191 rfl (lv_at hl 0 rfl) ?_
        refine lv_iload_n hx hb dL_law_192 rfl (lv_at hl 3 rfl) ?_
        refine lv_iconst (v := 4) hx hb dL_law_193 (by decide) ?_
        refine lv_iadd hx hb dL_law_194 ?_
        refine lv_topi (fun z27 ez27 => ?_)
        obtain rfl : z27 = nI (i + 4) := ez27.trans (nI_add i 4)
        refine va_sld hx hb hX hbl hbA hS (vp_in_nI (by omega) (by omega)) dL_law_195 ?_
        rw [nI_clamp (n := (i + 4)) (by omega)]
        refine gLi (X := fun q : Nat => s.heap.size ≤ q) (As := [.int (xs (i + 1)), .int (xs (i + 2)), .int (xs (i + 3)), .int (xs (i + 4))]) (rest := [.int r21]) ⟨hx, hb, hml, hown, hts⟩ (c_X3_piece l dC dI E v (xs (i + 1)) (xs (i + 2)) (xs (i + 3)) (xs (i + 4))) (cwV 4 hts (gi_V (fun _ h => tg_tbl h) tw_270 tw_271 tw_272 tw_4 tw_273) rfl rfl rfl (by decide +kernel) ⟨Nat.le_of_ble_eq_true rfl, Nat.le_of_ble_eq_true rfl⟩) (va_recv hK2 hP2 (ci := 3) (q0 := 0) rfl rfl) aR_D hP2 hP1 hK2 hD2 hS (lw_in2 hi2 hS) (lw_out2 hap hP1) rfl hl.1 rfl (Nat.le_of_ble_eq_true rfl) dL_law_196 ⟨Nat.le_refl _, Nat.le_refl _⟩ (fun r28 v29 H locs hq30 hP2 hD2 hP1 hz hS => ?_)
        refine lv_icmp_eq (tgt := 759) hx hb dL_law_199 (by decide) (fun c31 => ?_) (fun c31 => ?_)
        · have hR := (st_piece hR hq23 hq30).2
          refine lv_iinc (v := nI (i + 8)) (lv' := [(3, .int (nI (i + 8))), (0, .ref b), (1, .ref (ah_ A)), (2, .ref (mh_ E))]) hx hb dL_law_759 hl (k := 3) rfl (nI_add i 8) (by decide) rfl (fun ls hl => ?_)
          refine lv_goto (tgt := 18) hx hb dL_law_762 (by decide) ?_
          exact ih (i + 8) (by omega) (by omega) u22 v29 _ _ hR hP1 (aB_D hD1) hP2 (aR_D hD2) hS ls (lv_sub hl [1, 2, 3, 0] rfl)
        · exact absurd (st_piece hR hq23 hq30).1 c31
      by_cases c32 : ((xs i) &&& 15) = 2
      · refine lv_tableIn (off := 171) (tgt := 204) hx hb dL_law_33 (by rw [c32]; decide) (by rw [c32]; decide) (by rw [c32]; decide) (by decide) ?_
        refine lv_aload_n hx hb dL_law_204 rfl (lv_at hl 1 rfl) ?_
        refine lv_aload_n hx hb dL_law_205 rfl (lv_at hl 0 rfl) ?_
        refine lv_iload_n hx hb dL_law_206 rfl (lv_at hl 3 rfl) ?_
        refine lv_iconst (v := 1) hx hb dL_law_207 (by decide) ?_
        refine lv_iadd hx hb dL_law_208 ?_
        refine lv_topi (fun z33 ez33 => ?_)
        obtain rfl : z33 = nI (i + 1) := ez33.trans (nI_add i 1)
        refine va_sld hx hb hX hbl hbA hS (vp_in_nI (by omega) (by omega)) dL_law_209 ?_
        rw [nI_clamp (n := (i + 1)) (by omega)]
        refine lv_aload_n hx hb dL_law_210 rfl (lv_at hl 0 rfl) ?_
        refine lv_iload_n hx hb dL_law_211 rfl (lv_at hl 3 rfl) ?_
        refine lv_iconst (v := 2) hx hb dL_law_212 (by decide) ?_
        refine lv_iadd hx hb dL_law_213 ?_
        refine lv_topi (fun z34 ez34 => ?_)
        obtain rfl : z34 = nI (i + 2) := ez34.trans (nI_add i 2)
        refine va_sld hx hb hX hbl hbA hS (vp_in_nI (by omega) (by omega)) dL_law_214 ?_
        rw [nI_clamp (n := (i + 2)) (by omega)]
        refine gLi (X := fun q : Nat => s.heap.size ≤ q) (As := [.int (xs (i + 1)), .int (xs (i + 2))]) (rest := []) ⟨hx, hb, hml, hown, hts⟩ (c_X2_get l dC dI A u (xs (i + 1)) (xs (i + 2))) (cwV 2 hts (gi_V (fun _ h => tg_tbl h) tw_97 tw_98 tw_99 tw_1 tw_100) rfl rfl rfl (by decide +kernel) ⟨Nat.le_of_ble_eq_true rfl, Nat.le_of_ble_eq_true rfl⟩) (va_recv hK1 hP1 (ci := 2) (q0 := 0) rfl rfl) aB_D hP1 hP2 hK1 hD1 hS (lw_in1 hi1 hS) (lw_out1 hap hP2) rfl hl.1 rfl (Nat.le_of_ble_eq_true rfl) dL_law_215 ⟨Nat.le_refl _, Nat.le_refl _⟩ (fun r35 u36 H locs hq37 hP1 hD1 hP2 hz hS => ?_)
        refine lv_aload_n hx hb dL_law_218 rfl (lv_at hl 2 rfl) ?_
        refine lv_aload_n hx hb dL_law_219 rfl (lv_at hl 0 rfl) ?_
        refine lv_iload_n hx hb dL_law_220 rfl (lv_at hl 3 rfl) ?_
        refine lv_iconst (v := 1) hx hb dL_law_221 (by decide) ?_
        refine lv_iadd hx hb dL_law_222 ?_
        refine lv_topi (fun z38 ez38 => ?_)
        obtain rfl : z38 = nI (i + 1) := ez38.trans (nI_add i 1)
        refine va_sld hx hb hX hbl hbA hS (vp_in_nI (by omega) (by omega)) dL_law_223 ?_
        rw [nI_clamp (n := (i + 1)) (by omega)]
        refine lv_aload_n hx hb dL_law_224 rfl (lv_at hl 0 rfl) ?_
        refine lv_iload_n hx hb dL_law_225 rfl (lv_at hl 3 rfl) ?_
        refine lv_iconst (v := 2) hx hb dL_law_226 (by decide) ?_
        refine lv_iadd hx hb dL_law_227 ?_
        refine lv_topi (fun z39 ez39 => ?_)
        obtain rfl : z39 = nI (i + 2) := ez39.trans (nI_add i 2)
        refine va_sld hx hb hX hbl hbA hS (vp_in_nI (by omega) (by omega)) dL_law_228 ?_
        rw [nI_clamp (n := (i + 2)) (by omega)]
        refine gLi (X := fun q : Nat => s.heap.size ≤ q) (As := [.int (xs (i + 1)), .int (xs (i + 2))]) (rest := [.int r35]) ⟨hx, hb, hml, hown, hts⟩ (c_X3_get l dC dI E v (xs (i + 1)) (xs (i + 2))) (cwV 2 hts (gi_V (fun _ h => tg_tbl h) tw_281 tw_282 tw_283 tw_4 tw_284) rfl rfl rfl (by decide +kernel) ⟨Nat.le_of_ble_eq_true rfl, Nat.le_of_ble_eq_true rfl⟩) (va_recv hK2 hP2 (ci := 3) (q0 := 0) rfl rfl) aR_D hP2 hP1 hK2 hD2 hS (lw_in2 hi2 hS) (lw_out2 hap hP1) rfl hl.1 rfl (Nat.le_of_ble_eq_true rfl) dL_law_229 ⟨Nat.le_refl _, Nat.le_refl _⟩ (fun r40 v41 H locs hq42 hP2 hD2 hP1 hz hS => ?_)
        refine lv_icmp_eq (tgt := 759) hx hb dL_law_232 (by decide) (fun c43 => ?_) (fun c43 => ?_)
        · have hR := (st_get hR hq37 hq42).2
          refine lv_iinc (v := nI (i + 8)) (lv' := [(3, .int (nI (i + 8))), (0, .ref b), (1, .ref (ah_ A)), (2, .ref (mh_ E))]) hx hb dL_law_759 hl (k := 3) rfl (nI_add i 8) (by decide) rfl (fun ls hl => ?_)
          refine lv_goto (tgt := 18) hx hb dL_law_762 (by decide) ?_
          exact ih (i + 8) (by omega) (by omega) u36 v41 _ _ hR hP1 (aB_D hD1) hP2 (aR_D hD2) hS ls (lv_sub hl [1, 2, 3, 0] rfl)
        · exact absurd (st_get hR hq37 hq42).1 c43
      by_cases c44 : ((xs i) &&& 15) = 3
      · refine lv_tableIn (off := 204) (tgt := 237) hx hb dL_law_33 (by rw [c44]; decide) (by rw [c44]; decide) (by rw [c44]; decide) (by decide) ?_
        refine lv_aload_n hx hb dL_law_237 rfl (lv_at hl 1 rfl) ?_
        refine lv_aload_n hx hb dL_law_238 rfl (lv_at hl 0 rfl) ?_
        refine lv_iload_n hx hb dL_law_239 rfl (lv_at hl 3 rfl) ?_
        refine lv_iconst (v := 1) hx hb dL_law_240 (by decide) ?_
        refine lv_iadd hx hb dL_law_241 ?_
        refine lv_topi (fun z45 ez45 => ?_)
        obtain rfl : z45 = nI (i + 1) := ez45.trans (nI_add i 1)
        refine va_sld hx hb hX hbl hbA hS (vp_in_nI (by omega) (by omega)) dL_law_242 ?_
        rw [nI_clamp (n := (i + 1)) (by omega)]
        refine lv_aload_n hx hb dL_law_243 rfl (lv_at hl 0 rfl) ?_
        refine lv_iload_n hx hb dL_law_244 rfl (lv_at hl 3 rfl) ?_
        refine lv_iconst (v := 2) hx hb dL_law_245 (by decide) ?_
        refine lv_iadd hx hb dL_law_246 ?_
        refine lv_topi (fun z46 ez46 => ?_)
        obtain rfl : z46 = nI (i + 2) := ez46.trans (nI_add i 2)
        refine va_sld hx hb hX hbl hbA hS (vp_in_nI (by omega) (by omega)) dL_law_247 ?_
        rw [nI_clamp (n := (i + 2)) (by omega)]
        refine lv_aload_n hx hb dL_law_248 rfl (lv_at hl 0 rfl) ?_
        refine lv_iload_n hx hb dL_law_249 rfl (lv_at hl 3 rfl) ?_
        refine lv_iconst (v := 3) hx hb dL_law_250 (by decide) ?_
        refine lv_iadd hx hb dL_law_251 ?_
        refine lv_topi (fun z47 ez47 => ?_)
        obtain rfl : z47 = nI (i + 3) := ez47.trans (nI_add i 3)
        refine va_sld hx hb hX hbl hbA hS (vp_in_nI (by omega) (by omega)) dL_law_252 ?_
        rw [nI_clamp (n := (i + 3)) (by omega)]
        refine gLi (X := fun q : Nat => s.heap.size ≤ q) (As := [.int (xs (i + 1)), .int (xs (i + 2)), .int (xs (i + 3))]) (rest := []) ⟨hx, hb, hml, hown, hts⟩ (c_X2_next l dC dI A u (xs (i + 1)) (xs (i + 2)) (xs (i + 3))) (cwV 3 hts (gi_V (fun _ h => tg_tbl h) tw_101 tw_102 tw_103 tw_1 tw_104) rfl rfl rfl (by decide +kernel) ⟨Nat.le_of_ble_eq_true rfl, Nat.le_of_ble_eq_true rfl⟩) (va_recv hK1 hP1 (ci := 2) (q0 := 0) rfl rfl) aB_D hP1 hP2 hK1 hD1 hS (lw_in1 hi1 hS) (lw_out1 hap hP2) rfl hl.1 rfl (Nat.le_of_ble_eq_true rfl) dL_law_253 ⟨Nat.le_refl _, Nat.le_refl _⟩ (fun r48 u49 H locs hq50 hP1 hD1 hP2 hz hS => ?_)
        refine lv_aload_n hx hb dL_law_256 rfl (lv_at hl 2 rfl) ?_
        refine lv_aload_n hx hb dL_law_257 rfl (lv_at hl 0 rfl) ?_
        refine lv_iload_n hx hb dL_law_258 rfl (lv_at hl 3 rfl) ?_
        refine lv_iconst (v := 1) hx hb dL_law_259 (by decide) ?_
        refine lv_iadd hx hb dL_law_260 ?_
        refine lv_topi (fun z51 ez51 => ?_)
        obtain rfl : z51 = nI (i + 1) := ez51.trans (nI_add i 1)
        refine va_sld hx hb hX hbl hbA hS (vp_in_nI (by omega) (by omega)) dL_law_261 ?_
        rw [nI_clamp (n := (i + 1)) (by omega)]
        refine lv_aload_n hx hb dL_law_262 rfl (lv_at hl 0 rfl) ?_
        refine lv_iload_n hx hb dL_law_263 rfl (lv_at hl 3 rfl) ?_
        refine lv_iconst (v := 2) hx hb dL_law_264 (by decide) ?_
        refine lv_iadd hx hb dL_law_265 ?_
        refine lv_topi (fun z52 ez52 => ?_)
        obtain rfl : z52 = nI (i + 2) := ez52.trans (nI_add i 2)
        refine va_sld hx hb hX hbl hbA hS (vp_in_nI (by omega) (by omega)) dL_law_266 ?_
        rw [nI_clamp (n := (i + 2)) (by omega)]
        refine lv_aload_n hx hb dL_law_267 rfl (lv_at hl 0 rfl) ?_
        refine lv_iload_n hx hb dL_law_268 rfl (lv_at hl 3 rfl) ?_
        refine lv_iconst (v := 3) hx hb dL_law_269 (by decide) ?_
        refine lv_iadd hx hb dL_law_270 ?_
        refine lv_topi (fun z53 ez53 => ?_)
        obtain rfl : z53 = nI (i + 3) := ez53.trans (nI_add i 3)
        refine va_sld hx hb hX hbl hbA hS (vp_in_nI (by omega) (by omega)) dL_law_271 ?_
        rw [nI_clamp (n := (i + 3)) (by omega)]
        refine gLi (X := fun q : Nat => s.heap.size ≤ q) (As := [.int (xs (i + 1)), .int (xs (i + 2)), .int (xs (i + 3))]) (rest := [.int r48]) ⟨hx, hb, hml, hown, hts⟩ (c_X3_next l dC dI E v (xs (i + 1)) (xs (i + 2)) (xs (i + 3))) (cwV 3 hts (gi_V (fun _ h => tg_tbl h) tw_285 tw_286 tw_287 tw_4 tw_288) rfl rfl rfl (by decide +kernel) ⟨Nat.le_of_ble_eq_true rfl, Nat.le_of_ble_eq_true rfl⟩) (va_recv hK2 hP2 (ci := 3) (q0 := 0) rfl rfl) aR_D hP2 hP1 hK2 hD2 hS (lw_in2 hi2 hS) (lw_out2 hap hP1) rfl hl.1 rfl (Nat.le_of_ble_eq_true rfl) dL_law_272 ⟨Nat.le_refl _, Nat.le_refl _⟩ (fun r54 v55 H locs hq56 hP2 hD2 hP1 hz hS => ?_)
        refine lv_icmp_eq (tgt := 759) hx hb dL_law_275 (by decide) (fun c57 => ?_) (fun c57 => ?_)
        · have hR := (st_next hR hq50 hq56).2
          refine lv_iinc (v := nI (i + 8)) (lv' := [(3, .int (nI (i + 8))), (0, .ref b), (1, .ref (ah_ A)), (2, .ref (mh_ E))]) hx hb dL_law_759 hl (k := 3) rfl (nI_add i 8) (by decide) rfl (fun ls hl => ?_)
          refine lv_goto (tgt := 18) hx hb dL_law_762 (by decide) ?_
          exact ih (i + 8) (by omega) (by omega) u49 v55 _ _ hR hP1 (aB_D hD1) hP2 (aR_D hD2) hS ls (lv_sub hl [1, 2, 3, 0] rfl)
        · exact absurd (st_next hR hq50 hq56).1 c57
      by_cases c58 : ((xs i) &&& 15) = 4
      · refine lv_tableIn (off := 247) (tgt := 280) hx hb dL_law_33 (by rw [c58]; decide) (by rw [c58]; decide) (by rw [c58]; decide) (by decide) ?_
        refine lv_aload_n hx hb dL_law_280 rfl (lv_at hl 1 rfl) ?_
        refine lv_aload_n hx hb dL_law_281 rfl (lv_at hl 0 rfl) ?_
        refine lv_iload_n hx hb dL_law_282 rfl (lv_at hl 3 rfl) ?_
        refine lv_iconst (v := 1) hx hb dL_law_283 (by decide) ?_
        refine lv_iadd hx hb dL_law_284 ?_
        refine lv_topi (fun z59 ez59 => ?_)
        obtain rfl : z59 = nI (i + 1) := ez59.trans (nI_add i 1)
        refine va_sld hx hb hX hbl hbA hS (vp_in_nI (by omega) (by omega)) dL_law_285 ?_
        rw [nI_clamp (n := (i + 1)) (by omega)]
        refine lv_aload_n hx hb dL_law_286 rfl (lv_at hl 0 rfl) ?_
        refine lv_iload_n hx hb dL_law_287 rfl (lv_at hl 3 rfl) ?_
        refine lv_iconst (v := 2) hx hb dL_law_288 (by decide) ?_
        refine lv_iadd hx hb dL_law_289 ?_
        refine lv_topi (fun z60 ez60 => ?_)
        obtain rfl : z60 = nI (i + 2) := ez60.trans (nI_add i 2)
        refine va_sld hx hb hX hbl hbA hS (vp_in_nI (by omega) (by omega)) dL_law_290 ?_
        rw [nI_clamp (n := (i + 2)) (by omega)]
        refine lv_aload_n hx hb dL_law_291 rfl (lv_at hl 0 rfl) ?_
        refine lv_iload_n hx hb dL_law_292 rfl (lv_at hl 3 rfl) ?_
        refine lv_iconst (v := 3) hx hb dL_law_293 (by decide) ?_
        refine lv_iadd hx hb dL_law_294 ?_
        refine lv_topi (fun z61 ez61 => ?_)
        obtain rfl : z61 = nI (i + 3) := ez61.trans (nI_add i 3)
        refine va_sld hx hb hX hbl hbA hS (vp_in_nI (by omega) (by omega)) dL_law_295 ?_
        rw [nI_clamp (n := (i + 3)) (by omega)]
        refine gLi (X := fun q : Nat => s.heap.size ≤ q) (As := [.int (xs (i + 1)), .int (xs (i + 2)), .int (xs (i + 3))]) (rest := []) ⟨hx, hb, hml, hown, hts⟩ (c_X2_join l dC dI A u (xs (i + 1)) (xs (i + 2)) (xs (i + 3))) (cwV 3 hts (gi_V (fun _ h => tg_tbl h) tw_127 tw_128 tw_129 tw_1 tw_130) rfl rfl rfl (by decide +kernel) ⟨Nat.le_of_ble_eq_true rfl, Nat.le_of_ble_eq_true rfl⟩) (va_recv hK1 hP1 (ci := 2) (q0 := 0) rfl rfl) aB_D hP1 hP2 hK1 hD1 hS (lw_in1 hi1 hS) (lw_out1 hap hP2) rfl hl.1 rfl (Nat.le_of_ble_eq_true rfl) dL_law_296 ⟨Nat.le_refl _, Nat.le_refl _⟩ (fun r62 u63 H locs hq64 hP1 hD1 hP2 hz hS => ?_)
        refine lv_aload_n hx hb dL_law_299 rfl (lv_at hl 2 rfl) ?_
        refine lv_aload_n hx hb dL_law_300 rfl (lv_at hl 0 rfl) ?_
        refine lv_iload_n hx hb dL_law_301 rfl (lv_at hl 3 rfl) ?_
        refine lv_iconst (v := 1) hx hb dL_law_302 (by decide) ?_
        refine lv_iadd hx hb dL_law_303 ?_
        refine lv_topi (fun z65 ez65 => ?_)
        obtain rfl : z65 = nI (i + 1) := ez65.trans (nI_add i 1)
        refine va_sld hx hb hX hbl hbA hS (vp_in_nI (by omega) (by omega)) dL_law_304 ?_
        rw [nI_clamp (n := (i + 1)) (by omega)]
        refine lv_aload_n hx hb dL_law_305 rfl (lv_at hl 0 rfl) ?_
        refine lv_iload_n hx hb dL_law_306 rfl (lv_at hl 3 rfl) ?_
        refine lv_iconst (v := 2) hx hb dL_law_307 (by decide) ?_
        refine lv_iadd hx hb dL_law_308 ?_
        refine lv_topi (fun z66 ez66 => ?_)
        obtain rfl : z66 = nI (i + 2) := ez66.trans (nI_add i 2)
        refine va_sld hx hb hX hbl hbA hS (vp_in_nI (by omega) (by omega)) dL_law_309 ?_
        rw [nI_clamp (n := (i + 2)) (by omega)]
        refine lv_aload_n hx hb dL_law_310 rfl (lv_at hl 0 rfl) ?_
        refine lv_iload_n hx hb dL_law_311 rfl (lv_at hl 3 rfl) ?_
        refine lv_iconst (v := 3) hx hb dL_law_312 (by decide) ?_
        refine lv_iadd hx hb dL_law_313 ?_
        refine lv_topi (fun z67 ez67 => ?_)
        obtain rfl : z67 = nI (i + 3) := ez67.trans (nI_add i 3)
        refine va_sld hx hb hX hbl hbA hS (vp_in_nI (by omega) (by omega)) dL_law_314 ?_
        rw [nI_clamp (n := (i + 3)) (by omega)]
        refine gLi (X := fun q : Nat => s.heap.size ≤ q) (As := [.int (xs (i + 1)), .int (xs (i + 2)), .int (xs (i + 3))]) (rest := [.int r62]) ⟨hx, hb, hml, hown, hts⟩ (c_X3_join l dC dI E v (xs (i + 1)) (xs (i + 2)) (xs (i + 3))) (cwV 3 hts (gi_V (fun _ h => tg_tbl h) tw_289 tw_290 tw_291 tw_4 tw_292) rfl rfl rfl (by decide +kernel) ⟨Nat.le_of_ble_eq_true rfl, Nat.le_of_ble_eq_true rfl⟩) (va_recv hK2 hP2 (ci := 3) (q0 := 0) rfl rfl) aR_D hP2 hP1 hK2 hD2 hS (lw_in2 hi2 hS) (lw_out2 hap hP1) rfl hl.1 rfl (Nat.le_of_ble_eq_true rfl) dL_law_315 ⟨Nat.le_refl _, Nat.le_refl _⟩ (fun r68 v69 H locs hq70 hP2 hD2 hP1 hz hS => ?_)
        refine lv_icmp_eq (tgt := 759) hx hb dL_law_318 (by decide) (fun c71 => ?_) (fun c71 => ?_)
        · have hR := (st_join hR hq64 hq70).2
          refine lv_iinc (v := nI (i + 8)) (lv' := [(3, .int (nI (i + 8))), (0, .ref b), (1, .ref (ah_ A)), (2, .ref (mh_ E))]) hx hb dL_law_759 hl (k := 3) rfl (nI_add i 8) (by decide) rfl (fun ls hl => ?_)
          refine lv_goto (tgt := 18) hx hb dL_law_762 (by decide) ?_
          exact ih (i + 8) (by omega) (by omega) u63 v69 _ _ hR hP1 (aB_D hD1) hP2 (aR_D hD2) hS ls (lv_sub hl [1, 2, 3, 0] rfl)
        · exact absurd (st_join hR hq64 hq70).1 c71
      by_cases c72 : ((xs i) &&& 15) = 5
      · refine lv_tableIn (off := 290) (tgt := 323) hx hb dL_law_33 (by rw [c72]; decide) (by rw [c72]; decide) (by rw [c72]; decide) (by decide) ?_
        refine lv_aload_n hx hb dL_law_323 rfl (lv_at hl 1 rfl) ?_
        refine lv_aload_n hx hb dL_law_324 rfl (lv_at hl 0 rfl) ?_
        refine lv_iload_n hx hb dL_law_325 rfl (lv_at hl 3 rfl) ?_
        refine lv_iconst (v := 1) hx hb dL_law_326 (by decide) ?_
        refine lv_iadd hx hb dL_law_327 ?_
        refine lv_topi (fun z73 ez73 => ?_)
        obtain rfl : z73 = nI (i + 1) := ez73.trans (nI_add i 1)
        refine va_sld hx hb hX hbl hbA hS (vp_in_nI (by omega) (by omega)) dL_law_328 ?_
        rw [nI_clamp (n := (i + 1)) (by omega)]
        refine lv_aload_n hx hb dL_law_329 rfl (lv_at hl 0 rfl) ?_
        refine lv_iload_n hx hb dL_law_330 rfl (lv_at hl 3 rfl) ?_
        refine lv_iconst (v := 2) hx hb dL_law_331 (by decide) ?_
        refine lv_iadd hx hb dL_law_332 ?_
        refine lv_topi (fun z74 ez74 => ?_)
        obtain rfl : z74 = nI (i + 2) := ez74.trans (nI_add i 2)
        refine va_sld hx hb hX hbl hbA hS (vp_in_nI (by omega) (by omega)) dL_law_333 ?_
        rw [nI_clamp (n := (i + 2)) (by omega)]
        refine lv_aload_n hx hb dL_law_334 rfl (lv_at hl 0 rfl) ?_
        refine lv_iload_n hx hb dL_law_335 rfl (lv_at hl 3 rfl) ?_
        refine lv_iconst (v := 3) hx hb dL_law_336 (by decide) ?_
        refine lv_iadd hx hb dL_law_337 ?_
        refine lv_topi (fun z75 ez75 => ?_)
        obtain rfl : z75 = nI (i + 3) := ez75.trans (nI_add i 3)
        refine va_sld hx hb hX hbl hbA hS (vp_in_nI (by omega) (by omega)) dL_law_338 ?_
        rw [nI_clamp (n := (i + 3)) (by omega)]
        refine lv_aload_n hx hb dL_law_339 rfl (lv_at hl 0 rfl) ?_
        refine lv_iload_n hx hb dL_law_340 rfl (lv_at hl 3 rfl) ?_
        refine lv_iconst (v := 4) hx hb dL_law_341 (by decide) ?_
        refine lv_iadd hx hb dL_law_342 ?_
        refine lv_topi (fun z76 ez76 => ?_)
        obtain rfl : z76 = nI (i + 4) := ez76.trans (nI_add i 4)
        refine va_sld hx hb hX hbl hbA hS (vp_in_nI (by omega) (by omega)) dL_law_343 ?_
        rw [nI_clamp (n := (i + 4)) (by omega)]
        refine gLi (X := fun q : Nat => s.heap.size ≤ q) (As := [.int (xs (i + 1)), .int (xs (i + 2)), .int (xs (i + 3)), .int (xs (i + 4))]) (rest := []) ⟨hx, hb, hml, hown, hts⟩ (c_X2_cut l dC dI A u (xs (i + 1)) (xs (i + 2)) (xs (i + 3)) (xs (i + 4))) (cwV 4 hts (gi_V (fun _ h => tg_tbl h) tw_138 tw_139 tw_140 tw_1 tw_141) rfl rfl rfl (by decide +kernel) ⟨Nat.le_of_ble_eq_true rfl, Nat.le_of_ble_eq_true rfl⟩) (va_recv hK1 hP1 (ci := 2) (q0 := 0) rfl rfl) aB_D hP1 hP2 hK1 hD1 hS (lw_in1 hi1 hS) (lw_out1 hap hP2) rfl hl.1 rfl (Nat.le_of_ble_eq_true rfl) dL_law_344 ⟨Nat.le_refl _, Nat.le_refl _⟩ (fun r77 u78 H locs hq79 hP1 hD1 hP2 hz hS => ?_)
        refine lv_aload_n hx hb dL_law_347 rfl (lv_at hl 2 rfl) ?_
        refine lv_aload_n hx hb dL_law_348 rfl (lv_at hl 0 rfl) ?_
        refine lv_iload_n hx hb dL_law_349 rfl (lv_at hl 3 rfl) ?_
        refine lv_iconst (v := 1) hx hb dL_law_350 (by decide) ?_
        refine lv_iadd hx hb dL_law_351 ?_
        refine lv_topi (fun z80 ez80 => ?_)
        obtain rfl : z80 = nI (i + 1) := ez80.trans (nI_add i 1)
        refine va_sld hx hb hX hbl hbA hS (vp_in_nI (by omega) (by omega)) dL_law_352 ?_
        rw [nI_clamp (n := (i + 1)) (by omega)]
        refine lv_aload_n hx hb dL_law_353 rfl (lv_at hl 0 rfl) ?_
        refine lv_iload_n hx hb dL_law_354 rfl (lv_at hl 3 rfl) ?_
        refine lv_iconst (v := 2) hx hb dL_law_355 (by decide) ?_
        refine lv_iadd hx hb dL_law_356 ?_
        refine lv_topi (fun z81 ez81 => ?_)
        obtain rfl : z81 = nI (i + 2) := ez81.trans (nI_add i 2)
        refine va_sld hx hb hX hbl hbA hS (vp_in_nI (by omega) (by omega)) dL_law_357 ?_
        rw [nI_clamp (n := (i + 2)) (by omega)]
        refine lv_aload_n hx hb dL_law_358 rfl (lv_at hl 0 rfl) ?_
        refine lv_iload_n hx hb dL_law_359 rfl (lv_at hl 3 rfl) ?_
        refine lv_iconst (v := 3) hx hb dL_law_360 (by decide) ?_
        refine lv_iadd hx hb dL_law_361 ?_
        refine lv_topi (fun z82 ez82 => ?_)
        obtain rfl : z82 = nI (i + 3) := ez82.trans (nI_add i 3)
        refine va_sld hx hb hX hbl hbA hS (vp_in_nI (by omega) (by omega)) dL_law_362 ?_
        rw [nI_clamp (n := (i + 3)) (by omega)]
        refine lv_aload_n hx hb dL_law_363 rfl (lv_at hl 0 rfl) ?_
        refine lv_iload_n hx hb dL_law_364 rfl (lv_at hl 3 rfl) ?_
        refine lv_iconst (v := 4) hx hb dL_law_365 (by decide) ?_
        refine lv_iadd hx hb dL_law_366 ?_
        refine lv_topi (fun z83 ez83 => ?_)
        obtain rfl : z83 = nI (i + 4) := ez83.trans (nI_add i 4)
        refine va_sld hx hb hX hbl hbA hS (vp_in_nI (by omega) (by omega)) dL_law_367 ?_
        rw [nI_clamp (n := (i + 4)) (by omega)]
        refine gLi (X := fun q : Nat => s.heap.size ≤ q) (As := [.int (xs (i + 1)), .int (xs (i + 2)), .int (xs (i + 3)), .int (xs (i + 4))]) (rest := [.int r77]) ⟨hx, hb, hml, hown, hts⟩ (c_X3_cut l dC dI E v (xs (i + 1)) (xs (i + 2)) (xs (i + 3)) (xs (i + 4))) (cwV 4 hts (gi_V (fun _ h => tg_tbl h) tw_293 tw_294 tw_295 tw_4 tw_296) rfl rfl rfl (by decide +kernel) ⟨Nat.le_of_ble_eq_true rfl, Nat.le_of_ble_eq_true rfl⟩) (va_recv hK2 hP2 (ci := 3) (q0 := 0) rfl rfl) aR_D hP2 hP1 hK2 hD2 hS (lw_in2 hi2 hS) (lw_out2 hap hP1) rfl hl.1 rfl (Nat.le_of_ble_eq_true rfl) dL_law_368 ⟨Nat.le_refl _, Nat.le_refl _⟩ (fun r84 v85 H locs hq86 hP2 hD2 hP1 hz hS => ?_)
        refine lv_icmp_eq (tgt := 759) hx hb dL_law_371 (by decide) (fun c87 => ?_) (fun c87 => ?_)
        · have hR := (st_cut hR hq79 hq86).2
          refine lv_iinc (v := nI (i + 8)) (lv' := [(3, .int (nI (i + 8))), (0, .ref b), (1, .ref (ah_ A)), (2, .ref (mh_ E))]) hx hb dL_law_759 hl (k := 3) rfl (nI_add i 8) (by decide) rfl (fun ls hl => ?_)
          refine lv_goto (tgt := 18) hx hb dL_law_762 (by decide) ?_
          exact ih (i + 8) (by omega) (by omega) u78 v85 _ _ hR hP1 (aB_D hD1) hP2 (aR_D hD2) hS ls (lv_sub hl [1, 2, 3, 0] rfl)
        · exact absurd (st_cut hR hq79 hq86).1 c87
      by_cases c88 : ((xs i) &&& 15) = 6
      · refine lv_tableIn (off := 343) (tgt := 376) hx hb dL_law_33 (by rw [c88]; decide) (by rw [c88]; decide) (by rw [c88]; decide) (by decide) ?_
        refine lv_aload_n hx hb dL_law_376 rfl (lv_at hl 1 rfl) ?_
        refine lv_aload_n hx hb dL_law_377 rfl (lv_at hl 0 rfl) ?_
        refine lv_iload_n hx hb dL_law_378 rfl (lv_at hl 3 rfl) ?_
        refine lv_iconst (v := 1) hx hb dL_law_379 (by decide) ?_
        refine lv_iadd hx hb dL_law_380 ?_
        refine lv_topi (fun z89 ez89 => ?_)
        obtain rfl : z89 = nI (i + 1) := ez89.trans (nI_add i 1)
        refine va_sld hx hb hX hbl hbA hS (vp_in_nI (by omega) (by omega)) dL_law_381 ?_
        rw [nI_clamp (n := (i + 1)) (by omega)]
        refine lv_aload_n hx hb dL_law_382 rfl (lv_at hl 0 rfl) ?_
        refine lv_iload_n hx hb dL_law_383 rfl (lv_at hl 3 rfl) ?_
        refine lv_iconst (v := 2) hx hb dL_law_384 (by decide) ?_
        refine lv_iadd hx hb dL_law_385 ?_
        refine lv_topi (fun z90 ez90 => ?_)
        obtain rfl : z90 = nI (i + 2) := ez90.trans (nI_add i 2)
        refine va_sld hx hb hX hbl hbA hS (vp_in_nI (by omega) (by omega)) dL_law_386 ?_
        rw [nI_clamp (n := (i + 2)) (by omega)]
        refine gLi (X := fun q : Nat => s.heap.size ≤ q) (As := [.int (xs (i + 1)), .int (xs (i + 2))]) (rest := []) ⟨hx, hb, hml, hown, hts⟩ (c_X2_copy l dC dI A u (xs (i + 1)) (xs (i + 2))) (cwV 2 hts (gi_V (fun _ h => tg_tbl h) tw_150 tw_151 tw_152 tw_1 tw_153) rfl rfl rfl (by decide +kernel) ⟨Nat.le_of_ble_eq_true rfl, Nat.le_of_ble_eq_true rfl⟩) (va_recv hK1 hP1 (ci := 2) (q0 := 0) rfl rfl) aB_D hP1 hP2 hK1 hD1 hS (lw_in1 hi1 hS) (lw_out1 hap hP2) rfl hl.1 rfl (Nat.le_of_ble_eq_true rfl) dL_law_387 ⟨Nat.le_refl _, Nat.le_refl _⟩ (fun r91 u92 H locs hq93 hP1 hD1 hP2 hz hS => ?_)
        refine lv_aload_n hx hb dL_law_390 rfl (lv_at hl 2 rfl) ?_
        refine lv_aload_n hx hb dL_law_391 rfl (lv_at hl 0 rfl) ?_
        refine lv_iload_n hx hb dL_law_392 rfl (lv_at hl 3 rfl) ?_
        refine lv_iconst (v := 1) hx hb dL_law_393 (by decide) ?_
        refine lv_iadd hx hb dL_law_394 ?_
        refine lv_topi (fun z94 ez94 => ?_)
        obtain rfl : z94 = nI (i + 1) := ez94.trans (nI_add i 1)
        refine va_sld hx hb hX hbl hbA hS (vp_in_nI (by omega) (by omega)) dL_law_395 ?_
        rw [nI_clamp (n := (i + 1)) (by omega)]
        refine lv_aload_n hx hb dL_law_396 rfl (lv_at hl 0 rfl) ?_
        refine lv_iload_n hx hb dL_law_397 rfl (lv_at hl 3 rfl) ?_
        refine lv_iconst (v := 2) hx hb dL_law_398 (by decide) ?_
        refine lv_iadd hx hb dL_law_399 ?_
        refine lv_topi (fun z95 ez95 => ?_)
        obtain rfl : z95 = nI (i + 2) := ez95.trans (nI_add i 2)
        refine va_sld hx hb hX hbl hbA hS (vp_in_nI (by omega) (by omega)) dL_law_400 ?_
        rw [nI_clamp (n := (i + 2)) (by omega)]
        refine gLi (X := fun q : Nat => s.heap.size ≤ q) (As := [.int (xs (i + 1)), .int (xs (i + 2))]) (rest := [.int r91]) ⟨hx, hb, hml, hown, hts⟩ (c_X3_copy l dC dI E v (xs (i + 1)) (xs (i + 2))) (cwV 2 hts (gi_V (fun _ h => tg_tbl h) tw_297 tw_298 tw_299 tw_4 tw_300) rfl rfl rfl (by decide +kernel) ⟨Nat.le_of_ble_eq_true rfl, Nat.le_of_ble_eq_true rfl⟩) (va_recv hK2 hP2 (ci := 3) (q0 := 0) rfl rfl) aR_D hP2 hP1 hK2 hD2 hS (lw_in2 hi2 hS) (lw_out2 hap hP1) rfl hl.1 rfl (Nat.le_of_ble_eq_true rfl) dL_law_401 ⟨Nat.le_refl _, Nat.le_refl _⟩ (fun r96 v97 H locs hq98 hP2 hD2 hP1 hz hS => ?_)
        refine lv_icmp_eq (tgt := 759) hx hb dL_law_404 (by decide) (fun c99 => ?_) (fun c99 => ?_)
        · have hR := (st_copy hR hq93 hq98).2
          refine lv_iinc (v := nI (i + 8)) (lv' := [(3, .int (nI (i + 8))), (0, .ref b), (1, .ref (ah_ A)), (2, .ref (mh_ E))]) hx hb dL_law_759 hl (k := 3) rfl (nI_add i 8) (by decide) rfl (fun ls hl => ?_)
          refine lv_goto (tgt := 18) hx hb dL_law_762 (by decide) ?_
          exact ih (i + 8) (by omega) (by omega) u92 v97 _ _ hR hP1 (aB_D hD1) hP2 (aR_D hD2) hS ls (lv_sub hl [1, 2, 3, 0] rfl)
        · exact absurd (st_copy hR hq93 hq98).1 c99
      by_cases c100 : ((xs i) &&& 15) = 7
      · refine lv_tableIn (off := 376) (tgt := 409) hx hb dL_law_33 (by rw [c100]; decide) (by rw [c100]; decide) (by rw [c100]; decide) (by decide) ?_
        refine lv_aload_n hx hb dL_law_409 rfl (lv_at hl 1 rfl) ?_
        refine lv_aload_n hx hb dL_law_410 rfl (lv_at hl 0 rfl) ?_
        refine lv_iload_n hx hb dL_law_411 rfl (lv_at hl 3 rfl) ?_
        refine lv_iconst (v := 1) hx hb dL_law_412 (by decide) ?_
        refine lv_iadd hx hb dL_law_413 ?_
        refine lv_topi (fun z101 ez101 => ?_)
        obtain rfl : z101 = nI (i + 1) := ez101.trans (nI_add i 1)
        refine va_sld hx hb hX hbl hbA hS (vp_in_nI (by omega) (by omega)) dL_law_414 ?_
        rw [nI_clamp (n := (i + 1)) (by omega)]
        refine lv_aload_n hx hb dL_law_415 rfl (lv_at hl 0 rfl) ?_
        refine lv_iload_n hx hb dL_law_416 rfl (lv_at hl 3 rfl) ?_
        refine lv_iconst (v := 2) hx hb dL_law_417 (by decide) ?_
        refine lv_iadd hx hb dL_law_418 ?_
        refine lv_topi (fun z102 ez102 => ?_)
        obtain rfl : z102 = nI (i + 2) := ez102.trans (nI_add i 2)
        refine va_sld hx hb hX hbl hbA hS (vp_in_nI (by omega) (by omega)) dL_law_419 ?_
        rw [nI_clamp (n := (i + 2)) (by omega)]
        refine gLi (X := fun q : Nat => s.heap.size ≤ q) (As := [.int (xs (i + 1)), .int (xs (i + 2))]) (rest := []) ⟨hx, hb, hml, hown, hts⟩ (c_X2_look l dC dI A u (xs (i + 1)) (xs (i + 2))) (cwV 2 hts (gi_V (fun _ h => tg_tbl h) tw_154 tw_155 tw_156 tw_1 tw_157) rfl rfl rfl (by decide +kernel) ⟨Nat.le_of_ble_eq_true rfl, Nat.le_of_ble_eq_true rfl⟩) (va_recv hK1 hP1 (ci := 2) (q0 := 0) rfl rfl) aB_D hP1 hP2 hK1 hD1 hS (lw_in1 hi1 hS) (lw_out1 hap hP2) rfl hl.1 rfl (Nat.le_of_ble_eq_true rfl) dL_law_420 ⟨Nat.le_refl _, Nat.le_refl _⟩ (fun r103 u104 H locs hq105 hP1 hD1 hP2 hz hS => ?_)
        refine lv_aload_n hx hb dL_law_423 rfl (lv_at hl 2 rfl) ?_
        refine lv_aload_n hx hb dL_law_424 rfl (lv_at hl 0 rfl) ?_
        refine lv_iload_n hx hb dL_law_425 rfl (lv_at hl 3 rfl) ?_
        refine lv_iconst (v := 1) hx hb dL_law_426 (by decide) ?_
        refine lv_iadd hx hb dL_law_427 ?_
        refine lv_topi (fun z106 ez106 => ?_)
        obtain rfl : z106 = nI (i + 1) := ez106.trans (nI_add i 1)
        refine va_sld hx hb hX hbl hbA hS (vp_in_nI (by omega) (by omega)) dL_law_428 ?_
        rw [nI_clamp (n := (i + 1)) (by omega)]
        refine lv_aload_n hx hb dL_law_429 rfl (lv_at hl 0 rfl) ?_
        refine lv_iload_n hx hb dL_law_430 rfl (lv_at hl 3 rfl) ?_
        refine lv_iconst (v := 2) hx hb dL_law_431 (by decide) ?_
        refine lv_iadd hx hb dL_law_432 ?_
        refine lv_topi (fun z107 ez107 => ?_)
        obtain rfl : z107 = nI (i + 2) := ez107.trans (nI_add i 2)
        refine va_sld hx hb hX hbl hbA hS (vp_in_nI (by omega) (by omega)) dL_law_433 ?_
        rw [nI_clamp (n := (i + 2)) (by omega)]
        refine gLi (X := fun q : Nat => s.heap.size ≤ q) (As := [.int (xs (i + 1)), .int (xs (i + 2))]) (rest := [.int r103]) ⟨hx, hb, hml, hown, hts⟩ (c_X3_look l dC dI E v (xs (i + 1)) (xs (i + 2))) (cwV 2 hts (gi_V (fun _ h => tg_tbl h) tw_301 tw_302 tw_303 tw_4 tw_304) rfl rfl rfl (by decide +kernel) ⟨Nat.le_of_ble_eq_true rfl, Nat.le_of_ble_eq_true rfl⟩) (va_recv hK2 hP2 (ci := 3) (q0 := 0) rfl rfl) aR_D hP2 hP1 hK2 hD2 hS (lw_in2 hi2 hS) (lw_out2 hap hP1) rfl hl.1 rfl (Nat.le_of_ble_eq_true rfl) dL_law_434 ⟨Nat.le_refl _, Nat.le_refl _⟩ (fun r108 v109 H locs hq110 hP2 hD2 hP1 hz hS => ?_)
        refine lv_icmp_eq (tgt := 759) hx hb dL_law_437 (by decide) (fun c111 => ?_) (fun c111 => ?_)
        · have hR := (st_look hR hq105 hq110).2
          refine lv_iinc (v := nI (i + 8)) (lv' := [(3, .int (nI (i + 8))), (0, .ref b), (1, .ref (ah_ A)), (2, .ref (mh_ E))]) hx hb dL_law_759 hl (k := 3) rfl (nI_add i 8) (by decide) rfl (fun ls hl => ?_)
          refine lv_goto (tgt := 18) hx hb dL_law_762 (by decide) ?_
          exact ih (i + 8) (by omega) (by omega) u104 v109 _ _ hR hP1 (aB_D hD1) hP2 (aR_D hD2) hS ls (lv_sub hl [1, 2, 3, 0] rfl)
        · exact absurd (st_look hR hq105 hq110).1 c111
      by_cases c112 : ((xs i) &&& 15) = 8
      · refine lv_tableIn (off := 409) (tgt := 442) hx hb dL_law_33 (by rw [c112]; decide) (by rw [c112]; decide) (by rw [c112]; decide) (by decide) ?_
        refine lv_aload_n hx hb dL_law_442 rfl (lv_at hl 1 rfl) ?_
        refine lv_aload_n hx hb dL_law_443 rfl (lv_at hl 0 rfl) ?_
        refine lv_iload_n hx hb dL_law_444 rfl (lv_at hl 3 rfl) ?_
        refine lv_iconst (v := 1) hx hb dL_law_445 (by decide) ?_
        refine lv_iadd hx hb dL_law_446 ?_
        refine lv_topi (fun z113 ez113 => ?_)
        obtain rfl : z113 = nI (i + 1) := ez113.trans (nI_add i 1)
        refine va_sld hx hb hX hbl hbA hS (vp_in_nI (by omega) (by omega)) dL_law_447 ?_
        rw [nI_clamp (n := (i + 1)) (by omega)]
        refine lv_aload_n hx hb dL_law_448 rfl (lv_at hl 0 rfl) ?_
        refine lv_iload_n hx hb dL_law_449 rfl (lv_at hl 3 rfl) ?_
        refine lv_iconst (v := 2) hx hb dL_law_450 (by decide) ?_
        refine lv_iadd hx hb dL_law_451 ?_
        refine lv_topi (fun z114 ez114 => ?_)
        obtain rfl : z114 = nI (i + 2) := ez114.trans (nI_add i 2)
        refine va_sld hx hb hX hbl hbA hS (vp_in_nI (by omega) (by omega)) dL_law_452 ?_
        rw [nI_clamp (n := (i + 2)) (by omega)]
        refine lv_aload_n hx hb dL_law_453 rfl (lv_at hl 0 rfl) ?_
        refine lv_iload_n hx hb dL_law_454 rfl (lv_at hl 3 rfl) ?_
        refine lv_iconst (v := 3) hx hb dL_law_455 (by decide) ?_
        refine lv_iadd hx hb dL_law_456 ?_
        refine lv_topi (fun z115 ez115 => ?_)
        obtain rfl : z115 = nI (i + 3) := ez115.trans (nI_add i 3)
        refine va_sld hx hb hX hbl hbA hS (vp_in_nI (by omega) (by omega)) dL_law_457 ?_
        rw [nI_clamp (n := (i + 3)) (by omega)]
        refine gLi (X := fun q : Nat => s.heap.size ≤ q) (As := [.int (xs (i + 1)), .int (xs (i + 2)), .int (xs (i + 3))]) (rest := []) ⟨hx, hb, hml, hown, hts⟩ (c_X2_meet l dC dI A u (xs (i + 1)) (xs (i + 2)) (xs (i + 3))) (cwV 3 hts (gi_V (fun _ h => tg_tbl h) tw_163 tw_164 tw_165 tw_1 tw_166) rfl rfl rfl (by decide +kernel) ⟨Nat.le_of_ble_eq_true rfl, Nat.le_of_ble_eq_true rfl⟩) (va_recv hK1 hP1 (ci := 2) (q0 := 0) rfl rfl) aB_D hP1 hP2 hK1 hD1 hS (lw_in1 hi1 hS) (lw_out1 hap hP2) rfl hl.1 rfl (Nat.le_of_ble_eq_true rfl) dL_law_458 ⟨Nat.le_refl _, Nat.le_refl _⟩ (fun r116 u117 H locs hq118 hP1 hD1 hP2 hz hS => ?_)
        refine lv_aload_n hx hb dL_law_461 rfl (lv_at hl 2 rfl) ?_
        refine lv_aload_n hx hb dL_law_462 rfl (lv_at hl 0 rfl) ?_
        refine lv_iload_n hx hb dL_law_463 rfl (lv_at hl 3 rfl) ?_
        refine lv_iconst (v := 1) hx hb dL_law_464 (by decide) ?_
        refine lv_iadd hx hb dL_law_465 ?_
        refine lv_topi (fun z119 ez119 => ?_)
        obtain rfl : z119 = nI (i + 1) := ez119.trans (nI_add i 1)
        refine va_sld hx hb hX hbl hbA hS (vp_in_nI (by omega) (by omega)) dL_law_466 ?_
        rw [nI_clamp (n := (i + 1)) (by omega)]
        refine lv_aload_n hx hb dL_law_467 rfl (lv_at hl 0 rfl) ?_
        refine lv_iload_n hx hb dL_law_468 rfl (lv_at hl 3 rfl) ?_
        refine lv_iconst (v := 2) hx hb dL_law_469 (by decide) ?_
        refine lv_iadd hx hb dL_law_470 ?_
        refine lv_topi (fun z120 ez120 => ?_)
        obtain rfl : z120 = nI (i + 2) := ez120.trans (nI_add i 2)
        refine va_sld hx hb hX hbl hbA hS (vp_in_nI (by omega) (by omega)) dL_law_471 ?_
        rw [nI_clamp (n := (i + 2)) (by omega)]
        refine lv_aload_n hx hb dL_law_472 rfl (lv_at hl 0 rfl) ?_
        refine lv_iload_n hx hb dL_law_473 rfl (lv_at hl 3 rfl) ?_
        refine lv_iconst (v := 3) hx hb dL_law_474 (by decide) ?_
        refine lv_iadd hx hb dL_law_475 ?_
        refine lv_topi (fun z121 ez121 => ?_)
        obtain rfl : z121 = nI (i + 3) := ez121.trans (nI_add i 3)
        refine va_sld hx hb hX hbl hbA hS (vp_in_nI (by omega) (by omega)) dL_law_476 ?_
        rw [nI_clamp (n := (i + 3)) (by omega)]
        refine gLi (X := fun q : Nat => s.heap.size ≤ q) (As := [.int (xs (i + 1)), .int (xs (i + 2)), .int (xs (i + 3))]) (rest := [.int r116]) ⟨hx, hb, hml, hown, hts⟩ (c_X3_meet l dC dI E v (xs (i + 1)) (xs (i + 2)) (xs (i + 3))) (cwV 3 hts (gi_V (fun _ h => tg_tbl h) tw_309 tw_310 tw_311 tw_4 tw_312) rfl rfl rfl (by decide +kernel) ⟨Nat.le_of_ble_eq_true rfl, Nat.le_of_ble_eq_true rfl⟩) (va_recv hK2 hP2 (ci := 3) (q0 := 0) rfl rfl) aR_D hP2 hP1 hK2 hD2 hS (lw_in2 hi2 hS) (lw_out2 hap hP1) rfl hl.1 rfl (Nat.le_of_ble_eq_true rfl) dL_law_477 ⟨Nat.le_refl _, Nat.le_refl _⟩ (fun r122 v123 H locs hq124 hP2 hD2 hP1 hz hS => ?_)
        refine lv_icmp_eq (tgt := 759) hx hb dL_law_480 (by decide) (fun c125 => ?_) (fun c125 => ?_)
        · have hR := (st_meet hR hq118 hq124).2
          refine lv_iinc (v := nI (i + 8)) (lv' := [(3, .int (nI (i + 8))), (0, .ref b), (1, .ref (ah_ A)), (2, .ref (mh_ E))]) hx hb dL_law_759 hl (k := 3) rfl (nI_add i 8) (by decide) rfl (fun ls hl => ?_)
          refine lv_goto (tgt := 18) hx hb dL_law_762 (by decide) ?_
          exact ih (i + 8) (by omega) (by omega) u117 v123 _ _ hR hP1 (aB_D hD1) hP2 (aR_D hD2) hS ls (lv_sub hl [1, 2, 3, 0] rfl)
        · exact absurd (st_meet hR hq118 hq124).1 c125
      by_cases c126 : ((xs i) &&& 15) = 9
      · refine lv_tableIn (off := 452) (tgt := 485) hx hb dL_law_33 (by rw [c126]; decide) (by rw [c126]; decide) (by rw [c126]; decide) (by decide) ?_
        refine lv_aload_n hx hb dL_law_485 rfl (lv_at hl 1 rfl) ?_
        refine lv_aload_n hx hb dL_law_486 rfl (lv_at hl 0 rfl) ?_
        refine lv_iload_n hx hb dL_law_487 rfl (lv_at hl 3 rfl) ?_
        refine lv_iconst (v := 1) hx hb dL_law_488 (by decide) ?_
        refine lv_iadd hx hb dL_law_489 ?_
        refine lv_topi (fun z127 ez127 => ?_)
        obtain rfl : z127 = nI (i + 1) := ez127.trans (nI_add i 1)
        refine va_sld hx hb hX hbl hbA hS (vp_in_nI (by omega) (by omega)) dL_law_490 ?_
        rw [nI_clamp (n := (i + 1)) (by omega)]
        refine lv_aload_n hx hb dL_law_491 rfl (lv_at hl 0 rfl) ?_
        refine lv_iload_n hx hb dL_law_492 rfl (lv_at hl 3 rfl) ?_
        refine lv_iconst (v := 2) hx hb dL_law_493 (by decide) ?_
        refine lv_iadd hx hb dL_law_494 ?_
        refine lv_topi (fun z128 ez128 => ?_)
        obtain rfl : z128 = nI (i + 2) := ez128.trans (nI_add i 2)
        refine va_sld hx hb hX hbl hbA hS (vp_in_nI (by omega) (by omega)) dL_law_495 ?_
        rw [nI_clamp (n := (i + 2)) (by omega)]
        refine gLl (X := fun q : Nat => s.heap.size ≤ q) (As := [.int (xs (i + 1)), .int (xs (i + 2))]) (rest := []) ⟨hx, hb, hml, hown, hts⟩ (c_X2_word l dC dI A u (xs (i + 1)) (xs (i + 2))) (cwV 2 hts (gi_V (fun _ h => tg_tbl h) tw_175 tw_176 tw_177 tw_1 tw_178) rfl rfl rfl (by decide +kernel) ⟨Nat.le_of_ble_eq_true rfl, Nat.le_of_ble_eq_true rfl⟩) (va_recv hK1 hP1 (ci := 2) (q0 := 0) rfl rfl) aB_D hP1 hP2 hK1 hD1 hS (lw_in1 hi1 hS) (lw_out1 hap hP2) rfl hl.1 rfl (Nat.le_of_ble_eq_true rfl) dL_law_496 ⟨Nat.le_refl _, Nat.le_refl _⟩ (fun r129 u130 H locs hq131 hP1 hD1 hP2 hz hS => ?_)
        refine lv_aload_n hx hb dL_law_499 rfl (lv_at hl 2 rfl) ?_
        refine lv_aload_n hx hb dL_law_500 rfl (lv_at hl 0 rfl) ?_
        refine lv_iload_n hx hb dL_law_501 rfl (lv_at hl 3 rfl) ?_
        refine lv_iconst (v := 1) hx hb dL_law_502 (by decide) ?_
        refine lv_iadd hx hb dL_law_503 ?_
        refine lv_topi (fun z132 ez132 => ?_)
        obtain rfl : z132 = nI (i + 1) := ez132.trans (nI_add i 1)
        refine va_sld hx hb hX hbl hbA hS (vp_in_nI (by omega) (by omega)) dL_law_504 ?_
        rw [nI_clamp (n := (i + 1)) (by omega)]
        refine lv_aload_n hx hb dL_law_505 rfl (lv_at hl 0 rfl) ?_
        refine lv_iload_n hx hb dL_law_506 rfl (lv_at hl 3 rfl) ?_
        refine lv_iconst (v := 2) hx hb dL_law_507 (by decide) ?_
        refine lv_iadd hx hb dL_law_508 ?_
        refine lv_topi (fun z133 ez133 => ?_)
        obtain rfl : z133 = nI (i + 2) := ez133.trans (nI_add i 2)
        refine va_sld hx hb hX hbl hbA hS (vp_in_nI (by omega) (by omega)) dL_law_509 ?_
        rw [nI_clamp (n := (i + 2)) (by omega)]
        refine gLl (X := fun q : Nat => s.heap.size ≤ q) (As := [.int (xs (i + 1)), .int (xs (i + 2))]) (rest := [.long r129]) ⟨hx, hb, hml, hown, hts⟩ (c_X3_word l dC dI E v (xs (i + 1)) (xs (i + 2))) (cwV 2 hts (gi_V (fun _ h => tg_tbl h) tw_313 tw_314 tw_315 tw_4 tw_316) rfl rfl rfl (by decide +kernel) ⟨Nat.le_of_ble_eq_true rfl, Nat.le_of_ble_eq_true rfl⟩) (va_recv hK2 hP2 (ci := 3) (q0 := 0) rfl rfl) aR_D hP2 hP1 hK2 hD2 hS (lw_in2 hi2 hS) (lw_out2 hap hP1) rfl hl.1 rfl (Nat.le_of_ble_eq_true rfl) dL_law_510 ⟨Nat.le_refl _, Nat.le_refl _⟩ (fun r134 v135 H locs hq136 hP2 hD2 hP1 hz hS => ?_)
        refine W.lcmp hx hb dL_law_513 ?_
        refine lv_if_eq (tgt := 759) hx hb dL_law_514 (by decide) (fun c137 => ?_) (fun c137 => ?_)
        · have hR := (st_word hR hq131 hq136).2
          refine lv_iinc (v := nI (i + 8)) (lv' := [(3, .int (nI (i + 8))), (0, .ref b), (1, .ref (ah_ A)), (2, .ref (mh_ E))]) hx hb dL_law_759 hl (k := 3) rfl (nI_add i 8) (by decide) rfl (fun ls hl => ?_)
          refine lv_goto (tgt := 18) hx hb dL_law_762 (by decide) ?_
          exact ih (i + 8) (by omega) (by omega) u130 v135 _ _ hR hP1 (aB_D hD1) hP2 (aR_D hD2) hS ls (lv_sub hl [1, 2, 3, 0] rfl)
        · exact absurd ((lg_cmp_eq _ _).mpr (st_word hR hq131 hq136).1) c137
      by_cases c138 : ((xs i) &&& 15) = 10
      · refine lv_tableIn (off := 486) (tgt := 519) hx hb dL_law_33 (by rw [c138]; decide) (by rw [c138]; decide) (by rw [c138]; decide) (by decide) ?_
        refine lv_aload_n hx hb dL_law_519 rfl (lv_at hl 1 rfl) ?_
        refine lv_aload_n hx hb dL_law_520 rfl (lv_at hl 0 rfl) ?_
        refine lv_iload_n hx hb dL_law_521 rfl (lv_at hl 3 rfl) ?_
        refine lv_iconst (v := 1) hx hb dL_law_522 (by decide) ?_
        refine lv_iadd hx hb dL_law_523 ?_
        refine lv_topi (fun z139 ez139 => ?_)
        obtain rfl : z139 = nI (i + 1) := ez139.trans (nI_add i 1)
        refine va_sld hx hb hX hbl hbA hS (vp_in_nI (by omega) (by omega)) dL_law_524 ?_
        rw [nI_clamp (n := (i + 1)) (by omega)]
        refine lv_aload_n hx hb dL_law_525 rfl (lv_at hl 0 rfl) ?_
        refine lv_iload_n hx hb dL_law_526 rfl (lv_at hl 3 rfl) ?_
        refine lv_iconst (v := 2) hx hb dL_law_527 (by decide) ?_
        refine lv_iadd hx hb dL_law_528 ?_
        refine lv_topi (fun z140 ez140 => ?_)
        obtain rfl : z140 = nI (i + 2) := ez140.trans (nI_add i 2)
        refine va_sld hx hb hX hbl hbA hS (vp_in_nI (by omega) (by omega)) dL_law_529 ?_
        rw [nI_clamp (n := (i + 2)) (by omega)]
        refine lv_i2l hx hb dL_law_530 rfl ?_
        refine lv_bipush (v := 32) hx hb dL_law_531 (by decide) ?_
        refine lv_lshl hx hb dL_law_533 rfl ?_
        refine lv_aload_n hx hb dL_law_534 rfl (lv_at hl 0 rfl) ?_
        refine lv_iload_n hx hb dL_law_535 rfl (lv_at hl 3 rfl) ?_
        refine lv_iconst (v := 3) hx hb dL_law_536 (by decide) ?_
        refine lv_iadd hx hb dL_law_537 ?_
        refine lv_topi (fun z141 ez141 => ?_)
        obtain rfl : z141 = nI (i + 3) := ez141.trans (nI_add i 3)
        refine va_sld hx hb hX hbl hbA hS (vp_in_nI (by omega) (by omega)) dL_law_538 ?_
        rw [nI_clamp (n := (i + 3)) (by omega)]
        refine lv_i2l hx hb dL_law_539 rfl ?_
        refine lv_ldc2 (v := 4294967295) hx hb hown (hw _ tw_343) dL_law_540 ?_
        refine lv_land hx hb dL_law_543 ?_
        refine lv_lor hx hb dL_law_544 ?_
        refine lv_aload_n hx hb dL_law_545 rfl (lv_at hl 0 rfl) ?_
        refine lv_iload_n hx hb dL_law_546 rfl (lv_at hl 3 rfl) ?_
        refine lv_iconst (v := 4) hx hb dL_law_547 (by decide) ?_
        refine lv_iadd hx hb dL_law_548 ?_
        refine lv_topi (fun z142 ez142 => ?_)
        obtain rfl : z142 = nI (i + 4) := ez142.trans (nI_add i 4)
        refine va_sld hx hb hX hbl hbA hS (vp_in_nI (by omega) (by omega)) dL_law_549 ?_
        rw [nI_clamp (n := (i + 4)) (by omega)]
        refine lv_i2l hx hb dL_law_550 rfl ?_
        refine lv_bipush (v := 32) hx hb dL_law_551 (by decide) ?_
        refine lv_lshl hx hb dL_law_553 rfl ?_
        refine lv_aload_n hx hb dL_law_554 rfl (lv_at hl 0 rfl) ?_
        refine lv_iload_n hx hb dL_law_555 rfl (lv_at hl 3 rfl) ?_
        refine lv_iconst (v := 5) hx hb dL_law_556 (by decide) ?_
        refine lv_iadd hx hb dL_law_557 ?_
        refine lv_topi (fun z143 ez143 => ?_)
        obtain rfl : z143 = nI (i + 5) := ez143.trans (nI_add i 5)
        refine va_sld hx hb hX hbl hbA hS (vp_in_nI (by omega) (by omega)) dL_law_558 ?_
        rw [nI_clamp (n := (i + 5)) (by omega)]
        refine lv_i2l hx hb dL_law_559 rfl ?_
        refine lv_ldc2 (v := 4294967295) hx hb hown (hw _ tw_343) dL_law_560 ?_
        refine lv_land hx hb dL_law_563 ?_
        refine lv_lor hx hb dL_law_564 ?_
        refine lv_aload_n hx hb dL_law_565 rfl (lv_at hl 0 rfl) ?_
        refine lv_iload_n hx hb dL_law_566 rfl (lv_at hl 3 rfl) ?_
        refine lv_bipush (v := 6) hx hb dL_law_567 (by decide) ?_
        refine lv_iadd hx hb dL_law_569 ?_
        refine lv_topi (fun z144 ez144 => ?_)
        obtain rfl : z144 = nI (i + 6) := ez144.trans (nI_add i 6)
        refine va_sld hx hb hX hbl hbA hS (vp_in_nI (by omega) (by omega)) dL_law_570 ?_
        rw [nI_clamp (n := (i + 6)) (by omega)]
        refine lv_i2l hx hb dL_law_571 rfl ?_
        refine lv_bipush (v := 32) hx hb dL_law_572 (by decide) ?_
        refine lv_lshl hx hb dL_law_574 rfl ?_
        refine lv_aload_n hx hb dL_law_575 rfl (lv_at hl 0 rfl) ?_
        refine lv_iload_n hx hb dL_law_576 rfl (lv_at hl 3 rfl) ?_
        refine lv_bipush (v := 7) hx hb dL_law_577 (by decide) ?_
        refine lv_iadd hx hb dL_law_579 ?_
        refine lv_topi (fun z145 ez145 => ?_)
        obtain rfl : z145 = nI (i + 7) := ez145.trans (nI_add i 7)
        refine va_sld hx hb hX hbl hbA hS (vp_in_nI (by omega) (by omega)) dL_law_580 ?_
        rw [nI_clamp (n := (i + 7)) (by omega)]
        refine lv_i2l hx hb dL_law_581 rfl ?_
        refine lv_ldc2 (v := 4294967295) hx hb hown (hw _ tw_343) dL_law_582 ?_
        refine lv_land hx hb dL_law_585 ?_
        refine lv_lor hx hb dL_law_586 ?_
        refine gLi (X := fun q : Nat => s.heap.size ≤ q) (As := [.int (xs (i + 1)), .long ((((xs (i + 2)).toInt64) <<< ((32 : Int32).toInt64 &&& 63)) ||| (((xs (i + 3)).toInt64) &&& 4294967295)), .long ((((xs (i + 4)).toInt64) <<< ((32 : Int32).toInt64 &&& 63)) ||| (((xs (i + 5)).toInt64) &&& 4294967295)), .long ((((xs (i + 6)).toInt64) <<< ((32 : Int32).toInt64 &&& 63)) ||| (((xs (i + 7)).toInt64) &&& 4294967295))]) (rest := []) ⟨hx, hb, hml, hown, hts⟩ (c_X2_load l dC dI A u (xs (i + 1)) ((((xs (i + 2)).toInt64) <<< ((32 : Int32).toInt64 &&& 63)) ||| (((xs (i + 3)).toInt64) &&& 4294967295)) ((((xs (i + 4)).toInt64) <<< ((32 : Int32).toInt64 &&& 63)) ||| (((xs (i + 5)).toInt64) &&& 4294967295)) ((((xs (i + 6)).toInt64) <<< ((32 : Int32).toInt64 &&& 63)) ||| (((xs (i + 7)).toInt64) &&& 4294967295))) (cwV 4 hts (gi_V (fun _ h => tg_tbl h) tw_181 tw_182 tw_183 tw_1 tw_184) rfl rfl rfl (by decide +kernel) ⟨Nat.le_of_ble_eq_true rfl, Nat.le_of_ble_eq_true rfl⟩) (va_recv hK1 hP1 (ci := 2) (q0 := 0) rfl rfl) aB_D hP1 hP2 hK1 hD1 hS (lw_in1 hi1 hS) (lw_out1 hap hP2) rfl hl.1 rfl (Nat.le_of_ble_eq_true rfl) dL_law_587 ⟨Nat.le_refl _, Nat.le_refl _⟩ (fun r146 u147 H locs hq148 hP1 hD1 hP2 hz hS => ?_)
        refine lv_aload_n hx hb dL_law_590 rfl (lv_at hl 2 rfl) ?_
        refine lv_aload_n hx hb dL_law_591 rfl (lv_at hl 0 rfl) ?_
        refine lv_iload_n hx hb dL_law_592 rfl (lv_at hl 3 rfl) ?_
        refine lv_iconst (v := 1) hx hb dL_law_593 (by decide) ?_
        refine lv_iadd hx hb dL_law_594 ?_
        refine lv_topi (fun z149 ez149 => ?_)
        obtain rfl : z149 = nI (i + 1) := ez149.trans (nI_add i 1)
        refine va_sld hx hb hX hbl hbA hS (vp_in_nI (by omega) (by omega)) dL_law_595 ?_
        rw [nI_clamp (n := (i + 1)) (by omega)]
        refine lv_aload_n hx hb dL_law_596 rfl (lv_at hl 0 rfl) ?_
        refine lv_iload_n hx hb dL_law_597 rfl (lv_at hl 3 rfl) ?_
        refine lv_iconst (v := 2) hx hb dL_law_598 (by decide) ?_
        refine lv_iadd hx hb dL_law_599 ?_
        refine lv_topi (fun z150 ez150 => ?_)
        obtain rfl : z150 = nI (i + 2) := ez150.trans (nI_add i 2)
        refine va_sld hx hb hX hbl hbA hS (vp_in_nI (by omega) (by omega)) dL_law_600 ?_
        rw [nI_clamp (n := (i + 2)) (by omega)]
        refine lv_i2l hx hb dL_law_601 rfl ?_
        refine lv_bipush (v := 32) hx hb dL_law_602 (by decide) ?_
        refine lv_lshl hx hb dL_law_604 rfl ?_
        refine lv_aload_n hx hb dL_law_605 rfl (lv_at hl 0 rfl) ?_
        refine lv_iload_n hx hb dL_law_606 rfl (lv_at hl 3 rfl) ?_
        refine lv_iconst (v := 3) hx hb dL_law_607 (by decide) ?_
        refine lv_iadd hx hb dL_law_608 ?_
        refine lv_topi (fun z151 ez151 => ?_)
        obtain rfl : z151 = nI (i + 3) := ez151.trans (nI_add i 3)
        refine va_sld hx hb hX hbl hbA hS (vp_in_nI (by omega) (by omega)) dL_law_609 ?_
        rw [nI_clamp (n := (i + 3)) (by omega)]
        refine lv_i2l hx hb dL_law_610 rfl ?_
        refine lv_ldc2 (v := 4294967295) hx hb hown (hw _ tw_343) dL_law_611 ?_
        refine lv_land hx hb dL_law_614 ?_
        refine lv_lor hx hb dL_law_615 ?_
        refine lv_aload_n hx hb dL_law_616 rfl (lv_at hl 0 rfl) ?_
        refine lv_iload_n hx hb dL_law_617 rfl (lv_at hl 3 rfl) ?_
        refine lv_iconst (v := 4) hx hb dL_law_618 (by decide) ?_
        refine lv_iadd hx hb dL_law_619 ?_
        refine lv_topi (fun z152 ez152 => ?_)
        obtain rfl : z152 = nI (i + 4) := ez152.trans (nI_add i 4)
        refine va_sld hx hb hX hbl hbA hS (vp_in_nI (by omega) (by omega)) dL_law_620 ?_
        rw [nI_clamp (n := (i + 4)) (by omega)]
        refine lv_i2l hx hb dL_law_621 rfl ?_
        refine lv_bipush (v := 32) hx hb dL_law_622 (by decide) ?_
        refine lv_lshl hx hb dL_law_624 rfl ?_
        refine lv_aload_n hx hb dL_law_625 rfl (lv_at hl 0 rfl) ?_
        refine lv_iload_n hx hb dL_law_626 rfl (lv_at hl 3 rfl) ?_
        refine lv_iconst (v := 5) hx hb dL_law_627 (by decide) ?_
        refine lv_iadd hx hb dL_law_628 ?_
        refine lv_topi (fun z153 ez153 => ?_)
        obtain rfl : z153 = nI (i + 5) := ez153.trans (nI_add i 5)
        refine va_sld hx hb hX hbl hbA hS (vp_in_nI (by omega) (by omega)) dL_law_629 ?_
        rw [nI_clamp (n := (i + 5)) (by omega)]
        refine lv_i2l hx hb dL_law_630 rfl ?_
        refine lv_ldc2 (v := 4294967295) hx hb hown (hw _ tw_343) dL_law_631 ?_
        refine lv_land hx hb dL_law_634 ?_
        refine lv_lor hx hb dL_law_635 ?_
        refine lv_aload_n hx hb dL_law_636 rfl (lv_at hl 0 rfl) ?_
        refine lv_iload_n hx hb dL_law_637 rfl (lv_at hl 3 rfl) ?_
        refine lv_bipush (v := 6) hx hb dL_law_638 (by decide) ?_
        refine lv_iadd hx hb dL_law_640 ?_
        refine lv_topi (fun z154 ez154 => ?_)
        obtain rfl : z154 = nI (i + 6) := ez154.trans (nI_add i 6)
        refine va_sld hx hb hX hbl hbA hS (vp_in_nI (by omega) (by omega)) dL_law_641 ?_
        rw [nI_clamp (n := (i + 6)) (by omega)]
        refine lv_i2l hx hb dL_law_642 rfl ?_
        refine lv_bipush (v := 32) hx hb dL_law_643 (by decide) ?_
        refine lv_lshl hx hb dL_law_645 rfl ?_
        refine lv_aload_n hx hb dL_law_646 rfl (lv_at hl 0 rfl) ?_
        refine lv_iload_n hx hb dL_law_647 rfl (lv_at hl 3 rfl) ?_
        refine lv_bipush (v := 7) hx hb dL_law_648 (by decide) ?_
        refine lv_iadd hx hb dL_law_650 ?_
        refine lv_topi (fun z155 ez155 => ?_)
        obtain rfl : z155 = nI (i + 7) := ez155.trans (nI_add i 7)
        refine va_sld hx hb hX hbl hbA hS (vp_in_nI (by omega) (by omega)) dL_law_651 ?_
        rw [nI_clamp (n := (i + 7)) (by omega)]
        refine lv_i2l hx hb dL_law_652 rfl ?_
        refine lv_ldc2 (v := 4294967295) hx hb hown (hw _ tw_343) dL_law_653 ?_
        refine lv_land hx hb dL_law_656 ?_
        refine lv_lor hx hb dL_law_657 ?_
        refine gLi (X := fun q : Nat => s.heap.size ≤ q) (As := [.int (xs (i + 1)), .long ((((xs (i + 2)).toInt64) <<< ((32 : Int32).toInt64 &&& 63)) ||| (((xs (i + 3)).toInt64) &&& 4294967295)), .long ((((xs (i + 4)).toInt64) <<< ((32 : Int32).toInt64 &&& 63)) ||| (((xs (i + 5)).toInt64) &&& 4294967295)), .long ((((xs (i + 6)).toInt64) <<< ((32 : Int32).toInt64 &&& 63)) ||| (((xs (i + 7)).toInt64) &&& 4294967295))]) (rest := [.int r146]) ⟨hx, hb, hml, hown, hts⟩ (c_X3_load l dC dI E v (xs (i + 1)) ((((xs (i + 2)).toInt64) <<< ((32 : Int32).toInt64 &&& 63)) ||| (((xs (i + 3)).toInt64) &&& 4294967295)) ((((xs (i + 4)).toInt64) <<< ((32 : Int32).toInt64 &&& 63)) ||| (((xs (i + 5)).toInt64) &&& 4294967295)) ((((xs (i + 6)).toInt64) <<< ((32 : Int32).toInt64 &&& 63)) ||| (((xs (i + 7)).toInt64) &&& 4294967295))) (cwV 4 hts (gi_V (fun _ h => tg_tbl h) tw_319 tw_320 tw_321 tw_4 tw_322) rfl rfl rfl (by decide +kernel) ⟨Nat.le_of_ble_eq_true rfl, Nat.le_of_ble_eq_true rfl⟩) (va_recv hK2 hP2 (ci := 3) (q0 := 0) rfl rfl) aR_D hP2 hP1 hK2 hD2 hS (lw_in2 hi2 hS) (lw_out2 hap hP1) rfl hl.1 rfl (Nat.le_of_ble_eq_true rfl) dL_law_658 ⟨Nat.le_refl _, Nat.le_refl _⟩ (fun r156 v157 H locs hq158 hP2 hD2 hP1 hz hS => ?_)
        refine lv_icmp_eq (tgt := 759) hx hb dL_law_661 (by decide) (fun c159 => ?_) (fun c159 => ?_)
        · have hR := (st_load hR hq148 hq158).2
          refine lv_iinc (v := nI (i + 8)) (lv' := [(3, .int (nI (i + 8))), (0, .ref b), (1, .ref (ah_ A)), (2, .ref (mh_ E))]) hx hb dL_law_759 hl (k := 3) rfl (nI_add i 8) (by decide) rfl (fun ls hl => ?_)
          refine lv_goto (tgt := 18) hx hb dL_law_762 (by decide) ?_
          exact ih (i + 8) (by omega) (by omega) u147 v157 _ _ hR hP1 (aB_D hD1) hP2 (aR_D hD2) hS ls (lv_sub hl [1, 2, 3, 0] rfl)
        · exact absurd (st_load hR hq148 hq158).1 c159
      by_cases c160 : ((xs i) &&& 15) = 11
      · refine lv_tableIn (off := 633) (tgt := 666) hx hb dL_law_33 (by rw [c160]; decide) (by rw [c160]; decide) (by rw [c160]; decide) (by decide) ?_
        refine lv_aload_n hx hb dL_law_666 rfl (lv_at hl 1 rfl) ?_
        refine lv_aload_n hx hb dL_law_667 rfl (lv_at hl 0 rfl) ?_
        refine lv_iload_n hx hb dL_law_668 rfl (lv_at hl 3 rfl) ?_
        refine lv_iconst (v := 1) hx hb dL_law_669 (by decide) ?_
        refine lv_iadd hx hb dL_law_670 ?_
        refine lv_topi (fun z161 ez161 => ?_)
        obtain rfl : z161 = nI (i + 1) := ez161.trans (nI_add i 1)
        refine va_sld hx hb hX hbl hbA hS (vp_in_nI (by omega) (by omega)) dL_law_671 ?_
        rw [nI_clamp (n := (i + 1)) (by omega)]
        refine gLl (X := fun q : Nat => s.heap.size ≤ q) (As := [.int (xs (i + 1))]) (rest := []) ⟨hx, hb, hml, hown, hts⟩ (c_X2_walk l dC dI A u (xs (i + 1))) (cwV 1 hts (gi_V (fun _ h => tg_tbl h) tw_189 tw_190 tw_191 tw_1 tw_192) rfl rfl rfl (by decide +kernel) ⟨Nat.le_of_ble_eq_true rfl, Nat.le_of_ble_eq_true rfl⟩) (va_recv hK1 hP1 (ci := 2) (q0 := 0) rfl rfl) aB_D hP1 hP2 hK1 hD1 hS (lw_in1 hi1 hS) (lw_out1 hap hP2) rfl hl.1 rfl (Nat.le_of_ble_eq_true rfl) dL_law_672 ⟨Nat.le_refl _, Nat.le_refl _⟩ (fun r162 u163 H locs hq164 hP1 hD1 hP2 hz hS => ?_)
        refine lv_aload_n hx hb dL_law_675 rfl (lv_at hl 2 rfl) ?_
        refine lv_aload_n hx hb dL_law_676 rfl (lv_at hl 0 rfl) ?_
        refine lv_iload_n hx hb dL_law_677 rfl (lv_at hl 3 rfl) ?_
        refine lv_iconst (v := 1) hx hb dL_law_678 (by decide) ?_
        refine lv_iadd hx hb dL_law_679 ?_
        refine lv_topi (fun z165 ez165 => ?_)
        obtain rfl : z165 = nI (i + 1) := ez165.trans (nI_add i 1)
        refine va_sld hx hb hX hbl hbA hS (vp_in_nI (by omega) (by omega)) dL_law_680 ?_
        rw [nI_clamp (n := (i + 1)) (by omega)]
        refine gLl (X := fun q : Nat => s.heap.size ≤ q) (As := [.int (xs (i + 1))]) (rest := [.long r162]) ⟨hx, hb, hml, hown, hts⟩ (c_X3_walk l dC dI E v (xs (i + 1))) (cwV 1 hts (gi_V (fun _ h => tg_tbl h) tw_323 tw_324 tw_325 tw_4 tw_326) rfl rfl rfl (by decide +kernel) ⟨Nat.le_of_ble_eq_true rfl, Nat.le_of_ble_eq_true rfl⟩) (va_recv hK2 hP2 (ci := 3) (q0 := 0) rfl rfl) aR_D hP2 hP1 hK2 hD2 hS (lw_in2 hi2 hS) (lw_out2 hap hP1) rfl hl.1 rfl (Nat.le_of_ble_eq_true rfl) dL_law_681 ⟨Nat.le_refl _, Nat.le_refl _⟩ (fun r166 v167 H locs hq168 hP2 hD2 hP1 hz hS => ?_)
        refine W.lcmp hx hb dL_law_684 ?_
        refine lv_if_eq (tgt := 759) hx hb dL_law_685 (by decide) (fun c169 => ?_) (fun c169 => ?_)
        · have hR := (st_walk hR hq164 hq168).2
          refine lv_iinc (v := nI (i + 8)) (lv' := [(3, .int (nI (i + 8))), (0, .ref b), (1, .ref (ah_ A)), (2, .ref (mh_ E))]) hx hb dL_law_759 hl (k := 3) rfl (nI_add i 8) (by decide) rfl (fun ls hl => ?_)
          refine lv_goto (tgt := 18) hx hb dL_law_762 (by decide) ?_
          exact ih (i + 8) (by omega) (by omega) u163 v167 _ _ hR hP1 (aB_D hD1) hP2 (aR_D hD2) hS ls (lv_sub hl [1, 2, 3, 0] rfl)
        · exact absurd ((lg_cmp_eq _ _).mpr (st_walk hR hq164 hq168).1) c169
      by_cases c170 : ((xs i) &&& 15) = 12
      · refine lv_tableIn (off := 657) (tgt := 690) hx hb dL_law_33 (by rw [c170]; decide) (by rw [c170]; decide) (by rw [c170]; decide) (by decide) ?_
        refine lv_aload_n hx hb dL_law_690 rfl (lv_at hl 1 rfl) ?_
        refine lv_aload_n hx hb dL_law_691 rfl (lv_at hl 0 rfl) ?_
        refine lv_iload_n hx hb dL_law_692 rfl (lv_at hl 3 rfl) ?_
        refine lv_iconst (v := 1) hx hb dL_law_693 (by decide) ?_
        refine lv_iadd hx hb dL_law_694 ?_
        refine lv_topi (fun z171 ez171 => ?_)
        obtain rfl : z171 = nI (i + 1) := ez171.trans (nI_add i 1)
        refine va_sld hx hb hX hbl hbA hS (vp_in_nI (by omega) (by omega)) dL_law_695 ?_
        rw [nI_clamp (n := (i + 1)) (by omega)]
        refine gLi (X := fun q : Nat => s.heap.size ≤ q) (As := [.int (xs (i + 1))]) (rest := []) ⟨hx, hb, hml, hown, hts⟩ (c_X2_clear l dC dI A u (xs (i + 1))) (cwV 1 hts (gi_V (fun _ h => tg_tbl h) tw_197 tw_198 tw_199 tw_1 tw_200) rfl rfl rfl (by decide +kernel) ⟨Nat.le_of_ble_eq_true rfl, Nat.le_of_ble_eq_true rfl⟩) (va_recv hK1 hP1 (ci := 2) (q0 := 0) rfl rfl) aB_D hP1 hP2 hK1 hD1 hS (lw_in1 hi1 hS) (lw_out1 hap hP2) rfl hl.1 rfl (Nat.le_of_ble_eq_true rfl) dL_law_696 ⟨Nat.le_refl _, Nat.le_refl _⟩ (fun r172 u173 H locs hq174 hP1 hD1 hP2 hz hS => ?_)
        refine lv_aload_n hx hb dL_law_699 rfl (lv_at hl 2 rfl) ?_
        refine lv_aload_n hx hb dL_law_700 rfl (lv_at hl 0 rfl) ?_
        refine lv_iload_n hx hb dL_law_701 rfl (lv_at hl 3 rfl) ?_
        refine lv_iconst (v := 1) hx hb dL_law_702 (by decide) ?_
        refine lv_iadd hx hb dL_law_703 ?_
        refine lv_topi (fun z175 ez175 => ?_)
        obtain rfl : z175 = nI (i + 1) := ez175.trans (nI_add i 1)
        refine va_sld hx hb hX hbl hbA hS (vp_in_nI (by omega) (by omega)) dL_law_704 ?_
        rw [nI_clamp (n := (i + 1)) (by omega)]
        refine gLi (X := fun q : Nat => s.heap.size ≤ q) (As := [.int (xs (i + 1))]) (rest := [.int r172]) ⟨hx, hb, hml, hown, hts⟩ (c_X3_clear l dC dI E v (xs (i + 1))) (cwV 1 hts (gi_V (fun _ h => tg_tbl h) tw_327 tw_328 tw_329 tw_4 tw_330) rfl rfl rfl (by decide +kernel) ⟨Nat.le_of_ble_eq_true rfl, Nat.le_of_ble_eq_true rfl⟩) (va_recv hK2 hP2 (ci := 3) (q0 := 0) rfl rfl) aR_D hP2 hP1 hK2 hD2 hS (lw_in2 hi2 hS) (lw_out2 hap hP1) rfl hl.1 rfl (Nat.le_of_ble_eq_true rfl) dL_law_705 ⟨Nat.le_refl _, Nat.le_refl _⟩ (fun r176 v177 H locs hq178 hP2 hD2 hP1 hz hS => ?_)
        refine lv_icmp_eq (tgt := 759) hx hb dL_law_708 (by decide) (fun c179 => ?_) (fun c179 => ?_)
        · have hR := (st_clear hR hq174 hq178).2
          refine lv_iinc (v := nI (i + 8)) (lv' := [(3, .int (nI (i + 8))), (0, .ref b), (1, .ref (ah_ A)), (2, .ref (mh_ E))]) hx hb dL_law_759 hl (k := 3) rfl (nI_add i 8) (by decide) rfl (fun ls hl => ?_)
          refine lv_goto (tgt := 18) hx hb dL_law_762 (by decide) ?_
          exact ih (i + 8) (by omega) (by omega) u173 v177 _ _ hR hP1 (aB_D hD1) hP2 (aR_D hD2) hS ls (lv_sub hl [1, 2, 3, 0] rfl)
        · exact absurd (st_clear hR hq174 hq178).1 c179
      by_cases c180 : ((xs i) &&& 15) = 13
      · refine lv_tableIn (off := 680) (tgt := 713) hx hb dL_law_33 (by rw [c180]; decide) (by rw [c180]; decide) (by rw [c180]; decide) (by decide) ?_
        refine lv_aload_n hx hb dL_law_713 rfl (lv_at hl 1 rfl) ?_
        refine lv_aload_n hx hb dL_law_714 rfl (lv_at hl 0 rfl) ?_
        refine lv_iload_n hx hb dL_law_715 rfl (lv_at hl 3 rfl) ?_
        refine lv_iconst (v := 1) hx hb dL_law_716 (by decide) ?_
        refine lv_iadd hx hb dL_law_717 ?_
        refine lv_topi (fun z181 ez181 => ?_)
        obtain rfl : z181 = nI (i + 1) := ez181.trans (nI_add i 1)
        refine va_sld hx hb hX hbl hbA hS (vp_in_nI (by omega) (by omega)) dL_law_718 ?_
        rw [nI_clamp (n := (i + 1)) (by omega)]
        refine gLi (X := fun q : Nat => s.heap.size ≤ q) (As := [.int (xs (i + 1))]) (rest := []) ⟨hx, hb, hml, hown, hts⟩ (c_X2_text l dC dI A u (xs (i + 1))) (cwV 1 hts (gi_V (fun _ h => tg_tbl h) tw_201 tw_202 tw_203 tw_1 tw_204) rfl rfl rfl (by decide +kernel) ⟨Nat.le_of_ble_eq_true rfl, Nat.le_of_ble_eq_true rfl⟩) (va_recv hK1 hP1 (ci := 2) (q0 := 0) rfl rfl) aB_D hP1 hP2 hK1 hD1 hS (lw_in1 hi1 hS) (lw_out1 hap hP2) rfl hl.1 rfl (Nat.le_of_ble_eq_true rfl) dL_law_719 ⟨Nat.le_refl _, Nat.le_refl _⟩ (fun r182 u183 H locs hq184 hP1 hD1 hP2 hz hS => ?_)
        refine lv_aload_n hx hb dL_law_722 rfl (lv_at hl 2 rfl) ?_
        refine lv_aload_n hx hb dL_law_723 rfl (lv_at hl 0 rfl) ?_
        refine lv_iload_n hx hb dL_law_724 rfl (lv_at hl 3 rfl) ?_
        refine lv_iconst (v := 1) hx hb dL_law_725 (by decide) ?_
        refine lv_iadd hx hb dL_law_726 ?_
        refine lv_topi (fun z185 ez185 => ?_)
        obtain rfl : z185 = nI (i + 1) := ez185.trans (nI_add i 1)
        refine va_sld hx hb hX hbl hbA hS (vp_in_nI (by omega) (by omega)) dL_law_727 ?_
        rw [nI_clamp (n := (i + 1)) (by omega)]
        refine gLi (X := fun q : Nat => s.heap.size ≤ q) (As := [.int (xs (i + 1))]) (rest := [.int r182]) ⟨hx, hb, hml, hown, hts⟩ (c_X3_text l dC dI E v (xs (i + 1))) (cwV 1 hts (gi_V (fun _ h => tg_tbl h) tw_331 tw_332 tw_333 tw_4 tw_334) rfl rfl rfl (by decide +kernel) ⟨Nat.le_of_ble_eq_true rfl, Nat.le_of_ble_eq_true rfl⟩) (va_recv hK2 hP2 (ci := 3) (q0 := 0) rfl rfl) aR_D hP2 hP1 hK2 hD2 hS (lw_in2 hi2 hS) (lw_out2 hap hP1) rfl hl.1 rfl (Nat.le_of_ble_eq_true rfl) dL_law_728 ⟨Nat.le_refl _, Nat.le_refl _⟩ (fun r186 v187 H locs hq188 hP2 hD2 hP1 hz hS => ?_)
        refine lv_icmp_eq (tgt := 759) hx hb dL_law_731 (by decide) (fun c189 => ?_) (fun c189 => ?_)
        · have hR := (st_text hR hq184 hq188).2
          refine lv_iinc (v := nI (i + 8)) (lv' := [(3, .int (nI (i + 8))), (0, .ref b), (1, .ref (ah_ A)), (2, .ref (mh_ E))]) hx hb dL_law_759 hl (k := 3) rfl (nI_add i 8) (by decide) rfl (fun ls hl => ?_)
          refine lv_goto (tgt := 18) hx hb dL_law_762 (by decide) ?_
          exact ih (i + 8) (by omega) (by omega) u183 v187 _ _ hR hP1 (aB_D hD1) hP2 (aR_D hD2) hS ls (lv_sub hl [1, 2, 3, 0] rfl)
        · exact absurd (st_text hR hq184 hq188).1 c189
      by_cases c190 : ((xs i) &&& 15) = 14
      · refine lv_tableIn (off := 703) (tgt := 736) hx hb dL_law_33 (by rw [c190]; decide) (by rw [c190]; decide) (by rw [c190]; decide) (by decide) ?_
        refine lv_aload_n hx hb dL_law_736 rfl (lv_at hl 1 rfl) ?_
        refine lv_aload_n hx hb dL_law_737 rfl (lv_at hl 0 rfl) ?_
        refine lv_iload_n hx hb dL_law_738 rfl (lv_at hl 3 rfl) ?_
        refine lv_iconst (v := 1) hx hb dL_law_739 (by decide) ?_
        refine lv_iadd hx hb dL_law_740 ?_
        refine lv_topi (fun z191 ez191 => ?_)
        obtain rfl : z191 = nI (i + 1) := ez191.trans (nI_add i 1)
        refine va_sld hx hb hX hbl hbA hS (vp_in_nI (by omega) (by omega)) dL_law_741 ?_
        rw [nI_clamp (n := (i + 1)) (by omega)]
        refine gLi (X := fun q : Nat => s.heap.size ≤ q) (As := [.int (xs (i + 1))]) (rest := []) ⟨hx, hb, hml, hown, hts⟩ (c_X2_octet l dC dI A u ht1 (xs (i + 1))) (cwV 1 hts (gi_V (fun _ h => tg_tbl h) tw_226 tw_227 tw_228 tw_1 tw_229) rfl rfl rfl (by decide +kernel) ⟨Nat.le_of_ble_eq_true rfl, Nat.le_of_ble_eq_true rfl⟩) (va_recv hK1 hP1 (ci := 2) (q0 := 0) rfl rfl) aB_D hP1 hP2 hK1 hD1 hS (lw_in1 hi1 hS) (lw_out1 hap hP2) rfl hl.1 rfl (Nat.le_of_ble_eq_true rfl) dL_law_742 ⟨Nat.le_refl _, Nat.le_refl _⟩ (fun r192 u193 H locs hq194 hP1 hD1 hP2 hz hS => ?_)
        refine lv_aload_n hx hb dL_law_745 rfl (lv_at hl 2 rfl) ?_
        refine lv_aload_n hx hb dL_law_746 rfl (lv_at hl 0 rfl) ?_
        refine lv_iload_n hx hb dL_law_747 rfl (lv_at hl 3 rfl) ?_
        refine lv_iconst (v := 1) hx hb dL_law_748 (by decide) ?_
        refine lv_iadd hx hb dL_law_749 ?_
        refine lv_topi (fun z195 ez195 => ?_)
        obtain rfl : z195 = nI (i + 1) := ez195.trans (nI_add i 1)
        refine va_sld hx hb hX hbl hbA hS (vp_in_nI (by omega) (by omega)) dL_law_750 ?_
        rw [nI_clamp (n := (i + 1)) (by omega)]
        refine gLi (X := fun q : Nat => s.heap.size ≤ q) (As := [.int (xs (i + 1))]) (rest := [.int r192]) ⟨hx, hb, hml, hown, hts⟩ (c_X3_octet l dC dI E v ht2 (xs (i + 1))) (cwV 1 hts (gi_V (fun _ h => tg_tbl h) tw_339 tw_340 tw_341 tw_4 tw_342) rfl rfl rfl (by decide +kernel) ⟨Nat.le_of_ble_eq_true rfl, Nat.le_of_ble_eq_true rfl⟩) (va_recv hK2 hP2 (ci := 3) (q0 := 0) rfl rfl) aR_D hP2 hP1 hK2 hD2 hS (lw_in2 hi2 hS) (lw_out2 hap hP1) rfl hl.1 rfl (Nat.le_of_ble_eq_true rfl) dL_law_751 ⟨Nat.le_refl _, Nat.le_refl _⟩ (fun r196 v197 H locs hq198 hP2 hD2 hP1 hz hS => ?_)
        refine lv_icmp_eq (tgt := 759) hx hb dL_law_754 (by decide) (fun c199 => ?_) (fun c199 => ?_)
        · have hR := (st_octet hR hq194 hq198).2
          refine lv_iinc (v := nI (i + 8)) (lv' := [(3, .int (nI (i + 8))), (0, .ref b), (1, .ref (ah_ A)), (2, .ref (mh_ E))]) hx hb dL_law_759 hl (k := 3) rfl (nI_add i 8) (by decide) rfl (fun ls hl => ?_)
          refine lv_goto (tgt := 18) hx hb dL_law_762 (by decide) ?_
          exact ih (i + 8) (by omega) (by omega) u193 v197 _ _ hR hP1 (aB_D hD1) hP2 (aR_D hD2) hS ls (lv_sub hl [1, 2, 3, 0] rfl)
        · exact absurd (st_octet hR hq194 hq198).1 c199
      refine lv_tableOut (tgt := 759) hx hb dL_law_33 (sw_out15 c2 c16 c32 c44 c58 c72 c88 c100 c112 c126 c138 c160 c170 c180 c190) (by decide) ?_
      refine lv_iinc (v := nI (i + 8)) (lv' := [(3, .int (nI (i + 8))), (0, .ref b), (1, .ref (ah_ A)), (2, .ref (mh_ E))]) hx hb dL_law_759 hl (k := 3) rfl (nI_add i 8) (by decide) rfl (fun ls hl => ?_)
      refine lv_goto (tgt := 18) hx hb dL_law_762 (by decide) ?_
      exact ih (i + 8) (by omega) (by omega) u v _ _ hR hP1 (aB_D hD1) hP2 (aR_D hD2) hS ls (lv_sub hl [1, 2, 3, 0] rfl)
