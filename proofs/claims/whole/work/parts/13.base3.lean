/-! calls in the law: the class's world and the reference's side by side -/
section GL
variable {p : Program} {l : Launch} {e : Env} {R : Room} {s : State} {m : MethodId} {args : Array Value} {below : List Frame} {meth : Method} {c : Code} {H : Heap} {locs : List Loc} {cells slots : Nat} {Q : State → Prop}
variable {pc : Nat} {ls : Array Slot} {rest st0 : List Value} {y : MethodName} {bytes cc : ByteArray} {maxL nL n index : Nat} {ret : Option FieldType} {ws Ts : List Cond} {rm : Room} {own C : String} {b : Addr} {As : List Value}
variable {σ : Type} {D : va_G} {cl : List vw_C} {tys : List (ClassId × FieldType)} {w : σ → va_W} {aX : Nat → Nat → Prop} {u : σ} {w2 : va_W} {X Y : Nat → Prop} {H0 : Heap}
theorem gLi {post : Int32 → σ → Prop} (S : CallFix p m c cc nL s args Ts own) (hM : gMi l y ws rm D cl tys w aX (.ref b :: As) u post) (cw : CallW R s args own C index y bytes maxL ret ws rm 0 0 n)
    (hrc : ∃ cellB : Cell, H[b]? = some cellB ∧ cellB.vm.isStatics = false ∧ s.vm.findClass C = some cellB.cls) (hself : ∀ {X : Nat → Prop} {sz : Nat} {v : σ}, va_D X (w v) → va_D (aX sz) (w v))
    (hP : va_P D cl (w u) H) (hP2 : va_P D cl w2 H) (hK : va_K D cl tys s) (hD : va_D Y (w u)) (hS : va_S X H0 H locs) (hin : ∀ q, aX H.size q → X q) (hout : ∀ (k : Nat) (q : Nat × va_E), w2[k]? = some q → ¬ aX H.size q.1) (hn : As.length = n) (hsz : ls.size = nL) (hst : st0 = As.reverse ++ .ref b :: rest) (hrm : (rest.map fun v => v.category).sum ≤ 8) (hdg : decode cc pc = .ok (.invokevirtual index, 3)) (hf : cells + 0 ≤ R.cells ∧ slots + 0 ≤ R.slots)
    (kk : ∀ (r : Int32) (v : σ) (H1 : Heap) (locs1 : List Loc), post r v → va_P D cl (w v) H1 → va_D (aX H.size) (w v) → va_P D cl w2 H1 → H.size ≤ H1.size → va_S X H0 H1 locs1 → W p l e R s m args below meth c H1 locs1 cells slots Q (F0 m (pc + 3) ls (.int r :: rest))) : W p l e R s m args below meth c H locs cells slots Q (F0 m pc ls st0) := by
  refine va_calli (va_runV S (hM H.size) cw ⟨gP_blind, hrc, fun U hU hW => ⟨rfl, by rw [hU], by rw [hU]; exact hP, va_K.moved hW.alike hK, hself hD⟩⟩ rfl hn hsz hst (lv_room hrm) hdg hf) hS (fun q _ h => hin q h) hin (fun r v t H1 locs1 ht hvm hp hB hz hk hS1 => ?_)
  obtain ⟨hP1, -, hD1⟩ := hB
  rw [ht] at hP1
  exact kk r v H1 locs1 hp hP1 hD1 (hP2.kept (fun k q hq => hk q.1 (hP2 k q hq).lt (hout k q hq))) hz hS1
theorem gLl {post : Int64 → σ → Prop} (S : CallFix p m c cc nL s args Ts own) (hM : gMl l y ws rm D cl tys w aX (.ref b :: As) u post) (cw : CallW R s args own C index y bytes maxL ret ws rm 0 0 n)
    (hrc : ∃ cellB : Cell, H[b]? = some cellB ∧ cellB.vm.isStatics = false ∧ s.vm.findClass C = some cellB.cls) (hself : ∀ {X : Nat → Prop} {sz : Nat} {v : σ}, va_D X (w v) → va_D (aX sz) (w v))
    (hP : va_P D cl (w u) H) (hP2 : va_P D cl w2 H) (hK : va_K D cl tys s) (hD : va_D Y (w u)) (hS : va_S X H0 H locs) (hin : ∀ q, aX H.size q → X q) (hout : ∀ (k : Nat) (q : Nat × va_E), w2[k]? = some q → ¬ aX H.size q.1) (hn : As.length = n) (hsz : ls.size = nL) (hst : st0 = As.reverse ++ .ref b :: rest) (hrm : (rest.map fun v => v.category).sum ≤ 8) (hdg : decode cc pc = .ok (.invokevirtual index, 3)) (hf : cells + 0 ≤ R.cells ∧ slots + 0 ≤ R.slots)
    (kk : ∀ (r : Int64) (v : σ) (H1 : Heap) (locs1 : List Loc), post r v → va_P D cl (w v) H1 → va_D (aX H.size) (w v) → va_P D cl w2 H1 → H.size ≤ H1.size → va_S X H0 H1 locs1 → W p l e R s m args below meth c H1 locs1 cells slots Q (F0 m (pc + 3) ls (.long r :: rest))) : W p l e R s m args below meth c H locs cells slots Q (F0 m pc ls st0) := by
  refine va_calll (va_runV S (hM H.size) cw ⟨gP_blind, hrc, fun U hU hW => ⟨rfl, by rw [hU], by rw [hU]; exact hP, va_K.moved hW.alike hK, hself hD⟩⟩ rfl hn hsz hst (lv_room hrm) hdg hf) hS (fun q _ h => hin q h) hin (fun r v t H1 locs1 ht hvm hp hB hz hk hS1 => ?_)
  obtain ⟨hP1, -, hD1⟩ := hB
  rw [ht] at hP1
  exact kk r v H1 locs1 hp hP1 hD1 (hP2.kept (fun k q hq => hk q.1 (hP2 k q hq).lt (hout k q hq))) hz hS1
end GL
