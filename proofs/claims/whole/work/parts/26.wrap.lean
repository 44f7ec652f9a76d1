/-! the law calls its catching methods -/
def zWp (y : Nat) : Nat × Nat := if y = 56 then (3156, 3155) else if y = 72 then (4078, 4077) else if y = 74 then (4102, 4101) else if y = 76 then (4110, 4109) else (4118, 4117)
def zHl (y : Nat) : List (Nat × Nat × Nat × Nat) := (zHt y).getD []
theorem zWpOk : [56, 72, 74, 76, 78].all (fun y => decide (zTw (zWp y).1 = some (.codeWith (zY y) (zB y) (zMx y) (zRet y) (zHl y))) && decide (zTw (zWp y).2 = some (.static (zY y))) && decide (zMx y ≤ 9) && plainName (zY y).cls && decide (zHt y = some (zHl y)) && goodWord (.codeWith (zY y) (zB y) (zMx y) (zRet y) (zHl y)) &&
    decide ((zY y).cls = "LeavingMachineLaw") && decide (zThr y = false) && decide ((parseMethodDescriptor (zY y).desc).map (fun d => d.parameters.length) = some 3)) = true := by decide +kernel
theorem zWrAll : (List.range 128).all (fun y => (zP y).2.2.2.2 != 9 || decide (y ∈ [56, 72, 74, 76, 78])) = true := by decide +kernel
theorem zWsOk : (List.range 129).all (fun y => (zCd y).all (fun e => match e.2.1 with
    | .invokestatic x => decide ((zP e.2.2.2.1).2.2.2.2 ≠ 9) || decide (e.2.2.2.2.2.1 = 5) || (decide (e.2.2.2.1 < 128) && decide (zTw e.2.2.2.2.2.2 = some (.methodLink (zNm (zOw y)) x (zY e.2.2.2.1))) && decide (e.2.2.2.2.1 = 3))
    | _ => true)) = true := by decide +kernel
def zWsW (y : Nat) : List Cond := .codeWith (zY y) (zB y) (zMx y) (zRet y) (zHl y) :: zGW
theorem zWr_e {y : Nat} (hy : y < 128) (h9 : (zP y).2.2.2.2 = 9) : Cond.codeWith (zY y) (zB y) (zMx y) (zRet y) (zHl y) ∈ zGW ∧ Cond.static (zY y) ∈ zGW ∧ Cond.initialized (zY y).cls ∈ zGW ∧ plainName (zY y).cls = true ∧ zMx y ≤ 9 ∧ zHt y = some (zHl y) ∧ zThr y = false ∧ (parseMethodDescriptor (zY y).desc).map (fun d => d.parameters.length) = some 3 := by
  have h1 := List.all_eq_true.mp zWrAll y (List.mem_range.mpr hy)
  rw [h9] at h1
  simp only [bne_self_eq_false, Bool.false_or, decide_eq_true_eq] at h1
  have h2 := List.all_eq_true.mp zWpOk y h1
  simp only [Bool.and_eq_true, decide_eq_true_eq] at h2
  obtain ⟨⟨⟨⟨⟨⟨⟨⟨a1, a2⟩, a3⟩, a4⟩, a5⟩, a6⟩, a7⟩, a8⟩, a9⟩ := h2
  refine ⟨zGW_of a1 a6, zGW_of a2 rfl, ?_, a4, a3, a5, a8, a9⟩
  rw [a7]
  exact zGW_of (p := 1000) rfl rfl
theorem zGoodW {y : Nat} (hy : y < 128) (h9 : (zP y).2.2.2.2 = 9) : GoodIn zGW (zWsW y) := by
  intro w hw
  rcases List.mem_cons.mp hw with rfl | hw
  · exact ⟨(zWr_e hy h9).1, zGW_good (zWr_e hy h9).1⟩
  · exact ⟨hw, zGW_good hw⟩
set_option maxHeartbeats 4000000 in
set_option maxRecDepth 100000 in
theorem zMetW_of {l : Launch} {A : Nat → Prop} {D : va_G} {xs : Nat → Int32} {N n : Nat} (hB : zBd l A D xs N n) {d y : Nat} {as : List zV} {S : zS} {r : Option zV} {S' : zS} (h : zEv n d y 0 (zent (zMx y) as) [] S = some (r, S')) (hy : y < 128) (h9 : (zP y).2.2.2.2 = 9) (hlen : (zargs as).length ≤ zMx y) (hok : zSok S as)
    (ad : zAd) (dA : Nat → ClassId) (ws : va_W) (tys : List (ClassId × FieldType)) : Met l (zY y) (zWsW y) (zRm d (S'.2.2.2.1 - S.2.2.2.1) (S'.2.2.2.2.1 - S.2.2.2.2.1)) (zPcm A D xs N ad dA ws tys S as) (zQcm A D xs N ad S r S') (S'.2.2.2.1 - S.2.2.2.1) (S'.2.2.2.2.1 - S.2.2.2.2.1) A := by
  have hy' : y < 129 := by omega
  obtain ⟨m1, m2, m4, m5, m6, m8, hthr, -⟩ := zWr_e hy h9
  refine va_MetW (cc := zB y) (maxL := zMx y) (ret := zRet y) (hh := zHl y) m5 rfl ?_
  intro p e s m args below meth c s₁ B hml hv
  obtain ⟨rfl, hR, hX⟩ := hv
  have hr := B.returns
  have hlocks := B.notSynchronized
  have hts := atoms_spec (ws := zWsW y) B.pre
  have hown : s.vm.findClass (zNm (zOw y)) = some m.cls := by
    have h1 : s.vm.findClass (zY y).cls = some m.cls := findClass_of_methodNamed B.named
    have h2 : zOw y = (zMe y).1 := by unfold zOw; rw [if_neg (by omega)]
    rw [h2]; exact h1
  have hg := zEv_grow h
  rw [lg_entry_eq]
  have hht : ∀ h, zHt y = some h → c.exceptionTable.toList.map (fun x => (x.startPc, x.endPc, x.handlerPc, x.catchType)) = h := by
    intro h hh
    obtain ⟨m9, me2, c2, q0, q1, q2, -, -, q3, -⟩ := Cond.codeWith_spec (hts _ List.mem_cons_self)
    cases B.named.symm.trans q0
    cases B.method.symm.trans q1
    cases (Stand.of_body B).code.symm.trans q2
    cases m8.symm.trans hh
    exact q3
  refine hB d y 0 _ [] S r S' h hy' p e _ s m _ below meth c _ s.heap [] 0 0 _ ad dA ws tys ⟨B.exec, B.bytes, hml, hown, fun w hw => hts w (List.mem_cons_of_mem _ hw), (name_of_methodNamed B.named B.method).1, hht⟩ va_S.rf hR hX (zent_lv hlen) (zent_ok hok) (fun v hv => by cases hv) (Nat.le_refl _) (Nat.le_refl _) ?_ ?_ ?_ ?_
  · show 0 + S'.2.2.2.1 ≤ (S'.2.2.2.1 - S.2.2.2.1) + S.2.2.2.1; omega
  · show 0 + S'.2.2.2.2.1 ≤ (S'.2.2.2.2.1 - S.2.2.2.2.1) + S.2.2.2.2.1; omega
  · intro H' locs' cells' slots' ls' pc' st' ad' dA' ws' tys' f1 f2 f3 f4 f5 f6 f7
    obtain rfl : cells' = S'.2.2.2.1 - S.2.2.2.1 := by omega
    obtain rfl : slots' = S'.2.2.2.2.1 - S.2.2.2.2.1 := by omega
    rcases f4 with ⟨q, x, e1, rfl, rfl, e4⟩ | ⟨q, x, e1, rfl, rfl⟩ | ⟨q, e1, rfl, rfl⟩
    · have hok := (zOkAll y hy').2 _ (zlk_mem e1)
      simp only [zEok, Bool.and_eq_true, decide_eq_true_eq] at hok
      have ht := zRtI hy' e1
      dsimp only at ht
      rw [decide_eq_true_eq] at ht
      obtain ⟨ty, ht1, ht2⟩ : ∃ ty, zRet y = some ty ∧ narrow ty (.int (Int32.ofInt x)) = .int (Int32.ofInt x) := by
        have hrt : ∀ ty, zRet y = some ty → (ty = .int ∨ ty = .boolean ∨ ty = .char) → zTc ty = zRt y := by
          intro ty h1 h2
          unfold zRt
          rw [show (zMe y).2.2.2.2.2 = some ty from h1]
          rcases h2 with rfl | rfl | rfl <;> rfl
        rcases ht with ht | ht | ht
        · exact ⟨_, ht, rfl⟩
        · exact ⟨_, ht, (z_nar (t := .boolean) (by rw [hrt _ ht (Or.inr (Or.inl rfl))]; exact e4) (by decide)).1⟩
        · exact ⟨_, ht, (z_nar (t := .char) (by rw [hrt _ ht (Or.inr (Or.inr rfl))]; exact e4) (by decide)).1⟩
      exact W.zret (v := Int32.ofInt x) (ty := ty) B.exec B.bytes (hr.trans ht1) ht2 (fun t ht hW => ⟨⟨ad', dA', ws', tys', rfl, by rw [ht]; exact f2.moved hW.alike, f3, fun v hv => by cases hv; trivial⟩, f1.F ht⟩) f1.2.2 hok.1.1
    · have hok := (zOkAll y hy').2 _ (zlk_mem e1)
      simp only [zEok, Bool.and_eq_true, decide_eq_true_eq] at hok
      have ht := zRtI hy' e1
      dsimp only at ht
      obtain ⟨nm, ht1⟩ : ∃ nm, zRet y = some (.object nm) := by
        split at ht
        · exact ⟨_, by assumption⟩
        · cases ht
      exact W.aret (v := zcv ad' (zq x)) B.exec B.bytes (hr.trans ht1) (Or.inl ⟨_, rfl⟩) (va_rf_or _) (fun t ht hW => ⟨⟨ad', dA', ws', tys', rfl, by rw [ht]; exact f2.moved hW.alike, f3, fun v hv => by cases hv; exact f5 _ List.mem_cons_self⟩, f1.F ht⟩) f1.2.2 hok.1.1
    · have hok := (zOkAll y hy').2 _ (zlk_mem e1)
      simp only [zEok, Bool.and_eq_true, decide_eq_true_eq] at hok
      have ht := zRtI hy' e1
      dsimp only at ht
      rw [decide_eq_true_eq] at ht
      exact W.vret B.exec B.bytes (hr.trans ht) (fun t ht hW => ⟨⟨ad', dA', ws', tys', rfl, by rw [ht]; exact f2.moved hW.alike, f3, fun v hv => by cases hv⟩, f1.F ht⟩) f1.2.2 hok.1.1
  · intro H' locs' cells' slots' ls' pc' st' ad' dA' ws' tys' x a b q f1 f2 f3 f4 f0 f5 f6 f7
    exfalso
    have ht := zRtI hy' f4
    simp [hthr] at ht
section CSW
variable {p : Program} {l : Launch} {e : Env} {R : Room} {s : State} {m : MethodId} {args : Array Value} {below : List Frame} {meth : Method} {c : Code} {T : State} {H : Heap} {locs : List Loc} {cells slots : Nat}
/-- a static method with handlers is called -/
theorem z_callSW (X : Stand p l e R s m args below meth c T locs cells slots) (hexec : p.tables.exec = Jvm.exec) {own : String} {index : Nat} {y : MethodName} {bytes : ByteArray} {maxL : Nat} {ret : Option FieldType} {hh : List (Nat × Nat × Nat × Nat)}
    (hown : s.vm.findClass own = some m.cls) (hlink : (Cond.methodLink own index y).before args s = true) (hstat : (Cond.static y).before args s = true) (hinit : (Cond.initialized y.cls).before args s = true)
    (hcode : (Cond.codeWith y bytes maxL ret hh).before args s = true) (hy : y.cls ≠ "java/lang/invoke/MethodHandle" ∧ y.cls ≠ "java/lang/invoke/VarHandle")
    {W : Nat} {Pre : Pt → Array Value → Prop} {Post : Pt → Array Value → Option Value → Pt → Prop} (hK : Back l R p e below s args y 3 W Pre Post)
    {g : JFrame} (hg : g.method = m) (hsize : g.locals.size = c.maxLocals) {argsL rest : List Value} (hlen : ∀ sig, parseMethodDescriptor y.desc = some sig → argsL.length = sig.parameters.length)
    (hstack : g.stack = argsL.reverse ++ rest) (hW : 2 * g.monitorRoom + (rest.map fun v => v.category).sum ≤ W) (hdg : decode c.code g.pc = .ok (.invokestatic index, 3))
    (hpre : ∀ vm₁, s.WarmedH vm₁ → Pre ⟨T.setVm vm₁, locs, cells, slots⟩ argsL.toArray) :
    ∃ (v : Option Value) (vm₁ : Vm) (B : Pt), s.WarmedH vm₁ ∧ Stand p l e R s m args below meth c B.U B.locs B.cells B.slots ∧ Post ⟨T.setVm vm₁, locs, cells, slots⟩ argsL.toArray v B ∧
      ∀ target, Steps p.tables e below (B.U.setTop { g with pc := g.pc + 3, stack := v.toList ++ rest }) target → Steps p.tables e below (T.setTop g) target := by
  obtain ⟨mk, methM, cM, hnamed, hmethM, -, -, -, -, -, -, hsigM⟩ := Cond.codeWith_spec hcode
  have hstatic : methM.isStatic = true := Cond.static_spec hnamed hmethM hstat
  obtain ⟨kP, hkP, -⟩ := className_of_methodNamed hnamed
  have hinitP : kP.init = .initialized := Cond.initialized_spec (findClass_of_methodNamed hnamed) hkP hinit
  obtain ⟨vm₁, X₁, hstep₁⟩ := X.invokestatic hexec hown hlink hnamed hmethM hstatic hkP hinitP hy (g := g) hg (argsL := argsL) (rest := rest) (hlen _ hsigM) hstack hdg
  obtain ⟨v, B, X', hpost, hsteps⟩ := hK m meth c ⟨T.setVm vm₁, locs, cells, slots⟩ { g with stack := rest } (.invokestatic index) mk argsL.toArray X₁ hg hsize hdg hW (X₁.named hnamed) (hpre vm₁ X₁.warmed)
  exact ⟨v, vm₁, B, X₁.warmed, X', hpost, fun target h => hstep₁ _ fun acts => by rw [doInvoke_state]; exact hsteps.trans h⟩
end CSW
set_option maxHeartbeats 8000000 in
set_option maxRecDepth 100000 in
theorem zBd_wrap {l : Launch} {A : Nat → Prop} {D : va_G} {xs : Nat → Int32} {N n : Nat} (ih : zBd l A D xs N n)
    {d y pc : Nat} {L : zL} {st : List zV} {S : zS} {r : Option zV} {S' : zS} (hy : y < 129)
    {p : Program} {e : Env} {R : Room} {s : State} {m : MethodId} {args : Array Value} {below : List Frame} {meth : Method} {c : Code} {Q : State → Prop} {H : Heap} {locs : List Loc} {cells slots : Nat} {ls : Array Slot} {ad : zAd} {dA : Nat → ClassId} {ws : va_W} {tys : List (ClassId × FieldType)}
    (hC : zCx y p s m args meth c) (hS : va_S A s.heap H locs) (hR : zRl A D xs N ad dA ws tys S s H) (hX : zXs A ad xs N s s.heap) (hl : zLv ls (zMx y) ad L) (hL : zLok S L) (hst : zSok S st) (hfr : d ≤ R.frames) (hlo : 32 * d ≤ R.locals) (hce : cells + S'.2.2.2.1 ≤ R.cells + S.2.2.2.1) (hsl : slots + S'.2.2.2.2.1 ≤ R.slots + S.2.2.2.2.1)
    (fin : ∀ (H' : Heap) (locs' : List Loc) (cells' slots' : Nat) (ls' : Array Slot) (pc' : Nat) (st' : List zV) (ad' : zAd) (dA' : Nat → ClassId) (ws' : va_W) (tys' : List (ClassId × FieldType)), va_S A s.heap H' locs' → zRl A D xs N ad' dA' ws' tys' S' s H' → zAg S ad ad' → zEnd y pc' st' r → zSok S' st' → cells' + S.2.2.2.1 = cells + S'.2.2.2.1 → slots' + S.2.2.2.2.1 = slots + S'.2.2.2.2.1 →
      W p l e R s m args below meth c H' locs' cells' slots' Q (F0 m pc' ls' (st'.map (zcv ad'))))
    (finX : ∀ (H' : Heap) (locs' : List Loc) (cells' slots' : Nat) (ls' : Array Slot) (pc' : Nat) (st' : List zV) (ad' : zAd) (dA' : Nat → ClassId) (ws' : va_W) (tys' : List (ClassId × FieldType)) (x a b q : Nat), va_S A s.heap H' locs' → zRl A D xs N ad' dA' ws' tys' S' s H' → zAg S ad ad' → zlk y pc' = some (.new x, 3, a, b, 7, q) → (st' = [] ∧ ls'.size = zMx y) → r = some (zq (some (a, 0))) → cells' + 1 + S.2.2.2.1 = cells + S'.2.2.2.1 → slots' + b + S.2.2.2.2.1 = slots + S'.2.2.2.2.1 →
      W p l e R s m args below meth c H' locs' cells' slots' Q (F0 m pc' ls' (st'.map (zcv ad'))))
    {i0 len a b cd pp : Nat} (hq : zlk y pc = some (.invokestatic i0, len, a, b, cd, pp)) (h : zStep (.invokestatic i0) len a b cd pc y L st S (fun p L s S => zEv n d y p L s S) (fun y' as S κ => zCall (zEv n) d y' as S κ) (fun r S => some (r, S)) none = some (r, S'))
    (ha9 : (zP a).2.2.2.2 = 9) (hc5 : cd ≠ 5) :
    W p l e R s m args below meth c H locs cells slots Q (F0 m pc ls (st.map (zcv ad))) := by
  obtain ⟨hx, hb, hml, hown, hts, hnm, hht⟩ := hC
  have hC : zCx y p s m args meth c := ⟨hx, hb, hml, hown, hts, hnm, hht⟩
  have hok := (zOkAll y hy).2 _ (zlk_mem hq)
  simp only [zEok, Bool.and_eq_true, decide_eq_true_eq] at hok
  obtain ⟨⟨hdec, hlen⟩, hw⟩ := hok
  have hC0 : CallFix p m c (zB y) (zMx y) s args zGW (zNm (zOw y)) := ⟨hx, hb, hml, hown, hts⟩
  have goC : ∀ (e0 y' : Nat) (as t : List zV) (r1 : Option zV) (S1 : zS), d = e0 + 1 → st = as.reverse ++ t → zwt t ≤ 8 → (zargs as).length ≤ zMx y' → zEv n e0 y' 0 (zent (zMx y') as) [] S = some (r1, S1) → zEv n d y (pc + 3) L (r1.toList ++ t) S1 = some (r, S') →
      va_Run p l e R s m args below meth c H locs cells slots (S1.2.2.2.1 - S.2.2.2.1) (S1.2.2.2.2.1 - S.2.2.2.2.1) (F0 m pc ls (st.map (zcv ad))) (t.map (zcv ad)) (zQcm A D xs N ad S r1 S1 (as.map (zcv ad)).toArray) A →
      W p l e R s m args below meth c H locs cells slots Q (F0 m pc ls (st.map (zcv ad))) := by
    intro e0 y' as t r1 S1 hd hst0 hwt hla hev hk hrun
    have g1 := zEv_gr _ _ _ _ _ _ _ _ _ hev
    have g2 := zEv_gr _ _ _ _ _ _ _ _ _ hk
    refine z_cont hrun hS (fun ad' dA' ws' tys' H1 locs1 k1 k2 k3 k4 => ?_)
    have hst1 : zSok S t := fun v hv => hst v (by rw [hst0]; exact List.mem_append_right _ hv)
    have e1 : ((r1.map (zcv ad')).toList ++ t.map (zcv ad)) = (r1.toList ++ t).map (zcv ad') := by
      rw [List.map_append, k2.st hst1]
      cases r1 <;> rfl
    rw [e1]
    refine ih d y (pc + 3) L (r1.toList ++ t) S1 r S' hk hy p e R s m args below meth c Q H1 locs1 _ _ ls ad' dA' ws' tys' hC k4 k1 ?_ (k2.lv hL hl) (hL.le g1.2.2.1) ?_ hfr hlo ?_ ?_ ?_ ?_
    · obtain ⟨x1, x2, x3, x4, x5, x6, x7⟩ := hX
      have hw : ∀ i, i < 6 → ad' 90 i = ad 90 i := fun i hi => k2 90 i (by rw [hR.c90]; exact hi)
      have hb9 : ad' 99 0 = ad 99 0 := k2 99 0 (by rw [hR.c99]; omega)
      refine ⟨x1, x2, fun i hi => ?_, ?_, ?_, x6, x7.ad (k2 91 0 (by rw [hR.c91]; omega))⟩
      · rw [hw i hi]; exact x3 i hi
      · rw [hb9]; exact x4
      · rw [hb9]; exact x5
    · intro v hv
      rcases List.mem_append.mp hv with hv | hv
      · cases r1 with
        | none => cases hv
        | some w =>
          simp only [Option.toList_some, List.mem_singleton] at hv
          subst hv
          exact k3 _ rfl
      · exact (hst1 v hv).le g1.2.2.1
    · have := g1.1; have := g2.1; omega
    · have := g1.2.1; have := g2.2.1; omega
    · intro H' locs' cells' slots' ls' pc' st' ad2 dA2 ws2 tys2 f1 f2 f3 f4 f5 f6 f7
      have := g1.1; have := g1.2.1
      exact fin H' locs' cells' slots' ls' pc' st' ad2 dA2 ws2 tys2 f1 f2 (k2.trans g1.2.2.1 f3) f4 f5 (by omega) (by omega)
    · intro H' locs' cells' slots' ls' pc' st' ad2 dA2 ws2 tys2 x a' b' q' f1 f2 f3 f4 f0 f5 f6 f7
      have := g1.1; have := g1.2.1
      exact finX H' locs' cells' slots' ls' pc' st' ad2 dA2 ws2 tys2 x a' b' q' f1 f2 (k2.trans g1.2.2.1 f3) f4 f0 f5 (by omega) (by omega)
  have hPre : ∀ (as : List zV) (U : State), U.heap = H → s.WarmedH U.vm → zPcm A D xs N ad dA ws tys S as (as.map (zcv ad)).toArray U := fun as U hU hW => ⟨rfl, by rw [hU]; exact hR.moved hW.alike, by rw [hU]; exact hX.warm hS hW⟩
  have hOwEq : ∀ y', y' < 128 → zNm (zOw y') = (zY y').cls := fun y' hy' => by unfold zOw; rw [if_neg (by omega)]; rfl
  have hRoom : ∀ (e0 y' : Nat) (S1 : zS), d = e0 + 1 → zMx y' ≤ 9 → (zRm e0 (S1.2.2.2.1 - S.2.2.2.1) (S1.2.2.2.2.1 - S.2.2.2.2.1)).frames + 1 ≤ R.frames ∧ 8 + (zMx y' + 11) + (zRm e0 (S1.2.2.2.1 - S.2.2.2.1) (S1.2.2.2.2.1 - S.2.2.2.2.1)).locals ≤ R.locals := by
    intro e0 y' S1 hd h9
    subst hd
    refine ⟨hfr, ?_⟩
    show 8 + (zMx y' + 11) + 32 * e0 ≤ R.locals
    omega
  have hCells : ∀ (S1 : zS), zGr S S1 → zGr S1 S' → cells + (S1.2.2.2.1 - S.2.2.2.1) ≤ R.cells ∧ slots + (S1.2.2.2.2.1 - S.2.2.2.2.1) ≤ R.slots := fun S1 g1 g2 => by
    have := g1.1; have := g2.1; have := g1.2.1; have := g2.2.1
    exact ⟨by omega, by omega⟩
  have hNoMH : ∀ y', y' < 128 → (zY y').cls ≠ "java/lang/invoke/MethodHandle" ∧ (zY y').cls ≠ "java/lang/invoke/VarHandle" := by
    intro y' hy'
    have : (List.range 128).all (fun y' => decide ((zY y').cls ≠ "java/lang/invoke/MethodHandle") && decide ((zY y').cls ≠ "java/lang/invoke/VarHandle")) = true := zNoMH
    have h1 := List.all_eq_true.mp this y' (List.mem_range.mpr hy')
    rw [Bool.and_eq_true, decide_eq_true_eq, decide_eq_true_eq] at h1
    exact h1
  have hwGood : ∀ w ∈ zGW, (w.onTables && w.keeps) = true ∨ ∃ ty, w = .arrayClass ty := fun w hw => zGW_good hw
  unfold zStep at h
  try dsimp only at h
  obtain rfl : len = 3 := zlen_of hlen rfl rfl
  have hm := List.all_eq_true.mp (List.all_eq_true.mp zWsOk y (List.mem_range.mpr hy)) _ (zlk_mem hq)
  simp only [ha9, hc5, ne_eq, not_true_eq_false, decide_false, Bool.false_or, Bool.and_eq_true, decide_eq_true_eq] at hm
  obtain ⟨⟨ha, hw1⟩, rfl⟩ := hm
  obtain ⟨m1, m2, m4, m5, m6, m8, hthr, hpar⟩ := zWr_e ha ha9
  obtain ⟨as, t, hab, hst0, hwt, h_1⟩ := zinv_e h
  rcases zCall_e h_1 with ⟨q9, -⟩ | ⟨-, e0, r1, S1, hd, hla, hev, hk⟩
  · omega
  have hsas : zSok S as := fun v hv => hst v (by rw [hst0]; exact List.mem_append_left _ (List.mem_reverse.mpr hv))
  have hM := zMetW_of ih hev ha ha9 hla hsas ad dA ws tys
  refine goC e0 a as t r1 S1 hd hst0 hwt hla hev hk ?_
  have hK : Back l R p e below s args (zY a) 3 8 (PreOf R _ _ (zPcm A D xs N ad dA ws tys S as)) (PostOf (zQcm A D xs N ad S r1 S1) _ _ A) :=
    va_backW (hh := zHl a) (bytes := zB a) (maxL := zMx a) (ret := zRet a) hM zPcm.blind rfl rfl (hRoom e0 a S1 hd m6).1 (hRoom e0 a S1 hd m6).2 (pay_in hts (zGoodW ha ha9)) List.mem_cons_self (fun a' U hW => word_at hW (zGW_good m4) (hts _ m4))
  intro T hT X
  obtain ⟨v, vm₁, ⟨U', l2, c2, s2⟩, hW₁, X', ⟨g', mk, t', Lx, e1, e2, hq', h1, hL', h2, h3⟩, stp⟩ := z_callSW X hx (own := zNm (zOw y)) (index := i0) (y := zY a) (bytes := zB a) (maxL := zMx a) (ret := zRet a) (hh := zHl a) hown (hts _ (zGW_of hw1 rfl)) (hts _ m2) (hts _ m4) (hts _ m1) (hNoMH a ha) hK
    (g := F0 m pc ls (st.map (zcv ad))) rfl (by rw [hml]; exact hl.2.1) (argsL := as.map (zcv ad)) (rest := t.map (zcv ad)) (fun sig h => by
      rw [h] at hpar
      simp only [Option.map_some, Option.some.injEq] at hpar
      rw [List.length_map]
      omega) (by rw [hst0]; simp) (lv_room (by rw [zwt_sum]; exact hwt)) (by rw [hb]; exact hdec)
    (fun vm₁ hW₁ => ⟨(hCells S1 (zEv_gr _ _ _ _ _ _ _ _ _ hev) (zEv_gr _ _ _ _ _ _ _ _ _ hk)).1, (hCells S1 (zEv_gr _ _ _ _ _ _ _ _ _ hev) (zEv_gr _ _ _ _ _ _ _ _ _ hk)).2, hPre as (T.setVm vm₁) hT hW₁⟩)
  dsimp only [Pt.U, Pt.locs, Pt.cells, Pt.slots] at X' e1 e2 h1 h2 h3 stp
  subst h1; subst h2; subst h3
  exact ⟨v, (T.setVm vm₁).calling g' mk (as.map (zcv ad)).toArray, t', U', Lx, hT, X', hL', e1, e2, hq', stp⟩
