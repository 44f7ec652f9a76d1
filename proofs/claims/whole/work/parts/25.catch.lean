/-! the law's catching methods call what throws -/
section CX
variable {p : Program} {l : Launch} {e : Env} {R : Room} {s : State} {m : MethodId} {args : Array Value} {below : List Frame} {meth : Method} {c : Code} {T : State} {locs : List Loc} {cells slots : Nat}
theorem z_callX (X : Stand p l e R s m args below meth c T locs cells slots) (hexec : p.tables.exec = Jvm.exec) {own C : String} {index : Nat} {y : MethodName} {bytes : ByteArray} {maxL : Nat} {ret : Option FieldType}
    (hown : s.vm.findClass own = some m.cls) (hlink : (Cond.methodLink own index y).before args s = true) (hinst : (Cond.instanceMethod y).before args s = true) (hsel : (Cond.selects C y y).before args s = true)
    (hcode : (Cond.code y bytes maxL ret).before args s = true) (hy : y.cls ≠ "java/lang/invoke/MethodHandle" ∧ y.cls ≠ "java/lang/invoke/VarHandle")
    {W : Nat} {Pre : Pt → Array Value → Prop} {Post : Pt → Array Value → Addr → Pt → Prop} (hK : BackT l R p e below s args y 3 W Pre Post)
    {b : Addr} {cellB : Cell} (hcell : T.heap[b]? = some cellB) (hobj : cellB.vm.isStatics = false) (hcls : s.vm.findClass C = some cellB.cls)
    {g : JFrame} (hg : g.method = m) (hsize : g.locals.size = c.maxLocals) {argsL rest : List Value} (hlen : ∀ sig, parseMethodDescriptor y.desc = some sig → argsL.length = sig.parameters.length)
    (hstack : g.stack = argsL.reverse ++ .ref b :: rest) (hW : 2 * g.monitorRoom + (rest.map fun v => v.category).sum ≤ W) (hdg : decode c.code g.pc = .ok (.invokevirtual index, 3))
    (hpre : ∀ vm₁, s.WarmedH vm₁ → Pre ⟨T.setVm vm₁, locs, cells, slots⟩ (Value.ref b :: argsL).toArray) :
    ∃ (v : Addr) (vm₁ : Vm) (B : Pt), s.WarmedH vm₁ ∧ Stand p l e R s m args below meth c B.U B.locs B.cells B.slots ∧ Post ⟨T.setVm vm₁, locs, cells, slots⟩ (Value.ref b :: argsL).toArray v B ∧
      Steps p.tables e below (T.setTop g) ((B.U.setTop { g with stack := rest }).pushFrame (.throwing v)) := by
  obtain ⟨mk, methM, hnamed, hmethM, hstM, habM⟩ := Cond.instanceMethod_spec hinst
  obtain ⟨methM', cM, hmethM', -, -, -, -, -, -, hsigM⟩ := Cond.code_spec hnamed hcode
  cases hmethM.symm.trans hmethM'
  obtain ⟨c2, r2, m2, q1, q2, q3, q4, kP, hkP, hkPi⟩ := Cond.selects_spec hsel
  cases hcls.symm.trans q1
  cases (State.methodFound?_of_named hnamed hy).symm.trans q2
  cases hnamed.symm.trans q3
  have hselP : selectMethod e.platform s.vm cellB.cls mk = .method mk := by rw [Launch.admits_selectMethod X.admits]; exact q4
  obtain ⟨vm₁, X₁, hstep₁⟩ := X.invokevirtual hexec hown hlink hnamed hmethM hstM hkP hkPi hy (a := b) (cell := cellB) hcell
    (fun z h => by rw [h] at hobj; cases hobj) hselP hmethM habM hkP hkPi (g := g) hg (argsL := argsL) (rest := rest) (hlen _ hsigM) hstack hdg
  obtain ⟨v, B, X', hpost, hsteps⟩ := hK m meth c ⟨T.setVm vm₁, locs, cells, slots⟩ { g with stack := rest } (.invokevirtual index) mk (Value.ref b :: argsL).toArray X₁ hg hsize hdg hW (X₁.named hnamed) (hpre vm₁ X₁.warmed)
  exact ⟨v, vm₁, B, X₁.warmed, X', hpost, hstep₁ _ fun acts => by rw [doInvoke_state]; exact hsteps⟩
end CX
/-- where what throws is called -/
theorem zTsOk : (List.range 129).all (fun y => (zCd y).all (fun e => match e.2.1 with
    | .invokevirtual _ => !zThr e.2.2.2.1 || (decide (e.1 = 4) && decide (e.2.2.2.2.2.1 ≠ 6) && decide (zNm (zOw y) = "LeavingMachineLaw") && decide (y ≠ 128))
    | _ => true)) = true := by decide +kernel
theorem zClW : zTw 3157 = some (.classLink "LeavingMachineLaw" 13 "java/lang/IllegalArgumentException") ∧ zTw 3158 = some (.classLink "LeavingMachineLaw" 15 "java/lang/IllegalStateException") ∧ zTw 4079 = some (.classLink "LeavingMachineLaw" 20 "java/lang/IndexOutOfBoundsException") := ⟨rfl, rfl, rfl⟩
/-- a handler: what it does, and its row in the table -/
theorem zHdl {y e h : Nat} (hh : zHd y e = some h) : (e = 92 ∨ e = 93 ∨ e = 94) ∧ zMx y = 4 ∧ zRt y = 0 ∧
    (∃ (k : Int) (q1 q2 q3 : Nat × Nat × Nat × Nat), zlk y h = some (.astore_n 3, 1, q1) ∧ zlk y (h + 1) = some (.iconst k, 1, q2) ∧ zlk y (h + 2) = some (.ireturn, 1, q3)) ∧
    ∃ (pre rest : List (Nat × Nat × Nat × Nat)) (ct : Nat), zHt y = some (pre ++ (0, 9, h, ct) :: rest) ∧ ct ≠ 0 ∧ Cond.classLink "LeavingMachineLaw" ct (zXn e) ∈ zGW ∧ (pre = [] ∨ (e = 93 ∧ pre = [(0, 9, 12, 13)])) := by
  obtain ⟨w1, w2, w3⟩ := zClW
  unfold zHd at hh
  split at hh
  · rename_i hy
    subst hy
    split at hh
    · rename_i he; subst he; cases hh
      exact ⟨Or.inl rfl, rfl, rfl, ⟨1, _, _, _, rfl, rfl, rfl⟩, [], _, 13, rfl, by decide, zGW_of w1 rfl, Or.inl rfl⟩
    · split at hh
      · rename_i he; subst he; cases hh
        exact ⟨Or.inr (Or.inl rfl), rfl, rfl, ⟨2, _, _, _, rfl, rfl, rfl⟩, [(0, 9, 12, 13)], [], 15, rfl, by decide, zGW_of w2 rfl, Or.inr ⟨rfl, rfl⟩⟩
      · cases hh
  · split at hh
    · rename_i hy
      split at hh
      · rename_i he; subst he; cases hh
        rcases hy with rfl | rfl
        · exact ⟨Or.inr (Or.inr rfl), rfl, rfl, ⟨1, _, _, _, rfl, rfl, rfl⟩, [], _, 20, rfl, by decide, zGW_of w3 rfl, Or.inl rfl⟩
        · exact ⟨Or.inr (Or.inr rfl), rfl, rfl, ⟨1, _, _, _, rfl, rfl, rfl⟩, [], _, 20, rfl, by decide, zGW_of w3 rfl, Or.inl rfl⟩
      · cases hh
    · split at hh
      · rename_i hy; subst hy
        split at hh
        · rename_i he; subst he; cases hh
          exact ⟨Or.inr (Or.inl rfl), rfl, rfl, ⟨1, _, _, _, rfl, rfl, rfl⟩, [], _, 15, rfl, by decide, zGW_of w2 rfl, Or.inl rfl⟩
        · cases hh
      · split at hh
        · rename_i hy; subst hy
          split at hh
          · rename_i he; subst he; cases hh
            exact ⟨Or.inl rfl, rfl, rfl, ⟨1, _, _, _, rfl, rfl, rfl⟩, [], _, 13, rfl, by decide, zGW_of w1 rfl, Or.inl rfl⟩
          · cases hh
        · cases hh
theorem zEv_hd {n d y h : Nat} {L : zL} {S : zS} {q : Nat × Nat} {r : Option zV} {S' : zS} {k : Int} {q1 q2 q3 : Nat × Nat × Nat × Nat} (h1 : zlk y h = some (.astore_n 3, 1, q1)) (h2 : zlk y (h + 1) = some (.iconst k, 1, q2)) (h3 : zlk y (h + 2) = some (.ireturn, 1, q3)) (hr : zRt y = 0) (hk : zEv n d y h L [zq (some q)] S = some (r, S')) : r = some (zi k) ∧ S' = S := by
  cases n with
  | zero => cases hk
  | succ n =>
    rw [zEv, h1] at hk
    have hk : zEv n d y (h + 1) (zst L 3 (some (zq (some q)))) [] S = some (r, S') := hk
    cases n with
    | zero => cases hk
    | succ n =>
      rw [zEv, h2] at hk
      have hk : zEv n d y (h + 2) (zst L 3 (some (zq (some q)))) [zi k] S = some (r, S') := hk
      cases n with
      | zero => cases hk
      | succ n =>
        rw [zEv, h3] at hk
        have hk : zok (zRt y) k none (some (some (zi k), S)) = some (r, S') := hk
        rw [hr] at hk
        have hk : some (some (zi k), S) = some (r, S') := hk
        cases hk
        exact ⟨rfl, rfl⟩
theorem zxr_no {α : Type} {r : Option zV} {h : Nat → α} {f : α} (hr : ∀ q, r ≠ some (zq (some q))) : zxr r h f = f := by
  unfold zxr
  split
  · exact absurd rfl (hr _)
  · rfl
set_option maxHeartbeats 8000000 in
set_option maxRecDepth 100000 in
theorem zBd_thr {l : Launch} (hoff : ∀ e : Env, l.admits e → e.platform.stackTraces = false) {A : Nat → Prop} {D : va_G} {xs : Nat → Int32} {N n : Nat} (ih : zBd l A D xs N n)
    {d y pc : Nat} {L : zL} {st : List zV} {S : zS} {r : Option zV} {S' : zS} (hy : y < 129)
    {p : Program} {e : Env} {R : Room} {s : State} {m : MethodId} {args : Array Value} {below : List Frame} {meth : Method} {c : Code} {Q : State → Prop} {H : Heap} {locs : List Loc} {cells slots : Nat} {ls : Array Slot} {ad : zAd} {dA : Nat → ClassId} {ws : va_W} {tys : List (ClassId × FieldType)}
    (hC : zCx y p s m args meth c) (hS : va_S A s.heap H locs) (hR : zRl A D xs N ad dA ws tys S s H) (hX : zXs A ad xs N s s.heap) (hl : zLv ls (zMx y) ad L) (hL : zLok S L) (hst : zSok S st) (hfr : d ≤ R.frames) (hlo : 32 * d ≤ R.locals) (hce : cells + S'.2.2.2.1 ≤ R.cells + S.2.2.2.1) (hsl : slots + S'.2.2.2.2.1 ≤ R.slots + S.2.2.2.2.1)
    (fin : ∀ (H' : Heap) (locs' : List Loc) (cells' slots' : Nat) (ls' : Array Slot) (pc' : Nat) (st' : List zV) (ad' : zAd) (dA' : Nat → ClassId) (ws' : va_W) (tys' : List (ClassId × FieldType)), va_S A s.heap H' locs' → zRl A D xs N ad' dA' ws' tys' S' s H' → zAg S ad ad' → zEnd y pc' st' r → zSok S' st' → cells' + S.2.2.2.1 = cells + S'.2.2.2.1 → slots' + S.2.2.2.2.1 = slots + S'.2.2.2.2.1 →
      W p l e R s m args below meth c H' locs' cells' slots' Q (F0 m pc' ls' (st'.map (zcv ad'))))
    (finX : ∀ (H' : Heap) (locs' : List Loc) (cells' slots' : Nat) (ls' : Array Slot) (pc' : Nat) (st' : List zV) (ad' : zAd) (dA' : Nat → ClassId) (ws' : va_W) (tys' : List (ClassId × FieldType)) (x a b q : Nat), va_S A s.heap H' locs' → zRl A D xs N ad' dA' ws' tys' S' s H' → zAg S ad ad' → zlk y pc' = some (.new x, 3, a, b, 7, q) → (st' = [] ∧ ls'.size = zMx y) → r = some (zq (some (a, 0))) → cells' + 1 + S.2.2.2.1 = cells + S'.2.2.2.1 → slots' + b + S.2.2.2.2.1 = slots + S'.2.2.2.2.1 →
      W p l e R s m args below meth c H' locs' cells' slots' Q (F0 m pc' ls' (st'.map (zcv ad'))))
    {i0 len a b cd pp : Nat} (hq : zlk y pc = some (.invokevirtual i0, len, a, b, cd, pp)) (h : zStep (.invokevirtual i0) len a b cd pc y L st S (fun p L s S => zEv n d y p L s S) (fun y' as S κ => zCall (zEv n) d y' as S κ) (fun r S => some (r, S)) none = some (r, S'))
    (hth : zThr a = true) :
    W p l e R s m args below meth c H locs cells slots Q (F0 m pc ls (st.map (zcv ad))) := by
  obtain ⟨hx, hb, hml, hown, hts, hnm, hht⟩ := hC
  have hC : zCx y p s m args meth c := ⟨hx, hb, hml, hown, hts, hnm, hht⟩
  have hok := (zOkAll y hy).2 _ (zlk_mem hq)
  simp only [zEok, Bool.and_eq_true, decide_eq_true_eq] at hok
  obtain ⟨⟨hdec, hlen⟩, hw⟩ := hok
  have hC0 : CallFix p m c (zB y) (zMx y) s args zGW (zNm (zOw y)) := ⟨hx, hb, hml, hown, hts⟩
  have goC : ∀ (e0 y' : Nat) (as t : List zV) (r1 : Option zV) (S1 : zS), d = e0 + 1 → st = as.reverse ++ t → zwt t ≤ 8 → (zargs as).length ≤ zMx y' → zEv n e0 y' 0 (zent (zMx y') as) [] S = some (r1, S1) → zEv n d y (pc + 3) L (r1.toList ++ t) S1 = some (r, S') →
      va_Run p l e R s m args below meth c H locs cells slots (S1.2.2.2.1 - S.2.2.2.1) (S1.2.2.2.2.1 - S.2.2.2.2.1) (F0 m pc ls (st.map (zcv ad))) (t.map (zcv ad)) (zQcm A D xs N ad S r1 S1 (as.map (zcv ad)).toArray) A →
      W p l e R s m args below meth c H locs cells slots Q (F0 m pc ls (st.map (zcv ad))) := by
    intro e0 y' as t r1 S1 hd hst0 hwt hla hev hk hrun
    have g1 := zEv_gr _ _ _ _ _ _ _ _ _ hev
    have g2 := zEv_gr _ _ _ _ _ _ _ _ _ hk
    refine z_cont hrun hS (fun ad' dA' ws' tys' H1 locs1 k1 k2 k3 k4 => ?_)
    have hst1 : zSok S t := fun v hv => hst v (by rw [hst0]; exact List.mem_append_right _ hv)
    have e1 : ((r1.map (zcv ad')).toList ++ t.map (zcv ad)) = (r1.toList ++ t).map (zcv ad') := by
      rw [List.map_append, k2.st hst1]
      cases r1 <;> rfl
    rw [e1]
    refine ih d y (pc + 3) L (r1.toList ++ t) S1 r S' hk hy p e R s m args below meth c Q H1 locs1 _ _ ls ad' dA' ws' tys' hC k4 k1 ?_ (k2.lv hL hl) (hL.le g1.2.2.1) ?_ hfr hlo ?_ ?_ ?_ ?_
    · obtain ⟨x1, x2, x3, x4, x5, x6, x7⟩ := hX
      have hw : ∀ i, i < 6 → ad' 90 i = ad 90 i := fun i hi => k2 90 i (by rw [hR.c90]; exact hi)
      have hb9 : ad' 99 0 = ad 99 0 := k2 99 0 (by rw [hR.c99]; omega)
      refine ⟨x1, x2, fun i hi => ?_, ?_, ?_, x6, x7.ad (k2 91 0 (by rw [hR.c91]; omega))⟩
      · rw [hw i hi]; exact x3 i hi
      · rw [hb9]; exact x4
      · rw [hb9]; exact x5
    · intro v hv
      rcases List.mem_append.mp hv with hv | hv
      · cases r1 with
        | none => cases hv
        | some w =>
          simp only [Option.toList_some, List.mem_singleton] at hv
          subst hv
          exact k3 _ rfl
      · exact (hst1 v hv).le g1.2.2.1
    · have := g1.1; have := g2.1; omega
    · have := g1.2.1; have := g2.2.1; omega
    · intro H' locs' cells' slots' ls' pc' st' ad2 dA2 ws2 tys2 f1 f2 f3 f4 f5 f6 f7
      have := g1.1; have := g1.2.1
      exact fin H' locs' cells' slots' ls' pc' st' ad2 dA2 ws2 tys2 f1 f2 (k2.trans g1.2.2.1 f3) f4 f5 (by omega) (by omega)
    · intro H' locs' cells' slots' ls' pc' st' ad2 dA2 ws2 tys2 x a' b' q' f1 f2 f3 f4 f0 f5 f6 f7
      have := g1.1; have := g1.2.1
      exact finX H' locs' cells' slots' ls' pc' st' ad2 dA2 ws2 tys2 x a' b' q' f1 f2 (k2.trans g1.2.2.1 f3) f4 f0 f5 (by omega) (by omega)
  have hPre : ∀ (as : List zV) (U : State), U.heap = H → s.WarmedH U.vm → zPcm A D xs N ad dA ws tys S as (as.map (zcv ad)).toArray U := fun as U hU hW => ⟨rfl, by rw [hU]; exact hR.moved hW.alike, by rw [hU]; exact hX.warm hS hW⟩
  have hOwEq : ∀ y', y' < 128 → zNm (zOw y') = (zY y').cls := fun y' hy' => by unfold zOw; rw [if_neg (by omega)]; rfl
  have hRoom : ∀ (e0 y' : Nat) (S1 : zS), d = e0 + 1 → zMx y' ≤ 9 → (zRm e0 (S1.2.2.2.1 - S.2.2.2.1) (S1.2.2.2.2.1 - S.2.2.2.2.1)).frames + 1 ≤ R.frames ∧ 8 + (zMx y' + 11) + (zRm e0 (S1.2.2.2.1 - S.2.2.2.1) (S1.2.2.2.2.1 - S.2.2.2.2.1)).locals ≤ R.locals := by
    intro e0 y' S1 hd h9
    subst hd
    refine ⟨hfr, ?_⟩
    show 8 + (zMx y' + 11) + 32 * e0 ≤ R.locals
    omega
  have hCells : ∀ (S1 : zS), zGr S S1 → zGr S1 S' → cells + (S1.2.2.2.1 - S.2.2.2.1) ≤ R.cells ∧ slots + (S1.2.2.2.2.1 - S.2.2.2.2.1) ≤ R.slots := fun S1 g1 g2 => by
    have := g1.1; have := g2.1; have := g1.2.1; have := g2.2.1
    exact ⟨by omega, by omega⟩
  have hNoMH : ∀ y', y' < 128 → (zY y').cls ≠ "java/lang/invoke/MethodHandle" ∧ (zY y').cls ≠ "java/lang/invoke/VarHandle" := by
    intro y' hy'
    have : (List.range 128).all (fun y' => decide ((zY y').cls ≠ "java/lang/invoke/MethodHandle") && decide ((zY y').cls ≠ "java/lang/invoke/VarHandle")) = true := zNoMH
    have h1 := List.all_eq_true.mp this y' (List.mem_range.mpr hy')
    rw [Bool.and_eq_true, decide_eq_true_eq, decide_eq_true_eq] at h1
    exact h1
  have hwGood : ∀ w ∈ zGW, (w.onTables && w.keeps) = true ∨ ∃ ty, w = .arrayClass ty := fun w hw => zGW_good hw
  unfold zStep at h
  try dsimp only at h
  obtain rfl : len = 3 := zlen_of hlen rfl rfl
  have hm := List.all_eq_true.mp (List.all_eq_true.mp zTsOk y (List.mem_range.mpr hy)) _ (zlk_mem hq)
  simp only [hth, Bool.not_true, Bool.false_or, Bool.and_eq_true, decide_eq_true_eq, ne_eq] at hm
  obtain ⟨⟨⟨rfl, hc6⟩, hlaw⟩, hy128⟩ := hm
  simp only [zEw, Bool.or_eq_true, Bool.and_eq_true, decide_eq_true_eq] at hw
  rcases hw with hw | ⟨⟨⟨⟨⟨-, hw1⟩, hc0⟩, ha⟩, hk0⟩, hpar⟩
  · exact absurd hw hc6
  have ha9 : (zP a).2.2.2.2 ≠ 9 := by rw [hk0]; decide
  obtain ⟨m1, m2, m3, m4, m5, m6, m7⟩ := zMok_e (by omega) ha9
  have m2 : Cond.instanceMethod (zY a) ∈ zGW := by rw [if_neg (by rw [hk0]; decide)] at m2; exact m2
  obtain ⟨as, t, hab, hst0, hwt, h_1⟩ := zinv_e h
  obtain ⟨i, u, has, h_2⟩ := zrec_e h_1
  rw [if_pos hth] at h_2
  have hd15 := zCall_b h_2 (by omega) hth
  rcases zCall_e h_2 with ⟨q9, -⟩ | ⟨-, e0, r1, S1, hd, hla, hev, hk⟩
  · omega
  have hsas : zSok S as := fun v hv => hst v (by rw [hst0]; exact List.mem_append_left _ (List.mem_reverse.mpr hv))
  have hi : i < S.2.2.1 (zOw a) := hsas (zq (some (zOw a, i))) (by rw [has]; exact List.mem_cons_self)
  have hoa : zOw a < 12 := by
    have := List.all_eq_true.mp zOwOk a (List.mem_range.mpr ha)
    rw [Bool.or_eq_true, beq_iff_eq, decide_eq_true_eq] at this
    exact this.resolve_left ha9
  obtain ⟨q0, hq0⟩ := hR.cell (zOw a) i (Or.inl hoa) hi
  rw [zct_o hoa] at hq0
  have hrecv := va_recv hR.K hR.P (zCl_at hoa) hq0
  have hasm : as.map (zcv ad) = .ref (ad (zOw a) i) :: u.map (zcv ad) := by rw [has]; rfl
  have hlen2 : u.length + 1 = b := by rw [← hab, has]; rfl
  have hpl : ∀ sig, parseMethodDescriptor (zY a).desc = some sig → u.length = sig.parameters.length := by
    intro sig hpd
    rw [hpd] at hpar
    simp only [Option.map_some, Option.some.injEq] at hpar
    omega
  by_cases hex : ∃ q, r1 = some (zq (some q))
  · obtain ⟨q, rfl⟩ := hex
    have hk : zop (zHd y q.1) none (fun h => zEv n d y h L [zq (some (q.1, 0))] S1) = some (r, S') := hk
    obtain ⟨hh, hhd, hk⟩ := zop_e hk
    obtain ⟨hq3, hmx4, hrt0, ⟨kk, q1, q2, q3, z1, z2, z3⟩, pre, rest, ct, hht1, hct0, hclw, hpre⟩ := zHdl hhd
    obtain ⟨rfl, rfl⟩ := zEv_hd z1 z2 z3 hrt0 hk
    have hM := zMetX_of hoff ih hev hth hla hsas (by omega) ad dA ws tys
    have g1 := zEv_gr _ _ _ _ _ _ _ _ _ hev
    intro T hT X
    have hK : BackT l R p e below s args (zY a) 3 8 (PreOf R _ _ (zPcm A D xs N ad dA ws tys S as)) (zPostX (zQx A D xs N ad S S' q.1) _ _ A) :=
      z_backX (bytes := zB a) (maxL := zMx a) (ret := zRet a) hM zPcm.blind rfl rfl (hRoom e0 a S' hd m6).1 (hRoom e0 a S' hd m6).2 (pay_in hts (zGood (by omega) ha9)) List.mem_cons_self (fun a' U hW => word_at hW (zGW_good m4) (hts _ m4))
    obtain ⟨cellB, hcB, hoB, hclB⟩ := hrecv
    rw [hOwEq a ha] at hclB
    obtain ⟨v, vm₁, ⟨U', l2, c2, s2⟩, hW₁, X', ⟨g', mk, t', Lx, e1, e2, hq', h1, hL', h2, h3⟩, stp⟩ := z_callX X hx (own := zNm (zOw y)) (C := (zY a).cls) (index := i0) (y := zY a) (bytes := zB a) (maxL := zMx a) (ret := zRet a) hown (hts _ (zGW_of hw1 rfl)) (hts _ m2) (hts _ (m3 hk0)) (hts _ m1) (hNoMH a ha) hK (by rw [hT]; exact hcB) hoB hclB
      (g := F0 m 4 ls (st.map (zcv ad))) rfl (by rw [hml]; exact hl.2.1) (argsL := u.map (zcv ad)) (rest := t.map (zcv ad)) (fun sig h => by rw [List.length_map]; exact hpl sig h) (by rw [hst0, has]; simp [zcv, va_rf]) (lv_room (by rw [zwt_sum]; exact hwt)) (by rw [hb]; exact hdec)
      (fun vm₁ hW₁ => ⟨(hCells S' g1 ⟨Nat.le_refl _, Nat.le_refl _, fun _ => Nat.le_refl _, rfl⟩).1, (hCells S' g1 ⟨Nat.le_refl _, Nat.le_refl _, fun _ => Nat.le_refl _, rfl⟩).2, by have := hPre as (T.setVm vm₁) hT hW₁; rw [hasm] at this; exact this⟩)
    dsimp only [Pt.U, Pt.locs, Pt.cells, Pt.slots] at X' e1 e2 h1 h2 h3 stp
    subst h1; subst h2; subst h3
    obtain ⟨⟨x, hxv, ce, hce1, hce2, hce3⟩, ⟨ad', dA', ws', tys', r1', r2⟩, hF⟩ := hq'
    cases hxv
    have hce3 : s.vm.findClass (zXn q.1) = some ce.cls := by
      have h4 : vm₁.findClass (zXn q.1) = some ce.cls := hce3
      rw [hW₁.alike.findClass] at h4
      exact h4
    have hrow := hht _ hht1
    obtain ⟨xp, xr, hx1, hx2, hx3⟩ := List.map_eq_append_iff.mp hrow
    obtain ⟨xe, xs', hx4, hx5, hx6⟩ := List.map_eq_cons_iff.mp hx3
    subst hx4
    have hx5 : xe.startPc = 0 ∧ xe.endPc = 9 ∧ xe.handlerPc = hh ∧ xe.catchType = ct := by
      simp only [Prod.mk.injEq] at hx5
      exact hx5
    obtain ⟨xa, xb, xc, xd⟩ := hx5
    have hown' : s.vm.findClass "LeavingMachineLaw" = some m.cls := by rw [← hlaw]; exact hown
    have hself : s.vm.assignable ce.cls ce.cls = true := by
      have hw0 : Cond.castable (zXn q.1) (zXn q.1) ∈ zFc := by
        rcases hq3 with h | h | h <;> rw [h] <;> simp [zFc, zXn]
      obtain ⟨c3, t3, w1, w2, w3⟩ := Cond.castable_spec (args := #[]) (hX.2.2.2.2.2.2.2.2.2.2.2.1 _ hw0)
      cases hce3.symm.trans w1
      cases hce3.symm.trans w2
      exact w3
    obtain ⟨hend, hk0'⟩ := X'.catches_of_link hown' (x := xe) (by rw [xd]; exact hct0) (by rw [xd]; exact hts _ hclw) hce3 hself
    obtain ⟨vm', XV, stV⟩ := X'.thenCaughtThrough v (g := { F0 m 4 ls (st.map (zcv ad)) with stack := t.map (zcv ad) }) rfl stp (by rw [e1]; exact hce1) hce2 hk0' xp xe xs' hx1 (fun z hz => by
        rcases hpre with hp | ⟨hp1, hp2⟩
        · rw [hp, List.map_eq_nil_iff] at hx2
          rw [hx2] at hz
          cases hz
        · have hz2 : (z.startPc, z.endPc, z.handlerPc, z.catchType) = (0, 9, 12, 13) := by
            have : (z.startPc, z.endPc, z.handlerPc, z.catchType) ∈ pre := by rw [← hx2]; exact List.mem_map.mpr ⟨z, hz, rfl⟩
            rw [hp2] at this
            simpa using this
          simp only [Prod.mk.injEq] at hz2
          obtain ⟨c1, c2, y1, y2, y3⟩ := hX.2.2.2.2.2.2.2.2.2.2.2.2
          have hpl2 : e.platform.magicAccessors = ({} : Platform).magicAccessors := by rw [X.admits.platform]
          obtain ⟨c', hc', hcl⟩ := Cond.classLink_spec hown' (hts _ (zGW_of zClW.1 rfl)) e.platform hpl2
          cases y2.symm.trans hc'
          rw [hp1] at hce3
          cases hce3.symm.trans y1
          exact Or.inr ⟨by rw [hz2.2.2.2]; decide, c2, by rw [hz2.2.2.2]; exact hcl, y3⟩) (by simp [covers, xa, xb]) hend
    have hokh : ∀ {pc' : Nat} {ii : Instr} {q' : Nat × Nat × Nat × Nat}, zlk y pc' = some (ii, 1, q') → decode (zB y) pc' = .ok (ii, 1) := fun hz => by
      have hok := (zOkAll y hy).2 _ (zlk_mem hz)
      simp only [zEok, Bool.and_eq_true, decide_eq_true_eq] at hok
      exact hok.1.1
    have hsz := hF.1
    have key : W p l e R s m args below meth c U'.heap (locs ++ Lx) (cells + (S'.2.2.2.1 - S.2.2.2.1)) (slots + (S'.2.2.2.2.1 - S.2.2.2.2.1)) Q (F0 m hh ls [.ref v]) := by
      refine lv_astore_n hx hb (hokh z1) rfl hl.2 (by rw [hmx4]; decide) rfl (fun ls' _ => ?_)
      refine lv_iconst hx hb (hokh z2) rfl ?_
      have hal : t'.vm.Alike s.vm := by rw [← e2]; exact X'.warmed.alike.symm
      refine fin U'.heap (locs ++ Lx) _ _ ls' (hh + 2) [zi kk] ad' dA' ws' tys' ⟨Nat.le_trans hS.1 (by rw [e1, ← hT]; exact hF.1), fun q g1 g2 => ?_, fun q hq => ?_⟩ (by rw [e1]; exact r1'.moved hal) r2 (Or.inl ⟨q3, kk, z3, rfl, rfl, by rw [hrt0]; exact ⟨fun h => absurd h (by decide), fun h => absurd h (by decide)⟩⟩) (fun v hv => by
          simp only [List.mem_singleton] at hv
          subst hv
          trivial) (by have := g1.1; omega) (by have := g1.2.1; omega)
      · rw [e1, hF.2 q (by show q < T.heap.size; rw [hT]; exact Nat.lt_of_lt_of_le g1 hS.1) g2]
        show T.heap[q]? = _
        rw [hT]
        exact hS.2.1 q g1 g2
      · rcases List.mem_append.mp hq with h | h
        · exact hS.2.2 q h
        · exact hL' q h
    obtain ⟨t2, a1, b1⟩ := key (U'.setVm vm') rfl XV
    rw [xc] at stV
    exact ⟨t2, stV.trans a1, b1⟩
  · have hex : ∀ q, r1 ≠ some (zq (some q)) := fun q hq => hex ⟨q, hq⟩
    rw [zxr_no hex] at hk
    have hM := zMet_of ih e0 a as S r1 S1 hev ha ha9 hla hsas (Or.inr hex) ad dA ws tys
    refine goC e0 a as t r1 S1 hd hst0 hwt hla hev hk ?_
    have hCW : CallW R s args (zNm (zOw y)) (zY a).cls i0 (zY a) (zB a) (zMx a) (zRet a) (zWsY a) (zRm e0 (S1.2.2.2.1 - S.2.2.2.1) (S1.2.2.2.2.1 - S.2.2.2.2.1)) (S1.2.2.2.1 - S.2.2.2.1) (S1.2.2.2.2.1 - S.2.2.2.2.1) u.length := by
      refine cwV u.length hts (fun w hw => ?_) rfl rfl rfl ⟨rfl, (hNoMH a ha).1, (hNoMH a ha).2, ?_⟩ (hRoom e0 a S1 hd m6)
      · unfold wsV at hw
        simp only [List.cons_append, List.nil_append, List.mem_cons] at hw
        rcases hw with rfl | rfl | rfl | rfl | hw
        · exact ⟨zGW_of hw1 rfl, hwGood _ (zGW_of hw1 rfl)⟩
        · exact ⟨m2, hwGood _ m2⟩
        · exact ⟨m3 hk0, hwGood _ (m3 hk0)⟩
        · exact ⟨m4, hwGood _ m4⟩
        · exact zGood (by omega) ha9 w hw
      · cases hpd : parseMethodDescriptor (zY a).desc with
        | none => rw [hpd] at hpar; cases hpar
        | some sig =>
          rw [hpd] at hpar
          simp only [Option.map_some, Option.some.injEq] at hpar ⊢
          omega
    rw [hasm]
    exact va_runV (b := ad (zOw a) i) (As := u.map (zcv ad)) hC0 hM hCW ⟨zPcm.blind, by rw [← hOwEq a ha]; exact hrecv, fun U hU hW => by have := hPre as U hU hW; rw [hasm] at this; exact this⟩ rfl (by rw [List.length_map]) hl.2.1 (by rw [hst0, has]; simp [zcv, va_rf]) (lv_room (by rw [zwt_sum]; exact hwt)) hdec (hCells S1 (zEv_gr _ _ _ _ _ _ _ _ _ hev) (zEv_gr _ _ _ _ _ _ _ _ _ hk))
