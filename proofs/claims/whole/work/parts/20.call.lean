/-! calls -/
theorem zwt_sum {ad : zAd} : ∀ (t : List zV), ((t.map (zcv ad)).map fun v => v.category).sum = zwt t
  | [] => rfl
  | .inl x :: t => by
    rw [List.map_cons, List.map_cons, List.sum_cons, zwt_sum t]; rfl
  | .inr (.inl x) :: t => by
    rw [List.map_cons, List.map_cons, List.sum_cons, zwt_sum t]; rfl
  | .inr (.inr x) :: t => by
    rw [List.map_cons, List.map_cons, List.sum_cons, zwt_sum t, zcv_cat1 (fun n q => by cases q)]; rfl
section Cont
variable {p : Program} {l : Launch} {e : Env} {R : Room} {s : State} {m : MethodId} {args : Array Value} {below : List Frame} {meth : Method} {c : Code} {H : Heap} {locs : List Loc} {cells slots : Nat} {Q : State → Prop}
variable {pc : Nat} {ls : Array Slot} {rest st0 : List Value} {a : Array Value} {A : Nat → Prop} {D : va_G} {xs : Nat → Int32} {N : Nat} {ad : zAd} {S S1 : zS} {r : Option zV} {mc ms : Nat}
theorem z_cont (hr : va_Run p l e R s m args below meth c H locs cells slots mc ms (F0 m pc ls st0) rest (zQcm A D xs N ad S r S1 a) A) (hS : va_S A s.heap H locs)
    (kk : ∀ (ad' : zAd) (dA' : Nat → ClassId) (ws' : va_W) (tys' : List (ClassId × FieldType)) (H1 : Heap) (locs1 : List Loc), zRl A D xs N ad' dA' ws' tys' S1 s H1 → zAg S ad ad' → (∀ v, r = some v → zvok S1 v) → va_S A s.heap H1 locs1 → W p l e R s m args below meth c H1 locs1 (cells + mc) (slots + ms) Q (F0 m (pc + 3) ls ((r.map (zcv ad')).toList ++ rest))) :
    W p l e R s m args below meth c H locs cells slots Q (F0 m pc ls st0) := by
  intro T hT X
  obtain ⟨v, st₀, t, T', L, h0, X', hL, e1, e2, ⟨⟨ad', dA', ws', tys', hv, g1, g2, g3⟩, hz, hk⟩, st⟩ := hr T hT X
  cases hv
  rw [h0] at hz hk
  have hal : t.vm.Alike s.vm := by rw [← e2]; exact X'.warmed.alike.symm
  obtain ⟨t2, a1, b1⟩ := kk ad' dA' ws' tys' T'.heap (locs ++ L) (by rw [e1]; exact g1.moved hal) g2 g3
    ⟨Nat.le_trans hS.1 (by rw [e1]; exact hz), fun q h1 h2 => by rw [e1, hk q (Nat.lt_of_lt_of_le h1 hS.1) h2]; exact hS.2.1 q h1 h2, fun q hq => by
      rcases List.mem_append.mp hq with h | h
      · exact hS.2.2 q h
      · exact hL q h⟩ T' rfl X'
  exact ⟨t2, st t2 a1, b1⟩
end Cont
theorem zThrOk : (zCd 128).all (fun e => match e.2.1 with
    | .invokevirtual _ => !zThr e.2.2.2.1
    | _ => true) = true := by decide +kernel
/-- calls of the claim's own methods -/
def zOwn (i : Instr) (a cd : Nat) : Prop := match i with
  | .invokevirtual _ => cd ≠ 6 ∧ zThr a = false
  | .invokestatic _ => cd ≠ 5 ∧ (zP a).2.2.2.2 ≠ 9
  | .invokespecial _ => cd ≠ 4 ∧ cd ≠ 7
  | _ => False
theorem zNoMH : (List.range 128).all (fun y' => decide ((zY y').cls ≠ "java/lang/invoke/MethodHandle") && decide ((zY y').cls ≠ "java/lang/invoke/VarHandle")) = true := by decide +kernel
theorem zOwOk : (List.range 128).all (fun y => (zP y).2.2.2.2 == 9 || decide (zOw y < 12)) = true := by decide +kernel
set_option maxHeartbeats 8000000 in
set_option maxRecDepth 100000 in
theorem zBd_call {l : Launch} {A : Nat → Prop} {D : va_G} {xs : Nat → Int32} {N n : Nat} (ih : zBd l A D xs N n)
    {d y pc : Nat} {L : zL} {st : List zV} {S : zS} {r : Option zV} {S' : zS} (hy : y < 129)
    {p : Program} {e : Env} {R : Room} {s : State} {m : MethodId} {args : Array Value} {below : List Frame} {meth : Method} {c : Code} {Q : State → Prop} {H : Heap} {locs : List Loc} {cells slots : Nat} {ls : Array Slot} {ad : zAd} {dA : Nat → ClassId} {ws : va_W} {tys : List (ClassId × FieldType)}
    (hC : zCx y p s m args meth c) (hS : va_S A s.heap H locs) (hR : zRl A D xs N ad dA ws tys S s H) (hX : zXs A ad xs N s s.heap) (hl : zLv ls (zMx y) ad L) (hL : zLok S L) (hst : zSok S st) (hfr : d ≤ R.frames) (hlo : 32 * d ≤ R.locals) (hce : cells + S'.2.2.2.1 ≤ R.cells + S.2.2.2.1) (hsl : slots + S'.2.2.2.2.1 ≤ R.slots + S.2.2.2.2.1)
    (fin : ∀ (H' : Heap) (locs' : List Loc) (cells' slots' : Nat) (ls' : Array Slot) (pc' : Nat) (st' : List zV) (ad' : zAd) (dA' : Nat → ClassId) (ws' : va_W) (tys' : List (ClassId × FieldType)), va_S A s.heap H' locs' → zRl A D xs N ad' dA' ws' tys' S' s H' → zAg S ad ad' → zEnd y pc' st' r → zSok S' st' → cells' + S.2.2.2.1 = cells + S'.2.2.2.1 → slots' + S.2.2.2.2.1 = slots + S'.2.2.2.2.1 →
      W p l e R s m args below meth c H' locs' cells' slots' Q (F0 m pc' ls' (st'.map (zcv ad'))))
    (finX : ∀ (H' : Heap) (locs' : List Loc) (cells' slots' : Nat) (ls' : Array Slot) (pc' : Nat) (st' : List zV) (ad' : zAd) (dA' : Nat → ClassId) (ws' : va_W) (tys' : List (ClassId × FieldType)) (x a b q : Nat), va_S A s.heap H' locs' → zRl A D xs N ad' dA' ws' tys' S' s H' → zAg S ad ad' → zlk y pc' = some (.new x, 3, a, b, 7, q) → (st' = [] ∧ ls'.size = zMx y) → r = some (zq (some (a, 0))) → cells' + 1 + S.2.2.2.1 = cells + S'.2.2.2.1 → slots' + b + S.2.2.2.2.1 = slots + S'.2.2.2.2.1 →
      W p l e R s m args below meth c H' locs' cells' slots' Q (F0 m pc' ls' (st'.map (zcv ad'))))
    {i : Instr} {len a b cd pp : Nat} (hq : zlk y pc = some (i, len, a, b, cd, pp)) (h : zStep i len a b cd pc y L st S (fun p L s S => zEv n d y p L s S) (fun y' as S κ => zCall (zEv n) d y' as S κ) (fun r S => some (r, S)) none = some (r, S'))
    (hni : zOwn i a cd) :
    W p l e R s m args below meth c H locs cells slots Q (F0 m pc ls (st.map (zcv ad))) := by
  obtain ⟨hx, hb, hml, hown, hts, hnm, hht⟩ := hC
  have hC : zCx y p s m args meth c := ⟨hx, hb, hml, hown, hts, hnm, hht⟩
  have hok := (zOkAll y hy).2 _ (zlk_mem hq)
  simp only [zEok, Bool.and_eq_true, decide_eq_true_eq] at hok
  obtain ⟨⟨hdec, hlen⟩, hw⟩ := hok
  have hC0 : CallFix p m c (zB y) (zMx y) s args zGW (zNm (zOw y)) := ⟨hx, hb, hml, hown, hts⟩
  have goC : ∀ (e0 y' : Nat) (as t : List zV) (r1 : Option zV) (S1 : zS), d = e0 + 1 → st = as.reverse ++ t → zwt t ≤ 8 → (zargs as).length ≤ zMx y' → zEv n e0 y' 0 (zent (zMx y') as) [] S = some (r1, S1) → zEv n d y (pc + 3) L (r1.toList ++ t) S1 = some (r, S') →
      va_Run p l e R s m args below meth c H locs cells slots (S1.2.2.2.1 - S.2.2.2.1) (S1.2.2.2.2.1 - S.2.2.2.2.1) (F0 m pc ls (st.map (zcv ad))) (t.map (zcv ad)) (zQcm A D xs N ad S r1 S1 (as.map (zcv ad)).toArray) A →
      W p l e R s m args below meth c H locs cells slots Q (F0 m pc ls (st.map (zcv ad))) := by
    intro e0 y' as t r1 S1 hd hst0 hwt hla hev hk hrun
    have g1 := zEv_gr _ _ _ _ _ _ _ _ _ hev
    have g2 := zEv_gr _ _ _ _ _ _ _ _ _ hk
    refine z_cont hrun hS (fun ad' dA' ws' tys' H1 locs1 k1 k2 k3 k4 => ?_)
    have hst1 : zSok S t := fun v hv => hst v (by rw [hst0]; exact List.mem_append_right _ hv)
    have e1 : ((r1.map (zcv ad')).toList ++ t.map (zcv ad)) = (r1.toList ++ t).map (zcv ad') := by
      rw [List.map_append, k2.st hst1]
      cases r1 <;> rfl
    rw [e1]
    refine ih d y (pc + 3) L (r1.toList ++ t) S1 r S' hk hy p e R s m args below meth c Q H1 locs1 _ _ ls ad' dA' ws' tys' hC k4 k1 ?_ (k2.lv hL hl) (hL.le g1.2.2.1) ?_ hfr hlo ?_ ?_ ?_ ?_
    · obtain ⟨x1, x2, x3, x4, x5, x6, x7⟩ := hX
      have hw : ∀ i, i < 6 → ad' 90 i = ad 90 i := fun i hi => k2 90 i (by rw [hR.c90]; exact hi)
      have hb9 : ad' 99 0 = ad 99 0 := k2 99 0 (by rw [hR.c99]; omega)
      refine ⟨x1, x2, fun i hi => ?_, ?_, ?_, x6, x7.ad (k2 91 0 (by rw [hR.c91]; omega))⟩
      · rw [hw i hi]; exact x3 i hi
      · rw [hb9]; exact x4
      · rw [hb9]; exact x5
    · intro v hv
      rcases List.mem_append.mp hv with hv | hv
      · cases r1 with
        | none => cases hv
        | some w =>
          simp only [Option.toList_some, List.mem_singleton] at hv
          subst hv
          exact k3 _ rfl
      · exact (hst1 v hv).le g1.2.2.1
    · have := g1.1; have := g2.1; omega
    · have := g1.2.1; have := g2.2.1; omega
    · intro H' locs' cells' slots' ls' pc' st' ad2 dA2 ws2 tys2 f1 f2 f3 f4 f5 f6 f7
      have := g1.1; have := g1.2.1
      exact fin H' locs' cells' slots' ls' pc' st' ad2 dA2 ws2 tys2 f1 f2 (k2.trans g1.2.2.1 f3) f4 f5 (by omega) (by omega)
    · intro H' locs' cells' slots' ls' pc' st' ad2 dA2 ws2 tys2 x a' b' q' f1 f2 f3 f4 f0 f5 f6 f7
      have := g1.1; have := g1.2.1
      exact finX H' locs' cells' slots' ls' pc' st' ad2 dA2 ws2 tys2 x a' b' q' f1 f2 (k2.trans g1.2.2.1 f3) f4 f0 f5 (by omega) (by omega)
  have hPre : ∀ (as : List zV) (U : State), U.heap = H → s.WarmedH U.vm → zPcm A D xs N ad dA ws tys S as (as.map (zcv ad)).toArray U := fun as U hU hW => ⟨rfl, by rw [hU]; exact hR.moved hW.alike, by rw [hU]; exact hX.warm hS hW⟩
  have hOwEq : ∀ y', y' < 128 → zNm (zOw y') = (zY y').cls := fun y' hy' => by unfold zOw; rw [if_neg (by omega)]; rfl
  have hRoom : ∀ (e0 y' : Nat) (S1 : zS), d = e0 + 1 → zMx y' ≤ 9 → (zRm e0 (S1.2.2.2.1 - S.2.2.2.1) (S1.2.2.2.2.1 - S.2.2.2.2.1)).frames + 1 ≤ R.frames ∧ 8 + (zMx y' + 11) + (zRm e0 (S1.2.2.2.1 - S.2.2.2.1) (S1.2.2.2.2.1 - S.2.2.2.2.1)).locals ≤ R.locals := by
    intro e0 y' S1 hd h9
    subst hd
    refine ⟨hfr, ?_⟩
    show 8 + (zMx y' + 11) + 32 * e0 ≤ R.locals
    omega
  have hCells : ∀ (S1 : zS), zGr S S1 → zGr S1 S' → cells + (S1.2.2.2.1 - S.2.2.2.1) ≤ R.cells ∧ slots + (S1.2.2.2.2.1 - S.2.2.2.2.1) ≤ R.slots := fun S1 g1 g2 => by
    have := g1.1; have := g2.1; have := g1.2.1; have := g2.2.1
    exact ⟨by omega, by omega⟩
  have hNoMH : ∀ y', y' < 128 → (zY y').cls ≠ "java/lang/invoke/MethodHandle" ∧ (zY y').cls ≠ "java/lang/invoke/VarHandle" := by
    intro y' hy'
    have : (List.range 128).all (fun y' => decide ((zY y').cls ≠ "java/lang/invoke/MethodHandle") && decide ((zY y').cls ≠ "java/lang/invoke/VarHandle")) = true := zNoMH
    have h1 := List.all_eq_true.mp this y' (List.mem_range.mpr hy')
    rw [Bool.and_eq_true, decide_eq_true_eq, decide_eq_true_eq] at h1
    exact h1
  have hwGood : ∀ w ∈ zGW, (w.onTables && w.keeps) = true ∨ ∃ ty, w = .arrayClass ty := fun w hw => zGW_good hw
  cases i with
  | invokevirtual i0 =>
    unfold zStep at h
    try dsimp only at h
    obtain rfl : len = 3 := zlen_of hlen rfl rfl
    simp only [zEw, Bool.or_eq_true, Bool.and_eq_true, decide_eq_true_eq] at hw
    obtain ⟨hni, hth0⟩ : cd ≠ 6 ∧ zThr a = false := hni
    rcases hw with hw | ⟨⟨⟨⟨⟨hth, hw1⟩, hc0⟩, ha⟩, hk0⟩, hpar⟩
    · exact absurd hw hni
    have hth : zThr a = false := hth0
    have ha9 : (zP a).2.2.2.2 ≠ 9 := by rw [hk0]; decide
    obtain ⟨m1, m2, m3, m4, m5, m6, m7⟩ := zMok_e (by omega) ha9
    obtain ⟨as, t, hab, hst0, hwt, h_1⟩ := zinv_e h
    obtain ⟨i, u, has, h_2⟩ := zrec_e h_1
    rw [if_neg (by rw [hth]; decide)] at h_2
    rcases zCall_e h_2 with ⟨q9, -⟩ | ⟨-, e0, r1, S1, hd, hla, hev, hk⟩
    · omega
    have hsas : zSok S as := fun v hv => hst v (by rw [hst0]; exact List.mem_append_left _ (List.mem_reverse.mpr hv))
    have hi : i < S.2.2.1 (zOw a) := hsas (zq (some (zOw a, i))) (by rw [has]; exact List.mem_cons_self)
    have hoa : zOw a < 12 := by
      have := List.all_eq_true.mp zOwOk a (List.mem_range.mpr ha)
      rw [Bool.or_eq_true, beq_iff_eq, decide_eq_true_eq] at this
      exact this.resolve_left ha9
    obtain ⟨q0, hq0⟩ := hR.cell (zOw a) i (Or.inl hoa) hi
    rw [zct_o hoa] at hq0
    have hrecv := va_recv hR.K hR.P (zCl_at hoa) hq0
    have hM := zMet_of ih e0 a as S r1 S1 hev ha ha9 hla hsas (Or.inl hth) ad dA ws tys
    refine goC e0 a as t r1 S1 hd hst0 hwt hla hev hk ?_
    have hasm : as.map (zcv ad) = .ref (ad (zOw a) i) :: u.map (zcv ad) := by rw [has]; rfl
    have hlen2 : u.length + 1 = b := by rw [← hab, has]; rfl
    have hCW : CallW R s args (zNm (zOw y)) (zY a).cls i0 (zY a) (zB a) (zMx a) (zRet a) (zWsY a) (zRm e0 (S1.2.2.2.1 - S.2.2.2.1) (S1.2.2.2.2.1 - S.2.2.2.2.1)) (S1.2.2.2.1 - S.2.2.2.1) (S1.2.2.2.2.1 - S.2.2.2.2.1) u.length := by
      refine cwV u.length hts (fun w hw => ?_) rfl rfl rfl ⟨rfl, (hNoMH a ha).1, (hNoMH a ha).2, ?_⟩ (hRoom e0 a S1 hd m6)
      · unfold wsV at hw
        simp only [List.cons_append, List.nil_append, List.mem_cons] at hw
        have m2 : Cond.instanceMethod (zY a) ∈ zGW := by rw [if_neg (by rw [hk0]; decide)] at m2; exact m2
        rcases hw with rfl | rfl | rfl | rfl | hw
        · exact ⟨zGW_of hw1 rfl, hwGood _ (zGW_of hw1 rfl)⟩
        · exact ⟨m2, hwGood _ m2⟩
        · exact ⟨m3 hk0, hwGood _ (m3 hk0)⟩
        · exact ⟨m4, hwGood _ m4⟩
        · exact zGood (by omega) ha9 w hw
      · cases hpd : parseMethodDescriptor (zY a).desc with
        | none => rw [hpd] at hpar; cases hpar
        | some sig =>
          rw [hpd] at hpar
          simp only [Option.map_some, Option.some.injEq] at hpar ⊢
          omega
    rw [hasm]
    exact va_runV (b := ad (zOw a) i) (As := u.map (zcv ad)) hC0 hM hCW ⟨zPcm.blind, by rw [← hOwEq a ha]; exact hrecv, fun U hU hW => by have := hPre as U hU hW; rw [hasm] at this; exact this⟩ rfl (by rw [List.length_map]) hl.2.1 (by rw [hst0, has]; simp [zcv, va_rf]) (lv_room (by rw [zwt_sum]; exact hwt)) hdec (hCells S1 (zEv_gr _ _ _ _ _ _ _ _ _ hev) (zEv_gr _ _ _ _ _ _ _ _ _ hk))
  | invokestatic i0 =>
    unfold zStep at h
    try dsimp only at h
    obtain rfl : len = 3 := zlen_of hlen rfl rfl
    simp only [zEw, Bool.or_eq_true, Bool.and_eq_true, decide_eq_true_eq, beq_iff_eq] at hw
    obtain ⟨hn5, ha9⟩ : cd ≠ 5 ∧ (zP a).2.2.2.2 ≠ 9 := hni
    rcases hw with (hw | hw) | ⟨⟨⟨⟨hw1, hc1⟩, ha⟩, hk1⟩, hpar⟩
    · exact absurd hw hn5
    · exact absurd hw ha9
    have hth : zThr a = false := by
      cases hz : zThr a with
      | false => rfl
      | true =>
        have : ∀ a, zThr a = true → (zP a).2.2.2.2 = 0 := by
          intro a hz
          simp only [zThr, Bool.or_eq_true, beq_iff_eq] at hz
          rcases hz with (((rfl | rfl) | rfl) | rfl) | rfl <;> decide +kernel
        rw [this a hz] at hk1; cases hk1
    obtain ⟨m1, m2, m3, m4, m5, m6, m7⟩ := zMok_e (by omega) ha9
    rw [if_pos hk1] at m2
    obtain ⟨as, t, hab, hst0, hwt, h_1⟩ := zinv_e h
    rcases zCall_e h_1 with ⟨q9, -⟩ | ⟨-, e0, r1, S1, hd, hla, hev, hk⟩
    · omega
    have hsas : zSok S as := fun v hv => hst v (by rw [hst0]; exact List.mem_append_left _ (List.mem_reverse.mpr hv))
    have hM := zMet_of ih e0 a as S r1 S1 hev ha ha9 hla hsas (Or.inl hth) ad dA ws tys
    refine goC e0 a as t r1 S1 hd hst0 hwt hla hev hk ?_
    have hoo : zOw a = zOw y := by
      have := zRtI hy hq
      dsimp only at this
      rw [decide_eq_true_eq] at this
      exact this hc1 ha9
    have hCW : CallB R s args (zNm (zOw y)) i0 (zY a) (zB a) (zMx a) (zRet a) (zWsY a) (zRm e0 (S1.2.2.2.1 - S.2.2.2.1) (S1.2.2.2.2.1 - S.2.2.2.2.1)) (S1.2.2.2.1 - S.2.2.2.1) (S1.2.2.2.2.1 - S.2.2.2.2.1) as.length ∧ (Cond.static (zY a)).before args s = true := by
      refine cwS as.length hts (fun w hw => ?_) rfl rfl rfl ⟨by rw [← hOwEq a ha, hoo], (hNoMH a ha).1, (hNoMH a ha).2, ?_⟩ (hRoom e0 a S1 hd m6)
      · unfold wsS at hw
        simp only [List.cons_append, List.nil_append, List.mem_cons] at hw
        have m4' : Cond.initialized (zNm (zOw y)) ∈ zGW := by rw [← hoo, hOwEq a ha]; exact m4
        rcases hw with rfl | rfl | rfl | hw
        · exact ⟨zGW_of hw1 rfl, hwGood _ (zGW_of hw1 rfl)⟩
        · exact ⟨m2, hwGood _ m2⟩
        · exact ⟨m4', hwGood _ m4'⟩
        · exact zGood (by omega) ha9 w hw
      · cases hpd : parseMethodDescriptor (zY a).desc with
        | none => rw [hpd] at hpar; cases hpar
        | some sig =>
          rw [hpd] at hpar
          simp only [Option.map_some, Option.some.injEq] at hpar ⊢
          omega
    exact va_runS (As := as.map (zcv ad)) hC0 hM hCW ⟨zPcm.blind, fun U hU hW => hPre as U hU hW⟩ rfl (by rw [List.length_map]) hl.2.1 (by rw [hst0]; simp) (lv_room (by rw [zwt_sum]; exact hwt)) hdec (hCells S1 (zEv_gr _ _ _ _ _ _ _ _ _ hev) (zEv_gr _ _ _ _ _ _ _ _ _ hk))
  | invokespecial i0 =>
    unfold zStep at h
    try dsimp only at h
    obtain rfl : len = 3 := zlen_of hlen rfl rfl
    simp only [zEw, Bool.or_eq_true, Bool.and_eq_true, decide_eq_true_eq] at hw
    obtain ⟨hn4, hn7⟩ : cd ≠ 4 ∧ cd ≠ 7 := hni
    rcases hw with (hw | hw) | ⟨⟨⟨ha, hk2⟩, hpar⟩, hlk⟩
    · exact absurd hw hn7
    · exact absurd hw.1 hn4
    rw [if_neg hn4] at h
    have ha9 : (zP a).2.2.2.2 ≠ 9 := by rw [hk2]; decide
    have hth : zThr a = false := by
      cases hz : zThr a with
      | false => rfl
      | true =>
        have : ∀ a, zThr a = true → (zP a).2.2.2.2 = 0 := by
          intro a hz
          simp only [zThr, Bool.or_eq_true, beq_iff_eq] at hz
          rcases hz with (((rfl | rfl) | rfl) | rfl) | rfl <;> decide +kernel
        rw [this a hz] at hk2; cases hk2
    obtain ⟨m1, m2, m3, m4, m5, m6, m7⟩ := zMok_e (by omega) ha9
    obtain ⟨hnm1, hrn⟩ := m7 hk2
    have m2 : Cond.instanceMethod (zY a) ∈ zGW := by rw [if_neg (by rw [hk2]; decide)] at m2; exact m2
    obtain ⟨as, t, hab, hst0, hwt, h_1⟩ := zinv_e h
    obtain ⟨i, u, has, h_2⟩ := zrec_e h_1
    rcases zCall_e h_2 with ⟨q9, -⟩ | ⟨-, e0, r1, S1, hd, hla, hev, hk⟩
    · omega
    have hsas : zSok S as := fun v hv => hst v (by rw [hst0]; exact List.mem_append_left _ (List.mem_reverse.mpr hv))
    have hM := zMet_of ih e0 a as S r1 S1 hev ha ha9 hla hsas (Or.inl hth) ad dA ws tys
    refine goC e0 a as t r1 S1 hd hst0 hwt hla hev hk ?_
    have hasm : as.map (zcv ad) = .ref (ad (zOw a) i) :: u.map (zcv ad) := by rw [has]; rfl
    have hlen2 : u.length + 1 = b := by rw [← hab, has]; rfl
    have hpn : (parseMethodDescriptor (zY a).desc).map (fun d => d.parameters.length) = some u.length := by
      cases hpd : parseMethodDescriptor (zY a).desc with
      | none => rw [hpd] at hpar; cases hpar
      | some sig =>
        rw [hpd] at hpar
        simp only [Option.map_some, Option.some.injEq] at hpar ⊢
        omega
    have hP2 : PreS s H (zPcm A D xs N ad dA ws tys S as) (.ref (ad (zOw a) i) :: u.map (zcv ad)) := ⟨zPcm.blind, fun U hU hW => by have := hPre as U hU hW; rw [hasm] at this; exact this⟩
    have hwsY : zWsY a = Cond.code (zY a) (zB a) (zMx a) none :: zGW := by unfold zWsY; rw [hrn]
    rw [hasm]
    rcases hlk with ⟨hc2, hw1⟩ | ⟨⟨hc3, hw1⟩, hnp⟩
    · exact va_runI (b := ad (zOw a) i) (As := u.map (zcv ad)) hC0 hM (cwI u.length hts (zGood (by omega) ha9) hwsY rfl rfl (hts _ m4) (hts _ (zGW_of hw1 rfl)) (hts _ m2) hnm1 ⟨(hNoMH a ha).1, (hNoMH a ha).2, hpn⟩ (hRoom e0 a S1 hd m6)) hP2 rfl (by rw [List.length_map]) hl.2.1 (by rw [hst0, has]; simp [zcv, va_rf]) (lv_room (by rw [zwt_sum]; exact hwt)) hdec (hCells S1 (zEv_gr _ _ _ _ _ _ _ _ _ hev) (zEv_gr _ _ _ _ _ _ _ _ _ hk))
    · exact va_runIN (b := ad (zOw a) i) (As := u.map (zcv ad)) hC0 hM ⟨va_cnB u.length hts (zGood (by omega) ha9) hwsY rfl rfl (hX.1 pp hnp _ hw1) (hts _ m4) ⟨(hNoMH a ha).1, (hNoMH a ha).2, hpn⟩ (hRoom e0 a S1 hd m6), hnm1, hts _ m2⟩ hP2 rfl (by rw [List.length_map]) hl.2.1 (by rw [hst0, has]; simp [zcv, va_rf]) (lv_room (by rw [zwt_sum]; exact hwt)) hdec (hCells S1 (zEv_gr _ _ _ _ _ _ _ _ _ hev) (zEv_gr _ _ _ _ _ _ _ _ _ hk))
  | _ => exact hni.elim
