/-! a call that throws -/
def zQx (A : Nat → Prop) (D : va_G) (xs : Nat → Int32) (N : Nat) (ad : zAd) (S S' : zS) (a : Nat) : Array Value → State → Outcome → State → Prop := fun _ st o t =>
  (∃ x : Nat, o = .threw x ∧ ∃ ce : Cell, t.heap[x]? = some ce ∧ ce.vm.isStatics = false ∧ st.vm.findClass (zXn a) = some ce.cls) ∧
  (∃ (ad' : zAd) (dA' : Nat → ClassId) (ws' : va_W) (tys' : List (ClassId × FieldType)), zRl A D xs N ad' dA' ws' tys' S' t t.heap ∧ zAg S ad ad') ∧ va_F A st t
def zMetF (l : Launch) (y : MethodName) (ws : List Cond) (rm : Room) (Pc : Array Value → State → Prop) (Qc : Array Value → State → Outcome → State → Prop) (mc ms : Nat) (free : Addr → Prop) : Prop :=
  MetFree l y (headSpec ws rm) Pc (fun _ _ _ _ _ => True) (fun a st o t => Qc a st o t ∧ ∃ L, FrameEndT st o t L mc ms ∧ ∀ q ∈ L, free q.base)
theorem zRl.heap {A : Nat → Prop} {D : va_G} {xs : Nat → Int32} {N : Nat} {ad : zAd} {dA : Nat → ClassId} {ws : va_W} {tys : List (ClassId × FieldType)} {S : zS} {U : State} {H H1 : Heap} (h : zRl A D xs N ad dA ws tys S U H) (hk : ∀ (q : Nat) (cell : Cell), H[q]? = some cell → H1[q]? = some cell) : zRl A D xs N ad dA ws tys S U H1 :=
  ⟨fun q0 e he => (h.P q0 e he).kept (by
    have e1 := Array.getElem?_eq_getElem (h.P q0 e he).lt
    rw [e1]
    exact hk _ _ e1), h.2⟩
theorem zThr_i {y : Nat} (h : zThr y = true) : y < 128 ∧ (zP y).2.2.2.2 = 0 ∧ zRet y = some .int := by
  unfold zThr at h
  simp only [Bool.or_eq_true, beq_iff_eq] at h
  rcases h with (((rfl | rfl) | rfl) | rfl) | rfl <;> exact ⟨by decide, rfl, rfl⟩
set_option maxHeartbeats 4000000 in
set_option maxRecDepth 100000 in
theorem zMetX_of {l : Launch} (hoff : ∀ e : Env, l.admits e → e.platform.stackTraces = false) {A : Nat → Prop} {D : va_G} {xs : Nat → Int32} {N n : Nat} (hB : zBd l A D xs N n)
    {d y : Nat} {as : List zV} {S : zS} {q : Nat × Nat} {S' : zS} (h : zEv n d y 0 (zent (zMx y) as) [] S = some (some (zq (some q)), S')) (hth : zThr y = true) (hlen : (zargs as).length ≤ zMx y) (hok : zSok S as) (hd : 14 ≤ d) (ad : zAd) (dA : Nat → ClassId) (ws : va_W) (tys : List (ClassId × FieldType)) :
    zMetF l (zY y) (zWsY y) (zRm d (S'.2.2.2.1 - S.2.2.2.1) (S'.2.2.2.2.1 - S.2.2.2.2.1)) (zPcm A D xs N ad dA ws tys S as) (zQx A D xs N ad S S' q.1) (S'.2.2.2.1 - S.2.2.2.1) (S'.2.2.2.2.1 - S.2.2.2.2.1) A := by
  obtain ⟨hy, hk0, hri⟩ := zThr_i hth
  have h9 : (zP y).2.2.2.2 ≠ 9 := by rw [hk0]; decide
  have hy' : y < 129 := by omega
  obtain ⟨m1, m2, m3, m4, m5, m6, m7⟩ := zMok_e hy' h9
  refine MetFree.of_bodyS (code := zB y) (maxLocals := zMx y) (ret := zRet y) m5 ?_ ?_
  · intro args s m hpre hn
    obtain ⟨meth, c, h1, h2, h3, h4, h5, h6, -⟩ := Cond.code_spec hn (atoms_spec (ws := zWsY y) hpre _ List.mem_cons_self)
    exact ⟨meth, c, h1, h2, h3, h4, h5, h6⟩
  · intro p e s m args below meth c s₁ B hml hv _
    obtain ⟨rfl, hR, hX⟩ := hv
    have hts := atoms_spec (ws := zWsY y) B.pre
    have hown : s.vm.findClass (zNm (zOw y)) = some m.cls := by
      have h1 : s.vm.findClass (zY y).cls = some m.cls := findClass_of_methodNamed B.named
      have h2 : zOw y = (zMe y).1 := by unfold zOw; rw [if_neg (by omega)]
      rw [h2]; exact h1
    have hht : ∀ h, zHt y = some h → c.exceptionTable.toList.map (fun x => (x.startPc, x.endPc, x.handlerPc, x.catchType)) = h := by
      intro h hh
      obtain ⟨me2, c2, q1, q2, -, -, -, -, q3, -⟩ := Cond.code_spec B.named (hts _ List.mem_cons_self)
      cases B.method.symm.trans q1
      cases (Stand.of_body B).code.symm.trans q2
      have h0 : zHt y = some [] := by
        have := List.all_eq_true.mp zHtOk y (List.mem_range.mpr hy)
        simp only [Bool.or_eq_true, beq_iff_eq, decide_eq_true_eq] at this
        exact this.resolve_left h9
      cases h0.symm.trans hh
      have : c.exceptionTable = #[] := by simpa using q3
      rw [this]; rfl
    have hC : zCx y p s m (as.map (zcv ad)).toArray meth c := ⟨B.exec, B.bytes, hml, hown, fun w hw => hts w (List.mem_cons_of_mem _ hw), (name_of_methodNamed B.named B.method).1, hht⟩
    have hg := zEv_grow h
    have key : W p l e (headSpec (zWsY y) (zRm d (S'.2.2.2.1 - S.2.2.2.1) (S'.2.2.2.2.1 - S.2.2.2.2.1))).room s m (as.map (zcv ad)).toArray below meth c s.heap [] 0 0
        (fun t => ∃ o, t.status = .running ∧ Ended t below o ∧ (zQx A D xs N ad S S' q.1 (as.map (zcv ad)).toArray s o t ∧ ∃ L, FrameEndT s o t L (S'.2.2.2.1 - S.2.2.2.1) (S'.2.2.2.2.1 - S.2.2.2.2.1) ∧ ∀ q ∈ L, A q.base)) (entryFrame m (as.map (zcv ad)).toArray (zMx y)) := by
      rw [lg_entry_eq]
      refine hB d y 0 _ [] S _ S' h hy' p e _ s m _ below meth c _ s.heap [] 0 0 _ ad dA ws tys hC va_S.rf hR hX (zent_lv hlen) (zent_ok hok) (fun v hv => by cases hv) (Nat.le_refl _) (Nat.le_refl _) ?_ ?_ ?_ ?_
      · show 0 + S'.2.2.2.1 ≤ (S'.2.2.2.1 - S.2.2.2.1) + S.2.2.2.1; omega
      · show 0 + S'.2.2.2.2.1 ≤ (S'.2.2.2.2.1 - S.2.2.2.2.1) + S.2.2.2.2.1; omega
      · intro H' locs' cells' slots' ls' pc' st' ad' dA' ws' tys' f1 f2 f3 f4 f5 f6 f7
        exfalso
        rcases f4 with ⟨q', x, e1, -, e3, -⟩ | ⟨q', x, e1, -, -⟩ | ⟨q', e1, -, e3⟩
        · cases e3
        · have ht := zRtI hy' e1
          dsimp only at ht
          rw [hri] at ht
          cases ht
        · cases e3
      · intro H' locs' cells' slots' ls' pc' st' ad' dA' ws' tys' x a b q' f1 f2 f3 f4 f0 f5 f6 f7
        obtain ⟨rfl, hls⟩ := f0
        cases f5
        have hb6 : b = 6 := by
          have hm := List.all_eq_true.mp (List.all_eq_true.mp zXsOk y (List.mem_range.mpr hy')) _ (zlk_mem f4)
          simp only [ne_eq, not_true_eq_false, decide_false, Bool.false_or, Bool.and_eq_true, decide_eq_true_eq] at hm
          exact hm.1.1.1.1.1.1.1.2
        subst hb6
        have hc1 : cells' + 1 = S'.2.2.2.1 - S.2.2.2.1 := by omega
        have hs1 : slots' + 6 = S'.2.2.2.2.1 - S.2.2.2.2.1 := by omega
        intro T hT X
        obtain ⟨U, st, x1, h1, h2, h3, h4, h5, h6, h7, ce, h8, h10, h11⟩ := z_thrW hoff (R := (headSpec (zWsY y) (zRm d (S'.2.2.2.1 - S.2.2.2.1) (S'.2.2.2.2.1 - S.2.2.2.2.1))).room) (ad := ad) (A := A) (e := e) (below := below) hy' hC hX.2.2.2.2.2.2 f1 f4 hls B.notSynchronized (by show 6 ≤ d; omega) (by show 90 ≤ 32 * d; omega) (by show cells' + 1 ≤ S'.2.2.2.1 - S.2.2.2.1; omega) (by show slots' + 6 ≤ S'.2.2.2.2.1 - S.2.2.2.2.1; omega) T hT X
        refine ⟨U, st, .threw x1, h1, h2, ⟨⟨x1, rfl, ce, h8, h10, h11⟩, ⟨ad', dA', ws', tys', (f2.moved h3.alike).heap h6, f3⟩, Nat.le_trans f1.1 h5, fun q g1 g2 => ?_⟩, locs', ⟨⟨x1, rfl⟩, h3, by rw [← hc1, ← hs1]; exact h4⟩, f1.2.2⟩
        have e1 := Array.getElem?_eq_getElem g1
        rw [e1]
        refine h6 q _ ?_
        rw [f1.2.1 q g1 g2]
        exact e1
    have hh0 : s₁.heap = s.heap := by rw [B.state]; rfl
    obtain ⟨t, a1, o, b1, b2, b3⟩ := key s₁ hh0 (Stand.of_body B)
    exact ⟨t, o, a1, b1, b2, b3⟩
def zPostX (Qc : Array Value → State → Outcome → State → Prop) (mc ms : Nat) (free : Addr → Prop) : Pt → Array Value → Addr → Pt → Prop := fun A a v B =>
  ∃ (g : JFrame) (mk : MethodId) (t : State) (L : List Loc), B.U.heap = t.heap ∧ B.U.vm = t.vm ∧ Qc a (A.U.calling g mk a) (.threw v) t ∧ B.locs = A.locs ++ L ∧ (∀ q ∈ L, free q.base) ∧ B.cells = A.cells + mc ∧ B.slots = A.slots + ms
section BX
variable {l : Launch} {R : Room} {p : Program} {e : Env} {below : List Frame} {s : State} {sargs : Array Value} {y : MethodName} {len W : Nat}
theorem z_backX {ws : List Cond} {rm : Room} {Pc : Array Value → State → Prop} {Qc : Array Value → State → Outcome → State → Prop} {mc ms : Nat} {free : Addr → Prop} {bytes : ByteArray} {maxL : Nat} {ret : Option FieldType}
    (hM : zMetF l y ws rm Pc Qc mc ms free) (hblind : FrameBlind Pc) (hrc : rm.cells = mc) (hrs : rm.slots = ms)
    (hframes : rm.frames + 1 ≤ R.frames) (hlocals : W + (maxL + 11) + rm.locals ≤ R.locals)
    (hws : ∀ w ∈ ws, ∀ a' U, s.WarmedH U.vm → w.before a' U = true) (hcode : Cond.code y bytes maxL ret ∈ ws) (hinit : ∀ a' U, s.WarmedH U.vm → (Cond.initialized y.cls).before a' U = true) :
    BackT l R p e below s sargs y len W (PreOf R mc ms Pc) (zPostX Qc mc ms free) := by
  refine BackT.of_free (S := headSpec ws rm) (P := Pc) (K := fun _ _ _ _ _ => True) (Q := fun a st o t => Qc a st o t ∧ ∃ L, FrameEndT st o t L mc ms ∧ ∀ q ∈ L, free q.base) (bytes := bytes) (maxL := maxL) (ret := ret)
    (E := fun a st o t L k n => k = mc ∧ n = ms ∧ ∀ q ∈ L, free q.base) hM hframes hlocals ?_ ?_ (fun _ _ _ _ _ _ _ _ _ => trivial) ?_ ?_
  · intro m meth c A a X hp
    exact ⟨atoms_intro fun w hw => hws w hw _ _ X.warmed, hws _ hcode _ _ X.warmed, hinit _ _ X.warmed, by rw [show (headSpec ws rm).room.cells = mc from hrc]; exact hp.1, by rw [show (headSpec ws rm).room.slots = ms from hrs]; exact hp.2.1⟩
  · intro m meth c A a g mk X hp
    exact hblind _ _ _ _ hp.2.2
  · intro a st o t ⟨hq, L, hF, hL⟩
    exact ⟨L, mc, ms, hF, rfl, rfl, hL⟩
  · intro m meth c A a g mk v t L k n X hp hq hF ⟨e1, e2, hL⟩
    subst e1; subst e2
    exact ⟨g, mk, t, L, rfl, rfl, hq.1, rfl, hL, rfl, rfl⟩
end BX
