/-! contracts out of Z -/
theorem zXs.warm {A : Nat → Prop} {ad : zAd} {xs : Nat → Int32} {N : Nat} {s U : State} {H : Heap} {locs : List Loc} (h : zXs A ad xs N s s.heap) (hS : va_S A s.heap H locs) (hW : s.WarmedH U.vm) : zXs A ad xs N U H := by
  obtain ⟨x1, x2, x3, x4, x5, x6, x7⟩ := h
  have hk : ∀ a : Nat, a < s.heap.size → ¬ A a → H[a]? = s.heap[a]? := hS.2.1
  refine ⟨fun p hp w hw => ?_, fun a ha => (x2 a ha).moved hW.alike, fun i hi => ⟨((x3 i hi).1.kept hk).moved hW.alike, (x3 i hi).2⟩, (x4.kept (hk _ x5.1 x5.2)).moved hW.alike, ⟨Nat.lt_of_lt_of_le x5.1 hS.1, x5.2⟩, fun q hq => x6 q (Nat.le_trans hS.1 hq), x7.warm hk hW⟩
  have h1 := x1 p hp w hw
  have h2 : ∀ p ∈ zNestP, ∃ a i x h, zTw p = some (.methodLinkNest a i x h) := by
    intro p hp
    simp only [zNestP, List.mem_cons, List.not_mem_nil, or_false] at hp
    rcases hp with rfl | rfl | rfl | rfl | rfl | rfl <;> exact ⟨_, _, _, _, rfl⟩
  obtain ⟨a, i, x, hh, h3⟩ := h2 p hp
  cases hw.symm.trans h3
  exact va_Nw.warmM hW h1
theorem zRl.moved {A : Nat → Prop} {D : va_G} {xs : Nat → Int32} {N : Nat} {ad : zAd} {dA : Nat → ClassId} {ws : va_W} {tys : List (ClassId × FieldType)} {S : zS} {u U : State} {H : Heap} (h : zRl A D xs N ad dA ws tys S u H) (hv : u.vm.Alike U.vm) : zRl A D xs N ad dA ws tys S U H := ⟨h.P, h.D', h.K.moved hv, h.2.2.2⟩
def zPcm (A : Nat → Prop) (D : va_G) (xs : Nat → Int32) (N : Nat) (ad : zAd) (dA : Nat → ClassId) (ws : va_W) (tys : List (ClassId × FieldType)) (S : zS) (as : List zV) : Array Value → State → Prop := fun v U => v = (as.map (zcv ad)).toArray ∧ zRl A D xs N ad dA ws tys S U U.heap ∧ zXs A ad xs N U U.heap
def zQcm (A : Nat → Prop) (D : va_G) (xs : Nat → Int32) (N : Nat) (ad : zAd) (S : zS) (r : Option zV) (S' : zS) : Array Value → State → Outcome → State → Prop := fun _ st o t =>
  (∃ (ad' : zAd) (dA' : Nat → ClassId) (ws' : va_W) (tys' : List (ClassId × FieldType)), o = .returned (r.map (zcv ad')) ∧ zRl A D xs N ad' dA' ws' tys' S' t t.heap ∧ zAg S ad ad' ∧ ∀ v, r = some v → zvok S' v) ∧ va_F A st t
theorem zPcm.blind {A : Nat → Prop} {D : va_G} {xs : Nat → Int32} {N : Nat} {ad : zAd} {dA : Nat → ClassId} {ws : va_W} {tys : List (ClassId × FieldType)} {S : zS} {as : List zV} : FrameBlind (zPcm A D xs N ad dA ws tys S as) := by
  intro a U g mk h
  obtain ⟨h1, h2, x1, x2, x3, x4, x5, x6, x7⟩ := h
  have hv : U.vm.Alike (U.calling g mk a).vm := Vm.Alike.refl U.vm
  exact ⟨h1, h2.moved hv, fun p hp w hw => va_Nw.same (u := U) (U := U.calling g mk a) (by
      have h2 : ∀ p ∈ zNestP, ∃ a i x h, zTw p = some (.methodLinkNest a i x h) := by
        intro p hp
        simp only [zNestP, List.mem_cons, List.not_mem_nil, or_false] at hp
        rcases hp with rfl | rfl | rfl | rfl | rfl | rfl <;> exact ⟨_, _, _, _, rfl⟩
      obtain ⟨a, i, x, hh, h3⟩ := h2 p hp
      cases hw.symm.trans h3
      rfl) rfl (x1 p hp w hw), fun a ha => (x2 a ha).moved hv, fun i hi => ⟨(x3 i hi).1.moved hv, (x3 i hi).2⟩, x4.moved hv, x5, x6, x7.same rfl⟩
def zRm (d mc ms : Nat) : Room := { frames := d, cells := mc, slots := ms, locals := 32 * d }
/-- which returns a method has -/
theorem zRtOk : (List.range 129).all (fun y => (zCd y).all (fun e => match e.2.1 with
    | .ireturn => decide (zRet y = some .int ∨ zRet y = some .boolean ∨ zRet y = some .char)
    | .areturn => (match zRet y with
      | some (.object _) => true
      | _ => false)
    | .return_ => decide (zRet y = none)
    | .new _ => zThr y || decide (e.2.2.2.2.2.1 ≠ 7)
    | .invokestatic _ => decide (e.2.2.2.2.2.1 = 1 → (zP e.2.2.2.1).2.2.2.2 ≠ 9 → zOw e.2.2.2.1 = zOw y)
    | _ => true)) = true := by decide +kernel
theorem zRtI {y pc : Nat} {q : Instr × Nat × Nat × Nat × Nat × Nat} (hy : y < 129) (hq : zlk y pc = some q) : (match q.1 with
    | .ireturn => decide (zRet y = some .int ∨ zRet y = some .boolean ∨ zRet y = some .char)
    | .areturn => (match zRet y with
      | some (.object _) => true
      | _ => false)
    | .return_ => decide (zRet y = none)
    | .new _ => zThr y || decide (q.2.2.2.2.1 ≠ 7)
    | .invokestatic _ => decide (q.2.2.2.2.1 = 1 → (zP q.2.2.1).2.2.2.2 ≠ 9 → zOw q.2.2.1 = zOw y)
    | _ => true) = true := List.all_eq_true.mp (List.all_eq_true.mp zRtOk y (List.mem_range.mpr hy)) _ (zlk_mem hq)
theorem zMok_e {y : Nat} (hy : y < 129) (h9 : (zP y).2.2.2.2 ≠ 9) : Cond.code (zY y) (zB y) (zMx y) (zRet y) ∈ zGW ∧ (if (zP y).2.2.2.2 = 1 then Cond.static (zY y) else Cond.instanceMethod (zY y)) ∈ zGW ∧ ((zP y).2.2.2.2 = 0 → Cond.selects (zY y).cls (zY y) (zY y) ∈ zGW) ∧ Cond.initialized (zY y).cls ∈ zGW ∧ plainName (zY y).cls = true ∧ zMx y ≤ 9 ∧ ((zP y).2.2.2.2 = 2 → (zY y).name = "<init>" ∧ zRet y = none) := by
  have h := (zOkAll y hy).1
  unfold zMok at h
  simp only [Bool.or_eq_true, beq_iff_eq, Bool.and_eq_true, decide_eq_true_eq, bne_iff_ne] at h
  rcases h with h | ⟨⟨⟨⟨⟨⟨h1, h2⟩, h3⟩, h4⟩, h5⟩, h6⟩, h7⟩
  · exact absurd h h9
  · refine ⟨zGW_of h1 rfl, ?_, fun q => ?_, zGW_of h4 rfl, h5, h6, fun q => ?_⟩
    · split at h2
      · rename_i hk; rw [if_pos hk]; exact zGW_of h2 rfl
      · rename_i hk; rw [if_neg hk]; exact zGW_of h2 rfl
    · rcases h3 with h3 | h3
      · exact absurd q h3
      · exact zGW_of h3 rfl
    · rcases h7 with h7 | h7
      · exact absurd q h7
      · exact h7
theorem zGW_good {w : Cond} (h : w ∈ zGW) : (w.onTables && w.keeps) = true ∨ ∃ ty, w = .arrayClass ty := good_of_word (List.mem_filter.mp h).2
theorem zGood {y : Nat} (hy : y < 129) (h9 : (zP y).2.2.2.2 ≠ 9) : GoodIn zGW (zWsY y) := by
  intro w hw
  rcases List.mem_cons.mp hw with rfl | hw
  · exact ⟨(zMok_e hy h9).1, zGW_good (zMok_e hy h9).1⟩
  · exact ⟨hw, zGW_good hw⟩
/-- the arguments as locals -/
theorem zlv_args {ad : zAd} : ∀ (as : List zV) (i j : Nat) (v : zV), (zargs as)[j]? = some (some v) → (i + j, zcv ad v) ∈ lv_args i (as.map (zcv ad))
  | [], i, j, v, h => by simp [zargs] at h
  | .inl x :: as, i, 0, v, h => by
    simp only [zargs, List.getElem?_cons_zero, Option.some.injEq] at h
    subst h
    exact List.mem_cons_self
  | .inl x :: as, i, j + 1, v, h => by
    simp only [zargs, List.getElem?_cons_succ] at h
    have := zlv_args (ad := ad) as (i + 1) j v h
    refine List.mem_cons_of_mem _ ?_
    show (i + (j + 1), zcv ad v) ∈ lv_args (i + 1) (as.map (zcv ad))
    rw [show i + (j + 1) = i + 1 + j by omega]
    exact this
  | .inr (.inr x) :: as, i, 0, v, h => by
    simp only [zargs, List.getElem?_cons_zero, Option.some.injEq] at h
    subst h
    exact List.mem_cons_self
  | .inr (.inr x) :: as, i, j + 1, v, h => by
    simp only [zargs, List.getElem?_cons_succ] at h
    have := zlv_args (ad := ad) as (i + 1) j v h
    refine List.mem_cons_of_mem _ ?_
    have hc : (zcv ad (.inr (.inr x))).category = 1 := zcv_cat1 (fun n q => by cases q)
    show (i + (j + 1), zcv ad v) ∈ lv_args (if (zcv ad (.inr (.inr x))).category = 2 then i + 2 else i + 1) (as.map (zcv ad))
    rw [hc, if_neg (by decide), show i + (j + 1) = i + 1 + j by omega]
    exact this
  | .inr (.inl x) :: as, i, 0, v, h => by
    simp only [zargs, List.getElem?_cons_zero, Option.some.injEq] at h
    subst h
    exact List.mem_cons_self
  | .inr (.inl x) :: as, i, 1, v, h => by
    simp only [zargs, List.getElem?_cons_succ, List.getElem?_cons_zero, Option.some.injEq] at h
    cases h
  | .inr (.inl x) :: as, i, j + 2, v, h => by
    simp only [zargs, List.getElem?_cons_succ] at h
    have := zlv_args (ad := ad) as (i + 2) j v h
    refine List.mem_cons_of_mem _ ?_
    show (i + (j + 2), zcv ad v) ∈ lv_args (i + 2) (as.map (zcv ad))
    rw [show i + (j + 2) = i + 2 + j by omega]
    exact this
theorem zargs_len {ad : zAd} : ∀ (as : List zV), (lg_sl (as.map (zcv ad))).length = (zargs as).length
  | [] => rfl
  | .inl x :: as => by
    have := zargs_len (ad := ad) as
    simp only [lg_sl, List.map_cons, List.flatMap_cons, List.length_append] at this ⊢
    rw [this]
    simp [zargs, zcv, Value.category]
    omega
  | .inr (.inr x) :: as => by
    have := zargs_len (ad := ad) as
    have hc : (zcv ad (.inr (.inr x))).category = 1 := zcv_cat1 (fun n q => by cases q)
    simp only [lg_sl, List.map_cons, List.flatMap_cons, List.length_append] at this ⊢
    rw [this, hc]
    simp [zargs]
    omega
  | .inr (.inl x) :: as => by
    have := zargs_len (ad := ad) as
    simp only [lg_sl, List.map_cons, List.flatMap_cons, List.length_append] at this ⊢
    rw [this]
    simp [zargs, zcv, Value.category]
    omega
theorem zent_lv {ad : zAd} {as : List zV} {n : Nat} (h : (zargs as).length ≤ n) : zLv ((lg_sl (as.map (zcv ad)) ++ List.replicate (n - (lg_sl (as.map (zcv ad))).length) Slot.unset).toArray) n ad (zent n as) := by
  have hl := lv_entry (as.map (zcv ad)) (n := n) (by rw [zargs_len]; exact h)
  refine ⟨by simp [zent]; omega, hl.1, hl.2.1, fun q hq => ?_⟩
  obtain ⟨j, v, h1, rfl⟩ := zlv_mem.mp hq
  have h2 : (zargs as)[j]? = some (some v) := by
    unfold zent at h1
    by_cases hj : j < (zargs as).length
    · rw [List.getElem?_append_left hj] at h1; exact h1
    · rw [List.getElem?_append_right (by omega), List.getElem?_replicate] at h1
      split at h1 <;> cases h1
  exact hl.2.2 _ (zlv_args as 0 j v h2)
theorem zent_ok {S : zS} {as : List zV} {n : Nat} (h : zSok S as) : zLok S (zent n as) := by
  have key : ∀ (as : List zV), zSok S as → ∀ (j : Nat) (v : zV), (zargs as)[j]? = some (some v) → v ∈ as := by
    intro as
    induction as with
    | nil => intro _ j v h; simp [zargs] at h
    | cons u as ih =>
      intro hs j v hj
      match u, j, hj with
      | .inl x, 0, hj => simp only [zargs, List.getElem?_cons_zero, Option.some.injEq] at hj; subst hj; exact List.mem_cons_self
      | .inl x, j + 1, hj => exact List.mem_cons_of_mem _ (ih (fun u hu => hs u (List.mem_cons_of_mem _ hu)) j v (by simpa [zargs] using hj))
      | .inr (.inr x), 0, hj => simp only [zargs, List.getElem?_cons_zero, Option.some.injEq] at hj; subst hj; exact List.mem_cons_self
      | .inr (.inr x), j + 1, hj => exact List.mem_cons_of_mem _ (ih (fun u hu => hs u (List.mem_cons_of_mem _ hu)) j v (by simpa [zargs] using hj))
      | .inr (.inl x), 0, hj => simp only [zargs, List.getElem?_cons_zero, Option.some.injEq] at hj; subst hj; exact List.mem_cons_self
      | .inr (.inl x), 1, hj => simp [zargs] at hj
      | .inr (.inl x), j + 2, hj => exact List.mem_cons_of_mem _ (ih (fun u hu => hs u (List.mem_cons_of_mem _ hu)) j v (by simpa [zargs] using hj))
  intro j v hj
  unfold zent at hj
  by_cases hl : j < (zargs as).length
  · rw [List.getElem?_append_left hl] at hj
    exact h v (key as h j v hj)
  · rw [List.getElem?_append_right (by omega), List.getElem?_replicate] at hj
    split at hj <;> cases hj

theorem zHtOk : (List.range 128).all (fun y => (zP y).2.2.2.2 == 9 || decide (zHt y = some [])) = true := by decide +kernel
/-- a body gives a contract -/
def zMetP (l : Launch) (A : Nat → Prop) (D : va_G) (xs : Nat → Int32) (N n : Nat) : Prop :=
  ∀ (d y : Nat) (as : List zV) (S : zS) (r : Option zV) (S' : zS), zEv n d y 0 (zent (zMx y) as) [] S = some (r, S') → y < 128 → (zP y).2.2.2.2 ≠ 9 → (zargs as).length ≤ zMx y → zSok S as → (zThr y = false ∨ ∀ q, r ≠ some (zq (some q))) →
  ∀ (ad : zAd) (dA : Nat → ClassId) (ws : va_W) (tys : List (ClassId × FieldType)), Met l (zY y) (zWsY y) (zRm d (S'.2.2.2.1 - S.2.2.2.1) (S'.2.2.2.2.1 - S.2.2.2.2.1)) (zPcm A D xs N ad dA ws tys S as) (zQcm A D xs N ad S r S') (S'.2.2.2.1 - S.2.2.2.1) (S'.2.2.2.2.1 - S.2.2.2.2.1) A
set_option maxHeartbeats 4000000 in
set_option maxRecDepth 100000 in
theorem zMet_of {l : Launch} {A : Nat → Prop} {D : va_G} {xs : Nat → Int32} {N n : Nat} (hB : zBd l A D xs N n) : zMetP l A D xs N n := by
  intro d y as S r S' h hy h9 hlen hok hthr ad dA ws tys
  have hy' : y < 129 := by omega
  obtain ⟨m1, m2, m3, m4, m5, m6, m7⟩ := zMok_e hy' h9
  refine Met.ofW (cc := zB y) (maxL := zMx y) (ret := zRet y) m5 rfl ?_
  intro p e s m args below meth c s₁ B hml hv
  obtain ⟨rfl, hR, hX⟩ := hv
  have hr := B.returns
  have hlocks := B.notSynchronized
  have hts := atoms_spec (ws := zWsY y) B.pre
  have hown : s.vm.findClass (zNm (zOw y)) = some m.cls := by
    have h1 : s.vm.findClass (zY y).cls = some m.cls := findClass_of_methodNamed B.named
    have h2 : zOw y = (zMe y).1 := by unfold zOw; rw [if_neg (by omega)]
    rw [h2]; exact h1
  have hg := zEv_grow h
  rw [lg_entry_eq]
  have hht : ∀ h, zHt y = some h → c.exceptionTable.toList.map (fun x => (x.startPc, x.endPc, x.handlerPc, x.catchType)) = h := by
    intro h hh
    obtain ⟨me2, c2, q1, q2, -, -, -, -, q3, -⟩ := Cond.code_spec B.named (hts _ List.mem_cons_self)
    cases B.method.symm.trans q1
    cases (Stand.of_body B).code.symm.trans q2
    have h0 : zHt y = some [] := by
      have k : ∀ y', y' < 128 → (zP y').2.2.2.2 ≠ 9 → zHt y' = some [] := by
        intro y' hy' h9'
        have := List.all_eq_true.mp zHtOk y' (List.mem_range.mpr hy')
        simp only [Bool.or_eq_true, beq_iff_eq, decide_eq_true_eq] at this
        exact this.resolve_left h9'
      exact k y hy h9
    cases h0.symm.trans hh
    have : c.exceptionTable = #[] := by simpa using q3
    rw [this]; rfl
  refine hB d y 0 _ [] S r S' h hy' p e _ s m _ below meth c _ s.heap [] 0 0 _ ad dA ws tys ⟨B.exec, B.bytes, hml, hown, fun w hw => hts w (List.mem_cons_of_mem _ hw), (name_of_methodNamed B.named B.method).1, hht⟩ va_S.rf hR hX (zent_lv hlen) (zent_ok hok) (fun v hv => by cases hv) (Nat.le_refl _) (Nat.le_refl _) ?_ ?_ ?_ ?_
  · show 0 + S'.2.2.2.1 ≤ (S'.2.2.2.1 - S.2.2.2.1) + S.2.2.2.1; omega
  · show 0 + S'.2.2.2.2.1 ≤ (S'.2.2.2.2.1 - S.2.2.2.2.1) + S.2.2.2.2.1; omega
  · intro H' locs' cells' slots' ls' pc' st' ad' dA' ws' tys' f1 f2 f3 f4 f5 f6 f7
    obtain rfl : cells' = S'.2.2.2.1 - S.2.2.2.1 := by omega
    obtain rfl : slots' = S'.2.2.2.2.1 - S.2.2.2.2.1 := by omega
    rcases f4 with ⟨q, x, e1, rfl, rfl, e4⟩ | ⟨q, x, e1, rfl, rfl⟩ | ⟨q, e1, rfl, rfl⟩
    · have hok := (zOkAll y hy').2 _ (zlk_mem e1)
      simp only [zEok, Bool.and_eq_true, decide_eq_true_eq] at hok
      have ht := zRtI hy' e1
      dsimp only at ht
      rw [decide_eq_true_eq] at ht
      obtain ⟨ty, ht1, ht2⟩ : ∃ ty, zRet y = some ty ∧ narrow ty (.int (Int32.ofInt x)) = .int (Int32.ofInt x) := by
        have hrt : ∀ ty, zRet y = some ty → (ty = .int ∨ ty = .boolean ∨ ty = .char) → zTc ty = zRt y := by
          intro ty h1 h2
          unfold zRt
          rw [show (zMe y).2.2.2.2.2 = some ty from h1]
          rcases h2 with rfl | rfl | rfl <;> rfl
        rcases ht with ht | ht | ht
        · exact ⟨_, ht, rfl⟩
        · exact ⟨_, ht, (z_nar (t := .boolean) (by rw [hrt _ ht (Or.inr (Or.inl rfl))]; exact e4) (by decide)).1⟩
        · exact ⟨_, ht, (z_nar (t := .char) (by rw [hrt _ ht (Or.inr (Or.inr rfl))]; exact e4) (by decide)).1⟩
      exact W.zret (v := Int32.ofInt x) (ty := ty) B.exec B.bytes (hr.trans ht1) ht2 (fun t ht hW => ⟨⟨ad', dA', ws', tys', rfl, by rw [ht]; exact f2.moved hW.alike, f3, fun v hv => by cases hv; trivial⟩, f1.F ht⟩) f1.2.2 hok.1.1
    · have hok := (zOkAll y hy').2 _ (zlk_mem e1)
      simp only [zEok, Bool.and_eq_true, decide_eq_true_eq] at hok
      have ht := zRtI hy' e1
      dsimp only at ht
      obtain ⟨nm, ht1⟩ : ∃ nm, zRet y = some (.object nm) := by
        split at ht
        · exact ⟨_, by assumption⟩
        · cases ht
      exact W.aret (v := zcv ad' (zq x)) B.exec B.bytes (hr.trans ht1) (Or.inl ⟨_, rfl⟩) (va_rf_or _) (fun t ht hW => ⟨⟨ad', dA', ws', tys', rfl, by rw [ht]; exact f2.moved hW.alike, f3, fun v hv => by cases hv; exact f5 _ List.mem_cons_self⟩, f1.F ht⟩) f1.2.2 hok.1.1
    · have hok := (zOkAll y hy').2 _ (zlk_mem e1)
      simp only [zEok, Bool.and_eq_true, decide_eq_true_eq] at hok
      have ht := zRtI hy' e1
      dsimp only at ht
      rw [decide_eq_true_eq] at ht
      exact W.vret B.exec B.bytes (hr.trans ht) (fun t ht hW => ⟨⟨ad', dA', ws', tys', rfl, by rw [ht]; exact f2.moved hW.alike, f3, fun v hv => by cases hv⟩, f1.F ht⟩) f1.2.2 hok.1.1
  · intro H' locs' cells' slots' ls' pc' st' ad' dA' ws' tys' x a b q f1 f2 f3 f4 f0 f5 f6 f7
    exfalso
    have ht := zRtI hy' f4
    rcases hthr with ht1 | hx
    · simp [ht1] at ht
    · exact hx _ f5
