/-! making objects and arrays -/
theorem zIpOk : (List.range 12).all (fun a => decide (zTw (zIp.getD a (0, 0)).1 = some (.instantiable (zNm a) (zN a))) && decide (zTw (zIp.getD a (0, 0)).2 = some (.initialized (zNm a)))) = true := by decide +kernel
theorem zIns {a : Nat} (h : a < 12) : Cond.instantiable (zNm a) (zN a) ∈ zGW ∧ Cond.initialized (zNm a) ∈ zGW := by
  have h1 := List.all_eq_true.mp zIpOk a (List.mem_range.mpr h)
  rw [Bool.and_eq_true, decide_eq_true_eq, decide_eq_true_eq] at h1
  exact ⟨zGW_of h1.1 rfl, zGW_of h1.2 rfl⟩
theorem zTc3 : (List.range 12).all (fun a => (List.range (zN a)).all (fun k => decide (zTc (zTy a k) ≤ 3))) = true := by decide +kernel
theorem zTc_le {a k : Nat} (h : a < 12) (hk : k < zN a) : zTc (zTy a k) ≤ 3 := of_decide_eq_true (List.all_eq_true.mp (List.all_eq_true.mp zTc3 a (List.mem_range.mpr h)) k (List.mem_range.mpr hk))
theorem zArrOk : (List.range 46).all (fun k => match zArL[k]? with
    | some n => decide (n.2 ≤ 960) && decide (n.1 = 0 ∨ n.1 = 2 ∨ n.1 = 3 ∨ n.1 = 4)
    | none => true) = true := by decide +kernel
theorem zArr_le {a : Nat} {n : Nat × Nat} (h : zArr a = some n) : n.2 ≤ 960 ∧ (n.1 = 0 ∨ n.1 = 2 ∨ n.1 = 3 ∨ n.1 = 4) := by
  unfold zArr at h
  split at h
  · cases h
  · have hl : a - 20 < 46 := by
      have := (List.getElem?_eq_some_iff.mp h).1
      have e : zArL.length = 46 := by decide +kernel
      omega
    have h1 := List.all_eq_true.mp zArrOk (a - 20) (List.mem_range.mpr hl)
    rw [h] at h1
    simpa using h1
theorem zAcOk : decide (zTw 1051 = some (.arrayClass .char)) && decide (zTw 1110 = some (.arrayClass .int)) && decide (zTw 6006 = some (.arrayClass .long)) = true := by decide +kernel
theorem zAc (t : Nat) (h : t = 0 ∨ t = 2 ∨ t = 4) : ∃ ty : FieldType, (t = 0 → ty = .int) ∧ (t = 2 → ty = .char) ∧ (t = 4 → ty = .long) ∧ Cond.arrayClass ty ∈ zGW := by
  have h0 := zAcOk
  simp only [Bool.and_eq_true, decide_eq_true_eq] at h0
  rcases h with rfl | rfl | rfl
  · exact ⟨.int, fun _ => rfl, fun q => by omega, fun q => by omega, zGW_of h0.1.2 rfl⟩
  · exact ⟨.char, fun q => by omega, fun _ => rfl, fun q => by omega, zGW_of h0.1.1 rfl⟩
  · exact ⟨.long, fun q => by omega, fun q => by omega, fun _ => rfl, zGW_of h0.2 rfl⟩
/-- instructions that make -/
def zMak (i : Instr) (cd : Nat) : Prop := match i with
  | .new _ => ¬ cd = 7
  | .newarray _ => True
  | .anewarray _ => True
  | _ => False
set_option maxHeartbeats 8000000 in
set_option maxRecDepth 100000 in
theorem zBd_new {l : Launch} {A : Nat → Prop} {D : va_G} {xs : Nat → Int32} {N n : Nat} (ih : zBd l A D xs N n)
    {d y pc : Nat} {L : zL} {st : List zV} {S : zS} {r : Option zV} {S' : zS} (hy : y < 129)
    {p : Program} {e : Env} {R : Room} {s : State} {m : MethodId} {args : Array Value} {below : List Frame} {meth : Method} {c : Code} {Q : State → Prop} {H : Heap} {locs : List Loc} {cells slots : Nat} {ls : Array Slot} {ad : zAd} {dA : Nat → ClassId} {ws : va_W} {tys : List (ClassId × FieldType)}
    (hC : zCx y p s m args meth c) (hS : va_S A s.heap H locs) (hR : zRl A D xs N ad dA ws tys S s H) (hX : zXs A ad xs N s s.heap) (hl : zLv ls (zMx y) ad L) (hL : zLok S L) (hst : zSok S st) (hfr : d ≤ R.frames) (hlo : 32 * d ≤ R.locals) (hce : cells + S'.2.2.2.1 ≤ R.cells + S.2.2.2.1) (hsl : slots + S'.2.2.2.2.1 ≤ R.slots + S.2.2.2.2.1)
    (fin : ∀ (H' : Heap) (locs' : List Loc) (cells' slots' : Nat) (ls' : Array Slot) (pc' : Nat) (st' : List zV) (ad' : zAd) (dA' : Nat → ClassId) (ws' : va_W) (tys' : List (ClassId × FieldType)), va_S A s.heap H' locs' → zRl A D xs N ad' dA' ws' tys' S' s H' → zAg S ad ad' → zEnd y pc' st' r → zSok S' st' → cells' + S.2.2.2.1 = cells + S'.2.2.2.1 → slots' + S.2.2.2.2.1 = slots + S'.2.2.2.2.1 →
      W p l e R s m args below meth c H' locs' cells' slots' Q (F0 m pc' ls' (st'.map (zcv ad'))))
    (finX : ∀ (H' : Heap) (locs' : List Loc) (cells' slots' : Nat) (ls' : Array Slot) (pc' : Nat) (st' : List zV) (ad' : zAd) (dA' : Nat → ClassId) (ws' : va_W) (tys' : List (ClassId × FieldType)) (x a b q : Nat), va_S A s.heap H' locs' → zRl A D xs N ad' dA' ws' tys' S' s H' → zAg S ad ad' → zlk y pc' = some (.new x, 3, a, b, 7, q) → (st' = [] ∧ ls'.size = zMx y) → r = some (zq (some (a, 0))) → cells' + 1 + S.2.2.2.1 = cells + S'.2.2.2.1 → slots' + b + S.2.2.2.2.1 = slots + S'.2.2.2.2.1 →
      W p l e R s m args below meth c H' locs' cells' slots' Q (F0 m pc' ls' (st'.map (zcv ad'))))
    {i : Instr} {len a b cd pp : Nat} (hq : zlk y pc = some (i, len, a, b, cd, pp)) (h : zStep i len a b cd pc y L st S (fun p L s S => zEv n d y p L s S) (fun y' as S κ => zCall (zEv n) d y' as S κ) (fun r S => some (r, S)) none = some (r, S'))
    (hni : zMak i cd) :
    W p l e R s m args below meth c H locs cells slots Q (F0 m pc ls (st.map (zcv ad))) := by
  obtain ⟨hx, hb, hml, hown, hts, hnm, hht⟩ := hC
  have hC : zCx y p s m args meth c := ⟨hx, hb, hml, hown, hts, hnm, hht⟩
  have hok := (zOkAll y hy).2 _ (zlk_mem hq)
  simp only [zEok, Bool.and_eq_true, decide_eq_true_eq] at hok
  obtain ⟨⟨hdec, hlen⟩, hw⟩ := hok
  have goM : ∀ (a nc ns q : Nat) (e0 : va_E) (dA1 : Nat → ClassId) (tys1 : List (ClassId × FieldType)) (st1 : List zV) (H1 : Heap) (pc1 : Nat), zEv n d y pc1 L (zq (some (a, S.2.2.1 a)) :: st1) (zmk S a (S.2.2.2.1 + 1) (S.2.2.2.2.1 + ns)) = some (r, S') → zSok S st1 → va_S A s.heap H1 locs → zRl A D xs N (zup ad a (S.2.2.1 a) q) dA1 (ws ++ [(q, e0)]) tys1 (zmk S a (S.2.2.2.1 + 1) (S.2.2.2.2.1 + ns)) s H1 → (a ≠ 90 ∧ a ≠ 99 ∧ a ≠ 91) → cells + 1 ≤ R.cells → slots + ns ≤ R.slots →
      W p l e R s m args below meth c H1 locs (cells + 1) (slots + ns) Q (F0 m pc1 ls (.ref q :: st1.map (zcv ad))) := by
    intro a nc ns q e0 dA1 tys1 st1 H1 pc1 h1 hs1 g1 g2 ha9 hc1 hs2
    have hag : zAg S ad (zup ad a (S.2.2.1 a) q) := zup_ag
    have hle := zmk_le S a (S.2.2.2.1 + 1) (S.2.2.2.2.1 + ns)
    have e1 : (Value.ref q :: st1.map (zcv ad)) = (zq (some (a, S.2.2.1 a)) :: st1).map (zcv (zup ad a (S.2.2.1 a) q)) := by
      rw [List.map_cons, zcv_s, zup_s, hag.st hs1]
    rw [e1]
    refine ih d y pc1 L _ _ r S' h1 hy p e R s m args below meth c Q H1 locs (cells + 1) (slots + ns) ls _ dA1 _ tys1 hC g1 g2 ?_ (hag.lv hL hl) (hL.le hle) (zSok.cons ?_ (hs1.le hle)) hfr hlo ?_ ?_ ?_ ?_
    · obtain ⟨x1, x2, x3, x4, x5, x6, x7⟩ := hX
      refine ⟨x1, x2, fun i hi => ?_, ?_, ?_, x6, x7.ad (zup_n (by rintro ⟨q, -⟩; exact ha9.2.2 q.symm))⟩
      · rw [zup_n (by rintro ⟨q, -⟩; exact ha9.1 q.symm)]; exact x3 i hi
      · rw [zup_n (by rintro ⟨q, -⟩; exact ha9.2.1 q.symm)]; exact x4
      · rw [zup_n (by rintro ⟨q, -⟩; exact ha9.2.1 q.symm)]; exact x5
    · show S.2.2.1 a < va_up S.2.2.1 a (S.2.2.1 a + 1) a
      rw [va_up_self]; omega
    · show cells + 1 + S'.2.2.2.1 ≤ R.cells + (S.2.2.2.1 + 1); omega
    · show slots + ns + S'.2.2.2.2.1 ≤ R.slots + (S.2.2.2.2.1 + ns); omega
    · intro H' locs' cells' slots' ls' pc' st' ad' dA' ws' tys' f1 f2 f3 f4 f5 f6 f7
      exact fin H' locs' cells' slots' ls' pc' st' ad' dA' ws' tys' f1 f2 (hag.trans hle f3) f4 f5 (by have : cells' + (S.2.2.2.1 + 1) = cells + 1 + S'.2.2.2.1 := f6; omega) (by have : slots' + (S.2.2.2.2.1 + ns) = slots + ns + S'.2.2.2.2.1 := f7; omega)
    · intro H' locs' cells' slots' ls' pc' st' ad' dA' ws' tys' x a' b' q' f1 f2 f3 f4 f0 f5 f6 f7
      exact finX H' locs' cells' slots' ls' pc' st' ad' dA' ws' tys' x a' b' q' f1 f2 (hag.trans hle f3) f4 f0 f5 (by have : cells' + 1 + (S.2.2.2.1 + 1) = cells + 1 + S'.2.2.2.1 := f6; omega) (by have : slots' + b' + (S.2.2.2.2.1 + ns) = slots + ns + S'.2.2.2.2.1 := f7; omega)
  have hW6 : ∀ i, i < 6 → ¬ A (ad 90 i) := fun i hi => (hX.2.2.1 i hi).2
  cases i with
  | new i0 =>
    unfold zStep at h
    try dsimp only at h
    obtain rfl : len = 3 := zlen_of hlen rfl rfl
    simp only [zEw, Bool.and_eq_true, decide_eq_true_eq, Bool.or_eq_true] at hw
    have h7 : ¬ cd = 7 := hni
    rw [if_neg h7] at h
    rcases hw with hw | ⟨⟨⟨-, ha⟩, hbN⟩, hw⟩
    · exact absurd hw h7
    subst hbN
    have hg := zEv_grow h
    have hnc : S.2.2.2.1 + 1 ≤ S'.2.2.2.1 := hg.1
    have hns : S.2.2.2.2.1 + zN a ≤ S'.2.2.2.2.1 := hg.2
    have h9 : a ≠ 90 ∧ a ≠ 99 ∧ a ≠ 91 := ⟨by omega, by omega, by omega⟩
    refine va_new (ci := a) (fs := (List.range (zN a)).map fun k => zfv ad S a (S.2.2.1 a) k) hx hb hts (zFw ha) (zTy a) (fun k hk => zTy_ok ha hk) hown (hts _ (zGW_of hw rfl)) (hts _ (zIns ha).1) (hts _ (zIns ha).2) hR.K hR.P hR.D' hS hX.2.2.2.2.2.1 (zCl_at ha) (fun j hj => ?_) (by omega) (by omega) hdec (fun q H1 g1 g2 g3 => ?_)
    · obtain ⟨f1, f2⟩ := hR.fresh a (S.2.2.1 a) j (Nat.le_refl _)
      rw [z_def (ad := ad) f1 f2 (zTc_le ha hj)]
      unfold vp_V
      rw [List.getD_eq_getElem?_getD, List.getElem?_map, List.getElem?_range hj]
      rfl
    · exact goM a 0 (zN a) q _ dA tys st H1 _ h hst g3 (hR.make hW6 hX.2.2.2.2.1.2 hX.2.2.2.2.2.2.out _ _ (Or.inl ha) h9 (fun _ _ _ _ => rfl) (fun _ _ q => q) (fun n hn => by rw [zArr_lt ha] at hn; cases hn) hR.K (zct_o ha).symm g1 g2) h9 (by omega) (by omega)
  | newarray t0 =>
    unfold zStep at h
    try dsimp only at h
    obtain rfl : len = 2 := zlen_of hlen rfl rfl
    simp only [zEw, Bool.and_eq_true, decide_eq_true_eq] at hw
    obtain ⟨⟨ha20, har⟩, hty⟩ := hw
    obtain ⟨x, t, hst0, h_1⟩ := zpi_e h
    subst hst0
    obtain ⟨⟨hxb, hca⟩, h_2⟩ := zite_e h_1
    subst hxb
    obtain ⟨hb960, -⟩ := zArr_le har
    have hb960 : b ≤ 960 := hb960
    have hg := zEv_grow h_2
    have hnc : S.2.2.2.1 + 1 ≤ S'.2.2.2.1 := hg.1
    have hns : S.2.2.2.2.1 + b ≤ S'.2.2.2.2.1 := hg.2
    have h9 : a ≠ 90 ∧ a ≠ 99 ∧ a ≠ 91 := by
      refine ⟨?_, ?_, ?_⟩
      · rintro rfl; rw [show zArr 90 = none by decide +kernel] at har; cases har
      · rintro rfl; rw [zArr_99] at har; cases har
      · rintro rfl; rw [show zArr 91 = none by decide +kernel] at har; cases har
    have hnb : ¬ Int32.ofInt (b : Int) < 0 := by rw [← zo_0, zo_lt, zw_0, zw_id (by omega) (by omega)]; omega
    have hcl : (Int32.ofInt (b : Int)).toNatClampNeg = b := by rw [zo_clamp, zw_id (by omega) (by omega)]; omega
    have h0 : (zq (some (a, 0)) :: t) = (zq (some (a, S.2.2.1 a)) :: t) := by rw [hca]
    have hm : (S.1, S.2.1, va_up S.2.2.1 a 1, S.2.2.2.1 + 1, S.2.2.2.2.1 + b, S.2.2.2.2.2) = zmk S a (S.2.2.2.1 + 1) (S.2.2.2.2.1 + b) := by unfold zmk; rw [hca]
    rw [h0, hm] at h_2
    have hfz : ∀ j, S.1 a (S.2.2.1 a) j = 0 := fun j => (hR.fresh a (S.2.2.1 a) j (Nat.le_refl _)).1
    have fin2 : ∀ (ty : FieldType) (a0 : vp_A), newarray.typeOf t0 = ty → zEt a = ty → Cond.arrayClass ty ∈ zGW → b * componentBytes ty ≤ 536870912 → (∀ cA : ClassId, vp_cell cA a0 = arrV cA b (fun _ => defaultValue ty)) → (∀ dA1, (.inl (dA1 a, a0) : va_E) = zct ad dA1 S a (S.2.2.1 a)) →
        W p l e R s m args below meth c H locs cells slots Q (F0 m pc ls ((zi (b : Int) :: t).map (zcv ad))) := by
      intro ty a0 e1 e2 e3 e4 e5 e6
      refine va_newa (ty := ty) (a0 := a0) hx hb (by rw [e1]; exact hts _ e3) e1 hR.K hR.P hR.D' hS hX.2.2.2.2.2.1 e5 hnb hcl e4 (by omega) (by omega) hdec (fun q cA H1 g0 g1 g2 g3 => ?_)
      refine goM a 0 b q _ (va_up dA a cA) _ t H1 _ h_2 hst.tl g3 (hR.make (dA1 := va_up dA a cA) hW6 hX.2.2.2.2.1.2 hX.2.2.2.2.2.2.out _ _ (Or.inr ⟨_, har⟩) h9 (fun c' n' _ hc' => va_up_ne _ _ (by rintro rfl; omega)) (fun t1 x hx1 => ?_) (fun n' _ => ⟨tys.length, by rw [va_up_self, e2]; simp⟩) g0 ?_ g1 g2) h9 (by omega) (by omega)
      · rw [List.getElem?_append_left (List.getElem?_eq_some_iff.mp hx1).1]; exact hx1
      · rw [← e6 (va_up dA a cA), va_up_self]
    cases t0 with
    | int =>
      obtain rfl : cd = 0 := by simpa using hty
      refine fin2 .int (b, .inl fun _ => 0) rfl (by unfold zEt; rw [har]; rfl) ?_ (by simp [componentBytes]; omega) (fun cA => rfl) (fun dA1 => ?_)
      · obtain ⟨ty, q1, -, -, q4⟩ := zAc 0 (Or.inl rfl); rw [q1 rfl] at q4; exact q4
      · rw [zct_a har]; unfold zel; simp only [hfz]; rfl
    | char =>
      obtain rfl : cd = 2 := by simpa using hty
      refine fin2 .char (b, .inl fun _ => 0) rfl (by unfold zEt; rw [har]; rfl) ?_ (by simp [componentBytes]; omega) (fun cA => rfl) (fun dA1 => ?_)
      · obtain ⟨ty, -, q1, -, q4⟩ := zAc 2 (Or.inr (Or.inl rfl)); rw [q1 rfl] at q4; exact q4
      · rw [zct_a har]; unfold zel; simp only [hfz]; rfl
    | long =>
      obtain rfl : cd = 4 := by simpa using hty
      refine fin2 .long (b, .inr (.inl fun _ => 0)) rfl (by unfold zEt; rw [har]; rfl) ?_ (by simp [componentBytes]; omega) (fun cA => rfl) (fun dA1 => ?_)
      · obtain ⟨ty, -, -, q1, q4⟩ := zAc 4 (Or.inr (Or.inr rfl)); rw [q1 rfl] at q4; exact q4
      · rw [zct_a har]; unfold zel; simp only [hfz]; rfl
    | _ => simp at hty
  | anewarray i0 =>
    unfold zStep at h
    try dsimp only at h
    obtain rfl : len = 3 := zlen_of hlen rfl rfl
    simp only [zEw, Bool.and_eq_true, decide_eq_true_eq] at hw
    obtain ⟨⟨⟨⟨ha20, har⟩, hc3⟩, hcc⟩, hw⟩ := hw
    obtain ⟨x, t, hst0, h_1⟩ := zpi_e h
    subst hst0
    obtain ⟨⟨hxb, hca⟩, h_2⟩ := zite_e h_1
    subst hxb
    obtain ⟨hb960, -⟩ := zArr_le har
    have hb960 : b ≤ 960 := hb960
    have hg := zEv_grow h_2
    have hnc : S.2.2.2.1 + 1 ≤ S'.2.2.2.1 := hg.1
    have hns : S.2.2.2.2.1 + b ≤ S'.2.2.2.2.1 := hg.2
    have h9 : a ≠ 90 ∧ a ≠ 99 ∧ a ≠ 91 := ⟨by omega, by omega, by omega⟩
    have hnb : ¬ Int32.ofInt (b : Int) < 0 := by rw [← zo_0, zo_lt, zw_0, zw_id (by omega) (by omega)]; omega
    have hcl : (Int32.ofInt (b : Int)).toNatClampNeg = b := by rw [zo_clamp, zw_id (by omega) (by omega)]; omega
    have h0 : (zq (some (a, 0)) :: t) = (zq (some (a, S.2.2.1 a)) :: t) := by rw [hca]
    have hm : (S.1, S.2.1, va_up S.2.2.1 a 1, S.2.2.2.1 + 1, S.2.2.2.2.1 + b, S.2.2.2.2.2) = zmk S a (S.2.2.2.1 + 1) (S.2.2.2.2.1 + b) := by unfold zmk; rw [hca]
    rw [h0, hm] at h_2
    have hfz : ∀ j, S.2.1 a (S.2.2.1 a) j = none := fun j => (hR.fresh a (S.2.2.1 a) j (Nat.le_refl _)).2
    refine va_newq hx hb hown (hts _ (zGW_of hw rfl)) (hX.2.1 a hcc) hR.K hR.P hR.D' hS hX.2.2.2.2.2.1 hnb hcl (by omega) (by omega) (by omega) hdec (fun q cA H1 g0 g1 g2 g3 => ?_)
    refine goM a 0 b q _ (va_up dA a cA) _ t H1 _ h_2 hst.tl g3 (hR.make (dA1 := va_up dA a cA) hW6 hX.2.2.2.2.1.2 hX.2.2.2.2.2.2.out _ _ (Or.inr ⟨_, har⟩) h9 (fun c' n' _ hc' => va_up_ne _ _ (by rintro rfl; omega)) (fun t1 x hx1 => ?_) (fun n' _ => ⟨tys.length, by rw [va_up_self, show zEt a = .object (zArC a) by unfold zEt; rw [har]; rfl]; simp⟩) g0 ?_ g1 g2) h9 (by omega) (by omega)
    · rw [List.getElem?_append_left (List.getElem?_eq_some_iff.mp hx1).1]; exact hx1
    · rw [zct_a har, va_up_self]; unfold zel; simp only [hfz]; rfl
  | _ => exact hni.elim
