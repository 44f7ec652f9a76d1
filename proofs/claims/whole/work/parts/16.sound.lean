/-! one step of Z is one step of the machine -/
theorem zlen_of {i : Instr} {len k : Nat} (h : (zSw i || decide (len = zIl i)) = true) (h1 : zSw i = false) (h2 : zIl i = k) : len = k := by
  rw [h1, Bool.false_or, decide_eq_true_eq] at h
  exact h.trans h2
theorem zSok.tl {S : zS} {v : zV} {t : List zV} (h : zSok S (v :: t)) : zSok S t := fun u hu => h u (List.mem_cons_of_mem _ hu)
theorem zSok.hd {S : zS} {v : zV} {t : List zV} (h : zSok S (v :: t)) : zvok S v := h v List.mem_cons_self
theorem zSok.cons {S : zS} {v : zV} {t : List zV} (hv : zvok S v) (h : zSok S t) : zSok S (v :: t) := fun u hu => by
  rcases List.mem_cons.mp hu with rfl | hu
  · exact hv
  · exact h u hu
theorem zSok.i {S : zS} {n : Int} {t : List zV} (h : zSok S t) : zSok S (zi n :: t) := zSok.cons trivial h
theorem zSok.l {S : zS} {n : Int} {t : List zV} (h : zSok S t) : zSok S (zl n :: t) := zSok.cons trivial h
theorem zTop {p : Program} {l : Launch} {e : Env} {R : Room} {s : State} {m : MethodId} {args : Array Value} {below : List Frame} {meth : Method} {c : Code} {H : Heap} {locs : List Loc} {cells slots : Nat} {Q : State → Prop} {pc : Nat} {ls : Array Slot} {rest : List Value} {v v' : Value} (h : v = v') (k : W p l e R s m args below meth c H locs cells slots Q (F0 m pc ls (v' :: rest))) : W p l e R s m args below meth c H locs cells slots Q (F0 m pc ls (v :: rest)) := h ▸ k
theorem zPc {p : Program} {l : Launch} {e : Env} {R : Room} {s : State} {m : MethodId} {args : Array Value} {below : List Frame} {meth : Method} {c : Code} {H : Heap} {locs : List Loc} {cells slots : Nat} {Q : State → Prop} {pc pc' : Nat} {ls : Array Slot} {st : List Value} (h : pc = pc') (k : W p l e R s m args below meth c H locs cells slots Q (F0 m pc' ls st)) : W p l e R s m args below meth c H locs cells slots Q (F0 m pc ls st) := h ▸ k

/-- instructions that neither call nor make -/
def zSim (i : Instr) (cd : Nat) : Prop := match i with
  | .invokevirtual _ => False
  | .invokestatic _ => False
  | .invokespecial _ => False
  | .new _ => cd = 7
  | .newarray _ => False
  | .anewarray _ => False
  | .ldc _ => False
  | _ => True
set_option maxHeartbeats 8000000 in
set_option maxRecDepth 100000 in
theorem zBd_simple {l : Launch} {A : Nat → Prop} {D : va_G} {xs : Nat → Int32} {N n : Nat} (ih : zBd l A D xs N n)
    {d y pc : Nat} {L : zL} {st : List zV} {S : zS} {r : Option zV} {S' : zS} (hy : y < 129)
    {p : Program} {e : Env} {R : Room} {s : State} {m : MethodId} {args : Array Value} {below : List Frame} {meth : Method} {c : Code} {Q : State → Prop} {H : Heap} {locs : List Loc} {cells slots : Nat} {ls : Array Slot} {ad : zAd} {dA : Nat → ClassId} {ws : va_W} {tys : List (ClassId × FieldType)}
    (hC : zCx y p s m args meth c) (hS : va_S A s.heap H locs) (hR : zRl A D xs N ad dA ws tys S s H) (hX : zXs A ad xs N s s.heap) (hl : zLv ls (zMx y) ad L) (hL : zLok S L) (hst : zSok S st) (hfr : d ≤ R.frames) (hlo : 32 * d ≤ R.locals) (hce : cells + S'.2.2.2.1 ≤ R.cells + S.2.2.2.1) (hsl : slots + S'.2.2.2.2.1 ≤ R.slots + S.2.2.2.2.1)
    (fin : ∀ (H' : Heap) (locs' : List Loc) (cells' slots' : Nat) (ls' : Array Slot) (pc' : Nat) (st' : List zV) (ad' : zAd) (dA' : Nat → ClassId) (ws' : va_W) (tys' : List (ClassId × FieldType)), va_S A s.heap H' locs' → zRl A D xs N ad' dA' ws' tys' S' s H' → zAg S ad ad' → zEnd y pc' st' r → zSok S' st' → cells' + S.2.2.2.1 = cells + S'.2.2.2.1 → slots' + S.2.2.2.2.1 = slots + S'.2.2.2.2.1 →
      W p l e R s m args below meth c H' locs' cells' slots' Q (F0 m pc' ls' (st'.map (zcv ad'))))
    (finX : ∀ (H' : Heap) (locs' : List Loc) (cells' slots' : Nat) (ls' : Array Slot) (pc' : Nat) (st' : List zV) (ad' : zAd) (dA' : Nat → ClassId) (ws' : va_W) (tys' : List (ClassId × FieldType)) (x a b q : Nat), va_S A s.heap H' locs' → zRl A D xs N ad' dA' ws' tys' S' s H' → zAg S ad ad' → zlk y pc' = some (.new x, 3, a, b, 7, q) → (st' = [] ∧ ls'.size = zMx y) → r = some (zq (some (a, 0))) → cells' + 1 + S.2.2.2.1 = cells + S'.2.2.2.1 → slots' + b + S.2.2.2.2.1 = slots + S'.2.2.2.2.1 →
      W p l e R s m args below meth c H' locs' cells' slots' Q (F0 m pc' ls' (st'.map (zcv ad'))))
    {i : Instr} {len a b cd pp : Nat} (hq : zlk y pc = some (i, len, a, b, cd, pp)) (h : zStep i len a b cd pc y L st S (fun p L s S => zEv n d y p L s S) (fun y' as S κ => zCall (zEv n) d y' as S κ) (fun r S => some (r, S)) none = some (r, S'))
    (hni : zSim i cd) :
    W p l e R s m args below meth c H locs cells slots Q (F0 m pc ls (st.map (zcv ad))) := by
  obtain ⟨hx, hb, hml, hown, hts, hnm, hht⟩ := hC
  have hC : zCx y p s m args meth c := ⟨hx, hb, hml, hown, hts, hnm, hht⟩
  have hok := (zOkAll y hy).2 _ (zlk_mem hq)
  simp only [zEok, Bool.and_eq_true, decide_eq_true_eq] at hok
  obtain ⟨⟨hdec, hlen⟩, hw⟩ := hok
  have goS : ∀ (pc1 : Nat) (L1 : zL) (st1 : List zV) (ls1 : Array Slot) (S1 : zS) (H1 : Heap) (locs1 : List Loc) (ws1 : va_W), zEv n d y pc1 L1 st1 S1 = some (r, S') → S1.2.2 = S.2.2 → va_S A s.heap H1 locs1 → zRl A D xs N ad dA ws1 tys S1 s H1 → zLv ls1 (zMx y) ad L1 → zLok S L1 → zSok S st1 → W p l e R s m args below meth c H1 locs1 cells slots Q (F0 m pc1 ls1 (st1.map (zcv ad))) := by
    intro pc1 L1 st1 ls1 S1 H1 locs1 ws1 h1 h2 h3 h4 h5 h6 h7
    obtain ⟨I1, R1, a1⟩ := S1
    obtain rfl : a1 = S.2.2 := h2
    exact ih d y pc1 L1 st1 _ r S' h1 hy p e R s m args below meth c Q H1 locs1 cells slots ls1 ad dA ws1 tys hC h3 h4 hX h5 h6 h7 hfr hlo hce hsl fin finX
  have go : ∀ (pc1 : Nat) (L1 : zL) (st1 : List zV) (ls1 : Array Slot), zEv n d y pc1 L1 st1 S = some (r, S') → zLv ls1 (zMx y) ad L1 → zLok S L1 → zSok S st1 → W p l e R s m args below meth c H locs cells slots Q (F0 m pc1 ls1 (st1.map (zcv ad))) := fun pc1 L1 st1 ls1 h1 h5 h6 h7 => goS pc1 L1 st1 ls1 S H locs ws h1 rfl hS hR h5 h6 h7
  have hln : ∀ k : Nat, ∀ v, L[k]? = some v → k < zMx y := fun k v hk => by rw [← hl.1]; exact (List.getElem?_eq_some_iff.mp hk).1
  cases i with
  | aconst_null =>
    unfold zStep at h
    try dsimp only at h
    obtain rfl : len = 1 := zlen_of hlen rfl rfl
    exact lv_null hx hb hdec (go _ _ (zq none :: st) _ h hl hL (zSok.cons trivial hst))
  | aload i0 =>
    unfold zStep at h
    try dsimp only at h
    obtain rfl : len = 2 := zlen_of hlen rfl rfl
    obtain ⟨x, h1, h_1⟩ := zlda_e h
    exact zr_aload hx hb hdec (hl.at h1) (go _ _ (zq x :: st) _ h_1 hl hL (zSok.cons (hL _ _ h1) hst))
  | aload_n i0 =>
    unfold zStep at h
    try dsimp only at h
    obtain rfl : len = 1 := zlen_of hlen rfl rfl
    obtain ⟨x, h1, h_1⟩ := zlda_e h
    exact zr_aload_n hx hb hdec (hl.at h1) (go _ _ (zq x :: st) _ h_1 hl hL (zSok.cons (hL _ _ h1) hst))
  | iload i0 =>
    unfold zStep at h
    try dsimp only at h
    obtain rfl : len = 2 := zlen_of hlen rfl rfl
    obtain ⟨x, h1, h_1⟩ := zldi_e h
    exact lv_iload hx hb hdec (hl.at h1) (go _ _ (zi x :: st) _ h_1 hl hL hst.i)
  | iload_n i0 =>
    unfold zStep at h
    try dsimp only at h
    obtain rfl : len = 1 := zlen_of hlen rfl rfl
    obtain ⟨x, h1, h_1⟩ := zldi_e h
    exact lv_iload_n hx hb hdec rfl (hl.at h1) (go _ _ (zi x :: st) _ h_1 hl hL hst.i)
  | lload_n i0 =>
    unfold zStep at h
    try dsimp only at h
    obtain rfl : len = 1 := zlen_of hlen rfl rfl
    obtain ⟨x, h1, h_1⟩ := zldl_e h
    exact lv_lload_n hx hb hdec rfl (hl.at h1) (go _ _ (zl x :: st) _ h_1 hl hL hst.l)
  | istore i0 =>
    unfold zStep at h
    try dsimp only at h
    obtain rfl : len = 2 := zlen_of hlen rfl rfl
    obtain ⟨x, t, rfl, h_1⟩ := zpi_e h
    have hk : i0 < zMx y := zStI hy hq rfl
    exact zr_istore hx hb hdec hl hk (fun ls2 h2 => go _ _ t ls2 h_1 h2 (hL.st trivial) hst.tl)
  | istore_n i0 =>
    unfold zStep at h
    try dsimp only at h
    obtain rfl : len = 1 := zlen_of hlen rfl rfl
    obtain ⟨x, t, rfl, h_1⟩ := zpi_e h
    have hk : i0.val < zMx y := zStI hy hq rfl
    exact zr_istore_n hx hb hdec hl hk (fun ls2 h2 => go _ _ t ls2 h_1 h2 (hL.st trivial) hst.tl)
  | astore i0 =>
    unfold zStep at h
    try dsimp only at h
    obtain rfl : len = 2 := zlen_of hlen rfl rfl
    obtain ⟨x, t, rfl, h_1⟩ := zpa_e h
    have hk : i0 < zMx y := zStI hy hq rfl
    exact zr_astore hx hb hdec hl hk (fun ls2 h2 => go _ _ t ls2 h_1 h2 (hL.st hst.hd) hst.tl)
  | astore_n i0 =>
    unfold zStep at h
    try dsimp only at h
    obtain rfl : len = 1 := zlen_of hlen rfl rfl
    obtain ⟨x, t, rfl, h_1⟩ := zpa_e h
    have hk : i0.val < zMx y := zStI hy hq rfl
    exact zr_astore_n hx hb hdec hl hk (fun ls2 h2 => go _ _ t ls2 h_1 h2 (hL.st hst.hd) hst.tl)
  | iinc i0 v0 =>
    unfold zStep at h
    try dsimp only at h
    obtain rfl : len = 3 := zlen_of hlen rfl rfl
    obtain ⟨x, h1, h_1⟩ := zldi_e h
    exact zr_iinc hx hb hdec hl h1 (fun ls2 h2 => go _ _ st ls2 h_1 h2 (hL.st trivial) hst)
  | iconst v0 =>
    unfold zStep at h
    try dsimp only at h
    obtain rfl : len = 1 := zlen_of hlen rfl rfl
    exact lv_iconst hx hb hdec rfl (go _ _ (zi v0 :: st) _ h hl hL hst.i)
  | bipush v0 =>
    unfold zStep at h
    try dsimp only at h
    obtain rfl : len = 2 := zlen_of hlen rfl rfl
    simp only [zEw, Bool.and_eq_true, decide_eq_true_eq] at hw
    exact lv_bipush hx hb hdec (zo_8 hw.1 hw.2) (go _ _ (zi v0 :: st) _ h hl hL hst.i)
  | sipush v0 =>
    unfold zStep at h
    try dsimp only at h
    obtain rfl : len = 3 := zlen_of hlen rfl rfl
    simp only [zEw, Bool.and_eq_true, decide_eq_true_eq] at hw
    exact lv_sipush hx hb hdec (zo_16 hw.1 hw.2) (go _ _ (zi v0 :: st) _ h hl hL hst.i)
  | ldc2_w i0 =>
    unfold zStep at h
    try dsimp only at h
    obtain rfl : len = 3 := zlen_of hlen rfl rfl
    simp only [zEw, decide_eq_true_eq] at hw
    exact lv_ldc2 hx hb hown (hts _ (zGW_of hw rfl)) hdec (go _ _ (zl a :: st) _ h hl hL hst.l)
  | getstatic i0 =>
    unfold zStep at h
    try dsimp only at h
    obtain rfl : len = 3 := zlen_of hlen rfl rfl
    simp only [zEw, Bool.and_eq_true, decide_eq_true_eq] at hw
    obtain ⟨⟨hw1, rfl⟩, hw3⟩ := hw
    exact va_gets hx hb (hX.2.2.1 b hw3).1 hS hown (hts _ (zGW_of hw1 rfl)) (fun _ h9 => h9) hdec (go _ _ (zq (some (90, b)) :: st) _ h hl hL (zSok.cons (by show b < S.2.2.1 90; rw [hR.c90]; exact hw3) hst))
  | iadd =>
    unfold zStep at h
    try dsimp only at h
    obtain rfl : len = 1 := zlen_of hlen rfl rfl
    obtain ⟨y0, t, rfl, h_1⟩ := zpi_e h
    obtain ⟨x, t, rfl, h_2⟩ := zpi_e h_1
    refine lv_iadd hx hb hdec (zTop (v' := zcv ad (zi (x + y0))) (by rw [zcv_i, zo_add]) ?_)
    exact go _ _ (zi (x + y0) :: t) _ h_2 hl hL hst.tl.tl.i
  | isub =>
    unfold zStep at h
    try dsimp only at h
    obtain rfl : len = 1 := zlen_of hlen rfl rfl
    obtain ⟨y0, t, rfl, h_1⟩ := zpi_e h
    obtain ⟨x, t, rfl, h_2⟩ := zpi_e h_1
    refine lv_isub hx hb hdec (zTop (v' := zcv ad (zi (x - y0))) (by rw [zcv_i, zo_sub]) ?_)
    exact go _ _ (zi (x - y0) :: t) _ h_2 hl hL hst.tl.tl.i
  | imul =>
    unfold zStep at h
    try dsimp only at h
    obtain rfl : len = 1 := zlen_of hlen rfl rfl
    obtain ⟨y0, t, rfl, h_1⟩ := zpi_e h
    obtain ⟨x, t, rfl, h_2⟩ := zpi_e h_1
    refine lv_imul hx hb hdec (zTop (v' := zcv ad (zi (x * y0))) (by rw [zcv_i, zo_mul]) ?_)
    exact go _ _ (zi (x * y0) :: t) _ h_2 hl hL hst.tl.tl.i
  | iand =>
    unfold zStep at h
    try dsimp only at h
    obtain rfl : len = 1 := zlen_of hlen rfl rfl
    obtain ⟨y0, t, rfl, h_1⟩ := zpi_e h
    obtain ⟨x, t, rfl, h_2⟩ := zpi_e h_1
    refine lv_iand hx hb hdec (zTop (v' := zcv ad (zi (zand x y0))) (by rw [zcv_i, zand, zo_of]) ?_)
    exact go _ _ (zi (zand x y0) :: t) _ h_2 hl hL hst.tl.tl.i
  | ior =>
    unfold zStep at h
    try dsimp only at h
    obtain rfl : len = 1 := zlen_of hlen rfl rfl
    obtain ⟨y0, t, rfl, h_1⟩ := zpi_e h
    obtain ⟨x, t, rfl, h_2⟩ := zpi_e h_1
    refine lv_ior hx hb hdec (zTop (v' := zcv ad (zi (zor x y0))) (by rw [zcv_i, zor, zo_of]) ?_)
    exact go _ _ (zi (zor x y0) :: t) _ h_2 hl hL hst.tl.tl.i
  | ixor =>
    unfold zStep at h
    try dsimp only at h
    obtain rfl : len = 1 := zlen_of hlen rfl rfl
    obtain ⟨y0, t, rfl, h_1⟩ := zpi_e h
    obtain ⟨x, t, rfl, h_2⟩ := zpi_e h_1
    refine lv_ixor hx hb hdec (zTop (v' := zcv ad (zi (zxor x y0))) (by rw [zcv_i, zxor, zo_of]) ?_)
    exact go _ _ (zi (zxor x y0) :: t) _ h_2 hl hL hst.tl.tl.i
  | ishl =>
    unfold zStep at h
    try dsimp only at h
    obtain rfl : len = 1 := zlen_of hlen rfl rfl
    obtain ⟨y0, t, rfl, h_1⟩ := zpi_e h
    obtain ⟨x, t, rfl, h_2⟩ := zpi_e h_1
    refine lv_ishl hx hb hdec (zTop (v' := zcv ad (zi (zshl x y0))) (by rw [zcv_i, zshl, zo_of]) ?_)
    exact go _ _ (zi (zshl x y0) :: t) _ h_2 hl hL hst.tl.tl.i
  | ishr =>
    unfold zStep at h
    try dsimp only at h
    obtain rfl : len = 1 := zlen_of hlen rfl rfl
    obtain ⟨y0, t, rfl, h_1⟩ := zpi_e h
    obtain ⟨x, t, rfl, h_2⟩ := zpi_e h_1
    refine lv_ishr hx hb hdec (zTop (v' := zcv ad (zi (zshr x y0))) (by rw [zcv_i, zshr, zo_of]) ?_)
    exact go _ _ (zi (zshr x y0) :: t) _ h_2 hl hL hst.tl.tl.i
  | idiv =>
    unfold zStep at h
    try dsimp only at h
    obtain rfl : len = 1 := zlen_of hlen rfl rfl
    obtain ⟨y0, t, rfl, h_1⟩ := zpi_e h
    obtain ⟨x, t, rfl, h_2⟩ := zpi_e h_1
    obtain ⟨h0, h_3⟩ := zite_e' h_2
    refine lv_idiv hx hb hdec (by rw [← zo_0, zo_inj, zw_0]; exact h0) (zTop (v' := zcv ad (zi (zdiv x y0))) (by rw [zcv_i, zdiv, zo_of]) ?_)
    exact go _ _ (zi (zdiv x y0) :: t) _ h_3 hl hL hst.tl.tl.i
  | ineg =>
    unfold zStep at h
    try dsimp only at h
    obtain rfl : len = 1 := zlen_of hlen rfl rfl
    obtain ⟨x, t, rfl, h_1⟩ := zpi_e h
    refine lv_ineg hx hb hdec (zTop (v' := zcv ad (zi (-x))) (by rw [zcv_i, zo_neg]) ?_)
    exact go _ _ (zi (-x) :: t) _ h_1 hl hL hst.tl.i
  | land =>
    unfold zStep at h
    try dsimp only at h
    obtain rfl : len = 1 := zlen_of hlen rfl rfl
    obtain ⟨y0, t, rfl, h_1⟩ := zpl_e h
    obtain ⟨x, t, rfl, h_2⟩ := zpl_e h_1
    refine lv_land hx hb hdec (zTop (v' := zcv ad (zl (zland x y0))) (by rw [zcv_l, zland, zq_of]) ?_)
    exact go _ _ (zl (zland x y0) :: t) _ h_2 hl hL hst.tl.tl.l
  | lor =>
    unfold zStep at h
    try dsimp only at h
    obtain rfl : len = 1 := zlen_of hlen rfl rfl
    obtain ⟨y0, t, rfl, h_1⟩ := zpl_e h
    obtain ⟨x, t, rfl, h_2⟩ := zpl_e h_1
    refine lv_lor hx hb hdec (zTop (v' := zcv ad (zl (zlor x y0))) (by rw [zcv_l, zlor, zq_of]) ?_)
    exact go _ _ (zl (zlor x y0) :: t) _ h_2 hl hL hst.tl.tl.l
  | lshl =>
    unfold zStep at h
    try dsimp only at h
    obtain rfl : len = 1 := zlen_of hlen rfl rfl
    obtain ⟨y0, t, rfl, h_1⟩ := zpi_e h
    obtain ⟨x, t, rfl, h_2⟩ := zpl_e h_1
    refine lv_lshl hx hb hdec (v := Int64.ofInt (zlshl x y0)) (by rw [zlshl, zq_of]) ?_
    exact go _ _ (zl (zlshl x y0) :: t) _ h_2 hl hL hst.tl.tl.l
  | lshr =>
    unfold zStep at h
    try dsimp only at h
    obtain rfl : len = 1 := zlen_of hlen rfl rfl
    obtain ⟨y0, t, rfl, h_1⟩ := zpi_e h
    obtain ⟨x, t, rfl, h_2⟩ := zpl_e h_1
    refine lv_lshr hx hb hdec (v := Int64.ofInt (zlshr x y0)) (by rw [zlshr, zq_of]) ?_
    exact go _ _ (zl (zlshr x y0) :: t) _ h_2 hl hL hst.tl.tl.l
  | lushr =>
    unfold zStep at h
    try dsimp only at h
    obtain rfl : len = 1 := zlen_of hlen rfl rfl
    obtain ⟨y0, t, rfl, h_1⟩ := zpi_e h
    obtain ⟨x, t, rfl, h_2⟩ := zpl_e h_1
    refine lv_lushr hx hb hdec (v := Int64.ofInt (zlushr x y0)) (by rw [zlushr, zq_of]) ?_
    exact go _ _ (zl (zlushr x y0) :: t) _ h_2 hl hL hst.tl.tl.l
  | lcmp =>
    unfold zStep at h
    try dsimp only at h
    obtain rfl : len = 1 := zlen_of hlen rfl rfl
    obtain ⟨y0, t, rfl, h_1⟩ := zpl_e h
    obtain ⟨x, t, rfl, h_2⟩ := zpl_e h_1
    refine W.lcmp hx hb hdec (zTop (v' := zcv ad (zi (zlcmp x y0))) (by rw [zcv_i, z_lcmp]) ?_)
    exact go _ _ (zi (zlcmp x y0) :: t) _ h_2 hl hL hst.tl.tl.i
  | i2l =>
    unfold zStep at h
    try dsimp only at h
    obtain rfl : len = 1 := zlen_of hlen rfl rfl
    obtain ⟨x, t, rfl, h_1⟩ := zpi_e h
    exact lv_i2l hx hb hdec (zq_i2l x) (go _ _ (zl (zw x) :: t) _ h_1 hl hL hst.tl.l)
  | l2i =>
    unfold zStep at h
    try dsimp only at h
    obtain rfl : len = 1 := zlen_of hlen rfl rfl
    obtain ⟨x, t, rfl, h_1⟩ := zpl_e h
    exact lv_l2i hx hb hdec (zq_l2i x) (go _ _ (zi x :: t) _ h_1 hl hL hst.tl.i)
  | i2c =>
    unfold zStep at h
    try dsimp only at h
    obtain rfl : len = 1 := zlen_of hlen rfl rfl
    obtain ⟨x, t, rfl, h_1⟩ := zpi_e h
    exact lv_i2c hx hb hdec (zo_i2c x) (go _ _ (zi (x % 65536) :: t) _ h_1 hl hL hst.tl.i)
  | pop =>
    unfold zStep at h
    try dsimp only at h
    obtain rfl : len = 1 := zlen_of hlen rfl rfl
    obtain ⟨v, t, rfl, hv, h_1⟩ := zp1_e h
    exact lv_pop hx hb hdec (zcv_cat1 hv) (go _ _ t _ h_1 hl hL hst.tl)
  | dup =>
    unfold zStep at h
    try dsimp only at h
    obtain rfl : len = 1 := zlen_of hlen rfl rfl
    obtain ⟨v, t, rfl, hv, h_1⟩ := zp1_e h
    exact lv_dup hx hb hdec (zcv_cat1 hv) (go _ _ (v :: v :: t) _ h_1 hl hL (zSok.cons hst.hd hst))
  | dup_x1 =>
    unfold zStep at h
    try dsimp only at h
    obtain rfl : len = 1 := zlen_of hlen rfl rfl
    obtain ⟨v, t, rfl, hv, h_1⟩ := zp1_e h
    obtain ⟨u, t, rfl, hu, h_2⟩ := zp1_e h_1
    exact lv_dup_x1 hx hb hdec (zcv_cat1 hv) (zcv_cat1 hu) (go _ _ (v :: u :: v :: t) _ h_2 hl hL (zSok.cons hst.hd (zSok.cons hst.tl.hd (zSok.cons hst.hd hst.tl.tl))))
  | dup2 =>
    unfold zStep at h
    try dsimp only at h
    obtain rfl : len = 1 := zlen_of hlen rfl rfl
    obtain ⟨v, t, rfl, hv, h_1⟩ := zp1_e h
    obtain ⟨u, t, rfl, hu, h_2⟩ := zp1_e h_1
    exact lv_dup2_11 hx hb hdec (zcv_cat1 hv) (zcv_cat1 hu) (go _ _ (v :: u :: v :: u :: t) _ h_2 hl hL (zSok.cons hst.hd (zSok.cons hst.tl.hd hst)))
  | goto o0 =>
    unfold zStep at h
    try dsimp only at h
    obtain rfl : len = 3 := zlen_of hlen rfl rfl
    obtain ⟨g, hg, h_1⟩ := zgt_e h
    exact lv_goto hx hb hdec hg (go _ _ st _ h_1 hl hL hst)
  | ifCond q0 o0 =>
    unfold zStep at h
    try dsimp only at h
    obtain rfl : len = 3 := zlen_of hlen rfl rfl
    obtain ⟨y0, t, rfl, h_1⟩ := zpi_e h
    obtain ⟨g, hg, h_2⟩ := zgt_e h_1
    unfold zcmp at h_2
    cases q0 with
    | eq =>
      dsimp only at h_2
      refine lv_if_eq hx hb hdec hg (fun hh => ?_) (fun hh => ?_)
      · have hz := zc_i_eq0 hh
        first | rw [if_pos hz] at h_2 | rw [if_neg hz] at h_2
        exact go _ _ t _ h_2 hl hL hst.tl
      · have hz := zc_i_eq1 hh
        first | rw [if_pos hz] at h_2 | rw [if_neg hz] at h_2
        exact go _ _ t _ h_2 hl hL hst.tl
    | ne =>
      dsimp only at h_2
      refine lv_if_ne hx hb hdec hg (fun hh => ?_) (fun hh => ?_)
      · have hz := zc_i_ne0 hh
        first | rw [if_pos hz] at h_2 | rw [if_neg hz] at h_2
        exact go _ _ t _ h_2 hl hL hst.tl
      · have hz := zc_i_ne1 hh
        first | rw [if_pos hz] at h_2 | rw [if_neg hz] at h_2
        exact go _ _ t _ h_2 hl hL hst.tl
    | lt =>
      dsimp only at h_2
      refine lv_if_lt hx hb hdec hg (fun hh => ?_) (fun hh => ?_)
      · have hz := zc_i_lt0 hh
        first | rw [if_pos hz] at h_2 | rw [if_neg hz] at h_2
        exact go _ _ t _ h_2 hl hL hst.tl
      · have hz := zc_i_lt1 hh
        first | rw [if_pos hz] at h_2 | rw [if_neg hz] at h_2
        exact go _ _ t _ h_2 hl hL hst.tl
    | ge =>
      dsimp only at h_2
      refine lv_if_ge hx hb hdec hg (fun hh => ?_) (fun hh => ?_)
      · have hz := zc_i_ge0 hh
        first | rw [if_pos hz] at h_2 | rw [if_neg hz] at h_2
        exact go _ _ t _ h_2 hl hL hst.tl
      · have hz := zc_i_ge1 hh
        first | rw [if_pos hz] at h_2 | rw [if_neg hz] at h_2
        exact go _ _ t _ h_2 hl hL hst.tl
    | gt =>
      dsimp only at h_2
      refine lv_if_gt hx hb hdec hg (fun hh => ?_) (fun hh => ?_)
      · have hz := zc_i_gt0 hh
        first | rw [if_pos hz] at h_2 | rw [if_neg hz] at h_2
        exact go _ _ t _ h_2 hl hL hst.tl
      · have hz := zc_i_gt1 hh
        first | rw [if_pos hz] at h_2 | rw [if_neg hz] at h_2
        exact go _ _ t _ h_2 hl hL hst.tl
    | le =>
      dsimp only at h_2
      refine lv_if_le hx hb hdec hg (fun hh => ?_) (fun hh => ?_)
      · have hz := zc_i_le0 hh
        first | rw [if_pos hz] at h_2 | rw [if_neg hz] at h_2
        exact go _ _ t _ h_2 hl hL hst.tl
      · have hz := zc_i_le1 hh
        first | rw [if_pos hz] at h_2 | rw [if_neg hz] at h_2
        exact go _ _ t _ h_2 hl hL hst.tl
  | if_icmp q0 o0 =>
    unfold zStep at h
    try dsimp only at h
    obtain rfl : len = 3 := zlen_of hlen rfl rfl
    obtain ⟨y0, t, rfl, h_1⟩ := zpi_e h
    obtain ⟨x, t, rfl, h_2⟩ := zpi_e h_1
    obtain ⟨g, hg, h_3⟩ := zgt_e h_2
    unfold zcmp at h_3
    cases q0 with
    | eq =>
      dsimp only at h_3
      refine lv_icmp_eq hx hb hdec hg (fun hh => ?_) (fun hh => ?_)
      · have hz := zc_c_eq0 hh
        first | rw [if_pos hz] at h_3 | rw [if_neg hz] at h_3
        exact go _ _ t _ h_3 hl hL hst.tl.tl
      · have hz := zc_c_eq1 hh
        first | rw [if_pos hz] at h_3 | rw [if_neg hz] at h_3
        exact go _ _ t _ h_3 hl hL hst.tl.tl
    | ne =>
      dsimp only at h_3
      refine lv_icmp_ne hx hb hdec hg (fun hh => ?_) (fun hh => ?_)
      · have hz := zc_c_ne0 hh
        first | rw [if_pos hz] at h_3 | rw [if_neg hz] at h_3
        exact go _ _ t _ h_3 hl hL hst.tl.tl
      · have hz := zc_c_ne1 hh
        first | rw [if_pos hz] at h_3 | rw [if_neg hz] at h_3
        exact go _ _ t _ h_3 hl hL hst.tl.tl
    | lt =>
      dsimp only at h_3
      refine lv_icmp_lt hx hb hdec hg (fun hh => ?_) (fun hh => ?_)
      · have hz := zc_c_lt0 hh
        first | rw [if_pos hz] at h_3 | rw [if_neg hz] at h_3
        exact go _ _ t _ h_3 hl hL hst.tl.tl
      · have hz := zc_c_lt1 hh
        first | rw [if_pos hz] at h_3 | rw [if_neg hz] at h_3
        exact go _ _ t _ h_3 hl hL hst.tl.tl
    | ge =>
      dsimp only at h_3
      refine lv_icmp_ge hx hb hdec hg (fun hh => ?_) (fun hh => ?_)
      · have hz := zc_c_ge0 hh
        first | rw [if_pos hz] at h_3 | rw [if_neg hz] at h_3
        exact go _ _ t _ h_3 hl hL hst.tl.tl
      · have hz := zc_c_ge1 hh
        first | rw [if_pos hz] at h_3 | rw [if_neg hz] at h_3
        exact go _ _ t _ h_3 hl hL hst.tl.tl
    | gt =>
      dsimp only at h_3
      refine lv_icmp_gt hx hb hdec hg (fun hh => ?_) (fun hh => ?_)
      · have hz := zc_c_gt0 hh
        first | rw [if_pos hz] at h_3 | rw [if_neg hz] at h_3
        exact go _ _ t _ h_3 hl hL hst.tl.tl
      · have hz := zc_c_gt1 hh
        first | rw [if_pos hz] at h_3 | rw [if_neg hz] at h_3
        exact go _ _ t _ h_3 hl hL hst.tl.tl
    | le =>
      dsimp only at h_3
      refine lv_icmp_le hx hb hdec hg (fun hh => ?_) (fun hh => ?_)
      · have hz := zc_c_le0 hh
        first | rw [if_pos hz] at h_3 | rw [if_neg hz] at h_3
        exact go _ _ t _ h_3 hl hL hst.tl.tl
      · have hz := zc_c_le1 hh
        first | rw [if_pos hz] at h_3 | rw [if_neg hz] at h_3
        exact go _ _ t _ h_3 hl hL hst.tl.tl
  | ifnull o0 =>
    unfold zStep at h
    try dsimp only at h
    obtain rfl : len = 3 := zlen_of hlen rfl rfl
    obtain ⟨x, t, rfl, h_1⟩ := zpa_e h
    obtain ⟨g, hg, h_2⟩ := zgt_e h_1
    cases x with
    | none =>
      rw [if_pos rfl] at h_2
      exact lv_ifnullN hx hb hdec hg (go _ _ t _ h_2 hl hL hst.tl)
    | some q =>
      rw [if_neg (by simp)] at h_2
      exact lv_ifnull hx hb hdec (go _ _ t _ h_2 hl hL hst.tl)
  | ifnonnull o0 =>
    unfold zStep at h
    try dsimp only at h
    obtain rfl : len = 3 := zlen_of hlen rfl rfl
    obtain ⟨x, t, rfl, h_1⟩ := zpa_e h
    obtain ⟨g, hg, h_2⟩ := zgt_e h_1
    cases x with
    | none =>
      rw [if_pos rfl] at h_2
      exact lv_ifnonnullN hx hb hdec (go _ _ t _ h_2 hl hL hst.tl)
    | some q =>
      rw [if_neg (by simp)] at h_2
      exact lv_ifnonnull hx hb hdec hg (go _ _ t _ h_2 hl hL hst.tl)
  | if_acmp q0 o0 =>
    unfold zStep at h
    try dsimp only at h
    obtain rfl : len = 3 := zlen_of hlen rfl rfl
    obtain ⟨x, t, rfl, h_1⟩ := zpa_e h
    obtain ⟨u, t, rfl, h_2⟩ := zpa_e h_1
    obtain ⟨g, hg, h_3⟩ := zgt_e h_2
    have hxu : ∀ (c1 c2 : Option zO), zsame u x none c1 c2 = some (r, S') → (u.map (fun q => ad q.1 q.2) = x.map (fun q => ad q.1 q.2) → c1 = some (r, S')) ∧ (¬ u.map (fun q => ad q.1 q.2) = x.map (fun q => ad q.1 q.2) → c2 = some (r, S')) := by
      intro c1 c2 hz
      match u, x, hz, hst.hd, hst.tl.hd with
      | none, none, hz, _, _ => exact ⟨fun _ => hz, fun q => absurd rfl q⟩
      | none, some _, hz, _, _ => exact ⟨fun q => by simp at q, fun _ => hz⟩
      | some _, none, hz, _, _ => exact ⟨fun q => by simp at q, fun _ => hz⟩
      | some ⟨u1, u2⟩, some ⟨x1, x2⟩, hz, v1, v2 =>
        unfold zsame at hz
        dsimp only at hz
        split at hz
        · rename_i he
          subst he
          split at hz
          · rename_i he
            subst he
            exact ⟨fun _ => hz, fun q => absurd rfl q⟩
          · rename_i he
            refine ⟨fun q => ?_, fun _ => hz⟩
            simp only [Option.map_some, Option.some.injEq] at q
            exact absurd (hR.inj u1 u2 u1 x2 (Or.inl rfl) v2 v1 q).2 he
        · cases hz
    cases q0 with
    | eq =>
      obtain ⟨h1, h2⟩ := hxu _ _ h_3
      exact lv_acmp_eq hx hb hdec hg (fun hh => go _ _ t _ (h1 hh) hl hL hst.tl.tl) (fun hh => go _ _ t _ (h2 hh) hl hL hst.tl.tl)
    | ne =>
      obtain ⟨h1, h2⟩ := hxu _ _ h_3
      exact lv_acmp_ne hx hb hdec hg (fun hh => go _ _ t _ (h2 hh) hl hL hst.tl.tl) (fun hh => go _ _ t _ (h1 hh) hl hL hst.tl.tl)
  | tableswitch d0 lo hi os =>
    unfold zStep at h
    try dsimp only at h
    obtain ⟨x, t, rfl, h_1⟩ := zpi_e h
    split at h_1
    · rename_i hc
      obtain ⟨g, hg, h_2⟩ := zgt_e h_1
      exact lv_tableOut hx hb hdec (by rw [zo_to]; exact hc) hg (go _ _ t _ h_2 hl hL hst.tl)
    · rename_i hc
      obtain ⟨o1, ho, h_3⟩ := zop_e h_1
      obtain ⟨g, hg, h_4⟩ := zgt_e h_3
      exact lv_tableIn hx hb hdec (by rw [zo_to]; exact fun q => hc (Or.inl q)) (by rw [zo_to]; exact fun q => hc (Or.inr q)) (by rw [zo_to]; exact ho) hg (go _ _ t _ h_4 hl hL hst.tl)
  | lookupswitch d0 ps =>
    unfold zStep at h
    try dsimp only at h
    obtain ⟨x, t, rfl, h_1⟩ := zpi_e h
    obtain ⟨g, hg, h_2⟩ := zgt_e h_1
    simp only [zEw, Bool.and_eq_true] at hw
    exact lv_lookup hx hb hdec hw.1 (z_lu _ _ _) hg (go _ _ t _ h_2 hl hL hst.tl)
  | getfield i0 =>
    unfold zStep at h
    try dsimp only at h
    obtain rfl : len = 3 := zlen_of hlen rfl rfl
    simp only [zEw, Bool.and_eq_true, decide_eq_true_eq] at hw
    obtain ⟨⟨⟨⟨hw1, ha⟩, hbn⟩, hty⟩, hc3⟩ := hw
    obtain ⟨v, t, rfl, h_1⟩ := zpa_e h
    obtain ⟨o, rfl, h_2⟩ := zde_e h_1
    have ho : o < S.2.2.1 a := hst.hd
    obtain ⟨q0, hq0⟩ := hR.cell a o (Or.inl ha) ho
    rw [zct_o ha] at hq0
    have hcl := zCl_at ha
    refine va_get (v := zfv ad S a o b) (fs := (List.range (zN a)).map fun k => zfv ad S a o k) hx hb hts (zFw ha) hown hR.K hR.P q0 hq0 hcl b hbn (hts _ (zGW_of hw1 rfl)) (fun _ h9 => by rw [zT_own hbn] at h9; exact h9) (by rw [List.getElem?_map, List.getElem?_range hbn]; rfl) hdec ?_
    split at h_2
    · rename_i h3
      refine zTop (v' := zcv ad (zq (S.2.1 a o b))) (by unfold zfv; rw [if_pos (hty.trans h3)]) ?_
      exact go _ _ (zq (S.2.1 a o b) :: t) _ h_2 hl hL (zSok.cons (hR.ok a o b) hst.tl)
    · rename_i h3
      refine zTop (v' := zcv ad (zi (S.1 a o b))) (by unfold zfv; rw [if_neg (fun q => h3 (hty.symm.trans q))]) ?_
      exact go _ _ (zi (S.1 a o b) :: t) _ h_2 hl hL hst.tl.i
  | putfield i0 =>
    unfold zStep at h
    try dsimp only at h
    obtain rfl : len = 3 := zlen_of hlen rfl rfl
    simp only [zEw, Bool.and_eq_true, decide_eq_true_eq, Bool.or_eq_true, Bool.not_eq_true'] at hw
    obtain ⟨⟨⟨⟨⟨hw1, ha⟩, hbn⟩, hty⟩, hc3⟩, hfin⟩ := hw
    have hcl := zCl_at ha
    split at h
    · rename_i h3
      obtain ⟨v, t, rfl, h_1⟩ := zpa_e h
      obtain ⟨w, t, rfl, h_2⟩ := zpa_e h_1
      obtain ⟨o, rfl, h_3⟩ := zde_e h_2
      have ho : o < S.2.2.1 a := hst.tl.hd
      obtain ⟨q0, hq0⟩ := hR.cell a o (Or.inl ha) ho
      have hq1 := hq0
      rw [zct_o ha] at hq0
      obtain ⟨f1, f2⟩ := z_fitR (ad := ad) (r := v) (hty.trans h3)
      have key : ∀ (H1 : Heap) (locs1 : List Loc), va_P D zCl (ws.set q0 (ad a o, .inr (a, ((List.range (zN a)).map fun k => zfv ad S a o k).set b (zcv ad (zq v))))) H1 → va_D A (ws.set q0 (ad a o, .inr (a, ((List.range (zN a)).map fun k => zfv ad S a o k).set b (zcv ad (zq v))))) → va_S A s.heap H1 locs1 → W p l e R s m args below meth c H1 locs1 cells slots Q (F0 m (pc + 3) ls (t.map (zcv ad))) := by
        intro H1 locs1 g1 g2 g3
        exact goS _ _ t _ (S.1, zsR S.2.1 a o b v, S.2.2) H1 locs1 _ h_3 rfl g3 (hR.upd (S' := (S.1, zsR S.2.1 a o b v, S.2.2)) rfl ho (Or.inl ha) hq1 (zct_setR ha hbn (hty.trans h3)) (fun c' i' => zhoR c' i') (zvR hR.ok hst.hd) g1 g2) hl hL hst.tl.tl
      rcases hfin with hfin | ⟨hin, hoa⟩
      · exact va_put (fs := (List.range (zN a)).map fun k => zfv ad S a o k) hx hb hts (zFw ha) (zTy a) (fun k hk => zTy_ok ha hk) (fun k hk k' hk' => zNm_ne ha hk hk') hown hR.K hR.P hR.D' hS q0 hq0 hcl b hbn (hts _ (zGW_of hw1 rfl)) (fun _ h9 => by rw [zT_own hbn] at h9; exact h9) hfin (zTy_ok ha hbn) f1 f2 (by simpa using hbn) hdec key
      · by_cases hf : (zT a b).2.2.2 = false
        · exact va_put (fs := (List.range (zN a)).map fun k => zfv ad S a o k) hx hb hts (zFw ha) (zTy a) (fun k hk => zTy_ok ha hk) (fun k hk k' hk' => zNm_ne ha hk hk') hown hR.K hR.P hR.D' hS q0 hq0 hcl b hbn (hts _ (zGW_of hw1 rfl)) (fun _ h9 => by rw [zT_own hbn] at h9; exact h9) hf (zTy_ok ha hbn) f1 f2 (by simpa using hbn) hdec key
        · exact va_putF (fs := (List.range (zN a)).map fun k => zfv ad S a o k) hx hb hts (zFw ha) (zTy a) (fun k hk => zTy_ok ha hk) (fun k hk k' hk' => zNm_ne ha hk hk') hown hR.K hR.P hR.D' hS q0 hq0 hcl b hbn (hts _ (zGW_of hw1 rfl)) (fun _ h9 => by rw [zT_own hbn] at h9; exact h9) (by simpa using hf) (hnm.trans hin) (by rw [zT_own hbn, hoa]) (zTy_ok ha hbn) f1 f2 (by simpa using hbn) hdec key
    · rename_i h3
      obtain ⟨v, t, rfl, h_4⟩ := zpi_e h
      obtain ⟨w, t, rfl, h_5⟩ := zpa_e h_4
      obtain ⟨o, rfl, h_6⟩ := zde_e h_5
      obtain ⟨hok, h_7⟩ := zok_e h_6
      have ho : o < S.2.2.1 a := hst.tl.hd
      obtain ⟨q0, hq0⟩ := hR.cell a o (Or.inl ha) ho
      have hq1 := hq0
      rw [zct_o ha] at hq0
      obtain ⟨f1, f2⟩ := z_nar (t := zTy a b) (x := v) (by rw [hty]; exact hok) (by omega)
      have key : ∀ (H1 : Heap) (locs1 : List Loc), va_P D zCl (ws.set q0 (ad a o, .inr (a, ((List.range (zN a)).map fun k => zfv ad S a o k).set b (.int (Int32.ofInt v))))) H1 → va_D A (ws.set q0 (ad a o, .inr (a, ((List.range (zN a)).map fun k => zfv ad S a o k).set b (.int (Int32.ofInt v))))) → va_S A s.heap H1 locs1 → W p l e R s m args below meth c H1 locs1 cells slots Q (F0 m (pc + 3) ls (t.map (zcv ad))) := by
        intro H1 locs1 g1 g2 g3
        exact goS _ _ t _ (zsI S.1 a o b v, S.2) H1 locs1 _ h_7 rfl g3 (hR.upd (S' := (zsI S.1 a o b v, S.2)) rfl ho (Or.inl ha) hq1 (zct_setI ha hbn (fun q => h3 (hty.symm.trans q))) (fun c' i' => zho c' i') hR.ok g1 g2) hl hL hst.tl.tl
      rcases hfin with hfin | ⟨hin, hoa⟩
      · exact va_put (fs := (List.range (zN a)).map fun k => zfv ad S a o k) hx hb hts (zFw ha) (zTy a) (fun k hk => zTy_ok ha hk) (fun k hk k' hk' => zNm_ne ha hk hk') hown hR.K hR.P hR.D' hS q0 hq0 hcl b hbn (hts _ (zGW_of hw1 rfl)) (fun _ h9 => by rw [zT_own hbn] at h9; exact h9) hfin (zTy_ok ha hbn) f1 f2 (by simpa using hbn) hdec key
      · by_cases hf : (zT a b).2.2.2 = false
        · exact va_put (fs := (List.range (zN a)).map fun k => zfv ad S a o k) hx hb hts (zFw ha) (zTy a) (fun k hk => zTy_ok ha hk) (fun k hk k' hk' => zNm_ne ha hk hk') hown hR.K hR.P hR.D' hS q0 hq0 hcl b hbn (hts _ (zGW_of hw1 rfl)) (fun _ h9 => by rw [zT_own hbn] at h9; exact h9) hf (zTy_ok ha hbn) f1 f2 (by simpa using hbn) hdec key
        · exact va_putF (fs := (List.range (zN a)).map fun k => zfv ad S a o k) hx hb hts (zFw ha) (zTy a) (fun k hk => zTy_ok ha hk) (fun k hk k' hk' => zNm_ne ha hk hk') hown hR.K hR.P hR.D' hS q0 hq0 hcl b hbn (hts _ (zGW_of hw1 rfl)) (fun _ h9 => by rw [zT_own hbn] at h9; exact h9) (by simpa using hf) (hnm.trans hin) (by rw [zT_own hbn, hoa]) (zTy_ok ha hbn) f1 f2 (by simpa using hbn) hdec key
  | iaload =>
    unfold zStep at h
    try dsimp only at h
    obtain rfl : len = 1 := zlen_of hlen rfl rfl
    obtain ⟨j, t, rfl, h_1⟩ := zpi_e h
    obtain ⟨w, t, rfl, h_2⟩ := zpa_e h_1
    obtain ⟨ta, o, rfl, h_3⟩ := znn_e h_2
    obtain ⟨n0, hn0, h_4⟩ := zop_e h_3
    obtain ⟨hty, h_5⟩ := zite_e h_4
    obtain ⟨hin, h_6⟩ := zix_e h_5
    have ho : o < S.2.2.1 ta := hst.tl.hd
    by_cases h99 : ta = 99
    · subst h99
      have ho0 : o = 0 := by have := hR.c99; omega
      subst ho0
      have hn1 : n0 = (0, N) := by
        unfold zlen at hn0
        rw [if_pos rfl, hR.len] at hn0
        exact (Option.some.inj hn0).symm
      subst hn1
      refine va_sld hx hb hX.2.2.2.1 hX.2.2.2.2.1.1 hX.2.2.2.2.1.2 hS (zo_in hin) hdec (zTop (v' := zcv ad (zi (S.1 99 0 (zw j).toNat))) ?_ ?_)
      · rw [zo_clamp, zcv_i, hR.scr _ (by omega)]
      · exact go _ _ (zi (S.1 99 0 (zw j).toNat) :: t) _ h_6 hl hL hst.tl.tl.i
    · have hn1 : zArr ta = some n0 := by
        unfold zlen at hn0
        rw [if_neg h99] at hn0
        exact hn0
      obtain ⟨q0, hq0⟩ := hR.cell ta o (Or.inr ⟨n0, hn1⟩) ho
      rw [zct_a hn1] at hq0
      obtain ⟨t0, ht0⟩ := hR.arr ta n0 hn1 (by omega)
      have het : zEt ta = .int := by unfold zEt; rw [hn1]; simp [hty]
      rw [het] at ht0
      rw [show zel ad S ta o n0.1 = .inl fun j => Int32.ofInt (S.1 ta o j) by unfold zel; simp [hty]] at hq0
      refine va_iald hx hb hR.K hR.P q0 t0 hq0 ht0 (zo_in hin) hdec (zTop (v' := zcv ad (zi (S.1 ta o (zw j).toNat))) (by rw [zo_clamp]; rfl) ?_)
      exact go _ _ (zi (S.1 ta o (zw j).toNat) :: t) _ h_6 hl hL (hst.tl.tl.i)
  | caload =>
    unfold zStep at h
    try dsimp only at h
    obtain rfl : len = 1 := zlen_of hlen rfl rfl
    obtain ⟨j, t, rfl, h_1⟩ := zpi_e h
    obtain ⟨w, t, rfl, h_2⟩ := zpa_e h_1
    obtain ⟨ta, o, rfl, h_3⟩ := znn_e h_2
    obtain ⟨n0, hn0, h_4⟩ := zop_e h_3
    obtain ⟨hty, h_5⟩ := zite_e h_4
    obtain ⟨hin, h_6⟩ := zix_e h_5
    have ho : o < S.2.2.1 ta := hst.tl.hd
    have h99 : ¬ ta = 99 := by
      rintro rfl
      unfold zlen at hn0
      rw [if_pos rfl] at hn0
      cases hn0
      omega
    have hn1 : zArr ta = some n0 := by
      unfold zlen at hn0
      rw [if_neg h99] at hn0
      exact hn0
    obtain ⟨q0, hq0⟩ := hR.cell ta o (Or.inr ⟨n0, hn1⟩) ho
    rw [zct_a hn1] at hq0
    obtain ⟨t0, ht0⟩ := hR.arr ta n0 hn1 (by omega)
    have het : zEt ta = .char := by unfold zEt; rw [hn1]; simp [hty]
    rw [het] at ht0
    rw [show zel ad S ta o n0.1 = .inl fun j => Int32.ofInt (S.1 ta o j) by unfold zel; simp [hty]] at hq0
    refine va_cald hx hb hR.K hR.P q0 t0 hq0 ht0 (zo_in hin) hdec (zTop (v' := zcv ad (zi (S.1 ta o (zw j).toNat))) (by rw [zo_clamp]; rfl) ?_)
    exact go _ _ (zi (S.1 ta o (zw j).toNat) :: t) _ h_6 hl hL (hst.tl.tl.i)
  | laload =>
    unfold zStep at h
    try dsimp only at h
    obtain rfl : len = 1 := zlen_of hlen rfl rfl
    obtain ⟨j, t, rfl, h_1⟩ := zpi_e h
    obtain ⟨w, t, rfl, h_2⟩ := zpa_e h_1
    obtain ⟨ta, o, rfl, h_3⟩ := znn_e h_2
    obtain ⟨n0, hn0, h_4⟩ := zop_e h_3
    obtain ⟨hty, h_5⟩ := zite_e h_4
    obtain ⟨hin, h_6⟩ := zix_e h_5
    have ho : o < S.2.2.1 ta := hst.tl.hd
    have h99 : ¬ ta = 99 := by
      rintro rfl
      unfold zlen at hn0
      rw [if_pos rfl] at hn0
      cases hn0
      omega
    have hn1 : zArr ta = some n0 := by
      unfold zlen at hn0
      rw [if_neg h99] at hn0
      exact hn0
    obtain ⟨q0, hq0⟩ := hR.cell ta o (Or.inr ⟨n0, hn1⟩) ho
    rw [zct_a hn1] at hq0
    obtain ⟨t0, ht0⟩ := hR.arr ta n0 hn1 (by omega)
    have het : zEt ta = .long := by unfold zEt; rw [hn1]; simp [hty]
    rw [het] at ht0
    rw [show zel ad S ta o n0.1 = .inr (.inl fun j => Int64.ofInt (S.1 ta o j)) by unfold zel; simp [hty]] at hq0
    refine va_lald hx hb hR.K hR.P q0 t0 hq0 ht0 (zo_in hin) hdec (zTop (v' := zcv ad (zl (S.1 ta o (zw j).toNat))) (by rw [zo_clamp]; rfl) ?_)
    exact go _ _ (zl (S.1 ta o (zw j).toNat) :: t) _ h_6 hl hL (hst.tl.tl.l)
  | aaload =>
    unfold zStep at h
    try dsimp only at h
    obtain rfl : len = 1 := zlen_of hlen rfl rfl
    obtain ⟨j, t, rfl, h_1⟩ := zpi_e h
    obtain ⟨w, t, rfl, h_2⟩ := zpa_e h_1
    obtain ⟨ta, o, rfl, h_3⟩ := znn_e h_2
    obtain ⟨n0, hn0, h_4⟩ := zop_e h_3
    obtain ⟨hty, h_5⟩ := zite_e h_4
    obtain ⟨hin, h_6⟩ := zix_e h_5
    have ho : o < S.2.2.1 ta := hst.tl.hd
    have h99 : ¬ ta = 99 := by
      rintro rfl
      unfold zlen at hn0
      rw [if_pos rfl] at hn0
      cases hn0
      omega
    have hn1 : zArr ta = some n0 := by
      unfold zlen at hn0
      rw [if_neg h99] at hn0
      exact hn0
    obtain ⟨q0, hq0⟩ := hR.cell ta o (Or.inr ⟨n0, hn1⟩) ho
    rw [zct_a hn1] at hq0
    obtain ⟨t0, ht0⟩ := hR.arr ta n0 hn1 (by omega)
    have het : zEt ta = .object (zArC ta) := by unfold zEt; rw [hn1]; simp [hty]
    rw [het] at ht0
    rw [show zel ad S ta o n0.1 = .inr (.inr (.inr (.inr fun j => (S.2.1 ta o j).map fun q => ad q.1 q.2))) by unfold zel; simp [hty]] at hq0
    refine va_aldq hx hb hR.K hR.P q0 t0 hq0 ht0 (zo_in hin) hdec (zTop (v' := zcv ad (zq (S.2.1 ta o (zw j).toNat))) (by rw [zo_clamp]; rfl) ?_)
    exact go _ _ (zq (S.2.1 ta o (zw j).toNat) :: t) _ h_6 hl hL (zSok.cons (hR.ok ta o _) hst.tl.tl)
  | arraylength =>
    unfold zStep at h
    try dsimp only at h
    obtain rfl : len = 1 := zlen_of hlen rfl rfl
    obtain ⟨w, t, rfl, h_1⟩ := zpa_e h
    obtain ⟨ta, o, rfl, h_2⟩ := znn_e h_1
    obtain ⟨n0, hn0, h_3⟩ := zop_e h_2
    have ho : o < S.2.2.1 ta := hst.hd
    by_cases h99 : ta = 99
    · subst h99
      have ho0 : o = 0 := by have := hR.c99; omega
      subst ho0
      have hn1 : n0 = (0, N) := by
        unfold zlen at hn0
        rw [if_pos rfl, hR.len] at hn0
        exact (Option.some.inj hn0).symm
      subst hn1
      exact va_slen hx hb hX.2.2.2.1 hX.2.2.2.2.1.1 hX.2.2.2.2.1.2 hS hdec (go _ _ (zi ((N : Nat) : Int) :: t) _ h_3 hl hL hst.tl.i)
    · have hn1 : zArr ta = some n0 := by
        unfold zlen at hn0
        rw [if_neg h99] at hn0
        exact hn0
      obtain ⟨q0, hq0⟩ := hR.cell ta o (Or.inr ⟨n0, hn1⟩) ho
      rw [zct_a hn1] at hq0
      obtain ⟨t0, ht0⟩ := hR.arr ta n0 hn1 (by omega)
      exact va_alen hx hb hR.K hR.P q0 t0 hq0 ht0 rfl hdec (go _ _ (zi (n0.2 : Int) :: t) _ h_3 hl hL hst.tl.i)
  | iastore =>
    unfold zStep at h
    try dsimp only at h
    obtain rfl : len = 1 := zlen_of hlen rfl rfl
    obtain ⟨v, t, rfl, h_1⟩ := zpi_e h
    obtain ⟨j, t, rfl, h_2⟩ := zpi_e h_1
    obtain ⟨w, t, rfl, h_3⟩ := zpa_e h_2
    obtain ⟨ta, o, rfl, h_4⟩ := znn_e h_3
    obtain ⟨n0, hn1, h_5⟩ := zop_e h_4
    obtain ⟨hty, h_6⟩ := zite_e h_5
    obtain ⟨hin, h_7⟩ := zix_e h_6
    have ho : o < S.2.2.1 ta := hst.tl.tl.hd
    obtain ⟨q0, hq0⟩ := hR.cell ta o (Or.inr ⟨n0, hn1⟩) ho
    have hq1 := hq0
    rw [zct_a hn1] at hq0
    obtain ⟨t0, ht0⟩ := hR.arr ta n0 hn1 (by omega)
    have het : zEt ta = .int := by unfold zEt; rw [hn1]; simp [hty, zArC_nm]
    rw [het] at ht0
    rw [show zel ad S ta o n0.1 = .inl fun j => Int32.ofInt (S.1 ta o j) by unfold zel; simp [hty]] at hq0
    refine va_iast hx hb hR.K hR.P hR.D' hS q0 t0 hq0 ht0 (zo_in hin) hdec (fun H1 locs1 g1 g2 g3 => ?_)
    rw [zo_clamp] at g1 g2
    exact goS _ _ t _ (zsI S.1 ta o (zw j).toNat v, S.2) H1 locs1 _ h_7 rfl g3 (hR.upd (S' := (zsI S.1 ta o (zw j).toNat v, S.2)) rfl ho (Or.inr ⟨n0, hn1⟩) hq1 (zct_stI hn1 (Or.inl hty)) (fun c' i' => zho c' i') (hR.ok) g1 g2) hl hL hst.tl.tl.tl
  | castore =>
    unfold zStep at h
    try dsimp only at h
    obtain rfl : len = 1 := zlen_of hlen rfl rfl
    obtain ⟨v, t, rfl, h_1⟩ := zpi_e h
    obtain ⟨j, t, rfl, h_2⟩ := zpi_e h_1
    obtain ⟨w, t, rfl, h_3⟩ := zpa_e h_2
    obtain ⟨ta, o, rfl, h_4⟩ := znn_e h_3
    obtain ⟨n0, hn1, h_5⟩ := zop_e h_4
    obtain ⟨hty, h_6⟩ := zite_e h_5
    obtain ⟨hin, h_7⟩ := zix_e h_6
    have ho : o < S.2.2.1 ta := hst.tl.tl.hd
    obtain ⟨q0, hq0⟩ := hR.cell ta o (Or.inr ⟨n0, hn1⟩) ho
    have hq1 := hq0
    rw [zct_a hn1] at hq0
    obtain ⟨t0, ht0⟩ := hR.arr ta n0 hn1 (by omega)
    have het : zEt ta = .char := by unfold zEt; rw [hn1]; simp [hty, zArC_nm]
    rw [het] at ht0
    rw [show zel ad S ta o n0.1 = .inl fun j => Int32.ofInt (S.1 ta o j) by unfold zel; simp [hty]] at hq0
    refine va_cast hx hb hR.K hR.P hR.D' hS q0 t0 hq0 ht0 (zo_in hin) hdec (fun H1 locs1 g1 g2 g3 => ?_)
    rw [zo_clamp, zo_nar] at g1 g2
    exact goS _ _ t _ (zsI S.1 ta o (zw j).toNat (v % 65536), S.2) H1 locs1 _ h_7 rfl g3 (hR.upd (S' := (zsI S.1 ta o (zw j).toNat (v % 65536), S.2)) rfl ho (Or.inr ⟨n0, hn1⟩) hq1 (zct_stI hn1 (Or.inr hty)) (fun c' i' => zho c' i') (hR.ok) g1 g2) hl hL hst.tl.tl.tl
  | lastore =>
    unfold zStep at h
    try dsimp only at h
    obtain rfl : len = 1 := zlen_of hlen rfl rfl
    obtain ⟨v, t, rfl, h_1⟩ := zpl_e h
    obtain ⟨j, t, rfl, h_2⟩ := zpi_e h_1
    obtain ⟨w, t, rfl, h_3⟩ := zpa_e h_2
    obtain ⟨ta, o, rfl, h_4⟩ := znn_e h_3
    obtain ⟨n0, hn1, h_5⟩ := zop_e h_4
    obtain ⟨hty, h_6⟩ := zite_e h_5
    obtain ⟨hin, h_7⟩ := zix_e h_6
    have ho : o < S.2.2.1 ta := hst.tl.tl.hd
    obtain ⟨q0, hq0⟩ := hR.cell ta o (Or.inr ⟨n0, hn1⟩) ho
    have hq1 := hq0
    rw [zct_a hn1] at hq0
    obtain ⟨t0, ht0⟩ := hR.arr ta n0 hn1 (by omega)
    have het : zEt ta = .long := by unfold zEt; rw [hn1]; simp [hty, zArC_nm]
    rw [het] at ht0
    rw [show zel ad S ta o n0.1 = .inr (.inl fun j => Int64.ofInt (S.1 ta o j)) by unfold zel; simp [hty]] at hq0
    refine va_last hx hb hR.K hR.P hR.D' hS q0 t0 hq0 ht0 (zo_in hin) hdec (fun H1 locs1 g1 g2 g3 => ?_)
    rw [zo_clamp] at g1 g2
    exact goS _ _ t _ (zsI S.1 ta o (zw j).toNat v, S.2) H1 locs1 _ h_7 rfl g3 (hR.upd (S' := (zsI S.1 ta o (zw j).toNat v, S.2)) rfl ho (Or.inr ⟨n0, hn1⟩) hq1 (zct_stL hn1 hty) (fun c' i' => zho c' i') (hR.ok) g1 g2) hl hL hst.tl.tl.tl
  | aastore =>
    unfold zStep at h
    try dsimp only at h
    obtain rfl : len = 1 := zlen_of hlen rfl rfl
    obtain ⟨v, t, rfl, h_1⟩ := zpa_e h
    obtain ⟨j, t, rfl, h_2⟩ := zpi_e h_1
    obtain ⟨w, t, rfl, h_3⟩ := zpa_e h_2
    obtain ⟨ta, o, rfl, h_4⟩ := znn_e h_3
    obtain ⟨n0, hn1, h_5⟩ := zop_e h_4
    obtain ⟨hty, h_6⟩ := zite_e h_5
    obtain ⟨hin, h_7⟩ := zix_e h_6
    obtain ⟨u, rfl, h_8⟩ := zde_e h_7
    have hu : u < S.2.2.1 (zArT ta) := hst.hd
    obtain ⟨q2, hq2⟩ := hR.cell (zArT ta) u (Or.inl (zArT_lt ta)) hu
    rw [zct_o (zArT_lt ta)] at hq2
    have ho : o < S.2.2.1 ta := hst.tl.tl.hd
    obtain ⟨q0, hq0⟩ := hR.cell ta o (Or.inr ⟨n0, hn1⟩) ho
    have hq1 := hq0
    rw [zct_a hn1] at hq0
    obtain ⟨t0, ht0⟩ := hR.arr ta n0 hn1 (by omega)
    have het : zEt ta = .object (zNm (zArT ta)) := by unfold zEt; rw [hn1]; simp [hty, zArC_nm]
    rw [het] at ht0
    rw [show zel ad S ta o n0.1 = .inr (.inr (.inr (.inr fun j => (S.2.1 ta o j).map fun q => ad q.1 q.2))) by unfold zel; simp [hty]] at hq0
    refine va_astq hx hb hR.K hR.P hR.D' hS q0 t0 q2 (zArT ta) hq0 ht0 hq2 (zCl_at (zArT_lt ta)) (zo_in hin) hdec (fun H1 locs1 g1 g2 g3 => ?_)
    rw [zo_clamp] at g1 g2
    exact goS _ _ t _ (S.1, zsR S.2.1 ta o (zw j).toNat (some (zArT ta, u)), S.2.2) H1 locs1 _ h_8 rfl g3 (hR.upd (S' := (S.1, zsR S.2.1 ta o (zw j).toNat (some (zArT ta, u)), S.2.2)) rfl ho (Or.inr ⟨n0, hn1⟩) hq1 (zct_stR hn1 hty) (fun c' i' => zhoR c' i') (zvR hR.ok hst.hd) g1 g2) hl hL hst.tl.tl.tl
  | ireturn =>
    unfold zStep at h
    try dsimp only at h
    obtain rfl : len = 1 := zlen_of hlen rfl rfl
    obtain ⟨x, t, rfl, h_1⟩ := zpi_e h
    obtain ⟨rfl, h_2⟩ := zem_e h_1
    obtain ⟨hok, h_3⟩ := zok_e h_2
    cases h_3
    exact fin H locs cells slots ls pc [zi x] ad dA ws tys hS hR zAg.rf (Or.inl ⟨_, x, hq, rfl, rfl, hok⟩) hst rfl rfl
  | areturn =>
    unfold zStep at h
    try dsimp only at h
    obtain rfl : len = 1 := zlen_of hlen rfl rfl
    obtain ⟨x, t, rfl, h_1⟩ := zpa_e h
    obtain ⟨rfl, h_2⟩ := zem_e h_1
    cases h_2
    exact fin H locs cells slots ls pc [zq x] ad dA ws tys hS hR zAg.rf (Or.inr (Or.inl ⟨_, x, hq, rfl, rfl⟩)) hst rfl rfl
  | return_ =>
    unfold zStep at h
    try dsimp only at h
    obtain rfl : len = 1 := zlen_of hlen rfl rfl
    obtain ⟨rfl, h_1⟩ := zem_e h
    cases h_1
    exact fin H locs cells slots ls pc [] ad dA ws tys hS hR zAg.rf (Or.inr (Or.inr ⟨_, hq, rfl, rfl⟩)) hst rfl rfl
  | new i0 =>
    unfold zStep at h
    try dsimp only at h
    obtain rfl : len = 3 := zlen_of hlen rfl rfl
    obtain rfl : cd = 7 := hni
    rw [if_pos rfl] at h
    obtain ⟨rfl, h⟩ := zem_e h
    cases h
    exact finX H locs cells slots ls pc [] ad dA ws tys i0 a b pp hS hR zAg.rf hq ⟨rfl, hl.2.1⟩ rfl (by show cells + 1 + S.2.2.2.1 = cells + (S.2.2.2.1 + 1); omega) (by show slots + b + S.2.2.2.2.1 = slots + (S.2.2.2.2.1 + b); omega)
  | invokevirtual i0 =>
    exact hni.elim
  | invokestatic i0 =>
    exact hni.elim
  | invokespecial i0 =>
    exact hni.elim
  | newarray i0 =>
    exact hni.elim
  | anewarray i0 =>
    exact hni.elim
  | ldc i0 =>
    exact hni.elim
  | _ =>
    exact absurd h (by simp [zStep])
