/-! the text of operators; where a character stands in it; all instructions -/
theorem zLdcOk : (List.range 129).all (fun y => (zCd y).all (fun e => match e.2.1 with
    | .ldc x => (decide (e.2.2.2.1 = 91) && decide (e.2.2.2.2.1 = 0) && decide (x = 174) && decide (zNm (zOw y) = "LeavingMachine$Reader")) || (match zlk y (e.1 + 2) with
      | some q => (match q.1 with
        | .invokespecial _ => decide (q.2.2.2.2.1 = 7) && decide (q.2.2.1 = 902 ∨ q.2.2.1 = 903 ∨ q.2.2.1 = 904)
        | _ => false)
      | none => false)
    | _ => true)) = true := by decide +kernel
theorem zIdxOk : (List.range 129).all (fun y => (zCd y).all (fun e => match e.2.1 with
    | .invokevirtual x => decide (e.2.2.2.2.2.1 ≠ 6) || (decide (e.2.2.2.1 = 900) && decide (e.2.2.2.2.1 = 2) && decide (zTw 2229 = some (.methodLink (zNm (zOw y)) x (zJn 4))))
    | _ => true)) = true := by decide +kernel
theorem zBi_900 {as : List zV} {r : Option zV} (h : zBi 900 as = some r) : ∃ q x, as = [zq (some q), zi x] ∧ r = some (zi (zops (zw x))) := by
  unfold zBi at h
  split at h
  · rename_i q x
    simp at h
    exact ⟨q, x, rfl, h.symm⟩
  · simp at h
  · simp at h
  · cases h
def zLdi (i : Instr) (cd : Nat) : Prop := match i with
  | .ldc _ => True
  | .invokevirtual _ => cd = 6
  | _ => False
set_option maxHeartbeats 8000000 in
set_option maxRecDepth 100000 in
theorem zBd_idx {l : Launch} {A : Nat → Prop} {D : va_G} {xs : Nat → Int32} {N n : Nat} (ih : zBd l A D xs N n)
    {d y pc : Nat} {L : zL} {st : List zV} {S : zS} {r : Option zV} {S' : zS} (hy : y < 129)
    {p : Program} {e : Env} {R : Room} {s : State} {m : MethodId} {args : Array Value} {below : List Frame} {meth : Method} {c : Code} {Q : State → Prop} {H : Heap} {locs : List Loc} {cells slots : Nat} {ls : Array Slot} {ad : zAd} {dA : Nat → ClassId} {ws : va_W} {tys : List (ClassId × FieldType)}
    (hC : zCx y p s m args meth c) (hS : va_S A s.heap H locs) (hR : zRl A D xs N ad dA ws tys S s H) (hX : zXs A ad xs N s s.heap) (hl : zLv ls (zMx y) ad L) (hL : zLok S L) (hst : zSok S st) (hfr : d ≤ R.frames) (hlo : 32 * d ≤ R.locals) (hce : cells + S'.2.2.2.1 ≤ R.cells + S.2.2.2.1) (hsl : slots + S'.2.2.2.2.1 ≤ R.slots + S.2.2.2.2.1)
    (fin : ∀ (H' : Heap) (locs' : List Loc) (cells' slots' : Nat) (ls' : Array Slot) (pc' : Nat) (st' : List zV) (ad' : zAd) (dA' : Nat → ClassId) (ws' : va_W) (tys' : List (ClassId × FieldType)), va_S A s.heap H' locs' → zRl A D xs N ad' dA' ws' tys' S' s H' → zAg S ad ad' → zEnd y pc' st' r → zSok S' st' → cells' + S.2.2.2.1 = cells + S'.2.2.2.1 → slots' + S.2.2.2.2.1 = slots + S'.2.2.2.2.1 →
      W p l e R s m args below meth c H' locs' cells' slots' Q (F0 m pc' ls' (st'.map (zcv ad'))))
    (finX : ∀ (H' : Heap) (locs' : List Loc) (cells' slots' : Nat) (ls' : Array Slot) (pc' : Nat) (st' : List zV) (ad' : zAd) (dA' : Nat → ClassId) (ws' : va_W) (tys' : List (ClassId × FieldType)) (x a b q : Nat), va_S A s.heap H' locs' → zRl A D xs N ad' dA' ws' tys' S' s H' → zAg S ad ad' → zlk y pc' = some (.new x, 3, a, b, 7, q) → (st' = [] ∧ ls'.size = zMx y) → r = some (zq (some (a, 0))) → cells' + 1 + S.2.2.2.1 = cells + S'.2.2.2.1 → slots' + b + S.2.2.2.2.1 = slots + S'.2.2.2.2.1 →
      W p l e R s m args below meth c H' locs' cells' slots' Q (F0 m pc' ls' (st'.map (zcv ad'))))
    {i : Instr} {len a b cd pp : Nat} (hq : zlk y pc = some (i, len, a, b, cd, pp)) (h : zStep i len a b cd pc y L st S (fun p L s S => zEv n d y p L s S) (fun y' as S κ => zCall (zEv n) d y' as S κ) (fun r S => some (r, S)) none = some (r, S'))
    (hni : zLdi i cd) :
    W p l e R s m args below meth c H locs cells slots Q (F0 m pc ls (st.map (zcv ad))) := by
  obtain ⟨hx, hb, hml, hown, hts, hnm, hht⟩ := hC
  have hC : zCx y p s m args meth c := ⟨hx, hb, hml, hown, hts, hnm, hht⟩
  have hok := (zOkAll y hy).2 _ (zlk_mem hq)
  simp only [zEok, Bool.and_eq_true, decide_eq_true_eq] at hok
  obtain ⟨⟨hdec, hlen⟩, hw⟩ := hok
  have hY := hX.2.2.2.2.2.2
  have go : ∀ (pc1 : Nat) (L1 : zL) (st1 : List zV) (ls1 : Array Slot), zEv n d y pc1 L1 st1 S = some (r, S') → zLv ls1 (zMx y) ad L1 → zLok S L1 → zSok S st1 → W p l e R s m args below meth c H locs cells slots Q (F0 m pc1 ls1 (st1.map (zcv ad))) := fun pc1 L1 st1 ls1 h1 h5 h6 h7 => ih d y pc1 L1 st1 _ r S' h1 hy p e R s m args below meth c Q H locs cells slots ls1 ad dA ws tys hC hS hR hX h5 h6 h7 hfr hlo hce hsl fin finX
  cases i with
  | ldc i0 =>
    unfold zStep at h
    try dsimp only at h
    obtain rfl : len = 2 := zlen_of hlen rfl rfl
    have hm := List.all_eq_true.mp (List.all_eq_true.mp zLdcOk y (List.mem_range.mpr hy)) _ (zlk_mem hq)
    simp only [Bool.or_eq_true, Bool.and_eq_true, decide_eq_true_eq] at hm
    rcases hm with ⟨⟨⟨rfl, rfl⟩, rfl⟩, hrd⟩ | hm
    · obtain ⟨hvk, -⟩ := hY.2.1
      refine va_ldcS hx hb (by rw [← hrd]; exact hown) hvk hdec ?_
      refine go _ _ (zq (some (91, 0)) :: st) _ h hl hL (fun v hv => ?_)
      rcases List.mem_cons.mp hv with rfl | hv
      · show 0 < S.2.2.1 91
        rw [hR.c91]; decide
      · exact hst v hv
    · exfalso
      cases n with
      | zero => cases h
      | succ n =>
        rw [zEv] at h
        cases hz : zlk y (pc + 2) with
        | none => rw [hz] at hm; cases hm
        | some q =>
          rw [hz] at hm h
          obtain ⟨i1, len1, a1, b1, cd1, pp1⟩ := q
          dsimp only at hm h
          cases i1 with
          | invokespecial x =>
            simp only [Bool.and_eq_true, decide_eq_true_eq] at hm
            obtain ⟨rfl, hm⟩ := hm
            unfold zStep at h
            dsimp only at h
            rw [if_neg (by decide)] at h
            obtain ⟨as, t, hab, hst0, hwt, h_1⟩ := zinv_e h
            obtain ⟨i, u, has, h_2⟩ := zrec_e h_1
            rcases zCall_e h_2 with ⟨-, hd, r1, hbi, hk⟩ | ⟨q9, -⟩
            · rcases zBi_x hbi with hz | hz | hz <;> omega
            · omega
          | _ => cases hm
  | invokevirtual i0 =>
    unfold zStep at h
    try dsimp only at h
    obtain rfl : len = 3 := zlen_of hlen rfl rfl
    obtain rfl : cd = 6 := hni
    have hm := List.all_eq_true.mp (List.all_eq_true.mp zIdxOk y (List.mem_range.mpr hy)) _ (zlk_mem hq)
    simp only [ne_eq, not_true_eq_false, decide_false, Bool.false_or, Bool.and_eq_true, decide_eq_true_eq] at hm
    obtain ⟨⟨rfl, rfl⟩, hm1⟩ := hm
    obtain ⟨as, t, hab, hst0, hwt, h_1⟩ := zinv_e h
    obtain ⟨i, u, has, h_2⟩ := zrec_e h_1
    rw [if_neg (by decide)] at h_2
    rcases zCall_e h_2 with ⟨-, hd, r1, hbi, hk⟩ | ⟨q9, -⟩
    · obtain ⟨q, x, has2, rfl⟩ := zBi_900 hbi
      subst hst0
      rw [has2] at has hst ⊢
      have hq0 : q = (zOw 900, i) := by
        injection has with h1 h2
        injection h1 with h1
        injection h1 with h1
        injection h1
      subst hq0
      have hi : i = 0 := by
        have := hst (zq (some (zOw 900, i))) (by simp)
        have h91 : S.2.2.1 (zOw 900) = 1 := hR.c91
        have hlt : i < S.2.2.1 (zOw 900) := this
        omega
      subst hi
      obtain ⟨-, ⟨-, y1, y2, t0, y3, y4⟩, -, y5, -⟩ := hY
      have hst' : zStP A (ad 91 0) t0 s s.heap := ⟨y1, y2, y3, y4, y5⟩
      have hgr := zEv_gr _ _ _ _ _ _ _ _ _ hk
      refine zJ_callV (k := 4) (f := 3) (n := 90) (A := A) (a := ad 91 0) (t := t0) (r := zJx x) (vs := [.int (Int32.ofInt x)]) (rest := t.map (zcv ad)) (by decide) zJ4 hx hb (hml.trans hl.2.1.symm) hown hts (zGW_of hm1 rfl) hst' hS rfl (by omega) ?_ ?_ ?_ ?_ hdec ?_
      · show 8 + (2 + 11) + 90 ≤ R.locals
        omega
      · have := hgr.1; omega
      · have := hgr.2.1; omega
      · rw [zwt_sum]; exact hwt
      · rw [zJx_ops]
        refine go _ _ (zi (zops (zw x)) :: t) _ hk hl hL (fun v hv => ?_)
        rcases List.mem_cons.mp hv with rfl | hv
        · trivial
        · exact hst v (List.mem_append_right _ hv)
    · exact absurd (by decide) q9
  | _ => exact hni.elim
theorem zSpc_all {l : Launch} (hoff : ∀ e : Env, l.admits e → e.platform.stackTraces = false) {A : Nat → Prop} {D : va_G} {xs : Nat → Int32} {N n : Nat} (ih : zBd l A D xs N n) : zSpc l A D xs N n := by
  intro d y pc L st S r S' hy p e R s m args below meth c Q H locs cells slots ls ad dA ws tys hC hS hR hX hl hL hst hfr hlo hce hsl fin finX i len a b cd pp hq h hk
  cases i with
  | ldc x => exact zBd_idx ih hy hC hS hR hX hl hL hst hfr hlo hce hsl fin finX hq h trivial
  | invokevirtual x =>
    by_cases h6 : cd = 6
    · exact zBd_idx ih hy hC hS hR hX hl hL hst hfr hlo hce hsl fin finX hq h h6
    · exact zBd_thr hoff ih hy hC hS hR hX hl hL hst hfr hlo hce hsl fin finX hq h (hk.resolve_left h6)
  | invokestatic x =>
    by_cases h5 : cd = 5
    · exact zBd_easy ih hy hC hS hR hX hl hL hst hfr hlo hce hsl fin finX hq h h5
    · exact zBd_wrap ih hy hC hS hR hX hl hL hst hfr hlo hce hsl fin finX hq h (hk.resolve_left h5) h5
  | invokespecial x => exact zBd_easy ih hy hC hS hR hX hl hL hst hfr hlo hce hsl fin finX hq h hk
  | _ => exact hk.elim
theorem zBd_all {l : Launch} (hoff : ∀ e : Env, l.admits e → e.platform.stackTraces = false) {A : Nat → Prop} {D : va_G} {xs : Nat → Int32} {N : Nat} : ∀ n, zBd l A D xs N n
  | 0 => zBd_0
  | n + 1 => zBd_s_open (zBd_all hoff n) (zSpc_all hoff (zBd_all hoff n))
