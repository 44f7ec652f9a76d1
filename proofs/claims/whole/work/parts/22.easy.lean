/-! Object.<init> and Math.max -/
theorem zObjW : zTw 1033 = some (.instanceMethod objectInit) ∧ zTw 1034 = some (.code objectInit ⟨#[0xb1]⟩ 1 none) := ⟨rfl, rfl⟩
theorem zMaxW : zTw 3018 = some (.static Lib.Math.max.name) ∧ zTw 3019 = some (.code Lib.Math.max.name Lib.Math.max.code 2 (some .int)) ∧ zTw 1015 = some (.initialized "java/lang/Math") := ⟨rfl, rfl, rfl⟩
theorem zMaxOk : (List.range 129).all (fun y => (zCd y).all (fun e => match e.2.1 with
    | .invokestatic x => decide (e.2.2.2.2.2.1 ≠ 5) || (decide (zTw e.2.2.2.2.2.2 = some (.methodLink (zNm (zOw y)) x Lib.Math.max.name)) && decide (e.2.2.2.1 = 901) && decide (e.2.2.2.2.1 = 2))
    | _ => true)) = true := by decide +kernel
theorem zBi_905 {as : List zV} {r : Option zV} (h : zBi 905 as = some r) : ∃ q, as = [zq (some q)] := by
  unfold zBi at h
  split at h
  · simp at h
  · simp at h
  · exact ⟨_, rfl⟩
  · cases h
theorem zBi_901 {as : List zV} {r : Option zV} (h : zBi 901 as = some r) : ∃ a b, as = [zi a, zi b] ∧ r = some (zi (zmax a b)) := by
  unfold zBi at h
  split at h
  · simp at h
  · rename_i a b
    simp at h
    exact ⟨a, b, rfl, h.symm⟩
  · simp at h
  · cases h
theorem zBi_x {y : Nat} {as : List zV} {r : Option zV} (h : zBi y as = some r) : y = 900 ∨ y = 901 ∨ y = 905 := by
  unfold zBi at h
  split at h
  · split at h
    · left; assumption
    · cases h
  · split at h
    · right; left; assumption
    · cases h
  · split at h
    · right; right; assumption
    · cases h
  · cases h
def zEas (i : Instr) (cd : Nat) : Prop := match i with
  | .invokestatic _ => cd = 5
  | .invokespecial _ => cd = 4 ∨ cd = 7
  | _ => False
theorem zXcOk : (List.range 129).all (fun y => (zCd y).all (fun e => match e.2.1 with
    | .invokespecial _ => decide (e.2.2.2.2.2.1 ≠ 7) || decide (e.2.2.2.1 = 902 ∨ e.2.2.2.1 = 903 ∨ e.2.2.2.1 = 904)
    | _ => true)) = true := by decide +kernel
set_option maxHeartbeats 8000000 in
set_option maxRecDepth 100000 in
theorem zBd_easy {l : Launch} {A : Nat → Prop} {D : va_G} {xs : Nat → Int32} {N n : Nat} (ih : zBd l A D xs N n)
    {d y pc : Nat} {L : zL} {st : List zV} {S : zS} {r : Option zV} {S' : zS} (hy : y < 129)
    {p : Program} {e : Env} {R : Room} {s : State} {m : MethodId} {args : Array Value} {below : List Frame} {meth : Method} {c : Code} {Q : State → Prop} {H : Heap} {locs : List Loc} {cells slots : Nat} {ls : Array Slot} {ad : zAd} {dA : Nat → ClassId} {ws : va_W} {tys : List (ClassId × FieldType)}
    (hC : zCx y p s m args meth c) (hS : va_S A s.heap H locs) (hR : zRl A D xs N ad dA ws tys S s H) (hX : zXs A ad xs N s s.heap) (hl : zLv ls (zMx y) ad L) (hL : zLok S L) (hst : zSok S st) (hfr : d ≤ R.frames) (hlo : 32 * d ≤ R.locals) (hce : cells + S'.2.2.2.1 ≤ R.cells + S.2.2.2.1) (hsl : slots + S'.2.2.2.2.1 ≤ R.slots + S.2.2.2.2.1)
    (fin : ∀ (H' : Heap) (locs' : List Loc) (cells' slots' : Nat) (ls' : Array Slot) (pc' : Nat) (st' : List zV) (ad' : zAd) (dA' : Nat → ClassId) (ws' : va_W) (tys' : List (ClassId × FieldType)), va_S A s.heap H' locs' → zRl A D xs N ad' dA' ws' tys' S' s H' → zAg S ad ad' → zEnd y pc' st' r → zSok S' st' → cells' + S.2.2.2.1 = cells + S'.2.2.2.1 → slots' + S.2.2.2.2.1 = slots + S'.2.2.2.2.1 →
      W p l e R s m args below meth c H' locs' cells' slots' Q (F0 m pc' ls' (st'.map (zcv ad'))))
    (finX : ∀ (H' : Heap) (locs' : List Loc) (cells' slots' : Nat) (ls' : Array Slot) (pc' : Nat) (st' : List zV) (ad' : zAd) (dA' : Nat → ClassId) (ws' : va_W) (tys' : List (ClassId × FieldType)) (x a b q : Nat), va_S A s.heap H' locs' → zRl A D xs N ad' dA' ws' tys' S' s H' → zAg S ad ad' → zlk y pc' = some (.new x, 3, a, b, 7, q) → (st' = [] ∧ ls'.size = zMx y) → r = some (zq (some (a, 0))) → cells' + 1 + S.2.2.2.1 = cells + S'.2.2.2.1 → slots' + b + S.2.2.2.2.1 = slots + S'.2.2.2.2.1 →
      W p l e R s m args below meth c H' locs' cells' slots' Q (F0 m pc' ls' (st'.map (zcv ad'))))
    {i : Instr} {len a b cd pp : Nat} (hq : zlk y pc = some (i, len, a, b, cd, pp)) (h : zStep i len a b cd pc y L st S (fun p L s S => zEv n d y p L s S) (fun y' as S κ => zCall (zEv n) d y' as S κ) (fun r S => some (r, S)) none = some (r, S'))
    (hni : zEas i cd) :
    W p l e R s m args below meth c H locs cells slots Q (F0 m pc ls (st.map (zcv ad))) := by
  obtain ⟨hx, hb, hml, hown, hts, hnm, hht⟩ := hC
  have hC : zCx y p s m args meth c := ⟨hx, hb, hml, hown, hts, hnm, hht⟩
  have hok := (zOkAll y hy).2 _ (zlk_mem hq)
  simp only [zEok, Bool.and_eq_true, decide_eq_true_eq] at hok
  obtain ⟨⟨hdec, hlen⟩, hw⟩ := hok
  have go : ∀ (pc1 : Nat) (L1 : zL) (st1 : List zV) (ls1 : Array Slot), zEv n d y pc1 L1 st1 S = some (r, S') → zLv ls1 (zMx y) ad L1 → zLok S L1 → zSok S st1 → W p l e R s m args below meth c H locs cells slots Q (F0 m pc1 ls1 (st1.map (zcv ad))) := fun pc1 L1 st1 ls1 h1 h5 h6 h7 => ih d y pc1 L1 st1 _ r S' h1 hy p e R s m args below meth c Q H locs cells slots ls1 ad dA ws tys hC hS hR hX h5 h6 h7 hfr hlo hce hsl fin finX
  cases i with
  | invokestatic i0 =>
    unfold zStep at h
    try dsimp only at h
    obtain rfl : len = 3 := zlen_of hlen rfl rfl
    obtain rfl : cd = 5 := hni
    have hm := List.all_eq_true.mp (List.all_eq_true.mp zMaxOk y (List.mem_range.mpr hy)) _ (zlk_mem hq)
    simp only [ne_eq, not_true_eq_false, decide_false, Bool.false_or, Bool.and_eq_true, decide_eq_true_eq] at hm
    obtain ⟨⟨hm1, rfl⟩, rfl⟩ := hm
    obtain ⟨as, t, hab, hst0, hwt, h_1⟩ := zinv_e h
    rcases zCall_e h_1 with ⟨-, hd, r1, hbi, hk⟩ | ⟨q9, -⟩
    · obtain ⟨xa, xb, rfl, rfl⟩ := zBi_901 hbi
      subst hst0
      obtain ⟨w1, w2, w3⟩ := zMaxW
      refine va_mmax (x := Int32.ofInt xa) (y := Int32.ofInt xb) (rest := t.map (zcv ad)) hx hb (hml.trans hl.2.1.symm) hown (hts _ (zGW_of hm1 rfl)) (hts _ (zGW_of w1 rfl)) (hts _ (zGW_of w3 rfl)) (hts _ (zGW_of w2 rfl)) (by omega) (by rw [zwt_sum]; omega) ?_ ?_ hdec ?_
      · have := (zEv_gr _ _ _ _ _ _ _ _ _ hk).1; omega
      · have := (zEv_gr _ _ _ _ _ _ _ _ _ hk).2.1; omega
      · refine zTop (v' := zcv ad (zi (zmax xa xb))) ?_ (go _ _ (zi (zmax xa xb) :: t) _ hk hl hL (fun v hv => ?_))
        · rw [zcv_i]
          unfold zmax
          by_cases hlt : zw xa < zw xb
          · rw [if_pos hlt, if_pos (zo_lt.mpr hlt)]
          · rw [if_neg hlt, if_neg (fun q => hlt (zo_lt.mp q))]
        · rcases List.mem_cons.mp hv with rfl | hv
          · trivial
          · exact hst v (List.mem_append_right _ hv)
    · exact absurd (by decide) q9
  | invokespecial i0 =>
    unfold zStep at h
    try dsimp only at h
    obtain rfl : len = 3 := zlen_of hlen rfl rfl
    have hni : cd = 4 ∨ cd = 7 := hni
    rcases hni with rfl | rfl
    · rw [if_pos rfl] at h
      simp only [zEw, Bool.or_eq_true, Bool.and_eq_true, decide_eq_true_eq] at hw
      have hw1 : zTw pp = some (.methodLink (zNm (zOw y)) i0 objectInit) := by
        rcases hw with (hw | hw) | hw
        · omega
        · exact hw.2
        · rcases hw.2 with ⟨q, -⟩ | ⟨⟨q, -⟩, -⟩ <;> omega
      obtain ⟨as, t, hab, hst0, hwt, h_1⟩ := zinv_e h
      rcases zCall_e h_1 with ⟨-, hd, r1, hbi, hk⟩ | ⟨q9, -⟩
      · obtain ⟨q, rfl⟩ := zBi_905 hbi
        subst hst0
        obtain ⟨w1, w2⟩ := zObjW
        refine W.objInit hx hb hown (hts _ (zGW_of hw1 rfl)) (hts _ (zGW_of w1 rfl)) (hts _ (zGW_of w2 rfl)) rfl (by rw [hml]; exact hl.2.1) (a := ad q.1 q.2) (rest := t.map (zcv ad)) rfl hdec (by omega) ?_ ?_
        · show 2 * 0 + ((t.map (zcv ad)).map fun v => v.category).sum + 12 ≤ R.locals
          rw [zwt_sum]; omega
        · exact go _ _ t _ hk hl hL (fun v hv => hst v (List.mem_append_right _ hv))
      · exact absurd (by decide) q9
    · exfalso
      rw [if_neg (by decide)] at h
      have hm := List.all_eq_true.mp (List.all_eq_true.mp zXcOk y (List.mem_range.mpr hy)) _ (zlk_mem hq)
      simp only [ne_eq, not_true_eq_false, decide_false, Bool.false_or, decide_eq_true_eq] at hm
      obtain ⟨as, t, hab, hst0, hwt, h_1⟩ := zinv_e h
      obtain ⟨i, u, has, h_2⟩ := zrec_e h_1
      rcases zCall_e h_2 with ⟨-, hd, r1, hbi, hk⟩ | ⟨q9, -⟩
      · rcases zBi_x hbi with hz | hz | hz <;> omega
      · omega
  | _ => exact hni.elim
