/-! all instructions together; what is special (the JDK's members, what catches) as one hypothesis -/
def zSpi (i : Instr) (a cd : Nat) : Prop := match i with
  | .ldc _ => True
  | .invokevirtual _ => cd = 6 ∨ zThr a = true
  | .invokestatic _ => cd = 5 ∨ (zP a).2.2.2.2 = 9
  | .invokespecial _ => cd = 4 ∨ cd = 7
  | _ => False
def zSpc (l : Launch) (A : Nat → Prop) (D : va_G) (xs : Nat → Int32) (N n : Nat) : Prop := ∀
    {d y pc : Nat} {L : zL} {st : List zV} {S : zS} {r : Option zV} {S' : zS} (hy : y < 129)
    {p : Program} {e : Env} {R : Room} {s : State} {m : MethodId} {args : Array Value} {below : List Frame} {meth : Method} {c : Code} {Q : State → Prop} {H : Heap} {locs : List Loc} {cells slots : Nat} {ls : Array Slot} {ad : zAd} {dA : Nat → ClassId} {ws : va_W} {tys : List (ClassId × FieldType)}
    (hC : zCx y p s m args meth c) (hS : va_S A s.heap H locs) (hR : zRl A D xs N ad dA ws tys S s H) (hX : zXs A ad xs N s s.heap) (hl : zLv ls (zMx y) ad L) (hL : zLok S L) (hst : zSok S st) (hfr : d ≤ R.frames) (hlo : 32 * d ≤ R.locals) (hce : cells + S'.2.2.2.1 ≤ R.cells + S.2.2.2.1) (hsl : slots + S'.2.2.2.2.1 ≤ R.slots + S.2.2.2.2.1)
    (fin : ∀ (H' : Heap) (locs' : List Loc) (cells' slots' : Nat) (ls' : Array Slot) (pc' : Nat) (st' : List zV) (ad' : zAd) (dA' : Nat → ClassId) (ws' : va_W) (tys' : List (ClassId × FieldType)), va_S A s.heap H' locs' → zRl A D xs N ad' dA' ws' tys' S' s H' → zAg S ad ad' → zEnd y pc' st' r → zSok S' st' → cells' + S.2.2.2.1 = cells + S'.2.2.2.1 → slots' + S.2.2.2.2.1 = slots + S'.2.2.2.2.1 →
      W p l e R s m args below meth c H' locs' cells' slots' Q (F0 m pc' ls' (st'.map (zcv ad'))))
    (finX : ∀ (H' : Heap) (locs' : List Loc) (cells' slots' : Nat) (ls' : Array Slot) (pc' : Nat) (st' : List zV) (ad' : zAd) (dA' : Nat → ClassId) (ws' : va_W) (tys' : List (ClassId × FieldType)) (x a b q : Nat), va_S A s.heap H' locs' → zRl A D xs N ad' dA' ws' tys' S' s H' → zAg S ad ad' → zlk y pc' = some (.new x, 3, a, b, 7, q) → (st' = [] ∧ ls'.size = zMx y) → r = some (zq (some (a, 0))) → cells' + 1 + S.2.2.2.1 = cells + S'.2.2.2.1 → slots' + b + S.2.2.2.2.1 = slots + S'.2.2.2.2.1 →
      W p l e R s m args below meth c H' locs' cells' slots' Q (F0 m pc' ls' (st'.map (zcv ad'))))
    {i : Instr} {len a b cd pp : Nat} (hq : zlk y pc = some (i, len, a, b, cd, pp)) (h : zStep i len a b cd pc y L st S (fun p L s S => zEv n d y p L s S) (fun y' as S κ => zCall (zEv n) d y' as S κ) (fun r S => some (r, S)) none = some (r, S')), zSpi i a cd →
    W p l e R s m args below meth c H locs cells slots Q (F0 m pc ls (st.map (zcv ad)))
theorem zKinds (i : Instr) (a cd : Nat) : zSim i cd ∨ zMak i cd ∨ zOwn i a cd ∨ zSpi i a cd := by
  cases i with
  | invokevirtual x =>
    by_cases h : cd = 6
    · exact Or.inr (Or.inr (Or.inr (Or.inl h)))
    · by_cases h2 : zThr a = true
      · exact Or.inr (Or.inr (Or.inr (Or.inr h2)))
      · exact Or.inr (Or.inr (Or.inl ⟨h, by simpa using h2⟩))
  | invokestatic x =>
    by_cases h : cd = 5
    · exact Or.inr (Or.inr (Or.inr (Or.inl h)))
    · by_cases h2 : (zP a).2.2.2.2 = 9
      · exact Or.inr (Or.inr (Or.inr (Or.inr h2)))
      · exact Or.inr (Or.inr (Or.inl ⟨h, h2⟩))
  | invokespecial x =>
    by_cases h : cd = 4
    · exact Or.inr (Or.inr (Or.inr (Or.inl h)))
    · by_cases h2 : cd = 7
      · exact Or.inr (Or.inr (Or.inr (Or.inr h2)))
      · exact Or.inr (Or.inr (Or.inl ⟨h, h2⟩))
  | new x =>
    by_cases h : cd = 7
    · exact Or.inl h
    · exact Or.inr (Or.inl h)
  | newarray x => exact Or.inr (Or.inl trivial)
  | anewarray x => exact Or.inr (Or.inl trivial)
  | ldc x => exact Or.inr (Or.inr (Or.inr trivial))
  | _ => exact Or.inl trivial
theorem zBd_s_open {l : Launch} {A : Nat → Prop} {D : va_G} {xs : Nat → Int32} {N n : Nat} (ih : zBd l A D xs N n) (hsp : zSpc l A D xs N n) : zBd l A D xs N (n + 1) := by
  intro d y pc L st S r S' h hy p e R s m args below meth c Q H locs cells slots ls ad dA ws tys hC hS hR hX hl hL hst hfr hlo hce hsl fin finX
  rw [zEv] at h
  cases hq : zlk y pc with
  | none => rw [hq] at h; cases h
  | some q =>
    rw [hq] at h
    obtain ⟨i, len, a, b, cd, pp⟩ := q
    dsimp only at h
    rcases zKinds i a cd with hk | hk | hk | hk
    · exact zBd_simple ih hy hC hS hR hX hl hL hst hfr hlo hce hsl fin finX hq h hk
    · exact zBd_new ih hy hC hS hR hX hl hL hst hfr hlo hce hsl fin finX hq h hk
    · exact zBd_call ih hy hC hS hR hX hl hL hst hfr hlo hce hsl fin finX hq h hk
    · exact hsp hy hC hS hR hX hl hL hst hfr hlo hce hsl fin finX hq h hk
theorem zBd_0 {l : Launch} {A : Nat → Prop} {D : va_G} {xs : Nat → Int32} {N : Nat} : zBd l A D xs N 0 := by
  intro d y pc L st S r S' h
  cases h
