/-! the program in the class's memory; P: the same as rows of numbers (by the reference's tags; 100 depth, 101 in a loop, 102 taken, 103 the one before) -/
def rf (c : Nat) (x : Int) : Option (Nat × Nat) := if x < 0 then none else some (c, x.toNat)
theorem rf_n {c : Nat} {x : Int} (h : x < 0) : rf c x = none := if_pos h
theorem rf_s {c : Nat} {x : Int} (h : 0 ≤ x) : rf c x = some (c, x.toNat) := if_neg (by omega)
def nS (P : Nat → Nat → Int) : Nat := (P 11 10).toNat
def nB (P : Nat → Nat → Int) : Nat := (P 11 22).toNat
def nE (P : Nat → Nat → Int) : Nat := (P 11 28).toNat
def nP (P : Nat → Nat → Int) : Nat := (P 11 6).toNat
def hasX (k : Int) : Prop := k = 61 ∨ k = 33 ∨ k = 63 ∨ k = 64 ∨ k = 84
def CatL (I : zMI) (R : zMR) (P : Nat → Nat → Int) (s : Nat) : Nat → Option (Nat × Nat) → Prop
  | 0, r => r = none
  | k + 1, r => ∃ e, r = some (5, e) ∧ I 5 e 0 = P 39 (3 * s + k) ∧ I 5 e 1 = P 40 (3 * s + k) ∧ R 5 e 2 = rf 3 (P 38 (6 * s + 2 + k)) ∧ CatL I R P s k (R 5 e 3)
/-- a statement as it stands while its text is read -/
def CSt (I : zMI) (R : zMR) (P : Nat → Nat → Int) (s : Nat) : Prop := I 4 s 0 = P 34 s ∧ R 4 s 4 = some (3, (P 42 s).toNat) ∧ R 4 s 6 = rf 4 (P 43 s) ∧ R 4 s 5 = rf 4 (P 103 s)
/-- what is set when it has been read -/
def CSd (I : zMI) (R : zMR) (P : Nat → Nat → Int) (s : Nat) : Prop :=
  ((P 34 s = 61 ∨ P 34 s = 84 ∨ P 34 s = 80) → I 4 s 1 = P 35 s) ∧ (hasX (P 34 s) → I 4 s 2 = P 36 s ∧ I 4 s 3 = P 37 s) ∧
  ((P 34 s = 63 ∨ P 34 s = 64 ∨ P 34 s = 89) → R 4 s 7 = rf 3 (P 38 (6 * s))) ∧ (P 34 s = 63 → R 4 s 8 = rf 3 (P 38 (6 * s + 1))) ∧ (P 34 s = 89 → R 4 s 8 = rf 3 (P 38 (6 * s + 5))) ∧ (P 34 s = 64 → R 4 s 8 = none) ∧
  (P 34 s = 89 → CatL I R P s (P 41 s).toNat (R 4 s 9))
def CBl (I : zMI) (R : zMR) (P : Nat → Nat → Int) (b : Nat) : Prop := R 3 b 3 = rf 4 (P 45 b) ∧ R 3 b 4 = rf 4 (P 46 b) ∧ I 3 b 0 = P 100 b ∧ I 3 b 1 = P 101 b ∧ I 3 b 2 = P 102 b
/-- the procedure that is called -/
def pIx (P : Nat → Nat → Int) (n : Int) : Nat → Option Nat
  | 0 => none
  | k + 1 => match pIx P n k with
    | some p => some p
    | none => if P 31 k = n then some k else none
def CLn (I : zMI) (R : zMR) (P : Nat → Nat → Int) (s : Nat) : Prop := P 34 s = 80 → ∃ p, pIx P (P 35 s) (nP P) = some p ∧ R 4 s 7 = rf 3 (P 33 p) ∧ I 4 s 10 = P 32 p
def CRep (I : zMI) (R : zMR) (P : Nat → Nat → Int) : Prop := Kon R ∧ (∀ s, s < nS P → CSt I R P s ∧ CSd I R P s ∧ CLn I R P s) ∧ (∀ b, b < nB P → CBl I R P b) ∧ (∀ j, j < nE P → CEn I P j) ∧ R 2 0 3 = rf 3 (P 33 (nP P))
/-- nothing but the runner's own things changes -/
def FrC (I I' : zMI) : Prop := ∀ c i k, c ≠ 27 → c ≠ 28 → c ≠ 29 → ¬ (c = 6 ∧ k = 3) → ¬ (c = 10 ∧ k ≠ 3 ∧ k ≠ 4) → I' c i k = I c i k
theorem FrC.rfl {I : zMI} : FrC I I := fun _ _ _ _ _ _ _ _ => Eq.refl _
theorem FrC.tr {I I1 I' : zMI} (h0 : FrC I I1) (h : FrC I1 I') : FrC I I' := fun c i k h1 h2 h3 h4 h5 => (h c i k h1 h2 h3 h4 h5).trans (h0 c i k h1 h2 h3 h4 h5)
theorem FrC.set {I I' : zMI} {c i k : Nat} {v : Int} (h : FrC I I') (hc : c = 27 ∨ c = 28 ∨ c = 29 ∨ (c = 6 ∧ k = 3) ∨ (c = 10 ∧ k ≠ 3 ∧ k ≠ 4)) : FrC I (zsI I' c i k v) := fun c' i' k' h1 h2 h3 h4 h5 => by
  rw [zsI_n (by omega)]; exact h c' i' k' h1 h2 h3 h4 h5
theorem FrE.frc {I I' : zMI} (h : FrE I I') : FrC I I' := fun c i k h1 _ _ h4 _ => h c i k h1 h4
theorem CatL.eq {I I' : zMI} {R R' : zMR} {P : Nat → Nat → Int} {s : Nat} (hI : ∀ e k, I' 5 e k = I 5 e k) (hR : ∀ e k, R' 5 e k = R 5 e k) : ∀ (k : Nat) (r : Option (Nat × Nat)), CatL I R P s k r → CatL I' R' P s k r
  | 0, _, h => h
  | k + 1, _, h => by
    obtain ⟨e, h1, h2, h3, h4, h5⟩ := h
    exact ⟨e, h1, (hI e 0).trans h2, (hI e 1).trans h3, (hR e 2).trans h4, by rw [hR e 3]; exact CatL.eq hI hR k _ h5⟩
theorem CRep.fr {I I' : zMI} {R : zMR} {P : Nat → Nat → Int} (h : CRep I R P) (hf : FrC I I') : CRep I' R P := by
  have e4 : ∀ i k, I' 4 i k = I 4 i k := fun i k => hf 4 i k (by decide) (by decide) (by decide) (by omega) (by omega)
  have e3 : ∀ i k, I' 3 i k = I 3 i k := fun i k => hf 3 i k (by decide) (by decide) (by decide) (by omega) (by omega)
  have e5 : ∀ i k, I' 5 i k = I 5 i k := fun i k => hf 5 i k (by decide) (by decide) (by decide) (by omega) (by omega)
  have e25 : ∀ i k, I' 25 i k = I 25 i k := fun i k => hf 25 i k (by decide) (by decide) (by decide) (by omega) (by omega)
  have e26 : ∀ i k, I' 26 i k = I 26 i k := fun i k => hf 26 i k (by decide) (by decide) (by decide) (by omega) (by omega)
  obtain ⟨h1, h2, h3, h4, h5⟩ := h
  refine ⟨h1, fun s hs => ?_, fun b hb => ?_, fun j hj => ?_, h5⟩
  · obtain ⟨a, b, c⟩ := h2 s hs
    unfold CSt at a
    unfold CSd at b
    unfold CLn at c
    unfold CSt CSd CLn
    simp only [e4]
    exact ⟨a, ⟨b.1, b.2.1, b.2.2.1, b.2.2.2.1, b.2.2.2.2.1, b.2.2.2.2.2.1, fun q => CatL.eq e5 (fun _ _ => rfl) _ _ (b.2.2.2.2.2.2 q)⟩, c⟩
  · have := h3 b hb
    unfold CBl at this ⊢
    simp only [e3]
    exact this
  · have := h4 j hj
    unfold CEn at this ⊢
    simp only [e25, e26]
    exact this
/-- a run's state: variables, what was put out, how many, fuel left, most under way -/
abbrev Rs : Type := (Nat → Int) × (Nat → Int) × Nat × Nat × Nat
/-- how something is left: the way, tag and value of what was raised, and the state -/
abbrev Oc : Type := Nat × Int × Int × Rs
def CRun (I : zMI) (uw : Nat) (σ : Rs) : Prop := (∀ k, k < 8 → zw (I 28 0 k) = σ.1 k) ∧ (∀ k, k < σ.2.2.1 → zw (I 29 0 k) = σ.2.1 k) ∧ I 10 0 2 = (σ.2.2.1 : Int) ∧ I 10 0 5 = (σ.2.2.2.1 : Int) ∧ I 10 0 10 = (uw : Int) ∧ I 10 0 6 = (σ.2.2.2.2 : Int)
def CK (R : zMR) (al : zA) (K : Option zV → zS → Prop) (I : zMI) (uw : Nat) (o : Oc) : Prop :=
  ∀ I', FrC I I' → CRun I' uw o.2.2.2 → (o.1 = 4 → I' 10 0 7 = o.2.1 ∧ zw (I' 10 0 8) = o.2.2.1) → K (some (zq (some (90, o.1)))) (I', R, al)
theorem CK.fr {R : zMR} {al : zA} {K : Option zV → zS → Prop} {I I1 : zMI} {uw : Nat} {o : Oc} (h : CK R al K I uw o) (hf : FrC I I1) : CK R al K I1 uw o := fun I' h1 h2 h3 => h I' (hf.tr h1) h2 h3
theorem CRun.fre {I I' : zMI} {uw : Nat} {σ : Rs} (h : CRun I uw σ) (hf : FrE I I') : CRun I' uw σ := by
  unfold CRun at h ⊢
  have e28 : ∀ i k, I' 28 i k = I 28 i k := fun i k => hf 28 i k (by decide) (by omega)
  have e29 : ∀ i k, I' 29 i k = I 29 i k := fun i k => hf 29 i k (by decide) (by omega)
  have e10 : ∀ i k, I' 10 i k = I 10 i k := fun i k => hf 10 i k (by decide) (by omega)
  simp only [e28, e29, e10]
  exact h
theorem CRun.raise {I : zMI} {uw : Nat} {σ : Rs} {t v : Int} (h : CRun I uw σ) : CRun (zsI (zsI I 10 0 7 t) 10 0 8 v) uw σ := by
  have e : ∀ c k, ¬ (c = 10 ∧ (k = 7 ∨ k = 8)) → zsI (zsI I 10 0 7 t) 10 0 8 v c 0 k = I c 0 k := fun c k hc => by rw [zsI_n (by omega), zsI_n (by omega)]
  obtain ⟨h1, h2, h3, h4, h5, h6⟩ := h
  exact ⟨fun k hk => by rw [e _ _ (by omega)]; exact h1 k hk, fun k hk => by rw [e _ _ (by omega)]; exact h2 k hk, by rw [e _ _ (by omega)]; exact h3, by rw [e _ _ (by omega)]; exact h4, by rw [e _ _ (by omega)]; exact h5, by rw [e _ _ (by omega)]; exact h6⟩
theorem CK.raise {R : zMR} {al : zA} {K : Option zV → zS → Prop} {I : zMI} {uw : Nat} {σ : Rs} {t v v' : Int} (hC : CRun I uw σ) (h : CK R al K I uw (4, t, v, σ)) (hv : zw v' = v) : K (some (zq (some (90, 4)))) (zsI (zsI I 10 0 7 t) 10 0 8 v', R, al) :=
  h _ ((FrC.rfl.set (by omega)).set (by omega)) hC.raise (fun _ => ⟨by rw [zsI_ne (by omega), zsI_s], by rw [zsI_s]; exact hv⟩)
