/-! states of reading -/
def PC (I : zMI) (R : zMR) (T : Nat → Int) (n p e s b c : Nat) (P : Nat → Nat → Int) : Prop := CX I T n p e P ∧ Kon R ∧ I 7 0 5 = (s : Int) ∧ I 7 0 9 = (b : Int) ∧ I 7 0 10 = (c : Int) ∧ (∀ z, z < s → CSt I R P z) ∧ ∀ y, y < b → CBl I R P y
def PM (I : zMI) (T : Nat → Int) (n p e s b : Nat) (P : Nat → Nat → Int) : Prop := MXs I T n p e P ∧ I 11 0 10 = (s : Int) ∧ I 11 0 22 = (b : Int) ∧ AG I P ∧ ∀ y, y < b → I 49 0 y = 0
def FS (I I' : zMI) (s c : Nat) : Prop := ∀ t i k, (t = 4 → i < s ∧ 1 ≤ k) → (t = 5 → i < c) → t ≠ 3 → t ≠ 25 → t ≠ 26 → ¬ (t = 8 ∧ k = 2) → ¬ (t = 6 ∧ k = 2) → ¬ (t = 7 ∧ (k = 5 ∨ k = 9 ∨ k = 10)) → I' t i k = I t i k
def FR (R R' : zMR) (s c : Nat) : Prop := ∀ t i k, (t = 4 → i < s ∧ 7 ≤ k) → (t = 5 → i < c) → t ≠ 3 → R' t i k = R t i k
theorem FS.rfl {I : zMI} {s c : Nat} : FS I I s c := fun _ _ _ _ _ _ _ _ _ _ _ => Eq.refl _
theorem FR.rfl {R : zMR} {s c : Nat} : FR R R s c := fun _ _ _ _ _ _ => Eq.refl _
theorem FS.tr {I I1 I' : zMI} {s c s1 c1 : Nat} (h0 : FS I I1 s c) (h : FS I1 I' s1 c1) (hs : s ≤ s1) (hc : c ≤ c1) : FS I I' s c := fun t i k h1 h2 h3 h4 h5 h6 h7 h8 => (h t i k (fun q => ⟨by have := (h1 q).1; omega, (h1 q).2⟩) (fun q => by have := h2 q; omega) h3 h4 h5 h6 h7 h8).trans (h0 t i k h1 h2 h3 h4 h5 h6 h7 h8)
theorem FR.tr {R R1 R' : zMR} {s c s1 c1 : Nat} (h0 : FR R R1 s c) (h : FR R1 R' s1 c1) (hs : s ≤ s1) (hc : c ≤ c1) : FR R R' s c := fun t i k h1 h2 h3 => (h t i k (fun q => ⟨by have := (h1 q).1; omega, (h1 q).2⟩) (fun q => by have := h2 q; omega) h3).trans (h0 t i k h1 h2 h3)
def PF (P P' : Nat → Nat → Int) (e s b : Nat) : Prop := (∀ t z, z < s → (t = 34 ∨ t = 35 ∨ t = 36 ∨ t = 37 ∨ t = 41 ∨ t = 42 ∨ t = 103) → P' t z = P t z) ∧ (∀ z j, z < s → j < 6 → P' 38 (6 * z + j) = P 38 (6 * z + j)) ∧ (∀ t z k, z < s → k < 3 → (t = 39 ∨ t = 40) → P' t (3 * z + k) = P t (3 * z + k)) ∧ (∀ t y, y < b → (t = 47 ∨ t = 48 ∨ t = 100 ∨ t = 101 ∨ t = 102) → P' t y = P t y) ∧ (∀ t j, j < e → (t = 50 ∨ t = 51) → P' t j = P t j) ∧ ∀ t k, (t = 31 ∨ t = 32 ∨ t = 33) → P' t k = P t k
theorem PF.rfl {P : Nat → Nat → Int} {e s b : Nat} : PF P P e s b := ⟨fun _ _ _ _ => Eq.refl _, fun _ _ _ _ => Eq.refl _, fun _ _ _ _ _ _ => Eq.refl _, fun _ _ _ _ => Eq.refl _, fun _ _ _ _ => Eq.refl _, fun _ _ _ => Eq.refl _⟩
theorem PF.tr {P P1 P' : Nat → Nat → Int} {e s b e1 s1 b1 : Nat} (h0 : PF P P1 e s b) (h : PF P1 P' e1 s1 b1) (he : e ≤ e1) (hs : s ≤ s1) (hb : b ≤ b1) : PF P P' e s b :=
  ⟨fun t z hz ht => (h.1 t z (by omega) ht).trans (h0.1 t z hz ht), fun z j hz hj => (h.2.1 z j (by omega) hj).trans (h0.2.1 z j hz hj), fun t z k hz hk ht => (h.2.2.1 t z k (by omega) hk ht).trans (h0.2.2.1 t z k hz hk ht), fun t y hy ht => (h.2.2.2.1 t y (by omega) ht).trans (h0.2.2.2.1 t y hy ht), fun t j hj ht => (h.2.2.2.2.1 t j (by omega) ht).trans (h0.2.2.2.2.1 t j hj ht), fun t k ht => (h.2.2.2.2.2 t k ht).trans (h0.2.2.2.2.2 t k ht)⟩
/-- what one statement shows of the rows is the same -/
def PFz (P P' : Nat → Nat → Int) (e b z : Nat) : Prop := (∀ t, (t = 34 ∨ t = 35 ∨ t = 36 ∨ t = 37 ∨ t = 41 ∨ t = 42 ∨ t = 103) → P' t z = P t z) ∧ (∀ j, j < 6 → P' 38 (6 * z + j) = P 38 (6 * z + j)) ∧ (∀ t k, k < 3 → (t = 39 ∨ t = 40) → P' t (3 * z + k) = P t (3 * z + k)) ∧ (∀ t y, y < b → (t = 47 ∨ t = 48 ∨ t = 100 ∨ t = 101 ∨ t = 102) → P' t y = P t y) ∧ (∀ t j, j < e → (t = 50 ∨ t = 51) → P' t j = P t j)
theorem PF.z {P P' : Nat → Nat → Int} {e s b z : Nat} (h : PF P P' e s b) (hz : z < s) : PFz P P' e b z := ⟨fun t ht => h.1 t z hz ht, fun j hj => h.2.1 z j hz hj, fun t k hk ht => h.2.2.1 t z k hz hk ht, h.2.2.2.1, h.2.2.2.2.1⟩
def CatB (I : zMI) (R : zMR) (P : Nat → Nat → Int) (z a c : Nat) : Nat → Option (Nat × Nat) → Prop
  | 0, r => r = none
  | k + 1, r => ∃ e, a ≤ e ∧ e < c ∧ r = some (5, e) ∧ I 5 e 0 = P 39 (3 * z + k) ∧ I 5 e 1 = P 40 (3 * z + k) ∧ R 5 e 2 = rf 3 (P 38 (6 * z + 2 + k)) ∧ CatB I R P z a c k (R 5 e 3)
theorem CatB.catl {I : zMI} {R : zMR} {P : Nat → Nat → Int} {z a c : Nat} : ∀ (k : Nat) (r : Option (Nat × Nat)), CatB I R P z a c k r → CatL I R P z k r
  | 0, _, h => h
  | k + 1, _, h => by
    obtain ⟨e, -, -, h1, h2, h3, h4, h5⟩ := h
    exact ⟨e, h1, h2, h3, h4, CatB.catl k _ h5⟩
theorem CatB.frz {I I' : zMI} {R R' : zMR} {P P' : Nat → Nat → Int} {z a a' c c' e b : Nat} (i5 : ∀ i k, a ≤ i → i < c → I' 5 i k = I 5 i k) (r5 : ∀ i k, a ≤ i → i < c → R' 5 i k = R 5 i k) (hP : PFz P P' e b z) (ha : a' ≤ a) (hc : c ≤ c') : ∀ (k : Nat) (r : Option (Nat × Nat)), k ≤ 3 → CatB I R P z a c k r → CatB I' R' P' z a' c' k r
  | 0, _, _, h => h
  | k + 1, _, hk, h => by
    obtain ⟨w, h0, h0', h1, h2, h3, h4, h5⟩ := h
    have e1 : 6 * z + 2 + k = 6 * z + (2 + k) := by omega
    refine ⟨w, by omega, by omega, h1, ?_, ?_, ?_, ?_⟩
    · rw [i5 w 0 h0 h0', hP.2.2.1 39 k (by omega) (by omega)]; exact h2
    · rw [i5 w 1 h0 h0', hP.2.2.1 40 k (by omega) (by omega)]; exact h3
    · rw [r5 w 2 h0 h0', e1, hP.2.1 (2 + k) (by omega), ← e1]; exact h4
    · rw [r5 w 3 h0 h0']
      exact CatB.frz i5 r5 hP ha hc k _ (by omega) h5
/-- a statement that was read, in the class's memory -/
def CD (I : zMI) (R : zMR) (P : Nat → Nat → Int) (a c z : Nat) : Prop :=
  ((P 34 z = 61 ∨ P 34 z = 84 ∨ P 34 z = 80) → I 4 z 1 = P 35 z) ∧ (hasX (P 34 z) → I 4 z 2 = P 36 z ∧ I 4 z 3 = P 37 z) ∧
  ((P 34 z = 63 ∨ P 34 z = 64 ∨ P 34 z = 89) → R 4 z 7 = rf 3 (P 38 (6 * z + 0))) ∧ (P 34 z = 63 → R 4 z 8 = rf 3 (P 38 (6 * z + 1))) ∧ (P 34 z = 89 → R 4 z 8 = rf 3 (P 38 (6 * z + 5))) ∧ (P 34 z = 64 → R 4 z 8 = none) ∧
  (P 34 z = 89 → CatB I R P z a c (P 41 z).toNat (R 4 z 9))
theorem CD.frz {I I' : zMI} {R R' : zMR} {P P' : Nat → Nat → Int} {z a a' c c' e b : Nat} (h : CD I R P a c z) (i4 : ∀ k, 1 ≤ k → I' 4 z k = I 4 z k) (r4 : ∀ k, 7 ≤ k → R' 4 z k = R 4 z k) (i5 : ∀ i k, a ≤ i → i < c → I' 5 i k = I 5 i k) (r5 : ∀ i k, a ≤ i → i < c → R' 5 i k = R 5 i k) (hP : PFz P P' e b z) (ha : a' ≤ a) (hc : c ≤ c') (h3 : P 41 z ≤ 3) : CD I' R' P' a' c' z := by
  obtain ⟨a1, a2, a3, a4, a5, a6, a7⟩ := h
  unfold CD
  rw [hP.1 34 (by omega), hP.1 35 (by omega), hP.1 36 (by omega), hP.1 37 (by omega), hP.1 41 (by omega), hP.2.1 0 (by omega), hP.2.1 1 (by omega), hP.2.1 5 (by omega), i4 1 (by omega), i4 2 (by omega), i4 3 (by omega), r4 7 (by omega), r4 8 (by omega), r4 9 (by omega)]
  exact ⟨a1, a2, a3, a4, a5, a6, fun q => CatB.frz i5 r5 hP ha hc _ _ (by omega) (a7 q)⟩
theorem FS.i4 {I I' : zMI} {s c z : Nat} (h : FS I I' s c) (hz : z < s) : ∀ k, 1 ≤ k → I' 4 z k = I 4 z k := fun k hk => h 4 z k (fun _ => ⟨hz, hk⟩) (by omega) (by decide) (by decide) (by decide) (by omega) (by omega) (by omega)
theorem FS.i5 {I I' : zMI} {s c : Nat} (h : FS I I' s c) : ∀ i k, i < c → I' 5 i k = I 5 i k := fun i k hi => h 5 i k (by omega) (fun _ => hi) (by decide) (by decide) (by decide) (by omega) (by omega) (by omega)
theorem FR.r4 {R R' : zMR} {s c z : Nat} (h : FR R R' s c) (hz : z < s) : ∀ k, 7 ≤ k → R' 4 z k = R 4 z k := fun k hk => h 4 z k (fun _ => ⟨hz, hk⟩) (by omega) (by decide)
theorem FR.r5 {R R' : zMR} {s c : Nat} (h : FR R R' s c) : ∀ i k, i < c → R' 5 i k = R 5 i k := fun i k hi => h 5 i k (by omega) (fun _ => hi) (by decide)
theorem CD.frs {I I' : zMI} {R R' : zMR} {P P' : Nat → Nat → Int} {z a a' c c' e s b : Nat} (h : CD I R P a c z) (hI : FS I I' s c) (hR : FR R R' s c) (hP : PFz P P' e b z) (hz : z < s) (ha : a' ≤ a) (hc : c ≤ c') (h3 : P 41 z ≤ 3) : CD I' R' P' a' c' z := h.frz (hI.i4 hz) (hR.r4 hz) (fun i k _ hi => hI.i5 i k hi) (fun i k _ hi => hR.r5 i k hi) hP ha hc h3
theorem PFz.rfl {P : Nat → Nat → Int} {e b z : Nat} : PFz P P e b z := ⟨fun _ _ => Eq.refl _, fun _ _ => Eq.refl _, fun _ _ _ _ => Eq.refl _, fun _ _ _ _ => Eq.refl _, fun _ _ _ _ => Eq.refl _⟩
theorem PFz.tr {P P1 P' : Nat → Nat → Int} {e b e1 b1 z : Nat} (h0 : PFz P P1 e b z) (h : PFz P1 P' e1 b1 z) (he : e ≤ e1) (hb : b ≤ b1) : PFz P P' e b z := ⟨fun t ht => (h.1 t ht).trans (h0.1 t ht), fun j hj => (h.2.1 j hj).trans (h0.2.1 j hj), fun t k hk ht => (h.2.2.1 t k hk ht).trans (h0.2.2.1 t k hk ht), fun t y hy ht => (h.2.2.2.1 t y (by omega) ht).trans (h0.2.2.2.1 t y hy ht), fun t j hj ht => (h.2.2.2.2 t j (by omega) ht).trans (h0.2.2.2.2 t j hj ht)⟩
def KidN (P : Nat → Nat → Int) (b s j : Nat) : Prop := ∃ y : Nat, P 38 (6 * s + j) = (y : Int) ∧ y < b ∧ P 47 y = (s : Int) ∧ P 48 y = (j : Int)
/-- a statement that was read -/
def SD (P : Nat → Nat → Int) (b e z : Nat) : Prop :=
  knd (P 34 z) ∧ (hasX (P 34 z) → XOk P z ∧ P 37 z ≤ (e : Int)) ∧ (P 34 z = 61 → 0 ≤ P 35 z ∧ P 35 z < 8) ∧ (P 34 z = 84 → 0 ≤ P 35 z ∧ P 35 z ≤ 4) ∧ (P 34 z = 80 → 0 ≤ P 35 z ∧ P 35 z ≤ 2) ∧
  (∀ j, j < 6 → P 38 (6 * z + j) = -1 ∨ KidN P b z j) ∧ ((P 34 z = 63 ∨ P 34 z = 64 ∨ P 34 z = 89) → KidN P b z 0) ∧ (P 34 z = 63 → KidN P b z 1) ∧
  (0 ≤ P 41 z ∧ P 41 z ≤ 3 ∧ ∀ k : Nat, (k : Int) < P 41 z → 0 ≤ P 39 (3 * z + k) ∧ P 39 (3 * z + k) ≤ 4 ∧ 0 ≤ P 40 (3 * z + k) ∧ P 40 (3 * z + k) < 8 ∧ KidN P b z (2 + k)) ∧ BlN P z
theorem KidN.frz {P P' : Nat → Nat → Int} {e b b' z j : Nat} (h : KidN P b z j) (hP : PFz P P' e b z) (hj : j < 6) (hb : b ≤ b') : KidN P' b' z j := by
  obtain ⟨y, h1, h2, h3, h4⟩ := h
  exact ⟨y, (hP.2.1 j hj).trans h1, by omega, (hP.2.2.2.1 47 y h2 (by omega)).trans h3, (hP.2.2.2.1 48 y h2 (by omega)).trans h4⟩
theorem Hok_congr {P P' : Nat → Nat → Int} : ∀ (m k h : Nat), (∀ j, k ≤ j → j < k + m → P' 50 j = P 50 j ∧ P' 51 j = P 51 j) → Hok P m k h → Hok P' m k h
  | 0, _, _, _, h => h
  | m + 1, k, h, e, hg => by
    obtain ⟨e1, e2⟩ := e k (by omega) (by omega)
    have ih := fun h1 => Hok_congr (P := P) (P' := P') m (k + 1) h1 (fun j h1 h2 => e j (by omega) (by omega))
    unfold Hok
    rw [e1, e2]
    rcases hg with ⟨a, b, c, d, x⟩ | ⟨a, b, c, d, x⟩ | ⟨a, b, x⟩
    · exact Or.inl ⟨a, b, c, d, ih _ x⟩
    · exact Or.inr (Or.inl ⟨a, b, c, d, ih _ x⟩)
    · exact Or.inr (Or.inr ⟨a, b, ih _ x⟩)
theorem SD.frz {P P' : Nat → Nat → Int} {e e' b b' z : Nat} (h : SD P b e z) (hP : PFz P P' e b z) (hb : b ≤ b') (he : e ≤ e') : SD P' b' e' z := by
  obtain ⟨a1, a2, a3, a4, a5, a6, a7, a8, a9, a10⟩ := h
  have e38 : ∀ j, j < 6 → P' 38 (6 * z + j) = P 38 (6 * z + j) := fun j hj => hP.2.1 j hj
  unfold SD
  rw [hP.1 34 (by omega), hP.1 35 (by omega), hP.1 37 (by omega), hP.1 41 (by omega)]
  refine ⟨a1, fun q => ?_, a3, a4, a5, fun j hj => ?_, fun q => (a7 q).frz hP (by omega) hb, fun q => (a8 q).frz hP (by omega) hb, ⟨a9.1, a9.2.1, fun k hk => ?_⟩, ?_⟩
  · obtain ⟨⟨x1, x2, x3, x4⟩, x5⟩ := a2 q
    refine ⟨?_, by omega⟩
    unfold XOk
    rw [hP.1 36 (by omega), hP.1 37 (by omega)]
    exact ⟨x1, x2, x3, Hok_congr _ _ _ (fun j h1 h2 => ⟨hP.2.2.2.2 50 j (by omega) (by omega), hP.2.2.2.2 51 j (by omega) (by omega)⟩) x4⟩
  · rw [e38 j hj]
    rcases a6 j hj with q | q
    · exact Or.inl q
    · exact Or.inr (q.frz hP hj hb)
  · obtain ⟨n1, n2, n3⟩ := a9
    obtain ⟨m1, m2, m3, m4, m5⟩ := n3 k hk
    rw [hP.2.2.1 39 k (by omega) (by omega), hP.2.2.1 40 k (by omega) (by omega)]
    exact ⟨m1, m2, m3, m4, m5.frz hP (by omega) hb⟩
  · obtain ⟨b1, b2, b3, b4, b5⟩ := a10
    unfold BlN
    rw [hP.1 34 (by omega), hP.1 41 (by omega)]
    refine ⟨fun q j h1 h2 => by rw [e38 j h2]; exact b1 q j h1 h2, fun q j h1 h2 => by rw [e38 j h2]; exact b2 q j h1 h2, fun q k h1 h2 => ?_, fun q j h1 => by rw [e38 j h1]; exact b4 q j h1, fun q => by rw [e38 1 (by omega)]; exact b5 q⟩
    have e1 : 6 * z + 2 + k = 6 * z + (2 + k) := by omega
    rw [e1, e38 (2 + k) (by omega), ← e1]
    exact b3 q k h1 h2
theorem KidN.fr {P P' : Nat → Nat → Int} {e s b b' z j : Nat} (h : KidN P b z j) (hP : PF P P' e s b) (hz : z < s) (hj : j < 6) (hb : b ≤ b') : KidN P' b' z j := h.frz (hP.z hz) hj hb
theorem SD.fr {P P' : Nat → Nat → Int} {e e' s b b' z : Nat} (h : SD P b e z) (hP : PF P P' e s b) (hz : z < s) (hb : b ≤ b') (he : e ≤ e') : SD P' b' e' z := h.frz (hP.z hz) hb he
theorem CX.fr2 {I I' : zMI} {T : Nat → Int} {n p e : Nat} {P P' : Nat → Nat → Int} (h : CX I T n p e P) (h1 : I' 1 0 1 = I 1 0 1) (h20 : ∀ j, I' 20 0 j = I 20 0 j) (h8 : I' 8 0 2 = I 8 0 2) (h6 : I' 6 0 2 = I 6 0 2) (h25 : ∀ j, I' 25 0 j = I 25 0 j) (h26 : ∀ j, I' 26 0 j = I 26 0 j) (hP : ∀ j, j < e → P' 50 j = P 50 j ∧ P' 51 j = P 51 j) : CX I' T n p e P' := by
  obtain ⟨⟨a1, a2, a3⟩, a4, a5⟩ := h
  refine ⟨⟨h1.trans a1, fun j hj => (h20 j).trans (a2 j hj), h8.trans a3⟩, h6.trans a4, fun j hj => ?_⟩
  unfold CEn
  rw [(hP j hj).1, (hP j hj).2, h25, h26]
  exact a5 j hj
section
variable {T : Nat → Int} {n p e s b c x : Nat} {P : Nat → Nat → Int} {I : zMI} {R : zMR} {k : Int}
/-- the class's rows with a new statement -/
theorem PC_new (h : PC I R T n p e s b c P) (hB : AB P s b) (hx : x < b) : ∃ I1 R1, FS I I1 s c ∧ FR R R1 s c ∧ I1 4 s 0 = k ∧ (∀ t i j, t ≠ 4 → ¬ (t = 7 ∧ j = 5) → I1 t i j = I t i j) ∧ R1 4 s 7 = none ∧ R1 4 s 8 = none ∧ R1 4 s 9 = none ∧ PC I1 R1 T n p e (s + 1) b c (pNS P s x k) ∧
    ∀ (d : Nat) (al : zA) (K : Option zV → zS → Prop), s < 80 → (0 ≤ k ∧ k < 65536) → K (some (zq (some (4, s)))) (I1, R1, al) → zCp (d + 1) 30 [zq (some (7, 0)), zq (some (3, x)), zi k] (I, R, al) K := by
  obtain ⟨h1, hK, h5, h9, h10, hS, hBl⟩ := h
  have hBx := (hB x hx).1
  have hlast : P 46 x = -1 ∨ ∃ l : Nat, P 46 x = (l : Int) ∧ l < s := by
    rcases hBx with ⟨_, h, _⟩ | ⟨f, l, _, h, _, h2, _⟩
    · exact Or.inl h
    · exact Or.inr ⟨l, h, h2⟩
  have hxs : ¬ (0 ≤ P 46 x ∧ (P 46 x).toNat = s) := by
    rcases hlast with h | ⟨l, h, h2⟩ <;> omega
  obtain ⟨e34, -, -, -, -, e42, e43, e103, -, e46⟩ := pNS_s (k := k) hxs
  obtain ⟨l1, l2⟩ := pNS_link (s := s) (k := k) (P := P) (x := x) (by omega)
  have hBlx := hBl x hx
  have o5x : ∀ j, pNS P s x k 50 j = P 50 j ∧ pNS P s x k 51 j = P 51 j := fun j => ⟨pNS_o (by omega) (by omega) (by omega) (by omega) (by omega) (by omega), pNS_o (by omega) (by omega) (by omega) (by omega) (by omega) (by omega)⟩
  have oz : ∀ z, z < s → pNS P s x k 34 z = P 34 z ∧ pNS P s x k 42 z = P 42 z ∧ pNS P s x k 103 z = P 103 z := fun z hz => ⟨pNS_o (by omega) (by omega) (by omega) (by omega) (by omega) (by omega), pNS_o (by omega) (by omega) (by omega) (by omega) (by omega) (by omega), pNS_o (by omega) (by omega) (by omega) (by omega) (by omega) (by omega)⟩
  have oy : ∀ y, pNS P s x k 100 y = P 100 y ∧ pNS P s x k 101 y = P 101 y ∧ pNS P s x k 102 y = P 102 y := fun y => ⟨pNS_o (by omega) (by omega) (by omega) (by omega) (by omega) (by omega), pNS_o (by omega) (by omega) (by omega) (by omega) (by omega) (by omega), pNS_o (by omega) (by omega) (by omega) (by omega) (by omega) (by omega)⟩
  have oyx : ∀ y, y ≠ x → pNS P s x k 45 y = P 45 y ∧ pNS P s x k 46 y = P 46 y := fun y hy => ⟨pNS_o (by omega) (by omega) (by omega) (by omega) (by omega) (by omega), pNS_o (by omega) (by omega) (by omega) (by omega) (by omega) (by omega)⟩
  have hfI : ∀ t i j, t ≠ 4 → ¬ (t = 7 ∧ j = 5) → zsI (zsI I 7 0 5 ((s + 1 : Nat) : Int)) 4 s 0 k t i j = I t i j := fun t i j h1 h2 => by rw [zsI_n (by omega), zsI_n (by omega)]
  have hI4 : ∀ z j, ¬ (z = s ∧ j = 0) → zsI (zsI I 7 0 5 ((s + 1 : Nat) : Int)) 4 s 0 k 4 z j = I 4 z j := fun z j h1 => by rw [zsI_n (by omega), zsI_n (by omega)]
  have hFS : FS I (zsI (zsI I 7 0 5 ((s + 1 : Nat) : Int)) 4 s 0 k) s c := fun t i j h1 h2 h3 h4 h5 h6 h7 h8 => by
    by_cases q : t = 4
    · subst q; exact hI4 i j (by have := h1 rfl; omega)
    · exact hfI t i j q (by omega)
  rcases hlast with hl | ⟨l, hl, hls⟩
  · have hr4 : R 3 x 4 = none := by rw [hBlx.2.1, hl]; exact rf_n (by decide)
    refine ⟨_, zsR (zsR (zsR (zsR (zsR (zsR (zsR (zsR R 4 s 4 (some (3, x))) 4 s 5 none) 4 s 6 none) 4 s 7 none) 4 s 8 none) 4 s 9 none) 3 x 3 (some (4, s))) 3 x 4 (some (4, s)), hFS, fun t i j h1 h2 h3 => ?_, zsI_s .., hfI, ?_, ?_, ?_, ?_, fun d al K hs hk h => ca_stmt0 hK hs h5 hk hr4 h⟩
    · rw [zsR_n (by omega), zsR_n (by omega), zsR_n (by omega), zsR_n (by omega), zsR_n (by omega), zsR_n (by omega), zsR_n (by omega), zsR_n (by omega)]
    · rw [zsR_n (by omega), zsR_n (by omega), zsR_n (by omega), zsR_n (by omega), zsR_s]
    · rw [zsR_n (by omega), zsR_n (by omega), zsR_n (by omega), zsR_s]
    · rw [zsR_n (by omega), zsR_n (by omega), zsR_s]
    · refine ⟨h1.fr2 (hfI _ _ _ (by decide) (by omega)) (fun j => hfI _ _ _ (by decide) (by omega)) (hfI _ _ _ (by decide) (by omega)) (hfI _ _ _ (by decide) (by omega)) (fun j => hfI _ _ _ (by decide) (by omega)) (fun j => hfI _ _ _ (by decide) (by omega)) (fun j _ => o5x j), fun t i j ht => by rw [zsR_n (by omega), zsR_n (by omega), zsR_n (by omega), zsR_n (by omega), zsR_n (by omega), zsR_n (by omega), zsR_n (by omega), zsR_n (by omega)]; exact hK t i j ht, by rw [zsI_ne (by omega), zsI_s], by rw [hfI _ _ _ (by decide) (by omega)]; exact h9, by rw [hfI _ _ _ (by decide) (by omega)]; exact h10, fun z hz => ?_, fun y hy => ?_⟩
      · by_cases q : z = s
        · subst q
          refine ⟨by rw [zsI_s, e34], ?_, ?_, ?_⟩
          · rw [e42, Int.toNat_natCast, zsR_n (by omega), zsR_n (by omega), zsR_n (by omega), zsR_n (by omega), zsR_n (by omega), zsR_n (by omega), zsR_n (by omega), zsR_s]
          · rw [e43, rf_n (by decide), zsR_n (by omega), zsR_n (by omega), zsR_n (by omega), zsR_n (by omega), zsR_n (by omega), zsR_s]
          · rw [e103, hl, rf_n (by decide), zsR_n (by omega), zsR_n (by omega), zsR_n (by omega), zsR_n (by omega), zsR_n (by omega), zsR_n (by omega), zsR_s]
        · obtain ⟨a1, a2, a3, a4⟩ := hS z (by omega)
          obtain ⟨p1, p2, p3⟩ := oz z (by omega)
          have p4 : pNS P s x k 43 z = P 43 z := pNS_o (by omega) (by omega) (by omega) (by omega) (by omega) (by omega)
          unfold CSt
          rw [p1, p2, p3, p4, hI4 z 0 (by omega)]
          refine ⟨a1, ?_, ?_, ?_⟩
          · rw [zsR_n (by omega), zsR_n (by omega), zsR_n (by omega), zsR_n (by omega), zsR_n (by omega), zsR_n (by omega), zsR_n (by omega), zsR_n (by omega)]; exact a2
          · rw [zsR_n (by omega), zsR_n (by omega), zsR_n (by omega), zsR_n (by omega), zsR_n (by omega), zsR_n (by omega), zsR_n (by omega), zsR_n (by omega)]; exact a3
          · rw [zsR_n (by omega), zsR_n (by omega), zsR_n (by omega), zsR_n (by omega), zsR_n (by omega), zsR_n (by omega), zsR_n (by omega), zsR_n (by omega)]; exact a4
      · obtain ⟨a1, a2, a3, a4, a5⟩ := hBl y hy
        obtain ⟨p1, p2, p3⟩ := oy y
        unfold CBl
        rw [p1, p2, p3, hfI _ _ _ (by decide) (by omega), hfI _ _ _ (by decide) (by omega), hfI _ _ _ (by decide) (by omega)]
        by_cases q : y = x
        · subst q
          refine ⟨?_, ?_, a3, a4, a5⟩
          · rw [l1 (by omega), rf_s (by omega), Int.toNat_natCast, zsR_n (by omega), zsR_s]
          · rw [e46, rf_s (by omega), Int.toNat_natCast, zsR_s]
        · obtain ⟨p4, p5⟩ := oyx y q
          rw [p4, p5]
          refine ⟨?_, ?_, a3, a4, a5⟩
          · rw [zsR_n (by omega), zsR_n (by omega), zsR_n (by omega), zsR_n (by omega), zsR_n (by omega), zsR_n (by omega), zsR_n (by omega), zsR_n (by omega)]; exact a1
          · rw [zsR_n (by omega), zsR_n (by omega), zsR_n (by omega), zsR_n (by omega), zsR_n (by omega), zsR_n (by omega), zsR_n (by omega), zsR_n (by omega)]; exact a2
  · have hr4 : R 3 x 4 = some (4, l) := by rw [hBlx.2.1, hl, rf_s (by omega), Int.toNat_natCast]
    refine ⟨_, zsR (zsR (zsR (zsR (zsR (zsR (zsR (zsR R 4 s 4 (some (3, x))) 4 s 5 (some (4, l))) 4 s 6 none) 4 s 7 none) 4 s 8 none) 4 s 9 none) 4 l 6 (some (4, s))) 3 x 4 (some (4, s)), hFS, fun t i j h1 h2 h3 => ?_, zsI_s .., hfI, ?_, ?_, ?_, ?_, fun d al K hs hk h => ca_stmt1 hK hs h5 hk hr4 h⟩
    · rw [zsR_n (by omega), zsR_n (by omega), zsR_n (by omega), zsR_n (by omega), zsR_n (by omega), zsR_n (by omega), zsR_n (by omega), zsR_n (by omega)]
    · rw [zsR_n (by omega), zsR_n (by omega), zsR_n (by omega), zsR_n (by omega), zsR_s]
    · rw [zsR_n (by omega), zsR_n (by omega), zsR_n (by omega), zsR_s]
    · rw [zsR_n (by omega), zsR_n (by omega), zsR_s]
    · refine ⟨h1.fr2 (hfI _ _ _ (by decide) (by omega)) (fun j => hfI _ _ _ (by decide) (by omega)) (hfI _ _ _ (by decide) (by omega)) (hfI _ _ _ (by decide) (by omega)) (fun j => hfI _ _ _ (by decide) (by omega)) (fun j => hfI _ _ _ (by decide) (by omega)) (fun j _ => o5x j), fun t i j ht => by rw [zsR_n (by omega), zsR_n (by omega), zsR_n (by omega), zsR_n (by omega), zsR_n (by omega), zsR_n (by omega), zsR_n (by omega), zsR_n (by omega)]; exact hK t i j ht, by rw [zsI_ne (by omega), zsI_s], by rw [hfI _ _ _ (by decide) (by omega)]; exact h9, by rw [hfI _ _ _ (by decide) (by omega)]; exact h10, fun z hz => ?_, fun y hy => ?_⟩
      · by_cases q : z = s
        · subst q
          refine ⟨by rw [zsI_s, e34], ?_, ?_, ?_⟩
          · rw [e42, Int.toNat_natCast, zsR_n (by omega), zsR_n (by omega), zsR_n (by omega), zsR_n (by omega), zsR_n (by omega), zsR_n (by omega), zsR_n (by omega), zsR_s]
          · rw [e43, rf_n (by decide), zsR_n (by omega), zsR_n (by omega), zsR_n (by omega), zsR_n (by omega), zsR_n (by omega), zsR_s]
          · rw [e103, hl, rf_s (by omega), Int.toNat_natCast, zsR_n (by omega), zsR_n (by omega), zsR_n (by omega), zsR_n (by omega), zsR_n (by omega), zsR_n (by omega), zsR_s]
        · obtain ⟨a1, a2, a3, a4⟩ := hS z (by omega)
          obtain ⟨p1, p2, p3⟩ := oz z (by omega)
          unfold CSt
          rw [p1, p2, p3, hI4 z 0 (by omega)]
          refine ⟨a1, ?_, ?_, ?_⟩
          · rw [zsR_n (by omega), zsR_n (by omega), zsR_n (by omega), zsR_n (by omega), zsR_n (by omega), zsR_n (by omega), zsR_n (by omega), zsR_n (by omega)]; exact a2
          · by_cases q2 : z = l
            · subst q2
              have := l2 (by omega)
              rw [hl, Int.toNat_natCast] at this
              rw [this, rf_s (by omega), Int.toNat_natCast, zsR_n (by omega), zsR_s]
            · have p4 : pNS P s x k 43 z = P 43 z := pNS_o (by omega) (by omega) (by omega) (by omega) (by omega) (by omega)
              rw [p4, zsR_n (by omega), zsR_n (by omega), zsR_n (by omega), zsR_n (by omega), zsR_n (by omega), zsR_n (by omega), zsR_n (by omega), zsR_n (by omega)]; exact a3
          · rw [zsR_n (by omega), zsR_n (by omega), zsR_n (by omega), zsR_n (by omega), zsR_n (by omega), zsR_n (by omega), zsR_n (by omega), zsR_n (by omega)]; exact a4
      · obtain ⟨a1, a2, a3, a4, a5⟩ := hBl y hy
        obtain ⟨p1, p2, p3⟩ := oy y
        unfold CBl
        rw [p1, p2, p3, hfI _ _ _ (by decide) (by omega), hfI _ _ _ (by decide) (by omega), hfI _ _ _ (by decide) (by omega)]
        by_cases q : y = x
        · subst q
          have p4 : pNS P s y k 45 y = P 45 y := pNS_o (by omega) (by omega) (by omega) (by omega) (by omega) (by omega)
          refine ⟨?_, ?_, a3, a4, a5⟩
          · rw [p4, zsR_n (by omega), zsR_n (by omega), zsR_n (by omega), zsR_n (by omega), zsR_n (by omega), zsR_n (by omega), zsR_n (by omega), zsR_n (by omega)]; exact a1
          · rw [e46, rf_s (by omega), Int.toNat_natCast, zsR_s]
        · obtain ⟨p4, p5⟩ := oyx y q
          rw [p4, p5]
          refine ⟨?_, ?_, a3, a4, a5⟩
          · rw [zsR_n (by omega), zsR_n (by omega), zsR_n (by omega), zsR_n (by omega), zsR_n (by omega), zsR_n (by omega), zsR_n (by omega), zsR_n (by omega)]; exact a1
          · rw [zsR_n (by omega), zsR_n (by omega), zsR_n (by omega), zsR_n (by omega), zsR_n (by omega), zsR_n (by omega), zsR_n (by omega), zsR_n (by omega)]; exact a2
theorem PF_new (hB : AB P s b) (hx : x < b) : PF P (pNS P s x k) e s b := by
  refine ⟨fun t z hz ht => pNS_o (by omega) (by omega) (by omega) (by omega) (by omega) (by omega), fun z j hz hj => pNS_o (by omega) (by omega) (by omega) (by omega) (by omega) (by omega), fun t z j hz hj ht => pNS_o (by omega) (by omega) (by omega) (by omega) (by omega) (by omega), fun t y hy ht => pNS_o (by omega) (by omega) (by omega) (by omega) (by omega) (by omega), fun t j hj ht => pNS_o (by omega) (by omega) (by omega) (by omega) (by omega) (by omega), fun t j ht => pNS_o (by omega) (by omega) (by omega) (by omega) (by omega) (by omega)⟩
end
