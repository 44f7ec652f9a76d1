/-! the root blocks, one after the other -/
def NF (e s b q : Nat) (P : Nat → Nat → Int) : Prop := e ≤ 160 ∧ s ≤ 80 ∧ b ≤ 80 ∧ q ≤ 3 ∧ AS P s b ∧ AB P s b ∧ (∀ z, z < s → SD P b e z) ∧ (∀ i, i < q → 0 ≤ P 31 i ∧ P 31 i ≤ 2 ∧ 0 ≤ P 32 i ∧ P 32 i < 32) ∧ (∀ i, i ≤ q → ∃ y : Nat, P 33 i = (y : Int) ∧ y < b ∧ P 47 y = -1) ∧ ∀ y, y < b → P 47 y = -1 → ∃ i, i ≤ q ∧ P 33 i = (y : Int)
def CF (I : zMI) (R : zMR) (T : Nat → Int) (n e s b c q : Nat) (P : Nat → Nat → Int) : Prop := PC I R T n n e s b c P ∧ QC I R P q ∧ (∀ z, z < s → CD I R P 0 c z) ∧ R 2 0 3 = rf 3 (P 33 q)
section
variable {T : Nat → Int} {n p p1 e s b c q p' e' s' b' c' : Nat} {P P1 P' : Nat → Nat → Int} {I I1 I' : zMI} {R R' : zMR}
theorem nq_g (hN : NQ n p e s b c q P) (h1 : ∀ t j, (t ≠ 31 ∧ t ≠ 32) ∨ j ≠ q → P1 t j = P t j) (hp : PO n p1 e s (b + 1) c 1 1 (pNB P1 b (-1) 0 1 0 (-1)) p' e' s' b' c' P') : (p' ≤ n ∧ e' ≤ p' ∧ 2 * s' ≤ p' ∧ 2 * b' ≤ p' ∧ 5 * c' ≤ p' ∧ b < b' ∧ c ≤ c') ∧ AS (pU P' 33 q (b : Int)) s' b' ∧ AB (pU P' 33 q (b : Int)) s' b' ∧ (∀ z, z < s' → SD (pU P' 33 q (b : Int)) b' e' z) ∧ (∀ t i, t = 31 ∨ t = 32 → pU P' 33 q (b : Int) t i = P1 t i) ∧ (∀ i, i < q → pU P' 33 q (b : Int) 33 i = P 33 i) ∧ pU P' 33 q (b : Int) 33 q = (b : Int) ∧ pU P' 33 q (b : Int) 47 b = -1 ∧ (∀ y, y < b → pU P' 33 q (b : Int) 47 y = P 47 y) ∧ (∀ y, b < y → y < b' → 0 ≤ pU P' 33 q (b : Int) 47 y) ∧ ∀ z, z < s → PFz P (pU P' 33 q (b : Int)) e b z := by
  obtain ⟨n1, n2, n3, n4, n5, n6, n7, n8, n9, n10, n11⟩ := hN
  obtain ⟨k1, k2, k3, k4⟩ := pNB_root hp
  obtain ⟨a1, a2, a3, a4, a5, a6, a7, a8, a9, a10, a11, a12, a13, a14⟩ := hp
  have hz : ∀ z, z < s → PFz P (pU P' 33 q (b : Int)) e b z := fun z hz => ⟨fun t ht => by rw [pU_n (by omega), k1.1 t z hz ht, h1 _ _ (by omega)], fun j hj => by rw [pU_n (by omega), k1.2.1 z j hz hj, h1 _ _ (by omega)], fun t k hk ht => by rw [pU_n (by omega), k1.2.2.1 t z k hz hk ht, h1 _ _ (by omega)], fun t y hy ht => by rw [pU_n (by omega), k1.2.2.2.1 t y hy ht, h1 _ _ (by omega)], fun t j hj ht => by rw [pU_n (by omega), k1.2.2.2.2.1 t j hj ht, h1 _ _ (by omega)]⟩
  refine ⟨⟨by omega, by omega, by omega, by omega, by omega, k3, a10⟩, a12.upd (fun t j ht => pU_n (by omega)), a13.upd (fun t j ht => pU_n (by omega)) (fun y o hy ho => ⟨pU_n (by omega), fun _ => pU_n (by omega)⟩), fun z hz' => ?_, fun t i ht => ?_, fun i hi => ?_, pU_s, ?_, fun y hy => ?_, fun y h1 h2 => ?_, hz⟩
  · by_cases w : z < s
    · exact (n9 z w).frz (hz z w) (by omega) a7
    · exact (a14.1 z (by omega) hz').frz (e := e') (b := b') ⟨fun t ht => pU_n (by omega), fun j hj => pU_n (by omega), fun t k hk ht => pU_n (by omega), fun t y hy ht => pU_n (by omega), fun t j hj ht => pU_n (by omega)⟩ (Nat.le_refl _) (Nat.le_refl _)
  · rw [pU_n (by omega), k1.2.2.2.2.2 t i (by omega)]
  · rw [pU_n (by omega), k1.2.2.2.2.2 33 i (by omega), h1 _ _ (by omega)]
  · rw [pU_n (by omega)]; exact k2
  · rw [pU_n (by omega), k1.2.2.2.1 47 y hy (by omega), h1 _ _ (by omega)]
  · rw [pU_n (by omega)]; exact k4 y h1 h2
theorem nq_r (hN : NQ n p e s b c q P) (hq : q < 3) (h1 : ∀ t j, (t ≠ 31 ∧ t ≠ 32) ∨ j ≠ q → P1 t j = P t j) (hnm : 0 ≤ P1 31 q ∧ P1 31 q ≤ 2) (htg : 0 ≤ P1 32 q ∧ P1 32 q < 32) (hp : PO n p1 e s (b + 1) c 1 1 (pNB P1 b (-1) 0 1 0 (-1)) p' e' s' b' c' P') : NQ n p' e' s' b' c' (q + 1) (pU P' 33 q (b : Int)) := by
  obtain ⟨⟨g1, g2, g3, g4, g5, g6, g7⟩, g8, g9, g10, g11, g12, g13, g14, g15, g16, g17⟩ := nq_g hN h1 hp
  obtain ⟨n1, n2, n3, n4, n5, n6, n7, n8, n9, n10, n11⟩ := hN
  refine ⟨g1, g2, g3, g4, g5, by omega, g8, g9, g10, fun i hi => ?_, fun y hy h47 => ?_⟩
  · rw [g11 31 i (Or.inl rfl), g11 32 i (Or.inr rfl)]
    by_cases w : i = q
    · rw [w]
      exact ⟨hnm.1, hnm.2, htg.1, htg.2, b, g13, g6, g14⟩
    · obtain ⟨m1, m2, m3, m4, y, m5, m6, m7⟩ := n10 i (by omega)
      rw [h1 31 i (Or.inr w), h1 32 i (Or.inr w), g12 i (by omega)]
      exact ⟨m1, m2, m3, m4, y, m5, by omega, by rw [g15 y m6]; exact m7⟩
  · by_cases w : y = b
    · exact ⟨q, by omega, by rw [w]; exact g13⟩
    · by_cases w2 : y < b
      · obtain ⟨i, hi, h33⟩ := n11 y w2 (by rw [← g15 y w2]; exact h47)
        exact ⟨i, by omega, by rw [g12 i hi]; exact h33⟩
      · have := g16 y (by omega) hy
        omega
theorem nq_m (hn : n ≤ 160) (hN : NQ n p e s b c q P) (hp : PO n p1 e s (b + 1) c 1 1 (pNB P b (-1) 0 1 0 (-1)) p' e' s' b' c' P') : NF e' s' b' q (pU P' 33 q (b : Int)) := by
  obtain ⟨⟨g1, g2, g3, g4, g5, g6, g7⟩, g8, g9, g10, g11, g12, g13, g14, g15, g16, g17⟩ := nq_g hN (fun _ _ _ => rfl) hp
  obtain ⟨n1, n2, n3, n4, n5, n6, n7, n8, n9, n10, n11⟩ := hN
  refine ⟨by omega, by omega, by omega, n6, g8, g9, g10, fun i hi => ?_, fun i hi => ?_, fun y hy h47 => ?_⟩
  · rw [g11 31 i (Or.inl rfl), g11 32 i (Or.inr rfl)]
    obtain ⟨m1, m2, m3, m4, -⟩ := n10 i hi
    exact ⟨m1, m2, m3, m4⟩
  · by_cases w : i = q
    · rw [w]
      exact ⟨b, g13, g6, g14⟩
    · obtain ⟨m1, m2, m3, m4, y, m5, m6, m7⟩ := n10 i (by omega)
      exact ⟨y, by rw [g12 i (by omega)]; exact m5, by omega, by rw [g15 y m6]; exact m7⟩
  · by_cases w : y = b
    · exact ⟨q, by omega, by rw [w]; exact g13⟩
    · by_cases w2 : y < b
      · obtain ⟨i, hi, h33⟩ := n11 y w2 (by rw [← g15 y w2]; exact h47)
        exact ⟨i, by omega, by rw [g12 i hi]; exact h33⟩
      · have := g16 y (by omega) hy
        omega
theorem cq_g {v : Option (Nat × Nat)} {i : Nat} (hN : NQ n p e s b c q P) (h1 : ∀ t j, (t ≠ 31 ∧ t ≠ 32) ∨ j ≠ q → P1 t j = P t j) (hp : PO n p1 e s (b + 1) c 1 1 (pNB P1 b (-1) 0 1 0 (-1)) p' e' s' b' c' P') (hC : ∀ z, z < s → CD I R P 0 c z) (hI : ∀ t i k, t = 4 ∨ t = 5 → I1 t i k = I t i k) (hco : CO I1 I' R R' T n s c p' e' s' b' c' P') : PC I' (zsR R' 2 i 3 v) T n p' e' s' b' c' (pU P' 33 q (b : Int)) ∧ ∀ z, z < s' → CD I' (zsR R' 2 i 3 v) (pU P' 33 q (b : Int)) 0 c' z := by
  obtain ⟨⟨g1, g2, g3, g4, g5, g6, g7⟩, g8, g9, g10, g11, g12, g13, g14, g15, g16, g17⟩ := nq_g hN h1 hp
  obtain ⟨n1, n2, n3, n4, n5, n6, n7, n8, n9, n10, n11⟩ := hN
  obtain ⟨a1, a2, a3, a4, a5, a6, a7, a8, a9, a10, a11, a12, a13, a14⟩ := hp
  obtain ⟨c1, c2, c3, c4⟩ := hco
  refine ⟨c3.congr (fun _ _ _ _ => rfl) c3.2.2.2.2.1 (fun z hz => ?_) (fun t i k ht => zsR_n (by omega)) (fun t j ht => pU_n (by omega)), fun z hz => ?_⟩
  · rw [pU_n (by omega)]
    exact (c3.2.2.2.2.2.1 z hz).1
  · by_cases w : z < s
    · exact (hC z w).frz (fun k hk => by rw [c1.i4 w k hk, hI _ _ _ (Or.inl rfl)]) (fun k hk => by rw [zsR_n (by omega), c2.r4 w k hk]) (fun i k _ hi => by rw [c1.i5 i k hi, hI _ _ _ (Or.inr rfl)]) (fun i k _ hi => by rw [zsR_n (by omega), c2.r5 i k hi]) (g17 z w) (Nat.le_refl _) g7 (n9 z w).2.2.2.2.2.2.2.2.1.2.1
    · exact (c4 z (by omega) hz).frz (fun _ _ => rfl) (fun k hk => zsR_n (by omega)) (fun _ _ _ _ => rfl) (fun i k _ hi => zsR_n (by omega)) (e := e') (b := b') ⟨fun t ht => pU_n (by omega), fun j hj => pU_n (by omega), fun t k hk ht => pU_n (by omega), fun t y hy ht => pU_n (by omega), fun t j hj ht => pU_n (by omega)⟩ (Nat.zero_le _) (Nat.le_refl _) (a14.1 z (by omega) hz).2.2.2.2.2.2.2.2.1.2.1
end
