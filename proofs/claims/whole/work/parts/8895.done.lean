/-! what was read is a program -/
def pF (P : Nat → Nat → Int) (e s b q : Nat) : Nat → Nat → Int := pU (pU (pU (pU P 11 6 (q : Int)) 11 10 (s : Int)) 11 22 (b : Int)) 11 28 (e : Int)
section
variable {T : Nat → Int} {n e s b c q : Nat} {P P' : Nat → Nat → Int} {I : zMI} {R : zMR}
theorem pF_o {t j : Nat} (h : t ≠ 11) : pF P e s b q t j = P t j := by
  unfold pF
  rw [pU_n (by omega), pU_n (by omega), pU_n (by omega), pU_n (by omega)]
theorem pF_s : nS (pF P e s b q) = s ∧ nB (pF P e s b q) = b ∧ nE (pF P e s b q) = e ∧ nP (pF P e s b q) = q ∧ pF P e s b q 11 6 = (q : Int) := by
  unfold nS nB nE nP pF
  refine ⟨?_, ?_, ?_, ?_, ?_⟩
  · rw [pU_n (by omega), pU_n (by omega), pU_s, Int.toNat_natCast]
  · rw [pU_n (by omega), pU_s, Int.toNat_natCast]
  · rw [pU_s, Int.toNat_natCast]
  · rw [pU_n (by omega), pU_n (by omega), pU_n (by omega), pU_s, Int.toNat_natCast]
  · rw [pU_n (by omega), pU_n (by omega), pU_n (by omega), pU_s]
theorem KidN.kid {z j : Nat} (h : KidN P (nB P) z j) : Kid P z j := h
theorem nf_wf (h : NF e s b q P) (hs : nS P = s) (hb : nB P = b) (he : nE P = e) (hq : nP P = q) (h6 : P 11 6 = (q : Int)) : PWf P ∧ POr P ∧ TgR P := by
  subst hs hb he hq
  obtain ⟨h1, h2, h3, h4, hS, hB, hD, hr, hk, ho⟩ := h
  refine ⟨⟨h2, h3, h1, h4, h6, fun z hz => ?_, fun y hy => ?_, fun p hp => hk p hp, fun p hp => ⟨(hr p hp).1, (hr p hp).2.1⟩⟩, ⟨fun z hz => ?_, fun y hy => ?_⟩, fun p hp => ⟨(hr p hp).2.2.1, (hr p hp).2.2.2⟩⟩
  · obtain ⟨d1, d2, d3, d4, d5, d6, d7, d8, d9, d10⟩ := hD z hz
    obtain ⟨s1, s2, -⟩ := hS z hz
    refine ⟨d1, s1, ?_, d2, d3, d4, d5, fun j hj => d6 j hj, fun w => d7 w, fun w => d8 w, ⟨d9.1, d9.2.1, fun k hk => d9.2.2 k hk⟩, d10⟩
    rcases s2 with ⟨s2, -⟩ | ⟨q, a1, a2, a3, a4, -⟩
    · exact Or.inl s2
    · exact Or.inr ⟨q, a1, a3, a4, a2⟩
  · obtain ⟨b1, b2⟩ := hB y hy
    refine ⟨?_, b2⟩
    rcases b1 with ⟨b1, -⟩ | ⟨f, l, a1, a2, a3, a4, a5, -⟩
    · exact Or.inl b1
    · exact Or.inr ⟨f, a1, by omega, a5⟩
  · obtain ⟨⟨y, y1, y2, -⟩, s2, s3⟩ := hS z hz
    refine ⟨fun w => ?_, fun q hq => ?_, s3⟩
    · rcases s2 with ⟨-, s2⟩ | ⟨q, a1, -⟩
      · rcases (hB y y2).1 with ⟨b1, b2, b3⟩ | ⟨f, l, a1, a2, a3, a4, a5, a6, a7, a8, a9⟩
        · exact absurd y1 (b3 z hz)
        · rw [y1, Int.toNat_natCast] at s2
          intro u hu1 hu2
          rw [y1]
          exact a9 u (by omega) hu2
      · omega
    · rcases s2 with ⟨s2, -⟩ | ⟨q', a1, a2, a3, a4, a5⟩
      · omega
      · have : q' = q := by omega
        subst this
        exact a5
  · obtain ⟨b1, b2⟩ := hB y hy
    refine ⟨fun w => ?_, fun q hq => ?_, fun w => ho y hy w⟩
    · rcases b1 with ⟨-, -, b1⟩ | ⟨f, l, a1, -⟩
      · exact b1
      · omega
    · rcases b1 with ⟨b1, -⟩ | ⟨f, l, a1, a2, a3, a4, a5, a6, a7, a8, a9⟩
      · omega
      · have : f = q := by omega
        subst this
        exact a8
theorem nf_star (h : NF e s b q P) : NF e s b q (pF P e s b q) := by
  obtain ⟨h1, h2, h3, h4, hS, hB, hD, hr, hk, ho⟩ := h
  refine ⟨h1, h2, h3, h4, hS.upd (fun t j ht => pF_o (by omega)), hB.upd (fun t j ht => pF_o (by omega)) (fun y o hy ho => ⟨pF_o (by omega), fun _ => pF_o (by omega)⟩), fun z hz => (hD z hz).frz (e := e) (b := b) ⟨fun t ht => pF_o (by omega), fun j hj => pF_o (by omega), fun t k hk ht => pF_o (by omega), fun t y hy ht => pF_o (by omega), fun t j hj ht => pF_o (by omega)⟩ (Nat.le_refl _) (Nat.le_refl _), fun i hi => ?_, fun i hi => ?_, fun y hy w => ?_⟩
  · rw [pF_o (by omega), pF_o (by omega)]; exact hr i hi
  · obtain ⟨y, y1, y2, y3⟩ := hk i hi
    exact ⟨y, by rw [pF_o (by omega)]; exact y1, y2, by rw [pF_o (by omega)]; exact y3⟩
  · rw [pF_o (by omega)] at w
    obtain ⟨i, i1, i2⟩ := ho y hy w
    exact ⟨i, i1, by rw [pF_o (by omega)]; exact i2⟩
theorem nf_prog (h : NF e s b q P) : PWf (pF P e s b q) ∧ POr (pF P e s b q) ∧ TgR (pF P e s b q) := by
  obtain ⟨a1, a2, a3, a4, a5⟩ := pF_s (P := P) (e := e) (s := s) (b := b) (q := q)
  exact nf_wf (nf_star h) a1 a2 a3 a4 a5
theorem cf_c0 (h : CF I R T n e s b c q P) (hN : NF e s b q P) (h2 : I 2 0 1 = 0) : CR0 I R (pF P e s b q) := by
  obtain ⟨a1, a2, a3, a4, a5⟩ := pF_s (P := P) (e := e) (s := s) (b := b) (q := q)
  obtain ⟨⟨x1, x2, x3, x4, x5, x6, x7⟩, ⟨q1, q2⟩, d1, r1⟩ := h
  unfold CR0 CPr
  rw [a1, a2, a3, a4]
  refine ⟨x2, fun z hz => ⟨?_, ?_⟩, fun y hy => ?_, fun j hj => ?_, ?_, fun p hp => ?_, q1, x3, h2⟩
  · unfold CSt
    rw [pF_o (by omega), pF_o (by omega), pF_o (by omega), pF_o (by omega)]
    exact x6 z hz
  · have hd : CD I R (pF P e s b q) 0 c z := (d1 z hz).frz (e := e) (b := b) (fun _ _ => rfl) (fun _ _ => rfl) (fun _ _ _ _ => rfl) (fun _ _ _ _ => rfl) ⟨fun t ht => pF_o (by omega), fun j hj => pF_o (by omega), fun t k hk ht => pF_o (by omega), fun t y hy ht => pF_o (by omega), fun t j hj ht => pF_o (by omega)⟩ (Nat.le_refl _) (Nat.le_refl _) (hN.2.2.2.2.2.2.1 z hz).2.2.2.2.2.2.2.2.1.2.1
    obtain ⟨c1, c2, c3, c4, c5, c6, c7⟩ := hd
    exact ⟨c1, c2, c3, c4, c5, c6, fun w => (c7 w).catl⟩
  · unfold CBl
    rw [pF_o (by omega), pF_o (by omega), pF_o (by omega), pF_o (by omega), pF_o (by omega)]
    exact x7 y hy
  · unfold CEn
    rw [pF_o (by omega), pF_o (by omega)]
    exact x1.2.2 j hj
  · rw [pF_o (by omega)]; exact r1
  · rw [pF_o (by omega), pF_o (by omega), pF_o (by omega)]
    exact q2 p hp
theorem pm_rep (h : PM I T n n e s b P) (h6 : I 11 0 6 = (q : Int)) : MRep I (pF P e s b q) ∧ I 11 0 10 = (nS (pF P e s b q) : Int) ∧ ∀ y, y < nB (pF P e s b q) → I 49 0 y = 0 := by
  obtain ⟨a1, a2, a3, a4, a5⟩ := pF_s (P := P) (e := e) (s := s) (b := b) (q := q)
  obtain ⟨x1, x2, x3, x4, x5⟩ := h
  rw [a1, a2]
  refine ⟨⟨fun t k h1 h2 => ?_, by rw [a5]; exact h6⟩, x2, x5⟩
  rw [pF_o (by omega)]
  by_cases w : t ≤ 48
  · exact x4 t k h1 ⟨w, h2.2.1⟩
  · obtain ⟨m1, m2⟩ := x1.2.2.2.2 k
    have : t = 50 ∨ t = 51 := by omega
    rcases this with rfl | rfl
    · exact m1
    · exact m2
end
