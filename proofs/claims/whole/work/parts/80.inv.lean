/-! what holds at all times, over a new statement and a new block -/
section
variable {P : Nat → Nat → Int} {s b x : Nat} {k : Int}
theorem AS_new (hS : AS P s b) (hB : AB P s b) (hx : x < b) : AS (pNS P s x k) (s + 1) b := by
  have hBx := (hB x hx).1
  have hlast : P 46 x = -1 ∨ ∃ l : Nat, P 46 x = (l : Int) ∧ l < s := by
    rcases hBx with ⟨_, h, _⟩ | ⟨f, l, _, h, _, h2, _⟩
    · exact Or.inl h
    · exact Or.inr ⟨l, h, h2⟩
  have hxs : ¬ (0 ≤ P 46 x ∧ (P 46 x).toNat = s) := by
    rcases hlast with h | ⟨l, h, h2⟩ <;> omega
  obtain ⟨e34, -, -, -, -, e42, e43, e103, -, e46⟩ := pNS_s (k := k) hxs
  obtain ⟨l1, l2⟩ := pNS_link (s := s) (k := k) (P := P) (x := x) (by omega)
  have hown : P 47 x < (s : Int) := by
    rcases (hB x hx).2 with ⟨h, -⟩ | ⟨o, h, h1, h2, -⟩ <;> omega
  have o42 : ∀ z, z < s → pNS P s x k 42 z = P 42 z := fun z hz => pNS_o (by omega) (by omega) (by omega) (by omega) (by omega) (by omega)
  have o47 : ∀ z, pNS P s x k 47 z = P 47 z := fun z => pNS_o (by omega) (by omega) (by omega) (by omega) (by omega) (by omega)
  have o103 : ∀ z, z < s → pNS P s x k 103 z = P 103 z := fun z hz => pNS_o (by omega) (by omega) (by omega) (by omega) (by omega) (by omega)
  have o43 : ∀ z, z < s → ¬ (0 ≤ P 46 x ∧ z = (P 46 x).toNat) → pNS P s x k 43 z = P 43 z := fun z hz hn => pNS_o (by omega) (by omega) (by omega) (by omega) (by omega) (by omega)
  intro z hz
  by_cases hzs : z = s
  · subst hzs
    refine ⟨⟨x, e42, hx, by rw [o47]; exact hown⟩, Or.inl ⟨e43, by rw [e42, Int.toNat_natCast]; exact e46⟩, ?_⟩
    rcases hlast with h | ⟨l, h, h2⟩
    · exact Or.inl ⟨e103.trans h, by rw [e42, Int.toNat_natCast]; exact l1 (by omega)⟩
    · refine Or.inr ⟨l, e103.trans h, h2, ?_, ?_⟩
      · have := l2 (by omega)
        rw [h, Int.toNat_natCast] at this
        exact this
      · rw [o42 l h2, e42]
        rcases hBx with ⟨_, h', _⟩ | ⟨f, l', _, h', _, _, _, h3, _⟩
        · omega
        · have : l' = l := by omega
          rw [← this]; exact h3
  · have hz' : z < s := by omega
    obtain ⟨⟨y, y1, y2, y3⟩, hnx, hpv⟩ := hS z hz'
    refine ⟨⟨y, by rw [o42 z hz']; exact y1, y2, by rw [o47]; exact y3⟩, ?_, ?_⟩
    · rcases hnx with ⟨n1, n2⟩ | ⟨q, n1, n2, n3, n4, n5⟩
      · by_cases hyx : P 42 z = (x : Int)
        · right
          have hpx : P 46 x = (z : Int) := by rw [hyx, Int.toNat_natCast] at n2; exact n2
          have := l2 (by omega)
          rw [hpx, Int.toNat_natCast] at this
          refine ⟨s, this, hz', by omega, by rw [e42, o42 z hz', hyx], fun y' h1 h2 => ?_⟩
          rw [o42 y' h2, o42 z hz', hyx]
          rcases hBx with ⟨_, h', _⟩ | ⟨f, l', _, h', _, _, _, _, _, _, h4⟩
          · omega
          · exact h4 y' (by omega) h2
        · left
          have hyx' : y ≠ x := by omega
          have hyt : (P 42 z).toNat = y := by omega
          refine ⟨?_, ?_⟩
          · rw [o43 z hz' (fun q => ?_)]
            · exact n1
            · rcases hBx with ⟨_, h', _⟩ | ⟨f, l', _, h', _, _, _, h3, _⟩
              · omega
              · have : l' = z := by omega
                rw [this] at h3
                exact hyx h3
          · rw [o42 z hz', hyt]
            rw [hyt] at n2
            rw [pNS_o (by omega) (by omega) (by omega) (by omega) (by omega) (by omega)]
            exact n2
      · right
        refine ⟨q, ?_, n2, by omega, by rw [o42 q n3, o42 z hz']; exact n4, fun y' h1 h2 => by rw [o42 y' (by omega), o42 z hz']; exact n5 y' h1 h2⟩
        rw [o43 z hz' (fun w => ?_)]
        · exact n1
        · rcases hBx with ⟨_, h', _⟩ | ⟨f, l', _, h', _, _, _, _, h3, _⟩
          · omega
          · have : l' = z := by omega
            rw [this] at h3
            omega
    · rcases hpv with ⟨p1, p2⟩ | ⟨q, p1, p2, p3, p4⟩
      · left
        refine ⟨by rw [o103 z hz']; exact p1, ?_⟩
        rw [o42 z hz']
        by_cases hw : P 46 x < 0 ∧ (P 42 z).toNat = x
        · rcases hBx with ⟨h', _, h3⟩ | ⟨f, l', _, h', _⟩
          · rw [hw.2] at p2
            omega
          · omega
        · rw [pNS_o (by omega) (by omega) (by omega) (by omega) (by omega) (by omega)]
          exact p2
      · right
        refine ⟨q, by rw [o103 z hz']; exact p1, p2, ?_, by rw [o42 q (by omega), o42 z hz']; exact p4⟩
        rw [o43 q (by omega) (fun w => ?_)]
        · exact p3
        · rcases hBx with ⟨_, h', _⟩ | ⟨f, l', _, h', _, _, _, _, h3, _⟩
          · omega
          · have : l' = q := by omega
            rw [this] at h3
            omega
theorem AB_news (hS : AS P s b) (hB : AB P s b) (hx : x < b) : AB (pNS P s x k) (s + 1) b := by
  have hBx := (hB x hx).1
  have hlast : P 46 x = -1 ∨ ∃ l : Nat, P 46 x = (l : Int) ∧ l < s := by
    rcases hBx with ⟨_, h, _⟩ | ⟨f, l, _, h, _, h2, _⟩
    · exact Or.inl h
    · exact Or.inr ⟨l, h, h2⟩
  have hxs : ¬ (0 ≤ P 46 x ∧ (P 46 x).toNat = s) := by
    rcases hlast with h | ⟨l, h, h2⟩ <;> omega
  obtain ⟨e34, -, -, -, -, e42, e43, e103, -, e46⟩ := pNS_s (k := k) hxs
  obtain ⟨l1, l2⟩ := pNS_link (s := s) (k := k) (P := P) (x := x) (by omega)
  have o42 : ∀ z, z < s → pNS P s x k 42 z = P 42 z := fun z hz => pNS_o (by omega) (by omega) (by omega) (by omega) (by omega) (by omega)
  have oo : ∀ c z, c = 47 ∨ c = 48 ∨ c = 100 ∨ c = 101 ∨ c = 102 ∨ c = 39 → pNS P s x k c z = P c z := fun c z hc => pNS_o (by omega) (by omega) (by omega) (by omega) (by omega) (by omega)
  have o34 : ∀ z, z < s → pNS P s x k 34 z = P 34 z := fun z hz => pNS_o (by omega) (by omega) (by omega) (by omega) (by omega) (by omega)
  have o38 : ∀ z j, z < s → j < 6 → pNS P s x k 38 (6 * z + j) = P 38 (6 * z + j) := fun z j hz hj => pNS_o (by omega) (by omega) (by omega) (by omega) (by omega) (by omega)
  intro y hy
  refine ⟨?_, ?_⟩
  · by_cases hyx : y = x
    · subst hyx
      right
      rcases hBx with ⟨h1, h2, h3⟩ | ⟨f, l, h1, h2, h3, h4, h5, h6, h7, h8, h9⟩
      · exact ⟨s, s, l1 (by omega), e46, Nat.le_refl _, by omega, e42, e42, e43, fun z hz => by rw [o42 z hz]; exact h3 z hz, fun z h1 h2 => by omega⟩
      · exact ⟨f, s, by rw [pNS_o (by omega) (by omega) (by omega) (by omega) (by omega) (by omega)]; exact h1, e46, by omega, by omega, by rw [o42 f (by omega)]; exact h5, e42, e43, fun z hz => by rw [o42 z (by omega)]; exact h8 z hz, fun z h1 h2 => by omega⟩
    · have e45 : pNS P s x k 45 y = P 45 y := pNS_o (by omega) (by omega) (by omega) (by omega) (by omega) (by omega)
      have e46' : pNS P s x k 46 y = P 46 y := pNS_o (by omega) (by omega) (by omega) (by omega) (by omega) (by omega)
      rcases (hB y hy).1 with ⟨h1, h2, h3⟩ | ⟨f, l, h1, h2, h3, h4, h5, h6, h7, h8, h9⟩
      · refine Or.inl ⟨e45.trans h1, e46'.trans h2, fun z hz => ?_⟩
        by_cases hzs : z = s
        · rw [hzs, e42]; omega
        · rw [o42 z (by omega)]; exact h3 z (by omega)
      · refine Or.inr ⟨f, l, e45.trans h1, e46'.trans h2, h3, by omega, by rw [o42 f (by omega)]; exact h5, by rw [o42 l (by omega)]; exact h6, ?_, fun z hz => by rw [o42 z (by omega)]; exact h8 z hz, fun z h10 h11 => ?_⟩
        · rw [pNS_o (by omega) (by omega) (by omega) (fun q => ?_) (by omega) (by omega)]
          · exact h7
          · rcases hBx with ⟨_, h', _⟩ | ⟨f', l', _, h', _, _, _, h12, _⟩
            · omega
            · have : l' = l := by omega
              rw [this] at h12
              omega
        · by_cases hzs : z = s
          · rw [hzs, e42]; omega
          · rw [o42 z (by omega)]; exact h9 z h10 (by omega)
  · rcases (hB y hy).2 with ⟨h1, h2, h3, h4⟩ | ⟨o, h, q1, q0, q2, q3, q4, q5, q6, q7, q8, q9, q10, q11, q12, q13⟩
    · exact Or.inl ⟨by rw [oo _ _ (by omega)]; exact h1, by rw [oo _ _ (by omega)]; exact h2, by rw [oo _ _ (by omega)]; exact h3, by rw [oo _ _ (by omega)]; exact h4⟩
    · refine Or.inr ⟨o, h, ?_⟩
      simp only [oo 47 _ (by omega), oo 48 _ (by omega), oo 100 _ (by omega), oo 101 _ (by omega), oo 102 _ (by omega), oo 39 _ (by omega), o34 o q0, o42 o q0, o38 o _ q0 (by omega : (P 48 y).toNat < 6)]
      exact ⟨q1, by omega, q2, q3, q4, q5, q6, q7, q8, q9, q10, q11, q12, q13⟩
/-- what a new block leaves as it was -/
theorem pNB_o {o sl dep il tk : Int} {c j : Nat} (h1 : ¬ ((c = 45 ∨ c = 46 ∨ c = 47 ∨ c = 48 ∨ c = 100 ∨ c = 101 ∨ c = 102) ∧ j = b)) (h2 : ¬ (c = 38 ∧ 0 ≤ o ∧ j = 6 * o.toNat + sl.toNat)) : pNB P b o sl dep il tk c j = P c j := by
  unfold pNB
  rw [pU_n (by omega), pU_n (by omega), pU_n (by omega)]
  by_cases q : o < 0
  · rw [if_pos q, pU_n (by omega), pU_n (by omega), pU_n (by omega), pU_n (by omega)]
  · rw [if_neg q, pU_n (by omega), pU_n (by omega), pU_n (by omega), pU_n (by omega), pU_n (by omega)]
theorem pNB_s {o sl dep il tk : Int} : pNB P b o sl dep il tk 45 b = -1 ∧ pNB P b o sl dep il tk 46 b = -1 ∧ pNB P b o sl dep il tk 47 b = o ∧ pNB P b o sl dep il tk 48 b = sl ∧ pNB P b o sl dep il tk 100 b = dep ∧ pNB P b o sl dep il tk 101 b = il ∧ pNB P b o sl dep il tk 102 b = tk ∧ (0 ≤ o → pNB P b o sl dep il tk 38 (6 * o.toNat + sl.toNat) = (b : Int)) := by
  unfold pNB
  by_cases q : o < 0
  · rw [if_pos q]
    refine ⟨?_, ?_, ?_, ?_, ?_, ?_, ?_, fun h => by omega⟩
    · rw [pU_n (by omega), pU_n (by omega), pU_n (by omega), pU_n (by omega), pU_n (by omega), pU_n (by omega), pU_s]
    · rw [pU_n (by omega), pU_n (by omega), pU_n (by omega), pU_n (by omega), pU_n (by omega), pU_s]
    · rw [pU_n (by omega), pU_n (by omega), pU_n (by omega), pU_n (by omega), pU_s]
    · rw [pU_n (by omega), pU_n (by omega), pU_n (by omega), pU_s]
    · rw [pU_n (by omega), pU_n (by omega), pU_s]
    · rw [pU_n (by omega), pU_s]
    · rw [pU_s]
  · rw [if_neg q]
    refine ⟨?_, ?_, ?_, ?_, ?_, ?_, ?_, fun h => ?_⟩
    · rw [pU_n (by omega), pU_n (by omega), pU_n (by omega), pU_n (by omega), pU_n (by omega), pU_n (by omega), pU_n (by omega), pU_s]
    · rw [pU_n (by omega), pU_n (by omega), pU_n (by omega), pU_n (by omega), pU_n (by omega), pU_n (by omega), pU_s]
    · rw [pU_n (by omega), pU_n (by omega), pU_n (by omega), pU_n (by omega), pU_n (by omega), pU_s]
    · rw [pU_n (by omega), pU_n (by omega), pU_n (by omega), pU_n (by omega), pU_s]
    · rw [pU_n (by omega), pU_n (by omega), pU_s]
    · rw [pU_n (by omega), pU_s]
    · rw [pU_s]
    · rw [pU_n (by omega), pU_n (by omega), pU_n (by omega), pU_s]
theorem AS_newb {o sl dep il tk : Int} (hS : AS P s b) : AS (pNB P b o sl dep il tk) s (b + 1) := by
  have oc : ∀ c z, c = 42 ∨ c = 43 ∨ c = 103 → pNB P b o sl dep il tk c z = P c z := fun c z hc => pNB_o (by omega) (by omega)
  intro z hz
  obtain ⟨⟨y, y1, y2, y3⟩, hnx, hpv⟩ := hS z hz
  have hyt : (P 42 z).toNat = y := by omega
  have e47 : pNB P b o sl dep il tk 47 y = P 47 y := pNB_o (by omega) (by omega)
  have e46 : pNB P b o sl dep il tk 46 y = P 46 y := pNB_o (by omega) (by omega)
  have e45 : pNB P b o sl dep il tk 45 y = P 45 y := pNB_o (by omega) (by omega)
  simp only [oc 42 _ (by omega), oc 43 _ (by omega), oc 103 _ (by omega)]
  rw [hyt, e46, e45]
  rw [hyt] at hnx hpv
  exact ⟨⟨y, y1, by omega, by rw [e47]; exact y3⟩, hnx, hpv⟩
theorem AB_newb {o sl dep il tk : Int} (hB : AB P s b) (hSe : ∀ z, z < s → P 42 z ≠ (b : Int)) (hfree : 0 ≤ o → ∀ y, y < b → ¬ (P 47 y = o ∧ P 48 y = sl))
    (hnew : (o = -1 ∧ dep = 1 ∧ il = 0 ∧ tk = -1) ∨ ∃ (o' h : Nat), o = (o' : Int) ∧ o' < s ∧ P 42 o' = (h : Int) ∧ h < b ∧ 0 ≤ sl ∧ sl ≤ 5 ∧ dep = P 100 h + 1 ∧ dep ≤ 4 ∧ 1 ≤ P 100 h ∧ il = (if P 34 o' = 64 then 1 else P 101 h) ∧ tk = (if P 34 o' = 89 ∧ 2 ≤ sl ∧ sl ≤ 4 then P 39 (3 * o' + sl.toNat - 2) else P 102 h) ∧ (P 34 o' = 64 → sl = 0)) : AB (pNB P b o sl dep il tk) s (b + 1) := by
  have oc : ∀ c z, c = 42 ∨ c = 43 ∨ c = 34 ∨ c = 39 → pNB P b o sl dep il tk c z = P c z := fun c z hc => pNB_o (by omega) (by omega)
  have ob : ∀ c y, y ≠ b → c ≠ 38 → pNB P b o sl dep il tk c y = P c y := fun c y hy hc => pNB_o (by omega) (by omega)
  obtain ⟨n45, n46, n47, n48, n100, n101, n102, n38⟩ := pNB_s (P := P) (b := b) (o := o) (sl := sl) (dep := dep) (il := il) (tk := tk)
  intro y hy
  by_cases hyb : y = b
  · subst hyb
    refine ⟨Or.inl ⟨n45, n46, fun z hz => by rw [oc 42 z (by omega)]; exact hSe z hz⟩, ?_⟩
    rcases hnew with ⟨rfl, rfl, rfl, rfl⟩ | ⟨o', h, rfl, q0, q2, q3, q5, q6, q8, q9, q10, q11, q12, q13⟩
    · exact Or.inl ⟨n47, n100, n101, n102⟩
    · refine Or.inr ⟨o', h, ?_⟩
      have n38' := n38 (by omega)
      rw [Int.toNat_natCast] at n38'
      rw [n47, n48, n100, n101, n102, oc 42 o' (by omega), oc 34 o' (by omega), oc 39 _ (by omega), ob 100 h (by omega) (by decide), ob 101 h (by omega) (by decide), ob 102 h (by omega) (by decide)]
      exact ⟨rfl, q0, q2, q3, by omega, q5, q6, n38', q8, q9, q10, q11, q12, q13⟩
  · refine ⟨?_, ?_⟩
    · rw [ob 45 y hyb (by decide), ob 46 y hyb (by decide)]
      simp only [oc 42 _ (by omega), oc 43 _ (by omega)]
      exact (hB y (by omega)).1
    · rcases (hB y (by omega)).2 with ⟨h1, h2, h3, h4⟩ | ⟨o', h, q1, q0, q2, q3, q4, q5, q6, q7, q8, q9, q10, q11, q12, q13⟩
      · exact Or.inl ⟨by rw [ob _ _ hyb (by decide)]; exact h1, by rw [ob _ _ hyb (by decide)]; exact h2, by rw [ob _ _ hyb (by decide)]; exact h3, by rw [ob _ _ hyb (by decide)]; exact h4⟩
      · refine Or.inr ⟨o', h, ?_⟩
        have e38 : pNB P b o sl dep il tk 38 (6 * o' + (P 48 y).toNat) = P 38 (6 * o' + (P 48 y).toNat) := by
          refine pNB_o (by omega) (fun q => ?_)
          obtain ⟨-, q1', q2'⟩ := q
          rcases hnew with ⟨w, -⟩ | ⟨o'', h'', w, -, -, -, w2, w3, -⟩
          · omega
          · exact hfree (by omega) y (by omega) (by constructor <;> omega)
        rw [ob 47 y hyb (by decide), ob 48 y hyb (by decide), ob 100 y hyb (by decide), ob 101 y hyb (by decide), ob 102 y hyb (by decide), oc 42 o' (by omega), oc 34 o' (by omega), oc 39 _ (by omega), ob 100 h (by omega) (by decide), ob 101 h (by omega) (by decide), ob 102 h (by omega) (by decide), e38]
        exact ⟨q1, q0, q2, q3, by omega, q5, q6, q7, q8, q9, q10, q11, q12, q13⟩
end
