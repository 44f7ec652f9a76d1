/-! what holds of a program that was read; walks up and along it -/
/-- the nearest block around that is the one named of a statement of that kind -/
def arG (P : Nat → Nat → Int) (kd lo hi : Int) : Nat → Nat → Int
  | 0, _ => -1
  | n + 1, b => if P 47 b < 0 then -1 else if P 34 (P 47 b).toNat = kd ∧ lo ≤ P 48 b ∧ P 48 b ≤ hi then b else arG P kd lo hi n (P 42 (P 47 b).toNat).toNat
def ar (P : Nat → Nat → Int) (b : Nat) : Int := arG P 89 2 4 (P 100 b).toNat b
/-- the last of the first n catches with that tag -/
def ct (P : Nat → Nat → Int) (s : Nat) (t : Int) : Nat → Int
  | 0 => -1
  | k + 1 => if P 39 (3 * s + k) = t then k else ct P s t k
def Kid (P : Nat → Nat → Int) (s j : Nat) : Prop := ∃ b : Nat, P 38 (6 * s + j) = (b : Int) ∧ b < nB P ∧ P 47 b = (s : Int) ∧ P 48 b = (j : Int)
def BWf (P : Nat → Nat → Int) (b : Nat) : Prop :=
  (P 45 b = -1 ∨ ∃ q : Nat, P 45 b = (q : Int) ∧ q < nS P ∧ P 42 q = (b : Int)) ∧
  ((P 47 b = -1 ∧ P 100 b = 1 ∧ P 101 b = 0 ∧ P 102 b = -1) ∨
  (∃ o h : Nat, P 47 b = (o : Int) ∧ o < nS P ∧ P 42 o = (h : Int) ∧ h < b ∧ h < nB P ∧ 0 ≤ P 48 b ∧ P 48 b ≤ 5 ∧ P 38 (6 * o + (P 48 b).toNat) = (b : Int) ∧ P 100 b = P 100 h + 1 ∧ P 100 b ≤ 4 ∧ 1 ≤ P 100 h ∧
    P 101 b = (if P 34 o = 64 then 1 else P 101 h) ∧ P 102 b = (if P 34 o = 89 ∧ 2 ≤ P 48 b ∧ P 48 b ≤ 4 then P 39 (3 * o + (P 48 b).toNat - 2) else P 102 h) ∧ (P 34 o = 64 → P 48 b = 0)))
def knd (k : Int) : Prop := k = 61 ∨ k = 33 ∨ k = 63 ∨ k = 64 ∨ k = 66 ∨ k = 67 ∨ k = 82 ∨ k = 84 ∨ k = 88 ∨ k = 80 ∨ k = 89
def BlN (P : Nat → Nat → Int) (s : Nat) : Prop := (P 34 s = 63 → ∀ j, 2 ≤ j → j < 6 → P 38 (6 * s + j) = -1) ∧ (P 34 s = 64 → ∀ j, 1 ≤ j → j < 6 → P 38 (6 * s + j) = -1) ∧ (P 34 s = 89 → ∀ k : Nat, P 41 s ≤ (k : Int) → k < 3 → P 38 (6 * s + 2 + k) = -1) ∧ (¬ (P 34 s = 63 ∨ P 34 s = 64 ∨ P 34 s = 89) → ∀ j, j < 6 → P 38 (6 * s + j) = -1) ∧ (P 34 s = 89 → P 38 (6 * s + 1) = -1)
def SWf (P : Nat → Nat → Int) (s : Nat) : Prop :=
  knd (P 34 s) ∧ (∃ b : Nat, P 42 s = (b : Int) ∧ b < nB P ∧ P 47 b < (s : Int)) ∧ (P 43 s = -1 ∨ ∃ q : Nat, P 43 s = (q : Int) ∧ q < nS P ∧ P 42 q = P 42 s ∧ s < q) ∧
  (hasX (P 34 s) → XOk P s ∧ P 37 s ≤ nE P) ∧ (P 34 s = 61 → 0 ≤ P 35 s ∧ P 35 s < 8) ∧ (P 34 s = 84 → 0 ≤ P 35 s ∧ P 35 s ≤ 4) ∧ (P 34 s = 80 → 0 ≤ P 35 s ∧ P 35 s ≤ 2) ∧
  (∀ j, j < 6 → P 38 (6 * s + j) = -1 ∨ Kid P s j) ∧ ((P 34 s = 63 ∨ P 34 s = 64 ∨ P 34 s = 89) → Kid P s 0) ∧ (P 34 s = 63 → Kid P s 1) ∧
  (0 ≤ P 41 s ∧ P 41 s ≤ 3 ∧ ∀ k : Nat, (k : Int) < P 41 s → 0 ≤ P 39 (3 * s + k) ∧ P 39 (3 * s + k) ≤ 4 ∧ 0 ≤ P 40 (3 * s + k) ∧ P 40 (3 * s + k) < 8 ∧ Kid P s (2 + k)) ∧ BlN P s
def PWf (P : Nat → Nat → Int) : Prop := nS P ≤ 80 ∧ nB P ≤ 80 ∧ nE P ≤ 160 ∧ nP P ≤ 3 ∧ P 11 6 = (nP P : Int) ∧ (∀ s, s < nS P → SWf P s) ∧ (∀ b, b < nB P → BWf P b) ∧ (∀ p, p ≤ nP P → ∃ b : Nat, P 33 p = (b : Int) ∧ b < nB P ∧ P 47 b = -1) ∧ (∀ p, p < nP P → 0 ≤ P 31 p ∧ P 31 p ≤ 2)
theorem BWf.dep {P : Nat → Nat → Int} {b : Nat} (h : BWf P b) : 1 ≤ P 100 b ∧ P 100 b ≤ 4 := by
  rcases h.2 with ⟨_, h, _⟩ | ⟨o, g, _, _, _, _, _, _, _, _, h1, h2, h3, _⟩ <;> omega
theorem ar_root {P : Nat → Nat → Int} {b : Nat} (h : BWf P b) (h0 : P 47 b = -1) : ar P b = -1 := by
  have h1 := h.dep
  unfold ar
  obtain ⟨n, hn⟩ : ∃ n, (P 100 b).toNat = n + 1 := ⟨(P 100 b).toNat - 1, by omega⟩
  rw [hn, arG, if_pos (by omega)]
/-- in a block that isn't a catch's the nearest is that of the block around -/
theorem ar_in {P : Nat → Nat → Int} {b o h : Nat} (hb : BWf P b) (h1 : P 47 b = (o : Int)) (h2 : P 42 o = (h : Int)) (hn : ¬ (P 34 o = 89 ∧ 2 ≤ P 48 b ∧ P 48 b ≤ 4)) : ar P b = ar P h := by
  rcases hb.2 with ⟨q, _⟩ | ⟨o', h', q1, _, q2, _, _, _, _, _, q3, q4, q5, _⟩
  · omega
  · have e1 : o' = o := by omega
    subst e1
    have e2 : h' = h := by omega
    subst e2
    unfold ar
    have e3 : (P 100 b).toNat = (P 100 h').toNat + 1 := by omega
    rw [e3, arG, if_neg (by omega), h1, Int.toNat_natCast, if_neg hn, h2, Int.toNat_natCast]
theorem ar_at {P : Nat → Nat → Int} {b o : Nat} (hb : BWf P b) (h1 : P 47 b = (o : Int)) (hn : P 34 o = 89 ∧ 2 ≤ P 48 b ∧ P 48 b ≤ 4) : ar P b = b := by
  have h2 := hb.dep
  unfold ar
  obtain ⟨n, hn'⟩ : ∃ n, (P 100 b).toNat = n + 1 := ⟨(P 100 b).toNat - 1, by omega⟩
  rw [hn', arG, if_neg (by omega), h1, Int.toNat_natCast, if_pos hn]
/-- what the nearest one is -/
theorem ar_ok {P : Nat → Nat → Int} (hP : PWf P) (n : Nat) : ∀ b, b < nB P → (P 100 b).toNat = n → (ar P b = -1 ∧ P 102 b = -1) ∨ ∃ g o : Nat, ar P b = (g : Int) ∧ g < nB P ∧ P 47 g = (o : Int) ∧ o < nS P ∧ P 34 o = 89 ∧ 2 ≤ P 48 g ∧ P 48 g ≤ 4 ∧ P 102 b = P 39 (3 * o + (P 48 g).toNat - 2) ∧ (o : Int) ≤ P 47 b := by
  induction n with
  | zero =>
    intro b hb hn
    have := (hP.2.2.2.2.2.2.1 b hb).dep
    omega
  | succ n ih =>
    intro b hb hn
    have hw := hP.2.2.2.2.2.2.1 b hb
    rcases hw.2 with ⟨q1, _, _, q2⟩ | ⟨o, h, q1, q0, q2, q3, q4, q5, q6, q7, q8, q9, q10, q11, q12, q13⟩
    · exact Or.inl ⟨ar_root hw q1, q2⟩
    · by_cases hc : P 34 o = 89 ∧ 2 ≤ P 48 b ∧ P 48 b ≤ 4
      · right
        rw [if_pos hc] at q12
        exact ⟨b, o, ar_at hw q1 hc, hb, q1, q0, hc.1, hc.2.1, hc.2.2, q12, by omega⟩
      · rw [if_neg hc] at q12
        have e := ar_in hw q1 q2 hc
        rcases ih h q4 (by omega) with ⟨r1, r2⟩ | ⟨g, o', r1, r2, r3, r4, r5, r6, r7, r8, r9⟩
        · exact Or.inl ⟨e.trans r1, q12.trans r2⟩
        · right
          have hs := hP.2.2.2.2.2.1 o q0
          obtain ⟨b', s1, s2, s3⟩ := hs.2.1
          have : b' = h := by omega
          subst this
          exact ⟨g, o', e.trans r1, r2, r3, r4, r5, r6, r7, q12.trans r8, by omega⟩
theorem lp_ok {P : Nat → Nat → Int} (hP : PWf P) (n : Nat) : ∀ b, b < nB P → (P 100 b).toNat = n → (P 101 b = 0 ∧ arG P 64 0 0 n b = -1) ∨ (P 101 b = 1 ∧ 0 ≤ arG P 64 0 0 n b) := by
  induction n with
  | zero =>
    intro b hb hn
    have := (hP.2.2.2.2.2.2.1 b hb).dep
    omega
  | succ n ih =>
    intro b hb hn
    have hw := hP.2.2.2.2.2.2.1 b hb
    rw [arG]
    rcases hw.2 with ⟨q1, _, q2, _⟩ | ⟨o, h, q1, q0, q2, q3, q4, q5, q6, q7, q8, q9, q10, q11, q12, q13⟩
    · exact Or.inl ⟨q2, by rw [if_pos (by omega)]⟩
    · rw [if_neg (by omega), q1, Int.toNat_natCast, q2, Int.toNat_natCast]
      by_cases hc : P 34 o = 64
      · rw [if_pos hc] at q11
        right
        have := q13 hc
        rw [if_pos ⟨hc, by omega, by omega⟩]
        exact ⟨q11, by omega⟩
      · rw [if_neg hc] at q11
        rw [if_neg (fun q => hc q.1), q11]
        exact ih h q4 (by omega)
