/-! which tags may be raised: as sets of five bits -/
theorem bor_d : ∀ a b : Fin 32, zor (a.val : Int) (b.val : Int) = ((a.val ||| b.val : Nat) : Int) ∧ a.val ||| b.val < 32 := by decide +kernel
theorem ban_d : ∀ a b : Fin 32, zand (a.val : Int) (zxor (b.val : Int) (-1)) = ((a.val &&& (31 ^^^ b.val) : Nat) : Int) ∧ a.val &&& (31 ^^^ b.val) < 32 := by decide +kernel
theorem bsh_d : ∀ t : Fin 5, zshl 1 (t.val : Int) = ((2 ^ t.val : Nat) : Int) ∧ 2 ^ t.val < 32 := by decide +kernel
theorem bit_d : ∀ (a : Fin 32) (t : Fin 5), zand (zshr (a.val : Int) (t.val : Int)) 1 = (if a.val &&& 2 ^ t.val = 0 then 0 else 1) := by decide +kernel
theorem cau_d : ∀ (c a : Fin 32) (t : Fin 5), ((c.val ||| 2 ^ t.val) &&& (31 ^^^ a.val) = 0) = (c.val &&& (31 ^^^ a.val) = 0 ∧ ¬ a.val &&& 2 ^ t.val = 0) := by decide +kernel
theorem bor {a b : Nat} (ha : a < 32) (hb : b < 32) : zor (a : Int) (b : Int) = ((a ||| b : Nat) : Int) := (bor_d ⟨a, ha⟩ ⟨b, hb⟩).1
theorem bor_l {a b : Nat} (ha : a < 32) (hb : b < 32) : a ||| b < 32 := (bor_d ⟨a, ha⟩ ⟨b, hb⟩).2
theorem ban {a b : Nat} (ha : a < 32) (hb : b < 32) : zand (a : Int) (zxor (b : Int) (-1)) = ((a &&& (31 ^^^ b) : Nat) : Int) := (ban_d ⟨a, ha⟩ ⟨b, hb⟩).1
theorem ban_l {a b : Nat} (ha : a < 32) (hb : b < 32) : a &&& (31 ^^^ b) < 32 := (ban_d ⟨a, ha⟩ ⟨b, hb⟩).2
theorem bsh {t : Nat} (h : t < 5) : zshl 1 (t : Int) = ((2 ^ t : Nat) : Int) := (bsh_d ⟨t, h⟩).1
theorem bsh_l {t : Nat} (h : t < 5) : 2 ^ t < 32 := (bsh_d ⟨t, h⟩).2
def kidT (P : Nat → Nat → Int) (r : Nat → Nat) (s j : Nat) : Nat := if P 38 (6 * s + j) < 0 then 0 else r (P 38 (6 * s + j)).toNat
def orU (g : Nat → Nat) : Nat → Nat → Nat → Nat
  | acc, _, 0 => acc
  | acc, a, n + 1 => orU g (acc ||| g a) (a + 1) n
def cau (P : Nat → Nat → Int) (s : Nat) : Nat → Nat
  | 0 => 0
  | k + 1 => cau P s k ||| 2 ^ (P 39 (3 * s + k)).toNat
def stT (P : Nat → Nat → Int) (r : Nat → Nat) (s : Nat) : Nat :=
  if P 34 s = 89 then orU (kidT P r s) (kidT P r s 0 &&& (31 ^^^ cau P s (P 41 s).toNat)) 2 4
  else if P 34 s = 84 then 2 ^ (P 35 s).toNat else if P 34 s = 88 then 2 ^ (P 102 (P 42 s).toNat).toNat
  else if P 34 s = 80 then (match pIx P (P 35 s) (nP P) with
    | some p => (P 32 p).toNat
    | none => 0) else orU (kidT P r s) 0 0 6
def orD (f : Nat → Nat) : Nat → Nat → Nat
  | _, 0 => 0
  | s, m + 1 => orD f (s + 1) m ||| f s
def inB (P : Nat → Nat → Int) (r : Nat → Nat) (b z : Nat) : Nat := if P 42 z = (b : Int) then stT P r z else 0
def rTd (P : Nat → Nat → Int) : Nat → Nat → Nat
  | 0, _ => 0
  | n + 1, b => orD (inB P (rTd P n) b) 0 (nS P)
def rT (P : Nat → Nat → Int) (b : Nat) : Nat := rTd P (5 - (P 100 b).toNat) b
/-- what the checks of tags need besides: tags of procedures are sets, all is known -/
def TgR (P : Nat → Nat → Int) : Prop := ∀ p, p < nP P → 0 ≤ P 32 p ∧ P 32 p < 32
theorem orU_l {g : Nat → Nat} (hg : ∀ j, g j < 32) : ∀ (n acc a : Nat), acc < 32 → orU g acc a n < 32
  | 0, _, _, h => h
  | n + 1, acc, a, h => orU_l hg n _ _ (bor_l h (hg a))
theorem orD_l {f : Nat → Nat} (hf : ∀ z, f z < 32) : ∀ (m s : Nat), orD f s m < 32
  | 0, _ => by show 0 < 32; decide
  | m + 1, s => bor_l (orD_l hf m (s + 1)) (hf s)
theorem cau_l {P : Nat → Nat → Int} {s : Nat} : ∀ n : Nat, (∀ k : Nat, k < n → 0 ≤ P 39 (3 * s + k) ∧ P 39 (3 * s + k) ≤ 4) → cau P s n < 32
  | 0, _ => by show 0 < 32; decide
  | n + 1, h => bor_l (cau_l n (fun k hk => h k (by omega))) (bsh_l (by have := h n (by omega); omega))
theorem orD_congr {f g : Nat → Nat} : ∀ (m s : Nat), (∀ z, s ≤ z → z < s + m → f z = g z) → orD f s m = orD g s m
  | 0, _, _ => rfl
  | m + 1, s, h => by rw [orD, orD, orD_congr m (s + 1) (fun z h1 h2 => h z (by omega) (by omega)), h s (by omega) (by omega)]
theorem orD_skip {f : Nat → Nat} : ∀ (k lo n : Nat), lo + k ≤ n → (∀ z, lo ≤ z → z < lo + k → f z = 0) → orD f lo (n - lo) = orD f (lo + k) (n - (lo + k))
  | 0, lo, n, _, _ => rfl
  | k + 1, lo, n, h, hz => by
    have e : n - lo = (n - (lo + 1)) + 1 := by omega
    rw [e, orD, hz lo (by omega) (by omega), Nat.or_zero, orD_skip k (lo + 1) n (by omega) (fun z h1 h2 => hz z (by omega) (by omega))]
    have e2 : lo + 1 + k = lo + (k + 1) := by omega
    rw [e2]
theorem orD_zero {f : Nat → Nat} : ∀ (m s : Nat), (∀ z, s ≤ z → z < s + m → f z = 0) → orD f s m = 0
  | 0, _, _ => rfl
  | m + 1, s, h => by rw [orD, orD_zero m (s + 1) (fun z h1 h2 => h z (by omega) (by omega)), h s (by omega) (by omega)]; rfl
theorem orU_congr {g h : Nat → Nat} : ∀ (n acc a : Nat), (∀ j, a ≤ j → j < a + n → g j = h j) → orU g acc a n = orU h acc a n
  | 0, _, _, _ => rfl
  | n + 1, acc, a, hg => by rw [orU, orU, hg a (by omega) (by omega)]; exact orU_congr n _ _ (fun j h1 h2 => hg j (by omega) (by omega))
theorem stT_congr {P : Nat → Nat → Int} {r r' : Nat → Nat} {s : Nat} (h : ∀ j, j < 6 → kidT P r s j = kidT P r' s j) : stT P r s = stT P r' s := by
  unfold stT
  rw [h 0 (by omega), orU_congr 4 _ 2 (fun j h1 h2 => h j (by omega)), orU_congr 6 0 0 (fun j h1 h2 => h j (by omega))]
section
variable {P : Nat → Nat → Int}
theorem stT_l (hP : PWf P) (hT : TgR P) {r : Nat → Nat} (hr : ∀ b, r b < 32) {s : Nat} (hs : s < nS P) : stT P r s < 32 := by
  have hw := hP.2.2.2.2.2.1 s hs
  have hk : ∀ j, kidT P r s j < 32 := fun j => by
    unfold kidT
    split
    · decide
    · exact hr _
  obtain ⟨n1, n2, n3⟩ := hw.2.2.2.2.2.2.2.2.2.2.1
  unfold stT
  split
  · exact orU_l hk _ _ _ (ban_l (hk 0) (cau_l _ (fun k hk' => ⟨(n3 k (by omega)).1, (n3 k (by omega)).2.1⟩)))
  · split
    · rename_i h84
      have := hw.2.2.2.2.2.1 h84
      exact bsh_l (by omega)
    · split
      · obtain ⟨b, b1, b2, b3⟩ := hw.2.1
        have := tk_r hP b2
        have e : (P 42 s).toNat = b := by omega
        rw [e]
        exact bsh_l (by omega)
      · split
        · split
          · rename_i p hp
            have := hT p (pIx_lt _ _ hp).1
            omega
          · decide
        · exact orU_l hk _ _ _ (by decide)
theorem rTd_l (hP : PWf P) (hT : TgR P) : ∀ (n b : Nat), rTd P n b < 32
  | 0, _ => by show 0 < 32; decide
  | n + 1, b => by
    have : rTd P (n + 1) b = orD (fun z => if z < nS P then inB P (rTd P n) b z else 0) 0 (nS P) := orD_congr _ _ (fun z _ h2 => (if_pos (by omega)).symm)
    rw [this]
    refine orD_l (fun z => ?_) _ _
    split
    · unfold inB
      split
      · exact stT_l hP hT (rTd_l hP hT n) (by assumption)
      · decide
    · decide
theorem rT_l (hP : PWf P) (hT : TgR P) (b : Nat) : rT P b < 32 := rTd_l hP hT _ b
/-- a block's tags are those of its statements -/
theorem rT_eq (hP : PWf P) {b : Nat} (hb : b < nB P) : rT P b = orD (inB P (rT P) b) 0 (nS P) := by
  have hd := (hP.2.2.2.2.2.2.1 b hb).dep
  unfold rT
  obtain ⟨n, hn⟩ : ∃ n, 5 - (P 100 b).toNat = n + 1 := ⟨4 - (P 100 b).toNat, by omega⟩
  rw [hn, rTd]
  refine orD_congr _ _ (fun z _ hz => ?_)
  unfold inB
  by_cases hzb : P 42 z = (b : Int)
  · rw [if_pos hzb, if_pos hzb]
    refine stT_congr (fun j hj => ?_)
    rcases (hP.2.2.2.2.2.1 z (by omega)).2.2.2.2.2.2.2.1 j hj with q | q
    · unfold kidT
      rw [if_pos (by omega), if_pos (by omega)]
    · obtain ⟨c, c1, c2, c3, -⟩ := kid_ok hP (by omega) hzb q
      unfold kidT
      rw [c1, if_neg (by omega), if_neg (by omega), Int.toNat_natCast]
      have e : 5 - (P 100 c).toNat = n := by omega
      show rTd P n c = rTd P (5 - (P 100 c).toNat) c
      rw [e]
  · rw [if_neg hzb, if_neg hzb]
end
