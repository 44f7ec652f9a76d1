/-! the checks: places, names, what stands behind -/
def outI (P : Nat → Nat → Int) (s : Nat) : Int := if P 34 s = 66 ∨ P 34 s = 67 then (if P 101 (P 42 s).toNat = 0 then 1 else 0) else if P 34 s = 88 then (if P 102 (P 42 s).toNat = -1 then 1 else 0) else 0
def endI (k : Int) : Int := if k = 66 ∨ k = 67 ∨ k = 82 ∨ k = 84 ∨ k = 88 then 1 else 0
def fO (P : Nat → Nat → Int) (s : Nat) : Int := if outI P s = 1 then 2 else if P 34 s = 80 ∧ pIx P (P 35 s) (nP P) = none then 3 else if 0 ≤ P 103 s then (if endI (P 34 (P 103 s).toNat) = 1 then 4 else 0) else 0
def CPr (I : zMI) (R : zMR) (P : Nat → Nat → Int) : Prop := ∀ p, p < nP P → I 2 (p + 1) 0 = P 31 p ∧ I 2 (p + 1) 1 = P 32 p ∧ R 2 (p + 1) 3 = rf 3 (P 33 p)
/-- the program as it was read -/
def CR0 (I : zMI) (R : zMR) (P : Nat → Nat → Int) : Prop := Kon R ∧ (∀ s, s < nS P → CSt I R P s ∧ CSd I R P s) ∧ (∀ b, b < nB P → CBl I R P b) ∧ (∀ j, j < nE P → CEn I P j) ∧ R 2 0 3 = rf 3 (P 33 (nP P)) ∧ CPr I R P ∧ I 7 0 4 = (nP P : Int) ∧ I 7 0 5 = (nS P : Int) ∧ I 2 0 1 = 0
def CL0 (I : zMI) (R : zMR) (P : Nat → Nat → Int) (s : Nat) : Prop := P 34 s = 80 → match pIx P (P 35 s) (nP P) with
  | some p => R 4 s 7 = rf 3 (P 33 p) ∧ I 4 s 10 = P 32 p
  | none => R 4 s 7 = none
/-- order along the text; every block of no statement is a procedure's -/
def POr (P : Nat → Nat → Int) : Prop :=
  (∀ s, s < nS P → (P 43 s = -1 → ∀ z, s < z → z < nS P → P 42 z ≠ P 42 s) ∧ (∀ q : Nat, P 43 s = (q : Int) → ∀ z, s < z → z < q → P 42 z ≠ P 42 s) ∧
    ((P 103 s = -1 ∧ P 45 (P 42 s).toNat = (s : Int)) ∨ ∃ q : Nat, P 103 s = (q : Int) ∧ q < s ∧ P 43 q = (s : Int) ∧ P 42 q = P 42 s)) ∧
  (∀ b, b < nB P → (P 45 b = -1 → ∀ z, z < nS P → P 42 z ≠ (b : Int)) ∧ (∀ q : Nat, P 45 b = (q : Int) → ∀ z, z < q → P 42 z ≠ (b : Int)) ∧ (P 47 b = -1 → ∃ p, p ≤ nP P ∧ P 33 p = (b : Int)))
theorem pIx_lt {P : Nat → Nat → Int} {n : Int} : ∀ (m p : Nat), pIx P n m = some p → p < m ∧ P 31 p = n
  | 0, p, h => by cases h
  | m + 1, p, h => by
    rw [pIx] at h
    cases hm : pIx P n m with
    | some q =>
      rw [hm] at h
      have := pIx_lt m q hm
      cases h
      exact ⟨by omega, this.2⟩
    | none =>
      rw [hm] at h
      by_cases hq : P 31 m = n
      · rw [if_pos hq] at h
        cases h
        exact ⟨by omega, hq⟩
      · rw [if_neg hq] at h
        cases h
theorem pIx_up {P : Nat → Nat → Int} {n : Int} {m p : Nat} (h : pIx P n m = some p) : ∀ k, pIx P n (m + k) = some p
  | 0 => h
  | k + 1 => by
    show (match pIx P n (m + k) with
      | some p => some p
      | none => if P 31 (m + k) = n then some (m + k) else none) = _
    rw [pIx_up h k]
section
variable {d s : Nat} {P : Nat → Nat → Int} {I : zMI} {R : zMR} {al : zA} {K : Option zV → zS → Prop} {si : Int}
/-- the class looks a procedure up -/
theorem cn_loop {n : Int} (hK : Kon R) (h0 : CPr I R P) (h4 : I 7 0 4 = (nP P : Int)) (h3 : nP P ≤ 3) (hr : ∀ p, p < nP P → 0 ≤ P 31 p ∧ P 31 p ≤ 2) (hn : zw n = n) (m : Nat) : ∀ (k : Nat) (ki : Int), ki = (k : Int) → k + m = nP P → pIx P n k = none → (∀ p, pIx P n (nP P) = some p → K (some (zq (some (2, p + 1)))) (I, R, al)) → (pIx P n (nP P) = none → K (some (zq none)) (I, R, al)) →
    Zgo d 45 2 [some (zq (some (7, 0))), some (zi n), some (zi ki)] [] (I, R, al) K := by
  induction m with
  | zero =>
    intro k ki hki hm hp h1 h2
    have e1 : zw ki = ki := zw_i (by omega) (by omega)
    generalize hx : (nP P : Int) = x at h4
    have e2 : zw x = x := zw_i (by omega) (by omega)
    have e3 : ¬ ki < x := by omega
    have hk : k = nP P := by omega
    rw [hk] at hp
    rw [zh_45_2]
    simp only [zh_45_0, zh_45_1, zh_45_3, zh_45_4, zh_45_7, zh_45_10, zh_45_11, zh_45_14, zh_45_15, zh_45_16, zh_45_19, zh_45_20, zh_45_23, zh_45_24, zh_45_27, zh_45_28, zh_45_29, zh_45_30, zh_45_33, zh_45_36, zh_45_37, zwl_m1, zwl_0, zwl_1, zwl_2, zwl_3, zwl_4, zwl_5, zwl_6, zwl_7, zwl_8, zwl_10, zwl_15, zwl_24, zwl_32, zwl_33, zwl_40, zwl_41, zwl_42, zwl_43, zwl_45, zwl_47, zwl_48, zwl_52, zwl_56, zwl_57, zwl_59, zwl_60, zwl_61, zwl_63, zwl_64, zwl_66, zwl_67, zwl_68, zwl_70, zwl_75, zwl_77, zwl_80, zwl_82, zwl_84, zwl_88, zwl_89, zwl_97, zwl_104, zwl_110, zwl_112, zwl_114, zwl_118, zwl_123, zwl_125, zwl_126, zwl_159, zwl_160, zwl_200, zwl_255, zwl_480, zwl_960, zwl_3000, zs_kli, zs_klq, zs_kln, zs_wn, zs_wi, zs_wl, zs_wq, ↓zs_ok10, ↓zs_ok11, Option.toList_some, Option.toList_none, List.cons_append, List.nil_append, ↓reduceIte, Nat.reduceAdd, Nat.reduceLeDiff, true_and, and_true, Int.reduceEq, Int.reduceLT, Int.reduceLE, Int.reduceAdd, Int.reduceSub, Int.reduceMul, Int.reduceNeg, Nat.reduceEqDiff, Nat.reduceLT, Nat.reduceBEq, zsI_c, zsI_k, zsI_s, zsR_c, zsR_k, zsR_s, kon_0_0_0 hK, kon_0_0_1 hK, kon_0_0_2 hK, kon_0_0_3 hK, kon_0_0_4 hK, kon_1_0_0 hK, kon_6_0_0 hK, kon_6_0_1 hK, kon_6_0_4 hK, kon_7_0_0 hK, kon_7_0_1 hK, kon_7_0_2 hK, kon_7_0_3 hK, kon_7_0_7 hK, kon_7_0_8 hK, kon_8_0_0 hK, kon_8_0_1 hK, kon_9_0_0 hK, kon_10_0_0 hK, kon_10_0_1 hK, kon_10_0_9 hK, h4, e1, e2, e3]
    exact h2 hp
  | succ m ih =>
    intro k ki hki hm hp h1 h2
    have e1 : zw ki = ki := zw_i (by omega) (by omega)
    have hx4 := h4
    generalize hx : (nP P : Int) = x at hx4
    have e2 : zw x = x := zw_i (by omega) (by omega)
    have e3 : ki < x := by omega
    have hk3 : k < 3 := by omega
    have hkn : k < nP P := by omega
    have e4 := kon_21 hK hk3
    obtain ⟨c1, c2, c3⟩ := h0 k hkn
    have r := hr k hkn
    have e5 : zw (P 31 k) = P 31 k := zw_i (by omega) (by omega)
    rw [zh_45_2]
    by_cases hq : P 31 k = n
    · simp only [zh_45_0, zh_45_1, zh_45_3, zh_45_4, zh_45_7, zh_45_10, zh_45_11, zh_45_14, zh_45_15, zh_45_16, zh_45_19, zh_45_20, zh_45_23, zh_45_24, zh_45_27, zh_45_28, zh_45_29, zh_45_30, zh_45_33, zh_45_36, zh_45_37, zwl_m1, zwl_0, zwl_1, zwl_2, zwl_3, zwl_4, zwl_5, zwl_6, zwl_7, zwl_8, zwl_10, zwl_15, zwl_24, zwl_32, zwl_33, zwl_40, zwl_41, zwl_42, zwl_43, zwl_45, zwl_47, zwl_48, zwl_52, zwl_56, zwl_57, zwl_59, zwl_60, zwl_61, zwl_63, zwl_64, zwl_66, zwl_67, zwl_68, zwl_70, zwl_75, zwl_77, zwl_80, zwl_82, zwl_84, zwl_88, zwl_89, zwl_97, zwl_104, zwl_110, zwl_112, zwl_114, zwl_118, zwl_123, zwl_125, zwl_126, zwl_159, zwl_160, zwl_200, zwl_255, zwl_480, zwl_960, zwl_3000, zs_kli, zs_klq, zs_kln, zs_wn, zs_wi, zs_wl, zs_wq, ↓zs_ok10, ↓zs_ok11, Option.toList_some, Option.toList_none, List.cons_append, List.nil_append, ↓reduceIte, Nat.reduceAdd, Nat.reduceLeDiff, true_and, and_true, Int.reduceEq, Int.reduceLT, Int.reduceLE, Int.reduceAdd, Int.reduceSub, Int.reduceMul, Int.reduceNeg, Nat.reduceEqDiff, Nat.reduceLT, Nat.reduceBEq, zsI_c, zsI_k, zsI_s, zsR_c, zsR_k, zsR_s, kon_0_0_0 hK, kon_0_0_1 hK, kon_0_0_2 hK, kon_0_0_3 hK, kon_0_0_4 hK, kon_1_0_0 hK, kon_6_0_0 hK, kon_6_0_1 hK, kon_6_0_4 hK, kon_7_0_0 hK, kon_7_0_1 hK, kon_7_0_2 hK, kon_7_0_3 hK, kon_7_0_7 hK, kon_7_0_8 hK, kon_8_0_0 hK, kon_8_0_1 hK, kon_9_0_0 hK, kon_10_0_0 hK, kon_10_0_1 hK, kon_10_0_9 hK, hx4, e1, e2, e3, ↓za21 hki hk3, e4, c1, hq, hn]
      refine h1 k ?_
      have e6 : pIx P n (k + 1) = some k := by
        rw [pIx, hp]
        exact if_pos hq
      have := pIx_up e6 m
      have e7 : k + 1 + m = nP P := by omega
      rw [e7] at this
      exact this
    · simp only [zh_45_0, zh_45_1, zh_45_3, zh_45_4, zh_45_7, zh_45_10, zh_45_11, zh_45_14, zh_45_15, zh_45_16, zh_45_19, zh_45_20, zh_45_23, zh_45_24, zh_45_27, zh_45_28, zh_45_29, zh_45_30, zh_45_33, zh_45_36, zh_45_37, zwl_m1, zwl_0, zwl_1, zwl_2, zwl_3, zwl_4, zwl_5, zwl_6, zwl_7, zwl_8, zwl_10, zwl_15, zwl_24, zwl_32, zwl_33, zwl_40, zwl_41, zwl_42, zwl_43, zwl_45, zwl_47, zwl_48, zwl_52, zwl_56, zwl_57, zwl_59, zwl_60, zwl_61, zwl_63, zwl_64, zwl_66, zwl_67, zwl_68, zwl_70, zwl_75, zwl_77, zwl_80, zwl_82, zwl_84, zwl_88, zwl_89, zwl_97, zwl_104, zwl_110, zwl_112, zwl_114, zwl_118, zwl_123, zwl_125, zwl_126, zwl_159, zwl_160, zwl_200, zwl_255, zwl_480, zwl_960, zwl_3000, zs_kli, zs_klq, zs_kln, zs_wn, zs_wi, zs_wl, zs_wq, ↓zs_ok10, ↓zs_ok11, Option.toList_some, Option.toList_none, List.cons_append, List.nil_append, ↓reduceIte, Nat.reduceAdd, Nat.reduceLeDiff, true_and, and_true, Int.reduceEq, Int.reduceLT, Int.reduceLE, Int.reduceAdd, Int.reduceSub, Int.reduceMul, Int.reduceNeg, Nat.reduceEqDiff, Nat.reduceLT, Nat.reduceBEq, zsI_c, zsI_k, zsI_s, zsR_c, zsR_k, zsR_s, kon_0_0_0 hK, kon_0_0_1 hK, kon_0_0_2 hK, kon_0_0_3 hK, kon_0_0_4 hK, kon_1_0_0 hK, kon_6_0_0 hK, kon_6_0_1 hK, kon_6_0_4 hK, kon_7_0_0 hK, kon_7_0_1 hK, kon_7_0_2 hK, kon_7_0_3 hK, kon_7_0_7 hK, kon_7_0_8 hK, kon_8_0_0 hK, kon_8_0_1 hK, kon_9_0_0 hK, kon_10_0_0 hK, kon_10_0_1 hK, kon_10_0_9 hK, hx4, e1, e2, e3, ↓za21 hki hk3, e4, c1, e5, hq, hn]
      refine ih (k + 1) _ (by omega) (by omega) ?_ h1 h2
      rw [pIx, hp]
      exact if_neg hq
theorem cn_named {n : Int} (hK : Kon R) (h0 : CPr I R P) (h4 : I 7 0 4 = (nP P : Int)) (h3 : nP P ≤ 3) (hr : ∀ p, p < nP P → 0 ≤ P 31 p ∧ P 31 p ≤ 2) (hn : zw n = n) (h1 : ∀ p, pIx P n (nP P) = some p → K (some (zq (some (2, p + 1)))) (I, R, al)) (h2 : pIx P n (nP P) = none → K (some (zq none)) (I, R, al)) : zCp (d + 1) 45 [zq (some (7, 0)), zi n] (I, R, al) K := by
  rw [zcp_45]
  simp only [zh_45_0, zh_45_1, zh_45_3, zh_45_4, zh_45_7, zh_45_10, zh_45_11, zh_45_14, zh_45_15, zh_45_16, zh_45_19, zh_45_20, zh_45_23, zh_45_24, zh_45_27, zh_45_28, zh_45_29, zh_45_30, zh_45_33, zh_45_36, zh_45_37, zwl_m1, zwl_0, zwl_1, zwl_2, zwl_3, zwl_4, zwl_5, zwl_6, zwl_7, zwl_8, zwl_10, zwl_15, zwl_24, zwl_32, zwl_33, zwl_40, zwl_41, zwl_42, zwl_43, zwl_45, zwl_47, zwl_48, zwl_52, zwl_56, zwl_57, zwl_59, zwl_60, zwl_61, zwl_63, zwl_64, zwl_66, zwl_67, zwl_68, zwl_70, zwl_75, zwl_77, zwl_80, zwl_82, zwl_84, zwl_88, zwl_89, zwl_97, zwl_104, zwl_110, zwl_112, zwl_114, zwl_118, zwl_123, zwl_125, zwl_126, zwl_159, zwl_160, zwl_200, zwl_255, zwl_480, zwl_960, zwl_3000, zs_kli, zs_klq, zs_kln, zs_wn, zs_wi, zs_wl, zs_wq, ↓zs_ok10, ↓zs_ok11, Option.toList_some, Option.toList_none, List.cons_append, List.nil_append, ↓reduceIte, Nat.reduceAdd, Nat.reduceLeDiff, true_and, and_true, Int.reduceEq, Int.reduceLT, Int.reduceLE, Int.reduceAdd, Int.reduceSub, Int.reduceMul, Int.reduceNeg, Nat.reduceEqDiff, Nat.reduceLT, Nat.reduceBEq, zsI_c, zsI_k, zsI_s, zsR_c, zsR_k, zsR_s]
  exact cn_loop hK h0 h4 h3 hr hn (nP P) 0 _ rfl (by omega) rfl h1 h2
theorem endI_c {k : Int} (hk : knd k) (hI : I 4 s 0 = k) (h : K (some (zi (endI k))) (I, R, al)) : zCp (d + 1) 48 [zq (some (4, s))] (I, R, al) K := by
  rw [zcp_48]
  rcases hk with rfl | rfl | rfl | rfl | rfl | rfl | rfl | rfl | rfl | rfl | rfl <;> (simp only [zh_48_0, zh_48_1, zh_48_56, zh_48_57, zh_48_58, zh_48_59, zh_48_4, zwl_m1, zwl_0, zwl_1, zwl_2, zwl_3, zwl_4, zwl_5, zwl_6, zwl_7, zwl_8, zwl_10, zwl_15, zwl_24, zwl_32, zwl_33, zwl_40, zwl_41, zwl_42, zwl_43, zwl_45, zwl_47, zwl_48, zwl_52, zwl_56, zwl_57, zwl_59, zwl_60, zwl_61, zwl_63, zwl_64, zwl_66, zwl_67, zwl_68, zwl_70, zwl_75, zwl_77, zwl_80, zwl_82, zwl_84, zwl_88, zwl_89, zwl_97, zwl_104, zwl_110, zwl_112, zwl_114, zwl_118, zwl_123, zwl_125, zwl_126, zwl_159, zwl_160, zwl_200, zwl_255, zwl_480, zwl_960, zwl_3000, zs_kli, zs_klq, zs_kln, zs_wn, zs_wi, zs_wl, zs_wq, ↓zs_ok10, ↓zs_ok11, Option.toList_some, Option.toList_none, List.cons_append, List.nil_append, ↓reduceIte, Nat.reduceAdd, Nat.reduceLeDiff, true_and, and_true, Int.reduceEq, Int.reduceLT, Int.reduceLE, Int.reduceAdd, Int.reduceSub, Int.reduceMul, Int.reduceNeg, Nat.reduceEqDiff, Nat.reduceLT, Nat.reduceBEq, zsI_c, zsI_k, zsI_s, zsR_c, zsR_k, zsR_s, hI]; exact h)
theorem outI_c (hK : Kon R) (hk : knd (P 34 s)) (hS : CSt I R P s) (hb : CBl I R P (P 42 s).toNat) (h1 : P 101 (P 42 s).toNat = 0 ∨ P 101 (P 42 s).toNat = 1) (h2 : zw (P 102 (P 42 s).toNat) = P 102 (P 42 s).toNat) (h : K (some (zi (outI P s))) (I, R, al)) : zCp (d + 1) 47 [zq (some (4, s))] (I, R, al) K := by
  obtain ⟨s1, s2, s3, s4⟩ := hS
  obtain ⟨b1, b2, b3, b4, b5⟩ := hb
  unfold outI at h
  rw [zcp_47]
  rcases hk with k | k | k | k | k | k | k | k | k | k | k
  · rw [k] at h s1
    simp only [zh_47_0, zh_47_1, zh_47_40, zh_47_41, zh_47_44, zh_47_47, zh_47_50, zh_47_51, zh_47_54, zh_47_55, zh_47_56, zh_47_57, zh_47_60, zh_47_63, zh_47_64, zh_47_67, zh_47_68, zh_47_71, zh_47_72, zh_47_73, zh_47_74, zh_47_4, zwl_m1, zwl_0, zwl_1, zwl_2, zwl_3, zwl_4, zwl_5, zwl_6, zwl_7, zwl_8, zwl_10, zwl_15, zwl_24, zwl_32, zwl_33, zwl_40, zwl_41, zwl_42, zwl_43, zwl_45, zwl_47, zwl_48, zwl_52, zwl_56, zwl_57, zwl_59, zwl_60, zwl_61, zwl_63, zwl_64, zwl_66, zwl_67, zwl_68, zwl_70, zwl_75, zwl_77, zwl_80, zwl_82, zwl_84, zwl_88, zwl_89, zwl_97, zwl_104, zwl_110, zwl_112, zwl_114, zwl_118, zwl_123, zwl_125, zwl_126, zwl_159, zwl_160, zwl_200, zwl_255, zwl_480, zwl_960, zwl_3000, zs_kli, zs_klq, zs_kln, zs_wn, zs_wi, zs_wl, zs_wq, ↓zs_ok10, ↓zs_ok11, Option.toList_some, Option.toList_none, List.cons_append, List.nil_append, ↓reduceIte, Nat.reduceAdd, Nat.reduceLeDiff, true_and, and_true, Int.reduceEq, Int.reduceLT, Int.reduceLE, Int.reduceAdd, Int.reduceSub, Int.reduceMul, Int.reduceNeg, Nat.reduceEqDiff, Nat.reduceLT, Nat.reduceBEq, zsI_c, zsI_k, zsI_s, zsR_c, zsR_k, zsR_s, s1]
    exact h
  · rw [k] at h s1
    simp only [zh_47_0, zh_47_1, zh_47_40, zh_47_41, zh_47_44, zh_47_47, zh_47_50, zh_47_51, zh_47_54, zh_47_55, zh_47_56, zh_47_57, zh_47_60, zh_47_63, zh_47_64, zh_47_67, zh_47_68, zh_47_71, zh_47_72, zh_47_73, zh_47_74, zh_47_4, zwl_m1, zwl_0, zwl_1, zwl_2, zwl_3, zwl_4, zwl_5, zwl_6, zwl_7, zwl_8, zwl_10, zwl_15, zwl_24, zwl_32, zwl_33, zwl_40, zwl_41, zwl_42, zwl_43, zwl_45, zwl_47, zwl_48, zwl_52, zwl_56, zwl_57, zwl_59, zwl_60, zwl_61, zwl_63, zwl_64, zwl_66, zwl_67, zwl_68, zwl_70, zwl_75, zwl_77, zwl_80, zwl_82, zwl_84, zwl_88, zwl_89, zwl_97, zwl_104, zwl_110, zwl_112, zwl_114, zwl_118, zwl_123, zwl_125, zwl_126, zwl_159, zwl_160, zwl_200, zwl_255, zwl_480, zwl_960, zwl_3000, zs_kli, zs_klq, zs_kln, zs_wn, zs_wi, zs_wl, zs_wq, ↓zs_ok10, ↓zs_ok11, Option.toList_some, Option.toList_none, List.cons_append, List.nil_append, ↓reduceIte, Nat.reduceAdd, Nat.reduceLeDiff, true_and, and_true, Int.reduceEq, Int.reduceLT, Int.reduceLE, Int.reduceAdd, Int.reduceSub, Int.reduceMul, Int.reduceNeg, Nat.reduceEqDiff, Nat.reduceLT, Nat.reduceBEq, zsI_c, zsI_k, zsI_s, zsR_c, zsR_k, zsR_s, s1]
    exact h
  · rw [k] at h s1
    simp only [zh_47_0, zh_47_1, zh_47_40, zh_47_41, zh_47_44, zh_47_47, zh_47_50, zh_47_51, zh_47_54, zh_47_55, zh_47_56, zh_47_57, zh_47_60, zh_47_63, zh_47_64, zh_47_67, zh_47_68, zh_47_71, zh_47_72, zh_47_73, zh_47_74, zh_47_4, zwl_m1, zwl_0, zwl_1, zwl_2, zwl_3, zwl_4, zwl_5, zwl_6, zwl_7, zwl_8, zwl_10, zwl_15, zwl_24, zwl_32, zwl_33, zwl_40, zwl_41, zwl_42, zwl_43, zwl_45, zwl_47, zwl_48, zwl_52, zwl_56, zwl_57, zwl_59, zwl_60, zwl_61, zwl_63, zwl_64, zwl_66, zwl_67, zwl_68, zwl_70, zwl_75, zwl_77, zwl_80, zwl_82, zwl_84, zwl_88, zwl_89, zwl_97, zwl_104, zwl_110, zwl_112, zwl_114, zwl_118, zwl_123, zwl_125, zwl_126, zwl_159, zwl_160, zwl_200, zwl_255, zwl_480, zwl_960, zwl_3000, zs_kli, zs_klq, zs_kln, zs_wn, zs_wi, zs_wl, zs_wq, ↓zs_ok10, ↓zs_ok11, Option.toList_some, Option.toList_none, List.cons_append, List.nil_append, ↓reduceIte, Nat.reduceAdd, Nat.reduceLeDiff, true_and, and_true, Int.reduceEq, Int.reduceLT, Int.reduceLE, Int.reduceAdd, Int.reduceSub, Int.reduceMul, Int.reduceNeg, Nat.reduceEqDiff, Nat.reduceLT, Nat.reduceBEq, zsI_c, zsI_k, zsI_s, zsR_c, zsR_k, zsR_s, s1]
    exact h
  · rw [k] at h s1
    simp only [zh_47_0, zh_47_1, zh_47_40, zh_47_41, zh_47_44, zh_47_47, zh_47_50, zh_47_51, zh_47_54, zh_47_55, zh_47_56, zh_47_57, zh_47_60, zh_47_63, zh_47_64, zh_47_67, zh_47_68, zh_47_71, zh_47_72, zh_47_73, zh_47_74, zh_47_4, zwl_m1, zwl_0, zwl_1, zwl_2, zwl_3, zwl_4, zwl_5, zwl_6, zwl_7, zwl_8, zwl_10, zwl_15, zwl_24, zwl_32, zwl_33, zwl_40, zwl_41, zwl_42, zwl_43, zwl_45, zwl_47, zwl_48, zwl_52, zwl_56, zwl_57, zwl_59, zwl_60, zwl_61, zwl_63, zwl_64, zwl_66, zwl_67, zwl_68, zwl_70, zwl_75, zwl_77, zwl_80, zwl_82, zwl_84, zwl_88, zwl_89, zwl_97, zwl_104, zwl_110, zwl_112, zwl_114, zwl_118, zwl_123, zwl_125, zwl_126, zwl_159, zwl_160, zwl_200, zwl_255, zwl_480, zwl_960, zwl_3000, zs_kli, zs_klq, zs_kln, zs_wn, zs_wi, zs_wl, zs_wq, ↓zs_ok10, ↓zs_ok11, Option.toList_some, Option.toList_none, List.cons_append, List.nil_append, ↓reduceIte, Nat.reduceAdd, Nat.reduceLeDiff, true_and, and_true, Int.reduceEq, Int.reduceLT, Int.reduceLE, Int.reduceAdd, Int.reduceSub, Int.reduceMul, Int.reduceNeg, Nat.reduceEqDiff, Nat.reduceLT, Nat.reduceBEq, zsI_c, zsI_k, zsI_s, zsR_c, zsR_k, zsR_s, s1]
    exact h
  · rw [k, if_pos (Or.inl rfl)] at h
    rw [k] at s1
    rcases h1 with q | q
    · rw [q] at b4 h
      simp only [zh_47_0, zh_47_1, zh_47_40, zh_47_41, zh_47_44, zh_47_47, zh_47_50, zh_47_51, zh_47_54, zh_47_55, zh_47_56, zh_47_57, zh_47_60, zh_47_63, zh_47_64, zh_47_67, zh_47_68, zh_47_71, zh_47_72, zh_47_73, zh_47_74, zh_47_4, zwl_m1, zwl_0, zwl_1, zwl_2, zwl_3, zwl_4, zwl_5, zwl_6, zwl_7, zwl_8, zwl_10, zwl_15, zwl_24, zwl_32, zwl_33, zwl_40, zwl_41, zwl_42, zwl_43, zwl_45, zwl_47, zwl_48, zwl_52, zwl_56, zwl_57, zwl_59, zwl_60, zwl_61, zwl_63, zwl_64, zwl_66, zwl_67, zwl_68, zwl_70, zwl_75, zwl_77, zwl_80, zwl_82, zwl_84, zwl_88, zwl_89, zwl_97, zwl_104, zwl_110, zwl_112, zwl_114, zwl_118, zwl_123, zwl_125, zwl_126, zwl_159, zwl_160, zwl_200, zwl_255, zwl_480, zwl_960, zwl_3000, zs_kli, zs_klq, zs_kln, zs_wn, zs_wi, zs_wl, zs_wq, ↓zs_ok10, ↓zs_ok11, Option.toList_some, Option.toList_none, List.cons_append, List.nil_append, ↓reduceIte, Nat.reduceAdd, Nat.reduceLeDiff, true_and, and_true, Int.reduceEq, Int.reduceLT, Int.reduceLE, Int.reduceAdd, Int.reduceSub, Int.reduceMul, Int.reduceNeg, Nat.reduceEqDiff, Nat.reduceLT, Nat.reduceBEq, zsI_c, zsI_k, zsI_s, zsR_c, zsR_k, zsR_s, s1, s2, b4]
      exact h
    · rw [q] at b4 h
      simp only [zh_47_0, zh_47_1, zh_47_40, zh_47_41, zh_47_44, zh_47_47, zh_47_50, zh_47_51, zh_47_54, zh_47_55, zh_47_56, zh_47_57, zh_47_60, zh_47_63, zh_47_64, zh_47_67, zh_47_68, zh_47_71, zh_47_72, zh_47_73, zh_47_74, zh_47_4, zwl_m1, zwl_0, zwl_1, zwl_2, zwl_3, zwl_4, zwl_5, zwl_6, zwl_7, zwl_8, zwl_10, zwl_15, zwl_24, zwl_32, zwl_33, zwl_40, zwl_41, zwl_42, zwl_43, zwl_45, zwl_47, zwl_48, zwl_52, zwl_56, zwl_57, zwl_59, zwl_60, zwl_61, zwl_63, zwl_64, zwl_66, zwl_67, zwl_68, zwl_70, zwl_75, zwl_77, zwl_80, zwl_82, zwl_84, zwl_88, zwl_89, zwl_97, zwl_104, zwl_110, zwl_112, zwl_114, zwl_118, zwl_123, zwl_125, zwl_126, zwl_159, zwl_160, zwl_200, zwl_255, zwl_480, zwl_960, zwl_3000, zs_kli, zs_klq, zs_kln, zs_wn, zs_wi, zs_wl, zs_wq, ↓zs_ok10, ↓zs_ok11, Option.toList_some, Option.toList_none, List.cons_append, List.nil_append, ↓reduceIte, Nat.reduceAdd, Nat.reduceLeDiff, true_and, and_true, Int.reduceEq, Int.reduceLT, Int.reduceLE, Int.reduceAdd, Int.reduceSub, Int.reduceMul, Int.reduceNeg, Nat.reduceEqDiff, Nat.reduceLT, Nat.reduceBEq, zsI_c, zsI_k, zsI_s, zsR_c, zsR_k, zsR_s, s1, s2, b4]
      exact h
  · rw [k, if_pos (Or.inr rfl)] at h
    rw [k] at s1
    rcases h1 with q | q
    · rw [q] at b4 h
      simp only [zh_47_0, zh_47_1, zh_47_40, zh_47_41, zh_47_44, zh_47_47, zh_47_50, zh_47_51, zh_47_54, zh_47_55, zh_47_56, zh_47_57, zh_47_60, zh_47_63, zh_47_64, zh_47_67, zh_47_68, zh_47_71, zh_47_72, zh_47_73, zh_47_74, zh_47_4, zwl_m1, zwl_0, zwl_1, zwl_2, zwl_3, zwl_4, zwl_5, zwl_6, zwl_7, zwl_8, zwl_10, zwl_15, zwl_24, zwl_32, zwl_33, zwl_40, zwl_41, zwl_42, zwl_43, zwl_45, zwl_47, zwl_48, zwl_52, zwl_56, zwl_57, zwl_59, zwl_60, zwl_61, zwl_63, zwl_64, zwl_66, zwl_67, zwl_68, zwl_70, zwl_75, zwl_77, zwl_80, zwl_82, zwl_84, zwl_88, zwl_89, zwl_97, zwl_104, zwl_110, zwl_112, zwl_114, zwl_118, zwl_123, zwl_125, zwl_126, zwl_159, zwl_160, zwl_200, zwl_255, zwl_480, zwl_960, zwl_3000, zs_kli, zs_klq, zs_kln, zs_wn, zs_wi, zs_wl, zs_wq, ↓zs_ok10, ↓zs_ok11, Option.toList_some, Option.toList_none, List.cons_append, List.nil_append, ↓reduceIte, Nat.reduceAdd, Nat.reduceLeDiff, true_and, and_true, Int.reduceEq, Int.reduceLT, Int.reduceLE, Int.reduceAdd, Int.reduceSub, Int.reduceMul, Int.reduceNeg, Nat.reduceEqDiff, Nat.reduceLT, Nat.reduceBEq, zsI_c, zsI_k, zsI_s, zsR_c, zsR_k, zsR_s, s1, s2, b4]
      exact h
    · rw [q] at b4 h
      simp only [zh_47_0, zh_47_1, zh_47_40, zh_47_41, zh_47_44, zh_47_47, zh_47_50, zh_47_51, zh_47_54, zh_47_55, zh_47_56, zh_47_57, zh_47_60, zh_47_63, zh_47_64, zh_47_67, zh_47_68, zh_47_71, zh_47_72, zh_47_73, zh_47_74, zh_47_4, zwl_m1, zwl_0, zwl_1, zwl_2, zwl_3, zwl_4, zwl_5, zwl_6, zwl_7, zwl_8, zwl_10, zwl_15, zwl_24, zwl_32, zwl_33, zwl_40, zwl_41, zwl_42, zwl_43, zwl_45, zwl_47, zwl_48, zwl_52, zwl_56, zwl_57, zwl_59, zwl_60, zwl_61, zwl_63, zwl_64, zwl_66, zwl_67, zwl_68, zwl_70, zwl_75, zwl_77, zwl_80, zwl_82, zwl_84, zwl_88, zwl_89, zwl_97, zwl_104, zwl_110, zwl_112, zwl_114, zwl_118, zwl_123, zwl_125, zwl_126, zwl_159, zwl_160, zwl_200, zwl_255, zwl_480, zwl_960, zwl_3000, zs_kli, zs_klq, zs_kln, zs_wn, zs_wi, zs_wl, zs_wq, ↓zs_ok10, ↓zs_ok11, Option.toList_some, Option.toList_none, List.cons_append, List.nil_append, ↓reduceIte, Nat.reduceAdd, Nat.reduceLeDiff, true_and, and_true, Int.reduceEq, Int.reduceLT, Int.reduceLE, Int.reduceAdd, Int.reduceSub, Int.reduceMul, Int.reduceNeg, Nat.reduceEqDiff, Nat.reduceLT, Nat.reduceBEq, zsI_c, zsI_k, zsI_s, zsR_c, zsR_k, zsR_s, s1, s2, b4]
      exact h
  · rw [k] at h s1
    simp only [zh_47_0, zh_47_1, zh_47_40, zh_47_41, zh_47_44, zh_47_47, zh_47_50, zh_47_51, zh_47_54, zh_47_55, zh_47_56, zh_47_57, zh_47_60, zh_47_63, zh_47_64, zh_47_67, zh_47_68, zh_47_71, zh_47_72, zh_47_73, zh_47_74, zh_47_4, zwl_m1, zwl_0, zwl_1, zwl_2, zwl_3, zwl_4, zwl_5, zwl_6, zwl_7, zwl_8, zwl_10, zwl_15, zwl_24, zwl_32, zwl_33, zwl_40, zwl_41, zwl_42, zwl_43, zwl_45, zwl_47, zwl_48, zwl_52, zwl_56, zwl_57, zwl_59, zwl_60, zwl_61, zwl_63, zwl_64, zwl_66, zwl_67, zwl_68, zwl_70, zwl_75, zwl_77, zwl_80, zwl_82, zwl_84, zwl_88, zwl_89, zwl_97, zwl_104, zwl_110, zwl_112, zwl_114, zwl_118, zwl_123, zwl_125, zwl_126, zwl_159, zwl_160, zwl_200, zwl_255, zwl_480, zwl_960, zwl_3000, zs_kli, zs_klq, zs_kln, zs_wn, zs_wi, zs_wl, zs_wq, ↓zs_ok10, ↓zs_ok11, Option.toList_some, Option.toList_none, List.cons_append, List.nil_append, ↓reduceIte, Nat.reduceAdd, Nat.reduceLeDiff, true_and, and_true, Int.reduceEq, Int.reduceLT, Int.reduceLE, Int.reduceAdd, Int.reduceSub, Int.reduceMul, Int.reduceNeg, Nat.reduceEqDiff, Nat.reduceLT, Nat.reduceBEq, zsI_c, zsI_k, zsI_s, zsR_c, zsR_k, zsR_s, s1]
    exact h
  · rw [k] at h s1
    simp only [zh_47_0, zh_47_1, zh_47_40, zh_47_41, zh_47_44, zh_47_47, zh_47_50, zh_47_51, zh_47_54, zh_47_55, zh_47_56, zh_47_57, zh_47_60, zh_47_63, zh_47_64, zh_47_67, zh_47_68, zh_47_71, zh_47_72, zh_47_73, zh_47_74, zh_47_4, zwl_m1, zwl_0, zwl_1, zwl_2, zwl_3, zwl_4, zwl_5, zwl_6, zwl_7, zwl_8, zwl_10, zwl_15, zwl_24, zwl_32, zwl_33, zwl_40, zwl_41, zwl_42, zwl_43, zwl_45, zwl_47, zwl_48, zwl_52, zwl_56, zwl_57, zwl_59, zwl_60, zwl_61, zwl_63, zwl_64, zwl_66, zwl_67, zwl_68, zwl_70, zwl_75, zwl_77, zwl_80, zwl_82, zwl_84, zwl_88, zwl_89, zwl_97, zwl_104, zwl_110, zwl_112, zwl_114, zwl_118, zwl_123, zwl_125, zwl_126, zwl_159, zwl_160, zwl_200, zwl_255, zwl_480, zwl_960, zwl_3000, zs_kli, zs_klq, zs_kln, zs_wn, zs_wi, zs_wl, zs_wq, ↓zs_ok10, ↓zs_ok11, Option.toList_some, Option.toList_none, List.cons_append, List.nil_append, ↓reduceIte, Nat.reduceAdd, Nat.reduceLeDiff, true_and, and_true, Int.reduceEq, Int.reduceLT, Int.reduceLE, Int.reduceAdd, Int.reduceSub, Int.reduceMul, Int.reduceNeg, Nat.reduceEqDiff, Nat.reduceLT, Nat.reduceBEq, zsI_c, zsI_k, zsI_s, zsR_c, zsR_k, zsR_s, s1]
    exact h
  · rw [k, if_neg (by decide), if_pos rfl] at h
    rw [k] at s1
    by_cases q : P 102 (P 42 s).toNat = -1
    · rw [if_pos q] at h
      rw [q] at b5
      simp only [zh_47_0, zh_47_1, zh_47_40, zh_47_41, zh_47_44, zh_47_47, zh_47_50, zh_47_51, zh_47_54, zh_47_55, zh_47_56, zh_47_57, zh_47_60, zh_47_63, zh_47_64, zh_47_67, zh_47_68, zh_47_71, zh_47_72, zh_47_73, zh_47_74, zh_47_4, zwl_m1, zwl_0, zwl_1, zwl_2, zwl_3, zwl_4, zwl_5, zwl_6, zwl_7, zwl_8, zwl_10, zwl_15, zwl_24, zwl_32, zwl_33, zwl_40, zwl_41, zwl_42, zwl_43, zwl_45, zwl_47, zwl_48, zwl_52, zwl_56, zwl_57, zwl_59, zwl_60, zwl_61, zwl_63, zwl_64, zwl_66, zwl_67, zwl_68, zwl_70, zwl_75, zwl_77, zwl_80, zwl_82, zwl_84, zwl_88, zwl_89, zwl_97, zwl_104, zwl_110, zwl_112, zwl_114, zwl_118, zwl_123, zwl_125, zwl_126, zwl_159, zwl_160, zwl_200, zwl_255, zwl_480, zwl_960, zwl_3000, zs_kli, zs_klq, zs_kln, zs_wn, zs_wi, zs_wl, zs_wq, ↓zs_ok10, ↓zs_ok11, Option.toList_some, Option.toList_none, List.cons_append, List.nil_append, ↓reduceIte, Nat.reduceAdd, Nat.reduceLeDiff, true_and, and_true, Int.reduceEq, Int.reduceLT, Int.reduceLE, Int.reduceAdd, Int.reduceSub, Int.reduceMul, Int.reduceNeg, Nat.reduceEqDiff, Nat.reduceLT, Nat.reduceBEq, zsI_c, zsI_k, zsI_s, zsR_c, zsR_k, zsR_s, s1, s2, b5]
      exact h
    · rw [if_neg q] at h
      simp only [zh_47_0, zh_47_1, zh_47_40, zh_47_41, zh_47_44, zh_47_47, zh_47_50, zh_47_51, zh_47_54, zh_47_55, zh_47_56, zh_47_57, zh_47_60, zh_47_63, zh_47_64, zh_47_67, zh_47_68, zh_47_71, zh_47_72, zh_47_73, zh_47_74, zh_47_4, zwl_m1, zwl_0, zwl_1, zwl_2, zwl_3, zwl_4, zwl_5, zwl_6, zwl_7, zwl_8, zwl_10, zwl_15, zwl_24, zwl_32, zwl_33, zwl_40, zwl_41, zwl_42, zwl_43, zwl_45, zwl_47, zwl_48, zwl_52, zwl_56, zwl_57, zwl_59, zwl_60, zwl_61, zwl_63, zwl_64, zwl_66, zwl_67, zwl_68, zwl_70, zwl_75, zwl_77, zwl_80, zwl_82, zwl_84, zwl_88, zwl_89, zwl_97, zwl_104, zwl_110, zwl_112, zwl_114, zwl_118, zwl_123, zwl_125, zwl_126, zwl_159, zwl_160, zwl_200, zwl_255, zwl_480, zwl_960, zwl_3000, zs_kli, zs_klq, zs_kln, zs_wn, zs_wi, zs_wl, zs_wq, ↓zs_ok10, ↓zs_ok11, Option.toList_some, Option.toList_none, List.cons_append, List.nil_append, ↓reduceIte, Nat.reduceAdd, Nat.reduceLeDiff, true_and, and_true, Int.reduceEq, Int.reduceLT, Int.reduceLE, Int.reduceAdd, Int.reduceSub, Int.reduceMul, Int.reduceNeg, Nat.reduceEqDiff, Nat.reduceLT, Nat.reduceBEq, zsI_c, zsI_k, zsI_s, zsR_c, zsR_k, zsR_s, s1, s2, b5, h2, q]
      exact h
  · rw [k] at h s1
    simp only [zh_47_0, zh_47_1, zh_47_40, zh_47_41, zh_47_44, zh_47_47, zh_47_50, zh_47_51, zh_47_54, zh_47_55, zh_47_56, zh_47_57, zh_47_60, zh_47_63, zh_47_64, zh_47_67, zh_47_68, zh_47_71, zh_47_72, zh_47_73, zh_47_74, zh_47_4, zwl_m1, zwl_0, zwl_1, zwl_2, zwl_3, zwl_4, zwl_5, zwl_6, zwl_7, zwl_8, zwl_10, zwl_15, zwl_24, zwl_32, zwl_33, zwl_40, zwl_41, zwl_42, zwl_43, zwl_45, zwl_47, zwl_48, zwl_52, zwl_56, zwl_57, zwl_59, zwl_60, zwl_61, zwl_63, zwl_64, zwl_66, zwl_67, zwl_68, zwl_70, zwl_75, zwl_77, zwl_80, zwl_82, zwl_84, zwl_88, zwl_89, zwl_97, zwl_104, zwl_110, zwl_112, zwl_114, zwl_118, zwl_123, zwl_125, zwl_126, zwl_159, zwl_160, zwl_200, zwl_255, zwl_480, zwl_960, zwl_3000, zs_kli, zs_klq, zs_kln, zs_wn, zs_wi, zs_wl, zs_wq, ↓zs_ok10, ↓zs_ok11, Option.toList_some, Option.toList_none, List.cons_append, List.nil_append, ↓reduceIte, Nat.reduceAdd, Nat.reduceLeDiff, true_and, and_true, Int.reduceEq, Int.reduceLT, Int.reduceLE, Int.reduceAdd, Int.reduceSub, Int.reduceMul, Int.reduceNeg, Nat.reduceEqDiff, Nat.reduceLT, Nat.reduceBEq, zsI_c, zsI_k, zsI_s, zsR_c, zsR_k, zsR_s, s1]
    exact h
  · rw [k] at h s1
    simp only [zh_47_0, zh_47_1, zh_47_40, zh_47_41, zh_47_44, zh_47_47, zh_47_50, zh_47_51, zh_47_54, zh_47_55, zh_47_56, zh_47_57, zh_47_60, zh_47_63, zh_47_64, zh_47_67, zh_47_68, zh_47_71, zh_47_72, zh_47_73, zh_47_74, zh_47_4, zwl_m1, zwl_0, zwl_1, zwl_2, zwl_3, zwl_4, zwl_5, zwl_6, zwl_7, zwl_8, zwl_10, zwl_15, zwl_24, zwl_32, zwl_33, zwl_40, zwl_41, zwl_42, zwl_43, zwl_45, zwl_47, zwl_48, zwl_52, zwl_56, zwl_57, zwl_59, zwl_60, zwl_61, zwl_63, zwl_64, zwl_66, zwl_67, zwl_68, zwl_70, zwl_75, zwl_77, zwl_80, zwl_82, zwl_84, zwl_88, zwl_89, zwl_97, zwl_104, zwl_110, zwl_112, zwl_114, zwl_118, zwl_123, zwl_125, zwl_126, zwl_159, zwl_160, zwl_200, zwl_255, zwl_480, zwl_960, zwl_3000, zs_kli, zs_klq, zs_kln, zs_wn, zs_wi, zs_wl, zs_wq, ↓zs_ok10, ↓zs_ok11, Option.toList_some, Option.toList_none, List.cons_append, List.nil_append, ↓reduceIte, Nat.reduceAdd, Nat.reduceLeDiff, true_and, and_true, Int.reduceEq, Int.reduceLT, Int.reduceLE, Int.reduceAdd, Int.reduceSub, Int.reduceMul, Int.reduceNeg, Nat.reduceEqDiff, Nat.reduceLT, Nat.reduceBEq, zsI_c, zsI_k, zsI_s, zsR_c, zsR_k, zsR_s, s1]
    exact h
theorem outI_01 : outI P s = 0 ∨ outI P s = 1 := by
  unfold outI
  split
  · split
    · exact Or.inr rfl
    · exact Or.inl rfl
  · split
    · split
      · exact Or.inr rfl
      · exact Or.inl rfl
    · exact Or.inl rfl
theorem endI_01 {k : Int} : endI k = 0 ∨ endI k = 1 := by
  unfold endI
  split
  · exact Or.inr rfl
  · exact Or.inl rfl
theorem knd_r {k : Int} (h : knd k) : 33 ≤ k ∧ k ≤ 126 := by unfold knd at h; omega
theorem lp_01 (hP : PWf P) {b : Nat} (hb : b < nB P) : P 101 b = 0 ∨ P 101 b = 1 := by
  rcases lp_ok hP _ b hb rfl with h | h
  · exact Or.inl h.1
  · exact Or.inr h.1
/-- a taken tag is NONE or one of the five -/
theorem tk_r (hP : PWf P) {b : Nat} (hb : b < nB P) : -1 ≤ P 102 b ∧ P 102 b ≤ 4 := by
  rcases ar_ok hP _ b hb rfl with ⟨_, g⟩ | ⟨g, o, g1, g2, g3, g4, g5, g6, g7, g8, g9⟩
  · omega
  · have hso := hP.2.2.2.2.2.1 o g4
    obtain ⟨n1, n2, n3⟩ := hso.2.2.2.2.2.2.2.2.2.2.1
    have hbl := hso.2.2.2.2.2.2.2.2.2.2.2.2.2.1 g5
    have hlt : ((P 48 g).toNat - 2 : Nat) < P 41 o := by
      by_cases q : ((P 48 g).toNat - 2 : Nat) < P 41 o
      · exact q
      · have := hbl ((P 48 g).toNat - 2) (by omega) (by omega)
        rcases (hP.2.2.2.2.2.2.1 g g2).2 with ⟨z, _⟩ | ⟨o', h', z1, _, _, _, _, _, _, z7, _⟩
        · omega
        · have : o' = o := by omega
          subst this
          have e : 6 * o' + 2 + ((P 48 g).toNat - 2) = 6 * o' + (P 48 g).toNat := by omega
          rw [e] at this
          omega
    have := n3 _ hlt
    have e : 3 * o + ((P 48 g).toNat - 2) = 3 * o + (P 48 g).toNat - 2 := by omega
    rw [e] at this
    omega
theorem fO_c (hP : PWf P) (hO : POr P) (hK : Kon R) (hs : s < nS P) (hS : ∀ s, s < nS P → CSt I R P s) (hB : ∀ b, b < nB P → CBl I R P b) (hL : CL0 I R P s) (h : K (some (zi (fO P s))) (I, R, al)) : zCp (d + 2) 46 [zq (some (4, s))] (I, R, al) K := by
  have hw := hP.2.2.2.2.2.1 s hs
  obtain ⟨b, b1, b2, b3⟩ := hw.2.1
  have hbn : (P 42 s).toNat < nB P := by omega
  have hSs := hS s hs
  have hr := knd_r hw.1
  have r1 := tk_r hP hbn
  unfold fO at h
  rw [zcp_46]
  simp only [zh_46_0, zh_46_1, zh_46_4, zh_46_7, zh_46_8, zh_46_9, zh_46_10, zh_46_13, zh_46_15, zh_46_18, zh_46_19, zh_46_22n, zh_46_22, zh_46_25, zh_46_26, zh_46_27, zh_46_28, zh_46_31n, zh_46_31, zh_46_34, zh_46_35, zh_46_38, zh_46_41, zh_46_44, zh_46_45, zh_46_48, zh_46_49, zwl_m1, zwl_0, zwl_1, zwl_2, zwl_3, zwl_4, zwl_5, zwl_6, zwl_7, zwl_8, zwl_10, zwl_15, zwl_24, zwl_32, zwl_33, zwl_40, zwl_41, zwl_42, zwl_43, zwl_45, zwl_47, zwl_48, zwl_52, zwl_56, zwl_57, zwl_59, zwl_60, zwl_61, zwl_63, zwl_64, zwl_66, zwl_67, zwl_68, zwl_70, zwl_75, zwl_77, zwl_80, zwl_82, zwl_84, zwl_88, zwl_89, zwl_97, zwl_104, zwl_110, zwl_112, zwl_114, zwl_118, zwl_123, zwl_125, zwl_126, zwl_159, zwl_160, zwl_200, zwl_255, zwl_480, zwl_960, zwl_3000, zs_kli, zs_klq, zs_kln, zs_wn, zs_wi, zs_wl, zs_wq, ↓zs_ok10, ↓zs_ok11, Option.toList_some, Option.toList_none, List.cons_append, List.nil_append, ↓reduceIte, Nat.reduceAdd, Nat.reduceLeDiff, true_and, and_true, Int.reduceEq, Int.reduceLT, Int.reduceLE, Int.reduceAdd, Int.reduceSub, Int.reduceMul, Int.reduceNeg, Nat.reduceEqDiff, Nat.reduceLT, Nat.reduceBEq, zsI_c, zsI_k, zsI_s, zsR_c, zsR_k, zsR_s]
  refine outI_c hK hw.1 hSs (hB _ hbn) (lp_01 hP hbn) (zw_i (by omega) (by omega)) ?_
  rcases outI_01 (P := P) (s := s) with q | q
  · rw [q, if_neg (by decide)] at h
    have hprev : (if 0 ≤ P 103 s then (if endI (P 34 (P 103 s).toNat) = 1 then (4 : Int) else 0) else 0) = (if 0 ≤ P 103 s then (if endI (P 34 (P 103 s).toNat) = 1 then (4 : Int) else 0) else 0) → K (some (zi (if 0 ≤ P 103 s then (if endI (P 34 (P 103 s).toNat) = 1 then 4 else 0) else 0))) (I, R, al) → Zgo (d + 1) 46 27 [some (zq (some (4, s)))] [] (I, R, al) K := fun _ h => by
      have s5 := hSs.2.2.2
      rcases (hO.1 s hs).2.2 with ⟨z1, _⟩ | ⟨p, z1, z2, z3, z4⟩
      · rw [if_neg (by omega)] at h
        rw [z1, rf_n (by decide)] at s5
        simp only [zh_46_0, zh_46_1, zh_46_4, zh_46_7, zh_46_8, zh_46_9, zh_46_10, zh_46_13, zh_46_15, zh_46_18, zh_46_19, zh_46_22n, zh_46_22, zh_46_25, zh_46_26, zh_46_27, zh_46_28, zh_46_31n, zh_46_31, zh_46_34, zh_46_35, zh_46_38, zh_46_41, zh_46_44, zh_46_45, zh_46_48, zh_46_49, zwl_m1, zwl_0, zwl_1, zwl_2, zwl_3, zwl_4, zwl_5, zwl_6, zwl_7, zwl_8, zwl_10, zwl_15, zwl_24, zwl_32, zwl_33, zwl_40, zwl_41, zwl_42, zwl_43, zwl_45, zwl_47, zwl_48, zwl_52, zwl_56, zwl_57, zwl_59, zwl_60, zwl_61, zwl_63, zwl_64, zwl_66, zwl_67, zwl_68, zwl_70, zwl_75, zwl_77, zwl_80, zwl_82, zwl_84, zwl_88, zwl_89, zwl_97, zwl_104, zwl_110, zwl_112, zwl_114, zwl_118, zwl_123, zwl_125, zwl_126, zwl_159, zwl_160, zwl_200, zwl_255, zwl_480, zwl_960, zwl_3000, zs_kli, zs_klq, zs_kln, zs_wn, zs_wi, zs_wl, zs_wq, ↓zs_ok10, ↓zs_ok11, Option.toList_some, Option.toList_none, List.cons_append, List.nil_append, ↓reduceIte, Nat.reduceAdd, Nat.reduceLeDiff, true_and, and_true, Int.reduceEq, Int.reduceLT, Int.reduceLE, Int.reduceAdd, Int.reduceSub, Int.reduceMul, Int.reduceNeg, Nat.reduceEqDiff, Nat.reduceLT, Nat.reduceBEq, zsI_c, zsI_k, zsI_s, zsR_c, zsR_k, zsR_s, s5]
        exact h
      · rw [if_pos (by omega), z1, Int.toNat_natCast] at h
        rw [z1, rf_s (by omega), Int.toNat_natCast] at s5
        simp only [zh_46_0, zh_46_1, zh_46_4, zh_46_7, zh_46_8, zh_46_9, zh_46_10, zh_46_13, zh_46_15, zh_46_18, zh_46_19, zh_46_22n, zh_46_22, zh_46_25, zh_46_26, zh_46_27, zh_46_28, zh_46_31n, zh_46_31, zh_46_34, zh_46_35, zh_46_38, zh_46_41, zh_46_44, zh_46_45, zh_46_48, zh_46_49, zwl_m1, zwl_0, zwl_1, zwl_2, zwl_3, zwl_4, zwl_5, zwl_6, zwl_7, zwl_8, zwl_10, zwl_15, zwl_24, zwl_32, zwl_33, zwl_40, zwl_41, zwl_42, zwl_43, zwl_45, zwl_47, zwl_48, zwl_52, zwl_56, zwl_57, zwl_59, zwl_60, zwl_61, zwl_63, zwl_64, zwl_66, zwl_67, zwl_68, zwl_70, zwl_75, zwl_77, zwl_80, zwl_82, zwl_84, zwl_88, zwl_89, zwl_97, zwl_104, zwl_110, zwl_112, zwl_114, zwl_118, zwl_123, zwl_125, zwl_126, zwl_159, zwl_160, zwl_200, zwl_255, zwl_480, zwl_960, zwl_3000, zs_kli, zs_klq, zs_kln, zs_wn, zs_wi, zs_wl, zs_wq, ↓zs_ok10, ↓zs_ok11, Option.toList_some, Option.toList_none, List.cons_append, List.nil_append, ↓reduceIte, Nat.reduceAdd, Nat.reduceLeDiff, true_and, and_true, Int.reduceEq, Int.reduceLT, Int.reduceLE, Int.reduceAdd, Int.reduceSub, Int.reduceMul, Int.reduceNeg, Nat.reduceEqDiff, Nat.reduceLT, Nat.reduceBEq, zsI_c, zsI_k, zsI_s, zsR_c, zsR_k, zsR_s, s5]
        refine endI_c (hP.2.2.2.2.2.1 p (by omega)).1 (hS p (by omega)).1 ?_
        rcases endI_01 (k := P 34 p) with e | e
        · rw [e, if_neg (by decide)] at h
          rw [e]
          simp only [zh_46_0, zh_46_1, zh_46_4, zh_46_7, zh_46_8, zh_46_9, zh_46_10, zh_46_13, zh_46_15, zh_46_18, zh_46_19, zh_46_22n, zh_46_22, zh_46_25, zh_46_26, zh_46_27, zh_46_28, zh_46_31n, zh_46_31, zh_46_34, zh_46_35, zh_46_38, zh_46_41, zh_46_44, zh_46_45, zh_46_48, zh_46_49, zwl_m1, zwl_0, zwl_1, zwl_2, zwl_3, zwl_4, zwl_5, zwl_6, zwl_7, zwl_8, zwl_10, zwl_15, zwl_24, zwl_32, zwl_33, zwl_40, zwl_41, zwl_42, zwl_43, zwl_45, zwl_47, zwl_48, zwl_52, zwl_56, zwl_57, zwl_59, zwl_60, zwl_61, zwl_63, zwl_64, zwl_66, zwl_67, zwl_68, zwl_70, zwl_75, zwl_77, zwl_80, zwl_82, zwl_84, zwl_88, zwl_89, zwl_97, zwl_104, zwl_110, zwl_112, zwl_114, zwl_118, zwl_123, zwl_125, zwl_126, zwl_159, zwl_160, zwl_200, zwl_255, zwl_480, zwl_960, zwl_3000, zs_kli, zs_klq, zs_kln, zs_wn, zs_wi, zs_wl, zs_wq, ↓zs_ok10, ↓zs_ok11, Option.toList_some, Option.toList_none, List.cons_append, List.nil_append, ↓reduceIte, Nat.reduceAdd, Nat.reduceLeDiff, true_and, and_true, Int.reduceEq, Int.reduceLT, Int.reduceLE, Int.reduceAdd, Int.reduceSub, Int.reduceMul, Int.reduceNeg, Nat.reduceEqDiff, Nat.reduceLT, Nat.reduceBEq, zsI_c, zsI_k, zsI_s, zsR_c, zsR_k, zsR_s]
          exact h
        · rw [e, if_pos rfl] at h
          rw [e]
          simp only [zh_46_0, zh_46_1, zh_46_4, zh_46_7, zh_46_8, zh_46_9, zh_46_10, zh_46_13, zh_46_15, zh_46_18, zh_46_19, zh_46_22n, zh_46_22, zh_46_25, zh_46_26, zh_46_27, zh_46_28, zh_46_31n, zh_46_31, zh_46_34, zh_46_35, zh_46_38, zh_46_41, zh_46_44, zh_46_45, zh_46_48, zh_46_49, zwl_m1, zwl_0, zwl_1, zwl_2, zwl_3, zwl_4, zwl_5, zwl_6, zwl_7, zwl_8, zwl_10, zwl_15, zwl_24, zwl_32, zwl_33, zwl_40, zwl_41, zwl_42, zwl_43, zwl_45, zwl_47, zwl_48, zwl_52, zwl_56, zwl_57, zwl_59, zwl_60, zwl_61, zwl_63, zwl_64, zwl_66, zwl_67, zwl_68, zwl_70, zwl_75, zwl_77, zwl_80, zwl_82, zwl_84, zwl_88, zwl_89, zwl_97, zwl_104, zwl_110, zwl_112, zwl_114, zwl_118, zwl_123, zwl_125, zwl_126, zwl_159, zwl_160, zwl_200, zwl_255, zwl_480, zwl_960, zwl_3000, zs_kli, zs_klq, zs_kln, zs_wn, zs_wi, zs_wl, zs_wq, ↓zs_ok10, ↓zs_ok11, Option.toList_some, Option.toList_none, List.cons_append, List.nil_append, ↓reduceIte, Nat.reduceAdd, Nat.reduceLeDiff, true_and, and_true, Int.reduceEq, Int.reduceLT, Int.reduceLE, Int.reduceAdd, Int.reduceSub, Int.reduceMul, Int.reduceNeg, Nat.reduceEqDiff, Nat.reduceLT, Nat.reduceBEq, zsI_c, zsI_k, zsI_s, zsR_c, zsR_k, zsR_s]
          exact h
    have s1 := hSs.1
    rw [q]
    by_cases k : P 34 s = 80
    · have hL' := hL k
      cases hp : pIx P (P 35 s) (nP P) with
      | none =>
        rw [if_pos ⟨k, hp⟩] at h
        rw [hp] at hL'
        have hL2 : R 4 s 7 = none := hL'
        rw [k] at s1
        simp only [zh_46_0, zh_46_1, zh_46_4, zh_46_7, zh_46_8, zh_46_9, zh_46_10, zh_46_13, zh_46_15, zh_46_18, zh_46_19, zh_46_22n, zh_46_22, zh_46_25, zh_46_26, zh_46_27, zh_46_28, zh_46_31n, zh_46_31, zh_46_34, zh_46_35, zh_46_38, zh_46_41, zh_46_44, zh_46_45, zh_46_48, zh_46_49, zwl_m1, zwl_0, zwl_1, zwl_2, zwl_3, zwl_4, zwl_5, zwl_6, zwl_7, zwl_8, zwl_10, zwl_15, zwl_24, zwl_32, zwl_33, zwl_40, zwl_41, zwl_42, zwl_43, zwl_45, zwl_47, zwl_48, zwl_52, zwl_56, zwl_57, zwl_59, zwl_60, zwl_61, zwl_63, zwl_64, zwl_66, zwl_67, zwl_68, zwl_70, zwl_75, zwl_77, zwl_80, zwl_82, zwl_84, zwl_88, zwl_89, zwl_97, zwl_104, zwl_110, zwl_112, zwl_114, zwl_118, zwl_123, zwl_125, zwl_126, zwl_159, zwl_160, zwl_200, zwl_255, zwl_480, zwl_960, zwl_3000, zs_kli, zs_klq, zs_kln, zs_wn, zs_wi, zs_wl, zs_wq, ↓zs_ok10, ↓zs_ok11, Option.toList_some, Option.toList_none, List.cons_append, List.nil_append, ↓reduceIte, Nat.reduceAdd, Nat.reduceLeDiff, true_and, and_true, Int.reduceEq, Int.reduceLT, Int.reduceLE, Int.reduceAdd, Int.reduceSub, Int.reduceMul, Int.reduceNeg, Nat.reduceEqDiff, Nat.reduceLT, Nat.reduceBEq, zsI_c, zsI_k, zsI_s, zsR_c, zsR_k, zsR_s, s1, hL2]
        exact h
      | some p =>
        rw [if_neg (fun z => by rw [hp] at z; cases z.2)] at h
        rw [hp] at hL'
        obtain ⟨c, c1, c2, c3⟩ := hP.2.2.2.2.2.2.2.1 p (by have := (pIx_lt _ _ hp).1; omega)
        have hL2 : R 4 s 7 = some (3, c) := by
          have := hL'.1
          rw [c1, rf_s (by omega), Int.toNat_natCast] at this
          exact this
        rw [k] at s1
        simp only [zh_46_0, zh_46_1, zh_46_4, zh_46_7, zh_46_8, zh_46_9, zh_46_10, zh_46_13, zh_46_15, zh_46_18, zh_46_19, zh_46_22n, zh_46_22, zh_46_25, zh_46_26, zh_46_28, zh_46_31n, zh_46_31, zh_46_34, zh_46_35, zh_46_38, zh_46_41, zh_46_44, zh_46_45, zh_46_48, zh_46_49, zwl_m1, zwl_0, zwl_1, zwl_2, zwl_3, zwl_4, zwl_5, zwl_6, zwl_7, zwl_8, zwl_10, zwl_15, zwl_24, zwl_32, zwl_33, zwl_40, zwl_41, zwl_42, zwl_43, zwl_45, zwl_47, zwl_48, zwl_52, zwl_56, zwl_57, zwl_59, zwl_60, zwl_61, zwl_63, zwl_64, zwl_66, zwl_67, zwl_68, zwl_70, zwl_75, zwl_77, zwl_80, zwl_82, zwl_84, zwl_88, zwl_89, zwl_97, zwl_104, zwl_110, zwl_112, zwl_114, zwl_118, zwl_123, zwl_125, zwl_126, zwl_159, zwl_160, zwl_200, zwl_255, zwl_480, zwl_960, zwl_3000, zs_kli, zs_klq, zs_kln, zs_wn, zs_wi, zs_wl, zs_wq, ↓zs_ok10, ↓zs_ok11, Option.toList_some, Option.toList_none, List.cons_append, List.nil_append, ↓reduceIte, Nat.reduceAdd, Nat.reduceLeDiff, true_and, and_true, Int.reduceEq, Int.reduceLT, Int.reduceLE, Int.reduceAdd, Int.reduceSub, Int.reduceMul, Int.reduceNeg, Nat.reduceEqDiff, Nat.reduceLT, Nat.reduceBEq, zsI_c, zsI_k, zsI_s, zsR_c, zsR_k, zsR_s, s1, hL2]
        exact hprev rfl h
    · rw [if_neg (fun z => k z.1)] at h
      have e1 : zw (P 34 s) = P 34 s := zw_i (by omega) (by omega)
      simp only [zh_46_0, zh_46_1, zh_46_4, zh_46_7, zh_46_8, zh_46_9, zh_46_10, zh_46_13, zh_46_15, zh_46_18, zh_46_19, zh_46_22n, zh_46_22, zh_46_25, zh_46_26, zh_46_28, zh_46_31n, zh_46_31, zh_46_34, zh_46_35, zh_46_38, zh_46_41, zh_46_44, zh_46_45, zh_46_48, zh_46_49, zwl_m1, zwl_0, zwl_1, zwl_2, zwl_3, zwl_4, zwl_5, zwl_6, zwl_7, zwl_8, zwl_10, zwl_15, zwl_24, zwl_32, zwl_33, zwl_40, zwl_41, zwl_42, zwl_43, zwl_45, zwl_47, zwl_48, zwl_52, zwl_56, zwl_57, zwl_59, zwl_60, zwl_61, zwl_63, zwl_64, zwl_66, zwl_67, zwl_68, zwl_70, zwl_75, zwl_77, zwl_80, zwl_82, zwl_84, zwl_88, zwl_89, zwl_97, zwl_104, zwl_110, zwl_112, zwl_114, zwl_118, zwl_123, zwl_125, zwl_126, zwl_159, zwl_160, zwl_200, zwl_255, zwl_480, zwl_960, zwl_3000, zs_kli, zs_klq, zs_kln, zs_wn, zs_wi, zs_wl, zs_wq, ↓zs_ok10, ↓zs_ok11, Option.toList_some, Option.toList_none, List.cons_append, List.nil_append, ↓reduceIte, Nat.reduceAdd, Nat.reduceLeDiff, true_and, and_true, Int.reduceEq, Int.reduceLT, Int.reduceLE, Int.reduceAdd, Int.reduceSub, Int.reduceMul, Int.reduceNeg, Nat.reduceEqDiff, Nat.reduceLT, Nat.reduceBEq, zsI_c, zsI_k, zsI_s, zsR_c, zsR_k, zsR_s, s1, e1, k]
      exact hprev rfl h
  · rw [q, if_pos rfl] at h
    rw [q]
    simp only [zh_46_0, zh_46_1, zh_46_4, zh_46_7, zh_46_8, zh_46_9, zh_46_10, zh_46_13, zh_46_15, zh_46_18, zh_46_19, zh_46_22n, zh_46_22, zh_46_25, zh_46_26, zh_46_27, zh_46_28, zh_46_31n, zh_46_31, zh_46_34, zh_46_35, zh_46_38, zh_46_41, zh_46_44, zh_46_45, zh_46_48, zh_46_49, zwl_m1, zwl_0, zwl_1, zwl_2, zwl_3, zwl_4, zwl_5, zwl_6, zwl_7, zwl_8, zwl_10, zwl_15, zwl_24, zwl_32, zwl_33, zwl_40, zwl_41, zwl_42, zwl_43, zwl_45, zwl_47, zwl_48, zwl_52, zwl_56, zwl_57, zwl_59, zwl_60, zwl_61, zwl_63, zwl_64, zwl_66, zwl_67, zwl_68, zwl_70, zwl_75, zwl_77, zwl_80, zwl_82, zwl_84, zwl_88, zwl_89, zwl_97, zwl_104, zwl_110, zwl_112, zwl_114, zwl_118, zwl_123, zwl_125, zwl_126, zwl_159, zwl_160, zwl_200, zwl_255, zwl_480, zwl_960, zwl_3000, zs_kli, zs_klq, zs_kln, zs_wn, zs_wi, zs_wl, zs_wq, ↓zs_ok10, ↓zs_ok11, Option.toList_some, Option.toList_none, List.cons_append, List.nil_append, ↓reduceIte, Nat.reduceAdd, Nat.reduceLeDiff, true_and, and_true, Int.reduceEq, Int.reduceLT, Int.reduceLE, Int.reduceAdd, Int.reduceSub, Int.reduceMul, Int.reduceNeg, Nat.reduceEqDiff, Nat.reduceLT, Nat.reduceBEq, zsI_c, zsI_k, zsI_s, zsR_c, zsR_k, zsR_s]
    exact h
/-! the reference's same -/
theorem endI_m {k : Int} (hk : knd k) (h : K (some (zi (endI k))) (I, R, al)) : zCp (d + 1) 108 [zi k] (I, R, al) K := by
  rw [zcp_108]
  rcases hk with rfl | rfl | rfl | rfl | rfl | rfl | rfl | rfl | rfl | rfl | rfl <;> (simp only [zh_108_0, zh_108_1, zh_108_3, zh_108_6, zh_108_7, zh_108_9, zh_108_12, zh_108_13, zh_108_15, zh_108_18, zh_108_19, zh_108_21, zh_108_24, zh_108_25, zh_108_27, zh_108_30, zh_108_31, zh_108_34, zh_108_35, zwl_m1, zwl_0, zwl_1, zwl_2, zwl_3, zwl_4, zwl_5, zwl_6, zwl_7, zwl_8, zwl_10, zwl_15, zwl_24, zwl_32, zwl_33, zwl_40, zwl_41, zwl_42, zwl_43, zwl_45, zwl_47, zwl_48, zwl_52, zwl_56, zwl_57, zwl_59, zwl_60, zwl_61, zwl_63, zwl_64, zwl_66, zwl_67, zwl_68, zwl_70, zwl_75, zwl_77, zwl_80, zwl_82, zwl_84, zwl_88, zwl_89, zwl_97, zwl_104, zwl_110, zwl_112, zwl_114, zwl_118, zwl_123, zwl_125, zwl_126, zwl_159, zwl_160, zwl_200, zwl_255, zwl_480, zwl_960, zwl_3000, zs_kli, zs_klq, zs_kln, zs_wn, zs_wi, zs_wl, zs_wq, ↓zs_ok10, ↓zs_ok11, Option.toList_some, Option.toList_none, List.cons_append, List.nil_append, ↓reduceIte, Nat.reduceAdd, Nat.reduceLeDiff, true_and, and_true, Int.reduceEq, Int.reduceLT, Int.reduceLE, Int.reduceAdd, Int.reduceSub, Int.reduceMul, Int.reduceNeg, Nat.reduceEqDiff, Nat.reduceLT, Nat.reduceBEq, zsI_c, zsI_k, zsI_s, zsR_c, zsR_k, zsR_s]; exact h)
theorem mb_loop (hK : Kon R) (hR : MRep I P) (hP : PWf P) (hO : POr P) (hsi : si = (s : Int)) (hs : s < nS P) (n : Nat) : ∀ z : Nat, z < n → z ≤ s → P 42 z = P 42 s → ∀ b : Nat, P 42 s = (b : Int) →
    Zgo d 107 14 [some (zq (some (11, 0))), some (zi si), some (zi (P 103 z)), some (zi (z : Int))] [] (I, R, al) K → Zgo d 107 14 [some (zq (some (11, 0))), some (zi si), some (zi (-1)), some (zi (P 45 b))] [] (I, R, al) K := by
  induction n with
  | zero => intro z hz; omega
  | succ n ih =>
    intro z hz hzs hzb b hb h
    have h80 := hP.1
    rcases (hO.1 z (by omega)).2.2 with ⟨z1, z2⟩ | ⟨q, z1, z2, z3, z4⟩
    · rw [hzb, hb, Int.toNat_natCast] at z2
      rw [z1] at h
      rw [z2]
      exact h
    · refine ih q (by omega) (by omega) (z4.trans hzb) b hb ?_
      rw [z1] at h
      generalize hqi : (q : Int) = qi at h
      generalize P 103 q = pq
      have e1 : zw qi = qi := zw_i (by omega) (by omega)
      have e2 : ¬ qi < 0 := by omega
      have e3 : zw si = si := zw_i (by omega) (by omega)
      have e4 : ¬ qi = si := by omega
      have hq : q < 160 := by omega
      have e5 : I 43 0 q = (z : Int) := (hR.1 _ _ (by decide) (by decide)).trans z3
      rw [zh_107_14]
      simp only [zh_107_0, zh_107_1, zh_107_2, zh_107_3, zh_107_6, zh_107_7, zh_107_10, zh_107_11, zh_107_12, zh_107_13, zh_107_15, zh_107_18, zh_107_19, zh_107_20, zh_107_23, zh_107_24, zh_107_25, zh_107_26, zh_107_29, zh_107_30, zh_107_31, zh_107_32, zh_107_35, zh_107_36, zwl_m1, zwl_0, zwl_1, zwl_2, zwl_3, zwl_4, zwl_5, zwl_6, zwl_7, zwl_8, zwl_10, zwl_15, zwl_24, zwl_32, zwl_33, zwl_40, zwl_41, zwl_42, zwl_43, zwl_45, zwl_47, zwl_48, zwl_52, zwl_56, zwl_57, zwl_59, zwl_60, zwl_61, zwl_63, zwl_64, zwl_66, zwl_67, zwl_68, zwl_70, zwl_75, zwl_77, zwl_80, zwl_82, zwl_84, zwl_88, zwl_89, zwl_97, zwl_104, zwl_110, zwl_112, zwl_114, zwl_118, zwl_123, zwl_125, zwl_126, zwl_159, zwl_160, zwl_200, zwl_255, zwl_480, zwl_960, zwl_3000, zs_kli, zs_klq, zs_kln, zs_wn, zs_wi, zs_wl, zs_wq, ↓zs_ok10, ↓zs_ok11, Option.toList_some, Option.toList_none, List.cons_append, List.nil_append, ↓reduceIte, Nat.reduceAdd, Nat.reduceLeDiff, true_and, and_true, Int.reduceEq, Int.reduceLT, Int.reduceLE, Int.reduceAdd, Int.reduceSub, Int.reduceMul, Int.reduceNeg, Nat.reduceEqDiff, Nat.reduceLT, Nat.reduceBEq, zsI_c, zsI_k, zsI_s, zsR_c, zsR_k, zsR_s, kon_11_0_1 hK, kon_11_0_7 hK, kon_11_0_8 hK, kon_11_0_9 hK, kon_11_0_11 hK, kon_11_0_12 hK, kon_11_0_13 hK, kon_11_0_14 hK, kon_11_0_15 hK, kon_11_0_16 hK, kon_11_0_17 hK, kon_11_0_18 hK, kon_11_0_19 hK, kon_11_0_20 hK, kon_11_0_21 hK, kon_11_0_23 hK, kon_11_0_24 hK, kon_11_0_25 hK, kon_11_0_26 hK, kon_11_0_27 hK, kon_11_0_29 hK, kon_11_0_30 hK, kon_11_0_31 hK, kon_11_0_32 hK, kon_11_0_33 hK, kon_11_0_34 hK, kon_11_0_42 hK, kon_11_0_43 hK, kon_11_0_44 hK, kon_11_0_45 hK, kon_11_0_46 hK, kon_11_0_47 hK, kon_11_0_48 hK, kon_11_0_49 hK, kon_11_0_54 hK, e1, e2, e3, e4, ↓za43 hqi.symm hq, e5]
      exact h
theorem mb_before (hK : Kon R) (hR : MRep I P) (hP : PWf P) (hO : POr P) (hsi : si = (s : Int)) (hs : s < nS P) (h : K (some (zi (P 103 s))) (I, R, al)) : zCp (d + 1) 107 [zq (some (11, 0)), zi si] (I, R, al) K := by
  have h80 := hP.1
  have h81 := hP.2.1
  obtain ⟨b, b1, b2, b3⟩ := (hP.2.2.2.2.2.1 s hs).2.1
  have hs1 : s < 160 := by omega
  have hb1 : b < 160 := by omega
  have e1 : I 42 0 s = (b : Int) := (hR.1 _ _ (by decide) (by decide)).trans b1
  have e2 : I 45 0 b = P 45 b := hR.1 _ _ (by decide) (by decide)
  rw [zcp_107]
  simp only [zh_107_0, zh_107_1, zh_107_2, zh_107_3, zh_107_6, zh_107_7, zh_107_10, zh_107_11, zh_107_12, zh_107_13, zh_107_15, zh_107_18, zh_107_19, zh_107_20, zh_107_23, zh_107_24, zh_107_25, zh_107_26, zh_107_29, zh_107_30, zh_107_31, zh_107_32, zh_107_35, zh_107_36, zwl_m1, zwl_0, zwl_1, zwl_2, zwl_3, zwl_4, zwl_5, zwl_6, zwl_7, zwl_8, zwl_10, zwl_15, zwl_24, zwl_32, zwl_33, zwl_40, zwl_41, zwl_42, zwl_43, zwl_45, zwl_47, zwl_48, zwl_52, zwl_56, zwl_57, zwl_59, zwl_60, zwl_61, zwl_63, zwl_64, zwl_66, zwl_67, zwl_68, zwl_70, zwl_75, zwl_77, zwl_80, zwl_82, zwl_84, zwl_88, zwl_89, zwl_97, zwl_104, zwl_110, zwl_112, zwl_114, zwl_118, zwl_123, zwl_125, zwl_126, zwl_159, zwl_160, zwl_200, zwl_255, zwl_480, zwl_960, zwl_3000, zs_kli, zs_klq, zs_kln, zs_wn, zs_wi, zs_wl, zs_wq, ↓zs_ok10, ↓zs_ok11, Option.toList_some, Option.toList_none, List.cons_append, List.nil_append, ↓reduceIte, Nat.reduceAdd, Nat.reduceLeDiff, true_and, and_true, Int.reduceEq, Int.reduceLT, Int.reduceLE, Int.reduceAdd, Int.reduceSub, Int.reduceMul, Int.reduceNeg, Nat.reduceEqDiff, Nat.reduceLT, Nat.reduceBEq, zsI_c, zsI_k, zsI_s, zsR_c, zsR_k, zsR_s, kon_11_0_1 hK, kon_11_0_7 hK, kon_11_0_8 hK, kon_11_0_9 hK, kon_11_0_11 hK, kon_11_0_12 hK, kon_11_0_13 hK, kon_11_0_14 hK, kon_11_0_15 hK, kon_11_0_16 hK, kon_11_0_17 hK, kon_11_0_18 hK, kon_11_0_19 hK, kon_11_0_20 hK, kon_11_0_21 hK, kon_11_0_23 hK, kon_11_0_24 hK, kon_11_0_25 hK, kon_11_0_26 hK, kon_11_0_27 hK, kon_11_0_29 hK, kon_11_0_30 hK, kon_11_0_31 hK, kon_11_0_32 hK, kon_11_0_33 hK, kon_11_0_34 hK, kon_11_0_42 hK, kon_11_0_43 hK, kon_11_0_44 hK, kon_11_0_45 hK, kon_11_0_46 hK, kon_11_0_47 hK, kon_11_0_48 hK, kon_11_0_49 hK, kon_11_0_54 hK, ↓za42 hsi hs1, e1, ↓za45 (rfl : (b : Int) = (b : Int)) hb1, e2]
  refine mb_loop hK hR hP hO hsi hs (s + 1) s (by omega) (Nat.le_refl _) rfl b b1 ?_
  generalize P 103 s = pq at h ⊢
  rw [← hsi, zh_107_14]
  have e3 : zw si = si := zw_i (by omega) (by omega)
  have e4 : ¬ si < 0 := by omega
  simp only [zh_107_0, zh_107_1, zh_107_2, zh_107_3, zh_107_6, zh_107_7, zh_107_10, zh_107_11, zh_107_12, zh_107_13, zh_107_15, zh_107_18, zh_107_19, zh_107_20, zh_107_23, zh_107_24, zh_107_25, zh_107_26, zh_107_29, zh_107_30, zh_107_31, zh_107_32, zh_107_35, zh_107_36, zwl_m1, zwl_0, zwl_1, zwl_2, zwl_3, zwl_4, zwl_5, zwl_6, zwl_7, zwl_8, zwl_10, zwl_15, zwl_24, zwl_32, zwl_33, zwl_40, zwl_41, zwl_42, zwl_43, zwl_45, zwl_47, zwl_48, zwl_52, zwl_56, zwl_57, zwl_59, zwl_60, zwl_61, zwl_63, zwl_64, zwl_66, zwl_67, zwl_68, zwl_70, zwl_75, zwl_77, zwl_80, zwl_82, zwl_84, zwl_88, zwl_89, zwl_97, zwl_104, zwl_110, zwl_112, zwl_114, zwl_118, zwl_123, zwl_125, zwl_126, zwl_159, zwl_160, zwl_200, zwl_255, zwl_480, zwl_960, zwl_3000, zs_kli, zs_klq, zs_kln, zs_wn, zs_wi, zs_wl, zs_wq, ↓zs_ok10, ↓zs_ok11, Option.toList_some, Option.toList_none, List.cons_append, List.nil_append, ↓reduceIte, Nat.reduceAdd, Nat.reduceLeDiff, true_and, and_true, Int.reduceEq, Int.reduceLT, Int.reduceLE, Int.reduceAdd, Int.reduceSub, Int.reduceMul, Int.reduceNeg, Nat.reduceEqDiff, Nat.reduceLT, Nat.reduceBEq, zsI_c, zsI_k, zsI_s, zsR_c, zsR_k, zsR_s, e3, e4]
  exact h
theorem fO_m (hP : PWf P) (hO : POr P) (hK : Kon R) (hR : MRep I P) (hsi : si = (s : Int)) (hs : s < nS P) (h : K (some (zi (fO P s))) (I, R, al)) : zCp (d + 3) 104 [zq (some (11, 0)), zi si] (I, R, al) K := by
  have h80 := hP.1
  have hw := hP.2.2.2.2.2.1 s hs
  obtain ⟨b, b1, b2, b3⟩ := hw.2.1
  have hbt : (P 42 s).toNat = b := by omega
  have hr := knd_r hw.1
  have hs1 : s < 160 := by omega
  have k1 : I 34 0 s = P 34 s := hR.1 34 s (by decide) (by decide)
  generalize hkk : P 34 s = k at k1
  have e1 : zw k = k := zw_i (by omega) (by omega)
  unfold fO outI at h
  rw [hbt, hkk] at h
  have hprev : K (some (zi (if 0 ≤ P 103 s then (if endI (P 34 (P 103 s).toNat) = 1 then 4 else 0) else 0))) (I, R, al) → Zgo (d + 2) 104 72 [some (zq (some (11, 0))), some (zi si), some (zi k), none] [] (I, R, al) K := fun h => by
    simp only [zh_104_0, zh_104_1, zh_104_4, zh_104_5, zh_104_6, zh_104_7, zh_104_8, zh_104_10, zh_104_13, zh_104_14, zh_104_16, zh_104_19, zh_104_20, zh_104_21, zh_104_23, zh_104_24, zh_104_25, zh_104_28, zh_104_31, zh_104_32, zh_104_34, zh_104_37, zh_104_38, zh_104_39, zh_104_41, zh_104_42, zh_104_43, zh_104_46, zh_104_49, zh_104_50, zh_104_51, zh_104_52, zh_104_54, zh_104_57, zh_104_58, zh_104_59, zh_104_62, zh_104_63, zh_104_64, zh_104_67, zh_104_70, zh_104_71, zh_104_72, zh_104_73, zh_104_74, zh_104_77, zh_104_78, zh_104_79, zh_104_82, zh_104_83, zh_104_86, zh_104_87, zh_104_90, zh_104_91, zh_104_94, zh_104_95, zh_104_96, zh_104_99, zh_104_102, zh_104_103, zh_104_106, zh_104_107, zwl_m1, zwl_0, zwl_1, zwl_2, zwl_3, zwl_4, zwl_5, zwl_6, zwl_7, zwl_8, zwl_10, zwl_15, zwl_24, zwl_32, zwl_33, zwl_40, zwl_41, zwl_42, zwl_43, zwl_45, zwl_47, zwl_48, zwl_52, zwl_56, zwl_57, zwl_59, zwl_60, zwl_61, zwl_63, zwl_64, zwl_66, zwl_67, zwl_68, zwl_70, zwl_75, zwl_77, zwl_80, zwl_82, zwl_84, zwl_88, zwl_89, zwl_97, zwl_104, zwl_110, zwl_112, zwl_114, zwl_118, zwl_123, zwl_125, zwl_126, zwl_159, zwl_160, zwl_200, zwl_255, zwl_480, zwl_960, zwl_3000, zs_kli, zs_klq, zs_kln, zs_wn, zs_wi, zs_wl, zs_wq, ↓zs_ok10, ↓zs_ok11, Option.toList_some, Option.toList_none, List.cons_append, List.nil_append, ↓reduceIte, Nat.reduceAdd, Nat.reduceLeDiff, true_and, and_true, Int.reduceEq, Int.reduceLT, Int.reduceLE, Int.reduceAdd, Int.reduceSub, Int.reduceMul, Int.reduceNeg, Nat.reduceEqDiff, Nat.reduceLT, Nat.reduceBEq, zsI_c, zsI_k, zsI_s, zsR_c, zsR_k, zsR_s]
    refine mb_before hK hR hP hO hsi hs ?_
    rcases (hO.1 s hs).2.2 with ⟨z1, _⟩ | ⟨p, z1, z2, z3, z4⟩
    · rw [if_neg (by omega)] at h
      rw [z1]
      simp only [zh_104_0, zh_104_1, zh_104_4, zh_104_5, zh_104_6, zh_104_7, zh_104_8, zh_104_10, zh_104_13, zh_104_14, zh_104_16, zh_104_19, zh_104_20, zh_104_21, zh_104_23, zh_104_24, zh_104_25, zh_104_28, zh_104_31, zh_104_32, zh_104_34, zh_104_37, zh_104_38, zh_104_39, zh_104_41, zh_104_42, zh_104_43, zh_104_46, zh_104_49, zh_104_50, zh_104_51, zh_104_52, zh_104_54, zh_104_57, zh_104_58, zh_104_59, zh_104_62, zh_104_63, zh_104_64, zh_104_67, zh_104_70, zh_104_71, zh_104_72, zh_104_73, zh_104_74, zh_104_77, zh_104_78, zh_104_79, zh_104_82, zh_104_83, zh_104_86, zh_104_87, zh_104_90, zh_104_91, zh_104_94, zh_104_95, zh_104_96, zh_104_99, zh_104_102, zh_104_103, zh_104_106, zh_104_107, zwl_m1, zwl_0, zwl_1, zwl_2, zwl_3, zwl_4, zwl_5, zwl_6, zwl_7, zwl_8, zwl_10, zwl_15, zwl_24, zwl_32, zwl_33, zwl_40, zwl_41, zwl_42, zwl_43, zwl_45, zwl_47, zwl_48, zwl_52, zwl_56, zwl_57, zwl_59, zwl_60, zwl_61, zwl_63, zwl_64, zwl_66, zwl_67, zwl_68, zwl_70, zwl_75, zwl_77, zwl_80, zwl_82, zwl_84, zwl_88, zwl_89, zwl_97, zwl_104, zwl_110, zwl_112, zwl_114, zwl_118, zwl_123, zwl_125, zwl_126, zwl_159, zwl_160, zwl_200, zwl_255, zwl_480, zwl_960, zwl_3000, zs_kli, zs_klq, zs_kln, zs_wn, zs_wi, zs_wl, zs_wq, ↓zs_ok10, ↓zs_ok11, Option.toList_some, Option.toList_none, List.cons_append, List.nil_append, ↓reduceIte, Nat.reduceAdd, Nat.reduceLeDiff, true_and, and_true, Int.reduceEq, Int.reduceLT, Int.reduceLE, Int.reduceAdd, Int.reduceSub, Int.reduceMul, Int.reduceNeg, Nat.reduceEqDiff, Nat.reduceLT, Nat.reduceBEq, zsI_c, zsI_k, zsI_s, zsR_c, zsR_k, zsR_s]
      exact h
    · rw [if_pos (by omega), z1, Int.toNat_natCast] at h
      rw [z1]
      generalize hpi : (p : Int) = pi
      have f1 : zw pi = pi := zw_i (by omega) (by omega)
      have f2 : ¬ pi < 0 := by omega
      have hp1 : p < 160 := by omega
      have f3 : I 34 0 p = P 34 p := hR.1 _ _ (by decide) (by decide)
      simp only [zh_104_0, zh_104_1, zh_104_4, zh_104_5, zh_104_6, zh_104_7, zh_104_8, zh_104_10, zh_104_13, zh_104_14, zh_104_16, zh_104_19, zh_104_20, zh_104_21, zh_104_23, zh_104_24, zh_104_25, zh_104_28, zh_104_31, zh_104_32, zh_104_34, zh_104_37, zh_104_38, zh_104_39, zh_104_41, zh_104_42, zh_104_43, zh_104_46, zh_104_49, zh_104_50, zh_104_51, zh_104_52, zh_104_54, zh_104_57, zh_104_58, zh_104_59, zh_104_62, zh_104_63, zh_104_64, zh_104_67, zh_104_70, zh_104_71, zh_104_72, zh_104_73, zh_104_74, zh_104_77, zh_104_78, zh_104_79, zh_104_82, zh_104_83, zh_104_86, zh_104_87, zh_104_90, zh_104_91, zh_104_94, zh_104_95, zh_104_96, zh_104_99, zh_104_102, zh_104_103, zh_104_106, zh_104_107, zwl_m1, zwl_0, zwl_1, zwl_2, zwl_3, zwl_4, zwl_5, zwl_6, zwl_7, zwl_8, zwl_10, zwl_15, zwl_24, zwl_32, zwl_33, zwl_40, zwl_41, zwl_42, zwl_43, zwl_45, zwl_47, zwl_48, zwl_52, zwl_56, zwl_57, zwl_59, zwl_60, zwl_61, zwl_63, zwl_64, zwl_66, zwl_67, zwl_68, zwl_70, zwl_75, zwl_77, zwl_80, zwl_82, zwl_84, zwl_88, zwl_89, zwl_97, zwl_104, zwl_110, zwl_112, zwl_114, zwl_118, zwl_123, zwl_125, zwl_126, zwl_159, zwl_160, zwl_200, zwl_255, zwl_480, zwl_960, zwl_3000, zs_kli, zs_klq, zs_kln, zs_wn, zs_wi, zs_wl, zs_wq, ↓zs_ok10, ↓zs_ok11, Option.toList_some, Option.toList_none, List.cons_append, List.nil_append, ↓reduceIte, Nat.reduceAdd, Nat.reduceLeDiff, true_and, and_true, Int.reduceEq, Int.reduceLT, Int.reduceLE, Int.reduceAdd, Int.reduceSub, Int.reduceMul, Int.reduceNeg, Nat.reduceEqDiff, Nat.reduceLT, Nat.reduceBEq, zsI_c, zsI_k, zsI_s, zsR_c, zsR_k, zsR_s, kon_11_0_1 hK, kon_11_0_7 hK, kon_11_0_8 hK, kon_11_0_9 hK, kon_11_0_11 hK, kon_11_0_12 hK, kon_11_0_13 hK, kon_11_0_14 hK, kon_11_0_15 hK, kon_11_0_16 hK, kon_11_0_17 hK, kon_11_0_18 hK, kon_11_0_19 hK, kon_11_0_20 hK, kon_11_0_21 hK, kon_11_0_23 hK, kon_11_0_24 hK, kon_11_0_25 hK, kon_11_0_26 hK, kon_11_0_27 hK, kon_11_0_29 hK, kon_11_0_30 hK, kon_11_0_31 hK, kon_11_0_32 hK, kon_11_0_33 hK, kon_11_0_34 hK, kon_11_0_42 hK, kon_11_0_43 hK, kon_11_0_44 hK, kon_11_0_45 hK, kon_11_0_46 hK, kon_11_0_47 hK, kon_11_0_48 hK, kon_11_0_49 hK, kon_11_0_54 hK, f1, f2, ↓za34 hpi.symm hp1, f3]
      refine endI_m (hP.2.2.2.2.2.1 p (by omega)).1 ?_
      rcases endI_01 (k := P 34 p) with e | e
      · rw [e, if_neg (by decide)] at h
        rw [e]
        simp only [zh_104_0, zh_104_1, zh_104_4, zh_104_5, zh_104_6, zh_104_7, zh_104_8, zh_104_10, zh_104_13, zh_104_14, zh_104_16, zh_104_19, zh_104_20, zh_104_21, zh_104_23, zh_104_24, zh_104_25, zh_104_28, zh_104_31, zh_104_32, zh_104_34, zh_104_37, zh_104_38, zh_104_39, zh_104_41, zh_104_42, zh_104_43, zh_104_46, zh_104_49, zh_104_50, zh_104_51, zh_104_52, zh_104_54, zh_104_57, zh_104_58, zh_104_59, zh_104_62, zh_104_63, zh_104_64, zh_104_67, zh_104_70, zh_104_71, zh_104_72, zh_104_73, zh_104_74, zh_104_77, zh_104_78, zh_104_79, zh_104_82, zh_104_83, zh_104_86, zh_104_87, zh_104_90, zh_104_91, zh_104_94, zh_104_95, zh_104_96, zh_104_99, zh_104_102, zh_104_103, zh_104_106, zh_104_107, zwl_m1, zwl_0, zwl_1, zwl_2, zwl_3, zwl_4, zwl_5, zwl_6, zwl_7, zwl_8, zwl_10, zwl_15, zwl_24, zwl_32, zwl_33, zwl_40, zwl_41, zwl_42, zwl_43, zwl_45, zwl_47, zwl_48, zwl_52, zwl_56, zwl_57, zwl_59, zwl_60, zwl_61, zwl_63, zwl_64, zwl_66, zwl_67, zwl_68, zwl_70, zwl_75, zwl_77, zwl_80, zwl_82, zwl_84, zwl_88, zwl_89, zwl_97, zwl_104, zwl_110, zwl_112, zwl_114, zwl_118, zwl_123, zwl_125, zwl_126, zwl_159, zwl_160, zwl_200, zwl_255, zwl_480, zwl_960, zwl_3000, zs_kli, zs_klq, zs_kln, zs_wn, zs_wi, zs_wl, zs_wq, ↓zs_ok10, ↓zs_ok11, Option.toList_some, Option.toList_none, List.cons_append, List.nil_append, ↓reduceIte, Nat.reduceAdd, Nat.reduceLeDiff, true_and, and_true, Int.reduceEq, Int.reduceLT, Int.reduceLE, Int.reduceAdd, Int.reduceSub, Int.reduceMul, Int.reduceNeg, Nat.reduceEqDiff, Nat.reduceLT, Nat.reduceBEq, zsI_c, zsI_k, zsI_s, zsR_c, zsR_k, zsR_s]
        exact h
      · rw [e, if_pos rfl] at h
        rw [e]
        simp only [zh_104_0, zh_104_1, zh_104_4, zh_104_5, zh_104_6, zh_104_7, zh_104_8, zh_104_10, zh_104_13, zh_104_14, zh_104_16, zh_104_19, zh_104_20, zh_104_21, zh_104_23, zh_104_24, zh_104_25, zh_104_28, zh_104_31, zh_104_32, zh_104_34, zh_104_37, zh_104_38, zh_104_39, zh_104_41, zh_104_42, zh_104_43, zh_104_46, zh_104_49, zh_104_50, zh_104_51, zh_104_52, zh_104_54, zh_104_57, zh_104_58, zh_104_59, zh_104_62, zh_104_63, zh_104_64, zh_104_67, zh_104_70, zh_104_71, zh_104_72, zh_104_73, zh_104_74, zh_104_77, zh_104_78, zh_104_79, zh_104_82, zh_104_83, zh_104_86, zh_104_87, zh_104_90, zh_104_91, zh_104_94, zh_104_95, zh_104_96, zh_104_99, zh_104_102, zh_104_103, zh_104_106, zh_104_107, zwl_m1, zwl_0, zwl_1, zwl_2, zwl_3, zwl_4, zwl_5, zwl_6, zwl_7, zwl_8, zwl_10, zwl_15, zwl_24, zwl_32, zwl_33, zwl_40, zwl_41, zwl_42, zwl_43, zwl_45, zwl_47, zwl_48, zwl_52, zwl_56, zwl_57, zwl_59, zwl_60, zwl_61, zwl_63, zwl_64, zwl_66, zwl_67, zwl_68, zwl_70, zwl_75, zwl_77, zwl_80, zwl_82, zwl_84, zwl_88, zwl_89, zwl_97, zwl_104, zwl_110, zwl_112, zwl_114, zwl_118, zwl_123, zwl_125, zwl_126, zwl_159, zwl_160, zwl_200, zwl_255, zwl_480, zwl_960, zwl_3000, zs_kli, zs_klq, zs_kln, zs_wn, zs_wi, zs_wl, zs_wq, ↓zs_ok10, ↓zs_ok11, Option.toList_some, Option.toList_none, List.cons_append, List.nil_append, ↓reduceIte, Nat.reduceAdd, Nat.reduceLeDiff, true_and, and_true, Int.reduceEq, Int.reduceLT, Int.reduceLE, Int.reduceAdd, Int.reduceSub, Int.reduceMul, Int.reduceNeg, Nat.reduceEqDiff, Nat.reduceLT, Nat.reduceBEq, zsI_c, zsI_k, zsI_s, zsR_c, zsR_k, zsR_s]
        exact h
  have hP2 : (if k = 80 ∧ pIx P (P 35 s) (nP P) = none then (3 : Int) else if 0 ≤ P 103 s then (if endI (P 34 (P 103 s).toNat) = 1 then 4 else 0) else 0) = (if k = 80 ∧ pIx P (P 35 s) (nP P) = none then (3 : Int) else if 0 ≤ P 103 s then (if endI (P 34 (P 103 s).toNat) = 1 then 4 else 0) else 0) → K (some (zi (if k = 80 ∧ pIx P (P 35 s) (nP P) = none then (3 : Int) else if 0 ≤ P 103 s then (if endI (P 34 (P 103 s).toNat) = 1 then 4 else 0) else 0))) (I, R, al) → Zgo (d + 2) 104 51 [some (zq (some (11, 0))), some (zi si), some (zi k), none] [] (I, R, al) K := fun _ h => by
    by_cases q80 : k = 80
    · have w2 := hw.2.2.2.2.2.2.1 (hkk.trans q80)
      have f3 : I 35 0 s = P 35 s := hR.1 _ _ (by decide) (by decide)
      rw [q80] at hprev ⊢
      simp only [zh_104_0, zh_104_1, zh_104_4, zh_104_5, zh_104_6, zh_104_7, zh_104_8, zh_104_10, zh_104_13, zh_104_14, zh_104_16, zh_104_19, zh_104_20, zh_104_21, zh_104_23, zh_104_24, zh_104_25, zh_104_28, zh_104_31, zh_104_32, zh_104_34, zh_104_37, zh_104_38, zh_104_39, zh_104_41, zh_104_42, zh_104_43, zh_104_46, zh_104_49, zh_104_50, zh_104_51, zh_104_52, zh_104_54, zh_104_57, zh_104_58, zh_104_59, zh_104_62, zh_104_63, zh_104_64, zh_104_67, zh_104_70, zh_104_71, zh_104_73, zh_104_74, zh_104_77, zh_104_78, zh_104_79, zh_104_82, zh_104_83, zh_104_86, zh_104_87, zh_104_90, zh_104_91, zh_104_94, zh_104_95, zh_104_96, zh_104_99, zh_104_102, zh_104_103, zh_104_106, zh_104_107, zwl_m1, zwl_0, zwl_1, zwl_2, zwl_3, zwl_4, zwl_5, zwl_6, zwl_7, zwl_8, zwl_10, zwl_15, zwl_24, zwl_32, zwl_33, zwl_40, zwl_41, zwl_42, zwl_43, zwl_45, zwl_47, zwl_48, zwl_52, zwl_56, zwl_57, zwl_59, zwl_60, zwl_61, zwl_63, zwl_64, zwl_66, zwl_67, zwl_68, zwl_70, zwl_75, zwl_77, zwl_80, zwl_82, zwl_84, zwl_88, zwl_89, zwl_97, zwl_104, zwl_110, zwl_112, zwl_114, zwl_118, zwl_123, zwl_125, zwl_126, zwl_159, zwl_160, zwl_200, zwl_255, zwl_480, zwl_960, zwl_3000, zs_kli, zs_klq, zs_kln, zs_wn, zs_wi, zs_wl, zs_wq, ↓zs_ok10, ↓zs_ok11, Option.toList_some, Option.toList_none, List.cons_append, List.nil_append, ↓reduceIte, Nat.reduceAdd, Nat.reduceLeDiff, true_and, and_true, Int.reduceEq, Int.reduceLT, Int.reduceLE, Int.reduceAdd, Int.reduceSub, Int.reduceMul, Int.reduceNeg, Nat.reduceEqDiff, Nat.reduceLT, Nat.reduceBEq, zsI_c, zsI_k, zsI_s, zsR_c, zsR_k, zsR_s, kon_11_0_1 hK, kon_11_0_7 hK, kon_11_0_8 hK, kon_11_0_9 hK, kon_11_0_11 hK, kon_11_0_12 hK, kon_11_0_13 hK, kon_11_0_14 hK, kon_11_0_15 hK, kon_11_0_16 hK, kon_11_0_17 hK, kon_11_0_18 hK, kon_11_0_19 hK, kon_11_0_20 hK, kon_11_0_21 hK, kon_11_0_23 hK, kon_11_0_24 hK, kon_11_0_25 hK, kon_11_0_26 hK, kon_11_0_27 hK, kon_11_0_29 hK, kon_11_0_30 hK, kon_11_0_31 hK, kon_11_0_32 hK, kon_11_0_33 hK, kon_11_0_34 hK, kon_11_0_42 hK, kon_11_0_43 hK, kon_11_0_44 hK, kon_11_0_45 hK, kon_11_0_46 hK, kon_11_0_47 hK, kon_11_0_48 hK, kon_11_0_49 hK, kon_11_0_54 hK, ↓za35 hsi hs1, f3]
      refine mp_procedureOf hK hR hP (zw_i (by omega) (by omega)) ?_
      cases hp : pIx P (P 35 s) (nP P) with
      | none =>
        rw [if_pos ⟨q80, hp⟩] at h
        simp only [zh_104_0, zh_104_1, zh_104_4, zh_104_5, zh_104_6, zh_104_7, zh_104_8, zh_104_10, zh_104_13, zh_104_14, zh_104_16, zh_104_19, zh_104_20, zh_104_21, zh_104_23, zh_104_24, zh_104_25, zh_104_28, zh_104_31, zh_104_32, zh_104_34, zh_104_37, zh_104_38, zh_104_39, zh_104_41, zh_104_42, zh_104_43, zh_104_46, zh_104_49, zh_104_50, zh_104_51, zh_104_52, zh_104_54, zh_104_57, zh_104_58, zh_104_59, zh_104_62, zh_104_63, zh_104_64, zh_104_67, zh_104_70, zh_104_71, zh_104_73, zh_104_74, zh_104_77, zh_104_78, zh_104_79, zh_104_82, zh_104_83, zh_104_86, zh_104_87, zh_104_90, zh_104_91, zh_104_94, zh_104_95, zh_104_96, zh_104_99, zh_104_102, zh_104_103, zh_104_106, zh_104_107, zwl_m1, zwl_0, zwl_1, zwl_2, zwl_3, zwl_4, zwl_5, zwl_6, zwl_7, zwl_8, zwl_10, zwl_15, zwl_24, zwl_32, zwl_33, zwl_40, zwl_41, zwl_42, zwl_43, zwl_45, zwl_47, zwl_48, zwl_52, zwl_56, zwl_57, zwl_59, zwl_60, zwl_61, zwl_63, zwl_64, zwl_66, zwl_67, zwl_68, zwl_70, zwl_75, zwl_77, zwl_80, zwl_82, zwl_84, zwl_88, zwl_89, zwl_97, zwl_104, zwl_110, zwl_112, zwl_114, zwl_118, zwl_123, zwl_125, zwl_126, zwl_159, zwl_160, zwl_200, zwl_255, zwl_480, zwl_960, zwl_3000, zs_kli, zs_klq, zs_kln, zs_wn, zs_wi, zs_wl, zs_wq, ↓zs_ok10, ↓zs_ok11, Option.toList_some, Option.toList_none, List.cons_append, List.nil_append, ↓reduceIte, Nat.reduceAdd, Nat.reduceLeDiff, true_and, and_true, Int.reduceEq, Int.reduceLT, Int.reduceLE, Int.reduceAdd, Int.reduceSub, Int.reduceMul, Int.reduceNeg, Nat.reduceEqDiff, Nat.reduceLT, Nat.reduceBEq, zsI_c, zsI_k, zsI_s, zsR_c, zsR_k, zsR_s]
        exact h
      | some p =>
        rw [if_neg (fun z => by rw [hp] at z; cases z.2)] at h
        have hp3 := (pIx_lt _ _ hp).1
        have h83 := hP.2.2.2.1
        show Zgo (d + 2) 104 67 [some (zq (some (11, 0))), some (zi si), some (zi 80), none] ((some (zi (p : Int))).toList ++ []) (I, R, al) K
        generalize hpi : (p : Int) = pi
        have f1 : zw pi = pi := zw_i (by omega) (by omega)
        have f2 : ¬ pi < 0 := by omega
        simp only [zh_104_0, zh_104_1, zh_104_4, zh_104_5, zh_104_6, zh_104_7, zh_104_8, zh_104_10, zh_104_13, zh_104_14, zh_104_16, zh_104_19, zh_104_20, zh_104_21, zh_104_23, zh_104_24, zh_104_25, zh_104_28, zh_104_31, zh_104_32, zh_104_34, zh_104_37, zh_104_38, zh_104_39, zh_104_41, zh_104_42, zh_104_43, zh_104_46, zh_104_49, zh_104_50, zh_104_51, zh_104_52, zh_104_54, zh_104_57, zh_104_58, zh_104_59, zh_104_62, zh_104_63, zh_104_64, zh_104_67, zh_104_70, zh_104_71, zh_104_73, zh_104_74, zh_104_77, zh_104_78, zh_104_79, zh_104_82, zh_104_83, zh_104_86, zh_104_87, zh_104_90, zh_104_91, zh_104_94, zh_104_95, zh_104_96, zh_104_99, zh_104_102, zh_104_103, zh_104_106, zh_104_107, zwl_m1, zwl_0, zwl_1, zwl_2, zwl_3, zwl_4, zwl_5, zwl_6, zwl_7, zwl_8, zwl_10, zwl_15, zwl_24, zwl_32, zwl_33, zwl_40, zwl_41, zwl_42, zwl_43, zwl_45, zwl_47, zwl_48, zwl_52, zwl_56, zwl_57, zwl_59, zwl_60, zwl_61, zwl_63, zwl_64, zwl_66, zwl_67, zwl_68, zwl_70, zwl_75, zwl_77, zwl_80, zwl_82, zwl_84, zwl_88, zwl_89, zwl_97, zwl_104, zwl_110, zwl_112, zwl_114, zwl_118, zwl_123, zwl_125, zwl_126, zwl_159, zwl_160, zwl_200, zwl_255, zwl_480, zwl_960, zwl_3000, zs_kli, zs_klq, zs_kln, zs_wn, zs_wi, zs_wl, zs_wq, ↓zs_ok10, ↓zs_ok11, Option.toList_some, Option.toList_none, List.cons_append, List.nil_append, ↓reduceIte, Nat.reduceAdd, Nat.reduceLeDiff, true_and, and_true, Int.reduceEq, Int.reduceLT, Int.reduceLE, Int.reduceAdd, Int.reduceSub, Int.reduceMul, Int.reduceNeg, Nat.reduceEqDiff, Nat.reduceLT, Nat.reduceBEq, zsI_c, zsI_k, zsI_s, zsR_c, zsR_k, zsR_s, f1, f2]
        exact hprev h
    · rw [if_neg (fun z => q80 z.1)] at h
      simp only [zh_104_0, zh_104_1, zh_104_4, zh_104_5, zh_104_6, zh_104_7, zh_104_8, zh_104_10, zh_104_13, zh_104_14, zh_104_16, zh_104_19, zh_104_20, zh_104_21, zh_104_23, zh_104_24, zh_104_25, zh_104_28, zh_104_31, zh_104_32, zh_104_34, zh_104_37, zh_104_38, zh_104_39, zh_104_41, zh_104_42, zh_104_43, zh_104_46, zh_104_49, zh_104_50, zh_104_51, zh_104_52, zh_104_54, zh_104_57, zh_104_58, zh_104_59, zh_104_62, zh_104_63, zh_104_64, zh_104_67, zh_104_70, zh_104_71, zh_104_73, zh_104_74, zh_104_77, zh_104_78, zh_104_79, zh_104_82, zh_104_83, zh_104_86, zh_104_87, zh_104_90, zh_104_91, zh_104_94, zh_104_95, zh_104_96, zh_104_99, zh_104_102, zh_104_103, zh_104_106, zh_104_107, zwl_m1, zwl_0, zwl_1, zwl_2, zwl_3, zwl_4, zwl_5, zwl_6, zwl_7, zwl_8, zwl_10, zwl_15, zwl_24, zwl_32, zwl_33, zwl_40, zwl_41, zwl_42, zwl_43, zwl_45, zwl_47, zwl_48, zwl_52, zwl_56, zwl_57, zwl_59, zwl_60, zwl_61, zwl_63, zwl_64, zwl_66, zwl_67, zwl_68, zwl_70, zwl_75, zwl_77, zwl_80, zwl_82, zwl_84, zwl_88, zwl_89, zwl_97, zwl_104, zwl_110, zwl_112, zwl_114, zwl_118, zwl_123, zwl_125, zwl_126, zwl_159, zwl_160, zwl_200, zwl_255, zwl_480, zwl_960, zwl_3000, zs_kli, zs_klq, zs_kln, zs_wn, zs_wi, zs_wl, zs_wq, ↓zs_ok10, ↓zs_ok11, Option.toList_some, Option.toList_none, List.cons_append, List.nil_append, ↓reduceIte, Nat.reduceAdd, Nat.reduceLeDiff, true_and, and_true, Int.reduceEq, Int.reduceLT, Int.reduceLE, Int.reduceAdd, Int.reduceSub, Int.reduceMul, Int.reduceNeg, Nat.reduceEqDiff, Nat.reduceLT, Nat.reduceBEq, zsI_c, zsI_k, zsI_s, zsR_c, zsR_k, zsR_s, e1, q80]
      exact hprev h
  rw [zcp_104]
  by_cases q6 : k = 66 ∨ k = 67
  · rw [if_pos q6] at h
    have hz : (k = 66 → Zgo (d + 2) 104 19 [some (zq (some (11, 0))), some (zi si), some (zi k), none] [] (I, R, al) K) ∧ (k = 67 → Zgo (d + 2) 104 19 [some (zq (some (11, 0))), some (zi si), some (zi k), none] [] (I, R, al) K) := by
      have hz : Zgo (d + 2) 104 19 [some (zq (some (11, 0))), some (zi si), some (zi k), none] [] (I, R, al) K := by
        simp only [zh_104_0, zh_104_1, zh_104_4, zh_104_5, zh_104_6, zh_104_7, zh_104_8, zh_104_10, zh_104_13, zh_104_14, zh_104_16, zh_104_19, zh_104_20, zh_104_21, zh_104_23, zh_104_24, zh_104_25, zh_104_28, zh_104_31, zh_104_32, zh_104_34, zh_104_37, zh_104_38, zh_104_39, zh_104_41, zh_104_42, zh_104_43, zh_104_46, zh_104_49, zh_104_50, zh_104_52, zh_104_54, zh_104_57, zh_104_58, zh_104_59, zh_104_62, zh_104_63, zh_104_64, zh_104_67, zh_104_70, zh_104_71, zh_104_72, zh_104_73, zh_104_74, zh_104_77, zh_104_78, zh_104_79, zh_104_82, zh_104_83, zh_104_86, zh_104_87, zh_104_90, zh_104_91, zh_104_94, zh_104_95, zh_104_96, zh_104_99, zh_104_102, zh_104_103, zh_104_106, zh_104_107, zwl_m1, zwl_0, zwl_1, zwl_2, zwl_3, zwl_4, zwl_5, zwl_6, zwl_7, zwl_8, zwl_10, zwl_15, zwl_24, zwl_32, zwl_33, zwl_40, zwl_41, zwl_42, zwl_43, zwl_45, zwl_47, zwl_48, zwl_52, zwl_56, zwl_57, zwl_59, zwl_60, zwl_61, zwl_63, zwl_64, zwl_66, zwl_67, zwl_68, zwl_70, zwl_75, zwl_77, zwl_80, zwl_82, zwl_84, zwl_88, zwl_89, zwl_97, zwl_104, zwl_110, zwl_112, zwl_114, zwl_118, zwl_123, zwl_125, zwl_126, zwl_159, zwl_160, zwl_200, zwl_255, zwl_480, zwl_960, zwl_3000, zs_kli, zs_klq, zs_kln, zs_wn, zs_wi, zs_wl, zs_wq, ↓zs_ok10, ↓zs_ok11, Option.toList_some, Option.toList_none, List.cons_append, List.nil_append, ↓reduceIte, Nat.reduceAdd, Nat.reduceLeDiff, true_and, and_true, Int.reduceEq, Int.reduceLT, Int.reduceLE, Int.reduceAdd, Int.reduceSub, Int.reduceMul, Int.reduceNeg, Nat.reduceEqDiff, Nat.reduceLT, Nat.reduceBEq, zsI_c, zsI_k, zsI_s, zsR_c, zsR_k, zsR_s]
        refine ma_around hK hR hP (by decide +kernel) (by decide +kernel) (by decide +kernel) hsi hs b1 b2 ?_
        have hk88 : ¬ k = 88 := by omega
        rcases lp_ok hP _ b b2 rfl with ⟨l1, l2⟩ | ⟨l1, l2⟩
        · rw [l1, if_pos rfl, if_pos rfl] at h
          rw [l2]
          simp only [zh_104_0, zh_104_1, zh_104_4, zh_104_5, zh_104_6, zh_104_7, zh_104_8, zh_104_10, zh_104_13, zh_104_14, zh_104_16, zh_104_19, zh_104_20, zh_104_21, zh_104_23, zh_104_24, zh_104_25, zh_104_28, zh_104_31, zh_104_32, zh_104_34, zh_104_37, zh_104_38, zh_104_39, zh_104_41, zh_104_42, zh_104_43, zh_104_46, zh_104_49, zh_104_50, zh_104_52, zh_104_54, zh_104_57, zh_104_58, zh_104_59, zh_104_62, zh_104_63, zh_104_64, zh_104_67, zh_104_70, zh_104_71, zh_104_72, zh_104_73, zh_104_74, zh_104_77, zh_104_78, zh_104_79, zh_104_82, zh_104_83, zh_104_86, zh_104_87, zh_104_90, zh_104_91, zh_104_94, zh_104_95, zh_104_96, zh_104_99, zh_104_102, zh_104_103, zh_104_106, zh_104_107, zwl_m1, zwl_0, zwl_1, zwl_2, zwl_3, zwl_4, zwl_5, zwl_6, zwl_7, zwl_8, zwl_10, zwl_15, zwl_24, zwl_32, zwl_33, zwl_40, zwl_41, zwl_42, zwl_43, zwl_45, zwl_47, zwl_48, zwl_52, zwl_56, zwl_57, zwl_59, zwl_60, zwl_61, zwl_63, zwl_64, zwl_66, zwl_67, zwl_68, zwl_70, zwl_75, zwl_77, zwl_80, zwl_82, zwl_84, zwl_88, zwl_89, zwl_97, zwl_104, zwl_110, zwl_112, zwl_114, zwl_118, zwl_123, zwl_125, zwl_126, zwl_159, zwl_160, zwl_200, zwl_255, zwl_480, zwl_960, zwl_3000, zs_kli, zs_klq, zs_kln, zs_wn, zs_wi, zs_wl, zs_wq, ↓zs_ok10, ↓zs_ok11, Option.toList_some, Option.toList_none, List.cons_append, List.nil_append, ↓reduceIte, Nat.reduceAdd, Nat.reduceLeDiff, true_and, and_true, Int.reduceEq, Int.reduceLT, Int.reduceLE, Int.reduceAdd, Int.reduceSub, Int.reduceMul, Int.reduceNeg, Nat.reduceEqDiff, Nat.reduceLT, Nat.reduceBEq, zsI_c, zsI_k, zsI_s, zsR_c, zsR_k, zsR_s]
          exact h
        · rw [l1, if_neg (show ¬ (1 : Int) = 0 by decide), if_neg (show ¬ (0 : Int) = 1 by decide)] at h
          generalize hx : arG P 64 0 0 (P 100 b).toNat b = x at l2
          have hx2 : x < 80 := by
            have : ∀ n b, b < nB P → arG P 64 0 0 n b < nB P := fun n => by
              induction n with
              | zero => intro b hb; show (-1 : Int) < _; omega
              | succ n ih =>
                intro b hb
                rw [arG]
                split
                · omega
                · split
                  · omega
                  · rcases (hP.2.2.2.2.2.2.1 b hb).2 with ⟨z, _⟩ | ⟨o', h', z1, _, z2, _, z3, _⟩
                    · omega
                    · rw [z1, Int.toNat_natCast, z2, Int.toNat_natCast]
                      exact ih h' z3
            have := this (P 100 b).toNat b b2
            have h81 := hP.2.1
            omega
          have f1 : zw x = x := zw_i (by omega) (by omega)
          have f2 : ¬ x < 0 := by omega
          simp only [zh_104_0, zh_104_1, zh_104_4, zh_104_5, zh_104_6, zh_104_7, zh_104_8, zh_104_10, zh_104_13, zh_104_14, zh_104_16, zh_104_19, zh_104_20, zh_104_21, zh_104_23, zh_104_24, zh_104_25, zh_104_28, zh_104_31, zh_104_32, zh_104_34, zh_104_37, zh_104_38, zh_104_39, zh_104_41, zh_104_42, zh_104_43, zh_104_46, zh_104_49, zh_104_50, zh_104_52, zh_104_54, zh_104_57, zh_104_58, zh_104_59, zh_104_62, zh_104_63, zh_104_64, zh_104_67, zh_104_70, zh_104_71, zh_104_72, zh_104_73, zh_104_74, zh_104_77, zh_104_78, zh_104_79, zh_104_82, zh_104_83, zh_104_86, zh_104_87, zh_104_90, zh_104_91, zh_104_94, zh_104_95, zh_104_96, zh_104_99, zh_104_102, zh_104_103, zh_104_106, zh_104_107, zwl_m1, zwl_0, zwl_1, zwl_2, zwl_3, zwl_4, zwl_5, zwl_6, zwl_7, zwl_8, zwl_10, zwl_15, zwl_24, zwl_32, zwl_33, zwl_40, zwl_41, zwl_42, zwl_43, zwl_45, zwl_47, zwl_48, zwl_52, zwl_56, zwl_57, zwl_59, zwl_60, zwl_61, zwl_63, zwl_64, zwl_66, zwl_67, zwl_68, zwl_70, zwl_75, zwl_77, zwl_80, zwl_82, zwl_84, zwl_88, zwl_89, zwl_97, zwl_104, zwl_110, zwl_112, zwl_114, zwl_118, zwl_123, zwl_125, zwl_126, zwl_159, zwl_160, zwl_200, zwl_255, zwl_480, zwl_960, zwl_3000, zs_kli, zs_klq, zs_kln, zs_wn, zs_wi, zs_wl, zs_wq, ↓zs_ok10, ↓zs_ok11, Option.toList_some, Option.toList_none, List.cons_append, List.nil_append, ↓reduceIte, Nat.reduceAdd, Nat.reduceLeDiff, true_and, and_true, Int.reduceEq, Int.reduceLT, Int.reduceLE, Int.reduceAdd, Int.reduceSub, Int.reduceMul, Int.reduceNeg, Nat.reduceEqDiff, Nat.reduceLT, Nat.reduceBEq, zsI_c, zsI_k, zsI_s, zsR_c, zsR_k, zsR_s, f1, f2, e1, hk88]
          exact hP2 rfl h
      exact ⟨fun _ => hz, fun _ => hz⟩
    rcases q6 with q6 | q6
    · have := hz.1 q6
      rw [q6] at k1 this
      simp only [zh_104_0, zh_104_1, zh_104_4, zh_104_5, zh_104_6, zh_104_7, zh_104_8, zh_104_10, zh_104_13, zh_104_14, zh_104_16, zh_104_20, zh_104_21, zh_104_23, zh_104_24, zh_104_25, zh_104_28, zh_104_31, zh_104_32, zh_104_34, zh_104_37, zh_104_38, zh_104_39, zh_104_41, zh_104_42, zh_104_43, zh_104_46, zh_104_49, zh_104_50, zh_104_51, zh_104_52, zh_104_54, zh_104_57, zh_104_58, zh_104_59, zh_104_62, zh_104_63, zh_104_64, zh_104_67, zh_104_70, zh_104_71, zh_104_72, zh_104_73, zh_104_74, zh_104_77, zh_104_78, zh_104_79, zh_104_82, zh_104_83, zh_104_86, zh_104_87, zh_104_90, zh_104_91, zh_104_94, zh_104_95, zh_104_96, zh_104_99, zh_104_102, zh_104_103, zh_104_106, zh_104_107, zwl_m1, zwl_0, zwl_1, zwl_2, zwl_3, zwl_4, zwl_5, zwl_6, zwl_7, zwl_8, zwl_10, zwl_15, zwl_24, zwl_32, zwl_33, zwl_40, zwl_41, zwl_42, zwl_43, zwl_45, zwl_47, zwl_48, zwl_52, zwl_56, zwl_57, zwl_59, zwl_60, zwl_61, zwl_63, zwl_64, zwl_66, zwl_67, zwl_68, zwl_70, zwl_75, zwl_77, zwl_80, zwl_82, zwl_84, zwl_88, zwl_89, zwl_97, zwl_104, zwl_110, zwl_112, zwl_114, zwl_118, zwl_123, zwl_125, zwl_126, zwl_159, zwl_160, zwl_200, zwl_255, zwl_480, zwl_960, zwl_3000, zs_kli, zs_klq, zs_kln, zs_wn, zs_wi, zs_wl, zs_wq, ↓zs_ok10, ↓zs_ok11, Option.toList_some, Option.toList_none, List.cons_append, List.nil_append, ↓reduceIte, Nat.reduceAdd, Nat.reduceLeDiff, true_and, and_true, Int.reduceEq, Int.reduceLT, Int.reduceLE, Int.reduceAdd, Int.reduceSub, Int.reduceMul, Int.reduceNeg, Nat.reduceEqDiff, Nat.reduceLT, Nat.reduceBEq, zsI_c, zsI_k, zsI_s, zsR_c, zsR_k, zsR_s, kon_11_0_1 hK, kon_11_0_7 hK, kon_11_0_8 hK, kon_11_0_9 hK, kon_11_0_11 hK, kon_11_0_12 hK, kon_11_0_13 hK, kon_11_0_14 hK, kon_11_0_15 hK, kon_11_0_16 hK, kon_11_0_17 hK, kon_11_0_18 hK, kon_11_0_19 hK, kon_11_0_20 hK, kon_11_0_21 hK, kon_11_0_23 hK, kon_11_0_24 hK, kon_11_0_25 hK, kon_11_0_26 hK, kon_11_0_27 hK, kon_11_0_29 hK, kon_11_0_30 hK, kon_11_0_31 hK, kon_11_0_32 hK, kon_11_0_33 hK, kon_11_0_34 hK, kon_11_0_42 hK, kon_11_0_43 hK, kon_11_0_44 hK, kon_11_0_45 hK, kon_11_0_46 hK, kon_11_0_47 hK, kon_11_0_48 hK, kon_11_0_49 hK, kon_11_0_54 hK, ↓za34 hsi hs1, k1]
      exact this
    · have := hz.2 q6
      rw [q6] at k1 this
      simp only [zh_104_0, zh_104_1, zh_104_4, zh_104_5, zh_104_6, zh_104_7, zh_104_8, zh_104_10, zh_104_13, zh_104_14, zh_104_16, zh_104_20, zh_104_21, zh_104_23, zh_104_24, zh_104_25, zh_104_28, zh_104_31, zh_104_32, zh_104_34, zh_104_37, zh_104_38, zh_104_39, zh_104_41, zh_104_42, zh_104_43, zh_104_46, zh_104_49, zh_104_50, zh_104_51, zh_104_52, zh_104_54, zh_104_57, zh_104_58, zh_104_59, zh_104_62, zh_104_63, zh_104_64, zh_104_67, zh_104_70, zh_104_71, zh_104_72, zh_104_73, zh_104_74, zh_104_77, zh_104_78, zh_104_79, zh_104_82, zh_104_83, zh_104_86, zh_104_87, zh_104_90, zh_104_91, zh_104_94, zh_104_95, zh_104_96, zh_104_99, zh_104_102, zh_104_103, zh_104_106, zh_104_107, zwl_m1, zwl_0, zwl_1, zwl_2, zwl_3, zwl_4, zwl_5, zwl_6, zwl_7, zwl_8, zwl_10, zwl_15, zwl_24, zwl_32, zwl_33, zwl_40, zwl_41, zwl_42, zwl_43, zwl_45, zwl_47, zwl_48, zwl_52, zwl_56, zwl_57, zwl_59, zwl_60, zwl_61, zwl_63, zwl_64, zwl_66, zwl_67, zwl_68, zwl_70, zwl_75, zwl_77, zwl_80, zwl_82, zwl_84, zwl_88, zwl_89, zwl_97, zwl_104, zwl_110, zwl_112, zwl_114, zwl_118, zwl_123, zwl_125, zwl_126, zwl_159, zwl_160, zwl_200, zwl_255, zwl_480, zwl_960, zwl_3000, zs_kli, zs_klq, zs_kln, zs_wn, zs_wi, zs_wl, zs_wq, ↓zs_ok10, ↓zs_ok11, Option.toList_some, Option.toList_none, List.cons_append, List.nil_append, ↓reduceIte, Nat.reduceAdd, Nat.reduceLeDiff, true_and, and_true, Int.reduceEq, Int.reduceLT, Int.reduceLE, Int.reduceAdd, Int.reduceSub, Int.reduceMul, Int.reduceNeg, Nat.reduceEqDiff, Nat.reduceLT, Nat.reduceBEq, zsI_c, zsI_k, zsI_s, zsR_c, zsR_k, zsR_s, kon_11_0_1 hK, kon_11_0_7 hK, kon_11_0_8 hK, kon_11_0_9 hK, kon_11_0_11 hK, kon_11_0_12 hK, kon_11_0_13 hK, kon_11_0_14 hK, kon_11_0_15 hK, kon_11_0_16 hK, kon_11_0_17 hK, kon_11_0_18 hK, kon_11_0_19 hK, kon_11_0_20 hK, kon_11_0_21 hK, kon_11_0_23 hK, kon_11_0_24 hK, kon_11_0_25 hK, kon_11_0_26 hK, kon_11_0_27 hK, kon_11_0_29 hK, kon_11_0_30 hK, kon_11_0_31 hK, kon_11_0_32 hK, kon_11_0_33 hK, kon_11_0_34 hK, kon_11_0_42 hK, kon_11_0_43 hK, kon_11_0_44 hK, kon_11_0_45 hK, kon_11_0_46 hK, kon_11_0_47 hK, kon_11_0_48 hK, kon_11_0_49 hK, kon_11_0_54 hK, ↓za34 hsi hs1, k1]
      exact this
  · rw [if_neg q6] at h
    have g1 : ¬ k = 66 := fun q => q6 (Or.inl q)
    have g2 : ¬ k = 67 := fun q => q6 (Or.inr q)
    by_cases q8 : k = 88
    · rw [if_pos q8] at h
      rw [q8] at k1 hP2
      simp only [zh_104_0, zh_104_1, zh_104_4, zh_104_5, zh_104_6, zh_104_7, zh_104_8, zh_104_10, zh_104_13, zh_104_14, zh_104_16, zh_104_19, zh_104_20, zh_104_21, zh_104_23, zh_104_24, zh_104_25, zh_104_28, zh_104_31, zh_104_32, zh_104_34, zh_104_37, zh_104_38, zh_104_39, zh_104_41, zh_104_42, zh_104_43, zh_104_46, zh_104_49, zh_104_50, zh_104_52, zh_104_54, zh_104_57, zh_104_58, zh_104_59, zh_104_62, zh_104_63, zh_104_64, zh_104_67, zh_104_70, zh_104_71, zh_104_72, zh_104_73, zh_104_74, zh_104_77, zh_104_78, zh_104_79, zh_104_82, zh_104_83, zh_104_86, zh_104_87, zh_104_90, zh_104_91, zh_104_94, zh_104_95, zh_104_96, zh_104_99, zh_104_102, zh_104_103, zh_104_106, zh_104_107, zwl_m1, zwl_0, zwl_1, zwl_2, zwl_3, zwl_4, zwl_5, zwl_6, zwl_7, zwl_8, zwl_10, zwl_15, zwl_24, zwl_32, zwl_33, zwl_40, zwl_41, zwl_42, zwl_43, zwl_45, zwl_47, zwl_48, zwl_52, zwl_56, zwl_57, zwl_59, zwl_60, zwl_61, zwl_63, zwl_64, zwl_66, zwl_67, zwl_68, zwl_70, zwl_75, zwl_77, zwl_80, zwl_82, zwl_84, zwl_88, zwl_89, zwl_97, zwl_104, zwl_110, zwl_112, zwl_114, zwl_118, zwl_123, zwl_125, zwl_126, zwl_159, zwl_160, zwl_200, zwl_255, zwl_480, zwl_960, zwl_3000, zs_kli, zs_klq, zs_kln, zs_wn, zs_wi, zs_wl, zs_wq, ↓zs_ok10, ↓zs_ok11, Option.toList_some, Option.toList_none, List.cons_append, List.nil_append, ↓reduceIte, Nat.reduceAdd, Nat.reduceLeDiff, true_and, and_true, Int.reduceEq, Int.reduceLT, Int.reduceLE, Int.reduceAdd, Int.reduceSub, Int.reduceMul, Int.reduceNeg, Nat.reduceEqDiff, Nat.reduceLT, Nat.reduceBEq, zsI_c, zsI_k, zsI_s, zsR_c, zsR_k, zsR_s, kon_11_0_1 hK, kon_11_0_7 hK, kon_11_0_8 hK, kon_11_0_9 hK, kon_11_0_11 hK, kon_11_0_12 hK, kon_11_0_13 hK, kon_11_0_14 hK, kon_11_0_15 hK, kon_11_0_16 hK, kon_11_0_17 hK, kon_11_0_18 hK, kon_11_0_19 hK, kon_11_0_20 hK, kon_11_0_21 hK, kon_11_0_23 hK, kon_11_0_24 hK, kon_11_0_25 hK, kon_11_0_26 hK, kon_11_0_27 hK, kon_11_0_29 hK, kon_11_0_30 hK, kon_11_0_31 hK, kon_11_0_32 hK, kon_11_0_33 hK, kon_11_0_34 hK, kon_11_0_42 hK, kon_11_0_43 hK, kon_11_0_44 hK, kon_11_0_45 hK, kon_11_0_46 hK, kon_11_0_47 hK, kon_11_0_48 hK, kon_11_0_49 hK, kon_11_0_54 hK, ↓za34 hsi hs1, k1]
      refine ma_around hK hR hP (by decide +kernel) (by decide +kernel) (by decide +kernel) hsi hs b1 b2 ?_
      have e0 : arG P 89 2 4 (P 100 b).toNat b = ar P b := rfl
      rw [e0]
      rcases ar_ok hP _ b b2 rfl with ⟨l1, l2⟩ | ⟨g, o, l1, l2, l3, l4, l5, l6, l7, l8, l9⟩
      · rw [l2, if_pos rfl, if_pos rfl] at h
        rw [l1]
        simp only [zh_104_0, zh_104_1, zh_104_4, zh_104_5, zh_104_6, zh_104_7, zh_104_8, zh_104_10, zh_104_13, zh_104_14, zh_104_16, zh_104_19, zh_104_20, zh_104_21, zh_104_23, zh_104_24, zh_104_25, zh_104_28, zh_104_31, zh_104_32, zh_104_34, zh_104_37, zh_104_38, zh_104_39, zh_104_41, zh_104_42, zh_104_43, zh_104_46, zh_104_49, zh_104_50, zh_104_52, zh_104_54, zh_104_57, zh_104_58, zh_104_59, zh_104_62, zh_104_63, zh_104_64, zh_104_67, zh_104_70, zh_104_71, zh_104_72, zh_104_73, zh_104_74, zh_104_77, zh_104_78, zh_104_79, zh_104_82, zh_104_83, zh_104_86, zh_104_87, zh_104_90, zh_104_91, zh_104_94, zh_104_95, zh_104_96, zh_104_99, zh_104_102, zh_104_103, zh_104_106, zh_104_107, zwl_m1, zwl_0, zwl_1, zwl_2, zwl_3, zwl_4, zwl_5, zwl_6, zwl_7, zwl_8, zwl_10, zwl_15, zwl_24, zwl_32, zwl_33, zwl_40, zwl_41, zwl_42, zwl_43, zwl_45, zwl_47, zwl_48, zwl_52, zwl_56, zwl_57, zwl_59, zwl_60, zwl_61, zwl_63, zwl_64, zwl_66, zwl_67, zwl_68, zwl_70, zwl_75, zwl_77, zwl_80, zwl_82, zwl_84, zwl_88, zwl_89, zwl_97, zwl_104, zwl_110, zwl_112, zwl_114, zwl_118, zwl_123, zwl_125, zwl_126, zwl_159, zwl_160, zwl_200, zwl_255, zwl_480, zwl_960, zwl_3000, zs_kli, zs_klq, zs_kln, zs_wn, zs_wi, zs_wl, zs_wq, ↓zs_ok10, ↓zs_ok11, Option.toList_some, Option.toList_none, List.cons_append, List.nil_append, ↓reduceIte, Nat.reduceAdd, Nat.reduceLeDiff, true_and, and_true, Int.reduceEq, Int.reduceLT, Int.reduceLE, Int.reduceAdd, Int.reduceSub, Int.reduceMul, Int.reduceNeg, Nat.reduceEqDiff, Nat.reduceLT, Nat.reduceBEq, zsI_c, zsI_k, zsI_s, zsR_c, zsR_k, zsR_s]
        exact h
      · have hne : ¬ P 102 b = -1 := by
          have hso := hP.2.2.2.2.2.1 o l4
          obtain ⟨n1, n2, n3⟩ := hso.2.2.2.2.2.2.2.2.2.2.1
          have hbl := hso.2.2.2.2.2.2.2.2.2.2.2.2.2.1 l5
          have hlt : ((P 48 g).toNat - 2 : Nat) < P 41 o := by
            by_cases q : ((P 48 g).toNat - 2 : Nat) < P 41 o
            · exact q
            · have := hbl ((P 48 g).toNat - 2) (by omega) (by omega)
              rcases (hP.2.2.2.2.2.2.1 g l2).2 with ⟨z, _⟩ | ⟨o', h', z1, _, _, _, _, _, _, z7, _⟩
              · omega
              · have : o' = o := by omega
                subst this
                have e : 6 * o' + 2 + ((P 48 g).toNat - 2) = 6 * o' + (P 48 g).toNat := by omega
                rw [e] at this
                omega
          have := n3 _ hlt
          have e : 3 * o + ((P 48 g).toNat - 2) = 3 * o + (P 48 g).toNat - 2 := by omega
          rw [e] at this
          omega
        rw [if_neg hne, if_neg (show ¬ (0 : Int) = 1 by decide)] at h
        have h81 := hP.2.1
        rw [l1]
        generalize hx : (g : Int) = x
        have f1 : zw x = x := zw_i (by omega) (by omega)
        have f2 : ¬ x < 0 := by omega
        simp only [zh_104_0, zh_104_1, zh_104_4, zh_104_5, zh_104_6, zh_104_7, zh_104_8, zh_104_10, zh_104_13, zh_104_14, zh_104_16, zh_104_19, zh_104_20, zh_104_21, zh_104_23, zh_104_24, zh_104_25, zh_104_28, zh_104_31, zh_104_32, zh_104_34, zh_104_37, zh_104_38, zh_104_39, zh_104_41, zh_104_42, zh_104_43, zh_104_46, zh_104_49, zh_104_50, zh_104_52, zh_104_54, zh_104_57, zh_104_58, zh_104_59, zh_104_62, zh_104_63, zh_104_64, zh_104_67, zh_104_70, zh_104_71, zh_104_72, zh_104_73, zh_104_74, zh_104_77, zh_104_78, zh_104_79, zh_104_82, zh_104_83, zh_104_86, zh_104_87, zh_104_90, zh_104_91, zh_104_94, zh_104_95, zh_104_96, zh_104_99, zh_104_102, zh_104_103, zh_104_106, zh_104_107, zwl_m1, zwl_0, zwl_1, zwl_2, zwl_3, zwl_4, zwl_5, zwl_6, zwl_7, zwl_8, zwl_10, zwl_15, zwl_24, zwl_32, zwl_33, zwl_40, zwl_41, zwl_42, zwl_43, zwl_45, zwl_47, zwl_48, zwl_52, zwl_56, zwl_57, zwl_59, zwl_60, zwl_61, zwl_63, zwl_64, zwl_66, zwl_67, zwl_68, zwl_70, zwl_75, zwl_77, zwl_80, zwl_82, zwl_84, zwl_88, zwl_89, zwl_97, zwl_104, zwl_110, zwl_112, zwl_114, zwl_118, zwl_123, zwl_125, zwl_126, zwl_159, zwl_160, zwl_200, zwl_255, zwl_480, zwl_960, zwl_3000, zs_kli, zs_klq, zs_kln, zs_wn, zs_wi, zs_wl, zs_wq, ↓zs_ok10, ↓zs_ok11, Option.toList_some, Option.toList_none, List.cons_append, List.nil_append, ↓reduceIte, Nat.reduceAdd, Nat.reduceLeDiff, true_and, and_true, Int.reduceEq, Int.reduceLT, Int.reduceLE, Int.reduceAdd, Int.reduceSub, Int.reduceMul, Int.reduceNeg, Nat.reduceEqDiff, Nat.reduceLT, Nat.reduceBEq, zsI_c, zsI_k, zsI_s, zsR_c, zsR_k, zsR_s, f1, f2]
        rw [q8] at h
        exact hP2 rfl h
    · rw [if_neg q8, if_neg (show ¬ (0 : Int) = 1 by decide)] at h
      simp only [zh_104_0, zh_104_1, zh_104_4, zh_104_5, zh_104_6, zh_104_7, zh_104_8, zh_104_10, zh_104_13, zh_104_14, zh_104_16, zh_104_19, zh_104_20, zh_104_21, zh_104_23, zh_104_24, zh_104_25, zh_104_28, zh_104_31, zh_104_32, zh_104_34, zh_104_37, zh_104_38, zh_104_39, zh_104_41, zh_104_42, zh_104_43, zh_104_46, zh_104_49, zh_104_50, zh_104_52, zh_104_54, zh_104_57, zh_104_58, zh_104_59, zh_104_62, zh_104_63, zh_104_64, zh_104_67, zh_104_70, zh_104_71, zh_104_72, zh_104_73, zh_104_74, zh_104_77, zh_104_78, zh_104_79, zh_104_82, zh_104_83, zh_104_86, zh_104_87, zh_104_90, zh_104_91, zh_104_94, zh_104_95, zh_104_96, zh_104_99, zh_104_102, zh_104_103, zh_104_106, zh_104_107, zwl_m1, zwl_0, zwl_1, zwl_2, zwl_3, zwl_4, zwl_5, zwl_6, zwl_7, zwl_8, zwl_10, zwl_15, zwl_24, zwl_32, zwl_33, zwl_40, zwl_41, zwl_42, zwl_43, zwl_45, zwl_47, zwl_48, zwl_52, zwl_56, zwl_57, zwl_59, zwl_60, zwl_61, zwl_63, zwl_64, zwl_66, zwl_67, zwl_68, zwl_70, zwl_75, zwl_77, zwl_80, zwl_82, zwl_84, zwl_88, zwl_89, zwl_97, zwl_104, zwl_110, zwl_112, zwl_114, zwl_118, zwl_123, zwl_125, zwl_126, zwl_159, zwl_160, zwl_200, zwl_255, zwl_480, zwl_960, zwl_3000, zs_kli, zs_klq, zs_kln, zs_wn, zs_wi, zs_wl, zs_wq, ↓zs_ok10, ↓zs_ok11, Option.toList_some, Option.toList_none, List.cons_append, List.nil_append, ↓reduceIte, Nat.reduceAdd, Nat.reduceLeDiff, true_and, and_true, Int.reduceEq, Int.reduceLT, Int.reduceLE, Int.reduceAdd, Int.reduceSub, Int.reduceMul, Int.reduceNeg, Nat.reduceEqDiff, Nat.reduceLT, Nat.reduceBEq, zsI_c, zsI_k, zsI_s, zsR_c, zsR_k, zsR_s, kon_11_0_1 hK, kon_11_0_7 hK, kon_11_0_8 hK, kon_11_0_9 hK, kon_11_0_11 hK, kon_11_0_12 hK, kon_11_0_13 hK, kon_11_0_14 hK, kon_11_0_15 hK, kon_11_0_16 hK, kon_11_0_17 hK, kon_11_0_18 hK, kon_11_0_19 hK, kon_11_0_20 hK, kon_11_0_21 hK, kon_11_0_23 hK, kon_11_0_24 hK, kon_11_0_25 hK, kon_11_0_26 hK, kon_11_0_27 hK, kon_11_0_29 hK, kon_11_0_30 hK, kon_11_0_31 hK, kon_11_0_32 hK, kon_11_0_33 hK, kon_11_0_34 hK, kon_11_0_42 hK, kon_11_0_43 hK, kon_11_0_44 hK, kon_11_0_45 hK, kon_11_0_46 hK, kon_11_0_47 hK, kon_11_0_48 hK, kon_11_0_49 hK, kon_11_0_54 hK, ↓za34 hsi hs1, k1, e1, g1, g2, q8]
      exact hP2 rfl h
end
