/-! the class reads an expression -/
def TX (T : Nat → Int) (n : Nat) : Prop := n ≤ 160 ∧ ∀ j, j < n → 33 ≤ T j ∧ T j ≤ 126
def ch (T : Nat → Int) (n p : Nat) : Int := if p < n then T p else 0
def CX0 (I : zMI) (T : Nat → Int) (n p : Nat) : Prop := I 1 0 1 = (n : Int) ∧ (∀ j, j < n → I 20 0 j = T j) ∧ I 8 0 2 = (p : Int)
theorem ch_r {T : Nat → Int} {n p : Nat} (hT : TX T n) : (p < n ∧ 33 ≤ ch T n p ∧ ch T n p ≤ 126 ∧ ch T n p = T p) ∨ (n ≤ p ∧ ch T n p = 0) := by
  unfold ch
  by_cases h : p < n
  · rw [if_pos h]; exact Or.inl ⟨h, (hT.2 p h).1, (hT.2 p h).2, rfl⟩
  · rw [if_neg h]; exact Or.inr ⟨by omega, rfl⟩
theorem CX0.at {I : zMI} {T : Nat → Int} {n p q : Nat} {v : Int} (h : CX0 I T n p) (hv : v = (q : Int)) : CX0 (zsI I 8 0 2 v) T n q := ⟨by rw [zsI_ne (by omega)]; exact h.1, fun j hj => by rw [zsI_ne (by omega)]; exact h.2.1 j hj, by rw [zsI_s]; exact hv⟩
section
variable {d n p e : Nat} {T : Nat → Int} {P : Nat → Nat → Int} {I : zMI} {R : zMR} {al : zA} {K : Option zV → zS → Prop} {w : Int}
theorem ct_take (hK : Kon R) (hT : TX T n) (hx : CX0 I T n p) (hp : p ≤ 200) (hw : 33 ≤ w ∧ w ≤ 126) (h1 : ch T n p = w → K (some (zi 1)) (zsI I 8 0 2 ((p + 1 : Nat) : Int), R, al)) (h0 : ch T n p ≠ w → K (some (zi 0)) (I, R, al)) : zCp (d + 1) 20 [zq (some (8, 0)), zi w] (I, R, al) K := by
  obtain ⟨x1, x2, x3⟩ := hx
  have hn := hT.1
  have e0 : (p : Int) + 1 = ((p + 1 : Nat) : Int) := by omega
  have e1 : ((p : Int)).toNat = p := by omega
  rw [zcp_20, zx_take hK (by omega) (by omega) (by omega) (by omega), x1, x3, e1, e0]
  unfold ch at h1 h0
  by_cases h : p < n
  · rw [if_pos h] at h1 h0
    have := hT.2 p h
    rw [if_pos (by omega), x2 p h, zw_i (a := T p) (by omega) (by omega), zw_i (a := w) (by omega) (by omega)]
    by_cases q : T p = w
    · rw [if_pos q]; exact h1 q
    · rw [if_neg q]; exact h0 q
  · rw [if_neg h] at h0
    rw [if_neg (by omega)]
    exact h0 (by omega)
theorem ct_takeB {a b : Int} (hK : Kon R) (hT : TX T n) (hx : CX0 I T n p) (hp : p ≤ 200) (ha : 33 ≤ a ∧ a ≤ 126) (hb : 33 ≤ b ∧ b ≤ 126) (h1 : a ≤ ch T n p → ch T n p ≤ b → K (some (zi (ch T n p - a))) (zsI I 8 0 2 ((p + 1 : Nat) : Int), R, al)) (h0 : ¬ (a ≤ ch T n p ∧ ch T n p ≤ b) → K (some (zi (-1))) (I, R, al)) : zCp (d + 1) 22 [zq (some (8, 0)), zi a, zi b] (I, R, al) K := by
  obtain ⟨x1, x2, x3⟩ := hx
  have hn := hT.1
  have e0 : (p : Int) + 1 = ((p + 1 : Nat) : Int) := by omega
  have e1 : ((p : Int)).toNat = p := by omega
  rw [zcp_22, zx_takeB hK (by omega) (by omega) (by omega) (by omega) (fun j hj => by have := hT.2 j (by omega); rw [x2 j (by omega)]; omega) (by omega) (by omega), x1, x3, e1, e0]
  unfold ch at h1 h0
  by_cases h : p < n
  · rw [if_pos h] at h1 h0
    rw [x2 p h]
    by_cases q : a ≤ T p ∧ T p ≤ b
    · rw [if_pos ⟨by omega, q.1, q.2⟩]; exact h1 q.1 q.2
    · rw [if_neg (fun z => q z.2)]; exact h0 q
  · rw [if_neg h] at h0
    rw [if_neg (by omega)]
    exact h0 (by omega)
theorem ct_here (hK : Kon R) (hT : TX T n) (hx : CX0 I T n p) (hp : p ≤ 200) (h : K (some (zi (ch T n p))) (I, R, al)) : zCp (d + 1) 29 [zq (some (8, 0))] (I, R, al) K := by
  obtain ⟨x1, x2, x3⟩ := hx
  have hn := hT.1
  have e1 : ((p : Int)).toNat = p := by omega
  rw [zcp_29, zx_here hK (by omega) (by omega) (by omega) (by omega) (fun j hj => by have := hT.2 j (by omega); rw [x2 j (by omega)]; omega), x1, x3, e1]
  unfold ch at h
  by_cases q : p < n
  · rw [if_pos q] at h
    rw [if_pos (by omega), x2 p q]
    exact h
  · rw [if_neg q] at h
    rw [if_neg (by omega)]
    exact h
/-- one more entry -/
def pU (P : Nat → Nat → Int) (c k : Nat) (v : Int) : Nat → Nat → Int := fun c' k' => if c' = c ∧ k' = k then v else P c' k'
theorem pU_s {c k : Nat} {v : Int} : pU P c k v c k = v := if_pos ⟨rfl, rfl⟩
theorem pU_n {c k c' k' : Nat} {v : Int} (h : ¬ (c' = c ∧ k' = k)) : pU P c k v c' k' = P c' k' := if_neg h
def pE (P : Nat → Nat → Int) (e : Nat) (o v : Int) : Nat → Nat → Int := pU (pU P 50 e o) 51 e v
theorem pE_n {o v : Int} {c k : Nat} (h : ¬ ((c = 50 ∨ c = 51) ∧ k = e)) : pE P e o v c k = P c k := by
  unfold pE
  rw [pU_n (by omega), pU_n (by omega)]
theorem pE_50 {o v : Int} : pE P e o v 50 e = o := by unfold pE; rw [pU_n (by omega), pU_s]
theorem pE_51 {o v : Int} : pE P e o v 51 e = v := by unfold pE; rw [pU_s]
def ckd (o : Int) : Int := if o = 48 then 110 else if o = 97 then 118 else o
/-- the class's place in the text and its entries -/
def CX (I : zMI) (T : Nat → Int) (n p e : Nat) (P : Nat → Nat → Int) : Prop := CX0 I T n p ∧ I 6 0 2 = (e : Int) ∧ ∀ j, j < e → CEn I P j
def FrA (I I' : zMI) : Prop := ∀ c i k, c ≠ 25 → c ≠ 26 → ¬ (c = 8 ∧ k = 2) → ¬ (c = 6 ∧ k = 2) → I' c i k = I c i k
theorem FrA.rfl {I : zMI} : FrA I I := fun _ _ _ _ _ _ _ => Eq.refl _
theorem FrA.tr {I I1 I' : zMI} (h0 : FrA I I1) (h : FrA I1 I') : FrA I I' := fun c i k h1 h2 h3 h4 => (h c i k h1 h2 h3 h4).trans (h0 c i k h1 h2 h3 h4)
theorem FrA.at {v : Int} : FrA I (zsI I 8 0 2 v) := fun c i k h1 h2 h3 h4 => zsI_n (by omega)
theorem CX.at {q : Nat} {v : Int} (h : CX I T n p e P) (hv : v = (q : Int)) : CX (zsI I 8 0 2 v) T n q e P := ⟨h.1.at hv, by rw [zsI_ne (by omega)]; exact h.2.1, fun j hj => ⟨by rw [zsI_ne (by omega)]; exact (h.2.2 j hj).1, by rw [zsI_ne (by omega)]; exact (h.2.2 j hj).2⟩⟩
theorem ct_add {k o v : Int} (hK : Kon R) (hx : CX I T n p e P) (he : e < 160) (hk : 33 ≤ k ∧ k ≤ 126) (hko : k = ckd o) (h : ∀ I', FrA I I' → CX I' T n p (e + 1) (pE P e o v) → K (some (zi 1)) (I', R, al)) : zCp (d + 1) 34 [zq (some (6, 0)), zi k, zi v] (I, R, al) K := by
  obtain ⟨⟨x1, x2, x3⟩, x4, x5⟩ := hx
  have e1 : ((e : Int)).toNat = e := by omega
  rw [zcp_34, zx_add hK (by omega) (by omega) (by omega), x4, e1]
  refine h _ (fun c i k h1 h2 h3 h4 => by rw [zsI_n (by omega), zsI_n (by omega), zsI_n (by omega)]) ⟨⟨by rw [zsI_ne (by omega), zsI_ne (by omega), zsI_ne (by omega)]; exact x1, fun j hj => by rw [zsI_ne (by omega), zsI_ne (by omega), zsI_ne (by omega)]; exact x2 j hj, by rw [zsI_ne (by omega), zsI_ne (by omega), zsI_ne (by omega)]; exact x3⟩, by rw [zsI_s]; omega, fun j hj => ?_⟩
  unfold CEn
  by_cases q : j = e
  · subst q
    rw [pE_50, pE_51, zsI_ne (by omega), zsI_ne (by omega), zsI_s, zsI_ne (by omega), zsI_s]
    exact ⟨hko, rfl⟩
  · rw [pE_n (by omega), pE_n (by omega), zsI_ne (by omega), zsI_ne (by omega), zsI_ne (by omega), zsI_ne (by omega), zsI_ne (by omega), zsI_ne (by omega)]
    exact x5 j (by omega)
def dgt (c : Int) : Prop := 48 ≤ c ∧ c ≤ 57
/-- a number of one to three digits; where it ends -/
def nmb (T : Nat → Int) (n p : Nat) (q : Nat) (v : Int) : Prop :=
  (dgt (ch T n p) ∧ ¬ dgt (ch T n (p + 1)) ∧ q = p + 1 ∧ v = ch T n p - 48) ∨
  (dgt (ch T n p) ∧ dgt (ch T n (p + 1)) ∧ ¬ dgt (ch T n (p + 2)) ∧ q = p + 2 ∧ v = (ch T n p - 48) * 10 + (ch T n (p + 1) - 48)) ∨
  (dgt (ch T n p) ∧ dgt (ch T n (p + 1)) ∧ dgt (ch T n (p + 2)) ∧ ¬ dgt (ch T n (p + 3)) ∧ q = p + 3 ∧ v = ((ch T n p - 48) * 10 + (ch T n (p + 1) - 48)) * 10 + (ch T n (p + 2) - 48))
theorem dgt_lt (hT : TX T n) (h : dgt (ch T n p)) : p < n := by
  rcases ch_r (p := p) hT with h1 | h1
  · exact h1.1
  · unfold dgt at h; omega
theorem cr_number (hK : Kon R) (hT : TX T n) (hx : CX I T n p e P) (hp : p ≤ n) (he : e < 160) (h1 : ∀ q v I', nmb T n p q v → FrA I I' → CX I' T n q (e + 1) (pE P e 48 v) → K (some (zi 1)) (I', R, al)) (h0 : (¬ ∃ q v, nmb T n p q v) → ∀ I', FrA I I' → K (some (zi 0)) (I', R, al)) : zCp (d + 2) 35 [zq (some (8, 0))] (I, R, al) K := by
  have hn := hT.1
  rw [zcp_35]
  simp only [zh_35_0, zh_35_1, zh_35_2, zh_35_3, zh_35_4, zh_35_5, zh_35_7, zh_35_9, zh_35_12, zh_35_14, zh_35_15, zh_35_18, zh_35_19, zh_35_20, zh_35_23, zh_35_24, zh_35_26, zh_35_27, zh_35_28, zh_35_29, zh_35_30, zh_35_31, zh_35_33, zh_35_35, zh_35_38, zh_35_39, zh_35_42, zh_35_45, zh_35_46, zh_35_47, zh_35_50, zh_35_51, zh_35_52, zh_35_55, zh_35_56, zh_35_59, zh_35_62, zh_35_64, zh_35_65, zh_35_68, zh_35_71, zh_35_72, zh_35_75, zh_35_76, zwl_m1, zwl_0, zwl_1, zwl_2, zwl_3, zwl_4, zwl_5, zwl_6, zwl_7, zwl_8, zwl_10, zwl_15, zwl_24, zwl_32, zwl_33, zwl_40, zwl_41, zwl_42, zwl_43, zwl_45, zwl_47, zwl_48, zwl_52, zwl_56, zwl_57, zwl_59, zwl_60, zwl_61, zwl_63, zwl_64, zwl_66, zwl_67, zwl_68, zwl_70, zwl_75, zwl_77, zwl_80, zwl_82, zwl_84, zwl_88, zwl_89, zwl_97, zwl_104, zwl_110, zwl_112, zwl_114, zwl_118, zwl_123, zwl_125, zwl_126, zwl_159, zwl_160, zwl_200, zwl_255, zwl_480, zwl_960, zwl_3000, zs_kli, zs_klq, zs_kln, zs_wn, zs_wi, zs_wl, zs_wq, ↓zs_ok10, ↓zs_ok11, Option.toList_some, Option.toList_none, List.cons_append, List.nil_append, ↓reduceIte, Nat.reduceAdd, Nat.reduceLeDiff, true_and, and_true, Int.reduceEq, Int.reduceLT, Int.reduceLE, Int.reduceAdd, Int.reduceSub, Int.reduceMul, Int.reduceNeg, Nat.reduceEqDiff, Nat.reduceLT, Nat.reduceBEq, zsI_c, zsI_k, zsI_s, zsR_c, zsR_k, zsR_s]
  have hnot : ∀ {x : Int}, dgt x → 48 ≤ x ∧ x ≤ 57 := fun h => h
  refine ct_takeB hK hT hx.1 (by omega) (by omega) (by omega) (fun a1 a2 => ?_) (fun a => ?_)
  · have d1 : dgt (ch T n p) := ⟨a1, a2⟩
    have l1 := dgt_lt hT d1
    have y1 : CX (zsI I 8 0 2 ((p + 1 : Nat) : Int)) T n (p + 1) e P := hx.at rfl
    have f1 : FrA I (zsI I 8 0 2 ((p + 1 : Nat) : Int)) := FrA.at
    have g1 : zw (ch T n p - 48) = ch T n p - 48 := zw_i (by omega) (by omega)
    have g2 : ¬ ch T n p - 48 = -1 := by omega
    generalize zsI I 8 0 2 ((p + 1 : Nat) : Int) = I1 at y1 f1
    simp only [zh_35_0, zh_35_1, zh_35_2, zh_35_3, zh_35_4, zh_35_5, zh_35_7, zh_35_9, zh_35_12, zh_35_13, zh_35_14, zh_35_15, zh_35_18, zh_35_19, zh_35_20, zh_35_23, zh_35_24, zh_35_26, zh_35_27, zh_35_28, zh_35_29, zh_35_30, zh_35_31, zh_35_33, zh_35_35, zh_35_38, zh_35_39, zh_35_42, zh_35_45, zh_35_46, zh_35_47, zh_35_50, zh_35_51, zh_35_52, zh_35_55, zh_35_56, zh_35_59, zh_35_62, zh_35_64, zh_35_65, zh_35_68, zh_35_71, zh_35_72, zh_35_75, zh_35_76, zwl_m1, zwl_0, zwl_1, zwl_2, zwl_3, zwl_4, zwl_5, zwl_6, zwl_7, zwl_8, zwl_10, zwl_15, zwl_24, zwl_32, zwl_33, zwl_40, zwl_41, zwl_42, zwl_43, zwl_45, zwl_47, zwl_48, zwl_52, zwl_56, zwl_57, zwl_59, zwl_60, zwl_61, zwl_63, zwl_64, zwl_66, zwl_67, zwl_68, zwl_70, zwl_75, zwl_77, zwl_80, zwl_82, zwl_84, zwl_88, zwl_89, zwl_97, zwl_104, zwl_110, zwl_112, zwl_114, zwl_118, zwl_123, zwl_125, zwl_126, zwl_159, zwl_160, zwl_200, zwl_255, zwl_480, zwl_960, zwl_3000, zs_kli, zs_klq, zs_kln, zs_wn, zs_wi, zs_wl, zs_wq, ↓zs_ok10, ↓zs_ok11, Option.toList_some, Option.toList_none, List.cons_append, List.nil_append, ↓reduceIte, Nat.reduceAdd, Nat.reduceLeDiff, true_and, and_true, Int.reduceEq, Int.reduceLT, Int.reduceLE, Int.reduceAdd, Int.reduceSub, Int.reduceMul, Int.reduceNeg, Nat.reduceEqDiff, Nat.reduceLT, Nat.reduceBEq, zsI_c, zsI_k, zsI_s, zsR_c, zsR_k, zsR_s, g1, g2]
    refine ct_takeB hK hT y1.1 (by omega) (by omega) (by omega) (fun a3 a4 => ?_) (fun a' => ?_)
    · have d2 : dgt (ch T n (p + 1)) := ⟨a3, a4⟩
      have l2 := dgt_lt hT d2
      have y2 : CX (zsI I1 8 0 2 ((p + 1 + 1 : Nat) : Int)) T n (p + 2) e P := y1.at rfl
      have f2 : FrA I (zsI I1 8 0 2 ((p + 1 + 1 : Nat) : Int)) := f1.tr FrA.at
      have g3 : zw (ch T n (p + 1) - 48) = ch T n (p + 1) - 48 := zw_i (by omega) (by omega)
      have g4 : ¬ ch T n (p + 1) - 48 = -1 := by omega
      generalize zsI I1 8 0 2 ((p + 1 + 1 : Nat) : Int) = I2 at y2 f2
      simp only [zh_35_0, zh_35_1, zh_35_2, zh_35_3, zh_35_4, zh_35_5, zh_35_7, zh_35_9, zh_35_12, zh_35_13, zh_35_14, zh_35_15, zh_35_18, zh_35_19, zh_35_20, zh_35_23, zh_35_24, zh_35_26, zh_35_27, zh_35_28, zh_35_29, zh_35_30, zh_35_31, zh_35_33, zh_35_35, zh_35_38, zh_35_39, zh_35_42, zh_35_45, zh_35_46, zh_35_47, zh_35_50, zh_35_51, zh_35_52, zh_35_55, zh_35_56, zh_35_59, zh_35_62, zh_35_64, zh_35_65, zh_35_68, zh_35_71, zh_35_72, zh_35_75, zh_35_76, zwl_m1, zwl_0, zwl_1, zwl_2, zwl_3, zwl_4, zwl_5, zwl_6, zwl_7, zwl_8, zwl_10, zwl_15, zwl_24, zwl_32, zwl_33, zwl_40, zwl_41, zwl_42, zwl_43, zwl_45, zwl_47, zwl_48, zwl_52, zwl_56, zwl_57, zwl_59, zwl_60, zwl_61, zwl_63, zwl_64, zwl_66, zwl_67, zwl_68, zwl_70, zwl_75, zwl_77, zwl_80, zwl_82, zwl_84, zwl_88, zwl_89, zwl_97, zwl_104, zwl_110, zwl_112, zwl_114, zwl_118, zwl_123, zwl_125, zwl_126, zwl_159, zwl_160, zwl_200, zwl_255, zwl_480, zwl_960, zwl_3000, zs_kli, zs_klq, zs_kln, zs_wn, zs_wi, zs_wl, zs_wq, ↓zs_ok10, ↓zs_ok11, Option.toList_some, Option.toList_none, List.cons_append, List.nil_append, ↓reduceIte, Nat.reduceAdd, Nat.reduceLeDiff, true_and, and_true, Int.reduceEq, Int.reduceLT, Int.reduceLE, Int.reduceAdd, Int.reduceSub, Int.reduceMul, Int.reduceNeg, Nat.reduceEqDiff, Nat.reduceLT, Nat.reduceBEq, zsI_c, zsI_k, zsI_s, zsR_c, zsR_k, zsR_s, g3, g4]
      refine ct_takeB hK hT y2.1 (by omega) (by omega) (by omega) (fun a5 a6 => ?_) (fun a' => ?_)
      · have d3 : dgt (ch T n (p + 2)) := ⟨a5, a6⟩
        have l3 := dgt_lt hT d3
        have y3 : CX (zsI I2 8 0 2 ((p + 2 + 1 : Nat) : Int)) T n (p + 3) e P := y2.at rfl
        have f3 : FrA I (zsI I2 8 0 2 ((p + 2 + 1 : Nat) : Int)) := f2.tr FrA.at
        have g5 : zw (ch T n (p + 2) - 48) = ch T n (p + 2) - 48 := zw_i (by omega) (by omega)
        have g6 : ¬ ch T n (p + 2) - 48 = -1 := by omega
        generalize zsI I2 8 0 2 ((p + 2 + 1 : Nat) : Int) = I3 at y3 f3
        simp only [zh_35_0, zh_35_1, zh_35_2, zh_35_3, zh_35_4, zh_35_5, zh_35_7, zh_35_9, zh_35_12, zh_35_13, zh_35_14, zh_35_15, zh_35_18, zh_35_19, zh_35_20, zh_35_23, zh_35_24, zh_35_26, zh_35_27, zh_35_28, zh_35_29, zh_35_30, zh_35_31, zh_35_33, zh_35_35, zh_35_38, zh_35_39, zh_35_42, zh_35_45, zh_35_46, zh_35_47, zh_35_50, zh_35_51, zh_35_52, zh_35_55, zh_35_56, zh_35_59, zh_35_62, zh_35_64, zh_35_65, zh_35_68, zh_35_71, zh_35_72, zh_35_75, zh_35_76, zwl_m1, zwl_0, zwl_1, zwl_2, zwl_3, zwl_4, zwl_5, zwl_6, zwl_7, zwl_8, zwl_10, zwl_15, zwl_24, zwl_32, zwl_33, zwl_40, zwl_41, zwl_42, zwl_43, zwl_45, zwl_47, zwl_48, zwl_52, zwl_56, zwl_57, zwl_59, zwl_60, zwl_61, zwl_63, zwl_64, zwl_66, zwl_67, zwl_68, zwl_70, zwl_75, zwl_77, zwl_80, zwl_82, zwl_84, zwl_88, zwl_89, zwl_97, zwl_104, zwl_110, zwl_112, zwl_114, zwl_118, zwl_123, zwl_125, zwl_126, zwl_159, zwl_160, zwl_200, zwl_255, zwl_480, zwl_960, zwl_3000, zs_kli, zs_klq, zs_kln, zs_wn, zs_wi, zs_wl, zs_wq, ↓zs_ok10, ↓zs_ok11, Option.toList_some, Option.toList_none, List.cons_append, List.nil_append, ↓reduceIte, Nat.reduceAdd, Nat.reduceLeDiff, true_and, and_true, Int.reduceEq, Int.reduceLT, Int.reduceLE, Int.reduceAdd, Int.reduceSub, Int.reduceMul, Int.reduceNeg, Nat.reduceEqDiff, Nat.reduceLT, Nat.reduceBEq, zsI_c, zsI_k, zsI_s, zsR_c, zsR_k, zsR_s, g5, g6]
        refine ct_takeB hK hT y3.1 (by omega) (by omega) (by omega) (fun a7 a8 => ?_) (fun a' => ?_)
        · have d4 : dgt (ch T n (p + 3)) := ⟨a7, a8⟩
          have l4 := dgt_lt hT d4
          have y4 : CX (zsI I3 8 0 2 ((p + 3 + 1 : Nat) : Int)) T n (p + 4) e P := y3.at rfl
          have f4 : FrA I (zsI I3 8 0 2 ((p + 3 + 1 : Nat) : Int)) := f3.tr FrA.at
          have g7 : zw (ch T n (p + 3) - 48) = ch T n (p + 3) - 48 := zw_i (by omega) (by omega)
          have g8 : ¬ ch T n (p + 3) - 48 = -1 := by omega
          have hno : ¬ ∃ q v, nmb T n p q v := by
            rintro ⟨q, v, h | h | h⟩
            · exact h.2.1 d2
            · exact h.2.2.1 d3
            · exact h.2.2.2.1 d4
          generalize zsI I3 8 0 2 ((p + 3 + 1 : Nat) : Int) = I4 at y4 f4
          simp only [zh_35_0, zh_35_1, zh_35_2, zh_35_3, zh_35_4, zh_35_5, zh_35_7, zh_35_9, zh_35_12, zh_35_13, zh_35_14, zh_35_15, zh_35_18, zh_35_19, zh_35_20, zh_35_23, zh_35_24, zh_35_26, zh_35_27, zh_35_28, zh_35_29, zh_35_30, zh_35_31, zh_35_33, zh_35_35, zh_35_38, zh_35_39, zh_35_42, zh_35_45, zh_35_46, zh_35_47, zh_35_50, zh_35_51, zh_35_52, zh_35_55, zh_35_56, zh_35_59, zh_35_62, zh_35_64, zh_35_65, zh_35_68, zh_35_71, zh_35_72, zh_35_75, zh_35_76, zwl_m1, zwl_0, zwl_1, zwl_2, zwl_3, zwl_4, zwl_5, zwl_6, zwl_7, zwl_8, zwl_10, zwl_15, zwl_24, zwl_32, zwl_33, zwl_40, zwl_41, zwl_42, zwl_43, zwl_45, zwl_47, zwl_48, zwl_52, zwl_56, zwl_57, zwl_59, zwl_60, zwl_61, zwl_63, zwl_64, zwl_66, zwl_67, zwl_68, zwl_70, zwl_75, zwl_77, zwl_80, zwl_82, zwl_84, zwl_88, zwl_89, zwl_97, zwl_104, zwl_110, zwl_112, zwl_114, zwl_118, zwl_123, zwl_125, zwl_126, zwl_159, zwl_160, zwl_200, zwl_255, zwl_480, zwl_960, zwl_3000, zs_kli, zs_klq, zs_kln, zs_wn, zs_wi, zs_wl, zs_wq, ↓zs_ok10, ↓zs_ok11, Option.toList_some, Option.toList_none, List.cons_append, List.nil_append, ↓reduceIte, Nat.reduceAdd, Nat.reduceLeDiff, true_and, and_true, Int.reduceEq, Int.reduceLT, Int.reduceLE, Int.reduceAdd, Int.reduceSub, Int.reduceMul, Int.reduceNeg, Nat.reduceEqDiff, Nat.reduceLT, Nat.reduceBEq, zsI_c, zsI_k, zsI_s, zsR_c, zsR_k, zsR_s, g7, g8]
          refine ct_takeB hK hT y4.1 (by omega) (by omega) (by omega) (fun a9 a10 => ?_) (fun a' => ?_)
          · have g9 : zw (ch T n (p + 4) - 48) = ch T n (p + 4) - 48 := zw_i (by omega) (by omega)
            have g10 : ¬ ch T n (p + 4) - 48 = -1 := by omega
            simp only [zh_35_0, zh_35_1, zh_35_2, zh_35_3, zh_35_4, zh_35_5, zh_35_7, zh_35_9, zh_35_12, zh_35_13, zh_35_14, zh_35_15, zh_35_18, zh_35_19, zh_35_20, zh_35_23, zh_35_24, zh_35_26, zh_35_27, zh_35_28, zh_35_29, zh_35_30, zh_35_31, zh_35_33, zh_35_35, zh_35_38, zh_35_39, zh_35_42, zh_35_45, zh_35_46, zh_35_47, zh_35_50, zh_35_51, zh_35_52, zh_35_55, zh_35_56, zh_35_59, zh_35_62, zh_35_64, zh_35_65, zh_35_68, zh_35_71, zh_35_72, zh_35_75, zh_35_76, zwl_m1, zwl_0, zwl_1, zwl_2, zwl_3, zwl_4, zwl_5, zwl_6, zwl_7, zwl_8, zwl_10, zwl_15, zwl_24, zwl_32, zwl_33, zwl_40, zwl_41, zwl_42, zwl_43, zwl_45, zwl_47, zwl_48, zwl_52, zwl_56, zwl_57, zwl_59, zwl_60, zwl_61, zwl_63, zwl_64, zwl_66, zwl_67, zwl_68, zwl_70, zwl_75, zwl_77, zwl_80, zwl_82, zwl_84, zwl_88, zwl_89, zwl_97, zwl_104, zwl_110, zwl_112, zwl_114, zwl_118, zwl_123, zwl_125, zwl_126, zwl_159, zwl_160, zwl_200, zwl_255, zwl_480, zwl_960, zwl_3000, zs_kli, zs_klq, zs_kln, zs_wn, zs_wi, zs_wl, zs_wq, ↓zs_ok10, ↓zs_ok11, Option.toList_some, Option.toList_none, List.cons_append, List.nil_append, ↓reduceIte, Nat.reduceAdd, Nat.reduceLeDiff, true_and, and_true, Int.reduceEq, Int.reduceLT, Int.reduceLE, Int.reduceAdd, Int.reduceSub, Int.reduceMul, Int.reduceNeg, Nat.reduceEqDiff, Nat.reduceLT, Nat.reduceBEq, zsI_c, zsI_k, zsI_s, zsR_c, zsR_k, zsR_s, g9, g10]
            exact h0 hno _ (f4.tr FrA.at)
          · simp only [zh_35_0, zh_35_1, zh_35_2, zh_35_3, zh_35_4, zh_35_5, zh_35_7, zh_35_9, zh_35_12, zh_35_13, zh_35_14, zh_35_15, zh_35_18, zh_35_19, zh_35_20, zh_35_23, zh_35_24, zh_35_26, zh_35_27, zh_35_28, zh_35_29, zh_35_30, zh_35_31, zh_35_33, zh_35_35, zh_35_38, zh_35_39, zh_35_42, zh_35_45, zh_35_46, zh_35_47, zh_35_50, zh_35_51, zh_35_52, zh_35_55, zh_35_56, zh_35_59, zh_35_62, zh_35_64, zh_35_65, zh_35_68, zh_35_71, zh_35_72, zh_35_75, zh_35_76, zwl_m1, zwl_0, zwl_1, zwl_2, zwl_3, zwl_4, zwl_5, zwl_6, zwl_7, zwl_8, zwl_10, zwl_15, zwl_24, zwl_32, zwl_33, zwl_40, zwl_41, zwl_42, zwl_43, zwl_45, zwl_47, zwl_48, zwl_52, zwl_56, zwl_57, zwl_59, zwl_60, zwl_61, zwl_63, zwl_64, zwl_66, zwl_67, zwl_68, zwl_70, zwl_75, zwl_77, zwl_80, zwl_82, zwl_84, zwl_88, zwl_89, zwl_97, zwl_104, zwl_110, zwl_112, zwl_114, zwl_118, zwl_123, zwl_125, zwl_126, zwl_159, zwl_160, zwl_200, zwl_255, zwl_480, zwl_960, zwl_3000, zs_kli, zs_klq, zs_kln, zs_wn, zs_wi, zs_wl, zs_wq, ↓zs_ok10, ↓zs_ok11, Option.toList_some, Option.toList_none, List.cons_append, List.nil_append, ↓reduceIte, Nat.reduceAdd, Nat.reduceLeDiff, true_and, and_true, Int.reduceEq, Int.reduceLT, Int.reduceLE, Int.reduceAdd, Int.reduceSub, Int.reduceMul, Int.reduceNeg, Nat.reduceEqDiff, Nat.reduceLT, Nat.reduceBEq, zsI_c, zsI_k, zsI_s, zsR_c, zsR_k, zsR_s]
            exact h0 hno _ f4
        · simp only [zh_35_0, zh_35_1, zh_35_2, zh_35_3, zh_35_4, zh_35_5, zh_35_7, zh_35_9, zh_35_12, zh_35_13, zh_35_14, zh_35_15, zh_35_18, zh_35_19, zh_35_20, zh_35_23, zh_35_24, zh_35_26, zh_35_27, zh_35_28, zh_35_29, zh_35_30, zh_35_31, zh_35_33, zh_35_35, zh_35_38, zh_35_39, zh_35_42, zh_35_45, zh_35_46, zh_35_47, zh_35_50, zh_35_51, zh_35_52, zh_35_55, zh_35_56, zh_35_59, zh_35_62, zh_35_64, zh_35_65, zh_35_68, zh_35_71, zh_35_72, zh_35_75, zh_35_76, zwl_m1, zwl_0, zwl_1, zwl_2, zwl_3, zwl_4, zwl_5, zwl_6, zwl_7, zwl_8, zwl_10, zwl_15, zwl_24, zwl_32, zwl_33, zwl_40, zwl_41, zwl_42, zwl_43, zwl_45, zwl_47, zwl_48, zwl_52, zwl_56, zwl_57, zwl_59, zwl_60, zwl_61, zwl_63, zwl_64, zwl_66, zwl_67, zwl_68, zwl_70, zwl_75, zwl_77, zwl_80, zwl_82, zwl_84, zwl_88, zwl_89, zwl_97, zwl_104, zwl_110, zwl_112, zwl_114, zwl_118, zwl_123, zwl_125, zwl_126, zwl_159, zwl_160, zwl_200, zwl_255, zwl_480, zwl_960, zwl_3000, zs_kli, zs_klq, zs_kln, zs_wn, zs_wi, zs_wl, zs_wq, ↓zs_ok10, ↓zs_ok11, Option.toList_some, Option.toList_none, List.cons_append, List.nil_append, ↓reduceIte, Nat.reduceAdd, Nat.reduceLeDiff, true_and, and_true, Int.reduceEq, Int.reduceLT, Int.reduceLE, Int.reduceAdd, Int.reduceSub, Int.reduceMul, Int.reduceNeg, Nat.reduceEqDiff, Nat.reduceLT, Nat.reduceBEq, zsI_c, zsI_k, zsI_s, zsR_c, zsR_k, zsR_s, kon_0_0_0 hK, kon_0_0_1 hK, kon_0_0_2 hK, kon_0_0_3 hK, kon_0_0_4 hK, kon_1_0_0 hK, kon_6_0_0 hK, kon_6_0_1 hK, kon_6_0_4 hK, kon_7_0_0 hK, kon_7_0_1 hK, kon_7_0_2 hK, kon_7_0_3 hK, kon_7_0_7 hK, kon_7_0_8 hK, kon_8_0_0 hK, kon_8_0_1 hK, kon_9_0_0 hK, kon_10_0_0 hK, kon_10_0_1 hK, kon_10_0_9 hK]
          refine ct_add (o := 48) hK y3 he (by omega) rfl (fun I4 f4 y4 => ?_)
          simp only [zh_35_0, zh_35_1, zh_35_2, zh_35_3, zh_35_4, zh_35_5, zh_35_7, zh_35_9, zh_35_12, zh_35_13, zh_35_14, zh_35_15, zh_35_18, zh_35_19, zh_35_20, zh_35_23, zh_35_24, zh_35_26, zh_35_27, zh_35_28, zh_35_29, zh_35_30, zh_35_31, zh_35_33, zh_35_35, zh_35_38, zh_35_39, zh_35_42, zh_35_45, zh_35_46, zh_35_47, zh_35_50, zh_35_51, zh_35_52, zh_35_55, zh_35_56, zh_35_59, zh_35_62, zh_35_64, zh_35_65, zh_35_68, zh_35_71, zh_35_72, zh_35_75, zh_35_76, zwl_m1, zwl_0, zwl_1, zwl_2, zwl_3, zwl_4, zwl_5, zwl_6, zwl_7, zwl_8, zwl_10, zwl_15, zwl_24, zwl_32, zwl_33, zwl_40, zwl_41, zwl_42, zwl_43, zwl_45, zwl_47, zwl_48, zwl_52, zwl_56, zwl_57, zwl_59, zwl_60, zwl_61, zwl_63, zwl_64, zwl_66, zwl_67, zwl_68, zwl_70, zwl_75, zwl_77, zwl_80, zwl_82, zwl_84, zwl_88, zwl_89, zwl_97, zwl_104, zwl_110, zwl_112, zwl_114, zwl_118, zwl_123, zwl_125, zwl_126, zwl_159, zwl_160, zwl_200, zwl_255, zwl_480, zwl_960, zwl_3000, zs_kli, zs_klq, zs_kln, zs_wn, zs_wi, zs_wl, zs_wq, ↓zs_ok10, ↓zs_ok11, Option.toList_some, Option.toList_none, List.cons_append, List.nil_append, ↓reduceIte, Nat.reduceAdd, Nat.reduceLeDiff, true_and, and_true, Int.reduceEq, Int.reduceLT, Int.reduceLE, Int.reduceAdd, Int.reduceSub, Int.reduceMul, Int.reduceNeg, Nat.reduceEqDiff, Nat.reduceLT, Nat.reduceBEq, zsI_c, zsI_k, zsI_s, zsR_c, zsR_k, zsR_s]
          rw [Int.zero_add] at y4
          exact h1 _ _ I4 (Or.inr (Or.inr ⟨d1, d2, d3, a', rfl, rfl⟩)) (f3.tr f4) y4
      · simp only [zh_35_0, zh_35_1, zh_35_2, zh_35_3, zh_35_4, zh_35_5, zh_35_7, zh_35_9, zh_35_12, zh_35_13, zh_35_14, zh_35_15, zh_35_18, zh_35_19, zh_35_20, zh_35_23, zh_35_24, zh_35_26, zh_35_27, zh_35_28, zh_35_29, zh_35_30, zh_35_31, zh_35_33, zh_35_35, zh_35_38, zh_35_39, zh_35_42, zh_35_45, zh_35_46, zh_35_47, zh_35_50, zh_35_51, zh_35_52, zh_35_55, zh_35_56, zh_35_59, zh_35_62, zh_35_64, zh_35_65, zh_35_68, zh_35_71, zh_35_72, zh_35_75, zh_35_76, zwl_m1, zwl_0, zwl_1, zwl_2, zwl_3, zwl_4, zwl_5, zwl_6, zwl_7, zwl_8, zwl_10, zwl_15, zwl_24, zwl_32, zwl_33, zwl_40, zwl_41, zwl_42, zwl_43, zwl_45, zwl_47, zwl_48, zwl_52, zwl_56, zwl_57, zwl_59, zwl_60, zwl_61, zwl_63, zwl_64, zwl_66, zwl_67, zwl_68, zwl_70, zwl_75, zwl_77, zwl_80, zwl_82, zwl_84, zwl_88, zwl_89, zwl_97, zwl_104, zwl_110, zwl_112, zwl_114, zwl_118, zwl_123, zwl_125, zwl_126, zwl_159, zwl_160, zwl_200, zwl_255, zwl_480, zwl_960, zwl_3000, zs_kli, zs_klq, zs_kln, zs_wn, zs_wi, zs_wl, zs_wq, ↓zs_ok10, ↓zs_ok11, Option.toList_some, Option.toList_none, List.cons_append, List.nil_append, ↓reduceIte, Nat.reduceAdd, Nat.reduceLeDiff, true_and, and_true, Int.reduceEq, Int.reduceLT, Int.reduceLE, Int.reduceAdd, Int.reduceSub, Int.reduceMul, Int.reduceNeg, Nat.reduceEqDiff, Nat.reduceLT, Nat.reduceBEq, zsI_c, zsI_k, zsI_s, zsR_c, zsR_k, zsR_s, kon_0_0_0 hK, kon_0_0_1 hK, kon_0_0_2 hK, kon_0_0_3 hK, kon_0_0_4 hK, kon_1_0_0 hK, kon_6_0_0 hK, kon_6_0_1 hK, kon_6_0_4 hK, kon_7_0_0 hK, kon_7_0_1 hK, kon_7_0_2 hK, kon_7_0_3 hK, kon_7_0_7 hK, kon_7_0_8 hK, kon_8_0_0 hK, kon_8_0_1 hK, kon_9_0_0 hK, kon_10_0_0 hK, kon_10_0_1 hK, kon_10_0_9 hK]
        refine ct_add (o := 48) hK y2 he (by omega) rfl (fun I4 f4 y4 => ?_)
        simp only [zh_35_0, zh_35_1, zh_35_2, zh_35_3, zh_35_4, zh_35_5, zh_35_7, zh_35_9, zh_35_12, zh_35_13, zh_35_14, zh_35_15, zh_35_18, zh_35_19, zh_35_20, zh_35_23, zh_35_24, zh_35_26, zh_35_27, zh_35_28, zh_35_29, zh_35_30, zh_35_31, zh_35_33, zh_35_35, zh_35_38, zh_35_39, zh_35_42, zh_35_45, zh_35_46, zh_35_47, zh_35_50, zh_35_51, zh_35_52, zh_35_55, zh_35_56, zh_35_59, zh_35_62, zh_35_64, zh_35_65, zh_35_68, zh_35_71, zh_35_72, zh_35_75, zh_35_76, zwl_m1, zwl_0, zwl_1, zwl_2, zwl_3, zwl_4, zwl_5, zwl_6, zwl_7, zwl_8, zwl_10, zwl_15, zwl_24, zwl_32, zwl_33, zwl_40, zwl_41, zwl_42, zwl_43, zwl_45, zwl_47, zwl_48, zwl_52, zwl_56, zwl_57, zwl_59, zwl_60, zwl_61, zwl_63, zwl_64, zwl_66, zwl_67, zwl_68, zwl_70, zwl_75, zwl_77, zwl_80, zwl_82, zwl_84, zwl_88, zwl_89, zwl_97, zwl_104, zwl_110, zwl_112, zwl_114, zwl_118, zwl_123, zwl_125, zwl_126, zwl_159, zwl_160, zwl_200, zwl_255, zwl_480, zwl_960, zwl_3000, zs_kli, zs_klq, zs_kln, zs_wn, zs_wi, zs_wl, zs_wq, ↓zs_ok10, ↓zs_ok11, Option.toList_some, Option.toList_none, List.cons_append, List.nil_append, ↓reduceIte, Nat.reduceAdd, Nat.reduceLeDiff, true_and, and_true, Int.reduceEq, Int.reduceLT, Int.reduceLE, Int.reduceAdd, Int.reduceSub, Int.reduceMul, Int.reduceNeg, Nat.reduceEqDiff, Nat.reduceLT, Nat.reduceBEq, zsI_c, zsI_k, zsI_s, zsR_c, zsR_k, zsR_s]
        rw [Int.zero_add] at y4
        exact h1 _ _ I4 (Or.inr (Or.inl ⟨d1, d2, a', rfl, rfl⟩)) (f2.tr f4) y4
    · simp only [zh_35_0, zh_35_1, zh_35_2, zh_35_3, zh_35_4, zh_35_5, zh_35_7, zh_35_9, zh_35_12, zh_35_13, zh_35_14, zh_35_15, zh_35_18, zh_35_19, zh_35_20, zh_35_23, zh_35_24, zh_35_26, zh_35_27, zh_35_28, zh_35_29, zh_35_30, zh_35_31, zh_35_33, zh_35_35, zh_35_38, zh_35_39, zh_35_42, zh_35_45, zh_35_46, zh_35_47, zh_35_50, zh_35_51, zh_35_52, zh_35_55, zh_35_56, zh_35_59, zh_35_62, zh_35_64, zh_35_65, zh_35_68, zh_35_71, zh_35_72, zh_35_75, zh_35_76, zwl_m1, zwl_0, zwl_1, zwl_2, zwl_3, zwl_4, zwl_5, zwl_6, zwl_7, zwl_8, zwl_10, zwl_15, zwl_24, zwl_32, zwl_33, zwl_40, zwl_41, zwl_42, zwl_43, zwl_45, zwl_47, zwl_48, zwl_52, zwl_56, zwl_57, zwl_59, zwl_60, zwl_61, zwl_63, zwl_64, zwl_66, zwl_67, zwl_68, zwl_70, zwl_75, zwl_77, zwl_80, zwl_82, zwl_84, zwl_88, zwl_89, zwl_97, zwl_104, zwl_110, zwl_112, zwl_114, zwl_118, zwl_123, zwl_125, zwl_126, zwl_159, zwl_160, zwl_200, zwl_255, zwl_480, zwl_960, zwl_3000, zs_kli, zs_klq, zs_kln, zs_wn, zs_wi, zs_wl, zs_wq, ↓zs_ok10, ↓zs_ok11, Option.toList_some, Option.toList_none, List.cons_append, List.nil_append, ↓reduceIte, Nat.reduceAdd, Nat.reduceLeDiff, true_and, and_true, Int.reduceEq, Int.reduceLT, Int.reduceLE, Int.reduceAdd, Int.reduceSub, Int.reduceMul, Int.reduceNeg, Nat.reduceEqDiff, Nat.reduceLT, Nat.reduceBEq, zsI_c, zsI_k, zsI_s, zsR_c, zsR_k, zsR_s, kon_0_0_0 hK, kon_0_0_1 hK, kon_0_0_2 hK, kon_0_0_3 hK, kon_0_0_4 hK, kon_1_0_0 hK, kon_6_0_0 hK, kon_6_0_1 hK, kon_6_0_4 hK, kon_7_0_0 hK, kon_7_0_1 hK, kon_7_0_2 hK, kon_7_0_3 hK, kon_7_0_7 hK, kon_7_0_8 hK, kon_8_0_0 hK, kon_8_0_1 hK, kon_9_0_0 hK, kon_10_0_0 hK, kon_10_0_1 hK, kon_10_0_9 hK]
      refine ct_add (o := 48) hK y1 he (by omega) rfl (fun I4 f4 y4 => ?_)
      simp only [zh_35_0, zh_35_1, zh_35_2, zh_35_3, zh_35_4, zh_35_5, zh_35_7, zh_35_9, zh_35_12, zh_35_13, zh_35_14, zh_35_15, zh_35_18, zh_35_19, zh_35_20, zh_35_23, zh_35_24, zh_35_26, zh_35_27, zh_35_28, zh_35_29, zh_35_30, zh_35_31, zh_35_33, zh_35_35, zh_35_38, zh_35_39, zh_35_42, zh_35_45, zh_35_46, zh_35_47, zh_35_50, zh_35_51, zh_35_52, zh_35_55, zh_35_56, zh_35_59, zh_35_62, zh_35_64, zh_35_65, zh_35_68, zh_35_71, zh_35_72, zh_35_75, zh_35_76, zwl_m1, zwl_0, zwl_1, zwl_2, zwl_3, zwl_4, zwl_5, zwl_6, zwl_7, zwl_8, zwl_10, zwl_15, zwl_24, zwl_32, zwl_33, zwl_40, zwl_41, zwl_42, zwl_43, zwl_45, zwl_47, zwl_48, zwl_52, zwl_56, zwl_57, zwl_59, zwl_60, zwl_61, zwl_63, zwl_64, zwl_66, zwl_67, zwl_68, zwl_70, zwl_75, zwl_77, zwl_80, zwl_82, zwl_84, zwl_88, zwl_89, zwl_97, zwl_104, zwl_110, zwl_112, zwl_114, zwl_118, zwl_123, zwl_125, zwl_126, zwl_159, zwl_160, zwl_200, zwl_255, zwl_480, zwl_960, zwl_3000, zs_kli, zs_klq, zs_kln, zs_wn, zs_wi, zs_wl, zs_wq, ↓zs_ok10, ↓zs_ok11, Option.toList_some, Option.toList_none, List.cons_append, List.nil_append, ↓reduceIte, Nat.reduceAdd, Nat.reduceLeDiff, true_and, and_true, Int.reduceEq, Int.reduceLT, Int.reduceLE, Int.reduceAdd, Int.reduceSub, Int.reduceMul, Int.reduceNeg, Nat.reduceEqDiff, Nat.reduceLT, Nat.reduceBEq, zsI_c, zsI_k, zsI_s, zsR_c, zsR_k, zsR_s]
      rw [Int.zero_add] at y4
      exact h1 _ _ I4 (Or.inl ⟨d1, a', rfl, rfl⟩) (f1.tr f4) y4
  · simp only [zh_35_0, zh_35_1, zh_35_2, zh_35_3, zh_35_4, zh_35_5, zh_35_7, zh_35_9, zh_35_12, zh_35_13, zh_35_14, zh_35_15, zh_35_18, zh_35_19, zh_35_20, zh_35_23, zh_35_24, zh_35_26, zh_35_27, zh_35_28, zh_35_29, zh_35_30, zh_35_31, zh_35_33, zh_35_35, zh_35_38, zh_35_39, zh_35_42, zh_35_45, zh_35_46, zh_35_47, zh_35_50, zh_35_51, zh_35_52, zh_35_55, zh_35_56, zh_35_59, zh_35_62, zh_35_64, zh_35_65, zh_35_68, zh_35_71, zh_35_72, zh_35_75, zh_35_76, zwl_m1, zwl_0, zwl_1, zwl_2, zwl_3, zwl_4, zwl_5, zwl_6, zwl_7, zwl_8, zwl_10, zwl_15, zwl_24, zwl_32, zwl_33, zwl_40, zwl_41, zwl_42, zwl_43, zwl_45, zwl_47, zwl_48, zwl_52, zwl_56, zwl_57, zwl_59, zwl_60, zwl_61, zwl_63, zwl_64, zwl_66, zwl_67, zwl_68, zwl_70, zwl_75, zwl_77, zwl_80, zwl_82, zwl_84, zwl_88, zwl_89, zwl_97, zwl_104, zwl_110, zwl_112, zwl_114, zwl_118, zwl_123, zwl_125, zwl_126, zwl_159, zwl_160, zwl_200, zwl_255, zwl_480, zwl_960, zwl_3000, zs_kli, zs_klq, zs_kln, zs_wn, zs_wi, zs_wl, zs_wq, ↓zs_ok10, ↓zs_ok11, Option.toList_some, Option.toList_none, List.cons_append, List.nil_append, ↓reduceIte, Nat.reduceAdd, Nat.reduceLeDiff, true_and, and_true, Int.reduceEq, Int.reduceLT, Int.reduceLE, Int.reduceAdd, Int.reduceSub, Int.reduceMul, Int.reduceNeg, Nat.reduceEqDiff, Nat.reduceLT, Nat.reduceBEq, zsI_c, zsI_k, zsI_s, zsR_c, zsR_k, zsR_s]
    refine h0 ?_ I FrA.rfl
    rintro ⟨q, v, h | h | h⟩
    · exact a h.1
    · exact a h.1
    · exact a h.1
end
