/-! expressions: what they come to, in the class and in the reference -/
def uP (W : Nat → Int) (h : Nat) (v : Int) : Nat → Int := fun j => if j = h then v else W j
theorem uP_s {W : Nat → Int} {h : Nat} {v : Int} : uP W h v h = v := if_pos rfl
theorem uP_n {W : Nat → Int} {h j : Nat} {v : Int} (hj : j ≠ h) : uP W h v j = W j := if_neg hj
/-- an operator's answer -/
def cmb (o x y : Int) : Int := if o = 43 then zw (x + y) else if o = 45 then zw (x - y) else if o = 42 then zw (x * y) else if o = 47 then zw (zdiv x y) else if x < y then 1 else 0
def evR (P : Nat → Nat → Int) (V : Nat → Int) : Nat → Nat → Nat → (Nat → Int) → Option Int
  | 0, _, _, W => some (W 0)
  | m + 1, k, h, W => if P 50 k = 48 then evR P V m (k + 1) (h + 1) (uP W h (P 51 k)) else if P 50 k = 97 then evR P V m (k + 1) (h + 1) (uP W h (V (P 51 k).toNat))
    else if P 50 k = 47 ∧ W (h - 1) = 0 then none else evR P V m (k + 1) (h - 1) (uP W (h - 2) (cmb (P 50 k) (W (h - 2)) (W (h - 1))))
/-- the row of entries is a whole expression -/
def Hok (P : Nat → Nat → Int) : Nat → Nat → Nat → Prop
  | 0, _, h => h = 1
  | m + 1, k, h => (P 50 k = 48 ∧ h < 5 ∧ 0 ≤ P 51 k ∧ P 51 k < 1000 ∧ Hok P m (k + 1) (h + 1)) ∨ (P 50 k = 97 ∧ h < 5 ∧ 0 ≤ P 51 k ∧ P 51 k < 8 ∧ Hok P m (k + 1) (h + 1))
    ∨ ((P 50 k = 43 ∨ P 50 k = 45 ∨ P 50 k = 42 ∨ P 50 k = 47 ∨ P 50 k = 60) ∧ 2 ≤ h ∧ Hok P m (k + 1) (h - 1))
/-- the class's entries -/
def CEn (I : zMI) (P : Nat → Nat → Int) (k : Nat) : Prop := I 25 0 k = (if P 50 k = 48 then 110 else if P 50 k = 97 then 118 else P 50 k) ∧ I 26 0 k = P 51 k
theorem zsub_w (a b : Int) : zw (zw a - zw b) = zw (a - b) := by unfold zw; rw [Int.sub_bmod_bmod, Int.bmod_sub_bmod]
theorem zadd_w (a b : Int) : zw (zw a + zw b) = zw (a + b) := by unfold zw; rw [Int.add_bmod_bmod, Int.bmod_add_bmod]
theorem zmul_w (a b : Int) : zw (zw a * zw b) = zw (a * b) := by unfold zw; rw [Int.mul_bmod_bmod, Int.bmod_mul_bmod]
theorem zdiv_w (a b : Int) : zdiv (zw a) (zw b) = zdiv a b := by unfold zdiv; rw [zo_w, zo_w]
theorem zdiv_z (a b : Int) : zw (zdiv a b) = zdiv a b := by
  unfold zdiv; rw [← zo_to, Int32.ofInt_toInt]
theorem zdiv_m1 {a b : Int} (h : zw b = -1) : zdiv a b = zw (-a) := by
  rw [← zdiv_w, h]
  unfold zdiv
  rw [zo_w, Int32.toInt_div, zo_to]
  have e : (Int32.ofInt (-1)).toInt = -1 := by decide +kernel
  rw [e, Int.tdiv_neg, Int.tdiv_one]
  unfold zw
  simp
theorem zneg_w (a : Int) : zw (-(zw a)) = zw (-a) := by
  have := zsub_w 0 a
  rw [zw_0] at this
  simpa using this
/-- the class combines -/
theorem ce_comb {d : Nat} {I : zMI} {R : zMR} {al : zA} {K : Option zV → zS → Prop} {o x y : Int} (ho : o = 43 ∨ o = 45 ∨ o = 42 ∨ o = 47 ∨ o = 60) (hy : o = 47 → zw y ≠ 0) (hK : ∀ v, zw v = cmb o (zw x) (zw y) → K (some (zi v)) (I, R, al)) :
    Zgo d 63 0 [some (zi o), some (zi x), some (zi y)] [] (I, R, al) K := by
  rcases ho with rfl | rfl | rfl | rfl | rfl
  · simp only [zh_63_0, zh_63_40, zh_63_41, zh_63_42, zh_63_43, zh_63_44, zh_63_45, zh_63_46, zh_63_47, zh_63_48, zh_63_49, zh_63_50, zh_63_51, zh_63_52, zh_63_53, zh_63_54, zh_63_55, zh_63_56, zh_63_57, zh_63_58, zh_63_61, zh_63_62, zh_63_65, zh_63_66, zh_63_1, zwl_m1, zwl_0, zwl_1, zwl_2, zwl_3, zwl_4, zwl_5, zwl_6, zwl_7, zwl_8, zwl_10, zwl_15, zwl_24, zwl_32, zwl_33, zwl_40, zwl_41, zwl_42, zwl_43, zwl_45, zwl_47, zwl_48, zwl_52, zwl_56, zwl_57, zwl_59, zwl_60, zwl_61, zwl_63, zwl_64, zwl_66, zwl_67, zwl_68, zwl_70, zwl_75, zwl_77, zwl_80, zwl_82, zwl_84, zwl_88, zwl_89, zwl_97, zwl_104, zwl_110, zwl_112, zwl_114, zwl_118, zwl_123, zwl_125, zwl_126, zwl_159, zwl_160, zwl_200, zwl_255, zwl_480, zwl_960, zwl_3000, zs_kli, zs_klq, zs_kln, zs_wn, zs_wi, zs_wl, zs_wq, ↓zs_ok10, ↓zs_ok11, Option.toList_some, Option.toList_none, List.cons_append, List.nil_append, ↓reduceIte, Nat.reduceAdd, Nat.reduceLeDiff, true_and, and_true, Int.reduceEq, Int.reduceLT, Int.reduceLE, Int.reduceAdd, Int.reduceSub, Int.reduceMul, Int.reduceNeg, Nat.reduceEqDiff, Nat.reduceLT, Nat.reduceBEq, zsI_c, zsI_k, zsI_s, zsR_c, zsR_k, zsR_s]
    exact hK _ (zadd_w x y).symm
  · simp only [zh_63_0, zh_63_40, zh_63_41, zh_63_42, zh_63_43, zh_63_44, zh_63_45, zh_63_46, zh_63_47, zh_63_48, zh_63_49, zh_63_50, zh_63_51, zh_63_52, zh_63_53, zh_63_54, zh_63_55, zh_63_56, zh_63_57, zh_63_58, zh_63_61, zh_63_62, zh_63_65, zh_63_66, zh_63_1, zwl_m1, zwl_0, zwl_1, zwl_2, zwl_3, zwl_4, zwl_5, zwl_6, zwl_7, zwl_8, zwl_10, zwl_15, zwl_24, zwl_32, zwl_33, zwl_40, zwl_41, zwl_42, zwl_43, zwl_45, zwl_47, zwl_48, zwl_52, zwl_56, zwl_57, zwl_59, zwl_60, zwl_61, zwl_63, zwl_64, zwl_66, zwl_67, zwl_68, zwl_70, zwl_75, zwl_77, zwl_80, zwl_82, zwl_84, zwl_88, zwl_89, zwl_97, zwl_104, zwl_110, zwl_112, zwl_114, zwl_118, zwl_123, zwl_125, zwl_126, zwl_159, zwl_160, zwl_200, zwl_255, zwl_480, zwl_960, zwl_3000, zs_kli, zs_klq, zs_kln, zs_wn, zs_wi, zs_wl, zs_wq, ↓zs_ok10, ↓zs_ok11, Option.toList_some, Option.toList_none, List.cons_append, List.nil_append, ↓reduceIte, Nat.reduceAdd, Nat.reduceLeDiff, true_and, and_true, Int.reduceEq, Int.reduceLT, Int.reduceLE, Int.reduceAdd, Int.reduceSub, Int.reduceMul, Int.reduceNeg, Nat.reduceEqDiff, Nat.reduceLT, Nat.reduceBEq, zsI_c, zsI_k, zsI_s, zsR_c, zsR_k, zsR_s]
    exact hK _ (zsub_w x y).symm
  · simp only [zh_63_0, zh_63_40, zh_63_41, zh_63_42, zh_63_43, zh_63_44, zh_63_45, zh_63_46, zh_63_47, zh_63_48, zh_63_49, zh_63_50, zh_63_51, zh_63_52, zh_63_53, zh_63_54, zh_63_55, zh_63_56, zh_63_57, zh_63_58, zh_63_61, zh_63_62, zh_63_65, zh_63_66, zh_63_1, zwl_m1, zwl_0, zwl_1, zwl_2, zwl_3, zwl_4, zwl_5, zwl_6, zwl_7, zwl_8, zwl_10, zwl_15, zwl_24, zwl_32, zwl_33, zwl_40, zwl_41, zwl_42, zwl_43, zwl_45, zwl_47, zwl_48, zwl_52, zwl_56, zwl_57, zwl_59, zwl_60, zwl_61, zwl_63, zwl_64, zwl_66, zwl_67, zwl_68, zwl_70, zwl_75, zwl_77, zwl_80, zwl_82, zwl_84, zwl_88, zwl_89, zwl_97, zwl_104, zwl_110, zwl_112, zwl_114, zwl_118, zwl_123, zwl_125, zwl_126, zwl_159, zwl_160, zwl_200, zwl_255, zwl_480, zwl_960, zwl_3000, zs_kli, zs_klq, zs_kln, zs_wn, zs_wi, zs_wl, zs_wq, ↓zs_ok10, ↓zs_ok11, Option.toList_some, Option.toList_none, List.cons_append, List.nil_append, ↓reduceIte, Nat.reduceAdd, Nat.reduceLeDiff, true_and, and_true, Int.reduceEq, Int.reduceLT, Int.reduceLE, Int.reduceAdd, Int.reduceSub, Int.reduceMul, Int.reduceNeg, Nat.reduceEqDiff, Nat.reduceLT, Nat.reduceBEq, zsI_c, zsI_k, zsI_s, zsR_c, zsR_k, zsR_s]
    exact hK _ (zmul_w x y).symm
  · have h0 : ¬ zw y = 0 := hy rfl
    simp only [zh_63_0, zh_63_40, zh_63_41, zh_63_42, zh_63_43, zh_63_44, zh_63_45, zh_63_46, zh_63_47, zh_63_48, zh_63_49, zh_63_50, zh_63_51, zh_63_52, zh_63_53, zh_63_54, zh_63_55, zh_63_56, zh_63_57, zh_63_58, zh_63_61, zh_63_62, zh_63_65, zh_63_66, zh_63_1, zwl_m1, zwl_0, zwl_1, zwl_2, zwl_3, zwl_4, zwl_5, zwl_6, zwl_7, zwl_8, zwl_10, zwl_15, zwl_24, zwl_32, zwl_33, zwl_40, zwl_41, zwl_42, zwl_43, zwl_45, zwl_47, zwl_48, zwl_52, zwl_56, zwl_57, zwl_59, zwl_60, zwl_61, zwl_63, zwl_64, zwl_66, zwl_67, zwl_68, zwl_70, zwl_75, zwl_77, zwl_80, zwl_82, zwl_84, zwl_88, zwl_89, zwl_97, zwl_104, zwl_110, zwl_112, zwl_114, zwl_118, zwl_123, zwl_125, zwl_126, zwl_159, zwl_160, zwl_200, zwl_255, zwl_480, zwl_960, zwl_3000, zs_kli, zs_klq, zs_kln, zs_wn, zs_wi, zs_wl, zs_wq, ↓zs_ok10, ↓zs_ok11, Option.toList_some, Option.toList_none, List.cons_append, List.nil_append, ↓reduceIte, Nat.reduceAdd, Nat.reduceLeDiff, true_and, and_true, Int.reduceEq, Int.reduceLT, Int.reduceLE, Int.reduceAdd, Int.reduceSub, Int.reduceMul, Int.reduceNeg, Nat.reduceEqDiff, Nat.reduceLT, Nat.reduceBEq, zsI_c, zsI_k, zsI_s, zsR_c, zsR_k, zsR_s, h0]
    refine hK _ ?_
    show _ = zw (zdiv (zw x) (zw y))
    rw [zdiv_w]
  · simp only [zh_63_0, zh_63_40, zh_63_41, zh_63_42, zh_63_43, zh_63_44, zh_63_45, zh_63_46, zh_63_47, zh_63_48, zh_63_49, zh_63_50, zh_63_51, zh_63_52, zh_63_53, zh_63_54, zh_63_55, zh_63_56, zh_63_57, zh_63_58, zh_63_61, zh_63_62, zh_63_65, zh_63_66, zh_63_1, zwl_m1, zwl_0, zwl_1, zwl_2, zwl_3, zwl_4, zwl_5, zwl_6, zwl_7, zwl_8, zwl_10, zwl_15, zwl_24, zwl_32, zwl_33, zwl_40, zwl_41, zwl_42, zwl_43, zwl_45, zwl_47, zwl_48, zwl_52, zwl_56, zwl_57, zwl_59, zwl_60, zwl_61, zwl_63, zwl_64, zwl_66, zwl_67, zwl_68, zwl_70, zwl_75, zwl_77, zwl_80, zwl_82, zwl_84, zwl_88, zwl_89, zwl_97, zwl_104, zwl_110, zwl_112, zwl_114, zwl_118, zwl_123, zwl_125, zwl_126, zwl_159, zwl_160, zwl_200, zwl_255, zwl_480, zwl_960, zwl_3000, zs_kli, zs_klq, zs_kln, zs_wn, zs_wi, zs_wl, zs_wq, ↓zs_ok10, ↓zs_ok11, Option.toList_some, Option.toList_none, List.cons_append, List.nil_append, ↓reduceIte, Nat.reduceAdd, Nat.reduceLeDiff, true_and, and_true, Int.reduceEq, Int.reduceLT, Int.reduceLE, Int.reduceAdd, Int.reduceSub, Int.reduceMul, Int.reduceNeg, Nat.reduceEqDiff, Nat.reduceLT, Nat.reduceBEq, zsI_c, zsI_k, zsI_s, zsR_c, zsR_k, zsR_s]
    by_cases hc : zw x < zw y
    · rw [if_pos hc]
      exact hK _ (by show zw 1 = if zw x < zw y then 1 else 0; rw [if_pos hc]; rfl)
    · rw [if_neg hc]
      exact hK _ (by show zw 0 = if zw x < zw y then 1 else 0; rw [if_neg hc]; rfl)
