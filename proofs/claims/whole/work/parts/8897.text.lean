/-! type: the bytes of a long -/
def by8 (w : Int) (r : Nat) : Int := ((((Int64.ofInt w).toBitVec.toNat >>> (8 * r)) % 256 : Nat) : Int)
theorem and255 (a : Nat) : a &&& 255 = a % 256 := Nat.and_two_pow_sub_one_eq_mod a 8
theorem b_c {w : Int} {r : Nat} (h : r < 8) : zand (zlushr w ((8 * r : Nat) : Int)) 255 = by8 w r := by
  have hs : ((Int32.ofInt ((8 * r : Nat) : Int)).toInt64.toUInt64 &&& Int64.toUInt64 63) = UInt64.ofNat (8 * r) := by
    match r, h with
    | 0, _ => decide +kernel
    | 1, _ => decide +kernel
    | 2, _ => decide +kernel
    | 3, _ => decide +kernel
    | 4, _ => decide +kernel
    | 5, _ => decide +kernel
    | 6, _ => decide +kernel
    | 7, _ => decide +kernel
  have hs2 : ((UInt64.ofNat (8 * r)).toBitVec % 64).toNat = 8 * r := by
    match r, h with
    | 0, _ => decide +kernel
    | 1, _ => decide +kernel
    | 2, _ => decide +kernel
    | 3, _ => decide +kernel
    | 4, _ => decide +kernel
    | 5, _ => decide +kernel
    | 6, _ => decide +kernel
    | 7, _ => decide +kernel
  unfold zlushr zand by8
  rw [hs]
  generalize Int64.ofInt w = x
  have e1 : (x.toUInt64 >>> UInt64.ofNat (8 * r)).toInt64.toInt = (x.toBitVec >>> (8 * r)).toInt := by
    show ((x.toUInt64 >>> UInt64.ofNat (8 * r)).toBitVec).toInt = _
    rw [UInt64.toBitVec_shiftRight, BitVec.ushiftRight_eq', hs2]
    rfl
  rw [e1, ← BitVec.toNat_ushiftRight]
  generalize x.toBitVec >>> (8 * r) = y
  show (BitVec.ofInt 32 y.toInt &&& BitVec.ofInt 32 255).toInt = _
  have e2 : (BitVec.ofInt 32 y.toInt &&& BitVec.ofInt 32 255).toNat = y.toNat % 256 := by
    have e3 : (BitVec.ofInt 32 255).toNat = 255 := by decide +kernel
    rw [BitVec.toNat_and, e3, and255, BitVec.toNat_ofInt, BitVec.toInt_eq_toNat_cond]
    have := y.isLt
    split <;> omega
  rw [BitVec.toInt_eq_toNat_of_lt (by rw [e2]; omega), e2]
theorem b_m {w : Int} {r : Nat} (h : r < 8) : zland (zlshr w ((8 * r : Nat) : Int)) 255 = by8 w r := by
  have hs : ((Int32.ofInt ((8 * r : Nat) : Int)).toInt64 &&& 63) = Int64.ofNat (8 * r) := by
    match r, h with
    | 0, _ => decide +kernel
    | 1, _ => decide +kernel
    | 2, _ => decide +kernel
    | 3, _ => decide +kernel
    | 4, _ => decide +kernel
    | 5, _ => decide +kernel
    | 6, _ => decide +kernel
    | 7, _ => decide +kernel
  have hs2 : ((Int64.ofNat (8 * r)).toBitVec.smod 64).toNat = 8 * r := by
    match r, h with
    | 0, _ => decide +kernel
    | 1, _ => decide +kernel
    | 2, _ => decide +kernel
    | 3, _ => decide +kernel
    | 4, _ => decide +kernel
    | 5, _ => decide +kernel
    | 6, _ => decide +kernel
    | 7, _ => decide +kernel
  unfold zlshr zland by8
  rw [hs, Int64.ofInt_toInt, ← BitVec.toNat_ushiftRight]
  show ((Int64.ofInt w >>> Int64.ofNat (8 * r)).toBitVec &&& BitVec.ofInt 64 255).toInt = _
  rw [Int64.toBitVec_shiftRight]
  generalize (Int64.ofInt w).toBitVec = x
  have e0 : x.sshiftRight' ((Int64.ofNat (8 * r)).toBitVec.smod 64) = x.sshiftRight (8 * r) := by
    unfold BitVec.sshiftRight'
    rw [hs2]
  have e1 : x.sshiftRight (8 * r) &&& BitVec.ofInt 64 255 = (x >>> (8 * r)) &&& BitVec.ofInt 64 255 := by
    apply BitVec.eq_of_getLsbD_eq
    intro i hi
    rw [BitVec.getLsbD_and, BitVec.getLsbD_and, BitVec.getLsbD_sshiftRight, BitVec.getLsbD_ushiftRight]
    by_cases q : i < 8
    · rw [if_pos (by omega)]
      have : decide (64 ≤ i) = false := by simp; omega
      rw [this]
      simp
    · have : (BitVec.ofInt 64 255).getLsbD i = false := by
        have e3 : BitVec.ofInt 64 255 = 255#64 := by decide +kernel
        rw [e3, BitVec.getLsbD_ofNat]
        have e4 : Nat.testBit 255 i = false := Nat.testBit_lt_two_pow (Nat.lt_of_lt_of_le (by decide : 255 < 2 ^ 8) (Nat.pow_le_pow_right (by decide) (by omega)))
        rw [e4]
        simp
      rw [this, Bool.and_false, Bool.and_false]
  rw [e0, e1]
  generalize x >>> (8 * r) = y
  have e2 : (y &&& BitVec.ofInt 64 255).toNat = y.toNat % 256 := by
    have e3 : (BitVec.ofInt 64 255).toNat = 255 := by decide +kernel
    rw [BitVec.toNat_and, e3, and255]
  rw [BitVec.toInt_eq_toNat_of_lt (by rw [e2]; omega), e2]
theorem by8_r {w : Int} {r : Nat} : 0 ≤ by8 w r ∧ by8 w r < 256 := by
  unfold by8
  omega
def okB (B : Nat → Int) (r : Nat) : Prop := ∀ j, j < r → B j = 0 ∨ (33 ≤ B j ∧ B j ≤ 126)
def cnB (B : Nat → Int) : Nat → Nat
  | 0 => 0
  | r + 1 => cnB B r + (if B r = 0 then 0 else 1)
theorem cnB_le {B : Nat → Int} : ∀ r, cnB B r ≤ r
  | 0 => Nat.le_refl _
  | r + 1 => by
    have := cnB_le (B := B) r
    rw [cnB]
    split <;> omega
/-- the text with the bytes behind it -/
def adB (B : Nat → Int) : Nat → (Nat → Int) → Nat → (Nat → Int)
  | 0, T, _ => T
  | r + 1, T, m => if B r = 0 then adB B r T m else adB B r (fun j => if j = m then B r else T j) (m + 1)
theorem adB_ok {B : Nat → Int} : ∀ (r : Nat) (T : Nat → Int) (m : Nat), okB B r → (∀ j, j < m → 33 ≤ T j ∧ T j ≤ 126) → ∀ j, j < m + cnB B r → 33 ≤ adB B r T m j ∧ adB B r T m j ≤ 126
  | 0, T, m, _, h, j, hj => h j hj
  | r + 1, T, m, ho, h, j, hj => by
    have ho' : okB B r := fun j hj => ho j (by omega)
    rw [adB]
    rw [cnB] at hj
    by_cases q : B r = 0
    · rw [if_pos q] at hj ⊢
      exact adB_ok r T m ho' h j hj
    · rw [if_neg q] at hj ⊢
      refine adB_ok r _ (m + 1) ho' (fun j hj => ?_) j (by omega)
      by_cases q2 : j = m
      · rw [if_pos q2]
        have := ho r (by omega)
        omega
      · rw [if_neg q2]; exact h j (by omega)
section
def BY (w : Int) (B : Nat → Int) : Prop := ∀ r : Nat, r < 8 → zand (zlushr w ((8 * r : Nat) : Int)) 255 = B r ∧ zland (zlshr w ((8 * r : Nat) : Int)) 255 = B r ∧ 0 ≤ B r ∧ B r < 256
theorem BY_ex (w : Int) : ∃ B, BY w B := ⟨by8 w, fun r h => ⟨b_c h, b_m h, by8_r.1, by8_r.2⟩⟩
variable {w : Int} {B : Nat → Int} {d : Nat} {R : zMR} {al : zA} {K : Option zV → zS → Prop}
theorem t13 {I : zMI} (hB : BY w B) (r : Nat) : ∀ (cn : Nat) (li ci : Int) (l4 : Option zV), r ≤ 8 → li = 8 * (r : Int) - 8 → ci = (cn : Int) → cn + r ≤ 8 → (okB B r → K (some (zi ((cn + cnB B r : Nat) : Int))) (I, R, al)) → (¬ okB B r → K (some (zi (-1))) (I, R, al)) → Zgo (d + 1) 13 5 [some (zl w), none, some (zi ci), some (zi li), l4] [] (I, R, al) K := by
  induction r with
  | zero =>
    intro cn li ci l4 hr hli hci hcn h1 h0
    have e1 : li = -8 := by omega
    have := h1 (fun j hj => by omega)
    rw [cnB, Nat.add_zero, ← hci] at this
    rw [e1, zh_13_5]
    simp only [zh_13_0, zh_13_1, zh_13_2, zh_13_4, zh_13_6, zh_13_9, zh_13_10, zh_13_11, zh_13_14, zh_13_16, zh_13_18, zh_13_21, zh_13_24, zh_13_26, zh_13_28, zh_13_31, zh_13_33, zh_13_35, zh_13_38, zh_13_39, zh_13_40, zh_13_43, zh_13_46, zh_13_49, zh_13_50, zwl_m1, zwl_0, zwl_1, zwl_2, zwl_3, zwl_4, zwl_5, zwl_6, zwl_7, zwl_8, zwl_10, zwl_15, zwl_24, zwl_32, zwl_33, zwl_40, zwl_41, zwl_42, zwl_43, zwl_45, zwl_47, zwl_48, zwl_52, zwl_56, zwl_57, zwl_59, zwl_60, zwl_61, zwl_63, zwl_64, zwl_66, zwl_67, zwl_68, zwl_70, zwl_75, zwl_77, zwl_80, zwl_82, zwl_84, zwl_88, zwl_89, zwl_97, zwl_104, zwl_110, zwl_112, zwl_114, zwl_118, zwl_123, zwl_125, zwl_126, zwl_159, zwl_160, zwl_200, zwl_255, zwl_480, zwl_960, zwl_3000, zs_kli, zs_klq, zs_kln, zs_wn, zs_wi, zs_wl, zs_wq, ↓zs_ok10, ↓zs_ok11, Option.toList_some, Option.toList_none, List.cons_append, List.nil_append, ↓reduceIte, Nat.reduceAdd, Nat.reduceLeDiff, true_and, and_true, Int.reduceEq, Int.reduceLT, Int.reduceLE, Int.reduceAdd, Int.reduceSub, Int.reduceMul, Int.reduceNeg, Nat.reduceEqDiff, Nat.reduceLT, Nat.reduceBEq, zsI_c, zsI_k, zsI_s, zsR_c, zsR_k, zsR_s]
    exact this
  | succ r ih =>
    intro cn li ci l4 hr hli hci hcn h1 h0
    have e1 : li = ((8 * r : Nat) : Int) := by omega
    have e2 : zw li = li := zw_i (by omega) (by omega)
    have e3 : ¬ li < 0 := by omega
    have e4 : zand (zlushr w li) 255 = B r := by rw [e1]; exact (hB r (by omega)).1
    have hb := (hB r (by omega)).2.2
    have e5 : zw (B r) = B r := zw_i (by omega) (by omega)
    rw [zh_13_5]
    simp only [zh_13_0, zh_13_1, zh_13_2, zh_13_4, zh_13_6, zh_13_9, zh_13_10, zh_13_11, zh_13_14, zh_13_16, zh_13_18, zh_13_21, zh_13_24, zh_13_26, zh_13_28, zh_13_31, zh_13_33, zh_13_35, zh_13_38, zh_13_39, zh_13_40, zh_13_43, zh_13_46, zh_13_49, zh_13_50, zwl_m1, zwl_0, zwl_1, zwl_2, zwl_3, zwl_4, zwl_5, zwl_6, zwl_7, zwl_8, zwl_10, zwl_15, zwl_24, zwl_32, zwl_33, zwl_40, zwl_41, zwl_42, zwl_43, zwl_45, zwl_47, zwl_48, zwl_52, zwl_56, zwl_57, zwl_59, zwl_60, zwl_61, zwl_63, zwl_64, zwl_66, zwl_67, zwl_68, zwl_70, zwl_75, zwl_77, zwl_80, zwl_82, zwl_84, zwl_88, zwl_89, zwl_97, zwl_104, zwl_110, zwl_112, zwl_114, zwl_118, zwl_123, zwl_125, zwl_126, zwl_159, zwl_160, zwl_200, zwl_255, zwl_480, zwl_960, zwl_3000, zs_kli, zs_klq, zs_kln, zs_wn, zs_wi, zs_wl, zs_wq, ↓zs_ok10, ↓zs_ok11, Option.toList_some, Option.toList_none, List.cons_append, List.nil_append, ↓reduceIte, Nat.reduceAdd, Nat.reduceLeDiff, true_and, and_true, Int.reduceEq, Int.reduceLT, Int.reduceLE, Int.reduceAdd, Int.reduceSub, Int.reduceMul, Int.reduceNeg, Nat.reduceEqDiff, Nat.reduceLT, Nat.reduceBEq, zsI_c, zsI_k, zsI_s, zsR_c, zsR_k, zsR_s, e2, e3]
    rw [zcp_14]
    simp only [zh_14_0, zh_14_1, zh_14_2, zh_14_3, zh_14_4, zh_14_7, zh_14_8, zh_13_0, zh_13_1, zh_13_2, zh_13_4, zh_13_6, zh_13_9, zh_13_10, zh_13_11, zh_13_14, zh_13_16, zh_13_18, zh_13_21, zh_13_24, zh_13_26, zh_13_28, zh_13_31, zh_13_33, zh_13_35, zh_13_38, zh_13_39, zh_13_40, zh_13_43, zh_13_46, zh_13_49, zh_13_50, zwl_m1, zwl_0, zwl_1, zwl_2, zwl_3, zwl_4, zwl_5, zwl_6, zwl_7, zwl_8, zwl_10, zwl_15, zwl_24, zwl_32, zwl_33, zwl_40, zwl_41, zwl_42, zwl_43, zwl_45, zwl_47, zwl_48, zwl_52, zwl_56, zwl_57, zwl_59, zwl_60, zwl_61, zwl_63, zwl_64, zwl_66, zwl_67, zwl_68, zwl_70, zwl_75, zwl_77, zwl_80, zwl_82, zwl_84, zwl_88, zwl_89, zwl_97, zwl_104, zwl_110, zwl_112, zwl_114, zwl_118, zwl_123, zwl_125, zwl_126, zwl_159, zwl_160, zwl_200, zwl_255, zwl_480, zwl_960, zwl_3000, zs_kli, zs_klq, zs_kln, zs_wn, zs_wi, zs_wl, zs_wq, ↓zs_ok10, ↓zs_ok11, Option.toList_some, Option.toList_none, List.cons_append, List.nil_append, ↓reduceIte, Nat.reduceAdd, Nat.reduceLeDiff, true_and, and_true, Int.reduceEq, Int.reduceLT, Int.reduceLE, Int.reduceAdd, Int.reduceSub, Int.reduceMul, Int.reduceNeg, Nat.reduceEqDiff, Nat.reduceLT, Nat.reduceBEq, zsI_c, zsI_k, zsI_s, zsR_c, zsR_k, zsR_s, e4]
    rw [cnB] at h1
    by_cases q : B r = 0
    · simp only [zh_14_0, zh_14_1, zh_14_2, zh_14_3, zh_14_4, zh_14_7, zh_14_8, zh_13_0, zh_13_1, zh_13_2, zh_13_4, zh_13_6, zh_13_9, zh_13_10, zh_13_11, zh_13_14, zh_13_16, zh_13_18, zh_13_21, zh_13_24, zh_13_26, zh_13_28, zh_13_31, zh_13_33, zh_13_35, zh_13_38, zh_13_39, zh_13_40, zh_13_43, zh_13_46, zh_13_49, zh_13_50, zwl_m1, zwl_0, zwl_1, zwl_2, zwl_3, zwl_4, zwl_5, zwl_6, zwl_7, zwl_8, zwl_10, zwl_15, zwl_24, zwl_32, zwl_33, zwl_40, zwl_41, zwl_42, zwl_43, zwl_45, zwl_47, zwl_48, zwl_52, zwl_56, zwl_57, zwl_59, zwl_60, zwl_61, zwl_63, zwl_64, zwl_66, zwl_67, zwl_68, zwl_70, zwl_75, zwl_77, zwl_80, zwl_82, zwl_84, zwl_88, zwl_89, zwl_97, zwl_104, zwl_110, zwl_112, zwl_114, zwl_118, zwl_123, zwl_125, zwl_126, zwl_159, zwl_160, zwl_200, zwl_255, zwl_480, zwl_960, zwl_3000, zs_kli, zs_klq, zs_kln, zs_wn, zs_wi, zs_wl, zs_wq, ↓zs_ok10, ↓zs_ok11, Option.toList_some, Option.toList_none, List.cons_append, List.nil_append, ↓reduceIte, Nat.reduceAdd, Nat.reduceLeDiff, true_and, and_true, Int.reduceEq, Int.reduceLT, Int.reduceLE, Int.reduceAdd, Int.reduceSub, Int.reduceMul, Int.reduceNeg, Nat.reduceEqDiff, Nat.reduceLT, Nat.reduceBEq, zsI_c, zsI_k, zsI_s, zsR_c, zsR_k, zsR_s, e5, q]
      rw [if_pos q] at h1
      exact ih cn _ _ _ (by omega) (by omega) hci (by omega) (fun ho => h1 (fun j hj => if e : j = r then by rw [e]; exact Or.inl q else ho j (by omega))) (fun ho => h0 (fun w => ho (fun j hj => w j (by omega))))
    · rw [if_neg q] at h1
      by_cases q2 : B r < 33
      · simp only [zh_14_0, zh_14_1, zh_14_2, zh_14_3, zh_14_4, zh_14_7, zh_14_8, zh_13_0, zh_13_1, zh_13_2, zh_13_4, zh_13_6, zh_13_9, zh_13_10, zh_13_11, zh_13_14, zh_13_16, zh_13_18, zh_13_21, zh_13_24, zh_13_26, zh_13_28, zh_13_31, zh_13_33, zh_13_35, zh_13_38, zh_13_39, zh_13_40, zh_13_43, zh_13_46, zh_13_49, zh_13_50, zwl_m1, zwl_0, zwl_1, zwl_2, zwl_3, zwl_4, zwl_5, zwl_6, zwl_7, zwl_8, zwl_10, zwl_15, zwl_24, zwl_32, zwl_33, zwl_40, zwl_41, zwl_42, zwl_43, zwl_45, zwl_47, zwl_48, zwl_52, zwl_56, zwl_57, zwl_59, zwl_60, zwl_61, zwl_63, zwl_64, zwl_66, zwl_67, zwl_68, zwl_70, zwl_75, zwl_77, zwl_80, zwl_82, zwl_84, zwl_88, zwl_89, zwl_97, zwl_104, zwl_110, zwl_112, zwl_114, zwl_118, zwl_123, zwl_125, zwl_126, zwl_159, zwl_160, zwl_200, zwl_255, zwl_480, zwl_960, zwl_3000, zs_kli, zs_klq, zs_kln, zs_wn, zs_wi, zs_wl, zs_wq, ↓zs_ok10, ↓zs_ok11, Option.toList_some, Option.toList_none, List.cons_append, List.nil_append, ↓reduceIte, Nat.reduceAdd, Nat.reduceLeDiff, true_and, and_true, Int.reduceEq, Int.reduceLT, Int.reduceLE, Int.reduceAdd, Int.reduceSub, Int.reduceMul, Int.reduceNeg, Nat.reduceEqDiff, Nat.reduceLT, Nat.reduceBEq, zsI_c, zsI_k, zsI_s, zsR_c, zsR_k, zsR_s, e5, q, q2]
        refine h0 (fun w => ?_)
        have := w r (by omega)
        omega
      · by_cases q3 : 126 < B r
        · simp only [zh_14_0, zh_14_1, zh_14_2, zh_14_3, zh_14_4, zh_14_7, zh_14_8, zh_13_0, zh_13_1, zh_13_2, zh_13_4, zh_13_6, zh_13_9, zh_13_10, zh_13_11, zh_13_14, zh_13_16, zh_13_18, zh_13_21, zh_13_24, zh_13_26, zh_13_28, zh_13_31, zh_13_33, zh_13_35, zh_13_38, zh_13_39, zh_13_40, zh_13_43, zh_13_46, zh_13_49, zh_13_50, zwl_m1, zwl_0, zwl_1, zwl_2, zwl_3, zwl_4, zwl_5, zwl_6, zwl_7, zwl_8, zwl_10, zwl_15, zwl_24, zwl_32, zwl_33, zwl_40, zwl_41, zwl_42, zwl_43, zwl_45, zwl_47, zwl_48, zwl_52, zwl_56, zwl_57, zwl_59, zwl_60, zwl_61, zwl_63, zwl_64, zwl_66, zwl_67, zwl_68, zwl_70, zwl_75, zwl_77, zwl_80, zwl_82, zwl_84, zwl_88, zwl_89, zwl_97, zwl_104, zwl_110, zwl_112, zwl_114, zwl_118, zwl_123, zwl_125, zwl_126, zwl_159, zwl_160, zwl_200, zwl_255, zwl_480, zwl_960, zwl_3000, zs_kli, zs_klq, zs_kln, zs_wn, zs_wi, zs_wl, zs_wq, ↓zs_ok10, ↓zs_ok11, Option.toList_some, Option.toList_none, List.cons_append, List.nil_append, ↓reduceIte, Nat.reduceAdd, Nat.reduceLeDiff, true_and, and_true, Int.reduceEq, Int.reduceLT, Int.reduceLE, Int.reduceAdd, Int.reduceSub, Int.reduceMul, Int.reduceNeg, Nat.reduceEqDiff, Nat.reduceLT, Nat.reduceBEq, zsI_c, zsI_k, zsI_s, zsR_c, zsR_k, zsR_s, e5, q, q2, q3]
          refine h0 (fun w => ?_)
          have := w r (by omega)
          omega
        · simp only [zh_14_0, zh_14_1, zh_14_2, zh_14_3, zh_14_4, zh_14_7, zh_14_8, zh_13_0, zh_13_1, zh_13_2, zh_13_4, zh_13_6, zh_13_9, zh_13_10, zh_13_11, zh_13_14, zh_13_16, zh_13_18, zh_13_21, zh_13_24, zh_13_26, zh_13_28, zh_13_31, zh_13_33, zh_13_35, zh_13_38, zh_13_39, zh_13_40, zh_13_43, zh_13_46, zh_13_49, zh_13_50, zwl_m1, zwl_0, zwl_1, zwl_2, zwl_3, zwl_4, zwl_5, zwl_6, zwl_7, zwl_8, zwl_10, zwl_15, zwl_24, zwl_32, zwl_33, zwl_40, zwl_41, zwl_42, zwl_43, zwl_45, zwl_47, zwl_48, zwl_52, zwl_56, zwl_57, zwl_59, zwl_60, zwl_61, zwl_63, zwl_64, zwl_66, zwl_67, zwl_68, zwl_70, zwl_75, zwl_77, zwl_80, zwl_82, zwl_84, zwl_88, zwl_89, zwl_97, zwl_104, zwl_110, zwl_112, zwl_114, zwl_118, zwl_123, zwl_125, zwl_126, zwl_159, zwl_160, zwl_200, zwl_255, zwl_480, zwl_960, zwl_3000, zs_kli, zs_klq, zs_kln, zs_wn, zs_wi, zs_wl, zs_wq, ↓zs_ok10, ↓zs_ok11, Option.toList_some, Option.toList_none, List.cons_append, List.nil_append, ↓reduceIte, Nat.reduceAdd, Nat.reduceLeDiff, true_and, and_true, Int.reduceEq, Int.reduceLT, Int.reduceLE, Int.reduceAdd, Int.reduceSub, Int.reduceMul, Int.reduceNeg, Nat.reduceEqDiff, Nat.reduceLT, Nat.reduceBEq, zsI_c, zsI_k, zsI_s, zsR_c, zsR_k, zsR_s, e5, q, q2, q3]
          have e6 : cn + (cnB B r + 1) = cn + 1 + cnB B r := by omega
          rw [e6] at h1
          exact ih (cn + 1) _ _ _ (by omega) (by omega) (by omega) (by omega) (fun ho => h1 (fun j hj => if e : j = r then by rw [e]; exact Or.inr ⟨by omega, by omega⟩ else ho j (by omega))) (fun ho => h0 (fun w => ho (fun j hj => w j (by omega))))
/-- the class appends -/
theorem t12 (hB : BY w B) (r : Nat) : ∀ (m : Nat) (T : Nat → Int) (I : zMI) (li : Int) (l3 l5 : Option zV), zkl l3 = l3 → Kon R → r ≤ 8 → li = 8 * (r : Int) - 8 → m + cnB B r ≤ 160 → I 1 0 1 = (m : Int) → (∀ j, j < m → I 20 0 j = T j) → (∀ I', (∀ t i k, t ≠ 20 → ¬ (t = 1 ∧ k = 1) → I' t i k = I t i k) → I' 1 0 1 = ((m + cnB B r : Nat) : Int) → (∀ j, j < m + cnB B r → I' 20 0 j = adB B r T m j) → K (some (zi 1)) (I', R, al)) → Zgo (d + 1) 12 28 [some (zq (some (1, 0))), some (zl w), none, l3, some (zi li), l5] [] (I, R, al) K := by
  induction r with
  | zero =>
    intro m T I li l3 l5 hl3 hK hr hli hm h1 h20 h
    have e1 : li = -8 := by omega
    rw [e1, zh_12_28]
    simp only [zh_12_0, zh_12_1, zh_12_4, zh_12_5, zh_12_6, zh_12_7, zh_12_10, zh_12_11, zh_12_14, zh_12_15, zh_12_16, zh_12_19, zh_12_22, zh_12_23, zh_12_24, zh_12_26, zh_12_30, zh_12_33, zh_12_34, zh_12_36, zh_12_39, zh_12_41, zh_12_43, zh_12_46, zh_12_47, zh_12_50, zh_12_51, zh_12_51q, zh_12_52, zh_12_55, zh_12_55r, zh_12_55qi, zh_12_55qr, zh_12_56, zh_12_57, zh_12_58, zh_12_61, zh_12_63, zh_12_64, zh_12_65, zh_12_68, zh_12_71, zh_12_72, zwl_m1, zwl_0, zwl_1, zwl_2, zwl_3, zwl_4, zwl_5, zwl_6, zwl_7, zwl_8, zwl_10, zwl_15, zwl_24, zwl_32, zwl_33, zwl_40, zwl_41, zwl_42, zwl_43, zwl_45, zwl_47, zwl_48, zwl_52, zwl_56, zwl_57, zwl_59, zwl_60, zwl_61, zwl_63, zwl_64, zwl_66, zwl_67, zwl_68, zwl_70, zwl_75, zwl_77, zwl_80, zwl_82, zwl_84, zwl_88, zwl_89, zwl_97, zwl_104, zwl_110, zwl_112, zwl_114, zwl_118, zwl_123, zwl_125, zwl_126, zwl_159, zwl_160, zwl_200, zwl_255, zwl_480, zwl_960, zwl_3000, zs_kli, zs_klq, zs_kln, zs_wn, zs_wi, zs_wl, zs_wq, ↓zs_ok10, ↓zs_ok11, Option.toList_some, Option.toList_none, List.cons_append, List.nil_append, ↓reduceIte, Nat.reduceAdd, Nat.reduceLeDiff, true_and, and_true, Int.reduceEq, Int.reduceLT, Int.reduceLE, Int.reduceAdd, Int.reduceSub, Int.reduceMul, Int.reduceNeg, Nat.reduceEqDiff, Nat.reduceLT, Nat.reduceBEq, zsI_c, zsI_k, zsI_s, zsR_c, zsR_k, zsR_s]
    exact h I (fun _ _ _ _ _ => rfl) h1 h20
  | succ r ih =>
    intro m T I li l3 l5 hl3 hK hr hli hm h1 h20 h
    have e1 : li = ((8 * r : Nat) : Int) := by omega
    have e2 : zw li = li := zw_i (by omega) (by omega)
    have e3 : ¬ li < 0 := by omega
    have e4 : zand (zlushr w li) 255 = B r := by rw [e1]; exact (hB r (by omega)).1
    have hb := (hB r (by omega)).2.2
    have e5 : zw (B r) = B r := zw_i (by omega) (by omega)
    have e6 : B r % 65536 = B r := by omega
    rw [zh_12_28]
    simp only [zh_12_0, zh_12_1, zh_12_4, zh_12_5, zh_12_6, zh_12_7, zh_12_10, zh_12_11, zh_12_14, zh_12_15, zh_12_16, zh_12_19, zh_12_22, zh_12_23, zh_12_24, zh_12_26, zh_12_30, zh_12_33, zh_12_34, zh_12_36, zh_12_39, zh_12_41, zh_12_43, zh_12_46, zh_12_47, zh_12_50, zh_12_51, zh_12_51q, zh_12_52, zh_12_55, zh_12_55r, zh_12_55qi, zh_12_55qr, zh_12_56, zh_12_57, zh_12_58, zh_12_61, zh_12_63, zh_12_64, zh_12_65, zh_12_68, zh_12_71, zh_12_72, zwl_m1, zwl_0, zwl_1, zwl_2, zwl_3, zwl_4, zwl_5, zwl_6, zwl_7, zwl_8, zwl_10, zwl_15, zwl_24, zwl_32, zwl_33, zwl_40, zwl_41, zwl_42, zwl_43, zwl_45, zwl_47, zwl_48, zwl_52, zwl_56, zwl_57, zwl_59, zwl_60, zwl_61, zwl_63, zwl_64, zwl_66, zwl_67, zwl_68, zwl_70, zwl_75, zwl_77, zwl_80, zwl_82, zwl_84, zwl_88, zwl_89, zwl_97, zwl_104, zwl_110, zwl_112, zwl_114, zwl_118, zwl_123, zwl_125, zwl_126, zwl_159, zwl_160, zwl_200, zwl_255, zwl_480, zwl_960, zwl_3000, zs_kli, zs_klq, zs_kln, zs_wn, zs_wi, zs_wl, zs_wq, ↓zs_ok10, ↓zs_ok11, Option.toList_some, Option.toList_none, List.cons_append, List.nil_append, ↓reduceIte, Nat.reduceAdd, Nat.reduceLeDiff, true_and, and_true, Int.reduceEq, Int.reduceLT, Int.reduceLE, Int.reduceAdd, Int.reduceSub, Int.reduceMul, Int.reduceNeg, Nat.reduceEqDiff, Nat.reduceLT, Nat.reduceBEq, zsI_c, zsI_k, zsI_s, zsR_c, zsR_k, zsR_s, e2, e3]
    rw [zcp_14]
    simp only [zh_14_0, zh_14_1, zh_14_2, zh_14_3, zh_14_4, zh_14_7, zh_14_8, zh_12_0, zh_12_1, zh_12_4, zh_12_5, zh_12_6, zh_12_7, zh_12_10, zh_12_11, zh_12_14, zh_12_15, zh_12_16, zh_12_19, zh_12_22, zh_12_23, zh_12_24, zh_12_26, zh_12_30, zh_12_33, zh_12_34, zh_12_36, zh_12_39, zh_12_41, zh_12_43, zh_12_46, zh_12_47, zh_12_50, zh_12_51, zh_12_51q, zh_12_52, zh_12_55, zh_12_55r, zh_12_55qi, zh_12_55qr, zh_12_56, zh_12_57, zh_12_58, zh_12_61, zh_12_63, zh_12_64, zh_12_65, zh_12_68, zh_12_71, zh_12_72, zwl_m1, zwl_0, zwl_1, zwl_2, zwl_3, zwl_4, zwl_5, zwl_6, zwl_7, zwl_8, zwl_10, zwl_15, zwl_24, zwl_32, zwl_33, zwl_40, zwl_41, zwl_42, zwl_43, zwl_45, zwl_47, zwl_48, zwl_52, zwl_56, zwl_57, zwl_59, zwl_60, zwl_61, zwl_63, zwl_64, zwl_66, zwl_67, zwl_68, zwl_70, zwl_75, zwl_77, zwl_80, zwl_82, zwl_84, zwl_88, zwl_89, zwl_97, zwl_104, zwl_110, zwl_112, zwl_114, zwl_118, zwl_123, zwl_125, zwl_126, zwl_159, zwl_160, zwl_200, zwl_255, zwl_480, zwl_960, zwl_3000, zs_kli, zs_klq, zs_kln, zs_wn, zs_wi, zs_wl, zs_wq, ↓zs_ok10, ↓zs_ok11, Option.toList_some, Option.toList_none, List.cons_append, List.nil_append, ↓reduceIte, Nat.reduceAdd, Nat.reduceLeDiff, true_and, and_true, Int.reduceEq, Int.reduceLT, Int.reduceLE, Int.reduceAdd, Int.reduceSub, Int.reduceMul, Int.reduceNeg, Nat.reduceEqDiff, Nat.reduceLT, Nat.reduceBEq, zsI_c, zsI_k, zsI_s, zsR_c, zsR_k, zsR_s, e4]
    rw [cnB] at hm h
    rw [adB] at h
    by_cases q : B r = 0
    · simp only [zh_14_0, zh_14_1, zh_14_2, zh_14_3, zh_14_4, zh_14_7, zh_14_8, zh_12_0, zh_12_1, zh_12_4, zh_12_5, zh_12_6, zh_12_7, zh_12_10, zh_12_11, zh_12_14, zh_12_15, zh_12_16, zh_12_19, zh_12_22, zh_12_23, zh_12_24, zh_12_26, zh_12_30, zh_12_33, zh_12_34, zh_12_36, zh_12_39, zh_12_41, zh_12_43, zh_12_46, zh_12_47, zh_12_50, zh_12_51, zh_12_51q, zh_12_52, zh_12_55, zh_12_55r, zh_12_55qi, zh_12_55qr, zh_12_56, zh_12_57, zh_12_58, zh_12_61, zh_12_63, zh_12_64, zh_12_65, zh_12_68, zh_12_71, zh_12_72, zwl_m1, zwl_0, zwl_1, zwl_2, zwl_3, zwl_4, zwl_5, zwl_6, zwl_7, zwl_8, zwl_10, zwl_15, zwl_24, zwl_32, zwl_33, zwl_40, zwl_41, zwl_42, zwl_43, zwl_45, zwl_47, zwl_48, zwl_52, zwl_56, zwl_57, zwl_59, zwl_60, zwl_61, zwl_63, zwl_64, zwl_66, zwl_67, zwl_68, zwl_70, zwl_75, zwl_77, zwl_80, zwl_82, zwl_84, zwl_88, zwl_89, zwl_97, zwl_104, zwl_110, zwl_112, zwl_114, zwl_118, zwl_123, zwl_125, zwl_126, zwl_159, zwl_160, zwl_200, zwl_255, zwl_480, zwl_960, zwl_3000, zs_kli, zs_klq, zs_kln, zs_wn, zs_wi, zs_wl, zs_wq, ↓zs_ok10, ↓zs_ok11, Option.toList_some, Option.toList_none, List.cons_append, List.nil_append, ↓reduceIte, Nat.reduceAdd, Nat.reduceLeDiff, true_and, and_true, Int.reduceEq, Int.reduceLT, Int.reduceLE, Int.reduceAdd, Int.reduceSub, Int.reduceMul, Int.reduceNeg, Nat.reduceEqDiff, Nat.reduceLT, Nat.reduceBEq, zsI_c, zsI_k, zsI_s, zsR_c, zsR_k, zsR_s, e5, q, hl3]
      rw [if_pos q] at hm h
      rw [if_pos q] at h
      exact ih m T I _ _ _ hl3 hK (by omega) (by omega) hm h1 h20 h
    · rw [if_neg q] at hm h
      rw [if_neg q] at h
      have hm1 : m < 160 := by omega
      generalize hmi : (m : Int) = mi at h1
      have e7 : mi + 1 = ((m + 1 : Nat) : Int) := by omega
      simp only [zh_14_0, zh_14_1, zh_14_2, zh_14_3, zh_14_4, zh_14_7, zh_14_8, zh_12_0, zh_12_1, zh_12_4, zh_12_5, zh_12_6, zh_12_7, zh_12_10, zh_12_11, zh_12_14, zh_12_15, zh_12_16, zh_12_19, zh_12_22, zh_12_23, zh_12_24, zh_12_26, zh_12_30, zh_12_33, zh_12_34, zh_12_36, zh_12_39, zh_12_41, zh_12_43, zh_12_46, zh_12_47, zh_12_50, zh_12_51, zh_12_51q, zh_12_52, zh_12_55, zh_12_55r, zh_12_55qi, zh_12_55qr, zh_12_56, zh_12_57, zh_12_58, zh_12_61, zh_12_63, zh_12_64, zh_12_65, zh_12_68, zh_12_71, zh_12_72, zwl_m1, zwl_0, zwl_1, zwl_2, zwl_3, zwl_4, zwl_5, zwl_6, zwl_7, zwl_8, zwl_10, zwl_15, zwl_24, zwl_32, zwl_33, zwl_40, zwl_41, zwl_42, zwl_43, zwl_45, zwl_47, zwl_48, zwl_52, zwl_56, zwl_57, zwl_59, zwl_60, zwl_61, zwl_63, zwl_64, zwl_66, zwl_67, zwl_68, zwl_70, zwl_75, zwl_77, zwl_80, zwl_82, zwl_84, zwl_88, zwl_89, zwl_97, zwl_104, zwl_110, zwl_112, zwl_114, zwl_118, zwl_123, zwl_125, zwl_126, zwl_159, zwl_160, zwl_200, zwl_255, zwl_480, zwl_960, zwl_3000, zs_kli, zs_klq, zs_kln, zs_wn, zs_wi, zs_wl, zs_wq, ↓zs_ok10, ↓zs_ok11, Option.toList_some, Option.toList_none, List.cons_append, List.nil_append, ↓reduceIte, Nat.reduceAdd, Nat.reduceLeDiff, true_and, and_true, Int.reduceEq, Int.reduceLT, Int.reduceLE, Int.reduceAdd, Int.reduceSub, Int.reduceMul, Int.reduceNeg, Nat.reduceEqDiff, Nat.reduceLT, Nat.reduceBEq, zsI_c, zsI_k, zsI_s, zsR_c, zsR_k, zsR_s, kon_0_0_0 hK, kon_0_0_1 hK, kon_0_0_2 hK, kon_0_0_3 hK, kon_0_0_4 hK, kon_1_0_0 hK, kon_6_0_0 hK, kon_6_0_1 hK, kon_6_0_4 hK, kon_7_0_0 hK, kon_7_0_1 hK, kon_7_0_2 hK, kon_7_0_3 hK, kon_7_0_7 hK, kon_7_0_8 hK, kon_8_0_0 hK, kon_8_0_1 hK, kon_9_0_0 hK, kon_10_0_0 hK, kon_10_0_1 hK, kon_10_0_9 hK, e5, q, hl3, h1, e6, ↓zb20 hmi.symm hm1]
      rw [e7]
      have e8 : m + (cnB B r + 1) = m + 1 + cnB B r := by omega
      rw [e8] at h
      refine ih (m + 1) (fun j => if j = m then B r else T j) _ _ _ _ hl3 hK (by omega) (by omega) (by omega) (by rw [zsI_ne (by omega), zsI_s]) (fun j hj => ?_) (fun I' f g1 g2 => h I' (fun t i k w1 w2 => by rw [f t i k w1 w2, zsI_n (by omega), zsI_n (by omega)]) g1 g2)
      by_cases q2 : j = m
      · show _ = if j = m then B r else T j
        rw [if_pos q2, q2, zsI_s]
      · show _ = if j = m then B r else T j
        rw [if_neg q2, zsI_n (by omega), zsI_n (by omega)]
        exact h20 j (by omega)
/-- the reference appends, or refuses -/
theorem t82 (hB : BY w B) {n : Nat} (r : Nat) : ∀ (m : Nat) (T : Nat → Int) (I : zMI) (li mi : Int) (l5 : Option zV), mi = (m : Int) → Kon R → r ≤ 8 → li = (r : Int) - 1 → m ≤ 160 → n ≤ m → (∀ j, j < m → I 30 0 j = T j) → (okB B r ∧ m + cnB B r ≤ 160 → ∀ I', (∀ t i k, t ≠ 30 → ¬ (t = 11 ∧ k = 2) → I' t i k = I t i k) → I' 11 0 2 = ((m + cnB B r : Nat) : Int) → (∀ j, j < m + cnB B r → I' 30 0 j = adB B r T m j) → K (some (zi 1)) (I', R, al)) → (¬ (okB B r ∧ m + cnB B r ≤ 160) → ∀ I', (∀ t i k, t ≠ 30 → I' t i k = I t i k) → (∀ j, j < n → I' 30 0 j = I 30 0 j) → K (some (zi 0)) (I', R, al)) → Zgo (d + 1) 82 14 [some (zq (some (11, 0))), some (zl w), none, some (zi mi), some (zi li), l5] [] (I, R, al) K := by
  induction r with
  | zero =>
    intro m T I li mi l5 hmi hK hr hli hm hn h30 h h0
    have e1 : li = -1 := by omega
    rw [e1, zh_82_14]
    simp only [zh_82_0, zh_82_1, zh_82_2, zh_82_5, zh_82_6, zh_82_9, zh_82_10, zh_82_12, zh_82_16, zh_82_19, zh_82_20, zh_82_22, zh_82_24, zh_82_25, zh_82_26, zh_82_29, zh_82_30, zh_82_31, zh_82_33, zh_82_35, zh_82_38, zh_82_40, zh_82_42, zh_82_45, zh_82_47, zh_82_49, zh_82_52, zh_82_53, zh_82_56, zh_82_59, zh_82_60, zh_82_61, zh_82_62, zh_82_65, zh_82_66, zh_82_68, zh_82_69, zh_82_72, zh_82_75, zh_82_78, zh_82_79, zh_82_80, zh_82_83, zh_82_84, zwl_m1, zwl_0, zwl_1, zwl_2, zwl_3, zwl_4, zwl_5, zwl_6, zwl_7, zwl_8, zwl_10, zwl_15, zwl_24, zwl_32, zwl_33, zwl_40, zwl_41, zwl_42, zwl_43, zwl_45, zwl_47, zwl_48, zwl_52, zwl_56, zwl_57, zwl_59, zwl_60, zwl_61, zwl_63, zwl_64, zwl_66, zwl_67, zwl_68, zwl_70, zwl_75, zwl_77, zwl_80, zwl_82, zwl_84, zwl_88, zwl_89, zwl_97, zwl_104, zwl_110, zwl_112, zwl_114, zwl_118, zwl_123, zwl_125, zwl_126, zwl_159, zwl_160, zwl_200, zwl_255, zwl_480, zwl_960, zwl_3000, zs_kli, zs_klq, zs_kln, zs_wn, zs_wi, zs_wl, zs_wq, ↓zs_ok10, ↓zs_ok11, Option.toList_some, Option.toList_none, List.cons_append, List.nil_append, ↓reduceIte, Nat.reduceAdd, Nat.reduceLeDiff, true_and, and_true, Int.reduceEq, Int.reduceLT, Int.reduceLE, Int.reduceAdd, Int.reduceSub, Int.reduceMul, Int.reduceNeg, Nat.reduceEqDiff, Nat.reduceLT, Nat.reduceBEq, zsI_c, zsI_k, zsI_s, zsR_c, zsR_k, zsR_s]
    rw [hmi]
    exact h ⟨fun j hj => by omega, hm⟩ _ (fun t i k w1 w2 => zsI_n (by omega)) (zsI_s ..) (fun j hj => by rw [zsI_n (by omega)]; exact h30 j hj)
  | succ r ih =>
    intro m T I li mi l5 hmi hK hr hli hm hn h30 h h0
    have e1 : 8 * li = ((8 * r : Nat) : Int) := by omega
    have e2 : zw li = li := zw_i (by omega) (by omega)
    have e3 : ¬ li < 0 := by omega
    have e4 : zland (zlshr w (8 * li)) 255 = B r := by rw [e1]; exact (hB r (by omega)).2.1
    have hb := (hB r (by omega)).2.2
    have e5 : zw (B r) = B r := zw_i (by omega) (by omega)
    have e9 : zw mi = mi := zw_i (by omega) (by omega)
    rw [zh_82_14]
    simp only [zh_82_0, zh_82_1, zh_82_2, zh_82_5, zh_82_6, zh_82_9, zh_82_10, zh_82_12, zh_82_16, zh_82_19, zh_82_20, zh_82_22, zh_82_24, zh_82_25, zh_82_26, zh_82_29, zh_82_30, zh_82_31, zh_82_33, zh_82_35, zh_82_38, zh_82_40, zh_82_42, zh_82_45, zh_82_47, zh_82_49, zh_82_52, zh_82_53, zh_82_56, zh_82_59, zh_82_60, zh_82_61, zh_82_62, zh_82_65, zh_82_66, zh_82_68, zh_82_69, zh_82_72, zh_82_75, zh_82_78, zh_82_79, zh_82_80, zh_82_83, zh_82_84, zwl_m1, zwl_0, zwl_1, zwl_2, zwl_3, zwl_4, zwl_5, zwl_6, zwl_7, zwl_8, zwl_10, zwl_15, zwl_24, zwl_32, zwl_33, zwl_40, zwl_41, zwl_42, zwl_43, zwl_45, zwl_47, zwl_48, zwl_52, zwl_56, zwl_57, zwl_59, zwl_60, zwl_61, zwl_63, zwl_64, zwl_66, zwl_67, zwl_68, zwl_70, zwl_75, zwl_77, zwl_80, zwl_82, zwl_84, zwl_88, zwl_89, zwl_97, zwl_104, zwl_110, zwl_112, zwl_114, zwl_118, zwl_123, zwl_125, zwl_126, zwl_159, zwl_160, zwl_200, zwl_255, zwl_480, zwl_960, zwl_3000, zs_kli, zs_klq, zs_kln, zs_wn, zs_wi, zs_wl, zs_wq, ↓zs_ok10, ↓zs_ok11, Option.toList_some, Option.toList_none, List.cons_append, List.nil_append, ↓reduceIte, Nat.reduceAdd, Nat.reduceLeDiff, true_and, and_true, Int.reduceEq, Int.reduceLT, Int.reduceLE, Int.reduceAdd, Int.reduceSub, Int.reduceMul, Int.reduceNeg, Nat.reduceEqDiff, Nat.reduceLT, Nat.reduceBEq, zsI_c, zsI_k, zsI_s, zsR_c, zsR_k, zsR_s, e2, e3, e4]
    rw [cnB] at h h0
    rw [adB] at h
    by_cases q : B r = 0
    · simp only [zh_82_0, zh_82_1, zh_82_2, zh_82_5, zh_82_6, zh_82_9, zh_82_10, zh_82_12, zh_82_16, zh_82_19, zh_82_20, zh_82_22, zh_82_24, zh_82_25, zh_82_26, zh_82_29, zh_82_30, zh_82_31, zh_82_33, zh_82_35, zh_82_38, zh_82_40, zh_82_42, zh_82_45, zh_82_47, zh_82_49, zh_82_52, zh_82_53, zh_82_56, zh_82_59, zh_82_60, zh_82_61, zh_82_62, zh_82_65, zh_82_66, zh_82_68, zh_82_69, zh_82_72, zh_82_75, zh_82_78, zh_82_79, zh_82_80, zh_82_83, zh_82_84, zwl_m1, zwl_0, zwl_1, zwl_2, zwl_3, zwl_4, zwl_5, zwl_6, zwl_7, zwl_8, zwl_10, zwl_15, zwl_24, zwl_32, zwl_33, zwl_40, zwl_41, zwl_42, zwl_43, zwl_45, zwl_47, zwl_48, zwl_52, zwl_56, zwl_57, zwl_59, zwl_60, zwl_61, zwl_63, zwl_64, zwl_66, zwl_67, zwl_68, zwl_70, zwl_75, zwl_77, zwl_80, zwl_82, zwl_84, zwl_88, zwl_89, zwl_97, zwl_104, zwl_110, zwl_112, zwl_114, zwl_118, zwl_123, zwl_125, zwl_126, zwl_159, zwl_160, zwl_200, zwl_255, zwl_480, zwl_960, zwl_3000, zs_kli, zs_klq, zs_kln, zs_wn, zs_wi, zs_wl, zs_wq, ↓zs_ok10, ↓zs_ok11, Option.toList_some, Option.toList_none, List.cons_append, List.nil_append, ↓reduceIte, Nat.reduceAdd, Nat.reduceLeDiff, true_and, and_true, Int.reduceEq, Int.reduceLT, Int.reduceLE, Int.reduceAdd, Int.reduceSub, Int.reduceMul, Int.reduceNeg, Nat.reduceEqDiff, Nat.reduceLT, Nat.reduceBEq, zsI_c, zsI_k, zsI_s, zsR_c, zsR_k, zsR_s, e5, q]
      rw [if_pos q] at h h0
      rw [if_pos q] at h
      exact ih m T I _ _ _ hmi hK (by omega) (by omega) hm hn h30 (fun ho => h ⟨fun j hj => if e : j = r then by rw [e]; exact Or.inl q else ho.1 j (by omega), ho.2⟩) (fun ho => h0 (fun w => ho ⟨fun j hj => w.1 j (by omega), w.2⟩))
    · rw [if_neg q] at h h0
      rw [if_neg q] at h
      by_cases q2 : B r < 33
      · simp only [zh_82_0, zh_82_1, zh_82_2, zh_82_5, zh_82_6, zh_82_9, zh_82_10, zh_82_12, zh_82_16, zh_82_19, zh_82_20, zh_82_22, zh_82_24, zh_82_25, zh_82_26, zh_82_29, zh_82_30, zh_82_31, zh_82_33, zh_82_35, zh_82_38, zh_82_40, zh_82_42, zh_82_45, zh_82_47, zh_82_49, zh_82_52, zh_82_53, zh_82_56, zh_82_59, zh_82_60, zh_82_61, zh_82_62, zh_82_65, zh_82_66, zh_82_68, zh_82_69, zh_82_72, zh_82_75, zh_82_78, zh_82_79, zh_82_80, zh_82_83, zh_82_84, zwl_m1, zwl_0, zwl_1, zwl_2, zwl_3, zwl_4, zwl_5, zwl_6, zwl_7, zwl_8, zwl_10, zwl_15, zwl_24, zwl_32, zwl_33, zwl_40, zwl_41, zwl_42, zwl_43, zwl_45, zwl_47, zwl_48, zwl_52, zwl_56, zwl_57, zwl_59, zwl_60, zwl_61, zwl_63, zwl_64, zwl_66, zwl_67, zwl_68, zwl_70, zwl_75, zwl_77, zwl_80, zwl_82, zwl_84, zwl_88, zwl_89, zwl_97, zwl_104, zwl_110, zwl_112, zwl_114, zwl_118, zwl_123, zwl_125, zwl_126, zwl_159, zwl_160, zwl_200, zwl_255, zwl_480, zwl_960, zwl_3000, zs_kli, zs_klq, zs_kln, zs_wn, zs_wi, zs_wl, zs_wq, ↓zs_ok10, ↓zs_ok11, Option.toList_some, Option.toList_none, List.cons_append, List.nil_append, ↓reduceIte, Nat.reduceAdd, Nat.reduceLeDiff, true_and, and_true, Int.reduceEq, Int.reduceLT, Int.reduceLE, Int.reduceAdd, Int.reduceSub, Int.reduceMul, Int.reduceNeg, Nat.reduceEqDiff, Nat.reduceLT, Nat.reduceBEq, zsI_c, zsI_k, zsI_s, zsR_c, zsR_k, zsR_s, e5, q, q2]
        refine h0 (fun w => ?_) I (fun _ _ _ _ => rfl) (fun _ _ => rfl)
        have := w.1 r (by omega)
        omega
      · by_cases q3 : 126 < B r
        · simp only [zh_82_0, zh_82_1, zh_82_2, zh_82_5, zh_82_6, zh_82_9, zh_82_10, zh_82_12, zh_82_16, zh_82_19, zh_82_20, zh_82_22, zh_82_24, zh_82_25, zh_82_26, zh_82_29, zh_82_30, zh_82_31, zh_82_33, zh_82_35, zh_82_38, zh_82_40, zh_82_42, zh_82_45, zh_82_47, zh_82_49, zh_82_52, zh_82_53, zh_82_56, zh_82_59, zh_82_60, zh_82_61, zh_82_62, zh_82_65, zh_82_66, zh_82_68, zh_82_69, zh_82_72, zh_82_75, zh_82_78, zh_82_79, zh_82_80, zh_82_83, zh_82_84, zwl_m1, zwl_0, zwl_1, zwl_2, zwl_3, zwl_4, zwl_5, zwl_6, zwl_7, zwl_8, zwl_10, zwl_15, zwl_24, zwl_32, zwl_33, zwl_40, zwl_41, zwl_42, zwl_43, zwl_45, zwl_47, zwl_48, zwl_52, zwl_56, zwl_57, zwl_59, zwl_60, zwl_61, zwl_63, zwl_64, zwl_66, zwl_67, zwl_68, zwl_70, zwl_75, zwl_77, zwl_80, zwl_82, zwl_84, zwl_88, zwl_89, zwl_97, zwl_104, zwl_110, zwl_112, zwl_114, zwl_118, zwl_123, zwl_125, zwl_126, zwl_159, zwl_160, zwl_200, zwl_255, zwl_480, zwl_960, zwl_3000, zs_kli, zs_klq, zs_kln, zs_wn, zs_wi, zs_wl, zs_wq, ↓zs_ok10, ↓zs_ok11, Option.toList_some, Option.toList_none, List.cons_append, List.nil_append, ↓reduceIte, Nat.reduceAdd, Nat.reduceLeDiff, true_and, and_true, Int.reduceEq, Int.reduceLT, Int.reduceLE, Int.reduceAdd, Int.reduceSub, Int.reduceMul, Int.reduceNeg, Nat.reduceEqDiff, Nat.reduceLT, Nat.reduceBEq, zsI_c, zsI_k, zsI_s, zsR_c, zsR_k, zsR_s, e5, q, q2, q3]
          refine h0 (fun w => ?_) I (fun _ _ _ _ => rfl) (fun _ _ => rfl)
          have := w.1 r (by omega)
          omega
        · by_cases q4 : mi = 160
          · simp only [zh_82_0, zh_82_1, zh_82_2, zh_82_5, zh_82_6, zh_82_9, zh_82_10, zh_82_12, zh_82_16, zh_82_19, zh_82_20, zh_82_22, zh_82_24, zh_82_25, zh_82_26, zh_82_29, zh_82_30, zh_82_31, zh_82_33, zh_82_35, zh_82_38, zh_82_40, zh_82_42, zh_82_45, zh_82_47, zh_82_49, zh_82_52, zh_82_53, zh_82_56, zh_82_59, zh_82_60, zh_82_61, zh_82_62, zh_82_65, zh_82_66, zh_82_68, zh_82_69, zh_82_72, zh_82_75, zh_82_78, zh_82_79, zh_82_80, zh_82_83, zh_82_84, zwl_m1, zwl_0, zwl_1, zwl_2, zwl_3, zwl_4, zwl_5, zwl_6, zwl_7, zwl_8, zwl_10, zwl_15, zwl_24, zwl_32, zwl_33, zwl_40, zwl_41, zwl_42, zwl_43, zwl_45, zwl_47, zwl_48, zwl_52, zwl_56, zwl_57, zwl_59, zwl_60, zwl_61, zwl_63, zwl_64, zwl_66, zwl_67, zwl_68, zwl_70, zwl_75, zwl_77, zwl_80, zwl_82, zwl_84, zwl_88, zwl_89, zwl_97, zwl_104, zwl_110, zwl_112, zwl_114, zwl_118, zwl_123, zwl_125, zwl_126, zwl_159, zwl_160, zwl_200, zwl_255, zwl_480, zwl_960, zwl_3000, zs_kli, zs_klq, zs_kln, zs_wn, zs_wi, zs_wl, zs_wq, ↓zs_ok10, ↓zs_ok11, Option.toList_some, Option.toList_none, List.cons_append, List.nil_append, ↓reduceIte, Nat.reduceAdd, Nat.reduceLeDiff, true_and, and_true, Int.reduceEq, Int.reduceLT, Int.reduceLE, Int.reduceAdd, Int.reduceSub, Int.reduceMul, Int.reduceNeg, Nat.reduceEqDiff, Nat.reduceLT, Nat.reduceBEq, zsI_c, zsI_k, zsI_s, zsR_c, zsR_k, zsR_s, e5, q, q2, q3, q4]
            refine h0 (fun w => ?_) I (fun _ _ _ _ => rfl) (fun _ _ => rfl)
            have := w.2
            omega
          · have hm1 : m < 160 := by omega
            have e8 : m + (cnB B r + 1) = m + 1 + cnB B r := by omega
            rw [e8] at h h0
            simp only [zh_82_0, zh_82_1, zh_82_2, zh_82_5, zh_82_6, zh_82_9, zh_82_10, zh_82_12, zh_82_16, zh_82_19, zh_82_20, zh_82_22, zh_82_24, zh_82_25, zh_82_26, zh_82_29, zh_82_30, zh_82_31, zh_82_33, zh_82_35, zh_82_38, zh_82_40, zh_82_42, zh_82_45, zh_82_47, zh_82_49, zh_82_52, zh_82_53, zh_82_56, zh_82_59, zh_82_60, zh_82_61, zh_82_62, zh_82_65, zh_82_66, zh_82_68, zh_82_69, zh_82_72, zh_82_75, zh_82_78, zh_82_79, zh_82_80, zh_82_83, zh_82_84, zwl_m1, zwl_0, zwl_1, zwl_2, zwl_3, zwl_4, zwl_5, zwl_6, zwl_7, zwl_8, zwl_10, zwl_15, zwl_24, zwl_32, zwl_33, zwl_40, zwl_41, zwl_42, zwl_43, zwl_45, zwl_47, zwl_48, zwl_52, zwl_56, zwl_57, zwl_59, zwl_60, zwl_61, zwl_63, zwl_64, zwl_66, zwl_67, zwl_68, zwl_70, zwl_75, zwl_77, zwl_80, zwl_82, zwl_84, zwl_88, zwl_89, zwl_97, zwl_104, zwl_110, zwl_112, zwl_114, zwl_118, zwl_123, zwl_125, zwl_126, zwl_159, zwl_160, zwl_200, zwl_255, zwl_480, zwl_960, zwl_3000, zs_kli, zs_klq, zs_kln, zs_wn, zs_wi, zs_wl, zs_wq, ↓zs_ok10, ↓zs_ok11, Option.toList_some, Option.toList_none, List.cons_append, List.nil_append, ↓reduceIte, Nat.reduceAdd, Nat.reduceLeDiff, true_and, and_true, Int.reduceEq, Int.reduceLT, Int.reduceLE, Int.reduceAdd, Int.reduceSub, Int.reduceMul, Int.reduceNeg, Nat.reduceEqDiff, Nat.reduceLT, Nat.reduceBEq, zsI_c, zsI_k, zsI_s, zsR_c, zsR_k, zsR_s, kon_11_0_1 hK, kon_11_0_7 hK, kon_11_0_8 hK, kon_11_0_9 hK, kon_11_0_11 hK, kon_11_0_12 hK, kon_11_0_13 hK, kon_11_0_14 hK, kon_11_0_15 hK, kon_11_0_16 hK, kon_11_0_17 hK, kon_11_0_18 hK, kon_11_0_19 hK, kon_11_0_20 hK, kon_11_0_21 hK, kon_11_0_23 hK, kon_11_0_24 hK, kon_11_0_25 hK, kon_11_0_26 hK, kon_11_0_27 hK, kon_11_0_29 hK, kon_11_0_30 hK, kon_11_0_31 hK, kon_11_0_32 hK, kon_11_0_33 hK, kon_11_0_34 hK, kon_11_0_42 hK, kon_11_0_43 hK, kon_11_0_44 hK, kon_11_0_45 hK, kon_11_0_46 hK, kon_11_0_47 hK, kon_11_0_48 hK, kon_11_0_49 hK, kon_11_0_54 hK, e5, q, q2, q3, q4, e9, ↓zb30 hmi hm1]
            refine ih (m + 1) (fun j => if j = m then B r else T j) _ _ _ _ (by omega) hK (by omega) (by omega) (by omega) (by omega) (fun j hj => ?_) (fun ho I' f g1 g2 => h ⟨fun j hj => if e : j = r then by rw [e]; exact Or.inr ⟨by omega, by omega⟩ else ho.1 j (by omega), ho.2⟩ I' (fun t i k w1 w2 => by rw [f t i k w1 w2, zsI_n (by omega)]) g1 g2) (fun ho I' f g => h0 (fun w => ho ⟨fun j hj => w.1 j (by omega), w.2⟩) I' (fun t i k w1 => by rw [f t i k w1, zsI_n (by omega)]) (fun j hj => by rw [g j hj, zsI_n (by omega)]))
            by_cases q2 : j = m
            · show _ = if j = m then B r else T j
              rw [if_pos q2, q2, zsI_s]
            · show _ = if j = m then B r else T j
              rw [if_neg q2, zsI_n (by omega)]
              exact h30 j (by omega)
end
