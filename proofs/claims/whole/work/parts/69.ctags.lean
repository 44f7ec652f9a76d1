/-! the class works the tags out: statements, blocks, procedures -/
section
variable {d s b n D : Nat} {P : Nat → Nat → Int} {I : zMI} {R : zMR} {al : zA} {K : Option zV → zS → Prop}
theorem Us.not (hN : ¬ (P 34 s = 63 ∨ P 34 s = 64 ∨ P 34 s = 89)) (hB : BlN P s) {z : Nat} (h : Us P n s z) : ¬ idl P z := by
  rcases h with rfl | ⟨j, c, j1, j2, j3⟩
  · exact fun q => hN (Or.inr (Or.inr q.2.1))
  · have := hB.2.2.2.1 hN j j1
    omega
theorem orU_0 {g : Nat → Nat} : ∀ (n acc a : Nat), (∀ j, a ≤ j → j < a + n → g j = 0) → orU g acc a n = acc
  | 0, _, _, _ => rfl
  | n + 1, acc, a, h => by rw [orU, h a (by omega) (by omega), Nat.or_zero]; exact orU_0 n acc _ (fun j h1 h2 => h j (by omega) (by omega))
theorem kidT_m {r : Nat → Nat} {j : Nat} (h : P 38 (6 * s + j) = -1) : kidT P r s j = 0 := by
  unfold kidT
  rw [if_pos (by omega)]
theorem ts_stmt (hP : PWf P) (hT : TgR P) (hCk : Chk P) (hb : ∀ c, c < nB P → P 100 c = P 100 b + 1 → TB P R al D n c) (hs : s < nS P) (hsb : P 42 s = (b : Int)) (hbn : b < nB P) (hD : D + 2 ≤ d) (hC : CT I R P) (h : ∀ I', FrG I I' → Fl P I I' (Us P n s) → K (some (zi (stT P (rT P) s : Nat))) (I', R, al)) : zCp (d + 2) 53 [zq (some (9, 0)), zq (some (4, s))] (I, R, al) K := by
  have hw := hP.2.2.2.2.2.1 s hs
  have hN := hw.2.2.2.2.2.2.2.2.2.2.2
  obtain ⟨s1, s2, s3, s4⟩ := (hC.2.1 s hs).1
  have hS := (hC.2.1 s hs).2.1
  rw [zcp_53]
  have hplain : ¬ (P 34 s = 63 ∨ P 34 s = 64 ∨ P 34 s = 89) → K (some (zi (stT P (rT P) s : Nat))) (I, R, al) := fun q => h I FrG.rfl (Fl.none (fun z hz => hz.not q hN))
  have hzero : ¬ (P 34 s = 63 ∨ P 34 s = 64 ∨ P 34 s = 89 ∨ P 34 s = 84 ∨ P 34 s = 88 ∨ P 34 s = 80) → stT P (rT P) s = 0 := fun q => by
    unfold stT
    rw [if_neg (by omega), if_neg (by omega), if_neg (by omega), if_neg (by omega)]
    exact orU_0 _ _ _ (fun j _ hj => kidT_m (hN.2.2.2.1 (by omega) j (by omega)))
  rcases hw.1 with k | k | k | k | k | k | k | k | k | k | k
  · have h0 := hplain (by omega)
    rw [hzero (by omega)] at h0
    rw [k] at s1
    simp only [zh_53_0, zh_53_1, zh_53_64, zh_53_65, zh_53_66, zh_53_69, zh_53_70, zh_53_71, zh_53_72, zh_53_73, zh_53_76, zh_53_79, zh_53_80, zh_53_81, zh_53_82, zh_53_85, zh_53_86, zh_53_87, zh_53_88, zh_53_91, zh_53_94, zh_53_95, zh_53_96, zh_53_99, zh_53_102, zh_53_103, zh_53_104, zh_53_105, zh_53_106, zh_53_109, zh_53_110, zh_53_111, zh_53_4, zwl_m1, zwl_0, zwl_1, zwl_2, zwl_3, zwl_4, zwl_5, zwl_6, zwl_7, zwl_8, zwl_10, zwl_15, zwl_24, zwl_32, zwl_33, zwl_40, zwl_41, zwl_42, zwl_43, zwl_45, zwl_47, zwl_48, zwl_52, zwl_56, zwl_57, zwl_59, zwl_60, zwl_61, zwl_63, zwl_64, zwl_66, zwl_67, zwl_68, zwl_70, zwl_75, zwl_77, zwl_80, zwl_82, zwl_84, zwl_88, zwl_89, zwl_97, zwl_104, zwl_110, zwl_112, zwl_114, zwl_118, zwl_123, zwl_125, zwl_126, zwl_159, zwl_160, zwl_200, zwl_255, zwl_480, zwl_960, zwl_3000, zs_kli, zs_klq, zs_kln, zs_wn, zs_wi, zs_wl, zs_wq, ↓zs_ok10, ↓zs_ok11, Option.toList_some, Option.toList_none, List.cons_append, List.nil_append, ↓reduceIte, Nat.reduceAdd, Nat.reduceLeDiff, true_and, and_true, Int.reduceEq, Int.reduceLT, Int.reduceLE, Int.reduceAdd, Int.reduceSub, Int.reduceMul, Int.reduceNeg, Nat.reduceEqDiff, Nat.reduceLT, Nat.reduceBEq, zsI_c, zsI_k, zsI_s, zsR_c, zsR_k, zsR_s, s1]
    exact h0
  · have h0 := hplain (by omega)
    rw [hzero (by omega)] at h0
    rw [k] at s1
    simp only [zh_53_0, zh_53_1, zh_53_64, zh_53_65, zh_53_66, zh_53_69, zh_53_70, zh_53_71, zh_53_72, zh_53_73, zh_53_76, zh_53_79, zh_53_80, zh_53_81, zh_53_82, zh_53_85, zh_53_86, zh_53_87, zh_53_88, zh_53_91, zh_53_94, zh_53_95, zh_53_96, zh_53_99, zh_53_102, zh_53_103, zh_53_104, zh_53_105, zh_53_106, zh_53_109, zh_53_110, zh_53_111, zh_53_4, zwl_m1, zwl_0, zwl_1, zwl_2, zwl_3, zwl_4, zwl_5, zwl_6, zwl_7, zwl_8, zwl_10, zwl_15, zwl_24, zwl_32, zwl_33, zwl_40, zwl_41, zwl_42, zwl_43, zwl_45, zwl_47, zwl_48, zwl_52, zwl_56, zwl_57, zwl_59, zwl_60, zwl_61, zwl_63, zwl_64, zwl_66, zwl_67, zwl_68, zwl_70, zwl_75, zwl_77, zwl_80, zwl_82, zwl_84, zwl_88, zwl_89, zwl_97, zwl_104, zwl_110, zwl_112, zwl_114, zwl_118, zwl_123, zwl_125, zwl_126, zwl_159, zwl_160, zwl_200, zwl_255, zwl_480, zwl_960, zwl_3000, zs_kli, zs_klq, zs_kln, zs_wn, zs_wi, zs_wl, zs_wq, ↓zs_ok10, ↓zs_ok11, Option.toList_some, Option.toList_none, List.cons_append, List.nil_append, ↓reduceIte, Nat.reduceAdd, Nat.reduceLeDiff, true_and, and_true, Int.reduceEq, Int.reduceLT, Int.reduceLE, Int.reduceAdd, Int.reduceSub, Int.reduceMul, Int.reduceNeg, Nat.reduceEqDiff, Nat.reduceLT, Nat.reduceBEq, zsI_c, zsI_k, zsI_s, zsR_c, zsR_k, zsR_s, s1]
    exact h0
  · have h7 := hC.bod hs (Or.inl k)
    have k0 := kidT_l (s := s) hP hT 0
    have k1 := kidT_l (s := s) hP hT 1
    have est : stT P (rT P) s = kidT P (rT P) s 0 ||| kidT P (rT P) s 1 := by
      unfold stT
      rw [if_neg (by omega), if_neg (by omega), if_neg (by omega), if_neg (by omega), orU, orU, Nat.zero_or]
      exact orU_0 _ _ _ (fun j h1 h2 => kidT_m (hN.1 k j (by omega) (by omega)))
    have e3 : zor ((kidT P (rT P) s 0 : Nat) : Int) ((kidT P (rT P) s 1 : Nat) : Int) = ((stT P (rT P) s : Nat) : Int) := by rw [bor k0 k1, est]
    have s1' := s1
    rw [k] at s1'
    simp only [zh_53_0, zh_53_1, zh_53_64, zh_53_65, zh_53_66, zh_53_69, zh_53_70, zh_53_71, zh_53_72, zh_53_73, zh_53_76, zh_53_79, zh_53_80, zh_53_81, zh_53_82, zh_53_85, zh_53_86, zh_53_87, zh_53_88, zh_53_91, zh_53_94, zh_53_95, zh_53_96, zh_53_99, zh_53_102, zh_53_103, zh_53_104, zh_53_105, zh_53_106, zh_53_109, zh_53_110, zh_53_111, zh_53_4, zwl_m1, zwl_0, zwl_1, zwl_2, zwl_3, zwl_4, zwl_5, zwl_6, zwl_7, zwl_8, zwl_10, zwl_15, zwl_24, zwl_32, zwl_33, zwl_40, zwl_41, zwl_42, zwl_43, zwl_45, zwl_47, zwl_48, zwl_52, zwl_56, zwl_57, zwl_59, zwl_60, zwl_61, zwl_63, zwl_64, zwl_66, zwl_67, zwl_68, zwl_70, zwl_75, zwl_77, zwl_80, zwl_82, zwl_84, zwl_88, zwl_89, zwl_97, zwl_104, zwl_110, zwl_112, zwl_114, zwl_118, zwl_123, zwl_125, zwl_126, zwl_159, zwl_160, zwl_200, zwl_255, zwl_480, zwl_960, zwl_3000, zs_kli, zs_klq, zs_kln, zs_wn, zs_wi, zs_wl, zs_wq, ↓zs_ok10, ↓zs_ok11, Option.toList_some, Option.toList_none, List.cons_append, List.nil_append, ↓reduceIte, Nat.reduceAdd, Nat.reduceLeDiff, true_and, and_true, Int.reduceEq, Int.reduceLT, Int.reduceLE, Int.reduceAdd, Int.reduceSub, Int.reduceMul, Int.reduceNeg, Nat.reduceEqDiff, Nat.reduceLT, Nat.reduceBEq, zsI_c, zsI_k, zsI_s, zsR_c, zsR_k, zsR_s, s1', h7]
    refine tb_rf hb hP hs hsb (by omega) (by omega) hC (fun I1 f1 g1 => ?_)
    have hC1 := hC.fr f1
    have h8 : R 4 s 8 = rf 3 (P 38 (6 * s + 1)) := (hC1.2.1 s hs).2.1.2.2.2.1 k
    simp only [zh_53_0, zh_53_1, zh_53_64, zh_53_65, zh_53_66, zh_53_69, zh_53_70, zh_53_71, zh_53_72, zh_53_73, zh_53_76, zh_53_79, zh_53_80, zh_53_81, zh_53_82, zh_53_85, zh_53_86, zh_53_87, zh_53_88, zh_53_91, zh_53_94, zh_53_95, zh_53_96, zh_53_99, zh_53_102, zh_53_103, zh_53_104, zh_53_105, zh_53_106, zh_53_109, zh_53_110, zh_53_111, zh_53_4, zwl_m1, zwl_0, zwl_1, zwl_2, zwl_3, zwl_4, zwl_5, zwl_6, zwl_7, zwl_8, zwl_10, zwl_15, zwl_24, zwl_32, zwl_33, zwl_40, zwl_41, zwl_42, zwl_43, zwl_45, zwl_47, zwl_48, zwl_52, zwl_56, zwl_57, zwl_59, zwl_60, zwl_61, zwl_63, zwl_64, zwl_66, zwl_67, zwl_68, zwl_70, zwl_75, zwl_77, zwl_80, zwl_82, zwl_84, zwl_88, zwl_89, zwl_97, zwl_104, zwl_110, zwl_112, zwl_114, zwl_118, zwl_123, zwl_125, zwl_126, zwl_159, zwl_160, zwl_200, zwl_255, zwl_480, zwl_960, zwl_3000, zs_kli, zs_klq, zs_kln, zs_wn, zs_wi, zs_wl, zs_wq, ↓zs_ok10, ↓zs_ok11, Option.toList_some, Option.toList_none, List.cons_append, List.nil_append, ↓reduceIte, Nat.reduceAdd, Nat.reduceLeDiff, true_and, and_true, Int.reduceEq, Int.reduceLT, Int.reduceLE, Int.reduceAdd, Int.reduceSub, Int.reduceMul, Int.reduceNeg, Nat.reduceEqDiff, Nat.reduceLT, Nat.reduceBEq, zsI_c, zsI_k, zsI_s, zsR_c, zsR_k, zsR_s, h8]
    refine tb_rf hb hP hs hsb (by omega) (by omega) hC1 (fun I2 f2 g2 => ?_)
    simp only [zh_53_0, zh_53_1, zh_53_64, zh_53_65, zh_53_66, zh_53_69, zh_53_70, zh_53_71, zh_53_72, zh_53_73, zh_53_76, zh_53_79, zh_53_80, zh_53_81, zh_53_82, zh_53_85, zh_53_86, zh_53_87, zh_53_88, zh_53_91, zh_53_94, zh_53_95, zh_53_96, zh_53_99, zh_53_102, zh_53_103, zh_53_104, zh_53_105, zh_53_106, zh_53_109, zh_53_110, zh_53_111, zh_53_4, zwl_m1, zwl_0, zwl_1, zwl_2, zwl_3, zwl_4, zwl_5, zwl_6, zwl_7, zwl_8, zwl_10, zwl_15, zwl_24, zwl_32, zwl_33, zwl_40, zwl_41, zwl_42, zwl_43, zwl_45, zwl_47, zwl_48, zwl_52, zwl_56, zwl_57, zwl_59, zwl_60, zwl_61, zwl_63, zwl_64, zwl_66, zwl_67, zwl_68, zwl_70, zwl_75, zwl_77, zwl_80, zwl_82, zwl_84, zwl_88, zwl_89, zwl_97, zwl_104, zwl_110, zwl_112, zwl_114, zwl_118, zwl_123, zwl_125, zwl_126, zwl_159, zwl_160, zwl_200, zwl_255, zwl_480, zwl_960, zwl_3000, zs_kli, zs_klq, zs_kln, zs_wn, zs_wi, zs_wl, zs_wq, ↓zs_ok10, ↓zs_ok11, Option.toList_some, Option.toList_none, List.cons_append, List.nil_append, ↓reduceIte, Nat.reduceAdd, Nat.reduceLeDiff, true_and, and_true, Int.reduceEq, Int.reduceLT, Int.reduceLE, Int.reduceAdd, Int.reduceSub, Int.reduceMul, Int.reduceNeg, Nat.reduceEqDiff, Nat.reduceLT, Nat.reduceBEq, zsI_c, zsI_k, zsI_s, zsR_c, zsR_k, zsR_s, e3]
    refine h I2 (f1.tr f2) (((g1.seq g2).seq (Fl.none (A := fun z => z = s) (fun z hz => by subst hz; exact fun q => by have := q.2.1; omega))).mono (fun z hz => ?_))
    rcases hz with rfl | ⟨j, c, j1, j2, j3⟩
    · exact Or.inr rfl
    · left
      by_cases q0 : j = 0
      · rw [q0] at j2
        exact Or.inl ⟨c, j2, j3⟩
      · by_cases q1 : j = 1
        · rw [q1] at j2
          exact Or.inr ⟨c, j2, j3⟩
        · have := hN.1 k j (by omega) j1
          omega
  · have h7 := hC.bod hs (Or.inr (Or.inl k))
    have h8 := hS.2.2.2.2.2.1 k
    have k0 := kidT_l (s := s) hP hT 0
    have est : stT P (rT P) s = kidT P (rT P) s 0 := by
      unfold stT
      rw [if_neg (by omega), if_neg (by omega), if_neg (by omega), if_neg (by omega), orU, Nat.zero_or]
      exact orU_0 _ _ _ (fun j h1 h2 => kidT_m (hN.2.1 k j (by omega) (by omega)))
    have e3 : zor ((kidT P (rT P) s 0 : Nat) : Int) 0 = ((stT P (rT P) s : Nat) : Int) := by
      have := bor k0 (show 0 < 32 by decide)
      rw [Nat.or_zero] at this
      rw [est]
      exact this
    have s1' := s1
    rw [k] at s1'
    simp only [zh_53_0, zh_53_1, zh_53_64, zh_53_65, zh_53_66, zh_53_69, zh_53_70, zh_53_71, zh_53_72, zh_53_73, zh_53_76, zh_53_79, zh_53_80, zh_53_81, zh_53_82, zh_53_85, zh_53_86, zh_53_87, zh_53_88, zh_53_91, zh_53_94, zh_53_95, zh_53_96, zh_53_99, zh_53_102, zh_53_103, zh_53_104, zh_53_105, zh_53_106, zh_53_109, zh_53_110, zh_53_111, zh_53_4, zwl_m1, zwl_0, zwl_1, zwl_2, zwl_3, zwl_4, zwl_5, zwl_6, zwl_7, zwl_8, zwl_10, zwl_15, zwl_24, zwl_32, zwl_33, zwl_40, zwl_41, zwl_42, zwl_43, zwl_45, zwl_47, zwl_48, zwl_52, zwl_56, zwl_57, zwl_59, zwl_60, zwl_61, zwl_63, zwl_64, zwl_66, zwl_67, zwl_68, zwl_70, zwl_75, zwl_77, zwl_80, zwl_82, zwl_84, zwl_88, zwl_89, zwl_97, zwl_104, zwl_110, zwl_112, zwl_114, zwl_118, zwl_123, zwl_125, zwl_126, zwl_159, zwl_160, zwl_200, zwl_255, zwl_480, zwl_960, zwl_3000, zs_kli, zs_klq, zs_kln, zs_wn, zs_wi, zs_wl, zs_wq, ↓zs_ok10, ↓zs_ok11, Option.toList_some, Option.toList_none, List.cons_append, List.nil_append, ↓reduceIte, Nat.reduceAdd, Nat.reduceLeDiff, true_and, and_true, Int.reduceEq, Int.reduceLT, Int.reduceLE, Int.reduceAdd, Int.reduceSub, Int.reduceMul, Int.reduceNeg, Nat.reduceEqDiff, Nat.reduceLT, Nat.reduceBEq, zsI_c, zsI_k, zsI_s, zsR_c, zsR_k, zsR_s, s1', h7]
    refine tb_rf hb hP hs hsb (by omega) (by omega) hC (fun I1 f1 g1 => ?_)
    simp only [zh_53_0, zh_53_1, zh_53_64, zh_53_65, zh_53_66, zh_53_69, zh_53_70, zh_53_71, zh_53_72, zh_53_73, zh_53_76, zh_53_79, zh_53_80, zh_53_81, zh_53_82, zh_53_85, zh_53_86, zh_53_87, zh_53_88, zh_53_91, zh_53_94, zh_53_95, zh_53_96, zh_53_99, zh_53_102, zh_53_103, zh_53_104, zh_53_105, zh_53_106, zh_53_109, zh_53_110, zh_53_111, zh_53_4, zwl_m1, zwl_0, zwl_1, zwl_2, zwl_3, zwl_4, zwl_5, zwl_6, zwl_7, zwl_8, zwl_10, zwl_15, zwl_24, zwl_32, zwl_33, zwl_40, zwl_41, zwl_42, zwl_43, zwl_45, zwl_47, zwl_48, zwl_52, zwl_56, zwl_57, zwl_59, zwl_60, zwl_61, zwl_63, zwl_64, zwl_66, zwl_67, zwl_68, zwl_70, zwl_75, zwl_77, zwl_80, zwl_82, zwl_84, zwl_88, zwl_89, zwl_97, zwl_104, zwl_110, zwl_112, zwl_114, zwl_118, zwl_123, zwl_125, zwl_126, zwl_159, zwl_160, zwl_200, zwl_255, zwl_480, zwl_960, zwl_3000, zs_kli, zs_klq, zs_kln, zs_wn, zs_wi, zs_wl, zs_wq, ↓zs_ok10, ↓zs_ok11, Option.toList_some, Option.toList_none, List.cons_append, List.nil_append, ↓reduceIte, Nat.reduceAdd, Nat.reduceLeDiff, true_and, and_true, Int.reduceEq, Int.reduceLT, Int.reduceLE, Int.reduceAdd, Int.reduceSub, Int.reduceMul, Int.reduceNeg, Nat.reduceEqDiff, Nat.reduceLT, Nat.reduceBEq, zsI_c, zsI_k, zsI_s, zsR_c, zsR_k, zsR_s, h8, tb_none, e3]
    refine h I1 f1 ((g1.seq (Fl.none (A := fun z => z = s) (fun z hz => by subst hz; exact fun q => by have := q.2.1; omega))).mono (fun z hz => ?_))
    rcases hz with rfl | ⟨j, c, j1, j2, j3⟩
    · exact Or.inr rfl
    · left
      by_cases q0 : j = 0
      · rw [q0] at j2
        exact ⟨c, j2, j3⟩
      · have := hN.2.1 k j (by omega) j1
        omega
  · have h0 := hplain (by omega)
    rw [hzero (by omega)] at h0
    rw [k] at s1
    simp only [zh_53_0, zh_53_1, zh_53_64, zh_53_65, zh_53_66, zh_53_69, zh_53_70, zh_53_71, zh_53_72, zh_53_73, zh_53_76, zh_53_79, zh_53_80, zh_53_81, zh_53_82, zh_53_85, zh_53_86, zh_53_87, zh_53_88, zh_53_91, zh_53_94, zh_53_95, zh_53_96, zh_53_99, zh_53_102, zh_53_103, zh_53_104, zh_53_105, zh_53_106, zh_53_109, zh_53_110, zh_53_111, zh_53_4, zwl_m1, zwl_0, zwl_1, zwl_2, zwl_3, zwl_4, zwl_5, zwl_6, zwl_7, zwl_8, zwl_10, zwl_15, zwl_24, zwl_32, zwl_33, zwl_40, zwl_41, zwl_42, zwl_43, zwl_45, zwl_47, zwl_48, zwl_52, zwl_56, zwl_57, zwl_59, zwl_60, zwl_61, zwl_63, zwl_64, zwl_66, zwl_67, zwl_68, zwl_70, zwl_75, zwl_77, zwl_80, zwl_82, zwl_84, zwl_88, zwl_89, zwl_97, zwl_104, zwl_110, zwl_112, zwl_114, zwl_118, zwl_123, zwl_125, zwl_126, zwl_159, zwl_160, zwl_200, zwl_255, zwl_480, zwl_960, zwl_3000, zs_kli, zs_klq, zs_kln, zs_wn, zs_wi, zs_wl, zs_wq, ↓zs_ok10, ↓zs_ok11, Option.toList_some, Option.toList_none, List.cons_append, List.nil_append, ↓reduceIte, Nat.reduceAdd, Nat.reduceLeDiff, true_and, and_true, Int.reduceEq, Int.reduceLT, Int.reduceLE, Int.reduceAdd, Int.reduceSub, Int.reduceMul, Int.reduceNeg, Nat.reduceEqDiff, Nat.reduceLT, Nat.reduceBEq, zsI_c, zsI_k, zsI_s, zsR_c, zsR_k, zsR_s, s1]
    exact h0
  · have h0 := hplain (by omega)
    rw [hzero (by omega)] at h0
    rw [k] at s1
    simp only [zh_53_0, zh_53_1, zh_53_64, zh_53_65, zh_53_66, zh_53_69, zh_53_70, zh_53_71, zh_53_72, zh_53_73, zh_53_76, zh_53_79, zh_53_80, zh_53_81, zh_53_82, zh_53_85, zh_53_86, zh_53_87, zh_53_88, zh_53_91, zh_53_94, zh_53_95, zh_53_96, zh_53_99, zh_53_102, zh_53_103, zh_53_104, zh_53_105, zh_53_106, zh_53_109, zh_53_110, zh_53_111, zh_53_4, zwl_m1, zwl_0, zwl_1, zwl_2, zwl_3, zwl_4, zwl_5, zwl_6, zwl_7, zwl_8, zwl_10, zwl_15, zwl_24, zwl_32, zwl_33, zwl_40, zwl_41, zwl_42, zwl_43, zwl_45, zwl_47, zwl_48, zwl_52, zwl_56, zwl_57, zwl_59, zwl_60, zwl_61, zwl_63, zwl_64, zwl_66, zwl_67, zwl_68, zwl_70, zwl_75, zwl_77, zwl_80, zwl_82, zwl_84, zwl_88, zwl_89, zwl_97, zwl_104, zwl_110, zwl_112, zwl_114, zwl_118, zwl_123, zwl_125, zwl_126, zwl_159, zwl_160, zwl_200, zwl_255, zwl_480, zwl_960, zwl_3000, zs_kli, zs_klq, zs_kln, zs_wn, zs_wi, zs_wl, zs_wq, ↓zs_ok10, ↓zs_ok11, Option.toList_some, Option.toList_none, List.cons_append, List.nil_append, ↓reduceIte, Nat.reduceAdd, Nat.reduceLeDiff, true_and, and_true, Int.reduceEq, Int.reduceLT, Int.reduceLE, Int.reduceAdd, Int.reduceSub, Int.reduceMul, Int.reduceNeg, Nat.reduceEqDiff, Nat.reduceLT, Nat.reduceBEq, zsI_c, zsI_k, zsI_s, zsR_c, zsR_k, zsR_s, s1]
    exact h0
  · have h0 := hplain (by omega)
    rw [hzero (by omega)] at h0
    rw [k] at s1
    simp only [zh_53_0, zh_53_1, zh_53_64, zh_53_65, zh_53_66, zh_53_69, zh_53_70, zh_53_71, zh_53_72, zh_53_73, zh_53_76, zh_53_79, zh_53_80, zh_53_81, zh_53_82, zh_53_85, zh_53_86, zh_53_87, zh_53_88, zh_53_91, zh_53_94, zh_53_95, zh_53_96, zh_53_99, zh_53_102, zh_53_103, zh_53_104, zh_53_105, zh_53_106, zh_53_109, zh_53_110, zh_53_111, zh_53_4, zwl_m1, zwl_0, zwl_1, zwl_2, zwl_3, zwl_4, zwl_5, zwl_6, zwl_7, zwl_8, zwl_10, zwl_15, zwl_24, zwl_32, zwl_33, zwl_40, zwl_41, zwl_42, zwl_43, zwl_45, zwl_47, zwl_48, zwl_52, zwl_56, zwl_57, zwl_59, zwl_60, zwl_61, zwl_63, zwl_64, zwl_66, zwl_67, zwl_68, zwl_70, zwl_75, zwl_77, zwl_80, zwl_82, zwl_84, zwl_88, zwl_89, zwl_97, zwl_104, zwl_110, zwl_112, zwl_114, zwl_118, zwl_123, zwl_125, zwl_126, zwl_159, zwl_160, zwl_200, zwl_255, zwl_480, zwl_960, zwl_3000, zs_kli, zs_klq, zs_kln, zs_wn, zs_wi, zs_wl, zs_wq, ↓zs_ok10, ↓zs_ok11, Option.toList_some, Option.toList_none, List.cons_append, List.nil_append, ↓reduceIte, Nat.reduceAdd, Nat.reduceLeDiff, true_and, and_true, Int.reduceEq, Int.reduceLT, Int.reduceLE, Int.reduceAdd, Int.reduceSub, Int.reduceMul, Int.reduceNeg, Nat.reduceEqDiff, Nat.reduceLT, Nat.reduceBEq, zsI_c, zsI_k, zsI_s, zsR_c, zsR_k, zsR_s, s1]
    exact h0
  · have h0 := hplain (by omega)
    have w1 := hw.2.2.2.2.2.1 k
    have h1 := hS.1 (Or.inr (Or.inl k))
    have e1 : zshl 1 (P 35 s) = ((stT P (rT P) s : Nat) : Int) := by
      have e : P 35 s = ((P 35 s).toNat : Int) := by omega
      unfold stT
      rw [if_neg (by omega), if_pos k]
      rw [e]
      exact bsh (by omega)
    rw [k] at s1
    simp only [zh_53_0, zh_53_1, zh_53_64, zh_53_65, zh_53_66, zh_53_69, zh_53_70, zh_53_71, zh_53_72, zh_53_73, zh_53_76, zh_53_79, zh_53_80, zh_53_81, zh_53_82, zh_53_85, zh_53_86, zh_53_87, zh_53_88, zh_53_91, zh_53_94, zh_53_95, zh_53_96, zh_53_99, zh_53_102, zh_53_103, zh_53_104, zh_53_105, zh_53_106, zh_53_109, zh_53_110, zh_53_111, zh_53_4, zwl_m1, zwl_0, zwl_1, zwl_2, zwl_3, zwl_4, zwl_5, zwl_6, zwl_7, zwl_8, zwl_10, zwl_15, zwl_24, zwl_32, zwl_33, zwl_40, zwl_41, zwl_42, zwl_43, zwl_45, zwl_47, zwl_48, zwl_52, zwl_56, zwl_57, zwl_59, zwl_60, zwl_61, zwl_63, zwl_64, zwl_66, zwl_67, zwl_68, zwl_70, zwl_75, zwl_77, zwl_80, zwl_82, zwl_84, zwl_88, zwl_89, zwl_97, zwl_104, zwl_110, zwl_112, zwl_114, zwl_118, zwl_123, zwl_125, zwl_126, zwl_159, zwl_160, zwl_200, zwl_255, zwl_480, zwl_960, zwl_3000, zs_kli, zs_klq, zs_kln, zs_wn, zs_wi, zs_wl, zs_wq, ↓zs_ok10, ↓zs_ok11, Option.toList_some, Option.toList_none, List.cons_append, List.nil_append, ↓reduceIte, Nat.reduceAdd, Nat.reduceLeDiff, true_and, and_true, Int.reduceEq, Int.reduceLT, Int.reduceLE, Int.reduceAdd, Int.reduceSub, Int.reduceMul, Int.reduceNeg, Nat.reduceEqDiff, Nat.reduceLT, Nat.reduceBEq, zsI_c, zsI_k, zsI_s, zsR_c, zsR_k, zsR_s, s1, h1, e1]
    exact h0
  · have h0 := hplain (by omega)
    have e42 : (P 42 s).toNat = b := by omega
    have w1 := tk_r hP hbn
    have w2 : P 102 b ≠ -1 := by have := (hCk s hs).1 k; rw [e42] at this; exact this
    have hB := (hC.2.2 b hbn).2.2.2.2
    have e1 : zshl 1 (P 102 b) = ((stT P (rT P) s : Nat) : Int) := by
      have e : P 102 b = ((P 102 b).toNat : Int) := by omega
      unfold stT
      rw [if_neg (by omega), if_neg (by omega), if_pos k, e42]
      rw [e]
      exact bsh (by omega)
    rw [k] at s1
    rw [e42] at s2
    simp only [zh_53_0, zh_53_1, zh_53_64, zh_53_65, zh_53_66, zh_53_69, zh_53_70, zh_53_71, zh_53_72, zh_53_73, zh_53_76, zh_53_79, zh_53_80, zh_53_81, zh_53_82, zh_53_85, zh_53_86, zh_53_87, zh_53_88, zh_53_91, zh_53_94, zh_53_95, zh_53_96, zh_53_99, zh_53_102, zh_53_103, zh_53_104, zh_53_105, zh_53_106, zh_53_109, zh_53_110, zh_53_111, zh_53_4, zwl_m1, zwl_0, zwl_1, zwl_2, zwl_3, zwl_4, zwl_5, zwl_6, zwl_7, zwl_8, zwl_10, zwl_15, zwl_24, zwl_32, zwl_33, zwl_40, zwl_41, zwl_42, zwl_43, zwl_45, zwl_47, zwl_48, zwl_52, zwl_56, zwl_57, zwl_59, zwl_60, zwl_61, zwl_63, zwl_64, zwl_66, zwl_67, zwl_68, zwl_70, zwl_75, zwl_77, zwl_80, zwl_82, zwl_84, zwl_88, zwl_89, zwl_97, zwl_104, zwl_110, zwl_112, zwl_114, zwl_118, zwl_123, zwl_125, zwl_126, zwl_159, zwl_160, zwl_200, zwl_255, zwl_480, zwl_960, zwl_3000, zs_kli, zs_klq, zs_kln, zs_wn, zs_wi, zs_wl, zs_wq, ↓zs_ok10, ↓zs_ok11, Option.toList_some, Option.toList_none, List.cons_append, List.nil_append, ↓reduceIte, Nat.reduceAdd, Nat.reduceLeDiff, true_and, and_true, Int.reduceEq, Int.reduceLT, Int.reduceLE, Int.reduceAdd, Int.reduceSub, Int.reduceMul, Int.reduceNeg, Nat.reduceEqDiff, Nat.reduceLT, Nat.reduceBEq, zsI_c, zsI_k, zsI_s, zsR_c, zsR_k, zsR_s, s1, s2, hB, e1]
    exact h0
  · have h0 := hplain (by omega)
    obtain ⟨p, p1, p2⟩ := (hCk s hs).2 k
    have hL := (hC.2.1 s hs).2.2 k
    rw [p1] at hL
    have hL2 : I 4 s 10 = P 32 p := hL.2
    have e1 : P 32 p = ((stT P (rT P) s : Nat) : Int) := by
      have := hT p p2
      unfold stT
      rw [if_neg (by omega), if_neg (by omega), if_neg (by omega), if_pos k, p1]
      show P 32 p = ((P 32 p).toNat : Int)
      omega
    rw [k] at s1
    rw [e1] at hL2
    simp only [zh_53_0, zh_53_1, zh_53_64, zh_53_65, zh_53_66, zh_53_69, zh_53_70, zh_53_71, zh_53_72, zh_53_73, zh_53_76, zh_53_79, zh_53_80, zh_53_81, zh_53_82, zh_53_85, zh_53_86, zh_53_87, zh_53_88, zh_53_91, zh_53_94, zh_53_95, zh_53_96, zh_53_99, zh_53_102, zh_53_103, zh_53_104, zh_53_105, zh_53_106, zh_53_109, zh_53_110, zh_53_111, zh_53_4, zwl_m1, zwl_0, zwl_1, zwl_2, zwl_3, zwl_4, zwl_5, zwl_6, zwl_7, zwl_8, zwl_10, zwl_15, zwl_24, zwl_32, zwl_33, zwl_40, zwl_41, zwl_42, zwl_43, zwl_45, zwl_47, zwl_48, zwl_52, zwl_56, zwl_57, zwl_59, zwl_60, zwl_61, zwl_63, zwl_64, zwl_66, zwl_67, zwl_68, zwl_70, zwl_75, zwl_77, zwl_80, zwl_82, zwl_84, zwl_88, zwl_89, zwl_97, zwl_104, zwl_110, zwl_112, zwl_114, zwl_118, zwl_123, zwl_125, zwl_126, zwl_159, zwl_160, zwl_200, zwl_255, zwl_480, zwl_960, zwl_3000, zs_kli, zs_klq, zs_kln, zs_wn, zs_wi, zs_wl, zs_wq, ↓zs_ok10, ↓zs_ok11, Option.toList_some, Option.toList_none, List.cons_append, List.nil_append, ↓reduceIte, Nat.reduceAdd, Nat.reduceLeDiff, true_and, and_true, Int.reduceEq, Int.reduceLT, Int.reduceLE, Int.reduceAdd, Int.reduceSub, Int.reduceMul, Int.reduceNeg, Nat.reduceEqDiff, Nat.reduceLT, Nat.reduceBEq, zsI_c, zsI_k, zsI_s, zsR_c, zsR_k, zsR_s, s1, hL2]
    exact h0
  · have s1' := s1
    rw [k] at s1'
    simp only [zh_53_0, zh_53_1, zh_53_64, zh_53_65, zh_53_66, zh_53_69, zh_53_70, zh_53_71, zh_53_72, zh_53_73, zh_53_76, zh_53_79, zh_53_80, zh_53_81, zh_53_82, zh_53_85, zh_53_86, zh_53_87, zh_53_88, zh_53_91, zh_53_94, zh_53_95, zh_53_96, zh_53_99, zh_53_102, zh_53_103, zh_53_104, zh_53_105, zh_53_106, zh_53_109, zh_53_110, zh_53_111, zh_53_4, zwl_m1, zwl_0, zwl_1, zwl_2, zwl_3, zwl_4, zwl_5, zwl_6, zwl_7, zwl_8, zwl_10, zwl_15, zwl_24, zwl_32, zwl_33, zwl_40, zwl_41, zwl_42, zwl_43, zwl_45, zwl_47, zwl_48, zwl_52, zwl_56, zwl_57, zwl_59, zwl_60, zwl_61, zwl_63, zwl_64, zwl_66, zwl_67, zwl_68, zwl_70, zwl_75, zwl_77, zwl_80, zwl_82, zwl_84, zwl_88, zwl_89, zwl_97, zwl_104, zwl_110, zwl_112, zwl_114, zwl_118, zwl_123, zwl_125, zwl_126, zwl_159, zwl_160, zwl_200, zwl_255, zwl_480, zwl_960, zwl_3000, zs_kli, zs_klq, zs_kln, zs_wn, zs_wi, zs_wl, zs_wq, ↓zs_ok10, ↓zs_ok11, Option.toList_some, Option.toList_none, List.cons_append, List.nil_append, ↓reduceIte, Nat.reduceAdd, Nat.reduceLeDiff, true_and, and_true, Int.reduceEq, Int.reduceLT, Int.reduceLE, Int.reduceAdd, Int.reduceSub, Int.reduceMul, Int.reduceNeg, Nat.reduceEqDiff, Nat.reduceLT, Nat.reduceBEq, zsI_c, zsI_k, zsI_s, zsR_c, zsR_k, zsR_s, s1']
    obtain ⟨e, rfl⟩ : ∃ e, d = e + 1 := ⟨d - 1, by omega⟩
    refine ts_try hP hT hb hs hsb k (by omega) hC (fun I1 f1 g1 => ?_)
    simp only [zh_53_0, zh_53_1, zh_53_64, zh_53_65, zh_53_66, zh_53_69, zh_53_70, zh_53_71, zh_53_72, zh_53_73, zh_53_76, zh_53_79, zh_53_80, zh_53_81, zh_53_82, zh_53_85, zh_53_86, zh_53_87, zh_53_88, zh_53_91, zh_53_94, zh_53_95, zh_53_96, zh_53_99, zh_53_102, zh_53_103, zh_53_104, zh_53_105, zh_53_106, zh_53_109, zh_53_110, zh_53_111, zh_53_4, zwl_m1, zwl_0, zwl_1, zwl_2, zwl_3, zwl_4, zwl_5, zwl_6, zwl_7, zwl_8, zwl_10, zwl_15, zwl_24, zwl_32, zwl_33, zwl_40, zwl_41, zwl_42, zwl_43, zwl_45, zwl_47, zwl_48, zwl_52, zwl_56, zwl_57, zwl_59, zwl_60, zwl_61, zwl_63, zwl_64, zwl_66, zwl_67, zwl_68, zwl_70, zwl_75, zwl_77, zwl_80, zwl_82, zwl_84, zwl_88, zwl_89, zwl_97, zwl_104, zwl_110, zwl_112, zwl_114, zwl_118, zwl_123, zwl_125, zwl_126, zwl_159, zwl_160, zwl_200, zwl_255, zwl_480, zwl_960, zwl_3000, zs_kli, zs_klq, zs_kln, zs_wn, zs_wi, zs_wl, zs_wq, ↓zs_ok10, ↓zs_ok11, Option.toList_some, Option.toList_none, List.cons_append, List.nil_append, ↓reduceIte, Nat.reduceAdd, Nat.reduceLeDiff, true_and, and_true, Int.reduceEq, Int.reduceLT, Int.reduceLE, Int.reduceAdd, Int.reduceSub, Int.reduceMul, Int.reduceNeg, Nat.reduceEqDiff, Nat.reduceLT, Nat.reduceBEq, zsI_c, zsI_k, zsI_s, zsR_c, zsR_k, zsR_s]
    exact h I1 f1 g1
theorem tb_loop (hP : PWf P) (hO : POr P) (hT : TgR P) (hCk : Chk P) (hb : ∀ c, c < nB P → P 100 c = P 100 b + 1 → TB P R al D n c) (hbn : b < nB P) (hD : D + 2 ≤ d) (m : Nat) : ∀ (lo : Nat) (x : Int) (I : zMI) (t : Nat) (ti : Int), nS P - lo ≤ m → lo ≤ nS P → ((x = -1 ∧ ∀ z, lo ≤ z → z < nS P → P 42 z ≠ (b : Int)) ∨ ∃ q : Nat, x = (q : Int) ∧ lo ≤ q ∧ q < nS P ∧ P 42 q = (b : Int) ∧ ∀ z, lo ≤ z → z < q → P 42 z ≠ (b : Int)) → ti = (t : Int) → t < 32 → CT I R P →
    (∀ I', FrG I I' → Fl P I I' (fun z => ∃ s0, lo ≤ s0 ∧ s0 < nS P ∧ P 42 s0 = (b : Int) ∧ Us P n s0 z) → K (some (zi ((t ||| orD (inB P (rT P) b) lo (nS P - lo) : Nat)))) (I', R, al)) →
    Zgo (d + 2) 52 11 [some (zq (some (9, 0))), some (zq (some (3, b))), some (zi ti), some (zq (rf 4 x))] [] (I, R, al) K := by
  induction m with
  | zero =>
    intro lo x I t ti hm hlo hx hti ht hC h
    rcases hx with ⟨hx, hz⟩ | ⟨q, _, q1, q2, _⟩
    · rw [hx, rf_n (by decide), zh_52_11]
      simp only [zh_52_0, zh_52_1, zh_52_2, zh_52_3n, zh_52_3, zh_52_6, zh_52_7, zh_52_10, zh_52_12n, zh_52_12, zh_52_15, zh_52_16, zh_52_17, zh_52_18, zh_52_21, zh_52_22, zh_52_23, zh_52_24, zh_52_27, zh_52_28, zh_52_31, zh_52_32, zwl_m1, zwl_0, zwl_1, zwl_2, zwl_3, zwl_4, zwl_5, zwl_6, zwl_7, zwl_8, zwl_10, zwl_15, zwl_24, zwl_32, zwl_33, zwl_40, zwl_41, zwl_42, zwl_43, zwl_45, zwl_47, zwl_48, zwl_52, zwl_56, zwl_57, zwl_59, zwl_60, zwl_61, zwl_63, zwl_64, zwl_66, zwl_67, zwl_68, zwl_70, zwl_75, zwl_77, zwl_80, zwl_82, zwl_84, zwl_88, zwl_89, zwl_97, zwl_104, zwl_110, zwl_112, zwl_114, zwl_118, zwl_123, zwl_125, zwl_126, zwl_159, zwl_160, zwl_200, zwl_255, zwl_480, zwl_960, zwl_3000, zs_kli, zs_klq, zs_kln, zs_wn, zs_wi, zs_wl, zs_wq, ↓zs_ok10, ↓zs_ok11, Option.toList_some, Option.toList_none, List.cons_append, List.nil_append, ↓reduceIte, Nat.reduceAdd, Nat.reduceLeDiff, true_and, and_true, Int.reduceEq, Int.reduceLT, Int.reduceLE, Int.reduceAdd, Int.reduceSub, Int.reduceMul, Int.reduceNeg, Nat.reduceEqDiff, Nat.reduceLT, Nat.reduceBEq, zsI_c, zsI_k, zsI_s, zsR_c, zsR_k, zsR_s]
      have e : orD (inB P (rT P) b) lo (nS P - lo) = 0 := orD_zero _ _ (fun z h1 h2 => if_neg (hz z h1 (by omega)))
      have := h I FrG.rfl (Fl.none (fun z ⟨s0, a1, a2, a3, _⟩ => absurd a3 (hz s0 a1 a2)))
      rw [e, Nat.or_zero] at this
      rw [hti]
      exact this
    · omega
  | succ m ih =>
    intro lo x I t ti hm hlo hx hti ht hC h
    rcases hx with ⟨hx, hz⟩ | ⟨q, hx, q1, q2, q3, q4⟩
    · rw [hx, rf_n (by decide), zh_52_11]
      simp only [zh_52_0, zh_52_1, zh_52_2, zh_52_3n, zh_52_3, zh_52_6, zh_52_7, zh_52_10, zh_52_12n, zh_52_12, zh_52_15, zh_52_16, zh_52_17, zh_52_18, zh_52_21, zh_52_22, zh_52_23, zh_52_24, zh_52_27, zh_52_28, zh_52_31, zh_52_32, zwl_m1, zwl_0, zwl_1, zwl_2, zwl_3, zwl_4, zwl_5, zwl_6, zwl_7, zwl_8, zwl_10, zwl_15, zwl_24, zwl_32, zwl_33, zwl_40, zwl_41, zwl_42, zwl_43, zwl_45, zwl_47, zwl_48, zwl_52, zwl_56, zwl_57, zwl_59, zwl_60, zwl_61, zwl_63, zwl_64, zwl_66, zwl_67, zwl_68, zwl_70, zwl_75, zwl_77, zwl_80, zwl_82, zwl_84, zwl_88, zwl_89, zwl_97, zwl_104, zwl_110, zwl_112, zwl_114, zwl_118, zwl_123, zwl_125, zwl_126, zwl_159, zwl_160, zwl_200, zwl_255, zwl_480, zwl_960, zwl_3000, zs_kli, zs_klq, zs_kln, zs_wn, zs_wi, zs_wl, zs_wq, ↓zs_ok10, ↓zs_ok11, Option.toList_some, Option.toList_none, List.cons_append, List.nil_append, ↓reduceIte, Nat.reduceAdd, Nat.reduceLeDiff, true_and, and_true, Int.reduceEq, Int.reduceLT, Int.reduceLE, Int.reduceAdd, Int.reduceSub, Int.reduceMul, Int.reduceNeg, Nat.reduceEqDiff, Nat.reduceLT, Nat.reduceBEq, zsI_c, zsI_k, zsI_s, zsR_c, zsR_k, zsR_s]
      have e : orD (inB P (rT P) b) lo (nS P - lo) = 0 := orD_zero _ _ (fun z h1 h2 => if_neg (hz z h1 (by omega)))
      have := h I FrG.rfl (Fl.none (fun z ⟨s0, a1, a2, a3, _⟩ => absurd a3 (hz s0 a1 a2)))
      rw [e, Nat.or_zero] at this
      rw [hti]
      exact this
    · rw [hx, rf_s (by omega), Int.toNat_natCast, zh_52_11]
      simp only [zh_52_0, zh_52_1, zh_52_2, zh_52_3n, zh_52_3, zh_52_6, zh_52_7, zh_52_10, zh_52_12n, zh_52_12, zh_52_15, zh_52_16, zh_52_17, zh_52_18, zh_52_21, zh_52_22, zh_52_23, zh_52_24, zh_52_27, zh_52_28, zh_52_31, zh_52_32, zwl_m1, zwl_0, zwl_1, zwl_2, zwl_3, zwl_4, zwl_5, zwl_6, zwl_7, zwl_8, zwl_10, zwl_15, zwl_24, zwl_32, zwl_33, zwl_40, zwl_41, zwl_42, zwl_43, zwl_45, zwl_47, zwl_48, zwl_52, zwl_56, zwl_57, zwl_59, zwl_60, zwl_61, zwl_63, zwl_64, zwl_66, zwl_67, zwl_68, zwl_70, zwl_75, zwl_77, zwl_80, zwl_82, zwl_84, zwl_88, zwl_89, zwl_97, zwl_104, zwl_110, zwl_112, zwl_114, zwl_118, zwl_123, zwl_125, zwl_126, zwl_159, zwl_160, zwl_200, zwl_255, zwl_480, zwl_960, zwl_3000, zs_kli, zs_klq, zs_kln, zs_wn, zs_wi, zs_wl, zs_wq, ↓zs_ok10, ↓zs_ok11, Option.toList_some, Option.toList_none, List.cons_append, List.nil_append, ↓reduceIte, Nat.reduceAdd, Nat.reduceLeDiff, true_and, and_true, Int.reduceEq, Int.reduceLT, Int.reduceLE, Int.reduceAdd, Int.reduceSub, Int.reduceMul, Int.reduceNeg, Nat.reduceEqDiff, Nat.reduceLT, Nat.reduceBEq, zsI_c, zsI_k, zsI_s, zsR_c, zsR_k, zsR_s]
      refine ts_stmt hP hT hCk hb q2 q3 hbn hD hC (fun I1 f1 g1 => ?_)
      have hC1 := hC.fr f1
      have sl := stT_l hP hT (rT_l hP hT) q2
      have e1 : zor ti ((stT P (rT P) q : Nat) : Int) = ((t ||| stT P (rT P) q : Nat) : Int) := by rw [hti]; exact bor ht sl
      have h6 := (hC1.2.1 q q2).1.2.2.1
      simp only [zh_52_0, zh_52_1, zh_52_2, zh_52_3n, zh_52_3, zh_52_6, zh_52_7, zh_52_10, zh_52_12n, zh_52_12, zh_52_15, zh_52_16, zh_52_17, zh_52_18, zh_52_21, zh_52_22, zh_52_23, zh_52_24, zh_52_27, zh_52_28, zh_52_31, zh_52_32, zwl_m1, zwl_0, zwl_1, zwl_2, zwl_3, zwl_4, zwl_5, zwl_6, zwl_7, zwl_8, zwl_10, zwl_15, zwl_24, zwl_32, zwl_33, zwl_40, zwl_41, zwl_42, zwl_43, zwl_45, zwl_47, zwl_48, zwl_52, zwl_56, zwl_57, zwl_59, zwl_60, zwl_61, zwl_63, zwl_64, zwl_66, zwl_67, zwl_68, zwl_70, zwl_75, zwl_77, zwl_80, zwl_82, zwl_84, zwl_88, zwl_89, zwl_97, zwl_104, zwl_110, zwl_112, zwl_114, zwl_118, zwl_123, zwl_125, zwl_126, zwl_159, zwl_160, zwl_200, zwl_255, zwl_480, zwl_960, zwl_3000, zs_kli, zs_klq, zs_kln, zs_wn, zs_wi, zs_wl, zs_wq, ↓zs_ok10, ↓zs_ok11, Option.toList_some, Option.toList_none, List.cons_append, List.nil_append, ↓reduceIte, Nat.reduceAdd, Nat.reduceLeDiff, true_and, and_true, Int.reduceEq, Int.reduceLT, Int.reduceLE, Int.reduceAdd, Int.reduceSub, Int.reduceMul, Int.reduceNeg, Nat.reduceEqDiff, Nat.reduceLT, Nat.reduceBEq, zsI_c, zsI_k, zsI_s, zsR_c, zsR_k, zsR_s, e1, h6]
      refine ih (q + 1) _ I1 _ _ (by omega) (by omega) ?_ rfl (bor_l ht sl) hC1 (fun I2 f2 g2 => ?_)
      · have ho1 := (hO.1 q q2).1
        have ho2 := (hO.1 q q2).2.1
        rcases (hP.2.2.2.2.2.1 q q2).2.2.1 with w | ⟨y, w1, w2, w3, w4⟩
        · left
          refine ⟨w, fun z z1 z2 => ?_⟩
          have := ho1 w z (by omega) z2
          rw [q3] at this
          exact this
        · right
          refine ⟨y, w1, by omega, w2, w3.trans q3, fun z z1 z2 => ?_⟩
          have := ho2 y w1 z (by omega) z2
          rw [q3] at this
          exact this
      · have e2 : orD (inB P (rT P) b) lo (nS P - lo) = orD (inB P (rT P) b) (q + 1) (nS P - (q + 1)) ||| stT P (rT P) q := by
          have k1 := orD_skip (f := inB P (rT P) b) (q - lo) lo (nS P) (by omega) (fun z h1 h2 => if_neg (q4 z h1 (by omega)))
          have k2 : lo + (q - lo) = q := by omega
          rw [k2] at k1
          have k3 : nS P - q = (nS P - (q + 1)) + 1 := by omega
          rw [k1, k3, orD]
          have k4 : inB P (rT P) b q = stT P (rT P) q := if_pos q3
          rw [k4]
        have := h I2 (f1.tr f2) ((g1.seq g2).mono (fun z ⟨s0, a1, a2, a3, a4⟩ => ?_))
        · rw [e2, Nat.or_comm (orD _ _ _), ← Nat.or_assoc] at this
          exact this
        · by_cases e : s0 = q
          · rw [e] at a4
            exact Or.inl a4
          · right
            refine ⟨s0, ?_, a2, a3, a4⟩
            by_cases e2 : s0 < q
            · exact absurd a3 (q4 s0 a1 e2)
            · omega
/-- every block -/
theorem tb_all (hP : PWf P) (hO : POr P) (hT : TgR P) (hCk : Chk P) (n : Nat) : ∀ b, b < nB P → 5 - (P 100 b).toNat = n → TB P R al (6 * n) n b := by
  induction n with
  | zero =>
    intro b hb hn
    have := (hP.2.2.2.2.2.2.1 b hb).dep
    omega
  | succ n ih =>
    intro b hb hn d I K hd hC h
    have hdep := (hP.2.2.2.2.2.2.1 b hb).dep
    have hkid : ∀ c, c < nB P → P 100 c = P 100 b + 1 → TB P R al (6 * n) n c := fun c c1 c2 => ih c c1 (by omega)
    obtain ⟨e, rfl⟩ : ∃ e, d = e + 2 := ⟨d - 2, by omega⟩
    have h3 := (hC.2.2 b hb).1
    rw [zcp_52]
    simp only [zh_52_0, zh_52_1, zh_52_2, zh_52_3n, zh_52_3, zh_52_6, zh_52_7, zh_52_10, zh_52_12n, zh_52_12, zh_52_15, zh_52_16, zh_52_17, zh_52_18, zh_52_21, zh_52_22, zh_52_23, zh_52_24, zh_52_27, zh_52_28, zh_52_31, zh_52_32, zwl_m1, zwl_0, zwl_1, zwl_2, zwl_3, zwl_4, zwl_5, zwl_6, zwl_7, zwl_8, zwl_10, zwl_15, zwl_24, zwl_32, zwl_33, zwl_40, zwl_41, zwl_42, zwl_43, zwl_45, zwl_47, zwl_48, zwl_52, zwl_56, zwl_57, zwl_59, zwl_60, zwl_61, zwl_63, zwl_64, zwl_66, zwl_67, zwl_68, zwl_70, zwl_75, zwl_77, zwl_80, zwl_82, zwl_84, zwl_88, zwl_89, zwl_97, zwl_104, zwl_110, zwl_112, zwl_114, zwl_118, zwl_123, zwl_125, zwl_126, zwl_159, zwl_160, zwl_200, zwl_255, zwl_480, zwl_960, zwl_3000, zs_kli, zs_klq, zs_kln, zs_wn, zs_wi, zs_wl, zs_wq, ↓zs_ok10, ↓zs_ok11, Option.toList_some, Option.toList_none, List.cons_append, List.nil_append, ↓reduceIte, Nat.reduceAdd, Nat.reduceLeDiff, true_and, and_true, Int.reduceEq, Int.reduceLT, Int.reduceLE, Int.reduceAdd, Int.reduceSub, Int.reduceMul, Int.reduceNeg, Nat.reduceEqDiff, Nat.reduceLT, Nat.reduceBEq, zsI_c, zsI_k, zsI_s, zsR_c, zsR_k, zsR_s, h3]
    refine tb_loop hP hO hT hCk hkid hb (by omega) (nS P) 0 _ I 0 _ (by omega) (by omega) ?_ rfl (by decide) hC (fun I' f1 g1 => ?_)
    · have ho := hO.2 b hb
      rcases (hP.2.2.2.2.2.2.1 b hb).1 with w | ⟨q, w1, w2, w3⟩
      · exact Or.inl ⟨w, fun z _ z2 => ho.1 w z z2⟩
      · exact Or.inr ⟨q, w1, by omega, w2, w3, fun z _ z2 => ho.2.1 q w1 z z2⟩
    · rw [Nat.zero_or, Nat.sub_zero, ← rT_eq hP hb]
      exact h I' f1 (g1.mono (fun z ⟨s0, a1, a2, a3⟩ => ⟨s0, Nat.zero_le _, a1, a2, a3⟩))
end
