/-! the constructors -/
def zFil (R : zMR) (c t o n : Nat) : zMR := fun c' i' k' => if c' = c ∧ i' = 0 ∧ k' < n then some (t, k' + o) else R c' i' k'
theorem zFil_n {R : zMR} {c t o n c' i' k' : Nat} (h : c' ≠ c) : zFil R c t o n c' i' k' = R c' i' k' := if_neg (fun w => h w.1)
theorem zFil_s {R : zMR} {c t o n : Nat} : zsR (zFil R c t o n) c 0 n (some (t, n + o)) = zFil R c t o (n + 1) := by
  funext c' i' k'
  unfold zsR zFil
  by_cases q : c' = c ∧ i' = 0 ∧ k' = n
  · rw [if_pos q, if_pos ⟨q.1, q.2.1, by omega⟩, q.2.2]
  · rw [if_neg q]
    by_cases q2 : c' = c ∧ i' = 0 ∧ k' < n
    · rw [if_pos q2, if_pos ⟨q2.1, q2.2.1, by omega⟩]
    · rw [if_neg q2, if_neg (fun w => if w2 : k' < n then q2 ⟨w.1, w.2.1, w2⟩ else q ⟨w.1, w.2.1, by omega⟩)]
theorem zFil_0 {R : zMR} {c t o : Nat} : zFil R c t o 0 = R := by
  funext c' i' k'
  unfold zFil
  rw [if_neg (fun w => by omega)]
theorem va_up2 {f : Nat → Nat} {k v w : Nat} : va_up (va_up f k v) k w = va_up f k w := by
  funext j
  unfold va_up
  by_cases q : j = k
  · rw [if_pos q, if_pos q]
  · rw [if_neg q, if_neg q, if_neg q]
theorem va_id {f : Nat → Nat} {k v : Nat} (h : f k = v) : va_up f k v = f := by
  funext j
  unfold va_up
  by_cases q : j = k
  · rw [if_pos q, q, h]
  · rw [if_neg q]
theorem zde_s {c i : Nat} {f : Nat → Prop} : zde (some (c, i)) c False f = f i := zs_de
theorem zArT_21 : zArT 21 = 2 := rfl
theorem zArT_22 : zArT 22 = 4 := rfl
theorem zArT_23 : zArT 23 = 3 := rfl
theorem zArT_24 : zArT 24 = 5 := rfl
section
variable {d : Nat} {I : zMI} {R : zMR} {al : zA} {K : Option zV → zS → Prop}
theorem k_lp21 (r : Nat) : ∀ (m : Nat) (li : Int) (al : zA), li = (m : Int) → m + r = 3 → al.1 2 = m + 1 → R 7 0 0 = some (21, 0) → Zgo (d + 13) 2 87 [some (zq (some (7, 0))), some (zi 3)] [] (I, zFil R 21 2 1 3, va_up al.1 2 (m + r + 1), al.2.1 + r, al.2.2.1 + 4 * r, al.2.2.2) K → Zgo (d + 13) 2 63 [some (zq (some (7, 0))), some (zi li)] [] (I, zFil R 21 2 1 m, al) K := by
  induction r with
  | zero =>
    intro m li al hli hm ha hR h
    have e1 : li = 3 := by omega
    have e2 : m = 3 := by omega
    subst e2
    rw [va_id (by omega)] at h
    rw [e1, zh_2_63]
    simp only [zh_2_0, zh_2_1, zh_2_4, zh_2_5, zh_2_6, zh_2_9, zh_2_12, zh_2_13, zh_2_16, zh_2_16q, zh_2_17, zh_2_20, zh_2_23, zh_2_24, zh_2_26, zh_2_29, zh_2_32, zh_2_33, zh_2_36, zh_2_36q, zh_2_37, zh_2_40, zh_2_43, zh_2_44, zh_2_46, zh_2_49, zh_2_52, zh_2_53, zh_2_55, zh_2_58, zh_2_61, zh_2_62, zh_2_64, zh_2_65, zh_2_68, zh_2_69, zh_2_72, zh_2_73, zh_2_76, zh_2_76q, zh_2_77, zh_2_80, zh_2_81, zh_2_84, zh_2_88, zh_2_90, zh_2_92, zh_2_95, zh_2_96, zh_2_99, zh_2_100, zh_2_103, zh_2_103q, zh_2_104, zh_2_107, zh_2_108, zh_2_111, zh_2_115, zh_2_117, zh_2_119, zh_2_122, zh_2_123, zh_2_126, zh_2_127, zh_2_130, zh_2_130q, zh_2_131, zh_2_134, zh_2_135, zh_2_138, zh_2_142, zh_2_144, zh_2_146, zh_2_149, zh_2_150, zh_2_153, zh_2_154, zh_2_157, zh_2_157q, zh_2_158, zh_2_161, zh_2_162, zh_2_165, zwl_m1, zwl_0, zwl_1, zwl_2, zwl_3, zwl_4, zwl_5, zwl_6, zwl_7, zwl_8, zwl_10, zwl_15, zwl_24, zwl_32, zwl_33, zwl_40, zwl_41, zwl_42, zwl_43, zwl_45, zwl_47, zwl_48, zwl_52, zwl_56, zwl_57, zwl_59, zwl_60, zwl_61, zwl_63, zwl_64, zwl_66, zwl_67, zwl_68, zwl_70, zwl_75, zwl_77, zwl_80, zwl_82, zwl_84, zwl_88, zwl_89, zwl_97, zwl_104, zwl_110, zwl_112, zwl_114, zwl_118, zwl_123, zwl_125, zwl_126, zwl_159, zwl_160, zwl_200, zwl_255, zwl_480, zwl_960, zwl_3000, zs_kli, zs_klq, zs_kln, zs_wn, zs_wi, zs_wl, zs_wq, ↓zs_ok10, ↓zs_ok11, Option.toList_some, Option.toList_none, List.cons_append, List.nil_append, ↓reduceIte, Nat.reduceAdd, Nat.reduceLeDiff, true_and, and_true, Int.reduceEq, Int.reduceLT, Int.reduceLE, Int.reduceAdd, Int.reduceSub, Int.reduceMul, Int.reduceNeg, Nat.reduceEqDiff, Nat.reduceLT, Nat.reduceBEq, zsI_c, zsI_k, zsI_s, zsR_c, zsR_k, zsR_s]
    exact h
  | succ r ih =>
    intro m li al hli hm ha hR h
    have e1 : zw li = li := zw_i (by omega) (by omega)
    have e2 : li < 3 := by omega
    have hm3 : m < 3 := by omega
    have hR2 : zFil R 21 2 1 m 7 0 0 = some (21, 0) := by rw [zFil_n (by decide)]; exact hR
    rw [zh_2_63]
    simp only [zh_2_0, zh_2_1, zh_2_4, zh_2_5, zh_2_6, zh_2_9, zh_2_12, zh_2_13, zh_2_16, zh_2_16q, zh_2_17, zh_2_20, zh_2_23, zh_2_24, zh_2_26, zh_2_29, zh_2_32, zh_2_33, zh_2_36, zh_2_36q, zh_2_37, zh_2_40, zh_2_43, zh_2_44, zh_2_46, zh_2_49, zh_2_52, zh_2_53, zh_2_55, zh_2_58, zh_2_61, zh_2_62, zh_2_64, zh_2_65, zh_2_68, zh_2_69, zh_2_72, zh_2_73, zh_2_76, zh_2_76q, zh_2_77, zh_2_80, zh_2_81, zh_2_84, zh_2_88, zh_2_90, zh_2_92, zh_2_95, zh_2_96, zh_2_99, zh_2_100, zh_2_103, zh_2_103q, zh_2_104, zh_2_107, zh_2_108, zh_2_111, zh_2_115, zh_2_117, zh_2_119, zh_2_122, zh_2_123, zh_2_126, zh_2_127, zh_2_130, zh_2_130q, zh_2_131, zh_2_134, zh_2_135, zh_2_138, zh_2_142, zh_2_144, zh_2_146, zh_2_149, zh_2_150, zh_2_153, zh_2_154, zh_2_157, zh_2_157q, zh_2_158, zh_2_161, zh_2_162, zh_2_165, zwl_m1, zwl_0, zwl_1, zwl_2, zwl_3, zwl_4, zwl_5, zwl_6, zwl_7, zwl_8, zwl_10, zwl_15, zwl_24, zwl_32, zwl_33, zwl_40, zwl_41, zwl_42, zwl_43, zwl_45, zwl_47, zwl_48, zwl_52, zwl_56, zwl_57, zwl_59, zwl_60, zwl_61, zwl_63, zwl_64, zwl_66, zwl_67, zwl_68, zwl_70, zwl_75, zwl_77, zwl_80, zwl_82, zwl_84, zwl_88, zwl_89, zwl_97, zwl_104, zwl_110, zwl_112, zwl_114, zwl_118, zwl_123, zwl_125, zwl_126, zwl_159, zwl_160, zwl_200, zwl_255, zwl_480, zwl_960, zwl_3000, zs_kli, zs_klq, zs_kln, zs_wn, zs_wi, zs_wl, zs_wq, ↓zs_ok10, ↓zs_ok11, Option.toList_some, Option.toList_none, List.cons_append, List.nil_append, ↓reduceIte, Nat.reduceAdd, Nat.reduceLeDiff, true_and, and_true, Int.reduceEq, Int.reduceLT, Int.reduceLE, Int.reduceAdd, Int.reduceSub, Int.reduceMul, Int.reduceNeg, Nat.reduceEqDiff, Nat.reduceLT, Nat.reduceBEq, zsI_c, zsI_k, zsI_s, zsR_c, zsR_k, zsR_s, e1, e2, hR2]
    rw [zcp_3]
    simp only [zh_3_0, zh_3_1, zh_3_4, zwl_m1, zwl_0, zwl_1, zwl_2, zwl_3, zwl_4, zwl_5, zwl_6, zwl_7, zwl_8, zwl_10, zwl_15, zwl_24, zwl_32, zwl_33, zwl_40, zwl_41, zwl_42, zwl_43, zwl_45, zwl_47, zwl_48, zwl_52, zwl_56, zwl_57, zwl_59, zwl_60, zwl_61, zwl_63, zwl_64, zwl_66, zwl_67, zwl_68, zwl_70, zwl_75, zwl_77, zwl_80, zwl_82, zwl_84, zwl_88, zwl_89, zwl_97, zwl_104, zwl_110, zwl_112, zwl_114, zwl_118, zwl_123, zwl_125, zwl_126, zwl_159, zwl_160, zwl_200, zwl_255, zwl_480, zwl_960, zwl_3000, zs_kli, zs_klq, zs_kln, zs_wn, zs_wi, zs_wl, zs_wq, ↓zs_ok10, ↓zs_ok11, Option.toList_some, Option.toList_none, List.cons_append, List.nil_append, ↓reduceIte, Nat.reduceAdd, Nat.reduceLeDiff, true_and, and_true, Int.reduceEq, Int.reduceLT, Int.reduceLE, Int.reduceAdd, Int.reduceSub, Int.reduceMul, Int.reduceNeg, Nat.reduceEqDiff, Nat.reduceLT, Nat.reduceBEq, zsI_c, zsI_k, zsI_s, zsR_c, zsR_k, zsR_s]
    rw [zcp_905]
    simp only [zh_3_0, zh_3_1, zh_3_4, zh_2_0, zh_2_1, zh_2_4, zh_2_5, zh_2_6, zh_2_9, zh_2_12, zh_2_13, zh_2_16, zh_2_16q, zh_2_17, zh_2_20, zh_2_23, zh_2_24, zh_2_26, zh_2_29, zh_2_32, zh_2_33, zh_2_36, zh_2_36q, zh_2_37, zh_2_40, zh_2_43, zh_2_44, zh_2_46, zh_2_49, zh_2_52, zh_2_53, zh_2_55, zh_2_58, zh_2_61, zh_2_62, zh_2_64, zh_2_65, zh_2_68, zh_2_69, zh_2_72, zh_2_73, zh_2_76, zh_2_76q, zh_2_77, zh_2_80, zh_2_81, zh_2_84, zh_2_88, zh_2_90, zh_2_92, zh_2_95, zh_2_96, zh_2_99, zh_2_100, zh_2_103, zh_2_103q, zh_2_104, zh_2_107, zh_2_108, zh_2_111, zh_2_115, zh_2_117, zh_2_119, zh_2_122, zh_2_123, zh_2_126, zh_2_127, zh_2_130, zh_2_130q, zh_2_131, zh_2_134, zh_2_135, zh_2_138, zh_2_142, zh_2_144, zh_2_146, zh_2_149, zh_2_150, zh_2_153, zh_2_154, zh_2_157, zh_2_157q, zh_2_158, zh_2_161, zh_2_162, zh_2_165, zwl_m1, zwl_0, zwl_1, zwl_2, zwl_3, zwl_4, zwl_5, zwl_6, zwl_7, zwl_8, zwl_10, zwl_15, zwl_24, zwl_32, zwl_33, zwl_40, zwl_41, zwl_42, zwl_43, zwl_45, zwl_47, zwl_48, zwl_52, zwl_56, zwl_57, zwl_59, zwl_60, zwl_61, zwl_63, zwl_64, zwl_66, zwl_67, zwl_68, zwl_70, zwl_75, zwl_77, zwl_80, zwl_82, zwl_84, zwl_88, zwl_89, zwl_97, zwl_104, zwl_110, zwl_112, zwl_114, zwl_118, zwl_123, zwl_125, zwl_126, zwl_159, zwl_160, zwl_200, zwl_255, zwl_480, zwl_960, zwl_3000, zs_kli, zs_klq, zs_kln, zs_wn, zs_wi, zs_wl, zs_wq, ↓zs_ok10, ↓zs_ok11, Option.toList_some, Option.toList_none, List.cons_append, List.nil_append, ↓reduceIte, Nat.reduceAdd, Nat.reduceLeDiff, true_and, and_true, Int.reduceEq, Int.reduceLT, Int.reduceLE, Int.reduceAdd, Int.reduceSub, Int.reduceMul, Int.reduceNeg, Nat.reduceEqDiff, Nat.reduceLT, Nat.reduceBEq, zsI_c, zsI_k, zsI_s, zsR_c, zsR_k, zsR_s, ↓zb21 hli hm3, zArT_21, zde_s, ha, zFil_s]
    refine ih (m + 1) _ _ (by omega) (by omega) ?_ hR ?_
    · exact (va_up_self al.1 2 (m + 1 + 1)).trans (by omega)
    · rw [va_up2]
      have g1 : m + 1 + r + 1 = m + (r + 1) + 1 := by omega
      have g2 : al.2.1 + 1 + r = al.2.1 + (r + 1) := by omega
      have g3 : al.2.2.1 + 4 + 4 * r = al.2.2.1 + 4 * (r + 1) := by omega
      rw [g1, g2, g3]
      exact h
theorem k_lp22 (r : Nat) : ∀ (m : Nat) (li : Int) (al : zA), li = (m : Int) → m + r = 80 → al.1 4 = m + 0 → R 7 0 2 = some (22, 0) → Zgo (d + 13) 2 114 [some (zq (some (7, 0))), some (zi 80)] [] (I, zFil R 22 4 0 80, va_up al.1 4 (m + r + 0), al.2.1 + r, al.2.2.1 + 11 * r, al.2.2.2) K → Zgo (d + 13) 2 89 [some (zq (some (7, 0))), some (zi li)] [] (I, zFil R 22 4 0 m, al) K := by
  induction r with
  | zero =>
    intro m li al hli hm ha hR h
    have e1 : li = 80 := by omega
    have e2 : m = 80 := by omega
    subst e2
    rw [va_id (by omega)] at h
    rw [e1, zh_2_89]
    simp only [zh_2_0, zh_2_1, zh_2_4, zh_2_5, zh_2_6, zh_2_9, zh_2_12, zh_2_13, zh_2_16, zh_2_16q, zh_2_17, zh_2_20, zh_2_23, zh_2_24, zh_2_26, zh_2_29, zh_2_32, zh_2_33, zh_2_36, zh_2_36q, zh_2_37, zh_2_40, zh_2_43, zh_2_44, zh_2_46, zh_2_49, zh_2_52, zh_2_53, zh_2_55, zh_2_58, zh_2_61, zh_2_62, zh_2_64, zh_2_65, zh_2_68, zh_2_69, zh_2_72, zh_2_73, zh_2_76, zh_2_76q, zh_2_77, zh_2_80, zh_2_81, zh_2_84, zh_2_88, zh_2_90, zh_2_92, zh_2_95, zh_2_96, zh_2_99, zh_2_100, zh_2_103, zh_2_103q, zh_2_104, zh_2_107, zh_2_108, zh_2_111, zh_2_115, zh_2_117, zh_2_119, zh_2_122, zh_2_123, zh_2_126, zh_2_127, zh_2_130, zh_2_130q, zh_2_131, zh_2_134, zh_2_135, zh_2_138, zh_2_142, zh_2_144, zh_2_146, zh_2_149, zh_2_150, zh_2_153, zh_2_154, zh_2_157, zh_2_157q, zh_2_158, zh_2_161, zh_2_162, zh_2_165, zwl_m1, zwl_0, zwl_1, zwl_2, zwl_3, zwl_4, zwl_5, zwl_6, zwl_7, zwl_8, zwl_10, zwl_15, zwl_24, zwl_32, zwl_33, zwl_40, zwl_41, zwl_42, zwl_43, zwl_45, zwl_47, zwl_48, zwl_52, zwl_56, zwl_57, zwl_59, zwl_60, zwl_61, zwl_63, zwl_64, zwl_66, zwl_67, zwl_68, zwl_70, zwl_75, zwl_77, zwl_80, zwl_82, zwl_84, zwl_88, zwl_89, zwl_97, zwl_104, zwl_110, zwl_112, zwl_114, zwl_118, zwl_123, zwl_125, zwl_126, zwl_159, zwl_160, zwl_200, zwl_255, zwl_480, zwl_960, zwl_3000, zs_kli, zs_klq, zs_kln, zs_wn, zs_wi, zs_wl, zs_wq, ↓zs_ok10, ↓zs_ok11, Option.toList_some, Option.toList_none, List.cons_append, List.nil_append, ↓reduceIte, Nat.reduceAdd, Nat.reduceLeDiff, true_and, and_true, Int.reduceEq, Int.reduceLT, Int.reduceLE, Int.reduceAdd, Int.reduceSub, Int.reduceMul, Int.reduceNeg, Nat.reduceEqDiff, Nat.reduceLT, Nat.reduceBEq, zsI_c, zsI_k, zsI_s, zsR_c, zsR_k, zsR_s]
    exact h
  | succ r ih =>
    intro m li al hli hm ha hR h
    have e1 : zw li = li := zw_i (by omega) (by omega)
    have e2 : li < 80 := by omega
    have hm3 : m < 80 := by omega
    have hR2 : zFil R 22 4 0 m 7 0 2 = some (22, 0) := by rw [zFil_n (by decide)]; exact hR
    rw [zh_2_89]
    simp only [zh_2_0, zh_2_1, zh_2_4, zh_2_5, zh_2_6, zh_2_9, zh_2_12, zh_2_13, zh_2_16, zh_2_16q, zh_2_17, zh_2_20, zh_2_23, zh_2_24, zh_2_26, zh_2_29, zh_2_32, zh_2_33, zh_2_36, zh_2_36q, zh_2_37, zh_2_40, zh_2_43, zh_2_44, zh_2_46, zh_2_49, zh_2_52, zh_2_53, zh_2_55, zh_2_58, zh_2_61, zh_2_62, zh_2_64, zh_2_65, zh_2_68, zh_2_69, zh_2_72, zh_2_73, zh_2_76, zh_2_76q, zh_2_77, zh_2_80, zh_2_81, zh_2_84, zh_2_88, zh_2_90, zh_2_92, zh_2_95, zh_2_96, zh_2_99, zh_2_100, zh_2_103, zh_2_103q, zh_2_104, zh_2_107, zh_2_108, zh_2_111, zh_2_115, zh_2_117, zh_2_119, zh_2_122, zh_2_123, zh_2_126, zh_2_127, zh_2_130, zh_2_130q, zh_2_131, zh_2_134, zh_2_135, zh_2_138, zh_2_142, zh_2_144, zh_2_146, zh_2_149, zh_2_150, zh_2_153, zh_2_154, zh_2_157, zh_2_157q, zh_2_158, zh_2_161, zh_2_162, zh_2_165, zwl_m1, zwl_0, zwl_1, zwl_2, zwl_3, zwl_4, zwl_5, zwl_6, zwl_7, zwl_8, zwl_10, zwl_15, zwl_24, zwl_32, zwl_33, zwl_40, zwl_41, zwl_42, zwl_43, zwl_45, zwl_47, zwl_48, zwl_52, zwl_56, zwl_57, zwl_59, zwl_60, zwl_61, zwl_63, zwl_64, zwl_66, zwl_67, zwl_68, zwl_70, zwl_75, zwl_77, zwl_80, zwl_82, zwl_84, zwl_88, zwl_89, zwl_97, zwl_104, zwl_110, zwl_112, zwl_114, zwl_118, zwl_123, zwl_125, zwl_126, zwl_159, zwl_160, zwl_200, zwl_255, zwl_480, zwl_960, zwl_3000, zs_kli, zs_klq, zs_kln, zs_wn, zs_wi, zs_wl, zs_wq, ↓zs_ok10, ↓zs_ok11, Option.toList_some, Option.toList_none, List.cons_append, List.nil_append, ↓reduceIte, Nat.reduceAdd, Nat.reduceLeDiff, true_and, and_true, Int.reduceEq, Int.reduceLT, Int.reduceLE, Int.reduceAdd, Int.reduceSub, Int.reduceMul, Int.reduceNeg, Nat.reduceEqDiff, Nat.reduceLT, Nat.reduceBEq, zsI_c, zsI_k, zsI_s, zsR_c, zsR_k, zsR_s, e1, e2, hR2]
    rw [zcp_5]
    simp only [zh_5_0, zh_5_1, zh_5_4, zwl_m1, zwl_0, zwl_1, zwl_2, zwl_3, zwl_4, zwl_5, zwl_6, zwl_7, zwl_8, zwl_10, zwl_15, zwl_24, zwl_32, zwl_33, zwl_40, zwl_41, zwl_42, zwl_43, zwl_45, zwl_47, zwl_48, zwl_52, zwl_56, zwl_57, zwl_59, zwl_60, zwl_61, zwl_63, zwl_64, zwl_66, zwl_67, zwl_68, zwl_70, zwl_75, zwl_77, zwl_80, zwl_82, zwl_84, zwl_88, zwl_89, zwl_97, zwl_104, zwl_110, zwl_112, zwl_114, zwl_118, zwl_123, zwl_125, zwl_126, zwl_159, zwl_160, zwl_200, zwl_255, zwl_480, zwl_960, zwl_3000, zs_kli, zs_klq, zs_kln, zs_wn, zs_wi, zs_wl, zs_wq, ↓zs_ok10, ↓zs_ok11, Option.toList_some, Option.toList_none, List.cons_append, List.nil_append, ↓reduceIte, Nat.reduceAdd, Nat.reduceLeDiff, true_and, and_true, Int.reduceEq, Int.reduceLT, Int.reduceLE, Int.reduceAdd, Int.reduceSub, Int.reduceMul, Int.reduceNeg, Nat.reduceEqDiff, Nat.reduceLT, Nat.reduceBEq, zsI_c, zsI_k, zsI_s, zsR_c, zsR_k, zsR_s]
    rw [zcp_905]
    simp only [zh_5_0, zh_5_1, zh_5_4, zh_2_0, zh_2_1, zh_2_4, zh_2_5, zh_2_6, zh_2_9, zh_2_12, zh_2_13, zh_2_16, zh_2_16q, zh_2_17, zh_2_20, zh_2_23, zh_2_24, zh_2_26, zh_2_29, zh_2_32, zh_2_33, zh_2_36, zh_2_36q, zh_2_37, zh_2_40, zh_2_43, zh_2_44, zh_2_46, zh_2_49, zh_2_52, zh_2_53, zh_2_55, zh_2_58, zh_2_61, zh_2_62, zh_2_64, zh_2_65, zh_2_68, zh_2_69, zh_2_72, zh_2_73, zh_2_76, zh_2_76q, zh_2_77, zh_2_80, zh_2_81, zh_2_84, zh_2_88, zh_2_90, zh_2_92, zh_2_95, zh_2_96, zh_2_99, zh_2_100, zh_2_103, zh_2_103q, zh_2_104, zh_2_107, zh_2_108, zh_2_111, zh_2_115, zh_2_117, zh_2_119, zh_2_122, zh_2_123, zh_2_126, zh_2_127, zh_2_130, zh_2_130q, zh_2_131, zh_2_134, zh_2_135, zh_2_138, zh_2_142, zh_2_144, zh_2_146, zh_2_149, zh_2_150, zh_2_153, zh_2_154, zh_2_157, zh_2_157q, zh_2_158, zh_2_161, zh_2_162, zh_2_165, zwl_m1, zwl_0, zwl_1, zwl_2, zwl_3, zwl_4, zwl_5, zwl_6, zwl_7, zwl_8, zwl_10, zwl_15, zwl_24, zwl_32, zwl_33, zwl_40, zwl_41, zwl_42, zwl_43, zwl_45, zwl_47, zwl_48, zwl_52, zwl_56, zwl_57, zwl_59, zwl_60, zwl_61, zwl_63, zwl_64, zwl_66, zwl_67, zwl_68, zwl_70, zwl_75, zwl_77, zwl_80, zwl_82, zwl_84, zwl_88, zwl_89, zwl_97, zwl_104, zwl_110, zwl_112, zwl_114, zwl_118, zwl_123, zwl_125, zwl_126, zwl_159, zwl_160, zwl_200, zwl_255, zwl_480, zwl_960, zwl_3000, zs_kli, zs_klq, zs_kln, zs_wn, zs_wi, zs_wl, zs_wq, ↓zs_ok10, ↓zs_ok11, Option.toList_some, Option.toList_none, List.cons_append, List.nil_append, ↓reduceIte, Nat.reduceAdd, Nat.reduceLeDiff, true_and, and_true, Int.reduceEq, Int.reduceLT, Int.reduceLE, Int.reduceAdd, Int.reduceSub, Int.reduceMul, Int.reduceNeg, Nat.reduceEqDiff, Nat.reduceLT, Nat.reduceBEq, zsI_c, zsI_k, zsI_s, zsR_c, zsR_k, zsR_s, ↓zb22 hli hm3, zArT_22, zde_s, ha, zFil_s]
    refine ih (m + 1) _ _ (by omega) (by omega) ?_ hR ?_
    · exact (va_up_self al.1 4 (m + 0 + 1)).trans (by omega)
    · rw [va_up2]
      have g1 : m + 1 + r + 0 = m + (r + 1) + 0 := by omega
      have g2 : al.2.1 + 1 + r = al.2.1 + (r + 1) := by omega
      have g3 : al.2.2.1 + 11 + 11 * r = al.2.2.1 + 11 * (r + 1) := by omega
      rw [g1, g2, g3]
      exact h
theorem k_lp23 (r : Nat) : ∀ (m : Nat) (li : Int) (al : zA), li = (m : Int) → m + r = 80 → al.1 3 = m + 0 → R 7 0 7 = some (23, 0) → Zgo (d + 13) 2 141 [some (zq (some (7, 0))), some (zi 80)] [] (I, zFil R 23 3 0 80, va_up al.1 3 (m + r + 0), al.2.1 + r, al.2.2.1 + 5 * r, al.2.2.2) K → Zgo (d + 13) 2 116 [some (zq (some (7, 0))), some (zi li)] [] (I, zFil R 23 3 0 m, al) K := by
  induction r with
  | zero =>
    intro m li al hli hm ha hR h
    have e1 : li = 80 := by omega
    have e2 : m = 80 := by omega
    subst e2
    rw [va_id (by omega)] at h
    rw [e1, zh_2_116]
    simp only [zh_2_0, zh_2_1, zh_2_4, zh_2_5, zh_2_6, zh_2_9, zh_2_12, zh_2_13, zh_2_16, zh_2_16q, zh_2_17, zh_2_20, zh_2_23, zh_2_24, zh_2_26, zh_2_29, zh_2_32, zh_2_33, zh_2_36, zh_2_36q, zh_2_37, zh_2_40, zh_2_43, zh_2_44, zh_2_46, zh_2_49, zh_2_52, zh_2_53, zh_2_55, zh_2_58, zh_2_61, zh_2_62, zh_2_64, zh_2_65, zh_2_68, zh_2_69, zh_2_72, zh_2_73, zh_2_76, zh_2_76q, zh_2_77, zh_2_80, zh_2_81, zh_2_84, zh_2_88, zh_2_90, zh_2_92, zh_2_95, zh_2_96, zh_2_99, zh_2_100, zh_2_103, zh_2_103q, zh_2_104, zh_2_107, zh_2_108, zh_2_111, zh_2_115, zh_2_117, zh_2_119, zh_2_122, zh_2_123, zh_2_126, zh_2_127, zh_2_130, zh_2_130q, zh_2_131, zh_2_134, zh_2_135, zh_2_138, zh_2_142, zh_2_144, zh_2_146, zh_2_149, zh_2_150, zh_2_153, zh_2_154, zh_2_157, zh_2_157q, zh_2_158, zh_2_161, zh_2_162, zh_2_165, zwl_m1, zwl_0, zwl_1, zwl_2, zwl_3, zwl_4, zwl_5, zwl_6, zwl_7, zwl_8, zwl_10, zwl_15, zwl_24, zwl_32, zwl_33, zwl_40, zwl_41, zwl_42, zwl_43, zwl_45, zwl_47, zwl_48, zwl_52, zwl_56, zwl_57, zwl_59, zwl_60, zwl_61, zwl_63, zwl_64, zwl_66, zwl_67, zwl_68, zwl_70, zwl_75, zwl_77, zwl_80, zwl_82, zwl_84, zwl_88, zwl_89, zwl_97, zwl_104, zwl_110, zwl_112, zwl_114, zwl_118, zwl_123, zwl_125, zwl_126, zwl_159, zwl_160, zwl_200, zwl_255, zwl_480, zwl_960, zwl_3000, zs_kli, zs_klq, zs_kln, zs_wn, zs_wi, zs_wl, zs_wq, ↓zs_ok10, ↓zs_ok11, Option.toList_some, Option.toList_none, List.cons_append, List.nil_append, ↓reduceIte, Nat.reduceAdd, Nat.reduceLeDiff, true_and, and_true, Int.reduceEq, Int.reduceLT, Int.reduceLE, Int.reduceAdd, Int.reduceSub, Int.reduceMul, Int.reduceNeg, Nat.reduceEqDiff, Nat.reduceLT, Nat.reduceBEq, zsI_c, zsI_k, zsI_s, zsR_c, zsR_k, zsR_s]
    exact h
  | succ r ih =>
    intro m li al hli hm ha hR h
    have e1 : zw li = li := zw_i (by omega) (by omega)
    have e2 : li < 80 := by omega
    have hm3 : m < 80 := by omega
    have hR2 : zFil R 23 3 0 m 7 0 7 = some (23, 0) := by rw [zFil_n (by decide)]; exact hR
    rw [zh_2_116]
    simp only [zh_2_0, zh_2_1, zh_2_4, zh_2_5, zh_2_6, zh_2_9, zh_2_12, zh_2_13, zh_2_16, zh_2_16q, zh_2_17, zh_2_20, zh_2_23, zh_2_24, zh_2_26, zh_2_29, zh_2_32, zh_2_33, zh_2_36, zh_2_36q, zh_2_37, zh_2_40, zh_2_43, zh_2_44, zh_2_46, zh_2_49, zh_2_52, zh_2_53, zh_2_55, zh_2_58, zh_2_61, zh_2_62, zh_2_64, zh_2_65, zh_2_68, zh_2_69, zh_2_72, zh_2_73, zh_2_76, zh_2_76q, zh_2_77, zh_2_80, zh_2_81, zh_2_84, zh_2_88, zh_2_90, zh_2_92, zh_2_95, zh_2_96, zh_2_99, zh_2_100, zh_2_103, zh_2_103q, zh_2_104, zh_2_107, zh_2_108, zh_2_111, zh_2_115, zh_2_117, zh_2_119, zh_2_122, zh_2_123, zh_2_126, zh_2_127, zh_2_130, zh_2_130q, zh_2_131, zh_2_134, zh_2_135, zh_2_138, zh_2_142, zh_2_144, zh_2_146, zh_2_149, zh_2_150, zh_2_153, zh_2_154, zh_2_157, zh_2_157q, zh_2_158, zh_2_161, zh_2_162, zh_2_165, zwl_m1, zwl_0, zwl_1, zwl_2, zwl_3, zwl_4, zwl_5, zwl_6, zwl_7, zwl_8, zwl_10, zwl_15, zwl_24, zwl_32, zwl_33, zwl_40, zwl_41, zwl_42, zwl_43, zwl_45, zwl_47, zwl_48, zwl_52, zwl_56, zwl_57, zwl_59, zwl_60, zwl_61, zwl_63, zwl_64, zwl_66, zwl_67, zwl_68, zwl_70, zwl_75, zwl_77, zwl_80, zwl_82, zwl_84, zwl_88, zwl_89, zwl_97, zwl_104, zwl_110, zwl_112, zwl_114, zwl_118, zwl_123, zwl_125, zwl_126, zwl_159, zwl_160, zwl_200, zwl_255, zwl_480, zwl_960, zwl_3000, zs_kli, zs_klq, zs_kln, zs_wn, zs_wi, zs_wl, zs_wq, ↓zs_ok10, ↓zs_ok11, Option.toList_some, Option.toList_none, List.cons_append, List.nil_append, ↓reduceIte, Nat.reduceAdd, Nat.reduceLeDiff, true_and, and_true, Int.reduceEq, Int.reduceLT, Int.reduceLE, Int.reduceAdd, Int.reduceSub, Int.reduceMul, Int.reduceNeg, Nat.reduceEqDiff, Nat.reduceLT, Nat.reduceBEq, zsI_c, zsI_k, zsI_s, zsR_c, zsR_k, zsR_s, e1, e2, hR2]
    rw [zcp_6]
    simp only [zh_6_0, zh_6_1, zh_6_4, zwl_m1, zwl_0, zwl_1, zwl_2, zwl_3, zwl_4, zwl_5, zwl_6, zwl_7, zwl_8, zwl_10, zwl_15, zwl_24, zwl_32, zwl_33, zwl_40, zwl_41, zwl_42, zwl_43, zwl_45, zwl_47, zwl_48, zwl_52, zwl_56, zwl_57, zwl_59, zwl_60, zwl_61, zwl_63, zwl_64, zwl_66, zwl_67, zwl_68, zwl_70, zwl_75, zwl_77, zwl_80, zwl_82, zwl_84, zwl_88, zwl_89, zwl_97, zwl_104, zwl_110, zwl_112, zwl_114, zwl_118, zwl_123, zwl_125, zwl_126, zwl_159, zwl_160, zwl_200, zwl_255, zwl_480, zwl_960, zwl_3000, zs_kli, zs_klq, zs_kln, zs_wn, zs_wi, zs_wl, zs_wq, ↓zs_ok10, ↓zs_ok11, Option.toList_some, Option.toList_none, List.cons_append, List.nil_append, ↓reduceIte, Nat.reduceAdd, Nat.reduceLeDiff, true_and, and_true, Int.reduceEq, Int.reduceLT, Int.reduceLE, Int.reduceAdd, Int.reduceSub, Int.reduceMul, Int.reduceNeg, Nat.reduceEqDiff, Nat.reduceLT, Nat.reduceBEq, zsI_c, zsI_k, zsI_s, zsR_c, zsR_k, zsR_s]
    rw [zcp_905]
    simp only [zh_6_0, zh_6_1, zh_6_4, zh_2_0, zh_2_1, zh_2_4, zh_2_5, zh_2_6, zh_2_9, zh_2_12, zh_2_13, zh_2_16, zh_2_16q, zh_2_17, zh_2_20, zh_2_23, zh_2_24, zh_2_26, zh_2_29, zh_2_32, zh_2_33, zh_2_36, zh_2_36q, zh_2_37, zh_2_40, zh_2_43, zh_2_44, zh_2_46, zh_2_49, zh_2_52, zh_2_53, zh_2_55, zh_2_58, zh_2_61, zh_2_62, zh_2_64, zh_2_65, zh_2_68, zh_2_69, zh_2_72, zh_2_73, zh_2_76, zh_2_76q, zh_2_77, zh_2_80, zh_2_81, zh_2_84, zh_2_88, zh_2_90, zh_2_92, zh_2_95, zh_2_96, zh_2_99, zh_2_100, zh_2_103, zh_2_103q, zh_2_104, zh_2_107, zh_2_108, zh_2_111, zh_2_115, zh_2_117, zh_2_119, zh_2_122, zh_2_123, zh_2_126, zh_2_127, zh_2_130, zh_2_130q, zh_2_131, zh_2_134, zh_2_135, zh_2_138, zh_2_142, zh_2_144, zh_2_146, zh_2_149, zh_2_150, zh_2_153, zh_2_154, zh_2_157, zh_2_157q, zh_2_158, zh_2_161, zh_2_162, zh_2_165, zwl_m1, zwl_0, zwl_1, zwl_2, zwl_3, zwl_4, zwl_5, zwl_6, zwl_7, zwl_8, zwl_10, zwl_15, zwl_24, zwl_32, zwl_33, zwl_40, zwl_41, zwl_42, zwl_43, zwl_45, zwl_47, zwl_48, zwl_52, zwl_56, zwl_57, zwl_59, zwl_60, zwl_61, zwl_63, zwl_64, zwl_66, zwl_67, zwl_68, zwl_70, zwl_75, zwl_77, zwl_80, zwl_82, zwl_84, zwl_88, zwl_89, zwl_97, zwl_104, zwl_110, zwl_112, zwl_114, zwl_118, zwl_123, zwl_125, zwl_126, zwl_159, zwl_160, zwl_200, zwl_255, zwl_480, zwl_960, zwl_3000, zs_kli, zs_klq, zs_kln, zs_wn, zs_wi, zs_wl, zs_wq, ↓zs_ok10, ↓zs_ok11, Option.toList_some, Option.toList_none, List.cons_append, List.nil_append, ↓reduceIte, Nat.reduceAdd, Nat.reduceLeDiff, true_and, and_true, Int.reduceEq, Int.reduceLT, Int.reduceLE, Int.reduceAdd, Int.reduceSub, Int.reduceMul, Int.reduceNeg, Nat.reduceEqDiff, Nat.reduceLT, Nat.reduceBEq, zsI_c, zsI_k, zsI_s, zsR_c, zsR_k, zsR_s, ↓zb23 hli hm3, zArT_23, zde_s, ha, zFil_s]
    refine ih (m + 1) _ _ (by omega) (by omega) ?_ hR ?_
    · exact (va_up_self al.1 3 (m + 0 + 1)).trans (by omega)
    · rw [va_up2]
      have g1 : m + 1 + r + 0 = m + (r + 1) + 0 := by omega
      have g2 : al.2.1 + 1 + r = al.2.1 + (r + 1) := by omega
      have g3 : al.2.2.1 + 5 + 5 * r = al.2.2.1 + 5 * (r + 1) := by omega
      rw [g1, g2, g3]
      exact h
theorem k_lp24 (r : Nat) : ∀ (m : Nat) (li : Int) (al : zA), li = (m : Int) → m + r = 32 → al.1 5 = m + 0 → R 7 0 8 = some (24, 0) → Zgo (d + 13) 2 168 [some (zq (some (7, 0))), some (zi 32)] [] (I, zFil R 24 5 0 32, va_up al.1 5 (m + r + 0), al.2.1 + r, al.2.2.1 + 4 * r, al.2.2.2) K → Zgo (d + 13) 2 143 [some (zq (some (7, 0))), some (zi li)] [] (I, zFil R 24 5 0 m, al) K := by
  induction r with
  | zero =>
    intro m li al hli hm ha hR h
    have e1 : li = 32 := by omega
    have e2 : m = 32 := by omega
    subst e2
    rw [va_id (by omega)] at h
    rw [e1, zh_2_143]
    simp only [zh_2_0, zh_2_1, zh_2_4, zh_2_5, zh_2_6, zh_2_9, zh_2_12, zh_2_13, zh_2_16, zh_2_16q, zh_2_17, zh_2_20, zh_2_23, zh_2_24, zh_2_26, zh_2_29, zh_2_32, zh_2_33, zh_2_36, zh_2_36q, zh_2_37, zh_2_40, zh_2_43, zh_2_44, zh_2_46, zh_2_49, zh_2_52, zh_2_53, zh_2_55, zh_2_58, zh_2_61, zh_2_62, zh_2_64, zh_2_65, zh_2_68, zh_2_69, zh_2_72, zh_2_73, zh_2_76, zh_2_76q, zh_2_77, zh_2_80, zh_2_81, zh_2_84, zh_2_88, zh_2_90, zh_2_92, zh_2_95, zh_2_96, zh_2_99, zh_2_100, zh_2_103, zh_2_103q, zh_2_104, zh_2_107, zh_2_108, zh_2_111, zh_2_115, zh_2_117, zh_2_119, zh_2_122, zh_2_123, zh_2_126, zh_2_127, zh_2_130, zh_2_130q, zh_2_131, zh_2_134, zh_2_135, zh_2_138, zh_2_142, zh_2_144, zh_2_146, zh_2_149, zh_2_150, zh_2_153, zh_2_154, zh_2_157, zh_2_157q, zh_2_158, zh_2_161, zh_2_162, zh_2_165, zwl_m1, zwl_0, zwl_1, zwl_2, zwl_3, zwl_4, zwl_5, zwl_6, zwl_7, zwl_8, zwl_10, zwl_15, zwl_24, zwl_32, zwl_33, zwl_40, zwl_41, zwl_42, zwl_43, zwl_45, zwl_47, zwl_48, zwl_52, zwl_56, zwl_57, zwl_59, zwl_60, zwl_61, zwl_63, zwl_64, zwl_66, zwl_67, zwl_68, zwl_70, zwl_75, zwl_77, zwl_80, zwl_82, zwl_84, zwl_88, zwl_89, zwl_97, zwl_104, zwl_110, zwl_112, zwl_114, zwl_118, zwl_123, zwl_125, zwl_126, zwl_159, zwl_160, zwl_200, zwl_255, zwl_480, zwl_960, zwl_3000, zs_kli, zs_klq, zs_kln, zs_wn, zs_wi, zs_wl, zs_wq, ↓zs_ok10, ↓zs_ok11, Option.toList_some, Option.toList_none, List.cons_append, List.nil_append, ↓reduceIte, Nat.reduceAdd, Nat.reduceLeDiff, true_and, and_true, Int.reduceEq, Int.reduceLT, Int.reduceLE, Int.reduceAdd, Int.reduceSub, Int.reduceMul, Int.reduceNeg, Nat.reduceEqDiff, Nat.reduceLT, Nat.reduceBEq, zsI_c, zsI_k, zsI_s, zsR_c, zsR_k, zsR_s]
    exact h
  | succ r ih =>
    intro m li al hli hm ha hR h
    have e1 : zw li = li := zw_i (by omega) (by omega)
    have e2 : li < 32 := by omega
    have hm3 : m < 32 := by omega
    have hR2 : zFil R 24 5 0 m 7 0 8 = some (24, 0) := by rw [zFil_n (by decide)]; exact hR
    rw [zh_2_143]
    simp only [zh_2_0, zh_2_1, zh_2_4, zh_2_5, zh_2_6, zh_2_9, zh_2_12, zh_2_13, zh_2_16, zh_2_16q, zh_2_17, zh_2_20, zh_2_23, zh_2_24, zh_2_26, zh_2_29, zh_2_32, zh_2_33, zh_2_36, zh_2_36q, zh_2_37, zh_2_40, zh_2_43, zh_2_44, zh_2_46, zh_2_49, zh_2_52, zh_2_53, zh_2_55, zh_2_58, zh_2_61, zh_2_62, zh_2_64, zh_2_65, zh_2_68, zh_2_69, zh_2_72, zh_2_73, zh_2_76, zh_2_76q, zh_2_77, zh_2_80, zh_2_81, zh_2_84, zh_2_88, zh_2_90, zh_2_92, zh_2_95, zh_2_96, zh_2_99, zh_2_100, zh_2_103, zh_2_103q, zh_2_104, zh_2_107, zh_2_108, zh_2_111, zh_2_115, zh_2_117, zh_2_119, zh_2_122, zh_2_123, zh_2_126, zh_2_127, zh_2_130, zh_2_130q, zh_2_131, zh_2_134, zh_2_135, zh_2_138, zh_2_142, zh_2_144, zh_2_146, zh_2_149, zh_2_150, zh_2_153, zh_2_154, zh_2_157, zh_2_157q, zh_2_158, zh_2_161, zh_2_162, zh_2_165, zwl_m1, zwl_0, zwl_1, zwl_2, zwl_3, zwl_4, zwl_5, zwl_6, zwl_7, zwl_8, zwl_10, zwl_15, zwl_24, zwl_32, zwl_33, zwl_40, zwl_41, zwl_42, zwl_43, zwl_45, zwl_47, zwl_48, zwl_52, zwl_56, zwl_57, zwl_59, zwl_60, zwl_61, zwl_63, zwl_64, zwl_66, zwl_67, zwl_68, zwl_70, zwl_75, zwl_77, zwl_80, zwl_82, zwl_84, zwl_88, zwl_89, zwl_97, zwl_104, zwl_110, zwl_112, zwl_114, zwl_118, zwl_123, zwl_125, zwl_126, zwl_159, zwl_160, zwl_200, zwl_255, zwl_480, zwl_960, zwl_3000, zs_kli, zs_klq, zs_kln, zs_wn, zs_wi, zs_wl, zs_wq, ↓zs_ok10, ↓zs_ok11, Option.toList_some, Option.toList_none, List.cons_append, List.nil_append, ↓reduceIte, Nat.reduceAdd, Nat.reduceLeDiff, true_and, and_true, Int.reduceEq, Int.reduceLT, Int.reduceLE, Int.reduceAdd, Int.reduceSub, Int.reduceMul, Int.reduceNeg, Nat.reduceEqDiff, Nat.reduceLT, Nat.reduceBEq, zsI_c, zsI_k, zsI_s, zsR_c, zsR_k, zsR_s, e1, e2, hR2]
    rw [zcp_7]
    simp only [zh_7_0, zh_7_1, zh_7_4, zwl_m1, zwl_0, zwl_1, zwl_2, zwl_3, zwl_4, zwl_5, zwl_6, zwl_7, zwl_8, zwl_10, zwl_15, zwl_24, zwl_32, zwl_33, zwl_40, zwl_41, zwl_42, zwl_43, zwl_45, zwl_47, zwl_48, zwl_52, zwl_56, zwl_57, zwl_59, zwl_60, zwl_61, zwl_63, zwl_64, zwl_66, zwl_67, zwl_68, zwl_70, zwl_75, zwl_77, zwl_80, zwl_82, zwl_84, zwl_88, zwl_89, zwl_97, zwl_104, zwl_110, zwl_112, zwl_114, zwl_118, zwl_123, zwl_125, zwl_126, zwl_159, zwl_160, zwl_200, zwl_255, zwl_480, zwl_960, zwl_3000, zs_kli, zs_klq, zs_kln, zs_wn, zs_wi, zs_wl, zs_wq, ↓zs_ok10, ↓zs_ok11, Option.toList_some, Option.toList_none, List.cons_append, List.nil_append, ↓reduceIte, Nat.reduceAdd, Nat.reduceLeDiff, true_and, and_true, Int.reduceEq, Int.reduceLT, Int.reduceLE, Int.reduceAdd, Int.reduceSub, Int.reduceMul, Int.reduceNeg, Nat.reduceEqDiff, Nat.reduceLT, Nat.reduceBEq, zsI_c, zsI_k, zsI_s, zsR_c, zsR_k, zsR_s]
    rw [zcp_905]
    simp only [zh_7_0, zh_7_1, zh_7_4, zh_2_0, zh_2_1, zh_2_4, zh_2_5, zh_2_6, zh_2_9, zh_2_12, zh_2_13, zh_2_16, zh_2_16q, zh_2_17, zh_2_20, zh_2_23, zh_2_24, zh_2_26, zh_2_29, zh_2_32, zh_2_33, zh_2_36, zh_2_36q, zh_2_37, zh_2_40, zh_2_43, zh_2_44, zh_2_46, zh_2_49, zh_2_52, zh_2_53, zh_2_55, zh_2_58, zh_2_61, zh_2_62, zh_2_64, zh_2_65, zh_2_68, zh_2_69, zh_2_72, zh_2_73, zh_2_76, zh_2_76q, zh_2_77, zh_2_80, zh_2_81, zh_2_84, zh_2_88, zh_2_90, zh_2_92, zh_2_95, zh_2_96, zh_2_99, zh_2_100, zh_2_103, zh_2_103q, zh_2_104, zh_2_107, zh_2_108, zh_2_111, zh_2_115, zh_2_117, zh_2_119, zh_2_122, zh_2_123, zh_2_126, zh_2_127, zh_2_130, zh_2_130q, zh_2_131, zh_2_134, zh_2_135, zh_2_138, zh_2_142, zh_2_144, zh_2_146, zh_2_149, zh_2_150, zh_2_153, zh_2_154, zh_2_157, zh_2_157q, zh_2_158, zh_2_161, zh_2_162, zh_2_165, zwl_m1, zwl_0, zwl_1, zwl_2, zwl_3, zwl_4, zwl_5, zwl_6, zwl_7, zwl_8, zwl_10, zwl_15, zwl_24, zwl_32, zwl_33, zwl_40, zwl_41, zwl_42, zwl_43, zwl_45, zwl_47, zwl_48, zwl_52, zwl_56, zwl_57, zwl_59, zwl_60, zwl_61, zwl_63, zwl_64, zwl_66, zwl_67, zwl_68, zwl_70, zwl_75, zwl_77, zwl_80, zwl_82, zwl_84, zwl_88, zwl_89, zwl_97, zwl_104, zwl_110, zwl_112, zwl_114, zwl_118, zwl_123, zwl_125, zwl_126, zwl_159, zwl_160, zwl_200, zwl_255, zwl_480, zwl_960, zwl_3000, zs_kli, zs_klq, zs_kln, zs_wn, zs_wi, zs_wl, zs_wq, ↓zs_ok10, ↓zs_ok11, Option.toList_some, Option.toList_none, List.cons_append, List.nil_append, ↓reduceIte, Nat.reduceAdd, Nat.reduceLeDiff, true_and, and_true, Int.reduceEq, Int.reduceLT, Int.reduceLE, Int.reduceAdd, Int.reduceSub, Int.reduceMul, Int.reduceNeg, Nat.reduceEqDiff, Nat.reduceLT, Nat.reduceBEq, zsI_c, zsI_k, zsI_s, zsR_c, zsR_k, zsR_s, ↓zb24 hli hm3, zArT_24, zde_s, ha, zFil_s]
    refine ih (m + 1) _ _ (by omega) (by omega) ?_ hR ?_
    · exact (va_up_self al.1 5 (m + 0 + 1)).trans (by omega)
    · rw [va_up2]
      have g1 : m + 1 + r + 0 = m + (r + 1) + 0 := by omega
      have g2 : al.2.1 + 1 + r = al.2.1 + (r + 1) := by omega
      have g3 : al.2.2.1 + 4 + 4 * r = al.2.2.1 + 4 * (r + 1) := by omega
      rw [g1, g2, g3]
      exact h
end
