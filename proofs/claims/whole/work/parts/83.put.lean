/-! steps of reading over the states: a statement begins, a block opens, an expression -/
section
variable {d n p e s b c x k : Nat} {T : Nat → Int} {P : Nat → Nat → Int} {I : zMI} {R : zMR} {al : zA} {K Q : Option zV → zS → Prop} {root ki z j : Int}
theorem PM.put {t i : Nat} {v : Int} (h : PM I T n p e s b P) (ht : 34 ≤ t ∧ t ≤ 48) : PM (zsI I t 0 i v) T n p e s b (pU P t i v) := by
  obtain ⟨h1, h2, h3, h4, h5⟩ := h
  exact ⟨h1.congr (zsI_ne (by omega)) (fun j => zsI_ne (by omega)) (by rw [zsI_ne (by omega)]; exact h1.2.2.1) (zsI_ne (by omega)) (fun c j hc => zsI_ne (by omega)) (fun c j hc => pU_n (by omega)), by rw [zsI_ne (by omega)]; exact h2, by rw [zsI_ne (by omega)]; exact h3, h4.set, fun y hy => by rw [zsI_ne (by omega)]; exact h5 y hy⟩
/-- the loop's turn: a statement begins -/
theorem rh_stmt (hK : Kon R) (hT : TX T n) (hx : PM I T n p e s b P) (hp : p ≤ 200) (h4 : I 11 0 4 = 0) (hki : ki = (k : Int)) (hk1 : 1 ≤ k) (hk : k ≤ 4) (ho : I 52 0 k = (x : Int)) (hB : AB P s b) (hxb : x < b) (hb : b < 159) (hs : s < 159) (hc : ch T n p ≠ 125)
    (h : ∀ I1, FM I I1 k → I1 11 0 4 = 0 → PM I1 T n (p + 1) e (s + 1) b (pNS P s x (ch T n p)) → ∀ K' : Option zV → zS → Prop, (∀ j I', RA (d + 5) R al Q root ki (s : Int) j I' → K' (some (zi j)) (I', R, al)) → zCp (d + 5) 97 [zq (some (11, 0)), zi (s : Int), zi (ch T n p)] (I1, R, al) K') : RH (d + 5) R al Q root ki I := by
  intro l3 l4 l5 l6
  have hr := ch_r (p := p) hT
  have e1 : zw ki = ki := zw_i (by omega) (by omega)
  have e2 : 0 < ki := by omega
  have hk8 : k < 8 := by omega
  have hx160 : x < 160 := by omega
  have x3 := hx.1.2.2.1
  have e47 : I 47 0 x = P 47 x := hx.2.2.2.1 47 x (by decide) (by decide)
  have e0 : ((p : Int) + 1) = ((p + 1 : Nat) : Int) := by omega
  have ec : zw (ch T n p) = ch T n p := zw_i (by omega) (by omega)
  have hl : P 46 x = -1 ∨ (0 ≤ P 46 x ∧ P 46 x < (s : Int)) := by
    rcases (hB x hxb).1 with ⟨_, h, _⟩ | ⟨f, l, _, h, _, h2, _⟩ <;> omega
  have hx1 : PM (zsI I 11 0 3 ((p + 1 : Nat) : Int)) T n (p + 1) e s b P := hx.at rfl
  have h4' : zsI I 11 0 3 ((p + 1 : Nat) : Int) 11 0 4 = 0 := by rw [zsI_ne (by omega)]; exact h4
  generalize hxi : (x : Int) = xi at ho
  rw [zh_91_16]
  simp only [zh_91_0, zh_91_1, zh_91_2, zh_91_3, zh_91_6, zh_91_7, zh_91_8, zh_91_9, zh_91_10, zh_91_13, zh_91_14, zh_91_15, zh_91_17, zh_91_20, zh_91_21, zh_91_24, zh_91_27, zh_91_28, zh_91_31, zh_91_32, zh_91_33, zh_91_34, zh_91_35, zh_91_38, zh_91_40, zh_91_41, zh_91_44, zh_91_45, zh_91_46, zh_91_48, zh_91_49, zh_91_51, zh_91_52, zh_91_52q, zh_91_53, zh_91_56, zh_91_57, zh_91_58, zh_91_61, zh_91_63, zh_91_65, zh_91_68, zh_91_71, zh_91_73, zh_91_76, zh_91_77, zh_91_80, zh_91_81, zh_91_83, zh_91_84, zh_91_87, zh_91_88, zh_91_89, zh_91_92, zh_91_94, zh_91_97, zh_91_98, zh_91_99, zh_91_101, zh_91_104, zh_91_106, zh_91_107, zh_91_109, zh_91_111, zh_91_114, zh_91_118, zh_91_121, zh_91_122, zh_91_125, zh_91_128, zh_91_131, zh_91_132, zh_91_133, zh_91_134, zh_91_137, zh_91_138, zh_91_141, zh_91_142, zh_91_145, zh_91_146, zh_91_149, zh_91_150, zh_91_151, zh_91_153, zh_91_155, zh_91_158, zh_91_159, zh_91_162, zh_91_163, zwl_m1, zwl_0, zwl_1, zwl_2, zwl_3, zwl_4, zwl_5, zwl_6, zwl_7, zwl_8, zwl_10, zwl_15, zwl_24, zwl_32, zwl_33, zwl_40, zwl_41, zwl_42, zwl_43, zwl_45, zwl_47, zwl_48, zwl_52, zwl_56, zwl_57, zwl_59, zwl_60, zwl_61, zwl_63, zwl_64, zwl_66, zwl_67, zwl_68, zwl_70, zwl_75, zwl_77, zwl_80, zwl_82, zwl_84, zwl_88, zwl_89, zwl_97, zwl_104, zwl_110, zwl_112, zwl_114, zwl_118, zwl_123, zwl_125, zwl_126, zwl_159, zwl_160, zwl_200, zwl_255, zwl_480, zwl_960, zwl_3000, zs_kli, zs_klq, zs_kln, zs_wn, zs_wi, zs_wl, zs_wq, ↓zs_ok10, ↓zs_ok11, Option.toList_some, Option.toList_none, List.cons_append, List.nil_append, ↓reduceIte, Nat.reduceAdd, Nat.reduceLeDiff, true_and, and_true, Int.reduceEq, Int.reduceLT, Int.reduceLE, Int.reduceAdd, Int.reduceSub, Int.reduceMul, Int.reduceNeg, Nat.reduceEqDiff, Nat.reduceLT, Nat.reduceBEq, zsI_c, zsI_k, zsI_s, zsR_c, zsR_k, zsR_s, kon_11_0_1 hK, kon_11_0_7 hK, kon_11_0_8 hK, kon_11_0_9 hK, kon_11_0_11 hK, kon_11_0_12 hK, kon_11_0_13 hK, kon_11_0_14 hK, kon_11_0_15 hK, kon_11_0_16 hK, kon_11_0_17 hK, kon_11_0_18 hK, kon_11_0_19 hK, kon_11_0_20 hK, kon_11_0_21 hK, kon_11_0_23 hK, kon_11_0_24 hK, kon_11_0_25 hK, kon_11_0_26 hK, kon_11_0_27 hK, kon_11_0_29 hK, kon_11_0_30 hK, kon_11_0_31 hK, kon_11_0_32 hK, kon_11_0_33 hK, kon_11_0_34 hK, kon_11_0_42 hK, kon_11_0_43 hK, kon_11_0_44 hK, kon_11_0_45 hK, kon_11_0_46 hK, kon_11_0_47 hK, kon_11_0_48 hK, kon_11_0_49 hK, kon_11_0_54 hK, e1, e2, h4, ↓za52 hki hk8, ho]
  refine mx_peek hK hT hx.1 (by omega) ?_
  simp only [zh_91_0, zh_91_1, zh_91_2, zh_91_3, zh_91_6, zh_91_7, zh_91_8, zh_91_9, zh_91_10, zh_91_13, zh_91_14, zh_91_15, zh_91_17, zh_91_20, zh_91_21, zh_91_24, zh_91_27, zh_91_28, zh_91_31, zh_91_32, zh_91_33, zh_91_34, zh_91_35, zh_91_38, zh_91_40, zh_91_41, zh_91_44, zh_91_45, zh_91_46, zh_91_48, zh_91_49, zh_91_51, zh_91_52, zh_91_52q, zh_91_53, zh_91_56, zh_91_57, zh_91_58, zh_91_61, zh_91_63, zh_91_65, zh_91_68, zh_91_71, zh_91_73, zh_91_76, zh_91_77, zh_91_80, zh_91_81, zh_91_83, zh_91_84, zh_91_87, zh_91_88, zh_91_89, zh_91_92, zh_91_94, zh_91_97, zh_91_98, zh_91_99, zh_91_101, zh_91_104, zh_91_106, zh_91_107, zh_91_109, zh_91_111, zh_91_114, zh_91_118, zh_91_121, zh_91_122, zh_91_125, zh_91_128, zh_91_131, zh_91_132, zh_91_133, zh_91_134, zh_91_137, zh_91_138, zh_91_141, zh_91_142, zh_91_145, zh_91_146, zh_91_149, zh_91_150, zh_91_151, zh_91_153, zh_91_155, zh_91_158, zh_91_159, zh_91_162, zh_91_163, zwl_m1, zwl_0, zwl_1, zwl_2, zwl_3, zwl_4, zwl_5, zwl_6, zwl_7, zwl_8, zwl_10, zwl_15, zwl_24, zwl_32, zwl_33, zwl_40, zwl_41, zwl_42, zwl_43, zwl_45, zwl_47, zwl_48, zwl_52, zwl_56, zwl_57, zwl_59, zwl_60, zwl_61, zwl_63, zwl_64, zwl_66, zwl_67, zwl_68, zwl_70, zwl_75, zwl_77, zwl_80, zwl_82, zwl_84, zwl_88, zwl_89, zwl_97, zwl_104, zwl_110, zwl_112, zwl_114, zwl_118, zwl_123, zwl_125, zwl_126, zwl_159, zwl_160, zwl_200, zwl_255, zwl_480, zwl_960, zwl_3000, zs_kli, zs_klq, zs_kln, zs_wn, zs_wi, zs_wl, zs_wq, ↓zs_ok10, ↓zs_ok11, Option.toList_some, Option.toList_none, List.cons_append, List.nil_append, ↓reduceIte, Nat.reduceAdd, Nat.reduceLeDiff, true_and, and_true, Int.reduceEq, Int.reduceLT, Int.reduceLE, Int.reduceAdd, Int.reduceSub, Int.reduceMul, Int.reduceNeg, Nat.reduceEqDiff, Nat.reduceLT, Nat.reduceBEq, zsI_c, zsI_k, zsI_s, zsR_c, zsR_k, zsR_s, kon_11_0_1 hK, kon_11_0_7 hK, kon_11_0_8 hK, kon_11_0_9 hK, kon_11_0_11 hK, kon_11_0_12 hK, kon_11_0_13 hK, kon_11_0_14 hK, kon_11_0_15 hK, kon_11_0_16 hK, kon_11_0_17 hK, kon_11_0_18 hK, kon_11_0_19 hK, kon_11_0_20 hK, kon_11_0_21 hK, kon_11_0_23 hK, kon_11_0_24 hK, kon_11_0_25 hK, kon_11_0_26 hK, kon_11_0_27 hK, kon_11_0_29 hK, kon_11_0_30 hK, kon_11_0_31 hK, kon_11_0_32 hK, kon_11_0_33 hK, kon_11_0_34 hK, kon_11_0_42 hK, kon_11_0_43 hK, kon_11_0_44 hK, kon_11_0_45 hK, kon_11_0_46 hK, kon_11_0_47 hK, kon_11_0_48 hK, kon_11_0_49 hK, kon_11_0_54 hK, ↓za47 hxi.symm hx160, e47, x3, e0, ec, hc]
  obtain ⟨a1, a2, a3, a4, a5⟩ := hx1
  refine mn_stmt hK a4 hs a2 hxi.symm (by omega) hl (fun I1 f1 g1 g2 => ?_)
  simp only [zh_91_0, zh_91_1, zh_91_2, zh_91_3, zh_91_6, zh_91_7, zh_91_8, zh_91_9, zh_91_10, zh_91_13, zh_91_14, zh_91_15, zh_91_17, zh_91_20, zh_91_21, zh_91_24, zh_91_27, zh_91_28, zh_91_31, zh_91_32, zh_91_33, zh_91_34, zh_91_35, zh_91_38, zh_91_40, zh_91_41, zh_91_44, zh_91_45, zh_91_46, zh_91_48, zh_91_49, zh_91_51, zh_91_52, zh_91_52q, zh_91_53, zh_91_56, zh_91_57, zh_91_58, zh_91_61, zh_91_63, zh_91_65, zh_91_68, zh_91_71, zh_91_73, zh_91_76, zh_91_77, zh_91_80, zh_91_81, zh_91_83, zh_91_84, zh_91_87, zh_91_88, zh_91_89, zh_91_92, zh_91_94, zh_91_97, zh_91_98, zh_91_99, zh_91_101, zh_91_104, zh_91_106, zh_91_107, zh_91_109, zh_91_111, zh_91_114, zh_91_118, zh_91_121, zh_91_122, zh_91_125, zh_91_128, zh_91_131, zh_91_132, zh_91_133, zh_91_134, zh_91_137, zh_91_138, zh_91_141, zh_91_142, zh_91_145, zh_91_146, zh_91_149, zh_91_150, zh_91_151, zh_91_153, zh_91_155, zh_91_158, zh_91_159, zh_91_162, zh_91_163, zwl_m1, zwl_0, zwl_1, zwl_2, zwl_3, zwl_4, zwl_5, zwl_6, zwl_7, zwl_8, zwl_10, zwl_15, zwl_24, zwl_32, zwl_33, zwl_40, zwl_41, zwl_42, zwl_43, zwl_45, zwl_47, zwl_48, zwl_52, zwl_56, zwl_57, zwl_59, zwl_60, zwl_61, zwl_63, zwl_64, zwl_66, zwl_67, zwl_68, zwl_70, zwl_75, zwl_77, zwl_80, zwl_82, zwl_84, zwl_88, zwl_89, zwl_97, zwl_104, zwl_110, zwl_112, zwl_114, zwl_118, zwl_123, zwl_125, zwl_126, zwl_159, zwl_160, zwl_200, zwl_255, zwl_480, zwl_960, zwl_3000, zs_kli, zs_klq, zs_kln, zs_wn, zs_wi, zs_wl, zs_wq, ↓zs_ok10, ↓zs_ok11, Option.toList_some, Option.toList_none, List.cons_append, List.nil_append, ↓reduceIte, Nat.reduceAdd, Nat.reduceLeDiff, true_and, and_true, Int.reduceEq, Int.reduceLT, Int.reduceLE, Int.reduceAdd, Int.reduceSub, Int.reduceMul, Int.reduceNeg, Nat.reduceEqDiff, Nat.reduceLT, Nat.reduceBEq, zsI_c, zsI_k, zsI_s, zsR_c, zsR_k, zsR_s]
  have fm : FM I I1 k := fun c i j h1 h2 => by rw [f1 c i j (by omega) (by omega), zsI_n (by omega)]
  refine h I1 fm (by rw [f1 _ _ _ (by omega) (by omega)]; exact h4') ⟨a1.congr (f1 _ _ _ (by omega) (by omega)) (fun j => f1 _ _ _ (by omega) (by omega)) (by rw [f1 _ _ _ (by omega) (by omega)]; exact a1.2.2.1) (f1 _ _ _ (by omega) (by omega)) (fun c j hc => f1 _ _ _ (by omega) (by omega)) (fun c j hc => pNS_o (by omega) (by omega) (by omega) (by omega) (by omega) (by omega)), g2, by rw [f1 _ _ _ (by omega) (by omega)]; exact a3, g1, fun y hy => by rw [f1 _ _ _ (by omega) (by omega)]; exact a5 y hy⟩ _ (fun j I' hra => ?_)
  simp only [zh_91_0, zh_91_1, zh_91_2, zh_91_3, zh_91_6, zh_91_7, zh_91_8, zh_91_9, zh_91_10, zh_91_13, zh_91_14, zh_91_15, zh_91_17, zh_91_20, zh_91_21, zh_91_24, zh_91_27, zh_91_28, zh_91_31, zh_91_32, zh_91_33, zh_91_34, zh_91_35, zh_91_38, zh_91_40, zh_91_41, zh_91_44, zh_91_45, zh_91_46, zh_91_48, zh_91_49, zh_91_51, zh_91_52, zh_91_52q, zh_91_53, zh_91_56, zh_91_57, zh_91_58, zh_91_61, zh_91_63, zh_91_65, zh_91_68, zh_91_71, zh_91_73, zh_91_76, zh_91_77, zh_91_80, zh_91_81, zh_91_83, zh_91_84, zh_91_87, zh_91_88, zh_91_89, zh_91_92, zh_91_94, zh_91_97, zh_91_98, zh_91_99, zh_91_101, zh_91_104, zh_91_106, zh_91_107, zh_91_109, zh_91_111, zh_91_114, zh_91_118, zh_91_121, zh_91_122, zh_91_125, zh_91_128, zh_91_131, zh_91_132, zh_91_133, zh_91_134, zh_91_137, zh_91_138, zh_91_141, zh_91_142, zh_91_145, zh_91_146, zh_91_149, zh_91_150, zh_91_151, zh_91_153, zh_91_155, zh_91_158, zh_91_159, zh_91_162, zh_91_163, zwl_m1, zwl_0, zwl_1, zwl_2, zwl_3, zwl_4, zwl_5, zwl_6, zwl_7, zwl_8, zwl_10, zwl_15, zwl_24, zwl_32, zwl_33, zwl_40, zwl_41, zwl_42, zwl_43, zwl_45, zwl_47, zwl_48, zwl_52, zwl_56, zwl_57, zwl_59, zwl_60, zwl_61, zwl_63, zwl_64, zwl_66, zwl_67, zwl_68, zwl_70, zwl_75, zwl_77, zwl_80, zwl_82, zwl_84, zwl_88, zwl_89, zwl_97, zwl_104, zwl_110, zwl_112, zwl_114, zwl_118, zwl_123, zwl_125, zwl_126, zwl_159, zwl_160, zwl_200, zwl_255, zwl_480, zwl_960, zwl_3000, zs_kli, zs_klq, zs_kln, zs_wn, zs_wi, zs_wl, zs_wq, ↓zs_ok10, ↓zs_ok11, Option.toList_some, Option.toList_none, List.cons_append, List.nil_append, ↓reduceIte, Nat.reduceAdd, Nat.reduceLeDiff, true_and, and_true, Int.reduceEq, Int.reduceLT, Int.reduceLE, Int.reduceAdd, Int.reduceSub, Int.reduceMul, Int.reduceNeg, Nat.reduceEqDiff, Nat.reduceLT, Nat.reduceBEq, zsI_c, zsI_k, zsI_s, zsR_c, zsR_k, zsR_s]
  exact hra _ _
theorem ra_block {zn jn : Nat} (dep il tk : Int) (hK : Kon R) (hT : TX T n) (hx : PM I T n p e s b P) (hp : p ≤ 199) (hki : ki = (k : Int)) (hk : k ≤ 4) (hz : z = (zn : Int)) (hzn : zn < 159) (hj : j = (jn : Int)) (hjn : jn < 6) (hb : b < 159)
    (h : ∀ I', FM I I' k → PM I' T n (p + 1) e s (b + 1) (pNB P b z j dep il tk) → I' 11 0 4 = (if k ≤ 3 ∧ ch T n p = 123 then 0 else 1) → I' 52 0 (k + 1) = (b : Int) → RH (d + 5) R al Q root (ki + 1) I') : ∀ l3 l4 : Option zV, Zgo (d + 5) 91 128 [some (zq (some (11, 0))), some (zi root), some (zi ki), l3, l4, some (zi z), some (zi j)] [] (I, R, al) Q := by
  intro l3 l4
  have e1 : zw (ki + 1) = ki + 1 := zw_i (by omega) (by omega)
  have hk8 : k + 1 < 8 := by omega
  have hki1 : ki + 1 = ((k + 1 : Nat) : Int) := by omega
  have main : ∀ v : Int, v = 0 ∨ v = 1 → (v = 0 ↔ k ≤ 3) → zCp (d + 5) 92 [zq (some (11, 0)), zi z, zi j] (zsI I 11 0 4 v, R, al) (fun r S2 => Zgo (d + 5) 91 158 [some (zq (some (11, 0))), some (zi root), some (zi (ki + 1)), l3, l4, some (zi z), some (zi j)] (r.toList ++ [zi (ki + 1), zq (some (52, 0))]) S2 Q) := fun v hv hv0 => by
    obtain ⟨a1, a2, a3, a4, a5⟩ := hx.bad (v := v)
    refine mn_block hK hT a1 a4 (by omega) hb a3 (by rw [zsI_s]; exact hv) (by omega) (by omega) dep il tk (fun I' f1 g1 g2 g3 g4 g5 => ?_)
    rw [zsI_s] at g5
    simp only [zh_91_0, zh_91_1, zh_91_2, zh_91_3, zh_91_6, zh_91_7, zh_91_8, zh_91_9, zh_91_10, zh_91_13, zh_91_14, zh_91_15, zh_91_17, zh_91_20, zh_91_21, zh_91_24, zh_91_27, zh_91_28, zh_91_31, zh_91_32, zh_91_33, zh_91_34, zh_91_35, zh_91_38, zh_91_40, zh_91_41, zh_91_44, zh_91_45, zh_91_46, zh_91_48, zh_91_49, zh_91_51, zh_91_52, zh_91_52q, zh_91_53, zh_91_56, zh_91_57, zh_91_58, zh_91_61, zh_91_63, zh_91_65, zh_91_68, zh_91_71, zh_91_73, zh_91_76, zh_91_77, zh_91_80, zh_91_81, zh_91_83, zh_91_84, zh_91_87, zh_91_88, zh_91_89, zh_91_92, zh_91_94, zh_91_97, zh_91_98, zh_91_99, zh_91_101, zh_91_104, zh_91_106, zh_91_107, zh_91_109, zh_91_111, zh_91_114, zh_91_116, zh_91_118, zh_91_121, zh_91_122, zh_91_125, zh_91_128, zh_91_131, zh_91_132, zh_91_133, zh_91_134, zh_91_137, zh_91_138, zh_91_141, zh_91_142, zh_91_145, zh_91_146, zh_91_149, zh_91_150, zh_91_151, zh_91_153, zh_91_155, zh_91_158, zh_91_159, zh_91_162, zh_91_163, zwl_m1, zwl_0, zwl_1, zwl_2, zwl_3, zwl_4, zwl_5, zwl_6, zwl_7, zwl_8, zwl_10, zwl_15, zwl_24, zwl_32, zwl_33, zwl_40, zwl_41, zwl_42, zwl_43, zwl_45, zwl_47, zwl_48, zwl_52, zwl_56, zwl_57, zwl_59, zwl_60, zwl_61, zwl_63, zwl_64, zwl_66, zwl_67, zwl_68, zwl_70, zwl_75, zwl_77, zwl_80, zwl_82, zwl_84, zwl_88, zwl_89, zwl_97, zwl_104, zwl_110, zwl_112, zwl_114, zwl_118, zwl_123, zwl_125, zwl_126, zwl_159, zwl_160, zwl_200, zwl_255, zwl_480, zwl_960, zwl_3000, zs_kli, zs_klq, zs_kln, zs_wn, zs_wi, zs_wl, zs_wq, ↓zs_ok10, ↓zs_ok11, Option.toList_some, Option.toList_none, List.cons_append, List.nil_append, ↓reduceIte, Nat.reduceAdd, Nat.reduceLeDiff, true_and, and_true, Int.reduceEq, Int.reduceLT, Int.reduceLE, Int.reduceAdd, Int.reduceSub, Int.reduceMul, Int.reduceNeg, Nat.reduceEqDiff, Nat.reduceLT, Nat.reduceBEq, zsI_c, zsI_k, zsI_s, zsR_c, zsR_k, zsR_s, kon_11_0_1 hK, kon_11_0_7 hK, kon_11_0_8 hK, kon_11_0_9 hK, kon_11_0_11 hK, kon_11_0_12 hK, kon_11_0_13 hK, kon_11_0_14 hK, kon_11_0_15 hK, kon_11_0_16 hK, kon_11_0_17 hK, kon_11_0_18 hK, kon_11_0_19 hK, kon_11_0_20 hK, kon_11_0_21 hK, kon_11_0_23 hK, kon_11_0_24 hK, kon_11_0_25 hK, kon_11_0_26 hK, kon_11_0_27 hK, kon_11_0_29 hK, kon_11_0_30 hK, kon_11_0_31 hK, kon_11_0_32 hK, kon_11_0_33 hK, kon_11_0_34 hK, kon_11_0_42 hK, kon_11_0_43 hK, kon_11_0_44 hK, kon_11_0_45 hK, kon_11_0_46 hK, kon_11_0_47 hK, kon_11_0_48 hK, kon_11_0_49 hK, kon_11_0_54 hK, ↓zb52 hki1 hk8]
    refine h _ (fun c i j h1 h2 => by rw [zsI_n (by omega), f1 c i j (by omega) (by omega) (by omega) (by omega) (by omega) (by omega) (by omega), zsI_n (by omega)]) (PM.opn ⟨a1.congr (f1 _ _ _ (by omega) (by omega) (by omega) (by omega) (by omega) (by omega) (by omega)) (fun j => f1 _ _ _ (by omega) (by omega) (by omega) (by omega) (by omega) (by omega) (by omega)) g3 (f1 _ _ _ (by omega) (by omega) (by omega) (by omega) (by omega) (by omega) (by omega)) (fun c j hc => f1 _ _ _ (by omega) (by omega) (by omega) (by omega) (by omega) (by omega) (by omega)) (fun c j hc => pNB_o (by omega) (by omega)), ?_, g2, g1, fun y hy => ?_⟩) ?_ (zsI_s ..) _ _ _ _
    · rw [f1 _ _ _ (by omega) (by omega) (by omega) (by omega) (by omega) (by omega) (by omega)]; exact a2
    · by_cases q : y = b
      · rw [q]; exact g4
      · rw [f1 _ _ _ (by omega) (by omega) (by omega) (by omega) (by omega) (by omega) (by omega)]; exact a5 y (by omega)
    · rw [zsI_ne (by omega), g5]
      by_cases q : k ≤ 3 ∧ ch T n p = 123
      · rw [if_pos q, if_pos ⟨hv0.2 q.1, q.2⟩]
      · rw [if_neg q, if_neg (fun w => q ⟨hv0.1 w.1, w.2⟩)]
  by_cases q : 4 < ki + 1
  · simp only [zh_91_0, zh_91_1, zh_91_2, zh_91_3, zh_91_6, zh_91_7, zh_91_8, zh_91_9, zh_91_10, zh_91_13, zh_91_14, zh_91_15, zh_91_17, zh_91_20, zh_91_21, zh_91_24, zh_91_27, zh_91_28, zh_91_31, zh_91_32, zh_91_33, zh_91_34, zh_91_35, zh_91_38, zh_91_40, zh_91_41, zh_91_44, zh_91_45, zh_91_46, zh_91_48, zh_91_49, zh_91_51, zh_91_52, zh_91_52q, zh_91_53, zh_91_56, zh_91_57, zh_91_58, zh_91_61, zh_91_63, zh_91_65, zh_91_68, zh_91_71, zh_91_73, zh_91_76, zh_91_77, zh_91_80, zh_91_81, zh_91_83, zh_91_84, zh_91_87, zh_91_88, zh_91_89, zh_91_92, zh_91_94, zh_91_97, zh_91_98, zh_91_99, zh_91_101, zh_91_104, zh_91_106, zh_91_107, zh_91_109, zh_91_111, zh_91_114, zh_91_116, zh_91_118, zh_91_121, zh_91_122, zh_91_125, zh_91_128, zh_91_131, zh_91_132, zh_91_133, zh_91_134, zh_91_137, zh_91_138, zh_91_141, zh_91_142, zh_91_145, zh_91_146, zh_91_149, zh_91_150, zh_91_151, zh_91_153, zh_91_155, zh_91_159, zh_91_162, zh_91_163, zwl_m1, zwl_0, zwl_1, zwl_2, zwl_3, zwl_4, zwl_5, zwl_6, zwl_7, zwl_8, zwl_10, zwl_15, zwl_24, zwl_32, zwl_33, zwl_40, zwl_41, zwl_42, zwl_43, zwl_45, zwl_47, zwl_48, zwl_52, zwl_56, zwl_57, zwl_59, zwl_60, zwl_61, zwl_63, zwl_64, zwl_66, zwl_67, zwl_68, zwl_70, zwl_75, zwl_77, zwl_80, zwl_82, zwl_84, zwl_88, zwl_89, zwl_97, zwl_104, zwl_110, zwl_112, zwl_114, zwl_118, zwl_123, zwl_125, zwl_126, zwl_159, zwl_160, zwl_200, zwl_255, zwl_480, zwl_960, zwl_3000, zs_kli, zs_klq, zs_kln, zs_wn, zs_wi, zs_wl, zs_wq, ↓zs_ok10, ↓zs_ok11, Option.toList_some, Option.toList_none, List.cons_append, List.nil_append, ↓reduceIte, Nat.reduceAdd, Nat.reduceLeDiff, true_and, and_true, Int.reduceEq, Int.reduceLT, Int.reduceLE, Int.reduceAdd, Int.reduceSub, Int.reduceMul, Int.reduceNeg, Nat.reduceEqDiff, Nat.reduceLT, Nat.reduceBEq, zsI_c, zsI_k, zsI_s, zsR_c, zsR_k, zsR_s, kon_11_0_1 hK, kon_11_0_7 hK, kon_11_0_8 hK, kon_11_0_9 hK, kon_11_0_11 hK, kon_11_0_12 hK, kon_11_0_13 hK, kon_11_0_14 hK, kon_11_0_15 hK, kon_11_0_16 hK, kon_11_0_17 hK, kon_11_0_18 hK, kon_11_0_19 hK, kon_11_0_20 hK, kon_11_0_21 hK, kon_11_0_23 hK, kon_11_0_24 hK, kon_11_0_25 hK, kon_11_0_26 hK, kon_11_0_27 hK, kon_11_0_29 hK, kon_11_0_30 hK, kon_11_0_31 hK, kon_11_0_32 hK, kon_11_0_33 hK, kon_11_0_34 hK, kon_11_0_42 hK, kon_11_0_43 hK, kon_11_0_44 hK, kon_11_0_45 hK, kon_11_0_46 hK, kon_11_0_47 hK, kon_11_0_48 hK, kon_11_0_49 hK, kon_11_0_54 hK, e1, q]
    exact main 1 (by omega) (by omega)
  · simp only [zh_91_0, zh_91_1, zh_91_2, zh_91_3, zh_91_6, zh_91_7, zh_91_8, zh_91_9, zh_91_10, zh_91_13, zh_91_14, zh_91_15, zh_91_17, zh_91_20, zh_91_21, zh_91_24, zh_91_27, zh_91_28, zh_91_31, zh_91_32, zh_91_33, zh_91_34, zh_91_35, zh_91_38, zh_91_40, zh_91_41, zh_91_44, zh_91_45, zh_91_46, zh_91_48, zh_91_49, zh_91_51, zh_91_52, zh_91_52q, zh_91_53, zh_91_56, zh_91_57, zh_91_58, zh_91_61, zh_91_63, zh_91_65, zh_91_68, zh_91_71, zh_91_73, zh_91_76, zh_91_77, zh_91_80, zh_91_81, zh_91_83, zh_91_84, zh_91_87, zh_91_88, zh_91_89, zh_91_92, zh_91_94, zh_91_97, zh_91_98, zh_91_99, zh_91_101, zh_91_104, zh_91_106, zh_91_107, zh_91_109, zh_91_111, zh_91_114, zh_91_116, zh_91_118, zh_91_121, zh_91_122, zh_91_125, zh_91_128, zh_91_131, zh_91_132, zh_91_133, zh_91_134, zh_91_137, zh_91_138, zh_91_141, zh_91_142, zh_91_145, zh_91_146, zh_91_149, zh_91_150, zh_91_151, zh_91_153, zh_91_155, zh_91_159, zh_91_162, zh_91_163, zwl_m1, zwl_0, zwl_1, zwl_2, zwl_3, zwl_4, zwl_5, zwl_6, zwl_7, zwl_8, zwl_10, zwl_15, zwl_24, zwl_32, zwl_33, zwl_40, zwl_41, zwl_42, zwl_43, zwl_45, zwl_47, zwl_48, zwl_52, zwl_56, zwl_57, zwl_59, zwl_60, zwl_61, zwl_63, zwl_64, zwl_66, zwl_67, zwl_68, zwl_70, zwl_75, zwl_77, zwl_80, zwl_82, zwl_84, zwl_88, zwl_89, zwl_97, zwl_104, zwl_110, zwl_112, zwl_114, zwl_118, zwl_123, zwl_125, zwl_126, zwl_159, zwl_160, zwl_200, zwl_255, zwl_480, zwl_960, zwl_3000, zs_kli, zs_klq, zs_kln, zs_wn, zs_wi, zs_wl, zs_wq, ↓zs_ok10, ↓zs_ok11, Option.toList_some, Option.toList_none, List.cons_append, List.nil_append, ↓reduceIte, Nat.reduceAdd, Nat.reduceLeDiff, true_and, and_true, Int.reduceEq, Int.reduceLT, Int.reduceLE, Int.reduceAdd, Int.reduceSub, Int.reduceMul, Int.reduceNeg, Nat.reduceEqDiff, Nat.reduceLT, Nat.reduceBEq, zsI_c, zsI_k, zsI_s, zsR_c, zsR_k, zsR_s, kon_11_0_1 hK, kon_11_0_7 hK, kon_11_0_8 hK, kon_11_0_9 hK, kon_11_0_11 hK, kon_11_0_12 hK, kon_11_0_13 hK, kon_11_0_14 hK, kon_11_0_15 hK, kon_11_0_16 hK, kon_11_0_17 hK, kon_11_0_18 hK, kon_11_0_19 hK, kon_11_0_20 hK, kon_11_0_21 hK, kon_11_0_23 hK, kon_11_0_24 hK, kon_11_0_25 hK, kon_11_0_26 hK, kon_11_0_27 hK, kon_11_0_29 hK, kon_11_0_30 hK, kon_11_0_31 hK, kon_11_0_32 hK, kon_11_0_33 hK, kon_11_0_34 hK, kon_11_0_42 hK, kon_11_0_43 hK, kon_11_0_44 hK, kon_11_0_45 hK, kon_11_0_46 hK, kon_11_0_47 hK, kon_11_0_48 hK, kon_11_0_49 hK, kon_11_0_54 hK, e1, q]
    exact main 0 (by omega) (by omega)
theorem PC.congr {I' : zMI} {R' : zMR} {P' : Nat → Nat → Int} {c' : Nat} (h : PC I R T n p e s b c P) (hI : ∀ t i k, (t = 1 ∨ t = 3 ∨ t = 20 ∨ t = 25 ∨ t = 26 ∨ (t = 6 ∧ k = 2) ∨ (t = 7 ∧ (k = 5 ∨ k = 9)) ∨ (t = 8 ∧ k = 2)) → I' t i k = I t i k) (hc : I' 7 0 10 = (c' : Int)) (h40 : ∀ z, z < s → I' 4 z 0 = P' 34 z) (hR : ∀ t i k, ¬ ((t = 4 ∧ 7 ≤ k) ∨ t = 2 ∨ t = 5) → R' t i k = R t i k) (hP : ∀ t j, (t = 42 ∨ t = 43 ∨ t = 103 ∨ t = 45 ∨ t = 46 ∨ t = 100 ∨ t = 101 ∨ t = 102 ∨ t = 50 ∨ t = 51) → P' t j = P t j) : PC I' R' T n p e s b c' P' := by
  obtain ⟨h1, h2, h3, h4, -, h6, h7⟩ := h
  refine ⟨h1.fr2 (hI _ _ _ (by omega)) (fun j => hI _ _ _ (by omega)) (hI _ _ _ (by omega)) (hI _ _ _ (by omega)) (fun j => hI _ _ _ (by omega)) (fun j => hI _ _ _ (by omega)) (fun j _ => ⟨hP _ _ (by omega), hP _ _ (by omega)⟩), fun t i k ht => (hR t i k (by omega)).trans (h2 t i k ht), (hI _ _ _ (by omega)).trans h3, (hI _ _ _ (by omega)).trans h4, hc, fun z hz => ?_, fun y hy => ?_⟩
  · obtain ⟨a1, a2, a3, a4⟩ := h6 z hz
    unfold CSt
    rw [hP 42 z (by omega), hP 43 z (by omega), hP 103 z (by omega), hR 4 z 4 (by omega), hR 4 z 6 (by omega), hR 4 z 5 (by omega)]
    exact ⟨h40 z hz, a2, a3, a4⟩
  · obtain ⟨a1, a2, a3, a4, a5⟩ := h7 y hy
    unfold CBl
    rw [hP 45 y (by omega), hP 46 y (by omega), hP 100 y (by omega), hP 101 y (by omega), hP 102 y (by omega), hR 3 y 3 (by omega), hR 3 y 4 (by omega), hI 3 y 0 (by omega), hI 3 y 1 (by omega), hI 3 y 2 (by omega)]
    exact ⟨a1, a2, a3, a4, a5⟩
theorem PC.at {q : Nat} {v : Int} (h : PC I R T n p e s b c P) (hv : v = (q : Int)) : PC (zsI I 8 0 2 v) R T n q e s b c P := by
  obtain ⟨h1, h2, h3, h4, h5, h6, h7⟩ := h
  refine ⟨h1.at hv, h2, by rw [zsI_ne (by omega)]; exact h3, by rw [zsI_ne (by omega)]; exact h4, by rw [zsI_ne (by omega)]; exact h5, fun z hz => ?_, fun y hy => ?_⟩
  · obtain ⟨a1, a2, a3, a4⟩ := h6 z hz
    exact ⟨by rw [zsI_ne (by omega)]; exact a1, a2, a3, a4⟩
  · obtain ⟨a1, a2, a3, a4, a5⟩ := h7 y hy
    exact ⟨a1, a2, by rw [zsI_ne (by omega)]; exact a3, by rw [zsI_ne (by omega)]; exact a4, by rw [zsI_ne (by omega)]; exact a5⟩
/-- the class's rows with a new block -/
theorem PC_newb {o sl dep il tk : Int} (h : PC I R T n p e s b c P) : ∃ I1 R1, FS I I1 s c ∧ FR R R1 s c ∧ PC I1 R1 T n p e s (b + 1) c (pNB P b o sl dep il tk) ∧
    ∀ (d : Nat) (al : zA) (K : Option zV → zS → Prop), b < 80 → (il = 0 ∨ il = 1) → K (some (zq (some (3, b)))) (I1, R1, al) → zCp (d + 1) 27 [zq (some (7, 0)), zi dep, zi il, zi tk] (I, R, al) K := by
  obtain ⟨h1, hK, h5, h9, h10, hS, hBl⟩ := h
  obtain ⟨n45, n46, n47, n48, n100, n101, n102, n38⟩ := pNB_s (P := P) (b := b) (o := o) (sl := sl) (dep := dep) (il := il) (tk := tk)
  have hI : ∀ t i k, ¬ (t = 7 ∧ k = 9) → ¬ (t = 3 ∧ i = b) → (zsI (zsI (zsI (zsI I 7 0 9 ((b + 1 : Nat) : Int)) 3 b 0 dep) 3 b 1 il) 3 b 2 tk) t i k = I t i k := fun t i k h1 h2 => by rw [zsI_n (by omega), zsI_n (by omega), zsI_n (by omega), zsI_n (by omega)]
  have hR : ∀ t i k, ¬ (t = 3 ∧ i = b) → (zsR (zsR R 3 b 3 none) 3 b 4 none) t i k = R t i k := fun t i k h1 => by rw [zsR_n (by omega), zsR_n (by omega)]
  refine ⟨zsI (zsI (zsI (zsI I 7 0 9 ((b + 1 : Nat) : Int)) 3 b 0 dep) 3 b 1 il) 3 b 2 tk, zsR (zsR R 3 b 3 none) 3 b 4 none, fun t i k h1 h2 h3 h4 h5 h6 h7 h8 => hI t i k (by omega) (by omega), fun t i k h1 h2 h3 => hR t i k (by omega), ⟨h1.fr2 (hI _ _ _ (by omega) (by omega)) (fun j => hI _ _ _ (by omega) (by omega)) (hI _ _ _ (by omega) (by omega)) (hI _ _ _ (by omega) (by omega)) (fun j => hI _ _ _ (by omega) (by omega)) (fun j => hI _ _ _ (by omega) (by omega)) (fun j _ => ⟨pNB_o (by omega) (by omega), pNB_o (by omega) (by omega)⟩), fun t i k ht => (hR t i k (by omega)).trans (hK t i k ht), ?_, ?_, ?_, fun z hz => ?_, fun y hy => ?_⟩, fun d al K hb hil h => ca_block hK hb h9 hil h⟩
  · rw [hI _ _ _ (by omega) (by omega)]; exact h5
  · rw [zsI_ne (by omega), zsI_ne (by omega), zsI_ne (by omega), zsI_s]
  · rw [hI _ _ _ (by omega) (by omega)]; exact h10
  · obtain ⟨a1, a2, a3, a4⟩ := hS z hz
    unfold CSt
    rw [pNB_o (by omega) (by omega), pNB_o (by omega) (by omega), pNB_o (by omega) (by omega), pNB_o (by omega) (by omega), hI _ _ _ (by omega) (by omega), hR _ _ _ (by omega), hR _ _ _ (by omega), hR _ _ _ (by omega)]
    exact ⟨a1, a2, a3, a4⟩
  · by_cases q : y = b
    · subst q
      unfold CBl
      rw [n45, n46, n100, n101, n102]
      refine ⟨?_, ?_, ?_, ?_, zsI_s ..⟩
      · rw [zsR_n (by omega), zsR_s]; exact (rf_n (by decide)).symm
      · rw [zsR_s]; exact (rf_n (by decide)).symm
      · rw [zsI_n (by omega), zsI_n (by omega), zsI_s]
      · rw [zsI_n (by omega), zsI_s]
    · obtain ⟨a1, a2, a3, a4, a5⟩ := hBl y (by omega)
      unfold CBl
      rw [pNB_o (by omega) (by omega), pNB_o (by omega) (by omega), pNB_o (by omega) (by omega), pNB_o (by omega) (by omega), pNB_o (by omega) (by omega), hI _ _ _ (by omega) (by omega), hI _ _ _ (by omega) (by omega), hI _ _ _ (by omega) (by omega), hR _ _ _ (by omega), hR _ _ _ (by omega)]
      exact ⟨a1, a2, a3, a4, a5⟩
/-- a statement's expression -/
theorem xs_ex (hT : TX T n) (hp : p ≤ n) (he : e ≤ p) (s : Nat) (P : Nat → Nat → Int) : ∃ o : EO,
    (∀ p' e' P', o = some (p', e', P') → p < p' ∧ p' ≤ n ∧ e < e' ∧ e' + p ≤ e + p' ∧ P' 36 s = (e : Int) ∧ P' 37 s = (e' : Int) ∧ XOk P' s ∧ (∀ c k, ¬ ((c = 50 ∨ c = 51) ∧ e ≤ k) → ¬ ((c = 36 ∨ c = 37) ∧ k = s) → P' c k = P c k)) ∧
    (∀ (R : zMR) (al : zA) (d : Nat) (I : zMI) (K : Option zV → zS → Prop) (S b c : Nat), Dx 0 ≤ d → PC I R T n p e S b c P → (o = none → ∀ I', FS I I' s c → K (some (zi 0)) (I', R, al)) → (∀ p' e' P', o = some (p', e', P') → ∀ I', FS I I' s c → (∀ k, k ≠ 2 → k ≠ 3 → I' 4 s k = I 4 s k) → PC I' R T n p' e' S b c P' → I' 4 s 2 = (e : Int) → I' 4 s 3 = (e' : Int) → K (some (zi 1)) (I', R, al)) → zCp (d + 1) 31 [zq (some (8, 0)), zq (some (4, s))] (I, R, al) K) ∧
    (∀ (R : zMR) (al : zA), Kon R → ∀ (d : Nat) (I : zMI) (K : Option zV → zS → Prop) (S b k : Nat) (si : Int), si = (s : Int) → s < 160 → PM I T n p e S b P → I 11 0 4 = 0 → (o = none → ∀ I', FM I I' k → I' 11 0 4 = 1 → BA I' → K none (I', R, al)) → (∀ p' e' P', o = some (p', e', P') → ∀ I', FM I I' k → I' 11 0 4 = 0 → PM I' T n p' e' S b P' → K none (I', R, al)) → zCp (d + 4) 98 [zq (some (11, 0)), zi si] (I, R, al) K) := by
  obtain ⟨o, ok, hc, hm⟩ := (ex_all hT (n + 1) p hp (by omega)).2.2 0 (by omega) e P he
  refine ⟨o.map (fun q => (q.1, q.2.1, pU (pU q.2.2 36 s (e : Int)) 37 s (q.2.1 : Int))), fun p' e' P' h => ?_, fun R al d I K S b c hd hx h0 h1 => ?_, fun R al hK d I K S b k si hsi hs hx h4 h0 h1 => ?_⟩
  · cases o with
    | none => cases h
    | some q =>
      obtain ⟨p1, e1, P1⟩ := q
      cases h
      dsimp only
      have hn1 := hT.1
      obtain ⟨k1, k2, k3, k4, k5, k6, k7⟩ := ok p1 e1 P1 rfl
      refine ⟨k1, k2, k3, k4, by rw [pU_n (by omega), pU_s], pU_s, ?_, fun c k h1 h2 => by rw [pU_n (by omega), pU_n (by omega)]; exact k5 c k (by omega)⟩
      unfold XOk
      rw [pU_s, pU_n (by omega), pU_s]
      have := HG_hok _ _ _ (k6 0 (by omega))
      have e1' : ((e1 : Int) - (e : Int)).toNat = e1 - e := by omega
      refine ⟨by omega, by omega, by omega, ?_⟩
      rw [Int.toNat_natCast]
      first
      | rw [e1']
        exact Hok_congr _ _ _ (fun j _ _ => ⟨by rw [pU_n (by omega), pU_n (by omega)], by rw [pU_n (by omega), pU_n (by omega)]⟩) this
      | exact Hok_congr _ _ _ (fun j _ _ => ⟨by rw [pU_n (by omega), pU_n (by omega)], by rw [pU_n (by omega), pU_n (by omega)]⟩) this
  · refine ca_expr (o := o) hx.2.1 hx.1 hd (hc R al hx.2.1) (fun q I' f => h0 (by rw [q]; rfl) I' (fun t i k h1 h2 h3 h4 h5 h6 h7 h8 => f t i k h4 h5 h6 h7 (by omega))) (fun p' e' P' q I' f g1 g2 y => h1 p' e' _ (by rw [q]; rfl) I' (fun t i k h1 h2 h3 h4 h5 h6 h7 h8 => f t i k h4 h5 h6 h7 (by omega)) (fun k h1 h2 => f _ _ _ (by decide) (by decide) (by omega) (by omega) (by omega)) ?_ g1 g2)
    obtain ⟨k1, k2, k3, k4, k5, k6, k7⟩ := ok p' e' P' q
    have eo : ∀ t j, t ≠ 36 → t ≠ 37 → ¬ ((t = 50 ∨ t = 51) ∧ e ≤ j ∧ j < e') → pU (pU P' 36 s (e : Int)) 37 s (e' : Int) t j = P t j := fun t j h1 h2 h3 => by rw [pU_n (by omega), pU_n (by omega)]; exact k5 t j h3
    obtain ⟨b1, b2, b3, b4, b5, b6, b7⟩ := hx
    refine ⟨y.fr2 rfl (fun _ => rfl) rfl rfl (fun _ => rfl) (fun _ => rfl) (fun j _ => ⟨by rw [pU_n (by omega), pU_n (by omega)], by rw [pU_n (by omega), pU_n (by omega)]⟩), b2, by rw [f _ _ _ (by decide) (by decide) (by omega) (by omega) (by omega)]; exact b3, by rw [f _ _ _ (by decide) (by decide) (by omega) (by omega) (by omega)]; exact b4, by rw [f _ _ _ (by decide) (by decide) (by omega) (by omega) (by omega)]; exact b5, fun z hz => ?_, fun y hy => ?_⟩
    · obtain ⟨a1, a2, a3, a4⟩ := b6 z hz
      unfold CSt
      rw [eo _ _ (by decide) (by decide) (by omega), eo _ _ (by decide) (by decide) (by omega), eo _ _ (by decide) (by decide) (by omega), eo _ _ (by decide) (by decide) (by omega), f _ _ _ (by decide) (by decide) (by omega) (by omega) (by omega)]
      exact ⟨a1, a2, a3, a4⟩
    · obtain ⟨a1, a2, a3, a4, a5⟩ := b7 y hy
      unfold CBl
      rw [eo _ _ (by decide) (by decide) (by omega), eo _ _ (by decide) (by decide) (by omega), eo _ _ (by decide) (by decide) (by omega), eo _ _ (by decide) (by decide) (by omega), eo _ _ (by decide) (by decide) (by omega), f _ _ _ (by decide) (by decide) (by omega) (by omega) (by omega), f _ _ _ (by decide) (by decide) (by omega) (by omega) (by omega), f _ _ _ (by decide) (by decide) (by omega) (by omega) (by omega)]
      exact ⟨a1, a2, a3, a4, a5⟩
  · refine mn_expr (o := o) hK hT hx.1 h4 hsi hs (fun p' e' P' q => ⟨(ok p' e' P' q).2.1, (ok p' e' P' q).2.2.2.2.2.2⟩) (hm R al hK) (fun q I' f g ba => h0 (by rw [q]; rfl) I' (FM.ofN f) g ba) (fun p' e' P' q I' f g y g1 g2 => h1 p' e' _ (by rw [q]; rfl) I' (FM.ofN f) g ?_)
    obtain ⟨k1, k2, k3, k4, k5, k6, k7⟩ := ok p' e' P' q
    obtain ⟨a1, a2, a3, a4, a5⟩ := hx
    refine ⟨y.congr rfl (fun _ => rfl) y.2.2.1 rfl (fun _ _ _ => rfl) (fun c j hc => by rw [pU_n (by omega), pU_n (by omega)]), by rw [f _ _ _ (by decide) (by decide) (by decide) (by omega) (by omega)]; exact a2, by rw [f _ _ _ (by decide) (by decide) (by decide) (by omega) (by omega)]; exact a3, fun c j hc1 hc2 => ?_, fun y hy => by rw [f _ _ _ (by decide) (by decide) (by decide) (by omega) (by omega)]; exact a5 y hy⟩
    by_cases q7 : c = 37 ∧ j = s
    · obtain ⟨rfl, rfl⟩ := q7
      rw [pU_s]; exact g2
    · rw [pU_n q7]
      by_cases q6 : c = 36 ∧ j = s
      · obtain ⟨rfl, rfl⟩ := q6
        rw [pU_s]; exact g1
      · rw [pU_n q6, f c 0 j (by omega) (by omega) (by omega) (by omega) (by omega)]
        exact (a4 c j hc1 hc2).trans (k5 c j (by omega)).symm
end
