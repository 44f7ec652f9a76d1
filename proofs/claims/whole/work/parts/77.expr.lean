/-! class and reference read an expression alike: all of it -/
section
variable {T : Nat → Int} {n p b : Nat}
theorem isO_r {c : Int} (h : isO c) : 42 ≤ c ∧ c ≤ 60 := by unfold isO at h; omega
theorem zops_o {c : Int} (h : isO c) : ¬ zops c < 0 ∧ zw (zops c) = zops c := by
  rcases h with rfl | rfl | rfl | rfl | rfl <;> exact ⟨by decide +kernel, by decide +kernel⟩
theorem zops_n {c : Int} (h : ¬ isO c) : zops c = -1 := by
  unfold isO at h
  unfold zops
  rw [if_neg (by omega), if_neg (by omega), if_neg (by omega), if_neg (by omega), if_neg (by omega)]
theorem HG_one {P : Nat → Nat → Int} {e h : Nat} {o : Int} (ho : isO o) (hh : 2 ≤ h) : HG (pE P e o 0) 1 e h (h - 1) := by
  right
  right
  rw [pE_50]
  exact ⟨ho, hh, rfl⟩
theorem tl_step (hT : TX T n) (hb : b ≤ 3) (hp : p ≤ n) (hm : p < n → TmS T n (p + 1) b) (hl : ∀ p', p < p' → p' ≤ n → TlS T n p' b) : TlS T n p b := by
  intro e P he
  have hn1 := hT.1
  have hr := ch_r (p := p) hT
  by_cases ho : isO (ch T n p)
  · have hor := isO_r ho
    have hlt : p < n := by omega
    obtain ⟨zo1, zo2⟩ := zops_o ho
    have ew : zw (ch T n p) = ch T n p := zw_i (by omega) (by omega)
    have hckd : ch T n p = ckd (ch T n p) := by
      unfold ckd
      unfold isO at ho
      rw [if_neg (by omega), if_neg (by omega)]
    obtain ⟨o1, ok1, c1, m1⟩ := hm hlt e P (by omega)
    have hhead : ∀ (R : zMR) (al : zA), Kon R → ∀ (d : Nat) (I : zMI) (K : Option zV → zS → Prop) (bi nn : Int) (l3 : Option zV), Dx b ≤ d + 1 → 0 ≤ nn → nn ≤ (p : Int) → CX I T n p e P → (∀ K' : Option zV → zS → Prop, (∀ I', K (some (zi 0)) (I', R, al) → K' (some (zi 0)) (I', R, al)) → (∀ I', Zgo d 32 59 [some (zq (some (8, 0))), some (zi bi), some (zi nn), some (zi (ch T n p))] [] (I', R, al) K → K' (some (zi 1)) (I', R, al)) → zCp d 33 [zq (some (8, 0)), zi bi] (zsI I 8 0 2 ((p + 1 : Nat) : Int), R, al) K') → Zgo d 32 17 [some (zq (some (8, 0))), some (zi bi), some (zi nn), l3] [] (I, R, al) K := fun R al hK d I K bi nn l3 hd hn0 hnp hx h => by
      obtain ⟨x, rfl⟩ : ∃ x, d = x + 12 := ⟨d - 12, by unfold Dx at hd; omega⟩
      have e1 : zw nn = nn := zw_i (by omega) (by omega)
      have e2 : nn < 160 := by omega
      have x3 := hx.1.2.2
      have e0 : (p : Int) + 1 = ((p + 1 : Nat) : Int) := by omega
      rw [zh_32_17]
      simp only [zh_32_0, zh_32_1, zh_32_2, zh_32_5, zh_32_6, zh_32_7, zh_32_10, zh_32_13, zh_32_14, zh_32_15, zh_32_16, zh_32_18, zh_32_21, zh_32_24, zh_32_26, zh_32_27, zh_32_30, zh_32_33, zh_32_36, zh_32_37, zh_32_40, zh_32_41, zh_32_42, zh_32_42q, zh_32_43, zh_32_46, zh_32_47, zh_32_48, zh_32_51, zh_32_52, zh_32_53, zh_32_56, zh_32_60, zh_32_63, zh_32_66, zh_32_67, zh_32_68, zh_32_71, zh_32_74, zh_32_75, zh_32_76, zh_32_79, zh_32_82, zh_32_83, zwl_m1, zwl_0, zwl_1, zwl_2, zwl_3, zwl_4, zwl_5, zwl_6, zwl_7, zwl_8, zwl_10, zwl_15, zwl_24, zwl_32, zwl_33, zwl_40, zwl_41, zwl_42, zwl_43, zwl_45, zwl_47, zwl_48, zwl_52, zwl_56, zwl_57, zwl_59, zwl_60, zwl_61, zwl_63, zwl_64, zwl_66, zwl_67, zwl_68, zwl_70, zwl_75, zwl_77, zwl_80, zwl_82, zwl_84, zwl_88, zwl_89, zwl_97, zwl_104, zwl_110, zwl_112, zwl_114, zwl_118, zwl_123, zwl_125, zwl_126, zwl_159, zwl_160, zwl_200, zwl_255, zwl_480, zwl_960, zwl_3000, zs_kli, zs_klq, zs_kln, zs_wn, zs_wi, zs_wl, zs_wq, ↓zs_ok10, ↓zs_ok11, Option.toList_some, Option.toList_none, List.cons_append, List.nil_append, ↓reduceIte, Nat.reduceAdd, Nat.reduceLeDiff, true_and, and_true, Int.reduceEq, Int.reduceLT, Int.reduceLE, Int.reduceAdd, Int.reduceSub, Int.reduceMul, Int.reduceNeg, Nat.reduceEqDiff, Nat.reduceLT, Nat.reduceBEq, zsI_c, zsI_k, zsI_s, zsR_c, zsR_k, zsR_s, e1, e2]
      refine ct_here hK hT hx.1 (by omega) ?_
      simp only [zh_32_0, zh_32_1, zh_32_2, zh_32_5, zh_32_6, zh_32_7, zh_32_10, zh_32_13, zh_32_14, zh_32_15, zh_32_16, zh_32_18, zh_32_21, zh_32_24, zh_32_26, zh_32_27, zh_32_30, zh_32_33, zh_32_36, zh_32_37, zh_32_40, zh_32_41, zh_32_42, zh_32_42q, zh_32_43, zh_32_46, zh_32_47, zh_32_48, zh_32_51, zh_32_52, zh_32_53, zh_32_56, zh_32_60, zh_32_63, zh_32_66, zh_32_67, zh_32_68, zh_32_71, zh_32_74, zh_32_75, zh_32_76, zh_32_79, zh_32_82, zh_32_83, zwl_m1, zwl_0, zwl_1, zwl_2, zwl_3, zwl_4, zwl_5, zwl_6, zwl_7, zwl_8, zwl_10, zwl_15, zwl_24, zwl_32, zwl_33, zwl_40, zwl_41, zwl_42, zwl_43, zwl_45, zwl_47, zwl_48, zwl_52, zwl_56, zwl_57, zwl_59, zwl_60, zwl_61, zwl_63, zwl_64, zwl_66, zwl_67, zwl_68, zwl_70, zwl_75, zwl_77, zwl_80, zwl_82, zwl_84, zwl_88, zwl_89, zwl_97, zwl_104, zwl_110, zwl_112, zwl_114, zwl_118, zwl_123, zwl_125, zwl_126, zwl_159, zwl_160, zwl_200, zwl_255, zwl_480, zwl_960, zwl_3000, zs_kli, zs_klq, zs_kln, zs_wn, zs_wi, zs_wl, zs_wq, ↓zs_ok10, ↓zs_ok11, Option.toList_some, Option.toList_none, List.cons_append, List.nil_append, ↓reduceIte, Nat.reduceAdd, Nat.reduceLeDiff, true_and, and_true, Int.reduceEq, Int.reduceLT, Int.reduceLE, Int.reduceAdd, Int.reduceSub, Int.reduceMul, Int.reduceNeg, Nat.reduceEqDiff, Nat.reduceLT, Nat.reduceBEq, zsI_c, zsI_k, zsI_s, zsR_c, zsR_k, zsR_s, zcp_900, ew, zo1, zo2]
      refine ct_here hK hT hx.1 (by omega) ?_
      simp only [zh_32_0, zh_32_1, zh_32_2, zh_32_5, zh_32_6, zh_32_7, zh_32_10, zh_32_13, zh_32_14, zh_32_15, zh_32_16, zh_32_18, zh_32_21, zh_32_24, zh_32_26, zh_32_27, zh_32_30, zh_32_33, zh_32_36, zh_32_37, zh_32_40, zh_32_41, zh_32_42, zh_32_42q, zh_32_43, zh_32_46, zh_32_47, zh_32_48, zh_32_51, zh_32_52, zh_32_53, zh_32_56, zh_32_60, zh_32_63, zh_32_66, zh_32_67, zh_32_68, zh_32_71, zh_32_74, zh_32_75, zh_32_76, zh_32_79, zh_32_82, zh_32_83, zwl_m1, zwl_0, zwl_1, zwl_2, zwl_3, zwl_4, zwl_5, zwl_6, zwl_7, zwl_8, zwl_10, zwl_15, zwl_24, zwl_32, zwl_33, zwl_40, zwl_41, zwl_42, zwl_43, zwl_45, zwl_47, zwl_48, zwl_52, zwl_56, zwl_57, zwl_59, zwl_60, zwl_61, zwl_63, zwl_64, zwl_66, zwl_67, zwl_68, zwl_70, zwl_75, zwl_77, zwl_80, zwl_82, zwl_84, zwl_88, zwl_89, zwl_97, zwl_104, zwl_110, zwl_112, zwl_114, zwl_118, zwl_123, zwl_125, zwl_126, zwl_159, zwl_160, zwl_200, zwl_255, zwl_480, zwl_960, zwl_3000, zs_kli, zs_klq, zs_kln, zs_wn, zs_wi, zs_wl, zs_wq, ↓zs_ok10, ↓zs_ok11, Option.toList_some, Option.toList_none, List.cons_append, List.nil_append, ↓reduceIte, Nat.reduceAdd, Nat.reduceLeDiff, true_and, and_true, Int.reduceEq, Int.reduceLT, Int.reduceLE, Int.reduceAdd, Int.reduceSub, Int.reduceMul, Int.reduceNeg, Nat.reduceEqDiff, Nat.reduceLT, Nat.reduceBEq, zsI_c, zsI_k, zsI_s, zsR_c, zsR_k, zsR_s, x3, e0]
      refine h _ (fun I' hk => ?_) (fun I' hk => ?_)
      · simp only [zh_32_0, zh_32_1, zh_32_2, zh_32_5, zh_32_6, zh_32_7, zh_32_10, zh_32_13, zh_32_14, zh_32_15, zh_32_16, zh_32_18, zh_32_21, zh_32_24, zh_32_26, zh_32_27, zh_32_30, zh_32_33, zh_32_36, zh_32_37, zh_32_40, zh_32_41, zh_32_42, zh_32_42q, zh_32_43, zh_32_46, zh_32_47, zh_32_48, zh_32_51, zh_32_52, zh_32_53, zh_32_56, zh_32_60, zh_32_63, zh_32_66, zh_32_67, zh_32_68, zh_32_71, zh_32_74, zh_32_75, zh_32_76, zh_32_79, zh_32_82, zh_32_83, zwl_m1, zwl_0, zwl_1, zwl_2, zwl_3, zwl_4, zwl_5, zwl_6, zwl_7, zwl_8, zwl_10, zwl_15, zwl_24, zwl_32, zwl_33, zwl_40, zwl_41, zwl_42, zwl_43, zwl_45, zwl_47, zwl_48, zwl_52, zwl_56, zwl_57, zwl_59, zwl_60, zwl_61, zwl_63, zwl_64, zwl_66, zwl_67, zwl_68, zwl_70, zwl_75, zwl_77, zwl_80, zwl_82, zwl_84, zwl_88, zwl_89, zwl_97, zwl_104, zwl_110, zwl_112, zwl_114, zwl_118, zwl_123, zwl_125, zwl_126, zwl_159, zwl_160, zwl_200, zwl_255, zwl_480, zwl_960, zwl_3000, zs_kli, zs_klq, zs_kln, zs_wn, zs_wi, zs_wl, zs_wq, ↓zs_ok10, ↓zs_ok11, Option.toList_some, Option.toList_none, List.cons_append, List.nil_append, ↓reduceIte, Nat.reduceAdd, Nat.reduceLeDiff, true_and, and_true, Int.reduceEq, Int.reduceLT, Int.reduceLE, Int.reduceAdd, Int.reduceSub, Int.reduceMul, Int.reduceNeg, Nat.reduceEqDiff, Nat.reduceLT, Nat.reduceBEq, zsI_c, zsI_k, zsI_s, zsR_c, zsR_k, zsR_s]
        exact hk
      · simp only [zh_32_0, zh_32_1, zh_32_2, zh_32_5, zh_32_6, zh_32_7, zh_32_10, zh_32_13, zh_32_14, zh_32_15, zh_32_16, zh_32_18, zh_32_21, zh_32_24, zh_32_26, zh_32_27, zh_32_30, zh_32_33, zh_32_36, zh_32_37, zh_32_40, zh_32_41, zh_32_42, zh_32_42q, zh_32_43, zh_32_46, zh_32_47, zh_32_48, zh_32_51, zh_32_52, zh_32_53, zh_32_56, zh_32_60, zh_32_63, zh_32_66, zh_32_67, zh_32_68, zh_32_71, zh_32_74, zh_32_75, zh_32_76, zh_32_79, zh_32_82, zh_32_83, zwl_m1, zwl_0, zwl_1, zwl_2, zwl_3, zwl_4, zwl_5, zwl_6, zwl_7, zwl_8, zwl_10, zwl_15, zwl_24, zwl_32, zwl_33, zwl_40, zwl_41, zwl_42, zwl_43, zwl_45, zwl_47, zwl_48, zwl_52, zwl_56, zwl_57, zwl_59, zwl_60, zwl_61, zwl_63, zwl_64, zwl_66, zwl_67, zwl_68, zwl_70, zwl_75, zwl_77, zwl_80, zwl_82, zwl_84, zwl_88, zwl_89, zwl_97, zwl_104, zwl_110, zwl_112, zwl_114, zwl_118, zwl_123, zwl_125, zwl_126, zwl_159, zwl_160, zwl_200, zwl_255, zwl_480, zwl_960, zwl_3000, zs_kli, zs_klq, zs_kln, zs_wn, zs_wi, zs_wl, zs_wq, ↓zs_ok10, ↓zs_ok11, Option.toList_some, Option.toList_none, List.cons_append, List.nil_append, ↓reduceIte, Nat.reduceAdd, Nat.reduceLeDiff, true_and, and_true, Int.reduceEq, Int.reduceLT, Int.reduceLE, Int.reduceAdd, Int.reduceSub, Int.reduceMul, Int.reduceNeg, Nat.reduceEqDiff, Nat.reduceLT, Nat.reduceBEq, zsI_c, zsI_k, zsI_s, zsR_c, zsR_k, zsR_s]
        exact hk
    cases o1 with
    | none =>
      refine ⟨none, fun _ _ _ h => (by cases h), fun R al hK d I K bi nn l3 hbi hd hn0 hnp hx h0 _ => ?_, fun R al hK d I Q si bi hbi hx h4 hw h0 _ => ?_⟩
      · exact hhead _ _ hK d I K bi nn l3 hd hn0 hnp hx (fun K' k1 k2 => c1 _ _ hK _ _ _ _ hbi (by omega) (hx.at rfl) (fun _ I' f => k1 I' (h0 rfl I' (FrA.at.tr f))) (fun _ _ _ q => by cases q))
      · refine mx_wait (d := d + 2) hK hT hx (by omega) h4 hbi hb ho (fun I1 f1 _ g1 g2 g3 => ?_)
        exact m1 _ _ hK d I1 Q si _ _ hbi g3 g1 g2 ew (fun _ I2 k' due' go' q f2 q2 ba => h0 rfl I2 k' due' go' q ((f1.le (by omega)).tr f2) q2 ba) (fun _ _ _ q => by cases q)
    | some o =>
      obtain ⟨p1, e1, P1⟩ := o
      obtain ⟨k1, k2, k3, k4, k5, k6⟩ := ok1 p1 e1 P1 rfl
      obtain ⟨o2, ok2, c2, m2⟩ := hl p1 (by omega) k2 (e1 + 1) (pE P1 e1 (ch T n p) 0) (by omega)
      refine ⟨o2, fun p' e' P' h => ?_, fun R al hK d I K bi nn l3 hbi hd hn0 hnp hx h0 h => ?_, fun R al hK d I Q si bi hbi hx h4 hw h0 h => ?_⟩
      · obtain ⟨j1, j2, j3, j4, j5, j6, j7⟩ := ok2 p' e' P' h
        refine ⟨by omega, j2, by omega, by omega, fun c k hck => ?_, fun h hh => ?_, j7⟩
        · rw [j5 c k (by omega), pE_n (by omega)]
          exact k5 c k (by omega)
        · have s1 : HG P' (e1 - e) e (h + 1) (h + 1 + 1) := HG_congr _ _ _ _ (fun j h1 h2 => ⟨by rw [j5 _ _ (by omega), pE_n (by omega)], by rw [j5 _ _ (by omega), pE_n (by omega)]⟩) (k6 (h + 1) (by omega))
          have s2 : HG P' 1 e1 (h + 1 + 1) (h + 1) := HG_congr _ _ _ _ (fun j h1 h2 => ⟨by rw [j5 _ _ (by omega)], by rw [j5 _ _ (by omega)]⟩) (HG_one ho (by omega))
          have s3 := j6 h hh
          have e5 : e + (e1 - e) = e1 := by omega
          have s12 := HG_app _ _ _ _ _ _ s1 (by rw [e5]; exact s2)
          have e6 : e + (e1 - e + 1) = e1 + 1 := by omega
          have s123 := HG_app _ _ _ _ _ _ s12 (by rw [e6]; exact s3)
          have e7 : e1 - e + 1 + (e' - (e1 + 1)) = e' - e := by omega
          rw [e7] at s123
          exact s123
      · obtain ⟨x, rfl⟩ : ∃ x, d = x + 12 := ⟨d - 12, by unfold Dx at hd; omega⟩
        refine hhead _ _ hK _ I K bi nn l3 hd hn0 hnp hx (fun K' q1 q2 => c1 _ _ hK _ _ _ _ hbi (by omega) (hx.at rfl) (fun q => by cases q) (fun p' e' P' q I' f y => q2 I' ?_))
        cases q
        simp only [zh_32_0, zh_32_1, zh_32_2, zh_32_5, zh_32_6, zh_32_7, zh_32_10, zh_32_13, zh_32_14, zh_32_15, zh_32_16, zh_32_18, zh_32_21, zh_32_24, zh_32_26, zh_32_27, zh_32_30, zh_32_33, zh_32_36, zh_32_37, zh_32_40, zh_32_41, zh_32_42, zh_32_42q, zh_32_43, zh_32_46, zh_32_47, zh_32_48, zh_32_51, zh_32_52, zh_32_53, zh_32_56, zh_32_59, zh_32_60, zh_32_63, zh_32_66, zh_32_67, zh_32_68, zh_32_71, zh_32_74, zh_32_75, zh_32_76, zh_32_79, zh_32_82, zh_32_83, zwl_m1, zwl_0, zwl_1, zwl_2, zwl_3, zwl_4, zwl_5, zwl_6, zwl_7, zwl_8, zwl_10, zwl_15, zwl_24, zwl_32, zwl_33, zwl_40, zwl_41, zwl_42, zwl_43, zwl_45, zwl_47, zwl_48, zwl_52, zwl_56, zwl_57, zwl_59, zwl_60, zwl_61, zwl_63, zwl_64, zwl_66, zwl_67, zwl_68, zwl_70, zwl_75, zwl_77, zwl_80, zwl_82, zwl_84, zwl_88, zwl_89, zwl_97, zwl_104, zwl_110, zwl_112, zwl_114, zwl_118, zwl_123, zwl_125, zwl_126, zwl_159, zwl_160, zwl_200, zwl_255, zwl_480, zwl_960, zwl_3000, zs_kli, zs_klq, zs_kln, zs_wn, zs_wi, zs_wl, zs_wq, ↓zs_ok10, ↓zs_ok11, Option.toList_some, Option.toList_none, List.cons_append, List.nil_append, ↓reduceIte, Nat.reduceAdd, Nat.reduceLeDiff, true_and, and_true, Int.reduceEq, Int.reduceLT, Int.reduceLE, Int.reduceAdd, Int.reduceSub, Int.reduceMul, Int.reduceNeg, Nat.reduceEqDiff, Nat.reduceLT, Nat.reduceBEq, zsI_c, zsI_k, zsI_s, zsR_c, zsR_k, zsR_s, kon_0_0_0 hK, kon_0_0_1 hK, kon_0_0_2 hK, kon_0_0_3 hK, kon_0_0_4 hK, kon_1_0_0 hK, kon_6_0_0 hK, kon_6_0_1 hK, kon_6_0_4 hK, kon_7_0_0 hK, kon_7_0_1 hK, kon_7_0_2 hK, kon_7_0_3 hK, kon_7_0_7 hK, kon_7_0_8 hK, kon_8_0_0 hK, kon_8_0_1 hK, kon_9_0_0 hK, kon_10_0_0 hK, kon_10_0_1 hK, kon_10_0_9 hK]
        refine ct_add (o := ch T n p) hK y (by omega) (by omega) hckd (fun I2 f2 y2 => ?_)
        simp only [zh_32_0, zh_32_1, zh_32_2, zh_32_5, zh_32_6, zh_32_7, zh_32_10, zh_32_13, zh_32_14, zh_32_15, zh_32_16, zh_32_18, zh_32_21, zh_32_24, zh_32_26, zh_32_27, zh_32_30, zh_32_33, zh_32_36, zh_32_37, zh_32_40, zh_32_41, zh_32_42, zh_32_42q, zh_32_43, zh_32_46, zh_32_47, zh_32_48, zh_32_51, zh_32_52, zh_32_53, zh_32_56, zh_32_59, zh_32_60, zh_32_63, zh_32_66, zh_32_67, zh_32_68, zh_32_71, zh_32_74, zh_32_75, zh_32_76, zh_32_79, zh_32_82, zh_32_83, zwl_m1, zwl_0, zwl_1, zwl_2, zwl_3, zwl_4, zwl_5, zwl_6, zwl_7, zwl_8, zwl_10, zwl_15, zwl_24, zwl_32, zwl_33, zwl_40, zwl_41, zwl_42, zwl_43, zwl_45, zwl_47, zwl_48, zwl_52, zwl_56, zwl_57, zwl_59, zwl_60, zwl_61, zwl_63, zwl_64, zwl_66, zwl_67, zwl_68, zwl_70, zwl_75, zwl_77, zwl_80, zwl_82, zwl_84, zwl_88, zwl_89, zwl_97, zwl_104, zwl_110, zwl_112, zwl_114, zwl_118, zwl_123, zwl_125, zwl_126, zwl_159, zwl_160, zwl_200, zwl_255, zwl_480, zwl_960, zwl_3000, zs_kli, zs_klq, zs_kln, zs_wn, zs_wi, zs_wl, zs_wq, ↓zs_ok10, ↓zs_ok11, Option.toList_some, Option.toList_none, List.cons_append, List.nil_append, ↓reduceIte, Nat.reduceAdd, Nat.reduceLeDiff, true_and, and_true, Int.reduceEq, Int.reduceLT, Int.reduceLE, Int.reduceAdd, Int.reduceSub, Int.reduceMul, Int.reduceNeg, Nat.reduceEqDiff, Nat.reduceLT, Nat.reduceBEq, zsI_c, zsI_k, zsI_s, zsR_c, zsR_k, zsR_s]
        exact c2 _ _ hK _ I2 K bi _ _ hbi hd (by omega) (by omega) y2 (fun q I3 f3 => h0 q I3 (FrA.at.tr (f.tr (f2.tr f3)))) (fun p' e' P' q I3 f3 y3 => h p' e' P' q I3 (FrA.at.tr (f.tr (f2.tr f3))) y3)
      · refine mx_wait (d := d + 2) hK hT hx (by omega) h4 hbi hb ho (fun I1 f1 _ g1 g2 g3 => ?_)
        refine m1 _ _ hK d I1 Q si _ _ hbi g3 g1 g2 ew (fun q => by cases q) (fun p' e' P' q I2 f2 q2 q3 q4 => ?_)
        cases q
        have hne : ¬ ch T n p = 0 := by omega
        have es : stn e1 (ch T n p) = e1 + 1 := if_neg hne
        have eP : stE P1 e1 (ch T n p) = pE P1 e1 (ch T n p) 0 := if_neg hne
        rw [es, eP] at q4
        exact m2 _ _ hK d I2 Q si bi hbi q4 q2 q3 (fun q I3 k' due' go' qg f3 q5 ba => h0 q I3 k' due' go' qg ((f1.le (by omega)).tr ((f2.le (by omega)).tr f3)) q5 ba) (fun p' e' P' q I3 f3 r1 r2 r3 => h p' e' P' q I3 (f1.tr (f2.tr f3)) r1 r2 r3)
  · refine ⟨some (p, e, P), fun p' e' P' h => ?_, fun R al hK d I K bi nn l3 hbi hd hn0 hnp hx _ h => ?_, fun R al hK d I Q si bi hbi hx h4 hw _ h => h _ _ _ rfl I FrB.rfl h4 hw hx⟩
    · cases h
      refine ⟨Nat.le_refl _, hp, Nat.le_refl _, Nat.le_refl _, fun _ _ _ => rfl, fun h hh => ?_, ho⟩
      rw [Nat.sub_self]
      exact rfl
    · obtain ⟨x, rfl⟩ : ∃ x, d = x + 12 := ⟨d - 12, by unfold Dx at hd; omega⟩
      have e1 : zw nn = nn := zw_i (by omega) (by omega)
      have ew : zw (ch T n p) = ch T n p := zw_i (by omega) (by omega)
      have ez := zops_n ho
      rw [zh_32_17]
      by_cases q : nn < 160
      · simp only [zh_32_0, zh_32_1, zh_32_2, zh_32_5, zh_32_6, zh_32_7, zh_32_10, zh_32_13, zh_32_14, zh_32_15, zh_32_16, zh_32_18, zh_32_21, zh_32_24, zh_32_26, zh_32_27, zh_32_30, zh_32_33, zh_32_36, zh_32_37, zh_32_40, zh_32_41, zh_32_42, zh_32_42q, zh_32_43, zh_32_46, zh_32_47, zh_32_48, zh_32_51, zh_32_52, zh_32_53, zh_32_56, zh_32_59, zh_32_60, zh_32_63, zh_32_66, zh_32_67, zh_32_68, zh_32_71, zh_32_74, zh_32_75, zh_32_76, zh_32_79, zh_32_82, zh_32_83, zwl_m1, zwl_0, zwl_1, zwl_2, zwl_3, zwl_4, zwl_5, zwl_6, zwl_7, zwl_8, zwl_10, zwl_15, zwl_24, zwl_32, zwl_33, zwl_40, zwl_41, zwl_42, zwl_43, zwl_45, zwl_47, zwl_48, zwl_52, zwl_56, zwl_57, zwl_59, zwl_60, zwl_61, zwl_63, zwl_64, zwl_66, zwl_67, zwl_68, zwl_70, zwl_75, zwl_77, zwl_80, zwl_82, zwl_84, zwl_88, zwl_89, zwl_97, zwl_104, zwl_110, zwl_112, zwl_114, zwl_118, zwl_123, zwl_125, zwl_126, zwl_159, zwl_160, zwl_200, zwl_255, zwl_480, zwl_960, zwl_3000, zs_kli, zs_klq, zs_kln, zs_wn, zs_wi, zs_wl, zs_wq, ↓zs_ok10, ↓zs_ok11, Option.toList_some, Option.toList_none, List.cons_append, List.nil_append, ↓reduceIte, Nat.reduceAdd, Nat.reduceLeDiff, true_and, and_true, Int.reduceEq, Int.reduceLT, Int.reduceLE, Int.reduceAdd, Int.reduceSub, Int.reduceMul, Int.reduceNeg, Nat.reduceEqDiff, Nat.reduceLT, Nat.reduceBEq, zsI_c, zsI_k, zsI_s, zsR_c, zsR_k, zsR_s, e1, q]
        refine ct_here hK hT hx.1 (by omega) ?_
        simp only [zh_32_0, zh_32_1, zh_32_2, zh_32_5, zh_32_6, zh_32_7, zh_32_10, zh_32_13, zh_32_14, zh_32_15, zh_32_16, zh_32_18, zh_32_21, zh_32_24, zh_32_26, zh_32_27, zh_32_30, zh_32_33, zh_32_36, zh_32_37, zh_32_40, zh_32_41, zh_32_42, zh_32_42q, zh_32_43, zh_32_46, zh_32_47, zh_32_48, zh_32_51, zh_32_52, zh_32_53, zh_32_56, zh_32_59, zh_32_60, zh_32_63, zh_32_66, zh_32_67, zh_32_68, zh_32_71, zh_32_74, zh_32_75, zh_32_76, zh_32_79, zh_32_82, zh_32_83, zwl_m1, zwl_0, zwl_1, zwl_2, zwl_3, zwl_4, zwl_5, zwl_6, zwl_7, zwl_8, zwl_10, zwl_15, zwl_24, zwl_32, zwl_33, zwl_40, zwl_41, zwl_42, zwl_43, zwl_45, zwl_47, zwl_48, zwl_52, zwl_56, zwl_57, zwl_59, zwl_60, zwl_61, zwl_63, zwl_64, zwl_66, zwl_67, zwl_68, zwl_70, zwl_75, zwl_77, zwl_80, zwl_82, zwl_84, zwl_88, zwl_89, zwl_97, zwl_104, zwl_110, zwl_112, zwl_114, zwl_118, zwl_123, zwl_125, zwl_126, zwl_159, zwl_160, zwl_200, zwl_255, zwl_480, zwl_960, zwl_3000, zs_kli, zs_klq, zs_kln, zs_wn, zs_wi, zs_wl, zs_wq, ↓zs_ok10, ↓zs_ok11, Option.toList_some, Option.toList_none, List.cons_append, List.nil_append, ↓reduceIte, Nat.reduceAdd, Nat.reduceLeDiff, true_and, and_true, Int.reduceEq, Int.reduceLT, Int.reduceLE, Int.reduceAdd, Int.reduceSub, Int.reduceMul, Int.reduceNeg, Nat.reduceEqDiff, Nat.reduceLT, Nat.reduceBEq, zsI_c, zsI_k, zsI_s, zsR_c, zsR_k, zsR_s, zcp_900, ew, ez]
        exact h _ _ _ rfl I FrA.rfl hx
      · simp only [zh_32_0, zh_32_1, zh_32_2, zh_32_5, zh_32_6, zh_32_7, zh_32_10, zh_32_13, zh_32_14, zh_32_15, zh_32_16, zh_32_18, zh_32_21, zh_32_24, zh_32_26, zh_32_27, zh_32_30, zh_32_33, zh_32_36, zh_32_37, zh_32_40, zh_32_41, zh_32_42, zh_32_42q, zh_32_43, zh_32_46, zh_32_47, zh_32_48, zh_32_51, zh_32_52, zh_32_53, zh_32_56, zh_32_59, zh_32_60, zh_32_63, zh_32_66, zh_32_67, zh_32_68, zh_32_71, zh_32_74, zh_32_75, zh_32_76, zh_32_79, zh_32_82, zh_32_83, zwl_m1, zwl_0, zwl_1, zwl_2, zwl_3, zwl_4, zwl_5, zwl_6, zwl_7, zwl_8, zwl_10, zwl_15, zwl_24, zwl_32, zwl_33, zwl_40, zwl_41, zwl_42, zwl_43, zwl_45, zwl_47, zwl_48, zwl_52, zwl_56, zwl_57, zwl_59, zwl_60, zwl_61, zwl_63, zwl_64, zwl_66, zwl_67, zwl_68, zwl_70, zwl_75, zwl_77, zwl_80, zwl_82, zwl_84, zwl_88, zwl_89, zwl_97, zwl_104, zwl_110, zwl_112, zwl_114, zwl_118, zwl_123, zwl_125, zwl_126, zwl_159, zwl_160, zwl_200, zwl_255, zwl_480, zwl_960, zwl_3000, zs_kli, zs_klq, zs_kln, zs_wn, zs_wi, zs_wl, zs_wq, ↓zs_ok10, ↓zs_ok11, Option.toList_some, Option.toList_none, List.cons_append, List.nil_append, ↓reduceIte, Nat.reduceAdd, Nat.reduceLeDiff, true_and, and_true, Int.reduceEq, Int.reduceLT, Int.reduceLE, Int.reduceAdd, Int.reduceSub, Int.reduceMul, Int.reduceNeg, Nat.reduceEqDiff, Nat.reduceLT, Nat.reduceBEq, zsI_c, zsI_k, zsI_s, zsR_c, zsR_k, zsR_s, e1, q]
        exact h _ _ _ rfl I FrA.rfl hx
theorem ts_step (hT : TX T n) (hb : b ≤ 3) (hp : p ≤ n) (hm : TmS T n p b) (hl : ∀ p', p < p' → p' ≤ n → TlS T n p' b) : TsS T n p b := by
  intro e P he
  have hn1 := hT.1
  obtain ⟨o1, ok1, c1, m1⟩ := hm e P he
  cases o1 with
  | none =>
    refine ⟨none, fun _ _ _ h => (by cases h), fun R al hK d I K bi hbi hd hx h0 _ => ?_, fun R al hK d I Q si bi hbi hx h4 hw h0 _ => m1 _ _ hK d I Q si 0 bi hbi hx h4 hw zw_0 h0 (fun _ _ _ q => by cases q)⟩
    obtain ⟨x, rfl⟩ : ∃ x, d = x + 1 := ⟨d - 1, by unfold Dx at hd; omega⟩
    have e1 : zw bi = bi := zw_i (by omega) (by omega)
    have e2 : ¬ 3 < bi := by omega
    rw [zcp_32]
    simp only [zh_32_0, zh_32_1, zh_32_2, zh_32_5, zh_32_6, zh_32_7, zh_32_10, zh_32_13, zh_32_14, zh_32_15, zh_32_16, zh_32_18, zh_32_21, zh_32_24, zh_32_26, zh_32_27, zh_32_30, zh_32_33, zh_32_36, zh_32_37, zh_32_40, zh_32_41, zh_32_42, zh_32_42q, zh_32_43, zh_32_46, zh_32_47, zh_32_48, zh_32_51, zh_32_52, zh_32_53, zh_32_56, zh_32_59, zh_32_60, zh_32_63, zh_32_66, zh_32_67, zh_32_68, zh_32_71, zh_32_74, zh_32_75, zh_32_76, zh_32_79, zh_32_82, zh_32_83, zwl_m1, zwl_0, zwl_1, zwl_2, zwl_3, zwl_4, zwl_5, zwl_6, zwl_7, zwl_8, zwl_10, zwl_15, zwl_24, zwl_32, zwl_33, zwl_40, zwl_41, zwl_42, zwl_43, zwl_45, zwl_47, zwl_48, zwl_52, zwl_56, zwl_57, zwl_59, zwl_60, zwl_61, zwl_63, zwl_64, zwl_66, zwl_67, zwl_68, zwl_70, zwl_75, zwl_77, zwl_80, zwl_82, zwl_84, zwl_88, zwl_89, zwl_97, zwl_104, zwl_110, zwl_112, zwl_114, zwl_118, zwl_123, zwl_125, zwl_126, zwl_159, zwl_160, zwl_200, zwl_255, zwl_480, zwl_960, zwl_3000, zs_kli, zs_klq, zs_kln, zs_wn, zs_wi, zs_wl, zs_wq, ↓zs_ok10, ↓zs_ok11, Option.toList_some, Option.toList_none, List.cons_append, List.nil_append, ↓reduceIte, Nat.reduceAdd, Nat.reduceLeDiff, true_and, and_true, Int.reduceEq, Int.reduceLT, Int.reduceLE, Int.reduceAdd, Int.reduceSub, Int.reduceMul, Int.reduceNeg, Nat.reduceEqDiff, Nat.reduceLT, Nat.reduceBEq, zsI_c, zsI_k, zsI_s, zsR_c, zsR_k, zsR_s, e1, e2]
    refine c1 _ _ hK _ _ _ _ hbi (by omega) hx (fun _ I' f => ?_) (fun _ _ _ q => by cases q)
    simp only [zh_32_0, zh_32_1, zh_32_2, zh_32_5, zh_32_6, zh_32_7, zh_32_10, zh_32_13, zh_32_14, zh_32_15, zh_32_16, zh_32_18, zh_32_21, zh_32_24, zh_32_26, zh_32_27, zh_32_30, zh_32_33, zh_32_36, zh_32_37, zh_32_40, zh_32_41, zh_32_42, zh_32_42q, zh_32_43, zh_32_46, zh_32_47, zh_32_48, zh_32_51, zh_32_52, zh_32_53, zh_32_56, zh_32_59, zh_32_60, zh_32_63, zh_32_66, zh_32_67, zh_32_68, zh_32_71, zh_32_74, zh_32_75, zh_32_76, zh_32_79, zh_32_82, zh_32_83, zwl_m1, zwl_0, zwl_1, zwl_2, zwl_3, zwl_4, zwl_5, zwl_6, zwl_7, zwl_8, zwl_10, zwl_15, zwl_24, zwl_32, zwl_33, zwl_40, zwl_41, zwl_42, zwl_43, zwl_45, zwl_47, zwl_48, zwl_52, zwl_56, zwl_57, zwl_59, zwl_60, zwl_61, zwl_63, zwl_64, zwl_66, zwl_67, zwl_68, zwl_70, zwl_75, zwl_77, zwl_80, zwl_82, zwl_84, zwl_88, zwl_89, zwl_97, zwl_104, zwl_110, zwl_112, zwl_114, zwl_118, zwl_123, zwl_125, zwl_126, zwl_159, zwl_160, zwl_200, zwl_255, zwl_480, zwl_960, zwl_3000, zs_kli, zs_klq, zs_kln, zs_wn, zs_wi, zs_wl, zs_wq, ↓zs_ok10, ↓zs_ok11, Option.toList_some, Option.toList_none, List.cons_append, List.nil_append, ↓reduceIte, Nat.reduceAdd, Nat.reduceLeDiff, true_and, and_true, Int.reduceEq, Int.reduceLT, Int.reduceLE, Int.reduceAdd, Int.reduceSub, Int.reduceMul, Int.reduceNeg, Nat.reduceEqDiff, Nat.reduceLT, Nat.reduceBEq, zsI_c, zsI_k, zsI_s, zsR_c, zsR_k, zsR_s]
    exact h0 rfl I' f
  | some o =>
    obtain ⟨p1, e1, P1⟩ := o
    obtain ⟨k1, k2, k3, k4, k5, k6⟩ := ok1 p1 e1 P1 rfl
    obtain ⟨o2, ok2, c2, m2⟩ := hl p1 k1 k2 e1 P1 (by omega)
    refine ⟨o2, fun p' e' P' h => ?_, fun R al hK d I K bi hbi hd hx h0 h => ?_, fun R al hK d I Q si bi hbi hx h4 hw h0 h => ?_⟩
    · obtain ⟨j1, j2, j3, j4, j5, j6, j7⟩ := ok2 p' e' P' h
      refine ⟨by omega, j2, by omega, by omega, fun c k hck => ?_, fun h hh => ?_, j7⟩
      · rw [j5 c k (by omega)]
        exact k5 c k (by omega)
      · have s1 : HG P' (e1 - e) e h (h + 1) := HG_congr _ _ _ _ (fun j h1 h2 => ⟨by rw [j5 _ _ (by omega)], by rw [j5 _ _ (by omega)]⟩) (k6 h (by omega))
        have s3 := j6 h hh
        have e5 : e + (e1 - e) = e1 := by omega
        have s123 := HG_app _ _ _ _ _ _ s1 (by rw [e5]; exact s3)
        have e7 : e1 - e + (e' - e1) = e' - e := by omega
        rw [e7] at s123
        exact s123
    · obtain ⟨x, rfl⟩ : ∃ x, d = x + 1 := ⟨d - 1, by unfold Dx at hd; omega⟩
      have w1 : zw bi = bi := zw_i (by omega) (by omega)
      have w2 : ¬ 3 < bi := by omega
      rw [zcp_32]
      simp only [zh_32_0, zh_32_1, zh_32_2, zh_32_5, zh_32_6, zh_32_7, zh_32_10, zh_32_13, zh_32_14, zh_32_15, zh_32_16, zh_32_18, zh_32_21, zh_32_24, zh_32_26, zh_32_27, zh_32_30, zh_32_33, zh_32_36, zh_32_37, zh_32_40, zh_32_41, zh_32_42, zh_32_42q, zh_32_43, zh_32_46, zh_32_47, zh_32_48, zh_32_51, zh_32_52, zh_32_53, zh_32_56, zh_32_59, zh_32_60, zh_32_63, zh_32_66, zh_32_67, zh_32_68, zh_32_71, zh_32_74, zh_32_75, zh_32_76, zh_32_79, zh_32_82, zh_32_83, zwl_m1, zwl_0, zwl_1, zwl_2, zwl_3, zwl_4, zwl_5, zwl_6, zwl_7, zwl_8, zwl_10, zwl_15, zwl_24, zwl_32, zwl_33, zwl_40, zwl_41, zwl_42, zwl_43, zwl_45, zwl_47, zwl_48, zwl_52, zwl_56, zwl_57, zwl_59, zwl_60, zwl_61, zwl_63, zwl_64, zwl_66, zwl_67, zwl_68, zwl_70, zwl_75, zwl_77, zwl_80, zwl_82, zwl_84, zwl_88, zwl_89, zwl_97, zwl_104, zwl_110, zwl_112, zwl_114, zwl_118, zwl_123, zwl_125, zwl_126, zwl_159, zwl_160, zwl_200, zwl_255, zwl_480, zwl_960, zwl_3000, zs_kli, zs_klq, zs_kln, zs_wn, zs_wi, zs_wl, zs_wq, ↓zs_ok10, ↓zs_ok11, Option.toList_some, Option.toList_none, List.cons_append, List.nil_append, ↓reduceIte, Nat.reduceAdd, Nat.reduceLeDiff, true_and, and_true, Int.reduceEq, Int.reduceLT, Int.reduceLE, Int.reduceAdd, Int.reduceSub, Int.reduceMul, Int.reduceNeg, Nat.reduceEqDiff, Nat.reduceLT, Nat.reduceBEq, zsI_c, zsI_k, zsI_s, zsR_c, zsR_k, zsR_s, w1, w2]
      refine c1 _ _ hK _ _ _ _ hbi (by omega) hx (fun q => by cases q) (fun p' e' P' q I' f y => ?_)
      cases q
      simp only [zh_32_0, zh_32_1, zh_32_2, zh_32_5, zh_32_6, zh_32_7, zh_32_10, zh_32_13, zh_32_14, zh_32_15, zh_32_16, zh_32_18, zh_32_21, zh_32_24, zh_32_26, zh_32_27, zh_32_30, zh_32_33, zh_32_36, zh_32_37, zh_32_40, zh_32_41, zh_32_42, zh_32_42q, zh_32_43, zh_32_46, zh_32_47, zh_32_48, zh_32_51, zh_32_52, zh_32_53, zh_32_56, zh_32_59, zh_32_60, zh_32_63, zh_32_66, zh_32_67, zh_32_68, zh_32_71, zh_32_74, zh_32_75, zh_32_76, zh_32_79, zh_32_82, zh_32_83, zwl_m1, zwl_0, zwl_1, zwl_2, zwl_3, zwl_4, zwl_5, zwl_6, zwl_7, zwl_8, zwl_10, zwl_15, zwl_24, zwl_32, zwl_33, zwl_40, zwl_41, zwl_42, zwl_43, zwl_45, zwl_47, zwl_48, zwl_52, zwl_56, zwl_57, zwl_59, zwl_60, zwl_61, zwl_63, zwl_64, zwl_66, zwl_67, zwl_68, zwl_70, zwl_75, zwl_77, zwl_80, zwl_82, zwl_84, zwl_88, zwl_89, zwl_97, zwl_104, zwl_110, zwl_112, zwl_114, zwl_118, zwl_123, zwl_125, zwl_126, zwl_159, zwl_160, zwl_200, zwl_255, zwl_480, zwl_960, zwl_3000, zs_kli, zs_klq, zs_kln, zs_wn, zs_wi, zs_wl, zs_wq, ↓zs_ok10, ↓zs_ok11, Option.toList_some, Option.toList_none, List.cons_append, List.nil_append, ↓reduceIte, Nat.reduceAdd, Nat.reduceLeDiff, true_and, and_true, Int.reduceEq, Int.reduceLT, Int.reduceLE, Int.reduceAdd, Int.reduceSub, Int.reduceMul, Int.reduceNeg, Nat.reduceEqDiff, Nat.reduceLT, Nat.reduceBEq, zsI_c, zsI_k, zsI_s, zsR_c, zsR_k, zsR_s]
      exact c2 _ _ hK _ I' K bi _ _ hbi (by omega) (by omega) (by omega) y (fun q I3 f3 => h0 q I3 (f.tr f3)) (fun p' e' P' q I3 f3 y3 => h p' e' P' q I3 (f.tr f3) y3)
    · refine m1 _ _ hK d I Q si 0 bi hbi hx h4 hw zw_0 (fun q => by cases q) (fun p' e' P' q I2 f2 q2 q3 q4 => ?_)
      cases q
      exact m2 _ _ hK d I2 Q si bi hbi q4 q2 q3 (fun q I3 k' due' go' qg f3 q5 ba => h0 q I3 k' due' go' qg ((f2.le (by omega)).tr f3) q5 ba) (fun p' e' P' q I3 f3 r1 r2 r3 => h p' e' P' q I3 (f2.tr f3) r1 r2 r3)
theorem ex_all (hT : TX T n) (m : Nat) : ∀ p, p ≤ n → n - p < m → (∀ b, b ≤ 3 → TmS T n p b) ∧ (∀ b, b ≤ 3 → TlS T n p b) ∧ (∀ b, b ≤ 3 → TsS T n p b) := by
  induction m with
  | zero => intro p _ h; omega
  | succ m ih =>
    intro p hp hm
    have hup : ∀ p', p < p' → p' ≤ n → (∀ b, b ≤ 3 → TmS T n p' b) ∧ (∀ b, b ≤ 3 → TlS T n p' b) ∧ (∀ b, b ≤ 3 → TsS T n p' b) := fun p' h1 h2 => ih p' h2 (by omega)
    have hTm : ∀ b, b ≤ 3 → TmS T n p b := fun b hb => by
      by_cases h40 : ch T n p = 40
      · have hlt : p < n := by
          rcases ch_r (p := p) hT with q | q
          · exact q.1
          · omega
        exact tm_open hT hb hlt h40 (fun hb3 => (hup (p + 1) (by omega) (by omega)).2.2 (b + 1) (by omega))
      · by_cases hv : 97 ≤ ch T n p ∧ ch T n p ≤ 104
        · exact tm_var hT hb hp hv.1 hv.2
        · by_cases hn : ∃ q v, nmb T n p q v
          · obtain ⟨q, v, hq⟩ := hn
            exact tm_num hT hb hp hq
          · exact tm_none hT hb hp h40 hv hn
    refine ⟨hTm, fun b hb => tl_step hT hb hp (fun hlt => (hup (p + 1) (by omega) (by omega)).1 b hb) (fun p' h1 h2 => (hup p' h1 h2).2.1 b hb), fun b hb => ts_step hT hb hp (hTm b hb) (fun p' h1 h2 => (hup p' h1 h2).2.1 b hb)⟩
end
