/-! every statement, every block -/
section
variable {d n p e s b c x k : Nat} {T : Nat → Int} {P : Nat → Nat → Int}
theorem st_try (hT : TX T n) (hc : ch T n p = 89) (hBK : ∀ q, p < q → q ≤ n → BKS T n q) : STS T n p := by
  intro x k e s b c P hxb h100 hk1 hk4 hN hne
  have hn1 := hT.1
  have hr := ch_r (p := p) hT
  obtain ⟨n1, n2, n3, n4, n5, n6, n7⟩ := id hN
  have hsx : s < 160 := by omega
  have hle : ∀ {a : Nat}, a ≤ a := Nat.le_refl _
  obtain ⟨hW, h38, h41⟩ := pw_start (kd := ch T n p) (p1 := p + 1) (e1 := e) (P' := pNS P s x (ch T n p)) hN hxb h100 (fun _ _ _ _ => rfl) (by omega) (by omega) (by omega) (by omega)
  rw [hc] at hW h38 h41
  obtain ⟨o1, ok1, c1', m1⟩ := kb_ex (j := 0) (il := pNS P s x 89 101 x) (tk := pNS P s x 89 102 x) hT (hBK (p + 1) (by omega) (by omega)) hW hxb hk1 hk4 (by omega) (h38 0 (by omega)) (by omega) (by rw [if_neg (by omega)]) (by rw [if_neg (by omega)])
  have w17 : pNS P s x 89 100 x = (k : Int) := hW.2.2.2.2.2.2.2.2.2.2.2.2.2.2.2.2
  have hclA : ∀ (I : zMI) (R : zMR) (al : zA) (d : Nat) (K : Option zV → zS → Prop), Dc k ≤ d → PC I R T n p e s b c P → (∀ (d' : Nat) (I2 : zMI) (R2 : zMR) (K' K1 : Option zV → zS → Prop), Dc k ≤ d' + 4 → (∀ v I' R', v = 0 ∨ v = 1 → K (some (zi v)) (I', R', al) → K' (some (zi v)) (I', R', al)) → CW I I2 R R2 T n s c (p + 1) e (s + 1) b c (pNS P s x 89) → R2 4 s 8 = none → R2 4 s 9 = none → (∀ I' R', K (some (zi 0)) (I', zsR R' 4 s 7 none, al) → K1 (some (zq none)) (I', R', al)) → (∀ v I' R', Zgo (d' + 2) 39 20 [some (zq (some (8, 0))), some (zq (some (4, s))), some (zq (some (3, x))), some (zi 0)] [] (I', zsR R' 4 s 7 (some v), al) K' → K1 (some (zq (some v))) (I', R', al)) → zCp (d' + 1) 26 [zq (some (8, 0)), zi ((k + 1 : Nat) : Int), zi (pNS P s x 89 101 x), zi (pNS P s x 89 102 x)] (I2, R2, al) K1) → zCp d 28 [zq (some (8, 0)), zq (some (3, x))] (I, R, al) K := fun I R al d K hd hx h => by
    obtain ⟨d', rfl⟩ : ∃ d', d = d' + 4 := ⟨d - 4, by unfold Dc at hd; omega⟩
    refine sc_blk (y := 39) hT hx hN hxb (Or.inr (Or.inr ⟨hc, rfl⟩)) (fun I2 R2 f1 f2 hx2 g7 g8 g9 K' hK' => ?_)
    rw [hc] at hx2
    rw [zcp_39]
    simp only [zh_39_0, zh_39_1, zh_39_2, zh_39_3, zh_39_6, zh_39_9, zh_39_10, zh_39_13n, zh_39_13, zh_39_16, zh_39_17, zh_39_18, zh_39_19, zh_39_21, zh_39_22, zh_39_25, zh_39_26, zh_39_28, zh_39_31, zh_39_34, zh_39_35, zh_39_36, zh_39_37, zh_39_40, zh_39_43, zh_39_44, zh_39_45, zh_39_48, zh_39_51, zh_39_52, zh_39_54, zh_39_57, zh_39_60, zh_39_61, zh_39_64n, zh_39_64, zh_39_67, zh_39_68, zh_39_71, zh_39_72, zh_39_73, zh_39_74, zh_39_75, zh_39_76, zh_39_79, zh_39_82, zh_39_83, zh_39_86n, zh_39_86, zh_39_89, zh_39_90, zh_39_93, zh_39_94, zwl_m1, zwl_0, zwl_1, zwl_2, zwl_3, zwl_4, zwl_5, zwl_6, zwl_7, zwl_8, zwl_10, zwl_15, zwl_24, zwl_32, zwl_33, zwl_40, zwl_41, zwl_42, zwl_43, zwl_45, zwl_47, zwl_48, zwl_52, zwl_56, zwl_57, zwl_59, zwl_60, zwl_61, zwl_63, zwl_64, zwl_66, zwl_67, zwl_68, zwl_70, zwl_75, zwl_77, zwl_80, zwl_82, zwl_84, zwl_88, zwl_89, zwl_97, zwl_104, zwl_110, zwl_112, zwl_114, zwl_118, zwl_123, zwl_125, zwl_126, zwl_159, zwl_160, zwl_200, zwl_255, zwl_480, zwl_960, zwl_3000, zs_kli, zs_klq, zs_kln, zs_wn, zs_wi, zs_wl, zs_wq, ↓zs_ok10, ↓zs_ok11, Option.toList_some, Option.toList_none, List.cons_append, List.nil_append, ↓reduceIte, Nat.reduceAdd, Nat.reduceLeDiff, true_and, and_true, Int.reduceEq, Int.reduceLT, Int.reduceLE, Int.reduceAdd, Int.reduceSub, Int.reduceMul, Int.reduceNeg, Nat.reduceEqDiff, Nat.reduceLT, Nat.reduceBEq, zsI_c, zsI_k, zsI_s, zsR_c, zsR_k, zsR_s]
    refine c_in (P1 := pNS P s x 89) (e1 := 0) hx2.2.1 (hx2.2.2.2.2.2.2 x hxb) w17 hk4 (fun K1 hK1 => ?_)
    refine h d' I2 R2 K' K1 hd hK' ⟨f1, f2, hx2, fun z h1 h2 => by omega⟩ g8 g9 (fun I' R' q => hK1 _ _ _ ?_) (fun v I' R' q => hK1 _ _ _ ?_)
    · simp only [zh_39_0, zh_39_1, zh_39_2, zh_39_3, zh_39_6, zh_39_9, zh_39_10, zh_39_13n, zh_39_13, zh_39_16, zh_39_17, zh_39_18, zh_39_19, zh_39_21, zh_39_22, zh_39_25, zh_39_26, zh_39_28, zh_39_31, zh_39_34, zh_39_35, zh_39_36, zh_39_37, zh_39_40, zh_39_43, zh_39_44, zh_39_45, zh_39_48, zh_39_51, zh_39_52, zh_39_54, zh_39_57, zh_39_60, zh_39_61, zh_39_64n, zh_39_64, zh_39_67, zh_39_68, zh_39_71, zh_39_72, zh_39_73, zh_39_74, zh_39_75, zh_39_76, zh_39_79, zh_39_82, zh_39_83, zh_39_86n, zh_39_86, zh_39_89, zh_39_90, zh_39_93, zh_39_94, zwl_m1, zwl_0, zwl_1, zwl_2, zwl_3, zwl_4, zwl_5, zwl_6, zwl_7, zwl_8, zwl_10, zwl_15, zwl_24, zwl_32, zwl_33, zwl_40, zwl_41, zwl_42, zwl_43, zwl_45, zwl_47, zwl_48, zwl_52, zwl_56, zwl_57, zwl_59, zwl_60, zwl_61, zwl_63, zwl_64, zwl_66, zwl_67, zwl_68, zwl_70, zwl_75, zwl_77, zwl_80, zwl_82, zwl_84, zwl_88, zwl_89, zwl_97, zwl_104, zwl_110, zwl_112, zwl_114, zwl_118, zwl_123, zwl_125, zwl_126, zwl_159, zwl_160, zwl_200, zwl_255, zwl_480, zwl_960, zwl_3000, zs_kli, zs_klq, zs_kln, zs_wn, zs_wi, zs_wl, zs_wq, ↓zs_ok10, ↓zs_ok11, Option.toList_some, Option.toList_none, List.cons_append, List.nil_append, ↓reduceIte, Nat.reduceAdd, Nat.reduceLeDiff, true_and, and_true, Int.reduceEq, Int.reduceLT, Int.reduceLE, Int.reduceAdd, Int.reduceSub, Int.reduceMul, Int.reduceNeg, Nat.reduceEqDiff, Nat.reduceLT, Nat.reduceBEq, zsI_c, zsI_k, zsI_s, zsR_c, zsR_k, zsR_s]
      exact hK' _ _ _ (by omega) q
    · simp only [zh_39_0, zh_39_1, zh_39_2, zh_39_3, zh_39_6, zh_39_9, zh_39_10, zh_39_13n, zh_39_13, zh_39_16, zh_39_17, zh_39_18, zh_39_19, zh_39_21, zh_39_22, zh_39_25, zh_39_26, zh_39_28, zh_39_31, zh_39_34, zh_39_35, zh_39_36, zh_39_37, zh_39_40, zh_39_43, zh_39_44, zh_39_45, zh_39_48, zh_39_51, zh_39_52, zh_39_54, zh_39_57, zh_39_60, zh_39_61, zh_39_64n, zh_39_64, zh_39_67, zh_39_68, zh_39_71, zh_39_72, zh_39_73, zh_39_74, zh_39_75, zh_39_76, zh_39_79, zh_39_82, zh_39_83, zh_39_86n, zh_39_86, zh_39_89, zh_39_90, zh_39_93, zh_39_94, zwl_m1, zwl_0, zwl_1, zwl_2, zwl_3, zwl_4, zwl_5, zwl_6, zwl_7, zwl_8, zwl_10, zwl_15, zwl_24, zwl_32, zwl_33, zwl_40, zwl_41, zwl_42, zwl_43, zwl_45, zwl_47, zwl_48, zwl_52, zwl_56, zwl_57, zwl_59, zwl_60, zwl_61, zwl_63, zwl_64, zwl_66, zwl_67, zwl_68, zwl_70, zwl_75, zwl_77, zwl_80, zwl_82, zwl_84, zwl_88, zwl_89, zwl_97, zwl_104, zwl_110, zwl_112, zwl_114, zwl_118, zwl_123, zwl_125, zwl_126, zwl_159, zwl_160, zwl_200, zwl_255, zwl_480, zwl_960, zwl_3000, zs_kli, zs_klq, zs_kln, zs_wn, zs_wi, zs_wl, zs_wq, ↓zs_ok10, ↓zs_ok11, Option.toList_some, Option.toList_none, List.cons_append, List.nil_append, ↓reduceIte, Nat.reduceAdd, Nat.reduceLeDiff, true_and, and_true, Int.reduceEq, Int.reduceLT, Int.reduceLE, Int.reduceAdd, Int.reduceSub, Int.reduceMul, Int.reduceNeg, Nat.reduceEqDiff, Nat.reduceLT, Nat.reduceBEq, zsI_c, zsI_k, zsI_s, zsR_c, zsR_k, zsR_s]
      exact q
  have hmlA : ∀ (R : zMR) (al : zA), Kon R → ∀ (d : Nat) (I : zMI) (Q : Option zV → zS → Prop) (root ki : Int), ki = (k : Int) → PM I T n p e s b P → I 11 0 4 = 0 → I 52 0 k = (x : Int) → (∀ I2, FM I I2 k → I2 11 0 4 = 0 → PM I2 T n (p + 1) e (s + 1) b (pNS P s x 89) → RA (d + 5) R al Q root ki (s : Int) 0 I2) → RH (d + 5) R al Q root ki I := fun R al hK d I Q root ki hki hx h4 ho h => by
    refine rh_stmt hK hT hx (by omega) h4 hki hk1 hk4 ho n7 hxb (by omega) (by omega) hne (fun I1 f1 g1 hx1 K' hK' => ?_)
    rw [hc] at hx1
    rw [zcp_97, hc]
    simp only [zh_97_0, zh_97_1, zh_97_3, zh_97_6, zh_97_7, zh_97_9, zh_97_12, zh_97_13, zh_97_16, zh_97_17, zh_97_18, zh_97_20, zh_97_21, zh_97_22, zh_97_23, zh_97_26, zh_97_27, zh_97_29, zh_97_30, zh_97_31, zh_97_33, zh_97_36, zh_97_37, zh_97_38, zh_97_41, zh_97_42, zh_97_44, zh_97_47, zh_97_48, zh_97_49, zh_97_50, zh_97_52, zh_97_55, zh_97_56, zh_97_57, zh_97_60, zh_97_61, zh_97_63, zh_97_66, zh_97_67, zh_97_68, zh_97_69, zh_97_71, zh_97_74, zh_97_75, zh_97_77, zh_97_80, zh_97_81, zh_97_82, zh_97_85, zh_97_86, zh_97_87, zh_97_88, zh_97_90, zh_97_93, zh_97_94, zh_97_97, zh_97_98, zh_97_99, zh_97_102, zh_97_103, zh_97_104, zh_97_105, zh_97_108, zh_97_109, zh_97_111, zh_97_114, zh_97_115, zh_97_116, zh_97_117, zh_97_119, zh_97_122, zh_97_123, zh_97_126, zh_97_127, zh_97_128, zh_97_131, zh_97_132, zh_97_133, zh_97_135, zh_97_138, zh_97_139, zh_97_140, zh_97_141, zh_97_143, zh_97_146, zh_97_147, zh_97_148, zh_97_149, zh_97_150, zh_97_153, zh_97_156, zh_97_157, zh_97_159, zh_97_162, zh_97_163, zh_97_165, zh_97_168, zh_97_169, zh_97_171, zh_97_174, zh_97_175, zh_97_177, zh_97_180, zh_97_181, zh_97_184, zh_97_185, zh_97_188, zh_97_189, zh_97_191, zh_97_194, zh_97_195, zwl_m1, zwl_0, zwl_1, zwl_2, zwl_3, zwl_4, zwl_5, zwl_6, zwl_7, zwl_8, zwl_10, zwl_15, zwl_24, zwl_32, zwl_33, zwl_40, zwl_41, zwl_42, zwl_43, zwl_45, zwl_47, zwl_48, zwl_52, zwl_56, zwl_57, zwl_59, zwl_60, zwl_61, zwl_63, zwl_64, zwl_66, zwl_67, zwl_68, zwl_70, zwl_75, zwl_77, zwl_80, zwl_82, zwl_84, zwl_88, zwl_89, zwl_97, zwl_104, zwl_110, zwl_112, zwl_114, zwl_118, zwl_123, zwl_125, zwl_126, zwl_159, zwl_160, zwl_200, zwl_255, zwl_480, zwl_960, zwl_3000, zs_kli, zs_klq, zs_kln, zs_wn, zs_wi, zs_wl, zs_wq, ↓zs_ok10, ↓zs_ok11, Option.toList_some, Option.toList_none, List.cons_append, List.nil_append, ↓reduceIte, Nat.reduceAdd, Nat.reduceLeDiff, true_and, and_true, Int.reduceEq, Int.reduceLT, Int.reduceLE, Int.reduceAdd, Int.reduceSub, Int.reduceMul, Int.reduceNeg, Nat.reduceEqDiff, Nat.reduceLT, Nat.reduceBEq, zsI_c, zsI_k, zsI_s, zsR_c, zsR_k, zsR_s]
    exact hK' _ _ (h I1 f1 g1 hx1)
  cases o1 with
  | none =>
    refine ⟨none, fun dm p' e' s' b' c' P' h => (by cases h), fun I R al d K hd hx h0 _ => ?_, fun R al hK d I Q root ki hki hx h4 ho h0 _ => ?_⟩
    · refine hclA I R al d K hd hx (fun d' I2 R2 K' K1 hd' hK' hcw _ _ q0 q1 => ?_)
      exact c1' I I2 R R2 al (d' + 1) K1 _ rfl (by unfold Dc at hd' ⊢; omega) hcw (fun _ I' R' f1 f2 => q0 _ _ (h0 rfl I' _ f1 (f2.tr (fun t i k h1 h2 h3 => zsR_n (by omega)) hle hle))) (fun _ _ _ _ _ _ h => by cases h)
    · refine hmlA R al hK d I Q root ki hki hx h4 ho (fun I2 f1 g1 hx2 => ?_)
      exact m1 R al hK d I2 Q root ki (s : Int) 0 hki rfl rfl hx2 g1 (fun _ I' f3 g3 y => h0 (by simp) I' (f1.tr f3) g3 y) (fun _ _ _ _ _ _ h => by cases h)
  | some o1 =>
    obtain ⟨p2, e2, s2, b2, c2, P4⟩ := o1
    obtain ⟨hW2, i1, i2, i3, i4, i5, i6, i7, hKF, -, -⟩ := ok1 p2 e2 s2 b2 c2 P4 rfl
    have w2n : p2 ≤ n := hW2.2.1
    have ws2 : s + 1 ≤ s2 := hW2.2.2.2.2.2.2.2.1
    have wb2 : 2 * b2 + 1 ≤ p2 := hW2.2.2.2.2.1
    have wcc : c ≤ c2 := i6
    obtain ⟨f1', f2', f3', f4', f5', f6', f7'⟩ := id hKF
    have t38 : ∀ i, i < 6 → i ≠ 0 → P4 38 (6 * s + i) = -1 := fun i h1 h2 => (f3' i h1 h2).trans (h38 i h1)
    have hY : YS P4 b2 s 0 := ⟨(f5' 41 (by omega)).trans h41, by omega, f1', t38 1 (by omega) (by omega), fun i hi => by omega, fun i h1 h2 => by
      have e1 : 6 * s + 2 + i = 6 * s + (2 + i) := by omega
      rw [e1]
      exact t38 (2 + i) (by omega) (by omega)⟩
    obtain ⟨o2, ok2, c2', m2⟩ := yl hT hBK hxb hk1 hk4 hsx 3 0 p2 e2 s2 b2 c2 P4 (by omega) hW2 i1 i2 hY (t38 5 (by omega) (by omega))
    refine ⟨o2, ok2, fun I R al d K hd hx h0 h1 => ?_, fun R al hK d I Q root ki hki hx h4 ho h0 h1 => ?_⟩
    · refine hclA I R al d K hd hx (fun d' I2 R2 K' K1 hd' hK' hcw g8 g9 q0 q1 => ?_)
      refine c1' I I2 R R2 al (d' + 1) K1 _ rfl (by unfold Dc at hd' ⊢; omega) hcw (fun h => by cases h) (fun p' e' s' b' c' P' h' I3 R3 hcw3 f3 f4 _ => ?_)
      cases h'
      refine q1 _ _ _ ?_
      refine c2' I I3 R _ al (d' + 2) K' 0 rfl (by omega) (hcw3.r (i := 7) (by omega)) ?_ ?_ ?_ (fun q I' R' f5 f6 => hK' _ _ _ (by omega) (h0 q I' R' f5 f6)) (fun dm p' e' s' b' c' P' q I' R' g => hK' _ _ _ (by omega) (h1 dm p' e' s' b' c' P' q I' R' g))
      · rw [zsR_s, f2', rf_s (by omega), Int.toNat_natCast]
      · rw [zsR_n (by omega), f4.r4 (by omega) 8 (by omega), g8]
      · rw [zsR_n (by omega), f4.r4 (by omega) 9 (by omega)]
        exact g9
    · refine hmlA R al hK d I Q root ki hki hx h4 ho (fun I2 f1 g1 hx2 => ?_)
      refine m1 R al hK d I2 Q root ki (s : Int) 0 hki rfl rfl hx2 g1 (fun h => by cases h) (fun p' e' s' b' c' P' h' I' f3 g3 hx3 => ?_)
      cases h'
      exact m2 R al hK d I' Q root ki b hki (by omega) (by rw [i7]; omega) hx3 g3 (fun q I'' f5 g5 y5 => h0 q I'' (f1.tr (f3.tr f5)) g5 y5) (fun p' e' s' b' c' P' q I'' f5 g5 hx5 => h1 p' e' s' b' c' P' q I'' (f1.tr (f3.tr f5)) g5 hx5)
/-- K begins no statement -/
theorem c_K {I : zMI} {R : zMR} {al : zA} {K : Option zV → zS → Prop} (hT : TX T n) (hx : PC I R T n p e s b c P) (hN : NI n p e s b c k P) (hxb : x < b) (hc : ch T n p = 75) (h0 : ∀ I' R', FS I I' s c → FR R R' s c → K (some (zi 0)) (I', R', al)) : zCp (d + 2) 28 [zq (some (8, 0)), zq (some (3, x))] (I, R, al) K := by
  refine sc_other hT hx hN hxb (by omega) (fun I2 R2 f1 f2 _ _ _ _ _ => ?_)
  rw [hc, zh_28_91]
  simp only [zh_28_0, zh_28_1, zh_28_4, zh_28_5, zh_28_6, zh_28_9, zh_28_12, zh_28_13, zh_28_14n, zh_28_14, zh_28_17, zh_28_18, zh_28_19, zh_28_20, zh_28_21, zh_28_23, zh_28_25, zh_28_28, zh_28_31, zh_28_32, zh_28_35, zh_28_36, zh_28_39, zh_28_40, zh_28_42, zh_28_45, zh_28_46, zh_28_48, zh_28_51, zh_28_54, zh_28_55, zh_28_56, zh_28_59, zh_28_62, zh_28_63, zh_28_65, zh_28_68, zh_28_71, zh_28_72, zh_28_75, zh_28_76, zh_28_77, zh_28_78, zh_28_78q, zh_28_79, zh_28_82, zh_28_83, zh_28_84, zh_28_87, zh_28_88, zh_28_180, zh_28_181, zh_28_182, zh_28_185, zh_28_188, zh_28_189, zh_28_191, zh_28_194, zh_28_197, zh_28_198, zh_28_201, zh_28_202, zh_28_203, zh_28_204, zh_28_205, zh_28_206, zh_28_209, zh_28_210, zh_28_211, zh_28_212, zh_28_213, zh_28_216, zh_28_217, zh_28_218, zh_28_220, zh_28_223, zh_28_224, zh_28_225, zh_28_226, zh_28_228, zh_28_230, zh_28_233, zh_28_236, zh_28_237, zh_28_240, zh_28_241, zh_28_244, zh_28_245, zh_28_246, zh_28_249, zh_28_252, zh_28_253, zh_28_255, zh_28_258, zh_28_261, zh_28_262, zh_28_265, zh_28_266, zh_28_267, zh_28_268, zh_28_269, zh_28_271, zh_28_273, zh_28_276, zh_28_279, zh_28_280, zh_28_283, zh_28_284, zh_28_287, zh_28_288, zh_28_290, zh_28_293, zh_28_296, zh_28_297, zh_28_300, zh_28_301, zh_28_302, zh_28_303, zh_28_304, zh_28_305, zh_28_308, zh_28_309, zh_28_310, zwl_m1, zwl_0, zwl_1, zwl_2, zwl_3, zwl_4, zwl_5, zwl_6, zwl_7, zwl_8, zwl_10, zwl_15, zwl_24, zwl_32, zwl_33, zwl_40, zwl_41, zwl_42, zwl_43, zwl_45, zwl_47, zwl_48, zwl_52, zwl_56, zwl_57, zwl_59, zwl_60, zwl_61, zwl_63, zwl_64, zwl_66, zwl_67, zwl_68, zwl_70, zwl_75, zwl_77, zwl_80, zwl_82, zwl_84, zwl_88, zwl_89, zwl_97, zwl_104, zwl_110, zwl_112, zwl_114, zwl_118, zwl_123, zwl_125, zwl_126, zwl_159, zwl_160, zwl_200, zwl_255, zwl_480, zwl_960, zwl_3000, zs_kli, zs_klq, zs_kln, zs_wn, zs_wi, zs_wl, zs_wq, ↓zs_ok10, ↓zs_ok11, Option.toList_some, Option.toList_none, List.cons_append, List.nil_append, ↓reduceIte, Nat.reduceAdd, Nat.reduceLeDiff, true_and, and_true, Int.reduceEq, Int.reduceLT, Int.reduceLE, Int.reduceAdd, Int.reduceSub, Int.reduceMul, Int.reduceNeg, Nat.reduceEqDiff, Nat.reduceLT, Nat.reduceBEq, zsI_c, zsI_k, zsI_s, zsR_c, zsR_k, zsR_s]
  exact h0 I2 R2 f1 f2
theorem rb_step (hT : TX T n) (hp : p ≤ n) (hS : STS T n p) (hR : ∀ q, p < q → q ≤ n → RBS T n q) : RBS T n p := by
  intro x k e s b c P hxb h100 hk1 hk4 hN
  have hn1 := hT.1
  have hr := ch_r (p := p) hT
  have hle : ∀ {a : Nat}, a ≤ a := Nat.le_refl _
  obtain ⟨n1, n2, n3, n4, n5, n6, n7⟩ := id hN
  by_cases h125 : ch T n p = 125
  · refine ⟨some (p + 1, e, s, b, c, P), fun p' e' s' b' c' P' h => ?_, fun I R al d K l1 l2 l3 nn hd hn0 hns hx _ h1 => ?_, fun R al hK d I Q root ki hki hx h4 ho _ h1 => ?_⟩
    · cases h
      exact ⟨by omega, by omega, by omega, by omega, by omega, by omega, hle, hle, hle, hle, PF.rfl, n6, n7, fun z h1 h2 => by omega, fun y h1 h2 => by omega⟩
    · obtain ⟨d', rfl⟩ : ∃ d', d = d' + 2 := ⟨d - 2, by unfold Dc at hd; omega⟩
      have e1 : zw nn = nn := zw_i (by omega) (by omega)
      have e2 : ¬ 80 < nn := by omega
      rw [zh_26_38]
      simp only [zh_26_0, zh_26_1, zh_26_2, zh_26_5, zh_26_6, zh_26_8, zh_26_11, zh_26_14, zh_26_15, zh_26_16, zh_26_17, zh_26_20, zh_26_21, zh_26_22, zh_26_23, zh_26_26, zh_26_28, zh_26_30n, zh_26_30, zh_26_33, zh_26_34, zh_26_35, zh_26_36, zh_26_40, zh_26_42, zh_26_45, zh_26_46, zh_26_48, zh_26_51, zh_26_54, zh_26_56, zh_26_57, zh_26_58, zh_26_60, zh_26_63, zh_26_66, zh_26_67, zh_26_68, zh_26_71, zh_26_74, zh_26_75, zwl_m1, zwl_0, zwl_1, zwl_2, zwl_3, zwl_4, zwl_5, zwl_6, zwl_7, zwl_8, zwl_10, zwl_15, zwl_24, zwl_32, zwl_33, zwl_40, zwl_41, zwl_42, zwl_43, zwl_45, zwl_47, zwl_48, zwl_52, zwl_56, zwl_57, zwl_59, zwl_60, zwl_61, zwl_63, zwl_64, zwl_66, zwl_67, zwl_68, zwl_70, zwl_75, zwl_77, zwl_80, zwl_82, zwl_84, zwl_88, zwl_89, zwl_97, zwl_104, zwl_110, zwl_112, zwl_114, zwl_118, zwl_123, zwl_125, zwl_126, zwl_159, zwl_160, zwl_200, zwl_255, zwl_480, zwl_960, zwl_3000, zs_kli, zs_klq, zs_kln, zs_wn, zs_wi, zs_wl, zs_wq, ↓zs_ok10, ↓zs_ok11, Option.toList_some, Option.toList_none, List.cons_append, List.nil_append, ↓reduceIte, Nat.reduceAdd, Nat.reduceLeDiff, true_and, and_true, Int.reduceEq, Int.reduceLT, Int.reduceLE, Int.reduceAdd, Int.reduceSub, Int.reduceMul, Int.reduceNeg, Nat.reduceEqDiff, Nat.reduceLT, Nat.reduceBEq, zsI_c, zsI_k, zsI_s, zsR_c, zsR_k, zsR_s, e1, e2]
      refine ct_take hx.2.1 hT hx.1.1 (by omega) (by omega) (fun _ => ?_) (fun q => absurd h125 q)
      simp only [zh_26_0, zh_26_1, zh_26_2, zh_26_5, zh_26_6, zh_26_8, zh_26_11, zh_26_14, zh_26_15, zh_26_16, zh_26_17, zh_26_20, zh_26_21, zh_26_22, zh_26_23, zh_26_26, zh_26_28, zh_26_30n, zh_26_30, zh_26_33, zh_26_34, zh_26_35, zh_26_36, zh_26_40, zh_26_42, zh_26_45, zh_26_46, zh_26_48, zh_26_51, zh_26_54, zh_26_56, zh_26_57, zh_26_58, zh_26_60, zh_26_63, zh_26_66, zh_26_67, zh_26_68, zh_26_71, zh_26_74, zh_26_75, zwl_m1, zwl_0, zwl_1, zwl_2, zwl_3, zwl_4, zwl_5, zwl_6, zwl_7, zwl_8, zwl_10, zwl_15, zwl_24, zwl_32, zwl_33, zwl_40, zwl_41, zwl_42, zwl_43, zwl_45, zwl_47, zwl_48, zwl_52, zwl_56, zwl_57, zwl_59, zwl_60, zwl_61, zwl_63, zwl_64, zwl_66, zwl_67, zwl_68, zwl_70, zwl_75, zwl_77, zwl_80, zwl_82, zwl_84, zwl_88, zwl_89, zwl_97, zwl_104, zwl_110, zwl_112, zwl_114, zwl_118, zwl_123, zwl_125, zwl_126, zwl_159, zwl_160, zwl_200, zwl_255, zwl_480, zwl_960, zwl_3000, zs_kli, zs_klq, zs_kln, zs_wn, zs_wi, zs_wl, zs_wq, ↓zs_ok10, ↓zs_ok11, Option.toList_some, Option.toList_none, List.cons_append, List.nil_append, ↓reduceIte, Nat.reduceAdd, Nat.reduceLeDiff, true_and, and_true, Int.reduceEq, Int.reduceLT, Int.reduceLE, Int.reduceAdd, Int.reduceSub, Int.reduceMul, Int.reduceNeg, Nat.reduceEqDiff, Nat.reduceLT, Nat.reduceBEq, zsI_c, zsI_k, zsI_s, zsR_c, zsR_k, zsR_s]
      exact h1 _ _ _ _ _ _ rfl _ _ ⟨fun t i k h1 h2 h3 h4 h5 h6 h7 h8 => zsI_n (by omega), FR.rfl, hx.at rfl, fun z h1 h2 => by omega⟩
    · refine rh_end (d := d + 3) hK hT hx (by omega) h4 hki hk1 hk4 ho (by omega) h125 ?_
      exact h1 _ _ _ _ _ _ rfl _ (FM.rfl.set (by omega)) (by rw [zsI_ne (by omega)]; exact h4) (hx.at rfl)
  · obtain ⟨o1, ok1, c1', m1⟩ := hS x k e s b c P hxb h100 hk1 hk4 hN h125
    have hcl : ∀ (I : zMI) (R : zMR) (al : zA) (d : Nat) (K : Option zV → zS → Prop) (l1 l2 l3 : Option zV) (nn : Int), Dc k ≤ d → 0 ≤ nn → nn ≤ (s : Int) → PC I R T n p e s b c P → (∀ K' : Option zV → zS → Prop, (∀ I' R', K (some (zq none)) (I', R', al) → K' (some (zi 0)) (I', R', al)) → (∀ I' R', Zgo d 26 38 [some (zq (some (8, 0))), l1, l2, l3, some (zq (some (3, x))), some (zi (nn + 1))] [] (I', R', al) K → K' (some (zi 1)) (I', R', al)) → zCp d 28 [zq (some (8, 0)), zq (some (3, x))] (I, R, al) K') → Zgo d 26 38 [some (zq (some (8, 0))), l1, l2, l3, some (zq (some (3, x))), some (zi nn)] [] (I, R, al) K := fun I R al d K l1 l2 l3 nn hd hn0 hns hx h => by
      obtain ⟨d', rfl⟩ : ∃ d', d = d' + 2 := ⟨d - 2, by unfold Dc at hd; omega⟩
      have e1 : zw nn = nn := zw_i (by omega) (by omega)
      have e2 : ¬ 80 < nn := by omega
      rw [zh_26_38]
      simp only [zh_26_0, zh_26_1, zh_26_2, zh_26_5, zh_26_6, zh_26_8, zh_26_11, zh_26_14, zh_26_15, zh_26_16, zh_26_17, zh_26_20, zh_26_21, zh_26_22, zh_26_23, zh_26_26, zh_26_28, zh_26_30n, zh_26_30, zh_26_33, zh_26_34, zh_26_35, zh_26_36, zh_26_40, zh_26_42, zh_26_45, zh_26_46, zh_26_48, zh_26_51, zh_26_54, zh_26_56, zh_26_57, zh_26_58, zh_26_60, zh_26_63, zh_26_66, zh_26_67, zh_26_68, zh_26_71, zh_26_74, zh_26_75, zwl_m1, zwl_0, zwl_1, zwl_2, zwl_3, zwl_4, zwl_5, zwl_6, zwl_7, zwl_8, zwl_10, zwl_15, zwl_24, zwl_32, zwl_33, zwl_40, zwl_41, zwl_42, zwl_43, zwl_45, zwl_47, zwl_48, zwl_52, zwl_56, zwl_57, zwl_59, zwl_60, zwl_61, zwl_63, zwl_64, zwl_66, zwl_67, zwl_68, zwl_70, zwl_75, zwl_77, zwl_80, zwl_82, zwl_84, zwl_88, zwl_89, zwl_97, zwl_104, zwl_110, zwl_112, zwl_114, zwl_118, zwl_123, zwl_125, zwl_126, zwl_159, zwl_160, zwl_200, zwl_255, zwl_480, zwl_960, zwl_3000, zs_kli, zs_klq, zs_kln, zs_wn, zs_wi, zs_wl, zs_wq, ↓zs_ok10, ↓zs_ok11, Option.toList_some, Option.toList_none, List.cons_append, List.nil_append, ↓reduceIte, Nat.reduceAdd, Nat.reduceLeDiff, true_and, and_true, Int.reduceEq, Int.reduceLT, Int.reduceLE, Int.reduceAdd, Int.reduceSub, Int.reduceMul, Int.reduceNeg, Nat.reduceEqDiff, Nat.reduceLT, Nat.reduceBEq, zsI_c, zsI_k, zsI_s, zsR_c, zsR_k, zsR_s, e1, e2]
      refine ct_take hx.2.1 hT hx.1.1 (by omega) (by omega) (fun q => absurd q h125) (fun _ => ?_)
      simp only [zh_26_0, zh_26_1, zh_26_2, zh_26_5, zh_26_6, zh_26_8, zh_26_11, zh_26_14, zh_26_15, zh_26_16, zh_26_17, zh_26_20, zh_26_21, zh_26_22, zh_26_23, zh_26_26, zh_26_28, zh_26_30n, zh_26_30, zh_26_33, zh_26_34, zh_26_35, zh_26_36, zh_26_40, zh_26_42, zh_26_45, zh_26_46, zh_26_48, zh_26_51, zh_26_54, zh_26_56, zh_26_57, zh_26_58, zh_26_60, zh_26_63, zh_26_66, zh_26_67, zh_26_68, zh_26_71, zh_26_74, zh_26_75, zwl_m1, zwl_0, zwl_1, zwl_2, zwl_3, zwl_4, zwl_5, zwl_6, zwl_7, zwl_8, zwl_10, zwl_15, zwl_24, zwl_32, zwl_33, zwl_40, zwl_41, zwl_42, zwl_43, zwl_45, zwl_47, zwl_48, zwl_52, zwl_56, zwl_57, zwl_59, zwl_60, zwl_61, zwl_63, zwl_64, zwl_66, zwl_67, zwl_68, zwl_70, zwl_75, zwl_77, zwl_80, zwl_82, zwl_84, zwl_88, zwl_89, zwl_97, zwl_104, zwl_110, zwl_112, zwl_114, zwl_118, zwl_123, zwl_125, zwl_126, zwl_159, zwl_160, zwl_200, zwl_255, zwl_480, zwl_960, zwl_3000, zs_kli, zs_klq, zs_kln, zs_wn, zs_wi, zs_wl, zs_wq, ↓zs_ok10, ↓zs_ok11, Option.toList_some, Option.toList_none, List.cons_append, List.nil_append, ↓reduceIte, Nat.reduceAdd, Nat.reduceLeDiff, true_and, and_true, Int.reduceEq, Int.reduceLT, Int.reduceLE, Int.reduceAdd, Int.reduceSub, Int.reduceMul, Int.reduceNeg, Nat.reduceEqDiff, Nat.reduceLT, Nat.reduceBEq, zsI_c, zsI_k, zsI_s, zsR_c, zsR_k, zsR_s]
      refine h _ (fun I' R' q => ?_) (fun I' R' q => ?_)
      · simp only [zh_26_0, zh_26_1, zh_26_2, zh_26_5, zh_26_6, zh_26_8, zh_26_11, zh_26_14, zh_26_15, zh_26_16, zh_26_17, zh_26_20, zh_26_21, zh_26_22, zh_26_23, zh_26_26, zh_26_28, zh_26_30n, zh_26_30, zh_26_33, zh_26_34, zh_26_35, zh_26_36, zh_26_40, zh_26_42, zh_26_45, zh_26_46, zh_26_48, zh_26_51, zh_26_54, zh_26_56, zh_26_57, zh_26_58, zh_26_60, zh_26_63, zh_26_66, zh_26_67, zh_26_68, zh_26_71, zh_26_74, zh_26_75, zwl_m1, zwl_0, zwl_1, zwl_2, zwl_3, zwl_4, zwl_5, zwl_6, zwl_7, zwl_8, zwl_10, zwl_15, zwl_24, zwl_32, zwl_33, zwl_40, zwl_41, zwl_42, zwl_43, zwl_45, zwl_47, zwl_48, zwl_52, zwl_56, zwl_57, zwl_59, zwl_60, zwl_61, zwl_63, zwl_64, zwl_66, zwl_67, zwl_68, zwl_70, zwl_75, zwl_77, zwl_80, zwl_82, zwl_84, zwl_88, zwl_89, zwl_97, zwl_104, zwl_110, zwl_112, zwl_114, zwl_118, zwl_123, zwl_125, zwl_126, zwl_159, zwl_160, zwl_200, zwl_255, zwl_480, zwl_960, zwl_3000, zs_kli, zs_klq, zs_kln, zs_wn, zs_wi, zs_wl, zs_wq, ↓zs_ok10, ↓zs_ok11, Option.toList_some, Option.toList_none, List.cons_append, List.nil_append, ↓reduceIte, Nat.reduceAdd, Nat.reduceLeDiff, true_and, and_true, Int.reduceEq, Int.reduceLT, Int.reduceLE, Int.reduceAdd, Int.reduceSub, Int.reduceMul, Int.reduceNeg, Nat.reduceEqDiff, Nat.reduceLT, Nat.reduceBEq, zsI_c, zsI_k, zsI_s, zsR_c, zsR_k, zsR_s]
        exact q
      · simp only [zh_26_0, zh_26_1, zh_26_2, zh_26_5, zh_26_6, zh_26_8, zh_26_11, zh_26_14, zh_26_15, zh_26_16, zh_26_17, zh_26_20, zh_26_21, zh_26_22, zh_26_23, zh_26_26, zh_26_28, zh_26_30n, zh_26_30, zh_26_33, zh_26_34, zh_26_35, zh_26_36, zh_26_40, zh_26_42, zh_26_45, zh_26_46, zh_26_48, zh_26_51, zh_26_54, zh_26_56, zh_26_57, zh_26_58, zh_26_60, zh_26_63, zh_26_66, zh_26_67, zh_26_68, zh_26_71, zh_26_74, zh_26_75, zwl_m1, zwl_0, zwl_1, zwl_2, zwl_3, zwl_4, zwl_5, zwl_6, zwl_7, zwl_8, zwl_10, zwl_15, zwl_24, zwl_32, zwl_33, zwl_40, zwl_41, zwl_42, zwl_43, zwl_45, zwl_47, zwl_48, zwl_52, zwl_56, zwl_57, zwl_59, zwl_60, zwl_61, zwl_63, zwl_64, zwl_66, zwl_67, zwl_68, zwl_70, zwl_75, zwl_77, zwl_80, zwl_82, zwl_84, zwl_88, zwl_89, zwl_97, zwl_104, zwl_110, zwl_112, zwl_114, zwl_118, zwl_123, zwl_125, zwl_126, zwl_159, zwl_160, zwl_200, zwl_255, zwl_480, zwl_960, zwl_3000, zs_kli, zs_klq, zs_kln, zs_wn, zs_wi, zs_wl, zs_wq, ↓zs_ok10, ↓zs_ok11, Option.toList_some, Option.toList_none, List.cons_append, List.nil_append, ↓reduceIte, Nat.reduceAdd, Nat.reduceLeDiff, true_and, and_true, Int.reduceEq, Int.reduceLT, Int.reduceLE, Int.reduceAdd, Int.reduceSub, Int.reduceMul, Int.reduceNeg, Nat.reduceEqDiff, Nat.reduceLT, Nat.reduceBEq, zsI_c, zsI_k, zsI_s, zsR_c, zsR_k, zsR_s]
        exact q
    cases o1 with
    | none =>
      refine ⟨none, fun p' e' s' b' c' P' h => (by cases h), fun I R al d K l1 l2 l3 nn hd hn0 hns hx h0 _ => ?_, fun R al hK d I Q root ki hki hx h4 ho h0 _ => ?_⟩
      · exact hcl I R al d K l1 l2 l3 nn hd hn0 hns hx (fun K' k0 k1 => c1' I R al d K' hd hx (fun _ I' R' f1 f2 => k0 _ _ (h0 rfl I' R' f1 f2)) (fun _ _ _ _ _ _ _ h => by cases h))
      · exact m1 R al hK d I Q root ki hki hx h4 ho (fun _ I' f g y => h0 rfl I' f g y) (fun _ _ _ _ _ _ h => by cases h)
    | some o1 =>
      obtain ⟨dm, p1, e1, s1, b1, c1, P1⟩ := o1
      obtain ⟨hP, hdm, hs1⟩ := ok1 dm p1 e1 s1 b1 c1 P1 rfl
      obtain ⟨a1, a2, a3, a4, a5, a6, a7, a8, a9, a10, a11, a12, a13, a14⟩ := id hP
      have hN1 : NI n p1 e1 s1 b1 c1 k P1 := ⟨a2, a3, a4, by omega, by omega, a12, a13⟩
      cases dm with
      | true =>
        have h75 := hdm rfl
        refine ⟨none, fun p' e' s' b' c' P' h => (by cases h), fun I R al d K l1 l2 l3 nn hd hn0 hns hx h0 _ => ?_, fun R al hK d I Q root ki hki hx h4 ho h0 _ => ?_⟩
        · refine hcl I R al d K l1 l2 l3 nn hd hn0 hns hx (fun K' k0 k1 => c1' I R al d K' hd hx (fun h => by cases h) (fun dm' p' e' s' b' c' P' h I' R' hco => k1 _ _ ?_))
          cases h
          obtain ⟨d', rfl⟩ : ∃ d', d = d' + 2 := ⟨d - 2, by unfold Dc at hd; omega⟩
          have hx1 := hco.2.2.1
          have e1' : zw (nn + 1) = nn + 1 := zw_i (by omega) (by omega)
          have e2' : ¬ 80 < nn + 1 := by omega
          rw [zh_26_38]
          simp only [zh_26_0, zh_26_1, zh_26_2, zh_26_5, zh_26_6, zh_26_8, zh_26_11, zh_26_14, zh_26_15, zh_26_16, zh_26_17, zh_26_20, zh_26_21, zh_26_22, zh_26_23, zh_26_26, zh_26_28, zh_26_30n, zh_26_30, zh_26_33, zh_26_34, zh_26_35, zh_26_36, zh_26_40, zh_26_42, zh_26_45, zh_26_46, zh_26_48, zh_26_51, zh_26_54, zh_26_56, zh_26_57, zh_26_58, zh_26_60, zh_26_63, zh_26_66, zh_26_67, zh_26_68, zh_26_71, zh_26_74, zh_26_75, zwl_m1, zwl_0, zwl_1, zwl_2, zwl_3, zwl_4, zwl_5, zwl_6, zwl_7, zwl_8, zwl_10, zwl_15, zwl_24, zwl_32, zwl_33, zwl_40, zwl_41, zwl_42, zwl_43, zwl_45, zwl_47, zwl_48, zwl_52, zwl_56, zwl_57, zwl_59, zwl_60, zwl_61, zwl_63, zwl_64, zwl_66, zwl_67, zwl_68, zwl_70, zwl_75, zwl_77, zwl_80, zwl_82, zwl_84, zwl_88, zwl_89, zwl_97, zwl_104, zwl_110, zwl_112, zwl_114, zwl_118, zwl_123, zwl_125, zwl_126, zwl_159, zwl_160, zwl_200, zwl_255, zwl_480, zwl_960, zwl_3000, zs_kli, zs_klq, zs_kln, zs_wn, zs_wi, zs_wl, zs_wq, ↓zs_ok10, ↓zs_ok11, Option.toList_some, Option.toList_none, List.cons_append, List.nil_append, ↓reduceIte, Nat.reduceAdd, Nat.reduceLeDiff, true_and, and_true, Int.reduceEq, Int.reduceLT, Int.reduceLE, Int.reduceAdd, Int.reduceSub, Int.reduceMul, Int.reduceNeg, Nat.reduceEqDiff, Nat.reduceLT, Nat.reduceBEq, zsI_c, zsI_k, zsI_s, zsR_c, zsR_k, zsR_s, e1', e2']
          refine ct_take hx1.2.1 hT hx1.1.1 (by omega) (by omega) (fun q => by omega) (fun _ => ?_)
          simp only [zh_26_0, zh_26_1, zh_26_2, zh_26_5, zh_26_6, zh_26_8, zh_26_11, zh_26_14, zh_26_15, zh_26_16, zh_26_17, zh_26_20, zh_26_21, zh_26_22, zh_26_23, zh_26_26, zh_26_28, zh_26_30n, zh_26_30, zh_26_33, zh_26_34, zh_26_35, zh_26_36, zh_26_40, zh_26_42, zh_26_45, zh_26_46, zh_26_48, zh_26_51, zh_26_54, zh_26_56, zh_26_57, zh_26_58, zh_26_60, zh_26_63, zh_26_66, zh_26_67, zh_26_68, zh_26_71, zh_26_74, zh_26_75, zwl_m1, zwl_0, zwl_1, zwl_2, zwl_3, zwl_4, zwl_5, zwl_6, zwl_7, zwl_8, zwl_10, zwl_15, zwl_24, zwl_32, zwl_33, zwl_40, zwl_41, zwl_42, zwl_43, zwl_45, zwl_47, zwl_48, zwl_52, zwl_56, zwl_57, zwl_59, zwl_60, zwl_61, zwl_63, zwl_64, zwl_66, zwl_67, zwl_68, zwl_70, zwl_75, zwl_77, zwl_80, zwl_82, zwl_84, zwl_88, zwl_89, zwl_97, zwl_104, zwl_110, zwl_112, zwl_114, zwl_118, zwl_123, zwl_125, zwl_126, zwl_159, zwl_160, zwl_200, zwl_255, zwl_480, zwl_960, zwl_3000, zs_kli, zs_klq, zs_kln, zs_wn, zs_wi, zs_wl, zs_wq, ↓zs_ok10, ↓zs_ok11, Option.toList_some, Option.toList_none, List.cons_append, List.nil_append, ↓reduceIte, Nat.reduceAdd, Nat.reduceLeDiff, true_and, and_true, Int.reduceEq, Int.reduceLT, Int.reduceLE, Int.reduceAdd, Int.reduceSub, Int.reduceMul, Int.reduceNeg, Nat.reduceEqDiff, Nat.reduceLT, Nat.reduceBEq, zsI_c, zsI_k, zsI_s, zsR_c, zsR_k, zsR_s]
          refine c_K hT hx1 hN1 (by omega) h75 (fun I2 R2 f1 f2 => ?_)
          simp only [zh_26_0, zh_26_1, zh_26_2, zh_26_5, zh_26_6, zh_26_8, zh_26_11, zh_26_14, zh_26_15, zh_26_16, zh_26_17, zh_26_20, zh_26_21, zh_26_22, zh_26_23, zh_26_26, zh_26_28, zh_26_30n, zh_26_30, zh_26_33, zh_26_34, zh_26_35, zh_26_36, zh_26_40, zh_26_42, zh_26_45, zh_26_46, zh_26_48, zh_26_51, zh_26_54, zh_26_56, zh_26_57, zh_26_58, zh_26_60, zh_26_63, zh_26_66, zh_26_67, zh_26_68, zh_26_71, zh_26_74, zh_26_75, zwl_m1, zwl_0, zwl_1, zwl_2, zwl_3, zwl_4, zwl_5, zwl_6, zwl_7, zwl_8, zwl_10, zwl_15, zwl_24, zwl_32, zwl_33, zwl_40, zwl_41, zwl_42, zwl_43, zwl_45, zwl_47, zwl_48, zwl_52, zwl_56, zwl_57, zwl_59, zwl_60, zwl_61, zwl_63, zwl_64, zwl_66, zwl_67, zwl_68, zwl_70, zwl_75, zwl_77, zwl_80, zwl_82, zwl_84, zwl_88, zwl_89, zwl_97, zwl_104, zwl_110, zwl_112, zwl_114, zwl_118, zwl_123, zwl_125, zwl_126, zwl_159, zwl_160, zwl_200, zwl_255, zwl_480, zwl_960, zwl_3000, zs_kli, zs_klq, zs_kln, zs_wn, zs_wi, zs_wl, zs_wq, ↓zs_ok10, ↓zs_ok11, Option.toList_some, Option.toList_none, List.cons_append, List.nil_append, ↓reduceIte, Nat.reduceAdd, Nat.reduceLeDiff, true_and, and_true, Int.reduceEq, Int.reduceLT, Int.reduceLE, Int.reduceAdd, Int.reduceSub, Int.reduceMul, Int.reduceNeg, Nat.reduceEqDiff, Nat.reduceLT, Nat.reduceBEq, zsI_c, zsI_k, zsI_s, zsR_c, zsR_k, zsR_s]
          exact h0 rfl I2 R2 (hco.1.tr f1 a8 a10) (hco.2.1.tr f2 a8 a10)
        · exact m1 R al hK d I Q root ki hki hx h4 ho (fun _ I' f g y => h0 rfl I' f g y) (fun _ _ _ _ _ _ h => by cases h)
      | false =>
        obtain ⟨o2, ok2, c2', m2⟩ := hR p1 a1 a2 x k e1 s1 b1 c1 P1 (by omega) ((a11.2.2.2.1 100 x hxb (by omega)).trans h100) hk1 hk4 hN1
        refine ⟨o2, fun p' e' s' b' c' P' h => hP.tr (ok2 p' e' s' b' c' P' h), fun I R al d K l1 l2 l3 nn hd hn0 hns hx h0 h1 => ?_, fun R al hK d I Q root ki hki hx h4 ho h0 h1 => ?_⟩
        · refine hcl I R al d K l1 l2 l3 nn hd hn0 hns hx (fun K' k0 k1 => c1' I R al d K' hd hx (fun h => by cases h) (fun dm' p' e' s' b' c' P' h I' R' hco => k1 _ _ ?_))
          cases h
          exact c2' I' R' al d K l1 l2 l3 (nn + 1) hd (by omega) (by omega) hco.2.2.1 (fun q I2 R2 f1 f2 => h0 q I2 R2 (hco.1.tr f1 a8 a10) (hco.2.1.tr f2 a8 a10)) (fun p' e' s' b' c' P' q I2 R2 hco2 => h1 p' e' s' b' c' P' q I2 R2 (hco.tr hco2 hP (ok2 _ _ _ _ _ _ q)))
        · refine m1 R al hK d I Q root ki hki hx h4 ho (fun q => absurd rfl (q _ _ _ _ _ _)) (fun p' e' s' b' c' P' h I' f g hx' => ?_)
          cases h
          have e47 : P1 47 x = P 47 x := a11.2.2.2.1 47 x hxb (by omega)
          rw [e47] at m2
          exact m2 R al hK d I' Q root ki hki hx' g (by rw [f 52 0 k (by omega) (by omega)]; exact ho) (fun q I2 f2 g2 y2 => h0 q I2 (f.tr f2) g2 y2) (fun p' e' s' b' c' P' q I2 f2 g2 hx2 => h1 p' e' s' b' c' P' q I2 (f.tr f2) g2 hx2)
theorem rb_all (hT : TX T n) (m : Nat) : ∀ p, p ≤ n → n - p < m → RBS T n p := by
  induction m with
  | zero => intro p _ h; omega
  | succ m ih =>
    intro p hp hm
    have hup : ∀ q, p < q → q ≤ n → RBS T n q := fun q h1 h2 => ih q h2 (by omega)
    have hBK : ∀ q, p < q → q ≤ n → BKS T n q := fun q h1 h2 => bk_step hT (fun h => hup (q + 1) (by omega) (by omega))
    refine rb_step hT hp ?_ hup
    by_cases h97 : 97 ≤ ch T n p ∧ ch T n p ≤ 104
    · exact st_asg hT h97.1 h97.2
    by_cases h33 : ch T n p = 33
    · exact st_bang hT h33
    by_cases h63 : ch T n p = 63
    · exact st_if hT h63 hBK
    by_cases h64 : ch T n p = 64
    · exact st_loop hT h64 hBK
    by_cases h66 : ch T n p = 66
    · exact st_simple hT h66 (by omega)
    by_cases h67 : ch T n p = 67
    · exact st_simple hT h67 (by omega)
    by_cases h80 : ch T n p = 80
    · exact st_call hT h80
    by_cases h82 : ch T n p = 82
    · exact st_simple hT h82 (by omega)
    by_cases h84 : ch T n p = 84
    · exact st_T hT h84
    by_cases h88 : ch T n p = 88
    · exact st_simple hT h88 (by omega)
    by_cases h89 : ch T n p = 89
    · exact st_try hT h89 hBK
    exact st_else hT h97 h33 h63 h64 h66 h67 h80 h82 h84 h88 h89
end
