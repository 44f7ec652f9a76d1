/-! @ -/
section
variable {n p : Nat} {T : Nat → Int}
theorem st_loop (hT : TX T n) (hc : ch T n p = 64) (hBK : ∀ q, p < q → q ≤ n → BKS T n q) : STS T n p := by
  intro x k e s b c P hxb h100 hk1 hk4 hN hne
  have hn1 := hT.1
  have hr := ch_r (p := p) hT
  obtain ⟨n1, n2, n3, n4, n5, n6, n7⟩ := id hN
  have e34 : pNS P s x (ch T n p) 34 s = 64 := by rw [pNS_34 hN hxb, hc]
  have hzk : ∀ ki : Int, ki = (k : Int) → zw ki = ki := fun ki h => zw_i (by omega) (by omega)
  have hsx : s < 160 := by omega
  obtain ⟨o, ok, hcx, hmx⟩ := xs_ex (p := p + 1) (e := e) hT (by omega) (by omega) s (pNS P s x (ch T n p))
  have hle : ∀ {a : Nat}, a ≤ a := Nat.le_refl _
  cases o with
  | none =>
    refine ⟨none, fun dm p' e' s' b' c' P' h => (by cases h), fun I R al d K hd hx h0 _ => ?_, fun R al hK d I Q root ki hki hx h4 ho h0 _ => ?_⟩
    · obtain ⟨d', rfl⟩ : ∃ d', d = d' + 3 := ⟨d - 3, by unfold Dc at hd; omega⟩
      refine sc_blk (y := 38) hT hx hN hxb (Or.inr (Or.inl ⟨hc, rfl⟩)) (fun I2 R2 f1 f2 hx2 _ _ _ K' hK' => ?_)
      rw [zcp_38]
      simp only [zh_38_0, zh_38_1, zh_38_2, zh_38_5, zh_38_8, zh_38_9, zh_38_10, zh_38_11, zh_38_12, zh_38_13, zh_38_16, zh_38_17, zh_38_18, zh_38_19, zh_38_20, zh_38_23, zh_38_26, zh_38_29, zh_38_30, zh_38_33n, zh_38_33, zh_38_36, zh_38_37, zh_38_40, zh_38_41, zwl_m1, zwl_0, zwl_1, zwl_2, zwl_3, zwl_4, zwl_5, zwl_6, zwl_7, zwl_8, zwl_10, zwl_15, zwl_24, zwl_32, zwl_33, zwl_40, zwl_41, zwl_42, zwl_43, zwl_45, zwl_47, zwl_48, zwl_52, zwl_56, zwl_57, zwl_59, zwl_60, zwl_61, zwl_63, zwl_64, zwl_66, zwl_67, zwl_68, zwl_70, zwl_75, zwl_77, zwl_80, zwl_82, zwl_84, zwl_88, zwl_89, zwl_97, zwl_104, zwl_110, zwl_112, zwl_114, zwl_118, zwl_123, zwl_125, zwl_126, zwl_159, zwl_160, zwl_200, zwl_255, zwl_480, zwl_960, zwl_3000, zs_kli, zs_klq, zs_kln, zs_wn, zs_wi, zs_wl, zs_wq, ↓zs_ok10, ↓zs_ok11, Option.toList_some, Option.toList_none, List.cons_append, List.nil_append, ↓reduceIte, Nat.reduceAdd, Nat.reduceLeDiff, true_and, and_true, Int.reduceEq, Int.reduceLT, Int.reduceLE, Int.reduceAdd, Int.reduceSub, Int.reduceMul, Int.reduceNeg, Nat.reduceEqDiff, Nat.reduceLT, Nat.reduceBEq, zsI_c, zsI_k, zsI_s, zsR_c, zsR_k, zsR_s]
      refine hcx R2 al d' I2 _ (s + 1) b c (by unfold Dc at hd; unfold Dx; omega) hx2 (fun _ I' f3 => ?_) (fun _ _ _ h => by cases h)
      simp only [zh_38_0, zh_38_1, zh_38_2, zh_38_5, zh_38_8, zh_38_9, zh_38_10, zh_38_11, zh_38_12, zh_38_13, zh_38_16, zh_38_17, zh_38_18, zh_38_19, zh_38_20, zh_38_23, zh_38_26, zh_38_29, zh_38_30, zh_38_33n, zh_38_33, zh_38_36, zh_38_37, zh_38_40, zh_38_41, zwl_m1, zwl_0, zwl_1, zwl_2, zwl_3, zwl_4, zwl_5, zwl_6, zwl_7, zwl_8, zwl_10, zwl_15, zwl_24, zwl_32, zwl_33, zwl_40, zwl_41, zwl_42, zwl_43, zwl_45, zwl_47, zwl_48, zwl_52, zwl_56, zwl_57, zwl_59, zwl_60, zwl_61, zwl_63, zwl_64, zwl_66, zwl_67, zwl_68, zwl_70, zwl_75, zwl_77, zwl_80, zwl_82, zwl_84, zwl_88, zwl_89, zwl_97, zwl_104, zwl_110, zwl_112, zwl_114, zwl_118, zwl_123, zwl_125, zwl_126, zwl_159, zwl_160, zwl_200, zwl_255, zwl_480, zwl_960, zwl_3000, zs_kli, zs_klq, zs_kln, zs_wn, zs_wi, zs_wl, zs_wq, ↓zs_ok10, ↓zs_ok11, Option.toList_some, Option.toList_none, List.cons_append, List.nil_append, ↓reduceIte, Nat.reduceAdd, Nat.reduceLeDiff, true_and, and_true, Int.reduceEq, Int.reduceLT, Int.reduceLE, Int.reduceAdd, Int.reduceSub, Int.reduceMul, Int.reduceNeg, Nat.reduceEqDiff, Nat.reduceLT, Nat.reduceBEq, zsI_c, zsI_k, zsI_s, zsR_c, zsR_k, zsR_s]
      exact hK' _ _ _ (by omega) (h0 rfl I' R2 (f1.tr f3 hle hle) f2)
    · refine sm_xb (q := 0) hT hK hx hN hxb h4 hki hk1 hk4 ho (Or.inr hc) (fun I2 K1 f1 g1 hx2 k1 => ?_)
      exact hmx R al hK d I2 K1 (s + 1) b k (s : Int) rfl hsx hx2 g1 (fun _ I' f3 g3 ba => k1 I' (ra_bad g3 (hzk ki hki) (by decide +kernel) (h0 (by simp) I' (f1.tr f3) g3 ba.bb))) (fun _ _ _ h => by cases h)
  | some o =>
    obtain ⟨p1, e1, P2⟩ := o
    obtain ⟨k1, k2, k3, k4, k5, k6, k7, k8⟩ := ok p1 e1 P2 rfl
    obtain ⟨hW, h38, h41⟩ := pw_start (kd := ch T n p) (p1 := p1) (e1 := e1) (P' := P2) hN hxb h100 (fun t j h1 h2 => k8 t j h2 h1) (by omega) k2 (by omega) (by omega)
    rw [hc] at hW
    obtain ⟨o1, ok1, c1', m1⟩ := kb_ex (j := 0) (il := 1) (tk := P2 102 x) hT (hBK p1 (by omega) k2) hW hxb hk1 hk4 (by omega) (h38 0 (by omega)) (by omega) (by rw [if_pos rfl]) (by rw [if_neg (by omega)])
    have w17 : P2 100 x = (k : Int) := hW.2.2.2.2.2.2.2.2.2.2.2.2.2.2.2.2
    have hclA : ∀ (I : zMI) (R : zMR) (al : zA) (d : Nat) (K : Option zV → zS → Prop), Dc k ≤ d → PC I R T n p e s b c P → (∀ (d' : Nat) (I2 : zMI) (R2 : zMR) (K1 : Option zV → zS → Prop), Dc k ≤ d' + 3 → CW I I2 R R2 T n s c p1 e1 (s + 1) b c P2 → I2 4 s 2 = (e : Int) → I2 4 s 3 = (e1 : Int) → R2 4 s 8 = none → (∀ I' R', K (some (zi 0)) (I', zsR R' 4 s 7 none, al) → K1 (some (zq none)) (I', R', al)) → (∀ v I' R', K (some (zi 1)) (I', zsR R' 4 s 7 (some v), al) → K1 (some (zq (some v))) (I', R', al)) → zCp (d' + 1) 26 [zq (some (8, 0)), zi ((k + 1 : Nat) : Int), zi 1, zi (P2 102 x)] (I2, R2, al) K1) → zCp d 28 [zq (some (8, 0)), zq (some (3, x))] (I, R, al) K := fun I R al d K hd hx h => by
      obtain ⟨d', rfl⟩ : ∃ d', d = d' + 3 := ⟨d - 3, by unfold Dc at hd; omega⟩
      refine sc_blk (y := 38) hT hx hN hxb (Or.inr (Or.inl ⟨hc, rfl⟩)) (fun I2 R2 f1 f2 hx2 g7 g8 g9 K' hK' => ?_)
      rw [zcp_38]
      simp only [zh_38_0, zh_38_1, zh_38_2, zh_38_5, zh_38_8, zh_38_9, zh_38_10, zh_38_11, zh_38_12, zh_38_13, zh_38_16, zh_38_17, zh_38_18, zh_38_19, zh_38_20, zh_38_23, zh_38_29, zh_38_30, zh_38_33n, zh_38_33, zh_38_36, zh_38_37, zh_38_40, zh_38_41, zwl_m1, zwl_0, zwl_1, zwl_2, zwl_3, zwl_4, zwl_5, zwl_6, zwl_7, zwl_8, zwl_10, zwl_15, zwl_24, zwl_32, zwl_33, zwl_40, zwl_41, zwl_42, zwl_43, zwl_45, zwl_47, zwl_48, zwl_52, zwl_56, zwl_57, zwl_59, zwl_60, zwl_61, zwl_63, zwl_64, zwl_66, zwl_67, zwl_68, zwl_70, zwl_75, zwl_77, zwl_80, zwl_82, zwl_84, zwl_88, zwl_89, zwl_97, zwl_104, zwl_110, zwl_112, zwl_114, zwl_118, zwl_123, zwl_125, zwl_126, zwl_159, zwl_160, zwl_200, zwl_255, zwl_480, zwl_960, zwl_3000, zs_kli, zs_klq, zs_kln, zs_wn, zs_wi, zs_wl, zs_wq, ↓zs_ok10, ↓zs_ok11, Option.toList_some, Option.toList_none, List.cons_append, List.nil_append, ↓reduceIte, Nat.reduceAdd, Nat.reduceLeDiff, true_and, and_true, Int.reduceEq, Int.reduceLT, Int.reduceLE, Int.reduceAdd, Int.reduceSub, Int.reduceMul, Int.reduceNeg, Nat.reduceEqDiff, Nat.reduceLT, Nat.reduceBEq, zsI_c, zsI_k, zsI_s, zsR_c, zsR_k, zsR_s]
      refine hcx R2 al d' I2 _ (s + 1) b c (by unfold Dc at hd; unfold Dx; omega) hx2 (fun h => by cases h) (fun p' e' P' h' I3 f3 f4 hx3 g2 g3 => ?_)
      cases h'
      obtain ⟨a1, a2, a3, a4, a5⟩ := hx3.2.2.2.2.2.2 x hxb
      have e0 : (k : Int) + 1 = ((k + 1 : Nat) : Int) := by omega
      rw [w17] at a3
      simp only [zh_38_0, zh_38_1, zh_38_2, zh_38_5, zh_38_8, zh_38_9, zh_38_10, zh_38_11, zh_38_12, zh_38_13, zh_38_16, zh_38_17, zh_38_18, zh_38_19, zh_38_20, zh_38_23, zh_38_29, zh_38_30, zh_38_33n, zh_38_33, zh_38_36, zh_38_37, zh_38_40, zh_38_41, zwl_m1, zwl_0, zwl_1, zwl_2, zwl_3, zwl_4, zwl_5, zwl_6, zwl_7, zwl_8, zwl_10, zwl_15, zwl_24, zwl_32, zwl_33, zwl_40, zwl_41, zwl_42, zwl_43, zwl_45, zwl_47, zwl_48, zwl_52, zwl_56, zwl_57, zwl_59, zwl_60, zwl_61, zwl_63, zwl_64, zwl_66, zwl_67, zwl_68, zwl_70, zwl_75, zwl_77, zwl_80, zwl_82, zwl_84, zwl_88, zwl_89, zwl_97, zwl_104, zwl_110, zwl_112, zwl_114, zwl_118, zwl_123, zwl_125, zwl_126, zwl_159, zwl_160, zwl_200, zwl_255, zwl_480, zwl_960, zwl_3000, zs_kli, zs_klq, zs_kln, zs_wn, zs_wi, zs_wl, zs_wq, ↓zs_ok10, ↓zs_ok11, Option.toList_some, Option.toList_none, List.cons_append, List.nil_append, ↓reduceIte, Nat.reduceAdd, Nat.reduceLeDiff, true_and, and_true, Int.reduceEq, Int.reduceLT, Int.reduceLE, Int.reduceAdd, Int.reduceSub, Int.reduceMul, Int.reduceNeg, Nat.reduceEqDiff, Nat.reduceLT, Nat.reduceBEq, zsI_c, zsI_k, zsI_s, zsR_c, zsR_k, zsR_s, a3, a5, e0]
      refine h d' I3 R2 _ hd ⟨f1.tr f3 hle hle, f2, hx3, fun z h1 h2 => by omega⟩ g2 g3 g8 (fun I' R' q => ?_) (fun v I' R' q => ?_)
      · simp only [zh_38_0, zh_38_1, zh_38_2, zh_38_5, zh_38_8, zh_38_9, zh_38_10, zh_38_11, zh_38_12, zh_38_13, zh_38_16, zh_38_17, zh_38_18, zh_38_19, zh_38_20, zh_38_23, zh_38_26, zh_38_29, zh_38_30, zh_38_33n, zh_38_33, zh_38_36, zh_38_37, zh_38_40, zh_38_41, zwl_m1, zwl_0, zwl_1, zwl_2, zwl_3, zwl_4, zwl_5, zwl_6, zwl_7, zwl_8, zwl_10, zwl_15, zwl_24, zwl_32, zwl_33, zwl_40, zwl_41, zwl_42, zwl_43, zwl_45, zwl_47, zwl_48, zwl_52, zwl_56, zwl_57, zwl_59, zwl_60, zwl_61, zwl_63, zwl_64, zwl_66, zwl_67, zwl_68, zwl_70, zwl_75, zwl_77, zwl_80, zwl_82, zwl_84, zwl_88, zwl_89, zwl_97, zwl_104, zwl_110, zwl_112, zwl_114, zwl_118, zwl_123, zwl_125, zwl_126, zwl_159, zwl_160, zwl_200, zwl_255, zwl_480, zwl_960, zwl_3000, zs_kli, zs_klq, zs_kln, zs_wn, zs_wi, zs_wl, zs_wq, ↓zs_ok10, ↓zs_ok11, Option.toList_some, Option.toList_none, List.cons_append, List.nil_append, ↓reduceIte, Nat.reduceAdd, Nat.reduceLeDiff, true_and, and_true, Int.reduceEq, Int.reduceLT, Int.reduceLE, Int.reduceAdd, Int.reduceSub, Int.reduceMul, Int.reduceNeg, Nat.reduceEqDiff, Nat.reduceLT, Nat.reduceBEq, zsI_c, zsI_k, zsI_s, zsR_c, zsR_k, zsR_s]
        exact hK' _ _ _ (by omega) q
      · simp only [zh_38_0, zh_38_1, zh_38_2, zh_38_5, zh_38_8, zh_38_9, zh_38_10, zh_38_11, zh_38_12, zh_38_13, zh_38_16, zh_38_17, zh_38_18, zh_38_19, zh_38_20, zh_38_23, zh_38_26, zh_38_29, zh_38_30, zh_38_33n, zh_38_33, zh_38_36, zh_38_37, zh_38_40, zh_38_41, zwl_m1, zwl_0, zwl_1, zwl_2, zwl_3, zwl_4, zwl_5, zwl_6, zwl_7, zwl_8, zwl_10, zwl_15, zwl_24, zwl_32, zwl_33, zwl_40, zwl_41, zwl_42, zwl_43, zwl_45, zwl_47, zwl_48, zwl_52, zwl_56, zwl_57, zwl_59, zwl_60, zwl_61, zwl_63, zwl_64, zwl_66, zwl_67, zwl_68, zwl_70, zwl_75, zwl_77, zwl_80, zwl_82, zwl_84, zwl_88, zwl_89, zwl_97, zwl_104, zwl_110, zwl_112, zwl_114, zwl_118, zwl_123, zwl_125, zwl_126, zwl_159, zwl_160, zwl_200, zwl_255, zwl_480, zwl_960, zwl_3000, zs_kli, zs_klq, zs_kln, zs_wn, zs_wi, zs_wl, zs_wq, ↓zs_ok10, ↓zs_ok11, Option.toList_some, Option.toList_none, List.cons_append, List.nil_append, ↓reduceIte, Nat.reduceAdd, Nat.reduceLeDiff, true_and, and_true, Int.reduceEq, Int.reduceLT, Int.reduceLE, Int.reduceAdd, Int.reduceSub, Int.reduceMul, Int.reduceNeg, Nat.reduceEqDiff, Nat.reduceLT, Nat.reduceBEq, zsI_c, zsI_k, zsI_s, zsR_c, zsR_k, zsR_s]
        exact hK' _ _ _ (by omega) q
    have hmlA : ∀ (R : zMR) (al : zA), Kon R → ∀ (d : Nat) (I : zMI) (Q : Option zV → zS → Prop) (root ki : Int), ki = (k : Int) → PM I T n p e s b P → I 11 0 4 = 0 → I 52 0 k = (x : Int) → (∀ I2, FM I I2 k → I2 11 0 4 = 0 → PM I2 T n p1 e1 (s + 1) b P2 → RA (d + 5) R al Q root ki (s : Int) 0 I2) → RH (d + 5) R al Q root ki I := fun R al hK d I Q root ki hki hx h4 ho h => by
      refine sm_xb (q := 0) hT hK hx hN hxb h4 hki hk1 hk4 ho (Or.inr hc) (fun I2 K1 f1 g1 hx2 k1 => ?_)
      refine hmx R al hK d I2 K1 (s + 1) b k (s : Int) rfl hsx hx2 g1 (fun h => by cases h) (fun p' e' P' h' I' f3 g3 hx3 => ?_)
      cases h'
      exact k1 I' (h I' (f1.tr f3) g3 hx3)
    cases o1 with
    | none =>
      refine ⟨none, fun dm p' e' s' b' c' P' h => (by cases h), fun I R al d K hd hx h0 _ => ?_, fun R al hK d I Q root ki hki hx h4 ho h0 _ => ?_⟩
      · refine hclA I R al d K hd hx (fun d' I2 R2 K1 hd' hcw _ _ _ q0 q1 => ?_)
        exact c1' I I2 R R2 al (d' + 1) K1 _ rfl (by unfold Dc at hd' ⊢; omega) hcw (fun _ I' R' f1 f2 => q0 _ _ (h0 rfl I' _ f1 (f2.tr (fun t i k h1 h2 h3 => zsR_n (by omega)) hle hle))) (fun _ _ _ _ _ _ h => by cases h)
      · refine hmlA R al hK d I Q root ki hki hx h4 ho (fun I2 f1 g1 hx2 => ?_)
        exact m1 R al hK d I2 Q root ki (s : Int) 0 hki rfl rfl hx2 g1 (fun _ I' f3 g3 y => h0 (by simp) I' (f1.tr f3) g3 y) (fun _ _ _ _ _ _ h => by cases h)
    | some o1 =>
      obtain ⟨p2, e2, s2, b2, c2, P4⟩ := o1
      obtain ⟨hW2, i1, i2, i3, i4, i5, i6, i7, hKF, -, -⟩ := ok1 p2 e2 s2 b2 c2 P4 rfl
      have w2n : p2 ≤ n := hW2.2.1
      have w34 : P4 34 s = 64 := hW2.2.2.2.2.2.2.2.2.2.2.2.2.2.2.1
      have ws2 : s + 1 ≤ s2 := hW2.2.2.2.2.2.2.2.1
      have wb2 : 2 * b2 + 1 ≤ p2 := hW2.2.2.2.2.1
      have v36 : P4 36 s = (e : Int) := (hKF.2.2.2.2.1 36 (by omega)).trans k5
      have v37 : P4 37 s = (e1 : Int) := (hKF.2.2.2.2.1 37 (by omega)).trans k6
      have v41 : P4 41 s = 0 := (hKF.2.2.2.2.1 41 (by omega)).trans h41
      have vx : XOk P4 s := XOk_kf k7 (by omega) hKF
      have vo : ∀ i, 1 ≤ i → i < 6 → P4 38 (6 * s + i) = -1 := fun i h1 h2 => (hKF.2.2.1 i h2 (by omega)).trans (h38 i h2)
      have v38 : P4 38 (6 * s + 0) = (b : Int) := hKF.2.1
      refine ⟨some (false, p2, e2, s2, b2, c2, P4), fun dm p' e' s' b' c' P' h => ?_, fun I R al d K hd hx h0 h1 => ?_, fun R al hK d I Q root ki hki hx h4 ho h0 h1 => ?_⟩
      · cases h
        refine ⟨pw_fin hW2 i1 i2 ?_, (fun q => by cases q), (by omega)⟩
        refine ⟨by rw [w34]; unfold knd; omega, fun _ => ⟨vx, by omega⟩, by omega, by omega, by omega, fun i hi => ?_, fun _ => hKF.1, by omega, ⟨by omega, by omega, fun i hi => by omega⟩, by omega, fun _ i h1 h2 => vo i h1 h2, by omega, by omega, by omega⟩
        by_cases q0 : i = 0
        · rw [q0]; exact Or.inr hKF.1
        · exact Or.inl (vo i (by omega) hi)
      · refine hclA I R al d K hd hx (fun d' I2 R2 K1 hd' hcw g2 g3 g8 q0 q1 => ?_)
        refine c1' I I2 R R2 al (d' + 1) K1 _ rfl (by unfold Dc at hd' ⊢; omega) hcw (fun h => by cases h) (fun p' e' s' b' c' P' h' I3 R3 hcw3 f3 f4 _ => ?_)
        cases h'
        refine q1 _ _ _ (h1 _ _ _ _ _ _ _ rfl _ _ (cw_fin (hcw3.r (i := 7) (v := some (3, b)) (by omega)) ?_))
        have fi : ∀ i, 1 ≤ i → I3 4 s i = I2 4 s i := fun i hi => f3 4 s i (fun _ => ⟨by omega, by omega⟩) (by omega) (by decide) (by decide) (by decide) (by omega) (by omega) (by omega)
        have fr : ∀ i, 7 ≤ i → R3 4 s i = R2 4 s i := fun i hi => f4 4 s i (fun _ => ⟨by omega, by omega⟩) (by omega) (by decide)
        refine ⟨by omega, fun _ => ⟨by rw [fi 2 (by omega), g2, v36], by rw [fi 3 (by omega), g3, v37]⟩, fun _ => ?_, by omega, by omega, fun _ => ?_, by omega⟩
        · rw [zsR_s, v38, rf_s (by omega), Int.toNat_natCast]
        · rw [zsR_n (by omega), fr 8 (by omega), g8]
      · refine hmlA R al hK d I Q root ki hki hx h4 ho (fun I2 f1 g1 hx2 => ?_)
        refine m1 R al hK d I2 Q root ki (s : Int) 0 hki rfl rfl hx2 g1 (fun h => by cases h) (fun p' e' s' b' c' P' h' I' f3 g3 hx3 => ?_)
        cases h'
        refine r71 hK hx3 (by omega) (fun K' hK' => ?_) (by omega)
        refine m_after1 hK hx3 hsx (Or.inr (Or.inl w34)) (by rw [i7]; omega) ?_
        rw [i7, if_neg (by omega)]
        exact hK' _ _ (ra_no rfl (h1 _ _ _ _ _ _ rfl I' (f1.tr f3) g3 hx3))
end
