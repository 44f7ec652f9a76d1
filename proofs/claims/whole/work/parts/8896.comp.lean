/-! compile -/
def FC (I I' : zMI) : Prop := ∀ t i k, (t = 1 ∨ t = 20 ∨ t = 11 ∨ 30 ≤ t ∨ (t = 2 ∧ i = 0 ∧ k = 1)) → I' t i k = I t i k
def FD (I I' : zMI) : Prop := ∀ t i k, (t < 11 ∨ (12 ≤ t ∧ t ≤ 30) ∨ 65 ≤ t ∨ (t = 11 ∧ k = 2)) → I' t i k = I t i k
theorem FC.tr {I I1 I' : zMI} (h0 : FC I I1) (h : FC I1 I') : FC I I' := fun t i k w => (h t i k w).trans (h0 t i k w)
theorem FD.tr {I I1 I' : zMI} (h0 : FD I I1) (h : FD I1 I') : FD I I' := fun t i k w => (h t i k w).trans (h0 t i k w)
theorem FQ.fc {I I' : zMI} (h : FQ I I') : FC I I' := fun t i k w => h t i k (by omega) (by omega) (by omega) (by omega) (by omega) (by omega) (by omega) (by omega) (by omega)
theorem FrK.fc {I I' : zMI} (h : FrK I I') : FC I I' := fun t i k w => h t i k (by omega) (by omega) (by omega)
theorem FgC.fc {I I' : zMI} (h : FgC I I') : FC I I' := fun t i k w => h.1 t i k (by omega) (by omega)
theorem FP.fd {I I' : zMI} (h : FP I I') : FD I I' := fun t i k w => h t i k (by omega) (by omega)
theorem FrX.fd {I I' : zMI} (h : FrX I I') : FD I I' := fun t i k w => h t i k (by omega) (by omega)
theorem FgM.fd {I I' : zMI} (h : FgM I I') : FD I I' := fun t i k w => h.1 t i k (by omega) (by omega)
theorem Kon.fq {R R' : zMR} (h : Kon R) (f : FQR R R') : Kon R' := fun c i k w => (f c i k (by omega) (by omega) (by omega) (by omega)).trans (h c i k w)
theorem Kon.frr {R R' : zMR} (h : Kon R) (f : FrR R R') : Kon R' := fun c i k w => (f c i k (by omega)).trans (h c i k w)
/-- nothing has been run -/
def C0 (I : zMI) : Prop := (∀ k, k < 8 → I 28 0 k = 0) ∧ I 10 0 2 = 0 ∧ I 10 0 3 = -1 ∧ I 10 0 4 = 0 ∧ I 10 0 5 = 0 ∧ I 10 0 6 = 0
def M0 (I : zMI) : Prop := (∀ k, k < 8 → I 54 0 k = 0) ∧ I 11 0 35 = 0 ∧ I 11 0 36 = -1 ∧ I 11 0 37 = 0 ∧ I 11 0 38 = 0
theorem C0.eq {I I' : zMI} (h : C0 I) (e : ∀ t i k, t = 28 ∨ t = 10 → I' t i k = I t i k) : C0 I' := by
  unfold C0
  rw [e 10 0 2 (by omega), e 10 0 3 (by omega), e 10 0 4 (by omega), e 10 0 5 (by omega), e 10 0 6 (by omega)]
  exact ⟨fun k hk => by rw [e 28 0 k (by omega)]; exact h.1 k hk, h.2⟩
theorem M0.eq {I I' : zMI} (h : M0 I) (e : ∀ t i k, t = 54 ∨ (t = 11 ∧ 35 ≤ k ∧ k ≤ 38) → I' t i k = I t i k) : M0 I' := by
  unfold M0
  rw [e 11 0 35 (by omega), e 11 0 36 (by omega), e 11 0 37 (by omega), e 11 0 38 (by omega)]
  exact ⟨fun k hk => by rw [e 54 0 k (by omega)]; exact h.1 k hk, h.2⟩
theorem vd_ex (P : Nat → Nat → Int) : ∃ v : Int, 0 ≤ v ∧ v ≤ 5 ∧ (ffR P (nS P) 0 ≠ 0 → v = ffR P (nS P) 0) ∧ (ffR P (nS P) 0 = 0 → nm2 P → v = 3) ∧ (ffR P (nS P) 0 = 0 → ¬ nm2 P → bad5 P → v = 5) ∧ (ffR P (nS P) 0 = 0 → ¬ nm2 P → ¬ bad5 P → v = 0) ∧ (v = 0 → ffR P (nS P) 0 = 0 ∧ ¬ nm2 P ∧ ¬ bad5 P) := by
  have hr : ∀ (m s : Nat), 0 ≤ ffR P m s ∧ ffR P m s ≤ 5 := fun m => by
    induction m with
    | zero => intro s; rw [ffR]; omega
    | succ m ih =>
      intro s
      rw [ffR]
      by_cases w : fO P s = 0
      · rw [if_pos w]; exact ih _
      · rw [if_neg w]
        have := fO_n (P := P) (s := s)
        omega
  by_cases w : ffR P (nS P) 0 = 0
  · by_cases w2 : nm2 P
    · exact ⟨3, by omega, by omega, fun q => absurd w q, fun _ _ => rfl, fun _ q => absurd w2 q, fun _ q => absurd w2 q, fun q => by omega⟩
    · by_cases w3 : bad5 P
      · exact ⟨5, by omega, by omega, fun q => absurd w q, fun _ q => absurd q w2, fun _ _ _ => rfl, fun _ _ q => absurd w3 q, fun q => by omega⟩
      · exact ⟨0, by omega, by omega, fun q => absurd w q, fun _ q => absurd q w2, fun _ _ q => absurd q w3, fun _ _ _ => rfl, fun _ => ⟨w, w2, w3⟩⟩
  · exact ⟨_, (hr _ _).1, (hr _ _).2, fun _ => rfl, fun q => absurd q w, fun q => absurd q w, fun q => absurd q w, fun q => absurd q w⟩
theorem c0_rep {I : zMI} {R : zMR} {P : Nat → Nat → Int} (h : CR0 I R P) (h2 : CT I R P) (hc : Chk P) : CRep I R P := by
  obtain ⟨a1, a2, a3, a4, a5, -⟩ := h
  refine ⟨a1, fun s hs => ?_, a3, a4, a5⟩
  obtain ⟨b1, b2, b3⟩ := h2.2.1 s hs
  refine ⟨b1, b2, fun w => ?_⟩
  obtain ⟨p, hp, -⟩ := (hc s hs).2 w
  have := b3 w
  rw [hp] at this
  exact ⟨p, hp, this⟩
section
variable {T : Nat → Int} {n : Nat}
theorem cm (hT : TX T n) (P0 : Nat → Nat → Int) : ∃ (v : Int) (P : Nat → Nat → Int), 0 ≤ v ∧ v ≤ 5 ∧ (v = 0 → PWf P ∧ Chk P) ∧
    (∀ (I : zMI) (R : zMR) (al : zA) (d : Nat) (K : Option zV → zS → Prop), 100 ≤ d → Kon R → I 2 0 1 = 0 → I 1 0 1 = (n : Int) → (∀ j, j < n → I 20 0 j = T j) → (∀ I' R', FC I I' → Kon R' → C0 I' → (v ≠ 0 → I' 7 0 6 = 0 ∧ I' 7 0 4 = 0 ∧ I' 7 0 5 = 0) → (v = 0 → I' 7 0 6 = 1 ∧ CRep I' R' P ∧ I' 7 0 4 = (nP P : Int) ∧ I' 7 0 5 = (nS P : Int) ∧ ∀ p, p < nP P → I' 2 (p + 1) 2 = (rT P (P 33 p).toNat : Int)) → K (some (zi v)) (I', R', al)) → zCp d 16 [zq (some (0, 0))] (I, R, al) K) ∧
    (∀ (I : zMI) (R : zMR) (al : zA) (d : Nat) (K : Option zV → zS → Prop), 100 ≤ d → Kon R → I 11 0 2 = (n : Int) → (∀ j, j < n → I 30 0 j = T j) → (∀ c k, 31 ≤ c → c ≤ 51 → I c 0 k = P0 c k) → (∀ I', FD I I' → M0 I' → (v ≠ 0 → I' 11 0 5 = 0) → (v = 0 → I' 11 0 5 = 1 ∧ MRep I' P ∧ I' 11 0 10 = (nS P : Int) ∧ ∀ b, b < nB P → I' 49 0 b = (rT P b : Int)) → K (some (zi v)) (I', R, al)) → zCp d 84 [zq (some (11, 0))] (I, R, al) K) := by
  have hn1 := hT.1
  obtain ⟨o, ok, hc, hm⟩ := pg hT 3 0 0 0 0 0 0 P0 rfl ⟨by omega, by omega, by omega, by omega, by omega, by omega, fun z hz => by omega, fun y hy => by omega, fun z hz => by omega, fun i hi => by omega, fun y hy => by omega⟩
  -- the class, to where its text has been read
  have hcl : ∀ (I : zMI) (R : zMR) (al : zA) (d : Nat) (K : Option zV → zS → Prop), 96 ≤ d → Kon R → I 1 0 1 = (n : Int) → (∀ j, j < n → I 20 0 j = T j) → (o = none → ∀ I' R', FC I I' → Kon R' → C0 I' → I' 7 0 6 = 0 → I' 7 0 4 = 0 → I' 7 0 5 = 0 → K (some (zi 1)) (I', R', al)) → (∀ e s b c q P, o = some (e, s, b, c, q, P) → ∀ I' R', FC I I' → C0 I' → CF I' R' T n e s b c q P → ∀ K' : Option zV → zS → Prop, (∀ v I'' R'', 0 ≤ v → v ≤ 5 → Kon R'' → K (some (zi v)) (if v = 0 then zsI I'' 7 0 6 1 else zsI (zsI (zsI (zsI (zsI (zsI I'' 7 0 6 0) 7 0 4 0) 7 0 5 0) 7 0 9 0) 7 0 10 0) 6 0 2 0, R'', al) → K' (some (zi v)) (I'', R'', al)) → zCp (d + 3) 43 [zq (some (9, 0))] (I', R', al) K') → zCp (d + 4) 16 [zq (some (0, 0))] (I, R, al) K := fun I R al d K hd hK h1 h20 h0 hs => by
    rw [zcp_16]
    simp only [zh_16_0, zh_16_1, zh_16_4, zh_16_7, zh_16_8, zh_16_11, zh_16_14, zh_16_17, zh_16_18, zh_16_21, zh_16_24, zh_16_27, zh_16_28, zh_16_29, zh_16_30, zh_16_33, zh_16_34, zh_16_37, zh_16_38, zh_16_41, zh_16_44, zh_16_45, zh_16_48, zh_16_51, zh_16_52, zwl_m1, zwl_0, zwl_1, zwl_2, zwl_3, zwl_4, zwl_5, zwl_6, zwl_7, zwl_8, zwl_10, zwl_15, zwl_24, zwl_32, zwl_33, zwl_40, zwl_41, zwl_42, zwl_43, zwl_45, zwl_47, zwl_48, zwl_52, zwl_56, zwl_57, zwl_59, zwl_60, zwl_61, zwl_63, zwl_64, zwl_66, zwl_67, zwl_68, zwl_70, zwl_75, zwl_77, zwl_80, zwl_82, zwl_84, zwl_88, zwl_89, zwl_97, zwl_104, zwl_110, zwl_112, zwl_114, zwl_118, zwl_123, zwl_125, zwl_126, zwl_159, zwl_160, zwl_200, zwl_255, zwl_480, zwl_960, zwl_3000, zs_kli, zs_klq, zs_kln, zs_wn, zs_wi, zs_wl, zs_wq, ↓zs_ok10, ↓zs_ok11, Option.toList_some, Option.toList_none, List.cons_append, List.nil_append, ↓reduceIte, Nat.reduceAdd, Nat.reduceLeDiff, true_and, and_true, Int.reduceEq, Int.reduceLT, Int.reduceLE, Int.reduceAdd, Int.reduceSub, Int.reduceMul, Int.reduceNeg, Nat.reduceEqDiff, Nat.reduceLT, Nat.reduceBEq, zsI_c, zsI_k, zsI_s, zsR_c, zsR_k, zsR_s, kon_0_0_0 hK, kon_0_0_1 hK, kon_0_0_2 hK, kon_0_0_3 hK, kon_0_0_4 hK, kon_1_0_0 hK, kon_6_0_0 hK, kon_6_0_1 hK, kon_6_0_4 hK, kon_7_0_0 hK, kon_7_0_1 hK, kon_7_0_2 hK, kon_7_0_3 hK, kon_7_0_7 hK, kon_7_0_8 hK, kon_8_0_0 hK, kon_8_0_1 hK, kon_9_0_0 hK, kon_10_0_0 hK, kon_10_0_1 hK, kon_10_0_9 hK]
    refine cg_forget hK (fun I1 hf1 => ?_)
    simp only [zh_16_0, zh_16_1, zh_16_4, zh_16_7, zh_16_8, zh_16_11, zh_16_14, zh_16_17, zh_16_18, zh_16_21, zh_16_24, zh_16_27, zh_16_28, zh_16_29, zh_16_30, zh_16_33, zh_16_34, zh_16_37, zh_16_38, zh_16_41, zh_16_44, zh_16_45, zh_16_48, zh_16_51, zh_16_52, zwl_m1, zwl_0, zwl_1, zwl_2, zwl_3, zwl_4, zwl_5, zwl_6, zwl_7, zwl_8, zwl_10, zwl_15, zwl_24, zwl_32, zwl_33, zwl_40, zwl_41, zwl_42, zwl_43, zwl_45, zwl_47, zwl_48, zwl_52, zwl_56, zwl_57, zwl_59, zwl_60, zwl_61, zwl_63, zwl_64, zwl_66, zwl_67, zwl_68, zwl_70, zwl_75, zwl_77, zwl_80, zwl_82, zwl_84, zwl_88, zwl_89, zwl_97, zwl_104, zwl_110, zwl_112, zwl_114, zwl_118, zwl_123, zwl_125, zwl_126, zwl_159, zwl_160, zwl_200, zwl_255, zwl_480, zwl_960, zwl_3000, zs_kli, zs_klq, zs_kln, zs_wn, zs_wi, zs_wl, zs_wq, ↓zs_ok10, ↓zs_ok11, Option.toList_some, Option.toList_none, List.cons_append, List.nil_append, ↓reduceIte, Nat.reduceAdd, Nat.reduceLeDiff, true_and, and_true, Int.reduceEq, Int.reduceLT, Int.reduceLE, Int.reduceAdd, Int.reduceSub, Int.reduceMul, Int.reduceNeg, Nat.reduceEqDiff, Nat.reduceLT, Nat.reduceBEq, zsI_c, zsI_k, zsI_s, zsR_c, zsR_k, zsR_s, kon_0_0_0 hK, kon_0_0_1 hK, kon_0_0_2 hK, kon_0_0_3 hK, kon_0_0_4 hK, kon_1_0_0 hK, kon_6_0_0 hK, kon_6_0_1 hK, kon_6_0_4 hK, kon_7_0_0 hK, kon_7_0_1 hK, kon_7_0_2 hK, kon_7_0_3 hK, kon_7_0_7 hK, kon_7_0_8 hK, kon_8_0_0 hK, kon_8_0_1 hK, kon_9_0_0 hK, kon_10_0_0 hK, kon_10_0_1 hK, kon_10_0_9 hK]
    rw [zcp_18]
    simp only [zh_18_0, zh_18_1, zh_18_2, zh_18_5, zh_18_6, zh_18_9, zh_18_12, zh_18_13, zh_18_15, zh_18_16, zh_18_19, zh_18_20, zh_18_22, zh_18_25, zh_18_28, zh_18_29, zh_18_32, zh_18_35, zh_18_36, zh_18_37, zh_18_40, zh_18_43, zh_18_44, zh_18_46, zh_18_49, zh_18_52, zh_18_53, zh_18_54, zh_18_57, zh_18_60, zh_18_63, zh_18_66, zh_18_67, zh_18_70, zh_18_71, zh_18_74, zh_18_77, zh_18_80, zh_18_81, zh_18_84, zh_18_85, zwl_m1, zwl_0, zwl_1, zwl_2, zwl_3, zwl_4, zwl_5, zwl_6, zwl_7, zwl_8, zwl_10, zwl_15, zwl_24, zwl_32, zwl_33, zwl_40, zwl_41, zwl_42, zwl_43, zwl_45, zwl_47, zwl_48, zwl_52, zwl_56, zwl_57, zwl_59, zwl_60, zwl_61, zwl_63, zwl_64, zwl_66, zwl_67, zwl_68, zwl_70, zwl_75, zwl_77, zwl_80, zwl_82, zwl_84, zwl_88, zwl_89, zwl_97, zwl_104, zwl_110, zwl_112, zwl_114, zwl_118, zwl_123, zwl_125, zwl_126, zwl_159, zwl_160, zwl_200, zwl_255, zwl_480, zwl_960, zwl_3000, zs_kli, zs_klq, zs_kln, zs_wn, zs_wi, zs_wl, zs_wq, ↓zs_ok10, ↓zs_ok11, Option.toList_some, Option.toList_none, List.cons_append, List.nil_append, ↓reduceIte, Nat.reduceAdd, Nat.reduceLeDiff, true_and, and_true, Int.reduceEq, Int.reduceLT, Int.reduceLE, Int.reduceAdd, Int.reduceSub, Int.reduceMul, Int.reduceNeg, Nat.reduceEqDiff, Nat.reduceLT, Nat.reduceBEq, zsI_c, zsI_k, zsI_s, zsR_c, zsR_k, zsR_s, kon_0_0_0 hK, kon_0_0_1 hK, kon_0_0_2 hK, kon_0_0_3 hK, kon_0_0_4 hK, kon_1_0_0 hK, kon_6_0_0 hK, kon_6_0_1 hK, kon_6_0_4 hK, kon_7_0_0 hK, kon_7_0_1 hK, kon_7_0_2 hK, kon_7_0_3 hK, kon_7_0_7 hK, kon_7_0_8 hK, kon_8_0_0 hK, kon_8_0_1 hK, kon_9_0_0 hK, kon_10_0_0 hK, kon_10_0_1 hK, kon_10_0_9 hK]
    rw [zcp_19]
    simp only [zh_19_0, zh_19_1, zh_19_2, zh_19_5, zh_19_6, zh_19_7, zh_19_10, zh_19_11, zh_19_12, zh_19_15, zh_19_16, zh_19_17, zh_19_20, zh_19_21, zh_19_22, zh_19_25, zh_19_26, zh_19_29, zh_19_30, zh_19_33, zh_18_0, zh_18_1, zh_18_2, zh_18_5, zh_18_6, zh_18_9, zh_18_12, zh_18_13, zh_18_15, zh_18_16, zh_18_19, zh_18_20, zh_18_22, zh_18_25, zh_18_28, zh_18_29, zh_18_32, zh_18_35, zh_18_36, zh_18_37, zh_18_40, zh_18_43, zh_18_44, zh_18_46, zh_18_49, zh_18_52, zh_18_53, zh_18_54, zh_18_57, zh_18_60, zh_18_63, zh_18_66, zh_18_67, zh_18_70, zh_18_71, zh_18_74, zh_18_77, zh_18_80, zh_18_81, zh_18_84, zh_18_85, zwl_m1, zwl_0, zwl_1, zwl_2, zwl_3, zwl_4, zwl_5, zwl_6, zwl_7, zwl_8, zwl_10, zwl_15, zwl_24, zwl_32, zwl_33, zwl_40, zwl_41, zwl_42, zwl_43, zwl_45, zwl_47, zwl_48, zwl_52, zwl_56, zwl_57, zwl_59, zwl_60, zwl_61, zwl_63, zwl_64, zwl_66, zwl_67, zwl_68, zwl_70, zwl_75, zwl_77, zwl_80, zwl_82, zwl_84, zwl_88, zwl_89, zwl_97, zwl_104, zwl_110, zwl_112, zwl_114, zwl_118, zwl_123, zwl_125, zwl_126, zwl_159, zwl_160, zwl_200, zwl_255, zwl_480, zwl_960, zwl_3000, zs_kli, zs_klq, zs_kln, zs_wn, zs_wi, zs_wl, zs_wq, ↓zs_ok10, ↓zs_ok11, Option.toList_some, Option.toList_none, List.cons_append, List.nil_append, ↓reduceIte, Nat.reduceAdd, Nat.reduceLeDiff, true_and, and_true, Int.reduceEq, Int.reduceLT, Int.reduceLE, Int.reduceAdd, Int.reduceSub, Int.reduceMul, Int.reduceNeg, Nat.reduceEqDiff, Nat.reduceLT, Nat.reduceBEq, zsI_c, zsI_k, zsI_s, zsR_c, zsR_k, zsR_s, kon_0_0_0 hK, kon_0_0_1 hK, kon_0_0_2 hK, kon_0_0_3 hK, kon_0_0_4 hK, kon_1_0_0 hK, kon_6_0_0 hK, kon_6_0_1 hK, kon_6_0_4 hK, kon_7_0_0 hK, kon_7_0_1 hK, kon_7_0_2 hK, kon_7_0_3 hK, kon_7_0_7 hK, kon_7_0_8 hK, kon_8_0_0 hK, kon_8_0_1 hK, kon_9_0_0 hK, kon_10_0_0 hK, kon_10_0_1 hK, kon_10_0_9 hK]
    have z0 : C0 I1 := ⟨hf1.2.1, hf1.2.2.1, hf1.2.2.2.1, hf1.2.2.2.2.1, hf1.2.2.2.2.2.1, hf1.2.2.2.2.2.2.2⟩
    have y0 : ∀ t i k, ¬ (t = 8 ∧ k = 2) → t ≠ 7 → t ≠ 6 → (zsI (zsI (zsI (zsI (zsI (zsI (zsI I1 8 0 2 0) 7 0 6 0) 7 0 4 0) 7 0 5 0) 7 0 9 0) 7 0 10 0) 6 0 2 0) t i k = I1 t i k := fun t i k w1 w2 w3 => by rw [zsI_n (by omega), zsI_n (by omega), zsI_n (by omega), zsI_n (by omega), zsI_n (by omega), zsI_n (by omega), zsI_n (by omega)]
    have y1 : (zsI (zsI (zsI (zsI (zsI (zsI (zsI I1 8 0 2 0) 7 0 6 0) 7 0 4 0) 7 0 5 0) 7 0 9 0) 7 0 10 0) 6 0 2 0) 8 0 2 = 0 := by rw [zsI_ne (by omega), zsI_ne (by omega), zsI_ne (by omega), zsI_ne (by omega), zsI_ne (by omega), zsI_ne (by omega), zsI_s]
    have y2 : (zsI (zsI (zsI (zsI (zsI (zsI (zsI I1 8 0 2 0) 7 0 6 0) 7 0 4 0) 7 0 5 0) 7 0 9 0) 7 0 10 0) 6 0 2 0) 6 0 2 = 0 := zsI_s ..
    have y3 : (zsI (zsI (zsI (zsI (zsI (zsI (zsI I1 8 0 2 0) 7 0 6 0) 7 0 4 0) 7 0 5 0) 7 0 9 0) 7 0 10 0) 6 0 2 0) 7 0 4 = 0 := by rw [zsI_ne (by omega), zsI_ne (by omega), zsI_ne (by omega), zsI_ne (by omega), zsI_s]
    have y4 : (zsI (zsI (zsI (zsI (zsI (zsI (zsI I1 8 0 2 0) 7 0 6 0) 7 0 4 0) 7 0 5 0) 7 0 9 0) 7 0 10 0) 6 0 2 0) 7 0 5 = 0 := by rw [zsI_ne (by omega), zsI_ne (by omega), zsI_ne (by omega), zsI_s]
    have y5 : (zsI (zsI (zsI (zsI (zsI (zsI (zsI I1 8 0 2 0) 7 0 6 0) 7 0 4 0) 7 0 5 0) 7 0 9 0) 7 0 10 0) 6 0 2 0) 7 0 9 = 0 := by rw [zsI_ne (by omega), zsI_ne (by omega), zsI_s]
    have y6 : (zsI (zsI (zsI (zsI (zsI (zsI (zsI I1 8 0 2 0) 7 0 6 0) 7 0 4 0) 7 0 5 0) 7 0 9 0) 7 0 10 0) 6 0 2 0) 7 0 10 = 0 := by rw [zsI_ne (by omega), zsI_s]
    generalize zsI (zsI (zsI (zsI (zsI (zsI (zsI I1 8 0 2 0) 7 0 6 0) 7 0 4 0) 7 0 5 0) 7 0 9 0) 7 0 10 0) 6 0 2 0 = I2 at y0 y1 y2 y3 y4 y5 y6 ⊢
    have f2 : FC I I2 := fun t i k w => (y0 t i k (by omega) (by omega) (by omega)).trans (hf1.fc t i k w)
    have c2 : C0 I2 := z0.eq (fun t i k w => y0 t i k (by omega) (by omega) (by omega))
    refine hc I2 R al (d + 2) _ (by unfold Dc; omega) ⟨⟨⟨⟨?_, fun j hj => ?_, y1⟩, y2, fun j hj => by omega⟩, hK, y4, y5, y6, fun z hz => by omega, fun y hy => by omega⟩, ⟨y3, fun i hi => by omega⟩, fun z hz => by omega⟩ (fun w I' R' g1 g2 => ?_) (fun e s b c q P w I' R' g1 g2 g3 => ?_) 0 rfl
    · rw [f2 1 0 1 (by omega)]; exact h1
    · rw [f2 20 0 j (by omega)]; exact h20 j hj
    · have hK2 := hK.fq g2
      simp only [zh_16_0, zh_16_1, zh_16_4, zh_16_7, zh_16_8, zh_16_11, zh_16_14, zh_16_17, zh_16_18, zh_16_21, zh_16_24, zh_16_27, zh_16_28, zh_16_29, zh_16_30, zh_16_33, zh_16_34, zh_16_37, zh_16_38, zh_16_41, zh_16_44, zh_16_45, zh_16_48, zh_16_51, zh_16_52, zwl_m1, zwl_0, zwl_1, zwl_2, zwl_3, zwl_4, zwl_5, zwl_6, zwl_7, zwl_8, zwl_10, zwl_15, zwl_24, zwl_32, zwl_33, zwl_40, zwl_41, zwl_42, zwl_43, zwl_45, zwl_47, zwl_48, zwl_52, zwl_56, zwl_57, zwl_59, zwl_60, zwl_61, zwl_63, zwl_64, zwl_66, zwl_67, zwl_68, zwl_70, zwl_75, zwl_77, zwl_80, zwl_82, zwl_84, zwl_88, zwl_89, zwl_97, zwl_104, zwl_110, zwl_112, zwl_114, zwl_118, zwl_123, zwl_125, zwl_126, zwl_159, zwl_160, zwl_200, zwl_255, zwl_480, zwl_960, zwl_3000, zs_kli, zs_klq, zs_kln, zs_wn, zs_wi, zs_wl, zs_wq, ↓zs_ok10, ↓zs_ok11, Option.toList_some, Option.toList_none, List.cons_append, List.nil_append, ↓reduceIte, Nat.reduceAdd, Nat.reduceLeDiff, true_and, and_true, Int.reduceEq, Int.reduceLT, Int.reduceLE, Int.reduceAdd, Int.reduceSub, Int.reduceMul, Int.reduceNeg, Nat.reduceEqDiff, Nat.reduceLT, Nat.reduceBEq, zsI_c, zsI_k, zsI_s, zsR_c, zsR_k, zsR_s, kon_0_0_0 hK2, kon_0_0_1 hK2, kon_0_0_2 hK2, kon_0_0_3 hK2, kon_0_0_4 hK2, kon_1_0_0 hK2, kon_6_0_0 hK2, kon_6_0_1 hK2, kon_6_0_4 hK2, kon_7_0_0 hK2, kon_7_0_1 hK2, kon_7_0_2 hK2, kon_7_0_3 hK2, kon_7_0_7 hK2, kon_7_0_8 hK2, kon_8_0_0 hK2, kon_8_0_1 hK2, kon_9_0_0 hK2, kon_10_0_0 hK2, kon_10_0_1 hK2, kon_10_0_9 hK2]
      rw [zcp_19]
      simp only [zh_16_0, zh_16_1, zh_16_4, zh_16_7, zh_16_8, zh_16_11, zh_16_14, zh_16_17, zh_16_18, zh_16_21, zh_16_24, zh_16_27, zh_16_28, zh_16_29, zh_16_30, zh_16_33, zh_16_34, zh_16_37, zh_16_38, zh_16_41, zh_16_44, zh_16_45, zh_16_48, zh_16_51, zh_16_52, zh_19_0, zh_19_1, zh_19_2, zh_19_5, zh_19_6, zh_19_7, zh_19_10, zh_19_11, zh_19_12, zh_19_15, zh_19_16, zh_19_17, zh_19_20, zh_19_21, zh_19_22, zh_19_25, zh_19_26, zh_19_29, zh_19_30, zh_19_33, zwl_m1, zwl_0, zwl_1, zwl_2, zwl_3, zwl_4, zwl_5, zwl_6, zwl_7, zwl_8, zwl_10, zwl_15, zwl_24, zwl_32, zwl_33, zwl_40, zwl_41, zwl_42, zwl_43, zwl_45, zwl_47, zwl_48, zwl_52, zwl_56, zwl_57, zwl_59, zwl_60, zwl_61, zwl_63, zwl_64, zwl_66, zwl_67, zwl_68, zwl_70, zwl_75, zwl_77, zwl_80, zwl_82, zwl_84, zwl_88, zwl_89, zwl_97, zwl_104, zwl_110, zwl_112, zwl_114, zwl_118, zwl_123, zwl_125, zwl_126, zwl_159, zwl_160, zwl_200, zwl_255, zwl_480, zwl_960, zwl_3000, zs_kli, zs_klq, zs_kln, zs_wn, zs_wi, zs_wl, zs_wq, ↓zs_ok10, ↓zs_ok11, Option.toList_some, Option.toList_none, List.cons_append, List.nil_append, ↓reduceIte, Nat.reduceAdd, Nat.reduceLeDiff, true_and, and_true, Int.reduceEq, Int.reduceLT, Int.reduceLE, Int.reduceAdd, Int.reduceSub, Int.reduceMul, Int.reduceNeg, Nat.reduceEqDiff, Nat.reduceLT, Nat.reduceBEq, zsI_c, zsI_k, zsI_s, zsR_c, zsR_k, zsR_s, kon_0_0_0 hK2, kon_0_0_1 hK2, kon_0_0_2 hK2, kon_0_0_3 hK2, kon_0_0_4 hK2, kon_1_0_0 hK2, kon_6_0_0 hK2, kon_6_0_1 hK2, kon_6_0_4 hK2, kon_7_0_0 hK2, kon_7_0_1 hK2, kon_7_0_2 hK2, kon_7_0_3 hK2, kon_7_0_7 hK2, kon_7_0_8 hK2, kon_8_0_0 hK2, kon_8_0_1 hK2, kon_9_0_0 hK2, kon_10_0_0 hK2, kon_10_0_1 hK2, kon_10_0_9 hK2]
      refine h0 w _ R' (f2.tr (g1.fc.tr (fun t i k w => ?_))) hK2 ?_ ?_ ?_ ?_
      · rw [zsI_n (by omega), zsI_n (by omega), zsI_n (by omega), zsI_n (by omega), zsI_n (by omega), zsI_n (by omega)]
      · refine c2.eq (fun t i k w => ?_)
        rw [zsI_n (by omega), zsI_n (by omega), zsI_n (by omega), zsI_n (by omega), zsI_n (by omega), zsI_n (by omega)]
        exact g1 t i k (by omega) (by omega) (by omega) (by omega) (by omega) (by omega) (by omega) (by omega) (by omega)
      · rw [zsI_ne (by omega), zsI_ne (by omega), zsI_ne (by omega), zsI_ne (by omega), zsI_ne (by omega), zsI_s]
      · rw [zsI_ne (by omega), zsI_ne (by omega), zsI_ne (by omega), zsI_ne (by omega), zsI_s]
      · rw [zsI_ne (by omega), zsI_ne (by omega), zsI_ne (by omega), zsI_s]
    · have hK2 := hK.fq g2
      simp only [zh_16_0, zh_16_1, zh_16_4, zh_16_7, zh_16_8, zh_16_11, zh_16_14, zh_16_17, zh_16_18, zh_16_21, zh_16_24, zh_16_27, zh_16_28, zh_16_29, zh_16_30, zh_16_33, zh_16_34, zh_16_37, zh_16_38, zh_16_41, zh_16_44, zh_16_45, zh_16_48, zh_16_51, zh_16_52, zwl_m1, zwl_0, zwl_1, zwl_2, zwl_3, zwl_4, zwl_5, zwl_6, zwl_7, zwl_8, zwl_10, zwl_15, zwl_24, zwl_32, zwl_33, zwl_40, zwl_41, zwl_42, zwl_43, zwl_45, zwl_47, zwl_48, zwl_52, zwl_56, zwl_57, zwl_59, zwl_60, zwl_61, zwl_63, zwl_64, zwl_66, zwl_67, zwl_68, zwl_70, zwl_75, zwl_77, zwl_80, zwl_82, zwl_84, zwl_88, zwl_89, zwl_97, zwl_104, zwl_110, zwl_112, zwl_114, zwl_118, zwl_123, zwl_125, zwl_126, zwl_159, zwl_160, zwl_200, zwl_255, zwl_480, zwl_960, zwl_3000, zs_kli, zs_klq, zs_kln, zs_wn, zs_wi, zs_wl, zs_wq, ↓zs_ok10, ↓zs_ok11, Option.toList_some, Option.toList_none, List.cons_append, List.nil_append, ↓reduceIte, Nat.reduceAdd, Nat.reduceLeDiff, true_and, and_true, Int.reduceEq, Int.reduceLT, Int.reduceLE, Int.reduceAdd, Int.reduceSub, Int.reduceMul, Int.reduceNeg, Nat.reduceEqDiff, Nat.reduceLT, Nat.reduceBEq, zsI_c, zsI_k, zsI_s, zsR_c, zsR_k, zsR_s, kon_0_0_0 hK2, kon_0_0_1 hK2, kon_0_0_2 hK2, kon_0_0_3 hK2, kon_0_0_4 hK2, kon_1_0_0 hK2, kon_6_0_0 hK2, kon_6_0_1 hK2, kon_6_0_4 hK2, kon_7_0_0 hK2, kon_7_0_1 hK2, kon_7_0_2 hK2, kon_7_0_3 hK2, kon_7_0_7 hK2, kon_7_0_8 hK2, kon_8_0_0 hK2, kon_8_0_1 hK2, kon_9_0_0 hK2, kon_10_0_0 hK2, kon_10_0_1 hK2, kon_10_0_9 hK2]
      refine hs e s b c q P w I' R' (f2.tr g1.fc) (c2.eq (fun t i k w => g1 t i k (by omega) (by omega) (by omega) (by omega) (by omega) (by omega) (by omega) (by omega) (by omega))) g3 _ (fun v I'' R'' v1 v2 hK3 h => ?_)
      have ev : zw v = v := zw_i (by omega) (by omega)
      by_cases w2 : v = 0
      · rw [if_pos w2] at h
        subst w2
        simp only [zh_16_0, zh_16_1, zh_16_4, zh_16_7, zh_16_8, zh_16_11, zh_16_14, zh_16_17, zh_16_18, zh_16_21, zh_16_24, zh_16_27, zh_16_28, zh_16_29, zh_16_30, zh_16_33, zh_16_34, zh_16_37, zh_16_38, zh_16_41, zh_16_44, zh_16_45, zh_16_48, zh_16_51, zh_16_52, zwl_m1, zwl_0, zwl_1, zwl_2, zwl_3, zwl_4, zwl_5, zwl_6, zwl_7, zwl_8, zwl_10, zwl_15, zwl_24, zwl_32, zwl_33, zwl_40, zwl_41, zwl_42, zwl_43, zwl_45, zwl_47, zwl_48, zwl_52, zwl_56, zwl_57, zwl_59, zwl_60, zwl_61, zwl_63, zwl_64, zwl_66, zwl_67, zwl_68, zwl_70, zwl_75, zwl_77, zwl_80, zwl_82, zwl_84, zwl_88, zwl_89, zwl_97, zwl_104, zwl_110, zwl_112, zwl_114, zwl_118, zwl_123, zwl_125, zwl_126, zwl_159, zwl_160, zwl_200, zwl_255, zwl_480, zwl_960, zwl_3000, zs_kli, zs_klq, zs_kln, zs_wn, zs_wi, zs_wl, zs_wq, ↓zs_ok10, ↓zs_ok11, Option.toList_some, Option.toList_none, List.cons_append, List.nil_append, ↓reduceIte, Nat.reduceAdd, Nat.reduceLeDiff, true_and, and_true, Int.reduceEq, Int.reduceLT, Int.reduceLE, Int.reduceAdd, Int.reduceSub, Int.reduceMul, Int.reduceNeg, Nat.reduceEqDiff, Nat.reduceLT, Nat.reduceBEq, zsI_c, zsI_k, zsI_s, zsR_c, zsR_k, zsR_s, kon_0_0_0 hK3, kon_0_0_1 hK3, kon_0_0_2 hK3, kon_0_0_3 hK3, kon_0_0_4 hK3, kon_1_0_0 hK3, kon_6_0_0 hK3, kon_6_0_1 hK3, kon_6_0_4 hK3, kon_7_0_0 hK3, kon_7_0_1 hK3, kon_7_0_2 hK3, kon_7_0_3 hK3, kon_7_0_7 hK3, kon_7_0_8 hK3, kon_8_0_0 hK3, kon_8_0_1 hK3, kon_9_0_0 hK3, kon_10_0_0 hK3, kon_10_0_1 hK3, kon_10_0_9 hK3]
        exact h
      · rw [if_neg w2] at h
        simp only [zh_16_0, zh_16_1, zh_16_4, zh_16_7, zh_16_8, zh_16_11, zh_16_14, zh_16_17, zh_16_18, zh_16_21, zh_16_24, zh_16_27, zh_16_28, zh_16_29, zh_16_30, zh_16_33, zh_16_34, zh_16_37, zh_16_38, zh_16_41, zh_16_44, zh_16_45, zh_16_48, zh_16_51, zh_16_52, zwl_m1, zwl_0, zwl_1, zwl_2, zwl_3, zwl_4, zwl_5, zwl_6, zwl_7, zwl_8, zwl_10, zwl_15, zwl_24, zwl_32, zwl_33, zwl_40, zwl_41, zwl_42, zwl_43, zwl_45, zwl_47, zwl_48, zwl_52, zwl_56, zwl_57, zwl_59, zwl_60, zwl_61, zwl_63, zwl_64, zwl_66, zwl_67, zwl_68, zwl_70, zwl_75, zwl_77, zwl_80, zwl_82, zwl_84, zwl_88, zwl_89, zwl_97, zwl_104, zwl_110, zwl_112, zwl_114, zwl_118, zwl_123, zwl_125, zwl_126, zwl_159, zwl_160, zwl_200, zwl_255, zwl_480, zwl_960, zwl_3000, zs_kli, zs_klq, zs_kln, zs_wn, zs_wi, zs_wl, zs_wq, ↓zs_ok10, ↓zs_ok11, Option.toList_some, Option.toList_none, List.cons_append, List.nil_append, ↓reduceIte, Nat.reduceAdd, Nat.reduceLeDiff, true_and, and_true, Int.reduceEq, Int.reduceLT, Int.reduceLE, Int.reduceAdd, Int.reduceSub, Int.reduceMul, Int.reduceNeg, Nat.reduceEqDiff, Nat.reduceLT, Nat.reduceBEq, zsI_c, zsI_k, zsI_s, zsR_c, zsR_k, zsR_s, kon_0_0_0 hK3, kon_0_0_1 hK3, kon_0_0_2 hK3, kon_0_0_3 hK3, kon_0_0_4 hK3, kon_1_0_0 hK3, kon_6_0_0 hK3, kon_6_0_1 hK3, kon_6_0_4 hK3, kon_7_0_0 hK3, kon_7_0_1 hK3, kon_7_0_2 hK3, kon_7_0_3 hK3, kon_7_0_7 hK3, kon_7_0_8 hK3, kon_8_0_0 hK3, kon_8_0_1 hK3, kon_9_0_0 hK3, kon_10_0_0 hK3, kon_10_0_1 hK3, kon_10_0_9 hK3, ev, w2]
        rw [zcp_19]
        simp only [zh_16_0, zh_16_1, zh_16_4, zh_16_7, zh_16_8, zh_16_11, zh_16_14, zh_16_17, zh_16_18, zh_16_21, zh_16_24, zh_16_27, zh_16_28, zh_16_29, zh_16_30, zh_16_33, zh_16_34, zh_16_37, zh_16_38, zh_16_41, zh_16_44, zh_16_45, zh_16_48, zh_16_51, zh_16_52, zh_19_0, zh_19_1, zh_19_2, zh_19_5, zh_19_6, zh_19_7, zh_19_10, zh_19_11, zh_19_12, zh_19_15, zh_19_16, zh_19_17, zh_19_20, zh_19_21, zh_19_22, zh_19_25, zh_19_26, zh_19_29, zh_19_30, zh_19_33, zwl_m1, zwl_0, zwl_1, zwl_2, zwl_3, zwl_4, zwl_5, zwl_6, zwl_7, zwl_8, zwl_10, zwl_15, zwl_24, zwl_32, zwl_33, zwl_40, zwl_41, zwl_42, zwl_43, zwl_45, zwl_47, zwl_48, zwl_52, zwl_56, zwl_57, zwl_59, zwl_60, zwl_61, zwl_63, zwl_64, zwl_66, zwl_67, zwl_68, zwl_70, zwl_75, zwl_77, zwl_80, zwl_82, zwl_84, zwl_88, zwl_89, zwl_97, zwl_104, zwl_110, zwl_112, zwl_114, zwl_118, zwl_123, zwl_125, zwl_126, zwl_159, zwl_160, zwl_200, zwl_255, zwl_480, zwl_960, zwl_3000, zs_kli, zs_klq, zs_kln, zs_wn, zs_wi, zs_wl, zs_wq, ↓zs_ok10, ↓zs_ok11, Option.toList_some, Option.toList_none, List.cons_append, List.nil_append, ↓reduceIte, Nat.reduceAdd, Nat.reduceLeDiff, true_and, and_true, Int.reduceEq, Int.reduceLT, Int.reduceLE, Int.reduceAdd, Int.reduceSub, Int.reduceMul, Int.reduceNeg, Nat.reduceEqDiff, Nat.reduceLT, Nat.reduceBEq, zsI_c, zsI_k, zsI_s, zsR_c, zsR_k, zsR_s, kon_0_0_0 hK3, kon_0_0_1 hK3, kon_0_0_2 hK3, kon_0_0_3 hK3, kon_0_0_4 hK3, kon_1_0_0 hK3, kon_6_0_0 hK3, kon_6_0_1 hK3, kon_6_0_4 hK3, kon_7_0_0 hK3, kon_7_0_1 hK3, kon_7_0_2 hK3, kon_7_0_3 hK3, kon_7_0_7 hK3, kon_7_0_8 hK3, kon_8_0_0 hK3, kon_8_0_1 hK3, kon_9_0_0 hK3, kon_10_0_0 hK3, kon_10_0_1 hK3, kon_10_0_9 hK3]
        exact h
  -- the reference, to where its text has been read
  have hml : ∀ (I : zMI) (R : zMR) (al : zA) (d : Nat) (K : Option zV → zS → Prop), 96 ≤ d → Kon R → I 11 0 2 = (n : Int) → (∀ j, j < n → I 30 0 j = T j) → (∀ c k, 31 ≤ c → c ≤ 51 → I c 0 k = P0 c k) → (o = none → ∀ I', FD I I' → M0 I' → I' 11 0 5 = 0 → K (some (zi 1)) (I', R, al)) → (∀ e s b c q P, o = some (e, s, b, c, q, P) → ∀ I', FD I I' → M0 I' → PM I' T n n e s b P → I' 11 0 6 = (q : Int) → ∀ K' : Option zV → zS → Prop, (∀ v I'', 0 ≤ v → v ≤ 5 → K (some (zi v)) (zsI I'' 11 0 5 (if v = 0 then 1 else 0), R, al) → K' (some (zi v)) (I'', R, al)) → zCp (d + 3) 103 [zq (some (11, 0))] (I', R, al) K') → zCp (d + 4) 84 [zq (some (11, 0))] (I, R, al) K := fun I R al d K hd hK h2 h30 hP0 h0 hs => by
    rw [zcp_84]
    simp only [zh_84_0, zh_84_1, zh_84_2, zh_84_5, zh_84_6, zh_84_9, zh_84_10, zh_84_13, zh_84_14, zh_84_17, zh_84_20, zh_84_21, zh_84_24, zh_84_25, zh_84_28, zh_84_29, zh_84_30, zh_84_31, zh_84_34, zh_84_35, zh_84_38, zh_84_39, zh_84_42, zh_84_43, zwl_m1, zwl_0, zwl_1, zwl_2, zwl_3, zwl_4, zwl_5, zwl_6, zwl_7, zwl_8, zwl_10, zwl_15, zwl_24, zwl_32, zwl_33, zwl_40, zwl_41, zwl_42, zwl_43, zwl_45, zwl_47, zwl_48, zwl_52, zwl_56, zwl_57, zwl_59, zwl_60, zwl_61, zwl_63, zwl_64, zwl_66, zwl_67, zwl_68, zwl_70, zwl_75, zwl_77, zwl_80, zwl_82, zwl_84, zwl_88, zwl_89, zwl_97, zwl_104, zwl_110, zwl_112, zwl_114, zwl_118, zwl_123, zwl_125, zwl_126, zwl_159, zwl_160, zwl_200, zwl_255, zwl_480, zwl_960, zwl_3000, zs_kli, zs_klq, zs_kln, zs_wn, zs_wi, zs_wl, zs_wq, ↓zs_ok10, ↓zs_ok11, Option.toList_some, Option.toList_none, List.cons_append, List.nil_append, ↓reduceIte, Nat.reduceAdd, Nat.reduceLeDiff, true_and, and_true, Int.reduceEq, Int.reduceLT, Int.reduceLE, Int.reduceAdd, Int.reduceSub, Int.reduceMul, Int.reduceNeg, Nat.reduceEqDiff, Nat.reduceLT, Nat.reduceBEq, zsI_c, zsI_k, zsI_s, zsR_c, zsR_k, zsR_s]
    refine mg_forget hK (fun I1 hf1 => ?_)
    simp only [zh_84_0, zh_84_1, zh_84_2, zh_84_5, zh_84_6, zh_84_9, zh_84_10, zh_84_13, zh_84_14, zh_84_17, zh_84_20, zh_84_21, zh_84_24, zh_84_25, zh_84_28, zh_84_29, zh_84_30, zh_84_31, zh_84_34, zh_84_35, zh_84_38, zh_84_39, zh_84_42, zh_84_43, zwl_m1, zwl_0, zwl_1, zwl_2, zwl_3, zwl_4, zwl_5, zwl_6, zwl_7, zwl_8, zwl_10, zwl_15, zwl_24, zwl_32, zwl_33, zwl_40, zwl_41, zwl_42, zwl_43, zwl_45, zwl_47, zwl_48, zwl_52, zwl_56, zwl_57, zwl_59, zwl_60, zwl_61, zwl_63, zwl_64, zwl_66, zwl_67, zwl_68, zwl_70, zwl_75, zwl_77, zwl_80, zwl_82, zwl_84, zwl_88, zwl_89, zwl_97, zwl_104, zwl_110, zwl_112, zwl_114, zwl_118, zwl_123, zwl_125, zwl_126, zwl_159, zwl_160, zwl_200, zwl_255, zwl_480, zwl_960, zwl_3000, zs_kli, zs_klq, zs_kln, zs_wn, zs_wi, zs_wl, zs_wq, ↓zs_ok10, ↓zs_ok11, Option.toList_some, Option.toList_none, List.cons_append, List.nil_append, ↓reduceIte, Nat.reduceAdd, Nat.reduceLeDiff, true_and, and_true, Int.reduceEq, Int.reduceLT, Int.reduceLE, Int.reduceAdd, Int.reduceSub, Int.reduceMul, Int.reduceNeg, Nat.reduceEqDiff, Nat.reduceLT, Nat.reduceBEq, zsI_c, zsI_k, zsI_s, zsR_c, zsR_k, zsR_s]
    rw [zcp_86]
    simp only [zh_86_0, zh_86_1, zh_86_2, zh_86_5, zh_86_6, zh_86_7, zh_86_10, zh_86_11, zh_86_12, zh_86_15, zh_86_16, zh_86_17, zh_86_20, zh_86_21, zh_86_22, zh_86_25, zh_86_26, zh_86_27, zh_86_31, zh_86_34, zh_86_36, zh_86_39, zh_86_40, zh_86_43, zh_86_46, zh_86_47, zh_86_47q, zh_86_48, zh_86_51, zh_86_52, zh_86_53, zh_86_56, zh_86_57, zh_86_58, zh_86_61, zh_86_62, zh_86_65, zh_86_66, zh_86_69, zh_86_70, zh_86_73, zh_86_74, zh_86_77, zh_86_80, zh_86_81, zh_86_84, zh_86_85, zh_86_88, zh_86_89, zh_86_92, zh_86_93, zh_86_94, zh_86_97, zh_86_98, zh_86_101, zh_86_102, zh_86_103, zh_86_104, zh_86_105, zh_86_106, zh_86_109, zh_86_112, zh_86_115, zh_86_116, zh_86_119, zh_86_122, zh_86_123, zh_86_126, zh_86_127, zh_86_128, zh_86_129, zh_86_132, zh_86_135, zh_86_136, zh_86_137, zh_86_140, zh_86_141, zh_86_144, zh_86_145, zh_86_148, zh_86_149, zh_86_150, zh_86_151, zh_86_154, zh_86_155, zh_86_158, zh_86_159, zh_86_162, zh_86_163, zh_86_166, zh_86_167, zh_86_168, zh_86_169, zh_86_172, zh_86_173, zh_86_176, zh_86_177, zh_86_178, zh_86_179, zh_86_180, zh_86_183, zh_86_184, zh_86_187, zh_86_188, zh_86_191, zh_86_192, zh_86_195, zh_86_198, zh_86_199, zh_86_202, zh_86_203, zh_86_206, zh_86_207, zh_86_208, zh_86_208q, zh_86_209, zh_86_212, zh_86_213, zh_86_214, zh_86_217, zh_86_220, zh_86_221, zh_86_223, zh_86_226, zh_86_227, zh_86_230, zh_86_233, zh_86_234, zh_86_237, zh_86_238, zh_86_241, zh_86_242, zh_86_245, zh_86_246, zh_86_247, zh_86_248, zh_86_251, zh_86_254, zh_86_255, zh_86_258, zh_86_259, zh_86_262, zh_86_265, zh_86_266, zh_86_269, zh_86_270, zh_86_273, zwl_m1, zwl_0, zwl_1, zwl_2, zwl_3, zwl_4, zwl_5, zwl_6, zwl_7, zwl_8, zwl_10, zwl_15, zwl_24, zwl_32, zwl_33, zwl_40, zwl_41, zwl_42, zwl_43, zwl_45, zwl_47, zwl_48, zwl_52, zwl_56, zwl_57, zwl_59, zwl_60, zwl_61, zwl_63, zwl_64, zwl_66, zwl_67, zwl_68, zwl_70, zwl_75, zwl_77, zwl_80, zwl_82, zwl_84, zwl_88, zwl_89, zwl_97, zwl_104, zwl_110, zwl_112, zwl_114, zwl_118, zwl_123, zwl_125, zwl_126, zwl_159, zwl_160, zwl_200, zwl_255, zwl_480, zwl_960, zwl_3000, zs_kli, zs_klq, zs_kln, zs_wn, zs_wi, zs_wl, zs_wq, ↓zs_ok10, ↓zs_ok11, Option.toList_some, Option.toList_none, List.cons_append, List.nil_append, ↓reduceIte, Nat.reduceAdd, Nat.reduceLeDiff, true_and, and_true, Int.reduceEq, Int.reduceLT, Int.reduceLE, Int.reduceAdd, Int.reduceSub, Int.reduceMul, Int.reduceNeg, Nat.reduceEqDiff, Nat.reduceLT, Nat.reduceBEq, zsI_c, zsI_k, zsI_s, zsR_c, zsR_k, zsR_s]
    have z0 : M0 I1 := ⟨hf1.2.1, hf1.2.2.1, hf1.2.2.2.1, hf1.2.2.2.2.1, hf1.2.2.2.2.2⟩
    have y0 : ∀ t i k, ¬ (t = 11 ∧ (k = 3 ∨ k = 4 ∨ k = 10 ∨ k = 22 ∨ k = 28 ∨ k = 6)) → (zsI (zsI (zsI (zsI (zsI (zsI I1 11 0 3 0) 11 0 4 0) 11 0 10 0) 11 0 22 0) 11 0 28 0) 11 0 6 0) t i k = I1 t i k := fun t i k w => by rw [zsI_n (by omega), zsI_n (by omega), zsI_n (by omega), zsI_n (by omega), zsI_n (by omega), zsI_n (by omega)]
    have y3 : (zsI (zsI (zsI (zsI (zsI (zsI I1 11 0 3 0) 11 0 4 0) 11 0 10 0) 11 0 22 0) 11 0 28 0) 11 0 6 0) 11 0 3 = 0 := by rw [zsI_ne (by omega), zsI_ne (by omega), zsI_ne (by omega), zsI_ne (by omega), zsI_ne (by omega), zsI_s]
    have y4 : (zsI (zsI (zsI (zsI (zsI (zsI I1 11 0 3 0) 11 0 4 0) 11 0 10 0) 11 0 22 0) 11 0 28 0) 11 0 6 0) 11 0 4 = 0 := by rw [zsI_ne (by omega), zsI_ne (by omega), zsI_ne (by omega), zsI_ne (by omega), zsI_s]
    have y10 : (zsI (zsI (zsI (zsI (zsI (zsI I1 11 0 3 0) 11 0 4 0) 11 0 10 0) 11 0 22 0) 11 0 28 0) 11 0 6 0) 11 0 10 = 0 := by rw [zsI_ne (by omega), zsI_ne (by omega), zsI_ne (by omega), zsI_s]
    have y22 : (zsI (zsI (zsI (zsI (zsI (zsI I1 11 0 3 0) 11 0 4 0) 11 0 10 0) 11 0 22 0) 11 0 28 0) 11 0 6 0) 11 0 22 = 0 := by rw [zsI_ne (by omega), zsI_ne (by omega), zsI_s]
    have y28 : (zsI (zsI (zsI (zsI (zsI (zsI I1 11 0 3 0) 11 0 4 0) 11 0 10 0) 11 0 22 0) 11 0 28 0) 11 0 6 0) 11 0 28 = 0 := by rw [zsI_ne (by omega), zsI_s]
    have y6 : (zsI (zsI (zsI (zsI (zsI (zsI I1 11 0 3 0) 11 0 4 0) 11 0 10 0) 11 0 22 0) 11 0 28 0) 11 0 6 0) 11 0 6 = 0 := zsI_s ..
    generalize zsI (zsI (zsI (zsI (zsI (zsI I1 11 0 3 0) 11 0 4 0) 11 0 10 0) 11 0 22 0) 11 0 28 0) 11 0 6 0 = I2 at y0 y3 y4 y10 y22 y28 y6 ⊢
    have f1 : ∀ t i k, t ≠ 54 → ¬ (t = 11 ∧ 35 ≤ k ∧ k ≤ 38) → ¬ (t = 11 ∧ (k = 0 ∨ k = 3 ∨ k = 4 ∨ k = 10 ∨ k = 22 ∨ k = 28 ∨ k = 6)) → I2 t i k = I t i k := fun t i k w1 w2 w3 => by rw [y0 t i k (by omega), hf1.1 t i k w1 w2, zsI_n (by omega)]
    have f2 : FD I I2 := fun t i k w => f1 t i k (by omega) (by omega) (by omega)
    have c2 : M0 I2 := z0.eq (fun t i k w => y0 t i k (by omega))
    obtain ⟨d', rfl⟩ : ∃ d', d = d' + 5 := ⟨d - 5, by omega⟩
    refine hm R al hK d' I2 _ _ _ ⟨⟨?_, fun j hj => ?_, y3, y28, fun j => ⟨?_, ?_⟩⟩, y10, y22, fun c k w1 w2 => ?_, fun y hy => by omega⟩ y4 y6 (fun w I' g1 g4 => ?_) (fun e s b c q P w I' g1 g4 g5 g6 => ?_)
    · rw [f1 _ _ _ (by omega) (by omega) (by omega)]; exact h2
    · rw [f1 _ _ _ (by omega) (by omega) (by omega)]; exact h30 j hj
    · rw [f1 _ _ _ (by omega) (by omega) (by omega)]; exact hP0 50 j (by omega) (by omega)
    · rw [f1 _ _ _ (by omega) (by omega) (by omega)]; exact hP0 51 j (by omega) (by omega)
    · rw [f1 _ _ _ (by omega) (by omega) (by omega)]; exact hP0 c k w1 (by omega)
    · simp only [zh_84_0, zh_84_1, zh_84_2, zh_84_5, zh_84_6, zh_84_9, zh_84_10, zh_84_13, zh_84_14, zh_84_17, zh_84_20, zh_84_21, zh_84_24, zh_84_25, zh_84_28, zh_84_29, zh_84_30, zh_84_31, zh_84_34, zh_84_35, zh_84_38, zh_84_39, zh_84_42, zh_84_43, zwl_m1, zwl_0, zwl_1, zwl_2, zwl_3, zwl_4, zwl_5, zwl_6, zwl_7, zwl_8, zwl_10, zwl_15, zwl_24, zwl_32, zwl_33, zwl_40, zwl_41, zwl_42, zwl_43, zwl_45, zwl_47, zwl_48, zwl_52, zwl_56, zwl_57, zwl_59, zwl_60, zwl_61, zwl_63, zwl_64, zwl_66, zwl_67, zwl_68, zwl_70, zwl_75, zwl_77, zwl_80, zwl_82, zwl_84, zwl_88, zwl_89, zwl_97, zwl_104, zwl_110, zwl_112, zwl_114, zwl_118, zwl_123, zwl_125, zwl_126, zwl_159, zwl_160, zwl_200, zwl_255, zwl_480, zwl_960, zwl_3000, zs_kli, zs_klq, zs_kln, zs_wn, zs_wi, zs_wl, zs_wq, ↓zs_ok10, ↓zs_ok11, Option.toList_some, Option.toList_none, List.cons_append, List.nil_append, ↓reduceIte, Nat.reduceAdd, Nat.reduceLeDiff, true_and, and_true, Int.reduceEq, Int.reduceLT, Int.reduceLE, Int.reduceAdd, Int.reduceSub, Int.reduceMul, Int.reduceNeg, Nat.reduceEqDiff, Nat.reduceLT, Nat.reduceBEq, zsI_c, zsI_k, zsI_s, zsR_c, zsR_k, zsR_s, g4]
      exact h0 w _ (f2.tr (g1.fd.tr (fun t i k w => zsI_n (by omega)))) (c2.eq (fun t i k w => by rw [zsI_n (by omega)]; exact g1 t i k (by omega) (by omega))) (zsI_s ..)
    · simp only [zh_84_0, zh_84_1, zh_84_2, zh_84_5, zh_84_6, zh_84_9, zh_84_10, zh_84_13, zh_84_14, zh_84_17, zh_84_20, zh_84_21, zh_84_24, zh_84_25, zh_84_28, zh_84_29, zh_84_30, zh_84_31, zh_84_34, zh_84_35, zh_84_38, zh_84_39, zh_84_42, zh_84_43, zwl_m1, zwl_0, zwl_1, zwl_2, zwl_3, zwl_4, zwl_5, zwl_6, zwl_7, zwl_8, zwl_10, zwl_15, zwl_24, zwl_32, zwl_33, zwl_40, zwl_41, zwl_42, zwl_43, zwl_45, zwl_47, zwl_48, zwl_52, zwl_56, zwl_57, zwl_59, zwl_60, zwl_61, zwl_63, zwl_64, zwl_66, zwl_67, zwl_68, zwl_70, zwl_75, zwl_77, zwl_80, zwl_82, zwl_84, zwl_88, zwl_89, zwl_97, zwl_104, zwl_110, zwl_112, zwl_114, zwl_118, zwl_123, zwl_125, zwl_126, zwl_159, zwl_160, zwl_200, zwl_255, zwl_480, zwl_960, zwl_3000, zs_kli, zs_klq, zs_kln, zs_wn, zs_wi, zs_wl, zs_wq, ↓zs_ok10, ↓zs_ok11, Option.toList_some, Option.toList_none, List.cons_append, List.nil_append, ↓reduceIte, Nat.reduceAdd, Nat.reduceLeDiff, true_and, and_true, Int.reduceEq, Int.reduceLT, Int.reduceLE, Int.reduceAdd, Int.reduceSub, Int.reduceMul, Int.reduceNeg, Nat.reduceEqDiff, Nat.reduceLT, Nat.reduceBEq, zsI_c, zsI_k, zsI_s, zsR_c, zsR_k, zsR_s, g4]
      refine hs e s b c q P w I' (f2.tr g1.fd) (c2.eq (fun t i k w => g1 t i k (by omega) (by omega))) g5 g6 _ (fun v I'' v1 v2 h => ?_)
      have ev : zw v = v := zw_i (by omega) (by omega)
      by_cases w2 : v = 0
      · rw [if_pos w2] at h
        subst w2
        simp only [zh_84_0, zh_84_1, zh_84_2, zh_84_5, zh_84_6, zh_84_9, zh_84_10, zh_84_13, zh_84_14, zh_84_17, zh_84_20, zh_84_21, zh_84_24, zh_84_25, zh_84_28, zh_84_29, zh_84_30, zh_84_31, zh_84_34, zh_84_35, zh_84_38, zh_84_39, zh_84_42, zh_84_43, zwl_m1, zwl_0, zwl_1, zwl_2, zwl_3, zwl_4, zwl_5, zwl_6, zwl_7, zwl_8, zwl_10, zwl_15, zwl_24, zwl_32, zwl_33, zwl_40, zwl_41, zwl_42, zwl_43, zwl_45, zwl_47, zwl_48, zwl_52, zwl_56, zwl_57, zwl_59, zwl_60, zwl_61, zwl_63, zwl_64, zwl_66, zwl_67, zwl_68, zwl_70, zwl_75, zwl_77, zwl_80, zwl_82, zwl_84, zwl_88, zwl_89, zwl_97, zwl_104, zwl_110, zwl_112, zwl_114, zwl_118, zwl_123, zwl_125, zwl_126, zwl_159, zwl_160, zwl_200, zwl_255, zwl_480, zwl_960, zwl_3000, zs_kli, zs_klq, zs_kln, zs_wn, zs_wi, zs_wl, zs_wq, ↓zs_ok10, ↓zs_ok11, Option.toList_some, Option.toList_none, List.cons_append, List.nil_append, ↓reduceIte, Nat.reduceAdd, Nat.reduceLeDiff, true_and, and_true, Int.reduceEq, Int.reduceLT, Int.reduceLE, Int.reduceAdd, Int.reduceSub, Int.reduceMul, Int.reduceNeg, Nat.reduceEqDiff, Nat.reduceLT, Nat.reduceBEq, zsI_c, zsI_k, zsI_s, zsR_c, zsR_k, zsR_s]
        exact h
      · rw [if_neg w2] at h
        simp only [zh_84_0, zh_84_1, zh_84_2, zh_84_5, zh_84_6, zh_84_9, zh_84_10, zh_84_13, zh_84_14, zh_84_17, zh_84_20, zh_84_21, zh_84_24, zh_84_25, zh_84_28, zh_84_29, zh_84_30, zh_84_31, zh_84_34, zh_84_35, zh_84_38, zh_84_39, zh_84_42, zh_84_43, zwl_m1, zwl_0, zwl_1, zwl_2, zwl_3, zwl_4, zwl_5, zwl_6, zwl_7, zwl_8, zwl_10, zwl_15, zwl_24, zwl_32, zwl_33, zwl_40, zwl_41, zwl_42, zwl_43, zwl_45, zwl_47, zwl_48, zwl_52, zwl_56, zwl_57, zwl_59, zwl_60, zwl_61, zwl_63, zwl_64, zwl_66, zwl_67, zwl_68, zwl_70, zwl_75, zwl_77, zwl_80, zwl_82, zwl_84, zwl_88, zwl_89, zwl_97, zwl_104, zwl_110, zwl_112, zwl_114, zwl_118, zwl_123, zwl_125, zwl_126, zwl_159, zwl_160, zwl_200, zwl_255, zwl_480, zwl_960, zwl_3000, zs_kli, zs_klq, zs_kln, zs_wn, zs_wi, zs_wl, zs_wq, ↓zs_ok10, ↓zs_ok11, Option.toList_some, Option.toList_none, List.cons_append, List.nil_append, ↓reduceIte, Nat.reduceAdd, Nat.reduceLeDiff, true_and, and_true, Int.reduceEq, Int.reduceLT, Int.reduceLE, Int.reduceAdd, Int.reduceSub, Int.reduceMul, Int.reduceNeg, Nat.reduceEqDiff, Nat.reduceLT, Nat.reduceBEq, zsI_c, zsI_k, zsI_s, zsR_c, zsR_k, zsR_s, ev, w2]
        exact h
  cases o with
  | none =>
    refine ⟨1, P0, by omega, by omega, fun w => by omega, fun I R al d K hd hK h2 h1 h20 h => ?_, fun I R al d K hd hK h2 h30 hP0 h => ?_⟩
    · obtain ⟨d', rfl⟩ : ∃ d', d = d' + 4 := ⟨d - 4, by omega⟩
      exact hcl I R al d' K (by omega) hK h1 h20 (fun _ I' R' f1 f2 f3 f4 f5 f6 => h I' R' f1 f2 f3 (fun _ => ⟨f4, f5, f6⟩) (fun w => by omega)) (fun e s b c q P w => by cases w)
    · obtain ⟨d', rfl⟩ : ∃ d', d = d' + 4 := ⟨d - 4, by omega⟩
      exact hml I R al d' K (by omega) hK h2 h30 hP0 (fun _ I' f1 f2 f3 => h I' f1 f2 (fun _ => f3) (fun w => by omega)) (fun e s b c q P w => by cases w)
  | some x =>
    obtain ⟨e, s, b, c, q, P⟩ := x
    have hN := ok e s b c q P rfl
    obtain ⟨hP, hO, hTg⟩ := nf_prog hN
    obtain ⟨v, v1, v2, w1, w2, w3, w4, w5⟩ := vd_ex (pF P e s b q)
    refine ⟨v, pF P e s b q, v1, v2, fun w => ⟨hP, Chk.of (w5 w).1⟩, fun I R al d K hd hK h2 h1 h20 h => ?_, fun I R al d K hd hK h2 h30 hP0 h => ?_⟩
    · obtain ⟨d', rfl⟩ : ∃ d', d = d' + 4 := ⟨d - 4, by omega⟩
      refine hcl I R al d' K (by omega) hK h1 h20 (fun w => by cases w) (fun e' s' b' c' q' P' w I' R' f1 f2 f3 K' hK' => ?_)
      cases w
      have hC0 := cf_c0 f3 hN ((f1 2 0 1 (by omega)).trans h2)
      obtain ⟨d'', rfl⟩ : ∃ d'', d' = d'' + 1 := ⟨d' - 1, by omega⟩
      have hbad : v ≠ 0 → ∀ I'' R'', FrK I' I'' → FrR R' R'' → K' (some (zi v)) (I'', R'', al) := fun hv I'' R'' g1 g2 => by
        have hK3 := hC0.1.frr g2
        refine hK' v I'' R'' v1 v2 hK3 ?_
        rw [if_neg hv]
        refine h _ R'' (f1.tr (g1.fc.tr (fun t i k w => ?_))) hK3 ?_ (fun _ => ⟨?_, ?_, ?_⟩) (fun w => absurd w hv)
        · rw [zsI_n (by omega), zsI_n (by omega), zsI_n (by omega), zsI_n (by omega), zsI_n (by omega), zsI_n (by omega)]
        · refine f2.eq (fun t i k w => ?_)
          rw [zsI_n (by omega), zsI_n (by omega), zsI_n (by omega), zsI_n (by omega), zsI_n (by omega), zsI_n (by omega)]
          exact g1 t i k (by omega) (by omega) (by omega)
        · rw [zsI_ne (by omega), zsI_ne (by omega), zsI_ne (by omega), zsI_ne (by omega), zsI_ne (by omega), zsI_s]
        · rw [zsI_ne (by omega), zsI_ne (by omega), zsI_ne (by omega), zsI_ne (by omega), zsI_s]
        · rw [zsI_ne (by omega), zsI_ne (by omega), zsI_ne (by omega), zsI_s]
      refine cv hP hO hTg (by omega) hC0 (fun a I'' R'' g1 g2 => ?_) (fun a a2 I'' R'' g1 g2 => ?_) (fun a a2 a3 I'' R'' g1 g2 => ?_) (fun a a2 a3 I'' R'' g1 g2 g3 g4 g5 => ?_)
      · have := w1 a
        rw [← this]
        exact hbad (by omega) I'' R'' g1 g2
      · have := w2 a a2
        have hb := hbad (by omega) I'' R'' g1 g2
        rw [this] at hb
        exact hb
      · have := w3 a a2 a3
        have hb := hbad (by omega) I'' R'' g1 g2
        rw [this] at hb
        exact hb
      · have hv := w4 a a2 a3
        subst hv
        refine hK' 0 I'' R'' v1 v2 g3.1 ?_
        rw [if_pos rfl]
        have hrep := c0_rep g3 g4 (Chk.of a)
        refine h _ R'' (f1.tr (g1.fc.tr (fun t i k w => zsI_n (by omega)))) g3.1 (f2.eq (fun t i k w => by rw [zsI_n (by omega)]; exact g1 t i k (by omega) (by omega) (by omega))) (fun w => absurd rfl w) (fun _ => ⟨zsI_s .., hrep.eqs (fun i k => zsI_n (by omega)) (fun i k => zsI_n (by omega)) (fun i k => zsI_n (by omega)) (fun i k => zsI_n (by omega)) (fun i k => zsI_n (by omega)), ?_, ?_, fun p hp => ?_⟩)
        · rw [zsI_ne (by omega)]; exact g3.2.2.2.2.2.2.1
        · rw [zsI_ne (by omega)]; exact g3.2.2.2.2.2.2.2.1
        · rw [zsI_n (by omega)]; exact g5 p hp
    · obtain ⟨d', rfl⟩ : ∃ d', d = d' + 4 := ⟨d - 4, by omega⟩
      refine hml I R al d' K (by omega) hK h2 h30 hP0 (fun w => by cases w) (fun e' s' b' c' q' P' w I' f1 f2 f3 f4 K' hK' => ?_)
      cases w
      obtain ⟨r1, r2, r3⟩ := pm_rep f3 f4
      obtain ⟨d'', rfl⟩ : ∃ d'', d' = d'' + 1 := ⟨d' - 1, by omega⟩
      have hbad : v ≠ 0 → ∀ I'', FrX I' I'' → K' (some (zi v)) (I'', R, al) := fun hv I'' g1 => by
        refine hK' v I'' v1 v2 ?_
        rw [if_neg hv]
        exact h _ (f1.tr (g1.fd.tr (fun t i k w => zsI_n (by omega)))) (f2.eq (fun t i k w => by rw [zsI_n (by omega)]; exact g1 t i k (by omega) (by omega))) (fun _ => zsI_s ..) (fun w => absurd w hv)
      refine mvd hK hP hO hTg r1 r2 r3 (fun a => ?_) (fun a a2 => ?_) (fun a a2 a3 I'' g1 => ?_) (fun a a2 a3 I'' g1 g2 => ?_)
      · have := w1 a
        rw [← this]
        exact hbad (by omega) I' (fun _ _ _ _ _ => rfl)
      · have := w2 a a2
        have hb := hbad (by omega) I' (fun _ _ _ _ _ => rfl)
        rw [this] at hb
        exact hb
      · have := w3 a a2 a3
        have hb := hbad (by omega) I'' g1
        rw [this] at hb
        exact hb
      · have hv := w4 a a2 a3
        subst hv
        refine hK' 0 I'' v1 v2 ?_
        rw [if_pos rfl]
        refine h _ (f1.tr (g1.fd.tr (fun t i k w => zsI_n (by omega)))) (f2.eq (fun t i k w => by rw [zsI_n (by omega)]; exact g1 t i k (by omega) (by omega))) (fun w => absurd rfl w) (fun _ => ⟨zsI_s .., ⟨fun c k h1 h2 => ?_, ?_⟩, ?_, fun y hy => ?_⟩)
        · rw [zsI_n (by omega), g1 c 0 k (by omega) (by omega)]; exact r1.1 c k h1 h2
        · rw [zsI_ne (by omega), g1 _ _ _ (by omega) (by omega)]; exact r1.2
        · rw [zsI_ne (by omega), g1 _ _ _ (by omega) (by omega)]; exact r2
        · rw [zsI_n (by omega)]; exact g2 y hy
end
