/-! the class finds in which way a program is wrong -/
def ffR (P : Nat → Nat → Int) : Nat → Nat → Int
  | 0, _ => 0
  | m + 1, s => if fO P s = 0 then ffR P m (s + 1) else fO P s
def nm2 (P : Nat → Nat → Int) : Prop := ∃ k, k < nP P ∧ pIx P (P 31 k) (nP P) ≠ some k
/-- the procedure (or, last, M) raises what it doesn't declare -/
def undc (P : Nat → Nat → Int) (p : Nat) : Prop := ¬ rT P (P 33 p).toNat &&& (31 ^^^ (if p = nP P then 0 else (P 32 p).toNat)) = 0
def bad5 (P : Nat → Nat → Int) : Prop := (∃ s, idl P s) ∨ ∃ p, p ≤ nP P ∧ undc P p
theorem fO_n {P : Nat → Nat → Int} {s : Nat} : fO P s = 0 ∨ fO P s = 2 ∨ fO P s = 3 ∨ fO P s = 4 := by
  unfold fO
  split
  · exact Or.inr (Or.inl rfl)
  · split
    · exact Or.inr (Or.inr (Or.inl rfl))
    · split
      · split
        · exact Or.inr (Or.inr (Or.inr rfl))
        · exact Or.inl rfl
      · exact Or.inl rfl
theorem ffR_all {P : Nat → Nat → Int} : ∀ (m s : Nat), ffR P m s = 0 → ∀ z, s ≤ z → z < s + m → fO P z = 0
  | 0, _, _, z, h1, h2 => by omega
  | m + 1, s, h, z, h1, h2 => by
    rw [ffR] at h
    by_cases q : fO P s = 0
    · rw [if_pos q] at h
      by_cases e : z = s
      · rw [e]; exact q
      · exact ffR_all m (s + 1) h z (by omega) (by omega)
    · rw [if_neg q] at h
      exact absurd h q
theorem Chk.of {P : Nat → Nat → Int} (h : ffR P (nS P) 0 = 0) : Chk P := fun s hs => by
  have h0 := ffR_all _ _ h s (Nat.zero_le _) (by omega)
  unfold fO at h0
  constructor
  · intro k q
    have e : outI P s = 1 := by
      unfold outI
      rw [if_neg (by omega), if_pos k, if_pos q]
    rw [if_pos e] at h0
    cases h0
  · intro k
    by_cases q1 : outI P s = 1
    · rw [if_pos q1] at h0
      cases h0
    · rw [if_neg q1] at h0
      cases hp : pIx P (P 35 s) (nP P) with
      | none =>
        rw [if_pos ⟨k, hp⟩] at h0
        cases h0
      | some p => exact ⟨p, rfl, (pIx_lt _ _ hp).1⟩
/-- what the finding may change -/
def FrK (I I' : zMI) : Prop := ∀ c i k, ¬ (c = 9 ∧ k = 1) → ¬ (c = 4 ∧ k = 10) → ¬ (c = 2 ∧ k = 2) → I' c i k = I c i k
theorem FrK.tr {I I1 I' : zMI} (h0 : FrK I I1) (h : FrK I1 I') : FrK I I' := fun c i k h1 h2 h3 => (h c i k h1 h2 h3).trans (h0 c i k h1 h2 h3)
theorem FrK.rfl {I : zMI} : FrK I I := fun _ _ _ _ _ _ => Eq.refl _
theorem FrG.frk {I I' : zMI} (h : FrG I I') : FrK I I' := fun c i k h1 _ _ => h c i k h1
theorem FrK.set {I I' : zMI} {c i k : Nat} {v : Int} (h : FrK I I') (hc : (c = 9 ∧ k = 1) ∨ (c = 4 ∧ k = 10) ∨ (c = 2 ∧ k = 2)) : FrK I (zsI I' c i k v) := fun c' i' k' h1 h2 h3 => by
  rw [zsI_n (by omega)]; exact h c' i' k' h1 h2 h3
def FrR (R R' : zMR) : Prop := ∀ c i k, ¬ (c = 4 ∧ k = 7) → R' c i k = R c i k
theorem CatL.fr {I I' : zMI} {R R' : zMR} {P : Nat → Nat → Int} {s n : Nat} {r : Option (Nat × Nat)} (h : CatL I R P s n r) (hI : FrK I I') (hR : FrR R R') : CatL I' R' P s n r := CatL.eq (fun e k => hI 5 e k (by omega) (by omega) (by omega)) (fun e k => hR 5 e k (by omega)) n r h
theorem CR0.fr {I I' : zMI} {R R' : zMR} {P : Nat → Nat → Int} (h : CR0 I R P) (hI : FrK I I') (hR : FrR R R') (h7 : ∀ s, s < nS P → P 34 s ≠ 80 → R' 4 s 7 = R 4 s 7) : CR0 I' R' P := by
  have e4 : ∀ i k, k ≠ 10 → I' 4 i k = I 4 i k := fun i k hk => hI 4 i k (by omega) (by omega) (by omega)
  have e3 : ∀ i k, I' 3 i k = I 3 i k := fun i k => hI 3 i k (by omega) (by omega) (by omega)
  have r4 : ∀ i k, k ≠ 7 → R' 4 i k = R 4 i k := fun i k hk => hR 4 i k (by omega)
  have r3 : ∀ i k, R' 3 i k = R 3 i k := fun i k => hR 3 i k (by omega)
  have r2 : ∀ i k, R' 2 i k = R 2 i k := fun i k => hR 2 i k (by omega)
  obtain ⟨h1, h2, h3, h4, h5, h6, h7', h8, h9⟩ := h
  refine ⟨fun c i k hc => (hR c i k (by omega)).trans (h1 c i k hc), fun s hs => ?_, fun b hb => ?_, fun j hj => ?_, (r2 _ _).trans h5, fun p hp => ?_, (hI _ _ _ (by omega) (by omega) (by omega)).trans h7', (hI _ _ _ (by omega) (by omega) (by omega)).trans h8, (hI _ _ _ (by omega) (by omega) (by omega)).trans h9⟩
  · obtain ⟨a, b⟩ := h2 s hs
    obtain ⟨a1, a2, a3, a4⟩ := a
    obtain ⟨b1, b2, b3, b4, b5, b6, b7⟩ := b
    refine ⟨⟨(e4 _ _ (by decide)).trans a1, (r4 _ _ (by decide)).trans a2, (r4 _ _ (by decide)).trans a3, (r4 _ _ (by decide)).trans a4⟩, fun q => (e4 _ _ (by decide)).trans (b1 q), fun q => ⟨(e4 _ _ (by decide)).trans (b2 q).1, (e4 _ _ (by decide)).trans (b2 q).2⟩, fun q => (h7 s hs (by omega)).trans (b3 q), fun q => (r4 _ _ (by decide)).trans (b4 q), fun q => (r4 _ _ (by decide)).trans (b5 q), fun q => (r4 _ _ (by decide)).trans (b6 q), fun q => ?_⟩
    rw [r4 _ _ (by decide)]
    exact (b7 q).fr hI hR
  · obtain ⟨a1, a2, a3, a4, a5⟩ := h3 b hb
    exact ⟨(r3 _ _).trans a1, (r3 _ _).trans a2, (e3 _ _).trans a3, (e3 _ _).trans a4, (e3 _ _).trans a5⟩
  · obtain ⟨a1, a2⟩ := h4 j hj
    exact ⟨(hI _ _ _ (by omega) (by omega) (by omega)).trans a1, (hI _ _ _ (by omega) (by omega) (by omega)).trans a2⟩
  · obtain ⟨a1, a2, a3⟩ := h6 p hp
    exact ⟨(hI _ _ _ (by omega) (by omega) (by omega)).trans a1, (hI _ _ _ (by omega) (by omega) (by omega)).trans a2, (r2 _ _).trans a3⟩
section
variable {d : Nat} {P : Nat → Nat → Int} {al : zA} {K : Option zV → zS → Prop}
theorem lk_loop (hP : PWf P) (m : Nat) : ∀ (i : Nat) (ii : Int) (I : zMI) (R : zMR) (l2 l3 : Option zV), ii = (i : Int) → i + m = nS P → CR0 I R P → (∀ s, s < i → CL0 I R P s) → (∀ I' R', FrK I I' → FrR R R' → CR0 I' R' P → (∀ s, s < nS P → CL0 I' R' P s) → K none (I', R', al)) →
    Zgo (d + 1) 44 2 [some (zq (some (9, 0))), some (zi ii), l2, l3] [] (I, R, al) K := by
  have h80 := hP.1
  induction m with
  | zero =>
    intro i ii I R l2 l3 hi hm hC hL h
    have hK := hC.1
    have h5 := hC.2.2.2.2.2.2.2.1
    generalize hx : (nS P : Int) = x at h5
    have e1 : zw ii = ii := zw_i (by omega) (by omega)
    have e2 : zw x = x := zw_i (by omega) (by omega)
    have e3 : ¬ ii < x := by omega
    rw [zh_44_2]
    simp only [zh_44_0, zh_44_1, zh_44_3, zh_44_4, zh_44_7, zh_44_10, zh_44_13, zh_44_14, zh_44_17, zh_44_20, zh_44_21, zh_44_22, zh_44_23, zh_44_24, zh_44_27, zh_44_29, zh_44_32, zh_44_33, zh_44_36, zh_44_37, zh_44_40, zh_44_43, zh_44_44, zh_44_45, zh_44_46n, zh_44_46, zh_44_49, zh_44_50, zh_44_53, zh_44_54, zh_44_57, zh_44_60, zh_44_61, zh_44_62n, zh_44_62, zh_44_65, zh_44_66, zh_44_69, zh_44_70, zh_44_73, zh_44_76, zh_44_79, zh_44_82, zwl_m1, zwl_0, zwl_1, zwl_2, zwl_3, zwl_4, zwl_5, zwl_6, zwl_7, zwl_8, zwl_10, zwl_15, zwl_24, zwl_32, zwl_33, zwl_40, zwl_41, zwl_42, zwl_43, zwl_45, zwl_47, zwl_48, zwl_52, zwl_56, zwl_57, zwl_59, zwl_60, zwl_61, zwl_63, zwl_64, zwl_66, zwl_67, zwl_68, zwl_70, zwl_75, zwl_77, zwl_80, zwl_82, zwl_84, zwl_88, zwl_89, zwl_97, zwl_104, zwl_110, zwl_112, zwl_114, zwl_118, zwl_123, zwl_125, zwl_126, zwl_159, zwl_160, zwl_200, zwl_255, zwl_480, zwl_960, zwl_3000, zs_kli, zs_klq, zs_kln, zs_wn, zs_wi, zs_wl, zs_wq, ↓zs_ok10, ↓zs_ok11, Option.toList_some, Option.toList_none, List.cons_append, List.nil_append, ↓reduceIte, Nat.reduceAdd, Nat.reduceLeDiff, true_and, and_true, Int.reduceEq, Int.reduceLT, Int.reduceLE, Int.reduceAdd, Int.reduceSub, Int.reduceMul, Int.reduceNeg, Nat.reduceEqDiff, Nat.reduceLT, Nat.reduceBEq, zsI_c, zsI_k, zsI_s, zsR_c, zsR_k, zsR_s, kon_0_0_0 hK, kon_0_0_1 hK, kon_0_0_2 hK, kon_0_0_3 hK, kon_0_0_4 hK, kon_1_0_0 hK, kon_6_0_0 hK, kon_6_0_1 hK, kon_6_0_4 hK, kon_7_0_0 hK, kon_7_0_1 hK, kon_7_0_2 hK, kon_7_0_3 hK, kon_7_0_7 hK, kon_7_0_8 hK, kon_8_0_0 hK, kon_8_0_1 hK, kon_9_0_0 hK, kon_10_0_0 hK, kon_10_0_1 hK, kon_10_0_9 hK, h5, e1, e2, e3]
    exact h I R FrK.rfl (fun _ _ _ _ => rfl) hC (fun s hs => hL s (by omega))
  | succ m ih =>
    intro i ii I R l2 l3 hi hm hC hL h
    have hK := hC.1
    have h5 := hC.2.2.2.2.2.2.2.1
    generalize hx : (nS P : Int) = x at h5
    have e1 : zw ii = ii := zw_i (by omega) (by omega)
    have e2 : zw x = x := zw_i (by omega) (by omega)
    have e3 : ii < x := by omega
    have hi80 : i < 80 := by omega
    have hin : i < nS P := by omega
    have e4 := kon_22 hK hi80
    obtain ⟨s1, s2, s3, s4⟩ := (hC.2.1 i hin).1
    have hd := (hC.2.1 i hin).2
    have hw := hP.2.2.2.2.2.1 i hin
    have hr := knd_r hw.1
    rw [zh_44_2]
    by_cases k : P 34 i = 80
    · have w35 := hw.2.2.2.2.2.2.1 k
      have h1 := hd.1 (Or.inr (Or.inr k))
      have s1' := s1
      rw [k] at s1'
      simp only [zh_44_0, zh_44_1, zh_44_3, zh_44_4, zh_44_7, zh_44_10, zh_44_13, zh_44_14, zh_44_17, zh_44_20, zh_44_21, zh_44_22, zh_44_23, zh_44_24, zh_44_27, zh_44_29, zh_44_32, zh_44_33, zh_44_36, zh_44_37, zh_44_40, zh_44_43, zh_44_44, zh_44_45, zh_44_46n, zh_44_46, zh_44_49, zh_44_50, zh_44_53, zh_44_54, zh_44_57, zh_44_60, zh_44_61, zh_44_62n, zh_44_62, zh_44_65, zh_44_66, zh_44_69, zh_44_70, zh_44_73, zh_44_76, zh_44_79, zh_44_82, zwl_m1, zwl_0, zwl_1, zwl_2, zwl_3, zwl_4, zwl_5, zwl_6, zwl_7, zwl_8, zwl_10, zwl_15, zwl_24, zwl_32, zwl_33, zwl_40, zwl_41, zwl_42, zwl_43, zwl_45, zwl_47, zwl_48, zwl_52, zwl_56, zwl_57, zwl_59, zwl_60, zwl_61, zwl_63, zwl_64, zwl_66, zwl_67, zwl_68, zwl_70, zwl_75, zwl_77, zwl_80, zwl_82, zwl_84, zwl_88, zwl_89, zwl_97, zwl_104, zwl_110, zwl_112, zwl_114, zwl_118, zwl_123, zwl_125, zwl_126, zwl_159, zwl_160, zwl_200, zwl_255, zwl_480, zwl_960, zwl_3000, zs_kli, zs_klq, zs_kln, zs_wn, zs_wi, zs_wl, zs_wq, ↓zs_ok10, ↓zs_ok11, Option.toList_some, Option.toList_none, List.cons_append, List.nil_append, ↓reduceIte, Nat.reduceAdd, Nat.reduceLeDiff, true_and, and_true, Int.reduceEq, Int.reduceLT, Int.reduceLE, Int.reduceAdd, Int.reduceSub, Int.reduceMul, Int.reduceNeg, Nat.reduceEqDiff, Nat.reduceLT, Nat.reduceBEq, zsI_c, zsI_k, zsI_s, zsR_c, zsR_k, zsR_s, kon_0_0_0 hK, kon_0_0_1 hK, kon_0_0_2 hK, kon_0_0_3 hK, kon_0_0_4 hK, kon_1_0_0 hK, kon_6_0_0 hK, kon_6_0_1 hK, kon_6_0_4 hK, kon_7_0_0 hK, kon_7_0_1 hK, kon_7_0_2 hK, kon_7_0_3 hK, kon_7_0_7 hK, kon_7_0_8 hK, kon_8_0_0 hK, kon_8_0_1 hK, kon_9_0_0 hK, kon_10_0_0 hK, kon_10_0_1 hK, kon_10_0_9 hK, h5, e1, e2, e3, ↓za22 hi hi80, e4, s1', h1]
      have hgo : ∀ (v : Option (Nat × Nat)) (t : Int) (l3 : Option zV), (match pIx P (P 35 i) (nP P) with
            | some p => v = rf 3 (P 33 p) ∧ t = P 32 p
            | none => v = none) → Zgo (d + 1) 44 2 [some (zq (some (9, 0))), some (zi (ii + 1)), some (zq (some (4, i))), l3] [] (zsI I 4 i 10 t, zsR R 4 i 7 v, al) K := fun v t l3 hv => by
        have fI : FrK I (zsI I 4 i 10 t) := FrK.rfl.set (by omega)
        have fR : FrR R (zsR R 4 i 7 v) := fun c i' k' hc => zsR_n (by omega)
        refine ih (i + 1) _ _ _ _ _ (by omega) (by omega) (hC.fr fI fR (fun s hs hk => zsR_n (fun q => hk (by rw [q.2.1]; exact k)))) (fun s hs => ?_) (fun I' R' g1 g2 g3 g4 => h I' R' (fI.tr g1) (fun c i' k' hc => (g2 c i' k' hc).trans (fR c i' k' hc)) g3 g4)
        by_cases e : s = i
        · subst e
          intro _
          cases hp : pIx P (P 35 s) (nP P) with
          | none =>
            rw [hp] at hv
            show zsR R 4 s 7 v 4 s 7 = none
            rw [zsR_s]
            exact hv
          | some p =>
            rw [hp] at hv
            show zsR R 4 s 7 v 4 s 7 = rf 3 (P 33 p) ∧ zsI I 4 s 10 t 4 s 10 = P 32 p
            rw [zsR_s, zsI_s]
            exact hv
        · have := hL s (by omega)
          unfold CL0 at this ⊢
          rw [zsR_n (by omega), zsI_n (by omega)]
          exact this
      refine cn_named hK hC.2.2.2.2.2.1 hC.2.2.2.2.2.2.1 hP.2.2.2.1 hP.2.2.2.2.2.2.2.2 (zw_i (by omega) (by omega)) (fun p hp => ?_) (fun hp => ?_)
      · obtain ⟨c1, c2, c3⟩ := hC.2.2.2.2.2.1 p (pIx_lt _ _ hp).1
        simp only [zh_44_0, zh_44_1, zh_44_3, zh_44_4, zh_44_7, zh_44_10, zh_44_13, zh_44_14, zh_44_17, zh_44_20, zh_44_21, zh_44_22, zh_44_23, zh_44_24, zh_44_27, zh_44_29, zh_44_32, zh_44_33, zh_44_36, zh_44_37, zh_44_40, zh_44_43, zh_44_44, zh_44_45, zh_44_46n, zh_44_46, zh_44_49, zh_44_50, zh_44_53, zh_44_54, zh_44_57, zh_44_60, zh_44_61, zh_44_62n, zh_44_62, zh_44_65, zh_44_66, zh_44_69, zh_44_70, zh_44_73, zh_44_76, zh_44_79, zh_44_82, zwl_m1, zwl_0, zwl_1, zwl_2, zwl_3, zwl_4, zwl_5, zwl_6, zwl_7, zwl_8, zwl_10, zwl_15, zwl_24, zwl_32, zwl_33, zwl_40, zwl_41, zwl_42, zwl_43, zwl_45, zwl_47, zwl_48, zwl_52, zwl_56, zwl_57, zwl_59, zwl_60, zwl_61, zwl_63, zwl_64, zwl_66, zwl_67, zwl_68, zwl_70, zwl_75, zwl_77, zwl_80, zwl_82, zwl_84, zwl_88, zwl_89, zwl_97, zwl_104, zwl_110, zwl_112, zwl_114, zwl_118, zwl_123, zwl_125, zwl_126, zwl_159, zwl_160, zwl_200, zwl_255, zwl_480, zwl_960, zwl_3000, zs_kli, zs_klq, zs_kln, zs_wn, zs_wi, zs_wl, zs_wq, ↓zs_ok10, ↓zs_ok11, Option.toList_some, Option.toList_none, List.cons_append, List.nil_append, ↓reduceIte, Nat.reduceAdd, Nat.reduceLeDiff, true_and, and_true, Int.reduceEq, Int.reduceLT, Int.reduceLE, Int.reduceAdd, Int.reduceSub, Int.reduceMul, Int.reduceNeg, Nat.reduceEqDiff, Nat.reduceLT, Nat.reduceBEq, zsI_c, zsI_k, zsI_s, zsR_c, zsR_k, zsR_s, c3, c2]
        exact hgo _ _ _ (by rw [hp]; exact ⟨rfl, rfl⟩)
      · simp only [zh_44_0, zh_44_1, zh_44_3, zh_44_4, zh_44_7, zh_44_10, zh_44_13, zh_44_14, zh_44_17, zh_44_20, zh_44_21, zh_44_22, zh_44_23, zh_44_24, zh_44_27, zh_44_29, zh_44_32, zh_44_33, zh_44_36, zh_44_37, zh_44_40, zh_44_43, zh_44_44, zh_44_45, zh_44_46n, zh_44_46, zh_44_49, zh_44_50, zh_44_53, zh_44_54, zh_44_57, zh_44_60, zh_44_61, zh_44_62n, zh_44_62, zh_44_65, zh_44_66, zh_44_69, zh_44_70, zh_44_73, zh_44_76, zh_44_79, zh_44_82, zwl_m1, zwl_0, zwl_1, zwl_2, zwl_3, zwl_4, zwl_5, zwl_6, zwl_7, zwl_8, zwl_10, zwl_15, zwl_24, zwl_32, zwl_33, zwl_40, zwl_41, zwl_42, zwl_43, zwl_45, zwl_47, zwl_48, zwl_52, zwl_56, zwl_57, zwl_59, zwl_60, zwl_61, zwl_63, zwl_64, zwl_66, zwl_67, zwl_68, zwl_70, zwl_75, zwl_77, zwl_80, zwl_82, zwl_84, zwl_88, zwl_89, zwl_97, zwl_104, zwl_110, zwl_112, zwl_114, zwl_118, zwl_123, zwl_125, zwl_126, zwl_159, zwl_160, zwl_200, zwl_255, zwl_480, zwl_960, zwl_3000, zs_kli, zs_klq, zs_kln, zs_wn, zs_wi, zs_wl, zs_wq, ↓zs_ok10, ↓zs_ok11, Option.toList_some, Option.toList_none, List.cons_append, List.nil_append, ↓reduceIte, Nat.reduceAdd, Nat.reduceLeDiff, true_and, and_true, Int.reduceEq, Int.reduceLT, Int.reduceLE, Int.reduceAdd, Int.reduceSub, Int.reduceMul, Int.reduceNeg, Nat.reduceEqDiff, Nat.reduceLT, Nat.reduceBEq, zsI_c, zsI_k, zsI_s, zsR_c, zsR_k, zsR_s]
        exact hgo _ _ _ (by rw [hp])
    · have e5 : zw (P 34 i) = P 34 i := zw_i (by omega) (by omega)
      simp only [zh_44_0, zh_44_1, zh_44_3, zh_44_4, zh_44_7, zh_44_10, zh_44_13, zh_44_14, zh_44_17, zh_44_20, zh_44_21, zh_44_22, zh_44_23, zh_44_24, zh_44_27, zh_44_29, zh_44_32, zh_44_33, zh_44_36, zh_44_37, zh_44_40, zh_44_43, zh_44_44, zh_44_45, zh_44_46n, zh_44_46, zh_44_49, zh_44_50, zh_44_53, zh_44_54, zh_44_57, zh_44_60, zh_44_61, zh_44_62n, zh_44_62, zh_44_65, zh_44_66, zh_44_69, zh_44_70, zh_44_73, zh_44_76, zh_44_79, zh_44_82, zwl_m1, zwl_0, zwl_1, zwl_2, zwl_3, zwl_4, zwl_5, zwl_6, zwl_7, zwl_8, zwl_10, zwl_15, zwl_24, zwl_32, zwl_33, zwl_40, zwl_41, zwl_42, zwl_43, zwl_45, zwl_47, zwl_48, zwl_52, zwl_56, zwl_57, zwl_59, zwl_60, zwl_61, zwl_63, zwl_64, zwl_66, zwl_67, zwl_68, zwl_70, zwl_75, zwl_77, zwl_80, zwl_82, zwl_84, zwl_88, zwl_89, zwl_97, zwl_104, zwl_110, zwl_112, zwl_114, zwl_118, zwl_123, zwl_125, zwl_126, zwl_159, zwl_160, zwl_200, zwl_255, zwl_480, zwl_960, zwl_3000, zs_kli, zs_klq, zs_kln, zs_wn, zs_wi, zs_wl, zs_wq, ↓zs_ok10, ↓zs_ok11, Option.toList_some, Option.toList_none, List.cons_append, List.nil_append, ↓reduceIte, Nat.reduceAdd, Nat.reduceLeDiff, true_and, and_true, Int.reduceEq, Int.reduceLT, Int.reduceLE, Int.reduceAdd, Int.reduceSub, Int.reduceMul, Int.reduceNeg, Nat.reduceEqDiff, Nat.reduceLT, Nat.reduceBEq, zsI_c, zsI_k, zsI_s, zsR_c, zsR_k, zsR_s, kon_0_0_0 hK, kon_0_0_1 hK, kon_0_0_2 hK, kon_0_0_3 hK, kon_0_0_4 hK, kon_1_0_0 hK, kon_6_0_0 hK, kon_6_0_1 hK, kon_6_0_4 hK, kon_7_0_0 hK, kon_7_0_1 hK, kon_7_0_2 hK, kon_7_0_3 hK, kon_7_0_7 hK, kon_7_0_8 hK, kon_8_0_0 hK, kon_8_0_1 hK, kon_9_0_0 hK, kon_10_0_0 hK, kon_10_0_1 hK, kon_10_0_9 hK, h5, e1, e2, e3, ↓za22 hi hi80, e4, s1, e5, k]
      refine ih (i + 1) _ I R _ _ (by omega) (by omega) hC (fun s hs => ?_) h
      by_cases e : s = i
      · subst e
        exact fun q => absurd q k
      · exact hL s (by omega)
theorem lk_link (hP : PWf P) {I : zMI} {R : zMR} (hC : CR0 I R P) (h : ∀ I' R', FrK I I' → FrR R R' → CR0 I' R' P → (∀ s, s < nS P → CL0 I' R' P s) → K none (I', R', al)) : zCp (d + 2) 44 [zq (some (9, 0))] (I, R, al) K := by
  rw [zcp_44]
  simp only [zh_44_0, zh_44_1, zh_44_3, zh_44_4, zh_44_7, zh_44_10, zh_44_13, zh_44_14, zh_44_17, zh_44_20, zh_44_21, zh_44_22, zh_44_23, zh_44_24, zh_44_27, zh_44_29, zh_44_32, zh_44_33, zh_44_36, zh_44_37, zh_44_40, zh_44_43, zh_44_44, zh_44_45, zh_44_46n, zh_44_46, zh_44_49, zh_44_50, zh_44_53, zh_44_54, zh_44_57, zh_44_60, zh_44_61, zh_44_62n, zh_44_62, zh_44_65, zh_44_66, zh_44_69, zh_44_70, zh_44_73, zh_44_76, zh_44_79, zh_44_82, zwl_m1, zwl_0, zwl_1, zwl_2, zwl_3, zwl_4, zwl_5, zwl_6, zwl_7, zwl_8, zwl_10, zwl_15, zwl_24, zwl_32, zwl_33, zwl_40, zwl_41, zwl_42, zwl_43, zwl_45, zwl_47, zwl_48, zwl_52, zwl_56, zwl_57, zwl_59, zwl_60, zwl_61, zwl_63, zwl_64, zwl_66, zwl_67, zwl_68, zwl_70, zwl_75, zwl_77, zwl_80, zwl_82, zwl_84, zwl_88, zwl_89, zwl_97, zwl_104, zwl_110, zwl_112, zwl_114, zwl_118, zwl_123, zwl_125, zwl_126, zwl_159, zwl_160, zwl_200, zwl_255, zwl_480, zwl_960, zwl_3000, zs_kli, zs_klq, zs_kln, zs_wn, zs_wi, zs_wl, zs_wq, ↓zs_ok10, ↓zs_ok11, Option.toList_some, Option.toList_none, List.cons_append, List.nil_append, ↓reduceIte, Nat.reduceAdd, Nat.reduceLeDiff, true_and, and_true, Int.reduceEq, Int.reduceLT, Int.reduceLE, Int.reduceAdd, Int.reduceSub, Int.reduceMul, Int.reduceNeg, Nat.reduceEqDiff, Nat.reduceLT, Nat.reduceBEq, zsI_c, zsI_k, zsI_s, zsR_c, zsR_k, zsR_s]
  exact lk_loop hP (nS P) 0 _ I R _ _ rfl (by omega) hC (fun s hs => absurd hs (by omega)) h
variable {I : zMI} {R : zMR}
theorem tw_loop (hP : PWf P) (hC : CR0 I R P) (m : Nat) : ∀ (i : Nat) (ii : Int) (l2 : Option zV), ii = (i : Int) → i + m = nP P → (∀ k, k < i → pIx P (P 31 k) (nP P) = some k) → (nm2 P → K (some (zi 1)) (I, R, al)) → (¬ nm2 P → K (some (zi 0)) (I, R, al)) →
    Zgo (d + 1) 49 2 [some (zq (some (9, 0))), some (zi ii), l2] [] (I, R, al) K := by
  have h83 := hP.2.2.2.1
  have hK := hC.1
  induction m with
  | zero =>
    intro i ii l2 hi hm hp h1 h2
    have h5 := hC.2.2.2.2.2.2.1
    generalize hx : (nP P : Int) = x at h5
    have e1 : zw ii = ii := zw_i (by omega) (by omega)
    have e2 : zw x = x := zw_i (by omega) (by omega)
    have e3 : ¬ ii < x := by omega
    rw [zh_49_2]
    simp only [zh_49_0, zh_49_1, zh_49_3, zh_49_4, zh_49_7, zh_49_10, zh_49_13, zh_49_14, zh_49_17, zh_49_20, zh_49_21, zh_49_22, zh_49_23, zh_49_24, zh_49_27, zh_49_28, zh_49_31, zh_49_34, zh_49_35, zh_49_35n, zh_49_35l, zh_49_35r, zh_49_38, zh_49_39, zh_49_40, zh_49_43, zh_49_46, zh_49_47, zwl_m1, zwl_0, zwl_1, zwl_2, zwl_3, zwl_4, zwl_5, zwl_6, zwl_7, zwl_8, zwl_10, zwl_15, zwl_24, zwl_32, zwl_33, zwl_40, zwl_41, zwl_42, zwl_43, zwl_45, zwl_47, zwl_48, zwl_52, zwl_56, zwl_57, zwl_59, zwl_60, zwl_61, zwl_63, zwl_64, zwl_66, zwl_67, zwl_68, zwl_70, zwl_75, zwl_77, zwl_80, zwl_82, zwl_84, zwl_88, zwl_89, zwl_97, zwl_104, zwl_110, zwl_112, zwl_114, zwl_118, zwl_123, zwl_125, zwl_126, zwl_159, zwl_160, zwl_200, zwl_255, zwl_480, zwl_960, zwl_3000, zs_kli, zs_klq, zs_kln, zs_wn, zs_wi, zs_wl, zs_wq, ↓zs_ok10, ↓zs_ok11, Option.toList_some, Option.toList_none, List.cons_append, List.nil_append, ↓reduceIte, Nat.reduceAdd, Nat.reduceLeDiff, true_and, and_true, Int.reduceEq, Int.reduceLT, Int.reduceLE, Int.reduceAdd, Int.reduceSub, Int.reduceMul, Int.reduceNeg, Nat.reduceEqDiff, Nat.reduceLT, Nat.reduceBEq, zsI_c, zsI_k, zsI_s, zsR_c, zsR_k, zsR_s, kon_0_0_0 hK, kon_0_0_1 hK, kon_0_0_2 hK, kon_0_0_3 hK, kon_0_0_4 hK, kon_1_0_0 hK, kon_6_0_0 hK, kon_6_0_1 hK, kon_6_0_4 hK, kon_7_0_0 hK, kon_7_0_1 hK, kon_7_0_2 hK, kon_7_0_3 hK, kon_7_0_7 hK, kon_7_0_8 hK, kon_8_0_0 hK, kon_8_0_1 hK, kon_9_0_0 hK, kon_10_0_0 hK, kon_10_0_1 hK, kon_10_0_9 hK, h5, e1, e2, e3]
    exact h2 (fun ⟨k, k1, k2⟩ => k2 (hp k (by omega)))
  | succ m ih =>
    intro i ii l2 hi hm hp h1 h2
    have h5 := hC.2.2.2.2.2.2.1
    generalize hx : (nP P : Int) = x at h5
    have e1 : zw ii = ii := zw_i (by omega) (by omega)
    have e2 : zw x = x := zw_i (by omega) (by omega)
    have e3 : ii < x := by omega
    have hi3 : i < 3 := by omega
    have hin : i < nP P := by omega
    have e4 := kon_21 hK hi3
    obtain ⟨c1, c2, c3⟩ := hC.2.2.2.2.2.1 i hin
    have r := hP.2.2.2.2.2.2.2.2 i hin
    rw [zh_49_2]
    simp only [zh_49_0, zh_49_1, zh_49_3, zh_49_4, zh_49_7, zh_49_10, zh_49_13, zh_49_14, zh_49_17, zh_49_20, zh_49_21, zh_49_22, zh_49_23, zh_49_24, zh_49_27, zh_49_28, zh_49_31, zh_49_34, zh_49_35, zh_49_35n, zh_49_35l, zh_49_35r, zh_49_38, zh_49_39, zh_49_40, zh_49_43, zh_49_46, zh_49_47, zwl_m1, zwl_0, zwl_1, zwl_2, zwl_3, zwl_4, zwl_5, zwl_6, zwl_7, zwl_8, zwl_10, zwl_15, zwl_24, zwl_32, zwl_33, zwl_40, zwl_41, zwl_42, zwl_43, zwl_45, zwl_47, zwl_48, zwl_52, zwl_56, zwl_57, zwl_59, zwl_60, zwl_61, zwl_63, zwl_64, zwl_66, zwl_67, zwl_68, zwl_70, zwl_75, zwl_77, zwl_80, zwl_82, zwl_84, zwl_88, zwl_89, zwl_97, zwl_104, zwl_110, zwl_112, zwl_114, zwl_118, zwl_123, zwl_125, zwl_126, zwl_159, zwl_160, zwl_200, zwl_255, zwl_480, zwl_960, zwl_3000, zs_kli, zs_klq, zs_kln, zs_wn, zs_wi, zs_wl, zs_wq, ↓zs_ok10, ↓zs_ok11, Option.toList_some, Option.toList_none, List.cons_append, List.nil_append, ↓reduceIte, Nat.reduceAdd, Nat.reduceLeDiff, true_and, and_true, Int.reduceEq, Int.reduceLT, Int.reduceLE, Int.reduceAdd, Int.reduceSub, Int.reduceMul, Int.reduceNeg, Nat.reduceEqDiff, Nat.reduceLT, Nat.reduceBEq, zsI_c, zsI_k, zsI_s, zsR_c, zsR_k, zsR_s, kon_0_0_0 hK, kon_0_0_1 hK, kon_0_0_2 hK, kon_0_0_3 hK, kon_0_0_4 hK, kon_1_0_0 hK, kon_6_0_0 hK, kon_6_0_1 hK, kon_6_0_4 hK, kon_7_0_0 hK, kon_7_0_1 hK, kon_7_0_2 hK, kon_7_0_3 hK, kon_7_0_7 hK, kon_7_0_8 hK, kon_8_0_0 hK, kon_8_0_1 hK, kon_9_0_0 hK, kon_10_0_0 hK, kon_10_0_1 hK, kon_10_0_9 hK, h5, e1, e2, e3, ↓za21 hi hi3, e4, c1]
    refine cn_named hK hC.2.2.2.2.2.1 hC.2.2.2.2.2.2.1 hP.2.2.2.1 hP.2.2.2.2.2.2.2.2 (zw_i (by omega) (by omega)) (fun p hp' => ?_) (fun hp' => ?_)
    · by_cases e : p = i
      · subst e
        simp only [zh_49_0, zh_49_1, zh_49_3, zh_49_4, zh_49_7, zh_49_10, zh_49_13, zh_49_14, zh_49_17, zh_49_20, zh_49_21, zh_49_22, zh_49_23, zh_49_24, zh_49_27, zh_49_28, zh_49_31, zh_49_34, zh_49_35, zh_49_35n, zh_49_35l, zh_49_35r, zh_49_38, zh_49_39, zh_49_40, zh_49_43, zh_49_46, zh_49_47, zwl_m1, zwl_0, zwl_1, zwl_2, zwl_3, zwl_4, zwl_5, zwl_6, zwl_7, zwl_8, zwl_10, zwl_15, zwl_24, zwl_32, zwl_33, zwl_40, zwl_41, zwl_42, zwl_43, zwl_45, zwl_47, zwl_48, zwl_52, zwl_56, zwl_57, zwl_59, zwl_60, zwl_61, zwl_63, zwl_64, zwl_66, zwl_67, zwl_68, zwl_70, zwl_75, zwl_77, zwl_80, zwl_82, zwl_84, zwl_88, zwl_89, zwl_97, zwl_104, zwl_110, zwl_112, zwl_114, zwl_118, zwl_123, zwl_125, zwl_126, zwl_159, zwl_160, zwl_200, zwl_255, zwl_480, zwl_960, zwl_3000, zs_kli, zs_klq, zs_kln, zs_wn, zs_wi, zs_wl, zs_wq, ↓zs_ok10, ↓zs_ok11, Option.toList_some, Option.toList_none, List.cons_append, List.nil_append, ↓reduceIte, Nat.reduceAdd, Nat.reduceLeDiff, true_and, and_true, Int.reduceEq, Int.reduceLT, Int.reduceLE, Int.reduceAdd, Int.reduceSub, Int.reduceMul, Int.reduceNeg, Nat.reduceEqDiff, Nat.reduceLT, Nat.reduceBEq, zsI_c, zsI_k, zsI_s, zsR_c, zsR_k, zsR_s]
        refine ih (p + 1) _ _ (by omega) (by omega) (fun k hk => ?_) h1 h2
        by_cases e : k = p
        · rw [e]; exact hp'
        · exact hp k (by omega)
      · have e5 : ¬ p + 1 = i + 1 := by omega
        simp only [zh_49_0, zh_49_1, zh_49_3, zh_49_4, zh_49_7, zh_49_10, zh_49_13, zh_49_14, zh_49_17, zh_49_20, zh_49_21, zh_49_22, zh_49_23, zh_49_24, zh_49_27, zh_49_28, zh_49_31, zh_49_34, zh_49_35, zh_49_35n, zh_49_35l, zh_49_35r, zh_49_38, zh_49_39, zh_49_40, zh_49_43, zh_49_46, zh_49_47, zwl_m1, zwl_0, zwl_1, zwl_2, zwl_3, zwl_4, zwl_5, zwl_6, zwl_7, zwl_8, zwl_10, zwl_15, zwl_24, zwl_32, zwl_33, zwl_40, zwl_41, zwl_42, zwl_43, zwl_45, zwl_47, zwl_48, zwl_52, zwl_56, zwl_57, zwl_59, zwl_60, zwl_61, zwl_63, zwl_64, zwl_66, zwl_67, zwl_68, zwl_70, zwl_75, zwl_77, zwl_80, zwl_82, zwl_84, zwl_88, zwl_89, zwl_97, zwl_104, zwl_110, zwl_112, zwl_114, zwl_118, zwl_123, zwl_125, zwl_126, zwl_159, zwl_160, zwl_200, zwl_255, zwl_480, zwl_960, zwl_3000, zs_kli, zs_klq, zs_kln, zs_wn, zs_wi, zs_wl, zs_wq, ↓zs_ok10, ↓zs_ok11, Option.toList_some, Option.toList_none, List.cons_append, List.nil_append, ↓reduceIte, Nat.reduceAdd, Nat.reduceLeDiff, true_and, and_true, Int.reduceEq, Int.reduceLT, Int.reduceLE, Int.reduceAdd, Int.reduceSub, Int.reduceMul, Int.reduceNeg, Nat.reduceEqDiff, Nat.reduceLT, Nat.reduceBEq, zsI_c, zsI_k, zsI_s, zsR_c, zsR_k, zsR_s, e5]
        exact h1 ⟨i, hin, fun q => e (Option.some.inj (hp'.symm.trans q))⟩
    · simp only [zh_49_0, zh_49_1, zh_49_3, zh_49_4, zh_49_7, zh_49_10, zh_49_13, zh_49_14, zh_49_17, zh_49_20, zh_49_21, zh_49_22, zh_49_23, zh_49_24, zh_49_27, zh_49_28, zh_49_31, zh_49_34, zh_49_35, zh_49_35n, zh_49_35l, zh_49_35r, zh_49_38, zh_49_39, zh_49_40, zh_49_43, zh_49_46, zh_49_47, zwl_m1, zwl_0, zwl_1, zwl_2, zwl_3, zwl_4, zwl_5, zwl_6, zwl_7, zwl_8, zwl_10, zwl_15, zwl_24, zwl_32, zwl_33, zwl_40, zwl_41, zwl_42, zwl_43, zwl_45, zwl_47, zwl_48, zwl_52, zwl_56, zwl_57, zwl_59, zwl_60, zwl_61, zwl_63, zwl_64, zwl_66, zwl_67, zwl_68, zwl_70, zwl_75, zwl_77, zwl_80, zwl_82, zwl_84, zwl_88, zwl_89, zwl_97, zwl_104, zwl_110, zwl_112, zwl_114, zwl_118, zwl_123, zwl_125, zwl_126, zwl_159, zwl_160, zwl_200, zwl_255, zwl_480, zwl_960, zwl_3000, zs_kli, zs_klq, zs_kln, zs_wn, zs_wi, zs_wl, zs_wq, ↓zs_ok10, ↓zs_ok11, Option.toList_some, Option.toList_none, List.cons_append, List.nil_append, ↓reduceIte, Nat.reduceAdd, Nat.reduceLeDiff, true_and, and_true, Int.reduceEq, Int.reduceLT, Int.reduceLE, Int.reduceAdd, Int.reduceSub, Int.reduceMul, Int.reduceNeg, Nat.reduceEqDiff, Nat.reduceLT, Nat.reduceBEq, zsI_c, zsI_k, zsI_s, zsR_c, zsR_k, zsR_s]
      exact h1 ⟨i, hin, fun q => by rw [hp'] at q; cases q⟩
/-- a procedure, or M, and its tags -/
theorem kt_one (hP : PWf P) (hO : POr P) (hT : TgR P) (hCk : Chk P) {p o : Nat} {tg : Nat} (hC : CT I R P) (hd : 24 ≤ d) (hp : p ≤ nP P) (hb : R 2 o 3 = rf 3 (P 33 p)) (ht : I 2 o 1 = (tg : Int)) (htg : tg = (if p = nP P then 0 else (P 32 p).toNat)) (ht3 : tg < 32)
    (hk : ∀ I', FrK I I' → (∀ i, i ≠ o → I' 2 i 2 = I 2 i 2) → (∀ i k, I' 4 i k = I 4 i k) → I' 2 o 2 = (rT P (P 33 p).toNat : Int) → Fl P I I' (Un P 4 (P 33 p).toNat) → (undc P p → K (some (zi 0)) (I', R, al)) ∧ (¬ undc P p → K (some (zi 1)) (I', R, al))) : zCp (d + 2) 51 [zq (some (9, 0)), zq (some (2, o))] (I, R, al) K := by
  obtain ⟨b, b1, b2, b3⟩ := hP.2.2.2.2.2.2.2.1 p hp
  have hdb : P 100 b = 1 := by
    rcases (hP.2.2.2.2.2.2.1 b b2).2 with ⟨_, z, _⟩ | ⟨o, h, z, _⟩
    · exact z
    · omega
  have e33 : (P 33 p).toNat = b := by omega
  rw [b1, rf_s (by omega), Int.toNat_natCast] at hb
  have hTB := tb_all (al := al) (R := R) hP hO hT hCk 4 b b2 (by omega)
  rw [e33] at hk
  rw [zcp_51]
  simp only [zh_51_0, zh_51_1, zh_51_2, zh_51_3, zh_51_6, zh_51_9, zh_51_12, zh_51_13, zh_51_16, zh_51_17, zh_51_20, zh_51_21, zh_51_22, zh_51_23, zh_51_26, zh_51_27, zh_51_30, zh_51_31, zwl_m1, zwl_0, zwl_1, zwl_2, zwl_3, zwl_4, zwl_5, zwl_6, zwl_7, zwl_8, zwl_10, zwl_15, zwl_24, zwl_32, zwl_33, zwl_40, zwl_41, zwl_42, zwl_43, zwl_45, zwl_47, zwl_48, zwl_52, zwl_56, zwl_57, zwl_59, zwl_60, zwl_61, zwl_63, zwl_64, zwl_66, zwl_67, zwl_68, zwl_70, zwl_75, zwl_77, zwl_80, zwl_82, zwl_84, zwl_88, zwl_89, zwl_97, zwl_104, zwl_110, zwl_112, zwl_114, zwl_118, zwl_123, zwl_125, zwl_126, zwl_159, zwl_160, zwl_200, zwl_255, zwl_480, zwl_960, zwl_3000, zs_kli, zs_klq, zs_kln, zs_wn, zs_wi, zs_wl, zs_wq, ↓zs_ok10, ↓zs_ok11, Option.toList_some, Option.toList_none, List.cons_append, List.nil_append, ↓reduceIte, Nat.reduceAdd, Nat.reduceLeDiff, true_and, and_true, Int.reduceEq, Int.reduceLT, Int.reduceLE, Int.reduceAdd, Int.reduceSub, Int.reduceMul, Int.reduceNeg, Nat.reduceEqDiff, Nat.reduceLT, Nat.reduceBEq, zsI_c, zsI_k, zsI_s, zsR_c, zsR_k, zsR_s, hb]
  refine hTB d I _ hd hC (fun I1 f1 g1 => ?_)
  have rl := rT_l hP hT b
  have ht1 : I1 2 o 1 = (tg : Int) := (f1 2 o 1 (by omega)).trans ht
  have e1 : zand ((rT P b : Nat) : Int) (zxor (tg : Int) (-1)) = ((rT P b &&& (31 ^^^ tg) : Nat) : Int) := ban rl ht3
  have lx := ban_l rl ht3
  obtain ⟨k1, k2⟩ := hk (zsI I1 2 o 2 ((rT P b : Nat) : Int)) (f1.frk.set (by omega)) (fun i hi => by rw [zsI_n (by omega)]; exact f1 _ _ _ (by omega)) (fun i k => by rw [zsI_n (by omega)]; exact f1 _ _ _ (by omega)) (zsI_s ..) (by
    unfold Fl
    rw [zsI_n (by omega)]
    exact g1)
  by_cases hv : rT P b &&& (31 ^^^ tg) = 0
  · have e2 : ((rT P b &&& (31 ^^^ tg) : Nat) : Int) = 0 := by rw [hv]; rfl
    simp only [zh_51_0, zh_51_1, zh_51_2, zh_51_3, zh_51_6, zh_51_9, zh_51_12, zh_51_13, zh_51_16, zh_51_17, zh_51_20, zh_51_21, zh_51_22, zh_51_23, zh_51_26, zh_51_27, zh_51_30, zh_51_31, zwl_m1, zwl_0, zwl_1, zwl_2, zwl_3, zwl_4, zwl_5, zwl_6, zwl_7, zwl_8, zwl_10, zwl_15, zwl_24, zwl_32, zwl_33, zwl_40, zwl_41, zwl_42, zwl_43, zwl_45, zwl_47, zwl_48, zwl_52, zwl_56, zwl_57, zwl_59, zwl_60, zwl_61, zwl_63, zwl_64, zwl_66, zwl_67, zwl_68, zwl_70, zwl_75, zwl_77, zwl_80, zwl_82, zwl_84, zwl_88, zwl_89, zwl_97, zwl_104, zwl_110, zwl_112, zwl_114, zwl_118, zwl_123, zwl_125, zwl_126, zwl_159, zwl_160, zwl_200, zwl_255, zwl_480, zwl_960, zwl_3000, zs_kli, zs_klq, zs_kln, zs_wn, zs_wi, zs_wl, zs_wq, ↓zs_ok10, ↓zs_ok11, Option.toList_some, Option.toList_none, List.cons_append, List.nil_append, ↓reduceIte, Nat.reduceAdd, Nat.reduceLeDiff, true_and, and_true, Int.reduceEq, Int.reduceLT, Int.reduceLE, Int.reduceAdd, Int.reduceSub, Int.reduceMul, Int.reduceNeg, Nat.reduceEqDiff, Nat.reduceLT, Nat.reduceBEq, zsI_c, zsI_k, zsI_s, zsR_c, zsR_k, zsR_s, ht1, e1, e2]
    refine k2 (fun q => q ?_)
    rw [e33, ← htg]
    exact hv
  · generalize hx : ((rT P b &&& (31 ^^^ tg) : Nat) : Int) = x at e1
    have e4 : zw x = x := zw_i (by omega) (by omega)
    have e5 : ¬ x = 0 := by omega
    simp only [zh_51_0, zh_51_1, zh_51_2, zh_51_3, zh_51_6, zh_51_9, zh_51_12, zh_51_13, zh_51_16, zh_51_17, zh_51_20, zh_51_21, zh_51_22, zh_51_23, zh_51_26, zh_51_27, zh_51_30, zh_51_31, zwl_m1, zwl_0, zwl_1, zwl_2, zwl_3, zwl_4, zwl_5, zwl_6, zwl_7, zwl_8, zwl_10, zwl_15, zwl_24, zwl_32, zwl_33, zwl_40, zwl_41, zwl_42, zwl_43, zwl_45, zwl_47, zwl_48, zwl_52, zwl_56, zwl_57, zwl_59, zwl_60, zwl_61, zwl_63, zwl_64, zwl_66, zwl_67, zwl_68, zwl_70, zwl_75, zwl_77, zwl_80, zwl_82, zwl_84, zwl_88, zwl_89, zwl_97, zwl_104, zwl_110, zwl_112, zwl_114, zwl_118, zwl_123, zwl_125, zwl_126, zwl_159, zwl_160, zwl_200, zwl_255, zwl_480, zwl_960, zwl_3000, zs_kli, zs_klq, zs_kln, zs_wn, zs_wi, zs_wl, zs_wq, ↓zs_ok10, ↓zs_ok11, Option.toList_some, Option.toList_none, List.cons_append, List.nil_append, ↓reduceIte, Nat.reduceAdd, Nat.reduceLeDiff, true_and, and_true, Int.reduceEq, Int.reduceLT, Int.reduceLE, Int.reduceAdd, Int.reduceSub, Int.reduceMul, Int.reduceNeg, Nat.reduceEqDiff, Nat.reduceLT, Nat.reduceBEq, zsI_c, zsI_k, zsI_s, zsR_c, zsR_k, zsR_s, ht1, e1, e4, e5]
    refine k1 ?_
    unfold undc
    rw [e33, ← htg]
    exact hv
/-- every statement stands under a procedure's block -/
theorem un_all (hP : PWf P) (hO : POr P) (n : Nat) : ∀ (c m z : Nat), c < nB P → (P 100 c).toNat = n → m + n = 5 → Un P m c z → ∃ p, p ≤ nP P ∧ Un P 4 (P 33 p).toNat z := by
  induction n with
  | zero =>
    intro c m z hc hn hm hu
    have := (hP.2.2.2.2.2.2.1 c hc).dep
    omega
  | succ n ih =>
    intro c m z hc hn hm hu
    rcases (hP.2.2.2.2.2.2.1 c hc).2 with ⟨q1, q2, _⟩ | ⟨o, h, q1, q0, q2, q3, q4, q5, q6, q7, q8, -⟩
    · obtain ⟨p, p1, p2⟩ := (hO.2 c hc).2.2 q1
      have e : (P 33 p).toNat = c := by omega
      have e2 : m = 4 := by omega
      subst e2
      exact ⟨p, p1, by rw [e]; exact hu⟩
    · refine ih h (m + 1) z q4 (by omega) (by omega) ⟨o, q0, q2, Or.inr ⟨(P 48 c).toNat, c, by omega, q7, hu⟩⟩
theorem un_cov (hP : PWf P) (hO : POr P) {z : Nat} (hz : z < nS P) : ∃ p, p ≤ nP P ∧ Un P 4 (P 33 p).toNat z := by
  obtain ⟨b, b1, b2, -⟩ := (hP.2.2.2.2.2.1 z hz).2.1
  have hd := (hP.2.2.2.2.2.2.1 b b2).dep
  obtain ⟨m, hm⟩ : ∃ m, m + 1 + (P 100 b).toNat = 5 := ⟨4 - (P 100 b).toNat, by omega⟩
  exact un_all hP hO _ b (m + 1) z b2 rfl (by omega) ⟨z, hz, b1, Or.inl rfl⟩
end
