/-! Y -/
section
variable {d n p e s b c x k : Nat} {T : Nat → Int} {P : Nat → Nat → Int} {I : zMI} {R : zMR} {al : zA} {K Q : Option zV → zS → Prop}
theorem cy_loop {t : Int} {a : Nat} (ht : zw t = t) : ∀ (m : Nat) (r : Option (Nat × Nat)), m ≤ 3 → (∀ j, j < m → zw (P 39 (3 * s + j)) = P 39 (3 * s + j)) → CatB I R P s a c m r → ((∀ j, j < m → P 39 (3 * s + j) ≠ t) → K (some (zq none)) (I, R, al)) → (∀ j, j < m → P 39 (3 * s + j) = t → ∀ v, K (some (zq (some v))) (I, R, al)) → Zgo d 41 5 [some (zq (some (4, s))), some (zi t), some (zq r)] [] (I, R, al) K
  | 0, r, _, _, hc, h0, _ => by
    rw [show r = none from hc, zh_41_5]
    simp only [zh_41_0, zh_41_1, zh_41_4, zh_41_6n, zh_41_6, zh_41_9, zh_41_10, zh_41_13, zh_41_14, zh_41_17, zh_41_18, zh_41_19, zh_41_20, zh_41_23, zh_41_24, zh_41_27, zh_41_28, zwl_m1, zwl_0, zwl_1, zwl_2, zwl_3, zwl_4, zwl_5, zwl_6, zwl_7, zwl_8, zwl_10, zwl_15, zwl_24, zwl_32, zwl_33, zwl_40, zwl_41, zwl_42, zwl_43, zwl_45, zwl_47, zwl_48, zwl_52, zwl_56, zwl_57, zwl_59, zwl_60, zwl_61, zwl_63, zwl_64, zwl_66, zwl_67, zwl_68, zwl_70, zwl_75, zwl_77, zwl_80, zwl_82, zwl_84, zwl_88, zwl_89, zwl_97, zwl_104, zwl_110, zwl_112, zwl_114, zwl_118, zwl_123, zwl_125, zwl_126, zwl_159, zwl_160, zwl_200, zwl_255, zwl_480, zwl_960, zwl_3000, zs_kli, zs_klq, zs_kln, zs_wn, zs_wi, zs_wl, zs_wq, ↓zs_ok10, ↓zs_ok11, Option.toList_some, Option.toList_none, List.cons_append, List.nil_append, ↓reduceIte, Nat.reduceAdd, Nat.reduceLeDiff, true_and, and_true, Int.reduceEq, Int.reduceLT, Int.reduceLE, Int.reduceAdd, Int.reduceSub, Int.reduceMul, Int.reduceNeg, Nat.reduceEqDiff, Nat.reduceLT, Nat.reduceBEq, zsI_c, zsI_k, zsI_s, zsR_c, zsR_k, zsR_s]
    exact h0 (fun j hj => by omega)
  | m + 1, r, hm, hw, hc, h0, h1 => by
    obtain ⟨e, -, -, rfl, q1, q2, q3, q4⟩ := hc
    have e1 := hw m (by omega)
    rw [zh_41_5]
    by_cases q : P 39 (3 * s + m) = t
    · simp only [zh_41_0, zh_41_1, zh_41_4, zh_41_6n, zh_41_6, zh_41_9, zh_41_10, zh_41_13, zh_41_14, zh_41_17, zh_41_18, zh_41_19, zh_41_20, zh_41_23, zh_41_24, zh_41_27, zh_41_28, zwl_m1, zwl_0, zwl_1, zwl_2, zwl_3, zwl_4, zwl_5, zwl_6, zwl_7, zwl_8, zwl_10, zwl_15, zwl_24, zwl_32, zwl_33, zwl_40, zwl_41, zwl_42, zwl_43, zwl_45, zwl_47, zwl_48, zwl_52, zwl_56, zwl_57, zwl_59, zwl_60, zwl_61, zwl_63, zwl_64, zwl_66, zwl_67, zwl_68, zwl_70, zwl_75, zwl_77, zwl_80, zwl_82, zwl_84, zwl_88, zwl_89, zwl_97, zwl_104, zwl_110, zwl_112, zwl_114, zwl_118, zwl_123, zwl_125, zwl_126, zwl_159, zwl_160, zwl_200, zwl_255, zwl_480, zwl_960, zwl_3000, zs_kli, zs_klq, zs_kln, zs_wn, zs_wi, zs_wl, zs_wq, ↓zs_ok10, ↓zs_ok11, Option.toList_some, Option.toList_none, List.cons_append, List.nil_append, ↓reduceIte, Nat.reduceAdd, Nat.reduceLeDiff, true_and, and_true, Int.reduceEq, Int.reduceLT, Int.reduceLE, Int.reduceAdd, Int.reduceSub, Int.reduceMul, Int.reduceNeg, Nat.reduceEqDiff, Nat.reduceLT, Nat.reduceBEq, zsI_c, zsI_k, zsI_s, zsR_c, zsR_k, zsR_s, q1, q, ht]
      exact h1 m (by omega) q _
    · simp only [zh_41_0, zh_41_1, zh_41_4, zh_41_6n, zh_41_6, zh_41_9, zh_41_10, zh_41_13, zh_41_14, zh_41_17, zh_41_18, zh_41_19, zh_41_20, zh_41_23, zh_41_24, zh_41_27, zh_41_28, zwl_m1, zwl_0, zwl_1, zwl_2, zwl_3, zwl_4, zwl_5, zwl_6, zwl_7, zwl_8, zwl_10, zwl_15, zwl_24, zwl_32, zwl_33, zwl_40, zwl_41, zwl_42, zwl_43, zwl_45, zwl_47, zwl_48, zwl_52, zwl_56, zwl_57, zwl_59, zwl_60, zwl_61, zwl_63, zwl_64, zwl_66, zwl_67, zwl_68, zwl_70, zwl_75, zwl_77, zwl_80, zwl_82, zwl_84, zwl_88, zwl_89, zwl_97, zwl_104, zwl_110, zwl_112, zwl_114, zwl_118, zwl_123, zwl_125, zwl_126, zwl_159, zwl_160, zwl_200, zwl_255, zwl_480, zwl_960, zwl_3000, zs_kli, zs_klq, zs_kln, zs_wn, zs_wi, zs_wl, zs_wq, ↓zs_ok10, ↓zs_ok11, Option.toList_some, Option.toList_none, List.cons_append, List.nil_append, ↓reduceIte, Nat.reduceAdd, Nat.reduceLeDiff, true_and, and_true, Int.reduceEq, Int.reduceLT, Int.reduceLE, Int.reduceAdd, Int.reduceSub, Int.reduceMul, Int.reduceNeg, Nat.reduceEqDiff, Nat.reduceLT, Nat.reduceBEq, zsI_c, zsI_k, zsI_s, zsR_c, zsR_k, zsR_s, q1, e1, q, ht]
      refine cy_loop ht m _ (by omega) (fun j hj => hw j (by omega)) q4 (fun w => h0 (fun j hj => ?_)) (fun j hj => h1 j (by omega))
      by_cases qj : j = m
      · rw [qj]; exact q
      · exact w j (by omega)
theorem cy_of {t : Int} {a m : Nat} (ht : zw t = t) (hm : m ≤ 3) (hw : ∀ j, j < m → 0 ≤ P 39 (3 * s + j) ∧ P 39 (3 * s + j) ≤ 4) (hc : CatB I R P s a c m (R 4 s 9)) (h0 : (∀ j, j < m → P 39 (3 * s + j) ≠ t) → K (some (zq none)) (I, R, al)) (h1 : ∀ j, j < m → P 39 (3 * s + j) = t → ∀ v, K (some (zq (some v))) (I, R, al)) : zCp (d + 1) 41 [zq (some (4, s)), zi t] (I, R, al) K := by
  rw [zcp_41]
  simp only [zh_41_0, zh_41_1, zh_41_4, zh_41_6n, zh_41_6, zh_41_9, zh_41_10, zh_41_13, zh_41_14, zh_41_17, zh_41_18, zh_41_19, zh_41_20, zh_41_23, zh_41_24, zh_41_27, zh_41_28, zwl_m1, zwl_0, zwl_1, zwl_2, zwl_3, zwl_4, zwl_5, zwl_6, zwl_7, zwl_8, zwl_10, zwl_15, zwl_24, zwl_32, zwl_33, zwl_40, zwl_41, zwl_42, zwl_43, zwl_45, zwl_47, zwl_48, zwl_52, zwl_56, zwl_57, zwl_59, zwl_60, zwl_61, zwl_63, zwl_64, zwl_66, zwl_67, zwl_68, zwl_70, zwl_75, zwl_77, zwl_80, zwl_82, zwl_84, zwl_88, zwl_89, zwl_97, zwl_104, zwl_110, zwl_112, zwl_114, zwl_118, zwl_123, zwl_125, zwl_126, zwl_159, zwl_160, zwl_200, zwl_255, zwl_480, zwl_960, zwl_3000, zs_kli, zs_klq, zs_kln, zs_wn, zs_wi, zs_wl, zs_wq, ↓zs_ok10, ↓zs_ok11, Option.toList_some, Option.toList_none, List.cons_append, List.nil_append, ↓reduceIte, Nat.reduceAdd, Nat.reduceLeDiff, true_and, and_true, Int.reduceEq, Int.reduceLT, Int.reduceLE, Int.reduceAdd, Int.reduceSub, Int.reduceMul, Int.reduceNeg, Nat.reduceEqDiff, Nat.reduceLT, Nat.reduceBEq, zsI_c, zsI_k, zsI_s, zsR_c, zsR_k, zsR_s]
  exact cy_loop ht m _ hm (fun j hj => by have := hw j hj; exact zw_i (by omega) (by omega)) hc h0 h1
theorem ca_catch {t v : Int} (hK : Kon R) (hc : c < 32) (h10 : I 7 0 10 = (c : Int)) (h : K (some (zq (some (5, c)))) (zsI (zsI (zsI I 7 0 10 ((c + 1 : Nat) : Int)) 5 c 0 t) 5 c 1 v, zsR (zsR R 5 c 3 (R 4 s 9)) 4 s 9 (some (5, c)), al)) : zCp (d + 1) 42 [zq (some (7, 0)), zq (some (4, s)), zi t, zi v] (I, R, al) K := by
  have e0 : ((c : Int) + 1) = ((c + 1 : Nat) : Int) := by omega
  rw [← e0] at h
  generalize hci : (c : Int) = ci at h10 h
  have e1 : zw ci = ci := zw_i (by omega) (by omega)
  have e2 : ¬ ci = 32 := by omega
  have e3 := kon_24 hK hc
  rw [zcp_42]
  simp only [zh_42_0, zh_42_1, zh_42_4, zh_42_6, zh_42_9, zh_42_10, zh_42_11, zh_42_12, zh_42_15, zh_42_16, zh_42_16q, zh_42_17, zh_42_20, zh_42_20r, zh_42_20qi, zh_42_20qr, zh_42_21, zh_42_22, zh_42_23, zh_42_26, zh_42_27, zh_42_29, zh_42_31, zh_42_32, zh_42_35, zh_42_37, zh_42_38, zh_42_41, zh_42_43, zh_42_44, zh_42_47, zh_42_50, zh_42_51, zh_42_53, zh_42_56, zh_42_58, zwl_m1, zwl_0, zwl_1, zwl_2, zwl_3, zwl_4, zwl_5, zwl_6, zwl_7, zwl_8, zwl_10, zwl_15, zwl_24, zwl_32, zwl_33, zwl_40, zwl_41, zwl_42, zwl_43, zwl_45, zwl_47, zwl_48, zwl_52, zwl_56, zwl_57, zwl_59, zwl_60, zwl_61, zwl_63, zwl_64, zwl_66, zwl_67, zwl_68, zwl_70, zwl_75, zwl_77, zwl_80, zwl_82, zwl_84, zwl_88, zwl_89, zwl_97, zwl_104, zwl_110, zwl_112, zwl_114, zwl_118, zwl_123, zwl_125, zwl_126, zwl_159, zwl_160, zwl_200, zwl_255, zwl_480, zwl_960, zwl_3000, zs_kli, zs_klq, zs_kln, zs_wn, zs_wi, zs_wl, zs_wq, ↓zs_ok10, ↓zs_ok11, Option.toList_some, Option.toList_none, List.cons_append, List.nil_append, ↓reduceIte, Nat.reduceAdd, Nat.reduceLeDiff, true_and, and_true, Int.reduceEq, Int.reduceLT, Int.reduceLE, Int.reduceAdd, Int.reduceSub, Int.reduceMul, Int.reduceNeg, Nat.reduceEqDiff, Nat.reduceLT, Nat.reduceBEq, zsI_c, zsI_k, zsI_s, zsR_c, zsR_k, zsR_s, kon_0_0_0 hK, kon_0_0_1 hK, kon_0_0_2 hK, kon_0_0_3 hK, kon_0_0_4 hK, kon_1_0_0 hK, kon_6_0_0 hK, kon_6_0_1 hK, kon_6_0_4 hK, kon_7_0_0 hK, kon_7_0_1 hK, kon_7_0_2 hK, kon_7_0_3 hK, kon_7_0_7 hK, kon_7_0_8 hK, kon_8_0_0 hK, kon_8_0_1 hK, kon_9_0_0 hK, kon_10_0_0 hK, kon_10_0_1 hK, kon_10_0_9 hK, h10, e1, e2, ↓za24 hci.symm hc, e3]
  exact h
/-- a Y with m catches so far -/
def YS (P : Nat → Nat → Int) (b s m : Nat) : Prop := P 41 s = (m : Int) ∧ m ≤ 3 ∧ KidN P b s 0 ∧ P 38 (6 * s + 1) = -1 ∧ (∀ i, i < m → 0 ≤ P 39 (3 * s + i) ∧ P 39 (3 * s + i) ≤ 4 ∧ 0 ≤ P 40 (3 * s + i) ∧ P 40 (3 * s + i) < 8 ∧ KidN P b s (2 + i)) ∧ (∀ i, m ≤ i → i < 3 → P 38 (6 * s + 2 + i) = -1)
theorem sd_y {m : Nat} (h : YS P b s m) (h34 : P 34 s = 89) (h5 : P 38 (6 * s + 5) = -1 ∨ KidN P b s 5) : SD P b e s := by
  obtain ⟨y1, y2, y3, y4, y5, y6⟩ := h
  have hX : ¬ hasX (P 34 s) := by unfold hasX; omega
  refine ⟨by rw [h34]; unfold knd; omega, fun q => absurd q hX, by omega, by omega, by omega, fun j hj => ?_, fun _ => y3, by omega, ⟨by omega, by omega, fun i hi => y5 i (by omega)⟩, by omega, by omega, fun _ i h1 h2 => y6 i (by omega) h2, by omega, fun _ => y4⟩
  have hj' : j = 0 ∨ j = 1 ∨ j = 5 ∨ ∃ i, i < 3 ∧ j = 2 + i := by
    by_cases q : 2 ≤ j ∧ j ≤ 4
    · exact Or.inr (Or.inr (Or.inr ⟨j - 2, by omega, by omega⟩))
    · omega
  rcases hj' with rfl | rfl | rfl | ⟨i, hi, rfl⟩
  · exact Or.inr y3
  · exact Or.inl y4
  · exact h5
  · by_cases q : i < m
    · exact Or.inr (y5 i q).2.2.2.2
    · have := y6 i (by omega) hi
      have e1 : 6 * s + 2 + i = 6 * s + (2 + i) := by omega
      rw [e1] at this
      exact Or.inl this
theorem cd_y {a m : Nat} {r8 : Option (Nat × Nat)} (h41 : P 41 s = (m : Int)) (h34 : P 34 s = 89) (h7 : R 4 s 7 = rf 3 (P 38 (6 * s + 0))) (h8 : R 4 s 8 = rf 3 (P 38 (6 * s + 5))) (h9 : CatB I R P s a c m (R 4 s 9)) : CD I R P a c s := by
  have hX : ¬ hasX (P 34 s) := by unfold hasX; omega
  refine ⟨by omega, fun q => absurd q hX, fun _ => h7, by omega, fun _ => h8, by omega, fun _ => ?_⟩
  rw [h41, Int.toNat_natCast]
  exact h9
end
/-- a catch's rows -/
def pK (P : Nat → Nat → Int) (s m : Nat) (t v : Int) : Nat → Nat → Int := pU (pU (pU P 39 (3 * s + m) t) 40 (3 * s + m) v) 41 s ((m + 1 : Nat) : Int)
section
variable {d n p e s b c x k p1 e1 s1 b1 c1 m : Nat} {T : Nat → Int} {P P1 : Nat → Nat → Int} {I I1 : zMI} {R R1 : zMR} {al : zA} {K Q : Option zV → zS → Prop} {t v : Int}
theorem pK_n {c' j : Nat} (h : ¬ ((c' = 39 ∨ c' = 40) ∧ j = 3 * s + m)) (h2 : ¬ (c' = 41 ∧ j = s)) : pK P1 s m t v c' j = P1 c' j := by
  unfold pK
  rw [pU_n h2, pU_n (fun q => h ⟨Or.inr q.1, q.2⟩), pU_n (fun q => h ⟨Or.inl q.1, q.2⟩)]
theorem pK_s : pK P1 s m t v 39 (3 * s + m) = t ∧ pK P1 s m t v 40 (3 * s + m) = v ∧ pK P1 s m t v 41 s = ((m + 1 : Nat) : Int) := by
  unfold pK
  refine ⟨?_, ?_, pU_s⟩
  · rw [pU_n (by omega), pU_n (by omega), pU_s]
  · rw [pU_n (by omega), pU_s]
theorem pK_z {z : Nat} (hz : z ≠ s) (hm : m < 3) : PFz P1 (pK P1 s m t v) e1 b1 z := ⟨fun t ht => pK_n (by omega) (by omega), fun j hj => pK_n (by omega) (by omega), fun t k hk ht => pK_n (by omega) (by omega), fun t y hy ht => pK_n (by omega) (by omega), fun t j hj ht => pK_n (by omega) (by omega)⟩
theorem pw_K (hW : PW n p e s b c k x 89 P p1 e1 s1 b1 c1 P1) (h1 : 2 * s1 + 2 ≤ p1) (h2 : 5 * c1 + 3 ≤ p1 + k) (hm : m < 3) (h38 : P1 38 (6 * s + 2 + m) = -1) (hn : p1 + 3 ≤ n) : PW n p e s b c k x 89 P (p1 + 3) e1 s1 b1 (c1 + 1) (pK P1 s m t v) := by
  obtain ⟨w1, w2, w3, w4, w5, w6, w7, w8, w9, w10, w11, w12, w13, w14, w15, w16, w17⟩ := hW
  refine ⟨by omega, hn, by omega, by omega, by omega, by omega, w7, w8, w9, by omega, w11.tr (e1 := e) (s1 := s) (b1 := b) ⟨fun t z hz ht => pK_n (by omega) (by omega), fun z i hz hi => pK_n (by omega) (by omega), fun t z i hz hi ht => pK_n (by omega) (by omega), fun t y hy ht => pK_n (by omega) (by omega), fun t i hi ht => pK_n (by omega) (by omega), fun t i ht => pK_n (by omega) (by omega)⟩ (Nat.le_refl _) (Nat.le_refl _) (Nat.le_refl _), w12.upd (fun t j ht => pK_n (by omega) (by omega)), w13.upd (fun t j ht => pK_n (by omega) (by omega)) (fun y o hy ho => ⟨pK_n (by omega) (by omega), fun q => ?_⟩), fun z q1 q2 => (w14 z q1 q2).frz (pK_z (e1 := e1) (b1 := b1) (by omega) hm) (Nat.le_refl _) (Nat.le_refl _), by rw [pK_n (by omega) (by omega)]; exact w15, ⟨by rw [pK_n (by omega) (by omega)]; exact w16.1, fun y q1 q2 => by rw [pK_n (by omega) (by omega)]; exact w16.2 y q1 q2⟩, by rw [pK_n (by omega) (by omega)]; exact w17⟩
  refine pK_n (fun w => ?_) (by omega)
  obtain ⟨-, w'⟩ := w
  rcases (w13 y hy).2 with ⟨u, -⟩ | ⟨o', h', u, -, -, -, -, -, -, u2, -⟩
  · omega
  · have ho' : o' = o := by omega
    have hos : o = s := by omega
    have hsl : (P1 48 y).toNat = 2 + m := by omega
    rw [ho', hos, hsl] at u2
    have e1' : 6 * s + 2 + m = 6 * s + (2 + m) := by omega
    rw [e1'] at h38
    omega
/-- the class's memory with a new catch -/
theorem cw_K {q : Nat} (hc : CW I I1 R R1 T n s c p1 e1 s1 b1 c1 P1) (hcc : c ≤ c1) (hss : s < s1) (hm : m < 3) (h41 : ∀ z, s < z → z < s1 → P1 41 z ≤ 3) : CW I (zsI (zsI (zsI (zsI I1 8 0 2 (q : Int)) 7 0 10 ((c1 + 1 : Nat) : Int)) 5 c1 0 t) 5 c1 1 v) R (zsR (zsR R1 5 c1 3 (R1 4 s 9)) 4 s 9 (some (5, c1))) T n s c q e1 s1 b1 (c1 + 1) (pK P1 s m t v) := by
  obtain ⟨h1, h2, h3, h4⟩ := hc
  have hf : FS I1 (zsI (zsI (zsI (zsI I1 8 0 2 (q : Int)) 7 0 10 ((c1 + 1 : Nat) : Int)) 5 c1 0 t) 5 c1 1 v) s1 c1 := fun t i k h1 h2 h3 h4 h5 h6 h7 h8 => by rw [zsI_n (by omega), zsI_n (by omega), zsI_n (by omega), zsI_n (by omega)]
  have hr : FR R1 (zsR R1 5 c1 3 (R1 4 s 9)) s1 c1 := fun t i k h1 h2 h3 => zsR_n (by omega)
  refine CW.r ⟨h1.tr hf (by omega) hcc, h2.tr hr (by omega) hcc, (h3.at (q := q) rfl).congr (fun t i k ht => by rw [zsI_n (by omega), zsI_n (by omega), zsI_n (by omega)]) (by rw [zsI_ne (by omega), zsI_ne (by omega), zsI_s]) (fun z hz => ?_) (fun t i k ht => zsR_n (by omega)) (fun t j ht => pK_n (by omega) (by omega)), fun z q1 q2 => (h4 z q1 q2).frs hf hr (pK_z (e1 := e1) (b1 := b1) (by omega) hm) q2 (Nat.le_refl _) (by omega) (h41 z q1 q2)⟩ (by omega)
  rw [zsI_ne (by omega), zsI_ne (by omega), zsI_ne (by omega), zsI_ne (by omega), pK_n (by omega) (by omega)]
  exact (h3.2.2.2.2.2.1 z hz).1
end
