/-! what reading a block and a statement comes to, for the class and the reference alike -/
abbrev RO : Type := Option (Nat × Nat × Nat × Nat × Nat × (Nat → Nat → Int))
def NI (n p e s b c k : Nat) (P : Nat → Nat → Int) : Prop := p ≤ n ∧ e ≤ p ∧ 2 * s + 2 ≤ p ∧ 2 * b ≤ p ∧ 5 * c + 3 ≤ p + k ∧ AS P s b ∧ AB P s b
def PO (n p e s b c k g : Nat) (P : Nat → Nat → Int) (p' e' s' b' c' : Nat) (P' : Nat → Nat → Int) : Prop := p < p' ∧ p' ≤ n ∧ e' ≤ p' ∧ 2 * s' + 2 ≤ p' ∧ 2 * b' + g ≤ p' ∧ 5 * c' + 3 + g ≤ p' + k ∧ e ≤ e' ∧ s ≤ s' ∧ b ≤ b' ∧ c ≤ c' ∧ PF P P' e s b ∧ AS P' s' b' ∧ AB P' s' b' ∧ (∀ z, s ≤ z → z < s' → SD P' b' e' z) ∧ ∀ y, b ≤ y → y < b' → 0 ≤ P' 47 y
def CO (I I' : zMI) (R R' : zMR) (T : Nat → Int) (n s c p' e' s' b' c' : Nat) (P' : Nat → Nat → Int) : Prop := FS I I' s c ∧ FR R R' s c ∧ PC I' R' T n p' e' s' b' c' P' ∧ ∀ z, s ≤ z → z < s' → CD I' R' P' c c' z
def Dc (k : Nat) : Nat := 60 + 6 * (5 - k)
/-- the rest of a block -/
def RBS (T : Nat → Int) (n p : Nat) : Prop := ∀ (x k e s b c : Nat) (P : Nat → Nat → Int), x < b → P 100 x = (k : Int) → 1 ≤ k → k ≤ 4 → NI n p e s b c k P → ∃ o : RO,
  (∀ p' e' s' b' c' P', o = some (p', e', s', b', c', P') → PO n p e s b c k 1 P p' e' s' b' c' P') ∧
  (∀ (I : zMI) (R : zMR) (al : zA) (d : Nat) (K : Option zV → zS → Prop) (l1 l2 l3 : Option zV) (nn : Int), Dc k ≤ d → 0 ≤ nn → nn ≤ (s : Int) → PC I R T n p e s b c P → (o = none → ∀ I' R', FS I I' s c → FR R R' s c → K (some (zq none)) (I', R', al)) → (∀ p' e' s' b' c' P', o = some (p', e', s', b', c', P') → ∀ I' R', CO I I' R R' T n s c p' e' s' b' c' P' → K (some (zq (some (3, x)))) (I', R', al)) → Zgo d 26 38 [some (zq (some (8, 0))), l1, l2, l3, some (zq (some (3, x))), some (zi nn)] [] (I, R, al) K) ∧
  (∀ (R : zMR) (al : zA), Kon R → ∀ (d : Nat) (I : zMI) (Q : Option zV → zS → Prop) (root ki : Int), ki = (k : Int) → PM I T n p e s b P → I 11 0 4 = 0 → I 52 0 k = (x : Int) → (o = none → ∀ I', FM I I' k → I' 11 0 4 = 1 → BB I' → Q (some (zi root)) (I', R, al)) → (∀ p' e' s' b' c' P', o = some (p', e', s', b', c', P') → ∀ I', FM I I' k → I' 11 0 4 = 0 → PM I' T n p' e' s' b' P' → Zgo (d + 5) 91 71 [some (zq (some (11, 0))), some (zi root), some (zi (ki - 1)), some (zi (x : Int)), some (zi 125), some (zi (P 47 x)), some (zi (-1))] [] (I', R, al) Q) → RH (d + 5) R al Q root ki I)
/-- a block of the statement z -/
def BKS (T : Nat → Int) (n p : Nat) : Prop := ∀ (x k z j e s b c : Nat) (P : Nat → Nat → Int) (il tk : Int), x < b → P 100 x = (k : Int) → 1 ≤ k → k ≤ 4 → z < s → P 42 z = (x : Int) → j ≤ 5 → P 38 (6 * z + j) = -1 → il = (if P 34 z = 64 then 1 else P 101 x) → tk = (if P 34 z = 89 ∧ 2 ≤ j ∧ j ≤ 4 then P 39 (3 * z + j - 2) else P 102 x) → (P 34 z = 64 → j = 0) →
  p ≤ n → e ≤ p → 2 * s + 1 ≤ p → 2 * b + 1 ≤ p → 5 * c + 1 ≤ p + k → AS P s b → AB P s b → ∃ o : RO,
  (∀ p' e' s' b' c' P', o = some (p', e', s', b', c', P') → PO n p e s (b + 1) c (k + 1) 1 (pNB P b (z : Int) (j : Int) (k + 1 : Nat) il tk) p' e' s' b' c' P') ∧
  (∀ (I : zMI) (R : zMR) (al : zA) (d : Nat) (K : Option zV → zS → Prop) (ki : Int), ki = ((k + 1 : Nat) : Int) → Dc (k + 1) + 1 ≤ d → PC I R T n p e s b c P → (o = none → ∀ I' R', FS I I' s c → FR R R' s c → K (some (zq none)) (I', R', al)) → (∀ p' e' s' b' c' P', o = some (p', e', s', b', c', P') → ∀ I' R', CO I I' R R' T n s c p' e' s' b' c' P' → K (some (zq (some (3, b)))) (I', R', al)) → zCp d 26 [zq (some (8, 0)), zi ki, zi il, zi tk] (I, R, al) K) ∧
  (∀ (R : zMR) (al : zA), Kon R → ∀ (d : Nat) (I : zMI) (Q : Option zV → zS → Prop) (root ki zi' ji : Int), ki = (k : Int) → zi' = (z : Int) → ji = (j : Int) → PM I T n p e s b P → I 11 0 4 = 0 → (o = none → ∀ I', FM I I' k → I' 11 0 4 = 1 → BB I' → Q (some (zi root)) (I', R, al)) → (∀ p' e' s' b' c' P', o = some (p', e', s', b', c', P') → ∀ I', FM I I' k → I' 11 0 4 = 0 → PM I' T n p' e' s' b' P' → Zgo (d + 5) 91 71 [some (zq (some (11, 0))), some (zi root), some (zi ki), some (zi (b : Int)), some (zi 125), some (zi (z : Int)), some (zi (-1))] [] (I', R, al) Q) → RA (d + 5) R al Q root ki zi' ji I)
theorem AB.il {P : Nat → Nat → Int} {s b : Nat} (hB : AB P s b) : ∀ (m y : Nat), y < m → y < b → P 101 y = 0 ∨ P 101 y = 1
  | 0, _, h, _ => by omega
  | m + 1, y, h, hy => by
    rcases (hB y hy).2 with ⟨_, _, h1, _⟩ | ⟨o, g, _, _, _, h1, h2, _, _, _, _, _, _, h3, _⟩
    · exact Or.inl h1
    · rw [h3]
      by_cases q : P 34 o = 64
      · rw [if_pos q]; exact Or.inr rfl
      · rw [if_neg q]; exact AB.il hB m g (by omega) h2
theorem AB.upd {P P' : Nat → Nat → Int} {s b : Nat} (hB : AB P s b) (hP : ∀ t j, (t = 42 ∨ t = 43 ∨ t = 45 ∨ t = 46 ∨ t = 47 ∨ t = 48 ∨ t = 100 ∨ t = 101 ∨ t = 102 ∨ t = 38) → P' t j = P t j) (h3 : ∀ y o : Nat, y < b → P 47 y = (o : Int) → P' 34 o = P 34 o ∧ (P 34 o = 89 ∧ 2 ≤ P 48 y ∧ P 48 y ≤ 4 → P' 39 (3 * o + (P 48 y).toNat - 2) = P 39 (3 * o + (P 48 y).toNat - 2))) : AB P' s b := by
  intro y hy
  obtain ⟨h1, h2⟩ := hB y hy
  refine ⟨?_, ?_⟩
  · rw [hP 45 y (by omega), hP 46 y (by omega)]
    rcases h1 with ⟨a1, a2, a3⟩ | ⟨f, l, a1, a2, a3, a4, a5, a6, a7, a8, a9⟩
    · exact Or.inl ⟨a1, a2, fun z hz => by rw [hP 42 z (by omega)]; exact a3 z hz⟩
    · exact Or.inr ⟨f, l, a1, a2, a3, a4, by rw [hP 42 f (by omega)]; exact a5, by rw [hP 42 l (by omega)]; exact a6, by rw [hP 43 l (by omega)]; exact a7, fun z hz => by rw [hP 42 z (by omega)]; exact a8 z hz, fun z hz hz2 => by rw [hP 42 z (by omega)]; exact a9 z hz hz2⟩
  · rw [hP 47 y (by omega), hP 48 y (by omega), hP 100 y (by omega), hP 101 y (by omega), hP 102 y (by omega)]
    rcases h2 with h2 | ⟨o, h, q1, q0, q2, q3, q4, q5, q6, q7, q8, q9, q10, q11, q12, q13⟩
    · exact Or.inl h2
    · obtain ⟨w1, w2⟩ := h3 y o hy q1
      refine Or.inr ⟨o, h, ?_⟩
      rw [hP 42 o (by omega), hP 38 _ (by omega), hP 100 h (by omega), hP 101 h (by omega), hP 102 h (by omega), w1]
      refine ⟨q1, q0, q2, q3, q4, q5, q6, q7, q8, q9, q10, q11, ?_, q13⟩
      rw [q12]
      by_cases w : P 34 o = 89 ∧ 2 ≤ P 48 y ∧ P 48 y ≤ 4
      · rw [if_pos w, if_pos w, w2 w]
      · rw [if_neg w, if_neg w]
theorem AS.upd {P P' : Nat → Nat → Int} {s b : Nat} (hS : AS P s b) (hP : ∀ t j, (t = 42 ∨ t = 43 ∨ t = 45 ∨ t = 46 ∨ t = 47 ∨ t = 103) → P' t j = P t j) : AS P' s b := by
  intro z hz
  obtain ⟨⟨y, y1, y2, y3⟩, h2, h3⟩ := hS z hz
  rw [hP 42 z (by omega), hP 43 z (by omega), hP 103 z (by omega), hP 45 _ (by omega), hP 46 _ (by omega)]
  refine ⟨⟨y, y1, y2, by rw [hP 47 y (by omega)]; exact y3⟩, ?_, ?_⟩
  · rcases h2 with h2 | ⟨q, a1, a2, a3, a4, a5⟩
    · exact Or.inl h2
    · exact Or.inr ⟨q, a1, a2, a3, by rw [hP 42 q (by omega)]; exact a4, fun y h1 h2 => by rw [hP 42 y (by omega)]; exact a5 y h1 h2⟩
  · rcases h3 with h3 | ⟨q, a1, a2, a3, a4⟩
    · exact Or.inl h3
    · exact Or.inr ⟨q, a1, a2, by rw [hP 43 q (by omega)]; exact a3, by rw [hP 42 q (by omega)]; exact a4⟩
theorem PF.le {P P' : Nat → Nat → Int} {e s b e1 s1 b1 : Nat} (h : PF P P' e1 s1 b1) (he : e ≤ e1) (hs : s ≤ s1) (hb : b ≤ b1) : PF P P' e s b := PF.rfl.tr h he hs hb
theorem FS.le {I I' : zMI} {s c s1 c1 : Nat} (h : FS I I' s1 c1) (hs : s ≤ s1) (hc : c ≤ c1) : FS I I' s c := FS.rfl.tr h hs hc
theorem FR.le {R R' : zMR} {s c s1 c1 : Nat} (h : FR R R' s1 c1) (hs : s ≤ s1) (hc : c ≤ c1) : FR R R' s c := FR.rfl.tr h hs hc
theorem PO.tr {n p e s b c k g g1 p1 e1 s1 b1 c1 p' e' s' b' c' : Nat} {P P1 P' : Nat → Nat → Int} (h0 : PO n p e s b c k g1 P p1 e1 s1 b1 c1 P1) (h : PO n p1 e1 s1 b1 c1 k g P1 p' e' s' b' c' P') : PO n p e s b c k g P p' e' s' b' c' P' := by
  obtain ⟨a1, a2, a3, a4, a5, a6, a7, a8, a9, a10, a11, a12, a13, a14⟩ := h0
  obtain ⟨b1', b2, b3, b4, b5, b6, b7, b8, b9, b10, b11, b12, b13, b14⟩ := h
  refine ⟨by omega, b2, b3, b4, b5, b6, by omega, by omega, by omega, by omega, a11.tr b11 a7 a8 a9, b12, b13, fun z h1 h2 => ?_, fun y h1 h2 => ?_⟩
  · by_cases q : z < s1
    · exact (a14.1 z h1 q).fr b11 q b9 b7
    · exact b14.1 z (by omega) h2
  · by_cases q : y < b1
    · rw [b11.2.2.2.1 47 y q (by omega)]; exact a14.2 y h1 q
    · exact b14.2 y (by omega) h2
theorem CO.tr {I I1 I' : zMI} {R R1 R' : zMR} {T : Nat → Int} {n p e s b c k g g1 p1 e1 s1 b1 c1 p' e' s' b' c' : Nat} {P P1 P' : Nat → Nat → Int} (h0 : CO I I1 R R1 T n s c p1 e1 s1 b1 c1 P1) (h : CO I1 I' R1 R' T n s1 c1 p' e' s' b' c' P') (hp : PO n p e s b c k g1 P p1 e1 s1 b1 c1 P1) (hp2 : PO n p1 e1 s1 b1 c1 k g P1 p' e' s' b' c' P') : CO I I' R R' T n s c p' e' s' b' c' P' := by
  obtain ⟨a1, a2, a3, a4, a5, a6, a7, a8, a9, a10, a11, a12, a13, a14⟩ := hp
  obtain ⟨b1', b2, b3, b4, b5, b6, b7, b8, b9, b10, b11, b12, b13, b14⟩ := hp2
  refine ⟨h0.1.tr h.1 a8 a10, h0.2.1.tr h.2.1 a8 a10, h.2.2.1, fun z h1 h2 => ?_⟩
  by_cases q : z < s1
  · exact (h0.2.2.2 z h1 q).frs h.1 h.2.1 (b11.z q) q (Nat.le_refl _) b10 (a14.1 z h1 q).2.2.2.2.2.2.2.2.1.2.1
  · exact (h.2.2.2 z (by omega) h2).frz (fun _ _ => rfl) (fun _ _ => rfl) (fun _ _ _ _ => rfl) (fun _ _ _ _ => rfl) (PFz.rfl (e := 0) (b := 0)) a10 (Nat.le_refl _) (b14.1 z (by omega) h2).2.2.2.2.2.2.2.2.1.2.1
section
variable {T : Nat → Int} {n p : Nat}
theorem PF_newb {P : Nat → Nat → Int} {e s b z j : Nat} {dep il tk : Int} (hj : j ≤ 5) (hz : s ≤ z) : PF P (pNB P b (z : Int) (j : Int) dep il tk) e s b := by
  refine ⟨fun t y hy ht => pNB_o (by omega) (by omega), fun y i hy hi => pNB_o (by omega) (by omega), fun t y i hy hi ht => pNB_o (by omega) (by omega), fun t y hy ht => pNB_o (by omega) (by omega), fun t i hi ht => pNB_o (by omega) (by omega), fun t i ht => pNB_o (by omega) (by omega)⟩
theorem bk_step (hT : TX T n) (hR : p < n → RBS T n (p + 1)) : BKS T n p := by
  intro x k z j e s b c P il tk hxb h100 hk1 hk4 hzs h42 hj h38 hil htk h64 hpn hep hsp hbp hcp hS hB
  have hn1 := hT.1
  have hr := ch_r (p := p) hT
  have hil01 : il = 0 ∨ il = 1 := by
    rw [hil]
    by_cases q : P 34 z = 64
    · rw [if_pos q]; exact Or.inr rfl
    · rw [if_neg q]; exact hB.il (x + 1) x (by omega) hxb
  by_cases hg : k ≤ 3 ∧ ch T n p = 123
  · have hlt : p < n := by omega
    have hfree : ∀ y, y < b → ¬ (P 47 y = (z : Int) ∧ P 48 y = (j : Int)) := fun y hy q => by
      rcases (hB y hy).2 with ⟨w, -⟩ | ⟨o, h, w, -, -, -, -, -, -, w2, -⟩
      · omega
      · have : o = z := by omega
        rw [this, q.2, Int.toNat_natCast, h38] at w2
        omega
    have hS1 : AS (pNB P b (z : Int) (j : Int) (k + 1 : Nat) il tk) s (b + 1) := AS_newb hS
    have hB1 : AB (pNB P b (z : Int) (j : Int) (k + 1 : Nat) il tk) s (b + 1) := by
      refine AB_newb hB (fun y hy q => ?_) (fun _ => hfree) (Or.inr ⟨z, x, rfl, hzs, h42, hxb, by omega, by omega, by omega, by omega, by omega, hil, ?_, fun q => by rw [h64 q]; rfl⟩)
      · obtain ⟨⟨w, w1, w2, -⟩, -⟩ := hS y hy
        omega
      · rw [htk]
        by_cases q : P 34 z = 89 ∧ 2 ≤ j ∧ j ≤ 4
        · rw [if_pos q, if_pos ⟨q.1, by omega, by omega⟩, Int.toNat_natCast]
        · rw [if_neg q, if_neg (fun w => q ⟨w.1, by omega, by omega⟩)]
    obtain ⟨n45, n46, n47, n48, n100, n101, n102, n38⟩ := pNB_s (P := P) (b := b) (o := (z : Int)) (sl := (j : Int)) (dep := ((k + 1 : Nat) : Int)) (il := il) (tk := tk)
    obtain ⟨o, ok, hc, hm⟩ := hR hlt b (k + 1) e s (b + 1) c _ (by omega) n100 (by omega) (by omega) ⟨by omega, by omega, by omega, by omega, by omega, hS1, hB1⟩
    refine ⟨o, fun p' e' s' b' c' P' h => ?_, fun I R al d K ki hki hd hx h0 h1 => ?_, fun R al hK d I Q root ki zi' ji hki hzi hji hx h4 h0 h1 => ?_⟩
    · obtain ⟨a1, a⟩ := ok p' e' s' b' c' P' h
      exact ⟨by omega, a⟩
    · obtain ⟨x', rfl⟩ : ∃ x', d = x' + 3 := ⟨d - 3, by unfold Dc at hd; omega⟩
      have e1 : zw ki = ki := zw_i (by omega) (by omega)
      have e2 : ¬ 4 < ki := by omega
      have hK := hx.2.1
      rw [zcp_26]
      simp only [zh_26_0, zh_26_1, zh_26_2, zh_26_5, zh_26_6, zh_26_8, zh_26_11, zh_26_14, zh_26_15, zh_26_16, zh_26_17, zh_26_20, zh_26_21, zh_26_22, zh_26_23, zh_26_26, zh_26_28, zh_26_30n, zh_26_30, zh_26_33, zh_26_34, zh_26_35, zh_26_36, zh_26_40, zh_26_42, zh_26_45, zh_26_46, zh_26_48, zh_26_51, zh_26_54, zh_26_56, zh_26_57, zh_26_58, zh_26_60, zh_26_63, zh_26_66, zh_26_67, zh_26_68, zh_26_71, zh_26_74, zh_26_75, zwl_m1, zwl_0, zwl_1, zwl_2, zwl_3, zwl_4, zwl_5, zwl_6, zwl_7, zwl_8, zwl_10, zwl_15, zwl_24, zwl_32, zwl_33, zwl_40, zwl_41, zwl_42, zwl_43, zwl_45, zwl_47, zwl_48, zwl_52, zwl_56, zwl_57, zwl_59, zwl_60, zwl_61, zwl_63, zwl_64, zwl_66, zwl_67, zwl_68, zwl_70, zwl_75, zwl_77, zwl_80, zwl_82, zwl_84, zwl_88, zwl_89, zwl_97, zwl_104, zwl_110, zwl_112, zwl_114, zwl_118, zwl_123, zwl_125, zwl_126, zwl_159, zwl_160, zwl_200, zwl_255, zwl_480, zwl_960, zwl_3000, zs_kli, zs_klq, zs_kln, zs_wn, zs_wi, zs_wl, zs_wq, ↓zs_ok10, ↓zs_ok11, Option.toList_some, Option.toList_none, List.cons_append, List.nil_append, ↓reduceIte, Nat.reduceAdd, Nat.reduceLeDiff, true_and, and_true, Int.reduceEq, Int.reduceLT, Int.reduceLE, Int.reduceAdd, Int.reduceSub, Int.reduceMul, Int.reduceNeg, Nat.reduceEqDiff, Nat.reduceLT, Nat.reduceBEq, zsI_c, zsI_k, zsI_s, zsR_c, zsR_k, zsR_s, e1, e2]
      refine ct_take hK hT hx.1.1 (by omega) (by omega) (fun _ => ?_) (fun q => absurd hg.2 q)
      simp only [zh_26_0, zh_26_1, zh_26_2, zh_26_5, zh_26_6, zh_26_8, zh_26_11, zh_26_14, zh_26_15, zh_26_16, zh_26_17, zh_26_20, zh_26_21, zh_26_22, zh_26_23, zh_26_26, zh_26_28, zh_26_30n, zh_26_30, zh_26_33, zh_26_34, zh_26_35, zh_26_36, zh_26_40, zh_26_42, zh_26_45, zh_26_46, zh_26_48, zh_26_51, zh_26_54, zh_26_56, zh_26_57, zh_26_58, zh_26_60, zh_26_63, zh_26_66, zh_26_67, zh_26_68, zh_26_71, zh_26_74, zh_26_75, zwl_m1, zwl_0, zwl_1, zwl_2, zwl_3, zwl_4, zwl_5, zwl_6, zwl_7, zwl_8, zwl_10, zwl_15, zwl_24, zwl_32, zwl_33, zwl_40, zwl_41, zwl_42, zwl_43, zwl_45, zwl_47, zwl_48, zwl_52, zwl_56, zwl_57, zwl_59, zwl_60, zwl_61, zwl_63, zwl_64, zwl_66, zwl_67, zwl_68, zwl_70, zwl_75, zwl_77, zwl_80, zwl_82, zwl_84, zwl_88, zwl_89, zwl_97, zwl_104, zwl_110, zwl_112, zwl_114, zwl_118, zwl_123, zwl_125, zwl_126, zwl_159, zwl_160, zwl_200, zwl_255, zwl_480, zwl_960, zwl_3000, zs_kli, zs_klq, zs_kln, zs_wn, zs_wi, zs_wl, zs_wq, ↓zs_ok10, ↓zs_ok11, Option.toList_some, Option.toList_none, List.cons_append, List.nil_append, ↓reduceIte, Nat.reduceAdd, Nat.reduceLeDiff, true_and, and_true, Int.reduceEq, Int.reduceLT, Int.reduceLE, Int.reduceAdd, Int.reduceSub, Int.reduceMul, Int.reduceNeg, Nat.reduceEqDiff, Nat.reduceLT, Nat.reduceBEq, zsI_c, zsI_k, zsI_s, zsR_c, zsR_k, zsR_s, kon_0_0_0 hK, kon_0_0_1 hK, kon_0_0_2 hK, kon_0_0_3 hK, kon_0_0_4 hK, kon_1_0_0 hK, kon_6_0_0 hK, kon_6_0_1 hK, kon_6_0_4 hK, kon_7_0_0 hK, kon_7_0_1 hK, kon_7_0_2 hK, kon_7_0_3 hK, kon_7_0_7 hK, kon_7_0_8 hK, kon_8_0_0 hK, kon_8_0_1 hK, kon_9_0_0 hK, kon_10_0_0 hK, kon_10_0_1 hK, kon_10_0_9 hK]
      obtain ⟨I1, R1, f1, f2, hx1, hgo⟩ := PC_newb (o := (z : Int)) (sl := (j : Int)) (dep := ki) (il := il) (tk := tk) (hx.at (q := p + 1) rfl)
      have f0 : FS I I1 s c := FS.tr (fun t i k h1 h2 h3 h4 h5 h6 h7 h8 => zsI_n (by omega)) f1 (Nat.le_refl _) (Nat.le_refl _)
      refine hgo _ _ _ (by omega) hil01 ?_
      simp only [zh_26_0, zh_26_1, zh_26_2, zh_26_5, zh_26_6, zh_26_8, zh_26_11, zh_26_14, zh_26_15, zh_26_16, zh_26_17, zh_26_20, zh_26_21, zh_26_22, zh_26_23, zh_26_26, zh_26_28, zh_26_30n, zh_26_30, zh_26_33, zh_26_34, zh_26_35, zh_26_36, zh_26_40, zh_26_42, zh_26_45, zh_26_46, zh_26_48, zh_26_51, zh_26_54, zh_26_56, zh_26_57, zh_26_58, zh_26_60, zh_26_63, zh_26_66, zh_26_67, zh_26_68, zh_26_71, zh_26_74, zh_26_75, zwl_m1, zwl_0, zwl_1, zwl_2, zwl_3, zwl_4, zwl_5, zwl_6, zwl_7, zwl_8, zwl_10, zwl_15, zwl_24, zwl_32, zwl_33, zwl_40, zwl_41, zwl_42, zwl_43, zwl_45, zwl_47, zwl_48, zwl_52, zwl_56, zwl_57, zwl_59, zwl_60, zwl_61, zwl_63, zwl_64, zwl_66, zwl_67, zwl_68, zwl_70, zwl_75, zwl_77, zwl_80, zwl_82, zwl_84, zwl_88, zwl_89, zwl_97, zwl_104, zwl_110, zwl_112, zwl_114, zwl_118, zwl_123, zwl_125, zwl_126, zwl_159, zwl_160, zwl_200, zwl_255, zwl_480, zwl_960, zwl_3000, zs_kli, zs_klq, zs_kln, zs_wn, zs_wi, zs_wl, zs_wq, ↓zs_ok10, ↓zs_ok11, Option.toList_some, Option.toList_none, List.cons_append, List.nil_append, ↓reduceIte, Nat.reduceAdd, Nat.reduceLeDiff, true_and, and_true, Int.reduceEq, Int.reduceLT, Int.reduceLE, Int.reduceAdd, Int.reduceSub, Int.reduceMul, Int.reduceNeg, Nat.reduceEqDiff, Nat.reduceLT, Nat.reduceBEq, zsI_c, zsI_k, zsI_s, zsR_c, zsR_k, zsR_s]
      rw [hki] at hx1 ⊢
      refine hc I1 R1 al _ K _ _ _ 0 (by unfold Dc at hd ⊢; omega) (by omega) (by omega) hx1 (fun q I' R' g1 g2 => h0 q I' R' (f0.tr g1 (Nat.le_refl _) (Nat.le_refl _)) (f2.tr g2 (Nat.le_refl _) (Nat.le_refl _))) (fun p' e' s' b' c' P' q I' R' g => h1 p' e' s' b' c' P' q I' R' ⟨f0.tr g.1 (Nat.le_refl _) (Nat.le_refl _), f2.tr g.2.1 (Nat.le_refl _) (Nat.le_refl _), g.2.2⟩)
    · refine ra_open h4 (zw_i (by omega) (by omega)) (by omega) ?_
      refine ra_block (zn := z) (jn := j) (k := k) ((k + 1 : Nat) : Int) il tk hK hT hx (by omega) hki hk4 hzi (by omega) hji (by omega) (by omega) (fun I1 f1 hx1 g1 g2 => ?_)
      rw [if_pos hg] at g1
      rw [hzi, hji] at hx1
      refine hm R al hK d I1 Q root (ki + 1) (by omega) hx1 g1 g2 (fun q I' f2 g3 g4 => h0 q I' (f1.tr (f2.le (by omega))) g3 g4) (fun p' e' s' b' c' P' q I' f2 g3 g4 => ?_)
      have := h1 p' e' s' b' c' P' q I' (f1.tr (f2.le (by omega))) g3 g4
      have e1 : ki + 1 - 1 = ki := by omega
      rw [e1, n47]
      exact this
  · refine ⟨none, fun p' e' s' b' c' P' h => (by cases h), fun I R al d K ki hki hd hx h0 h1 => ?_, fun R al hK d I Q root ki zi' ji hki hzi hji hx h4 h0 h1 => ?_⟩
    · obtain ⟨x', rfl⟩ : ∃ x', d = x' + 3 := ⟨d - 3, by unfold Dc at hd; omega⟩
      have e1 : zw ki = ki := zw_i (by omega) (by omega)
      have hK := hx.2.1
      rw [zcp_26]
      by_cases q : 4 < ki
      · simp only [zh_26_0, zh_26_1, zh_26_2, zh_26_5, zh_26_6, zh_26_8, zh_26_11, zh_26_14, zh_26_15, zh_26_16, zh_26_17, zh_26_20, zh_26_21, zh_26_22, zh_26_23, zh_26_26, zh_26_28, zh_26_30n, zh_26_30, zh_26_33, zh_26_34, zh_26_35, zh_26_36, zh_26_40, zh_26_42, zh_26_45, zh_26_46, zh_26_48, zh_26_51, zh_26_54, zh_26_56, zh_26_57, zh_26_58, zh_26_60, zh_26_63, zh_26_66, zh_26_67, zh_26_68, zh_26_71, zh_26_74, zh_26_75, zwl_m1, zwl_0, zwl_1, zwl_2, zwl_3, zwl_4, zwl_5, zwl_6, zwl_7, zwl_8, zwl_10, zwl_15, zwl_24, zwl_32, zwl_33, zwl_40, zwl_41, zwl_42, zwl_43, zwl_45, zwl_47, zwl_48, zwl_52, zwl_56, zwl_57, zwl_59, zwl_60, zwl_61, zwl_63, zwl_64, zwl_66, zwl_67, zwl_68, zwl_70, zwl_75, zwl_77, zwl_80, zwl_82, zwl_84, zwl_88, zwl_89, zwl_97, zwl_104, zwl_110, zwl_112, zwl_114, zwl_118, zwl_123, zwl_125, zwl_126, zwl_159, zwl_160, zwl_200, zwl_255, zwl_480, zwl_960, zwl_3000, zs_kli, zs_klq, zs_kln, zs_wn, zs_wi, zs_wl, zs_wq, ↓zs_ok10, ↓zs_ok11, Option.toList_some, Option.toList_none, List.cons_append, List.nil_append, ↓reduceIte, Nat.reduceAdd, Nat.reduceLeDiff, true_and, and_true, Int.reduceEq, Int.reduceLT, Int.reduceLE, Int.reduceAdd, Int.reduceSub, Int.reduceMul, Int.reduceNeg, Nat.reduceEqDiff, Nat.reduceLT, Nat.reduceBEq, zsI_c, zsI_k, zsI_s, zsR_c, zsR_k, zsR_s, e1, q]
        exact h0 rfl I R FS.rfl FR.rfl
      · simp only [zh_26_0, zh_26_1, zh_26_2, zh_26_5, zh_26_6, zh_26_8, zh_26_11, zh_26_14, zh_26_15, zh_26_16, zh_26_17, zh_26_20, zh_26_21, zh_26_22, zh_26_23, zh_26_26, zh_26_28, zh_26_30n, zh_26_30, zh_26_33, zh_26_34, zh_26_35, zh_26_36, zh_26_40, zh_26_42, zh_26_45, zh_26_46, zh_26_48, zh_26_51, zh_26_54, zh_26_56, zh_26_57, zh_26_58, zh_26_60, zh_26_63, zh_26_66, zh_26_67, zh_26_68, zh_26_71, zh_26_74, zh_26_75, zwl_m1, zwl_0, zwl_1, zwl_2, zwl_3, zwl_4, zwl_5, zwl_6, zwl_7, zwl_8, zwl_10, zwl_15, zwl_24, zwl_32, zwl_33, zwl_40, zwl_41, zwl_42, zwl_43, zwl_45, zwl_47, zwl_48, zwl_52, zwl_56, zwl_57, zwl_59, zwl_60, zwl_61, zwl_63, zwl_64, zwl_66, zwl_67, zwl_68, zwl_70, zwl_75, zwl_77, zwl_80, zwl_82, zwl_84, zwl_88, zwl_89, zwl_97, zwl_104, zwl_110, zwl_112, zwl_114, zwl_118, zwl_123, zwl_125, zwl_126, zwl_159, zwl_160, zwl_200, zwl_255, zwl_480, zwl_960, zwl_3000, zs_kli, zs_klq, zs_kln, zs_wn, zs_wi, zs_wl, zs_wq, ↓zs_ok10, ↓zs_ok11, Option.toList_some, Option.toList_none, List.cons_append, List.nil_append, ↓reduceIte, Nat.reduceAdd, Nat.reduceLeDiff, true_and, and_true, Int.reduceEq, Int.reduceLT, Int.reduceLE, Int.reduceAdd, Int.reduceSub, Int.reduceMul, Int.reduceNeg, Nat.reduceEqDiff, Nat.reduceLT, Nat.reduceBEq, zsI_c, zsI_k, zsI_s, zsR_c, zsR_k, zsR_s, e1, q]
        refine ct_take hK hT hx.1.1 (by omega) (by omega) (fun q => absurd ⟨by omega, q⟩ hg) (fun _ => ?_)
        simp only [zh_26_0, zh_26_1, zh_26_2, zh_26_5, zh_26_6, zh_26_8, zh_26_11, zh_26_14, zh_26_15, zh_26_16, zh_26_17, zh_26_20, zh_26_21, zh_26_22, zh_26_23, zh_26_26, zh_26_28, zh_26_30n, zh_26_30, zh_26_33, zh_26_34, zh_26_35, zh_26_36, zh_26_40, zh_26_42, zh_26_45, zh_26_46, zh_26_48, zh_26_51, zh_26_54, zh_26_56, zh_26_57, zh_26_58, zh_26_60, zh_26_63, zh_26_66, zh_26_67, zh_26_68, zh_26_71, zh_26_74, zh_26_75, zwl_m1, zwl_0, zwl_1, zwl_2, zwl_3, zwl_4, zwl_5, zwl_6, zwl_7, zwl_8, zwl_10, zwl_15, zwl_24, zwl_32, zwl_33, zwl_40, zwl_41, zwl_42, zwl_43, zwl_45, zwl_47, zwl_48, zwl_52, zwl_56, zwl_57, zwl_59, zwl_60, zwl_61, zwl_63, zwl_64, zwl_66, zwl_67, zwl_68, zwl_70, zwl_75, zwl_77, zwl_80, zwl_82, zwl_84, zwl_88, zwl_89, zwl_97, zwl_104, zwl_110, zwl_112, zwl_114, zwl_118, zwl_123, zwl_125, zwl_126, zwl_159, zwl_160, zwl_200, zwl_255, zwl_480, zwl_960, zwl_3000, zs_kli, zs_klq, zs_kln, zs_wn, zs_wi, zs_wl, zs_wq, ↓zs_ok10, ↓zs_ok11, Option.toList_some, Option.toList_none, List.cons_append, List.nil_append, ↓reduceIte, Nat.reduceAdd, Nat.reduceLeDiff, true_and, and_true, Int.reduceEq, Int.reduceLT, Int.reduceLE, Int.reduceAdd, Int.reduceSub, Int.reduceMul, Int.reduceNeg, Nat.reduceEqDiff, Nat.reduceLT, Nat.reduceBEq, zsI_c, zsI_k, zsI_s, zsR_c, zsR_k, zsR_s]
        exact h0 rfl I R FS.rfl FR.rfl
    · refine ra_open h4 (zw_i (by omega) (by omega)) (by omega) ?_
      refine ra_block (zn := z) (jn := j) (k := k) ((k + 1 : Nat) : Int) il tk hK hT hx (by omega) hki hk4 hzi (by omega) hji (by omega) (by omega) (fun I1 f1 hx1 g1 g2 => ?_)
      rw [if_neg hg] at g1
      exact rh_bad g1 (zw_i (by omega) (by omega)) (h0 rfl I1 f1 g1 (hx1.ba (by omega)))
end
