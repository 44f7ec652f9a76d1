/-! the reference reads a statement's expression; what holds at all times of the rows being filled -/
def FrN (I I' : zMI) (s : Nat) : Prop := ∀ c i k, c ≠ 50 → c ≠ 51 → c ≠ 53 → ¬ (c = 11 ∧ (k = 3 ∨ k = 4 ∨ k = 28)) → ¬ ((c = 36 ∨ c = 37) ∧ k = s) → I' c i k = I c i k
section
variable {d n p e s b x : Nat} {T : Nat → Int} {P : Nat → Nat → Int} {I : zMI} {R : zMR} {al : zA} {K : Option zV → zS → Prop} {si : Int}
theorem mn_expr {o : EO} (hK : Kon R) (hT : TX T n) (hx : MXs I T n p e P) (h4 : I 11 0 4 = 0) (hsi : si = (s : Int)) (hs : s < 160) (hn : ∀ p' e' P', o = some (p', e', P') → p' ≤ n ∧ ¬ isO (ch T n p'))
    (hm : ∀ (d : Nat) (I : zMI) (Q : Option zV → zS → Prop) (si bi : Int), bi = ((0 : Nat) : Int) → MXs I T n p e P → I 11 0 4 = 0 → I 53 0 0 = 0 → (o = none → ∀ I' k' due' go', go' = 0 ∨ go' = 1 → FrB I I' 0 → I' 11 0 4 = 1 → BA I' → EH (d + 3) R al Q si k' due' go' I') → (∀ p' e' P', o = some (p', e', P') → ∀ I', FrB I I' 0 → I' 11 0 4 = 0 → I' 53 0 0 = 0 → MXs I' T n p' e' P' → EH (d + 3) R al Q si bi 0 1 I') → EH (d + 3) R al Q si bi 1 1 I)
    (h0 : o = none → ∀ I', FrN I I' s → I' 11 0 4 = 1 → BA I' → K none (I', R, al))
    (h1 : ∀ p' e' P', o = some (p', e', P') → ∀ I', FrN I I' s → I' 11 0 4 = 0 → MXs I' T n p' e' P' → I' 36 0 s = (e : Int) → I' 37 0 s = (e' : Int) → K none (I', R, al)) : zCp (d + 4) 98 [zq (some (11, 0)), zi si] (I, R, al) K := by
  have hn1 := hT.1
  have x28 := hx.2.2.2.1
  have q0 : (0 : Int) = ((0 : Nat) : Int) := rfl
  rw [zcp_98]
  simp only [zh_98_0, zh_98_1, zh_98_4, zh_98_5, zh_98_6, zh_98_9, zh_98_10, zh_98_11, zh_98_12, zh_98_13, zh_98_16, zh_98_17, zh_98_18, zh_98_19, zh_98_20, zh_98_21, zh_98_22, zh_98_26, zh_98_29, zh_98_30, zh_98_33, zh_98_36, zh_98_37, zh_98_40, zh_98_42, zh_98_43, zh_98_46, zh_98_48, zh_98_50, zh_98_53, zh_98_56, zh_98_57, zh_98_58, zh_98_59, zh_98_62, zh_98_63, zh_98_66, zh_98_67, zh_98_70, zh_98_71, zh_98_74, zh_98_75, zh_98_76, zh_98_77, zh_98_78, zh_98_78q, zh_98_79, zh_98_82, zh_98_83, zh_98_84, zh_98_87, zh_98_90, zh_98_91, zh_98_94, zh_98_96, zh_98_99, zh_98_102, zh_98_103, zh_98_106, zh_98_109, zh_98_110, zh_98_112, zh_98_113, zh_98_116, zh_98_119, zh_98_120, zh_98_121, zh_98_122, zh_98_123, zh_98_126, zh_98_129, zh_98_131, zh_98_134, zh_98_137, zh_98_138, zh_98_141, zh_98_142, zh_98_144, zh_98_145, zh_98_146, zh_98_146q, zh_98_147, zh_98_150, zh_98_151, zh_98_152, zh_98_155, zh_98_156, zh_98_157, zh_98_160, zh_98_162, zh_98_164, zh_98_167, zh_98_168, zh_98_171, zh_98_172, zh_98_172q, zh_98_173, zh_98_176, zh_98_177, zh_98_178, zh_98_181, zh_98_184, zh_98_185, zh_98_186, zh_98_189, zh_98_192, zh_98_193, zh_98_194, zh_98_197, zh_98_198, zh_98_201, zh_98_202, zh_98_205, zh_98_206, zh_98_208, zh_98_211, zh_98_212, zh_98_215, zh_98_216, zh_98_217, zh_98_220, zh_98_221, zwl_m1, zwl_0, zwl_1, zwl_2, zwl_3, zwl_4, zwl_5, zwl_6, zwl_7, zwl_8, zwl_10, zwl_15, zwl_24, zwl_32, zwl_33, zwl_40, zwl_41, zwl_42, zwl_43, zwl_45, zwl_47, zwl_48, zwl_52, zwl_56, zwl_57, zwl_59, zwl_60, zwl_61, zwl_63, zwl_64, zwl_66, zwl_67, zwl_68, zwl_70, zwl_75, zwl_77, zwl_80, zwl_82, zwl_84, zwl_88, zwl_89, zwl_97, zwl_104, zwl_110, zwl_112, zwl_114, zwl_118, zwl_123, zwl_125, zwl_126, zwl_159, zwl_160, zwl_200, zwl_255, zwl_480, zwl_960, zwl_3000, zs_kli, zs_klq, zs_kln, zs_wn, zs_wi, zs_wl, zs_wq, ↓zs_ok10, ↓zs_ok11, Option.toList_some, Option.toList_none, List.cons_append, List.nil_append, ↓reduceIte, Nat.reduceAdd, Nat.reduceLeDiff, true_and, and_true, Int.reduceEq, Int.reduceLT, Int.reduceLE, Int.reduceAdd, Int.reduceSub, Int.reduceMul, Int.reduceNeg, Nat.reduceEqDiff, Nat.reduceLT, Nat.reduceBEq, zsI_c, zsI_k, zsI_s, zsR_c, zsR_k, zsR_s, kon_11_0_1 hK, kon_11_0_7 hK, kon_11_0_8 hK, kon_11_0_9 hK, kon_11_0_11 hK, kon_11_0_12 hK, kon_11_0_13 hK, kon_11_0_14 hK, kon_11_0_15 hK, kon_11_0_16 hK, kon_11_0_17 hK, kon_11_0_18 hK, kon_11_0_19 hK, kon_11_0_20 hK, kon_11_0_21 hK, kon_11_0_23 hK, kon_11_0_24 hK, kon_11_0_25 hK, kon_11_0_26 hK, kon_11_0_27 hK, kon_11_0_29 hK, kon_11_0_30 hK, kon_11_0_31 hK, kon_11_0_32 hK, kon_11_0_33 hK, kon_11_0_34 hK, kon_11_0_42 hK, kon_11_0_43 hK, kon_11_0_44 hK, kon_11_0_45 hK, kon_11_0_46 hK, kon_11_0_47 hK, kon_11_0_48 hK, kon_11_0_49 hK, kon_11_0_54 hK, x28, ↓zb36 hsi hs, ↓zb53 q0 (show 0 < 8 by decide)]
  have hx0 : MXs (zsI (zsI I 36 0 s (e : Int)) 53 0 0 0) T n p e P := (hx.set (by omega)).set (by omega)
  have f0 : ∀ I', FrB (zsI (zsI I 36 0 s (e : Int)) 53 0 0 0) I' 0 → ∀ c i k, c ≠ 50 → c ≠ 51 → c ≠ 53 → ¬ (c = 11 ∧ (k = 3 ∨ k = 4 ∨ k = 28)) → ¬ (c = 36 ∧ k = s) → I' c i k = I c i k := fun I' f c i k h1 h2 h3 h4 h5 => by
    rw [f c i k h1 h2 (by omega) h4, zsI_n (by omega), zsI_n (by omega)]
  have f36 : ∀ I', FrB (zsI (zsI I 36 0 s (e : Int)) 53 0 0 0) I' 0 → I' 36 0 s = (e : Int) := fun I' f => by
    rw [f _ _ _ (by decide) (by decide) (by omega) (by omega), zsI_ne (by omega), zsI_s]
  refine hm d _ _ si _ rfl hx0 (by rw [zsI_ne (by omega), zsI_ne (by omega)]; exact h4) (zsI_s ..) (fun q I' k' due' go' hgo f g ba => ?_) (fun p' e' P' q I' f g1 g2 y => ?_) _
  · generalize hw : I' 11 0 28 = w
    refine mx_exit hK hsi hs hw (Or.inr g) (by rcases hgo with rfl | rfl <;> decide +kernel) (h0 q _ (fun c i k h1 h2 h3 h4 h5 => by rw [zsI_n (by omega)]; exact f0 I' f c i k h1 h2 h3 h4 (by omega)) (by rw [zsI_ne (by omega)]; exact g) ?_)
    unfold BA at ba ⊢
    rw [zsI_ne (by omega)]
    exact ba
  · obtain ⟨n1, n2⟩ := hn p' e' P' q
    refine mx_end (d := d + 2) (b := 0) hK hT y (by omega) g1 rfl (by omega) n2 (Or.inl rfl) (fun I2 f2 r1 y2 => ?_)
    rw [if_pos rfl] at r1
    have f12 := f.tr (f2.le (by omega : 0 ≤ 8))
    refine mx_exit hK hsi hs y2.2.2.2.1 (Or.inl rfl) (by decide +kernel) (h1 p' e' P' q _ (fun c i k h1 h2 h3 h4 h5 => by rw [zsI_n (by omega)]; exact f0 I2 f12 c i k h1 h2 h3 h4 (by omega)) (by rw [zsI_ne (by omega)]; exact r1) (y2.set (by omega)) (by rw [zsI_ne (by omega)]; exact f36 I2 f12) (zsI_s ..))
end
/-- at all times: statements stand in blocks, in the order of the text -/
def AS (P : Nat → Nat → Int) (s b : Nat) : Prop := ∀ z, z < s → (∃ y : Nat, P 42 z = (y : Int) ∧ y < b ∧ P 47 y < (z : Int)) ∧
  ((P 43 z = -1 ∧ P 46 (P 42 z).toNat = (z : Int)) ∨ ∃ q : Nat, P 43 z = (q : Int) ∧ z < q ∧ q < s ∧ P 42 q = P 42 z ∧ ∀ y, z < y → y < q → P 42 y ≠ P 42 z) ∧
  ((P 103 z = -1 ∧ P 45 (P 42 z).toNat = (z : Int)) ∨ ∃ q : Nat, P 103 z = (q : Int) ∧ q < z ∧ P 43 q = (z : Int) ∧ P 42 q = P 42 z)
def AB (P : Nat → Nat → Int) (s b : Nat) : Prop := ∀ y, y < b →
  ((P 45 y = -1 ∧ P 46 y = -1 ∧ ∀ z, z < s → P 42 z ≠ (y : Int)) ∨ ∃ f l : Nat, P 45 y = (f : Int) ∧ P 46 y = (l : Int) ∧ f ≤ l ∧ l < s ∧ P 42 f = (y : Int) ∧ P 42 l = (y : Int) ∧ P 43 l = -1 ∧ (∀ z, z < f → P 42 z ≠ (y : Int)) ∧ ∀ z, l < z → z < s → P 42 z ≠ (y : Int)) ∧
  ((P 47 y = -1 ∧ P 100 y = 1 ∧ P 101 y = 0 ∧ P 102 y = -1) ∨
  (∃ o h : Nat, P 47 y = (o : Int) ∧ o < s ∧ P 42 o = (h : Int) ∧ h < y ∧ h < b ∧ 0 ≤ P 48 y ∧ P 48 y ≤ 5 ∧ P 38 (6 * o + (P 48 y).toNat) = (y : Int) ∧ P 100 y = P 100 h + 1 ∧ P 100 y ≤ 4 ∧ 1 ≤ P 100 h ∧
    P 101 y = (if P 34 o = 64 then 1 else P 101 h) ∧ P 102 y = (if P 34 o = 89 ∧ 2 ≤ P 48 y ∧ P 48 y ≤ 4 then P 39 (3 * o + (P 48 y).toNat - 2) else P 102 h) ∧ (P 34 o = 64 → P 48 y = 0)))
section
variable {P : Nat → Nat → Int} {s b x : Nat} {k : Int}
/-- what a new statement leaves as it was -/
theorem pNS_o {c j : Nat} (h34 : ¬ (c ≤ 37 ∧ 34 ≤ c ∧ j = s)) (h38 : ¬ (c = 38 ∧ 6 * s ≤ j ∧ j < 6 * s + 6)) (h41 : ¬ ((c = 41 ∨ c = 42 ∨ c = 43 ∨ c = 103) ∧ j = s)) (h43 : ¬ (c = 43 ∧ 0 ≤ P 46 x ∧ j = (P 46 x).toNat)) (h45 : ¬ (c = 45 ∧ P 46 x < 0 ∧ j = x)) (h46 : ¬ (c = 46 ∧ j = x)) : pNS P s x k c j = P c j := by
  unfold pNS
  rw [pU_n (by omega), pU_n (by omega)]
  have h1 : pS1 (pS0 P s x k) s 6 c j = P c j := by
    unfold pS1 pS1 pS1 pS1 pS1 pS1 pS1 pS0
    rw [pU_n (by omega), pU_n (by omega), pU_n (by omega), pU_n (by omega), pU_n (by omega), pU_n (by omega), pU_n (by omega), pU_n (by omega), pU_n (by omega), pU_n (by omega), pU_n (by omega), pU_n (by omega), pU_n (by omega)]
  by_cases q : P 46 x < 0
  · rw [if_pos q, pU_n (by omega)]; exact h1
  · rw [if_neg q, pU_n (by omega)]; exact h1
theorem pS1_o {Q : Nat → Nat → Int} {c j : Nat} (h : c ≠ 38) : pS1 Q s 6 c j = Q c j := by
  unfold pS1 pS1 pS1 pS1 pS1 pS1 pS1
  rw [pU_n (by omega), pU_n (by omega), pU_n (by omega), pU_n (by omega), pU_n (by omega), pU_n (by omega)]
theorem pNS_s (hxs : ¬ (0 ≤ P 46 x ∧ (P 46 x).toNat = s)) : pNS P s x k 34 s = k ∧ pNS P s x k 35 s = 0 ∧ pNS P s x k 36 s = 0 ∧ pNS P s x k 37 s = 0 ∧ pNS P s x k 41 s = 0 ∧ pNS P s x k 42 s = (x : Int) ∧ pNS P s x k 43 s = -1 ∧ pNS P s x k 103 s = P 46 x ∧ (∀ j, j < 6 → pNS P s x k 38 (6 * s + j) = -1) ∧ pNS P s x k 46 x = (s : Int) := by
  have hin : ∀ c j, c ≠ 103 → ¬ (c = 46 ∧ j = x) → ¬ (c = 45 ∧ P 46 x < 0 ∧ j = x) → ¬ (c = 43 ∧ 0 ≤ P 46 x ∧ j = (P 46 x).toNat) → pNS P s x k c j = pS1 (pS0 P s x k) s 6 c j := fun c j h1 h2 h3 h4 => by
    unfold pNS
    rw [pU_n (by omega), pU_n h2]
    by_cases q : P 46 x < 0
    · rw [if_pos q, pU_n (by omega)]
    · rw [if_neg q, pU_n (by omega)]
  refine ⟨?_, ?_, ?_, ?_, ?_, ?_, ?_, ?_, fun j hj => ?_, ?_⟩
  · rw [hin _ _ (by decide) (by omega) (by omega) (by omega), pS1_o (by decide)]
    unfold pS0
    rw [pU_n (by omega), pU_n (by omega), pU_n (by omega), pU_n (by omega), pU_n (by omega), pU_n (by omega), pU_s]
  · rw [hin _ _ (by decide) (by omega) (by omega) (by omega), pS1_o (by decide)]
    unfold pS0
    rw [pU_n (by omega), pU_n (by omega), pU_n (by omega), pU_n (by omega), pU_n (by omega), pU_s]
  · rw [hin _ _ (by decide) (by omega) (by omega) (by omega), pS1_o (by decide)]
    unfold pS0
    rw [pU_n (by omega), pU_n (by omega), pU_n (by omega), pU_n (by omega), pU_s]
  · rw [hin _ _ (by decide) (by omega) (by omega) (by omega), pS1_o (by decide)]
    unfold pS0
    rw [pU_n (by omega), pU_n (by omega), pU_n (by omega), pU_s]
  · rw [hin _ _ (by decide) (by omega) (by omega) (by omega), pS1_o (by decide)]
    unfold pS0
    rw [pU_n (by omega), pU_n (by omega), pU_s]
  · rw [hin _ _ (by decide) (by omega) (by omega) (by omega), pS1_o (by decide)]
    unfold pS0
    rw [pU_n (by omega), pU_s]
  · rw [hin _ _ (by decide) (by omega) (by omega) (by omega), pS1_o (by decide)]
    unfold pS0
    rw [pU_s]
  · unfold pNS
    rw [pU_s]
  · rw [hin _ _ (by decide) (by omega) (by omega) (by omega)]
    have hj' : j = 0 ∨ j = 1 ∨ j = 2 ∨ j = 3 ∨ j = 4 ∨ j = 5 := by omega
    unfold pS1 pS1 pS1 pS1 pS1 pS1 pS1
    rcases hj' with rfl | rfl | rfl | rfl | rfl | rfl
    · rw [pU_n (by omega), pU_n (by omega), pU_n (by omega), pU_n (by omega), pU_n (by omega), pU_s]
    · rw [pU_n (by omega), pU_n (by omega), pU_n (by omega), pU_n (by omega), pU_s]
    · rw [pU_n (by omega), pU_n (by omega), pU_n (by omega), pU_s]
    · rw [pU_n (by omega), pU_n (by omega), pU_s]
    · rw [pU_n (by omega), pU_s]
    · rw [pU_s]
  · unfold pNS
    rw [pU_n (by omega), pU_s]
theorem pNS_link (hx : P 46 x < 0 ∨ 0 ≤ P 46 x) : (P 46 x < 0 → pNS P s x k 45 x = (s : Int)) ∧ (0 ≤ P 46 x → pNS P s x k 43 (P 46 x).toNat = (s : Int)) := by
  refine ⟨fun h => ?_, fun h => ?_⟩
  · unfold pNS
    rw [pU_n (by omega), pU_n (by omega), if_pos h, pU_s]
  · unfold pNS
    rw [pU_n (by omega), pU_n (by omega), if_neg (by omega), pU_s]
end
