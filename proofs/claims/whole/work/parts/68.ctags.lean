/-! the class works the tags out -/
def FrG (I I' : zMI) : Prop := ∀ c i k, ¬ (c = 9 ∧ k = 1) → I' c i k = I c i k
theorem FrG.tr {I I1 I' : zMI} (h0 : FrG I I1) (h : FrG I1 I') : FrG I I' := fun c i k h1 => (h c i k h1).trans (h0 c i k h1)
theorem FrG.rfl {I : zMI} : FrG I I := fun _ _ _ _ => Eq.refl _
/-- a catch in vain -/
def idl (P : Nat → Nat → Int) (s : Nat) : Prop := s < nS P ∧ P 34 s = 89 ∧ ¬ cau P s (P 41 s).toNat &&& (31 ^^^ kidT P (rT P) s 0) = 0
def Fl (P : Nat → Nat → Int) (I I' : zMI) (A : Nat → Prop) : Prop := (I' 9 0 1 = I 9 0 1 ∧ ∀ s, A s → ¬ idl P s) ∨ (I' 9 0 1 = 1 ∧ ∃ s, idl P s)
theorem Fl.seq {P : Nat → Nat → Int} {I I1 I2 : zMI} {A B : Nat → Prop} (h1 : Fl P I I1 A) (h2 : Fl P I1 I2 B) : Fl P I I2 (fun s => A s ∨ B s) := by
  rcases h2 with ⟨e2, g2⟩ | h2
  · rcases h1 with ⟨e1, g1⟩ | ⟨e1, g1⟩
    · exact Or.inl ⟨e2.trans e1, fun s hs => hs.elim (g1 s) (g2 s)⟩
    · exact Or.inr ⟨e2.trans e1, g1⟩
  · exact Or.inr h2
theorem Fl.mono {P : Nat → Nat → Int} {I I1 : zMI} {A B : Nat → Prop} (h1 : Fl P I I1 A) (h : ∀ s, B s → A s) : Fl P I I1 B := by
  rcases h1 with ⟨e1, g1⟩ | h1
  · exact Or.inl ⟨e1, fun s hs => g1 s (h s hs)⟩
  · exact Or.inr h1
theorem Fl.none {P : Nat → Nat → Int} {I : zMI} {A : Nat → Prop} (h : ∀ s, A s → ¬ idl P s) : Fl P I I A := Or.inl ⟨Eq.refl _, h⟩
/-- the statements under a block -/
def Un (P : Nat → Nat → Int) : Nat → Nat → Nat → Prop
  | 0, _, _ => False
  | n + 1, b, s => ∃ s0, s0 < nS P ∧ P 42 s0 = (b : Int) ∧ (s = s0 ∨ ∃ j c : Nat, j < 6 ∧ P 38 (6 * s0 + j) = (c : Int) ∧ Un P n c s)
/-- the statements under a statement -/
def Us (P : Nat → Nat → Int) (n s0 s : Nat) : Prop := s = s0 ∨ ∃ j c : Nat, j < 6 ∧ P 38 (6 * s0 + j) = (c : Int) ∧ Un P n c s
def CT (I : zMI) (R : zMR) (P : Nat → Nat → Int) : Prop := Kon R ∧ (∀ s, s < nS P → CSt I R P s ∧ CSd I R P s ∧ CL0 I R P s) ∧ (∀ b, b < nB P → CBl I R P b)
theorem CT.fr {I I' : zMI} {R : zMR} {P : Nat → Nat → Int} (h : CT I R P) (hf : FrG I I') : CT I' R P := by
  have e4 : ∀ i k, I' 4 i k = I 4 i k := fun i k => hf 4 i k (by omega)
  have e3 : ∀ i k, I' 3 i k = I 3 i k := fun i k => hf 3 i k (by omega)
  have e5 : ∀ i k, I' 5 i k = I 5 i k := fun i k => hf 5 i k (by omega)
  obtain ⟨h1, h2, h3⟩ := h
  refine ⟨h1, fun s hs => ?_, fun b hb => ?_⟩
  · obtain ⟨a, b, c⟩ := h2 s hs
    unfold CSt at a
    unfold CSd at b
    unfold CL0 at c
    unfold CSt CSd CL0
    simp only [e4]
    exact ⟨a, ⟨b.1, b.2.1, b.2.2.1, b.2.2.2.1, b.2.2.2.2.1, b.2.2.2.2.2.1, fun q => CatL.eq e5 (fun _ _ => rfl) _ _ (b.2.2.2.2.2.2 q)⟩, c⟩
  · have := h3 b hb
    unfold CBl at this ⊢
    simp only [e3]
    exact this
/-- what is asked of a block -/
def TB (P : Nat → Nat → Int) (R : zMR) (al : zA) (D n c : Nat) : Prop := ∀ (d : Nat) (I : zMI) (K : Option zV → zS → Prop), D ≤ d → CT I R P → (∀ I', FrG I I' → Fl P I I' (Un P n c) → K (some (zi (rT P c))) (I', R, al)) → zCp (d + 1) 52 [zq (some (9, 0)), zq (some (3, c))] (I, R, al) K
section
variable {d s b n D : Nat} {P : Nat → Nat → Int} {I : zMI} {R : zMR} {al : zA} {K : Option zV → zS → Prop}
theorem tb_none : zCp (d + 1) 52 [zq (some (9, 0)), zq none] (I, R, al) K ↔ K (some (zi 0)) (I, R, al) := by
  rw [zcp_52]
  simp only [zh_52_0, zh_52_1, zh_52_2, zh_52_3n, zh_52_3, zh_52_6, zh_52_7, zh_52_10, zh_52_11, zh_52_12n, zh_52_12, zh_52_15, zh_52_16, zh_52_17, zh_52_18, zh_52_21, zh_52_22, zh_52_23, zh_52_24, zh_52_27, zh_52_28, zh_52_31, zh_52_32, zwl_m1, zwl_0, zwl_1, zwl_2, zwl_3, zwl_4, zwl_5, zwl_6, zwl_7, zwl_8, zwl_10, zwl_15, zwl_24, zwl_32, zwl_33, zwl_40, zwl_41, zwl_42, zwl_43, zwl_45, zwl_47, zwl_48, zwl_52, zwl_56, zwl_57, zwl_59, zwl_60, zwl_61, zwl_63, zwl_64, zwl_66, zwl_67, zwl_68, zwl_70, zwl_75, zwl_77, zwl_80, zwl_82, zwl_84, zwl_88, zwl_89, zwl_97, zwl_104, zwl_110, zwl_112, zwl_114, zwl_118, zwl_123, zwl_125, zwl_126, zwl_159, zwl_160, zwl_200, zwl_255, zwl_480, zwl_960, zwl_3000, zs_kli, zs_klq, zs_kln, zs_wn, zs_wi, zs_wl, zs_wq, ↓zs_ok10, ↓zs_ok11, Option.toList_some, Option.toList_none, List.cons_append, List.nil_append, ↓reduceIte, Nat.reduceAdd, Nat.reduceLeDiff, true_and, and_true, Int.reduceEq, Int.reduceLT, Int.reduceLE, Int.reduceAdd, Int.reduceSub, Int.reduceMul, Int.reduceNeg, Nat.reduceEqDiff, Nat.reduceLT, Nat.reduceBEq, zsI_c, zsI_k, zsI_s, zsR_c, zsR_k, zsR_s]
/-- a block that may not be there -/
theorem tb_rf (hb : ∀ c, c < nB P → P 100 c = P 100 b + 1 → TB P R al D n c) {j : Nat} (hP : PWf P) (hs : s < nS P) (hsb : P 42 s = (b : Int)) (hj : j < 6) (hD : D ≤ d) (hC : CT I R P) (h : ∀ I', FrG I I' → Fl P I I' (fun z => ∃ c : Nat, P 38 (6 * s + j) = (c : Int) ∧ Un P n c z) → K (some (zi (kidT P (rT P) s j : Nat))) (I', R, al)) :
    zCp (d + 1) 52 [zq (some (9, 0)), zq (rf 3 (P 38 (6 * s + j)))] (I, R, al) K := by
  rcases (hP.2.2.2.2.2.1 s hs).2.2.2.2.2.2.2.1 j hj with q | q
  · rw [q, rf_n (by decide), tb_none]
    have := h I FrG.rfl (Fl.none (fun z ⟨c, c1, _⟩ => by omega))
    unfold kidT at this
    rw [if_pos (by omega)] at this
    exact this
  · obtain ⟨c, c1, c2, c3, -⟩ := kid_ok hP hs hsb q
    rw [c1, rf_s (by omega), Int.toNat_natCast]
    refine hb c c2 c3 d I K hD hC (fun I' f1 f2 => ?_)
    have := h I' f1 (f2.mono (fun z ⟨c', c1', hz⟩ => by
      have : c' = c := by omega
      rw [← this]
      exact hz))
    unfold kidT at this
    rw [c1, if_neg (by omega), Int.toNat_natCast] at this
    exact this
theorem kidT_l (hP : PWf P) (hT : TgR P) (j : Nat) : kidT P (rT P) s j < 32 := by
  unfold kidT
  split
  · decide
  · exact rT_l hP hT _
/-- the loop over a try's catches -/
theorem tt_loop (hP : PWf P) (hT : TgR P) (hb : ∀ c, c < nB P → P 100 c = P 100 b + 1 → TB P R al D n c) (hs : s < nS P) (hsb : P 42 s = (b : Int)) (hD : D ≤ d) {t2 : Int} (k : Nat) : ∀ (I : zMI) (r : Option (Nat × Nat)) (c p : Nat) (ci pi : Int), CT I R P → CatL I R P s k r → (k : Int) ≤ P 41 s → ci = (c : Int) → pi = (p : Int) → c < 32 → p < 32 →
    (∀ I' (c' p' : Nat), FrG I I' → Fl P I I' (fun z => ∃ (j e : Nat), j < k ∧ P 38 (6 * s + (2 + j)) = (e : Int) ∧ Un P n e z) → c' < 32 → p' < 32 → c' = c ||| cau P s k → p' = orU (fun j => kidT P (rT P) s (2 + j)) p 0 k → Zgo (d + 1) 54 66 [some (zq (some (9, 0))), some (zq (some (4, s))), some (zi t2), some (zi (c' : Int)), some (zi (p' : Int)), some (zq none)] [] (I', R, al) K) →
    Zgo (d + 1) 54 27 [some (zq (some (9, 0))), some (zq (some (4, s))), some (zi t2), some (zi ci), some (zi pi), some (zq r)] [] (I, R, al) K := by
  induction k with
  | zero =>
    intro I r c p ci pi hC hr hk hc hp hc3 hp3 h
    have hr' : r = none := hr
    rw [hr', zh_54_27]
    simp only [zh_54_0, zh_54_1, zh_54_2, zh_54_5, zh_54_8, zh_54_9, zh_54_10, zh_54_11, zh_54_12, zh_54_13, zh_54_16, zh_54_19, zh_54_21, zh_54_22, zh_54_25, zh_54_29n, zh_54_29, zh_54_32, zh_54_33, zh_54_34, zh_54_36, zh_54_39, zh_54_40, zh_54_41, zh_54_42, zh_54_44, zh_54_45, zh_54_47, zh_54_50, zh_54_53, zh_54_54, zh_54_56, zh_54_58, zh_54_61, zh_54_63, zh_54_67, zh_54_68, zh_54_69, zh_54_70, zh_54_71, zh_54_74, zh_54_75, zh_54_76, zh_54_79, zh_54_80, zh_54_81, zh_54_82, zh_54_83, zh_54_84, zh_54_86, zh_54_87, zwl_m1, zwl_0, zwl_1, zwl_2, zwl_3, zwl_4, zwl_5, zwl_6, zwl_7, zwl_8, zwl_10, zwl_15, zwl_24, zwl_32, zwl_33, zwl_40, zwl_41, zwl_42, zwl_43, zwl_45, zwl_47, zwl_48, zwl_52, zwl_56, zwl_57, zwl_59, zwl_60, zwl_61, zwl_63, zwl_64, zwl_66, zwl_67, zwl_68, zwl_70, zwl_75, zwl_77, zwl_80, zwl_82, zwl_84, zwl_88, zwl_89, zwl_97, zwl_104, zwl_110, zwl_112, zwl_114, zwl_118, zwl_123, zwl_125, zwl_126, zwl_159, zwl_160, zwl_200, zwl_255, zwl_480, zwl_960, zwl_3000, zs_kli, zs_klq, zs_kln, zs_wn, zs_wi, zs_wl, zs_wq, ↓zs_ok10, ↓zs_ok11, Option.toList_some, Option.toList_none, List.cons_append, List.nil_append, ↓reduceIte, Nat.reduceAdd, Nat.reduceLeDiff, true_and, and_true, Int.reduceEq, Int.reduceLT, Int.reduceLE, Int.reduceAdd, Int.reduceSub, Int.reduceMul, Int.reduceNeg, Nat.reduceEqDiff, Nat.reduceLT, Nat.reduceBEq, zsI_c, zsI_k, zsI_s, zsR_c, zsR_k, zsR_s]
    rw [hc, hp]
    exact h I c p FrG.rfl (Fl.none (fun z ⟨j, e, h1, _⟩ => by omega)) hc3 hp3 (Nat.or_zero c).symm rfl
  | succ k ih =>
    intro I r c p ci pi hC hr hk hc hp hc3 hp3 h
    obtain ⟨n1, n2, n3⟩ := (hP.2.2.2.2.2.1 s hs).2.2.2.2.2.2.2.2.2.2.1
    obtain ⟨e, r1, r2, r3, r4, r5⟩ := hr
    obtain ⟨m1, m2, _⟩ := n3 k (by omega)
    have e39 : P 39 (3 * s + k) = ((P 39 (3 * s + k)).toNat : Int) := by omega
    have hlt : (P 39 (3 * s + k)).toNat < 5 := by omega
    have e1 : zshl 1 (P 39 (3 * s + k)) = ((2 ^ (P 39 (3 * s + k)).toNat : Nat) : Int) := by rw [e39]; exact bsh hlt
    have e2 : zor ci ((2 ^ (P 39 (3 * s + k)).toNat : Nat) : Int) = ((c ||| 2 ^ (P 39 (3 * s + k)).toNat : Nat) : Int) := by rw [hc]; exact bor hc3 (bsh_l hlt)
    rw [r1, zh_54_27]
    simp only [zh_54_0, zh_54_1, zh_54_2, zh_54_5, zh_54_8, zh_54_9, zh_54_10, zh_54_11, zh_54_12, zh_54_13, zh_54_16, zh_54_19, zh_54_21, zh_54_22, zh_54_25, zh_54_29n, zh_54_29, zh_54_32, zh_54_33, zh_54_34, zh_54_36, zh_54_39, zh_54_40, zh_54_41, zh_54_42, zh_54_44, zh_54_45, zh_54_47, zh_54_50, zh_54_53, zh_54_54, zh_54_56, zh_54_58, zh_54_61, zh_54_63, zh_54_67, zh_54_68, zh_54_69, zh_54_70, zh_54_71, zh_54_74, zh_54_75, zh_54_76, zh_54_79, zh_54_80, zh_54_81, zh_54_82, zh_54_83, zh_54_84, zh_54_86, zh_54_87, zwl_m1, zwl_0, zwl_1, zwl_2, zwl_3, zwl_4, zwl_5, zwl_6, zwl_7, zwl_8, zwl_10, zwl_15, zwl_24, zwl_32, zwl_33, zwl_40, zwl_41, zwl_42, zwl_43, zwl_45, zwl_47, zwl_48, zwl_52, zwl_56, zwl_57, zwl_59, zwl_60, zwl_61, zwl_63, zwl_64, zwl_66, zwl_67, zwl_68, zwl_70, zwl_75, zwl_77, zwl_80, zwl_82, zwl_84, zwl_88, zwl_89, zwl_97, zwl_104, zwl_110, zwl_112, zwl_114, zwl_118, zwl_123, zwl_125, zwl_126, zwl_159, zwl_160, zwl_200, zwl_255, zwl_480, zwl_960, zwl_3000, zs_kli, zs_klq, zs_kln, zs_wn, zs_wi, zs_wl, zs_wq, ↓zs_ok10, ↓zs_ok11, Option.toList_some, Option.toList_none, List.cons_append, List.nil_append, ↓reduceIte, Nat.reduceAdd, Nat.reduceLeDiff, true_and, and_true, Int.reduceEq, Int.reduceLT, Int.reduceLE, Int.reduceAdd, Int.reduceSub, Int.reduceMul, Int.reduceNeg, Nat.reduceEqDiff, Nat.reduceLT, Nat.reduceBEq, zsI_c, zsI_k, zsI_s, zsR_c, zsR_k, zsR_s, r2, e1, e2, r4]
    have e6 : 6 * s + 2 + k = 6 * s + (2 + k) := by omega
    rw [e6]
    refine tb_rf hb hP hs hsb (by omega) hD hC (fun I' f1 f2 => ?_)
    have kl := kidT_l (s := s) hP hT (2 + k)
    have e3 : zor pi ((kidT P (rT P) s (2 + k) : Nat) : Int) = ((p ||| kidT P (rT P) s (2 + k) : Nat) : Int) := by rw [hp]; exact bor hp3 kl
    simp only [zh_54_0, zh_54_1, zh_54_2, zh_54_5, zh_54_8, zh_54_9, zh_54_10, zh_54_11, zh_54_12, zh_54_13, zh_54_16, zh_54_19, zh_54_21, zh_54_22, zh_54_25, zh_54_29n, zh_54_29, zh_54_32, zh_54_33, zh_54_34, zh_54_36, zh_54_39, zh_54_40, zh_54_41, zh_54_42, zh_54_44, zh_54_45, zh_54_47, zh_54_50, zh_54_53, zh_54_54, zh_54_56, zh_54_58, zh_54_61, zh_54_63, zh_54_67, zh_54_68, zh_54_69, zh_54_70, zh_54_71, zh_54_74, zh_54_75, zh_54_76, zh_54_79, zh_54_80, zh_54_81, zh_54_82, zh_54_83, zh_54_84, zh_54_86, zh_54_87, zwl_m1, zwl_0, zwl_1, zwl_2, zwl_3, zwl_4, zwl_5, zwl_6, zwl_7, zwl_8, zwl_10, zwl_15, zwl_24, zwl_32, zwl_33, zwl_40, zwl_41, zwl_42, zwl_43, zwl_45, zwl_47, zwl_48, zwl_52, zwl_56, zwl_57, zwl_59, zwl_60, zwl_61, zwl_63, zwl_64, zwl_66, zwl_67, zwl_68, zwl_70, zwl_75, zwl_77, zwl_80, zwl_82, zwl_84, zwl_88, zwl_89, zwl_97, zwl_104, zwl_110, zwl_112, zwl_114, zwl_118, zwl_123, zwl_125, zwl_126, zwl_159, zwl_160, zwl_200, zwl_255, zwl_480, zwl_960, zwl_3000, zs_kli, zs_klq, zs_kln, zs_wn, zs_wi, zs_wl, zs_wq, ↓zs_ok10, ↓zs_ok11, Option.toList_some, Option.toList_none, List.cons_append, List.nil_append, ↓reduceIte, Nat.reduceAdd, Nat.reduceLeDiff, true_and, and_true, Int.reduceEq, Int.reduceLT, Int.reduceLE, Int.reduceAdd, Int.reduceSub, Int.reduceMul, Int.reduceNeg, Nat.reduceEqDiff, Nat.reduceLT, Nat.reduceBEq, zsI_c, zsI_k, zsI_s, zsR_c, zsR_k, zsR_s, e3]
    refine ih I' _ _ _ _ _ (hC.fr f1) (CatL.eq (fun i k => f1 5 i k (by omega)) (fun _ _ => rfl) _ _ r5) (by omega) rfl rfl (bor_l hc3 (bsh_l hlt)) (bor_l hp3 kl) (fun I2 c' p' g1 g2 g3 g4 g5 g6 => ?_)
    refine h I2 c' p' (f1.tr g1) ((f2.seq g2).mono (fun z ⟨j, x, x1, x2, x3⟩ => ?_)) g3 g4 ?_ ?_
    · by_cases hjk : j = k
      · left
        rw [hjk] at x2
        exact ⟨x, x2, x3⟩
      · exact Or.inr ⟨j, x, by omega, x2, x3⟩
    · rw [g5, cau, Nat.or_assoc, Nat.or_comm (2 ^ _)]
    · rw [g6]
      have : ∀ (m q a x : Nat), orU (fun j => kidT P (rT P) s (2 + j)) (q ||| x) a m = orU (fun j => kidT P (rT P) s (2 + j)) q a m ||| x := fun m => by
        induction m with
        | zero => intro q a x; rfl
        | succ m ihm =>
          intro q a x
          rw [orU, orU, Nat.or_assoc, Nat.or_comm x, ← Nat.or_assoc]
          exact ihm _ _ _
      rw [this]
      have t2 : ∀ (m q a : Nat), orU (fun j => kidT P (rT P) s (2 + j)) q a (m + 1) = orU (fun j => kidT P (rT P) s (2 + j)) q a m ||| kidT P (rT P) s (2 + (a + m)) := fun m => by
        induction m with
        | zero => intro q a; rfl
        | succ m ihm =>
          intro q a
          rw [orU, ihm, orU]
          have : a + 1 + m = a + (m + 1) := by omega
          rw [this]
      rw [t2 k p 0, Nat.zero_add]
/-- a try's tags, in the class's order -/
theorem stT_y {r : Nat → Nat} (h89 : P 34 s = 89) (hn3 : P 41 s ≤ 3) (hn0 : 0 ≤ P 41 s) (hN : BlN P s) : stT P r s = (kidT P r s 0 &&& (31 ^^^ cau P s (P 41 s).toNat)) ||| orU (fun j => kidT P r s (2 + j)) (kidT P r s 5) 0 (P 41 s).toNat := by
  unfold stT
  rw [if_pos h89]
  have hz : ∀ k : Nat, P 41 s ≤ (k : Int) → k < 3 → kidT P r s (2 + k) = 0 := fun k h1 h2 => by
    have := hN.2.2.1 h89 k h1 h2
    unfold kidT
    have e : 6 * s + (2 + k) = 6 * s + 2 + k := by omega
    rw [e, if_pos (by omega)]
  generalize hq : kidT P r s 0 &&& (31 ^^^ cau P s (P 41 s).toNat) = q
  have hm : (P 41 s).toNat = 0 ∨ (P 41 s).toNat = 1 ∨ (P 41 s).toNat = 2 ∨ (P 41 s).toNat = 3 := by omega
  show (((q ||| kidT P r s 2) ||| kidT P r s 3) ||| kidT P r s 4) ||| kidT P r s 5 = _
  rcases hm with hm | hm | hm | hm
  · have z0 := hz 0 (by omega) (by omega)
    have z1 := hz 1 (by omega) (by omega)
    have z2 := hz 2 (by omega) (by omega)
    rw [hm, z0, z1, z2]
    show q ||| 0 ||| 0 ||| 0 ||| _ = q ||| kidT P r s 5
    simp only [Nat.or_zero]
  · have z1 := hz 1 (by omega) (by omega)
    have z2 := hz 2 (by omega) (by omega)
    rw [hm, z1, z2]
    show q ||| kidT P r s 2 ||| 0 ||| 0 ||| _ = q ||| (kidT P r s 5 ||| kidT P r s 2)
    simp only [Nat.or_zero]
    rw [Nat.or_comm (kidT P r s 5), Nat.or_assoc]
  · have z2 := hz 2 (by omega) (by omega)
    rw [hm, z2]
    show q ||| kidT P r s 2 ||| kidT P r s 3 ||| 0 ||| _ = q ||| (kidT P r s 5 ||| kidT P r s 2 ||| kidT P r s 3)
    simp only [Nat.or_zero]
    rw [Nat.or_assoc (kidT P r s 5), Nat.or_comm (kidT P r s 5), Nat.or_assoc, Nat.or_assoc, Nat.or_assoc]
  · rw [hm]
    show q ||| kidT P r s 2 ||| kidT P r s 3 ||| kidT P r s 4 ||| _ = q ||| (kidT P r s 5 ||| kidT P r s 2 ||| kidT P r s 3 ||| kidT P r s 4)
    rw [Nat.or_assoc (kidT P r s 5), Nat.or_assoc (kidT P r s 5), Nat.or_comm (kidT P r s 5)]
    simp only [Nat.or_assoc]
theorem CT.bod (hC : CT I R P) (hs : s < nS P) (h : P 34 s = 63 ∨ P 34 s = 64 ∨ P 34 s = 89) : R 4 s 7 = rf 3 (P 38 (6 * s + 0)) := (hC.2.1 s hs).2.1.2.2.1 h
theorem ts_try (hP : PWf P) (hT : TgR P) (hb : ∀ c, c < nB P → P 100 c = P 100 b + 1 → TB P R al D n c) (hs : s < nS P) (hsb : P 42 s = (b : Int)) (hk : P 34 s = 89) (hD : D ≤ d) (hC : CT I R P) (h : ∀ I', FrG I I' → Fl P I I' (Us P n s) → K (some (zi (stT P (rT P) s : Nat))) (I', R, al)) : zCp (d + 2) 54 [zq (some (9, 0)), zq (some (4, s))] (I, R, al) K := by
  have hw := hP.2.2.2.2.2.1 s hs
  obtain ⟨n1, n2, n3⟩ := hw.2.2.2.2.2.2.2.2.2.2.1
  have hN := hw.2.2.2.2.2.2.2.2.2.2.2
  have h7 := hC.bod hs (Or.inr (Or.inr hk))
  have k0 := kidT_l (s := s) hP hT 0
  have k5 := kidT_l (s := s) hP hT 5
  have cl := cau_l (P := P) (s := s) (P 41 s).toNat (fun k hk' => ⟨(n3 k (by omega)).1, (n3 k (by omega)).2.1⟩)
  rw [zcp_54]
  simp only [zh_54_0, zh_54_1, zh_54_2, zh_54_5, zh_54_8, zh_54_9, zh_54_10, zh_54_11, zh_54_12, zh_54_13, zh_54_16, zh_54_19, zh_54_21, zh_54_22, zh_54_25, zh_54_29n, zh_54_29, zh_54_32, zh_54_33, zh_54_34, zh_54_36, zh_54_39, zh_54_40, zh_54_41, zh_54_42, zh_54_44, zh_54_45, zh_54_47, zh_54_50, zh_54_53, zh_54_54, zh_54_56, zh_54_58, zh_54_61, zh_54_63, zh_54_67, zh_54_68, zh_54_69, zh_54_70, zh_54_71, zh_54_74, zh_54_75, zh_54_76, zh_54_79, zh_54_80, zh_54_81, zh_54_82, zh_54_83, zh_54_84, zh_54_86, zh_54_87, zwl_m1, zwl_0, zwl_1, zwl_2, zwl_3, zwl_4, zwl_5, zwl_6, zwl_7, zwl_8, zwl_10, zwl_15, zwl_24, zwl_32, zwl_33, zwl_40, zwl_41, zwl_42, zwl_43, zwl_45, zwl_47, zwl_48, zwl_52, zwl_56, zwl_57, zwl_59, zwl_60, zwl_61, zwl_63, zwl_64, zwl_66, zwl_67, zwl_68, zwl_70, zwl_75, zwl_77, zwl_80, zwl_82, zwl_84, zwl_88, zwl_89, zwl_97, zwl_104, zwl_110, zwl_112, zwl_114, zwl_118, zwl_123, zwl_125, zwl_126, zwl_159, zwl_160, zwl_200, zwl_255, zwl_480, zwl_960, zwl_3000, zs_kli, zs_klq, zs_kln, zs_wn, zs_wi, zs_wl, zs_wq, ↓zs_ok10, ↓zs_ok11, Option.toList_some, Option.toList_none, List.cons_append, List.nil_append, ↓reduceIte, Nat.reduceAdd, Nat.reduceLeDiff, true_and, and_true, Int.reduceEq, Int.reduceLT, Int.reduceLE, Int.reduceAdd, Int.reduceSub, Int.reduceMul, Int.reduceNeg, Nat.reduceEqDiff, Nat.reduceLT, Nat.reduceBEq, zsI_c, zsI_k, zsI_s, zsR_c, zsR_k, zsR_s, h7]
  refine tb_rf hb hP hs hsb (by omega) hD hC (fun I1 f1 g1 => ?_)
  have hC1 := hC.fr f1
  have h8 : R 4 s 8 = rf 3 (P 38 (6 * s + 5)) := (hC1.2.1 s hs).2.1.2.2.2.2.1 hk
  simp only [zh_54_0, zh_54_1, zh_54_2, zh_54_5, zh_54_8, zh_54_9, zh_54_10, zh_54_11, zh_54_12, zh_54_13, zh_54_16, zh_54_19, zh_54_21, zh_54_22, zh_54_25, zh_54_29n, zh_54_29, zh_54_32, zh_54_33, zh_54_34, zh_54_36, zh_54_39, zh_54_40, zh_54_41, zh_54_42, zh_54_44, zh_54_45, zh_54_47, zh_54_50, zh_54_53, zh_54_54, zh_54_56, zh_54_58, zh_54_61, zh_54_63, zh_54_67, zh_54_68, zh_54_69, zh_54_70, zh_54_71, zh_54_74, zh_54_75, zh_54_76, zh_54_79, zh_54_80, zh_54_81, zh_54_82, zh_54_83, zh_54_84, zh_54_86, zh_54_87, zwl_m1, zwl_0, zwl_1, zwl_2, zwl_3, zwl_4, zwl_5, zwl_6, zwl_7, zwl_8, zwl_10, zwl_15, zwl_24, zwl_32, zwl_33, zwl_40, zwl_41, zwl_42, zwl_43, zwl_45, zwl_47, zwl_48, zwl_52, zwl_56, zwl_57, zwl_59, zwl_60, zwl_61, zwl_63, zwl_64, zwl_66, zwl_67, zwl_68, zwl_70, zwl_75, zwl_77, zwl_80, zwl_82, zwl_84, zwl_88, zwl_89, zwl_97, zwl_104, zwl_110, zwl_112, zwl_114, zwl_118, zwl_123, zwl_125, zwl_126, zwl_159, zwl_160, zwl_200, zwl_255, zwl_480, zwl_960, zwl_3000, zs_kli, zs_klq, zs_kln, zs_wn, zs_wi, zs_wl, zs_wq, ↓zs_ok10, ↓zs_ok11, Option.toList_some, Option.toList_none, List.cons_append, List.nil_append, ↓reduceIte, Nat.reduceAdd, Nat.reduceLeDiff, true_and, and_true, Int.reduceEq, Int.reduceLT, Int.reduceLE, Int.reduceAdd, Int.reduceSub, Int.reduceMul, Int.reduceNeg, Nat.reduceEqDiff, Nat.reduceLT, Nat.reduceBEq, zsI_c, zsI_k, zsI_s, zsR_c, zsR_k, zsR_s, h8]
  refine tb_rf hb hP hs hsb (by omega) hD hC1 (fun I2 f2 g2 => ?_)
  have hC2 := hC1.fr f2
  simp only [zh_54_0, zh_54_1, zh_54_2, zh_54_5, zh_54_8, zh_54_9, zh_54_10, zh_54_11, zh_54_12, zh_54_13, zh_54_16, zh_54_19, zh_54_21, zh_54_22, zh_54_25, zh_54_29n, zh_54_29, zh_54_32, zh_54_33, zh_54_34, zh_54_36, zh_54_39, zh_54_40, zh_54_41, zh_54_42, zh_54_44, zh_54_45, zh_54_47, zh_54_50, zh_54_53, zh_54_54, zh_54_56, zh_54_58, zh_54_61, zh_54_63, zh_54_67, zh_54_68, zh_54_69, zh_54_70, zh_54_71, zh_54_74, zh_54_75, zh_54_76, zh_54_79, zh_54_80, zh_54_81, zh_54_82, zh_54_83, zh_54_84, zh_54_86, zh_54_87, zwl_m1, zwl_0, zwl_1, zwl_2, zwl_3, zwl_4, zwl_5, zwl_6, zwl_7, zwl_8, zwl_10, zwl_15, zwl_24, zwl_32, zwl_33, zwl_40, zwl_41, zwl_42, zwl_43, zwl_45, zwl_47, zwl_48, zwl_52, zwl_56, zwl_57, zwl_59, zwl_60, zwl_61, zwl_63, zwl_64, zwl_66, zwl_67, zwl_68, zwl_70, zwl_75, zwl_77, zwl_80, zwl_82, zwl_84, zwl_88, zwl_89, zwl_97, zwl_104, zwl_110, zwl_112, zwl_114, zwl_118, zwl_123, zwl_125, zwl_126, zwl_159, zwl_160, zwl_200, zwl_255, zwl_480, zwl_960, zwl_3000, zs_kli, zs_klq, zs_kln, zs_wn, zs_wi, zs_wl, zs_wq, ↓zs_ok10, ↓zs_ok11, Option.toList_some, Option.toList_none, List.cons_append, List.nil_append, ↓reduceIte, Nat.reduceAdd, Nat.reduceLeDiff, true_and, and_true, Int.reduceEq, Int.reduceLT, Int.reduceLE, Int.reduceAdd, Int.reduceSub, Int.reduceMul, Int.reduceNeg, Nat.reduceEqDiff, Nat.reduceLT, Nat.reduceBEq, zsI_c, zsI_k, zsI_s, zsR_c, zsR_k, zsR_s]
  refine tt_loop hP hT hb hs hsb hD (P 41 s).toNat I2 _ 0 (kidT P (rT P) s 5) _ _ hC2 ((hC2.2.1 s hs).2.1.2.2.2.2.2.2 hk) (by omega) rfl rfl (by decide) k5 (fun I3 c' p' f3 g3 hc3 hp3 hc hp => ?_)
  rw [Nat.zero_or] at hc
  subst hc
  have e1 : zand ((cau P s (P 41 s).toNat : Nat) : Int) (zxor ((kidT P (rT P) s 0 : Nat) : Int) (-1)) = ((cau P s (P 41 s).toNat &&& (31 ^^^ kidT P (rT P) s 0) : Nat) : Int) := ban cl k0
  have e2 : zand ((kidT P (rT P) s 0 : Nat) : Int) (zxor ((cau P s (P 41 s).toNat : Nat) : Int) (-1)) = ((kidT P (rT P) s 0 &&& (31 ^^^ cau P s (P 41 s).toNat) : Nat) : Int) := ban k0 cl
  have e3 : zor ((kidT P (rT P) s 0 &&& (31 ^^^ cau P s (P 41 s).toNat) : Nat) : Int) (p' : Int) = ((stT P (rT P) s : Nat) : Int) := by
    rw [bor (ban_l k0 cl) hp3, hp, stT_y hk n2 n1 hN]
  have lx : cau P s (P 41 s).toNat &&& (31 ^^^ kidT P (rT P) s 0) < 32 := ban_l cl k0
  have hcov : ∀ I', Fl P I3 I' (fun z => z = s) → Fl P I I' (Us P n s) := fun I' g4 => by
    refine (((g1.seq g2).seq g3).seq g4).mono (fun z hz => ?_)
    rcases hz with rfl | ⟨j, c, j1, j2, j3⟩
    · exact Or.inr rfl
    · left
      have hj : j = 0 ∨ j = 1 ∨ j = 2 ∨ j = 3 ∨ j = 4 ∨ j = 5 := by omega
      rcases hj with rfl | rfl | rfl | rfl | rfl | rfl
      · exact Or.inl (Or.inl ⟨c, j2, j3⟩)
      · exfalso
        have := hN.2.2.2.2 hk
        omega
      · right
        by_cases q : (0 : Int) < P 41 s
        · exact ⟨0, c, by omega, j2, j3⟩
        · have : P 38 (6 * s + 2) = -1 := hN.2.2.1 hk 0 (by omega) (by omega)
          omega
      · right
        by_cases q : (1 : Int) < P 41 s
        · exact ⟨1, c, by omega, j2, j3⟩
        · have : P 38 (6 * s + 3) = -1 := hN.2.2.1 hk 1 (by omega) (by omega)
          omega
      · right
        by_cases q : (2 : Int) < P 41 s
        · exact ⟨2, c, by omega, j2, j3⟩
        · have : P 38 (6 * s + 4) = -1 := hN.2.2.1 hk 2 (by omega) (by omega)
          omega
      · exact Or.inl (Or.inr ⟨c, j2, j3⟩)
  by_cases hv : cau P s (P 41 s).toNat &&& (31 ^^^ kidT P (rT P) s 0) = 0
  · have e4 : ((cau P s (P 41 s).toNat &&& (31 ^^^ kidT P (rT P) s 0) : Nat) : Int) = 0 := by rw [hv]; rfl
    simp only [zh_54_0, zh_54_1, zh_54_2, zh_54_5, zh_54_8, zh_54_9, zh_54_10, zh_54_11, zh_54_12, zh_54_13, zh_54_16, zh_54_19, zh_54_21, zh_54_22, zh_54_25, zh_54_29n, zh_54_29, zh_54_32, zh_54_33, zh_54_34, zh_54_36, zh_54_39, zh_54_40, zh_54_41, zh_54_42, zh_54_44, zh_54_45, zh_54_47, zh_54_50, zh_54_53, zh_54_54, zh_54_56, zh_54_58, zh_54_61, zh_54_63, zh_54_66, zh_54_67, zh_54_68, zh_54_69, zh_54_70, zh_54_71, zh_54_74, zh_54_75, zh_54_76, zh_54_79, zh_54_80, zh_54_81, zh_54_82, zh_54_83, zh_54_84, zh_54_86, zh_54_87, zwl_m1, zwl_0, zwl_1, zwl_2, zwl_3, zwl_4, zwl_5, zwl_6, zwl_7, zwl_8, zwl_10, zwl_15, zwl_24, zwl_32, zwl_33, zwl_40, zwl_41, zwl_42, zwl_43, zwl_45, zwl_47, zwl_48, zwl_52, zwl_56, zwl_57, zwl_59, zwl_60, zwl_61, zwl_63, zwl_64, zwl_66, zwl_67, zwl_68, zwl_70, zwl_75, zwl_77, zwl_80, zwl_82, zwl_84, zwl_88, zwl_89, zwl_97, zwl_104, zwl_110, zwl_112, zwl_114, zwl_118, zwl_123, zwl_125, zwl_126, zwl_159, zwl_160, zwl_200, zwl_255, zwl_480, zwl_960, zwl_3000, zs_kli, zs_klq, zs_kln, zs_wn, zs_wi, zs_wl, zs_wq, ↓zs_ok10, ↓zs_ok11, Option.toList_some, Option.toList_none, List.cons_append, List.nil_append, ↓reduceIte, Nat.reduceAdd, Nat.reduceLeDiff, true_and, and_true, Int.reduceEq, Int.reduceLT, Int.reduceLE, Int.reduceAdd, Int.reduceSub, Int.reduceMul, Int.reduceNeg, Nat.reduceEqDiff, Nat.reduceLT, Nat.reduceBEq, zsI_c, zsI_k, zsI_s, zsR_c, zsR_k, zsR_s, e1, e4, e2, e3]
    refine h I3 (f1.tr (f2.tr f3)) (hcov I3 (Fl.none (fun z hz => ?_)))
    subst hz
    exact fun q => q.2.2 hv
  · generalize hx : ((cau P s (P 41 s).toNat &&& (31 ^^^ kidT P (rT P) s 0) : Nat) : Int) = x at e1
    have e4 : zw x = x := zw_i (by omega) (by omega)
    have e5 : ¬ x = 0 := by omega
    simp only [zh_54_0, zh_54_1, zh_54_2, zh_54_5, zh_54_8, zh_54_9, zh_54_10, zh_54_11, zh_54_12, zh_54_13, zh_54_16, zh_54_19, zh_54_21, zh_54_22, zh_54_25, zh_54_29n, zh_54_29, zh_54_32, zh_54_33, zh_54_34, zh_54_36, zh_54_39, zh_54_40, zh_54_41, zh_54_42, zh_54_44, zh_54_45, zh_54_47, zh_54_50, zh_54_53, zh_54_54, zh_54_56, zh_54_58, zh_54_61, zh_54_63, zh_54_66, zh_54_67, zh_54_68, zh_54_69, zh_54_70, zh_54_71, zh_54_74, zh_54_75, zh_54_76, zh_54_79, zh_54_80, zh_54_81, zh_54_82, zh_54_83, zh_54_84, zh_54_86, zh_54_87, zwl_m1, zwl_0, zwl_1, zwl_2, zwl_3, zwl_4, zwl_5, zwl_6, zwl_7, zwl_8, zwl_10, zwl_15, zwl_24, zwl_32, zwl_33, zwl_40, zwl_41, zwl_42, zwl_43, zwl_45, zwl_47, zwl_48, zwl_52, zwl_56, zwl_57, zwl_59, zwl_60, zwl_61, zwl_63, zwl_64, zwl_66, zwl_67, zwl_68, zwl_70, zwl_75, zwl_77, zwl_80, zwl_82, zwl_84, zwl_88, zwl_89, zwl_97, zwl_104, zwl_110, zwl_112, zwl_114, zwl_118, zwl_123, zwl_125, zwl_126, zwl_159, zwl_160, zwl_200, zwl_255, zwl_480, zwl_960, zwl_3000, zs_kli, zs_klq, zs_kln, zs_wn, zs_wi, zs_wl, zs_wq, ↓zs_ok10, ↓zs_ok11, Option.toList_some, Option.toList_none, List.cons_append, List.nil_append, ↓reduceIte, Nat.reduceAdd, Nat.reduceLeDiff, true_and, and_true, Int.reduceEq, Int.reduceLT, Int.reduceLE, Int.reduceAdd, Int.reduceSub, Int.reduceMul, Int.reduceNeg, Nat.reduceEqDiff, Nat.reduceLT, Nat.reduceBEq, zsI_c, zsI_k, zsI_s, zsR_c, zsR_k, zsR_s, e1, e4, e5, e2, e3]
    refine h _ (f1.tr (f2.tr (f3.tr (fun c i k hc => zsI_n (by omega))))) (hcov _ (Or.inr ⟨zsI_s .., s, hs, hk, hv⟩))
end
