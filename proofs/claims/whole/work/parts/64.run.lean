/-! class and reference: a whole try, and every block -/
theorem ct_ok {P : Nat → Nat → Int} {s : Nat} {t : Int} : ∀ n : Nat, ct P s t n = -1 ∨ ∃ c : Nat, c < n ∧ ct P s t n = (c : Int) ∧ P 39 (3 * s + c) = t
  | 0 => Or.inl rfl
  | n + 1 => by
    rw [ct]
    by_cases h : P 39 (3 * s + n) = t
    · rw [if_pos h]; exact Or.inr ⟨n, by omega, rfl, h⟩
    · rw [if_neg h]
      rcases ct_ok n with h1 | ⟨c, h1, h2, h3⟩
      · exact Or.inl h1
      · exact Or.inr ⟨c, by omega, h2, h3⟩
theorem Dn_kid {P : Nat → Nat → Int} {uw b c x : Nat} (h1 : P 100 c = P 100 b + 1) (h2 : P 100 c ≤ 4) (h3 : 1 ≤ P 100 b) (h : Dn P uw b ≤ x + 20) : Dn P uw c ≤ x + 17 := by
  unfold Dn at *
  omega
section
variable {P : Nat → Nat → Int} {R : zMR} {al : zA} {Fi : Int} {F f uw b s d : Nat} {tv tvc : Int} {σ : Rs} {o : Oc} {I : zMI} {K Q : Option zV → zS → Prop}
theorem rs_try (hK : Kon R) (hP : PWf P) (hB : ∀ f', f' ≤ f → RB P R al Fi F f') (hs : s < nS P) (hb : P 42 s = (b : Int)) (hbn : b < nB P) (hS : SOk uw σ) (hf : σ.2.2.2.1 = f) (hk : P 34 s = 89) : RS P R al Fi F f uw b s tv σ := by
  have hS1 := hS.1
  have hw := hP.2.2.2.2.2.1 s hs
  have h80 := hP.1
  have h81 := hP.2.1
  have hdep := (hP.2.2.2.2.2.2.1 b hbn).dep
  obtain ⟨n1, n2, n3⟩ := hw.2.2.2.2.2.2.2.2.2.2.1
  obtain ⟨c, c1, c2, c3, c4, c5, c6, _, _, c7⟩ := kid_ok hP hs hb (hw.2.2.2.2.2.2.2.2.1 (Or.inr (Or.inr hk)))
  have c1' : P 38 (6 * s) = (c : Int) := c1
  obtain ⟨c8, c9⟩ := c6 (by omega)
  obtain ⟨o1, ok1, cb1, mb1⟩ := hB f (Nat.le_refl _) uw c (P 45 c) tv σ hS hf c2 c7
  obtain ⟨w, t, rv, σ1⟩ := o1
  have ok1' := ok1
  obtain ⟨a1, a2, a3, a4, a5, a6⟩ := ok1
  have a1' : w ≤ 5 := a1
  have a2' : σ1.2.2.2.1 ≤ f := a2
  /- the frames of the try and of its first block -/
  have hpush : ∀ (I I1 : zMI) (T : Nat), Took I P b tv T → I 56 0 T = 0 → Pushed I I1 (T + 1) 3 (s : Int) → Took I1 P b tv (T + 1) ∧ Took I1 P c tv (T + 2) := fun I I1 T hT h5 hp => by
    have t1 : Took I P b tv (T + 1) := hT.up (fun _ => by rw [h5]; exact fun q => absurd q.1 (by decide +kernel))
    have t2 := t1.fr hp.1.frt
    refine ⟨t2, (t2.up (fun q => ?_)).kid c8 c9⟩
    rw [hp.2.2.2.1]
    exact fun z => try_ne hP hs hb hbn q z.2
  by_cases hcat : w = 4 ∧ ct P s t (P 41 s).toNat ≠ -1
  · obtain ⟨hw4, hct⟩ := hcat
    subst hw4
    rcases ct_ok (P := P) (s := s) (t := t) (P 41 s).toNat with hc0 | ⟨e, e1, e2, e3⟩
    · exact absurd hc0 hct
    have a6' : 0 ≤ t ∧ t ≤ 7 := a6 rfl
    have hzt : zw t = t := zw_i (by omega) (by omega)
    clear c7
    have hs80 : s < 80 := by omega
    have he3 : e < 3 := by omega
    obtain ⟨m1, m2, m3, m4, m5⟩ := n3 e (by omega)
    obtain ⟨cc, d1, d2, d3, d4, d5, _, d6, d8, d7⟩ := kid_ok hP hs hb m5
    have ecc : 6 * s + (2 + e) = 6 * s + 2 + e := by omega
    rw [ecc] at d1
    obtain ⟨d6, d9⟩ := d6 (by omega)
    have e39 : 3 * s + (2 + e) - 2 = 3 * s + e := by omega
    rw [e39, e3] at d9
    have hv : P 40 (3 * s + e) = ((P 40 (3 * s + e)).toNat : Int) := by omega
    generalize hvn : (P 40 (3 * s + e)).toNat = v at hv
    have hv8 : v < 8 := by omega
    obtain ⟨o2, ok2, cb2, mb2⟩ := hB σ1.2.2.2.1 a2' uw cc (P 45 cc) rv (uP σ1.1 v rv, σ1.2) ⟨hS1, a4, a5⟩ rfl d2 d7
    clear d7
    have hcc : cc < 160 := by omega
    have ok2' : OOk f o2 := ⟨ok2.1, by have := ok2.2.1; omega, ok2.2.2.1, ok2.2.2.2.1, ok2.2.2.2.2.1, ok2.2.2.2.2.2⟩
    obtain ⟨o, ok, cT, mT, mT5⟩ := rt (tv := tv) hK hP hB hs hb hbn hS1 hk o2 ok2'
    refine ⟨o, ok, fun d I K tvc hd hR hC htv h => ?_, fun d I Q K T hR hM ht h5 hw0 hT hTb hq h => ?_⟩
    · obtain ⟨x, rfl⟩ : ∃ x, d = x + 19 := ⟨d - 19, by unfold Dn at hd; omega⟩
      refine ct_start hR hs hk hw c1' (fun K1 hK1 => ?_)
      refine cb_enter hR c2 cb1 (Dn_kid c3 c4 c5 hd) hC htv (fun I' g1 g2 g3 => ?_)
      have g3' : I' 10 0 7 = t ∧ zw (I' 10 0 8) = rv := g3 rfl
      refine hK1 4 I' g1 (fun _ => by rw [g3'.1]; exact hzt) (fun q => by rw [g3'.1] at q; exact absurd (q rfl) hct) (fun e' v' bc _ q1 q2 q3 q4 K2 hK2 => ?_)
      rw [g3'.1, e2] at q1
      have ee : e' = e := by omega
      subst ee
      have ev : v' = v := by omega
      subst ev
      have eb : bc = cc := by have := q4.symm.trans d1; omega
      subst eb
      have f2 : FrC I' (zsI I' 28 0 v' (I' 10 0 8)) := FrC.rfl.set (by omega)
      obtain ⟨r1, r2, r3, r4, r5, r6⟩ := g2
      refine cb_enter ((hR.fr g1).fr f2) d2 cb2 (Dn_kid d3 d4 d5 hd) ⟨fun k hk => uP_zw g3'.2 (fun _ => r1 k hk), fun k hk => by rw [zsI_ne (by omega)]; exact r2 k hk, by rw [zsI_ne (by omega)]; exact r3, by rw [zsI_ne (by omega)]; exact r4, by rw [zsI_ne (by omega)]; exact r5, by rw [zsI_ne (by omega)]; exact r6⟩ g3'.2 (fun I2 y1 y2 y3 => hK2 o2.1 I2 (fun l4 K' hk' => ?_))
      exact cT x I2 K' tvc l4 (by omega) (((hR.fr g1).fr f2).fr y1) y2 y3 htv (fun I3 z1 z2 z3 => hk' _ _ (h I3 (g1.tr (f2.tr (y1.tr z1))) z2 z3))
    · refine ms_try (d := d + 9) hK hR rfl (by omega) hk c1' (by omega) ht (by omega) hw0 (fun I1 I' hp1 hp2 => hq I' ?_)
      obtain ⟨tk1, tk2⟩ := hpush I I1 T hT h5 hp1
      have hR1 := hR.fr hp1.1.frm
      have hTT : ((T + 1 + 1 : Nat) : Int) - 1 = ((T + 1 : Nat) : Int) := by omega
      have hT2 : T + 1 + 1 < 200 := by omega
      have hT3 : T + 1 + 1 + 1 ≤ 9 * uw + 2 * (P 100 cc).toNat := by omega
      have hT4 : T + 1 + 1 ≤ 9 * uw + 2 * (P 100 b).toNat + 1 := by omega
      refine mb_enter (tv := tv) hR1 (hp1.1.run hM) (by rw [hp1.1 _ _ _ (by omega) (by omega)]; exact hw0) hp2 tk2 (by omega) mb1 ⟨fun _ I2 j1 j2 j3 j4 j5 j6 => ?_, fun q => absurd (show (4 : Nat) = 5 from q) (by decide)⟩
      obtain ⟨j6, j7⟩ := j6 rfl
      have j6' : I2 11 0 51 = t := j6
      have j7' : zw (I2 11 0 52) = rv := j7
      have k56 : I2 56 0 (T + 1) = 3 := by rw [j2 _ _ (by decide) (by decide) (by omega)]; exact hp1.2.2.1
      have k57 : I2 57 0 (T + 1) = (s : Int) := by rw [j2 _ _ (by decide) (by decide) (by omega)]; exact hp1.2.2.2.1
      have k58 : I2 58 0 (T + 1) = 0 := by rw [j2 _ _ (by decide) (by decide) (by omega)]; exact hp1.2.2.2.2
      refine ml_tryC (c := e) (v := v) (T := T + 1) hK (hR1.fr j1) hw j4 hTT hT2 j5 k56 k58 k57 rfl hs80 (by rw [j6']; exact hzt) (by rw [j6']; exact e2) he3 hv hv8 d1 hcc (fun I3 hp3 => ?_)
      generalize hI0 : zsI (zsI (zsI (zsI (zsI I2 58 0 (T + 1) 1) 59 0 (T + 1) (I2 11 0 51)) 60 0 (T + 1) (I2 11 0 52)) 54 0 v (I2 11 0 52)) 11 0 50 0 = I0 at hp3
      have f1 : FrM I2 I0 := by rw [← hI0]; exact ((((FrM.rfl.set (by omega)).set (by omega)).set (by omega)).set (by omega)).set (by omega)
      have f2 : FrT I2 I0 (T + 1) := by rw [← hI0]; exact ((((FrT.rfl.set (by omega)).set (by omega)).set (by omega)).set (by omega)).set (by omega)
      have e' : ∀ c k, c ≠ 54 → ¬ (c = 11 ∧ k = 50) → ¬ (58 ≤ c ∧ c ≤ 60 ∧ k = T + 1) → I0 c 0 k = I2 c 0 k := fun c k h1 h2 h3 => by rw [← hI0, zsI_n (by omega), zsI_n (by omega), zsI_n (by omega), zsI_n (by omega), zsI_n (by omega)]
      have k58' : I0 58 0 (T + 1) = 1 := by rw [← hI0, zsI_ne (by omega), zsI_ne (by omega), zsI_ne (by omega), zsI_ne (by omega), zsI_s]
      have k59 : I0 59 0 (T + 1) = t := by rw [← hI0, zsI_ne (by omega), zsI_ne (by omega), zsI_ne (by omega), zsI_s]; exact j6'
      have k60 : zw (I0 60 0 (T + 1)) = rv := by rw [← hI0, zsI_ne (by omega), zsI_ne (by omega), zsI_s]; exact j7'
      have k56' : I0 56 0 (T + 1) = 3 := by rw [e' _ _ (by decide) (by omega) (by omega)]; exact k56
      have k57' : I0 57 0 (T + 1) = (s : Int) := by rw [e' _ _ (by decide) (by omega) (by omega)]; exact k57
      obtain ⟨r1, r2, r3, r4, r5, r6⟩ := j3
      have hM0 : MRun I0 uw F (uP σ1.1 v rv, σ1.2) := ⟨fun k hk => by rw [← hI0, zsI_ne (by omega)]; exact uP_zw j7' (fun _ => by rw [zsI_ne (by omega), zsI_ne (by omega), zsI_ne (by omega)]; exact r1 k hk), fun k hk => by rw [e' _ _ (by decide) (by omega) (by omega)]; exact r2 k hk, by rw [e' _ _ (by decide) (by omega) (by omega)]; exact r3, by rw [e' _ _ (by decide) (by omega) (by omega)]; exact r4, by rw [e' _ _ (by decide) (by omega) (by omega)]; exact r5, by rw [e' _ _ (by decide) (by omega) (by omega)]; exact r6⟩
      have hRI0 := (hR1.fr j1).fr f1
      have fM : FrM I I0 := hp1.1.frm.tr (j1.tr f1)
      have fT : FrT I I0 (T + 1) := hp1.1.frt.tr ((j2.le (by omega)).tr f2)
      have tk0 : Took I0 P b tv (T + 1) := tk1.fr ((j2.le (by omega)).tr f2)
      refine mb_enter (tv := rv) hRI0 hM0 (by rw [← hI0, zsI_s]) hp3 (fun _ => ⟨T + 1, by omega, k56', by rw [d6, Int.toNat_natCast, d8]; exact k57', fun j q1 q2 => absurd q1 (by omega), by rw [d9]; exact k59, k60⟩) hT3 mb2 ⟨fun hw4 I4 y1 y2 y3 y4 y5 y6 => ?_, fun q I4 uw' y1 y2 => mT5 q d I Q (T + 1) h I4 uw' (fM.tr y1) y2⟩
      have x56 : I4 56 0 (T + 1) = 3 := by rw [y2 _ _ (by decide) (by decide) (by omega)]; exact k56'
      have x57 : I4 57 0 (T + 1) = (s : Int) := by rw [y2 _ _ (by decide) (by decide) (by omega)]; exact k57'
      have x58 : I4 58 0 (T + 1) = 1 := by rw [y2 _ _ (by decide) (by decide) (by omega)]; exact k58'
      exact mT hw4 d I4 Q (T + 1) 1 (hRI0.fr y1) y3 y4 x56 x57 x58 (Or.inl rfl) y5 y6 (tk0.fr (y2.le (by omega))) hT4 (h.fr (fM.tr y1) (fT.tr (y2.le (by omega))))
  · obtain ⟨o, ok, cT, mT, mT5⟩ := rt (tv := tv) hK hP hB hs hb hbn hS1 hk (w, t, rv, σ1) ok1'
    have hno : w = 4 → ct P s t (P 41 s).toNat = -1 := fun q => by
      by_cases z : ct P s t (P 41 s).toNat = -1
      · exact z
      · exact absurd ⟨q, z⟩ hcat
    refine ⟨o, ok, fun d I K tvc hd hR hC htv h => ?_, fun d I Q K T hR hM ht h5 hw0 hT hTb hq h => ?_⟩
    · obtain ⟨x, rfl⟩ : ∃ x, d = x + 19 := ⟨d - 19, by unfold Dn at hd; omega⟩
      refine ct_start hR hs hk hw c1' (fun K1 hK1 => ?_)
      refine cb_enter hR c2 cb1 (Dn_kid c3 c4 c5 hd) hC htv (fun I' g1 g2 g3 => ?_)
      refine hK1 w I' g1 (fun q => by
        have g3' : I' 10 0 7 = t := (g3 q).1
        have a6' : 0 ≤ t ∧ t ≤ 7 := a6 q
        rw [g3']
        exact zw_i (by omega) (by omega)) (fun _ l4 K' hk' => cT x I' K' tvc l4 (by omega) (hR.fr g1) g2 g3 htv (fun I3 z1 z2 z3 => hk' _ _ (h I3 (g1.tr z1) z2 z3))) (fun e' v' bc q0 q1 => ?_)
      have g3' : I' 10 0 7 = t := (g3 q0).1
      rw [g3', hno q0] at q1
      omega
    · refine ms_try (d := d + 9) hK hR rfl (by omega) hk c1' (by omega) ht (by omega) hw0 (fun I1 I' hp1 hp2 => hq I' ?_)
      obtain ⟨tk1, tk2⟩ := hpush I I1 T hT h5 hp1
      have hR1 := hR.fr hp1.1.frm
      refine mb_enter (tv := tv) hR1 (hp1.1.run hM) (by rw [hp1.1 _ _ _ (by omega) (by omega)]; exact hw0) hp2 tk2 (by omega) mb1 ⟨fun hw4 I2 j1 j2 j3 j4 j5 j6 => ?_, fun q I2 uw' j1 j2 => mT5 q d I Q (T + 1) h I2 uw' (hp1.1.frm.tr j1) j2⟩
      have k56 : I2 56 0 (T + 1) = 3 := by rw [j2 _ _ (by decide) (by decide) (by omega)]; exact hp1.2.2.1
      have k57 : I2 57 0 (T + 1) = (s : Int) := by rw [j2 _ _ (by decide) (by decide) (by omega)]; exact hp1.2.2.2.1
      have k58 : I2 58 0 (T + 1) = 0 := by rw [j2 _ _ (by decide) (by decide) (by omega)]; exact hp1.2.2.2.2
      exact mT hw4 d I2 Q (T + 1) 0 (hR1.fr j1) j3 j4 k56 k57 k58 (Or.inr ⟨rfl, hno⟩) j5 j6 (tk1.fr (j2.le (by omega))) (by omega) (h.fr (hp1.1.frm.tr j1) (hp1.1.frt.tr (j2.le (by omega))))
/-- what the checks say of a program -/
def Chk (P : Nat → Nat → Int) : Prop := ∀ s, s < nS P → (P 34 s = 88 → P 102 (P 42 s).toNat ≠ -1) ∧ (P 34 s = 80 → ∃ p, pIx P (P 35 s) (nP P) = some p ∧ p < nP P)
theorem rb (hK : Kon R) (hP : PWf P) (hCk : Chk P) (hFi : Fi = (F : Int)) (hF : F ≤ 3000) (n : Nat) : ∀ f, f ≤ n → f ≤ F → RB P R al Fi F f := by
  induction n with
  | zero =>
    intro f hfn hfF uw b q tv σ hS hf hb hq
    have h80 := hP.1
    have hS1 := hS.1
    have hdep := (hP.2.2.2.2.2.2.1 b hb).dep
    have hf0 : f = 0 := by omega
    subst hf0
    obtain ⟨V, O, oc, f', mu⟩ := σ
    have hf' : f' = 0 := hf
    subst hf'
    rcases hq with rfl | ⟨s, rfl, hs, hsb⟩
    · refine ⟨(0, 0, 0, (V, O, oc, 0, mu)), ⟨by show (0 : Nat) ≤ 5; omega, Nat.zero_le _, fun _ => rfl, hS.2.1, hS.2.2, w4 rfl⟩, fun d I K tvc hd hR hC htv h => ?_, fun d I Q T hR hM ht h5 h6 hw0 hT hTb h => ?_⟩
      · rw [rf_n (by decide), zh_59_14]
        simp only [zh_59_0, zh_59_3, zh_59_4, zh_59_5n, zh_59_5, zh_59_8, zh_59_9, zh_59_12, zh_59_16n, zh_59_16, zh_59_19, zh_59_20, zh_59_23, zh_59_23n, zh_59_23l, zh_59_23r, zh_59_26, zh_59_27, zh_59_29, zh_59_30, zh_59_33, zh_59_34, zh_59_36, zh_59_39, zh_59_41, zh_59_44, zh_59_45, zwl_m1, zwl_0, zwl_1, zwl_2, zwl_3, zwl_4, zwl_5, zwl_6, zwl_7, zwl_8, zwl_10, zwl_15, zwl_24, zwl_32, zwl_33, zwl_40, zwl_41, zwl_42, zwl_43, zwl_45, zwl_47, zwl_48, zwl_52, zwl_56, zwl_57, zwl_59, zwl_60, zwl_61, zwl_63, zwl_64, zwl_66, zwl_67, zwl_68, zwl_70, zwl_75, zwl_77, zwl_80, zwl_82, zwl_84, zwl_88, zwl_89, zwl_97, zwl_104, zwl_110, zwl_112, zwl_114, zwl_118, zwl_123, zwl_125, zwl_126, zwl_159, zwl_160, zwl_200, zwl_255, zwl_480, zwl_960, zwl_3000, zs_kli, zs_klq, zs_kln, zs_wn, zs_wi, zs_wl, zs_wq, ↓zs_ok10, ↓zs_ok11, Option.toList_some, Option.toList_none, List.cons_append, List.nil_append, ↓reduceIte, Nat.reduceAdd, Nat.reduceLeDiff, true_and, and_true, Int.reduceEq, Int.reduceLT, Int.reduceLE, Int.reduceAdd, Int.reduceSub, Int.reduceMul, Int.reduceNeg, Nat.reduceEqDiff, Nat.reduceLT, Nat.reduceBEq, zsI_c, zsI_k, zsI_s, zsR_c, zsR_k, zsR_s]
        exact h I FrC.rfl hC (w4 rfl)
      · refine mh_end (d := d + 10) (T := T) hK ht (by omega) (by omega) hw0 h5 h6 rfl ?_
        have e : ∀ c k, ¬ (c = 11 ∧ k = 41) → zsI I 11 0 41 (((T + 1 : Nat) : Int) - 1) c 0 k = I c 0 k := fun c k hc => zsI_n (by omega)
        exact h.1 (by show (0 : Nat) ≤ 4; omega) _ (FrM.rfl.set (by omega)) (FrT.rfl.set (by omega)) (hM.of (fun k => e _ _ (by omega)) (fun k => e _ _ (by omega)) (e _ _ (by omega)) (e _ _ (by omega)) (e _ _ (by omega)) (e _ _ (by omega))) (by rw [zsI_s]; omega) (by rw [e _ _ (by omega)]; exact hw0) (w4 rfl)
    · refine ⟨(5, 0, 0, (V, O, oc, 0, mu)), ⟨by show (5 : Nat) ≤ 5; omega, Nat.zero_le _, fun _ => rfl, hS.2.1, hS.2.2, w4 rfl⟩, fun d I K tvc hd hR hC htv h => ?_, fun d I Q T hR hM ht h5 h6 hw0 hT hTb h => ?_⟩
      · obtain ⟨e, rfl⟩ : ∃ e, d = e + 1 := ⟨d - 1, by unfold Dn at hd; omega⟩
        rw [rf_s (by omega), Int.toNat_natCast, zh_59_14]
        simp only [zh_59_0, zh_59_3, zh_59_4, zh_59_5n, zh_59_5, zh_59_8, zh_59_9, zh_59_12, zh_59_16n, zh_59_16, zh_59_19, zh_59_20, zh_59_23, zh_59_23n, zh_59_23l, zh_59_23r, zh_59_26, zh_59_27, zh_59_29, zh_59_30, zh_59_33, zh_59_34, zh_59_36, zh_59_39, zh_59_41, zh_59_44, zh_59_45, zwl_m1, zwl_0, zwl_1, zwl_2, zwl_3, zwl_4, zwl_5, zwl_6, zwl_7, zwl_8, zwl_10, zwl_15, zwl_24, zwl_32, zwl_33, zwl_40, zwl_41, zwl_42, zwl_43, zwl_45, zwl_47, zwl_48, zwl_52, zwl_56, zwl_57, zwl_59, zwl_60, zwl_61, zwl_63, zwl_64, zwl_66, zwl_67, zwl_68, zwl_70, zwl_75, zwl_77, zwl_80, zwl_82, zwl_84, zwl_88, zwl_89, zwl_97, zwl_104, zwl_110, zwl_112, zwl_114, zwl_118, zwl_123, zwl_125, zwl_126, zwl_159, zwl_160, zwl_200, zwl_255, zwl_480, zwl_960, zwl_3000, zs_kli, zs_klq, zs_kln, zs_wn, zs_wi, zs_wl, zs_wq, ↓zs_ok10, ↓zs_ok11, Option.toList_some, Option.toList_none, List.cons_append, List.nil_append, ↓reduceIte, Nat.reduceAdd, Nat.reduceLeDiff, true_and, and_true, Int.reduceEq, Int.reduceLT, Int.reduceLE, Int.reduceAdd, Int.reduceSub, Int.reduceMul, Int.reduceNeg, Nat.reduceEqDiff, Nat.reduceLT, Nat.reduceBEq, zsI_c, zsI_k, zsI_s, zsR_c, zsR_k, zsR_s]
        refine cs_dry hR hC (fun I' g1 g2 g3 => ?_)
        have h6 := ((hR.fr g1).2.1 s hs).1.2.2.1
        simp only [zh_59_0, zh_59_3, zh_59_4, zh_59_5n, zh_59_5, zh_59_8, zh_59_9, zh_59_12, zh_59_16n, zh_59_16, zh_59_19, zh_59_20, zh_59_23, zh_59_23n, zh_59_23l, zh_59_23r, zh_59_26, zh_59_27, zh_59_29, zh_59_30, zh_59_33, zh_59_34, zh_59_36, zh_59_39, zh_59_41, zh_59_44, zh_59_45, zwl_m1, zwl_0, zwl_1, zwl_2, zwl_3, zwl_4, zwl_5, zwl_6, zwl_7, zwl_8, zwl_10, zwl_15, zwl_24, zwl_32, zwl_33, zwl_40, zwl_41, zwl_42, zwl_43, zwl_45, zwl_47, zwl_48, zwl_52, zwl_56, zwl_57, zwl_59, zwl_60, zwl_61, zwl_63, zwl_64, zwl_66, zwl_67, zwl_68, zwl_70, zwl_75, zwl_77, zwl_80, zwl_82, zwl_84, zwl_88, zwl_89, zwl_97, zwl_104, zwl_110, zwl_112, zwl_114, zwl_118, zwl_123, zwl_125, zwl_126, zwl_159, zwl_160, zwl_200, zwl_255, zwl_480, zwl_960, zwl_3000, zs_kli, zs_klq, zs_kln, zs_wn, zs_wi, zs_wl, zs_wq, ↓zs_ok10, ↓zs_ok11, Option.toList_some, Option.toList_none, List.cons_append, List.nil_append, ↓reduceIte, Nat.reduceAdd, Nat.reduceLeDiff, true_and, and_true, Int.reduceEq, Int.reduceLT, Int.reduceLE, Int.reduceAdd, Int.reduceSub, Int.reduceMul, Int.reduceNeg, Nat.reduceEqDiff, Nat.reduceLT, Nat.reduceBEq, zsI_c, zsI_k, zsI_s, zsR_c, zsR_k, zsR_s, h6]
        rw [zh_59_14]
        rcases rf_c (c := 4) (x := P 43 s) with q | ⟨x, q⟩
        · simp only [zh_59_0, zh_59_3, zh_59_4, zh_59_5n, zh_59_5, zh_59_8, zh_59_9, zh_59_12, zh_59_16n, zh_59_16, zh_59_19, zh_59_20, zh_59_23, zh_59_23n, zh_59_23l, zh_59_23r, zh_59_26, zh_59_27, zh_59_29, zh_59_30, zh_59_33, zh_59_34, zh_59_36, zh_59_39, zh_59_41, zh_59_44, zh_59_45, zwl_m1, zwl_0, zwl_1, zwl_2, zwl_3, zwl_4, zwl_5, zwl_6, zwl_7, zwl_8, zwl_10, zwl_15, zwl_24, zwl_32, zwl_33, zwl_40, zwl_41, zwl_42, zwl_43, zwl_45, zwl_47, zwl_48, zwl_52, zwl_56, zwl_57, zwl_59, zwl_60, zwl_61, zwl_63, zwl_64, zwl_66, zwl_67, zwl_68, zwl_70, zwl_75, zwl_77, zwl_80, zwl_82, zwl_84, zwl_88, zwl_89, zwl_97, zwl_104, zwl_110, zwl_112, zwl_114, zwl_118, zwl_123, zwl_125, zwl_126, zwl_159, zwl_160, zwl_200, zwl_255, zwl_480, zwl_960, zwl_3000, zs_kli, zs_klq, zs_kln, zs_wn, zs_wi, zs_wl, zs_wq, ↓zs_ok10, ↓zs_ok11, Option.toList_some, Option.toList_none, List.cons_append, List.nil_append, ↓reduceIte, Nat.reduceAdd, Nat.reduceLeDiff, true_and, and_true, Int.reduceEq, Int.reduceLT, Int.reduceLE, Int.reduceAdd, Int.reduceSub, Int.reduceMul, Int.reduceNeg, Nat.reduceEqDiff, Nat.reduceLT, Nat.reduceBEq, zsI_c, zsI_k, zsI_s, zsR_c, zsR_k, zsR_s, q]
          exact h I' g1 g2 (w4 rfl)
        · simp only [zh_59_0, zh_59_3, zh_59_4, zh_59_5n, zh_59_5, zh_59_8, zh_59_9, zh_59_12, zh_59_16n, zh_59_16, zh_59_19, zh_59_20, zh_59_23, zh_59_23n, zh_59_23l, zh_59_23r, zh_59_26, zh_59_27, zh_59_29, zh_59_30, zh_59_33, zh_59_34, zh_59_36, zh_59_39, zh_59_41, zh_59_44, zh_59_45, zwl_m1, zwl_0, zwl_1, zwl_2, zwl_3, zwl_4, zwl_5, zwl_6, zwl_7, zwl_8, zwl_10, zwl_15, zwl_24, zwl_32, zwl_33, zwl_40, zwl_41, zwl_42, zwl_43, zwl_45, zwl_47, zwl_48, zwl_52, zwl_56, zwl_57, zwl_59, zwl_60, zwl_61, zwl_63, zwl_64, zwl_66, zwl_67, zwl_68, zwl_70, zwl_75, zwl_77, zwl_80, zwl_82, zwl_84, zwl_88, zwl_89, zwl_97, zwl_104, zwl_110, zwl_112, zwl_114, zwl_118, zwl_123, zwl_125, zwl_126, zwl_159, zwl_160, zwl_200, zwl_255, zwl_480, zwl_960, zwl_3000, zs_kli, zs_klq, zs_kln, zs_wn, zs_wi, zs_wl, zs_wq, ↓zs_ok10, ↓zs_ok11, Option.toList_some, Option.toList_none, List.cons_append, List.nil_append, ↓reduceIte, Nat.reduceAdd, Nat.reduceLeDiff, true_and, and_true, Int.reduceEq, Int.reduceLT, Int.reduceLE, Int.reduceAdd, Int.reduceSub, Int.reduceMul, Int.reduceNeg, Nat.reduceEqDiff, Nat.reduceLT, Nat.reduceBEq, zsI_c, zsI_k, zsI_s, zsR_c, zsR_k, zsR_s, q]
          exact h I' g1 g2 (w4 rfl)
      · refine mh_dry (d := d + 10) (T := T) hK ht (by omega) (by omega) hw0 h5 h6 rfl (by omega) ?_ (h.2 rfl I uw FrM.rfl hM)
        have := hM.2.2.2.1
        rw [this, hFi]
        show (F : Int) - ((0 : Nat) : Int) = F
        omega
  | succ n ih =>
    intro f hfn hfF
    by_cases hlt : f ≤ n
    · exact ih f hlt hfF
    · intro uw b q tv σ hS hf hb hq
      have hfe : f = n + 1 := by omega
      subst hfe
      have h80 := hP.1
      have hS1 := hS.1
      have hdep := (hP.2.2.2.2.2.2.1 b hb).dep
      obtain ⟨V, O, oc, f', mu⟩ := σ
      have hf' : f' = n + 1 := hf
      subst hf'
      rcases hq with rfl | ⟨s, rfl, hs, hsb⟩
      · refine ⟨(0, 0, 0, (V, O, oc, n + 1, mu)), ⟨by show (0 : Nat) ≤ 5; omega, Nat.le_refl _, fun q => absurd (show (0 : Nat) = 5 from q) (by decide), hS.2.1, hS.2.2, w4 rfl⟩, fun d I K tvc hd hR hC htv h => ?_, fun d I Q T hR hM ht h5 h6 hw0 hT hTb h => ?_⟩
        · rw [rf_n (by decide), zh_59_14]
          simp only [zh_59_0, zh_59_3, zh_59_4, zh_59_5n, zh_59_5, zh_59_8, zh_59_9, zh_59_12, zh_59_16n, zh_59_16, zh_59_19, zh_59_20, zh_59_23, zh_59_23n, zh_59_23l, zh_59_23r, zh_59_26, zh_59_27, zh_59_29, zh_59_30, zh_59_33, zh_59_34, zh_59_36, zh_59_39, zh_59_41, zh_59_44, zh_59_45, zwl_m1, zwl_0, zwl_1, zwl_2, zwl_3, zwl_4, zwl_5, zwl_6, zwl_7, zwl_8, zwl_10, zwl_15, zwl_24, zwl_32, zwl_33, zwl_40, zwl_41, zwl_42, zwl_43, zwl_45, zwl_47, zwl_48, zwl_52, zwl_56, zwl_57, zwl_59, zwl_60, zwl_61, zwl_63, zwl_64, zwl_66, zwl_67, zwl_68, zwl_70, zwl_75, zwl_77, zwl_80, zwl_82, zwl_84, zwl_88, zwl_89, zwl_97, zwl_104, zwl_110, zwl_112, zwl_114, zwl_118, zwl_123, zwl_125, zwl_126, zwl_159, zwl_160, zwl_200, zwl_255, zwl_480, zwl_960, zwl_3000, zs_kli, zs_klq, zs_kln, zs_wn, zs_wi, zs_wl, zs_wq, ↓zs_ok10, ↓zs_ok11, Option.toList_some, Option.toList_none, List.cons_append, List.nil_append, ↓reduceIte, Nat.reduceAdd, Nat.reduceLeDiff, true_and, and_true, Int.reduceEq, Int.reduceLT, Int.reduceLE, Int.reduceAdd, Int.reduceSub, Int.reduceMul, Int.reduceNeg, Nat.reduceEqDiff, Nat.reduceLT, Nat.reduceBEq, zsI_c, zsI_k, zsI_s, zsR_c, zsR_k, zsR_s]
          exact h I FrC.rfl hC (w4 rfl)
        · refine mh_end (d := d + 10) (T := T) hK ht (by omega) (by omega) hw0 h5 h6 rfl ?_
          have e : ∀ c k, ¬ (c = 11 ∧ k = 41) → zsI I 11 0 41 (((T + 1 : Nat) : Int) - 1) c 0 k = I c 0 k := fun c k hc => zsI_n (by omega)
          exact h.1 (by show (0 : Nat) ≤ 4; omega) _ (FrM.rfl.set (by omega)) (FrT.rfl.set (by omega)) (hM.of (fun k => e _ _ (by omega)) (fun k => e _ _ (by omega)) (e _ _ (by omega)) (e _ _ (by omega)) (e _ _ (by omega)) (e _ _ (by omega))) (by rw [zsI_s]; omega) (by rw [e _ _ (by omega)]; exact hw0) (w4 rfl)
      · have hw := hP.2.2.2.2.2.1 s hs
        have hck := hCk s hs
        have hS0 : SOk uw (V, O, oc, n, mu) := hS
        have hall : ∀ f', f' ≤ n → RB P R al Fi F f' := fun f' h1 => ih f' h1 (by omega)
        have hRS : RS P R al Fi F n uw b s tv (V, O, oc, n, mu) := by
          have hX : P 34 s = 88 → P 102 b ≠ -1 := fun q => by have := hck.1 q; rw [hsb, Int.toNat_natCast] at this; exact this
          rcases hw.1 with k | k | k | k | k | k | k | k | k | k | k
          · exact rs_plain hK hP hs hsb hb hS0 rfl hX (by omega)
          · exact rs_plain hK hP hs hsb hb hS0 rfl hX (by omega)
          · exact rs_if hK hP (hall n (Nat.le_refl _)) hs hsb hb hS0 rfl k
          · exact rs_loop hK hP hFi hF (by omega) (fun f' h1 => hall f' (by omega)) hs hsb hb hS0 rfl k
          · exact rs_plain hK hP hs hsb hb hS0 rfl hX (by omega)
          · exact rs_plain hK hP hs hsb hb hS0 rfl hX (by omega)
          · exact rs_plain hK hP hs hsb hb hS0 rfl hX (by omega)
          · exact rs_plain hK hP hs hsb hb hS0 rfl hX (by omega)
          · exact rs_plain hK hP hs hsb hb hS0 rfl hX (by omega)
          · exact rs_call hK hP (hall n (Nat.le_refl _)) hs hsb hb hS0 rfl k (hck.2 k)
          · exact rs_try hK hP hall hs hsb hb hS0 rfl k
        obtain ⟨o1, ok1, cs1, ms1⟩ := hRS
        /- what comes behind the statement -/
        have hex : ∃ o, OOk (n + 1) o ∧ (∀ (d : Nat) (I' : zMI) (K : Option zV → zS → Prop) (tvc : Int), Dn P uw b ≤ d → CRep I' R P → CRun I' uw o1.2.2.2 → (o1.1 = 4 → I' 10 0 7 = o1.2.1 ∧ zw (I' 10 0 8) = o1.2.2.1) → zw tvc = tv → CK R al K I' uw o → Zgo d 59 14 [some (zq (some (10, 0))), some (zq (some (3, b))), some (zi tvc), some (zq (some (90, o1.1))), some (zq (rf 4 (P 43 s)))] [] (I', R, al) K) ∧
            (∀ (d : Nat) (I : zMI) (Q : Option zV → zS → Prop) (T : Nat), MRep I P → I 56 0 T = 0 → I 57 0 T = P 43 s → Took I P b tv T → T + 1 ≤ 9 * uw + 2 * (P 100 b).toNat → MK (d + 19) R al Q Fi F I T uw o → MK (d + 19) R al Q Fi F I (T + 1) uw o1) := by
          obtain ⟨w, t, rv, σ1⟩ := o1
          obtain ⟨a1, a2, a3, a4, a5, a6⟩ := ok1
          have a1' : w ≤ 5 := a1
          have a2' : σ1.2.2.2.1 ≤ n := a2
          by_cases q0 : w = 0
          · subst q0
            have hq' : P 43 s = -1 ∨ ∃ x : Nat, P 43 s = (x : Int) ∧ x < nS P ∧ P 42 x = (b : Int) := by
              rcases hw.2.2.1 with z | ⟨x, z1, z2, z3, _⟩
              · exact Or.inl z
              · exact Or.inr ⟨x, z1, z2, z3.trans hsb⟩
            obtain ⟨o2, ok2, cb2, mb2⟩ := hall σ1.2.2.2.1 a2' uw b (P 43 s) tv σ1 ⟨hS1, a4, a5⟩ rfl hb hq'
            refine ⟨o2, ⟨ok2.1, by have := ok2.2.1; omega, ok2.2.2.1, ok2.2.2.2.1, ok2.2.2.2.2.1, ok2.2.2.2.2.2⟩, fun d I' K tvc hd hR hC _ htv h => cb2 d I' K tvc hd hR hC htv h, fun d I Q T hR h5 h6 hT hTb h => ⟨fun _ I' j1 j2 j3 j4 j5 j6 => ?_, fun q => absurd (show (0 : Nat) = 5 from q) (by decide)⟩⟩
            exact mb2 d I' Q T (hR.fr j1) j3 j4 (by rw [j2 _ _ (by decide) (by decide) (by omega)]; exact h5) (by rw [j2 _ _ (by decide) (by decide) (by omega)]; exact h6) j5 (hT.fr (j2.le (by omega))) hTb (h.fr j1 (j2.le (by omega)))
          · refine ⟨(w, t, rv, σ1), ⟨a1, by show σ1.2.2.2.1 ≤ n + 1; omega, a3, a4, a5, a6⟩, fun d I' K tvc hd hR hC h47 htv h => ?_, fun d I Q T hR h5 h6 hT hTb h => ⟨fun hw4 I' j1 j2 j3 j4 j5 j6 => ?_, fun q I' uw' j1 j2 => h.2 q I' uw' j1 j2⟩⟩
            · rw [zh_59_14]
              rcases rf_c (c := 4) (x := P 43 s) with q | ⟨x, q⟩
              · simp only [zh_59_0, zh_59_3, zh_59_4, zh_59_5n, zh_59_5, zh_59_8, zh_59_9, zh_59_12, zh_59_16n, zh_59_16, zh_59_19, zh_59_20, zh_59_23, zh_59_23n, zh_59_23l, zh_59_23r, zh_59_26, zh_59_27, zh_59_29, zh_59_30, zh_59_33, zh_59_34, zh_59_36, zh_59_39, zh_59_41, zh_59_44, zh_59_45, zwl_m1, zwl_0, zwl_1, zwl_2, zwl_3, zwl_4, zwl_5, zwl_6, zwl_7, zwl_8, zwl_10, zwl_15, zwl_24, zwl_32, zwl_33, zwl_40, zwl_41, zwl_42, zwl_43, zwl_45, zwl_47, zwl_48, zwl_52, zwl_56, zwl_57, zwl_59, zwl_60, zwl_61, zwl_63, zwl_64, zwl_66, zwl_67, zwl_68, zwl_70, zwl_75, zwl_77, zwl_80, zwl_82, zwl_84, zwl_88, zwl_89, zwl_97, zwl_104, zwl_110, zwl_112, zwl_114, zwl_118, zwl_123, zwl_125, zwl_126, zwl_159, zwl_160, zwl_200, zwl_255, zwl_480, zwl_960, zwl_3000, zs_kli, zs_klq, zs_kln, zs_wn, zs_wi, zs_wl, zs_wq, ↓zs_ok10, ↓zs_ok11, Option.toList_some, Option.toList_none, List.cons_append, List.nil_append, ↓reduceIte, Nat.reduceAdd, Nat.reduceLeDiff, true_and, and_true, Int.reduceEq, Int.reduceLT, Int.reduceLE, Int.reduceAdd, Int.reduceSub, Int.reduceMul, Int.reduceNeg, Nat.reduceEqDiff, Nat.reduceLT, Nat.reduceBEq, zsI_c, zsI_k, zsI_s, zsR_c, zsR_k, zsR_s, q]
                exact h I' FrC.rfl hC h47
              · simp only [zh_59_0, zh_59_3, zh_59_4, zh_59_5n, zh_59_5, zh_59_8, zh_59_9, zh_59_12, zh_59_16n, zh_59_16, zh_59_19, zh_59_20, zh_59_23, zh_59_23n, zh_59_23l, zh_59_23r, zh_59_26, zh_59_27, zh_59_29, zh_59_30, zh_59_33, zh_59_34, zh_59_36, zh_59_39, zh_59_41, zh_59_44, zh_59_45, zwl_m1, zwl_0, zwl_1, zwl_2, zwl_3, zwl_4, zwl_5, zwl_6, zwl_7, zwl_8, zwl_10, zwl_15, zwl_24, zwl_32, zwl_33, zwl_40, zwl_41, zwl_42, zwl_43, zwl_45, zwl_47, zwl_48, zwl_52, zwl_56, zwl_57, zwl_59, zwl_60, zwl_61, zwl_63, zwl_64, zwl_66, zwl_67, zwl_68, zwl_70, zwl_75, zwl_77, zwl_80, zwl_82, zwl_84, zwl_88, zwl_89, zwl_97, zwl_104, zwl_110, zwl_112, zwl_114, zwl_118, zwl_123, zwl_125, zwl_126, zwl_159, zwl_160, zwl_200, zwl_255, zwl_480, zwl_960, zwl_3000, zs_kli, zs_klq, zs_kln, zs_wn, zs_wi, zs_wl, zs_wq, ↓zs_ok10, ↓zs_ok11, Option.toList_some, Option.toList_none, List.cons_append, List.nil_append, ↓reduceIte, Nat.reduceAdd, Nat.reduceLeDiff, true_and, and_true, Int.reduceEq, Int.reduceLT, Int.reduceLE, Int.reduceAdd, Int.reduceSub, Int.reduceMul, Int.reduceNeg, Nat.reduceEqDiff, Nat.reduceLT, Nat.reduceBEq, zsI_c, zsI_k, zsI_s, zsR_c, zsR_k, zsR_s, q, q0]
                exact h I' FrC.rfl hC h47
            · have hw4' : w ≤ 4 := hw4
              have j5' : I' 11 0 50 = (w : Int) := j5
              refine ml_block (d := d + 10) (T := T) hK j4 (by omega) (by omega) j5' (by rw [zw_i (by omega) (by omega)]; omega) (by rw [j2 _ _ (by decide) (by decide) (by omega)]; exact h5) ?_
              have e : ∀ c k, ¬ (c = 11 ∧ k = 41) → zsI I' 11 0 41 (((T + 1 : Nat) : Int) - 1) c 0 k = I' c 0 k := fun c k hc => zsI_n (by omega)
              exact h.1 hw4' _ (j1.set (by omega)) ((j2.le (by omega)).set (by omega)) (j3.of (fun k => e _ _ (by omega)) (fun k => e _ _ (by omega)) (e _ _ (by omega)) (e _ _ (by omega)) (e _ _ (by omega)) (e _ _ (by omega))) (by rw [zsI_s]; omega) (by rw [e _ _ (by omega)]; exact j5) (fun q => by rw [e _ _ (by omega), e _ _ (by omega)]; exact j6 q)
        obtain ⟨o, ok, hc, hm⟩ := hex
        refine ⟨o, ok, fun d I K tvc hd hR hC htv h => ?_, fun d I Q T hR hM ht h5 h6 hw0 hT hTb h => ?_⟩
        · obtain ⟨e, rfl⟩ : ∃ e, d = e + 1 := ⟨d - 1, by unfold Dn at hd; omega⟩
          rw [rf_s (by omega), Int.toNat_natCast, zh_59_14]
          simp only [zh_59_0, zh_59_3, zh_59_4, zh_59_5n, zh_59_5, zh_59_8, zh_59_9, zh_59_12, zh_59_16n, zh_59_16, zh_59_19, zh_59_20, zh_59_23, zh_59_23n, zh_59_23l, zh_59_23r, zh_59_26, zh_59_27, zh_59_29, zh_59_30, zh_59_33, zh_59_34, zh_59_36, zh_59_39, zh_59_41, zh_59_44, zh_59_45, zwl_m1, zwl_0, zwl_1, zwl_2, zwl_3, zwl_4, zwl_5, zwl_6, zwl_7, zwl_8, zwl_10, zwl_15, zwl_24, zwl_32, zwl_33, zwl_40, zwl_41, zwl_42, zwl_43, zwl_45, zwl_47, zwl_48, zwl_52, zwl_56, zwl_57, zwl_59, zwl_60, zwl_61, zwl_63, zwl_64, zwl_66, zwl_67, zwl_68, zwl_70, zwl_75, zwl_77, zwl_80, zwl_82, zwl_84, zwl_88, zwl_89, zwl_97, zwl_104, zwl_110, zwl_112, zwl_114, zwl_118, zwl_123, zwl_125, zwl_126, zwl_159, zwl_160, zwl_200, zwl_255, zwl_480, zwl_960, zwl_3000, zs_kli, zs_klq, zs_kln, zs_wn, zs_wi, zs_wl, zs_wq, ↓zs_ok10, ↓zs_ok11, Option.toList_some, Option.toList_none, List.cons_append, List.nil_append, ↓reduceIte, Nat.reduceAdd, Nat.reduceLeDiff, true_and, and_true, Int.reduceEq, Int.reduceLT, Int.reduceLE, Int.reduceAdd, Int.reduceSub, Int.reduceMul, Int.reduceNeg, Nat.reduceEqDiff, Nat.reduceLT, Nat.reduceBEq, zsI_c, zsI_k, zsI_s, zsR_c, zsR_k, zsR_s]
          refine cs_pay hR hs (by omega) hC (fun I1 f1 r1 => ?_)
          refine cs1 e I1 _ tvc hd (hR.fr f1) r1 htv (fun I' g1 g2 g3 => ?_)
          have h6 := (((hR.fr f1).fr g1).2.1 s hs).1.2.2.1
          simp only [zh_59_0, zh_59_3, zh_59_4, zh_59_5n, zh_59_5, zh_59_8, zh_59_9, zh_59_12, zh_59_16n, zh_59_16, zh_59_19, zh_59_20, zh_59_23, zh_59_23n, zh_59_23l, zh_59_23r, zh_59_26, zh_59_27, zh_59_29, zh_59_30, zh_59_33, zh_59_34, zh_59_36, zh_59_39, zh_59_41, zh_59_44, zh_59_45, zwl_m1, zwl_0, zwl_1, zwl_2, zwl_3, zwl_4, zwl_5, zwl_6, zwl_7, zwl_8, zwl_10, zwl_15, zwl_24, zwl_32, zwl_33, zwl_40, zwl_41, zwl_42, zwl_43, zwl_45, zwl_47, zwl_48, zwl_52, zwl_56, zwl_57, zwl_59, zwl_60, zwl_61, zwl_63, zwl_64, zwl_66, zwl_67, zwl_68, zwl_70, zwl_75, zwl_77, zwl_80, zwl_82, zwl_84, zwl_88, zwl_89, zwl_97, zwl_104, zwl_110, zwl_112, zwl_114, zwl_118, zwl_123, zwl_125, zwl_126, zwl_159, zwl_160, zwl_200, zwl_255, zwl_480, zwl_960, zwl_3000, zs_kli, zs_klq, zs_kln, zs_wn, zs_wi, zs_wl, zs_wq, ↓zs_ok10, ↓zs_ok11, Option.toList_some, Option.toList_none, List.cons_append, List.nil_append, ↓reduceIte, Nat.reduceAdd, Nat.reduceLeDiff, true_and, and_true, Int.reduceEq, Int.reduceLT, Int.reduceLE, Int.reduceAdd, Int.reduceSub, Int.reduceMul, Int.reduceNeg, Nat.reduceEqDiff, Nat.reduceLT, Nat.reduceBEq, zsI_c, zsI_k, zsI_s, zsR_c, zsR_k, zsR_s, h6]
          exact hc (e + 1) I' K tvc hd ((hR.fr f1).fr g1) g2 g3 htv (h.fr (f1.tr g1))
        · have hu : I 11 0 37 = (F : Int) - ((n + 1 : Nat) : Int) := hM.2.2.2.1
          refine mh_stm (d := d) (s := s) (T := T) hK hR ht (by omega) (by omega) hw0 h5 h6 rfl (by omega) hu (by rw [hFi, zw_i (by omega) (by omega), zw_i (by omega) (by omega)]; omega) (fun K' hK' => ?_)
          generalize hI0 : zsI (zsI I 11 0 37 ((F : Int) - ((n + 1 : Nat) : Int) + 1)) 57 0 T (P 43 s) = I0
          have e : ∀ c k, ¬ (c = 11 ∧ k = 37) → ¬ (c = 57 ∧ k = T) → I0 c 0 k = I c 0 k := fun c k h1 h2 => by rw [← hI0, zsI_n (by omega), zsI_n (by omega)]
          have f1 : FrM I I0 := by rw [← hI0]; exact (FrM.rfl.set (by omega)).set (by omega)
          have f2 : FrT I I0 T := by rw [← hI0]; exact (FrT.rfl.set (by omega)).set (by omega)
          obtain ⟨r1, r2, r3, r4, r5, r6⟩ := hM
          have hM0 : MRun I0 uw F (V, O, oc, n, mu) := ⟨fun k hk => by rw [e _ _ (by omega) (by omega)]; exact r1 k hk, fun k hk => by rw [e _ _ (by omega) (by omega)]; exact r2 k hk, by rw [e _ _ (by omega) (by omega)]; exact r3, by rw [← hI0, zsI_ne (by omega), zsI_s]; show _ = (F : Int) - (n : Int); omega, by rw [e _ _ (by omega) (by omega)]; exact r5, by rw [e _ _ (by omega) (by omega)]; exact r6⟩
          have h50 : I0 56 0 T = 0 := by rw [e _ _ (by omega) (by omega)]; exact h5
          have h60 : I0 57 0 T = P 43 s := by rw [← hI0, zsI_s]
          exact ms1 d I0 Q K' T (hR.fr f1) hM0 (by rw [e _ _ (by omega) (by omega)]; exact ht) h50 (by rw [e _ _ (by omega) (by omega)]; exact hw0) (hT.fr f2) hTb hK' (hm d I0 Q T (hR.fr f1) h50 h60 (hT.fr f2) hTb (h.fr f1 f2))
end
