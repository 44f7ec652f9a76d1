/-! class and reference: choices and loops -/
theorem kid_ok {P : Nat → Nat → Int} (hP : PWf P) {s b j : Nat} (hs : s < nS P) (hb : P 42 s = (b : Int)) (hk : Kid P s j) : ∃ c : Nat, P 38 (6 * s + j) = (c : Int) ∧ c < nB P ∧ P 100 c = P 100 b + 1 ∧ P 100 c ≤ 4 ∧ 1 ≤ P 100 b ∧ (¬ (P 34 s = 89 ∧ 2 ≤ j ∧ j ≤ 4) → ar P c = ar P b ∧ P 102 c = P 102 b) ∧ (P 34 s = 89 ∧ 2 ≤ j ∧ j ≤ 4 → ar P c = (c : Int) ∧ P 102 c = P 39 (3 * s + j - 2)) ∧ P 47 c = (s : Int) ∧ (P 45 c = -1 ∨ ∃ q : Nat, P 45 c = (q : Int) ∧ q < nS P ∧ P 42 q = (c : Int)) := by
  obtain ⟨c, c1, c2, c3, c4⟩ := hk
  have hw := hP.2.2.2.2.2.2.1 c c2
  rcases hw.2 with ⟨z, _⟩ | ⟨o, h, q1, q0, q2, q3, q4, q5, q6, q7, q8, q9, q10, q11, q12, q13⟩
  · omega
  · have e1 : o = s := by omega
    subst e1
    have e2 : h = b := by omega
    subst e2
    refine ⟨c, c1, c2, q8, q9, q10, fun hn => ?_, fun hn => ?_, c3, hw.1⟩
    · have hn' : ¬ (P 34 o = 89 ∧ 2 ≤ P 48 c ∧ P 48 c ≤ 4) := by omega
      rw [if_neg hn'] at q12
      exact ⟨ar_in hw c3 hb hn', q12⟩
    · have hn' : P 34 o = 89 ∧ 2 ≤ P 48 c ∧ P 48 c ≤ 4 := by omega
      rw [if_pos hn', c4, Int.toNat_natCast] at q12
      exact ⟨ar_at hw c3 hn', q12⟩
theorem Took.kid {I : zMI} {P : Nat → Nat → Int} {b c : Nat} {tv : Int} {T : Nat} (h : Took I P b tv T) (h1 : ar P c = ar P b) (h2 : P 102 c = P 102 b) : Took I P c tv T := by
  unfold Took
  rw [h1, h2]
  exact h
section
variable {P : Nat → Nat → Int} {R : zMR} {al : zA} {Fi : Int} {F f uw b s d : Nat} {tv tvc : Int} {σ : Rs} {o : Oc} {I : zMI} {K Q : Option zV → zS → Prop}
theorem cb_enter (hR : CRep I R P) (hb : b < nB P) (h : CB P R al uw b (P 45 b) tv σ o) (hd : Dn P uw b ≤ d) (hC : CRun I uw σ) (htv : zw tvc = tv) (hk : CK R al K I uw o) : zCp (d + 1) 59 [zq (some (10, 0)), zq (some (3, b)), zi tvc] (I, R, al) K := by
  have h1 := (hR.2.2.1 b hb).1
  rw [zcp_59]
  simp only [zh_59_0, zh_59_3, zh_59_4, zh_59_5n, zh_59_5, zh_59_8, zh_59_9, zh_59_12, zh_59_16n, zh_59_16, zh_59_19, zh_59_20, zh_59_23, zh_59_23n, zh_59_23l, zh_59_23r, zh_59_26, zh_59_27, zh_59_29, zh_59_30, zh_59_33, zh_59_34, zh_59_36, zh_59_39, zh_59_41, zh_59_44, zh_59_45, zwl_m1, zwl_0, zwl_1, zwl_2, zwl_3, zwl_4, zwl_5, zwl_6, zwl_7, zwl_8, zwl_10, zwl_15, zwl_24, zwl_32, zwl_33, zwl_40, zwl_41, zwl_42, zwl_43, zwl_45, zwl_47, zwl_48, zwl_52, zwl_56, zwl_57, zwl_59, zwl_60, zwl_61, zwl_63, zwl_64, zwl_66, zwl_67, zwl_68, zwl_70, zwl_75, zwl_77, zwl_80, zwl_82, zwl_84, zwl_88, zwl_89, zwl_97, zwl_104, zwl_110, zwl_112, zwl_114, zwl_118, zwl_123, zwl_125, zwl_126, zwl_159, zwl_160, zwl_200, zwl_255, zwl_480, zwl_960, zwl_3000, zs_kli, zs_klq, zs_kln, zs_wn, zs_wi, zs_wl, zs_wq, ↓zs_ok10, ↓zs_ok11, Option.toList_some, Option.toList_none, List.cons_append, List.nil_append, ↓reduceIte, Nat.reduceAdd, Nat.reduceLeDiff, true_and, and_true, Int.reduceEq, Int.reduceLT, Int.reduceLE, Int.reduceAdd, Int.reduceSub, Int.reduceMul, Int.reduceNeg, Nat.reduceEqDiff, Nat.reduceLT, Nat.reduceBEq, zsI_c, zsI_k, zsI_s, zsR_c, zsR_k, zsR_s, h1]
  exact h d I K tvc hd hR hC htv hk
/-- the reference goes on in a block that was pushed -/
theorem mb_enter {I0 : zMI} {T : Nat} (hR : MRep I0 P) (hM : MRun I0 uw F σ) (hw : I0 11 0 50 = 0) (hp : Pushed I0 I T 0 (P 45 b)) (hT : Took I0 P b tv T) (hTb : T + 1 ≤ 9 * uw + 2 * (P 100 b).toNat) (h : MBk P R al Fi F uw b (P 45 b) tv σ o) (hk : MK (d + 19) R al Q Fi F I0 T uw o) : MH (d + 19) R al Q Fi 1 I :=
  h d I Q T (hR.fr hp.1.frm) (hp.1.run hM) hp.2.1 hp.2.2.1 hp.2.2.2.1 (by rw [hp.1 _ _ _ (by omega) (by omega)]; exact hw) (hT.fr hp.1.frt) hTb (hk.fr hp.1.frm hp.1.frt)
theorem rs_if (hK : Kon R) (hP : PWf P) (hB : RB P R al Fi F f) (hs : s < nS P) (hb : P 42 s = (b : Int)) (hbn : b < nB P) (hS : SOk uw σ) (hf : σ.2.2.2.1 = f) (hk : P 34 s = 63) : RS P R al Fi F f uw b s tv σ := by
  have hS1 := hS.1
  have hw := hP.2.2.2.2.2.1 s hs
  have h80 := hP.1
  have h81 := hP.2.1
  obtain ⟨x1, x2⟩ := hw.2.2.2.1 (Or.inr (Or.inr (Or.inl hk)))
  have k0 := kid_ok hP hs hb (hw.2.2.2.2.2.2.2.2.1 (Or.inl hk))
  have k1 := kid_ok hP hs hb (hw.2.2.2.2.2.2.2.2.2.1 hk)
  have hbs : ∀ j, j < 2 → ∃ c : Nat, P 38 (6 * s + j) = (c : Int) ∧ c < nB P ∧ P 100 c = P 100 b + 1 ∧ P 100 c ≤ 4 ∧ ar P c = ar P b ∧ P 102 c = P 102 b ∧ (P 45 c = -1 ∨ ∃ q : Nat, P 45 c = (q : Int) ∧ q < nS P ∧ P 42 q = (c : Int)) := fun j hj => by
    have hj' : j = 0 ∨ j = 1 := by omega
    rcases hj' with rfl | rfl
    · obtain ⟨c, c1, c2, c3, c4, c5, c6, _, _, c7⟩ := k0
      exact ⟨c, c1, c2, c3, c4, (c6 (by omega)).1, (c6 (by omega)).2, c7⟩
    · obtain ⟨c, c1, c2, c3, c4, c5, c6, _, _, c7⟩ := k1
      exact ⟨c, c1, c2, c3, c4, (c6 (by omega)).1, (c6 (by omega)).2, c7⟩
  have hdep := (hP.2.2.2.2.2.2.1 b hbn).dep
  cases hx : xv P σ.1 s with
  | none =>
    refine ⟨(4, 5, 0, σ), ⟨by show (4 : Nat) ≤ 5; omega, by show σ.2.2.2.1 ≤ f; omega, fun q => absurd (show (4 : Nat) = 5 from q) (by decide), hS.2.1, hS.2.2, fun _ => ⟨by show (0 : Int) ≤ 5; omega, by show (5 : Int) ≤ 7; omega⟩⟩, fun d I K tvc hd hR hC htv h => ?_, fun d I Q K T hR hM ht h5 hw0 hT hTb hq h => ?_⟩
    · obtain ⟨e, rfl⟩ : ∃ e, d = e + 9 := ⟨d - 9, by unfold Dn at hd; omega⟩
      exact cs_if hR hs hk x1 x2 hC (fun j hj => by obtain ⟨c, c1, _⟩ := hbs j hj; exact ⟨c, c1⟩) (fun _ => h) (fun v hv => by rw [hx] at hv; cases hv)
    · exact ms_if (d := d + 9) hK hR rfl (by omega) hk x1 hM ht (by omega) hw0 (fun _ => h.mx (by show (4 : Nat) ≤ 4; omega) hq) (fun j hj => by obtain ⟨c, c1, c2, _⟩ := hbs j hj; exact ⟨c, c1, by omega⟩) (fun v hv => by rw [hx] at hv; cases hv)
  | some v =>
    obtain ⟨c, c1, c2, c3, c4, c5, c6, c7⟩ := hbs (if v = 0 then 1 else 0) (by split <;> omega)
    obtain ⟨o, ok, cb, mb⟩ := hB uw c (P 45 c) tv σ hS hf c2 c7
    refine ⟨o, ok, fun d I K tvc hd hR hC htv h => ?_, fun d I Q K T hR hM ht h5 hw0 hT hTb hq h => ?_⟩
    · obtain ⟨e, rfl⟩ : ∃ e, d = e + 9 := ⟨d - 9, by unfold Dn at hd; omega⟩
      refine cs_if hR hs hk x1 x2 hC (fun j hj => by obtain ⟨c, c1, _⟩ := hbs j hj; exact ⟨c, c1⟩) (fun hn => by rw [hx] at hn; cases hn) (fun v' hv c' hc' I1 K' f1 r1 hk' => ?_)
      have ev : v' = v := Option.some.inj (hv.symm.trans hx)
      subst ev
      have ec : c' = c := by have := hc'.symm.trans c1; omega
      subst ec
      refine cb_enter (hR.fr f1) c2 cb (by unfold Dn at hd ⊢; omega) r1 htv (fun I' g1 g2 g3 => hk' _ _ (h I' (f1.tr g1) g2 g3))
    · refine ms_if (d := d + 9) hK hR rfl (by omega) hk x1 hM ht (by omega) hw0 (fun hn => by rw [hx] at hn; cases hn) (fun j hj => by obtain ⟨c, c1, c2, _⟩ := hbs j hj; exact ⟨c, c1, by omega⟩) (fun v' hv c' I1 I' hc' hfv hpu => hq I' ?_)
      have ev : v' = v := Option.some.inj (hv.symm.trans hx)
      subst ev
      have ec : c' = c := by have := hc'.symm.trans c1; omega
      subst ec
      refine mb_enter (tv := tv) (hR.fr hfv.frm) (hM.frv hfv) (by rw [hfv _ _ _ (by decide) (by omega)]; exact hw0) hpu ?_ (by omega) mb (h.fr hfv.frm hfv.frt)
      refine ((hT.up (fun _ => ?_)).fr hfv.frt).kid c5 c6
      rw [h5]
      exact fun q => absurd q.1 (by decide +kernel)
/-- a loop from its head on -/
def RL (P : Nat → Nat → Int) (R : zMR) (al : zA) (Fi : Int) (F f uw b s : Nat) (tv : Int) (σ : Rs) : Prop := ∃ o, OOk f o ∧
  (∀ (d : Nat) (I : zMI) (K : Option zV → zS → Prop) (tvc : Int) (l3 : Option zV), Dn P uw b ≤ d + 10 → CRep I R P → CRun I uw σ → zw tvc = tv → CK R al K I uw o → Zgo (d + 8) 67 0 [some (zq (some (10, 0))), some (zq (some (4, s))), some (zi tvc), l3] [] (I, R, al) K) ∧
  (∀ (d : Nat) (I : zMI) (Q : Option zV → zS → Prop) (T : Nat), MRep I P → MRun I uw F σ → I 11 0 41 = ((T + 1 : Nat) : Int) → I 56 0 T = 1 → I 57 0 T = (s : Int) → I 11 0 50 = 0 → Took I P b tv T → T + 1 ≤ 9 * uw + 2 * (P 100 b).toNat + 1 → MK (d + 19) R al Q Fi F I T uw o → MH (d + 19) R al Q Fi 1 I)
theorem rl (hK : Kon R) (hP : PWf P) (hFi : Fi = (F : Int)) (hF : F ≤ 3000) (n : Nat) : ∀ f, f ≤ n → f ≤ F → (∀ f', f' < f → RB P R al Fi F f') → ∀ (uw b s : Nat) (tv : Int) (σ : Rs), s < nS P → P 42 s = (b : Int) → b < nB P → SOk uw σ → σ.2.2.2.1 = f → P 34 s = 64 → RL P R al Fi F f uw b s tv σ := by
  induction n with
  | zero =>
    intro f hfn hfF hB uw b s tv σ hs hb hbn hS hf hk
    have h80 := hP.1
    have hdep := (hP.2.2.2.2.2.2.1 b hbn).dep
    obtain ⟨V, O, oc, f', mu⟩ := σ
    have hf' : f' = 0 := by have : f' = f := hf; omega
    subst hf'
    obtain ⟨hS1, hS2, hS3⟩ := hS
    refine ⟨(5, 0, 0, (V, O, oc, 0, mu)), ⟨by show (5 : Nat) ≤ 5; omega, Nat.zero_le _, fun _ => rfl, hS2, hS3, w4 rfl⟩, fun d I K tvc l3 hd hR hC htv h => cl_dry hC h, fun d I Q T hR hM ht h5 h6 hw0 hT hTb h => ?_⟩
    refine mh_ldry (d := d + 10) (T := T) hK ht (by omega) (by omega) hw0 h5 ?_ (h.2 rfl I uw FrM.rfl hM)
    have := hM.2.2.2.1
    rw [this, hFi]
    show (F : Int) - ((0 : Nat) : Int) = F
    omega
  | succ n ih =>
    intro f hfn hfF hB uw b s tv σ hs hb hbn hS hf hk
    have h80 := hP.1
    have h81 := hP.2.1
    have hdep := (hP.2.2.2.2.2.2.1 b hbn).dep
    have hw := hP.2.2.2.2.2.1 s hs
    obtain ⟨V, O, oc, f', mu⟩ := σ
    have hf' : f' = f := hf
    subst hf'
    cases f' with
    | zero => exact ih 0 (by omega) (by omega) hB uw b s tv _ hs hb hbn hS rfl hk
    | succ f0 =>
      obtain ⟨x1, x2⟩ := hw.2.2.2.1 (Or.inr (Or.inr (Or.inr (Or.inl hk))))
      obtain ⟨c, c1, c2, c3, c4, c5, c6, _, _, c7⟩ := kid_ok hP hs hb (hw.2.2.2.2.2.2.2.2.1 (Or.inr (Or.inl hk)))
      have c1' : P 38 (6 * s) = (c : Int) := c1
      obtain ⟨c8, c9⟩ := c6 (by omega)
      obtain ⟨hS1, hS2, hS3⟩ := hS
      have hS2' : oc ≤ 24 := hS2
      have hS3' : mu ≤ 8 := hS3
      have hpay : ∀ I T, MRun I uw F (V, O, oc, f0 + 1, mu) → I 11 0 37 = (F : Int) - ((f0 + 1 : Nat) : Int) ∧ MRun (zsI I 11 0 37 ((F : Int) - ((f0 + 1 : Nat) : Int) + 1)) uw F (V, O, oc, f0, mu) ∧ FrM I (zsI I 11 0 37 ((F : Int) - ((f0 + 1 : Nat) : Int) + 1)) ∧ FrT I (zsI I 11 0 37 ((F : Int) - ((f0 + 1 : Nat) : Int) + 1)) T := fun I T hM => by
        obtain ⟨g1, g2, g3, g4, g5, g6⟩ := hM
        have e : ∀ c k, ¬ (c = 11 ∧ k = 37) → zsI I 11 0 37 ((F : Int) - ((f0 + 1 : Nat) : Int) + 1) c 0 k = I c 0 k := fun c k hc => zsI_n (by omega)
        exact ⟨g4, ⟨fun k hk => by rw [e _ _ (by omega)]; exact g1 k hk, fun k hk => by rw [e _ _ (by omega)]; exact g2 k hk, by rw [e _ _ (by omega)]; exact g3, by rw [zsI_s]; show _ = (F : Int) - (f0 : Int); omega, by rw [e _ _ (by omega)]; exact g5, by rw [e _ _ (by omega)]; exact g6⟩, FrM.rfl.set (by omega), FrT.rfl.set (by omega)⟩
      have hne : ¬ zw ((F : Int) - ((f0 + 1 : Nat) : Int)) = zw Fi := by
        rw [hFi, zw_i (by omega) (by omega), zw_i (by omega) (by omega)]
        omega
      cases hx : xv P V s with
      | none =>
        refine ⟨(4, 5, 0, (V, O, oc, f0, mu)), ⟨by show (4 : Nat) ≤ 5; omega, by show f0 ≤ f0 + 1; omega, fun q => absurd (show (4 : Nat) = 5 from q) (by decide), hS2', hS3', fun _ => ⟨by show (0 : Int) ≤ 5; omega, by show (5 : Int) ≤ 7; omega⟩⟩, fun d I K tvc l3 hd hR hC htv h => ?_, fun d I Q T hR hM ht h5 h6 hw0 hT hTb h => ?_⟩
        · exact cl_step hR hs hk x1 x2 (by omega) c1' hC (fun _ => h) (fun q => by rw [hx] at q; cases q) (fun v q => by rw [hx] at q; cases q)
        · obtain ⟨p1, p2, p3, p4⟩ := hpay I T hM
          refine mh_loop (V := V) (t := ((T + 1 : Nat) : Int)) hK hR ht (by omega) (by omega) hw0 h5 h6 rfl (by omega) p1 hne x1 hM.1 c1' (by omega) (fun _ I1 hI1 => ?_) (fun q => by rw [hx] at q; cases q) (fun v q => by rw [hx] at q; cases q)
          have hM1 := p2.frv hI1
          have e : ∀ c k, ¬ (c = 11 ∧ (k = 50 ∨ k = 51 ∨ k = 52 ∨ k = 41)) → zsI (zsI (zsI (zsI I1 11 0 50 4) 11 0 51 5) 11 0 52 0) 11 0 41 (((T + 1 : Nat) : Int) - 1) c 0 k = I1 c 0 k := fun c k hc => by rw [zsI_n (by omega), zsI_n (by omega), zsI_n (by omega), zsI_n (by omega)]
          refine h.1 (by show (4 : Nat) ≤ 4; omega) _ (((((p3.tr hI1.frm).set (by omega)).set (by omega)).set (by omega)).set (by omega)) (((((p4.tr hI1.frt).set (by omega)).set (by omega)).set (by omega)).set (by omega)) (hM1.of (fun k => e _ _ (by omega)) (fun k => e _ _ (by omega)) (e _ _ (by omega)) (e _ _ (by omega)) (e _ _ (by omega)) (e _ _ (by omega))) (by rw [zsI_s]; omega) (by rw [zsI_ne (by omega), zsI_ne (by omega), zsI_ne (by omega), zsI_s]; rfl) (fun _ => ⟨by rw [zsI_ne (by omega), zsI_ne (by omega), zsI_s], by rw [zsI_ne (by omega), zsI_s]; rfl⟩)
      | some v =>
        by_cases hv0 : v = 0
        · subst hv0
          refine ⟨(0, 0, 0, (V, O, oc, f0, mu)), ⟨by show (0 : Nat) ≤ 5; omega, by show f0 ≤ f0 + 1; omega, fun q => absurd (show (0 : Nat) = 5 from q) (by decide), hS2', hS3', w4 rfl⟩, fun d I K tvc l3 hd hR hC htv h => ?_, fun d I Q T hR hM ht h5 h6 hw0 hT hTb h => ?_⟩
          · exact cl_step hR hs hk x1 x2 (by omega) c1' hC (fun q => by rw [hx] at q; cases q) (fun _ => h) (fun v q q0 => by rw [hx] at q; exact absurd (Option.some.inj q).symm q0)
          · obtain ⟨p1, p2, p3, p4⟩ := hpay I T hM
            refine mh_loop (V := V) (t := ((T + 1 : Nat) : Int)) hK hR ht (by omega) (by omega) hw0 h5 h6 rfl (by omega) p1 hne x1 hM.1 c1' (by omega) (fun q => by rw [hx] at q; cases q) (fun _ I1 hI1 => ?_) (fun v q q0 => by rw [hx] at q; exact absurd (Option.some.inj q).symm q0)
            have hM1 := p2.frv hI1
            have e : ∀ c k, ¬ (c = 11 ∧ k = 41) → zsI I1 11 0 41 (((T + 1 : Nat) : Int) - 1) c 0 k = I1 c 0 k := fun c k hc => zsI_n (by omega)
            refine h.1 (by show (0 : Nat) ≤ 4; omega) _ ((p3.tr hI1.frm).set (by omega)) ((p4.tr hI1.frt).set (by omega)) (hM1.of (fun k => e _ _ (by omega)) (fun k => e _ _ (by omega)) (e _ _ (by omega)) (e _ _ (by omega)) (e _ _ (by omega)) (e _ _ (by omega))) (by rw [zsI_s]; omega) (by rw [zsI_ne (by omega), hI1 _ _ _ (by decide) (by omega), zsI_ne (by omega)]; exact hw0) (w4 rfl)
        · obtain ⟨o1, ok1, cb1, mb1⟩ := hB f0 (by omega) uw c (P 45 c) tv (V, O, oc, f0, mu) ⟨hS1, hS2', hS3'⟩ rfl c2 c7
          have hex : ∃ o, OOk (f0 + 1) o ∧ (∀ (d : Nat) (I' : zMI) (K : Option zV → zS → Prop) (tvc : Int) , Dn P uw b ≤ d + 10 → CRep I' R P → CRun I' uw o1.2.2.2 → (o1.1 = 4 → I' 10 0 7 = o1.2.1 ∧ zw (I' 10 0 8) = o1.2.2.1) → zw tvc = tv → CK R al K I' uw o →
                (o1.1 = 1 → K (some (zq (some (90, 0)))) (I', R, al)) ∧ (o1.1 = 0 ∨ o1.1 = 2 → Zgo (d + 8) 67 0 [some (zq (some (10, 0))), some (zq (some (4, s))), some (zi tvc), some (zq (some (90, o1.1)))] [] (I', R, al) K) ∧ (o1.1 ≠ 0 ∧ o1.1 ≠ 1 ∧ o1.1 ≠ 2 → K (some (zq (some (90, o1.1)))) (I', R, al))) ∧
              (∀ (d : Nat) (I : zMI) (Q : Option zV → zS → Prop) (T : Nat), MRep I P → I 56 0 T = 1 → I 57 0 T = (s : Int) → Took I P b tv T → T + 1 ≤ 9 * uw + 2 * (P 100 b).toNat + 1 → MK (d + 19) R al Q Fi F I T uw o → MK (d + 19) R al Q Fi F I (T + 1) uw o1) := by
            obtain ⟨w, t, rv, σ1⟩ := o1
            obtain ⟨a1, a2, a3, a4, a5, a6⟩ := ok1
            have a1' : w ≤ 5 := a1
            have a2' : σ1.2.2.2.1 ≤ f0 := a2
            by_cases q1 : w = 1
            · subst q1
              refine ⟨(0, 0, 0, σ1), ⟨by show (0 : Nat) ≤ 5; omega, by show σ1.2.2.2.1 ≤ f0 + 1; omega, fun q => absurd (show (0 : Nat) = 5 from q) (by decide), a4, a5, w4 rfl⟩, fun d I' K tvc hd hR hC h47 htv h => ⟨fun _ => h I' FrC.rfl hC (w4 rfl), fun q => absurd (show (1 : Nat) = 0 ∨ (1 : Nat) = 2 from q) (by decide), fun q => absurd (show (1 : Nat) ≠ 1 from q.2.1) (by decide)⟩, fun d I Q T hR h5 h6 hT hTb h => ⟨fun _ I' j1 j2 j3 j4 j5 j6 => ?_, fun q => absurd (show (1 : Nat) = 5 from q) (by decide)⟩⟩
              refine ml_loop (d := d + 10) (wn := 1) (T := T) hK j4 (by omega) (by omega) j5 rfl (by omega) (by omega) (by rw [j2 _ _ (by decide) (by decide) (by omega)]; exact h5) ?_
              rw [if_neg (by decide), if_pos (Or.inr rfl)]
              have e : ∀ c k, ¬ (c = 11 ∧ (k = 41 ∨ k = 50)) → zsI (zsI I' 11 0 41 (((T + 1 : Nat) : Int) - 1)) 11 0 50 0 c 0 k = I' c 0 k := fun c k hc => by rw [zsI_n (by omega), zsI_n (by omega)]
              exact h.1 (by show (0 : Nat) ≤ 4; omega) _ ((j1.set (by omega)).set (by omega)) (((j2.le (by omega)).set (by omega)).set (by omega)) (j3.of (fun k => e _ _ (by omega)) (fun k => e _ _ (by omega)) (e _ _ (by omega)) (e _ _ (by omega)) (e _ _ (by omega)) (e _ _ (by omega))) (by rw [zsI_ne (by omega), zsI_s]; omega) (by rw [zsI_s]; rfl) (w4 rfl)
            · by_cases q2 : w = 0 ∨ w = 2
              · obtain ⟨o2, ok2, cl2, ml2⟩ := ih σ1.2.2.2.1 (by omega) (by omega) (fun f' hf' => hB f' (by omega)) uw b s tv σ1 hs hb hbn ⟨hS1, a4, a5⟩ rfl hk
                refine ⟨o2, ⟨ok2.1, by have := ok2.2.1; omega, ok2.2.2.1, ok2.2.2.2.1, ok2.2.2.2.2.1, ok2.2.2.2.2.2⟩, fun d I' K tvc hd hR hC h47 htv h => ⟨fun q => absurd q q1, fun _ => cl2 d I' K tvc _ hd hR hC htv h, fun q => absurd q2 (by have h1 : w ≠ 0 := q.1; have h2 : w ≠ 2 := q.2.2; omega)⟩, fun d I Q T hR h5 h6 hT hTb h => ⟨fun _ I' j1 j2 j3 j4 j5 j6 => ?_, fun q => absurd (show w = 5 from q) (by omega)⟩⟩
                have h5' : I' 56 0 T = 1 := by rw [j2 _ _ (by decide) (by decide) (by omega)]; exact h5
                have h6' : I' 57 0 T = (s : Int) := by rw [j2 _ _ (by decide) (by decide) (by omega)]; exact h6
                rcases q2 with q2 | q2
                · subst q2
                  exact ml2 d I' Q T (hR.fr j1) j3 j4 h5' h6' j5 (hT.fr (j2.le (by omega))) hTb (h.fr j1 (j2.le (by omega)))
                · subst q2
                  refine ml_loop (d := d + 10) (wn := 2) (T := T) hK j4 (by omega) (by omega) j5 rfl (by omega) (by omega) h5' ?_
                  rw [if_pos rfl, if_pos (Or.inl rfl)]
                  have e : ∀ c k, ¬ (c = 11 ∧ (k = 41 ∨ k = 50)) → zsI (zsI I' 11 0 41 ((T + 1 : Nat) : Int)) 11 0 50 0 c 0 k = I' c 0 k := fun c k hc => by rw [zsI_n (by omega), zsI_n (by omega)]
                  have f1 : FrM I (zsI (zsI I' 11 0 41 ((T + 1 : Nat) : Int)) 11 0 50 0) := (j1.set (by omega)).set (by omega)
                  have f2 : FrT I (zsI (zsI I' 11 0 41 ((T + 1 : Nat) : Int)) 11 0 50 0) T := ((j2.le (by omega)).set (by omega)).set (by omega)
                  exact ml2 d _ Q T (hR.fr f1) (j3.of (fun k => e _ _ (by omega)) (fun k => e _ _ (by omega)) (e _ _ (by omega)) (e _ _ (by omega)) (e _ _ (by omega)) (e _ _ (by omega))) (by rw [zsI_ne (by omega), zsI_s]) (by rw [e _ _ (by omega)]; exact h5') (by rw [e _ _ (by omega)]; exact h6') (by rw [zsI_s]) (hT.fr f2) hTb (h.fr f1 f2)
              · refine ⟨(w, t, rv, σ1), ⟨a1, by show σ1.2.2.2.1 ≤ f0 + 1; omega, a3, a4, a5, a6⟩, fun d I' K tvc hd hR hC h47 htv h => ⟨fun q => absurd q q1, fun q => absurd q q2, fun _ => h I' FrC.rfl hC h47⟩, fun d I Q T hR h5 h6 hT hTb h => ⟨fun hw4 I' j1 j2 j3 j4 j5 j6 => ?_, fun q I' uw' j1 j2 => h.2 q I' uw' j1 j2⟩⟩
                have hw4' : w ≤ 4 := hw4
                have j5' : I' 11 0 50 = (w : Int) := j5
                refine ml_loop (d := d + 10) (wn := w) (T := T) hK j4 (by omega) (by omega) j5' rfl (by omega) (by omega) (by rw [j2 _ _ (by decide) (by decide) (by omega)]; exact h5) ?_
                rw [if_neg (by omega), if_neg (by omega)]
                have e : ∀ c k, ¬ (c = 11 ∧ (k = 41 ∨ k = 50)) → zsI (zsI I' 11 0 41 (((T + 1 : Nat) : Int) - 1)) 11 0 50 (w : Int) c 0 k = I' c 0 k := fun c k hc => by rw [zsI_n (by omega), zsI_n (by omega)]
                exact h.1 hw4' _ ((j1.set (by omega)).set (by omega)) (((j2.le (by omega)).set (by omega)).set (by omega)) (j3.of (fun k => e _ _ (by omega)) (fun k => e _ _ (by omega)) (e _ _ (by omega)) (e _ _ (by omega)) (e _ _ (by omega)) (e _ _ (by omega))) (by rw [zsI_ne (by omega), zsI_s]; omega) (by rw [zsI_s]) (fun q => by rw [e _ _ (by omega), e _ _ (by omega)]; exact j6 q)
          obtain ⟨o, ok, hc, hm⟩ := hex
          refine ⟨o, ok, fun d I K tvc l3 hd hR hC htv h => ?_, fun d I Q T hR hM ht h5 h6 hw0 hT hTb h => ?_⟩
          · refine cl_step hR hs hk x1 x2 (by omega) c1' hC (fun q => by rw [hx] at q; cases q) (fun q => by rw [hx] at q; exact absurd (Option.some.inj q) hv0) (fun v' _ _ I1 K' f1 r1 hk' => ?_)
            refine cb_enter (hR.fr f1) c2 cb1 (by unfold Dn at hd ⊢; omega) r1 htv (fun I' g1 g2 g3 => ?_)
            obtain ⟨z1, z2, z3⟩ := hc d I' K tvc hd ((hR.fr f1).fr g1) g2 g3 htv (h.fr (f1.tr g1))
            exact hk' _ I' z1 z2 z3
          · obtain ⟨p1, p2, p3, p4⟩ := hpay I (T + 1) hM
            refine mh_loop (V := V) (t := ((T + 1 : Nat) : Int)) hK hR ht (by omega) (by omega) hw0 h5 h6 rfl (by omega) p1 hne x1 hM.1 c1' (by omega) (fun q => by rw [hx] at q; cases q) (fun q => by rw [hx] at q; exact absurd (Option.some.inj q) hv0) (fun v' _ _ I1 I' hI1 hpu => ?_)
            have f1 := p3.tr hI1.frm
            have f2 : FrT I I1 (T + 1) := p4.tr hI1.frt
            have h5' : I1 56 0 T = 1 := by rw [f2 _ _ (by decide) (by decide) (by omega)]; exact h5
            have h6' : I1 57 0 T = (s : Int) := by rw [f2 _ _ (by decide) (by decide) (by omega)]; exact h6
            have hT1 := hT.fr (f2.le (by omega : T ≤ T + 1))
            refine mb_enter (tv := tv) (hR.fr f1) (p2.frv hI1) (by rw [hI1 _ _ _ (by decide) (by omega), zsI_ne (by omega)]; exact hw0) hpu ((hT1.up (fun _ => ?_)).kid c8 c9) (by omega) mb1 (hm d I1 Q T (hR.fr f1) h5' h6' hT1 hTb (h.fr f1 (f2.le (by omega))))
            rw [h5']
            exact fun q => absurd q.1 (by decide +kernel)
theorem rs_loop (hK : Kon R) (hP : PWf P) (hFi : Fi = (F : Int)) (hF : F ≤ 3000) (hfF : f ≤ F) (hB : ∀ f', f' < f → RB P R al Fi F f') (hs : s < nS P) (hb : P 42 s = (b : Int)) (hbn : b < nB P) (hS : SOk uw σ) (hf : σ.2.2.2.1 = f) (hk : P 34 s = 64) : RS P R al Fi F f uw b s tv σ := by
  have h80 := hP.1
  have hdep := (hP.2.2.2.2.2.2.1 b hbn).dep
  obtain ⟨o, ok, cl, ml⟩ := rl hK hP hFi hF f f (Nat.le_refl _) hfF hB uw b s tv σ hs hb hbn hS hf hk
  have hS1 := hS.1
  refine ⟨o, ok, fun d I K tvc hd hR hC htv h => ?_, fun d I Q K T hR hM ht h5 hw0 hT hTb hq h => ?_⟩
  · obtain ⟨e, rfl⟩ : ∃ e, d = e + 9 := ⟨d - 9, by unfold Dn at hd; omega⟩
    exact cl_start hk (fun K' hk' => cl e I K' tvc _ (by omega) hR hC htv (fun I' g1 g2 g3 => hk' _ _ (h I' g1 g2 g3)))
  · refine ms_loop (d := d + 9) hK hR rfl (by omega) hk ht (by omega) hw0 (fun I' hp => hq I' (ml d I' Q (T + 1) (hR.fr hp.1.frm) (hp.1.run hM) hp.2.1 hp.2.2.1 hp.2.2.2.1 (by rw [hp.1 _ _ _ (by omega) (by omega)]; exact hw0) ((hT.up (fun _ => ?_)).fr hp.1.frt) (by omega) (h.fr hp.1.frm hp.1.frt)))
    rw [h5]
    exact fun q => absurd q.1 (by decide +kernel)
end
