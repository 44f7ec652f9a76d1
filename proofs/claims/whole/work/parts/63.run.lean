/-! class and reference: calls and tries -/
theorem rf_c {c : Nat} {x : Int} : rf c x = none ∨ ∃ b, rf c x = some (c, b) := by
  unfold rf
  split
  · exact Or.inl rfl
  · exact Or.inr ⟨_, rfl⟩
section
variable {P : Nat → Nat → Int} {R : zMR} {al : zA} {Fi : Int} {F f uw b s d : Nat} {tv tvc : Int} {σ : Rs} {o : Oc} {I : zMI} {K Q : Option zV → zS → Prop}
theorem rs_call (hK : Kon R) (hP : PWf P) (hB : RB P R al Fi F f) (hs : s < nS P) (hb : P 42 s = (b : Int)) (hbn : b < nB P) (hS : SOk uw σ) (hf : σ.2.2.2.1 = f) (hk : P 34 s = 80) (hL : ∃ p, pIx P (P 35 s) (nP P) = some p ∧ p < nP P) : RS P R al Fi F f uw b s tv σ := by
  have hS1 := hS.1
  have hw := hP.2.2.2.2.2.1 s hs
  have h80 := hP.1
  have h81 := hP.2.1
  have h83 := hP.2.2.2.1
  have hdep := (hP.2.2.2.2.2.2.1 b hbn).dep
  by_cases h8 : uw = 8
  · subst h8
    refine ⟨(4, 6, 0, σ), ⟨by show (4 : Nat) ≤ 5; omega, by show σ.2.2.2.1 ≤ f; omega, fun q => absurd (show (4 : Nat) = 5 from q) (by decide), hS.2.1, hS.2.2, fun _ => ⟨by show (0 : Int) ≤ 6; omega, by show (6 : Int) ≤ 7; omega⟩⟩, fun d I K tvc hd hR hC htv h => ?_, fun d I Q K T hR hM ht h5 hw0 hT hTb hq h => ?_⟩
    · obtain ⟨e, rfl⟩ : ∃ e, d = e + 9 := ⟨d - 9, by unfold Dn at hd; omega⟩
      exact cs_call8 hk hC h
    · exact ms_call8 (d := d + 9) hK hR rfl (by omega) hk hM ht hw0 (h.mx (by show (4 : Nat) ≤ 4; omega) hq)
  · obtain ⟨p, hp, hp1⟩ := hL
    obtain ⟨c, c1, c2, c3⟩ := hP.2.2.2.2.2.2.2.1 p (by omega)
    have hwc := hP.2.2.2.2.2.2.1 c c2
    have hdc : P 100 c = 1 := by
      rcases hwc.2 with ⟨_, z, _⟩ | ⟨o, h, z, _⟩
      · exact z
      · omega
    obtain ⟨o1, ok1, cb1, mb1⟩ := hB (uw + 1) c (P 45 c) 0 (σ.1, σ.2.1, σ.2.2.1, σ.2.2.2.1, max σ.2.2.2.2 (uw + 1)) ⟨by omega, hS.2.1, by have := hS.2.2; show max σ.2.2.2.2 (uw + 1) ≤ 8; omega⟩ hf c2 hwc.1
    obtain ⟨w, t, rv, σ1⟩ := o1
    obtain ⟨a1, a2, a3, a4, a5, a6⟩ := ok1
    have a1' : w ≤ 5 := a1
    refine ⟨(if w = 3 then 0 else w, t, rv, σ1), ⟨by show (if w = 3 then 0 else w) ≤ 5; split <;> omega, a2, fun q => a3 (by have q' : (if w = 3 then 0 else w) = 5 := q; show w = 5; split at q' <;> omega), a4, a5, fun q => a6 (by have q' : (if w = 3 then 0 else w) = 4 := q; show w = 4; split at q' <;> omega)⟩, fun d I K tvc hd hR hC htv h => ?_, fun d I Q K T hR hM ht h5 hw0 hT hTb hq h => ?_⟩
    · obtain ⟨e, rfl⟩ : ∃ e, d = e + 19 := ⟨d - 19, by unfold Dn at hd; omega⟩
      refine cs_call hR hs hk hp c1 (by omega) hS.2.2 hC (fun I1 K' f1 r1 hk' => ?_)
      refine cb_enter (hR.fr f1) c2 cb1 (by unfold Dn at hd ⊢; omega) r1 (by rfl) (fun I' g1 g2 g3 => hk' w I' σ1 g2 (fun I2 m1 m2 m3 m4 => ?_))
      refine h I2 (f1.tr (g1.tr m1)) m2 (fun q => ?_)
      have q' : (if w = 3 then 0 else w) = 4 := q
      rw [m3, m4]
      exact g3 (by show w = 4; split at q' <;> omega)
    · refine ms_call (d := d + 9) hK hR hP rfl (by omega) hk (hw.2.2.2.2.2.2.1 hk) hp (by omega) c1 (by omega) hM (by omega) hS.2.2 ht (by omega) hw0 (fun I0 I1 I' f1 f2 hM0 hw00 hp1 hp2 => hq I' ?_)
      have hR1 := (hR.fr f1).fr hp1.1.frm
      have fM := f1.tr hp1.1.frm
      have fT : FrT I I1 (T + 1) := (f2.le (by omega)).tr hp1.1.frt
      refine mb_enter (tv := 0) hR1 (hp1.1.run hM0) (by rw [hp1.1 _ _ _ (by omega) (by omega)]; exact hw00) hp2 (fun q => by rw [ar_root hwc c3] at q; omega) (by omega) mb1 ?_
      refine ⟨fun hw4 I2 j1 j2 j3 j4 j5 j6 => ?_, fun q I2 uw' j1 j2 => h.2 (by show (if w = 3 then 0 else w) = 5; have q' : w = 5 := q; rw [q']; rfl) I2 uw' (fM.tr j1) j2⟩
      have hw4' : w ≤ 4 := hw4
      have j5' : I2 11 0 50 = (w : Int) := j5
      have h56 : I2 56 0 (T + 1) = 2 := by rw [j2 _ _ (by decide) (by decide) (by omega)]; exact hp1.2.2.1
      have g5 : I2 11 0 53 = ((uw + 1 : Nat) : Int) := j3.2.2.2.2.1
      by_cases q0 : w = 0
      · subst q0
        refine mh_call (d := d + 10) (T := T + 1) hK j4 (by omega) (by omega) j5' h56 g5 ?_
        have e : ∀ c k, ¬ (c = 11 ∧ (k = 41 ∨ k = 53)) → zsI (zsI I2 11 0 53 (((uw + 1 : Nat) : Int) - 1)) 11 0 41 (((T + 1 + 1 : Nat) : Int) - 1) c 0 k = I2 c 0 k := fun c k hc => by rw [zsI_n (by omega), zsI_n (by omega)]
        obtain ⟨r1, r2, r3, r4, r5, r6⟩ := j3
        refine h.1 (by show (0 : Nat) ≤ 4; omega) _ (((fM.tr j1).set (by omega)).set (by omega)) (((fT.tr (j2.le (by omega))).set (by omega)).set (by omega)) ⟨fun k hk => by rw [e _ _ (by omega)]; exact r1 k hk, fun k hk => by rw [e _ _ (by omega)]; exact r2 k hk, by rw [e _ _ (by omega)]; exact r3, by rw [e _ _ (by omega)]; exact r4, by rw [zsI_ne (by omega), zsI_s]; omega, by rw [e _ _ (by omega)]; exact r6⟩ (by rw [zsI_s]; omega) (by rw [e _ _ (by omega)]; exact j5) (w4 rfl)
      · refine ml_call (d := d + 10) (T := T + 1) (wn := w) hK j4 (by omega) (by omega) j5' rfl (by omega) hw4' h56 g5 ?_
        have e : ∀ x c k, ¬ (c = 11 ∧ (k = 41 ∨ k = 53 ∨ k = 50)) → zsI (zsI (zsI I2 11 0 53 (((uw + 1 : Nat) : Int) - 1)) 11 0 41 (((T + 1 + 1 : Nat) : Int) - 1)) 11 0 50 x c 0 k = I2 c 0 k := fun x c k hc => by rw [zsI_n (by omega), zsI_n (by omega), zsI_n (by omega)]
        obtain ⟨r1, r2, r3, r4, r5, r6⟩ := j3
        refine h.1 (by show (if w = 3 then 0 else w) ≤ 4; split <;> omega) _ ((((fM.tr j1).set (by omega)).set (by omega)).set (by omega)) ((((fT.tr (j2.le (by omega))).set (by omega)).set (by omega)).set (by omega)) ⟨fun k hk => by rw [e _ _ _ (by omega)]; exact r1 k hk, fun k hk => by rw [e _ _ _ (by omega)]; exact r2 k hk, by rw [e _ _ _ (by omega)]; exact r3, by rw [e _ _ _ (by omega)]; exact r4, by rw [zsI_ne (by omega), zsI_ne (by omega), zsI_s]; omega, by rw [e _ _ _ (by omega)]; exact r6⟩ (by rw [zsI_ne (by omega), zsI_s]; omega) (by rw [zsI_s]; show (if w = 3 then 0 else (w : Int)) = ((if w = 3 then 0 else w : Nat) : Int); split <;> rfl) (fun q => ?_)
        have q' : (if w = 3 then 0 else w) = 4 := q
        rw [e _ _ _ (by omega), e _ _ _ (by omega)]
        exact j6 (by show w = 4; split at q' <;> omega)
/-- a try from where its last block is due -/
def RT (P : Nat → Nat → Int) (R : zMR) (al : zA) (Fi : Int) (F f uw b s : Nat) (tv : Int) (oL : Oc) : Prop := ∃ o, OOk f o ∧
  (∀ (d : Nat) (I : zMI) (K : Option zV → zS → Prop) (tvc : Int) (l4 : Option zV), Dn P uw b ≤ d + 20 → CRep I R P → CRun I uw oL.2.2.2 → (oL.1 = 4 → I 10 0 7 = oL.2.1 ∧ zw (I 10 0 8) = oL.2.2.1) → zw tvc = tv → CK R al K I uw o → Zgo (d + 18) 70 64 [some (zq (some (10, 0))), some (zq (some (4, s))), some (zi tvc), some (zq (some (90, oL.1))), l4] [] (I, R, al) K) ∧
  (oL.1 ≤ 4 → ∀ (d : Nat) (I : zMI) (Q : Option zV → zS → Prop) (T : Nat) (u : Int), MRep I P → MRun I uw F oL.2.2.2 → I 11 0 41 = ((T + 1 : Nat) : Int) → I 56 0 T = 3 → I 57 0 T = (s : Int) → I 58 0 T = u → (u = 1 ∨ (u = 0 ∧ (oL.1 = 4 → ct P s oL.2.1 (P 41 s).toNat = -1))) → I 11 0 50 = (oL.1 : Int) → (oL.1 = 4 → I 11 0 51 = oL.2.1 ∧ zw (I 11 0 52) = oL.2.2.1) → Took I P b tv T → T + 1 ≤ 9 * uw + 2 * (P 100 b).toNat + 1 → MK (d + 19) R al Q Fi F I T uw o → MH (d + 19) R al Q Fi 1 I) ∧
  (oL.1 = 5 → ∀ (d : Nat) (I : zMI) (Q : Option zV → zS → Prop) (T : Nat), MK (d + 19) R al Q Fi F I T uw o → ∀ I' uw', FrM I I' → MRun I' uw' F oL.2.2.2 → MH (d + 19) R al Q Fi 0 I')
/-- the frame of a try isn't the one of a catch around it -/
theorem try_ne (hP : PWf P) (hs : s < nS P) (hb : P 42 s = (b : Int)) (hbn : b < nB P) (h : 0 ≤ ar P b) : ¬ (zw (s : Int) = P 47 (ar P b).toNat) := by
  have h80 := hP.1
  rcases ar_ok hP _ b hbn rfl with ⟨g, _⟩ | ⟨g, o, g1, g2, g3, g4, g5, g6, g7, g8, g9⟩
  · omega
  · rw [g1, Int.toNat_natCast, g3, zw_i (by omega) (by omega)]
    obtain ⟨b', s1, s2, s3⟩ := (hP.2.2.2.2.2.1 s hs).2.1
    have : b' = b := by omega
    subst this
    omega
theorem rt (hK : Kon R) (hP : PWf P) (hB : ∀ f', f' ≤ f → RB P R al Fi F f') (hs : s < nS P) (hb : P 42 s = (b : Int)) (hbn : b < nB P) (huw : uw ≤ 8) (hk : P 34 s = 89) (oL : Oc) (hL : OOk f oL) : RT P R al Fi F f uw b s tv oL := by
  obtain ⟨w, t, rv, σ⟩ := oL
  obtain ⟨a1, a2, a3, a4, a5, a6⟩ := hL
  have a1' : w ≤ 5 := a1
  have a2' : σ.2.2.2.1 ≤ f := a2
  have hw := hP.2.2.2.2.2.1 s hs
  have h80 := hP.1
  have h81 := hP.2.1
  have hdep := (hP.2.2.2.2.2.2.1 b hbn).dep
  by_cases h5 : w = 5
  · subst h5
    refine ⟨(5, t, rv, σ), ⟨a1, a2, a3, a4, a5, a6⟩, fun d I K tvc l4 hd hR hC h47 htv h => ?_, fun q => absurd (show (5 : Nat) ≤ 4 from q) (by decide), fun _ d I Q T h I' uw' j1 j2 => h.2 rfl I' uw' j1 j2⟩
    have h8 := (hR.2.1 s hs).2.1.2.2.2.2.1 hk
    exact ct_last (d := d + 9) (fun _ => h I FrC.rfl hC h47) (fun q => absurd rfl q) (fun q => absurd rfl q) (by rw [h8]; exact rf_c)
  · rcases hw.2.2.2.2.2.2.2.1 5 (by decide) with hn | hkid
    · refine ⟨(w, t, rv, σ), ⟨a1, a2, a3, a4, a5, a6⟩, fun d I K tvc l4 hd hR hC h47 htv h => ?_, fun _ d I Q T u hR hM ht h56 h57 h58 hu hw0 h51 hT hTb h => ?_, fun q => absurd q h5⟩
      · have h8 := (hR.2.1 s hs).2.1.2.2.2.2.1 hk
        rw [hn, rf_n (by decide)] at h8
        exact ct_last (d := d + 9) (fun q => absurd q h5) (fun _ _ => h I FrC.rfl hC h47) (fun _ b q => by rw [h8] at q; cases q) (Or.inl h8)
      · have e : ∀ c k, ¬ (c = 11 ∧ k = 41) → zsI I 11 0 41 (((T + 1 : Nat) : Int) - 1) c 0 k = I c 0 k := fun c k hc => zsI_n (by omega)
        have hend : MH (d + 19) R al Q Fi 1 (zsI I 11 0 41 (((T + 1 : Nat) : Int) - 1)) := h.1 (by show w ≤ 4; omega) _ (FrM.rfl.set (by omega)) (FrT.rfl.set (by omega)) (hM.of (fun k => e _ _ (by omega)) (fun k => e _ _ (by omega)) (e _ _ (by omega)) (e _ _ (by omega)) (e _ _ (by omega)) (e _ _ (by omega))) (by rw [zsI_s]; omega) (by rw [e _ _ (by omega)]; exact hw0) (fun q => by rw [e _ _ (by omega), e _ _ (by omega)]; exact h51 q)
        by_cases q0 : w = 0
        · subst q0
          exact mh_try hK hR ht (by omega) (by omega) hw0 h56 h58 (by omega) h57 rfl (by omega) (fun _ => hend) (fun b q => by rw [hn] at q; omega) (Or.inl hn)
        · refine ml_tryF (wn := w) hK hR hw ht (by omega) (by omega) hw0 rfl (by omega) (by omega) h56 h58 ?_ h57 rfl (by omega) (fun _ => hend) (fun b q => by rw [hn] at q; omega) (Or.inl hn)
          rcases hu with hu | ⟨hu, hu2⟩
          · exact Or.inl hu
          · refine Or.inr ⟨hu, fun q4 => ?_⟩
            have h51' : I 11 0 51 = t := (h51 q4).1
            have hu2' : ct P s t (P 41 s).toNat = -1 := hu2 q4
            have a6' : 0 ≤ t ∧ t ≤ 7 := a6 q4
            rw [h51']
            exact ⟨zw_i (by omega) (by omega), hu2'⟩
    · obtain ⟨c, c1, c2, c3, c4, c5, c6, _, _, c7⟩ := kid_ok hP hs hb hkid
      obtain ⟨c8, c9⟩ := c6 (by omega)
      obtain ⟨o3, ok3, cb3, mb3⟩ := hB σ.2.2.2.1 a2' uw c (P 45 c) tv σ ⟨huw, a4, a5⟩ rfl c2 c7
      obtain ⟨w3, t3, rv3, σ3⟩ := o3
      obtain ⟨b1, b2, b3, b4, b5, b6⟩ := ok3
      have b1' : w3 ≤ 5 := b1
      have b2' : σ3.2.2.2.1 ≤ σ.2.2.2.1 := b2
      refine ⟨if w3 = 0 then (w, t, rv, σ3) else (w3, t3, rv3, σ3), ?_, fun d I K tvc l4 hd hR hC h47 htv h => ?_, fun hwle d I Q T u hR hM ht h56 h57 h58 hu hw0 h51 hT hTb h => ?_, fun q => absurd q h5⟩
      · split
        · exact ⟨a1, by show σ3.2.2.2.1 ≤ f; omega, fun q => absurd q h5, b4, b5, a6⟩
        · exact ⟨b1, by show σ3.2.2.2.1 ≤ f; omega, b3, b4, b5, b6⟩
      · have h8 := (hR.2.1 s hs).2.1.2.2.2.2.1 hk
        rw [c1, rf_s (by omega), Int.toNat_natCast] at h8
        refine ct_last (d := d + 9) (fun q => absurd q h5) (fun _ q => by rw [h8] at q; cases q) (fun _ b' hb' K' hk' => ?_) (Or.inr ⟨_, h8⟩)
        have eb : b' = c := by
          have := hb'.symm.trans h8
          injection this with this
          injection this
        subst eb
        refine cb_enter hR c2 cb3 (by unfold Dn at hd ⊢; omega) hC htv (fun I' g1 g2 g3 => hk' w3 I' (fun q => ?_) (fun q => ?_))
        · rw [if_neg q] at h
          exact h I' g1 g2 g3
        · rw [if_pos q] at h
          refine h _ ((g1.set (by omega)).set (by omega)) g2.raise (fun q4 => ?_)
          rw [zsI_ne (by omega), zsI_s, zsI_s]
          exact h47 q4
      · have hTs : ¬ (zw (I 56 0 T) = 3 ∧ zw (I 57 0 T) = P 47 (ar P b).toNat) ∨ ¬ 0 ≤ ar P b := by
          by_cases q : 0 ≤ ar P b
          · left
            rw [h57]
            exact fun z => try_ne hP hs hb hbn q z.2
          · exact Or.inr q
        have hin : ∀ I', Pushed (zsI (zsI (zsI (zsI (zsI I 58 0 T 2) 61 0 T (w : Int)) 62 0 T (I 11 0 51)) 63 0 T (I 11 0 52)) 11 0 50 0) I' (T + 1) 0 (P 45 c) → MH (d + 19) R al Q Fi 1 I' := fun I' hpu => by
          generalize hI0 : zsI (zsI (zsI (zsI (zsI I 58 0 T 2) 61 0 T (w : Int)) 62 0 T (I 11 0 51)) 63 0 T (I 11 0 52)) 11 0 50 0 = I0 at hpu
          have e : ∀ c k, ¬ (c = 11 ∧ k = 50) → ¬ (56 ≤ c ∧ c ≤ 63 ∧ k = T) → I0 c 0 k = I c 0 k := fun c k h1 h2 => by rw [← hI0, zsI_n (by omega), zsI_n (by omega), zsI_n (by omega), zsI_n (by omega), zsI_n (by omega)]
          have f1 : FrM I I0 := by rw [← hI0]; exact ((((FrM.rfl.set (by omega)).set (by omega)).set (by omega)).set (by omega)).set (by omega)
          have f2 : FrT I I0 T := by rw [← hI0]; exact ((((FrT.rfl.set (by omega)).set (by omega)).set (by omega)).set (by omega)).set (by omega)
          have e56 : I0 56 0 T = 3 := by rw [← hI0, zsI_ne (by omega), zsI_ne (by omega), zsI_ne (by omega), zsI_ne (by omega), zsI_ne (by omega)]; exact h56
          have e57 : I0 57 0 T = (s : Int) := by rw [← hI0, zsI_ne (by omega), zsI_ne (by omega), zsI_ne (by omega), zsI_ne (by omega), zsI_ne (by omega)]; exact h57
          have e58 : I0 58 0 T = 2 := by rw [← hI0, zsI_ne (by omega), zsI_ne (by omega), zsI_ne (by omega), zsI_ne (by omega), zsI_s]
          have e61 : I0 61 0 T = (w : Int) := by rw [← hI0, zsI_ne (by omega), zsI_ne (by omega), zsI_ne (by omega), zsI_s]
          have e62 : I0 62 0 T = I 11 0 51 := by rw [← hI0, zsI_ne (by omega), zsI_ne (by omega), zsI_s]
          have e63 : I0 63 0 T = I 11 0 52 := by rw [← hI0, zsI_ne (by omega), zsI_s]
          have hM0 : MRun I0 uw F σ := hM.of (fun k => e _ _ (by omega) (by omega)) (fun k => e _ _ (by omega) (by omega)) (e _ _ (by omega) (by omega)) (e _ _ (by omega) (by omega)) (e _ _ (by omega) (by omega)) (e _ _ (by omega) (by omega))
          refine mb_enter (tv := tv) (hR.fr f1) hM0 (by rw [← hI0, zsI_s]) hpu (((hT.fr f2).up (fun q => ?_)).kid c8 c9) (by omega) mb3 ?_
          · rw [e57]
            exact fun z => try_ne hP hs hb hbn q z.2
          · refine ⟨fun hw34 I2 j1 j2 j3 j4 j5 j6 => ?_, fun q I2 uw' j1 j2 => ?_⟩
            · have hw34' : w3 ≤ 4 := hw34
              have j5' : I2 11 0 50 = (w3 : Int) := j5
              have k56 : I2 56 0 T = 3 := by rw [j2 _ _ (by decide) (by decide) (by omega)]; exact e56
              have k58 : I2 58 0 T = 2 := by rw [j2 _ _ (by decide) (by decide) (by omega)]; exact e58
              by_cases q0 : w3 = 0
              · rw [if_pos q0] at h
                subst q0
                refine mh_try2 hK (T := T) j4 (by omega) (by omega) j5' k56 k58 ?_
                have k61 : I2 61 0 T = (w : Int) := by rw [j2 _ _ (by decide) (by decide) (by omega)]; exact e61
                have k62 : I2 62 0 T = I 11 0 51 := by rw [j2 _ _ (by decide) (by decide) (by omega)]; exact e62
                have k63 : I2 63 0 T = I 11 0 52 := by rw [j2 _ _ (by decide) (by decide) (by omega)]; exact e63
                rw [k61, k62, k63]
                have e' : ∀ c k, ¬ (c = 11 ∧ (k = 41 ∨ k = 50 ∨ k = 51 ∨ k = 52)) → zsI (zsI (zsI (zsI I2 11 0 41 (((T + 1 : Nat) : Int) - 1)) 11 0 50 (w : Int)) 11 0 51 (I 11 0 51)) 11 0 52 (I 11 0 52) c 0 k = I2 c 0 k := fun c k hc => by rw [zsI_n (by omega), zsI_n (by omega), zsI_n (by omega), zsI_n (by omega)]
                refine h.1 hwle _ (((((f1.tr j1).set (by omega)).set (by omega)).set (by omega)).set (by omega)) (((((f2.tr (j2.le (by omega))).set (by omega)).set (by omega)).set (by omega)).set (by omega)) (j3.of (fun k => e' _ _ (by omega)) (fun k => e' _ _ (by omega)) (e' _ _ (by omega)) (e' _ _ (by omega)) (e' _ _ (by omega)) (e' _ _ (by omega))) (by rw [zsI_ne (by omega), zsI_ne (by omega), zsI_ne (by omega), zsI_s]; omega) (by rw [zsI_ne (by omega), zsI_ne (by omega), zsI_s]) (fun q => ?_)
                rw [zsI_ne (by omega), zsI_s, zsI_s]
                exact h51 q
              · rw [if_neg q0] at h
                refine ml_try2 (d := d + 10) hK (T := T) j4 (by omega) (by omega) j5' (by rw [zw_i (by omega) (by omega)]; omega) k56 k58 ?_
                have e' : ∀ c k, ¬ (c = 11 ∧ k = 41) → zsI I2 11 0 41 (((T + 1 : Nat) : Int) - 1) c 0 k = I2 c 0 k := fun c k hc => zsI_n (by omega)
                exact h.1 hw34' _ ((f1.tr j1).set (by omega)) ((f2.tr (j2.le (by omega))).set (by omega)) (j3.of (fun k => e' _ _ (by omega)) (fun k => e' _ _ (by omega)) (e' _ _ (by omega)) (e' _ _ (by omega)) (e' _ _ (by omega)) (e' _ _ (by omega))) (by rw [zsI_s]; omega) (by rw [e' _ _ (by omega)]; exact j5) (fun q => by rw [e' _ _ (by omega), e' _ _ (by omega)]; exact j6 q)
            · have q' : w3 = 5 := q
              rw [if_neg (by omega)] at h
              exact h.2 q I2 uw' (f1.tr j1) j2
        by_cases q0 : w = 0
        · subst q0
          exact mh_try hK hR ht (by omega) (by omega) hw0 h56 h58 (by omega) h57 rfl (by omega) (fun q => by rw [c1] at q; omega) (fun b' hb' _ I' hpu => by
            have : b' = c := by have := hb'.symm.trans c1; omega
            subst this
            exact hin I' hpu) (Or.inr ⟨c, c1, by omega⟩)
        · refine ml_tryF (wn := w) hK hR hw ht (by omega) (by omega) hw0 rfl (by omega) (by omega) h56 h58 ?_ h57 rfl (by omega) (fun q => by rw [c1] at q; omega) (fun b' hb' _ I' hpu => by
            have : b' = c := by have := hb'.symm.trans c1; omega
            subst this
            exact hin I' hpu) (Or.inr ⟨c, c1, by omega⟩)
          rcases hu with hu | ⟨hu, hu2⟩
          · exact Or.inl hu
          · refine Or.inr ⟨hu, fun q4 => ?_⟩
            have h51' : I 11 0 51 = t := (h51 q4).1
            have hu2' : ct P s t (P 41 s).toNat = -1 := hu2 q4
            have a6' : 0 ≤ t ∧ t ≤ 7 := a6 q4
            rw [h51']
            exact ⟨zw_i (by omega) (by omega), hu2'⟩
end
