/-! class and reference leave a block alike -/
def Took (I : zMI) (P : Nat → Nat → Int) (b : Nat) (tv : Int) (T : Nat) : Prop := 0 ≤ ar P b → ∃ k, k < T ∧ I 56 0 k = 3 ∧ I 57 0 k = P 47 (ar P b).toNat ∧ (∀ j, k < j → j < T → ¬ (zw (I 56 0 j) = 3 ∧ zw (I 57 0 j) = P 47 (ar P b).toNat)) ∧ I 59 0 k = P 102 b ∧ zw (I 60 0 k) = tv
def MK (d : Nat) (R : zMR) (al : zA) (Q : Option zV → zS → Prop) (Fi : Int) (F : Nat) (I : zMI) (T uw : Nat) (o : Oc) : Prop :=
  (o.1 ≤ 4 → ∀ I', FrM I I' → FrT I I' T → MRun I' uw F o.2.2.2 → I' 11 0 41 = (T : Int) → I' 11 0 50 = (o.1 : Int) → (o.1 = 4 → I' 11 0 51 = o.2.1 ∧ zw (I' 11 0 52) = o.2.2.1) → MH d R al Q Fi 1 I') ∧ (o.1 = 5 → ∀ I' uw', FrM I I' → MRun I' uw' F o.2.2.2 → MH d R al Q Fi 0 I')
def SOk (uw : Nat) (σ : Rs) : Prop := uw ≤ 8 ∧ σ.2.2.1 ≤ 24 ∧ σ.2.2.2.2 ≤ 8
def OOk (f : Nat) (o : Oc) : Prop := o.1 ≤ 5 ∧ o.2.2.2.2.2.2.1 ≤ f ∧ (o.1 = 5 → o.2.2.2.2.2.2.1 = 0) ∧ o.2.2.2.2.2.1 ≤ 24 ∧ o.2.2.2.2.2.2.2 ≤ 8 ∧ (o.1 = 4 → 0 ≤ o.2.1 ∧ o.2.1 ≤ 7)
def Dn (P : Nat → Nat → Int) (uw b : Nat) : Nat := 20 + 4 * (4 - (P 100 b).toNat) + 20 * (8 - uw)
def CB (P : Nat → Nat → Int) (R : zMR) (al : zA) (uw b : Nat) (q tv : Int) (σ : Rs) (o : Oc) : Prop := ∀ (d : Nat) (I : zMI) (K : Option zV → zS → Prop) (tvc : Int), Dn P uw b ≤ d → CRep I R P → CRun I uw σ → zw tvc = tv → CK R al K I uw o →
  Zgo d 59 14 [some (zq (some (10, 0))), some (zq (some (3, b))), some (zi tvc), some (zq (some (90, 0))), some (zq (rf 4 q))] [] (I, R, al) K
def MBk (P : Nat → Nat → Int) (R : zMR) (al : zA) (Fi : Int) (F : Nat) (uw b : Nat) (q tv : Int) (σ : Rs) (o : Oc) : Prop := ∀ (d : Nat) (I : zMI) (Q : Option zV → zS → Prop) (T : Nat), MRep I P → MRun I uw F σ → I 11 0 41 = ((T + 1 : Nat) : Int) → I 56 0 T = 0 → I 57 0 T = q → I 11 0 50 = 0 → Took I P b tv T → T + 1 ≤ 9 * uw + 2 * (P 100 b).toNat → MK (d + 19) R al Q Fi F I T uw o → MH (d + 19) R al Q Fi 1 I
def RB (P : Nat → Nat → Int) (R : zMR) (al : zA) (Fi : Int) (F f : Nat) : Prop := ∀ (uw b : Nat) (q tv : Int) (σ : Rs), SOk uw σ → σ.2.2.2.1 = f → b < nB P → (q = -1 ∨ ∃ s : Nat, q = (s : Int) ∧ s < nS P ∧ P 42 s = (b : Int)) → ∃ o, OOk f o ∧ CB P R al uw b q tv σ o ∧ MBk P R al Fi F uw b q tv σ o
def CSx (P : Nat → Nat → Int) (R : zMR) (al : zA) (uw b s : Nat) (tv : Int) (σ : Rs) (o : Oc) : Prop := ∀ (d : Nat) (I : zMI) (K : Option zV → zS → Prop) (tvc : Int), Dn P uw b ≤ d + 1 → CRep I R P → CRun I uw σ → zw tvc = tv → CK R al K I uw o →
  Zgo d 60 25 [some (zq (some (10, 0))), some (zq (some (4, s))), some (zi tvc)] [zi (P 34 s)] (I, R, al) K
def MSx (P : Nat → Nat → Int) (R : zMR) (al : zA) (Fi : Int) (F : Nat) (uw b s : Nat) (tv : Int) (σ : Rs) (o : Oc) : Prop := ∀ (d : Nat) (I : zMI) (Q K : Option zV → zS → Prop) (T : Nat), MRep I P → MRun I uw F σ → I 11 0 41 = ((T + 1 : Nat) : Int) → I 56 0 T = 0 → I 11 0 50 = 0 → Took I P b tv T → T + 1 ≤ 9 * uw + 2 * (P 100 b).toNat → (∀ I', MH (d + 19) R al Q Fi 1 I' → K none (I', R, al)) → MK (d + 19) R al Q Fi F I (T + 1) uw o →
  zCp (d + 18) 116 [zq (some (11, 0)), zi (s : Int)] (I, R, al) K
def RS (P : Nat → Nat → Int) (R : zMR) (al : zA) (Fi : Int) (F f uw b s : Nat) (tv : Int) (σ : Rs) : Prop := ∃ o, OOk f o ∧ CSx P R al uw b s tv σ o ∧ MSx P R al Fi F uw b s tv σ o
theorem MK.mx {d : Nat} {R : zMR} {al : zA} {Q K : Option zV → zS → Prop} {Fi : Int} {F : Nat} {I : zMI} {T uw : Nat} {o : Oc} (h : MK d R al Q Fi F I T uw o) (ho : o.1 ≤ 4) (hK : ∀ I', MH d R al Q Fi 1 I' → K none (I', R, al)) : MX R al K I T uw F o := fun I' h1 h2 h3 h4 h5 h6 => hK I' (h.1 ho I' h1 h2 h3 h4 h5 h6)
theorem MK.fr {d : Nat} {R : zMR} {al : zA} {Q : Option zV → zS → Prop} {Fi : Int} {F : Nat} {I I1 : zMI} {T uw : Nat} {o : Oc} (h : MK d R al Q Fi F I T uw o) (hf : FrM I I1) (ht : FrT I I1 T) : MK d R al Q Fi F I1 T uw o := ⟨fun ho I' h1 h2 h3 h4 h5 h6 => h.1 ho I' (hf.tr h1) (ht.tr h2) h3 h4 h5 h6, fun ho I' uw' h1 h2 => h.2 ho I' uw' (hf.tr h1) h2⟩
theorem Took.fr {I I' : zMI} {P : Nat → Nat → Int} {b : Nat} {tv : Int} {T : Nat} (h : Took I P b tv T) (hf : FrT I I' T) : Took I' P b tv T := fun ha => by
  obtain ⟨k, h1, h2, h3, h4, h5, h6⟩ := h ha
  exact ⟨k, h1, (hf 56 k (by decide) (by decide) h1).trans h2, (hf 57 k (by decide) (by decide) h1).trans h3, fun j j1 j2 => by rw [hf 56 j (by decide) (by decide) j2, hf 57 j (by decide) (by decide) j2]; exact h4 j j1 j2, (hf 59 k (by decide) (by decide) h1).trans h5, by rw [hf 60 k (by decide) (by decide) h1]; exact h6⟩
/-- one more frame, which isn't the one that took -/
theorem Took.up {I : zMI} {P : Nat → Nat → Int} {b : Nat} {tv : Int} {T : Nat} (h : Took I P b tv T) (hn : 0 ≤ ar P b → ¬ (zw (I 56 0 T) = 3 ∧ zw (I 57 0 T) = P 47 (ar P b).toNat)) : Took I P b tv (T + 1) := fun ha => by
  obtain ⟨k, h1, h2, h3, h4, h5, h6⟩ := h ha
  refine ⟨k, by omega, h2, h3, fun j j1 j2 => ?_, h5, h6⟩
  by_cases e : j = T
  · rw [e]; exact hn ha
  · exact h4 j j1 (by omega)
section
variable {P : Nat → Nat → Int} {R : zMR} {al : zA} {Fi : Int} {F f uw b s : Nat} {tv : Int} {σ : Rs}
/-- the plain statements -/
theorem rs_plain (hK : Kon R) (hP : PWf P) (hs : s < nS P) (hb : P 42 s = (b : Int)) (hbn : b < nB P) (hS : SOk uw σ) (hf : σ.2.2.2.1 = f) (hX : P 34 s = 88 → P 102 b ≠ -1) (hk : P 34 s = 61 ∨ P 34 s = 33 ∨ P 34 s = 66 ∨ P 34 s = 67 ∨ P 34 s = 82 ∨ P 34 s = 84 ∨ P 34 s = 88) : RS P R al Fi F f uw b s tv σ := by
  obtain ⟨V, O, oc, f', mu⟩ := σ
  have hf' : f' = f := hf
  subst hf'
  have hw := hP.2.2.2.2.2.1 s hs
  have h80 := hP.1
  have h81 := hP.2.1
  obtain ⟨hS1, hS2, hS3⟩ := hS
  have hS2' : oc ≤ 24 := hS2
  have hS3' : mu ≤ 8 := hS3
  have hdep := (hP.2.2.2.2.2.2.1 b hbn).dep
  rcases hk with hk | hk | hk | hk | hk | hk | hk
  · obtain ⟨x1, x2⟩ := hw.2.2.2.1 (Or.inl hk)
    obtain ⟨r1, r2⟩ := hw.2.2.2.2.1 hk
    refine ⟨oAsg P s (V, O, oc, f', mu), ?_, fun d I K tvc hd hR hC _ h => ?_, fun d I Q K T hR hM ht h5 hw0 hT hTb hq h => ?_⟩
    · unfold oAsg
      split
      · exact ⟨by show (4 : Nat) ≤ 5; omega, Nat.le_refl _, fun q => absurd (show (4 : Nat) = 5 from q) (by decide), hS2', hS3', fun _ => ⟨by show (0 : Int) ≤ 5; omega, by show (5 : Int) ≤ 7; omega⟩⟩
      · exact ⟨by show (0 : Nat) ≤ 5; omega, Nat.le_refl _, fun q => absurd (show (0 : Nat) = 5 from q) (by decide), hS2', hS3', w4 rfl⟩
    · obtain ⟨e, rfl⟩ : ∃ e, d = e + 9 := ⟨d - 9, by unfold Dn at hd; omega⟩
      exact cs_asg hR hs hk x1 x2 r1 r2 hC h
    · exact ms_asg (d := d + 9) hK hR rfl (by omega) hk x1 r1 r2 hM ht hw0 (h.mx (by unfold oAsg; split <;> (show (_ : Nat) ≤ 4; omega)) hq)
  · obtain ⟨x1, x2⟩ := hw.2.2.2.1 (Or.inr (Or.inl hk))
    refine ⟨oOut P s (V, O, oc, f', mu), ?_, fun d I K tvc hd hR hC _ h => ?_, fun d I Q K T hR hM ht h5 hw0 hT hTb hq h => ?_⟩
    · unfold oOut
      split
      · exact ⟨by show (4 : Nat) ≤ 5; omega, Nat.le_refl _, fun q => absurd (show (4 : Nat) = 5 from q) (by decide), hS2', hS3', fun _ => ⟨by show (0 : Int) ≤ 5; omega, by show (5 : Int) ≤ 7; omega⟩⟩
      · split
        · exact ⟨by show (4 : Nat) ≤ 5; omega, Nat.le_refl _, fun q => absurd (show (4 : Nat) = 5 from q) (by decide), hS2', hS3', fun _ => ⟨by show (0 : Int) ≤ 7; omega, by show (7 : Int) ≤ 7; omega⟩⟩
        · rename_i hne
          exact ⟨by show (0 : Nat) ≤ 5; omega, Nat.le_refl _, fun q => absurd (show (0 : Nat) = 5 from q) (by decide), by have : ¬ oc = 24 := hne; show oc + 1 ≤ 24; omega, hS3', w4 rfl⟩
    · obtain ⟨e, rfl⟩ : ∃ e, d = e + 9 := ⟨d - 9, by unfold Dn at hd; omega⟩
      exact cs_out hR hs hk x1 x2 hS2' hC h
    · refine ms_out (d := d + 9) hK hR rfl (by omega) hk x1 hS2' hM ht hw0 (h.mx ?_ hq)
      unfold oOut
      split
      · show (4 : Nat) ≤ 4; omega
      · split
        · show (4 : Nat) ≤ 4; omega
        · show (0 : Nat) ≤ 4; omega
  · refine ⟨(1, 0, 0, (V, O, oc, f', mu)), ⟨by show (1 : Nat) ≤ 5; omega, Nat.le_refl _, fun q => absurd (show (1 : Nat) = 5 from q) (by decide), hS2', hS3', w4 rfl⟩, fun d I K tvc hd hR hC _ h => cs_way (k := 66) hk (by omega) hC h, fun d I Q K T hR hM ht h5 hw0 hT hTb hq h => ms_way (d := d + 9) (k := 66) hK hR rfl (by omega) hk (by omega) hM ht hw0 (h.mx (by show (1 : Nat) ≤ 4; omega) hq)⟩
  · refine ⟨(2, 0, 0, (V, O, oc, f', mu)), ⟨by show (2 : Nat) ≤ 5; omega, Nat.le_refl _, fun q => absurd (show (2 : Nat) = 5 from q) (by decide), hS2', hS3', w4 rfl⟩, fun d I K tvc hd hR hC _ h => cs_way (k := 67) hk (by omega) hC h, fun d I Q K T hR hM ht h5 hw0 hT hTb hq h => ms_way (d := d + 9) (k := 67) hK hR rfl (by omega) hk (by omega) hM ht hw0 (h.mx (by show (2 : Nat) ≤ 4; omega) hq)⟩
  · refine ⟨(3, 0, 0, (V, O, oc, f', mu)), ⟨by show (3 : Nat) ≤ 5; omega, Nat.le_refl _, fun q => absurd (show (3 : Nat) = 5 from q) (by decide), hS2', hS3', w4 rfl⟩, fun d I K tvc hd hR hC _ h => cs_way (k := 82) hk (by omega) hC h, fun d I Q K T hR hM ht h5 hw0 hT hTb hq h => ms_way (d := d + 9) (k := 82) hK hR rfl (by omega) hk (by omega) hM ht hw0 (h.mx (by show (3 : Nat) ≤ 4; omega) hq)⟩
  · obtain ⟨x1, x2⟩ := hw.2.2.2.1 (Or.inr (Or.inr (Or.inr (Or.inr hk))))
    obtain ⟨r1, r2⟩ := hw.2.2.2.2.2.1 hk
    refine ⟨oThr P s (V, O, oc, f', mu), ?_, fun d I K tvc hd hR hC _ h => ?_, fun d I Q K T hR hM ht h5 hw0 hT hTb hq h => ?_⟩
    · unfold oThr
      split
      · exact ⟨by show (4 : Nat) ≤ 5; omega, Nat.le_refl _, fun q => absurd (show (4 : Nat) = 5 from q) (by decide), hS2', hS3', fun _ => ⟨by show (0 : Int) ≤ 5; omega, by show (5 : Int) ≤ 7; omega⟩⟩
      · exact ⟨by show (4 : Nat) ≤ 5; omega, Nat.le_refl _, fun q => absurd (show (4 : Nat) = 5 from q) (by decide), hS2', hS3', fun _ => ⟨r1, by show P 35 s ≤ 7; omega⟩⟩
    · obtain ⟨e, rfl⟩ : ∃ e, d = e + 9 := ⟨d - 9, by unfold Dn at hd; omega⟩
      exact cs_thr hR hs hk x1 x2 hC h
    · exact ms_thr (d := d + 9) hK hR rfl (by omega) hk x1 hM ht hw0 (h.mx (by unfold oThr; split <;> (show (4 : Nat) ≤ 4; omega)) hq)
  · rcases ar_ok hP _ b hbn rfl with ⟨_, g⟩ | ⟨g, o, g1, g2, g3, g4, g5, g6, g7, g8, g9⟩
    · exact absurd g (hX hk)
    · refine ⟨(4, P 102 b, tv, (V, O, oc, f', mu)), ⟨by show (4 : Nat) ≤ 5; omega, Nat.le_refl _, fun q => absurd (show (4 : Nat) = 5 from q) (by decide), hS2', hS3', fun _ => ?_⟩, fun d I K tvc hd hR hC htv h => ?_, fun d I Q K T hR hM ht h5 hw0 hT hTb hq h => ?_⟩
      · show 0 ≤ P 102 b ∧ P 102 b ≤ 7
        have hso := hP.2.2.2.2.2.1 o g4
        obtain ⟨n1, n2, n3⟩ := hso.2.2.2.2.2.2.2.2.2.2.1
        have hbl := hso.2.2.2.2.2.2.2.2.2.2.2.2.2.1 g5
        have hlt : ((P 48 g).toNat - 2 : Nat) < P 41 o := by
          by_cases q : ((P 48 g).toNat - 2 : Nat) < P 41 o
          · exact q
          · have := hbl ((P 48 g).toNat - 2) (by omega) (by omega)
            rcases (hP.2.2.2.2.2.2.1 g g2).2 with ⟨z, _⟩ | ⟨o', h', z1, _, _, _, _, _, _, z7, _⟩
            · omega
            · have : o' = o := by omega
              subst this
              have e : 6 * o' + 2 + ((P 48 g).toNat - 2) = 6 * o' + (P 48 g).toNat := by omega
              rw [e] at this
              omega
        have := n3 _ hlt
        have e : 3 * o + ((P 48 g).toNat - 2) = 3 * o + (P 48 g).toNat - 2 := by omega
        rw [e] at this
        omega
      · obtain ⟨e, rfl⟩ : ∃ e, d = e + 9 := ⟨d - 9, by unfold Dn at hd; omega⟩
        refine cs_x hR hs hk (by rw [hb, Int.toNat_natCast]; exact hbn) hC ?_
        rw [hb, Int.toNat_natCast, htv]
        exact h
      · obtain ⟨k, t1, t2, t3, t4, t5, t6⟩ := hT (by omega)
        rw [g1, Int.toNat_natCast] at t3 t4
        rw [g3] at t3 t4
        refine ms_x (d := d + 9) (k0 := k) hK hR hP rfl hs hk hb hbn g1 g2 g3 g4 hM ht (by omega) hw0 (by omega) t2 t3 (fun j j1 j2 => ?_) t6 (by rw [t5]; exact h.mx (by show (4 : Nat) ≤ 4; omega) hq)
        by_cases e : j = T
        · rw [e, h5]; exact fun q => absurd q.1 (by decide +kernel)
        · exact t4 j j1 (by omega)
end
