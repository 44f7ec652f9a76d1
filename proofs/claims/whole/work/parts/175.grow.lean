/-! cells and slots never go back -/
def zGr (S S' : zS) : Prop := S.2.2.2.1 ≤ S'.2.2.2.1 ∧ S.2.2.2.2.1 ≤ S'.2.2.2.2.1 ∧ (∀ c, S.2.2.1 c ≤ S'.2.2.1 c) ∧ S'.2.2.2.2.2 = S.2.2.2.2.2
theorem zGr.rf {S : zS} : zGr S S := ⟨Nat.le_refl _, Nat.le_refl _, fun _ => Nat.le_refl _, rfl⟩
theorem zGr.tr {S S1 S2 : zS} (h : zGr S S1) (h' : zGr S1 S2) : zGr S S2 := ⟨Nat.le_trans h.1 h'.1, Nat.le_trans h.2.1 h'.2.1, fun c => Nat.le_trans (h.2.2.1 c) (h'.2.2.1 c), h'.2.2.2.trans h.2.2.2⟩
theorem zGr.up {I : zMI} {R : zMR} {cn : Nat → Nat} {nc ns N a j k v : Nat} (hv : cn a ≤ v) : zGr (I, R, cn, nc, ns, N) (I, R, va_up cn a v, nc + j, ns + k, N) := by
  refine ⟨Nat.le_add_right _ _, Nat.le_add_right _ _, fun c => ?_, rfl⟩
  show cn c ≤ va_up cn a v c
  unfold va_up
  split
  · rename_i h; subst h; exact hv
  · exact Nat.le_refl _
section G
variable {β : Type} {o : β} {C : Prop}
theorem zldi_g {L : zL} {k : Nat} {f : Int → Option β} (hf : ∀ x, f x = some o → C) (h : zldi L k none f = some o) : C := by obtain ⟨_, _, q⟩ := zldi_e h; exact hf _ q
theorem zldl_g {L : zL} {k : Nat} {f : Int → Option β} (hf : ∀ x, f x = some o → C) (h : zldl L k none f = some o) : C := by obtain ⟨_, _, q⟩ := zldl_e h; exact hf _ q
theorem zlda_g {L : zL} {k : Nat} {f : Option (Nat × Nat) → Option β} (hf : ∀ x, f x = some o → C) (h : zlda L k none f = some o) : C := by obtain ⟨_, _, q⟩ := zlda_e h; exact hf _ q
theorem zpi_g {st : List zV} {f : Int → List zV → Option β} (hf : ∀ x t, f x t = some o → C) (h : zpi st none f = some o) : C := by obtain ⟨_, _, _, q⟩ := zpi_e h; exact hf _ _ q
theorem zpl_g {st : List zV} {f : Int → List zV → Option β} (hf : ∀ x t, f x t = some o → C) (h : zpl st none f = some o) : C := by obtain ⟨_, _, _, q⟩ := zpl_e h; exact hf _ _ q
theorem zpa_g {st : List zV} {f : Option (Nat × Nat) → List zV → Option β} (hf : ∀ x t, f x t = some o → C) (h : zpa st none f = some o) : C := by obtain ⟨_, _, _, q⟩ := zpa_e h; exact hf _ _ q
theorem zp1_g {st : List zV} {f : zV → List zV → Option β} (hf : ∀ x t, f x t = some o → C) (h : zp1 st none f = some o) : C := by obtain ⟨_, _, _, _, q⟩ := zp1_e h; exact hf _ _ q
theorem zinv_e {b : Nat} {st : List zV} {f : List zV → List zV → Option β} (h : zinv b st none f = some o) : ∃ as t, as.length = b ∧ st = as.reverse ++ t ∧ zwt t ≤ 8 ∧ f as t = some o := by
  unfold zinv at h
  obtain ⟨as, t, h1, h2, h3⟩ := zpn_e h
  obtain ⟨h4, h5⟩ := zite_e h3
  exact ⟨as, t, h1, h2, h4, by simpa using h5⟩
theorem zinv_g {b : Nat} {st : List zV} {f : List zV → List zV → Option β} (hf : ∀ x t, f x t = some o → C) (h : zinv b st none f = some o) : C := by obtain ⟨_, _, _, _, _, q⟩ := zinv_e h; exact hf _ _ q
theorem zde_g {r : Option (Nat × Nat)} {c : Nat} {f : Nat → Option β} (hf : ∀ x, f x = some o → C) (h : zde r c none f = some o) : C := by obtain ⟨_, _, q⟩ := zde_e h; exact hf _ q
theorem znn_g {r : Option (Nat × Nat)} {f : Nat → Nat → Option β} (hf : ∀ x y, f x y = some o → C) (h : znn r none f = some o) : C := by obtain ⟨_, _, _, q⟩ := znn_e h; exact hf _ _ q
theorem zix_g {j : Int} {n : Nat} {f : Nat → Option β} (hf : ∀ x, f x = some o → C) (h : zix j n none f = some o) : C := hf _ (zix_e h).2
theorem zop_g {γ : Type} {x : Option γ} {f : γ → Option β} (hf : ∀ x, f x = some o → C) (h : zop x none f = some o) : C := by obtain ⟨_, _, q⟩ := zop_e h; exact hf _ q
theorem zgt_g {t : Int} {f : Nat → Option β} (hf : ∀ x, f x = some o → C) (h : zgt t none f = some o) : C := by obtain ⟨_, _, q⟩ := zgt_e h; exact hf _ q
theorem zem_g {st : List zV} {f : Option β} (hf : f = some o → C) (h : zem st none f = some o) : C := hf (zem_e h).2
theorem zok_g {t : Nat} {x : Int} {f : Option β} (hf : f = some o → C) (h : zok t x none f = some o) : C := hf (zok_e h).2
theorem zrec_g {as : List zV} {t : Nat} {f : Option β} (hf : f = some o → C) (h : zrec as t none f = some o) : C := by obtain ⟨_, _, _, q⟩ := zrec_e h; exact hf q
theorem zite_g {c : Prop} {hc : Decidable c} {f g : Option β} (hf : c → f = some o → C) (hg : ¬ c → g = some o → C) (h : (if c then f else g) = some o) : C := by
  split at h
  · exact hf (by assumption) h
  · exact hg (by assumption) h
theorem zcmp_g {q : ClassFile.Cond} {a b : Int} {f g : Option β} (hf : f = some o → C) (hg : g = some o → C) (h : zcmp q a b f g = some o) : C := by
  unfold zcmp at h
  cases q <;> (dsimp only at h; split at h <;> first | exact hf h | exact hg h)
theorem zsame_g {a b : Option (Nat × Nat)} {f g : Option β} (hf : f = some o → C) (hg : g = some o → C) (h : zsame a b none f g = some o) : C := by
  unfold zsame at h
  split at h
  · exact hf h
  · exact hg h
  · exact hg h
  · split at h
    · split at h
      · exact hf h
      · exact hg h
    · cases h
theorem zxr_g {r : Option zV} {f : Nat → Option β} {g : Option β} (hf : ∀ x, f x = some o → C) (hg : g = some o → C) (h : zxr r f g = some o) : C := by
  unfold zxr at h
  split at h
  · exact hf _ h
  · exact hg h
theorem znone_g (h : (none : Option β) = some o) : C := by cases h
end G
theorem zCall_e {n d y : Nat} {as : List zV} {S : zS} {κ : Option zV → zS → Option zO} {x : zO} (h : zCall (zEv n) d y as S κ = some x) :
    (900 ≤ y ∧ 12 ≤ d ∧ ∃ r, zBi y as = some r ∧ κ r S = some x) ∨ (¬ 900 ≤ y ∧ ∃ e r S1, d = e + 1 ∧ (zargs as).length ≤ zMx y ∧ zEv n e y 0 (zent (zMx y) as) [] S = some (r, S1) ∧ κ r S1 = some x) := by
  unfold zCall at h
  split at h
  · rename_i h0
    split at h
    · rename_i h1
      cases hz : zBi y as with
      | none => rw [hz] at h; cases h
      | some r => rw [hz] at h; exact Or.inl ⟨h0, h1, r, rfl, h⟩
    · cases h
  · rename_i h0
    cases hpd : zPd y d with
    | none => rw [hpd] at h; cases h
    | some e =>
      obtain ⟨rfl, -⟩ := zPd_e hpd
      rw [hpd] at h
      dsimp only at h
      split at h
      · rename_i hl
        cases he : zEv n e y 0 (zent (zMx y) as) [] S with
        | none => rw [he] at h; cases h
        | some q =>
          rw [he] at h
          exact Or.inr ⟨h0, e, q.1, q.2, rfl, hl, he, h⟩
      · cases h
theorem zCall_b {n d y : Nat} {as : List zV} {S : zS} {κ : Option zV → zS → Option zO} {x : zO} (h : zCall (zEv n) d y as S κ = some x) (hy : ¬ 900 ≤ y) (ht : zThr y = true) : 15 ≤ d := by
  unfold zCall at h
  rw [if_neg hy] at h
  cases hpd : zPd y d with
  | none => rw [hpd] at h; cases h
  | some e => exact (zPd_e hpd).2 ht
set_option maxHeartbeats 8000000 in
theorem zEv_gr : ∀ (n d y pc : Nat) (L : zL) (st : List zV) (S : zS) (r : Option zV) (S' : zS), zEv n d y pc L st S = some (r, S') → zGr S S'
  | 0, _, _, _, _, _, _, _, _, h => by cases h
  | n + 1, d, y, pc, L, st, S, r, S', h => by
    rw [zEv] at h
    cases hq : zlk y pc with
    | none => rw [hq] at h; cases h
    | some q =>
      rw [hq] at h
      obtain ⟨i, len, a, b, c, p⟩ := q
      dsimp only at h
      have ih : ∀ pc1 L1 st1 S1, zEv n d y pc1 L1 st1 S1 = some (r, S') → zGr S1 S' := fun pc1 L1 st1 S1 h1 => zEv_gr n d y pc1 L1 st1 S1 r S' h1
      have ihc : ∀ y' as κ, (∀ r1 S1, κ r1 S1 = some (r, S') → zGr S1 S') → zCall (zEv n) d y' as S κ = some (r, S') → zGr S S' := by
        intro y' as κ hκ h1
        rcases zCall_e h1 with ⟨-, -, r1, -, h2⟩ | ⟨-, e, r1, S1, -, -, h2, h3⟩
        · exact hκ _ _ h2
        · exact (zEv_gr n e y' 0 _ [] S r1 S1 h2).tr (hκ _ _ h3)
      obtain ⟨I0, R0, cn, nc, ns, N0⟩ := S
      revert h
      cases i <;> (unfold zStep; dsimp only; try (repeat' (first
        | exact znone_g
        | exact ih _ _ _ _
        | exact fun h => (zGr.up (by omega)).tr (ih _ _ _ _ h)
        | exact fun h => by cases h; exact ⟨Nat.le_refl _, Nat.le_refl _, fun _ => Nat.le_refl _, rfl⟩
        | exact fun h => by cases h; exact ⟨Nat.le_add_right _ _, Nat.le_add_right _ _, fun _ => Nat.le_refl _, rfl⟩
        | exact ihc _ _ _ (fun r1 S1 h1 => ih _ _ _ _ h1)
        | exact ihc _ _ _ (fun r1 S1 h1 => zxr_g (fun x => zop_g (fun x2 => ih _ _ _ _)) (ih _ _ _ _) h1)
        | refine zldi_g (fun _ => ?_)
        | refine zldl_g (fun _ => ?_)
        | refine zlda_g (fun _ => ?_)
        | refine zpi_g (fun _ _ => ?_)
        | refine zpl_g (fun _ _ => ?_)
        | refine zpa_g (fun _ _ => ?_)
        | refine zp1_g (fun _ _ => ?_)
        | refine zinv_g (fun _ _ => ?_)
        | refine zde_g (fun _ => ?_)
        | refine znn_g (fun _ _ => ?_)
        | refine zix_g (fun _ => ?_)
        | refine zop_g (fun _ => ?_)
        | refine zgt_g (fun _ => ?_)
        | refine zem_g ?_
        | refine zok_g ?_
        | refine zrec_g ?_
        | refine zcmp_g ?_ ?_
        | refine zsame_g ?_ ?_
        | refine zite_g (fun _ => ?_) (fun _ => ?_)
        | split)))
theorem zEv_grow {n d y pc : Nat} {L : zL} {st : List zV} {S : zS} {r : Option zV} {S' : zS} (h : zEv n d y pc L st S = some (r, S')) : S.2.2.2.1 ≤ S'.2.2.2.1 ∧ S.2.2.2.2.1 ≤ S'.2.2.2.2.1 := ⟨(zEv_gr n d y pc L st S r S' h).1, (zEv_gr n d y pc L st S r S' h).2.1⟩
