/-! the evaluator, and what holds of it -/
abbrev zF : Type := Nat × zL × List zV × zS
abbrev zO : Type := Option zV × zS
abbrev zNx : Type := Option (zF ⊕ ((Nat × List zV × zS × (Option zV → zS → Option zF)) ⊕ zO))
def zNf (x : zNx) : Option zF := match x with
  | some (.inl f) => some f
  | _ => none
section Nat1
variable {α β : Type} (f : α → β)
theorem zldi_n (L : zL) (k : Nat) (bad : α) (g : Int → α) : f (zldi L k bad g) = zldi L k (f bad) (fun x => f (g x)) := by unfold zldi; split <;> rfl
theorem zldl_n (L : zL) (k : Nat) (bad : α) (g : Int → α) : f (zldl L k bad g) = zldl L k (f bad) (fun x => f (g x)) := by unfold zldl; split <;> rfl
theorem zlda_n (L : zL) (k : Nat) (bad : α) (g : Option (Nat × Nat) → α) : f (zlda L k bad g) = zlda L k (f bad) (fun x => f (g x)) := by unfold zlda; split <;> rfl
theorem zpi_n (L : List zV) (bad : α) (g : Int → List zV → α) : f (zpi L bad g) = zpi L (f bad) (fun x t => f (g x t)) := by unfold zpi; split <;> rfl
theorem zpl_n (L : List zV) (bad : α) (g : Int → List zV → α) : f (zpl L bad g) = zpl L (f bad) (fun x t => f (g x t)) := by unfold zpl; split <;> rfl
theorem zpa_n (L : List zV) (bad : α) (g : Option (Nat × Nat) → List zV → α) : f (zpa L bad g) = zpa L (f bad) (fun x t => f (g x t)) := by unfold zpa; split <;> rfl
theorem zp1_n (L : List zV) (bad : α) (g : zV → List zV → α) : f (zp1 L bad g) = zp1 L (f bad) (fun x t => f (g x t)) := by unfold zp1; split <;> rfl
theorem zpn_n (bad : α) (g : List zV → List zV → α) : ∀ (n : Nat) (acc st : List zV), f (zpn n acc st bad g) = zpn n acc st (f bad) (fun x t => f (g x t))
  | 0, acc, st => rfl
  | n + 1, acc, [] => rfl
  | n + 1, acc, v :: t => zpn_n bad g n (v :: acc) t
theorem zinv_n (b : Nat) (st : List zV) (bad : α) (g : List zV → List zV → α) : f (zinv b st bad g) = zinv b st (f bad) (fun x t => f (g x t)) := by
  unfold zinv
  rw [zpn_n f]
  congr 1
  funext as t
  split <;> rfl
theorem zde_n (r : Option (Nat × Nat)) (c : Nat) (bad : α) (g : Nat → α) : f (zde r c bad g) = zde r c (f bad) (fun x => f (g x)) := by
  unfold zde
  split
  · split <;> rfl
  · rfl
theorem znn_n (r : Option (Nat × Nat)) (bad : α) (g : Nat → Nat → α) : f (znn r bad g) = znn r (f bad) (fun x y => f (g x y)) := by unfold znn; split <;> rfl
theorem zix_n (j : Int) (n : Nat) (bad : α) (g : Nat → α) : f (zix j n bad g) = zix j n (f bad) (fun x => f (g x)) := by unfold zix; split <;> rfl
theorem zop_n {γ : Type} (o : Option γ) (bad : α) (g : γ → α) : f (zop o bad g) = zop o (f bad) (fun x => f (g x)) := by unfold zop; split <;> rfl
theorem zgt_n (t : Int) (bad : α) (g : Nat → α) : f (zgt t bad g) = zgt t (f bad) (fun x => f (g x)) := by unfold zgt; split <;> rfl
theorem zsame_n (a b : Option (Nat × Nat)) (bad g h : α) : f (zsame a b bad g h) = zsame a b (f bad) (f g) (f h) := by
  unfold zsame
  split
  · rfl
  · rfl
  · rfl
  · split
    · split <;> rfl
    · rfl
theorem zok_n (ty : Nat) (x : Int) (bad g : α) : f (zok ty x bad g) = zok ty x (f bad) (f g) := by
  unfold zok
  split
  · split <;> rfl
  · split
    · split <;> rfl
    · rfl
theorem zcmp_n (q : ClassFile.Cond) (a b : Int) (g h : α) : f (zcmp q a b g h) = zcmp q a b (f g) (f h) := by
  cases q <;> (unfold zcmp; dsimp only; split <;> rfl)
theorem zrec_n (as : List zV) (t : Nat) (bad g : α) : f (zrec as t bad g) = zrec as t (f bad) (f g) := by
  unfold zrec
  split
  · split <;> rfl
  · rfl
theorem zem_n (st : List zV) (bad g : α) : f (zem st bad g) = zem st (f bad) (f g) := by unfold zem; split <;> rfl
theorem zxr_n (r : Option zV) (g : Nat → α) (h : α) : f (zxr r g h) = zxr r (fun x => f (g x)) (f h) := by unfold zxr; split <;> rfl
theorem zite_n (c : Prop) (hc : Decidable c) (g h : α) : f (if c then g else h) = if c then f g else f h := by split <;> rfl
end Nat1
set_option maxHeartbeats 4000000 in
theorem zStep_n {α β : Type} (f g : α → β) (i : Instr) (len a b c pc y : Nat) (L : zL) (st : List zV) (S : zS)
    (k : Nat → zL → List zV → zS → α) (call : Nat → List zV → zS → (Option zV → zS → α) → α) (call' : Nat → List zV → zS → (Option zV → zS → β) → β) (ret : Option zV → zS → α) (bad : α)
    (hc : ∀ y as S κ, f (call y as S κ) = call' y as S (fun r S => g (κ r S))) (hk : ∀ p L s S, g (k p L s S) = f (k p L s S)) (hb : g bad = f bad) :
    f (zStep i len a b c pc y L st S k call ret bad) = zStep i len a b c pc y L st S (fun p L s S => f (k p L s S)) call' (fun r S => f (ret r S)) (f bad) := by
  cases i <;> (unfold zStep; dsimp only; try simp only [zldi_n f, zldl_n f, zlda_n f, zpi_n f, zpl_n f, zpa_n f, zp1_n f, zpn_n f, zinv_n f, zde_n f, znn_n f, zix_n f, zop_n f, zop_n g, zgt_n f, zsame_n f, zok_n f, zcmp_n f, zrec_n f, zem_n f, zxr_n g, zite_n f, hc, hk, hb])
  rename_i q o
  cases q <;> (dsimp only; simp only [zldi_n f, zpa_n f, zgt_n f, zsame_n f])
/-- what comes next, as data -/
def zStep0 (i : Instr) (len a b c pc y : Nat) (L : zL) (st : List zV) (S : zS) : zNx :=
  zStep i len a b c pc y L st S (fun p L s S => some (.inl (p, L, s, S))) (fun y as S κ => some (.inr (.inl (y, as, S, fun r S => zNf (κ r S))))) (fun r S => some (.inr (.inr (r, S)))) none
section Fold
variable {α : Type}
def zfr (x : Option zF) (k : Nat → zL → List zV → zS → α) (bad : α) : α := match x with
  | some f => k f.1 f.2.1 f.2.2.1 f.2.2.2
  | none => bad
def zFold (k : Nat → zL → List zV → zS → α) (call : Nat → List zV → zS → (Option zV → zS → α) → α) (ret : Option zV → zS → α) (bad : α) (x : zNx) : α := match x with
  | some (.inl f) => k f.1 f.2.1 f.2.2.1 f.2.2.2
  | some (.inr (.inl q)) => call q.1 q.2.1 q.2.2.1 (fun r S => zfr (q.2.2.2 r S) k bad)
  | some (.inr (.inr r)) => ret r.1 r.2
  | none => bad
end Fold
/-- how a call is done: the two members of the JDK by what they answer -/
def zBi (y : Nat) (as : List zV) : Option (Option zV) := match as with
  | [.inr (.inr (some _)), .inl x] => if y = 900 then some (some (zi (zops (zw x)))) else none
  | [.inl a, .inl b] => if y = 901 then some (some (zi (zmax a b))) else none
  | [.inr (.inr (some _))] => if y = 905 then some none else none
  | _ => none
/-- the depth inside a call; what may throw wants room for the exception -/
def zPd (y d : Nat) : Option Nat := if zThr y = true then (if 15 ≤ d then some (d - 1) else none) else match d with
  | 0 => none
  | e + 1 => some e
theorem zPd_e {y d e : Nat} (h : zPd y d = some e) : d = e + 1 ∧ (zThr y = true → 15 ≤ d) := by
  unfold zPd at h
  split at h
  · split at h
    · cases h
      exact ⟨by omega, fun _ => by assumption⟩
    · cases h
  · rename_i hn
    split at h
    · cases h
    · cases h
      exact ⟨rfl, fun q => absurd q hn⟩
def zCall (ev : Nat → Nat → Nat → zL → List zV → zS → Option zO) (d y : Nat) (as : List zV) (S : zS) (k : Option zV → zS → Option zO) : Option zO :=
  if 900 ≤ y then (if 12 ≤ d then (match zBi y as with
    | some r => k r S
    | none => none) else none)
  else match zPd y d with
    | none => none
    | some e => if (zargs as).length ≤ zMx y then (match ev e y 0 (zent (zMx y) as) [] S with
      | some x => k x.1 x.2
      | none => none) else none
def zlk (y pc : Nat) : Option (Instr × Nat × Nat × Nat × Nat × Nat) := (zCd y).lookup pc
def zEv : Nat → Nat → Nat → Nat → zL → List zV → zS → Option zO
  | 0, _, _, _, _, _, _ => none
  | n + 1, d, y, pc, L, st, S => match zlk y pc with
    | none => none
    | some q => zStep q.1 q.2.1 q.2.2.1 q.2.2.2.1 q.2.2.2.2.1 pc y L st S (fun p L s S => zEv n d y p L s S) (fun y' as S κ => zCall (zEv n) d y' as S κ) (fun r S => some (r, S)) none
/-- does zStep of any kind end as the data says -/
theorem zStep_fold {α : Type} (i : Instr) (len a b c pc y : Nat) (L : zL) (st : List zV) (S : zS)
    (k : Nat → zL → List zV → zS → α) (call : Nat → List zV → zS → (Option zV → zS → α) → α) (ret : Option zV → zS → α) (bad : α) :
    zStep i len a b c pc y L st S k call ret bad = zFold k call ret bad (zStep0 i len a b c pc y L st S) := by
  unfold zStep0
  exact (zStep_n (zFold k call ret bad) (fun x => zfr (zNf x) k bad) i len a b c pc y L st S (fun p L s S => some (.inl (p, L, s, S))) (fun y as S κ => some (.inr (.inl (y, as, S, fun r S => zNf (κ r S))))) call (fun r S => some (.inr (.inr (r, S)))) none (fun _ _ _ _ => rfl) (fun _ _ _ _ => rfl) rfl).symm
theorem zEv_s (n d y pc : Nat) (L : zL) (st : List zV) (S : zS) : zEv (n + 1) d y pc L st S = match zlk y pc with
    | none => none
    | some q => zFold (fun p L s S => zEv n d y p L s S) (fun y' as S κ => zCall (zEv n) d y' as S κ) (fun r S => some (r, S)) none (zStep0 q.1 q.2.1 q.2.2.1 q.2.2.2.1 q.2.2.2.2.1 pc y L st S) := by
  rw [zEv]
  split
  · rfl
  · exact zStep_fold ..
theorem zCall_mono {ev ev' : Nat → Nat → Nat → zL → List zV → zS → Option zO} {d y : Nat} {as : List zV} {S : zS} {k k' : Option zV → zS → Option zO} {x : zO}
    (hev : ∀ d y pc L st S x, ev d y pc L st S = some x → ev' d y pc L st S = some x) (hk : ∀ r S x, k r S = some x → k' r S = some x) (h : zCall ev d y as S k = some x) : zCall ev' d y as S k' = some x := by
  unfold zCall at h ⊢
  split
  · rename_i h0
    rw [if_pos h0] at h
    split at h
    · rename_i h1
      rw [if_pos h1]
      cases hz : zBi y as with
      | none => rw [hz] at h; cases h
      | some r => rw [hz] at h; exact hk _ _ _ h
    · cases h
  · rename_i h0
    rw [if_neg h0] at h
    cases hpd : zPd y d with
    | none => rw [hpd] at h; cases h
    | some e =>
      rw [hpd] at h
      dsimp only at h ⊢
      split at h
      · rename_i hl
        rw [if_pos hl]
        cases he : ev e y 0 (zent (zMx y) as) [] S with
        | none => rw [he] at h; cases h
        | some q =>
          rw [he] at h
          rw [hev _ _ _ _ _ _ _ he]
          exact hk _ _ _ h
      · cases h
theorem zEv_mono1 : ∀ (n d y pc : Nat) (L : zL) (st : List zV) (S : zS) (x : zO), zEv n d y pc L st S = some x → zEv (n + 1) d y pc L st S = some x
  | 0, _, _, _, _, _, _, _, h => by cases h
  | n + 1, d, y, pc, L, st, S, x, h => by
    rw [zEv_s] at h ⊢
    cases hq : zlk y pc with
    | none => rw [hq] at h; cases h
    | some q =>
      rw [hq] at h
      dsimp only at h ⊢
      generalize zStep0 q.1 q.2.1 q.2.2.1 q.2.2.2.1 q.2.2.2.2.1 pc y L st S = z at h ⊢
      match z, h with
      | some (.inl f), h => exact zEv_mono1 n _ _ _ _ _ _ _ h
      | some (.inr (.inl q)), h =>
        refine zCall_mono (k := fun r S => zfr (q.2.2.2 r S) (fun p L s S => zEv n d y p L s S) none) (k' := fun r S => zfr (q.2.2.2 r S) (fun p L s S => zEv (n + 1) d y p L s S) none) (fun d y pc L st S x => zEv_mono1 n d y pc L st S x) (fun r S x h => ?_) h
        cases hz : q.2.2.2 r S with
        | none => rw [hz] at h; cases h
        | some g => rw [hz] at h; exact zEv_mono1 n _ _ _ _ _ _ _ h
      | some (.inr (.inr r)), h => exact h
      | none, h => exact h
theorem zEv_mono {n m d y pc : Nat} {L : zL} {st : List zV} {S : zS} {x : zO} (hnm : n ≤ m) (h : zEv n d y pc L st S = some x) : zEv m d y pc L st S = some x := by
  induction hnm with
  | refl => exact h
  | step _ ih => exact zEv_mono1 _ _ _ _ _ _ _ _ ih
/-- the machine comes from here to an end with Q -/
def Zgo (d y pc : Nat) (L : zL) (st : List zV) (S : zS) (Q : Option zV → zS → Prop) : Prop := ∃ (n : Nat) (x : zO), zEv n d y pc L st S = some x ∧ Q x.1 x.2
def zCp (d y : Nat) (as : List zV) (S : zS) (k : Option zV → zS → Prop) : Prop :=
  if 900 ≤ y then (if 12 ≤ d then (match zBi y as with
    | some r => k r S
    | none => False) else False)
  else match zPd y d with
    | none => False
    | some e => if (zargs as).length ≤ zMx y then Zgo e y 0 (zent (zMx y) as) [] S k else False
theorem zCp_of {n d y : Nat} {as : List zV} {S : zS} {k : Option zV → zS → Option zO} {K : Option zV → zS → Prop} {x : zO} (hk : ∀ r S, k r S = some x → K r S) (h : zCall (zEv n) d y as S k = some x) : zCp d y as S K := by
  unfold zCall at h
  unfold zCp
  split
  · rename_i h0
    rw [if_pos h0] at h
    split at h
    · rename_i h1
      rw [if_pos h1]
      cases hz : zBi y as with
      | none => rw [hz] at h; cases h
      | some r => rw [hz] at h; exact hk _ _ h
    · cases h
  · rename_i h0
    rw [if_neg h0] at h
    cases hpd : zPd y d with
    | none => rw [hpd] at h; cases h
    | some e =>
      rw [hpd] at h
      dsimp only at h ⊢
      split at h
      · rename_i hl
        rw [if_pos hl]
        cases he : zEv n e y 0 (zent (zMx y) as) [] S with
        | none => rw [he] at h; cases h
        | some q =>
          rw [he] at h
          exact ⟨n, q, he, hk _ _ h⟩
      · cases h
theorem zCp_to {d y : Nat} {as : List zV} {S : zS} {k : Nat → Option zV → zS → Option zO} {K : Option zV → zS → Prop} {Q : Option zV → zS → Prop} (hK : ∀ r S, K r S → ∃ n x, k n r S = some x ∧ Q x.1 x.2) (hm : ∀ n m r S x, n ≤ m → k n r S = some x → k m r S = some x)
    (h : zCp d y as S K) : ∃ n x, zCall (zEv n) d y as S (k n) = some x ∧ Q x.1 x.2 := by
  unfold zCp at h
  unfold zCall
  split at h
  · rename_i h0
    split at h
    · rename_i h1
      cases hz : zBi y as with
      | none => rw [hz] at h; exact h.elim
      | some r =>
        rw [hz] at h
        obtain ⟨n, x, h3, h2⟩ := hK _ _ h
        exact ⟨n, x, by rw [if_pos h0, if_pos h1]; exact h3, h2⟩
    · exact h.elim
  · rename_i h0
    cases hpd : zPd y d with
    | none => rw [hpd] at h; exact h.elim
    | some e =>
      rw [hpd] at h
      dsimp only at h
      split at h
      case isFalse => exact h.elim
      rename_i hl
      obtain ⟨n, q, h2, h3⟩ := h
      obtain ⟨m, x, h4, h5⟩ := hK _ _ h3
      refine ⟨max n m, x, ?_, h5⟩
      rw [if_neg h0]
      dsimp only
      rw [if_pos hl, zEv_mono (Nat.le_max_left n m) h2]
      exact hm _ _ _ _ _ (Nat.le_max_right n m) h4
theorem Zgo_iff {d y pc : Nat} {L : zL} {st : List zV} {S : zS} {Q : Option zV → zS → Prop} {i : Instr} {len a b c p : Nat} (hq : zlk y pc = some (i, len, a, b, c, p)) :
    Zgo d y pc L st S Q ↔ zStep i len a b c pc y L st S (fun p L s S => Zgo d y p L s S Q) (zCp d) Q False := by
  rw [zStep_fold]
  have hs : ∀ n, zEv (n + 1) d y pc L st S = zFold (fun p L s S => zEv n d y p L s S) (fun y' as S κ => zCall (zEv n) d y' as S κ) (fun r S => some (r, S)) none (zStep0 i len a b c pc y L st S) := fun n => by rw [zEv_s, hq]
  generalize zStep0 i len a b c pc y L st S = z at hs ⊢
  constructor
  · rintro ⟨n, x, h, hQ⟩
    cases n with
    | zero => cases h
    | succ n =>
      rw [hs] at h
      match z, h with
      | some (.inl f), h => exact ⟨n, x, h, hQ⟩
      | some (.inr (.inl q)), h =>
        refine zCp_of (k := fun r S => zfr (q.2.2.2 r S) (fun p L s S => zEv n d y p L s S) none) (fun r S h => ?_) h
        cases hz : q.2.2.2 r S with
        | none => rw [hz] at h; cases h
        | some g => rw [hz] at h; exact ⟨n, x, h, hQ⟩
      | some (.inr (.inr r)), h => cases h; exact hQ
      | none, h => cases h
  · intro h
    match z, h, hs with
    | some (.inl f), h, hs =>
      obtain ⟨n, x, h1, h2⟩ := h
      exact ⟨n + 1, x, (hs n).trans h1, h2⟩
    | some (.inr (.inl q)), h, hs =>
      obtain ⟨n, x, h1, h2⟩ := zCp_to (Q := Q) (k := fun n r S => zfr (q.2.2.2 r S) (fun p L s S => zEv n d y p L s S) none) (fun r S h => by
        cases hz : q.2.2.2 r S with
        | none => rw [hz] at h; exact h.elim
        | some g =>
          rw [hz] at h
          obtain ⟨n, x, h1, h2⟩ := h
          exact ⟨n, x, h1, h2⟩) (fun n m r S x hnm h => by
        cases hz : q.2.2.2 r S with
        | none => rw [hz] at h; cases h
        | some g => rw [hz] at h; exact zEv_mono hnm h) h
      exact ⟨n + 1, x, (hs n).trans h1, h2⟩
    | some (.inr (.inr r)), h, hs => exact ⟨1, r, hs 0, h⟩
    | none, h, hs => exact h.elim
theorem Zgo.imp {d y pc : Nat} {L : zL} {st : List zV} {S : zS} {Q Q' : Option zV → zS → Prop} (h : Zgo d y pc L st S Q) (hQ : ∀ r S, Q r S → Q' r S) : Zgo d y pc L st S Q' := by
  obtain ⟨n, x, h1, h2⟩ := h
  exact ⟨n, x, h1, hQ _ _ h2⟩
