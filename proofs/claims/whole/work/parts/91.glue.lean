/-! the law's entry: what stands there -/
def zS0 (xs : Nat → Int32) (L : Nat) : zS := (fun c i k => if c = 99 ∧ i = 0 ∧ k < L then (xs k).toInt else 0, fun _ _ _ => none, fun c => if c = 90 then 6 else if c = 91 ∨ c = 99 then 1 else 0, 0, 0, L)
/-- the law's answer on every script, in Z -/
def zLaw : Prop := ∀ (L : Nat) (xs : Nat → Int32), L ≤ 1536 → ∃ n S', zEv n 2000 128 0 (zent 7 [zq (some (99, 0))]) [] (zS0 xs L) = some (some (zi 1), S') ∧ S'.2.2.2.1 ≤ 601024 ∧ S'.2.2.2.2.1 ≤ 7293034
theorem z_widen {p : Program} {l : Launch} {e : Env} {R : Room} {s : State} {m : MethodId} {args : Array Value} {below : List Frame} {meth : Method} {c : Code} {H : Heap} {locs : List Loc} {cells slots cells' slots' : Nat} {Q : State → Prop} {g : JFrame} (hc : cells ≤ cells') (hs : slots ≤ slots') (k : W p l e R s m args below meth c H locs cells' slots' Q g) : W p l e R s m args below meth c H locs cells slots Q g := fun T hT X => k T hT { X with same := X.same.mono hc hs }
theorem zClG : ∀ c : Nat, c < 12 → zCl[c]? = some (zNm c, zT c, zN c) := by
  intro c hc
  match c, hc with
  | 0, _ => rfl
  | 1, _ => rfl
  | 2, _ => rfl
  | 3, _ => rfl
  | 4, _ => rfl
  | 5, _ => rfl
  | 6, _ => rfl
  | 7, _ => rfl
  | 8, _ => rfl
  | 9, _ => rfl
  | 10, _ => rfl
  | 11, _ => rfl
theorem z_K {s : State} {args : Array Value} (hts : ∀ w ∈ zGW, w.before args s = true) : ∃ D : va_G, va_K D zCl [] s := by
  have h : ∀ c : Nat, ∃ q : ClassId × (Nat → Nat), c < 12 → u_Kn s (zNm c) (zT c) (zN c) q.1 q.2 := fun c => by
    by_cases hc : c < 12
    · obtain ⟨a, b, hk⟩ := u_known hts (zFw hc) (hts _ (zIns hc).1)
      exact ⟨(a, b), fun _ => hk⟩
    · exact ⟨(0, fun _ => 0), fun q => absurd q hc⟩
  refine ⟨(fun c => (Classical.choose (h c)).1, fun c => (Classical.choose (h c)).2), fun c q hq => ?_, fun k q hk => by cases hk⟩
  have hc : c < 12 := (List.getElem?_eq_some_iff.mp hq).1
  rw [zClG c hc] at hq
  cases hq
  exact Classical.choose_spec (h c) hc
theorem zWayL : ∀ i, i < 6 → Cond.laysStatic zWayC (zWayN.getD i "") zWayD ∈ lw_tbl := by
  intro i hi
  match i, hi with
  | 0, _ => exact by decide +kernel
  | 1, _ => exact by decide +kernel
  | 2, _ => exact by decide +kernel
  | 3, _ => exact by decide +kernel
  | 4, _ => exact by decide +kernel
  | 5, _ => exact by decide +kernel
