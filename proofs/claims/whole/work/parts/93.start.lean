/-! the law's entry: all that stands there -/
theorem z_noA {s : State} : ∀ a : Nat, a < s.heap.size → ¬ (fun q => s.heap.size ≤ q) a := fun a ha h => by
  have : s.heap.size ≤ a := h
  omega
theorem z_Ls {s : State} {args : Array Value} {C n d : String} (h : (Cond.laysStatic C n d).before args s = true) : zLs C n d (fun q => s.heap.size ≤ q) s s.heap := by
  obtain ⟨c, k, i, f, a, cell, h0, h1, h2, h3, h4, h5, h6, h7, h8⟩ := Cond.laysStatic_spec h
  exact ⟨c, k, i, f, a, cell, h0, h1, h2, h3, h4, h5, h6, h7, h8, z_noA a (Array.getElem?_eq_some_iff.mp h4).1⟩
theorem z_refZ {s : State} {args : Array Value} {C n d : String} (hl : (Cond.laysStatic C n d).before args s = true) (hi : (Cond.initialized C).before args s = true) (h : (Cond.isRef (.static C n d)).before args s = true) : ∃ v : RefV, va_Z C n d v.v (fun q => s.heap.size ≤ q) s s.heap := by
  obtain ⟨v, hv, hr⟩ := Cond.isRef_spec h
  exact ⟨⟨v, hr⟩, va_Zof hl hi hv z_noA⟩
theorem zFcIn : (zFc.all fun w => decide (w ∈ lw_tbl)) = true := by decide +kernel
theorem z_not {s : State} {args : Array Value} {a b : String} (h : (Cond.not (.castable a b)).before args s = true) : ∃ c1 c2, s.vm.findClass a = some c1 ∧ s.vm.findClass b = some c2 ∧ s.vm.assignable c1 c2 = false := by
  simp only [Cond.before, Cond.holds, Cond.value] at h
  cases h1 : s.vm.findClass a with
  | none => simp [h1] at h
  | some c1 =>
    cases h2 : s.vm.findClass b with
    | none => simp [h1, h2] at h
    | some c2 =>
      simp [h1, h2] at h
      exact ⟨c1, c2, rfl, rfl, h⟩
theorem zNestT : (zNestP.all fun p => match zTw p with
    | some w => w.onTables
    | none => true) = true := by decide +kernel
theorem z_Xs {s : State} {b L : Nat} {xs : Nat → Int32} (hts : ∀ w ∈ lw_tbl, w.before #[Value.ref b] s = true) (hgv : (Jvm.Cond.and given_1 narrow_1).before #[Value.ref b] s = true) (hX : va_X b L xs s s.heap) (hb : b < s.heap.size) :
    ∃ ad : zAd, ad 99 0 = b ∧ (∀ i j, i < 6 → j < 6 → ad 90 i = ad 90 j → i = j) ∧ zXs (fun q => s.heap.size ≤ q) ad xs L s s.heap := by
  have hs := flat_of_before _ hgv
  obtain ⟨wa, hw1, hw2⟩ := z_way hts hgv
  obtain ⟨sa, o1, o2, o3, t, o4, o5⟩ := z_ops hts hgv
  refine ⟨fun c i => if c = 90 then wa i else if c = 91 then sa else b, rfl, fun i j hi hj h => hw2 i j hi hj h, ?_⟩
  refine ⟨fun p hp w hw => ?_, fun a ha => ?_, fun i hi => ?_, hX, ⟨hb, z_noA b hb⟩, fun q hq => hq, ?_⟩
  · have := List.all_eq_true.mp zNestT p hp
    rw [hw] at this
    exact va_Nw.of this (hts w (zTw_in hw))
  · rcases ha with rfl | rfl | rfl | rfl
    · exact va_AO.of (hts _ (by decide +kernel))
    · exact va_AO.of (hts _ (by decide +kernel))
    · exact va_AO.of (hts _ (by decide +kernel))
    · exact va_AO.of (hts _ (by decide +kernel))
  · obtain ⟨z1, ⟨cell, -, -, -, z2⟩, -⟩ := hw1 i hi
    exact ⟨z1, z2⟩
  · refine ⟨z_strs hts hgv, ⟨o1, o2, o3, t, o4, o5⟩, ?_, ?_, ⟨z_Ls (hts _ (by decide +kernel)), z_Ls (hts _ (by decide +kernel))⟩, fun w hw => ?_, z_not (hs _ (by decide +kernel))⟩
    · obtain ⟨v1, h1⟩ := z_refZ (C := Bundle.tN) (n := "UNASSIGNED_STACK") (d := Bundle.steD) (hts _ (by decide +kernel)) (hts _ (by decide +kernel)) (hs _ (by decide +kernel))
      obtain ⟨v2, h2⟩ := z_refZ (C := Bundle.tN) (n := "SUPPRESSED_SENTINEL") (d := Bundle.listD) (hts _ (by decide +kernel)) (hts _ (by decide +kernel)) (hs _ (by decide +kernel))
      exact ⟨v1, v2, h1, h2⟩
    · exact va_Zof (hts _ (by decide +kernel)) (hts _ (by decide +kernel)) (Cond.eq_int (hs (Cond.eq (.static "java/lang/String" "COMPACT_STRINGS" "Z") (.int 1)) (by decide +kernel)) rfl) z_noA
    · have := List.all_eq_true.mp zFcIn w hw
      simp only [decide_eq_true_eq] at this
      exact va_tabs (zFc_ok w hw).2 rfl (hts w this)
theorem z_Rl {s : State} {L : Nat} {xs : Nat → Int32} {D : va_G} {ad : zAd} (hK : va_K D zCl [] s) (hj : ∀ i j, i < 6 → j < 6 → ad 90 i = ad 90 j → i = j) : zRl (fun q => s.heap.size ≤ q) D xs L ad (fun _ => 0) [] [] (zS0 xs L) s s.heap := by
  have hcnt : ∀ c i, i < (zS0 xs L).2.2.1 c → (c = 90 ∧ i < 6) ∨ (c = 91 ∧ i = 0) ∨ (c = 99 ∧ i = 0) := fun c i h => by
    have h' : i < (if c = 90 then 6 else if c = 91 ∨ c = 99 then 1 else 0) := h
    by_cases h1 : c = 90
    · rw [if_pos h1] at h'; exact Or.inl ⟨h1, h'⟩
    · rw [if_neg h1] at h'
      by_cases h2 : c = 91 ∨ c = 99
      · rw [if_pos h2] at h'
        rcases h2 with h2 | h2
        · exact Or.inr (Or.inl ⟨h2, by omega⟩)
        · exact Or.inr (Or.inr ⟨h2, by omega⟩)
      · rw [if_neg h2] at h'; omega
  have hno : ∀ c, zHas c → ¬ 0 < (zS0 xs L).2.2.1 c := fun c hc h => by
    rcases hcnt c 0 h with ⟨rfl, _⟩ | ⟨rfl, _⟩ | ⟨rfl, _⟩
    · rcases hc with q | ⟨n, q⟩
      · omega
      · cases q
    · rcases hc with q | ⟨n, q⟩
      · omega
      · cases q
    · rcases hc with q | ⟨n, q⟩
      · omega
      · cases q
  refine ⟨fun k q hk => (by cases hk), ⟨fun i j p q hi => (by cases hi), fun k q hk => (by cases hk)⟩, hK, fun c i hc hi => absurd (Nat.lt_of_le_of_lt (Nat.zero_le _) hi) (hno c hc), fun c i c' i' hcc hi hi' heq => ?_, fun c n hn hc => absurd hc (hno c (Or.inr ⟨n, hn⟩)), fun _ _ _ => trivial, fun c i k hi => ⟨?_, rfl⟩, ⟨rfl, rfl, rfl⟩, rfl, fun j hj' => ?_, fun c hc => ?_⟩
  · rcases hcc with rfl | ⟨h1, h2⟩
    · refine ⟨rfl, ?_⟩
      rcases hcnt c i hi with ⟨rfl, q⟩ | ⟨rfl, q⟩ | ⟨rfl, q⟩
      · rcases hcnt 90 i' hi' with ⟨_, q'⟩ | ⟨q', _⟩ | ⟨q', _⟩
        · exact hj i i' q q' heq
        · omega
        · omega
      · rcases hcnt 91 i' hi' with ⟨q', _⟩ | ⟨_, q'⟩ | ⟨q', _⟩ <;> omega
      · rcases hcnt 99 i' hi' with ⟨q', _⟩ | ⟨q', _⟩ | ⟨_, q'⟩ <;> omega
    · exact absurd (Nat.lt_of_le_of_lt (Nat.zero_le _) hi) (hno c h1)
  · show (if c = 99 ∧ i = 0 ∧ k < L then (xs k).toInt else 0) = 0
    refine if_neg (fun q => ?_)
    obtain ⟨rfl, rfl, _⟩ := q
    have : (1 : Nat) ≤ 0 := hi
    omega
  · show Int32.ofInt (if 99 = 99 ∧ 0 = 0 ∧ j < L then (xs j).toInt else 0) = xs j
    rw [if_pos ⟨rfl, rfl, hj'⟩]
    exact zo_of (xs j)
  · rcases hcnt c 0 hc with ⟨q, _⟩ | ⟨q, _⟩ | ⟨q, _⟩
    · exact Or.inr (Or.inl q)
    · exact Or.inr (Or.inr (Or.inr q))
    · exact Or.inr (Or.inr (Or.inl q))
/-- from Z's answer to the claim's walk -/
theorem whole_start {p : Program} {e : Env} {s : State} {m : MethodId} {below : List Frame} {meth : Method} {c : Code} (hlaw : zLaw) (l : Launch) (hoff : ∀ e : Env, l.admits e → e.platform.stackTraces = false) {b L : Nat} {xs : Nat → Int32} (hL : L ≤ 1536) (hnm : meth.name = "law") (C0 : lw_At p s m meth c b L xs) : W p l e room_1 s m #[Value.ref b] below meth c s.heap [] 0 0 (lw_Z below #[Value.ref b] s) (entryFrame m ([Value.ref b] : List Value).toArray 7) := by
  obtain ⟨hx, hb, hr, hml, hown, hts, hX, hbl, hlk, hgv⟩ := C0
  obtain ⟨n, S', hev, hc1, hc2⟩ := hlaw L xs hL
  obtain ⟨D, hK⟩ := z_K (s := s) (args := #[Value.ref b]) (fun w hw => hts w (List.mem_filter.mp hw).1)
  obtain ⟨ad, ha, hj, hXs⟩ := z_Xs hts hgv hX hbl
  have hR := z_Rl (xs := xs) (L := L) hK hj
  rw [lg_entry_eq]
  have has : ([Value.ref b] : List Value) = [zq (some (99, 0))].map (zcv ad) := by
    show [Value.ref b] = [Value.ref (ad 99 0)]
    rw [ha]
  rw [has]
  have hsok : zSok (zS0 xs L) [zq (some (99, 0))] := fun v hv => by
    rcases List.mem_singleton.mp hv with rfl
    show 0 < 1
    decide
  refine zBd_all hoff n 2000 128 0 _ [] (zS0 xs L) _ S' hev (by decide) p e _ s m _ below meth c _ s.heap [] 0 0 _ ad (fun _ => 0) [] [] ⟨hx, hb, hml, hown, fun w hw => (by rw [← has]; exact hts w (List.mem_filter.mp hw).1), hnm, fun h hh => by cases hh⟩ va_S.rf hR hXs (zent_lv (by decide)) (zent_ok hsok) (fun v hv => by cases hv) (by show 2000 ≤ 2048; decide) (by show 32 * 2000 ≤ 84000; decide) ?_ ?_ ?_ ?_
  · show 0 + S'.2.2.2.1 ≤ 601024 + 0; omega
  · show 0 + S'.2.2.2.2.1 ≤ 7293034 + 0; omega
  · intro H' locs' cells' slots' ls' pc' st' ad' dA' ws' tys' f1 f2 f3 f4 f5 f6 f7
    have g6 : cells' = S'.2.2.2.1 := by have : cells' + 0 = 0 + S'.2.2.2.1 := f6; omega
    have g7 : slots' = S'.2.2.2.2.1 := by have : slots' + 0 = 0 + S'.2.2.2.2.1 := f7; omega
    rcases f4 with ⟨q, x, e1, rfl, e3, e4⟩ | ⟨q, x, e1, rfl, e3⟩ | ⟨q, e1, rfl, e3⟩
    · have hok := (zOkAll 128 (by decide)).2 _ (zlk_mem e1)
      simp only [zEok, Bool.and_eq_true, decide_eq_true_eq] at hok
      have hx1 : x = 1 := by
        injection e3 with e3
        injection e3 with e3
        exact e3.symm
      subst hx1
      rw [← has]
      refine va_forget (fun q hq => f1.2.2 q hq) (z_widen (cells' := 601024) (slots' := 7293034) (by omega) (by omega) ?_)
      exact lw_ret hx hb hr hlk hok.1.1
    · cases e3
    · cases e3
  · intro H' locs' cells' slots' ls' pc' st' ad' dA' ws' tys' x a b' q _ _ _ _ _ e3
    cases e3
