/-! the law's entry: the constants, the strings, the words -/
theorem zWayOk : ((List.range 6).all fun i => decide (Cond.exactly (.static zWayC (zWayN.getD i "") zWayD) zWayC ∈ Jvm.Free.XT.flat (Jvm.Cond.and given_1 narrow_1)) && ((List.range 6).all fun j => i == j || decide (Cond.not (.eq (.static zWayC (zWayN.getD i "") zWayD) (.static zWayC (zWayN.getD j "") zWayD)) ∈ Jvm.Free.XT.flat (Jvm.Cond.and given_1 narrow_1)) || decide (Cond.not (.eq (.static zWayC (zWayN.getD j "") zWayD) (.static zWayC (zWayN.getD i "") zWayD)) ∈ Jvm.Free.XT.flat (Jvm.Cond.and given_1 narrow_1)))) = true := by decide +kernel
theorem z_way {s : State} {args : Array Value} (hts : ∀ w ∈ lw_tbl, w.before args s = true) (hgv : (Jvm.Cond.and given_1 narrow_1).before args s = true) : ∃ ad : Nat → Nat, va_En zWayC zWayD zWayN [] ad (fun q => s.heap.size ≤ q) s s.heap := by
  have hs := flat_of_before _ hgv
  have hall := List.all_eq_true.mp zWayOk
  refine va_Enof (fun i hi => hts _ (zWayL i hi)) (hts _ (by decide +kernel)) (fun i hi => ?_) (fun q hq => by cases hq) (fun i j hi hj hne => ?_) (fun a ha h => by have : s.heap.size ≤ a := h; omega)
  · have := hall i (List.mem_range.mpr hi)
    simp only [Bool.and_eq_true, decide_eq_true_eq] at this
    exact hs _ this.1
  · have := hall i (List.mem_range.mpr hi)
    simp only [Bool.and_eq_true, decide_eq_true_eq] at this
    have h2 := List.all_eq_true.mp this.2 j (List.mem_range.mpr hj)
    simp only [Bool.or_eq_true, beq_iff_eq, decide_eq_true_eq] at h2
    rcases h2 with (h2 | h2) | h2
    · exact absurd h2 hne
    · exact Or.inl (hs _ h2)
    · exact Or.inr (hs _ h2)
theorem zStrOk : (zStrs.all fun q => decide (Cond.stringRef q.1 q.2.1 q.2.2 ∈ lw_tbl) && decide (Cond.exactly (.string q.1 q.2.1) "java/lang/String" ∈ Jvm.Free.XT.flat (Jvm.Cond.and given_1 narrow_1))) = true := by decide +kernel
theorem z_strs {s : State} {args : Array Value} (hts : ∀ w ∈ lw_tbl, w.before args s = true) (hgv : (Jvm.Cond.and given_1 narrow_1).before args s = true) : ∀ q ∈ zStrs, ∃ a, vk_R q.1 q.2.1 q.2.2 a s := by
  intro q hq
  have hs := flat_of_before _ hgv
  have := List.all_eq_true.mp zStrOk q hq
  simp only [Bool.and_eq_true, decide_eq_true_eq] at this
  obtain ⟨a, c, cell, k, he, -⟩ := Cond.exactly_spec (hs _ this.2)
  exact ⟨a, vk_R.of (hts _ this.1) he⟩
theorem zOpsOk : ((List.range 5).all fun j => decide (Cond.eq (.elem (.field (.string "LeavingMachine$Reader" 174) "java/lang/String" "value" "[B") (.int (Int32.ofNat j))) (.int (([[43, 45, 42, 47, 60]] : List (List Int32)).getD 0 [] |>.getD j 0)) ∈ Jvm.Free.XT.flat (Jvm.Cond.and given_1 narrow_1))) = true := by decide +kernel
theorem z_ops {s : State} {args : Array Value} (hts : ∀ w ∈ lw_tbl, w.before args s = true) (hgv : (Jvm.Cond.and given_1 narrow_1).before args s = true) : ∃ a, vk_R "LeavingMachine$Reader" 174 "+-*/<" a s ∧ va_O "java/lang/String" a (fun q => s.heap.size ≤ q) s s.heap ∧ va_OF "java/lang/String" "coder" "B" (.int 0) a (fun q => s.heap.size ≤ q) s s.heap ∧ ∃ t, va_OF "java/lang/String" "value" "[B" (.ref t) a (fun q => s.heap.size ≤ q) s s.heap ∧ va_T .byte t 5 (fun j => .int (zOpb j)) (fun q => s.heap.size ≤ q) s s.heap := by
  have hs := flat_of_before _ hgv
  have hel := List.all_eq_true.mp zOpsOk
  obtain ⟨adK, adV, hS, hev⟩ := vk_Sof (args := args) (s := s) (N := 1) (tm := fun _ => .string "LeavingMachine$Reader" 174) (len := [5]) (byt := [[43, 45, 42, 47, 60]]) (A := fun q => s.heap.size ≤ q) (fun i hi => by
    obtain rfl : i = 0 := by omega
    decide) (fun i _ => hs _ (by decide +kernel)) (fun i _ => hs _ (by decide +kernel)) (fun i _ => hs _ (by decide +kernel)) (fun i hi => by
    obtain rfl : i = 0 := by omega
    exact hs _ (by decide +kernel)) (fun i hi j hj => by
    obtain rfl : i = 0 := by omega
    have := hel j (List.mem_range.mpr hj)
    simp only [decide_eq_true_eq] at this
    exact hs _ this) (fun i j hi hj hne => absurd (by omega : i = j) hne) (fun a ha h => by have : s.heap.size ≤ a := h; omega)
  obtain ⟨h1, h2, h3, h4⟩ := hS.1 0 (by decide)
  exact ⟨adK 0, vk_R.of (hts _ (by decide +kernel)) (hev 0 (by decide)), h1, h2, adV 0, h3, h4⟩
