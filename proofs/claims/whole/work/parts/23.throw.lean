/-! throwing: the exceptions of the class's own methods -/
section Rb
variable {p : Program} {l : Launch} {e : Env} {R : Room} {s : State} {m : MethodId} {args : Array Value} {below : List Frame} {meth : Method} {c : Code} {T : State} {locs : List Loc} {cells slots : Nat}
/-- the walk goes on as if it began here -/
theorem z_rebase (X : Stand p l e R s m args below meth c T locs cells slots) {R2 : Room} (h1 : R2.frames ≤ R.frames) (h2 : R2.locals ≤ R.locals) (h3 : cells + R2.cells ≤ R.cells) (h4 : slots + R2.slots ≤ R.slots) :
    Stand p l e R2 (T.setFrames (.invoking m args :: below)) m args below meth c T [] 0 0 := by
  obtain ⟨g0, hg⟩ := Option.isSome_iff_exists.mp X.here.top
  obtain ⟨r, hr⟩ := State.topJava?_eq_some.mp hg
  have hcur : T.cur < T.threads.size := State.cur_lt_of_frames hr
  have hf : (T.setFrames (.invoking m args :: below)).frames = .invoking m args :: below := State.frames_setFrames _ hcur
  have hm : (T.setFrames (.invoking m args :: below)).vm.method? m = some meth := X.method'
  have e1 : ∀ m', (T.setFrames (.invoking m args :: below)).vm.method? m' = s.vm.method? m' := fun m' => by
    show T.vm.method? m' = _
    rw [X.warmed.alike.method?]
  refine ⟨X.admits, X.cas, X.clock, hf, ?_, ?_, hm, X.code, X.here, X.tail, State.WarmedH.refl (T.setFrames (.invoking m args :: below)), (State.stackLimits_setFrames _ _ _).symm, (State.stackBytes_setFrames _ _).symm, ?_⟩
  · refine State.hasRoom_ride (s := s) (r := R) ?_ ?_ ?_ ?_ ?_ ?_ ?_ X.room
    · rw [hf, X.frames]; simp only [List.length_cons]; omega
    · rw [State.localsInUse_invoking hf hm X.code, State.localsInUse_invoking X.frames X.method X.code]; omega
    · rw [State.stackLimits_setFrames]; exact X.limits
    · rw [State.stackBytes_setFrames]; exact X.bytes
    · have := X.heapSize
      show T.heap.size + _ ≤ _
      omega
    · have := X.used
      show T.slotsUsed + _ ≤ _
      omega
    · exact X.book
  · have h := X.hears
    cases below with
    | nil => simp only [State.hears, e1] at h ⊢; exact h
    | cons f r =>
      cases f <;> (simp only [State.hears, State.code?_eq, e1] at h ⊢; try exact h)
  · obtain ⟨t, ht, -⟩ := State.frames_cons hr
    obtain ⟨t2, ht2, -⟩ := State.frames_cons hf
    have h := (State.sameButNew.refl (T.setFrames (.invoking m args :: below)) ht2).setFrames T.frames (State.cur_lt_of_frames hf)
    rw [State.setFrames_setFrames, State.setFrames_self ht] at h
    exact h
end Rb
theorem z_isRef {C n d : String} {v : RefV} {A : Nat → Prop} {U : State} (h : va_Z C n d v.v A U U.heap) (args : Array Value) : (Cond.isRef (.static C n d)).before args U = true := by
  obtain ⟨cf, kf, fi, f, a, cell, h1, h2, h3, h4, h5, h6, h7, -⟩ := h
  obtain ⟨v, hv⟩ := v
  simp only [Cond.before, Cond.holds, Cond.value, Term.eval, State.fieldNamed?]
  simp [h1, h2, h4, h5, h6, h7]
  cases v <;> first | rfl | cases hv
def zXn (a : Nat) : String := if a = 92 then "java/lang/IllegalArgumentException" else if a = 93 then "java/lang/IllegalStateException" else "java/lang/IndexOutOfBoundsException"
def zXi (a : Nat) : Nat := if a = 92 then 78 else if a = 93 then 85 else 97
def zXc : List String := ["java/lang/RuntimeException", "java/lang/Exception"]
def zXp (a : Nat) : List Nat := if a = 92 then [1019, 3185, 3194, 3198, 3201, 3203, 3186, 3187, 1033, 1034, 3188, 3193, 3199, 3219, 3175, 3220, 3177, 3221, 3179, 3189, 3190, 3191, 3192, 3181, 3215, 3216, 3218, 3181, 3206, 3207, 3208, 3209, 3167, 3209, 3210, 3211, 3212, 3169, 3212, 3213, 3214, 3215, 3171, 3205, 3164, 3165, 3172, 3173, 3174, 3176, 3178, 3180, 0, 0, 3184, 3183, 3182] else if a = 93 then [1019, 3185, 3194, 3198, 3201, 3203, 3186, 3187, 1033, 1034, 3188, 3193, 3199, 3219, 3175, 3220, 3177, 3221, 3179, 3189, 3190, 3191, 3192, 3181, 3215, 3216, 3218, 3181, 4001, 4002, 4003, 3209, 3167, 3209, 3210, 3211, 3212, 3169, 3212, 3213, 3214, 3215, 3171, 4000, 3231, 3232, 3233, 3196, 3234, 3235, 3236, 3237, 0, 0, 3184, 3183, 3238] else [1019, 3185, 3194, 3198, 3201, 3203, 3186, 3187, 1033, 1034, 3188, 3193, 3199, 3219, 3175, 3220, 3177, 3221, 3179, 3189, 3190, 3191, 3192, 3181, 3215, 3216, 3218, 3181, 4095, 4096, 4097, 3209, 3167, 3209, 3210, 3211, 3212, 3169, 3212, 3213, 3214, 3215, 3171, 4094, 4085, 4086, 4087, 3197, 4088, 4089, 4090, 4091, 0, 0, 3184, 3183, 4092]
def zXq (a : Nat) : Nat := if a = 92 then 1022 else if a = 93 then 1023 else 1026
def zR1 : Cond := .isRef (.static Bundle.tN "UNASSIGNED_STACK" Bundle.steD)
def zR2 : Cond := .isRef (.static Bundle.tN "SUPPRESSED_SENTINEL" Bundle.listD)
def zR3 : Cond := .laysStatic Bundle.tN "UNASSIGNED_STACK" Bundle.steD
def zR4 : Cond := .laysStatic Bundle.tN "SUPPRESSED_SENTINEL" Bundle.listD
def zXat (a : Nat) : List Cond := Bundle.ownAtoms "LeavingMachine" (zXi a) (zXn a) zXc
theorem zXaOk : [92, 93, 94].all (fun a => decide ((zXat a).length = (zXp a).length) && ((zXat a).zip (zXp a)).all (fun q => decide (q.1 = zR1) || decide (q.1 = zR2) || decide (q.1 = zR3) || decide (q.1 = zR4) || decide (q.1 ∈ zFc) || (decide (zTw q.2 = some q.1) && goodWord q.1)) &&
    decide (zTw (zXq a) = some (.initialized (zXn a))) && Bundle.fit (zXn a) && zXc.all Bundle.fit && decide (Cond.instantiable (zXn a) 6 ∈ zXat a)) = true := by decide +kernel
theorem zXsOk : (List.range 129).all (fun y => (zCd y).all (fun e => match e.2.1 with
    | .new x => decide (e.2.2.2.2.2.1 ≠ 7) || (decide (e.2.2.2.1 = 92 ∨ e.2.2.2.1 = 93 ∨ e.2.2.2.1 = 94) && decide (e.2.2.2.2.1 = 6) && decide (zOw y = 0) && decide (zTw e.2.2.2.2.2.2 = some (.classLink "LeavingMachine" x (zXn e.2.2.2.1))) &&
        decide (decode (zB y) (e.1 + 3) = .ok (.dup, 1)) && zStrs.any (fun q => decide (q.1 = "LeavingMachine") && decide (decode (zB y) (e.1 + 4) = .ok (.ldc q.2.1, 2))) && decide (decode (zB y) (e.1 + 6) = .ok (.invokespecial (zXi e.2.2.2.1), 3)) &&
        decide (decode (zB y) (e.1 + 9) = .ok (.athrow, 1)) && decide (zHt y = some []))
    | _ => true)) = true := by decide +kernel
theorem zXat_in {a : Nat} (ha : a = 92 ∨ a = 93 ∨ a = 94) {w : Cond} (hw : w ∈ zXat a) : w = zR1 ∨ w = zR2 ∨ w = zR3 ∨ w = zR4 ∨ w ∈ zFc ∨ w ∈ zGW := by
  have h := List.all_eq_true.mp zXaOk a (by simp; exact ha)
  simp only [Bool.and_eq_true, decide_eq_true_eq] at h
  obtain ⟨⟨⟨⟨⟨h1, h2⟩, -⟩, -⟩, -⟩, -⟩ := h
  obtain ⟨i, hi⟩ := List.getElem?_of_mem hw
  have hl : i < (zXp a).length := by rw [← h1]; exact (List.getElem?_eq_some_iff.mp hi).1
  have h3 : (w, (zXp a)[i]) ∈ (zXat a).zip (zXp a) := by
    refine List.mem_of_getElem? (i := i) ?_
    rw [List.getElem?_zip_eq_some]
    exact ⟨hi, List.getElem?_eq_getElem hl⟩
  have h4 := List.all_eq_true.mp h2 _ h3
  simp only [Bool.or_eq_true, Bool.and_eq_true, decide_eq_true_eq] at h4
  rcases h4 with ((((h4 | h4) | h4) | h4) | h4) | h4
  · exact Or.inl h4
  · exact Or.inr (Or.inl h4)
  · exact Or.inr (Or.inr (Or.inl h4))
  · exact Or.inr (Or.inr (Or.inr (Or.inl h4)))
  · exact Or.inr (Or.inr (Or.inr (Or.inr (Or.inl h4))))
  · exact Or.inr (Or.inr (Or.inr (Or.inr (Or.inr (zGW_of h4.1 h4.2)))))
theorem zXini {a : Nat} (ha : a = 92 ∨ a = 93 ∨ a = 94) : Cond.initialized (zXn a) ∈ zGW ∧ Bundle.fit (zXn a) = true ∧ (∀ n ∈ zXc, Bundle.fit n = true) ∧ Cond.instantiable (zXn a) 6 ∈ zGW := by
  have h := List.all_eq_true.mp zXaOk a (by simp; exact ha)
  simp only [Bool.and_eq_true, decide_eq_true_eq] at h
  obtain ⟨⟨⟨⟨-, h1⟩, h2⟩, h3⟩, h4⟩ := h
  refine ⟨zGW_of h1 rfl, h2, List.all_eq_true.mp h3, ?_⟩
  rcases zXat_in ha h4 with h | h | h | h | h | h
  · cases h
  · cases h
  · cases h
  · cases h
  · simp [zFc] at h
  · exact h
/-- the atoms of an exception, in a state where the words hold -/
theorem zXall {A : Nat → Prop} {ad : zAd} {U : State} {args : Array Value} {a : Nat} (ha : a = 92 ∨ a = 93 ∨ a = 94) (hY : zYs A ad U U.heap) (hts : ∀ w ∈ zGW, w.before args U = true) : ∀ w ∈ zXat a, w.before args U = true := by
  obtain ⟨-, -, ⟨v1, v2, y7, y8⟩, -, ⟨l1, l2⟩, yf, -⟩ := hY
  intro w hw
  rcases zXat_in ha hw with rfl | rfl | rfl | rfl | h | h
  · exact z_isRef y7 args
  · exact z_isRef y8 args
  · exact l1.word args
  · exact l2.word args
  · exact va_any (zFc_ok w h).2 (yf w h)
  · exact hts w h
/-- what is left behind by a throw: the exception x stands, all old cells are as they were -/
def zThP (s : State) (below : List Frame) (H : Heap) (locs : List Loc) (cells slots a : Nat) (U : State) : Prop := ∃ x : Nat,
  U.status = .running ∧ Ended U below (.threw x) ∧ s.WarmedH U.vm ∧ s.sameButNew ({ U with vm := s.vm } : State) locs (cells + 1) (slots + 6) ∧ H.size ≤ U.heap.size ∧ (∀ (q : Nat) (cell : Cell), H[q]? = some cell → U.heap[q]? = some cell) ∧ H.size ≤ x ∧
  ∃ ce : Cell, U.heap[x]? = some ce ∧ ce.vm.isStatics = false ∧ s.vm.findClass (zXn a) = some ce.cls
set_option maxHeartbeats 4000000 in
theorem z_thrW {l : Launch} (hoff : ∀ e : Env, l.admits e → e.platform.stackTraces = false) {A : Nat → Prop} {ad : zAd} {y pc : Nat} {p : Program} {e : Env} {R : Room} {s : State} {m : MethodId} {args : Array Value} {below : List Frame} {meth : Method} {c : Code} {H : Heap} {locs : List Loc} {cells slots : Nat} {ls : Array Slot} {x a b q : Nat}
    (hy : y < 129) (hC : zCx y p s m args meth c) (hY : zYs A ad s s.heap) (hS : va_S A s.heap H locs) (hq : zlk y pc = some (.new x, 3, a, b, 7, q)) (hls : ls.size = zMx y) (hlocks : meth.locks = false) (hfr : 6 ≤ R.frames) (hlo : 90 ≤ R.locals) (hce : cells + 1 ≤ R.cells) (hsl : slots + 6 ≤ R.slots) :
    W p l e R s m args below meth c H locs cells slots (zThP s below H locs cells slots a) (F0 m pc ls []) := by
  obtain ⟨hx, hb, hml, hown, hts, hnm, hht⟩ := hC
  have hm := List.all_eq_true.mp (List.all_eq_true.mp zXsOk y (List.mem_range.mpr hy)) _ (zlk_mem hq)
  simp only [ne_eq, not_true_eq_false, decide_false, Bool.false_or, Bool.and_eq_true, decide_eq_true_eq] at hm
  obtain ⟨⟨⟨⟨⟨⟨⟨⟨ha, rfl⟩, how⟩, hcl⟩, hd3⟩, hd4⟩, hd6⟩, hd9⟩, hh0⟩ := hm
  obtain ⟨qs, hqs, hd4⟩ := List.any_eq_true.mp hd4
  simp only [Bool.and_eq_true, decide_eq_true_eq] at hd4
  obtain ⟨hq1, hd4⟩ := hd4
  have hok := (zOkAll y hy).2 _ (zlk_mem hq)
  simp only [zEok, Bool.and_eq_true, decide_eq_true_eq] at hok
  have hdec := hok.1.1
  obtain ⟨i1, i2, i3, i4⟩ := zXini ha
  have hown1 : s.vm.findClass "LeavingMachine" = some m.cls := by
    rw [how] at hown
    exact hown
  intro T hT X
  have hW := X.warmed
  have X2 := z_rebase (R2 := { frames := R.frames, locals := R.locals, cells := 1, slots := 6 }) X (Nat.le_refl _) (Nat.le_refl _) hce hsl
  have hY2 : zYs A ad (T.setFrames (.invoking m args :: below)) (T.setFrames (.invoking m args :: below)).heap := hY.warm (by
    intro q h1 h2
    show T.heap[q]? = _
    rw [hT]
    exact hS.2.1 q h1 h2) hW
  have hts2 : ∀ w ∈ zGW, w.before args (T.setFrames (.invoking m args :: below)) = true := fun w hw => word_at (U := T.setFrames (.invoking m args :: below)) hW (zGW_good hw) (hts w hw)
  have hown2 : (T.setFrames (.invoking m args :: below)).vm.findClass "LeavingMachine" = some m.cls := by
    show T.vm.findClass _ = _
    rw [hW.alike.findClass]; exact hown1
  obtain ⟨as, hvk⟩ := hY2.1 qs hqs
  rw [hq1] at hvk
  have hfc : ∃ cX, (T.setFrames (.invoking m args :: below)).vm.findClass (zXn a) = some cX := by
    obtain ⟨c1, k1, h1, -⟩ := Cond.instantiable_spec (hts2 _ i4)
    exact ⟨c1, h1⟩
  obtain ⟨cX, hcX⟩ := hfc
  have key : W p l e { frames := R.frames, locals := R.locals, cells := 1, slots := 6 } (T.setFrames (.invoking m args :: below)) m args below meth c H [] 0 0
      (fun U => U.status = .running ∧ Ended U below (.threw H.size) ∧ (T.setFrames (.invoking m args :: below)).WarmedH U.vm ∧ (T.setFrames (.invoking m args :: below)).sameButNew ({ U with vm := (T.setFrames (.invoking m args :: below)).vm } : State) [] 1 6 ∧ ∃ ce : Cell, U.heap[H.size]? = some ce ∧ ce.vm.isStatics = false ∧ (T.setFrames (.invoking m args :: below)).vm.findClass (zXn a) = some ce.cls) (F0 m pc ls []) := by
    refine W.newcK hx hb hown2 (hts2 _ (zGW_of hcl rfl)) (hts2 _ i4) (hts2 _ i1) rfl hdec (Nat.le_refl _) (Nat.le_refl _) hcX rfl (fun H' kC hkC hH1 hH2 hH3 => ?_)
    refine lv_dup hx hb hd3 rfl ?_
    refine va_ldcS hx hb hown2 hvk hd4 ?_
    intro T' hT' X'
    have hXs := zXall (args := args) ha hY2 hts2
    obtain ⟨U, u1, u2, u3, u4, u5, ce, u6, u7⟩ := X'.ctorThrowS hx (hoff e X'.admits) (own := "LeavingMachine") (cls := zXn a) (names := zXc) (ic := zXi a) hown2 i2 i3 hXs (fun x hx => by cases hx) (a := H.size) (cX := cX) (kX := kC) hcX hkC (by rw [hT']; exact hH1) (by show T.heap.size ≤ _; rw [hT]; exact Nat.le_refl _) (msg := .ref as) rfl
      (g := F0 m (pc + 6) ls [.ref as, .ref H.size, .ref H.size]) rfl (by rw [hml]; exact hls) rfl rfl (rest := []) rfl (by rw [hb]; exact hd6) (by rw [hb]; exact hd9) (fun z hz => by
        have h0 := hht _ hh0
        rw [List.map_eq_nil_iff] at h0
        rw [h0] at hz
        cases hz) (by show 2 + 3 < R.frames; omega) (by show 2 * 0 + 1 + (13 * (2 + 1) + 42) ≤ R.locals; omega) hlocks
    exact ⟨U, u1, u2, u3, u4, u5, ce, u6, by rw [u7.vm]; rfl, u7.cls⟩
  obtain ⟨U, st, h1, h2, h3, h4, ce, h5, h6, h7⟩ := key T hT X2
  have h8 : ∀ (q : Nat) (cell : Cell), H[q]? = some cell → U.heap[q]? = some cell := fun q cell hc => State.sameButNew.old_cell h4 (a := q) (c := cell) (by show T.heap[q]? = _; rw [hT]; exact hc)
  refine ⟨U, st, H.size, h1, h2, State.WarmedH.trans hW h3, ?_, ?_, h8, Nat.le_refl _, ce, h5, h6, ?_⟩
  · have h9 := (X.same.setFrames (.invoking m args :: below) X.cur).trans (h4.setVm s.vm)
    rw [List.append_nil] at h9
    exact h9
  · have := h4.2.1
    rw [← hT]; exact this
  · have := h7
    rw [show (T.setFrames (.invoking m args :: below)).vm = T.vm from rfl, hW.alike.findClass] at this
    exact this
