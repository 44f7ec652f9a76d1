/-! String.indexOf on the text of operators: the JDK's own code, walked -/
abbrev zJs : String := "java/lang/String"
abbrev zJl : String := "java/lang/StringLatin1"
def zJn (k : Nat) : MethodName := match k with
  | 0 => ⟨zJs, "isLatin1", "()Z"⟩
  | 1 => ⟨zJs, "coder", "()B"⟩
  | 2 => ⟨zJs, "length", "()I"⟩
  | 3 => ⟨zJs, "indexOf", "(II)I"⟩
  | 4 => ⟨zJs, "indexOf", "(I)I"⟩
  | 5 => ⟨zJl, "indexOf", "([BIII)I"⟩
  | 6 => ⟨zJl, "canEncode", "(I)Z"⟩
  | _ => ⟨zJl, "indexOfChar", "([BIII)I"⟩
def zJb (k : Nat) : ByteArray := match k with
  | 0 => prog_23_method_154_code
  | 1 => prog_23_method_152_code
  | 2 => prog_23_method_54_code
  | 3 => prog_23_method_80_code
  | 4 => prog_23_method_79_code
  | 5 => prog_24_method_22_code
  | 6 => prog_24_method_4_code
  | _ => prog_24_method_23_code
def zJm (k : Nat) : Nat := match k with
  | 0 => 1
  | 1 => 1
  | 2 => 1
  | 3 => 3
  | 4 => 2
  | 5 => 4
  | 6 => 1
  | _ => 6
def zJt (k : Nat) : FieldType := match k with
  | 0 => .boolean
  | 1 => .byte
  | 6 => .boolean
  | _ => .int
def zJa (k : Nat) : Nat := match k with
  | 3 => 2
  | 4 => 1
  | 5 => 4
  | 6 => 1
  | 7 => 4
  | _ => 0
/-- where the words stand: code, instanceMethod or static, selects -/
def zJp (k : Nat) : Nat × Nat × Nat := match k with
  | 0 => (3000, 2238, 2239)
  | 1 => (3010, 3008, 3009)
  | 2 => (3006, 3004, 3005)
  | 3 => (2236, 2234, 2235)
  | 4 => (2232, 2230, 2231)
  | 5 => (3013, 3012, 0)
  | 6 => (3016, 3015, 0)
  | _ => (3025, 3024, 0)
theorem zJok : (List.range 8).all (fun k => decide (zTw (zJp k).1 = some (.code (zJn k) (zJb k) (zJm k) (some (zJt k)))) && decide (zTw (zJp k).2.1 = some (if k < 5 then .instanceMethod (zJn k) else .static (zJn k))) && (decide (5 ≤ k) || decide (zTw (zJp k).2.2 = some (.selects zJs (zJn k) (zJn k)))) &&
    plainName (zJn k).cls && decide ((zJn k).cls ≠ "java/lang/invoke/MethodHandle") && decide ((zJn k).cls ≠ "java/lang/invoke/VarHandle") && decide ((parseMethodDescriptor (zJn k).desc).map (fun d => d.parameters.length) = some (zJa k)) && decide ((zJn k).cls = zJs ∨ (zJn k).cls = zJl)) = true := by decide +kernel
def zJw (k : Nat) : List Cond := .code (zJn k) (zJb k) (zJm k) (some (zJt k)) :: zGW
def zJi (k : Nat) : Prop :=
  Cond.code (zJn k) (zJb k) (zJm k) (some (zJt k)) ∈ zGW ∧ (k < 5 → Cond.instanceMethod (zJn k) ∈ zGW) ∧ (¬ k < 5 → Cond.static (zJn k) ∈ zGW) ∧ (k < 5 → Cond.selects zJs (zJn k) (zJn k) ∈ zGW) ∧ plainName (zJn k).cls = true ∧ ((zJn k).cls ≠ "java/lang/invoke/MethodHandle" ∧ (zJn k).cls ≠ "java/lang/invoke/VarHandle") ∧ (∀ sig, parseMethodDescriptor (zJn k).desc = some sig → zJa k = sig.parameters.length) ∧ Cond.initialized (zJn k).cls ∈ zGW
theorem zJi.code {k : Nat} (h : zJi k) : Cond.code (zJn k) (zJb k) (zJm k) (some (zJt k)) ∈ zGW := h.1
theorem zJi.inst {k : Nat} (h : zJi k) : (k < 5 → Cond.instanceMethod (zJn k) ∈ zGW) := h.2.1
theorem zJi.stat {k : Nat} (h : zJi k) : (¬ k < 5 → Cond.static (zJn k) ∈ zGW) := h.2.2.1
theorem zJi.sel {k : Nat} (h : zJi k) : (k < 5 → Cond.selects zJs (zJn k) (zJn k) ∈ zGW) := h.2.2.2.1
theorem zJi.plain {k : Nat} (h : zJi k) : plainName (zJn k).cls = true := h.2.2.2.2.1
theorem zJi.notM {k : Nat} (h : zJi k) : ((zJn k).cls ≠ "java/lang/invoke/MethodHandle" ∧ (zJn k).cls ≠ "java/lang/invoke/VarHandle") := h.2.2.2.2.2.1
theorem zJi.par {k : Nat} (h : zJi k) : (∀ sig, parseMethodDescriptor (zJn k).desc = some sig → zJa k = sig.parameters.length) := h.2.2.2.2.2.2.1
theorem zJi.init {k : Nat} (h : zJi k) : Cond.initialized (zJn k).cls ∈ zGW := h.2.2.2.2.2.2.2
theorem zJi_of {k : Nat} (hk : k < 8) : zJi k := by
  have h := List.all_eq_true.mp zJok k (List.mem_range.mpr hk)
  simp only [Bool.and_eq_true, decide_eq_true_eq, Bool.or_eq_true] at h
  obtain ⟨⟨⟨⟨⟨⟨⟨h1, h2⟩, h3⟩, h4⟩, h5⟩, h6⟩, h7⟩, h8⟩ := h
  refine ⟨zGW_of h1 rfl, fun q => ?_, fun q => ?_, fun q => ?_, h4, ⟨h5, h6⟩, fun sig hs => ?_, ?_⟩
  · rw [if_pos q] at h2; exact zGW_of h2 rfl
  · rw [if_neg q] at h2; exact zGW_of h2 rfl
  · rcases h3 with h3 | h3
    · omega
    · exact zGW_of h3 rfl
  · rw [hs] at h7
    simp only [Option.map_some, Option.some.injEq] at h7
    exact h7.symm
  · rcases h8 with h8 | h8 <;> rw [h8]
    · exact zGW_of (p := 1013) rfl rfl
    · exact zGW_of (p := 1014) rfl rfl
theorem zJgood {k : Nat} (hk : k < 8) : GoodIn zGW (zJw k) := by
  intro w hw
  rcases List.mem_cons.mp hw with rfl | hw
  · exact ⟨(zJi_of hk).code, zGW_good (zJi_of hk).code⟩
  · exact ⟨hw, zGW_good hw⟩
/-- the string a, its bytes t -/
def zStP (A : Nat → Prop) (a t : Nat) (U : State) (H : Heap) : Prop :=
  va_O zJs a A U H ∧ va_OF zJs "coder" "B" (.int 0) a A U H ∧ va_OF zJs "value" "[B" (.ref t) a A U H ∧ va_T .byte t 5 (fun j => .int (zOpb j)) A U H ∧ va_Z zJs "COMPACT_STRINGS" "Z" (.int 1) A U H
theorem zStP.warm {A : Nat → Prop} {a t : Nat} {s U : State} {H0 H : Heap} (h : zStP A a t s H0) (hk : ∀ a : Nat, a < H0.size → ¬ A a → H[a]? = H0[a]?) (ha : s.vm.Alike U.vm) : zStP A a t U H := by
  obtain ⟨h1, h2, h3, h4, h5⟩ := h
  exact ⟨(h1.kept hk).moved ha, (h2.kept hk).moved ha, (h3.kept hk).moved ha, (h4.kept hk).moved ha, (h5.kept hk).moved ha⟩
def zJP (A : Nat → Prop) (a t : Nat) (vs : List Value) : Array Value → State → Prop := fun v U => v = vs.toArray ∧ zStP A a t U U.heap
def zJQ (r : Int32) : Array Value → State → Outcome → State → Prop := fun _ st o t => o = .returned (some (.int r)) ∧ t.heap = st.heap
theorem zJP.blind {A : Nat → Prop} {a t : Nat} {vs : List Value} : FrameBlind (zJP A a t vs) := by
  intro v U g mk h
  exact ⟨h.1, h.2.warm (fun _ _ _ => rfl) (Vm.Alike.refl U.vm)⟩
def zJR (f n : Nat) : Room := { frames := f, cells := 0, slots := 0, locals := n }
section JC
variable {p : Program} {l : Launch} {e : Env} {R : Room} {s : State} {m : MethodId} {args : Array Value} {below : List Frame} {meth : Method} {c : Code} {H : Heap} {locs : List Loc} {cells slots : Nat} {Q : State → Prop}
variable {cc : ByteArray} {pc : Nat} {ls : Array Slot} {rest : List Value} {A : Nat → Prop} {a t : Nat}
theorem zJ_cont {g' : JFrame} {vm₁ : Vm} {T t' U' : State} {mk : MethodId} {r : Int32} {v : Option Value} {l2 L : List Loc} {c2 s2 : Nat} {va : Array Value} {g2 : List Value → JFrame} (hT : T.heap = H)
    (X' : Stand p l e R s m args below meth c U' l2 c2 s2) (e1 : U'.heap = t'.heap) (hq : zJQ r va ((T.setVm vm₁).calling g' mk va) (.returned v) t') (h1 : l2 = locs ++ L) (hL : ∀ q ∈ L, False) (h2 : c2 = cells + 0) (h3 : s2 = slots + 0)
    (kk : W p l e R s m args below meth c H locs cells slots Q (g2 [.int r])) {s0 : State} (st : ∀ target, Steps p.tables e below (U'.setTop (g2 v.toList)) target → Steps p.tables e below s0 target) : ∃ t, Steps p.tables e below s0 t ∧ Q t := by
  obtain ⟨hv, hh⟩ := hq
  cases hv
  have hL0 : L = [] := List.eq_nil_iff_forall_not_mem.mpr fun q hq => hL q hq
  subst hL0
  subst h1; subst h2; subst h3
  rw [List.append_nil] at X'
  obtain ⟨t2, a1, b1⟩ := kk U' (by rw [e1, hh]; exact hT) X'
  exact ⟨t2, st t2 a1, b1⟩
theorem zJ_callV {k f n : Nat} {r : Int32} {vs : List Value} (hk : k < 5) (hM : Met l (zJn k) (zJw k) (zJR f n) (zJP A a t (.ref a :: vs)) (zJQ r) 0 0 (fun _ => False)) (hx : p.tables.exec = Jvm.exec) (hb : c.code = cc) (hml : c.maxLocals = ls.size) {own : String} (hown : s.vm.findClass own = some m.cls) (hts : ∀ w ∈ zGW, w.before args s = true) {index : Nat} (hlink : Cond.methodLink own index (zJn k) ∈ zGW)
    (hw : zStP A a t s s.heap) (hS : va_S A s.heap H locs) (hlen : vs.length = zJa k) (hfr : f + 1 ≤ R.frames) (hlo : 8 + (zJm k + 11) + n ≤ R.locals) (hce : cells ≤ R.cells) (hsl : slots ≤ R.slots) (hwt : (rest.map fun v => v.category).sum ≤ 8) (hdg : decode cc pc = .ok (.invokevirtual index, 3))
    (kk : W p l e R s m args below meth c H locs cells slots Q (F0 m (pc + 3) ls (.int r :: rest))) : W p l e R s m args below meth c H locs cells slots Q (F0 m pc ls (vs.reverse ++ .ref a :: rest)) := by
  have hi := zJi_of (k := k) (by omega)
  have hK : Back l R p e below s args (zJn k) 3 8 (PreOf R 0 0 (zJP A a t (.ref a :: vs))) (PostOf (zJQ r) 0 0 (fun _ => False)) :=
    back_of (bytes := zJb k) (maxL := zJm k) (ret := some (zJt k)) hM zJP.blind rfl rfl hfr hlo (pay_in hts (zJgood (by omega))) List.mem_cons_self (fun a' U hW => word_at hW (zGW_good hi.init) (hts _ hi.init))
  intro T hT X
  obtain ⟨cell, w1, w2, w3, -⟩ := hw.1.kept hS.2.1
  obtain ⟨v, vm₁, ⟨U', l2, c2, s2⟩, hW₁, X', ⟨g', mk, t', L, e1, e2, hq, h1, hL, h2, h3⟩, st⟩ := callV X hx (own := own) (C := zJs) (index := index) (y := zJn k) (bytes := zJb k) (maxL := zJm k) (ret := some (zJt k)) hown (hts _ hlink) (hts _ (hi.inst hk)) (hts _ (hi.sel hk)) (hts _ hi.code) hi.notM hK (by rw [hT]; exact w1) w2 w3
    (g := F0 m pc ls (vs.reverse ++ .ref a :: rest)) rfl hml.symm (argsL := vs) (rest := rest) (fun sig h => hlen.trans (hi.par sig h)) rfl (by show 2 * 0 + _ ≤ 8; omega) (by rw [hb]; exact hdg)
    (fun vm₁ hW₁ => ⟨by show cells + 0 ≤ _; omega, by show slots + 0 ≤ _; omega, rfl, hw.warm (by intro q g1 g2; show T.heap[q]? = _; rw [hT]; exact hS.2.1 q g1 g2) hW₁.alike⟩)
  exact zJ_cont (g2 := fun z => F0 m (pc + 3) ls (z ++ rest)) hT X' e1 hq h1 hL h2 h3 kk st
theorem zJ_callS {k f n : Nat} {r : Int32} {vs : List Value} (hk : ¬ k < 5) (hk8 : k < 8) (hM : Met l (zJn k) (zJw k) (zJR f n) (zJP A a t vs) (zJQ r) 0 0 (fun _ => False)) (hx : p.tables.exec = Jvm.exec) (hb : c.code = cc) (hml : c.maxLocals = ls.size) {own : String} (hown : s.vm.findClass own = some m.cls) (hts : ∀ w ∈ zGW, w.before args s = true) {index : Nat} (hlink : Cond.methodLink own index (zJn k) ∈ zGW)
    (hw : zStP A a t s s.heap) (hS : va_S A s.heap H locs) (hlen : vs.length = zJa k) (hfr : f + 1 ≤ R.frames) (hlo : 8 + (zJm k + 11) + n ≤ R.locals) (hce : cells ≤ R.cells) (hsl : slots ≤ R.slots) (hwt : (rest.map fun v => v.category).sum ≤ 8) (hdg : decode cc pc = .ok (.invokestatic index, 3))
    (kk : W p l e R s m args below meth c H locs cells slots Q (F0 m (pc + 3) ls (.int r :: rest))) : W p l e R s m args below meth c H locs cells slots Q (F0 m pc ls (vs.reverse ++ rest)) := by
  have hi := zJi_of (k := k) hk8
  have hK : Back l R p e below s args (zJn k) 3 8 (PreOf R 0 0 (zJP A a t vs)) (PostOf (zJQ r) 0 0 (fun _ => False)) :=
    back_of (bytes := zJb k) (maxL := zJm k) (ret := some (zJt k)) hM zJP.blind rfl rfl hfr hlo (pay_in hts (zJgood hk8)) List.mem_cons_self (fun a' U hW => word_at hW (zGW_good hi.init) (hts _ hi.init))
  intro T hT X
  obtain ⟨v, vm₁, ⟨U', l2, c2, s2⟩, hW₁, X', ⟨g', mk, t', L, e1, e2, hq, h1, hL, h2, h3⟩, st⟩ := callS X hx (own := own) (index := index) (y := zJn k) (bytes := zJb k) (maxL := zJm k) (ret := some (zJt k)) hown (hts _ hlink) (hts _ (hi.stat hk)) (hts _ hi.init) (hts _ hi.code) hi.notM hK
    (g := F0 m pc ls (vs.reverse ++ rest)) rfl hml.symm (argsL := vs) (rest := rest) (fun sig h => hlen.trans (hi.par sig h)) rfl (by show 2 * 0 + _ ≤ 8; omega) (by rw [hb]; exact hdg)
    (fun vm₁ hW₁ => ⟨by show cells + 0 ≤ _; omega, by show slots + 0 ≤ _; omega, rfl, hw.warm (by intro q g1 g2; show T.heap[q]? = _; rw [hT]; exact hS.2.1 q g1 g2) hW₁.alike⟩)
  exact zJ_cont (g2 := fun z => F0 m (pc + 3) ls (z ++ rest)) hT X' e1 hq h1 hL h2 h3 kk st
end JC
/-- a method's walk gives its contract -/
theorem zJ_met {l : Launch} {A : Nat → Prop} {a t k f n : Nat} {r : Int32} {vs : List Value} (hk : k < 8)
    (body : ∀ (p : Program) (e : Env) (s : State) (m : MethodId) (below : List Frame) (meth : Method) (c : Code), p.tables.exec = Jvm.exec → c.code = zJb k → c.maxLocals = zJm k → meth.sig.returnType = some (zJt k) → meth.locks = false → s.vm.findClass (zJn k).cls = some m.cls → (∀ w ∈ zGW, w.before vs.toArray s = true) → zStP A a t s s.heap →
      W p l e (zJR f n) s m vs.toArray below meth c s.heap [] 0 0 (MQ below (zJQ r) vs.toArray s 0 0 (fun _ => False)) (F0 m 0 ((lg_sl vs ++ List.replicate (zJm k - (lg_sl vs).length) Slot.unset).toArray) [])) :
    Met l (zJn k) (zJw k) (zJR f n) (zJP A a t vs) (zJQ r) 0 0 (fun _ => False) := by
  have hi := zJi_of hk
  refine Met.ofW (cc := zJb k) (maxL := zJm k) (ret := some (zJt k)) hi.plain rfl ?_
  intro p e s m args below meth c s₁ B hml hv
  obtain ⟨rfl, hst⟩ := hv
  have hts := atoms_spec (ws := zJw k) B.pre
  rw [lg_entry_eq]
  exact body p e s m below meth c B.exec B.bytes hml B.returns B.notSynchronized (findClass_of_methodNamed B.named) (fun w hw => hts w (List.mem_cons_of_mem _ hw)) hst
