/-! Z's memory and the machine's heap -/
abbrev zAd : Type := Nat → Nat → Nat
def zcv (ad : zAd) (v : zV) : Value := match v with
  | .inl n => .int (Int32.ofInt n)
  | .inr (.inl n) => .long (Int64.ofInt n)
  | .inr (.inr r) => va_rf (r.map fun q => ad q.1 q.2)
theorem zcv_i (ad : zAd) (n : Int) : zcv ad (zi n) = .int (Int32.ofInt n) := rfl
theorem zcv_l (ad : zAd) (n : Int) : zcv ad (zl n) = .long (Int64.ofInt n) := rfl
theorem zcv_q (ad : zAd) (r : Option (Nat × Nat)) : zcv ad (zq r) = va_rf (r.map fun q => ad q.1 q.2) := rfl
theorem zcv_s (ad : zAd) (c i : Nat) : zcv ad (zq (some (c, i))) = .ref (ad c i) := rfl
theorem zcv_cat1 {ad : zAd} {v : zV} (h : ∀ n, v ≠ .inr (.inl n)) : (zcv ad v).category = 1 := by
  match v, h with
  | .inl n, _ => rfl
  | .inr (.inl n), h => exact absurd rfl (h n)
  | .inr (.inr none), _ => rfl
  | .inr (.inr (some q)), _ => rfl
def zfv (ad : zAd) (S : zS) (c i k : Nat) : Value := if zTc (zTy c k) = 3 then zcv ad (zq (S.2.1 c i k)) else zcv ad (zi (S.1 c i k))
def zel (ad : zAd) (S : zS) (c i t : Nat) : (Nat → Int32) ⊕ (Nat → Int64) ⊕ (Nat → UInt32) ⊕ (Nat → UInt64) ⊕ (Nat → Option Nat) :=
  if t = 4 then .inr (.inl fun j => Int64.ofInt (S.1 c i j)) else if t = 3 then .inr (.inr (.inr (.inr fun j => (S.2.1 c i j).map fun q => ad q.1 q.2))) else .inl fun j => Int32.ofInt (S.1 c i j)
/-- what a cell holds -/
def zct (ad : zAd) (dA : Nat → ClassId) (S : zS) (c i : Nat) : va_E := match zArr c with
  | some n => .inl (dA c, n.2, zel ad S c i n.1)
  | none => .inr (c, (List.range (zN c)).map fun k => zfv ad S c i k)
def zHas (c : Nat) : Prop := c < 12 ∨ ∃ n, zArr c = some n
def zEt (c : Nat) : FieldType := match zArr c with
  | some n => if n.1 = 0 then .int else if n.1 = 2 then .char else if n.1 = 4 then .long else .object (zArC c)
  | none => .int
/-- strings, the statics of Throwable, what cannot be cast -/
def zStrs : List (String × Nat × String) := [("LeavingMachine", 76, "fuel is 0 to 3000"), ("LeavingMachine", 83, "there is no program"), ("LeavingMachine", 95, "no such value was put out"), ("LeavingMachine", 102, "variables are 0 to 7"), ("LeavingMachine", 110, "nothing left M"), ("LeavingMachine", 121, "there is no such procedure")]
def zOpb (j : Nat) : Int32 := [43, 45, 42, 47, 60].getD j 0
/-- where a static field lies -/
def zLs (C n d : String) (A : Nat → Prop) (U : State) (H : Heap) : Prop := ∃ (c : ClassId) (k : Class) (i : Nat) (f : Field) (a : Nat) (cell : Cell), U.vm.findClass C = some c ∧ U.fieldFound? C n d = some (c, k, i, f) ∧ f.isStatic = true ∧ k.statics = some a ∧ H[a]? = some cell ∧ cell.vm.isStatics = true ∧ cell.cls = c ∧ f.slot < cell.slots.size ∧ k.staticTypes[f.slot]? = some f.type ∧ ¬ A a
theorem zLs.moved {C n d : String} {A : Nat → Prop} {u U : State} {H : Heap} (hvm : u.vm.Alike U.vm) (h : zLs C n d A u H) : zLs C n d A U H := by
  obtain ⟨c, k, i, f, a, cell, h0, h1, h2, h3, h4, h5, h6, h7, h8, h9⟩ := h
  obtain ⟨k', hi', he⟩ := State.fieldFound?_setVm hvm h1
  exact ⟨c, k', i, f, a, cell, by rw [hvm.findClass]; exact h0, hi', h2, by rw [he]; exact h3, h4, h5, h6, h7, by rw [he]; exact h8, h9⟩
theorem zLs.kept {C n d : String} {A : Nat → Prop} {U : State} {H H1 : Heap} (h : zLs C n d A U H) (hq : ∀ a : Nat, a < H.size → ¬ A a → H1[a]? = H[a]?) : zLs C n d A U H1 := by
  obtain ⟨c, k, i, f, a, cell, h0, h1, h2, h3, h4, h5, h6, h7, h8, h9⟩ := h
  exact ⟨c, k, i, f, a, cell, h0, h1, h2, h3, by rw [hq a (Array.getElem?_eq_some_iff.mp h4).1 h9]; exact h4, h5, h6, h7, h8, h9⟩
theorem zLs.narrow {C n d : String} {A B : Nat → Prop} {U : State} {H : Heap} (h : zLs C n d A U H) (hAB : ∀ q, B q → A q) : zLs C n d B U H := by
  obtain ⟨c, k, i, f, a, cell, h0, h1, h2, h3, h4, h5, h6, h7, h8, h9⟩ := h
  exact ⟨c, k, i, f, a, cell, h0, h1, h2, h3, h4, h5, h6, h7, h8, fun z => h9 (hAB a z)⟩
theorem zLs.word {C n d : String} {A : Nat → Prop} {U : State} (h : zLs C n d A U U.heap) (args : Array Value) : (Cond.laysStatic C n d).before args U = true := by
  obtain ⟨c, k, i, f, a, cell, h0, h1, h2, h3, h4, h5, h6, h7, h8, h9⟩ := h
  exact Cond.laysStatic_of h0 h1 h2 h3 h4 h5 h6 h7 h8
/-- words on the tables that no reader of steady words carries -/
def zFc : List Cond := [.declares (Bundle.initS "java/lang/RuntimeException"), .declares (Bundle.initS "java/lang/Exception"), .declares (Bundle.initS Bundle.tN), .castable "java/lang/IllegalArgumentException" "java/lang/IllegalArgumentException", .castable "java/lang/IllegalStateException" "java/lang/IllegalStateException", .castable "java/lang/IndexOutOfBoundsException" "java/lang/IndexOutOfBoundsException"]
theorem zFc_ok : ∀ w ∈ zFc, w.keepsFace = true ∧ w.onTables = true := by
  intro w hw
  simp only [zFc, List.mem_cons, List.not_mem_nil, or_false] at hw
  rcases hw with rfl | rfl | rfl | rfl | rfl | rfl <;> exact ⟨rfl, rfl⟩
theorem zFc_warm {w : Cond} (hw : w ∈ zFc) {s U : State} (hW : s.WarmedH U.vm) (h : w.before #[] s = true) : w.before #[] U = true := by
  obtain ⟨h1, h2⟩ := zFc_ok w hw
  have h3 : w.before #[] (s.setVm U.vm) = true := Cond.before_shiftedFace (State.Shifted.of_warmed hW) _ h1 h
  have e := Cond.onTables_vm (A := #[]) (A' := #[]) (U := s) (U' := U) U.vm w h2
  have hU : U.setVm U.vm = U := rfl
  rw [hU] at e
  rw [← e]
  exact h3
theorem zFc_same {w : Cond} (hw : w ∈ zFc) {s U : State} (hv : U.vm = s.vm) (h : w.before #[] s = true) : w.before #[] U = true := by
  have e := Cond.onTables_vm (A := #[]) (A' := #[]) (U := s) (U' := U) s.vm w (zFc_ok w hw).2
  have h1 : s.setVm s.vm = s := rfl
  have h2 : U.setVm s.vm = U := by rw [← hv]; rfl
  rw [h1, h2] at e
  rw [← e]
  exact h
def zYs (A : Nat → Prop) (ad : zAd) (U : State) (H : Heap) : Prop :=
  (∀ q ∈ zStrs, ∃ a, vk_R q.1 q.2.1 q.2.2 a U) ∧
  (vk_R "LeavingMachine$Reader" 174 "+-*/<" (ad 91 0) U ∧ va_O "java/lang/String" (ad 91 0) A U H ∧ va_OF "java/lang/String" "coder" "B" (.int 0) (ad 91 0) A U H ∧ ∃ t, va_OF "java/lang/String" "value" "[B" (.ref t) (ad 91 0) A U H ∧ va_T .byte t 5 (fun j => .int (zOpb j)) A U H) ∧
  (∃ v1 v2 : RefV, va_Z Bundle.tN "UNASSIGNED_STACK" Bundle.steD v1.v A U H ∧ va_Z Bundle.tN "SUPPRESSED_SENTINEL" Bundle.listD v2.v A U H) ∧
  va_Z "java/lang/String" "COMPACT_STRINGS" "Z" (.int 1) A U H ∧
  (zLs Bundle.tN "UNASSIGNED_STACK" Bundle.steD A U H ∧ zLs Bundle.tN "SUPPRESSED_SENTINEL" Bundle.listD A U H) ∧ (∀ w ∈ zFc, w.before #[] U = true) ∧
  ∃ c1 c2, U.vm.findClass "java/lang/IllegalStateException" = some c1 ∧ U.vm.findClass "java/lang/IllegalArgumentException" = some c2 ∧ U.vm.assignable c1 c2 = false
theorem zYs.ad {A : Nat → Prop} {ad ad' : zAd} {U : State} {H : Heap} (h : zYs A ad U H) (e : ad' 91 0 = ad 91 0) : zYs A ad' U H := by
  unfold zYs at h ⊢
  rw [e]
  exact h
theorem zYs.out {A : Nat → Prop} {ad : zAd} {U : State} {H : Heap} (h : zYs A ad U H) : ¬ A (ad 91 0) := by
  obtain ⟨-, ⟨-, ⟨cell, -, -, -, h⟩, -⟩, -⟩ := h
  exact h
theorem zYs.warm {A : Nat → Prop} {ad : zAd} {s U : State} {H0 H : Heap} (h : zYs A ad s H0) (hk : ∀ a : Nat, a < H0.size → ¬ A a → H[a]? = H0[a]?) (hW : s.WarmedH U.vm) : zYs A ad U H := by
  obtain ⟨y1, ⟨y2, y3, y4, t, y5, y6⟩, ⟨v1, v2, y7, y8⟩, y9, ⟨l1, l2⟩, yf, c1, c2, y10, y11, y12⟩ := h
  have ha := hW.alike
  exact ⟨fun q hq => (y1 q hq).imp fun a h => h.warm hW, ⟨y2.warm hW, (y3.kept hk).moved ha, (y4.kept hk).moved ha, t, (y5.kept hk).moved ha, (y6.kept hk).moved ha⟩, ⟨v1, v2, (y7.kept hk).moved ha, (y8.kept hk).moved ha⟩, (y9.kept hk).moved ha, ⟨(l1.kept hk).moved ha, (l2.kept hk).moved ha⟩, fun w hw => zFc_warm hw hW (yf w hw), c1, c2, by rw [ha.findClass]; exact y10, by rw [ha.findClass]; exact y11, by rw [ha.assignable]; exact y12⟩
theorem zYs.same {A : Nat → Prop} {ad : zAd} {u U : State} {H : Heap} (h : zYs A ad u H) (hv : U.vm = u.vm) : zYs A ad U H := by
  obtain ⟨y1, ⟨y2, y3, y4, t, y5, y6⟩, ⟨v1, v2, y7, y8⟩, y9, ⟨l1, l2⟩, yf, c1, c2, y10, y11, y12⟩ := h
  have ha : u.vm.Alike U.vm := by rw [hv]; exact Vm.Alike.refl u.vm
  exact ⟨fun q hq => (y1 q hq).imp fun a h => h.same hv, ⟨y2.same hv, y3.moved ha, y4.moved ha, t, y5.moved ha, y6.moved ha⟩, ⟨v1, v2, y7.moved ha, y8.moved ha⟩, y9.moved ha, ⟨l1.moved ha, l2.moved ha⟩, fun w hw => zFc_same hw hv (yf w hw), c1, c2, by rw [hv]; exact y10, by rw [hv]; exact y11, by rw [hv]; exact y12⟩
theorem zYs.narrow {A B : Nat → Prop} {ad : zAd} {U : State} {H : Heap} (h : zYs A ad U H) (hAB : ∀ q, B q → A q) : zYs B ad U H := by
  obtain ⟨y1, ⟨y2, y3, y4, t, y5, y6⟩, ⟨v1, v2, y7, y8⟩, y9, ⟨l1, l2⟩, y10⟩ := h
  exact ⟨y1, ⟨y2, y3.narrow hAB, y4.narrow hAB, t, y5.narrow hAB, y6.narrow hAB⟩, ⟨v1, v2, y7.narrow hAB, y8.narrow hAB⟩, y9.narrow hAB, ⟨l1.narrow hAB, l2.narrow hAB⟩, y10⟩
/-- what is outside, and never written: the nest's words, the arrays' classes, the constants of Way, the script -/
def zXs (A : Nat → Prop) (ad : zAd) (xs : Nat → Int32) (N : Nat) (U : State) (H : Heap) : Prop :=
  (∀ p ∈ zNestP, ∀ w, zTw p = some w → va_Nw w U) ∧ (∀ a, a = 21 ∨ a = 22 ∨ a = 23 ∨ a = 24 → va_AO (zArC a) U) ∧ (∀ i, i < 6 → va_Z zWayC (zWayN.getD i "") zWayD (.ref (ad 90 i)) A U H ∧ ¬ A (ad 90 i)) ∧ va_X (ad 99 0) N xs U H ∧ (ad 99 0 < H.size ∧ ¬ A (ad 99 0)) ∧ (∀ q, H.size ≤ q → A q) ∧ zYs A ad U H
def zvok (S : zS) (v : zV) : Prop := match v with
  | .inr (.inr (some q)) => q.2 < S.2.2.1 q.1
  | _ => True
/-- Z's state S stands in the heap H -/
def zRl (A : Nat → Prop) (D : va_G) (xs : Nat → Int32) (N : Nat) (ad : zAd) (dA : Nat → ClassId) (ws : va_W) (tys : List (ClassId × FieldType)) (S : zS) (U : State) (H : Heap) : Prop :=
  va_P D zCl ws H ∧ va_D A ws ∧ va_K D zCl tys U ∧
  (∀ c i, zHas c → i < S.2.2.1 c → ∃ q0 : Nat, ws[q0]? = some (ad c i, zct ad dA S c i)) ∧
  (∀ c i c' i', (c = c' ∨ (zHas c ∧ zHas c')) → i < S.2.2.1 c → i' < S.2.2.1 c' → ad c i = ad c' i' → c = c' ∧ i = i') ∧
  (∀ c n, zArr c = some n → 0 < S.2.2.1 c → ∃ t0 : Nat, tys[t0]? = some (dA c, zEt c)) ∧
  (∀ c i k, zvok S (zq (S.2.1 c i k))) ∧
  (∀ c i k, S.2.2.1 c ≤ i → S.1 c i k = 0 ∧ S.2.1 c i k = none) ∧
  (S.2.2.1 90 = 6 ∧ S.2.2.1 99 = 1 ∧ S.2.2.1 91 = 1) ∧ S.2.2.2.2.2 = N ∧ (∀ j, j < N → Int32.ofInt (S.1 99 0 j) = xs j) ∧ (∀ c, 0 < S.2.2.1 c → zHas c ∨ c = 90 ∨ c = 99 ∨ c = 91)
/-- the locals -/
def zlv (ad : zAd) : Nat → zL → List (Nat × Value)
  | _, [] => []
  | i, none :: l => zlv ad (i + 1) l
  | i, some v :: l => (i, zcv ad v) :: zlv ad (i + 1) l
theorem zlv_mem {ad : zAd} {q : Nat × Value} : ∀ {l : zL} {i : Nat}, q ∈ zlv ad i l ↔ ∃ (j : Nat) (v : zV), l[j]? = some (some v) ∧ q = (i + j, zcv ad v)
  | [], i => by simp [zlv]
  | none :: l, i => by
    rw [zlv, zlv_mem]
    constructor
    · rintro ⟨j, v, h1, h2⟩
      exact ⟨j + 1, v, h1, by rw [h2]; congr 1; omega⟩
    · rintro ⟨j, v, h1, h2⟩
      cases j with
      | zero => cases h1
      | succ j => exact ⟨j, v, h1, by rw [h2]; congr 1; omega⟩
  | some v :: l, i => by
    rw [zlv, List.mem_cons, zlv_mem]
    constructor
    · rintro (h | ⟨j, u, h1, h2⟩)
      · exact ⟨0, v, rfl, h⟩
      · exact ⟨j + 1, u, h1, by rw [h2]; congr 1; omega⟩
    · rintro ⟨j, u, h1, h2⟩
      cases j with
      | zero => cases h1; exact Or.inl h2
      | succ j => exact Or.inr ⟨j, u, h1, by rw [h2]; congr 1; omega⟩
def zLv (ls : Array Slot) (n : Nat) (ad : zAd) (L : zL) : Prop := L.length = n ∧ lv_has ls n (zlv ad 0 L)
theorem zLv.at {ls : Array Slot} {n : Nat} {ad : zAd} {L : zL} (h : zLv ls n ad L) {k : Nat} {v : zV} (hk : L[k]? = some (some v)) : ls[k]? = some (.val (zcv ad v)) :=
  h.2.2.2 (k, zcv ad v) (zlv_mem.mpr ⟨k, v, hk, by rw [Nat.zero_add]⟩)
theorem zst_len : ∀ (L : zL) (k : Nat) (v : Option zV), (zst L k v).length = L.length
  | [], _, _ => rfl
  | _ :: _, 0, _ => rfl
  | _ :: l, k + 1, v => by simp [zst, zst_len l k v]
theorem zst_get : ∀ (L : zL) (k : Nat) (v : Option zV) (j : Nat) (u : zV), (zst L k v)[j]? = some (some u) → (j = k ∧ v = some u) ∨ (j ≠ k ∧ L[j]? = some (some u) ∧ (j + 1 = k → ∀ n, u ≠ .inr (.inl n)))
  | [], _, _, j, u, h => by simp [zst] at h
  | a :: l, 0, v, 0, u, h => by
    simp only [zst, List.getElem?_cons_zero, Option.some.injEq] at h
    exact Or.inl ⟨rfl, h⟩
  | a :: l, 0, v, j + 1, u, h => by
    simp only [zst, List.getElem?_cons_succ] at h
    exact Or.inr ⟨by omega, by simpa using h, fun q => by omega⟩
  | a :: l, k + 1, v, 0, u, h => by
    simp only [zst, List.getElem?_cons_zero, Option.some.injEq] at h
    refine Or.inr ⟨by omega, ?_, fun q n e => ?_⟩
    · split at h
      · unfold zkl at h
        split at h
        · cases h
        · simp [h]
      · simp [h]
    · have hk : k = 0 := by omega
      subst hk
      subst e
      simp only [if_true] at h
      unfold zkl at h
      split at h
      · cases h
      · rename_i hne
        exact hne n h
  | a :: l, k + 1, v, j + 1, u, h => by
    simp only [zst, List.getElem?_cons_succ] at h
    rcases zst_get l k v j u h with ⟨h1, h2⟩ | ⟨h1, h2, h3⟩
    · exact Or.inl ⟨by omega, h2⟩
    · exact Or.inr ⟨by omega, by simpa using h2, fun q => h3 (by omega)⟩
/-- behind a store of one word -/
theorem zLv.st {ls ls' : Array Slot} {n : Nat} {ad : zAd} {L : zL} {k : Nat} {v : zV} (h : zLv ls n ad L) (hl : lv_has ls' n ((k, zcv ad v) :: (zlv ad 0 L).filter (fun q => !(q.1 == k) && !(q.1 + 1 == k && q.2.category == 2)))) : zLv ls' n ad (zst L k (some v)) := by
  refine ⟨by rw [zst_len]; exact h.1, hl.1, hl.2.1, fun q hq => ?_⟩
  obtain ⟨j, u, h1, rfl⟩ := zlv_mem.mp hq
  rw [Nat.zero_add]
  rcases zst_get L k (some v) j u h1 with ⟨rfl, h2⟩ | ⟨h2, h3, h4⟩
  · cases h2
    exact hl.2.2 (j, zcv ad v) List.mem_cons_self
  · refine hl.2.2 (j, zcv ad u) (List.mem_cons_of_mem _ (List.mem_filter.mpr ⟨zlv_mem.mpr ⟨j, u, h3, by rw [Nat.zero_add]⟩, ?_⟩))
    simp only [Bool.and_eq_true, Bool.not_eq_true', beq_eq_false_iff_ne, ne_eq, Bool.and_eq_false_iff]
    refine ⟨h2, ?_⟩
    by_cases hj : j + 1 = k
    · right
      rw [zcv_cat1 (h4 hj)]
      decide
    · left
      exact hj
/-- addresses that agree where something stands give the same values -/
def zAg (S : zS) (ad ad' : zAd) : Prop := ∀ c i, i < S.2.2.1 c → ad' c i = ad c i
theorem zAg.rf {S : zS} {ad : zAd} : zAg S ad ad := fun _ _ _ => rfl
theorem zAg.cv {S : zS} {ad ad' : zAd} (h : zAg S ad ad') {v : zV} (hv : zvok S v) : zcv ad' v = zcv ad v := by
  match v, hv with
  | .inl _, _ => rfl
  | .inr (.inl _), _ => rfl
  | .inr (.inr none), _ => rfl
  | .inr (.inr (some q)), hv => exact congrArg Value.ref (h _ _ hv)
def zLok (S : zS) (L : zL) : Prop := ∀ (k : Nat) (v : zV), L[k]? = some (some v) → zvok S v
def zSok (S : zS) (st : List zV) : Prop := ∀ v ∈ st, zvok S v
theorem zAg.st {S : zS} {ad ad' : zAd} (h : zAg S ad ad') {st : List zV} (hv : zSok S st) : st.map (zcv ad') = st.map (zcv ad) := List.map_congr_left fun v q => h.cv (hv v q)
theorem zAg.lv {S : zS} {ad ad' : zAd} (h : zAg S ad ad') {ls : Array Slot} {n : Nat} {L : zL} (hL : zLok S L) (hl : zLv ls n ad L) : zLv ls n ad' L := by
  refine ⟨hl.1, hl.2.1, hl.2.2.1, fun q hq => ?_⟩
  obtain ⟨j, u, h1, rfl⟩ := zlv_mem.mp hq
  rw [Nat.zero_add, h.cv (hL j u h1)]
  exact hl.at h1
theorem zLok.st {S : zS} {L : zL} {k : Nat} {v : zV} (h : zLok S L) (hv : zvok S v) : zLok S (zst L k (some v)) := by
  intro j u hu
  rcases zst_get L k (some v) j u hu with ⟨-, h2⟩ | ⟨-, h3, -⟩
  · cases h2; exact hv
  · exact h j u h3
theorem zArr_99 : zArr 99 = none := by decide +kernel
theorem zArr_lt {c : Nat} (h : c < 12) : zArr c = none := by
  unfold zArr
  rw [if_pos (by omega)]
theorem zct_o {ad : zAd} {dA : Nat → ClassId} {S : zS} {c i : Nat} (h : c < 12) : zct ad dA S c i = .inr (c, (List.range (zN c)).map fun k => zfv ad S c i k) := by
  unfold zct
  rw [zArr_lt h]
theorem zct_a {ad : zAd} {dA : Nat → ClassId} {S : zS} {c i : Nat} {n : Nat × Nat} (h : zArr c = some n) : zct ad dA S c i = .inl (dA c, n.2, zel ad S c i n.1) := by
  unfold zct
  rw [h]
section RlA
variable {A : Nat → Prop} {D : va_G} {xs : Nat → Int32} {N : Nat} {ad : zAd} {dA : Nat → ClassId} {ws : va_W} {tys : List (ClassId × FieldType)} {S : zS} {U : State} {H : Heap}
theorem zRl.P (h : zRl A D xs N ad dA ws tys S U H) : va_P D zCl ws H := h.1
theorem zRl.D' (h : zRl A D xs N ad dA ws tys S U H) : va_D A ws := h.2.1
theorem zRl.K (h : zRl A D xs N ad dA ws tys S U H) : va_K D zCl tys U := h.2.2.1
theorem zRl.cell (h : zRl A D xs N ad dA ws tys S U H) : ∀ c i, zHas c → i < S.2.2.1 c → ∃ q0 : Nat, ws[q0]? = some (ad c i, zct ad dA S c i) := h.2.2.2.1
theorem zRl.inj (h : zRl A D xs N ad dA ws tys S U H) : ∀ c i c' i', (c = c' ∨ (zHas c ∧ zHas c')) → i < S.2.2.1 c → i' < S.2.2.1 c' → ad c i = ad c' i' → c = c' ∧ i = i' := h.2.2.2.2.1
theorem zRl.arr (h : zRl A D xs N ad dA ws tys S U H) : ∀ c n, zArr c = some n → 0 < S.2.2.1 c → ∃ t0 : Nat, tys[t0]? = some (dA c, zEt c) := h.2.2.2.2.2.1
theorem zRl.ok (h : zRl A D xs N ad dA ws tys S U H) : ∀ c i k, zvok S (zq (S.2.1 c i k)) := h.2.2.2.2.2.2.1
theorem zRl.c90 (h : zRl A D xs N ad dA ws tys S U H) : S.2.2.1 90 = 6 := h.2.2.2.2.2.2.2.2.1.1
theorem zRl.c99 (h : zRl A D xs N ad dA ws tys S U H) : S.2.2.1 99 = 1 := h.2.2.2.2.2.2.2.2.1.2.1
theorem zRl.c91 (h : zRl A D xs N ad dA ws tys S U H) : S.2.2.1 91 = 1 := h.2.2.2.2.2.2.2.2.1.2.2
theorem zRl.len (h : zRl A D xs N ad dA ws tys S U H) : S.2.2.2.2.2 = N := h.2.2.2.2.2.2.2.2.2.1
theorem zRl.scr (h : zRl A D xs N ad dA ws tys S U H) : ∀ j, j < N → Int32.ofInt (S.1 99 0 j) = xs j := h.2.2.2.2.2.2.2.2.2.2.1
theorem zRl.tg (h : zRl A D xs N ad dA ws tys S U H) : ∀ c, 0 < S.2.2.1 c → zHas c ∨ c = 90 ∨ c = 99 ∨ c = 91 := h.2.2.2.2.2.2.2.2.2.2.2
theorem zRl.fresh (h : zRl A D xs N ad dA ws tys S U H) : ∀ c i k, S.2.2.1 c ≤ i → S.1 c i k = 0 ∧ S.2.1 c i k = none := h.2.2.2.2.2.2.2.1
end RlA
/-- one cell is written, all else stays -/
theorem zRl.upd {A : Nat → Prop} {D : va_G} {xs : Nat → Int32} {N : Nat} {ad : zAd} {dA : Nat → ClassId} {ws : va_W} {tys : List (ClassId × FieldType)} {S S' : zS} {U : State} {H H' : Heap} (h : zRl A D xs N ad dA ws tys S U H) {c i q0 : Nat} {e : va_E} (hc : S'.2.2 = S.2.2) (hi : i < S.2.2.1 c) (hk : zHas c)
    (hq : ws[q0]? = some (ad c i, zct ad dA S c i)) (he : e = zct ad dA S' c i) (ho : ∀ c' i', (c' = c ∧ i' = i) ∨ ((∀ k, S'.1 c' i' k = S.1 c' i' k) ∧ ∀ k, S'.2.1 c' i' k = S.2.1 c' i' k))
    (hv : ∀ c i k, zvok S (zq (S'.2.1 c i k))) (hP : va_P D zCl (ws.set q0 (ad c i, e)) H') (hD : va_D A (ws.set q0 (ad c i, e))) : zRl A D xs N ad dA (ws.set q0 (ad c i, e)) tys S' U H' := by
  obtain ⟨h1, h2, h3, h5, h6, h7, h8, h9, h10, h11, h12, h13⟩ := h
  subst he
  have hl := (List.getElem?_eq_some_iff.mp hq).1
  refine ⟨hP, hD, h3, fun c' i' hc' hi' => ?_, by rw [hc]; exact h6, by rw [hc]; exact h7, fun c i k => ?_, fun c' i' k hk' => ?_, by rw [hc]; exact h10, by rw [hc]; exact h11, fun j hj => ?_, by rw [hc]; exact h13⟩
  · rw [hc] at hi'
    rcases ho c' i' with ⟨rfl, rfl⟩ | ⟨e1, e2⟩
    · exact ⟨q0, by rw [List.getElem?_set_self hl]⟩
    · by_cases hne : c' = c ∧ i' = i
      · obtain ⟨rfl, rfl⟩ := hne
        exact ⟨q0, by rw [List.getElem?_set_self hl]⟩
      · obtain ⟨q1, hq1⟩ := h5 c' i' hc' hi'
        have hqq : q1 ≠ q0 := by
          intro z
          subst z
          have z2 := hq1.symm.trans hq
          simp only [Option.some.injEq, Prod.mk.injEq] at z2
          exact hne (h6 c' i' c i (Or.inr ⟨hc', hk⟩) hi' hi z2.1)
        refine ⟨q1, ?_⟩
        rw [List.getElem?_set_ne (Ne.symm hqq), hq1]
        congr 2
        unfold zct zel zfv
        simp only [e1, e2]
  · have := hv c i k
    unfold zvok at this ⊢
    rw [hc]
    exact this
  · rw [hc] at hk'
    rcases ho c' i' with ⟨rfl, rfl⟩ | ⟨e1, e2⟩
    · omega
    · rw [e1, e2]
      exact h9 c' i' k hk'
  · rcases ho 99 0 with ⟨rfl, rfl⟩ | ⟨e1, e2⟩
    · rcases hk with hk | ⟨n, hk⟩
      · omega
      · rw [zArr_99] at hk; cases hk
    · rw [e1]
      exact h12 j hj
theorem zsI_s (I : zMI) (c i k : Nat) (v : Int) : zsI I c i k v c i k = v := if_pos ⟨rfl, rfl, rfl⟩
theorem zsR_s (I : zMR) (c i k : Nat) (v : Option (Nat × Nat)) : zsR I c i k v c i k = v := if_pos ⟨rfl, rfl, rfl⟩
theorem zsI_n {I : zMI} {c i k c' i' k' : Nat} {v : Int} (h : ¬ (c' = c ∧ i' = i ∧ k' = k)) : zsI I c i k v c' i' k' = I c' i' k' := if_neg h
theorem zsR_n {I : zMR} {c i k c' i' k' : Nat} {v : Option (Nat × Nat)} (h : ¬ (c' = c ∧ i' = i ∧ k' = k)) : zsR I c i k v c' i' k' = I c' i' k' := if_neg h
/-- fields' values behind a write -/
theorem zct_setI {ad : zAd} {dA : Nat → ClassId} {S : zS} {a o b : Nat} {v : Int} (ha : a < 12) (hb : b < zN a) (ht : ¬ zTc (zTy a b) = 3) :
    (Sum.inr (a, ((List.range (zN a)).map fun k => zfv ad S a o k).set b (.int (Int32.ofInt v))) : va_E) = zct ad dA (zsI S.1 a o b v, S.2) a o := by
  rw [zct_o ha]
  congr 2
  apply List.ext_getElem?
  intro j
  rw [List.getElem?_set, List.getElem?_map, List.getElem?_map]
  by_cases hj : j < zN a
  · rw [List.getElem?_range hj]
    by_cases hjb : b = j
    · subst hjb
      simp [hb, zfv, ht, zsI_s, zcv]
    · simp only [hjb, if_false, Option.map_some, zfv]
      rw [zsI_n (by rintro ⟨-, -, q⟩; exact hjb q.symm)]
  · have hn : (List.range (zN a))[j]? = none := by simp; omega
    rw [hn]
    have hjb : ¬ b = j := by omega
    simp [hjb]
theorem zct_setR {ad : zAd} {dA : Nat → ClassId} {S : zS} {a o b : Nat} {v : Option (Nat × Nat)} (ha : a < 12) (hb : b < zN a) (ht : zTc (zTy a b) = 3) :
    (Sum.inr (a, ((List.range (zN a)).map fun k => zfv ad S a o k).set b (zcv ad (zq v))) : va_E) = zct ad dA (S.1, zsR S.2.1 a o b v, S.2.2) a o := by
  rw [zct_o ha]
  congr 2
  apply List.ext_getElem?
  intro j
  rw [List.getElem?_set, List.getElem?_map, List.getElem?_map]
  by_cases hj : j < zN a
  · rw [List.getElem?_range hj]
    by_cases hjb : b = j
    · subst hjb
      simp [hb, zfv, ht, zsR_s]
    · simp only [hjb, if_false, Option.map_some, zfv]
      rw [zsR_n (by rintro ⟨-, -, q⟩; exact hjb q.symm)]
  · have hn : (List.range (zN a))[j]? = none := by simp; omega
    rw [hn]
    have hjb : ¬ b = j := by omega
    simp [hjb]
theorem zct_stI {ad : zAd} {dA : Nat → ClassId} {S : zS} {a o x : Nat} {n : Nat × Nat} {v : Int} (ha : zArr a = some n) (hn : n.1 = 0 ∨ n.1 = 2) :
    (Sum.inl (dA a, n.2, .inl (upd (fun j => Int32.ofInt (S.1 a o j)) x (Int32.ofInt v))) : va_E) = zct ad dA (zsI S.1 a o x v, S.2) a o := by
  rw [zct_a ha]
  unfold zel
  rw [if_neg (by omega), if_neg (by omega)]
  congr 4
  funext j
  unfold upd
  by_cases hj : j = x
  · subst hj
    rw [if_pos rfl]
    dsimp only
    rw [zsI_s]
  · rw [if_neg hj]
    dsimp only
    rw [zsI_n (by rintro ⟨-, -, q⟩; exact hj q)]
theorem zct_stL {ad : zAd} {dA : Nat → ClassId} {S : zS} {a o x : Nat} {n : Nat × Nat} {v : Int} (ha : zArr a = some n) (hn : n.1 = 4) :
    (Sum.inl (dA a, n.2, .inr (.inl (vp_updL (fun j => Int64.ofInt (S.1 a o j)) x (Int64.ofInt v)))) : va_E) = zct ad dA (zsI S.1 a o x v, S.2) a o := by
  rw [zct_a ha]
  unfold zel
  rw [if_pos hn]
  congr 5
  funext j
  unfold vp_updL
  by_cases hj : j = x
  · subst hj
    rw [if_pos rfl]
    dsimp only
    rw [zsI_s]
  · rw [if_neg hj]
    dsimp only
    rw [zsI_n (by rintro ⟨-, -, q⟩; exact hj q)]
theorem zct_stR {ad : zAd} {dA : Nat → ClassId} {S : zS} {a o x : Nat} {n : Nat × Nat} {c i : Nat} (ha : zArr a = some n) (hn : n.1 = 3) :
    (Sum.inl (dA a, n.2, .inr (.inr (.inr (.inr (va_up (fun j => (S.2.1 a o j).map fun q => ad q.1 q.2) x (some (ad c i))))))) : va_E) = zct ad dA (S.1, zsR S.2.1 a o x (some (c, i)), S.2.2) a o := by
  rw [zct_a ha]
  unfold zel
  rw [if_neg (by omega), if_pos hn]
  congr 7
  funext j
  unfold va_up
  by_cases hj : j = x
  · subst hj
    rw [if_pos rfl]
    dsimp only
    rw [zsR_s]
    rfl
  · rw [if_neg hj]
    dsimp only
    rw [zsR_n (by rintro ⟨-, -, q⟩; exact hj q)]
theorem zho {c i k : Nat} {I : zMI} {R : zMR} {v : Int} (c' i' : Nat) : (c' = c ∧ i' = i) ∨ ((∀ j, zsI I c i k v c' i' j = I c' i' j) ∧ ∀ j, R c' i' j = R c' i' j) := by
  by_cases h : c' = c ∧ i' = i
  · exact Or.inl h
  · exact Or.inr ⟨fun j => zsI_n (fun q => h ⟨q.1, q.2.1⟩), fun _ => rfl⟩
theorem zhoR {c i k : Nat} {I : zMI} {R : zMR} {v : Option (Nat × Nat)} (c' i' : Nat) : (c' = c ∧ i' = i) ∨ ((∀ j, I c' i' j = I c' i' j) ∧ ∀ j, zsR R c i k v c' i' j = R c' i' j) := by
  by_cases h : c' = c ∧ i' = i
  · exact Or.inl h
  · exact Or.inr ⟨fun _ => rfl, fun j => zsR_n (fun q => h ⟨q.1, q.2.1⟩)⟩
theorem zvR {S : zS} {c i k : Nat} {v : Option (Nat × Nat)} (h : ∀ c i k, zvok S (zq (S.2.1 c i k))) (hv : zvok S (zq v)) (c' i' k' : Nat) : zvok S (zq (zsR S.2.1 c i k v c' i' k')) := by
  unfold zsR
  split
  · exact hv
  · exact h c' i' k'
