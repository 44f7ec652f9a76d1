/-! from Z to the machine: a method's body -/
def zGW : List Cond := lw_tbl.filter goodWord
def zWsY (y : Nat) : List Cond := .code (zY y) (zB y) (zMx y) (zRet y) :: zGW
/-- the tables of handlers -/
def zHt (y : Nat) : Option (List (Nat × Nat × Nat × Nat)) := if y = 128 then none else if y = 56 then some [(0, 9, 12, 13), (0, 9, 15, 15)] else if y = 72 ∨ y = 74 then some [(0, 9, 12, 20)] else if y = 76 then some [(0, 9, 12, 15)] else if y = 78 then some [(0, 9, 12, 13)] else some []
def zCx (y : Nat) (p : Program) (s : State) (m : MethodId) (args : Array Value) (meth : Method) (c : Code) : Prop :=
  p.tables.exec = Jvm.exec ∧ c.code = zB y ∧ c.maxLocals = zMx y ∧ s.vm.findClass (zNm (zOw y)) = some m.cls ∧ (∀ w ∈ zGW, w.before args s = true) ∧ meth.name = (zMe y).2.1 ∧ ∀ h, zHt y = some h → c.exceptionTable.toList.map (fun x => (x.startPc, x.endPc, x.handlerPc, x.catchType)) = h
theorem zTb_in {k : Nat} {w : Cond} (h : w ∈ zTb k) : w ∈ lw_tbl := by
  unfold lw_tbl tables_1
  unfold zTb at h
  simp only [List.mem_append]
  split at h
  · exact Or.inl h
  · exact Or.inr (Or.inl h)
  · exact Or.inr (Or.inr (Or.inl h))
  · exact Or.inr (Or.inr (Or.inr (Or.inl h)))
  · exact Or.inr (Or.inr (Or.inr (Or.inr (Or.inl h))))
  · exact Or.inr (Or.inr (Or.inr (Or.inr (Or.inr (Or.inl h)))))
  · exact Or.inr (Or.inr (Or.inr (Or.inr (Or.inr (Or.inr h)))))
theorem zTw_in {p : Nat} {w : Cond} (h : zTw p = some w) : w ∈ lw_tbl := zTb_in (List.mem_of_getElem? h)
theorem zGW_of {p : Nat} {w : Cond} (h : zTw p = some w) (hg : goodWord w = true) : w ∈ zGW := List.mem_filter.mpr ⟨zTw_in h, hg⟩
theorem zlk_mem {y pc : Nat} {q : Instr × Nat × Nat × Nat × Nat × Nat} (h : zlk y pc = some q) : (pc, q) ∈ zCd y := by
  unfold zlk at h
  generalize zCd y = l at h ⊢
  induction l with
  | nil => cases h
  | cons x l ih =>
    obtain ⟨k, v⟩ := x
    rw [List.lookup_cons] at h
    split at h
    · rename_i hk
      cases h
      rw [eq_of_beq hk]
      exact List.mem_cons_self
    · exact List.mem_cons_of_mem _ (ih h)
/-- how a method ends -/
def zEnd (y pc : Nat) (st : List zV) (r : Option zV) : Prop :=
  (∃ (q : Nat × Nat × Nat × Nat) (x : Int), zlk y pc = some (.ireturn, 1, q) ∧ st = [zi x] ∧ r = some (zi x) ∧ zokP (zRt y) x) ∨
  (∃ (q : Nat × Nat × Nat × Nat) (x : Option (Nat × Nat)), zlk y pc = some (.areturn, 1, q) ∧ st = [zq x] ∧ r = some (zq x)) ∨
  (∃ (q : Nat × Nat × Nat × Nat), zlk y pc = some (.return_, 1, q) ∧ st = [] ∧ r = none)
def zBd (l : Launch) (A : Nat → Prop) (D : va_G) (xs : Nat → Int32) (N : Nat) (n : Nat) : Prop :=
  ∀ (d y pc : Nat) (L : zL) (st : List zV) (S : zS) (r : Option zV) (S' : zS), zEv n d y pc L st S = some (r, S') → y < 129 →
  ∀ (p : Program) (e : Env) (R : Room) (s : State) (m : MethodId) (args : Array Value) (below : List Frame) (meth : Method) (c : Code) (Q : State → Prop) (H : Heap) (locs : List Loc) (cells slots : Nat) (ls : Array Slot) (ad : zAd) (dA : Nat → ClassId) (ws : va_W) (tys : List (ClassId × FieldType)),
  zCx y p s m args meth c → va_S A s.heap H locs → zRl A D xs N ad dA ws tys S s H → zXs A ad xs N s s.heap → zLv ls (zMx y) ad L → zLok S L → zSok S st → d ≤ R.frames → 32 * d ≤ R.locals → cells + S'.2.2.2.1 ≤ R.cells + S.2.2.2.1 → slots + S'.2.2.2.2.1 ≤ R.slots + S.2.2.2.2.1 →
  (∀ (H' : Heap) (locs' : List Loc) (cells' slots' : Nat) (ls' : Array Slot) (pc' : Nat) (st' : List zV) (ad' : zAd) (dA' : Nat → ClassId) (ws' : va_W) (tys' : List (ClassId × FieldType)), va_S A s.heap H' locs' → zRl A D xs N ad' dA' ws' tys' S' s H' → zAg S ad ad' → zEnd y pc' st' r → zSok S' st' → cells' + S.2.2.2.1 = cells + S'.2.2.2.1 → slots' + S.2.2.2.2.1 = slots + S'.2.2.2.2.1 →
    W p l e R s m args below meth c H' locs' cells' slots' Q (F0 m pc' ls' (st'.map (zcv ad')))) →
  (∀ (H' : Heap) (locs' : List Loc) (cells' slots' : Nat) (ls' : Array Slot) (pc' : Nat) (st' : List zV) (ad' : zAd) (dA' : Nat → ClassId) (ws' : va_W) (tys' : List (ClassId × FieldType)) (x a b q : Nat), va_S A s.heap H' locs' → zRl A D xs N ad' dA' ws' tys' S' s H' → zAg S ad ad' → zlk y pc' = some (.new x, 3, a, b, 7, q) → (st' = [] ∧ ls'.size = zMx y) → r = some (zq (some (a, 0))) → cells' + 1 + S.2.2.2.1 = cells + S'.2.2.2.1 → slots' + b + S.2.2.2.2.1 = slots + S'.2.2.2.2.1 →
    W p l e R s m args below meth c H' locs' cells' slots' Q (F0 m pc' ls' (st'.map (zcv ad')))) →
  W p l e R s m args below meth c H locs cells slots Q (F0 m pc ls (st.map (zcv ad)))
/-- the tables are right -/
theorem zOkAll : ∀ y, y < 129 → zMok y = true ∧ ∀ e ∈ zCd y, zEok y e = true := by
  have k : ∀ (l : List Nat), l.all (fun y => zMok y && (zCd y).all (zEok y)) = true → ∀ y ∈ l, zMok y = true ∧ ∀ e ∈ zCd y, zEok y e = true := by
    intro l h y hy
    have h1 := List.all_eq_true.mp h y hy
    rw [Bool.and_eq_true] at h1
    exact ⟨h1.1, List.all_eq_true.mp h1.2⟩
  intro y hy
  by_cases h0 : y < 4
  · exact k _ zOk_0 y (by simp; omega)
  by_cases h4 : y < 8
  · exact k _ zOk_4 y (by simp; omega)
  by_cases h8 : y < 12
  · exact k _ zOk_8 y (by simp; omega)
  by_cases h12 : y < 16
  · exact k _ zOk_12 y (by simp; omega)
  by_cases h16 : y < 20
  · exact k _ zOk_16 y (by simp; omega)
  by_cases h20 : y < 24
  · exact k _ zOk_20 y (by simp; omega)
  by_cases h24 : y < 28
  · exact k _ zOk_24 y (by simp; omega)
  by_cases h28 : y < 32
  · exact k _ zOk_28 y (by simp; omega)
  by_cases h32 : y < 36
  · exact k _ zOk_32 y (by simp; omega)
  by_cases h36 : y < 40
  · exact k _ zOk_36 y (by simp; omega)
  by_cases h40 : y < 44
  · exact k _ zOk_40 y (by simp; omega)
  by_cases h44 : y < 48
  · exact k _ zOk_44 y (by simp; omega)
  by_cases h48 : y < 52
  · exact k _ zOk_48 y (by simp; omega)
  by_cases h52 : y < 56
  · exact k _ zOk_52 y (by simp; omega)
  by_cases h56 : y < 60
  · exact k _ zOk_56 y (by simp; omega)
  by_cases h60 : y < 64
  · exact k _ zOk_60 y (by simp; omega)
  by_cases h64 : y < 68
  · exact k _ zOk_64 y (by simp; omega)
  by_cases h68 : y < 72
  · exact k _ zOk_68 y (by simp; omega)
  by_cases h72 : y < 76
  · exact k _ zOk_72 y (by simp; omega)
  by_cases h76 : y < 80
  · exact k _ zOk_76 y (by simp; omega)
  by_cases h80 : y < 84
  · exact k _ zOk_80 y (by simp; omega)
  by_cases h84 : y < 88
  · exact k _ zOk_84 y (by simp; omega)
  by_cases h88 : y < 92
  · exact k _ zOk_88 y (by simp; omega)
  by_cases h92 : y < 96
  · exact k _ zOk_92 y (by simp; omega)
  by_cases h96 : y < 100
  · exact k _ zOk_96 y (by simp; omega)
  by_cases h100 : y < 104
  · exact k _ zOk_100 y (by simp; omega)
  by_cases h104 : y < 108
  · exact k _ zOk_104 y (by simp; omega)
  by_cases h108 : y < 112
  · exact k _ zOk_108 y (by simp; omega)
  by_cases h112 : y < 116
  · exact k _ zOk_112 y (by simp; omega)
  by_cases h116 : y < 120
  · exact k _ zOk_116 y (by simp; omega)
  by_cases h120 : y < 124
  · exact k _ zOk_120 y (by simp; omega)
  by_cases h124 : y < 128
  · exact k _ zOk_124 y (by simp; omega)
  exact k _ zOk_128 y (by simp; omega)
theorem zCl_at {a : Nat} (h : a < 12) : zCl[a]? = some (zNm a, zT a, zN a) := by
  rcases (show a = 0 ∨ a = 1 ∨ a = 2 ∨ a = 3 ∨ a = 4 ∨ a = 5 ∨ a = 6 ∨ a = 7 ∨ a = 8 ∨ a = 9 ∨ a = 10 ∨ a = 11 by omega) with rfl | rfl | rfl | rfl | rfl | rfl | rfl | rfl | rfl | rfl | rfl | rfl <;> rfl
theorem zFwOk : (List.range 12).all (fun a => decide ((u_ws (zNm a) (zT a) (zN a)).map some = (zFp.getD a []).map zTw) && (u_ws (zNm a) (zT a) (zN a)).all goodWord) = true := by decide +kernel
theorem zFw {a : Nat} (h : a < 12) : ∀ w ∈ u_ws (zNm a) (zT a) (zN a), w ∈ zGW := by
  have h1 := List.all_eq_true.mp zFwOk a (List.mem_range.mpr h)
  rw [Bool.and_eq_true, decide_eq_true_eq] at h1
  intro w hw
  have h2 : some w ∈ (zFp.getD a []).map zTw := by rw [← h1.1]; exact List.mem_map.mpr ⟨w, hw, rfl⟩
  obtain ⟨p, -, hp⟩ := List.mem_map.mp h2
  exact zGW_of hp (List.all_eq_true.mp h1.2 w hw)
theorem zT_own {a b : Nat} (h : b < zN a) : (zT a b).1 = zNm a := by
  unfold zT
  have h1 : (zFl a)[b]? = some (zFl a)[b] := List.getElem?_eq_getElem h
  rw [h1]
theorem zTyOk : (List.range 12).all (fun a => (List.range (zN a)).all (fun k => decide (parseFieldDescriptor (zT a k).2.2.1 = some (zTy a k)))) = true := by decide +kernel
theorem zTy_ok {a k : Nat} (h : a < 12) (hk : k < zN a) : parseFieldDescriptor (zT a k).2.2.1 = some (zTy a k) := by
  have h1 := List.all_eq_true.mp (List.all_eq_true.mp zTyOk a (List.mem_range.mpr h)) k (List.mem_range.mpr hk)
  exact of_decide_eq_true h1
theorem zNmOk : (List.range 12).all (fun a => (List.range (zN a)).all (fun k => (List.range k).all (fun j => decide ((zT a j).2.1 ≠ (zT a k).2.1)))) = true := by decide +kernel
theorem zNm_ne {a : Nat} (h : a < 12) {k k' : Nat} (hk : k < zN a) (hk' : k' < zN a) : k ≠ k' → (zT a k).2.1 ≠ (zT a k').2.1 := by
  intro hne
  have h0 := List.all_eq_true.mp zNmOk a (List.mem_range.mpr h)
  rcases Nat.lt_or_gt_of_ne hne with hl | hl
  · exact of_decide_eq_true (List.all_eq_true.mp (List.all_eq_true.mp h0 k' (List.mem_range.mpr hk')) k (List.mem_range.mpr hl))
  · exact Ne.symm (of_decide_eq_true (List.all_eq_true.mp (List.all_eq_true.mp h0 k (List.mem_range.mpr hk)) k' (List.mem_range.mpr hl)))
def zStB (y : Nat) (i : Instr) : Option Nat := match i with
  | .istore n => some n
  | .istore_n n => some n.val
  | .astore n => some n
  | .astore_n n => some n.val
  | _ => none
theorem zStOk : (List.range 129).all (fun y => (zCd y).all (fun e => match zStB y e.2.1 with
    | some n => decide (n < zMx y)
    | none => true)) = true := by decide +kernel
theorem zStI {y pc : Nat} {q : Instr × Nat × Nat × Nat × Nat × Nat} {n : Nat} (hy : y < 129) (hq : zlk y pc = some q) (hn : zStB y q.1 = some n) : n < zMx y := by
  have h1 := List.all_eq_true.mp (List.all_eq_true.mp zStOk y (List.mem_range.mpr hy)) _ (zlk_mem hq)
  dsimp only at h1
  rw [hn] at h1
  exact of_decide_eq_true h1
theorem zArT_lt (c : Nat) : zArT c < 12 := by
  unfold zArT
  split
  · omega
  · split
    · omega
    · split <;> omega
theorem zArC_nm (c : Nat) : zArC c = zNm (zArT c) := by
  unfold zArC zArT
  split
  · rfl
  · split
    · rfl
    · split <;> rfl
theorem z_lu : ∀ (ps : List (Int × Int)) (d x : Int), Op.lookupswitch.offset ps d (Int32.ofInt x).toInt = zlu ps d (zw x)
  | [], d, x => rfl
  | (m, o) :: r, d, x => by
    rw [Op.lookupswitch.offset_cons, zlu, zo_to, ← zo_to x, z_lu r d x, zo_to]
    by_cases h : m = zw x
    · rw [if_pos h, if_pos h.symm]
    · rw [if_neg h, if_neg (fun q => h q.symm)]
theorem z_lcmp (x y : Int) : Int32.ofInt (zlcmp x y) = lg_cmp (Int64.ofInt x) (Int64.ofInt y) := by
  unfold zlcmp lg_cmp
  simp only [gt_iff_lt, Int64.lt_iff_toInt_lt, ← Int64.toInt_inj, zq_to]
  by_cases h1 : zw6 y < zw6 x
  · rw [if_pos h1, if_pos h1]; decide +kernel
  · rw [if_neg h1, if_neg h1]
    by_cases h2 : zw6 x < zw6 y
    · rw [if_pos h2, if_neg (by omega)]; decide +kernel
    · rw [if_neg h2, if_pos (by omega)]; decide +kernel
section Cmp
variable {x y : Int}
theorem zc_c_eq0 (h : Int32.ofInt x = Int32.ofInt y) : zw x = zw y := zo_inj.mp h
theorem zc_c_eq1 (h : ¬ Int32.ofInt x = Int32.ofInt y) : ¬ zw x = zw y := fun q => h (zo_inj.mpr q)
theorem zc_c_ne0 (h : ¬ Int32.ofInt x = Int32.ofInt y) : ¬ zw x = zw y := fun q => h (zo_inj.mpr q)
theorem zc_c_ne1 (h : Int32.ofInt x = Int32.ofInt y) : zw x = zw y := zo_inj.mp h
theorem zc_c_lt0 (h : Int32.ofInt x < Int32.ofInt y) : zw x < zw y := zo_lt.mp h
theorem zc_c_lt1 (h : ¬ Int32.ofInt x < Int32.ofInt y) : ¬ zw x < zw y := fun q => h (zo_lt.mpr q)
theorem zc_c_ge0 (h : Int32.ofInt y ≤ Int32.ofInt x) : ¬ zw x < zw y := by have := zo_le.mp h; omega
theorem zc_c_ge1 (h : ¬ Int32.ofInt y ≤ Int32.ofInt x) : zw x < zw y := by
  by_cases q : zw x < zw y
  · exact q
  · exact absurd (zo_le.mpr (by omega)) h
theorem zc_c_gt0 (h : Int32.ofInt y < Int32.ofInt x) : zw y < zw x := zo_lt.mp h
theorem zc_c_gt1 (h : ¬ Int32.ofInt y < Int32.ofInt x) : ¬ zw y < zw x := fun q => h (zo_lt.mpr q)
theorem zc_c_le0 (h : Int32.ofInt x ≤ Int32.ofInt y) : ¬ zw y < zw x := by have := zo_le.mp h; omega
theorem zc_c_le1 (h : ¬ Int32.ofInt x ≤ Int32.ofInt y) : zw y < zw x := by
  by_cases q : zw y < zw x
  · exact q
  · exact absurd (zo_le.mpr (by omega)) h
theorem zc_i_eq0 (h : Int32.ofInt x = 0) : zw x = zw 0 := zc_c_eq0 (h.trans zo_0.symm)
theorem zc_i_eq1 (h : ¬ Int32.ofInt x = 0) : ¬ zw x = zw 0 := zc_c_eq1 (by rw [zo_0]; exact h)
theorem zc_i_ne0 (h : ¬ Int32.ofInt x = 0) : ¬ zw x = zw 0 := zc_c_eq1 (by rw [zo_0]; exact h)
theorem zc_i_ne1 (h : Int32.ofInt x = 0) : zw x = zw 0 := zc_c_eq0 (h.trans zo_0.symm)
theorem zc_i_lt0 (h : Int32.ofInt x < 0) : zw x < zw 0 := zc_c_lt0 (by rw [zo_0]; exact h)
theorem zc_i_lt1 (h : ¬ Int32.ofInt x < 0) : ¬ zw x < zw 0 := zc_c_lt1 (by rw [zo_0]; exact h)
theorem zc_i_ge0 (h : 0 ≤ Int32.ofInt x) : ¬ zw x < zw 0 := zc_c_ge0 (by rw [zo_0]; exact h)
theorem zc_i_ge1 (h : ¬ 0 ≤ Int32.ofInt x) : zw x < zw 0 := zc_c_ge1 (by rw [zo_0]; exact h)
theorem zc_i_gt0 (h : 0 < Int32.ofInt x) : zw 0 < zw x := zc_c_gt0 (by rw [zo_0]; exact h)
theorem zc_i_gt1 (h : ¬ 0 < Int32.ofInt x) : ¬ zw 0 < zw x := zc_c_gt1 (by rw [zo_0]; exact h)
theorem zc_i_le0 (h : Int32.ofInt x ≤ 0) : ¬ zw 0 < zw x := zc_c_le0 (by rw [zo_0]; exact h)
theorem zc_i_le1 (h : ¬ Int32.ofInt x ≤ 0) : zw 0 < zw x := zc_c_le1 (by rw [zo_0]; exact h)
end Cmp
