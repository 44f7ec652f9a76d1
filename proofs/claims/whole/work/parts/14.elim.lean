/-! what an answer tells of the step -/
section El
variable {β : Type} {o : β}
theorem zldi_e {L : zL} {k : Nat} {f : Int → Option β} (h : zldi L k none f = some o) : ∃ x, L[k]? = some (some (zi x)) ∧ f x = some o := by
  unfold zldi at h
  split at h
  · exact ⟨_, by assumption, h⟩
  · cases h
theorem zldl_e {L : zL} {k : Nat} {f : Int → Option β} (h : zldl L k none f = some o) : ∃ x, L[k]? = some (some (zl x)) ∧ f x = some o := by
  unfold zldl at h
  split at h
  · exact ⟨_, by assumption, h⟩
  · cases h
theorem zlda_e {L : zL} {k : Nat} {f : Option (Nat × Nat) → Option β} (h : zlda L k none f = some o) : ∃ x, L[k]? = some (some (zq x)) ∧ f x = some o := by
  unfold zlda at h
  split at h
  · exact ⟨_, by assumption, h⟩
  · cases h
theorem zpi_e {st : List zV} {f : Int → List zV → Option β} (h : zpi st none f = some o) : ∃ x t, st = zi x :: t ∧ f x t = some o := by
  unfold zpi at h
  split at h
  · exact ⟨_, _, rfl, h⟩
  · cases h
theorem zpl_e {st : List zV} {f : Int → List zV → Option β} (h : zpl st none f = some o) : ∃ x t, st = zl x :: t ∧ f x t = some o := by
  unfold zpl at h
  split at h
  · exact ⟨_, _, rfl, h⟩
  · cases h
theorem zpa_e {st : List zV} {f : Option (Nat × Nat) → List zV → Option β} (h : zpa st none f = some o) : ∃ x t, st = zq x :: t ∧ f x t = some o := by
  unfold zpa at h
  split at h
  · exact ⟨_, _, rfl, h⟩
  · cases h
theorem zp1_e {st : List zV} {f : zV → List zV → Option β} (h : zp1 st none f = some o) : ∃ v t, st = v :: t ∧ (∀ n, v ≠ .inr (.inl n)) ∧ f v t = some o := by
  unfold zp1 at h
  split at h
  · exact ⟨_, _, rfl, (fun n q => by cases q), h⟩
  · exact ⟨_, _, rfl, (fun n q => by cases q), h⟩
  · cases h
theorem zpn_e {f : List zV → List zV → Option β} : ∀ {n : Nat} {acc st : List zV}, zpn n acc st none f = some o → ∃ as t, as.length = n ∧ st = as.reverse ++ t ∧ f (as ++ acc) t = some o
  | 0, acc, st, h => ⟨[], st, rfl, rfl, h⟩
  | n + 1, acc, [], h => by cases h
  | n + 1, acc, v :: t, h => by
    obtain ⟨as, u, h1, h2, h3⟩ := zpn_e (n := n) (acc := v :: acc) (st := t) h
    exact ⟨as ++ [v], u, by simp [h1], by simp [h2], by simpa using h3⟩
theorem zde_e {r : Option (Nat × Nat)} {c : Nat} {f : Nat → Option β} (h : zde r c none f = some o) : ∃ i, r = some (c, i) ∧ f i = some o := by
  unfold zde at h
  split at h
  · split at h
    · rename_i q hq
      exact ⟨_, by rw [← hq], h⟩
    · cases h
  · cases h
theorem znn_e {r : Option (Nat × Nat)} {f : Nat → Nat → Option β} (h : znn r none f = some o) : ∃ c i, r = some (c, i) ∧ f c i = some o := by
  unfold znn at h
  split at h
  · exact ⟨_, _, rfl, h⟩
  · cases h
theorem zix_e {j : Int} {n : Nat} {f : Nat → Option β} (h : zix j n none f = some o) : (0 ≤ zw j ∧ zw j < (n : Int)) ∧ f (zw j).toNat = some o := by
  unfold zix at h
  split at h
  · exact ⟨by assumption, h⟩
  · cases h
theorem zop_e {γ : Type} {x : Option γ} {f : γ → Option β} (h : zop x none f = some o) : ∃ v, x = some v ∧ f v = some o := by
  unfold zop at h
  split at h
  · exact ⟨_, rfl, h⟩
  · cases h
theorem zgt_e {t : Int} {f : Nat → Option β} (h : zgt t none f = some o) : ∃ g : Nat, t = (g : Int) ∧ f g = some o := by
  unfold zgt at h
  split at h
  · exact ⟨t.toNat, by omega, h⟩
  · cases h
theorem zem_e {st : List zV} {f : Option β} (h : zem st none f = some o) : st = [] ∧ f = some o := by
  unfold zem at h
  split at h
  · exact ⟨rfl, h⟩
  · cases h
theorem zite_e {c : Prop} {hc : Decidable c} {f : Option β} (h : (if c then f else none) = some o) : c ∧ f = some o := by
  split at h
  · exact ⟨by assumption, h⟩
  · cases h
theorem zite_e' {c : Prop} {hc : Decidable c} {f : Option β} (h : (if c then none else f) = some o) : ¬ c ∧ f = some o := by
  split at h
  · cases h
  · exact ⟨by assumption, h⟩
def zokP (t : Nat) (x : Int) : Prop := (t = 1 → x = 0 ∨ x = 1) ∧ (t = 2 → 0 ≤ x ∧ x < 65536)
theorem zok_e {t : Nat} {x : Int} {f : Option β} (h : zok t x none f = some o) : zokP t x ∧ f = some o := by
  unfold zok at h
  split at h
  · obtain ⟨h1, h2⟩ := zite_e h
    exact ⟨⟨fun _ => h1, fun q => by omega⟩, h2⟩
  · split at h
    · obtain ⟨h1, h2⟩ := zite_e h
      exact ⟨⟨fun q => by omega, fun _ => h1⟩, h2⟩
    · exact ⟨⟨fun q => by omega, fun q => by omega⟩, h⟩
theorem zrec_e {as : List zV} {t : Nat} {f : Option β} (h : zrec as t none f = some o) : ∃ i u, as = zq (some (t, i)) :: u ∧ f = some o := by
  unfold zrec at h
  split at h
  · split at h
    · rename_i q hq
      exact ⟨_, _, by rw [← hq], h⟩
    · cases h
  · cases h
end El
/-! what may be stored -/
theorem z_nar {t : FieldType} {x : Int} (h : zokP (zTc t) x) (h3 : zTc t < 3) : narrow t (.int (Int32.ofInt x)) = .int (Int32.ofInt x) ∧ fits t (.int (Int32.ofInt x)) = true := by
  cases t with
  | int => exact ⟨rfl, rfl⟩
  | boolean =>
    rcases h.1 rfl with rfl | rfl
    · exact ⟨by decide +kernel, by decide +kernel⟩
    · exact ⟨by decide +kernel, by decide +kernel⟩
  | char =>
    obtain ⟨h1, h2⟩ := h.2 rfl
    have e : Int32.ofInt x = nI x.toNat := by
      apply Int32.toInt_inj.mp
      rw [zo_to, zw_id (by omega) (by omega), nI_toInt (by omega)]
      omega
    rw [e]
    exact pk_charN (by omega)
  | _ => simp [zTc] at h3
theorem z_fitR {t : FieldType} {ad : zAd} {r : Option (Nat × Nat)} (h3 : zTc t = 3) : narrow t (zcv ad (zq r)) = zcv ad (zq r) ∧ fits t (zcv ad (zq r)) = true := by
  cases t with
  | object n => cases r <;> exact ⟨rfl, rfl⟩
  | array n => cases r <;> exact ⟨rfl, rfl⟩
  | _ => simp [zTc] at h3
theorem zT_ty {a b : Nat} (h : b < zN a) (h3 : zTc (zTy a b) ≤ 3) : True := trivial
section Rows
variable {p : Program} {l : Launch} {e : Env} {R : Room} {s : State} {m : MethodId} {args : Array Value} {below : List Frame} {meth : Method} {c : Code} {H : Heap} {locs : List Loc} {cells slots : Nat} {Q : State → Prop}
variable {cc : ByteArray} {pc : Nat} {ls : Array Slot} {rest : List Value} {ad : zAd}
theorem zr_aload_n (hx : p.tables.exec = Jvm.exec) (hb : c.code = cc) {k : Fin 4} {r : Option (Nat × Nat)} (hdg : decode cc pc = .ok (.aload_n k, 1)) (hl : ls[k.val]? = some (.val (zcv ad (zq r)))) (kk : W p l e R s m args below meth c H locs cells slots Q (F0 m (pc + 1) ls (zcv ad (zq r) :: rest))) : W p l e R s m args below meth c H locs cells slots Q (F0 m pc ls rest) := by
  cases r with
  | none => exact lv_aload_nN hx hb hdg rfl hl kk
  | some q => exact lv_aload_n hx hb hdg rfl hl kk
theorem zr_aload (hx : p.tables.exec = Jvm.exec) (hb : c.code = cc) {k : Nat} {r : Option (Nat × Nat)} (hdg : decode cc pc = .ok (.aload k, 2)) (hl : ls[k]? = some (.val (zcv ad (zq r)))) (kk : W p l e R s m args below meth c H locs cells slots Q (F0 m (pc + 2) ls (zcv ad (zq r) :: rest))) : W p l e R s m args below meth c H locs cells slots Q (F0 m pc ls rest) := by
  cases r with
  | none => exact lv_aloadN hx hb hdg hl kk
  | some q => exact lv_aload hx hb hdg hl kk
theorem zr_astore_n (hx : p.tables.exec = Jvm.exec) (hb : c.code = cc) {k : Fin 4} {n : Nat} {L : zL} {r : Option (Nat × Nat)} (hdg : decode cc pc = .ok (.astore_n k, 1)) (hl : zLv ls n ad L) (hk : k.val < n) (kk : ∀ ls', zLv ls' n ad (zst L k.val (some (zq r))) → W p l e R s m args below meth c H locs cells slots Q (F0 m (pc + 1) ls' rest)) : W p l e R s m args below meth c H locs cells slots Q (F0 m pc ls (zcv ad (zq r) :: rest)) := by
  cases r with
  | none => exact lv_astore_nN hx hb hdg rfl hl.2 hk rfl (fun ls' h => kk ls' (hl.st (v := zq none) h))
  | some q => exact lv_astore_n hx hb hdg rfl hl.2 hk rfl (fun ls' h => kk ls' (hl.st (v := zq (some q)) h))
theorem zr_astore (hx : p.tables.exec = Jvm.exec) (hb : c.code = cc) {k : Nat} {n : Nat} {L : zL} {r : Option (Nat × Nat)} (hdg : decode cc pc = .ok (.astore k, 2)) (hl : zLv ls n ad L) (hk : k < n) (kk : ∀ ls', zLv ls' n ad (zst L k (some (zq r))) → W p l e R s m args below meth c H locs cells slots Q (F0 m (pc + 2) ls' rest)) : W p l e R s m args below meth c H locs cells slots Q (F0 m pc ls (zcv ad (zq r) :: rest)) := by
  cases r with
  | none => exact lv_astoreN hx hb hdg hl.2 hk rfl (fun ls' h => kk ls' (hl.st (v := zq none) h))
  | some q => exact lv_astore hx hb hdg hl.2 hk rfl (fun ls' h => kk ls' (hl.st (v := zq (some q)) h))
theorem zr_istore_n (hx : p.tables.exec = Jvm.exec) (hb : c.code = cc) {k : Fin 4} {n : Nat} {L : zL} {x : Int} (hdg : decode cc pc = .ok (.istore_n k, 1)) (hl : zLv ls n ad L) (hk : k.val < n) (kk : ∀ ls', zLv ls' n ad (zst L k.val (some (zi x))) → W p l e R s m args below meth c H locs cells slots Q (F0 m (pc + 1) ls' rest)) : W p l e R s m args below meth c H locs cells slots Q (F0 m pc ls (zcv ad (zi x) :: rest)) :=
  lv_istore_n hx hb hdg rfl hl.2 hk rfl (fun ls' h => kk ls' (hl.st (v := zi x) h))
theorem zr_istore (hx : p.tables.exec = Jvm.exec) (hb : c.code = cc) {k : Nat} {n : Nat} {L : zL} {x : Int} (hdg : decode cc pc = .ok (.istore k, 2)) (hl : zLv ls n ad L) (hk : k < n) (kk : ∀ ls', zLv ls' n ad (zst L k (some (zi x))) → W p l e R s m args below meth c H locs cells slots Q (F0 m (pc + 2) ls' rest)) : W p l e R s m args below meth c H locs cells slots Q (F0 m pc ls (zcv ad (zi x) :: rest)) :=
  lv_istore hx hb hdg hl.2 hk rfl (fun ls' h => kk ls' (hl.st (v := zi x) h))
theorem zr_iinc (hx : p.tables.exec = Jvm.exec) (hb : c.code = cc) {k : Nat} {n : Nat} {L : zL} {x v : Int} (hdg : decode cc pc = .ok (.iinc k v, 3)) (hl : zLv ls n ad L) (hL : L[k]? = some (some (zi x))) (kk : ∀ ls', zLv ls' n ad (zst L k (some (zi (x + v)))) → W p l e R s m args below meth c H locs cells slots Q (F0 m (pc + 3) ls' rest)) : W p l e R s m args below meth c H locs cells slots Q (F0 m pc ls rest) := by
  have hm : (k, zcv ad (zi x)) ∈ zlv ad 0 L := zlv_mem.mpr ⟨k, zi x, hL, by rw [Nat.zero_add]⟩
  obtain ⟨j, hj⟩ := List.getElem?_of_mem hm
  have hk : k < n := by rw [← hl.1]; exact (List.getElem?_eq_some_iff.mp hL).1
  exact lv_iinc hx hb hdg hl.2 hj (zo_add x v).symm hk rfl (fun ls' h => kk ls' (hl.st (v := zi (x + v)) h))
end Rows
