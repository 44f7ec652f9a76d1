/-! a new cell -/
def zup (ad : zAd) (a i q : Nat) : zAd := fun c j => if c = a ∧ j = i then q else ad c j
theorem zup_s (ad : zAd) (a i q : Nat) : zup ad a i q a i = q := if_pos ⟨rfl, rfl⟩
theorem zup_n {ad : zAd} {a i q c j : Nat} (h : ¬ (c = a ∧ j = i)) : zup ad a i q c j = ad c j := if_neg h
theorem zup_ag {S : zS} {ad : zAd} {a q : Nat} : zAg S ad (zup ad a (S.2.2.1 a) q) := fun c i hi => zup_n (by rintro ⟨rfl, rfl⟩; omega)
def zmk (S : zS) (a nc ns : Nat) : zS := (S.1, S.2.1, va_up S.2.2.1 a (S.2.2.1 a + 1), nc, ns, S.2.2.2.2.2)
theorem zmk_le (S : zS) (a nc ns c : Nat) : S.2.2.1 c ≤ (zmk S a nc ns).2.2.1 c := by
  show S.2.2.1 c ≤ va_up S.2.2.1 a (S.2.2.1 a + 1) c
  unfold va_up
  split
  · rename_i h; subst h; omega
  · omega
theorem zvok.le {S S' : zS} (h : ∀ c, S.2.2.1 c ≤ S'.2.2.1 c) {v : zV} (hv : zvok S v) : zvok S' v := by
  match v, hv with
  | .inl _, _ => trivial
  | .inr (.inl _), _ => trivial
  | .inr (.inr none), _ => trivial
  | .inr (.inr (some q)), hv => exact Nat.lt_of_lt_of_le hv (h q.1)
theorem zSok.le {S S' : zS} (h : ∀ c, S.2.2.1 c ≤ S'.2.2.1 c) {st : List zV} (hv : zSok S st) : zSok S' st := fun v q => (hv v q).le h
theorem zLok.le {S S' : zS} (h : ∀ c, S.2.2.1 c ≤ S'.2.2.1 c) {L : zL} (hv : zLok S L) : zLok S' L := fun k v q => (hv k v q).le h
theorem zAg.trans {S S' : zS} {ad ad1 ad2 : zAd} (h : zAg S ad ad1) (hle : ∀ c, S.2.2.1 c ≤ S'.2.2.1 c) (h' : zAg S' ad1 ad2) : zAg S ad ad2 := fun c i hi => (h' c i (Nat.lt_of_lt_of_le hi (hle c))).trans (h c i hi)
theorem zct_ag {S : zS} {ad ad' : zAd} {dA dA' : Nat → ClassId} {c i : Nat} (h : zAg S ad ad') (hok : ∀ c i k, zvok S (zq (S.2.1 c i k))) (hd : ∀ n, zArr c = some n → dA' c = dA c) : zct ad' dA' S c i = zct ad dA S c i := by
  have h1 : ∀ k, zcv ad' (zq (S.2.1 c i k)) = zcv ad (zq (S.2.1 c i k)) := fun k => h.cv (hok c i k)
  have h2 : ∀ k, (S.2.1 c i k).map (fun q => ad' q.1 q.2) = (S.2.1 c i k).map (fun q => ad q.1 q.2) := fun k => by
    have := hok c i k
    cases hq : S.2.1 c i k with
    | none => rfl
    | some q =>
      rw [hq] at this
      exact congrArg some (h q.1 q.2 this)
  cases hn : zArr c with
  | none =>
    unfold zct
    rw [hn]
    dsimp only
    congr 2
    apply List.map_congr_left
    intro k _
    unfold zfv
    rw [h1 k]
    rfl
  | some n =>
    rw [zct_a hn, zct_a hn, hd n hn]
    congr 3
    unfold zel
    simp only [h2]
theorem zRl.make {A : Nat → Prop} {D : va_G} {xs : Nat → Int32} {N : Nat} {ad : zAd} {dA dA1 : Nat → ClassId} {ws : va_W} {tys tys1 : List (ClassId × FieldType)} {S : zS} {U : State} {H H1 : Heap} (h : zRl A D xs N ad dA ws tys S U H) (hW : ∀ i, i < 6 → ¬ A (ad 90 i)) (hB : ¬ A (ad 99 0)) (hB1 : ¬ A (ad 91 0))
    {a q : Nat} {e : va_E} (nc ns : Nat) (ha : zHas a) (ha9 : a ≠ 90 ∧ a ≠ 99 ∧ a ≠ 91) (hdA : ∀ c n, zArr c = some n → 0 < S.2.2.1 c → dA1 c = dA c) (ht : ∀ (t0 : Nat) x, tys[t0]? = some x → tys1[t0]? = some x) (hta : ∀ n, zArr a = some n → ∃ t0 : Nat, tys1[t0]? = some (dA1 a, zEt a))
    (hK : va_K D zCl tys1 U) (he : e = zct ad dA1 S a (S.2.2.1 a)) (hP : va_P D zCl (ws ++ [(q, e)]) H1) (hD : va_D A (ws ++ [(q, e)])) : zRl A D xs N (zup ad a (S.2.2.1 a) q) dA1 (ws ++ [(q, e)]) tys1 (zmk S a nc ns) U H1 := by
  have hag : zAg S ad (zup ad a (S.2.2.1 a) q) := zup_ag
  have hlast : (ws ++ [(q, e)])[ws.length]? = some (q, e) := by simp
  have hin : ∀ c i, i < (zmk S a nc ns).2.2.1 c → (c = a ∧ i = S.2.2.1 a) ∨ (i < S.2.2.1 c ∧ ¬ (c = a ∧ i = S.2.2.1 a)) := by
    intro c i hi
    have hi' : i < va_up S.2.2.1 a (S.2.2.1 a + 1) c := hi
    unfold va_up at hi'
    split at hi'
    · rename_i hc
      subst hc
      by_cases hq : i = S.2.2.1 c
      · exact Or.inl ⟨rfl, hq⟩
      · exact Or.inr ⟨by omega, fun z => hq z.2⟩
    · rename_i hc
      exact Or.inr ⟨hi', fun z => hc z.1⟩
  have hq : ∀ c i, i < S.2.2.1 c → q ≠ ad c i := by
    intro c i hi hqe
    have hqA : A q := hD.2 ws.length (q, e) hlast
    rcases h.tg c (by omega) with hc | rfl | rfl | rfl
    · obtain ⟨q0, hq0⟩ := h.cell c i hc hi
      have hl := (List.getElem?_eq_some_iff.mp hq0).1
      have h1 : (ws ++ [(q, e)])[q0]? = some (ad c i, zct ad dA S c i) := by rw [List.getElem?_append_left hl]; exact hq0
      have := hD.1 ws.length q0 _ _ hlast h1 hqe
      omega
    · rw [h.c90] at hi
      exact hW i hi (hqe ▸ hqA)
    · rw [h.c99] at hi
      have : i = 0 := by omega
      subst this
      exact hB (hqe ▸ hqA)
    · rw [h.c91] at hi
      have : i = 0 := by omega
      subst this
      exact hB1 (hqe ▸ hqA)
  refine ⟨hP, hD, hK, fun c i hc hi => ?_, fun c i c' i' hcc hi hi' heq => ?_, fun c n hn hc => ?_, fun c i k => ?_, fun c i k hk => ?_, ?_, h.len, h.scr, fun c hc => ?_⟩
  · have hz : ∀ c i, zct (zup ad a (S.2.2.1 a) q) dA1 (zmk S a nc ns) c i = zct (zup ad a (S.2.2.1 a) q) dA1 S c i := fun c i => rfl
    rw [hz]
    rcases hin c i hi with ⟨rfl, rfl⟩ | ⟨hi, hne⟩
    · refine ⟨ws.length, ?_⟩
      rw [hlast, zup_s, he, zct_ag (dA := dA1) hag h.ok (fun _ _ => rfl)]
    · obtain ⟨q0, hq0⟩ := h.cell c i hc hi
      have hl := (List.getElem?_eq_some_iff.mp hq0).1
      refine ⟨q0, ?_⟩
      rw [List.getElem?_append_left hl, hq0, zup_n hne, zct_ag (dA := dA) hag h.ok (fun n hn => hdA c n hn (by omega))]
  · rcases hin c i hi with ⟨rfl, rfl⟩ | ⟨hi2, hne⟩ <;> rcases hin c' i' hi' with ⟨rfl, rfl⟩ | ⟨hi3, hne'⟩
    · exact ⟨rfl, rfl⟩
    · rw [zup_s, zup_n hne'] at heq
      exact absurd heq (hq c' i' hi3)
    · rw [zup_s, zup_n hne] at heq
      exact absurd heq.symm (hq c i hi2)
    · rw [zup_n hne, zup_n hne'] at heq
      exact h.inj c i c' i' hcc hi2 hi3 heq
  · by_cases hca : c = a
    · subst hca
      exact hta n hn
    · have hc' : 0 < va_up S.2.2.1 a (S.2.2.1 a + 1) c := hc
      rw [va_up_ne _ _ hca] at hc'
      obtain ⟨t0, ht0⟩ := h.arr c n hn hc'
      exact ⟨t0, by rw [ht t0 _ ht0, hdA c n hn hc']⟩
  · exact (h.ok c i k).le (zmk_le S a nc ns)
  · have := zmk_le S a nc ns c
    exact h.fresh c i k (by omega)
  · refine ⟨?_, ?_, ?_⟩
    · show va_up S.2.2.1 a (S.2.2.1 a + 1) 90 = 6
      rw [va_up_ne _ _ (Ne.symm ha9.1)]
      exact h.c90
    · show va_up S.2.2.1 a (S.2.2.1 a + 1) 99 = 1
      rw [va_up_ne _ _ (Ne.symm ha9.2.1)]
      exact h.c99
    · show va_up S.2.2.1 a (S.2.2.1 a + 1) 91 = 1
      rw [va_up_ne _ _ (Ne.symm ha9.2.2)]
      exact h.c91
  · have hc' : 0 < va_up S.2.2.1 a (S.2.2.1 a + 1) c := hc
    by_cases hca : c = a
    · subst hca; exact Or.inl ha
    · rw [va_up_ne _ _ hca] at hc'
      exact h.tg c hc'
/-- a fresh object's fields -/
theorem z_def {ad : zAd} {S : zS} {a k : Nat} (h1 : S.1 a (S.2.2.1 a) k = 0) (h2 : S.2.1 a (S.2.2.1 a) k = none) (ht : zTc (zTy a k) ≤ 3) : defaultValue (zTy a k) = zfv ad S a (S.2.2.1 a) k := by
  unfold zfv
  rw [h1, h2]
  cases hty : zTy a k with
  | int => rfl
  | boolean => rfl
  | char => rfl
  | object n => rfl
  | array n => rfl
  | _ => rw [hty] at ht; simp [zTc] at ht
