/-! the law on every script -/
theorem law_ok : zLaw := fun L xs hL => by
  have h : Zgo 2000 128 0 [some (zq (some (99, 0))), none, none, none, none, none, none] [] (zS0 xs L) (fun v S => v = some (zi 1) ∧ S.2.2.2.1 ≤ 601024 ∧ S.2.2.2.2.1 ≤ 7293034) := by
    refine law_go _ _ L hL (fun c hc => ?_) (fun t i k ht => ?_) (fun k => ?_) (fun S h1 h2 => ⟨rfl, h1, h2⟩)
    · show (if c = 90 then 6 else if c = 91 ∨ c = 99 then 1 else 0) = 0
      rw [if_neg (by omega), if_neg (by omega)]
    · show (if t = 99 ∧ i = 0 ∧ k < L then (xs k).toInt else 0) = 0
      rw [if_neg (by omega)]
    · show zw (if 99 = 99 ∧ 0 = 0 ∧ k < L then (xs k).toInt else 0) = (if 99 = 99 ∧ 0 = 0 ∧ k < L then (xs k).toInt else 0)
      by_cases q : k < L
      · rw [if_pos ⟨rfl, rfl, q⟩]
        exact zw_i (Int32.le_toInt _) (Int32.toInt_lt _)
      · rw [if_neg (fun w => q w.2.2)]
        exact zw_i (by omega) (by omega)
  obtain ⟨n, ⟨r, S'⟩, h1, h2, h3, h4⟩ := h
  have h2 : r = some (zi 1) := h2
  subst h2
  exact ⟨n, S', h1, h3, h4⟩
theorem i_vc : Claimed_1_1 ∧ Claimed_1_2 := z_claim law_ok
