/-! more rows for symbolic runs -/
theorem zs_st2 {a v : Option zV} {l : zL} : zst (a :: l) 2 v = a :: zst l 1 v := rfl
theorem zs_st3 {a v : Option zV} {l : zL} : zst (a :: l) 3 v = a :: zst l 2 v := rfl
theorem zs_st4 {a v : Option zV} {l : zL} : zst (a :: l) 4 v = a :: zst l 3 v := rfl
theorem zs_st5 {a v : Option zV} {l : zL} : zst (a :: l) 5 v = a :: zst l 4 v := rfl
theorem zs_st6 {a v : Option zV} {l : zL} : zst (a :: l) 6 v = a :: zst l 5 v := rfl
theorem zs_st7 {a v : Option zV} {l : zL} : zst (a :: l) 7 v = a :: zst l 6 v := rfl
theorem zs_st8 {a v : Option zV} {l : zL} : zst (a :: l) 8 v = a :: zst l 7 v := rfl
theorem zsI_ne {I : zMI} {c i k c' i' k' : Nat} {v : Int} (h : c' ≠ c ∨ i' ≠ i ∨ k' ≠ k) : zsI I c i k v c' i' k' = I c' i' k' := zsI_n (by omega)
theorem zsR_ne {R : zMR} {c i k c' i' k' : Nat} {v : Option (Nat × Nat)} (h : c' ≠ c ∨ i' ≠ i ∨ k' ≠ k) : zsR R c i k v c' i' k' = R c' i' k' := zsR_n (by omega)
theorem zw_i {a : Int} (h1 : -2147483648 ≤ a) (h2 : a < 2147483648) : zw a = a := zw_id h1 h2
/-- places by natural numbers -/
theorem zs_ixn {α : Type} {bad : α} {m n : Nat} {f : Nat → α} (h1 : m < n) (h2 : n < 2147483648) : zix (m : Int) n bad f = f m := by
  rw [zs_ix (by omega) (by omega) h2]; rfl
theorem zs_wle {t : List zV} {α : Type} {f g : α} (h : zwt t ≤ 8) : (if zwt t ≤ 8 then f else g) = f := if_pos h
theorem zs_same0 {α : Type} {bad f g : α} {c i j : Nat} : zsame (some (c, i)) (some (c, j)) bad f g = if i = j then f else g := by simp [zsame]
