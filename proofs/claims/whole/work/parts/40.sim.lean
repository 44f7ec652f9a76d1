/-! rows for symbolic runs -/
section Sim
variable {α β : Type} {bad : α}
theorem zs_ldi0 {l : zL} {x : Int} {f : Int → α} : zldi (some (zi x) :: l) 0 bad f = f x := rfl
theorem zs_ldis {a : Option zV} {l : zL} {k : Nat} {f : Int → α} : zldi (a :: l) (k + 1) bad f = zldi l k bad f := rfl
theorem zs_ldl0 {l : zL} {x : Int} {f : Int → α} : zldl (some (zl x) :: l) 0 bad f = f x := rfl
theorem zs_ldls {a : Option zV} {l : zL} {k : Nat} {f : Int → α} : zldl (a :: l) (k + 1) bad f = zldl l k bad f := rfl
theorem zs_lda0 {l : zL} {x : Option (Nat × Nat)} {f : Option (Nat × Nat) → α} : zlda (some (zq x) :: l) 0 bad f = f x := rfl
theorem zs_ldas {a : Option zV} {l : zL} {k : Nat} {f : Option (Nat × Nat) → α} : zlda (a :: l) (k + 1) bad f = zlda l k bad f := rfl
theorem zs_st0 {a v : Option zV} {l : zL} : zst (a :: l) 0 v = v :: l := rfl
theorem zs_st1 {a v : Option zV} {l : zL} : zst (a :: l) 1 v = zkl a :: zst l 0 v := rfl
theorem zs_sts {a v : Option zV} {l : zL} {k : Nat} : zst (a :: l) (k + 2) v = a :: zst l (k + 1) v := rfl
theorem zs_kli {x : Int} : zkl (some (zi x)) = some (zi x) := rfl
theorem zs_klq {x : Option (Nat × Nat)} : zkl (some (zq x)) = some (zq x) := rfl
theorem zs_kln : zkl none = none := rfl
theorem zs_pi {x : Int} {t : List zV} {f : Int → List zV → α} : zpi (zi x :: t) bad f = f x t := rfl
theorem zs_pl {x : Int} {t : List zV} {f : Int → List zV → α} : zpl (zl x :: t) bad f = f x t := rfl
theorem zs_pa {x : Option (Nat × Nat)} {t : List zV} {f : Option (Nat × Nat) → List zV → α} : zpa (zq x :: t) bad f = f x t := rfl
theorem zs_p1i {x : Int} {t : List zV} {f : zV → List zV → α} : zp1 (zi x :: t) bad f = f (zi x) t := rfl
theorem zs_p1q {x : Option (Nat × Nat)} {t : List zV} {f : zV → List zV → α} : zp1 (zq x :: t) bad f = f (zq x) t := rfl
theorem zs_de {c i : Nat} {f : Nat → α} : zde (some (c, i)) c bad f = f i := by simp [zde]
theorem zs_nn {q : Nat × Nat} {f : Nat → Nat → α} : znn (some q) bad f = f q.1 q.2 := rfl
theorem zs_op {x : β} {f : β → α} : zop (some x) bad f = f x := rfl
theorem zs_em {f : α} : zem [] bad f = f := rfl
theorem zs_ok1 {x : Int} {f : α} (h : x = 0 ∨ x = 1) : zok 1 x bad f = f := by unfold zok; rw [if_pos rfl, if_pos h]
theorem zs_ok2 {x : Int} {f : α} (h : 0 ≤ x ∧ x < 65536) : zok 2 x bad f = f := by unfold zok; rw [if_neg (by decide), if_pos rfl, if_pos h]
theorem zs_ok10 {f : α} : zok 1 0 bad f = f := zs_ok1 (Or.inl rfl)
theorem zs_ok11 {f : α} : zok 1 1 bad f = f := zs_ok1 (Or.inr rfl)
theorem zs_rec {c i : Nat} {u : List zV} {f : α} : zrec (zq (some (c, i)) :: u) c bad f = f := by simp [zrec]
theorem zs_in0 {t : List zV} {f : List zV → List zV → α} : zinv 0 t bad f = if zwt t ≤ 8 then f [] t else bad := rfl
theorem zs_in1 {a : zV} {t : List zV} {f : List zV → List zV → α} : zinv 1 (a :: t) bad f = if zwt t ≤ 8 then f [a] t else bad := rfl
theorem zs_in2 {a b : zV} {t : List zV} {f : List zV → List zV → α} : zinv 2 (b :: a :: t) bad f = if zwt t ≤ 8 then f [a, b] t else bad := rfl
theorem zs_in3 {a b c : zV} {t : List zV} {f : List zV → List zV → α} : zinv 3 (c :: b :: a :: t) bad f = if zwt t ≤ 8 then f [a, b, c] t else bad := rfl
theorem zs_in4 {a b c d : zV} {t : List zV} {f : List zV → List zV → α} : zinv 4 (d :: c :: b :: a :: t) bad f = if zwt t ≤ 8 then f [a, b, c, d] t else bad := rfl
theorem zs_in5 {a b c d e : zV} {t : List zV} {f : List zV → List zV → α} : zinv 5 (e :: d :: c :: b :: a :: t) bad f = if zwt t ≤ 8 then f [a, b, c, d, e] t else bad := rfl
theorem zs_wn : zwt [] = 0 := rfl
theorem zs_wi {x : Int} {t : List zV} : zwt (zi x :: t) = 1 + zwt t := rfl
theorem zs_wl {x : Int} {t : List zV} : zwt (zl x :: t) = 2 + zwt t := rfl
theorem zs_wq {x : Option (Nat × Nat)} {t : List zV} : zwt (zq x :: t) = 1 + zwt t := rfl
theorem zs_ix {j : Int} {n : Nat} {f : Nat → α} (h0 : 0 ≤ j) (h1 : j < (n : Int)) (h2 : n < 2147483648) : zix j n bad f = f j.toNat := by
  unfold zix
  rw [zw_id (by omega) (by omega), if_pos ⟨h0, h1⟩]
end Sim
