/-! what each instruction does to the shapes that it finds (2) -/
section
variable {d : Nat} {L : zL} {st : List zV} {I : zMI} {R : zMR} {al : zA} {Q : Option zV → zS → Prop} {a0 a1 a2 a3 a4 a5 a6 a7 a8 b0 : Option zV}
theorem zh_56_0 {x : Option (Nat × Nat)} : Zgo d 56 0 (a0 :: a1 :: some (zq x) :: L) (st) (I, R, al) Q ↔ Zgo d 56 1 (a0 :: a1 :: some (zq x) :: L) (zq x :: st) (I, R, al) Q := zg_56_0
theorem zh_56_1 : Zgo d 56 1 (L) (st) (I, R, al) Q ↔ Zgo d 56 2 (L) (zi 0 :: st) (I, R, al) Q := zg_56_1
theorem zh_56_2 {x : Option (Nat × Nat)} : Zgo d 56 2 (some (zq x) :: L) (st) (I, R, al) Q ↔ Zgo d 56 3 (some (zq x) :: L) (zq x :: st) (I, R, al) Q := zg_56_2
theorem zh_56_3 {x : Int} : Zgo d 56 3 (a0 :: some (zi x) :: L) (st) (I, R, al) Q ↔ Zgo d 56 4 (a0 :: some (zi x) :: L) (zi x :: st) (I, R, al) Q := zg_56_3
theorem zh_56_7 {x : Int} : Zgo d 56 7 (L) (zi x :: st) (I, R, al) Q ↔ Zgo d 56 8 (L) (zl (zw x) :: st) (I, R, al) Q := zg_56_7
theorem zh_56_8 {v j : Int} {c o : Nat} : Zgo d 56 8 (L) (zl v :: zi j :: zq (some (c, o)) :: st) (I, R, al) Q ↔ zal (zArr c) 4 j (fun x => Zgo d 56 9 (L) (st) (zsI I c o x v, R, al) Q) := zg_56_8
theorem zh_56_9 : Zgo d 56 9 (L) (st) (I, R, al) Q ↔ Zgo d 56 18 (L) (st) (I, R, al) Q := zg_56_9
theorem zh_56_12 {x : Option (Nat × Nat)} : Zgo d 56 12 (a0 :: a1 :: a2 :: b0 :: L) (zq x :: st) (I, R, al) Q ↔ Zgo d 56 13 (a0 :: a1 :: zkl a2 :: some (zq x) :: L) (st) (I, R, al) Q := zg_56_12
theorem zh_56_13 : Zgo d 56 13 (L) (st) (I, R, al) Q ↔ Zgo d 56 14 (L) (zi 1 :: st) (I, R, al) Q := zg_56_13
theorem zh_56_14 {x : Int} : Zgo d 56 14 (L) (zi x :: []) (I, R, al) Q ↔ Q (some (zi x)) (I, R, al) := zg_56_14
theorem zh_56_15 {x : Option (Nat × Nat)} : Zgo d 56 15 (a0 :: a1 :: a2 :: b0 :: L) (zq x :: st) (I, R, al) Q ↔ Zgo d 56 16 (a0 :: a1 :: zkl a2 :: some (zq x) :: L) (st) (I, R, al) Q := zg_56_15
theorem zh_56_16 : Zgo d 56 16 (L) (st) (I, R, al) Q ↔ Zgo d 56 17 (L) (zi 2 :: st) (I, R, al) Q := zg_56_16
theorem zh_56_17 {x : Int} : Zgo d 56 17 (L) (zi x :: []) (I, R, al) Q ↔ Q (some (zi x)) (I, R, al) := zg_56_17
theorem zh_56_18 : Zgo d 56 18 (L) (st) (I, R, al) Q ↔ Zgo d 56 19 (L) (zi 0 :: st) (I, R, al) Q := zg_56_18
theorem zh_56_19 {x : Int} : Zgo d 56 19 (L) (zi x :: []) (I, R, al) Q ↔ Q (some (zi x)) (I, R, al) := zg_56_19
theorem zh_57_0 {x : Int} : Zgo d 57 0 (a0 :: some (zi x) :: L) (st) (I, R, al) Q ↔ Zgo d 57 1 (a0 :: some (zi x) :: L) (zi x :: st) (I, R, al) Q := zg_57_0
theorem zh_57_1 {x : Int} : Zgo d 57 1 (L) (zi x :: st) (I, R, al) Q ↔ if zw x < zw 0 then Zgo d 57 11 (L) (st) (I, R, al) Q else Zgo d 57 4 (L) (st) (I, R, al) Q := zg_57_1
theorem zh_57_4 {x : Int} : Zgo d 57 4 (a0 :: some (zi x) :: L) (st) (I, R, al) Q ↔ Zgo d 57 5 (a0 :: some (zi x) :: L) (zi x :: st) (I, R, al) Q := zg_57_4
theorem zh_57_5 : Zgo d 57 5 (L) (st) (I, R, al) Q ↔ Zgo d 57 8 (L) (zi 3000 :: st) (I, R, al) Q := zg_57_5
theorem zh_57_8 {x y : Int} : Zgo d 57 8 (L) (zi y :: zi x :: st) (I, R, al) Q ↔ if zw y < zw x then Zgo d 57 11 (L) (st) (I, R, al) Q else Zgo d 57 21 (L) (st) (I, R, al) Q := zg_57_8
theorem zh_57_14 {x : Int} : Zgo d 57 14 (L) (zi x :: st) (I, R, al) Q ↔ Zgo d 57 15 (L) (zi x :: zi x :: st) (I, R, al) Q := zg_57_14
theorem zh_57_14q {u : Option (Nat × Nat)} : Zgo d 57 14 (L) (zq u :: st) (I, R, al) Q ↔ Zgo d 57 15 (L) (zq u :: zq u :: st) (I, R, al) Q := zg_57_14
theorem zh_57_15 : Zgo d 57 15 (L) (st) (I, R, al) Q ↔ Zgo d 57 17 (L) (zq (some (91, 1)) :: st) (I, R, al) Q := zg_57_15
theorem zh_57_21 {x : Option (Nat × Nat)} : Zgo d 57 21 (some (zq x) :: L) (st) (I, R, al) Q ↔ Zgo d 57 22 (some (zq x) :: L) (zq x :: st) (I, R, al) Q := zg_57_21
theorem zh_57_22 {o : Nat} : Zgo d 57 22 (L) (zq (some (0, o)) :: st) (I, R, al) Q ↔ Zgo d 57 25 (L) (zq (R 0 o 1) :: st) (I, R, al) Q := zg_57_22
theorem zh_57_25 {o : Nat} : Zgo d 57 25 (L) (zq (some (7, o)) :: st) (I, R, al) Q ↔ Zgo d 57 28 (L) (zi (I 7 o 6) :: st) (I, R, al) Q := zg_57_25
theorem zh_57_28 {x : Int} : Zgo d 57 28 (L) (zi x :: st) (I, R, al) Q ↔ if zw x = zw 0 then Zgo d 57 31 (L) (st) (I, R, al) Q else Zgo d 57 41 (L) (st) (I, R, al) Q := zg_57_28
theorem zh_57_34 {x : Int} : Zgo d 57 34 (L) (zi x :: st) (I, R, al) Q ↔ Zgo d 57 35 (L) (zi x :: zi x :: st) (I, R, al) Q := zg_57_34
theorem zh_57_34q {u : Option (Nat × Nat)} : Zgo d 57 34 (L) (zq u :: st) (I, R, al) Q ↔ Zgo d 57 35 (L) (zq u :: zq u :: st) (I, R, al) Q := zg_57_34
theorem zh_57_35 : Zgo d 57 35 (L) (st) (I, R, al) Q ↔ Zgo d 57 37 (L) (zq (some (91, 2)) :: st) (I, R, al) Q := zg_57_35
theorem zh_57_41 {x : Option (Nat × Nat)} : Zgo d 57 41 (some (zq x) :: L) (st) (I, R, al) Q ↔ Zgo d 57 42 (some (zq x) :: L) (zq x :: st) (I, R, al) Q := zg_57_41
theorem zh_57_42 {o : Nat} : Zgo d 57 42 (L) (zq (some (0, o)) :: st) (I, R, al) Q ↔ Zgo d 57 45 (L) (zq (R 0 o 4) :: st) (I, R, al) Q := zg_57_42
theorem zh_57_45 {x : Int} : Zgo d 57 45 (a0 :: some (zi x) :: L) (st) (I, R, al) Q ↔ Zgo d 57 46 (a0 :: some (zi x) :: L) (zi x :: st) (I, R, al) Q := zg_57_45
theorem zh_57_46 {v1 : zV} {o : Nat} : Zgo d 57 46 (L) (v1 :: zq (some (10, o)) :: st) (I, R, al) Q ↔ if zwt st ≤ 8 then zCp d 58 [zq (some (10, o)), v1] (I, R, al) (fun r S2 => Zgo d 57 49 L (r.toList ++ st) S2 Q) else False := zg_57_46
theorem zh_57_49 {x : Int} : Zgo d 57 49 (L) (zi x :: []) (I, R, al) Q ↔ Q (some (zi x)) (I, R, al) := zg_57_49
theorem zh_58_0 {x : Option (Nat × Nat)} : Zgo d 58 0 (some (zq x) :: L) (st) (I, R, al) Q ↔ Zgo d 58 1 (some (zq x) :: L) (zq x :: st) (I, R, al) Q := zg_58_0
theorem zh_58_1 {o : Nat} : Zgo d 58 1 (L) (zq (some (10, o)) :: st) (I, R, al) Q ↔ if zwt st ≤ 8 then zCp d 17 [zq (some (10, o))] (I, R, al) (fun r S2 => Zgo d 58 4 L (r.toList ++ st) S2 Q) else False := zg_58_1
theorem zh_58_4 {x : Option (Nat × Nat)} : Zgo d 58 4 (some (zq x) :: L) (st) (I, R, al) Q ↔ Zgo d 58 5 (some (zq x) :: L) (zq x :: st) (I, R, al) Q := zg_58_4
theorem zh_58_5 {x : Int} : Zgo d 58 5 (a0 :: some (zi x) :: L) (st) (I, R, al) Q ↔ Zgo d 58 6 (a0 :: some (zi x) :: L) (zi x :: st) (I, R, al) Q := zg_58_5
theorem zh_58_6 {o : Nat} {v : Int} : Zgo d 58 6 (L) (zi v :: zq (some (10, o)) :: st) (I, R, al) Q ↔ Zgo d 58 9 (L) (st) (zsI I 10 o 4 v, R, al) Q := zg_58_6
theorem zh_58_9 {x : Option (Nat × Nat)} : Zgo d 58 9 (some (zq x) :: L) (st) (I, R, al) Q ↔ Zgo d 58 10 (some (zq x) :: L) (zq x :: st) (I, R, al) Q := zg_58_9
theorem zh_58_10 {x : Int} : Zgo d 58 10 (a0 :: some (zi x) :: L) (st) (I, R, al) Q ↔ Zgo d 58 11 (a0 :: some (zi x) :: L) (zi x :: st) (I, R, al) Q := zg_58_10
theorem zh_58_11 {o : Nat} {v : Int} : Zgo d 58 11 (L) (zi v :: zq (some (10, o)) :: st) (I, R, al) Q ↔ Zgo d 58 14 (L) (st) (zsI I 10 o 5 v, R, al) Q := zg_58_11
theorem zh_58_14 {x : Option (Nat × Nat)} : Zgo d 58 14 (some (zq x) :: L) (st) (I, R, al) Q ↔ Zgo d 58 15 (some (zq x) :: L) (zq x :: st) (I, R, al) Q := zg_58_14
theorem zh_58_15 {x : Option (Nat × Nat)} : Zgo d 58 15 (some (zq x) :: L) (st) (I, R, al) Q ↔ Zgo d 58 16 (some (zq x) :: L) (zq x :: st) (I, R, al) Q := zg_58_15
theorem zh_58_16 {o : Nat} : Zgo d 58 16 (L) (zq (some (10, o)) :: st) (I, R, al) Q ↔ Zgo d 58 19 (L) (zq (R 10 o 9) :: st) (I, R, al) Q := zg_58_16
theorem zh_58_19 {o : Nat} : Zgo d 58 19 (L) (zq (some (7, o)) :: st) (I, R, al) Q ↔ Zgo d 58 22 (L) (zq (R 7 o 1) :: st) (I, R, al) Q := zg_58_19
theorem zh_58_22 {o : Nat} : Zgo d 58 22 (L) (zq (some (2, o)) :: st) (I, R, al) Q ↔ Zgo d 58 25 (L) (zq (R 2 o 3) :: st) (I, R, al) Q := zg_58_22
theorem zh_58_25 : Zgo d 58 25 (L) (st) (I, R, al) Q ↔ Zgo d 58 26 (L) (zi 0 :: st) (I, R, al) Q := zg_58_25
theorem zh_58_26 {v1 v2 : zV} {o : Nat} : Zgo d 58 26 (L) (v2 :: v1 :: zq (some (10, o)) :: st) (I, R, al) Q ↔ if zwt st ≤ 8 then zCp d 59 [zq (some (10, o)), v1, v2] (I, R, al) (fun r S2 => Zgo d 58 29 L (r.toList ++ st) S2 Q) else False := zg_58_26
theorem zh_58_29 {x : Option (Nat × Nat)} : Zgo d 58 29 (a0 :: a1 :: b0 :: L) (zq x :: st) (I, R, al) Q ↔ Zgo d 58 30 (a0 :: zkl a1 :: some (zq x) :: L) (st) (I, R, al) Q := zg_58_29
theorem zh_58_30 {x : Option (Nat × Nat)} : Zgo d 58 30 (a0 :: a1 :: some (zq x) :: L) (st) (I, R, al) Q ↔ Zgo d 58 31 (a0 :: a1 :: some (zq x) :: L) (zq x :: st) (I, R, al) Q := zg_58_30
theorem zh_58_31 : Zgo d 58 31 (L) (st) (I, R, al) Q ↔ Zgo d 58 34 (L) (zq (some (90, 5)) :: st) (I, R, al) Q := zg_58_31
theorem zh_58_34 {c i j : Nat} : Zgo d 58 34 (L) (zq (some (c, j)) :: zq (some (c, i)) :: st) (I, R, al) Q ↔ (if i = j then Zgo d 58 37 (L) (st) (I, R, al) Q else Zgo d 58 45 (L) (st) (I, R, al) Q) := zg_58_34.trans (Iff.of_eq zs_same0)
theorem zh_58_34n : Zgo d 58 34 (L) (zq none :: zq none :: st) (I, R, al) Q ↔ Zgo d 58 37 (L) (st) (I, R, al) Q := zg_58_34
theorem zh_58_34l {q : Nat × Nat} : Zgo d 58 34 (L) (zq (some q) :: zq none :: st) (I, R, al) Q ↔ Zgo d 58 45 (L) (st) (I, R, al) Q := zg_58_34
theorem zh_58_34r {q : Nat × Nat} : Zgo d 58 34 (L) (zq none :: zq (some q) :: st) (I, R, al) Q ↔ Zgo d 58 45 (L) (st) (I, R, al) Q := zg_58_34
theorem zh_58_37 {x : Option (Nat × Nat)} : Zgo d 58 37 (some (zq x) :: L) (st) (I, R, al) Q ↔ Zgo d 58 38 (some (zq x) :: L) (zq x :: st) (I, R, al) Q := zg_58_37
theorem zh_58_38 : Zgo d 58 38 (L) (st) (I, R, al) Q ↔ Zgo d 58 39 (L) (zi 1 :: st) (I, R, al) Q := zg_58_38
theorem zh_58_39 {o : Nat} {v : Int} : Zgo d 58 39 (L) (zi v :: zq (some (10, o)) :: st) (I, R, al) Q ↔ Zgo d 58 42 (L) (st) (zsI I 10 o 3 v, R, al) Q := zg_58_39
theorem zh_58_42 : Zgo d 58 42 (L) (st) (I, R, al) Q ↔ Zgo d 58 61 (L) (st) (I, R, al) Q := zg_58_42
theorem zh_58_45 {x : Option (Nat × Nat)} : Zgo d 58 45 (some (zq x) :: L) (st) (I, R, al) Q ↔ Zgo d 58 46 (some (zq x) :: L) (zq x :: st) (I, R, al) Q := zg_58_45
theorem zh_58_46 {x : Option (Nat × Nat)} : Zgo d 58 46 (a0 :: a1 :: some (zq x) :: L) (st) (I, R, al) Q ↔ Zgo d 58 47 (a0 :: a1 :: some (zq x) :: L) (zq x :: st) (I, R, al) Q := zg_58_46
theorem zh_58_47 : Zgo d 58 47 (L) (st) (I, R, al) Q ↔ Zgo d 58 50 (L) (zq (some (90, 4)) :: st) (I, R, al) Q := zg_58_47
theorem zh_58_50 {c i j : Nat} : Zgo d 58 50 (L) (zq (some (c, j)) :: zq (some (c, i)) :: st) (I, R, al) Q ↔ (if i = j then Zgo d 58 53 (L) (st) (I, R, al) Q else Zgo d 58 57 (L) (st) (I, R, al) Q) := zg_58_50.trans (Iff.of_eq zs_same0)
theorem zh_58_50n : Zgo d 58 50 (L) (zq none :: zq none :: st) (I, R, al) Q ↔ Zgo d 58 53 (L) (st) (I, R, al) Q := zg_58_50
theorem zh_58_50l {q : Nat × Nat} : Zgo d 58 50 (L) (zq (some q) :: zq none :: st) (I, R, al) Q ↔ Zgo d 58 57 (L) (st) (I, R, al) Q := zg_58_50
theorem zh_58_50r {q : Nat × Nat} : Zgo d 58 50 (L) (zq none :: zq (some q) :: st) (I, R, al) Q ↔ Zgo d 58 57 (L) (st) (I, R, al) Q := zg_58_50
theorem zh_58_53 : Zgo d 58 53 (L) (st) (I, R, al) Q ↔ Zgo d 58 54 (L) (zi 2 :: st) (I, R, al) Q := zg_58_53
theorem zh_58_54 : Zgo d 58 54 (L) (st) (I, R, al) Q ↔ Zgo d 58 58 (L) (st) (I, R, al) Q := zg_58_54
theorem zh_58_57 : Zgo d 58 57 (L) (st) (I, R, al) Q ↔ Zgo d 58 58 (L) (zi 0 :: st) (I, R, al) Q := zg_58_57
theorem zh_58_58 {o : Nat} {v : Int} : Zgo d 58 58 (L) (zi v :: zq (some (10, o)) :: st) (I, R, al) Q ↔ Zgo d 58 61 (L) (st) (zsI I 10 o 3 v, R, al) Q := zg_58_58
theorem zh_58_61 {x : Option (Nat × Nat)} : Zgo d 58 61 (some (zq x) :: L) (st) (I, R, al) Q ↔ Zgo d 58 62 (some (zq x) :: L) (zq x :: st) (I, R, al) Q := zg_58_61
theorem zh_58_62 {o : Nat} : Zgo d 58 62 (L) (zq (some (10, o)) :: st) (I, R, al) Q ↔ Zgo d 58 65 (L) (zi (I 10 o 3) :: st) (I, R, al) Q := zg_58_62
theorem zh_58_65 {x : Int} : Zgo d 58 65 (L) (zi x :: []) (I, R, al) Q ↔ Q (some (zi x)) (I, R, al) := zg_58_65
theorem zh_59_0 : Zgo d 59 0 (L) (st) (I, R, al) Q ↔ Zgo d 59 3 (L) (zq (some (90, 0)) :: st) (I, R, al) Q := zg_59_0
theorem zh_59_3 {x : Option (Nat × Nat)} : Zgo d 59 3 (a0 :: a1 :: a2 :: b0 :: L) (zq x :: st) (I, R, al) Q ↔ Zgo d 59 4 (a0 :: a1 :: zkl a2 :: some (zq x) :: L) (st) (I, R, al) Q := zg_59_3
theorem zh_59_4 {x : Option (Nat × Nat)} : Zgo d 59 4 (a0 :: some (zq x) :: L) (st) (I, R, al) Q ↔ Zgo d 59 5 (a0 :: some (zq x) :: L) (zq x :: st) (I, R, al) Q := zg_59_4
theorem zh_59_5n : Zgo d 59 5 (L) (zq none :: st) (I, R, al) Q ↔ Zgo d 59 44 (L) (st) (I, R, al) Q := zg_59_5
theorem zh_59_5 {q : Nat × Nat} : Zgo d 59 5 (L) (zq (some q) :: st) (I, R, al) Q ↔ Zgo d 59 8 (L) (st) (I, R, al) Q := zg_59_5
theorem zh_59_8 {x : Option (Nat × Nat)} : Zgo d 59 8 (a0 :: some (zq x) :: L) (st) (I, R, al) Q ↔ Zgo d 59 9 (a0 :: some (zq x) :: L) (zq x :: st) (I, R, al) Q := zg_59_8
theorem zh_59_9 {o : Nat} : Zgo d 59 9 (L) (zq (some (3, o)) :: st) (I, R, al) Q ↔ Zgo d 59 12 (L) (zq (R 3 o 3) :: st) (I, R, al) Q := zg_59_9
theorem zh_59_12 {x : Option (Nat × Nat)} : Zgo d 59 12 (a0 :: a1 :: a2 :: a3 :: b0 :: L) (zq x :: st) (I, R, al) Q ↔ Zgo d 59 14 (a0 :: a1 :: a2 :: zkl a3 :: some (zq x) :: L) (st) (I, R, al) Q := zg_59_12
theorem zh_59_14 {x : Option (Nat × Nat)} : Zgo d 59 14 (a0 :: a1 :: a2 :: a3 :: some (zq x) :: L) (st) (I, R, al) Q ↔ Zgo d 59 16 (a0 :: a1 :: a2 :: a3 :: some (zq x) :: L) (zq x :: st) (I, R, al) Q := zg_59_14
theorem zh_59_16n : Zgo d 59 16 (L) (zq none :: st) (I, R, al) Q ↔ Zgo d 59 44 (L) (st) (I, R, al) Q := zg_59_16
theorem zh_59_16 {q : Nat × Nat} : Zgo d 59 16 (L) (zq (some q) :: st) (I, R, al) Q ↔ Zgo d 59 19 (L) (st) (I, R, al) Q := zg_59_16
theorem zh_59_19 {x : Option (Nat × Nat)} : Zgo d 59 19 (a0 :: a1 :: a2 :: some (zq x) :: L) (st) (I, R, al) Q ↔ Zgo d 59 20 (a0 :: a1 :: a2 :: some (zq x) :: L) (zq x :: st) (I, R, al) Q := zg_59_19
theorem zh_59_20 : Zgo d 59 20 (L) (st) (I, R, al) Q ↔ Zgo d 59 23 (L) (zq (some (90, 0)) :: st) (I, R, al) Q := zg_59_20
theorem zh_59_23 {c i j : Nat} : Zgo d 59 23 (L) (zq (some (c, j)) :: zq (some (c, i)) :: st) (I, R, al) Q ↔ (if i = j then Zgo d 59 26 (L) (st) (I, R, al) Q else Zgo d 59 44 (L) (st) (I, R, al) Q) := zg_59_23.trans (Iff.of_eq zs_same0)
theorem zh_59_23n : Zgo d 59 23 (L) (zq none :: zq none :: st) (I, R, al) Q ↔ Zgo d 59 26 (L) (st) (I, R, al) Q := zg_59_23
theorem zh_59_23l {q : Nat × Nat} : Zgo d 59 23 (L) (zq (some q) :: zq none :: st) (I, R, al) Q ↔ Zgo d 59 44 (L) (st) (I, R, al) Q := zg_59_23
theorem zh_59_23r {q : Nat × Nat} : Zgo d 59 23 (L) (zq none :: zq (some q) :: st) (I, R, al) Q ↔ Zgo d 59 44 (L) (st) (I, R, al) Q := zg_59_23
theorem zh_59_26 {x : Option (Nat × Nat)} : Zgo d 59 26 (some (zq x) :: L) (st) (I, R, al) Q ↔ Zgo d 59 27 (some (zq x) :: L) (zq x :: st) (I, R, al) Q := zg_59_26
theorem zh_59_27 {x : Option (Nat × Nat)} : Zgo d 59 27 (a0 :: a1 :: a2 :: a3 :: some (zq x) :: L) (st) (I, R, al) Q ↔ Zgo d 59 29 (a0 :: a1 :: a2 :: a3 :: some (zq x) :: L) (zq x :: st) (I, R, al) Q := zg_59_27
theorem zh_59_29 {x : Int} : Zgo d 59 29 (a0 :: a1 :: some (zi x) :: L) (st) (I, R, al) Q ↔ Zgo d 59 30 (a0 :: a1 :: some (zi x) :: L) (zi x :: st) (I, R, al) Q := zg_59_29
theorem zh_59_30 {v1 v2 : zV} {o : Nat} : Zgo d 59 30 (L) (v2 :: v1 :: zq (some (10, o)) :: st) (I, R, al) Q ↔ if zwt st ≤ 8 then zCp d 60 [zq (some (10, o)), v1, v2] (I, R, al) (fun r S2 => Zgo d 59 33 L (r.toList ++ st) S2 Q) else False := zg_59_30
theorem zh_59_33 {x : Option (Nat × Nat)} : Zgo d 59 33 (a0 :: a1 :: a2 :: b0 :: L) (zq x :: st) (I, R, al) Q ↔ Zgo d 59 34 (a0 :: a1 :: zkl a2 :: some (zq x) :: L) (st) (I, R, al) Q := zg_59_33
theorem zh_59_34 {x : Option (Nat × Nat)} : Zgo d 59 34 (a0 :: a1 :: a2 :: a3 :: some (zq x) :: L) (st) (I, R, al) Q ↔ Zgo d 59 36 (a0 :: a1 :: a2 :: a3 :: some (zq x) :: L) (zq x :: st) (I, R, al) Q := zg_59_34
theorem zh_59_36 {o : Nat} : Zgo d 59 36 (L) (zq (some (4, o)) :: st) (I, R, al) Q ↔ Zgo d 59 39 (L) (zq (R 4 o 6) :: st) (I, R, al) Q := zg_59_36
theorem zh_59_39 {x : Option (Nat × Nat)} : Zgo d 59 39 (a0 :: a1 :: a2 :: a3 :: b0 :: L) (zq x :: st) (I, R, al) Q ↔ Zgo d 59 41 (a0 :: a1 :: a2 :: zkl a3 :: some (zq x) :: L) (st) (I, R, al) Q := zg_59_39
theorem zh_59_41 : Zgo d 59 41 (L) (st) (I, R, al) Q ↔ Zgo d 59 14 (L) (st) (I, R, al) Q := zg_59_41
theorem zh_59_44 {x : Option (Nat × Nat)} : Zgo d 59 44 (a0 :: a1 :: a2 :: some (zq x) :: L) (st) (I, R, al) Q ↔ Zgo d 59 45 (a0 :: a1 :: a2 :: some (zq x) :: L) (zq x :: st) (I, R, al) Q := zg_59_44
theorem zh_59_45 {x : Option (Nat × Nat)} : Zgo d 59 45 (L) (zq x :: []) (I, R, al) Q ↔ Q (some (zq x)) (I, R, al) := zg_59_45
theorem zh_60_0 {x : Option (Nat × Nat)} : Zgo d 60 0 (some (zq x) :: L) (st) (I, R, al) Q ↔ Zgo d 60 1 (some (zq x) :: L) (zq x :: st) (I, R, al) Q := zg_60_0
theorem zh_60_1 {o : Nat} : Zgo d 60 1 (L) (zq (some (10, o)) :: st) (I, R, al) Q ↔ Zgo d 60 4 (L) (zi (I 10 o 5) :: st) (I, R, al) Q := zg_60_1
theorem zh_60_4 {x : Int} : Zgo d 60 4 (L) (zi x :: st) (I, R, al) Q ↔ if zw x = zw 0 then Zgo d 60 7 (L) (st) (I, R, al) Q else Zgo d 60 11 (L) (st) (I, R, al) Q := zg_60_4
theorem zh_60_7 : Zgo d 60 7 (L) (st) (I, R, al) Q ↔ Zgo d 60 10 (L) (zq (some (90, 5)) :: st) (I, R, al) Q := zg_60_7
theorem zh_60_10 {x : Option (Nat × Nat)} : Zgo d 60 10 (L) (zq x :: []) (I, R, al) Q ↔ Q (some (zq x)) (I, R, al) := zg_60_10
theorem zh_60_11 {x : Option (Nat × Nat)} : Zgo d 60 11 (some (zq x) :: L) (st) (I, R, al) Q ↔ Zgo d 60 12 (some (zq x) :: L) (zq x :: st) (I, R, al) Q := zg_60_11
theorem zh_60_12 {x : Int} : Zgo d 60 12 (L) (zi x :: st) (I, R, al) Q ↔ Zgo d 60 13 (L) (zi x :: zi x :: st) (I, R, al) Q := zg_60_12
theorem zh_60_12q {u : Option (Nat × Nat)} : Zgo d 60 12 (L) (zq u :: st) (I, R, al) Q ↔ Zgo d 60 13 (L) (zq u :: zq u :: st) (I, R, al) Q := zg_60_12
theorem zh_60_13 {o : Nat} : Zgo d 60 13 (L) (zq (some (10, o)) :: st) (I, R, al) Q ↔ Zgo d 60 16 (L) (zi (I 10 o 5) :: st) (I, R, al) Q := zg_60_13
theorem zh_60_16 : Zgo d 60 16 (L) (st) (I, R, al) Q ↔ Zgo d 60 17 (L) (zi 1 :: st) (I, R, al) Q := zg_60_16
theorem zh_60_17 {x y : Int} : Zgo d 60 17 (L) (zi y :: zi x :: st) (I, R, al) Q ↔ Zgo d 60 18 (L) (zi (x - y) :: st) (I, R, al) Q := zg_60_17
theorem zh_60_18 {o : Nat} {v : Int} : Zgo d 60 18 (L) (zi v :: zq (some (10, o)) :: st) (I, R, al) Q ↔ Zgo d 60 21 (L) (st) (zsI I 10 o 5 v, R, al) Q := zg_60_18
theorem zh_60_21 {x : Option (Nat × Nat)} : Zgo d 60 21 (a0 :: some (zq x) :: L) (st) (I, R, al) Q ↔ Zgo d 60 22 (a0 :: some (zq x) :: L) (zq x :: st) (I, R, al) Q := zg_60_21
theorem zh_60_22 {o : Nat} : Zgo d 60 22 (L) (zq (some (4, o)) :: st) (I, R, al) Q ↔ Zgo d 60 25 (L) (zi (I 4 o 0) :: st) (I, R, al) Q := zg_60_22
theorem zh_60_116 {x : Option (Nat × Nat)} : Zgo d 60 116 (some (zq x) :: L) (st) (I, R, al) Q ↔ Zgo d 60 117 (some (zq x) :: L) (zq x :: st) (I, R, al) Q := zg_60_116
theorem zh_60_117 {x : Option (Nat × Nat)} : Zgo d 60 117 (a0 :: some (zq x) :: L) (st) (I, R, al) Q ↔ Zgo d 60 118 (a0 :: some (zq x) :: L) (zq x :: st) (I, R, al) Q := zg_60_117
theorem zh_60_118 {v1 : zV} {o : Nat} : Zgo d 60 118 (L) (v1 :: zq (some (10, o)) :: st) (I, R, al) Q ↔ if zwt st ≤ 8 then zCp d 61 [zq (some (10, o)), v1] (I, R, al) (fun r S2 => Zgo d 60 121 L (r.toList ++ st) S2 Q) else False := zg_60_118
theorem zh_60_121 {x : Option (Nat × Nat)} : Zgo d 60 121 (L) (zq x :: []) (I, R, al) Q ↔ Q (some (zq x)) (I, R, al) := zg_60_121
theorem zh_60_122 {x : Option (Nat × Nat)} : Zgo d 60 122 (some (zq x) :: L) (st) (I, R, al) Q ↔ Zgo d 60 123 (some (zq x) :: L) (zq x :: st) (I, R, al) Q := zg_60_122
theorem zh_60_123 {x : Option (Nat × Nat)} : Zgo d 60 123 (a0 :: some (zq x) :: L) (st) (I, R, al) Q ↔ Zgo d 60 124 (a0 :: some (zq x) :: L) (zq x :: st) (I, R, al) Q := zg_60_123
theorem zh_60_124 {v1 : zV} {o : Nat} : Zgo d 60 124 (L) (v1 :: zq (some (10, o)) :: st) (I, R, al) Q ↔ if zwt st ≤ 8 then zCp d 65 [zq (some (10, o)), v1] (I, R, al) (fun r S2 => Zgo d 60 127 L (r.toList ++ st) S2 Q) else False := zg_60_124
theorem zh_60_127 {x : Option (Nat × Nat)} : Zgo d 60 127 (L) (zq x :: []) (I, R, al) Q ↔ Q (some (zq x)) (I, R, al) := zg_60_127
theorem zh_60_128 {x : Option (Nat × Nat)} : Zgo d 60 128 (some (zq x) :: L) (st) (I, R, al) Q ↔ Zgo d 60 129 (some (zq x) :: L) (zq x :: st) (I, R, al) Q := zg_60_128
theorem zh_60_129 {x : Option (Nat × Nat)} : Zgo d 60 129 (a0 :: some (zq x) :: L) (st) (I, R, al) Q ↔ Zgo d 60 130 (a0 :: some (zq x) :: L) (zq x :: st) (I, R, al) Q := zg_60_129
theorem zh_60_130 {x : Int} : Zgo d 60 130 (a0 :: a1 :: some (zi x) :: L) (st) (I, R, al) Q ↔ Zgo d 60 131 (a0 :: a1 :: some (zi x) :: L) (zi x :: st) (I, R, al) Q := zg_60_130
theorem zh_60_131 {v1 v2 : zV} {o : Nat} : Zgo d 60 131 (L) (v2 :: v1 :: zq (some (10, o)) :: st) (I, R, al) Q ↔ if zwt st ≤ 8 then zCp d 66 [zq (some (10, o)), v1, v2] (I, R, al) (fun r S2 => Zgo d 60 134 L (r.toList ++ st) S2 Q) else False := zg_60_131
theorem zh_60_134 {x : Option (Nat × Nat)} : Zgo d 60 134 (L) (zq x :: []) (I, R, al) Q ↔ Q (some (zq x)) (I, R, al) := zg_60_134
theorem zh_60_135 {x : Option (Nat × Nat)} : Zgo d 60 135 (some (zq x) :: L) (st) (I, R, al) Q ↔ Zgo d 60 136 (some (zq x) :: L) (zq x :: st) (I, R, al) Q := zg_60_135
theorem zh_60_136 {x : Option (Nat × Nat)} : Zgo d 60 136 (a0 :: some (zq x) :: L) (st) (I, R, al) Q ↔ Zgo d 60 137 (a0 :: some (zq x) :: L) (zq x :: st) (I, R, al) Q := zg_60_136
theorem zh_60_137 {x : Int} : Zgo d 60 137 (a0 :: a1 :: some (zi x) :: L) (st) (I, R, al) Q ↔ Zgo d 60 138 (a0 :: a1 :: some (zi x) :: L) (zi x :: st) (I, R, al) Q := zg_60_137
theorem zh_60_138 {v1 v2 : zV} {o : Nat} : Zgo d 60 138 (L) (v2 :: v1 :: zq (some (10, o)) :: st) (I, R, al) Q ↔ if zwt st ≤ 8 then zCp d 67 [zq (some (10, o)), v1, v2] (I, R, al) (fun r S2 => Zgo d 60 141 L (r.toList ++ st) S2 Q) else False := zg_60_138
theorem zh_60_141 {x : Option (Nat × Nat)} : Zgo d 60 141 (L) (zq x :: []) (I, R, al) Q ↔ Q (some (zq x)) (I, R, al) := zg_60_141
theorem zh_60_142 : Zgo d 60 142 (L) (st) (I, R, al) Q ↔ Zgo d 60 145 (L) (zq (some (90, 1)) :: st) (I, R, al) Q := zg_60_142
theorem zh_60_145 {x : Option (Nat × Nat)} : Zgo d 60 145 (L) (zq x :: []) (I, R, al) Q ↔ Q (some (zq x)) (I, R, al) := zg_60_145
theorem zh_60_146 : Zgo d 60 146 (L) (st) (I, R, al) Q ↔ Zgo d 60 149 (L) (zq (some (90, 2)) :: st) (I, R, al) Q := zg_60_146
theorem zh_60_149 {x : Option (Nat × Nat)} : Zgo d 60 149 (L) (zq x :: []) (I, R, al) Q ↔ Q (some (zq x)) (I, R, al) := zg_60_149
theorem zh_60_150 : Zgo d 60 150 (L) (st) (I, R, al) Q ↔ Zgo d 60 153 (L) (zq (some (90, 3)) :: st) (I, R, al) Q := zg_60_150
theorem zh_60_153 {x : Option (Nat × Nat)} : Zgo d 60 153 (L) (zq x :: []) (I, R, al) Q ↔ Q (some (zq x)) (I, R, al) := zg_60_153
theorem zh_60_154 {x : Option (Nat × Nat)} : Zgo d 60 154 (some (zq x) :: L) (st) (I, R, al) Q ↔ Zgo d 60 155 (some (zq x) :: L) (zq x :: st) (I, R, al) Q := zg_60_154
theorem zh_60_155 {x : Option (Nat × Nat)} : Zgo d 60 155 (a0 :: some (zq x) :: L) (st) (I, R, al) Q ↔ Zgo d 60 156 (a0 :: some (zq x) :: L) (zq x :: st) (I, R, al) Q := zg_60_155
theorem zh_60_156 {v1 : zV} {o : Nat} : Zgo d 60 156 (L) (v1 :: zq (some (10, o)) :: st) (I, R, al) Q ↔ if zwt st ≤ 8 then zCp d 68 [zq (some (10, o)), v1] (I, R, al) (fun r S2 => Zgo d 60 159 L (r.toList ++ st) S2 Q) else False := zg_60_156
theorem zh_60_159 {x : Option (Nat × Nat)} : Zgo d 60 159 (L) (zq x :: []) (I, R, al) Q ↔ Q (some (zq x)) (I, R, al) := zg_60_159
theorem zh_60_160 {x : Option (Nat × Nat)} : Zgo d 60 160 (some (zq x) :: L) (st) (I, R, al) Q ↔ Zgo d 60 161 (some (zq x) :: L) (zq x :: st) (I, R, al) Q := zg_60_160
theorem zh_60_161 {x : Option (Nat × Nat)} : Zgo d 60 161 (a0 :: some (zq x) :: L) (st) (I, R, al) Q ↔ Zgo d 60 162 (a0 :: some (zq x) :: L) (zq x :: st) (I, R, al) Q := zg_60_161
theorem zh_60_162 {o : Nat} : Zgo d 60 162 (L) (zq (some (4, o)) :: st) (I, R, al) Q ↔ Zgo d 60 165 (L) (zq (R 4 o 4) :: st) (I, R, al) Q := zg_60_162
theorem zh_60_165 {o : Nat} : Zgo d 60 165 (L) (zq (some (3, o)) :: st) (I, R, al) Q ↔ Zgo d 60 168 (L) (zi (I 3 o 2) :: st) (I, R, al) Q := zg_60_165
theorem zh_60_168 {x : Int} : Zgo d 60 168 (a0 :: a1 :: some (zi x) :: L) (st) (I, R, al) Q ↔ Zgo d 60 169 (a0 :: a1 :: some (zi x) :: L) (zi x :: st) (I, R, al) Q := zg_60_168
theorem zh_60_169 {v1 v2 : zV} {o : Nat} : Zgo d 60 169 (L) (v2 :: v1 :: zq (some (10, o)) :: st) (I, R, al) Q ↔ if zwt st ≤ 8 then zCp d 64 [zq (some (10, o)), v1, v2] (I, R, al) (fun r S2 => Zgo d 60 172 L (r.toList ++ st) S2 Q) else False := zg_60_169
theorem zh_60_172 {x : Option (Nat × Nat)} : Zgo d 60 172 (L) (zq x :: []) (I, R, al) Q ↔ Q (some (zq x)) (I, R, al) := zg_60_172
theorem zh_60_173 {x : Option (Nat × Nat)} : Zgo d 60 173 (some (zq x) :: L) (st) (I, R, al) Q ↔ Zgo d 60 174 (some (zq x) :: L) (zq x :: st) (I, R, al) Q := zg_60_173
theorem zh_60_174 {x : Option (Nat × Nat)} : Zgo d 60 174 (a0 :: some (zq x) :: L) (st) (I, R, al) Q ↔ Zgo d 60 175 (a0 :: some (zq x) :: L) (zq x :: st) (I, R, al) Q := zg_60_174
theorem zh_60_175 {v1 : zV} {o : Nat} : Zgo d 60 175 (L) (v1 :: zq (some (10, o)) :: st) (I, R, al) Q ↔ if zwt st ≤ 8 then zCp d 69 [zq (some (10, o)), v1] (I, R, al) (fun r S2 => Zgo d 60 178 L (r.toList ++ st) S2 Q) else False := zg_60_175
theorem zh_60_178 {x : Option (Nat × Nat)} : Zgo d 60 178 (L) (zq x :: []) (I, R, al) Q ↔ Q (some (zq x)) (I, R, al) := zg_60_178
theorem zh_60_179 {x : Option (Nat × Nat)} : Zgo d 60 179 (some (zq x) :: L) (st) (I, R, al) Q ↔ Zgo d 60 180 (some (zq x) :: L) (zq x :: st) (I, R, al) Q := zg_60_179
theorem zh_60_180 {x : Option (Nat × Nat)} : Zgo d 60 180 (a0 :: some (zq x) :: L) (st) (I, R, al) Q ↔ Zgo d 60 181 (a0 :: some (zq x) :: L) (zq x :: st) (I, R, al) Q := zg_60_180
theorem zh_60_181 {x : Int} : Zgo d 60 181 (a0 :: a1 :: some (zi x) :: L) (st) (I, R, al) Q ↔ Zgo d 60 182 (a0 :: a1 :: some (zi x) :: L) (zi x :: st) (I, R, al) Q := zg_60_181
theorem zh_60_182 {v1 v2 : zV} {o : Nat} : Zgo d 60 182 (L) (v2 :: v1 :: zq (some (10, o)) :: st) (I, R, al) Q ↔ if zwt st ≤ 8 then zCp d 70 [zq (some (10, o)), v1, v2] (I, R, al) (fun r S2 => Zgo d 60 185 L (r.toList ++ st) S2 Q) else False := zg_60_182
theorem zh_60_185 {x : Option (Nat × Nat)} : Zgo d 60 185 (L) (zq x :: []) (I, R, al) Q ↔ Q (some (zq x)) (I, R, al) := zg_60_185
theorem zh_60_25 {x : Int} : Zgo d 60 25 L (zi x :: st) (I, R, al) Q ↔ (if zw x = 33 then Zgo d 60 122 L st (I, R, al) Q else if zw x = 61 then Zgo d 60 116 L st (I, R, al) Q else if zw x = 63 then Zgo d 60 128 L st (I, R, al) Q else if zw x = 64 then Zgo d 60 135 L st (I, R, al) Q else if zw x = 66 then Zgo d 60 142 L st (I, R, al) Q else if zw x = 67 then Zgo d 60 146 L st (I, R, al) Q else if zw x = 80 then Zgo d 60 173 L st (I, R, al) Q else if zw x = 82 then Zgo d 60 150 L st (I, R, al) Q else if zw x = 84 then Zgo d 60 154 L st (I, R, al) Q else if zw x = 88 then Zgo d 60 160 L st (I, R, al) Q else Zgo d 60 179 L st (I, R, al) Q) := zg_60_25
theorem zh_61_0 {x : Option (Nat × Nat)} : Zgo d 61 0 (some (zq x) :: L) (st) (I, R, al) Q ↔ Zgo d 61 1 (some (zq x) :: L) (zq x :: st) (I, R, al) Q := zg_61_0
theorem zh_61_1 {o : Nat} : Zgo d 61 1 (L) (zq (some (10, o)) :: st) (I, R, al) Q ↔ Zgo d 61 4 (L) (zq (R 10 o 9) :: st) (I, R, al) Q := zg_61_1
theorem zh_61_4 {o : Nat} : Zgo d 61 4 (L) (zq (some (7, o)) :: st) (I, R, al) Q ↔ Zgo d 61 7 (L) (zq (R 7 o 3) :: st) (I, R, al) Q := zg_61_4
theorem zh_61_7 {x : Option (Nat × Nat)} : Zgo d 61 7 (a0 :: some (zq x) :: L) (st) (I, R, al) Q ↔ Zgo d 61 8 (a0 :: some (zq x) :: L) (zq x :: st) (I, R, al) Q := zg_61_7
theorem zh_61_8 {x : Option (Nat × Nat)} : Zgo d 61 8 (some (zq x) :: L) (st) (I, R, al) Q ↔ Zgo d 61 9 (some (zq x) :: L) (zq x :: st) (I, R, al) Q := zg_61_8
theorem zh_61_9 {o : Nat} : Zgo d 61 9 (L) (zq (some (10, o)) :: st) (I, R, al) Q ↔ Zgo d 61 12 (L) (zq (R 10 o 0) :: st) (I, R, al) Q := zg_61_9
theorem zh_61_12 {v1 v2 : zV} {o : Nat} : Zgo d 61 12 (L) (v2 :: v1 :: zq (some (6, o)) :: st) (I, R, al) Q ↔ if zwt st ≤ 8 then zCp d 62 [zq (some (6, o)), v1, v2] (I, R, al) (fun r S2 => Zgo d 61 15 L (r.toList ++ st) S2 Q) else False := zg_61_12
theorem zh_61_15 {x : Int} : Zgo d 61 15 (L) (zi x :: st) (I, R, al) Q ↔ if zw x = zw 0 then Zgo d 61 18 (L) (st) (I, R, al) Q else Zgo d 61 25 (L) (st) (I, R, al) Q := zg_61_15
theorem zh_61_18 {x : Option (Nat × Nat)} : Zgo d 61 18 (some (zq x) :: L) (st) (I, R, al) Q ↔ Zgo d 61 19 (some (zq x) :: L) (zq x :: st) (I, R, al) Q := zg_61_18
theorem zh_61_19 : Zgo d 61 19 (L) (st) (I, R, al) Q ↔ Zgo d 61 20 (L) (zi 5 :: st) (I, R, al) Q := zg_61_19
theorem zh_61_20 : Zgo d 61 20 (L) (st) (I, R, al) Q ↔ Zgo d 61 21 (L) (zi 0 :: st) (I, R, al) Q := zg_61_20
theorem zh_61_21 {v1 v2 : zV} {o : Nat} : Zgo d 61 21 (L) (v2 :: v1 :: zq (some (10, o)) :: st) (I, R, al) Q ↔ if zwt st ≤ 8 then zCp d 64 [zq (some (10, o)), v1, v2] (I, R, al) (fun r S2 => Zgo d 61 24 L (r.toList ++ st) S2 Q) else False := zg_61_21
theorem zh_61_24 {x : Option (Nat × Nat)} : Zgo d 61 24 (L) (zq x :: []) (I, R, al) Q ↔ Q (some (zq x)) (I, R, al) := zg_61_24
theorem zh_61_25 {x : Option (Nat × Nat)} : Zgo d 61 25 (some (zq x) :: L) (st) (I, R, al) Q ↔ Zgo d 61 26 (some (zq x) :: L) (zq x :: st) (I, R, al) Q := zg_61_25
theorem zh_61_26 {o : Nat} : Zgo d 61 26 (L) (zq (some (10, o)) :: st) (I, R, al) Q ↔ Zgo d 61 29 (L) (zq (R 10 o 0) :: st) (I, R, al) Q := zg_61_26
theorem zh_61_29 {x : Option (Nat × Nat)} : Zgo d 61 29 (a0 :: some (zq x) :: L) (st) (I, R, al) Q ↔ Zgo d 61 30 (a0 :: some (zq x) :: L) (zq x :: st) (I, R, al) Q := zg_61_29
theorem zh_61_30 {o : Nat} : Zgo d 61 30 (L) (zq (some (4, o)) :: st) (I, R, al) Q ↔ Zgo d 61 33 (L) (zi (I 4 o 1) :: st) (I, R, al) Q := zg_61_30
theorem zh_61_33 {x : Option (Nat × Nat)} : Zgo d 61 33 (some (zq x) :: L) (st) (I, R, al) Q ↔ Zgo d 61 34 (some (zq x) :: L) (zq x :: st) (I, R, al) Q := zg_61_33
theorem zh_61_34 {o : Nat} : Zgo d 61 34 (L) (zq (some (10, o)) :: st) (I, R, al) Q ↔ Zgo d 61 37 (L) (zq (R 10 o 9) :: st) (I, R, al) Q := zg_61_34
theorem zh_61_37 {o : Nat} : Zgo d 61 37 (L) (zq (some (7, o)) :: st) (I, R, al) Q ↔ Zgo d 61 40 (L) (zq (R 7 o 3) :: st) (I, R, al) Q := zg_61_37
theorem zh_61_40 {o : Nat} : Zgo d 61 40 (L) (zq (some (6, o)) :: st) (I, R, al) Q ↔ Zgo d 61 43 (L) (zi (I 6 o 3) :: st) (I, R, al) Q := zg_61_40
theorem zh_61_43 {v j : Int} {c o : Nat} : Zgo d 61 43 (L) (zi v :: zi j :: zq (some (c, o)) :: st) (I, R, al) Q ↔ zal (zArr c) 0 j (fun x => Zgo d 61 44 (L) (st) (zsI I c o x v, R, al) Q) := zg_61_43
theorem zh_61_44 : Zgo d 61 44 (L) (st) (I, R, al) Q ↔ Zgo d 61 47 (L) (zq (some (90, 0)) :: st) (I, R, al) Q := zg_61_44
theorem zh_61_47 {x : Option (Nat × Nat)} : Zgo d 61 47 (L) (zq x :: []) (I, R, al) Q ↔ Q (some (zq x)) (I, R, al) := zg_61_47
theorem zh_62_0 : Zgo d 62 0 (L) (st) (I, R, al) Q ↔ Zgo d 62 1 (L) (zi 0 :: st) (I, R, al) Q := zg_62_0
theorem zh_62_1 {x : Int} : Zgo d 62 1 (a0 :: a1 :: a2 :: b0 :: L) (zi x :: st) (I, R, al) Q ↔ Zgo d 62 2 (a0 :: a1 :: zkl a2 :: some (zi x) :: L) (st) (I, R, al) Q := zg_62_1
theorem zh_62_2 {x : Option (Nat × Nat)} : Zgo d 62 2 (a0 :: some (zq x) :: L) (st) (I, R, al) Q ↔ Zgo d 62 3 (a0 :: some (zq x) :: L) (zq x :: st) (I, R, al) Q := zg_62_2
theorem zh_62_3 {o : Nat} : Zgo d 62 3 (L) (zq (some (4, o)) :: st) (I, R, al) Q ↔ Zgo d 62 6 (L) (zi (I 4 o 2) :: st) (I, R, al) Q := zg_62_3
theorem zh_62_6 {x : Int} : Zgo d 62 6 (a0 :: a1 :: a2 :: a3 :: b0 :: L) (zi x :: st) (I, R, al) Q ↔ Zgo d 62 8 (a0 :: a1 :: a2 :: zkl a3 :: some (zi x) :: L) (st) (I, R, al) Q := zg_62_6
theorem zh_62_8 {x : Int} : Zgo d 62 8 (a0 :: a1 :: a2 :: a3 :: some (zi x) :: L) (st) (I, R, al) Q ↔ Zgo d 62 10 (a0 :: a1 :: a2 :: a3 :: some (zi x) :: L) (zi x :: st) (I, R, al) Q := zg_62_8
theorem zh_62_10 {x : Option (Nat × Nat)} : Zgo d 62 10 (a0 :: some (zq x) :: L) (st) (I, R, al) Q ↔ Zgo d 62 11 (a0 :: some (zq x) :: L) (zq x :: st) (I, R, al) Q := zg_62_10
theorem zh_62_11 {o : Nat} : Zgo d 62 11 (L) (zq (some (4, o)) :: st) (I, R, al) Q ↔ Zgo d 62 14 (L) (zi (I 4 o 3) :: st) (I, R, al) Q := zg_62_11
theorem zh_62_14 {x y : Int} : Zgo d 62 14 (L) (zi y :: zi x :: st) (I, R, al) Q ↔ if zw x < zw y then Zgo d 62 17 (L) (st) (I, R, al) Q else Zgo d 62 142 (L) (st) (I, R, al) Q := zg_62_14
theorem zh_62_17 {x : Option (Nat × Nat)} : Zgo d 62 17 (some (zq x) :: L) (st) (I, R, al) Q ↔ Zgo d 62 18 (some (zq x) :: L) (zq x :: st) (I, R, al) Q := zg_62_17
theorem zh_62_18 {o : Nat} : Zgo d 62 18 (L) (zq (some (6, o)) :: st) (I, R, al) Q ↔ Zgo d 62 21 (L) (zq (R 6 o 0) :: st) (I, R, al) Q := zg_62_18
theorem zh_62_21 {x : Int} : Zgo d 62 21 (a0 :: a1 :: a2 :: a3 :: some (zi x) :: L) (st) (I, R, al) Q ↔ Zgo d 62 23 (a0 :: a1 :: a2 :: a3 :: some (zi x) :: L) (zi x :: st) (I, R, al) Q := zg_62_21
theorem zh_62_23 {j : Int} {c o : Nat} : Zgo d 62 23 (L) (zi j :: zq (some (c, o)) :: st) (I, R, al) Q ↔ zal (zlen (I, R, al) c) 2 j (fun x => Zgo d 62 24 (L) (zi (I c o x) :: st) (I, R, al) Q) := zg_62_23
theorem zh_62_24 {x : Int} : Zgo d 62 24 (a0 :: a1 :: a2 :: a3 :: a4 :: b0 :: L) (zi x :: st) (I, R, al) Q ↔ Zgo d 62 26 (a0 :: a1 :: a2 :: a3 :: zkl a4 :: some (zi x) :: L) (st) (I, R, al) Q := zg_62_24
theorem zh_62_26 {x : Int} : Zgo d 62 26 (a0 :: a1 :: a2 :: a3 :: a4 :: some (zi x) :: L) (st) (I, R, al) Q ↔ Zgo d 62 28 (a0 :: a1 :: a2 :: a3 :: a4 :: some (zi x) :: L) (zi x :: st) (I, R, al) Q := zg_62_26
theorem zh_62_28 : Zgo d 62 28 (L) (st) (I, R, al) Q ↔ Zgo d 62 30 (L) (zi 110 :: st) (I, R, al) Q := zg_62_28
theorem zh_62_30 {x y : Int} : Zgo d 62 30 (L) (zi y :: zi x :: st) (I, R, al) Q ↔ if zw x = zw y then Zgo d 62 40 (L) (st) (I, R, al) Q else Zgo d 62 33 (L) (st) (I, R, al) Q := zg_62_30
theorem zh_62_33 {x : Int} : Zgo d 62 33 (a0 :: a1 :: a2 :: a3 :: a4 :: some (zi x) :: L) (st) (I, R, al) Q ↔ Zgo d 62 35 (a0 :: a1 :: a2 :: a3 :: a4 :: some (zi x) :: L) (zi x :: st) (I, R, al) Q := zg_62_33
theorem zh_62_35 : Zgo d 62 35 (L) (st) (I, R, al) Q ↔ Zgo d 62 37 (L) (zi 118 :: st) (I, R, al) Q := zg_62_35
theorem zh_62_37 {x y : Int} : Zgo d 62 37 (L) (zi y :: zi x :: st) (I, R, al) Q ↔ if zw x = zw y then Zgo d 62 40 (L) (st) (I, R, al) Q else Zgo d 62 83 (L) (st) (I, R, al) Q := zg_62_37
theorem zh_62_40 {x : Int} : Zgo d 62 40 (a0 :: a1 :: a2 :: some (zi x) :: L) (st) (I, R, al) Q ↔ Zgo d 62 41 (a0 :: a1 :: a2 :: some (zi x) :: L) (zi x :: st) (I, R, al) Q := zg_62_40
theorem zh_62_41 : Zgo d 62 41 (L) (st) (I, R, al) Q ↔ Zgo d 62 42 (L) (zi 5 :: st) (I, R, al) Q := zg_62_41
theorem zh_62_42 {x y : Int} : Zgo d 62 42 (L) (zi y :: zi x :: st) (I, R, al) Q ↔ if zw x < zw y then Zgo d 62 45 (L) (st) (I, R, al) Q else Zgo d 62 136 (L) (st) (I, R, al) Q := zg_62_42
theorem zh_62_45 {x : Option (Nat × Nat)} : Zgo d 62 45 (some (zq x) :: L) (st) (I, R, al) Q ↔ Zgo d 62 46 (some (zq x) :: L) (zq x :: st) (I, R, al) Q := zg_62_45
theorem zh_62_46 {o : Nat} : Zgo d 62 46 (L) (zq (some (6, o)) :: st) (I, R, al) Q ↔ Zgo d 62 49 (L) (zq (R 6 o 4) :: st) (I, R, al) Q := zg_62_46
theorem zh_62_49 {x : Int} : Zgo d 62 49 (a0 :: a1 :: a2 :: some (zi x) :: L) (st) (I, R, al) Q ↔ Zgo d 62 50 (a0 :: a1 :: a2 :: some (zi x) :: L) (zi x :: st) (I, R, al) Q := zg_62_49
theorem zh_62_50 {x : Int} : Zgo d 62 50 (a0 :: a1 :: a2 :: a3 :: a4 :: some (zi x) :: L) (st) (I, R, al) Q ↔ Zgo d 62 52 (a0 :: a1 :: a2 :: a3 :: a4 :: some (zi x) :: L) (zi x :: st) (I, R, al) Q := zg_62_50
theorem zh_62_52 : Zgo d 62 52 (L) (st) (I, R, al) Q ↔ Zgo d 62 54 (L) (zi 118 :: st) (I, R, al) Q := zg_62_52
theorem zh_62_54 {x y : Int} : Zgo d 62 54 (L) (zi y :: zi x :: st) (I, R, al) Q ↔ if zw x = zw y then Zgo d 62 57 (L) (st) (I, R, al) Q else Zgo d 62 69 (L) (st) (I, R, al) Q := zg_62_54
theorem zh_62_57 {x : Option (Nat × Nat)} : Zgo d 62 57 (a0 :: a1 :: some (zq x) :: L) (st) (I, R, al) Q ↔ Zgo d 62 58 (a0 :: a1 :: some (zq x) :: L) (zq x :: st) (I, R, al) Q := zg_62_57
theorem zh_62_58 {x : Option (Nat × Nat)} : Zgo d 62 58 (some (zq x) :: L) (st) (I, R, al) Q ↔ Zgo d 62 59 (some (zq x) :: L) (zq x :: st) (I, R, al) Q := zg_62_58
theorem zh_62_59 {o : Nat} : Zgo d 62 59 (L) (zq (some (6, o)) :: st) (I, R, al) Q ↔ Zgo d 62 62 (L) (zq (R 6 o 1) :: st) (I, R, al) Q := zg_62_59
theorem zh_62_62 {x : Int} : Zgo d 62 62 (a0 :: a1 :: a2 :: a3 :: some (zi x) :: L) (st) (I, R, al) Q ↔ Zgo d 62 64 (a0 :: a1 :: a2 :: a3 :: some (zi x) :: L) (zi x :: st) (I, R, al) Q := zg_62_62
theorem zh_62_64 {j : Int} {c o : Nat} : Zgo d 62 64 (L) (zi j :: zq (some (c, o)) :: st) (I, R, al) Q ↔ zal (zlen (I, R, al) c) 0 j (fun x => Zgo d 62 65 (L) (zi (I c o x) :: st) (I, R, al) Q) := zg_62_64
theorem zh_62_65 {j : Int} {c o : Nat} : Zgo d 62 65 (L) (zi j :: zq (some (c, o)) :: st) (I, R, al) Q ↔ zal (zlen (I, R, al) c) 0 j (fun x => Zgo d 62 66 (L) (zi (I c o x) :: st) (I, R, al) Q) := zg_62_65
theorem zh_62_66 : Zgo d 62 66 (L) (st) (I, R, al) Q ↔ Zgo d 62 76 (L) (st) (I, R, al) Q := zg_62_66
theorem zh_62_69 {x : Option (Nat × Nat)} : Zgo d 62 69 (some (zq x) :: L) (st) (I, R, al) Q ↔ Zgo d 62 70 (some (zq x) :: L) (zq x :: st) (I, R, al) Q := zg_62_69
theorem zh_62_70 {o : Nat} : Zgo d 62 70 (L) (zq (some (6, o)) :: st) (I, R, al) Q ↔ Zgo d 62 73 (L) (zq (R 6 o 1) :: st) (I, R, al) Q := zg_62_70
theorem zh_62_73 {x : Int} : Zgo d 62 73 (a0 :: a1 :: a2 :: a3 :: some (zi x) :: L) (st) (I, R, al) Q ↔ Zgo d 62 75 (a0 :: a1 :: a2 :: a3 :: some (zi x) :: L) (zi x :: st) (I, R, al) Q := zg_62_73
theorem zh_62_75 {j : Int} {c o : Nat} : Zgo d 62 75 (L) (zi j :: zq (some (c, o)) :: st) (I, R, al) Q ↔ zal (zlen (I, R, al) c) 0 j (fun x => Zgo d 62 76 (L) (zi (I c o x) :: st) (I, R, al) Q) := zg_62_75
theorem zh_62_76 {v j : Int} {c o : Nat} : Zgo d 62 76 (L) (zi v :: zi j :: zq (some (c, o)) :: st) (I, R, al) Q ↔ zal (zArr c) 0 j (fun x => Zgo d 62 77 (L) (st) (zsI I c o x v, R, al) Q) := zg_62_76
theorem zh_62_77 {x : Int} : Zgo d 62 77 (a0 :: a1 :: a2 :: some (zi x) :: L) (st) (I, R, al) Q ↔ Zgo d 62 80 (a0 :: a1 :: zkl a2 :: some (zi (x + 1)) :: L) (st) (I, R, al) Q := zg_62_77
theorem zh_62_80 : Zgo d 62 80 (L) (st) (I, R, al) Q ↔ Zgo d 62 136 (L) (st) (I, R, al) Q := zg_62_80
theorem zh_62_83 {x : Int} : Zgo d 62 83 (a0 :: a1 :: a2 :: some (zi x) :: L) (st) (I, R, al) Q ↔ Zgo d 62 84 (a0 :: a1 :: a2 :: some (zi x) :: L) (zi x :: st) (I, R, al) Q := zg_62_83
theorem zh_62_84 : Zgo d 62 84 (L) (st) (I, R, al) Q ↔ Zgo d 62 85 (L) (zi 2 :: st) (I, R, al) Q := zg_62_84
theorem zh_62_85 {x y : Int} : Zgo d 62 85 (L) (zi y :: zi x :: st) (I, R, al) Q ↔ if zw x < zw y then Zgo d 62 136 (L) (st) (I, R, al) Q else Zgo d 62 88 (L) (st) (I, R, al) Q := zg_62_85
theorem zh_62_88 {x : Int} : Zgo d 62 88 (a0 :: a1 :: a2 :: some (zi x) :: L) (st) (I, R, al) Q ↔ Zgo d 62 91 (a0 :: a1 :: zkl a2 :: some (zi (x + (-1))) :: L) (st) (I, R, al) Q := zg_62_88
theorem zh_62_91 {x : Int} : Zgo d 62 91 (a0 :: a1 :: a2 :: a3 :: a4 :: some (zi x) :: L) (st) (I, R, al) Q ↔ Zgo d 62 93 (a0 :: a1 :: a2 :: a3 :: a4 :: some (zi x) :: L) (zi x :: st) (I, R, al) Q := zg_62_91
theorem zh_62_93 : Zgo d 62 93 (L) (st) (I, R, al) Q ↔ Zgo d 62 95 (L) (zi 47 :: st) (I, R, al) Q := zg_62_93
theorem zh_62_95 {x y : Int} : Zgo d 62 95 (L) (zi y :: zi x :: st) (I, R, al) Q ↔ if zw x = zw y then Zgo d 62 98 (L) (st) (I, R, al) Q else Zgo d 62 109 (L) (st) (I, R, al) Q := zg_62_95
theorem zh_62_98 {x : Option (Nat × Nat)} : Zgo d 62 98 (some (zq x) :: L) (st) (I, R, al) Q ↔ Zgo d 62 99 (some (zq x) :: L) (zq x :: st) (I, R, al) Q := zg_62_98
theorem zh_62_99 {o : Nat} : Zgo d 62 99 (L) (zq (some (6, o)) :: st) (I, R, al) Q ↔ Zgo d 62 102 (L) (zq (R 6 o 4) :: st) (I, R, al) Q := zg_62_99
theorem zh_62_102 {x : Int} : Zgo d 62 102 (a0 :: a1 :: a2 :: some (zi x) :: L) (st) (I, R, al) Q ↔ Zgo d 62 103 (a0 :: a1 :: a2 :: some (zi x) :: L) (zi x :: st) (I, R, al) Q := zg_62_102
theorem zh_62_103 {j : Int} {c o : Nat} : Zgo d 62 103 (L) (zi j :: zq (some (c, o)) :: st) (I, R, al) Q ↔ zal (zlen (I, R, al) c) 0 j (fun x => Zgo d 62 104 (L) (zi (I c o x) :: st) (I, R, al) Q) := zg_62_103
theorem zh_62_104 {x : Int} : Zgo d 62 104 (L) (zi x :: st) (I, R, al) Q ↔ if zw x = zw 0 then Zgo d 62 107 (L) (st) (I, R, al) Q else Zgo d 62 109 (L) (st) (I, R, al) Q := zg_62_104
theorem zh_62_107 : Zgo d 62 107 (L) (st) (I, R, al) Q ↔ Zgo d 62 108 (L) (zi 0 :: st) (I, R, al) Q := zg_62_107
theorem zh_62_108 {x : Int} : Zgo d 62 108 (L) (zi x :: []) (I, R, al) Q ↔ zok 1 x False (Q (some (zi x)) (I, R, al)) := zg_62_108
theorem zh_62_109 {x : Option (Nat × Nat)} : Zgo d 62 109 (some (zq x) :: L) (st) (I, R, al) Q ↔ Zgo d 62 110 (some (zq x) :: L) (zq x :: st) (I, R, al) Q := zg_62_109
theorem zh_62_110 {o : Nat} : Zgo d 62 110 (L) (zq (some (6, o)) :: st) (I, R, al) Q ↔ Zgo d 62 113 (L) (zq (R 6 o 4) :: st) (I, R, al) Q := zg_62_110
theorem zh_62_113 {x : Int} : Zgo d 62 113 (a0 :: a1 :: a2 :: some (zi x) :: L) (st) (I, R, al) Q ↔ Zgo d 62 114 (a0 :: a1 :: a2 :: some (zi x) :: L) (zi x :: st) (I, R, al) Q := zg_62_113
theorem zh_62_114 : Zgo d 62 114 (L) (st) (I, R, al) Q ↔ Zgo d 62 115 (L) (zi 1 :: st) (I, R, al) Q := zg_62_114
theorem zh_62_115 {x y : Int} : Zgo d 62 115 (L) (zi y :: zi x :: st) (I, R, al) Q ↔ Zgo d 62 116 (L) (zi (x - y) :: st) (I, R, al) Q := zg_62_115
theorem zh_62_116 {x : Int} : Zgo d 62 116 (a0 :: a1 :: a2 :: a3 :: a4 :: some (zi x) :: L) (st) (I, R, al) Q ↔ Zgo d 62 118 (a0 :: a1 :: a2 :: a3 :: a4 :: some (zi x) :: L) (zi x :: st) (I, R, al) Q := zg_62_116
theorem zh_62_118 {x : Option (Nat × Nat)} : Zgo d 62 118 (some (zq x) :: L) (st) (I, R, al) Q ↔ Zgo d 62 119 (some (zq x) :: L) (zq x :: st) (I, R, al) Q := zg_62_118
theorem zh_62_119 {o : Nat} : Zgo d 62 119 (L) (zq (some (6, o)) :: st) (I, R, al) Q ↔ Zgo d 62 122 (L) (zq (R 6 o 4) :: st) (I, R, al) Q := zg_62_119
theorem zh_62_122 {x : Int} : Zgo d 62 122 (a0 :: a1 :: a2 :: some (zi x) :: L) (st) (I, R, al) Q ↔ Zgo d 62 123 (a0 :: a1 :: a2 :: some (zi x) :: L) (zi x :: st) (I, R, al) Q := zg_62_122
theorem zh_62_123 : Zgo d 62 123 (L) (st) (I, R, al) Q ↔ Zgo d 62 124 (L) (zi 1 :: st) (I, R, al) Q := zg_62_123
theorem zh_62_124 {x y : Int} : Zgo d 62 124 (L) (zi y :: zi x :: st) (I, R, al) Q ↔ Zgo d 62 125 (L) (zi (x - y) :: st) (I, R, al) Q := zg_62_124
theorem zh_62_125 {j : Int} {c o : Nat} : Zgo d 62 125 (L) (zi j :: zq (some (c, o)) :: st) (I, R, al) Q ↔ zal (zlen (I, R, al) c) 0 j (fun x => Zgo d 62 126 (L) (zi (I c o x) :: st) (I, R, al) Q) := zg_62_125
theorem zh_62_126 {x : Option (Nat × Nat)} : Zgo d 62 126 (some (zq x) :: L) (st) (I, R, al) Q ↔ Zgo d 62 127 (some (zq x) :: L) (zq x :: st) (I, R, al) Q := zg_62_126
theorem zh_62_127 {o : Nat} : Zgo d 62 127 (L) (zq (some (6, o)) :: st) (I, R, al) Q ↔ Zgo d 62 130 (L) (zq (R 6 o 4) :: st) (I, R, al) Q := zg_62_127
theorem zh_62_130 {x : Int} : Zgo d 62 130 (a0 :: a1 :: a2 :: some (zi x) :: L) (st) (I, R, al) Q ↔ Zgo d 62 131 (a0 :: a1 :: a2 :: some (zi x) :: L) (zi x :: st) (I, R, al) Q := zg_62_130
theorem zh_62_131 {j : Int} {c o : Nat} : Zgo d 62 131 (L) (zi j :: zq (some (c, o)) :: st) (I, R, al) Q ↔ zal (zlen (I, R, al) c) 0 j (fun x => Zgo d 62 132 (L) (zi (I c o x) :: st) (I, R, al) Q) := zg_62_131
theorem zh_62_132 {v0 v1 v2 : zV} : Zgo d 62 132 (L) (v2 :: v1 :: v0 :: st) (I, R, al) Q ↔ if zwt st ≤ 8 then zCp d 63 [v0, v1, v2] (I, R, al) (fun r S2 => Zgo d 62 135 L (r.toList ++ st) S2 Q) else False := zg_62_132
theorem zh_62_135 {v j : Int} {c o : Nat} : Zgo d 62 135 (L) (zi v :: zi j :: zq (some (c, o)) :: st) (I, R, al) Q ↔ zal (zArr c) 0 j (fun x => Zgo d 62 136 (L) (st) (zsI I c o x v, R, al) Q) := zg_62_135
theorem zh_62_136 {x : Int} : Zgo d 62 136 (a0 :: a1 :: a2 :: a3 :: some (zi x) :: L) (st) (I, R, al) Q ↔ Zgo d 62 139 (a0 :: a1 :: a2 :: zkl a3 :: some (zi (x + 1)) :: L) (st) (I, R, al) Q := zg_62_136
theorem zh_62_139 : Zgo d 62 139 (L) (st) (I, R, al) Q ↔ Zgo d 62 8 (L) (st) (I, R, al) Q := zg_62_139
theorem zh_62_142 {x : Option (Nat × Nat)} : Zgo d 62 142 (some (zq x) :: L) (st) (I, R, al) Q ↔ Zgo d 62 143 (some (zq x) :: L) (zq x :: st) (I, R, al) Q := zg_62_142
theorem zh_62_143 {x : Option (Nat × Nat)} : Zgo d 62 143 (some (zq x) :: L) (st) (I, R, al) Q ↔ Zgo d 62 144 (some (zq x) :: L) (zq x :: st) (I, R, al) Q := zg_62_143
theorem zh_62_144 {o : Nat} : Zgo d 62 144 (L) (zq (some (6, o)) :: st) (I, R, al) Q ↔ Zgo d 62 147 (L) (zq (R 6 o 4) :: st) (I, R, al) Q := zg_62_144
theorem zh_62_147 : Zgo d 62 147 (L) (st) (I, R, al) Q ↔ Zgo d 62 148 (L) (zi 0 :: st) (I, R, al) Q := zg_62_147
theorem zh_62_148 {j : Int} {c o : Nat} : Zgo d 62 148 (L) (zi j :: zq (some (c, o)) :: st) (I, R, al) Q ↔ zal (zlen (I, R, al) c) 0 j (fun x => Zgo d 62 149 (L) (zi (I c o x) :: st) (I, R, al) Q) := zg_62_148
theorem zh_62_149 {o : Nat} {v : Int} : Zgo d 62 149 (L) (zi v :: zq (some (6, o)) :: st) (I, R, al) Q ↔ Zgo d 62 152 (L) (st) (zsI I 6 o 3 v, R, al) Q := zg_62_149
theorem zh_62_152 : Zgo d 62 152 (L) (st) (I, R, al) Q ↔ Zgo d 62 153 (L) (zi 1 :: st) (I, R, al) Q := zg_62_152
theorem zh_62_153 {x : Int} : Zgo d 62 153 (L) (zi x :: []) (I, R, al) Q ↔ zok 1 x False (Q (some (zi x)) (I, R, al)) := zg_62_153
theorem zh_63_0 {x : Int} : Zgo d 63 0 (some (zi x) :: L) (st) (I, R, al) Q ↔ Zgo d 63 1 (some (zi x) :: L) (zi x :: st) (I, R, al) Q := zg_63_0
theorem zh_63_40 {x : Int} : Zgo d 63 40 (a0 :: some (zi x) :: L) (st) (I, R, al) Q ↔ Zgo d 63 41 (a0 :: some (zi x) :: L) (zi x :: st) (I, R, al) Q := zg_63_40
theorem zh_63_41 {x : Int} : Zgo d 63 41 (a0 :: a1 :: some (zi x) :: L) (st) (I, R, al) Q ↔ Zgo d 63 42 (a0 :: a1 :: some (zi x) :: L) (zi x :: st) (I, R, al) Q := zg_63_41
theorem zh_63_42 {x y : Int} : Zgo d 63 42 (L) (zi y :: zi x :: st) (I, R, al) Q ↔ Zgo d 63 43 (L) (zi (x + y) :: st) (I, R, al) Q := zg_63_42
theorem zh_63_43 {x : Int} : Zgo d 63 43 (L) (zi x :: []) (I, R, al) Q ↔ Q (some (zi x)) (I, R, al) := zg_63_43
theorem zh_63_44 {x : Int} : Zgo d 63 44 (a0 :: some (zi x) :: L) (st) (I, R, al) Q ↔ Zgo d 63 45 (a0 :: some (zi x) :: L) (zi x :: st) (I, R, al) Q := zg_63_44
theorem zh_63_45 {x : Int} : Zgo d 63 45 (a0 :: a1 :: some (zi x) :: L) (st) (I, R, al) Q ↔ Zgo d 63 46 (a0 :: a1 :: some (zi x) :: L) (zi x :: st) (I, R, al) Q := zg_63_45
theorem zh_63_46 {x y : Int} : Zgo d 63 46 (L) (zi y :: zi x :: st) (I, R, al) Q ↔ Zgo d 63 47 (L) (zi (x - y) :: st) (I, R, al) Q := zg_63_46
theorem zh_63_47 {x : Int} : Zgo d 63 47 (L) (zi x :: []) (I, R, al) Q ↔ Q (some (zi x)) (I, R, al) := zg_63_47
theorem zh_63_48 {x : Int} : Zgo d 63 48 (a0 :: some (zi x) :: L) (st) (I, R, al) Q ↔ Zgo d 63 49 (a0 :: some (zi x) :: L) (zi x :: st) (I, R, al) Q := zg_63_48
theorem zh_63_49 {x : Int} : Zgo d 63 49 (a0 :: a1 :: some (zi x) :: L) (st) (I, R, al) Q ↔ Zgo d 63 50 (a0 :: a1 :: some (zi x) :: L) (zi x :: st) (I, R, al) Q := zg_63_49
theorem zh_63_50 {x y : Int} : Zgo d 63 50 (L) (zi y :: zi x :: st) (I, R, al) Q ↔ Zgo d 63 51 (L) (zi (x * y) :: st) (I, R, al) Q := zg_63_50
theorem zh_63_51 {x : Int} : Zgo d 63 51 (L) (zi x :: []) (I, R, al) Q ↔ Q (some (zi x)) (I, R, al) := zg_63_51
theorem zh_63_52 {x : Int} : Zgo d 63 52 (a0 :: some (zi x) :: L) (st) (I, R, al) Q ↔ Zgo d 63 53 (a0 :: some (zi x) :: L) (zi x :: st) (I, R, al) Q := zg_63_52
theorem zh_63_53 {x : Int} : Zgo d 63 53 (a0 :: a1 :: some (zi x) :: L) (st) (I, R, al) Q ↔ Zgo d 63 54 (a0 :: a1 :: some (zi x) :: L) (zi x :: st) (I, R, al) Q := zg_63_53
theorem zh_63_54 {x y : Int} : Zgo d 63 54 (L) (zi y :: zi x :: st) (I, R, al) Q ↔ if zw y = 0 then False else Zgo d 63 55 (L) (zi (zdiv x y) :: st) (I, R, al) Q := zg_63_54
theorem zh_63_55 {x : Int} : Zgo d 63 55 (L) (zi x :: []) (I, R, al) Q ↔ Q (some (zi x)) (I, R, al) := zg_63_55
theorem zh_63_56 {x : Int} : Zgo d 63 56 (a0 :: some (zi x) :: L) (st) (I, R, al) Q ↔ Zgo d 63 57 (a0 :: some (zi x) :: L) (zi x :: st) (I, R, al) Q := zg_63_56
theorem zh_63_57 {x : Int} : Zgo d 63 57 (a0 :: a1 :: some (zi x) :: L) (st) (I, R, al) Q ↔ Zgo d 63 58 (a0 :: a1 :: some (zi x) :: L) (zi x :: st) (I, R, al) Q := zg_63_57
theorem zh_63_58 {x y : Int} : Zgo d 63 58 (L) (zi y :: zi x :: st) (I, R, al) Q ↔ if zw x < zw y then Zgo d 63 61 (L) (st) (I, R, al) Q else Zgo d 63 65 (L) (st) (I, R, al) Q := zg_63_58
theorem zh_63_61 : Zgo d 63 61 (L) (st) (I, R, al) Q ↔ Zgo d 63 62 (L) (zi 1 :: st) (I, R, al) Q := zg_63_61
theorem zh_63_62 : Zgo d 63 62 (L) (st) (I, R, al) Q ↔ Zgo d 63 66 (L) (st) (I, R, al) Q := zg_63_62
theorem zh_63_65 : Zgo d 63 65 (L) (st) (I, R, al) Q ↔ Zgo d 63 66 (L) (zi 0 :: st) (I, R, al) Q := zg_63_65
theorem zh_63_66 {x : Int} : Zgo d 63 66 (L) (zi x :: []) (I, R, al) Q ↔ Q (some (zi x)) (I, R, al) := zg_63_66
theorem zh_63_1 {x : Int} : Zgo d 63 1 L (zi x :: st) (I, R, al) Q ↔ (if zw x = 42 then Zgo d 63 48 L st (I, R, al) Q else if zw x = 43 then Zgo d 63 40 L st (I, R, al) Q else if zw x = 44 then Zgo d 63 56 L st (I, R, al) Q else if zw x = 45 then Zgo d 63 44 L st (I, R, al) Q else if zw x = 46 then Zgo d 63 56 L st (I, R, al) Q else if zw x = 47 then Zgo d 63 52 L st (I, R, al) Q else Zgo d 63 56 L st (I, R, al) Q) := zg_63_1
theorem zh_64_0 {x : Option (Nat × Nat)} : Zgo d 64 0 (some (zq x) :: L) (st) (I, R, al) Q ↔ Zgo d 64 1 (some (zq x) :: L) (zq x :: st) (I, R, al) Q := zg_64_0
theorem zh_64_1 {x : Int} : Zgo d 64 1 (a0 :: some (zi x) :: L) (st) (I, R, al) Q ↔ Zgo d 64 2 (a0 :: some (zi x) :: L) (zi x :: st) (I, R, al) Q := zg_64_1
theorem zh_64_2 {o : Nat} {v : Int} : Zgo d 64 2 (L) (zi v :: zq (some (10, o)) :: st) (I, R, al) Q ↔ Zgo d 64 5 (L) (st) (zsI I 10 o 7 v, R, al) Q := zg_64_2
theorem zh_64_5 {x : Option (Nat × Nat)} : Zgo d 64 5 (some (zq x) :: L) (st) (I, R, al) Q ↔ Zgo d 64 6 (some (zq x) :: L) (zq x :: st) (I, R, al) Q := zg_64_5
theorem zh_64_6 {x : Int} : Zgo d 64 6 (a0 :: a1 :: some (zi x) :: L) (st) (I, R, al) Q ↔ Zgo d 64 7 (a0 :: a1 :: some (zi x) :: L) (zi x :: st) (I, R, al) Q := zg_64_6
theorem zh_64_7 {o : Nat} {v : Int} : Zgo d 64 7 (L) (zi v :: zq (some (10, o)) :: st) (I, R, al) Q ↔ Zgo d 64 10 (L) (st) (zsI I 10 o 8 v, R, al) Q := zg_64_7
theorem zh_64_10 : Zgo d 64 10 (L) (st) (I, R, al) Q ↔ Zgo d 64 13 (L) (zq (some (90, 4)) :: st) (I, R, al) Q := zg_64_10
theorem zh_64_13 {x : Option (Nat × Nat)} : Zgo d 64 13 (L) (zq x :: []) (I, R, al) Q ↔ Q (some (zq x)) (I, R, al) := zg_64_13
theorem zh_65_0 {x : Option (Nat × Nat)} : Zgo d 65 0 (some (zq x) :: L) (st) (I, R, al) Q ↔ Zgo d 65 1 (some (zq x) :: L) (zq x :: st) (I, R, al) Q := zg_65_0
theorem zh_65_1 {o : Nat} : Zgo d 65 1 (L) (zq (some (10, o)) :: st) (I, R, al) Q ↔ Zgo d 65 4 (L) (zq (R 10 o 9) :: st) (I, R, al) Q := zg_65_1
theorem zh_65_4 {o : Nat} : Zgo d 65 4 (L) (zq (some (7, o)) :: st) (I, R, al) Q ↔ Zgo d 65 7 (L) (zq (R 7 o 3) :: st) (I, R, al) Q := zg_65_4
theorem zh_65_7 {x : Option (Nat × Nat)} : Zgo d 65 7 (a0 :: some (zq x) :: L) (st) (I, R, al) Q ↔ Zgo d 65 8 (a0 :: some (zq x) :: L) (zq x :: st) (I, R, al) Q := zg_65_7
theorem zh_65_8 {x : Option (Nat × Nat)} : Zgo d 65 8 (some (zq x) :: L) (st) (I, R, al) Q ↔ Zgo d 65 9 (some (zq x) :: L) (zq x :: st) (I, R, al) Q := zg_65_8
theorem zh_65_9 {o : Nat} : Zgo d 65 9 (L) (zq (some (10, o)) :: st) (I, R, al) Q ↔ Zgo d 65 12 (L) (zq (R 10 o 0) :: st) (I, R, al) Q := zg_65_9
theorem zh_65_12 {v1 v2 : zV} {o : Nat} : Zgo d 65 12 (L) (v2 :: v1 :: zq (some (6, o)) :: st) (I, R, al) Q ↔ if zwt st ≤ 8 then zCp d 62 [zq (some (6, o)), v1, v2] (I, R, al) (fun r S2 => Zgo d 65 15 L (r.toList ++ st) S2 Q) else False := zg_65_12
theorem zh_65_15 {x : Int} : Zgo d 65 15 (L) (zi x :: st) (I, R, al) Q ↔ if zw x = zw 0 then Zgo d 65 18 (L) (st) (I, R, al) Q else Zgo d 65 25 (L) (st) (I, R, al) Q := zg_65_15
theorem zh_65_18 {x : Option (Nat × Nat)} : Zgo d 65 18 (some (zq x) :: L) (st) (I, R, al) Q ↔ Zgo d 65 19 (some (zq x) :: L) (zq x :: st) (I, R, al) Q := zg_65_18
theorem zh_65_19 : Zgo d 65 19 (L) (st) (I, R, al) Q ↔ Zgo d 65 20 (L) (zi 5 :: st) (I, R, al) Q := zg_65_19
theorem zh_65_20 : Zgo d 65 20 (L) (st) (I, R, al) Q ↔ Zgo d 65 21 (L) (zi 0 :: st) (I, R, al) Q := zg_65_20
theorem zh_65_21 {v1 v2 : zV} {o : Nat} : Zgo d 65 21 (L) (v2 :: v1 :: zq (some (10, o)) :: st) (I, R, al) Q ↔ if zwt st ≤ 8 then zCp d 64 [zq (some (10, o)), v1, v2] (I, R, al) (fun r S2 => Zgo d 65 24 L (r.toList ++ st) S2 Q) else False := zg_65_21
theorem zh_65_24 {x : Option (Nat × Nat)} : Zgo d 65 24 (L) (zq x :: []) (I, R, al) Q ↔ Q (some (zq x)) (I, R, al) := zg_65_24
theorem zh_65_25 {x : Option (Nat × Nat)} : Zgo d 65 25 (some (zq x) :: L) (st) (I, R, al) Q ↔ Zgo d 65 26 (some (zq x) :: L) (zq x :: st) (I, R, al) Q := zg_65_25
theorem zh_65_26 {o : Nat} : Zgo d 65 26 (L) (zq (some (10, o)) :: st) (I, R, al) Q ↔ Zgo d 65 29 (L) (zi (I 10 o 2) :: st) (I, R, al) Q := zg_65_26
theorem zh_65_29 : Zgo d 65 29 (L) (st) (I, R, al) Q ↔ Zgo d 65 31 (L) (zi 24 :: st) (I, R, al) Q := zg_65_29
theorem zh_65_31 {x y : Int} : Zgo d 65 31 (L) (zi y :: zi x :: st) (I, R, al) Q ↔ if zw x = zw y then Zgo d 65 34 (L) (st) (I, R, al) Q else Zgo d 65 42 (L) (st) (I, R, al) Q := zg_65_31
theorem zh_65_34 {x : Option (Nat × Nat)} : Zgo d 65 34 (some (zq x) :: L) (st) (I, R, al) Q ↔ Zgo d 65 35 (some (zq x) :: L) (zq x :: st) (I, R, al) Q := zg_65_34
theorem zh_65_35 : Zgo d 65 35 (L) (st) (I, R, al) Q ↔ Zgo d 65 37 (L) (zi 7 :: st) (I, R, al) Q := zg_65_35
theorem zh_65_37 : Zgo d 65 37 (L) (st) (I, R, al) Q ↔ Zgo d 65 38 (L) (zi 0 :: st) (I, R, al) Q := zg_65_37
theorem zh_65_38 {v1 v2 : zV} {o : Nat} : Zgo d 65 38 (L) (v2 :: v1 :: zq (some (10, o)) :: st) (I, R, al) Q ↔ if zwt st ≤ 8 then zCp d 64 [zq (some (10, o)), v1, v2] (I, R, al) (fun r S2 => Zgo d 65 41 L (r.toList ++ st) S2 Q) else False := zg_65_38
theorem zh_65_41 {x : Option (Nat × Nat)} : Zgo d 65 41 (L) (zq x :: []) (I, R, al) Q ↔ Q (some (zq x)) (I, R, al) := zg_65_41
theorem zh_65_42 {x : Option (Nat × Nat)} : Zgo d 65 42 (some (zq x) :: L) (st) (I, R, al) Q ↔ Zgo d 65 43 (some (zq x) :: L) (zq x :: st) (I, R, al) Q := zg_65_42
theorem zh_65_43 {o : Nat} : Zgo d 65 43 (L) (zq (some (10, o)) :: st) (I, R, al) Q ↔ Zgo d 65 46 (L) (zq (R 10 o 1) :: st) (I, R, al) Q := zg_65_43
theorem zh_65_46 {x : Option (Nat × Nat)} : Zgo d 65 46 (some (zq x) :: L) (st) (I, R, al) Q ↔ Zgo d 65 47 (some (zq x) :: L) (zq x :: st) (I, R, al) Q := zg_65_46
theorem zh_65_47 {x : Int} : Zgo d 65 47 (L) (zi x :: st) (I, R, al) Q ↔ Zgo d 65 48 (L) (zi x :: zi x :: st) (I, R, al) Q := zg_65_47
theorem zh_65_47q {u : Option (Nat × Nat)} : Zgo d 65 47 (L) (zq u :: st) (I, R, al) Q ↔ Zgo d 65 48 (L) (zq u :: zq u :: st) (I, R, al) Q := zg_65_47
theorem zh_65_48 {o : Nat} : Zgo d 65 48 (L) (zq (some (10, o)) :: st) (I, R, al) Q ↔ Zgo d 65 51 (L) (zi (I 10 o 2) :: st) (I, R, al) Q := zg_65_48
theorem zh_65_51 {x : Int} {z : Int} : Zgo d 65 51 (L) (zi x :: zi z :: st) (I, R, al) Q ↔ Zgo d 65 52 (L) (zi x :: zi z :: zi x :: st) (I, R, al) Q := zg_65_51
theorem zh_65_51r {x : Int} {w : Option (Nat × Nat)} : Zgo d 65 51 (L) (zi x :: zq w :: st) (I, R, al) Q ↔ Zgo d 65 52 (L) (zi x :: zq w :: zi x :: st) (I, R, al) Q := zg_65_51
theorem zh_65_51qi {u : Option (Nat × Nat)} {z : Int} : Zgo d 65 51 (L) (zq u :: zi z :: st) (I, R, al) Q ↔ Zgo d 65 52 (L) (zq u :: zi z :: zq u :: st) (I, R, al) Q := zg_65_51
theorem zh_65_51qr {u : Option (Nat × Nat)} {w : Option (Nat × Nat)} : Zgo d 65 51 (L) (zq u :: zq w :: st) (I, R, al) Q ↔ Zgo d 65 52 (L) (zq u :: zq w :: zq u :: st) (I, R, al) Q := zg_65_51
theorem zh_65_52 : Zgo d 65 52 (L) (st) (I, R, al) Q ↔ Zgo d 65 53 (L) (zi 1 :: st) (I, R, al) Q := zg_65_52
theorem zh_65_53 {x y : Int} : Zgo d 65 53 (L) (zi y :: zi x :: st) (I, R, al) Q ↔ Zgo d 65 54 (L) (zi (x + y) :: st) (I, R, al) Q := zg_65_53
theorem zh_65_54 {o : Nat} {v : Int} : Zgo d 65 54 (L) (zi v :: zq (some (10, o)) :: st) (I, R, al) Q ↔ Zgo d 65 57 (L) (st) (zsI I 10 o 2 v, R, al) Q := zg_65_54
theorem zh_65_57 {x : Option (Nat × Nat)} : Zgo d 65 57 (some (zq x) :: L) (st) (I, R, al) Q ↔ Zgo d 65 58 (some (zq x) :: L) (zq x :: st) (I, R, al) Q := zg_65_57
theorem zh_65_58 {o : Nat} : Zgo d 65 58 (L) (zq (some (10, o)) :: st) (I, R, al) Q ↔ Zgo d 65 61 (L) (zq (R 10 o 9) :: st) (I, R, al) Q := zg_65_58
theorem zh_65_61 {o : Nat} : Zgo d 65 61 (L) (zq (some (7, o)) :: st) (I, R, al) Q ↔ Zgo d 65 64 (L) (zq (R 7 o 3) :: st) (I, R, al) Q := zg_65_61
theorem zh_65_64 {o : Nat} : Zgo d 65 64 (L) (zq (some (6, o)) :: st) (I, R, al) Q ↔ Zgo d 65 67 (L) (zi (I 6 o 3) :: st) (I, R, al) Q := zg_65_64
theorem zh_65_67 {v j : Int} {c o : Nat} : Zgo d 65 67 (L) (zi v :: zi j :: zq (some (c, o)) :: st) (I, R, al) Q ↔ zal (zArr c) 0 j (fun x => Zgo d 65 68 (L) (st) (zsI I c o x v, R, al) Q) := zg_65_67
theorem zh_65_68 : Zgo d 65 68 (L) (st) (I, R, al) Q ↔ Zgo d 65 71 (L) (zq (some (90, 0)) :: st) (I, R, al) Q := zg_65_68
theorem zh_65_71 {x : Option (Nat × Nat)} : Zgo d 65 71 (L) (zq x :: []) (I, R, al) Q ↔ Q (some (zq x)) (I, R, al) := zg_65_71
theorem zh_66_0 {x : Option (Nat × Nat)} : Zgo d 66 0 (some (zq x) :: L) (st) (I, R, al) Q ↔ Zgo d 66 1 (some (zq x) :: L) (zq x :: st) (I, R, al) Q := zg_66_0
theorem zh_66_1 {o : Nat} : Zgo d 66 1 (L) (zq (some (10, o)) :: st) (I, R, al) Q ↔ Zgo d 66 4 (L) (zq (R 10 o 9) :: st) (I, R, al) Q := zg_66_1
theorem zh_66_4 {o : Nat} : Zgo d 66 4 (L) (zq (some (7, o)) :: st) (I, R, al) Q ↔ Zgo d 66 7 (L) (zq (R 7 o 3) :: st) (I, R, al) Q := zg_66_4
theorem zh_66_7 {x : Option (Nat × Nat)} : Zgo d 66 7 (a0 :: some (zq x) :: L) (st) (I, R, al) Q ↔ Zgo d 66 8 (a0 :: some (zq x) :: L) (zq x :: st) (I, R, al) Q := zg_66_7
theorem zh_66_8 {x : Option (Nat × Nat)} : Zgo d 66 8 (some (zq x) :: L) (st) (I, R, al) Q ↔ Zgo d 66 9 (some (zq x) :: L) (zq x :: st) (I, R, al) Q := zg_66_8
theorem zh_66_9 {o : Nat} : Zgo d 66 9 (L) (zq (some (10, o)) :: st) (I, R, al) Q ↔ Zgo d 66 12 (L) (zq (R 10 o 0) :: st) (I, R, al) Q := zg_66_9
theorem zh_66_12 {v1 v2 : zV} {o : Nat} : Zgo d 66 12 (L) (v2 :: v1 :: zq (some (6, o)) :: st) (I, R, al) Q ↔ if zwt st ≤ 8 then zCp d 62 [zq (some (6, o)), v1, v2] (I, R, al) (fun r S2 => Zgo d 66 15 L (r.toList ++ st) S2 Q) else False := zg_66_12
theorem zh_66_15 {x : Int} : Zgo d 66 15 (L) (zi x :: st) (I, R, al) Q ↔ if zw x = zw 0 then Zgo d 66 18 (L) (st) (I, R, al) Q else Zgo d 66 25 (L) (st) (I, R, al) Q := zg_66_15
theorem zh_66_18 {x : Option (Nat × Nat)} : Zgo d 66 18 (some (zq x) :: L) (st) (I, R, al) Q ↔ Zgo d 66 19 (some (zq x) :: L) (zq x :: st) (I, R, al) Q := zg_66_18
theorem zh_66_19 : Zgo d 66 19 (L) (st) (I, R, al) Q ↔ Zgo d 66 20 (L) (zi 5 :: st) (I, R, al) Q := zg_66_19
theorem zh_66_20 : Zgo d 66 20 (L) (st) (I, R, al) Q ↔ Zgo d 66 21 (L) (zi 0 :: st) (I, R, al) Q := zg_66_20
theorem zh_66_21 {v1 v2 : zV} {o : Nat} : Zgo d 66 21 (L) (v2 :: v1 :: zq (some (10, o)) :: st) (I, R, al) Q ↔ if zwt st ≤ 8 then zCp d 64 [zq (some (10, o)), v1, v2] (I, R, al) (fun r S2 => Zgo d 66 24 L (r.toList ++ st) S2 Q) else False := zg_66_21
theorem zh_66_24 {x : Option (Nat × Nat)} : Zgo d 66 24 (L) (zq x :: []) (I, R, al) Q ↔ Q (some (zq x)) (I, R, al) := zg_66_24
theorem zh_66_25 {x : Option (Nat × Nat)} : Zgo d 66 25 (some (zq x) :: L) (st) (I, R, al) Q ↔ Zgo d 66 26 (some (zq x) :: L) (zq x :: st) (I, R, al) Q := zg_66_25
theorem zh_66_26 {x : Option (Nat × Nat)} : Zgo d 66 26 (some (zq x) :: L) (st) (I, R, al) Q ↔ Zgo d 66 27 (some (zq x) :: L) (zq x :: st) (I, R, al) Q := zg_66_26
theorem zh_66_27 {o : Nat} : Zgo d 66 27 (L) (zq (some (10, o)) :: st) (I, R, al) Q ↔ Zgo d 66 30 (L) (zq (R 10 o 9) :: st) (I, R, al) Q := zg_66_27
theorem zh_66_30 {o : Nat} : Zgo d 66 30 (L) (zq (some (7, o)) :: st) (I, R, al) Q ↔ Zgo d 66 33 (L) (zq (R 7 o 3) :: st) (I, R, al) Q := zg_66_30
theorem zh_66_33 {o : Nat} : Zgo d 66 33 (L) (zq (some (6, o)) :: st) (I, R, al) Q ↔ Zgo d 66 36 (L) (zi (I 6 o 3) :: st) (I, R, al) Q := zg_66_33
theorem zh_66_36 {x : Int} : Zgo d 66 36 (L) (zi x :: st) (I, R, al) Q ↔ if zw x = zw 0 then Zgo d 66 46 (L) (st) (I, R, al) Q else Zgo d 66 39 (L) (st) (I, R, al) Q := zg_66_36
theorem zh_66_39 {x : Option (Nat × Nat)} : Zgo d 66 39 (a0 :: some (zq x) :: L) (st) (I, R, al) Q ↔ Zgo d 66 40 (a0 :: some (zq x) :: L) (zq x :: st) (I, R, al) Q := zg_66_39
theorem zh_66_40 {o : Nat} : Zgo d 66 40 (L) (zq (some (4, o)) :: st) (I, R, al) Q ↔ Zgo d 66 43 (L) (zq (R 4 o 7) :: st) (I, R, al) Q := zg_66_40
theorem zh_66_43 : Zgo d 66 43 (L) (st) (I, R, al) Q ↔ Zgo d 66 50 (L) (st) (I, R, al) Q := zg_66_43
theorem zh_66_46 {x : Option (Nat × Nat)} : Zgo d 66 46 (a0 :: some (zq x) :: L) (st) (I, R, al) Q ↔ Zgo d 66 47 (a0 :: some (zq x) :: L) (zq x :: st) (I, R, al) Q := zg_66_46
theorem zh_66_47 {o : Nat} : Zgo d 66 47 (L) (zq (some (4, o)) :: st) (I, R, al) Q ↔ Zgo d 66 50 (L) (zq (R 4 o 8) :: st) (I, R, al) Q := zg_66_47
theorem zh_66_50 {x : Int} : Zgo d 66 50 (a0 :: a1 :: some (zi x) :: L) (st) (I, R, al) Q ↔ Zgo d 66 51 (a0 :: a1 :: some (zi x) :: L) (zi x :: st) (I, R, al) Q := zg_66_50
theorem zh_66_51 {v1 v2 : zV} {o : Nat} : Zgo d 66 51 (L) (v2 :: v1 :: zq (some (10, o)) :: st) (I, R, al) Q ↔ if zwt st ≤ 8 then zCp d 59 [zq (some (10, o)), v1, v2] (I, R, al) (fun r S2 => Zgo d 66 54 L (r.toList ++ st) S2 Q) else False := zg_66_51
theorem zh_66_54 {x : Option (Nat × Nat)} : Zgo d 66 54 (L) (zq x :: []) (I, R, al) Q ↔ Q (some (zq x)) (I, R, al) := zg_66_54
theorem zh_67_0 {x : Option (Nat × Nat)} : Zgo d 67 0 (some (zq x) :: L) (st) (I, R, al) Q ↔ Zgo d 67 1 (some (zq x) :: L) (zq x :: st) (I, R, al) Q := zg_67_0
theorem zh_67_1 {o : Nat} : Zgo d 67 1 (L) (zq (some (10, o)) :: st) (I, R, al) Q ↔ Zgo d 67 4 (L) (zi (I 10 o 5) :: st) (I, R, al) Q := zg_67_1
theorem zh_67_4 {x : Int} : Zgo d 67 4 (L) (zi x :: st) (I, R, al) Q ↔ if zw 0 < zw x then Zgo d 67 7 (L) (st) (I, R, al) Q else Zgo d 67 99 (L) (st) (I, R, al) Q := zg_67_4
theorem zh_67_7 {x : Option (Nat × Nat)} : Zgo d 67 7 (some (zq x) :: L) (st) (I, R, al) Q ↔ Zgo d 67 8 (some (zq x) :: L) (zq x :: st) (I, R, al) Q := zg_67_7
theorem zh_67_8 {x : Int} : Zgo d 67 8 (L) (zi x :: st) (I, R, al) Q ↔ Zgo d 67 9 (L) (zi x :: zi x :: st) (I, R, al) Q := zg_67_8
theorem zh_67_8q {u : Option (Nat × Nat)} : Zgo d 67 8 (L) (zq u :: st) (I, R, al) Q ↔ Zgo d 67 9 (L) (zq u :: zq u :: st) (I, R, al) Q := zg_67_8
theorem zh_67_9 {o : Nat} : Zgo d 67 9 (L) (zq (some (10, o)) :: st) (I, R, al) Q ↔ Zgo d 67 12 (L) (zi (I 10 o 5) :: st) (I, R, al) Q := zg_67_9
theorem zh_67_12 : Zgo d 67 12 (L) (st) (I, R, al) Q ↔ Zgo d 67 13 (L) (zi 1 :: st) (I, R, al) Q := zg_67_12
theorem zh_67_13 {x y : Int} : Zgo d 67 13 (L) (zi y :: zi x :: st) (I, R, al) Q ↔ Zgo d 67 14 (L) (zi (x - y) :: st) (I, R, al) Q := zg_67_13
theorem zh_67_14 {o : Nat} {v : Int} : Zgo d 67 14 (L) (zi v :: zq (some (10, o)) :: st) (I, R, al) Q ↔ Zgo d 67 17 (L) (st) (zsI I 10 o 5 v, R, al) Q := zg_67_14
theorem zh_67_17 {x : Option (Nat × Nat)} : Zgo d 67 17 (some (zq x) :: L) (st) (I, R, al) Q ↔ Zgo d 67 18 (some (zq x) :: L) (zq x :: st) (I, R, al) Q := zg_67_17
theorem zh_67_18 {o : Nat} : Zgo d 67 18 (L) (zq (some (10, o)) :: st) (I, R, al) Q ↔ Zgo d 67 21 (L) (zq (R 10 o 9) :: st) (I, R, al) Q := zg_67_18
theorem zh_67_21 {o : Nat} : Zgo d 67 21 (L) (zq (some (7, o)) :: st) (I, R, al) Q ↔ Zgo d 67 24 (L) (zq (R 7 o 3) :: st) (I, R, al) Q := zg_67_21
theorem zh_67_24 {x : Option (Nat × Nat)} : Zgo d 67 24 (a0 :: some (zq x) :: L) (st) (I, R, al) Q ↔ Zgo d 67 25 (a0 :: some (zq x) :: L) (zq x :: st) (I, R, al) Q := zg_67_24
theorem zh_67_25 {x : Option (Nat × Nat)} : Zgo d 67 25 (some (zq x) :: L) (st) (I, R, al) Q ↔ Zgo d 67 26 (some (zq x) :: L) (zq x :: st) (I, R, al) Q := zg_67_25
theorem zh_67_26 {o : Nat} : Zgo d 67 26 (L) (zq (some (10, o)) :: st) (I, R, al) Q ↔ Zgo d 67 29 (L) (zq (R 10 o 0) :: st) (I, R, al) Q := zg_67_26
theorem zh_67_29 {v1 v2 : zV} {o : Nat} : Zgo d 67 29 (L) (v2 :: v1 :: zq (some (6, o)) :: st) (I, R, al) Q ↔ if zwt st ≤ 8 then zCp d 62 [zq (some (6, o)), v1, v2] (I, R, al) (fun r S2 => Zgo d 67 32 L (r.toList ++ st) S2 Q) else False := zg_67_29
theorem zh_67_32 {x : Int} : Zgo d 67 32 (L) (zi x :: st) (I, R, al) Q ↔ if zw x = zw 0 then Zgo d 67 35 (L) (st) (I, R, al) Q else Zgo d 67 42 (L) (st) (I, R, al) Q := zg_67_32
theorem zh_67_35 {x : Option (Nat × Nat)} : Zgo d 67 35 (some (zq x) :: L) (st) (I, R, al) Q ↔ Zgo d 67 36 (some (zq x) :: L) (zq x :: st) (I, R, al) Q := zg_67_35
theorem zh_67_36 : Zgo d 67 36 (L) (st) (I, R, al) Q ↔ Zgo d 67 37 (L) (zi 5 :: st) (I, R, al) Q := zg_67_36
theorem zh_67_37 : Zgo d 67 37 (L) (st) (I, R, al) Q ↔ Zgo d 67 38 (L) (zi 0 :: st) (I, R, al) Q := zg_67_37
theorem zh_67_38 {v1 v2 : zV} {o : Nat} : Zgo d 67 38 (L) (v2 :: v1 :: zq (some (10, o)) :: st) (I, R, al) Q ↔ if zwt st ≤ 8 then zCp d 64 [zq (some (10, o)), v1, v2] (I, R, al) (fun r S2 => Zgo d 67 41 L (r.toList ++ st) S2 Q) else False := zg_67_38
theorem zh_67_41 {x : Option (Nat × Nat)} : Zgo d 67 41 (L) (zq x :: []) (I, R, al) Q ↔ Q (some (zq x)) (I, R, al) := zg_67_41
theorem zh_67_42 {x : Option (Nat × Nat)} : Zgo d 67 42 (some (zq x) :: L) (st) (I, R, al) Q ↔ Zgo d 67 43 (some (zq x) :: L) (zq x :: st) (I, R, al) Q := zg_67_42
theorem zh_67_43 {o : Nat} : Zgo d 67 43 (L) (zq (some (10, o)) :: st) (I, R, al) Q ↔ Zgo d 67 46 (L) (zq (R 10 o 9) :: st) (I, R, al) Q := zg_67_43
theorem zh_67_46 {o : Nat} : Zgo d 67 46 (L) (zq (some (7, o)) :: st) (I, R, al) Q ↔ Zgo d 67 49 (L) (zq (R 7 o 3) :: st) (I, R, al) Q := zg_67_46
theorem zh_67_49 {o : Nat} : Zgo d 67 49 (L) (zq (some (6, o)) :: st) (I, R, al) Q ↔ Zgo d 67 52 (L) (zi (I 6 o 3) :: st) (I, R, al) Q := zg_67_49
theorem zh_67_52 {x : Int} : Zgo d 67 52 (L) (zi x :: st) (I, R, al) Q ↔ if zw x = zw 0 then Zgo d 67 55 (L) (st) (I, R, al) Q else Zgo d 67 59 (L) (st) (I, R, al) Q := zg_67_52
theorem zh_67_55 : Zgo d 67 55 (L) (st) (I, R, al) Q ↔ Zgo d 67 58 (L) (zq (some (90, 0)) :: st) (I, R, al) Q := zg_67_55
theorem zh_67_58 {x : Option (Nat × Nat)} : Zgo d 67 58 (L) (zq x :: []) (I, R, al) Q ↔ Q (some (zq x)) (I, R, al) := zg_67_58
theorem zh_67_59 {x : Option (Nat × Nat)} : Zgo d 67 59 (some (zq x) :: L) (st) (I, R, al) Q ↔ Zgo d 67 60 (some (zq x) :: L) (zq x :: st) (I, R, al) Q := zg_67_59
theorem zh_67_60 {x : Option (Nat × Nat)} : Zgo d 67 60 (a0 :: some (zq x) :: L) (st) (I, R, al) Q ↔ Zgo d 67 61 (a0 :: some (zq x) :: L) (zq x :: st) (I, R, al) Q := zg_67_60
theorem zh_67_61 {o : Nat} : Zgo d 67 61 (L) (zq (some (4, o)) :: st) (I, R, al) Q ↔ Zgo d 67 64 (L) (zq (R 4 o 7) :: st) (I, R, al) Q := zg_67_61
theorem zh_67_64 {x : Int} : Zgo d 67 64 (a0 :: a1 :: some (zi x) :: L) (st) (I, R, al) Q ↔ Zgo d 67 65 (a0 :: a1 :: some (zi x) :: L) (zi x :: st) (I, R, al) Q := zg_67_64
theorem zh_67_65 {v1 v2 : zV} {o : Nat} : Zgo d 67 65 (L) (v2 :: v1 :: zq (some (10, o)) :: st) (I, R, al) Q ↔ if zwt st ≤ 8 then zCp d 59 [zq (some (10, o)), v1, v2] (I, R, al) (fun r S2 => Zgo d 67 68 L (r.toList ++ st) S2 Q) else False := zg_67_65
theorem zh_67_68 {x : Option (Nat × Nat)} : Zgo d 67 68 (a0 :: a1 :: a2 :: b0 :: L) (zq x :: st) (I, R, al) Q ↔ Zgo d 67 69 (a0 :: a1 :: zkl a2 :: some (zq x) :: L) (st) (I, R, al) Q := zg_67_68
theorem zh_67_69 {x : Option (Nat × Nat)} : Zgo d 67 69 (a0 :: a1 :: a2 :: some (zq x) :: L) (st) (I, R, al) Q ↔ Zgo d 67 70 (a0 :: a1 :: a2 :: some (zq x) :: L) (zq x :: st) (I, R, al) Q := zg_67_69
theorem zh_67_70 : Zgo d 67 70 (L) (st) (I, R, al) Q ↔ Zgo d 67 73 (L) (zq (some (90, 1)) :: st) (I, R, al) Q := zg_67_70
theorem zh_67_73 {c i j : Nat} : Zgo d 67 73 (L) (zq (some (c, j)) :: zq (some (c, i)) :: st) (I, R, al) Q ↔ (if i = j then Zgo d 67 76 (L) (st) (I, R, al) Q else Zgo d 67 80 (L) (st) (I, R, al) Q) := zg_67_73.trans (Iff.of_eq zs_same0)
theorem zh_67_73n : Zgo d 67 73 (L) (zq none :: zq none :: st) (I, R, al) Q ↔ Zgo d 67 76 (L) (st) (I, R, al) Q := zg_67_73
theorem zh_67_73l {q : Nat × Nat} : Zgo d 67 73 (L) (zq (some q) :: zq none :: st) (I, R, al) Q ↔ Zgo d 67 80 (L) (st) (I, R, al) Q := zg_67_73
theorem zh_67_73r {q : Nat × Nat} : Zgo d 67 73 (L) (zq none :: zq (some q) :: st) (I, R, al) Q ↔ Zgo d 67 80 (L) (st) (I, R, al) Q := zg_67_73
theorem zh_67_76 : Zgo d 67 76 (L) (st) (I, R, al) Q ↔ Zgo d 67 79 (L) (zq (some (90, 0)) :: st) (I, R, al) Q := zg_67_76
theorem zh_67_79 {x : Option (Nat × Nat)} : Zgo d 67 79 (L) (zq x :: []) (I, R, al) Q ↔ Q (some (zq x)) (I, R, al) := zg_67_79
theorem zh_67_80 {x : Option (Nat × Nat)} : Zgo d 67 80 (a0 :: a1 :: a2 :: some (zq x) :: L) (st) (I, R, al) Q ↔ Zgo d 67 81 (a0 :: a1 :: a2 :: some (zq x) :: L) (zq x :: st) (I, R, al) Q := zg_67_80
theorem zh_67_81 : Zgo d 67 81 (L) (st) (I, R, al) Q ↔ Zgo d 67 84 (L) (zq (some (90, 0)) :: st) (I, R, al) Q := zg_67_81
theorem zh_67_84 {c i j : Nat} : Zgo d 67 84 (L) (zq (some (c, j)) :: zq (some (c, i)) :: st) (I, R, al) Q ↔ (if i = j then Zgo d 67 96 (L) (st) (I, R, al) Q else Zgo d 67 87 (L) (st) (I, R, al) Q) := zg_67_84.trans (Iff.of_eq zs_same0)
theorem zh_67_84n : Zgo d 67 84 (L) (zq none :: zq none :: st) (I, R, al) Q ↔ Zgo d 67 96 (L) (st) (I, R, al) Q := zg_67_84
theorem zh_67_84l {q : Nat × Nat} : Zgo d 67 84 (L) (zq (some q) :: zq none :: st) (I, R, al) Q ↔ Zgo d 67 87 (L) (st) (I, R, al) Q := zg_67_84
theorem zh_67_84r {q : Nat × Nat} : Zgo d 67 84 (L) (zq none :: zq (some q) :: st) (I, R, al) Q ↔ Zgo d 67 87 (L) (st) (I, R, al) Q := zg_67_84
theorem zh_67_87 {x : Option (Nat × Nat)} : Zgo d 67 87 (a0 :: a1 :: a2 :: some (zq x) :: L) (st) (I, R, al) Q ↔ Zgo d 67 88 (a0 :: a1 :: a2 :: some (zq x) :: L) (zq x :: st) (I, R, al) Q := zg_67_87
theorem zh_67_88 : Zgo d 67 88 (L) (st) (I, R, al) Q ↔ Zgo d 67 91 (L) (zq (some (90, 2)) :: st) (I, R, al) Q := zg_67_88
theorem zh_67_91 {c i j : Nat} : Zgo d 67 91 (L) (zq (some (c, j)) :: zq (some (c, i)) :: st) (I, R, al) Q ↔ (if i = j then Zgo d 67 96 (L) (st) (I, R, al) Q else Zgo d 67 94 (L) (st) (I, R, al) Q) := zg_67_91.trans (Iff.of_eq zs_same0)
theorem zh_67_91n : Zgo d 67 91 (L) (zq none :: zq none :: st) (I, R, al) Q ↔ Zgo d 67 96 (L) (st) (I, R, al) Q := zg_67_91
theorem zh_67_91l {q : Nat × Nat} : Zgo d 67 91 (L) (zq (some q) :: zq none :: st) (I, R, al) Q ↔ Zgo d 67 94 (L) (st) (I, R, al) Q := zg_67_91
theorem zh_67_91r {q : Nat × Nat} : Zgo d 67 91 (L) (zq none :: zq (some q) :: st) (I, R, al) Q ↔ Zgo d 67 94 (L) (st) (I, R, al) Q := zg_67_91
theorem zh_67_94 {x : Option (Nat × Nat)} : Zgo d 67 94 (a0 :: a1 :: a2 :: some (zq x) :: L) (st) (I, R, al) Q ↔ Zgo d 67 95 (a0 :: a1 :: a2 :: some (zq x) :: L) (zq x :: st) (I, R, al) Q := zg_67_94
theorem zh_67_95 {x : Option (Nat × Nat)} : Zgo d 67 95 (L) (zq x :: []) (I, R, al) Q ↔ Q (some (zq x)) (I, R, al) := zg_67_95
theorem zh_67_96 : Zgo d 67 96 (L) (st) (I, R, al) Q ↔ Zgo d 67 0 (L) (st) (I, R, al) Q := zg_67_96
theorem zh_67_99 : Zgo d 67 99 (L) (st) (I, R, al) Q ↔ Zgo d 67 102 (L) (zq (some (90, 5)) :: st) (I, R, al) Q := zg_67_99
theorem zh_67_102 {x : Option (Nat × Nat)} : Zgo d 67 102 (L) (zq x :: []) (I, R, al) Q ↔ Q (some (zq x)) (I, R, al) := zg_67_102
theorem zh_68_0 {x : Option (Nat × Nat)} : Zgo d 68 0 (some (zq x) :: L) (st) (I, R, al) Q ↔ Zgo d 68 1 (some (zq x) :: L) (zq x :: st) (I, R, al) Q := zg_68_0
theorem zh_68_1 {o : Nat} : Zgo d 68 1 (L) (zq (some (10, o)) :: st) (I, R, al) Q ↔ Zgo d 68 4 (L) (zq (R 10 o 9) :: st) (I, R, al) Q := zg_68_1
theorem zh_68_4 {o : Nat} : Zgo d 68 4 (L) (zq (some (7, o)) :: st) (I, R, al) Q ↔ Zgo d 68 7 (L) (zq (R 7 o 3) :: st) (I, R, al) Q := zg_68_4
theorem zh_68_7 {x : Option (Nat × Nat)} : Zgo d 68 7 (a0 :: some (zq x) :: L) (st) (I, R, al) Q ↔ Zgo d 68 8 (a0 :: some (zq x) :: L) (zq x :: st) (I, R, al) Q := zg_68_7
theorem zh_68_8 {x : Option (Nat × Nat)} : Zgo d 68 8 (some (zq x) :: L) (st) (I, R, al) Q ↔ Zgo d 68 9 (some (zq x) :: L) (zq x :: st) (I, R, al) Q := zg_68_8
theorem zh_68_9 {o : Nat} : Zgo d 68 9 (L) (zq (some (10, o)) :: st) (I, R, al) Q ↔ Zgo d 68 12 (L) (zq (R 10 o 0) :: st) (I, R, al) Q := zg_68_9
theorem zh_68_12 {v1 v2 : zV} {o : Nat} : Zgo d 68 12 (L) (v2 :: v1 :: zq (some (6, o)) :: st) (I, R, al) Q ↔ if zwt st ≤ 8 then zCp d 62 [zq (some (6, o)), v1, v2] (I, R, al) (fun r S2 => Zgo d 68 15 L (r.toList ++ st) S2 Q) else False := zg_68_12
theorem zh_68_15 {x : Int} : Zgo d 68 15 (L) (zi x :: st) (I, R, al) Q ↔ if zw x = zw 0 then Zgo d 68 18 (L) (st) (I, R, al) Q else Zgo d 68 25 (L) (st) (I, R, al) Q := zg_68_15
theorem zh_68_18 {x : Option (Nat × Nat)} : Zgo d 68 18 (some (zq x) :: L) (st) (I, R, al) Q ↔ Zgo d 68 19 (some (zq x) :: L) (zq x :: st) (I, R, al) Q := zg_68_18
theorem zh_68_19 : Zgo d 68 19 (L) (st) (I, R, al) Q ↔ Zgo d 68 20 (L) (zi 5 :: st) (I, R, al) Q := zg_68_19
theorem zh_68_20 : Zgo d 68 20 (L) (st) (I, R, al) Q ↔ Zgo d 68 21 (L) (zi 0 :: st) (I, R, al) Q := zg_68_20
theorem zh_68_21 {v1 v2 : zV} {o : Nat} : Zgo d 68 21 (L) (v2 :: v1 :: zq (some (10, o)) :: st) (I, R, al) Q ↔ if zwt st ≤ 8 then zCp d 64 [zq (some (10, o)), v1, v2] (I, R, al) (fun r S2 => Zgo d 68 24 L (r.toList ++ st) S2 Q) else False := zg_68_21
theorem zh_68_24 {x : Option (Nat × Nat)} : Zgo d 68 24 (L) (zq x :: []) (I, R, al) Q ↔ Q (some (zq x)) (I, R, al) := zg_68_24
theorem zh_68_25 {x : Option (Nat × Nat)} : Zgo d 68 25 (some (zq x) :: L) (st) (I, R, al) Q ↔ Zgo d 68 26 (some (zq x) :: L) (zq x :: st) (I, R, al) Q := zg_68_25
theorem zh_68_26 {x : Option (Nat × Nat)} : Zgo d 68 26 (a0 :: some (zq x) :: L) (st) (I, R, al) Q ↔ Zgo d 68 27 (a0 :: some (zq x) :: L) (zq x :: st) (I, R, al) Q := zg_68_26
theorem zh_68_27 {o : Nat} : Zgo d 68 27 (L) (zq (some (4, o)) :: st) (I, R, al) Q ↔ Zgo d 68 30 (L) (zi (I 4 o 1) :: st) (I, R, al) Q := zg_68_27
theorem zh_68_30 {x : Option (Nat × Nat)} : Zgo d 68 30 (some (zq x) :: L) (st) (I, R, al) Q ↔ Zgo d 68 31 (some (zq x) :: L) (zq x :: st) (I, R, al) Q := zg_68_30
theorem zh_68_31 {o : Nat} : Zgo d 68 31 (L) (zq (some (10, o)) :: st) (I, R, al) Q ↔ Zgo d 68 34 (L) (zq (R 10 o 9) :: st) (I, R, al) Q := zg_68_31
theorem zh_68_34 {o : Nat} : Zgo d 68 34 (L) (zq (some (7, o)) :: st) (I, R, al) Q ↔ Zgo d 68 37 (L) (zq (R 7 o 3) :: st) (I, R, al) Q := zg_68_34
theorem zh_68_37 {o : Nat} : Zgo d 68 37 (L) (zq (some (6, o)) :: st) (I, R, al) Q ↔ Zgo d 68 40 (L) (zi (I 6 o 3) :: st) (I, R, al) Q := zg_68_37
theorem zh_68_40 {v1 v2 : zV} {o : Nat} : Zgo d 68 40 (L) (v2 :: v1 :: zq (some (10, o)) :: st) (I, R, al) Q ↔ if zwt st ≤ 8 then zCp d 64 [zq (some (10, o)), v1, v2] (I, R, al) (fun r S2 => Zgo d 68 43 L (r.toList ++ st) S2 Q) else False := zg_68_40
theorem zh_68_43 {x : Option (Nat × Nat)} : Zgo d 68 43 (L) (zq x :: []) (I, R, al) Q ↔ Q (some (zq x)) (I, R, al) := zg_68_43
theorem zh_69_0 {x : Option (Nat × Nat)} : Zgo d 69 0 (some (zq x) :: L) (st) (I, R, al) Q ↔ Zgo d 69 1 (some (zq x) :: L) (zq x :: st) (I, R, al) Q := zg_69_0
theorem zh_69_1 {o : Nat} : Zgo d 69 1 (L) (zq (some (10, o)) :: st) (I, R, al) Q ↔ Zgo d 69 4 (L) (zi (I 10 o 10) :: st) (I, R, al) Q := zg_69_1
theorem zh_69_4 : Zgo d 69 4 (L) (st) (I, R, al) Q ↔ Zgo d 69 6 (L) (zi 8 :: st) (I, R, al) Q := zg_69_4
theorem zh_69_6 {x y : Int} : Zgo d 69 6 (L) (zi y :: zi x :: st) (I, R, al) Q ↔ if zw x = zw y then Zgo d 69 9 (L) (st) (I, R, al) Q else Zgo d 69 17 (L) (st) (I, R, al) Q := zg_69_6
theorem zh_69_9 {x : Option (Nat × Nat)} : Zgo d 69 9 (some (zq x) :: L) (st) (I, R, al) Q ↔ Zgo d 69 10 (some (zq x) :: L) (zq x :: st) (I, R, al) Q := zg_69_9
theorem zh_69_10 : Zgo d 69 10 (L) (st) (I, R, al) Q ↔ Zgo d 69 12 (L) (zi 6 :: st) (I, R, al) Q := zg_69_10
theorem zh_69_12 : Zgo d 69 12 (L) (st) (I, R, al) Q ↔ Zgo d 69 13 (L) (zi 0 :: st) (I, R, al) Q := zg_69_12
theorem zh_69_13 {v1 v2 : zV} {o : Nat} : Zgo d 69 13 (L) (v2 :: v1 :: zq (some (10, o)) :: st) (I, R, al) Q ↔ if zwt st ≤ 8 then zCp d 64 [zq (some (10, o)), v1, v2] (I, R, al) (fun r S2 => Zgo d 69 16 L (r.toList ++ st) S2 Q) else False := zg_69_13
theorem zh_69_16 {x : Option (Nat × Nat)} : Zgo d 69 16 (L) (zq x :: []) (I, R, al) Q ↔ Q (some (zq x)) (I, R, al) := zg_69_16
theorem zh_69_17 {x : Option (Nat × Nat)} : Zgo d 69 17 (some (zq x) :: L) (st) (I, R, al) Q ↔ Zgo d 69 18 (some (zq x) :: L) (zq x :: st) (I, R, al) Q := zg_69_17
theorem zh_69_18 {x : Int} : Zgo d 69 18 (L) (zi x :: st) (I, R, al) Q ↔ Zgo d 69 19 (L) (zi x :: zi x :: st) (I, R, al) Q := zg_69_18
theorem zh_69_18q {u : Option (Nat × Nat)} : Zgo d 69 18 (L) (zq u :: st) (I, R, al) Q ↔ Zgo d 69 19 (L) (zq u :: zq u :: st) (I, R, al) Q := zg_69_18
theorem zh_69_19 {o : Nat} : Zgo d 69 19 (L) (zq (some (10, o)) :: st) (I, R, al) Q ↔ Zgo d 69 22 (L) (zi (I 10 o 10) :: st) (I, R, al) Q := zg_69_19
theorem zh_69_22 : Zgo d 69 22 (L) (st) (I, R, al) Q ↔ Zgo d 69 23 (L) (zi 1 :: st) (I, R, al) Q := zg_69_22
theorem zh_69_23 {x y : Int} : Zgo d 69 23 (L) (zi y :: zi x :: st) (I, R, al) Q ↔ Zgo d 69 24 (L) (zi (x + y) :: st) (I, R, al) Q := zg_69_23
theorem zh_69_24 {o : Nat} {v : Int} : Zgo d 69 24 (L) (zi v :: zq (some (10, o)) :: st) (I, R, al) Q ↔ Zgo d 69 27 (L) (st) (zsI I 10 o 10 v, R, al) Q := zg_69_24
theorem zh_69_27 {x : Option (Nat × Nat)} : Zgo d 69 27 (some (zq x) :: L) (st) (I, R, al) Q ↔ Zgo d 69 28 (some (zq x) :: L) (zq x :: st) (I, R, al) Q := zg_69_27
theorem zh_69_28 {x : Option (Nat × Nat)} : Zgo d 69 28 (some (zq x) :: L) (st) (I, R, al) Q ↔ Zgo d 69 29 (some (zq x) :: L) (zq x :: st) (I, R, al) Q := zg_69_28
theorem zh_69_29 {o : Nat} : Zgo d 69 29 (L) (zq (some (10, o)) :: st) (I, R, al) Q ↔ Zgo d 69 32 (L) (zi (I 10 o 6) :: st) (I, R, al) Q := zg_69_29
theorem zh_69_32 {x : Option (Nat × Nat)} : Zgo d 69 32 (some (zq x) :: L) (st) (I, R, al) Q ↔ Zgo d 69 33 (some (zq x) :: L) (zq x :: st) (I, R, al) Q := zg_69_32
theorem zh_69_33 {o : Nat} : Zgo d 69 33 (L) (zq (some (10, o)) :: st) (I, R, al) Q ↔ Zgo d 69 36 (L) (zi (I 10 o 10) :: st) (I, R, al) Q := zg_69_33
theorem zh_69_36 {v0 v1 : zV} : Zgo d 69 36 (L) (v1 :: v0 :: st) (I, R, al) Q ↔ if zwt st ≤ 8 then zCp d 901 [v0, v1] (I, R, al) (fun r S2 => Zgo d 69 39 L (r.toList ++ st) S2 Q) else False := zg_69_36
theorem zh_69_39 {o : Nat} {v : Int} : Zgo d 69 39 (L) (zi v :: zq (some (10, o)) :: st) (I, R, al) Q ↔ Zgo d 69 42 (L) (st) (zsI I 10 o 6 v, R, al) Q := zg_69_39
theorem zh_69_42 {x : Option (Nat × Nat)} : Zgo d 69 42 (some (zq x) :: L) (st) (I, R, al) Q ↔ Zgo d 69 43 (some (zq x) :: L) (zq x :: st) (I, R, al) Q := zg_69_42
theorem zh_69_43 {x : Option (Nat × Nat)} : Zgo d 69 43 (a0 :: some (zq x) :: L) (st) (I, R, al) Q ↔ Zgo d 69 44 (a0 :: some (zq x) :: L) (zq x :: st) (I, R, al) Q := zg_69_43
theorem zh_69_44 {o : Nat} : Zgo d 69 44 (L) (zq (some (4, o)) :: st) (I, R, al) Q ↔ Zgo d 69 47 (L) (zq (R 4 o 7) :: st) (I, R, al) Q := zg_69_44
theorem zh_69_47 : Zgo d 69 47 (L) (st) (I, R, al) Q ↔ Zgo d 69 48 (L) (zi 0 :: st) (I, R, al) Q := zg_69_47
theorem zh_69_48 {v1 v2 : zV} {o : Nat} : Zgo d 69 48 (L) (v2 :: v1 :: zq (some (10, o)) :: st) (I, R, al) Q ↔ if zwt st ≤ 8 then zCp d 59 [zq (some (10, o)), v1, v2] (I, R, al) (fun r S2 => Zgo d 69 51 L (r.toList ++ st) S2 Q) else False := zg_69_48
theorem zh_69_51 {x : Option (Nat × Nat)} : Zgo d 69 51 (a0 :: a1 :: b0 :: L) (zq x :: st) (I, R, al) Q ↔ Zgo d 69 52 (a0 :: zkl a1 :: some (zq x) :: L) (st) (I, R, al) Q := zg_69_51
theorem zh_69_52 {x : Option (Nat × Nat)} : Zgo d 69 52 (some (zq x) :: L) (st) (I, R, al) Q ↔ Zgo d 69 53 (some (zq x) :: L) (zq x :: st) (I, R, al) Q := zg_69_52
theorem zh_69_53 {x : Int} : Zgo d 69 53 (L) (zi x :: st) (I, R, al) Q ↔ Zgo d 69 54 (L) (zi x :: zi x :: st) (I, R, al) Q := zg_69_53
theorem zh_69_53q {u : Option (Nat × Nat)} : Zgo d 69 53 (L) (zq u :: st) (I, R, al) Q ↔ Zgo d 69 54 (L) (zq u :: zq u :: st) (I, R, al) Q := zg_69_53
theorem zh_69_54 {o : Nat} : Zgo d 69 54 (L) (zq (some (10, o)) :: st) (I, R, al) Q ↔ Zgo d 69 57 (L) (zi (I 10 o 10) :: st) (I, R, al) Q := zg_69_54
theorem zh_69_57 : Zgo d 69 57 (L) (st) (I, R, al) Q ↔ Zgo d 69 58 (L) (zi 1 :: st) (I, R, al) Q := zg_69_57
theorem zh_69_58 {x y : Int} : Zgo d 69 58 (L) (zi y :: zi x :: st) (I, R, al) Q ↔ Zgo d 69 59 (L) (zi (x - y) :: st) (I, R, al) Q := zg_69_58
theorem zh_69_59 {o : Nat} {v : Int} : Zgo d 69 59 (L) (zi v :: zq (some (10, o)) :: st) (I, R, al) Q ↔ Zgo d 69 62 (L) (st) (zsI I 10 o 10 v, R, al) Q := zg_69_59
theorem zh_69_62 {x : Option (Nat × Nat)} : Zgo d 69 62 (a0 :: a1 :: some (zq x) :: L) (st) (I, R, al) Q ↔ Zgo d 69 63 (a0 :: a1 :: some (zq x) :: L) (zq x :: st) (I, R, al) Q := zg_69_62
theorem zh_69_63 : Zgo d 69 63 (L) (st) (I, R, al) Q ↔ Zgo d 69 66 (L) (zq (some (90, 3)) :: st) (I, R, al) Q := zg_69_63
theorem zh_69_66 {c i j : Nat} : Zgo d 69 66 (L) (zq (some (c, j)) :: zq (some (c, i)) :: st) (I, R, al) Q ↔ (if i = j then Zgo d 69 69 (L) (st) (I, R, al) Q else Zgo d 69 75 (L) (st) (I, R, al) Q) := zg_69_66.trans (Iff.of_eq zs_same0)
theorem zh_69_66n : Zgo d 69 66 (L) (zq none :: zq none :: st) (I, R, al) Q ↔ Zgo d 69 69 (L) (st) (I, R, al) Q := zg_69_66
theorem zh_69_66l {q : Nat × Nat} : Zgo d 69 66 (L) (zq (some q) :: zq none :: st) (I, R, al) Q ↔ Zgo d 69 75 (L) (st) (I, R, al) Q := zg_69_66
theorem zh_69_66r {q : Nat × Nat} : Zgo d 69 66 (L) (zq none :: zq (some q) :: st) (I, R, al) Q ↔ Zgo d 69 75 (L) (st) (I, R, al) Q := zg_69_66
theorem zh_69_69 : Zgo d 69 69 (L) (st) (I, R, al) Q ↔ Zgo d 69 72 (L) (zq (some (90, 0)) :: st) (I, R, al) Q := zg_69_69
theorem zh_69_72 : Zgo d 69 72 (L) (st) (I, R, al) Q ↔ Zgo d 69 76 (L) (st) (I, R, al) Q := zg_69_72
theorem zh_69_75 {x : Option (Nat × Nat)} : Zgo d 69 75 (a0 :: a1 :: some (zq x) :: L) (st) (I, R, al) Q ↔ Zgo d 69 76 (a0 :: a1 :: some (zq x) :: L) (zq x :: st) (I, R, al) Q := zg_69_75
theorem zh_69_76 {x : Option (Nat × Nat)} : Zgo d 69 76 (L) (zq x :: []) (I, R, al) Q ↔ Q (some (zq x)) (I, R, al) := zg_69_76
theorem zh_70_0 {x : Option (Nat × Nat)} : Zgo d 70 0 (some (zq x) :: L) (st) (I, R, al) Q ↔ Zgo d 70 1 (some (zq x) :: L) (zq x :: st) (I, R, al) Q := zg_70_0
theorem zh_70_1 {x : Option (Nat × Nat)} : Zgo d 70 1 (a0 :: some (zq x) :: L) (st) (I, R, al) Q ↔ Zgo d 70 2 (a0 :: some (zq x) :: L) (zq x :: st) (I, R, al) Q := zg_70_1
theorem zh_70_2 {o : Nat} : Zgo d 70 2 (L) (zq (some (4, o)) :: st) (I, R, al) Q ↔ Zgo d 70 5 (L) (zq (R 4 o 7) :: st) (I, R, al) Q := zg_70_2
theorem zh_70_5 {x : Int} : Zgo d 70 5 (a0 :: a1 :: some (zi x) :: L) (st) (I, R, al) Q ↔ Zgo d 70 6 (a0 :: a1 :: some (zi x) :: L) (zi x :: st) (I, R, al) Q := zg_70_5
theorem zh_70_6 {v1 v2 : zV} {o : Nat} : Zgo d 70 6 (L) (v2 :: v1 :: zq (some (10, o)) :: st) (I, R, al) Q ↔ if zwt st ≤ 8 then zCp d 59 [zq (some (10, o)), v1, v2] (I, R, al) (fun r S2 => Zgo d 70 9 L (r.toList ++ st) S2 Q) else False := zg_70_6
theorem zh_70_9 {x : Option (Nat × Nat)} : Zgo d 70 9 (a0 :: a1 :: a2 :: b0 :: L) (zq x :: st) (I, R, al) Q ↔ Zgo d 70 10 (a0 :: a1 :: zkl a2 :: some (zq x) :: L) (st) (I, R, al) Q := zg_70_9
theorem zh_70_10 {x : Option (Nat × Nat)} : Zgo d 70 10 (a0 :: a1 :: a2 :: some (zq x) :: L) (st) (I, R, al) Q ↔ Zgo d 70 11 (a0 :: a1 :: a2 :: some (zq x) :: L) (zq x :: st) (I, R, al) Q := zg_70_10
theorem zh_70_11 : Zgo d 70 11 (L) (st) (I, R, al) Q ↔ Zgo d 70 14 (L) (zq (some (90, 4)) :: st) (I, R, al) Q := zg_70_11
theorem zh_70_14 {c i j : Nat} : Zgo d 70 14 (L) (zq (some (c, j)) :: zq (some (c, i)) :: st) (I, R, al) Q ↔ (if i = j then Zgo d 70 17 (L) (st) (I, R, al) Q else Zgo d 70 28 (L) (st) (I, R, al) Q) := zg_70_14.trans (Iff.of_eq zs_same0)
theorem zh_70_14n : Zgo d 70 14 (L) (zq none :: zq none :: st) (I, R, al) Q ↔ Zgo d 70 17 (L) (st) (I, R, al) Q := zg_70_14
theorem zh_70_14l {q : Nat × Nat} : Zgo d 70 14 (L) (zq (some q) :: zq none :: st) (I, R, al) Q ↔ Zgo d 70 28 (L) (st) (I, R, al) Q := zg_70_14
theorem zh_70_14r {q : Nat × Nat} : Zgo d 70 14 (L) (zq none :: zq (some q) :: st) (I, R, al) Q ↔ Zgo d 70 28 (L) (st) (I, R, al) Q := zg_70_14
theorem zh_70_17 {x : Option (Nat × Nat)} : Zgo d 70 17 (a0 :: some (zq x) :: L) (st) (I, R, al) Q ↔ Zgo d 70 18 (a0 :: some (zq x) :: L) (zq x :: st) (I, R, al) Q := zg_70_17
theorem zh_70_18 {x : Option (Nat × Nat)} : Zgo d 70 18 (some (zq x) :: L) (st) (I, R, al) Q ↔ Zgo d 70 19 (some (zq x) :: L) (zq x :: st) (I, R, al) Q := zg_70_18
theorem zh_70_19 {o : Nat} : Zgo d 70 19 (L) (zq (some (10, o)) :: st) (I, R, al) Q ↔ Zgo d 70 22 (L) (zi (I 10 o 7) :: st) (I, R, al) Q := zg_70_19
theorem zh_70_22 {v1 : zV} {o : Nat} : Zgo d 70 22 (L) (v1 :: zq (some (4, o)) :: st) (I, R, al) Q ↔ if zwt st ≤ 8 then zCp d 41 [zq (some (4, o)), v1] (I, R, al) (fun r S2 => Zgo d 70 25 L (r.toList ++ st) S2 Q) else False := zg_70_22
theorem zh_70_25 : Zgo d 70 25 (L) (st) (I, R, al) Q ↔ Zgo d 70 29 (L) (st) (I, R, al) Q := zg_70_25
theorem zh_70_28 : Zgo d 70 28 (L) (st) (I, R, al) Q ↔ Zgo d 70 29 (L) (zq none :: st) (I, R, al) Q := zg_70_28
theorem zh_70_29 {x : Option (Nat × Nat)} : Zgo d 70 29 (a0 :: a1 :: a2 :: a3 :: b0 :: L) (zq x :: st) (I, R, al) Q ↔ Zgo d 70 31 (a0 :: a1 :: a2 :: zkl a3 :: some (zq x) :: L) (st) (I, R, al) Q := zg_70_29
theorem zh_70_31 {x : Option (Nat × Nat)} : Zgo d 70 31 (a0 :: a1 :: a2 :: a3 :: some (zq x) :: L) (st) (I, R, al) Q ↔ Zgo d 70 33 (a0 :: a1 :: a2 :: a3 :: some (zq x) :: L) (zq x :: st) (I, R, al) Q := zg_70_31
theorem zh_70_33n : Zgo d 70 33 (L) (zq none :: st) (I, R, al) Q ↔ Zgo d 70 64 (L) (st) (I, R, al) Q := zg_70_33
theorem zh_70_33 {q : Nat × Nat} : Zgo d 70 33 (L) (zq (some q) :: st) (I, R, al) Q ↔ Zgo d 70 36 (L) (st) (I, R, al) Q := zg_70_33
theorem zh_70_36 {x : Option (Nat × Nat)} : Zgo d 70 36 (some (zq x) :: L) (st) (I, R, al) Q ↔ Zgo d 70 37 (some (zq x) :: L) (zq x :: st) (I, R, al) Q := zg_70_36
theorem zh_70_37 {o : Nat} : Zgo d 70 37 (L) (zq (some (10, o)) :: st) (I, R, al) Q ↔ Zgo d 70 40 (L) (zq (R 10 o 0) :: st) (I, R, al) Q := zg_70_37
theorem zh_70_40 {x : Option (Nat × Nat)} : Zgo d 70 40 (a0 :: a1 :: a2 :: a3 :: some (zq x) :: L) (st) (I, R, al) Q ↔ Zgo d 70 42 (a0 :: a1 :: a2 :: a3 :: some (zq x) :: L) (zq x :: st) (I, R, al) Q := zg_70_40
theorem zh_70_42 {o : Nat} : Zgo d 70 42 (L) (zq (some (5, o)) :: st) (I, R, al) Q ↔ Zgo d 70 45 (L) (zi (I 5 o 1) :: st) (I, R, al) Q := zg_70_42
theorem zh_70_45 {x : Option (Nat × Nat)} : Zgo d 70 45 (some (zq x) :: L) (st) (I, R, al) Q ↔ Zgo d 70 46 (some (zq x) :: L) (zq x :: st) (I, R, al) Q := zg_70_45
theorem zh_70_46 {o : Nat} : Zgo d 70 46 (L) (zq (some (10, o)) :: st) (I, R, al) Q ↔ Zgo d 70 49 (L) (zi (I 10 o 8) :: st) (I, R, al) Q := zg_70_46
theorem zh_70_49 {v j : Int} {c o : Nat} : Zgo d 70 49 (L) (zi v :: zi j :: zq (some (c, o)) :: st) (I, R, al) Q ↔ zal (zArr c) 0 j (fun x => Zgo d 70 50 (L) (st) (zsI I c o x v, R, al) Q) := zg_70_49
theorem zh_70_50 {x : Option (Nat × Nat)} : Zgo d 70 50 (some (zq x) :: L) (st) (I, R, al) Q ↔ Zgo d 70 51 (some (zq x) :: L) (zq x :: st) (I, R, al) Q := zg_70_50
theorem zh_70_51 {x : Option (Nat × Nat)} : Zgo d 70 51 (a0 :: a1 :: a2 :: a3 :: some (zq x) :: L) (st) (I, R, al) Q ↔ Zgo d 70 53 (a0 :: a1 :: a2 :: a3 :: some (zq x) :: L) (zq x :: st) (I, R, al) Q := zg_70_51
theorem zh_70_53 {o : Nat} : Zgo d 70 53 (L) (zq (some (5, o)) :: st) (I, R, al) Q ↔ Zgo d 70 56 (L) (zq (R 5 o 2) :: st) (I, R, al) Q := zg_70_53
theorem zh_70_56 {x : Option (Nat × Nat)} : Zgo d 70 56 (some (zq x) :: L) (st) (I, R, al) Q ↔ Zgo d 70 57 (some (zq x) :: L) (zq x :: st) (I, R, al) Q := zg_70_56
theorem zh_70_57 {o : Nat} : Zgo d 70 57 (L) (zq (some (10, o)) :: st) (I, R, al) Q ↔ Zgo d 70 60 (L) (zi (I 10 o 8) :: st) (I, R, al) Q := zg_70_57
theorem zh_70_60 {v1 v2 : zV} {o : Nat} : Zgo d 70 60 (L) (v2 :: v1 :: zq (some (10, o)) :: st) (I, R, al) Q ↔ if zwt st ≤ 8 then zCp d 59 [zq (some (10, o)), v1, v2] (I, R, al) (fun r S2 => Zgo d 70 63 L (r.toList ++ st) S2 Q) else False := zg_70_60
theorem zh_70_63 {x : Option (Nat × Nat)} : Zgo d 70 63 (a0 :: a1 :: a2 :: b0 :: L) (zq x :: st) (I, R, al) Q ↔ Zgo d 70 64 (a0 :: a1 :: zkl a2 :: some (zq x) :: L) (st) (I, R, al) Q := zg_70_63
theorem zh_70_64 {x : Option (Nat × Nat)} : Zgo d 70 64 (a0 :: a1 :: a2 :: some (zq x) :: L) (st) (I, R, al) Q ↔ Zgo d 70 65 (a0 :: a1 :: a2 :: some (zq x) :: L) (zq x :: st) (I, R, al) Q := zg_70_64
theorem zh_70_65 : Zgo d 70 65 (L) (st) (I, R, al) Q ↔ Zgo d 70 68 (L) (zq (some (90, 5)) :: st) (I, R, al) Q := zg_70_65
theorem zh_70_68 {c i j : Nat} : Zgo d 70 68 (L) (zq (some (c, j)) :: zq (some (c, i)) :: st) (I, R, al) Q ↔ (if i = j then Zgo d 70 71 (L) (st) (I, R, al) Q else Zgo d 70 75 (L) (st) (I, R, al) Q) := zg_70_68.trans (Iff.of_eq zs_same0)
theorem zh_70_68n : Zgo d 70 68 (L) (zq none :: zq none :: st) (I, R, al) Q ↔ Zgo d 70 71 (L) (st) (I, R, al) Q := zg_70_68
theorem zh_70_68l {q : Nat × Nat} : Zgo d 70 68 (L) (zq (some q) :: zq none :: st) (I, R, al) Q ↔ Zgo d 70 75 (L) (st) (I, R, al) Q := zg_70_68
theorem zh_70_68r {q : Nat × Nat} : Zgo d 70 68 (L) (zq none :: zq (some q) :: st) (I, R, al) Q ↔ Zgo d 70 75 (L) (st) (I, R, al) Q := zg_70_68
theorem zh_70_71 {x : Option (Nat × Nat)} : Zgo d 70 71 (a0 :: a1 :: a2 :: some (zq x) :: L) (st) (I, R, al) Q ↔ Zgo d 70 72 (a0 :: a1 :: a2 :: some (zq x) :: L) (zq x :: st) (I, R, al) Q := zg_70_71
theorem zh_70_72 : Zgo d 70 72 (L) (st) (I, R, al) Q ↔ Zgo d 70 85 (L) (st) (I, R, al) Q := zg_70_72
theorem zh_70_75 {x : Option (Nat × Nat)} : Zgo d 70 75 (some (zq x) :: L) (st) (I, R, al) Q ↔ Zgo d 70 76 (some (zq x) :: L) (zq x :: st) (I, R, al) Q := zg_70_75
theorem zh_70_76 {x : Option (Nat × Nat)} : Zgo d 70 76 (a0 :: some (zq x) :: L) (st) (I, R, al) Q ↔ Zgo d 70 77 (a0 :: some (zq x) :: L) (zq x :: st) (I, R, al) Q := zg_70_76
theorem zh_70_77 {o : Nat} : Zgo d 70 77 (L) (zq (some (4, o)) :: st) (I, R, al) Q ↔ Zgo d 70 80 (L) (zq (R 4 o 8) :: st) (I, R, al) Q := zg_70_77
theorem zh_70_80 {x : Option (Nat × Nat)} : Zgo d 70 80 (a0 :: a1 :: a2 :: some (zq x) :: L) (st) (I, R, al) Q ↔ Zgo d 70 81 (a0 :: a1 :: a2 :: some (zq x) :: L) (zq x :: st) (I, R, al) Q := zg_70_80
theorem zh_70_81 {x : Int} : Zgo d 70 81 (a0 :: a1 :: some (zi x) :: L) (st) (I, R, al) Q ↔ Zgo d 70 82 (a0 :: a1 :: some (zi x) :: L) (zi x :: st) (I, R, al) Q := zg_70_81
theorem zh_70_82 {v1 v2 v3 : zV} {o : Nat} : Zgo d 70 82 (L) (v3 :: v2 :: v1 :: zq (some (10, o)) :: st) (I, R, al) Q ↔ if zwt st ≤ 8 then zCp d 71 [zq (some (10, o)), v1, v2, v3] (I, R, al) (fun r S2 => Zgo d 70 85 L (r.toList ++ st) S2 Q) else False := zg_70_82
theorem zh_70_85 {x : Option (Nat × Nat)} : Zgo d 70 85 (L) (zq x :: []) (I, R, al) Q ↔ Q (some (zq x)) (I, R, al) := zg_70_85
theorem zh_71_0 {x : Option (Nat × Nat)} : Zgo d 71 0 (some (zq x) :: L) (st) (I, R, al) Q ↔ Zgo d 71 1 (some (zq x) :: L) (zq x :: st) (I, R, al) Q := zg_71_0
theorem zh_71_1 {o : Nat} : Zgo d 71 1 (L) (zq (some (10, o)) :: st) (I, R, al) Q ↔ Zgo d 71 4 (L) (zi (I 10 o 7) :: st) (I, R, al) Q := zg_71_1
theorem zh_71_4 {x : Int} : Zgo d 71 4 (a0 :: a1 :: a2 :: a3 :: b0 :: L) (zi x :: st) (I, R, al) Q ↔ Zgo d 71 6 (a0 :: a1 :: a2 :: zkl a3 :: some (zi x) :: L) (st) (I, R, al) Q := zg_71_4
theorem zh_71_6 {x : Option (Nat × Nat)} : Zgo d 71 6 (some (zq x) :: L) (st) (I, R, al) Q ↔ Zgo d 71 7 (some (zq x) :: L) (zq x :: st) (I, R, al) Q := zg_71_6
theorem zh_71_7 {o : Nat} : Zgo d 71 7 (L) (zq (some (10, o)) :: st) (I, R, al) Q ↔ Zgo d 71 10 (L) (zi (I 10 o 8) :: st) (I, R, al) Q := zg_71_7
theorem zh_71_10 {x : Int} : Zgo d 71 10 (a0 :: a1 :: a2 :: a3 :: a4 :: b0 :: L) (zi x :: st) (I, R, al) Q ↔ Zgo d 71 12 (a0 :: a1 :: a2 :: a3 :: zkl a4 :: some (zi x) :: L) (st) (I, R, al) Q := zg_71_10
theorem zh_71_12 {x : Option (Nat × Nat)} : Zgo d 71 12 (some (zq x) :: L) (st) (I, R, al) Q ↔ Zgo d 71 13 (some (zq x) :: L) (zq x :: st) (I, R, al) Q := zg_71_12
theorem zh_71_13 {x : Option (Nat × Nat)} : Zgo d 71 13 (a0 :: some (zq x) :: L) (st) (I, R, al) Q ↔ Zgo d 71 14 (a0 :: some (zq x) :: L) (zq x :: st) (I, R, al) Q := zg_71_13
theorem zh_71_14 {x : Int} : Zgo d 71 14 (a0 :: a1 :: a2 :: some (zi x) :: L) (st) (I, R, al) Q ↔ Zgo d 71 15 (a0 :: a1 :: a2 :: some (zi x) :: L) (zi x :: st) (I, R, al) Q := zg_71_14
theorem zh_71_15 {v1 v2 : zV} {o : Nat} : Zgo d 71 15 (L) (v2 :: v1 :: zq (some (10, o)) :: st) (I, R, al) Q ↔ if zwt st ≤ 8 then zCp d 59 [zq (some (10, o)), v1, v2] (I, R, al) (fun r S2 => Zgo d 71 18 L (r.toList ++ st) S2 Q) else False := zg_71_15
theorem zh_71_18 {x : Option (Nat × Nat)} : Zgo d 71 18 (a0 :: a1 :: a2 :: a3 :: a4 :: a5 :: b0 :: L) (zq x :: st) (I, R, al) Q ↔ Zgo d 71 20 (a0 :: a1 :: a2 :: a3 :: a4 :: zkl a5 :: some (zq x) :: L) (st) (I, R, al) Q := zg_71_18
theorem zh_71_20 {x : Option (Nat × Nat)} : Zgo d 71 20 (a0 :: a1 :: a2 :: a3 :: a4 :: a5 :: some (zq x) :: L) (st) (I, R, al) Q ↔ Zgo d 71 22 (a0 :: a1 :: a2 :: a3 :: a4 :: a5 :: some (zq x) :: L) (zq x :: st) (I, R, al) Q := zg_71_20
theorem zh_71_22 : Zgo d 71 22 (L) (st) (I, R, al) Q ↔ Zgo d 71 25 (L) (zq (some (90, 0)) :: st) (I, R, al) Q := zg_71_22
theorem zh_71_25 {c i j : Nat} : Zgo d 71 25 (L) (zq (some (c, j)) :: zq (some (c, i)) :: st) (I, R, al) Q ↔ (if i = j then Zgo d 71 31 (L) (st) (I, R, al) Q else Zgo d 71 28 (L) (st) (I, R, al) Q) := zg_71_25.trans (Iff.of_eq zs_same0)
theorem zh_71_25n : Zgo d 71 25 (L) (zq none :: zq none :: st) (I, R, al) Q ↔ Zgo d 71 31 (L) (st) (I, R, al) Q := zg_71_25
theorem zh_71_25l {q : Nat × Nat} : Zgo d 71 25 (L) (zq (some q) :: zq none :: st) (I, R, al) Q ↔ Zgo d 71 28 (L) (st) (I, R, al) Q := zg_71_25
theorem zh_71_25r {q : Nat × Nat} : Zgo d 71 25 (L) (zq none :: zq (some q) :: st) (I, R, al) Q ↔ Zgo d 71 28 (L) (st) (I, R, al) Q := zg_71_25
theorem zh_71_28 {x : Option (Nat × Nat)} : Zgo d 71 28 (a0 :: a1 :: a2 :: a3 :: a4 :: a5 :: some (zq x) :: L) (st) (I, R, al) Q ↔ Zgo d 71 30 (a0 :: a1 :: a2 :: a3 :: a4 :: a5 :: some (zq x) :: L) (zq x :: st) (I, R, al) Q := zg_71_28
theorem zh_71_30 {x : Option (Nat × Nat)} : Zgo d 71 30 (L) (zq x :: []) (I, R, al) Q ↔ Q (some (zq x)) (I, R, al) := zg_71_30
theorem zh_71_31 {x : Option (Nat × Nat)} : Zgo d 71 31 (some (zq x) :: L) (st) (I, R, al) Q ↔ Zgo d 71 32 (some (zq x) :: L) (zq x :: st) (I, R, al) Q := zg_71_31
theorem zh_71_32 {x : Int} : Zgo d 71 32 (a0 :: a1 :: a2 :: a3 :: some (zi x) :: L) (st) (I, R, al) Q ↔ Zgo d 71 34 (a0 :: a1 :: a2 :: a3 :: some (zi x) :: L) (zi x :: st) (I, R, al) Q := zg_71_32
theorem zh_71_34 {o : Nat} {v : Int} : Zgo d 71 34 (L) (zi v :: zq (some (10, o)) :: st) (I, R, al) Q ↔ Zgo d 71 37 (L) (st) (zsI I 10 o 7 v, R, al) Q := zg_71_34
theorem zh_71_37 {x : Option (Nat × Nat)} : Zgo d 71 37 (some (zq x) :: L) (st) (I, R, al) Q ↔ Zgo d 71 38 (some (zq x) :: L) (zq x :: st) (I, R, al) Q := zg_71_37
theorem zh_71_38 {x : Int} : Zgo d 71 38 (a0 :: a1 :: a2 :: a3 :: a4 :: some (zi x) :: L) (st) (I, R, al) Q ↔ Zgo d 71 40 (a0 :: a1 :: a2 :: a3 :: a4 :: some (zi x) :: L) (zi x :: st) (I, R, al) Q := zg_71_38
theorem zh_71_40 {o : Nat} {v : Int} : Zgo d 71 40 (L) (zi v :: zq (some (10, o)) :: st) (I, R, al) Q ↔ Zgo d 71 43 (L) (st) (zsI I 10 o 8 v, R, al) Q := zg_71_40
theorem zh_71_43 {x : Option (Nat × Nat)} : Zgo d 71 43 (a0 :: a1 :: some (zq x) :: L) (st) (I, R, al) Q ↔ Zgo d 71 44 (a0 :: a1 :: some (zq x) :: L) (zq x :: st) (I, R, al) Q := zg_71_43
theorem zh_71_44 {x : Option (Nat × Nat)} : Zgo d 71 44 (L) (zq x :: []) (I, R, al) Q ↔ Q (some (zq x)) (I, R, al) := zg_71_44
theorem zh_72_0 {x : Option (Nat × Nat)} : Zgo d 72 0 (a0 :: a1 :: some (zq x) :: L) (st) (I, R, al) Q ↔ Zgo d 72 1 (a0 :: a1 :: some (zq x) :: L) (zq x :: st) (I, R, al) Q := zg_72_0
theorem zh_72_1 : Zgo d 72 1 (L) (st) (I, R, al) Q ↔ Zgo d 72 2 (L) (zi 0 :: st) (I, R, al) Q := zg_72_1
theorem zh_72_2 {x : Option (Nat × Nat)} : Zgo d 72 2 (some (zq x) :: L) (st) (I, R, al) Q ↔ Zgo d 72 3 (some (zq x) :: L) (zq x :: st) (I, R, al) Q := zg_72_2
theorem zh_72_3 {x : Int} : Zgo d 72 3 (a0 :: some (zi x) :: L) (st) (I, R, al) Q ↔ Zgo d 72 4 (a0 :: some (zi x) :: L) (zi x :: st) (I, R, al) Q := zg_72_3
theorem zh_72_7 {x : Int} : Zgo d 72 7 (L) (zi x :: st) (I, R, al) Q ↔ Zgo d 72 8 (L) (zl (zw x) :: st) (I, R, al) Q := zg_72_7
theorem zh_72_8 {v j : Int} {c o : Nat} : Zgo d 72 8 (L) (zl v :: zi j :: zq (some (c, o)) :: st) (I, R, al) Q ↔ zal (zArr c) 4 j (fun x => Zgo d 72 9 (L) (st) (zsI I c o x v, R, al) Q) := zg_72_8
theorem zh_72_9 : Zgo d 72 9 (L) (st) (I, R, al) Q ↔ Zgo d 72 15 (L) (st) (I, R, al) Q := zg_72_9
theorem zh_72_12 {x : Option (Nat × Nat)} : Zgo d 72 12 (a0 :: a1 :: a2 :: b0 :: L) (zq x :: st) (I, R, al) Q ↔ Zgo d 72 13 (a0 :: a1 :: zkl a2 :: some (zq x) :: L) (st) (I, R, al) Q := zg_72_12
theorem zh_72_13 : Zgo d 72 13 (L) (st) (I, R, al) Q ↔ Zgo d 72 14 (L) (zi 1 :: st) (I, R, al) Q := zg_72_13
theorem zh_72_14 {x : Int} : Zgo d 72 14 (L) (zi x :: []) (I, R, al) Q ↔ Q (some (zi x)) (I, R, al) := zg_72_14
theorem zh_72_15 : Zgo d 72 15 (L) (st) (I, R, al) Q ↔ Zgo d 72 16 (L) (zi 0 :: st) (I, R, al) Q := zg_72_15
theorem zh_72_16 {x : Int} : Zgo d 72 16 (L) (zi x :: []) (I, R, al) Q ↔ Q (some (zi x)) (I, R, al) := zg_72_16
theorem zh_73_0 {x : Int} : Zgo d 73 0 (a0 :: some (zi x) :: L) (st) (I, R, al) Q ↔ Zgo d 73 1 (a0 :: some (zi x) :: L) (zi x :: st) (I, R, al) Q := zg_73_0
theorem zh_73_1 {x : Int} : Zgo d 73 1 (L) (zi x :: st) (I, R, al) Q ↔ if zw x < zw 0 then Zgo d 73 15 (L) (st) (I, R, al) Q else Zgo d 73 4 (L) (st) (I, R, al) Q := zg_73_1
theorem zh_73_4 {x : Int} : Zgo d 73 4 (a0 :: some (zi x) :: L) (st) (I, R, al) Q ↔ Zgo d 73 5 (a0 :: some (zi x) :: L) (zi x :: st) (I, R, al) Q := zg_73_4
theorem zh_73_5 {x : Option (Nat × Nat)} : Zgo d 73 5 (some (zq x) :: L) (st) (I, R, al) Q ↔ Zgo d 73 6 (some (zq x) :: L) (zq x :: st) (I, R, al) Q := zg_73_5
theorem zh_73_6 {o : Nat} : Zgo d 73 6 (L) (zq (some (0, o)) :: st) (I, R, al) Q ↔ Zgo d 73 9 (L) (zq (R 0 o 4) :: st) (I, R, al) Q := zg_73_6
theorem zh_73_9 {o : Nat} : Zgo d 73 9 (L) (zq (some (10, o)) :: st) (I, R, al) Q ↔ Zgo d 73 12 (L) (zi (I 10 o 2) :: st) (I, R, al) Q := zg_73_9
theorem zh_73_12 {x y : Int} : Zgo d 73 12 (L) (zi y :: zi x :: st) (I, R, al) Q ↔ if zw x < zw y then Zgo d 73 25 (L) (st) (I, R, al) Q else Zgo d 73 15 (L) (st) (I, R, al) Q := zg_73_12
theorem zh_73_18 {x : Int} : Zgo d 73 18 (L) (zi x :: st) (I, R, al) Q ↔ Zgo d 73 19 (L) (zi x :: zi x :: st) (I, R, al) Q := zg_73_18
theorem zh_73_18q {u : Option (Nat × Nat)} : Zgo d 73 18 (L) (zq u :: st) (I, R, al) Q ↔ Zgo d 73 19 (L) (zq u :: zq u :: st) (I, R, al) Q := zg_73_18
theorem zh_73_19 : Zgo d 73 19 (L) (st) (I, R, al) Q ↔ Zgo d 73 21 (L) (zq (some (91, 3)) :: st) (I, R, al) Q := zg_73_19
theorem zh_73_25 {x : Option (Nat × Nat)} : Zgo d 73 25 (some (zq x) :: L) (st) (I, R, al) Q ↔ Zgo d 73 26 (some (zq x) :: L) (zq x :: st) (I, R, al) Q := zg_73_25
theorem zh_73_26 {o : Nat} : Zgo d 73 26 (L) (zq (some (0, o)) :: st) (I, R, al) Q ↔ Zgo d 73 29 (L) (zq (R 0 o 4) :: st) (I, R, al) Q := zg_73_26
theorem zh_73_29 {o : Nat} : Zgo d 73 29 (L) (zq (some (10, o)) :: st) (I, R, al) Q ↔ Zgo d 73 32 (L) (zq (R 10 o 1) :: st) (I, R, al) Q := zg_73_29
theorem zh_73_32 {x : Int} : Zgo d 73 32 (a0 :: some (zi x) :: L) (st) (I, R, al) Q ↔ Zgo d 73 33 (a0 :: some (zi x) :: L) (zi x :: st) (I, R, al) Q := zg_73_32
theorem zh_73_33 {j : Int} {c o : Nat} : Zgo d 73 33 (L) (zi j :: zq (some (c, o)) :: st) (I, R, al) Q ↔ zal (zlen (I, R, al) c) 0 j (fun x => Zgo d 73 34 (L) (zi (I c o x) :: st) (I, R, al) Q) := zg_73_33
theorem zh_73_34 {x : Int} : Zgo d 73 34 (L) (zi x :: []) (I, R, al) Q ↔ Q (some (zi x)) (I, R, al) := zg_73_34
theorem zh_74_0 {x : Option (Nat × Nat)} : Zgo d 74 0 (a0 :: a1 :: some (zq x) :: L) (st) (I, R, al) Q ↔ Zgo d 74 1 (a0 :: a1 :: some (zq x) :: L) (zq x :: st) (I, R, al) Q := zg_74_0
theorem zh_74_1 : Zgo d 74 1 (L) (st) (I, R, al) Q ↔ Zgo d 74 2 (L) (zi 0 :: st) (I, R, al) Q := zg_74_1
theorem zh_74_2 {x : Option (Nat × Nat)} : Zgo d 74 2 (some (zq x) :: L) (st) (I, R, al) Q ↔ Zgo d 74 3 (some (zq x) :: L) (zq x :: st) (I, R, al) Q := zg_74_2
theorem zh_74_3 {x : Int} : Zgo d 74 3 (a0 :: some (zi x) :: L) (st) (I, R, al) Q ↔ Zgo d 74 4 (a0 :: some (zi x) :: L) (zi x :: st) (I, R, al) Q := zg_74_3
theorem zh_74_7 {x : Int} : Zgo d 74 7 (L) (zi x :: st) (I, R, al) Q ↔ Zgo d 74 8 (L) (zl (zw x) :: st) (I, R, al) Q := zg_74_7
theorem zh_74_8 {v j : Int} {c o : Nat} : Zgo d 74 8 (L) (zl v :: zi j :: zq (some (c, o)) :: st) (I, R, al) Q ↔ zal (zArr c) 4 j (fun x => Zgo d 74 9 (L) (st) (zsI I c o x v, R, al) Q) := zg_74_8
theorem zh_74_9 : Zgo d 74 9 (L) (st) (I, R, al) Q ↔ Zgo d 74 15 (L) (st) (I, R, al) Q := zg_74_9
theorem zh_74_12 {x : Option (Nat × Nat)} : Zgo d 74 12 (a0 :: a1 :: a2 :: b0 :: L) (zq x :: st) (I, R, al) Q ↔ Zgo d 74 13 (a0 :: a1 :: zkl a2 :: some (zq x) :: L) (st) (I, R, al) Q := zg_74_12
theorem zh_74_13 : Zgo d 74 13 (L) (st) (I, R, al) Q ↔ Zgo d 74 14 (L) (zi 1 :: st) (I, R, al) Q := zg_74_13
theorem zh_74_14 {x : Int} : Zgo d 74 14 (L) (zi x :: []) (I, R, al) Q ↔ Q (some (zi x)) (I, R, al) := zg_74_14
theorem zh_74_15 : Zgo d 74 15 (L) (st) (I, R, al) Q ↔ Zgo d 74 16 (L) (zi 0 :: st) (I, R, al) Q := zg_74_15
theorem zh_74_16 {x : Int} : Zgo d 74 16 (L) (zi x :: []) (I, R, al) Q ↔ Q (some (zi x)) (I, R, al) := zg_74_16
theorem zh_75_0 {x : Int} : Zgo d 75 0 (a0 :: some (zi x) :: L) (st) (I, R, al) Q ↔ Zgo d 75 1 (a0 :: some (zi x) :: L) (zi x :: st) (I, R, al) Q := zg_75_0
theorem zh_75_1 {x : Int} : Zgo d 75 1 (L) (zi x :: st) (I, R, al) Q ↔ if zw x < zw 0 then Zgo d 75 10 (L) (st) (I, R, al) Q else Zgo d 75 4 (L) (st) (I, R, al) Q := zg_75_1
theorem zh_75_4 {x : Int} : Zgo d 75 4 (a0 :: some (zi x) :: L) (st) (I, R, al) Q ↔ Zgo d 75 5 (a0 :: some (zi x) :: L) (zi x :: st) (I, R, al) Q := zg_75_4
theorem zh_75_5 : Zgo d 75 5 (L) (st) (I, R, al) Q ↔ Zgo d 75 7 (L) (zi 8 :: st) (I, R, al) Q := zg_75_5
theorem zh_75_7 {x y : Int} : Zgo d 75 7 (L) (zi y :: zi x :: st) (I, R, al) Q ↔ if zw x < zw y then Zgo d 75 20 (L) (st) (I, R, al) Q else Zgo d 75 10 (L) (st) (I, R, al) Q := zg_75_7
theorem zh_75_13 {x : Int} : Zgo d 75 13 (L) (zi x :: st) (I, R, al) Q ↔ Zgo d 75 14 (L) (zi x :: zi x :: st) (I, R, al) Q := zg_75_13
theorem zh_75_13q {u : Option (Nat × Nat)} : Zgo d 75 13 (L) (zq u :: st) (I, R, al) Q ↔ Zgo d 75 14 (L) (zq u :: zq u :: st) (I, R, al) Q := zg_75_13
theorem zh_75_14 : Zgo d 75 14 (L) (st) (I, R, al) Q ↔ Zgo d 75 16 (L) (zq (some (91, 4)) :: st) (I, R, al) Q := zg_75_14
theorem zh_75_20 {x : Option (Nat × Nat)} : Zgo d 75 20 (some (zq x) :: L) (st) (I, R, al) Q ↔ Zgo d 75 21 (some (zq x) :: L) (zq x :: st) (I, R, al) Q := zg_75_20
theorem zh_75_21 {o : Nat} : Zgo d 75 21 (L) (zq (some (0, o)) :: st) (I, R, al) Q ↔ Zgo d 75 24 (L) (zq (R 0 o 4) :: st) (I, R, al) Q := zg_75_21
theorem zh_75_24 {o : Nat} : Zgo d 75 24 (L) (zq (some (10, o)) :: st) (I, R, al) Q ↔ Zgo d 75 27 (L) (zq (R 10 o 0) :: st) (I, R, al) Q := zg_75_24
theorem zh_75_27 {x : Int} : Zgo d 75 27 (a0 :: some (zi x) :: L) (st) (I, R, al) Q ↔ Zgo d 75 28 (a0 :: some (zi x) :: L) (zi x :: st) (I, R, al) Q := zg_75_27
theorem zh_75_28 {j : Int} {c o : Nat} : Zgo d 75 28 (L) (zi j :: zq (some (c, o)) :: st) (I, R, al) Q ↔ zal (zlen (I, R, al) c) 0 j (fun x => Zgo d 75 29 (L) (zi (I c o x) :: st) (I, R, al) Q) := zg_75_28
theorem zh_75_29 {x : Int} : Zgo d 75 29 (L) (zi x :: []) (I, R, al) Q ↔ Q (some (zi x)) (I, R, al) := zg_75_29
theorem zh_76_0 {x : Option (Nat × Nat)} : Zgo d 76 0 (a0 :: a1 :: some (zq x) :: L) (st) (I, R, al) Q ↔ Zgo d 76 1 (a0 :: a1 :: some (zq x) :: L) (zq x :: st) (I, R, al) Q := zg_76_0
theorem zh_76_1 : Zgo d 76 1 (L) (st) (I, R, al) Q ↔ Zgo d 76 2 (L) (zi 0 :: st) (I, R, al) Q := zg_76_1
theorem zh_76_2 {x : Option (Nat × Nat)} : Zgo d 76 2 (some (zq x) :: L) (st) (I, R, al) Q ↔ Zgo d 76 3 (some (zq x) :: L) (zq x :: st) (I, R, al) Q := zg_76_2
theorem zh_76_3 {x : Int} : Zgo d 76 3 (a0 :: some (zi x) :: L) (st) (I, R, al) Q ↔ Zgo d 76 4 (a0 :: some (zi x) :: L) (zi x :: st) (I, R, al) Q := zg_76_3
theorem zh_76_7 {x : Int} : Zgo d 76 7 (L) (zi x :: st) (I, R, al) Q ↔ Zgo d 76 8 (L) (zl (zw x) :: st) (I, R, al) Q := zg_76_7
theorem zh_76_8 {v j : Int} {c o : Nat} : Zgo d 76 8 (L) (zl v :: zi j :: zq (some (c, o)) :: st) (I, R, al) Q ↔ zal (zArr c) 4 j (fun x => Zgo d 76 9 (L) (st) (zsI I c o x v, R, al) Q) := zg_76_8
theorem zh_76_9 : Zgo d 76 9 (L) (st) (I, R, al) Q ↔ Zgo d 76 15 (L) (st) (I, R, al) Q := zg_76_9
theorem zh_76_12 {x : Option (Nat × Nat)} : Zgo d 76 12 (a0 :: a1 :: a2 :: b0 :: L) (zq x :: st) (I, R, al) Q ↔ Zgo d 76 13 (a0 :: a1 :: zkl a2 :: some (zq x) :: L) (st) (I, R, al) Q := zg_76_12
theorem zh_76_13 : Zgo d 76 13 (L) (st) (I, R, al) Q ↔ Zgo d 76 14 (L) (zi 1 :: st) (I, R, al) Q := zg_76_13
theorem zh_76_14 {x : Int} : Zgo d 76 14 (L) (zi x :: []) (I, R, al) Q ↔ Q (some (zi x)) (I, R, al) := zg_76_14
theorem zh_76_15 : Zgo d 76 15 (L) (st) (I, R, al) Q ↔ Zgo d 76 16 (L) (zi 0 :: st) (I, R, al) Q := zg_76_15
theorem zh_76_16 {x : Int} : Zgo d 76 16 (L) (zi x :: []) (I, R, al) Q ↔ Q (some (zi x)) (I, R, al) := zg_76_16
theorem zh_77_0 {x : Option (Nat × Nat)} : Zgo d 77 0 (some (zq x) :: L) (st) (I, R, al) Q ↔ Zgo d 77 1 (some (zq x) :: L) (zq x :: st) (I, R, al) Q := zg_77_0
theorem zh_77_1 {o : Nat} : Zgo d 77 1 (L) (zq (some (0, o)) :: st) (I, R, al) Q ↔ Zgo d 77 4 (L) (zq (R 0 o 4) :: st) (I, R, al) Q := zg_77_1
theorem zh_77_4 {o : Nat} : Zgo d 77 4 (L) (zq (some (10, o)) :: st) (I, R, al) Q ↔ Zgo d 77 7 (L) (zi (I 10 o 3) :: st) (I, R, al) Q := zg_77_4
theorem zh_77_7 : Zgo d 77 7 (L) (st) (I, R, al) Q ↔ Zgo d 77 8 (L) (zi 2 :: st) (I, R, al) Q := zg_77_7
theorem zh_77_8 {x y : Int} : Zgo d 77 8 (L) (zi y :: zi x :: st) (I, R, al) Q ↔ if zw x = zw y then Zgo d 77 21 (L) (st) (I, R, al) Q else Zgo d 77 11 (L) (st) (I, R, al) Q := zg_77_8
theorem zh_77_14 {x : Int} : Zgo d 77 14 (L) (zi x :: st) (I, R, al) Q ↔ Zgo d 77 15 (L) (zi x :: zi x :: st) (I, R, al) Q := zg_77_14
theorem zh_77_14q {u : Option (Nat × Nat)} : Zgo d 77 14 (L) (zq u :: st) (I, R, al) Q ↔ Zgo d 77 15 (L) (zq u :: zq u :: st) (I, R, al) Q := zg_77_14
theorem zh_77_15 : Zgo d 77 15 (L) (st) (I, R, al) Q ↔ Zgo d 77 17 (L) (zq (some (91, 5)) :: st) (I, R, al) Q := zg_77_15
theorem zh_77_21 {x : Int} : Zgo d 77 21 (a0 :: some (zi x) :: L) (st) (I, R, al) Q ↔ Zgo d 77 22 (a0 :: some (zi x) :: L) (zi x :: st) (I, R, al) Q := zg_77_21
theorem zh_77_22 {x : Int} : Zgo d 77 22 (L) (zi x :: st) (I, R, al) Q ↔ if zw x = zw 0 then Zgo d 77 35 (L) (st) (I, R, al) Q else Zgo d 77 25 (L) (st) (I, R, al) Q := zg_77_22
theorem zh_77_25 {x : Option (Nat × Nat)} : Zgo d 77 25 (some (zq x) :: L) (st) (I, R, al) Q ↔ Zgo d 77 26 (some (zq x) :: L) (zq x :: st) (I, R, al) Q := zg_77_25
theorem zh_77_26 {o : Nat} : Zgo d 77 26 (L) (zq (some (0, o)) :: st) (I, R, al) Q ↔ Zgo d 77 29 (L) (zq (R 0 o 4) :: st) (I, R, al) Q := zg_77_26
theorem zh_77_29 {o : Nat} : Zgo d 77 29 (L) (zq (some (10, o)) :: st) (I, R, al) Q ↔ Zgo d 77 32 (L) (zi (I 10 o 8) :: st) (I, R, al) Q := zg_77_29
theorem zh_77_32 : Zgo d 77 32 (L) (st) (I, R, al) Q ↔ Zgo d 77 42 (L) (st) (I, R, al) Q := zg_77_32
theorem zh_77_35 {x : Option (Nat × Nat)} : Zgo d 77 35 (some (zq x) :: L) (st) (I, R, al) Q ↔ Zgo d 77 36 (some (zq x) :: L) (zq x :: st) (I, R, al) Q := zg_77_35
theorem zh_77_36 {o : Nat} : Zgo d 77 36 (L) (zq (some (0, o)) :: st) (I, R, al) Q ↔ Zgo d 77 39 (L) (zq (R 0 o 4) :: st) (I, R, al) Q := zg_77_36
theorem zh_77_39 {o : Nat} : Zgo d 77 39 (L) (zq (some (10, o)) :: st) (I, R, al) Q ↔ Zgo d 77 42 (L) (zi (I 10 o 7) :: st) (I, R, al) Q := zg_77_39
theorem zh_77_42 {x : Int} : Zgo d 77 42 (L) (zi x :: []) (I, R, al) Q ↔ Q (some (zi x)) (I, R, al) := zg_77_42
theorem zh_78_0 {x : Option (Nat × Nat)} : Zgo d 78 0 (a0 :: a1 :: some (zq x) :: L) (st) (I, R, al) Q ↔ Zgo d 78 1 (a0 :: a1 :: some (zq x) :: L) (zq x :: st) (I, R, al) Q := zg_78_0
theorem zh_78_1 : Zgo d 78 1 (L) (st) (I, R, al) Q ↔ Zgo d 78 2 (L) (zi 0 :: st) (I, R, al) Q := zg_78_1
theorem zh_78_2 {x : Option (Nat × Nat)} : Zgo d 78 2 (some (zq x) :: L) (st) (I, R, al) Q ↔ Zgo d 78 3 (some (zq x) :: L) (zq x :: st) (I, R, al) Q := zg_78_2
theorem zh_78_3 {x : Int} : Zgo d 78 3 (a0 :: some (zi x) :: L) (st) (I, R, al) Q ↔ Zgo d 78 4 (a0 :: some (zi x) :: L) (zi x :: st) (I, R, al) Q := zg_78_3
theorem zh_78_7 {x : Int} : Zgo d 78 7 (L) (zi x :: st) (I, R, al) Q ↔ Zgo d 78 8 (L) (zl (zw x) :: st) (I, R, al) Q := zg_78_7
theorem zh_78_8 {v j : Int} {c o : Nat} : Zgo d 78 8 (L) (zl v :: zi j :: zq (some (c, o)) :: st) (I, R, al) Q ↔ zal (zArr c) 4 j (fun x => Zgo d 78 9 (L) (st) (zsI I c o x v, R, al) Q) := zg_78_8
theorem zh_78_9 : Zgo d 78 9 (L) (st) (I, R, al) Q ↔ Zgo d 78 15 (L) (st) (I, R, al) Q := zg_78_9
theorem zh_78_12 {x : Option (Nat × Nat)} : Zgo d 78 12 (a0 :: a1 :: a2 :: b0 :: L) (zq x :: st) (I, R, al) Q ↔ Zgo d 78 13 (a0 :: a1 :: zkl a2 :: some (zq x) :: L) (st) (I, R, al) Q := zg_78_12
theorem zh_78_13 : Zgo d 78 13 (L) (st) (I, R, al) Q ↔ Zgo d 78 14 (L) (zi 1 :: st) (I, R, al) Q := zg_78_13
theorem zh_78_14 {x : Int} : Zgo d 78 14 (L) (zi x :: []) (I, R, al) Q ↔ Q (some (zi x)) (I, R, al) := zg_78_14
theorem zh_78_15 : Zgo d 78 15 (L) (st) (I, R, al) Q ↔ Zgo d 78 16 (L) (zi 0 :: st) (I, R, al) Q := zg_78_15
theorem zh_78_16 {x : Int} : Zgo d 78 16 (L) (zi x :: []) (I, R, al) Q ↔ Q (some (zi x)) (I, R, al) := zg_78_16
theorem zh_79_0 {x : Int} : Zgo d 79 0 (a0 :: some (zi x) :: L) (st) (I, R, al) Q ↔ Zgo d 79 1 (a0 :: some (zi x) :: L) (zi x :: st) (I, R, al) Q := zg_79_0
theorem zh_79_1 {x : Int} : Zgo d 79 1 (L) (zi x :: st) (I, R, al) Q ↔ if zw x < zw 0 then Zgo d 79 15 (L) (st) (I, R, al) Q else Zgo d 79 4 (L) (st) (I, R, al) Q := zg_79_1
theorem zh_79_4 {x : Int} : Zgo d 79 4 (a0 :: some (zi x) :: L) (st) (I, R, al) Q ↔ Zgo d 79 5 (a0 :: some (zi x) :: L) (zi x :: st) (I, R, al) Q := zg_79_4
theorem zh_79_5 {x : Option (Nat × Nat)} : Zgo d 79 5 (some (zq x) :: L) (st) (I, R, al) Q ↔ Zgo d 79 6 (some (zq x) :: L) (zq x :: st) (I, R, al) Q := zg_79_5
theorem zh_79_6 {o : Nat} : Zgo d 79 6 (L) (zq (some (0, o)) :: st) (I, R, al) Q ↔ Zgo d 79 9 (L) (zq (R 0 o 1) :: st) (I, R, al) Q := zg_79_6
theorem zh_79_9 {o : Nat} : Zgo d 79 9 (L) (zq (some (7, o)) :: st) (I, R, al) Q ↔ Zgo d 79 12 (L) (zi (I 7 o 4) :: st) (I, R, al) Q := zg_79_9
theorem zh_79_12 {x y : Int} : Zgo d 79 12 (L) (zi y :: zi x :: st) (I, R, al) Q ↔ if zw x < zw y then Zgo d 79 25 (L) (st) (I, R, al) Q else Zgo d 79 15 (L) (st) (I, R, al) Q := zg_79_12
theorem zh_79_18 {x : Int} : Zgo d 79 18 (L) (zi x :: st) (I, R, al) Q ↔ Zgo d 79 19 (L) (zi x :: zi x :: st) (I, R, al) Q := zg_79_18
theorem zh_79_18q {u : Option (Nat × Nat)} : Zgo d 79 18 (L) (zq u :: st) (I, R, al) Q ↔ Zgo d 79 19 (L) (zq u :: zq u :: st) (I, R, al) Q := zg_79_18
theorem zh_79_19 : Zgo d 79 19 (L) (st) (I, R, al) Q ↔ Zgo d 79 21 (L) (zq (some (91, 6)) :: st) (I, R, al) Q := zg_79_19
theorem zh_79_25 {x : Option (Nat × Nat)} : Zgo d 79 25 (some (zq x) :: L) (st) (I, R, al) Q ↔ Zgo d 79 26 (some (zq x) :: L) (zq x :: st) (I, R, al) Q := zg_79_25
theorem zh_79_26 {o : Nat} : Zgo d 79 26 (L) (zq (some (0, o)) :: st) (I, R, al) Q ↔ Zgo d 79 29 (L) (zq (R 0 o 1) :: st) (I, R, al) Q := zg_79_26
theorem zh_79_29 {o : Nat} : Zgo d 79 29 (L) (zq (some (7, o)) :: st) (I, R, al) Q ↔ Zgo d 79 32 (L) (zq (R 7 o 0) :: st) (I, R, al) Q := zg_79_29
theorem zh_79_32 {x : Int} : Zgo d 79 32 (a0 :: some (zi x) :: L) (st) (I, R, al) Q ↔ Zgo d 79 33 (a0 :: some (zi x) :: L) (zi x :: st) (I, R, al) Q := zg_79_32
theorem zh_79_33 {j : Int} {c o : Nat} : Zgo d 79 33 (L) (zi j :: zq (some (c, o)) :: st) (I, R, al) Q ↔ zal (zlen (I, R, al) c) 3 j (fun x => Zgo d 79 34 (L) (zq (R c o x) :: st) (I, R, al) Q) := zg_79_33
theorem zh_79_34 {o : Nat} : Zgo d 79 34 (L) (zq (some (2, o)) :: st) (I, R, al) Q ↔ Zgo d 79 37 (L) (zi (I 2 o 2) :: st) (I, R, al) Q := zg_79_34
theorem zh_79_37 {x : Int} : Zgo d 79 37 (L) (zi x :: []) (I, R, al) Q ↔ Q (some (zi x)) (I, R, al) := zg_79_37
theorem zh_80_0 {x : Option (Nat × Nat)} : Zgo d 80 0 (some (zq x) :: L) (st) (I, R, al) Q ↔ Zgo d 80 1 (some (zq x) :: L) (zq x :: st) (I, R, al) Q := zg_80_0
theorem zh_80_1 {v0 : zV} : Zgo d 80 1 (L) (v0 :: st) (I, R, al) Q ↔ if zwt st ≤ 8 then zCp d 905 [v0] (I, R, al) (fun _ S2 => Zgo d 80 4 L (st) S2 Q) else False := zg_80_1
theorem zh_80_4 {x : Option (Nat × Nat)} : Zgo d 80 4 (some (zq x) :: L) (st) (I, R, al) Q ↔ Zgo d 80 5 (some (zq x) :: L) (zq x :: st) (I, R, al) Q := zg_80_4
theorem zh_80_5 : Zgo d 80 5 (L) (st) (I, R, al) Q ↔ Zgo d 80 8 (L) (zi 160 :: st) (I, R, al) Q := zg_80_5
theorem zh_80_8 {n : Int} : Zgo d 80 8 (L) (zi n :: st) (I, R, al) Q ↔ if n = 160 ∧ al.1 30 = 0 then Zgo d 80 10 (L) (zq (some (30, 0)) :: st) (I, R, va_up al.1 30 1, al.2.1 + 1, al.2.2.1 + 160, al.2.2.2) Q else False := zg_80_8
theorem zh_80_10 {o : Nat} {v : Option (Nat × Nat)} : Zgo d 80 10 (L) (zq v :: zq (some (11, o)) :: st) (I, R, al) Q ↔ Zgo d 80 13 (L) (st) (I, zsR R 11 o 1 v, al) Q := zg_80_10
theorem zh_80_13 {x : Option (Nat × Nat)} : Zgo d 80 13 (some (zq x) :: L) (st) (I, R, al) Q ↔ Zgo d 80 14 (some (zq x) :: L) (zq x :: st) (I, R, al) Q := zg_80_13
theorem zh_80_14 : Zgo d 80 14 (L) (st) (I, R, al) Q ↔ Zgo d 80 15 (L) (zi 3 :: st) (I, R, al) Q := zg_80_14
theorem zh_80_15 {n : Int} : Zgo d 80 15 (L) (zi n :: st) (I, R, al) Q ↔ if n = 3 ∧ al.1 31 = 0 then Zgo d 80 17 (L) (zq (some (31, 0)) :: st) (I, R, va_up al.1 31 1, al.2.1 + 1, al.2.2.1 + 3, al.2.2.2) Q else False := zg_80_15
theorem zh_80_17 {o : Nat} {v : Option (Nat × Nat)} : Zgo d 80 17 (L) (zq v :: zq (some (11, o)) :: st) (I, R, al) Q ↔ Zgo d 80 20 (L) (st) (I, zsR R 11 o 7 v, al) Q := zg_80_17
theorem zh_80_20 {x : Option (Nat × Nat)} : Zgo d 80 20 (some (zq x) :: L) (st) (I, R, al) Q ↔ Zgo d 80 21 (some (zq x) :: L) (zq x :: st) (I, R, al) Q := zg_80_20
theorem zh_80_21 : Zgo d 80 21 (L) (st) (I, R, al) Q ↔ Zgo d 80 22 (L) (zi 3 :: st) (I, R, al) Q := zg_80_21
theorem zh_80_22 {n : Int} : Zgo d 80 22 (L) (zi n :: st) (I, R, al) Q ↔ if n = 3 ∧ al.1 32 = 0 then Zgo d 80 24 (L) (zq (some (32, 0)) :: st) (I, R, va_up al.1 32 1, al.2.1 + 1, al.2.2.1 + 3, al.2.2.2) Q else False := zg_80_22
theorem zh_80_24 {o : Nat} {v : Option (Nat × Nat)} : Zgo d 80 24 (L) (zq v :: zq (some (11, o)) :: st) (I, R, al) Q ↔ Zgo d 80 27 (L) (st) (I, zsR R 11 o 8 v, al) Q := zg_80_24
theorem zh_80_27 {x : Option (Nat × Nat)} : Zgo d 80 27 (some (zq x) :: L) (st) (I, R, al) Q ↔ Zgo d 80 28 (some (zq x) :: L) (zq x :: st) (I, R, al) Q := zg_80_27
theorem zh_80_28 : Zgo d 80 28 (L) (st) (I, R, al) Q ↔ Zgo d 80 29 (L) (zi 4 :: st) (I, R, al) Q := zg_80_28
theorem zh_80_29 {n : Int} : Zgo d 80 29 (L) (zi n :: st) (I, R, al) Q ↔ if n = 4 ∧ al.1 33 = 0 then Zgo d 80 31 (L) (zq (some (33, 0)) :: st) (I, R, va_up al.1 33 1, al.2.1 + 1, al.2.2.1 + 4, al.2.2.2) Q else False := zg_80_29
theorem zh_80_31 {o : Nat} {v : Option (Nat × Nat)} : Zgo d 80 31 (L) (zq v :: zq (some (11, o)) :: st) (I, R, al) Q ↔ Zgo d 80 34 (L) (st) (I, zsR R 11 o 9 v, al) Q := zg_80_31
theorem zh_80_34 {x : Option (Nat × Nat)} : Zgo d 80 34 (some (zq x) :: L) (st) (I, R, al) Q ↔ Zgo d 80 35 (some (zq x) :: L) (zq x :: st) (I, R, al) Q := zg_80_34
theorem zh_80_35 : Zgo d 80 35 (L) (st) (I, R, al) Q ↔ Zgo d 80 38 (L) (zi 160 :: st) (I, R, al) Q := zg_80_35
theorem zh_80_38 {n : Int} : Zgo d 80 38 (L) (zi n :: st) (I, R, al) Q ↔ if n = 160 ∧ al.1 34 = 0 then Zgo d 80 40 (L) (zq (some (34, 0)) :: st) (I, R, va_up al.1 34 1, al.2.1 + 1, al.2.2.1 + 160, al.2.2.2) Q else False := zg_80_38
theorem zh_80_40 {o : Nat} {v : Option (Nat × Nat)} : Zgo d 80 40 (L) (zq v :: zq (some (11, o)) :: st) (I, R, al) Q ↔ Zgo d 80 43 (L) (st) (I, zsR R 11 o 11 v, al) Q := zg_80_40
theorem zh_80_43 {x : Option (Nat × Nat)} : Zgo d 80 43 (some (zq x) :: L) (st) (I, R, al) Q ↔ Zgo d 80 44 (some (zq x) :: L) (zq x :: st) (I, R, al) Q := zg_80_43
theorem zh_80_44 : Zgo d 80 44 (L) (st) (I, R, al) Q ↔ Zgo d 80 47 (L) (zi 160 :: st) (I, R, al) Q := zg_80_44
theorem zh_80_47 {n : Int} : Zgo d 80 47 (L) (zi n :: st) (I, R, al) Q ↔ if n = 160 ∧ al.1 35 = 0 then Zgo d 80 49 (L) (zq (some (35, 0)) :: st) (I, R, va_up al.1 35 1, al.2.1 + 1, al.2.2.1 + 160, al.2.2.2) Q else False := zg_80_47
theorem zh_80_49 {o : Nat} {v : Option (Nat × Nat)} : Zgo d 80 49 (L) (zq v :: zq (some (11, o)) :: st) (I, R, al) Q ↔ Zgo d 80 52 (L) (st) (I, zsR R 11 o 12 v, al) Q := zg_80_49
theorem zh_80_52 {x : Option (Nat × Nat)} : Zgo d 80 52 (some (zq x) :: L) (st) (I, R, al) Q ↔ Zgo d 80 53 (some (zq x) :: L) (zq x :: st) (I, R, al) Q := zg_80_52
theorem zh_80_53 : Zgo d 80 53 (L) (st) (I, R, al) Q ↔ Zgo d 80 56 (L) (zi 160 :: st) (I, R, al) Q := zg_80_53
theorem zh_80_56 {n : Int} : Zgo d 80 56 (L) (zi n :: st) (I, R, al) Q ↔ if n = 160 ∧ al.1 36 = 0 then Zgo d 80 58 (L) (zq (some (36, 0)) :: st) (I, R, va_up al.1 36 1, al.2.1 + 1, al.2.2.1 + 160, al.2.2.2) Q else False := zg_80_56
theorem zh_80_58 {o : Nat} {v : Option (Nat × Nat)} : Zgo d 80 58 (L) (zq v :: zq (some (11, o)) :: st) (I, R, al) Q ↔ Zgo d 80 61 (L) (st) (I, zsR R 11 o 13 v, al) Q := zg_80_58
theorem zh_80_61 {x : Option (Nat × Nat)} : Zgo d 80 61 (some (zq x) :: L) (st) (I, R, al) Q ↔ Zgo d 80 62 (some (zq x) :: L) (zq x :: st) (I, R, al) Q := zg_80_61
theorem zh_80_62 : Zgo d 80 62 (L) (st) (I, R, al) Q ↔ Zgo d 80 65 (L) (zi 160 :: st) (I, R, al) Q := zg_80_62
theorem zh_80_65 {n : Int} : Zgo d 80 65 (L) (zi n :: st) (I, R, al) Q ↔ if n = 160 ∧ al.1 37 = 0 then Zgo d 80 67 (L) (zq (some (37, 0)) :: st) (I, R, va_up al.1 37 1, al.2.1 + 1, al.2.2.1 + 160, al.2.2.2) Q else False := zg_80_65
theorem zh_80_67 {o : Nat} {v : Option (Nat × Nat)} : Zgo d 80 67 (L) (zq v :: zq (some (11, o)) :: st) (I, R, al) Q ↔ Zgo d 80 70 (L) (st) (I, zsR R 11 o 14 v, al) Q := zg_80_67
theorem zh_80_70 {x : Option (Nat × Nat)} : Zgo d 80 70 (some (zq x) :: L) (st) (I, R, al) Q ↔ Zgo d 80 71 (some (zq x) :: L) (zq x :: st) (I, R, al) Q := zg_80_70
theorem zh_80_71 : Zgo d 80 71 (L) (st) (I, R, al) Q ↔ Zgo d 80 74 (L) (zi 960 :: st) (I, R, al) Q := zg_80_71
theorem zh_80_74 {n : Int} : Zgo d 80 74 (L) (zi n :: st) (I, R, al) Q ↔ if n = 960 ∧ al.1 38 = 0 then Zgo d 80 76 (L) (zq (some (38, 0)) :: st) (I, R, va_up al.1 38 1, al.2.1 + 1, al.2.2.1 + 960, al.2.2.2) Q else False := zg_80_74
theorem zh_80_76 {o : Nat} {v : Option (Nat × Nat)} : Zgo d 80 76 (L) (zq v :: zq (some (11, o)) :: st) (I, R, al) Q ↔ Zgo d 80 79 (L) (st) (I, zsR R 11 o 15 v, al) Q := zg_80_76
theorem zh_80_79 {x : Option (Nat × Nat)} : Zgo d 80 79 (some (zq x) :: L) (st) (I, R, al) Q ↔ Zgo d 80 80 (some (zq x) :: L) (zq x :: st) (I, R, al) Q := zg_80_79
theorem zh_80_80 : Zgo d 80 80 (L) (st) (I, R, al) Q ↔ Zgo d 80 83 (L) (zi 480 :: st) (I, R, al) Q := zg_80_80
theorem zh_80_83 {n : Int} : Zgo d 80 83 (L) (zi n :: st) (I, R, al) Q ↔ if n = 480 ∧ al.1 39 = 0 then Zgo d 80 85 (L) (zq (some (39, 0)) :: st) (I, R, va_up al.1 39 1, al.2.1 + 1, al.2.2.1 + 480, al.2.2.2) Q else False := zg_80_83
theorem zh_80_85 {o : Nat} {v : Option (Nat × Nat)} : Zgo d 80 85 (L) (zq v :: zq (some (11, o)) :: st) (I, R, al) Q ↔ Zgo d 80 88 (L) (st) (I, zsR R 11 o 16 v, al) Q := zg_80_85
theorem zh_80_88 {x : Option (Nat × Nat)} : Zgo d 80 88 (some (zq x) :: L) (st) (I, R, al) Q ↔ Zgo d 80 89 (some (zq x) :: L) (zq x :: st) (I, R, al) Q := zg_80_88
theorem zh_80_89 : Zgo d 80 89 (L) (st) (I, R, al) Q ↔ Zgo d 80 92 (L) (zi 480 :: st) (I, R, al) Q := zg_80_89
theorem zh_80_92 {n : Int} : Zgo d 80 92 (L) (zi n :: st) (I, R, al) Q ↔ if n = 480 ∧ al.1 40 = 0 then Zgo d 80 94 (L) (zq (some (40, 0)) :: st) (I, R, va_up al.1 40 1, al.2.1 + 1, al.2.2.1 + 480, al.2.2.2) Q else False := zg_80_92
theorem zh_80_94 {o : Nat} {v : Option (Nat × Nat)} : Zgo d 80 94 (L) (zq v :: zq (some (11, o)) :: st) (I, R, al) Q ↔ Zgo d 80 97 (L) (st) (I, zsR R 11 o 17 v, al) Q := zg_80_94
theorem zh_80_97 {x : Option (Nat × Nat)} : Zgo d 80 97 (some (zq x) :: L) (st) (I, R, al) Q ↔ Zgo d 80 98 (some (zq x) :: L) (zq x :: st) (I, R, al) Q := zg_80_97
theorem zh_80_98 : Zgo d 80 98 (L) (st) (I, R, al) Q ↔ Zgo d 80 101 (L) (zi 160 :: st) (I, R, al) Q := zg_80_98
theorem zh_80_101 {n : Int} : Zgo d 80 101 (L) (zi n :: st) (I, R, al) Q ↔ if n = 160 ∧ al.1 41 = 0 then Zgo d 80 103 (L) (zq (some (41, 0)) :: st) (I, R, va_up al.1 41 1, al.2.1 + 1, al.2.2.1 + 160, al.2.2.2) Q else False := zg_80_101
theorem zh_80_103 {o : Nat} {v : Option (Nat × Nat)} : Zgo d 80 103 (L) (zq v :: zq (some (11, o)) :: st) (I, R, al) Q ↔ Zgo d 80 106 (L) (st) (I, zsR R 11 o 18 v, al) Q := zg_80_103
theorem zh_80_106 {x : Option (Nat × Nat)} : Zgo d 80 106 (some (zq x) :: L) (st) (I, R, al) Q ↔ Zgo d 80 107 (some (zq x) :: L) (zq x :: st) (I, R, al) Q := zg_80_106
theorem zh_80_107 : Zgo d 80 107 (L) (st) (I, R, al) Q ↔ Zgo d 80 110 (L) (zi 160 :: st) (I, R, al) Q := zg_80_107
theorem zh_80_110 {n : Int} : Zgo d 80 110 (L) (zi n :: st) (I, R, al) Q ↔ if n = 160 ∧ al.1 42 = 0 then Zgo d 80 112 (L) (zq (some (42, 0)) :: st) (I, R, va_up al.1 42 1, al.2.1 + 1, al.2.2.1 + 160, al.2.2.2) Q else False := zg_80_110
theorem zh_80_112 {o : Nat} {v : Option (Nat × Nat)} : Zgo d 80 112 (L) (zq v :: zq (some (11, o)) :: st) (I, R, al) Q ↔ Zgo d 80 115 (L) (st) (I, zsR R 11 o 19 v, al) Q := zg_80_112
theorem zh_80_115 {x : Option (Nat × Nat)} : Zgo d 80 115 (some (zq x) :: L) (st) (I, R, al) Q ↔ Zgo d 80 116 (some (zq x) :: L) (zq x :: st) (I, R, al) Q := zg_80_115
theorem zh_80_116 : Zgo d 80 116 (L) (st) (I, R, al) Q ↔ Zgo d 80 119 (L) (zi 160 :: st) (I, R, al) Q := zg_80_116
theorem zh_80_119 {n : Int} : Zgo d 80 119 (L) (zi n :: st) (I, R, al) Q ↔ if n = 160 ∧ al.1 43 = 0 then Zgo d 80 121 (L) (zq (some (43, 0)) :: st) (I, R, va_up al.1 43 1, al.2.1 + 1, al.2.2.1 + 160, al.2.2.2) Q else False := zg_80_119
theorem zh_80_121 {o : Nat} {v : Option (Nat × Nat)} : Zgo d 80 121 (L) (zq v :: zq (some (11, o)) :: st) (I, R, al) Q ↔ Zgo d 80 124 (L) (st) (I, zsR R 11 o 20 v, al) Q := zg_80_121
theorem zh_80_124 {x : Option (Nat × Nat)} : Zgo d 80 124 (some (zq x) :: L) (st) (I, R, al) Q ↔ Zgo d 80 125 (some (zq x) :: L) (zq x :: st) (I, R, al) Q := zg_80_124
theorem zh_80_125 : Zgo d 80 125 (L) (st) (I, R, al) Q ↔ Zgo d 80 128 (L) (zi 160 :: st) (I, R, al) Q := zg_80_125
theorem zh_80_128 {n : Int} : Zgo d 80 128 (L) (zi n :: st) (I, R, al) Q ↔ if n = 160 ∧ al.1 44 = 0 then Zgo d 80 130 (L) (zq (some (44, 0)) :: st) (I, R, va_up al.1 44 1, al.2.1 + 1, al.2.2.1 + 160, al.2.2.2) Q else False := zg_80_128
theorem zh_80_130 {o : Nat} {v : Option (Nat × Nat)} : Zgo d 80 130 (L) (zq v :: zq (some (11, o)) :: st) (I, R, al) Q ↔ Zgo d 80 133 (L) (st) (I, zsR R 11 o 21 v, al) Q := zg_80_130
theorem zh_80_133 {x : Option (Nat × Nat)} : Zgo d 80 133 (some (zq x) :: L) (st) (I, R, al) Q ↔ Zgo d 80 134 (some (zq x) :: L) (zq x :: st) (I, R, al) Q := zg_80_133
theorem zh_80_134 : Zgo d 80 134 (L) (st) (I, R, al) Q ↔ Zgo d 80 137 (L) (zi 160 :: st) (I, R, al) Q := zg_80_134
theorem zh_80_137 {n : Int} : Zgo d 80 137 (L) (zi n :: st) (I, R, al) Q ↔ if n = 160 ∧ al.1 45 = 0 then Zgo d 80 139 (L) (zq (some (45, 0)) :: st) (I, R, va_up al.1 45 1, al.2.1 + 1, al.2.2.1 + 160, al.2.2.2) Q else False := zg_80_137
theorem zh_80_139 {o : Nat} {v : Option (Nat × Nat)} : Zgo d 80 139 (L) (zq v :: zq (some (11, o)) :: st) (I, R, al) Q ↔ Zgo d 80 142 (L) (st) (I, zsR R 11 o 23 v, al) Q := zg_80_139
theorem zh_80_142 {x : Option (Nat × Nat)} : Zgo d 80 142 (some (zq x) :: L) (st) (I, R, al) Q ↔ Zgo d 80 143 (some (zq x) :: L) (zq x :: st) (I, R, al) Q := zg_80_142
theorem zh_80_143 : Zgo d 80 143 (L) (st) (I, R, al) Q ↔ Zgo d 80 146 (L) (zi 160 :: st) (I, R, al) Q := zg_80_143
theorem zh_80_146 {n : Int} : Zgo d 80 146 (L) (zi n :: st) (I, R, al) Q ↔ if n = 160 ∧ al.1 46 = 0 then Zgo d 80 148 (L) (zq (some (46, 0)) :: st) (I, R, va_up al.1 46 1, al.2.1 + 1, al.2.2.1 + 160, al.2.2.2) Q else False := zg_80_146
theorem zh_80_148 {o : Nat} {v : Option (Nat × Nat)} : Zgo d 80 148 (L) (zq v :: zq (some (11, o)) :: st) (I, R, al) Q ↔ Zgo d 80 151 (L) (st) (I, zsR R 11 o 24 v, al) Q := zg_80_148
theorem zh_80_151 {x : Option (Nat × Nat)} : Zgo d 80 151 (some (zq x) :: L) (st) (I, R, al) Q ↔ Zgo d 80 152 (some (zq x) :: L) (zq x :: st) (I, R, al) Q := zg_80_151
theorem zh_80_152 : Zgo d 80 152 (L) (st) (I, R, al) Q ↔ Zgo d 80 155 (L) (zi 160 :: st) (I, R, al) Q := zg_80_152
theorem zh_80_155 {n : Int} : Zgo d 80 155 (L) (zi n :: st) (I, R, al) Q ↔ if n = 160 ∧ al.1 47 = 0 then Zgo d 80 157 (L) (zq (some (47, 0)) :: st) (I, R, va_up al.1 47 1, al.2.1 + 1, al.2.2.1 + 160, al.2.2.2) Q else False := zg_80_155
theorem zh_80_157 {o : Nat} {v : Option (Nat × Nat)} : Zgo d 80 157 (L) (zq v :: zq (some (11, o)) :: st) (I, R, al) Q ↔ Zgo d 80 160 (L) (st) (I, zsR R 11 o 25 v, al) Q := zg_80_157
theorem zh_80_160 {x : Option (Nat × Nat)} : Zgo d 80 160 (some (zq x) :: L) (st) (I, R, al) Q ↔ Zgo d 80 161 (some (zq x) :: L) (zq x :: st) (I, R, al) Q := zg_80_160
theorem zh_80_161 : Zgo d 80 161 (L) (st) (I, R, al) Q ↔ Zgo d 80 164 (L) (zi 160 :: st) (I, R, al) Q := zg_80_161
theorem zh_80_164 {n : Int} : Zgo d 80 164 (L) (zi n :: st) (I, R, al) Q ↔ if n = 160 ∧ al.1 48 = 0 then Zgo d 80 166 (L) (zq (some (48, 0)) :: st) (I, R, va_up al.1 48 1, al.2.1 + 1, al.2.2.1 + 160, al.2.2.2) Q else False := zg_80_164
theorem zh_80_166 {o : Nat} {v : Option (Nat × Nat)} : Zgo d 80 166 (L) (zq v :: zq (some (11, o)) :: st) (I, R, al) Q ↔ Zgo d 80 169 (L) (st) (I, zsR R 11 o 26 v, al) Q := zg_80_166
theorem zh_80_169 {x : Option (Nat × Nat)} : Zgo d 80 169 (some (zq x) :: L) (st) (I, R, al) Q ↔ Zgo d 80 170 (some (zq x) :: L) (zq x :: st) (I, R, al) Q := zg_80_169
theorem zh_80_170 : Zgo d 80 170 (L) (st) (I, R, al) Q ↔ Zgo d 80 173 (L) (zi 160 :: st) (I, R, al) Q := zg_80_170
theorem zh_80_173 {n : Int} : Zgo d 80 173 (L) (zi n :: st) (I, R, al) Q ↔ if n = 160 ∧ al.1 49 = 0 then Zgo d 80 175 (L) (zq (some (49, 0)) :: st) (I, R, va_up al.1 49 1, al.2.1 + 1, al.2.2.1 + 160, al.2.2.2) Q else False := zg_80_173
theorem zh_80_175 {o : Nat} {v : Option (Nat × Nat)} : Zgo d 80 175 (L) (zq v :: zq (some (11, o)) :: st) (I, R, al) Q ↔ Zgo d 80 178 (L) (st) (I, zsR R 11 o 27 v, al) Q := zg_80_175
theorem zh_80_178 {x : Option (Nat × Nat)} : Zgo d 80 178 (some (zq x) :: L) (st) (I, R, al) Q ↔ Zgo d 80 179 (some (zq x) :: L) (zq x :: st) (I, R, al) Q := zg_80_178
theorem zh_80_179 : Zgo d 80 179 (L) (st) (I, R, al) Q ↔ Zgo d 80 182 (L) (zi 200 :: st) (I, R, al) Q := zg_80_179
theorem zh_80_182 {n : Int} : Zgo d 80 182 (L) (zi n :: st) (I, R, al) Q ↔ if n = 200 ∧ al.1 50 = 0 then Zgo d 80 184 (L) (zq (some (50, 0)) :: st) (I, R, va_up al.1 50 1, al.2.1 + 1, al.2.2.1 + 200, al.2.2.2) Q else False := zg_80_182
theorem zh_80_184 {o : Nat} {v : Option (Nat × Nat)} : Zgo d 80 184 (L) (zq v :: zq (some (11, o)) :: st) (I, R, al) Q ↔ Zgo d 80 187 (L) (st) (I, zsR R 11 o 29 v, al) Q := zg_80_184
theorem zh_80_187 {x : Option (Nat × Nat)} : Zgo d 80 187 (some (zq x) :: L) (st) (I, R, al) Q ↔ Zgo d 80 188 (some (zq x) :: L) (zq x :: st) (I, R, al) Q := zg_80_187
theorem zh_80_188 : Zgo d 80 188 (L) (st) (I, R, al) Q ↔ Zgo d 80 191 (L) (zi 200 :: st) (I, R, al) Q := zg_80_188
theorem zh_80_191 {n : Int} : Zgo d 80 191 (L) (zi n :: st) (I, R, al) Q ↔ if n = 200 ∧ al.1 51 = 0 then Zgo d 80 193 (L) (zq (some (51, 0)) :: st) (I, R, va_up al.1 51 1, al.2.1 + 1, al.2.2.1 + 200, al.2.2.2) Q else False := zg_80_191
theorem zh_80_193 {o : Nat} {v : Option (Nat × Nat)} : Zgo d 80 193 (L) (zq v :: zq (some (11, o)) :: st) (I, R, al) Q ↔ Zgo d 80 196 (L) (st) (I, zsR R 11 o 30 v, al) Q := zg_80_193
theorem zh_80_196 {x : Option (Nat × Nat)} : Zgo d 80 196 (some (zq x) :: L) (st) (I, R, al) Q ↔ Zgo d 80 197 (some (zq x) :: L) (zq x :: st) (I, R, al) Q := zg_80_196
theorem zh_80_197 : Zgo d 80 197 (L) (st) (I, R, al) Q ↔ Zgo d 80 199 (L) (zi 8 :: st) (I, R, al) Q := zg_80_197
theorem zh_80_199 {n : Int} : Zgo d 80 199 (L) (zi n :: st) (I, R, al) Q ↔ if n = 8 ∧ al.1 52 = 0 then Zgo d 80 201 (L) (zq (some (52, 0)) :: st) (I, R, va_up al.1 52 1, al.2.1 + 1, al.2.2.1 + 8, al.2.2.2) Q else False := zg_80_199
theorem zh_80_201 {o : Nat} {v : Option (Nat × Nat)} : Zgo d 80 201 (L) (zq v :: zq (some (11, o)) :: st) (I, R, al) Q ↔ Zgo d 80 204 (L) (st) (I, zsR R 11 o 31 v, al) Q := zg_80_201
theorem zh_80_204 {x : Option (Nat × Nat)} : Zgo d 80 204 (some (zq x) :: L) (st) (I, R, al) Q ↔ Zgo d 80 205 (some (zq x) :: L) (zq x :: st) (I, R, al) Q := zg_80_204
theorem zh_80_205 : Zgo d 80 205 (L) (st) (I, R, al) Q ↔ Zgo d 80 207 (L) (zi 8 :: st) (I, R, al) Q := zg_80_205
theorem zh_80_207 {n : Int} : Zgo d 80 207 (L) (zi n :: st) (I, R, al) Q ↔ if n = 8 ∧ al.1 53 = 0 then Zgo d 80 209 (L) (zq (some (53, 0)) :: st) (I, R, va_up al.1 53 1, al.2.1 + 1, al.2.2.1 + 8, al.2.2.2) Q else False := zg_80_207
theorem zh_80_209 {o : Nat} {v : Option (Nat × Nat)} : Zgo d 80 209 (L) (zq v :: zq (some (11, o)) :: st) (I, R, al) Q ↔ Zgo d 80 212 (L) (st) (I, zsR R 11 o 32 v, al) Q := zg_80_209
theorem zh_80_212 {x : Option (Nat × Nat)} : Zgo d 80 212 (some (zq x) :: L) (st) (I, R, al) Q ↔ Zgo d 80 213 (some (zq x) :: L) (zq x :: st) (I, R, al) Q := zg_80_212
theorem zh_80_213 : Zgo d 80 213 (L) (st) (I, R, al) Q ↔ Zgo d 80 215 (L) (zi 8 :: st) (I, R, al) Q := zg_80_213
theorem zh_80_215 {n : Int} : Zgo d 80 215 (L) (zi n :: st) (I, R, al) Q ↔ if n = 8 ∧ al.1 54 = 0 then Zgo d 80 217 (L) (zq (some (54, 0)) :: st) (I, R, va_up al.1 54 1, al.2.1 + 1, al.2.2.1 + 8, al.2.2.2) Q else False := zg_80_215
theorem zh_80_217 {o : Nat} {v : Option (Nat × Nat)} : Zgo d 80 217 (L) (zq v :: zq (some (11, o)) :: st) (I, R, al) Q ↔ Zgo d 80 220 (L) (st) (I, zsR R 11 o 33 v, al) Q := zg_80_217
theorem zh_80_220 {x : Option (Nat × Nat)} : Zgo d 80 220 (some (zq x) :: L) (st) (I, R, al) Q ↔ Zgo d 80 221 (some (zq x) :: L) (zq x :: st) (I, R, al) Q := zg_80_220
theorem zh_80_221 : Zgo d 80 221 (L) (st) (I, R, al) Q ↔ Zgo d 80 223 (L) (zi 24 :: st) (I, R, al) Q := zg_80_221
theorem zh_80_223 {n : Int} : Zgo d 80 223 (L) (zi n :: st) (I, R, al) Q ↔ if n = 24 ∧ al.1 55 = 0 then Zgo d 80 225 (L) (zq (some (55, 0)) :: st) (I, R, va_up al.1 55 1, al.2.1 + 1, al.2.2.1 + 24, al.2.2.2) Q else False := zg_80_223
theorem zh_80_225 {o : Nat} {v : Option (Nat × Nat)} : Zgo d 80 225 (L) (zq v :: zq (some (11, o)) :: st) (I, R, al) Q ↔ Zgo d 80 228 (L) (st) (I, zsR R 11 o 34 v, al) Q := zg_80_225
theorem zh_80_228 {x : Option (Nat × Nat)} : Zgo d 80 228 (some (zq x) :: L) (st) (I, R, al) Q ↔ Zgo d 80 229 (some (zq x) :: L) (zq x :: st) (I, R, al) Q := zg_80_228
theorem zh_80_229 : Zgo d 80 229 (L) (st) (I, R, al) Q ↔ Zgo d 80 230 (L) (zi (-1) :: st) (I, R, al) Q := zg_80_229
theorem zh_80_230 {o : Nat} {v : Int} : Zgo d 80 230 (L) (zi v :: zq (some (11, o)) :: st) (I, R, al) Q ↔ Zgo d 80 233 (L) (st) (zsI I 11 o 36 v, R, al) Q := zg_80_230
theorem zh_80_233 {x : Option (Nat × Nat)} : Zgo d 80 233 (some (zq x) :: L) (st) (I, R, al) Q ↔ Zgo d 80 234 (some (zq x) :: L) (zq x :: st) (I, R, al) Q := zg_80_233
theorem zh_80_234 : Zgo d 80 234 (L) (st) (I, R, al) Q ↔ Zgo d 80 237 (L) (zi 200 :: st) (I, R, al) Q := zg_80_234
theorem zh_80_237 {n : Int} : Zgo d 80 237 (L) (zi n :: st) (I, R, al) Q ↔ if n = 200 ∧ al.1 56 = 0 then Zgo d 80 239 (L) (zq (some (56, 0)) :: st) (I, R, va_up al.1 56 1, al.2.1 + 1, al.2.2.1 + 200, al.2.2.2) Q else False := zg_80_237
theorem zh_80_239 {o : Nat} {v : Option (Nat × Nat)} : Zgo d 80 239 (L) (zq v :: zq (some (11, o)) :: st) (I, R, al) Q ↔ Zgo d 80 242 (L) (st) (I, zsR R 11 o 42 v, al) Q := zg_80_239
theorem zh_80_242 {x : Option (Nat × Nat)} : Zgo d 80 242 (some (zq x) :: L) (st) (I, R, al) Q ↔ Zgo d 80 243 (some (zq x) :: L) (zq x :: st) (I, R, al) Q := zg_80_242
theorem zh_80_243 : Zgo d 80 243 (L) (st) (I, R, al) Q ↔ Zgo d 80 246 (L) (zi 200 :: st) (I, R, al) Q := zg_80_243
theorem zh_80_246 {n : Int} : Zgo d 80 246 (L) (zi n :: st) (I, R, al) Q ↔ if n = 200 ∧ al.1 57 = 0 then Zgo d 80 248 (L) (zq (some (57, 0)) :: st) (I, R, va_up al.1 57 1, al.2.1 + 1, al.2.2.1 + 200, al.2.2.2) Q else False := zg_80_246
theorem zh_80_248 {o : Nat} {v : Option (Nat × Nat)} : Zgo d 80 248 (L) (zq v :: zq (some (11, o)) :: st) (I, R, al) Q ↔ Zgo d 80 251 (L) (st) (I, zsR R 11 o 43 v, al) Q := zg_80_248
theorem zh_80_251 {x : Option (Nat × Nat)} : Zgo d 80 251 (some (zq x) :: L) (st) (I, R, al) Q ↔ Zgo d 80 252 (some (zq x) :: L) (zq x :: st) (I, R, al) Q := zg_80_251
theorem zh_80_252 : Zgo d 80 252 (L) (st) (I, R, al) Q ↔ Zgo d 80 255 (L) (zi 200 :: st) (I, R, al) Q := zg_80_252
theorem zh_80_255 {n : Int} : Zgo d 80 255 (L) (zi n :: st) (I, R, al) Q ↔ if n = 200 ∧ al.1 58 = 0 then Zgo d 80 257 (L) (zq (some (58, 0)) :: st) (I, R, va_up al.1 58 1, al.2.1 + 1, al.2.2.1 + 200, al.2.2.2) Q else False := zg_80_255
theorem zh_80_257 {o : Nat} {v : Option (Nat × Nat)} : Zgo d 80 257 (L) (zq v :: zq (some (11, o)) :: st) (I, R, al) Q ↔ Zgo d 80 260 (L) (st) (I, zsR R 11 o 44 v, al) Q := zg_80_257
theorem zh_80_260 {x : Option (Nat × Nat)} : Zgo d 80 260 (some (zq x) :: L) (st) (I, R, al) Q ↔ Zgo d 80 261 (some (zq x) :: L) (zq x :: st) (I, R, al) Q := zg_80_260
theorem zh_80_261 : Zgo d 80 261 (L) (st) (I, R, al) Q ↔ Zgo d 80 264 (L) (zi 200 :: st) (I, R, al) Q := zg_80_261
theorem zh_80_264 {n : Int} : Zgo d 80 264 (L) (zi n :: st) (I, R, al) Q ↔ if n = 200 ∧ al.1 59 = 0 then Zgo d 80 266 (L) (zq (some (59, 0)) :: st) (I, R, va_up al.1 59 1, al.2.1 + 1, al.2.2.1 + 200, al.2.2.2) Q else False := zg_80_264
theorem zh_80_266 {o : Nat} {v : Option (Nat × Nat)} : Zgo d 80 266 (L) (zq v :: zq (some (11, o)) :: st) (I, R, al) Q ↔ Zgo d 80 269 (L) (st) (I, zsR R 11 o 45 v, al) Q := zg_80_266
theorem zh_80_269 {x : Option (Nat × Nat)} : Zgo d 80 269 (some (zq x) :: L) (st) (I, R, al) Q ↔ Zgo d 80 270 (some (zq x) :: L) (zq x :: st) (I, R, al) Q := zg_80_269
theorem zh_80_270 : Zgo d 80 270 (L) (st) (I, R, al) Q ↔ Zgo d 80 273 (L) (zi 200 :: st) (I, R, al) Q := zg_80_270
theorem zh_80_273 {n : Int} : Zgo d 80 273 (L) (zi n :: st) (I, R, al) Q ↔ if n = 200 ∧ al.1 60 = 0 then Zgo d 80 275 (L) (zq (some (60, 0)) :: st) (I, R, va_up al.1 60 1, al.2.1 + 1, al.2.2.1 + 200, al.2.2.2) Q else False := zg_80_273
theorem zh_80_275 {o : Nat} {v : Option (Nat × Nat)} : Zgo d 80 275 (L) (zq v :: zq (some (11, o)) :: st) (I, R, al) Q ↔ Zgo d 80 278 (L) (st) (I, zsR R 11 o 46 v, al) Q := zg_80_275
theorem zh_80_278 {x : Option (Nat × Nat)} : Zgo d 80 278 (some (zq x) :: L) (st) (I, R, al) Q ↔ Zgo d 80 279 (some (zq x) :: L) (zq x :: st) (I, R, al) Q := zg_80_278
theorem zh_80_279 : Zgo d 80 279 (L) (st) (I, R, al) Q ↔ Zgo d 80 282 (L) (zi 200 :: st) (I, R, al) Q := zg_80_279
theorem zh_80_282 {n : Int} : Zgo d 80 282 (L) (zi n :: st) (I, R, al) Q ↔ if n = 200 ∧ al.1 61 = 0 then Zgo d 80 284 (L) (zq (some (61, 0)) :: st) (I, R, va_up al.1 61 1, al.2.1 + 1, al.2.2.1 + 200, al.2.2.2) Q else False := zg_80_282
theorem zh_80_284 {o : Nat} {v : Option (Nat × Nat)} : Zgo d 80 284 (L) (zq v :: zq (some (11, o)) :: st) (I, R, al) Q ↔ Zgo d 80 287 (L) (st) (I, zsR R 11 o 47 v, al) Q := zg_80_284
theorem zh_80_287 {x : Option (Nat × Nat)} : Zgo d 80 287 (some (zq x) :: L) (st) (I, R, al) Q ↔ Zgo d 80 288 (some (zq x) :: L) (zq x :: st) (I, R, al) Q := zg_80_287
theorem zh_80_288 : Zgo d 80 288 (L) (st) (I, R, al) Q ↔ Zgo d 80 291 (L) (zi 200 :: st) (I, R, al) Q := zg_80_288
theorem zh_80_291 {n : Int} : Zgo d 80 291 (L) (zi n :: st) (I, R, al) Q ↔ if n = 200 ∧ al.1 62 = 0 then Zgo d 80 293 (L) (zq (some (62, 0)) :: st) (I, R, va_up al.1 62 1, al.2.1 + 1, al.2.2.1 + 200, al.2.2.2) Q else False := zg_80_291
theorem zh_80_293 {o : Nat} {v : Option (Nat × Nat)} : Zgo d 80 293 (L) (zq v :: zq (some (11, o)) :: st) (I, R, al) Q ↔ Zgo d 80 296 (L) (st) (I, zsR R 11 o 48 v, al) Q := zg_80_293
theorem zh_80_296 {x : Option (Nat × Nat)} : Zgo d 80 296 (some (zq x) :: L) (st) (I, R, al) Q ↔ Zgo d 80 297 (some (zq x) :: L) (zq x :: st) (I, R, al) Q := zg_80_296
theorem zh_80_297 : Zgo d 80 297 (L) (st) (I, R, al) Q ↔ Zgo d 80 300 (L) (zi 200 :: st) (I, R, al) Q := zg_80_297
theorem zh_80_300 {n : Int} : Zgo d 80 300 (L) (zi n :: st) (I, R, al) Q ↔ if n = 200 ∧ al.1 63 = 0 then Zgo d 80 302 (L) (zq (some (63, 0)) :: st) (I, R, va_up al.1 63 1, al.2.1 + 1, al.2.2.1 + 200, al.2.2.2) Q else False := zg_80_300
theorem zh_80_302 {o : Nat} {v : Option (Nat × Nat)} : Zgo d 80 302 (L) (zq v :: zq (some (11, o)) :: st) (I, R, al) Q ↔ Zgo d 80 305 (L) (st) (I, zsR R 11 o 49 v, al) Q := zg_80_302
theorem zh_80_305 {x : Option (Nat × Nat)} : Zgo d 80 305 (some (zq x) :: L) (st) (I, R, al) Q ↔ Zgo d 80 306 (some (zq x) :: L) (zq x :: st) (I, R, al) Q := zg_80_305
theorem zh_80_306 : Zgo d 80 306 (L) (st) (I, R, al) Q ↔ Zgo d 80 309 (L) (zi 200 :: st) (I, R, al) Q := zg_80_306
theorem zh_80_309 {n : Int} : Zgo d 80 309 (L) (zi n :: st) (I, R, al) Q ↔ if n = 200 ∧ al.1 64 = 0 then Zgo d 80 311 (L) (zq (some (64, 0)) :: st) (I, R, va_up al.1 64 1, al.2.1 + 1, al.2.2.1 + 200, al.2.2.2) Q else False := zg_80_309
theorem zh_80_311 {o : Nat} {v : Option (Nat × Nat)} : Zgo d 80 311 (L) (zq v :: zq (some (11, o)) :: st) (I, R, al) Q ↔ Zgo d 80 314 (L) (st) (I, zsR R 11 o 54 v, al) Q := zg_80_311
theorem zh_80_314 : Zgo d 80 314 (L) ([]) (I, R, al) Q ↔ Q none (I, R, al) := zg_80_314
theorem zh_81_0 {x : Option (Nat × Nat)} : Zgo d 81 0 (some (zq x) :: L) (st) (I, R, al) Q ↔ Zgo d 81 1 (some (zq x) :: L) (zq x :: st) (I, R, al) Q := zg_81_0
theorem zh_81_1 {o : Nat} : Zgo d 81 1 (L) (zq (some (11, o)) :: st) (I, R, al) Q ↔ Zgo d 81 4 (L) (zi (I 11 o 0) :: st) (I, R, al) Q := zg_81_1
theorem zh_81_4 {x : Int} : Zgo d 81 4 (L) (zi x :: []) (I, R, al) Q ↔ Q (some (zi x)) (I, R, al) := zg_81_4
theorem zh_82_0 {x : Option (Nat × Nat)} : Zgo d 82 0 (some (zq x) :: L) (st) (I, R, al) Q ↔ Zgo d 82 1 (some (zq x) :: L) (zq x :: st) (I, R, al) Q := zg_82_0
theorem zh_82_1 : Zgo d 82 1 (L) (st) (I, R, al) Q ↔ Zgo d 82 2 (L) (zi 0 :: st) (I, R, al) Q := zg_82_1
theorem zh_82_2 {o : Nat} {v : Int} : Zgo d 82 2 (L) (zi v :: zq (some (11, o)) :: st) (I, R, al) Q ↔ Zgo d 82 5 (L) (st) (zsI I 11 o 0 v, R, al) Q := zg_82_2
theorem zh_82_5 {x : Option (Nat × Nat)} : Zgo d 82 5 (some (zq x) :: L) (st) (I, R, al) Q ↔ Zgo d 82 6 (some (zq x) :: L) (zq x :: st) (I, R, al) Q := zg_82_5
theorem zh_82_6 {o : Nat} : Zgo d 82 6 (L) (zq (some (11, o)) :: st) (I, R, al) Q ↔ Zgo d 82 9 (L) (zi (I 11 o 2) :: st) (I, R, al) Q := zg_82_6
theorem zh_82_9 {x : Int} : Zgo d 82 9 (a0 :: a1 :: a2 :: b0 :: L) (zi x :: st) (I, R, al) Q ↔ Zgo d 82 10 (a0 :: a1 :: zkl a2 :: some (zi x) :: L) (st) (I, R, al) Q := zg_82_9
theorem zh_82_10 : Zgo d 82 10 (L) (st) (I, R, al) Q ↔ Zgo d 82 12 (L) (zi 7 :: st) (I, R, al) Q := zg_82_10
theorem zh_82_12 {x : Int} : Zgo d 82 12 (a0 :: a1 :: a2 :: a3 :: b0 :: L) (zi x :: st) (I, R, al) Q ↔ Zgo d 82 14 (a0 :: a1 :: a2 :: zkl a3 :: some (zi x) :: L) (st) (I, R, al) Q := zg_82_12
theorem zh_82_14 {x : Int} : Zgo d 82 14 (a0 :: a1 :: a2 :: a3 :: some (zi x) :: L) (st) (I, R, al) Q ↔ Zgo d 82 16 (a0 :: a1 :: a2 :: a3 :: some (zi x) :: L) (zi x :: st) (I, R, al) Q := zg_82_14
theorem zh_82_16 {x : Int} : Zgo d 82 16 (L) (zi x :: st) (I, R, al) Q ↔ if zw x < zw 0 then Zgo d 82 78 (L) (st) (I, R, al) Q else Zgo d 82 19 (L) (st) (I, R, al) Q := zg_82_16
theorem zh_82_19 {x : Int} : Zgo d 82 19 (a0 :: some (zl x) :: L) (st) (I, R, al) Q ↔ Zgo d 82 20 (a0 :: some (zl x) :: L) (zl x :: st) (I, R, al) Q := zg_82_19
theorem zh_82_20 : Zgo d 82 20 (L) (st) (I, R, al) Q ↔ Zgo d 82 22 (L) (zi 8 :: st) (I, R, al) Q := zg_82_20
theorem zh_82_22 {x : Int} : Zgo d 82 22 (a0 :: a1 :: a2 :: a3 :: some (zi x) :: L) (st) (I, R, al) Q ↔ Zgo d 82 24 (a0 :: a1 :: a2 :: a3 :: some (zi x) :: L) (zi x :: st) (I, R, al) Q := zg_82_22
theorem zh_82_24 {x y : Int} : Zgo d 82 24 (L) (zi y :: zi x :: st) (I, R, al) Q ↔ Zgo d 82 25 (L) (zi (x * y) :: st) (I, R, al) Q := zg_82_24
theorem zh_82_25 {x y : Int} : Zgo d 82 25 (L) (zi y :: zl x :: st) (I, R, al) Q ↔ Zgo d 82 26 (L) (zl (zlshr x y) :: st) (I, R, al) Q := zg_82_25
theorem zh_82_26 : Zgo d 82 26 (L) (st) (I, R, al) Q ↔ Zgo d 82 29 (L) (zl 255 :: st) (I, R, al) Q := zg_82_26
theorem zh_82_29 {x y : Int} : Zgo d 82 29 (L) (zl y :: zl x :: st) (I, R, al) Q ↔ Zgo d 82 30 (L) (zl (zland x y) :: st) (I, R, al) Q := zg_82_29
theorem zh_82_30 {x : Int} : Zgo d 82 30 (L) (zl x :: st) (I, R, al) Q ↔ Zgo d 82 31 (L) (zi x :: st) (I, R, al) Q := zg_82_30
theorem zh_82_31 {x : Int} : Zgo d 82 31 (a0 :: a1 :: a2 :: a3 :: a4 :: b0 :: L) (zi x :: st) (I, R, al) Q ↔ Zgo d 82 33 (a0 :: a1 :: a2 :: a3 :: zkl a4 :: some (zi x) :: L) (st) (I, R, al) Q := zg_82_31
theorem zh_82_33 {x : Int} : Zgo d 82 33 (a0 :: a1 :: a2 :: a3 :: a4 :: some (zi x) :: L) (st) (I, R, al) Q ↔ Zgo d 82 35 (a0 :: a1 :: a2 :: a3 :: a4 :: some (zi x) :: L) (zi x :: st) (I, R, al) Q := zg_82_33
theorem zh_82_35 {x : Int} : Zgo d 82 35 (L) (zi x :: st) (I, R, al) Q ↔ if zw x = zw 0 then Zgo d 82 72 (L) (st) (I, R, al) Q else Zgo d 82 38 (L) (st) (I, R, al) Q := zg_82_35
theorem zh_82_38 {x : Int} : Zgo d 82 38 (a0 :: a1 :: a2 :: a3 :: a4 :: some (zi x) :: L) (st) (I, R, al) Q ↔ Zgo d 82 40 (a0 :: a1 :: a2 :: a3 :: a4 :: some (zi x) :: L) (zi x :: st) (I, R, al) Q := zg_82_38
theorem zh_82_40 : Zgo d 82 40 (L) (st) (I, R, al) Q ↔ Zgo d 82 42 (L) (zi 33 :: st) (I, R, al) Q := zg_82_40
theorem zh_82_42 {x y : Int} : Zgo d 82 42 (L) (zi y :: zi x :: st) (I, R, al) Q ↔ if zw x < zw y then Zgo d 82 59 (L) (st) (I, R, al) Q else Zgo d 82 45 (L) (st) (I, R, al) Q := zg_82_42
theorem zh_82_45 {x : Int} : Zgo d 82 45 (a0 :: a1 :: a2 :: a3 :: a4 :: some (zi x) :: L) (st) (I, R, al) Q ↔ Zgo d 82 47 (a0 :: a1 :: a2 :: a3 :: a4 :: some (zi x) :: L) (zi x :: st) (I, R, al) Q := zg_82_45
theorem zh_82_47 : Zgo d 82 47 (L) (st) (I, R, al) Q ↔ Zgo d 82 49 (L) (zi 126 :: st) (I, R, al) Q := zg_82_47
theorem zh_82_49 {x y : Int} : Zgo d 82 49 (L) (zi y :: zi x :: st) (I, R, al) Q ↔ if zw y < zw x then Zgo d 82 59 (L) (st) (I, R, al) Q else Zgo d 82 52 (L) (st) (I, R, al) Q := zg_82_49
theorem zh_82_52 {x : Int} : Zgo d 82 52 (a0 :: a1 :: a2 :: some (zi x) :: L) (st) (I, R, al) Q ↔ Zgo d 82 53 (a0 :: a1 :: a2 :: some (zi x) :: L) (zi x :: st) (I, R, al) Q := zg_82_52
theorem zh_82_53 : Zgo d 82 53 (L) (st) (I, R, al) Q ↔ Zgo d 82 56 (L) (zi 160 :: st) (I, R, al) Q := zg_82_53
theorem zh_82_56 {x y : Int} : Zgo d 82 56 (L) (zi y :: zi x :: st) (I, R, al) Q ↔ if zw x = zw y then Zgo d 82 59 (L) (st) (I, R, al) Q else Zgo d 82 61 (L) (st) (I, R, al) Q := zg_82_56
theorem zh_82_59 : Zgo d 82 59 (L) (st) (I, R, al) Q ↔ Zgo d 82 60 (L) (zi 0 :: st) (I, R, al) Q := zg_82_59
theorem zh_82_60 {x : Int} : Zgo d 82 60 (L) (zi x :: []) (I, R, al) Q ↔ zok 1 x False (Q (some (zi x)) (I, R, al)) := zg_82_60
theorem zh_82_61 {x : Option (Nat × Nat)} : Zgo d 82 61 (some (zq x) :: L) (st) (I, R, al) Q ↔ Zgo d 82 62 (some (zq x) :: L) (zq x :: st) (I, R, al) Q := zg_82_61
theorem zh_82_62 {o : Nat} : Zgo d 82 62 (L) (zq (some (11, o)) :: st) (I, R, al) Q ↔ Zgo d 82 65 (L) (zq (R 11 o 1) :: st) (I, R, al) Q := zg_82_62
theorem zh_82_65 {x : Int} : Zgo d 82 65 (a0 :: a1 :: a2 :: some (zi x) :: L) (st) (I, R, al) Q ↔ Zgo d 82 66 (a0 :: a1 :: a2 :: some (zi x) :: L) (zi x :: st) (I, R, al) Q := zg_82_65
theorem zh_82_66 {x : Int} : Zgo d 82 66 (a0 :: a1 :: a2 :: a3 :: a4 :: some (zi x) :: L) (st) (I, R, al) Q ↔ Zgo d 82 68 (a0 :: a1 :: a2 :: a3 :: a4 :: some (zi x) :: L) (zi x :: st) (I, R, al) Q := zg_82_66
theorem zh_82_68 {v j : Int} {c o : Nat} : Zgo d 82 68 (L) (zi v :: zi j :: zq (some (c, o)) :: st) (I, R, al) Q ↔ zal (zArr c) 0 j (fun x => Zgo d 82 69 (L) (st) (zsI I c o x v, R, al) Q) := zg_82_68
theorem zh_82_69 {x : Int} : Zgo d 82 69 (a0 :: a1 :: a2 :: some (zi x) :: L) (st) (I, R, al) Q ↔ Zgo d 82 72 (a0 :: a1 :: zkl a2 :: some (zi (x + 1)) :: L) (st) (I, R, al) Q := zg_82_69
theorem zh_82_72 {x : Int} : Zgo d 82 72 (a0 :: a1 :: a2 :: a3 :: some (zi x) :: L) (st) (I, R, al) Q ↔ Zgo d 82 75 (a0 :: a1 :: a2 :: zkl a3 :: some (zi (x + (-1))) :: L) (st) (I, R, al) Q := zg_82_72
theorem zh_82_75 : Zgo d 82 75 (L) (st) (I, R, al) Q ↔ Zgo d 82 14 (L) (st) (I, R, al) Q := zg_82_75
theorem zh_82_78 {x : Option (Nat × Nat)} : Zgo d 82 78 (some (zq x) :: L) (st) (I, R, al) Q ↔ Zgo d 82 79 (some (zq x) :: L) (zq x :: st) (I, R, al) Q := zg_82_78
theorem zh_82_79 {x : Int} : Zgo d 82 79 (a0 :: a1 :: a2 :: some (zi x) :: L) (st) (I, R, al) Q ↔ Zgo d 82 80 (a0 :: a1 :: a2 :: some (zi x) :: L) (zi x :: st) (I, R, al) Q := zg_82_79
theorem zh_82_80 {o : Nat} {v : Int} : Zgo d 82 80 (L) (zi v :: zq (some (11, o)) :: st) (I, R, al) Q ↔ Zgo d 82 83 (L) (st) (zsI I 11 o 2 v, R, al) Q := zg_82_80
theorem zh_82_83 : Zgo d 82 83 (L) (st) (I, R, al) Q ↔ Zgo d 82 84 (L) (zi 1 :: st) (I, R, al) Q := zg_82_83
theorem zh_82_84 {x : Int} : Zgo d 82 84 (L) (zi x :: []) (I, R, al) Q ↔ zok 1 x False (Q (some (zi x)) (I, R, al)) := zg_82_84
theorem zh_83_0 {x : Option (Nat × Nat)} : Zgo d 83 0 (some (zq x) :: L) (st) (I, R, al) Q ↔ Zgo d 83 1 (some (zq x) :: L) (zq x :: st) (I, R, al) Q := zg_83_0
theorem zh_83_1 : Zgo d 83 1 (L) (st) (I, R, al) Q ↔ Zgo d 83 2 (L) (zi 0 :: st) (I, R, al) Q := zg_83_1
theorem zh_83_2 {o : Nat} {v : Int} : Zgo d 83 2 (L) (zi v :: zq (some (11, o)) :: st) (I, R, al) Q ↔ Zgo d 83 5 (L) (st) (zsI I 11 o 0 v, R, al) Q := zg_83_2
theorem zh_83_5 {x : Option (Nat × Nat)} : Zgo d 83 5 (some (zq x) :: L) (st) (I, R, al) Q ↔ Zgo d 83 6 (some (zq x) :: L) (zq x :: st) (I, R, al) Q := zg_83_5
theorem zh_83_6 : Zgo d 83 6 (L) (st) (I, R, al) Q ↔ Zgo d 83 7 (L) (zi 0 :: st) (I, R, al) Q := zg_83_6
theorem zh_83_7 {o : Nat} {v : Int} : Zgo d 83 7 (L) (zi v :: zq (some (11, o)) :: st) (I, R, al) Q ↔ Zgo d 83 10 (L) (st) (zsI I 11 o 2 v, R, al) Q := zg_83_7
theorem zh_83_10 : Zgo d 83 10 (L) ([]) (I, R, al) Q ↔ Q none (I, R, al) := zg_83_10
end
