/-! what each instruction does to the shapes that it finds (1) -/
section
variable {d : Nat} {L : zL} {st : List zV} {I : zMI} {R : zMR} {al : zA} {Q : Option zV → zS → Prop} {a0 a1 a2 a3 a4 a5 a6 a7 a8 b0 : Option zV}
theorem zh_30_0 {x : Option (Nat × Nat)} : Zgo d 30 0 (some (zq x) :: L) (st) (I, R, al) Q ↔ Zgo d 30 1 (some (zq x) :: L) (zq x :: st) (I, R, al) Q := zg_30_0
theorem zh_30_1 {o : Nat} : Zgo d 30 1 (L) (zq (some (7, o)) :: st) (I, R, al) Q ↔ Zgo d 30 4 (L) (zi (I 7 o 5) :: st) (I, R, al) Q := zg_30_1
theorem zh_30_4 : Zgo d 30 4 (L) (st) (I, R, al) Q ↔ Zgo d 30 6 (L) (zi 80 :: st) (I, R, al) Q := zg_30_4
theorem zh_30_6 {x y : Int} : Zgo d 30 6 (L) (zi y :: zi x :: st) (I, R, al) Q ↔ if zw x = zw y then Zgo d 30 9 (L) (st) (I, R, al) Q else Zgo d 30 11 (L) (st) (I, R, al) Q := zg_30_6
theorem zh_30_9 : Zgo d 30 9 (L) (st) (I, R, al) Q ↔ Zgo d 30 10 (L) (zq none :: st) (I, R, al) Q := zg_30_9
theorem zh_30_10 {x : Option (Nat × Nat)} : Zgo d 30 10 (L) (zq x :: []) (I, R, al) Q ↔ Q (some (zq x)) (I, R, al) := zg_30_10
theorem zh_30_11 {x : Option (Nat × Nat)} : Zgo d 30 11 (some (zq x) :: L) (st) (I, R, al) Q ↔ Zgo d 30 12 (some (zq x) :: L) (zq x :: st) (I, R, al) Q := zg_30_11
theorem zh_30_12 {o : Nat} : Zgo d 30 12 (L) (zq (some (7, o)) :: st) (I, R, al) Q ↔ Zgo d 30 15 (L) (zq (R 7 o 2) :: st) (I, R, al) Q := zg_30_12
theorem zh_30_15 {x : Option (Nat × Nat)} : Zgo d 30 15 (some (zq x) :: L) (st) (I, R, al) Q ↔ Zgo d 30 16 (some (zq x) :: L) (zq x :: st) (I, R, al) Q := zg_30_15
theorem zh_30_16 {x : Int} : Zgo d 30 16 (L) (zi x :: st) (I, R, al) Q ↔ Zgo d 30 17 (L) (zi x :: zi x :: st) (I, R, al) Q := zg_30_16
theorem zh_30_16q {u : Option (Nat × Nat)} : Zgo d 30 16 (L) (zq u :: st) (I, R, al) Q ↔ Zgo d 30 17 (L) (zq u :: zq u :: st) (I, R, al) Q := zg_30_16
theorem zh_30_17 {o : Nat} : Zgo d 30 17 (L) (zq (some (7, o)) :: st) (I, R, al) Q ↔ Zgo d 30 20 (L) (zi (I 7 o 5) :: st) (I, R, al) Q := zg_30_17
theorem zh_30_20 {x : Int} {z : Int} : Zgo d 30 20 (L) (zi x :: zi z :: st) (I, R, al) Q ↔ Zgo d 30 21 (L) (zi x :: zi z :: zi x :: st) (I, R, al) Q := zg_30_20
theorem zh_30_20r {x : Int} {w : Option (Nat × Nat)} : Zgo d 30 20 (L) (zi x :: zq w :: st) (I, R, al) Q ↔ Zgo d 30 21 (L) (zi x :: zq w :: zi x :: st) (I, R, al) Q := zg_30_20
theorem zh_30_20qi {u : Option (Nat × Nat)} {z : Int} : Zgo d 30 20 (L) (zq u :: zi z :: st) (I, R, al) Q ↔ Zgo d 30 21 (L) (zq u :: zi z :: zq u :: st) (I, R, al) Q := zg_30_20
theorem zh_30_20qr {u : Option (Nat × Nat)} {w : Option (Nat × Nat)} : Zgo d 30 20 (L) (zq u :: zq w :: st) (I, R, al) Q ↔ Zgo d 30 21 (L) (zq u :: zq w :: zq u :: st) (I, R, al) Q := zg_30_20
theorem zh_30_21 : Zgo d 30 21 (L) (st) (I, R, al) Q ↔ Zgo d 30 22 (L) (zi 1 :: st) (I, R, al) Q := zg_30_21
theorem zh_30_22 {x y : Int} : Zgo d 30 22 (L) (zi y :: zi x :: st) (I, R, al) Q ↔ Zgo d 30 23 (L) (zi (x + y) :: st) (I, R, al) Q := zg_30_22
theorem zh_30_23 {o : Nat} {v : Int} : Zgo d 30 23 (L) (zi v :: zq (some (7, o)) :: st) (I, R, al) Q ↔ Zgo d 30 26 (L) (st) (zsI I 7 o 5 v, R, al) Q := zg_30_23
theorem zh_30_26 {j : Int} {c o : Nat} : Zgo d 30 26 (L) (zi j :: zq (some (c, o)) :: st) (I, R, al) Q ↔ zal (zlen (I, R, al) c) 3 j (fun x => Zgo d 30 27 (L) (zq (R c o x) :: st) (I, R, al) Q) := zg_30_26
theorem zh_30_27 {x : Option (Nat × Nat)} : Zgo d 30 27 (a0 :: a1 :: a2 :: b0 :: L) (zq x :: st) (I, R, al) Q ↔ Zgo d 30 28 (a0 :: a1 :: zkl a2 :: some (zq x) :: L) (st) (I, R, al) Q := zg_30_27
theorem zh_30_28 {x : Option (Nat × Nat)} : Zgo d 30 28 (a0 :: a1 :: a2 :: some (zq x) :: L) (st) (I, R, al) Q ↔ Zgo d 30 29 (a0 :: a1 :: a2 :: some (zq x) :: L) (zq x :: st) (I, R, al) Q := zg_30_28
theorem zh_30_29 {x : Int} : Zgo d 30 29 (a0 :: a1 :: some (zi x) :: L) (st) (I, R, al) Q ↔ Zgo d 30 30 (a0 :: a1 :: some (zi x) :: L) (zi x :: st) (I, R, al) Q := zg_30_29
theorem zh_30_30 {o : Nat} {v : Int} : Zgo d 30 30 (L) (zi v :: zq (some (4, o)) :: st) (I, R, al) Q ↔ zok 2 v False (Zgo d 30 33 (L) (st) (zsI I 4 o 0 v, R, al) Q) := zg_30_30
theorem zh_30_33 {x : Option (Nat × Nat)} : Zgo d 30 33 (a0 :: a1 :: a2 :: some (zq x) :: L) (st) (I, R, al) Q ↔ Zgo d 30 34 (a0 :: a1 :: a2 :: some (zq x) :: L) (zq x :: st) (I, R, al) Q := zg_30_33
theorem zh_30_34 {x : Option (Nat × Nat)} : Zgo d 30 34 (a0 :: some (zq x) :: L) (st) (I, R, al) Q ↔ Zgo d 30 35 (a0 :: some (zq x) :: L) (zq x :: st) (I, R, al) Q := zg_30_34
theorem zh_30_35 {o : Nat} {v : Option (Nat × Nat)} : Zgo d 30 35 (L) (zq v :: zq (some (4, o)) :: st) (I, R, al) Q ↔ Zgo d 30 38 (L) (st) (I, zsR R 4 o 4 v, al) Q := zg_30_35
theorem zh_30_38 {x : Option (Nat × Nat)} : Zgo d 30 38 (a0 :: a1 :: a2 :: some (zq x) :: L) (st) (I, R, al) Q ↔ Zgo d 30 39 (a0 :: a1 :: a2 :: some (zq x) :: L) (zq x :: st) (I, R, al) Q := zg_30_38
theorem zh_30_39 {x : Option (Nat × Nat)} : Zgo d 30 39 (a0 :: some (zq x) :: L) (st) (I, R, al) Q ↔ Zgo d 30 40 (a0 :: some (zq x) :: L) (zq x :: st) (I, R, al) Q := zg_30_39
theorem zh_30_40 {o : Nat} : Zgo d 30 40 (L) (zq (some (3, o)) :: st) (I, R, al) Q ↔ Zgo d 30 43 (L) (zq (R 3 o 4) :: st) (I, R, al) Q := zg_30_40
theorem zh_30_43 {o : Nat} {v : Option (Nat × Nat)} : Zgo d 30 43 (L) (zq v :: zq (some (4, o)) :: st) (I, R, al) Q ↔ Zgo d 30 46 (L) (st) (I, zsR R 4 o 5 v, al) Q := zg_30_43
theorem zh_30_46 {x : Option (Nat × Nat)} : Zgo d 30 46 (a0 :: a1 :: a2 :: some (zq x) :: L) (st) (I, R, al) Q ↔ Zgo d 30 47 (a0 :: a1 :: a2 :: some (zq x) :: L) (zq x :: st) (I, R, al) Q := zg_30_46
theorem zh_30_47 : Zgo d 30 47 (L) (st) (I, R, al) Q ↔ Zgo d 30 48 (L) (zq none :: st) (I, R, al) Q := zg_30_47
theorem zh_30_48 {o : Nat} {v : Option (Nat × Nat)} : Zgo d 30 48 (L) (zq v :: zq (some (4, o)) :: st) (I, R, al) Q ↔ Zgo d 30 51 (L) (st) (I, zsR R 4 o 6 v, al) Q := zg_30_48
theorem zh_30_51 {x : Option (Nat × Nat)} : Zgo d 30 51 (a0 :: a1 :: a2 :: some (zq x) :: L) (st) (I, R, al) Q ↔ Zgo d 30 52 (a0 :: a1 :: a2 :: some (zq x) :: L) (zq x :: st) (I, R, al) Q := zg_30_51
theorem zh_30_52 : Zgo d 30 52 (L) (st) (I, R, al) Q ↔ Zgo d 30 53 (L) (zq none :: st) (I, R, al) Q := zg_30_52
theorem zh_30_53 {o : Nat} {v : Option (Nat × Nat)} : Zgo d 30 53 (L) (zq v :: zq (some (4, o)) :: st) (I, R, al) Q ↔ Zgo d 30 56 (L) (st) (I, zsR R 4 o 7 v, al) Q := zg_30_53
theorem zh_30_56 {x : Option (Nat × Nat)} : Zgo d 30 56 (a0 :: a1 :: a2 :: some (zq x) :: L) (st) (I, R, al) Q ↔ Zgo d 30 57 (a0 :: a1 :: a2 :: some (zq x) :: L) (zq x :: st) (I, R, al) Q := zg_30_56
theorem zh_30_57 : Zgo d 30 57 (L) (st) (I, R, al) Q ↔ Zgo d 30 58 (L) (zq none :: st) (I, R, al) Q := zg_30_57
theorem zh_30_58 {o : Nat} {v : Option (Nat × Nat)} : Zgo d 30 58 (L) (zq v :: zq (some (4, o)) :: st) (I, R, al) Q ↔ Zgo d 30 61 (L) (st) (I, zsR R 4 o 8 v, al) Q := zg_30_58
theorem zh_30_61 {x : Option (Nat × Nat)} : Zgo d 30 61 (a0 :: a1 :: a2 :: some (zq x) :: L) (st) (I, R, al) Q ↔ Zgo d 30 62 (a0 :: a1 :: a2 :: some (zq x) :: L) (zq x :: st) (I, R, al) Q := zg_30_61
theorem zh_30_62 : Zgo d 30 62 (L) (st) (I, R, al) Q ↔ Zgo d 30 63 (L) (zq none :: st) (I, R, al) Q := zg_30_62
theorem zh_30_63 {o : Nat} {v : Option (Nat × Nat)} : Zgo d 30 63 (L) (zq v :: zq (some (4, o)) :: st) (I, R, al) Q ↔ Zgo d 30 66 (L) (st) (I, zsR R 4 o 9 v, al) Q := zg_30_63
theorem zh_30_66 {x : Option (Nat × Nat)} : Zgo d 30 66 (a0 :: some (zq x) :: L) (st) (I, R, al) Q ↔ Zgo d 30 67 (a0 :: some (zq x) :: L) (zq x :: st) (I, R, al) Q := zg_30_66
theorem zh_30_67 {o : Nat} : Zgo d 30 67 (L) (zq (some (3, o)) :: st) (I, R, al) Q ↔ Zgo d 30 70 (L) (zq (R 3 o 4) :: st) (I, R, al) Q := zg_30_67
theorem zh_30_70n : Zgo d 30 70 (L) (zq none :: st) (I, R, al) Q ↔ Zgo d 30 73 (L) (st) (I, R, al) Q := zg_30_70
theorem zh_30_70 {q : Nat × Nat} : Zgo d 30 70 (L) (zq (some q) :: st) (I, R, al) Q ↔ Zgo d 30 81 (L) (st) (I, R, al) Q := zg_30_70
theorem zh_30_73 {x : Option (Nat × Nat)} : Zgo d 30 73 (a0 :: some (zq x) :: L) (st) (I, R, al) Q ↔ Zgo d 30 74 (a0 :: some (zq x) :: L) (zq x :: st) (I, R, al) Q := zg_30_73
theorem zh_30_74 {x : Option (Nat × Nat)} : Zgo d 30 74 (a0 :: a1 :: a2 :: some (zq x) :: L) (st) (I, R, al) Q ↔ Zgo d 30 75 (a0 :: a1 :: a2 :: some (zq x) :: L) (zq x :: st) (I, R, al) Q := zg_30_74
theorem zh_30_75 {o : Nat} {v : Option (Nat × Nat)} : Zgo d 30 75 (L) (zq v :: zq (some (3, o)) :: st) (I, R, al) Q ↔ Zgo d 30 78 (L) (st) (I, zsR R 3 o 3 v, al) Q := zg_30_75
theorem zh_30_78 : Zgo d 30 78 (L) (st) (I, R, al) Q ↔ Zgo d 30 89 (L) (st) (I, R, al) Q := zg_30_78
theorem zh_30_81 {x : Option (Nat × Nat)} : Zgo d 30 81 (a0 :: some (zq x) :: L) (st) (I, R, al) Q ↔ Zgo d 30 82 (a0 :: some (zq x) :: L) (zq x :: st) (I, R, al) Q := zg_30_81
theorem zh_30_82 {o : Nat} : Zgo d 30 82 (L) (zq (some (3, o)) :: st) (I, R, al) Q ↔ Zgo d 30 85 (L) (zq (R 3 o 4) :: st) (I, R, al) Q := zg_30_82
theorem zh_30_85 {x : Option (Nat × Nat)} : Zgo d 30 85 (a0 :: a1 :: a2 :: some (zq x) :: L) (st) (I, R, al) Q ↔ Zgo d 30 86 (a0 :: a1 :: a2 :: some (zq x) :: L) (zq x :: st) (I, R, al) Q := zg_30_85
theorem zh_30_86 {o : Nat} {v : Option (Nat × Nat)} : Zgo d 30 86 (L) (zq v :: zq (some (4, o)) :: st) (I, R, al) Q ↔ Zgo d 30 89 (L) (st) (I, zsR R 4 o 6 v, al) Q := zg_30_86
theorem zh_30_89 {x : Option (Nat × Nat)} : Zgo d 30 89 (a0 :: some (zq x) :: L) (st) (I, R, al) Q ↔ Zgo d 30 90 (a0 :: some (zq x) :: L) (zq x :: st) (I, R, al) Q := zg_30_89
theorem zh_30_90 {x : Option (Nat × Nat)} : Zgo d 30 90 (a0 :: a1 :: a2 :: some (zq x) :: L) (st) (I, R, al) Q ↔ Zgo d 30 91 (a0 :: a1 :: a2 :: some (zq x) :: L) (zq x :: st) (I, R, al) Q := zg_30_90
theorem zh_30_91 {o : Nat} {v : Option (Nat × Nat)} : Zgo d 30 91 (L) (zq v :: zq (some (3, o)) :: st) (I, R, al) Q ↔ Zgo d 30 94 (L) (st) (I, zsR R 3 o 4 v, al) Q := zg_30_91
theorem zh_30_94 {x : Option (Nat × Nat)} : Zgo d 30 94 (a0 :: a1 :: a2 :: some (zq x) :: L) (st) (I, R, al) Q ↔ Zgo d 30 95 (a0 :: a1 :: a2 :: some (zq x) :: L) (zq x :: st) (I, R, al) Q := zg_30_94
theorem zh_30_95 {x : Option (Nat × Nat)} : Zgo d 30 95 (L) (zq x :: []) (I, R, al) Q ↔ Q (some (zq x)) (I, R, al) := zg_30_95
theorem zh_31_0 {x : Option (Nat × Nat)} : Zgo d 31 0 (a0 :: some (zq x) :: L) (st) (I, R, al) Q ↔ Zgo d 31 1 (a0 :: some (zq x) :: L) (zq x :: st) (I, R, al) Q := zg_31_0
theorem zh_31_1 {x : Option (Nat × Nat)} : Zgo d 31 1 (some (zq x) :: L) (st) (I, R, al) Q ↔ Zgo d 31 2 (some (zq x) :: L) (zq x :: st) (I, R, al) Q := zg_31_1
theorem zh_31_2 {o : Nat} : Zgo d 31 2 (L) (zq (some (8, o)) :: st) (I, R, al) Q ↔ Zgo d 31 5 (L) (zq (R 8 o 1) :: st) (I, R, al) Q := zg_31_2
theorem zh_31_5 {o : Nat} : Zgo d 31 5 (L) (zq (some (7, o)) :: st) (I, R, al) Q ↔ Zgo d 31 8 (L) (zq (R 7 o 3) :: st) (I, R, al) Q := zg_31_5
theorem zh_31_8 {o : Nat} : Zgo d 31 8 (L) (zq (some (6, o)) :: st) (I, R, al) Q ↔ Zgo d 31 11 (L) (zi (I 6 o 2) :: st) (I, R, al) Q := zg_31_8
theorem zh_31_11 {o : Nat} {v : Int} : Zgo d 31 11 (L) (zi v :: zq (some (4, o)) :: st) (I, R, al) Q ↔ Zgo d 31 14 (L) (st) (zsI I 4 o 2 v, R, al) Q := zg_31_11
theorem zh_31_14 {x : Option (Nat × Nat)} : Zgo d 31 14 (some (zq x) :: L) (st) (I, R, al) Q ↔ Zgo d 31 15 (some (zq x) :: L) (zq x :: st) (I, R, al) Q := zg_31_14
theorem zh_31_15 : Zgo d 31 15 (L) (st) (I, R, al) Q ↔ Zgo d 31 16 (L) (zi 0 :: st) (I, R, al) Q := zg_31_15
theorem zh_31_16 {v1 : zV} {o : Nat} : Zgo d 31 16 (L) (v1 :: zq (some (8, o)) :: st) (I, R, al) Q ↔ if zwt st ≤ 8 then zCp d 32 [zq (some (8, o)), v1] (I, R, al) (fun r S2 => Zgo d 31 19 L (r.toList ++ st) S2 Q) else False := zg_31_16
theorem zh_31_19 {x : Int} : Zgo d 31 19 (a0 :: a1 :: b0 :: L) (zi x :: st) (I, R, al) Q ↔ Zgo d 31 20 (a0 :: zkl a1 :: some (zi x) :: L) (st) (I, R, al) Q := zg_31_19
theorem zh_31_20 {x : Option (Nat × Nat)} : Zgo d 31 20 (a0 :: some (zq x) :: L) (st) (I, R, al) Q ↔ Zgo d 31 21 (a0 :: some (zq x) :: L) (zq x :: st) (I, R, al) Q := zg_31_20
theorem zh_31_21 {x : Option (Nat × Nat)} : Zgo d 31 21 (some (zq x) :: L) (st) (I, R, al) Q ↔ Zgo d 31 22 (some (zq x) :: L) (zq x :: st) (I, R, al) Q := zg_31_21
theorem zh_31_22 {o : Nat} : Zgo d 31 22 (L) (zq (some (8, o)) :: st) (I, R, al) Q ↔ Zgo d 31 25 (L) (zq (R 8 o 1) :: st) (I, R, al) Q := zg_31_22
theorem zh_31_25 {o : Nat} : Zgo d 31 25 (L) (zq (some (7, o)) :: st) (I, R, al) Q ↔ Zgo d 31 28 (L) (zq (R 7 o 3) :: st) (I, R, al) Q := zg_31_25
theorem zh_31_28 {o : Nat} : Zgo d 31 28 (L) (zq (some (6, o)) :: st) (I, R, al) Q ↔ Zgo d 31 31 (L) (zi (I 6 o 2) :: st) (I, R, al) Q := zg_31_28
theorem zh_31_31 {o : Nat} {v : Int} : Zgo d 31 31 (L) (zi v :: zq (some (4, o)) :: st) (I, R, al) Q ↔ Zgo d 31 34 (L) (st) (zsI I 4 o 3 v, R, al) Q := zg_31_31
theorem zh_31_34 {x : Int} : Zgo d 31 34 (a0 :: a1 :: some (zi x) :: L) (st) (I, R, al) Q ↔ Zgo d 31 35 (a0 :: a1 :: some (zi x) :: L) (zi x :: st) (I, R, al) Q := zg_31_34
theorem zh_31_35 {x : Int} : Zgo d 31 35 (L) (zi x :: []) (I, R, al) Q ↔ zok 1 x False (Q (some (zi x)) (I, R, al)) := zg_31_35
theorem zh_32_0 {x : Int} : Zgo d 32 0 (a0 :: some (zi x) :: L) (st) (I, R, al) Q ↔ Zgo d 32 1 (a0 :: some (zi x) :: L) (zi x :: st) (I, R, al) Q := zg_32_0
theorem zh_32_1 : Zgo d 32 1 (L) (st) (I, R, al) Q ↔ Zgo d 32 2 (L) (zi 3 :: st) (I, R, al) Q := zg_32_1
theorem zh_32_2 {x y : Int} : Zgo d 32 2 (L) (zi y :: zi x :: st) (I, R, al) Q ↔ if zw y < zw x then Zgo d 32 13 (L) (st) (I, R, al) Q else Zgo d 32 5 (L) (st) (I, R, al) Q := zg_32_2
theorem zh_32_5 {x : Option (Nat × Nat)} : Zgo d 32 5 (some (zq x) :: L) (st) (I, R, al) Q ↔ Zgo d 32 6 (some (zq x) :: L) (zq x :: st) (I, R, al) Q := zg_32_5
theorem zh_32_6 {x : Int} : Zgo d 32 6 (a0 :: some (zi x) :: L) (st) (I, R, al) Q ↔ Zgo d 32 7 (a0 :: some (zi x) :: L) (zi x :: st) (I, R, al) Q := zg_32_6
theorem zh_32_7 {v1 : zV} {o : Nat} : Zgo d 32 7 (L) (v1 :: zq (some (8, o)) :: st) (I, R, al) Q ↔ if zwt st ≤ 8 then zCp d 33 [zq (some (8, o)), v1] (I, R, al) (fun r S2 => Zgo d 32 10 L (r.toList ++ st) S2 Q) else False := zg_32_7
theorem zh_32_10 {x : Int} : Zgo d 32 10 (L) (zi x :: st) (I, R, al) Q ↔ if zw x = zw 0 then Zgo d 32 13 (L) (st) (I, R, al) Q else Zgo d 32 15 (L) (st) (I, R, al) Q := zg_32_10
theorem zh_32_13 : Zgo d 32 13 (L) (st) (I, R, al) Q ↔ Zgo d 32 14 (L) (zi 0 :: st) (I, R, al) Q := zg_32_13
theorem zh_32_14 {x : Int} : Zgo d 32 14 (L) (zi x :: []) (I, R, al) Q ↔ zok 1 x False (Q (some (zi x)) (I, R, al)) := zg_32_14
theorem zh_32_15 : Zgo d 32 15 (L) (st) (I, R, al) Q ↔ Zgo d 32 16 (L) (zi 0 :: st) (I, R, al) Q := zg_32_15
theorem zh_32_16 {x : Int} : Zgo d 32 16 (a0 :: a1 :: b0 :: L) (zi x :: st) (I, R, al) Q ↔ Zgo d 32 17 (a0 :: zkl a1 :: some (zi x) :: L) (st) (I, R, al) Q := zg_32_16
theorem zh_32_17 {x : Int} : Zgo d 32 17 (a0 :: a1 :: some (zi x) :: L) (st) (I, R, al) Q ↔ Zgo d 32 18 (a0 :: a1 :: some (zi x) :: L) (zi x :: st) (I, R, al) Q := zg_32_17
theorem zh_32_18 : Zgo d 32 18 (L) (st) (I, R, al) Q ↔ Zgo d 32 21 (L) (zi 160 :: st) (I, R, al) Q := zg_32_18
theorem zh_32_21 {x y : Int} : Zgo d 32 21 (L) (zi y :: zi x :: st) (I, R, al) Q ↔ if zw x < zw y then Zgo d 32 24 (L) (st) (I, R, al) Q else Zgo d 32 82 (L) (st) (I, R, al) Q := zg_32_21
theorem zh_32_24 : Zgo d 32 24 (L) (st) (I, R, al) Q ↔ Zgo d 32 26 (L) (zq (some (91, 0)) :: st) (I, R, al) Q := zg_32_24
theorem zh_32_26 {x : Option (Nat × Nat)} : Zgo d 32 26 (some (zq x) :: L) (st) (I, R, al) Q ↔ Zgo d 32 27 (some (zq x) :: L) (zq x :: st) (I, R, al) Q := zg_32_26
theorem zh_32_27 {o : Nat} : Zgo d 32 27 (L) (zq (some (8, o)) :: st) (I, R, al) Q ↔ if zwt st ≤ 8 then zCp d 29 [zq (some (8, o))] (I, R, al) (fun r S2 => Zgo d 32 30 L (r.toList ++ st) S2 Q) else False := zg_32_27
theorem zh_32_30 {v1 : zV} {o : Nat} : Zgo d 32 30 (L) (v1 :: zq (some (91, o)) :: st) (I, R, al) Q ↔ if zwt st ≤ 8 then zCp d 900 [zq (some (91, o)), v1] (I, R, al) (fun r S2 => Zgo d 32 33 L (r.toList ++ st) S2 Q) else False := zg_32_30
theorem zh_32_33 {x : Int} : Zgo d 32 33 (L) (zi x :: st) (I, R, al) Q ↔ if zw x < zw 0 then Zgo d 32 82 (L) (st) (I, R, al) Q else Zgo d 32 36 (L) (st) (I, R, al) Q := zg_32_33
theorem zh_32_36 {x : Option (Nat × Nat)} : Zgo d 32 36 (some (zq x) :: L) (st) (I, R, al) Q ↔ Zgo d 32 37 (some (zq x) :: L) (zq x :: st) (I, R, al) Q := zg_32_36
theorem zh_32_37 {o : Nat} : Zgo d 32 37 (L) (zq (some (8, o)) :: st) (I, R, al) Q ↔ if zwt st ≤ 8 then zCp d 29 [zq (some (8, o))] (I, R, al) (fun r S2 => Zgo d 32 40 L (r.toList ++ st) S2 Q) else False := zg_32_37
theorem zh_32_40 {x : Int} : Zgo d 32 40 (a0 :: a1 :: a2 :: b0 :: L) (zi x :: st) (I, R, al) Q ↔ Zgo d 32 41 (a0 :: a1 :: zkl a2 :: some (zi x) :: L) (st) (I, R, al) Q := zg_32_40
theorem zh_32_41 {x : Option (Nat × Nat)} : Zgo d 32 41 (some (zq x) :: L) (st) (I, R, al) Q ↔ Zgo d 32 42 (some (zq x) :: L) (zq x :: st) (I, R, al) Q := zg_32_41
theorem zh_32_42 {x : Int} : Zgo d 32 42 (L) (zi x :: st) (I, R, al) Q ↔ Zgo d 32 43 (L) (zi x :: zi x :: st) (I, R, al) Q := zg_32_42
theorem zh_32_42q {u : Option (Nat × Nat)} : Zgo d 32 42 (L) (zq u :: st) (I, R, al) Q ↔ Zgo d 32 43 (L) (zq u :: zq u :: st) (I, R, al) Q := zg_32_42
theorem zh_32_43 {o : Nat} : Zgo d 32 43 (L) (zq (some (8, o)) :: st) (I, R, al) Q ↔ Zgo d 32 46 (L) (zi (I 8 o 2) :: st) (I, R, al) Q := zg_32_43
theorem zh_32_46 : Zgo d 32 46 (L) (st) (I, R, al) Q ↔ Zgo d 32 47 (L) (zi 1 :: st) (I, R, al) Q := zg_32_46
theorem zh_32_47 {x y : Int} : Zgo d 32 47 (L) (zi y :: zi x :: st) (I, R, al) Q ↔ Zgo d 32 48 (L) (zi (x + y) :: st) (I, R, al) Q := zg_32_47
theorem zh_32_48 {o : Nat} {v : Int} : Zgo d 32 48 (L) (zi v :: zq (some (8, o)) :: st) (I, R, al) Q ↔ Zgo d 32 51 (L) (st) (zsI I 8 o 2 v, R, al) Q := zg_32_48
theorem zh_32_51 {x : Option (Nat × Nat)} : Zgo d 32 51 (some (zq x) :: L) (st) (I, R, al) Q ↔ Zgo d 32 52 (some (zq x) :: L) (zq x :: st) (I, R, al) Q := zg_32_51
theorem zh_32_52 {x : Int} : Zgo d 32 52 (a0 :: some (zi x) :: L) (st) (I, R, al) Q ↔ Zgo d 32 53 (a0 :: some (zi x) :: L) (zi x :: st) (I, R, al) Q := zg_32_52
theorem zh_32_53 {v1 : zV} {o : Nat} : Zgo d 32 53 (L) (v1 :: zq (some (8, o)) :: st) (I, R, al) Q ↔ if zwt st ≤ 8 then zCp d 33 [zq (some (8, o)), v1] (I, R, al) (fun r S2 => Zgo d 32 56 L (r.toList ++ st) S2 Q) else False := zg_32_53
theorem zh_32_56 {x : Int} : Zgo d 32 56 (L) (zi x :: st) (I, R, al) Q ↔ if zw x = zw 0 then Zgo d 32 74 (L) (st) (I, R, al) Q else Zgo d 32 59 (L) (st) (I, R, al) Q := zg_32_56
theorem zh_32_59 {x : Option (Nat × Nat)} : Zgo d 32 59 (some (zq x) :: L) (st) (I, R, al) Q ↔ Zgo d 32 60 (some (zq x) :: L) (zq x :: st) (I, R, al) Q := zg_32_59
theorem zh_32_60 {o : Nat} : Zgo d 32 60 (L) (zq (some (8, o)) :: st) (I, R, al) Q ↔ Zgo d 32 63 (L) (zq (R 8 o 1) :: st) (I, R, al) Q := zg_32_60
theorem zh_32_63 {o : Nat} : Zgo d 32 63 (L) (zq (some (7, o)) :: st) (I, R, al) Q ↔ Zgo d 32 66 (L) (zq (R 7 o 3) :: st) (I, R, al) Q := zg_32_63
theorem zh_32_66 {x : Int} : Zgo d 32 66 (a0 :: a1 :: a2 :: some (zi x) :: L) (st) (I, R, al) Q ↔ Zgo d 32 67 (a0 :: a1 :: a2 :: some (zi x) :: L) (zi x :: st) (I, R, al) Q := zg_32_66
theorem zh_32_67 : Zgo d 32 67 (L) (st) (I, R, al) Q ↔ Zgo d 32 68 (L) (zi 0 :: st) (I, R, al) Q := zg_32_67
theorem zh_32_68 {v1 v2 : zV} {o : Nat} : Zgo d 32 68 (L) (v2 :: v1 :: zq (some (6, o)) :: st) (I, R, al) Q ↔ if zwt st ≤ 8 then zCp d 34 [zq (some (6, o)), v1, v2] (I, R, al) (fun r S2 => Zgo d 32 71 L (r.toList ++ st) S2 Q) else False := zg_32_68
theorem zh_32_71 {x : Int} : Zgo d 32 71 (L) (zi x :: st) (I, R, al) Q ↔ if zw x = zw 0 then Zgo d 32 74 (L) (st) (I, R, al) Q else Zgo d 32 76 (L) (st) (I, R, al) Q := zg_32_71
theorem zh_32_74 : Zgo d 32 74 (L) (st) (I, R, al) Q ↔ Zgo d 32 75 (L) (zi 0 :: st) (I, R, al) Q := zg_32_74
theorem zh_32_75 {x : Int} : Zgo d 32 75 (L) (zi x :: []) (I, R, al) Q ↔ zok 1 x False (Q (some (zi x)) (I, R, al)) := zg_32_75
theorem zh_32_76 {x : Int} : Zgo d 32 76 (a0 :: a1 :: some (zi x) :: L) (st) (I, R, al) Q ↔ Zgo d 32 79 (a0 :: zkl a1 :: some (zi (x + 1)) :: L) (st) (I, R, al) Q := zg_32_76
theorem zh_32_79 : Zgo d 32 79 (L) (st) (I, R, al) Q ↔ Zgo d 32 17 (L) (st) (I, R, al) Q := zg_32_79
theorem zh_32_82 : Zgo d 32 82 (L) (st) (I, R, al) Q ↔ Zgo d 32 83 (L) (zi 1 :: st) (I, R, al) Q := zg_32_82
theorem zh_32_83 {x : Int} : Zgo d 32 83 (L) (zi x :: []) (I, R, al) Q ↔ zok 1 x False (Q (some (zi x)) (I, R, al)) := zg_32_83
theorem zh_33_0 {x : Option (Nat × Nat)} : Zgo d 33 0 (some (zq x) :: L) (st) (I, R, al) Q ↔ Zgo d 33 1 (some (zq x) :: L) (zq x :: st) (I, R, al) Q := zg_33_0
theorem zh_33_1 : Zgo d 33 1 (L) (st) (I, R, al) Q ↔ Zgo d 33 3 (L) (zi 40 :: st) (I, R, al) Q := zg_33_1
theorem zh_33_3 {v1 : zV} {o : Nat} : Zgo d 33 3 (L) (v1 :: zq (some (8, o)) :: st) (I, R, al) Q ↔ if zwt st ≤ 8 then zCp d 20 [zq (some (8, o)), v1] (I, R, al) (fun r S2 => Zgo d 33 6 L (r.toList ++ st) S2 Q) else False := zg_33_3
theorem zh_33_6 {x : Int} : Zgo d 33 6 (L) (zi x :: st) (I, R, al) Q ↔ if zw x = zw 0 then Zgo d 33 34 (L) (st) (I, R, al) Q else Zgo d 33 9 (L) (st) (I, R, al) Q := zg_33_6
theorem zh_33_9 {x : Option (Nat × Nat)} : Zgo d 33 9 (some (zq x) :: L) (st) (I, R, al) Q ↔ Zgo d 33 10 (some (zq x) :: L) (zq x :: st) (I, R, al) Q := zg_33_9
theorem zh_33_10 {x : Int} : Zgo d 33 10 (a0 :: some (zi x) :: L) (st) (I, R, al) Q ↔ Zgo d 33 11 (a0 :: some (zi x) :: L) (zi x :: st) (I, R, al) Q := zg_33_10
theorem zh_33_11 : Zgo d 33 11 (L) (st) (I, R, al) Q ↔ Zgo d 33 12 (L) (zi 1 :: st) (I, R, al) Q := zg_33_11
theorem zh_33_12 {x y : Int} : Zgo d 33 12 (L) (zi y :: zi x :: st) (I, R, al) Q ↔ Zgo d 33 13 (L) (zi (x + y) :: st) (I, R, al) Q := zg_33_12
theorem zh_33_13 {v1 : zV} {o : Nat} : Zgo d 33 13 (L) (v1 :: zq (some (8, o)) :: st) (I, R, al) Q ↔ if zwt st ≤ 8 then zCp d 32 [zq (some (8, o)), v1] (I, R, al) (fun r S2 => Zgo d 33 16 L (r.toList ++ st) S2 Q) else False := zg_33_13
theorem zh_33_16 {x : Int} : Zgo d 33 16 (L) (zi x :: st) (I, R, al) Q ↔ if zw x = zw 0 then Zgo d 33 32 (L) (st) (I, R, al) Q else Zgo d 33 19 (L) (st) (I, R, al) Q := zg_33_16
theorem zh_33_19 {x : Option (Nat × Nat)} : Zgo d 33 19 (some (zq x) :: L) (st) (I, R, al) Q ↔ Zgo d 33 20 (some (zq x) :: L) (zq x :: st) (I, R, al) Q := zg_33_19
theorem zh_33_20 : Zgo d 33 20 (L) (st) (I, R, al) Q ↔ Zgo d 33 22 (L) (zi 41 :: st) (I, R, al) Q := zg_33_20
theorem zh_33_22 {v1 : zV} {o : Nat} : Zgo d 33 22 (L) (v1 :: zq (some (8, o)) :: st) (I, R, al) Q ↔ if zwt st ≤ 8 then zCp d 20 [zq (some (8, o)), v1] (I, R, al) (fun r S2 => Zgo d 33 25 L (r.toList ++ st) S2 Q) else False := zg_33_22
theorem zh_33_25 {x : Int} : Zgo d 33 25 (L) (zi x :: st) (I, R, al) Q ↔ if zw x = zw 0 then Zgo d 33 32 (L) (st) (I, R, al) Q else Zgo d 33 28 (L) (st) (I, R, al) Q := zg_33_25
theorem zh_33_28 : Zgo d 33 28 (L) (st) (I, R, al) Q ↔ Zgo d 33 29 (L) (zi 1 :: st) (I, R, al) Q := zg_33_28
theorem zh_33_29 : Zgo d 33 29 (L) (st) (I, R, al) Q ↔ Zgo d 33 33 (L) (st) (I, R, al) Q := zg_33_29
theorem zh_33_32 : Zgo d 33 32 (L) (st) (I, R, al) Q ↔ Zgo d 33 33 (L) (zi 0 :: st) (I, R, al) Q := zg_33_32
theorem zh_33_33 {x : Int} : Zgo d 33 33 (L) (zi x :: []) (I, R, al) Q ↔ zok 1 x False (Q (some (zi x)) (I, R, al)) := zg_33_33
theorem zh_33_34 {x : Option (Nat × Nat)} : Zgo d 33 34 (some (zq x) :: L) (st) (I, R, al) Q ↔ Zgo d 33 35 (some (zq x) :: L) (zq x :: st) (I, R, al) Q := zg_33_34
theorem zh_33_35 : Zgo d 33 35 (L) (st) (I, R, al) Q ↔ Zgo d 33 37 (L) (zi 97 :: st) (I, R, al) Q := zg_33_35
theorem zh_33_37 : Zgo d 33 37 (L) (st) (I, R, al) Q ↔ Zgo d 33 39 (L) (zi 104 :: st) (I, R, al) Q := zg_33_37
theorem zh_33_39 {v1 v2 : zV} {o : Nat} : Zgo d 33 39 (L) (v2 :: v1 :: zq (some (8, o)) :: st) (I, R, al) Q ↔ if zwt st ≤ 8 then zCp d 22 [zq (some (8, o)), v1, v2] (I, R, al) (fun r S2 => Zgo d 33 42 L (r.toList ++ st) S2 Q) else False := zg_33_39
theorem zh_33_42 {x : Int} : Zgo d 33 42 (a0 :: a1 :: b0 :: L) (zi x :: st) (I, R, al) Q ↔ Zgo d 33 43 (a0 :: zkl a1 :: some (zi x) :: L) (st) (I, R, al) Q := zg_33_42
theorem zh_33_43 {x : Int} : Zgo d 33 43 (a0 :: a1 :: some (zi x) :: L) (st) (I, R, al) Q ↔ Zgo d 33 44 (a0 :: a1 :: some (zi x) :: L) (zi x :: st) (I, R, al) Q := zg_33_43
theorem zh_33_44 : Zgo d 33 44 (L) (st) (I, R, al) Q ↔ Zgo d 33 45 (L) (zi (-1) :: st) (I, R, al) Q := zg_33_44
theorem zh_33_45 {x y : Int} : Zgo d 33 45 (L) (zi y :: zi x :: st) (I, R, al) Q ↔ if zw x = zw y then Zgo d 33 62 (L) (st) (I, R, al) Q else Zgo d 33 48 (L) (st) (I, R, al) Q := zg_33_45
theorem zh_33_48 {x : Option (Nat × Nat)} : Zgo d 33 48 (some (zq x) :: L) (st) (I, R, al) Q ↔ Zgo d 33 49 (some (zq x) :: L) (zq x :: st) (I, R, al) Q := zg_33_48
theorem zh_33_49 {o : Nat} : Zgo d 33 49 (L) (zq (some (8, o)) :: st) (I, R, al) Q ↔ Zgo d 33 52 (L) (zq (R 8 o 1) :: st) (I, R, al) Q := zg_33_49
theorem zh_33_52 {o : Nat} : Zgo d 33 52 (L) (zq (some (7, o)) :: st) (I, R, al) Q ↔ Zgo d 33 55 (L) (zq (R 7 o 3) :: st) (I, R, al) Q := zg_33_52
theorem zh_33_55 : Zgo d 33 55 (L) (st) (I, R, al) Q ↔ Zgo d 33 57 (L) (zi 118 :: st) (I, R, al) Q := zg_33_55
theorem zh_33_57 {x : Int} : Zgo d 33 57 (a0 :: a1 :: some (zi x) :: L) (st) (I, R, al) Q ↔ Zgo d 33 58 (a0 :: a1 :: some (zi x) :: L) (zi x :: st) (I, R, al) Q := zg_33_57
theorem zh_33_58 {v1 v2 : zV} {o : Nat} : Zgo d 33 58 (L) (v2 :: v1 :: zq (some (6, o)) :: st) (I, R, al) Q ↔ if zwt st ≤ 8 then zCp d 34 [zq (some (6, o)), v1, v2] (I, R, al) (fun r S2 => Zgo d 33 61 L (r.toList ++ st) S2 Q) else False := zg_33_58
theorem zh_33_61 {x : Int} : Zgo d 33 61 (L) (zi x :: []) (I, R, al) Q ↔ zok 1 x False (Q (some (zi x)) (I, R, al)) := zg_33_61
theorem zh_33_62 {x : Option (Nat × Nat)} : Zgo d 33 62 (some (zq x) :: L) (st) (I, R, al) Q ↔ Zgo d 33 63 (some (zq x) :: L) (zq x :: st) (I, R, al) Q := zg_33_62
theorem zh_33_63 {o : Nat} : Zgo d 33 63 (L) (zq (some (8, o)) :: st) (I, R, al) Q ↔ if zwt st ≤ 8 then zCp d 35 [zq (some (8, o))] (I, R, al) (fun r S2 => Zgo d 33 66 L (r.toList ++ st) S2 Q) else False := zg_33_63
theorem zh_33_66 {x : Int} : Zgo d 33 66 (L) (zi x :: []) (I, R, al) Q ↔ zok 1 x False (Q (some (zi x)) (I, R, al)) := zg_33_66
theorem zh_34_0 {x : Option (Nat × Nat)} : Zgo d 34 0 (some (zq x) :: L) (st) (I, R, al) Q ↔ Zgo d 34 1 (some (zq x) :: L) (zq x :: st) (I, R, al) Q := zg_34_0
theorem zh_34_1 {o : Nat} : Zgo d 34 1 (L) (zq (some (6, o)) :: st) (I, R, al) Q ↔ Zgo d 34 4 (L) (zi (I 6 o 2) :: st) (I, R, al) Q := zg_34_1
theorem zh_34_4 : Zgo d 34 4 (L) (st) (I, R, al) Q ↔ Zgo d 34 7 (L) (zi 160 :: st) (I, R, al) Q := zg_34_4
theorem zh_34_7 {x y : Int} : Zgo d 34 7 (L) (zi y :: zi x :: st) (I, R, al) Q ↔ if zw x = zw y then Zgo d 34 10 (L) (st) (I, R, al) Q else Zgo d 34 12 (L) (st) (I, R, al) Q := zg_34_7
theorem zh_34_10 : Zgo d 34 10 (L) (st) (I, R, al) Q ↔ Zgo d 34 11 (L) (zi 0 :: st) (I, R, al) Q := zg_34_10
theorem zh_34_11 {x : Int} : Zgo d 34 11 (L) (zi x :: []) (I, R, al) Q ↔ zok 1 x False (Q (some (zi x)) (I, R, al)) := zg_34_11
theorem zh_34_12 {x : Option (Nat × Nat)} : Zgo d 34 12 (some (zq x) :: L) (st) (I, R, al) Q ↔ Zgo d 34 13 (some (zq x) :: L) (zq x :: st) (I, R, al) Q := zg_34_12
theorem zh_34_13 {o : Nat} : Zgo d 34 13 (L) (zq (some (6, o)) :: st) (I, R, al) Q ↔ Zgo d 34 16 (L) (zq (R 6 o 0) :: st) (I, R, al) Q := zg_34_13
theorem zh_34_16 {x : Option (Nat × Nat)} : Zgo d 34 16 (some (zq x) :: L) (st) (I, R, al) Q ↔ Zgo d 34 17 (some (zq x) :: L) (zq x :: st) (I, R, al) Q := zg_34_16
theorem zh_34_17 {o : Nat} : Zgo d 34 17 (L) (zq (some (6, o)) :: st) (I, R, al) Q ↔ Zgo d 34 20 (L) (zi (I 6 o 2) :: st) (I, R, al) Q := zg_34_17
theorem zh_34_20 {x : Int} : Zgo d 34 20 (a0 :: some (zi x) :: L) (st) (I, R, al) Q ↔ Zgo d 34 21 (a0 :: some (zi x) :: L) (zi x :: st) (I, R, al) Q := zg_34_20
theorem zh_34_21 {v j : Int} {c o : Nat} : Zgo d 34 21 (L) (zi v :: zi j :: zq (some (c, o)) :: st) (I, R, al) Q ↔ zal (zArr c) 2 j (fun x => Zgo d 34 22 (L) (st) (zsI I c o x (v % 65536), R, al) Q) := zg_34_21
theorem zh_34_22 {x : Option (Nat × Nat)} : Zgo d 34 22 (some (zq x) :: L) (st) (I, R, al) Q ↔ Zgo d 34 23 (some (zq x) :: L) (zq x :: st) (I, R, al) Q := zg_34_22
theorem zh_34_23 {o : Nat} : Zgo d 34 23 (L) (zq (some (6, o)) :: st) (I, R, al) Q ↔ Zgo d 34 26 (L) (zq (R 6 o 1) :: st) (I, R, al) Q := zg_34_23
theorem zh_34_26 {x : Option (Nat × Nat)} : Zgo d 34 26 (some (zq x) :: L) (st) (I, R, al) Q ↔ Zgo d 34 27 (some (zq x) :: L) (zq x :: st) (I, R, al) Q := zg_34_26
theorem zh_34_27 {o : Nat} : Zgo d 34 27 (L) (zq (some (6, o)) :: st) (I, R, al) Q ↔ Zgo d 34 30 (L) (zi (I 6 o 2) :: st) (I, R, al) Q := zg_34_27
theorem zh_34_30 {x : Int} : Zgo d 34 30 (a0 :: a1 :: some (zi x) :: L) (st) (I, R, al) Q ↔ Zgo d 34 31 (a0 :: a1 :: some (zi x) :: L) (zi x :: st) (I, R, al) Q := zg_34_30
theorem zh_34_31 {v j : Int} {c o : Nat} : Zgo d 34 31 (L) (zi v :: zi j :: zq (some (c, o)) :: st) (I, R, al) Q ↔ zal (zArr c) 0 j (fun x => Zgo d 34 32 (L) (st) (zsI I c o x v, R, al) Q) := zg_34_31
theorem zh_34_32 {x : Option (Nat × Nat)} : Zgo d 34 32 (some (zq x) :: L) (st) (I, R, al) Q ↔ Zgo d 34 33 (some (zq x) :: L) (zq x :: st) (I, R, al) Q := zg_34_32
theorem zh_34_33 {x : Int} : Zgo d 34 33 (L) (zi x :: st) (I, R, al) Q ↔ Zgo d 34 34 (L) (zi x :: zi x :: st) (I, R, al) Q := zg_34_33
theorem zh_34_33q {u : Option (Nat × Nat)} : Zgo d 34 33 (L) (zq u :: st) (I, R, al) Q ↔ Zgo d 34 34 (L) (zq u :: zq u :: st) (I, R, al) Q := zg_34_33
theorem zh_34_34 {o : Nat} : Zgo d 34 34 (L) (zq (some (6, o)) :: st) (I, R, al) Q ↔ Zgo d 34 37 (L) (zi (I 6 o 2) :: st) (I, R, al) Q := zg_34_34
theorem zh_34_37 : Zgo d 34 37 (L) (st) (I, R, al) Q ↔ Zgo d 34 38 (L) (zi 1 :: st) (I, R, al) Q := zg_34_37
theorem zh_34_38 {x y : Int} : Zgo d 34 38 (L) (zi y :: zi x :: st) (I, R, al) Q ↔ Zgo d 34 39 (L) (zi (x + y) :: st) (I, R, al) Q := zg_34_38
theorem zh_34_39 {o : Nat} {v : Int} : Zgo d 34 39 (L) (zi v :: zq (some (6, o)) :: st) (I, R, al) Q ↔ Zgo d 34 42 (L) (st) (zsI I 6 o 2 v, R, al) Q := zg_34_39
theorem zh_34_42 : Zgo d 34 42 (L) (st) (I, R, al) Q ↔ Zgo d 34 43 (L) (zi 1 :: st) (I, R, al) Q := zg_34_42
theorem zh_34_43 {x : Int} : Zgo d 34 43 (L) (zi x :: []) (I, R, al) Q ↔ zok 1 x False (Q (some (zi x)) (I, R, al)) := zg_34_43
theorem zh_35_0 : Zgo d 35 0 (L) (st) (I, R, al) Q ↔ Zgo d 35 1 (L) (zi 0 :: st) (I, R, al) Q := zg_35_0
theorem zh_35_1 {x : Int} : Zgo d 35 1 (a0 :: b0 :: L) (zi x :: st) (I, R, al) Q ↔ Zgo d 35 2 (zkl a0 :: some (zi x) :: L) (st) (I, R, al) Q := zg_35_1
theorem zh_35_2 : Zgo d 35 2 (L) (st) (I, R, al) Q ↔ Zgo d 35 3 (L) (zi 0 :: st) (I, R, al) Q := zg_35_2
theorem zh_35_3 {x : Int} : Zgo d 35 3 (a0 :: a1 :: b0 :: L) (zi x :: st) (I, R, al) Q ↔ Zgo d 35 4 (a0 :: zkl a1 :: some (zi x) :: L) (st) (I, R, al) Q := zg_35_3
theorem zh_35_4 {x : Option (Nat × Nat)} : Zgo d 35 4 (some (zq x) :: L) (st) (I, R, al) Q ↔ Zgo d 35 5 (some (zq x) :: L) (zq x :: st) (I, R, al) Q := zg_35_4
theorem zh_35_5 : Zgo d 35 5 (L) (st) (I, R, al) Q ↔ Zgo d 35 7 (L) (zi 48 :: st) (I, R, al) Q := zg_35_5
theorem zh_35_7 : Zgo d 35 7 (L) (st) (I, R, al) Q ↔ Zgo d 35 9 (L) (zi 57 :: st) (I, R, al) Q := zg_35_7
theorem zh_35_9 {v1 v2 : zV} {o : Nat} : Zgo d 35 9 (L) (v2 :: v1 :: zq (some (8, o)) :: st) (I, R, al) Q ↔ if zwt st ≤ 8 then zCp d 22 [zq (some (8, o)), v1, v2] (I, R, al) (fun r S2 => Zgo d 35 12 L (r.toList ++ st) S2 Q) else False := zg_35_9
theorem zh_35_12 {x : Int} : Zgo d 35 12 (a0 :: a1 :: a2 :: b0 :: L) (zi x :: st) (I, R, al) Q ↔ Zgo d 35 13 (a0 :: a1 :: zkl a2 :: some (zi x) :: L) (st) (I, R, al) Q := zg_35_12
theorem zh_35_13 {x : Int} : Zgo d 35 13 (a0 :: a1 :: a2 :: some (zi x) :: L) (st) (I, R, al) Q ↔ Zgo d 35 14 (a0 :: a1 :: a2 :: some (zi x) :: L) (zi x :: st) (I, R, al) Q := zg_35_13
theorem zh_35_14 : Zgo d 35 14 (L) (st) (I, R, al) Q ↔ Zgo d 35 15 (L) (zi (-1) :: st) (I, R, al) Q := zg_35_14
theorem zh_35_15 {x y : Int} : Zgo d 35 15 (L) (zi y :: zi x :: st) (I, R, al) Q ↔ if zw x = zw y then Zgo d 35 45 (L) (st) (I, R, al) Q else Zgo d 35 18 (L) (st) (I, R, al) Q := zg_35_15
theorem zh_35_18 {x : Int} : Zgo d 35 18 (a0 :: a1 :: some (zi x) :: L) (st) (I, R, al) Q ↔ Zgo d 35 19 (a0 :: a1 :: some (zi x) :: L) (zi x :: st) (I, R, al) Q := zg_35_18
theorem zh_35_19 : Zgo d 35 19 (L) (st) (I, R, al) Q ↔ Zgo d 35 20 (L) (zi 3 :: st) (I, R, al) Q := zg_35_19
theorem zh_35_20 {x y : Int} : Zgo d 35 20 (L) (zi y :: zi x :: st) (I, R, al) Q ↔ if zw y < zw x then Zgo d 35 45 (L) (st) (I, R, al) Q else Zgo d 35 23 (L) (st) (I, R, al) Q := zg_35_20
theorem zh_35_23 {x : Int} : Zgo d 35 23 (a0 :: some (zi x) :: L) (st) (I, R, al) Q ↔ Zgo d 35 24 (a0 :: some (zi x) :: L) (zi x :: st) (I, R, al) Q := zg_35_23
theorem zh_35_24 : Zgo d 35 24 (L) (st) (I, R, al) Q ↔ Zgo d 35 26 (L) (zi 10 :: st) (I, R, al) Q := zg_35_24
theorem zh_35_26 {x y : Int} : Zgo d 35 26 (L) (zi y :: zi x :: st) (I, R, al) Q ↔ Zgo d 35 27 (L) (zi (x * y) :: st) (I, R, al) Q := zg_35_26
theorem zh_35_27 {x : Int} : Zgo d 35 27 (a0 :: a1 :: a2 :: some (zi x) :: L) (st) (I, R, al) Q ↔ Zgo d 35 28 (a0 :: a1 :: a2 :: some (zi x) :: L) (zi x :: st) (I, R, al) Q := zg_35_27
theorem zh_35_28 {x y : Int} : Zgo d 35 28 (L) (zi y :: zi x :: st) (I, R, al) Q ↔ Zgo d 35 29 (L) (zi (x + y) :: st) (I, R, al) Q := zg_35_28
theorem zh_35_29 {x : Int} : Zgo d 35 29 (a0 :: b0 :: L) (zi x :: st) (I, R, al) Q ↔ Zgo d 35 30 (zkl a0 :: some (zi x) :: L) (st) (I, R, al) Q := zg_35_29
theorem zh_35_30 {x : Option (Nat × Nat)} : Zgo d 35 30 (some (zq x) :: L) (st) (I, R, al) Q ↔ Zgo d 35 31 (some (zq x) :: L) (zq x :: st) (I, R, al) Q := zg_35_30
theorem zh_35_31 : Zgo d 35 31 (L) (st) (I, R, al) Q ↔ Zgo d 35 33 (L) (zi 48 :: st) (I, R, al) Q := zg_35_31
theorem zh_35_33 : Zgo d 35 33 (L) (st) (I, R, al) Q ↔ Zgo d 35 35 (L) (zi 57 :: st) (I, R, al) Q := zg_35_33
theorem zh_35_35 {v1 v2 : zV} {o : Nat} : Zgo d 35 35 (L) (v2 :: v1 :: zq (some (8, o)) :: st) (I, R, al) Q ↔ if zwt st ≤ 8 then zCp d 22 [zq (some (8, o)), v1, v2] (I, R, al) (fun r S2 => Zgo d 35 38 L (r.toList ++ st) S2 Q) else False := zg_35_35
theorem zh_35_38 {x : Int} : Zgo d 35 38 (a0 :: a1 :: a2 :: b0 :: L) (zi x :: st) (I, R, al) Q ↔ Zgo d 35 39 (a0 :: a1 :: zkl a2 :: some (zi x) :: L) (st) (I, R, al) Q := zg_35_38
theorem zh_35_39 {x : Int} : Zgo d 35 39 (a0 :: a1 :: some (zi x) :: L) (st) (I, R, al) Q ↔ Zgo d 35 42 (a0 :: zkl a1 :: some (zi (x + 1)) :: L) (st) (I, R, al) Q := zg_35_39
theorem zh_35_42 : Zgo d 35 42 (L) (st) (I, R, al) Q ↔ Zgo d 35 13 (L) (st) (I, R, al) Q := zg_35_42
theorem zh_35_45 {x : Int} : Zgo d 35 45 (a0 :: a1 :: some (zi x) :: L) (st) (I, R, al) Q ↔ Zgo d 35 46 (a0 :: a1 :: some (zi x) :: L) (zi x :: st) (I, R, al) Q := zg_35_45
theorem zh_35_46 : Zgo d 35 46 (L) (st) (I, R, al) Q ↔ Zgo d 35 47 (L) (zi 1 :: st) (I, R, al) Q := zg_35_46
theorem zh_35_47 {x y : Int} : Zgo d 35 47 (L) (zi y :: zi x :: st) (I, R, al) Q ↔ if zw x < zw y then Zgo d 35 75 (L) (st) (I, R, al) Q else Zgo d 35 50 (L) (st) (I, R, al) Q := zg_35_47
theorem zh_35_50 {x : Int} : Zgo d 35 50 (a0 :: a1 :: some (zi x) :: L) (st) (I, R, al) Q ↔ Zgo d 35 51 (a0 :: a1 :: some (zi x) :: L) (zi x :: st) (I, R, al) Q := zg_35_50
theorem zh_35_51 : Zgo d 35 51 (L) (st) (I, R, al) Q ↔ Zgo d 35 52 (L) (zi 3 :: st) (I, R, al) Q := zg_35_51
theorem zh_35_52 {x y : Int} : Zgo d 35 52 (L) (zi y :: zi x :: st) (I, R, al) Q ↔ if zw y < zw x then Zgo d 35 75 (L) (st) (I, R, al) Q else Zgo d 35 55 (L) (st) (I, R, al) Q := zg_35_52
theorem zh_35_55 {x : Option (Nat × Nat)} : Zgo d 35 55 (some (zq x) :: L) (st) (I, R, al) Q ↔ Zgo d 35 56 (some (zq x) :: L) (zq x :: st) (I, R, al) Q := zg_35_55
theorem zh_35_56 {o : Nat} : Zgo d 35 56 (L) (zq (some (8, o)) :: st) (I, R, al) Q ↔ Zgo d 35 59 (L) (zq (R 8 o 1) :: st) (I, R, al) Q := zg_35_56
theorem zh_35_59 {o : Nat} : Zgo d 35 59 (L) (zq (some (7, o)) :: st) (I, R, al) Q ↔ Zgo d 35 62 (L) (zq (R 7 o 3) :: st) (I, R, al) Q := zg_35_59
theorem zh_35_62 : Zgo d 35 62 (L) (st) (I, R, al) Q ↔ Zgo d 35 64 (L) (zi 110 :: st) (I, R, al) Q := zg_35_62
theorem zh_35_64 {x : Int} : Zgo d 35 64 (a0 :: some (zi x) :: L) (st) (I, R, al) Q ↔ Zgo d 35 65 (a0 :: some (zi x) :: L) (zi x :: st) (I, R, al) Q := zg_35_64
theorem zh_35_65 {v1 v2 : zV} {o : Nat} : Zgo d 35 65 (L) (v2 :: v1 :: zq (some (6, o)) :: st) (I, R, al) Q ↔ if zwt st ≤ 8 then zCp d 34 [zq (some (6, o)), v1, v2] (I, R, al) (fun r S2 => Zgo d 35 68 L (r.toList ++ st) S2 Q) else False := zg_35_65
theorem zh_35_68 {x : Int} : Zgo d 35 68 (L) (zi x :: st) (I, R, al) Q ↔ if zw x = zw 0 then Zgo d 35 75 (L) (st) (I, R, al) Q else Zgo d 35 71 (L) (st) (I, R, al) Q := zg_35_68
theorem zh_35_71 : Zgo d 35 71 (L) (st) (I, R, al) Q ↔ Zgo d 35 72 (L) (zi 1 :: st) (I, R, al) Q := zg_35_71
theorem zh_35_72 : Zgo d 35 72 (L) (st) (I, R, al) Q ↔ Zgo d 35 76 (L) (st) (I, R, al) Q := zg_35_72
theorem zh_35_75 : Zgo d 35 75 (L) (st) (I, R, al) Q ↔ Zgo d 35 76 (L) (zi 0 :: st) (I, R, al) Q := zg_35_75
theorem zh_35_76 {x : Int} : Zgo d 35 76 (L) (zi x :: []) (I, R, al) Q ↔ zok 1 x False (Q (some (zi x)) (I, R, al)) := zg_35_76
theorem zh_36_0 {x : Option (Nat × Nat)} : Zgo d 36 0 (some (zq x) :: L) (st) (I, R, al) Q ↔ Zgo d 36 1 (some (zq x) :: L) (zq x :: st) (I, R, al) Q := zg_36_0
theorem zh_36_1 {x : Option (Nat × Nat)} : Zgo d 36 1 (a0 :: some (zq x) :: L) (st) (I, R, al) Q ↔ Zgo d 36 2 (a0 :: some (zq x) :: L) (zq x :: st) (I, R, al) Q := zg_36_1
theorem zh_36_2 {v1 : zV} {o : Nat} : Zgo d 36 2 (L) (v1 :: zq (some (8, o)) :: st) (I, R, al) Q ↔ if zwt st ≤ 8 then zCp d 31 [zq (some (8, o)), v1] (I, R, al) (fun r S2 => Zgo d 36 5 L (r.toList ++ st) S2 Q) else False := zg_36_2
theorem zh_36_5 {x : Int} : Zgo d 36 5 (L) (zi x :: st) (I, R, al) Q ↔ if zw x = zw 0 then Zgo d 36 8 (L) (st) (I, R, al) Q else Zgo d 36 10 (L) (st) (I, R, al) Q := zg_36_5
theorem zh_36_8 : Zgo d 36 8 (L) (st) (I, R, al) Q ↔ Zgo d 36 9 (L) (zi 0 :: st) (I, R, al) Q := zg_36_8
theorem zh_36_9 {x : Int} : Zgo d 36 9 (L) (zi x :: []) (I, R, al) Q ↔ zok 1 x False (Q (some (zi x)) (I, R, al)) := zg_36_9
theorem zh_36_10 {x : Option (Nat × Nat)} : Zgo d 36 10 (a0 :: some (zq x) :: L) (st) (I, R, al) Q ↔ Zgo d 36 11 (a0 :: some (zq x) :: L) (zq x :: st) (I, R, al) Q := zg_36_10
theorem zh_36_11 {x : Option (Nat × Nat)} : Zgo d 36 11 (some (zq x) :: L) (st) (I, R, al) Q ↔ Zgo d 36 12 (some (zq x) :: L) (zq x :: st) (I, R, al) Q := zg_36_11
theorem zh_36_12 {x : Option (Nat × Nat)} : Zgo d 36 12 (a0 :: a1 :: some (zq x) :: L) (st) (I, R, al) Q ↔ Zgo d 36 13 (a0 :: a1 :: some (zq x) :: L) (zq x :: st) (I, R, al) Q := zg_36_12
theorem zh_36_13 {v1 : zV} {o : Nat} : Zgo d 36 13 (L) (v1 :: zq (some (8, o)) :: st) (I, R, al) Q ↔ if zwt st ≤ 8 then zCp d 37 [zq (some (8, o)), v1] (I, R, al) (fun r S2 => Zgo d 36 16 L (r.toList ++ st) S2 Q) else False := zg_36_13
theorem zh_36_16 {o : Nat} {v : Option (Nat × Nat)} : Zgo d 36 16 (L) (zq v :: zq (some (4, o)) :: st) (I, R, al) Q ↔ Zgo d 36 19 (L) (st) (I, zsR R 4 o 7 v, al) Q := zg_36_16
theorem zh_36_19 {x : Option (Nat × Nat)} : Zgo d 36 19 (a0 :: some (zq x) :: L) (st) (I, R, al) Q ↔ Zgo d 36 20 (a0 :: some (zq x) :: L) (zq x :: st) (I, R, al) Q := zg_36_19
theorem zh_36_20 {o : Nat} : Zgo d 36 20 (L) (zq (some (4, o)) :: st) (I, R, al) Q ↔ Zgo d 36 23 (L) (zq (R 4 o 7) :: st) (I, R, al) Q := zg_36_20
theorem zh_36_23n : Zgo d 36 23 (L) (zq none :: st) (I, R, al) Q ↔ Zgo d 36 26 (L) (st) (I, R, al) Q := zg_36_23
theorem zh_36_23 {q : Nat × Nat} : Zgo d 36 23 (L) (zq (some q) :: st) (I, R, al) Q ↔ Zgo d 36 28 (L) (st) (I, R, al) Q := zg_36_23
theorem zh_36_26 : Zgo d 36 26 (L) (st) (I, R, al) Q ↔ Zgo d 36 27 (L) (zi 0 :: st) (I, R, al) Q := zg_36_26
theorem zh_36_27 {x : Int} : Zgo d 36 27 (L) (zi x :: []) (I, R, al) Q ↔ zok 1 x False (Q (some (zi x)) (I, R, al)) := zg_36_27
theorem zh_36_28 {x : Option (Nat × Nat)} : Zgo d 36 28 (a0 :: some (zq x) :: L) (st) (I, R, al) Q ↔ Zgo d 36 29 (a0 :: some (zq x) :: L) (zq x :: st) (I, R, al) Q := zg_36_28
theorem zh_36_29 {x : Option (Nat × Nat)} : Zgo d 36 29 (some (zq x) :: L) (st) (I, R, al) Q ↔ Zgo d 36 30 (some (zq x) :: L) (zq x :: st) (I, R, al) Q := zg_36_29
theorem zh_36_30 {x : Option (Nat × Nat)} : Zgo d 36 30 (a0 :: a1 :: some (zq x) :: L) (st) (I, R, al) Q ↔ Zgo d 36 31 (a0 :: a1 :: some (zq x) :: L) (zq x :: st) (I, R, al) Q := zg_36_30
theorem zh_36_31 {v1 : zV} {o : Nat} : Zgo d 36 31 (L) (v1 :: zq (some (8, o)) :: st) (I, R, al) Q ↔ if zwt st ≤ 8 then zCp d 37 [zq (some (8, o)), v1] (I, R, al) (fun r S2 => Zgo d 36 34 L (r.toList ++ st) S2 Q) else False := zg_36_31
theorem zh_36_34 {o : Nat} {v : Option (Nat × Nat)} : Zgo d 36 34 (L) (zq v :: zq (some (4, o)) :: st) (I, R, al) Q ↔ Zgo d 36 37 (L) (st) (I, zsR R 4 o 8 v, al) Q := zg_36_34
theorem zh_36_37 {x : Option (Nat × Nat)} : Zgo d 36 37 (a0 :: some (zq x) :: L) (st) (I, R, al) Q ↔ Zgo d 36 38 (a0 :: some (zq x) :: L) (zq x :: st) (I, R, al) Q := zg_36_37
theorem zh_36_38 {o : Nat} : Zgo d 36 38 (L) (zq (some (4, o)) :: st) (I, R, al) Q ↔ Zgo d 36 41 (L) (zq (R 4 o 8) :: st) (I, R, al) Q := zg_36_38
theorem zh_36_41n : Zgo d 36 41 (L) (zq none :: st) (I, R, al) Q ↔ Zgo d 36 48 (L) (st) (I, R, al) Q := zg_36_41
theorem zh_36_41 {q : Nat × Nat} : Zgo d 36 41 (L) (zq (some q) :: st) (I, R, al) Q ↔ Zgo d 36 44 (L) (st) (I, R, al) Q := zg_36_41
theorem zh_36_44 : Zgo d 36 44 (L) (st) (I, R, al) Q ↔ Zgo d 36 45 (L) (zi 1 :: st) (I, R, al) Q := zg_36_44
theorem zh_36_45 : Zgo d 36 45 (L) (st) (I, R, al) Q ↔ Zgo d 36 49 (L) (st) (I, R, al) Q := zg_36_45
theorem zh_36_48 : Zgo d 36 48 (L) (st) (I, R, al) Q ↔ Zgo d 36 49 (L) (zi 0 :: st) (I, R, al) Q := zg_36_48
theorem zh_36_49 {x : Int} : Zgo d 36 49 (L) (zi x :: []) (I, R, al) Q ↔ zok 1 x False (Q (some (zi x)) (I, R, al)) := zg_36_49
theorem zh_37_0 {x : Option (Nat × Nat)} : Zgo d 37 0 (some (zq x) :: L) (st) (I, R, al) Q ↔ Zgo d 37 1 (some (zq x) :: L) (zq x :: st) (I, R, al) Q := zg_37_0
theorem zh_37_1 {x : Option (Nat × Nat)} : Zgo d 37 1 (a0 :: some (zq x) :: L) (st) (I, R, al) Q ↔ Zgo d 37 2 (a0 :: some (zq x) :: L) (zq x :: st) (I, R, al) Q := zg_37_1
theorem zh_37_2 {o : Nat} : Zgo d 37 2 (L) (zq (some (3, o)) :: st) (I, R, al) Q ↔ Zgo d 37 5 (L) (zi (I 3 o 0) :: st) (I, R, al) Q := zg_37_2
theorem zh_37_5 : Zgo d 37 5 (L) (st) (I, R, al) Q ↔ Zgo d 37 6 (L) (zi 1 :: st) (I, R, al) Q := zg_37_5
theorem zh_37_6 {x y : Int} : Zgo d 37 6 (L) (zi y :: zi x :: st) (I, R, al) Q ↔ Zgo d 37 7 (L) (zi (x + y) :: st) (I, R, al) Q := zg_37_6
theorem zh_37_7 {x : Option (Nat × Nat)} : Zgo d 37 7 (a0 :: some (zq x) :: L) (st) (I, R, al) Q ↔ Zgo d 37 8 (a0 :: some (zq x) :: L) (zq x :: st) (I, R, al) Q := zg_37_7
theorem zh_37_8 {o : Nat} : Zgo d 37 8 (L) (zq (some (3, o)) :: st) (I, R, al) Q ↔ Zgo d 37 11 (L) (zi (I 3 o 1) :: st) (I, R, al) Q := zg_37_8
theorem zh_37_11 {x : Option (Nat × Nat)} : Zgo d 37 11 (a0 :: some (zq x) :: L) (st) (I, R, al) Q ↔ Zgo d 37 12 (a0 :: some (zq x) :: L) (zq x :: st) (I, R, al) Q := zg_37_11
theorem zh_37_12 {o : Nat} : Zgo d 37 12 (L) (zq (some (3, o)) :: st) (I, R, al) Q ↔ Zgo d 37 15 (L) (zi (I 3 o 2) :: st) (I, R, al) Q := zg_37_12
theorem zh_37_15 {v1 v2 v3 : zV} {o : Nat} : Zgo d 37 15 (L) (v3 :: v2 :: v1 :: zq (some (8, o)) :: st) (I, R, al) Q ↔ if zwt st ≤ 8 then zCp d 26 [zq (some (8, o)), v1, v2, v3] (I, R, al) (fun r S2 => Zgo d 37 18 L (r.toList ++ st) S2 Q) else False := zg_37_15
theorem zh_37_18 {x : Option (Nat × Nat)} : Zgo d 37 18 (L) (zq x :: []) (I, R, al) Q ↔ Q (some (zq x)) (I, R, al) := zg_37_18
theorem zh_38_0 {x : Option (Nat × Nat)} : Zgo d 38 0 (some (zq x) :: L) (st) (I, R, al) Q ↔ Zgo d 38 1 (some (zq x) :: L) (zq x :: st) (I, R, al) Q := zg_38_0
theorem zh_38_1 {x : Option (Nat × Nat)} : Zgo d 38 1 (a0 :: some (zq x) :: L) (st) (I, R, al) Q ↔ Zgo d 38 2 (a0 :: some (zq x) :: L) (zq x :: st) (I, R, al) Q := zg_38_1
theorem zh_38_2 {v1 : zV} {o : Nat} : Zgo d 38 2 (L) (v1 :: zq (some (8, o)) :: st) (I, R, al) Q ↔ if zwt st ≤ 8 then zCp d 31 [zq (some (8, o)), v1] (I, R, al) (fun r S2 => Zgo d 38 5 L (r.toList ++ st) S2 Q) else False := zg_38_2
theorem zh_38_5 {x : Int} : Zgo d 38 5 (L) (zi x :: st) (I, R, al) Q ↔ if zw x = zw 0 then Zgo d 38 8 (L) (st) (I, R, al) Q else Zgo d 38 10 (L) (st) (I, R, al) Q := zg_38_5
theorem zh_38_8 : Zgo d 38 8 (L) (st) (I, R, al) Q ↔ Zgo d 38 9 (L) (zi 0 :: st) (I, R, al) Q := zg_38_8
theorem zh_38_9 {x : Int} : Zgo d 38 9 (L) (zi x :: []) (I, R, al) Q ↔ zok 1 x False (Q (some (zi x)) (I, R, al)) := zg_38_9
theorem zh_38_10 {x : Option (Nat × Nat)} : Zgo d 38 10 (a0 :: some (zq x) :: L) (st) (I, R, al) Q ↔ Zgo d 38 11 (a0 :: some (zq x) :: L) (zq x :: st) (I, R, al) Q := zg_38_10
theorem zh_38_11 {x : Option (Nat × Nat)} : Zgo d 38 11 (some (zq x) :: L) (st) (I, R, al) Q ↔ Zgo d 38 12 (some (zq x) :: L) (zq x :: st) (I, R, al) Q := zg_38_11
theorem zh_38_12 {x : Option (Nat × Nat)} : Zgo d 38 12 (a0 :: a1 :: some (zq x) :: L) (st) (I, R, al) Q ↔ Zgo d 38 13 (a0 :: a1 :: some (zq x) :: L) (zq x :: st) (I, R, al) Q := zg_38_12
theorem zh_38_13 {o : Nat} : Zgo d 38 13 (L) (zq (some (3, o)) :: st) (I, R, al) Q ↔ Zgo d 38 16 (L) (zi (I 3 o 0) :: st) (I, R, al) Q := zg_38_13
theorem zh_38_16 : Zgo d 38 16 (L) (st) (I, R, al) Q ↔ Zgo d 38 17 (L) (zi 1 :: st) (I, R, al) Q := zg_38_16
theorem zh_38_17 {x y : Int} : Zgo d 38 17 (L) (zi y :: zi x :: st) (I, R, al) Q ↔ Zgo d 38 18 (L) (zi (x + y) :: st) (I, R, al) Q := zg_38_17
theorem zh_38_18 : Zgo d 38 18 (L) (st) (I, R, al) Q ↔ Zgo d 38 19 (L) (zi 1 :: st) (I, R, al) Q := zg_38_18
theorem zh_38_19 {x : Option (Nat × Nat)} : Zgo d 38 19 (a0 :: a1 :: some (zq x) :: L) (st) (I, R, al) Q ↔ Zgo d 38 20 (a0 :: a1 :: some (zq x) :: L) (zq x :: st) (I, R, al) Q := zg_38_19
theorem zh_38_20 {o : Nat} : Zgo d 38 20 (L) (zq (some (3, o)) :: st) (I, R, al) Q ↔ Zgo d 38 23 (L) (zi (I 3 o 2) :: st) (I, R, al) Q := zg_38_20
theorem zh_38_23 {v1 v2 v3 : zV} {o : Nat} : Zgo d 38 23 (L) (v3 :: v2 :: v1 :: zq (some (8, o)) :: st) (I, R, al) Q ↔ if zwt st ≤ 8 then zCp d 26 [zq (some (8, o)), v1, v2, v3] (I, R, al) (fun r S2 => Zgo d 38 26 L (r.toList ++ st) S2 Q) else False := zg_38_23
theorem zh_38_26 {o : Nat} {v : Option (Nat × Nat)} : Zgo d 38 26 (L) (zq v :: zq (some (4, o)) :: st) (I, R, al) Q ↔ Zgo d 38 29 (L) (st) (I, zsR R 4 o 7 v, al) Q := zg_38_26
theorem zh_38_29 {x : Option (Nat × Nat)} : Zgo d 38 29 (a0 :: some (zq x) :: L) (st) (I, R, al) Q ↔ Zgo d 38 30 (a0 :: some (zq x) :: L) (zq x :: st) (I, R, al) Q := zg_38_29
theorem zh_38_30 {o : Nat} : Zgo d 38 30 (L) (zq (some (4, o)) :: st) (I, R, al) Q ↔ Zgo d 38 33 (L) (zq (R 4 o 7) :: st) (I, R, al) Q := zg_38_30
theorem zh_38_33n : Zgo d 38 33 (L) (zq none :: st) (I, R, al) Q ↔ Zgo d 38 40 (L) (st) (I, R, al) Q := zg_38_33
theorem zh_38_33 {q : Nat × Nat} : Zgo d 38 33 (L) (zq (some q) :: st) (I, R, al) Q ↔ Zgo d 38 36 (L) (st) (I, R, al) Q := zg_38_33
theorem zh_38_36 : Zgo d 38 36 (L) (st) (I, R, al) Q ↔ Zgo d 38 37 (L) (zi 1 :: st) (I, R, al) Q := zg_38_36
theorem zh_38_37 : Zgo d 38 37 (L) (st) (I, R, al) Q ↔ Zgo d 38 41 (L) (st) (I, R, al) Q := zg_38_37
theorem zh_38_40 : Zgo d 38 40 (L) (st) (I, R, al) Q ↔ Zgo d 38 41 (L) (zi 0 :: st) (I, R, al) Q := zg_38_40
theorem zh_38_41 {x : Int} : Zgo d 38 41 (L) (zi x :: []) (I, R, al) Q ↔ zok 1 x False (Q (some (zi x)) (I, R, al)) := zg_38_41
theorem zh_39_0 {x : Option (Nat × Nat)} : Zgo d 39 0 (a0 :: some (zq x) :: L) (st) (I, R, al) Q ↔ Zgo d 39 1 (a0 :: some (zq x) :: L) (zq x :: st) (I, R, al) Q := zg_39_0
theorem zh_39_1 {x : Option (Nat × Nat)} : Zgo d 39 1 (some (zq x) :: L) (st) (I, R, al) Q ↔ Zgo d 39 2 (some (zq x) :: L) (zq x :: st) (I, R, al) Q := zg_39_1
theorem zh_39_2 {x : Option (Nat × Nat)} : Zgo d 39 2 (a0 :: a1 :: some (zq x) :: L) (st) (I, R, al) Q ↔ Zgo d 39 3 (a0 :: a1 :: some (zq x) :: L) (zq x :: st) (I, R, al) Q := zg_39_2
theorem zh_39_3 {v1 : zV} {o : Nat} : Zgo d 39 3 (L) (v1 :: zq (some (8, o)) :: st) (I, R, al) Q ↔ if zwt st ≤ 8 then zCp d 37 [zq (some (8, o)), v1] (I, R, al) (fun r S2 => Zgo d 39 6 L (r.toList ++ st) S2 Q) else False := zg_39_3
theorem zh_39_6 {o : Nat} {v : Option (Nat × Nat)} : Zgo d 39 6 (L) (zq v :: zq (some (4, o)) :: st) (I, R, al) Q ↔ Zgo d 39 9 (L) (st) (I, zsR R 4 o 7 v, al) Q := zg_39_6
theorem zh_39_9 {x : Option (Nat × Nat)} : Zgo d 39 9 (a0 :: some (zq x) :: L) (st) (I, R, al) Q ↔ Zgo d 39 10 (a0 :: some (zq x) :: L) (zq x :: st) (I, R, al) Q := zg_39_9
theorem zh_39_10 {o : Nat} : Zgo d 39 10 (L) (zq (some (4, o)) :: st) (I, R, al) Q ↔ Zgo d 39 13 (L) (zq (R 4 o 7) :: st) (I, R, al) Q := zg_39_10
theorem zh_39_13n : Zgo d 39 13 (L) (zq none :: st) (I, R, al) Q ↔ Zgo d 39 16 (L) (st) (I, R, al) Q := zg_39_13
theorem zh_39_13 {q : Nat × Nat} : Zgo d 39 13 (L) (zq (some q) :: st) (I, R, al) Q ↔ Zgo d 39 18 (L) (st) (I, R, al) Q := zg_39_13
theorem zh_39_16 : Zgo d 39 16 (L) (st) (I, R, al) Q ↔ Zgo d 39 17 (L) (zi 0 :: st) (I, R, al) Q := zg_39_16
theorem zh_39_17 {x : Int} : Zgo d 39 17 (L) (zi x :: []) (I, R, al) Q ↔ zok 1 x False (Q (some (zi x)) (I, R, al)) := zg_39_17
theorem zh_39_18 : Zgo d 39 18 (L) (st) (I, R, al) Q ↔ Zgo d 39 19 (L) (zi 0 :: st) (I, R, al) Q := zg_39_18
theorem zh_39_19 {x : Int} : Zgo d 39 19 (a0 :: a1 :: a2 :: b0 :: L) (zi x :: st) (I, R, al) Q ↔ Zgo d 39 20 (a0 :: a1 :: zkl a2 :: some (zi x) :: L) (st) (I, R, al) Q := zg_39_19
theorem zh_39_20 {x : Int} : Zgo d 39 20 (a0 :: a1 :: a2 :: some (zi x) :: L) (st) (I, R, al) Q ↔ Zgo d 39 21 (a0 :: a1 :: a2 :: some (zi x) :: L) (zi x :: st) (I, R, al) Q := zg_39_20
theorem zh_39_21 : Zgo d 39 21 (L) (st) (I, R, al) Q ↔ Zgo d 39 22 (L) (zi 3 :: st) (I, R, al) Q := zg_39_21
theorem zh_39_22 {x y : Int} : Zgo d 39 22 (L) (zi y :: zi x :: st) (I, R, al) Q ↔ if zw x < zw y then Zgo d 39 25 (L) (st) (I, R, al) Q else Zgo d 39 51 (L) (st) (I, R, al) Q := zg_39_22
theorem zh_39_25 {x : Option (Nat × Nat)} : Zgo d 39 25 (some (zq x) :: L) (st) (I, R, al) Q ↔ Zgo d 39 26 (some (zq x) :: L) (zq x :: st) (I, R, al) Q := zg_39_25
theorem zh_39_26 : Zgo d 39 26 (L) (st) (I, R, al) Q ↔ Zgo d 39 28 (L) (zi 75 :: st) (I, R, al) Q := zg_39_26
theorem zh_39_28 {v1 : zV} {o : Nat} : Zgo d 39 28 (L) (v1 :: zq (some (8, o)) :: st) (I, R, al) Q ↔ if zwt st ≤ 8 then zCp d 20 [zq (some (8, o)), v1] (I, R, al) (fun r S2 => Zgo d 39 31 L (r.toList ++ st) S2 Q) else False := zg_39_28
theorem zh_39_31 {x : Int} : Zgo d 39 31 (L) (zi x :: st) (I, R, al) Q ↔ if zw x = zw 0 then Zgo d 39 51 (L) (st) (I, R, al) Q else Zgo d 39 34 (L) (st) (I, R, al) Q := zg_39_31
theorem zh_39_34 {x : Option (Nat × Nat)} : Zgo d 39 34 (some (zq x) :: L) (st) (I, R, al) Q ↔ Zgo d 39 35 (some (zq x) :: L) (zq x :: st) (I, R, al) Q := zg_39_34
theorem zh_39_35 {x : Option (Nat × Nat)} : Zgo d 39 35 (a0 :: some (zq x) :: L) (st) (I, R, al) Q ↔ Zgo d 39 36 (a0 :: some (zq x) :: L) (zq x :: st) (I, R, al) Q := zg_39_35
theorem zh_39_36 {x : Option (Nat × Nat)} : Zgo d 39 36 (a0 :: a1 :: some (zq x) :: L) (st) (I, R, al) Q ↔ Zgo d 39 37 (a0 :: a1 :: some (zq x) :: L) (zq x :: st) (I, R, al) Q := zg_39_36
theorem zh_39_37 {v1 v2 : zV} {o : Nat} : Zgo d 39 37 (L) (v2 :: v1 :: zq (some (8, o)) :: st) (I, R, al) Q ↔ if zwt st ≤ 8 then zCp d 40 [zq (some (8, o)), v1, v2] (I, R, al) (fun r S2 => Zgo d 39 40 L (r.toList ++ st) S2 Q) else False := zg_39_37
theorem zh_39_40 {x : Int} : Zgo d 39 40 (L) (zi x :: st) (I, R, al) Q ↔ if zw x = zw 0 then Zgo d 39 43 (L) (st) (I, R, al) Q else Zgo d 39 45 (L) (st) (I, R, al) Q := zg_39_40
theorem zh_39_43 : Zgo d 39 43 (L) (st) (I, R, al) Q ↔ Zgo d 39 44 (L) (zi 0 :: st) (I, R, al) Q := zg_39_43
theorem zh_39_44 {x : Int} : Zgo d 39 44 (L) (zi x :: []) (I, R, al) Q ↔ zok 1 x False (Q (some (zi x)) (I, R, al)) := zg_39_44
theorem zh_39_45 {x : Int} : Zgo d 39 45 (a0 :: a1 :: a2 :: some (zi x) :: L) (st) (I, R, al) Q ↔ Zgo d 39 48 (a0 :: a1 :: zkl a2 :: some (zi (x + 1)) :: L) (st) (I, R, al) Q := zg_39_45
theorem zh_39_48 : Zgo d 39 48 (L) (st) (I, R, al) Q ↔ Zgo d 39 20 (L) (st) (I, R, al) Q := zg_39_48
theorem zh_39_51 {x : Option (Nat × Nat)} : Zgo d 39 51 (some (zq x) :: L) (st) (I, R, al) Q ↔ Zgo d 39 52 (some (zq x) :: L) (zq x :: st) (I, R, al) Q := zg_39_51
theorem zh_39_52 : Zgo d 39 52 (L) (st) (I, R, al) Q ↔ Zgo d 39 54 (L) (zi 70 :: st) (I, R, al) Q := zg_39_52
theorem zh_39_54 {v1 : zV} {o : Nat} : Zgo d 39 54 (L) (v1 :: zq (some (8, o)) :: st) (I, R, al) Q ↔ if zwt st ≤ 8 then zCp d 20 [zq (some (8, o)), v1] (I, R, al) (fun r S2 => Zgo d 39 57 L (r.toList ++ st) S2 Q) else False := zg_39_54
theorem zh_39_57 {x : Int} : Zgo d 39 57 (L) (zi x :: st) (I, R, al) Q ↔ if zw x = zw 0 then Zgo d 39 60 (L) (st) (I, R, al) Q else Zgo d 39 73 (L) (st) (I, R, al) Q := zg_39_57
theorem zh_39_60 {x : Option (Nat × Nat)} : Zgo d 39 60 (a0 :: some (zq x) :: L) (st) (I, R, al) Q ↔ Zgo d 39 61 (a0 :: some (zq x) :: L) (zq x :: st) (I, R, al) Q := zg_39_60
theorem zh_39_61 {o : Nat} : Zgo d 39 61 (L) (zq (some (4, o)) :: st) (I, R, al) Q ↔ Zgo d 39 64 (L) (zq (R 4 o 9) :: st) (I, R, al) Q := zg_39_61
theorem zh_39_64n : Zgo d 39 64 (L) (zq none :: st) (I, R, al) Q ↔ Zgo d 39 71 (L) (st) (I, R, al) Q := zg_39_64
theorem zh_39_64 {q : Nat × Nat} : Zgo d 39 64 (L) (zq (some q) :: st) (I, R, al) Q ↔ Zgo d 39 67 (L) (st) (I, R, al) Q := zg_39_64
theorem zh_39_67 : Zgo d 39 67 (L) (st) (I, R, al) Q ↔ Zgo d 39 68 (L) (zi 1 :: st) (I, R, al) Q := zg_39_67
theorem zh_39_68 : Zgo d 39 68 (L) (st) (I, R, al) Q ↔ Zgo d 39 72 (L) (st) (I, R, al) Q := zg_39_68
theorem zh_39_71 : Zgo d 39 71 (L) (st) (I, R, al) Q ↔ Zgo d 39 72 (L) (zi 0 :: st) (I, R, al) Q := zg_39_71
theorem zh_39_72 {x : Int} : Zgo d 39 72 (L) (zi x :: []) (I, R, al) Q ↔ zok 1 x False (Q (some (zi x)) (I, R, al)) := zg_39_72
theorem zh_39_73 {x : Option (Nat × Nat)} : Zgo d 39 73 (a0 :: some (zq x) :: L) (st) (I, R, al) Q ↔ Zgo d 39 74 (a0 :: some (zq x) :: L) (zq x :: st) (I, R, al) Q := zg_39_73
theorem zh_39_74 {x : Option (Nat × Nat)} : Zgo d 39 74 (some (zq x) :: L) (st) (I, R, al) Q ↔ Zgo d 39 75 (some (zq x) :: L) (zq x :: st) (I, R, al) Q := zg_39_74
theorem zh_39_75 {x : Option (Nat × Nat)} : Zgo d 39 75 (a0 :: a1 :: some (zq x) :: L) (st) (I, R, al) Q ↔ Zgo d 39 76 (a0 :: a1 :: some (zq x) :: L) (zq x :: st) (I, R, al) Q := zg_39_75
theorem zh_39_76 {v1 : zV} {o : Nat} : Zgo d 39 76 (L) (v1 :: zq (some (8, o)) :: st) (I, R, al) Q ↔ if zwt st ≤ 8 then zCp d 37 [zq (some (8, o)), v1] (I, R, al) (fun r S2 => Zgo d 39 79 L (r.toList ++ st) S2 Q) else False := zg_39_76
theorem zh_39_79 {o : Nat} {v : Option (Nat × Nat)} : Zgo d 39 79 (L) (zq v :: zq (some (4, o)) :: st) (I, R, al) Q ↔ Zgo d 39 82 (L) (st) (I, zsR R 4 o 8 v, al) Q := zg_39_79
theorem zh_39_82 {x : Option (Nat × Nat)} : Zgo d 39 82 (a0 :: some (zq x) :: L) (st) (I, R, al) Q ↔ Zgo d 39 83 (a0 :: some (zq x) :: L) (zq x :: st) (I, R, al) Q := zg_39_82
theorem zh_39_83 {o : Nat} : Zgo d 39 83 (L) (zq (some (4, o)) :: st) (I, R, al) Q ↔ Zgo d 39 86 (L) (zq (R 4 o 8) :: st) (I, R, al) Q := zg_39_83
theorem zh_39_86n : Zgo d 39 86 (L) (zq none :: st) (I, R, al) Q ↔ Zgo d 39 93 (L) (st) (I, R, al) Q := zg_39_86
theorem zh_39_86 {q : Nat × Nat} : Zgo d 39 86 (L) (zq (some q) :: st) (I, R, al) Q ↔ Zgo d 39 89 (L) (st) (I, R, al) Q := zg_39_86
theorem zh_39_89 : Zgo d 39 89 (L) (st) (I, R, al) Q ↔ Zgo d 39 90 (L) (zi 1 :: st) (I, R, al) Q := zg_39_89
theorem zh_39_90 : Zgo d 39 90 (L) (st) (I, R, al) Q ↔ Zgo d 39 94 (L) (st) (I, R, al) Q := zg_39_90
theorem zh_39_93 : Zgo d 39 93 (L) (st) (I, R, al) Q ↔ Zgo d 39 94 (L) (zi 0 :: st) (I, R, al) Q := zg_39_93
theorem zh_39_94 {x : Int} : Zgo d 39 94 (L) (zi x :: []) (I, R, al) Q ↔ zok 1 x False (Q (some (zi x)) (I, R, al)) := zg_39_94
theorem zh_40_0 {x : Option (Nat × Nat)} : Zgo d 40 0 (some (zq x) :: L) (st) (I, R, al) Q ↔ Zgo d 40 1 (some (zq x) :: L) (zq x :: st) (I, R, al) Q := zg_40_0
theorem zh_40_1 : Zgo d 40 1 (L) (st) (I, R, al) Q ↔ Zgo d 40 3 (L) (zi 48 :: st) (I, R, al) Q := zg_40_1
theorem zh_40_3 : Zgo d 40 3 (L) (st) (I, R, al) Q ↔ Zgo d 40 5 (L) (zi 52 :: st) (I, R, al) Q := zg_40_3
theorem zh_40_5 {v1 v2 : zV} {o : Nat} : Zgo d 40 5 (L) (v2 :: v1 :: zq (some (8, o)) :: st) (I, R, al) Q ↔ if zwt st ≤ 8 then zCp d 22 [zq (some (8, o)), v1, v2] (I, R, al) (fun r S2 => Zgo d 40 8 L (r.toList ++ st) S2 Q) else False := zg_40_5
theorem zh_40_8 {x : Int} : Zgo d 40 8 (a0 :: a1 :: a2 :: b0 :: L) (zi x :: st) (I, R, al) Q ↔ Zgo d 40 9 (a0 :: a1 :: zkl a2 :: some (zi x) :: L) (st) (I, R, al) Q := zg_40_8
theorem zh_40_9 {x : Option (Nat × Nat)} : Zgo d 40 9 (some (zq x) :: L) (st) (I, R, al) Q ↔ Zgo d 40 10 (some (zq x) :: L) (zq x :: st) (I, R, al) Q := zg_40_9
theorem zh_40_10 : Zgo d 40 10 (L) (st) (I, R, al) Q ↔ Zgo d 40 12 (L) (zi 97 :: st) (I, R, al) Q := zg_40_10
theorem zh_40_12 : Zgo d 40 12 (L) (st) (I, R, al) Q ↔ Zgo d 40 14 (L) (zi 104 :: st) (I, R, al) Q := zg_40_12
theorem zh_40_14 {v1 v2 : zV} {o : Nat} : Zgo d 40 14 (L) (v2 :: v1 :: zq (some (8, o)) :: st) (I, R, al) Q ↔ if zwt st ≤ 8 then zCp d 22 [zq (some (8, o)), v1, v2] (I, R, al) (fun r S2 => Zgo d 40 17 L (r.toList ++ st) S2 Q) else False := zg_40_14
theorem zh_40_17 {x : Int} : Zgo d 40 17 (a0 :: a1 :: a2 :: a3 :: b0 :: L) (zi x :: st) (I, R, al) Q ↔ Zgo d 40 19 (a0 :: a1 :: a2 :: zkl a3 :: some (zi x) :: L) (st) (I, R, al) Q := zg_40_17
theorem zh_40_19 {x : Int} : Zgo d 40 19 (a0 :: a1 :: a2 :: some (zi x) :: L) (st) (I, R, al) Q ↔ Zgo d 40 20 (a0 :: a1 :: a2 :: some (zi x) :: L) (zi x :: st) (I, R, al) Q := zg_40_19
theorem zh_40_20 : Zgo d 40 20 (L) (st) (I, R, al) Q ↔ Zgo d 40 21 (L) (zi (-1) :: st) (I, R, al) Q := zg_40_20
theorem zh_40_21 {x y : Int} : Zgo d 40 21 (L) (zi y :: zi x :: st) (I, R, al) Q ↔ if zw x = zw y then Zgo d 40 38 (L) (st) (I, R, al) Q else Zgo d 40 24 (L) (st) (I, R, al) Q := zg_40_21
theorem zh_40_24 {x : Int} : Zgo d 40 24 (a0 :: a1 :: a2 :: a3 :: some (zi x) :: L) (st) (I, R, al) Q ↔ Zgo d 40 26 (a0 :: a1 :: a2 :: a3 :: some (zi x) :: L) (zi x :: st) (I, R, al) Q := zg_40_24
theorem zh_40_26 : Zgo d 40 26 (L) (st) (I, R, al) Q ↔ Zgo d 40 27 (L) (zi (-1) :: st) (I, R, al) Q := zg_40_26
theorem zh_40_27 {x y : Int} : Zgo d 40 27 (L) (zi y :: zi x :: st) (I, R, al) Q ↔ if zw x = zw y then Zgo d 40 38 (L) (st) (I, R, al) Q else Zgo d 40 30 (L) (st) (I, R, al) Q := zg_40_27
theorem zh_40_30 {x : Option (Nat × Nat)} : Zgo d 40 30 (a0 :: some (zq x) :: L) (st) (I, R, al) Q ↔ Zgo d 40 31 (a0 :: some (zq x) :: L) (zq x :: st) (I, R, al) Q := zg_40_30
theorem zh_40_31 {x : Int} : Zgo d 40 31 (a0 :: a1 :: a2 :: some (zi x) :: L) (st) (I, R, al) Q ↔ Zgo d 40 32 (a0 :: a1 :: a2 :: some (zi x) :: L) (zi x :: st) (I, R, al) Q := zg_40_31
theorem zh_40_32 {v1 : zV} {o : Nat} : Zgo d 40 32 (L) (v1 :: zq (some (4, o)) :: st) (I, R, al) Q ↔ if zwt st ≤ 8 then zCp d 41 [zq (some (4, o)), v1] (I, R, al) (fun r S2 => Zgo d 40 35 L (r.toList ++ st) S2 Q) else False := zg_40_32
theorem zh_40_35n : Zgo d 40 35 (L) (zq none :: st) (I, R, al) Q ↔ Zgo d 40 40 (L) (st) (I, R, al) Q := zg_40_35
theorem zh_40_35 {q : Nat × Nat} : Zgo d 40 35 (L) (zq (some q) :: st) (I, R, al) Q ↔ Zgo d 40 38 (L) (st) (I, R, al) Q := zg_40_35
theorem zh_40_38 : Zgo d 40 38 (L) (st) (I, R, al) Q ↔ Zgo d 40 39 (L) (zi 0 :: st) (I, R, al) Q := zg_40_38
theorem zh_40_39 {x : Int} : Zgo d 40 39 (L) (zi x :: []) (I, R, al) Q ↔ zok 1 x False (Q (some (zi x)) (I, R, al)) := zg_40_39
theorem zh_40_40 {x : Option (Nat × Nat)} : Zgo d 40 40 (some (zq x) :: L) (st) (I, R, al) Q ↔ Zgo d 40 41 (some (zq x) :: L) (zq x :: st) (I, R, al) Q := zg_40_40
theorem zh_40_41 {o : Nat} : Zgo d 40 41 (L) (zq (some (8, o)) :: st) (I, R, al) Q ↔ Zgo d 40 44 (L) (zq (R 8 o 1) :: st) (I, R, al) Q := zg_40_41
theorem zh_40_44 {x : Option (Nat × Nat)} : Zgo d 40 44 (a0 :: some (zq x) :: L) (st) (I, R, al) Q ↔ Zgo d 40 45 (a0 :: some (zq x) :: L) (zq x :: st) (I, R, al) Q := zg_40_44
theorem zh_40_45 {x : Int} : Zgo d 40 45 (a0 :: a1 :: a2 :: some (zi x) :: L) (st) (I, R, al) Q ↔ Zgo d 40 46 (a0 :: a1 :: a2 :: some (zi x) :: L) (zi x :: st) (I, R, al) Q := zg_40_45
theorem zh_40_46 {x : Int} : Zgo d 40 46 (a0 :: a1 :: a2 :: a3 :: some (zi x) :: L) (st) (I, R, al) Q ↔ Zgo d 40 48 (a0 :: a1 :: a2 :: a3 :: some (zi x) :: L) (zi x :: st) (I, R, al) Q := zg_40_46
theorem zh_40_48 {v1 v2 v3 : zV} {o : Nat} : Zgo d 40 48 (L) (v3 :: v2 :: v1 :: zq (some (7, o)) :: st) (I, R, al) Q ↔ if zwt st ≤ 8 then zCp d 42 [zq (some (7, o)), v1, v2, v3] (I, R, al) (fun r S2 => Zgo d 40 51 L (r.toList ++ st) S2 Q) else False := zg_40_48
theorem zh_40_51 {x : Option (Nat × Nat)} : Zgo d 40 51 (a0 :: a1 :: a2 :: a3 :: a4 :: b0 :: L) (zq x :: st) (I, R, al) Q ↔ Zgo d 40 53 (a0 :: a1 :: a2 :: a3 :: zkl a4 :: some (zq x) :: L) (st) (I, R, al) Q := zg_40_51
theorem zh_40_53 {x : Option (Nat × Nat)} : Zgo d 40 53 (a0 :: a1 :: a2 :: a3 :: a4 :: some (zq x) :: L) (st) (I, R, al) Q ↔ Zgo d 40 55 (a0 :: a1 :: a2 :: a3 :: a4 :: some (zq x) :: L) (zq x :: st) (I, R, al) Q := zg_40_53
theorem zh_40_55n : Zgo d 40 55 (L) (zq none :: st) (I, R, al) Q ↔ Zgo d 40 58 (L) (st) (I, R, al) Q := zg_40_55
theorem zh_40_55 {q : Nat × Nat} : Zgo d 40 55 (L) (zq (some q) :: st) (I, R, al) Q ↔ Zgo d 40 60 (L) (st) (I, R, al) Q := zg_40_55
theorem zh_40_58 : Zgo d 40 58 (L) (st) (I, R, al) Q ↔ Zgo d 40 59 (L) (zi 0 :: st) (I, R, al) Q := zg_40_58
theorem zh_40_59 {x : Int} : Zgo d 40 59 (L) (zi x :: []) (I, R, al) Q ↔ zok 1 x False (Q (some (zi x)) (I, R, al)) := zg_40_59
theorem zh_40_60 {x : Option (Nat × Nat)} : Zgo d 40 60 (a0 :: a1 :: a2 :: a3 :: a4 :: some (zq x) :: L) (st) (I, R, al) Q ↔ Zgo d 40 62 (a0 :: a1 :: a2 :: a3 :: a4 :: some (zq x) :: L) (zq x :: st) (I, R, al) Q := zg_40_60
theorem zh_40_62 {x : Option (Nat × Nat)} : Zgo d 40 62 (some (zq x) :: L) (st) (I, R, al) Q ↔ Zgo d 40 63 (some (zq x) :: L) (zq x :: st) (I, R, al) Q := zg_40_62
theorem zh_40_63 {x : Option (Nat × Nat)} : Zgo d 40 63 (a0 :: a1 :: some (zq x) :: L) (st) (I, R, al) Q ↔ Zgo d 40 64 (a0 :: a1 :: some (zq x) :: L) (zq x :: st) (I, R, al) Q := zg_40_63
theorem zh_40_64 {o : Nat} : Zgo d 40 64 (L) (zq (some (3, o)) :: st) (I, R, al) Q ↔ Zgo d 40 67 (L) (zi (I 3 o 0) :: st) (I, R, al) Q := zg_40_64
theorem zh_40_67 : Zgo d 40 67 (L) (st) (I, R, al) Q ↔ Zgo d 40 68 (L) (zi 1 :: st) (I, R, al) Q := zg_40_67
theorem zh_40_68 {x y : Int} : Zgo d 40 68 (L) (zi y :: zi x :: st) (I, R, al) Q ↔ Zgo d 40 69 (L) (zi (x + y) :: st) (I, R, al) Q := zg_40_68
theorem zh_40_69 {x : Option (Nat × Nat)} : Zgo d 40 69 (a0 :: a1 :: some (zq x) :: L) (st) (I, R, al) Q ↔ Zgo d 40 70 (a0 :: a1 :: some (zq x) :: L) (zq x :: st) (I, R, al) Q := zg_40_69
theorem zh_40_70 {o : Nat} : Zgo d 40 70 (L) (zq (some (3, o)) :: st) (I, R, al) Q ↔ Zgo d 40 73 (L) (zi (I 3 o 1) :: st) (I, R, al) Q := zg_40_70
theorem zh_40_73 {x : Int} : Zgo d 40 73 (a0 :: a1 :: a2 :: some (zi x) :: L) (st) (I, R, al) Q ↔ Zgo d 40 74 (a0 :: a1 :: a2 :: some (zi x) :: L) (zi x :: st) (I, R, al) Q := zg_40_73
theorem zh_40_74 {v1 v2 v3 : zV} {o : Nat} : Zgo d 40 74 (L) (v3 :: v2 :: v1 :: zq (some (8, o)) :: st) (I, R, al) Q ↔ if zwt st ≤ 8 then zCp d 26 [zq (some (8, o)), v1, v2, v3] (I, R, al) (fun r S2 => Zgo d 40 77 L (r.toList ++ st) S2 Q) else False := zg_40_74
theorem zh_40_77 {o : Nat} {v : Option (Nat × Nat)} : Zgo d 40 77 (L) (zq v :: zq (some (5, o)) :: st) (I, R, al) Q ↔ Zgo d 40 80 (L) (st) (I, zsR R 5 o 2 v, al) Q := zg_40_77
theorem zh_40_80 {x : Option (Nat × Nat)} : Zgo d 40 80 (a0 :: a1 :: a2 :: a3 :: a4 :: some (zq x) :: L) (st) (I, R, al) Q ↔ Zgo d 40 82 (a0 :: a1 :: a2 :: a3 :: a4 :: some (zq x) :: L) (zq x :: st) (I, R, al) Q := zg_40_80
theorem zh_40_82 {o : Nat} : Zgo d 40 82 (L) (zq (some (5, o)) :: st) (I, R, al) Q ↔ Zgo d 40 85 (L) (zq (R 5 o 2) :: st) (I, R, al) Q := zg_40_82
theorem zh_40_85n : Zgo d 40 85 (L) (zq none :: st) (I, R, al) Q ↔ Zgo d 40 92 (L) (st) (I, R, al) Q := zg_40_85
theorem zh_40_85 {q : Nat × Nat} : Zgo d 40 85 (L) (zq (some q) :: st) (I, R, al) Q ↔ Zgo d 40 88 (L) (st) (I, R, al) Q := zg_40_85
theorem zh_40_88 : Zgo d 40 88 (L) (st) (I, R, al) Q ↔ Zgo d 40 89 (L) (zi 1 :: st) (I, R, al) Q := zg_40_88
theorem zh_40_89 : Zgo d 40 89 (L) (st) (I, R, al) Q ↔ Zgo d 40 93 (L) (st) (I, R, al) Q := zg_40_89
theorem zh_40_92 : Zgo d 40 92 (L) (st) (I, R, al) Q ↔ Zgo d 40 93 (L) (zi 0 :: st) (I, R, al) Q := zg_40_92
theorem zh_40_93 {x : Int} : Zgo d 40 93 (L) (zi x :: []) (I, R, al) Q ↔ zok 1 x False (Q (some (zi x)) (I, R, al)) := zg_40_93
theorem zh_41_0 {x : Option (Nat × Nat)} : Zgo d 41 0 (some (zq x) :: L) (st) (I, R, al) Q ↔ Zgo d 41 1 (some (zq x) :: L) (zq x :: st) (I, R, al) Q := zg_41_0
theorem zh_41_1 {o : Nat} : Zgo d 41 1 (L) (zq (some (4, o)) :: st) (I, R, al) Q ↔ Zgo d 41 4 (L) (zq (R 4 o 9) :: st) (I, R, al) Q := zg_41_1
theorem zh_41_4 {x : Option (Nat × Nat)} : Zgo d 41 4 (a0 :: a1 :: b0 :: L) (zq x :: st) (I, R, al) Q ↔ Zgo d 41 5 (a0 :: zkl a1 :: some (zq x) :: L) (st) (I, R, al) Q := zg_41_4
theorem zh_41_5 {x : Option (Nat × Nat)} : Zgo d 41 5 (a0 :: a1 :: some (zq x) :: L) (st) (I, R, al) Q ↔ Zgo d 41 6 (a0 :: a1 :: some (zq x) :: L) (zq x :: st) (I, R, al) Q := zg_41_5
theorem zh_41_6n : Zgo d 41 6 (L) (zq none :: st) (I, R, al) Q ↔ Zgo d 41 27 (L) (st) (I, R, al) Q := zg_41_6
theorem zh_41_6 {q : Nat × Nat} : Zgo d 41 6 (L) (zq (some q) :: st) (I, R, al) Q ↔ Zgo d 41 9 (L) (st) (I, R, al) Q := zg_41_6
theorem zh_41_9 {x : Option (Nat × Nat)} : Zgo d 41 9 (a0 :: a1 :: some (zq x) :: L) (st) (I, R, al) Q ↔ Zgo d 41 10 (a0 :: a1 :: some (zq x) :: L) (zq x :: st) (I, R, al) Q := zg_41_9
theorem zh_41_10 {o : Nat} : Zgo d 41 10 (L) (zq (some (5, o)) :: st) (I, R, al) Q ↔ Zgo d 41 13 (L) (zi (I 5 o 0) :: st) (I, R, al) Q := zg_41_10
theorem zh_41_13 {x : Int} : Zgo d 41 13 (a0 :: some (zi x) :: L) (st) (I, R, al) Q ↔ Zgo d 41 14 (a0 :: some (zi x) :: L) (zi x :: st) (I, R, al) Q := zg_41_13
theorem zh_41_14 {x y : Int} : Zgo d 41 14 (L) (zi y :: zi x :: st) (I, R, al) Q ↔ if zw x = zw y then Zgo d 41 17 (L) (st) (I, R, al) Q else Zgo d 41 19 (L) (st) (I, R, al) Q := zg_41_14
theorem zh_41_17 {x : Option (Nat × Nat)} : Zgo d 41 17 (a0 :: a1 :: some (zq x) :: L) (st) (I, R, al) Q ↔ Zgo d 41 18 (a0 :: a1 :: some (zq x) :: L) (zq x :: st) (I, R, al) Q := zg_41_17
theorem zh_41_18 {x : Option (Nat × Nat)} : Zgo d 41 18 (L) (zq x :: []) (I, R, al) Q ↔ Q (some (zq x)) (I, R, al) := zg_41_18
theorem zh_41_19 {x : Option (Nat × Nat)} : Zgo d 41 19 (a0 :: a1 :: some (zq x) :: L) (st) (I, R, al) Q ↔ Zgo d 41 20 (a0 :: a1 :: some (zq x) :: L) (zq x :: st) (I, R, al) Q := zg_41_19
theorem zh_41_20 {o : Nat} : Zgo d 41 20 (L) (zq (some (5, o)) :: st) (I, R, al) Q ↔ Zgo d 41 23 (L) (zq (R 5 o 3) :: st) (I, R, al) Q := zg_41_20
theorem zh_41_23 {x : Option (Nat × Nat)} : Zgo d 41 23 (a0 :: a1 :: b0 :: L) (zq x :: st) (I, R, al) Q ↔ Zgo d 41 24 (a0 :: zkl a1 :: some (zq x) :: L) (st) (I, R, al) Q := zg_41_23
theorem zh_41_24 : Zgo d 41 24 (L) (st) (I, R, al) Q ↔ Zgo d 41 5 (L) (st) (I, R, al) Q := zg_41_24
theorem zh_41_27 : Zgo d 41 27 (L) (st) (I, R, al) Q ↔ Zgo d 41 28 (L) (zq none :: st) (I, R, al) Q := zg_41_27
theorem zh_41_28 {x : Option (Nat × Nat)} : Zgo d 41 28 (L) (zq x :: []) (I, R, al) Q ↔ Q (some (zq x)) (I, R, al) := zg_41_28
theorem zh_42_0 {x : Option (Nat × Nat)} : Zgo d 42 0 (some (zq x) :: L) (st) (I, R, al) Q ↔ Zgo d 42 1 (some (zq x) :: L) (zq x :: st) (I, R, al) Q := zg_42_0
theorem zh_42_1 {o : Nat} : Zgo d 42 1 (L) (zq (some (7, o)) :: st) (I, R, al) Q ↔ Zgo d 42 4 (L) (zi (I 7 o 10) :: st) (I, R, al) Q := zg_42_1
theorem zh_42_4 : Zgo d 42 4 (L) (st) (I, R, al) Q ↔ Zgo d 42 6 (L) (zi 32 :: st) (I, R, al) Q := zg_42_4
theorem zh_42_6 {x y : Int} : Zgo d 42 6 (L) (zi y :: zi x :: st) (I, R, al) Q ↔ if zw x = zw y then Zgo d 42 9 (L) (st) (I, R, al) Q else Zgo d 42 11 (L) (st) (I, R, al) Q := zg_42_6
theorem zh_42_9 : Zgo d 42 9 (L) (st) (I, R, al) Q ↔ Zgo d 42 10 (L) (zq none :: st) (I, R, al) Q := zg_42_9
theorem zh_42_10 {x : Option (Nat × Nat)} : Zgo d 42 10 (L) (zq x :: []) (I, R, al) Q ↔ Q (some (zq x)) (I, R, al) := zg_42_10
theorem zh_42_11 {x : Option (Nat × Nat)} : Zgo d 42 11 (some (zq x) :: L) (st) (I, R, al) Q ↔ Zgo d 42 12 (some (zq x) :: L) (zq x :: st) (I, R, al) Q := zg_42_11
theorem zh_42_12 {o : Nat} : Zgo d 42 12 (L) (zq (some (7, o)) :: st) (I, R, al) Q ↔ Zgo d 42 15 (L) (zq (R 7 o 8) :: st) (I, R, al) Q := zg_42_12
theorem zh_42_15 {x : Option (Nat × Nat)} : Zgo d 42 15 (some (zq x) :: L) (st) (I, R, al) Q ↔ Zgo d 42 16 (some (zq x) :: L) (zq x :: st) (I, R, al) Q := zg_42_15
theorem zh_42_16 {x : Int} : Zgo d 42 16 (L) (zi x :: st) (I, R, al) Q ↔ Zgo d 42 17 (L) (zi x :: zi x :: st) (I, R, al) Q := zg_42_16
theorem zh_42_16q {u : Option (Nat × Nat)} : Zgo d 42 16 (L) (zq u :: st) (I, R, al) Q ↔ Zgo d 42 17 (L) (zq u :: zq u :: st) (I, R, al) Q := zg_42_16
theorem zh_42_17 {o : Nat} : Zgo d 42 17 (L) (zq (some (7, o)) :: st) (I, R, al) Q ↔ Zgo d 42 20 (L) (zi (I 7 o 10) :: st) (I, R, al) Q := zg_42_17
theorem zh_42_20 {x : Int} {z : Int} : Zgo d 42 20 (L) (zi x :: zi z :: st) (I, R, al) Q ↔ Zgo d 42 21 (L) (zi x :: zi z :: zi x :: st) (I, R, al) Q := zg_42_20
theorem zh_42_20r {x : Int} {w : Option (Nat × Nat)} : Zgo d 42 20 (L) (zi x :: zq w :: st) (I, R, al) Q ↔ Zgo d 42 21 (L) (zi x :: zq w :: zi x :: st) (I, R, al) Q := zg_42_20
theorem zh_42_20qi {u : Option (Nat × Nat)} {z : Int} : Zgo d 42 20 (L) (zq u :: zi z :: st) (I, R, al) Q ↔ Zgo d 42 21 (L) (zq u :: zi z :: zq u :: st) (I, R, al) Q := zg_42_20
theorem zh_42_20qr {u : Option (Nat × Nat)} {w : Option (Nat × Nat)} : Zgo d 42 20 (L) (zq u :: zq w :: st) (I, R, al) Q ↔ Zgo d 42 21 (L) (zq u :: zq w :: zq u :: st) (I, R, al) Q := zg_42_20
theorem zh_42_21 : Zgo d 42 21 (L) (st) (I, R, al) Q ↔ Zgo d 42 22 (L) (zi 1 :: st) (I, R, al) Q := zg_42_21
theorem zh_42_22 {x y : Int} : Zgo d 42 22 (L) (zi y :: zi x :: st) (I, R, al) Q ↔ Zgo d 42 23 (L) (zi (x + y) :: st) (I, R, al) Q := zg_42_22
theorem zh_42_23 {o : Nat} {v : Int} : Zgo d 42 23 (L) (zi v :: zq (some (7, o)) :: st) (I, R, al) Q ↔ Zgo d 42 26 (L) (st) (zsI I 7 o 10 v, R, al) Q := zg_42_23
theorem zh_42_26 {j : Int} {c o : Nat} : Zgo d 42 26 (L) (zi j :: zq (some (c, o)) :: st) (I, R, al) Q ↔ zal (zlen (I, R, al) c) 3 j (fun x => Zgo d 42 27 (L) (zq (R c o x) :: st) (I, R, al) Q) := zg_42_26
theorem zh_42_27 {x : Option (Nat × Nat)} : Zgo d 42 27 (a0 :: a1 :: a2 :: a3 :: b0 :: L) (zq x :: st) (I, R, al) Q ↔ Zgo d 42 29 (a0 :: a1 :: a2 :: zkl a3 :: some (zq x) :: L) (st) (I, R, al) Q := zg_42_27
theorem zh_42_29 {x : Option (Nat × Nat)} : Zgo d 42 29 (a0 :: a1 :: a2 :: a3 :: some (zq x) :: L) (st) (I, R, al) Q ↔ Zgo d 42 31 (a0 :: a1 :: a2 :: a3 :: some (zq x) :: L) (zq x :: st) (I, R, al) Q := zg_42_29
theorem zh_42_31 {x : Int} : Zgo d 42 31 (a0 :: a1 :: some (zi x) :: L) (st) (I, R, al) Q ↔ Zgo d 42 32 (a0 :: a1 :: some (zi x) :: L) (zi x :: st) (I, R, al) Q := zg_42_31
theorem zh_42_32 {o : Nat} {v : Int} : Zgo d 42 32 (L) (zi v :: zq (some (5, o)) :: st) (I, R, al) Q ↔ Zgo d 42 35 (L) (st) (zsI I 5 o 0 v, R, al) Q := zg_42_32
theorem zh_42_35 {x : Option (Nat × Nat)} : Zgo d 42 35 (a0 :: a1 :: a2 :: a3 :: some (zq x) :: L) (st) (I, R, al) Q ↔ Zgo d 42 37 (a0 :: a1 :: a2 :: a3 :: some (zq x) :: L) (zq x :: st) (I, R, al) Q := zg_42_35
theorem zh_42_37 {x : Int} : Zgo d 42 37 (a0 :: a1 :: a2 :: some (zi x) :: L) (st) (I, R, al) Q ↔ Zgo d 42 38 (a0 :: a1 :: a2 :: some (zi x) :: L) (zi x :: st) (I, R, al) Q := zg_42_37
theorem zh_42_38 {o : Nat} {v : Int} : Zgo d 42 38 (L) (zi v :: zq (some (5, o)) :: st) (I, R, al) Q ↔ Zgo d 42 41 (L) (st) (zsI I 5 o 1 v, R, al) Q := zg_42_38
theorem zh_42_41 {x : Option (Nat × Nat)} : Zgo d 42 41 (a0 :: a1 :: a2 :: a3 :: some (zq x) :: L) (st) (I, R, al) Q ↔ Zgo d 42 43 (a0 :: a1 :: a2 :: a3 :: some (zq x) :: L) (zq x :: st) (I, R, al) Q := zg_42_41
theorem zh_42_43 {x : Option (Nat × Nat)} : Zgo d 42 43 (a0 :: some (zq x) :: L) (st) (I, R, al) Q ↔ Zgo d 42 44 (a0 :: some (zq x) :: L) (zq x :: st) (I, R, al) Q := zg_42_43
theorem zh_42_44 {o : Nat} : Zgo d 42 44 (L) (zq (some (4, o)) :: st) (I, R, al) Q ↔ Zgo d 42 47 (L) (zq (R 4 o 9) :: st) (I, R, al) Q := zg_42_44
theorem zh_42_47 {o : Nat} {v : Option (Nat × Nat)} : Zgo d 42 47 (L) (zq v :: zq (some (5, o)) :: st) (I, R, al) Q ↔ Zgo d 42 50 (L) (st) (I, zsR R 5 o 3 v, al) Q := zg_42_47
theorem zh_42_50 {x : Option (Nat × Nat)} : Zgo d 42 50 (a0 :: some (zq x) :: L) (st) (I, R, al) Q ↔ Zgo d 42 51 (a0 :: some (zq x) :: L) (zq x :: st) (I, R, al) Q := zg_42_50
theorem zh_42_51 {x : Option (Nat × Nat)} : Zgo d 42 51 (a0 :: a1 :: a2 :: a3 :: some (zq x) :: L) (st) (I, R, al) Q ↔ Zgo d 42 53 (a0 :: a1 :: a2 :: a3 :: some (zq x) :: L) (zq x :: st) (I, R, al) Q := zg_42_51
theorem zh_42_53 {o : Nat} {v : Option (Nat × Nat)} : Zgo d 42 53 (L) (zq v :: zq (some (4, o)) :: st) (I, R, al) Q ↔ Zgo d 42 56 (L) (st) (I, zsR R 4 o 9 v, al) Q := zg_42_53
theorem zh_42_56 {x : Option (Nat × Nat)} : Zgo d 42 56 (a0 :: a1 :: a2 :: a3 :: some (zq x) :: L) (st) (I, R, al) Q ↔ Zgo d 42 58 (a0 :: a1 :: a2 :: a3 :: some (zq x) :: L) (zq x :: st) (I, R, al) Q := zg_42_56
theorem zh_42_58 {x : Option (Nat × Nat)} : Zgo d 42 58 (L) (zq x :: []) (I, R, al) Q ↔ Q (some (zq x)) (I, R, al) := zg_42_58
theorem zh_43_0 {x : Option (Nat × Nat)} : Zgo d 43 0 (some (zq x) :: L) (st) (I, R, al) Q ↔ Zgo d 43 1 (some (zq x) :: L) (zq x :: st) (I, R, al) Q := zg_43_0
theorem zh_43_1 {o : Nat} : Zgo d 43 1 (L) (zq (some (9, o)) :: st) (I, R, al) Q ↔ if zwt st ≤ 8 then zCp d 44 [zq (some (9, o))] (I, R, al) (fun r S2 => Zgo d 43 4 L (r.toList ++ st) S2 Q) else False := zg_43_1
theorem zh_43_4 : Zgo d 43 4 (L) (st) (I, R, al) Q ↔ Zgo d 43 5 (L) (zi 0 :: st) (I, R, al) Q := zg_43_4
theorem zh_43_5 {x : Int} : Zgo d 43 5 (a0 :: b0 :: L) (zi x :: st) (I, R, al) Q ↔ Zgo d 43 6 (zkl a0 :: some (zi x) :: L) (st) (I, R, al) Q := zg_43_5
theorem zh_43_6 {x : Int} : Zgo d 43 6 (a0 :: some (zi x) :: L) (st) (I, R, al) Q ↔ Zgo d 43 7 (a0 :: some (zi x) :: L) (zi x :: st) (I, R, al) Q := zg_43_6
theorem zh_43_7 {x : Option (Nat × Nat)} : Zgo d 43 7 (some (zq x) :: L) (st) (I, R, al) Q ↔ Zgo d 43 8 (some (zq x) :: L) (zq x :: st) (I, R, al) Q := zg_43_7
theorem zh_43_8 {o : Nat} : Zgo d 43 8 (L) (zq (some (9, o)) :: st) (I, R, al) Q ↔ Zgo d 43 11 (L) (zq (R 9 o 0) :: st) (I, R, al) Q := zg_43_8
theorem zh_43_11 {o : Nat} : Zgo d 43 11 (L) (zq (some (7, o)) :: st) (I, R, al) Q ↔ Zgo d 43 14 (L) (zi (I 7 o 5) :: st) (I, R, al) Q := zg_43_11
theorem zh_43_14 {x y : Int} : Zgo d 43 14 (L) (zi y :: zi x :: st) (I, R, al) Q ↔ if zw x < zw y then Zgo d 43 17 (L) (st) (I, R, al) Q else Zgo d 43 42 (L) (st) (I, R, al) Q := zg_43_14
theorem zh_43_17 {x : Option (Nat × Nat)} : Zgo d 43 17 (some (zq x) :: L) (st) (I, R, al) Q ↔ Zgo d 43 18 (some (zq x) :: L) (zq x :: st) (I, R, al) Q := zg_43_17
theorem zh_43_18 {o : Nat} : Zgo d 43 18 (L) (zq (some (9, o)) :: st) (I, R, al) Q ↔ Zgo d 43 21 (L) (zq (R 9 o 0) :: st) (I, R, al) Q := zg_43_18
theorem zh_43_21 {o : Nat} : Zgo d 43 21 (L) (zq (some (7, o)) :: st) (I, R, al) Q ↔ Zgo d 43 24 (L) (zq (R 7 o 2) :: st) (I, R, al) Q := zg_43_21
theorem zh_43_24 {x : Int} : Zgo d 43 24 (a0 :: some (zi x) :: L) (st) (I, R, al) Q ↔ Zgo d 43 25 (a0 :: some (zi x) :: L) (zi x :: st) (I, R, al) Q := zg_43_24
theorem zh_43_25 {j : Int} {c o : Nat} : Zgo d 43 25 (L) (zi j :: zq (some (c, o)) :: st) (I, R, al) Q ↔ zal (zlen (I, R, al) c) 3 j (fun x => Zgo d 43 26 (L) (zq (R c o x) :: st) (I, R, al) Q) := zg_43_25
theorem zh_43_26 {v0 : zV} : Zgo d 43 26 (L) (v0 :: st) (I, R, al) Q ↔ if zwt st ≤ 8 then zCp d 46 [v0] (I, R, al) (fun r S2 => Zgo d 43 29 L (r.toList ++ st) S2 Q) else False := zg_43_26
theorem zh_43_29 {x : Int} : Zgo d 43 29 (a0 :: a1 :: b0 :: L) (zi x :: st) (I, R, al) Q ↔ Zgo d 43 30 (a0 :: zkl a1 :: some (zi x) :: L) (st) (I, R, al) Q := zg_43_29
theorem zh_43_30 {x : Int} : Zgo d 43 30 (a0 :: a1 :: some (zi x) :: L) (st) (I, R, al) Q ↔ Zgo d 43 31 (a0 :: a1 :: some (zi x) :: L) (zi x :: st) (I, R, al) Q := zg_43_30
theorem zh_43_31 {x : Int} : Zgo d 43 31 (L) (zi x :: st) (I, R, al) Q ↔ if zw x = zw 0 then Zgo d 43 36 (L) (st) (I, R, al) Q else Zgo d 43 34 (L) (st) (I, R, al) Q := zg_43_31
theorem zh_43_34 {x : Int} : Zgo d 43 34 (a0 :: a1 :: some (zi x) :: L) (st) (I, R, al) Q ↔ Zgo d 43 35 (a0 :: a1 :: some (zi x) :: L) (zi x :: st) (I, R, al) Q := zg_43_34
theorem zh_43_35 {x : Int} : Zgo d 43 35 (L) (zi x :: []) (I, R, al) Q ↔ Q (some (zi x)) (I, R, al) := zg_43_35
theorem zh_43_36 {x : Int} : Zgo d 43 36 (a0 :: some (zi x) :: L) (st) (I, R, al) Q ↔ Zgo d 43 39 (zkl a0 :: some (zi (x + 1)) :: L) (st) (I, R, al) Q := zg_43_36
theorem zh_43_39 : Zgo d 43 39 (L) (st) (I, R, al) Q ↔ Zgo d 43 6 (L) (st) (I, R, al) Q := zg_43_39
theorem zh_43_42 {x : Option (Nat × Nat)} : Zgo d 43 42 (some (zq x) :: L) (st) (I, R, al) Q ↔ Zgo d 43 43 (some (zq x) :: L) (zq x :: st) (I, R, al) Q := zg_43_42
theorem zh_43_43 {o : Nat} : Zgo d 43 43 (L) (zq (some (9, o)) :: st) (I, R, al) Q ↔ if zwt st ≤ 8 then zCp d 49 [zq (some (9, o))] (I, R, al) (fun r S2 => Zgo d 43 46 L (r.toList ++ st) S2 Q) else False := zg_43_43
theorem zh_43_46 {x : Int} : Zgo d 43 46 (L) (zi x :: st) (I, R, al) Q ↔ if zw x = zw 0 then Zgo d 43 51 (L) (st) (I, R, al) Q else Zgo d 43 49 (L) (st) (I, R, al) Q := zg_43_46
theorem zh_43_49 : Zgo d 43 49 (L) (st) (I, R, al) Q ↔ Zgo d 43 50 (L) (zi 3 :: st) (I, R, al) Q := zg_43_49
theorem zh_43_50 {x : Int} : Zgo d 43 50 (L) (zi x :: []) (I, R, al) Q ↔ Q (some (zi x)) (I, R, al) := zg_43_50
theorem zh_43_51 {x : Option (Nat × Nat)} : Zgo d 43 51 (some (zq x) :: L) (st) (I, R, al) Q ↔ Zgo d 43 52 (some (zq x) :: L) (zq x :: st) (I, R, al) Q := zg_43_51
theorem zh_43_52 {o : Nat} : Zgo d 43 52 (L) (zq (some (9, o)) :: st) (I, R, al) Q ↔ if zwt st ≤ 8 then zCp d 50 [zq (some (9, o))] (I, R, al) (fun r S2 => Zgo d 43 55 L (r.toList ++ st) S2 Q) else False := zg_43_52
theorem zh_43_55 {x : Int} : Zgo d 43 55 (L) (zi x :: st) (I, R, al) Q ↔ if zw x = zw 0 then Zgo d 43 62 (L) (st) (I, R, al) Q else Zgo d 43 58 (L) (st) (I, R, al) Q := zg_43_55
theorem zh_43_58 : Zgo d 43 58 (L) (st) (I, R, al) Q ↔ Zgo d 43 59 (L) (zi 0 :: st) (I, R, al) Q := zg_43_58
theorem zh_43_59 : Zgo d 43 59 (L) (st) (I, R, al) Q ↔ Zgo d 43 63 (L) (st) (I, R, al) Q := zg_43_59
theorem zh_43_62 : Zgo d 43 62 (L) (st) (I, R, al) Q ↔ Zgo d 43 63 (L) (zi 5 :: st) (I, R, al) Q := zg_43_62
theorem zh_43_63 {x : Int} : Zgo d 43 63 (L) (zi x :: []) (I, R, al) Q ↔ Q (some (zi x)) (I, R, al) := zg_43_63
theorem zh_44_0 : Zgo d 44 0 (L) (st) (I, R, al) Q ↔ Zgo d 44 1 (L) (zi 0 :: st) (I, R, al) Q := zg_44_0
theorem zh_44_1 {x : Int} : Zgo d 44 1 (a0 :: b0 :: L) (zi x :: st) (I, R, al) Q ↔ Zgo d 44 2 (zkl a0 :: some (zi x) :: L) (st) (I, R, al) Q := zg_44_1
theorem zh_44_2 {x : Int} : Zgo d 44 2 (a0 :: some (zi x) :: L) (st) (I, R, al) Q ↔ Zgo d 44 3 (a0 :: some (zi x) :: L) (zi x :: st) (I, R, al) Q := zg_44_2
theorem zh_44_3 {x : Option (Nat × Nat)} : Zgo d 44 3 (some (zq x) :: L) (st) (I, R, al) Q ↔ Zgo d 44 4 (some (zq x) :: L) (zq x :: st) (I, R, al) Q := zg_44_3
theorem zh_44_4 {o : Nat} : Zgo d 44 4 (L) (zq (some (9, o)) :: st) (I, R, al) Q ↔ Zgo d 44 7 (L) (zq (R 9 o 0) :: st) (I, R, al) Q := zg_44_4
theorem zh_44_7 {o : Nat} : Zgo d 44 7 (L) (zq (some (7, o)) :: st) (I, R, al) Q ↔ Zgo d 44 10 (L) (zi (I 7 o 5) :: st) (I, R, al) Q := zg_44_7
theorem zh_44_10 {x y : Int} : Zgo d 44 10 (L) (zi y :: zi x :: st) (I, R, al) Q ↔ if zw x < zw y then Zgo d 44 13 (L) (st) (I, R, al) Q else Zgo d 44 82 (L) (st) (I, R, al) Q := zg_44_10
theorem zh_44_13 {x : Option (Nat × Nat)} : Zgo d 44 13 (some (zq x) :: L) (st) (I, R, al) Q ↔ Zgo d 44 14 (some (zq x) :: L) (zq x :: st) (I, R, al) Q := zg_44_13
theorem zh_44_14 {o : Nat} : Zgo d 44 14 (L) (zq (some (9, o)) :: st) (I, R, al) Q ↔ Zgo d 44 17 (L) (zq (R 9 o 0) :: st) (I, R, al) Q := zg_44_14
theorem zh_44_17 {o : Nat} : Zgo d 44 17 (L) (zq (some (7, o)) :: st) (I, R, al) Q ↔ Zgo d 44 20 (L) (zq (R 7 o 2) :: st) (I, R, al) Q := zg_44_17
theorem zh_44_20 {x : Int} : Zgo d 44 20 (a0 :: some (zi x) :: L) (st) (I, R, al) Q ↔ Zgo d 44 21 (a0 :: some (zi x) :: L) (zi x :: st) (I, R, al) Q := zg_44_20
theorem zh_44_21 {j : Int} {c o : Nat} : Zgo d 44 21 (L) (zi j :: zq (some (c, o)) :: st) (I, R, al) Q ↔ zal (zlen (I, R, al) c) 3 j (fun x => Zgo d 44 22 (L) (zq (R c o x) :: st) (I, R, al) Q) := zg_44_21
theorem zh_44_22 {x : Option (Nat × Nat)} : Zgo d 44 22 (a0 :: a1 :: b0 :: L) (zq x :: st) (I, R, al) Q ↔ Zgo d 44 23 (a0 :: zkl a1 :: some (zq x) :: L) (st) (I, R, al) Q := zg_44_22
theorem zh_44_23 {x : Option (Nat × Nat)} : Zgo d 44 23 (a0 :: a1 :: some (zq x) :: L) (st) (I, R, al) Q ↔ Zgo d 44 24 (a0 :: a1 :: some (zq x) :: L) (zq x :: st) (I, R, al) Q := zg_44_23
theorem zh_44_24 {o : Nat} : Zgo d 44 24 (L) (zq (some (4, o)) :: st) (I, R, al) Q ↔ Zgo d 44 27 (L) (zi (I 4 o 0) :: st) (I, R, al) Q := zg_44_24
theorem zh_44_27 : Zgo d 44 27 (L) (st) (I, R, al) Q ↔ Zgo d 44 29 (L) (zi 80 :: st) (I, R, al) Q := zg_44_27
theorem zh_44_29 {x y : Int} : Zgo d 44 29 (L) (zi y :: zi x :: st) (I, R, al) Q ↔ if zw x = zw y then Zgo d 44 32 (L) (st) (I, R, al) Q else Zgo d 44 76 (L) (st) (I, R, al) Q := zg_44_29
theorem zh_44_32 {x : Option (Nat × Nat)} : Zgo d 44 32 (some (zq x) :: L) (st) (I, R, al) Q ↔ Zgo d 44 33 (some (zq x) :: L) (zq x :: st) (I, R, al) Q := zg_44_32
theorem zh_44_33 {o : Nat} : Zgo d 44 33 (L) (zq (some (9, o)) :: st) (I, R, al) Q ↔ Zgo d 44 36 (L) (zq (R 9 o 0) :: st) (I, R, al) Q := zg_44_33
theorem zh_44_36 {x : Option (Nat × Nat)} : Zgo d 44 36 (a0 :: a1 :: some (zq x) :: L) (st) (I, R, al) Q ↔ Zgo d 44 37 (a0 :: a1 :: some (zq x) :: L) (zq x :: st) (I, R, al) Q := zg_44_36
theorem zh_44_37 {o : Nat} : Zgo d 44 37 (L) (zq (some (4, o)) :: st) (I, R, al) Q ↔ Zgo d 44 40 (L) (zi (I 4 o 1) :: st) (I, R, al) Q := zg_44_37
theorem zh_44_40 {v1 : zV} {o : Nat} : Zgo d 44 40 (L) (v1 :: zq (some (7, o)) :: st) (I, R, al) Q ↔ if zwt st ≤ 8 then zCp d 45 [zq (some (7, o)), v1] (I, R, al) (fun r S2 => Zgo d 44 43 L (r.toList ++ st) S2 Q) else False := zg_44_40
theorem zh_44_43 {x : Option (Nat × Nat)} : Zgo d 44 43 (a0 :: a1 :: a2 :: b0 :: L) (zq x :: st) (I, R, al) Q ↔ Zgo d 44 44 (a0 :: a1 :: zkl a2 :: some (zq x) :: L) (st) (I, R, al) Q := zg_44_43
theorem zh_44_44 {x : Option (Nat × Nat)} : Zgo d 44 44 (a0 :: a1 :: some (zq x) :: L) (st) (I, R, al) Q ↔ Zgo d 44 45 (a0 :: a1 :: some (zq x) :: L) (zq x :: st) (I, R, al) Q := zg_44_44
theorem zh_44_45 {x : Option (Nat × Nat)} : Zgo d 44 45 (a0 :: a1 :: a2 :: some (zq x) :: L) (st) (I, R, al) Q ↔ Zgo d 44 46 (a0 :: a1 :: a2 :: some (zq x) :: L) (zq x :: st) (I, R, al) Q := zg_44_45
theorem zh_44_46n : Zgo d 44 46 (L) (zq none :: st) (I, R, al) Q ↔ Zgo d 44 49 (L) (st) (I, R, al) Q := zg_44_46
theorem zh_44_46 {q : Nat × Nat} : Zgo d 44 46 (L) (zq (some q) :: st) (I, R, al) Q ↔ Zgo d 44 53 (L) (st) (I, R, al) Q := zg_44_46
theorem zh_44_49 : Zgo d 44 49 (L) (st) (I, R, al) Q ↔ Zgo d 44 50 (L) (zq none :: st) (I, R, al) Q := zg_44_49
theorem zh_44_50 : Zgo d 44 50 (L) (st) (I, R, al) Q ↔ Zgo d 44 57 (L) (st) (I, R, al) Q := zg_44_50
theorem zh_44_53 {x : Option (Nat × Nat)} : Zgo d 44 53 (a0 :: a1 :: a2 :: some (zq x) :: L) (st) (I, R, al) Q ↔ Zgo d 44 54 (a0 :: a1 :: a2 :: some (zq x) :: L) (zq x :: st) (I, R, al) Q := zg_44_53
theorem zh_44_54 {o : Nat} : Zgo d 44 54 (L) (zq (some (2, o)) :: st) (I, R, al) Q ↔ Zgo d 44 57 (L) (zq (R 2 o 3) :: st) (I, R, al) Q := zg_44_54
theorem zh_44_57 {o : Nat} {v : Option (Nat × Nat)} : Zgo d 44 57 (L) (zq v :: zq (some (4, o)) :: st) (I, R, al) Q ↔ Zgo d 44 60 (L) (st) (I, zsR R 4 o 7 v, al) Q := zg_44_57
theorem zh_44_60 {x : Option (Nat × Nat)} : Zgo d 44 60 (a0 :: a1 :: some (zq x) :: L) (st) (I, R, al) Q ↔ Zgo d 44 61 (a0 :: a1 :: some (zq x) :: L) (zq x :: st) (I, R, al) Q := zg_44_60
theorem zh_44_61 {x : Option (Nat × Nat)} : Zgo d 44 61 (a0 :: a1 :: a2 :: some (zq x) :: L) (st) (I, R, al) Q ↔ Zgo d 44 62 (a0 :: a1 :: a2 :: some (zq x) :: L) (zq x :: st) (I, R, al) Q := zg_44_61
theorem zh_44_62n : Zgo d 44 62 (L) (zq none :: st) (I, R, al) Q ↔ Zgo d 44 65 (L) (st) (I, R, al) Q := zg_44_62
theorem zh_44_62 {q : Nat × Nat} : Zgo d 44 62 (L) (zq (some q) :: st) (I, R, al) Q ↔ Zgo d 44 69 (L) (st) (I, R, al) Q := zg_44_62
theorem zh_44_65 : Zgo d 44 65 (L) (st) (I, R, al) Q ↔ Zgo d 44 66 (L) (zi 0 :: st) (I, R, al) Q := zg_44_65
theorem zh_44_66 : Zgo d 44 66 (L) (st) (I, R, al) Q ↔ Zgo d 44 73 (L) (st) (I, R, al) Q := zg_44_66
theorem zh_44_69 {x : Option (Nat × Nat)} : Zgo d 44 69 (a0 :: a1 :: a2 :: some (zq x) :: L) (st) (I, R, al) Q ↔ Zgo d 44 70 (a0 :: a1 :: a2 :: some (zq x) :: L) (zq x :: st) (I, R, al) Q := zg_44_69
theorem zh_44_70 {o : Nat} : Zgo d 44 70 (L) (zq (some (2, o)) :: st) (I, R, al) Q ↔ Zgo d 44 73 (L) (zi (I 2 o 1) :: st) (I, R, al) Q := zg_44_70
theorem zh_44_73 {o : Nat} {v : Int} : Zgo d 44 73 (L) (zi v :: zq (some (4, o)) :: st) (I, R, al) Q ↔ Zgo d 44 76 (L) (st) (zsI I 4 o 10 v, R, al) Q := zg_44_73
theorem zh_44_76 {x : Int} : Zgo d 44 76 (a0 :: some (zi x) :: L) (st) (I, R, al) Q ↔ Zgo d 44 79 (zkl a0 :: some (zi (x + 1)) :: L) (st) (I, R, al) Q := zg_44_76
theorem zh_44_79 : Zgo d 44 79 (L) (st) (I, R, al) Q ↔ Zgo d 44 2 (L) (st) (I, R, al) Q := zg_44_79
theorem zh_44_82 : Zgo d 44 82 (L) ([]) (I, R, al) Q ↔ Q none (I, R, al) := zg_44_82
theorem zh_45_0 : Zgo d 45 0 (L) (st) (I, R, al) Q ↔ Zgo d 45 1 (L) (zi 0 :: st) (I, R, al) Q := zg_45_0
theorem zh_45_1 {x : Int} : Zgo d 45 1 (a0 :: a1 :: b0 :: L) (zi x :: st) (I, R, al) Q ↔ Zgo d 45 2 (a0 :: zkl a1 :: some (zi x) :: L) (st) (I, R, al) Q := zg_45_1
theorem zh_45_2 {x : Int} : Zgo d 45 2 (a0 :: a1 :: some (zi x) :: L) (st) (I, R, al) Q ↔ Zgo d 45 3 (a0 :: a1 :: some (zi x) :: L) (zi x :: st) (I, R, al) Q := zg_45_2
theorem zh_45_3 {x : Option (Nat × Nat)} : Zgo d 45 3 (some (zq x) :: L) (st) (I, R, al) Q ↔ Zgo d 45 4 (some (zq x) :: L) (zq x :: st) (I, R, al) Q := zg_45_3
theorem zh_45_4 {o : Nat} : Zgo d 45 4 (L) (zq (some (7, o)) :: st) (I, R, al) Q ↔ Zgo d 45 7 (L) (zi (I 7 o 4) :: st) (I, R, al) Q := zg_45_4
theorem zh_45_7 {x y : Int} : Zgo d 45 7 (L) (zi y :: zi x :: st) (I, R, al) Q ↔ if zw x < zw y then Zgo d 45 10 (L) (st) (I, R, al) Q else Zgo d 45 36 (L) (st) (I, R, al) Q := zg_45_7
theorem zh_45_10 {x : Option (Nat × Nat)} : Zgo d 45 10 (some (zq x) :: L) (st) (I, R, al) Q ↔ Zgo d 45 11 (some (zq x) :: L) (zq x :: st) (I, R, al) Q := zg_45_10
theorem zh_45_11 {o : Nat} : Zgo d 45 11 (L) (zq (some (7, o)) :: st) (I, R, al) Q ↔ Zgo d 45 14 (L) (zq (R 7 o 0) :: st) (I, R, al) Q := zg_45_11
theorem zh_45_14 {x : Int} : Zgo d 45 14 (a0 :: a1 :: some (zi x) :: L) (st) (I, R, al) Q ↔ Zgo d 45 15 (a0 :: a1 :: some (zi x) :: L) (zi x :: st) (I, R, al) Q := zg_45_14
theorem zh_45_15 {j : Int} {c o : Nat} : Zgo d 45 15 (L) (zi j :: zq (some (c, o)) :: st) (I, R, al) Q ↔ zal (zlen (I, R, al) c) 3 j (fun x => Zgo d 45 16 (L) (zq (R c o x) :: st) (I, R, al) Q) := zg_45_15
theorem zh_45_16 {o : Nat} : Zgo d 45 16 (L) (zq (some (2, o)) :: st) (I, R, al) Q ↔ Zgo d 45 19 (L) (zi (I 2 o 0) :: st) (I, R, al) Q := zg_45_16
theorem zh_45_19 {x : Int} : Zgo d 45 19 (a0 :: some (zi x) :: L) (st) (I, R, al) Q ↔ Zgo d 45 20 (a0 :: some (zi x) :: L) (zi x :: st) (I, R, al) Q := zg_45_19
theorem zh_45_20 {x y : Int} : Zgo d 45 20 (L) (zi y :: zi x :: st) (I, R, al) Q ↔ if zw x = zw y then Zgo d 45 23 (L) (st) (I, R, al) Q else Zgo d 45 30 (L) (st) (I, R, al) Q := zg_45_20
theorem zh_45_23 {x : Option (Nat × Nat)} : Zgo d 45 23 (some (zq x) :: L) (st) (I, R, al) Q ↔ Zgo d 45 24 (some (zq x) :: L) (zq x :: st) (I, R, al) Q := zg_45_23
theorem zh_45_24 {o : Nat} : Zgo d 45 24 (L) (zq (some (7, o)) :: st) (I, R, al) Q ↔ Zgo d 45 27 (L) (zq (R 7 o 0) :: st) (I, R, al) Q := zg_45_24
theorem zh_45_27 {x : Int} : Zgo d 45 27 (a0 :: a1 :: some (zi x) :: L) (st) (I, R, al) Q ↔ Zgo d 45 28 (a0 :: a1 :: some (zi x) :: L) (zi x :: st) (I, R, al) Q := zg_45_27
theorem zh_45_28 {j : Int} {c o : Nat} : Zgo d 45 28 (L) (zi j :: zq (some (c, o)) :: st) (I, R, al) Q ↔ zal (zlen (I, R, al) c) 3 j (fun x => Zgo d 45 29 (L) (zq (R c o x) :: st) (I, R, al) Q) := zg_45_28
theorem zh_45_29 {x : Option (Nat × Nat)} : Zgo d 45 29 (L) (zq x :: []) (I, R, al) Q ↔ Q (some (zq x)) (I, R, al) := zg_45_29
theorem zh_45_30 {x : Int} : Zgo d 45 30 (a0 :: a1 :: some (zi x) :: L) (st) (I, R, al) Q ↔ Zgo d 45 33 (a0 :: zkl a1 :: some (zi (x + 1)) :: L) (st) (I, R, al) Q := zg_45_30
theorem zh_45_33 : Zgo d 45 33 (L) (st) (I, R, al) Q ↔ Zgo d 45 2 (L) (st) (I, R, al) Q := zg_45_33
theorem zh_45_36 : Zgo d 45 36 (L) (st) (I, R, al) Q ↔ Zgo d 45 37 (L) (zq none :: st) (I, R, al) Q := zg_45_36
theorem zh_45_37 {x : Option (Nat × Nat)} : Zgo d 45 37 (L) (zq x :: []) (I, R, al) Q ↔ Q (some (zq x)) (I, R, al) := zg_45_37
theorem zh_46_0 {x : Option (Nat × Nat)} : Zgo d 46 0 (some (zq x) :: L) (st) (I, R, al) Q ↔ Zgo d 46 1 (some (zq x) :: L) (zq x :: st) (I, R, al) Q := zg_46_0
theorem zh_46_1 {v0 : zV} : Zgo d 46 1 (L) (v0 :: st) (I, R, al) Q ↔ if zwt st ≤ 8 then zCp d 47 [v0] (I, R, al) (fun r S2 => Zgo d 46 4 L (r.toList ++ st) S2 Q) else False := zg_46_1
theorem zh_46_4 {x : Int} : Zgo d 46 4 (L) (zi x :: st) (I, R, al) Q ↔ if zw x = zw 0 then Zgo d 46 9 (L) (st) (I, R, al) Q else Zgo d 46 7 (L) (st) (I, R, al) Q := zg_46_4
theorem zh_46_7 : Zgo d 46 7 (L) (st) (I, R, al) Q ↔ Zgo d 46 8 (L) (zi 2 :: st) (I, R, al) Q := zg_46_7
theorem zh_46_8 {x : Int} : Zgo d 46 8 (L) (zi x :: []) (I, R, al) Q ↔ Q (some (zi x)) (I, R, al) := zg_46_8
theorem zh_46_9 {x : Option (Nat × Nat)} : Zgo d 46 9 (some (zq x) :: L) (st) (I, R, al) Q ↔ Zgo d 46 10 (some (zq x) :: L) (zq x :: st) (I, R, al) Q := zg_46_9
theorem zh_46_10 {o : Nat} : Zgo d 46 10 (L) (zq (some (4, o)) :: st) (I, R, al) Q ↔ Zgo d 46 13 (L) (zi (I 4 o 0) :: st) (I, R, al) Q := zg_46_10
theorem zh_46_13 : Zgo d 46 13 (L) (st) (I, R, al) Q ↔ Zgo d 46 15 (L) (zi 80 :: st) (I, R, al) Q := zg_46_13
theorem zh_46_15 {x y : Int} : Zgo d 46 15 (L) (zi y :: zi x :: st) (I, R, al) Q ↔ if zw x = zw y then Zgo d 46 18 (L) (st) (I, R, al) Q else Zgo d 46 27 (L) (st) (I, R, al) Q := zg_46_15
theorem zh_46_18 {x : Option (Nat × Nat)} : Zgo d 46 18 (some (zq x) :: L) (st) (I, R, al) Q ↔ Zgo d 46 19 (some (zq x) :: L) (zq x :: st) (I, R, al) Q := zg_46_18
theorem zh_46_19 {o : Nat} : Zgo d 46 19 (L) (zq (some (4, o)) :: st) (I, R, al) Q ↔ Zgo d 46 22 (L) (zq (R 4 o 7) :: st) (I, R, al) Q := zg_46_19
theorem zh_46_22n : Zgo d 46 22 (L) (zq none :: st) (I, R, al) Q ↔ Zgo d 46 25 (L) (st) (I, R, al) Q := zg_46_22
theorem zh_46_22 {q : Nat × Nat} : Zgo d 46 22 (L) (zq (some q) :: st) (I, R, al) Q ↔ Zgo d 46 27 (L) (st) (I, R, al) Q := zg_46_22
theorem zh_46_25 : Zgo d 46 25 (L) (st) (I, R, al) Q ↔ Zgo d 46 26 (L) (zi 3 :: st) (I, R, al) Q := zg_46_25
theorem zh_46_26 {x : Int} : Zgo d 46 26 (L) (zi x :: []) (I, R, al) Q ↔ Q (some (zi x)) (I, R, al) := zg_46_26
theorem zh_46_27 {x : Option (Nat × Nat)} : Zgo d 46 27 (some (zq x) :: L) (st) (I, R, al) Q ↔ Zgo d 46 28 (some (zq x) :: L) (zq x :: st) (I, R, al) Q := zg_46_27
theorem zh_46_28 {o : Nat} : Zgo d 46 28 (L) (zq (some (4, o)) :: st) (I, R, al) Q ↔ Zgo d 46 31 (L) (zq (R 4 o 5) :: st) (I, R, al) Q := zg_46_28
theorem zh_46_31n : Zgo d 46 31 (L) (zq none :: st) (I, R, al) Q ↔ Zgo d 46 48 (L) (st) (I, R, al) Q := zg_46_31
theorem zh_46_31 {q : Nat × Nat} : Zgo d 46 31 (L) (zq (some q) :: st) (I, R, al) Q ↔ Zgo d 46 34 (L) (st) (I, R, al) Q := zg_46_31
theorem zh_46_34 {x : Option (Nat × Nat)} : Zgo d 46 34 (some (zq x) :: L) (st) (I, R, al) Q ↔ Zgo d 46 35 (some (zq x) :: L) (zq x :: st) (I, R, al) Q := zg_46_34
theorem zh_46_35 {o : Nat} : Zgo d 46 35 (L) (zq (some (4, o)) :: st) (I, R, al) Q ↔ Zgo d 46 38 (L) (zq (R 4 o 5) :: st) (I, R, al) Q := zg_46_35
theorem zh_46_38 {v0 : zV} : Zgo d 46 38 (L) (v0 :: st) (I, R, al) Q ↔ if zwt st ≤ 8 then zCp d 48 [v0] (I, R, al) (fun r S2 => Zgo d 46 41 L (r.toList ++ st) S2 Q) else False := zg_46_38
theorem zh_46_41 {x : Int} : Zgo d 46 41 (L) (zi x :: st) (I, R, al) Q ↔ if zw x = zw 0 then Zgo d 46 48 (L) (st) (I, R, al) Q else Zgo d 46 44 (L) (st) (I, R, al) Q := zg_46_41
theorem zh_46_44 : Zgo d 46 44 (L) (st) (I, R, al) Q ↔ Zgo d 46 45 (L) (zi 4 :: st) (I, R, al) Q := zg_46_44
theorem zh_46_45 : Zgo d 46 45 (L) (st) (I, R, al) Q ↔ Zgo d 46 49 (L) (st) (I, R, al) Q := zg_46_45
theorem zh_46_48 : Zgo d 46 48 (L) (st) (I, R, al) Q ↔ Zgo d 46 49 (L) (zi 0 :: st) (I, R, al) Q := zg_46_48
theorem zh_46_49 {x : Int} : Zgo d 46 49 (L) (zi x :: []) (I, R, al) Q ↔ Q (some (zi x)) (I, R, al) := zg_46_49
theorem zh_47_0 {x : Option (Nat × Nat)} : Zgo d 47 0 (some (zq x) :: L) (st) (I, R, al) Q ↔ Zgo d 47 1 (some (zq x) :: L) (zq x :: st) (I, R, al) Q := zg_47_0
theorem zh_47_1 {o : Nat} : Zgo d 47 1 (L) (zq (some (4, o)) :: st) (I, R, al) Q ↔ Zgo d 47 4 (L) (zi (I 4 o 0) :: st) (I, R, al) Q := zg_47_1
theorem zh_47_40 {x : Option (Nat × Nat)} : Zgo d 47 40 (some (zq x) :: L) (st) (I, R, al) Q ↔ Zgo d 47 41 (some (zq x) :: L) (zq x :: st) (I, R, al) Q := zg_47_40
theorem zh_47_41 {o : Nat} : Zgo d 47 41 (L) (zq (some (4, o)) :: st) (I, R, al) Q ↔ Zgo d 47 44 (L) (zq (R 4 o 4) :: st) (I, R, al) Q := zg_47_41
theorem zh_47_44 {o : Nat} : Zgo d 47 44 (L) (zq (some (3, o)) :: st) (I, R, al) Q ↔ Zgo d 47 47 (L) (zi (I 3 o 1) :: st) (I, R, al) Q := zg_47_44
theorem zh_47_47 {x : Int} : Zgo d 47 47 (L) (zi x :: st) (I, R, al) Q ↔ if zw x = zw 0 then Zgo d 47 50 (L) (st) (I, R, al) Q else Zgo d 47 54 (L) (st) (I, R, al) Q := zg_47_47
theorem zh_47_50 : Zgo d 47 50 (L) (st) (I, R, al) Q ↔ Zgo d 47 51 (L) (zi 1 :: st) (I, R, al) Q := zg_47_50
theorem zh_47_51 : Zgo d 47 51 (L) (st) (I, R, al) Q ↔ Zgo d 47 55 (L) (st) (I, R, al) Q := zg_47_51
theorem zh_47_54 : Zgo d 47 54 (L) (st) (I, R, al) Q ↔ Zgo d 47 55 (L) (zi 0 :: st) (I, R, al) Q := zg_47_54
theorem zh_47_55 {x : Int} : Zgo d 47 55 (L) (zi x :: []) (I, R, al) Q ↔ zok 1 x False (Q (some (zi x)) (I, R, al)) := zg_47_55
theorem zh_47_56 {x : Option (Nat × Nat)} : Zgo d 47 56 (some (zq x) :: L) (st) (I, R, al) Q ↔ Zgo d 47 57 (some (zq x) :: L) (zq x :: st) (I, R, al) Q := zg_47_56
theorem zh_47_57 {o : Nat} : Zgo d 47 57 (L) (zq (some (4, o)) :: st) (I, R, al) Q ↔ Zgo d 47 60 (L) (zq (R 4 o 4) :: st) (I, R, al) Q := zg_47_57
theorem zh_47_60 {o : Nat} : Zgo d 47 60 (L) (zq (some (3, o)) :: st) (I, R, al) Q ↔ Zgo d 47 63 (L) (zi (I 3 o 2) :: st) (I, R, al) Q := zg_47_60
theorem zh_47_63 : Zgo d 47 63 (L) (st) (I, R, al) Q ↔ Zgo d 47 64 (L) (zi (-1) :: st) (I, R, al) Q := zg_47_63
theorem zh_47_64 {x y : Int} : Zgo d 47 64 (L) (zi y :: zi x :: st) (I, R, al) Q ↔ if zw x = zw y then Zgo d 47 67 (L) (st) (I, R, al) Q else Zgo d 47 71 (L) (st) (I, R, al) Q := zg_47_64
theorem zh_47_67 : Zgo d 47 67 (L) (st) (I, R, al) Q ↔ Zgo d 47 68 (L) (zi 1 :: st) (I, R, al) Q := zg_47_67
theorem zh_47_68 : Zgo d 47 68 (L) (st) (I, R, al) Q ↔ Zgo d 47 72 (L) (st) (I, R, al) Q := zg_47_68
theorem zh_47_71 : Zgo d 47 71 (L) (st) (I, R, al) Q ↔ Zgo d 47 72 (L) (zi 0 :: st) (I, R, al) Q := zg_47_71
theorem zh_47_72 {x : Int} : Zgo d 47 72 (L) (zi x :: []) (I, R, al) Q ↔ zok 1 x False (Q (some (zi x)) (I, R, al)) := zg_47_72
theorem zh_47_73 : Zgo d 47 73 (L) (st) (I, R, al) Q ↔ Zgo d 47 74 (L) (zi 0 :: st) (I, R, al) Q := zg_47_73
theorem zh_47_74 {x : Int} : Zgo d 47 74 (L) (zi x :: []) (I, R, al) Q ↔ zok 1 x False (Q (some (zi x)) (I, R, al)) := zg_47_74
theorem zh_47_4 {x : Int} : Zgo d 47 4 L (zi x :: st) (I, R, al) Q ↔ (if zw x = 66 then Zgo d 47 40 L st (I, R, al) Q else if zw x = 67 then Zgo d 47 40 L st (I, R, al) Q else if zw x = 88 then Zgo d 47 56 L st (I, R, al) Q else Zgo d 47 73 L st (I, R, al) Q) := zg_47_4
theorem zh_48_0 {x : Option (Nat × Nat)} : Zgo d 48 0 (some (zq x) :: L) (st) (I, R, al) Q ↔ Zgo d 48 1 (some (zq x) :: L) (zq x :: st) (I, R, al) Q := zg_48_0
theorem zh_48_1 {o : Nat} : Zgo d 48 1 (L) (zq (some (4, o)) :: st) (I, R, al) Q ↔ Zgo d 48 4 (L) (zi (I 4 o 0) :: st) (I, R, al) Q := zg_48_1
theorem zh_48_56 : Zgo d 48 56 (L) (st) (I, R, al) Q ↔ Zgo d 48 57 (L) (zi 1 :: st) (I, R, al) Q := zg_48_56
theorem zh_48_57 {x : Int} : Zgo d 48 57 (L) (zi x :: []) (I, R, al) Q ↔ zok 1 x False (Q (some (zi x)) (I, R, al)) := zg_48_57
theorem zh_48_58 : Zgo d 48 58 (L) (st) (I, R, al) Q ↔ Zgo d 48 59 (L) (zi 0 :: st) (I, R, al) Q := zg_48_58
theorem zh_48_59 {x : Int} : Zgo d 48 59 (L) (zi x :: []) (I, R, al) Q ↔ zok 1 x False (Q (some (zi x)) (I, R, al)) := zg_48_59
theorem zh_48_4 {x : Int} : Zgo d 48 4 L (zi x :: st) (I, R, al) Q ↔ (if zw x = 66 then Zgo d 48 56 L st (I, R, al) Q else if zw x = 67 then Zgo d 48 56 L st (I, R, al) Q else if zw x = 82 then Zgo d 48 56 L st (I, R, al) Q else if zw x = 84 then Zgo d 48 56 L st (I, R, al) Q else if zw x = 88 then Zgo d 48 56 L st (I, R, al) Q else Zgo d 48 58 L st (I, R, al) Q) := zg_48_4
theorem zh_49_0 : Zgo d 49 0 (L) (st) (I, R, al) Q ↔ Zgo d 49 1 (L) (zi 0 :: st) (I, R, al) Q := zg_49_0
theorem zh_49_1 {x : Int} : Zgo d 49 1 (a0 :: b0 :: L) (zi x :: st) (I, R, al) Q ↔ Zgo d 49 2 (zkl a0 :: some (zi x) :: L) (st) (I, R, al) Q := zg_49_1
theorem zh_49_2 {x : Int} : Zgo d 49 2 (a0 :: some (zi x) :: L) (st) (I, R, al) Q ↔ Zgo d 49 3 (a0 :: some (zi x) :: L) (zi x :: st) (I, R, al) Q := zg_49_2
theorem zh_49_3 {x : Option (Nat × Nat)} : Zgo d 49 3 (some (zq x) :: L) (st) (I, R, al) Q ↔ Zgo d 49 4 (some (zq x) :: L) (zq x :: st) (I, R, al) Q := zg_49_3
theorem zh_49_4 {o : Nat} : Zgo d 49 4 (L) (zq (some (9, o)) :: st) (I, R, al) Q ↔ Zgo d 49 7 (L) (zq (R 9 o 0) :: st) (I, R, al) Q := zg_49_4
theorem zh_49_7 {o : Nat} : Zgo d 49 7 (L) (zq (some (7, o)) :: st) (I, R, al) Q ↔ Zgo d 49 10 (L) (zi (I 7 o 4) :: st) (I, R, al) Q := zg_49_7
theorem zh_49_10 {x y : Int} : Zgo d 49 10 (L) (zi y :: zi x :: st) (I, R, al) Q ↔ if zw x < zw y then Zgo d 49 13 (L) (st) (I, R, al) Q else Zgo d 49 46 (L) (st) (I, R, al) Q := zg_49_10
theorem zh_49_13 {x : Option (Nat × Nat)} : Zgo d 49 13 (some (zq x) :: L) (st) (I, R, al) Q ↔ Zgo d 49 14 (some (zq x) :: L) (zq x :: st) (I, R, al) Q := zg_49_13
theorem zh_49_14 {o : Nat} : Zgo d 49 14 (L) (zq (some (9, o)) :: st) (I, R, al) Q ↔ Zgo d 49 17 (L) (zq (R 9 o 0) :: st) (I, R, al) Q := zg_49_14
theorem zh_49_17 {o : Nat} : Zgo d 49 17 (L) (zq (some (7, o)) :: st) (I, R, al) Q ↔ Zgo d 49 20 (L) (zq (R 7 o 0) :: st) (I, R, al) Q := zg_49_17
theorem zh_49_20 {x : Int} : Zgo d 49 20 (a0 :: some (zi x) :: L) (st) (I, R, al) Q ↔ Zgo d 49 21 (a0 :: some (zi x) :: L) (zi x :: st) (I, R, al) Q := zg_49_20
theorem zh_49_21 {j : Int} {c o : Nat} : Zgo d 49 21 (L) (zi j :: zq (some (c, o)) :: st) (I, R, al) Q ↔ zal (zlen (I, R, al) c) 3 j (fun x => Zgo d 49 22 (L) (zq (R c o x) :: st) (I, R, al) Q) := zg_49_21
theorem zh_49_22 {x : Option (Nat × Nat)} : Zgo d 49 22 (a0 :: a1 :: b0 :: L) (zq x :: st) (I, R, al) Q ↔ Zgo d 49 23 (a0 :: zkl a1 :: some (zq x) :: L) (st) (I, R, al) Q := zg_49_22
theorem zh_49_23 {x : Option (Nat × Nat)} : Zgo d 49 23 (some (zq x) :: L) (st) (I, R, al) Q ↔ Zgo d 49 24 (some (zq x) :: L) (zq x :: st) (I, R, al) Q := zg_49_23
theorem zh_49_24 {o : Nat} : Zgo d 49 24 (L) (zq (some (9, o)) :: st) (I, R, al) Q ↔ Zgo d 49 27 (L) (zq (R 9 o 0) :: st) (I, R, al) Q := zg_49_24
theorem zh_49_27 {x : Option (Nat × Nat)} : Zgo d 49 27 (a0 :: a1 :: some (zq x) :: L) (st) (I, R, al) Q ↔ Zgo d 49 28 (a0 :: a1 :: some (zq x) :: L) (zq x :: st) (I, R, al) Q := zg_49_27
theorem zh_49_28 {o : Nat} : Zgo d 49 28 (L) (zq (some (2, o)) :: st) (I, R, al) Q ↔ Zgo d 49 31 (L) (zi (I 2 o 0) :: st) (I, R, al) Q := zg_49_28
theorem zh_49_31 {v1 : zV} {o : Nat} : Zgo d 49 31 (L) (v1 :: zq (some (7, o)) :: st) (I, R, al) Q ↔ if zwt st ≤ 8 then zCp d 45 [zq (some (7, o)), v1] (I, R, al) (fun r S2 => Zgo d 49 34 L (r.toList ++ st) S2 Q) else False := zg_49_31
theorem zh_49_34 {x : Option (Nat × Nat)} : Zgo d 49 34 (a0 :: a1 :: some (zq x) :: L) (st) (I, R, al) Q ↔ Zgo d 49 35 (a0 :: a1 :: some (zq x) :: L) (zq x :: st) (I, R, al) Q := zg_49_34
theorem zh_49_35 {c i j : Nat} : Zgo d 49 35 (L) (zq (some (c, j)) :: zq (some (c, i)) :: st) (I, R, al) Q ↔ (if i = j then Zgo d 49 40 (L) (st) (I, R, al) Q else Zgo d 49 38 (L) (st) (I, R, al) Q) := zg_49_35.trans (Iff.of_eq zs_same0)
theorem zh_49_35n : Zgo d 49 35 (L) (zq none :: zq none :: st) (I, R, al) Q ↔ Zgo d 49 40 (L) (st) (I, R, al) Q := zg_49_35
theorem zh_49_35l {q : Nat × Nat} : Zgo d 49 35 (L) (zq (some q) :: zq none :: st) (I, R, al) Q ↔ Zgo d 49 38 (L) (st) (I, R, al) Q := zg_49_35
theorem zh_49_35r {q : Nat × Nat} : Zgo d 49 35 (L) (zq none :: zq (some q) :: st) (I, R, al) Q ↔ Zgo d 49 38 (L) (st) (I, R, al) Q := zg_49_35
theorem zh_49_38 : Zgo d 49 38 (L) (st) (I, R, al) Q ↔ Zgo d 49 39 (L) (zi 1 :: st) (I, R, al) Q := zg_49_38
theorem zh_49_39 {x : Int} : Zgo d 49 39 (L) (zi x :: []) (I, R, al) Q ↔ zok 1 x False (Q (some (zi x)) (I, R, al)) := zg_49_39
theorem zh_49_40 {x : Int} : Zgo d 49 40 (a0 :: some (zi x) :: L) (st) (I, R, al) Q ↔ Zgo d 49 43 (zkl a0 :: some (zi (x + 1)) :: L) (st) (I, R, al) Q := zg_49_40
theorem zh_49_43 : Zgo d 49 43 (L) (st) (I, R, al) Q ↔ Zgo d 49 2 (L) (st) (I, R, al) Q := zg_49_43
theorem zh_49_46 : Zgo d 49 46 (L) (st) (I, R, al) Q ↔ Zgo d 49 47 (L) (zi 0 :: st) (I, R, al) Q := zg_49_46
theorem zh_49_47 {x : Int} : Zgo d 49 47 (L) (zi x :: []) (I, R, al) Q ↔ zok 1 x False (Q (some (zi x)) (I, R, al)) := zg_49_47
theorem zh_50_0 {x : Option (Nat × Nat)} : Zgo d 50 0 (some (zq x) :: L) (st) (I, R, al) Q ↔ Zgo d 50 1 (some (zq x) :: L) (zq x :: st) (I, R, al) Q := zg_50_0
theorem zh_50_1 : Zgo d 50 1 (L) (st) (I, R, al) Q ↔ Zgo d 50 2 (L) (zi 0 :: st) (I, R, al) Q := zg_50_1
theorem zh_50_2 {o : Nat} {v : Int} : Zgo d 50 2 (L) (zi v :: zq (some (9, o)) :: st) (I, R, al) Q ↔ zok 1 v False (Zgo d 50 5 (L) (st) (zsI I 9 o 1 v, R, al) Q) := zg_50_2
theorem zh_50_5 {x : Option (Nat × Nat)} : Zgo d 50 5 (some (zq x) :: L) (st) (I, R, al) Q ↔ Zgo d 50 6 (some (zq x) :: L) (zq x :: st) (I, R, al) Q := zg_50_5
theorem zh_50_6 {x : Option (Nat × Nat)} : Zgo d 50 6 (some (zq x) :: L) (st) (I, R, al) Q ↔ Zgo d 50 7 (some (zq x) :: L) (zq x :: st) (I, R, al) Q := zg_50_6
theorem zh_50_7 {o : Nat} : Zgo d 50 7 (L) (zq (some (9, o)) :: st) (I, R, al) Q ↔ Zgo d 50 10 (L) (zq (R 9 o 0) :: st) (I, R, al) Q := zg_50_7
theorem zh_50_10 {o : Nat} : Zgo d 50 10 (L) (zq (some (7, o)) :: st) (I, R, al) Q ↔ Zgo d 50 13 (L) (zq (R 7 o 1) :: st) (I, R, al) Q := zg_50_10
theorem zh_50_13 {v1 : zV} {o : Nat} : Zgo d 50 13 (L) (v1 :: zq (some (9, o)) :: st) (I, R, al) Q ↔ if zwt st ≤ 8 then zCp d 51 [zq (some (9, o)), v1] (I, R, al) (fun r S2 => Zgo d 50 16 L (r.toList ++ st) S2 Q) else False := zg_50_13
theorem zh_50_16 {x : Int} : Zgo d 50 16 (a0 :: b0 :: L) (zi x :: st) (I, R, al) Q ↔ Zgo d 50 17 (zkl a0 :: some (zi x) :: L) (st) (I, R, al) Q := zg_50_16
theorem zh_50_17 : Zgo d 50 17 (L) (st) (I, R, al) Q ↔ Zgo d 50 18 (L) (zi 0 :: st) (I, R, al) Q := zg_50_17
theorem zh_50_18 {x : Int} : Zgo d 50 18 (a0 :: a1 :: b0 :: L) (zi x :: st) (I, R, al) Q ↔ Zgo d 50 19 (a0 :: zkl a1 :: some (zi x) :: L) (st) (I, R, al) Q := zg_50_18
theorem zh_50_19 {x : Int} : Zgo d 50 19 (a0 :: a1 :: some (zi x) :: L) (st) (I, R, al) Q ↔ Zgo d 50 20 (a0 :: a1 :: some (zi x) :: L) (zi x :: st) (I, R, al) Q := zg_50_19
theorem zh_50_20 {x : Option (Nat × Nat)} : Zgo d 50 20 (some (zq x) :: L) (st) (I, R, al) Q ↔ Zgo d 50 21 (some (zq x) :: L) (zq x :: st) (I, R, al) Q := zg_50_20
theorem zh_50_21 {o : Nat} : Zgo d 50 21 (L) (zq (some (9, o)) :: st) (I, R, al) Q ↔ Zgo d 50 24 (L) (zq (R 9 o 0) :: st) (I, R, al) Q := zg_50_21
theorem zh_50_24 {o : Nat} : Zgo d 50 24 (L) (zq (some (7, o)) :: st) (I, R, al) Q ↔ Zgo d 50 27 (L) (zi (I 7 o 4) :: st) (I, R, al) Q := zg_50_24
theorem zh_50_27 {x y : Int} : Zgo d 50 27 (L) (zi y :: zi x :: st) (I, R, al) Q ↔ if zw x < zw y then Zgo d 50 30 (L) (st) (I, R, al) Q else Zgo d 50 54 (L) (st) (I, R, al) Q := zg_50_27
theorem zh_50_30 {x : Option (Nat × Nat)} : Zgo d 50 30 (some (zq x) :: L) (st) (I, R, al) Q ↔ Zgo d 50 31 (some (zq x) :: L) (zq x :: st) (I, R, al) Q := zg_50_30
theorem zh_50_31 {x : Option (Nat × Nat)} : Zgo d 50 31 (some (zq x) :: L) (st) (I, R, al) Q ↔ Zgo d 50 32 (some (zq x) :: L) (zq x :: st) (I, R, al) Q := zg_50_31
theorem zh_50_32 {o : Nat} : Zgo d 50 32 (L) (zq (some (9, o)) :: st) (I, R, al) Q ↔ Zgo d 50 35 (L) (zq (R 9 o 0) :: st) (I, R, al) Q := zg_50_32
theorem zh_50_35 {o : Nat} : Zgo d 50 35 (L) (zq (some (7, o)) :: st) (I, R, al) Q ↔ Zgo d 50 38 (L) (zq (R 7 o 0) :: st) (I, R, al) Q := zg_50_35
theorem zh_50_38 {x : Int} : Zgo d 50 38 (a0 :: a1 :: some (zi x) :: L) (st) (I, R, al) Q ↔ Zgo d 50 39 (a0 :: a1 :: some (zi x) :: L) (zi x :: st) (I, R, al) Q := zg_50_38
theorem zh_50_39 {j : Int} {c o : Nat} : Zgo d 50 39 (L) (zi j :: zq (some (c, o)) :: st) (I, R, al) Q ↔ zal (zlen (I, R, al) c) 3 j (fun x => Zgo d 50 40 (L) (zq (R c o x) :: st) (I, R, al) Q) := zg_50_39
theorem zh_50_40 {v1 : zV} {o : Nat} : Zgo d 50 40 (L) (v1 :: zq (some (9, o)) :: st) (I, R, al) Q ↔ if zwt st ≤ 8 then zCp d 51 [zq (some (9, o)), v1] (I, R, al) (fun r S2 => Zgo d 50 43 L (r.toList ++ st) S2 Q) else False := zg_50_40
theorem zh_50_43 {x : Int} : Zgo d 50 43 (L) (zi x :: st) (I, R, al) Q ↔ if zw x = zw 0 then Zgo d 50 46 (L) (st) (I, R, al) Q else Zgo d 50 48 (L) (st) (I, R, al) Q := zg_50_43
theorem zh_50_46 : Zgo d 50 46 (L) (st) (I, R, al) Q ↔ Zgo d 50 47 (L) (zi 0 :: st) (I, R, al) Q := zg_50_46
theorem zh_50_47 {x : Int} : Zgo d 50 47 (a0 :: b0 :: L) (zi x :: st) (I, R, al) Q ↔ Zgo d 50 48 (zkl a0 :: some (zi x) :: L) (st) (I, R, al) Q := zg_50_47
theorem zh_50_48 {x : Int} : Zgo d 50 48 (a0 :: a1 :: some (zi x) :: L) (st) (I, R, al) Q ↔ Zgo d 50 51 (a0 :: zkl a1 :: some (zi (x + 1)) :: L) (st) (I, R, al) Q := zg_50_48
theorem zh_50_51 : Zgo d 50 51 (L) (st) (I, R, al) Q ↔ Zgo d 50 19 (L) (st) (I, R, al) Q := zg_50_51
theorem zh_50_54 {x : Int} : Zgo d 50 54 (a0 :: some (zi x) :: L) (st) (I, R, al) Q ↔ Zgo d 50 55 (a0 :: some (zi x) :: L) (zi x :: st) (I, R, al) Q := zg_50_54
theorem zh_50_55 {x : Int} : Zgo d 50 55 (L) (zi x :: st) (I, R, al) Q ↔ if zw x = zw 0 then Zgo d 50 69 (L) (st) (I, R, al) Q else Zgo d 50 58 (L) (st) (I, R, al) Q := zg_50_55
theorem zh_50_58 {x : Option (Nat × Nat)} : Zgo d 50 58 (some (zq x) :: L) (st) (I, R, al) Q ↔ Zgo d 50 59 (some (zq x) :: L) (zq x :: st) (I, R, al) Q := zg_50_58
theorem zh_50_59 {o : Nat} : Zgo d 50 59 (L) (zq (some (9, o)) :: st) (I, R, al) Q ↔ Zgo d 50 62 (L) (zi (I 9 o 1) :: st) (I, R, al) Q := zg_50_59
theorem zh_50_62 {x : Int} : Zgo d 50 62 (L) (zi x :: st) (I, R, al) Q ↔ if zw x = zw 0 then Zgo d 50 65 (L) (st) (I, R, al) Q else Zgo d 50 69 (L) (st) (I, R, al) Q := zg_50_62
theorem zh_50_65 : Zgo d 50 65 (L) (st) (I, R, al) Q ↔ Zgo d 50 66 (L) (zi 1 :: st) (I, R, al) Q := zg_50_65
theorem zh_50_66 : Zgo d 50 66 (L) (st) (I, R, al) Q ↔ Zgo d 50 70 (L) (st) (I, R, al) Q := zg_50_66
theorem zh_50_69 : Zgo d 50 69 (L) (st) (I, R, al) Q ↔ Zgo d 50 70 (L) (zi 0 :: st) (I, R, al) Q := zg_50_69
theorem zh_50_70 {x : Int} : Zgo d 50 70 (L) (zi x :: []) (I, R, al) Q ↔ zok 1 x False (Q (some (zi x)) (I, R, al)) := zg_50_70
theorem zh_51_0 {x : Option (Nat × Nat)} : Zgo d 51 0 (a0 :: some (zq x) :: L) (st) (I, R, al) Q ↔ Zgo d 51 1 (a0 :: some (zq x) :: L) (zq x :: st) (I, R, al) Q := zg_51_0
theorem zh_51_1 {x : Option (Nat × Nat)} : Zgo d 51 1 (some (zq x) :: L) (st) (I, R, al) Q ↔ Zgo d 51 2 (some (zq x) :: L) (zq x :: st) (I, R, al) Q := zg_51_1
theorem zh_51_2 {x : Option (Nat × Nat)} : Zgo d 51 2 (a0 :: some (zq x) :: L) (st) (I, R, al) Q ↔ Zgo d 51 3 (a0 :: some (zq x) :: L) (zq x :: st) (I, R, al) Q := zg_51_2
theorem zh_51_3 {o : Nat} : Zgo d 51 3 (L) (zq (some (2, o)) :: st) (I, R, al) Q ↔ Zgo d 51 6 (L) (zq (R 2 o 3) :: st) (I, R, al) Q := zg_51_3
theorem zh_51_6 {v1 : zV} {o : Nat} : Zgo d 51 6 (L) (v1 :: zq (some (9, o)) :: st) (I, R, al) Q ↔ if zwt st ≤ 8 then zCp d 52 [zq (some (9, o)), v1] (I, R, al) (fun r S2 => Zgo d 51 9 L (r.toList ++ st) S2 Q) else False := zg_51_6
theorem zh_51_9 {o : Nat} {v : Int} : Zgo d 51 9 (L) (zi v :: zq (some (2, o)) :: st) (I, R, al) Q ↔ Zgo d 51 12 (L) (st) (zsI I 2 o 2 v, R, al) Q := zg_51_9
theorem zh_51_12 {x : Option (Nat × Nat)} : Zgo d 51 12 (a0 :: some (zq x) :: L) (st) (I, R, al) Q ↔ Zgo d 51 13 (a0 :: some (zq x) :: L) (zq x :: st) (I, R, al) Q := zg_51_12
theorem zh_51_13 {o : Nat} : Zgo d 51 13 (L) (zq (some (2, o)) :: st) (I, R, al) Q ↔ Zgo d 51 16 (L) (zi (I 2 o 2) :: st) (I, R, al) Q := zg_51_13
theorem zh_51_16 {x : Option (Nat × Nat)} : Zgo d 51 16 (a0 :: some (zq x) :: L) (st) (I, R, al) Q ↔ Zgo d 51 17 (a0 :: some (zq x) :: L) (zq x :: st) (I, R, al) Q := zg_51_16
theorem zh_51_17 {o : Nat} : Zgo d 51 17 (L) (zq (some (2, o)) :: st) (I, R, al) Q ↔ Zgo d 51 20 (L) (zi (I 2 o 1) :: st) (I, R, al) Q := zg_51_17
theorem zh_51_20 : Zgo d 51 20 (L) (st) (I, R, al) Q ↔ Zgo d 51 21 (L) (zi (-1) :: st) (I, R, al) Q := zg_51_20
theorem zh_51_21 {x y : Int} : Zgo d 51 21 (L) (zi y :: zi x :: st) (I, R, al) Q ↔ Zgo d 51 22 (L) (zi (zxor x y) :: st) (I, R, al) Q := zg_51_21
theorem zh_51_22 {x y : Int} : Zgo d 51 22 (L) (zi y :: zi x :: st) (I, R, al) Q ↔ Zgo d 51 23 (L) (zi (zand x y) :: st) (I, R, al) Q := zg_51_22
theorem zh_51_23 {x : Int} : Zgo d 51 23 (L) (zi x :: st) (I, R, al) Q ↔ if zw x = zw 0 then Zgo d 51 26 (L) (st) (I, R, al) Q else Zgo d 51 30 (L) (st) (I, R, al) Q := zg_51_23
theorem zh_51_26 : Zgo d 51 26 (L) (st) (I, R, al) Q ↔ Zgo d 51 27 (L) (zi 1 :: st) (I, R, al) Q := zg_51_26
theorem zh_51_27 : Zgo d 51 27 (L) (st) (I, R, al) Q ↔ Zgo d 51 31 (L) (st) (I, R, al) Q := zg_51_27
theorem zh_51_30 : Zgo d 51 30 (L) (st) (I, R, al) Q ↔ Zgo d 51 31 (L) (zi 0 :: st) (I, R, al) Q := zg_51_30
theorem zh_51_31 {x : Int} : Zgo d 51 31 (L) (zi x :: []) (I, R, al) Q ↔ zok 1 x False (Q (some (zi x)) (I, R, al)) := zg_51_31
theorem zh_52_0 : Zgo d 52 0 (L) (st) (I, R, al) Q ↔ Zgo d 52 1 (L) (zi 0 :: st) (I, R, al) Q := zg_52_0
theorem zh_52_1 {x : Int} : Zgo d 52 1 (a0 :: a1 :: b0 :: L) (zi x :: st) (I, R, al) Q ↔ Zgo d 52 2 (a0 :: zkl a1 :: some (zi x) :: L) (st) (I, R, al) Q := zg_52_1
theorem zh_52_2 {x : Option (Nat × Nat)} : Zgo d 52 2 (a0 :: some (zq x) :: L) (st) (I, R, al) Q ↔ Zgo d 52 3 (a0 :: some (zq x) :: L) (zq x :: st) (I, R, al) Q := zg_52_2
theorem zh_52_3n : Zgo d 52 3 (L) (zq none :: st) (I, R, al) Q ↔ Zgo d 52 31 (L) (st) (I, R, al) Q := zg_52_3
theorem zh_52_3 {q : Nat × Nat} : Zgo d 52 3 (L) (zq (some q) :: st) (I, R, al) Q ↔ Zgo d 52 6 (L) (st) (I, R, al) Q := zg_52_3
theorem zh_52_6 {x : Option (Nat × Nat)} : Zgo d 52 6 (a0 :: some (zq x) :: L) (st) (I, R, al) Q ↔ Zgo d 52 7 (a0 :: some (zq x) :: L) (zq x :: st) (I, R, al) Q := zg_52_6
theorem zh_52_7 {o : Nat} : Zgo d 52 7 (L) (zq (some (3, o)) :: st) (I, R, al) Q ↔ Zgo d 52 10 (L) (zq (R 3 o 3) :: st) (I, R, al) Q := zg_52_7
theorem zh_52_10 {x : Option (Nat × Nat)} : Zgo d 52 10 (a0 :: a1 :: a2 :: b0 :: L) (zq x :: st) (I, R, al) Q ↔ Zgo d 52 11 (a0 :: a1 :: zkl a2 :: some (zq x) :: L) (st) (I, R, al) Q := zg_52_10
theorem zh_52_11 {x : Option (Nat × Nat)} : Zgo d 52 11 (a0 :: a1 :: a2 :: some (zq x) :: L) (st) (I, R, al) Q ↔ Zgo d 52 12 (a0 :: a1 :: a2 :: some (zq x) :: L) (zq x :: st) (I, R, al) Q := zg_52_11
theorem zh_52_12n : Zgo d 52 12 (L) (zq none :: st) (I, R, al) Q ↔ Zgo d 52 31 (L) (st) (I, R, al) Q := zg_52_12
theorem zh_52_12 {q : Nat × Nat} : Zgo d 52 12 (L) (zq (some q) :: st) (I, R, al) Q ↔ Zgo d 52 15 (L) (st) (I, R, al) Q := zg_52_12
theorem zh_52_15 {x : Int} : Zgo d 52 15 (a0 :: a1 :: some (zi x) :: L) (st) (I, R, al) Q ↔ Zgo d 52 16 (a0 :: a1 :: some (zi x) :: L) (zi x :: st) (I, R, al) Q := zg_52_15
theorem zh_52_16 {x : Option (Nat × Nat)} : Zgo d 52 16 (some (zq x) :: L) (st) (I, R, al) Q ↔ Zgo d 52 17 (some (zq x) :: L) (zq x :: st) (I, R, al) Q := zg_52_16
theorem zh_52_17 {x : Option (Nat × Nat)} : Zgo d 52 17 (a0 :: a1 :: a2 :: some (zq x) :: L) (st) (I, R, al) Q ↔ Zgo d 52 18 (a0 :: a1 :: a2 :: some (zq x) :: L) (zq x :: st) (I, R, al) Q := zg_52_17
theorem zh_52_18 {v1 : zV} {o : Nat} : Zgo d 52 18 (L) (v1 :: zq (some (9, o)) :: st) (I, R, al) Q ↔ if zwt st ≤ 8 then zCp d 53 [zq (some (9, o)), v1] (I, R, al) (fun r S2 => Zgo d 52 21 L (r.toList ++ st) S2 Q) else False := zg_52_18
theorem zh_52_21 {x y : Int} : Zgo d 52 21 (L) (zi y :: zi x :: st) (I, R, al) Q ↔ Zgo d 52 22 (L) (zi (zor x y) :: st) (I, R, al) Q := zg_52_21
theorem zh_52_22 {x : Int} : Zgo d 52 22 (a0 :: a1 :: b0 :: L) (zi x :: st) (I, R, al) Q ↔ Zgo d 52 23 (a0 :: zkl a1 :: some (zi x) :: L) (st) (I, R, al) Q := zg_52_22
theorem zh_52_23 {x : Option (Nat × Nat)} : Zgo d 52 23 (a0 :: a1 :: a2 :: some (zq x) :: L) (st) (I, R, al) Q ↔ Zgo d 52 24 (a0 :: a1 :: a2 :: some (zq x) :: L) (zq x :: st) (I, R, al) Q := zg_52_23
theorem zh_52_24 {o : Nat} : Zgo d 52 24 (L) (zq (some (4, o)) :: st) (I, R, al) Q ↔ Zgo d 52 27 (L) (zq (R 4 o 6) :: st) (I, R, al) Q := zg_52_24
theorem zh_52_27 {x : Option (Nat × Nat)} : Zgo d 52 27 (a0 :: a1 :: a2 :: b0 :: L) (zq x :: st) (I, R, al) Q ↔ Zgo d 52 28 (a0 :: a1 :: zkl a2 :: some (zq x) :: L) (st) (I, R, al) Q := zg_52_27
theorem zh_52_28 : Zgo d 52 28 (L) (st) (I, R, al) Q ↔ Zgo d 52 11 (L) (st) (I, R, al) Q := zg_52_28
theorem zh_52_31 {x : Int} : Zgo d 52 31 (a0 :: a1 :: some (zi x) :: L) (st) (I, R, al) Q ↔ Zgo d 52 32 (a0 :: a1 :: some (zi x) :: L) (zi x :: st) (I, R, al) Q := zg_52_31
theorem zh_52_32 {x : Int} : Zgo d 52 32 (L) (zi x :: []) (I, R, al) Q ↔ Q (some (zi x)) (I, R, al) := zg_52_32
theorem zh_53_0 {x : Option (Nat × Nat)} : Zgo d 53 0 (a0 :: some (zq x) :: L) (st) (I, R, al) Q ↔ Zgo d 53 1 (a0 :: some (zq x) :: L) (zq x :: st) (I, R, al) Q := zg_53_0
theorem zh_53_1 {o : Nat} : Zgo d 53 1 (L) (zq (some (4, o)) :: st) (I, R, al) Q ↔ Zgo d 53 4 (L) (zi (I 4 o 0) :: st) (I, R, al) Q := zg_53_1
theorem zh_53_64 : Zgo d 53 64 (L) (st) (I, R, al) Q ↔ Zgo d 53 65 (L) (zi 1 :: st) (I, R, al) Q := zg_53_64
theorem zh_53_65 {x : Option (Nat × Nat)} : Zgo d 53 65 (a0 :: some (zq x) :: L) (st) (I, R, al) Q ↔ Zgo d 53 66 (a0 :: some (zq x) :: L) (zq x :: st) (I, R, al) Q := zg_53_65
theorem zh_53_66 {o : Nat} : Zgo d 53 66 (L) (zq (some (4, o)) :: st) (I, R, al) Q ↔ Zgo d 53 69 (L) (zi (I 4 o 1) :: st) (I, R, al) Q := zg_53_66
theorem zh_53_69 {x y : Int} : Zgo d 53 69 (L) (zi y :: zi x :: st) (I, R, al) Q ↔ Zgo d 53 70 (L) (zi (zshl x y) :: st) (I, R, al) Q := zg_53_69
theorem zh_53_70 {x : Int} : Zgo d 53 70 (L) (zi x :: []) (I, R, al) Q ↔ Q (some (zi x)) (I, R, al) := zg_53_70
theorem zh_53_71 : Zgo d 53 71 (L) (st) (I, R, al) Q ↔ Zgo d 53 72 (L) (zi 1 :: st) (I, R, al) Q := zg_53_71
theorem zh_53_72 {x : Option (Nat × Nat)} : Zgo d 53 72 (a0 :: some (zq x) :: L) (st) (I, R, al) Q ↔ Zgo d 53 73 (a0 :: some (zq x) :: L) (zq x :: st) (I, R, al) Q := zg_53_72
theorem zh_53_73 {o : Nat} : Zgo d 53 73 (L) (zq (some (4, o)) :: st) (I, R, al) Q ↔ Zgo d 53 76 (L) (zq (R 4 o 4) :: st) (I, R, al) Q := zg_53_73
theorem zh_53_76 {o : Nat} : Zgo d 53 76 (L) (zq (some (3, o)) :: st) (I, R, al) Q ↔ Zgo d 53 79 (L) (zi (I 3 o 2) :: st) (I, R, al) Q := zg_53_76
theorem zh_53_79 {x y : Int} : Zgo d 53 79 (L) (zi y :: zi x :: st) (I, R, al) Q ↔ Zgo d 53 80 (L) (zi (zshl x y) :: st) (I, R, al) Q := zg_53_79
theorem zh_53_80 {x : Int} : Zgo d 53 80 (L) (zi x :: []) (I, R, al) Q ↔ Q (some (zi x)) (I, R, al) := zg_53_80
theorem zh_53_81 {x : Option (Nat × Nat)} : Zgo d 53 81 (a0 :: some (zq x) :: L) (st) (I, R, al) Q ↔ Zgo d 53 82 (a0 :: some (zq x) :: L) (zq x :: st) (I, R, al) Q := zg_53_81
theorem zh_53_82 {o : Nat} : Zgo d 53 82 (L) (zq (some (4, o)) :: st) (I, R, al) Q ↔ Zgo d 53 85 (L) (zi (I 4 o 10) :: st) (I, R, al) Q := zg_53_82
theorem zh_53_85 {x : Int} : Zgo d 53 85 (L) (zi x :: []) (I, R, al) Q ↔ Q (some (zi x)) (I, R, al) := zg_53_85
theorem zh_53_86 {x : Option (Nat × Nat)} : Zgo d 53 86 (some (zq x) :: L) (st) (I, R, al) Q ↔ Zgo d 53 87 (some (zq x) :: L) (zq x :: st) (I, R, al) Q := zg_53_86
theorem zh_53_87 {x : Option (Nat × Nat)} : Zgo d 53 87 (a0 :: some (zq x) :: L) (st) (I, R, al) Q ↔ Zgo d 53 88 (a0 :: some (zq x) :: L) (zq x :: st) (I, R, al) Q := zg_53_87
theorem zh_53_88 {o : Nat} : Zgo d 53 88 (L) (zq (some (4, o)) :: st) (I, R, al) Q ↔ Zgo d 53 91 (L) (zq (R 4 o 7) :: st) (I, R, al) Q := zg_53_88
theorem zh_53_91 {v1 : zV} {o : Nat} : Zgo d 53 91 (L) (v1 :: zq (some (9, o)) :: st) (I, R, al) Q ↔ if zwt st ≤ 8 then zCp d 52 [zq (some (9, o)), v1] (I, R, al) (fun r S2 => Zgo d 53 94 L (r.toList ++ st) S2 Q) else False := zg_53_91
theorem zh_53_94 {x : Option (Nat × Nat)} : Zgo d 53 94 (some (zq x) :: L) (st) (I, R, al) Q ↔ Zgo d 53 95 (some (zq x) :: L) (zq x :: st) (I, R, al) Q := zg_53_94
theorem zh_53_95 {x : Option (Nat × Nat)} : Zgo d 53 95 (a0 :: some (zq x) :: L) (st) (I, R, al) Q ↔ Zgo d 53 96 (a0 :: some (zq x) :: L) (zq x :: st) (I, R, al) Q := zg_53_95
theorem zh_53_96 {o : Nat} : Zgo d 53 96 (L) (zq (some (4, o)) :: st) (I, R, al) Q ↔ Zgo d 53 99 (L) (zq (R 4 o 8) :: st) (I, R, al) Q := zg_53_96
theorem zh_53_99 {v1 : zV} {o : Nat} : Zgo d 53 99 (L) (v1 :: zq (some (9, o)) :: st) (I, R, al) Q ↔ if zwt st ≤ 8 then zCp d 52 [zq (some (9, o)), v1] (I, R, al) (fun r S2 => Zgo d 53 102 L (r.toList ++ st) S2 Q) else False := zg_53_99
theorem zh_53_102 {x y : Int} : Zgo d 53 102 (L) (zi y :: zi x :: st) (I, R, al) Q ↔ Zgo d 53 103 (L) (zi (zor x y) :: st) (I, R, al) Q := zg_53_102
theorem zh_53_103 {x : Int} : Zgo d 53 103 (L) (zi x :: []) (I, R, al) Q ↔ Q (some (zi x)) (I, R, al) := zg_53_103
theorem zh_53_104 {x : Option (Nat × Nat)} : Zgo d 53 104 (some (zq x) :: L) (st) (I, R, al) Q ↔ Zgo d 53 105 (some (zq x) :: L) (zq x :: st) (I, R, al) Q := zg_53_104
theorem zh_53_105 {x : Option (Nat × Nat)} : Zgo d 53 105 (a0 :: some (zq x) :: L) (st) (I, R, al) Q ↔ Zgo d 53 106 (a0 :: some (zq x) :: L) (zq x :: st) (I, R, al) Q := zg_53_105
theorem zh_53_106 {v1 : zV} {o : Nat} : Zgo d 53 106 (L) (v1 :: zq (some (9, o)) :: st) (I, R, al) Q ↔ if zwt st ≤ 8 then zCp d 54 [zq (some (9, o)), v1] (I, R, al) (fun r S2 => Zgo d 53 109 L (r.toList ++ st) S2 Q) else False := zg_53_106
theorem zh_53_109 {x : Int} : Zgo d 53 109 (L) (zi x :: []) (I, R, al) Q ↔ Q (some (zi x)) (I, R, al) := zg_53_109
theorem zh_53_110 : Zgo d 53 110 (L) (st) (I, R, al) Q ↔ Zgo d 53 111 (L) (zi 0 :: st) (I, R, al) Q := zg_53_110
theorem zh_53_111 {x : Int} : Zgo d 53 111 (L) (zi x :: []) (I, R, al) Q ↔ Q (some (zi x)) (I, R, al) := zg_53_111
theorem zh_53_4 {x : Int} : Zgo d 53 4 L (zi x :: st) (I, R, al) Q ↔ (if zw x = 63 then Zgo d 53 86 L st (I, R, al) Q else if zw x = 64 then Zgo d 53 86 L st (I, R, al) Q else if zw x = 80 then Zgo d 53 81 L st (I, R, al) Q else if zw x = 84 then Zgo d 53 64 L st (I, R, al) Q else if zw x = 88 then Zgo d 53 71 L st (I, R, al) Q else if zw x = 89 then Zgo d 53 104 L st (I, R, al) Q else Zgo d 53 110 L st (I, R, al) Q) := zg_53_4
theorem zh_54_0 {x : Option (Nat × Nat)} : Zgo d 54 0 (some (zq x) :: L) (st) (I, R, al) Q ↔ Zgo d 54 1 (some (zq x) :: L) (zq x :: st) (I, R, al) Q := zg_54_0
theorem zh_54_1 {x : Option (Nat × Nat)} : Zgo d 54 1 (a0 :: some (zq x) :: L) (st) (I, R, al) Q ↔ Zgo d 54 2 (a0 :: some (zq x) :: L) (zq x :: st) (I, R, al) Q := zg_54_1
theorem zh_54_2 {o : Nat} : Zgo d 54 2 (L) (zq (some (4, o)) :: st) (I, R, al) Q ↔ Zgo d 54 5 (L) (zq (R 4 o 7) :: st) (I, R, al) Q := zg_54_2
theorem zh_54_5 {v1 : zV} {o : Nat} : Zgo d 54 5 (L) (v1 :: zq (some (9, o)) :: st) (I, R, al) Q ↔ if zwt st ≤ 8 then zCp d 52 [zq (some (9, o)), v1] (I, R, al) (fun r S2 => Zgo d 54 8 L (r.toList ++ st) S2 Q) else False := zg_54_5
theorem zh_54_8 {x : Int} : Zgo d 54 8 (a0 :: a1 :: b0 :: L) (zi x :: st) (I, R, al) Q ↔ Zgo d 54 9 (a0 :: zkl a1 :: some (zi x) :: L) (st) (I, R, al) Q := zg_54_8
theorem zh_54_9 : Zgo d 54 9 (L) (st) (I, R, al) Q ↔ Zgo d 54 10 (L) (zi 0 :: st) (I, R, al) Q := zg_54_9
theorem zh_54_10 {x : Int} : Zgo d 54 10 (a0 :: a1 :: a2 :: b0 :: L) (zi x :: st) (I, R, al) Q ↔ Zgo d 54 11 (a0 :: a1 :: zkl a2 :: some (zi x) :: L) (st) (I, R, al) Q := zg_54_10
theorem zh_54_11 {x : Option (Nat × Nat)} : Zgo d 54 11 (some (zq x) :: L) (st) (I, R, al) Q ↔ Zgo d 54 12 (some (zq x) :: L) (zq x :: st) (I, R, al) Q := zg_54_11
theorem zh_54_12 {x : Option (Nat × Nat)} : Zgo d 54 12 (a0 :: some (zq x) :: L) (st) (I, R, al) Q ↔ Zgo d 54 13 (a0 :: some (zq x) :: L) (zq x :: st) (I, R, al) Q := zg_54_12
theorem zh_54_13 {o : Nat} : Zgo d 54 13 (L) (zq (some (4, o)) :: st) (I, R, al) Q ↔ Zgo d 54 16 (L) (zq (R 4 o 8) :: st) (I, R, al) Q := zg_54_13
theorem zh_54_16 {v1 : zV} {o : Nat} : Zgo d 54 16 (L) (v1 :: zq (some (9, o)) :: st) (I, R, al) Q ↔ if zwt st ≤ 8 then zCp d 52 [zq (some (9, o)), v1] (I, R, al) (fun r S2 => Zgo d 54 19 L (r.toList ++ st) S2 Q) else False := zg_54_16
theorem zh_54_19 {x : Int} : Zgo d 54 19 (a0 :: a1 :: a2 :: a3 :: b0 :: L) (zi x :: st) (I, R, al) Q ↔ Zgo d 54 21 (a0 :: a1 :: a2 :: zkl a3 :: some (zi x) :: L) (st) (I, R, al) Q := zg_54_19
theorem zh_54_21 {x : Option (Nat × Nat)} : Zgo d 54 21 (a0 :: some (zq x) :: L) (st) (I, R, al) Q ↔ Zgo d 54 22 (a0 :: some (zq x) :: L) (zq x :: st) (I, R, al) Q := zg_54_21
theorem zh_54_22 {o : Nat} : Zgo d 54 22 (L) (zq (some (4, o)) :: st) (I, R, al) Q ↔ Zgo d 54 25 (L) (zq (R 4 o 9) :: st) (I, R, al) Q := zg_54_22
theorem zh_54_25 {x : Option (Nat × Nat)} : Zgo d 54 25 (a0 :: a1 :: a2 :: a3 :: a4 :: b0 :: L) (zq x :: st) (I, R, al) Q ↔ Zgo d 54 27 (a0 :: a1 :: a2 :: a3 :: zkl a4 :: some (zq x) :: L) (st) (I, R, al) Q := zg_54_25
theorem zh_54_27 {x : Option (Nat × Nat)} : Zgo d 54 27 (a0 :: a1 :: a2 :: a3 :: a4 :: some (zq x) :: L) (st) (I, R, al) Q ↔ Zgo d 54 29 (a0 :: a1 :: a2 :: a3 :: a4 :: some (zq x) :: L) (zq x :: st) (I, R, al) Q := zg_54_27
theorem zh_54_29n : Zgo d 54 29 (L) (zq none :: st) (I, R, al) Q ↔ Zgo d 54 66 (L) (st) (I, R, al) Q := zg_54_29
theorem zh_54_29 {q : Nat × Nat} : Zgo d 54 29 (L) (zq (some q) :: st) (I, R, al) Q ↔ Zgo d 54 32 (L) (st) (I, R, al) Q := zg_54_29
theorem zh_54_32 {x : Int} : Zgo d 54 32 (a0 :: a1 :: a2 :: some (zi x) :: L) (st) (I, R, al) Q ↔ Zgo d 54 33 (a0 :: a1 :: a2 :: some (zi x) :: L) (zi x :: st) (I, R, al) Q := zg_54_32
theorem zh_54_33 : Zgo d 54 33 (L) (st) (I, R, al) Q ↔ Zgo d 54 34 (L) (zi 1 :: st) (I, R, al) Q := zg_54_33
theorem zh_54_34 {x : Option (Nat × Nat)} : Zgo d 54 34 (a0 :: a1 :: a2 :: a3 :: a4 :: some (zq x) :: L) (st) (I, R, al) Q ↔ Zgo d 54 36 (a0 :: a1 :: a2 :: a3 :: a4 :: some (zq x) :: L) (zq x :: st) (I, R, al) Q := zg_54_34
theorem zh_54_36 {o : Nat} : Zgo d 54 36 (L) (zq (some (5, o)) :: st) (I, R, al) Q ↔ Zgo d 54 39 (L) (zi (I 5 o 0) :: st) (I, R, al) Q := zg_54_36
theorem zh_54_39 {x y : Int} : Zgo d 54 39 (L) (zi y :: zi x :: st) (I, R, al) Q ↔ Zgo d 54 40 (L) (zi (zshl x y) :: st) (I, R, al) Q := zg_54_39
theorem zh_54_40 {x y : Int} : Zgo d 54 40 (L) (zi y :: zi x :: st) (I, R, al) Q ↔ Zgo d 54 41 (L) (zi (zor x y) :: st) (I, R, al) Q := zg_54_40
theorem zh_54_41 {x : Int} : Zgo d 54 41 (a0 :: a1 :: a2 :: b0 :: L) (zi x :: st) (I, R, al) Q ↔ Zgo d 54 42 (a0 :: a1 :: zkl a2 :: some (zi x) :: L) (st) (I, R, al) Q := zg_54_41
theorem zh_54_42 {x : Int} : Zgo d 54 42 (a0 :: a1 :: a2 :: a3 :: some (zi x) :: L) (st) (I, R, al) Q ↔ Zgo d 54 44 (a0 :: a1 :: a2 :: a3 :: some (zi x) :: L) (zi x :: st) (I, R, al) Q := zg_54_42
theorem zh_54_44 {x : Option (Nat × Nat)} : Zgo d 54 44 (some (zq x) :: L) (st) (I, R, al) Q ↔ Zgo d 54 45 (some (zq x) :: L) (zq x :: st) (I, R, al) Q := zg_54_44
theorem zh_54_45 {x : Option (Nat × Nat)} : Zgo d 54 45 (a0 :: a1 :: a2 :: a3 :: a4 :: some (zq x) :: L) (st) (I, R, al) Q ↔ Zgo d 54 47 (a0 :: a1 :: a2 :: a3 :: a4 :: some (zq x) :: L) (zq x :: st) (I, R, al) Q := zg_54_45
theorem zh_54_47 {o : Nat} : Zgo d 54 47 (L) (zq (some (5, o)) :: st) (I, R, al) Q ↔ Zgo d 54 50 (L) (zq (R 5 o 2) :: st) (I, R, al) Q := zg_54_47
theorem zh_54_50 {v1 : zV} {o : Nat} : Zgo d 54 50 (L) (v1 :: zq (some (9, o)) :: st) (I, R, al) Q ↔ if zwt st ≤ 8 then zCp d 52 [zq (some (9, o)), v1] (I, R, al) (fun r S2 => Zgo d 54 53 L (r.toList ++ st) S2 Q) else False := zg_54_50
theorem zh_54_53 {x y : Int} : Zgo d 54 53 (L) (zi y :: zi x :: st) (I, R, al) Q ↔ Zgo d 54 54 (L) (zi (zor x y) :: st) (I, R, al) Q := zg_54_53
theorem zh_54_54 {x : Int} : Zgo d 54 54 (a0 :: a1 :: a2 :: a3 :: b0 :: L) (zi x :: st) (I, R, al) Q ↔ Zgo d 54 56 (a0 :: a1 :: a2 :: zkl a3 :: some (zi x) :: L) (st) (I, R, al) Q := zg_54_54
theorem zh_54_56 {x : Option (Nat × Nat)} : Zgo d 54 56 (a0 :: a1 :: a2 :: a3 :: a4 :: some (zq x) :: L) (st) (I, R, al) Q ↔ Zgo d 54 58 (a0 :: a1 :: a2 :: a3 :: a4 :: some (zq x) :: L) (zq x :: st) (I, R, al) Q := zg_54_56
theorem zh_54_58 {o : Nat} : Zgo d 54 58 (L) (zq (some (5, o)) :: st) (I, R, al) Q ↔ Zgo d 54 61 (L) (zq (R 5 o 3) :: st) (I, R, al) Q := zg_54_58
theorem zh_54_61 {x : Option (Nat × Nat)} : Zgo d 54 61 (a0 :: a1 :: a2 :: a3 :: a4 :: b0 :: L) (zq x :: st) (I, R, al) Q ↔ Zgo d 54 63 (a0 :: a1 :: a2 :: a3 :: zkl a4 :: some (zq x) :: L) (st) (I, R, al) Q := zg_54_61
theorem zh_54_63 : Zgo d 54 63 (L) (st) (I, R, al) Q ↔ Zgo d 54 27 (L) (st) (I, R, al) Q := zg_54_63
theorem zh_54_66 {x : Int} : Zgo d 54 66 (a0 :: a1 :: a2 :: some (zi x) :: L) (st) (I, R, al) Q ↔ Zgo d 54 67 (a0 :: a1 :: a2 :: some (zi x) :: L) (zi x :: st) (I, R, al) Q := zg_54_66
theorem zh_54_67 {x : Int} : Zgo d 54 67 (a0 :: a1 :: some (zi x) :: L) (st) (I, R, al) Q ↔ Zgo d 54 68 (a0 :: a1 :: some (zi x) :: L) (zi x :: st) (I, R, al) Q := zg_54_67
theorem zh_54_68 : Zgo d 54 68 (L) (st) (I, R, al) Q ↔ Zgo d 54 69 (L) (zi (-1) :: st) (I, R, al) Q := zg_54_68
theorem zh_54_69 {x y : Int} : Zgo d 54 69 (L) (zi y :: zi x :: st) (I, R, al) Q ↔ Zgo d 54 70 (L) (zi (zxor x y) :: st) (I, R, al) Q := zg_54_69
theorem zh_54_70 {x y : Int} : Zgo d 54 70 (L) (zi y :: zi x :: st) (I, R, al) Q ↔ Zgo d 54 71 (L) (zi (zand x y) :: st) (I, R, al) Q := zg_54_70
theorem zh_54_71 {x : Int} : Zgo d 54 71 (L) (zi x :: st) (I, R, al) Q ↔ if zw x = zw 0 then Zgo d 54 79 (L) (st) (I, R, al) Q else Zgo d 54 74 (L) (st) (I, R, al) Q := zg_54_71
theorem zh_54_74 {x : Option (Nat × Nat)} : Zgo d 54 74 (some (zq x) :: L) (st) (I, R, al) Q ↔ Zgo d 54 75 (some (zq x) :: L) (zq x :: st) (I, R, al) Q := zg_54_74
theorem zh_54_75 : Zgo d 54 75 (L) (st) (I, R, al) Q ↔ Zgo d 54 76 (L) (zi 1 :: st) (I, R, al) Q := zg_54_75
theorem zh_54_76 {o : Nat} {v : Int} : Zgo d 54 76 (L) (zi v :: zq (some (9, o)) :: st) (I, R, al) Q ↔ zok 1 v False (Zgo d 54 79 (L) (st) (zsI I 9 o 1 v, R, al) Q) := zg_54_76
theorem zh_54_79 {x : Int} : Zgo d 54 79 (a0 :: a1 :: some (zi x) :: L) (st) (I, R, al) Q ↔ Zgo d 54 80 (a0 :: a1 :: some (zi x) :: L) (zi x :: st) (I, R, al) Q := zg_54_79
theorem zh_54_80 {x : Int} : Zgo d 54 80 (a0 :: a1 :: a2 :: some (zi x) :: L) (st) (I, R, al) Q ↔ Zgo d 54 81 (a0 :: a1 :: a2 :: some (zi x) :: L) (zi x :: st) (I, R, al) Q := zg_54_80
theorem zh_54_81 : Zgo d 54 81 (L) (st) (I, R, al) Q ↔ Zgo d 54 82 (L) (zi (-1) :: st) (I, R, al) Q := zg_54_81
theorem zh_54_82 {x y : Int} : Zgo d 54 82 (L) (zi y :: zi x :: st) (I, R, al) Q ↔ Zgo d 54 83 (L) (zi (zxor x y) :: st) (I, R, al) Q := zg_54_82
theorem zh_54_83 {x y : Int} : Zgo d 54 83 (L) (zi y :: zi x :: st) (I, R, al) Q ↔ Zgo d 54 84 (L) (zi (zand x y) :: st) (I, R, al) Q := zg_54_83
theorem zh_54_84 {x : Int} : Zgo d 54 84 (a0 :: a1 :: a2 :: a3 :: some (zi x) :: L) (st) (I, R, al) Q ↔ Zgo d 54 86 (a0 :: a1 :: a2 :: a3 :: some (zi x) :: L) (zi x :: st) (I, R, al) Q := zg_54_84
theorem zh_54_86 {x y : Int} : Zgo d 54 86 (L) (zi y :: zi x :: st) (I, R, al) Q ↔ Zgo d 54 87 (L) (zi (zor x y) :: st) (I, R, al) Q := zg_54_86
theorem zh_54_87 {x : Int} : Zgo d 54 87 (L) (zi x :: []) (I, R, al) Q ↔ Q (some (zi x)) (I, R, al) := zg_54_87
theorem zh_55_0 {x : Int} : Zgo d 55 0 (a0 :: some (zi x) :: L) (st) (I, R, al) Q ↔ Zgo d 55 1 (a0 :: some (zi x) :: L) (zi x :: st) (I, R, al) Q := zg_55_0
theorem zh_55_48 {x : Option (Nat × Nat)} : Zgo d 55 48 (some (zq x) :: L) (st) (I, R, al) Q ↔ Zgo d 55 49 (some (zq x) :: L) (zq x :: st) (I, R, al) Q := zg_55_48
theorem zh_55_49 {o : Nat} : Zgo d 55 49 (L) (zq (some (0, o)) :: st) (I, R, al) Q ↔ Zgo d 55 52 (L) (zq (R 0 o 0) :: st) (I, R, al) Q := zg_55_49
theorem zh_55_52 {o : Nat} : Zgo d 55 52 (L) (zq (some (1, o)) :: st) (I, R, al) Q ↔ Zgo d 55 55 (L) (zi (I 1 o 1) :: st) (I, R, al) Q := zg_55_52
theorem zh_55_55 {x : Int} : Zgo d 55 55 (L) (zi x :: []) (I, R, al) Q ↔ Q (some (zi x)) (I, R, al) := zg_55_55
theorem zh_55_56 {x : Option (Nat × Nat)} : Zgo d 55 56 (some (zq x) :: L) (st) (I, R, al) Q ↔ Zgo d 55 57 (some (zq x) :: L) (zq x :: st) (I, R, al) Q := zg_55_56
theorem zh_55_57 {o : Nat} : Zgo d 55 57 (L) (zq (some (0, o)) :: st) (I, R, al) Q ↔ Zgo d 55 60 (L) (zq (R 0 o 1) :: st) (I, R, al) Q := zg_55_57
theorem zh_55_60 {o : Nat} : Zgo d 55 60 (L) (zq (some (7, o)) :: st) (I, R, al) Q ↔ Zgo d 55 63 (L) (zi (I 7 o 6) :: st) (I, R, al) Q := zg_55_60
theorem zh_55_63 {x : Int} : Zgo d 55 63 (L) (zi x :: st) (I, R, al) Q ↔ if zw x = zw 0 then Zgo d 55 70 (L) (st) (I, R, al) Q else Zgo d 55 66 (L) (st) (I, R, al) Q := zg_55_63
theorem zh_55_66 : Zgo d 55 66 (L) (st) (I, R, al) Q ↔ Zgo d 55 67 (L) (zi 1 :: st) (I, R, al) Q := zg_55_66
theorem zh_55_67 : Zgo d 55 67 (L) (st) (I, R, al) Q ↔ Zgo d 55 71 (L) (st) (I, R, al) Q := zg_55_67
theorem zh_55_70 : Zgo d 55 70 (L) (st) (I, R, al) Q ↔ Zgo d 55 71 (L) (zi 0 :: st) (I, R, al) Q := zg_55_70
theorem zh_55_71 {x : Int} : Zgo d 55 71 (L) (zi x :: []) (I, R, al) Q ↔ Q (some (zi x)) (I, R, al) := zg_55_71
theorem zh_55_72 {x : Option (Nat × Nat)} : Zgo d 55 72 (some (zq x) :: L) (st) (I, R, al) Q ↔ Zgo d 55 73 (some (zq x) :: L) (zq x :: st) (I, R, al) Q := zg_55_72
theorem zh_55_73 {o : Nat} : Zgo d 55 73 (L) (zq (some (0, o)) :: st) (I, R, al) Q ↔ Zgo d 55 76 (L) (zq (R 0 o 1) :: st) (I, R, al) Q := zg_55_73
theorem zh_55_76 {o : Nat} : Zgo d 55 76 (L) (zq (some (7, o)) :: st) (I, R, al) Q ↔ Zgo d 55 79 (L) (zi (I 7 o 4) :: st) (I, R, al) Q := zg_55_76
theorem zh_55_79 {x : Int} : Zgo d 55 79 (L) (zi x :: []) (I, R, al) Q ↔ Q (some (zi x)) (I, R, al) := zg_55_79
theorem zh_55_80 {x : Option (Nat × Nat)} : Zgo d 55 80 (some (zq x) :: L) (st) (I, R, al) Q ↔ Zgo d 55 81 (some (zq x) :: L) (zq x :: st) (I, R, al) Q := zg_55_80
theorem zh_55_81 {o : Nat} : Zgo d 55 81 (L) (zq (some (0, o)) :: st) (I, R, al) Q ↔ Zgo d 55 84 (L) (zq (R 0 o 1) :: st) (I, R, al) Q := zg_55_81
theorem zh_55_84 {o : Nat} : Zgo d 55 84 (L) (zq (some (7, o)) :: st) (I, R, al) Q ↔ Zgo d 55 87 (L) (zi (I 7 o 5) :: st) (I, R, al) Q := zg_55_84
theorem zh_55_87 {x : Int} : Zgo d 55 87 (L) (zi x :: []) (I, R, al) Q ↔ Q (some (zi x)) (I, R, al) := zg_55_87
theorem zh_55_88 {x : Option (Nat × Nat)} : Zgo d 55 88 (some (zq x) :: L) (st) (I, R, al) Q ↔ Zgo d 55 89 (some (zq x) :: L) (zq x :: st) (I, R, al) Q := zg_55_88
theorem zh_55_89 {o : Nat} : Zgo d 55 89 (L) (zq (some (0, o)) :: st) (I, R, al) Q ↔ Zgo d 55 92 (L) (zq (R 0 o 4) :: st) (I, R, al) Q := zg_55_89
theorem zh_55_92 {o : Nat} : Zgo d 55 92 (L) (zq (some (10, o)) :: st) (I, R, al) Q ↔ Zgo d 55 95 (L) (zi (I 10 o 3) :: st) (I, R, al) Q := zg_55_92
theorem zh_55_95 {x : Int} : Zgo d 55 95 (L) (zi x :: []) (I, R, al) Q ↔ Q (some (zi x)) (I, R, al) := zg_55_95
theorem zh_55_96 {x : Option (Nat × Nat)} : Zgo d 55 96 (some (zq x) :: L) (st) (I, R, al) Q ↔ Zgo d 55 97 (some (zq x) :: L) (zq x :: st) (I, R, al) Q := zg_55_96
theorem zh_55_97 {o : Nat} : Zgo d 55 97 (L) (zq (some (0, o)) :: st) (I, R, al) Q ↔ Zgo d 55 100 (L) (zq (R 0 o 4) :: st) (I, R, al) Q := zg_55_97
theorem zh_55_100 {o : Nat} : Zgo d 55 100 (L) (zq (some (10, o)) :: st) (I, R, al) Q ↔ Zgo d 55 103 (L) (zi (I 10 o 2) :: st) (I, R, al) Q := zg_55_100
theorem zh_55_103 {x : Int} : Zgo d 55 103 (L) (zi x :: []) (I, R, al) Q ↔ Q (some (zi x)) (I, R, al) := zg_55_103
theorem zh_55_104 {x : Option (Nat × Nat)} : Zgo d 55 104 (some (zq x) :: L) (st) (I, R, al) Q ↔ Zgo d 55 105 (some (zq x) :: L) (zq x :: st) (I, R, al) Q := zg_55_104
theorem zh_55_105 {o : Nat} : Zgo d 55 105 (L) (zq (some (0, o)) :: st) (I, R, al) Q ↔ Zgo d 55 108 (L) (zq (R 0 o 4) :: st) (I, R, al) Q := zg_55_105
theorem zh_55_108 {o : Nat} : Zgo d 55 108 (L) (zq (some (10, o)) :: st) (I, R, al) Q ↔ Zgo d 55 111 (L) (zi (I 10 o 4) :: st) (I, R, al) Q := zg_55_108
theorem zh_55_111 {x : Option (Nat × Nat)} : Zgo d 55 111 (some (zq x) :: L) (st) (I, R, al) Q ↔ Zgo d 55 112 (some (zq x) :: L) (zq x :: st) (I, R, al) Q := zg_55_111
theorem zh_55_112 {o : Nat} : Zgo d 55 112 (L) (zq (some (0, o)) :: st) (I, R, al) Q ↔ Zgo d 55 115 (L) (zq (R 0 o 4) :: st) (I, R, al) Q := zg_55_112
theorem zh_55_115 {o : Nat} : Zgo d 55 115 (L) (zq (some (10, o)) :: st) (I, R, al) Q ↔ Zgo d 55 118 (L) (zi (I 10 o 5) :: st) (I, R, al) Q := zg_55_115
theorem zh_55_118 {x y : Int} : Zgo d 55 118 (L) (zi y :: zi x :: st) (I, R, al) Q ↔ Zgo d 55 119 (L) (zi (x - y) :: st) (I, R, al) Q := zg_55_118
theorem zh_55_119 {x : Int} : Zgo d 55 119 (L) (zi x :: []) (I, R, al) Q ↔ Q (some (zi x)) (I, R, al) := zg_55_119
theorem zh_55_120 {x : Option (Nat × Nat)} : Zgo d 55 120 (some (zq x) :: L) (st) (I, R, al) Q ↔ Zgo d 55 121 (some (zq x) :: L) (zq x :: st) (I, R, al) Q := zg_55_120
theorem zh_55_121 {o : Nat} : Zgo d 55 121 (L) (zq (some (0, o)) :: st) (I, R, al) Q ↔ Zgo d 55 124 (L) (zq (R 0 o 4) :: st) (I, R, al) Q := zg_55_121
theorem zh_55_124 {o : Nat} : Zgo d 55 124 (L) (zq (some (10, o)) :: st) (I, R, al) Q ↔ Zgo d 55 127 (L) (zi (I 10 o 6) :: st) (I, R, al) Q := zg_55_124
theorem zh_55_127 {x : Int} : Zgo d 55 127 (L) (zi x :: []) (I, R, al) Q ↔ Q (some (zi x)) (I, R, al) := zg_55_127
theorem zh_55_128 : Zgo d 55 128 (L) (st) (I, R, al) Q ↔ Zgo d 55 129 (L) (zi (-1) :: st) (I, R, al) Q := zg_55_128
theorem zh_55_129 {x : Int} : Zgo d 55 129 (L) (zi x :: []) (I, R, al) Q ↔ Q (some (zi x)) (I, R, al) := zg_55_129
theorem zh_55_1 {x : Int} : Zgo d 55 1 L (zi x :: st) (I, R, al) Q ↔ (if zw x = 0 then Zgo d 55 48 L st (I, R, al) Q else if zw x = 1 then Zgo d 55 56 L st (I, R, al) Q else if zw x = 2 then Zgo d 55 72 L st (I, R, al) Q else if zw x = 3 then Zgo d 55 80 L st (I, R, al) Q else if zw x = 4 then Zgo d 55 88 L st (I, R, al) Q else if zw x = 5 then Zgo d 55 96 L st (I, R, al) Q else if zw x = 6 then Zgo d 55 104 L st (I, R, al) Q else if zw x = 7 then Zgo d 55 120 L st (I, R, al) Q else Zgo d 55 128 L st (I, R, al) Q) := zg_55_1
end
