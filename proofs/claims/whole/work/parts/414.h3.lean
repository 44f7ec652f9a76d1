/-! what each instruction does to the shapes that it finds (3) -/
section
variable {d : Nat} {L : zL} {st : List zV} {I : zMI} {R : zMR} {al : zA} {Q : Option zV → zS → Prop} {a0 a1 a2 a3 a4 a5 a6 a7 a8 b0 : Option zV}
theorem zh_84_0 {x : Option (Nat × Nat)} : Zgo d 84 0 (some (zq x) :: L) (st) (I, R, al) Q ↔ Zgo d 84 1 (some (zq x) :: L) (zq x :: st) (I, R, al) Q := zg_84_0
theorem zh_84_1 : Zgo d 84 1 (L) (st) (I, R, al) Q ↔ Zgo d 84 2 (L) (zi 0 :: st) (I, R, al) Q := zg_84_1
theorem zh_84_2 {o : Nat} {v : Int} : Zgo d 84 2 (L) (zi v :: zq (some (11, o)) :: st) (I, R, al) Q ↔ Zgo d 84 5 (L) (st) (zsI I 11 o 0 v, R, al) Q := zg_84_2
theorem zh_84_5 {x : Option (Nat × Nat)} : Zgo d 84 5 (some (zq x) :: L) (st) (I, R, al) Q ↔ Zgo d 84 6 (some (zq x) :: L) (zq x :: st) (I, R, al) Q := zg_84_5
theorem zh_84_6 {o : Nat} : Zgo d 84 6 (L) (zq (some (11, o)) :: st) (I, R, al) Q ↔ if zwt st ≤ 8 then zCp d 85 [zq (some (11, o))] (I, R, al) (fun r S2 => Zgo d 84 9 L (r.toList ++ st) S2 Q) else False := zg_84_6
theorem zh_84_9 {x : Option (Nat × Nat)} : Zgo d 84 9 (some (zq x) :: L) (st) (I, R, al) Q ↔ Zgo d 84 10 (some (zq x) :: L) (zq x :: st) (I, R, al) Q := zg_84_9
theorem zh_84_10 {o : Nat} : Zgo d 84 10 (L) (zq (some (11, o)) :: st) (I, R, al) Q ↔ if zwt st ≤ 8 then zCp d 86 [zq (some (11, o))] (I, R, al) (fun r S2 => Zgo d 84 13 L (r.toList ++ st) S2 Q) else False := zg_84_10
theorem zh_84_13 {x : Option (Nat × Nat)} : Zgo d 84 13 (some (zq x) :: L) (st) (I, R, al) Q ↔ Zgo d 84 14 (some (zq x) :: L) (zq x :: st) (I, R, al) Q := zg_84_13
theorem zh_84_14 {o : Nat} : Zgo d 84 14 (L) (zq (some (11, o)) :: st) (I, R, al) Q ↔ Zgo d 84 17 (L) (zi (I 11 o 4) :: st) (I, R, al) Q := zg_84_14
theorem zh_84_17 {x : Int} : Zgo d 84 17 (L) (zi x :: st) (I, R, al) Q ↔ if zw x = zw 0 then Zgo d 84 24 (L) (st) (I, R, al) Q else Zgo d 84 20 (L) (st) (I, R, al) Q := zg_84_17
theorem zh_84_20 : Zgo d 84 20 (L) (st) (I, R, al) Q ↔ Zgo d 84 21 (L) (zi 1 :: st) (I, R, al) Q := zg_84_20
theorem zh_84_21 : Zgo d 84 21 (L) (st) (I, R, al) Q ↔ Zgo d 84 28 (L) (st) (I, R, al) Q := zg_84_21
theorem zh_84_24 {x : Option (Nat × Nat)} : Zgo d 84 24 (some (zq x) :: L) (st) (I, R, al) Q ↔ Zgo d 84 25 (some (zq x) :: L) (zq x :: st) (I, R, al) Q := zg_84_24
theorem zh_84_25 {o : Nat} : Zgo d 84 25 (L) (zq (some (11, o)) :: st) (I, R, al) Q ↔ if zwt st ≤ 8 then zCp d 103 [zq (some (11, o))] (I, R, al) (fun r S2 => Zgo d 84 28 L (r.toList ++ st) S2 Q) else False := zg_84_25
theorem zh_84_28 {x : Int} : Zgo d 84 28 (a0 :: b0 :: L) (zi x :: st) (I, R, al) Q ↔ Zgo d 84 29 (zkl a0 :: some (zi x) :: L) (st) (I, R, al) Q := zg_84_28
theorem zh_84_29 {x : Option (Nat × Nat)} : Zgo d 84 29 (some (zq x) :: L) (st) (I, R, al) Q ↔ Zgo d 84 30 (some (zq x) :: L) (zq x :: st) (I, R, al) Q := zg_84_29
theorem zh_84_30 {x : Int} : Zgo d 84 30 (a0 :: some (zi x) :: L) (st) (I, R, al) Q ↔ Zgo d 84 31 (a0 :: some (zi x) :: L) (zi x :: st) (I, R, al) Q := zg_84_30
theorem zh_84_31 {x : Int} : Zgo d 84 31 (L) (zi x :: st) (I, R, al) Q ↔ if zw x = zw 0 then Zgo d 84 34 (L) (st) (I, R, al) Q else Zgo d 84 38 (L) (st) (I, R, al) Q := zg_84_31
theorem zh_84_34 : Zgo d 84 34 (L) (st) (I, R, al) Q ↔ Zgo d 84 35 (L) (zi 1 :: st) (I, R, al) Q := zg_84_34
theorem zh_84_35 : Zgo d 84 35 (L) (st) (I, R, al) Q ↔ Zgo d 84 39 (L) (st) (I, R, al) Q := zg_84_35
theorem zh_84_38 : Zgo d 84 38 (L) (st) (I, R, al) Q ↔ Zgo d 84 39 (L) (zi 0 :: st) (I, R, al) Q := zg_84_38
theorem zh_84_39 {o : Nat} {v : Int} : Zgo d 84 39 (L) (zi v :: zq (some (11, o)) :: st) (I, R, al) Q ↔ zok 1 v False (Zgo d 84 42 (L) (st) (zsI I 11 o 5 v, R, al) Q) := zg_84_39
theorem zh_84_42 {x : Int} : Zgo d 84 42 (a0 :: some (zi x) :: L) (st) (I, R, al) Q ↔ Zgo d 84 43 (a0 :: some (zi x) :: L) (zi x :: st) (I, R, al) Q := zg_84_42
theorem zh_84_43 {x : Int} : Zgo d 84 43 (L) (zi x :: []) (I, R, al) Q ↔ Q (some (zi x)) (I, R, al) := zg_84_43
theorem zh_85_0 : Zgo d 85 0 (L) (st) (I, R, al) Q ↔ Zgo d 85 1 (L) (zi 0 :: st) (I, R, al) Q := zg_85_0
theorem zh_85_1 {x : Int} : Zgo d 85 1 (a0 :: b0 :: L) (zi x :: st) (I, R, al) Q ↔ Zgo d 85 2 (zkl a0 :: some (zi x) :: L) (st) (I, R, al) Q := zg_85_1
theorem zh_85_2 {x : Int} : Zgo d 85 2 (a0 :: some (zi x) :: L) (st) (I, R, al) Q ↔ Zgo d 85 3 (a0 :: some (zi x) :: L) (zi x :: st) (I, R, al) Q := zg_85_2
theorem zh_85_3 : Zgo d 85 3 (L) (st) (I, R, al) Q ↔ Zgo d 85 5 (L) (zi 8 :: st) (I, R, al) Q := zg_85_3
theorem zh_85_5 {x y : Int} : Zgo d 85 5 (L) (zi y :: zi x :: st) (I, R, al) Q ↔ if zw x < zw y then Zgo d 85 8 (L) (st) (I, R, al) Q else Zgo d 85 21 (L) (st) (I, R, al) Q := zg_85_5
theorem zh_85_8 {x : Option (Nat × Nat)} : Zgo d 85 8 (some (zq x) :: L) (st) (I, R, al) Q ↔ Zgo d 85 9 (some (zq x) :: L) (zq x :: st) (I, R, al) Q := zg_85_8
theorem zh_85_9 {o : Nat} : Zgo d 85 9 (L) (zq (some (11, o)) :: st) (I, R, al) Q ↔ Zgo d 85 12 (L) (zq (R 11 o 33) :: st) (I, R, al) Q := zg_85_9
theorem zh_85_12 {x : Int} : Zgo d 85 12 (a0 :: some (zi x) :: L) (st) (I, R, al) Q ↔ Zgo d 85 13 (a0 :: some (zi x) :: L) (zi x :: st) (I, R, al) Q := zg_85_12
theorem zh_85_13 : Zgo d 85 13 (L) (st) (I, R, al) Q ↔ Zgo d 85 14 (L) (zi 0 :: st) (I, R, al) Q := zg_85_13
theorem zh_85_14 {v j : Int} {c o : Nat} : Zgo d 85 14 (L) (zi v :: zi j :: zq (some (c, o)) :: st) (I, R, al) Q ↔ zal (zArr c) 0 j (fun x => Zgo d 85 15 (L) (st) (zsI I c o x v, R, al) Q) := zg_85_14
theorem zh_85_15 {x : Int} : Zgo d 85 15 (a0 :: some (zi x) :: L) (st) (I, R, al) Q ↔ Zgo d 85 18 (zkl a0 :: some (zi (x + 1)) :: L) (st) (I, R, al) Q := zg_85_15
theorem zh_85_18 : Zgo d 85 18 (L) (st) (I, R, al) Q ↔ Zgo d 85 2 (L) (st) (I, R, al) Q := zg_85_18
theorem zh_85_21 {x : Option (Nat × Nat)} : Zgo d 85 21 (some (zq x) :: L) (st) (I, R, al) Q ↔ Zgo d 85 22 (some (zq x) :: L) (zq x :: st) (I, R, al) Q := zg_85_21
theorem zh_85_22 : Zgo d 85 22 (L) (st) (I, R, al) Q ↔ Zgo d 85 23 (L) (zi 0 :: st) (I, R, al) Q := zg_85_22
theorem zh_85_23 {o : Nat} {v : Int} : Zgo d 85 23 (L) (zi v :: zq (some (11, o)) :: st) (I, R, al) Q ↔ Zgo d 85 26 (L) (st) (zsI I 11 o 35 v, R, al) Q := zg_85_23
theorem zh_85_26 {x : Option (Nat × Nat)} : Zgo d 85 26 (some (zq x) :: L) (st) (I, R, al) Q ↔ Zgo d 85 27 (some (zq x) :: L) (zq x :: st) (I, R, al) Q := zg_85_26
theorem zh_85_27 : Zgo d 85 27 (L) (st) (I, R, al) Q ↔ Zgo d 85 28 (L) (zi (-1) :: st) (I, R, al) Q := zg_85_27
theorem zh_85_28 {o : Nat} {v : Int} : Zgo d 85 28 (L) (zi v :: zq (some (11, o)) :: st) (I, R, al) Q ↔ Zgo d 85 31 (L) (st) (zsI I 11 o 36 v, R, al) Q := zg_85_28
theorem zh_85_31 {x : Option (Nat × Nat)} : Zgo d 85 31 (some (zq x) :: L) (st) (I, R, al) Q ↔ Zgo d 85 32 (some (zq x) :: L) (zq x :: st) (I, R, al) Q := zg_85_31
theorem zh_85_32 : Zgo d 85 32 (L) (st) (I, R, al) Q ↔ Zgo d 85 33 (L) (zi 0 :: st) (I, R, al) Q := zg_85_32
theorem zh_85_33 {o : Nat} {v : Int} : Zgo d 85 33 (L) (zi v :: zq (some (11, o)) :: st) (I, R, al) Q ↔ Zgo d 85 36 (L) (st) (zsI I 11 o 37 v, R, al) Q := zg_85_33
theorem zh_85_36 {x : Option (Nat × Nat)} : Zgo d 85 36 (some (zq x) :: L) (st) (I, R, al) Q ↔ Zgo d 85 37 (some (zq x) :: L) (zq x :: st) (I, R, al) Q := zg_85_36
theorem zh_85_37 : Zgo d 85 37 (L) (st) (I, R, al) Q ↔ Zgo d 85 38 (L) (zi 0 :: st) (I, R, al) Q := zg_85_37
theorem zh_85_38 {o : Nat} {v : Int} : Zgo d 85 38 (L) (zi v :: zq (some (11, o)) :: st) (I, R, al) Q ↔ Zgo d 85 41 (L) (st) (zsI I 11 o 38 v, R, al) Q := zg_85_38
theorem zh_85_41 : Zgo d 85 41 (L) ([]) (I, R, al) Q ↔ Q none (I, R, al) := zg_85_41
theorem zh_86_0 {x : Option (Nat × Nat)} : Zgo d 86 0 (some (zq x) :: L) (st) (I, R, al) Q ↔ Zgo d 86 1 (some (zq x) :: L) (zq x :: st) (I, R, al) Q := zg_86_0
theorem zh_86_1 : Zgo d 86 1 (L) (st) (I, R, al) Q ↔ Zgo d 86 2 (L) (zi 0 :: st) (I, R, al) Q := zg_86_1
theorem zh_86_2 {o : Nat} {v : Int} : Zgo d 86 2 (L) (zi v :: zq (some (11, o)) :: st) (I, R, al) Q ↔ Zgo d 86 5 (L) (st) (zsI I 11 o 3 v, R, al) Q := zg_86_2
theorem zh_86_5 {x : Option (Nat × Nat)} : Zgo d 86 5 (some (zq x) :: L) (st) (I, R, al) Q ↔ Zgo d 86 6 (some (zq x) :: L) (zq x :: st) (I, R, al) Q := zg_86_5
theorem zh_86_6 : Zgo d 86 6 (L) (st) (I, R, al) Q ↔ Zgo d 86 7 (L) (zi 0 :: st) (I, R, al) Q := zg_86_6
theorem zh_86_7 {o : Nat} {v : Int} : Zgo d 86 7 (L) (zi v :: zq (some (11, o)) :: st) (I, R, al) Q ↔ zok 1 v False (Zgo d 86 10 (L) (st) (zsI I 11 o 4 v, R, al) Q) := zg_86_7
theorem zh_86_10 {x : Option (Nat × Nat)} : Zgo d 86 10 (some (zq x) :: L) (st) (I, R, al) Q ↔ Zgo d 86 11 (some (zq x) :: L) (zq x :: st) (I, R, al) Q := zg_86_10
theorem zh_86_11 : Zgo d 86 11 (L) (st) (I, R, al) Q ↔ Zgo d 86 12 (L) (zi 0 :: st) (I, R, al) Q := zg_86_11
theorem zh_86_12 {o : Nat} {v : Int} : Zgo d 86 12 (L) (zi v :: zq (some (11, o)) :: st) (I, R, al) Q ↔ Zgo d 86 15 (L) (st) (zsI I 11 o 10 v, R, al) Q := zg_86_12
theorem zh_86_15 {x : Option (Nat × Nat)} : Zgo d 86 15 (some (zq x) :: L) (st) (I, R, al) Q ↔ Zgo d 86 16 (some (zq x) :: L) (zq x :: st) (I, R, al) Q := zg_86_15
theorem zh_86_16 : Zgo d 86 16 (L) (st) (I, R, al) Q ↔ Zgo d 86 17 (L) (zi 0 :: st) (I, R, al) Q := zg_86_16
theorem zh_86_17 {o : Nat} {v : Int} : Zgo d 86 17 (L) (zi v :: zq (some (11, o)) :: st) (I, R, al) Q ↔ Zgo d 86 20 (L) (st) (zsI I 11 o 22 v, R, al) Q := zg_86_17
theorem zh_86_20 {x : Option (Nat × Nat)} : Zgo d 86 20 (some (zq x) :: L) (st) (I, R, al) Q ↔ Zgo d 86 21 (some (zq x) :: L) (zq x :: st) (I, R, al) Q := zg_86_20
theorem zh_86_21 : Zgo d 86 21 (L) (st) (I, R, al) Q ↔ Zgo d 86 22 (L) (zi 0 :: st) (I, R, al) Q := zg_86_21
theorem zh_86_22 {o : Nat} {v : Int} : Zgo d 86 22 (L) (zi v :: zq (some (11, o)) :: st) (I, R, al) Q ↔ Zgo d 86 25 (L) (st) (zsI I 11 o 28 v, R, al) Q := zg_86_22
theorem zh_86_25 {x : Option (Nat × Nat)} : Zgo d 86 25 (some (zq x) :: L) (st) (I, R, al) Q ↔ Zgo d 86 26 (some (zq x) :: L) (zq x :: st) (I, R, al) Q := zg_86_25
theorem zh_86_26 : Zgo d 86 26 (L) (st) (I, R, al) Q ↔ Zgo d 86 27 (L) (zi 0 :: st) (I, R, al) Q := zg_86_26
theorem zh_86_27 {o : Nat} {v : Int} : Zgo d 86 27 (L) (zi v :: zq (some (11, o)) :: st) (I, R, al) Q ↔ Zgo d 86 30 (L) (st) (zsI I 11 o 6 v, R, al) Q := zg_86_27
theorem zh_86_30 {x : Option (Nat × Nat)} : Zgo d 86 30 (some (zq x) :: L) (st) (I, R, al) Q ↔ Zgo d 86 31 (some (zq x) :: L) (zq x :: st) (I, R, al) Q := zg_86_30
theorem zh_86_31 {o : Nat} : Zgo d 86 31 (L) (zq (some (11, o)) :: st) (I, R, al) Q ↔ if zwt st ≤ 8 then zCp d 87 [zq (some (11, o))] (I, R, al) (fun r S2 => Zgo d 86 34 L (r.toList ++ st) S2 Q) else False := zg_86_31
theorem zh_86_34 : Zgo d 86 34 (L) (st) (I, R, al) Q ↔ Zgo d 86 36 (L) (zi 68 :: st) (I, R, al) Q := zg_86_34
theorem zh_86_36 {x y : Int} : Zgo d 86 36 (L) (zi y :: zi x :: st) (I, R, al) Q ↔ if zw x = zw y then Zgo d 86 39 (L) (st) (I, R, al) Q else Zgo d 86 220 (L) (st) (I, R, al) Q := zg_86_36
theorem zh_86_39 {x : Option (Nat × Nat)} : Zgo d 86 39 (some (zq x) :: L) (st) (I, R, al) Q ↔ Zgo d 86 40 (some (zq x) :: L) (zq x :: st) (I, R, al) Q := zg_86_39
theorem zh_86_40 {o : Nat} : Zgo d 86 40 (L) (zq (some (11, o)) :: st) (I, R, al) Q ↔ Zgo d 86 43 (L) (zi (I 11 o 4) :: st) (I, R, al) Q := zg_86_40
theorem zh_86_43 {x : Int} : Zgo d 86 43 (L) (zi x :: st) (I, R, al) Q ↔ if zw x = zw 0 then Zgo d 86 46 (L) (st) (I, R, al) Q else Zgo d 86 220 (L) (st) (I, R, al) Q := zg_86_43
theorem zh_86_46 {x : Option (Nat × Nat)} : Zgo d 86 46 (some (zq x) :: L) (st) (I, R, al) Q ↔ Zgo d 86 47 (some (zq x) :: L) (zq x :: st) (I, R, al) Q := zg_86_46
theorem zh_86_47 {x : Int} : Zgo d 86 47 (L) (zi x :: st) (I, R, al) Q ↔ Zgo d 86 48 (L) (zi x :: zi x :: st) (I, R, al) Q := zg_86_47
theorem zh_86_47q {u : Option (Nat × Nat)} : Zgo d 86 47 (L) (zq u :: st) (I, R, al) Q ↔ Zgo d 86 48 (L) (zq u :: zq u :: st) (I, R, al) Q := zg_86_47
theorem zh_86_48 {o : Nat} : Zgo d 86 48 (L) (zq (some (11, o)) :: st) (I, R, al) Q ↔ Zgo d 86 51 (L) (zi (I 11 o 3) :: st) (I, R, al) Q := zg_86_48
theorem zh_86_51 : Zgo d 86 51 (L) (st) (I, R, al) Q ↔ Zgo d 86 52 (L) (zi 1 :: st) (I, R, al) Q := zg_86_51
theorem zh_86_52 {x y : Int} : Zgo d 86 52 (L) (zi y :: zi x :: st) (I, R, al) Q ↔ Zgo d 86 53 (L) (zi (x + y) :: st) (I, R, al) Q := zg_86_52
theorem zh_86_53 {o : Nat} {v : Int} : Zgo d 86 53 (L) (zi v :: zq (some (11, o)) :: st) (I, R, al) Q ↔ Zgo d 86 56 (L) (st) (zsI I 11 o 3 v, R, al) Q := zg_86_53
theorem zh_86_56 {x : Option (Nat × Nat)} : Zgo d 86 56 (some (zq x) :: L) (st) (I, R, al) Q ↔ Zgo d 86 57 (some (zq x) :: L) (zq x :: st) (I, R, al) Q := zg_86_56
theorem zh_86_57 {x : Option (Nat × Nat)} : Zgo d 86 57 (some (zq x) :: L) (st) (I, R, al) Q ↔ Zgo d 86 58 (some (zq x) :: L) (zq x :: st) (I, R, al) Q := zg_86_57
theorem zh_86_58 {o : Nat} : Zgo d 86 58 (L) (zq (some (11, o)) :: st) (I, R, al) Q ↔ Zgo d 86 61 (L) (zi (I 11 o 6) :: st) (I, R, al) Q := zg_86_58
theorem zh_86_61 : Zgo d 86 61 (L) (st) (I, R, al) Q ↔ Zgo d 86 62 (L) (zi 3 :: st) (I, R, al) Q := zg_86_61
theorem zh_86_62 {x y : Int} : Zgo d 86 62 (L) (zi y :: zi x :: st) (I, R, al) Q ↔ if zw x = zw y then Zgo d 86 65 (L) (st) (I, R, al) Q else Zgo d 86 69 (L) (st) (I, R, al) Q := zg_86_62
theorem zh_86_65 : Zgo d 86 65 (L) (st) (I, R, al) Q ↔ Zgo d 86 66 (L) (zi 1 :: st) (I, R, al) Q := zg_86_65
theorem zh_86_66 : Zgo d 86 66 (L) (st) (I, R, al) Q ↔ Zgo d 86 70 (L) (st) (I, R, al) Q := zg_86_66
theorem zh_86_69 : Zgo d 86 69 (L) (st) (I, R, al) Q ↔ Zgo d 86 70 (L) (zi 0 :: st) (I, R, al) Q := zg_86_69
theorem zh_86_70 {o : Nat} {v : Int} : Zgo d 86 70 (L) (zi v :: zq (some (11, o)) :: st) (I, R, al) Q ↔ zok 1 v False (Zgo d 86 73 (L) (st) (zsI I 11 o 4 v, R, al) Q) := zg_86_70
theorem zh_86_73 {x : Option (Nat × Nat)} : Zgo d 86 73 (some (zq x) :: L) (st) (I, R, al) Q ↔ Zgo d 86 74 (some (zq x) :: L) (zq x :: st) (I, R, al) Q := zg_86_73
theorem zh_86_74 {o : Nat} : Zgo d 86 74 (L) (zq (some (11, o)) :: st) (I, R, al) Q ↔ Zgo d 86 77 (L) (zi (I 11 o 4) :: st) (I, R, al) Q := zg_86_74
theorem zh_86_77 {x : Int} : Zgo d 86 77 (L) (zi x :: st) (I, R, al) Q ↔ if zw x = zw 0 then Zgo d 86 80 (L) (st) (I, R, al) Q else Zgo d 86 30 (L) (st) (I, R, al) Q := zg_86_77
theorem zh_86_80 {x : Option (Nat × Nat)} : Zgo d 86 80 (some (zq x) :: L) (st) (I, R, al) Q ↔ Zgo d 86 81 (some (zq x) :: L) (zq x :: st) (I, R, al) Q := zg_86_80
theorem zh_86_81 {o : Nat} : Zgo d 86 81 (L) (zq (some (11, o)) :: st) (I, R, al) Q ↔ Zgo d 86 84 (L) (zq (R 11 o 7) :: st) (I, R, al) Q := zg_86_81
theorem zh_86_84 {x : Option (Nat × Nat)} : Zgo d 86 84 (some (zq x) :: L) (st) (I, R, al) Q ↔ Zgo d 86 85 (some (zq x) :: L) (zq x :: st) (I, R, al) Q := zg_86_84
theorem zh_86_85 {o : Nat} : Zgo d 86 85 (L) (zq (some (11, o)) :: st) (I, R, al) Q ↔ Zgo d 86 88 (L) (zi (I 11 o 6) :: st) (I, R, al) Q := zg_86_85
theorem zh_86_88 {x : Option (Nat × Nat)} : Zgo d 86 88 (some (zq x) :: L) (st) (I, R, al) Q ↔ Zgo d 86 89 (some (zq x) :: L) (zq x :: st) (I, R, al) Q := zg_86_88
theorem zh_86_89 {o : Nat} : Zgo d 86 89 (L) (zq (some (11, o)) :: st) (I, R, al) Q ↔ if zwt st ≤ 8 then zCp d 88 [zq (some (11, o))] (I, R, al) (fun r S2 => Zgo d 86 92 L (r.toList ++ st) S2 Q) else False := zg_86_89
theorem zh_86_92 {v j : Int} {c o : Nat} : Zgo d 86 92 (L) (zi v :: zi j :: zq (some (c, o)) :: st) (I, R, al) Q ↔ zal (zArr c) 0 j (fun x => Zgo d 86 93 (L) (st) (zsI I c o x v, R, al) Q) := zg_86_92
theorem zh_86_93 {x : Option (Nat × Nat)} : Zgo d 86 93 (some (zq x) :: L) (st) (I, R, al) Q ↔ Zgo d 86 94 (some (zq x) :: L) (zq x :: st) (I, R, al) Q := zg_86_93
theorem zh_86_94 {o : Nat} : Zgo d 86 94 (L) (zq (some (11, o)) :: st) (I, R, al) Q ↔ Zgo d 86 97 (L) (zq (R 11 o 8) :: st) (I, R, al) Q := zg_86_94
theorem zh_86_97 {x : Option (Nat × Nat)} : Zgo d 86 97 (some (zq x) :: L) (st) (I, R, al) Q ↔ Zgo d 86 98 (some (zq x) :: L) (zq x :: st) (I, R, al) Q := zg_86_97
theorem zh_86_98 {o : Nat} : Zgo d 86 98 (L) (zq (some (11, o)) :: st) (I, R, al) Q ↔ Zgo d 86 101 (L) (zi (I 11 o 6) :: st) (I, R, al) Q := zg_86_98
theorem zh_86_101 : Zgo d 86 101 (L) (st) (I, R, al) Q ↔ Zgo d 86 102 (L) (zi 0 :: st) (I, R, al) Q := zg_86_101
theorem zh_86_102 {v j : Int} {c o : Nat} : Zgo d 86 102 (L) (zi v :: zi j :: zq (some (c, o)) :: st) (I, R, al) Q ↔ zal (zArr c) 0 j (fun x => Zgo d 86 103 (L) (st) (zsI I c o x v, R, al) Q) := zg_86_102
theorem zh_86_103 : Zgo d 86 103 (L) (st) (I, R, al) Q ↔ Zgo d 86 104 (L) (zi (-1) :: st) (I, R, al) Q := zg_86_103
theorem zh_86_104 {x : Int} : Zgo d 86 104 (a0 :: b0 :: L) (zi x :: st) (I, R, al) Q ↔ Zgo d 86 105 (zkl a0 :: some (zi x) :: L) (st) (I, R, al) Q := zg_86_104
theorem zh_86_105 {x : Option (Nat × Nat)} : Zgo d 86 105 (some (zq x) :: L) (st) (I, R, al) Q ↔ Zgo d 86 106 (some (zq x) :: L) (zq x :: st) (I, R, al) Q := zg_86_105
theorem zh_86_106 {o : Nat} : Zgo d 86 106 (L) (zq (some (11, o)) :: st) (I, R, al) Q ↔ if zwt st ≤ 8 then zCp d 87 [zq (some (11, o))] (I, R, al) (fun r S2 => Zgo d 86 109 L (r.toList ++ st) S2 Q) else False := zg_86_106
theorem zh_86_109 {v0 : zV} : Zgo d 86 109 (L) (v0 :: st) (I, R, al) Q ↔ if zwt st ≤ 8 then zCp d 89 [v0] (I, R, al) (fun r S2 => Zgo d 86 112 L (r.toList ++ st) S2 Q) else False := zg_86_109
theorem zh_86_112 {x : Int} : Zgo d 86 112 (L) (zi x :: st) (I, R, al) Q ↔ if zw x = zw 0 then Zgo d 86 183 (L) (st) (I, R, al) Q else Zgo d 86 115 (L) (st) (I, R, al) Q := zg_86_112
theorem zh_86_115 {x : Option (Nat × Nat)} : Zgo d 86 115 (some (zq x) :: L) (st) (I, R, al) Q ↔ Zgo d 86 116 (some (zq x) :: L) (zq x :: st) (I, R, al) Q := zg_86_115
theorem zh_86_116 {o : Nat} : Zgo d 86 116 (L) (zq (some (11, o)) :: st) (I, R, al) Q ↔ Zgo d 86 119 (L) (zi (I 11 o 4) :: st) (I, R, al) Q := zg_86_116
theorem zh_86_119 {x : Int} : Zgo d 86 119 (L) (zi x :: st) (I, R, al) Q ↔ if zw x = zw 0 then Zgo d 86 122 (L) (st) (I, R, al) Q else Zgo d 86 183 (L) (st) (I, R, al) Q := zg_86_119
theorem zh_86_122 {x : Option (Nat × Nat)} : Zgo d 86 122 (some (zq x) :: L) (st) (I, R, al) Q ↔ Zgo d 86 123 (some (zq x) :: L) (zq x :: st) (I, R, al) Q := zg_86_122
theorem zh_86_123 {o : Nat} : Zgo d 86 123 (L) (zq (some (11, o)) :: st) (I, R, al) Q ↔ if zwt st ≤ 8 then zCp d 90 [zq (some (11, o))] (I, R, al) (fun r S2 => Zgo d 86 126 L (r.toList ++ st) S2 Q) else False := zg_86_123
theorem zh_86_126 {x : Int} : Zgo d 86 126 (a0 :: a1 :: b0 :: L) (zi x :: st) (I, R, al) Q ↔ Zgo d 86 127 (a0 :: zkl a1 :: some (zi x) :: L) (st) (I, R, al) Q := zg_86_126
theorem zh_86_127 {x : Option (Nat × Nat)} : Zgo d 86 127 (some (zq x) :: L) (st) (I, R, al) Q ↔ Zgo d 86 128 (some (zq x) :: L) (zq x :: st) (I, R, al) Q := zg_86_127
theorem zh_86_128 {x : Option (Nat × Nat)} : Zgo d 86 128 (some (zq x) :: L) (st) (I, R, al) Q ↔ Zgo d 86 129 (some (zq x) :: L) (zq x :: st) (I, R, al) Q := zg_86_128
theorem zh_86_129 {o : Nat} : Zgo d 86 129 (L) (zq (some (11, o)) :: st) (I, R, al) Q ↔ Zgo d 86 132 (L) (zi (I 11 o 4) :: st) (I, R, al) Q := zg_86_129
theorem zh_86_132 {x : Int} : Zgo d 86 132 (L) (zi x :: st) (I, R, al) Q ↔ if zw x = zw 0 then Zgo d 86 135 (L) (st) (I, R, al) Q else Zgo d 86 140 (L) (st) (I, R, al) Q := zg_86_132
theorem zh_86_135 {x : Int} : Zgo d 86 135 (a0 :: a1 :: some (zi x) :: L) (st) (I, R, al) Q ↔ Zgo d 86 136 (a0 :: a1 :: some (zi x) :: L) (zi x :: st) (I, R, al) Q := zg_86_135
theorem zh_86_136 {x : Int} : Zgo d 86 136 (a0 :: some (zi x) :: L) (st) (I, R, al) Q ↔ Zgo d 86 137 (a0 :: some (zi x) :: L) (zi x :: st) (I, R, al) Q := zg_86_136
theorem zh_86_137 {x y : Int} : Zgo d 86 137 (L) (zi y :: zi x :: st) (I, R, al) Q ↔ if zw y < zw x then Zgo d 86 144 (L) (st) (I, R, al) Q else Zgo d 86 140 (L) (st) (I, R, al) Q := zg_86_137
theorem zh_86_140 : Zgo d 86 140 (L) (st) (I, R, al) Q ↔ Zgo d 86 141 (L) (zi 1 :: st) (I, R, al) Q := zg_86_140
theorem zh_86_141 : Zgo d 86 141 (L) (st) (I, R, al) Q ↔ Zgo d 86 145 (L) (st) (I, R, al) Q := zg_86_141
theorem zh_86_144 : Zgo d 86 144 (L) (st) (I, R, al) Q ↔ Zgo d 86 145 (L) (zi 0 :: st) (I, R, al) Q := zg_86_144
theorem zh_86_145 {o : Nat} {v : Int} : Zgo d 86 145 (L) (zi v :: zq (some (11, o)) :: st) (I, R, al) Q ↔ zok 1 v False (Zgo d 86 148 (L) (st) (zsI I 11 o 4 v, R, al) Q) := zg_86_145
theorem zh_86_148 {x : Int} : Zgo d 86 148 (a0 :: a1 :: some (zi x) :: L) (st) (I, R, al) Q ↔ Zgo d 86 149 (a0 :: a1 :: some (zi x) :: L) (zi x :: st) (I, R, al) Q := zg_86_148
theorem zh_86_149 {x : Int} : Zgo d 86 149 (a0 :: b0 :: L) (zi x :: st) (I, R, al) Q ↔ Zgo d 86 150 (zkl a0 :: some (zi x) :: L) (st) (I, R, al) Q := zg_86_149
theorem zh_86_150 {x : Option (Nat × Nat)} : Zgo d 86 150 (some (zq x) :: L) (st) (I, R, al) Q ↔ Zgo d 86 151 (some (zq x) :: L) (zq x :: st) (I, R, al) Q := zg_86_150
theorem zh_86_151 {o : Nat} : Zgo d 86 151 (L) (zq (some (11, o)) :: st) (I, R, al) Q ↔ Zgo d 86 154 (L) (zq (R 11 o 8) :: st) (I, R, al) Q := zg_86_151
theorem zh_86_154 {x : Option (Nat × Nat)} : Zgo d 86 154 (some (zq x) :: L) (st) (I, R, al) Q ↔ Zgo d 86 155 (some (zq x) :: L) (zq x :: st) (I, R, al) Q := zg_86_154
theorem zh_86_155 {o : Nat} : Zgo d 86 155 (L) (zq (some (11, o)) :: st) (I, R, al) Q ↔ Zgo d 86 158 (L) (zi (I 11 o 6) :: st) (I, R, al) Q := zg_86_155
theorem zh_86_158 {x : Option (Nat × Nat)} : Zgo d 86 158 (some (zq x) :: L) (st) (I, R, al) Q ↔ Zgo d 86 159 (some (zq x) :: L) (zq x :: st) (I, R, al) Q := zg_86_158
theorem zh_86_159 {o : Nat} : Zgo d 86 159 (L) (zq (some (11, o)) :: st) (I, R, al) Q ↔ Zgo d 86 162 (L) (zq (R 11 o 8) :: st) (I, R, al) Q := zg_86_159
theorem zh_86_162 {x : Option (Nat × Nat)} : Zgo d 86 162 (some (zq x) :: L) (st) (I, R, al) Q ↔ Zgo d 86 163 (some (zq x) :: L) (zq x :: st) (I, R, al) Q := zg_86_162
theorem zh_86_163 {o : Nat} : Zgo d 86 163 (L) (zq (some (11, o)) :: st) (I, R, al) Q ↔ Zgo d 86 166 (L) (zi (I 11 o 6) :: st) (I, R, al) Q := zg_86_163
theorem zh_86_166 {j : Int} {c o : Nat} : Zgo d 86 166 (L) (zi j :: zq (some (c, o)) :: st) (I, R, al) Q ↔ zal (zlen (I, R, al) c) 0 j (fun x => Zgo d 86 167 (L) (zi (I c o x) :: st) (I, R, al) Q) := zg_86_166
theorem zh_86_167 : Zgo d 86 167 (L) (st) (I, R, al) Q ↔ Zgo d 86 168 (L) (zi 1 :: st) (I, R, al) Q := zg_86_167
theorem zh_86_168 {x : Int} : Zgo d 86 168 (a0 :: a1 :: some (zi x) :: L) (st) (I, R, al) Q ↔ Zgo d 86 169 (a0 :: a1 :: some (zi x) :: L) (zi x :: st) (I, R, al) Q := zg_86_168
theorem zh_86_169 {x : Int} : Zgo d 86 169 (L) (zi x :: st) (I, R, al) Q ↔ if zw x < zw 0 then Zgo d 86 172 (L) (st) (I, R, al) Q else Zgo d 86 176 (L) (st) (I, R, al) Q := zg_86_169
theorem zh_86_172 : Zgo d 86 172 (L) (st) (I, R, al) Q ↔ Zgo d 86 173 (L) (zi 0 :: st) (I, R, al) Q := zg_86_172
theorem zh_86_173 : Zgo d 86 173 (L) (st) (I, R, al) Q ↔ Zgo d 86 177 (L) (st) (I, R, al) Q := zg_86_173
theorem zh_86_176 {x : Int} : Zgo d 86 176 (a0 :: a1 :: some (zi x) :: L) (st) (I, R, al) Q ↔ Zgo d 86 177 (a0 :: a1 :: some (zi x) :: L) (zi x :: st) (I, R, al) Q := zg_86_176
theorem zh_86_177 {x y : Int} : Zgo d 86 177 (L) (zi y :: zi x :: st) (I, R, al) Q ↔ Zgo d 86 178 (L) (zi (zshl x y) :: st) (I, R, al) Q := zg_86_177
theorem zh_86_178 {x y : Int} : Zgo d 86 178 (L) (zi y :: zi x :: st) (I, R, al) Q ↔ Zgo d 86 179 (L) (zi (zor x y) :: st) (I, R, al) Q := zg_86_178
theorem zh_86_179 {v j : Int} {c o : Nat} : Zgo d 86 179 (L) (zi v :: zi j :: zq (some (c, o)) :: st) (I, R, al) Q ↔ zal (zArr c) 0 j (fun x => Zgo d 86 180 (L) (st) (zsI I c o x v, R, al) Q) := zg_86_179
theorem zh_86_180 : Zgo d 86 180 (L) (st) (I, R, al) Q ↔ Zgo d 86 105 (L) (st) (I, R, al) Q := zg_86_180
theorem zh_86_183 {x : Option (Nat × Nat)} : Zgo d 86 183 (some (zq x) :: L) (st) (I, R, al) Q ↔ Zgo d 86 184 (some (zq x) :: L) (zq x :: st) (I, R, al) Q := zg_86_183
theorem zh_86_184 {o : Nat} : Zgo d 86 184 (L) (zq (some (11, o)) :: st) (I, R, al) Q ↔ Zgo d 86 187 (L) (zq (R 11 o 9) :: st) (I, R, al) Q := zg_86_184
theorem zh_86_187 {x : Option (Nat × Nat)} : Zgo d 86 187 (some (zq x) :: L) (st) (I, R, al) Q ↔ Zgo d 86 188 (some (zq x) :: L) (zq x :: st) (I, R, al) Q := zg_86_187
theorem zh_86_188 {o : Nat} : Zgo d 86 188 (L) (zq (some (11, o)) :: st) (I, R, al) Q ↔ Zgo d 86 191 (L) (zi (I 11 o 6) :: st) (I, R, al) Q := zg_86_188
theorem zh_86_191 {x : Option (Nat × Nat)} : Zgo d 86 191 (some (zq x) :: L) (st) (I, R, al) Q ↔ Zgo d 86 192 (some (zq x) :: L) (zq x :: st) (I, R, al) Q := zg_86_191
theorem zh_86_192 {o : Nat} : Zgo d 86 192 (L) (zq (some (11, o)) :: st) (I, R, al) Q ↔ Zgo d 86 195 (L) (zi (I 11 o 4) :: st) (I, R, al) Q := zg_86_192
theorem zh_86_195 {x : Int} : Zgo d 86 195 (L) (zi x :: st) (I, R, al) Q ↔ if zw x = zw 0 then Zgo d 86 202 (L) (st) (I, R, al) Q else Zgo d 86 198 (L) (st) (I, R, al) Q := zg_86_195
theorem zh_86_198 : Zgo d 86 198 (L) (st) (I, R, al) Q ↔ Zgo d 86 199 (L) (zi 0 :: st) (I, R, al) Q := zg_86_198
theorem zh_86_199 : Zgo d 86 199 (L) (st) (I, R, al) Q ↔ Zgo d 86 206 (L) (st) (I, R, al) Q := zg_86_199
theorem zh_86_202 {x : Option (Nat × Nat)} : Zgo d 86 202 (some (zq x) :: L) (st) (I, R, al) Q ↔ Zgo d 86 203 (some (zq x) :: L) (zq x :: st) (I, R, al) Q := zg_86_202
theorem zh_86_203 {o : Nat} : Zgo d 86 203 (L) (zq (some (11, o)) :: st) (I, R, al) Q ↔ if zwt st ≤ 8 then zCp d 91 [zq (some (11, o))] (I, R, al) (fun r S2 => Zgo d 86 206 L (r.toList ++ st) S2 Q) else False := zg_86_203
theorem zh_86_206 {v j : Int} {c o : Nat} : Zgo d 86 206 (L) (zi v :: zi j :: zq (some (c, o)) :: st) (I, R, al) Q ↔ zal (zArr c) 0 j (fun x => Zgo d 86 207 (L) (st) (zsI I c o x v, R, al) Q) := zg_86_206
theorem zh_86_207 {x : Option (Nat × Nat)} : Zgo d 86 207 (some (zq x) :: L) (st) (I, R, al) Q ↔ Zgo d 86 208 (some (zq x) :: L) (zq x :: st) (I, R, al) Q := zg_86_207
theorem zh_86_208 {x : Int} : Zgo d 86 208 (L) (zi x :: st) (I, R, al) Q ↔ Zgo d 86 209 (L) (zi x :: zi x :: st) (I, R, al) Q := zg_86_208
theorem zh_86_208q {u : Option (Nat × Nat)} : Zgo d 86 208 (L) (zq u :: st) (I, R, al) Q ↔ Zgo d 86 209 (L) (zq u :: zq u :: st) (I, R, al) Q := zg_86_208
theorem zh_86_209 {o : Nat} : Zgo d 86 209 (L) (zq (some (11, o)) :: st) (I, R, al) Q ↔ Zgo d 86 212 (L) (zi (I 11 o 6) :: st) (I, R, al) Q := zg_86_209
theorem zh_86_212 : Zgo d 86 212 (L) (st) (I, R, al) Q ↔ Zgo d 86 213 (L) (zi 1 :: st) (I, R, al) Q := zg_86_212
theorem zh_86_213 {x y : Int} : Zgo d 86 213 (L) (zi y :: zi x :: st) (I, R, al) Q ↔ Zgo d 86 214 (L) (zi (x + y) :: st) (I, R, al) Q := zg_86_213
theorem zh_86_214 {o : Nat} {v : Int} : Zgo d 86 214 (L) (zi v :: zq (some (11, o)) :: st) (I, R, al) Q ↔ Zgo d 86 217 (L) (st) (zsI I 11 o 6 v, R, al) Q := zg_86_214
theorem zh_86_217 : Zgo d 86 217 (L) (st) (I, R, al) Q ↔ Zgo d 86 30 (L) (st) (I, R, al) Q := zg_86_217
theorem zh_86_220 {x : Option (Nat × Nat)} : Zgo d 86 220 (some (zq x) :: L) (st) (I, R, al) Q ↔ Zgo d 86 221 (some (zq x) :: L) (zq x :: st) (I, R, al) Q := zg_86_220
theorem zh_86_221 : Zgo d 86 221 (L) (st) (I, R, al) Q ↔ Zgo d 86 223 (L) (zi 77 :: st) (I, R, al) Q := zg_86_221
theorem zh_86_223 {v1 : zV} {o : Nat} : Zgo d 86 223 (L) (v1 :: zq (some (11, o)) :: st) (I, R, al) Q ↔ if zwt st ≤ 8 then zCp d 93 [zq (some (11, o)), v1] (I, R, al) (fun r S2 => Zgo d 86 226 L (r.toList ++ st) S2 Q) else False := zg_86_223
theorem zh_86_226 {x : Option (Nat × Nat)} : Zgo d 86 226 (some (zq x) :: L) (st) (I, R, al) Q ↔ Zgo d 86 227 (some (zq x) :: L) (zq x :: st) (I, R, al) Q := zg_86_226
theorem zh_86_227 {o : Nat} : Zgo d 86 227 (L) (zq (some (11, o)) :: st) (I, R, al) Q ↔ Zgo d 86 230 (L) (zi (I 11 o 4) :: st) (I, R, al) Q := zg_86_227
theorem zh_86_230 {x : Int} : Zgo d 86 230 (L) (zi x :: st) (I, R, al) Q ↔ if zw x = zw 0 then Zgo d 86 233 (L) (st) (I, R, al) Q else Zgo d 86 246 (L) (st) (I, R, al) Q := zg_86_230
theorem zh_86_233 {x : Option (Nat × Nat)} : Zgo d 86 233 (some (zq x) :: L) (st) (I, R, al) Q ↔ Zgo d 86 234 (some (zq x) :: L) (zq x :: st) (I, R, al) Q := zg_86_233
theorem zh_86_234 {o : Nat} : Zgo d 86 234 (L) (zq (some (11, o)) :: st) (I, R, al) Q ↔ Zgo d 86 237 (L) (zq (R 11 o 9) :: st) (I, R, al) Q := zg_86_234
theorem zh_86_237 {x : Option (Nat × Nat)} : Zgo d 86 237 (some (zq x) :: L) (st) (I, R, al) Q ↔ Zgo d 86 238 (some (zq x) :: L) (zq x :: st) (I, R, al) Q := zg_86_237
theorem zh_86_238 {o : Nat} : Zgo d 86 238 (L) (zq (some (11, o)) :: st) (I, R, al) Q ↔ Zgo d 86 241 (L) (zi (I 11 o 6) :: st) (I, R, al) Q := zg_86_238
theorem zh_86_241 {x : Option (Nat × Nat)} : Zgo d 86 241 (some (zq x) :: L) (st) (I, R, al) Q ↔ Zgo d 86 242 (some (zq x) :: L) (zq x :: st) (I, R, al) Q := zg_86_241
theorem zh_86_242 {o : Nat} : Zgo d 86 242 (L) (zq (some (11, o)) :: st) (I, R, al) Q ↔ if zwt st ≤ 8 then zCp d 91 [zq (some (11, o))] (I, R, al) (fun r S2 => Zgo d 86 245 L (r.toList ++ st) S2 Q) else False := zg_86_242
theorem zh_86_245 {v j : Int} {c o : Nat} : Zgo d 86 245 (L) (zi v :: zi j :: zq (some (c, o)) :: st) (I, R, al) Q ↔ zal (zArr c) 0 j (fun x => Zgo d 86 246 (L) (st) (zsI I c o x v, R, al) Q) := zg_86_245
theorem zh_86_246 {x : Option (Nat × Nat)} : Zgo d 86 246 (some (zq x) :: L) (st) (I, R, al) Q ↔ Zgo d 86 247 (some (zq x) :: L) (zq x :: st) (I, R, al) Q := zg_86_246
theorem zh_86_247 {x : Option (Nat × Nat)} : Zgo d 86 247 (some (zq x) :: L) (st) (I, R, al) Q ↔ Zgo d 86 248 (some (zq x) :: L) (zq x :: st) (I, R, al) Q := zg_86_247
theorem zh_86_248 {o : Nat} : Zgo d 86 248 (L) (zq (some (11, o)) :: st) (I, R, al) Q ↔ Zgo d 86 251 (L) (zi (I 11 o 4) :: st) (I, R, al) Q := zg_86_248
theorem zh_86_251 {x : Int} : Zgo d 86 251 (L) (zi x :: st) (I, R, al) Q ↔ if zw x = zw 0 then Zgo d 86 254 (L) (st) (I, R, al) Q else Zgo d 86 265 (L) (st) (I, R, al) Q := zg_86_251
theorem zh_86_254 {x : Option (Nat × Nat)} : Zgo d 86 254 (some (zq x) :: L) (st) (I, R, al) Q ↔ Zgo d 86 255 (some (zq x) :: L) (zq x :: st) (I, R, al) Q := zg_86_254
theorem zh_86_255 {o : Nat} : Zgo d 86 255 (L) (zq (some (11, o)) :: st) (I, R, al) Q ↔ Zgo d 86 258 (L) (zi (I 11 o 3) :: st) (I, R, al) Q := zg_86_255
theorem zh_86_258 {x : Option (Nat × Nat)} : Zgo d 86 258 (some (zq x) :: L) (st) (I, R, al) Q ↔ Zgo d 86 259 (some (zq x) :: L) (zq x :: st) (I, R, al) Q := zg_86_258
theorem zh_86_259 {o : Nat} : Zgo d 86 259 (L) (zq (some (11, o)) :: st) (I, R, al) Q ↔ Zgo d 86 262 (L) (zi (I 11 o 2) :: st) (I, R, al) Q := zg_86_259
theorem zh_86_262 {x y : Int} : Zgo d 86 262 (L) (zi y :: zi x :: st) (I, R, al) Q ↔ if zw x = zw y then Zgo d 86 269 (L) (st) (I, R, al) Q else Zgo d 86 265 (L) (st) (I, R, al) Q := zg_86_262
theorem zh_86_265 : Zgo d 86 265 (L) (st) (I, R, al) Q ↔ Zgo d 86 266 (L) (zi 1 :: st) (I, R, al) Q := zg_86_265
theorem zh_86_266 : Zgo d 86 266 (L) (st) (I, R, al) Q ↔ Zgo d 86 270 (L) (st) (I, R, al) Q := zg_86_266
theorem zh_86_269 : Zgo d 86 269 (L) (st) (I, R, al) Q ↔ Zgo d 86 270 (L) (zi 0 :: st) (I, R, al) Q := zg_86_269
theorem zh_86_270 {o : Nat} {v : Int} : Zgo d 86 270 (L) (zi v :: zq (some (11, o)) :: st) (I, R, al) Q ↔ zok 1 v False (Zgo d 86 273 (L) (st) (zsI I 11 o 4 v, R, al) Q) := zg_86_270
theorem zh_86_273 : Zgo d 86 273 (L) ([]) (I, R, al) Q ↔ Q none (I, R, al) := zg_86_273
theorem zh_87_0 {x : Option (Nat × Nat)} : Zgo d 87 0 (some (zq x) :: L) (st) (I, R, al) Q ↔ Zgo d 87 1 (some (zq x) :: L) (zq x :: st) (I, R, al) Q := zg_87_0
theorem zh_87_1 {o : Nat} : Zgo d 87 1 (L) (zq (some (11, o)) :: st) (I, R, al) Q ↔ Zgo d 87 4 (L) (zi (I 11 o 3) :: st) (I, R, al) Q := zg_87_1
theorem zh_87_4 {x : Option (Nat × Nat)} : Zgo d 87 4 (some (zq x) :: L) (st) (I, R, al) Q ↔ Zgo d 87 5 (some (zq x) :: L) (zq x :: st) (I, R, al) Q := zg_87_4
theorem zh_87_5 {o : Nat} : Zgo d 87 5 (L) (zq (some (11, o)) :: st) (I, R, al) Q ↔ Zgo d 87 8 (L) (zi (I 11 o 2) :: st) (I, R, al) Q := zg_87_5
theorem zh_87_8 {x y : Int} : Zgo d 87 8 (L) (zi y :: zi x :: st) (I, R, al) Q ↔ if zw x < zw y then Zgo d 87 11 (L) (st) (I, R, al) Q else Zgo d 87 38 (L) (st) (I, R, al) Q := zg_87_8
theorem zh_87_11 {x : Option (Nat × Nat)} : Zgo d 87 11 (some (zq x) :: L) (st) (I, R, al) Q ↔ Zgo d 87 12 (some (zq x) :: L) (zq x :: st) (I, R, al) Q := zg_87_11
theorem zh_87_12 {o : Nat} : Zgo d 87 12 (L) (zq (some (11, o)) :: st) (I, R, al) Q ↔ Zgo d 87 15 (L) (zq (R 11 o 1) :: st) (I, R, al) Q := zg_87_12
theorem zh_87_15 {x : Option (Nat × Nat)} : Zgo d 87 15 (some (zq x) :: L) (st) (I, R, al) Q ↔ Zgo d 87 16 (some (zq x) :: L) (zq x :: st) (I, R, al) Q := zg_87_15
theorem zh_87_16 {o : Nat} : Zgo d 87 16 (L) (zq (some (11, o)) :: st) (I, R, al) Q ↔ Zgo d 87 19 (L) (zi (I 11 o 3) :: st) (I, R, al) Q := zg_87_16
theorem zh_87_19 {x : Option (Nat × Nat)} : Zgo d 87 19 (some (zq x) :: L) (st) (I, R, al) Q ↔ Zgo d 87 20 (some (zq x) :: L) (zq x :: st) (I, R, al) Q := zg_87_19
theorem zh_87_20 {o : Nat} : Zgo d 87 20 (L) (zq (some (11, o)) :: st) (I, R, al) Q ↔ Zgo d 87 23 (L) (zi (I 11 o 2) :: st) (I, R, al) Q := zg_87_20
theorem zh_87_23 {x y : Int} : Zgo d 87 23 (L) (zi y :: zi x :: st) (I, R, al) Q ↔ if zw x < zw y then Zgo d 87 26 (L) (st) (I, R, al) Q else Zgo d 87 33 (L) (st) (I, R, al) Q := zg_87_23
theorem zh_87_26 {x : Option (Nat × Nat)} : Zgo d 87 26 (some (zq x) :: L) (st) (I, R, al) Q ↔ Zgo d 87 27 (some (zq x) :: L) (zq x :: st) (I, R, al) Q := zg_87_26
theorem zh_87_27 {o : Nat} : Zgo d 87 27 (L) (zq (some (11, o)) :: st) (I, R, al) Q ↔ Zgo d 87 30 (L) (zi (I 11 o 3) :: st) (I, R, al) Q := zg_87_27
theorem zh_87_30 : Zgo d 87 30 (L) (st) (I, R, al) Q ↔ Zgo d 87 34 (L) (st) (I, R, al) Q := zg_87_30
theorem zh_87_33 : Zgo d 87 33 (L) (st) (I, R, al) Q ↔ Zgo d 87 34 (L) (zi 0 :: st) (I, R, al) Q := zg_87_33
theorem zh_87_34 {j : Int} {c o : Nat} : Zgo d 87 34 (L) (zi j :: zq (some (c, o)) :: st) (I, R, al) Q ↔ zal (zlen (I, R, al) c) 0 j (fun x => Zgo d 87 35 (L) (zi (I c o x) :: st) (I, R, al) Q) := zg_87_34
theorem zh_87_35 : Zgo d 87 35 (L) (st) (I, R, al) Q ↔ Zgo d 87 39 (L) (st) (I, R, al) Q := zg_87_35
theorem zh_87_38 : Zgo d 87 38 (L) (st) (I, R, al) Q ↔ Zgo d 87 39 (L) (zi 0 :: st) (I, R, al) Q := zg_87_38
theorem zh_87_39 {x : Int} : Zgo d 87 39 (L) (zi x :: []) (I, R, al) Q ↔ Q (some (zi x)) (I, R, al) := zg_87_39
theorem zh_88_0 {x : Option (Nat × Nat)} : Zgo d 88 0 (some (zq x) :: L) (st) (I, R, al) Q ↔ Zgo d 88 1 (some (zq x) :: L) (zq x :: st) (I, R, al) Q := zg_88_0
theorem zh_88_1 {o : Nat} : Zgo d 88 1 (L) (zq (some (11, o)) :: st) (I, R, al) Q ↔ if zwt st ≤ 8 then zCp d 87 [zq (some (11, o))] (I, R, al) (fun r S2 => Zgo d 88 4 L (r.toList ++ st) S2 Q) else False := zg_88_1
theorem zh_88_4 : Zgo d 88 4 (L) (st) (I, R, al) Q ↔ Zgo d 88 6 (L) (zi 112 :: st) (I, R, al) Q := zg_88_4
theorem zh_88_6 {x y : Int} : Zgo d 88 6 (L) (zi y :: zi x :: st) (I, R, al) Q ↔ Zgo d 88 7 (L) (zi (x - y) :: st) (I, R, al) Q := zg_88_6
theorem zh_88_7 {x : Int} : Zgo d 88 7 (a0 :: b0 :: L) (zi x :: st) (I, R, al) Q ↔ Zgo d 88 8 (zkl a0 :: some (zi x) :: L) (st) (I, R, al) Q := zg_88_7
theorem zh_88_8 {x : Option (Nat × Nat)} : Zgo d 88 8 (some (zq x) :: L) (st) (I, R, al) Q ↔ Zgo d 88 9 (some (zq x) :: L) (zq x :: st) (I, R, al) Q := zg_88_8
theorem zh_88_9 {x : Option (Nat × Nat)} : Zgo d 88 9 (some (zq x) :: L) (st) (I, R, al) Q ↔ Zgo d 88 10 (some (zq x) :: L) (zq x :: st) (I, R, al) Q := zg_88_9
theorem zh_88_10 {o : Nat} : Zgo d 88 10 (L) (zq (some (11, o)) :: st) (I, R, al) Q ↔ Zgo d 88 13 (L) (zi (I 11 o 4) :: st) (I, R, al) Q := zg_88_10
theorem zh_88_13 {x : Int} : Zgo d 88 13 (L) (zi x :: st) (I, R, al) Q ↔ if zw x = zw 0 then Zgo d 88 16 (L) (st) (I, R, al) Q else Zgo d 88 25 (L) (st) (I, R, al) Q := zg_88_13
theorem zh_88_16 {x : Int} : Zgo d 88 16 (a0 :: some (zi x) :: L) (st) (I, R, al) Q ↔ Zgo d 88 17 (a0 :: some (zi x) :: L) (zi x :: st) (I, R, al) Q := zg_88_16
theorem zh_88_17 {x : Int} : Zgo d 88 17 (L) (zi x :: st) (I, R, al) Q ↔ if zw x < zw 0 then Zgo d 88 25 (L) (st) (I, R, al) Q else Zgo d 88 20 (L) (st) (I, R, al) Q := zg_88_17
theorem zh_88_20 {x : Int} : Zgo d 88 20 (a0 :: some (zi x) :: L) (st) (I, R, al) Q ↔ Zgo d 88 21 (a0 :: some (zi x) :: L) (zi x :: st) (I, R, al) Q := zg_88_20
theorem zh_88_21 : Zgo d 88 21 (L) (st) (I, R, al) Q ↔ Zgo d 88 22 (L) (zi 2 :: st) (I, R, al) Q := zg_88_21
theorem zh_88_22 {x y : Int} : Zgo d 88 22 (L) (zi y :: zi x :: st) (I, R, al) Q ↔ if zw y < zw x then Zgo d 88 25 (L) (st) (I, R, al) Q else Zgo d 88 29 (L) (st) (I, R, al) Q := zg_88_22
theorem zh_88_25 : Zgo d 88 25 (L) (st) (I, R, al) Q ↔ Zgo d 88 26 (L) (zi 1 :: st) (I, R, al) Q := zg_88_25
theorem zh_88_26 : Zgo d 88 26 (L) (st) (I, R, al) Q ↔ Zgo d 88 30 (L) (st) (I, R, al) Q := zg_88_26
theorem zh_88_29 : Zgo d 88 29 (L) (st) (I, R, al) Q ↔ Zgo d 88 30 (L) (zi 0 :: st) (I, R, al) Q := zg_88_29
theorem zh_88_30 {o : Nat} {v : Int} : Zgo d 88 30 (L) (zi v :: zq (some (11, o)) :: st) (I, R, al) Q ↔ zok 1 v False (Zgo d 88 33 (L) (st) (zsI I 11 o 4 v, R, al) Q) := zg_88_30
theorem zh_88_33 {x : Option (Nat × Nat)} : Zgo d 88 33 (some (zq x) :: L) (st) (I, R, al) Q ↔ Zgo d 88 34 (some (zq x) :: L) (zq x :: st) (I, R, al) Q := zg_88_33
theorem zh_88_34 {x : Int} : Zgo d 88 34 (L) (zi x :: st) (I, R, al) Q ↔ Zgo d 88 35 (L) (zi x :: zi x :: st) (I, R, al) Q := zg_88_34
theorem zh_88_34q {u : Option (Nat × Nat)} : Zgo d 88 34 (L) (zq u :: st) (I, R, al) Q ↔ Zgo d 88 35 (L) (zq u :: zq u :: st) (I, R, al) Q := zg_88_34
theorem zh_88_35 {o : Nat} : Zgo d 88 35 (L) (zq (some (11, o)) :: st) (I, R, al) Q ↔ Zgo d 88 38 (L) (zi (I 11 o 3) :: st) (I, R, al) Q := zg_88_35
theorem zh_88_38 : Zgo d 88 38 (L) (st) (I, R, al) Q ↔ Zgo d 88 39 (L) (zi 1 :: st) (I, R, al) Q := zg_88_38
theorem zh_88_39 {x y : Int} : Zgo d 88 39 (L) (zi y :: zi x :: st) (I, R, al) Q ↔ Zgo d 88 40 (L) (zi (x + y) :: st) (I, R, al) Q := zg_88_39
theorem zh_88_40 {o : Nat} {v : Int} : Zgo d 88 40 (L) (zi v :: zq (some (11, o)) :: st) (I, R, al) Q ↔ Zgo d 88 43 (L) (st) (zsI I 11 o 3 v, R, al) Q := zg_88_40
theorem zh_88_43 {x : Int} : Zgo d 88 43 (a0 :: some (zi x) :: L) (st) (I, R, al) Q ↔ Zgo d 88 44 (a0 :: some (zi x) :: L) (zi x :: st) (I, R, al) Q := zg_88_43
theorem zh_88_44 {x : Int} : Zgo d 88 44 (L) (zi x :: []) (I, R, al) Q ↔ Q (some (zi x)) (I, R, al) := zg_88_44
theorem zh_89_0 {x : Int} : Zgo d 89 0 (some (zi x) :: L) (st) (I, R, al) Q ↔ Zgo d 89 1 (some (zi x) :: L) (zi x :: st) (I, R, al) Q := zg_89_0
theorem zh_89_1 : Zgo d 89 1 (L) (st) (I, R, al) Q ↔ Zgo d 89 3 (L) (zi 48 :: st) (I, R, al) Q := zg_89_1
theorem zh_89_3 {x y : Int} : Zgo d 89 3 (L) (zi y :: zi x :: st) (I, R, al) Q ↔ if zw x < zw y then Zgo d 89 16 (L) (st) (I, R, al) Q else Zgo d 89 6 (L) (st) (I, R, al) Q := zg_89_3
theorem zh_89_6 {x : Int} : Zgo d 89 6 (some (zi x) :: L) (st) (I, R, al) Q ↔ Zgo d 89 7 (some (zi x) :: L) (zi x :: st) (I, R, al) Q := zg_89_6
theorem zh_89_7 : Zgo d 89 7 (L) (st) (I, R, al) Q ↔ Zgo d 89 9 (L) (zi 57 :: st) (I, R, al) Q := zg_89_7
theorem zh_89_9 {x y : Int} : Zgo d 89 9 (L) (zi y :: zi x :: st) (I, R, al) Q ↔ if zw y < zw x then Zgo d 89 16 (L) (st) (I, R, al) Q else Zgo d 89 12 (L) (st) (I, R, al) Q := zg_89_9
theorem zh_89_12 : Zgo d 89 12 (L) (st) (I, R, al) Q ↔ Zgo d 89 13 (L) (zi 1 :: st) (I, R, al) Q := zg_89_12
theorem zh_89_13 : Zgo d 89 13 (L) (st) (I, R, al) Q ↔ Zgo d 89 17 (L) (st) (I, R, al) Q := zg_89_13
theorem zh_89_16 : Zgo d 89 16 (L) (st) (I, R, al) Q ↔ Zgo d 89 17 (L) (zi 0 :: st) (I, R, al) Q := zg_89_16
theorem zh_89_17 {x : Int} : Zgo d 89 17 (L) (zi x :: []) (I, R, al) Q ↔ zok 1 x False (Q (some (zi x)) (I, R, al)) := zg_89_17
theorem zh_90_0 {x : Option (Nat × Nat)} : Zgo d 90 0 (some (zq x) :: L) (st) (I, R, al) Q ↔ Zgo d 90 1 (some (zq x) :: L) (zq x :: st) (I, R, al) Q := zg_90_0
theorem zh_90_1 {o : Nat} : Zgo d 90 1 (L) (zq (some (11, o)) :: st) (I, R, al) Q ↔ if zwt st ≤ 8 then zCp d 87 [zq (some (11, o))] (I, R, al) (fun r S2 => Zgo d 90 4 L (r.toList ++ st) S2 Q) else False := zg_90_1
theorem zh_90_4 : Zgo d 90 4 (L) (st) (I, R, al) Q ↔ Zgo d 90 6 (L) (zi 48 :: st) (I, R, al) Q := zg_90_4
theorem zh_90_6 {x y : Int} : Zgo d 90 6 (L) (zi y :: zi x :: st) (I, R, al) Q ↔ Zgo d 90 7 (L) (zi (x - y) :: st) (I, R, al) Q := zg_90_6
theorem zh_90_7 {x : Int} : Zgo d 90 7 (a0 :: b0 :: L) (zi x :: st) (I, R, al) Q ↔ Zgo d 90 8 (zkl a0 :: some (zi x) :: L) (st) (I, R, al) Q := zg_90_7
theorem zh_90_8 {x : Option (Nat × Nat)} : Zgo d 90 8 (some (zq x) :: L) (st) (I, R, al) Q ↔ Zgo d 90 9 (some (zq x) :: L) (zq x :: st) (I, R, al) Q := zg_90_8
theorem zh_90_9 {x : Option (Nat × Nat)} : Zgo d 90 9 (some (zq x) :: L) (st) (I, R, al) Q ↔ Zgo d 90 10 (some (zq x) :: L) (zq x :: st) (I, R, al) Q := zg_90_9
theorem zh_90_10 {o : Nat} : Zgo d 90 10 (L) (zq (some (11, o)) :: st) (I, R, al) Q ↔ Zgo d 90 13 (L) (zi (I 11 o 4) :: st) (I, R, al) Q := zg_90_10
theorem zh_90_13 {x : Int} : Zgo d 90 13 (L) (zi x :: st) (I, R, al) Q ↔ if zw x = zw 0 then Zgo d 90 16 (L) (st) (I, R, al) Q else Zgo d 90 25 (L) (st) (I, R, al) Q := zg_90_13
theorem zh_90_16 {x : Int} : Zgo d 90 16 (a0 :: some (zi x) :: L) (st) (I, R, al) Q ↔ Zgo d 90 17 (a0 :: some (zi x) :: L) (zi x :: st) (I, R, al) Q := zg_90_16
theorem zh_90_17 {x : Int} : Zgo d 90 17 (L) (zi x :: st) (I, R, al) Q ↔ if zw x < zw 0 then Zgo d 90 25 (L) (st) (I, R, al) Q else Zgo d 90 20 (L) (st) (I, R, al) Q := zg_90_17
theorem zh_90_20 {x : Int} : Zgo d 90 20 (a0 :: some (zi x) :: L) (st) (I, R, al) Q ↔ Zgo d 90 21 (a0 :: some (zi x) :: L) (zi x :: st) (I, R, al) Q := zg_90_20
theorem zh_90_21 : Zgo d 90 21 (L) (st) (I, R, al) Q ↔ Zgo d 90 22 (L) (zi 4 :: st) (I, R, al) Q := zg_90_21
theorem zh_90_22 {x y : Int} : Zgo d 90 22 (L) (zi y :: zi x :: st) (I, R, al) Q ↔ if zw y < zw x then Zgo d 90 25 (L) (st) (I, R, al) Q else Zgo d 90 29 (L) (st) (I, R, al) Q := zg_90_22
theorem zh_90_25 : Zgo d 90 25 (L) (st) (I, R, al) Q ↔ Zgo d 90 26 (L) (zi 1 :: st) (I, R, al) Q := zg_90_25
theorem zh_90_26 : Zgo d 90 26 (L) (st) (I, R, al) Q ↔ Zgo d 90 30 (L) (st) (I, R, al) Q := zg_90_26
theorem zh_90_29 : Zgo d 90 29 (L) (st) (I, R, al) Q ↔ Zgo d 90 30 (L) (zi 0 :: st) (I, R, al) Q := zg_90_29
theorem zh_90_30 {o : Nat} {v : Int} : Zgo d 90 30 (L) (zi v :: zq (some (11, o)) :: st) (I, R, al) Q ↔ zok 1 v False (Zgo d 90 33 (L) (st) (zsI I 11 o 4 v, R, al) Q) := zg_90_30
theorem zh_90_33 {x : Option (Nat × Nat)} : Zgo d 90 33 (some (zq x) :: L) (st) (I, R, al) Q ↔ Zgo d 90 34 (some (zq x) :: L) (zq x :: st) (I, R, al) Q := zg_90_33
theorem zh_90_34 {x : Int} : Zgo d 90 34 (L) (zi x :: st) (I, R, al) Q ↔ Zgo d 90 35 (L) (zi x :: zi x :: st) (I, R, al) Q := zg_90_34
theorem zh_90_34q {u : Option (Nat × Nat)} : Zgo d 90 34 (L) (zq u :: st) (I, R, al) Q ↔ Zgo d 90 35 (L) (zq u :: zq u :: st) (I, R, al) Q := zg_90_34
theorem zh_90_35 {o : Nat} : Zgo d 90 35 (L) (zq (some (11, o)) :: st) (I, R, al) Q ↔ Zgo d 90 38 (L) (zi (I 11 o 3) :: st) (I, R, al) Q := zg_90_35
theorem zh_90_38 : Zgo d 90 38 (L) (st) (I, R, al) Q ↔ Zgo d 90 39 (L) (zi 1 :: st) (I, R, al) Q := zg_90_38
theorem zh_90_39 {x y : Int} : Zgo d 90 39 (L) (zi y :: zi x :: st) (I, R, al) Q ↔ Zgo d 90 40 (L) (zi (x + y) :: st) (I, R, al) Q := zg_90_39
theorem zh_90_40 {o : Nat} {v : Int} : Zgo d 90 40 (L) (zi v :: zq (some (11, o)) :: st) (I, R, al) Q ↔ Zgo d 90 43 (L) (st) (zsI I 11 o 3 v, R, al) Q := zg_90_40
theorem zh_90_43 {x : Int} : Zgo d 90 43 (a0 :: some (zi x) :: L) (st) (I, R, al) Q ↔ Zgo d 90 44 (a0 :: some (zi x) :: L) (zi x :: st) (I, R, al) Q := zg_90_43
theorem zh_90_44 {x : Int} : Zgo d 90 44 (L) (zi x :: []) (I, R, al) Q ↔ Q (some (zi x)) (I, R, al) := zg_90_44
theorem zh_91_0 {x : Option (Nat × Nat)} : Zgo d 91 0 (some (zq x) :: L) (st) (I, R, al) Q ↔ Zgo d 91 1 (some (zq x) :: L) (zq x :: st) (I, R, al) Q := zg_91_0
theorem zh_91_1 : Zgo d 91 1 (L) (st) (I, R, al) Q ↔ Zgo d 91 2 (L) (zi (-1) :: st) (I, R, al) Q := zg_91_1
theorem zh_91_2 : Zgo d 91 2 (L) (st) (I, R, al) Q ↔ Zgo d 91 3 (L) (zi 0 :: st) (I, R, al) Q := zg_91_2
theorem zh_91_3 {v1 v2 : zV} {o : Nat} : Zgo d 91 3 (L) (v2 :: v1 :: zq (some (11, o)) :: st) (I, R, al) Q ↔ if zwt st ≤ 8 then zCp d 92 [zq (some (11, o)), v1, v2] (I, R, al) (fun r S2 => Zgo d 91 6 L (r.toList ++ st) S2 Q) else False := zg_91_3
theorem zh_91_6 {x : Int} : Zgo d 91 6 (a0 :: b0 :: L) (zi x :: st) (I, R, al) Q ↔ Zgo d 91 7 (zkl a0 :: some (zi x) :: L) (st) (I, R, al) Q := zg_91_6
theorem zh_91_7 : Zgo d 91 7 (L) (st) (I, R, al) Q ↔ Zgo d 91 8 (L) (zi 1 :: st) (I, R, al) Q := zg_91_7
theorem zh_91_8 {x : Int} : Zgo d 91 8 (a0 :: a1 :: b0 :: L) (zi x :: st) (I, R, al) Q ↔ Zgo d 91 9 (a0 :: zkl a1 :: some (zi x) :: L) (st) (I, R, al) Q := zg_91_8
theorem zh_91_9 {x : Option (Nat × Nat)} : Zgo d 91 9 (some (zq x) :: L) (st) (I, R, al) Q ↔ Zgo d 91 10 (some (zq x) :: L) (zq x :: st) (I, R, al) Q := zg_91_9
theorem zh_91_10 {o : Nat} : Zgo d 91 10 (L) (zq (some (11, o)) :: st) (I, R, al) Q ↔ Zgo d 91 13 (L) (zq (R 11 o 31) :: st) (I, R, al) Q := zg_91_10
theorem zh_91_13 : Zgo d 91 13 (L) (st) (I, R, al) Q ↔ Zgo d 91 14 (L) (zi 1 :: st) (I, R, al) Q := zg_91_13
theorem zh_91_14 {x : Int} : Zgo d 91 14 (a0 :: some (zi x) :: L) (st) (I, R, al) Q ↔ Zgo d 91 15 (a0 :: some (zi x) :: L) (zi x :: st) (I, R, al) Q := zg_91_14
theorem zh_91_15 {v j : Int} {c o : Nat} : Zgo d 91 15 (L) (zi v :: zi j :: zq (some (c, o)) :: st) (I, R, al) Q ↔ zal (zArr c) 0 j (fun x => Zgo d 91 16 (L) (st) (zsI I c o x v, R, al) Q) := zg_91_15
theorem zh_91_16 {x : Int} : Zgo d 91 16 (a0 :: a1 :: some (zi x) :: L) (st) (I, R, al) Q ↔ Zgo d 91 17 (a0 :: a1 :: some (zi x) :: L) (zi x :: st) (I, R, al) Q := zg_91_16
theorem zh_91_17 {x : Int} : Zgo d 91 17 (L) (zi x :: st) (I, R, al) Q ↔ if zw 0 < zw x then Zgo d 91 20 (L) (st) (I, R, al) Q else Zgo d 91 162 (L) (st) (I, R, al) Q := zg_91_17
theorem zh_91_20 {x : Option (Nat × Nat)} : Zgo d 91 20 (some (zq x) :: L) (st) (I, R, al) Q ↔ Zgo d 91 21 (some (zq x) :: L) (zq x :: st) (I, R, al) Q := zg_91_20
theorem zh_91_21 {o : Nat} : Zgo d 91 21 (L) (zq (some (11, o)) :: st) (I, R, al) Q ↔ Zgo d 91 24 (L) (zi (I 11 o 4) :: st) (I, R, al) Q := zg_91_21
theorem zh_91_24 {x : Int} : Zgo d 91 24 (L) (zi x :: st) (I, R, al) Q ↔ if zw x = zw 0 then Zgo d 91 27 (L) (st) (I, R, al) Q else Zgo d 91 162 (L) (st) (I, R, al) Q := zg_91_24
theorem zh_91_27 {x : Option (Nat × Nat)} : Zgo d 91 27 (some (zq x) :: L) (st) (I, R, al) Q ↔ Zgo d 91 28 (some (zq x) :: L) (zq x :: st) (I, R, al) Q := zg_91_27
theorem zh_91_28 {o : Nat} : Zgo d 91 28 (L) (zq (some (11, o)) :: st) (I, R, al) Q ↔ Zgo d 91 31 (L) (zq (R 11 o 31) :: st) (I, R, al) Q := zg_91_28
theorem zh_91_31 {x : Int} : Zgo d 91 31 (a0 :: a1 :: some (zi x) :: L) (st) (I, R, al) Q ↔ Zgo d 91 32 (a0 :: a1 :: some (zi x) :: L) (zi x :: st) (I, R, al) Q := zg_91_31
theorem zh_91_32 {j : Int} {c o : Nat} : Zgo d 91 32 (L) (zi j :: zq (some (c, o)) :: st) (I, R, al) Q ↔ zal (zlen (I, R, al) c) 0 j (fun x => Zgo d 91 33 (L) (zi (I c o x) :: st) (I, R, al) Q) := zg_91_32
theorem zh_91_33 {x : Int} : Zgo d 91 33 (a0 :: a1 :: a2 :: b0 :: L) (zi x :: st) (I, R, al) Q ↔ Zgo d 91 34 (a0 :: a1 :: zkl a2 :: some (zi x) :: L) (st) (I, R, al) Q := zg_91_33
theorem zh_91_34 {x : Option (Nat × Nat)} : Zgo d 91 34 (some (zq x) :: L) (st) (I, R, al) Q ↔ Zgo d 91 35 (some (zq x) :: L) (zq x :: st) (I, R, al) Q := zg_91_34
theorem zh_91_35 {o : Nat} : Zgo d 91 35 (L) (zq (some (11, o)) :: st) (I, R, al) Q ↔ if zwt st ≤ 8 then zCp d 87 [zq (some (11, o))] (I, R, al) (fun r S2 => Zgo d 91 38 L (r.toList ++ st) S2 Q) else False := zg_91_35
theorem zh_91_38 {x : Int} : Zgo d 91 38 (a0 :: a1 :: a2 :: a3 :: b0 :: L) (zi x :: st) (I, R, al) Q ↔ Zgo d 91 40 (a0 :: a1 :: a2 :: zkl a3 :: some (zi x) :: L) (st) (I, R, al) Q := zg_91_38
theorem zh_91_40 {x : Option (Nat × Nat)} : Zgo d 91 40 (some (zq x) :: L) (st) (I, R, al) Q ↔ Zgo d 91 41 (some (zq x) :: L) (zq x :: st) (I, R, al) Q := zg_91_40
theorem zh_91_41 {o : Nat} : Zgo d 91 41 (L) (zq (some (11, o)) :: st) (I, R, al) Q ↔ Zgo d 91 44 (L) (zq (R 11 o 25) :: st) (I, R, al) Q := zg_91_41
theorem zh_91_44 {x : Int} : Zgo d 91 44 (a0 :: a1 :: a2 :: some (zi x) :: L) (st) (I, R, al) Q ↔ Zgo d 91 45 (a0 :: a1 :: a2 :: some (zi x) :: L) (zi x :: st) (I, R, al) Q := zg_91_44
theorem zh_91_45 {j : Int} {c o : Nat} : Zgo d 91 45 (L) (zi j :: zq (some (c, o)) :: st) (I, R, al) Q ↔ zal (zlen (I, R, al) c) 0 j (fun x => Zgo d 91 46 (L) (zi (I c o x) :: st) (I, R, al) Q) := zg_91_45
theorem zh_91_46 {x : Int} : Zgo d 91 46 (a0 :: a1 :: a2 :: a3 :: a4 :: b0 :: L) (zi x :: st) (I, R, al) Q ↔ Zgo d 91 48 (a0 :: a1 :: a2 :: a3 :: zkl a4 :: some (zi x) :: L) (st) (I, R, al) Q := zg_91_46
theorem zh_91_48 : Zgo d 91 48 (L) (st) (I, R, al) Q ↔ Zgo d 91 49 (L) (zi (-1) :: st) (I, R, al) Q := zg_91_48
theorem zh_91_49 {x : Int} : Zgo d 91 49 (a0 :: a1 :: a2 :: a3 :: a4 :: a5 :: b0 :: L) (zi x :: st) (I, R, al) Q ↔ Zgo d 91 51 (a0 :: a1 :: a2 :: a3 :: a4 :: zkl a5 :: some (zi x) :: L) (st) (I, R, al) Q := zg_91_49
theorem zh_91_51 {x : Option (Nat × Nat)} : Zgo d 91 51 (some (zq x) :: L) (st) (I, R, al) Q ↔ Zgo d 91 52 (some (zq x) :: L) (zq x :: st) (I, R, al) Q := zg_91_51
theorem zh_91_52 {x : Int} : Zgo d 91 52 (L) (zi x :: st) (I, R, al) Q ↔ Zgo d 91 53 (L) (zi x :: zi x :: st) (I, R, al) Q := zg_91_52
theorem zh_91_52q {u : Option (Nat × Nat)} : Zgo d 91 52 (L) (zq u :: st) (I, R, al) Q ↔ Zgo d 91 53 (L) (zq u :: zq u :: st) (I, R, al) Q := zg_91_52
theorem zh_91_53 {o : Nat} : Zgo d 91 53 (L) (zq (some (11, o)) :: st) (I, R, al) Q ↔ Zgo d 91 56 (L) (zi (I 11 o 3) :: st) (I, R, al) Q := zg_91_53
theorem zh_91_56 : Zgo d 91 56 (L) (st) (I, R, al) Q ↔ Zgo d 91 57 (L) (zi 1 :: st) (I, R, al) Q := zg_91_56
theorem zh_91_57 {x y : Int} : Zgo d 91 57 (L) (zi y :: zi x :: st) (I, R, al) Q ↔ Zgo d 91 58 (L) (zi (x + y) :: st) (I, R, al) Q := zg_91_57
theorem zh_91_58 {o : Nat} {v : Int} : Zgo d 91 58 (L) (zi v :: zq (some (11, o)) :: st) (I, R, al) Q ↔ Zgo d 91 61 (L) (st) (zsI I 11 o 3 v, R, al) Q := zg_91_58
theorem zh_91_61 {x : Int} : Zgo d 91 61 (a0 :: a1 :: a2 :: a3 :: some (zi x) :: L) (st) (I, R, al) Q ↔ Zgo d 91 63 (a0 :: a1 :: a2 :: a3 :: some (zi x) :: L) (zi x :: st) (I, R, al) Q := zg_91_61
theorem zh_91_63 : Zgo d 91 63 (L) (st) (I, R, al) Q ↔ Zgo d 91 65 (L) (zi 125 :: st) (I, R, al) Q := zg_91_63
theorem zh_91_65 {x y : Int} : Zgo d 91 65 (L) (zi y :: zi x :: st) (I, R, al) Q ↔ if zw x = zw y then Zgo d 91 68 (L) (st) (I, R, al) Q else Zgo d 91 97 (L) (st) (I, R, al) Q := zg_91_65
theorem zh_91_68 {x : Int} : Zgo d 91 68 (a0 :: a1 :: some (zi x) :: L) (st) (I, R, al) Q ↔ Zgo d 91 71 (a0 :: zkl a1 :: some (zi (x + (-1))) :: L) (st) (I, R, al) Q := zg_91_68
theorem zh_91_71 {x : Int} : Zgo d 91 71 (a0 :: a1 :: a2 :: a3 :: a4 :: some (zi x) :: L) (st) (I, R, al) Q ↔ Zgo d 91 73 (a0 :: a1 :: a2 :: a3 :: a4 :: some (zi x) :: L) (zi x :: st) (I, R, al) Q := zg_91_71
theorem zh_91_73 {x : Int} : Zgo d 91 73 (L) (zi x :: st) (I, R, al) Q ↔ if zw x < zw 0 then Zgo d 91 76 (L) (st) (I, R, al) Q else Zgo d 91 80 (L) (st) (I, R, al) Q := zg_91_73
theorem zh_91_76 : Zgo d 91 76 (L) (st) (I, R, al) Q ↔ Zgo d 91 77 (L) (zi (-1) :: st) (I, R, al) Q := zg_91_76
theorem zh_91_77 : Zgo d 91 77 (L) (st) (I, R, al) Q ↔ Zgo d 91 92 (L) (st) (I, R, al) Q := zg_91_77
theorem zh_91_80 {x : Option (Nat × Nat)} : Zgo d 91 80 (some (zq x) :: L) (st) (I, R, al) Q ↔ Zgo d 91 81 (some (zq x) :: L) (zq x :: st) (I, R, al) Q := zg_91_80
theorem zh_91_81 {x : Int} : Zgo d 91 81 (a0 :: a1 :: a2 :: a3 :: a4 :: some (zi x) :: L) (st) (I, R, al) Q ↔ Zgo d 91 83 (a0 :: a1 :: a2 :: a3 :: a4 :: some (zi x) :: L) (zi x :: st) (I, R, al) Q := zg_91_81
theorem zh_91_83 {x : Option (Nat × Nat)} : Zgo d 91 83 (some (zq x) :: L) (st) (I, R, al) Q ↔ Zgo d 91 84 (some (zq x) :: L) (zq x :: st) (I, R, al) Q := zg_91_83
theorem zh_91_84 {o : Nat} : Zgo d 91 84 (L) (zq (some (11, o)) :: st) (I, R, al) Q ↔ Zgo d 91 87 (L) (zq (R 11 o 26) :: st) (I, R, al) Q := zg_91_84
theorem zh_91_87 {x : Int} : Zgo d 91 87 (a0 :: a1 :: a2 :: some (zi x) :: L) (st) (I, R, al) Q ↔ Zgo d 91 88 (a0 :: a1 :: a2 :: some (zi x) :: L) (zi x :: st) (I, R, al) Q := zg_91_87
theorem zh_91_88 {j : Int} {c o : Nat} : Zgo d 91 88 (L) (zi j :: zq (some (c, o)) :: st) (I, R, al) Q ↔ zal (zlen (I, R, al) c) 0 j (fun x => Zgo d 91 89 (L) (zi (I c o x) :: st) (I, R, al) Q) := zg_91_88
theorem zh_91_89 {v1 v2 : zV} {o : Nat} : Zgo d 91 89 (L) (v2 :: v1 :: zq (some (11, o)) :: st) (I, R, al) Q ↔ if zwt st ≤ 8 then zCp d 94 [zq (some (11, o)), v1, v2] (I, R, al) (fun r S2 => Zgo d 91 92 L (r.toList ++ st) S2 Q) else False := zg_91_89
theorem zh_91_92 {x : Int} : Zgo d 91 92 (a0 :: a1 :: a2 :: a3 :: a4 :: a5 :: b0 :: L) (zi x :: st) (I, R, al) Q ↔ Zgo d 91 94 (a0 :: a1 :: a2 :: a3 :: a4 :: zkl a5 :: some (zi x) :: L) (st) (I, R, al) Q := zg_91_92
theorem zh_91_94 : Zgo d 91 94 (L) (st) (I, R, al) Q ↔ Zgo d 91 116 (L) (st) (I, R, al) Q := zg_91_94
theorem zh_91_97 {x : Option (Nat × Nat)} : Zgo d 91 97 (some (zq x) :: L) (st) (I, R, al) Q ↔ Zgo d 91 98 (some (zq x) :: L) (zq x :: st) (I, R, al) Q := zg_91_97
theorem zh_91_98 {x : Int} : Zgo d 91 98 (a0 :: a1 :: a2 :: some (zi x) :: L) (st) (I, R, al) Q ↔ Zgo d 91 99 (a0 :: a1 :: a2 :: some (zi x) :: L) (zi x :: st) (I, R, al) Q := zg_91_98
theorem zh_91_99 {x : Int} : Zgo d 91 99 (a0 :: a1 :: a2 :: a3 :: some (zi x) :: L) (st) (I, R, al) Q ↔ Zgo d 91 101 (a0 :: a1 :: a2 :: a3 :: some (zi x) :: L) (zi x :: st) (I, R, al) Q := zg_91_99
theorem zh_91_101 {v1 v2 : zV} {o : Nat} : Zgo d 91 101 (L) (v2 :: v1 :: zq (some (11, o)) :: st) (I, R, al) Q ↔ if zwt st ≤ 8 then zCp d 96 [zq (some (11, o)), v1, v2] (I, R, al) (fun r S2 => Zgo d 91 104 L (r.toList ++ st) S2 Q) else False := zg_91_101
theorem zh_91_104 {x : Int} : Zgo d 91 104 (a0 :: a1 :: a2 :: a3 :: a4 :: b0 :: L) (zi x :: st) (I, R, al) Q ↔ Zgo d 91 106 (a0 :: a1 :: a2 :: a3 :: zkl a4 :: some (zi x) :: L) (st) (I, R, al) Q := zg_91_104
theorem zh_91_106 {x : Option (Nat × Nat)} : Zgo d 91 106 (some (zq x) :: L) (st) (I, R, al) Q ↔ Zgo d 91 107 (some (zq x) :: L) (zq x :: st) (I, R, al) Q := zg_91_106
theorem zh_91_107 {x : Int} : Zgo d 91 107 (a0 :: a1 :: a2 :: a3 :: a4 :: some (zi x) :: L) (st) (I, R, al) Q ↔ Zgo d 91 109 (a0 :: a1 :: a2 :: a3 :: a4 :: some (zi x) :: L) (zi x :: st) (I, R, al) Q := zg_91_107
theorem zh_91_109 {x : Int} : Zgo d 91 109 (a0 :: a1 :: a2 :: a3 :: some (zi x) :: L) (st) (I, R, al) Q ↔ Zgo d 91 111 (a0 :: a1 :: a2 :: a3 :: some (zi x) :: L) (zi x :: st) (I, R, al) Q := zg_91_109
theorem zh_91_111 {v1 v2 : zV} {o : Nat} : Zgo d 91 111 (L) (v2 :: v1 :: zq (some (11, o)) :: st) (I, R, al) Q ↔ if zwt st ≤ 8 then zCp d 97 [zq (some (11, o)), v1, v2] (I, R, al) (fun r S2 => Zgo d 91 114 L (r.toList ++ st) S2 Q) else False := zg_91_111
theorem zh_91_114 {x : Int} : Zgo d 91 114 (a0 :: a1 :: a2 :: a3 :: a4 :: a5 :: b0 :: L) (zi x :: st) (I, R, al) Q ↔ Zgo d 91 116 (a0 :: a1 :: a2 :: a3 :: a4 :: zkl a5 :: some (zi x) :: L) (st) (I, R, al) Q := zg_91_114
theorem zh_91_116 {x : Int} : Zgo d 91 116 (a0 :: a1 :: a2 :: a3 :: a4 :: a5 :: some (zi x) :: L) (st) (I, R, al) Q ↔ Zgo d 91 118 (a0 :: a1 :: a2 :: a3 :: a4 :: a5 :: some (zi x) :: L) (zi x :: st) (I, R, al) Q := zg_91_116
theorem zh_91_118 {x : Int} : Zgo d 91 118 (L) (zi x :: st) (I, R, al) Q ↔ if zw x < zw 0 then Zgo d 91 159 (L) (st) (I, R, al) Q else Zgo d 91 121 (L) (st) (I, R, al) Q := zg_91_118
theorem zh_91_121 {x : Option (Nat × Nat)} : Zgo d 91 121 (some (zq x) :: L) (st) (I, R, al) Q ↔ Zgo d 91 122 (some (zq x) :: L) (zq x :: st) (I, R, al) Q := zg_91_121
theorem zh_91_122 {o : Nat} : Zgo d 91 122 (L) (zq (some (11, o)) :: st) (I, R, al) Q ↔ Zgo d 91 125 (L) (zi (I 11 o 4) :: st) (I, R, al) Q := zg_91_122
theorem zh_91_125 {x : Int} : Zgo d 91 125 (L) (zi x :: st) (I, R, al) Q ↔ if zw x = zw 0 then Zgo d 91 128 (L) (st) (I, R, al) Q else Zgo d 91 159 (L) (st) (I, R, al) Q := zg_91_125
theorem zh_91_128 {x : Int} : Zgo d 91 128 (a0 :: a1 :: some (zi x) :: L) (st) (I, R, al) Q ↔ Zgo d 91 131 (a0 :: zkl a1 :: some (zi (x + 1)) :: L) (st) (I, R, al) Q := zg_91_128
theorem zh_91_131 {x : Option (Nat × Nat)} : Zgo d 91 131 (some (zq x) :: L) (st) (I, R, al) Q ↔ Zgo d 91 132 (some (zq x) :: L) (zq x :: st) (I, R, al) Q := zg_91_131
theorem zh_91_132 {x : Int} : Zgo d 91 132 (a0 :: a1 :: some (zi x) :: L) (st) (I, R, al) Q ↔ Zgo d 91 133 (a0 :: a1 :: some (zi x) :: L) (zi x :: st) (I, R, al) Q := zg_91_132
theorem zh_91_133 : Zgo d 91 133 (L) (st) (I, R, al) Q ↔ Zgo d 91 134 (L) (zi 4 :: st) (I, R, al) Q := zg_91_133
theorem zh_91_134 {x y : Int} : Zgo d 91 134 (L) (zi y :: zi x :: st) (I, R, al) Q ↔ if zw y < zw x then Zgo d 91 137 (L) (st) (I, R, al) Q else Zgo d 91 141 (L) (st) (I, R, al) Q := zg_91_134
theorem zh_91_137 : Zgo d 91 137 (L) (st) (I, R, al) Q ↔ Zgo d 91 138 (L) (zi 1 :: st) (I, R, al) Q := zg_91_137
theorem zh_91_138 : Zgo d 91 138 (L) (st) (I, R, al) Q ↔ Zgo d 91 142 (L) (st) (I, R, al) Q := zg_91_138
theorem zh_91_141 : Zgo d 91 141 (L) (st) (I, R, al) Q ↔ Zgo d 91 142 (L) (zi 0 :: st) (I, R, al) Q := zg_91_141
theorem zh_91_142 {o : Nat} {v : Int} : Zgo d 91 142 (L) (zi v :: zq (some (11, o)) :: st) (I, R, al) Q ↔ zok 1 v False (Zgo d 91 145 (L) (st) (zsI I 11 o 4 v, R, al) Q) := zg_91_142
theorem zh_91_145 {x : Option (Nat × Nat)} : Zgo d 91 145 (some (zq x) :: L) (st) (I, R, al) Q ↔ Zgo d 91 146 (some (zq x) :: L) (zq x :: st) (I, R, al) Q := zg_91_145
theorem zh_91_146 {o : Nat} : Zgo d 91 146 (L) (zq (some (11, o)) :: st) (I, R, al) Q ↔ Zgo d 91 149 (L) (zq (R 11 o 31) :: st) (I, R, al) Q := zg_91_146
theorem zh_91_149 {x : Int} : Zgo d 91 149 (a0 :: a1 :: some (zi x) :: L) (st) (I, R, al) Q ↔ Zgo d 91 150 (a0 :: a1 :: some (zi x) :: L) (zi x :: st) (I, R, al) Q := zg_91_149
theorem zh_91_150 {x : Option (Nat × Nat)} : Zgo d 91 150 (some (zq x) :: L) (st) (I, R, al) Q ↔ Zgo d 91 151 (some (zq x) :: L) (zq x :: st) (I, R, al) Q := zg_91_150
theorem zh_91_151 {x : Int} : Zgo d 91 151 (a0 :: a1 :: a2 :: a3 :: a4 :: some (zi x) :: L) (st) (I, R, al) Q ↔ Zgo d 91 153 (a0 :: a1 :: a2 :: a3 :: a4 :: some (zi x) :: L) (zi x :: st) (I, R, al) Q := zg_91_151
theorem zh_91_153 {x : Int} : Zgo d 91 153 (a0 :: a1 :: a2 :: a3 :: a4 :: a5 :: some (zi x) :: L) (st) (I, R, al) Q ↔ Zgo d 91 155 (a0 :: a1 :: a2 :: a3 :: a4 :: a5 :: some (zi x) :: L) (zi x :: st) (I, R, al) Q := zg_91_153
theorem zh_91_155 {v1 v2 : zV} {o : Nat} : Zgo d 91 155 (L) (v2 :: v1 :: zq (some (11, o)) :: st) (I, R, al) Q ↔ if zwt st ≤ 8 then zCp d 92 [zq (some (11, o)), v1, v2] (I, R, al) (fun r S2 => Zgo d 91 158 L (r.toList ++ st) S2 Q) else False := zg_91_155
theorem zh_91_158 {v j : Int} {c o : Nat} : Zgo d 91 158 (L) (zi v :: zi j :: zq (some (c, o)) :: st) (I, R, al) Q ↔ zal (zArr c) 0 j (fun x => Zgo d 91 159 (L) (st) (zsI I c o x v, R, al) Q) := zg_91_158
theorem zh_91_159 : Zgo d 91 159 (L) (st) (I, R, al) Q ↔ Zgo d 91 16 (L) (st) (I, R, al) Q := zg_91_159
theorem zh_91_162 {x : Int} : Zgo d 91 162 (a0 :: some (zi x) :: L) (st) (I, R, al) Q ↔ Zgo d 91 163 (a0 :: some (zi x) :: L) (zi x :: st) (I, R, al) Q := zg_91_162
theorem zh_91_163 {x : Int} : Zgo d 91 163 (L) (zi x :: []) (I, R, al) Q ↔ Q (some (zi x)) (I, R, al) := zg_91_163
theorem zh_92_0 {x : Option (Nat × Nat)} : Zgo d 92 0 (some (zq x) :: L) (st) (I, R, al) Q ↔ Zgo d 92 1 (some (zq x) :: L) (zq x :: st) (I, R, al) Q := zg_92_0
theorem zh_92_1 : Zgo d 92 1 (L) (st) (I, R, al) Q ↔ Zgo d 92 3 (L) (zi 123 :: st) (I, R, al) Q := zg_92_1
theorem zh_92_3 {v1 : zV} {o : Nat} : Zgo d 92 3 (L) (v1 :: zq (some (11, o)) :: st) (I, R, al) Q ↔ if zwt st ≤ 8 then zCp d 93 [zq (some (11, o)), v1] (I, R, al) (fun r S2 => Zgo d 92 6 L (r.toList ++ st) S2 Q) else False := zg_92_3
theorem zh_92_6 {x : Option (Nat × Nat)} : Zgo d 92 6 (some (zq x) :: L) (st) (I, R, al) Q ↔ Zgo d 92 7 (some (zq x) :: L) (zq x :: st) (I, R, al) Q := zg_92_6
theorem zh_92_7 {o : Nat} : Zgo d 92 7 (L) (zq (some (11, o)) :: st) (I, R, al) Q ↔ Zgo d 92 10 (L) (zi (I 11 o 22) :: st) (I, R, al) Q := zg_92_7
theorem zh_92_10 {x : Int} : Zgo d 92 10 (a0 :: a1 :: a2 :: b0 :: L) (zi x :: st) (I, R, al) Q ↔ Zgo d 92 11 (a0 :: a1 :: zkl a2 :: some (zi x) :: L) (st) (I, R, al) Q := zg_92_10
theorem zh_92_11 {x : Option (Nat × Nat)} : Zgo d 92 11 (some (zq x) :: L) (st) (I, R, al) Q ↔ Zgo d 92 12 (some (zq x) :: L) (zq x :: st) (I, R, al) Q := zg_92_11
theorem zh_92_12 {o : Nat} : Zgo d 92 12 (L) (zq (some (11, o)) :: st) (I, R, al) Q ↔ Zgo d 92 15 (L) (zi (I 11 o 22) :: st) (I, R, al) Q := zg_92_12
theorem zh_92_15 : Zgo d 92 15 (L) (st) (I, R, al) Q ↔ Zgo d 92 18 (L) (zi 159 :: st) (I, R, al) Q := zg_92_15
theorem zh_92_18 {x y : Int} : Zgo d 92 18 (L) (zi y :: zi x :: st) (I, R, al) Q ↔ if zw x < zw y then Zgo d 92 21 (L) (st) (I, R, al) Q else Zgo d 92 31 (L) (st) (I, R, al) Q := zg_92_18
theorem zh_92_21 {x : Option (Nat × Nat)} : Zgo d 92 21 (some (zq x) :: L) (st) (I, R, al) Q ↔ Zgo d 92 22 (some (zq x) :: L) (zq x :: st) (I, R, al) Q := zg_92_21
theorem zh_92_22 {x : Int} : Zgo d 92 22 (L) (zi x :: st) (I, R, al) Q ↔ Zgo d 92 23 (L) (zi x :: zi x :: st) (I, R, al) Q := zg_92_22
theorem zh_92_22q {u : Option (Nat × Nat)} : Zgo d 92 22 (L) (zq u :: st) (I, R, al) Q ↔ Zgo d 92 23 (L) (zq u :: zq u :: st) (I, R, al) Q := zg_92_22
theorem zh_92_23 {o : Nat} : Zgo d 92 23 (L) (zq (some (11, o)) :: st) (I, R, al) Q ↔ Zgo d 92 26 (L) (zi (I 11 o 22) :: st) (I, R, al) Q := zg_92_23
theorem zh_92_26 : Zgo d 92 26 (L) (st) (I, R, al) Q ↔ Zgo d 92 27 (L) (zi 1 :: st) (I, R, al) Q := zg_92_26
theorem zh_92_27 {x y : Int} : Zgo d 92 27 (L) (zi y :: zi x :: st) (I, R, al) Q ↔ Zgo d 92 28 (L) (zi (x + y) :: st) (I, R, al) Q := zg_92_27
theorem zh_92_28 {o : Nat} {v : Int} : Zgo d 92 28 (L) (zi v :: zq (some (11, o)) :: st) (I, R, al) Q ↔ Zgo d 92 31 (L) (st) (zsI I 11 o 22 v, R, al) Q := zg_92_28
theorem zh_92_31 {x : Option (Nat × Nat)} : Zgo d 92 31 (some (zq x) :: L) (st) (I, R, al) Q ↔ Zgo d 92 32 (some (zq x) :: L) (zq x :: st) (I, R, al) Q := zg_92_31
theorem zh_92_32 {o : Nat} : Zgo d 92 32 (L) (zq (some (11, o)) :: st) (I, R, al) Q ↔ Zgo d 92 35 (L) (zq (R 11 o 23) :: st) (I, R, al) Q := zg_92_32
theorem zh_92_35 {x : Int} : Zgo d 92 35 (a0 :: a1 :: a2 :: some (zi x) :: L) (st) (I, R, al) Q ↔ Zgo d 92 36 (a0 :: a1 :: a2 :: some (zi x) :: L) (zi x :: st) (I, R, al) Q := zg_92_35
theorem zh_92_36 : Zgo d 92 36 (L) (st) (I, R, al) Q ↔ Zgo d 92 37 (L) (zi (-1) :: st) (I, R, al) Q := zg_92_36
theorem zh_92_37 {v j : Int} {c o : Nat} : Zgo d 92 37 (L) (zi v :: zi j :: zq (some (c, o)) :: st) (I, R, al) Q ↔ zal (zArr c) 0 j (fun x => Zgo d 92 38 (L) (st) (zsI I c o x v, R, al) Q) := zg_92_37
theorem zh_92_38 {x : Option (Nat × Nat)} : Zgo d 92 38 (some (zq x) :: L) (st) (I, R, al) Q ↔ Zgo d 92 39 (some (zq x) :: L) (zq x :: st) (I, R, al) Q := zg_92_38
theorem zh_92_39 {o : Nat} : Zgo d 92 39 (L) (zq (some (11, o)) :: st) (I, R, al) Q ↔ Zgo d 92 42 (L) (zq (R 11 o 24) :: st) (I, R, al) Q := zg_92_39
theorem zh_92_42 {x : Int} : Zgo d 92 42 (a0 :: a1 :: a2 :: some (zi x) :: L) (st) (I, R, al) Q ↔ Zgo d 92 43 (a0 :: a1 :: a2 :: some (zi x) :: L) (zi x :: st) (I, R, al) Q := zg_92_42
theorem zh_92_43 : Zgo d 92 43 (L) (st) (I, R, al) Q ↔ Zgo d 92 44 (L) (zi (-1) :: st) (I, R, al) Q := zg_92_43
theorem zh_92_44 {v j : Int} {c o : Nat} : Zgo d 92 44 (L) (zi v :: zi j :: zq (some (c, o)) :: st) (I, R, al) Q ↔ zal (zArr c) 0 j (fun x => Zgo d 92 45 (L) (st) (zsI I c o x v, R, al) Q) := zg_92_44
theorem zh_92_45 {x : Option (Nat × Nat)} : Zgo d 92 45 (some (zq x) :: L) (st) (I, R, al) Q ↔ Zgo d 92 46 (some (zq x) :: L) (zq x :: st) (I, R, al) Q := zg_92_45
theorem zh_92_46 {o : Nat} : Zgo d 92 46 (L) (zq (some (11, o)) :: st) (I, R, al) Q ↔ Zgo d 92 49 (L) (zq (R 11 o 25) :: st) (I, R, al) Q := zg_92_46
theorem zh_92_49 {x : Int} : Zgo d 92 49 (a0 :: a1 :: a2 :: some (zi x) :: L) (st) (I, R, al) Q ↔ Zgo d 92 50 (a0 :: a1 :: a2 :: some (zi x) :: L) (zi x :: st) (I, R, al) Q := zg_92_49
theorem zh_92_50 {x : Int} : Zgo d 92 50 (a0 :: some (zi x) :: L) (st) (I, R, al) Q ↔ Zgo d 92 51 (a0 :: some (zi x) :: L) (zi x :: st) (I, R, al) Q := zg_92_50
theorem zh_92_51 {v j : Int} {c o : Nat} : Zgo d 92 51 (L) (zi v :: zi j :: zq (some (c, o)) :: st) (I, R, al) Q ↔ zal (zArr c) 0 j (fun x => Zgo d 92 52 (L) (st) (zsI I c o x v, R, al) Q) := zg_92_51
theorem zh_92_52 {x : Option (Nat × Nat)} : Zgo d 92 52 (some (zq x) :: L) (st) (I, R, al) Q ↔ Zgo d 92 53 (some (zq x) :: L) (zq x :: st) (I, R, al) Q := zg_92_52
theorem zh_92_53 {o : Nat} : Zgo d 92 53 (L) (zq (some (11, o)) :: st) (I, R, al) Q ↔ Zgo d 92 56 (L) (zq (R 11 o 26) :: st) (I, R, al) Q := zg_92_53
theorem zh_92_56 {x : Int} : Zgo d 92 56 (a0 :: a1 :: a2 :: some (zi x) :: L) (st) (I, R, al) Q ↔ Zgo d 92 57 (a0 :: a1 :: a2 :: some (zi x) :: L) (zi x :: st) (I, R, al) Q := zg_92_56
theorem zh_92_57 {x : Int} : Zgo d 92 57 (a0 :: a1 :: some (zi x) :: L) (st) (I, R, al) Q ↔ Zgo d 92 58 (a0 :: a1 :: some (zi x) :: L) (zi x :: st) (I, R, al) Q := zg_92_57
theorem zh_92_58 {v j : Int} {c o : Nat} : Zgo d 92 58 (L) (zi v :: zi j :: zq (some (c, o)) :: st) (I, R, al) Q ↔ zal (zArr c) 0 j (fun x => Zgo d 92 59 (L) (st) (zsI I c o x v, R, al) Q) := zg_92_58
theorem zh_92_59 {x : Option (Nat × Nat)} : Zgo d 92 59 (some (zq x) :: L) (st) (I, R, al) Q ↔ Zgo d 92 60 (some (zq x) :: L) (zq x :: st) (I, R, al) Q := zg_92_59
theorem zh_92_60 {o : Nat} : Zgo d 92 60 (L) (zq (some (11, o)) :: st) (I, R, al) Q ↔ Zgo d 92 63 (L) (zq (R 11 o 27) :: st) (I, R, al) Q := zg_92_60
theorem zh_92_63 {x : Int} : Zgo d 92 63 (a0 :: a1 :: a2 :: some (zi x) :: L) (st) (I, R, al) Q ↔ Zgo d 92 64 (a0 :: a1 :: a2 :: some (zi x) :: L) (zi x :: st) (I, R, al) Q := zg_92_63
theorem zh_92_64 : Zgo d 92 64 (L) (st) (I, R, al) Q ↔ Zgo d 92 65 (L) (zi 0 :: st) (I, R, al) Q := zg_92_64
theorem zh_92_65 {v j : Int} {c o : Nat} : Zgo d 92 65 (L) (zi v :: zi j :: zq (some (c, o)) :: st) (I, R, al) Q ↔ zal (zArr c) 0 j (fun x => Zgo d 92 66 (L) (st) (zsI I c o x v, R, al) Q) := zg_92_65
theorem zh_92_66 {x : Int} : Zgo d 92 66 (a0 :: some (zi x) :: L) (st) (I, R, al) Q ↔ Zgo d 92 67 (a0 :: some (zi x) :: L) (zi x :: st) (I, R, al) Q := zg_92_66
theorem zh_92_67 {x : Int} : Zgo d 92 67 (L) (zi x :: st) (I, R, al) Q ↔ if zw x < zw 0 then Zgo d 92 82 (L) (st) (I, R, al) Q else Zgo d 92 70 (L) (st) (I, R, al) Q := zg_92_67
theorem zh_92_70 {x : Option (Nat × Nat)} : Zgo d 92 70 (some (zq x) :: L) (st) (I, R, al) Q ↔ Zgo d 92 71 (some (zq x) :: L) (zq x :: st) (I, R, al) Q := zg_92_70
theorem zh_92_71 {o : Nat} : Zgo d 92 71 (L) (zq (some (11, o)) :: st) (I, R, al) Q ↔ Zgo d 92 74 (L) (zq (R 11 o 15) :: st) (I, R, al) Q := zg_92_71
theorem zh_92_74 : Zgo d 92 74 (L) (st) (I, R, al) Q ↔ Zgo d 92 76 (L) (zi 6 :: st) (I, R, al) Q := zg_92_74
theorem zh_92_76 {x : Int} : Zgo d 92 76 (a0 :: some (zi x) :: L) (st) (I, R, al) Q ↔ Zgo d 92 77 (a0 :: some (zi x) :: L) (zi x :: st) (I, R, al) Q := zg_92_76
theorem zh_92_77 {x y : Int} : Zgo d 92 77 (L) (zi y :: zi x :: st) (I, R, al) Q ↔ Zgo d 92 78 (L) (zi (x * y) :: st) (I, R, al) Q := zg_92_77
theorem zh_92_78 {x : Int} : Zgo d 92 78 (a0 :: a1 :: some (zi x) :: L) (st) (I, R, al) Q ↔ Zgo d 92 79 (a0 :: a1 :: some (zi x) :: L) (zi x :: st) (I, R, al) Q := zg_92_78
theorem zh_92_79 {x y : Int} : Zgo d 92 79 (L) (zi y :: zi x :: st) (I, R, al) Q ↔ Zgo d 92 80 (L) (zi (x + y) :: st) (I, R, al) Q := zg_92_79
theorem zh_92_80 {x : Int} : Zgo d 92 80 (a0 :: a1 :: a2 :: some (zi x) :: L) (st) (I, R, al) Q ↔ Zgo d 92 81 (a0 :: a1 :: a2 :: some (zi x) :: L) (zi x :: st) (I, R, al) Q := zg_92_80
theorem zh_92_81 {v j : Int} {c o : Nat} : Zgo d 92 81 (L) (zi v :: zi j :: zq (some (c, o)) :: st) (I, R, al) Q ↔ zal (zArr c) 0 j (fun x => Zgo d 92 82 (L) (st) (zsI I c o x v, R, al) Q) := zg_92_81
theorem zh_92_82 {x : Int} : Zgo d 92 82 (a0 :: a1 :: a2 :: some (zi x) :: L) (st) (I, R, al) Q ↔ Zgo d 92 83 (a0 :: a1 :: a2 :: some (zi x) :: L) (zi x :: st) (I, R, al) Q := zg_92_82
theorem zh_92_83 {x : Int} : Zgo d 92 83 (L) (zi x :: []) (I, R, al) Q ↔ Q (some (zi x)) (I, R, al) := zg_92_83
theorem zh_93_0 {x : Option (Nat × Nat)} : Zgo d 93 0 (some (zq x) :: L) (st) (I, R, al) Q ↔ Zgo d 93 1 (some (zq x) :: L) (zq x :: st) (I, R, al) Q := zg_93_0
theorem zh_93_1 {x : Option (Nat × Nat)} : Zgo d 93 1 (some (zq x) :: L) (st) (I, R, al) Q ↔ Zgo d 93 2 (some (zq x) :: L) (zq x :: st) (I, R, al) Q := zg_93_1
theorem zh_93_2 {o : Nat} : Zgo d 93 2 (L) (zq (some (11, o)) :: st) (I, R, al) Q ↔ Zgo d 93 5 (L) (zi (I 11 o 4) :: st) (I, R, al) Q := zg_93_2
theorem zh_93_5 {x : Int} : Zgo d 93 5 (L) (zi x :: st) (I, R, al) Q ↔ if zw x = zw 0 then Zgo d 93 8 (L) (st) (I, R, al) Q else Zgo d 93 16 (L) (st) (I, R, al) Q := zg_93_5
theorem zh_93_8 {x : Option (Nat × Nat)} : Zgo d 93 8 (some (zq x) :: L) (st) (I, R, al) Q ↔ Zgo d 93 9 (some (zq x) :: L) (zq x :: st) (I, R, al) Q := zg_93_8
theorem zh_93_9 {o : Nat} : Zgo d 93 9 (L) (zq (some (11, o)) :: st) (I, R, al) Q ↔ if zwt st ≤ 8 then zCp d 87 [zq (some (11, o))] (I, R, al) (fun r S2 => Zgo d 93 12 L (r.toList ++ st) S2 Q) else False := zg_93_9
theorem zh_93_12 {x : Int} : Zgo d 93 12 (a0 :: some (zi x) :: L) (st) (I, R, al) Q ↔ Zgo d 93 13 (a0 :: some (zi x) :: L) (zi x :: st) (I, R, al) Q := zg_93_12
theorem zh_93_13 {x y : Int} : Zgo d 93 13 (L) (zi y :: zi x :: st) (I, R, al) Q ↔ if zw x = zw y then Zgo d 93 20 (L) (st) (I, R, al) Q else Zgo d 93 16 (L) (st) (I, R, al) Q := zg_93_13
theorem zh_93_16 : Zgo d 93 16 (L) (st) (I, R, al) Q ↔ Zgo d 93 17 (L) (zi 1 :: st) (I, R, al) Q := zg_93_16
theorem zh_93_17 : Zgo d 93 17 (L) (st) (I, R, al) Q ↔ Zgo d 93 21 (L) (st) (I, R, al) Q := zg_93_17
theorem zh_93_20 : Zgo d 93 20 (L) (st) (I, R, al) Q ↔ Zgo d 93 21 (L) (zi 0 :: st) (I, R, al) Q := zg_93_20
theorem zh_93_21 {o : Nat} {v : Int} : Zgo d 93 21 (L) (zi v :: zq (some (11, o)) :: st) (I, R, al) Q ↔ zok 1 v False (Zgo d 93 24 (L) (st) (zsI I 11 o 4 v, R, al) Q) := zg_93_21
theorem zh_93_24 {x : Option (Nat × Nat)} : Zgo d 93 24 (some (zq x) :: L) (st) (I, R, al) Q ↔ Zgo d 93 25 (some (zq x) :: L) (zq x :: st) (I, R, al) Q := zg_93_24
theorem zh_93_25 {x : Int} : Zgo d 93 25 (L) (zi x :: st) (I, R, al) Q ↔ Zgo d 93 26 (L) (zi x :: zi x :: st) (I, R, al) Q := zg_93_25
theorem zh_93_25q {u : Option (Nat × Nat)} : Zgo d 93 25 (L) (zq u :: st) (I, R, al) Q ↔ Zgo d 93 26 (L) (zq u :: zq u :: st) (I, R, al) Q := zg_93_25
theorem zh_93_26 {o : Nat} : Zgo d 93 26 (L) (zq (some (11, o)) :: st) (I, R, al) Q ↔ Zgo d 93 29 (L) (zi (I 11 o 3) :: st) (I, R, al) Q := zg_93_26
theorem zh_93_29 : Zgo d 93 29 (L) (st) (I, R, al) Q ↔ Zgo d 93 30 (L) (zi 1 :: st) (I, R, al) Q := zg_93_29
theorem zh_93_30 {x y : Int} : Zgo d 93 30 (L) (zi y :: zi x :: st) (I, R, al) Q ↔ Zgo d 93 31 (L) (zi (x + y) :: st) (I, R, al) Q := zg_93_30
theorem zh_93_31 {o : Nat} {v : Int} : Zgo d 93 31 (L) (zi v :: zq (some (11, o)) :: st) (I, R, al) Q ↔ Zgo d 93 34 (L) (st) (zsI I 11 o 3 v, R, al) Q := zg_93_31
theorem zh_93_34 : Zgo d 93 34 (L) ([]) (I, R, al) Q ↔ Q none (I, R, al) := zg_93_34
theorem zh_94_0 {x : Option (Nat × Nat)} : Zgo d 94 0 (some (zq x) :: L) (st) (I, R, al) Q ↔ Zgo d 94 1 (some (zq x) :: L) (zq x :: st) (I, R, al) Q := zg_94_0
theorem zh_94_1 {o : Nat} : Zgo d 94 1 (L) (zq (some (11, o)) :: st) (I, R, al) Q ↔ Zgo d 94 4 (L) (zq (R 11 o 11) :: st) (I, R, al) Q := zg_94_1
theorem zh_94_4 {x : Int} : Zgo d 94 4 (a0 :: some (zi x) :: L) (st) (I, R, al) Q ↔ Zgo d 94 5 (a0 :: some (zi x) :: L) (zi x :: st) (I, R, al) Q := zg_94_4
theorem zh_94_5 {j : Int} {c o : Nat} : Zgo d 94 5 (L) (zi j :: zq (some (c, o)) :: st) (I, R, al) Q ↔ zal (zlen (I, R, al) c) 0 j (fun x => Zgo d 94 6 (L) (zi (I c o x) :: st) (I, R, al) Q) := zg_94_5
theorem zh_94_6 : Zgo d 94 6 (L) (st) (I, R, al) Q ↔ Zgo d 94 8 (L) (zi 63 :: st) (I, R, al) Q := zg_94_6
theorem zh_94_8 {x y : Int} : Zgo d 94 8 (L) (zi y :: zi x :: st) (I, R, al) Q ↔ if zw x = zw y then Zgo d 94 11 (L) (st) (I, R, al) Q else Zgo d 94 21 (L) (st) (I, R, al) Q := zg_94_8
theorem zh_94_11 {x : Int} : Zgo d 94 11 (a0 :: a1 :: some (zi x) :: L) (st) (I, R, al) Q ↔ Zgo d 94 12 (a0 :: a1 :: some (zi x) :: L) (zi x :: st) (I, R, al) Q := zg_94_11
theorem zh_94_12 {x : Int} : Zgo d 94 12 (L) (zi x :: st) (I, R, al) Q ↔ if zw x = zw 0 then Zgo d 94 15 (L) (st) (I, R, al) Q else Zgo d 94 19 (L) (st) (I, R, al) Q := zg_94_12
theorem zh_94_15 : Zgo d 94 15 (L) (st) (I, R, al) Q ↔ Zgo d 94 16 (L) (zi 1 :: st) (I, R, al) Q := zg_94_15
theorem zh_94_16 : Zgo d 94 16 (L) (st) (I, R, al) Q ↔ Zgo d 94 20 (L) (st) (I, R, al) Q := zg_94_16
theorem zh_94_19 : Zgo d 94 19 (L) (st) (I, R, al) Q ↔ Zgo d 94 20 (L) (zi (-1) :: st) (I, R, al) Q := zg_94_19
theorem zh_94_20 {x : Int} : Zgo d 94 20 (L) (zi x :: []) (I, R, al) Q ↔ Q (some (zi x)) (I, R, al) := zg_94_20
theorem zh_94_21 {x : Option (Nat × Nat)} : Zgo d 94 21 (some (zq x) :: L) (st) (I, R, al) Q ↔ Zgo d 94 22 (some (zq x) :: L) (zq x :: st) (I, R, al) Q := zg_94_21
theorem zh_94_22 {o : Nat} : Zgo d 94 22 (L) (zq (some (11, o)) :: st) (I, R, al) Q ↔ Zgo d 94 25 (L) (zq (R 11 o 11) :: st) (I, R, al) Q := zg_94_22
theorem zh_94_25 {x : Int} : Zgo d 94 25 (a0 :: some (zi x) :: L) (st) (I, R, al) Q ↔ Zgo d 94 26 (a0 :: some (zi x) :: L) (zi x :: st) (I, R, al) Q := zg_94_25
theorem zh_94_26 {j : Int} {c o : Nat} : Zgo d 94 26 (L) (zi j :: zq (some (c, o)) :: st) (I, R, al) Q ↔ zal (zlen (I, R, al) c) 0 j (fun x => Zgo d 94 27 (L) (zi (I c o x) :: st) (I, R, al) Q) := zg_94_26
theorem zh_94_27 : Zgo d 94 27 (L) (st) (I, R, al) Q ↔ Zgo d 94 29 (L) (zi 64 :: st) (I, R, al) Q := zg_94_27
theorem zh_94_29 {x y : Int} : Zgo d 94 29 (L) (zi y :: zi x :: st) (I, R, al) Q ↔ if zw x = zw y then Zgo d 94 37 (L) (st) (I, R, al) Q else Zgo d 94 32 (L) (st) (I, R, al) Q := zg_94_29
theorem zh_94_32 {x : Int} : Zgo d 94 32 (a0 :: a1 :: some (zi x) :: L) (st) (I, R, al) Q ↔ Zgo d 94 33 (a0 :: a1 :: some (zi x) :: L) (zi x :: st) (I, R, al) Q := zg_94_32
theorem zh_94_33 : Zgo d 94 33 (L) (st) (I, R, al) Q ↔ Zgo d 94 34 (L) (zi 5 :: st) (I, R, al) Q := zg_94_33
theorem zh_94_34 {x y : Int} : Zgo d 94 34 (L) (zi y :: zi x :: st) (I, R, al) Q ↔ if zw x = zw y then Zgo d 94 37 (L) (st) (I, R, al) Q else Zgo d 94 39 (L) (st) (I, R, al) Q := zg_94_34
theorem zh_94_37 : Zgo d 94 37 (L) (st) (I, R, al) Q ↔ Zgo d 94 38 (L) (zi (-1) :: st) (I, R, al) Q := zg_94_37
theorem zh_94_38 {x : Int} : Zgo d 94 38 (L) (zi x :: []) (I, R, al) Q ↔ Q (some (zi x)) (I, R, al) := zg_94_38
theorem zh_94_39 {x : Option (Nat × Nat)} : Zgo d 94 39 (some (zq x) :: L) (st) (I, R, al) Q ↔ Zgo d 94 40 (some (zq x) :: L) (zq x :: st) (I, R, al) Q := zg_94_39
theorem zh_94_40 {o : Nat} : Zgo d 94 40 (L) (zq (some (11, o)) :: st) (I, R, al) Q ↔ Zgo d 94 43 (L) (zq (R 11 o 18) :: st) (I, R, al) Q := zg_94_40
theorem zh_94_43 {x : Int} : Zgo d 94 43 (a0 :: some (zi x) :: L) (st) (I, R, al) Q ↔ Zgo d 94 44 (a0 :: some (zi x) :: L) (zi x :: st) (I, R, al) Q := zg_94_43
theorem zh_94_44 {j : Int} {c o : Nat} : Zgo d 94 44 (L) (zi j :: zq (some (c, o)) :: st) (I, R, al) Q ↔ zal (zlen (I, R, al) c) 0 j (fun x => Zgo d 94 45 (L) (zi (I c o x) :: st) (I, R, al) Q) := zg_94_44
theorem zh_94_45 {x : Int} : Zgo d 94 45 (a0 :: a1 :: a2 :: b0 :: L) (zi x :: st) (I, R, al) Q ↔ Zgo d 94 46 (a0 :: a1 :: zkl a2 :: some (zi x) :: L) (st) (I, R, al) Q := zg_94_45
theorem zh_94_46 {x : Option (Nat × Nat)} : Zgo d 94 46 (some (zq x) :: L) (st) (I, R, al) Q ↔ Zgo d 94 47 (some (zq x) :: L) (zq x :: st) (I, R, al) Q := zg_94_46
theorem zh_94_47 {o : Nat} : Zgo d 94 47 (L) (zq (some (11, o)) :: st) (I, R, al) Q ↔ if zwt st ≤ 8 then zCp d 87 [zq (some (11, o))] (I, R, al) (fun r S2 => Zgo d 94 50 L (r.toList ++ st) S2 Q) else False := zg_94_47
theorem zh_94_50 : Zgo d 94 50 (L) (st) (I, R, al) Q ↔ Zgo d 94 52 (L) (zi 75 :: st) (I, R, al) Q := zg_94_50
theorem zh_94_52 {x y : Int} : Zgo d 94 52 (L) (zi y :: zi x :: st) (I, R, al) Q ↔ if zw x = zw y then Zgo d 94 55 (L) (st) (I, R, al) Q else Zgo d 94 188 (L) (st) (I, R, al) Q := zg_94_52
theorem zh_94_55 {x : Option (Nat × Nat)} : Zgo d 94 55 (some (zq x) :: L) (st) (I, R, al) Q ↔ Zgo d 94 56 (some (zq x) :: L) (zq x :: st) (I, R, al) Q := zg_94_55
theorem zh_94_56 {x : Int} : Zgo d 94 56 (L) (zi x :: st) (I, R, al) Q ↔ Zgo d 94 57 (L) (zi x :: zi x :: st) (I, R, al) Q := zg_94_56
theorem zh_94_56q {u : Option (Nat × Nat)} : Zgo d 94 56 (L) (zq u :: st) (I, R, al) Q ↔ Zgo d 94 57 (L) (zq u :: zq u :: st) (I, R, al) Q := zg_94_56
theorem zh_94_57 {o : Nat} : Zgo d 94 57 (L) (zq (some (11, o)) :: st) (I, R, al) Q ↔ Zgo d 94 60 (L) (zi (I 11 o 3) :: st) (I, R, al) Q := zg_94_57
theorem zh_94_60 : Zgo d 94 60 (L) (st) (I, R, al) Q ↔ Zgo d 94 61 (L) (zi 1 :: st) (I, R, al) Q := zg_94_60
theorem zh_94_61 {x y : Int} : Zgo d 94 61 (L) (zi y :: zi x :: st) (I, R, al) Q ↔ Zgo d 94 62 (L) (zi (x + y) :: st) (I, R, al) Q := zg_94_61
theorem zh_94_62 {o : Nat} {v : Int} : Zgo d 94 62 (L) (zi v :: zq (some (11, o)) :: st) (I, R, al) Q ↔ Zgo d 94 65 (L) (st) (zsI I 11 o 3 v, R, al) Q := zg_94_62
theorem zh_94_65 {x : Option (Nat × Nat)} : Zgo d 94 65 (some (zq x) :: L) (st) (I, R, al) Q ↔ Zgo d 94 66 (some (zq x) :: L) (zq x :: st) (I, R, al) Q := zg_94_65
theorem zh_94_66 {x : Option (Nat × Nat)} : Zgo d 94 66 (some (zq x) :: L) (st) (I, R, al) Q ↔ Zgo d 94 67 (some (zq x) :: L) (zq x :: st) (I, R, al) Q := zg_94_66
theorem zh_94_67 {o : Nat} : Zgo d 94 67 (L) (zq (some (11, o)) :: st) (I, R, al) Q ↔ Zgo d 94 70 (L) (zi (I 11 o 4) :: st) (I, R, al) Q := zg_94_67
theorem zh_94_70 {x : Int} : Zgo d 94 70 (L) (zi x :: st) (I, R, al) Q ↔ if zw x = zw 0 then Zgo d 94 73 (L) (st) (I, R, al) Q else Zgo d 94 78 (L) (st) (I, R, al) Q := zg_94_70
theorem zh_94_73 {x : Int} : Zgo d 94 73 (a0 :: a1 :: a2 :: some (zi x) :: L) (st) (I, R, al) Q ↔ Zgo d 94 74 (a0 :: a1 :: a2 :: some (zi x) :: L) (zi x :: st) (I, R, al) Q := zg_94_73
theorem zh_94_74 : Zgo d 94 74 (L) (st) (I, R, al) Q ↔ Zgo d 94 75 (L) (zi 3 :: st) (I, R, al) Q := zg_94_74
theorem zh_94_75 {x y : Int} : Zgo d 94 75 (L) (zi y :: zi x :: st) (I, R, al) Q ↔ if zw x = zw y then Zgo d 94 78 (L) (st) (I, R, al) Q else Zgo d 94 82 (L) (st) (I, R, al) Q := zg_94_75
theorem zh_94_78 : Zgo d 94 78 (L) (st) (I, R, al) Q ↔ Zgo d 94 79 (L) (zi 1 :: st) (I, R, al) Q := zg_94_78
theorem zh_94_79 : Zgo d 94 79 (L) (st) (I, R, al) Q ↔ Zgo d 94 83 (L) (st) (I, R, al) Q := zg_94_79
theorem zh_94_82 : Zgo d 94 82 (L) (st) (I, R, al) Q ↔ Zgo d 94 83 (L) (zi 0 :: st) (I, R, al) Q := zg_94_82
theorem zh_94_83 {o : Nat} {v : Int} : Zgo d 94 83 (L) (zi v :: zq (some (11, o)) :: st) (I, R, al) Q ↔ zok 1 v False (Zgo d 94 86 (L) (st) (zsI I 11 o 4 v, R, al) Q) := zg_94_83
theorem zh_94_86 {x : Option (Nat × Nat)} : Zgo d 94 86 (some (zq x) :: L) (st) (I, R, al) Q ↔ Zgo d 94 87 (some (zq x) :: L) (zq x :: st) (I, R, al) Q := zg_94_86
theorem zh_94_87 {o : Nat} : Zgo d 94 87 (L) (zq (some (11, o)) :: st) (I, R, al) Q ↔ Zgo d 94 90 (L) (zi (I 11 o 4) :: st) (I, R, al) Q := zg_94_87
theorem zh_94_90 {x : Int} : Zgo d 94 90 (L) (zi x :: st) (I, R, al) Q ↔ if zw x = zw 0 then Zgo d 94 95 (L) (st) (I, R, al) Q else Zgo d 94 93 (L) (st) (I, R, al) Q := zg_94_90
theorem zh_94_93 : Zgo d 94 93 (L) (st) (I, R, al) Q ↔ Zgo d 94 94 (L) (zi (-1) :: st) (I, R, al) Q := zg_94_93
theorem zh_94_94 {x : Int} : Zgo d 94 94 (L) (zi x :: []) (I, R, al) Q ↔ Q (some (zi x)) (I, R, al) := zg_94_94
theorem zh_94_95 {x : Option (Nat × Nat)} : Zgo d 94 95 (some (zq x) :: L) (st) (I, R, al) Q ↔ Zgo d 94 96 (some (zq x) :: L) (zq x :: st) (I, R, al) Q := zg_94_95
theorem zh_94_96 {o : Nat} : Zgo d 94 96 (L) (zq (some (11, o)) :: st) (I, R, al) Q ↔ if zwt st ≤ 8 then zCp d 90 [zq (some (11, o))] (I, R, al) (fun r S2 => Zgo d 94 99 L (r.toList ++ st) S2 Q) else False := zg_94_96
theorem zh_94_99 {x : Int} : Zgo d 94 99 (a0 :: a1 :: a2 :: a3 :: b0 :: L) (zi x :: st) (I, R, al) Q ↔ Zgo d 94 101 (a0 :: a1 :: a2 :: zkl a3 :: some (zi x) :: L) (st) (I, R, al) Q := zg_94_99
theorem zh_94_101 : Zgo d 94 101 (L) (st) (I, R, al) Q ↔ Zgo d 94 102 (L) (zi 0 :: st) (I, R, al) Q := zg_94_101
theorem zh_94_102 {x : Int} : Zgo d 94 102 (a0 :: a1 :: a2 :: a3 :: a4 :: b0 :: L) (zi x :: st) (I, R, al) Q ↔ Zgo d 94 104 (a0 :: a1 :: a2 :: a3 :: zkl a4 :: some (zi x) :: L) (st) (I, R, al) Q := zg_94_102
theorem zh_94_104 {x : Int} : Zgo d 94 104 (a0 :: a1 :: a2 :: a3 :: a4 :: some (zi x) :: L) (st) (I, R, al) Q ↔ Zgo d 94 106 (a0 :: a1 :: a2 :: a3 :: a4 :: some (zi x) :: L) (zi x :: st) (I, R, al) Q := zg_94_104
theorem zh_94_106 {x : Int} : Zgo d 94 106 (a0 :: a1 :: a2 :: some (zi x) :: L) (st) (I, R, al) Q ↔ Zgo d 94 107 (a0 :: a1 :: a2 :: some (zi x) :: L) (zi x :: st) (I, R, al) Q := zg_94_106
theorem zh_94_107 {x y : Int} : Zgo d 94 107 (L) (zi y :: zi x :: st) (I, R, al) Q ↔ if zw x < zw y then Zgo d 94 110 (L) (st) (I, R, al) Q else Zgo d 94 148 (L) (st) (I, R, al) Q := zg_94_107
theorem zh_94_110 {x : Option (Nat × Nat)} : Zgo d 94 110 (some (zq x) :: L) (st) (I, R, al) Q ↔ Zgo d 94 111 (some (zq x) :: L) (zq x :: st) (I, R, al) Q := zg_94_110
theorem zh_94_111 {x : Option (Nat × Nat)} : Zgo d 94 111 (some (zq x) :: L) (st) (I, R, al) Q ↔ Zgo d 94 112 (some (zq x) :: L) (zq x :: st) (I, R, al) Q := zg_94_111
theorem zh_94_112 {o : Nat} : Zgo d 94 112 (L) (zq (some (11, o)) :: st) (I, R, al) Q ↔ Zgo d 94 115 (L) (zi (I 11 o 4) :: st) (I, R, al) Q := zg_94_112
theorem zh_94_115 {x : Int} : Zgo d 94 115 (L) (zi x :: st) (I, R, al) Q ↔ if zw x = zw 0 then Zgo d 94 118 (L) (st) (I, R, al) Q else Zgo d 94 134 (L) (st) (I, R, al) Q := zg_94_115
theorem zh_94_118 {x : Option (Nat × Nat)} : Zgo d 94 118 (some (zq x) :: L) (st) (I, R, al) Q ↔ Zgo d 94 119 (some (zq x) :: L) (zq x :: st) (I, R, al) Q := zg_94_118
theorem zh_94_119 {o : Nat} : Zgo d 94 119 (L) (zq (some (11, o)) :: st) (I, R, al) Q ↔ Zgo d 94 122 (L) (zq (R 11 o 16) :: st) (I, R, al) Q := zg_94_119
theorem zh_94_122 : Zgo d 94 122 (L) (st) (I, R, al) Q ↔ Zgo d 94 123 (L) (zi 3 :: st) (I, R, al) Q := zg_94_122
theorem zh_94_123 {x : Int} : Zgo d 94 123 (a0 :: some (zi x) :: L) (st) (I, R, al) Q ↔ Zgo d 94 124 (a0 :: some (zi x) :: L) (zi x :: st) (I, R, al) Q := zg_94_123
theorem zh_94_124 {x y : Int} : Zgo d 94 124 (L) (zi y :: zi x :: st) (I, R, al) Q ↔ Zgo d 94 125 (L) (zi (x * y) :: st) (I, R, al) Q := zg_94_124
theorem zh_94_125 {x : Int} : Zgo d 94 125 (a0 :: a1 :: a2 :: a3 :: a4 :: some (zi x) :: L) (st) (I, R, al) Q ↔ Zgo d 94 127 (a0 :: a1 :: a2 :: a3 :: a4 :: some (zi x) :: L) (zi x :: st) (I, R, al) Q := zg_94_125
theorem zh_94_127 {x y : Int} : Zgo d 94 127 (L) (zi y :: zi x :: st) (I, R, al) Q ↔ Zgo d 94 128 (L) (zi (x + y) :: st) (I, R, al) Q := zg_94_127
theorem zh_94_128 {j : Int} {c o : Nat} : Zgo d 94 128 (L) (zi j :: zq (some (c, o)) :: st) (I, R, al) Q ↔ zal (zlen (I, R, al) c) 0 j (fun x => Zgo d 94 129 (L) (zi (I c o x) :: st) (I, R, al) Q) := zg_94_128
theorem zh_94_129 {x : Int} : Zgo d 94 129 (a0 :: a1 :: a2 :: a3 :: some (zi x) :: L) (st) (I, R, al) Q ↔ Zgo d 94 131 (a0 :: a1 :: a2 :: a3 :: some (zi x) :: L) (zi x :: st) (I, R, al) Q := zg_94_129
theorem zh_94_131 {x y : Int} : Zgo d 94 131 (L) (zi y :: zi x :: st) (I, R, al) Q ↔ if zw x = zw y then Zgo d 94 134 (L) (st) (I, R, al) Q else Zgo d 94 138 (L) (st) (I, R, al) Q := zg_94_131
theorem zh_94_134 : Zgo d 94 134 (L) (st) (I, R, al) Q ↔ Zgo d 94 135 (L) (zi 1 :: st) (I, R, al) Q := zg_94_134
theorem zh_94_135 : Zgo d 94 135 (L) (st) (I, R, al) Q ↔ Zgo d 94 139 (L) (st) (I, R, al) Q := zg_94_135
theorem zh_94_138 : Zgo d 94 138 (L) (st) (I, R, al) Q ↔ Zgo d 94 139 (L) (zi 0 :: st) (I, R, al) Q := zg_94_138
theorem zh_94_139 {o : Nat} {v : Int} : Zgo d 94 139 (L) (zi v :: zq (some (11, o)) :: st) (I, R, al) Q ↔ zok 1 v False (Zgo d 94 142 (L) (st) (zsI I 11 o 4 v, R, al) Q) := zg_94_139
theorem zh_94_142 {x : Int} : Zgo d 94 142 (a0 :: a1 :: a2 :: a3 :: a4 :: some (zi x) :: L) (st) (I, R, al) Q ↔ Zgo d 94 145 (a0 :: a1 :: a2 :: a3 :: zkl a4 :: some (zi (x + 1)) :: L) (st) (I, R, al) Q := zg_94_142
theorem zh_94_145 : Zgo d 94 145 (L) (st) (I, R, al) Q ↔ Zgo d 94 104 (L) (st) (I, R, al) Q := zg_94_145
theorem zh_94_148 {x : Option (Nat × Nat)} : Zgo d 94 148 (some (zq x) :: L) (st) (I, R, al) Q ↔ Zgo d 94 149 (some (zq x) :: L) (zq x :: st) (I, R, al) Q := zg_94_148
theorem zh_94_149 {o : Nat} : Zgo d 94 149 (L) (zq (some (11, o)) :: st) (I, R, al) Q ↔ Zgo d 94 152 (L) (zq (R 11 o 16) :: st) (I, R, al) Q := zg_94_149
theorem zh_94_152 : Zgo d 94 152 (L) (st) (I, R, al) Q ↔ Zgo d 94 153 (L) (zi 3 :: st) (I, R, al) Q := zg_94_152
theorem zh_94_153 {x : Int} : Zgo d 94 153 (a0 :: some (zi x) :: L) (st) (I, R, al) Q ↔ Zgo d 94 154 (a0 :: some (zi x) :: L) (zi x :: st) (I, R, al) Q := zg_94_153
theorem zh_94_154 {x y : Int} : Zgo d 94 154 (L) (zi y :: zi x :: st) (I, R, al) Q ↔ Zgo d 94 155 (L) (zi (x * y) :: st) (I, R, al) Q := zg_94_154
theorem zh_94_155 {x : Int} : Zgo d 94 155 (a0 :: a1 :: a2 :: some (zi x) :: L) (st) (I, R, al) Q ↔ Zgo d 94 156 (a0 :: a1 :: a2 :: some (zi x) :: L) (zi x :: st) (I, R, al) Q := zg_94_155
theorem zh_94_156 {x y : Int} : Zgo d 94 156 (L) (zi y :: zi x :: st) (I, R, al) Q ↔ Zgo d 94 157 (L) (zi (x + y) :: st) (I, R, al) Q := zg_94_156
theorem zh_94_157 {x : Int} : Zgo d 94 157 (a0 :: a1 :: a2 :: a3 :: some (zi x) :: L) (st) (I, R, al) Q ↔ Zgo d 94 159 (a0 :: a1 :: a2 :: a3 :: some (zi x) :: L) (zi x :: st) (I, R, al) Q := zg_94_157
theorem zh_94_159 {v j : Int} {c o : Nat} : Zgo d 94 159 (L) (zi v :: zi j :: zq (some (c, o)) :: st) (I, R, al) Q ↔ zal (zArr c) 0 j (fun x => Zgo d 94 160 (L) (st) (zsI I c o x v, R, al) Q) := zg_94_159
theorem zh_94_160 {x : Option (Nat × Nat)} : Zgo d 94 160 (some (zq x) :: L) (st) (I, R, al) Q ↔ Zgo d 94 161 (some (zq x) :: L) (zq x :: st) (I, R, al) Q := zg_94_160
theorem zh_94_161 {o : Nat} : Zgo d 94 161 (L) (zq (some (11, o)) :: st) (I, R, al) Q ↔ Zgo d 94 164 (L) (zq (R 11 o 17) :: st) (I, R, al) Q := zg_94_161
theorem zh_94_164 : Zgo d 94 164 (L) (st) (I, R, al) Q ↔ Zgo d 94 165 (L) (zi 3 :: st) (I, R, al) Q := zg_94_164
theorem zh_94_165 {x : Int} : Zgo d 94 165 (a0 :: some (zi x) :: L) (st) (I, R, al) Q ↔ Zgo d 94 166 (a0 :: some (zi x) :: L) (zi x :: st) (I, R, al) Q := zg_94_165
theorem zh_94_166 {x y : Int} : Zgo d 94 166 (L) (zi y :: zi x :: st) (I, R, al) Q ↔ Zgo d 94 167 (L) (zi (x * y) :: st) (I, R, al) Q := zg_94_166
theorem zh_94_167 {x : Int} : Zgo d 94 167 (a0 :: a1 :: a2 :: some (zi x) :: L) (st) (I, R, al) Q ↔ Zgo d 94 168 (a0 :: a1 :: a2 :: some (zi x) :: L) (zi x :: st) (I, R, al) Q := zg_94_167
theorem zh_94_168 {x y : Int} : Zgo d 94 168 (L) (zi y :: zi x :: st) (I, R, al) Q ↔ Zgo d 94 169 (L) (zi (x + y) :: st) (I, R, al) Q := zg_94_168
theorem zh_94_169 {x : Option (Nat × Nat)} : Zgo d 94 169 (some (zq x) :: L) (st) (I, R, al) Q ↔ Zgo d 94 170 (some (zq x) :: L) (zq x :: st) (I, R, al) Q := zg_94_169
theorem zh_94_170 {o : Nat} : Zgo d 94 170 (L) (zq (some (11, o)) :: st) (I, R, al) Q ↔ if zwt st ≤ 8 then zCp d 95 [zq (some (11, o))] (I, R, al) (fun r S2 => Zgo d 94 173 L (r.toList ++ st) S2 Q) else False := zg_94_170
theorem zh_94_173 {v j : Int} {c o : Nat} : Zgo d 94 173 (L) (zi v :: zi j :: zq (some (c, o)) :: st) (I, R, al) Q ↔ zal (zArr c) 0 j (fun x => Zgo d 94 174 (L) (st) (zsI I c o x v, R, al) Q) := zg_94_173
theorem zh_94_174 {x : Option (Nat × Nat)} : Zgo d 94 174 (some (zq x) :: L) (st) (I, R, al) Q ↔ Zgo d 94 175 (some (zq x) :: L) (zq x :: st) (I, R, al) Q := zg_94_174
theorem zh_94_175 {o : Nat} : Zgo d 94 175 (L) (zq (some (11, o)) :: st) (I, R, al) Q ↔ Zgo d 94 178 (L) (zq (R 11 o 18) :: st) (I, R, al) Q := zg_94_175
theorem zh_94_178 {x : Int} : Zgo d 94 178 (a0 :: some (zi x) :: L) (st) (I, R, al) Q ↔ Zgo d 94 179 (a0 :: some (zi x) :: L) (zi x :: st) (I, R, al) Q := zg_94_178
theorem zh_94_179 {x : Int} {z : Int} : Zgo d 94 179 (L) (zi x :: zi z :: st) (I, R, al) Q ↔ Zgo d 94 180 (L) (zi x :: zi z :: zi x :: zi z :: st) (I, R, al) Q := zg_94_179
theorem zh_94_179r {x : Int} {w : Option (Nat × Nat)} : Zgo d 94 179 (L) (zi x :: zq w :: st) (I, R, al) Q ↔ Zgo d 94 180 (L) (zi x :: zq w :: zi x :: zq w :: st) (I, R, al) Q := zg_94_179
theorem zh_94_179qi {u : Option (Nat × Nat)} {z : Int} : Zgo d 94 179 (L) (zq u :: zi z :: st) (I, R, al) Q ↔ Zgo d 94 180 (L) (zq u :: zi z :: zq u :: zi z :: st) (I, R, al) Q := zg_94_179
theorem zh_94_179qr {u : Option (Nat × Nat)} {w : Option (Nat × Nat)} : Zgo d 94 179 (L) (zq u :: zq w :: st) (I, R, al) Q ↔ Zgo d 94 180 (L) (zq u :: zq w :: zq u :: zq w :: st) (I, R, al) Q := zg_94_179
theorem zh_94_180 {j : Int} {c o : Nat} : Zgo d 94 180 (L) (zi j :: zq (some (c, o)) :: st) (I, R, al) Q ↔ zal (zlen (I, R, al) c) 0 j (fun x => Zgo d 94 181 (L) (zi (I c o x) :: st) (I, R, al) Q) := zg_94_180
theorem zh_94_181 : Zgo d 94 181 (L) (st) (I, R, al) Q ↔ Zgo d 94 182 (L) (zi 1 :: st) (I, R, al) Q := zg_94_181
theorem zh_94_182 {x y : Int} : Zgo d 94 182 (L) (zi y :: zi x :: st) (I, R, al) Q ↔ Zgo d 94 183 (L) (zi (x + y) :: st) (I, R, al) Q := zg_94_182
theorem zh_94_183 {v j : Int} {c o : Nat} : Zgo d 94 183 (L) (zi v :: zi j :: zq (some (c, o)) :: st) (I, R, al) Q ↔ zal (zArr c) 0 j (fun x => Zgo d 94 184 (L) (st) (zsI I c o x v, R, al) Q) := zg_94_183
theorem zh_94_184 : Zgo d 94 184 (L) (st) (I, R, al) Q ↔ Zgo d 94 185 (L) (zi 2 :: st) (I, R, al) Q := zg_94_184
theorem zh_94_185 {x : Int} : Zgo d 94 185 (a0 :: a1 :: a2 :: some (zi x) :: L) (st) (I, R, al) Q ↔ Zgo d 94 186 (a0 :: a1 :: a2 :: some (zi x) :: L) (zi x :: st) (I, R, al) Q := zg_94_185
theorem zh_94_186 {x y : Int} : Zgo d 94 186 (L) (zi y :: zi x :: st) (I, R, al) Q ↔ Zgo d 94 187 (L) (zi (x + y) :: st) (I, R, al) Q := zg_94_186
theorem zh_94_187 {x : Int} : Zgo d 94 187 (L) (zi x :: []) (I, R, al) Q ↔ Q (some (zi x)) (I, R, al) := zg_94_187
theorem zh_94_188 {x : Option (Nat × Nat)} : Zgo d 94 188 (some (zq x) :: L) (st) (I, R, al) Q ↔ Zgo d 94 189 (some (zq x) :: L) (zq x :: st) (I, R, al) Q := zg_94_188
theorem zh_94_189 {o : Nat} : Zgo d 94 189 (L) (zq (some (11, o)) :: st) (I, R, al) Q ↔ if zwt st ≤ 8 then zCp d 87 [zq (some (11, o))] (I, R, al) (fun r S2 => Zgo d 94 192 L (r.toList ++ st) S2 Q) else False := zg_94_189
theorem zh_94_192 : Zgo d 94 192 (L) (st) (I, R, al) Q ↔ Zgo d 94 194 (L) (zi 70 :: st) (I, R, al) Q := zg_94_192
theorem zh_94_194 {x y : Int} : Zgo d 94 194 (L) (zi y :: zi x :: st) (I, R, al) Q ↔ if zw x = zw y then Zgo d 94 197 (L) (st) (I, R, al) Q else Zgo d 94 209 (L) (st) (I, R, al) Q := zg_94_194
theorem zh_94_197 {x : Option (Nat × Nat)} : Zgo d 94 197 (some (zq x) :: L) (st) (I, R, al) Q ↔ Zgo d 94 198 (some (zq x) :: L) (zq x :: st) (I, R, al) Q := zg_94_197
theorem zh_94_198 {x : Int} : Zgo d 94 198 (L) (zi x :: st) (I, R, al) Q ↔ Zgo d 94 199 (L) (zi x :: zi x :: st) (I, R, al) Q := zg_94_198
theorem zh_94_198q {u : Option (Nat × Nat)} : Zgo d 94 198 (L) (zq u :: st) (I, R, al) Q ↔ Zgo d 94 199 (L) (zq u :: zq u :: st) (I, R, al) Q := zg_94_198
theorem zh_94_199 {o : Nat} : Zgo d 94 199 (L) (zq (some (11, o)) :: st) (I, R, al) Q ↔ Zgo d 94 202 (L) (zi (I 11 o 3) :: st) (I, R, al) Q := zg_94_199
theorem zh_94_202 : Zgo d 94 202 (L) (st) (I, R, al) Q ↔ Zgo d 94 203 (L) (zi 1 :: st) (I, R, al) Q := zg_94_202
theorem zh_94_203 {x y : Int} : Zgo d 94 203 (L) (zi y :: zi x :: st) (I, R, al) Q ↔ Zgo d 94 204 (L) (zi (x + y) :: st) (I, R, al) Q := zg_94_203
theorem zh_94_204 {o : Nat} {v : Int} : Zgo d 94 204 (L) (zi v :: zq (some (11, o)) :: st) (I, R, al) Q ↔ Zgo d 94 207 (L) (st) (zsI I 11 o 3 v, R, al) Q := zg_94_204
theorem zh_94_207 : Zgo d 94 207 (L) (st) (I, R, al) Q ↔ Zgo d 94 208 (L) (zi 5 :: st) (I, R, al) Q := zg_94_207
theorem zh_94_208 {x : Int} : Zgo d 94 208 (L) (zi x :: []) (I, R, al) Q ↔ Q (some (zi x)) (I, R, al) := zg_94_208
theorem zh_94_209 {x : Option (Nat × Nat)} : Zgo d 94 209 (some (zq x) :: L) (st) (I, R, al) Q ↔ Zgo d 94 210 (some (zq x) :: L) (zq x :: st) (I, R, al) Q := zg_94_209
theorem zh_94_210 {x : Option (Nat × Nat)} : Zgo d 94 210 (some (zq x) :: L) (st) (I, R, al) Q ↔ Zgo d 94 211 (some (zq x) :: L) (zq x :: st) (I, R, al) Q := zg_94_210
theorem zh_94_211 {o : Nat} : Zgo d 94 211 (L) (zq (some (11, o)) :: st) (I, R, al) Q ↔ Zgo d 94 214 (L) (zi (I 11 o 4) :: st) (I, R, al) Q := zg_94_211
theorem zh_94_214 {x : Int} : Zgo d 94 214 (L) (zi x :: st) (I, R, al) Q ↔ if zw x = zw 0 then Zgo d 94 217 (L) (st) (I, R, al) Q else Zgo d 94 221 (L) (st) (I, R, al) Q := zg_94_214
theorem zh_94_217 {x : Int} : Zgo d 94 217 (a0 :: a1 :: a2 :: some (zi x) :: L) (st) (I, R, al) Q ↔ Zgo d 94 218 (a0 :: a1 :: a2 :: some (zi x) :: L) (zi x :: st) (I, R, al) Q := zg_94_217
theorem zh_94_218 {x : Int} : Zgo d 94 218 (L) (zi x :: st) (I, R, al) Q ↔ if zw x = zw 0 then Zgo d 94 221 (L) (st) (I, R, al) Q else Zgo d 94 225 (L) (st) (I, R, al) Q := zg_94_218
theorem zh_94_221 : Zgo d 94 221 (L) (st) (I, R, al) Q ↔ Zgo d 94 222 (L) (zi 1 :: st) (I, R, al) Q := zg_94_221
theorem zh_94_222 : Zgo d 94 222 (L) (st) (I, R, al) Q ↔ Zgo d 94 226 (L) (st) (I, R, al) Q := zg_94_222
theorem zh_94_225 : Zgo d 94 225 (L) (st) (I, R, al) Q ↔ Zgo d 94 226 (L) (zi 0 :: st) (I, R, al) Q := zg_94_225
theorem zh_94_226 {o : Nat} {v : Int} : Zgo d 94 226 (L) (zi v :: zq (some (11, o)) :: st) (I, R, al) Q ↔ zok 1 v False (Zgo d 94 229 (L) (st) (zsI I 11 o 4 v, R, al) Q) := zg_94_226
theorem zh_94_229 : Zgo d 94 229 (L) (st) (I, R, al) Q ↔ Zgo d 94 230 (L) (zi (-1) :: st) (I, R, al) Q := zg_94_229
theorem zh_94_230 {x : Int} : Zgo d 94 230 (L) (zi x :: []) (I, R, al) Q ↔ Q (some (zi x)) (I, R, al) := zg_94_230
theorem zh_95_0 {x : Option (Nat × Nat)} : Zgo d 95 0 (some (zq x) :: L) (st) (I, R, al) Q ↔ Zgo d 95 1 (some (zq x) :: L) (zq x :: st) (I, R, al) Q := zg_95_0
theorem zh_95_1 {o : Nat} : Zgo d 95 1 (L) (zq (some (11, o)) :: st) (I, R, al) Q ↔ if zwt st ≤ 8 then zCp d 87 [zq (some (11, o))] (I, R, al) (fun r S2 => Zgo d 95 4 L (r.toList ++ st) S2 Q) else False := zg_95_1
theorem zh_95_4 : Zgo d 95 4 (L) (st) (I, R, al) Q ↔ Zgo d 95 6 (L) (zi 97 :: st) (I, R, al) Q := zg_95_4
theorem zh_95_6 {x y : Int} : Zgo d 95 6 (L) (zi y :: zi x :: st) (I, R, al) Q ↔ Zgo d 95 7 (L) (zi (x - y) :: st) (I, R, al) Q := zg_95_6
theorem zh_95_7 {x : Int} : Zgo d 95 7 (a0 :: b0 :: L) (zi x :: st) (I, R, al) Q ↔ Zgo d 95 8 (zkl a0 :: some (zi x) :: L) (st) (I, R, al) Q := zg_95_7
theorem zh_95_8 {x : Option (Nat × Nat)} : Zgo d 95 8 (some (zq x) :: L) (st) (I, R, al) Q ↔ Zgo d 95 9 (some (zq x) :: L) (zq x :: st) (I, R, al) Q := zg_95_8
theorem zh_95_9 {x : Option (Nat × Nat)} : Zgo d 95 9 (some (zq x) :: L) (st) (I, R, al) Q ↔ Zgo d 95 10 (some (zq x) :: L) (zq x :: st) (I, R, al) Q := zg_95_9
theorem zh_95_10 {o : Nat} : Zgo d 95 10 (L) (zq (some (11, o)) :: st) (I, R, al) Q ↔ Zgo d 95 13 (L) (zi (I 11 o 4) :: st) (I, R, al) Q := zg_95_10
theorem zh_95_13 {x : Int} : Zgo d 95 13 (L) (zi x :: st) (I, R, al) Q ↔ if zw x = zw 0 then Zgo d 95 16 (L) (st) (I, R, al) Q else Zgo d 95 26 (L) (st) (I, R, al) Q := zg_95_13
theorem zh_95_16 {x : Int} : Zgo d 95 16 (a0 :: some (zi x) :: L) (st) (I, R, al) Q ↔ Zgo d 95 17 (a0 :: some (zi x) :: L) (zi x :: st) (I, R, al) Q := zg_95_16
theorem zh_95_17 {x : Int} : Zgo d 95 17 (L) (zi x :: st) (I, R, al) Q ↔ if zw x < zw 0 then Zgo d 95 26 (L) (st) (I, R, al) Q else Zgo d 95 20 (L) (st) (I, R, al) Q := zg_95_17
theorem zh_95_20 {x : Int} : Zgo d 95 20 (a0 :: some (zi x) :: L) (st) (I, R, al) Q ↔ Zgo d 95 21 (a0 :: some (zi x) :: L) (zi x :: st) (I, R, al) Q := zg_95_20
theorem zh_95_21 : Zgo d 95 21 (L) (st) (I, R, al) Q ↔ Zgo d 95 23 (L) (zi 7 :: st) (I, R, al) Q := zg_95_21
theorem zh_95_23 {x y : Int} : Zgo d 95 23 (L) (zi y :: zi x :: st) (I, R, al) Q ↔ if zw y < zw x then Zgo d 95 26 (L) (st) (I, R, al) Q else Zgo d 95 30 (L) (st) (I, R, al) Q := zg_95_23
theorem zh_95_26 : Zgo d 95 26 (L) (st) (I, R, al) Q ↔ Zgo d 95 27 (L) (zi 1 :: st) (I, R, al) Q := zg_95_26
theorem zh_95_27 : Zgo d 95 27 (L) (st) (I, R, al) Q ↔ Zgo d 95 31 (L) (st) (I, R, al) Q := zg_95_27
theorem zh_95_30 : Zgo d 95 30 (L) (st) (I, R, al) Q ↔ Zgo d 95 31 (L) (zi 0 :: st) (I, R, al) Q := zg_95_30
theorem zh_95_31 {o : Nat} {v : Int} : Zgo d 95 31 (L) (zi v :: zq (some (11, o)) :: st) (I, R, al) Q ↔ zok 1 v False (Zgo d 95 34 (L) (st) (zsI I 11 o 4 v, R, al) Q) := zg_95_31
theorem zh_95_34 {x : Option (Nat × Nat)} : Zgo d 95 34 (some (zq x) :: L) (st) (I, R, al) Q ↔ Zgo d 95 35 (some (zq x) :: L) (zq x :: st) (I, R, al) Q := zg_95_34
theorem zh_95_35 {x : Int} : Zgo d 95 35 (L) (zi x :: st) (I, R, al) Q ↔ Zgo d 95 36 (L) (zi x :: zi x :: st) (I, R, al) Q := zg_95_35
theorem zh_95_35q {u : Option (Nat × Nat)} : Zgo d 95 35 (L) (zq u :: st) (I, R, al) Q ↔ Zgo d 95 36 (L) (zq u :: zq u :: st) (I, R, al) Q := zg_95_35
theorem zh_95_36 {o : Nat} : Zgo d 95 36 (L) (zq (some (11, o)) :: st) (I, R, al) Q ↔ Zgo d 95 39 (L) (zi (I 11 o 3) :: st) (I, R, al) Q := zg_95_36
theorem zh_95_39 : Zgo d 95 39 (L) (st) (I, R, al) Q ↔ Zgo d 95 40 (L) (zi 1 :: st) (I, R, al) Q := zg_95_39
theorem zh_95_40 {x y : Int} : Zgo d 95 40 (L) (zi y :: zi x :: st) (I, R, al) Q ↔ Zgo d 95 41 (L) (zi (x + y) :: st) (I, R, al) Q := zg_95_40
theorem zh_95_41 {o : Nat} {v : Int} : Zgo d 95 41 (L) (zi v :: zq (some (11, o)) :: st) (I, R, al) Q ↔ Zgo d 95 44 (L) (st) (zsI I 11 o 3 v, R, al) Q := zg_95_41
theorem zh_95_44 {x : Int} : Zgo d 95 44 (a0 :: some (zi x) :: L) (st) (I, R, al) Q ↔ Zgo d 95 45 (a0 :: some (zi x) :: L) (zi x :: st) (I, R, al) Q := zg_95_44
theorem zh_95_45 {x : Int} : Zgo d 95 45 (L) (zi x :: []) (I, R, al) Q ↔ Q (some (zi x)) (I, R, al) := zg_95_45
theorem zh_96_0 {x : Option (Nat × Nat)} : Zgo d 96 0 (some (zq x) :: L) (st) (I, R, al) Q ↔ Zgo d 96 1 (some (zq x) :: L) (zq x :: st) (I, R, al) Q := zg_96_0
theorem zh_96_1 {o : Nat} : Zgo d 96 1 (L) (zq (some (11, o)) :: st) (I, R, al) Q ↔ Zgo d 96 4 (L) (zi (I 11 o 10) :: st) (I, R, al) Q := zg_96_1
theorem zh_96_4 {x : Int} : Zgo d 96 4 (a0 :: a1 :: a2 :: b0 :: L) (zi x :: st) (I, R, al) Q ↔ Zgo d 96 5 (a0 :: a1 :: zkl a2 :: some (zi x) :: L) (st) (I, R, al) Q := zg_96_4
theorem zh_96_5 {x : Option (Nat × Nat)} : Zgo d 96 5 (some (zq x) :: L) (st) (I, R, al) Q ↔ Zgo d 96 6 (some (zq x) :: L) (zq x :: st) (I, R, al) Q := zg_96_5
theorem zh_96_6 {o : Nat} : Zgo d 96 6 (L) (zq (some (11, o)) :: st) (I, R, al) Q ↔ Zgo d 96 9 (L) (zi (I 11 o 10) :: st) (I, R, al) Q := zg_96_6
theorem zh_96_9 : Zgo d 96 9 (L) (st) (I, R, al) Q ↔ Zgo d 96 12 (L) (zi 159 :: st) (I, R, al) Q := zg_96_9
theorem zh_96_12 {x y : Int} : Zgo d 96 12 (L) (zi y :: zi x :: st) (I, R, al) Q ↔ if zw x < zw y then Zgo d 96 15 (L) (st) (I, R, al) Q else Zgo d 96 25 (L) (st) (I, R, al) Q := zg_96_12
theorem zh_96_15 {x : Option (Nat × Nat)} : Zgo d 96 15 (some (zq x) :: L) (st) (I, R, al) Q ↔ Zgo d 96 16 (some (zq x) :: L) (zq x :: st) (I, R, al) Q := zg_96_15
theorem zh_96_16 {x : Int} : Zgo d 96 16 (L) (zi x :: st) (I, R, al) Q ↔ Zgo d 96 17 (L) (zi x :: zi x :: st) (I, R, al) Q := zg_96_16
theorem zh_96_16q {u : Option (Nat × Nat)} : Zgo d 96 16 (L) (zq u :: st) (I, R, al) Q ↔ Zgo d 96 17 (L) (zq u :: zq u :: st) (I, R, al) Q := zg_96_16
theorem zh_96_17 {o : Nat} : Zgo d 96 17 (L) (zq (some (11, o)) :: st) (I, R, al) Q ↔ Zgo d 96 20 (L) (zi (I 11 o 10) :: st) (I, R, al) Q := zg_96_17
theorem zh_96_20 : Zgo d 96 20 (L) (st) (I, R, al) Q ↔ Zgo d 96 21 (L) (zi 1 :: st) (I, R, al) Q := zg_96_20
theorem zh_96_21 {x y : Int} : Zgo d 96 21 (L) (zi y :: zi x :: st) (I, R, al) Q ↔ Zgo d 96 22 (L) (zi (x + y) :: st) (I, R, al) Q := zg_96_21
theorem zh_96_22 {o : Nat} {v : Int} : Zgo d 96 22 (L) (zi v :: zq (some (11, o)) :: st) (I, R, al) Q ↔ Zgo d 96 25 (L) (st) (zsI I 11 o 10 v, R, al) Q := zg_96_22
theorem zh_96_25 {x : Option (Nat × Nat)} : Zgo d 96 25 (some (zq x) :: L) (st) (I, R, al) Q ↔ Zgo d 96 26 (some (zq x) :: L) (zq x :: st) (I, R, al) Q := zg_96_25
theorem zh_96_26 {o : Nat} : Zgo d 96 26 (L) (zq (some (11, o)) :: st) (I, R, al) Q ↔ Zgo d 96 29 (L) (zq (R 11 o 11) :: st) (I, R, al) Q := zg_96_26
theorem zh_96_29 {x : Int} : Zgo d 96 29 (a0 :: a1 :: a2 :: some (zi x) :: L) (st) (I, R, al) Q ↔ Zgo d 96 30 (a0 :: a1 :: a2 :: some (zi x) :: L) (zi x :: st) (I, R, al) Q := zg_96_29
theorem zh_96_30 {x : Int} : Zgo d 96 30 (a0 :: a1 :: some (zi x) :: L) (st) (I, R, al) Q ↔ Zgo d 96 31 (a0 :: a1 :: some (zi x) :: L) (zi x :: st) (I, R, al) Q := zg_96_30
theorem zh_96_31 {v j : Int} {c o : Nat} : Zgo d 96 31 (L) (zi v :: zi j :: zq (some (c, o)) :: st) (I, R, al) Q ↔ zal (zArr c) 0 j (fun x => Zgo d 96 32 (L) (st) (zsI I c o x v, R, al) Q) := zg_96_31
theorem zh_96_32 {x : Option (Nat × Nat)} : Zgo d 96 32 (some (zq x) :: L) (st) (I, R, al) Q ↔ Zgo d 96 33 (some (zq x) :: L) (zq x :: st) (I, R, al) Q := zg_96_32
theorem zh_96_33 {o : Nat} : Zgo d 96 33 (L) (zq (some (11, o)) :: st) (I, R, al) Q ↔ Zgo d 96 36 (L) (zq (R 11 o 12) :: st) (I, R, al) Q := zg_96_33
theorem zh_96_36 {x : Int} : Zgo d 96 36 (a0 :: a1 :: a2 :: some (zi x) :: L) (st) (I, R, al) Q ↔ Zgo d 96 37 (a0 :: a1 :: a2 :: some (zi x) :: L) (zi x :: st) (I, R, al) Q := zg_96_36
theorem zh_96_37 : Zgo d 96 37 (L) (st) (I, R, al) Q ↔ Zgo d 96 38 (L) (zi 0 :: st) (I, R, al) Q := zg_96_37
theorem zh_96_38 {v j : Int} {c o : Nat} : Zgo d 96 38 (L) (zi v :: zi j :: zq (some (c, o)) :: st) (I, R, al) Q ↔ zal (zArr c) 0 j (fun x => Zgo d 96 39 (L) (st) (zsI I c o x v, R, al) Q) := zg_96_38
theorem zh_96_39 {x : Option (Nat × Nat)} : Zgo d 96 39 (some (zq x) :: L) (st) (I, R, al) Q ↔ Zgo d 96 40 (some (zq x) :: L) (zq x :: st) (I, R, al) Q := zg_96_39
theorem zh_96_40 {o : Nat} : Zgo d 96 40 (L) (zq (some (11, o)) :: st) (I, R, al) Q ↔ Zgo d 96 43 (L) (zq (R 11 o 13) :: st) (I, R, al) Q := zg_96_40
theorem zh_96_43 {x : Int} : Zgo d 96 43 (a0 :: a1 :: a2 :: some (zi x) :: L) (st) (I, R, al) Q ↔ Zgo d 96 44 (a0 :: a1 :: a2 :: some (zi x) :: L) (zi x :: st) (I, R, al) Q := zg_96_43
theorem zh_96_44 : Zgo d 96 44 (L) (st) (I, R, al) Q ↔ Zgo d 96 45 (L) (zi 0 :: st) (I, R, al) Q := zg_96_44
theorem zh_96_45 {v j : Int} {c o : Nat} : Zgo d 96 45 (L) (zi v :: zi j :: zq (some (c, o)) :: st) (I, R, al) Q ↔ zal (zArr c) 0 j (fun x => Zgo d 96 46 (L) (st) (zsI I c o x v, R, al) Q) := zg_96_45
theorem zh_96_46 {x : Option (Nat × Nat)} : Zgo d 96 46 (some (zq x) :: L) (st) (I, R, al) Q ↔ Zgo d 96 47 (some (zq x) :: L) (zq x :: st) (I, R, al) Q := zg_96_46
theorem zh_96_47 {o : Nat} : Zgo d 96 47 (L) (zq (some (11, o)) :: st) (I, R, al) Q ↔ Zgo d 96 50 (L) (zq (R 11 o 14) :: st) (I, R, al) Q := zg_96_47
theorem zh_96_50 {x : Int} : Zgo d 96 50 (a0 :: a1 :: a2 :: some (zi x) :: L) (st) (I, R, al) Q ↔ Zgo d 96 51 (a0 :: a1 :: a2 :: some (zi x) :: L) (zi x :: st) (I, R, al) Q := zg_96_50
theorem zh_96_51 : Zgo d 96 51 (L) (st) (I, R, al) Q ↔ Zgo d 96 52 (L) (zi 0 :: st) (I, R, al) Q := zg_96_51
theorem zh_96_52 {v j : Int} {c o : Nat} : Zgo d 96 52 (L) (zi v :: zi j :: zq (some (c, o)) :: st) (I, R, al) Q ↔ zal (zArr c) 0 j (fun x => Zgo d 96 53 (L) (st) (zsI I c o x v, R, al) Q) := zg_96_52
theorem zh_96_53 {x : Option (Nat × Nat)} : Zgo d 96 53 (some (zq x) :: L) (st) (I, R, al) Q ↔ Zgo d 96 54 (some (zq x) :: L) (zq x :: st) (I, R, al) Q := zg_96_53
theorem zh_96_54 {o : Nat} : Zgo d 96 54 (L) (zq (some (11, o)) :: st) (I, R, al) Q ↔ Zgo d 96 57 (L) (zq (R 11 o 18) :: st) (I, R, al) Q := zg_96_54
theorem zh_96_57 {x : Int} : Zgo d 96 57 (a0 :: a1 :: a2 :: some (zi x) :: L) (st) (I, R, al) Q ↔ Zgo d 96 58 (a0 :: a1 :: a2 :: some (zi x) :: L) (zi x :: st) (I, R, al) Q := zg_96_57
theorem zh_96_58 : Zgo d 96 58 (L) (st) (I, R, al) Q ↔ Zgo d 96 59 (L) (zi 0 :: st) (I, R, al) Q := zg_96_58
theorem zh_96_59 {v j : Int} {c o : Nat} : Zgo d 96 59 (L) (zi v :: zi j :: zq (some (c, o)) :: st) (I, R, al) Q ↔ zal (zArr c) 0 j (fun x => Zgo d 96 60 (L) (st) (zsI I c o x v, R, al) Q) := zg_96_59
theorem zh_96_60 {x : Option (Nat × Nat)} : Zgo d 96 60 (some (zq x) :: L) (st) (I, R, al) Q ↔ Zgo d 96 61 (some (zq x) :: L) (zq x :: st) (I, R, al) Q := zg_96_60
theorem zh_96_61 {o : Nat} : Zgo d 96 61 (L) (zq (some (11, o)) :: st) (I, R, al) Q ↔ Zgo d 96 64 (L) (zq (R 11 o 19) :: st) (I, R, al) Q := zg_96_61
theorem zh_96_64 {x : Int} : Zgo d 96 64 (a0 :: a1 :: a2 :: some (zi x) :: L) (st) (I, R, al) Q ↔ Zgo d 96 65 (a0 :: a1 :: a2 :: some (zi x) :: L) (zi x :: st) (I, R, al) Q := zg_96_64
theorem zh_96_65 {x : Int} : Zgo d 96 65 (a0 :: some (zi x) :: L) (st) (I, R, al) Q ↔ Zgo d 96 66 (a0 :: some (zi x) :: L) (zi x :: st) (I, R, al) Q := zg_96_65
theorem zh_96_66 {v j : Int} {c o : Nat} : Zgo d 96 66 (L) (zi v :: zi j :: zq (some (c, o)) :: st) (I, R, al) Q ↔ zal (zArr c) 0 j (fun x => Zgo d 96 67 (L) (st) (zsI I c o x v, R, al) Q) := zg_96_66
theorem zh_96_67 {x : Option (Nat × Nat)} : Zgo d 96 67 (some (zq x) :: L) (st) (I, R, al) Q ↔ Zgo d 96 68 (some (zq x) :: L) (zq x :: st) (I, R, al) Q := zg_96_67
theorem zh_96_68 {o : Nat} : Zgo d 96 68 (L) (zq (some (11, o)) :: st) (I, R, al) Q ↔ Zgo d 96 71 (L) (zq (R 11 o 20) :: st) (I, R, al) Q := zg_96_68
theorem zh_96_71 {x : Int} : Zgo d 96 71 (a0 :: a1 :: a2 :: some (zi x) :: L) (st) (I, R, al) Q ↔ Zgo d 96 72 (a0 :: a1 :: a2 :: some (zi x) :: L) (zi x :: st) (I, R, al) Q := zg_96_71
theorem zh_96_72 : Zgo d 96 72 (L) (st) (I, R, al) Q ↔ Zgo d 96 73 (L) (zi (-1) :: st) (I, R, al) Q := zg_96_72
theorem zh_96_73 {v j : Int} {c o : Nat} : Zgo d 96 73 (L) (zi v :: zi j :: zq (some (c, o)) :: st) (I, R, al) Q ↔ zal (zArr c) 0 j (fun x => Zgo d 96 74 (L) (st) (zsI I c o x v, R, al) Q) := zg_96_73
theorem zh_96_74 {x : Option (Nat × Nat)} : Zgo d 96 74 (some (zq x) :: L) (st) (I, R, al) Q ↔ Zgo d 96 75 (some (zq x) :: L) (zq x :: st) (I, R, al) Q := zg_96_74
theorem zh_96_75 {o : Nat} : Zgo d 96 75 (L) (zq (some (11, o)) :: st) (I, R, al) Q ↔ Zgo d 96 78 (L) (zq (R 11 o 21) :: st) (I, R, al) Q := zg_96_75
theorem zh_96_78 {x : Int} : Zgo d 96 78 (a0 :: a1 :: a2 :: some (zi x) :: L) (st) (I, R, al) Q ↔ Zgo d 96 79 (a0 :: a1 :: a2 :: some (zi x) :: L) (zi x :: st) (I, R, al) Q := zg_96_78
theorem zh_96_79 : Zgo d 96 79 (L) (st) (I, R, al) Q ↔ Zgo d 96 80 (L) (zi 0 :: st) (I, R, al) Q := zg_96_79
theorem zh_96_80 {v j : Int} {c o : Nat} : Zgo d 96 80 (L) (zi v :: zi j :: zq (some (c, o)) :: st) (I, R, al) Q ↔ zal (zArr c) 0 j (fun x => Zgo d 96 81 (L) (st) (zsI I c o x v, R, al) Q) := zg_96_80
theorem zh_96_81 : Zgo d 96 81 (L) (st) (I, R, al) Q ↔ Zgo d 96 82 (L) (zi 0 :: st) (I, R, al) Q := zg_96_81
theorem zh_96_82 {x : Int} : Zgo d 96 82 (a0 :: a1 :: a2 :: a3 :: b0 :: L) (zi x :: st) (I, R, al) Q ↔ Zgo d 96 84 (a0 :: a1 :: a2 :: zkl a3 :: some (zi x) :: L) (st) (I, R, al) Q := zg_96_82
theorem zh_96_84 {x : Int} : Zgo d 96 84 (a0 :: a1 :: a2 :: a3 :: some (zi x) :: L) (st) (I, R, al) Q ↔ Zgo d 96 86 (a0 :: a1 :: a2 :: a3 :: some (zi x) :: L) (zi x :: st) (I, R, al) Q := zg_96_84
theorem zh_96_86 : Zgo d 96 86 (L) (st) (I, R, al) Q ↔ Zgo d 96 88 (L) (zi 6 :: st) (I, R, al) Q := zg_96_86
theorem zh_96_88 {x y : Int} : Zgo d 96 88 (L) (zi y :: zi x :: st) (I, R, al) Q ↔ if zw x < zw y then Zgo d 96 91 (L) (st) (I, R, al) Q else Zgo d 96 110 (L) (st) (I, R, al) Q := zg_96_88
theorem zh_96_91 {x : Option (Nat × Nat)} : Zgo d 96 91 (some (zq x) :: L) (st) (I, R, al) Q ↔ Zgo d 96 92 (some (zq x) :: L) (zq x :: st) (I, R, al) Q := zg_96_91
theorem zh_96_92 {o : Nat} : Zgo d 96 92 (L) (zq (some (11, o)) :: st) (I, R, al) Q ↔ Zgo d 96 95 (L) (zq (R 11 o 15) :: st) (I, R, al) Q := zg_96_92
theorem zh_96_95 : Zgo d 96 95 (L) (st) (I, R, al) Q ↔ Zgo d 96 97 (L) (zi 6 :: st) (I, R, al) Q := zg_96_95
theorem zh_96_97 {x : Int} : Zgo d 96 97 (a0 :: a1 :: a2 :: some (zi x) :: L) (st) (I, R, al) Q ↔ Zgo d 96 98 (a0 :: a1 :: a2 :: some (zi x) :: L) (zi x :: st) (I, R, al) Q := zg_96_97
theorem zh_96_98 {x y : Int} : Zgo d 96 98 (L) (zi y :: zi x :: st) (I, R, al) Q ↔ Zgo d 96 99 (L) (zi (x * y) :: st) (I, R, al) Q := zg_96_98
theorem zh_96_99 {x : Int} : Zgo d 96 99 (a0 :: a1 :: a2 :: a3 :: some (zi x) :: L) (st) (I, R, al) Q ↔ Zgo d 96 101 (a0 :: a1 :: a2 :: a3 :: some (zi x) :: L) (zi x :: st) (I, R, al) Q := zg_96_99
theorem zh_96_101 {x y : Int} : Zgo d 96 101 (L) (zi y :: zi x :: st) (I, R, al) Q ↔ Zgo d 96 102 (L) (zi (x + y) :: st) (I, R, al) Q := zg_96_101
theorem zh_96_102 : Zgo d 96 102 (L) (st) (I, R, al) Q ↔ Zgo d 96 103 (L) (zi (-1) :: st) (I, R, al) Q := zg_96_102
theorem zh_96_103 {v j : Int} {c o : Nat} : Zgo d 96 103 (L) (zi v :: zi j :: zq (some (c, o)) :: st) (I, R, al) Q ↔ zal (zArr c) 0 j (fun x => Zgo d 96 104 (L) (st) (zsI I c o x v, R, al) Q) := zg_96_103
theorem zh_96_104 {x : Int} : Zgo d 96 104 (a0 :: a1 :: a2 :: a3 :: some (zi x) :: L) (st) (I, R, al) Q ↔ Zgo d 96 107 (a0 :: a1 :: a2 :: zkl a3 :: some (zi (x + 1)) :: L) (st) (I, R, al) Q := zg_96_104
theorem zh_96_107 : Zgo d 96 107 (L) (st) (I, R, al) Q ↔ Zgo d 96 84 (L) (st) (I, R, al) Q := zg_96_107
theorem zh_96_110 {x : Option (Nat × Nat)} : Zgo d 96 110 (some (zq x) :: L) (st) (I, R, al) Q ↔ Zgo d 96 111 (some (zq x) :: L) (zq x :: st) (I, R, al) Q := zg_96_110
theorem zh_96_111 {o : Nat} : Zgo d 96 111 (L) (zq (some (11, o)) :: st) (I, R, al) Q ↔ Zgo d 96 114 (L) (zq (R 11 o 24) :: st) (I, R, al) Q := zg_96_111
theorem zh_96_114 {x : Int} : Zgo d 96 114 (a0 :: some (zi x) :: L) (st) (I, R, al) Q ↔ Zgo d 96 115 (a0 :: some (zi x) :: L) (zi x :: st) (I, R, al) Q := zg_96_114
theorem zh_96_115 {j : Int} {c o : Nat} : Zgo d 96 115 (L) (zi j :: zq (some (c, o)) :: st) (I, R, al) Q ↔ zal (zlen (I, R, al) c) 0 j (fun x => Zgo d 96 116 (L) (zi (I c o x) :: st) (I, R, al) Q) := zg_96_115
theorem zh_96_116 {x : Int} : Zgo d 96 116 (L) (zi x :: st) (I, R, al) Q ↔ if zw x < zw 0 then Zgo d 96 119 (L) (st) (I, R, al) Q else Zgo d 96 129 (L) (st) (I, R, al) Q := zg_96_116
theorem zh_96_119 {x : Option (Nat × Nat)} : Zgo d 96 119 (some (zq x) :: L) (st) (I, R, al) Q ↔ Zgo d 96 120 (some (zq x) :: L) (zq x :: st) (I, R, al) Q := zg_96_119
theorem zh_96_120 {o : Nat} : Zgo d 96 120 (L) (zq (some (11, o)) :: st) (I, R, al) Q ↔ Zgo d 96 123 (L) (zq (R 11 o 23) :: st) (I, R, al) Q := zg_96_120
theorem zh_96_123 {x : Int} : Zgo d 96 123 (a0 :: some (zi x) :: L) (st) (I, R, al) Q ↔ Zgo d 96 124 (a0 :: some (zi x) :: L) (zi x :: st) (I, R, al) Q := zg_96_123
theorem zh_96_124 {x : Int} : Zgo d 96 124 (a0 :: a1 :: a2 :: some (zi x) :: L) (st) (I, R, al) Q ↔ Zgo d 96 125 (a0 :: a1 :: a2 :: some (zi x) :: L) (zi x :: st) (I, R, al) Q := zg_96_124
theorem zh_96_125 {v j : Int} {c o : Nat} : Zgo d 96 125 (L) (zi v :: zi j :: zq (some (c, o)) :: st) (I, R, al) Q ↔ zal (zArr c) 0 j (fun x => Zgo d 96 126 (L) (st) (zsI I c o x v, R, al) Q) := zg_96_125
theorem zh_96_126 : Zgo d 96 126 (L) (st) (I, R, al) Q ↔ Zgo d 96 141 (L) (st) (I, R, al) Q := zg_96_126
theorem zh_96_129 {x : Option (Nat × Nat)} : Zgo d 96 129 (some (zq x) :: L) (st) (I, R, al) Q ↔ Zgo d 96 130 (some (zq x) :: L) (zq x :: st) (I, R, al) Q := zg_96_129
theorem zh_96_130 {o : Nat} : Zgo d 96 130 (L) (zq (some (11, o)) :: st) (I, R, al) Q ↔ Zgo d 96 133 (L) (zq (R 11 o 20) :: st) (I, R, al) Q := zg_96_130
theorem zh_96_133 {x : Option (Nat × Nat)} : Zgo d 96 133 (some (zq x) :: L) (st) (I, R, al) Q ↔ Zgo d 96 134 (some (zq x) :: L) (zq x :: st) (I, R, al) Q := zg_96_133
theorem zh_96_134 {o : Nat} : Zgo d 96 134 (L) (zq (some (11, o)) :: st) (I, R, al) Q ↔ Zgo d 96 137 (L) (zq (R 11 o 24) :: st) (I, R, al) Q := zg_96_134
theorem zh_96_137 {x : Int} : Zgo d 96 137 (a0 :: some (zi x) :: L) (st) (I, R, al) Q ↔ Zgo d 96 138 (a0 :: some (zi x) :: L) (zi x :: st) (I, R, al) Q := zg_96_137
theorem zh_96_138 {j : Int} {c o : Nat} : Zgo d 96 138 (L) (zi j :: zq (some (c, o)) :: st) (I, R, al) Q ↔ zal (zlen (I, R, al) c) 0 j (fun x => Zgo d 96 139 (L) (zi (I c o x) :: st) (I, R, al) Q) := zg_96_138
theorem zh_96_139 {x : Int} : Zgo d 96 139 (a0 :: a1 :: a2 :: some (zi x) :: L) (st) (I, R, al) Q ↔ Zgo d 96 140 (a0 :: a1 :: a2 :: some (zi x) :: L) (zi x :: st) (I, R, al) Q := zg_96_139
theorem zh_96_140 {v j : Int} {c o : Nat} : Zgo d 96 140 (L) (zi v :: zi j :: zq (some (c, o)) :: st) (I, R, al) Q ↔ zal (zArr c) 0 j (fun x => Zgo d 96 141 (L) (st) (zsI I c o x v, R, al) Q) := zg_96_140
theorem zh_96_141 {x : Option (Nat × Nat)} : Zgo d 96 141 (some (zq x) :: L) (st) (I, R, al) Q ↔ Zgo d 96 142 (some (zq x) :: L) (zq x :: st) (I, R, al) Q := zg_96_141
theorem zh_96_142 {o : Nat} : Zgo d 96 142 (L) (zq (some (11, o)) :: st) (I, R, al) Q ↔ Zgo d 96 145 (L) (zq (R 11 o 24) :: st) (I, R, al) Q := zg_96_142
theorem zh_96_145 {x : Int} : Zgo d 96 145 (a0 :: some (zi x) :: L) (st) (I, R, al) Q ↔ Zgo d 96 146 (a0 :: some (zi x) :: L) (zi x :: st) (I, R, al) Q := zg_96_145
theorem zh_96_146 {x : Int} : Zgo d 96 146 (a0 :: a1 :: a2 :: some (zi x) :: L) (st) (I, R, al) Q ↔ Zgo d 96 147 (a0 :: a1 :: a2 :: some (zi x) :: L) (zi x :: st) (I, R, al) Q := zg_96_146
theorem zh_96_147 {v j : Int} {c o : Nat} : Zgo d 96 147 (L) (zi v :: zi j :: zq (some (c, o)) :: st) (I, R, al) Q ↔ zal (zArr c) 0 j (fun x => Zgo d 96 148 (L) (st) (zsI I c o x v, R, al) Q) := zg_96_147
theorem zh_96_148 {x : Int} : Zgo d 96 148 (a0 :: a1 :: a2 :: some (zi x) :: L) (st) (I, R, al) Q ↔ Zgo d 96 149 (a0 :: a1 :: a2 :: some (zi x) :: L) (zi x :: st) (I, R, al) Q := zg_96_148
theorem zh_96_149 {x : Int} : Zgo d 96 149 (L) (zi x :: []) (I, R, al) Q ↔ Q (some (zi x)) (I, R, al) := zg_96_149
theorem zh_97_0 {x : Int} : Zgo d 97 0 (a0 :: a1 :: some (zi x) :: L) (st) (I, R, al) Q ↔ Zgo d 97 1 (a0 :: a1 :: some (zi x) :: L) (zi x :: st) (I, R, al) Q := zg_97_0
theorem zh_97_1 : Zgo d 97 1 (L) (st) (I, R, al) Q ↔ Zgo d 97 3 (L) (zi 97 :: st) (I, R, al) Q := zg_97_1
theorem zh_97_3 {x y : Int} : Zgo d 97 3 (L) (zi y :: zi x :: st) (I, R, al) Q ↔ if zw x < zw y then Zgo d 97 49 (L) (st) (I, R, al) Q else Zgo d 97 6 (L) (st) (I, R, al) Q := zg_97_3
theorem zh_97_6 {x : Int} : Zgo d 97 6 (a0 :: a1 :: some (zi x) :: L) (st) (I, R, al) Q ↔ Zgo d 97 7 (a0 :: a1 :: some (zi x) :: L) (zi x :: st) (I, R, al) Q := zg_97_6
theorem zh_97_7 : Zgo d 97 7 (L) (st) (I, R, al) Q ↔ Zgo d 97 9 (L) (zi 104 :: st) (I, R, al) Q := zg_97_7
theorem zh_97_9 {x y : Int} : Zgo d 97 9 (L) (zi y :: zi x :: st) (I, R, al) Q ↔ if zw y < zw x then Zgo d 97 49 (L) (st) (I, R, al) Q else Zgo d 97 12 (L) (st) (I, R, al) Q := zg_97_9
theorem zh_97_12 {x : Option (Nat × Nat)} : Zgo d 97 12 (some (zq x) :: L) (st) (I, R, al) Q ↔ Zgo d 97 13 (some (zq x) :: L) (zq x :: st) (I, R, al) Q := zg_97_12
theorem zh_97_13 {o : Nat} : Zgo d 97 13 (L) (zq (some (11, o)) :: st) (I, R, al) Q ↔ Zgo d 97 16 (L) (zq (R 11 o 12) :: st) (I, R, al) Q := zg_97_13
theorem zh_97_16 {x : Int} : Zgo d 97 16 (a0 :: some (zi x) :: L) (st) (I, R, al) Q ↔ Zgo d 97 17 (a0 :: some (zi x) :: L) (zi x :: st) (I, R, al) Q := zg_97_16
theorem zh_97_17 {x : Int} : Zgo d 97 17 (a0 :: a1 :: some (zi x) :: L) (st) (I, R, al) Q ↔ Zgo d 97 18 (a0 :: a1 :: some (zi x) :: L) (zi x :: st) (I, R, al) Q := zg_97_17
theorem zh_97_18 : Zgo d 97 18 (L) (st) (I, R, al) Q ↔ Zgo d 97 20 (L) (zi 97 :: st) (I, R, al) Q := zg_97_18
theorem zh_97_20 {x y : Int} : Zgo d 97 20 (L) (zi y :: zi x :: st) (I, R, al) Q ↔ Zgo d 97 21 (L) (zi (x - y) :: st) (I, R, al) Q := zg_97_20
theorem zh_97_21 {v j : Int} {c o : Nat} : Zgo d 97 21 (L) (zi v :: zi j :: zq (some (c, o)) :: st) (I, R, al) Q ↔ zal (zArr c) 0 j (fun x => Zgo d 97 22 (L) (st) (zsI I c o x v, R, al) Q) := zg_97_21
theorem zh_97_22 {x : Option (Nat × Nat)} : Zgo d 97 22 (some (zq x) :: L) (st) (I, R, al) Q ↔ Zgo d 97 23 (some (zq x) :: L) (zq x :: st) (I, R, al) Q := zg_97_22
theorem zh_97_23 {o : Nat} : Zgo d 97 23 (L) (zq (some (11, o)) :: st) (I, R, al) Q ↔ Zgo d 97 26 (L) (zq (R 11 o 11) :: st) (I, R, al) Q := zg_97_23
theorem zh_97_26 {x : Int} : Zgo d 97 26 (a0 :: some (zi x) :: L) (st) (I, R, al) Q ↔ Zgo d 97 27 (a0 :: some (zi x) :: L) (zi x :: st) (I, R, al) Q := zg_97_26
theorem zh_97_27 : Zgo d 97 27 (L) (st) (I, R, al) Q ↔ Zgo d 97 29 (L) (zi 61 :: st) (I, R, al) Q := zg_97_27
theorem zh_97_29 {v j : Int} {c o : Nat} : Zgo d 97 29 (L) (zi v :: zi j :: zq (some (c, o)) :: st) (I, R, al) Q ↔ zal (zArr c) 0 j (fun x => Zgo d 97 30 (L) (st) (zsI I c o x v, R, al) Q) := zg_97_29
theorem zh_97_30 {x : Option (Nat × Nat)} : Zgo d 97 30 (some (zq x) :: L) (st) (I, R, al) Q ↔ Zgo d 97 31 (some (zq x) :: L) (zq x :: st) (I, R, al) Q := zg_97_30
theorem zh_97_31 : Zgo d 97 31 (L) (st) (I, R, al) Q ↔ Zgo d 97 33 (L) (zi 61 :: st) (I, R, al) Q := zg_97_31
theorem zh_97_33 {v1 : zV} {o : Nat} : Zgo d 97 33 (L) (v1 :: zq (some (11, o)) :: st) (I, R, al) Q ↔ if zwt st ≤ 8 then zCp d 93 [zq (some (11, o)), v1] (I, R, al) (fun r S2 => Zgo d 97 36 L (r.toList ++ st) S2 Q) else False := zg_97_33
theorem zh_97_36 {x : Option (Nat × Nat)} : Zgo d 97 36 (some (zq x) :: L) (st) (I, R, al) Q ↔ Zgo d 97 37 (some (zq x) :: L) (zq x :: st) (I, R, al) Q := zg_97_36
theorem zh_97_37 {x : Int} : Zgo d 97 37 (a0 :: some (zi x) :: L) (st) (I, R, al) Q ↔ Zgo d 97 38 (a0 :: some (zi x) :: L) (zi x :: st) (I, R, al) Q := zg_97_37
theorem zh_97_38 {v1 : zV} {o : Nat} : Zgo d 97 38 (L) (v1 :: zq (some (11, o)) :: st) (I, R, al) Q ↔ if zwt st ≤ 8 then zCp d 98 [zq (some (11, o)), v1] (I, R, al) (fun r S2 => Zgo d 97 41 L (r.toList ++ st) S2 Q) else False := zg_97_38
theorem zh_97_41 {x : Option (Nat × Nat)} : Zgo d 97 41 (some (zq x) :: L) (st) (I, R, al) Q ↔ Zgo d 97 42 (some (zq x) :: L) (zq x :: st) (I, R, al) Q := zg_97_41
theorem zh_97_42 : Zgo d 97 42 (L) (st) (I, R, al) Q ↔ Zgo d 97 44 (L) (zi 59 :: st) (I, R, al) Q := zg_97_42
theorem zh_97_44 {v1 : zV} {o : Nat} : Zgo d 97 44 (L) (v1 :: zq (some (11, o)) :: st) (I, R, al) Q ↔ if zwt st ≤ 8 then zCp d 93 [zq (some (11, o)), v1] (I, R, al) (fun r S2 => Zgo d 97 47 L (r.toList ++ st) S2 Q) else False := zg_97_44
theorem zh_97_47 : Zgo d 97 47 (L) (st) (I, R, al) Q ↔ Zgo d 97 48 (L) (zi (-1) :: st) (I, R, al) Q := zg_97_47
theorem zh_97_48 {x : Int} : Zgo d 97 48 (L) (zi x :: []) (I, R, al) Q ↔ Q (some (zi x)) (I, R, al) := zg_97_48
theorem zh_97_49 {x : Int} : Zgo d 97 49 (a0 :: a1 :: some (zi x) :: L) (st) (I, R, al) Q ↔ Zgo d 97 50 (a0 :: a1 :: some (zi x) :: L) (zi x :: st) (I, R, al) Q := zg_97_49
theorem zh_97_50 : Zgo d 97 50 (L) (st) (I, R, al) Q ↔ Zgo d 97 52 (L) (zi 33 :: st) (I, R, al) Q := zg_97_50
theorem zh_97_52 {x y : Int} : Zgo d 97 52 (L) (zi y :: zi x :: st) (I, R, al) Q ↔ if zw x = zw y then Zgo d 97 55 (L) (st) (I, R, al) Q else Zgo d 97 68 (L) (st) (I, R, al) Q := zg_97_52
theorem zh_97_55 {x : Option (Nat × Nat)} : Zgo d 97 55 (some (zq x) :: L) (st) (I, R, al) Q ↔ Zgo d 97 56 (some (zq x) :: L) (zq x :: st) (I, R, al) Q := zg_97_55
theorem zh_97_56 {x : Int} : Zgo d 97 56 (a0 :: some (zi x) :: L) (st) (I, R, al) Q ↔ Zgo d 97 57 (a0 :: some (zi x) :: L) (zi x :: st) (I, R, al) Q := zg_97_56
theorem zh_97_57 {v1 : zV} {o : Nat} : Zgo d 97 57 (L) (v1 :: zq (some (11, o)) :: st) (I, R, al) Q ↔ if zwt st ≤ 8 then zCp d 98 [zq (some (11, o)), v1] (I, R, al) (fun r S2 => Zgo d 97 60 L (r.toList ++ st) S2 Q) else False := zg_97_57
theorem zh_97_60 {x : Option (Nat × Nat)} : Zgo d 97 60 (some (zq x) :: L) (st) (I, R, al) Q ↔ Zgo d 97 61 (some (zq x) :: L) (zq x :: st) (I, R, al) Q := zg_97_60
theorem zh_97_61 : Zgo d 97 61 (L) (st) (I, R, al) Q ↔ Zgo d 97 63 (L) (zi 59 :: st) (I, R, al) Q := zg_97_61
theorem zh_97_63 {v1 : zV} {o : Nat} : Zgo d 97 63 (L) (v1 :: zq (some (11, o)) :: st) (I, R, al) Q ↔ if zwt st ≤ 8 then zCp d 93 [zq (some (11, o)), v1] (I, R, al) (fun r S2 => Zgo d 97 66 L (r.toList ++ st) S2 Q) else False := zg_97_63
theorem zh_97_66 : Zgo d 97 66 (L) (st) (I, R, al) Q ↔ Zgo d 97 67 (L) (zi (-1) :: st) (I, R, al) Q := zg_97_66
theorem zh_97_67 {x : Int} : Zgo d 97 67 (L) (zi x :: []) (I, R, al) Q ↔ Q (some (zi x)) (I, R, al) := zg_97_67
theorem zh_97_68 {x : Int} : Zgo d 97 68 (a0 :: a1 :: some (zi x) :: L) (st) (I, R, al) Q ↔ Zgo d 97 69 (a0 :: a1 :: some (zi x) :: L) (zi x :: st) (I, R, al) Q := zg_97_68
theorem zh_97_69 : Zgo d 97 69 (L) (st) (I, R, al) Q ↔ Zgo d 97 71 (L) (zi 63 :: st) (I, R, al) Q := zg_97_69
theorem zh_97_71 {x y : Int} : Zgo d 97 71 (L) (zi y :: zi x :: st) (I, R, al) Q ↔ if zw x = zw y then Zgo d 97 80 (L) (st) (I, R, al) Q else Zgo d 97 74 (L) (st) (I, R, al) Q := zg_97_71
theorem zh_97_74 {x : Int} : Zgo d 97 74 (a0 :: a1 :: some (zi x) :: L) (st) (I, R, al) Q ↔ Zgo d 97 75 (a0 :: a1 :: some (zi x) :: L) (zi x :: st) (I, R, al) Q := zg_97_74
theorem zh_97_75 : Zgo d 97 75 (L) (st) (I, R, al) Q ↔ Zgo d 97 77 (L) (zi 64 :: st) (I, R, al) Q := zg_97_75
theorem zh_97_77 {x y : Int} : Zgo d 97 77 (L) (zi y :: zi x :: st) (I, R, al) Q ↔ if zw x = zw y then Zgo d 97 80 (L) (st) (I, R, al) Q else Zgo d 97 87 (L) (st) (I, R, al) Q := zg_97_77
theorem zh_97_80 {x : Option (Nat × Nat)} : Zgo d 97 80 (some (zq x) :: L) (st) (I, R, al) Q ↔ Zgo d 97 81 (some (zq x) :: L) (zq x :: st) (I, R, al) Q := zg_97_80
theorem zh_97_81 {x : Int} : Zgo d 97 81 (a0 :: some (zi x) :: L) (st) (I, R, al) Q ↔ Zgo d 97 82 (a0 :: some (zi x) :: L) (zi x :: st) (I, R, al) Q := zg_97_81
theorem zh_97_82 {v1 : zV} {o : Nat} : Zgo d 97 82 (L) (v1 :: zq (some (11, o)) :: st) (I, R, al) Q ↔ if zwt st ≤ 8 then zCp d 98 [zq (some (11, o)), v1] (I, R, al) (fun r S2 => Zgo d 97 85 L (r.toList ++ st) S2 Q) else False := zg_97_82
theorem zh_97_85 : Zgo d 97 85 (L) (st) (I, R, al) Q ↔ Zgo d 97 86 (L) (zi 0 :: st) (I, R, al) Q := zg_97_85
theorem zh_97_86 {x : Int} : Zgo d 97 86 (L) (zi x :: []) (I, R, al) Q ↔ Q (some (zi x)) (I, R, al) := zg_97_86
theorem zh_97_87 {x : Int} : Zgo d 97 87 (a0 :: a1 :: some (zi x) :: L) (st) (I, R, al) Q ↔ Zgo d 97 88 (a0 :: a1 :: some (zi x) :: L) (zi x :: st) (I, R, al) Q := zg_97_87
theorem zh_97_88 : Zgo d 97 88 (L) (st) (I, R, al) Q ↔ Zgo d 97 90 (L) (zi 84 :: st) (I, R, al) Q := zg_97_88
theorem zh_97_90 {x y : Int} : Zgo d 97 90 (L) (zi y :: zi x :: st) (I, R, al) Q ↔ if zw x = zw y then Zgo d 97 93 (L) (st) (I, R, al) Q else Zgo d 97 116 (L) (st) (I, R, al) Q := zg_97_90
theorem zh_97_93 {x : Option (Nat × Nat)} : Zgo d 97 93 (some (zq x) :: L) (st) (I, R, al) Q ↔ Zgo d 97 94 (some (zq x) :: L) (zq x :: st) (I, R, al) Q := zg_97_93
theorem zh_97_94 {o : Nat} : Zgo d 97 94 (L) (zq (some (11, o)) :: st) (I, R, al) Q ↔ Zgo d 97 97 (L) (zq (R 11 o 12) :: st) (I, R, al) Q := zg_97_94
theorem zh_97_97 {x : Int} : Zgo d 97 97 (a0 :: some (zi x) :: L) (st) (I, R, al) Q ↔ Zgo d 97 98 (a0 :: some (zi x) :: L) (zi x :: st) (I, R, al) Q := zg_97_97
theorem zh_97_98 {x : Option (Nat × Nat)} : Zgo d 97 98 (some (zq x) :: L) (st) (I, R, al) Q ↔ Zgo d 97 99 (some (zq x) :: L) (zq x :: st) (I, R, al) Q := zg_97_98
theorem zh_97_99 {o : Nat} : Zgo d 97 99 (L) (zq (some (11, o)) :: st) (I, R, al) Q ↔ if zwt st ≤ 8 then zCp d 90 [zq (some (11, o))] (I, R, al) (fun r S2 => Zgo d 97 102 L (r.toList ++ st) S2 Q) else False := zg_97_99
theorem zh_97_102 {v j : Int} {c o : Nat} : Zgo d 97 102 (L) (zi v :: zi j :: zq (some (c, o)) :: st) (I, R, al) Q ↔ zal (zArr c) 0 j (fun x => Zgo d 97 103 (L) (st) (zsI I c o x v, R, al) Q) := zg_97_102
theorem zh_97_103 {x : Option (Nat × Nat)} : Zgo d 97 103 (some (zq x) :: L) (st) (I, R, al) Q ↔ Zgo d 97 104 (some (zq x) :: L) (zq x :: st) (I, R, al) Q := zg_97_103
theorem zh_97_104 {x : Int} : Zgo d 97 104 (a0 :: some (zi x) :: L) (st) (I, R, al) Q ↔ Zgo d 97 105 (a0 :: some (zi x) :: L) (zi x :: st) (I, R, al) Q := zg_97_104
theorem zh_97_105 {v1 : zV} {o : Nat} : Zgo d 97 105 (L) (v1 :: zq (some (11, o)) :: st) (I, R, al) Q ↔ if zwt st ≤ 8 then zCp d 98 [zq (some (11, o)), v1] (I, R, al) (fun r S2 => Zgo d 97 108 L (r.toList ++ st) S2 Q) else False := zg_97_105
theorem zh_97_108 {x : Option (Nat × Nat)} : Zgo d 97 108 (some (zq x) :: L) (st) (I, R, al) Q ↔ Zgo d 97 109 (some (zq x) :: L) (zq x :: st) (I, R, al) Q := zg_97_108
theorem zh_97_109 : Zgo d 97 109 (L) (st) (I, R, al) Q ↔ Zgo d 97 111 (L) (zi 59 :: st) (I, R, al) Q := zg_97_109
theorem zh_97_111 {v1 : zV} {o : Nat} : Zgo d 97 111 (L) (v1 :: zq (some (11, o)) :: st) (I, R, al) Q ↔ if zwt st ≤ 8 then zCp d 93 [zq (some (11, o)), v1] (I, R, al) (fun r S2 => Zgo d 97 114 L (r.toList ++ st) S2 Q) else False := zg_97_111
theorem zh_97_114 : Zgo d 97 114 (L) (st) (I, R, al) Q ↔ Zgo d 97 115 (L) (zi (-1) :: st) (I, R, al) Q := zg_97_114
theorem zh_97_115 {x : Int} : Zgo d 97 115 (L) (zi x :: []) (I, R, al) Q ↔ Q (some (zi x)) (I, R, al) := zg_97_115
theorem zh_97_116 {x : Int} : Zgo d 97 116 (a0 :: a1 :: some (zi x) :: L) (st) (I, R, al) Q ↔ Zgo d 97 117 (a0 :: a1 :: some (zi x) :: L) (zi x :: st) (I, R, al) Q := zg_97_116
theorem zh_97_117 : Zgo d 97 117 (L) (st) (I, R, al) Q ↔ Zgo d 97 119 (L) (zi 80 :: st) (I, R, al) Q := zg_97_117
theorem zh_97_119 {x y : Int} : Zgo d 97 119 (L) (zi y :: zi x :: st) (I, R, al) Q ↔ if zw x = zw y then Zgo d 97 122 (L) (st) (I, R, al) Q else Zgo d 97 140 (L) (st) (I, R, al) Q := zg_97_119
theorem zh_97_122 {x : Option (Nat × Nat)} : Zgo d 97 122 (some (zq x) :: L) (st) (I, R, al) Q ↔ Zgo d 97 123 (some (zq x) :: L) (zq x :: st) (I, R, al) Q := zg_97_122
theorem zh_97_123 {o : Nat} : Zgo d 97 123 (L) (zq (some (11, o)) :: st) (I, R, al) Q ↔ Zgo d 97 126 (L) (zq (R 11 o 12) :: st) (I, R, al) Q := zg_97_123
theorem zh_97_126 {x : Int} : Zgo d 97 126 (a0 :: some (zi x) :: L) (st) (I, R, al) Q ↔ Zgo d 97 127 (a0 :: some (zi x) :: L) (zi x :: st) (I, R, al) Q := zg_97_126
theorem zh_97_127 {x : Option (Nat × Nat)} : Zgo d 97 127 (some (zq x) :: L) (st) (I, R, al) Q ↔ Zgo d 97 128 (some (zq x) :: L) (zq x :: st) (I, R, al) Q := zg_97_127
theorem zh_97_128 {o : Nat} : Zgo d 97 128 (L) (zq (some (11, o)) :: st) (I, R, al) Q ↔ if zwt st ≤ 8 then zCp d 88 [zq (some (11, o))] (I, R, al) (fun r S2 => Zgo d 97 131 L (r.toList ++ st) S2 Q) else False := zg_97_128
theorem zh_97_131 {v j : Int} {c o : Nat} : Zgo d 97 131 (L) (zi v :: zi j :: zq (some (c, o)) :: st) (I, R, al) Q ↔ zal (zArr c) 0 j (fun x => Zgo d 97 132 (L) (st) (zsI I c o x v, R, al) Q) := zg_97_131
theorem zh_97_132 {x : Option (Nat × Nat)} : Zgo d 97 132 (some (zq x) :: L) (st) (I, R, al) Q ↔ Zgo d 97 133 (some (zq x) :: L) (zq x :: st) (I, R, al) Q := zg_97_132
theorem zh_97_133 : Zgo d 97 133 (L) (st) (I, R, al) Q ↔ Zgo d 97 135 (L) (zi 59 :: st) (I, R, al) Q := zg_97_133
theorem zh_97_135 {v1 : zV} {o : Nat} : Zgo d 97 135 (L) (v1 :: zq (some (11, o)) :: st) (I, R, al) Q ↔ if zwt st ≤ 8 then zCp d 93 [zq (some (11, o)), v1] (I, R, al) (fun r S2 => Zgo d 97 138 L (r.toList ++ st) S2 Q) else False := zg_97_135
theorem zh_97_138 : Zgo d 97 138 (L) (st) (I, R, al) Q ↔ Zgo d 97 139 (L) (zi (-1) :: st) (I, R, al) Q := zg_97_138
theorem zh_97_139 {x : Int} : Zgo d 97 139 (L) (zi x :: []) (I, R, al) Q ↔ Q (some (zi x)) (I, R, al) := zg_97_139
theorem zh_97_140 {x : Int} : Zgo d 97 140 (a0 :: a1 :: some (zi x) :: L) (st) (I, R, al) Q ↔ Zgo d 97 141 (a0 :: a1 :: some (zi x) :: L) (zi x :: st) (I, R, al) Q := zg_97_140
theorem zh_97_141 : Zgo d 97 141 (L) (st) (I, R, al) Q ↔ Zgo d 97 143 (L) (zi 89 :: st) (I, R, al) Q := zg_97_141
theorem zh_97_143 {x y : Int} : Zgo d 97 143 (L) (zi y :: zi x :: st) (I, R, al) Q ↔ if zw x = zw y then Zgo d 97 146 (L) (st) (I, R, al) Q else Zgo d 97 148 (L) (st) (I, R, al) Q := zg_97_143
theorem zh_97_146 : Zgo d 97 146 (L) (st) (I, R, al) Q ↔ Zgo d 97 147 (L) (zi 0 :: st) (I, R, al) Q := zg_97_146
theorem zh_97_147 {x : Int} : Zgo d 97 147 (L) (zi x :: []) (I, R, al) Q ↔ Q (some (zi x)) (I, R, al) := zg_97_147
theorem zh_97_148 {x : Option (Nat × Nat)} : Zgo d 97 148 (some (zq x) :: L) (st) (I, R, al) Q ↔ Zgo d 97 149 (some (zq x) :: L) (zq x :: st) (I, R, al) Q := zg_97_148
theorem zh_97_149 {x : Option (Nat × Nat)} : Zgo d 97 149 (some (zq x) :: L) (st) (I, R, al) Q ↔ Zgo d 97 150 (some (zq x) :: L) (zq x :: st) (I, R, al) Q := zg_97_149
theorem zh_97_150 {o : Nat} : Zgo d 97 150 (L) (zq (some (11, o)) :: st) (I, R, al) Q ↔ Zgo d 97 153 (L) (zi (I 11 o 4) :: st) (I, R, al) Q := zg_97_150
theorem zh_97_153 {x : Int} : Zgo d 97 153 (L) (zi x :: st) (I, R, al) Q ↔ if zw x = zw 0 then Zgo d 97 156 (L) (st) (I, R, al) Q else Zgo d 97 180 (L) (st) (I, R, al) Q := zg_97_153
theorem zh_97_156 {x : Int} : Zgo d 97 156 (a0 :: a1 :: some (zi x) :: L) (st) (I, R, al) Q ↔ Zgo d 97 157 (a0 :: a1 :: some (zi x) :: L) (zi x :: st) (I, R, al) Q := zg_97_156
theorem zh_97_157 : Zgo d 97 157 (L) (st) (I, R, al) Q ↔ Zgo d 97 159 (L) (zi 66 :: st) (I, R, al) Q := zg_97_157
theorem zh_97_159 {x y : Int} : Zgo d 97 159 (L) (zi y :: zi x :: st) (I, R, al) Q ↔ if zw x = zw y then Zgo d 97 184 (L) (st) (I, R, al) Q else Zgo d 97 162 (L) (st) (I, R, al) Q := zg_97_159
theorem zh_97_162 {x : Int} : Zgo d 97 162 (a0 :: a1 :: some (zi x) :: L) (st) (I, R, al) Q ↔ Zgo d 97 163 (a0 :: a1 :: some (zi x) :: L) (zi x :: st) (I, R, al) Q := zg_97_162
theorem zh_97_163 : Zgo d 97 163 (L) (st) (I, R, al) Q ↔ Zgo d 97 165 (L) (zi 67 :: st) (I, R, al) Q := zg_97_163
theorem zh_97_165 {x y : Int} : Zgo d 97 165 (L) (zi y :: zi x :: st) (I, R, al) Q ↔ if zw x = zw y then Zgo d 97 184 (L) (st) (I, R, al) Q else Zgo d 97 168 (L) (st) (I, R, al) Q := zg_97_165
theorem zh_97_168 {x : Int} : Zgo d 97 168 (a0 :: a1 :: some (zi x) :: L) (st) (I, R, al) Q ↔ Zgo d 97 169 (a0 :: a1 :: some (zi x) :: L) (zi x :: st) (I, R, al) Q := zg_97_168
theorem zh_97_169 : Zgo d 97 169 (L) (st) (I, R, al) Q ↔ Zgo d 97 171 (L) (zi 82 :: st) (I, R, al) Q := zg_97_169
theorem zh_97_171 {x y : Int} : Zgo d 97 171 (L) (zi y :: zi x :: st) (I, R, al) Q ↔ if zw x = zw y then Zgo d 97 184 (L) (st) (I, R, al) Q else Zgo d 97 174 (L) (st) (I, R, al) Q := zg_97_171
theorem zh_97_174 {x : Int} : Zgo d 97 174 (a0 :: a1 :: some (zi x) :: L) (st) (I, R, al) Q ↔ Zgo d 97 175 (a0 :: a1 :: some (zi x) :: L) (zi x :: st) (I, R, al) Q := zg_97_174
theorem zh_97_175 : Zgo d 97 175 (L) (st) (I, R, al) Q ↔ Zgo d 97 177 (L) (zi 88 :: st) (I, R, al) Q := zg_97_175
theorem zh_97_177 {x y : Int} : Zgo d 97 177 (L) (zi y :: zi x :: st) (I, R, al) Q ↔ if zw x = zw y then Zgo d 97 184 (L) (st) (I, R, al) Q else Zgo d 97 180 (L) (st) (I, R, al) Q := zg_97_177
theorem zh_97_180 : Zgo d 97 180 (L) (st) (I, R, al) Q ↔ Zgo d 97 181 (L) (zi 1 :: st) (I, R, al) Q := zg_97_180
theorem zh_97_181 : Zgo d 97 181 (L) (st) (I, R, al) Q ↔ Zgo d 97 185 (L) (st) (I, R, al) Q := zg_97_181
theorem zh_97_184 : Zgo d 97 184 (L) (st) (I, R, al) Q ↔ Zgo d 97 185 (L) (zi 0 :: st) (I, R, al) Q := zg_97_184
theorem zh_97_185 {o : Nat} {v : Int} : Zgo d 97 185 (L) (zi v :: zq (some (11, o)) :: st) (I, R, al) Q ↔ zok 1 v False (Zgo d 97 188 (L) (st) (zsI I 11 o 4 v, R, al) Q) := zg_97_185
theorem zh_97_188 {x : Option (Nat × Nat)} : Zgo d 97 188 (some (zq x) :: L) (st) (I, R, al) Q ↔ Zgo d 97 189 (some (zq x) :: L) (zq x :: st) (I, R, al) Q := zg_97_188
theorem zh_97_189 : Zgo d 97 189 (L) (st) (I, R, al) Q ↔ Zgo d 97 191 (L) (zi 59 :: st) (I, R, al) Q := zg_97_189
theorem zh_97_191 {v1 : zV} {o : Nat} : Zgo d 97 191 (L) (v1 :: zq (some (11, o)) :: st) (I, R, al) Q ↔ if zwt st ≤ 8 then zCp d 93 [zq (some (11, o)), v1] (I, R, al) (fun r S2 => Zgo d 97 194 L (r.toList ++ st) S2 Q) else False := zg_97_191
theorem zh_97_194 : Zgo d 97 194 (L) (st) (I, R, al) Q ↔ Zgo d 97 195 (L) (zi (-1) :: st) (I, R, al) Q := zg_97_194
theorem zh_97_195 {x : Int} : Zgo d 97 195 (L) (zi x :: []) (I, R, al) Q ↔ Q (some (zi x)) (I, R, al) := zg_97_195
theorem zh_98_0 {x : Option (Nat × Nat)} : Zgo d 98 0 (some (zq x) :: L) (st) (I, R, al) Q ↔ Zgo d 98 1 (some (zq x) :: L) (zq x :: st) (I, R, al) Q := zg_98_0
theorem zh_98_1 {o : Nat} : Zgo d 98 1 (L) (zq (some (11, o)) :: st) (I, R, al) Q ↔ Zgo d 98 4 (L) (zq (R 11 o 13) :: st) (I, R, al) Q := zg_98_1
theorem zh_98_4 {x : Int} : Zgo d 98 4 (a0 :: some (zi x) :: L) (st) (I, R, al) Q ↔ Zgo d 98 5 (a0 :: some (zi x) :: L) (zi x :: st) (I, R, al) Q := zg_98_4
theorem zh_98_5 {x : Option (Nat × Nat)} : Zgo d 98 5 (some (zq x) :: L) (st) (I, R, al) Q ↔ Zgo d 98 6 (some (zq x) :: L) (zq x :: st) (I, R, al) Q := zg_98_5
theorem zh_98_6 {o : Nat} : Zgo d 98 6 (L) (zq (some (11, o)) :: st) (I, R, al) Q ↔ Zgo d 98 9 (L) (zi (I 11 o 28) :: st) (I, R, al) Q := zg_98_6
theorem zh_98_9 {v j : Int} {c o : Nat} : Zgo d 98 9 (L) (zi v :: zi j :: zq (some (c, o)) :: st) (I, R, al) Q ↔ zal (zArr c) 0 j (fun x => Zgo d 98 10 (L) (st) (zsI I c o x v, R, al) Q) := zg_98_9
theorem zh_98_10 : Zgo d 98 10 (L) (st) (I, R, al) Q ↔ Zgo d 98 11 (L) (zi 0 :: st) (I, R, al) Q := zg_98_10
theorem zh_98_11 {x : Int} : Zgo d 98 11 (a0 :: a1 :: b0 :: L) (zi x :: st) (I, R, al) Q ↔ Zgo d 98 12 (a0 :: zkl a1 :: some (zi x) :: L) (st) (I, R, al) Q := zg_98_11
theorem zh_98_12 {x : Option (Nat × Nat)} : Zgo d 98 12 (some (zq x) :: L) (st) (I, R, al) Q ↔ Zgo d 98 13 (some (zq x) :: L) (zq x :: st) (I, R, al) Q := zg_98_12
theorem zh_98_13 {o : Nat} : Zgo d 98 13 (L) (zq (some (11, o)) :: st) (I, R, al) Q ↔ Zgo d 98 16 (L) (zq (R 11 o 32) :: st) (I, R, al) Q := zg_98_13
theorem zh_98_16 : Zgo d 98 16 (L) (st) (I, R, al) Q ↔ Zgo d 98 17 (L) (zi 0 :: st) (I, R, al) Q := zg_98_16
theorem zh_98_17 : Zgo d 98 17 (L) (st) (I, R, al) Q ↔ Zgo d 98 18 (L) (zi 0 :: st) (I, R, al) Q := zg_98_17
theorem zh_98_18 {v j : Int} {c o : Nat} : Zgo d 98 18 (L) (zi v :: zi j :: zq (some (c, o)) :: st) (I, R, al) Q ↔ zal (zArr c) 0 j (fun x => Zgo d 98 19 (L) (st) (zsI I c o x v, R, al) Q) := zg_98_18
theorem zh_98_19 : Zgo d 98 19 (L) (st) (I, R, al) Q ↔ Zgo d 98 20 (L) (zi 1 :: st) (I, R, al) Q := zg_98_19
theorem zh_98_20 {x : Int} : Zgo d 98 20 (a0 :: a1 :: a2 :: b0 :: L) (zi x :: st) (I, R, al) Q ↔ Zgo d 98 21 (a0 :: a1 :: zkl a2 :: some (zi x) :: L) (st) (I, R, al) Q := zg_98_20
theorem zh_98_21 : Zgo d 98 21 (L) (st) (I, R, al) Q ↔ Zgo d 98 22 (L) (zi 1 :: st) (I, R, al) Q := zg_98_21
theorem zh_98_22 {x : Int} : Zgo d 98 22 (a0 :: a1 :: a2 :: a3 :: b0 :: L) (zi x :: st) (I, R, al) Q ↔ Zgo d 98 24 (a0 :: a1 :: a2 :: zkl a3 :: some (zi x) :: L) (st) (I, R, al) Q := zg_98_22
theorem zh_98_24 {x : Int} : Zgo d 98 24 (a0 :: a1 :: a2 :: a3 :: some (zi x) :: L) (st) (I, R, al) Q ↔ Zgo d 98 26 (a0 :: a1 :: a2 :: a3 :: some (zi x) :: L) (zi x :: st) (I, R, al) Q := zg_98_24
theorem zh_98_26 {x : Int} : Zgo d 98 26 (L) (zi x :: st) (I, R, al) Q ↔ if zw x = zw 0 then Zgo d 98 211 (L) (st) (I, R, al) Q else Zgo d 98 29 (L) (st) (I, R, al) Q := zg_98_26
theorem zh_98_29 {x : Option (Nat × Nat)} : Zgo d 98 29 (some (zq x) :: L) (st) (I, R, al) Q ↔ Zgo d 98 30 (some (zq x) :: L) (zq x :: st) (I, R, al) Q := zg_98_29
theorem zh_98_30 {o : Nat} : Zgo d 98 30 (L) (zq (some (11, o)) :: st) (I, R, al) Q ↔ Zgo d 98 33 (L) (zi (I 11 o 4) :: st) (I, R, al) Q := zg_98_30
theorem zh_98_33 {x : Int} : Zgo d 98 33 (L) (zi x :: st) (I, R, al) Q ↔ if zw x = zw 0 then Zgo d 98 36 (L) (st) (I, R, al) Q else Zgo d 98 211 (L) (st) (I, R, al) Q := zg_98_33
theorem zh_98_36 {x : Option (Nat × Nat)} : Zgo d 98 36 (some (zq x) :: L) (st) (I, R, al) Q ↔ Zgo d 98 37 (some (zq x) :: L) (zq x :: st) (I, R, al) Q := zg_98_36
theorem zh_98_37 {o : Nat} : Zgo d 98 37 (L) (zq (some (11, o)) :: st) (I, R, al) Q ↔ if zwt st ≤ 8 then zCp d 87 [zq (some (11, o))] (I, R, al) (fun r S2 => Zgo d 98 40 L (r.toList ++ st) S2 Q) else False := zg_98_37
theorem zh_98_40 {x : Int} : Zgo d 98 40 (a0 :: a1 :: a2 :: a3 :: a4 :: b0 :: L) (zi x :: st) (I, R, al) Q ↔ Zgo d 98 42 (a0 :: a1 :: a2 :: a3 :: zkl a4 :: some (zi x) :: L) (st) (I, R, al) Q := zg_98_40
theorem zh_98_42 {x : Int} : Zgo d 98 42 (a0 :: a1 :: a2 :: some (zi x) :: L) (st) (I, R, al) Q ↔ Zgo d 98 43 (a0 :: a1 :: a2 :: some (zi x) :: L) (zi x :: st) (I, R, al) Q := zg_98_42
theorem zh_98_43 {x : Int} : Zgo d 98 43 (L) (zi x :: st) (I, R, al) Q ↔ if zw x = zw 0 then Zgo d 98 90 (L) (st) (I, R, al) Q else Zgo d 98 46 (L) (st) (I, R, al) Q := zg_98_43
theorem zh_98_46 {x : Int} : Zgo d 98 46 (a0 :: a1 :: a2 :: a3 :: a4 :: some (zi x) :: L) (st) (I, R, al) Q ↔ Zgo d 98 48 (a0 :: a1 :: a2 :: a3 :: a4 :: some (zi x) :: L) (zi x :: st) (I, R, al) Q := zg_98_46
theorem zh_98_48 : Zgo d 98 48 (L) (st) (I, R, al) Q ↔ Zgo d 98 50 (L) (zi 40 :: st) (I, R, al) Q := zg_98_48
theorem zh_98_50 {x y : Int} : Zgo d 98 50 (L) (zi y :: zi x :: st) (I, R, al) Q ↔ if zw x = zw y then Zgo d 98 53 (L) (st) (I, R, al) Q else Zgo d 98 90 (L) (st) (I, R, al) Q := zg_98_50
theorem zh_98_53 {x : Int} : Zgo d 98 53 (a0 :: a1 :: some (zi x) :: L) (st) (I, R, al) Q ↔ Zgo d 98 56 (a0 :: zkl a1 :: some (zi (x + 1)) :: L) (st) (I, R, al) Q := zg_98_53
theorem zh_98_56 {x : Option (Nat × Nat)} : Zgo d 98 56 (some (zq x) :: L) (st) (I, R, al) Q ↔ Zgo d 98 57 (some (zq x) :: L) (zq x :: st) (I, R, al) Q := zg_98_56
theorem zh_98_57 {x : Int} : Zgo d 98 57 (a0 :: a1 :: some (zi x) :: L) (st) (I, R, al) Q ↔ Zgo d 98 58 (a0 :: a1 :: some (zi x) :: L) (zi x :: st) (I, R, al) Q := zg_98_57
theorem zh_98_58 : Zgo d 98 58 (L) (st) (I, R, al) Q ↔ Zgo d 98 59 (L) (zi 3 :: st) (I, R, al) Q := zg_98_58
theorem zh_98_59 {x y : Int} : Zgo d 98 59 (L) (zi y :: zi x :: st) (I, R, al) Q ↔ if zw y < zw x then Zgo d 98 62 (L) (st) (I, R, al) Q else Zgo d 98 66 (L) (st) (I, R, al) Q := zg_98_59
theorem zh_98_62 : Zgo d 98 62 (L) (st) (I, R, al) Q ↔ Zgo d 98 63 (L) (zi 1 :: st) (I, R, al) Q := zg_98_62
theorem zh_98_63 : Zgo d 98 63 (L) (st) (I, R, al) Q ↔ Zgo d 98 67 (L) (st) (I, R, al) Q := zg_98_63
theorem zh_98_66 : Zgo d 98 66 (L) (st) (I, R, al) Q ↔ Zgo d 98 67 (L) (zi 0 :: st) (I, R, al) Q := zg_98_66
theorem zh_98_67 {o : Nat} {v : Int} : Zgo d 98 67 (L) (zi v :: zq (some (11, o)) :: st) (I, R, al) Q ↔ zok 1 v False (Zgo d 98 70 (L) (st) (zsI I 11 o 4 v, R, al) Q) := zg_98_67
theorem zh_98_70 {x : Option (Nat × Nat)} : Zgo d 98 70 (some (zq x) :: L) (st) (I, R, al) Q ↔ Zgo d 98 71 (some (zq x) :: L) (zq x :: st) (I, R, al) Q := zg_98_70
theorem zh_98_71 {o : Nat} : Zgo d 98 71 (L) (zq (some (11, o)) :: st) (I, R, al) Q ↔ Zgo d 98 74 (L) (zq (R 11 o 32) :: st) (I, R, al) Q := zg_98_71
theorem zh_98_74 {x : Int} : Zgo d 98 74 (a0 :: a1 :: some (zi x) :: L) (st) (I, R, al) Q ↔ Zgo d 98 75 (a0 :: a1 :: some (zi x) :: L) (zi x :: st) (I, R, al) Q := zg_98_74
theorem zh_98_75 : Zgo d 98 75 (L) (st) (I, R, al) Q ↔ Zgo d 98 76 (L) (zi 0 :: st) (I, R, al) Q := zg_98_75
theorem zh_98_76 {v j : Int} {c o : Nat} : Zgo d 98 76 (L) (zi v :: zi j :: zq (some (c, o)) :: st) (I, R, al) Q ↔ zal (zArr c) 0 j (fun x => Zgo d 98 77 (L) (st) (zsI I c o x v, R, al) Q) := zg_98_76
theorem zh_98_77 {x : Option (Nat × Nat)} : Zgo d 98 77 (some (zq x) :: L) (st) (I, R, al) Q ↔ Zgo d 98 78 (some (zq x) :: L) (zq x :: st) (I, R, al) Q := zg_98_77
theorem zh_98_78 {x : Int} : Zgo d 98 78 (L) (zi x :: st) (I, R, al) Q ↔ Zgo d 98 79 (L) (zi x :: zi x :: st) (I, R, al) Q := zg_98_78
theorem zh_98_78q {u : Option (Nat × Nat)} : Zgo d 98 78 (L) (zq u :: st) (I, R, al) Q ↔ Zgo d 98 79 (L) (zq u :: zq u :: st) (I, R, al) Q := zg_98_78
theorem zh_98_79 {o : Nat} : Zgo d 98 79 (L) (zq (some (11, o)) :: st) (I, R, al) Q ↔ Zgo d 98 82 (L) (zi (I 11 o 3) :: st) (I, R, al) Q := zg_98_79
theorem zh_98_82 : Zgo d 98 82 (L) (st) (I, R, al) Q ↔ Zgo d 98 83 (L) (zi 1 :: st) (I, R, al) Q := zg_98_82
theorem zh_98_83 {x y : Int} : Zgo d 98 83 (L) (zi y :: zi x :: st) (I, R, al) Q ↔ Zgo d 98 84 (L) (zi (x + y) :: st) (I, R, al) Q := zg_98_83
theorem zh_98_84 {o : Nat} {v : Int} : Zgo d 98 84 (L) (zi v :: zq (some (11, o)) :: st) (I, R, al) Q ↔ Zgo d 98 87 (L) (st) (zsI I 11 o 3 v, R, al) Q := zg_98_84
theorem zh_98_87 : Zgo d 98 87 (L) (st) (I, R, al) Q ↔ Zgo d 98 208 (L) (st) (I, R, al) Q := zg_98_87
theorem zh_98_90 {x : Int} : Zgo d 98 90 (a0 :: a1 :: a2 :: some (zi x) :: L) (st) (I, R, al) Q ↔ Zgo d 98 91 (a0 :: a1 :: a2 :: some (zi x) :: L) (zi x :: st) (I, R, al) Q := zg_98_90
theorem zh_98_91 {x : Int} : Zgo d 98 91 (L) (zi x :: st) (I, R, al) Q ↔ if zw x = zw 0 then Zgo d 98 129 (L) (st) (I, R, al) Q else Zgo d 98 94 (L) (st) (I, R, al) Q := zg_98_91
theorem zh_98_94 {x : Int} : Zgo d 98 94 (a0 :: a1 :: a2 :: a3 :: a4 :: some (zi x) :: L) (st) (I, R, al) Q ↔ Zgo d 98 96 (a0 :: a1 :: a2 :: a3 :: a4 :: some (zi x) :: L) (zi x :: st) (I, R, al) Q := zg_98_94
theorem zh_98_96 {v0 : zV} : Zgo d 98 96 (L) (v0 :: st) (I, R, al) Q ↔ if zwt st ≤ 8 then zCp d 89 [v0] (I, R, al) (fun r S2 => Zgo d 98 99 L (r.toList ++ st) S2 Q) else False := zg_98_96
theorem zh_98_99 {x : Int} : Zgo d 98 99 (L) (zi x :: st) (I, R, al) Q ↔ if zw x = zw 0 then Zgo d 98 109 (L) (st) (I, R, al) Q else Zgo d 98 102 (L) (st) (I, R, al) Q := zg_98_99
theorem zh_98_102 {x : Option (Nat × Nat)} : Zgo d 98 102 (some (zq x) :: L) (st) (I, R, al) Q ↔ Zgo d 98 103 (some (zq x) :: L) (zq x :: st) (I, R, al) Q := zg_98_102
theorem zh_98_103 {o : Nat} : Zgo d 98 103 (L) (zq (some (11, o)) :: st) (I, R, al) Q ↔ if zwt st ≤ 8 then zCp d 99 [zq (some (11, o))] (I, R, al) (fun r S2 => Zgo d 98 106 L (r.toList ++ st) S2 Q) else False := zg_98_103
theorem zh_98_106 : Zgo d 98 106 (L) (st) (I, R, al) Q ↔ Zgo d 98 119 (L) (st) (I, R, al) Q := zg_98_106
theorem zh_98_109 {x : Option (Nat × Nat)} : Zgo d 98 109 (some (zq x) :: L) (st) (I, R, al) Q ↔ Zgo d 98 110 (some (zq x) :: L) (zq x :: st) (I, R, al) Q := zg_98_109
theorem zh_98_110 : Zgo d 98 110 (L) (st) (I, R, al) Q ↔ Zgo d 98 112 (L) (zi 97 :: st) (I, R, al) Q := zg_98_110
theorem zh_98_112 {x : Option (Nat × Nat)} : Zgo d 98 112 (some (zq x) :: L) (st) (I, R, al) Q ↔ Zgo d 98 113 (some (zq x) :: L) (zq x :: st) (I, R, al) Q := zg_98_112
theorem zh_98_113 {o : Nat} : Zgo d 98 113 (L) (zq (some (11, o)) :: st) (I, R, al) Q ↔ if zwt st ≤ 8 then zCp d 95 [zq (some (11, o))] (I, R, al) (fun r S2 => Zgo d 98 116 L (r.toList ++ st) S2 Q) else False := zg_98_113
theorem zh_98_116 {v1 v2 : zV} {o : Nat} : Zgo d 98 116 (L) (v2 :: v1 :: zq (some (11, o)) :: st) (I, R, al) Q ↔ if zwt st ≤ 8 then zCp d 100 [zq (some (11, o)), v1, v2] (I, R, al) (fun r S2 => Zgo d 98 119 L (r.toList ++ st) S2 Q) else False := zg_98_116
theorem zh_98_119 : Zgo d 98 119 (L) (st) (I, R, al) Q ↔ Zgo d 98 120 (L) (zi 0 :: st) (I, R, al) Q := zg_98_119
theorem zh_98_120 {x : Int} : Zgo d 98 120 (a0 :: a1 :: a2 :: b0 :: L) (zi x :: st) (I, R, al) Q ↔ Zgo d 98 121 (a0 :: a1 :: zkl a2 :: some (zi x) :: L) (st) (I, R, al) Q := zg_98_120
theorem zh_98_121 {x : Option (Nat × Nat)} : Zgo d 98 121 (some (zq x) :: L) (st) (I, R, al) Q ↔ Zgo d 98 122 (some (zq x) :: L) (zq x :: st) (I, R, al) Q := zg_98_121
theorem zh_98_122 {x : Int} : Zgo d 98 122 (a0 :: a1 :: some (zi x) :: L) (st) (I, R, al) Q ↔ Zgo d 98 123 (a0 :: a1 :: some (zi x) :: L) (zi x :: st) (I, R, al) Q := zg_98_122
theorem zh_98_123 {v1 : zV} {o : Nat} : Zgo d 98 123 (L) (v1 :: zq (some (11, o)) :: st) (I, R, al) Q ↔ if zwt st ≤ 8 then zCp d 101 [zq (some (11, o)), v1] (I, R, al) (fun r S2 => Zgo d 98 126 L (r.toList ++ st) S2 Q) else False := zg_98_123
theorem zh_98_126 : Zgo d 98 126 (L) (st) (I, R, al) Q ↔ Zgo d 98 208 (L) (st) (I, R, al) Q := zg_98_126
theorem zh_98_129 {x : Int} : Zgo d 98 129 (a0 :: a1 :: a2 :: a3 :: a4 :: some (zi x) :: L) (st) (I, R, al) Q ↔ Zgo d 98 131 (a0 :: a1 :: a2 :: a3 :: a4 :: some (zi x) :: L) (zi x :: st) (I, R, al) Q := zg_98_129
theorem zh_98_131 {v0 : zV} : Zgo d 98 131 (L) (v0 :: st) (I, R, al) Q ↔ if zwt st ≤ 8 then zCp d 102 [v0] (I, R, al) (fun r S2 => Zgo d 98 134 L (r.toList ++ st) S2 Q) else False := zg_98_131
theorem zh_98_134 {x : Int} : Zgo d 98 134 (L) (zi x :: st) (I, R, al) Q ↔ if zw x = zw 0 then Zgo d 98 160 (L) (st) (I, R, al) Q else Zgo d 98 137 (L) (st) (I, R, al) Q := zg_98_134
theorem zh_98_137 {x : Option (Nat × Nat)} : Zgo d 98 137 (some (zq x) :: L) (st) (I, R, al) Q ↔ Zgo d 98 138 (some (zq x) :: L) (zq x :: st) (I, R, al) Q := zg_98_137
theorem zh_98_138 {o : Nat} : Zgo d 98 138 (L) (zq (some (11, o)) :: st) (I, R, al) Q ↔ Zgo d 98 141 (L) (zq (R 11 o 32) :: st) (I, R, al) Q := zg_98_138
theorem zh_98_141 {x : Int} : Zgo d 98 141 (a0 :: a1 :: some (zi x) :: L) (st) (I, R, al) Q ↔ Zgo d 98 142 (a0 :: a1 :: some (zi x) :: L) (zi x :: st) (I, R, al) Q := zg_98_141
theorem zh_98_142 {x : Int} : Zgo d 98 142 (a0 :: a1 :: a2 :: a3 :: a4 :: some (zi x) :: L) (st) (I, R, al) Q ↔ Zgo d 98 144 (a0 :: a1 :: a2 :: a3 :: a4 :: some (zi x) :: L) (zi x :: st) (I, R, al) Q := zg_98_142
theorem zh_98_144 {v j : Int} {c o : Nat} : Zgo d 98 144 (L) (zi v :: zi j :: zq (some (c, o)) :: st) (I, R, al) Q ↔ zal (zArr c) 0 j (fun x => Zgo d 98 145 (L) (st) (zsI I c o x v, R, al) Q) := zg_98_144
theorem zh_98_145 {x : Option (Nat × Nat)} : Zgo d 98 145 (some (zq x) :: L) (st) (I, R, al) Q ↔ Zgo d 98 146 (some (zq x) :: L) (zq x :: st) (I, R, al) Q := zg_98_145
theorem zh_98_146 {x : Int} : Zgo d 98 146 (L) (zi x :: st) (I, R, al) Q ↔ Zgo d 98 147 (L) (zi x :: zi x :: st) (I, R, al) Q := zg_98_146
theorem zh_98_146q {u : Option (Nat × Nat)} : Zgo d 98 146 (L) (zq u :: st) (I, R, al) Q ↔ Zgo d 98 147 (L) (zq u :: zq u :: st) (I, R, al) Q := zg_98_146
theorem zh_98_147 {o : Nat} : Zgo d 98 147 (L) (zq (some (11, o)) :: st) (I, R, al) Q ↔ Zgo d 98 150 (L) (zi (I 11 o 3) :: st) (I, R, al) Q := zg_98_147
theorem zh_98_150 : Zgo d 98 150 (L) (st) (I, R, al) Q ↔ Zgo d 98 151 (L) (zi 1 :: st) (I, R, al) Q := zg_98_150
theorem zh_98_151 {x y : Int} : Zgo d 98 151 (L) (zi y :: zi x :: st) (I, R, al) Q ↔ Zgo d 98 152 (L) (zi (x + y) :: st) (I, R, al) Q := zg_98_151
theorem zh_98_152 {o : Nat} {v : Int} : Zgo d 98 152 (L) (zi v :: zq (some (11, o)) :: st) (I, R, al) Q ↔ Zgo d 98 155 (L) (st) (zsI I 11 o 3 v, R, al) Q := zg_98_152
theorem zh_98_155 : Zgo d 98 155 (L) (st) (I, R, al) Q ↔ Zgo d 98 156 (L) (zi 1 :: st) (I, R, al) Q := zg_98_155
theorem zh_98_156 {x : Int} : Zgo d 98 156 (a0 :: a1 :: a2 :: b0 :: L) (zi x :: st) (I, R, al) Q ↔ Zgo d 98 157 (a0 :: a1 :: zkl a2 :: some (zi x) :: L) (st) (I, R, al) Q := zg_98_156
theorem zh_98_157 : Zgo d 98 157 (L) (st) (I, R, al) Q ↔ Zgo d 98 208 (L) (st) (I, R, al) Q := zg_98_157
theorem zh_98_160 {x : Int} : Zgo d 98 160 (a0 :: a1 :: a2 :: a3 :: a4 :: some (zi x) :: L) (st) (I, R, al) Q ↔ Zgo d 98 162 (a0 :: a1 :: a2 :: a3 :: a4 :: some (zi x) :: L) (zi x :: st) (I, R, al) Q := zg_98_160
theorem zh_98_162 : Zgo d 98 162 (L) (st) (I, R, al) Q ↔ Zgo d 98 164 (L) (zi 41 :: st) (I, R, al) Q := zg_98_162
theorem zh_98_164 {x y : Int} : Zgo d 98 164 (L) (zi y :: zi x :: st) (I, R, al) Q ↔ if zw x = zw y then Zgo d 98 167 (L) (st) (I, R, al) Q else Zgo d 98 192 (L) (st) (I, R, al) Q := zg_98_164
theorem zh_98_167 {x : Int} : Zgo d 98 167 (a0 :: a1 :: some (zi x) :: L) (st) (I, R, al) Q ↔ Zgo d 98 168 (a0 :: a1 :: some (zi x) :: L) (zi x :: st) (I, R, al) Q := zg_98_167
theorem zh_98_168 {x : Int} : Zgo d 98 168 (L) (zi x :: st) (I, R, al) Q ↔ if zw 0 < zw x then Zgo d 98 171 (L) (st) (I, R, al) Q else Zgo d 98 192 (L) (st) (I, R, al) Q := zg_98_168
theorem zh_98_171 {x : Option (Nat × Nat)} : Zgo d 98 171 (some (zq x) :: L) (st) (I, R, al) Q ↔ Zgo d 98 172 (some (zq x) :: L) (zq x :: st) (I, R, al) Q := zg_98_171
theorem zh_98_172 {x : Int} : Zgo d 98 172 (L) (zi x :: st) (I, R, al) Q ↔ Zgo d 98 173 (L) (zi x :: zi x :: st) (I, R, al) Q := zg_98_172
theorem zh_98_172q {u : Option (Nat × Nat)} : Zgo d 98 172 (L) (zq u :: st) (I, R, al) Q ↔ Zgo d 98 173 (L) (zq u :: zq u :: st) (I, R, al) Q := zg_98_172
theorem zh_98_173 {o : Nat} : Zgo d 98 173 (L) (zq (some (11, o)) :: st) (I, R, al) Q ↔ Zgo d 98 176 (L) (zi (I 11 o 3) :: st) (I, R, al) Q := zg_98_173
theorem zh_98_176 : Zgo d 98 176 (L) (st) (I, R, al) Q ↔ Zgo d 98 177 (L) (zi 1 :: st) (I, R, al) Q := zg_98_176
theorem zh_98_177 {x y : Int} : Zgo d 98 177 (L) (zi y :: zi x :: st) (I, R, al) Q ↔ Zgo d 98 178 (L) (zi (x + y) :: st) (I, R, al) Q := zg_98_177
theorem zh_98_178 {o : Nat} {v : Int} : Zgo d 98 178 (L) (zi v :: zq (some (11, o)) :: st) (I, R, al) Q ↔ Zgo d 98 181 (L) (st) (zsI I 11 o 3 v, R, al) Q := zg_98_178
theorem zh_98_181 {x : Int} : Zgo d 98 181 (a0 :: a1 :: some (zi x) :: L) (st) (I, R, al) Q ↔ Zgo d 98 184 (a0 :: zkl a1 :: some (zi (x + (-1))) :: L) (st) (I, R, al) Q := zg_98_181
theorem zh_98_184 {x : Option (Nat × Nat)} : Zgo d 98 184 (some (zq x) :: L) (st) (I, R, al) Q ↔ Zgo d 98 185 (some (zq x) :: L) (zq x :: st) (I, R, al) Q := zg_98_184
theorem zh_98_185 {x : Int} : Zgo d 98 185 (a0 :: a1 :: some (zi x) :: L) (st) (I, R, al) Q ↔ Zgo d 98 186 (a0 :: a1 :: some (zi x) :: L) (zi x :: st) (I, R, al) Q := zg_98_185
theorem zh_98_186 {v1 : zV} {o : Nat} : Zgo d 98 186 (L) (v1 :: zq (some (11, o)) :: st) (I, R, al) Q ↔ if zwt st ≤ 8 then zCp d 101 [zq (some (11, o)), v1] (I, R, al) (fun r S2 => Zgo d 98 189 L (r.toList ++ st) S2 Q) else False := zg_98_186
theorem zh_98_189 : Zgo d 98 189 (L) (st) (I, R, al) Q ↔ Zgo d 98 208 (L) (st) (I, R, al) Q := zg_98_189
theorem zh_98_192 {x : Option (Nat × Nat)} : Zgo d 98 192 (some (zq x) :: L) (st) (I, R, al) Q ↔ Zgo d 98 193 (some (zq x) :: L) (zq x :: st) (I, R, al) Q := zg_98_192
theorem zh_98_193 {x : Int} : Zgo d 98 193 (a0 :: a1 :: some (zi x) :: L) (st) (I, R, al) Q ↔ Zgo d 98 194 (a0 :: a1 :: some (zi x) :: L) (zi x :: st) (I, R, al) Q := zg_98_193
theorem zh_98_194 {x : Int} : Zgo d 98 194 (L) (zi x :: st) (I, R, al) Q ↔ if zw 0 < zw x then Zgo d 98 197 (L) (st) (I, R, al) Q else Zgo d 98 201 (L) (st) (I, R, al) Q := zg_98_194
theorem zh_98_197 : Zgo d 98 197 (L) (st) (I, R, al) Q ↔ Zgo d 98 198 (L) (zi 1 :: st) (I, R, al) Q := zg_98_197
theorem zh_98_198 : Zgo d 98 198 (L) (st) (I, R, al) Q ↔ Zgo d 98 202 (L) (st) (I, R, al) Q := zg_98_198
theorem zh_98_201 : Zgo d 98 201 (L) (st) (I, R, al) Q ↔ Zgo d 98 202 (L) (zi 0 :: st) (I, R, al) Q := zg_98_201
theorem zh_98_202 {o : Nat} {v : Int} : Zgo d 98 202 (L) (zi v :: zq (some (11, o)) :: st) (I, R, al) Q ↔ zok 1 v False (Zgo d 98 205 (L) (st) (zsI I 11 o 4 v, R, al) Q) := zg_98_202
theorem zh_98_205 : Zgo d 98 205 (L) (st) (I, R, al) Q ↔ Zgo d 98 206 (L) (zi 0 :: st) (I, R, al) Q := zg_98_205
theorem zh_98_206 {x : Int} : Zgo d 98 206 (a0 :: a1 :: a2 :: a3 :: b0 :: L) (zi x :: st) (I, R, al) Q ↔ Zgo d 98 208 (a0 :: a1 :: a2 :: zkl a3 :: some (zi x) :: L) (st) (I, R, al) Q := zg_98_206
theorem zh_98_208 : Zgo d 98 208 (L) (st) (I, R, al) Q ↔ Zgo d 98 24 (L) (st) (I, R, al) Q := zg_98_208
theorem zh_98_211 {x : Option (Nat × Nat)} : Zgo d 98 211 (some (zq x) :: L) (st) (I, R, al) Q ↔ Zgo d 98 212 (some (zq x) :: L) (zq x :: st) (I, R, al) Q := zg_98_211
theorem zh_98_212 {o : Nat} : Zgo d 98 212 (L) (zq (some (11, o)) :: st) (I, R, al) Q ↔ Zgo d 98 215 (L) (zq (R 11 o 14) :: st) (I, R, al) Q := zg_98_212
theorem zh_98_215 {x : Int} : Zgo d 98 215 (a0 :: some (zi x) :: L) (st) (I, R, al) Q ↔ Zgo d 98 216 (a0 :: some (zi x) :: L) (zi x :: st) (I, R, al) Q := zg_98_215
theorem zh_98_216 {x : Option (Nat × Nat)} : Zgo d 98 216 (some (zq x) :: L) (st) (I, R, al) Q ↔ Zgo d 98 217 (some (zq x) :: L) (zq x :: st) (I, R, al) Q := zg_98_216
theorem zh_98_217 {o : Nat} : Zgo d 98 217 (L) (zq (some (11, o)) :: st) (I, R, al) Q ↔ Zgo d 98 220 (L) (zi (I 11 o 28) :: st) (I, R, al) Q := zg_98_217
theorem zh_98_220 {v j : Int} {c o : Nat} : Zgo d 98 220 (L) (zi v :: zi j :: zq (some (c, o)) :: st) (I, R, al) Q ↔ zal (zArr c) 0 j (fun x => Zgo d 98 221 (L) (st) (zsI I c o x v, R, al) Q) := zg_98_220
theorem zh_98_221 : Zgo d 98 221 (L) ([]) (I, R, al) Q ↔ Q none (I, R, al) := zg_98_221
theorem zh_99_0 : Zgo d 99 0 (L) (st) (I, R, al) Q ↔ Zgo d 99 1 (L) (zi 0 :: st) (I, R, al) Q := zg_99_0
theorem zh_99_1 {x : Int} : Zgo d 99 1 (a0 :: b0 :: L) (zi x :: st) (I, R, al) Q ↔ Zgo d 99 2 (zkl a0 :: some (zi x) :: L) (st) (I, R, al) Q := zg_99_1
theorem zh_99_2 : Zgo d 99 2 (L) (st) (I, R, al) Q ↔ Zgo d 99 3 (L) (zi 0 :: st) (I, R, al) Q := zg_99_2
theorem zh_99_3 {x : Int} : Zgo d 99 3 (a0 :: a1 :: b0 :: L) (zi x :: st) (I, R, al) Q ↔ Zgo d 99 4 (a0 :: zkl a1 :: some (zi x) :: L) (st) (I, R, al) Q := zg_99_3
theorem zh_99_4 {x : Option (Nat × Nat)} : Zgo d 99 4 (some (zq x) :: L) (st) (I, R, al) Q ↔ Zgo d 99 5 (some (zq x) :: L) (zq x :: st) (I, R, al) Q := zg_99_4
theorem zh_99_5 {o : Nat} : Zgo d 99 5 (L) (zq (some (11, o)) :: st) (I, R, al) Q ↔ if zwt st ≤ 8 then zCp d 87 [zq (some (11, o))] (I, R, al) (fun r S2 => Zgo d 99 8 L (r.toList ++ st) S2 Q) else False := zg_99_5
theorem zh_99_8 {v0 : zV} : Zgo d 99 8 (L) (v0 :: st) (I, R, al) Q ↔ if zwt st ≤ 8 then zCp d 89 [v0] (I, R, al) (fun r S2 => Zgo d 99 11 L (r.toList ++ st) S2 Q) else False := zg_99_8
theorem zh_99_11 {x : Int} : Zgo d 99 11 (L) (zi x :: st) (I, R, al) Q ↔ if zw x = zw 0 then Zgo d 99 52 (L) (st) (I, R, al) Q else Zgo d 99 14 (L) (st) (I, R, al) Q := zg_99_11
theorem zh_99_14 {x : Int} : Zgo d 99 14 (a0 :: a1 :: some (zi x) :: L) (st) (I, R, al) Q ↔ Zgo d 99 15 (a0 :: a1 :: some (zi x) :: L) (zi x :: st) (I, R, al) Q := zg_99_14
theorem zh_99_15 : Zgo d 99 15 (L) (st) (I, R, al) Q ↔ Zgo d 99 16 (L) (zi 3 :: st) (I, R, al) Q := zg_99_15
theorem zh_99_16 {x y : Int} : Zgo d 99 16 (L) (zi y :: zi x :: st) (I, R, al) Q ↔ if zw x < zw y then Zgo d 99 19 (L) (st) (I, R, al) Q else Zgo d 99 34 (L) (st) (I, R, al) Q := zg_99_16
theorem zh_99_19 : Zgo d 99 19 (L) (st) (I, R, al) Q ↔ Zgo d 99 21 (L) (zi 10 :: st) (I, R, al) Q := zg_99_19
theorem zh_99_21 {x : Int} : Zgo d 99 21 (a0 :: some (zi x) :: L) (st) (I, R, al) Q ↔ Zgo d 99 22 (a0 :: some (zi x) :: L) (zi x :: st) (I, R, al) Q := zg_99_21
theorem zh_99_22 {x y : Int} : Zgo d 99 22 (L) (zi y :: zi x :: st) (I, R, al) Q ↔ Zgo d 99 23 (L) (zi (x * y) :: st) (I, R, al) Q := zg_99_22
theorem zh_99_23 {x : Option (Nat × Nat)} : Zgo d 99 23 (some (zq x) :: L) (st) (I, R, al) Q ↔ Zgo d 99 24 (some (zq x) :: L) (zq x :: st) (I, R, al) Q := zg_99_23
theorem zh_99_24 {o : Nat} : Zgo d 99 24 (L) (zq (some (11, o)) :: st) (I, R, al) Q ↔ if zwt st ≤ 8 then zCp d 87 [zq (some (11, o))] (I, R, al) (fun r S2 => Zgo d 99 27 L (r.toList ++ st) S2 Q) else False := zg_99_24
theorem zh_99_27 {x y : Int} : Zgo d 99 27 (L) (zi y :: zi x :: st) (I, R, al) Q ↔ Zgo d 99 28 (L) (zi (x + y) :: st) (I, R, al) Q := zg_99_27
theorem zh_99_28 : Zgo d 99 28 (L) (st) (I, R, al) Q ↔ Zgo d 99 30 (L) (zi 48 :: st) (I, R, al) Q := zg_99_28
theorem zh_99_30 {x y : Int} : Zgo d 99 30 (L) (zi y :: zi x :: st) (I, R, al) Q ↔ Zgo d 99 31 (L) (zi (x - y) :: st) (I, R, al) Q := zg_99_30
theorem zh_99_31 : Zgo d 99 31 (L) (st) (I, R, al) Q ↔ Zgo d 99 35 (L) (st) (I, R, al) Q := zg_99_31
theorem zh_99_34 {x : Int} : Zgo d 99 34 (a0 :: some (zi x) :: L) (st) (I, R, al) Q ↔ Zgo d 99 35 (a0 :: some (zi x) :: L) (zi x :: st) (I, R, al) Q := zg_99_34
theorem zh_99_35 {x : Int} : Zgo d 99 35 (a0 :: b0 :: L) (zi x :: st) (I, R, al) Q ↔ Zgo d 99 36 (zkl a0 :: some (zi x) :: L) (st) (I, R, al) Q := zg_99_35
theorem zh_99_36 {x : Int} : Zgo d 99 36 (a0 :: a1 :: some (zi x) :: L) (st) (I, R, al) Q ↔ Zgo d 99 39 (a0 :: zkl a1 :: some (zi (x + 1)) :: L) (st) (I, R, al) Q := zg_99_36
theorem zh_99_39 {x : Option (Nat × Nat)} : Zgo d 99 39 (some (zq x) :: L) (st) (I, R, al) Q ↔ Zgo d 99 40 (some (zq x) :: L) (zq x :: st) (I, R, al) Q := zg_99_39
theorem zh_99_40 {x : Int} : Zgo d 99 40 (L) (zi x :: st) (I, R, al) Q ↔ Zgo d 99 41 (L) (zi x :: zi x :: st) (I, R, al) Q := zg_99_40
theorem zh_99_40q {u : Option (Nat × Nat)} : Zgo d 99 40 (L) (zq u :: st) (I, R, al) Q ↔ Zgo d 99 41 (L) (zq u :: zq u :: st) (I, R, al) Q := zg_99_40
theorem zh_99_41 {o : Nat} : Zgo d 99 41 (L) (zq (some (11, o)) :: st) (I, R, al) Q ↔ Zgo d 99 44 (L) (zi (I 11 o 3) :: st) (I, R, al) Q := zg_99_41
theorem zh_99_44 : Zgo d 99 44 (L) (st) (I, R, al) Q ↔ Zgo d 99 45 (L) (zi 1 :: st) (I, R, al) Q := zg_99_44
theorem zh_99_45 {x y : Int} : Zgo d 99 45 (L) (zi y :: zi x :: st) (I, R, al) Q ↔ Zgo d 99 46 (L) (zi (x + y) :: st) (I, R, al) Q := zg_99_45
theorem zh_99_46 {o : Nat} {v : Int} : Zgo d 99 46 (L) (zi v :: zq (some (11, o)) :: st) (I, R, al) Q ↔ Zgo d 99 49 (L) (st) (zsI I 11 o 3 v, R, al) Q := zg_99_46
theorem zh_99_49 : Zgo d 99 49 (L) (st) (I, R, al) Q ↔ Zgo d 99 4 (L) (st) (I, R, al) Q := zg_99_49
theorem zh_99_52 {x : Option (Nat × Nat)} : Zgo d 99 52 (some (zq x) :: L) (st) (I, R, al) Q ↔ Zgo d 99 53 (some (zq x) :: L) (zq x :: st) (I, R, al) Q := zg_99_52
theorem zh_99_53 {x : Option (Nat × Nat)} : Zgo d 99 53 (some (zq x) :: L) (st) (I, R, al) Q ↔ Zgo d 99 54 (some (zq x) :: L) (zq x :: st) (I, R, al) Q := zg_99_53
theorem zh_99_54 {o : Nat} : Zgo d 99 54 (L) (zq (some (11, o)) :: st) (I, R, al) Q ↔ Zgo d 99 57 (L) (zi (I 11 o 4) :: st) (I, R, al) Q := zg_99_54
theorem zh_99_57 {x : Int} : Zgo d 99 57 (L) (zi x :: st) (I, R, al) Q ↔ if zw x = zw 0 then Zgo d 99 60 (L) (st) (I, R, al) Q else Zgo d 99 65 (L) (st) (I, R, al) Q := zg_99_57
theorem zh_99_60 {x : Int} : Zgo d 99 60 (a0 :: a1 :: some (zi x) :: L) (st) (I, R, al) Q ↔ Zgo d 99 61 (a0 :: a1 :: some (zi x) :: L) (zi x :: st) (I, R, al) Q := zg_99_60
theorem zh_99_61 : Zgo d 99 61 (L) (st) (I, R, al) Q ↔ Zgo d 99 62 (L) (zi 3 :: st) (I, R, al) Q := zg_99_61
theorem zh_99_62 {x y : Int} : Zgo d 99 62 (L) (zi y :: zi x :: st) (I, R, al) Q ↔ if zw y < zw x then Zgo d 99 65 (L) (st) (I, R, al) Q else Zgo d 99 69 (L) (st) (I, R, al) Q := zg_99_62
theorem zh_99_65 : Zgo d 99 65 (L) (st) (I, R, al) Q ↔ Zgo d 99 66 (L) (zi 1 :: st) (I, R, al) Q := zg_99_65
theorem zh_99_66 : Zgo d 99 66 (L) (st) (I, R, al) Q ↔ Zgo d 99 70 (L) (st) (I, R, al) Q := zg_99_66
theorem zh_99_69 : Zgo d 99 69 (L) (st) (I, R, al) Q ↔ Zgo d 99 70 (L) (zi 0 :: st) (I, R, al) Q := zg_99_69
theorem zh_99_70 {o : Nat} {v : Int} : Zgo d 99 70 (L) (zi v :: zq (some (11, o)) :: st) (I, R, al) Q ↔ zok 1 v False (Zgo d 99 73 (L) (st) (zsI I 11 o 4 v, R, al) Q) := zg_99_70
theorem zh_99_73 {x : Option (Nat × Nat)} : Zgo d 99 73 (some (zq x) :: L) (st) (I, R, al) Q ↔ Zgo d 99 74 (some (zq x) :: L) (zq x :: st) (I, R, al) Q := zg_99_73
theorem zh_99_74 : Zgo d 99 74 (L) (st) (I, R, al) Q ↔ Zgo d 99 76 (L) (zi 48 :: st) (I, R, al) Q := zg_99_74
theorem zh_99_76 {x : Int} : Zgo d 99 76 (a0 :: some (zi x) :: L) (st) (I, R, al) Q ↔ Zgo d 99 77 (a0 :: some (zi x) :: L) (zi x :: st) (I, R, al) Q := zg_99_76
theorem zh_99_77 {v1 v2 : zV} {o : Nat} : Zgo d 99 77 (L) (v2 :: v1 :: zq (some (11, o)) :: st) (I, R, al) Q ↔ if zwt st ≤ 8 then zCp d 100 [zq (some (11, o)), v1, v2] (I, R, al) (fun r S2 => Zgo d 99 80 L (r.toList ++ st) S2 Q) else False := zg_99_77
theorem zh_99_80 : Zgo d 99 80 (L) ([]) (I, R, al) Q ↔ Q none (I, R, al) := zg_99_80
theorem zh_100_0 {x : Option (Nat × Nat)} : Zgo d 100 0 (some (zq x) :: L) (st) (I, R, al) Q ↔ Zgo d 100 1 (some (zq x) :: L) (zq x :: st) (I, R, al) Q := zg_100_0
theorem zh_100_1 {o : Nat} : Zgo d 100 1 (L) (zq (some (11, o)) :: st) (I, R, al) Q ↔ Zgo d 100 4 (L) (zi (I 11 o 28) :: st) (I, R, al) Q := zg_100_1
theorem zh_100_4 : Zgo d 100 4 (L) (st) (I, R, al) Q ↔ Zgo d 100 7 (L) (zi 200 :: st) (I, R, al) Q := zg_100_4
theorem zh_100_7 {x y : Int} : Zgo d 100 7 (L) (zi y :: zi x :: st) (I, R, al) Q ↔ if zw x < zw y then Zgo d 100 10 (L) (st) (I, R, al) Q else Zgo d 100 40 (L) (st) (I, R, al) Q := zg_100_7
theorem zh_100_10 {x : Option (Nat × Nat)} : Zgo d 100 10 (some (zq x) :: L) (st) (I, R, al) Q ↔ Zgo d 100 11 (some (zq x) :: L) (zq x :: st) (I, R, al) Q := zg_100_10
theorem zh_100_11 {o : Nat} : Zgo d 100 11 (L) (zq (some (11, o)) :: st) (I, R, al) Q ↔ Zgo d 100 14 (L) (zq (R 11 o 29) :: st) (I, R, al) Q := zg_100_11
theorem zh_100_14 {x : Option (Nat × Nat)} : Zgo d 100 14 (some (zq x) :: L) (st) (I, R, al) Q ↔ Zgo d 100 15 (some (zq x) :: L) (zq x :: st) (I, R, al) Q := zg_100_14
theorem zh_100_15 {o : Nat} : Zgo d 100 15 (L) (zq (some (11, o)) :: st) (I, R, al) Q ↔ Zgo d 100 18 (L) (zi (I 11 o 28) :: st) (I, R, al) Q := zg_100_15
theorem zh_100_18 {x : Int} : Zgo d 100 18 (a0 :: some (zi x) :: L) (st) (I, R, al) Q ↔ Zgo d 100 19 (a0 :: some (zi x) :: L) (zi x :: st) (I, R, al) Q := zg_100_18
theorem zh_100_19 {v j : Int} {c o : Nat} : Zgo d 100 19 (L) (zi v :: zi j :: zq (some (c, o)) :: st) (I, R, al) Q ↔ zal (zArr c) 0 j (fun x => Zgo d 100 20 (L) (st) (zsI I c o x v, R, al) Q) := zg_100_19
theorem zh_100_20 {x : Option (Nat × Nat)} : Zgo d 100 20 (some (zq x) :: L) (st) (I, R, al) Q ↔ Zgo d 100 21 (some (zq x) :: L) (zq x :: st) (I, R, al) Q := zg_100_20
theorem zh_100_21 {o : Nat} : Zgo d 100 21 (L) (zq (some (11, o)) :: st) (I, R, al) Q ↔ Zgo d 100 24 (L) (zq (R 11 o 30) :: st) (I, R, al) Q := zg_100_21
theorem zh_100_24 {x : Option (Nat × Nat)} : Zgo d 100 24 (some (zq x) :: L) (st) (I, R, al) Q ↔ Zgo d 100 25 (some (zq x) :: L) (zq x :: st) (I, R, al) Q := zg_100_24
theorem zh_100_25 {o : Nat} : Zgo d 100 25 (L) (zq (some (11, o)) :: st) (I, R, al) Q ↔ Zgo d 100 28 (L) (zi (I 11 o 28) :: st) (I, R, al) Q := zg_100_25
theorem zh_100_28 {x : Int} : Zgo d 100 28 (a0 :: a1 :: some (zi x) :: L) (st) (I, R, al) Q ↔ Zgo d 100 29 (a0 :: a1 :: some (zi x) :: L) (zi x :: st) (I, R, al) Q := zg_100_28
theorem zh_100_29 {v j : Int} {c o : Nat} : Zgo d 100 29 (L) (zi v :: zi j :: zq (some (c, o)) :: st) (I, R, al) Q ↔ zal (zArr c) 0 j (fun x => Zgo d 100 30 (L) (st) (zsI I c o x v, R, al) Q) := zg_100_29
theorem zh_100_30 {x : Option (Nat × Nat)} : Zgo d 100 30 (some (zq x) :: L) (st) (I, R, al) Q ↔ Zgo d 100 31 (some (zq x) :: L) (zq x :: st) (I, R, al) Q := zg_100_30
theorem zh_100_31 {x : Int} : Zgo d 100 31 (L) (zi x :: st) (I, R, al) Q ↔ Zgo d 100 32 (L) (zi x :: zi x :: st) (I, R, al) Q := zg_100_31
theorem zh_100_31q {u : Option (Nat × Nat)} : Zgo d 100 31 (L) (zq u :: st) (I, R, al) Q ↔ Zgo d 100 32 (L) (zq u :: zq u :: st) (I, R, al) Q := zg_100_31
theorem zh_100_32 {o : Nat} : Zgo d 100 32 (L) (zq (some (11, o)) :: st) (I, R, al) Q ↔ Zgo d 100 35 (L) (zi (I 11 o 28) :: st) (I, R, al) Q := zg_100_32
theorem zh_100_35 : Zgo d 100 35 (L) (st) (I, R, al) Q ↔ Zgo d 100 36 (L) (zi 1 :: st) (I, R, al) Q := zg_100_35
theorem zh_100_36 {x y : Int} : Zgo d 100 36 (L) (zi y :: zi x :: st) (I, R, al) Q ↔ Zgo d 100 37 (L) (zi (x + y) :: st) (I, R, al) Q := zg_100_36
theorem zh_100_37 {o : Nat} {v : Int} : Zgo d 100 37 (L) (zi v :: zq (some (11, o)) :: st) (I, R, al) Q ↔ Zgo d 100 40 (L) (st) (zsI I 11 o 28 v, R, al) Q := zg_100_37
theorem zh_100_40 : Zgo d 100 40 (L) ([]) (I, R, al) Q ↔ Q none (I, R, al) := zg_100_40
theorem zh_101_0 {x : Option (Nat × Nat)} : Zgo d 101 0 (some (zq x) :: L) (st) (I, R, al) Q ↔ Zgo d 101 1 (some (zq x) :: L) (zq x :: st) (I, R, al) Q := zg_101_0
theorem zh_101_1 {o : Nat} : Zgo d 101 1 (L) (zq (some (11, o)) :: st) (I, R, al) Q ↔ Zgo d 101 4 (L) (zq (R 11 o 32) :: st) (I, R, al) Q := zg_101_1
theorem zh_101_4 {x : Int} : Zgo d 101 4 (a0 :: some (zi x) :: L) (st) (I, R, al) Q ↔ Zgo d 101 5 (a0 :: some (zi x) :: L) (zi x :: st) (I, R, al) Q := zg_101_4
theorem zh_101_5 {j : Int} {c o : Nat} : Zgo d 101 5 (L) (zi j :: zq (some (c, o)) :: st) (I, R, al) Q ↔ zal (zlen (I, R, al) c) 0 j (fun x => Zgo d 101 6 (L) (zi (I c o x) :: st) (I, R, al) Q) := zg_101_5
theorem zh_101_6 {x : Int} : Zgo d 101 6 (L) (zi x :: st) (I, R, al) Q ↔ if zw x = zw 0 then Zgo d 101 27 (L) (st) (I, R, al) Q else Zgo d 101 9 (L) (st) (I, R, al) Q := zg_101_6
theorem zh_101_9 {x : Option (Nat × Nat)} : Zgo d 101 9 (some (zq x) :: L) (st) (I, R, al) Q ↔ Zgo d 101 10 (some (zq x) :: L) (zq x :: st) (I, R, al) Q := zg_101_9
theorem zh_101_10 {x : Option (Nat × Nat)} : Zgo d 101 10 (some (zq x) :: L) (st) (I, R, al) Q ↔ Zgo d 101 11 (some (zq x) :: L) (zq x :: st) (I, R, al) Q := zg_101_10
theorem zh_101_11 {o : Nat} : Zgo d 101 11 (L) (zq (some (11, o)) :: st) (I, R, al) Q ↔ Zgo d 101 14 (L) (zq (R 11 o 32) :: st) (I, R, al) Q := zg_101_11
theorem zh_101_14 {x : Int} : Zgo d 101 14 (a0 :: some (zi x) :: L) (st) (I, R, al) Q ↔ Zgo d 101 15 (a0 :: some (zi x) :: L) (zi x :: st) (I, R, al) Q := zg_101_14
theorem zh_101_15 {j : Int} {c o : Nat} : Zgo d 101 15 (L) (zi j :: zq (some (c, o)) :: st) (I, R, al) Q ↔ zal (zlen (I, R, al) c) 0 j (fun x => Zgo d 101 16 (L) (zi (I c o x) :: st) (I, R, al) Q) := zg_101_15
theorem zh_101_16 : Zgo d 101 16 (L) (st) (I, R, al) Q ↔ Zgo d 101 17 (L) (zi 0 :: st) (I, R, al) Q := zg_101_16
theorem zh_101_17 {v1 v2 : zV} {o : Nat} : Zgo d 101 17 (L) (v2 :: v1 :: zq (some (11, o)) :: st) (I, R, al) Q ↔ if zwt st ≤ 8 then zCp d 100 [zq (some (11, o)), v1, v2] (I, R, al) (fun r S2 => Zgo d 101 20 L (r.toList ++ st) S2 Q) else False := zg_101_17
theorem zh_101_20 {x : Option (Nat × Nat)} : Zgo d 101 20 (some (zq x) :: L) (st) (I, R, al) Q ↔ Zgo d 101 21 (some (zq x) :: L) (zq x :: st) (I, R, al) Q := zg_101_20
theorem zh_101_21 {o : Nat} : Zgo d 101 21 (L) (zq (some (11, o)) :: st) (I, R, al) Q ↔ Zgo d 101 24 (L) (zq (R 11 o 32) :: st) (I, R, al) Q := zg_101_21
theorem zh_101_24 {x : Int} : Zgo d 101 24 (a0 :: some (zi x) :: L) (st) (I, R, al) Q ↔ Zgo d 101 25 (a0 :: some (zi x) :: L) (zi x :: st) (I, R, al) Q := zg_101_24
theorem zh_101_25 : Zgo d 101 25 (L) (st) (I, R, al) Q ↔ Zgo d 101 26 (L) (zi 0 :: st) (I, R, al) Q := zg_101_25
theorem zh_101_26 {v j : Int} {c o : Nat} : Zgo d 101 26 (L) (zi v :: zi j :: zq (some (c, o)) :: st) (I, R, al) Q ↔ zal (zArr c) 0 j (fun x => Zgo d 101 27 (L) (st) (zsI I c o x v, R, al) Q) := zg_101_26
theorem zh_101_27 : Zgo d 101 27 (L) ([]) (I, R, al) Q ↔ Q none (I, R, al) := zg_101_27
theorem zh_102_0 {x : Int} : Zgo d 102 0 (some (zi x) :: L) (st) (I, R, al) Q ↔ Zgo d 102 1 (some (zi x) :: L) (zi x :: st) (I, R, al) Q := zg_102_0
theorem zh_102_1 : Zgo d 102 1 (L) (st) (I, R, al) Q ↔ Zgo d 102 3 (L) (zi 43 :: st) (I, R, al) Q := zg_102_1
theorem zh_102_3 {x y : Int} : Zgo d 102 3 (L) (zi y :: zi x :: st) (I, R, al) Q ↔ if zw x = zw y then Zgo d 102 30 (L) (st) (I, R, al) Q else Zgo d 102 6 (L) (st) (I, R, al) Q := zg_102_3
theorem zh_102_6 {x : Int} : Zgo d 102 6 (some (zi x) :: L) (st) (I, R, al) Q ↔ Zgo d 102 7 (some (zi x) :: L) (zi x :: st) (I, R, al) Q := zg_102_6
theorem zh_102_7 : Zgo d 102 7 (L) (st) (I, R, al) Q ↔ Zgo d 102 9 (L) (zi 45 :: st) (I, R, al) Q := zg_102_7
theorem zh_102_9 {x y : Int} : Zgo d 102 9 (L) (zi y :: zi x :: st) (I, R, al) Q ↔ if zw x = zw y then Zgo d 102 30 (L) (st) (I, R, al) Q else Zgo d 102 12 (L) (st) (I, R, al) Q := zg_102_9
theorem zh_102_12 {x : Int} : Zgo d 102 12 (some (zi x) :: L) (st) (I, R, al) Q ↔ Zgo d 102 13 (some (zi x) :: L) (zi x :: st) (I, R, al) Q := zg_102_12
theorem zh_102_13 : Zgo d 102 13 (L) (st) (I, R, al) Q ↔ Zgo d 102 15 (L) (zi 42 :: st) (I, R, al) Q := zg_102_13
theorem zh_102_15 {x y : Int} : Zgo d 102 15 (L) (zi y :: zi x :: st) (I, R, al) Q ↔ if zw x = zw y then Zgo d 102 30 (L) (st) (I, R, al) Q else Zgo d 102 18 (L) (st) (I, R, al) Q := zg_102_15
theorem zh_102_18 {x : Int} : Zgo d 102 18 (some (zi x) :: L) (st) (I, R, al) Q ↔ Zgo d 102 19 (some (zi x) :: L) (zi x :: st) (I, R, al) Q := zg_102_18
theorem zh_102_19 : Zgo d 102 19 (L) (st) (I, R, al) Q ↔ Zgo d 102 21 (L) (zi 47 :: st) (I, R, al) Q := zg_102_19
theorem zh_102_21 {x y : Int} : Zgo d 102 21 (L) (zi y :: zi x :: st) (I, R, al) Q ↔ if zw x = zw y then Zgo d 102 30 (L) (st) (I, R, al) Q else Zgo d 102 24 (L) (st) (I, R, al) Q := zg_102_21
theorem zh_102_24 {x : Int} : Zgo d 102 24 (some (zi x) :: L) (st) (I, R, al) Q ↔ Zgo d 102 25 (some (zi x) :: L) (zi x :: st) (I, R, al) Q := zg_102_24
theorem zh_102_25 : Zgo d 102 25 (L) (st) (I, R, al) Q ↔ Zgo d 102 27 (L) (zi 60 :: st) (I, R, al) Q := zg_102_25
theorem zh_102_27 {x y : Int} : Zgo d 102 27 (L) (zi y :: zi x :: st) (I, R, al) Q ↔ if zw x = zw y then Zgo d 102 30 (L) (st) (I, R, al) Q else Zgo d 102 34 (L) (st) (I, R, al) Q := zg_102_27
theorem zh_102_30 : Zgo d 102 30 (L) (st) (I, R, al) Q ↔ Zgo d 102 31 (L) (zi 1 :: st) (I, R, al) Q := zg_102_30
theorem zh_102_31 : Zgo d 102 31 (L) (st) (I, R, al) Q ↔ Zgo d 102 35 (L) (st) (I, R, al) Q := zg_102_31
theorem zh_102_34 : Zgo d 102 34 (L) (st) (I, R, al) Q ↔ Zgo d 102 35 (L) (zi 0 :: st) (I, R, al) Q := zg_102_34
theorem zh_102_35 {x : Int} : Zgo d 102 35 (L) (zi x :: []) (I, R, al) Q ↔ zok 1 x False (Q (some (zi x)) (I, R, al)) := zg_102_35
theorem zh_103_0 : Zgo d 103 0 (L) (st) (I, R, al) Q ↔ Zgo d 103 1 (L) (zi 0 :: st) (I, R, al) Q := zg_103_0
theorem zh_103_1 {x : Int} : Zgo d 103 1 (a0 :: b0 :: L) (zi x :: st) (I, R, al) Q ↔ Zgo d 103 2 (zkl a0 :: some (zi x) :: L) (st) (I, R, al) Q := zg_103_1
theorem zh_103_2 {x : Int} : Zgo d 103 2 (a0 :: some (zi x) :: L) (st) (I, R, al) Q ↔ Zgo d 103 3 (a0 :: some (zi x) :: L) (zi x :: st) (I, R, al) Q := zg_103_2
theorem zh_103_3 {x : Option (Nat × Nat)} : Zgo d 103 3 (some (zq x) :: L) (st) (I, R, al) Q ↔ Zgo d 103 4 (some (zq x) :: L) (zq x :: st) (I, R, al) Q := zg_103_3
theorem zh_103_4 {o : Nat} : Zgo d 103 4 (L) (zq (some (11, o)) :: st) (I, R, al) Q ↔ Zgo d 103 7 (L) (zi (I 11 o 10) :: st) (I, R, al) Q := zg_103_4
theorem zh_103_7 {x y : Int} : Zgo d 103 7 (L) (zi y :: zi x :: st) (I, R, al) Q ↔ if zw x < zw y then Zgo d 103 10 (L) (st) (I, R, al) Q else Zgo d 103 28 (L) (st) (I, R, al) Q := zg_103_7
theorem zh_103_10 {x : Option (Nat × Nat)} : Zgo d 103 10 (some (zq x) :: L) (st) (I, R, al) Q ↔ Zgo d 103 11 (some (zq x) :: L) (zq x :: st) (I, R, al) Q := zg_103_10
theorem zh_103_11 {x : Int} : Zgo d 103 11 (a0 :: some (zi x) :: L) (st) (I, R, al) Q ↔ Zgo d 103 12 (a0 :: some (zi x) :: L) (zi x :: st) (I, R, al) Q := zg_103_11
theorem zh_103_12 {v1 : zV} {o : Nat} : Zgo d 103 12 (L) (v1 :: zq (some (11, o)) :: st) (I, R, al) Q ↔ if zwt st ≤ 8 then zCp d 104 [zq (some (11, o)), v1] (I, R, al) (fun r S2 => Zgo d 103 15 L (r.toList ++ st) S2 Q) else False := zg_103_12
theorem zh_103_15 {x : Int} : Zgo d 103 15 (a0 :: a1 :: b0 :: L) (zi x :: st) (I, R, al) Q ↔ Zgo d 103 16 (a0 :: zkl a1 :: some (zi x) :: L) (st) (I, R, al) Q := zg_103_15
theorem zh_103_16 {x : Int} : Zgo d 103 16 (a0 :: a1 :: some (zi x) :: L) (st) (I, R, al) Q ↔ Zgo d 103 17 (a0 :: a1 :: some (zi x) :: L) (zi x :: st) (I, R, al) Q := zg_103_16
theorem zh_103_17 {x : Int} : Zgo d 103 17 (L) (zi x :: st) (I, R, al) Q ↔ if zw 0 < zw x then Zgo d 103 20 (L) (st) (I, R, al) Q else Zgo d 103 22 (L) (st) (I, R, al) Q := zg_103_17
theorem zh_103_20 {x : Int} : Zgo d 103 20 (a0 :: a1 :: some (zi x) :: L) (st) (I, R, al) Q ↔ Zgo d 103 21 (a0 :: a1 :: some (zi x) :: L) (zi x :: st) (I, R, al) Q := zg_103_20
theorem zh_103_21 {x : Int} : Zgo d 103 21 (L) (zi x :: []) (I, R, al) Q ↔ Q (some (zi x)) (I, R, al) := zg_103_21
theorem zh_103_22 {x : Int} : Zgo d 103 22 (a0 :: some (zi x) :: L) (st) (I, R, al) Q ↔ Zgo d 103 25 (zkl a0 :: some (zi (x + 1)) :: L) (st) (I, R, al) Q := zg_103_22
theorem zh_103_25 : Zgo d 103 25 (L) (st) (I, R, al) Q ↔ Zgo d 103 2 (L) (st) (I, R, al) Q := zg_103_25
theorem zh_103_28 : Zgo d 103 28 (L) (st) (I, R, al) Q ↔ Zgo d 103 29 (L) (zi 0 :: st) (I, R, al) Q := zg_103_28
theorem zh_103_29 {x : Int} : Zgo d 103 29 (a0 :: b0 :: L) (zi x :: st) (I, R, al) Q ↔ Zgo d 103 30 (zkl a0 :: some (zi x) :: L) (st) (I, R, al) Q := zg_103_29
theorem zh_103_30 {x : Int} : Zgo d 103 30 (a0 :: some (zi x) :: L) (st) (I, R, al) Q ↔ Zgo d 103 31 (a0 :: some (zi x) :: L) (zi x :: st) (I, R, al) Q := zg_103_30
theorem zh_103_31 {x : Option (Nat × Nat)} : Zgo d 103 31 (some (zq x) :: L) (st) (I, R, al) Q ↔ Zgo d 103 32 (some (zq x) :: L) (zq x :: st) (I, R, al) Q := zg_103_31
theorem zh_103_32 {o : Nat} : Zgo d 103 32 (L) (zq (some (11, o)) :: st) (I, R, al) Q ↔ Zgo d 103 35 (L) (zi (I 11 o 6) :: st) (I, R, al) Q := zg_103_32
theorem zh_103_35 {x y : Int} : Zgo d 103 35 (L) (zi y :: zi x :: st) (I, R, al) Q ↔ if zw x < zw y then Zgo d 103 38 (L) (st) (I, R, al) Q else Zgo d 103 60 (L) (st) (I, R, al) Q := zg_103_35
theorem zh_103_38 {x : Option (Nat × Nat)} : Zgo d 103 38 (some (zq x) :: L) (st) (I, R, al) Q ↔ Zgo d 103 39 (some (zq x) :: L) (zq x :: st) (I, R, al) Q := zg_103_38
theorem zh_103_39 {x : Option (Nat × Nat)} : Zgo d 103 39 (some (zq x) :: L) (st) (I, R, al) Q ↔ Zgo d 103 40 (some (zq x) :: L) (zq x :: st) (I, R, al) Q := zg_103_39
theorem zh_103_40 {o : Nat} : Zgo d 103 40 (L) (zq (some (11, o)) :: st) (I, R, al) Q ↔ Zgo d 103 43 (L) (zq (R 11 o 7) :: st) (I, R, al) Q := zg_103_40
theorem zh_103_43 {x : Int} : Zgo d 103 43 (a0 :: some (zi x) :: L) (st) (I, R, al) Q ↔ Zgo d 103 44 (a0 :: some (zi x) :: L) (zi x :: st) (I, R, al) Q := zg_103_43
theorem zh_103_44 {j : Int} {c o : Nat} : Zgo d 103 44 (L) (zi j :: zq (some (c, o)) :: st) (I, R, al) Q ↔ zal (zlen (I, R, al) c) 0 j (fun x => Zgo d 103 45 (L) (zi (I c o x) :: st) (I, R, al) Q) := zg_103_44
theorem zh_103_45 {v1 : zV} {o : Nat} : Zgo d 103 45 (L) (v1 :: zq (some (11, o)) :: st) (I, R, al) Q ↔ if zwt st ≤ 8 then zCp d 106 [zq (some (11, o)), v1] (I, R, al) (fun r S2 => Zgo d 103 48 L (r.toList ++ st) S2 Q) else False := zg_103_45
theorem zh_103_48 {x : Int} : Zgo d 103 48 (a0 :: some (zi x) :: L) (st) (I, R, al) Q ↔ Zgo d 103 49 (a0 :: some (zi x) :: L) (zi x :: st) (I, R, al) Q := zg_103_48
theorem zh_103_49 {x y : Int} : Zgo d 103 49 (L) (zi y :: zi x :: st) (I, R, al) Q ↔ if zw x = zw y then Zgo d 103 54 (L) (st) (I, R, al) Q else Zgo d 103 52 (L) (st) (I, R, al) Q := zg_103_49
theorem zh_103_52 : Zgo d 103 52 (L) (st) (I, R, al) Q ↔ Zgo d 103 53 (L) (zi 3 :: st) (I, R, al) Q := zg_103_52
theorem zh_103_53 {x : Int} : Zgo d 103 53 (L) (zi x :: []) (I, R, al) Q ↔ Q (some (zi x)) (I, R, al) := zg_103_53
theorem zh_103_54 {x : Int} : Zgo d 103 54 (a0 :: some (zi x) :: L) (st) (I, R, al) Q ↔ Zgo d 103 57 (zkl a0 :: some (zi (x + 1)) :: L) (st) (I, R, al) Q := zg_103_54
theorem zh_103_57 : Zgo d 103 57 (L) (st) (I, R, al) Q ↔ Zgo d 103 30 (L) (st) (I, R, al) Q := zg_103_57
theorem zh_103_60 : Zgo d 103 60 (L) (st) (I, R, al) Q ↔ Zgo d 103 61 (L) (zi 0 :: st) (I, R, al) Q := zg_103_60
theorem zh_103_61 {x : Int} : Zgo d 103 61 (a0 :: b0 :: L) (zi x :: st) (I, R, al) Q ↔ Zgo d 103 62 (zkl a0 :: some (zi x) :: L) (st) (I, R, al) Q := zg_103_61
theorem zh_103_62 {x : Option (Nat × Nat)} : Zgo d 103 62 (some (zq x) :: L) (st) (I, R, al) Q ↔ Zgo d 103 63 (some (zq x) :: L) (zq x :: st) (I, R, al) Q := zg_103_62
theorem zh_103_63 {o : Nat} : Zgo d 103 63 (L) (zq (some (11, o)) :: st) (I, R, al) Q ↔ Zgo d 103 66 (L) (zi (I 11 o 10) :: st) (I, R, al) Q := zg_103_63
theorem zh_103_66 : Zgo d 103 66 (L) (st) (I, R, al) Q ↔ Zgo d 103 67 (L) (zi 1 :: st) (I, R, al) Q := zg_103_66
theorem zh_103_67 {x y : Int} : Zgo d 103 67 (L) (zi y :: zi x :: st) (I, R, al) Q ↔ Zgo d 103 68 (L) (zi (x - y) :: st) (I, R, al) Q := zg_103_67
theorem zh_103_68 {x : Int} : Zgo d 103 68 (a0 :: a1 :: b0 :: L) (zi x :: st) (I, R, al) Q ↔ Zgo d 103 69 (a0 :: zkl a1 :: some (zi x) :: L) (st) (I, R, al) Q := zg_103_68
theorem zh_103_69 {x : Int} : Zgo d 103 69 (a0 :: a1 :: some (zi x) :: L) (st) (I, R, al) Q ↔ Zgo d 103 70 (a0 :: a1 :: some (zi x) :: L) (zi x :: st) (I, R, al) Q := zg_103_69
theorem zh_103_70 {x : Int} : Zgo d 103 70 (L) (zi x :: st) (I, R, al) Q ↔ if zw x < zw 0 then Zgo d 103 97 (L) (st) (I, R, al) Q else Zgo d 103 73 (L) (st) (I, R, al) Q := zg_103_70
theorem zh_103_73 {x : Option (Nat × Nat)} : Zgo d 103 73 (some (zq x) :: L) (st) (I, R, al) Q ↔ Zgo d 103 74 (some (zq x) :: L) (zq x :: st) (I, R, al) Q := zg_103_73
theorem zh_103_74 {x : Int} : Zgo d 103 74 (a0 :: a1 :: some (zi x) :: L) (st) (I, R, al) Q ↔ Zgo d 103 75 (a0 :: a1 :: some (zi x) :: L) (zi x :: st) (I, R, al) Q := zg_103_74
theorem zh_103_75 {v1 : zV} {o : Nat} : Zgo d 103 75 (L) (v1 :: zq (some (11, o)) :: st) (I, R, al) Q ↔ if zwt st ≤ 8 then zCp d 109 [zq (some (11, o)), v1] (I, R, al) (fun r S2 => Zgo d 103 78 L (r.toList ++ st) S2 Q) else False := zg_103_75
theorem zh_103_78 {x : Int} : Zgo d 103 78 (L) (zi x :: st) (I, R, al) Q ↔ if zw x = zw 0 then Zgo d 103 81 (L) (st) (I, R, al) Q else Zgo d 103 85 (L) (st) (I, R, al) Q := zg_103_78
theorem zh_103_81 {x : Int} : Zgo d 103 81 (a0 :: some (zi x) :: L) (st) (I, R, al) Q ↔ Zgo d 103 82 (a0 :: some (zi x) :: L) (zi x :: st) (I, R, al) Q := zg_103_81
theorem zh_103_82 {x : Int} : Zgo d 103 82 (L) (zi x :: st) (I, R, al) Q ↔ if zw x = zw 0 then Zgo d 103 89 (L) (st) (I, R, al) Q else Zgo d 103 85 (L) (st) (I, R, al) Q := zg_103_82
theorem zh_103_85 : Zgo d 103 85 (L) (st) (I, R, al) Q ↔ Zgo d 103 86 (L) (zi 1 :: st) (I, R, al) Q := zg_103_85
theorem zh_103_86 : Zgo d 103 86 (L) (st) (I, R, al) Q ↔ Zgo d 103 90 (L) (st) (I, R, al) Q := zg_103_86
theorem zh_103_89 : Zgo d 103 89 (L) (st) (I, R, al) Q ↔ Zgo d 103 90 (L) (zi 0 :: st) (I, R, al) Q := zg_103_89
theorem zh_103_90 {x : Int} : Zgo d 103 90 (a0 :: b0 :: L) (zi x :: st) (I, R, al) Q ↔ Zgo d 103 91 (zkl a0 :: some (zi x) :: L) (st) (I, R, al) Q := zg_103_90
theorem zh_103_91 {x : Int} : Zgo d 103 91 (a0 :: a1 :: some (zi x) :: L) (st) (I, R, al) Q ↔ Zgo d 103 94 (a0 :: zkl a1 :: some (zi (x + (-1))) :: L) (st) (I, R, al) Q := zg_103_91
theorem zh_103_94 : Zgo d 103 94 (L) (st) (I, R, al) Q ↔ Zgo d 103 69 (L) (st) (I, R, al) Q := zg_103_94
theorem zh_103_97 : Zgo d 103 97 (L) (st) (I, R, al) Q ↔ Zgo d 103 98 (L) (zi 0 :: st) (I, R, al) Q := zg_103_97
theorem zh_103_98 {x : Int} : Zgo d 103 98 (a0 :: a1 :: b0 :: L) (zi x :: st) (I, R, al) Q ↔ Zgo d 103 99 (a0 :: zkl a1 :: some (zi x) :: L) (st) (I, R, al) Q := zg_103_98
theorem zh_103_99 {x : Int} : Zgo d 103 99 (a0 :: a1 :: some (zi x) :: L) (st) (I, R, al) Q ↔ Zgo d 103 100 (a0 :: a1 :: some (zi x) :: L) (zi x :: st) (I, R, al) Q := zg_103_99
theorem zh_103_100 {x : Option (Nat × Nat)} : Zgo d 103 100 (some (zq x) :: L) (st) (I, R, al) Q ↔ Zgo d 103 101 (some (zq x) :: L) (zq x :: st) (I, R, al) Q := zg_103_100
theorem zh_103_101 {o : Nat} : Zgo d 103 101 (L) (zq (some (11, o)) :: st) (I, R, al) Q ↔ Zgo d 103 104 (L) (zi (I 11 o 6) :: st) (I, R, al) Q := zg_103_101
theorem zh_103_104 {x y : Int} : Zgo d 103 104 (L) (zi y :: zi x :: st) (I, R, al) Q ↔ if zw y < zw x then Zgo d 103 167 (L) (st) (I, R, al) Q else Zgo d 103 107 (L) (st) (I, R, al) Q := zg_103_104
theorem zh_103_107 {x : Int} : Zgo d 103 107 (a0 :: some (zi x) :: L) (st) (I, R, al) Q ↔ Zgo d 103 108 (a0 :: some (zi x) :: L) (zi x :: st) (I, R, al) Q := zg_103_107
theorem zh_103_108 {x : Int} : Zgo d 103 108 (L) (zi x :: st) (I, R, al) Q ↔ if zw x = zw 0 then Zgo d 103 111 (L) (st) (I, R, al) Q else Zgo d 103 155 (L) (st) (I, R, al) Q := zg_103_108
theorem zh_103_111 {x : Option (Nat × Nat)} : Zgo d 103 111 (some (zq x) :: L) (st) (I, R, al) Q ↔ Zgo d 103 112 (some (zq x) :: L) (zq x :: st) (I, R, al) Q := zg_103_111
theorem zh_103_112 {o : Nat} : Zgo d 103 112 (L) (zq (some (11, o)) :: st) (I, R, al) Q ↔ Zgo d 103 115 (L) (zq (R 11 o 27) :: st) (I, R, al) Q := zg_103_112
theorem zh_103_115 {x : Option (Nat × Nat)} : Zgo d 103 115 (some (zq x) :: L) (st) (I, R, al) Q ↔ Zgo d 103 116 (some (zq x) :: L) (zq x :: st) (I, R, al) Q := zg_103_115
theorem zh_103_116 {o : Nat} : Zgo d 103 116 (L) (zq (some (11, o)) :: st) (I, R, al) Q ↔ Zgo d 103 119 (L) (zq (R 11 o 9) :: st) (I, R, al) Q := zg_103_116
theorem zh_103_119 {x : Int} : Zgo d 103 119 (a0 :: a1 :: some (zi x) :: L) (st) (I, R, al) Q ↔ Zgo d 103 120 (a0 :: a1 :: some (zi x) :: L) (zi x :: st) (I, R, al) Q := zg_103_119
theorem zh_103_120 {j : Int} {c o : Nat} : Zgo d 103 120 (L) (zi j :: zq (some (c, o)) :: st) (I, R, al) Q ↔ zal (zlen (I, R, al) c) 0 j (fun x => Zgo d 103 121 (L) (zi (I c o x) :: st) (I, R, al) Q) := zg_103_120
theorem zh_103_121 {j : Int} {c o : Nat} : Zgo d 103 121 (L) (zi j :: zq (some (c, o)) :: st) (I, R, al) Q ↔ zal (zlen (I, R, al) c) 0 j (fun x => Zgo d 103 122 (L) (zi (I c o x) :: st) (I, R, al) Q) := zg_103_121
theorem zh_103_122 {x : Int} : Zgo d 103 122 (a0 :: a1 :: some (zi x) :: L) (st) (I, R, al) Q ↔ Zgo d 103 123 (a0 :: a1 :: some (zi x) :: L) (zi x :: st) (I, R, al) Q := zg_103_122
theorem zh_103_123 {x : Option (Nat × Nat)} : Zgo d 103 123 (some (zq x) :: L) (st) (I, R, al) Q ↔ Zgo d 103 124 (some (zq x) :: L) (zq x :: st) (I, R, al) Q := zg_103_123
theorem zh_103_124 {o : Nat} : Zgo d 103 124 (L) (zq (some (11, o)) :: st) (I, R, al) Q ↔ Zgo d 103 127 (L) (zi (I 11 o 6) :: st) (I, R, al) Q := zg_103_124
theorem zh_103_127 {x y : Int} : Zgo d 103 127 (L) (zi y :: zi x :: st) (I, R, al) Q ↔ if zw x < zw y then Zgo d 103 130 (L) (st) (I, R, al) Q else Zgo d 103 148 (L) (st) (I, R, al) Q := zg_103_127
theorem zh_103_130 {x : Option (Nat × Nat)} : Zgo d 103 130 (some (zq x) :: L) (st) (I, R, al) Q ↔ Zgo d 103 131 (some (zq x) :: L) (zq x :: st) (I, R, al) Q := zg_103_130
theorem zh_103_131 {o : Nat} : Zgo d 103 131 (L) (zq (some (11, o)) :: st) (I, R, al) Q ↔ Zgo d 103 134 (L) (zq (R 11 o 8) :: st) (I, R, al) Q := zg_103_131
theorem zh_103_134 {x : Int} : Zgo d 103 134 (a0 :: a1 :: some (zi x) :: L) (st) (I, R, al) Q ↔ Zgo d 103 135 (a0 :: a1 :: some (zi x) :: L) (zi x :: st) (I, R, al) Q := zg_103_134
theorem zh_103_135 : Zgo d 103 135 (L) (st) (I, R, al) Q ↔ Zgo d 103 136 (L) (zi 3 :: st) (I, R, al) Q := zg_103_135
theorem zh_103_136 {x y : Int} : Zgo d 103 136 (L) (zi y :: zi x :: st) (I, R, al) Q ↔ if zw x < zw y then Zgo d 103 139 (L) (st) (I, R, al) Q else Zgo d 103 143 (L) (st) (I, R, al) Q := zg_103_136
theorem zh_103_139 {x : Int} : Zgo d 103 139 (a0 :: a1 :: some (zi x) :: L) (st) (I, R, al) Q ↔ Zgo d 103 140 (a0 :: a1 :: some (zi x) :: L) (zi x :: st) (I, R, al) Q := zg_103_139
theorem zh_103_140 : Zgo d 103 140 (L) (st) (I, R, al) Q ↔ Zgo d 103 144 (L) (st) (I, R, al) Q := zg_103_140
theorem zh_103_143 : Zgo d 103 143 (L) (st) (I, R, al) Q ↔ Zgo d 103 144 (L) (zi 0 :: st) (I, R, al) Q := zg_103_143
theorem zh_103_144 {j : Int} {c o : Nat} : Zgo d 103 144 (L) (zi j :: zq (some (c, o)) :: st) (I, R, al) Q ↔ zal (zlen (I, R, al) c) 0 j (fun x => Zgo d 103 145 (L) (zi (I c o x) :: st) (I, R, al) Q) := zg_103_144
theorem zh_103_145 : Zgo d 103 145 (L) (st) (I, R, al) Q ↔ Zgo d 103 149 (L) (st) (I, R, al) Q := zg_103_145
theorem zh_103_148 : Zgo d 103 148 (L) (st) (I, R, al) Q ↔ Zgo d 103 149 (L) (zi 0 :: st) (I, R, al) Q := zg_103_148
theorem zh_103_149 : Zgo d 103 149 (L) (st) (I, R, al) Q ↔ Zgo d 103 150 (L) (zi (-1) :: st) (I, R, al) Q := zg_103_149
theorem zh_103_150 {x y : Int} : Zgo d 103 150 (L) (zi y :: zi x :: st) (I, R, al) Q ↔ Zgo d 103 151 (L) (zi (zxor x y) :: st) (I, R, al) Q := zg_103_150
theorem zh_103_151 {x y : Int} : Zgo d 103 151 (L) (zi y :: zi x :: st) (I, R, al) Q ↔ Zgo d 103 152 (L) (zi (zand x y) :: st) (I, R, al) Q := zg_103_151
theorem zh_103_152 {x : Int} : Zgo d 103 152 (L) (zi x :: st) (I, R, al) Q ↔ if zw x = zw 0 then Zgo d 103 159 (L) (st) (I, R, al) Q else Zgo d 103 155 (L) (st) (I, R, al) Q := zg_103_152
theorem zh_103_155 : Zgo d 103 155 (L) (st) (I, R, al) Q ↔ Zgo d 103 156 (L) (zi 1 :: st) (I, R, al) Q := zg_103_155
theorem zh_103_156 : Zgo d 103 156 (L) (st) (I, R, al) Q ↔ Zgo d 103 160 (L) (st) (I, R, al) Q := zg_103_156
theorem zh_103_159 : Zgo d 103 159 (L) (st) (I, R, al) Q ↔ Zgo d 103 160 (L) (zi 0 :: st) (I, R, al) Q := zg_103_159
theorem zh_103_160 {x : Int} : Zgo d 103 160 (a0 :: b0 :: L) (zi x :: st) (I, R, al) Q ↔ Zgo d 103 161 (zkl a0 :: some (zi x) :: L) (st) (I, R, al) Q := zg_103_160
theorem zh_103_161 {x : Int} : Zgo d 103 161 (a0 :: a1 :: some (zi x) :: L) (st) (I, R, al) Q ↔ Zgo d 103 164 (a0 :: zkl a1 :: some (zi (x + 1)) :: L) (st) (I, R, al) Q := zg_103_161
theorem zh_103_164 : Zgo d 103 164 (L) (st) (I, R, al) Q ↔ Zgo d 103 99 (L) (st) (I, R, al) Q := zg_103_164
theorem zh_103_167 {x : Int} : Zgo d 103 167 (a0 :: some (zi x) :: L) (st) (I, R, al) Q ↔ Zgo d 103 168 (a0 :: some (zi x) :: L) (zi x :: st) (I, R, al) Q := zg_103_167
theorem zh_103_168 {x : Int} : Zgo d 103 168 (L) (zi x :: st) (I, R, al) Q ↔ if zw x = zw 0 then Zgo d 103 175 (L) (st) (I, R, al) Q else Zgo d 103 171 (L) (st) (I, R, al) Q := zg_103_168
theorem zh_103_171 : Zgo d 103 171 (L) (st) (I, R, al) Q ↔ Zgo d 103 172 (L) (zi 5 :: st) (I, R, al) Q := zg_103_171
theorem zh_103_172 : Zgo d 103 172 (L) (st) (I, R, al) Q ↔ Zgo d 103 176 (L) (st) (I, R, al) Q := zg_103_172
theorem zh_103_175 : Zgo d 103 175 (L) (st) (I, R, al) Q ↔ Zgo d 103 176 (L) (zi 0 :: st) (I, R, al) Q := zg_103_175
theorem zh_103_176 {x : Int} : Zgo d 103 176 (L) (zi x :: []) (I, R, al) Q ↔ Q (some (zi x)) (I, R, al) := zg_103_176
theorem zh_104_0 {x : Option (Nat × Nat)} : Zgo d 104 0 (some (zq x) :: L) (st) (I, R, al) Q ↔ Zgo d 104 1 (some (zq x) :: L) (zq x :: st) (I, R, al) Q := zg_104_0
theorem zh_104_1 {o : Nat} : Zgo d 104 1 (L) (zq (some (11, o)) :: st) (I, R, al) Q ↔ Zgo d 104 4 (L) (zq (R 11 o 11) :: st) (I, R, al) Q := zg_104_1
theorem zh_104_4 {x : Int} : Zgo d 104 4 (a0 :: some (zi x) :: L) (st) (I, R, al) Q ↔ Zgo d 104 5 (a0 :: some (zi x) :: L) (zi x :: st) (I, R, al) Q := zg_104_4
theorem zh_104_5 {j : Int} {c o : Nat} : Zgo d 104 5 (L) (zi j :: zq (some (c, o)) :: st) (I, R, al) Q ↔ zal (zlen (I, R, al) c) 0 j (fun x => Zgo d 104 6 (L) (zi (I c o x) :: st) (I, R, al) Q) := zg_104_5
theorem zh_104_6 {x : Int} : Zgo d 104 6 (a0 :: a1 :: b0 :: L) (zi x :: st) (I, R, al) Q ↔ Zgo d 104 7 (a0 :: zkl a1 :: some (zi x) :: L) (st) (I, R, al) Q := zg_104_6
theorem zh_104_7 {x : Int} : Zgo d 104 7 (a0 :: a1 :: some (zi x) :: L) (st) (I, R, al) Q ↔ Zgo d 104 8 (a0 :: a1 :: some (zi x) :: L) (zi x :: st) (I, R, al) Q := zg_104_7
theorem zh_104_8 : Zgo d 104 8 (L) (st) (I, R, al) Q ↔ Zgo d 104 10 (L) (zi 66 :: st) (I, R, al) Q := zg_104_8
theorem zh_104_10 {x y : Int} : Zgo d 104 10 (L) (zi y :: zi x :: st) (I, R, al) Q ↔ if zw x = zw y then Zgo d 104 19 (L) (st) (I, R, al) Q else Zgo d 104 13 (L) (st) (I, R, al) Q := zg_104_10
theorem zh_104_13 {x : Int} : Zgo d 104 13 (a0 :: a1 :: some (zi x) :: L) (st) (I, R, al) Q ↔ Zgo d 104 14 (a0 :: a1 :: some (zi x) :: L) (zi x :: st) (I, R, al) Q := zg_104_13
theorem zh_104_14 : Zgo d 104 14 (L) (st) (I, R, al) Q ↔ Zgo d 104 16 (L) (zi 67 :: st) (I, R, al) Q := zg_104_14
theorem zh_104_16 {x y : Int} : Zgo d 104 16 (L) (zi y :: zi x :: st) (I, R, al) Q ↔ if zw x = zw y then Zgo d 104 19 (L) (st) (I, R, al) Q else Zgo d 104 31 (L) (st) (I, R, al) Q := zg_104_16
theorem zh_104_19 {x : Option (Nat × Nat)} : Zgo d 104 19 (some (zq x) :: L) (st) (I, R, al) Q ↔ Zgo d 104 20 (some (zq x) :: L) (zq x :: st) (I, R, al) Q := zg_104_19
theorem zh_104_20 {x : Int} : Zgo d 104 20 (a0 :: some (zi x) :: L) (st) (I, R, al) Q ↔ Zgo d 104 21 (a0 :: some (zi x) :: L) (zi x :: st) (I, R, al) Q := zg_104_20
theorem zh_104_21 : Zgo d 104 21 (L) (st) (I, R, al) Q ↔ Zgo d 104 23 (L) (zi 64 :: st) (I, R, al) Q := zg_104_21
theorem zh_104_23 : Zgo d 104 23 (L) (st) (I, R, al) Q ↔ Zgo d 104 24 (L) (zi 0 :: st) (I, R, al) Q := zg_104_23
theorem zh_104_24 : Zgo d 104 24 (L) (st) (I, R, al) Q ↔ Zgo d 104 25 (L) (zi 0 :: st) (I, R, al) Q := zg_104_24
theorem zh_104_25 {v1 v2 v3 v4 : zV} {o : Nat} : Zgo d 104 25 (L) (v4 :: v3 :: v2 :: v1 :: zq (some (11, o)) :: st) (I, R, al) Q ↔ if zwt st ≤ 8 then zCp d 105 [zq (some (11, o)), v1, v2, v3, v4] (I, R, al) (fun r S2 => Zgo d 104 28 L (r.toList ++ st) S2 Q) else False := zg_104_25
theorem zh_104_28 {x : Int} : Zgo d 104 28 (L) (zi x :: st) (I, R, al) Q ↔ if zw x < zw 0 then Zgo d 104 49 (L) (st) (I, R, al) Q else Zgo d 104 31 (L) (st) (I, R, al) Q := zg_104_28
theorem zh_104_31 {x : Int} : Zgo d 104 31 (a0 :: a1 :: some (zi x) :: L) (st) (I, R, al) Q ↔ Zgo d 104 32 (a0 :: a1 :: some (zi x) :: L) (zi x :: st) (I, R, al) Q := zg_104_31
theorem zh_104_32 : Zgo d 104 32 (L) (st) (I, R, al) Q ↔ Zgo d 104 34 (L) (zi 88 :: st) (I, R, al) Q := zg_104_32
theorem zh_104_34 {x y : Int} : Zgo d 104 34 (L) (zi y :: zi x :: st) (I, R, al) Q ↔ if zw x = zw y then Zgo d 104 37 (L) (st) (I, R, al) Q else Zgo d 104 51 (L) (st) (I, R, al) Q := zg_104_34
theorem zh_104_37 {x : Option (Nat × Nat)} : Zgo d 104 37 (some (zq x) :: L) (st) (I, R, al) Q ↔ Zgo d 104 38 (some (zq x) :: L) (zq x :: st) (I, R, al) Q := zg_104_37
theorem zh_104_38 {x : Int} : Zgo d 104 38 (a0 :: some (zi x) :: L) (st) (I, R, al) Q ↔ Zgo d 104 39 (a0 :: some (zi x) :: L) (zi x :: st) (I, R, al) Q := zg_104_38
theorem zh_104_39 : Zgo d 104 39 (L) (st) (I, R, al) Q ↔ Zgo d 104 41 (L) (zi 89 :: st) (I, R, al) Q := zg_104_39
theorem zh_104_41 : Zgo d 104 41 (L) (st) (I, R, al) Q ↔ Zgo d 104 42 (L) (zi 2 :: st) (I, R, al) Q := zg_104_41
theorem zh_104_42 : Zgo d 104 42 (L) (st) (I, R, al) Q ↔ Zgo d 104 43 (L) (zi 4 :: st) (I, R, al) Q := zg_104_42
theorem zh_104_43 {v1 v2 v3 v4 : zV} {o : Nat} : Zgo d 104 43 (L) (v4 :: v3 :: v2 :: v1 :: zq (some (11, o)) :: st) (I, R, al) Q ↔ if zwt st ≤ 8 then zCp d 105 [zq (some (11, o)), v1, v2, v3, v4] (I, R, al) (fun r S2 => Zgo d 104 46 L (r.toList ++ st) S2 Q) else False := zg_104_43
theorem zh_104_46 {x : Int} : Zgo d 104 46 (L) (zi x :: st) (I, R, al) Q ↔ if zw x < zw 0 then Zgo d 104 49 (L) (st) (I, R, al) Q else Zgo d 104 51 (L) (st) (I, R, al) Q := zg_104_46
theorem zh_104_49 : Zgo d 104 49 (L) (st) (I, R, al) Q ↔ Zgo d 104 50 (L) (zi 2 :: st) (I, R, al) Q := zg_104_49
theorem zh_104_50 {x : Int} : Zgo d 104 50 (L) (zi x :: []) (I, R, al) Q ↔ Q (some (zi x)) (I, R, al) := zg_104_50
theorem zh_104_51 {x : Int} : Zgo d 104 51 (a0 :: a1 :: some (zi x) :: L) (st) (I, R, al) Q ↔ Zgo d 104 52 (a0 :: a1 :: some (zi x) :: L) (zi x :: st) (I, R, al) Q := zg_104_51
theorem zh_104_52 : Zgo d 104 52 (L) (st) (I, R, al) Q ↔ Zgo d 104 54 (L) (zi 80 :: st) (I, R, al) Q := zg_104_52
theorem zh_104_54 {x y : Int} : Zgo d 104 54 (L) (zi y :: zi x :: st) (I, R, al) Q ↔ if zw x = zw y then Zgo d 104 57 (L) (st) (I, R, al) Q else Zgo d 104 72 (L) (st) (I, R, al) Q := zg_104_54
theorem zh_104_57 {x : Option (Nat × Nat)} : Zgo d 104 57 (some (zq x) :: L) (st) (I, R, al) Q ↔ Zgo d 104 58 (some (zq x) :: L) (zq x :: st) (I, R, al) Q := zg_104_57
theorem zh_104_58 {x : Option (Nat × Nat)} : Zgo d 104 58 (some (zq x) :: L) (st) (I, R, al) Q ↔ Zgo d 104 59 (some (zq x) :: L) (zq x :: st) (I, R, al) Q := zg_104_58
theorem zh_104_59 {o : Nat} : Zgo d 104 59 (L) (zq (some (11, o)) :: st) (I, R, al) Q ↔ Zgo d 104 62 (L) (zq (R 11 o 12) :: st) (I, R, al) Q := zg_104_59
theorem zh_104_62 {x : Int} : Zgo d 104 62 (a0 :: some (zi x) :: L) (st) (I, R, al) Q ↔ Zgo d 104 63 (a0 :: some (zi x) :: L) (zi x :: st) (I, R, al) Q := zg_104_62
theorem zh_104_63 {j : Int} {c o : Nat} : Zgo d 104 63 (L) (zi j :: zq (some (c, o)) :: st) (I, R, al) Q ↔ zal (zlen (I, R, al) c) 0 j (fun x => Zgo d 104 64 (L) (zi (I c o x) :: st) (I, R, al) Q) := zg_104_63
theorem zh_104_64 {v1 : zV} {o : Nat} : Zgo d 104 64 (L) (v1 :: zq (some (11, o)) :: st) (I, R, al) Q ↔ if zwt st ≤ 8 then zCp d 106 [zq (some (11, o)), v1] (I, R, al) (fun r S2 => Zgo d 104 67 L (r.toList ++ st) S2 Q) else False := zg_104_64
theorem zh_104_67 {x : Int} : Zgo d 104 67 (L) (zi x :: st) (I, R, al) Q ↔ if zw x < zw 0 then Zgo d 104 70 (L) (st) (I, R, al) Q else Zgo d 104 72 (L) (st) (I, R, al) Q := zg_104_67
theorem zh_104_70 : Zgo d 104 70 (L) (st) (I, R, al) Q ↔ Zgo d 104 71 (L) (zi 3 :: st) (I, R, al) Q := zg_104_70
theorem zh_104_71 {x : Int} : Zgo d 104 71 (L) (zi x :: []) (I, R, al) Q ↔ Q (some (zi x)) (I, R, al) := zg_104_71
theorem zh_104_72 {x : Option (Nat × Nat)} : Zgo d 104 72 (some (zq x) :: L) (st) (I, R, al) Q ↔ Zgo d 104 73 (some (zq x) :: L) (zq x :: st) (I, R, al) Q := zg_104_72
theorem zh_104_73 {x : Int} : Zgo d 104 73 (a0 :: some (zi x) :: L) (st) (I, R, al) Q ↔ Zgo d 104 74 (a0 :: some (zi x) :: L) (zi x :: st) (I, R, al) Q := zg_104_73
theorem zh_104_74 {v1 : zV} {o : Nat} : Zgo d 104 74 (L) (v1 :: zq (some (11, o)) :: st) (I, R, al) Q ↔ if zwt st ≤ 8 then zCp d 107 [zq (some (11, o)), v1] (I, R, al) (fun r S2 => Zgo d 104 77 L (r.toList ++ st) S2 Q) else False := zg_104_74
theorem zh_104_77 {x : Int} : Zgo d 104 77 (a0 :: a1 :: a2 :: b0 :: L) (zi x :: st) (I, R, al) Q ↔ Zgo d 104 78 (a0 :: a1 :: zkl a2 :: some (zi x) :: L) (st) (I, R, al) Q := zg_104_77
theorem zh_104_78 {x : Int} : Zgo d 104 78 (a0 :: a1 :: a2 :: some (zi x) :: L) (st) (I, R, al) Q ↔ Zgo d 104 79 (a0 :: a1 :: a2 :: some (zi x) :: L) (zi x :: st) (I, R, al) Q := zg_104_78
theorem zh_104_79 {x : Int} : Zgo d 104 79 (L) (zi x :: st) (I, R, al) Q ↔ if zw x < zw 0 then Zgo d 104 106 (L) (st) (I, R, al) Q else Zgo d 104 82 (L) (st) (I, R, al) Q := zg_104_79
theorem zh_104_82 {x : Option (Nat × Nat)} : Zgo d 104 82 (some (zq x) :: L) (st) (I, R, al) Q ↔ Zgo d 104 83 (some (zq x) :: L) (zq x :: st) (I, R, al) Q := zg_104_82
theorem zh_104_83 {o : Nat} : Zgo d 104 83 (L) (zq (some (11, o)) :: st) (I, R, al) Q ↔ Zgo d 104 86 (L) (zq (R 11 o 11) :: st) (I, R, al) Q := zg_104_83
theorem zh_104_86 {x : Int} : Zgo d 104 86 (a0 :: a1 :: a2 :: some (zi x) :: L) (st) (I, R, al) Q ↔ Zgo d 104 87 (a0 :: a1 :: a2 :: some (zi x) :: L) (zi x :: st) (I, R, al) Q := zg_104_86
theorem zh_104_87 {x : Int} : Zgo d 104 87 (L) (zi x :: st) (I, R, al) Q ↔ if zw x < zw 0 then Zgo d 104 90 (L) (st) (I, R, al) Q else Zgo d 104 94 (L) (st) (I, R, al) Q := zg_104_87
theorem zh_104_90 : Zgo d 104 90 (L) (st) (I, R, al) Q ↔ Zgo d 104 91 (L) (zi 0 :: st) (I, R, al) Q := zg_104_90
theorem zh_104_91 : Zgo d 104 91 (L) (st) (I, R, al) Q ↔ Zgo d 104 95 (L) (st) (I, R, al) Q := zg_104_91
theorem zh_104_94 {x : Int} : Zgo d 104 94 (a0 :: a1 :: a2 :: some (zi x) :: L) (st) (I, R, al) Q ↔ Zgo d 104 95 (a0 :: a1 :: a2 :: some (zi x) :: L) (zi x :: st) (I, R, al) Q := zg_104_94
theorem zh_104_95 {j : Int} {c o : Nat} : Zgo d 104 95 (L) (zi j :: zq (some (c, o)) :: st) (I, R, al) Q ↔ zal (zlen (I, R, al) c) 0 j (fun x => Zgo d 104 96 (L) (zi (I c o x) :: st) (I, R, al) Q) := zg_104_95
theorem zh_104_96 {v0 : zV} : Zgo d 104 96 (L) (v0 :: st) (I, R, al) Q ↔ if zwt st ≤ 8 then zCp d 108 [v0] (I, R, al) (fun r S2 => Zgo d 104 99 L (r.toList ++ st) S2 Q) else False := zg_104_96
theorem zh_104_99 {x : Int} : Zgo d 104 99 (L) (zi x :: st) (I, R, al) Q ↔ if zw x = zw 0 then Zgo d 104 106 (L) (st) (I, R, al) Q else Zgo d 104 102 (L) (st) (I, R, al) Q := zg_104_99
theorem zh_104_102 : Zgo d 104 102 (L) (st) (I, R, al) Q ↔ Zgo d 104 103 (L) (zi 4 :: st) (I, R, al) Q := zg_104_102
theorem zh_104_103 : Zgo d 104 103 (L) (st) (I, R, al) Q ↔ Zgo d 104 107 (L) (st) (I, R, al) Q := zg_104_103
theorem zh_104_106 : Zgo d 104 106 (L) (st) (I, R, al) Q ↔ Zgo d 104 107 (L) (zi 0 :: st) (I, R, al) Q := zg_104_106
theorem zh_104_107 {x : Int} : Zgo d 104 107 (L) (zi x :: []) (I, R, al) Q ↔ Q (some (zi x)) (I, R, al) := zg_104_107
end
