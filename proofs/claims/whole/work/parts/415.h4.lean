/-! what each instruction does to the shapes that it finds (4) -/
section
variable {d : Nat} {L : zL} {st : List zV} {I : zMI} {R : zMR} {al : zA} {Q : Option zV → zS → Prop} {a0 a1 a2 a3 a4 a5 a6 a7 a8 b0 : Option zV}
theorem zh_105_0 {x : Option (Nat × Nat)} : Zgo d 105 0 (some (zq x) :: L) (st) (I, R, al) Q ↔ Zgo d 105 1 (some (zq x) :: L) (zq x :: st) (I, R, al) Q := zg_105_0
theorem zh_105_1 {o : Nat} : Zgo d 105 1 (L) (zq (some (11, o)) :: st) (I, R, al) Q ↔ Zgo d 105 4 (L) (zq (R 11 o 19) :: st) (I, R, al) Q := zg_105_1
theorem zh_105_4 {x : Int} : Zgo d 105 4 (a0 :: some (zi x) :: L) (st) (I, R, al) Q ↔ Zgo d 105 5 (a0 :: some (zi x) :: L) (zi x :: st) (I, R, al) Q := zg_105_4
theorem zh_105_5 {j : Int} {c o : Nat} : Zgo d 105 5 (L) (zi j :: zq (some (c, o)) :: st) (I, R, al) Q ↔ zal (zlen (I, R, al) c) 0 j (fun x => Zgo d 105 6 (L) (zi (I c o x) :: st) (I, R, al) Q) := zg_105_5
theorem zh_105_6 {x : Int} : Zgo d 105 6 (a0 :: a1 :: a2 :: a3 :: a4 :: b0 :: L) (zi x :: st) (I, R, al) Q ↔ Zgo d 105 8 (a0 :: a1 :: a2 :: a3 :: zkl a4 :: some (zi x) :: L) (st) (I, R, al) Q := zg_105_6
theorem zh_105_8 {x : Option (Nat × Nat)} : Zgo d 105 8 (some (zq x) :: L) (st) (I, R, al) Q ↔ Zgo d 105 9 (some (zq x) :: L) (zq x :: st) (I, R, al) Q := zg_105_8
theorem zh_105_9 {o : Nat} : Zgo d 105 9 (L) (zq (some (11, o)) :: st) (I, R, al) Q ↔ Zgo d 105 12 (L) (zq (R 11 o 25) :: st) (I, R, al) Q := zg_105_9
theorem zh_105_12 {x : Int} : Zgo d 105 12 (a0 :: a1 :: a2 :: a3 :: a4 :: some (zi x) :: L) (st) (I, R, al) Q ↔ Zgo d 105 14 (a0 :: a1 :: a2 :: a3 :: a4 :: some (zi x) :: L) (zi x :: st) (I, R, al) Q := zg_105_12
theorem zh_105_14 {j : Int} {c o : Nat} : Zgo d 105 14 (L) (zi j :: zq (some (c, o)) :: st) (I, R, al) Q ↔ zal (zlen (I, R, al) c) 0 j (fun x => Zgo d 105 15 (L) (zi (I c o x) :: st) (I, R, al) Q) := zg_105_14
theorem zh_105_15 {x : Int} : Zgo d 105 15 (L) (zi x :: st) (I, R, al) Q ↔ if zw x < zw 0 then Zgo d 105 77 (L) (st) (I, R, al) Q else Zgo d 105 18 (L) (st) (I, R, al) Q := zg_105_15
theorem zh_105_18 {x : Option (Nat × Nat)} : Zgo d 105 18 (some (zq x) :: L) (st) (I, R, al) Q ↔ Zgo d 105 19 (some (zq x) :: L) (zq x :: st) (I, R, al) Q := zg_105_18
theorem zh_105_19 {o : Nat} : Zgo d 105 19 (L) (zq (some (11, o)) :: st) (I, R, al) Q ↔ Zgo d 105 22 (L) (zq (R 11 o 11) :: st) (I, R, al) Q := zg_105_19
theorem zh_105_22 {x : Option (Nat × Nat)} : Zgo d 105 22 (some (zq x) :: L) (st) (I, R, al) Q ↔ Zgo d 105 23 (some (zq x) :: L) (zq x :: st) (I, R, al) Q := zg_105_22
theorem zh_105_23 {o : Nat} : Zgo d 105 23 (L) (zq (some (11, o)) :: st) (I, R, al) Q ↔ Zgo d 105 26 (L) (zq (R 11 o 25) :: st) (I, R, al) Q := zg_105_23
theorem zh_105_26 {x : Int} : Zgo d 105 26 (a0 :: a1 :: a2 :: a3 :: a4 :: some (zi x) :: L) (st) (I, R, al) Q ↔ Zgo d 105 28 (a0 :: a1 :: a2 :: a3 :: a4 :: some (zi x) :: L) (zi x :: st) (I, R, al) Q := zg_105_26
theorem zh_105_28 {j : Int} {c o : Nat} : Zgo d 105 28 (L) (zi j :: zq (some (c, o)) :: st) (I, R, al) Q ↔ zal (zlen (I, R, al) c) 0 j (fun x => Zgo d 105 29 (L) (zi (I c o x) :: st) (I, R, al) Q) := zg_105_28
theorem zh_105_29 {j : Int} {c o : Nat} : Zgo d 105 29 (L) (zi j :: zq (some (c, o)) :: st) (I, R, al) Q ↔ zal (zlen (I, R, al) c) 0 j (fun x => Zgo d 105 30 (L) (zi (I c o x) :: st) (I, R, al) Q) := zg_105_29
theorem zh_105_30 {x : Int} : Zgo d 105 30 (a0 :: a1 :: some (zi x) :: L) (st) (I, R, al) Q ↔ Zgo d 105 31 (a0 :: a1 :: some (zi x) :: L) (zi x :: st) (I, R, al) Q := zg_105_30
theorem zh_105_31 {x y : Int} : Zgo d 105 31 (L) (zi y :: zi x :: st) (I, R, al) Q ↔ if zw x = zw y then Zgo d 105 34 (L) (st) (I, R, al) Q else Zgo d 105 60 (L) (st) (I, R, al) Q := zg_105_31
theorem zh_105_34 {x : Option (Nat × Nat)} : Zgo d 105 34 (some (zq x) :: L) (st) (I, R, al) Q ↔ Zgo d 105 35 (some (zq x) :: L) (zq x :: st) (I, R, al) Q := zg_105_34
theorem zh_105_35 {o : Nat} : Zgo d 105 35 (L) (zq (some (11, o)) :: st) (I, R, al) Q ↔ Zgo d 105 38 (L) (zq (R 11 o 26) :: st) (I, R, al) Q := zg_105_35
theorem zh_105_38 {x : Int} : Zgo d 105 38 (a0 :: a1 :: a2 :: a3 :: a4 :: some (zi x) :: L) (st) (I, R, al) Q ↔ Zgo d 105 40 (a0 :: a1 :: a2 :: a3 :: a4 :: some (zi x) :: L) (zi x :: st) (I, R, al) Q := zg_105_38
theorem zh_105_40 {j : Int} {c o : Nat} : Zgo d 105 40 (L) (zi j :: zq (some (c, o)) :: st) (I, R, al) Q ↔ zal (zlen (I, R, al) c) 0 j (fun x => Zgo d 105 41 (L) (zi (I c o x) :: st) (I, R, al) Q) := zg_105_40
theorem zh_105_41 {x : Int} : Zgo d 105 41 (a0 :: a1 :: a2 :: some (zi x) :: L) (st) (I, R, al) Q ↔ Zgo d 105 42 (a0 :: a1 :: a2 :: some (zi x) :: L) (zi x :: st) (I, R, al) Q := zg_105_41
theorem zh_105_42 {x y : Int} : Zgo d 105 42 (L) (zi y :: zi x :: st) (I, R, al) Q ↔ if zw x < zw y then Zgo d 105 60 (L) (st) (I, R, al) Q else Zgo d 105 45 (L) (st) (I, R, al) Q := zg_105_42
theorem zh_105_45 {x : Option (Nat × Nat)} : Zgo d 105 45 (some (zq x) :: L) (st) (I, R, al) Q ↔ Zgo d 105 46 (some (zq x) :: L) (zq x :: st) (I, R, al) Q := zg_105_45
theorem zh_105_46 {o : Nat} : Zgo d 105 46 (L) (zq (some (11, o)) :: st) (I, R, al) Q ↔ Zgo d 105 49 (L) (zq (R 11 o 26) :: st) (I, R, al) Q := zg_105_46
theorem zh_105_49 {x : Int} : Zgo d 105 49 (a0 :: a1 :: a2 :: a3 :: a4 :: some (zi x) :: L) (st) (I, R, al) Q ↔ Zgo d 105 51 (a0 :: a1 :: a2 :: a3 :: a4 :: some (zi x) :: L) (zi x :: st) (I, R, al) Q := zg_105_49
theorem zh_105_51 {j : Int} {c o : Nat} : Zgo d 105 51 (L) (zi j :: zq (some (c, o)) :: st) (I, R, al) Q ↔ zal (zlen (I, R, al) c) 0 j (fun x => Zgo d 105 52 (L) (zi (I c o x) :: st) (I, R, al) Q) := zg_105_51
theorem zh_105_52 {x : Int} : Zgo d 105 52 (a0 :: a1 :: a2 :: a3 :: some (zi x) :: L) (st) (I, R, al) Q ↔ Zgo d 105 54 (a0 :: a1 :: a2 :: a3 :: some (zi x) :: L) (zi x :: st) (I, R, al) Q := zg_105_52
theorem zh_105_54 {x y : Int} : Zgo d 105 54 (L) (zi y :: zi x :: st) (I, R, al) Q ↔ if zw y < zw x then Zgo d 105 60 (L) (st) (I, R, al) Q else Zgo d 105 57 (L) (st) (I, R, al) Q := zg_105_54
theorem zh_105_57 {x : Int} : Zgo d 105 57 (a0 :: a1 :: a2 :: a3 :: a4 :: some (zi x) :: L) (st) (I, R, al) Q ↔ Zgo d 105 59 (a0 :: a1 :: a2 :: a3 :: a4 :: some (zi x) :: L) (zi x :: st) (I, R, al) Q := zg_105_57
theorem zh_105_59 {x : Int} : Zgo d 105 59 (L) (zi x :: []) (I, R, al) Q ↔ Q (some (zi x)) (I, R, al) := zg_105_59
theorem zh_105_60 {x : Option (Nat × Nat)} : Zgo d 105 60 (some (zq x) :: L) (st) (I, R, al) Q ↔ Zgo d 105 61 (some (zq x) :: L) (zq x :: st) (I, R, al) Q := zg_105_60
theorem zh_105_61 {o : Nat} : Zgo d 105 61 (L) (zq (some (11, o)) :: st) (I, R, al) Q ↔ Zgo d 105 64 (L) (zq (R 11 o 19) :: st) (I, R, al) Q := zg_105_61
theorem zh_105_64 {x : Option (Nat × Nat)} : Zgo d 105 64 (some (zq x) :: L) (st) (I, R, al) Q ↔ Zgo d 105 65 (some (zq x) :: L) (zq x :: st) (I, R, al) Q := zg_105_64
theorem zh_105_65 {o : Nat} : Zgo d 105 65 (L) (zq (some (11, o)) :: st) (I, R, al) Q ↔ Zgo d 105 68 (L) (zq (R 11 o 25) :: st) (I, R, al) Q := zg_105_65
theorem zh_105_68 {x : Int} : Zgo d 105 68 (a0 :: a1 :: a2 :: a3 :: a4 :: some (zi x) :: L) (st) (I, R, al) Q ↔ Zgo d 105 70 (a0 :: a1 :: a2 :: a3 :: a4 :: some (zi x) :: L) (zi x :: st) (I, R, al) Q := zg_105_68
theorem zh_105_70 {j : Int} {c o : Nat} : Zgo d 105 70 (L) (zi j :: zq (some (c, o)) :: st) (I, R, al) Q ↔ zal (zlen (I, R, al) c) 0 j (fun x => Zgo d 105 71 (L) (zi (I c o x) :: st) (I, R, al) Q) := zg_105_70
theorem zh_105_71 {j : Int} {c o : Nat} : Zgo d 105 71 (L) (zi j :: zq (some (c, o)) :: st) (I, R, al) Q ↔ zal (zlen (I, R, al) c) 0 j (fun x => Zgo d 105 72 (L) (zi (I c o x) :: st) (I, R, al) Q) := zg_105_71
theorem zh_105_72 {x : Int} : Zgo d 105 72 (a0 :: a1 :: a2 :: a3 :: a4 :: b0 :: L) (zi x :: st) (I, R, al) Q ↔ Zgo d 105 74 (a0 :: a1 :: a2 :: a3 :: zkl a4 :: some (zi x) :: L) (st) (I, R, al) Q := zg_105_72
theorem zh_105_74 : Zgo d 105 74 (L) (st) (I, R, al) Q ↔ Zgo d 105 8 (L) (st) (I, R, al) Q := zg_105_74
theorem zh_105_77 : Zgo d 105 77 (L) (st) (I, R, al) Q ↔ Zgo d 105 78 (L) (zi (-1) :: st) (I, R, al) Q := zg_105_77
theorem zh_105_78 {x : Int} : Zgo d 105 78 (L) (zi x :: []) (I, R, al) Q ↔ Q (some (zi x)) (I, R, al) := zg_105_78
theorem zh_106_0 : Zgo d 106 0 (L) (st) (I, R, al) Q ↔ Zgo d 106 1 (L) (zi (-1) :: st) (I, R, al) Q := zg_106_0
theorem zh_106_1 {x : Int} : Zgo d 106 1 (a0 :: a1 :: b0 :: L) (zi x :: st) (I, R, al) Q ↔ Zgo d 106 2 (a0 :: zkl a1 :: some (zi x) :: L) (st) (I, R, al) Q := zg_106_1
theorem zh_106_2 {x : Option (Nat × Nat)} : Zgo d 106 2 (some (zq x) :: L) (st) (I, R, al) Q ↔ Zgo d 106 3 (some (zq x) :: L) (zq x :: st) (I, R, al) Q := zg_106_2
theorem zh_106_3 {o : Nat} : Zgo d 106 3 (L) (zq (some (11, o)) :: st) (I, R, al) Q ↔ Zgo d 106 6 (L) (zi (I 11 o 6) :: st) (I, R, al) Q := zg_106_3
theorem zh_106_6 : Zgo d 106 6 (L) (st) (I, R, al) Q ↔ Zgo d 106 7 (L) (zi 1 :: st) (I, R, al) Q := zg_106_6
theorem zh_106_7 {x y : Int} : Zgo d 106 7 (L) (zi y :: zi x :: st) (I, R, al) Q ↔ Zgo d 106 8 (L) (zi (x - y) :: st) (I, R, al) Q := zg_106_7
theorem zh_106_8 {x : Int} : Zgo d 106 8 (a0 :: a1 :: a2 :: b0 :: L) (zi x :: st) (I, R, al) Q ↔ Zgo d 106 9 (a0 :: a1 :: zkl a2 :: some (zi x) :: L) (st) (I, R, al) Q := zg_106_8
theorem zh_106_9 {x : Int} : Zgo d 106 9 (a0 :: a1 :: a2 :: some (zi x) :: L) (st) (I, R, al) Q ↔ Zgo d 106 10 (a0 :: a1 :: a2 :: some (zi x) :: L) (zi x :: st) (I, R, al) Q := zg_106_9
theorem zh_106_10 {x : Int} : Zgo d 106 10 (L) (zi x :: st) (I, R, al) Q ↔ if zw x < zw 0 then Zgo d 106 35 (L) (st) (I, R, al) Q else Zgo d 106 13 (L) (st) (I, R, al) Q := zg_106_10
theorem zh_106_13 {x : Option (Nat × Nat)} : Zgo d 106 13 (some (zq x) :: L) (st) (I, R, al) Q ↔ Zgo d 106 14 (some (zq x) :: L) (zq x :: st) (I, R, al) Q := zg_106_13
theorem zh_106_14 {o : Nat} : Zgo d 106 14 (L) (zq (some (11, o)) :: st) (I, R, al) Q ↔ Zgo d 106 17 (L) (zq (R 11 o 7) :: st) (I, R, al) Q := zg_106_14
theorem zh_106_17 {x : Int} : Zgo d 106 17 (a0 :: a1 :: a2 :: some (zi x) :: L) (st) (I, R, al) Q ↔ Zgo d 106 18 (a0 :: a1 :: a2 :: some (zi x) :: L) (zi x :: st) (I, R, al) Q := zg_106_17
theorem zh_106_18 {j : Int} {c o : Nat} : Zgo d 106 18 (L) (zi j :: zq (some (c, o)) :: st) (I, R, al) Q ↔ zal (zlen (I, R, al) c) 0 j (fun x => Zgo d 106 19 (L) (zi (I c o x) :: st) (I, R, al) Q) := zg_106_18
theorem zh_106_19 {x : Int} : Zgo d 106 19 (a0 :: some (zi x) :: L) (st) (I, R, al) Q ↔ Zgo d 106 20 (a0 :: some (zi x) :: L) (zi x :: st) (I, R, al) Q := zg_106_19
theorem zh_106_20 {x y : Int} : Zgo d 106 20 (L) (zi y :: zi x :: st) (I, R, al) Q ↔ if zw x = zw y then Zgo d 106 23 (L) (st) (I, R, al) Q else Zgo d 106 27 (L) (st) (I, R, al) Q := zg_106_20
theorem zh_106_23 {x : Int} : Zgo d 106 23 (a0 :: a1 :: a2 :: some (zi x) :: L) (st) (I, R, al) Q ↔ Zgo d 106 24 (a0 :: a1 :: a2 :: some (zi x) :: L) (zi x :: st) (I, R, al) Q := zg_106_23
theorem zh_106_24 : Zgo d 106 24 (L) (st) (I, R, al) Q ↔ Zgo d 106 28 (L) (st) (I, R, al) Q := zg_106_24
theorem zh_106_27 {x : Int} : Zgo d 106 27 (a0 :: a1 :: some (zi x) :: L) (st) (I, R, al) Q ↔ Zgo d 106 28 (a0 :: a1 :: some (zi x) :: L) (zi x :: st) (I, R, al) Q := zg_106_27
theorem zh_106_28 {x : Int} : Zgo d 106 28 (a0 :: a1 :: b0 :: L) (zi x :: st) (I, R, al) Q ↔ Zgo d 106 29 (a0 :: zkl a1 :: some (zi x) :: L) (st) (I, R, al) Q := zg_106_28
theorem zh_106_29 {x : Int} : Zgo d 106 29 (a0 :: a1 :: a2 :: some (zi x) :: L) (st) (I, R, al) Q ↔ Zgo d 106 32 (a0 :: a1 :: zkl a2 :: some (zi (x + (-1))) :: L) (st) (I, R, al) Q := zg_106_29
theorem zh_106_32 : Zgo d 106 32 (L) (st) (I, R, al) Q ↔ Zgo d 106 9 (L) (st) (I, R, al) Q := zg_106_32
theorem zh_106_35 {x : Int} : Zgo d 106 35 (a0 :: a1 :: some (zi x) :: L) (st) (I, R, al) Q ↔ Zgo d 106 36 (a0 :: a1 :: some (zi x) :: L) (zi x :: st) (I, R, al) Q := zg_106_35
theorem zh_106_36 {x : Int} : Zgo d 106 36 (L) (zi x :: []) (I, R, al) Q ↔ Q (some (zi x)) (I, R, al) := zg_106_36
theorem zh_107_0 : Zgo d 107 0 (L) (st) (I, R, al) Q ↔ Zgo d 107 1 (L) (zi (-1) :: st) (I, R, al) Q := zg_107_0
theorem zh_107_1 {x : Int} : Zgo d 107 1 (a0 :: a1 :: b0 :: L) (zi x :: st) (I, R, al) Q ↔ Zgo d 107 2 (a0 :: zkl a1 :: some (zi x) :: L) (st) (I, R, al) Q := zg_107_1
theorem zh_107_2 {x : Option (Nat × Nat)} : Zgo d 107 2 (some (zq x) :: L) (st) (I, R, al) Q ↔ Zgo d 107 3 (some (zq x) :: L) (zq x :: st) (I, R, al) Q := zg_107_2
theorem zh_107_3 {o : Nat} : Zgo d 107 3 (L) (zq (some (11, o)) :: st) (I, R, al) Q ↔ Zgo d 107 6 (L) (zq (R 11 o 23) :: st) (I, R, al) Q := zg_107_3
theorem zh_107_6 {x : Option (Nat × Nat)} : Zgo d 107 6 (some (zq x) :: L) (st) (I, R, al) Q ↔ Zgo d 107 7 (some (zq x) :: L) (zq x :: st) (I, R, al) Q := zg_107_6
theorem zh_107_7 {o : Nat} : Zgo d 107 7 (L) (zq (some (11, o)) :: st) (I, R, al) Q ↔ Zgo d 107 10 (L) (zq (R 11 o 19) :: st) (I, R, al) Q := zg_107_7
theorem zh_107_10 {x : Int} : Zgo d 107 10 (a0 :: some (zi x) :: L) (st) (I, R, al) Q ↔ Zgo d 107 11 (a0 :: some (zi x) :: L) (zi x :: st) (I, R, al) Q := zg_107_10
theorem zh_107_11 {j : Int} {c o : Nat} : Zgo d 107 11 (L) (zi j :: zq (some (c, o)) :: st) (I, R, al) Q ↔ zal (zlen (I, R, al) c) 0 j (fun x => Zgo d 107 12 (L) (zi (I c o x) :: st) (I, R, al) Q) := zg_107_11
theorem zh_107_12 {j : Int} {c o : Nat} : Zgo d 107 12 (L) (zi j :: zq (some (c, o)) :: st) (I, R, al) Q ↔ zal (zlen (I, R, al) c) 0 j (fun x => Zgo d 107 13 (L) (zi (I c o x) :: st) (I, R, al) Q) := zg_107_12
theorem zh_107_13 {x : Int} : Zgo d 107 13 (a0 :: a1 :: a2 :: b0 :: L) (zi x :: st) (I, R, al) Q ↔ Zgo d 107 14 (a0 :: a1 :: zkl a2 :: some (zi x) :: L) (st) (I, R, al) Q := zg_107_13
theorem zh_107_14 {x : Int} : Zgo d 107 14 (a0 :: a1 :: a2 :: some (zi x) :: L) (st) (I, R, al) Q ↔ Zgo d 107 15 (a0 :: a1 :: a2 :: some (zi x) :: L) (zi x :: st) (I, R, al) Q := zg_107_14
theorem zh_107_15 {x : Int} : Zgo d 107 15 (L) (zi x :: st) (I, R, al) Q ↔ if zw x < zw 0 then Zgo d 107 35 (L) (st) (I, R, al) Q else Zgo d 107 18 (L) (st) (I, R, al) Q := zg_107_15
theorem zh_107_18 {x : Int} : Zgo d 107 18 (a0 :: a1 :: a2 :: some (zi x) :: L) (st) (I, R, al) Q ↔ Zgo d 107 19 (a0 :: a1 :: a2 :: some (zi x) :: L) (zi x :: st) (I, R, al) Q := zg_107_18
theorem zh_107_19 {x : Int} : Zgo d 107 19 (a0 :: some (zi x) :: L) (st) (I, R, al) Q ↔ Zgo d 107 20 (a0 :: some (zi x) :: L) (zi x :: st) (I, R, al) Q := zg_107_19
theorem zh_107_20 {x y : Int} : Zgo d 107 20 (L) (zi y :: zi x :: st) (I, R, al) Q ↔ if zw x = zw y then Zgo d 107 35 (L) (st) (I, R, al) Q else Zgo d 107 23 (L) (st) (I, R, al) Q := zg_107_20
theorem zh_107_23 {x : Int} : Zgo d 107 23 (a0 :: a1 :: a2 :: some (zi x) :: L) (st) (I, R, al) Q ↔ Zgo d 107 24 (a0 :: a1 :: a2 :: some (zi x) :: L) (zi x :: st) (I, R, al) Q := zg_107_23
theorem zh_107_24 {x : Int} : Zgo d 107 24 (a0 :: a1 :: b0 :: L) (zi x :: st) (I, R, al) Q ↔ Zgo d 107 25 (a0 :: zkl a1 :: some (zi x) :: L) (st) (I, R, al) Q := zg_107_24
theorem zh_107_25 {x : Option (Nat × Nat)} : Zgo d 107 25 (some (zq x) :: L) (st) (I, R, al) Q ↔ Zgo d 107 26 (some (zq x) :: L) (zq x :: st) (I, R, al) Q := zg_107_25
theorem zh_107_26 {o : Nat} : Zgo d 107 26 (L) (zq (some (11, o)) :: st) (I, R, al) Q ↔ Zgo d 107 29 (L) (zq (R 11 o 20) :: st) (I, R, al) Q := zg_107_26
theorem zh_107_29 {x : Int} : Zgo d 107 29 (a0 :: a1 :: a2 :: some (zi x) :: L) (st) (I, R, al) Q ↔ Zgo d 107 30 (a0 :: a1 :: a2 :: some (zi x) :: L) (zi x :: st) (I, R, al) Q := zg_107_29
theorem zh_107_30 {j : Int} {c o : Nat} : Zgo d 107 30 (L) (zi j :: zq (some (c, o)) :: st) (I, R, al) Q ↔ zal (zlen (I, R, al) c) 0 j (fun x => Zgo d 107 31 (L) (zi (I c o x) :: st) (I, R, al) Q) := zg_107_30
theorem zh_107_31 {x : Int} : Zgo d 107 31 (a0 :: a1 :: a2 :: b0 :: L) (zi x :: st) (I, R, al) Q ↔ Zgo d 107 32 (a0 :: a1 :: zkl a2 :: some (zi x) :: L) (st) (I, R, al) Q := zg_107_31
theorem zh_107_32 : Zgo d 107 32 (L) (st) (I, R, al) Q ↔ Zgo d 107 14 (L) (st) (I, R, al) Q := zg_107_32
theorem zh_107_35 {x : Int} : Zgo d 107 35 (a0 :: a1 :: some (zi x) :: L) (st) (I, R, al) Q ↔ Zgo d 107 36 (a0 :: a1 :: some (zi x) :: L) (zi x :: st) (I, R, al) Q := zg_107_35
theorem zh_107_36 {x : Int} : Zgo d 107 36 (L) (zi x :: []) (I, R, al) Q ↔ Q (some (zi x)) (I, R, al) := zg_107_36
theorem zh_108_0 {x : Int} : Zgo d 108 0 (some (zi x) :: L) (st) (I, R, al) Q ↔ Zgo d 108 1 (some (zi x) :: L) (zi x :: st) (I, R, al) Q := zg_108_0
theorem zh_108_1 : Zgo d 108 1 (L) (st) (I, R, al) Q ↔ Zgo d 108 3 (L) (zi 66 :: st) (I, R, al) Q := zg_108_1
theorem zh_108_3 {x y : Int} : Zgo d 108 3 (L) (zi y :: zi x :: st) (I, R, al) Q ↔ if zw x = zw y then Zgo d 108 30 (L) (st) (I, R, al) Q else Zgo d 108 6 (L) (st) (I, R, al) Q := zg_108_3
theorem zh_108_6 {x : Int} : Zgo d 108 6 (some (zi x) :: L) (st) (I, R, al) Q ↔ Zgo d 108 7 (some (zi x) :: L) (zi x :: st) (I, R, al) Q := zg_108_6
theorem zh_108_7 : Zgo d 108 7 (L) (st) (I, R, al) Q ↔ Zgo d 108 9 (L) (zi 67 :: st) (I, R, al) Q := zg_108_7
theorem zh_108_9 {x y : Int} : Zgo d 108 9 (L) (zi y :: zi x :: st) (I, R, al) Q ↔ if zw x = zw y then Zgo d 108 30 (L) (st) (I, R, al) Q else Zgo d 108 12 (L) (st) (I, R, al) Q := zg_108_9
theorem zh_108_12 {x : Int} : Zgo d 108 12 (some (zi x) :: L) (st) (I, R, al) Q ↔ Zgo d 108 13 (some (zi x) :: L) (zi x :: st) (I, R, al) Q := zg_108_12
theorem zh_108_13 : Zgo d 108 13 (L) (st) (I, R, al) Q ↔ Zgo d 108 15 (L) (zi 82 :: st) (I, R, al) Q := zg_108_13
theorem zh_108_15 {x y : Int} : Zgo d 108 15 (L) (zi y :: zi x :: st) (I, R, al) Q ↔ if zw x = zw y then Zgo d 108 30 (L) (st) (I, R, al) Q else Zgo d 108 18 (L) (st) (I, R, al) Q := zg_108_15
theorem zh_108_18 {x : Int} : Zgo d 108 18 (some (zi x) :: L) (st) (I, R, al) Q ↔ Zgo d 108 19 (some (zi x) :: L) (zi x :: st) (I, R, al) Q := zg_108_18
theorem zh_108_19 : Zgo d 108 19 (L) (st) (I, R, al) Q ↔ Zgo d 108 21 (L) (zi 84 :: st) (I, R, al) Q := zg_108_19
theorem zh_108_21 {x y : Int} : Zgo d 108 21 (L) (zi y :: zi x :: st) (I, R, al) Q ↔ if zw x = zw y then Zgo d 108 30 (L) (st) (I, R, al) Q else Zgo d 108 24 (L) (st) (I, R, al) Q := zg_108_21
theorem zh_108_24 {x : Int} : Zgo d 108 24 (some (zi x) :: L) (st) (I, R, al) Q ↔ Zgo d 108 25 (some (zi x) :: L) (zi x :: st) (I, R, al) Q := zg_108_24
theorem zh_108_25 : Zgo d 108 25 (L) (st) (I, R, al) Q ↔ Zgo d 108 27 (L) (zi 88 :: st) (I, R, al) Q := zg_108_25
theorem zh_108_27 {x y : Int} : Zgo d 108 27 (L) (zi y :: zi x :: st) (I, R, al) Q ↔ if zw x = zw y then Zgo d 108 30 (L) (st) (I, R, al) Q else Zgo d 108 34 (L) (st) (I, R, al) Q := zg_108_27
theorem zh_108_30 : Zgo d 108 30 (L) (st) (I, R, al) Q ↔ Zgo d 108 31 (L) (zi 1 :: st) (I, R, al) Q := zg_108_30
theorem zh_108_31 : Zgo d 108 31 (L) (st) (I, R, al) Q ↔ Zgo d 108 35 (L) (st) (I, R, al) Q := zg_108_31
theorem zh_108_34 : Zgo d 108 34 (L) (st) (I, R, al) Q ↔ Zgo d 108 35 (L) (zi 0 :: st) (I, R, al) Q := zg_108_34
theorem zh_108_35 {x : Int} : Zgo d 108 35 (L) (zi x :: []) (I, R, al) Q ↔ zok 1 x False (Q (some (zi x)) (I, R, al)) := zg_108_35
theorem zh_109_0 : Zgo d 109 0 (L) (st) (I, R, al) Q ↔ Zgo d 109 1 (L) (zi 0 :: st) (I, R, al) Q := zg_109_0
theorem zh_109_1 {x : Int} : Zgo d 109 1 (a0 :: a1 :: b0 :: L) (zi x :: st) (I, R, al) Q ↔ Zgo d 109 2 (a0 :: zkl a1 :: some (zi x) :: L) (st) (I, R, al) Q := zg_109_1
theorem zh_109_2 {x : Option (Nat × Nat)} : Zgo d 109 2 (some (zq x) :: L) (st) (I, R, al) Q ↔ Zgo d 109 3 (some (zq x) :: L) (zq x :: st) (I, R, al) Q := zg_109_2
theorem zh_109_3 {o : Nat} : Zgo d 109 3 (L) (zq (some (11, o)) :: st) (I, R, al) Q ↔ Zgo d 109 6 (L) (zq (R 11 o 11) :: st) (I, R, al) Q := zg_109_3
theorem zh_109_6 {x : Int} : Zgo d 109 6 (a0 :: some (zi x) :: L) (st) (I, R, al) Q ↔ Zgo d 109 7 (a0 :: some (zi x) :: L) (zi x :: st) (I, R, al) Q := zg_109_6
theorem zh_109_7 {j : Int} {c o : Nat} : Zgo d 109 7 (L) (zi j :: zq (some (c, o)) :: st) (I, R, al) Q ↔ zal (zlen (I, R, al) c) 0 j (fun x => Zgo d 109 8 (L) (zi (I c o x) :: st) (I, R, al) Q) := zg_109_7
theorem zh_109_8 {x : Int} : Zgo d 109 8 (a0 :: a1 :: a2 :: b0 :: L) (zi x :: st) (I, R, al) Q ↔ Zgo d 109 9 (a0 :: a1 :: zkl a2 :: some (zi x) :: L) (st) (I, R, al) Q := zg_109_8
theorem zh_109_9 : Zgo d 109 9 (L) (st) (I, R, al) Q ↔ Zgo d 109 10 (L) (zi 0 :: st) (I, R, al) Q := zg_109_9
theorem zh_109_10 {x : Int} : Zgo d 109 10 (a0 :: a1 :: a2 :: a3 :: b0 :: L) (zi x :: st) (I, R, al) Q ↔ Zgo d 109 12 (a0 :: a1 :: a2 :: zkl a3 :: some (zi x) :: L) (st) (I, R, al) Q := zg_109_10
theorem zh_109_12 : Zgo d 109 12 (L) (st) (I, R, al) Q ↔ Zgo d 109 13 (L) (zi 0 :: st) (I, R, al) Q := zg_109_12
theorem zh_109_13 {x : Int} : Zgo d 109 13 (a0 :: a1 :: a2 :: a3 :: a4 :: b0 :: L) (zi x :: st) (I, R, al) Q ↔ Zgo d 109 15 (a0 :: a1 :: a2 :: a3 :: zkl a4 :: some (zi x) :: L) (st) (I, R, al) Q := zg_109_13
theorem zh_109_15 {x : Int} : Zgo d 109 15 (a0 :: a1 :: a2 :: a3 :: a4 :: some (zi x) :: L) (st) (I, R, al) Q ↔ Zgo d 109 17 (a0 :: a1 :: a2 :: a3 :: a4 :: some (zi x) :: L) (zi x :: st) (I, R, al) Q := zg_109_15
theorem zh_109_17 : Zgo d 109 17 (L) (st) (I, R, al) Q ↔ Zgo d 109 19 (L) (zi 6 :: st) (I, R, al) Q := zg_109_17
theorem zh_109_19 {x y : Int} : Zgo d 109 19 (L) (zi y :: zi x :: st) (I, R, al) Q ↔ if zw x < zw y then Zgo d 109 22 (L) (st) (I, R, al) Q else Zgo d 109 64 (L) (st) (I, R, al) Q := zg_109_19
theorem zh_109_22 {x : Option (Nat × Nat)} : Zgo d 109 22 (some (zq x) :: L) (st) (I, R, al) Q ↔ Zgo d 109 23 (some (zq x) :: L) (zq x :: st) (I, R, al) Q := zg_109_22
theorem zh_109_23 {o : Nat} : Zgo d 109 23 (L) (zq (some (11, o)) :: st) (I, R, al) Q ↔ Zgo d 109 26 (L) (zq (R 11 o 15) :: st) (I, R, al) Q := zg_109_23
theorem zh_109_26 : Zgo d 109 26 (L) (st) (I, R, al) Q ↔ Zgo d 109 28 (L) (zi 6 :: st) (I, R, al) Q := zg_109_26
theorem zh_109_28 {x : Int} : Zgo d 109 28 (a0 :: some (zi x) :: L) (st) (I, R, al) Q ↔ Zgo d 109 29 (a0 :: some (zi x) :: L) (zi x :: st) (I, R, al) Q := zg_109_28
theorem zh_109_29 {x y : Int} : Zgo d 109 29 (L) (zi y :: zi x :: st) (I, R, al) Q ↔ Zgo d 109 30 (L) (zi (x * y) :: st) (I, R, al) Q := zg_109_29
theorem zh_109_30 {x : Int} : Zgo d 109 30 (a0 :: a1 :: a2 :: a3 :: a4 :: some (zi x) :: L) (st) (I, R, al) Q ↔ Zgo d 109 32 (a0 :: a1 :: a2 :: a3 :: a4 :: some (zi x) :: L) (zi x :: st) (I, R, al) Q := zg_109_30
theorem zh_109_32 {x y : Int} : Zgo d 109 32 (L) (zi y :: zi x :: st) (I, R, al) Q ↔ Zgo d 109 33 (L) (zi (x + y) :: st) (I, R, al) Q := zg_109_32
theorem zh_109_33 {j : Int} {c o : Nat} : Zgo d 109 33 (L) (zi j :: zq (some (c, o)) :: st) (I, R, al) Q ↔ zal (zlen (I, R, al) c) 0 j (fun x => Zgo d 109 34 (L) (zi (I c o x) :: st) (I, R, al) Q) := zg_109_33
theorem zh_109_34 {x : Int} : Zgo d 109 34 (a0 :: a1 :: a2 :: a3 :: a4 :: a5 :: b0 :: L) (zi x :: st) (I, R, al) Q ↔ Zgo d 109 36 (a0 :: a1 :: a2 :: a3 :: a4 :: zkl a5 :: some (zi x) :: L) (st) (I, R, al) Q := zg_109_34
theorem zh_109_36 {x : Int} : Zgo d 109 36 (a0 :: a1 :: a2 :: a3 :: a4 :: a5 :: some (zi x) :: L) (st) (I, R, al) Q ↔ Zgo d 109 38 (a0 :: a1 :: a2 :: a3 :: a4 :: a5 :: some (zi x) :: L) (zi x :: st) (I, R, al) Q := zg_109_36
theorem zh_109_38 {x : Int} : Zgo d 109 38 (L) (zi x :: st) (I, R, al) Q ↔ if zw x < zw 0 then Zgo d 109 41 (L) (st) (I, R, al) Q else Zgo d 109 46 (L) (st) (I, R, al) Q := zg_109_38
theorem zh_109_41 {x : Int} : Zgo d 109 41 (a0 :: a1 :: a2 :: a3 :: some (zi x) :: L) (st) (I, R, al) Q ↔ Zgo d 109 43 (a0 :: a1 :: a2 :: a3 :: some (zi x) :: L) (zi x :: st) (I, R, al) Q := zg_109_41
theorem zh_109_43 : Zgo d 109 43 (L) (st) (I, R, al) Q ↔ Zgo d 109 56 (L) (st) (I, R, al) Q := zg_109_43
theorem zh_109_46 {x : Int} : Zgo d 109 46 (a0 :: a1 :: a2 :: a3 :: some (zi x) :: L) (st) (I, R, al) Q ↔ Zgo d 109 48 (a0 :: a1 :: a2 :: a3 :: some (zi x) :: L) (zi x :: st) (I, R, al) Q := zg_109_46
theorem zh_109_48 {x : Option (Nat × Nat)} : Zgo d 109 48 (some (zq x) :: L) (st) (I, R, al) Q ↔ Zgo d 109 49 (some (zq x) :: L) (zq x :: st) (I, R, al) Q := zg_109_48
theorem zh_109_49 {o : Nat} : Zgo d 109 49 (L) (zq (some (11, o)) :: st) (I, R, al) Q ↔ Zgo d 109 52 (L) (zq (R 11 o 27) :: st) (I, R, al) Q := zg_109_49
theorem zh_109_52 {x : Int} : Zgo d 109 52 (a0 :: a1 :: a2 :: a3 :: a4 :: a5 :: some (zi x) :: L) (st) (I, R, al) Q ↔ Zgo d 109 54 (a0 :: a1 :: a2 :: a3 :: a4 :: a5 :: some (zi x) :: L) (zi x :: st) (I, R, al) Q := zg_109_52
theorem zh_109_54 {j : Int} {c o : Nat} : Zgo d 109 54 (L) (zi j :: zq (some (c, o)) :: st) (I, R, al) Q ↔ zal (zlen (I, R, al) c) 0 j (fun x => Zgo d 109 55 (L) (zi (I c o x) :: st) (I, R, al) Q) := zg_109_54
theorem zh_109_55 {x y : Int} : Zgo d 109 55 (L) (zi y :: zi x :: st) (I, R, al) Q ↔ Zgo d 109 56 (L) (zi (zor x y) :: st) (I, R, al) Q := zg_109_55
theorem zh_109_56 {x : Int} : Zgo d 109 56 (a0 :: a1 :: a2 :: a3 :: b0 :: L) (zi x :: st) (I, R, al) Q ↔ Zgo d 109 58 (a0 :: a1 :: a2 :: zkl a3 :: some (zi x) :: L) (st) (I, R, al) Q := zg_109_56
theorem zh_109_58 {x : Int} : Zgo d 109 58 (a0 :: a1 :: a2 :: a3 :: a4 :: some (zi x) :: L) (st) (I, R, al) Q ↔ Zgo d 109 61 (a0 :: a1 :: a2 :: a3 :: zkl a4 :: some (zi (x + 1)) :: L) (st) (I, R, al) Q := zg_109_58
theorem zh_109_61 : Zgo d 109 61 (L) (st) (I, R, al) Q ↔ Zgo d 109 15 (L) (st) (I, R, al) Q := zg_109_61
theorem zh_109_64 {x : Int} : Zgo d 109 64 (a0 :: a1 :: a2 :: some (zi x) :: L) (st) (I, R, al) Q ↔ Zgo d 109 65 (a0 :: a1 :: a2 :: some (zi x) :: L) (zi x :: st) (I, R, al) Q := zg_109_64
theorem zh_109_65 : Zgo d 109 65 (L) (st) (I, R, al) Q ↔ Zgo d 109 67 (L) (zi 89 :: st) (I, R, al) Q := zg_109_65
theorem zh_109_67 {x y : Int} : Zgo d 109 67 (L) (zi y :: zi x :: st) (I, R, al) Q ↔ if zw x = zw y then Zgo d 109 70 (L) (st) (I, R, al) Q else Zgo d 109 220 (L) (st) (I, R, al) Q := zg_109_67
theorem zh_109_70 {x : Option (Nat × Nat)} : Zgo d 109 70 (some (zq x) :: L) (st) (I, R, al) Q ↔ Zgo d 109 71 (some (zq x) :: L) (zq x :: st) (I, R, al) Q := zg_109_70
theorem zh_109_71 {o : Nat} : Zgo d 109 71 (L) (zq (some (11, o)) :: st) (I, R, al) Q ↔ Zgo d 109 74 (L) (zq (R 11 o 27) :: st) (I, R, al) Q := zg_109_71
theorem zh_109_74 {x : Option (Nat × Nat)} : Zgo d 109 74 (some (zq x) :: L) (st) (I, R, al) Q ↔ Zgo d 109 75 (some (zq x) :: L) (zq x :: st) (I, R, al) Q := zg_109_74
theorem zh_109_75 {o : Nat} : Zgo d 109 75 (L) (zq (some (11, o)) :: st) (I, R, al) Q ↔ Zgo d 109 78 (L) (zq (R 11 o 15) :: st) (I, R, al) Q := zg_109_75
theorem zh_109_78 : Zgo d 109 78 (L) (st) (I, R, al) Q ↔ Zgo d 109 80 (L) (zi 6 :: st) (I, R, al) Q := zg_109_78
theorem zh_109_80 {x : Int} : Zgo d 109 80 (a0 :: some (zi x) :: L) (st) (I, R, al) Q ↔ Zgo d 109 81 (a0 :: some (zi x) :: L) (zi x :: st) (I, R, al) Q := zg_109_80
theorem zh_109_81 {x y : Int} : Zgo d 109 81 (L) (zi y :: zi x :: st) (I, R, al) Q ↔ Zgo d 109 82 (L) (zi (x * y) :: st) (I, R, al) Q := zg_109_81
theorem zh_109_82 {j : Int} {c o : Nat} : Zgo d 109 82 (L) (zi j :: zq (some (c, o)) :: st) (I, R, al) Q ↔ zal (zlen (I, R, al) c) 0 j (fun x => Zgo d 109 83 (L) (zi (I c o x) :: st) (I, R, al) Q) := zg_109_82
theorem zh_109_83 {j : Int} {c o : Nat} : Zgo d 109 83 (L) (zi j :: zq (some (c, o)) :: st) (I, R, al) Q ↔ zal (zlen (I, R, al) c) 0 j (fun x => Zgo d 109 84 (L) (zi (I c o x) :: st) (I, R, al) Q) := zg_109_83
theorem zh_109_84 {x : Int} : Zgo d 109 84 (a0 :: a1 :: a2 :: a3 :: a4 :: b0 :: L) (zi x :: st) (I, R, al) Q ↔ Zgo d 109 86 (a0 :: a1 :: a2 :: a3 :: zkl a4 :: some (zi x) :: L) (st) (I, R, al) Q := zg_109_84
theorem zh_109_86 : Zgo d 109 86 (L) (st) (I, R, al) Q ↔ Zgo d 109 87 (L) (zi 0 :: st) (I, R, al) Q := zg_109_86
theorem zh_109_87 {x : Int} : Zgo d 109 87 (a0 :: a1 :: a2 :: a3 :: a4 :: a5 :: b0 :: L) (zi x :: st) (I, R, al) Q ↔ Zgo d 109 89 (a0 :: a1 :: a2 :: a3 :: a4 :: zkl a5 :: some (zi x) :: L) (st) (I, R, al) Q := zg_109_87
theorem zh_109_89 : Zgo d 109 89 (L) (st) (I, R, al) Q ↔ Zgo d 109 90 (L) (zi 0 :: st) (I, R, al) Q := zg_109_89
theorem zh_109_90 {x : Int} : Zgo d 109 90 (a0 :: a1 :: a2 :: a3 :: a4 :: a5 :: a6 :: b0 :: L) (zi x :: st) (I, R, al) Q ↔ Zgo d 109 92 (a0 :: a1 :: a2 :: a3 :: a4 :: a5 :: zkl a6 :: some (zi x) :: L) (st) (I, R, al) Q := zg_109_90
theorem zh_109_92 {x : Int} : Zgo d 109 92 (a0 :: a1 :: a2 :: a3 :: a4 :: a5 :: a6 :: some (zi x) :: L) (st) (I, R, al) Q ↔ Zgo d 109 94 (a0 :: a1 :: a2 :: a3 :: a4 :: a5 :: a6 :: some (zi x) :: L) (zi x :: st) (I, R, al) Q := zg_109_92
theorem zh_109_94 {x : Option (Nat × Nat)} : Zgo d 109 94 (some (zq x) :: L) (st) (I, R, al) Q ↔ Zgo d 109 95 (some (zq x) :: L) (zq x :: st) (I, R, al) Q := zg_109_94
theorem zh_109_95 {o : Nat} : Zgo d 109 95 (L) (zq (some (11, o)) :: st) (I, R, al) Q ↔ Zgo d 109 98 (L) (zq (R 11 o 18) :: st) (I, R, al) Q := zg_109_95
theorem zh_109_98 {x : Int} : Zgo d 109 98 (a0 :: some (zi x) :: L) (st) (I, R, al) Q ↔ Zgo d 109 99 (a0 :: some (zi x) :: L) (zi x :: st) (I, R, al) Q := zg_109_98
theorem zh_109_99 {j : Int} {c o : Nat} : Zgo d 109 99 (L) (zi j :: zq (some (c, o)) :: st) (I, R, al) Q ↔ zal (zlen (I, R, al) c) 0 j (fun x => Zgo d 109 100 (L) (zi (I c o x) :: st) (I, R, al) Q) := zg_109_99
theorem zh_109_100 {x y : Int} : Zgo d 109 100 (L) (zi y :: zi x :: st) (I, R, al) Q ↔ if zw x < zw y then Zgo d 109 103 (L) (st) (I, R, al) Q else Zgo d 109 156 (L) (st) (I, R, al) Q := zg_109_100
theorem zh_109_103 {x : Int} : Zgo d 109 103 (a0 :: a1 :: some (zi x) :: L) (st) (I, R, al) Q ↔ Zgo d 109 104 (a0 :: a1 :: some (zi x) :: L) (zi x :: st) (I, R, al) Q := zg_109_103
theorem zh_109_104 {x : Int} : Zgo d 109 104 (L) (zi x :: st) (I, R, al) Q ↔ if zw x = zw 0 then Zgo d 109 107 (L) (st) (I, R, al) Q else Zgo d 109 126 (L) (st) (I, R, al) Q := zg_109_104
theorem zh_109_107 {x : Int} : Zgo d 109 107 (a0 :: a1 :: a2 :: a3 :: a4 :: some (zi x) :: L) (st) (I, R, al) Q ↔ Zgo d 109 109 (a0 :: a1 :: a2 :: a3 :: a4 :: some (zi x) :: L) (zi x :: st) (I, R, al) Q := zg_109_107
theorem zh_109_109 {x : Option (Nat × Nat)} : Zgo d 109 109 (some (zq x) :: L) (st) (I, R, al) Q ↔ Zgo d 109 110 (some (zq x) :: L) (zq x :: st) (I, R, al) Q := zg_109_109
theorem zh_109_110 {o : Nat} : Zgo d 109 110 (L) (zq (some (11, o)) :: st) (I, R, al) Q ↔ Zgo d 109 113 (L) (zq (R 11 o 16) :: st) (I, R, al) Q := zg_109_110
theorem zh_109_113 : Zgo d 109 113 (L) (st) (I, R, al) Q ↔ Zgo d 109 114 (L) (zi 3 :: st) (I, R, al) Q := zg_109_113
theorem zh_109_114 {x : Int} : Zgo d 109 114 (a0 :: some (zi x) :: L) (st) (I, R, al) Q ↔ Zgo d 109 115 (a0 :: some (zi x) :: L) (zi x :: st) (I, R, al) Q := zg_109_114
theorem zh_109_115 {x y : Int} : Zgo d 109 115 (L) (zi y :: zi x :: st) (I, R, al) Q ↔ Zgo d 109 116 (L) (zi (x * y) :: st) (I, R, al) Q := zg_109_115
theorem zh_109_116 {x : Int} : Zgo d 109 116 (a0 :: a1 :: a2 :: a3 :: a4 :: a5 :: a6 :: some (zi x) :: L) (st) (I, R, al) Q ↔ Zgo d 109 118 (a0 :: a1 :: a2 :: a3 :: a4 :: a5 :: a6 :: some (zi x) :: L) (zi x :: st) (I, R, al) Q := zg_109_116
theorem zh_109_118 {x y : Int} : Zgo d 109 118 (L) (zi y :: zi x :: st) (I, R, al) Q ↔ Zgo d 109 119 (L) (zi (x + y) :: st) (I, R, al) Q := zg_109_118
theorem zh_109_119 {j : Int} {c o : Nat} : Zgo d 109 119 (L) (zi j :: zq (some (c, o)) :: st) (I, R, al) Q ↔ zal (zlen (I, R, al) c) 0 j (fun x => Zgo d 109 120 (L) (zi (I c o x) :: st) (I, R, al) Q) := zg_109_119
theorem zh_109_120 {x y : Int} : Zgo d 109 120 (L) (zi y :: zi x :: st) (I, R, al) Q ↔ Zgo d 109 121 (L) (zi (zshr x y) :: st) (I, R, al) Q := zg_109_120
theorem zh_109_121 : Zgo d 109 121 (L) (st) (I, R, al) Q ↔ Zgo d 109 122 (L) (zi 1 :: st) (I, R, al) Q := zg_109_121
theorem zh_109_122 {x y : Int} : Zgo d 109 122 (L) (zi y :: zi x :: st) (I, R, al) Q ↔ Zgo d 109 123 (L) (zi (zand x y) :: st) (I, R, al) Q := zg_109_122
theorem zh_109_123 {x : Int} : Zgo d 109 123 (L) (zi x :: st) (I, R, al) Q ↔ if zw x = zw 0 then Zgo d 109 126 (L) (st) (I, R, al) Q else Zgo d 109 130 (L) (st) (I, R, al) Q := zg_109_123
theorem zh_109_126 : Zgo d 109 126 (L) (st) (I, R, al) Q ↔ Zgo d 109 127 (L) (zi 1 :: st) (I, R, al) Q := zg_109_126
theorem zh_109_127 : Zgo d 109 127 (L) (st) (I, R, al) Q ↔ Zgo d 109 131 (L) (st) (I, R, al) Q := zg_109_127
theorem zh_109_130 : Zgo d 109 130 (L) (st) (I, R, al) Q ↔ Zgo d 109 131 (L) (zi 0 :: st) (I, R, al) Q := zg_109_130
theorem zh_109_131 {x : Int} : Zgo d 109 131 (a0 :: a1 :: b0 :: L) (zi x :: st) (I, R, al) Q ↔ Zgo d 109 132 (a0 :: zkl a1 :: some (zi x) :: L) (st) (I, R, al) Q := zg_109_131
theorem zh_109_132 {x : Int} : Zgo d 109 132 (a0 :: a1 :: a2 :: a3 :: a4 :: a5 :: some (zi x) :: L) (st) (I, R, al) Q ↔ Zgo d 109 134 (a0 :: a1 :: a2 :: a3 :: a4 :: a5 :: some (zi x) :: L) (zi x :: st) (I, R, al) Q := zg_109_132
theorem zh_109_134 : Zgo d 109 134 (L) (st) (I, R, al) Q ↔ Zgo d 109 135 (L) (zi 1 :: st) (I, R, al) Q := zg_109_134
theorem zh_109_135 {x : Option (Nat × Nat)} : Zgo d 109 135 (some (zq x) :: L) (st) (I, R, al) Q ↔ Zgo d 109 136 (some (zq x) :: L) (zq x :: st) (I, R, al) Q := zg_109_135
theorem zh_109_136 {o : Nat} : Zgo d 109 136 (L) (zq (some (11, o)) :: st) (I, R, al) Q ↔ Zgo d 109 139 (L) (zq (R 11 o 16) :: st) (I, R, al) Q := zg_109_136
theorem zh_109_139 : Zgo d 109 139 (L) (st) (I, R, al) Q ↔ Zgo d 109 140 (L) (zi 3 :: st) (I, R, al) Q := zg_109_139
theorem zh_109_140 {x : Int} : Zgo d 109 140 (a0 :: some (zi x) :: L) (st) (I, R, al) Q ↔ Zgo d 109 141 (a0 :: some (zi x) :: L) (zi x :: st) (I, R, al) Q := zg_109_140
theorem zh_109_141 {x y : Int} : Zgo d 109 141 (L) (zi y :: zi x :: st) (I, R, al) Q ↔ Zgo d 109 142 (L) (zi (x * y) :: st) (I, R, al) Q := zg_109_141
theorem zh_109_142 {x : Int} : Zgo d 109 142 (a0 :: a1 :: a2 :: a3 :: a4 :: a5 :: a6 :: some (zi x) :: L) (st) (I, R, al) Q ↔ Zgo d 109 144 (a0 :: a1 :: a2 :: a3 :: a4 :: a5 :: a6 :: some (zi x) :: L) (zi x :: st) (I, R, al) Q := zg_109_142
theorem zh_109_144 {x y : Int} : Zgo d 109 144 (L) (zi y :: zi x :: st) (I, R, al) Q ↔ Zgo d 109 145 (L) (zi (x + y) :: st) (I, R, al) Q := zg_109_144
theorem zh_109_145 {j : Int} {c o : Nat} : Zgo d 109 145 (L) (zi j :: zq (some (c, o)) :: st) (I, R, al) Q ↔ zal (zlen (I, R, al) c) 0 j (fun x => Zgo d 109 146 (L) (zi (I c o x) :: st) (I, R, al) Q) := zg_109_145
theorem zh_109_146 {x y : Int} : Zgo d 109 146 (L) (zi y :: zi x :: st) (I, R, al) Q ↔ Zgo d 109 147 (L) (zi (zshl x y) :: st) (I, R, al) Q := zg_109_146
theorem zh_109_147 {x y : Int} : Zgo d 109 147 (L) (zi y :: zi x :: st) (I, R, al) Q ↔ Zgo d 109 148 (L) (zi (zor x y) :: st) (I, R, al) Q := zg_109_147
theorem zh_109_148 {x : Int} : Zgo d 109 148 (a0 :: a1 :: a2 :: a3 :: a4 :: a5 :: b0 :: L) (zi x :: st) (I, R, al) Q ↔ Zgo d 109 150 (a0 :: a1 :: a2 :: a3 :: a4 :: zkl a5 :: some (zi x) :: L) (st) (I, R, al) Q := zg_109_148
theorem zh_109_150 {x : Int} : Zgo d 109 150 (a0 :: a1 :: a2 :: a3 :: a4 :: a5 :: a6 :: some (zi x) :: L) (st) (I, R, al) Q ↔ Zgo d 109 153 (a0 :: a1 :: a2 :: a3 :: a4 :: a5 :: zkl a6 :: some (zi (x + 1)) :: L) (st) (I, R, al) Q := zg_109_150
theorem zh_109_153 : Zgo d 109 153 (L) (st) (I, R, al) Q ↔ Zgo d 109 92 (L) (st) (I, R, al) Q := zg_109_153
theorem zh_109_156 {x : Int} : Zgo d 109 156 (a0 :: a1 :: a2 :: a3 :: a4 :: some (zi x) :: L) (st) (I, R, al) Q ↔ Zgo d 109 158 (a0 :: a1 :: a2 :: a3 :: a4 :: some (zi x) :: L) (zi x :: st) (I, R, al) Q := zg_109_156
theorem zh_109_158 {x : Int} : Zgo d 109 158 (a0 :: a1 :: a2 :: a3 :: a4 :: a5 :: some (zi x) :: L) (st) (I, R, al) Q ↔ Zgo d 109 160 (a0 :: a1 :: a2 :: a3 :: a4 :: a5 :: some (zi x) :: L) (zi x :: st) (I, R, al) Q := zg_109_158
theorem zh_109_160 : Zgo d 109 160 (L) (st) (I, R, al) Q ↔ Zgo d 109 161 (L) (zi (-1) :: st) (I, R, al) Q := zg_109_160
theorem zh_109_161 {x y : Int} : Zgo d 109 161 (L) (zi y :: zi x :: st) (I, R, al) Q ↔ Zgo d 109 162 (L) (zi (zxor x y) :: st) (I, R, al) Q := zg_109_161
theorem zh_109_162 {x y : Int} : Zgo d 109 162 (L) (zi y :: zi x :: st) (I, R, al) Q ↔ Zgo d 109 163 (L) (zi (zand x y) :: st) (I, R, al) Q := zg_109_162
theorem zh_109_163 {x : Int} : Zgo d 109 163 (a0 :: a1 :: a2 :: a3 :: b0 :: L) (zi x :: st) (I, R, al) Q ↔ Zgo d 109 165 (a0 :: a1 :: a2 :: zkl a3 :: some (zi x) :: L) (st) (I, R, al) Q := zg_109_163
theorem zh_109_165 : Zgo d 109 165 (L) (st) (I, R, al) Q ↔ Zgo d 109 166 (L) (zi 2 :: st) (I, R, al) Q := zg_109_165
theorem zh_109_166 {x : Int} : Zgo d 109 166 (a0 :: a1 :: a2 :: a3 :: a4 :: a5 :: a6 :: b0 :: L) (zi x :: st) (I, R, al) Q ↔ Zgo d 109 168 (a0 :: a1 :: a2 :: a3 :: a4 :: a5 :: zkl a6 :: some (zi x) :: L) (st) (I, R, al) Q := zg_109_166
theorem zh_109_168 {x : Int} : Zgo d 109 168 (a0 :: a1 :: a2 :: a3 :: a4 :: a5 :: a6 :: some (zi x) :: L) (st) (I, R, al) Q ↔ Zgo d 109 170 (a0 :: a1 :: a2 :: a3 :: a4 :: a5 :: a6 :: some (zi x) :: L) (zi x :: st) (I, R, al) Q := zg_109_168
theorem zh_109_170 : Zgo d 109 170 (L) (st) (I, R, al) Q ↔ Zgo d 109 172 (L) (zi 6 :: st) (I, R, al) Q := zg_109_170
theorem zh_109_172 {x y : Int} : Zgo d 109 172 (L) (zi y :: zi x :: st) (I, R, al) Q ↔ if zw x < zw y then Zgo d 109 175 (L) (st) (I, R, al) Q else Zgo d 109 217 (L) (st) (I, R, al) Q := zg_109_172
theorem zh_109_175 {x : Option (Nat × Nat)} : Zgo d 109 175 (some (zq x) :: L) (st) (I, R, al) Q ↔ Zgo d 109 176 (some (zq x) :: L) (zq x :: st) (I, R, al) Q := zg_109_175
theorem zh_109_176 {o : Nat} : Zgo d 109 176 (L) (zq (some (11, o)) :: st) (I, R, al) Q ↔ Zgo d 109 179 (L) (zq (R 11 o 15) :: st) (I, R, al) Q := zg_109_176
theorem zh_109_179 : Zgo d 109 179 (L) (st) (I, R, al) Q ↔ Zgo d 109 181 (L) (zi 6 :: st) (I, R, al) Q := zg_109_179
theorem zh_109_181 {x : Int} : Zgo d 109 181 (a0 :: some (zi x) :: L) (st) (I, R, al) Q ↔ Zgo d 109 182 (a0 :: some (zi x) :: L) (zi x :: st) (I, R, al) Q := zg_109_181
theorem zh_109_182 {x y : Int} : Zgo d 109 182 (L) (zi y :: zi x :: st) (I, R, al) Q ↔ Zgo d 109 183 (L) (zi (x * y) :: st) (I, R, al) Q := zg_109_182
theorem zh_109_183 {x : Int} : Zgo d 109 183 (a0 :: a1 :: a2 :: a3 :: a4 :: a5 :: a6 :: some (zi x) :: L) (st) (I, R, al) Q ↔ Zgo d 109 185 (a0 :: a1 :: a2 :: a3 :: a4 :: a5 :: a6 :: some (zi x) :: L) (zi x :: st) (I, R, al) Q := zg_109_183
theorem zh_109_185 {x y : Int} : Zgo d 109 185 (L) (zi y :: zi x :: st) (I, R, al) Q ↔ Zgo d 109 186 (L) (zi (x + y) :: st) (I, R, al) Q := zg_109_185
theorem zh_109_186 {j : Int} {c o : Nat} : Zgo d 109 186 (L) (zi j :: zq (some (c, o)) :: st) (I, R, al) Q ↔ zal (zlen (I, R, al) c) 0 j (fun x => Zgo d 109 187 (L) (zi (I c o x) :: st) (I, R, al) Q) := zg_109_186
theorem zh_109_187 {x : Int} : Zgo d 109 187 (a0 :: a1 :: a2 :: a3 :: a4 :: a5 :: a6 :: a7 :: b0 :: L) (zi x :: st) (I, R, al) Q ↔ Zgo d 109 189 (a0 :: a1 :: a2 :: a3 :: a4 :: a5 :: a6 :: zkl a7 :: some (zi x) :: L) (st) (I, R, al) Q := zg_109_187
theorem zh_109_189 {x : Int} : Zgo d 109 189 (a0 :: a1 :: a2 :: a3 :: a4 :: a5 :: a6 :: a7 :: some (zi x) :: L) (st) (I, R, al) Q ↔ Zgo d 109 191 (a0 :: a1 :: a2 :: a3 :: a4 :: a5 :: a6 :: a7 :: some (zi x) :: L) (zi x :: st) (I, R, al) Q := zg_109_189
theorem zh_109_191 {x : Int} : Zgo d 109 191 (L) (zi x :: st) (I, R, al) Q ↔ if zw x < zw 0 then Zgo d 109 194 (L) (st) (I, R, al) Q else Zgo d 109 199 (L) (st) (I, R, al) Q := zg_109_191
theorem zh_109_194 {x : Int} : Zgo d 109 194 (a0 :: a1 :: a2 :: a3 :: some (zi x) :: L) (st) (I, R, al) Q ↔ Zgo d 109 196 (a0 :: a1 :: a2 :: a3 :: some (zi x) :: L) (zi x :: st) (I, R, al) Q := zg_109_194
theorem zh_109_196 : Zgo d 109 196 (L) (st) (I, R, al) Q ↔ Zgo d 109 209 (L) (st) (I, R, al) Q := zg_109_196
theorem zh_109_199 {x : Int} : Zgo d 109 199 (a0 :: a1 :: a2 :: a3 :: some (zi x) :: L) (st) (I, R, al) Q ↔ Zgo d 109 201 (a0 :: a1 :: a2 :: a3 :: some (zi x) :: L) (zi x :: st) (I, R, al) Q := zg_109_199
theorem zh_109_201 {x : Option (Nat × Nat)} : Zgo d 109 201 (some (zq x) :: L) (st) (I, R, al) Q ↔ Zgo d 109 202 (some (zq x) :: L) (zq x :: st) (I, R, al) Q := zg_109_201
theorem zh_109_202 {o : Nat} : Zgo d 109 202 (L) (zq (some (11, o)) :: st) (I, R, al) Q ↔ Zgo d 109 205 (L) (zq (R 11 o 27) :: st) (I, R, al) Q := zg_109_202
theorem zh_109_205 {x : Int} : Zgo d 109 205 (a0 :: a1 :: a2 :: a3 :: a4 :: a5 :: a6 :: a7 :: some (zi x) :: L) (st) (I, R, al) Q ↔ Zgo d 109 207 (a0 :: a1 :: a2 :: a3 :: a4 :: a5 :: a6 :: a7 :: some (zi x) :: L) (zi x :: st) (I, R, al) Q := zg_109_205
theorem zh_109_207 {j : Int} {c o : Nat} : Zgo d 109 207 (L) (zi j :: zq (some (c, o)) :: st) (I, R, al) Q ↔ zal (zlen (I, R, al) c) 0 j (fun x => Zgo d 109 208 (L) (zi (I c o x) :: st) (I, R, al) Q) := zg_109_207
theorem zh_109_208 {x y : Int} : Zgo d 109 208 (L) (zi y :: zi x :: st) (I, R, al) Q ↔ Zgo d 109 209 (L) (zi (zor x y) :: st) (I, R, al) Q := zg_109_208
theorem zh_109_209 {x : Int} : Zgo d 109 209 (a0 :: a1 :: a2 :: a3 :: b0 :: L) (zi x :: st) (I, R, al) Q ↔ Zgo d 109 211 (a0 :: a1 :: a2 :: zkl a3 :: some (zi x) :: L) (st) (I, R, al) Q := zg_109_209
theorem zh_109_211 {x : Int} : Zgo d 109 211 (a0 :: a1 :: a2 :: a3 :: a4 :: a5 :: a6 :: some (zi x) :: L) (st) (I, R, al) Q ↔ Zgo d 109 214 (a0 :: a1 :: a2 :: a3 :: a4 :: a5 :: zkl a6 :: some (zi (x + 1)) :: L) (st) (I, R, al) Q := zg_109_211
theorem zh_109_214 : Zgo d 109 214 (L) (st) (I, R, al) Q ↔ Zgo d 109 168 (L) (st) (I, R, al) Q := zg_109_214
theorem zh_109_217 : Zgo d 109 217 (L) (st) (I, R, al) Q ↔ Zgo d 109 310 (L) (st) (I, R, al) Q := zg_109_217
theorem zh_109_220 {x : Int} : Zgo d 109 220 (a0 :: a1 :: a2 :: some (zi x) :: L) (st) (I, R, al) Q ↔ Zgo d 109 221 (a0 :: a1 :: a2 :: some (zi x) :: L) (zi x :: st) (I, R, al) Q := zg_109_220
theorem zh_109_221 : Zgo d 109 221 (L) (st) (I, R, al) Q ↔ Zgo d 109 223 (L) (zi 84 :: st) (I, R, al) Q := zg_109_221
theorem zh_109_223 {x y : Int} : Zgo d 109 223 (L) (zi y :: zi x :: st) (I, R, al) Q ↔ if zw x = zw y then Zgo d 109 226 (L) (st) (I, R, al) Q else Zgo d 109 239 (L) (st) (I, R, al) Q := zg_109_223
theorem zh_109_226 : Zgo d 109 226 (L) (st) (I, R, al) Q ↔ Zgo d 109 227 (L) (zi 1 :: st) (I, R, al) Q := zg_109_226
theorem zh_109_227 {x : Option (Nat × Nat)} : Zgo d 109 227 (some (zq x) :: L) (st) (I, R, al) Q ↔ Zgo d 109 228 (some (zq x) :: L) (zq x :: st) (I, R, al) Q := zg_109_227
theorem zh_109_228 {o : Nat} : Zgo d 109 228 (L) (zq (some (11, o)) :: st) (I, R, al) Q ↔ Zgo d 109 231 (L) (zq (R 11 o 12) :: st) (I, R, al) Q := zg_109_228
theorem zh_109_231 {x : Int} : Zgo d 109 231 (a0 :: some (zi x) :: L) (st) (I, R, al) Q ↔ Zgo d 109 232 (a0 :: some (zi x) :: L) (zi x :: st) (I, R, al) Q := zg_109_231
theorem zh_109_232 {j : Int} {c o : Nat} : Zgo d 109 232 (L) (zi j :: zq (some (c, o)) :: st) (I, R, al) Q ↔ zal (zlen (I, R, al) c) 0 j (fun x => Zgo d 109 233 (L) (zi (I c o x) :: st) (I, R, al) Q) := zg_109_232
theorem zh_109_233 {x y : Int} : Zgo d 109 233 (L) (zi y :: zi x :: st) (I, R, al) Q ↔ Zgo d 109 234 (L) (zi (zshl x y) :: st) (I, R, al) Q := zg_109_233
theorem zh_109_234 {x : Int} : Zgo d 109 234 (a0 :: a1 :: a2 :: a3 :: b0 :: L) (zi x :: st) (I, R, al) Q ↔ Zgo d 109 236 (a0 :: a1 :: a2 :: zkl a3 :: some (zi x) :: L) (st) (I, R, al) Q := zg_109_234
theorem zh_109_236 : Zgo d 109 236 (L) (st) (I, R, al) Q ↔ Zgo d 109 310 (L) (st) (I, R, al) Q := zg_109_236
theorem zh_109_239 {x : Int} : Zgo d 109 239 (a0 :: a1 :: a2 :: some (zi x) :: L) (st) (I, R, al) Q ↔ Zgo d 109 240 (a0 :: a1 :: a2 :: some (zi x) :: L) (zi x :: st) (I, R, al) Q := zg_109_239
theorem zh_109_240 : Zgo d 109 240 (L) (st) (I, R, al) Q ↔ Zgo d 109 242 (L) (zi 88 :: st) (I, R, al) Q := zg_109_240
theorem zh_109_242 {x y : Int} : Zgo d 109 242 (L) (zi y :: zi x :: st) (I, R, al) Q ↔ if zw x = zw y then Zgo d 109 245 (L) (st) (I, R, al) Q else Zgo d 109 287 (L) (st) (I, R, al) Q := zg_109_242
theorem zh_109_245 {x : Option (Nat × Nat)} : Zgo d 109 245 (some (zq x) :: L) (st) (I, R, al) Q ↔ Zgo d 109 246 (some (zq x) :: L) (zq x :: st) (I, R, al) Q := zg_109_245
theorem zh_109_246 {x : Int} : Zgo d 109 246 (a0 :: some (zi x) :: L) (st) (I, R, al) Q ↔ Zgo d 109 247 (a0 :: some (zi x) :: L) (zi x :: st) (I, R, al) Q := zg_109_246
theorem zh_109_247 : Zgo d 109 247 (L) (st) (I, R, al) Q ↔ Zgo d 109 249 (L) (zi 89 :: st) (I, R, al) Q := zg_109_247
theorem zh_109_249 : Zgo d 109 249 (L) (st) (I, R, al) Q ↔ Zgo d 109 250 (L) (zi 2 :: st) (I, R, al) Q := zg_109_249
theorem zh_109_250 : Zgo d 109 250 (L) (st) (I, R, al) Q ↔ Zgo d 109 251 (L) (zi 4 :: st) (I, R, al) Q := zg_109_250
theorem zh_109_251 {v1 v2 v3 v4 : zV} {o : Nat} : Zgo d 109 251 (L) (v4 :: v3 :: v2 :: v1 :: zq (some (11, o)) :: st) (I, R, al) Q ↔ if zwt st ≤ 8 then zCp d 105 [zq (some (11, o)), v1, v2, v3, v4] (I, R, al) (fun r S2 => Zgo d 109 254 L (r.toList ++ st) S2 Q) else False := zg_109_251
theorem zh_109_254 {x : Int} : Zgo d 109 254 (a0 :: a1 :: a2 :: a3 :: a4 :: b0 :: L) (zi x :: st) (I, R, al) Q ↔ Zgo d 109 256 (a0 :: a1 :: a2 :: a3 :: zkl a4 :: some (zi x) :: L) (st) (I, R, al) Q := zg_109_254
theorem zh_109_256 : Zgo d 109 256 (L) (st) (I, R, al) Q ↔ Zgo d 109 257 (L) (zi 1 :: st) (I, R, al) Q := zg_109_256
theorem zh_109_257 {x : Option (Nat × Nat)} : Zgo d 109 257 (some (zq x) :: L) (st) (I, R, al) Q ↔ Zgo d 109 258 (some (zq x) :: L) (zq x :: st) (I, R, al) Q := zg_109_257
theorem zh_109_258 {o : Nat} : Zgo d 109 258 (L) (zq (some (11, o)) :: st) (I, R, al) Q ↔ Zgo d 109 261 (L) (zq (R 11 o 16) :: st) (I, R, al) Q := zg_109_258
theorem zh_109_261 : Zgo d 109 261 (L) (st) (I, R, al) Q ↔ Zgo d 109 262 (L) (zi 3 :: st) (I, R, al) Q := zg_109_261
theorem zh_109_262 {x : Option (Nat × Nat)} : Zgo d 109 262 (some (zq x) :: L) (st) (I, R, al) Q ↔ Zgo d 109 263 (some (zq x) :: L) (zq x :: st) (I, R, al) Q := zg_109_262
theorem zh_109_263 {o : Nat} : Zgo d 109 263 (L) (zq (some (11, o)) :: st) (I, R, al) Q ↔ Zgo d 109 266 (L) (zq (R 11 o 25) :: st) (I, R, al) Q := zg_109_263
theorem zh_109_266 {x : Int} : Zgo d 109 266 (a0 :: a1 :: a2 :: a3 :: a4 :: some (zi x) :: L) (st) (I, R, al) Q ↔ Zgo d 109 268 (a0 :: a1 :: a2 :: a3 :: a4 :: some (zi x) :: L) (zi x :: st) (I, R, al) Q := zg_109_266
theorem zh_109_268 {j : Int} {c o : Nat} : Zgo d 109 268 (L) (zi j :: zq (some (c, o)) :: st) (I, R, al) Q ↔ zal (zlen (I, R, al) c) 0 j (fun x => Zgo d 109 269 (L) (zi (I c o x) :: st) (I, R, al) Q) := zg_109_268
theorem zh_109_269 {x y : Int} : Zgo d 109 269 (L) (zi y :: zi x :: st) (I, R, al) Q ↔ Zgo d 109 270 (L) (zi (x * y) :: st) (I, R, al) Q := zg_109_269
theorem zh_109_270 {x : Option (Nat × Nat)} : Zgo d 109 270 (some (zq x) :: L) (st) (I, R, al) Q ↔ Zgo d 109 271 (some (zq x) :: L) (zq x :: st) (I, R, al) Q := zg_109_270
theorem zh_109_271 {o : Nat} : Zgo d 109 271 (L) (zq (some (11, o)) :: st) (I, R, al) Q ↔ Zgo d 109 274 (L) (zq (R 11 o 26) :: st) (I, R, al) Q := zg_109_271
theorem zh_109_274 {x : Int} : Zgo d 109 274 (a0 :: a1 :: a2 :: a3 :: a4 :: some (zi x) :: L) (st) (I, R, al) Q ↔ Zgo d 109 276 (a0 :: a1 :: a2 :: a3 :: a4 :: some (zi x) :: L) (zi x :: st) (I, R, al) Q := zg_109_274
theorem zh_109_276 {j : Int} {c o : Nat} : Zgo d 109 276 (L) (zi j :: zq (some (c, o)) :: st) (I, R, al) Q ↔ zal (zlen (I, R, al) c) 0 j (fun x => Zgo d 109 277 (L) (zi (I c o x) :: st) (I, R, al) Q) := zg_109_276
theorem zh_109_277 {x y : Int} : Zgo d 109 277 (L) (zi y :: zi x :: st) (I, R, al) Q ↔ Zgo d 109 278 (L) (zi (x + y) :: st) (I, R, al) Q := zg_109_277
theorem zh_109_278 : Zgo d 109 278 (L) (st) (I, R, al) Q ↔ Zgo d 109 279 (L) (zi 2 :: st) (I, R, al) Q := zg_109_278
theorem zh_109_279 {x y : Int} : Zgo d 109 279 (L) (zi y :: zi x :: st) (I, R, al) Q ↔ Zgo d 109 280 (L) (zi (x - y) :: st) (I, R, al) Q := zg_109_279
theorem zh_109_280 {j : Int} {c o : Nat} : Zgo d 109 280 (L) (zi j :: zq (some (c, o)) :: st) (I, R, al) Q ↔ zal (zlen (I, R, al) c) 0 j (fun x => Zgo d 109 281 (L) (zi (I c o x) :: st) (I, R, al) Q) := zg_109_280
theorem zh_109_281 {x y : Int} : Zgo d 109 281 (L) (zi y :: zi x :: st) (I, R, al) Q ↔ Zgo d 109 282 (L) (zi (zshl x y) :: st) (I, R, al) Q := zg_109_281
theorem zh_109_282 {x : Int} : Zgo d 109 282 (a0 :: a1 :: a2 :: a3 :: b0 :: L) (zi x :: st) (I, R, al) Q ↔ Zgo d 109 284 (a0 :: a1 :: a2 :: zkl a3 :: some (zi x) :: L) (st) (I, R, al) Q := zg_109_282
theorem zh_109_284 : Zgo d 109 284 (L) (st) (I, R, al) Q ↔ Zgo d 109 310 (L) (st) (I, R, al) Q := zg_109_284
theorem zh_109_287 {x : Int} : Zgo d 109 287 (a0 :: a1 :: a2 :: some (zi x) :: L) (st) (I, R, al) Q ↔ Zgo d 109 288 (a0 :: a1 :: a2 :: some (zi x) :: L) (zi x :: st) (I, R, al) Q := zg_109_287
theorem zh_109_288 : Zgo d 109 288 (L) (st) (I, R, al) Q ↔ Zgo d 109 290 (L) (zi 80 :: st) (I, R, al) Q := zg_109_288
theorem zh_109_290 {x y : Int} : Zgo d 109 290 (L) (zi y :: zi x :: st) (I, R, al) Q ↔ if zw x = zw y then Zgo d 109 293 (L) (st) (I, R, al) Q else Zgo d 109 310 (L) (st) (I, R, al) Q := zg_109_290
theorem zh_109_293 {x : Option (Nat × Nat)} : Zgo d 109 293 (some (zq x) :: L) (st) (I, R, al) Q ↔ Zgo d 109 294 (some (zq x) :: L) (zq x :: st) (I, R, al) Q := zg_109_293
theorem zh_109_294 {o : Nat} : Zgo d 109 294 (L) (zq (some (11, o)) :: st) (I, R, al) Q ↔ Zgo d 109 297 (L) (zq (R 11 o 8) :: st) (I, R, al) Q := zg_109_294
theorem zh_109_297 {x : Option (Nat × Nat)} : Zgo d 109 297 (some (zq x) :: L) (st) (I, R, al) Q ↔ Zgo d 109 298 (some (zq x) :: L) (zq x :: st) (I, R, al) Q := zg_109_297
theorem zh_109_298 {x : Option (Nat × Nat)} : Zgo d 109 298 (some (zq x) :: L) (st) (I, R, al) Q ↔ Zgo d 109 299 (some (zq x) :: L) (zq x :: st) (I, R, al) Q := zg_109_298
theorem zh_109_299 {o : Nat} : Zgo d 109 299 (L) (zq (some (11, o)) :: st) (I, R, al) Q ↔ Zgo d 109 302 (L) (zq (R 11 o 12) :: st) (I, R, al) Q := zg_109_299
theorem zh_109_302 {x : Int} : Zgo d 109 302 (a0 :: some (zi x) :: L) (st) (I, R, al) Q ↔ Zgo d 109 303 (a0 :: some (zi x) :: L) (zi x :: st) (I, R, al) Q := zg_109_302
theorem zh_109_303 {j : Int} {c o : Nat} : Zgo d 109 303 (L) (zi j :: zq (some (c, o)) :: st) (I, R, al) Q ↔ zal (zlen (I, R, al) c) 0 j (fun x => Zgo d 109 304 (L) (zi (I c o x) :: st) (I, R, al) Q) := zg_109_303
theorem zh_109_304 {v1 : zV} {o : Nat} : Zgo d 109 304 (L) (v1 :: zq (some (11, o)) :: st) (I, R, al) Q ↔ if zwt st ≤ 8 then zCp d 106 [zq (some (11, o)), v1] (I, R, al) (fun r S2 => Zgo d 109 307 L (r.toList ++ st) S2 Q) else False := zg_109_304
theorem zh_109_307 {j : Int} {c o : Nat} : Zgo d 109 307 (L) (zi j :: zq (some (c, o)) :: st) (I, R, al) Q ↔ zal (zlen (I, R, al) c) 0 j (fun x => Zgo d 109 308 (L) (zi (I c o x) :: st) (I, R, al) Q) := zg_109_307
theorem zh_109_308 {x : Int} : Zgo d 109 308 (a0 :: a1 :: a2 :: a3 :: b0 :: L) (zi x :: st) (I, R, al) Q ↔ Zgo d 109 310 (a0 :: a1 :: a2 :: zkl a3 :: some (zi x) :: L) (st) (I, R, al) Q := zg_109_308
theorem zh_109_310 {x : Option (Nat × Nat)} : Zgo d 109 310 (some (zq x) :: L) (st) (I, R, al) Q ↔ Zgo d 109 311 (some (zq x) :: L) (zq x :: st) (I, R, al) Q := zg_109_310
theorem zh_109_311 {o : Nat} : Zgo d 109 311 (L) (zq (some (11, o)) :: st) (I, R, al) Q ↔ Zgo d 109 314 (L) (zq (R 11 o 21) :: st) (I, R, al) Q := zg_109_311
theorem zh_109_314 {x : Int} : Zgo d 109 314 (a0 :: some (zi x) :: L) (st) (I, R, al) Q ↔ Zgo d 109 315 (a0 :: some (zi x) :: L) (zi x :: st) (I, R, al) Q := zg_109_314
theorem zh_109_315 {x : Int} : Zgo d 109 315 (a0 :: a1 :: a2 :: a3 :: some (zi x) :: L) (st) (I, R, al) Q ↔ Zgo d 109 317 (a0 :: a1 :: a2 :: a3 :: some (zi x) :: L) (zi x :: st) (I, R, al) Q := zg_109_315
theorem zh_109_317 {v j : Int} {c o : Nat} : Zgo d 109 317 (L) (zi v :: zi j :: zq (some (c, o)) :: st) (I, R, al) Q ↔ zal (zArr c) 0 j (fun x => Zgo d 109 318 (L) (st) (zsI I c o x v, R, al) Q) := zg_109_317
theorem zh_109_318 {x : Option (Nat × Nat)} : Zgo d 109 318 (some (zq x) :: L) (st) (I, R, al) Q ↔ Zgo d 109 319 (some (zq x) :: L) (zq x :: st) (I, R, al) Q := zg_109_318
theorem zh_109_319 {o : Nat} : Zgo d 109 319 (L) (zq (some (11, o)) :: st) (I, R, al) Q ↔ Zgo d 109 322 (L) (zq (R 11 o 27) :: st) (I, R, al) Q := zg_109_319
theorem zh_109_322 {x : Option (Nat × Nat)} : Zgo d 109 322 (some (zq x) :: L) (st) (I, R, al) Q ↔ Zgo d 109 323 (some (zq x) :: L) (zq x :: st) (I, R, al) Q := zg_109_322
theorem zh_109_323 {o : Nat} : Zgo d 109 323 (L) (zq (some (11, o)) :: st) (I, R, al) Q ↔ Zgo d 109 326 (L) (zq (R 11 o 19) :: st) (I, R, al) Q := zg_109_323
theorem zh_109_326 {x : Int} : Zgo d 109 326 (a0 :: some (zi x) :: L) (st) (I, R, al) Q ↔ Zgo d 109 327 (a0 :: some (zi x) :: L) (zi x :: st) (I, R, al) Q := zg_109_326
theorem zh_109_327 {j : Int} {c o : Nat} : Zgo d 109 327 (L) (zi j :: zq (some (c, o)) :: st) (I, R, al) Q ↔ zal (zlen (I, R, al) c) 0 j (fun x => Zgo d 109 328 (L) (zi (I c o x) :: st) (I, R, al) Q) := zg_109_327
theorem zh_109_328 {x : Option (Nat × Nat)} : Zgo d 109 328 (some (zq x) :: L) (st) (I, R, al) Q ↔ Zgo d 109 329 (some (zq x) :: L) (zq x :: st) (I, R, al) Q := zg_109_328
theorem zh_109_329 {o : Nat} : Zgo d 109 329 (L) (zq (some (11, o)) :: st) (I, R, al) Q ↔ Zgo d 109 332 (L) (zq (R 11 o 27) :: st) (I, R, al) Q := zg_109_329
theorem zh_109_332 {x : Option (Nat × Nat)} : Zgo d 109 332 (some (zq x) :: L) (st) (I, R, al) Q ↔ Zgo d 109 333 (some (zq x) :: L) (zq x :: st) (I, R, al) Q := zg_109_332
theorem zh_109_333 {o : Nat} : Zgo d 109 333 (L) (zq (some (11, o)) :: st) (I, R, al) Q ↔ Zgo d 109 336 (L) (zq (R 11 o 19) :: st) (I, R, al) Q := zg_109_333
theorem zh_109_336 {x : Int} : Zgo d 109 336 (a0 :: some (zi x) :: L) (st) (I, R, al) Q ↔ Zgo d 109 337 (a0 :: some (zi x) :: L) (zi x :: st) (I, R, al) Q := zg_109_336
theorem zh_109_337 {j : Int} {c o : Nat} : Zgo d 109 337 (L) (zi j :: zq (some (c, o)) :: st) (I, R, al) Q ↔ zal (zlen (I, R, al) c) 0 j (fun x => Zgo d 109 338 (L) (zi (I c o x) :: st) (I, R, al) Q) := zg_109_337
theorem zh_109_338 {j : Int} {c o : Nat} : Zgo d 109 338 (L) (zi j :: zq (some (c, o)) :: st) (I, R, al) Q ↔ zal (zlen (I, R, al) c) 0 j (fun x => Zgo d 109 339 (L) (zi (I c o x) :: st) (I, R, al) Q) := zg_109_338
theorem zh_109_339 {x : Int} : Zgo d 109 339 (a0 :: a1 :: a2 :: a3 :: some (zi x) :: L) (st) (I, R, al) Q ↔ Zgo d 109 341 (a0 :: a1 :: a2 :: a3 :: some (zi x) :: L) (zi x :: st) (I, R, al) Q := zg_109_339
theorem zh_109_341 {x y : Int} : Zgo d 109 341 (L) (zi y :: zi x :: st) (I, R, al) Q ↔ Zgo d 109 342 (L) (zi (zor x y) :: st) (I, R, al) Q := zg_109_341
theorem zh_109_342 {v j : Int} {c o : Nat} : Zgo d 109 342 (L) (zi v :: zi j :: zq (some (c, o)) :: st) (I, R, al) Q ↔ zal (zArr c) 0 j (fun x => Zgo d 109 343 (L) (st) (zsI I c o x v, R, al) Q) := zg_109_342
theorem zh_109_343 {x : Int} : Zgo d 109 343 (a0 :: a1 :: some (zi x) :: L) (st) (I, R, al) Q ↔ Zgo d 109 344 (a0 :: a1 :: some (zi x) :: L) (zi x :: st) (I, R, al) Q := zg_109_343
theorem zh_109_344 {x : Int} : Zgo d 109 344 (L) (zi x :: []) (I, R, al) Q ↔ zok 1 x False (Q (some (zi x)) (I, R, al)) := zg_109_344
theorem zh_110_0 {x : Option (Nat × Nat)} : Zgo d 110 0 (some (zq x) :: L) (st) (I, R, al) Q ↔ Zgo d 110 1 (some (zq x) :: L) (zq x :: st) (I, R, al) Q := zg_110_0
theorem zh_110_1 {x : Int} : Zgo d 110 1 (a0 :: some (zi x) :: L) (st) (I, R, al) Q ↔ Zgo d 110 2 (a0 :: some (zi x) :: L) (zi x :: st) (I, R, al) Q := zg_110_1
theorem zh_110_2 {x : Int} : Zgo d 110 2 (L) (zi x :: st) (I, R, al) Q ↔ if zw x < zw 0 then Zgo d 110 12 (L) (st) (I, R, al) Q else Zgo d 110 5 (L) (st) (I, R, al) Q := zg_110_2
theorem zh_110_5 {x : Int} : Zgo d 110 5 (a0 :: some (zi x) :: L) (st) (I, R, al) Q ↔ Zgo d 110 6 (a0 :: some (zi x) :: L) (zi x :: st) (I, R, al) Q := zg_110_5
theorem zh_110_6 : Zgo d 110 6 (L) (st) (I, R, al) Q ↔ Zgo d 110 9 (L) (zi 3000 :: st) (I, R, al) Q := zg_110_6
theorem zh_110_9 {x y : Int} : Zgo d 110 9 (L) (zi y :: zi x :: st) (I, R, al) Q ↔ if zw y < zw x then Zgo d 110 12 (L) (st) (I, R, al) Q else Zgo d 110 16 (L) (st) (I, R, al) Q := zg_110_9
theorem zh_110_12 : Zgo d 110 12 (L) (st) (I, R, al) Q ↔ Zgo d 110 13 (L) (zi 1 :: st) (I, R, al) Q := zg_110_12
theorem zh_110_13 : Zgo d 110 13 (L) (st) (I, R, al) Q ↔ Zgo d 110 28 (L) (st) (I, R, al) Q := zg_110_13
theorem zh_110_16 {x : Option (Nat × Nat)} : Zgo d 110 16 (some (zq x) :: L) (st) (I, R, al) Q ↔ Zgo d 110 17 (some (zq x) :: L) (zq x :: st) (I, R, al) Q := zg_110_16
theorem zh_110_17 {o : Nat} : Zgo d 110 17 (L) (zq (some (11, o)) :: st) (I, R, al) Q ↔ Zgo d 110 20 (L) (zi (I 11 o 5) :: st) (I, R, al) Q := zg_110_17
theorem zh_110_20 {x : Int} : Zgo d 110 20 (L) (zi x :: st) (I, R, al) Q ↔ if zw x = zw 0 then Zgo d 110 23 (L) (st) (I, R, al) Q else Zgo d 110 27 (L) (st) (I, R, al) Q := zg_110_20
theorem zh_110_23 : Zgo d 110 23 (L) (st) (I, R, al) Q ↔ Zgo d 110 24 (L) (zi 2 :: st) (I, R, al) Q := zg_110_23
theorem zh_110_24 : Zgo d 110 24 (L) (st) (I, R, al) Q ↔ Zgo d 110 28 (L) (st) (I, R, al) Q := zg_110_24
theorem zh_110_27 : Zgo d 110 27 (L) (st) (I, R, al) Q ↔ Zgo d 110 28 (L) (zi 0 :: st) (I, R, al) Q := zg_110_27
theorem zh_110_28 {o : Nat} {v : Int} : Zgo d 110 28 (L) (zi v :: zq (some (11, o)) :: st) (I, R, al) Q ↔ Zgo d 110 31 (L) (st) (zsI I 11 o 0 v, R, al) Q := zg_110_28
theorem zh_110_31 {x : Option (Nat × Nat)} : Zgo d 110 31 (some (zq x) :: L) (st) (I, R, al) Q ↔ Zgo d 110 32 (some (zq x) :: L) (zq x :: st) (I, R, al) Q := zg_110_31
theorem zh_110_32 {o : Nat} : Zgo d 110 32 (L) (zq (some (11, o)) :: st) (I, R, al) Q ↔ Zgo d 110 35 (L) (zi (I 11 o 0) :: st) (I, R, al) Q := zg_110_32
theorem zh_110_35 {x : Int} : Zgo d 110 35 (L) (zi x :: st) (I, R, al) Q ↔ if zw 0 < zw x then Zgo d 110 38 (L) (st) (I, R, al) Q else Zgo d 110 40 (L) (st) (I, R, al) Q := zg_110_35
theorem zh_110_38 : Zgo d 110 38 (L) (st) (I, R, al) Q ↔ Zgo d 110 39 (L) (zi 0 :: st) (I, R, al) Q := zg_110_38
theorem zh_110_39 {x : Int} : Zgo d 110 39 (L) (zi x :: []) (I, R, al) Q ↔ Q (some (zi x)) (I, R, al) := zg_110_39
theorem zh_110_40 {x : Option (Nat × Nat)} : Zgo d 110 40 (some (zq x) :: L) (st) (I, R, al) Q ↔ Zgo d 110 41 (some (zq x) :: L) (zq x :: st) (I, R, al) Q := zg_110_40
theorem zh_110_41 {o : Nat} : Zgo d 110 41 (L) (zq (some (11, o)) :: st) (I, R, al) Q ↔ if zwt st ≤ 8 then zCp d 85 [zq (some (11, o))] (I, R, al) (fun r S2 => Zgo d 110 44 L (r.toList ++ st) S2 Q) else False := zg_110_41
theorem zh_110_44 {x : Option (Nat × Nat)} : Zgo d 110 44 (some (zq x) :: L) (st) (I, R, al) Q ↔ Zgo d 110 45 (some (zq x) :: L) (zq x :: st) (I, R, al) Q := zg_110_44
theorem zh_110_45 : Zgo d 110 45 (L) (st) (I, R, al) Q ↔ Zgo d 110 46 (L) (zi 0 :: st) (I, R, al) Q := zg_110_45
theorem zh_110_46 {o : Nat} {v : Int} : Zgo d 110 46 (L) (zi v :: zq (some (11, o)) :: st) (I, R, al) Q ↔ Zgo d 110 49 (L) (st) (zsI I 11 o 41 v, R, al) Q := zg_110_46
theorem zh_110_49 {x : Option (Nat × Nat)} : Zgo d 110 49 (some (zq x) :: L) (st) (I, R, al) Q ↔ Zgo d 110 50 (some (zq x) :: L) (zq x :: st) (I, R, al) Q := zg_110_49
theorem zh_110_50 : Zgo d 110 50 (L) (st) (I, R, al) Q ↔ Zgo d 110 51 (L) (zi 0 :: st) (I, R, al) Q := zg_110_50
theorem zh_110_51 {o : Nat} {v : Int} : Zgo d 110 51 (L) (zi v :: zq (some (11, o)) :: st) (I, R, al) Q ↔ Zgo d 110 54 (L) (st) (zsI I 11 o 53 v, R, al) Q := zg_110_51
theorem zh_110_54 {x : Option (Nat × Nat)} : Zgo d 110 54 (some (zq x) :: L) (st) (I, R, al) Q ↔ Zgo d 110 55 (some (zq x) :: L) (zq x :: st) (I, R, al) Q := zg_110_54
theorem zh_110_55 : Zgo d 110 55 (L) (st) (I, R, al) Q ↔ Zgo d 110 56 (L) (zi 0 :: st) (I, R, al) Q := zg_110_55
theorem zh_110_56 : Zgo d 110 56 (L) (st) (I, R, al) Q ↔ Zgo d 110 57 (L) (zi 0 :: st) (I, R, al) Q := zg_110_56
theorem zh_110_57 : Zgo d 110 57 (L) (st) (I, R, al) Q ↔ Zgo d 110 58 (L) (zi 0 :: st) (I, R, al) Q := zg_110_57
theorem zh_110_58 {v1 v2 v3 : zV} {o : Nat} : Zgo d 110 58 (L) (v3 :: v2 :: v1 :: zq (some (11, o)) :: st) (I, R, al) Q ↔ if zwt st ≤ 8 then zCp d 111 [zq (some (11, o)), v1, v2, v3] (I, R, al) (fun r S2 => Zgo d 110 61 L (r.toList ++ st) S2 Q) else False := zg_110_58
theorem zh_110_61 {x : Option (Nat × Nat)} : Zgo d 110 61 (some (zq x) :: L) (st) (I, R, al) Q ↔ Zgo d 110 62 (some (zq x) :: L) (zq x :: st) (I, R, al) Q := zg_110_61
theorem zh_110_62 {x : Option (Nat × Nat)} : Zgo d 110 62 (some (zq x) :: L) (st) (I, R, al) Q ↔ Zgo d 110 63 (some (zq x) :: L) (zq x :: st) (I, R, al) Q := zg_110_62
theorem zh_110_63 {o : Nat} : Zgo d 110 63 (L) (zq (some (11, o)) :: st) (I, R, al) Q ↔ Zgo d 110 66 (L) (zq (R 11 o 9) :: st) (I, R, al) Q := zg_110_63
theorem zh_110_66 {x : Option (Nat × Nat)} : Zgo d 110 66 (some (zq x) :: L) (st) (I, R, al) Q ↔ Zgo d 110 67 (some (zq x) :: L) (zq x :: st) (I, R, al) Q := zg_110_66
theorem zh_110_67 {o : Nat} : Zgo d 110 67 (L) (zq (some (11, o)) :: st) (I, R, al) Q ↔ Zgo d 110 70 (L) (zi (I 11 o 6) :: st) (I, R, al) Q := zg_110_67
theorem zh_110_70 {j : Int} {c o : Nat} : Zgo d 110 70 (L) (zi j :: zq (some (c, o)) :: st) (I, R, al) Q ↔ zal (zlen (I, R, al) c) 0 j (fun x => Zgo d 110 71 (L) (zi (I c o x) :: st) (I, R, al) Q) := zg_110_70
theorem zh_110_71 {v1 : zV} {o : Nat} : Zgo d 110 71 (L) (v1 :: zq (some (11, o)) :: st) (I, R, al) Q ↔ if zwt st ≤ 8 then zCp d 112 [zq (some (11, o)), v1] (I, R, al) (fun r S2 => Zgo d 110 74 L (r.toList ++ st) S2 Q) else False := zg_110_71
theorem zh_110_74 : Zgo d 110 74 (L) (st) (I, R, al) Q ↔ Zgo d 110 75 (L) (zi 1 :: st) (I, R, al) Q := zg_110_74
theorem zh_110_75 {x : Int} : Zgo d 110 75 (a0 :: a1 :: b0 :: L) (zi x :: st) (I, R, al) Q ↔ Zgo d 110 76 (a0 :: zkl a1 :: some (zi x) :: L) (st) (I, R, al) Q := zg_110_75
theorem zh_110_76 {x : Option (Nat × Nat)} : Zgo d 110 76 (some (zq x) :: L) (st) (I, R, al) Q ↔ Zgo d 110 77 (some (zq x) :: L) (zq x :: st) (I, R, al) Q := zg_110_76
theorem zh_110_77 {o : Nat} : Zgo d 110 77 (L) (zq (some (11, o)) :: st) (I, R, al) Q ↔ Zgo d 110 80 (L) (zi (I 11 o 41) :: st) (I, R, al) Q := zg_110_77
theorem zh_110_80 {x : Int} : Zgo d 110 80 (L) (zi x :: st) (I, R, al) Q ↔ if zw 0 < zw x then Zgo d 110 83 (L) (st) (I, R, al) Q else Zgo d 110 110 (L) (st) (I, R, al) Q := zg_110_80
theorem zh_110_83 {x : Int} : Zgo d 110 83 (a0 :: a1 :: some (zi x) :: L) (st) (I, R, al) Q ↔ Zgo d 110 84 (a0 :: a1 :: some (zi x) :: L) (zi x :: st) (I, R, al) Q := zg_110_83
theorem zh_110_84 {x : Int} : Zgo d 110 84 (L) (zi x :: st) (I, R, al) Q ↔ if zw x = zw 0 then Zgo d 110 110 (L) (st) (I, R, al) Q else Zgo d 110 87 (L) (st) (I, R, al) Q := zg_110_84
theorem zh_110_87 {x : Option (Nat × Nat)} : Zgo d 110 87 (some (zq x) :: L) (st) (I, R, al) Q ↔ Zgo d 110 88 (some (zq x) :: L) (zq x :: st) (I, R, al) Q := zg_110_87
theorem zh_110_88 {o : Nat} : Zgo d 110 88 (L) (zq (some (11, o)) :: st) (I, R, al) Q ↔ Zgo d 110 91 (L) (zi (I 11 o 50) :: st) (I, R, al) Q := zg_110_88
theorem zh_110_91 {x : Int} : Zgo d 110 91 (L) (zi x :: st) (I, R, al) Q ↔ if zw x = zw 0 then Zgo d 110 94 (L) (st) (I, R, al) Q else Zgo d 110 103 (L) (st) (I, R, al) Q := zg_110_91
theorem zh_110_94 {x : Option (Nat × Nat)} : Zgo d 110 94 (some (zq x) :: L) (st) (I, R, al) Q ↔ Zgo d 110 95 (some (zq x) :: L) (zq x :: st) (I, R, al) Q := zg_110_94
theorem zh_110_95 {x : Int} : Zgo d 110 95 (a0 :: some (zi x) :: L) (st) (I, R, al) Q ↔ Zgo d 110 96 (a0 :: some (zi x) :: L) (zi x :: st) (I, R, al) Q := zg_110_95
theorem zh_110_96 {v1 : zV} {o : Nat} : Zgo d 110 96 (L) (v1 :: zq (some (11, o)) :: st) (I, R, al) Q ↔ if zwt st ≤ 8 then zCp d 114 [zq (some (11, o)), v1] (I, R, al) (fun r S2 => Zgo d 110 99 L (r.toList ++ st) S2 Q) else False := zg_110_96
theorem zh_110_99 {x : Int} : Zgo d 110 99 (a0 :: a1 :: b0 :: L) (zi x :: st) (I, R, al) Q ↔ Zgo d 110 100 (a0 :: zkl a1 :: some (zi x) :: L) (st) (I, R, al) Q := zg_110_99
theorem zh_110_100 : Zgo d 110 100 (L) (st) (I, R, al) Q ↔ Zgo d 110 76 (L) (st) (I, R, al) Q := zg_110_100
theorem zh_110_103 {x : Option (Nat × Nat)} : Zgo d 110 103 (some (zq x) :: L) (st) (I, R, al) Q ↔ Zgo d 110 104 (some (zq x) :: L) (zq x :: st) (I, R, al) Q := zg_110_103
theorem zh_110_104 {o : Nat} : Zgo d 110 104 (L) (zq (some (11, o)) :: st) (I, R, al) Q ↔ if zwt st ≤ 8 then zCp d 121 [zq (some (11, o))] (I, R, al) (fun r S2 => Zgo d 110 107 L (r.toList ++ st) S2 Q) else False := zg_110_104
theorem zh_110_107 : Zgo d 110 107 (L) (st) (I, R, al) Q ↔ Zgo d 110 76 (L) (st) (I, R, al) Q := zg_110_107
theorem zh_110_110 {x : Option (Nat × Nat)} : Zgo d 110 110 (some (zq x) :: L) (st) (I, R, al) Q ↔ Zgo d 110 111 (some (zq x) :: L) (zq x :: st) (I, R, al) Q := zg_110_110
theorem zh_110_111 {x : Int} : Zgo d 110 111 (a0 :: a1 :: some (zi x) :: L) (st) (I, R, al) Q ↔ Zgo d 110 112 (a0 :: a1 :: some (zi x) :: L) (zi x :: st) (I, R, al) Q := zg_110_111
theorem zh_110_112 {x : Int} : Zgo d 110 112 (L) (zi x :: st) (I, R, al) Q ↔ if zw x = zw 0 then Zgo d 110 115 (L) (st) (I, R, al) Q else Zgo d 110 119 (L) (st) (I, R, al) Q := zg_110_112
theorem zh_110_115 : Zgo d 110 115 (L) (st) (I, R, al) Q ↔ Zgo d 110 116 (L) (zi 1 :: st) (I, R, al) Q := zg_110_115
theorem zh_110_116 : Zgo d 110 116 (L) (st) (I, R, al) Q ↔ Zgo d 110 132 (L) (st) (I, R, al) Q := zg_110_116
theorem zh_110_119 {x : Option (Nat × Nat)} : Zgo d 110 119 (some (zq x) :: L) (st) (I, R, al) Q ↔ Zgo d 110 120 (some (zq x) :: L) (zq x :: st) (I, R, al) Q := zg_110_119
theorem zh_110_120 {o : Nat} : Zgo d 110 120 (L) (zq (some (11, o)) :: st) (I, R, al) Q ↔ Zgo d 110 123 (L) (zi (I 11 o 50) :: st) (I, R, al) Q := zg_110_120
theorem zh_110_123 : Zgo d 110 123 (L) (st) (I, R, al) Q ↔ Zgo d 110 124 (L) (zi 4 :: st) (I, R, al) Q := zg_110_123
theorem zh_110_124 {x y : Int} : Zgo d 110 124 (L) (zi y :: zi x :: st) (I, R, al) Q ↔ if zw x = zw y then Zgo d 110 127 (L) (st) (I, R, al) Q else Zgo d 110 131 (L) (st) (I, R, al) Q := zg_110_124
theorem zh_110_127 : Zgo d 110 127 (L) (st) (I, R, al) Q ↔ Zgo d 110 128 (L) (zi 2 :: st) (I, R, al) Q := zg_110_127
theorem zh_110_128 : Zgo d 110 128 (L) (st) (I, R, al) Q ↔ Zgo d 110 132 (L) (st) (I, R, al) Q := zg_110_128
theorem zh_110_131 : Zgo d 110 131 (L) (st) (I, R, al) Q ↔ Zgo d 110 132 (L) (zi 0 :: st) (I, R, al) Q := zg_110_131
theorem zh_110_132 {o : Nat} {v : Int} : Zgo d 110 132 (L) (zi v :: zq (some (11, o)) :: st) (I, R, al) Q ↔ Zgo d 110 135 (L) (st) (zsI I 11 o 36 v, R, al) Q := zg_110_132
theorem zh_110_135 {x : Option (Nat × Nat)} : Zgo d 110 135 (some (zq x) :: L) (st) (I, R, al) Q ↔ Zgo d 110 136 (some (zq x) :: L) (zq x :: st) (I, R, al) Q := zg_110_135
theorem zh_110_136 {x : Option (Nat × Nat)} : Zgo d 110 136 (some (zq x) :: L) (st) (I, R, al) Q ↔ Zgo d 110 137 (some (zq x) :: L) (zq x :: st) (I, R, al) Q := zg_110_136
theorem zh_110_137 {o : Nat} : Zgo d 110 137 (L) (zq (some (11, o)) :: st) (I, R, al) Q ↔ Zgo d 110 140 (L) (zi (I 11 o 51) :: st) (I, R, al) Q := zg_110_137
theorem zh_110_140 {o : Nat} {v : Int} : Zgo d 110 140 (L) (zi v :: zq (some (11, o)) :: st) (I, R, al) Q ↔ Zgo d 110 143 (L) (st) (zsI I 11 o 39 v, R, al) Q := zg_110_140
theorem zh_110_143 {x : Option (Nat × Nat)} : Zgo d 110 143 (some (zq x) :: L) (st) (I, R, al) Q ↔ Zgo d 110 144 (some (zq x) :: L) (zq x :: st) (I, R, al) Q := zg_110_143
theorem zh_110_144 {x : Option (Nat × Nat)} : Zgo d 110 144 (some (zq x) :: L) (st) (I, R, al) Q ↔ Zgo d 110 145 (some (zq x) :: L) (zq x :: st) (I, R, al) Q := zg_110_144
theorem zh_110_145 {o : Nat} : Zgo d 110 145 (L) (zq (some (11, o)) :: st) (I, R, al) Q ↔ Zgo d 110 148 (L) (zi (I 11 o 52) :: st) (I, R, al) Q := zg_110_145
theorem zh_110_148 {o : Nat} {v : Int} : Zgo d 110 148 (L) (zi v :: zq (some (11, o)) :: st) (I, R, al) Q ↔ Zgo d 110 151 (L) (st) (zsI I 11 o 40 v, R, al) Q := zg_110_148
theorem zh_110_151 {x : Option (Nat × Nat)} : Zgo d 110 151 (some (zq x) :: L) (st) (I, R, al) Q ↔ Zgo d 110 152 (some (zq x) :: L) (zq x :: st) (I, R, al) Q := zg_110_151
theorem zh_110_152 {o : Nat} : Zgo d 110 152 (L) (zq (some (11, o)) :: st) (I, R, al) Q ↔ Zgo d 110 155 (L) (zi (I 11 o 36) :: st) (I, R, al) Q := zg_110_152
theorem zh_110_155 {x : Int} : Zgo d 110 155 (L) (zi x :: []) (I, R, al) Q ↔ Q (some (zi x)) (I, R, al) := zg_110_155
theorem zh_111_0 {x : Option (Nat × Nat)} : Zgo d 111 0 (some (zq x) :: L) (st) (I, R, al) Q ↔ Zgo d 111 1 (some (zq x) :: L) (zq x :: st) (I, R, al) Q := zg_111_0
theorem zh_111_1 {x : Int} : Zgo d 111 1 (a0 :: some (zi x) :: L) (st) (I, R, al) Q ↔ Zgo d 111 2 (a0 :: some (zi x) :: L) (zi x :: st) (I, R, al) Q := zg_111_1
theorem zh_111_2 {o : Nat} {v : Int} : Zgo d 111 2 (L) (zi v :: zq (some (11, o)) :: st) (I, R, al) Q ↔ Zgo d 111 5 (L) (st) (zsI I 11 o 50 v, R, al) Q := zg_111_2
theorem zh_111_5 {x : Option (Nat × Nat)} : Zgo d 111 5 (some (zq x) :: L) (st) (I, R, al) Q ↔ Zgo d 111 6 (some (zq x) :: L) (zq x :: st) (I, R, al) Q := zg_111_5
theorem zh_111_6 {x : Int} : Zgo d 111 6 (a0 :: a1 :: some (zi x) :: L) (st) (I, R, al) Q ↔ Zgo d 111 7 (a0 :: a1 :: some (zi x) :: L) (zi x :: st) (I, R, al) Q := zg_111_6
theorem zh_111_7 {o : Nat} {v : Int} : Zgo d 111 7 (L) (zi v :: zq (some (11, o)) :: st) (I, R, al) Q ↔ Zgo d 111 10 (L) (st) (zsI I 11 o 51 v, R, al) Q := zg_111_7
theorem zh_111_10 {x : Option (Nat × Nat)} : Zgo d 111 10 (some (zq x) :: L) (st) (I, R, al) Q ↔ Zgo d 111 11 (some (zq x) :: L) (zq x :: st) (I, R, al) Q := zg_111_10
theorem zh_111_11 {x : Int} : Zgo d 111 11 (a0 :: a1 :: a2 :: some (zi x) :: L) (st) (I, R, al) Q ↔ Zgo d 111 12 (a0 :: a1 :: a2 :: some (zi x) :: L) (zi x :: st) (I, R, al) Q := zg_111_11
theorem zh_111_12 {o : Nat} {v : Int} : Zgo d 111 12 (L) (zi v :: zq (some (11, o)) :: st) (I, R, al) Q ↔ Zgo d 111 15 (L) (st) (zsI I 11 o 52 v, R, al) Q := zg_111_12
theorem zh_111_15 : Zgo d 111 15 (L) ([]) (I, R, al) Q ↔ Q none (I, R, al) := zg_111_15
theorem zh_112_0 {x : Option (Nat × Nat)} : Zgo d 112 0 (some (zq x) :: L) (st) (I, R, al) Q ↔ Zgo d 112 1 (some (zq x) :: L) (zq x :: st) (I, R, al) Q := zg_112_0
theorem zh_112_1 : Zgo d 112 1 (L) (st) (I, R, al) Q ↔ Zgo d 112 2 (L) (zi 0 :: st) (I, R, al) Q := zg_112_1
theorem zh_112_2 {x : Option (Nat × Nat)} : Zgo d 112 2 (some (zq x) :: L) (st) (I, R, al) Q ↔ Zgo d 112 3 (some (zq x) :: L) (zq x :: st) (I, R, al) Q := zg_112_2
theorem zh_112_3 {o : Nat} : Zgo d 112 3 (L) (zq (some (11, o)) :: st) (I, R, al) Q ↔ Zgo d 112 6 (L) (zq (R 11 o 23) :: st) (I, R, al) Q := zg_112_3
theorem zh_112_6 {x : Int} : Zgo d 112 6 (a0 :: some (zi x) :: L) (st) (I, R, al) Q ↔ Zgo d 112 7 (a0 :: some (zi x) :: L) (zi x :: st) (I, R, al) Q := zg_112_6
theorem zh_112_7 {j : Int} {c o : Nat} : Zgo d 112 7 (L) (zi j :: zq (some (c, o)) :: st) (I, R, al) Q ↔ zal (zlen (I, R, al) c) 0 j (fun x => Zgo d 112 8 (L) (zi (I c o x) :: st) (I, R, al) Q) := zg_112_7
theorem zh_112_8 {v1 v2 : zV} {o : Nat} : Zgo d 112 8 (L) (v2 :: v1 :: zq (some (11, o)) :: st) (I, R, al) Q ↔ if zwt st ≤ 8 then zCp d 113 [zq (some (11, o)), v1, v2] (I, R, al) (fun r S2 => Zgo d 112 11 L (r.toList ++ st) S2 Q) else False := zg_112_8
theorem zh_112_11 : Zgo d 112 11 (L) ([]) (I, R, al) Q ↔ Q none (I, R, al) := zg_112_11
theorem zh_113_0 {x : Option (Nat × Nat)} : Zgo d 113 0 (some (zq x) :: L) (st) (I, R, al) Q ↔ Zgo d 113 1 (some (zq x) :: L) (zq x :: st) (I, R, al) Q := zg_113_0
theorem zh_113_1 {o : Nat} : Zgo d 113 1 (L) (zq (some (11, o)) :: st) (I, R, al) Q ↔ Zgo d 113 4 (L) (zq (R 11 o 42) :: st) (I, R, al) Q := zg_113_1
theorem zh_113_4 {x : Option (Nat × Nat)} : Zgo d 113 4 (some (zq x) :: L) (st) (I, R, al) Q ↔ Zgo d 113 5 (some (zq x) :: L) (zq x :: st) (I, R, al) Q := zg_113_4
theorem zh_113_5 {o : Nat} : Zgo d 113 5 (L) (zq (some (11, o)) :: st) (I, R, al) Q ↔ Zgo d 113 8 (L) (zi (I 11 o 41) :: st) (I, R, al) Q := zg_113_5
theorem zh_113_8 {x : Int} : Zgo d 113 8 (a0 :: some (zi x) :: L) (st) (I, R, al) Q ↔ Zgo d 113 9 (a0 :: some (zi x) :: L) (zi x :: st) (I, R, al) Q := zg_113_8
theorem zh_113_9 {v j : Int} {c o : Nat} : Zgo d 113 9 (L) (zi v :: zi j :: zq (some (c, o)) :: st) (I, R, al) Q ↔ zal (zArr c) 0 j (fun x => Zgo d 113 10 (L) (st) (zsI I c o x v, R, al) Q) := zg_113_9
theorem zh_113_10 {x : Option (Nat × Nat)} : Zgo d 113 10 (some (zq x) :: L) (st) (I, R, al) Q ↔ Zgo d 113 11 (some (zq x) :: L) (zq x :: st) (I, R, al) Q := zg_113_10
theorem zh_113_11 {o : Nat} : Zgo d 113 11 (L) (zq (some (11, o)) :: st) (I, R, al) Q ↔ Zgo d 113 14 (L) (zq (R 11 o 43) :: st) (I, R, al) Q := zg_113_11
theorem zh_113_14 {x : Option (Nat × Nat)} : Zgo d 113 14 (some (zq x) :: L) (st) (I, R, al) Q ↔ Zgo d 113 15 (some (zq x) :: L) (zq x :: st) (I, R, al) Q := zg_113_14
theorem zh_113_15 {o : Nat} : Zgo d 113 15 (L) (zq (some (11, o)) :: st) (I, R, al) Q ↔ Zgo d 113 18 (L) (zi (I 11 o 41) :: st) (I, R, al) Q := zg_113_15
theorem zh_113_18 {x : Int} : Zgo d 113 18 (a0 :: a1 :: some (zi x) :: L) (st) (I, R, al) Q ↔ Zgo d 113 19 (a0 :: a1 :: some (zi x) :: L) (zi x :: st) (I, R, al) Q := zg_113_18
theorem zh_113_19 {v j : Int} {c o : Nat} : Zgo d 113 19 (L) (zi v :: zi j :: zq (some (c, o)) :: st) (I, R, al) Q ↔ zal (zArr c) 0 j (fun x => Zgo d 113 20 (L) (st) (zsI I c o x v, R, al) Q) := zg_113_19
theorem zh_113_20 {x : Option (Nat × Nat)} : Zgo d 113 20 (some (zq x) :: L) (st) (I, R, al) Q ↔ Zgo d 113 21 (some (zq x) :: L) (zq x :: st) (I, R, al) Q := zg_113_20
theorem zh_113_21 {o : Nat} : Zgo d 113 21 (L) (zq (some (11, o)) :: st) (I, R, al) Q ↔ Zgo d 113 24 (L) (zq (R 11 o 44) :: st) (I, R, al) Q := zg_113_21
theorem zh_113_24 {x : Option (Nat × Nat)} : Zgo d 113 24 (some (zq x) :: L) (st) (I, R, al) Q ↔ Zgo d 113 25 (some (zq x) :: L) (zq x :: st) (I, R, al) Q := zg_113_24
theorem zh_113_25 {o : Nat} : Zgo d 113 25 (L) (zq (some (11, o)) :: st) (I, R, al) Q ↔ Zgo d 113 28 (L) (zi (I 11 o 41) :: st) (I, R, al) Q := zg_113_25
theorem zh_113_28 : Zgo d 113 28 (L) (st) (I, R, al) Q ↔ Zgo d 113 29 (L) (zi 0 :: st) (I, R, al) Q := zg_113_28
theorem zh_113_29 {v j : Int} {c o : Nat} : Zgo d 113 29 (L) (zi v :: zi j :: zq (some (c, o)) :: st) (I, R, al) Q ↔ zal (zArr c) 0 j (fun x => Zgo d 113 30 (L) (st) (zsI I c o x v, R, al) Q) := zg_113_29
theorem zh_113_30 {x : Option (Nat × Nat)} : Zgo d 113 30 (some (zq x) :: L) (st) (I, R, al) Q ↔ Zgo d 113 31 (some (zq x) :: L) (zq x :: st) (I, R, al) Q := zg_113_30
theorem zh_113_31 {x : Int} : Zgo d 113 31 (L) (zi x :: st) (I, R, al) Q ↔ Zgo d 113 32 (L) (zi x :: zi x :: st) (I, R, al) Q := zg_113_31
theorem zh_113_31q {u : Option (Nat × Nat)} : Zgo d 113 31 (L) (zq u :: st) (I, R, al) Q ↔ Zgo d 113 32 (L) (zq u :: zq u :: st) (I, R, al) Q := zg_113_31
theorem zh_113_32 {o : Nat} : Zgo d 113 32 (L) (zq (some (11, o)) :: st) (I, R, al) Q ↔ Zgo d 113 35 (L) (zi (I 11 o 41) :: st) (I, R, al) Q := zg_113_32
theorem zh_113_35 : Zgo d 113 35 (L) (st) (I, R, al) Q ↔ Zgo d 113 36 (L) (zi 1 :: st) (I, R, al) Q := zg_113_35
theorem zh_113_36 {x y : Int} : Zgo d 113 36 (L) (zi y :: zi x :: st) (I, R, al) Q ↔ Zgo d 113 37 (L) (zi (x + y) :: st) (I, R, al) Q := zg_113_36
theorem zh_113_37 {o : Nat} {v : Int} : Zgo d 113 37 (L) (zi v :: zq (some (11, o)) :: st) (I, R, al) Q ↔ Zgo d 113 40 (L) (st) (zsI I 11 o 41 v, R, al) Q := zg_113_37
theorem zh_113_40 : Zgo d 113 40 (L) ([]) (I, R, al) Q ↔ Q none (I, R, al) := zg_113_40
theorem zh_114_0 {x : Option (Nat × Nat)} : Zgo d 114 0 (some (zq x) :: L) (st) (I, R, al) Q ↔ Zgo d 114 1 (some (zq x) :: L) (zq x :: st) (I, R, al) Q := zg_114_0
theorem zh_114_1 {o : Nat} : Zgo d 114 1 (L) (zq (some (11, o)) :: st) (I, R, al) Q ↔ Zgo d 114 4 (L) (zi (I 11 o 41) :: st) (I, R, al) Q := zg_114_1
theorem zh_114_4 : Zgo d 114 4 (L) (st) (I, R, al) Q ↔ Zgo d 114 5 (L) (zi 1 :: st) (I, R, al) Q := zg_114_4
theorem zh_114_5 {x y : Int} : Zgo d 114 5 (L) (zi y :: zi x :: st) (I, R, al) Q ↔ Zgo d 114 6 (L) (zi (x - y) :: st) (I, R, al) Q := zg_114_5
theorem zh_114_6 {x : Int} : Zgo d 114 6 (a0 :: a1 :: b0 :: L) (zi x :: st) (I, R, al) Q ↔ Zgo d 114 7 (a0 :: zkl a1 :: some (zi x) :: L) (st) (I, R, al) Q := zg_114_6
theorem zh_114_7 {x : Option (Nat × Nat)} : Zgo d 114 7 (some (zq x) :: L) (st) (I, R, al) Q ↔ Zgo d 114 8 (some (zq x) :: L) (zq x :: st) (I, R, al) Q := zg_114_7
theorem zh_114_8 {o : Nat} : Zgo d 114 8 (L) (zq (some (11, o)) :: st) (I, R, al) Q ↔ Zgo d 114 11 (L) (zq (R 11 o 43) :: st) (I, R, al) Q := zg_114_8
theorem zh_114_11 {x : Int} : Zgo d 114 11 (a0 :: a1 :: some (zi x) :: L) (st) (I, R, al) Q ↔ Zgo d 114 12 (a0 :: a1 :: some (zi x) :: L) (zi x :: st) (I, R, al) Q := zg_114_11
theorem zh_114_12 {j : Int} {c o : Nat} : Zgo d 114 12 (L) (zi j :: zq (some (c, o)) :: st) (I, R, al) Q ↔ zal (zlen (I, R, al) c) 0 j (fun x => Zgo d 114 13 (L) (zi (I c o x) :: st) (I, R, al) Q) := zg_114_12
theorem zh_114_13 {x : Int} : Zgo d 114 13 (a0 :: a1 :: a2 :: b0 :: L) (zi x :: st) (I, R, al) Q ↔ Zgo d 114 14 (a0 :: a1 :: zkl a2 :: some (zi x) :: L) (st) (I, R, al) Q := zg_114_13
theorem zh_114_14 {x : Option (Nat × Nat)} : Zgo d 114 14 (some (zq x) :: L) (st) (I, R, al) Q ↔ Zgo d 114 15 (some (zq x) :: L) (zq x :: st) (I, R, al) Q := zg_114_14
theorem zh_114_15 {o : Nat} : Zgo d 114 15 (L) (zq (some (11, o)) :: st) (I, R, al) Q ↔ Zgo d 114 18 (L) (zq (R 11 o 42) :: st) (I, R, al) Q := zg_114_15
theorem zh_114_18 {x : Int} : Zgo d 114 18 (a0 :: a1 :: some (zi x) :: L) (st) (I, R, al) Q ↔ Zgo d 114 19 (a0 :: a1 :: some (zi x) :: L) (zi x :: st) (I, R, al) Q := zg_114_18
theorem zh_114_19 {j : Int} {c o : Nat} : Zgo d 114 19 (L) (zi j :: zq (some (c, o)) :: st) (I, R, al) Q ↔ zal (zlen (I, R, al) c) 0 j (fun x => Zgo d 114 20 (L) (zi (I c o x) :: st) (I, R, al) Q) := zg_114_19
theorem zh_114_20 {x : Int} : Zgo d 114 20 (L) (zi x :: st) (I, R, al) Q ↔ if zw x = zw 0 then Zgo d 114 23 (L) (st) (I, R, al) Q else Zgo d 114 69 (L) (st) (I, R, al) Q := zg_114_20
theorem zh_114_23 {x : Int} : Zgo d 114 23 (a0 :: a1 :: a2 :: some (zi x) :: L) (st) (I, R, al) Q ↔ Zgo d 114 24 (a0 :: a1 :: a2 :: some (zi x) :: L) (zi x :: st) (I, R, al) Q := zg_114_23
theorem zh_114_24 {x : Int} : Zgo d 114 24 (L) (zi x :: st) (I, R, al) Q ↔ if zw x < zw 0 then Zgo d 114 27 (L) (st) (I, R, al) Q else Zgo d 114 39 (L) (st) (I, R, al) Q := zg_114_24
theorem zh_114_27 {x : Option (Nat × Nat)} : Zgo d 114 27 (some (zq x) :: L) (st) (I, R, al) Q ↔ Zgo d 114 28 (some (zq x) :: L) (zq x :: st) (I, R, al) Q := zg_114_27
theorem zh_114_28 {x : Int} : Zgo d 114 28 (L) (zi x :: st) (I, R, al) Q ↔ Zgo d 114 29 (L) (zi x :: zi x :: st) (I, R, al) Q := zg_114_28
theorem zh_114_28q {u : Option (Nat × Nat)} : Zgo d 114 28 (L) (zq u :: st) (I, R, al) Q ↔ Zgo d 114 29 (L) (zq u :: zq u :: st) (I, R, al) Q := zg_114_28
theorem zh_114_29 {o : Nat} : Zgo d 114 29 (L) (zq (some (11, o)) :: st) (I, R, al) Q ↔ Zgo d 114 32 (L) (zi (I 11 o 41) :: st) (I, R, al) Q := zg_114_29
theorem zh_114_32 : Zgo d 114 32 (L) (st) (I, R, al) Q ↔ Zgo d 114 33 (L) (zi 1 :: st) (I, R, al) Q := zg_114_32
theorem zh_114_33 {x y : Int} : Zgo d 114 33 (L) (zi y :: zi x :: st) (I, R, al) Q ↔ Zgo d 114 34 (L) (zi (x - y) :: st) (I, R, al) Q := zg_114_33
theorem zh_114_34 {o : Nat} {v : Int} : Zgo d 114 34 (L) (zi v :: zq (some (11, o)) :: st) (I, R, al) Q ↔ Zgo d 114 37 (L) (st) (zsI I 11 o 41 v, R, al) Q := zg_114_34
theorem zh_114_37 : Zgo d 114 37 (L) (st) (I, R, al) Q ↔ Zgo d 114 38 (L) (zi 1 :: st) (I, R, al) Q := zg_114_37
theorem zh_114_38 {x : Int} : Zgo d 114 38 (L) (zi x :: []) (I, R, al) Q ↔ zok 1 x False (Q (some (zi x)) (I, R, al)) := zg_114_38
theorem zh_114_39 {x : Option (Nat × Nat)} : Zgo d 114 39 (some (zq x) :: L) (st) (I, R, al) Q ↔ Zgo d 114 40 (some (zq x) :: L) (zq x :: st) (I, R, al) Q := zg_114_39
theorem zh_114_40 {x : Int} : Zgo d 114 40 (a0 :: some (zi x) :: L) (st) (I, R, al) Q ↔ Zgo d 114 41 (a0 :: some (zi x) :: L) (zi x :: st) (I, R, al) Q := zg_114_40
theorem zh_114_41 {v1 : zV} {o : Nat} : Zgo d 114 41 (L) (v1 :: zq (some (11, o)) :: st) (I, R, al) Q ↔ if zwt st ≤ 8 then zCp d 115 [zq (some (11, o)), v1] (I, R, al) (fun r S2 => Zgo d 114 44 L (r.toList ++ st) S2 Q) else False := zg_114_41
theorem zh_114_44 {x : Int} : Zgo d 114 44 (L) (zi x :: st) (I, R, al) Q ↔ if zw x = zw 0 then Zgo d 114 47 (L) (st) (I, R, al) Q else Zgo d 114 49 (L) (st) (I, R, al) Q := zg_114_44
theorem zh_114_47 : Zgo d 114 47 (L) (st) (I, R, al) Q ↔ Zgo d 114 48 (L) (zi 0 :: st) (I, R, al) Q := zg_114_47
theorem zh_114_48 {x : Int} : Zgo d 114 48 (L) (zi x :: []) (I, R, al) Q ↔ zok 1 x False (Q (some (zi x)) (I, R, al)) := zg_114_48
theorem zh_114_49 {x : Option (Nat × Nat)} : Zgo d 114 49 (some (zq x) :: L) (st) (I, R, al) Q ↔ Zgo d 114 50 (some (zq x) :: L) (zq x :: st) (I, R, al) Q := zg_114_49
theorem zh_114_50 {o : Nat} : Zgo d 114 50 (L) (zq (some (11, o)) :: st) (I, R, al) Q ↔ Zgo d 114 53 (L) (zq (R 11 o 43) :: st) (I, R, al) Q := zg_114_50
theorem zh_114_53 {x : Int} : Zgo d 114 53 (a0 :: a1 :: some (zi x) :: L) (st) (I, R, al) Q ↔ Zgo d 114 54 (a0 :: a1 :: some (zi x) :: L) (zi x :: st) (I, R, al) Q := zg_114_53
theorem zh_114_54 {x : Option (Nat × Nat)} : Zgo d 114 54 (some (zq x) :: L) (st) (I, R, al) Q ↔ Zgo d 114 55 (some (zq x) :: L) (zq x :: st) (I, R, al) Q := zg_114_54
theorem zh_114_55 {o : Nat} : Zgo d 114 55 (L) (zq (some (11, o)) :: st) (I, R, al) Q ↔ Zgo d 114 58 (L) (zq (R 11 o 20) :: st) (I, R, al) Q := zg_114_55
theorem zh_114_58 {x : Int} : Zgo d 114 58 (a0 :: a1 :: a2 :: some (zi x) :: L) (st) (I, R, al) Q ↔ Zgo d 114 59 (a0 :: a1 :: a2 :: some (zi x) :: L) (zi x :: st) (I, R, al) Q := zg_114_58
theorem zh_114_59 {j : Int} {c o : Nat} : Zgo d 114 59 (L) (zi j :: zq (some (c, o)) :: st) (I, R, al) Q ↔ zal (zlen (I, R, al) c) 0 j (fun x => Zgo d 114 60 (L) (zi (I c o x) :: st) (I, R, al) Q) := zg_114_59
theorem zh_114_60 {v j : Int} {c o : Nat} : Zgo d 114 60 (L) (zi v :: zi j :: zq (some (c, o)) :: st) (I, R, al) Q ↔ zal (zArr c) 0 j (fun x => Zgo d 114 61 (L) (st) (zsI I c o x v, R, al) Q) := zg_114_60
theorem zh_114_61 {x : Option (Nat × Nat)} : Zgo d 114 61 (some (zq x) :: L) (st) (I, R, al) Q ↔ Zgo d 114 62 (some (zq x) :: L) (zq x :: st) (I, R, al) Q := zg_114_61
theorem zh_114_62 {x : Int} : Zgo d 114 62 (a0 :: a1 :: a2 :: some (zi x) :: L) (st) (I, R, al) Q ↔ Zgo d 114 63 (a0 :: a1 :: a2 :: some (zi x) :: L) (zi x :: st) (I, R, al) Q := zg_114_62
theorem zh_114_63 {v1 : zV} {o : Nat} : Zgo d 114 63 (L) (v1 :: zq (some (11, o)) :: st) (I, R, al) Q ↔ if zwt st ≤ 8 then zCp d 116 [zq (some (11, o)), v1] (I, R, al) (fun r S2 => Zgo d 114 66 L (r.toList ++ st) S2 Q) else False := zg_114_63
theorem zh_114_66 : Zgo d 114 66 (L) (st) (I, R, al) Q ↔ Zgo d 114 220 (L) (st) (I, R, al) Q := zg_114_66
theorem zh_114_69 {x : Option (Nat × Nat)} : Zgo d 114 69 (some (zq x) :: L) (st) (I, R, al) Q ↔ Zgo d 114 70 (some (zq x) :: L) (zq x :: st) (I, R, al) Q := zg_114_69
theorem zh_114_70 {o : Nat} : Zgo d 114 70 (L) (zq (some (11, o)) :: st) (I, R, al) Q ↔ Zgo d 114 73 (L) (zq (R 11 o 42) :: st) (I, R, al) Q := zg_114_70
theorem zh_114_73 {x : Int} : Zgo d 114 73 (a0 :: a1 :: some (zi x) :: L) (st) (I, R, al) Q ↔ Zgo d 114 74 (a0 :: a1 :: some (zi x) :: L) (zi x :: st) (I, R, al) Q := zg_114_73
theorem zh_114_74 {j : Int} {c o : Nat} : Zgo d 114 74 (L) (zi j :: zq (some (c, o)) :: st) (I, R, al) Q ↔ zal (zlen (I, R, al) c) 0 j (fun x => Zgo d 114 75 (L) (zi (I c o x) :: st) (I, R, al) Q) := zg_114_74
theorem zh_114_75 : Zgo d 114 75 (L) (st) (I, R, al) Q ↔ Zgo d 114 76 (L) (zi 1 :: st) (I, R, al) Q := zg_114_75
theorem zh_114_76 {x y : Int} : Zgo d 114 76 (L) (zi y :: zi x :: st) (I, R, al) Q ↔ if zw x = zw y then Zgo d 114 79 (L) (st) (I, R, al) Q else Zgo d 114 137 (L) (st) (I, R, al) Q := zg_114_76
theorem zh_114_79 {x : Option (Nat × Nat)} : Zgo d 114 79 (some (zq x) :: L) (st) (I, R, al) Q ↔ Zgo d 114 80 (some (zq x) :: L) (zq x :: st) (I, R, al) Q := zg_114_79
theorem zh_114_80 {x : Int} : Zgo d 114 80 (a0 :: some (zi x) :: L) (st) (I, R, al) Q ↔ Zgo d 114 81 (a0 :: some (zi x) :: L) (zi x :: st) (I, R, al) Q := zg_114_80
theorem zh_114_81 {v1 : zV} {o : Nat} : Zgo d 114 81 (L) (v1 :: zq (some (11, o)) :: st) (I, R, al) Q ↔ if zwt st ≤ 8 then zCp d 115 [zq (some (11, o)), v1] (I, R, al) (fun r S2 => Zgo d 114 84 L (r.toList ++ st) S2 Q) else False := zg_114_81
theorem zh_114_84 {x : Int} : Zgo d 114 84 (L) (zi x :: st) (I, R, al) Q ↔ if zw x = zw 0 then Zgo d 114 87 (L) (st) (I, R, al) Q else Zgo d 114 89 (L) (st) (I, R, al) Q := zg_114_84
theorem zh_114_87 : Zgo d 114 87 (L) (st) (I, R, al) Q ↔ Zgo d 114 88 (L) (zi 0 :: st) (I, R, al) Q := zg_114_87
theorem zh_114_88 {x : Int} : Zgo d 114 88 (L) (zi x :: []) (I, R, al) Q ↔ zok 1 x False (Q (some (zi x)) (I, R, al)) := zg_114_88
theorem zh_114_89 {x : Option (Nat × Nat)} : Zgo d 114 89 (some (zq x) :: L) (st) (I, R, al) Q ↔ Zgo d 114 90 (some (zq x) :: L) (zq x :: st) (I, R, al) Q := zg_114_89
theorem zh_114_90 {x : Int} : Zgo d 114 90 (a0 :: a1 :: a2 :: some (zi x) :: L) (st) (I, R, al) Q ↔ Zgo d 114 91 (a0 :: a1 :: a2 :: some (zi x) :: L) (zi x :: st) (I, R, al) Q := zg_114_90
theorem zh_114_91 {v1 : zV} {o : Nat} : Zgo d 114 91 (L) (v1 :: zq (some (11, o)) :: st) (I, R, al) Q ↔ if zwt st ≤ 8 then zCp d 117 [zq (some (11, o)), v1] (I, R, al) (fun r S2 => Zgo d 114 94 L (r.toList ++ st) S2 Q) else False := zg_114_91
theorem zh_114_94 {x : Int} : Zgo d 114 94 (a0 :: a1 :: a2 :: a3 :: b0 :: L) (zi x :: st) (I, R, al) Q ↔ Zgo d 114 96 (a0 :: a1 :: a2 :: zkl a3 :: some (zi x) :: L) (st) (I, R, al) Q := zg_114_94
theorem zh_114_96 {x : Option (Nat × Nat)} : Zgo d 114 96 (some (zq x) :: L) (st) (I, R, al) Q ↔ Zgo d 114 97 (some (zq x) :: L) (zq x :: st) (I, R, al) Q := zg_114_96
theorem zh_114_97 {o : Nat} : Zgo d 114 97 (L) (zq (some (11, o)) :: st) (I, R, al) Q ↔ Zgo d 114 100 (L) (zi (I 11 o 50) :: st) (I, R, al) Q := zg_114_97
theorem zh_114_100 {x : Int} : Zgo d 114 100 (L) (zi x :: st) (I, R, al) Q ↔ if zw x = zw 0 then Zgo d 114 103 (L) (st) (I, R, al) Q else Zgo d 114 108 (L) (st) (I, R, al) Q := zg_114_100
theorem zh_114_103 {x : Int} : Zgo d 114 103 (a0 :: a1 :: a2 :: a3 :: some (zi x) :: L) (st) (I, R, al) Q ↔ Zgo d 114 105 (a0 :: a1 :: a2 :: a3 :: some (zi x) :: L) (zi x :: st) (I, R, al) Q := zg_114_103
theorem zh_114_105 {x : Int} : Zgo d 114 105 (L) (zi x :: st) (I, R, al) Q ↔ if zw x = zw 0 then Zgo d 114 108 (L) (st) (I, R, al) Q else Zgo d 114 121 (L) (st) (I, R, al) Q := zg_114_105
theorem zh_114_108 {x : Option (Nat × Nat)} : Zgo d 114 108 (some (zq x) :: L) (st) (I, R, al) Q ↔ Zgo d 114 109 (some (zq x) :: L) (zq x :: st) (I, R, al) Q := zg_114_108
theorem zh_114_109 {x : Int} : Zgo d 114 109 (L) (zi x :: st) (I, R, al) Q ↔ Zgo d 114 110 (L) (zi x :: zi x :: st) (I, R, al) Q := zg_114_109
theorem zh_114_109q {u : Option (Nat × Nat)} : Zgo d 114 109 (L) (zq u :: st) (I, R, al) Q ↔ Zgo d 114 110 (L) (zq u :: zq u :: st) (I, R, al) Q := zg_114_109
theorem zh_114_110 {o : Nat} : Zgo d 114 110 (L) (zq (some (11, o)) :: st) (I, R, al) Q ↔ Zgo d 114 113 (L) (zi (I 11 o 41) :: st) (I, R, al) Q := zg_114_110
theorem zh_114_113 : Zgo d 114 113 (L) (st) (I, R, al) Q ↔ Zgo d 114 114 (L) (zi 1 :: st) (I, R, al) Q := zg_114_113
theorem zh_114_114 {x y : Int} : Zgo d 114 114 (L) (zi y :: zi x :: st) (I, R, al) Q ↔ Zgo d 114 115 (L) (zi (x - y) :: st) (I, R, al) Q := zg_114_114
theorem zh_114_115 {o : Nat} {v : Int} : Zgo d 114 115 (L) (zi v :: zq (some (11, o)) :: st) (I, R, al) Q ↔ Zgo d 114 118 (L) (st) (zsI I 11 o 41 v, R, al) Q := zg_114_115
theorem zh_114_118 : Zgo d 114 118 (L) (st) (I, R, al) Q ↔ Zgo d 114 134 (L) (st) (I, R, al) Q := zg_114_118
theorem zh_114_121 {x : Option (Nat × Nat)} : Zgo d 114 121 (some (zq x) :: L) (st) (I, R, al) Q ↔ Zgo d 114 122 (some (zq x) :: L) (zq x :: st) (I, R, al) Q := zg_114_121
theorem zh_114_122 {x : Option (Nat × Nat)} : Zgo d 114 122 (some (zq x) :: L) (st) (I, R, al) Q ↔ Zgo d 114 123 (some (zq x) :: L) (zq x :: st) (I, R, al) Q := zg_114_122
theorem zh_114_123 {o : Nat} : Zgo d 114 123 (L) (zq (some (11, o)) :: st) (I, R, al) Q ↔ Zgo d 114 126 (L) (zq (R 11 o 15) :: st) (I, R, al) Q := zg_114_123
theorem zh_114_126 : Zgo d 114 126 (L) (st) (I, R, al) Q ↔ Zgo d 114 128 (L) (zi 6 :: st) (I, R, al) Q := zg_114_126
theorem zh_114_128 {x : Int} : Zgo d 114 128 (a0 :: a1 :: a2 :: some (zi x) :: L) (st) (I, R, al) Q ↔ Zgo d 114 129 (a0 :: a1 :: a2 :: some (zi x) :: L) (zi x :: st) (I, R, al) Q := zg_114_128
theorem zh_114_129 {x y : Int} : Zgo d 114 129 (L) (zi y :: zi x :: st) (I, R, al) Q ↔ Zgo d 114 130 (L) (zi (x * y) :: st) (I, R, al) Q := zg_114_129
theorem zh_114_130 {j : Int} {c o : Nat} : Zgo d 114 130 (L) (zi j :: zq (some (c, o)) :: st) (I, R, al) Q ↔ zal (zlen (I, R, al) c) 0 j (fun x => Zgo d 114 131 (L) (zi (I c o x) :: st) (I, R, al) Q) := zg_114_130
theorem zh_114_131 {v1 : zV} {o : Nat} : Zgo d 114 131 (L) (v1 :: zq (some (11, o)) :: st) (I, R, al) Q ↔ if zwt st ≤ 8 then zCp d 112 [zq (some (11, o)), v1] (I, R, al) (fun r S2 => Zgo d 114 134 L (r.toList ++ st) S2 Q) else False := zg_114_131
theorem zh_114_134 : Zgo d 114 134 (L) (st) (I, R, al) Q ↔ Zgo d 114 220 (L) (st) (I, R, al) Q := zg_114_134
theorem zh_114_137 {x : Option (Nat × Nat)} : Zgo d 114 137 (some (zq x) :: L) (st) (I, R, al) Q ↔ Zgo d 114 138 (some (zq x) :: L) (zq x :: st) (I, R, al) Q := zg_114_137
theorem zh_114_138 {o : Nat} : Zgo d 114 138 (L) (zq (some (11, o)) :: st) (I, R, al) Q ↔ Zgo d 114 141 (L) (zq (R 11 o 42) :: st) (I, R, al) Q := zg_114_138
theorem zh_114_141 {x : Int} : Zgo d 114 141 (a0 :: a1 :: some (zi x) :: L) (st) (I, R, al) Q ↔ Zgo d 114 142 (a0 :: a1 :: some (zi x) :: L) (zi x :: st) (I, R, al) Q := zg_114_141
theorem zh_114_142 {j : Int} {c o : Nat} : Zgo d 114 142 (L) (zi j :: zq (some (c, o)) :: st) (I, R, al) Q ↔ zal (zlen (I, R, al) c) 0 j (fun x => Zgo d 114 143 (L) (zi (I c o x) :: st) (I, R, al) Q) := zg_114_142
theorem zh_114_143 : Zgo d 114 143 (L) (st) (I, R, al) Q ↔ Zgo d 114 144 (L) (zi 2 :: st) (I, R, al) Q := zg_114_143
theorem zh_114_144 {x y : Int} : Zgo d 114 144 (L) (zi y :: zi x :: st) (I, R, al) Q ↔ if zw x = zw y then Zgo d 114 147 (L) (st) (I, R, al) Q else Zgo d 114 170 (L) (st) (I, R, al) Q := zg_114_144
theorem zh_114_147 {x : Option (Nat × Nat)} : Zgo d 114 147 (some (zq x) :: L) (st) (I, R, al) Q ↔ Zgo d 114 148 (some (zq x) :: L) (zq x :: st) (I, R, al) Q := zg_114_147
theorem zh_114_148 {x : Int} : Zgo d 114 148 (L) (zi x :: st) (I, R, al) Q ↔ Zgo d 114 149 (L) (zi x :: zi x :: st) (I, R, al) Q := zg_114_148
theorem zh_114_148q {u : Option (Nat × Nat)} : Zgo d 114 148 (L) (zq u :: st) (I, R, al) Q ↔ Zgo d 114 149 (L) (zq u :: zq u :: st) (I, R, al) Q := zg_114_148
theorem zh_114_149 {o : Nat} : Zgo d 114 149 (L) (zq (some (11, o)) :: st) (I, R, al) Q ↔ Zgo d 114 152 (L) (zi (I 11 o 53) :: st) (I, R, al) Q := zg_114_149
theorem zh_114_152 : Zgo d 114 152 (L) (st) (I, R, al) Q ↔ Zgo d 114 153 (L) (zi 1 :: st) (I, R, al) Q := zg_114_152
theorem zh_114_153 {x y : Int} : Zgo d 114 153 (L) (zi y :: zi x :: st) (I, R, al) Q ↔ Zgo d 114 154 (L) (zi (x - y) :: st) (I, R, al) Q := zg_114_153
theorem zh_114_154 {o : Nat} {v : Int} : Zgo d 114 154 (L) (zi v :: zq (some (11, o)) :: st) (I, R, al) Q ↔ Zgo d 114 157 (L) (st) (zsI I 11 o 53 v, R, al) Q := zg_114_154
theorem zh_114_157 {x : Option (Nat × Nat)} : Zgo d 114 157 (some (zq x) :: L) (st) (I, R, al) Q ↔ Zgo d 114 158 (some (zq x) :: L) (zq x :: st) (I, R, al) Q := zg_114_157
theorem zh_114_158 {x : Int} : Zgo d 114 158 (L) (zi x :: st) (I, R, al) Q ↔ Zgo d 114 159 (L) (zi x :: zi x :: st) (I, R, al) Q := zg_114_158
theorem zh_114_158q {u : Option (Nat × Nat)} : Zgo d 114 158 (L) (zq u :: st) (I, R, al) Q ↔ Zgo d 114 159 (L) (zq u :: zq u :: st) (I, R, al) Q := zg_114_158
theorem zh_114_159 {o : Nat} : Zgo d 114 159 (L) (zq (some (11, o)) :: st) (I, R, al) Q ↔ Zgo d 114 162 (L) (zi (I 11 o 41) :: st) (I, R, al) Q := zg_114_159
theorem zh_114_162 : Zgo d 114 162 (L) (st) (I, R, al) Q ↔ Zgo d 114 163 (L) (zi 1 :: st) (I, R, al) Q := zg_114_162
theorem zh_114_163 {x y : Int} : Zgo d 114 163 (L) (zi y :: zi x :: st) (I, R, al) Q ↔ Zgo d 114 164 (L) (zi (x - y) :: st) (I, R, al) Q := zg_114_163
theorem zh_114_164 {o : Nat} {v : Int} : Zgo d 114 164 (L) (zi v :: zq (some (11, o)) :: st) (I, R, al) Q ↔ Zgo d 114 167 (L) (st) (zsI I 11 o 41 v, R, al) Q := zg_114_164
theorem zh_114_167 : Zgo d 114 167 (L) (st) (I, R, al) Q ↔ Zgo d 114 220 (L) (st) (I, R, al) Q := zg_114_167
theorem zh_114_170 {x : Option (Nat × Nat)} : Zgo d 114 170 (some (zq x) :: L) (st) (I, R, al) Q ↔ Zgo d 114 171 (some (zq x) :: L) (zq x :: st) (I, R, al) Q := zg_114_170
theorem zh_114_171 {o : Nat} : Zgo d 114 171 (L) (zq (some (11, o)) :: st) (I, R, al) Q ↔ Zgo d 114 174 (L) (zq (R 11 o 44) :: st) (I, R, al) Q := zg_114_171
theorem zh_114_174 {x : Int} : Zgo d 114 174 (a0 :: a1 :: some (zi x) :: L) (st) (I, R, al) Q ↔ Zgo d 114 175 (a0 :: a1 :: some (zi x) :: L) (zi x :: st) (I, R, al) Q := zg_114_174
theorem zh_114_175 {j : Int} {c o : Nat} : Zgo d 114 175 (L) (zi j :: zq (some (c, o)) :: st) (I, R, al) Q ↔ zal (zlen (I, R, al) c) 0 j (fun x => Zgo d 114 176 (L) (zi (I c o x) :: st) (I, R, al) Q) := zg_114_175
theorem zh_114_176 : Zgo d 114 176 (L) (st) (I, R, al) Q ↔ Zgo d 114 177 (L) (zi 2 :: st) (I, R, al) Q := zg_114_176
theorem zh_114_177 {x y : Int} : Zgo d 114 177 (L) (zi y :: zi x :: st) (I, R, al) Q ↔ if zw x < zw y then Zgo d 114 180 (L) (st) (I, R, al) Q else Zgo d 114 188 (L) (st) (I, R, al) Q := zg_114_177
theorem zh_114_180 {x : Option (Nat × Nat)} : Zgo d 114 180 (some (zq x) :: L) (st) (I, R, al) Q ↔ Zgo d 114 181 (some (zq x) :: L) (zq x :: st) (I, R, al) Q := zg_114_180
theorem zh_114_181 {x : Int} : Zgo d 114 181 (a0 :: a1 :: some (zi x) :: L) (st) (I, R, al) Q ↔ Zgo d 114 182 (a0 :: a1 :: some (zi x) :: L) (zi x :: st) (I, R, al) Q := zg_114_181
theorem zh_114_182 {v1 : zV} {o : Nat} : Zgo d 114 182 (L) (v1 :: zq (some (11, o)) :: st) (I, R, al) Q ↔ if zwt st ≤ 8 then zCp d 120 [zq (some (11, o)), v1] (I, R, al) (fun r S2 => Zgo d 114 185 L (r.toList ++ st) S2 Q) else False := zg_114_182
theorem zh_114_185 : Zgo d 114 185 (L) (st) (I, R, al) Q ↔ Zgo d 114 220 (L) (st) (I, R, al) Q := zg_114_185
theorem zh_114_188 {x : Option (Nat × Nat)} : Zgo d 114 188 (some (zq x) :: L) (st) (I, R, al) Q ↔ Zgo d 114 189 (some (zq x) :: L) (zq x :: st) (I, R, al) Q := zg_114_188
theorem zh_114_189 {x : Int} : Zgo d 114 189 (L) (zi x :: st) (I, R, al) Q ↔ Zgo d 114 190 (L) (zi x :: zi x :: st) (I, R, al) Q := zg_114_189
theorem zh_114_189q {u : Option (Nat × Nat)} : Zgo d 114 189 (L) (zq u :: st) (I, R, al) Q ↔ Zgo d 114 190 (L) (zq u :: zq u :: st) (I, R, al) Q := zg_114_189
theorem zh_114_190 {o : Nat} : Zgo d 114 190 (L) (zq (some (11, o)) :: st) (I, R, al) Q ↔ Zgo d 114 193 (L) (zi (I 11 o 41) :: st) (I, R, al) Q := zg_114_190
theorem zh_114_193 : Zgo d 114 193 (L) (st) (I, R, al) Q ↔ Zgo d 114 194 (L) (zi 1 :: st) (I, R, al) Q := zg_114_193
theorem zh_114_194 {x y : Int} : Zgo d 114 194 (L) (zi y :: zi x :: st) (I, R, al) Q ↔ Zgo d 114 195 (L) (zi (x - y) :: st) (I, R, al) Q := zg_114_194
theorem zh_114_195 {o : Nat} {v : Int} : Zgo d 114 195 (L) (zi v :: zq (some (11, o)) :: st) (I, R, al) Q ↔ Zgo d 114 198 (L) (st) (zsI I 11 o 41 v, R, al) Q := zg_114_195
theorem zh_114_198 {x : Option (Nat × Nat)} : Zgo d 114 198 (some (zq x) :: L) (st) (I, R, al) Q ↔ Zgo d 114 199 (some (zq x) :: L) (zq x :: st) (I, R, al) Q := zg_114_198
theorem zh_114_199 {x : Option (Nat × Nat)} : Zgo d 114 199 (some (zq x) :: L) (st) (I, R, al) Q ↔ Zgo d 114 200 (some (zq x) :: L) (zq x :: st) (I, R, al) Q := zg_114_199
theorem zh_114_200 {o : Nat} : Zgo d 114 200 (L) (zq (some (11, o)) :: st) (I, R, al) Q ↔ Zgo d 114 203 (L) (zq (R 11 o 47) :: st) (I, R, al) Q := zg_114_200
theorem zh_114_203 {x : Int} : Zgo d 114 203 (a0 :: a1 :: some (zi x) :: L) (st) (I, R, al) Q ↔ Zgo d 114 204 (a0 :: a1 :: some (zi x) :: L) (zi x :: st) (I, R, al) Q := zg_114_203
theorem zh_114_204 {j : Int} {c o : Nat} : Zgo d 114 204 (L) (zi j :: zq (some (c, o)) :: st) (I, R, al) Q ↔ zal (zlen (I, R, al) c) 0 j (fun x => Zgo d 114 205 (L) (zi (I c o x) :: st) (I, R, al) Q) := zg_114_204
theorem zh_114_205 {x : Option (Nat × Nat)} : Zgo d 114 205 (some (zq x) :: L) (st) (I, R, al) Q ↔ Zgo d 114 206 (some (zq x) :: L) (zq x :: st) (I, R, al) Q := zg_114_205
theorem zh_114_206 {o : Nat} : Zgo d 114 206 (L) (zq (some (11, o)) :: st) (I, R, al) Q ↔ Zgo d 114 209 (L) (zq (R 11 o 48) :: st) (I, R, al) Q := zg_114_206
theorem zh_114_209 {x : Int} : Zgo d 114 209 (a0 :: a1 :: some (zi x) :: L) (st) (I, R, al) Q ↔ Zgo d 114 210 (a0 :: a1 :: some (zi x) :: L) (zi x :: st) (I, R, al) Q := zg_114_209
theorem zh_114_210 {j : Int} {c o : Nat} : Zgo d 114 210 (L) (zi j :: zq (some (c, o)) :: st) (I, R, al) Q ↔ zal (zlen (I, R, al) c) 0 j (fun x => Zgo d 114 211 (L) (zi (I c o x) :: st) (I, R, al) Q) := zg_114_210
theorem zh_114_211 {x : Option (Nat × Nat)} : Zgo d 114 211 (some (zq x) :: L) (st) (I, R, al) Q ↔ Zgo d 114 212 (some (zq x) :: L) (zq x :: st) (I, R, al) Q := zg_114_211
theorem zh_114_212 {o : Nat} : Zgo d 114 212 (L) (zq (some (11, o)) :: st) (I, R, al) Q ↔ Zgo d 114 215 (L) (zq (R 11 o 49) :: st) (I, R, al) Q := zg_114_212
theorem zh_114_215 {x : Int} : Zgo d 114 215 (a0 :: a1 :: some (zi x) :: L) (st) (I, R, al) Q ↔ Zgo d 114 216 (a0 :: a1 :: some (zi x) :: L) (zi x :: st) (I, R, al) Q := zg_114_215
theorem zh_114_216 {j : Int} {c o : Nat} : Zgo d 114 216 (L) (zi j :: zq (some (c, o)) :: st) (I, R, al) Q ↔ zal (zlen (I, R, al) c) 0 j (fun x => Zgo d 114 217 (L) (zi (I c o x) :: st) (I, R, al) Q) := zg_114_216
theorem zh_114_217 {v1 v2 v3 : zV} {o : Nat} : Zgo d 114 217 (L) (v3 :: v2 :: v1 :: zq (some (11, o)) :: st) (I, R, al) Q ↔ if zwt st ≤ 8 then zCp d 111 [zq (some (11, o)), v1, v2, v3] (I, R, al) (fun r S2 => Zgo d 114 220 L (r.toList ++ st) S2 Q) else False := zg_114_217
theorem zh_114_220 : Zgo d 114 220 (L) (st) (I, R, al) Q ↔ Zgo d 114 221 (L) (zi 1 :: st) (I, R, al) Q := zg_114_220
theorem zh_114_221 {x : Int} : Zgo d 114 221 (L) (zi x :: []) (I, R, al) Q ↔ zok 1 x False (Q (some (zi x)) (I, R, al)) := zg_114_221
theorem zh_115_0 {x : Option (Nat × Nat)} : Zgo d 115 0 (some (zq x) :: L) (st) (I, R, al) Q ↔ Zgo d 115 1 (some (zq x) :: L) (zq x :: st) (I, R, al) Q := zg_115_0
theorem zh_115_1 {o : Nat} : Zgo d 115 1 (L) (zq (some (11, o)) :: st) (I, R, al) Q ↔ Zgo d 115 4 (L) (zi (I 11 o 37) :: st) (I, R, al) Q := zg_115_1
theorem zh_115_4 {x : Int} : Zgo d 115 4 (a0 :: some (zi x) :: L) (st) (I, R, al) Q ↔ Zgo d 115 5 (a0 :: some (zi x) :: L) (zi x :: st) (I, R, al) Q := zg_115_4
theorem zh_115_5 {x y : Int} : Zgo d 115 5 (L) (zi y :: zi x :: st) (I, R, al) Q ↔ if zw x = zw y then Zgo d 115 8 (L) (st) (I, R, al) Q else Zgo d 115 10 (L) (st) (I, R, al) Q := zg_115_5
theorem zh_115_8 : Zgo d 115 8 (L) (st) (I, R, al) Q ↔ Zgo d 115 9 (L) (zi 0 :: st) (I, R, al) Q := zg_115_8
theorem zh_115_9 {x : Int} : Zgo d 115 9 (L) (zi x :: []) (I, R, al) Q ↔ zok 1 x False (Q (some (zi x)) (I, R, al)) := zg_115_9
theorem zh_115_10 {x : Option (Nat × Nat)} : Zgo d 115 10 (some (zq x) :: L) (st) (I, R, al) Q ↔ Zgo d 115 11 (some (zq x) :: L) (zq x :: st) (I, R, al) Q := zg_115_10
theorem zh_115_11 {x : Int} : Zgo d 115 11 (L) (zi x :: st) (I, R, al) Q ↔ Zgo d 115 12 (L) (zi x :: zi x :: st) (I, R, al) Q := zg_115_11
theorem zh_115_11q {u : Option (Nat × Nat)} : Zgo d 115 11 (L) (zq u :: st) (I, R, al) Q ↔ Zgo d 115 12 (L) (zq u :: zq u :: st) (I, R, al) Q := zg_115_11
theorem zh_115_12 {o : Nat} : Zgo d 115 12 (L) (zq (some (11, o)) :: st) (I, R, al) Q ↔ Zgo d 115 15 (L) (zi (I 11 o 37) :: st) (I, R, al) Q := zg_115_12
theorem zh_115_15 : Zgo d 115 15 (L) (st) (I, R, al) Q ↔ Zgo d 115 16 (L) (zi 1 :: st) (I, R, al) Q := zg_115_15
theorem zh_115_16 {x y : Int} : Zgo d 115 16 (L) (zi y :: zi x :: st) (I, R, al) Q ↔ Zgo d 115 17 (L) (zi (x + y) :: st) (I, R, al) Q := zg_115_16
theorem zh_115_17 {o : Nat} {v : Int} : Zgo d 115 17 (L) (zi v :: zq (some (11, o)) :: st) (I, R, al) Q ↔ Zgo d 115 20 (L) (st) (zsI I 11 o 37 v, R, al) Q := zg_115_17
theorem zh_115_20 : Zgo d 115 20 (L) (st) (I, R, al) Q ↔ Zgo d 115 21 (L) (zi 1 :: st) (I, R, al) Q := zg_115_20
theorem zh_115_21 {x : Int} : Zgo d 115 21 (L) (zi x :: []) (I, R, al) Q ↔ zok 1 x False (Q (some (zi x)) (I, R, al)) := zg_115_21
theorem zh_116_0 {x : Option (Nat × Nat)} : Zgo d 116 0 (some (zq x) :: L) (st) (I, R, al) Q ↔ Zgo d 116 1 (some (zq x) :: L) (zq x :: st) (I, R, al) Q := zg_116_0
theorem zh_116_1 {o : Nat} : Zgo d 116 1 (L) (zq (some (11, o)) :: st) (I, R, al) Q ↔ Zgo d 116 4 (L) (zq (R 11 o 11) :: st) (I, R, al) Q := zg_116_1
theorem zh_116_4 {x : Int} : Zgo d 116 4 (a0 :: some (zi x) :: L) (st) (I, R, al) Q ↔ Zgo d 116 5 (a0 :: some (zi x) :: L) (zi x :: st) (I, R, al) Q := zg_116_4
theorem zh_116_5 {j : Int} {c o : Nat} : Zgo d 116 5 (L) (zi j :: zq (some (c, o)) :: st) (I, R, al) Q ↔ zal (zlen (I, R, al) c) 0 j (fun x => Zgo d 116 6 (L) (zi (I c o x) :: st) (I, R, al) Q) := zg_116_5
theorem zh_116_6 {x : Int} : Zgo d 116 6 (a0 :: a1 :: b0 :: L) (zi x :: st) (I, R, al) Q ↔ Zgo d 116 7 (a0 :: zkl a1 :: some (zi x) :: L) (st) (I, R, al) Q := zg_116_6
theorem zh_116_7 {x : Int} : Zgo d 116 7 (a0 :: a1 :: some (zi x) :: L) (st) (I, R, al) Q ↔ Zgo d 116 8 (a0 :: a1 :: some (zi x) :: L) (zi x :: st) (I, R, al) Q := zg_116_7
theorem zh_116_8 : Zgo d 116 8 (L) (st) (I, R, al) Q ↔ Zgo d 116 10 (L) (zi 61 :: st) (I, R, al) Q := zg_116_8
theorem zh_116_10 {x y : Int} : Zgo d 116 10 (L) (zi y :: zi x :: st) (I, R, al) Q ↔ if zw x = zw y then Zgo d 116 31 (L) (st) (I, R, al) Q else Zgo d 116 13 (L) (st) (I, R, al) Q := zg_116_10
theorem zh_116_13 {x : Int} : Zgo d 116 13 (a0 :: a1 :: some (zi x) :: L) (st) (I, R, al) Q ↔ Zgo d 116 14 (a0 :: a1 :: some (zi x) :: L) (zi x :: st) (I, R, al) Q := zg_116_13
theorem zh_116_14 : Zgo d 116 14 (L) (st) (I, R, al) Q ↔ Zgo d 116 16 (L) (zi 33 :: st) (I, R, al) Q := zg_116_14
theorem zh_116_16 {x y : Int} : Zgo d 116 16 (L) (zi y :: zi x :: st) (I, R, al) Q ↔ if zw x = zw y then Zgo d 116 31 (L) (st) (I, R, al) Q else Zgo d 116 19 (L) (st) (I, R, al) Q := zg_116_16
theorem zh_116_19 {x : Int} : Zgo d 116 19 (a0 :: a1 :: some (zi x) :: L) (st) (I, R, al) Q ↔ Zgo d 116 20 (a0 :: a1 :: some (zi x) :: L) (zi x :: st) (I, R, al) Q := zg_116_19
theorem zh_116_20 : Zgo d 116 20 (L) (st) (I, R, al) Q ↔ Zgo d 116 22 (L) (zi 63 :: st) (I, R, al) Q := zg_116_20
theorem zh_116_22 {x y : Int} : Zgo d 116 22 (L) (zi y :: zi x :: st) (I, R, al) Q ↔ if zw x = zw y then Zgo d 116 31 (L) (st) (I, R, al) Q else Zgo d 116 25 (L) (st) (I, R, al) Q := zg_116_22
theorem zh_116_25 {x : Int} : Zgo d 116 25 (a0 :: a1 :: some (zi x) :: L) (st) (I, R, al) Q ↔ Zgo d 116 26 (a0 :: a1 :: some (zi x) :: L) (zi x :: st) (I, R, al) Q := zg_116_25
theorem zh_116_26 : Zgo d 116 26 (L) (st) (I, R, al) Q ↔ Zgo d 116 28 (L) (zi 84 :: st) (I, R, al) Q := zg_116_26
theorem zh_116_28 {x y : Int} : Zgo d 116 28 (L) (zi y :: zi x :: st) (I, R, al) Q ↔ if zw x = zw y then Zgo d 116 31 (L) (st) (I, R, al) Q else Zgo d 116 39 (L) (st) (I, R, al) Q := zg_116_28
theorem zh_116_31 {x : Option (Nat × Nat)} : Zgo d 116 31 (some (zq x) :: L) (st) (I, R, al) Q ↔ Zgo d 116 32 (some (zq x) :: L) (zq x :: st) (I, R, al) Q := zg_116_31
theorem zh_116_32 {x : Int} : Zgo d 116 32 (a0 :: some (zi x) :: L) (st) (I, R, al) Q ↔ Zgo d 116 33 (a0 :: some (zi x) :: L) (zi x :: st) (I, R, al) Q := zg_116_32
theorem zh_116_33 {v1 : zV} {o : Nat} : Zgo d 116 33 (L) (v1 :: zq (some (11, o)) :: st) (I, R, al) Q ↔ if zwt st ≤ 8 then zCp d 117 [zq (some (11, o)), v1] (I, R, al) (fun r S2 => Zgo d 116 36 L (r.toList ++ st) S2 Q) else False := zg_116_33
theorem zh_116_36 : Zgo d 116 36 (L) (st) (I, R, al) Q ↔ Zgo d 116 40 (L) (st) (I, R, al) Q := zg_116_36
theorem zh_116_39 : Zgo d 116 39 (L) (st) (I, R, al) Q ↔ Zgo d 116 40 (L) (zi 0 :: st) (I, R, al) Q := zg_116_39
theorem zh_116_40 {x : Int} : Zgo d 116 40 (a0 :: a1 :: a2 :: b0 :: L) (zi x :: st) (I, R, al) Q ↔ Zgo d 116 41 (a0 :: a1 :: zkl a2 :: some (zi x) :: L) (st) (I, R, al) Q := zg_116_40
theorem zh_116_41 {x : Option (Nat × Nat)} : Zgo d 116 41 (some (zq x) :: L) (st) (I, R, al) Q ↔ Zgo d 116 42 (some (zq x) :: L) (zq x :: st) (I, R, al) Q := zg_116_41
theorem zh_116_42 {o : Nat} : Zgo d 116 42 (L) (zq (some (11, o)) :: st) (I, R, al) Q ↔ Zgo d 116 45 (L) (zi (I 11 o 50) :: st) (I, R, al) Q := zg_116_42
theorem zh_116_45 {x : Int} : Zgo d 116 45 (L) (zi x :: st) (I, R, al) Q ↔ if zw x = zw 0 then Zgo d 116 49 (L) (st) (I, R, al) Q else Zgo d 116 48 (L) (st) (I, R, al) Q := zg_116_45
theorem zh_116_48 : Zgo d 116 48 (L) ([]) (I, R, al) Q ↔ Q none (I, R, al) := zg_116_48
theorem zh_116_49 {x : Int} : Zgo d 116 49 (a0 :: a1 :: some (zi x) :: L) (st) (I, R, al) Q ↔ Zgo d 116 50 (a0 :: a1 :: some (zi x) :: L) (zi x :: st) (I, R, al) Q := zg_116_49
theorem zh_116_50 : Zgo d 116 50 (L) (st) (I, R, al) Q ↔ Zgo d 116 52 (L) (zi 61 :: st) (I, R, al) Q := zg_116_50
theorem zh_116_52 {x y : Int} : Zgo d 116 52 (L) (zi y :: zi x :: st) (I, R, al) Q ↔ if zw x = zw y then Zgo d 116 55 (L) (st) (I, R, al) Q else Zgo d 116 70 (L) (st) (I, R, al) Q := zg_116_52
theorem zh_116_55 {x : Option (Nat × Nat)} : Zgo d 116 55 (some (zq x) :: L) (st) (I, R, al) Q ↔ Zgo d 116 56 (some (zq x) :: L) (zq x :: st) (I, R, al) Q := zg_116_55
theorem zh_116_56 {o : Nat} : Zgo d 116 56 (L) (zq (some (11, o)) :: st) (I, R, al) Q ↔ Zgo d 116 59 (L) (zq (R 11 o 33) :: st) (I, R, al) Q := zg_116_56
theorem zh_116_59 {x : Option (Nat × Nat)} : Zgo d 116 59 (some (zq x) :: L) (st) (I, R, al) Q ↔ Zgo d 116 60 (some (zq x) :: L) (zq x :: st) (I, R, al) Q := zg_116_59
theorem zh_116_60 {o : Nat} : Zgo d 116 60 (L) (zq (some (11, o)) :: st) (I, R, al) Q ↔ Zgo d 116 63 (L) (zq (R 11 o 12) :: st) (I, R, al) Q := zg_116_60
theorem zh_116_63 {x : Int} : Zgo d 116 63 (a0 :: some (zi x) :: L) (st) (I, R, al) Q ↔ Zgo d 116 64 (a0 :: some (zi x) :: L) (zi x :: st) (I, R, al) Q := zg_116_63
theorem zh_116_64 {j : Int} {c o : Nat} : Zgo d 116 64 (L) (zi j :: zq (some (c, o)) :: st) (I, R, al) Q ↔ zal (zlen (I, R, al) c) 0 j (fun x => Zgo d 116 65 (L) (zi (I c o x) :: st) (I, R, al) Q) := zg_116_64
theorem zh_116_65 {x : Int} : Zgo d 116 65 (a0 :: a1 :: a2 :: some (zi x) :: L) (st) (I, R, al) Q ↔ Zgo d 116 66 (a0 :: a1 :: a2 :: some (zi x) :: L) (zi x :: st) (I, R, al) Q := zg_116_65
theorem zh_116_66 {v j : Int} {c o : Nat} : Zgo d 116 66 (L) (zi v :: zi j :: zq (some (c, o)) :: st) (I, R, al) Q ↔ zal (zArr c) 0 j (fun x => Zgo d 116 67 (L) (st) (zsI I c o x v, R, al) Q) := zg_116_66
theorem zh_116_67 : Zgo d 116 67 (L) (st) (I, R, al) Q ↔ Zgo d 116 270 (L) (st) (I, R, al) Q := zg_116_67
theorem zh_116_70 {x : Int} : Zgo d 116 70 (a0 :: a1 :: some (zi x) :: L) (st) (I, R, al) Q ↔ Zgo d 116 71 (a0 :: a1 :: some (zi x) :: L) (zi x :: st) (I, R, al) Q := zg_116_70
theorem zh_116_71 : Zgo d 116 71 (L) (st) (I, R, al) Q ↔ Zgo d 116 73 (L) (zi 33 :: st) (I, R, al) Q := zg_116_71
theorem zh_116_73 {x y : Int} : Zgo d 116 73 (L) (zi y :: zi x :: st) (I, R, al) Q ↔ if zw x = zw y then Zgo d 116 76 (L) (st) (I, R, al) Q else Zgo d 116 119 (L) (st) (I, R, al) Q := zg_116_73
theorem zh_116_76 {x : Option (Nat × Nat)} : Zgo d 116 76 (some (zq x) :: L) (st) (I, R, al) Q ↔ Zgo d 116 77 (some (zq x) :: L) (zq x :: st) (I, R, al) Q := zg_116_76
theorem zh_116_77 {o : Nat} : Zgo d 116 77 (L) (zq (some (11, o)) :: st) (I, R, al) Q ↔ Zgo d 116 80 (L) (zi (I 11 o 35) :: st) (I, R, al) Q := zg_116_77
theorem zh_116_80 : Zgo d 116 80 (L) (st) (I, R, al) Q ↔ Zgo d 116 82 (L) (zi 24 :: st) (I, R, al) Q := zg_116_80
theorem zh_116_82 {x y : Int} : Zgo d 116 82 (L) (zi y :: zi x :: st) (I, R, al) Q ↔ if zw x = zw y then Zgo d 116 85 (L) (st) (I, R, al) Q else Zgo d 116 96 (L) (st) (I, R, al) Q := zg_116_82
theorem zh_116_85 {x : Option (Nat × Nat)} : Zgo d 116 85 (some (zq x) :: L) (st) (I, R, al) Q ↔ Zgo d 116 86 (some (zq x) :: L) (zq x :: st) (I, R, al) Q := zg_116_85
theorem zh_116_86 : Zgo d 116 86 (L) (st) (I, R, al) Q ↔ Zgo d 116 87 (L) (zi 4 :: st) (I, R, al) Q := zg_116_86
theorem zh_116_87 : Zgo d 116 87 (L) (st) (I, R, al) Q ↔ Zgo d 116 89 (L) (zi 7 :: st) (I, R, al) Q := zg_116_87
theorem zh_116_89 : Zgo d 116 89 (L) (st) (I, R, al) Q ↔ Zgo d 116 90 (L) (zi 0 :: st) (I, R, al) Q := zg_116_89
theorem zh_116_90 {v1 v2 v3 : zV} {o : Nat} : Zgo d 116 90 (L) (v3 :: v2 :: v1 :: zq (some (11, o)) :: st) (I, R, al) Q ↔ if zwt st ≤ 8 then zCp d 111 [zq (some (11, o)), v1, v2, v3] (I, R, al) (fun r S2 => Zgo d 116 93 L (r.toList ++ st) S2 Q) else False := zg_116_90
theorem zh_116_93 : Zgo d 116 93 (L) (st) (I, R, al) Q ↔ Zgo d 116 270 (L) (st) (I, R, al) Q := zg_116_93
theorem zh_116_96 {x : Option (Nat × Nat)} : Zgo d 116 96 (some (zq x) :: L) (st) (I, R, al) Q ↔ Zgo d 116 97 (some (zq x) :: L) (zq x :: st) (I, R, al) Q := zg_116_96
theorem zh_116_97 {o : Nat} : Zgo d 116 97 (L) (zq (some (11, o)) :: st) (I, R, al) Q ↔ Zgo d 116 100 (L) (zq (R 11 o 34) :: st) (I, R, al) Q := zg_116_97
theorem zh_116_100 {x : Option (Nat × Nat)} : Zgo d 116 100 (some (zq x) :: L) (st) (I, R, al) Q ↔ Zgo d 116 101 (some (zq x) :: L) (zq x :: st) (I, R, al) Q := zg_116_100
theorem zh_116_101 {o : Nat} : Zgo d 116 101 (L) (zq (some (11, o)) :: st) (I, R, al) Q ↔ Zgo d 116 104 (L) (zi (I 11 o 35) :: st) (I, R, al) Q := zg_116_101
theorem zh_116_104 {x : Int} : Zgo d 116 104 (a0 :: a1 :: a2 :: some (zi x) :: L) (st) (I, R, al) Q ↔ Zgo d 116 105 (a0 :: a1 :: a2 :: some (zi x) :: L) (zi x :: st) (I, R, al) Q := zg_116_104
theorem zh_116_105 {v j : Int} {c o : Nat} : Zgo d 116 105 (L) (zi v :: zi j :: zq (some (c, o)) :: st) (I, R, al) Q ↔ zal (zArr c) 0 j (fun x => Zgo d 116 106 (L) (st) (zsI I c o x v, R, al) Q) := zg_116_105
theorem zh_116_106 {x : Option (Nat × Nat)} : Zgo d 116 106 (some (zq x) :: L) (st) (I, R, al) Q ↔ Zgo d 116 107 (some (zq x) :: L) (zq x :: st) (I, R, al) Q := zg_116_106
theorem zh_116_107 {x : Int} : Zgo d 116 107 (L) (zi x :: st) (I, R, al) Q ↔ Zgo d 116 108 (L) (zi x :: zi x :: st) (I, R, al) Q := zg_116_107
theorem zh_116_107q {u : Option (Nat × Nat)} : Zgo d 116 107 (L) (zq u :: st) (I, R, al) Q ↔ Zgo d 116 108 (L) (zq u :: zq u :: st) (I, R, al) Q := zg_116_107
theorem zh_116_108 {o : Nat} : Zgo d 116 108 (L) (zq (some (11, o)) :: st) (I, R, al) Q ↔ Zgo d 116 111 (L) (zi (I 11 o 35) :: st) (I, R, al) Q := zg_116_108
theorem zh_116_111 : Zgo d 116 111 (L) (st) (I, R, al) Q ↔ Zgo d 116 112 (L) (zi 1 :: st) (I, R, al) Q := zg_116_111
theorem zh_116_112 {x y : Int} : Zgo d 116 112 (L) (zi y :: zi x :: st) (I, R, al) Q ↔ Zgo d 116 113 (L) (zi (x + y) :: st) (I, R, al) Q := zg_116_112
theorem zh_116_113 {o : Nat} {v : Int} : Zgo d 116 113 (L) (zi v :: zq (some (11, o)) :: st) (I, R, al) Q ↔ Zgo d 116 116 (L) (st) (zsI I 11 o 35 v, R, al) Q := zg_116_113
theorem zh_116_116 : Zgo d 116 116 (L) (st) (I, R, al) Q ↔ Zgo d 116 270 (L) (st) (I, R, al) Q := zg_116_116
theorem zh_116_119 {x : Int} : Zgo d 116 119 (a0 :: a1 :: some (zi x) :: L) (st) (I, R, al) Q ↔ Zgo d 116 120 (a0 :: a1 :: some (zi x) :: L) (zi x :: st) (I, R, al) Q := zg_116_119
theorem zh_116_120 : Zgo d 116 120 (L) (st) (I, R, al) Q ↔ Zgo d 116 122 (L) (zi 63 :: st) (I, R, al) Q := zg_116_120
theorem zh_116_122 {x y : Int} : Zgo d 116 122 (L) (zi y :: zi x :: st) (I, R, al) Q ↔ if zw x = zw y then Zgo d 116 125 (L) (st) (I, R, al) Q else Zgo d 116 151 (L) (st) (I, R, al) Q := zg_116_122
theorem zh_116_125 {x : Option (Nat × Nat)} : Zgo d 116 125 (some (zq x) :: L) (st) (I, R, al) Q ↔ Zgo d 116 126 (some (zq x) :: L) (zq x :: st) (I, R, al) Q := zg_116_125
theorem zh_116_126 {x : Option (Nat × Nat)} : Zgo d 116 126 (some (zq x) :: L) (st) (I, R, al) Q ↔ Zgo d 116 127 (some (zq x) :: L) (zq x :: st) (I, R, al) Q := zg_116_126
theorem zh_116_127 {o : Nat} : Zgo d 116 127 (L) (zq (some (11, o)) :: st) (I, R, al) Q ↔ Zgo d 116 130 (L) (zq (R 11 o 15) :: st) (I, R, al) Q := zg_116_127
theorem zh_116_130 : Zgo d 116 130 (L) (st) (I, R, al) Q ↔ Zgo d 116 132 (L) (zi 6 :: st) (I, R, al) Q := zg_116_130
theorem zh_116_132 {x : Int} : Zgo d 116 132 (a0 :: some (zi x) :: L) (st) (I, R, al) Q ↔ Zgo d 116 133 (a0 :: some (zi x) :: L) (zi x :: st) (I, R, al) Q := zg_116_132
theorem zh_116_133 {x y : Int} : Zgo d 116 133 (L) (zi y :: zi x :: st) (I, R, al) Q ↔ Zgo d 116 134 (L) (zi (x * y) :: st) (I, R, al) Q := zg_116_133
theorem zh_116_134 {x : Int} : Zgo d 116 134 (a0 :: a1 :: a2 :: some (zi x) :: L) (st) (I, R, al) Q ↔ Zgo d 116 135 (a0 :: a1 :: a2 :: some (zi x) :: L) (zi x :: st) (I, R, al) Q := zg_116_134
theorem zh_116_135 {x : Int} : Zgo d 116 135 (L) (zi x :: st) (I, R, al) Q ↔ if zw x = zw 0 then Zgo d 116 142 (L) (st) (I, R, al) Q else Zgo d 116 138 (L) (st) (I, R, al) Q := zg_116_135
theorem zh_116_138 : Zgo d 116 138 (L) (st) (I, R, al) Q ↔ Zgo d 116 139 (L) (zi 0 :: st) (I, R, al) Q := zg_116_138
theorem zh_116_139 : Zgo d 116 139 (L) (st) (I, R, al) Q ↔ Zgo d 116 143 (L) (st) (I, R, al) Q := zg_116_139
theorem zh_116_142 : Zgo d 116 142 (L) (st) (I, R, al) Q ↔ Zgo d 116 143 (L) (zi 1 :: st) (I, R, al) Q := zg_116_142
theorem zh_116_143 {x y : Int} : Zgo d 116 143 (L) (zi y :: zi x :: st) (I, R, al) Q ↔ Zgo d 116 144 (L) (zi (x + y) :: st) (I, R, al) Q := zg_116_143
theorem zh_116_144 {j : Int} {c o : Nat} : Zgo d 116 144 (L) (zi j :: zq (some (c, o)) :: st) (I, R, al) Q ↔ zal (zlen (I, R, al) c) 0 j (fun x => Zgo d 116 145 (L) (zi (I c o x) :: st) (I, R, al) Q) := zg_116_144
theorem zh_116_145 {v1 : zV} {o : Nat} : Zgo d 116 145 (L) (v1 :: zq (some (11, o)) :: st) (I, R, al) Q ↔ if zwt st ≤ 8 then zCp d 112 [zq (some (11, o)), v1] (I, R, al) (fun r S2 => Zgo d 116 148 L (r.toList ++ st) S2 Q) else False := zg_116_145
theorem zh_116_148 : Zgo d 116 148 (L) (st) (I, R, al) Q ↔ Zgo d 116 270 (L) (st) (I, R, al) Q := zg_116_148
theorem zh_116_151 {x : Int} : Zgo d 116 151 (a0 :: a1 :: some (zi x) :: L) (st) (I, R, al) Q ↔ Zgo d 116 152 (a0 :: a1 :: some (zi x) :: L) (zi x :: st) (I, R, al) Q := zg_116_151
theorem zh_116_152 : Zgo d 116 152 (L) (st) (I, R, al) Q ↔ Zgo d 116 154 (L) (zi 64 :: st) (I, R, al) Q := zg_116_152
theorem zh_116_154 {x y : Int} : Zgo d 116 154 (L) (zi y :: zi x :: st) (I, R, al) Q ↔ if zw x = zw y then Zgo d 116 157 (L) (st) (I, R, al) Q else Zgo d 116 166 (L) (st) (I, R, al) Q := zg_116_154
theorem zh_116_157 {x : Option (Nat × Nat)} : Zgo d 116 157 (some (zq x) :: L) (st) (I, R, al) Q ↔ Zgo d 116 158 (some (zq x) :: L) (zq x :: st) (I, R, al) Q := zg_116_157
theorem zh_116_158 : Zgo d 116 158 (L) (st) (I, R, al) Q ↔ Zgo d 116 159 (L) (zi 1 :: st) (I, R, al) Q := zg_116_158
theorem zh_116_159 {x : Int} : Zgo d 116 159 (a0 :: some (zi x) :: L) (st) (I, R, al) Q ↔ Zgo d 116 160 (a0 :: some (zi x) :: L) (zi x :: st) (I, R, al) Q := zg_116_159
theorem zh_116_160 {v1 v2 : zV} {o : Nat} : Zgo d 116 160 (L) (v2 :: v1 :: zq (some (11, o)) :: st) (I, R, al) Q ↔ if zwt st ≤ 8 then zCp d 113 [zq (some (11, o)), v1, v2] (I, R, al) (fun r S2 => Zgo d 116 163 L (r.toList ++ st) S2 Q) else False := zg_116_160
theorem zh_116_163 : Zgo d 116 163 (L) (st) (I, R, al) Q ↔ Zgo d 116 270 (L) (st) (I, R, al) Q := zg_116_163
theorem zh_116_166 {x : Int} : Zgo d 116 166 (a0 :: a1 :: some (zi x) :: L) (st) (I, R, al) Q ↔ Zgo d 116 167 (a0 :: a1 :: some (zi x) :: L) (zi x :: st) (I, R, al) Q := zg_116_166
theorem zh_116_167 : Zgo d 116 167 (L) (st) (I, R, al) Q ↔ Zgo d 116 169 (L) (zi 84 :: st) (I, R, al) Q := zg_116_167
theorem zh_116_169 {x y : Int} : Zgo d 116 169 (L) (zi y :: zi x :: st) (I, R, al) Q ↔ if zw x = zw y then Zgo d 116 172 (L) (st) (I, R, al) Q else Zgo d 116 187 (L) (st) (I, R, al) Q := zg_116_169
theorem zh_116_172 {x : Option (Nat × Nat)} : Zgo d 116 172 (some (zq x) :: L) (st) (I, R, al) Q ↔ Zgo d 116 173 (some (zq x) :: L) (zq x :: st) (I, R, al) Q := zg_116_172
theorem zh_116_173 : Zgo d 116 173 (L) (st) (I, R, al) Q ↔ Zgo d 116 174 (L) (zi 4 :: st) (I, R, al) Q := zg_116_173
theorem zh_116_174 {x : Option (Nat × Nat)} : Zgo d 116 174 (some (zq x) :: L) (st) (I, R, al) Q ↔ Zgo d 116 175 (some (zq x) :: L) (zq x :: st) (I, R, al) Q := zg_116_174
theorem zh_116_175 {o : Nat} : Zgo d 116 175 (L) (zq (some (11, o)) :: st) (I, R, al) Q ↔ Zgo d 116 178 (L) (zq (R 11 o 12) :: st) (I, R, al) Q := zg_116_175
theorem zh_116_178 {x : Int} : Zgo d 116 178 (a0 :: some (zi x) :: L) (st) (I, R, al) Q ↔ Zgo d 116 179 (a0 :: some (zi x) :: L) (zi x :: st) (I, R, al) Q := zg_116_178
theorem zh_116_179 {j : Int} {c o : Nat} : Zgo d 116 179 (L) (zi j :: zq (some (c, o)) :: st) (I, R, al) Q ↔ zal (zlen (I, R, al) c) 0 j (fun x => Zgo d 116 180 (L) (zi (I c o x) :: st) (I, R, al) Q) := zg_116_179
theorem zh_116_180 {x : Int} : Zgo d 116 180 (a0 :: a1 :: a2 :: some (zi x) :: L) (st) (I, R, al) Q ↔ Zgo d 116 181 (a0 :: a1 :: a2 :: some (zi x) :: L) (zi x :: st) (I, R, al) Q := zg_116_180
theorem zh_116_181 {v1 v2 v3 : zV} {o : Nat} : Zgo d 116 181 (L) (v3 :: v2 :: v1 :: zq (some (11, o)) :: st) (I, R, al) Q ↔ if zwt st ≤ 8 then zCp d 111 [zq (some (11, o)), v1, v2, v3] (I, R, al) (fun r S2 => Zgo d 116 184 L (r.toList ++ st) S2 Q) else False := zg_116_181
theorem zh_116_184 : Zgo d 116 184 (L) (st) (I, R, al) Q ↔ Zgo d 116 270 (L) (st) (I, R, al) Q := zg_116_184
theorem zh_116_187 {x : Int} : Zgo d 116 187 (a0 :: a1 :: some (zi x) :: L) (st) (I, R, al) Q ↔ Zgo d 116 188 (a0 :: a1 :: some (zi x) :: L) (zi x :: st) (I, R, al) Q := zg_116_187
theorem zh_116_188 : Zgo d 116 188 (L) (st) (I, R, al) Q ↔ Zgo d 116 190 (L) (zi 88 :: st) (I, R, al) Q := zg_116_188
theorem zh_116_190 {x y : Int} : Zgo d 116 190 (L) (zi y :: zi x :: st) (I, R, al) Q ↔ if zw x = zw y then Zgo d 116 193 (L) (st) (I, R, al) Q else Zgo d 116 201 (L) (st) (I, R, al) Q := zg_116_190
theorem zh_116_193 {x : Option (Nat × Nat)} : Zgo d 116 193 (some (zq x) :: L) (st) (I, R, al) Q ↔ Zgo d 116 194 (some (zq x) :: L) (zq x :: st) (I, R, al) Q := zg_116_193
theorem zh_116_194 {x : Int} : Zgo d 116 194 (a0 :: some (zi x) :: L) (st) (I, R, al) Q ↔ Zgo d 116 195 (a0 :: some (zi x) :: L) (zi x :: st) (I, R, al) Q := zg_116_194
theorem zh_116_195 {v1 : zV} {o : Nat} : Zgo d 116 195 (L) (v1 :: zq (some (11, o)) :: st) (I, R, al) Q ↔ if zwt st ≤ 8 then zCp d 118 [zq (some (11, o)), v1] (I, R, al) (fun r S2 => Zgo d 116 198 L (r.toList ++ st) S2 Q) else False := zg_116_195
theorem zh_116_198 : Zgo d 116 198 (L) (st) (I, R, al) Q ↔ Zgo d 116 270 (L) (st) (I, R, al) Q := zg_116_198
theorem zh_116_201 {x : Int} : Zgo d 116 201 (a0 :: a1 :: some (zi x) :: L) (st) (I, R, al) Q ↔ Zgo d 116 202 (a0 :: a1 :: some (zi x) :: L) (zi x :: st) (I, R, al) Q := zg_116_201
theorem zh_116_202 : Zgo d 116 202 (L) (st) (I, R, al) Q ↔ Zgo d 116 204 (L) (zi 80 :: st) (I, R, al) Q := zg_116_202
theorem zh_116_204 {x y : Int} : Zgo d 116 204 (L) (zi y :: zi x :: st) (I, R, al) Q ↔ if zw x = zw y then Zgo d 116 207 (L) (st) (I, R, al) Q else Zgo d 116 215 (L) (st) (I, R, al) Q := zg_116_204
theorem zh_116_207 {x : Option (Nat × Nat)} : Zgo d 116 207 (some (zq x) :: L) (st) (I, R, al) Q ↔ Zgo d 116 208 (some (zq x) :: L) (zq x :: st) (I, R, al) Q := zg_116_207
theorem zh_116_208 {x : Int} : Zgo d 116 208 (a0 :: some (zi x) :: L) (st) (I, R, al) Q ↔ Zgo d 116 209 (a0 :: some (zi x) :: L) (zi x :: st) (I, R, al) Q := zg_116_208
theorem zh_116_209 {v1 : zV} {o : Nat} : Zgo d 116 209 (L) (v1 :: zq (some (11, o)) :: st) (I, R, al) Q ↔ if zwt st ≤ 8 then zCp d 119 [zq (some (11, o)), v1] (I, R, al) (fun r S2 => Zgo d 116 212 L (r.toList ++ st) S2 Q) else False := zg_116_209
theorem zh_116_212 : Zgo d 116 212 (L) (st) (I, R, al) Q ↔ Zgo d 116 270 (L) (st) (I, R, al) Q := zg_116_212
theorem zh_116_215 {x : Int} : Zgo d 116 215 (a0 :: a1 :: some (zi x) :: L) (st) (I, R, al) Q ↔ Zgo d 116 216 (a0 :: a1 :: some (zi x) :: L) (zi x :: st) (I, R, al) Q := zg_116_215
theorem zh_116_216 : Zgo d 116 216 (L) (st) (I, R, al) Q ↔ Zgo d 116 218 (L) (zi 89 :: st) (I, R, al) Q := zg_116_216
theorem zh_116_218 {x y : Int} : Zgo d 116 218 (L) (zi y :: zi x :: st) (I, R, al) Q ↔ if zw x = zw y then Zgo d 116 221 (L) (st) (I, R, al) Q else Zgo d 116 243 (L) (st) (I, R, al) Q := zg_116_218
theorem zh_116_221 {x : Option (Nat × Nat)} : Zgo d 116 221 (some (zq x) :: L) (st) (I, R, al) Q ↔ Zgo d 116 222 (some (zq x) :: L) (zq x :: st) (I, R, al) Q := zg_116_221
theorem zh_116_222 : Zgo d 116 222 (L) (st) (I, R, al) Q ↔ Zgo d 116 223 (L) (zi 3 :: st) (I, R, al) Q := zg_116_222
theorem zh_116_223 {x : Int} : Zgo d 116 223 (a0 :: some (zi x) :: L) (st) (I, R, al) Q ↔ Zgo d 116 224 (a0 :: some (zi x) :: L) (zi x :: st) (I, R, al) Q := zg_116_223
theorem zh_116_224 {v1 v2 : zV} {o : Nat} : Zgo d 116 224 (L) (v2 :: v1 :: zq (some (11, o)) :: st) (I, R, al) Q ↔ if zwt st ≤ 8 then zCp d 113 [zq (some (11, o)), v1, v2] (I, R, al) (fun r S2 => Zgo d 116 227 L (r.toList ++ st) S2 Q) else False := zg_116_224
theorem zh_116_227 {x : Option (Nat × Nat)} : Zgo d 116 227 (some (zq x) :: L) (st) (I, R, al) Q ↔ Zgo d 116 228 (some (zq x) :: L) (zq x :: st) (I, R, al) Q := zg_116_227
theorem zh_116_228 {x : Option (Nat × Nat)} : Zgo d 116 228 (some (zq x) :: L) (st) (I, R, al) Q ↔ Zgo d 116 229 (some (zq x) :: L) (zq x :: st) (I, R, al) Q := zg_116_228
theorem zh_116_229 {o : Nat} : Zgo d 116 229 (L) (zq (some (11, o)) :: st) (I, R, al) Q ↔ Zgo d 116 232 (L) (zq (R 11 o 15) :: st) (I, R, al) Q := zg_116_229
theorem zh_116_232 : Zgo d 116 232 (L) (st) (I, R, al) Q ↔ Zgo d 116 234 (L) (zi 6 :: st) (I, R, al) Q := zg_116_232
theorem zh_116_234 {x : Int} : Zgo d 116 234 (a0 :: some (zi x) :: L) (st) (I, R, al) Q ↔ Zgo d 116 235 (a0 :: some (zi x) :: L) (zi x :: st) (I, R, al) Q := zg_116_234
theorem zh_116_235 {x y : Int} : Zgo d 116 235 (L) (zi y :: zi x :: st) (I, R, al) Q ↔ Zgo d 116 236 (L) (zi (x * y) :: st) (I, R, al) Q := zg_116_235
theorem zh_116_236 {j : Int} {c o : Nat} : Zgo d 116 236 (L) (zi j :: zq (some (c, o)) :: st) (I, R, al) Q ↔ zal (zlen (I, R, al) c) 0 j (fun x => Zgo d 116 237 (L) (zi (I c o x) :: st) (I, R, al) Q) := zg_116_236
theorem zh_116_237 {v1 : zV} {o : Nat} : Zgo d 116 237 (L) (v1 :: zq (some (11, o)) :: st) (I, R, al) Q ↔ if zwt st ≤ 8 then zCp d 112 [zq (some (11, o)), v1] (I, R, al) (fun r S2 => Zgo d 116 240 L (r.toList ++ st) S2 Q) else False := zg_116_237
theorem zh_116_240 : Zgo d 116 240 (L) (st) (I, R, al) Q ↔ Zgo d 116 270 (L) (st) (I, R, al) Q := zg_116_240
theorem zh_116_243 {x : Option (Nat × Nat)} : Zgo d 116 243 (some (zq x) :: L) (st) (I, R, al) Q ↔ Zgo d 116 244 (some (zq x) :: L) (zq x :: st) (I, R, al) Q := zg_116_243
theorem zh_116_244 {x : Int} : Zgo d 116 244 (a0 :: a1 :: some (zi x) :: L) (st) (I, R, al) Q ↔ Zgo d 116 245 (a0 :: a1 :: some (zi x) :: L) (zi x :: st) (I, R, al) Q := zg_116_244
theorem zh_116_245 : Zgo d 116 245 (L) (st) (I, R, al) Q ↔ Zgo d 116 247 (L) (zi 66 :: st) (I, R, al) Q := zg_116_245
theorem zh_116_247 {x y : Int} : Zgo d 116 247 (L) (zi y :: zi x :: st) (I, R, al) Q ↔ if zw x = zw y then Zgo d 116 250 (L) (st) (I, R, al) Q else Zgo d 116 254 (L) (st) (I, R, al) Q := zg_116_247
theorem zh_116_250 : Zgo d 116 250 (L) (st) (I, R, al) Q ↔ Zgo d 116 251 (L) (zi 1 :: st) (I, R, al) Q := zg_116_250
theorem zh_116_251 : Zgo d 116 251 (L) (st) (I, R, al) Q ↔ Zgo d 116 265 (L) (st) (I, R, al) Q := zg_116_251
theorem zh_116_254 {x : Int} : Zgo d 116 254 (a0 :: a1 :: some (zi x) :: L) (st) (I, R, al) Q ↔ Zgo d 116 255 (a0 :: a1 :: some (zi x) :: L) (zi x :: st) (I, R, al) Q := zg_116_254
theorem zh_116_255 : Zgo d 116 255 (L) (st) (I, R, al) Q ↔ Zgo d 116 257 (L) (zi 67 :: st) (I, R, al) Q := zg_116_255
theorem zh_116_257 {x y : Int} : Zgo d 116 257 (L) (zi y :: zi x :: st) (I, R, al) Q ↔ if zw x = zw y then Zgo d 116 260 (L) (st) (I, R, al) Q else Zgo d 116 264 (L) (st) (I, R, al) Q := zg_116_257
theorem zh_116_260 : Zgo d 116 260 (L) (st) (I, R, al) Q ↔ Zgo d 116 261 (L) (zi 2 :: st) (I, R, al) Q := zg_116_260
theorem zh_116_261 : Zgo d 116 261 (L) (st) (I, R, al) Q ↔ Zgo d 116 265 (L) (st) (I, R, al) Q := zg_116_261
theorem zh_116_264 : Zgo d 116 264 (L) (st) (I, R, al) Q ↔ Zgo d 116 265 (L) (zi 3 :: st) (I, R, al) Q := zg_116_264
theorem zh_116_265 : Zgo d 116 265 (L) (st) (I, R, al) Q ↔ Zgo d 116 266 (L) (zi 0 :: st) (I, R, al) Q := zg_116_265
theorem zh_116_266 : Zgo d 116 266 (L) (st) (I, R, al) Q ↔ Zgo d 116 267 (L) (zi 0 :: st) (I, R, al) Q := zg_116_266
theorem zh_116_267 {v1 v2 v3 : zV} {o : Nat} : Zgo d 116 267 (L) (v3 :: v2 :: v1 :: zq (some (11, o)) :: st) (I, R, al) Q ↔ if zwt st ≤ 8 then zCp d 111 [zq (some (11, o)), v1, v2, v3] (I, R, al) (fun r S2 => Zgo d 116 270 L (r.toList ++ st) S2 Q) else False := zg_116_267
theorem zh_116_270 : Zgo d 116 270 (L) ([]) (I, R, al) Q ↔ Q none (I, R, al) := zg_116_270
theorem zh_117_0 : Zgo d 117 0 (L) (st) (I, R, al) Q ↔ Zgo d 117 1 (L) (zi 0 :: st) (I, R, al) Q := zg_117_0
theorem zh_117_1 {x : Int} : Zgo d 117 1 (a0 :: a1 :: b0 :: L) (zi x :: st) (I, R, al) Q ↔ Zgo d 117 2 (a0 :: zkl a1 :: some (zi x) :: L) (st) (I, R, al) Q := zg_117_1
theorem zh_117_2 {x : Option (Nat × Nat)} : Zgo d 117 2 (some (zq x) :: L) (st) (I, R, al) Q ↔ Zgo d 117 3 (some (zq x) :: L) (zq x :: st) (I, R, al) Q := zg_117_2
theorem zh_117_3 : Zgo d 117 3 (L) (st) (I, R, al) Q ↔ Zgo d 117 4 (L) (zi 0 :: st) (I, R, al) Q := zg_117_3
theorem zh_117_4 {o : Nat} {v : Int} : Zgo d 117 4 (L) (zi v :: zq (some (11, o)) :: st) (I, R, al) Q ↔ zok 1 v False (Zgo d 117 7 (L) (st) (zsI I 11 o 55 v, R, al) Q) := zg_117_4
theorem zh_117_7 {x : Option (Nat × Nat)} : Zgo d 117 7 (some (zq x) :: L) (st) (I, R, al) Q ↔ Zgo d 117 8 (some (zq x) :: L) (zq x :: st) (I, R, al) Q := zg_117_7
theorem zh_117_8 {o : Nat} : Zgo d 117 8 (L) (zq (some (11, o)) :: st) (I, R, al) Q ↔ Zgo d 117 11 (L) (zq (R 11 o 13) :: st) (I, R, al) Q := zg_117_8
theorem zh_117_11 {x : Int} : Zgo d 117 11 (a0 :: some (zi x) :: L) (st) (I, R, al) Q ↔ Zgo d 117 12 (a0 :: some (zi x) :: L) (zi x :: st) (I, R, al) Q := zg_117_11
theorem zh_117_12 {j : Int} {c o : Nat} : Zgo d 117 12 (L) (zi j :: zq (some (c, o)) :: st) (I, R, al) Q ↔ zal (zlen (I, R, al) c) 0 j (fun x => Zgo d 117 13 (L) (zi (I c o x) :: st) (I, R, al) Q) := zg_117_12
theorem zh_117_13 {x : Int} : Zgo d 117 13 (a0 :: a1 :: a2 :: b0 :: L) (zi x :: st) (I, R, al) Q ↔ Zgo d 117 14 (a0 :: a1 :: zkl a2 :: some (zi x) :: L) (st) (I, R, al) Q := zg_117_13
theorem zh_117_14 {x : Int} : Zgo d 117 14 (a0 :: a1 :: a2 :: some (zi x) :: L) (st) (I, R, al) Q ↔ Zgo d 117 15 (a0 :: a1 :: a2 :: some (zi x) :: L) (zi x :: st) (I, R, al) Q := zg_117_14
theorem zh_117_15 {x : Option (Nat × Nat)} : Zgo d 117 15 (some (zq x) :: L) (st) (I, R, al) Q ↔ Zgo d 117 16 (some (zq x) :: L) (zq x :: st) (I, R, al) Q := zg_117_15
theorem zh_117_16 {o : Nat} : Zgo d 117 16 (L) (zq (some (11, o)) :: st) (I, R, al) Q ↔ Zgo d 117 19 (L) (zq (R 11 o 14) :: st) (I, R, al) Q := zg_117_16
theorem zh_117_19 {x : Int} : Zgo d 117 19 (a0 :: some (zi x) :: L) (st) (I, R, al) Q ↔ Zgo d 117 20 (a0 :: some (zi x) :: L) (zi x :: st) (I, R, al) Q := zg_117_19
theorem zh_117_20 {j : Int} {c o : Nat} : Zgo d 117 20 (L) (zi j :: zq (some (c, o)) :: st) (I, R, al) Q ↔ zal (zlen (I, R, al) c) 0 j (fun x => Zgo d 117 21 (L) (zi (I c o x) :: st) (I, R, al) Q) := zg_117_20
theorem zh_117_21 {x y : Int} : Zgo d 117 21 (L) (zi y :: zi x :: st) (I, R, al) Q ↔ if zw x < zw y then Zgo d 117 24 (L) (st) (I, R, al) Q else Zgo d 117 254 (L) (st) (I, R, al) Q := zg_117_21
theorem zh_117_24 {x : Option (Nat × Nat)} : Zgo d 117 24 (some (zq x) :: L) (st) (I, R, al) Q ↔ Zgo d 117 25 (some (zq x) :: L) (zq x :: st) (I, R, al) Q := zg_117_24
theorem zh_117_25 {o : Nat} : Zgo d 117 25 (L) (zq (some (11, o)) :: st) (I, R, al) Q ↔ Zgo d 117 28 (L) (zi (I 11 o 55) :: st) (I, R, al) Q := zg_117_25
theorem zh_117_28 {x : Int} : Zgo d 117 28 (L) (zi x :: st) (I, R, al) Q ↔ if zw x = zw 0 then Zgo d 117 31 (L) (st) (I, R, al) Q else Zgo d 117 254 (L) (st) (I, R, al) Q := zg_117_28
theorem zh_117_31 {x : Option (Nat × Nat)} : Zgo d 117 31 (some (zq x) :: L) (st) (I, R, al) Q ↔ Zgo d 117 32 (some (zq x) :: L) (zq x :: st) (I, R, al) Q := zg_117_31
theorem zh_117_32 {o : Nat} : Zgo d 117 32 (L) (zq (some (11, o)) :: st) (I, R, al) Q ↔ Zgo d 117 35 (L) (zq (R 11 o 29) :: st) (I, R, al) Q := zg_117_32
theorem zh_117_35 {x : Int} : Zgo d 117 35 (a0 :: a1 :: a2 :: some (zi x) :: L) (st) (I, R, al) Q ↔ Zgo d 117 36 (a0 :: a1 :: a2 :: some (zi x) :: L) (zi x :: st) (I, R, al) Q := zg_117_35
theorem zh_117_36 {j : Int} {c o : Nat} : Zgo d 117 36 (L) (zi j :: zq (some (c, o)) :: st) (I, R, al) Q ↔ zal (zlen (I, R, al) c) 0 j (fun x => Zgo d 117 37 (L) (zi (I c o x) :: st) (I, R, al) Q) := zg_117_36
theorem zh_117_37 {x : Int} : Zgo d 117 37 (a0 :: a1 :: a2 :: a3 :: b0 :: L) (zi x :: st) (I, R, al) Q ↔ Zgo d 117 39 (a0 :: a1 :: a2 :: zkl a3 :: some (zi x) :: L) (st) (I, R, al) Q := zg_117_37
theorem zh_117_39 {x : Int} : Zgo d 117 39 (a0 :: a1 :: a2 :: a3 :: some (zi x) :: L) (st) (I, R, al) Q ↔ Zgo d 117 41 (a0 :: a1 :: a2 :: a3 :: some (zi x) :: L) (zi x :: st) (I, R, al) Q := zg_117_39
theorem zh_117_41 : Zgo d 117 41 (L) (st) (I, R, al) Q ↔ Zgo d 117 43 (L) (zi 48 :: st) (I, R, al) Q := zg_117_41
theorem zh_117_43 {x y : Int} : Zgo d 117 43 (L) (zi y :: zi x :: st) (I, R, al) Q ↔ if zw x = zw y then Zgo d 117 53 (L) (st) (I, R, al) Q else Zgo d 117 46 (L) (st) (I, R, al) Q := zg_117_43
theorem zh_117_46 {x : Int} : Zgo d 117 46 (a0 :: a1 :: a2 :: a3 :: some (zi x) :: L) (st) (I, R, al) Q ↔ Zgo d 117 48 (a0 :: a1 :: a2 :: a3 :: some (zi x) :: L) (zi x :: st) (I, R, al) Q := zg_117_46
theorem zh_117_48 : Zgo d 117 48 (L) (st) (I, R, al) Q ↔ Zgo d 117 50 (L) (zi 97 :: st) (I, R, al) Q := zg_117_48
theorem zh_117_50 {x y : Int} : Zgo d 117 50 (L) (zi y :: zi x :: st) (I, R, al) Q ↔ if zw x = zw y then Zgo d 117 53 (L) (st) (I, R, al) Q else Zgo d 117 92 (L) (st) (I, R, al) Q := zg_117_50
theorem zh_117_53 {x : Option (Nat × Nat)} : Zgo d 117 53 (some (zq x) :: L) (st) (I, R, al) Q ↔ Zgo d 117 54 (some (zq x) :: L) (zq x :: st) (I, R, al) Q := zg_117_53
theorem zh_117_54 {o : Nat} : Zgo d 117 54 (L) (zq (some (11, o)) :: st) (I, R, al) Q ↔ Zgo d 117 57 (L) (zq (R 11 o 54) :: st) (I, R, al) Q := zg_117_54
theorem zh_117_57 {x : Int} : Zgo d 117 57 (a0 :: a1 :: some (zi x) :: L) (st) (I, R, al) Q ↔ Zgo d 117 58 (a0 :: a1 :: some (zi x) :: L) (zi x :: st) (I, R, al) Q := zg_117_57
theorem zh_117_58 {x : Int} : Zgo d 117 58 (a0 :: a1 :: a2 :: a3 :: some (zi x) :: L) (st) (I, R, al) Q ↔ Zgo d 117 60 (a0 :: a1 :: a2 :: a3 :: some (zi x) :: L) (zi x :: st) (I, R, al) Q := zg_117_58
theorem zh_117_60 : Zgo d 117 60 (L) (st) (I, R, al) Q ↔ Zgo d 117 62 (L) (zi 48 :: st) (I, R, al) Q := zg_117_60
theorem zh_117_62 {x y : Int} : Zgo d 117 62 (L) (zi y :: zi x :: st) (I, R, al) Q ↔ if zw x = zw y then Zgo d 117 65 (L) (st) (I, R, al) Q else Zgo d 117 74 (L) (st) (I, R, al) Q := zg_117_62
theorem zh_117_65 {x : Option (Nat × Nat)} : Zgo d 117 65 (some (zq x) :: L) (st) (I, R, al) Q ↔ Zgo d 117 66 (some (zq x) :: L) (zq x :: st) (I, R, al) Q := zg_117_65
theorem zh_117_66 {o : Nat} : Zgo d 117 66 (L) (zq (some (11, o)) :: st) (I, R, al) Q ↔ Zgo d 117 69 (L) (zq (R 11 o 30) :: st) (I, R, al) Q := zg_117_66
theorem zh_117_69 {x : Int} : Zgo d 117 69 (a0 :: a1 :: a2 :: some (zi x) :: L) (st) (I, R, al) Q ↔ Zgo d 117 70 (a0 :: a1 :: a2 :: some (zi x) :: L) (zi x :: st) (I, R, al) Q := zg_117_69
theorem zh_117_70 {j : Int} {c o : Nat} : Zgo d 117 70 (L) (zi j :: zq (some (c, o)) :: st) (I, R, al) Q ↔ zal (zlen (I, R, al) c) 0 j (fun x => Zgo d 117 71 (L) (zi (I c o x) :: st) (I, R, al) Q) := zg_117_70
theorem zh_117_71 : Zgo d 117 71 (L) (st) (I, R, al) Q ↔ Zgo d 117 85 (L) (st) (I, R, al) Q := zg_117_71
theorem zh_117_74 {x : Option (Nat × Nat)} : Zgo d 117 74 (some (zq x) :: L) (st) (I, R, al) Q ↔ Zgo d 117 75 (some (zq x) :: L) (zq x :: st) (I, R, al) Q := zg_117_74
theorem zh_117_75 {o : Nat} : Zgo d 117 75 (L) (zq (some (11, o)) :: st) (I, R, al) Q ↔ Zgo d 117 78 (L) (zq (R 11 o 33) :: st) (I, R, al) Q := zg_117_75
theorem zh_117_78 {x : Option (Nat × Nat)} : Zgo d 117 78 (some (zq x) :: L) (st) (I, R, al) Q ↔ Zgo d 117 79 (some (zq x) :: L) (zq x :: st) (I, R, al) Q := zg_117_78
theorem zh_117_79 {o : Nat} : Zgo d 117 79 (L) (zq (some (11, o)) :: st) (I, R, al) Q ↔ Zgo d 117 82 (L) (zq (R 11 o 30) :: st) (I, R, al) Q := zg_117_79
theorem zh_117_82 {x : Int} : Zgo d 117 82 (a0 :: a1 :: a2 :: some (zi x) :: L) (st) (I, R, al) Q ↔ Zgo d 117 83 (a0 :: a1 :: a2 :: some (zi x) :: L) (zi x :: st) (I, R, al) Q := zg_117_82
theorem zh_117_83 {j : Int} {c o : Nat} : Zgo d 117 83 (L) (zi j :: zq (some (c, o)) :: st) (I, R, al) Q ↔ zal (zlen (I, R, al) c) 0 j (fun x => Zgo d 117 84 (L) (zi (I c o x) :: st) (I, R, al) Q) := zg_117_83
theorem zh_117_84 {j : Int} {c o : Nat} : Zgo d 117 84 (L) (zi j :: zq (some (c, o)) :: st) (I, R, al) Q ↔ zal (zlen (I, R, al) c) 0 j (fun x => Zgo d 117 85 (L) (zi (I c o x) :: st) (I, R, al) Q) := zg_117_84
theorem zh_117_85 {v j : Int} {c o : Nat} : Zgo d 117 85 (L) (zi v :: zi j :: zq (some (c, o)) :: st) (I, R, al) Q ↔ zal (zArr c) 0 j (fun x => Zgo d 117 86 (L) (st) (zsI I c o x v, R, al) Q) := zg_117_85
theorem zh_117_86 {x : Int} : Zgo d 117 86 (a0 :: a1 :: some (zi x) :: L) (st) (I, R, al) Q ↔ Zgo d 117 89 (a0 :: zkl a1 :: some (zi (x + 1)) :: L) (st) (I, R, al) Q := zg_117_86
theorem zh_117_89 : Zgo d 117 89 (L) (st) (I, R, al) Q ↔ Zgo d 117 248 (L) (st) (I, R, al) Q := zg_117_89
theorem zh_117_92 {x : Option (Nat × Nat)} : Zgo d 117 92 (some (zq x) :: L) (st) (I, R, al) Q ↔ Zgo d 117 93 (some (zq x) :: L) (zq x :: st) (I, R, al) Q := zg_117_92
theorem zh_117_93 {o : Nat} : Zgo d 117 93 (L) (zq (some (11, o)) :: st) (I, R, al) Q ↔ Zgo d 117 96 (L) (zq (R 11 o 54) :: st) (I, R, al) Q := zg_117_93
theorem zh_117_96 {x : Int} : Zgo d 117 96 (a0 :: a1 :: some (zi x) :: L) (st) (I, R, al) Q ↔ Zgo d 117 97 (a0 :: a1 :: some (zi x) :: L) (zi x :: st) (I, R, al) Q := zg_117_96
theorem zh_117_97 : Zgo d 117 97 (L) (st) (I, R, al) Q ↔ Zgo d 117 98 (L) (zi 1 :: st) (I, R, al) Q := zg_117_97
theorem zh_117_98 {x y : Int} : Zgo d 117 98 (L) (zi y :: zi x :: st) (I, R, al) Q ↔ Zgo d 117 99 (L) (zi (x - y) :: st) (I, R, al) Q := zg_117_98
theorem zh_117_99 {j : Int} {c o : Nat} : Zgo d 117 99 (L) (zi j :: zq (some (c, o)) :: st) (I, R, al) Q ↔ zal (zlen (I, R, al) c) 0 j (fun x => Zgo d 117 100 (L) (zi (I c o x) :: st) (I, R, al) Q) := zg_117_99
theorem zh_117_100 {x : Int} : Zgo d 117 100 (a0 :: a1 :: a2 :: a3 :: a4 :: b0 :: L) (zi x :: st) (I, R, al) Q ↔ Zgo d 117 102 (a0 :: a1 :: a2 :: a3 :: zkl a4 :: some (zi x) :: L) (st) (I, R, al) Q := zg_117_100
theorem zh_117_102 {x : Option (Nat × Nat)} : Zgo d 117 102 (some (zq x) :: L) (st) (I, R, al) Q ↔ Zgo d 117 103 (some (zq x) :: L) (zq x :: st) (I, R, al) Q := zg_117_102
theorem zh_117_103 {o : Nat} : Zgo d 117 103 (L) (zq (some (11, o)) :: st) (I, R, al) Q ↔ Zgo d 117 106 (L) (zq (R 11 o 54) :: st) (I, R, al) Q := zg_117_103
theorem zh_117_106 {x : Int} : Zgo d 117 106 (a0 :: a1 :: some (zi x) :: L) (st) (I, R, al) Q ↔ Zgo d 117 107 (a0 :: a1 :: some (zi x) :: L) (zi x :: st) (I, R, al) Q := zg_117_106
theorem zh_117_107 : Zgo d 117 107 (L) (st) (I, R, al) Q ↔ Zgo d 117 108 (L) (zi 2 :: st) (I, R, al) Q := zg_117_107
theorem zh_117_108 {x y : Int} : Zgo d 117 108 (L) (zi y :: zi x :: st) (I, R, al) Q ↔ Zgo d 117 109 (L) (zi (x - y) :: st) (I, R, al) Q := zg_117_108
theorem zh_117_109 {j : Int} {c o : Nat} : Zgo d 117 109 (L) (zi j :: zq (some (c, o)) :: st) (I, R, al) Q ↔ zal (zlen (I, R, al) c) 0 j (fun x => Zgo d 117 110 (L) (zi (I c o x) :: st) (I, R, al) Q) := zg_117_109
theorem zh_117_110 {x : Int} : Zgo d 117 110 (a0 :: a1 :: a2 :: a3 :: a4 :: a5 :: b0 :: L) (zi x :: st) (I, R, al) Q ↔ Zgo d 117 112 (a0 :: a1 :: a2 :: a3 :: a4 :: zkl a5 :: some (zi x) :: L) (st) (I, R, al) Q := zg_117_110
theorem zh_117_112 {x : Option (Nat × Nat)} : Zgo d 117 112 (some (zq x) :: L) (st) (I, R, al) Q ↔ Zgo d 117 113 (some (zq x) :: L) (zq x :: st) (I, R, al) Q := zg_117_112
theorem zh_117_113 {x : Int} : Zgo d 117 113 (a0 :: a1 :: a2 :: a3 :: some (zi x) :: L) (st) (I, R, al) Q ↔ Zgo d 117 115 (a0 :: a1 :: a2 :: a3 :: some (zi x) :: L) (zi x :: st) (I, R, al) Q := zg_117_113
theorem zh_117_115 : Zgo d 117 115 (L) (st) (I, R, al) Q ↔ Zgo d 117 117 (L) (zi 47 :: st) (I, R, al) Q := zg_117_115
theorem zh_117_117 {x y : Int} : Zgo d 117 117 (L) (zi y :: zi x :: st) (I, R, al) Q ↔ if zw x = zw y then Zgo d 117 120 (L) (st) (I, R, al) Q else Zgo d 117 129 (L) (st) (I, R, al) Q := zg_117_117
theorem zh_117_120 {x : Int} : Zgo d 117 120 (a0 :: a1 :: a2 :: a3 :: a4 :: some (zi x) :: L) (st) (I, R, al) Q ↔ Zgo d 117 122 (a0 :: a1 :: a2 :: a3 :: a4 :: some (zi x) :: L) (zi x :: st) (I, R, al) Q := zg_117_120
theorem zh_117_122 {x : Int} : Zgo d 117 122 (L) (zi x :: st) (I, R, al) Q ↔ if zw x = zw 0 then Zgo d 117 125 (L) (st) (I, R, al) Q else Zgo d 117 129 (L) (st) (I, R, al) Q := zg_117_122
theorem zh_117_125 : Zgo d 117 125 (L) (st) (I, R, al) Q ↔ Zgo d 117 126 (L) (zi 1 :: st) (I, R, al) Q := zg_117_125
theorem zh_117_126 : Zgo d 117 126 (L) (st) (I, R, al) Q ↔ Zgo d 117 130 (L) (st) (I, R, al) Q := zg_117_126
theorem zh_117_129 : Zgo d 117 129 (L) (st) (I, R, al) Q ↔ Zgo d 117 130 (L) (zi 0 :: st) (I, R, al) Q := zg_117_129
theorem zh_117_130 {o : Nat} {v : Int} : Zgo d 117 130 (L) (zi v :: zq (some (11, o)) :: st) (I, R, al) Q ↔ zok 1 v False (Zgo d 117 133 (L) (st) (zsI I 11 o 55 v, R, al) Q) := zg_117_130
theorem zh_117_133 {x : Int} : Zgo d 117 133 (a0 :: a1 :: some (zi x) :: L) (st) (I, R, al) Q ↔ Zgo d 117 136 (a0 :: zkl a1 :: some (zi (x + (-1))) :: L) (st) (I, R, al) Q := zg_117_133
theorem zh_117_136 {x : Option (Nat × Nat)} : Zgo d 117 136 (some (zq x) :: L) (st) (I, R, al) Q ↔ Zgo d 117 137 (some (zq x) :: L) (zq x :: st) (I, R, al) Q := zg_117_136
theorem zh_117_137 {o : Nat} : Zgo d 117 137 (L) (zq (some (11, o)) :: st) (I, R, al) Q ↔ Zgo d 117 140 (L) (zq (R 11 o 54) :: st) (I, R, al) Q := zg_117_137
theorem zh_117_140 {x : Int} : Zgo d 117 140 (a0 :: a1 :: some (zi x) :: L) (st) (I, R, al) Q ↔ Zgo d 117 141 (a0 :: a1 :: some (zi x) :: L) (zi x :: st) (I, R, al) Q := zg_117_140
theorem zh_117_141 : Zgo d 117 141 (L) (st) (I, R, al) Q ↔ Zgo d 117 142 (L) (zi 1 :: st) (I, R, al) Q := zg_117_141
theorem zh_117_142 {x y : Int} : Zgo d 117 142 (L) (zi y :: zi x :: st) (I, R, al) Q ↔ Zgo d 117 143 (L) (zi (x - y) :: st) (I, R, al) Q := zg_117_142
theorem zh_117_143 {x : Int} : Zgo d 117 143 (a0 :: a1 :: a2 :: a3 :: some (zi x) :: L) (st) (I, R, al) Q ↔ Zgo d 117 145 (a0 :: a1 :: a2 :: a3 :: some (zi x) :: L) (zi x :: st) (I, R, al) Q := zg_117_143
theorem zh_117_145 : Zgo d 117 145 (L) (st) (I, R, al) Q ↔ Zgo d 117 147 (L) (zi 43 :: st) (I, R, al) Q := zg_117_145
theorem zh_117_147 {x y : Int} : Zgo d 117 147 (L) (zi y :: zi x :: st) (I, R, al) Q ↔ if zw x = zw y then Zgo d 117 150 (L) (st) (I, R, al) Q else Zgo d 117 158 (L) (st) (I, R, al) Q := zg_117_147
theorem zh_117_150 {x : Int} : Zgo d 117 150 (a0 :: a1 :: a2 :: a3 :: a4 :: a5 :: some (zi x) :: L) (st) (I, R, al) Q ↔ Zgo d 117 152 (a0 :: a1 :: a2 :: a3 :: a4 :: a5 :: some (zi x) :: L) (zi x :: st) (I, R, al) Q := zg_117_150
theorem zh_117_152 {x : Int} : Zgo d 117 152 (a0 :: a1 :: a2 :: a3 :: a4 :: some (zi x) :: L) (st) (I, R, al) Q ↔ Zgo d 117 154 (a0 :: a1 :: a2 :: a3 :: a4 :: some (zi x) :: L) (zi x :: st) (I, R, al) Q := zg_117_152
theorem zh_117_154 {x y : Int} : Zgo d 117 154 (L) (zi y :: zi x :: st) (I, R, al) Q ↔ Zgo d 117 155 (L) (zi (x + y) :: st) (I, R, al) Q := zg_117_154
theorem zh_117_155 : Zgo d 117 155 (L) (st) (I, R, al) Q ↔ Zgo d 117 247 (L) (st) (I, R, al) Q := zg_117_155
theorem zh_117_158 {x : Int} : Zgo d 117 158 (a0 :: a1 :: a2 :: a3 :: some (zi x) :: L) (st) (I, R, al) Q ↔ Zgo d 117 160 (a0 :: a1 :: a2 :: a3 :: some (zi x) :: L) (zi x :: st) (I, R, al) Q := zg_117_158
theorem zh_117_160 : Zgo d 117 160 (L) (st) (I, R, al) Q ↔ Zgo d 117 162 (L) (zi 45 :: st) (I, R, al) Q := zg_117_160
theorem zh_117_162 {x y : Int} : Zgo d 117 162 (L) (zi y :: zi x :: st) (I, R, al) Q ↔ if zw x = zw y then Zgo d 117 165 (L) (st) (I, R, al) Q else Zgo d 117 173 (L) (st) (I, R, al) Q := zg_117_162
theorem zh_117_165 {x : Int} : Zgo d 117 165 (a0 :: a1 :: a2 :: a3 :: a4 :: a5 :: some (zi x) :: L) (st) (I, R, al) Q ↔ Zgo d 117 167 (a0 :: a1 :: a2 :: a3 :: a4 :: a5 :: some (zi x) :: L) (zi x :: st) (I, R, al) Q := zg_117_165
theorem zh_117_167 {x : Int} : Zgo d 117 167 (a0 :: a1 :: a2 :: a3 :: a4 :: some (zi x) :: L) (st) (I, R, al) Q ↔ Zgo d 117 169 (a0 :: a1 :: a2 :: a3 :: a4 :: some (zi x) :: L) (zi x :: st) (I, R, al) Q := zg_117_167
theorem zh_117_169 {x y : Int} : Zgo d 117 169 (L) (zi y :: zi x :: st) (I, R, al) Q ↔ Zgo d 117 170 (L) (zi (x - y) :: st) (I, R, al) Q := zg_117_169
theorem zh_117_170 : Zgo d 117 170 (L) (st) (I, R, al) Q ↔ Zgo d 117 247 (L) (st) (I, R, al) Q := zg_117_170
theorem zh_117_173 {x : Int} : Zgo d 117 173 (a0 :: a1 :: a2 :: a3 :: some (zi x) :: L) (st) (I, R, al) Q ↔ Zgo d 117 175 (a0 :: a1 :: a2 :: a3 :: some (zi x) :: L) (zi x :: st) (I, R, al) Q := zg_117_173
theorem zh_117_175 : Zgo d 117 175 (L) (st) (I, R, al) Q ↔ Zgo d 117 177 (L) (zi 42 :: st) (I, R, al) Q := zg_117_175
theorem zh_117_177 {x y : Int} : Zgo d 117 177 (L) (zi y :: zi x :: st) (I, R, al) Q ↔ if zw x = zw y then Zgo d 117 180 (L) (st) (I, R, al) Q else Zgo d 117 188 (L) (st) (I, R, al) Q := zg_117_177
theorem zh_117_180 {x : Int} : Zgo d 117 180 (a0 :: a1 :: a2 :: a3 :: a4 :: a5 :: some (zi x) :: L) (st) (I, R, al) Q ↔ Zgo d 117 182 (a0 :: a1 :: a2 :: a3 :: a4 :: a5 :: some (zi x) :: L) (zi x :: st) (I, R, al) Q := zg_117_180
theorem zh_117_182 {x : Int} : Zgo d 117 182 (a0 :: a1 :: a2 :: a3 :: a4 :: some (zi x) :: L) (st) (I, R, al) Q ↔ Zgo d 117 184 (a0 :: a1 :: a2 :: a3 :: a4 :: some (zi x) :: L) (zi x :: st) (I, R, al) Q := zg_117_182
theorem zh_117_184 {x y : Int} : Zgo d 117 184 (L) (zi y :: zi x :: st) (I, R, al) Q ↔ Zgo d 117 185 (L) (zi (x * y) :: st) (I, R, al) Q := zg_117_184
theorem zh_117_185 : Zgo d 117 185 (L) (st) (I, R, al) Q ↔ Zgo d 117 247 (L) (st) (I, R, al) Q := zg_117_185
theorem zh_117_188 {x : Int} : Zgo d 117 188 (a0 :: a1 :: a2 :: a3 :: some (zi x) :: L) (st) (I, R, al) Q ↔ Zgo d 117 190 (a0 :: a1 :: a2 :: a3 :: some (zi x) :: L) (zi x :: st) (I, R, al) Q := zg_117_188
theorem zh_117_190 : Zgo d 117 190 (L) (st) (I, R, al) Q ↔ Zgo d 117 192 (L) (zi 60 :: st) (I, R, al) Q := zg_117_190
theorem zh_117_192 {x y : Int} : Zgo d 117 192 (L) (zi y :: zi x :: st) (I, R, al) Q ↔ if zw x = zw y then Zgo d 117 195 (L) (st) (I, R, al) Q else Zgo d 117 210 (L) (st) (I, R, al) Q := zg_117_192
theorem zh_117_195 {x : Int} : Zgo d 117 195 (a0 :: a1 :: a2 :: a3 :: a4 :: a5 :: some (zi x) :: L) (st) (I, R, al) Q ↔ Zgo d 117 197 (a0 :: a1 :: a2 :: a3 :: a4 :: a5 :: some (zi x) :: L) (zi x :: st) (I, R, al) Q := zg_117_195
theorem zh_117_197 {x : Int} : Zgo d 117 197 (a0 :: a1 :: a2 :: a3 :: a4 :: some (zi x) :: L) (st) (I, R, al) Q ↔ Zgo d 117 199 (a0 :: a1 :: a2 :: a3 :: a4 :: some (zi x) :: L) (zi x :: st) (I, R, al) Q := zg_117_197
theorem zh_117_199 {x y : Int} : Zgo d 117 199 (L) (zi y :: zi x :: st) (I, R, al) Q ↔ if zw x < zw y then Zgo d 117 202 (L) (st) (I, R, al) Q else Zgo d 117 206 (L) (st) (I, R, al) Q := zg_117_199
theorem zh_117_202 : Zgo d 117 202 (L) (st) (I, R, al) Q ↔ Zgo d 117 203 (L) (zi 1 :: st) (I, R, al) Q := zg_117_202
theorem zh_117_203 : Zgo d 117 203 (L) (st) (I, R, al) Q ↔ Zgo d 117 247 (L) (st) (I, R, al) Q := zg_117_203
theorem zh_117_206 : Zgo d 117 206 (L) (st) (I, R, al) Q ↔ Zgo d 117 207 (L) (zi 0 :: st) (I, R, al) Q := zg_117_206
theorem zh_117_207 : Zgo d 117 207 (L) (st) (I, R, al) Q ↔ Zgo d 117 247 (L) (st) (I, R, al) Q := zg_117_207
theorem zh_117_210 {x : Option (Nat × Nat)} : Zgo d 117 210 (some (zq x) :: L) (st) (I, R, al) Q ↔ Zgo d 117 211 (some (zq x) :: L) (zq x :: st) (I, R, al) Q := zg_117_210
theorem zh_117_211 {o : Nat} : Zgo d 117 211 (L) (zq (some (11, o)) :: st) (I, R, al) Q ↔ Zgo d 117 214 (L) (zi (I 11 o 55) :: st) (I, R, al) Q := zg_117_211
theorem zh_117_214 {x : Int} : Zgo d 117 214 (L) (zi x :: st) (I, R, al) Q ↔ if zw x = zw 0 then Zgo d 117 221 (L) (st) (I, R, al) Q else Zgo d 117 217 (L) (st) (I, R, al) Q := zg_117_214
theorem zh_117_217 : Zgo d 117 217 (L) (st) (I, R, al) Q ↔ Zgo d 117 218 (L) (zi 0 :: st) (I, R, al) Q := zg_117_217
theorem zh_117_218 : Zgo d 117 218 (L) (st) (I, R, al) Q ↔ Zgo d 117 247 (L) (st) (I, R, al) Q := zg_117_218
theorem zh_117_221 {x : Int} : Zgo d 117 221 (a0 :: a1 :: a2 :: a3 :: a4 :: some (zi x) :: L) (st) (I, R, al) Q ↔ Zgo d 117 223 (a0 :: a1 :: a2 :: a3 :: a4 :: some (zi x) :: L) (zi x :: st) (I, R, al) Q := zg_117_221
theorem zh_117_223 : Zgo d 117 223 (L) (st) (I, R, al) Q ↔ Zgo d 117 224 (L) (zi (-1) :: st) (I, R, al) Q := zg_117_223
theorem zh_117_224 {x y : Int} : Zgo d 117 224 (L) (zi y :: zi x :: st) (I, R, al) Q ↔ if zw x = zw y then Zgo d 117 227 (L) (st) (I, R, al) Q else Zgo d 117 233 (L) (st) (I, R, al) Q := zg_117_224
theorem zh_117_227 {x : Int} : Zgo d 117 227 (a0 :: a1 :: a2 :: a3 :: a4 :: a5 :: some (zi x) :: L) (st) (I, R, al) Q ↔ Zgo d 117 229 (a0 :: a1 :: a2 :: a3 :: a4 :: a5 :: some (zi x) :: L) (zi x :: st) (I, R, al) Q := zg_117_227
theorem zh_117_229 {x : Int} : Zgo d 117 229 (L) (zi x :: st) (I, R, al) Q ↔ Zgo d 117 230 (L) (zi (-x) :: st) (I, R, al) Q := zg_117_229
theorem zh_117_230 : Zgo d 117 230 (L) (st) (I, R, al) Q ↔ Zgo d 117 247 (L) (st) (I, R, al) Q := zg_117_230
theorem zh_117_233 {x : Int} : Zgo d 117 233 (a0 :: a1 :: a2 :: a3 :: a4 :: a5 :: some (zi x) :: L) (st) (I, R, al) Q ↔ Zgo d 117 235 (a0 :: a1 :: a2 :: a3 :: a4 :: a5 :: some (zi x) :: L) (zi x :: st) (I, R, al) Q := zg_117_233
theorem zh_117_235 {x : Int} : Zgo d 117 235 (a0 :: a1 :: a2 :: a3 :: a4 :: some (zi x) :: L) (st) (I, R, al) Q ↔ Zgo d 117 237 (a0 :: a1 :: a2 :: a3 :: a4 :: some (zi x) :: L) (zi x :: st) (I, R, al) Q := zg_117_235
theorem zh_117_237 {x : Int} : Zgo d 117 237 (L) (zi x :: st) (I, R, al) Q ↔ if zw x = zw 0 then Zgo d 117 240 (L) (st) (I, R, al) Q else Zgo d 117 244 (L) (st) (I, R, al) Q := zg_117_237
theorem zh_117_240 : Zgo d 117 240 (L) (st) (I, R, al) Q ↔ Zgo d 117 241 (L) (zi 1 :: st) (I, R, al) Q := zg_117_240
theorem zh_117_241 : Zgo d 117 241 (L) (st) (I, R, al) Q ↔ Zgo d 117 246 (L) (st) (I, R, al) Q := zg_117_241
theorem zh_117_244 {x : Int} : Zgo d 117 244 (a0 :: a1 :: a2 :: a3 :: a4 :: some (zi x) :: L) (st) (I, R, al) Q ↔ Zgo d 117 246 (a0 :: a1 :: a2 :: a3 :: a4 :: some (zi x) :: L) (zi x :: st) (I, R, al) Q := zg_117_244
theorem zh_117_246 {x y : Int} : Zgo d 117 246 (L) (zi y :: zi x :: st) (I, R, al) Q ↔ if zw y = 0 then False else Zgo d 117 247 (L) (zi (zdiv x y) :: st) (I, R, al) Q := zg_117_246
theorem zh_117_247 {v j : Int} {c o : Nat} : Zgo d 117 247 (L) (zi v :: zi j :: zq (some (c, o)) :: st) (I, R, al) Q ↔ zal (zArr c) 0 j (fun x => Zgo d 117 248 (L) (st) (zsI I c o x v, R, al) Q) := zg_117_247
theorem zh_117_248 {x : Int} : Zgo d 117 248 (a0 :: a1 :: a2 :: some (zi x) :: L) (st) (I, R, al) Q ↔ Zgo d 117 251 (a0 :: a1 :: zkl a2 :: some (zi (x + 1)) :: L) (st) (I, R, al) Q := zg_117_248
theorem zh_117_251 : Zgo d 117 251 (L) (st) (I, R, al) Q ↔ Zgo d 117 14 (L) (st) (I, R, al) Q := zg_117_251
theorem zh_117_254 {x : Option (Nat × Nat)} : Zgo d 117 254 (some (zq x) :: L) (st) (I, R, al) Q ↔ Zgo d 117 255 (some (zq x) :: L) (zq x :: st) (I, R, al) Q := zg_117_254
theorem zh_117_255 {o : Nat} : Zgo d 117 255 (L) (zq (some (11, o)) :: st) (I, R, al) Q ↔ Zgo d 117 258 (L) (zi (I 11 o 55) :: st) (I, R, al) Q := zg_117_255
theorem zh_117_258 {x : Int} : Zgo d 117 258 (L) (zi x :: st) (I, R, al) Q ↔ if zw x = zw 0 then Zgo d 117 268 (L) (st) (I, R, al) Q else Zgo d 117 261 (L) (st) (I, R, al) Q := zg_117_258
theorem zh_117_261 {x : Option (Nat × Nat)} : Zgo d 117 261 (some (zq x) :: L) (st) (I, R, al) Q ↔ Zgo d 117 262 (some (zq x) :: L) (zq x :: st) (I, R, al) Q := zg_117_261
theorem zh_117_262 : Zgo d 117 262 (L) (st) (I, R, al) Q ↔ Zgo d 117 263 (L) (zi 4 :: st) (I, R, al) Q := zg_117_262
theorem zh_117_263 : Zgo d 117 263 (L) (st) (I, R, al) Q ↔ Zgo d 117 264 (L) (zi 5 :: st) (I, R, al) Q := zg_117_263
theorem zh_117_264 : Zgo d 117 264 (L) (st) (I, R, al) Q ↔ Zgo d 117 265 (L) (zi 0 :: st) (I, R, al) Q := zg_117_264
theorem zh_117_265 {v1 v2 v3 : zV} {o : Nat} : Zgo d 117 265 (L) (v3 :: v2 :: v1 :: zq (some (11, o)) :: st) (I, R, al) Q ↔ if zwt st ≤ 8 then zCp d 111 [zq (some (11, o)), v1, v2, v3] (I, R, al) (fun r S2 => Zgo d 117 268 L (r.toList ++ st) S2 Q) else False := zg_117_265
theorem zh_117_268 {x : Option (Nat × Nat)} : Zgo d 117 268 (some (zq x) :: L) (st) (I, R, al) Q ↔ Zgo d 117 269 (some (zq x) :: L) (zq x :: st) (I, R, al) Q := zg_117_268
theorem zh_117_269 {o : Nat} : Zgo d 117 269 (L) (zq (some (11, o)) :: st) (I, R, al) Q ↔ Zgo d 117 272 (L) (zq (R 11 o 54) :: st) (I, R, al) Q := zg_117_269
theorem zh_117_272 : Zgo d 117 272 (L) (st) (I, R, al) Q ↔ Zgo d 117 273 (L) (zi 0 :: st) (I, R, al) Q := zg_117_272
theorem zh_117_273 {j : Int} {c o : Nat} : Zgo d 117 273 (L) (zi j :: zq (some (c, o)) :: st) (I, R, al) Q ↔ zal (zlen (I, R, al) c) 0 j (fun x => Zgo d 117 274 (L) (zi (I c o x) :: st) (I, R, al) Q) := zg_117_273
theorem zh_117_274 {x : Int} : Zgo d 117 274 (L) (zi x :: []) (I, R, al) Q ↔ Q (some (zi x)) (I, R, al) := zg_117_274
theorem zh_118_0 {x : Option (Nat × Nat)} : Zgo d 118 0 (some (zq x) :: L) (st) (I, R, al) Q ↔ Zgo d 118 1 (some (zq x) :: L) (zq x :: st) (I, R, al) Q := zg_118_0
theorem zh_118_1 {o : Nat} : Zgo d 118 1 (L) (zq (some (11, o)) :: st) (I, R, al) Q ↔ Zgo d 118 4 (L) (zq (R 11 o 25) :: st) (I, R, al) Q := zg_118_1
theorem zh_118_4 {x : Option (Nat × Nat)} : Zgo d 118 4 (some (zq x) :: L) (st) (I, R, al) Q ↔ Zgo d 118 5 (some (zq x) :: L) (zq x :: st) (I, R, al) Q := zg_118_4
theorem zh_118_5 {x : Int} : Zgo d 118 5 (a0 :: some (zi x) :: L) (st) (I, R, al) Q ↔ Zgo d 118 6 (a0 :: some (zi x) :: L) (zi x :: st) (I, R, al) Q := zg_118_5
theorem zh_118_6 : Zgo d 118 6 (L) (st) (I, R, al) Q ↔ Zgo d 118 8 (L) (zi 89 :: st) (I, R, al) Q := zg_118_6
theorem zh_118_8 : Zgo d 118 8 (L) (st) (I, R, al) Q ↔ Zgo d 118 9 (L) (zi 2 :: st) (I, R, al) Q := zg_118_8
theorem zh_118_9 : Zgo d 118 9 (L) (st) (I, R, al) Q ↔ Zgo d 118 10 (L) (zi 4 :: st) (I, R, al) Q := zg_118_9
theorem zh_118_10 {v1 v2 v3 v4 : zV} {o : Nat} : Zgo d 118 10 (L) (v4 :: v3 :: v2 :: v1 :: zq (some (11, o)) :: st) (I, R, al) Q ↔ if zwt st ≤ 8 then zCp d 105 [zq (some (11, o)), v1, v2, v3, v4] (I, R, al) (fun r S2 => Zgo d 118 13 L (r.toList ++ st) S2 Q) else False := zg_118_10
theorem zh_118_13 {j : Int} {c o : Nat} : Zgo d 118 13 (L) (zi j :: zq (some (c, o)) :: st) (I, R, al) Q ↔ zal (zlen (I, R, al) c) 0 j (fun x => Zgo d 118 14 (L) (zi (I c o x) :: st) (I, R, al) Q) := zg_118_13
theorem zh_118_14 {x : Int} : Zgo d 118 14 (a0 :: a1 :: b0 :: L) (zi x :: st) (I, R, al) Q ↔ Zgo d 118 15 (a0 :: zkl a1 :: some (zi x) :: L) (st) (I, R, al) Q := zg_118_14
theorem zh_118_15 {x : Option (Nat × Nat)} : Zgo d 118 15 (some (zq x) :: L) (st) (I, R, al) Q ↔ Zgo d 118 16 (some (zq x) :: L) (zq x :: st) (I, R, al) Q := zg_118_15
theorem zh_118_16 {o : Nat} : Zgo d 118 16 (L) (zq (some (11, o)) :: st) (I, R, al) Q ↔ Zgo d 118 19 (L) (zi (I 11 o 41) :: st) (I, R, al) Q := zg_118_16
theorem zh_118_19 : Zgo d 118 19 (L) (st) (I, R, al) Q ↔ Zgo d 118 20 (L) (zi 1 :: st) (I, R, al) Q := zg_118_19
theorem zh_118_20 {x y : Int} : Zgo d 118 20 (L) (zi y :: zi x :: st) (I, R, al) Q ↔ Zgo d 118 21 (L) (zi (x - y) :: st) (I, R, al) Q := zg_118_20
theorem zh_118_21 {x : Int} : Zgo d 118 21 (a0 :: a1 :: a2 :: b0 :: L) (zi x :: st) (I, R, al) Q ↔ Zgo d 118 22 (a0 :: a1 :: zkl a2 :: some (zi x) :: L) (st) (I, R, al) Q := zg_118_21
theorem zh_118_22 {x : Int} : Zgo d 118 22 (a0 :: a1 :: a2 :: some (zi x) :: L) (st) (I, R, al) Q ↔ Zgo d 118 23 (a0 :: a1 :: a2 :: some (zi x) :: L) (zi x :: st) (I, R, al) Q := zg_118_22
theorem zh_118_23 {x : Int} : Zgo d 118 23 (L) (zi x :: st) (I, R, al) Q ↔ if zw 0 < zw x then Zgo d 118 26 (L) (st) (I, R, al) Q else Zgo d 118 52 (L) (st) (I, R, al) Q := zg_118_23
theorem zh_118_26 {x : Option (Nat × Nat)} : Zgo d 118 26 (some (zq x) :: L) (st) (I, R, al) Q ↔ Zgo d 118 27 (some (zq x) :: L) (zq x :: st) (I, R, al) Q := zg_118_26
theorem zh_118_27 {o : Nat} : Zgo d 118 27 (L) (zq (some (11, o)) :: st) (I, R, al) Q ↔ Zgo d 118 30 (L) (zq (R 11 o 42) :: st) (I, R, al) Q := zg_118_27
theorem zh_118_30 {x : Int} : Zgo d 118 30 (a0 :: a1 :: a2 :: some (zi x) :: L) (st) (I, R, al) Q ↔ Zgo d 118 31 (a0 :: a1 :: a2 :: some (zi x) :: L) (zi x :: st) (I, R, al) Q := zg_118_30
theorem zh_118_31 {j : Int} {c o : Nat} : Zgo d 118 31 (L) (zi j :: zq (some (c, o)) :: st) (I, R, al) Q ↔ zal (zlen (I, R, al) c) 0 j (fun x => Zgo d 118 32 (L) (zi (I c o x) :: st) (I, R, al) Q) := zg_118_31
theorem zh_118_32 : Zgo d 118 32 (L) (st) (I, R, al) Q ↔ Zgo d 118 33 (L) (zi 3 :: st) (I, R, al) Q := zg_118_32
theorem zh_118_33 {x y : Int} : Zgo d 118 33 (L) (zi y :: zi x :: st) (I, R, al) Q ↔ if zw x = zw y then Zgo d 118 36 (L) (st) (I, R, al) Q else Zgo d 118 46 (L) (st) (I, R, al) Q := zg_118_33
theorem zh_118_36 {x : Option (Nat × Nat)} : Zgo d 118 36 (some (zq x) :: L) (st) (I, R, al) Q ↔ Zgo d 118 37 (some (zq x) :: L) (zq x :: st) (I, R, al) Q := zg_118_36
theorem zh_118_37 {o : Nat} : Zgo d 118 37 (L) (zq (some (11, o)) :: st) (I, R, al) Q ↔ Zgo d 118 40 (L) (zq (R 11 o 43) :: st) (I, R, al) Q := zg_118_37
theorem zh_118_40 {x : Int} : Zgo d 118 40 (a0 :: a1 :: a2 :: some (zi x) :: L) (st) (I, R, al) Q ↔ Zgo d 118 41 (a0 :: a1 :: a2 :: some (zi x) :: L) (zi x :: st) (I, R, al) Q := zg_118_40
theorem zh_118_41 {j : Int} {c o : Nat} : Zgo d 118 41 (L) (zi j :: zq (some (c, o)) :: st) (I, R, al) Q ↔ zal (zlen (I, R, al) c) 0 j (fun x => Zgo d 118 42 (L) (zi (I c o x) :: st) (I, R, al) Q) := zg_118_41
theorem zh_118_42 {x : Int} : Zgo d 118 42 (a0 :: a1 :: some (zi x) :: L) (st) (I, R, al) Q ↔ Zgo d 118 43 (a0 :: a1 :: some (zi x) :: L) (zi x :: st) (I, R, al) Q := zg_118_42
theorem zh_118_43 {x y : Int} : Zgo d 118 43 (L) (zi y :: zi x :: st) (I, R, al) Q ↔ if zw x = zw y then Zgo d 118 52 (L) (st) (I, R, al) Q else Zgo d 118 46 (L) (st) (I, R, al) Q := zg_118_43
theorem zh_118_46 {x : Int} : Zgo d 118 46 (a0 :: a1 :: a2 :: some (zi x) :: L) (st) (I, R, al) Q ↔ Zgo d 118 49 (a0 :: a1 :: zkl a2 :: some (zi (x + (-1))) :: L) (st) (I, R, al) Q := zg_118_46
theorem zh_118_49 : Zgo d 118 49 (L) (st) (I, R, al) Q ↔ Zgo d 118 22 (L) (st) (I, R, al) Q := zg_118_49
theorem zh_118_52 {x : Option (Nat × Nat)} : Zgo d 118 52 (some (zq x) :: L) (st) (I, R, al) Q ↔ Zgo d 118 53 (some (zq x) :: L) (zq x :: st) (I, R, al) Q := zg_118_52
theorem zh_118_53 : Zgo d 118 53 (L) (st) (I, R, al) Q ↔ Zgo d 118 54 (L) (zi 4 :: st) (I, R, al) Q := zg_118_53
theorem zh_118_54 {x : Option (Nat × Nat)} : Zgo d 118 54 (some (zq x) :: L) (st) (I, R, al) Q ↔ Zgo d 118 55 (some (zq x) :: L) (zq x :: st) (I, R, al) Q := zg_118_54
theorem zh_118_55 {o : Nat} : Zgo d 118 55 (L) (zq (some (11, o)) :: st) (I, R, al) Q ↔ Zgo d 118 58 (L) (zq (R 11 o 45) :: st) (I, R, al) Q := zg_118_55
theorem zh_118_58 {x : Int} : Zgo d 118 58 (a0 :: a1 :: a2 :: some (zi x) :: L) (st) (I, R, al) Q ↔ Zgo d 118 59 (a0 :: a1 :: a2 :: some (zi x) :: L) (zi x :: st) (I, R, al) Q := zg_118_58
theorem zh_118_59 {j : Int} {c o : Nat} : Zgo d 118 59 (L) (zi j :: zq (some (c, o)) :: st) (I, R, al) Q ↔ zal (zlen (I, R, al) c) 0 j (fun x => Zgo d 118 60 (L) (zi (I c o x) :: st) (I, R, al) Q) := zg_118_59
theorem zh_118_60 {x : Option (Nat × Nat)} : Zgo d 118 60 (some (zq x) :: L) (st) (I, R, al) Q ↔ Zgo d 118 61 (some (zq x) :: L) (zq x :: st) (I, R, al) Q := zg_118_60
theorem zh_118_61 {o : Nat} : Zgo d 118 61 (L) (zq (some (11, o)) :: st) (I, R, al) Q ↔ Zgo d 118 64 (L) (zq (R 11 o 46) :: st) (I, R, al) Q := zg_118_61
theorem zh_118_64 {x : Int} : Zgo d 118 64 (a0 :: a1 :: a2 :: some (zi x) :: L) (st) (I, R, al) Q ↔ Zgo d 118 65 (a0 :: a1 :: a2 :: some (zi x) :: L) (zi x :: st) (I, R, al) Q := zg_118_64
theorem zh_118_65 {j : Int} {c o : Nat} : Zgo d 118 65 (L) (zi j :: zq (some (c, o)) :: st) (I, R, al) Q ↔ zal (zlen (I, R, al) c) 0 j (fun x => Zgo d 118 66 (L) (zi (I c o x) :: st) (I, R, al) Q) := zg_118_65
theorem zh_118_66 {v1 v2 v3 : zV} {o : Nat} : Zgo d 118 66 (L) (v3 :: v2 :: v1 :: zq (some (11, o)) :: st) (I, R, al) Q ↔ if zwt st ≤ 8 then zCp d 111 [zq (some (11, o)), v1, v2, v3] (I, R, al) (fun r S2 => Zgo d 118 69 L (r.toList ++ st) S2 Q) else False := zg_118_66
theorem zh_118_69 : Zgo d 118 69 (L) ([]) (I, R, al) Q ↔ Q none (I, R, al) := zg_118_69
theorem zh_119_0 {x : Option (Nat × Nat)} : Zgo d 119 0 (some (zq x) :: L) (st) (I, R, al) Q ↔ Zgo d 119 1 (some (zq x) :: L) (zq x :: st) (I, R, al) Q := zg_119_0
theorem zh_119_1 {o : Nat} : Zgo d 119 1 (L) (zq (some (11, o)) :: st) (I, R, al) Q ↔ Zgo d 119 4 (L) (zi (I 11 o 53) :: st) (I, R, al) Q := zg_119_1
theorem zh_119_4 : Zgo d 119 4 (L) (st) (I, R, al) Q ↔ Zgo d 119 6 (L) (zi 8 :: st) (I, R, al) Q := zg_119_4
theorem zh_119_6 {x y : Int} : Zgo d 119 6 (L) (zi y :: zi x :: st) (I, R, al) Q ↔ if zw x = zw y then Zgo d 119 9 (L) (st) (I, R, al) Q else Zgo d 119 18 (L) (st) (I, R, al) Q := zg_119_6
theorem zh_119_9 {x : Option (Nat × Nat)} : Zgo d 119 9 (some (zq x) :: L) (st) (I, R, al) Q ↔ Zgo d 119 10 (some (zq x) :: L) (zq x :: st) (I, R, al) Q := zg_119_9
theorem zh_119_10 : Zgo d 119 10 (L) (st) (I, R, al) Q ↔ Zgo d 119 11 (L) (zi 4 :: st) (I, R, al) Q := zg_119_10
theorem zh_119_11 : Zgo d 119 11 (L) (st) (I, R, al) Q ↔ Zgo d 119 13 (L) (zi 6 :: st) (I, R, al) Q := zg_119_11
theorem zh_119_13 : Zgo d 119 13 (L) (st) (I, R, al) Q ↔ Zgo d 119 14 (L) (zi 0 :: st) (I, R, al) Q := zg_119_13
theorem zh_119_14 {v1 v2 v3 : zV} {o : Nat} : Zgo d 119 14 (L) (v3 :: v2 :: v1 :: zq (some (11, o)) :: st) (I, R, al) Q ↔ if zwt st ≤ 8 then zCp d 111 [zq (some (11, o)), v1, v2, v3] (I, R, al) (fun r S2 => Zgo d 119 17 L (r.toList ++ st) S2 Q) else False := zg_119_14
theorem zh_119_17 : Zgo d 119 17 (L) ([]) (I, R, al) Q ↔ Q none (I, R, al) := zg_119_17
theorem zh_119_18 {x : Option (Nat × Nat)} : Zgo d 119 18 (some (zq x) :: L) (st) (I, R, al) Q ↔ Zgo d 119 19 (some (zq x) :: L) (zq x :: st) (I, R, al) Q := zg_119_18
theorem zh_119_19 {x : Int} : Zgo d 119 19 (L) (zi x :: st) (I, R, al) Q ↔ Zgo d 119 20 (L) (zi x :: zi x :: st) (I, R, al) Q := zg_119_19
theorem zh_119_19q {u : Option (Nat × Nat)} : Zgo d 119 19 (L) (zq u :: st) (I, R, al) Q ↔ Zgo d 119 20 (L) (zq u :: zq u :: st) (I, R, al) Q := zg_119_19
theorem zh_119_20 {o : Nat} : Zgo d 119 20 (L) (zq (some (11, o)) :: st) (I, R, al) Q ↔ Zgo d 119 23 (L) (zi (I 11 o 53) :: st) (I, R, al) Q := zg_119_20
theorem zh_119_23 : Zgo d 119 23 (L) (st) (I, R, al) Q ↔ Zgo d 119 24 (L) (zi 1 :: st) (I, R, al) Q := zg_119_23
theorem zh_119_24 {x y : Int} : Zgo d 119 24 (L) (zi y :: zi x :: st) (I, R, al) Q ↔ Zgo d 119 25 (L) (zi (x + y) :: st) (I, R, al) Q := zg_119_24
theorem zh_119_25 {o : Nat} {v : Int} : Zgo d 119 25 (L) (zi v :: zq (some (11, o)) :: st) (I, R, al) Q ↔ Zgo d 119 28 (L) (st) (zsI I 11 o 53 v, R, al) Q := zg_119_25
theorem zh_119_28 {x : Option (Nat × Nat)} : Zgo d 119 28 (some (zq x) :: L) (st) (I, R, al) Q ↔ Zgo d 119 29 (some (zq x) :: L) (zq x :: st) (I, R, al) Q := zg_119_28
theorem zh_119_29 {x : Option (Nat × Nat)} : Zgo d 119 29 (some (zq x) :: L) (st) (I, R, al) Q ↔ Zgo d 119 30 (some (zq x) :: L) (zq x :: st) (I, R, al) Q := zg_119_29
theorem zh_119_30 {o : Nat} : Zgo d 119 30 (L) (zq (some (11, o)) :: st) (I, R, al) Q ↔ Zgo d 119 33 (L) (zi (I 11 o 53) :: st) (I, R, al) Q := zg_119_30
theorem zh_119_33 {x : Option (Nat × Nat)} : Zgo d 119 33 (some (zq x) :: L) (st) (I, R, al) Q ↔ Zgo d 119 34 (some (zq x) :: L) (zq x :: st) (I, R, al) Q := zg_119_33
theorem zh_119_34 {o : Nat} : Zgo d 119 34 (L) (zq (some (11, o)) :: st) (I, R, al) Q ↔ Zgo d 119 37 (L) (zi (I 11 o 38) :: st) (I, R, al) Q := zg_119_34
theorem zh_119_37 {x y : Int} : Zgo d 119 37 (L) (zi y :: zi x :: st) (I, R, al) Q ↔ if zw y < zw x then Zgo d 119 40 (L) (st) (I, R, al) Q else Zgo d 119 47 (L) (st) (I, R, al) Q := zg_119_37
theorem zh_119_40 {x : Option (Nat × Nat)} : Zgo d 119 40 (some (zq x) :: L) (st) (I, R, al) Q ↔ Zgo d 119 41 (some (zq x) :: L) (zq x :: st) (I, R, al) Q := zg_119_40
theorem zh_119_41 {o : Nat} : Zgo d 119 41 (L) (zq (some (11, o)) :: st) (I, R, al) Q ↔ Zgo d 119 44 (L) (zi (I 11 o 53) :: st) (I, R, al) Q := zg_119_41
theorem zh_119_44 : Zgo d 119 44 (L) (st) (I, R, al) Q ↔ Zgo d 119 51 (L) (st) (I, R, al) Q := zg_119_44
theorem zh_119_47 {x : Option (Nat × Nat)} : Zgo d 119 47 (some (zq x) :: L) (st) (I, R, al) Q ↔ Zgo d 119 48 (some (zq x) :: L) (zq x :: st) (I, R, al) Q := zg_119_47
theorem zh_119_48 {o : Nat} : Zgo d 119 48 (L) (zq (some (11, o)) :: st) (I, R, al) Q ↔ Zgo d 119 51 (L) (zi (I 11 o 38) :: st) (I, R, al) Q := zg_119_48
theorem zh_119_51 {o : Nat} {v : Int} : Zgo d 119 51 (L) (zi v :: zq (some (11, o)) :: st) (I, R, al) Q ↔ Zgo d 119 54 (L) (st) (zsI I 11 o 38 v, R, al) Q := zg_119_51
theorem zh_119_54 {x : Option (Nat × Nat)} : Zgo d 119 54 (some (zq x) :: L) (st) (I, R, al) Q ↔ Zgo d 119 55 (some (zq x) :: L) (zq x :: st) (I, R, al) Q := zg_119_54
theorem zh_119_55 : Zgo d 119 55 (L) (st) (I, R, al) Q ↔ Zgo d 119 56 (L) (zi 2 :: st) (I, R, al) Q := zg_119_55
theorem zh_119_56 {x : Int} : Zgo d 119 56 (a0 :: some (zi x) :: L) (st) (I, R, al) Q ↔ Zgo d 119 57 (a0 :: some (zi x) :: L) (zi x :: st) (I, R, al) Q := zg_119_56
theorem zh_119_57 {v1 v2 : zV} {o : Nat} : Zgo d 119 57 (L) (v2 :: v1 :: zq (some (11, o)) :: st) (I, R, al) Q ↔ if zwt st ≤ 8 then zCp d 113 [zq (some (11, o)), v1, v2] (I, R, al) (fun r S2 => Zgo d 119 60 L (r.toList ++ st) S2 Q) else False := zg_119_57
theorem zh_119_60 {x : Option (Nat × Nat)} : Zgo d 119 60 (some (zq x) :: L) (st) (I, R, al) Q ↔ Zgo d 119 61 (some (zq x) :: L) (zq x :: st) (I, R, al) Q := zg_119_60
theorem zh_119_61 {x : Option (Nat × Nat)} : Zgo d 119 61 (some (zq x) :: L) (st) (I, R, al) Q ↔ Zgo d 119 62 (some (zq x) :: L) (zq x :: st) (I, R, al) Q := zg_119_61
theorem zh_119_62 {o : Nat} : Zgo d 119 62 (L) (zq (some (11, o)) :: st) (I, R, al) Q ↔ Zgo d 119 65 (L) (zq (R 11 o 9) :: st) (I, R, al) Q := zg_119_62
theorem zh_119_65 {x : Option (Nat × Nat)} : Zgo d 119 65 (some (zq x) :: L) (st) (I, R, al) Q ↔ Zgo d 119 66 (some (zq x) :: L) (zq x :: st) (I, R, al) Q := zg_119_65
theorem zh_119_66 {x : Option (Nat × Nat)} : Zgo d 119 66 (some (zq x) :: L) (st) (I, R, al) Q ↔ Zgo d 119 67 (some (zq x) :: L) (zq x :: st) (I, R, al) Q := zg_119_66
theorem zh_119_67 {o : Nat} : Zgo d 119 67 (L) (zq (some (11, o)) :: st) (I, R, al) Q ↔ Zgo d 119 70 (L) (zq (R 11 o 12) :: st) (I, R, al) Q := zg_119_67
theorem zh_119_70 {x : Int} : Zgo d 119 70 (a0 :: some (zi x) :: L) (st) (I, R, al) Q ↔ Zgo d 119 71 (a0 :: some (zi x) :: L) (zi x :: st) (I, R, al) Q := zg_119_70
theorem zh_119_71 {j : Int} {c o : Nat} : Zgo d 119 71 (L) (zi j :: zq (some (c, o)) :: st) (I, R, al) Q ↔ zal (zlen (I, R, al) c) 0 j (fun x => Zgo d 119 72 (L) (zi (I c o x) :: st) (I, R, al) Q) := zg_119_71
theorem zh_119_72 {v1 : zV} {o : Nat} : Zgo d 119 72 (L) (v1 :: zq (some (11, o)) :: st) (I, R, al) Q ↔ if zwt st ≤ 8 then zCp d 106 [zq (some (11, o)), v1] (I, R, al) (fun r S2 => Zgo d 119 75 L (r.toList ++ st) S2 Q) else False := zg_119_72
theorem zh_119_75 {j : Int} {c o : Nat} : Zgo d 119 75 (L) (zi j :: zq (some (c, o)) :: st) (I, R, al) Q ↔ zal (zlen (I, R, al) c) 0 j (fun x => Zgo d 119 76 (L) (zi (I c o x) :: st) (I, R, al) Q) := zg_119_75
theorem zh_119_76 {v1 : zV} {o : Nat} : Zgo d 119 76 (L) (v1 :: zq (some (11, o)) :: st) (I, R, al) Q ↔ if zwt st ≤ 8 then zCp d 112 [zq (some (11, o)), v1] (I, R, al) (fun r S2 => Zgo d 119 79 L (r.toList ++ st) S2 Q) else False := zg_119_76
theorem zh_119_79 : Zgo d 119 79 (L) ([]) (I, R, al) Q ↔ Q none (I, R, al) := zg_119_79
theorem zh_120_0 {x : Option (Nat × Nat)} : Zgo d 120 0 (some (zq x) :: L) (st) (I, R, al) Q ↔ Zgo d 120 1 (some (zq x) :: L) (zq x :: st) (I, R, al) Q := zg_120_0
theorem zh_120_1 {o : Nat} : Zgo d 120 1 (L) (zq (some (11, o)) :: st) (I, R, al) Q ↔ Zgo d 120 4 (L) (zq (R 11 o 15) :: st) (I, R, al) Q := zg_120_1
theorem zh_120_4 : Zgo d 120 4 (L) (st) (I, R, al) Q ↔ Zgo d 120 6 (L) (zi 6 :: st) (I, R, al) Q := zg_120_4
theorem zh_120_6 {x : Option (Nat × Nat)} : Zgo d 120 6 (some (zq x) :: L) (st) (I, R, al) Q ↔ Zgo d 120 7 (some (zq x) :: L) (zq x :: st) (I, R, al) Q := zg_120_6
theorem zh_120_7 {o : Nat} : Zgo d 120 7 (L) (zq (some (11, o)) :: st) (I, R, al) Q ↔ Zgo d 120 10 (L) (zq (R 11 o 43) :: st) (I, R, al) Q := zg_120_7
theorem zh_120_10 {x : Int} : Zgo d 120 10 (a0 :: some (zi x) :: L) (st) (I, R, al) Q ↔ Zgo d 120 11 (a0 :: some (zi x) :: L) (zi x :: st) (I, R, al) Q := zg_120_10
theorem zh_120_11 {j : Int} {c o : Nat} : Zgo d 120 11 (L) (zi j :: zq (some (c, o)) :: st) (I, R, al) Q ↔ zal (zlen (I, R, al) c) 0 j (fun x => Zgo d 120 12 (L) (zi (I c o x) :: st) (I, R, al) Q) := zg_120_11
theorem zh_120_12 {x y : Int} : Zgo d 120 12 (L) (zi y :: zi x :: st) (I, R, al) Q ↔ Zgo d 120 13 (L) (zi (x * y) :: st) (I, R, al) Q := zg_120_12
theorem zh_120_13 : Zgo d 120 13 (L) (st) (I, R, al) Q ↔ Zgo d 120 14 (L) (zi 5 :: st) (I, R, al) Q := zg_120_13
theorem zh_120_14 {x y : Int} : Zgo d 120 14 (L) (zi y :: zi x :: st) (I, R, al) Q ↔ Zgo d 120 15 (L) (zi (x + y) :: st) (I, R, al) Q := zg_120_14
theorem zh_120_15 {j : Int} {c o : Nat} : Zgo d 120 15 (L) (zi j :: zq (some (c, o)) :: st) (I, R, al) Q ↔ zal (zlen (I, R, al) c) 0 j (fun x => Zgo d 120 16 (L) (zi (I c o x) :: st) (I, R, al) Q) := zg_120_15
theorem zh_120_16 {x : Int} : Zgo d 120 16 (a0 :: a1 :: b0 :: L) (zi x :: st) (I, R, al) Q ↔ Zgo d 120 17 (a0 :: zkl a1 :: some (zi x) :: L) (st) (I, R, al) Q := zg_120_16
theorem zh_120_17 {x : Int} : Zgo d 120 17 (a0 :: a1 :: some (zi x) :: L) (st) (I, R, al) Q ↔ Zgo d 120 18 (a0 :: a1 :: some (zi x) :: L) (zi x :: st) (I, R, al) Q := zg_120_17
theorem zh_120_18 {x : Int} : Zgo d 120 18 (L) (zi x :: st) (I, R, al) Q ↔ if zw x < zw 0 then Zgo d 120 21 (L) (st) (I, R, al) Q else Zgo d 120 27 (L) (st) (I, R, al) Q := zg_120_18
theorem zh_120_21 {x : Option (Nat × Nat)} : Zgo d 120 21 (some (zq x) :: L) (st) (I, R, al) Q ↔ Zgo d 120 22 (some (zq x) :: L) (zq x :: st) (I, R, al) Q := zg_120_21
theorem zh_120_22 {x : Int} : Zgo d 120 22 (a0 :: some (zi x) :: L) (st) (I, R, al) Q ↔ Zgo d 120 23 (a0 :: some (zi x) :: L) (zi x :: st) (I, R, al) Q := zg_120_22
theorem zh_120_23 {o : Nat} {v : Int} : Zgo d 120 23 (L) (zi v :: zq (some (11, o)) :: st) (I, R, al) Q ↔ Zgo d 120 26 (L) (st) (zsI I 11 o 41 v, R, al) Q := zg_120_23
theorem zh_120_26 : Zgo d 120 26 (L) ([]) (I, R, al) Q ↔ Q none (I, R, al) := zg_120_26
theorem zh_120_27 {x : Option (Nat × Nat)} : Zgo d 120 27 (some (zq x) :: L) (st) (I, R, al) Q ↔ Zgo d 120 28 (some (zq x) :: L) (zq x :: st) (I, R, al) Q := zg_120_27
theorem zh_120_28 {o : Nat} : Zgo d 120 28 (L) (zq (some (11, o)) :: st) (I, R, al) Q ↔ Zgo d 120 31 (L) (zq (R 11 o 44) :: st) (I, R, al) Q := zg_120_28
theorem zh_120_31 {x : Int} : Zgo d 120 31 (a0 :: some (zi x) :: L) (st) (I, R, al) Q ↔ Zgo d 120 32 (a0 :: some (zi x) :: L) (zi x :: st) (I, R, al) Q := zg_120_31
theorem zh_120_32 : Zgo d 120 32 (L) (st) (I, R, al) Q ↔ Zgo d 120 33 (L) (zi 2 :: st) (I, R, al) Q := zg_120_32
theorem zh_120_33 {v j : Int} {c o : Nat} : Zgo d 120 33 (L) (zi v :: zi j :: zq (some (c, o)) :: st) (I, R, al) Q ↔ zal (zArr c) 0 j (fun x => Zgo d 120 34 (L) (st) (zsI I c o x v, R, al) Q) := zg_120_33
theorem zh_120_34 {x : Option (Nat × Nat)} : Zgo d 120 34 (some (zq x) :: L) (st) (I, R, al) Q ↔ Zgo d 120 35 (some (zq x) :: L) (zq x :: st) (I, R, al) Q := zg_120_34
theorem zh_120_35 {o : Nat} : Zgo d 120 35 (L) (zq (some (11, o)) :: st) (I, R, al) Q ↔ Zgo d 120 38 (L) (zq (R 11 o 47) :: st) (I, R, al) Q := zg_120_35
theorem zh_120_38 {x : Int} : Zgo d 120 38 (a0 :: some (zi x) :: L) (st) (I, R, al) Q ↔ Zgo d 120 39 (a0 :: some (zi x) :: L) (zi x :: st) (I, R, al) Q := zg_120_38
theorem zh_120_39 {x : Option (Nat × Nat)} : Zgo d 120 39 (some (zq x) :: L) (st) (I, R, al) Q ↔ Zgo d 120 40 (some (zq x) :: L) (zq x :: st) (I, R, al) Q := zg_120_39
theorem zh_120_40 {o : Nat} : Zgo d 120 40 (L) (zq (some (11, o)) :: st) (I, R, al) Q ↔ Zgo d 120 43 (L) (zi (I 11 o 50) :: st) (I, R, al) Q := zg_120_40
theorem zh_120_43 {v j : Int} {c o : Nat} : Zgo d 120 43 (L) (zi v :: zi j :: zq (some (c, o)) :: st) (I, R, al) Q ↔ zal (zArr c) 0 j (fun x => Zgo d 120 44 (L) (st) (zsI I c o x v, R, al) Q) := zg_120_43
theorem zh_120_44 {x : Option (Nat × Nat)} : Zgo d 120 44 (some (zq x) :: L) (st) (I, R, al) Q ↔ Zgo d 120 45 (some (zq x) :: L) (zq x :: st) (I, R, al) Q := zg_120_44
theorem zh_120_45 {o : Nat} : Zgo d 120 45 (L) (zq (some (11, o)) :: st) (I, R, al) Q ↔ Zgo d 120 48 (L) (zq (R 11 o 48) :: st) (I, R, al) Q := zg_120_45
theorem zh_120_48 {x : Int} : Zgo d 120 48 (a0 :: some (zi x) :: L) (st) (I, R, al) Q ↔ Zgo d 120 49 (a0 :: some (zi x) :: L) (zi x :: st) (I, R, al) Q := zg_120_48
theorem zh_120_49 {x : Option (Nat × Nat)} : Zgo d 120 49 (some (zq x) :: L) (st) (I, R, al) Q ↔ Zgo d 120 50 (some (zq x) :: L) (zq x :: st) (I, R, al) Q := zg_120_49
theorem zh_120_50 {o : Nat} : Zgo d 120 50 (L) (zq (some (11, o)) :: st) (I, R, al) Q ↔ Zgo d 120 53 (L) (zi (I 11 o 51) :: st) (I, R, al) Q := zg_120_50
theorem zh_120_53 {v j : Int} {c o : Nat} : Zgo d 120 53 (L) (zi v :: zi j :: zq (some (c, o)) :: st) (I, R, al) Q ↔ zal (zArr c) 0 j (fun x => Zgo d 120 54 (L) (st) (zsI I c o x v, R, al) Q) := zg_120_53
theorem zh_120_54 {x : Option (Nat × Nat)} : Zgo d 120 54 (some (zq x) :: L) (st) (I, R, al) Q ↔ Zgo d 120 55 (some (zq x) :: L) (zq x :: st) (I, R, al) Q := zg_120_54
theorem zh_120_55 {o : Nat} : Zgo d 120 55 (L) (zq (some (11, o)) :: st) (I, R, al) Q ↔ Zgo d 120 58 (L) (zq (R 11 o 49) :: st) (I, R, al) Q := zg_120_55
theorem zh_120_58 {x : Int} : Zgo d 120 58 (a0 :: some (zi x) :: L) (st) (I, R, al) Q ↔ Zgo d 120 59 (a0 :: some (zi x) :: L) (zi x :: st) (I, R, al) Q := zg_120_58
theorem zh_120_59 {x : Option (Nat × Nat)} : Zgo d 120 59 (some (zq x) :: L) (st) (I, R, al) Q ↔ Zgo d 120 60 (some (zq x) :: L) (zq x :: st) (I, R, al) Q := zg_120_59
theorem zh_120_60 {o : Nat} : Zgo d 120 60 (L) (zq (some (11, o)) :: st) (I, R, al) Q ↔ Zgo d 120 63 (L) (zi (I 11 o 52) :: st) (I, R, al) Q := zg_120_60
theorem zh_120_63 {v j : Int} {c o : Nat} : Zgo d 120 63 (L) (zi v :: zi j :: zq (some (c, o)) :: st) (I, R, al) Q ↔ zal (zArr c) 0 j (fun x => Zgo d 120 64 (L) (st) (zsI I c o x v, R, al) Q) := zg_120_63
theorem zh_120_64 {x : Option (Nat × Nat)} : Zgo d 120 64 (some (zq x) :: L) (st) (I, R, al) Q ↔ Zgo d 120 65 (some (zq x) :: L) (zq x :: st) (I, R, al) Q := zg_120_64
theorem zh_120_65 : Zgo d 120 65 (L) (st) (I, R, al) Q ↔ Zgo d 120 66 (L) (zi 0 :: st) (I, R, al) Q := zg_120_65
theorem zh_120_66 {o : Nat} {v : Int} : Zgo d 120 66 (L) (zi v :: zq (some (11, o)) :: st) (I, R, al) Q ↔ Zgo d 120 69 (L) (st) (zsI I 11 o 50 v, R, al) Q := zg_120_66
theorem zh_120_69 {x : Option (Nat × Nat)} : Zgo d 120 69 (some (zq x) :: L) (st) (I, R, al) Q ↔ Zgo d 120 70 (some (zq x) :: L) (zq x :: st) (I, R, al) Q := zg_120_69
theorem zh_120_70 {x : Int} : Zgo d 120 70 (a0 :: a1 :: some (zi x) :: L) (st) (I, R, al) Q ↔ Zgo d 120 71 (a0 :: a1 :: some (zi x) :: L) (zi x :: st) (I, R, al) Q := zg_120_70
theorem zh_120_71 {v1 : zV} {o : Nat} : Zgo d 120 71 (L) (v1 :: zq (some (11, o)) :: st) (I, R, al) Q ↔ if zwt st ≤ 8 then zCp d 112 [zq (some (11, o)), v1] (I, R, al) (fun r S2 => Zgo d 120 74 L (r.toList ++ st) S2 Q) else False := zg_120_71
theorem zh_120_74 : Zgo d 120 74 (L) ([]) (I, R, al) Q ↔ Q none (I, R, al) := zg_120_74
theorem zh_121_0 {x : Option (Nat × Nat)} : Zgo d 121 0 (some (zq x) :: L) (st) (I, R, al) Q ↔ Zgo d 121 1 (some (zq x) :: L) (zq x :: st) (I, R, al) Q := zg_121_0
theorem zh_121_1 {o : Nat} : Zgo d 121 1 (L) (zq (some (11, o)) :: st) (I, R, al) Q ↔ Zgo d 121 4 (L) (zi (I 11 o 41) :: st) (I, R, al) Q := zg_121_1
theorem zh_121_4 : Zgo d 121 4 (L) (st) (I, R, al) Q ↔ Zgo d 121 5 (L) (zi 1 :: st) (I, R, al) Q := zg_121_4
theorem zh_121_5 {x y : Int} : Zgo d 121 5 (L) (zi y :: zi x :: st) (I, R, al) Q ↔ Zgo d 121 6 (L) (zi (x - y) :: st) (I, R, al) Q := zg_121_5
theorem zh_121_6 {x : Int} : Zgo d 121 6 (a0 :: b0 :: L) (zi x :: st) (I, R, al) Q ↔ Zgo d 121 7 (zkl a0 :: some (zi x) :: L) (st) (I, R, al) Q := zg_121_6
theorem zh_121_7 {x : Option (Nat × Nat)} : Zgo d 121 7 (some (zq x) :: L) (st) (I, R, al) Q ↔ Zgo d 121 8 (some (zq x) :: L) (zq x :: st) (I, R, al) Q := zg_121_7
theorem zh_121_8 {o : Nat} : Zgo d 121 8 (L) (zq (some (11, o)) :: st) (I, R, al) Q ↔ Zgo d 121 11 (L) (zq (R 11 o 42) :: st) (I, R, al) Q := zg_121_8
theorem zh_121_11 {x : Int} : Zgo d 121 11 (a0 :: some (zi x) :: L) (st) (I, R, al) Q ↔ Zgo d 121 12 (a0 :: some (zi x) :: L) (zi x :: st) (I, R, al) Q := zg_121_11
theorem zh_121_12 {j : Int} {c o : Nat} : Zgo d 121 12 (L) (zi j :: zq (some (c, o)) :: st) (I, R, al) Q ↔ zal (zlen (I, R, al) c) 0 j (fun x => Zgo d 121 13 (L) (zi (I c o x) :: st) (I, R, al) Q) := zg_121_12
theorem zh_121_13 {x : Int} : Zgo d 121 13 (L) (zi x :: st) (I, R, al) Q ↔ if zw x = zw 0 then Zgo d 121 16 (L) (st) (I, R, al) Q else Zgo d 121 29 (L) (st) (I, R, al) Q := zg_121_13
theorem zh_121_16 {x : Option (Nat × Nat)} : Zgo d 121 16 (some (zq x) :: L) (st) (I, R, al) Q ↔ Zgo d 121 17 (some (zq x) :: L) (zq x :: st) (I, R, al) Q := zg_121_16
theorem zh_121_17 {x : Int} : Zgo d 121 17 (L) (zi x :: st) (I, R, al) Q ↔ Zgo d 121 18 (L) (zi x :: zi x :: st) (I, R, al) Q := zg_121_17
theorem zh_121_17q {u : Option (Nat × Nat)} : Zgo d 121 17 (L) (zq u :: st) (I, R, al) Q ↔ Zgo d 121 18 (L) (zq u :: zq u :: st) (I, R, al) Q := zg_121_17
theorem zh_121_18 {o : Nat} : Zgo d 121 18 (L) (zq (some (11, o)) :: st) (I, R, al) Q ↔ Zgo d 121 21 (L) (zi (I 11 o 41) :: st) (I, R, al) Q := zg_121_18
theorem zh_121_21 : Zgo d 121 21 (L) (st) (I, R, al) Q ↔ Zgo d 121 22 (L) (zi 1 :: st) (I, R, al) Q := zg_121_21
theorem zh_121_22 {x y : Int} : Zgo d 121 22 (L) (zi y :: zi x :: st) (I, R, al) Q ↔ Zgo d 121 23 (L) (zi (x - y) :: st) (I, R, al) Q := zg_121_22
theorem zh_121_23 {o : Nat} {v : Int} : Zgo d 121 23 (L) (zi v :: zq (some (11, o)) :: st) (I, R, al) Q ↔ Zgo d 121 26 (L) (st) (zsI I 11 o 41 v, R, al) Q := zg_121_23
theorem zh_121_26 : Zgo d 121 26 (L) (st) (I, R, al) Q ↔ Zgo d 121 297 (L) (st) (I, R, al) Q := zg_121_26
theorem zh_121_29 {x : Option (Nat × Nat)} : Zgo d 121 29 (some (zq x) :: L) (st) (I, R, al) Q ↔ Zgo d 121 30 (some (zq x) :: L) (zq x :: st) (I, R, al) Q := zg_121_29
theorem zh_121_30 {o : Nat} : Zgo d 121 30 (L) (zq (some (11, o)) :: st) (I, R, al) Q ↔ Zgo d 121 33 (L) (zq (R 11 o 42) :: st) (I, R, al) Q := zg_121_30
theorem zh_121_33 {x : Int} : Zgo d 121 33 (a0 :: some (zi x) :: L) (st) (I, R, al) Q ↔ Zgo d 121 34 (a0 :: some (zi x) :: L) (zi x :: st) (I, R, al) Q := zg_121_33
theorem zh_121_34 {j : Int} {c o : Nat} : Zgo d 121 34 (L) (zi j :: zq (some (c, o)) :: st) (I, R, al) Q ↔ zal (zlen (I, R, al) c) 0 j (fun x => Zgo d 121 35 (L) (zi (I c o x) :: st) (I, R, al) Q) := zg_121_34
theorem zh_121_35 : Zgo d 121 35 (L) (st) (I, R, al) Q ↔ Zgo d 121 36 (L) (zi 1 :: st) (I, R, al) Q := zg_121_35
theorem zh_121_36 {x y : Int} : Zgo d 121 36 (L) (zi y :: zi x :: st) (I, R, al) Q ↔ if zw x = zw y then Zgo d 121 39 (L) (st) (I, R, al) Q else Zgo d 121 95 (L) (st) (I, R, al) Q := zg_121_36
theorem zh_121_39 {x : Option (Nat × Nat)} : Zgo d 121 39 (some (zq x) :: L) (st) (I, R, al) Q ↔ Zgo d 121 40 (some (zq x) :: L) (zq x :: st) (I, R, al) Q := zg_121_39
theorem zh_121_40 {x : Option (Nat × Nat)} : Zgo d 121 40 (some (zq x) :: L) (st) (I, R, al) Q ↔ Zgo d 121 41 (some (zq x) :: L) (zq x :: st) (I, R, al) Q := zg_121_40
theorem zh_121_41 {o : Nat} : Zgo d 121 41 (L) (zq (some (11, o)) :: st) (I, R, al) Q ↔ Zgo d 121 44 (L) (zi (I 11 o 50) :: st) (I, R, al) Q := zg_121_41
theorem zh_121_44 : Zgo d 121 44 (L) (st) (I, R, al) Q ↔ Zgo d 121 45 (L) (zi 2 :: st) (I, R, al) Q := zg_121_44
theorem zh_121_45 {x y : Int} : Zgo d 121 45 (L) (zi y :: zi x :: st) (I, R, al) Q ↔ if zw x = zw y then Zgo d 121 48 (L) (st) (I, R, al) Q else Zgo d 121 55 (L) (st) (I, R, al) Q := zg_121_45
theorem zh_121_48 {x : Option (Nat × Nat)} : Zgo d 121 48 (some (zq x) :: L) (st) (I, R, al) Q ↔ Zgo d 121 49 (some (zq x) :: L) (zq x :: st) (I, R, al) Q := zg_121_48
theorem zh_121_49 {o : Nat} : Zgo d 121 49 (L) (zq (some (11, o)) :: st) (I, R, al) Q ↔ Zgo d 121 52 (L) (zi (I 11 o 41) :: st) (I, R, al) Q := zg_121_49
theorem zh_121_52 : Zgo d 121 52 (L) (st) (I, R, al) Q ↔ Zgo d 121 61 (L) (st) (I, R, al) Q := zg_121_52
theorem zh_121_55 {x : Option (Nat × Nat)} : Zgo d 121 55 (some (zq x) :: L) (st) (I, R, al) Q ↔ Zgo d 121 56 (some (zq x) :: L) (zq x :: st) (I, R, al) Q := zg_121_55
theorem zh_121_56 {o : Nat} : Zgo d 121 56 (L) (zq (some (11, o)) :: st) (I, R, al) Q ↔ Zgo d 121 59 (L) (zi (I 11 o 41) :: st) (I, R, al) Q := zg_121_56
theorem zh_121_59 : Zgo d 121 59 (L) (st) (I, R, al) Q ↔ Zgo d 121 60 (L) (zi 1 :: st) (I, R, al) Q := zg_121_59
theorem zh_121_60 {x y : Int} : Zgo d 121 60 (L) (zi y :: zi x :: st) (I, R, al) Q ↔ Zgo d 121 61 (L) (zi (x - y) :: st) (I, R, al) Q := zg_121_60
theorem zh_121_61 {o : Nat} {v : Int} : Zgo d 121 61 (L) (zi v :: zq (some (11, o)) :: st) (I, R, al) Q ↔ Zgo d 121 64 (L) (st) (zsI I 11 o 41 v, R, al) Q := zg_121_61
theorem zh_121_64 {x : Option (Nat × Nat)} : Zgo d 121 64 (some (zq x) :: L) (st) (I, R, al) Q ↔ Zgo d 121 65 (some (zq x) :: L) (zq x :: st) (I, R, al) Q := zg_121_64
theorem zh_121_65 {x : Option (Nat × Nat)} : Zgo d 121 65 (some (zq x) :: L) (st) (I, R, al) Q ↔ Zgo d 121 66 (some (zq x) :: L) (zq x :: st) (I, R, al) Q := zg_121_65
theorem zh_121_66 {o : Nat} : Zgo d 121 66 (L) (zq (some (11, o)) :: st) (I, R, al) Q ↔ Zgo d 121 69 (L) (zi (I 11 o 50) :: st) (I, R, al) Q := zg_121_66
theorem zh_121_69 : Zgo d 121 69 (L) (st) (I, R, al) Q ↔ Zgo d 121 70 (L) (zi 2 :: st) (I, R, al) Q := zg_121_69
theorem zh_121_70 {x y : Int} : Zgo d 121 70 (L) (zi y :: zi x :: st) (I, R, al) Q ↔ if zw x = zw y then Zgo d 121 81 (L) (st) (I, R, al) Q else Zgo d 121 73 (L) (st) (I, R, al) Q := zg_121_70
theorem zh_121_73 {x : Option (Nat × Nat)} : Zgo d 121 73 (some (zq x) :: L) (st) (I, R, al) Q ↔ Zgo d 121 74 (some (zq x) :: L) (zq x :: st) (I, R, al) Q := zg_121_73
theorem zh_121_74 {o : Nat} : Zgo d 121 74 (L) (zq (some (11, o)) :: st) (I, R, al) Q ↔ Zgo d 121 77 (L) (zi (I 11 o 50) :: st) (I, R, al) Q := zg_121_74
theorem zh_121_77 : Zgo d 121 77 (L) (st) (I, R, al) Q ↔ Zgo d 121 78 (L) (zi 1 :: st) (I, R, al) Q := zg_121_77
theorem zh_121_78 {x y : Int} : Zgo d 121 78 (L) (zi y :: zi x :: st) (I, R, al) Q ↔ if zw x = zw y then Zgo d 121 81 (L) (st) (I, R, al) Q else Zgo d 121 85 (L) (st) (I, R, al) Q := zg_121_78
theorem zh_121_81 : Zgo d 121 81 (L) (st) (I, R, al) Q ↔ Zgo d 121 82 (L) (zi 0 :: st) (I, R, al) Q := zg_121_81
theorem zh_121_82 : Zgo d 121 82 (L) (st) (I, R, al) Q ↔ Zgo d 121 89 (L) (st) (I, R, al) Q := zg_121_82
theorem zh_121_85 {x : Option (Nat × Nat)} : Zgo d 121 85 (some (zq x) :: L) (st) (I, R, al) Q ↔ Zgo d 121 86 (some (zq x) :: L) (zq x :: st) (I, R, al) Q := zg_121_85
theorem zh_121_86 {o : Nat} : Zgo d 121 86 (L) (zq (some (11, o)) :: st) (I, R, al) Q ↔ Zgo d 121 89 (L) (zi (I 11 o 50) :: st) (I, R, al) Q := zg_121_86
theorem zh_121_89 {o : Nat} {v : Int} : Zgo d 121 89 (L) (zi v :: zq (some (11, o)) :: st) (I, R, al) Q ↔ Zgo d 121 92 (L) (st) (zsI I 11 o 50 v, R, al) Q := zg_121_89
theorem zh_121_92 : Zgo d 121 92 (L) (st) (I, R, al) Q ↔ Zgo d 121 297 (L) (st) (I, R, al) Q := zg_121_92
theorem zh_121_95 {x : Option (Nat × Nat)} : Zgo d 121 95 (some (zq x) :: L) (st) (I, R, al) Q ↔ Zgo d 121 96 (some (zq x) :: L) (zq x :: st) (I, R, al) Q := zg_121_95
theorem zh_121_96 {o : Nat} : Zgo d 121 96 (L) (zq (some (11, o)) :: st) (I, R, al) Q ↔ Zgo d 121 99 (L) (zq (R 11 o 42) :: st) (I, R, al) Q := zg_121_96
theorem zh_121_99 {x : Int} : Zgo d 121 99 (a0 :: some (zi x) :: L) (st) (I, R, al) Q ↔ Zgo d 121 100 (a0 :: some (zi x) :: L) (zi x :: st) (I, R, al) Q := zg_121_99
theorem zh_121_100 {j : Int} {c o : Nat} : Zgo d 121 100 (L) (zi j :: zq (some (c, o)) :: st) (I, R, al) Q ↔ zal (zlen (I, R, al) c) 0 j (fun x => Zgo d 121 101 (L) (zi (I c o x) :: st) (I, R, al) Q) := zg_121_100
theorem zh_121_101 : Zgo d 121 101 (L) (st) (I, R, al) Q ↔ Zgo d 121 102 (L) (zi 2 :: st) (I, R, al) Q := zg_121_101
theorem zh_121_102 {x y : Int} : Zgo d 121 102 (L) (zi y :: zi x :: st) (I, R, al) Q ↔ if zw x = zw y then Zgo d 121 105 (L) (st) (I, R, al) Q else Zgo d 121 148 (L) (st) (I, R, al) Q := zg_121_102
theorem zh_121_105 {x : Option (Nat × Nat)} : Zgo d 121 105 (some (zq x) :: L) (st) (I, R, al) Q ↔ Zgo d 121 106 (some (zq x) :: L) (zq x :: st) (I, R, al) Q := zg_121_105
theorem zh_121_106 {x : Int} : Zgo d 121 106 (L) (zi x :: st) (I, R, al) Q ↔ Zgo d 121 107 (L) (zi x :: zi x :: st) (I, R, al) Q := zg_121_106
theorem zh_121_106q {u : Option (Nat × Nat)} : Zgo d 121 106 (L) (zq u :: st) (I, R, al) Q ↔ Zgo d 121 107 (L) (zq u :: zq u :: st) (I, R, al) Q := zg_121_106
theorem zh_121_107 {o : Nat} : Zgo d 121 107 (L) (zq (some (11, o)) :: st) (I, R, al) Q ↔ Zgo d 121 110 (L) (zi (I 11 o 53) :: st) (I, R, al) Q := zg_121_107
theorem zh_121_110 : Zgo d 121 110 (L) (st) (I, R, al) Q ↔ Zgo d 121 111 (L) (zi 1 :: st) (I, R, al) Q := zg_121_110
theorem zh_121_111 {x y : Int} : Zgo d 121 111 (L) (zi y :: zi x :: st) (I, R, al) Q ↔ Zgo d 121 112 (L) (zi (x - y) :: st) (I, R, al) Q := zg_121_111
theorem zh_121_112 {o : Nat} {v : Int} : Zgo d 121 112 (L) (zi v :: zq (some (11, o)) :: st) (I, R, al) Q ↔ Zgo d 121 115 (L) (st) (zsI I 11 o 53 v, R, al) Q := zg_121_112
theorem zh_121_115 {x : Option (Nat × Nat)} : Zgo d 121 115 (some (zq x) :: L) (st) (I, R, al) Q ↔ Zgo d 121 116 (some (zq x) :: L) (zq x :: st) (I, R, al) Q := zg_121_115
theorem zh_121_116 {x : Int} : Zgo d 121 116 (L) (zi x :: st) (I, R, al) Q ↔ Zgo d 121 117 (L) (zi x :: zi x :: st) (I, R, al) Q := zg_121_116
theorem zh_121_116q {u : Option (Nat × Nat)} : Zgo d 121 116 (L) (zq u :: st) (I, R, al) Q ↔ Zgo d 121 117 (L) (zq u :: zq u :: st) (I, R, al) Q := zg_121_116
theorem zh_121_117 {o : Nat} : Zgo d 121 117 (L) (zq (some (11, o)) :: st) (I, R, al) Q ↔ Zgo d 121 120 (L) (zi (I 11 o 41) :: st) (I, R, al) Q := zg_121_117
theorem zh_121_120 : Zgo d 121 120 (L) (st) (I, R, al) Q ↔ Zgo d 121 121 (L) (zi 1 :: st) (I, R, al) Q := zg_121_120
theorem zh_121_121 {x y : Int} : Zgo d 121 121 (L) (zi y :: zi x :: st) (I, R, al) Q ↔ Zgo d 121 122 (L) (zi (x - y) :: st) (I, R, al) Q := zg_121_121
theorem zh_121_122 {o : Nat} {v : Int} : Zgo d 121 122 (L) (zi v :: zq (some (11, o)) :: st) (I, R, al) Q ↔ Zgo d 121 125 (L) (st) (zsI I 11 o 41 v, R, al) Q := zg_121_122
theorem zh_121_125 {x : Option (Nat × Nat)} : Zgo d 121 125 (some (zq x) :: L) (st) (I, R, al) Q ↔ Zgo d 121 126 (some (zq x) :: L) (zq x :: st) (I, R, al) Q := zg_121_125
theorem zh_121_126 {x : Option (Nat × Nat)} : Zgo d 121 126 (some (zq x) :: L) (st) (I, R, al) Q ↔ Zgo d 121 127 (some (zq x) :: L) (zq x :: st) (I, R, al) Q := zg_121_126
theorem zh_121_127 {o : Nat} : Zgo d 121 127 (L) (zq (some (11, o)) :: st) (I, R, al) Q ↔ Zgo d 121 130 (L) (zi (I 11 o 50) :: st) (I, R, al) Q := zg_121_127
theorem zh_121_130 : Zgo d 121 130 (L) (st) (I, R, al) Q ↔ Zgo d 121 131 (L) (zi 3 :: st) (I, R, al) Q := zg_121_130
theorem zh_121_131 {x y : Int} : Zgo d 121 131 (L) (zi y :: zi x :: st) (I, R, al) Q ↔ if zw x = zw y then Zgo d 121 134 (L) (st) (I, R, al) Q else Zgo d 121 138 (L) (st) (I, R, al) Q := zg_121_131
theorem zh_121_134 : Zgo d 121 134 (L) (st) (I, R, al) Q ↔ Zgo d 121 135 (L) (zi 0 :: st) (I, R, al) Q := zg_121_134
theorem zh_121_135 : Zgo d 121 135 (L) (st) (I, R, al) Q ↔ Zgo d 121 142 (L) (st) (I, R, al) Q := zg_121_135
theorem zh_121_138 {x : Option (Nat × Nat)} : Zgo d 121 138 (some (zq x) :: L) (st) (I, R, al) Q ↔ Zgo d 121 139 (some (zq x) :: L) (zq x :: st) (I, R, al) Q := zg_121_138
theorem zh_121_139 {o : Nat} : Zgo d 121 139 (L) (zq (some (11, o)) :: st) (I, R, al) Q ↔ Zgo d 121 142 (L) (zi (I 11 o 50) :: st) (I, R, al) Q := zg_121_139
theorem zh_121_142 {o : Nat} {v : Int} : Zgo d 121 142 (L) (zi v :: zq (some (11, o)) :: st) (I, R, al) Q ↔ Zgo d 121 145 (L) (st) (zsI I 11 o 50 v, R, al) Q := zg_121_142
theorem zh_121_145 : Zgo d 121 145 (L) (st) (I, R, al) Q ↔ Zgo d 121 297 (L) (st) (I, R, al) Q := zg_121_145
theorem zh_121_148 {x : Option (Nat × Nat)} : Zgo d 121 148 (some (zq x) :: L) (st) (I, R, al) Q ↔ Zgo d 121 149 (some (zq x) :: L) (zq x :: st) (I, R, al) Q := zg_121_148
theorem zh_121_149 {o : Nat} : Zgo d 121 149 (L) (zq (some (11, o)) :: st) (I, R, al) Q ↔ Zgo d 121 152 (L) (zq (R 11 o 44) :: st) (I, R, al) Q := zg_121_149
theorem zh_121_152 {x : Int} : Zgo d 121 152 (a0 :: some (zi x) :: L) (st) (I, R, al) Q ↔ Zgo d 121 153 (a0 :: some (zi x) :: L) (zi x :: st) (I, R, al) Q := zg_121_152
theorem zh_121_153 {j : Int} {c o : Nat} : Zgo d 121 153 (L) (zi j :: zq (some (c, o)) :: st) (I, R, al) Q ↔ zal (zlen (I, R, al) c) 0 j (fun x => Zgo d 121 154 (L) (zi (I c o x) :: st) (I, R, al) Q) := zg_121_153
theorem zh_121_154 : Zgo d 121 154 (L) (st) (I, R, al) Q ↔ Zgo d 121 155 (L) (zi 2 :: st) (I, R, al) Q := zg_121_154
theorem zh_121_155 {x y : Int} : Zgo d 121 155 (L) (zi y :: zi x :: st) (I, R, al) Q ↔ if zw x = zw y then Zgo d 121 158 (L) (st) (I, R, al) Q else Zgo d 121 171 (L) (st) (I, R, al) Q := zg_121_155
theorem zh_121_158 {x : Option (Nat × Nat)} : Zgo d 121 158 (some (zq x) :: L) (st) (I, R, al) Q ↔ Zgo d 121 159 (some (zq x) :: L) (zq x :: st) (I, R, al) Q := zg_121_158
theorem zh_121_159 {x : Int} : Zgo d 121 159 (L) (zi x :: st) (I, R, al) Q ↔ Zgo d 121 160 (L) (zi x :: zi x :: st) (I, R, al) Q := zg_121_159
theorem zh_121_159q {u : Option (Nat × Nat)} : Zgo d 121 159 (L) (zq u :: st) (I, R, al) Q ↔ Zgo d 121 160 (L) (zq u :: zq u :: st) (I, R, al) Q := zg_121_159
theorem zh_121_160 {o : Nat} : Zgo d 121 160 (L) (zq (some (11, o)) :: st) (I, R, al) Q ↔ Zgo d 121 163 (L) (zi (I 11 o 41) :: st) (I, R, al) Q := zg_121_160
theorem zh_121_163 : Zgo d 121 163 (L) (st) (I, R, al) Q ↔ Zgo d 121 164 (L) (zi 1 :: st) (I, R, al) Q := zg_121_163
theorem zh_121_164 {x y : Int} : Zgo d 121 164 (L) (zi y :: zi x :: st) (I, R, al) Q ↔ Zgo d 121 165 (L) (zi (x - y) :: st) (I, R, al) Q := zg_121_164
theorem zh_121_165 {o : Nat} {v : Int} : Zgo d 121 165 (L) (zi v :: zq (some (11, o)) :: st) (I, R, al) Q ↔ Zgo d 121 168 (L) (st) (zsI I 11 o 41 v, R, al) Q := zg_121_165
theorem zh_121_168 : Zgo d 121 168 (L) (st) (I, R, al) Q ↔ Zgo d 121 297 (L) (st) (I, R, al) Q := zg_121_168
theorem zh_121_171 {x : Option (Nat × Nat)} : Zgo d 121 171 (some (zq x) :: L) (st) (I, R, al) Q ↔ Zgo d 121 172 (some (zq x) :: L) (zq x :: st) (I, R, al) Q := zg_121_171
theorem zh_121_172 {o : Nat} : Zgo d 121 172 (L) (zq (some (11, o)) :: st) (I, R, al) Q ↔ Zgo d 121 175 (L) (zq (R 11 o 44) :: st) (I, R, al) Q := zg_121_172
theorem zh_121_175 {x : Int} : Zgo d 121 175 (a0 :: some (zi x) :: L) (st) (I, R, al) Q ↔ Zgo d 121 176 (a0 :: some (zi x) :: L) (zi x :: st) (I, R, al) Q := zg_121_175
theorem zh_121_176 {j : Int} {c o : Nat} : Zgo d 121 176 (L) (zi j :: zq (some (c, o)) :: st) (I, R, al) Q ↔ zal (zlen (I, R, al) c) 0 j (fun x => Zgo d 121 177 (L) (zi (I c o x) :: st) (I, R, al) Q) := zg_121_176
theorem zh_121_177 {x : Int} : Zgo d 121 177 (L) (zi x :: st) (I, R, al) Q ↔ if zw x = zw 0 then Zgo d 121 180 (L) (st) (I, R, al) Q else Zgo d 121 205 (L) (st) (I, R, al) Q := zg_121_177
theorem zh_121_180 {x : Option (Nat × Nat)} : Zgo d 121 180 (some (zq x) :: L) (st) (I, R, al) Q ↔ Zgo d 121 181 (some (zq x) :: L) (zq x :: st) (I, R, al) Q := zg_121_180
theorem zh_121_181 {o : Nat} : Zgo d 121 181 (L) (zq (some (11, o)) :: st) (I, R, al) Q ↔ Zgo d 121 184 (L) (zi (I 11 o 50) :: st) (I, R, al) Q := zg_121_181
theorem zh_121_184 : Zgo d 121 184 (L) (st) (I, R, al) Q ↔ Zgo d 121 185 (L) (zi 4 :: st) (I, R, al) Q := zg_121_184
theorem zh_121_185 {x y : Int} : Zgo d 121 185 (L) (zi y :: zi x :: st) (I, R, al) Q ↔ if zw x = zw y then Zgo d 121 188 (L) (st) (I, R, al) Q else Zgo d 121 205 (L) (st) (I, R, al) Q := zg_121_185
theorem zh_121_188 {x : Option (Nat × Nat)} : Zgo d 121 188 (some (zq x) :: L) (st) (I, R, al) Q ↔ Zgo d 121 189 (some (zq x) :: L) (zq x :: st) (I, R, al) Q := zg_121_188
theorem zh_121_189 {x : Option (Nat × Nat)} : Zgo d 121 189 (some (zq x) :: L) (st) (I, R, al) Q ↔ Zgo d 121 190 (some (zq x) :: L) (zq x :: st) (I, R, al) Q := zg_121_189
theorem zh_121_190 {o : Nat} : Zgo d 121 190 (L) (zq (some (11, o)) :: st) (I, R, al) Q ↔ Zgo d 121 193 (L) (zq (R 11 o 43) :: st) (I, R, al) Q := zg_121_190
theorem zh_121_193 {x : Int} : Zgo d 121 193 (a0 :: some (zi x) :: L) (st) (I, R, al) Q ↔ Zgo d 121 194 (a0 :: some (zi x) :: L) (zi x :: st) (I, R, al) Q := zg_121_193
theorem zh_121_194 {j : Int} {c o : Nat} : Zgo d 121 194 (L) (zi j :: zq (some (c, o)) :: st) (I, R, al) Q ↔ zal (zlen (I, R, al) c) 0 j (fun x => Zgo d 121 195 (L) (zi (I c o x) :: st) (I, R, al) Q) := zg_121_194
theorem zh_121_195 {x : Option (Nat × Nat)} : Zgo d 121 195 (some (zq x) :: L) (st) (I, R, al) Q ↔ Zgo d 121 196 (some (zq x) :: L) (zq x :: st) (I, R, al) Q := zg_121_195
theorem zh_121_196 {o : Nat} : Zgo d 121 196 (L) (zq (some (11, o)) :: st) (I, R, al) Q ↔ Zgo d 121 199 (L) (zi (I 11 o 51) :: st) (I, R, al) Q := zg_121_196
theorem zh_121_199 {v1 v2 : zV} {o : Nat} : Zgo d 121 199 (L) (v2 :: v1 :: zq (some (11, o)) :: st) (I, R, al) Q ↔ if zwt st ≤ 8 then zCp d 122 [zq (some (11, o)), v1, v2] (I, R, al) (fun r S2 => Zgo d 121 202 L (r.toList ++ st) S2 Q) else False := zg_121_199
theorem zh_121_202 : Zgo d 121 202 (L) (st) (I, R, al) Q ↔ Zgo d 121 206 (L) (st) (I, R, al) Q := zg_121_202
theorem zh_121_205 : Zgo d 121 205 (L) (st) (I, R, al) Q ↔ Zgo d 121 206 (L) (zi (-1) :: st) (I, R, al) Q := zg_121_205
theorem zh_121_206 {x : Int} : Zgo d 121 206 (a0 :: a1 :: b0 :: L) (zi x :: st) (I, R, al) Q ↔ Zgo d 121 207 (a0 :: zkl a1 :: some (zi x) :: L) (st) (I, R, al) Q := zg_121_206
theorem zh_121_207 {x : Int} : Zgo d 121 207 (a0 :: a1 :: some (zi x) :: L) (st) (I, R, al) Q ↔ Zgo d 121 208 (a0 :: a1 :: some (zi x) :: L) (zi x :: st) (I, R, al) Q := zg_121_207
theorem zh_121_208 {x : Int} : Zgo d 121 208 (L) (zi x :: st) (I, R, al) Q ↔ if zw x < zw 0 then Zgo d 121 211 (L) (st) (I, R, al) Q else Zgo d 121 219 (L) (st) (I, R, al) Q := zg_121_208
theorem zh_121_211 {x : Option (Nat × Nat)} : Zgo d 121 211 (some (zq x) :: L) (st) (I, R, al) Q ↔ Zgo d 121 212 (some (zq x) :: L) (zq x :: st) (I, R, al) Q := zg_121_211
theorem zh_121_212 {x : Int} : Zgo d 121 212 (a0 :: some (zi x) :: L) (st) (I, R, al) Q ↔ Zgo d 121 213 (a0 :: some (zi x) :: L) (zi x :: st) (I, R, al) Q := zg_121_212
theorem zh_121_213 {v1 : zV} {o : Nat} : Zgo d 121 213 (L) (v1 :: zq (some (11, o)) :: st) (I, R, al) Q ↔ if zwt st ≤ 8 then zCp d 120 [zq (some (11, o)), v1] (I, R, al) (fun r S2 => Zgo d 121 216 L (r.toList ++ st) S2 Q) else False := zg_121_213
theorem zh_121_216 : Zgo d 121 216 (L) (st) (I, R, al) Q ↔ Zgo d 121 297 (L) (st) (I, R, al) Q := zg_121_216
theorem zh_121_219 {x : Option (Nat × Nat)} : Zgo d 121 219 (some (zq x) :: L) (st) (I, R, al) Q ↔ Zgo d 121 220 (some (zq x) :: L) (zq x :: st) (I, R, al) Q := zg_121_219
theorem zh_121_220 {o : Nat} : Zgo d 121 220 (L) (zq (some (11, o)) :: st) (I, R, al) Q ↔ Zgo d 121 223 (L) (zq (R 11 o 44) :: st) (I, R, al) Q := zg_121_220
theorem zh_121_223 {x : Int} : Zgo d 121 223 (a0 :: some (zi x) :: L) (st) (I, R, al) Q ↔ Zgo d 121 224 (a0 :: some (zi x) :: L) (zi x :: st) (I, R, al) Q := zg_121_223
theorem zh_121_224 : Zgo d 121 224 (L) (st) (I, R, al) Q ↔ Zgo d 121 225 (L) (zi 1 :: st) (I, R, al) Q := zg_121_224
theorem zh_121_225 {v j : Int} {c o : Nat} : Zgo d 121 225 (L) (zi v :: zi j :: zq (some (c, o)) :: st) (I, R, al) Q ↔ zal (zArr c) 0 j (fun x => Zgo d 121 226 (L) (st) (zsI I c o x v, R, al) Q) := zg_121_225
theorem zh_121_226 {x : Option (Nat × Nat)} : Zgo d 121 226 (some (zq x) :: L) (st) (I, R, al) Q ↔ Zgo d 121 227 (some (zq x) :: L) (zq x :: st) (I, R, al) Q := zg_121_226
theorem zh_121_227 {o : Nat} : Zgo d 121 227 (L) (zq (some (11, o)) :: st) (I, R, al) Q ↔ Zgo d 121 230 (L) (zq (R 11 o 45) :: st) (I, R, al) Q := zg_121_227
theorem zh_121_230 {x : Int} : Zgo d 121 230 (a0 :: some (zi x) :: L) (st) (I, R, al) Q ↔ Zgo d 121 231 (a0 :: some (zi x) :: L) (zi x :: st) (I, R, al) Q := zg_121_230
theorem zh_121_231 {x : Option (Nat × Nat)} : Zgo d 121 231 (some (zq x) :: L) (st) (I, R, al) Q ↔ Zgo d 121 232 (some (zq x) :: L) (zq x :: st) (I, R, al) Q := zg_121_231
theorem zh_121_232 {o : Nat} : Zgo d 121 232 (L) (zq (some (11, o)) :: st) (I, R, al) Q ↔ Zgo d 121 235 (L) (zi (I 11 o 51) :: st) (I, R, al) Q := zg_121_232
theorem zh_121_235 {v j : Int} {c o : Nat} : Zgo d 121 235 (L) (zi v :: zi j :: zq (some (c, o)) :: st) (I, R, al) Q ↔ zal (zArr c) 0 j (fun x => Zgo d 121 236 (L) (st) (zsI I c o x v, R, al) Q) := zg_121_235
theorem zh_121_236 {x : Option (Nat × Nat)} : Zgo d 121 236 (some (zq x) :: L) (st) (I, R, al) Q ↔ Zgo d 121 237 (some (zq x) :: L) (zq x :: st) (I, R, al) Q := zg_121_236
theorem zh_121_237 {o : Nat} : Zgo d 121 237 (L) (zq (some (11, o)) :: st) (I, R, al) Q ↔ Zgo d 121 240 (L) (zq (R 11 o 46) :: st) (I, R, al) Q := zg_121_237
theorem zh_121_240 {x : Int} : Zgo d 121 240 (a0 :: some (zi x) :: L) (st) (I, R, al) Q ↔ Zgo d 121 241 (a0 :: some (zi x) :: L) (zi x :: st) (I, R, al) Q := zg_121_240
theorem zh_121_241 {x : Option (Nat × Nat)} : Zgo d 121 241 (some (zq x) :: L) (st) (I, R, al) Q ↔ Zgo d 121 242 (some (zq x) :: L) (zq x :: st) (I, R, al) Q := zg_121_241
theorem zh_121_242 {o : Nat} : Zgo d 121 242 (L) (zq (some (11, o)) :: st) (I, R, al) Q ↔ Zgo d 121 245 (L) (zi (I 11 o 52) :: st) (I, R, al) Q := zg_121_242
theorem zh_121_245 {v j : Int} {c o : Nat} : Zgo d 121 245 (L) (zi v :: zi j :: zq (some (c, o)) :: st) (I, R, al) Q ↔ zal (zArr c) 0 j (fun x => Zgo d 121 246 (L) (st) (zsI I c o x v, R, al) Q) := zg_121_245
theorem zh_121_246 {x : Option (Nat × Nat)} : Zgo d 121 246 (some (zq x) :: L) (st) (I, R, al) Q ↔ Zgo d 121 247 (some (zq x) :: L) (zq x :: st) (I, R, al) Q := zg_121_246
theorem zh_121_247 {o : Nat} : Zgo d 121 247 (L) (zq (some (11, o)) :: st) (I, R, al) Q ↔ Zgo d 121 250 (L) (zq (R 11 o 33) :: st) (I, R, al) Q := zg_121_247
theorem zh_121_250 {x : Option (Nat × Nat)} : Zgo d 121 250 (some (zq x) :: L) (st) (I, R, al) Q ↔ Zgo d 121 251 (some (zq x) :: L) (zq x :: st) (I, R, al) Q := zg_121_250
theorem zh_121_251 {o : Nat} : Zgo d 121 251 (L) (zq (some (11, o)) :: st) (I, R, al) Q ↔ Zgo d 121 254 (L) (zq (R 11 o 17) :: st) (I, R, al) Q := zg_121_251
theorem zh_121_254 : Zgo d 121 254 (L) (st) (I, R, al) Q ↔ Zgo d 121 255 (L) (zi 3 :: st) (I, R, al) Q := zg_121_254
theorem zh_121_255 {x : Option (Nat × Nat)} : Zgo d 121 255 (some (zq x) :: L) (st) (I, R, al) Q ↔ Zgo d 121 256 (some (zq x) :: L) (zq x :: st) (I, R, al) Q := zg_121_255
theorem zh_121_256 {o : Nat} : Zgo d 121 256 (L) (zq (some (11, o)) :: st) (I, R, al) Q ↔ Zgo d 121 259 (L) (zq (R 11 o 43) :: st) (I, R, al) Q := zg_121_256
theorem zh_121_259 {x : Int} : Zgo d 121 259 (a0 :: some (zi x) :: L) (st) (I, R, al) Q ↔ Zgo d 121 260 (a0 :: some (zi x) :: L) (zi x :: st) (I, R, al) Q := zg_121_259
theorem zh_121_260 {j : Int} {c o : Nat} : Zgo d 121 260 (L) (zi j :: zq (some (c, o)) :: st) (I, R, al) Q ↔ zal (zlen (I, R, al) c) 0 j (fun x => Zgo d 121 261 (L) (zi (I c o x) :: st) (I, R, al) Q) := zg_121_260
theorem zh_121_261 {x y : Int} : Zgo d 121 261 (L) (zi y :: zi x :: st) (I, R, al) Q ↔ Zgo d 121 262 (L) (zi (x * y) :: st) (I, R, al) Q := zg_121_261
theorem zh_121_262 {x : Int} : Zgo d 121 262 (a0 :: a1 :: some (zi x) :: L) (st) (I, R, al) Q ↔ Zgo d 121 263 (a0 :: a1 :: some (zi x) :: L) (zi x :: st) (I, R, al) Q := zg_121_262
theorem zh_121_263 {x y : Int} : Zgo d 121 263 (L) (zi y :: zi x :: st) (I, R, al) Q ↔ Zgo d 121 264 (L) (zi (x + y) :: st) (I, R, al) Q := zg_121_263
theorem zh_121_264 {j : Int} {c o : Nat} : Zgo d 121 264 (L) (zi j :: zq (some (c, o)) :: st) (I, R, al) Q ↔ zal (zlen (I, R, al) c) 0 j (fun x => Zgo d 121 265 (L) (zi (I c o x) :: st) (I, R, al) Q) := zg_121_264
theorem zh_121_265 {x : Option (Nat × Nat)} : Zgo d 121 265 (some (zq x) :: L) (st) (I, R, al) Q ↔ Zgo d 121 266 (some (zq x) :: L) (zq x :: st) (I, R, al) Q := zg_121_265
theorem zh_121_266 {o : Nat} : Zgo d 121 266 (L) (zq (some (11, o)) :: st) (I, R, al) Q ↔ Zgo d 121 269 (L) (zi (I 11 o 52) :: st) (I, R, al) Q := zg_121_266
theorem zh_121_269 {v j : Int} {c o : Nat} : Zgo d 121 269 (L) (zi v :: zi j :: zq (some (c, o)) :: st) (I, R, al) Q ↔ zal (zArr c) 0 j (fun x => Zgo d 121 270 (L) (st) (zsI I c o x v, R, al) Q) := zg_121_269
theorem zh_121_270 {x : Option (Nat × Nat)} : Zgo d 121 270 (some (zq x) :: L) (st) (I, R, al) Q ↔ Zgo d 121 271 (some (zq x) :: L) (zq x :: st) (I, R, al) Q := zg_121_270
theorem zh_121_271 : Zgo d 121 271 (L) (st) (I, R, al) Q ↔ Zgo d 121 272 (L) (zi 0 :: st) (I, R, al) Q := zg_121_271
theorem zh_121_272 {o : Nat} {v : Int} : Zgo d 121 272 (L) (zi v :: zq (some (11, o)) :: st) (I, R, al) Q ↔ Zgo d 121 275 (L) (st) (zsI I 11 o 50 v, R, al) Q := zg_121_272
theorem zh_121_275 {x : Option (Nat × Nat)} : Zgo d 121 275 (some (zq x) :: L) (st) (I, R, al) Q ↔ Zgo d 121 276 (some (zq x) :: L) (zq x :: st) (I, R, al) Q := zg_121_275
theorem zh_121_276 {x : Option (Nat × Nat)} : Zgo d 121 276 (some (zq x) :: L) (st) (I, R, al) Q ↔ Zgo d 121 277 (some (zq x) :: L) (zq x :: st) (I, R, al) Q := zg_121_276
theorem zh_121_277 {o : Nat} : Zgo d 121 277 (L) (zq (some (11, o)) :: st) (I, R, al) Q ↔ Zgo d 121 280 (L) (zq (R 11 o 15) :: st) (I, R, al) Q := zg_121_277
theorem zh_121_280 : Zgo d 121 280 (L) (st) (I, R, al) Q ↔ Zgo d 121 282 (L) (zi 6 :: st) (I, R, al) Q := zg_121_280
theorem zh_121_282 {x : Option (Nat × Nat)} : Zgo d 121 282 (some (zq x) :: L) (st) (I, R, al) Q ↔ Zgo d 121 283 (some (zq x) :: L) (zq x :: st) (I, R, al) Q := zg_121_282
theorem zh_121_283 {o : Nat} : Zgo d 121 283 (L) (zq (some (11, o)) :: st) (I, R, al) Q ↔ Zgo d 121 286 (L) (zq (R 11 o 43) :: st) (I, R, al) Q := zg_121_283
theorem zh_121_286 {x : Int} : Zgo d 121 286 (a0 :: some (zi x) :: L) (st) (I, R, al) Q ↔ Zgo d 121 287 (a0 :: some (zi x) :: L) (zi x :: st) (I, R, al) Q := zg_121_286
theorem zh_121_287 {j : Int} {c o : Nat} : Zgo d 121 287 (L) (zi j :: zq (some (c, o)) :: st) (I, R, al) Q ↔ zal (zlen (I, R, al) c) 0 j (fun x => Zgo d 121 288 (L) (zi (I c o x) :: st) (I, R, al) Q) := zg_121_287
theorem zh_121_288 {x y : Int} : Zgo d 121 288 (L) (zi y :: zi x :: st) (I, R, al) Q ↔ Zgo d 121 289 (L) (zi (x * y) :: st) (I, R, al) Q := zg_121_288
theorem zh_121_289 : Zgo d 121 289 (L) (st) (I, R, al) Q ↔ Zgo d 121 290 (L) (zi 2 :: st) (I, R, al) Q := zg_121_289
theorem zh_121_290 {x y : Int} : Zgo d 121 290 (L) (zi y :: zi x :: st) (I, R, al) Q ↔ Zgo d 121 291 (L) (zi (x + y) :: st) (I, R, al) Q := zg_121_290
theorem zh_121_291 {x : Int} : Zgo d 121 291 (a0 :: a1 :: some (zi x) :: L) (st) (I, R, al) Q ↔ Zgo d 121 292 (a0 :: a1 :: some (zi x) :: L) (zi x :: st) (I, R, al) Q := zg_121_291
theorem zh_121_292 {x y : Int} : Zgo d 121 292 (L) (zi y :: zi x :: st) (I, R, al) Q ↔ Zgo d 121 293 (L) (zi (x + y) :: st) (I, R, al) Q := zg_121_292
theorem zh_121_293 {j : Int} {c o : Nat} : Zgo d 121 293 (L) (zi j :: zq (some (c, o)) :: st) (I, R, al) Q ↔ zal (zlen (I, R, al) c) 0 j (fun x => Zgo d 121 294 (L) (zi (I c o x) :: st) (I, R, al) Q) := zg_121_293
theorem zh_121_294 {v1 : zV} {o : Nat} : Zgo d 121 294 (L) (v1 :: zq (some (11, o)) :: st) (I, R, al) Q ↔ if zwt st ≤ 8 then zCp d 112 [zq (some (11, o)), v1] (I, R, al) (fun r S2 => Zgo d 121 297 L (r.toList ++ st) S2 Q) else False := zg_121_294
theorem zh_121_297 : Zgo d 121 297 (L) ([]) (I, R, al) Q ↔ Q none (I, R, al) := zg_121_297
theorem zh_122_0 : Zgo d 122 0 (L) (st) (I, R, al) Q ↔ Zgo d 122 1 (L) (zi (-1) :: st) (I, R, al) Q := zg_122_0
theorem zh_122_1 {x : Int} : Zgo d 122 1 (a0 :: a1 :: a2 :: b0 :: L) (zi x :: st) (I, R, al) Q ↔ Zgo d 122 2 (a0 :: a1 :: zkl a2 :: some (zi x) :: L) (st) (I, R, al) Q := zg_122_1
theorem zh_122_2 : Zgo d 122 2 (L) (st) (I, R, al) Q ↔ Zgo d 122 3 (L) (zi 0 :: st) (I, R, al) Q := zg_122_2
theorem zh_122_3 {x : Int} : Zgo d 122 3 (a0 :: a1 :: a2 :: a3 :: b0 :: L) (zi x :: st) (I, R, al) Q ↔ Zgo d 122 5 (a0 :: a1 :: a2 :: zkl a3 :: some (zi x) :: L) (st) (I, R, al) Q := zg_122_3
theorem zh_122_5 {x : Int} : Zgo d 122 5 (a0 :: a1 :: a2 :: a3 :: some (zi x) :: L) (st) (I, R, al) Q ↔ Zgo d 122 7 (a0 :: a1 :: a2 :: a3 :: some (zi x) :: L) (zi x :: st) (I, R, al) Q := zg_122_5
theorem zh_122_7 {x : Option (Nat × Nat)} : Zgo d 122 7 (some (zq x) :: L) (st) (I, R, al) Q ↔ Zgo d 122 8 (some (zq x) :: L) (zq x :: st) (I, R, al) Q := zg_122_7
theorem zh_122_8 {o : Nat} : Zgo d 122 8 (L) (zq (some (11, o)) :: st) (I, R, al) Q ↔ Zgo d 122 11 (L) (zq (R 11 o 18) :: st) (I, R, al) Q := zg_122_8
theorem zh_122_11 {x : Int} : Zgo d 122 11 (a0 :: some (zi x) :: L) (st) (I, R, al) Q ↔ Zgo d 122 12 (a0 :: some (zi x) :: L) (zi x :: st) (I, R, al) Q := zg_122_11
theorem zh_122_12 {j : Int} {c o : Nat} : Zgo d 122 12 (L) (zi j :: zq (some (c, o)) :: st) (I, R, al) Q ↔ zal (zlen (I, R, al) c) 0 j (fun x => Zgo d 122 13 (L) (zi (I c o x) :: st) (I, R, al) Q) := zg_122_12
theorem zh_122_13 {x y : Int} : Zgo d 122 13 (L) (zi y :: zi x :: st) (I, R, al) Q ↔ if zw x < zw y then Zgo d 122 16 (L) (st) (I, R, al) Q else Zgo d 122 44 (L) (st) (I, R, al) Q := zg_122_13
theorem zh_122_16 {x : Option (Nat × Nat)} : Zgo d 122 16 (some (zq x) :: L) (st) (I, R, al) Q ↔ Zgo d 122 17 (some (zq x) :: L) (zq x :: st) (I, R, al) Q := zg_122_16
theorem zh_122_17 {o : Nat} : Zgo d 122 17 (L) (zq (some (11, o)) :: st) (I, R, al) Q ↔ Zgo d 122 20 (L) (zq (R 11 o 16) :: st) (I, R, al) Q := zg_122_17
theorem zh_122_20 : Zgo d 122 20 (L) (st) (I, R, al) Q ↔ Zgo d 122 21 (L) (zi 3 :: st) (I, R, al) Q := zg_122_20
theorem zh_122_21 {x : Int} : Zgo d 122 21 (a0 :: some (zi x) :: L) (st) (I, R, al) Q ↔ Zgo d 122 22 (a0 :: some (zi x) :: L) (zi x :: st) (I, R, al) Q := zg_122_21
theorem zh_122_22 {x y : Int} : Zgo d 122 22 (L) (zi y :: zi x :: st) (I, R, al) Q ↔ Zgo d 122 23 (L) (zi (x * y) :: st) (I, R, al) Q := zg_122_22
theorem zh_122_23 {x : Int} : Zgo d 122 23 (a0 :: a1 :: a2 :: a3 :: some (zi x) :: L) (st) (I, R, al) Q ↔ Zgo d 122 25 (a0 :: a1 :: a2 :: a3 :: some (zi x) :: L) (zi x :: st) (I, R, al) Q := zg_122_23
theorem zh_122_25 {x y : Int} : Zgo d 122 25 (L) (zi y :: zi x :: st) (I, R, al) Q ↔ Zgo d 122 26 (L) (zi (x + y) :: st) (I, R, al) Q := zg_122_25
theorem zh_122_26 {j : Int} {c o : Nat} : Zgo d 122 26 (L) (zi j :: zq (some (c, o)) :: st) (I, R, al) Q ↔ zal (zlen (I, R, al) c) 0 j (fun x => Zgo d 122 27 (L) (zi (I c o x) :: st) (I, R, al) Q) := zg_122_26
theorem zh_122_27 {x : Int} : Zgo d 122 27 (a0 :: a1 :: some (zi x) :: L) (st) (I, R, al) Q ↔ Zgo d 122 28 (a0 :: a1 :: some (zi x) :: L) (zi x :: st) (I, R, al) Q := zg_122_27
theorem zh_122_28 {x y : Int} : Zgo d 122 28 (L) (zi y :: zi x :: st) (I, R, al) Q ↔ if zw x = zw y then Zgo d 122 31 (L) (st) (I, R, al) Q else Zgo d 122 36 (L) (st) (I, R, al) Q := zg_122_28
theorem zh_122_31 {x : Int} : Zgo d 122 31 (a0 :: a1 :: a2 :: a3 :: some (zi x) :: L) (st) (I, R, al) Q ↔ Zgo d 122 33 (a0 :: a1 :: a2 :: a3 :: some (zi x) :: L) (zi x :: st) (I, R, al) Q := zg_122_31
theorem zh_122_33 : Zgo d 122 33 (L) (st) (I, R, al) Q ↔ Zgo d 122 37 (L) (st) (I, R, al) Q := zg_122_33
theorem zh_122_36 {x : Int} : Zgo d 122 36 (a0 :: a1 :: a2 :: some (zi x) :: L) (st) (I, R, al) Q ↔ Zgo d 122 37 (a0 :: a1 :: a2 :: some (zi x) :: L) (zi x :: st) (I, R, al) Q := zg_122_36
theorem zh_122_37 {x : Int} : Zgo d 122 37 (a0 :: a1 :: a2 :: b0 :: L) (zi x :: st) (I, R, al) Q ↔ Zgo d 122 38 (a0 :: a1 :: zkl a2 :: some (zi x) :: L) (st) (I, R, al) Q := zg_122_37
theorem zh_122_38 {x : Int} : Zgo d 122 38 (a0 :: a1 :: a2 :: a3 :: some (zi x) :: L) (st) (I, R, al) Q ↔ Zgo d 122 41 (a0 :: a1 :: a2 :: zkl a3 :: some (zi (x + 1)) :: L) (st) (I, R, al) Q := zg_122_38
theorem zh_122_41 : Zgo d 122 41 (L) (st) (I, R, al) Q ↔ Zgo d 122 5 (L) (st) (I, R, al) Q := zg_122_41
theorem zh_122_44 {x : Int} : Zgo d 122 44 (a0 :: a1 :: a2 :: some (zi x) :: L) (st) (I, R, al) Q ↔ Zgo d 122 45 (a0 :: a1 :: a2 :: some (zi x) :: L) (zi x :: st) (I, R, al) Q := zg_122_44
theorem zh_122_45 {x : Int} : Zgo d 122 45 (L) (zi x :: []) (I, R, al) Q ↔ Q (some (zi x)) (I, R, al) := zg_122_45
theorem zh_123_0 {x : Option (Nat × Nat)} : Zgo d 123 0 (some (zq x) :: L) (st) (I, R, al) Q ↔ Zgo d 123 1 (some (zq x) :: L) (zq x :: st) (I, R, al) Q := zg_123_0
theorem zh_123_1 {x : Int} : Zgo d 123 1 (a0 :: some (zi x) :: L) (st) (I, R, al) Q ↔ Zgo d 123 2 (a0 :: some (zi x) :: L) (zi x :: st) (I, R, al) Q := zg_123_1
theorem zh_123_2 {x : Int} : Zgo d 123 2 (L) (zi x :: st) (I, R, al) Q ↔ if zw x < zw 0 then Zgo d 123 13 (L) (st) (I, R, al) Q else Zgo d 123 5 (L) (st) (I, R, al) Q := zg_123_2
theorem zh_123_5 {x : Int} : Zgo d 123 5 (a0 :: some (zi x) :: L) (st) (I, R, al) Q ↔ Zgo d 123 6 (a0 :: some (zi x) :: L) (zi x :: st) (I, R, al) Q := zg_123_5
theorem zh_123_6 {x : Option (Nat × Nat)} : Zgo d 123 6 (some (zq x) :: L) (st) (I, R, al) Q ↔ Zgo d 123 7 (some (zq x) :: L) (zq x :: st) (I, R, al) Q := zg_123_6
theorem zh_123_7 {o : Nat} : Zgo d 123 7 (L) (zq (some (11, o)) :: st) (I, R, al) Q ↔ Zgo d 123 10 (L) (zi (I 11 o 35) :: st) (I, R, al) Q := zg_123_7
theorem zh_123_10 {x y : Int} : Zgo d 123 10 (L) (zi y :: zi x :: st) (I, R, al) Q ↔ if zw x < zw y then Zgo d 123 17 (L) (st) (I, R, al) Q else Zgo d 123 13 (L) (st) (I, R, al) Q := zg_123_10
theorem zh_123_13 : Zgo d 123 13 (L) (st) (I, R, al) Q ↔ Zgo d 123 14 (L) (zi 1 :: st) (I, R, al) Q := zg_123_13
theorem zh_123_14 : Zgo d 123 14 (L) (st) (I, R, al) Q ↔ Zgo d 123 18 (L) (st) (I, R, al) Q := zg_123_14
theorem zh_123_17 : Zgo d 123 17 (L) (st) (I, R, al) Q ↔ Zgo d 123 18 (L) (zi 0 :: st) (I, R, al) Q := zg_123_17
theorem zh_123_18 {o : Nat} {v : Int} : Zgo d 123 18 (L) (zi v :: zq (some (11, o)) :: st) (I, R, al) Q ↔ Zgo d 123 21 (L) (st) (zsI I 11 o 0 v, R, al) Q := zg_123_18
theorem zh_123_21 {x : Option (Nat × Nat)} : Zgo d 123 21 (some (zq x) :: L) (st) (I, R, al) Q ↔ Zgo d 123 22 (some (zq x) :: L) (zq x :: st) (I, R, al) Q := zg_123_21
theorem zh_123_22 {o : Nat} : Zgo d 123 22 (L) (zq (some (11, o)) :: st) (I, R, al) Q ↔ Zgo d 123 25 (L) (zi (I 11 o 0) :: st) (I, R, al) Q := zg_123_22
theorem zh_123_25 {x : Int} : Zgo d 123 25 (L) (zi x :: st) (I, R, al) Q ↔ if zw 0 < zw x then Zgo d 123 28 (L) (st) (I, R, al) Q else Zgo d 123 32 (L) (st) (I, R, al) Q := zg_123_25
theorem zh_123_28 : Zgo d 123 28 (L) (st) (I, R, al) Q ↔ Zgo d 123 29 (L) (zi 0 :: st) (I, R, al) Q := zg_123_28
theorem zh_123_29 : Zgo d 123 29 (L) (st) (I, R, al) Q ↔ Zgo d 123 38 (L) (st) (I, R, al) Q := zg_123_29
theorem zh_123_32 {x : Option (Nat × Nat)} : Zgo d 123 32 (some (zq x) :: L) (st) (I, R, al) Q ↔ Zgo d 123 33 (some (zq x) :: L) (zq x :: st) (I, R, al) Q := zg_123_32
theorem zh_123_33 {o : Nat} : Zgo d 123 33 (L) (zq (some (11, o)) :: st) (I, R, al) Q ↔ Zgo d 123 36 (L) (zq (R 11 o 34) :: st) (I, R, al) Q := zg_123_33
theorem zh_123_36 {x : Int} : Zgo d 123 36 (a0 :: some (zi x) :: L) (st) (I, R, al) Q ↔ Zgo d 123 37 (a0 :: some (zi x) :: L) (zi x :: st) (I, R, al) Q := zg_123_36
theorem zh_123_37 {j : Int} {c o : Nat} : Zgo d 123 37 (L) (zi j :: zq (some (c, o)) :: st) (I, R, al) Q ↔ zal (zlen (I, R, al) c) 0 j (fun x => Zgo d 123 38 (L) (zi (I c o x) :: st) (I, R, al) Q) := zg_123_37
theorem zh_123_38 {x : Int} : Zgo d 123 38 (L) (zi x :: []) (I, R, al) Q ↔ Q (some (zi x)) (I, R, al) := zg_123_38
theorem zh_124_0 {x : Option (Nat × Nat)} : Zgo d 124 0 (some (zq x) :: L) (st) (I, R, al) Q ↔ Zgo d 124 1 (some (zq x) :: L) (zq x :: st) (I, R, al) Q := zg_124_0
theorem zh_124_1 {x : Int} : Zgo d 124 1 (a0 :: some (zi x) :: L) (st) (I, R, al) Q ↔ Zgo d 124 2 (a0 :: some (zi x) :: L) (zi x :: st) (I, R, al) Q := zg_124_1
theorem zh_124_2 {x : Int} : Zgo d 124 2 (L) (zi x :: st) (I, R, al) Q ↔ if zw x < zw 0 then Zgo d 124 11 (L) (st) (I, R, al) Q else Zgo d 124 5 (L) (st) (I, R, al) Q := zg_124_2
theorem zh_124_5 {x : Int} : Zgo d 124 5 (a0 :: some (zi x) :: L) (st) (I, R, al) Q ↔ Zgo d 124 6 (a0 :: some (zi x) :: L) (zi x :: st) (I, R, al) Q := zg_124_5
theorem zh_124_6 : Zgo d 124 6 (L) (st) (I, R, al) Q ↔ Zgo d 124 8 (L) (zi 7 :: st) (I, R, al) Q := zg_124_6
theorem zh_124_8 {x y : Int} : Zgo d 124 8 (L) (zi y :: zi x :: st) (I, R, al) Q ↔ if zw y < zw x then Zgo d 124 11 (L) (st) (I, R, al) Q else Zgo d 124 15 (L) (st) (I, R, al) Q := zg_124_8
theorem zh_124_11 : Zgo d 124 11 (L) (st) (I, R, al) Q ↔ Zgo d 124 12 (L) (zi 1 :: st) (I, R, al) Q := zg_124_11
theorem zh_124_12 : Zgo d 124 12 (L) (st) (I, R, al) Q ↔ Zgo d 124 16 (L) (st) (I, R, al) Q := zg_124_12
theorem zh_124_15 : Zgo d 124 15 (L) (st) (I, R, al) Q ↔ Zgo d 124 16 (L) (zi 0 :: st) (I, R, al) Q := zg_124_15
theorem zh_124_16 {o : Nat} {v : Int} : Zgo d 124 16 (L) (zi v :: zq (some (11, o)) :: st) (I, R, al) Q ↔ Zgo d 124 19 (L) (st) (zsI I 11 o 0 v, R, al) Q := zg_124_16
theorem zh_124_19 {x : Option (Nat × Nat)} : Zgo d 124 19 (some (zq x) :: L) (st) (I, R, al) Q ↔ Zgo d 124 20 (some (zq x) :: L) (zq x :: st) (I, R, al) Q := zg_124_19
theorem zh_124_20 {o : Nat} : Zgo d 124 20 (L) (zq (some (11, o)) :: st) (I, R, al) Q ↔ Zgo d 124 23 (L) (zi (I 11 o 0) :: st) (I, R, al) Q := zg_124_20
theorem zh_124_23 {x : Int} : Zgo d 124 23 (L) (zi x :: st) (I, R, al) Q ↔ if zw 0 < zw x then Zgo d 124 26 (L) (st) (I, R, al) Q else Zgo d 124 30 (L) (st) (I, R, al) Q := zg_124_23
theorem zh_124_26 : Zgo d 124 26 (L) (st) (I, R, al) Q ↔ Zgo d 124 27 (L) (zi 0 :: st) (I, R, al) Q := zg_124_26
theorem zh_124_27 : Zgo d 124 27 (L) (st) (I, R, al) Q ↔ Zgo d 124 36 (L) (st) (I, R, al) Q := zg_124_27
theorem zh_124_30 {x : Option (Nat × Nat)} : Zgo d 124 30 (some (zq x) :: L) (st) (I, R, al) Q ↔ Zgo d 124 31 (some (zq x) :: L) (zq x :: st) (I, R, al) Q := zg_124_30
theorem zh_124_31 {o : Nat} : Zgo d 124 31 (L) (zq (some (11, o)) :: st) (I, R, al) Q ↔ Zgo d 124 34 (L) (zq (R 11 o 33) :: st) (I, R, al) Q := zg_124_31
theorem zh_124_34 {x : Int} : Zgo d 124 34 (a0 :: some (zi x) :: L) (st) (I, R, al) Q ↔ Zgo d 124 35 (a0 :: some (zi x) :: L) (zi x :: st) (I, R, al) Q := zg_124_34
theorem zh_124_35 {j : Int} {c o : Nat} : Zgo d 124 35 (L) (zi j :: zq (some (c, o)) :: st) (I, R, al) Q ↔ zal (zlen (I, R, al) c) 0 j (fun x => Zgo d 124 36 (L) (zi (I c o x) :: st) (I, R, al) Q) := zg_124_35
theorem zh_124_36 {x : Int} : Zgo d 124 36 (L) (zi x :: []) (I, R, al) Q ↔ Q (some (zi x)) (I, R, al) := zg_124_36
theorem zh_125_0 {x : Option (Nat × Nat)} : Zgo d 125 0 (some (zq x) :: L) (st) (I, R, al) Q ↔ Zgo d 125 1 (some (zq x) :: L) (zq x :: st) (I, R, al) Q := zg_125_0
theorem zh_125_1 {x : Option (Nat × Nat)} : Zgo d 125 1 (some (zq x) :: L) (st) (I, R, al) Q ↔ Zgo d 125 2 (some (zq x) :: L) (zq x :: st) (I, R, al) Q := zg_125_1
theorem zh_125_2 {o : Nat} : Zgo d 125 2 (L) (zq (some (11, o)) :: st) (I, R, al) Q ↔ Zgo d 125 5 (L) (zi (I 11 o 36) :: st) (I, R, al) Q := zg_125_2
theorem zh_125_5 : Zgo d 125 5 (L) (st) (I, R, al) Q ↔ Zgo d 125 6 (L) (zi 2 :: st) (I, R, al) Q := zg_125_5
theorem zh_125_6 {x y : Int} : Zgo d 125 6 (L) (zi y :: zi x :: st) (I, R, al) Q ↔ if zw x = zw y then Zgo d 125 13 (L) (st) (I, R, al) Q else Zgo d 125 9 (L) (st) (I, R, al) Q := zg_125_6
theorem zh_125_9 : Zgo d 125 9 (L) (st) (I, R, al) Q ↔ Zgo d 125 10 (L) (zi 1 :: st) (I, R, al) Q := zg_125_9
theorem zh_125_10 : Zgo d 125 10 (L) (st) (I, R, al) Q ↔ Zgo d 125 14 (L) (st) (I, R, al) Q := zg_125_10
theorem zh_125_13 : Zgo d 125 13 (L) (st) (I, R, al) Q ↔ Zgo d 125 14 (L) (zi 0 :: st) (I, R, al) Q := zg_125_13
theorem zh_125_14 {o : Nat} {v : Int} : Zgo d 125 14 (L) (zi v :: zq (some (11, o)) :: st) (I, R, al) Q ↔ Zgo d 125 17 (L) (st) (zsI I 11 o 0 v, R, al) Q := zg_125_14
theorem zh_125_17 {x : Option (Nat × Nat)} : Zgo d 125 17 (some (zq x) :: L) (st) (I, R, al) Q ↔ Zgo d 125 18 (some (zq x) :: L) (zq x :: st) (I, R, al) Q := zg_125_17
theorem zh_125_18 {o : Nat} : Zgo d 125 18 (L) (zq (some (11, o)) :: st) (I, R, al) Q ↔ Zgo d 125 21 (L) (zi (I 11 o 0) :: st) (I, R, al) Q := zg_125_18
theorem zh_125_21 {x : Int} : Zgo d 125 21 (L) (zi x :: st) (I, R, al) Q ↔ if zw 0 < zw x then Zgo d 125 24 (L) (st) (I, R, al) Q else Zgo d 125 28 (L) (st) (I, R, al) Q := zg_125_21
theorem zh_125_24 : Zgo d 125 24 (L) (st) (I, R, al) Q ↔ Zgo d 125 25 (L) (zi 0 :: st) (I, R, al) Q := zg_125_24
theorem zh_125_25 : Zgo d 125 25 (L) (st) (I, R, al) Q ↔ Zgo d 125 43 (L) (st) (I, R, al) Q := zg_125_25
theorem zh_125_28 {x : Int} : Zgo d 125 28 (a0 :: some (zi x) :: L) (st) (I, R, al) Q ↔ Zgo d 125 29 (a0 :: some (zi x) :: L) (zi x :: st) (I, R, al) Q := zg_125_28
theorem zh_125_29 {x : Int} : Zgo d 125 29 (L) (zi x :: st) (I, R, al) Q ↔ if zw x = zw 0 then Zgo d 125 39 (L) (st) (I, R, al) Q else Zgo d 125 32 (L) (st) (I, R, al) Q := zg_125_29
theorem zh_125_32 {x : Option (Nat × Nat)} : Zgo d 125 32 (some (zq x) :: L) (st) (I, R, al) Q ↔ Zgo d 125 33 (some (zq x) :: L) (zq x :: st) (I, R, al) Q := zg_125_32
theorem zh_125_33 {o : Nat} : Zgo d 125 33 (L) (zq (some (11, o)) :: st) (I, R, al) Q ↔ Zgo d 125 36 (L) (zi (I 11 o 40) :: st) (I, R, al) Q := zg_125_33
theorem zh_125_36 : Zgo d 125 36 (L) (st) (I, R, al) Q ↔ Zgo d 125 43 (L) (st) (I, R, al) Q := zg_125_36
theorem zh_125_39 {x : Option (Nat × Nat)} : Zgo d 125 39 (some (zq x) :: L) (st) (I, R, al) Q ↔ Zgo d 125 40 (some (zq x) :: L) (zq x :: st) (I, R, al) Q := zg_125_39
theorem zh_125_40 {o : Nat} : Zgo d 125 40 (L) (zq (some (11, o)) :: st) (I, R, al) Q ↔ Zgo d 125 43 (L) (zi (I 11 o 39) :: st) (I, R, al) Q := zg_125_40
theorem zh_125_43 {x : Int} : Zgo d 125 43 (L) (zi x :: []) (I, R, al) Q ↔ Q (some (zi x)) (I, R, al) := zg_125_43
theorem zh_126_0 {x : Option (Nat × Nat)} : Zgo d 126 0 (some (zq x) :: L) (st) (I, R, al) Q ↔ Zgo d 126 1 (some (zq x) :: L) (zq x :: st) (I, R, al) Q := zg_126_0
theorem zh_126_1 {x : Option (Nat × Nat)} : Zgo d 126 1 (some (zq x) :: L) (st) (I, R, al) Q ↔ Zgo d 126 2 (some (zq x) :: L) (zq x :: st) (I, R, al) Q := zg_126_1
theorem zh_126_2 {o : Nat} : Zgo d 126 2 (L) (zq (some (11, o)) :: st) (I, R, al) Q ↔ Zgo d 126 5 (L) (zi (I 11 o 5) :: st) (I, R, al) Q := zg_126_2
theorem zh_126_5 {x : Int} : Zgo d 126 5 (L) (zi x :: st) (I, R, al) Q ↔ if zw x = zw 0 then Zgo d 126 20 (L) (st) (I, R, al) Q else Zgo d 126 8 (L) (st) (I, R, al) Q := zg_126_5
theorem zh_126_8 {x : Int} : Zgo d 126 8 (a0 :: some (zi x) :: L) (st) (I, R, al) Q ↔ Zgo d 126 9 (a0 :: some (zi x) :: L) (zi x :: st) (I, R, al) Q := zg_126_8
theorem zh_126_9 {x : Int} : Zgo d 126 9 (L) (zi x :: st) (I, R, al) Q ↔ if zw x < zw 0 then Zgo d 126 20 (L) (st) (I, R, al) Q else Zgo d 126 12 (L) (st) (I, R, al) Q := zg_126_9
theorem zh_126_12 {x : Int} : Zgo d 126 12 (a0 :: some (zi x) :: L) (st) (I, R, al) Q ↔ Zgo d 126 13 (a0 :: some (zi x) :: L) (zi x :: st) (I, R, al) Q := zg_126_12
theorem zh_126_13 {x : Option (Nat × Nat)} : Zgo d 126 13 (some (zq x) :: L) (st) (I, R, al) Q ↔ Zgo d 126 14 (some (zq x) :: L) (zq x :: st) (I, R, al) Q := zg_126_13
theorem zh_126_14 {o : Nat} : Zgo d 126 14 (L) (zq (some (11, o)) :: st) (I, R, al) Q ↔ Zgo d 126 17 (L) (zi (I 11 o 6) :: st) (I, R, al) Q := zg_126_14
theorem zh_126_17 {x y : Int} : Zgo d 126 17 (L) (zi y :: zi x :: st) (I, R, al) Q ↔ if zw x < zw y then Zgo d 126 24 (L) (st) (I, R, al) Q else Zgo d 126 20 (L) (st) (I, R, al) Q := zg_126_17
theorem zh_126_20 : Zgo d 126 20 (L) (st) (I, R, al) Q ↔ Zgo d 126 21 (L) (zi 1 :: st) (I, R, al) Q := zg_126_20
theorem zh_126_21 : Zgo d 126 21 (L) (st) (I, R, al) Q ↔ Zgo d 126 25 (L) (st) (I, R, al) Q := zg_126_21
theorem zh_126_24 : Zgo d 126 24 (L) (st) (I, R, al) Q ↔ Zgo d 126 25 (L) (zi 0 :: st) (I, R, al) Q := zg_126_24
theorem zh_126_25 {o : Nat} {v : Int} : Zgo d 126 25 (L) (zi v :: zq (some (11, o)) :: st) (I, R, al) Q ↔ Zgo d 126 28 (L) (st) (zsI I 11 o 0 v, R, al) Q := zg_126_25
theorem zh_126_28 {x : Option (Nat × Nat)} : Zgo d 126 28 (some (zq x) :: L) (st) (I, R, al) Q ↔ Zgo d 126 29 (some (zq x) :: L) (zq x :: st) (I, R, al) Q := zg_126_28
theorem zh_126_29 {o : Nat} : Zgo d 126 29 (L) (zq (some (11, o)) :: st) (I, R, al) Q ↔ Zgo d 126 32 (L) (zi (I 11 o 0) :: st) (I, R, al) Q := zg_126_29
theorem zh_126_32 {x : Int} : Zgo d 126 32 (L) (zi x :: st) (I, R, al) Q ↔ if zw 0 < zw x then Zgo d 126 35 (L) (st) (I, R, al) Q else Zgo d 126 39 (L) (st) (I, R, al) Q := zg_126_32
theorem zh_126_35 : Zgo d 126 35 (L) (st) (I, R, al) Q ↔ Zgo d 126 36 (L) (zi 0 :: st) (I, R, al) Q := zg_126_35
theorem zh_126_36 : Zgo d 126 36 (L) (st) (I, R, al) Q ↔ Zgo d 126 50 (L) (st) (I, R, al) Q := zg_126_36
theorem zh_126_39 {x : Option (Nat × Nat)} : Zgo d 126 39 (some (zq x) :: L) (st) (I, R, al) Q ↔ Zgo d 126 40 (some (zq x) :: L) (zq x :: st) (I, R, al) Q := zg_126_39
theorem zh_126_40 {o : Nat} : Zgo d 126 40 (L) (zq (some (11, o)) :: st) (I, R, al) Q ↔ Zgo d 126 43 (L) (zq (R 11 o 27) :: st) (I, R, al) Q := zg_126_40
theorem zh_126_43 {x : Option (Nat × Nat)} : Zgo d 126 43 (some (zq x) :: L) (st) (I, R, al) Q ↔ Zgo d 126 44 (some (zq x) :: L) (zq x :: st) (I, R, al) Q := zg_126_43
theorem zh_126_44 {o : Nat} : Zgo d 126 44 (L) (zq (some (11, o)) :: st) (I, R, al) Q ↔ Zgo d 126 47 (L) (zq (R 11 o 9) :: st) (I, R, al) Q := zg_126_44
theorem zh_126_47 {x : Int} : Zgo d 126 47 (a0 :: some (zi x) :: L) (st) (I, R, al) Q ↔ Zgo d 126 48 (a0 :: some (zi x) :: L) (zi x :: st) (I, R, al) Q := zg_126_47
theorem zh_126_48 {j : Int} {c o : Nat} : Zgo d 126 48 (L) (zi j :: zq (some (c, o)) :: st) (I, R, al) Q ↔ zal (zlen (I, R, al) c) 0 j (fun x => Zgo d 126 49 (L) (zi (I c o x) :: st) (I, R, al) Q) := zg_126_48
theorem zh_126_49 {j : Int} {c o : Nat} : Zgo d 126 49 (L) (zi j :: zq (some (c, o)) :: st) (I, R, al) Q ↔ zal (zlen (I, R, al) c) 0 j (fun x => Zgo d 126 50 (L) (zi (I c o x) :: st) (I, R, al) Q) := zg_126_49
theorem zh_126_50 {x : Int} : Zgo d 126 50 (L) (zi x :: []) (I, R, al) Q ↔ Q (some (zi x)) (I, R, al) := zg_126_50
theorem zh_127_0 {x : Option (Nat × Nat)} : Zgo d 127 0 (some (zq x) :: L) (st) (I, R, al) Q ↔ Zgo d 127 1 (some (zq x) :: L) (zq x :: st) (I, R, al) Q := zg_127_0
theorem zh_127_1 : Zgo d 127 1 (L) (st) (I, R, al) Q ↔ Zgo d 127 2 (L) (zi 0 :: st) (I, R, al) Q := zg_127_1
theorem zh_127_2 {o : Nat} {v : Int} : Zgo d 127 2 (L) (zi v :: zq (some (11, o)) :: st) (I, R, al) Q ↔ Zgo d 127 5 (L) (st) (zsI I 11 o 0 v, R, al) Q := zg_127_2
theorem zh_127_5 {x : Int} : Zgo d 127 5 (a0 :: some (zi x) :: L) (st) (I, R, al) Q ↔ Zgo d 127 6 (a0 :: some (zi x) :: L) (zi x :: st) (I, R, al) Q := zg_127_5
theorem zh_127_52 {x : Option (Nat × Nat)} : Zgo d 127 52 (some (zq x) :: L) (st) (I, R, al) Q ↔ Zgo d 127 53 (some (zq x) :: L) (zq x :: st) (I, R, al) Q := zg_127_52
theorem zh_127_53 {o : Nat} : Zgo d 127 53 (L) (zq (some (11, o)) :: st) (I, R, al) Q ↔ Zgo d 127 56 (L) (zi (I 11 o 2) :: st) (I, R, al) Q := zg_127_53
theorem zh_127_56 {x : Int} : Zgo d 127 56 (L) (zi x :: []) (I, R, al) Q ↔ Q (some (zi x)) (I, R, al) := zg_127_56
theorem zh_127_57 {x : Option (Nat × Nat)} : Zgo d 127 57 (some (zq x) :: L) (st) (I, R, al) Q ↔ Zgo d 127 58 (some (zq x) :: L) (zq x :: st) (I, R, al) Q := zg_127_57
theorem zh_127_58 {o : Nat} : Zgo d 127 58 (L) (zq (some (11, o)) :: st) (I, R, al) Q ↔ Zgo d 127 61 (L) (zi (I 11 o 5) :: st) (I, R, al) Q := zg_127_58
theorem zh_127_61 {x : Int} : Zgo d 127 61 (L) (zi x :: st) (I, R, al) Q ↔ if zw x = zw 0 then Zgo d 127 68 (L) (st) (I, R, al) Q else Zgo d 127 64 (L) (st) (I, R, al) Q := zg_127_61
theorem zh_127_64 : Zgo d 127 64 (L) (st) (I, R, al) Q ↔ Zgo d 127 65 (L) (zi 1 :: st) (I, R, al) Q := zg_127_64
theorem zh_127_65 : Zgo d 127 65 (L) (st) (I, R, al) Q ↔ Zgo d 127 69 (L) (st) (I, R, al) Q := zg_127_65
theorem zh_127_68 : Zgo d 127 68 (L) (st) (I, R, al) Q ↔ Zgo d 127 69 (L) (zi 0 :: st) (I, R, al) Q := zg_127_68
theorem zh_127_69 {x : Int} : Zgo d 127 69 (L) (zi x :: []) (I, R, al) Q ↔ Q (some (zi x)) (I, R, al) := zg_127_69
theorem zh_127_70 {x : Option (Nat × Nat)} : Zgo d 127 70 (some (zq x) :: L) (st) (I, R, al) Q ↔ Zgo d 127 71 (some (zq x) :: L) (zq x :: st) (I, R, al) Q := zg_127_70
theorem zh_127_71 {o : Nat} : Zgo d 127 71 (L) (zq (some (11, o)) :: st) (I, R, al) Q ↔ Zgo d 127 74 (L) (zi (I 11 o 5) :: st) (I, R, al) Q := zg_127_71
theorem zh_127_74 {x : Int} : Zgo d 127 74 (L) (zi x :: st) (I, R, al) Q ↔ if zw x = zw 0 then Zgo d 127 84 (L) (st) (I, R, al) Q else Zgo d 127 77 (L) (st) (I, R, al) Q := zg_127_74
theorem zh_127_77 {x : Option (Nat × Nat)} : Zgo d 127 77 (some (zq x) :: L) (st) (I, R, al) Q ↔ Zgo d 127 78 (some (zq x) :: L) (zq x :: st) (I, R, al) Q := zg_127_77
theorem zh_127_78 {o : Nat} : Zgo d 127 78 (L) (zq (some (11, o)) :: st) (I, R, al) Q ↔ Zgo d 127 81 (L) (zi (I 11 o 6) :: st) (I, R, al) Q := zg_127_78
theorem zh_127_81 : Zgo d 127 81 (L) (st) (I, R, al) Q ↔ Zgo d 127 85 (L) (st) (I, R, al) Q := zg_127_81
theorem zh_127_84 : Zgo d 127 84 (L) (st) (I, R, al) Q ↔ Zgo d 127 85 (L) (zi 0 :: st) (I, R, al) Q := zg_127_84
theorem zh_127_85 {x : Int} : Zgo d 127 85 (L) (zi x :: []) (I, R, al) Q ↔ Q (some (zi x)) (I, R, al) := zg_127_85
theorem zh_127_86 {x : Option (Nat × Nat)} : Zgo d 127 86 (some (zq x) :: L) (st) (I, R, al) Q ↔ Zgo d 127 87 (some (zq x) :: L) (zq x :: st) (I, R, al) Q := zg_127_86
theorem zh_127_87 {o : Nat} : Zgo d 127 87 (L) (zq (some (11, o)) :: st) (I, R, al) Q ↔ Zgo d 127 90 (L) (zi (I 11 o 5) :: st) (I, R, al) Q := zg_127_87
theorem zh_127_90 {x : Int} : Zgo d 127 90 (L) (zi x :: st) (I, R, al) Q ↔ if zw x = zw 0 then Zgo d 127 100 (L) (st) (I, R, al) Q else Zgo d 127 93 (L) (st) (I, R, al) Q := zg_127_90
theorem zh_127_93 {x : Option (Nat × Nat)} : Zgo d 127 93 (some (zq x) :: L) (st) (I, R, al) Q ↔ Zgo d 127 94 (some (zq x) :: L) (zq x :: st) (I, R, al) Q := zg_127_93
theorem zh_127_94 {o : Nat} : Zgo d 127 94 (L) (zq (some (11, o)) :: st) (I, R, al) Q ↔ Zgo d 127 97 (L) (zi (I 11 o 10) :: st) (I, R, al) Q := zg_127_94
theorem zh_127_97 : Zgo d 127 97 (L) (st) (I, R, al) Q ↔ Zgo d 127 101 (L) (st) (I, R, al) Q := zg_127_97
theorem zh_127_100 : Zgo d 127 100 (L) (st) (I, R, al) Q ↔ Zgo d 127 101 (L) (zi 0 :: st) (I, R, al) Q := zg_127_100
theorem zh_127_101 {x : Int} : Zgo d 127 101 (L) (zi x :: []) (I, R, al) Q ↔ Q (some (zi x)) (I, R, al) := zg_127_101
theorem zh_127_102 {x : Option (Nat × Nat)} : Zgo d 127 102 (some (zq x) :: L) (st) (I, R, al) Q ↔ Zgo d 127 103 (some (zq x) :: L) (zq x :: st) (I, R, al) Q := zg_127_102
theorem zh_127_103 {o : Nat} : Zgo d 127 103 (L) (zq (some (11, o)) :: st) (I, R, al) Q ↔ Zgo d 127 106 (L) (zi (I 11 o 36) :: st) (I, R, al) Q := zg_127_103
theorem zh_127_106 {x : Int} : Zgo d 127 106 (L) (zi x :: []) (I, R, al) Q ↔ Q (some (zi x)) (I, R, al) := zg_127_106
theorem zh_127_107 {x : Option (Nat × Nat)} : Zgo d 127 107 (some (zq x) :: L) (st) (I, R, al) Q ↔ Zgo d 127 108 (some (zq x) :: L) (zq x :: st) (I, R, al) Q := zg_127_107
theorem zh_127_108 {o : Nat} : Zgo d 127 108 (L) (zq (some (11, o)) :: st) (I, R, al) Q ↔ Zgo d 127 111 (L) (zi (I 11 o 35) :: st) (I, R, al) Q := zg_127_108
theorem zh_127_111 {x : Int} : Zgo d 127 111 (L) (zi x :: []) (I, R, al) Q ↔ Q (some (zi x)) (I, R, al) := zg_127_111
theorem zh_127_112 {x : Option (Nat × Nat)} : Zgo d 127 112 (some (zq x) :: L) (st) (I, R, al) Q ↔ Zgo d 127 113 (some (zq x) :: L) (zq x :: st) (I, R, al) Q := zg_127_112
theorem zh_127_113 {o : Nat} : Zgo d 127 113 (L) (zq (some (11, o)) :: st) (I, R, al) Q ↔ Zgo d 127 116 (L) (zi (I 11 o 37) :: st) (I, R, al) Q := zg_127_113
theorem zh_127_116 {x : Int} : Zgo d 127 116 (L) (zi x :: []) (I, R, al) Q ↔ Q (some (zi x)) (I, R, al) := zg_127_116
theorem zh_127_117 {x : Option (Nat × Nat)} : Zgo d 127 117 (some (zq x) :: L) (st) (I, R, al) Q ↔ Zgo d 127 118 (some (zq x) :: L) (zq x :: st) (I, R, al) Q := zg_127_117
theorem zh_127_118 {o : Nat} : Zgo d 127 118 (L) (zq (some (11, o)) :: st) (I, R, al) Q ↔ Zgo d 127 121 (L) (zi (I 11 o 38) :: st) (I, R, al) Q := zg_127_118
theorem zh_127_121 {x : Int} : Zgo d 127 121 (L) (zi x :: []) (I, R, al) Q ↔ Q (some (zi x)) (I, R, al) := zg_127_121
theorem zh_127_122 : Zgo d 127 122 (L) (st) (I, R, al) Q ↔ Zgo d 127 123 (L) (zi (-1) :: st) (I, R, al) Q := zg_127_122
theorem zh_127_123 {x : Int} : Zgo d 127 123 (L) (zi x :: []) (I, R, al) Q ↔ Q (some (zi x)) (I, R, al) := zg_127_123
theorem zh_127_6 {x : Int} : Zgo d 127 6 L (zi x :: st) (I, R, al) Q ↔ (if zw x = 0 then Zgo d 127 52 L st (I, R, al) Q else if zw x = 1 then Zgo d 127 57 L st (I, R, al) Q else if zw x = 2 then Zgo d 127 70 L st (I, R, al) Q else if zw x = 3 then Zgo d 127 86 L st (I, R, al) Q else if zw x = 4 then Zgo d 127 102 L st (I, R, al) Q else if zw x = 5 then Zgo d 127 107 L st (I, R, al) Q else if zw x = 6 then Zgo d 127 112 L st (I, R, al) Q else if zw x = 7 then Zgo d 127 117 L st (I, R, al) Q else Zgo d 127 122 L st (I, R, al) Q) := zg_127_6
theorem zh_128_0 : Zgo d 128 0 (L) (st) (I, R, al) Q ↔ Zgo d 128 3 (L) (zq (some (0, al.1 0)) :: st) (I, R, va_up al.1 0 (al.1 0 + 1), al.2.1 + 1, al.2.2.1 + 5, al.2.2.2) Q := zg_128_0
theorem zh_128_3 {x : Int} : Zgo d 128 3 (L) (zi x :: st) (I, R, al) Q ↔ Zgo d 128 4 (L) (zi x :: zi x :: st) (I, R, al) Q := zg_128_3
theorem zh_128_3q {u : Option (Nat × Nat)} : Zgo d 128 3 (L) (zq u :: st) (I, R, al) Q ↔ Zgo d 128 4 (L) (zq u :: zq u :: st) (I, R, al) Q := zg_128_3
theorem zh_128_4 {o : Nat} : Zgo d 128 4 (L) (zq (some (0, o)) :: st) (I, R, al) Q ↔ if zwt st ≤ 8 then zCp d 0 [zq (some (0, o))] (I, R, al) (fun r S2 => Zgo d 128 7 L (r.toList ++ st) S2 Q) else False := zg_128_4
theorem zh_128_7 {x : Option (Nat × Nat)} : Zgo d 128 7 (a0 :: b0 :: L) (zq x :: st) (I, R, al) Q ↔ Zgo d 128 8 (zkl a0 :: some (zq x) :: L) (st) (I, R, al) Q := zg_128_7
theorem zh_128_8 : Zgo d 128 8 (L) (st) (I, R, al) Q ↔ Zgo d 128 11 (L) (zq (some (11, al.1 11)) :: st) (I, R, va_up al.1 11 (al.1 11 + 1), al.2.1 + 1, al.2.2.1 + 56, al.2.2.2) Q := zg_128_8
theorem zh_128_11 {x : Int} : Zgo d 128 11 (L) (zi x :: st) (I, R, al) Q ↔ Zgo d 128 12 (L) (zi x :: zi x :: st) (I, R, al) Q := zg_128_11
theorem zh_128_11q {u : Option (Nat × Nat)} : Zgo d 128 11 (L) (zq u :: st) (I, R, al) Q ↔ Zgo d 128 12 (L) (zq u :: zq u :: st) (I, R, al) Q := zg_128_11
theorem zh_128_12 {o : Nat} : Zgo d 128 12 (L) (zq (some (11, o)) :: st) (I, R, al) Q ↔ if zwt st ≤ 8 then zCp d 80 [zq (some (11, o))] (I, R, al) (fun r S2 => Zgo d 128 15 L (r.toList ++ st) S2 Q) else False := zg_128_12
theorem zh_128_15 {x : Option (Nat × Nat)} : Zgo d 128 15 (a0 :: a1 :: b0 :: L) (zq x :: st) (I, R, al) Q ↔ Zgo d 128 16 (a0 :: zkl a1 :: some (zq x) :: L) (st) (I, R, al) Q := zg_128_15
theorem zh_128_16 : Zgo d 128 16 (L) (st) (I, R, al) Q ↔ Zgo d 128 17 (L) (zi 1 :: st) (I, R, al) Q := zg_128_16
theorem zh_128_17 {n : Int} : Zgo d 128 17 (L) (zi n :: st) (I, R, al) Q ↔ if n = 1 ∧ al.1 65 = 0 then Zgo d 128 19 (L) (zq (some (65, 0)) :: st) (I, R, va_up al.1 65 1, al.2.1 + 1, al.2.2.1 + 1, al.2.2.2) Q else False := zg_128_17
theorem zh_128_19 {x : Option (Nat × Nat)} : Zgo d 128 19 (a0 :: a1 :: a2 :: b0 :: L) (zq x :: st) (I, R, al) Q ↔ Zgo d 128 20 (a0 :: a1 :: zkl a2 :: some (zq x) :: L) (st) (I, R, al) Q := zg_128_19
theorem zh_128_20 : Zgo d 128 20 (L) (st) (I, R, al) Q ↔ Zgo d 128 21 (L) (zi 0 :: st) (I, R, al) Q := zg_128_20
theorem zh_128_21 {x : Int} : Zgo d 128 21 (a0 :: a1 :: a2 :: a3 :: b0 :: L) (zi x :: st) (I, R, al) Q ↔ Zgo d 128 23 (a0 :: a1 :: a2 :: zkl a3 :: some (zi x) :: L) (st) (I, R, al) Q := zg_128_21
theorem zh_128_23 {x : Int} : Zgo d 128 23 (a0 :: a1 :: a2 :: a3 :: some (zi x) :: L) (st) (I, R, al) Q ↔ Zgo d 128 25 (a0 :: a1 :: a2 :: a3 :: some (zi x) :: L) (zi x :: st) (I, R, al) Q := zg_128_23
theorem zh_128_25 {x : Option (Nat × Nat)} : Zgo d 128 25 (some (zq x) :: L) (st) (I, R, al) Q ↔ Zgo d 128 26 (some (zq x) :: L) (zq x :: st) (I, R, al) Q := zg_128_25
theorem zh_128_26 {c o : Nat} : Zgo d 128 26 (L) (zq (some (c, o)) :: st) (I, R, al) Q ↔ zop (zlen (I, R, al) c) False fun n => Zgo d 128 27 (L) (zi n.2 :: st) (I, R, al) Q := zg_128_26
theorem zh_128_27 : Zgo d 128 27 (L) (st) (I, R, al) Q ↔ Zgo d 128 28 (L) (zi 3 :: st) (I, R, al) Q := zg_128_27
theorem zh_128_28 {x y : Int} : Zgo d 128 28 (L) (zi y :: zi x :: st) (I, R, al) Q ↔ Zgo d 128 29 (L) (zi (x - y) :: st) (I, R, al) Q := zg_128_28
theorem zh_128_29 {x y : Int} : Zgo d 128 29 (L) (zi y :: zi x :: st) (I, R, al) Q ↔ if zw y < zw x then Zgo d 128 496 (L) (st) (I, R, al) Q else Zgo d 128 32 (L) (st) (I, R, al) Q := zg_128_29
theorem zh_128_32 {x : Option (Nat × Nat)} : Zgo d 128 32 (some (zq x) :: L) (st) (I, R, al) Q ↔ Zgo d 128 33 (some (zq x) :: L) (zq x :: st) (I, R, al) Q := zg_128_32
theorem zh_128_33 {x : Int} : Zgo d 128 33 (a0 :: a1 :: a2 :: a3 :: some (zi x) :: L) (st) (I, R, al) Q ↔ Zgo d 128 35 (a0 :: a1 :: a2 :: a3 :: some (zi x) :: L) (zi x :: st) (I, R, al) Q := zg_128_33
theorem zh_128_35 {j : Int} {c o : Nat} : Zgo d 128 35 (L) (zi j :: zq (some (c, o)) :: st) (I, R, al) Q ↔ zal (zlen (I, R, al) c) 0 j (fun x => Zgo d 128 36 (L) (zi (I c o x) :: st) (I, R, al) Q) := zg_128_35
theorem zh_128_36 : Zgo d 128 36 (L) (st) (I, R, al) Q ↔ Zgo d 128 38 (L) (zi 15 :: st) (I, R, al) Q := zg_128_36
theorem zh_128_38 {x y : Int} : Zgo d 128 38 (L) (zi y :: zi x :: st) (I, R, al) Q ↔ Zgo d 128 39 (L) (zi (zand x y) :: st) (I, R, al) Q := zg_128_38
theorem zh_128_88 {x : Option (Nat × Nat)} : Zgo d 128 88 (a0 :: some (zq x) :: L) (st) (I, R, al) Q ↔ Zgo d 128 89 (a0 :: some (zq x) :: L) (zq x :: st) (I, R, al) Q := zg_128_88
theorem zh_128_89 {x : Option (Nat × Nat)} : Zgo d 128 89 (some (zq x) :: L) (st) (I, R, al) Q ↔ Zgo d 128 90 (some (zq x) :: L) (zq x :: st) (I, R, al) Q := zg_128_89
theorem zh_128_90 {x : Int} : Zgo d 128 90 (a0 :: a1 :: a2 :: a3 :: some (zi x) :: L) (st) (I, R, al) Q ↔ Zgo d 128 92 (a0 :: a1 :: a2 :: a3 :: some (zi x) :: L) (zi x :: st) (I, R, al) Q := zg_128_90
theorem zh_128_92 : Zgo d 128 92 (L) (st) (I, R, al) Q ↔ Zgo d 128 93 (L) (zi 1 :: st) (I, R, al) Q := zg_128_92
theorem zh_128_93 {x y : Int} : Zgo d 128 93 (L) (zi y :: zi x :: st) (I, R, al) Q ↔ Zgo d 128 94 (L) (zi (x + y) :: st) (I, R, al) Q := zg_128_93
theorem zh_128_94 {j : Int} {c o : Nat} : Zgo d 128 94 (L) (zi j :: zq (some (c, o)) :: st) (I, R, al) Q ↔ zal (zlen (I, R, al) c) 0 j (fun x => Zgo d 128 95 (L) (zi (I c o x) :: st) (I, R, al) Q) := zg_128_94
theorem zh_128_95 {x : Int} : Zgo d 128 95 (L) (zi x :: st) (I, R, al) Q ↔ Zgo d 128 96 (L) (zl (zw x) :: st) (I, R, al) Q := zg_128_95
theorem zh_128_96 : Zgo d 128 96 (L) (st) (I, R, al) Q ↔ Zgo d 128 98 (L) (zi 32 :: st) (I, R, al) Q := zg_128_96
theorem zh_128_98 {x y : Int} : Zgo d 128 98 (L) (zi y :: zl x :: st) (I, R, al) Q ↔ Zgo d 128 99 (L) (zl (zlshl x y) :: st) (I, R, al) Q := zg_128_98
theorem zh_128_99 {x : Option (Nat × Nat)} : Zgo d 128 99 (some (zq x) :: L) (st) (I, R, al) Q ↔ Zgo d 128 100 (some (zq x) :: L) (zq x :: st) (I, R, al) Q := zg_128_99
theorem zh_128_100 {x : Int} : Zgo d 128 100 (a0 :: a1 :: a2 :: a3 :: some (zi x) :: L) (st) (I, R, al) Q ↔ Zgo d 128 102 (a0 :: a1 :: a2 :: a3 :: some (zi x) :: L) (zi x :: st) (I, R, al) Q := zg_128_100
theorem zh_128_102 : Zgo d 128 102 (L) (st) (I, R, al) Q ↔ Zgo d 128 103 (L) (zi 2 :: st) (I, R, al) Q := zg_128_102
theorem zh_128_103 {x y : Int} : Zgo d 128 103 (L) (zi y :: zi x :: st) (I, R, al) Q ↔ Zgo d 128 104 (L) (zi (x + y) :: st) (I, R, al) Q := zg_128_103
theorem zh_128_104 {j : Int} {c o : Nat} : Zgo d 128 104 (L) (zi j :: zq (some (c, o)) :: st) (I, R, al) Q ↔ zal (zlen (I, R, al) c) 0 j (fun x => Zgo d 128 105 (L) (zi (I c o x) :: st) (I, R, al) Q) := zg_128_104
theorem zh_128_105 {x : Int} : Zgo d 128 105 (L) (zi x :: st) (I, R, al) Q ↔ Zgo d 128 106 (L) (zl (zw x) :: st) (I, R, al) Q := zg_128_105
theorem zh_128_106 : Zgo d 128 106 (L) (st) (I, R, al) Q ↔ Zgo d 128 109 (L) (zl 4294967295 :: st) (I, R, al) Q := zg_128_106
theorem zh_128_109 {x y : Int} : Zgo d 128 109 (L) (zl y :: zl x :: st) (I, R, al) Q ↔ Zgo d 128 110 (L) (zl (zland x y) :: st) (I, R, al) Q := zg_128_109
theorem zh_128_110 {x y : Int} : Zgo d 128 110 (L) (zl y :: zl x :: st) (I, R, al) Q ↔ Zgo d 128 111 (L) (zl (zlor x y) :: st) (I, R, al) Q := zg_128_110
theorem zh_128_111 {v1 : zV} {o : Nat} : Zgo d 128 111 (L) (v1 :: zq (some (0, o)) :: st) (I, R, al) Q ↔ if zwt st ≤ 8 then zCp d 11 [zq (some (0, o)), v1] (I, R, al) (fun r S2 => Zgo d 128 114 L (r.toList ++ st) S2 Q) else False := zg_128_111
theorem zh_128_114 {x : Option (Nat × Nat)} : Zgo d 128 114 (a0 :: a1 :: some (zq x) :: L) (st) (I, R, al) Q ↔ Zgo d 128 115 (a0 :: a1 :: some (zq x) :: L) (zq x :: st) (I, R, al) Q := zg_128_114
theorem zh_128_115 {x : Option (Nat × Nat)} : Zgo d 128 115 (some (zq x) :: L) (st) (I, R, al) Q ↔ Zgo d 128 116 (some (zq x) :: L) (zq x :: st) (I, R, al) Q := zg_128_115
theorem zh_128_116 {x : Int} : Zgo d 128 116 (a0 :: a1 :: a2 :: a3 :: some (zi x) :: L) (st) (I, R, al) Q ↔ Zgo d 128 118 (a0 :: a1 :: a2 :: a3 :: some (zi x) :: L) (zi x :: st) (I, R, al) Q := zg_128_116
theorem zh_128_118 : Zgo d 128 118 (L) (st) (I, R, al) Q ↔ Zgo d 128 119 (L) (zi 1 :: st) (I, R, al) Q := zg_128_118
theorem zh_128_119 {x y : Int} : Zgo d 128 119 (L) (zi y :: zi x :: st) (I, R, al) Q ↔ Zgo d 128 120 (L) (zi (x + y) :: st) (I, R, al) Q := zg_128_119
theorem zh_128_120 {j : Int} {c o : Nat} : Zgo d 128 120 (L) (zi j :: zq (some (c, o)) :: st) (I, R, al) Q ↔ zal (zlen (I, R, al) c) 0 j (fun x => Zgo d 128 121 (L) (zi (I c o x) :: st) (I, R, al) Q) := zg_128_120
theorem zh_128_121 {x : Int} : Zgo d 128 121 (L) (zi x :: st) (I, R, al) Q ↔ Zgo d 128 122 (L) (zl (zw x) :: st) (I, R, al) Q := zg_128_121
theorem zh_128_122 : Zgo d 128 122 (L) (st) (I, R, al) Q ↔ Zgo d 128 124 (L) (zi 32 :: st) (I, R, al) Q := zg_128_122
theorem zh_128_124 {x y : Int} : Zgo d 128 124 (L) (zi y :: zl x :: st) (I, R, al) Q ↔ Zgo d 128 125 (L) (zl (zlshl x y) :: st) (I, R, al) Q := zg_128_124
theorem zh_128_125 {x : Option (Nat × Nat)} : Zgo d 128 125 (some (zq x) :: L) (st) (I, R, al) Q ↔ Zgo d 128 126 (some (zq x) :: L) (zq x :: st) (I, R, al) Q := zg_128_125
theorem zh_128_126 {x : Int} : Zgo d 128 126 (a0 :: a1 :: a2 :: a3 :: some (zi x) :: L) (st) (I, R, al) Q ↔ Zgo d 128 128 (a0 :: a1 :: a2 :: a3 :: some (zi x) :: L) (zi x :: st) (I, R, al) Q := zg_128_126
theorem zh_128_128 : Zgo d 128 128 (L) (st) (I, R, al) Q ↔ Zgo d 128 129 (L) (zi 2 :: st) (I, R, al) Q := zg_128_128
theorem zh_128_129 {x y : Int} : Zgo d 128 129 (L) (zi y :: zi x :: st) (I, R, al) Q ↔ Zgo d 128 130 (L) (zi (x + y) :: st) (I, R, al) Q := zg_128_129
theorem zh_128_130 {j : Int} {c o : Nat} : Zgo d 128 130 (L) (zi j :: zq (some (c, o)) :: st) (I, R, al) Q ↔ zal (zlen (I, R, al) c) 0 j (fun x => Zgo d 128 131 (L) (zi (I c o x) :: st) (I, R, al) Q) := zg_128_130
theorem zh_128_131 {x : Int} : Zgo d 128 131 (L) (zi x :: st) (I, R, al) Q ↔ Zgo d 128 132 (L) (zl (zw x) :: st) (I, R, al) Q := zg_128_131
theorem zh_128_132 : Zgo d 128 132 (L) (st) (I, R, al) Q ↔ Zgo d 128 135 (L) (zl 4294967295 :: st) (I, R, al) Q := zg_128_132
theorem zh_128_135 {x y : Int} : Zgo d 128 135 (L) (zl y :: zl x :: st) (I, R, al) Q ↔ Zgo d 128 136 (L) (zl (zland x y) :: st) (I, R, al) Q := zg_128_135
theorem zh_128_136 {x y : Int} : Zgo d 128 136 (L) (zl y :: zl x :: st) (I, R, al) Q ↔ Zgo d 128 137 (L) (zl (zlor x y) :: st) (I, R, al) Q := zg_128_136
theorem zh_128_137 {v1 : zV} {o : Nat} : Zgo d 128 137 (L) (v1 :: zq (some (11, o)) :: st) (I, R, al) Q ↔ if zwt st ≤ 8 then zCp d 82 [zq (some (11, o)), v1] (I, R, al) (fun r S2 => Zgo d 128 140 L (r.toList ++ st) S2 Q) else False := zg_128_137
theorem zh_128_140 {x y : Int} : Zgo d 128 140 (L) (zi y :: zi x :: st) (I, R, al) Q ↔ if zw x = zw y then Zgo d 128 490 (L) (st) (I, R, al) Q else Zgo d 128 143 (L) (st) (I, R, al) Q := zg_128_140
theorem zh_128_143 : Zgo d 128 143 (L) (st) (I, R, al) Q ↔ Zgo d 128 144 (L) (zi 0 :: st) (I, R, al) Q := zg_128_143
theorem zh_128_144 {x : Int} : Zgo d 128 144 (L) (zi x :: []) (I, R, al) Q ↔ zok 1 x False (Q (some (zi x)) (I, R, al)) := zg_128_144
theorem zh_128_145 {x : Option (Nat × Nat)} : Zgo d 128 145 (a0 :: some (zq x) :: L) (st) (I, R, al) Q ↔ Zgo d 128 146 (a0 :: some (zq x) :: L) (zq x :: st) (I, R, al) Q := zg_128_145
theorem zh_128_146 {o : Nat} : Zgo d 128 146 (L) (zq (some (0, o)) :: st) (I, R, al) Q ↔ if zwt st ≤ 8 then zCp d 15 [zq (some (0, o))] (I, R, al) (fun r S2 => Zgo d 128 149 L (r.toList ++ st) S2 Q) else False := zg_128_146
theorem zh_128_149 {x : Option (Nat × Nat)} : Zgo d 128 149 (a0 :: a1 :: some (zq x) :: L) (st) (I, R, al) Q ↔ Zgo d 128 150 (a0 :: a1 :: some (zq x) :: L) (zq x :: st) (I, R, al) Q := zg_128_149
theorem zh_128_150 {o : Nat} : Zgo d 128 150 (L) (zq (some (11, o)) :: st) (I, R, al) Q ↔ if zwt st ≤ 8 then zCp d 83 [zq (some (11, o))] (I, R, al) (fun r S2 => Zgo d 128 153 L (r.toList ++ st) S2 Q) else False := zg_128_150
theorem zh_128_153 : Zgo d 128 153 (L) (st) (I, R, al) Q ↔ Zgo d 128 490 (L) (st) (I, R, al) Q := zg_128_153
theorem zh_128_156 {x : Option (Nat × Nat)} : Zgo d 128 156 (a0 :: some (zq x) :: L) (st) (I, R, al) Q ↔ Zgo d 128 157 (a0 :: some (zq x) :: L) (zq x :: st) (I, R, al) Q := zg_128_156
theorem zh_128_157 {o : Nat} : Zgo d 128 157 (L) (zq (some (0, o)) :: st) (I, R, al) Q ↔ if zwt st ≤ 8 then zCp d 16 [zq (some (0, o))] (I, R, al) (fun r S2 => Zgo d 128 160 L (r.toList ++ st) S2 Q) else False := zg_128_157
theorem zh_128_160 {x : Option (Nat × Nat)} : Zgo d 128 160 (a0 :: a1 :: some (zq x) :: L) (st) (I, R, al) Q ↔ Zgo d 128 161 (a0 :: a1 :: some (zq x) :: L) (zq x :: st) (I, R, al) Q := zg_128_160
theorem zh_128_161 {o : Nat} : Zgo d 128 161 (L) (zq (some (11, o)) :: st) (I, R, al) Q ↔ if zwt st ≤ 8 then zCp d 84 [zq (some (11, o))] (I, R, al) (fun r S2 => Zgo d 128 164 L (r.toList ++ st) S2 Q) else False := zg_128_161
theorem zh_128_164 {x y : Int} : Zgo d 128 164 (L) (zi y :: zi x :: st) (I, R, al) Q ↔ if zw x = zw y then Zgo d 128 490 (L) (st) (I, R, al) Q else Zgo d 128 167 (L) (st) (I, R, al) Q := zg_128_164
theorem zh_128_167 : Zgo d 128 167 (L) (st) (I, R, al) Q ↔ Zgo d 128 168 (L) (zi 0 :: st) (I, R, al) Q := zg_128_167
theorem zh_128_168 {x : Int} : Zgo d 128 168 (L) (zi x :: []) (I, R, al) Q ↔ zok 1 x False (Q (some (zi x)) (I, R, al)) := zg_128_168
theorem zh_128_169 {x : Option (Nat × Nat)} : Zgo d 128 169 (a0 :: some (zq x) :: L) (st) (I, R, al) Q ↔ Zgo d 128 170 (a0 :: some (zq x) :: L) (zq x :: st) (I, R, al) Q := zg_128_169
theorem zh_128_170 {x : Option (Nat × Nat)} : Zgo d 128 170 (some (zq x) :: L) (st) (I, R, al) Q ↔ Zgo d 128 171 (some (zq x) :: L) (zq x :: st) (I, R, al) Q := zg_128_170
theorem zh_128_171 {x : Int} : Zgo d 128 171 (a0 :: a1 :: a2 :: a3 :: some (zi x) :: L) (st) (I, R, al) Q ↔ Zgo d 128 173 (a0 :: a1 :: a2 :: a3 :: some (zi x) :: L) (zi x :: st) (I, R, al) Q := zg_128_171
theorem zh_128_173 : Zgo d 128 173 (L) (st) (I, R, al) Q ↔ Zgo d 128 174 (L) (zi 1 :: st) (I, R, al) Q := zg_128_173
theorem zh_128_174 {x y : Int} : Zgo d 128 174 (L) (zi y :: zi x :: st) (I, R, al) Q ↔ Zgo d 128 175 (L) (zi (x + y) :: st) (I, R, al) Q := zg_128_174
theorem zh_128_175 {j : Int} {c o : Nat} : Zgo d 128 175 (L) (zi j :: zq (some (c, o)) :: st) (I, R, al) Q ↔ zal (zlen (I, R, al) c) 0 j (fun x => Zgo d 128 176 (L) (zi (I c o x) :: st) (I, R, al) Q) := zg_128_175
theorem zh_128_176 {x : Option (Nat × Nat)} : Zgo d 128 176 (a0 :: a1 :: a2 :: some (zq x) :: L) (st) (I, R, al) Q ↔ Zgo d 128 177 (a0 :: a1 :: a2 :: some (zq x) :: L) (zq x :: st) (I, R, al) Q := zg_128_176
theorem zh_128_177 {v0 v1 v2 : zV} : Zgo d 128 177 (L) (v2 :: v1 :: v0 :: st) (I, R, al) Q ↔ if zwt st ≤ 8 then zCp d 56 [v0, v1, v2] (I, R, al) (fun r S2 => Zgo d 128 180 L (r.toList ++ st) S2 Q) else False := zg_128_177
theorem zh_128_180 {x : Int} : Zgo d 128 180 (a0 :: a1 :: a2 :: a3 :: a4 :: b0 :: L) (zi x :: st) (I, R, al) Q ↔ Zgo d 128 182 (a0 :: a1 :: a2 :: a3 :: zkl a4 :: some (zi x) :: L) (st) (I, R, al) Q := zg_128_180
theorem zh_128_182 {x : Option (Nat × Nat)} : Zgo d 128 182 (a0 :: a1 :: some (zq x) :: L) (st) (I, R, al) Q ↔ Zgo d 128 183 (a0 :: a1 :: some (zq x) :: L) (zq x :: st) (I, R, al) Q := zg_128_182
theorem zh_128_183 {x : Option (Nat × Nat)} : Zgo d 128 183 (some (zq x) :: L) (st) (I, R, al) Q ↔ Zgo d 128 184 (some (zq x) :: L) (zq x :: st) (I, R, al) Q := zg_128_183
theorem zh_128_184 {x : Int} : Zgo d 128 184 (a0 :: a1 :: a2 :: a3 :: some (zi x) :: L) (st) (I, R, al) Q ↔ Zgo d 128 186 (a0 :: a1 :: a2 :: a3 :: some (zi x) :: L) (zi x :: st) (I, R, al) Q := zg_128_184
theorem zh_128_186 : Zgo d 128 186 (L) (st) (I, R, al) Q ↔ Zgo d 128 187 (L) (zi 1 :: st) (I, R, al) Q := zg_128_186
theorem zh_128_187 {x y : Int} : Zgo d 128 187 (L) (zi y :: zi x :: st) (I, R, al) Q ↔ Zgo d 128 188 (L) (zi (x + y) :: st) (I, R, al) Q := zg_128_187
theorem zh_128_188 {j : Int} {c o : Nat} : Zgo d 128 188 (L) (zi j :: zq (some (c, o)) :: st) (I, R, al) Q ↔ zal (zlen (I, R, al) c) 0 j (fun x => Zgo d 128 189 (L) (zi (I c o x) :: st) (I, R, al) Q) := zg_128_188
theorem zh_128_189 {v1 : zV} {o : Nat} : Zgo d 128 189 (L) (v1 :: zq (some (11, o)) :: st) (I, R, al) Q ↔ if zwt st ≤ 8 then zCp d 110 [zq (some (11, o)), v1] (I, R, al) (fun r S2 => Zgo d 128 192 L (r.toList ++ st) S2 Q) else False := zg_128_189
theorem zh_128_192 {x : Int} : Zgo d 128 192 (a0 :: a1 :: a2 :: a3 :: a4 :: a5 :: b0 :: L) (zi x :: st) (I, R, al) Q ↔ Zgo d 128 194 (a0 :: a1 :: a2 :: a3 :: a4 :: zkl a5 :: some (zi x) :: L) (st) (I, R, al) Q := zg_128_192
theorem zh_128_194 {x : Option (Nat × Nat)} : Zgo d 128 194 (a0 :: a1 :: some (zq x) :: L) (st) (I, R, al) Q ↔ Zgo d 128 195 (a0 :: a1 :: some (zq x) :: L) (zq x :: st) (I, R, al) Q := zg_128_194
theorem zh_128_195 {o : Nat} : Zgo d 128 195 (L) (zq (some (11, o)) :: st) (I, R, al) Q ↔ if zwt st ≤ 8 then zCp d 81 [zq (some (11, o))] (I, R, al) (fun r S2 => Zgo d 128 198 L (r.toList ++ st) S2 Q) else False := zg_128_195
theorem zh_128_198 {x : Int} : Zgo d 128 198 (a0 :: a1 :: a2 :: a3 :: a4 :: some (zi x) :: L) (st) (I, R, al) Q ↔ Zgo d 128 200 (a0 :: a1 :: a2 :: a3 :: a4 :: some (zi x) :: L) (zi x :: st) (I, R, al) Q := zg_128_198
theorem zh_128_200 {x y : Int} : Zgo d 128 200 (L) (zi y :: zi x :: st) (I, R, al) Q ↔ if zw x = zw y then Zgo d 128 205 (L) (st) (I, R, al) Q else Zgo d 128 203 (L) (st) (I, R, al) Q := zg_128_200
theorem zh_128_203 : Zgo d 128 203 (L) (st) (I, R, al) Q ↔ Zgo d 128 204 (L) (zi 0 :: st) (I, R, al) Q := zg_128_203
theorem zh_128_204 {x : Int} : Zgo d 128 204 (L) (zi x :: []) (I, R, al) Q ↔ zok 1 x False (Q (some (zi x)) (I, R, al)) := zg_128_204
theorem zh_128_205 {x : Int} : Zgo d 128 205 (a0 :: a1 :: a2 :: a3 :: a4 :: some (zi x) :: L) (st) (I, R, al) Q ↔ Zgo d 128 207 (a0 :: a1 :: a2 :: a3 :: a4 :: some (zi x) :: L) (zi x :: st) (I, R, al) Q := zg_128_205
theorem zh_128_207 {x : Int} : Zgo d 128 207 (L) (zi x :: st) (I, R, al) Q ↔ if zw x = zw 0 then Zgo d 128 210 (L) (st) (I, R, al) Q else Zgo d 128 222 (L) (st) (I, R, al) Q := zg_128_207
theorem zh_128_210 {x : Option (Nat × Nat)} : Zgo d 128 210 (a0 :: a1 :: a2 :: some (zq x) :: L) (st) (I, R, al) Q ↔ Zgo d 128 211 (a0 :: a1 :: a2 :: some (zq x) :: L) (zq x :: st) (I, R, al) Q := zg_128_210
theorem zh_128_211 : Zgo d 128 211 (L) (st) (I, R, al) Q ↔ Zgo d 128 212 (L) (zi 0 :: st) (I, R, al) Q := zg_128_211
theorem zh_128_212 {j : Int} {c o : Nat} : Zgo d 128 212 (L) (zi j :: zq (some (c, o)) :: st) (I, R, al) Q ↔ zal (zlen (I, R, al) c) 4 j (fun x => Zgo d 128 213 (L) (zl (I c o x) :: st) (I, R, al) Q) := zg_128_212
theorem zh_128_213 {x : Int} : Zgo d 128 213 (a0 :: a1 :: a2 :: a3 :: a4 :: a5 :: some (zi x) :: L) (st) (I, R, al) Q ↔ Zgo d 128 215 (a0 :: a1 :: a2 :: a3 :: a4 :: a5 :: some (zi x) :: L) (zi x :: st) (I, R, al) Q := zg_128_213
theorem zh_128_215 {x : Int} : Zgo d 128 215 (L) (zi x :: st) (I, R, al) Q ↔ Zgo d 128 216 (L) (zl (zw x) :: st) (I, R, al) Q := zg_128_215
theorem zh_128_216 {x y : Int} : Zgo d 128 216 (L) (zl y :: zl x :: st) (I, R, al) Q ↔ Zgo d 128 217 (L) (zi (zlcmp x y) :: st) (I, R, al) Q := zg_128_216
theorem zh_128_217 {x : Int} : Zgo d 128 217 (L) (zi x :: st) (I, R, al) Q ↔ if zw x = zw 0 then Zgo d 128 222 (L) (st) (I, R, al) Q else Zgo d 128 220 (L) (st) (I, R, al) Q := zg_128_217
theorem zh_128_220 : Zgo d 128 220 (L) (st) (I, R, al) Q ↔ Zgo d 128 221 (L) (zi 0 :: st) (I, R, al) Q := zg_128_220
theorem zh_128_221 {x : Int} : Zgo d 128 221 (L) (zi x :: []) (I, R, al) Q ↔ zok 1 x False (Q (some (zi x)) (I, R, al)) := zg_128_221
theorem zh_128_222 : Zgo d 128 222 (L) (st) (I, R, al) Q ↔ Zgo d 128 490 (L) (st) (I, R, al) Q := zg_128_222
theorem zh_128_225 {x : Option (Nat × Nat)} : Zgo d 128 225 (a0 :: some (zq x) :: L) (st) (I, R, al) Q ↔ Zgo d 128 226 (a0 :: some (zq x) :: L) (zq x :: st) (I, R, al) Q := zg_128_225
theorem zh_128_226 {x : Option (Nat × Nat)} : Zgo d 128 226 (some (zq x) :: L) (st) (I, R, al) Q ↔ Zgo d 128 227 (some (zq x) :: L) (zq x :: st) (I, R, al) Q := zg_128_226
theorem zh_128_227 {x : Int} : Zgo d 128 227 (a0 :: a1 :: a2 :: a3 :: some (zi x) :: L) (st) (I, R, al) Q ↔ Zgo d 128 229 (a0 :: a1 :: a2 :: a3 :: some (zi x) :: L) (zi x :: st) (I, R, al) Q := zg_128_227
theorem zh_128_229 : Zgo d 128 229 (L) (st) (I, R, al) Q ↔ Zgo d 128 230 (L) (zi 1 :: st) (I, R, al) Q := zg_128_229
theorem zh_128_230 {x y : Int} : Zgo d 128 230 (L) (zi y :: zi x :: st) (I, R, al) Q ↔ Zgo d 128 231 (L) (zi (x + y) :: st) (I, R, al) Q := zg_128_230
theorem zh_128_231 {j : Int} {c o : Nat} : Zgo d 128 231 (L) (zi j :: zq (some (c, o)) :: st) (I, R, al) Q ↔ zal (zlen (I, R, al) c) 0 j (fun x => Zgo d 128 232 (L) (zi (I c o x) :: st) (I, R, al) Q) := zg_128_231
theorem zh_128_232 {x : Option (Nat × Nat)} : Zgo d 128 232 (a0 :: a1 :: a2 :: some (zq x) :: L) (st) (I, R, al) Q ↔ Zgo d 128 233 (a0 :: a1 :: a2 :: some (zq x) :: L) (zq x :: st) (I, R, al) Q := zg_128_232
theorem zh_128_233 {v0 v1 v2 : zV} : Zgo d 128 233 (L) (v2 :: v1 :: v0 :: st) (I, R, al) Q ↔ if zwt st ≤ 8 then zCp d 72 [v0, v1, v2] (I, R, al) (fun r S2 => Zgo d 128 236 L (r.toList ++ st) S2 Q) else False := zg_128_233
theorem zh_128_236 {x : Int} : Zgo d 128 236 (a0 :: a1 :: a2 :: a3 :: a4 :: b0 :: L) (zi x :: st) (I, R, al) Q ↔ Zgo d 128 238 (a0 :: a1 :: a2 :: a3 :: zkl a4 :: some (zi x) :: L) (st) (I, R, al) Q := zg_128_236
theorem zh_128_238 {x : Option (Nat × Nat)} : Zgo d 128 238 (a0 :: a1 :: some (zq x) :: L) (st) (I, R, al) Q ↔ Zgo d 128 239 (a0 :: a1 :: some (zq x) :: L) (zq x :: st) (I, R, al) Q := zg_128_238
theorem zh_128_239 {x : Option (Nat × Nat)} : Zgo d 128 239 (some (zq x) :: L) (st) (I, R, al) Q ↔ Zgo d 128 240 (some (zq x) :: L) (zq x :: st) (I, R, al) Q := zg_128_239
theorem zh_128_240 {x : Int} : Zgo d 128 240 (a0 :: a1 :: a2 :: a3 :: some (zi x) :: L) (st) (I, R, al) Q ↔ Zgo d 128 242 (a0 :: a1 :: a2 :: a3 :: some (zi x) :: L) (zi x :: st) (I, R, al) Q := zg_128_240
theorem zh_128_242 : Zgo d 128 242 (L) (st) (I, R, al) Q ↔ Zgo d 128 243 (L) (zi 1 :: st) (I, R, al) Q := zg_128_242
theorem zh_128_243 {x y : Int} : Zgo d 128 243 (L) (zi y :: zi x :: st) (I, R, al) Q ↔ Zgo d 128 244 (L) (zi (x + y) :: st) (I, R, al) Q := zg_128_243
theorem zh_128_244 {j : Int} {c o : Nat} : Zgo d 128 244 (L) (zi j :: zq (some (c, o)) :: st) (I, R, al) Q ↔ zal (zlen (I, R, al) c) 0 j (fun x => Zgo d 128 245 (L) (zi (I c o x) :: st) (I, R, al) Q) := zg_128_244
theorem zh_128_245 {v1 : zV} {o : Nat} : Zgo d 128 245 (L) (v1 :: zq (some (11, o)) :: st) (I, R, al) Q ↔ if zwt st ≤ 8 then zCp d 123 [zq (some (11, o)), v1] (I, R, al) (fun r S2 => Zgo d 128 248 L (r.toList ++ st) S2 Q) else False := zg_128_245
theorem zh_128_248 {x : Int} : Zgo d 128 248 (a0 :: a1 :: a2 :: a3 :: a4 :: a5 :: b0 :: L) (zi x :: st) (I, R, al) Q ↔ Zgo d 128 250 (a0 :: a1 :: a2 :: a3 :: a4 :: zkl a5 :: some (zi x) :: L) (st) (I, R, al) Q := zg_128_248
theorem zh_128_250 {x : Option (Nat × Nat)} : Zgo d 128 250 (a0 :: a1 :: some (zq x) :: L) (st) (I, R, al) Q ↔ Zgo d 128 251 (a0 :: a1 :: some (zq x) :: L) (zq x :: st) (I, R, al) Q := zg_128_250
theorem zh_128_251 {o : Nat} : Zgo d 128 251 (L) (zq (some (11, o)) :: st) (I, R, al) Q ↔ if zwt st ≤ 8 then zCp d 81 [zq (some (11, o))] (I, R, al) (fun r S2 => Zgo d 128 254 L (r.toList ++ st) S2 Q) else False := zg_128_251
theorem zh_128_254 {x : Int} : Zgo d 128 254 (a0 :: a1 :: a2 :: a3 :: a4 :: some (zi x) :: L) (st) (I, R, al) Q ↔ Zgo d 128 256 (a0 :: a1 :: a2 :: a3 :: a4 :: some (zi x) :: L) (zi x :: st) (I, R, al) Q := zg_128_254
theorem zh_128_256 {x y : Int} : Zgo d 128 256 (L) (zi y :: zi x :: st) (I, R, al) Q ↔ if zw x = zw y then Zgo d 128 261 (L) (st) (I, R, al) Q else Zgo d 128 259 (L) (st) (I, R, al) Q := zg_128_256
theorem zh_128_259 : Zgo d 128 259 (L) (st) (I, R, al) Q ↔ Zgo d 128 260 (L) (zi 0 :: st) (I, R, al) Q := zg_128_259
theorem zh_128_260 {x : Int} : Zgo d 128 260 (L) (zi x :: []) (I, R, al) Q ↔ zok 1 x False (Q (some (zi x)) (I, R, al)) := zg_128_260
theorem zh_128_261 {x : Int} : Zgo d 128 261 (a0 :: a1 :: a2 :: a3 :: a4 :: some (zi x) :: L) (st) (I, R, al) Q ↔ Zgo d 128 263 (a0 :: a1 :: a2 :: a3 :: a4 :: some (zi x) :: L) (zi x :: st) (I, R, al) Q := zg_128_261
theorem zh_128_263 {x : Int} : Zgo d 128 263 (L) (zi x :: st) (I, R, al) Q ↔ if zw x = zw 0 then Zgo d 128 266 (L) (st) (I, R, al) Q else Zgo d 128 278 (L) (st) (I, R, al) Q := zg_128_263
theorem zh_128_266 {x : Option (Nat × Nat)} : Zgo d 128 266 (a0 :: a1 :: a2 :: some (zq x) :: L) (st) (I, R, al) Q ↔ Zgo d 128 267 (a0 :: a1 :: a2 :: some (zq x) :: L) (zq x :: st) (I, R, al) Q := zg_128_266
theorem zh_128_267 : Zgo d 128 267 (L) (st) (I, R, al) Q ↔ Zgo d 128 268 (L) (zi 0 :: st) (I, R, al) Q := zg_128_267
theorem zh_128_268 {j : Int} {c o : Nat} : Zgo d 128 268 (L) (zi j :: zq (some (c, o)) :: st) (I, R, al) Q ↔ zal (zlen (I, R, al) c) 4 j (fun x => Zgo d 128 269 (L) (zl (I c o x) :: st) (I, R, al) Q) := zg_128_268
theorem zh_128_269 {x : Int} : Zgo d 128 269 (a0 :: a1 :: a2 :: a3 :: a4 :: a5 :: some (zi x) :: L) (st) (I, R, al) Q ↔ Zgo d 128 271 (a0 :: a1 :: a2 :: a3 :: a4 :: a5 :: some (zi x) :: L) (zi x :: st) (I, R, al) Q := zg_128_269
theorem zh_128_271 {x : Int} : Zgo d 128 271 (L) (zi x :: st) (I, R, al) Q ↔ Zgo d 128 272 (L) (zl (zw x) :: st) (I, R, al) Q := zg_128_271
theorem zh_128_272 {x y : Int} : Zgo d 128 272 (L) (zl y :: zl x :: st) (I, R, al) Q ↔ Zgo d 128 273 (L) (zi (zlcmp x y) :: st) (I, R, al) Q := zg_128_272
theorem zh_128_273 {x : Int} : Zgo d 128 273 (L) (zi x :: st) (I, R, al) Q ↔ if zw x = zw 0 then Zgo d 128 278 (L) (st) (I, R, al) Q else Zgo d 128 276 (L) (st) (I, R, al) Q := zg_128_273
theorem zh_128_276 : Zgo d 128 276 (L) (st) (I, R, al) Q ↔ Zgo d 128 277 (L) (zi 0 :: st) (I, R, al) Q := zg_128_276
theorem zh_128_277 {x : Int} : Zgo d 128 277 (L) (zi x :: []) (I, R, al) Q ↔ zok 1 x False (Q (some (zi x)) (I, R, al)) := zg_128_277
theorem zh_128_278 : Zgo d 128 278 (L) (st) (I, R, al) Q ↔ Zgo d 128 490 (L) (st) (I, R, al) Q := zg_128_278
theorem zh_128_281 {x : Option (Nat × Nat)} : Zgo d 128 281 (a0 :: some (zq x) :: L) (st) (I, R, al) Q ↔ Zgo d 128 282 (a0 :: some (zq x) :: L) (zq x :: st) (I, R, al) Q := zg_128_281
theorem zh_128_282 {x : Option (Nat × Nat)} : Zgo d 128 282 (some (zq x) :: L) (st) (I, R, al) Q ↔ Zgo d 128 283 (some (zq x) :: L) (zq x :: st) (I, R, al) Q := zg_128_282
theorem zh_128_283 {x : Int} : Zgo d 128 283 (a0 :: a1 :: a2 :: a3 :: some (zi x) :: L) (st) (I, R, al) Q ↔ Zgo d 128 285 (a0 :: a1 :: a2 :: a3 :: some (zi x) :: L) (zi x :: st) (I, R, al) Q := zg_128_283
theorem zh_128_285 : Zgo d 128 285 (L) (st) (I, R, al) Q ↔ Zgo d 128 286 (L) (zi 1 :: st) (I, R, al) Q := zg_128_285
theorem zh_128_286 {x y : Int} : Zgo d 128 286 (L) (zi y :: zi x :: st) (I, R, al) Q ↔ Zgo d 128 287 (L) (zi (x + y) :: st) (I, R, al) Q := zg_128_286
theorem zh_128_287 {j : Int} {c o : Nat} : Zgo d 128 287 (L) (zi j :: zq (some (c, o)) :: st) (I, R, al) Q ↔ zal (zlen (I, R, al) c) 0 j (fun x => Zgo d 128 288 (L) (zi (I c o x) :: st) (I, R, al) Q) := zg_128_287
theorem zh_128_288 {x : Option (Nat × Nat)} : Zgo d 128 288 (a0 :: a1 :: a2 :: some (zq x) :: L) (st) (I, R, al) Q ↔ Zgo d 128 289 (a0 :: a1 :: a2 :: some (zq x) :: L) (zq x :: st) (I, R, al) Q := zg_128_288
theorem zh_128_289 {v0 v1 v2 : zV} : Zgo d 128 289 (L) (v2 :: v1 :: v0 :: st) (I, R, al) Q ↔ if zwt st ≤ 8 then zCp d 74 [v0, v1, v2] (I, R, al) (fun r S2 => Zgo d 128 292 L (r.toList ++ st) S2 Q) else False := zg_128_289
theorem zh_128_292 {x : Int} : Zgo d 128 292 (a0 :: a1 :: a2 :: a3 :: a4 :: b0 :: L) (zi x :: st) (I, R, al) Q ↔ Zgo d 128 294 (a0 :: a1 :: a2 :: a3 :: zkl a4 :: some (zi x) :: L) (st) (I, R, al) Q := zg_128_292
theorem zh_128_294 {x : Option (Nat × Nat)} : Zgo d 128 294 (a0 :: a1 :: some (zq x) :: L) (st) (I, R, al) Q ↔ Zgo d 128 295 (a0 :: a1 :: some (zq x) :: L) (zq x :: st) (I, R, al) Q := zg_128_294
theorem zh_128_295 {x : Option (Nat × Nat)} : Zgo d 128 295 (some (zq x) :: L) (st) (I, R, al) Q ↔ Zgo d 128 296 (some (zq x) :: L) (zq x :: st) (I, R, al) Q := zg_128_295
theorem zh_128_296 {x : Int} : Zgo d 128 296 (a0 :: a1 :: a2 :: a3 :: some (zi x) :: L) (st) (I, R, al) Q ↔ Zgo d 128 298 (a0 :: a1 :: a2 :: a3 :: some (zi x) :: L) (zi x :: st) (I, R, al) Q := zg_128_296
theorem zh_128_298 : Zgo d 128 298 (L) (st) (I, R, al) Q ↔ Zgo d 128 299 (L) (zi 1 :: st) (I, R, al) Q := zg_128_298
theorem zh_128_299 {x y : Int} : Zgo d 128 299 (L) (zi y :: zi x :: st) (I, R, al) Q ↔ Zgo d 128 300 (L) (zi (x + y) :: st) (I, R, al) Q := zg_128_299
theorem zh_128_300 {j : Int} {c o : Nat} : Zgo d 128 300 (L) (zi j :: zq (some (c, o)) :: st) (I, R, al) Q ↔ zal (zlen (I, R, al) c) 0 j (fun x => Zgo d 128 301 (L) (zi (I c o x) :: st) (I, R, al) Q) := zg_128_300
theorem zh_128_301 {v1 : zV} {o : Nat} : Zgo d 128 301 (L) (v1 :: zq (some (11, o)) :: st) (I, R, al) Q ↔ if zwt st ≤ 8 then zCp d 124 [zq (some (11, o)), v1] (I, R, al) (fun r S2 => Zgo d 128 304 L (r.toList ++ st) S2 Q) else False := zg_128_301
theorem zh_128_304 {x : Int} : Zgo d 128 304 (a0 :: a1 :: a2 :: a3 :: a4 :: a5 :: b0 :: L) (zi x :: st) (I, R, al) Q ↔ Zgo d 128 306 (a0 :: a1 :: a2 :: a3 :: a4 :: zkl a5 :: some (zi x) :: L) (st) (I, R, al) Q := zg_128_304
theorem zh_128_306 {x : Option (Nat × Nat)} : Zgo d 128 306 (a0 :: a1 :: some (zq x) :: L) (st) (I, R, al) Q ↔ Zgo d 128 307 (a0 :: a1 :: some (zq x) :: L) (zq x :: st) (I, R, al) Q := zg_128_306
theorem zh_128_307 {o : Nat} : Zgo d 128 307 (L) (zq (some (11, o)) :: st) (I, R, al) Q ↔ if zwt st ≤ 8 then zCp d 81 [zq (some (11, o))] (I, R, al) (fun r S2 => Zgo d 128 310 L (r.toList ++ st) S2 Q) else False := zg_128_307
theorem zh_128_310 {x : Int} : Zgo d 128 310 (a0 :: a1 :: a2 :: a3 :: a4 :: some (zi x) :: L) (st) (I, R, al) Q ↔ Zgo d 128 312 (a0 :: a1 :: a2 :: a3 :: a4 :: some (zi x) :: L) (zi x :: st) (I, R, al) Q := zg_128_310
theorem zh_128_312 {x y : Int} : Zgo d 128 312 (L) (zi y :: zi x :: st) (I, R, al) Q ↔ if zw x = zw y then Zgo d 128 317 (L) (st) (I, R, al) Q else Zgo d 128 315 (L) (st) (I, R, al) Q := zg_128_312
theorem zh_128_315 : Zgo d 128 315 (L) (st) (I, R, al) Q ↔ Zgo d 128 316 (L) (zi 0 :: st) (I, R, al) Q := zg_128_315
theorem zh_128_316 {x : Int} : Zgo d 128 316 (L) (zi x :: []) (I, R, al) Q ↔ zok 1 x False (Q (some (zi x)) (I, R, al)) := zg_128_316
theorem zh_128_317 {x : Int} : Zgo d 128 317 (a0 :: a1 :: a2 :: a3 :: a4 :: some (zi x) :: L) (st) (I, R, al) Q ↔ Zgo d 128 319 (a0 :: a1 :: a2 :: a3 :: a4 :: some (zi x) :: L) (zi x :: st) (I, R, al) Q := zg_128_317
theorem zh_128_319 {x : Int} : Zgo d 128 319 (L) (zi x :: st) (I, R, al) Q ↔ if zw x = zw 0 then Zgo d 128 322 (L) (st) (I, R, al) Q else Zgo d 128 334 (L) (st) (I, R, al) Q := zg_128_319
theorem zh_128_322 {x : Option (Nat × Nat)} : Zgo d 128 322 (a0 :: a1 :: a2 :: some (zq x) :: L) (st) (I, R, al) Q ↔ Zgo d 128 323 (a0 :: a1 :: a2 :: some (zq x) :: L) (zq x :: st) (I, R, al) Q := zg_128_322
theorem zh_128_323 : Zgo d 128 323 (L) (st) (I, R, al) Q ↔ Zgo d 128 324 (L) (zi 0 :: st) (I, R, al) Q := zg_128_323
theorem zh_128_324 {j : Int} {c o : Nat} : Zgo d 128 324 (L) (zi j :: zq (some (c, o)) :: st) (I, R, al) Q ↔ zal (zlen (I, R, al) c) 4 j (fun x => Zgo d 128 325 (L) (zl (I c o x) :: st) (I, R, al) Q) := zg_128_324
theorem zh_128_325 {x : Int} : Zgo d 128 325 (a0 :: a1 :: a2 :: a3 :: a4 :: a5 :: some (zi x) :: L) (st) (I, R, al) Q ↔ Zgo d 128 327 (a0 :: a1 :: a2 :: a3 :: a4 :: a5 :: some (zi x) :: L) (zi x :: st) (I, R, al) Q := zg_128_325
theorem zh_128_327 {x : Int} : Zgo d 128 327 (L) (zi x :: st) (I, R, al) Q ↔ Zgo d 128 328 (L) (zl (zw x) :: st) (I, R, al) Q := zg_128_327
theorem zh_128_328 {x y : Int} : Zgo d 128 328 (L) (zl y :: zl x :: st) (I, R, al) Q ↔ Zgo d 128 329 (L) (zi (zlcmp x y) :: st) (I, R, al) Q := zg_128_328
theorem zh_128_329 {x : Int} : Zgo d 128 329 (L) (zi x :: st) (I, R, al) Q ↔ if zw x = zw 0 then Zgo d 128 334 (L) (st) (I, R, al) Q else Zgo d 128 332 (L) (st) (I, R, al) Q := zg_128_329
theorem zh_128_332 : Zgo d 128 332 (L) (st) (I, R, al) Q ↔ Zgo d 128 333 (L) (zi 0 :: st) (I, R, al) Q := zg_128_332
theorem zh_128_333 {x : Int} : Zgo d 128 333 (L) (zi x :: []) (I, R, al) Q ↔ zok 1 x False (Q (some (zi x)) (I, R, al)) := zg_128_333
theorem zh_128_334 : Zgo d 128 334 (L) (st) (I, R, al) Q ↔ Zgo d 128 490 (L) (st) (I, R, al) Q := zg_128_334
theorem zh_128_337 {x : Option (Nat × Nat)} : Zgo d 128 337 (a0 :: some (zq x) :: L) (st) (I, R, al) Q ↔ Zgo d 128 338 (a0 :: some (zq x) :: L) (zq x :: st) (I, R, al) Q := zg_128_337
theorem zh_128_338 {x : Option (Nat × Nat)} : Zgo d 128 338 (some (zq x) :: L) (st) (I, R, al) Q ↔ Zgo d 128 339 (some (zq x) :: L) (zq x :: st) (I, R, al) Q := zg_128_338
theorem zh_128_339 {x : Int} : Zgo d 128 339 (a0 :: a1 :: a2 :: a3 :: some (zi x) :: L) (st) (I, R, al) Q ↔ Zgo d 128 341 (a0 :: a1 :: a2 :: a3 :: some (zi x) :: L) (zi x :: st) (I, R, al) Q := zg_128_339
theorem zh_128_341 : Zgo d 128 341 (L) (st) (I, R, al) Q ↔ Zgo d 128 342 (L) (zi 1 :: st) (I, R, al) Q := zg_128_341
theorem zh_128_342 {x y : Int} : Zgo d 128 342 (L) (zi y :: zi x :: st) (I, R, al) Q ↔ Zgo d 128 343 (L) (zi (x + y) :: st) (I, R, al) Q := zg_128_342
theorem zh_128_343 {j : Int} {c o : Nat} : Zgo d 128 343 (L) (zi j :: zq (some (c, o)) :: st) (I, R, al) Q ↔ zal (zlen (I, R, al) c) 0 j (fun x => Zgo d 128 344 (L) (zi (I c o x) :: st) (I, R, al) Q) := zg_128_343
theorem zh_128_344 {x : Int} : Zgo d 128 344 (L) (zi x :: st) (I, R, al) Q ↔ if zw x = zw 0 then Zgo d 128 351 (L) (st) (I, R, al) Q else Zgo d 128 347 (L) (st) (I, R, al) Q := zg_128_344
theorem zh_128_347 : Zgo d 128 347 (L) (st) (I, R, al) Q ↔ Zgo d 128 348 (L) (zi 1 :: st) (I, R, al) Q := zg_128_347
theorem zh_128_348 : Zgo d 128 348 (L) (st) (I, R, al) Q ↔ Zgo d 128 352 (L) (st) (I, R, al) Q := zg_128_348
theorem zh_128_351 : Zgo d 128 351 (L) (st) (I, R, al) Q ↔ Zgo d 128 352 (L) (zi 0 :: st) (I, R, al) Q := zg_128_351
theorem zh_128_352 {x : Option (Nat × Nat)} : Zgo d 128 352 (a0 :: a1 :: a2 :: some (zq x) :: L) (st) (I, R, al) Q ↔ Zgo d 128 353 (a0 :: a1 :: a2 :: some (zq x) :: L) (zq x :: st) (I, R, al) Q := zg_128_352
theorem zh_128_353 {v0 v1 v2 : zV} : Zgo d 128 353 (L) (v2 :: v1 :: v0 :: st) (I, R, al) Q ↔ if zwt st ≤ 8 then zCp d 76 [v0, v1, v2] (I, R, al) (fun r S2 => Zgo d 128 356 L (r.toList ++ st) S2 Q) else False := zg_128_353
theorem zh_128_356 {x : Int} : Zgo d 128 356 (a0 :: a1 :: a2 :: a3 :: a4 :: b0 :: L) (zi x :: st) (I, R, al) Q ↔ Zgo d 128 358 (a0 :: a1 :: a2 :: a3 :: zkl a4 :: some (zi x) :: L) (st) (I, R, al) Q := zg_128_356
theorem zh_128_358 {x : Option (Nat × Nat)} : Zgo d 128 358 (a0 :: a1 :: some (zq x) :: L) (st) (I, R, al) Q ↔ Zgo d 128 359 (a0 :: a1 :: some (zq x) :: L) (zq x :: st) (I, R, al) Q := zg_128_358
theorem zh_128_359 {x : Option (Nat × Nat)} : Zgo d 128 359 (some (zq x) :: L) (st) (I, R, al) Q ↔ Zgo d 128 360 (some (zq x) :: L) (zq x :: st) (I, R, al) Q := zg_128_359
theorem zh_128_360 {x : Int} : Zgo d 128 360 (a0 :: a1 :: a2 :: a3 :: some (zi x) :: L) (st) (I, R, al) Q ↔ Zgo d 128 362 (a0 :: a1 :: a2 :: a3 :: some (zi x) :: L) (zi x :: st) (I, R, al) Q := zg_128_360
theorem zh_128_362 : Zgo d 128 362 (L) (st) (I, R, al) Q ↔ Zgo d 128 363 (L) (zi 1 :: st) (I, R, al) Q := zg_128_362
theorem zh_128_363 {x y : Int} : Zgo d 128 363 (L) (zi y :: zi x :: st) (I, R, al) Q ↔ Zgo d 128 364 (L) (zi (x + y) :: st) (I, R, al) Q := zg_128_363
theorem zh_128_364 {j : Int} {c o : Nat} : Zgo d 128 364 (L) (zi j :: zq (some (c, o)) :: st) (I, R, al) Q ↔ zal (zlen (I, R, al) c) 0 j (fun x => Zgo d 128 365 (L) (zi (I c o x) :: st) (I, R, al) Q) := zg_128_364
theorem zh_128_365 {x : Int} : Zgo d 128 365 (L) (zi x :: st) (I, R, al) Q ↔ if zw x = zw 0 then Zgo d 128 372 (L) (st) (I, R, al) Q else Zgo d 128 368 (L) (st) (I, R, al) Q := zg_128_365
theorem zh_128_368 : Zgo d 128 368 (L) (st) (I, R, al) Q ↔ Zgo d 128 369 (L) (zi 1 :: st) (I, R, al) Q := zg_128_368
theorem zh_128_369 : Zgo d 128 369 (L) (st) (I, R, al) Q ↔ Zgo d 128 373 (L) (st) (I, R, al) Q := zg_128_369
theorem zh_128_372 : Zgo d 128 372 (L) (st) (I, R, al) Q ↔ Zgo d 128 373 (L) (zi 0 :: st) (I, R, al) Q := zg_128_372
theorem zh_128_373 {v1 : zV} {o : Nat} : Zgo d 128 373 (L) (v1 :: zq (some (11, o)) :: st) (I, R, al) Q ↔ if zwt st ≤ 8 then zCp d 125 [zq (some (11, o)), v1] (I, R, al) (fun r S2 => Zgo d 128 376 L (r.toList ++ st) S2 Q) else False := zg_128_373
theorem zh_128_376 {x : Int} : Zgo d 128 376 (a0 :: a1 :: a2 :: a3 :: a4 :: a5 :: b0 :: L) (zi x :: st) (I, R, al) Q ↔ Zgo d 128 378 (a0 :: a1 :: a2 :: a3 :: a4 :: zkl a5 :: some (zi x) :: L) (st) (I, R, al) Q := zg_128_376
theorem zh_128_378 {x : Option (Nat × Nat)} : Zgo d 128 378 (a0 :: a1 :: some (zq x) :: L) (st) (I, R, al) Q ↔ Zgo d 128 379 (a0 :: a1 :: some (zq x) :: L) (zq x :: st) (I, R, al) Q := zg_128_378
theorem zh_128_379 {o : Nat} : Zgo d 128 379 (L) (zq (some (11, o)) :: st) (I, R, al) Q ↔ if zwt st ≤ 8 then zCp d 81 [zq (some (11, o))] (I, R, al) (fun r S2 => Zgo d 128 382 L (r.toList ++ st) S2 Q) else False := zg_128_379
theorem zh_128_382 {x : Int} : Zgo d 128 382 (a0 :: a1 :: a2 :: a3 :: a4 :: some (zi x) :: L) (st) (I, R, al) Q ↔ Zgo d 128 384 (a0 :: a1 :: a2 :: a3 :: a4 :: some (zi x) :: L) (zi x :: st) (I, R, al) Q := zg_128_382
theorem zh_128_384 {x y : Int} : Zgo d 128 384 (L) (zi y :: zi x :: st) (I, R, al) Q ↔ if zw x = zw y then Zgo d 128 389 (L) (st) (I, R, al) Q else Zgo d 128 387 (L) (st) (I, R, al) Q := zg_128_384
theorem zh_128_387 : Zgo d 128 387 (L) (st) (I, R, al) Q ↔ Zgo d 128 388 (L) (zi 0 :: st) (I, R, al) Q := zg_128_387
theorem zh_128_388 {x : Int} : Zgo d 128 388 (L) (zi x :: []) (I, R, al) Q ↔ zok 1 x False (Q (some (zi x)) (I, R, al)) := zg_128_388
theorem zh_128_389 {x : Int} : Zgo d 128 389 (a0 :: a1 :: a2 :: a3 :: a4 :: some (zi x) :: L) (st) (I, R, al) Q ↔ Zgo d 128 391 (a0 :: a1 :: a2 :: a3 :: a4 :: some (zi x) :: L) (zi x :: st) (I, R, al) Q := zg_128_389
theorem zh_128_391 {x : Int} : Zgo d 128 391 (L) (zi x :: st) (I, R, al) Q ↔ if zw x = zw 0 then Zgo d 128 394 (L) (st) (I, R, al) Q else Zgo d 128 406 (L) (st) (I, R, al) Q := zg_128_391
theorem zh_128_394 {x : Option (Nat × Nat)} : Zgo d 128 394 (a0 :: a1 :: a2 :: some (zq x) :: L) (st) (I, R, al) Q ↔ Zgo d 128 395 (a0 :: a1 :: a2 :: some (zq x) :: L) (zq x :: st) (I, R, al) Q := zg_128_394
theorem zh_128_395 : Zgo d 128 395 (L) (st) (I, R, al) Q ↔ Zgo d 128 396 (L) (zi 0 :: st) (I, R, al) Q := zg_128_395
theorem zh_128_396 {j : Int} {c o : Nat} : Zgo d 128 396 (L) (zi j :: zq (some (c, o)) :: st) (I, R, al) Q ↔ zal (zlen (I, R, al) c) 4 j (fun x => Zgo d 128 397 (L) (zl (I c o x) :: st) (I, R, al) Q) := zg_128_396
theorem zh_128_397 {x : Int} : Zgo d 128 397 (a0 :: a1 :: a2 :: a3 :: a4 :: a5 :: some (zi x) :: L) (st) (I, R, al) Q ↔ Zgo d 128 399 (a0 :: a1 :: a2 :: a3 :: a4 :: a5 :: some (zi x) :: L) (zi x :: st) (I, R, al) Q := zg_128_397
theorem zh_128_399 {x : Int} : Zgo d 128 399 (L) (zi x :: st) (I, R, al) Q ↔ Zgo d 128 400 (L) (zl (zw x) :: st) (I, R, al) Q := zg_128_399
theorem zh_128_400 {x y : Int} : Zgo d 128 400 (L) (zl y :: zl x :: st) (I, R, al) Q ↔ Zgo d 128 401 (L) (zi (zlcmp x y) :: st) (I, R, al) Q := zg_128_400
theorem zh_128_401 {x : Int} : Zgo d 128 401 (L) (zi x :: st) (I, R, al) Q ↔ if zw x = zw 0 then Zgo d 128 406 (L) (st) (I, R, al) Q else Zgo d 128 404 (L) (st) (I, R, al) Q := zg_128_401
theorem zh_128_404 : Zgo d 128 404 (L) (st) (I, R, al) Q ↔ Zgo d 128 405 (L) (zi 0 :: st) (I, R, al) Q := zg_128_404
theorem zh_128_405 {x : Int} : Zgo d 128 405 (L) (zi x :: []) (I, R, al) Q ↔ zok 1 x False (Q (some (zi x)) (I, R, al)) := zg_128_405
theorem zh_128_406 : Zgo d 128 406 (L) (st) (I, R, al) Q ↔ Zgo d 128 490 (L) (st) (I, R, al) Q := zg_128_406
theorem zh_128_409 {x : Option (Nat × Nat)} : Zgo d 128 409 (a0 :: some (zq x) :: L) (st) (I, R, al) Q ↔ Zgo d 128 410 (a0 :: some (zq x) :: L) (zq x :: st) (I, R, al) Q := zg_128_409
theorem zh_128_410 {x : Option (Nat × Nat)} : Zgo d 128 410 (some (zq x) :: L) (st) (I, R, al) Q ↔ Zgo d 128 411 (some (zq x) :: L) (zq x :: st) (I, R, al) Q := zg_128_410
theorem zh_128_411 {x : Int} : Zgo d 128 411 (a0 :: a1 :: a2 :: a3 :: some (zi x) :: L) (st) (I, R, al) Q ↔ Zgo d 128 413 (a0 :: a1 :: a2 :: a3 :: some (zi x) :: L) (zi x :: st) (I, R, al) Q := zg_128_411
theorem zh_128_413 : Zgo d 128 413 (L) (st) (I, R, al) Q ↔ Zgo d 128 414 (L) (zi 1 :: st) (I, R, al) Q := zg_128_413
theorem zh_128_414 {x y : Int} : Zgo d 128 414 (L) (zi y :: zi x :: st) (I, R, al) Q ↔ Zgo d 128 415 (L) (zi (x + y) :: st) (I, R, al) Q := zg_128_414
theorem zh_128_415 {j : Int} {c o : Nat} : Zgo d 128 415 (L) (zi j :: zq (some (c, o)) :: st) (I, R, al) Q ↔ zal (zlen (I, R, al) c) 0 j (fun x => Zgo d 128 416 (L) (zi (I c o x) :: st) (I, R, al) Q) := zg_128_415
theorem zh_128_416 {x : Option (Nat × Nat)} : Zgo d 128 416 (a0 :: a1 :: a2 :: some (zq x) :: L) (st) (I, R, al) Q ↔ Zgo d 128 417 (a0 :: a1 :: a2 :: some (zq x) :: L) (zq x :: st) (I, R, al) Q := zg_128_416
theorem zh_128_417 {v0 v1 v2 : zV} : Zgo d 128 417 (L) (v2 :: v1 :: v0 :: st) (I, R, al) Q ↔ if zwt st ≤ 8 then zCp d 78 [v0, v1, v2] (I, R, al) (fun r S2 => Zgo d 128 420 L (r.toList ++ st) S2 Q) else False := zg_128_417
theorem zh_128_420 {x : Int} : Zgo d 128 420 (a0 :: a1 :: a2 :: a3 :: a4 :: b0 :: L) (zi x :: st) (I, R, al) Q ↔ Zgo d 128 422 (a0 :: a1 :: a2 :: a3 :: zkl a4 :: some (zi x) :: L) (st) (I, R, al) Q := zg_128_420
theorem zh_128_422 {x : Option (Nat × Nat)} : Zgo d 128 422 (a0 :: a1 :: some (zq x) :: L) (st) (I, R, al) Q ↔ Zgo d 128 423 (a0 :: a1 :: some (zq x) :: L) (zq x :: st) (I, R, al) Q := zg_128_422
theorem zh_128_423 {x : Option (Nat × Nat)} : Zgo d 128 423 (some (zq x) :: L) (st) (I, R, al) Q ↔ Zgo d 128 424 (some (zq x) :: L) (zq x :: st) (I, R, al) Q := zg_128_423
theorem zh_128_424 {x : Int} : Zgo d 128 424 (a0 :: a1 :: a2 :: a3 :: some (zi x) :: L) (st) (I, R, al) Q ↔ Zgo d 128 426 (a0 :: a1 :: a2 :: a3 :: some (zi x) :: L) (zi x :: st) (I, R, al) Q := zg_128_424
theorem zh_128_426 : Zgo d 128 426 (L) (st) (I, R, al) Q ↔ Zgo d 128 427 (L) (zi 1 :: st) (I, R, al) Q := zg_128_426
theorem zh_128_427 {x y : Int} : Zgo d 128 427 (L) (zi y :: zi x :: st) (I, R, al) Q ↔ Zgo d 128 428 (L) (zi (x + y) :: st) (I, R, al) Q := zg_128_427
theorem zh_128_428 {j : Int} {c o : Nat} : Zgo d 128 428 (L) (zi j :: zq (some (c, o)) :: st) (I, R, al) Q ↔ zal (zlen (I, R, al) c) 0 j (fun x => Zgo d 128 429 (L) (zi (I c o x) :: st) (I, R, al) Q) := zg_128_428
theorem zh_128_429 {v1 : zV} {o : Nat} : Zgo d 128 429 (L) (v1 :: zq (some (11, o)) :: st) (I, R, al) Q ↔ if zwt st ≤ 8 then zCp d 126 [zq (some (11, o)), v1] (I, R, al) (fun r S2 => Zgo d 128 432 L (r.toList ++ st) S2 Q) else False := zg_128_429
theorem zh_128_432 {x : Int} : Zgo d 128 432 (a0 :: a1 :: a2 :: a3 :: a4 :: a5 :: b0 :: L) (zi x :: st) (I, R, al) Q ↔ Zgo d 128 434 (a0 :: a1 :: a2 :: a3 :: a4 :: zkl a5 :: some (zi x) :: L) (st) (I, R, al) Q := zg_128_432
theorem zh_128_434 {x : Option (Nat × Nat)} : Zgo d 128 434 (a0 :: a1 :: some (zq x) :: L) (st) (I, R, al) Q ↔ Zgo d 128 435 (a0 :: a1 :: some (zq x) :: L) (zq x :: st) (I, R, al) Q := zg_128_434
theorem zh_128_435 {o : Nat} : Zgo d 128 435 (L) (zq (some (11, o)) :: st) (I, R, al) Q ↔ if zwt st ≤ 8 then zCp d 81 [zq (some (11, o))] (I, R, al) (fun r S2 => Zgo d 128 438 L (r.toList ++ st) S2 Q) else False := zg_128_435
theorem zh_128_438 {x : Int} : Zgo d 128 438 (a0 :: a1 :: a2 :: a3 :: a4 :: some (zi x) :: L) (st) (I, R, al) Q ↔ Zgo d 128 440 (a0 :: a1 :: a2 :: a3 :: a4 :: some (zi x) :: L) (zi x :: st) (I, R, al) Q := zg_128_438
theorem zh_128_440 {x y : Int} : Zgo d 128 440 (L) (zi y :: zi x :: st) (I, R, al) Q ↔ if zw x = zw y then Zgo d 128 445 (L) (st) (I, R, al) Q else Zgo d 128 443 (L) (st) (I, R, al) Q := zg_128_440
theorem zh_128_443 : Zgo d 128 443 (L) (st) (I, R, al) Q ↔ Zgo d 128 444 (L) (zi 0 :: st) (I, R, al) Q := zg_128_443
theorem zh_128_444 {x : Int} : Zgo d 128 444 (L) (zi x :: []) (I, R, al) Q ↔ zok 1 x False (Q (some (zi x)) (I, R, al)) := zg_128_444
theorem zh_128_445 {x : Int} : Zgo d 128 445 (a0 :: a1 :: a2 :: a3 :: a4 :: some (zi x) :: L) (st) (I, R, al) Q ↔ Zgo d 128 447 (a0 :: a1 :: a2 :: a3 :: a4 :: some (zi x) :: L) (zi x :: st) (I, R, al) Q := zg_128_445
theorem zh_128_447 {x : Int} : Zgo d 128 447 (L) (zi x :: st) (I, R, al) Q ↔ if zw x = zw 0 then Zgo d 128 450 (L) (st) (I, R, al) Q else Zgo d 128 462 (L) (st) (I, R, al) Q := zg_128_447
theorem zh_128_450 {x : Option (Nat × Nat)} : Zgo d 128 450 (a0 :: a1 :: a2 :: some (zq x) :: L) (st) (I, R, al) Q ↔ Zgo d 128 451 (a0 :: a1 :: a2 :: some (zq x) :: L) (zq x :: st) (I, R, al) Q := zg_128_450
theorem zh_128_451 : Zgo d 128 451 (L) (st) (I, R, al) Q ↔ Zgo d 128 452 (L) (zi 0 :: st) (I, R, al) Q := zg_128_451
theorem zh_128_452 {j : Int} {c o : Nat} : Zgo d 128 452 (L) (zi j :: zq (some (c, o)) :: st) (I, R, al) Q ↔ zal (zlen (I, R, al) c) 4 j (fun x => Zgo d 128 453 (L) (zl (I c o x) :: st) (I, R, al) Q) := zg_128_452
theorem zh_128_453 {x : Int} : Zgo d 128 453 (a0 :: a1 :: a2 :: a3 :: a4 :: a5 :: some (zi x) :: L) (st) (I, R, al) Q ↔ Zgo d 128 455 (a0 :: a1 :: a2 :: a3 :: a4 :: a5 :: some (zi x) :: L) (zi x :: st) (I, R, al) Q := zg_128_453
theorem zh_128_455 {x : Int} : Zgo d 128 455 (L) (zi x :: st) (I, R, al) Q ↔ Zgo d 128 456 (L) (zl (zw x) :: st) (I, R, al) Q := zg_128_455
theorem zh_128_456 {x y : Int} : Zgo d 128 456 (L) (zl y :: zl x :: st) (I, R, al) Q ↔ Zgo d 128 457 (L) (zi (zlcmp x y) :: st) (I, R, al) Q := zg_128_456
theorem zh_128_457 {x : Int} : Zgo d 128 457 (L) (zi x :: st) (I, R, al) Q ↔ if zw x = zw 0 then Zgo d 128 462 (L) (st) (I, R, al) Q else Zgo d 128 460 (L) (st) (I, R, al) Q := zg_128_457
theorem zh_128_460 : Zgo d 128 460 (L) (st) (I, R, al) Q ↔ Zgo d 128 461 (L) (zi 0 :: st) (I, R, al) Q := zg_128_460
theorem zh_128_461 {x : Int} : Zgo d 128 461 (L) (zi x :: []) (I, R, al) Q ↔ zok 1 x False (Q (some (zi x)) (I, R, al)) := zg_128_461
theorem zh_128_462 : Zgo d 128 462 (L) (st) (I, R, al) Q ↔ Zgo d 128 490 (L) (st) (I, R, al) Q := zg_128_462
theorem zh_128_465 {x : Option (Nat × Nat)} : Zgo d 128 465 (a0 :: some (zq x) :: L) (st) (I, R, al) Q ↔ Zgo d 128 466 (a0 :: some (zq x) :: L) (zq x :: st) (I, R, al) Q := zg_128_465
theorem zh_128_466 {x : Option (Nat × Nat)} : Zgo d 128 466 (some (zq x) :: L) (st) (I, R, al) Q ↔ Zgo d 128 467 (some (zq x) :: L) (zq x :: st) (I, R, al) Q := zg_128_466
theorem zh_128_467 {x : Int} : Zgo d 128 467 (a0 :: a1 :: a2 :: a3 :: some (zi x) :: L) (st) (I, R, al) Q ↔ Zgo d 128 469 (a0 :: a1 :: a2 :: a3 :: some (zi x) :: L) (zi x :: st) (I, R, al) Q := zg_128_467
theorem zh_128_469 : Zgo d 128 469 (L) (st) (I, R, al) Q ↔ Zgo d 128 470 (L) (zi 1 :: st) (I, R, al) Q := zg_128_469
theorem zh_128_470 {x y : Int} : Zgo d 128 470 (L) (zi y :: zi x :: st) (I, R, al) Q ↔ Zgo d 128 471 (L) (zi (x + y) :: st) (I, R, al) Q := zg_128_470
theorem zh_128_471 {j : Int} {c o : Nat} : Zgo d 128 471 (L) (zi j :: zq (some (c, o)) :: st) (I, R, al) Q ↔ zal (zlen (I, R, al) c) 0 j (fun x => Zgo d 128 472 (L) (zi (I c o x) :: st) (I, R, al) Q) := zg_128_471
theorem zh_128_472 {v1 : zV} {o : Nat} : Zgo d 128 472 (L) (v1 :: zq (some (0, o)) :: st) (I, R, al) Q ↔ if zwt st ≤ 8 then zCp d 55 [zq (some (0, o)), v1] (I, R, al) (fun r S2 => Zgo d 128 475 L (r.toList ++ st) S2 Q) else False := zg_128_472
theorem zh_128_475 {x : Option (Nat × Nat)} : Zgo d 128 475 (a0 :: a1 :: some (zq x) :: L) (st) (I, R, al) Q ↔ Zgo d 128 476 (a0 :: a1 :: some (zq x) :: L) (zq x :: st) (I, R, al) Q := zg_128_475
theorem zh_128_476 {x : Option (Nat × Nat)} : Zgo d 128 476 (some (zq x) :: L) (st) (I, R, al) Q ↔ Zgo d 128 477 (some (zq x) :: L) (zq x :: st) (I, R, al) Q := zg_128_476
theorem zh_128_477 {x : Int} : Zgo d 128 477 (a0 :: a1 :: a2 :: a3 :: some (zi x) :: L) (st) (I, R, al) Q ↔ Zgo d 128 479 (a0 :: a1 :: a2 :: a3 :: some (zi x) :: L) (zi x :: st) (I, R, al) Q := zg_128_477
theorem zh_128_479 : Zgo d 128 479 (L) (st) (I, R, al) Q ↔ Zgo d 128 480 (L) (zi 1 :: st) (I, R, al) Q := zg_128_479
theorem zh_128_480 {x y : Int} : Zgo d 128 480 (L) (zi y :: zi x :: st) (I, R, al) Q ↔ Zgo d 128 481 (L) (zi (x + y) :: st) (I, R, al) Q := zg_128_480
theorem zh_128_481 {j : Int} {c o : Nat} : Zgo d 128 481 (L) (zi j :: zq (some (c, o)) :: st) (I, R, al) Q ↔ zal (zlen (I, R, al) c) 0 j (fun x => Zgo d 128 482 (L) (zi (I c o x) :: st) (I, R, al) Q) := zg_128_481
theorem zh_128_482 {v1 : zV} {o : Nat} : Zgo d 128 482 (L) (v1 :: zq (some (11, o)) :: st) (I, R, al) Q ↔ if zwt st ≤ 8 then zCp d 127 [zq (some (11, o)), v1] (I, R, al) (fun r S2 => Zgo d 128 485 L (r.toList ++ st) S2 Q) else False := zg_128_482
theorem zh_128_485 {x y : Int} : Zgo d 128 485 (L) (zi y :: zi x :: st) (I, R, al) Q ↔ if zw x = zw y then Zgo d 128 490 (L) (st) (I, R, al) Q else Zgo d 128 488 (L) (st) (I, R, al) Q := zg_128_485
theorem zh_128_488 : Zgo d 128 488 (L) (st) (I, R, al) Q ↔ Zgo d 128 489 (L) (zi 0 :: st) (I, R, al) Q := zg_128_488
theorem zh_128_489 {x : Int} : Zgo d 128 489 (L) (zi x :: []) (I, R, al) Q ↔ zok 1 x False (Q (some (zi x)) (I, R, al)) := zg_128_489
theorem zh_128_490 {x : Int} : Zgo d 128 490 (a0 :: a1 :: a2 :: a3 :: some (zi x) :: L) (st) (I, R, al) Q ↔ Zgo d 128 493 (a0 :: a1 :: a2 :: zkl a3 :: some (zi (x + 3)) :: L) (st) (I, R, al) Q := zg_128_490
theorem zh_128_493 : Zgo d 128 493 (L) (st) (I, R, al) Q ↔ Zgo d 128 23 (L) (st) (I, R, al) Q := zg_128_493
theorem zh_128_496 : Zgo d 128 496 (L) (st) (I, R, al) Q ↔ Zgo d 128 497 (L) (zi 1 :: st) (I, R, al) Q := zg_128_496
theorem zh_128_497 {x : Int} : Zgo d 128 497 (L) (zi x :: []) (I, R, al) Q ↔ zok 1 x False (Q (some (zi x)) (I, R, al)) := zg_128_497
theorem zh_128_39 {x : Int} : Zgo d 128 39 L (zi x :: st) (I, R, al) Q ↔ (if zw x = 0 then Zgo d 128 88 L st (I, R, al) Q else if zw x = 1 then Zgo d 128 145 L st (I, R, al) Q else if zw x = 2 then Zgo d 128 156 L st (I, R, al) Q else if zw x = 3 then Zgo d 128 169 L st (I, R, al) Q else if zw x = 4 then Zgo d 128 225 L st (I, R, al) Q else if zw x = 5 then Zgo d 128 281 L st (I, R, al) Q else if zw x = 6 then Zgo d 128 337 L st (I, R, al) Q else if zw x = 7 then Zgo d 128 409 L st (I, R, al) Q else if zw x = 8 then Zgo d 128 465 L st (I, R, al) Q else Zgo d 128 490 L st (I, R, al) Q) := zg_128_39
end
