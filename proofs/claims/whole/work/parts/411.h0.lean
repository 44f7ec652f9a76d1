/-! a place in an array -/
def zal (n : Option (Nat × Nat)) (ty : Nat) (j : Int) (f : Nat → Prop) : Prop := zop n False fun n => if n.1 = ty then zix j n.2 False f else False
/-! what each instruction does to the shapes that it finds (0) -/
section
variable {d : Nat} {L : zL} {st : List zV} {I : zMI} {R : zMR} {al : zA} {Q : Option zV → zS → Prop} {a0 a1 a2 a3 a4 a5 a6 a7 a8 b0 : Option zV}
theorem zh_0_0 {x : Option (Nat × Nat)} : Zgo d 0 0 (some (zq x) :: L) (st) (I, R, al) Q ↔ Zgo d 0 1 (some (zq x) :: L) (zq x :: st) (I, R, al) Q := zg_0_0
theorem zh_0_1 {v0 : zV} : Zgo d 0 1 (L) (v0 :: st) (I, R, al) Q ↔ if zwt st ≤ 8 then zCp d 905 [v0] (I, R, al) (fun _ S2 => Zgo d 0 4 L (st) S2 Q) else False := zg_0_1
theorem zh_0_4 {x : Option (Nat × Nat)} : Zgo d 0 4 (some (zq x) :: L) (st) (I, R, al) Q ↔ Zgo d 0 5 (some (zq x) :: L) (zq x :: st) (I, R, al) Q := zg_0_4
theorem zh_0_5 : Zgo d 0 5 (L) (st) (I, R, al) Q ↔ Zgo d 0 8 (L) (zq (some (1, al.1 1)) :: st) (I, R, va_up al.1 1 (al.1 1 + 1), al.2.1 + 1, al.2.2.1 + 2, al.2.2.2) Q := zg_0_5
theorem zh_0_8 {x : Int} : Zgo d 0 8 (L) (zi x :: st) (I, R, al) Q ↔ Zgo d 0 9 (L) (zi x :: zi x :: st) (I, R, al) Q := zg_0_8
theorem zh_0_8q {u : Option (Nat × Nat)} : Zgo d 0 8 (L) (zq u :: st) (I, R, al) Q ↔ Zgo d 0 9 (L) (zq u :: zq u :: st) (I, R, al) Q := zg_0_8
theorem zh_0_9 {o : Nat} : Zgo d 0 9 (L) (zq (some (1, o)) :: st) (I, R, al) Q ↔ if zwt st ≤ 8 then zCp d 1 [zq (some (1, o))] (I, R, al) (fun r S2 => Zgo d 0 12 L (r.toList ++ st) S2 Q) else False := zg_0_9
theorem zh_0_12 {o : Nat} {v : Option (Nat × Nat)} : Zgo d 0 12 (L) (zq v :: zq (some (0, o)) :: st) (I, R, al) Q ↔ Zgo d 0 15 (L) (st) (I, zsR R 0 o 0 v, al) Q := zg_0_12
theorem zh_0_15 {x : Option (Nat × Nat)} : Zgo d 0 15 (some (zq x) :: L) (st) (I, R, al) Q ↔ Zgo d 0 16 (some (zq x) :: L) (zq x :: st) (I, R, al) Q := zg_0_15
theorem zh_0_16 : Zgo d 0 16 (L) (st) (I, R, al) Q ↔ Zgo d 0 19 (L) (zq (some (7, al.1 7)) :: st) (I, R, va_up al.1 7 (al.1 7 + 1), al.2.1 + 1, al.2.2.1 + 11, al.2.2.2) Q := zg_0_16
theorem zh_0_19 {x : Int} : Zgo d 0 19 (L) (zi x :: st) (I, R, al) Q ↔ Zgo d 0 20 (L) (zi x :: zi x :: st) (I, R, al) Q := zg_0_19
theorem zh_0_19q {u : Option (Nat × Nat)} : Zgo d 0 19 (L) (zq u :: st) (I, R, al) Q ↔ Zgo d 0 20 (L) (zq u :: zq u :: st) (I, R, al) Q := zg_0_19
theorem zh_0_20 {o : Nat} : Zgo d 0 20 (L) (zq (some (7, o)) :: st) (I, R, al) Q ↔ if zwt st ≤ 8 then zCp d 2 [zq (some (7, o))] (I, R, al) (fun r S2 => Zgo d 0 23 L (r.toList ++ st) S2 Q) else False := zg_0_20
theorem zh_0_23 {o : Nat} {v : Option (Nat × Nat)} : Zgo d 0 23 (L) (zq v :: zq (some (0, o)) :: st) (I, R, al) Q ↔ Zgo d 0 26 (L) (st) (I, zsR R 0 o 1 v, al) Q := zg_0_23
theorem zh_0_26 {x : Option (Nat × Nat)} : Zgo d 0 26 (some (zq x) :: L) (st) (I, R, al) Q ↔ Zgo d 0 27 (some (zq x) :: L) (zq x :: st) (I, R, al) Q := zg_0_26
theorem zh_0_27 : Zgo d 0 27 (L) (st) (I, R, al) Q ↔ Zgo d 0 30 (L) (zq (some (8, al.1 8)) :: st) (I, R, va_up al.1 8 (al.1 8 + 1), al.2.1 + 1, al.2.2.1 + 3, al.2.2.2) Q := zg_0_27
theorem zh_0_30 {x : Int} : Zgo d 0 30 (L) (zi x :: st) (I, R, al) Q ↔ Zgo d 0 31 (L) (zi x :: zi x :: st) (I, R, al) Q := zg_0_30
theorem zh_0_30q {u : Option (Nat × Nat)} : Zgo d 0 30 (L) (zq u :: st) (I, R, al) Q ↔ Zgo d 0 31 (L) (zq u :: zq u :: st) (I, R, al) Q := zg_0_30
theorem zh_0_31 {x : Option (Nat × Nat)} : Zgo d 0 31 (some (zq x) :: L) (st) (I, R, al) Q ↔ Zgo d 0 32 (some (zq x) :: L) (zq x :: st) (I, R, al) Q := zg_0_31
theorem zh_0_32 {o : Nat} : Zgo d 0 32 (L) (zq (some (0, o)) :: st) (I, R, al) Q ↔ Zgo d 0 35 (L) (zq (R 0 o 0) :: st) (I, R, al) Q := zg_0_32
theorem zh_0_35 {x : Option (Nat × Nat)} : Zgo d 0 35 (some (zq x) :: L) (st) (I, R, al) Q ↔ Zgo d 0 36 (some (zq x) :: L) (zq x :: st) (I, R, al) Q := zg_0_35
theorem zh_0_36 {o : Nat} : Zgo d 0 36 (L) (zq (some (0, o)) :: st) (I, R, al) Q ↔ Zgo d 0 39 (L) (zq (R 0 o 1) :: st) (I, R, al) Q := zg_0_36
theorem zh_0_39 {v1 v2 : zV} {o : Nat} : Zgo d 0 39 (L) (v2 :: v1 :: zq (some (8, o)) :: st) (I, R, al) Q ↔ if zwt st ≤ 8 then zCp d 8 [zq (some (8, o)), v1, v2] (I, R, al) (fun r S2 => Zgo d 0 42 L (r.toList ++ st) S2 Q) else False := zg_0_39
theorem zh_0_42 {o : Nat} {v : Option (Nat × Nat)} : Zgo d 0 42 (L) (zq v :: zq (some (0, o)) :: st) (I, R, al) Q ↔ Zgo d 0 45 (L) (st) (I, zsR R 0 o 2 v, al) Q := zg_0_42
theorem zh_0_45 {x : Option (Nat × Nat)} : Zgo d 0 45 (some (zq x) :: L) (st) (I, R, al) Q ↔ Zgo d 0 46 (some (zq x) :: L) (zq x :: st) (I, R, al) Q := zg_0_45
theorem zh_0_46 : Zgo d 0 46 (L) (st) (I, R, al) Q ↔ Zgo d 0 49 (L) (zq (some (9, al.1 9)) :: st) (I, R, va_up al.1 9 (al.1 9 + 1), al.2.1 + 1, al.2.2.1 + 2, al.2.2.2) Q := zg_0_46
theorem zh_0_49 {x : Int} : Zgo d 0 49 (L) (zi x :: st) (I, R, al) Q ↔ Zgo d 0 50 (L) (zi x :: zi x :: st) (I, R, al) Q := zg_0_49
theorem zh_0_49q {u : Option (Nat × Nat)} : Zgo d 0 49 (L) (zq u :: st) (I, R, al) Q ↔ Zgo d 0 50 (L) (zq u :: zq u :: st) (I, R, al) Q := zg_0_49
theorem zh_0_50 {x : Option (Nat × Nat)} : Zgo d 0 50 (some (zq x) :: L) (st) (I, R, al) Q ↔ Zgo d 0 51 (some (zq x) :: L) (zq x :: st) (I, R, al) Q := zg_0_50
theorem zh_0_51 {o : Nat} : Zgo d 0 51 (L) (zq (some (0, o)) :: st) (I, R, al) Q ↔ Zgo d 0 54 (L) (zq (R 0 o 1) :: st) (I, R, al) Q := zg_0_51
theorem zh_0_54 {v1 : zV} {o : Nat} : Zgo d 0 54 (L) (v1 :: zq (some (9, o)) :: st) (I, R, al) Q ↔ if zwt st ≤ 8 then zCp d 9 [zq (some (9, o)), v1] (I, R, al) (fun r S2 => Zgo d 0 57 L (r.toList ++ st) S2 Q) else False := zg_0_54
theorem zh_0_57 {o : Nat} {v : Option (Nat × Nat)} : Zgo d 0 57 (L) (zq v :: zq (some (0, o)) :: st) (I, R, al) Q ↔ Zgo d 0 60 (L) (st) (I, zsR R 0 o 3 v, al) Q := zg_0_57
theorem zh_0_60 {x : Option (Nat × Nat)} : Zgo d 0 60 (some (zq x) :: L) (st) (I, R, al) Q ↔ Zgo d 0 61 (some (zq x) :: L) (zq x :: st) (I, R, al) Q := zg_0_60
theorem zh_0_61 : Zgo d 0 61 (L) (st) (I, R, al) Q ↔ Zgo d 0 64 (L) (zq (some (10, al.1 10)) :: st) (I, R, va_up al.1 10 (al.1 10 + 1), al.2.1 + 1, al.2.2.1 + 11, al.2.2.2) Q := zg_0_61
theorem zh_0_64 {x : Int} : Zgo d 0 64 (L) (zi x :: st) (I, R, al) Q ↔ Zgo d 0 65 (L) (zi x :: zi x :: st) (I, R, al) Q := zg_0_64
theorem zh_0_64q {u : Option (Nat × Nat)} : Zgo d 0 64 (L) (zq u :: st) (I, R, al) Q ↔ Zgo d 0 65 (L) (zq u :: zq u :: st) (I, R, al) Q := zg_0_64
theorem zh_0_65 {x : Option (Nat × Nat)} : Zgo d 0 65 (some (zq x) :: L) (st) (I, R, al) Q ↔ Zgo d 0 66 (some (zq x) :: L) (zq x :: st) (I, R, al) Q := zg_0_65
theorem zh_0_66 {o : Nat} : Zgo d 0 66 (L) (zq (some (0, o)) :: st) (I, R, al) Q ↔ Zgo d 0 69 (L) (zq (R 0 o 1) :: st) (I, R, al) Q := zg_0_66
theorem zh_0_69 {v1 : zV} {o : Nat} : Zgo d 0 69 (L) (v1 :: zq (some (10, o)) :: st) (I, R, al) Q ↔ if zwt st ≤ 8 then zCp d 10 [zq (some (10, o)), v1] (I, R, al) (fun r S2 => Zgo d 0 72 L (r.toList ++ st) S2 Q) else False := zg_0_69
theorem zh_0_72 {o : Nat} {v : Option (Nat × Nat)} : Zgo d 0 72 (L) (zq v :: zq (some (0, o)) :: st) (I, R, al) Q ↔ Zgo d 0 75 (L) (st) (I, zsR R 0 o 4 v, al) Q := zg_0_72
theorem zh_0_75 : Zgo d 0 75 (L) ([]) (I, R, al) Q ↔ Q none (I, R, al) := zg_0_75
theorem zh_1_0 {x : Option (Nat × Nat)} : Zgo d 1 0 (some (zq x) :: L) (st) (I, R, al) Q ↔ Zgo d 1 1 (some (zq x) :: L) (zq x :: st) (I, R, al) Q := zg_1_0
theorem zh_1_1 {v0 : zV} : Zgo d 1 1 (L) (v0 :: st) (I, R, al) Q ↔ if zwt st ≤ 8 then zCp d 905 [v0] (I, R, al) (fun _ S2 => Zgo d 1 4 L (st) S2 Q) else False := zg_1_1
theorem zh_1_4 {x : Option (Nat × Nat)} : Zgo d 1 4 (some (zq x) :: L) (st) (I, R, al) Q ↔ Zgo d 1 5 (some (zq x) :: L) (zq x :: st) (I, R, al) Q := zg_1_4
theorem zh_1_5 : Zgo d 1 5 (L) (st) (I, R, al) Q ↔ Zgo d 1 8 (L) (zi 160 :: st) (I, R, al) Q := zg_1_5
theorem zh_1_8 {n : Int} : Zgo d 1 8 (L) (zi n :: st) (I, R, al) Q ↔ if n = 160 ∧ al.1 20 = 0 then Zgo d 1 10 (L) (zq (some (20, 0)) :: st) (I, R, va_up al.1 20 1, al.2.1 + 1, al.2.2.1 + 160, al.2.2.2) Q else False := zg_1_8
theorem zh_1_10 {o : Nat} {v : Option (Nat × Nat)} : Zgo d 1 10 (L) (zq v :: zq (some (1, o)) :: st) (I, R, al) Q ↔ Zgo d 1 13 (L) (st) (I, zsR R 1 o 0 v, al) Q := zg_1_10
theorem zh_1_13 : Zgo d 1 13 (L) ([]) (I, R, al) Q ↔ Q none (I, R, al) := zg_1_13
theorem zh_2_0 {x : Option (Nat × Nat)} : Zgo d 2 0 (some (zq x) :: L) (st) (I, R, al) Q ↔ Zgo d 2 1 (some (zq x) :: L) (zq x :: st) (I, R, al) Q := zg_2_0
theorem zh_2_1 {v0 : zV} : Zgo d 2 1 (L) (v0 :: st) (I, R, al) Q ↔ if zwt st ≤ 8 then zCp d 905 [v0] (I, R, al) (fun _ S2 => Zgo d 2 4 L (st) S2 Q) else False := zg_2_1
theorem zh_2_4 {x : Option (Nat × Nat)} : Zgo d 2 4 (some (zq x) :: L) (st) (I, R, al) Q ↔ Zgo d 2 5 (some (zq x) :: L) (zq x :: st) (I, R, al) Q := zg_2_4
theorem zh_2_5 : Zgo d 2 5 (L) (st) (I, R, al) Q ↔ Zgo d 2 6 (L) (zi 3 :: st) (I, R, al) Q := zg_2_5
theorem zh_2_6 {n : Int} : Zgo d 2 6 (L) (zi n :: st) (I, R, al) Q ↔ if n = 3 ∧ al.1 21 = 0 then Zgo d 2 9 (L) (zq (some (21, 0)) :: st) (I, R, va_up al.1 21 1, al.2.1 + 1, al.2.2.1 + 3, al.2.2.2) Q else False := zg_2_6
theorem zh_2_9 {o : Nat} {v : Option (Nat × Nat)} : Zgo d 2 9 (L) (zq v :: zq (some (7, o)) :: st) (I, R, al) Q ↔ Zgo d 2 12 (L) (st) (I, zsR R 7 o 0 v, al) Q := zg_2_9
theorem zh_2_12 {x : Option (Nat × Nat)} : Zgo d 2 12 (some (zq x) :: L) (st) (I, R, al) Q ↔ Zgo d 2 13 (some (zq x) :: L) (zq x :: st) (I, R, al) Q := zg_2_12
theorem zh_2_13 : Zgo d 2 13 (L) (st) (I, R, al) Q ↔ Zgo d 2 16 (L) (zq (some (2, al.1 2)) :: st) (I, R, va_up al.1 2 (al.1 2 + 1), al.2.1 + 1, al.2.2.1 + 4, al.2.2.2) Q := zg_2_13
theorem zh_2_16 {x : Int} : Zgo d 2 16 (L) (zi x :: st) (I, R, al) Q ↔ Zgo d 2 17 (L) (zi x :: zi x :: st) (I, R, al) Q := zg_2_16
theorem zh_2_16q {u : Option (Nat × Nat)} : Zgo d 2 16 (L) (zq u :: st) (I, R, al) Q ↔ Zgo d 2 17 (L) (zq u :: zq u :: st) (I, R, al) Q := zg_2_16
theorem zh_2_17 {o : Nat} : Zgo d 2 17 (L) (zq (some (2, o)) :: st) (I, R, al) Q ↔ if zwt st ≤ 8 then zCp d 3 [zq (some (2, o))] (I, R, al) (fun r S2 => Zgo d 2 20 L (r.toList ++ st) S2 Q) else False := zg_2_17
theorem zh_2_20 {o : Nat} {v : Option (Nat × Nat)} : Zgo d 2 20 (L) (zq v :: zq (some (7, o)) :: st) (I, R, al) Q ↔ Zgo d 2 23 (L) (st) (I, zsR R 7 o 1 v, al) Q := zg_2_20
theorem zh_2_23 {x : Option (Nat × Nat)} : Zgo d 2 23 (some (zq x) :: L) (st) (I, R, al) Q ↔ Zgo d 2 24 (some (zq x) :: L) (zq x :: st) (I, R, al) Q := zg_2_23
theorem zh_2_24 : Zgo d 2 24 (L) (st) (I, R, al) Q ↔ Zgo d 2 26 (L) (zi 80 :: st) (I, R, al) Q := zg_2_24
theorem zh_2_26 {n : Int} : Zgo d 2 26 (L) (zi n :: st) (I, R, al) Q ↔ if n = 80 ∧ al.1 22 = 0 then Zgo d 2 29 (L) (zq (some (22, 0)) :: st) (I, R, va_up al.1 22 1, al.2.1 + 1, al.2.2.1 + 80, al.2.2.2) Q else False := zg_2_26
theorem zh_2_29 {o : Nat} {v : Option (Nat × Nat)} : Zgo d 2 29 (L) (zq v :: zq (some (7, o)) :: st) (I, R, al) Q ↔ Zgo d 2 32 (L) (st) (I, zsR R 7 o 2 v, al) Q := zg_2_29
theorem zh_2_32 {x : Option (Nat × Nat)} : Zgo d 2 32 (some (zq x) :: L) (st) (I, R, al) Q ↔ Zgo d 2 33 (some (zq x) :: L) (zq x :: st) (I, R, al) Q := zg_2_32
theorem zh_2_33 : Zgo d 2 33 (L) (st) (I, R, al) Q ↔ Zgo d 2 36 (L) (zq (some (6, al.1 6)) :: st) (I, R, va_up al.1 6 (al.1 6 + 1), al.2.1 + 1, al.2.2.1 + 5, al.2.2.2) Q := zg_2_33
theorem zh_2_36 {x : Int} : Zgo d 2 36 (L) (zi x :: st) (I, R, al) Q ↔ Zgo d 2 37 (L) (zi x :: zi x :: st) (I, R, al) Q := zg_2_36
theorem zh_2_36q {u : Option (Nat × Nat)} : Zgo d 2 36 (L) (zq u :: st) (I, R, al) Q ↔ Zgo d 2 37 (L) (zq u :: zq u :: st) (I, R, al) Q := zg_2_36
theorem zh_2_37 {o : Nat} : Zgo d 2 37 (L) (zq (some (6, o)) :: st) (I, R, al) Q ↔ if zwt st ≤ 8 then zCp d 4 [zq (some (6, o))] (I, R, al) (fun r S2 => Zgo d 2 40 L (r.toList ++ st) S2 Q) else False := zg_2_37
theorem zh_2_40 {o : Nat} {v : Option (Nat × Nat)} : Zgo d 2 40 (L) (zq v :: zq (some (7, o)) :: st) (I, R, al) Q ↔ Zgo d 2 43 (L) (st) (I, zsR R 7 o 3 v, al) Q := zg_2_40
theorem zh_2_43 {x : Option (Nat × Nat)} : Zgo d 2 43 (some (zq x) :: L) (st) (I, R, al) Q ↔ Zgo d 2 44 (some (zq x) :: L) (zq x :: st) (I, R, al) Q := zg_2_43
theorem zh_2_44 : Zgo d 2 44 (L) (st) (I, R, al) Q ↔ Zgo d 2 46 (L) (zi 80 :: st) (I, R, al) Q := zg_2_44
theorem zh_2_46 {n : Int} : Zgo d 2 46 (L) (zi n :: st) (I, R, al) Q ↔ if n = 80 ∧ al.1 23 = 0 then Zgo d 2 49 (L) (zq (some (23, 0)) :: st) (I, R, va_up al.1 23 1, al.2.1 + 1, al.2.2.1 + 80, al.2.2.2) Q else False := zg_2_46
theorem zh_2_49 {o : Nat} {v : Option (Nat × Nat)} : Zgo d 2 49 (L) (zq v :: zq (some (7, o)) :: st) (I, R, al) Q ↔ Zgo d 2 52 (L) (st) (I, zsR R 7 o 7 v, al) Q := zg_2_49
theorem zh_2_52 {x : Option (Nat × Nat)} : Zgo d 2 52 (some (zq x) :: L) (st) (I, R, al) Q ↔ Zgo d 2 53 (some (zq x) :: L) (zq x :: st) (I, R, al) Q := zg_2_52
theorem zh_2_53 : Zgo d 2 53 (L) (st) (I, R, al) Q ↔ Zgo d 2 55 (L) (zi 32 :: st) (I, R, al) Q := zg_2_53
theorem zh_2_55 {n : Int} : Zgo d 2 55 (L) (zi n :: st) (I, R, al) Q ↔ if n = 32 ∧ al.1 24 = 0 then Zgo d 2 58 (L) (zq (some (24, 0)) :: st) (I, R, va_up al.1 24 1, al.2.1 + 1, al.2.2.1 + 32, al.2.2.2) Q else False := zg_2_55
theorem zh_2_58 {o : Nat} {v : Option (Nat × Nat)} : Zgo d 2 58 (L) (zq v :: zq (some (7, o)) :: st) (I, R, al) Q ↔ Zgo d 2 61 (L) (st) (I, zsR R 7 o 8 v, al) Q := zg_2_58
theorem zh_2_61 : Zgo d 2 61 (L) (st) (I, R, al) Q ↔ Zgo d 2 62 (L) (zi 0 :: st) (I, R, al) Q := zg_2_61
theorem zh_2_62 {x : Int} : Zgo d 2 62 (a0 :: b0 :: L) (zi x :: st) (I, R, al) Q ↔ Zgo d 2 63 (zkl a0 :: some (zi x) :: L) (st) (I, R, al) Q := zg_2_62
theorem zh_2_63 {x : Int} : Zgo d 2 63 (a0 :: some (zi x) :: L) (st) (I, R, al) Q ↔ Zgo d 2 64 (a0 :: some (zi x) :: L) (zi x :: st) (I, R, al) Q := zg_2_63
theorem zh_2_64 : Zgo d 2 64 (L) (st) (I, R, al) Q ↔ Zgo d 2 65 (L) (zi 3 :: st) (I, R, al) Q := zg_2_64
theorem zh_2_65 {x y : Int} : Zgo d 2 65 (L) (zi y :: zi x :: st) (I, R, al) Q ↔ if zw x < zw y then Zgo d 2 68 (L) (st) (I, R, al) Q else Zgo d 2 87 (L) (st) (I, R, al) Q := zg_2_65
theorem zh_2_68 {x : Option (Nat × Nat)} : Zgo d 2 68 (some (zq x) :: L) (st) (I, R, al) Q ↔ Zgo d 2 69 (some (zq x) :: L) (zq x :: st) (I, R, al) Q := zg_2_68
theorem zh_2_69 {o : Nat} : Zgo d 2 69 (L) (zq (some (7, o)) :: st) (I, R, al) Q ↔ Zgo d 2 72 (L) (zq (R 7 o 0) :: st) (I, R, al) Q := zg_2_69
theorem zh_2_72 {x : Int} : Zgo d 2 72 (a0 :: some (zi x) :: L) (st) (I, R, al) Q ↔ Zgo d 2 73 (a0 :: some (zi x) :: L) (zi x :: st) (I, R, al) Q := zg_2_72
theorem zh_2_73 : Zgo d 2 73 (L) (st) (I, R, al) Q ↔ Zgo d 2 76 (L) (zq (some (2, al.1 2)) :: st) (I, R, va_up al.1 2 (al.1 2 + 1), al.2.1 + 1, al.2.2.1 + 4, al.2.2.2) Q := zg_2_73
theorem zh_2_76 {x : Int} : Zgo d 2 76 (L) (zi x :: st) (I, R, al) Q ↔ Zgo d 2 77 (L) (zi x :: zi x :: st) (I, R, al) Q := zg_2_76
theorem zh_2_76q {u : Option (Nat × Nat)} : Zgo d 2 76 (L) (zq u :: st) (I, R, al) Q ↔ Zgo d 2 77 (L) (zq u :: zq u :: st) (I, R, al) Q := zg_2_76
theorem zh_2_77 {o : Nat} : Zgo d 2 77 (L) (zq (some (2, o)) :: st) (I, R, al) Q ↔ if zwt st ≤ 8 then zCp d 3 [zq (some (2, o))] (I, R, al) (fun r S2 => Zgo d 2 80 L (r.toList ++ st) S2 Q) else False := zg_2_77
theorem zh_2_80 {j : Int} {v : Option (Nat × Nat)} {c o : Nat} : Zgo d 2 80 (L) (zq v :: zi j :: zq (some (c, o)) :: st) (I, R, al) Q ↔ zal (zArr c) 3 j (fun x => zde v (zArT c) False fun u => Zgo d 2 81 (L) (st) (I, zsR R c o x (some (zArT c, u)), al) Q) := zg_2_80
theorem zh_2_81 {x : Int} : Zgo d 2 81 (a0 :: some (zi x) :: L) (st) (I, R, al) Q ↔ Zgo d 2 84 (zkl a0 :: some (zi (x + 1)) :: L) (st) (I, R, al) Q := zg_2_81
theorem zh_2_84 : Zgo d 2 84 (L) (st) (I, R, al) Q ↔ Zgo d 2 63 (L) (st) (I, R, al) Q := zg_2_84
theorem zh_2_87 : Zgo d 2 87 (L) (st) (I, R, al) Q ↔ Zgo d 2 88 (L) (zi 0 :: st) (I, R, al) Q := zg_2_87
theorem zh_2_88 {x : Int} : Zgo d 2 88 (a0 :: b0 :: L) (zi x :: st) (I, R, al) Q ↔ Zgo d 2 89 (zkl a0 :: some (zi x) :: L) (st) (I, R, al) Q := zg_2_88
theorem zh_2_89 {x : Int} : Zgo d 2 89 (a0 :: some (zi x) :: L) (st) (I, R, al) Q ↔ Zgo d 2 90 (a0 :: some (zi x) :: L) (zi x :: st) (I, R, al) Q := zg_2_89
theorem zh_2_90 : Zgo d 2 90 (L) (st) (I, R, al) Q ↔ Zgo d 2 92 (L) (zi 80 :: st) (I, R, al) Q := zg_2_90
theorem zh_2_92 {x y : Int} : Zgo d 2 92 (L) (zi y :: zi x :: st) (I, R, al) Q ↔ if zw x < zw y then Zgo d 2 95 (L) (st) (I, R, al) Q else Zgo d 2 114 (L) (st) (I, R, al) Q := zg_2_92
theorem zh_2_95 {x : Option (Nat × Nat)} : Zgo d 2 95 (some (zq x) :: L) (st) (I, R, al) Q ↔ Zgo d 2 96 (some (zq x) :: L) (zq x :: st) (I, R, al) Q := zg_2_95
theorem zh_2_96 {o : Nat} : Zgo d 2 96 (L) (zq (some (7, o)) :: st) (I, R, al) Q ↔ Zgo d 2 99 (L) (zq (R 7 o 2) :: st) (I, R, al) Q := zg_2_96
theorem zh_2_99 {x : Int} : Zgo d 2 99 (a0 :: some (zi x) :: L) (st) (I, R, al) Q ↔ Zgo d 2 100 (a0 :: some (zi x) :: L) (zi x :: st) (I, R, al) Q := zg_2_99
theorem zh_2_100 : Zgo d 2 100 (L) (st) (I, R, al) Q ↔ Zgo d 2 103 (L) (zq (some (4, al.1 4)) :: st) (I, R, va_up al.1 4 (al.1 4 + 1), al.2.1 + 1, al.2.2.1 + 11, al.2.2.2) Q := zg_2_100
theorem zh_2_103 {x : Int} : Zgo d 2 103 (L) (zi x :: st) (I, R, al) Q ↔ Zgo d 2 104 (L) (zi x :: zi x :: st) (I, R, al) Q := zg_2_103
theorem zh_2_103q {u : Option (Nat × Nat)} : Zgo d 2 103 (L) (zq u :: st) (I, R, al) Q ↔ Zgo d 2 104 (L) (zq u :: zq u :: st) (I, R, al) Q := zg_2_103
theorem zh_2_104 {o : Nat} : Zgo d 2 104 (L) (zq (some (4, o)) :: st) (I, R, al) Q ↔ if zwt st ≤ 8 then zCp d 5 [zq (some (4, o))] (I, R, al) (fun r S2 => Zgo d 2 107 L (r.toList ++ st) S2 Q) else False := zg_2_104
theorem zh_2_107 {j : Int} {v : Option (Nat × Nat)} {c o : Nat} : Zgo d 2 107 (L) (zq v :: zi j :: zq (some (c, o)) :: st) (I, R, al) Q ↔ zal (zArr c) 3 j (fun x => zde v (zArT c) False fun u => Zgo d 2 108 (L) (st) (I, zsR R c o x (some (zArT c, u)), al) Q) := zg_2_107
theorem zh_2_108 {x : Int} : Zgo d 2 108 (a0 :: some (zi x) :: L) (st) (I, R, al) Q ↔ Zgo d 2 111 (zkl a0 :: some (zi (x + 1)) :: L) (st) (I, R, al) Q := zg_2_108
theorem zh_2_111 : Zgo d 2 111 (L) (st) (I, R, al) Q ↔ Zgo d 2 89 (L) (st) (I, R, al) Q := zg_2_111
theorem zh_2_114 : Zgo d 2 114 (L) (st) (I, R, al) Q ↔ Zgo d 2 115 (L) (zi 0 :: st) (I, R, al) Q := zg_2_114
theorem zh_2_115 {x : Int} : Zgo d 2 115 (a0 :: b0 :: L) (zi x :: st) (I, R, al) Q ↔ Zgo d 2 116 (zkl a0 :: some (zi x) :: L) (st) (I, R, al) Q := zg_2_115
theorem zh_2_116 {x : Int} : Zgo d 2 116 (a0 :: some (zi x) :: L) (st) (I, R, al) Q ↔ Zgo d 2 117 (a0 :: some (zi x) :: L) (zi x :: st) (I, R, al) Q := zg_2_116
theorem zh_2_117 : Zgo d 2 117 (L) (st) (I, R, al) Q ↔ Zgo d 2 119 (L) (zi 80 :: st) (I, R, al) Q := zg_2_117
theorem zh_2_119 {x y : Int} : Zgo d 2 119 (L) (zi y :: zi x :: st) (I, R, al) Q ↔ if zw x < zw y then Zgo d 2 122 (L) (st) (I, R, al) Q else Zgo d 2 141 (L) (st) (I, R, al) Q := zg_2_119
theorem zh_2_122 {x : Option (Nat × Nat)} : Zgo d 2 122 (some (zq x) :: L) (st) (I, R, al) Q ↔ Zgo d 2 123 (some (zq x) :: L) (zq x :: st) (I, R, al) Q := zg_2_122
theorem zh_2_123 {o : Nat} : Zgo d 2 123 (L) (zq (some (7, o)) :: st) (I, R, al) Q ↔ Zgo d 2 126 (L) (zq (R 7 o 7) :: st) (I, R, al) Q := zg_2_123
theorem zh_2_126 {x : Int} : Zgo d 2 126 (a0 :: some (zi x) :: L) (st) (I, R, al) Q ↔ Zgo d 2 127 (a0 :: some (zi x) :: L) (zi x :: st) (I, R, al) Q := zg_2_126
theorem zh_2_127 : Zgo d 2 127 (L) (st) (I, R, al) Q ↔ Zgo d 2 130 (L) (zq (some (3, al.1 3)) :: st) (I, R, va_up al.1 3 (al.1 3 + 1), al.2.1 + 1, al.2.2.1 + 5, al.2.2.2) Q := zg_2_127
theorem zh_2_130 {x : Int} : Zgo d 2 130 (L) (zi x :: st) (I, R, al) Q ↔ Zgo d 2 131 (L) (zi x :: zi x :: st) (I, R, al) Q := zg_2_130
theorem zh_2_130q {u : Option (Nat × Nat)} : Zgo d 2 130 (L) (zq u :: st) (I, R, al) Q ↔ Zgo d 2 131 (L) (zq u :: zq u :: st) (I, R, al) Q := zg_2_130
theorem zh_2_131 {o : Nat} : Zgo d 2 131 (L) (zq (some (3, o)) :: st) (I, R, al) Q ↔ if zwt st ≤ 8 then zCp d 6 [zq (some (3, o))] (I, R, al) (fun r S2 => Zgo d 2 134 L (r.toList ++ st) S2 Q) else False := zg_2_131
theorem zh_2_134 {j : Int} {v : Option (Nat × Nat)} {c o : Nat} : Zgo d 2 134 (L) (zq v :: zi j :: zq (some (c, o)) :: st) (I, R, al) Q ↔ zal (zArr c) 3 j (fun x => zde v (zArT c) False fun u => Zgo d 2 135 (L) (st) (I, zsR R c o x (some (zArT c, u)), al) Q) := zg_2_134
theorem zh_2_135 {x : Int} : Zgo d 2 135 (a0 :: some (zi x) :: L) (st) (I, R, al) Q ↔ Zgo d 2 138 (zkl a0 :: some (zi (x + 1)) :: L) (st) (I, R, al) Q := zg_2_135
theorem zh_2_138 : Zgo d 2 138 (L) (st) (I, R, al) Q ↔ Zgo d 2 116 (L) (st) (I, R, al) Q := zg_2_138
theorem zh_2_141 : Zgo d 2 141 (L) (st) (I, R, al) Q ↔ Zgo d 2 142 (L) (zi 0 :: st) (I, R, al) Q := zg_2_141
theorem zh_2_142 {x : Int} : Zgo d 2 142 (a0 :: b0 :: L) (zi x :: st) (I, R, al) Q ↔ Zgo d 2 143 (zkl a0 :: some (zi x) :: L) (st) (I, R, al) Q := zg_2_142
theorem zh_2_143 {x : Int} : Zgo d 2 143 (a0 :: some (zi x) :: L) (st) (I, R, al) Q ↔ Zgo d 2 144 (a0 :: some (zi x) :: L) (zi x :: st) (I, R, al) Q := zg_2_143
theorem zh_2_144 : Zgo d 2 144 (L) (st) (I, R, al) Q ↔ Zgo d 2 146 (L) (zi 32 :: st) (I, R, al) Q := zg_2_144
theorem zh_2_146 {x y : Int} : Zgo d 2 146 (L) (zi y :: zi x :: st) (I, R, al) Q ↔ if zw x < zw y then Zgo d 2 149 (L) (st) (I, R, al) Q else Zgo d 2 168 (L) (st) (I, R, al) Q := zg_2_146
theorem zh_2_149 {x : Option (Nat × Nat)} : Zgo d 2 149 (some (zq x) :: L) (st) (I, R, al) Q ↔ Zgo d 2 150 (some (zq x) :: L) (zq x :: st) (I, R, al) Q := zg_2_149
theorem zh_2_150 {o : Nat} : Zgo d 2 150 (L) (zq (some (7, o)) :: st) (I, R, al) Q ↔ Zgo d 2 153 (L) (zq (R 7 o 8) :: st) (I, R, al) Q := zg_2_150
theorem zh_2_153 {x : Int} : Zgo d 2 153 (a0 :: some (zi x) :: L) (st) (I, R, al) Q ↔ Zgo d 2 154 (a0 :: some (zi x) :: L) (zi x :: st) (I, R, al) Q := zg_2_153
theorem zh_2_154 : Zgo d 2 154 (L) (st) (I, R, al) Q ↔ Zgo d 2 157 (L) (zq (some (5, al.1 5)) :: st) (I, R, va_up al.1 5 (al.1 5 + 1), al.2.1 + 1, al.2.2.1 + 4, al.2.2.2) Q := zg_2_154
theorem zh_2_157 {x : Int} : Zgo d 2 157 (L) (zi x :: st) (I, R, al) Q ↔ Zgo d 2 158 (L) (zi x :: zi x :: st) (I, R, al) Q := zg_2_157
theorem zh_2_157q {u : Option (Nat × Nat)} : Zgo d 2 157 (L) (zq u :: st) (I, R, al) Q ↔ Zgo d 2 158 (L) (zq u :: zq u :: st) (I, R, al) Q := zg_2_157
theorem zh_2_158 {o : Nat} : Zgo d 2 158 (L) (zq (some (5, o)) :: st) (I, R, al) Q ↔ if zwt st ≤ 8 then zCp d 7 [zq (some (5, o))] (I, R, al) (fun r S2 => Zgo d 2 161 L (r.toList ++ st) S2 Q) else False := zg_2_158
theorem zh_2_161 {j : Int} {v : Option (Nat × Nat)} {c o : Nat} : Zgo d 2 161 (L) (zq v :: zi j :: zq (some (c, o)) :: st) (I, R, al) Q ↔ zal (zArr c) 3 j (fun x => zde v (zArT c) False fun u => Zgo d 2 162 (L) (st) (I, zsR R c o x (some (zArT c, u)), al) Q) := zg_2_161
theorem zh_2_162 {x : Int} : Zgo d 2 162 (a0 :: some (zi x) :: L) (st) (I, R, al) Q ↔ Zgo d 2 165 (zkl a0 :: some (zi (x + 1)) :: L) (st) (I, R, al) Q := zg_2_162
theorem zh_2_165 : Zgo d 2 165 (L) (st) (I, R, al) Q ↔ Zgo d 2 143 (L) (st) (I, R, al) Q := zg_2_165
theorem zh_2_168 : Zgo d 2 168 (L) ([]) (I, R, al) Q ↔ Q none (I, R, al) := zg_2_168
theorem zh_3_0 {x : Option (Nat × Nat)} : Zgo d 3 0 (some (zq x) :: L) (st) (I, R, al) Q ↔ Zgo d 3 1 (some (zq x) :: L) (zq x :: st) (I, R, al) Q := zg_3_0
theorem zh_3_1 {v0 : zV} : Zgo d 3 1 (L) (v0 :: st) (I, R, al) Q ↔ if zwt st ≤ 8 then zCp d 905 [v0] (I, R, al) (fun _ S2 => Zgo d 3 4 L (st) S2 Q) else False := zg_3_1
theorem zh_3_4 : Zgo d 3 4 (L) ([]) (I, R, al) Q ↔ Q none (I, R, al) := zg_3_4
theorem zh_4_0 {x : Option (Nat × Nat)} : Zgo d 4 0 (some (zq x) :: L) (st) (I, R, al) Q ↔ Zgo d 4 1 (some (zq x) :: L) (zq x :: st) (I, R, al) Q := zg_4_0
theorem zh_4_1 {v0 : zV} : Zgo d 4 1 (L) (v0 :: st) (I, R, al) Q ↔ if zwt st ≤ 8 then zCp d 905 [v0] (I, R, al) (fun _ S2 => Zgo d 4 4 L (st) S2 Q) else False := zg_4_1
theorem zh_4_4 {x : Option (Nat × Nat)} : Zgo d 4 4 (some (zq x) :: L) (st) (I, R, al) Q ↔ Zgo d 4 5 (some (zq x) :: L) (zq x :: st) (I, R, al) Q := zg_4_4
theorem zh_4_5 : Zgo d 4 5 (L) (st) (I, R, al) Q ↔ Zgo d 4 8 (L) (zi 160 :: st) (I, R, al) Q := zg_4_5
theorem zh_4_8 {n : Int} : Zgo d 4 8 (L) (zi n :: st) (I, R, al) Q ↔ if n = 160 ∧ al.1 25 = 0 then Zgo d 4 10 (L) (zq (some (25, 0)) :: st) (I, R, va_up al.1 25 1, al.2.1 + 1, al.2.2.1 + 160, al.2.2.2) Q else False := zg_4_8
theorem zh_4_10 {o : Nat} {v : Option (Nat × Nat)} : Zgo d 4 10 (L) (zq v :: zq (some (6, o)) :: st) (I, R, al) Q ↔ Zgo d 4 13 (L) (st) (I, zsR R 6 o 0 v, al) Q := zg_4_10
theorem zh_4_13 {x : Option (Nat × Nat)} : Zgo d 4 13 (some (zq x) :: L) (st) (I, R, al) Q ↔ Zgo d 4 14 (some (zq x) :: L) (zq x :: st) (I, R, al) Q := zg_4_13
theorem zh_4_14 : Zgo d 4 14 (L) (st) (I, R, al) Q ↔ Zgo d 4 17 (L) (zi 160 :: st) (I, R, al) Q := zg_4_14
theorem zh_4_17 {n : Int} : Zgo d 4 17 (L) (zi n :: st) (I, R, al) Q ↔ if n = 160 ∧ al.1 26 = 0 then Zgo d 4 19 (L) (zq (some (26, 0)) :: st) (I, R, va_up al.1 26 1, al.2.1 + 1, al.2.2.1 + 160, al.2.2.2) Q else False := zg_4_17
theorem zh_4_19 {o : Nat} {v : Option (Nat × Nat)} : Zgo d 4 19 (L) (zq v :: zq (some (6, o)) :: st) (I, R, al) Q ↔ Zgo d 4 22 (L) (st) (I, zsR R 6 o 1 v, al) Q := zg_4_19
theorem zh_4_22 {x : Option (Nat × Nat)} : Zgo d 4 22 (some (zq x) :: L) (st) (I, R, al) Q ↔ Zgo d 4 23 (some (zq x) :: L) (zq x :: st) (I, R, al) Q := zg_4_22
theorem zh_4_23 : Zgo d 4 23 (L) (st) (I, R, al) Q ↔ Zgo d 4 24 (L) (zi 5 :: st) (I, R, al) Q := zg_4_23
theorem zh_4_24 {n : Int} : Zgo d 4 24 (L) (zi n :: st) (I, R, al) Q ↔ if n = 5 ∧ al.1 27 = 0 then Zgo d 4 26 (L) (zq (some (27, 0)) :: st) (I, R, va_up al.1 27 1, al.2.1 + 1, al.2.2.1 + 5, al.2.2.2) Q else False := zg_4_24
theorem zh_4_26 {o : Nat} {v : Option (Nat × Nat)} : Zgo d 4 26 (L) (zq v :: zq (some (6, o)) :: st) (I, R, al) Q ↔ Zgo d 4 29 (L) (st) (I, zsR R 6 o 4 v, al) Q := zg_4_26
theorem zh_4_29 : Zgo d 4 29 (L) ([]) (I, R, al) Q ↔ Q none (I, R, al) := zg_4_29
theorem zh_5_0 {x : Option (Nat × Nat)} : Zgo d 5 0 (some (zq x) :: L) (st) (I, R, al) Q ↔ Zgo d 5 1 (some (zq x) :: L) (zq x :: st) (I, R, al) Q := zg_5_0
theorem zh_5_1 {v0 : zV} : Zgo d 5 1 (L) (v0 :: st) (I, R, al) Q ↔ if zwt st ≤ 8 then zCp d 905 [v0] (I, R, al) (fun _ S2 => Zgo d 5 4 L (st) S2 Q) else False := zg_5_1
theorem zh_5_4 : Zgo d 5 4 (L) ([]) (I, R, al) Q ↔ Q none (I, R, al) := zg_5_4
theorem zh_6_0 {x : Option (Nat × Nat)} : Zgo d 6 0 (some (zq x) :: L) (st) (I, R, al) Q ↔ Zgo d 6 1 (some (zq x) :: L) (zq x :: st) (I, R, al) Q := zg_6_0
theorem zh_6_1 {v0 : zV} : Zgo d 6 1 (L) (v0 :: st) (I, R, al) Q ↔ if zwt st ≤ 8 then zCp d 905 [v0] (I, R, al) (fun _ S2 => Zgo d 6 4 L (st) S2 Q) else False := zg_6_1
theorem zh_6_4 : Zgo d 6 4 (L) ([]) (I, R, al) Q ↔ Q none (I, R, al) := zg_6_4
theorem zh_7_0 {x : Option (Nat × Nat)} : Zgo d 7 0 (some (zq x) :: L) (st) (I, R, al) Q ↔ Zgo d 7 1 (some (zq x) :: L) (zq x :: st) (I, R, al) Q := zg_7_0
theorem zh_7_1 {v0 : zV} : Zgo d 7 1 (L) (v0 :: st) (I, R, al) Q ↔ if zwt st ≤ 8 then zCp d 905 [v0] (I, R, al) (fun _ S2 => Zgo d 7 4 L (st) S2 Q) else False := zg_7_1
theorem zh_7_4 : Zgo d 7 4 (L) ([]) (I, R, al) Q ↔ Q none (I, R, al) := zg_7_4
theorem zh_8_0 {x : Option (Nat × Nat)} : Zgo d 8 0 (some (zq x) :: L) (st) (I, R, al) Q ↔ Zgo d 8 1 (some (zq x) :: L) (zq x :: st) (I, R, al) Q := zg_8_0
theorem zh_8_1 {v0 : zV} : Zgo d 8 1 (L) (v0 :: st) (I, R, al) Q ↔ if zwt st ≤ 8 then zCp d 905 [v0] (I, R, al) (fun _ S2 => Zgo d 8 4 L (st) S2 Q) else False := zg_8_1
theorem zh_8_4 {x : Option (Nat × Nat)} : Zgo d 8 4 (some (zq x) :: L) (st) (I, R, al) Q ↔ Zgo d 8 5 (some (zq x) :: L) (zq x :: st) (I, R, al) Q := zg_8_4
theorem zh_8_5 {x : Option (Nat × Nat)} : Zgo d 8 5 (a0 :: some (zq x) :: L) (st) (I, R, al) Q ↔ Zgo d 8 6 (a0 :: some (zq x) :: L) (zq x :: st) (I, R, al) Q := zg_8_5
theorem zh_8_6 {o : Nat} {v : Option (Nat × Nat)} : Zgo d 8 6 (L) (zq v :: zq (some (8, o)) :: st) (I, R, al) Q ↔ Zgo d 8 9 (L) (st) (I, zsR R 8 o 0 v, al) Q := zg_8_6
theorem zh_8_9 {x : Option (Nat × Nat)} : Zgo d 8 9 (some (zq x) :: L) (st) (I, R, al) Q ↔ Zgo d 8 10 (some (zq x) :: L) (zq x :: st) (I, R, al) Q := zg_8_9
theorem zh_8_10 {x : Option (Nat × Nat)} : Zgo d 8 10 (a0 :: a1 :: some (zq x) :: L) (st) (I, R, al) Q ↔ Zgo d 8 11 (a0 :: a1 :: some (zq x) :: L) (zq x :: st) (I, R, al) Q := zg_8_10
theorem zh_8_11 {o : Nat} {v : Option (Nat × Nat)} : Zgo d 8 11 (L) (zq v :: zq (some (8, o)) :: st) (I, R, al) Q ↔ Zgo d 8 14 (L) (st) (I, zsR R 8 o 1 v, al) Q := zg_8_11
theorem zh_8_14 : Zgo d 8 14 (L) ([]) (I, R, al) Q ↔ Q none (I, R, al) := zg_8_14
theorem zh_9_0 {x : Option (Nat × Nat)} : Zgo d 9 0 (some (zq x) :: L) (st) (I, R, al) Q ↔ Zgo d 9 1 (some (zq x) :: L) (zq x :: st) (I, R, al) Q := zg_9_0
theorem zh_9_1 {v0 : zV} : Zgo d 9 1 (L) (v0 :: st) (I, R, al) Q ↔ if zwt st ≤ 8 then zCp d 905 [v0] (I, R, al) (fun _ S2 => Zgo d 9 4 L (st) S2 Q) else False := zg_9_1
theorem zh_9_4 {x : Option (Nat × Nat)} : Zgo d 9 4 (some (zq x) :: L) (st) (I, R, al) Q ↔ Zgo d 9 5 (some (zq x) :: L) (zq x :: st) (I, R, al) Q := zg_9_4
theorem zh_9_5 {x : Option (Nat × Nat)} : Zgo d 9 5 (a0 :: some (zq x) :: L) (st) (I, R, al) Q ↔ Zgo d 9 6 (a0 :: some (zq x) :: L) (zq x :: st) (I, R, al) Q := zg_9_5
theorem zh_9_6 {o : Nat} {v : Option (Nat × Nat)} : Zgo d 9 6 (L) (zq v :: zq (some (9, o)) :: st) (I, R, al) Q ↔ Zgo d 9 9 (L) (st) (I, zsR R 9 o 0 v, al) Q := zg_9_6
theorem zh_9_9 : Zgo d 9 9 (L) ([]) (I, R, al) Q ↔ Q none (I, R, al) := zg_9_9
theorem zh_10_0 {x : Option (Nat × Nat)} : Zgo d 10 0 (some (zq x) :: L) (st) (I, R, al) Q ↔ Zgo d 10 1 (some (zq x) :: L) (zq x :: st) (I, R, al) Q := zg_10_0
theorem zh_10_1 {v0 : zV} : Zgo d 10 1 (L) (v0 :: st) (I, R, al) Q ↔ if zwt st ≤ 8 then zCp d 905 [v0] (I, R, al) (fun _ S2 => Zgo d 10 4 L (st) S2 Q) else False := zg_10_1
theorem zh_10_4 {x : Option (Nat × Nat)} : Zgo d 10 4 (some (zq x) :: L) (st) (I, R, al) Q ↔ Zgo d 10 5 (some (zq x) :: L) (zq x :: st) (I, R, al) Q := zg_10_4
theorem zh_10_5 : Zgo d 10 5 (L) (st) (I, R, al) Q ↔ Zgo d 10 7 (L) (zi 8 :: st) (I, R, al) Q := zg_10_5
theorem zh_10_7 {n : Int} : Zgo d 10 7 (L) (zi n :: st) (I, R, al) Q ↔ if n = 8 ∧ al.1 28 = 0 then Zgo d 10 9 (L) (zq (some (28, 0)) :: st) (I, R, va_up al.1 28 1, al.2.1 + 1, al.2.2.1 + 8, al.2.2.2) Q else False := zg_10_7
theorem zh_10_9 {o : Nat} {v : Option (Nat × Nat)} : Zgo d 10 9 (L) (zq v :: zq (some (10, o)) :: st) (I, R, al) Q ↔ Zgo d 10 12 (L) (st) (I, zsR R 10 o 0 v, al) Q := zg_10_9
theorem zh_10_12 {x : Option (Nat × Nat)} : Zgo d 10 12 (some (zq x) :: L) (st) (I, R, al) Q ↔ Zgo d 10 13 (some (zq x) :: L) (zq x :: st) (I, R, al) Q := zg_10_12
theorem zh_10_13 : Zgo d 10 13 (L) (st) (I, R, al) Q ↔ Zgo d 10 15 (L) (zi 24 :: st) (I, R, al) Q := zg_10_13
theorem zh_10_15 {n : Int} : Zgo d 10 15 (L) (zi n :: st) (I, R, al) Q ↔ if n = 24 ∧ al.1 29 = 0 then Zgo d 10 17 (L) (zq (some (29, 0)) :: st) (I, R, va_up al.1 29 1, al.2.1 + 1, al.2.2.1 + 24, al.2.2.2) Q else False := zg_10_15
theorem zh_10_17 {o : Nat} {v : Option (Nat × Nat)} : Zgo d 10 17 (L) (zq v :: zq (some (10, o)) :: st) (I, R, al) Q ↔ Zgo d 10 20 (L) (st) (I, zsR R 10 o 1 v, al) Q := zg_10_17
theorem zh_10_20 {x : Option (Nat × Nat)} : Zgo d 10 20 (some (zq x) :: L) (st) (I, R, al) Q ↔ Zgo d 10 21 (some (zq x) :: L) (zq x :: st) (I, R, al) Q := zg_10_20
theorem zh_10_21 : Zgo d 10 21 (L) (st) (I, R, al) Q ↔ Zgo d 10 22 (L) (zi (-1) :: st) (I, R, al) Q := zg_10_21
theorem zh_10_22 {o : Nat} {v : Int} : Zgo d 10 22 (L) (zi v :: zq (some (10, o)) :: st) (I, R, al) Q ↔ Zgo d 10 25 (L) (st) (zsI I 10 o 3 v, R, al) Q := zg_10_22
theorem zh_10_25 {x : Option (Nat × Nat)} : Zgo d 10 25 (some (zq x) :: L) (st) (I, R, al) Q ↔ Zgo d 10 26 (some (zq x) :: L) (zq x :: st) (I, R, al) Q := zg_10_25
theorem zh_10_26 {x : Option (Nat × Nat)} : Zgo d 10 26 (a0 :: some (zq x) :: L) (st) (I, R, al) Q ↔ Zgo d 10 27 (a0 :: some (zq x) :: L) (zq x :: st) (I, R, al) Q := zg_10_26
theorem zh_10_27 {o : Nat} {v : Option (Nat × Nat)} : Zgo d 10 27 (L) (zq v :: zq (some (10, o)) :: st) (I, R, al) Q ↔ Zgo d 10 30 (L) (st) (I, zsR R 10 o 9 v, al) Q := zg_10_27
theorem zh_10_30 : Zgo d 10 30 (L) ([]) (I, R, al) Q ↔ Q none (I, R, al) := zg_10_30
theorem zh_11_0 {x : Option (Nat × Nat)} : Zgo d 11 0 (some (zq x) :: L) (st) (I, R, al) Q ↔ Zgo d 11 1 (some (zq x) :: L) (zq x :: st) (I, R, al) Q := zg_11_0
theorem zh_11_1 {o : Nat} : Zgo d 11 1 (L) (zq (some (0, o)) :: st) (I, R, al) Q ↔ Zgo d 11 4 (L) (zq (R 0 o 0) :: st) (I, R, al) Q := zg_11_1
theorem zh_11_4 {x : Int} : Zgo d 11 4 (a0 :: some (zl x) :: L) (st) (I, R, al) Q ↔ Zgo d 11 5 (a0 :: some (zl x) :: L) (zl x :: st) (I, R, al) Q := zg_11_4
theorem zh_11_5 {v1 : zV} {o : Nat} : Zgo d 11 5 (L) (v1 :: zq (some (1, o)) :: st) (I, R, al) Q ↔ if zwt st ≤ 8 then zCp d 12 [zq (some (1, o)), v1] (I, R, al) (fun r S2 => Zgo d 11 8 L (r.toList ++ st) S2 Q) else False := zg_11_5
theorem zh_11_8 {x : Int} : Zgo d 11 8 (L) (zi x :: []) (I, R, al) Q ↔ zok 1 x False (Q (some (zi x)) (I, R, al)) := zg_11_8
theorem zh_12_0 {x : Int} : Zgo d 12 0 (a0 :: some (zl x) :: L) (st) (I, R, al) Q ↔ Zgo d 12 1 (a0 :: some (zl x) :: L) (zl x :: st) (I, R, al) Q := zg_12_0
theorem zh_12_1 {v0 : zV} : Zgo d 12 1 (L) (v0 :: st) (I, R, al) Q ↔ if zwt st ≤ 8 then zCp d 13 [v0] (I, R, al) (fun r S2 => Zgo d 12 4 L (r.toList ++ st) S2 Q) else False := zg_12_1
theorem zh_12_4 {x : Int} : Zgo d 12 4 (a0 :: a1 :: a2 :: b0 :: L) (zi x :: st) (I, R, al) Q ↔ Zgo d 12 5 (a0 :: a1 :: zkl a2 :: some (zi x) :: L) (st) (I, R, al) Q := zg_12_4
theorem zh_12_5 {x : Int} : Zgo d 12 5 (a0 :: a1 :: a2 :: some (zi x) :: L) (st) (I, R, al) Q ↔ Zgo d 12 6 (a0 :: a1 :: a2 :: some (zi x) :: L) (zi x :: st) (I, R, al) Q := zg_12_5
theorem zh_12_6 : Zgo d 12 6 (L) (st) (I, R, al) Q ↔ Zgo d 12 7 (L) (zi (-1) :: st) (I, R, al) Q := zg_12_6
theorem zh_12_7 {x y : Int} : Zgo d 12 7 (L) (zi y :: zi x :: st) (I, R, al) Q ↔ if zw x = zw y then Zgo d 12 22 (L) (st) (I, R, al) Q else Zgo d 12 10 (L) (st) (I, R, al) Q := zg_12_7
theorem zh_12_10 {x : Option (Nat × Nat)} : Zgo d 12 10 (some (zq x) :: L) (st) (I, R, al) Q ↔ Zgo d 12 11 (some (zq x) :: L) (zq x :: st) (I, R, al) Q := zg_12_10
theorem zh_12_11 {o : Nat} : Zgo d 12 11 (L) (zq (some (1, o)) :: st) (I, R, al) Q ↔ Zgo d 12 14 (L) (zi (I 1 o 1) :: st) (I, R, al) Q := zg_12_11
theorem zh_12_14 {x : Int} : Zgo d 12 14 (a0 :: a1 :: a2 :: some (zi x) :: L) (st) (I, R, al) Q ↔ Zgo d 12 15 (a0 :: a1 :: a2 :: some (zi x) :: L) (zi x :: st) (I, R, al) Q := zg_12_14
theorem zh_12_15 {x y : Int} : Zgo d 12 15 (L) (zi y :: zi x :: st) (I, R, al) Q ↔ Zgo d 12 16 (L) (zi (x + y) :: st) (I, R, al) Q := zg_12_15
theorem zh_12_16 : Zgo d 12 16 (L) (st) (I, R, al) Q ↔ Zgo d 12 19 (L) (zi 160 :: st) (I, R, al) Q := zg_12_16
theorem zh_12_19 {x y : Int} : Zgo d 12 19 (L) (zi y :: zi x :: st) (I, R, al) Q ↔ if zw y < zw x then Zgo d 12 22 (L) (st) (I, R, al) Q else Zgo d 12 24 (L) (st) (I, R, al) Q := zg_12_19
theorem zh_12_22 : Zgo d 12 22 (L) (st) (I, R, al) Q ↔ Zgo d 12 23 (L) (zi 0 :: st) (I, R, al) Q := zg_12_22
theorem zh_12_23 {x : Int} : Zgo d 12 23 (L) (zi x :: []) (I, R, al) Q ↔ zok 1 x False (Q (some (zi x)) (I, R, al)) := zg_12_23
theorem zh_12_24 : Zgo d 12 24 (L) (st) (I, R, al) Q ↔ Zgo d 12 26 (L) (zi 56 :: st) (I, R, al) Q := zg_12_24
theorem zh_12_26 {x : Int} : Zgo d 12 26 (a0 :: a1 :: a2 :: a3 :: b0 :: L) (zi x :: st) (I, R, al) Q ↔ Zgo d 12 28 (a0 :: a1 :: a2 :: zkl a3 :: some (zi x) :: L) (st) (I, R, al) Q := zg_12_26
theorem zh_12_28 {x : Int} : Zgo d 12 28 (a0 :: a1 :: a2 :: a3 :: some (zi x) :: L) (st) (I, R, al) Q ↔ Zgo d 12 30 (a0 :: a1 :: a2 :: a3 :: some (zi x) :: L) (zi x :: st) (I, R, al) Q := zg_12_28
theorem zh_12_30 {x : Int} : Zgo d 12 30 (L) (zi x :: st) (I, R, al) Q ↔ if zw x < zw 0 then Zgo d 12 71 (L) (st) (I, R, al) Q else Zgo d 12 33 (L) (st) (I, R, al) Q := zg_12_30
theorem zh_12_33 {x : Int} : Zgo d 12 33 (a0 :: some (zl x) :: L) (st) (I, R, al) Q ↔ Zgo d 12 34 (a0 :: some (zl x) :: L) (zl x :: st) (I, R, al) Q := zg_12_33
theorem zh_12_34 {x : Int} : Zgo d 12 34 (a0 :: a1 :: a2 :: a3 :: some (zi x) :: L) (st) (I, R, al) Q ↔ Zgo d 12 36 (a0 :: a1 :: a2 :: a3 :: some (zi x) :: L) (zi x :: st) (I, R, al) Q := zg_12_34
theorem zh_12_36 {v0 v1 : zV} : Zgo d 12 36 (L) (v1 :: v0 :: st) (I, R, al) Q ↔ if zwt st ≤ 8 then zCp d 14 [v0, v1] (I, R, al) (fun r S2 => Zgo d 12 39 L (r.toList ++ st) S2 Q) else False := zg_12_36
theorem zh_12_39 {x : Int} : Zgo d 12 39 (a0 :: a1 :: a2 :: a3 :: a4 :: b0 :: L) (zi x :: st) (I, R, al) Q ↔ Zgo d 12 41 (a0 :: a1 :: a2 :: a3 :: zkl a4 :: some (zi x) :: L) (st) (I, R, al) Q := zg_12_39
theorem zh_12_41 {x : Int} : Zgo d 12 41 (a0 :: a1 :: a2 :: a3 :: a4 :: some (zi x) :: L) (st) (I, R, al) Q ↔ Zgo d 12 43 (a0 :: a1 :: a2 :: a3 :: a4 :: some (zi x) :: L) (zi x :: st) (I, R, al) Q := zg_12_41
theorem zh_12_43 {x : Int} : Zgo d 12 43 (L) (zi x :: st) (I, R, al) Q ↔ if zw x = zw 0 then Zgo d 12 65 (L) (st) (I, R, al) Q else Zgo d 12 46 (L) (st) (I, R, al) Q := zg_12_43
theorem zh_12_46 {x : Option (Nat × Nat)} : Zgo d 12 46 (some (zq x) :: L) (st) (I, R, al) Q ↔ Zgo d 12 47 (some (zq x) :: L) (zq x :: st) (I, R, al) Q := zg_12_46
theorem zh_12_47 {o : Nat} : Zgo d 12 47 (L) (zq (some (1, o)) :: st) (I, R, al) Q ↔ Zgo d 12 50 (L) (zq (R 1 o 0) :: st) (I, R, al) Q := zg_12_47
theorem zh_12_50 {x : Option (Nat × Nat)} : Zgo d 12 50 (some (zq x) :: L) (st) (I, R, al) Q ↔ Zgo d 12 51 (some (zq x) :: L) (zq x :: st) (I, R, al) Q := zg_12_50
theorem zh_12_51 {x : Int} : Zgo d 12 51 (L) (zi x :: st) (I, R, al) Q ↔ Zgo d 12 52 (L) (zi x :: zi x :: st) (I, R, al) Q := zg_12_51
theorem zh_12_51q {u : Option (Nat × Nat)} : Zgo d 12 51 (L) (zq u :: st) (I, R, al) Q ↔ Zgo d 12 52 (L) (zq u :: zq u :: st) (I, R, al) Q := zg_12_51
theorem zh_12_52 {o : Nat} : Zgo d 12 52 (L) (zq (some (1, o)) :: st) (I, R, al) Q ↔ Zgo d 12 55 (L) (zi (I 1 o 1) :: st) (I, R, al) Q := zg_12_52
theorem zh_12_55 {x : Int} {z : Int} : Zgo d 12 55 (L) (zi x :: zi z :: st) (I, R, al) Q ↔ Zgo d 12 56 (L) (zi x :: zi z :: zi x :: st) (I, R, al) Q := zg_12_55
theorem zh_12_55r {x : Int} {w : Option (Nat × Nat)} : Zgo d 12 55 (L) (zi x :: zq w :: st) (I, R, al) Q ↔ Zgo d 12 56 (L) (zi x :: zq w :: zi x :: st) (I, R, al) Q := zg_12_55
theorem zh_12_55qi {u : Option (Nat × Nat)} {z : Int} : Zgo d 12 55 (L) (zq u :: zi z :: st) (I, R, al) Q ↔ Zgo d 12 56 (L) (zq u :: zi z :: zq u :: st) (I, R, al) Q := zg_12_55
theorem zh_12_55qr {u : Option (Nat × Nat)} {w : Option (Nat × Nat)} : Zgo d 12 55 (L) (zq u :: zq w :: st) (I, R, al) Q ↔ Zgo d 12 56 (L) (zq u :: zq w :: zq u :: st) (I, R, al) Q := zg_12_55
theorem zh_12_56 : Zgo d 12 56 (L) (st) (I, R, al) Q ↔ Zgo d 12 57 (L) (zi 1 :: st) (I, R, al) Q := zg_12_56
theorem zh_12_57 {x y : Int} : Zgo d 12 57 (L) (zi y :: zi x :: st) (I, R, al) Q ↔ Zgo d 12 58 (L) (zi (x + y) :: st) (I, R, al) Q := zg_12_57
theorem zh_12_58 {o : Nat} {v : Int} : Zgo d 12 58 (L) (zi v :: zq (some (1, o)) :: st) (I, R, al) Q ↔ Zgo d 12 61 (L) (st) (zsI I 1 o 1 v, R, al) Q := zg_12_58
theorem zh_12_61 {x : Int} : Zgo d 12 61 (a0 :: a1 :: a2 :: a3 :: a4 :: some (zi x) :: L) (st) (I, R, al) Q ↔ Zgo d 12 63 (a0 :: a1 :: a2 :: a3 :: a4 :: some (zi x) :: L) (zi x :: st) (I, R, al) Q := zg_12_61
theorem zh_12_63 {x : Int} : Zgo d 12 63 (L) (zi x :: st) (I, R, al) Q ↔ Zgo d 12 64 (L) (zi (x % 65536) :: st) (I, R, al) Q := zg_12_63
theorem zh_12_64 {v j : Int} {c o : Nat} : Zgo d 12 64 (L) (zi v :: zi j :: zq (some (c, o)) :: st) (I, R, al) Q ↔ zal (zArr c) 2 j (fun x => Zgo d 12 65 (L) (st) (zsI I c o x (v % 65536), R, al) Q) := zg_12_64
theorem zh_12_65 {x : Int} : Zgo d 12 65 (a0 :: a1 :: a2 :: a3 :: some (zi x) :: L) (st) (I, R, al) Q ↔ Zgo d 12 68 (a0 :: a1 :: a2 :: zkl a3 :: some (zi (x + (-8))) :: L) (st) (I, R, al) Q := zg_12_65
theorem zh_12_68 : Zgo d 12 68 (L) (st) (I, R, al) Q ↔ Zgo d 12 28 (L) (st) (I, R, al) Q := zg_12_68
theorem zh_12_71 : Zgo d 12 71 (L) (st) (I, R, al) Q ↔ Zgo d 12 72 (L) (zi 1 :: st) (I, R, al) Q := zg_12_71
theorem zh_12_72 {x : Int} : Zgo d 12 72 (L) (zi x :: []) (I, R, al) Q ↔ zok 1 x False (Q (some (zi x)) (I, R, al)) := zg_12_72
theorem zh_13_0 : Zgo d 13 0 (L) (st) (I, R, al) Q ↔ Zgo d 13 1 (L) (zi 0 :: st) (I, R, al) Q := zg_13_0
theorem zh_13_1 {x : Int} : Zgo d 13 1 (a0 :: a1 :: b0 :: L) (zi x :: st) (I, R, al) Q ↔ Zgo d 13 2 (a0 :: zkl a1 :: some (zi x) :: L) (st) (I, R, al) Q := zg_13_1
theorem zh_13_2 : Zgo d 13 2 (L) (st) (I, R, al) Q ↔ Zgo d 13 4 (L) (zi 56 :: st) (I, R, al) Q := zg_13_2
theorem zh_13_4 {x : Int} : Zgo d 13 4 (a0 :: a1 :: a2 :: b0 :: L) (zi x :: st) (I, R, al) Q ↔ Zgo d 13 5 (a0 :: a1 :: zkl a2 :: some (zi x) :: L) (st) (I, R, al) Q := zg_13_4
theorem zh_13_5 {x : Int} : Zgo d 13 5 (a0 :: a1 :: a2 :: some (zi x) :: L) (st) (I, R, al) Q ↔ Zgo d 13 6 (a0 :: a1 :: a2 :: some (zi x) :: L) (zi x :: st) (I, R, al) Q := zg_13_5
theorem zh_13_6 {x : Int} : Zgo d 13 6 (L) (zi x :: st) (I, R, al) Q ↔ if zw x < zw 0 then Zgo d 13 49 (L) (st) (I, R, al) Q else Zgo d 13 9 (L) (st) (I, R, al) Q := zg_13_6
theorem zh_13_9 {x : Int} : Zgo d 13 9 (some (zl x) :: L) (st) (I, R, al) Q ↔ Zgo d 13 10 (some (zl x) :: L) (zl x :: st) (I, R, al) Q := zg_13_9
theorem zh_13_10 {x : Int} : Zgo d 13 10 (a0 :: a1 :: a2 :: some (zi x) :: L) (st) (I, R, al) Q ↔ Zgo d 13 11 (a0 :: a1 :: a2 :: some (zi x) :: L) (zi x :: st) (I, R, al) Q := zg_13_10
theorem zh_13_11 {v0 v1 : zV} : Zgo d 13 11 (L) (v1 :: v0 :: st) (I, R, al) Q ↔ if zwt st ≤ 8 then zCp d 14 [v0, v1] (I, R, al) (fun r S2 => Zgo d 13 14 L (r.toList ++ st) S2 Q) else False := zg_13_11
theorem zh_13_14 {x : Int} : Zgo d 13 14 (a0 :: a1 :: a2 :: a3 :: b0 :: L) (zi x :: st) (I, R, al) Q ↔ Zgo d 13 16 (a0 :: a1 :: a2 :: zkl a3 :: some (zi x) :: L) (st) (I, R, al) Q := zg_13_14
theorem zh_13_16 {x : Int} : Zgo d 13 16 (a0 :: a1 :: a2 :: a3 :: some (zi x) :: L) (st) (I, R, al) Q ↔ Zgo d 13 18 (a0 :: a1 :: a2 :: a3 :: some (zi x) :: L) (zi x :: st) (I, R, al) Q := zg_13_16
theorem zh_13_18 {x : Int} : Zgo d 13 18 (L) (zi x :: st) (I, R, al) Q ↔ if zw x = zw 0 then Zgo d 13 21 (L) (st) (I, R, al) Q else Zgo d 13 24 (L) (st) (I, R, al) Q := zg_13_18
theorem zh_13_21 : Zgo d 13 21 (L) (st) (I, R, al) Q ↔ Zgo d 13 43 (L) (st) (I, R, al) Q := zg_13_21
theorem zh_13_24 {x : Int} : Zgo d 13 24 (a0 :: a1 :: a2 :: a3 :: some (zi x) :: L) (st) (I, R, al) Q ↔ Zgo d 13 26 (a0 :: a1 :: a2 :: a3 :: some (zi x) :: L) (zi x :: st) (I, R, al) Q := zg_13_24
theorem zh_13_26 : Zgo d 13 26 (L) (st) (I, R, al) Q ↔ Zgo d 13 28 (L) (zi 33 :: st) (I, R, al) Q := zg_13_26
theorem zh_13_28 {x y : Int} : Zgo d 13 28 (L) (zi y :: zi x :: st) (I, R, al) Q ↔ if zw x < zw y then Zgo d 13 38 (L) (st) (I, R, al) Q else Zgo d 13 31 (L) (st) (I, R, al) Q := zg_13_28
theorem zh_13_31 {x : Int} : Zgo d 13 31 (a0 :: a1 :: a2 :: a3 :: some (zi x) :: L) (st) (I, R, al) Q ↔ Zgo d 13 33 (a0 :: a1 :: a2 :: a3 :: some (zi x) :: L) (zi x :: st) (I, R, al) Q := zg_13_31
theorem zh_13_33 : Zgo d 13 33 (L) (st) (I, R, al) Q ↔ Zgo d 13 35 (L) (zi 126 :: st) (I, R, al) Q := zg_13_33
theorem zh_13_35 {x y : Int} : Zgo d 13 35 (L) (zi y :: zi x :: st) (I, R, al) Q ↔ if zw y < zw x then Zgo d 13 38 (L) (st) (I, R, al) Q else Zgo d 13 40 (L) (st) (I, R, al) Q := zg_13_35
theorem zh_13_38 : Zgo d 13 38 (L) (st) (I, R, al) Q ↔ Zgo d 13 39 (L) (zi (-1) :: st) (I, R, al) Q := zg_13_38
theorem zh_13_39 {x : Int} : Zgo d 13 39 (L) (zi x :: []) (I, R, al) Q ↔ Q (some (zi x)) (I, R, al) := zg_13_39
theorem zh_13_40 {x : Int} : Zgo d 13 40 (a0 :: a1 :: some (zi x) :: L) (st) (I, R, al) Q ↔ Zgo d 13 43 (a0 :: zkl a1 :: some (zi (x + 1)) :: L) (st) (I, R, al) Q := zg_13_40
theorem zh_13_43 {x : Int} : Zgo d 13 43 (a0 :: a1 :: a2 :: some (zi x) :: L) (st) (I, R, al) Q ↔ Zgo d 13 46 (a0 :: a1 :: zkl a2 :: some (zi (x + (-8))) :: L) (st) (I, R, al) Q := zg_13_43
theorem zh_13_46 : Zgo d 13 46 (L) (st) (I, R, al) Q ↔ Zgo d 13 5 (L) (st) (I, R, al) Q := zg_13_46
theorem zh_13_49 {x : Int} : Zgo d 13 49 (a0 :: a1 :: some (zi x) :: L) (st) (I, R, al) Q ↔ Zgo d 13 50 (a0 :: a1 :: some (zi x) :: L) (zi x :: st) (I, R, al) Q := zg_13_49
theorem zh_13_50 {x : Int} : Zgo d 13 50 (L) (zi x :: []) (I, R, al) Q ↔ Q (some (zi x)) (I, R, al) := zg_13_50
theorem zh_14_0 {x : Int} : Zgo d 14 0 (some (zl x) :: L) (st) (I, R, al) Q ↔ Zgo d 14 1 (some (zl x) :: L) (zl x :: st) (I, R, al) Q := zg_14_0
theorem zh_14_1 {x : Int} : Zgo d 14 1 (a0 :: a1 :: some (zi x) :: L) (st) (I, R, al) Q ↔ Zgo d 14 2 (a0 :: a1 :: some (zi x) :: L) (zi x :: st) (I, R, al) Q := zg_14_1
theorem zh_14_2 {x y : Int} : Zgo d 14 2 (L) (zi y :: zl x :: st) (I, R, al) Q ↔ Zgo d 14 3 (L) (zl (zlushr x y) :: st) (I, R, al) Q := zg_14_2
theorem zh_14_3 {x : Int} : Zgo d 14 3 (L) (zl x :: st) (I, R, al) Q ↔ Zgo d 14 4 (L) (zi x :: st) (I, R, al) Q := zg_14_3
theorem zh_14_4 : Zgo d 14 4 (L) (st) (I, R, al) Q ↔ Zgo d 14 7 (L) (zi 255 :: st) (I, R, al) Q := zg_14_4
theorem zh_14_7 {x y : Int} : Zgo d 14 7 (L) (zi y :: zi x :: st) (I, R, al) Q ↔ Zgo d 14 8 (L) (zi (zand x y) :: st) (I, R, al) Q := zg_14_7
theorem zh_14_8 {x : Int} : Zgo d 14 8 (L) (zi x :: []) (I, R, al) Q ↔ Q (some (zi x)) (I, R, al) := zg_14_8
theorem zh_15_0 {x : Option (Nat × Nat)} : Zgo d 15 0 (some (zq x) :: L) (st) (I, R, al) Q ↔ Zgo d 15 1 (some (zq x) :: L) (zq x :: st) (I, R, al) Q := zg_15_0
theorem zh_15_1 {o : Nat} : Zgo d 15 1 (L) (zq (some (0, o)) :: st) (I, R, al) Q ↔ Zgo d 15 4 (L) (zq (R 0 o 0) :: st) (I, R, al) Q := zg_15_1
theorem zh_15_4 : Zgo d 15 4 (L) (st) (I, R, al) Q ↔ Zgo d 15 5 (L) (zi 0 :: st) (I, R, al) Q := zg_15_4
theorem zh_15_5 {o : Nat} {v : Int} : Zgo d 15 5 (L) (zi v :: zq (some (1, o)) :: st) (I, R, al) Q ↔ Zgo d 15 8 (L) (st) (zsI I 1 o 1 v, R, al) Q := zg_15_5
theorem zh_15_8 : Zgo d 15 8 (L) ([]) (I, R, al) Q ↔ Q none (I, R, al) := zg_15_8
theorem zh_16_0 {x : Option (Nat × Nat)} : Zgo d 16 0 (some (zq x) :: L) (st) (I, R, al) Q ↔ Zgo d 16 1 (some (zq x) :: L) (zq x :: st) (I, R, al) Q := zg_16_0
theorem zh_16_1 {o : Nat} : Zgo d 16 1 (L) (zq (some (0, o)) :: st) (I, R, al) Q ↔ Zgo d 16 4 (L) (zq (R 0 o 4) :: st) (I, R, al) Q := zg_16_1
theorem zh_16_4 {o : Nat} : Zgo d 16 4 (L) (zq (some (10, o)) :: st) (I, R, al) Q ↔ if zwt st ≤ 8 then zCp d 17 [zq (some (10, o))] (I, R, al) (fun r S2 => Zgo d 16 7 L (r.toList ++ st) S2 Q) else False := zg_16_4
theorem zh_16_7 {x : Option (Nat × Nat)} : Zgo d 16 7 (some (zq x) :: L) (st) (I, R, al) Q ↔ Zgo d 16 8 (some (zq x) :: L) (zq x :: st) (I, R, al) Q := zg_16_7
theorem zh_16_8 {o : Nat} : Zgo d 16 8 (L) (zq (some (0, o)) :: st) (I, R, al) Q ↔ Zgo d 16 11 (L) (zq (R 0 o 2) :: st) (I, R, al) Q := zg_16_8
theorem zh_16_11 {o : Nat} : Zgo d 16 11 (L) (zq (some (8, o)) :: st) (I, R, al) Q ↔ if zwt st ≤ 8 then zCp d 18 [zq (some (8, o))] (I, R, al) (fun r S2 => Zgo d 16 14 L (r.toList ++ st) S2 Q) else False := zg_16_11
theorem zh_16_14 {x : Int} : Zgo d 16 14 (L) (zi x :: st) (I, R, al) Q ↔ if zw x = zw 0 then Zgo d 16 27 (L) (st) (I, R, al) Q else Zgo d 16 17 (L) (st) (I, R, al) Q := zg_16_14
theorem zh_16_17 {x : Option (Nat × Nat)} : Zgo d 16 17 (some (zq x) :: L) (st) (I, R, al) Q ↔ Zgo d 16 18 (some (zq x) :: L) (zq x :: st) (I, R, al) Q := zg_16_17
theorem zh_16_18 {o : Nat} : Zgo d 16 18 (L) (zq (some (0, o)) :: st) (I, R, al) Q ↔ Zgo d 16 21 (L) (zq (R 0 o 3) :: st) (I, R, al) Q := zg_16_18
theorem zh_16_21 {o : Nat} : Zgo d 16 21 (L) (zq (some (9, o)) :: st) (I, R, al) Q ↔ if zwt st ≤ 8 then zCp d 43 [zq (some (9, o))] (I, R, al) (fun r S2 => Zgo d 16 24 L (r.toList ++ st) S2 Q) else False := zg_16_21
theorem zh_16_24 : Zgo d 16 24 (L) (st) (I, R, al) Q ↔ Zgo d 16 28 (L) (st) (I, R, al) Q := zg_16_24
theorem zh_16_27 : Zgo d 16 27 (L) (st) (I, R, al) Q ↔ Zgo d 16 28 (L) (zi 1 :: st) (I, R, al) Q := zg_16_27
theorem zh_16_28 {x : Int} : Zgo d 16 28 (a0 :: b0 :: L) (zi x :: st) (I, R, al) Q ↔ Zgo d 16 29 (zkl a0 :: some (zi x) :: L) (st) (I, R, al) Q := zg_16_28
theorem zh_16_29 {x : Int} : Zgo d 16 29 (a0 :: some (zi x) :: L) (st) (I, R, al) Q ↔ Zgo d 16 30 (a0 :: some (zi x) :: L) (zi x :: st) (I, R, al) Q := zg_16_29
theorem zh_16_30 {x : Int} : Zgo d 16 30 (L) (zi x :: st) (I, R, al) Q ↔ if zw x = zw 0 then Zgo d 16 33 (L) (st) (I, R, al) Q else Zgo d 16 44 (L) (st) (I, R, al) Q := zg_16_30
theorem zh_16_33 {x : Option (Nat × Nat)} : Zgo d 16 33 (some (zq x) :: L) (st) (I, R, al) Q ↔ Zgo d 16 34 (some (zq x) :: L) (zq x :: st) (I, R, al) Q := zg_16_33
theorem zh_16_34 {o : Nat} : Zgo d 16 34 (L) (zq (some (0, o)) :: st) (I, R, al) Q ↔ Zgo d 16 37 (L) (zq (R 0 o 1) :: st) (I, R, al) Q := zg_16_34
theorem zh_16_37 : Zgo d 16 37 (L) (st) (I, R, al) Q ↔ Zgo d 16 38 (L) (zi 1 :: st) (I, R, al) Q := zg_16_37
theorem zh_16_38 {o : Nat} {v : Int} : Zgo d 16 38 (L) (zi v :: zq (some (7, o)) :: st) (I, R, al) Q ↔ zok 1 v False (Zgo d 16 41 (L) (st) (zsI I 7 o 6 v, R, al) Q) := zg_16_38
theorem zh_16_41 : Zgo d 16 41 (L) (st) (I, R, al) Q ↔ Zgo d 16 51 (L) (st) (I, R, al) Q := zg_16_41
theorem zh_16_44 {x : Option (Nat × Nat)} : Zgo d 16 44 (some (zq x) :: L) (st) (I, R, al) Q ↔ Zgo d 16 45 (some (zq x) :: L) (zq x :: st) (I, R, al) Q := zg_16_44
theorem zh_16_45 {o : Nat} : Zgo d 16 45 (L) (zq (some (0, o)) :: st) (I, R, al) Q ↔ Zgo d 16 48 (L) (zq (R 0 o 1) :: st) (I, R, al) Q := zg_16_45
theorem zh_16_48 {o : Nat} : Zgo d 16 48 (L) (zq (some (7, o)) :: st) (I, R, al) Q ↔ if zwt st ≤ 8 then zCp d 19 [zq (some (7, o))] (I, R, al) (fun r S2 => Zgo d 16 51 L (r.toList ++ st) S2 Q) else False := zg_16_48
theorem zh_16_51 {x : Int} : Zgo d 16 51 (a0 :: some (zi x) :: L) (st) (I, R, al) Q ↔ Zgo d 16 52 (a0 :: some (zi x) :: L) (zi x :: st) (I, R, al) Q := zg_16_51
theorem zh_16_52 {x : Int} : Zgo d 16 52 (L) (zi x :: []) (I, R, al) Q ↔ Q (some (zi x)) (I, R, al) := zg_16_52
theorem zh_17_0 : Zgo d 17 0 (L) (st) (I, R, al) Q ↔ Zgo d 17 1 (L) (zi 0 :: st) (I, R, al) Q := zg_17_0
theorem zh_17_1 {x : Int} : Zgo d 17 1 (a0 :: b0 :: L) (zi x :: st) (I, R, al) Q ↔ Zgo d 17 2 (zkl a0 :: some (zi x) :: L) (st) (I, R, al) Q := zg_17_1
theorem zh_17_2 {x : Int} : Zgo d 17 2 (a0 :: some (zi x) :: L) (st) (I, R, al) Q ↔ Zgo d 17 3 (a0 :: some (zi x) :: L) (zi x :: st) (I, R, al) Q := zg_17_2
theorem zh_17_3 : Zgo d 17 3 (L) (st) (I, R, al) Q ↔ Zgo d 17 5 (L) (zi 8 :: st) (I, R, al) Q := zg_17_3
theorem zh_17_5 {x y : Int} : Zgo d 17 5 (L) (zi y :: zi x :: st) (I, R, al) Q ↔ if zw x < zw y then Zgo d 17 8 (L) (st) (I, R, al) Q else Zgo d 17 21 (L) (st) (I, R, al) Q := zg_17_5
theorem zh_17_8 {x : Option (Nat × Nat)} : Zgo d 17 8 (some (zq x) :: L) (st) (I, R, al) Q ↔ Zgo d 17 9 (some (zq x) :: L) (zq x :: st) (I, R, al) Q := zg_17_8
theorem zh_17_9 {o : Nat} : Zgo d 17 9 (L) (zq (some (10, o)) :: st) (I, R, al) Q ↔ Zgo d 17 12 (L) (zq (R 10 o 0) :: st) (I, R, al) Q := zg_17_9
theorem zh_17_12 {x : Int} : Zgo d 17 12 (a0 :: some (zi x) :: L) (st) (I, R, al) Q ↔ Zgo d 17 13 (a0 :: some (zi x) :: L) (zi x :: st) (I, R, al) Q := zg_17_12
theorem zh_17_13 : Zgo d 17 13 (L) (st) (I, R, al) Q ↔ Zgo d 17 14 (L) (zi 0 :: st) (I, R, al) Q := zg_17_13
theorem zh_17_14 {v j : Int} {c o : Nat} : Zgo d 17 14 (L) (zi v :: zi j :: zq (some (c, o)) :: st) (I, R, al) Q ↔ zal (zArr c) 0 j (fun x => Zgo d 17 15 (L) (st) (zsI I c o x v, R, al) Q) := zg_17_14
theorem zh_17_15 {x : Int} : Zgo d 17 15 (a0 :: some (zi x) :: L) (st) (I, R, al) Q ↔ Zgo d 17 18 (zkl a0 :: some (zi (x + 1)) :: L) (st) (I, R, al) Q := zg_17_15
theorem zh_17_18 : Zgo d 17 18 (L) (st) (I, R, al) Q ↔ Zgo d 17 2 (L) (st) (I, R, al) Q := zg_17_18
theorem zh_17_21 {x : Option (Nat × Nat)} : Zgo d 17 21 (some (zq x) :: L) (st) (I, R, al) Q ↔ Zgo d 17 22 (some (zq x) :: L) (zq x :: st) (I, R, al) Q := zg_17_21
theorem zh_17_22 : Zgo d 17 22 (L) (st) (I, R, al) Q ↔ Zgo d 17 23 (L) (zi 0 :: st) (I, R, al) Q := zg_17_22
theorem zh_17_23 {o : Nat} {v : Int} : Zgo d 17 23 (L) (zi v :: zq (some (10, o)) :: st) (I, R, al) Q ↔ Zgo d 17 26 (L) (st) (zsI I 10 o 2 v, R, al) Q := zg_17_23
theorem zh_17_26 {x : Option (Nat × Nat)} : Zgo d 17 26 (some (zq x) :: L) (st) (I, R, al) Q ↔ Zgo d 17 27 (some (zq x) :: L) (zq x :: st) (I, R, al) Q := zg_17_26
theorem zh_17_27 : Zgo d 17 27 (L) (st) (I, R, al) Q ↔ Zgo d 17 28 (L) (zi (-1) :: st) (I, R, al) Q := zg_17_27
theorem zh_17_28 {o : Nat} {v : Int} : Zgo d 17 28 (L) (zi v :: zq (some (10, o)) :: st) (I, R, al) Q ↔ Zgo d 17 31 (L) (st) (zsI I 10 o 3 v, R, al) Q := zg_17_28
theorem zh_17_31 {x : Option (Nat × Nat)} : Zgo d 17 31 (some (zq x) :: L) (st) (I, R, al) Q ↔ Zgo d 17 32 (some (zq x) :: L) (zq x :: st) (I, R, al) Q := zg_17_31
theorem zh_17_32 : Zgo d 17 32 (L) (st) (I, R, al) Q ↔ Zgo d 17 33 (L) (zi 0 :: st) (I, R, al) Q := zg_17_32
theorem zh_17_33 {o : Nat} {v : Int} : Zgo d 17 33 (L) (zi v :: zq (some (10, o)) :: st) (I, R, al) Q ↔ Zgo d 17 36 (L) (st) (zsI I 10 o 4 v, R, al) Q := zg_17_33
theorem zh_17_36 {x : Option (Nat × Nat)} : Zgo d 17 36 (some (zq x) :: L) (st) (I, R, al) Q ↔ Zgo d 17 37 (some (zq x) :: L) (zq x :: st) (I, R, al) Q := zg_17_36
theorem zh_17_37 : Zgo d 17 37 (L) (st) (I, R, al) Q ↔ Zgo d 17 38 (L) (zi 0 :: st) (I, R, al) Q := zg_17_37
theorem zh_17_38 {o : Nat} {v : Int} : Zgo d 17 38 (L) (zi v :: zq (some (10, o)) :: st) (I, R, al) Q ↔ Zgo d 17 41 (L) (st) (zsI I 10 o 5 v, R, al) Q := zg_17_38
theorem zh_17_41 {x : Option (Nat × Nat)} : Zgo d 17 41 (some (zq x) :: L) (st) (I, R, al) Q ↔ Zgo d 17 42 (some (zq x) :: L) (zq x :: st) (I, R, al) Q := zg_17_41
theorem zh_17_42 : Zgo d 17 42 (L) (st) (I, R, al) Q ↔ Zgo d 17 43 (L) (zi 0 :: st) (I, R, al) Q := zg_17_42
theorem zh_17_43 {o : Nat} {v : Int} : Zgo d 17 43 (L) (zi v :: zq (some (10, o)) :: st) (I, R, al) Q ↔ Zgo d 17 46 (L) (st) (zsI I 10 o 10 v, R, al) Q := zg_17_43
theorem zh_17_46 {x : Option (Nat × Nat)} : Zgo d 17 46 (some (zq x) :: L) (st) (I, R, al) Q ↔ Zgo d 17 47 (some (zq x) :: L) (zq x :: st) (I, R, al) Q := zg_17_46
theorem zh_17_47 : Zgo d 17 47 (L) (st) (I, R, al) Q ↔ Zgo d 17 48 (L) (zi 0 :: st) (I, R, al) Q := zg_17_47
theorem zh_17_48 {o : Nat} {v : Int} : Zgo d 17 48 (L) (zi v :: zq (some (10, o)) :: st) (I, R, al) Q ↔ Zgo d 17 51 (L) (st) (zsI I 10 o 6 v, R, al) Q := zg_17_48
theorem zh_17_51 : Zgo d 17 51 (L) ([]) (I, R, al) Q ↔ Q none (I, R, al) := zg_17_51
theorem zh_18_0 {x : Option (Nat × Nat)} : Zgo d 18 0 (some (zq x) :: L) (st) (I, R, al) Q ↔ Zgo d 18 1 (some (zq x) :: L) (zq x :: st) (I, R, al) Q := zg_18_0
theorem zh_18_1 : Zgo d 18 1 (L) (st) (I, R, al) Q ↔ Zgo d 18 2 (L) (zi 0 :: st) (I, R, al) Q := zg_18_1
theorem zh_18_2 {o : Nat} {v : Int} : Zgo d 18 2 (L) (zi v :: zq (some (8, o)) :: st) (I, R, al) Q ↔ Zgo d 18 5 (L) (st) (zsI I 8 o 2 v, R, al) Q := zg_18_2
theorem zh_18_5 {x : Option (Nat × Nat)} : Zgo d 18 5 (some (zq x) :: L) (st) (I, R, al) Q ↔ Zgo d 18 6 (some (zq x) :: L) (zq x :: st) (I, R, al) Q := zg_18_5
theorem zh_18_6 {o : Nat} : Zgo d 18 6 (L) (zq (some (8, o)) :: st) (I, R, al) Q ↔ Zgo d 18 9 (L) (zq (R 8 o 1) :: st) (I, R, al) Q := zg_18_6
theorem zh_18_9 {o : Nat} : Zgo d 18 9 (L) (zq (some (7, o)) :: st) (I, R, al) Q ↔ if zwt st ≤ 8 then zCp d 19 [zq (some (7, o))] (I, R, al) (fun r S2 => Zgo d 18 12 L (r.toList ++ st) S2 Q) else False := zg_18_9
theorem zh_18_12 : Zgo d 18 12 (L) (st) (I, R, al) Q ↔ Zgo d 18 13 (L) (zi 0 :: st) (I, R, al) Q := zg_18_12
theorem zh_18_13 {x : Int} : Zgo d 18 13 (a0 :: b0 :: L) (zi x :: st) (I, R, al) Q ↔ Zgo d 18 14 (zkl a0 :: some (zi x) :: L) (st) (I, R, al) Q := zg_18_13
theorem zh_18_14 {x : Int} : Zgo d 18 14 (a0 :: some (zi x) :: L) (st) (I, R, al) Q ↔ Zgo d 18 15 (a0 :: some (zi x) :: L) (zi x :: st) (I, R, al) Q := zg_18_14
theorem zh_18_15 : Zgo d 18 15 (L) (st) (I, R, al) Q ↔ Zgo d 18 16 (L) (zi 3 :: st) (I, R, al) Q := zg_18_15
theorem zh_18_16 {x y : Int} : Zgo d 18 16 (L) (zi y :: zi x :: st) (I, R, al) Q ↔ if zw x < zw y then Zgo d 18 19 (L) (st) (I, R, al) Q else Zgo d 18 43 (L) (st) (I, R, al) Q := zg_18_16
theorem zh_18_19 {x : Option (Nat × Nat)} : Zgo d 18 19 (some (zq x) :: L) (st) (I, R, al) Q ↔ Zgo d 18 20 (some (zq x) :: L) (zq x :: st) (I, R, al) Q := zg_18_19
theorem zh_18_20 : Zgo d 18 20 (L) (st) (I, R, al) Q ↔ Zgo d 18 22 (L) (zi 68 :: st) (I, R, al) Q := zg_18_20
theorem zh_18_22 {v1 : zV} {o : Nat} : Zgo d 18 22 (L) (v1 :: zq (some (8, o)) :: st) (I, R, al) Q ↔ if zwt st ≤ 8 then zCp d 20 [zq (some (8, o)), v1] (I, R, al) (fun r S2 => Zgo d 18 25 L (r.toList ++ st) S2 Q) else False := zg_18_22
theorem zh_18_25 {x : Int} : Zgo d 18 25 (L) (zi x :: st) (I, R, al) Q ↔ if zw x = zw 0 then Zgo d 18 43 (L) (st) (I, R, al) Q else Zgo d 18 28 (L) (st) (I, R, al) Q := zg_18_25
theorem zh_18_28 {x : Option (Nat × Nat)} : Zgo d 18 28 (some (zq x) :: L) (st) (I, R, al) Q ↔ Zgo d 18 29 (some (zq x) :: L) (zq x :: st) (I, R, al) Q := zg_18_28
theorem zh_18_29 {o : Nat} : Zgo d 18 29 (L) (zq (some (8, o)) :: st) (I, R, al) Q ↔ if zwt st ≤ 8 then zCp d 21 [zq (some (8, o))] (I, R, al) (fun r S2 => Zgo d 18 32 L (r.toList ++ st) S2 Q) else False := zg_18_29
theorem zh_18_32 {x : Int} : Zgo d 18 32 (L) (zi x :: st) (I, R, al) Q ↔ if zw x = zw 0 then Zgo d 18 35 (L) (st) (I, R, al) Q else Zgo d 18 37 (L) (st) (I, R, al) Q := zg_18_32
theorem zh_18_35 : Zgo d 18 35 (L) (st) (I, R, al) Q ↔ Zgo d 18 36 (L) (zi 0 :: st) (I, R, al) Q := zg_18_35
theorem zh_18_36 {x : Int} : Zgo d 18 36 (L) (zi x :: []) (I, R, al) Q ↔ zok 1 x False (Q (some (zi x)) (I, R, al)) := zg_18_36
theorem zh_18_37 {x : Int} : Zgo d 18 37 (a0 :: some (zi x) :: L) (st) (I, R, al) Q ↔ Zgo d 18 40 (zkl a0 :: some (zi (x + 1)) :: L) (st) (I, R, al) Q := zg_18_37
theorem zh_18_40 : Zgo d 18 40 (L) (st) (I, R, al) Q ↔ Zgo d 18 14 (L) (st) (I, R, al) Q := zg_18_40
theorem zh_18_43 {x : Option (Nat × Nat)} : Zgo d 18 43 (some (zq x) :: L) (st) (I, R, al) Q ↔ Zgo d 18 44 (some (zq x) :: L) (zq x :: st) (I, R, al) Q := zg_18_43
theorem zh_18_44 : Zgo d 18 44 (L) (st) (I, R, al) Q ↔ Zgo d 18 46 (L) (zi 77 :: st) (I, R, al) Q := zg_18_44
theorem zh_18_46 {v1 : zV} {o : Nat} : Zgo d 18 46 (L) (v1 :: zq (some (8, o)) :: st) (I, R, al) Q ↔ if zwt st ≤ 8 then zCp d 20 [zq (some (8, o)), v1] (I, R, al) (fun r S2 => Zgo d 18 49 L (r.toList ++ st) S2 Q) else False := zg_18_46
theorem zh_18_49 {x : Int} : Zgo d 18 49 (L) (zi x :: st) (I, R, al) Q ↔ if zw x = zw 0 then Zgo d 18 84 (L) (st) (I, R, al) Q else Zgo d 18 52 (L) (st) (I, R, al) Q := zg_18_49
theorem zh_18_52 {x : Option (Nat × Nat)} : Zgo d 18 52 (some (zq x) :: L) (st) (I, R, al) Q ↔ Zgo d 18 53 (some (zq x) :: L) (zq x :: st) (I, R, al) Q := zg_18_52
theorem zh_18_53 {x : Option (Nat × Nat)} : Zgo d 18 53 (some (zq x) :: L) (st) (I, R, al) Q ↔ Zgo d 18 54 (some (zq x) :: L) (zq x :: st) (I, R, al) Q := zg_18_53
theorem zh_18_54 {o : Nat} : Zgo d 18 54 (L) (zq (some (8, o)) :: st) (I, R, al) Q ↔ Zgo d 18 57 (L) (zq (R 8 o 1) :: st) (I, R, al) Q := zg_18_54
theorem zh_18_57 {o : Nat} : Zgo d 18 57 (L) (zq (some (7, o)) :: st) (I, R, al) Q ↔ Zgo d 18 60 (L) (zq (R 7 o 1) :: st) (I, R, al) Q := zg_18_57
theorem zh_18_60 {v1 : zV} {o : Nat} : Zgo d 18 60 (L) (v1 :: zq (some (8, o)) :: st) (I, R, al) Q ↔ if zwt st ≤ 8 then zCp d 25 [zq (some (8, o)), v1] (I, R, al) (fun r S2 => Zgo d 18 63 L (r.toList ++ st) S2 Q) else False := zg_18_60
theorem zh_18_63 {x : Int} : Zgo d 18 63 (L) (zi x :: st) (I, R, al) Q ↔ if zw x = zw 0 then Zgo d 18 84 (L) (st) (I, R, al) Q else Zgo d 18 66 (L) (st) (I, R, al) Q := zg_18_63
theorem zh_18_66 {x : Option (Nat × Nat)} : Zgo d 18 66 (some (zq x) :: L) (st) (I, R, al) Q ↔ Zgo d 18 67 (some (zq x) :: L) (zq x :: st) (I, R, al) Q := zg_18_66
theorem zh_18_67 {o : Nat} : Zgo d 18 67 (L) (zq (some (8, o)) :: st) (I, R, al) Q ↔ Zgo d 18 70 (L) (zi (I 8 o 2) :: st) (I, R, al) Q := zg_18_67
theorem zh_18_70 {x : Option (Nat × Nat)} : Zgo d 18 70 (some (zq x) :: L) (st) (I, R, al) Q ↔ Zgo d 18 71 (some (zq x) :: L) (zq x :: st) (I, R, al) Q := zg_18_70
theorem zh_18_71 {o : Nat} : Zgo d 18 71 (L) (zq (some (8, o)) :: st) (I, R, al) Q ↔ Zgo d 18 74 (L) (zq (R 8 o 0) :: st) (I, R, al) Q := zg_18_71
theorem zh_18_74 {o : Nat} : Zgo d 18 74 (L) (zq (some (1, o)) :: st) (I, R, al) Q ↔ Zgo d 18 77 (L) (zi (I 1 o 1) :: st) (I, R, al) Q := zg_18_74
theorem zh_18_77 {x y : Int} : Zgo d 18 77 (L) (zi y :: zi x :: st) (I, R, al) Q ↔ if zw x = zw y then Zgo d 18 80 (L) (st) (I, R, al) Q else Zgo d 18 84 (L) (st) (I, R, al) Q := zg_18_77
theorem zh_18_80 : Zgo d 18 80 (L) (st) (I, R, al) Q ↔ Zgo d 18 81 (L) (zi 1 :: st) (I, R, al) Q := zg_18_80
theorem zh_18_81 : Zgo d 18 81 (L) (st) (I, R, al) Q ↔ Zgo d 18 85 (L) (st) (I, R, al) Q := zg_18_81
theorem zh_18_84 : Zgo d 18 84 (L) (st) (I, R, al) Q ↔ Zgo d 18 85 (L) (zi 0 :: st) (I, R, al) Q := zg_18_84
theorem zh_18_85 {x : Int} : Zgo d 18 85 (L) (zi x :: []) (I, R, al) Q ↔ zok 1 x False (Q (some (zi x)) (I, R, al)) := zg_18_85
theorem zh_19_0 {x : Option (Nat × Nat)} : Zgo d 19 0 (some (zq x) :: L) (st) (I, R, al) Q ↔ Zgo d 19 1 (some (zq x) :: L) (zq x :: st) (I, R, al) Q := zg_19_0
theorem zh_19_1 : Zgo d 19 1 (L) (st) (I, R, al) Q ↔ Zgo d 19 2 (L) (zi 0 :: st) (I, R, al) Q := zg_19_1
theorem zh_19_2 {o : Nat} {v : Int} : Zgo d 19 2 (L) (zi v :: zq (some (7, o)) :: st) (I, R, al) Q ↔ zok 1 v False (Zgo d 19 5 (L) (st) (zsI I 7 o 6 v, R, al) Q) := zg_19_2
theorem zh_19_5 {x : Option (Nat × Nat)} : Zgo d 19 5 (some (zq x) :: L) (st) (I, R, al) Q ↔ Zgo d 19 6 (some (zq x) :: L) (zq x :: st) (I, R, al) Q := zg_19_5
theorem zh_19_6 : Zgo d 19 6 (L) (st) (I, R, al) Q ↔ Zgo d 19 7 (L) (zi 0 :: st) (I, R, al) Q := zg_19_6
theorem zh_19_7 {o : Nat} {v : Int} : Zgo d 19 7 (L) (zi v :: zq (some (7, o)) :: st) (I, R, al) Q ↔ Zgo d 19 10 (L) (st) (zsI I 7 o 4 v, R, al) Q := zg_19_7
theorem zh_19_10 {x : Option (Nat × Nat)} : Zgo d 19 10 (some (zq x) :: L) (st) (I, R, al) Q ↔ Zgo d 19 11 (some (zq x) :: L) (zq x :: st) (I, R, al) Q := zg_19_10
theorem zh_19_11 : Zgo d 19 11 (L) (st) (I, R, al) Q ↔ Zgo d 19 12 (L) (zi 0 :: st) (I, R, al) Q := zg_19_11
theorem zh_19_12 {o : Nat} {v : Int} : Zgo d 19 12 (L) (zi v :: zq (some (7, o)) :: st) (I, R, al) Q ↔ Zgo d 19 15 (L) (st) (zsI I 7 o 5 v, R, al) Q := zg_19_12
theorem zh_19_15 {x : Option (Nat × Nat)} : Zgo d 19 15 (some (zq x) :: L) (st) (I, R, al) Q ↔ Zgo d 19 16 (some (zq x) :: L) (zq x :: st) (I, R, al) Q := zg_19_15
theorem zh_19_16 : Zgo d 19 16 (L) (st) (I, R, al) Q ↔ Zgo d 19 17 (L) (zi 0 :: st) (I, R, al) Q := zg_19_16
theorem zh_19_17 {o : Nat} {v : Int} : Zgo d 19 17 (L) (zi v :: zq (some (7, o)) :: st) (I, R, al) Q ↔ Zgo d 19 20 (L) (st) (zsI I 7 o 9 v, R, al) Q := zg_19_17
theorem zh_19_20 {x : Option (Nat × Nat)} : Zgo d 19 20 (some (zq x) :: L) (st) (I, R, al) Q ↔ Zgo d 19 21 (some (zq x) :: L) (zq x :: st) (I, R, al) Q := zg_19_20
theorem zh_19_21 : Zgo d 19 21 (L) (st) (I, R, al) Q ↔ Zgo d 19 22 (L) (zi 0 :: st) (I, R, al) Q := zg_19_21
theorem zh_19_22 {o : Nat} {v : Int} : Zgo d 19 22 (L) (zi v :: zq (some (7, o)) :: st) (I, R, al) Q ↔ Zgo d 19 25 (L) (st) (zsI I 7 o 10 v, R, al) Q := zg_19_22
theorem zh_19_25 {x : Option (Nat × Nat)} : Zgo d 19 25 (some (zq x) :: L) (st) (I, R, al) Q ↔ Zgo d 19 26 (some (zq x) :: L) (zq x :: st) (I, R, al) Q := zg_19_25
theorem zh_19_26 {o : Nat} : Zgo d 19 26 (L) (zq (some (7, o)) :: st) (I, R, al) Q ↔ Zgo d 19 29 (L) (zq (R 7 o 3) :: st) (I, R, al) Q := zg_19_26
theorem zh_19_29 : Zgo d 19 29 (L) (st) (I, R, al) Q ↔ Zgo d 19 30 (L) (zi 0 :: st) (I, R, al) Q := zg_19_29
theorem zh_19_30 {o : Nat} {v : Int} : Zgo d 19 30 (L) (zi v :: zq (some (6, o)) :: st) (I, R, al) Q ↔ Zgo d 19 33 (L) (st) (zsI I 6 o 2 v, R, al) Q := zg_19_30
theorem zh_19_33 : Zgo d 19 33 (L) ([]) (I, R, al) Q ↔ Q none (I, R, al) := zg_19_33
theorem zh_20_0 {x : Option (Nat × Nat)} : Zgo d 20 0 (some (zq x) :: L) (st) (I, R, al) Q ↔ Zgo d 20 1 (some (zq x) :: L) (zq x :: st) (I, R, al) Q := zg_20_0
theorem zh_20_1 {o : Nat} : Zgo d 20 1 (L) (zq (some (8, o)) :: st) (I, R, al) Q ↔ Zgo d 20 4 (L) (zi (I 8 o 2) :: st) (I, R, al) Q := zg_20_1
theorem zh_20_4 {x : Option (Nat × Nat)} : Zgo d 20 4 (some (zq x) :: L) (st) (I, R, al) Q ↔ Zgo d 20 5 (some (zq x) :: L) (zq x :: st) (I, R, al) Q := zg_20_4
theorem zh_20_5 {o : Nat} : Zgo d 20 5 (L) (zq (some (8, o)) :: st) (I, R, al) Q ↔ Zgo d 20 8 (L) (zq (R 8 o 0) :: st) (I, R, al) Q := zg_20_5
theorem zh_20_8 {o : Nat} : Zgo d 20 8 (L) (zq (some (1, o)) :: st) (I, R, al) Q ↔ Zgo d 20 11 (L) (zi (I 1 o 1) :: st) (I, R, al) Q := zg_20_8
theorem zh_20_11 {x y : Int} : Zgo d 20 11 (L) (zi y :: zi x :: st) (I, R, al) Q ↔ if zw x < zw y then Zgo d 20 14 (L) (st) (I, R, al) Q else Zgo d 20 30 (L) (st) (I, R, al) Q := zg_20_11
theorem zh_20_14 {x : Option (Nat × Nat)} : Zgo d 20 14 (some (zq x) :: L) (st) (I, R, al) Q ↔ Zgo d 20 15 (some (zq x) :: L) (zq x :: st) (I, R, al) Q := zg_20_14
theorem zh_20_15 {o : Nat} : Zgo d 20 15 (L) (zq (some (8, o)) :: st) (I, R, al) Q ↔ Zgo d 20 18 (L) (zq (R 8 o 0) :: st) (I, R, al) Q := zg_20_15
theorem zh_20_18 {o : Nat} : Zgo d 20 18 (L) (zq (some (1, o)) :: st) (I, R, al) Q ↔ Zgo d 20 21 (L) (zq (R 1 o 0) :: st) (I, R, al) Q := zg_20_18
theorem zh_20_21 {x : Option (Nat × Nat)} : Zgo d 20 21 (some (zq x) :: L) (st) (I, R, al) Q ↔ Zgo d 20 22 (some (zq x) :: L) (zq x :: st) (I, R, al) Q := zg_20_21
theorem zh_20_22 {o : Nat} : Zgo d 20 22 (L) (zq (some (8, o)) :: st) (I, R, al) Q ↔ Zgo d 20 25 (L) (zi (I 8 o 2) :: st) (I, R, al) Q := zg_20_22
theorem zh_20_25 {j : Int} {c o : Nat} : Zgo d 20 25 (L) (zi j :: zq (some (c, o)) :: st) (I, R, al) Q ↔ zal (zlen (I, R, al) c) 2 j (fun x => Zgo d 20 26 (L) (zi (I c o x) :: st) (I, R, al) Q) := zg_20_25
theorem zh_20_26 {x : Int} : Zgo d 20 26 (a0 :: some (zi x) :: L) (st) (I, R, al) Q ↔ Zgo d 20 27 (a0 :: some (zi x) :: L) (zi x :: st) (I, R, al) Q := zg_20_26
theorem zh_20_27 {x y : Int} : Zgo d 20 27 (L) (zi y :: zi x :: st) (I, R, al) Q ↔ if zw x = zw y then Zgo d 20 32 (L) (st) (I, R, al) Q else Zgo d 20 30 (L) (st) (I, R, al) Q := zg_20_27
theorem zh_20_30 : Zgo d 20 30 (L) (st) (I, R, al) Q ↔ Zgo d 20 31 (L) (zi 0 :: st) (I, R, al) Q := zg_20_30
theorem zh_20_31 {x : Int} : Zgo d 20 31 (L) (zi x :: []) (I, R, al) Q ↔ zok 1 x False (Q (some (zi x)) (I, R, al)) := zg_20_31
theorem zh_20_32 {x : Option (Nat × Nat)} : Zgo d 20 32 (some (zq x) :: L) (st) (I, R, al) Q ↔ Zgo d 20 33 (some (zq x) :: L) (zq x :: st) (I, R, al) Q := zg_20_32
theorem zh_20_33 {x : Int} : Zgo d 20 33 (L) (zi x :: st) (I, R, al) Q ↔ Zgo d 20 34 (L) (zi x :: zi x :: st) (I, R, al) Q := zg_20_33
theorem zh_20_33q {u : Option (Nat × Nat)} : Zgo d 20 33 (L) (zq u :: st) (I, R, al) Q ↔ Zgo d 20 34 (L) (zq u :: zq u :: st) (I, R, al) Q := zg_20_33
theorem zh_20_34 {o : Nat} : Zgo d 20 34 (L) (zq (some (8, o)) :: st) (I, R, al) Q ↔ Zgo d 20 37 (L) (zi (I 8 o 2) :: st) (I, R, al) Q := zg_20_34
theorem zh_20_37 : Zgo d 20 37 (L) (st) (I, R, al) Q ↔ Zgo d 20 38 (L) (zi 1 :: st) (I, R, al) Q := zg_20_37
theorem zh_20_38 {x y : Int} : Zgo d 20 38 (L) (zi y :: zi x :: st) (I, R, al) Q ↔ Zgo d 20 39 (L) (zi (x + y) :: st) (I, R, al) Q := zg_20_38
theorem zh_20_39 {o : Nat} {v : Int} : Zgo d 20 39 (L) (zi v :: zq (some (8, o)) :: st) (I, R, al) Q ↔ Zgo d 20 42 (L) (st) (zsI I 8 o 2 v, R, al) Q := zg_20_39
theorem zh_20_42 : Zgo d 20 42 (L) (st) (I, R, al) Q ↔ Zgo d 20 43 (L) (zi 1 :: st) (I, R, al) Q := zg_20_42
theorem zh_20_43 {x : Int} : Zgo d 20 43 (L) (zi x :: []) (I, R, al) Q ↔ zok 1 x False (Q (some (zi x)) (I, R, al)) := zg_20_43
theorem zh_21_0 {x : Option (Nat × Nat)} : Zgo d 21 0 (some (zq x) :: L) (st) (I, R, al) Q ↔ Zgo d 21 1 (some (zq x) :: L) (zq x :: st) (I, R, al) Q := zg_21_0
theorem zh_21_1 : Zgo d 21 1 (L) (st) (I, R, al) Q ↔ Zgo d 21 3 (L) (zi 112 :: st) (I, R, al) Q := zg_21_1
theorem zh_21_3 : Zgo d 21 3 (L) (st) (I, R, al) Q ↔ Zgo d 21 5 (L) (zi 114 :: st) (I, R, al) Q := zg_21_3
theorem zh_21_5 {v1 v2 : zV} {o : Nat} : Zgo d 21 5 (L) (v2 :: v1 :: zq (some (8, o)) :: st) (I, R, al) Q ↔ if zwt st ≤ 8 then zCp d 22 [zq (some (8, o)), v1, v2] (I, R, al) (fun r S2 => Zgo d 21 8 L (r.toList ++ st) S2 Q) else False := zg_21_5
theorem zh_21_8 {x : Int} : Zgo d 21 8 (a0 :: b0 :: L) (zi x :: st) (I, R, al) Q ↔ Zgo d 21 9 (zkl a0 :: some (zi x) :: L) (st) (I, R, al) Q := zg_21_8
theorem zh_21_9 {x : Int} : Zgo d 21 9 (a0 :: some (zi x) :: L) (st) (I, R, al) Q ↔ Zgo d 21 10 (a0 :: some (zi x) :: L) (zi x :: st) (I, R, al) Q := zg_21_9
theorem zh_21_10 : Zgo d 21 10 (L) (st) (I, R, al) Q ↔ Zgo d 21 11 (L) (zi (-1) :: st) (I, R, al) Q := zg_21_10
theorem zh_21_11 {x y : Int} : Zgo d 21 11 (L) (zi y :: zi x :: st) (I, R, al) Q ↔ if zw x = zw y then Zgo d 21 14 (L) (st) (I, R, al) Q else Zgo d 21 18 (L) (st) (I, R, al) Q := zg_21_11
theorem zh_21_14 : Zgo d 21 14 (L) (st) (I, R, al) Q ↔ Zgo d 21 15 (L) (zq none :: st) (I, R, al) Q := zg_21_14
theorem zh_21_15 : Zgo d 21 15 (L) (st) (I, R, al) Q ↔ Zgo d 21 26 (L) (st) (I, R, al) Q := zg_21_15
theorem zh_21_18 {x : Option (Nat × Nat)} : Zgo d 21 18 (some (zq x) :: L) (st) (I, R, al) Q ↔ Zgo d 21 19 (some (zq x) :: L) (zq x :: st) (I, R, al) Q := zg_21_18
theorem zh_21_19 {o : Nat} : Zgo d 21 19 (L) (zq (some (8, o)) :: st) (I, R, al) Q ↔ Zgo d 21 22 (L) (zq (R 8 o 1) :: st) (I, R, al) Q := zg_21_19
theorem zh_21_22 {x : Int} : Zgo d 21 22 (a0 :: some (zi x) :: L) (st) (I, R, al) Q ↔ Zgo d 21 23 (a0 :: some (zi x) :: L) (zi x :: st) (I, R, al) Q := zg_21_22
theorem zh_21_23 {v1 : zV} {o : Nat} : Zgo d 21 23 (L) (v1 :: zq (some (7, o)) :: st) (I, R, al) Q ↔ if zwt st ≤ 8 then zCp d 23 [zq (some (7, o)), v1] (I, R, al) (fun r S2 => Zgo d 21 26 L (r.toList ++ st) S2 Q) else False := zg_21_23
theorem zh_21_26 {x : Option (Nat × Nat)} : Zgo d 21 26 (a0 :: a1 :: b0 :: L) (zq x :: st) (I, R, al) Q ↔ Zgo d 21 27 (a0 :: zkl a1 :: some (zq x) :: L) (st) (I, R, al) Q := zg_21_26
theorem zh_21_27 {x : Option (Nat × Nat)} : Zgo d 21 27 (a0 :: a1 :: some (zq x) :: L) (st) (I, R, al) Q ↔ Zgo d 21 28 (a0 :: a1 :: some (zq x) :: L) (zq x :: st) (I, R, al) Q := zg_21_27
theorem zh_21_28n : Zgo d 21 28 (L) (zq none :: st) (I, R, al) Q ↔ Zgo d 21 31 (L) (st) (I, R, al) Q := zg_21_28
theorem zh_21_28 {q : Nat × Nat} : Zgo d 21 28 (L) (zq (some q) :: st) (I, R, al) Q ↔ Zgo d 21 33 (L) (st) (I, R, al) Q := zg_21_28
theorem zh_21_31 : Zgo d 21 31 (L) (st) (I, R, al) Q ↔ Zgo d 21 32 (L) (zi 0 :: st) (I, R, al) Q := zg_21_31
theorem zh_21_32 {x : Int} : Zgo d 21 32 (L) (zi x :: []) (I, R, al) Q ↔ zok 1 x False (Q (some (zi x)) (I, R, al)) := zg_21_32
theorem zh_21_33 {x : Option (Nat × Nat)} : Zgo d 21 33 (a0 :: a1 :: some (zq x) :: L) (st) (I, R, al) Q ↔ Zgo d 21 34 (a0 :: a1 :: some (zq x) :: L) (zq x :: st) (I, R, al) Q := zg_21_33
theorem zh_21_34 {x : Option (Nat × Nat)} : Zgo d 21 34 (some (zq x) :: L) (st) (I, R, al) Q ↔ Zgo d 21 35 (some (zq x) :: L) (zq x :: st) (I, R, al) Q := zg_21_34
theorem zh_21_35 {o : Nat} : Zgo d 21 35 (L) (zq (some (8, o)) :: st) (I, R, al) Q ↔ if zwt st ≤ 8 then zCp d 24 [zq (some (8, o))] (I, R, al) (fun r S2 => Zgo d 21 38 L (r.toList ++ st) S2 Q) else False := zg_21_35
theorem zh_21_38 {o : Nat} {v : Int} : Zgo d 21 38 (L) (zi v :: zq (some (2, o)) :: st) (I, R, al) Q ↔ Zgo d 21 41 (L) (st) (zsI I 2 o 1 v, R, al) Q := zg_21_38
theorem zh_21_41 {x : Option (Nat × Nat)} : Zgo d 21 41 (some (zq x) :: L) (st) (I, R, al) Q ↔ Zgo d 21 42 (some (zq x) :: L) (zq x :: st) (I, R, al) Q := zg_21_41
theorem zh_21_42 {x : Option (Nat × Nat)} : Zgo d 21 42 (a0 :: a1 :: some (zq x) :: L) (st) (I, R, al) Q ↔ Zgo d 21 43 (a0 :: a1 :: some (zq x) :: L) (zq x :: st) (I, R, al) Q := zg_21_42
theorem zh_21_43 {v1 : zV} {o : Nat} : Zgo d 21 43 (L) (v1 :: zq (some (8, o)) :: st) (I, R, al) Q ↔ if zwt st ≤ 8 then zCp d 25 [zq (some (8, o)), v1] (I, R, al) (fun r S2 => Zgo d 21 46 L (r.toList ++ st) S2 Q) else False := zg_21_43
theorem zh_21_46 {x : Int} : Zgo d 21 46 (L) (zi x :: []) (I, R, al) Q ↔ zok 1 x False (Q (some (zi x)) (I, R, al)) := zg_21_46
theorem zh_22_0 {x : Option (Nat × Nat)} : Zgo d 22 0 (some (zq x) :: L) (st) (I, R, al) Q ↔ Zgo d 22 1 (some (zq x) :: L) (zq x :: st) (I, R, al) Q := zg_22_0
theorem zh_22_1 {o : Nat} : Zgo d 22 1 (L) (zq (some (8, o)) :: st) (I, R, al) Q ↔ Zgo d 22 4 (L) (zi (I 8 o 2) :: st) (I, R, al) Q := zg_22_1
theorem zh_22_4 {x : Option (Nat × Nat)} : Zgo d 22 4 (some (zq x) :: L) (st) (I, R, al) Q ↔ Zgo d 22 5 (some (zq x) :: L) (zq x :: st) (I, R, al) Q := zg_22_4
theorem zh_22_5 {o : Nat} : Zgo d 22 5 (L) (zq (some (8, o)) :: st) (I, R, al) Q ↔ Zgo d 22 8 (L) (zq (R 8 o 0) :: st) (I, R, al) Q := zg_22_5
theorem zh_22_8 {o : Nat} : Zgo d 22 8 (L) (zq (some (1, o)) :: st) (I, R, al) Q ↔ Zgo d 22 11 (L) (zi (I 1 o 1) :: st) (I, R, al) Q := zg_22_8
theorem zh_22_11 {x y : Int} : Zgo d 22 11 (L) (zi y :: zi x :: st) (I, R, al) Q ↔ if zw x < zw y then Zgo d 22 14 (L) (st) (I, R, al) Q else Zgo d 22 46 (L) (st) (I, R, al) Q := zg_22_11
theorem zh_22_14 {x : Option (Nat × Nat)} : Zgo d 22 14 (some (zq x) :: L) (st) (I, R, al) Q ↔ Zgo d 22 15 (some (zq x) :: L) (zq x :: st) (I, R, al) Q := zg_22_14
theorem zh_22_15 {o : Nat} : Zgo d 22 15 (L) (zq (some (8, o)) :: st) (I, R, al) Q ↔ Zgo d 22 18 (L) (zq (R 8 o 0) :: st) (I, R, al) Q := zg_22_15
theorem zh_22_18 {o : Nat} : Zgo d 22 18 (L) (zq (some (1, o)) :: st) (I, R, al) Q ↔ Zgo d 22 21 (L) (zq (R 1 o 0) :: st) (I, R, al) Q := zg_22_18
theorem zh_22_21 {x : Option (Nat × Nat)} : Zgo d 22 21 (some (zq x) :: L) (st) (I, R, al) Q ↔ Zgo d 22 22 (some (zq x) :: L) (zq x :: st) (I, R, al) Q := zg_22_21
theorem zh_22_22 {o : Nat} : Zgo d 22 22 (L) (zq (some (8, o)) :: st) (I, R, al) Q ↔ Zgo d 22 25 (L) (zi (I 8 o 2) :: st) (I, R, al) Q := zg_22_22
theorem zh_22_25 {j : Int} {c o : Nat} : Zgo d 22 25 (L) (zi j :: zq (some (c, o)) :: st) (I, R, al) Q ↔ zal (zlen (I, R, al) c) 2 j (fun x => Zgo d 22 26 (L) (zi (I c o x) :: st) (I, R, al) Q) := zg_22_25
theorem zh_22_26 {x : Int} : Zgo d 22 26 (a0 :: some (zi x) :: L) (st) (I, R, al) Q ↔ Zgo d 22 27 (a0 :: some (zi x) :: L) (zi x :: st) (I, R, al) Q := zg_22_26
theorem zh_22_27 {x y : Int} : Zgo d 22 27 (L) (zi y :: zi x :: st) (I, R, al) Q ↔ if zw x < zw y then Zgo d 22 46 (L) (st) (I, R, al) Q else Zgo d 22 30 (L) (st) (I, R, al) Q := zg_22_27
theorem zh_22_30 {x : Option (Nat × Nat)} : Zgo d 22 30 (some (zq x) :: L) (st) (I, R, al) Q ↔ Zgo d 22 31 (some (zq x) :: L) (zq x :: st) (I, R, al) Q := zg_22_30
theorem zh_22_31 {o : Nat} : Zgo d 22 31 (L) (zq (some (8, o)) :: st) (I, R, al) Q ↔ Zgo d 22 34 (L) (zq (R 8 o 0) :: st) (I, R, al) Q := zg_22_31
theorem zh_22_34 {o : Nat} : Zgo d 22 34 (L) (zq (some (1, o)) :: st) (I, R, al) Q ↔ Zgo d 22 37 (L) (zq (R 1 o 0) :: st) (I, R, al) Q := zg_22_34
theorem zh_22_37 {x : Option (Nat × Nat)} : Zgo d 22 37 (some (zq x) :: L) (st) (I, R, al) Q ↔ Zgo d 22 38 (some (zq x) :: L) (zq x :: st) (I, R, al) Q := zg_22_37
theorem zh_22_38 {o : Nat} : Zgo d 22 38 (L) (zq (some (8, o)) :: st) (I, R, al) Q ↔ Zgo d 22 41 (L) (zi (I 8 o 2) :: st) (I, R, al) Q := zg_22_38
theorem zh_22_41 {j : Int} {c o : Nat} : Zgo d 22 41 (L) (zi j :: zq (some (c, o)) :: st) (I, R, al) Q ↔ zal (zlen (I, R, al) c) 2 j (fun x => Zgo d 22 42 (L) (zi (I c o x) :: st) (I, R, al) Q) := zg_22_41
theorem zh_22_42 {x : Int} : Zgo d 22 42 (a0 :: a1 :: some (zi x) :: L) (st) (I, R, al) Q ↔ Zgo d 22 43 (a0 :: a1 :: some (zi x) :: L) (zi x :: st) (I, R, al) Q := zg_22_42
theorem zh_22_43 {x y : Int} : Zgo d 22 43 (L) (zi y :: zi x :: st) (I, R, al) Q ↔ if zw y < zw x then Zgo d 22 46 (L) (st) (I, R, al) Q else Zgo d 22 48 (L) (st) (I, R, al) Q := zg_22_43
theorem zh_22_46 : Zgo d 22 46 (L) (st) (I, R, al) Q ↔ Zgo d 22 47 (L) (zi (-1) :: st) (I, R, al) Q := zg_22_46
theorem zh_22_47 {x : Int} : Zgo d 22 47 (L) (zi x :: []) (I, R, al) Q ↔ Q (some (zi x)) (I, R, al) := zg_22_47
theorem zh_22_48 {x : Option (Nat × Nat)} : Zgo d 22 48 (some (zq x) :: L) (st) (I, R, al) Q ↔ Zgo d 22 49 (some (zq x) :: L) (zq x :: st) (I, R, al) Q := zg_22_48
theorem zh_22_49 {o : Nat} : Zgo d 22 49 (L) (zq (some (8, o)) :: st) (I, R, al) Q ↔ Zgo d 22 52 (L) (zq (R 8 o 0) :: st) (I, R, al) Q := zg_22_49
theorem zh_22_52 {o : Nat} : Zgo d 22 52 (L) (zq (some (1, o)) :: st) (I, R, al) Q ↔ Zgo d 22 55 (L) (zq (R 1 o 0) :: st) (I, R, al) Q := zg_22_52
theorem zh_22_55 {x : Option (Nat × Nat)} : Zgo d 22 55 (some (zq x) :: L) (st) (I, R, al) Q ↔ Zgo d 22 56 (some (zq x) :: L) (zq x :: st) (I, R, al) Q := zg_22_55
theorem zh_22_56 {x : Int} : Zgo d 22 56 (L) (zi x :: st) (I, R, al) Q ↔ Zgo d 22 57 (L) (zi x :: zi x :: st) (I, R, al) Q := zg_22_56
theorem zh_22_56q {u : Option (Nat × Nat)} : Zgo d 22 56 (L) (zq u :: st) (I, R, al) Q ↔ Zgo d 22 57 (L) (zq u :: zq u :: st) (I, R, al) Q := zg_22_56
theorem zh_22_57 {o : Nat} : Zgo d 22 57 (L) (zq (some (8, o)) :: st) (I, R, al) Q ↔ Zgo d 22 60 (L) (zi (I 8 o 2) :: st) (I, R, al) Q := zg_22_57
theorem zh_22_60 {x : Int} {z : Int} : Zgo d 22 60 (L) (zi x :: zi z :: st) (I, R, al) Q ↔ Zgo d 22 61 (L) (zi x :: zi z :: zi x :: st) (I, R, al) Q := zg_22_60
theorem zh_22_60r {x : Int} {w : Option (Nat × Nat)} : Zgo d 22 60 (L) (zi x :: zq w :: st) (I, R, al) Q ↔ Zgo d 22 61 (L) (zi x :: zq w :: zi x :: st) (I, R, al) Q := zg_22_60
theorem zh_22_60qi {u : Option (Nat × Nat)} {z : Int} : Zgo d 22 60 (L) (zq u :: zi z :: st) (I, R, al) Q ↔ Zgo d 22 61 (L) (zq u :: zi z :: zq u :: st) (I, R, al) Q := zg_22_60
theorem zh_22_60qr {u : Option (Nat × Nat)} {w : Option (Nat × Nat)} : Zgo d 22 60 (L) (zq u :: zq w :: st) (I, R, al) Q ↔ Zgo d 22 61 (L) (zq u :: zq w :: zq u :: st) (I, R, al) Q := zg_22_60
theorem zh_22_61 : Zgo d 22 61 (L) (st) (I, R, al) Q ↔ Zgo d 22 62 (L) (zi 1 :: st) (I, R, al) Q := zg_22_61
theorem zh_22_62 {x y : Int} : Zgo d 22 62 (L) (zi y :: zi x :: st) (I, R, al) Q ↔ Zgo d 22 63 (L) (zi (x + y) :: st) (I, R, al) Q := zg_22_62
theorem zh_22_63 {o : Nat} {v : Int} : Zgo d 22 63 (L) (zi v :: zq (some (8, o)) :: st) (I, R, al) Q ↔ Zgo d 22 66 (L) (st) (zsI I 8 o 2 v, R, al) Q := zg_22_63
theorem zh_22_66 {j : Int} {c o : Nat} : Zgo d 22 66 (L) (zi j :: zq (some (c, o)) :: st) (I, R, al) Q ↔ zal (zlen (I, R, al) c) 2 j (fun x => Zgo d 22 67 (L) (zi (I c o x) :: st) (I, R, al) Q) := zg_22_66
theorem zh_22_67 {x : Int} : Zgo d 22 67 (a0 :: some (zi x) :: L) (st) (I, R, al) Q ↔ Zgo d 22 68 (a0 :: some (zi x) :: L) (zi x :: st) (I, R, al) Q := zg_22_67
theorem zh_22_68 {x y : Int} : Zgo d 22 68 (L) (zi y :: zi x :: st) (I, R, al) Q ↔ Zgo d 22 69 (L) (zi (x - y) :: st) (I, R, al) Q := zg_22_68
theorem zh_22_69 {x : Int} : Zgo d 22 69 (L) (zi x :: []) (I, R, al) Q ↔ Q (some (zi x)) (I, R, al) := zg_22_69
theorem zh_23_0 {x : Option (Nat × Nat)} : Zgo d 23 0 (some (zq x) :: L) (st) (I, R, al) Q ↔ Zgo d 23 1 (some (zq x) :: L) (zq x :: st) (I, R, al) Q := zg_23_0
theorem zh_23_1 {o : Nat} : Zgo d 23 1 (L) (zq (some (7, o)) :: st) (I, R, al) Q ↔ Zgo d 23 4 (L) (zi (I 7 o 4) :: st) (I, R, al) Q := zg_23_1
theorem zh_23_4 : Zgo d 23 4 (L) (st) (I, R, al) Q ↔ Zgo d 23 5 (L) (zi 3 :: st) (I, R, al) Q := zg_23_4
theorem zh_23_5 {x y : Int} : Zgo d 23 5 (L) (zi y :: zi x :: st) (I, R, al) Q ↔ if zw x = zw y then Zgo d 23 8 (L) (st) (I, R, al) Q else Zgo d 23 10 (L) (st) (I, R, al) Q := zg_23_5
theorem zh_23_8 : Zgo d 23 8 (L) (st) (I, R, al) Q ↔ Zgo d 23 9 (L) (zq none :: st) (I, R, al) Q := zg_23_8
theorem zh_23_9 {x : Option (Nat × Nat)} : Zgo d 23 9 (L) (zq x :: []) (I, R, al) Q ↔ Q (some (zq x)) (I, R, al) := zg_23_9
theorem zh_23_10 {x : Option (Nat × Nat)} : Zgo d 23 10 (some (zq x) :: L) (st) (I, R, al) Q ↔ Zgo d 23 11 (some (zq x) :: L) (zq x :: st) (I, R, al) Q := zg_23_10
theorem zh_23_11 {o : Nat} : Zgo d 23 11 (L) (zq (some (7, o)) :: st) (I, R, al) Q ↔ Zgo d 23 14 (L) (zq (R 7 o 0) :: st) (I, R, al) Q := zg_23_11
theorem zh_23_14 {x : Option (Nat × Nat)} : Zgo d 23 14 (some (zq x) :: L) (st) (I, R, al) Q ↔ Zgo d 23 15 (some (zq x) :: L) (zq x :: st) (I, R, al) Q := zg_23_14
theorem zh_23_15 {x : Int} : Zgo d 23 15 (L) (zi x :: st) (I, R, al) Q ↔ Zgo d 23 16 (L) (zi x :: zi x :: st) (I, R, al) Q := zg_23_15
theorem zh_23_15q {u : Option (Nat × Nat)} : Zgo d 23 15 (L) (zq u :: st) (I, R, al) Q ↔ Zgo d 23 16 (L) (zq u :: zq u :: st) (I, R, al) Q := zg_23_15
theorem zh_23_16 {o : Nat} : Zgo d 23 16 (L) (zq (some (7, o)) :: st) (I, R, al) Q ↔ Zgo d 23 19 (L) (zi (I 7 o 4) :: st) (I, R, al) Q := zg_23_16
theorem zh_23_19 {x : Int} {z : Int} : Zgo d 23 19 (L) (zi x :: zi z :: st) (I, R, al) Q ↔ Zgo d 23 20 (L) (zi x :: zi z :: zi x :: st) (I, R, al) Q := zg_23_19
theorem zh_23_19r {x : Int} {w : Option (Nat × Nat)} : Zgo d 23 19 (L) (zi x :: zq w :: st) (I, R, al) Q ↔ Zgo d 23 20 (L) (zi x :: zq w :: zi x :: st) (I, R, al) Q := zg_23_19
theorem zh_23_19qi {u : Option (Nat × Nat)} {z : Int} : Zgo d 23 19 (L) (zq u :: zi z :: st) (I, R, al) Q ↔ Zgo d 23 20 (L) (zq u :: zi z :: zq u :: st) (I, R, al) Q := zg_23_19
theorem zh_23_19qr {u : Option (Nat × Nat)} {w : Option (Nat × Nat)} : Zgo d 23 19 (L) (zq u :: zq w :: st) (I, R, al) Q ↔ Zgo d 23 20 (L) (zq u :: zq w :: zq u :: st) (I, R, al) Q := zg_23_19
theorem zh_23_20 : Zgo d 23 20 (L) (st) (I, R, al) Q ↔ Zgo d 23 21 (L) (zi 1 :: st) (I, R, al) Q := zg_23_20
theorem zh_23_21 {x y : Int} : Zgo d 23 21 (L) (zi y :: zi x :: st) (I, R, al) Q ↔ Zgo d 23 22 (L) (zi (x + y) :: st) (I, R, al) Q := zg_23_21
theorem zh_23_22 {o : Nat} {v : Int} : Zgo d 23 22 (L) (zi v :: zq (some (7, o)) :: st) (I, R, al) Q ↔ Zgo d 23 25 (L) (st) (zsI I 7 o 4 v, R, al) Q := zg_23_22
theorem zh_23_25 {j : Int} {c o : Nat} : Zgo d 23 25 (L) (zi j :: zq (some (c, o)) :: st) (I, R, al) Q ↔ zal (zlen (I, R, al) c) 3 j (fun x => Zgo d 23 26 (L) (zq (R c o x) :: st) (I, R, al) Q) := zg_23_25
theorem zh_23_26 {x : Option (Nat × Nat)} : Zgo d 23 26 (a0 :: a1 :: b0 :: L) (zq x :: st) (I, R, al) Q ↔ Zgo d 23 27 (a0 :: zkl a1 :: some (zq x) :: L) (st) (I, R, al) Q := zg_23_26
theorem zh_23_27 {x : Option (Nat × Nat)} : Zgo d 23 27 (a0 :: a1 :: some (zq x) :: L) (st) (I, R, al) Q ↔ Zgo d 23 28 (a0 :: a1 :: some (zq x) :: L) (zq x :: st) (I, R, al) Q := zg_23_27
theorem zh_23_28 {x : Int} : Zgo d 23 28 (a0 :: some (zi x) :: L) (st) (I, R, al) Q ↔ Zgo d 23 29 (a0 :: some (zi x) :: L) (zi x :: st) (I, R, al) Q := zg_23_28
theorem zh_23_29 {o : Nat} {v : Int} : Zgo d 23 29 (L) (zi v :: zq (some (2, o)) :: st) (I, R, al) Q ↔ Zgo d 23 32 (L) (st) (zsI I 2 o 0 v, R, al) Q := zg_23_29
theorem zh_23_32 {x : Option (Nat × Nat)} : Zgo d 23 32 (a0 :: a1 :: some (zq x) :: L) (st) (I, R, al) Q ↔ Zgo d 23 33 (a0 :: a1 :: some (zq x) :: L) (zq x :: st) (I, R, al) Q := zg_23_32
theorem zh_23_33 {x : Option (Nat × Nat)} : Zgo d 23 33 (L) (zq x :: []) (I, R, al) Q ↔ Q (some (zq x)) (I, R, al) := zg_23_33
theorem zh_24_0 : Zgo d 24 0 (L) (st) (I, R, al) Q ↔ Zgo d 24 1 (L) (zi 0 :: st) (I, R, al) Q := zg_24_0
theorem zh_24_1 {x : Int} : Zgo d 24 1 (a0 :: b0 :: L) (zi x :: st) (I, R, al) Q ↔ Zgo d 24 2 (zkl a0 :: some (zi x) :: L) (st) (I, R, al) Q := zg_24_1
theorem zh_24_2 : Zgo d 24 2 (L) (st) (I, R, al) Q ↔ Zgo d 24 3 (L) (zi 0 :: st) (I, R, al) Q := zg_24_2
theorem zh_24_3 {x : Int} : Zgo d 24 3 (a0 :: a1 :: b0 :: L) (zi x :: st) (I, R, al) Q ↔ Zgo d 24 4 (a0 :: zkl a1 :: some (zi x) :: L) (st) (I, R, al) Q := zg_24_3
theorem zh_24_4 {x : Int} : Zgo d 24 4 (a0 :: a1 :: some (zi x) :: L) (st) (I, R, al) Q ↔ Zgo d 24 5 (a0 :: a1 :: some (zi x) :: L) (zi x :: st) (I, R, al) Q := zg_24_4
theorem zh_24_5 : Zgo d 24 5 (L) (st) (I, R, al) Q ↔ Zgo d 24 6 (L) (zi 5 :: st) (I, R, al) Q := zg_24_5
theorem zh_24_6 {x y : Int} : Zgo d 24 6 (L) (zi y :: zi x :: st) (I, R, al) Q ↔ if zw x < zw y then Zgo d 24 9 (L) (st) (I, R, al) Q else Zgo d 24 33 (L) (st) (I, R, al) Q := zg_24_6
theorem zh_24_9 {x : Option (Nat × Nat)} : Zgo d 24 9 (some (zq x) :: L) (st) (I, R, al) Q ↔ Zgo d 24 10 (some (zq x) :: L) (zq x :: st) (I, R, al) Q := zg_24_9
theorem zh_24_10 : Zgo d 24 10 (L) (st) (I, R, al) Q ↔ Zgo d 24 12 (L) (zi 48 :: st) (I, R, al) Q := zg_24_10
theorem zh_24_12 {x : Int} : Zgo d 24 12 (a0 :: a1 :: some (zi x) :: L) (st) (I, R, al) Q ↔ Zgo d 24 13 (a0 :: a1 :: some (zi x) :: L) (zi x :: st) (I, R, al) Q := zg_24_12
theorem zh_24_13 {x y : Int} : Zgo d 24 13 (L) (zi y :: zi x :: st) (I, R, al) Q ↔ Zgo d 24 14 (L) (zi (x + y) :: st) (I, R, al) Q := zg_24_13
theorem zh_24_14 {x : Int} : Zgo d 24 14 (L) (zi x :: st) (I, R, al) Q ↔ Zgo d 24 15 (L) (zi (x % 65536) :: st) (I, R, al) Q := zg_24_14
theorem zh_24_15 {v1 : zV} {o : Nat} : Zgo d 24 15 (L) (v1 :: zq (some (8, o)) :: st) (I, R, al) Q ↔ if zwt st ≤ 8 then zCp d 20 [zq (some (8, o)), v1] (I, R, al) (fun r S2 => Zgo d 24 18 L (r.toList ++ st) S2 Q) else False := zg_24_15
theorem zh_24_18 {x : Int} : Zgo d 24 18 (L) (zi x :: st) (I, R, al) Q ↔ if zw x = zw 0 then Zgo d 24 27 (L) (st) (I, R, al) Q else Zgo d 24 21 (L) (st) (I, R, al) Q := zg_24_18
theorem zh_24_21 {x : Int} : Zgo d 24 21 (a0 :: some (zi x) :: L) (st) (I, R, al) Q ↔ Zgo d 24 22 (a0 :: some (zi x) :: L) (zi x :: st) (I, R, al) Q := zg_24_21
theorem zh_24_22 : Zgo d 24 22 (L) (st) (I, R, al) Q ↔ Zgo d 24 23 (L) (zi 1 :: st) (I, R, al) Q := zg_24_22
theorem zh_24_23 {x : Int} : Zgo d 24 23 (a0 :: a1 :: some (zi x) :: L) (st) (I, R, al) Q ↔ Zgo d 24 24 (a0 :: a1 :: some (zi x) :: L) (zi x :: st) (I, R, al) Q := zg_24_23
theorem zh_24_24 {x y : Int} : Zgo d 24 24 (L) (zi y :: zi x :: st) (I, R, al) Q ↔ Zgo d 24 25 (L) (zi (zshl x y) :: st) (I, R, al) Q := zg_24_24
theorem zh_24_25 {x y : Int} : Zgo d 24 25 (L) (zi y :: zi x :: st) (I, R, al) Q ↔ Zgo d 24 26 (L) (zi (zor x y) :: st) (I, R, al) Q := zg_24_25
theorem zh_24_26 {x : Int} : Zgo d 24 26 (a0 :: b0 :: L) (zi x :: st) (I, R, al) Q ↔ Zgo d 24 27 (zkl a0 :: some (zi x) :: L) (st) (I, R, al) Q := zg_24_26
theorem zh_24_27 {x : Int} : Zgo d 24 27 (a0 :: a1 :: some (zi x) :: L) (st) (I, R, al) Q ↔ Zgo d 24 30 (a0 :: zkl a1 :: some (zi (x + 1)) :: L) (st) (I, R, al) Q := zg_24_27
theorem zh_24_30 : Zgo d 24 30 (L) (st) (I, R, al) Q ↔ Zgo d 24 4 (L) (st) (I, R, al) Q := zg_24_30
theorem zh_24_33 {x : Int} : Zgo d 24 33 (a0 :: some (zi x) :: L) (st) (I, R, al) Q ↔ Zgo d 24 34 (a0 :: some (zi x) :: L) (zi x :: st) (I, R, al) Q := zg_24_33
theorem zh_24_34 {x : Int} : Zgo d 24 34 (L) (zi x :: []) (I, R, al) Q ↔ Q (some (zi x)) (I, R, al) := zg_24_34
theorem zh_25_0 {x : Option (Nat × Nat)} : Zgo d 25 0 (a0 :: some (zq x) :: L) (st) (I, R, al) Q ↔ Zgo d 25 1 (a0 :: some (zq x) :: L) (zq x :: st) (I, R, al) Q := zg_25_0
theorem zh_25_1 {x : Option (Nat × Nat)} : Zgo d 25 1 (some (zq x) :: L) (st) (I, R, al) Q ↔ Zgo d 25 2 (some (zq x) :: L) (zq x :: st) (I, R, al) Q := zg_25_1
theorem zh_25_2 : Zgo d 25 2 (L) (st) (I, R, al) Q ↔ Zgo d 25 3 (L) (zi 1 :: st) (I, R, al) Q := zg_25_2
theorem zh_25_3 : Zgo d 25 3 (L) (st) (I, R, al) Q ↔ Zgo d 25 4 (L) (zi 0 :: st) (I, R, al) Q := zg_25_3
theorem zh_25_4 : Zgo d 25 4 (L) (st) (I, R, al) Q ↔ Zgo d 25 5 (L) (zi (-1) :: st) (I, R, al) Q := zg_25_4
theorem zh_25_5 {v1 v2 v3 : zV} {o : Nat} : Zgo d 25 5 (L) (v3 :: v2 :: v1 :: zq (some (8, o)) :: st) (I, R, al) Q ↔ if zwt st ≤ 8 then zCp d 26 [zq (some (8, o)), v1, v2, v3] (I, R, al) (fun r S2 => Zgo d 25 8 L (r.toList ++ st) S2 Q) else False := zg_25_5
theorem zh_25_8 {o : Nat} {v : Option (Nat × Nat)} : Zgo d 25 8 (L) (zq v :: zq (some (2, o)) :: st) (I, R, al) Q ↔ Zgo d 25 11 (L) (st) (I, zsR R 2 o 3 v, al) Q := zg_25_8
theorem zh_25_11 {x : Option (Nat × Nat)} : Zgo d 25 11 (a0 :: some (zq x) :: L) (st) (I, R, al) Q ↔ Zgo d 25 12 (a0 :: some (zq x) :: L) (zq x :: st) (I, R, al) Q := zg_25_11
theorem zh_25_12 {o : Nat} : Zgo d 25 12 (L) (zq (some (2, o)) :: st) (I, R, al) Q ↔ Zgo d 25 15 (L) (zq (R 2 o 3) :: st) (I, R, al) Q := zg_25_12
theorem zh_25_15n : Zgo d 25 15 (L) (zq none :: st) (I, R, al) Q ↔ Zgo d 25 22 (L) (st) (I, R, al) Q := zg_25_15
theorem zh_25_15 {q : Nat × Nat} : Zgo d 25 15 (L) (zq (some q) :: st) (I, R, al) Q ↔ Zgo d 25 18 (L) (st) (I, R, al) Q := zg_25_15
theorem zh_25_18 : Zgo d 25 18 (L) (st) (I, R, al) Q ↔ Zgo d 25 19 (L) (zi 1 :: st) (I, R, al) Q := zg_25_18
theorem zh_25_19 : Zgo d 25 19 (L) (st) (I, R, al) Q ↔ Zgo d 25 23 (L) (st) (I, R, al) Q := zg_25_19
theorem zh_25_22 : Zgo d 25 22 (L) (st) (I, R, al) Q ↔ Zgo d 25 23 (L) (zi 0 :: st) (I, R, al) Q := zg_25_22
theorem zh_25_23 {x : Int} : Zgo d 25 23 (L) (zi x :: []) (I, R, al) Q ↔ zok 1 x False (Q (some (zi x)) (I, R, al)) := zg_25_23
theorem zh_26_0 {x : Int} : Zgo d 26 0 (a0 :: some (zi x) :: L) (st) (I, R, al) Q ↔ Zgo d 26 1 (a0 :: some (zi x) :: L) (zi x :: st) (I, R, al) Q := zg_26_0
theorem zh_26_1 : Zgo d 26 1 (L) (st) (I, R, al) Q ↔ Zgo d 26 2 (L) (zi 4 :: st) (I, R, al) Q := zg_26_1
theorem zh_26_2 {x y : Int} : Zgo d 26 2 (L) (zi y :: zi x :: st) (I, R, al) Q ↔ if zw y < zw x then Zgo d 26 14 (L) (st) (I, R, al) Q else Zgo d 26 5 (L) (st) (I, R, al) Q := zg_26_2
theorem zh_26_5 {x : Option (Nat × Nat)} : Zgo d 26 5 (some (zq x) :: L) (st) (I, R, al) Q ↔ Zgo d 26 6 (some (zq x) :: L) (zq x :: st) (I, R, al) Q := zg_26_5
theorem zh_26_6 : Zgo d 26 6 (L) (st) (I, R, al) Q ↔ Zgo d 26 8 (L) (zi 123 :: st) (I, R, al) Q := zg_26_6
theorem zh_26_8 {v1 : zV} {o : Nat} : Zgo d 26 8 (L) (v1 :: zq (some (8, o)) :: st) (I, R, al) Q ↔ if zwt st ≤ 8 then zCp d 20 [zq (some (8, o)), v1] (I, R, al) (fun r S2 => Zgo d 26 11 L (r.toList ++ st) S2 Q) else False := zg_26_8
theorem zh_26_11 {x : Int} : Zgo d 26 11 (L) (zi x :: st) (I, R, al) Q ↔ if zw x = zw 0 then Zgo d 26 14 (L) (st) (I, R, al) Q else Zgo d 26 16 (L) (st) (I, R, al) Q := zg_26_11
theorem zh_26_14 : Zgo d 26 14 (L) (st) (I, R, al) Q ↔ Zgo d 26 15 (L) (zq none :: st) (I, R, al) Q := zg_26_14
theorem zh_26_15 {x : Option (Nat × Nat)} : Zgo d 26 15 (L) (zq x :: []) (I, R, al) Q ↔ Q (some (zq x)) (I, R, al) := zg_26_15
theorem zh_26_16 {x : Option (Nat × Nat)} : Zgo d 26 16 (some (zq x) :: L) (st) (I, R, al) Q ↔ Zgo d 26 17 (some (zq x) :: L) (zq x :: st) (I, R, al) Q := zg_26_16
theorem zh_26_17 {o : Nat} : Zgo d 26 17 (L) (zq (some (8, o)) :: st) (I, R, al) Q ↔ Zgo d 26 20 (L) (zq (R 8 o 1) :: st) (I, R, al) Q := zg_26_17
theorem zh_26_20 {x : Int} : Zgo d 26 20 (a0 :: some (zi x) :: L) (st) (I, R, al) Q ↔ Zgo d 26 21 (a0 :: some (zi x) :: L) (zi x :: st) (I, R, al) Q := zg_26_20
theorem zh_26_21 {x : Int} : Zgo d 26 21 (a0 :: a1 :: some (zi x) :: L) (st) (I, R, al) Q ↔ Zgo d 26 22 (a0 :: a1 :: some (zi x) :: L) (zi x :: st) (I, R, al) Q := zg_26_21
theorem zh_26_22 {x : Int} : Zgo d 26 22 (a0 :: a1 :: a2 :: some (zi x) :: L) (st) (I, R, al) Q ↔ Zgo d 26 23 (a0 :: a1 :: a2 :: some (zi x) :: L) (zi x :: st) (I, R, al) Q := zg_26_22
theorem zh_26_23 {v1 v2 v3 : zV} {o : Nat} : Zgo d 26 23 (L) (v3 :: v2 :: v1 :: zq (some (7, o)) :: st) (I, R, al) Q ↔ if zwt st ≤ 8 then zCp d 27 [zq (some (7, o)), v1, v2, v3] (I, R, al) (fun r S2 => Zgo d 26 26 L (r.toList ++ st) S2 Q) else False := zg_26_23
theorem zh_26_26 {x : Option (Nat × Nat)} : Zgo d 26 26 (a0 :: a1 :: a2 :: a3 :: b0 :: L) (zq x :: st) (I, R, al) Q ↔ Zgo d 26 28 (a0 :: a1 :: a2 :: zkl a3 :: some (zq x) :: L) (st) (I, R, al) Q := zg_26_26
theorem zh_26_28 {x : Option (Nat × Nat)} : Zgo d 26 28 (a0 :: a1 :: a2 :: a3 :: some (zq x) :: L) (st) (I, R, al) Q ↔ Zgo d 26 30 (a0 :: a1 :: a2 :: a3 :: some (zq x) :: L) (zq x :: st) (I, R, al) Q := zg_26_28
theorem zh_26_30n : Zgo d 26 30 (L) (zq none :: st) (I, R, al) Q ↔ Zgo d 26 33 (L) (st) (I, R, al) Q := zg_26_30
theorem zh_26_30 {q : Nat × Nat} : Zgo d 26 30 (L) (zq (some q) :: st) (I, R, al) Q ↔ Zgo d 26 35 (L) (st) (I, R, al) Q := zg_26_30
theorem zh_26_33 : Zgo d 26 33 (L) (st) (I, R, al) Q ↔ Zgo d 26 34 (L) (zq none :: st) (I, R, al) Q := zg_26_33
theorem zh_26_34 {x : Option (Nat × Nat)} : Zgo d 26 34 (L) (zq x :: []) (I, R, al) Q ↔ Q (some (zq x)) (I, R, al) := zg_26_34
theorem zh_26_35 : Zgo d 26 35 (L) (st) (I, R, al) Q ↔ Zgo d 26 36 (L) (zi 0 :: st) (I, R, al) Q := zg_26_35
theorem zh_26_36 {x : Int} : Zgo d 26 36 (a0 :: a1 :: a2 :: a3 :: a4 :: b0 :: L) (zi x :: st) (I, R, al) Q ↔ Zgo d 26 38 (a0 :: a1 :: a2 :: a3 :: zkl a4 :: some (zi x) :: L) (st) (I, R, al) Q := zg_26_36
theorem zh_26_38 {x : Int} : Zgo d 26 38 (a0 :: a1 :: a2 :: a3 :: a4 :: some (zi x) :: L) (st) (I, R, al) Q ↔ Zgo d 26 40 (a0 :: a1 :: a2 :: a3 :: a4 :: some (zi x) :: L) (zi x :: st) (I, R, al) Q := zg_26_38
theorem zh_26_40 : Zgo d 26 40 (L) (st) (I, R, al) Q ↔ Zgo d 26 42 (L) (zi 80 :: st) (I, R, al) Q := zg_26_40
theorem zh_26_42 {x y : Int} : Zgo d 26 42 (L) (zi y :: zi x :: st) (I, R, al) Q ↔ if zw y < zw x then Zgo d 26 74 (L) (st) (I, R, al) Q else Zgo d 26 45 (L) (st) (I, R, al) Q := zg_26_42
theorem zh_26_45 {x : Option (Nat × Nat)} : Zgo d 26 45 (some (zq x) :: L) (st) (I, R, al) Q ↔ Zgo d 26 46 (some (zq x) :: L) (zq x :: st) (I, R, al) Q := zg_26_45
theorem zh_26_46 : Zgo d 26 46 (L) (st) (I, R, al) Q ↔ Zgo d 26 48 (L) (zi 125 :: st) (I, R, al) Q := zg_26_46
theorem zh_26_48 {v1 : zV} {o : Nat} : Zgo d 26 48 (L) (v1 :: zq (some (8, o)) :: st) (I, R, al) Q ↔ if zwt st ≤ 8 then zCp d 20 [zq (some (8, o)), v1] (I, R, al) (fun r S2 => Zgo d 26 51 L (r.toList ++ st) S2 Q) else False := zg_26_48
theorem zh_26_51 {x : Int} : Zgo d 26 51 (L) (zi x :: st) (I, R, al) Q ↔ if zw x = zw 0 then Zgo d 26 57 (L) (st) (I, R, al) Q else Zgo d 26 54 (L) (st) (I, R, al) Q := zg_26_51
theorem zh_26_54 {x : Option (Nat × Nat)} : Zgo d 26 54 (a0 :: a1 :: a2 :: a3 :: some (zq x) :: L) (st) (I, R, al) Q ↔ Zgo d 26 56 (a0 :: a1 :: a2 :: a3 :: some (zq x) :: L) (zq x :: st) (I, R, al) Q := zg_26_54
theorem zh_26_56 {x : Option (Nat × Nat)} : Zgo d 26 56 (L) (zq x :: []) (I, R, al) Q ↔ Q (some (zq x)) (I, R, al) := zg_26_56
theorem zh_26_57 {x : Option (Nat × Nat)} : Zgo d 26 57 (some (zq x) :: L) (st) (I, R, al) Q ↔ Zgo d 26 58 (some (zq x) :: L) (zq x :: st) (I, R, al) Q := zg_26_57
theorem zh_26_58 {x : Option (Nat × Nat)} : Zgo d 26 58 (a0 :: a1 :: a2 :: a3 :: some (zq x) :: L) (st) (I, R, al) Q ↔ Zgo d 26 60 (a0 :: a1 :: a2 :: a3 :: some (zq x) :: L) (zq x :: st) (I, R, al) Q := zg_26_58
theorem zh_26_60 {v1 : zV} {o : Nat} : Zgo d 26 60 (L) (v1 :: zq (some (8, o)) :: st) (I, R, al) Q ↔ if zwt st ≤ 8 then zCp d 28 [zq (some (8, o)), v1] (I, R, al) (fun r S2 => Zgo d 26 63 L (r.toList ++ st) S2 Q) else False := zg_26_60
theorem zh_26_63 {x : Int} : Zgo d 26 63 (L) (zi x :: st) (I, R, al) Q ↔ if zw x = zw 0 then Zgo d 26 66 (L) (st) (I, R, al) Q else Zgo d 26 68 (L) (st) (I, R, al) Q := zg_26_63
theorem zh_26_66 : Zgo d 26 66 (L) (st) (I, R, al) Q ↔ Zgo d 26 67 (L) (zq none :: st) (I, R, al) Q := zg_26_66
theorem zh_26_67 {x : Option (Nat × Nat)} : Zgo d 26 67 (L) (zq x :: []) (I, R, al) Q ↔ Q (some (zq x)) (I, R, al) := zg_26_67
theorem zh_26_68 {x : Int} : Zgo d 26 68 (a0 :: a1 :: a2 :: a3 :: a4 :: some (zi x) :: L) (st) (I, R, al) Q ↔ Zgo d 26 71 (a0 :: a1 :: a2 :: a3 :: zkl a4 :: some (zi (x + 1)) :: L) (st) (I, R, al) Q := zg_26_68
theorem zh_26_71 : Zgo d 26 71 (L) (st) (I, R, al) Q ↔ Zgo d 26 38 (L) (st) (I, R, al) Q := zg_26_71
theorem zh_26_74 : Zgo d 26 74 (L) (st) (I, R, al) Q ↔ Zgo d 26 75 (L) (zq none :: st) (I, R, al) Q := zg_26_74
theorem zh_26_75 {x : Option (Nat × Nat)} : Zgo d 26 75 (L) (zq x :: []) (I, R, al) Q ↔ Q (some (zq x)) (I, R, al) := zg_26_75
theorem zh_27_0 {x : Option (Nat × Nat)} : Zgo d 27 0 (some (zq x) :: L) (st) (I, R, al) Q ↔ Zgo d 27 1 (some (zq x) :: L) (zq x :: st) (I, R, al) Q := zg_27_0
theorem zh_27_1 {o : Nat} : Zgo d 27 1 (L) (zq (some (7, o)) :: st) (I, R, al) Q ↔ Zgo d 27 4 (L) (zi (I 7 o 9) :: st) (I, R, al) Q := zg_27_1
theorem zh_27_4 : Zgo d 27 4 (L) (st) (I, R, al) Q ↔ Zgo d 27 6 (L) (zi 80 :: st) (I, R, al) Q := zg_27_4
theorem zh_27_6 {x y : Int} : Zgo d 27 6 (L) (zi y :: zi x :: st) (I, R, al) Q ↔ if zw x = zw y then Zgo d 27 9 (L) (st) (I, R, al) Q else Zgo d 27 11 (L) (st) (I, R, al) Q := zg_27_6
theorem zh_27_9 : Zgo d 27 9 (L) (st) (I, R, al) Q ↔ Zgo d 27 10 (L) (zq none :: st) (I, R, al) Q := zg_27_9
theorem zh_27_10 {x : Option (Nat × Nat)} : Zgo d 27 10 (L) (zq x :: []) (I, R, al) Q ↔ Q (some (zq x)) (I, R, al) := zg_27_10
theorem zh_27_11 {x : Option (Nat × Nat)} : Zgo d 27 11 (some (zq x) :: L) (st) (I, R, al) Q ↔ Zgo d 27 12 (some (zq x) :: L) (zq x :: st) (I, R, al) Q := zg_27_11
theorem zh_27_12 {o : Nat} : Zgo d 27 12 (L) (zq (some (7, o)) :: st) (I, R, al) Q ↔ Zgo d 27 15 (L) (zq (R 7 o 7) :: st) (I, R, al) Q := zg_27_12
theorem zh_27_15 {x : Option (Nat × Nat)} : Zgo d 27 15 (some (zq x) :: L) (st) (I, R, al) Q ↔ Zgo d 27 16 (some (zq x) :: L) (zq x :: st) (I, R, al) Q := zg_27_15
theorem zh_27_16 {x : Int} : Zgo d 27 16 (L) (zi x :: st) (I, R, al) Q ↔ Zgo d 27 17 (L) (zi x :: zi x :: st) (I, R, al) Q := zg_27_16
theorem zh_27_16q {u : Option (Nat × Nat)} : Zgo d 27 16 (L) (zq u :: st) (I, R, al) Q ↔ Zgo d 27 17 (L) (zq u :: zq u :: st) (I, R, al) Q := zg_27_16
theorem zh_27_17 {o : Nat} : Zgo d 27 17 (L) (zq (some (7, o)) :: st) (I, R, al) Q ↔ Zgo d 27 20 (L) (zi (I 7 o 9) :: st) (I, R, al) Q := zg_27_17
theorem zh_27_20 {x : Int} {z : Int} : Zgo d 27 20 (L) (zi x :: zi z :: st) (I, R, al) Q ↔ Zgo d 27 21 (L) (zi x :: zi z :: zi x :: st) (I, R, al) Q := zg_27_20
theorem zh_27_20r {x : Int} {w : Option (Nat × Nat)} : Zgo d 27 20 (L) (zi x :: zq w :: st) (I, R, al) Q ↔ Zgo d 27 21 (L) (zi x :: zq w :: zi x :: st) (I, R, al) Q := zg_27_20
theorem zh_27_20qi {u : Option (Nat × Nat)} {z : Int} : Zgo d 27 20 (L) (zq u :: zi z :: st) (I, R, al) Q ↔ Zgo d 27 21 (L) (zq u :: zi z :: zq u :: st) (I, R, al) Q := zg_27_20
theorem zh_27_20qr {u : Option (Nat × Nat)} {w : Option (Nat × Nat)} : Zgo d 27 20 (L) (zq u :: zq w :: st) (I, R, al) Q ↔ Zgo d 27 21 (L) (zq u :: zq w :: zq u :: st) (I, R, al) Q := zg_27_20
theorem zh_27_21 : Zgo d 27 21 (L) (st) (I, R, al) Q ↔ Zgo d 27 22 (L) (zi 1 :: st) (I, R, al) Q := zg_27_21
theorem zh_27_22 {x y : Int} : Zgo d 27 22 (L) (zi y :: zi x :: st) (I, R, al) Q ↔ Zgo d 27 23 (L) (zi (x + y) :: st) (I, R, al) Q := zg_27_22
theorem zh_27_23 {o : Nat} {v : Int} : Zgo d 27 23 (L) (zi v :: zq (some (7, o)) :: st) (I, R, al) Q ↔ Zgo d 27 26 (L) (st) (zsI I 7 o 9 v, R, al) Q := zg_27_23
theorem zh_27_26 {j : Int} {c o : Nat} : Zgo d 27 26 (L) (zi j :: zq (some (c, o)) :: st) (I, R, al) Q ↔ zal (zlen (I, R, al) c) 3 j (fun x => Zgo d 27 27 (L) (zq (R c o x) :: st) (I, R, al) Q) := zg_27_26
theorem zh_27_27 {x : Option (Nat × Nat)} : Zgo d 27 27 (a0 :: a1 :: a2 :: a3 :: b0 :: L) (zq x :: st) (I, R, al) Q ↔ Zgo d 27 29 (a0 :: a1 :: a2 :: zkl a3 :: some (zq x) :: L) (st) (I, R, al) Q := zg_27_27
theorem zh_27_29 {x : Option (Nat × Nat)} : Zgo d 27 29 (a0 :: a1 :: a2 :: a3 :: some (zq x) :: L) (st) (I, R, al) Q ↔ Zgo d 27 31 (a0 :: a1 :: a2 :: a3 :: some (zq x) :: L) (zq x :: st) (I, R, al) Q := zg_27_29
theorem zh_27_31 {x : Int} : Zgo d 27 31 (a0 :: some (zi x) :: L) (st) (I, R, al) Q ↔ Zgo d 27 32 (a0 :: some (zi x) :: L) (zi x :: st) (I, R, al) Q := zg_27_31
theorem zh_27_32 {o : Nat} {v : Int} : Zgo d 27 32 (L) (zi v :: zq (some (3, o)) :: st) (I, R, al) Q ↔ Zgo d 27 35 (L) (st) (zsI I 3 o 0 v, R, al) Q := zg_27_32
theorem zh_27_35 {x : Option (Nat × Nat)} : Zgo d 27 35 (a0 :: a1 :: a2 :: a3 :: some (zq x) :: L) (st) (I, R, al) Q ↔ Zgo d 27 37 (a0 :: a1 :: a2 :: a3 :: some (zq x) :: L) (zq x :: st) (I, R, al) Q := zg_27_35
theorem zh_27_37 {x : Int} : Zgo d 27 37 (a0 :: a1 :: some (zi x) :: L) (st) (I, R, al) Q ↔ Zgo d 27 38 (a0 :: a1 :: some (zi x) :: L) (zi x :: st) (I, R, al) Q := zg_27_37
theorem zh_27_38 {o : Nat} {v : Int} : Zgo d 27 38 (L) (zi v :: zq (some (3, o)) :: st) (I, R, al) Q ↔ zok 1 v False (Zgo d 27 41 (L) (st) (zsI I 3 o 1 v, R, al) Q) := zg_27_38
theorem zh_27_41 {x : Option (Nat × Nat)} : Zgo d 27 41 (a0 :: a1 :: a2 :: a3 :: some (zq x) :: L) (st) (I, R, al) Q ↔ Zgo d 27 43 (a0 :: a1 :: a2 :: a3 :: some (zq x) :: L) (zq x :: st) (I, R, al) Q := zg_27_41
theorem zh_27_43 {x : Int} : Zgo d 27 43 (a0 :: a1 :: a2 :: some (zi x) :: L) (st) (I, R, al) Q ↔ Zgo d 27 44 (a0 :: a1 :: a2 :: some (zi x) :: L) (zi x :: st) (I, R, al) Q := zg_27_43
theorem zh_27_44 {o : Nat} {v : Int} : Zgo d 27 44 (L) (zi v :: zq (some (3, o)) :: st) (I, R, al) Q ↔ Zgo d 27 47 (L) (st) (zsI I 3 o 2 v, R, al) Q := zg_27_44
theorem zh_27_47 {x : Option (Nat × Nat)} : Zgo d 27 47 (a0 :: a1 :: a2 :: a3 :: some (zq x) :: L) (st) (I, R, al) Q ↔ Zgo d 27 49 (a0 :: a1 :: a2 :: a3 :: some (zq x) :: L) (zq x :: st) (I, R, al) Q := zg_27_47
theorem zh_27_49 : Zgo d 27 49 (L) (st) (I, R, al) Q ↔ Zgo d 27 50 (L) (zq none :: st) (I, R, al) Q := zg_27_49
theorem zh_27_50 {o : Nat} {v : Option (Nat × Nat)} : Zgo d 27 50 (L) (zq v :: zq (some (3, o)) :: st) (I, R, al) Q ↔ Zgo d 27 53 (L) (st) (I, zsR R 3 o 3 v, al) Q := zg_27_50
theorem zh_27_53 {x : Option (Nat × Nat)} : Zgo d 27 53 (a0 :: a1 :: a2 :: a3 :: some (zq x) :: L) (st) (I, R, al) Q ↔ Zgo d 27 55 (a0 :: a1 :: a2 :: a3 :: some (zq x) :: L) (zq x :: st) (I, R, al) Q := zg_27_53
theorem zh_27_55 : Zgo d 27 55 (L) (st) (I, R, al) Q ↔ Zgo d 27 56 (L) (zq none :: st) (I, R, al) Q := zg_27_55
theorem zh_27_56 {o : Nat} {v : Option (Nat × Nat)} : Zgo d 27 56 (L) (zq v :: zq (some (3, o)) :: st) (I, R, al) Q ↔ Zgo d 27 59 (L) (st) (I, zsR R 3 o 4 v, al) Q := zg_27_56
theorem zh_27_59 {x : Option (Nat × Nat)} : Zgo d 27 59 (a0 :: a1 :: a2 :: a3 :: some (zq x) :: L) (st) (I, R, al) Q ↔ Zgo d 27 61 (a0 :: a1 :: a2 :: a3 :: some (zq x) :: L) (zq x :: st) (I, R, al) Q := zg_27_59
theorem zh_27_61 {x : Option (Nat × Nat)} : Zgo d 27 61 (L) (zq x :: []) (I, R, al) Q ↔ Q (some (zq x)) (I, R, al) := zg_27_61
theorem zh_28_0 {x : Option (Nat × Nat)} : Zgo d 28 0 (some (zq x) :: L) (st) (I, R, al) Q ↔ Zgo d 28 1 (some (zq x) :: L) (zq x :: st) (I, R, al) Q := zg_28_0
theorem zh_28_1 {o : Nat} : Zgo d 28 1 (L) (zq (some (8, o)) :: st) (I, R, al) Q ↔ Zgo d 28 4 (L) (zq (R 8 o 1) :: st) (I, R, al) Q := zg_28_1
theorem zh_28_4 {x : Option (Nat × Nat)} : Zgo d 28 4 (a0 :: some (zq x) :: L) (st) (I, R, al) Q ↔ Zgo d 28 5 (a0 :: some (zq x) :: L) (zq x :: st) (I, R, al) Q := zg_28_4
theorem zh_28_5 {x : Option (Nat × Nat)} : Zgo d 28 5 (some (zq x) :: L) (st) (I, R, al) Q ↔ Zgo d 28 6 (some (zq x) :: L) (zq x :: st) (I, R, al) Q := zg_28_5
theorem zh_28_6 {o : Nat} : Zgo d 28 6 (L) (zq (some (8, o)) :: st) (I, R, al) Q ↔ if zwt st ≤ 8 then zCp d 29 [zq (some (8, o))] (I, R, al) (fun r S2 => Zgo d 28 9 L (r.toList ++ st) S2 Q) else False := zg_28_6
theorem zh_28_9 {v1 v2 : zV} {o : Nat} : Zgo d 28 9 (L) (v2 :: v1 :: zq (some (7, o)) :: st) (I, R, al) Q ↔ if zwt st ≤ 8 then zCp d 30 [zq (some (7, o)), v1, v2] (I, R, al) (fun r S2 => Zgo d 28 12 L (r.toList ++ st) S2 Q) else False := zg_28_9
theorem zh_28_12 {x : Option (Nat × Nat)} : Zgo d 28 12 (a0 :: a1 :: b0 :: L) (zq x :: st) (I, R, al) Q ↔ Zgo d 28 13 (a0 :: zkl a1 :: some (zq x) :: L) (st) (I, R, al) Q := zg_28_12
theorem zh_28_13 {x : Option (Nat × Nat)} : Zgo d 28 13 (a0 :: a1 :: some (zq x) :: L) (st) (I, R, al) Q ↔ Zgo d 28 14 (a0 :: a1 :: some (zq x) :: L) (zq x :: st) (I, R, al) Q := zg_28_13
theorem zh_28_14n : Zgo d 28 14 (L) (zq none :: st) (I, R, al) Q ↔ Zgo d 28 17 (L) (st) (I, R, al) Q := zg_28_14
theorem zh_28_14 {q : Nat × Nat} : Zgo d 28 14 (L) (zq (some q) :: st) (I, R, al) Q ↔ Zgo d 28 19 (L) (st) (I, R, al) Q := zg_28_14
theorem zh_28_17 : Zgo d 28 17 (L) (st) (I, R, al) Q ↔ Zgo d 28 18 (L) (zi 0 :: st) (I, R, al) Q := zg_28_17
theorem zh_28_18 {x : Int} : Zgo d 28 18 (L) (zi x :: []) (I, R, al) Q ↔ zok 1 x False (Q (some (zi x)) (I, R, al)) := zg_28_18
theorem zh_28_19 {x : Option (Nat × Nat)} : Zgo d 28 19 (a0 :: a1 :: some (zq x) :: L) (st) (I, R, al) Q ↔ Zgo d 28 20 (a0 :: a1 :: some (zq x) :: L) (zq x :: st) (I, R, al) Q := zg_28_19
theorem zh_28_20 {x : Option (Nat × Nat)} : Zgo d 28 20 (some (zq x) :: L) (st) (I, R, al) Q ↔ Zgo d 28 21 (some (zq x) :: L) (zq x :: st) (I, R, al) Q := zg_28_20
theorem zh_28_21 : Zgo d 28 21 (L) (st) (I, R, al) Q ↔ Zgo d 28 23 (L) (zi 97 :: st) (I, R, al) Q := zg_28_21
theorem zh_28_23 : Zgo d 28 23 (L) (st) (I, R, al) Q ↔ Zgo d 28 25 (L) (zi 104 :: st) (I, R, al) Q := zg_28_23
theorem zh_28_25 {v1 v2 : zV} {o : Nat} : Zgo d 28 25 (L) (v2 :: v1 :: zq (some (8, o)) :: st) (I, R, al) Q ↔ if zwt st ≤ 8 then zCp d 22 [zq (some (8, o)), v1, v2] (I, R, al) (fun r S2 => Zgo d 28 28 L (r.toList ++ st) S2 Q) else False := zg_28_25
theorem zh_28_28 {o : Nat} {v : Int} : Zgo d 28 28 (L) (zi v :: zq (some (4, o)) :: st) (I, R, al) Q ↔ Zgo d 28 31 (L) (st) (zsI I 4 o 1 v, R, al) Q := zg_28_28
theorem zh_28_31 {x : Option (Nat × Nat)} : Zgo d 28 31 (a0 :: a1 :: some (zq x) :: L) (st) (I, R, al) Q ↔ Zgo d 28 32 (a0 :: a1 :: some (zq x) :: L) (zq x :: st) (I, R, al) Q := zg_28_31
theorem zh_28_32 {o : Nat} : Zgo d 28 32 (L) (zq (some (4, o)) :: st) (I, R, al) Q ↔ Zgo d 28 35 (L) (zi (I 4 o 1) :: st) (I, R, al) Q := zg_28_32
theorem zh_28_35 : Zgo d 28 35 (L) (st) (I, R, al) Q ↔ Zgo d 28 36 (L) (zi (-1) :: st) (I, R, al) Q := zg_28_35
theorem zh_28_36 {x y : Int} : Zgo d 28 36 (L) (zi y :: zi x :: st) (I, R, al) Q ↔ if zw x = zw y then Zgo d 28 77 (L) (st) (I, R, al) Q else Zgo d 28 39 (L) (st) (I, R, al) Q := zg_28_36
theorem zh_28_39 {x : Option (Nat × Nat)} : Zgo d 28 39 (a0 :: a1 :: some (zq x) :: L) (st) (I, R, al) Q ↔ Zgo d 28 40 (a0 :: a1 :: some (zq x) :: L) (zq x :: st) (I, R, al) Q := zg_28_39
theorem zh_28_40 : Zgo d 28 40 (L) (st) (I, R, al) Q ↔ Zgo d 28 42 (L) (zi 61 :: st) (I, R, al) Q := zg_28_40
theorem zh_28_42 {o : Nat} {v : Int} : Zgo d 28 42 (L) (zi v :: zq (some (4, o)) :: st) (I, R, al) Q ↔ zok 2 v False (Zgo d 28 45 (L) (st) (zsI I 4 o 0 v, R, al) Q) := zg_28_42
theorem zh_28_45 {x : Option (Nat × Nat)} : Zgo d 28 45 (some (zq x) :: L) (st) (I, R, al) Q ↔ Zgo d 28 46 (some (zq x) :: L) (zq x :: st) (I, R, al) Q := zg_28_45
theorem zh_28_46 : Zgo d 28 46 (L) (st) (I, R, al) Q ↔ Zgo d 28 48 (L) (zi 61 :: st) (I, R, al) Q := zg_28_46
theorem zh_28_48 {v1 : zV} {o : Nat} : Zgo d 28 48 (L) (v1 :: zq (some (8, o)) :: st) (I, R, al) Q ↔ if zwt st ≤ 8 then zCp d 20 [zq (some (8, o)), v1] (I, R, al) (fun r S2 => Zgo d 28 51 L (r.toList ++ st) S2 Q) else False := zg_28_48
theorem zh_28_51 {x : Int} : Zgo d 28 51 (L) (zi x :: st) (I, R, al) Q ↔ if zw x = zw 0 then Zgo d 28 75 (L) (st) (I, R, al) Q else Zgo d 28 54 (L) (st) (I, R, al) Q := zg_28_51
theorem zh_28_54 {x : Option (Nat × Nat)} : Zgo d 28 54 (some (zq x) :: L) (st) (I, R, al) Q ↔ Zgo d 28 55 (some (zq x) :: L) (zq x :: st) (I, R, al) Q := zg_28_54
theorem zh_28_55 {x : Option (Nat × Nat)} : Zgo d 28 55 (a0 :: a1 :: some (zq x) :: L) (st) (I, R, al) Q ↔ Zgo d 28 56 (a0 :: a1 :: some (zq x) :: L) (zq x :: st) (I, R, al) Q := zg_28_55
theorem zh_28_56 {v1 : zV} {o : Nat} : Zgo d 28 56 (L) (v1 :: zq (some (8, o)) :: st) (I, R, al) Q ↔ if zwt st ≤ 8 then zCp d 31 [zq (some (8, o)), v1] (I, R, al) (fun r S2 => Zgo d 28 59 L (r.toList ++ st) S2 Q) else False := zg_28_56
theorem zh_28_59 {x : Int} : Zgo d 28 59 (L) (zi x :: st) (I, R, al) Q ↔ if zw x = zw 0 then Zgo d 28 75 (L) (st) (I, R, al) Q else Zgo d 28 62 (L) (st) (I, R, al) Q := zg_28_59
theorem zh_28_62 {x : Option (Nat × Nat)} : Zgo d 28 62 (some (zq x) :: L) (st) (I, R, al) Q ↔ Zgo d 28 63 (some (zq x) :: L) (zq x :: st) (I, R, al) Q := zg_28_62
theorem zh_28_63 : Zgo d 28 63 (L) (st) (I, R, al) Q ↔ Zgo d 28 65 (L) (zi 59 :: st) (I, R, al) Q := zg_28_63
theorem zh_28_65 {v1 : zV} {o : Nat} : Zgo d 28 65 (L) (v1 :: zq (some (8, o)) :: st) (I, R, al) Q ↔ if zwt st ≤ 8 then zCp d 20 [zq (some (8, o)), v1] (I, R, al) (fun r S2 => Zgo d 28 68 L (r.toList ++ st) S2 Q) else False := zg_28_65
theorem zh_28_68 {x : Int} : Zgo d 28 68 (L) (zi x :: st) (I, R, al) Q ↔ if zw x = zw 0 then Zgo d 28 75 (L) (st) (I, R, al) Q else Zgo d 28 71 (L) (st) (I, R, al) Q := zg_28_68
theorem zh_28_71 : Zgo d 28 71 (L) (st) (I, R, al) Q ↔ Zgo d 28 72 (L) (zi 1 :: st) (I, R, al) Q := zg_28_71
theorem zh_28_72 : Zgo d 28 72 (L) (st) (I, R, al) Q ↔ Zgo d 28 76 (L) (st) (I, R, al) Q := zg_28_72
theorem zh_28_75 : Zgo d 28 75 (L) (st) (I, R, al) Q ↔ Zgo d 28 76 (L) (zi 0 :: st) (I, R, al) Q := zg_28_75
theorem zh_28_76 {x : Int} : Zgo d 28 76 (L) (zi x :: []) (I, R, al) Q ↔ zok 1 x False (Q (some (zi x)) (I, R, al)) := zg_28_76
theorem zh_28_77 {x : Option (Nat × Nat)} : Zgo d 28 77 (some (zq x) :: L) (st) (I, R, al) Q ↔ Zgo d 28 78 (some (zq x) :: L) (zq x :: st) (I, R, al) Q := zg_28_77
theorem zh_28_78 {x : Int} : Zgo d 28 78 (L) (zi x :: st) (I, R, al) Q ↔ Zgo d 28 79 (L) (zi x :: zi x :: st) (I, R, al) Q := zg_28_78
theorem zh_28_78q {u : Option (Nat × Nat)} : Zgo d 28 78 (L) (zq u :: st) (I, R, al) Q ↔ Zgo d 28 79 (L) (zq u :: zq u :: st) (I, R, al) Q := zg_28_78
theorem zh_28_79 {o : Nat} : Zgo d 28 79 (L) (zq (some (8, o)) :: st) (I, R, al) Q ↔ Zgo d 28 82 (L) (zi (I 8 o 2) :: st) (I, R, al) Q := zg_28_79
theorem zh_28_82 : Zgo d 28 82 (L) (st) (I, R, al) Q ↔ Zgo d 28 83 (L) (zi 1 :: st) (I, R, al) Q := zg_28_82
theorem zh_28_83 {x y : Int} : Zgo d 28 83 (L) (zi y :: zi x :: st) (I, R, al) Q ↔ Zgo d 28 84 (L) (zi (x + y) :: st) (I, R, al) Q := zg_28_83
theorem zh_28_84 {o : Nat} {v : Int} : Zgo d 28 84 (L) (zi v :: zq (some (8, o)) :: st) (I, R, al) Q ↔ Zgo d 28 87 (L) (st) (zsI I 8 o 2 v, R, al) Q := zg_28_84
theorem zh_28_87 {x : Option (Nat × Nat)} : Zgo d 28 87 (a0 :: a1 :: some (zq x) :: L) (st) (I, R, al) Q ↔ Zgo d 28 88 (a0 :: a1 :: some (zq x) :: L) (zq x :: st) (I, R, al) Q := zg_28_87
theorem zh_28_88 {o : Nat} : Zgo d 28 88 (L) (zq (some (4, o)) :: st) (I, R, al) Q ↔ Zgo d 28 91 (L) (zi (I 4 o 0) :: st) (I, R, al) Q := zg_28_88
theorem zh_28_180 {x : Option (Nat × Nat)} : Zgo d 28 180 (some (zq x) :: L) (st) (I, R, al) Q ↔ Zgo d 28 181 (some (zq x) :: L) (zq x :: st) (I, R, al) Q := zg_28_180
theorem zh_28_181 {x : Option (Nat × Nat)} : Zgo d 28 181 (a0 :: a1 :: some (zq x) :: L) (st) (I, R, al) Q ↔ Zgo d 28 182 (a0 :: a1 :: some (zq x) :: L) (zq x :: st) (I, R, al) Q := zg_28_181
theorem zh_28_182 {v1 : zV} {o : Nat} : Zgo d 28 182 (L) (v1 :: zq (some (8, o)) :: st) (I, R, al) Q ↔ if zwt st ≤ 8 then zCp d 31 [zq (some (8, o)), v1] (I, R, al) (fun r S2 => Zgo d 28 185 L (r.toList ++ st) S2 Q) else False := zg_28_182
theorem zh_28_185 {x : Int} : Zgo d 28 185 (L) (zi x :: st) (I, R, al) Q ↔ if zw x = zw 0 then Zgo d 28 201 (L) (st) (I, R, al) Q else Zgo d 28 188 (L) (st) (I, R, al) Q := zg_28_185
theorem zh_28_188 {x : Option (Nat × Nat)} : Zgo d 28 188 (some (zq x) :: L) (st) (I, R, al) Q ↔ Zgo d 28 189 (some (zq x) :: L) (zq x :: st) (I, R, al) Q := zg_28_188
theorem zh_28_189 : Zgo d 28 189 (L) (st) (I, R, al) Q ↔ Zgo d 28 191 (L) (zi 59 :: st) (I, R, al) Q := zg_28_189
theorem zh_28_191 {v1 : zV} {o : Nat} : Zgo d 28 191 (L) (v1 :: zq (some (8, o)) :: st) (I, R, al) Q ↔ if zwt st ≤ 8 then zCp d 20 [zq (some (8, o)), v1] (I, R, al) (fun r S2 => Zgo d 28 194 L (r.toList ++ st) S2 Q) else False := zg_28_191
theorem zh_28_194 {x : Int} : Zgo d 28 194 (L) (zi x :: st) (I, R, al) Q ↔ if zw x = zw 0 then Zgo d 28 201 (L) (st) (I, R, al) Q else Zgo d 28 197 (L) (st) (I, R, al) Q := zg_28_194
theorem zh_28_197 : Zgo d 28 197 (L) (st) (I, R, al) Q ↔ Zgo d 28 198 (L) (zi 1 :: st) (I, R, al) Q := zg_28_197
theorem zh_28_198 : Zgo d 28 198 (L) (st) (I, R, al) Q ↔ Zgo d 28 202 (L) (st) (I, R, al) Q := zg_28_198
theorem zh_28_201 : Zgo d 28 201 (L) (st) (I, R, al) Q ↔ Zgo d 28 202 (L) (zi 0 :: st) (I, R, al) Q := zg_28_201
theorem zh_28_202 {x : Int} : Zgo d 28 202 (L) (zi x :: []) (I, R, al) Q ↔ zok 1 x False (Q (some (zi x)) (I, R, al)) := zg_28_202
theorem zh_28_203 {x : Option (Nat × Nat)} : Zgo d 28 203 (some (zq x) :: L) (st) (I, R, al) Q ↔ Zgo d 28 204 (some (zq x) :: L) (zq x :: st) (I, R, al) Q := zg_28_203
theorem zh_28_204 {x : Option (Nat × Nat)} : Zgo d 28 204 (a0 :: a1 :: some (zq x) :: L) (st) (I, R, al) Q ↔ Zgo d 28 205 (a0 :: a1 :: some (zq x) :: L) (zq x :: st) (I, R, al) Q := zg_28_204
theorem zh_28_205 {x : Option (Nat × Nat)} : Zgo d 28 205 (a0 :: some (zq x) :: L) (st) (I, R, al) Q ↔ Zgo d 28 206 (a0 :: some (zq x) :: L) (zq x :: st) (I, R, al) Q := zg_28_205
theorem zh_28_206 {v1 v2 : zV} {o : Nat} : Zgo d 28 206 (L) (v2 :: v1 :: zq (some (8, o)) :: st) (I, R, al) Q ↔ if zwt st ≤ 8 then zCp d 36 [zq (some (8, o)), v1, v2] (I, R, al) (fun r S2 => Zgo d 28 209 L (r.toList ++ st) S2 Q) else False := zg_28_206
theorem zh_28_209 {x : Int} : Zgo d 28 209 (L) (zi x :: []) (I, R, al) Q ↔ zok 1 x False (Q (some (zi x)) (I, R, al)) := zg_28_209
theorem zh_28_210 {x : Option (Nat × Nat)} : Zgo d 28 210 (some (zq x) :: L) (st) (I, R, al) Q ↔ Zgo d 28 211 (some (zq x) :: L) (zq x :: st) (I, R, al) Q := zg_28_210
theorem zh_28_211 {x : Option (Nat × Nat)} : Zgo d 28 211 (a0 :: a1 :: some (zq x) :: L) (st) (I, R, al) Q ↔ Zgo d 28 212 (a0 :: a1 :: some (zq x) :: L) (zq x :: st) (I, R, al) Q := zg_28_211
theorem zh_28_212 {x : Option (Nat × Nat)} : Zgo d 28 212 (a0 :: some (zq x) :: L) (st) (I, R, al) Q ↔ Zgo d 28 213 (a0 :: some (zq x) :: L) (zq x :: st) (I, R, al) Q := zg_28_212
theorem zh_28_213 {v1 v2 : zV} {o : Nat} : Zgo d 28 213 (L) (v2 :: v1 :: zq (some (8, o)) :: st) (I, R, al) Q ↔ if zwt st ≤ 8 then zCp d 38 [zq (some (8, o)), v1, v2] (I, R, al) (fun r S2 => Zgo d 28 216 L (r.toList ++ st) S2 Q) else False := zg_28_213
theorem zh_28_216 {x : Int} : Zgo d 28 216 (L) (zi x :: []) (I, R, al) Q ↔ zok 1 x False (Q (some (zi x)) (I, R, al)) := zg_28_216
theorem zh_28_217 {x : Option (Nat × Nat)} : Zgo d 28 217 (some (zq x) :: L) (st) (I, R, al) Q ↔ Zgo d 28 218 (some (zq x) :: L) (zq x :: st) (I, R, al) Q := zg_28_217
theorem zh_28_218 : Zgo d 28 218 (L) (st) (I, R, al) Q ↔ Zgo d 28 220 (L) (zi 59 :: st) (I, R, al) Q := zg_28_218
theorem zh_28_220 {v1 : zV} {o : Nat} : Zgo d 28 220 (L) (v1 :: zq (some (8, o)) :: st) (I, R, al) Q ↔ if zwt st ≤ 8 then zCp d 20 [zq (some (8, o)), v1] (I, R, al) (fun r S2 => Zgo d 28 223 L (r.toList ++ st) S2 Q) else False := zg_28_220
theorem zh_28_223 {x : Int} : Zgo d 28 223 (L) (zi x :: []) (I, R, al) Q ↔ zok 1 x False (Q (some (zi x)) (I, R, al)) := zg_28_223
theorem zh_28_224 {x : Option (Nat × Nat)} : Zgo d 28 224 (a0 :: a1 :: some (zq x) :: L) (st) (I, R, al) Q ↔ Zgo d 28 225 (a0 :: a1 :: some (zq x) :: L) (zq x :: st) (I, R, al) Q := zg_28_224
theorem zh_28_225 {x : Option (Nat × Nat)} : Zgo d 28 225 (some (zq x) :: L) (st) (I, R, al) Q ↔ Zgo d 28 226 (some (zq x) :: L) (zq x :: st) (I, R, al) Q := zg_28_225
theorem zh_28_226 : Zgo d 28 226 (L) (st) (I, R, al) Q ↔ Zgo d 28 228 (L) (zi 48 :: st) (I, R, al) Q := zg_28_226
theorem zh_28_228 : Zgo d 28 228 (L) (st) (I, R, al) Q ↔ Zgo d 28 230 (L) (zi 52 :: st) (I, R, al) Q := zg_28_228
theorem zh_28_230 {v1 v2 : zV} {o : Nat} : Zgo d 28 230 (L) (v2 :: v1 :: zq (some (8, o)) :: st) (I, R, al) Q ↔ if zwt st ≤ 8 then zCp d 22 [zq (some (8, o)), v1, v2] (I, R, al) (fun r S2 => Zgo d 28 233 L (r.toList ++ st) S2 Q) else False := zg_28_230
theorem zh_28_233 {o : Nat} {v : Int} : Zgo d 28 233 (L) (zi v :: zq (some (4, o)) :: st) (I, R, al) Q ↔ Zgo d 28 236 (L) (st) (zsI I 4 o 1 v, R, al) Q := zg_28_233
theorem zh_28_236 {x : Option (Nat × Nat)} : Zgo d 28 236 (a0 :: a1 :: some (zq x) :: L) (st) (I, R, al) Q ↔ Zgo d 28 237 (a0 :: a1 :: some (zq x) :: L) (zq x :: st) (I, R, al) Q := zg_28_236
theorem zh_28_237 {o : Nat} : Zgo d 28 237 (L) (zq (some (4, o)) :: st) (I, R, al) Q ↔ Zgo d 28 240 (L) (zi (I 4 o 1) :: st) (I, R, al) Q := zg_28_237
theorem zh_28_240 : Zgo d 28 240 (L) (st) (I, R, al) Q ↔ Zgo d 28 241 (L) (zi (-1) :: st) (I, R, al) Q := zg_28_240
theorem zh_28_241 {x y : Int} : Zgo d 28 241 (L) (zi y :: zi x :: st) (I, R, al) Q ↔ if zw x = zw y then Zgo d 28 265 (L) (st) (I, R, al) Q else Zgo d 28 244 (L) (st) (I, R, al) Q := zg_28_241
theorem zh_28_244 {x : Option (Nat × Nat)} : Zgo d 28 244 (some (zq x) :: L) (st) (I, R, al) Q ↔ Zgo d 28 245 (some (zq x) :: L) (zq x :: st) (I, R, al) Q := zg_28_244
theorem zh_28_245 {x : Option (Nat × Nat)} : Zgo d 28 245 (a0 :: a1 :: some (zq x) :: L) (st) (I, R, al) Q ↔ Zgo d 28 246 (a0 :: a1 :: some (zq x) :: L) (zq x :: st) (I, R, al) Q := zg_28_245
theorem zh_28_246 {v1 : zV} {o : Nat} : Zgo d 28 246 (L) (v1 :: zq (some (8, o)) :: st) (I, R, al) Q ↔ if zwt st ≤ 8 then zCp d 31 [zq (some (8, o)), v1] (I, R, al) (fun r S2 => Zgo d 28 249 L (r.toList ++ st) S2 Q) else False := zg_28_246
theorem zh_28_249 {x : Int} : Zgo d 28 249 (L) (zi x :: st) (I, R, al) Q ↔ if zw x = zw 0 then Zgo d 28 265 (L) (st) (I, R, al) Q else Zgo d 28 252 (L) (st) (I, R, al) Q := zg_28_249
theorem zh_28_252 {x : Option (Nat × Nat)} : Zgo d 28 252 (some (zq x) :: L) (st) (I, R, al) Q ↔ Zgo d 28 253 (some (zq x) :: L) (zq x :: st) (I, R, al) Q := zg_28_252
theorem zh_28_253 : Zgo d 28 253 (L) (st) (I, R, al) Q ↔ Zgo d 28 255 (L) (zi 59 :: st) (I, R, al) Q := zg_28_253
theorem zh_28_255 {v1 : zV} {o : Nat} : Zgo d 28 255 (L) (v1 :: zq (some (8, o)) :: st) (I, R, al) Q ↔ if zwt st ≤ 8 then zCp d 20 [zq (some (8, o)), v1] (I, R, al) (fun r S2 => Zgo d 28 258 L (r.toList ++ st) S2 Q) else False := zg_28_255
theorem zh_28_258 {x : Int} : Zgo d 28 258 (L) (zi x :: st) (I, R, al) Q ↔ if zw x = zw 0 then Zgo d 28 265 (L) (st) (I, R, al) Q else Zgo d 28 261 (L) (st) (I, R, al) Q := zg_28_258
theorem zh_28_261 : Zgo d 28 261 (L) (st) (I, R, al) Q ↔ Zgo d 28 262 (L) (zi 1 :: st) (I, R, al) Q := zg_28_261
theorem zh_28_262 : Zgo d 28 262 (L) (st) (I, R, al) Q ↔ Zgo d 28 266 (L) (st) (I, R, al) Q := zg_28_262
theorem zh_28_265 : Zgo d 28 265 (L) (st) (I, R, al) Q ↔ Zgo d 28 266 (L) (zi 0 :: st) (I, R, al) Q := zg_28_265
theorem zh_28_266 {x : Int} : Zgo d 28 266 (L) (zi x :: []) (I, R, al) Q ↔ zok 1 x False (Q (some (zi x)) (I, R, al)) := zg_28_266
theorem zh_28_267 {x : Option (Nat × Nat)} : Zgo d 28 267 (a0 :: a1 :: some (zq x) :: L) (st) (I, R, al) Q ↔ Zgo d 28 268 (a0 :: a1 :: some (zq x) :: L) (zq x :: st) (I, R, al) Q := zg_28_267
theorem zh_28_268 {x : Option (Nat × Nat)} : Zgo d 28 268 (some (zq x) :: L) (st) (I, R, al) Q ↔ Zgo d 28 269 (some (zq x) :: L) (zq x :: st) (I, R, al) Q := zg_28_268
theorem zh_28_269 : Zgo d 28 269 (L) (st) (I, R, al) Q ↔ Zgo d 28 271 (L) (zi 112 :: st) (I, R, al) Q := zg_28_269
theorem zh_28_271 : Zgo d 28 271 (L) (st) (I, R, al) Q ↔ Zgo d 28 273 (L) (zi 114 :: st) (I, R, al) Q := zg_28_271
theorem zh_28_273 {v1 v2 : zV} {o : Nat} : Zgo d 28 273 (L) (v2 :: v1 :: zq (some (8, o)) :: st) (I, R, al) Q ↔ if zwt st ≤ 8 then zCp d 22 [zq (some (8, o)), v1, v2] (I, R, al) (fun r S2 => Zgo d 28 276 L (r.toList ++ st) S2 Q) else False := zg_28_273
theorem zh_28_276 {o : Nat} {v : Int} : Zgo d 28 276 (L) (zi v :: zq (some (4, o)) :: st) (I, R, al) Q ↔ Zgo d 28 279 (L) (st) (zsI I 4 o 1 v, R, al) Q := zg_28_276
theorem zh_28_279 {x : Option (Nat × Nat)} : Zgo d 28 279 (a0 :: a1 :: some (zq x) :: L) (st) (I, R, al) Q ↔ Zgo d 28 280 (a0 :: a1 :: some (zq x) :: L) (zq x :: st) (I, R, al) Q := zg_28_279
theorem zh_28_280 {o : Nat} : Zgo d 28 280 (L) (zq (some (4, o)) :: st) (I, R, al) Q ↔ Zgo d 28 283 (L) (zi (I 4 o 1) :: st) (I, R, al) Q := zg_28_280
theorem zh_28_283 : Zgo d 28 283 (L) (st) (I, R, al) Q ↔ Zgo d 28 284 (L) (zi (-1) :: st) (I, R, al) Q := zg_28_283
theorem zh_28_284 {x y : Int} : Zgo d 28 284 (L) (zi y :: zi x :: st) (I, R, al) Q ↔ if zw x = zw y then Zgo d 28 300 (L) (st) (I, R, al) Q else Zgo d 28 287 (L) (st) (I, R, al) Q := zg_28_284
theorem zh_28_287 {x : Option (Nat × Nat)} : Zgo d 28 287 (some (zq x) :: L) (st) (I, R, al) Q ↔ Zgo d 28 288 (some (zq x) :: L) (zq x :: st) (I, R, al) Q := zg_28_287
theorem zh_28_288 : Zgo d 28 288 (L) (st) (I, R, al) Q ↔ Zgo d 28 290 (L) (zi 59 :: st) (I, R, al) Q := zg_28_288
theorem zh_28_290 {v1 : zV} {o : Nat} : Zgo d 28 290 (L) (v1 :: zq (some (8, o)) :: st) (I, R, al) Q ↔ if zwt st ≤ 8 then zCp d 20 [zq (some (8, o)), v1] (I, R, al) (fun r S2 => Zgo d 28 293 L (r.toList ++ st) S2 Q) else False := zg_28_290
theorem zh_28_293 {x : Int} : Zgo d 28 293 (L) (zi x :: st) (I, R, al) Q ↔ if zw x = zw 0 then Zgo d 28 300 (L) (st) (I, R, al) Q else Zgo d 28 296 (L) (st) (I, R, al) Q := zg_28_293
theorem zh_28_296 : Zgo d 28 296 (L) (st) (I, R, al) Q ↔ Zgo d 28 297 (L) (zi 1 :: st) (I, R, al) Q := zg_28_296
theorem zh_28_297 : Zgo d 28 297 (L) (st) (I, R, al) Q ↔ Zgo d 28 301 (L) (st) (I, R, al) Q := zg_28_297
theorem zh_28_300 : Zgo d 28 300 (L) (st) (I, R, al) Q ↔ Zgo d 28 301 (L) (zi 0 :: st) (I, R, al) Q := zg_28_300
theorem zh_28_301 {x : Int} : Zgo d 28 301 (L) (zi x :: []) (I, R, al) Q ↔ zok 1 x False (Q (some (zi x)) (I, R, al)) := zg_28_301
theorem zh_28_302 {x : Option (Nat × Nat)} : Zgo d 28 302 (some (zq x) :: L) (st) (I, R, al) Q ↔ Zgo d 28 303 (some (zq x) :: L) (zq x :: st) (I, R, al) Q := zg_28_302
theorem zh_28_303 {x : Option (Nat × Nat)} : Zgo d 28 303 (a0 :: a1 :: some (zq x) :: L) (st) (I, R, al) Q ↔ Zgo d 28 304 (a0 :: a1 :: some (zq x) :: L) (zq x :: st) (I, R, al) Q := zg_28_303
theorem zh_28_304 {x : Option (Nat × Nat)} : Zgo d 28 304 (a0 :: some (zq x) :: L) (st) (I, R, al) Q ↔ Zgo d 28 305 (a0 :: some (zq x) :: L) (zq x :: st) (I, R, al) Q := zg_28_304
theorem zh_28_305 {v1 v2 : zV} {o : Nat} : Zgo d 28 305 (L) (v2 :: v1 :: zq (some (8, o)) :: st) (I, R, al) Q ↔ if zwt st ≤ 8 then zCp d 39 [zq (some (8, o)), v1, v2] (I, R, al) (fun r S2 => Zgo d 28 308 L (r.toList ++ st) S2 Q) else False := zg_28_305
theorem zh_28_308 {x : Int} : Zgo d 28 308 (L) (zi x :: []) (I, R, al) Q ↔ zok 1 x False (Q (some (zi x)) (I, R, al)) := zg_28_308
theorem zh_28_309 : Zgo d 28 309 (L) (st) (I, R, al) Q ↔ Zgo d 28 310 (L) (zi 0 :: st) (I, R, al) Q := zg_28_309
theorem zh_28_310 {x : Int} : Zgo d 28 310 (L) (zi x :: []) (I, R, al) Q ↔ zok 1 x False (Q (some (zi x)) (I, R, al)) := zg_28_310
theorem zh_28_91 {x : Int} : Zgo d 28 91 L (zi x :: st) (I, R, al) Q ↔ (if zw x = 33 then Zgo d 28 180 L st (I, R, al) Q else if zw x = 63 then Zgo d 28 203 L st (I, R, al) Q else if zw x = 64 then Zgo d 28 210 L st (I, R, al) Q else if zw x = 66 then Zgo d 28 217 L st (I, R, al) Q else if zw x = 67 then Zgo d 28 217 L st (I, R, al) Q else if zw x = 80 then Zgo d 28 267 L st (I, R, al) Q else if zw x = 82 then Zgo d 28 217 L st (I, R, al) Q else if zw x = 84 then Zgo d 28 224 L st (I, R, al) Q else if zw x = 88 then Zgo d 28 217 L st (I, R, al) Q else if zw x = 89 then Zgo d 28 302 L st (I, R, al) Q else Zgo d 28 309 L st (I, R, al) Q) := zg_28_91
theorem zh_29_0 {x : Option (Nat × Nat)} : Zgo d 29 0 (some (zq x) :: L) (st) (I, R, al) Q ↔ Zgo d 29 1 (some (zq x) :: L) (zq x :: st) (I, R, al) Q := zg_29_0
theorem zh_29_1 {o : Nat} : Zgo d 29 1 (L) (zq (some (8, o)) :: st) (I, R, al) Q ↔ Zgo d 29 4 (L) (zi (I 8 o 2) :: st) (I, R, al) Q := zg_29_1
theorem zh_29_4 {x : Option (Nat × Nat)} : Zgo d 29 4 (some (zq x) :: L) (st) (I, R, al) Q ↔ Zgo d 29 5 (some (zq x) :: L) (zq x :: st) (I, R, al) Q := zg_29_4
theorem zh_29_5 {o : Nat} : Zgo d 29 5 (L) (zq (some (8, o)) :: st) (I, R, al) Q ↔ Zgo d 29 8 (L) (zq (R 8 o 0) :: st) (I, R, al) Q := zg_29_5
theorem zh_29_8 {o : Nat} : Zgo d 29 8 (L) (zq (some (1, o)) :: st) (I, R, al) Q ↔ Zgo d 29 11 (L) (zi (I 1 o 1) :: st) (I, R, al) Q := zg_29_8
theorem zh_29_11 {x y : Int} : Zgo d 29 11 (L) (zi y :: zi x :: st) (I, R, al) Q ↔ if zw x < zw y then Zgo d 29 14 (L) (st) (I, R, al) Q else Zgo d 29 29 (L) (st) (I, R, al) Q := zg_29_11
theorem zh_29_14 {x : Option (Nat × Nat)} : Zgo d 29 14 (some (zq x) :: L) (st) (I, R, al) Q ↔ Zgo d 29 15 (some (zq x) :: L) (zq x :: st) (I, R, al) Q := zg_29_14
theorem zh_29_15 {o : Nat} : Zgo d 29 15 (L) (zq (some (8, o)) :: st) (I, R, al) Q ↔ Zgo d 29 18 (L) (zq (R 8 o 0) :: st) (I, R, al) Q := zg_29_15
theorem zh_29_18 {o : Nat} : Zgo d 29 18 (L) (zq (some (1, o)) :: st) (I, R, al) Q ↔ Zgo d 29 21 (L) (zq (R 1 o 0) :: st) (I, R, al) Q := zg_29_18
theorem zh_29_21 {x : Option (Nat × Nat)} : Zgo d 29 21 (some (zq x) :: L) (st) (I, R, al) Q ↔ Zgo d 29 22 (some (zq x) :: L) (zq x :: st) (I, R, al) Q := zg_29_21
theorem zh_29_22 {o : Nat} : Zgo d 29 22 (L) (zq (some (8, o)) :: st) (I, R, al) Q ↔ Zgo d 29 25 (L) (zi (I 8 o 2) :: st) (I, R, al) Q := zg_29_22
theorem zh_29_25 {j : Int} {c o : Nat} : Zgo d 29 25 (L) (zi j :: zq (some (c, o)) :: st) (I, R, al) Q ↔ zal (zlen (I, R, al) c) 2 j (fun x => Zgo d 29 26 (L) (zi (I c o x) :: st) (I, R, al) Q) := zg_29_25
theorem zh_29_26 : Zgo d 29 26 (L) (st) (I, R, al) Q ↔ Zgo d 29 30 (L) (st) (I, R, al) Q := zg_29_26
theorem zh_29_29 : Zgo d 29 29 (L) (st) (I, R, al) Q ↔ Zgo d 29 30 (L) (zi 0 :: st) (I, R, al) Q := zg_29_29
theorem zh_29_30 {x : Int} : Zgo d 29 30 (L) (zi x :: []) (I, R, al) Q ↔ zok 2 x False (Q (some (zi x)) (I, R, al)) := zg_29_30
end
