/-! .. the class, the law's catching methods -/
section
variable {d : Nat} {L : zL} {st : List zV} {S : zS} {Q : Option zV → zS → Prop}
/-- LeavingMachineLaw.run(LLeavingMachine;I[J)I -/
theorem zg_56_0 : Zgo d 56 0 L st S Q ↔ (zlda L 2 False fun r => Zgo d 56 1 L (zq r :: st) S Q) := Zgo_iff (i := .aload_n 2) (len := 1) (a := 0) (b := 0) (c := 0) (p := 0) rfl
theorem zg_56_1 : Zgo d 56 1 L st S Q ↔ (Zgo d 56 2 L (zi 0 :: st) S Q) := Zgo_iff (i := .iconst 0) (len := 1) (a := 0) (b := 0) (c := 0) (p := 0) rfl
theorem zg_56_2 : Zgo d 56 2 L st S Q ↔ (zlda L 0 False fun r => Zgo d 56 3 L (zq r :: st) S Q) := Zgo_iff (i := .aload_n 0) (len := 1) (a := 0) (b := 0) (c := 0) (p := 0) rfl
theorem zg_56_3 : Zgo d 56 3 L st S Q ↔ (zldi L 1 False fun x => Zgo d 56 4 L (zi x :: st) S Q) := Zgo_iff (i := .iload_n 1) (len := 1) (a := 0) (b := 0) (c := 0) (p := 0) rfl
theorem zg_56_4 : Zgo d 56 4 L st S Q ↔ (zinv 2 st False fun as t => zrec as 0 False (zCp d 57 as S fun r S2 => zxr r (fun e => zop (zHd 56 e) False fun h => Zgo d 56 h L [zq (some (e, 0))] S2 Q) (Zgo d 56 7 L (r.toList ++ t) S2 Q))) := Zgo_iff (i := .invokevirtual 7) (len := 3) (a := 57) (b := 2) (c := 0) (p := 3159) rfl
theorem zg_56_7 : Zgo d 56 7 L st S Q ↔ (zpi st False fun x t => Zgo d 56 8 L (zl (zw x) :: t) S Q) := Zgo_iff (i := .i2l) (len := 1) (a := 0) (b := 0) (c := 0) (p := 0) rfl
theorem zg_56_8 : Zgo d 56 8 L st S Q ↔ (zpl st False fun v t => zpi t False fun j t => zpa t False fun r t => znn r False fun q o => zop (zArr q) False fun n => if n.1 = 4 then zix j n.2 False fun x => Zgo d 56 9 L t (zsI S.1 q o x v, S.2) Q else False) := Zgo_iff (i := .lastore) (len := 1) (a := 0) (b := 0) (c := 0) (p := 0) rfl
theorem zg_56_9 : Zgo d 56 9 L st S Q ↔ (Zgo d 56 18 L st S Q) := Zgo_iff (i := .goto 9) (len := 3) (a := 0) (b := 0) (c := 0) (p := 0) rfl
theorem zg_56_12 : Zgo d 56 12 L st S Q ↔ (zpa st False fun x t => Zgo d 56 13 (zst L 3 (some (zq x))) t S Q) := Zgo_iff (i := .astore_n 3) (len := 1) (a := 0) (b := 0) (c := 0) (p := 0) rfl
theorem zg_56_13 : Zgo d 56 13 L st S Q ↔ (Zgo d 56 14 L (zi 1 :: st) S Q) := Zgo_iff (i := .iconst 1) (len := 1) (a := 0) (b := 0) (c := 0) (p := 0) rfl
theorem zg_56_14 : Zgo d 56 14 L st S Q ↔ (zpi st False fun x t => zem t False (Q (some (zi x)) S)) := Zgo_iff (i := .ireturn) (len := 1) (a := 0) (b := 0) (c := 0) (p := 0) rfl
theorem zg_56_15 : Zgo d 56 15 L st S Q ↔ (zpa st False fun x t => Zgo d 56 16 (zst L 3 (some (zq x))) t S Q) := Zgo_iff (i := .astore_n 3) (len := 1) (a := 0) (b := 0) (c := 0) (p := 0) rfl
theorem zg_56_16 : Zgo d 56 16 L st S Q ↔ (Zgo d 56 17 L (zi 2 :: st) S Q) := Zgo_iff (i := .iconst 2) (len := 1) (a := 0) (b := 0) (c := 0) (p := 0) rfl
theorem zg_56_17 : Zgo d 56 17 L st S Q ↔ (zpi st False fun x t => zem t False (Q (some (zi x)) S)) := Zgo_iff (i := .ireturn) (len := 1) (a := 0) (b := 0) (c := 0) (p := 0) rfl
theorem zg_56_18 : Zgo d 56 18 L st S Q ↔ (Zgo d 56 19 L (zi 0 :: st) S Q) := Zgo_iff (i := .iconst 0) (len := 1) (a := 0) (b := 0) (c := 0) (p := 0) rfl
theorem zg_56_19 : Zgo d 56 19 L st S Q ↔ (zpi st False fun x t => zem t False (Q (some (zi x)) S)) := Zgo_iff (i := .ireturn) (len := 1) (a := 0) (b := 0) (c := 0) (p := 0) rfl
/-- LeavingMachine.run(I)I -/
theorem zg_57_0 : Zgo d 57 0 L st S Q ↔ (zldi L 1 False fun x => Zgo d 57 1 L (zi x :: st) S Q) := Zgo_iff (i := .iload_n 1) (len := 1) (a := 0) (b := 0) (c := 0) (p := 0) rfl
theorem zg_57_1 : Zgo d 57 1 L st S Q ↔ (zpi st False fun x t => if zw x < zw 0 then Zgo d 57 11 L t S Q else Zgo d 57 4 L t S Q) := Zgo_iff (i := .ifCond .lt 10) (len := 3) (a := 0) (b := 0) (c := 0) (p := 0) rfl
theorem zg_57_4 : Zgo d 57 4 L st S Q ↔ (zldi L 1 False fun x => Zgo d 57 5 L (zi x :: st) S Q) := Zgo_iff (i := .iload_n 1) (len := 1) (a := 0) (b := 0) (c := 0) (p := 0) rfl
theorem zg_57_5 : Zgo d 57 5 L st S Q ↔ (Zgo d 57 8 L (zi 3000 :: st) S Q) := Zgo_iff (i := .sipush 3000) (len := 3) (a := 0) (b := 0) (c := 0) (p := 0) rfl
theorem zg_57_8 : Zgo d 57 8 L st S Q ↔ (zpi st False fun y t => zpi t False fun x t => if zw y < zw x then Zgo d 57 11 L t S Q else Zgo d 57 21 L t S Q) := Zgo_iff (i := .if_icmp .le 13) (len := 3) (a := 0) (b := 0) (c := 0) (p := 0) rfl
theorem zg_57_11 : Zgo d 57 11 L st S Q ↔ (zem st False (Q (some (zq (some (92, 0)))) (S.1, S.2.1, S.2.2.1, S.2.2.2.1 + 1, S.2.2.2.2.1 + 6, S.2.2.2.2.2))) := Zgo_iff (i := .new 74) (len := 3) (a := 92) (b := 6) (c := 7) (p := 3163) rfl
theorem zg_57_14 : Zgo d 57 14 L st S Q ↔ (zp1 st False fun v t => Zgo d 57 15 L (v :: v :: t) S Q) := Zgo_iff (i := .dup) (len := 1) (a := 0) (b := 0) (c := 0) (p := 0) rfl
theorem zg_57_15 : Zgo d 57 15 L st S Q ↔ (Zgo d 57 17 L (zq (some (91, 1)) :: st) S Q) := Zgo_iff (i := .ldc 76) (len := 2) (a := 91) (b := 1) (c := 0) (p := 3204) rfl
theorem zg_57_21 : Zgo d 57 21 L st S Q ↔ (zlda L 0 False fun r => Zgo d 57 22 L (zq r :: st) S Q) := Zgo_iff (i := .aload_n 0) (len := 1) (a := 0) (b := 0) (c := 0) (p := 0) rfl
theorem zg_57_22 : Zgo d 57 22 L st S Q ↔ (zpa st False fun r t => zde r 0 False fun o => Zgo d 57 25 L (zq (S.2.1 0 o 1) :: t) S Q) := Zgo_iff (i := .getfield 19) (len := 3) (a := 0) (b := 1) (c := 3) (p := 2115) rfl
theorem zg_57_25 : Zgo d 57 25 L st S Q ↔ (zpa st False fun r t => zde r 7 False fun o => Zgo d 57 28 L (zi (S.1 7 o 6) :: t) S Q) := Zgo_iff (i := .getfield 67) (len := 3) (a := 7) (b := 6) (c := 1) (p := 2008) rfl
theorem zg_57_28 : Zgo d 57 28 L st S Q ↔ (zpi st False fun x t => if zw x = zw 0 then Zgo d 57 31 L t S Q else Zgo d 57 41 L t S Q) := Zgo_iff (i := .ifCond .ne 13) (len := 3) (a := 0) (b := 0) (c := 0) (p := 0) rfl
theorem zg_57_31 : Zgo d 57 31 L st S Q ↔ (zem st False (Q (some (zq (some (93, 0)))) (S.1, S.2.1, S.2.2.1, S.2.2.2.1 + 1, S.2.2.2.2.1 + 6, S.2.2.2.2.2))) := Zgo_iff (i := .new 81) (len := 3) (a := 93) (b := 6) (c := 7) (p := 3230) rfl
theorem zg_57_34 : Zgo d 57 34 L st S Q ↔ (zp1 st False fun v t => Zgo d 57 35 L (v :: v :: t) S Q) := Zgo_iff (i := .dup) (len := 1) (a := 0) (b := 0) (c := 0) (p := 0) rfl
theorem zg_57_35 : Zgo d 57 35 L st S Q ↔ (Zgo d 57 37 L (zq (some (91, 2)) :: st) S Q) := Zgo_iff (i := .ldc 83) (len := 2) (a := 91) (b := 2) (c := 0) (p := 3239) rfl
theorem zg_57_41 : Zgo d 57 41 L st S Q ↔ (zlda L 0 False fun r => Zgo d 57 42 L (zq r :: st) S Q) := Zgo_iff (i := .aload_n 0) (len := 1) (a := 0) (b := 0) (c := 0) (p := 0) rfl
theorem zg_57_42 : Zgo d 57 42 L st S Q ↔ (zpa st False fun r t => zde r 0 False fun o => Zgo d 57 45 L (zq (S.2.1 0 o 4) :: t) S Q) := Zgo_iff (i := .getfield 44) (len := 3) (a := 0) (b := 4) (c := 3) (p := 2118) rfl
theorem zg_57_45 : Zgo d 57 45 L st S Q ↔ (zldi L 1 False fun x => Zgo d 57 46 L (zi x :: st) S Q) := Zgo_iff (i := .iload_n 1) (len := 1) (a := 0) (b := 0) (c := 0) (p := 0) rfl
theorem zg_57_46 : Zgo d 57 46 L st S Q ↔ (zinv 2 st False fun as t => zrec as 10 False (zCp d 58 as S fun r S2 => Zgo d 57 49 L (r.toList ++ t) S2 Q)) := Zgo_iff (i := .invokevirtual 86) (len := 3) (a := 58) (b := 2) (c := 0) (p := 4006) rfl
theorem zg_57_49 : Zgo d 57 49 L st S Q ↔ (zpi st False fun x t => zem t False (Q (some (zi x)) S)) := Zgo_iff (i := .ireturn) (len := 1) (a := 0) (b := 0) (c := 0) (p := 0) rfl
/-- LeavingMachine$Runner.perform(I)I -/
theorem zg_58_0 : Zgo d 58 0 L st S Q ↔ (zlda L 0 False fun r => Zgo d 58 1 L (zq r :: st) S Q) := Zgo_iff (i := .aload_n 0) (len := 1) (a := 0) (b := 0) (c := 0) (p := 0) rfl
theorem zg_58_1 : Zgo d 58 1 L st S Q ↔ (zinv 1 st False fun as t => zrec as 10 False (zCp d 17 as S fun r S2 => Zgo d 58 4 L (r.toList ++ t) S2 Q)) := Zgo_iff (i := .invokevirtual 41) (len := 3) (a := 17) (b := 1) (c := 0) (p := 4010) rfl
theorem zg_58_4 : Zgo d 58 4 L st S Q ↔ (zlda L 0 False fun r => Zgo d 58 5 L (zq r :: st) S Q) := Zgo_iff (i := .aload_n 0) (len := 1) (a := 0) (b := 0) (c := 0) (p := 0) rfl
theorem zg_58_5 : Zgo d 58 5 L st S Q ↔ (zldi L 1 False fun x => Zgo d 58 6 L (zi x :: st) S Q) := Zgo_iff (i := .iload_n 1) (len := 1) (a := 0) (b := 0) (c := 0) (p := 0) rfl
theorem zg_58_6 : Zgo d 58 6 L st S Q ↔ (zpi st False fun v t => zpa t False fun r t => zde r 10 False fun o => Zgo d 58 9 L t (zsI S.1 10 o 4 v, S.2) Q) := Zgo_iff (i := .putfield 29) (len := 3) (a := 10) (b := 4) (c := 0) (p := 2079) rfl
theorem zg_58_9 : Zgo d 58 9 L st S Q ↔ (zlda L 0 False fun r => Zgo d 58 10 L (zq r :: st) S Q) := Zgo_iff (i := .aload_n 0) (len := 1) (a := 0) (b := 0) (c := 0) (p := 0) rfl
theorem zg_58_10 : Zgo d 58 10 L st S Q ↔ (zldi L 1 False fun x => Zgo d 58 11 L (zi x :: st) S Q) := Zgo_iff (i := .iload_n 1) (len := 1) (a := 0) (b := 0) (c := 0) (p := 0) rfl
theorem zg_58_11 : Zgo d 58 11 L st S Q ↔ (zpi st False fun v t => zpa t False fun r t => zde r 10 False fun o => Zgo d 58 14 L t (zsI S.1 10 o 5 v, S.2) Q) := Zgo_iff (i := .putfield 32) (len := 3) (a := 10) (b := 5) (c := 0) (p := 2081) rfl
theorem zg_58_14 : Zgo d 58 14 L st S Q ↔ (zlda L 0 False fun r => Zgo d 58 15 L (zq r :: st) S Q) := Zgo_iff (i := .aload_n 0) (len := 1) (a := 0) (b := 0) (c := 0) (p := 0) rfl
theorem zg_58_15 : Zgo d 58 15 L st S Q ↔ (zlda L 0 False fun r => Zgo d 58 16 L (zq r :: st) S Q) := Zgo_iff (i := .aload_n 0) (len := 1) (a := 0) (b := 0) (c := 0) (p := 0) rfl
theorem zg_58_16 : Zgo d 58 16 L st S Q ↔ (zpa st False fun r t => zde r 10 False fun o => Zgo d 58 19 L (zq (S.2.1 10 o 9) :: t) S Q) := Zgo_iff (i := .getfield 22) (len := 3) (a := 10) (b := 9) (c := 3) (p := 2089) rfl
theorem zg_58_19 : Zgo d 58 19 L st S Q ↔ (zpa st False fun r t => zde r 7 False fun o => Zgo d 58 22 L (zq (S.2.1 7 o 1) :: t) S Q) := Zgo_iff (i := .getfield 44) (len := 3) (a := 7) (b := 1) (c := 3) (p := 1234) rfl
theorem zg_58_22 : Zgo d 58 22 L st S Q ↔ (zpa st False fun r t => zde r 2 False fun o => Zgo d 58 25 L (zq (S.2.1 2 o 3) :: t) S Q) := Zgo_iff (i := .getfield 50) (len := 3) (a := 2) (b := 3) (c := 3) (p := 1071) rfl
theorem zg_58_25 : Zgo d 58 25 L st S Q ↔ (Zgo d 58 26 L (zi 0 :: st) S Q) := Zgo_iff (i := .iconst 0) (len := 1) (a := 0) (b := 0) (c := 0) (p := 0) rfl
theorem zg_58_26 : Zgo d 58 26 L st S Q ↔ (zinv 3 st False fun as t => zrec as 10 False (zCp d 59 as S fun r S2 => Zgo d 58 29 L (r.toList ++ t) S2 Q)) := Zgo_iff (i := .invokevirtual 56) (len := 3) (a := 59) (b := 3) (c := 0) (p := 4011) rfl
theorem zg_58_29 : Zgo d 58 29 L st S Q ↔ (zpa st False fun x t => Zgo d 58 30 (zst L 2 (some (zq x))) t S Q) := Zgo_iff (i := .astore_n 2) (len := 1) (a := 0) (b := 0) (c := 0) (p := 0) rfl
theorem zg_58_30 : Zgo d 58 30 L st S Q ↔ (zlda L 2 False fun r => Zgo d 58 31 L (zq r :: st) S Q) := Zgo_iff (i := .aload_n 2) (len := 1) (a := 0) (b := 0) (c := 0) (p := 0) rfl
theorem zg_58_31 : Zgo d 58 31 L st S Q ↔ (Zgo d 58 34 L (zq (some (90, 5)) :: st) S Q) := Zgo_iff (i := .getstatic 60) (len := 3) (a := 90) (b := 5) (c := 0) (p := 4021) rfl
theorem zg_58_34 : Zgo d 58 34 L st S Q ↔ (zpa st False fun y t => zpa t False fun x t => zsame x y False (Zgo d 58 37 L t S Q) (Zgo d 58 45 L t S Q)) := Zgo_iff (i := .if_acmp .ne 11) (len := 3) (a := 0) (b := 0) (c := 0) (p := 0) rfl
theorem zg_58_37 : Zgo d 58 37 L st S Q ↔ (zlda L 0 False fun r => Zgo d 58 38 L (zq r :: st) S Q) := Zgo_iff (i := .aload_n 0) (len := 1) (a := 0) (b := 0) (c := 0) (p := 0) rfl
theorem zg_58_38 : Zgo d 58 38 L st S Q ↔ (Zgo d 58 39 L (zi 1 :: st) S Q) := Zgo_iff (i := .iconst 1) (len := 1) (a := 0) (b := 0) (c := 0) (p := 0) rfl
theorem zg_58_39 : Zgo d 58 39 L st S Q ↔ (zpi st False fun v t => zpa t False fun r t => zde r 10 False fun o => Zgo d 58 42 L t (zsI S.1 10 o 3 v, S.2) Q) := Zgo_iff (i := .putfield 18) (len := 3) (a := 10) (b := 3) (c := 0) (p := 2077) rfl
theorem zg_58_42 : Zgo d 58 42 L st S Q ↔ (Zgo d 58 61 L st S Q) := Zgo_iff (i := .goto 19) (len := 3) (a := 0) (b := 0) (c := 0) (p := 0) rfl
theorem zg_58_45 : Zgo d 58 45 L st S Q ↔ (zlda L 0 False fun r => Zgo d 58 46 L (zq r :: st) S Q) := Zgo_iff (i := .aload_n 0) (len := 1) (a := 0) (b := 0) (c := 0) (p := 0) rfl
theorem zg_58_46 : Zgo d 58 46 L st S Q ↔ (zlda L 2 False fun r => Zgo d 58 47 L (zq r :: st) S Q) := Zgo_iff (i := .aload_n 2) (len := 1) (a := 0) (b := 0) (c := 0) (p := 0) rfl
theorem zg_58_47 : Zgo d 58 47 L st S Q ↔ (Zgo d 58 50 L (zq (some (90, 4)) :: st) S Q) := Zgo_iff (i := .getstatic 66) (len := 3) (a := 90) (b := 4) (c := 0) (p := 4038) rfl
theorem zg_58_50 : Zgo d 58 50 L st S Q ↔ (zpa st False fun y t => zpa t False fun x t => zsame x y False (Zgo d 58 53 L t S Q) (Zgo d 58 57 L t S Q)) := Zgo_iff (i := .if_acmp .ne 7) (len := 3) (a := 0) (b := 0) (c := 0) (p := 0) rfl
theorem zg_58_53 : Zgo d 58 53 L st S Q ↔ (Zgo d 58 54 L (zi 2 :: st) S Q) := Zgo_iff (i := .iconst 2) (len := 1) (a := 0) (b := 0) (c := 0) (p := 0) rfl
theorem zg_58_54 : Zgo d 58 54 L st S Q ↔ (Zgo d 58 58 L st S Q) := Zgo_iff (i := .goto 4) (len := 3) (a := 0) (b := 0) (c := 0) (p := 0) rfl
theorem zg_58_57 : Zgo d 58 57 L st S Q ↔ (Zgo d 58 58 L (zi 0 :: st) S Q) := Zgo_iff (i := .iconst 0) (len := 1) (a := 0) (b := 0) (c := 0) (p := 0) rfl
theorem zg_58_58 : Zgo d 58 58 L st S Q ↔ (zpi st False fun v t => zpa t False fun r t => zde r 10 False fun o => Zgo d 58 61 L t (zsI S.1 10 o 3 v, S.2) Q) := Zgo_iff (i := .putfield 18) (len := 3) (a := 10) (b := 3) (c := 0) (p := 2077) rfl
theorem zg_58_61 : Zgo d 58 61 L st S Q ↔ (zlda L 0 False fun r => Zgo d 58 62 L (zq r :: st) S Q) := Zgo_iff (i := .aload_n 0) (len := 1) (a := 0) (b := 0) (c := 0) (p := 0) rfl
theorem zg_58_62 : Zgo d 58 62 L st S Q ↔ (zpa st False fun r t => zde r 10 False fun o => Zgo d 58 65 L (zi (S.1 10 o 3) :: t) S Q) := Zgo_iff (i := .getfield 18) (len := 3) (a := 10) (b := 3) (c := 0) (p := 2077) rfl
theorem zg_58_65 : Zgo d 58 65 L st S Q ↔ (zpi st False fun x t => zem t False (Q (some (zi x)) S)) := Zgo_iff (i := .ireturn) (len := 1) (a := 0) (b := 0) (c := 0) (p := 0) rfl
/-- LeavingMachine$Runner.doBlock(LLeavingMachine$Block;I)LLeavingMachine$Way; -/
theorem zg_59_0 : Zgo d 59 0 L st S Q ↔ (Zgo d 59 3 L (zq (some (90, 0)) :: st) S Q) := Zgo_iff (i := .getstatic 69) (len := 3) (a := 90) (b := 0) (c := 0) (p := 4015) rfl
theorem zg_59_3 : Zgo d 59 3 L st S Q ↔ (zpa st False fun x t => Zgo d 59 4 (zst L 3 (some (zq x))) t S Q) := Zgo_iff (i := .astore_n 3) (len := 1) (a := 0) (b := 0) (c := 0) (p := 0) rfl
theorem zg_59_4 : Zgo d 59 4 L st S Q ↔ (zlda L 1 False fun r => Zgo d 59 5 L (zq r :: st) S Q) := Zgo_iff (i := .aload_n 1) (len := 1) (a := 0) (b := 0) (c := 0) (p := 0) rfl
theorem zg_59_5 : Zgo d 59 5 L st S Q ↔ (zpa st False fun x t => if x = none then Zgo d 59 44 L t S Q else Zgo d 59 8 L t S Q) := Zgo_iff (i := .ifnull 39) (len := 3) (a := 0) (b := 0) (c := 0) (p := 0) rfl
theorem zg_59_8 : Zgo d 59 8 L st S Q ↔ (zlda L 1 False fun r => Zgo d 59 9 L (zq r :: st) S Q) := Zgo_iff (i := .aload_n 1) (len := 1) (a := 0) (b := 0) (c := 0) (p := 0) rfl
theorem zg_59_9 : Zgo d 59 9 L st S Q ↔ (zpa st False fun r t => zde r 3 False fun o => Zgo d 59 12 L (zq (S.2.1 3 o 3) :: t) S Q) := Zgo_iff (i := .getfield 72) (len := 3) (a := 3) (b := 3) (c := 3) (p := 1189) rfl
theorem zg_59_12 : Zgo d 59 12 L st S Q ↔ (zpa st False fun x t => Zgo d 59 14 (zst L 4 (some (zq x))) t S Q) := Zgo_iff (i := .astore 4) (len := 2) (a := 0) (b := 0) (c := 0) (p := 0) rfl
theorem zg_59_14 : Zgo d 59 14 L st S Q ↔ (zlda L 4 False fun r => Zgo d 59 16 L (zq r :: st) S Q) := Zgo_iff (i := .aload 4) (len := 2) (a := 0) (b := 0) (c := 0) (p := 0) rfl
theorem zg_59_16 : Zgo d 59 16 L st S Q ↔ (zpa st False fun x t => if x = none then Zgo d 59 44 L t S Q else Zgo d 59 19 L t S Q) := Zgo_iff (i := .ifnull 28) (len := 3) (a := 0) (b := 0) (c := 0) (p := 0) rfl
theorem zg_59_19 : Zgo d 59 19 L st S Q ↔ (zlda L 3 False fun r => Zgo d 59 20 L (zq r :: st) S Q) := Zgo_iff (i := .aload_n 3) (len := 1) (a := 0) (b := 0) (c := 0) (p := 0) rfl
theorem zg_59_20 : Zgo d 59 20 L st S Q ↔ (Zgo d 59 23 L (zq (some (90, 0)) :: st) S Q) := Zgo_iff (i := .getstatic 69) (len := 3) (a := 90) (b := 0) (c := 0) (p := 4015) rfl
theorem zg_59_23 : Zgo d 59 23 L st S Q ↔ (zpa st False fun y t => zpa t False fun x t => zsame x y False (Zgo d 59 26 L t S Q) (Zgo d 59 44 L t S Q)) := Zgo_iff (i := .if_acmp .ne 21) (len := 3) (a := 0) (b := 0) (c := 0) (p := 0) rfl
theorem zg_59_26 : Zgo d 59 26 L st S Q ↔ (zlda L 0 False fun r => Zgo d 59 27 L (zq r :: st) S Q) := Zgo_iff (i := .aload_n 0) (len := 1) (a := 0) (b := 0) (c := 0) (p := 0) rfl
theorem zg_59_27 : Zgo d 59 27 L st S Q ↔ (zlda L 4 False fun r => Zgo d 59 29 L (zq r :: st) S Q) := Zgo_iff (i := .aload 4) (len := 2) (a := 0) (b := 0) (c := 0) (p := 0) rfl
theorem zg_59_29 : Zgo d 59 29 L st S Q ↔ (zldi L 2 False fun x => Zgo d 59 30 L (zi x :: st) S Q) := Zgo_iff (i := .iload_n 2) (len := 1) (a := 0) (b := 0) (c := 0) (p := 0) rfl
theorem zg_59_30 : Zgo d 59 30 L st S Q ↔ (zinv 3 st False fun as t => zrec as 10 False (zCp d 60 as S fun r S2 => Zgo d 59 33 L (r.toList ++ t) S2 Q)) := Zgo_iff (i := .invokevirtual 78) (len := 3) (a := 60) (b := 3) (c := 0) (p := 4017) rfl
theorem zg_59_33 : Zgo d 59 33 L st S Q ↔ (zpa st False fun x t => Zgo d 59 34 (zst L 3 (some (zq x))) t S Q) := Zgo_iff (i := .astore_n 3) (len := 1) (a := 0) (b := 0) (c := 0) (p := 0) rfl
theorem zg_59_34 : Zgo d 59 34 L st S Q ↔ (zlda L 4 False fun r => Zgo d 59 36 L (zq r :: st) S Q) := Zgo_iff (i := .aload 4) (len := 2) (a := 0) (b := 0) (c := 0) (p := 0) rfl
theorem zg_59_36 : Zgo d 59 36 L st S Q ↔ (zpa st False fun r t => zde r 4 False fun o => Zgo d 59 39 L (zq (S.2.1 4 o 6) :: t) S Q) := Zgo_iff (i := .getfield 82) (len := 3) (a := 4) (b := 6) (c := 3) (p := 1136) rfl
theorem zg_59_39 : Zgo d 59 39 L st S Q ↔ (zpa st False fun x t => Zgo d 59 41 (zst L 4 (some (zq x))) t S Q) := Zgo_iff (i := .astore 4) (len := 2) (a := 0) (b := 0) (c := 0) (p := 0) rfl
theorem zg_59_41 : Zgo d 59 41 L st S Q ↔ (Zgo d 59 14 L st S Q) := Zgo_iff (i := .goto (-27)) (len := 3) (a := 0) (b := 0) (c := 0) (p := 0) rfl
theorem zg_59_44 : Zgo d 59 44 L st S Q ↔ (zlda L 3 False fun r => Zgo d 59 45 L (zq r :: st) S Q) := Zgo_iff (i := .aload_n 3) (len := 1) (a := 0) (b := 0) (c := 0) (p := 0) rfl
theorem zg_59_45 : Zgo d 59 45 L st S Q ↔ (zpa st False fun x t => zem t False (Q (some (zq x)) S)) := Zgo_iff (i := .areturn) (len := 1) (a := 0) (b := 0) (c := 0) (p := 0) rfl
/-- LeavingMachine$Runner.doStatement(LLeavingMachine$Statement;I)LLeavingMachine$Way; -/
theorem zg_60_0 : Zgo d 60 0 L st S Q ↔ (zlda L 0 False fun r => Zgo d 60 1 L (zq r :: st) S Q) := Zgo_iff (i := .aload_n 0) (len := 1) (a := 0) (b := 0) (c := 0) (p := 0) rfl
theorem zg_60_1 : Zgo d 60 1 L st S Q ↔ (zpa st False fun r t => zde r 10 False fun o => Zgo d 60 4 L (zi (S.1 10 o 5) :: t) S Q) := Zgo_iff (i := .getfield 32) (len := 3) (a := 10) (b := 5) (c := 0) (p := 2081) rfl
theorem zg_60_4 : Zgo d 60 4 L st S Q ↔ (zpi st False fun x t => if zw x = zw 0 then Zgo d 60 7 L t S Q else Zgo d 60 11 L t S Q) := Zgo_iff (i := .ifCond .ne 7) (len := 3) (a := 0) (b := 0) (c := 0) (p := 0) rfl
theorem zg_60_7 : Zgo d 60 7 L st S Q ↔ (Zgo d 60 10 L (zq (some (90, 5)) :: st) S Q) := Zgo_iff (i := .getstatic 60) (len := 3) (a := 90) (b := 5) (c := 0) (p := 4021) rfl
theorem zg_60_10 : Zgo d 60 10 L st S Q ↔ (zpa st False fun x t => zem t False (Q (some (zq x)) S)) := Zgo_iff (i := .areturn) (len := 1) (a := 0) (b := 0) (c := 0) (p := 0) rfl
theorem zg_60_11 : Zgo d 60 11 L st S Q ↔ (zlda L 0 False fun r => Zgo d 60 12 L (zq r :: st) S Q) := Zgo_iff (i := .aload_n 0) (len := 1) (a := 0) (b := 0) (c := 0) (p := 0) rfl
theorem zg_60_12 : Zgo d 60 12 L st S Q ↔ (zp1 st False fun v t => Zgo d 60 13 L (v :: v :: t) S Q) := Zgo_iff (i := .dup) (len := 1) (a := 0) (b := 0) (c := 0) (p := 0) rfl
theorem zg_60_13 : Zgo d 60 13 L st S Q ↔ (zpa st False fun r t => zde r 10 False fun o => Zgo d 60 16 L (zi (S.1 10 o 5) :: t) S Q) := Zgo_iff (i := .getfield 32) (len := 3) (a := 10) (b := 5) (c := 0) (p := 2081) rfl
theorem zg_60_16 : Zgo d 60 16 L st S Q ↔ (Zgo d 60 17 L (zi 1 :: st) S Q) := Zgo_iff (i := .iconst 1) (len := 1) (a := 0) (b := 0) (c := 0) (p := 0) rfl
theorem zg_60_17 : Zgo d 60 17 L st S Q ↔ (zpi st False fun y t => zpi t False fun x t => Zgo d 60 18 L (zi (x - y) :: t) S Q) := Zgo_iff (i := .isub) (len := 1) (a := 0) (b := 0) (c := 0) (p := 0) rfl
theorem zg_60_18 : Zgo d 60 18 L st S Q ↔ (zpi st False fun v t => zpa t False fun r t => zde r 10 False fun o => Zgo d 60 21 L t (zsI S.1 10 o 5 v, S.2) Q) := Zgo_iff (i := .putfield 32) (len := 3) (a := 10) (b := 5) (c := 0) (p := 2081) rfl
theorem zg_60_21 : Zgo d 60 21 L st S Q ↔ (zlda L 1 False fun r => Zgo d 60 22 L (zq r :: st) S Q) := Zgo_iff (i := .aload_n 1) (len := 1) (a := 0) (b := 0) (c := 0) (p := 0) rfl
theorem zg_60_22 : Zgo d 60 22 L st S Q ↔ (zpa st False fun r t => zde r 4 False fun o => Zgo d 60 25 L (zi (S.1 4 o 0) :: t) S Q) := Zgo_iff (i := .getfield 87) (len := 3) (a := 4) (b := 0) (c := 2) (p := 1121) rfl
theorem zg_60_116 : Zgo d 60 116 L st S Q ↔ (zlda L 0 False fun r => Zgo d 60 117 L (zq r :: st) S Q) := Zgo_iff (i := .aload_n 0) (len := 1) (a := 0) (b := 0) (c := 0) (p := 0) rfl
theorem zg_60_117 : Zgo d 60 117 L st S Q ↔ (zlda L 1 False fun r => Zgo d 60 118 L (zq r :: st) S Q) := Zgo_iff (i := .aload_n 1) (len := 1) (a := 0) (b := 0) (c := 0) (p := 0) rfl
theorem zg_60_118 : Zgo d 60 118 L st S Q ↔ (zinv 2 st False fun as t => zrec as 10 False (zCp d 61 as S fun r S2 => Zgo d 60 121 L (r.toList ++ t) S2 Q)) := Zgo_iff (i := .invokevirtual 91) (len := 3) (a := 61) (b := 2) (c := 0) (p := 4023) rfl
theorem zg_60_121 : Zgo d 60 121 L st S Q ↔ (zpa st False fun x t => zem t False (Q (some (zq x)) S)) := Zgo_iff (i := .areturn) (len := 1) (a := 0) (b := 0) (c := 0) (p := 0) rfl
theorem zg_60_122 : Zgo d 60 122 L st S Q ↔ (zlda L 0 False fun r => Zgo d 60 123 L (zq r :: st) S Q) := Zgo_iff (i := .aload_n 0) (len := 1) (a := 0) (b := 0) (c := 0) (p := 0) rfl
theorem zg_60_123 : Zgo d 60 123 L st S Q ↔ (zlda L 1 False fun r => Zgo d 60 124 L (zq r :: st) S Q) := Zgo_iff (i := .aload_n 1) (len := 1) (a := 0) (b := 0) (c := 0) (p := 0) rfl
theorem zg_60_124 : Zgo d 60 124 L st S Q ↔ (zinv 2 st False fun as t => zrec as 10 False (zCp d 65 as S fun r S2 => Zgo d 60 127 L (r.toList ++ t) S2 Q)) := Zgo_iff (i := .invokevirtual 95) (len := 3) (a := 65) (b := 2) (c := 0) (p := 4040) rfl
theorem zg_60_127 : Zgo d 60 127 L st S Q ↔ (zpa st False fun x t => zem t False (Q (some (zq x)) S)) := Zgo_iff (i := .areturn) (len := 1) (a := 0) (b := 0) (c := 0) (p := 0) rfl
theorem zg_60_128 : Zgo d 60 128 L st S Q ↔ (zlda L 0 False fun r => Zgo d 60 129 L (zq r :: st) S Q) := Zgo_iff (i := .aload_n 0) (len := 1) (a := 0) (b := 0) (c := 0) (p := 0) rfl
theorem zg_60_129 : Zgo d 60 129 L st S Q ↔ (zlda L 1 False fun r => Zgo d 60 130 L (zq r :: st) S Q) := Zgo_iff (i := .aload_n 1) (len := 1) (a := 0) (b := 0) (c := 0) (p := 0) rfl
theorem zg_60_130 : Zgo d 60 130 L st S Q ↔ (zldi L 2 False fun x => Zgo d 60 131 L (zi x :: st) S Q) := Zgo_iff (i := .iload_n 2) (len := 1) (a := 0) (b := 0) (c := 0) (p := 0) rfl
theorem zg_60_131 : Zgo d 60 131 L st S Q ↔ (zinv 3 st False fun as t => zrec as 10 False (zCp d 66 as S fun r S2 => Zgo d 60 134 L (r.toList ++ t) S2 Q)) := Zgo_iff (i := .invokevirtual 98) (len := 3) (a := 66) (b := 3) (c := 0) (p := 4044) rfl
theorem zg_60_134 : Zgo d 60 134 L st S Q ↔ (zpa st False fun x t => zem t False (Q (some (zq x)) S)) := Zgo_iff (i := .areturn) (len := 1) (a := 0) (b := 0) (c := 0) (p := 0) rfl
theorem zg_60_135 : Zgo d 60 135 L st S Q ↔ (zlda L 0 False fun r => Zgo d 60 136 L (zq r :: st) S Q) := Zgo_iff (i := .aload_n 0) (len := 1) (a := 0) (b := 0) (c := 0) (p := 0) rfl
theorem zg_60_136 : Zgo d 60 136 L st S Q ↔ (zlda L 1 False fun r => Zgo d 60 137 L (zq r :: st) S Q) := Zgo_iff (i := .aload_n 1) (len := 1) (a := 0) (b := 0) (c := 0) (p := 0) rfl
theorem zg_60_137 : Zgo d 60 137 L st S Q ↔ (zldi L 2 False fun x => Zgo d 60 138 L (zi x :: st) S Q) := Zgo_iff (i := .iload_n 2) (len := 1) (a := 0) (b := 0) (c := 0) (p := 0) rfl
theorem zg_60_138 : Zgo d 60 138 L st S Q ↔ (zinv 3 st False fun as t => zrec as 10 False (zCp d 67 as S fun r S2 => Zgo d 60 141 L (r.toList ++ t) S2 Q)) := Zgo_iff (i := .invokevirtual 101) (len := 3) (a := 67) (b := 3) (c := 0) (p := 4048) rfl
theorem zg_60_141 : Zgo d 60 141 L st S Q ↔ (zpa st False fun x t => zem t False (Q (some (zq x)) S)) := Zgo_iff (i := .areturn) (len := 1) (a := 0) (b := 0) (c := 0) (p := 0) rfl
theorem zg_60_142 : Zgo d 60 142 L st S Q ↔ (Zgo d 60 145 L (zq (some (90, 1)) :: st) S Q) := Zgo_iff (i := .getstatic 104) (len := 3) (a := 90) (b := 1) (c := 0) (p := 4052) rfl
theorem zg_60_145 : Zgo d 60 145 L st S Q ↔ (zpa st False fun x t => zem t False (Q (some (zq x)) S)) := Zgo_iff (i := .areturn) (len := 1) (a := 0) (b := 0) (c := 0) (p := 0) rfl
theorem zg_60_146 : Zgo d 60 146 L st S Q ↔ (Zgo d 60 149 L (zq (some (90, 2)) :: st) S Q) := Zgo_iff (i := .getstatic 107) (len := 3) (a := 90) (b := 2) (c := 0) (p := 4054) rfl
theorem zg_60_149 : Zgo d 60 149 L st S Q ↔ (zpa st False fun x t => zem t False (Q (some (zq x)) S)) := Zgo_iff (i := .areturn) (len := 1) (a := 0) (b := 0) (c := 0) (p := 0) rfl
theorem zg_60_150 : Zgo d 60 150 L st S Q ↔ (Zgo d 60 153 L (zq (some (90, 3)) :: st) S Q) := Zgo_iff (i := .getstatic 110) (len := 3) (a := 90) (b := 3) (c := 0) (p := 4056) rfl
theorem zg_60_153 : Zgo d 60 153 L st S Q ↔ (zpa st False fun x t => zem t False (Q (some (zq x)) S)) := Zgo_iff (i := .areturn) (len := 1) (a := 0) (b := 0) (c := 0) (p := 0) rfl
theorem zg_60_154 : Zgo d 60 154 L st S Q ↔ (zlda L 0 False fun r => Zgo d 60 155 L (zq r :: st) S Q) := Zgo_iff (i := .aload_n 0) (len := 1) (a := 0) (b := 0) (c := 0) (p := 0) rfl
theorem zg_60_155 : Zgo d 60 155 L st S Q ↔ (zlda L 1 False fun r => Zgo d 60 156 L (zq r :: st) S Q) := Zgo_iff (i := .aload_n 1) (len := 1) (a := 0) (b := 0) (c := 0) (p := 0) rfl
theorem zg_60_156 : Zgo d 60 156 L st S Q ↔ (zinv 2 st False fun as t => zrec as 10 False (zCp d 68 as S fun r S2 => Zgo d 60 159 L (r.toList ++ t) S2 Q)) := Zgo_iff (i := .invokevirtual 113) (len := 3) (a := 68) (b := 2) (c := 0) (p := 4058) rfl
theorem zg_60_159 : Zgo d 60 159 L st S Q ↔ (zpa st False fun x t => zem t False (Q (some (zq x)) S)) := Zgo_iff (i := .areturn) (len := 1) (a := 0) (b := 0) (c := 0) (p := 0) rfl
theorem zg_60_160 : Zgo d 60 160 L st S Q ↔ (zlda L 0 False fun r => Zgo d 60 161 L (zq r :: st) S Q) := Zgo_iff (i := .aload_n 0) (len := 1) (a := 0) (b := 0) (c := 0) (p := 0) rfl
theorem zg_60_161 : Zgo d 60 161 L st S Q ↔ (zlda L 1 False fun r => Zgo d 60 162 L (zq r :: st) S Q) := Zgo_iff (i := .aload_n 1) (len := 1) (a := 0) (b := 0) (c := 0) (p := 0) rfl
theorem zg_60_162 : Zgo d 60 162 L st S Q ↔ (zpa st False fun r t => zde r 4 False fun o => Zgo d 60 165 L (zq (S.2.1 4 o 4) :: t) S Q) := Zgo_iff (i := .getfield 116) (len := 3) (a := 4) (b := 4) (c := 3) (p := 1133) rfl
theorem zg_60_165 : Zgo d 60 165 L st S Q ↔ (zpa st False fun r t => zde r 3 False fun o => Zgo d 60 168 L (zi (S.1 3 o 2) :: t) S Q) := Zgo_iff (i := .getfield 119) (len := 3) (a := 3) (b := 2) (c := 0) (p := 1187) rfl
theorem zg_60_168 : Zgo d 60 168 L st S Q ↔ (zldi L 2 False fun x => Zgo d 60 169 L (zi x :: st) S Q) := Zgo_iff (i := .iload_n 2) (len := 1) (a := 0) (b := 0) (c := 0) (p := 0) rfl
theorem zg_60_169 : Zgo d 60 169 L st S Q ↔ (zinv 3 st False fun as t => zrec as 10 False (zCp d 64 as S fun r S2 => Zgo d 60 172 L (r.toList ++ t) S2 Q)) := Zgo_iff (i := .invokevirtual 122) (len := 3) (a := 64) (b := 3) (c := 0) (p := 4034) rfl
theorem zg_60_172 : Zgo d 60 172 L st S Q ↔ (zpa st False fun x t => zem t False (Q (some (zq x)) S)) := Zgo_iff (i := .areturn) (len := 1) (a := 0) (b := 0) (c := 0) (p := 0) rfl
theorem zg_60_173 : Zgo d 60 173 L st S Q ↔ (zlda L 0 False fun r => Zgo d 60 174 L (zq r :: st) S Q) := Zgo_iff (i := .aload_n 0) (len := 1) (a := 0) (b := 0) (c := 0) (p := 0) rfl
theorem zg_60_174 : Zgo d 60 174 L st S Q ↔ (zlda L 1 False fun r => Zgo d 60 175 L (zq r :: st) S Q) := Zgo_iff (i := .aload_n 1) (len := 1) (a := 0) (b := 0) (c := 0) (p := 0) rfl
theorem zg_60_175 : Zgo d 60 175 L st S Q ↔ (zinv 2 st False fun as t => zrec as 10 False (zCp d 69 as S fun r S2 => Zgo d 60 178 L (r.toList ++ t) S2 Q)) := Zgo_iff (i := .invokevirtual 126) (len := 3) (a := 69) (b := 2) (c := 0) (p := 4062) rfl
theorem zg_60_178 : Zgo d 60 178 L st S Q ↔ (zpa st False fun x t => zem t False (Q (some (zq x)) S)) := Zgo_iff (i := .areturn) (len := 1) (a := 0) (b := 0) (c := 0) (p := 0) rfl
theorem zg_60_179 : Zgo d 60 179 L st S Q ↔ (zlda L 0 False fun r => Zgo d 60 180 L (zq r :: st) S Q) := Zgo_iff (i := .aload_n 0) (len := 1) (a := 0) (b := 0) (c := 0) (p := 0) rfl
theorem zg_60_180 : Zgo d 60 180 L st S Q ↔ (zlda L 1 False fun r => Zgo d 60 181 L (zq r :: st) S Q) := Zgo_iff (i := .aload_n 1) (len := 1) (a := 0) (b := 0) (c := 0) (p := 0) rfl
theorem zg_60_181 : Zgo d 60 181 L st S Q ↔ (zldi L 2 False fun x => Zgo d 60 182 L (zi x :: st) S Q) := Zgo_iff (i := .iload_n 2) (len := 1) (a := 0) (b := 0) (c := 0) (p := 0) rfl
theorem zg_60_182 : Zgo d 60 182 L st S Q ↔ (zinv 3 st False fun as t => zrec as 10 False (zCp d 70 as S fun r S2 => Zgo d 60 185 L (r.toList ++ t) S2 Q)) := Zgo_iff (i := .invokevirtual 129) (len := 3) (a := 70) (b := 3) (c := 0) (p := 4067) rfl
theorem zg_60_185 : Zgo d 60 185 L st S Q ↔ (zpa st False fun x t => zem t False (Q (some (zq x)) S)) := Zgo_iff (i := .areturn) (len := 1) (a := 0) (b := 0) (c := 0) (p := 0) rfl
/-- LeavingMachine$Runner.assign(LLeavingMachine$Statement;)LLeavingMachine$Way; -/
theorem zg_61_0 : Zgo d 61 0 L st S Q ↔ (zlda L 0 False fun r => Zgo d 61 1 L (zq r :: st) S Q) := Zgo_iff (i := .aload_n 0) (len := 1) (a := 0) (b := 0) (c := 0) (p := 0) rfl
theorem zg_61_1 : Zgo d 61 1 L st S Q ↔ (zpa st False fun r t => zde r 10 False fun o => Zgo d 61 4 L (zq (S.2.1 10 o 9) :: t) S Q) := Zgo_iff (i := .getfield 22) (len := 3) (a := 10) (b := 9) (c := 3) (p := 2089) rfl
theorem zg_61_4 : Zgo d 61 4 L st S Q ↔ (zpa st False fun r t => zde r 7 False fun o => Zgo d 61 7 L (zq (S.2.1 7 o 3) :: t) S Q) := Zgo_iff (i := .getfield 132) (len := 3) (a := 7) (b := 3) (c := 3) (p := 1239) rfl
theorem zg_61_7 : Zgo d 61 7 L st S Q ↔ (zlda L 1 False fun r => Zgo d 61 8 L (zq r :: st) S Q) := Zgo_iff (i := .aload_n 1) (len := 1) (a := 0) (b := 0) (c := 0) (p := 0) rfl
theorem zg_61_8 : Zgo d 61 8 L st S Q ↔ (zlda L 0 False fun r => Zgo d 61 9 L (zq r :: st) S Q) := Zgo_iff (i := .aload_n 0) (len := 1) (a := 0) (b := 0) (c := 0) (p := 0) rfl
theorem zg_61_9 : Zgo d 61 9 L st S Q ↔ (zpa st False fun r t => zde r 10 False fun o => Zgo d 61 12 L (zq (S.2.1 10 o 0) :: t) S Q) := Zgo_iff (i := .getfield 9) (len := 3) (a := 10) (b := 0) (c := 3) (p := 2071) rfl
theorem zg_61_12 : Zgo d 61 12 L st S Q ↔ (zinv 3 st False fun as t => zrec as 6 False (zCp d 62 as S fun r S2 => Zgo d 61 15 L (r.toList ++ t) S2 Q)) := Zgo_iff (i := .invokevirtual 136) (len := 3) (a := 62) (b := 3) (c := 0) (p := 4027) rfl
theorem zg_61_15 : Zgo d 61 15 L st S Q ↔ (zpi st False fun x t => if zw x = zw 0 then Zgo d 61 18 L t S Q else Zgo d 61 25 L t S Q) := Zgo_iff (i := .ifCond .ne 10) (len := 3) (a := 0) (b := 0) (c := 0) (p := 0) rfl
theorem zg_61_18 : Zgo d 61 18 L st S Q ↔ (zlda L 0 False fun r => Zgo d 61 19 L (zq r :: st) S Q) := Zgo_iff (i := .aload_n 0) (len := 1) (a := 0) (b := 0) (c := 0) (p := 0) rfl
theorem zg_61_19 : Zgo d 61 19 L st S Q ↔ (Zgo d 61 20 L (zi 5 :: st) S Q) := Zgo_iff (i := .iconst 5) (len := 1) (a := 0) (b := 0) (c := 0) (p := 0) rfl
theorem zg_61_20 : Zgo d 61 20 L st S Q ↔ (Zgo d 61 21 L (zi 0 :: st) S Q) := Zgo_iff (i := .iconst 0) (len := 1) (a := 0) (b := 0) (c := 0) (p := 0) rfl
theorem zg_61_21 : Zgo d 61 21 L st S Q ↔ (zinv 3 st False fun as t => zrec as 10 False (zCp d 64 as S fun r S2 => Zgo d 61 24 L (r.toList ++ t) S2 Q)) := Zgo_iff (i := .invokevirtual 122) (len := 3) (a := 64) (b := 3) (c := 0) (p := 4034) rfl
theorem zg_61_24 : Zgo d 61 24 L st S Q ↔ (zpa st False fun x t => zem t False (Q (some (zq x)) S)) := Zgo_iff (i := .areturn) (len := 1) (a := 0) (b := 0) (c := 0) (p := 0) rfl
theorem zg_61_25 : Zgo d 61 25 L st S Q ↔ (zlda L 0 False fun r => Zgo d 61 26 L (zq r :: st) S Q) := Zgo_iff (i := .aload_n 0) (len := 1) (a := 0) (b := 0) (c := 0) (p := 0) rfl
theorem zg_61_26 : Zgo d 61 26 L st S Q ↔ (zpa st False fun r t => zde r 10 False fun o => Zgo d 61 29 L (zq (S.2.1 10 o 0) :: t) S Q) := Zgo_iff (i := .getfield 9) (len := 3) (a := 10) (b := 0) (c := 3) (p := 2071) rfl
theorem zg_61_29 : Zgo d 61 29 L st S Q ↔ (zlda L 1 False fun r => Zgo d 61 30 L (zq r :: st) S Q) := Zgo_iff (i := .aload_n 1) (len := 1) (a := 0) (b := 0) (c := 0) (p := 0) rfl
theorem zg_61_30 : Zgo d 61 30 L st S Q ↔ (zpa st False fun r t => zde r 4 False fun o => Zgo d 61 33 L (zi (S.1 4 o 1) :: t) S Q) := Zgo_iff (i := .getfield 142) (len := 3) (a := 4) (b := 1) (c := 0) (p := 1125) rfl
theorem zg_61_33 : Zgo d 61 33 L st S Q ↔ (zlda L 0 False fun r => Zgo d 61 34 L (zq r :: st) S Q) := Zgo_iff (i := .aload_n 0) (len := 1) (a := 0) (b := 0) (c := 0) (p := 0) rfl
theorem zg_61_34 : Zgo d 61 34 L st S Q ↔ (zpa st False fun r t => zde r 10 False fun o => Zgo d 61 37 L (zq (S.2.1 10 o 9) :: t) S Q) := Zgo_iff (i := .getfield 22) (len := 3) (a := 10) (b := 9) (c := 3) (p := 2089) rfl
theorem zg_61_37 : Zgo d 61 37 L st S Q ↔ (zpa st False fun r t => zde r 7 False fun o => Zgo d 61 40 L (zq (S.2.1 7 o 3) :: t) S Q) := Zgo_iff (i := .getfield 132) (len := 3) (a := 7) (b := 3) (c := 3) (p := 1239) rfl
theorem zg_61_40 : Zgo d 61 40 L st S Q ↔ (zpa st False fun r t => zde r 6 False fun o => Zgo d 61 43 L (zi (S.1 6 o 3) :: t) S Q) := Zgo_iff (i := .getfield 145) (len := 3) (a := 6) (b := 3) (c := 0) (p := 1097) rfl
theorem zg_61_43 : Zgo d 61 43 L st S Q ↔ (zpi st False fun v t => zpi t False fun j t => zpa t False fun r t => znn r False fun q o => zop (zArr q) False fun n => if n.1 = 0 then zix j n.2 False fun x => Zgo d 61 44 L t (zsI S.1 q o x v, S.2) Q else False) := Zgo_iff (i := .iastore) (len := 1) (a := 0) (b := 0) (c := 0) (p := 0) rfl
theorem zg_61_44 : Zgo d 61 44 L st S Q ↔ (Zgo d 61 47 L (zq (some (90, 0)) :: st) S Q) := Zgo_iff (i := .getstatic 69) (len := 3) (a := 90) (b := 0) (c := 0) (p := 4015) rfl
theorem zg_61_47 : Zgo d 61 47 L st S Q ↔ (zpa st False fun x t => zem t False (Q (some (zq x)) S)) := Zgo_iff (i := .areturn) (len := 1) (a := 0) (b := 0) (c := 0) (p := 0) rfl
/-- LeavingMachine$Expressions.evaluate(LLeavingMachine$Statement;[I)Z -/
theorem zg_62_0 : Zgo d 62 0 L st S Q ↔ (Zgo d 62 1 L (zi 0 :: st) S Q) := Zgo_iff (i := .iconst 0) (len := 1) (a := 0) (b := 0) (c := 0) (p := 0) rfl
theorem zg_62_1 : Zgo d 62 1 L st S Q ↔ (zpi st False fun x t => Zgo d 62 2 (zst L 3 (some (zi x))) t S Q) := Zgo_iff (i := .istore_n 3) (len := 1) (a := 0) (b := 0) (c := 0) (p := 0) rfl
theorem zg_62_2 : Zgo d 62 2 L st S Q ↔ (zlda L 1 False fun r => Zgo d 62 3 L (zq r :: st) S Q) := Zgo_iff (i := .aload_n 1) (len := 1) (a := 0) (b := 0) (c := 0) (p := 0) rfl
theorem zg_62_3 : Zgo d 62 3 L st S Q ↔ (zpa st False fun r t => zde r 4 False fun o => Zgo d 62 6 L (zi (S.1 4 o 2) :: t) S Q) := Zgo_iff (i := .getfield 26) (len := 3) (a := 4) (b := 2) (c := 0) (p := 1127) rfl
theorem zg_62_6 : Zgo d 62 6 L st S Q ↔ (zpi st False fun x t => Zgo d 62 8 (zst L 4 (some (zi x))) t S Q) := Zgo_iff (i := .istore 4) (len := 2) (a := 0) (b := 0) (c := 0) (p := 0) rfl
theorem zg_62_8 : Zgo d 62 8 L st S Q ↔ (zldi L 4 False fun x => Zgo d 62 10 L (zi x :: st) S Q) := Zgo_iff (i := .iload 4) (len := 2) (a := 0) (b := 0) (c := 0) (p := 0) rfl
theorem zg_62_10 : Zgo d 62 10 L st S Q ↔ (zlda L 1 False fun r => Zgo d 62 11 L (zq r :: st) S Q) := Zgo_iff (i := .aload_n 1) (len := 1) (a := 0) (b := 0) (c := 0) (p := 0) rfl
theorem zg_62_11 : Zgo d 62 11 L st S Q ↔ (zpa st False fun r t => zde r 4 False fun o => Zgo d 62 14 L (zi (S.1 4 o 3) :: t) S Q) := Zgo_iff (i := .getfield 31) (len := 3) (a := 4) (b := 3) (c := 0) (p := 1129) rfl
theorem zg_62_14 : Zgo d 62 14 L st S Q ↔ (zpi st False fun y t => zpi t False fun x t => if zw x < zw y then Zgo d 62 17 L t S Q else Zgo d 62 142 L t S Q) := Zgo_iff (i := .if_icmp .ge 128) (len := 3) (a := 0) (b := 0) (c := 0) (p := 0) rfl
theorem zg_62_17 : Zgo d 62 17 L st S Q ↔ (zlda L 0 False fun r => Zgo d 62 18 L (zq r :: st) S Q) := Zgo_iff (i := .aload_n 0) (len := 1) (a := 0) (b := 0) (c := 0) (p := 0) rfl
theorem zg_62_18 : Zgo d 62 18 L st S Q ↔ (zpa st False fun r t => zde r 6 False fun o => Zgo d 62 21 L (zq (S.2.1 6 o 0) :: t) S Q) := Zgo_iff (i := .getfield 9) (len := 3) (a := 6) (b := 0) (c := 3) (p := 1091) rfl
theorem zg_62_21 : Zgo d 62 21 L st S Q ↔ (zldi L 4 False fun x => Zgo d 62 23 L (zi x :: st) S Q) := Zgo_iff (i := .iload 4) (len := 2) (a := 0) (b := 0) (c := 0) (p := 0) rfl
theorem zg_62_23 : Zgo d 62 23 L st S Q ↔ (zpi st False fun j t => zpa t False fun r t => znn r False fun q o => zop (zlen S q) False fun n => if n.1 = 2 then zix j n.2 False fun x => Zgo d 62 24 L (zi (S.1 q o x) :: t) S Q else False) := Zgo_iff (i := .caload) (len := 1) (a := 0) (b := 0) (c := 0) (p := 0) rfl
theorem zg_62_24 : Zgo d 62 24 L st S Q ↔ (zpi st False fun x t => Zgo d 62 26 (zst L 5 (some (zi x))) t S Q) := Zgo_iff (i := .istore 5) (len := 2) (a := 0) (b := 0) (c := 0) (p := 0) rfl
theorem zg_62_26 : Zgo d 62 26 L st S Q ↔ (zldi L 5 False fun x => Zgo d 62 28 L (zi x :: st) S Q) := Zgo_iff (i := .iload 5) (len := 2) (a := 0) (b := 0) (c := 0) (p := 0) rfl
theorem zg_62_28 : Zgo d 62 28 L st S Q ↔ (Zgo d 62 30 L (zi 110 :: st) S Q) := Zgo_iff (i := .bipush 110) (len := 2) (a := 0) (b := 0) (c := 0) (p := 0) rfl
theorem zg_62_30 : Zgo d 62 30 L st S Q ↔ (zpi st False fun y t => zpi t False fun x t => if zw x = zw y then Zgo d 62 40 L t S Q else Zgo d 62 33 L t S Q) := Zgo_iff (i := .if_icmp .eq 10) (len := 3) (a := 0) (b := 0) (c := 0) (p := 0) rfl
theorem zg_62_33 : Zgo d 62 33 L st S Q ↔ (zldi L 5 False fun x => Zgo d 62 35 L (zi x :: st) S Q) := Zgo_iff (i := .iload 5) (len := 2) (a := 0) (b := 0) (c := 0) (p := 0) rfl
theorem zg_62_35 : Zgo d 62 35 L st S Q ↔ (Zgo d 62 37 L (zi 118 :: st) S Q) := Zgo_iff (i := .bipush 118) (len := 2) (a := 0) (b := 0) (c := 0) (p := 0) rfl
theorem zg_62_37 : Zgo d 62 37 L st S Q ↔ (zpi st False fun y t => zpi t False fun x t => if zw x = zw y then Zgo d 62 40 L t S Q else Zgo d 62 83 L t S Q) := Zgo_iff (i := .if_icmp .ne 46) (len := 3) (a := 0) (b := 0) (c := 0) (p := 0) rfl
theorem zg_62_40 : Zgo d 62 40 L st S Q ↔ (zldi L 3 False fun x => Zgo d 62 41 L (zi x :: st) S Q) := Zgo_iff (i := .iload_n 3) (len := 1) (a := 0) (b := 0) (c := 0) (p := 0) rfl
theorem zg_62_41 : Zgo d 62 41 L st S Q ↔ (Zgo d 62 42 L (zi 5 :: st) S Q) := Zgo_iff (i := .iconst 5) (len := 1) (a := 0) (b := 0) (c := 0) (p := 0) rfl
theorem zg_62_42 : Zgo d 62 42 L st S Q ↔ (zpi st False fun y t => zpi t False fun x t => if zw x < zw y then Zgo d 62 45 L t S Q else Zgo d 62 136 L t S Q) := Zgo_iff (i := .if_icmp .ge 94) (len := 3) (a := 0) (b := 0) (c := 0) (p := 0) rfl
theorem zg_62_45 : Zgo d 62 45 L st S Q ↔ (zlda L 0 False fun r => Zgo d 62 46 L (zq r :: st) S Q) := Zgo_iff (i := .aload_n 0) (len := 1) (a := 0) (b := 0) (c := 0) (p := 0) rfl
theorem zg_62_46 : Zgo d 62 46 L st S Q ↔ (zpa st False fun r t => zde r 6 False fun o => Zgo d 62 49 L (zq (S.2.1 6 o 4) :: t) S Q) := Zgo_iff (i := .getfield 19) (len := 3) (a := 6) (b := 4) (c := 3) (p := 1098) rfl
theorem zg_62_49 : Zgo d 62 49 L st S Q ↔ (zldi L 3 False fun x => Zgo d 62 50 L (zi x :: st) S Q) := Zgo_iff (i := .iload_n 3) (len := 1) (a := 0) (b := 0) (c := 0) (p := 0) rfl
theorem zg_62_50 : Zgo d 62 50 L st S Q ↔ (zldi L 5 False fun x => Zgo d 62 52 L (zi x :: st) S Q) := Zgo_iff (i := .iload 5) (len := 2) (a := 0) (b := 0) (c := 0) (p := 0) rfl
theorem zg_62_52 : Zgo d 62 52 L st S Q ↔ (Zgo d 62 54 L (zi 118 :: st) S Q) := Zgo_iff (i := .bipush 118) (len := 2) (a := 0) (b := 0) (c := 0) (p := 0) rfl
theorem zg_62_54 : Zgo d 62 54 L st S Q ↔ (zpi st False fun y t => zpi t False fun x t => if zw x = zw y then Zgo d 62 57 L t S Q else Zgo d 62 69 L t S Q) := Zgo_iff (i := .if_icmp .ne 15) (len := 3) (a := 0) (b := 0) (c := 0) (p := 0) rfl
theorem zg_62_57 : Zgo d 62 57 L st S Q ↔ (zlda L 2 False fun r => Zgo d 62 58 L (zq r :: st) S Q) := Zgo_iff (i := .aload_n 2) (len := 1) (a := 0) (b := 0) (c := 0) (p := 0) rfl
theorem zg_62_58 : Zgo d 62 58 L st S Q ↔ (zlda L 0 False fun r => Zgo d 62 59 L (zq r :: st) S Q) := Zgo_iff (i := .aload_n 0) (len := 1) (a := 0) (b := 0) (c := 0) (p := 0) rfl
theorem zg_62_59 : Zgo d 62 59 L st S Q ↔ (zpa st False fun r t => zde r 6 False fun o => Zgo d 62 62 L (zq (S.2.1 6 o 1) :: t) S Q) := Zgo_iff (i := .getfield 15) (len := 3) (a := 6) (b := 1) (c := 3) (p := 1092) rfl
theorem zg_62_62 : Zgo d 62 62 L st S Q ↔ (zldi L 4 False fun x => Zgo d 62 64 L (zi x :: st) S Q) := Zgo_iff (i := .iload 4) (len := 2) (a := 0) (b := 0) (c := 0) (p := 0) rfl
theorem zg_62_64 : Zgo d 62 64 L st S Q ↔ (zpi st False fun j t => zpa t False fun r t => znn r False fun q o => zop (zlen S q) False fun n => if n.1 = 0 then zix j n.2 False fun x => Zgo d 62 65 L (zi (S.1 q o x) :: t) S Q else False) := Zgo_iff (i := .iaload) (len := 1) (a := 0) (b := 0) (c := 0) (p := 0) rfl
theorem zg_62_65 : Zgo d 62 65 L st S Q ↔ (zpi st False fun j t => zpa t False fun r t => znn r False fun q o => zop (zlen S q) False fun n => if n.1 = 0 then zix j n.2 False fun x => Zgo d 62 66 L (zi (S.1 q o x) :: t) S Q else False) := Zgo_iff (i := .iaload) (len := 1) (a := 0) (b := 0) (c := 0) (p := 0) rfl
theorem zg_62_66 : Zgo d 62 66 L st S Q ↔ (Zgo d 62 76 L st S Q) := Zgo_iff (i := .goto 10) (len := 3) (a := 0) (b := 0) (c := 0) (p := 0) rfl
theorem zg_62_69 : Zgo d 62 69 L st S Q ↔ (zlda L 0 False fun r => Zgo d 62 70 L (zq r :: st) S Q) := Zgo_iff (i := .aload_n 0) (len := 1) (a := 0) (b := 0) (c := 0) (p := 0) rfl
theorem zg_62_70 : Zgo d 62 70 L st S Q ↔ (zpa st False fun r t => zde r 6 False fun o => Zgo d 62 73 L (zq (S.2.1 6 o 1) :: t) S Q) := Zgo_iff (i := .getfield 15) (len := 3) (a := 6) (b := 1) (c := 3) (p := 1092) rfl
theorem zg_62_73 : Zgo d 62 73 L st S Q ↔ (zldi L 4 False fun x => Zgo d 62 75 L (zi x :: st) S Q) := Zgo_iff (i := .iload 4) (len := 2) (a := 0) (b := 0) (c := 0) (p := 0) rfl
theorem zg_62_75 : Zgo d 62 75 L st S Q ↔ (zpi st False fun j t => zpa t False fun r t => znn r False fun q o => zop (zlen S q) False fun n => if n.1 = 0 then zix j n.2 False fun x => Zgo d 62 76 L (zi (S.1 q o x) :: t) S Q else False) := Zgo_iff (i := .iaload) (len := 1) (a := 0) (b := 0) (c := 0) (p := 0) rfl
theorem zg_62_76 : Zgo d 62 76 L st S Q ↔ (zpi st False fun v t => zpi t False fun j t => zpa t False fun r t => znn r False fun q o => zop (zArr q) False fun n => if n.1 = 0 then zix j n.2 False fun x => Zgo d 62 77 L t (zsI S.1 q o x v, S.2) Q else False) := Zgo_iff (i := .iastore) (len := 1) (a := 0) (b := 0) (c := 0) (p := 0) rfl
theorem zg_62_77 : Zgo d 62 77 L st S Q ↔ (zldi L 3 False fun x => Zgo d 62 80 (zst L 3 (some (zi (x + 1)))) st S Q) := Zgo_iff (i := .iinc 3 1) (len := 3) (a := 0) (b := 0) (c := 0) (p := 0) rfl
theorem zg_62_80 : Zgo d 62 80 L st S Q ↔ (Zgo d 62 136 L st S Q) := Zgo_iff (i := .goto 56) (len := 3) (a := 0) (b := 0) (c := 0) (p := 0) rfl
theorem zg_62_83 : Zgo d 62 83 L st S Q ↔ (zldi L 3 False fun x => Zgo d 62 84 L (zi x :: st) S Q) := Zgo_iff (i := .iload_n 3) (len := 1) (a := 0) (b := 0) (c := 0) (p := 0) rfl
theorem zg_62_84 : Zgo d 62 84 L st S Q ↔ (Zgo d 62 85 L (zi 2 :: st) S Q) := Zgo_iff (i := .iconst 2) (len := 1) (a := 0) (b := 0) (c := 0) (p := 0) rfl
theorem zg_62_85 : Zgo d 62 85 L st S Q ↔ (zpi st False fun y t => zpi t False fun x t => if zw x < zw y then Zgo d 62 136 L t S Q else Zgo d 62 88 L t S Q) := Zgo_iff (i := .if_icmp .lt 51) (len := 3) (a := 0) (b := 0) (c := 0) (p := 0) rfl
theorem zg_62_88 : Zgo d 62 88 L st S Q ↔ (zldi L 3 False fun x => Zgo d 62 91 (zst L 3 (some (zi (x + (-1))))) st S Q) := Zgo_iff (i := .iinc 3 (-1)) (len := 3) (a := 0) (b := 0) (c := 0) (p := 0) rfl
theorem zg_62_91 : Zgo d 62 91 L st S Q ↔ (zldi L 5 False fun x => Zgo d 62 93 L (zi x :: st) S Q) := Zgo_iff (i := .iload 5) (len := 2) (a := 0) (b := 0) (c := 0) (p := 0) rfl
theorem zg_62_93 : Zgo d 62 93 L st S Q ↔ (Zgo d 62 95 L (zi 47 :: st) S Q) := Zgo_iff (i := .bipush 47) (len := 2) (a := 0) (b := 0) (c := 0) (p := 0) rfl
theorem zg_62_95 : Zgo d 62 95 L st S Q ↔ (zpi st False fun y t => zpi t False fun x t => if zw x = zw y then Zgo d 62 98 L t S Q else Zgo d 62 109 L t S Q) := Zgo_iff (i := .if_icmp .ne 14) (len := 3) (a := 0) (b := 0) (c := 0) (p := 0) rfl
theorem zg_62_98 : Zgo d 62 98 L st S Q ↔ (zlda L 0 False fun r => Zgo d 62 99 L (zq r :: st) S Q) := Zgo_iff (i := .aload_n 0) (len := 1) (a := 0) (b := 0) (c := 0) (p := 0) rfl
theorem zg_62_99 : Zgo d 62 99 L st S Q ↔ (zpa st False fun r t => zde r 6 False fun o => Zgo d 62 102 L (zq (S.2.1 6 o 4) :: t) S Q) := Zgo_iff (i := .getfield 19) (len := 3) (a := 6) (b := 4) (c := 3) (p := 1098) rfl
theorem zg_62_102 : Zgo d 62 102 L st S Q ↔ (zldi L 3 False fun x => Zgo d 62 103 L (zi x :: st) S Q) := Zgo_iff (i := .iload_n 3) (len := 1) (a := 0) (b := 0) (c := 0) (p := 0) rfl
theorem zg_62_103 : Zgo d 62 103 L st S Q ↔ (zpi st False fun j t => zpa t False fun r t => znn r False fun q o => zop (zlen S q) False fun n => if n.1 = 0 then zix j n.2 False fun x => Zgo d 62 104 L (zi (S.1 q o x) :: t) S Q else False) := Zgo_iff (i := .iaload) (len := 1) (a := 0) (b := 0) (c := 0) (p := 0) rfl
theorem zg_62_104 : Zgo d 62 104 L st S Q ↔ (zpi st False fun x t => if zw x = zw 0 then Zgo d 62 107 L t S Q else Zgo d 62 109 L t S Q) := Zgo_iff (i := .ifCond .ne 5) (len := 3) (a := 0) (b := 0) (c := 0) (p := 0) rfl
theorem zg_62_107 : Zgo d 62 107 L st S Q ↔ (Zgo d 62 108 L (zi 0 :: st) S Q) := Zgo_iff (i := .iconst 0) (len := 1) (a := 0) (b := 0) (c := 0) (p := 0) rfl
theorem zg_62_108 : Zgo d 62 108 L st S Q ↔ (zpi st False fun x t => zem t False (zok 1 x False (Q (some (zi x)) S))) := Zgo_iff (i := .ireturn) (len := 1) (a := 0) (b := 0) (c := 0) (p := 0) rfl
theorem zg_62_109 : Zgo d 62 109 L st S Q ↔ (zlda L 0 False fun r => Zgo d 62 110 L (zq r :: st) S Q) := Zgo_iff (i := .aload_n 0) (len := 1) (a := 0) (b := 0) (c := 0) (p := 0) rfl
theorem zg_62_110 : Zgo d 62 110 L st S Q ↔ (zpa st False fun r t => zde r 6 False fun o => Zgo d 62 113 L (zq (S.2.1 6 o 4) :: t) S Q) := Zgo_iff (i := .getfield 19) (len := 3) (a := 6) (b := 4) (c := 3) (p := 1098) rfl
theorem zg_62_113 : Zgo d 62 113 L st S Q ↔ (zldi L 3 False fun x => Zgo d 62 114 L (zi x :: st) S Q) := Zgo_iff (i := .iload_n 3) (len := 1) (a := 0) (b := 0) (c := 0) (p := 0) rfl
theorem zg_62_114 : Zgo d 62 114 L st S Q ↔ (Zgo d 62 115 L (zi 1 :: st) S Q) := Zgo_iff (i := .iconst 1) (len := 1) (a := 0) (b := 0) (c := 0) (p := 0) rfl
theorem zg_62_115 : Zgo d 62 115 L st S Q ↔ (zpi st False fun y t => zpi t False fun x t => Zgo d 62 116 L (zi (x - y) :: t) S Q) := Zgo_iff (i := .isub) (len := 1) (a := 0) (b := 0) (c := 0) (p := 0) rfl
theorem zg_62_116 : Zgo d 62 116 L st S Q ↔ (zldi L 5 False fun x => Zgo d 62 118 L (zi x :: st) S Q) := Zgo_iff (i := .iload 5) (len := 2) (a := 0) (b := 0) (c := 0) (p := 0) rfl
theorem zg_62_118 : Zgo d 62 118 L st S Q ↔ (zlda L 0 False fun r => Zgo d 62 119 L (zq r :: st) S Q) := Zgo_iff (i := .aload_n 0) (len := 1) (a := 0) (b := 0) (c := 0) (p := 0) rfl
theorem zg_62_119 : Zgo d 62 119 L st S Q ↔ (zpa st False fun r t => zde r 6 False fun o => Zgo d 62 122 L (zq (S.2.1 6 o 4) :: t) S Q) := Zgo_iff (i := .getfield 19) (len := 3) (a := 6) (b := 4) (c := 3) (p := 1098) rfl
theorem zg_62_122 : Zgo d 62 122 L st S Q ↔ (zldi L 3 False fun x => Zgo d 62 123 L (zi x :: st) S Q) := Zgo_iff (i := .iload_n 3) (len := 1) (a := 0) (b := 0) (c := 0) (p := 0) rfl
theorem zg_62_123 : Zgo d 62 123 L st S Q ↔ (Zgo d 62 124 L (zi 1 :: st) S Q) := Zgo_iff (i := .iconst 1) (len := 1) (a := 0) (b := 0) (c := 0) (p := 0) rfl
theorem zg_62_124 : Zgo d 62 124 L st S Q ↔ (zpi st False fun y t => zpi t False fun x t => Zgo d 62 125 L (zi (x - y) :: t) S Q) := Zgo_iff (i := .isub) (len := 1) (a := 0) (b := 0) (c := 0) (p := 0) rfl
theorem zg_62_125 : Zgo d 62 125 L st S Q ↔ (zpi st False fun j t => zpa t False fun r t => znn r False fun q o => zop (zlen S q) False fun n => if n.1 = 0 then zix j n.2 False fun x => Zgo d 62 126 L (zi (S.1 q o x) :: t) S Q else False) := Zgo_iff (i := .iaload) (len := 1) (a := 0) (b := 0) (c := 0) (p := 0) rfl
theorem zg_62_126 : Zgo d 62 126 L st S Q ↔ (zlda L 0 False fun r => Zgo d 62 127 L (zq r :: st) S Q) := Zgo_iff (i := .aload_n 0) (len := 1) (a := 0) (b := 0) (c := 0) (p := 0) rfl
theorem zg_62_127 : Zgo d 62 127 L st S Q ↔ (zpa st False fun r t => zde r 6 False fun o => Zgo d 62 130 L (zq (S.2.1 6 o 4) :: t) S Q) := Zgo_iff (i := .getfield 19) (len := 3) (a := 6) (b := 4) (c := 3) (p := 1098) rfl
theorem zg_62_130 : Zgo d 62 130 L st S Q ↔ (zldi L 3 False fun x => Zgo d 62 131 L (zi x :: st) S Q) := Zgo_iff (i := .iload_n 3) (len := 1) (a := 0) (b := 0) (c := 0) (p := 0) rfl
theorem zg_62_131 : Zgo d 62 131 L st S Q ↔ (zpi st False fun j t => zpa t False fun r t => znn r False fun q o => zop (zlen S q) False fun n => if n.1 = 0 then zix j n.2 False fun x => Zgo d 62 132 L (zi (S.1 q o x) :: t) S Q else False) := Zgo_iff (i := .iaload) (len := 1) (a := 0) (b := 0) (c := 0) (p := 0) rfl
theorem zg_62_132 : Zgo d 62 132 L st S Q ↔ (zinv 3 st False fun as t => zCp d 63 as S fun r S2 => Zgo d 62 135 L (r.toList ++ t) S2 Q) := Zgo_iff (i := .invokestatic 34) (len := 3) (a := 63) (b := 3) (c := 1) (p := 4031) rfl
theorem zg_62_135 : Zgo d 62 135 L st S Q ↔ (zpi st False fun v t => zpi t False fun j t => zpa t False fun r t => znn r False fun q o => zop (zArr q) False fun n => if n.1 = 0 then zix j n.2 False fun x => Zgo d 62 136 L t (zsI S.1 q o x v, S.2) Q else False) := Zgo_iff (i := .iastore) (len := 1) (a := 0) (b := 0) (c := 0) (p := 0) rfl
theorem zg_62_136 : Zgo d 62 136 L st S Q ↔ (zldi L 4 False fun x => Zgo d 62 139 (zst L 4 (some (zi (x + 1)))) st S Q) := Zgo_iff (i := .iinc 4 1) (len := 3) (a := 0) (b := 0) (c := 0) (p := 0) rfl
theorem zg_62_139 : Zgo d 62 139 L st S Q ↔ (Zgo d 62 8 L st S Q) := Zgo_iff (i := .goto (-131)) (len := 3) (a := 0) (b := 0) (c := 0) (p := 0) rfl
theorem zg_62_142 : Zgo d 62 142 L st S Q ↔ (zlda L 0 False fun r => Zgo d 62 143 L (zq r :: st) S Q) := Zgo_iff (i := .aload_n 0) (len := 1) (a := 0) (b := 0) (c := 0) (p := 0) rfl
theorem zg_62_143 : Zgo d 62 143 L st S Q ↔ (zlda L 0 False fun r => Zgo d 62 144 L (zq r :: st) S Q) := Zgo_iff (i := .aload_n 0) (len := 1) (a := 0) (b := 0) (c := 0) (p := 0) rfl
theorem zg_62_144 : Zgo d 62 144 L st S Q ↔ (zpa st False fun r t => zde r 6 False fun o => Zgo d 62 147 L (zq (S.2.1 6 o 4) :: t) S Q) := Zgo_iff (i := .getfield 19) (len := 3) (a := 6) (b := 4) (c := 3) (p := 1098) rfl
theorem zg_62_147 : Zgo d 62 147 L st S Q ↔ (Zgo d 62 148 L (zi 0 :: st) S Q) := Zgo_iff (i := .iconst 0) (len := 1) (a := 0) (b := 0) (c := 0) (p := 0) rfl
theorem zg_62_148 : Zgo d 62 148 L st S Q ↔ (zpi st False fun j t => zpa t False fun r t => znn r False fun q o => zop (zlen S q) False fun n => if n.1 = 0 then zix j n.2 False fun x => Zgo d 62 149 L (zi (S.1 q o x) :: t) S Q else False) := Zgo_iff (i := .iaload) (len := 1) (a := 0) (b := 0) (c := 0) (p := 0) rfl
theorem zg_62_149 : Zgo d 62 149 L st S Q ↔ (zpi st False fun v t => zpa t False fun r t => zde r 6 False fun o => Zgo d 62 152 L t (zsI S.1 6 o 3 v, S.2) Q) := Zgo_iff (i := .putfield 38) (len := 3) (a := 6) (b := 3) (c := 0) (p := 1096) rfl
theorem zg_62_152 : Zgo d 62 152 L st S Q ↔ (Zgo d 62 153 L (zi 1 :: st) S Q) := Zgo_iff (i := .iconst 1) (len := 1) (a := 0) (b := 0) (c := 0) (p := 0) rfl
theorem zg_62_153 : Zgo d 62 153 L st S Q ↔ (zpi st False fun x t => zem t False (zok 1 x False (Q (some (zi x)) S))) := Zgo_iff (i := .ireturn) (len := 1) (a := 0) (b := 0) (c := 0) (p := 0) rfl
/-- LeavingMachine$Expressions.combine(CII)I -/
theorem zg_63_0 : Zgo d 63 0 L st S Q ↔ (zldi L 0 False fun x => Zgo d 63 1 L (zi x :: st) S Q) := Zgo_iff (i := .iload_n 0) (len := 1) (a := 0) (b := 0) (c := 0) (p := 0) rfl
theorem zg_63_40 : Zgo d 63 40 L st S Q ↔ (zldi L 1 False fun x => Zgo d 63 41 L (zi x :: st) S Q) := Zgo_iff (i := .iload_n 1) (len := 1) (a := 0) (b := 0) (c := 0) (p := 0) rfl
theorem zg_63_41 : Zgo d 63 41 L st S Q ↔ (zldi L 2 False fun x => Zgo d 63 42 L (zi x :: st) S Q) := Zgo_iff (i := .iload_n 2) (len := 1) (a := 0) (b := 0) (c := 0) (p := 0) rfl
theorem zg_63_42 : Zgo d 63 42 L st S Q ↔ (zpi st False fun y t => zpi t False fun x t => Zgo d 63 43 L (zi (x + y) :: t) S Q) := Zgo_iff (i := .iadd) (len := 1) (a := 0) (b := 0) (c := 0) (p := 0) rfl
theorem zg_63_43 : Zgo d 63 43 L st S Q ↔ (zpi st False fun x t => zem t False (Q (some (zi x)) S)) := Zgo_iff (i := .ireturn) (len := 1) (a := 0) (b := 0) (c := 0) (p := 0) rfl
theorem zg_63_44 : Zgo d 63 44 L st S Q ↔ (zldi L 1 False fun x => Zgo d 63 45 L (zi x :: st) S Q) := Zgo_iff (i := .iload_n 1) (len := 1) (a := 0) (b := 0) (c := 0) (p := 0) rfl
theorem zg_63_45 : Zgo d 63 45 L st S Q ↔ (zldi L 2 False fun x => Zgo d 63 46 L (zi x :: st) S Q) := Zgo_iff (i := .iload_n 2) (len := 1) (a := 0) (b := 0) (c := 0) (p := 0) rfl
theorem zg_63_46 : Zgo d 63 46 L st S Q ↔ (zpi st False fun y t => zpi t False fun x t => Zgo d 63 47 L (zi (x - y) :: t) S Q) := Zgo_iff (i := .isub) (len := 1) (a := 0) (b := 0) (c := 0) (p := 0) rfl
theorem zg_63_47 : Zgo d 63 47 L st S Q ↔ (zpi st False fun x t => zem t False (Q (some (zi x)) S)) := Zgo_iff (i := .ireturn) (len := 1) (a := 0) (b := 0) (c := 0) (p := 0) rfl
theorem zg_63_48 : Zgo d 63 48 L st S Q ↔ (zldi L 1 False fun x => Zgo d 63 49 L (zi x :: st) S Q) := Zgo_iff (i := .iload_n 1) (len := 1) (a := 0) (b := 0) (c := 0) (p := 0) rfl
theorem zg_63_49 : Zgo d 63 49 L st S Q ↔ (zldi L 2 False fun x => Zgo d 63 50 L (zi x :: st) S Q) := Zgo_iff (i := .iload_n 2) (len := 1) (a := 0) (b := 0) (c := 0) (p := 0) rfl
theorem zg_63_50 : Zgo d 63 50 L st S Q ↔ (zpi st False fun y t => zpi t False fun x t => Zgo d 63 51 L (zi (x * y) :: t) S Q) := Zgo_iff (i := .imul) (len := 1) (a := 0) (b := 0) (c := 0) (p := 0) rfl
theorem zg_63_51 : Zgo d 63 51 L st S Q ↔ (zpi st False fun x t => zem t False (Q (some (zi x)) S)) := Zgo_iff (i := .ireturn) (len := 1) (a := 0) (b := 0) (c := 0) (p := 0) rfl
theorem zg_63_52 : Zgo d 63 52 L st S Q ↔ (zldi L 1 False fun x => Zgo d 63 53 L (zi x :: st) S Q) := Zgo_iff (i := .iload_n 1) (len := 1) (a := 0) (b := 0) (c := 0) (p := 0) rfl
theorem zg_63_53 : Zgo d 63 53 L st S Q ↔ (zldi L 2 False fun x => Zgo d 63 54 L (zi x :: st) S Q) := Zgo_iff (i := .iload_n 2) (len := 1) (a := 0) (b := 0) (c := 0) (p := 0) rfl
theorem zg_63_54 : Zgo d 63 54 L st S Q ↔ (zpi st False fun y t => zpi t False fun x t => if zw y = 0 then False else Zgo d 63 55 L (zi (zdiv x y) :: t) S Q) := Zgo_iff (i := .idiv) (len := 1) (a := 0) (b := 0) (c := 0) (p := 0) rfl
theorem zg_63_55 : Zgo d 63 55 L st S Q ↔ (zpi st False fun x t => zem t False (Q (some (zi x)) S)) := Zgo_iff (i := .ireturn) (len := 1) (a := 0) (b := 0) (c := 0) (p := 0) rfl
theorem zg_63_56 : Zgo d 63 56 L st S Q ↔ (zldi L 1 False fun x => Zgo d 63 57 L (zi x :: st) S Q) := Zgo_iff (i := .iload_n 1) (len := 1) (a := 0) (b := 0) (c := 0) (p := 0) rfl
theorem zg_63_57 : Zgo d 63 57 L st S Q ↔ (zldi L 2 False fun x => Zgo d 63 58 L (zi x :: st) S Q) := Zgo_iff (i := .iload_n 2) (len := 1) (a := 0) (b := 0) (c := 0) (p := 0) rfl
theorem zg_63_58 : Zgo d 63 58 L st S Q ↔ (zpi st False fun y t => zpi t False fun x t => if zw x < zw y then Zgo d 63 61 L t S Q else Zgo d 63 65 L t S Q) := Zgo_iff (i := .if_icmp .ge 7) (len := 3) (a := 0) (b := 0) (c := 0) (p := 0) rfl
theorem zg_63_61 : Zgo d 63 61 L st S Q ↔ (Zgo d 63 62 L (zi 1 :: st) S Q) := Zgo_iff (i := .iconst 1) (len := 1) (a := 0) (b := 0) (c := 0) (p := 0) rfl
theorem zg_63_62 : Zgo d 63 62 L st S Q ↔ (Zgo d 63 66 L st S Q) := Zgo_iff (i := .goto 4) (len := 3) (a := 0) (b := 0) (c := 0) (p := 0) rfl
theorem zg_63_65 : Zgo d 63 65 L st S Q ↔ (Zgo d 63 66 L (zi 0 :: st) S Q) := Zgo_iff (i := .iconst 0) (len := 1) (a := 0) (b := 0) (c := 0) (p := 0) rfl
theorem zg_63_66 : Zgo d 63 66 L st S Q ↔ (zpi st False fun x t => zem t False (Q (some (zi x)) S)) := Zgo_iff (i := .ireturn) (len := 1) (a := 0) (b := 0) (c := 0) (p := 0) rfl
/-- LeavingMachine$Runner.raise(II)LLeavingMachine$Way; -/
theorem zg_64_0 : Zgo d 64 0 L st S Q ↔ (zlda L 0 False fun r => Zgo d 64 1 L (zq r :: st) S Q) := Zgo_iff (i := .aload_n 0) (len := 1) (a := 0) (b := 0) (c := 0) (p := 0) rfl
theorem zg_64_1 : Zgo d 64 1 L st S Q ↔ (zldi L 1 False fun x => Zgo d 64 2 L (zi x :: st) S Q) := Zgo_iff (i := .iload_n 1) (len := 1) (a := 0) (b := 0) (c := 0) (p := 0) rfl
theorem zg_64_2 : Zgo d 64 2 L st S Q ↔ (zpi st False fun v t => zpa t False fun r t => zde r 10 False fun o => Zgo d 64 5 L t (zsI S.1 10 o 7 v, S.2) Q) := Zgo_iff (i := .putfield 154) (len := 3) (a := 10) (b := 7) (c := 0) (p := 2086) rfl
theorem zg_64_5 : Zgo d 64 5 L st S Q ↔ (zlda L 0 False fun r => Zgo d 64 6 L (zq r :: st) S Q) := Zgo_iff (i := .aload_n 0) (len := 1) (a := 0) (b := 0) (c := 0) (p := 0) rfl
theorem zg_64_6 : Zgo d 64 6 L st S Q ↔ (zldi L 2 False fun x => Zgo d 64 7 L (zi x :: st) S Q) := Zgo_iff (i := .iload_n 2) (len := 1) (a := 0) (b := 0) (c := 0) (p := 0) rfl
theorem zg_64_7 : Zgo d 64 7 L st S Q ↔ (zpi st False fun v t => zpa t False fun r t => zde r 10 False fun o => Zgo d 64 10 L t (zsI S.1 10 o 8 v, S.2) Q) := Zgo_iff (i := .putfield 157) (len := 3) (a := 10) (b := 8) (c := 0) (p := 2088) rfl
theorem zg_64_10 : Zgo d 64 10 L st S Q ↔ (Zgo d 64 13 L (zq (some (90, 4)) :: st) S Q) := Zgo_iff (i := .getstatic 66) (len := 3) (a := 90) (b := 4) (c := 0) (p := 4038) rfl
theorem zg_64_13 : Zgo d 64 13 L st S Q ↔ (zpa st False fun x t => zem t False (Q (some (zq x)) S)) := Zgo_iff (i := .areturn) (len := 1) (a := 0) (b := 0) (c := 0) (p := 0) rfl
/-- LeavingMachine$Runner.putOut(LLeavingMachine$Statement;)LLeavingMachine$Way; -/
theorem zg_65_0 : Zgo d 65 0 L st S Q ↔ (zlda L 0 False fun r => Zgo d 65 1 L (zq r :: st) S Q) := Zgo_iff (i := .aload_n 0) (len := 1) (a := 0) (b := 0) (c := 0) (p := 0) rfl
theorem zg_65_1 : Zgo d 65 1 L st S Q ↔ (zpa st False fun r t => zde r 10 False fun o => Zgo d 65 4 L (zq (S.2.1 10 o 9) :: t) S Q) := Zgo_iff (i := .getfield 22) (len := 3) (a := 10) (b := 9) (c := 3) (p := 2089) rfl
theorem zg_65_4 : Zgo d 65 4 L st S Q ↔ (zpa st False fun r t => zde r 7 False fun o => Zgo d 65 7 L (zq (S.2.1 7 o 3) :: t) S Q) := Zgo_iff (i := .getfield 132) (len := 3) (a := 7) (b := 3) (c := 3) (p := 1239) rfl
theorem zg_65_7 : Zgo d 65 7 L st S Q ↔ (zlda L 1 False fun r => Zgo d 65 8 L (zq r :: st) S Q) := Zgo_iff (i := .aload_n 1) (len := 1) (a := 0) (b := 0) (c := 0) (p := 0) rfl
theorem zg_65_8 : Zgo d 65 8 L st S Q ↔ (zlda L 0 False fun r => Zgo d 65 9 L (zq r :: st) S Q) := Zgo_iff (i := .aload_n 0) (len := 1) (a := 0) (b := 0) (c := 0) (p := 0) rfl
theorem zg_65_9 : Zgo d 65 9 L st S Q ↔ (zpa st False fun r t => zde r 10 False fun o => Zgo d 65 12 L (zq (S.2.1 10 o 0) :: t) S Q) := Zgo_iff (i := .getfield 9) (len := 3) (a := 10) (b := 0) (c := 3) (p := 2071) rfl
theorem zg_65_12 : Zgo d 65 12 L st S Q ↔ (zinv 3 st False fun as t => zrec as 6 False (zCp d 62 as S fun r S2 => Zgo d 65 15 L (r.toList ++ t) S2 Q)) := Zgo_iff (i := .invokevirtual 136) (len := 3) (a := 62) (b := 3) (c := 0) (p := 4027) rfl
theorem zg_65_15 : Zgo d 65 15 L st S Q ↔ (zpi st False fun x t => if zw x = zw 0 then Zgo d 65 18 L t S Q else Zgo d 65 25 L t S Q) := Zgo_iff (i := .ifCond .ne 10) (len := 3) (a := 0) (b := 0) (c := 0) (p := 0) rfl
theorem zg_65_18 : Zgo d 65 18 L st S Q ↔ (zlda L 0 False fun r => Zgo d 65 19 L (zq r :: st) S Q) := Zgo_iff (i := .aload_n 0) (len := 1) (a := 0) (b := 0) (c := 0) (p := 0) rfl
theorem zg_65_19 : Zgo d 65 19 L st S Q ↔ (Zgo d 65 20 L (zi 5 :: st) S Q) := Zgo_iff (i := .iconst 5) (len := 1) (a := 0) (b := 0) (c := 0) (p := 0) rfl
theorem zg_65_20 : Zgo d 65 20 L st S Q ↔ (Zgo d 65 21 L (zi 0 :: st) S Q) := Zgo_iff (i := .iconst 0) (len := 1) (a := 0) (b := 0) (c := 0) (p := 0) rfl
theorem zg_65_21 : Zgo d 65 21 L st S Q ↔ (zinv 3 st False fun as t => zrec as 10 False (zCp d 64 as S fun r S2 => Zgo d 65 24 L (r.toList ++ t) S2 Q)) := Zgo_iff (i := .invokevirtual 122) (len := 3) (a := 64) (b := 3) (c := 0) (p := 4034) rfl
theorem zg_65_24 : Zgo d 65 24 L st S Q ↔ (zpa st False fun x t => zem t False (Q (some (zq x)) S)) := Zgo_iff (i := .areturn) (len := 1) (a := 0) (b := 0) (c := 0) (p := 0) rfl
theorem zg_65_25 : Zgo d 65 25 L st S Q ↔ (zlda L 0 False fun r => Zgo d 65 26 L (zq r :: st) S Q) := Zgo_iff (i := .aload_n 0) (len := 1) (a := 0) (b := 0) (c := 0) (p := 0) rfl
theorem zg_65_26 : Zgo d 65 26 L st S Q ↔ (zpa st False fun r t => zde r 10 False fun o => Zgo d 65 29 L (zi (S.1 10 o 2) :: t) S Q) := Zgo_iff (i := .getfield 26) (len := 3) (a := 10) (b := 2) (c := 0) (p := 2075) rfl
theorem zg_65_29 : Zgo d 65 29 L st S Q ↔ (Zgo d 65 31 L (zi 24 :: st) S Q) := Zgo_iff (i := .bipush 24) (len := 2) (a := 0) (b := 0) (c := 0) (p := 0) rfl
theorem zg_65_31 : Zgo d 65 31 L st S Q ↔ (zpi st False fun y t => zpi t False fun x t => if zw x = zw y then Zgo d 65 34 L t S Q else Zgo d 65 42 L t S Q) := Zgo_iff (i := .if_icmp .ne 11) (len := 3) (a := 0) (b := 0) (c := 0) (p := 0) rfl
theorem zg_65_34 : Zgo d 65 34 L st S Q ↔ (zlda L 0 False fun r => Zgo d 65 35 L (zq r :: st) S Q) := Zgo_iff (i := .aload_n 0) (len := 1) (a := 0) (b := 0) (c := 0) (p := 0) rfl
theorem zg_65_35 : Zgo d 65 35 L st S Q ↔ (Zgo d 65 37 L (zi 7 :: st) S Q) := Zgo_iff (i := .bipush 7) (len := 2) (a := 0) (b := 0) (c := 0) (p := 0) rfl
theorem zg_65_37 : Zgo d 65 37 L st S Q ↔ (Zgo d 65 38 L (zi 0 :: st) S Q) := Zgo_iff (i := .iconst 0) (len := 1) (a := 0) (b := 0) (c := 0) (p := 0) rfl
theorem zg_65_38 : Zgo d 65 38 L st S Q ↔ (zinv 3 st False fun as t => zrec as 10 False (zCp d 64 as S fun r S2 => Zgo d 65 41 L (r.toList ++ t) S2 Q)) := Zgo_iff (i := .invokevirtual 122) (len := 3) (a := 64) (b := 3) (c := 0) (p := 4034) rfl
theorem zg_65_41 : Zgo d 65 41 L st S Q ↔ (zpa st False fun x t => zem t False (Q (some (zq x)) S)) := Zgo_iff (i := .areturn) (len := 1) (a := 0) (b := 0) (c := 0) (p := 0) rfl
theorem zg_65_42 : Zgo d 65 42 L st S Q ↔ (zlda L 0 False fun r => Zgo d 65 43 L (zq r :: st) S Q) := Zgo_iff (i := .aload_n 0) (len := 1) (a := 0) (b := 0) (c := 0) (p := 0) rfl
theorem zg_65_43 : Zgo d 65 43 L st S Q ↔ (zpa st False fun r t => zde r 10 False fun o => Zgo d 65 46 L (zq (S.2.1 10 o 1) :: t) S Q) := Zgo_iff (i := .getfield 15) (len := 3) (a := 10) (b := 1) (c := 3) (p := 2073) rfl
theorem zg_65_46 : Zgo d 65 46 L st S Q ↔ (zlda L 0 False fun r => Zgo d 65 47 L (zq r :: st) S Q) := Zgo_iff (i := .aload_n 0) (len := 1) (a := 0) (b := 0) (c := 0) (p := 0) rfl
theorem zg_65_47 : Zgo d 65 47 L st S Q ↔ (zp1 st False fun v t => Zgo d 65 48 L (v :: v :: t) S Q) := Zgo_iff (i := .dup) (len := 1) (a := 0) (b := 0) (c := 0) (p := 0) rfl
theorem zg_65_48 : Zgo d 65 48 L st S Q ↔ (zpa st False fun r t => zde r 10 False fun o => Zgo d 65 51 L (zi (S.1 10 o 2) :: t) S Q) := Zgo_iff (i := .getfield 26) (len := 3) (a := 10) (b := 2) (c := 0) (p := 2075) rfl
theorem zg_65_51 : Zgo d 65 51 L st S Q ↔ (zp1 st False fun v t => zp1 t False fun u t => Zgo d 65 52 L (v :: u :: v :: t) S Q) := Zgo_iff (i := .dup_x1) (len := 1) (a := 0) (b := 0) (c := 0) (p := 0) rfl
theorem zg_65_52 : Zgo d 65 52 L st S Q ↔ (Zgo d 65 53 L (zi 1 :: st) S Q) := Zgo_iff (i := .iconst 1) (len := 1) (a := 0) (b := 0) (c := 0) (p := 0) rfl
theorem zg_65_53 : Zgo d 65 53 L st S Q ↔ (zpi st False fun y t => zpi t False fun x t => Zgo d 65 54 L (zi (x + y) :: t) S Q) := Zgo_iff (i := .iadd) (len := 1) (a := 0) (b := 0) (c := 0) (p := 0) rfl
theorem zg_65_54 : Zgo d 65 54 L st S Q ↔ (zpi st False fun v t => zpa t False fun r t => zde r 10 False fun o => Zgo d 65 57 L t (zsI S.1 10 o 2 v, S.2) Q) := Zgo_iff (i := .putfield 26) (len := 3) (a := 10) (b := 2) (c := 0) (p := 2075) rfl
theorem zg_65_57 : Zgo d 65 57 L st S Q ↔ (zlda L 0 False fun r => Zgo d 65 58 L (zq r :: st) S Q) := Zgo_iff (i := .aload_n 0) (len := 1) (a := 0) (b := 0) (c := 0) (p := 0) rfl
theorem zg_65_58 : Zgo d 65 58 L st S Q ↔ (zpa st False fun r t => zde r 10 False fun o => Zgo d 65 61 L (zq (S.2.1 10 o 9) :: t) S Q) := Zgo_iff (i := .getfield 22) (len := 3) (a := 10) (b := 9) (c := 3) (p := 2089) rfl
theorem zg_65_61 : Zgo d 65 61 L st S Q ↔ (zpa st False fun r t => zde r 7 False fun o => Zgo d 65 64 L (zq (S.2.1 7 o 3) :: t) S Q) := Zgo_iff (i := .getfield 132) (len := 3) (a := 7) (b := 3) (c := 3) (p := 1239) rfl
theorem zg_65_64 : Zgo d 65 64 L st S Q ↔ (zpa st False fun r t => zde r 6 False fun o => Zgo d 65 67 L (zi (S.1 6 o 3) :: t) S Q) := Zgo_iff (i := .getfield 145) (len := 3) (a := 6) (b := 3) (c := 0) (p := 1097) rfl
theorem zg_65_67 : Zgo d 65 67 L st S Q ↔ (zpi st False fun v t => zpi t False fun j t => zpa t False fun r t => znn r False fun q o => zop (zArr q) False fun n => if n.1 = 0 then zix j n.2 False fun x => Zgo d 65 68 L t (zsI S.1 q o x v, S.2) Q else False) := Zgo_iff (i := .iastore) (len := 1) (a := 0) (b := 0) (c := 0) (p := 0) rfl
theorem zg_65_68 : Zgo d 65 68 L st S Q ↔ (Zgo d 65 71 L (zq (some (90, 0)) :: st) S Q) := Zgo_iff (i := .getstatic 69) (len := 3) (a := 90) (b := 0) (c := 0) (p := 4015) rfl
theorem zg_65_71 : Zgo d 65 71 L st S Q ↔ (zpa st False fun x t => zem t False (Q (some (zq x)) S)) := Zgo_iff (i := .areturn) (len := 1) (a := 0) (b := 0) (c := 0) (p := 0) rfl
/-- LeavingMachine$Runner.choose(LLeavingMachine$Statement;I)LLeavingMachine$Way; -/
theorem zg_66_0 : Zgo d 66 0 L st S Q ↔ (zlda L 0 False fun r => Zgo d 66 1 L (zq r :: st) S Q) := Zgo_iff (i := .aload_n 0) (len := 1) (a := 0) (b := 0) (c := 0) (p := 0) rfl
theorem zg_66_1 : Zgo d 66 1 L st S Q ↔ (zpa st False fun r t => zde r 10 False fun o => Zgo d 66 4 L (zq (S.2.1 10 o 9) :: t) S Q) := Zgo_iff (i := .getfield 22) (len := 3) (a := 10) (b := 9) (c := 3) (p := 2089) rfl
theorem zg_66_4 : Zgo d 66 4 L st S Q ↔ (zpa st False fun r t => zde r 7 False fun o => Zgo d 66 7 L (zq (S.2.1 7 o 3) :: t) S Q) := Zgo_iff (i := .getfield 132) (len := 3) (a := 7) (b := 3) (c := 3) (p := 1239) rfl
theorem zg_66_7 : Zgo d 66 7 L st S Q ↔ (zlda L 1 False fun r => Zgo d 66 8 L (zq r :: st) S Q) := Zgo_iff (i := .aload_n 1) (len := 1) (a := 0) (b := 0) (c := 0) (p := 0) rfl
theorem zg_66_8 : Zgo d 66 8 L st S Q ↔ (zlda L 0 False fun r => Zgo d 66 9 L (zq r :: st) S Q) := Zgo_iff (i := .aload_n 0) (len := 1) (a := 0) (b := 0) (c := 0) (p := 0) rfl
theorem zg_66_9 : Zgo d 66 9 L st S Q ↔ (zpa st False fun r t => zde r 10 False fun o => Zgo d 66 12 L (zq (S.2.1 10 o 0) :: t) S Q) := Zgo_iff (i := .getfield 9) (len := 3) (a := 10) (b := 0) (c := 3) (p := 2071) rfl
theorem zg_66_12 : Zgo d 66 12 L st S Q ↔ (zinv 3 st False fun as t => zrec as 6 False (zCp d 62 as S fun r S2 => Zgo d 66 15 L (r.toList ++ t) S2 Q)) := Zgo_iff (i := .invokevirtual 136) (len := 3) (a := 62) (b := 3) (c := 0) (p := 4027) rfl
theorem zg_66_15 : Zgo d 66 15 L st S Q ↔ (zpi st False fun x t => if zw x = zw 0 then Zgo d 66 18 L t S Q else Zgo d 66 25 L t S Q) := Zgo_iff (i := .ifCond .ne 10) (len := 3) (a := 0) (b := 0) (c := 0) (p := 0) rfl
theorem zg_66_18 : Zgo d 66 18 L st S Q ↔ (zlda L 0 False fun r => Zgo d 66 19 L (zq r :: st) S Q) := Zgo_iff (i := .aload_n 0) (len := 1) (a := 0) (b := 0) (c := 0) (p := 0) rfl
theorem zg_66_19 : Zgo d 66 19 L st S Q ↔ (Zgo d 66 20 L (zi 5 :: st) S Q) := Zgo_iff (i := .iconst 5) (len := 1) (a := 0) (b := 0) (c := 0) (p := 0) rfl
theorem zg_66_20 : Zgo d 66 20 L st S Q ↔ (Zgo d 66 21 L (zi 0 :: st) S Q) := Zgo_iff (i := .iconst 0) (len := 1) (a := 0) (b := 0) (c := 0) (p := 0) rfl
theorem zg_66_21 : Zgo d 66 21 L st S Q ↔ (zinv 3 st False fun as t => zrec as 10 False (zCp d 64 as S fun r S2 => Zgo d 66 24 L (r.toList ++ t) S2 Q)) := Zgo_iff (i := .invokevirtual 122) (len := 3) (a := 64) (b := 3) (c := 0) (p := 4034) rfl
theorem zg_66_24 : Zgo d 66 24 L st S Q ↔ (zpa st False fun x t => zem t False (Q (some (zq x)) S)) := Zgo_iff (i := .areturn) (len := 1) (a := 0) (b := 0) (c := 0) (p := 0) rfl
theorem zg_66_25 : Zgo d 66 25 L st S Q ↔ (zlda L 0 False fun r => Zgo d 66 26 L (zq r :: st) S Q) := Zgo_iff (i := .aload_n 0) (len := 1) (a := 0) (b := 0) (c := 0) (p := 0) rfl
theorem zg_66_26 : Zgo d 66 26 L st S Q ↔ (zlda L 0 False fun r => Zgo d 66 27 L (zq r :: st) S Q) := Zgo_iff (i := .aload_n 0) (len := 1) (a := 0) (b := 0) (c := 0) (p := 0) rfl
theorem zg_66_27 : Zgo d 66 27 L st S Q ↔ (zpa st False fun r t => zde r 10 False fun o => Zgo d 66 30 L (zq (S.2.1 10 o 9) :: t) S Q) := Zgo_iff (i := .getfield 22) (len := 3) (a := 10) (b := 9) (c := 3) (p := 2089) rfl
theorem zg_66_30 : Zgo d 66 30 L st S Q ↔ (zpa st False fun r t => zde r 7 False fun o => Zgo d 66 33 L (zq (S.2.1 7 o 3) :: t) S Q) := Zgo_iff (i := .getfield 132) (len := 3) (a := 7) (b := 3) (c := 3) (p := 1239) rfl
theorem zg_66_33 : Zgo d 66 33 L st S Q ↔ (zpa st False fun r t => zde r 6 False fun o => Zgo d 66 36 L (zi (S.1 6 o 3) :: t) S Q) := Zgo_iff (i := .getfield 145) (len := 3) (a := 6) (b := 3) (c := 0) (p := 1097) rfl
theorem zg_66_36 : Zgo d 66 36 L st S Q ↔ (zpi st False fun x t => if zw x = zw 0 then Zgo d 66 46 L t S Q else Zgo d 66 39 L t S Q) := Zgo_iff (i := .ifCond .eq 10) (len := 3) (a := 0) (b := 0) (c := 0) (p := 0) rfl
theorem zg_66_39 : Zgo d 66 39 L st S Q ↔ (zlda L 1 False fun r => Zgo d 66 40 L (zq r :: st) S Q) := Zgo_iff (i := .aload_n 1) (len := 1) (a := 0) (b := 0) (c := 0) (p := 0) rfl
theorem zg_66_40 : Zgo d 66 40 L st S Q ↔ (zpa st False fun r t => zde r 4 False fun o => Zgo d 66 43 L (zq (S.2.1 4 o 7) :: t) S Q) := Zgo_iff (i := .getfield 148) (len := 3) (a := 4) (b := 7) (c := 3) (p := 1141) rfl
theorem zg_66_43 : Zgo d 66 43 L st S Q ↔ (Zgo d 66 50 L st S Q) := Zgo_iff (i := .goto 7) (len := 3) (a := 0) (b := 0) (c := 0) (p := 0) rfl
theorem zg_66_46 : Zgo d 66 46 L st S Q ↔ (zlda L 1 False fun r => Zgo d 66 47 L (zq r :: st) S Q) := Zgo_iff (i := .aload_n 1) (len := 1) (a := 0) (b := 0) (c := 0) (p := 0) rfl
theorem zg_66_47 : Zgo d 66 47 L st S Q ↔ (zpa st False fun r t => zde r 4 False fun o => Zgo d 66 50 L (zq (S.2.1 4 o 8) :: t) S Q) := Zgo_iff (i := .getfield 151) (len := 3) (a := 4) (b := 8) (c := 3) (p := 1144) rfl
theorem zg_66_50 : Zgo d 66 50 L st S Q ↔ (zldi L 2 False fun x => Zgo d 66 51 L (zi x :: st) S Q) := Zgo_iff (i := .iload_n 2) (len := 1) (a := 0) (b := 0) (c := 0) (p := 0) rfl
theorem zg_66_51 : Zgo d 66 51 L st S Q ↔ (zinv 3 st False fun as t => zrec as 10 False (zCp d 59 as S fun r S2 => Zgo d 66 54 L (r.toList ++ t) S2 Q)) := Zgo_iff (i := .invokevirtual 56) (len := 3) (a := 59) (b := 3) (c := 0) (p := 4011) rfl
theorem zg_66_54 : Zgo d 66 54 L st S Q ↔ (zpa st False fun x t => zem t False (Q (some (zq x)) S)) := Zgo_iff (i := .areturn) (len := 1) (a := 0) (b := 0) (c := 0) (p := 0) rfl
/-- LeavingMachine$Runner.repeat(LLeavingMachine$Statement;I)LLeavingMachine$Way; -/
theorem zg_67_0 : Zgo d 67 0 L st S Q ↔ (zlda L 0 False fun r => Zgo d 67 1 L (zq r :: st) S Q) := Zgo_iff (i := .aload_n 0) (len := 1) (a := 0) (b := 0) (c := 0) (p := 0) rfl
theorem zg_67_1 : Zgo d 67 1 L st S Q ↔ (zpa st False fun r t => zde r 10 False fun o => Zgo d 67 4 L (zi (S.1 10 o 5) :: t) S Q) := Zgo_iff (i := .getfield 32) (len := 3) (a := 10) (b := 5) (c := 0) (p := 2081) rfl
theorem zg_67_4 : Zgo d 67 4 L st S Q ↔ (zpi st False fun x t => if zw 0 < zw x then Zgo d 67 7 L t S Q else Zgo d 67 99 L t S Q) := Zgo_iff (i := .ifCond .le 95) (len := 3) (a := 0) (b := 0) (c := 0) (p := 0) rfl
theorem zg_67_7 : Zgo d 67 7 L st S Q ↔ (zlda L 0 False fun r => Zgo d 67 8 L (zq r :: st) S Q) := Zgo_iff (i := .aload_n 0) (len := 1) (a := 0) (b := 0) (c := 0) (p := 0) rfl
theorem zg_67_8 : Zgo d 67 8 L st S Q ↔ (zp1 st False fun v t => Zgo d 67 9 L (v :: v :: t) S Q) := Zgo_iff (i := .dup) (len := 1) (a := 0) (b := 0) (c := 0) (p := 0) rfl
theorem zg_67_9 : Zgo d 67 9 L st S Q ↔ (zpa st False fun r t => zde r 10 False fun o => Zgo d 67 12 L (zi (S.1 10 o 5) :: t) S Q) := Zgo_iff (i := .getfield 32) (len := 3) (a := 10) (b := 5) (c := 0) (p := 2081) rfl
theorem zg_67_12 : Zgo d 67 12 L st S Q ↔ (Zgo d 67 13 L (zi 1 :: st) S Q) := Zgo_iff (i := .iconst 1) (len := 1) (a := 0) (b := 0) (c := 0) (p := 0) rfl
theorem zg_67_13 : Zgo d 67 13 L st S Q ↔ (zpi st False fun y t => zpi t False fun x t => Zgo d 67 14 L (zi (x - y) :: t) S Q) := Zgo_iff (i := .isub) (len := 1) (a := 0) (b := 0) (c := 0) (p := 0) rfl
theorem zg_67_14 : Zgo d 67 14 L st S Q ↔ (zpi st False fun v t => zpa t False fun r t => zde r 10 False fun o => Zgo d 67 17 L t (zsI S.1 10 o 5 v, S.2) Q) := Zgo_iff (i := .putfield 32) (len := 3) (a := 10) (b := 5) (c := 0) (p := 2081) rfl
theorem zg_67_17 : Zgo d 67 17 L st S Q ↔ (zlda L 0 False fun r => Zgo d 67 18 L (zq r :: st) S Q) := Zgo_iff (i := .aload_n 0) (len := 1) (a := 0) (b := 0) (c := 0) (p := 0) rfl
theorem zg_67_18 : Zgo d 67 18 L st S Q ↔ (zpa st False fun r t => zde r 10 False fun o => Zgo d 67 21 L (zq (S.2.1 10 o 9) :: t) S Q) := Zgo_iff (i := .getfield 22) (len := 3) (a := 10) (b := 9) (c := 3) (p := 2089) rfl
theorem zg_67_21 : Zgo d 67 21 L st S Q ↔ (zpa st False fun r t => zde r 7 False fun o => Zgo d 67 24 L (zq (S.2.1 7 o 3) :: t) S Q) := Zgo_iff (i := .getfield 132) (len := 3) (a := 7) (b := 3) (c := 3) (p := 1239) rfl
theorem zg_67_24 : Zgo d 67 24 L st S Q ↔ (zlda L 1 False fun r => Zgo d 67 25 L (zq r :: st) S Q) := Zgo_iff (i := .aload_n 1) (len := 1) (a := 0) (b := 0) (c := 0) (p := 0) rfl
theorem zg_67_25 : Zgo d 67 25 L st S Q ↔ (zlda L 0 False fun r => Zgo d 67 26 L (zq r :: st) S Q) := Zgo_iff (i := .aload_n 0) (len := 1) (a := 0) (b := 0) (c := 0) (p := 0) rfl
theorem zg_67_26 : Zgo d 67 26 L st S Q ↔ (zpa st False fun r t => zde r 10 False fun o => Zgo d 67 29 L (zq (S.2.1 10 o 0) :: t) S Q) := Zgo_iff (i := .getfield 9) (len := 3) (a := 10) (b := 0) (c := 3) (p := 2071) rfl
theorem zg_67_29 : Zgo d 67 29 L st S Q ↔ (zinv 3 st False fun as t => zrec as 6 False (zCp d 62 as S fun r S2 => Zgo d 67 32 L (r.toList ++ t) S2 Q)) := Zgo_iff (i := .invokevirtual 136) (len := 3) (a := 62) (b := 3) (c := 0) (p := 4027) rfl
theorem zg_67_32 : Zgo d 67 32 L st S Q ↔ (zpi st False fun x t => if zw x = zw 0 then Zgo d 67 35 L t S Q else Zgo d 67 42 L t S Q) := Zgo_iff (i := .ifCond .ne 10) (len := 3) (a := 0) (b := 0) (c := 0) (p := 0) rfl
theorem zg_67_35 : Zgo d 67 35 L st S Q ↔ (zlda L 0 False fun r => Zgo d 67 36 L (zq r :: st) S Q) := Zgo_iff (i := .aload_n 0) (len := 1) (a := 0) (b := 0) (c := 0) (p := 0) rfl
theorem zg_67_36 : Zgo d 67 36 L st S Q ↔ (Zgo d 67 37 L (zi 5 :: st) S Q) := Zgo_iff (i := .iconst 5) (len := 1) (a := 0) (b := 0) (c := 0) (p := 0) rfl
theorem zg_67_37 : Zgo d 67 37 L st S Q ↔ (Zgo d 67 38 L (zi 0 :: st) S Q) := Zgo_iff (i := .iconst 0) (len := 1) (a := 0) (b := 0) (c := 0) (p := 0) rfl
theorem zg_67_38 : Zgo d 67 38 L st S Q ↔ (zinv 3 st False fun as t => zrec as 10 False (zCp d 64 as S fun r S2 => Zgo d 67 41 L (r.toList ++ t) S2 Q)) := Zgo_iff (i := .invokevirtual 122) (len := 3) (a := 64) (b := 3) (c := 0) (p := 4034) rfl
theorem zg_67_41 : Zgo d 67 41 L st S Q ↔ (zpa st False fun x t => zem t False (Q (some (zq x)) S)) := Zgo_iff (i := .areturn) (len := 1) (a := 0) (b := 0) (c := 0) (p := 0) rfl
theorem zg_67_42 : Zgo d 67 42 L st S Q ↔ (zlda L 0 False fun r => Zgo d 67 43 L (zq r :: st) S Q) := Zgo_iff (i := .aload_n 0) (len := 1) (a := 0) (b := 0) (c := 0) (p := 0) rfl
theorem zg_67_43 : Zgo d 67 43 L st S Q ↔ (zpa st False fun r t => zde r 10 False fun o => Zgo d 67 46 L (zq (S.2.1 10 o 9) :: t) S Q) := Zgo_iff (i := .getfield 22) (len := 3) (a := 10) (b := 9) (c := 3) (p := 2089) rfl
theorem zg_67_46 : Zgo d 67 46 L st S Q ↔ (zpa st False fun r t => zde r 7 False fun o => Zgo d 67 49 L (zq (S.2.1 7 o 3) :: t) S Q) := Zgo_iff (i := .getfield 132) (len := 3) (a := 7) (b := 3) (c := 3) (p := 1239) rfl
theorem zg_67_49 : Zgo d 67 49 L st S Q ↔ (zpa st False fun r t => zde r 6 False fun o => Zgo d 67 52 L (zi (S.1 6 o 3) :: t) S Q) := Zgo_iff (i := .getfield 145) (len := 3) (a := 6) (b := 3) (c := 0) (p := 1097) rfl
theorem zg_67_52 : Zgo d 67 52 L st S Q ↔ (zpi st False fun x t => if zw x = zw 0 then Zgo d 67 55 L t S Q else Zgo d 67 59 L t S Q) := Zgo_iff (i := .ifCond .ne 7) (len := 3) (a := 0) (b := 0) (c := 0) (p := 0) rfl
theorem zg_67_55 : Zgo d 67 55 L st S Q ↔ (Zgo d 67 58 L (zq (some (90, 0)) :: st) S Q) := Zgo_iff (i := .getstatic 69) (len := 3) (a := 90) (b := 0) (c := 0) (p := 4015) rfl
theorem zg_67_58 : Zgo d 67 58 L st S Q ↔ (zpa st False fun x t => zem t False (Q (some (zq x)) S)) := Zgo_iff (i := .areturn) (len := 1) (a := 0) (b := 0) (c := 0) (p := 0) rfl
theorem zg_67_59 : Zgo d 67 59 L st S Q ↔ (zlda L 0 False fun r => Zgo d 67 60 L (zq r :: st) S Q) := Zgo_iff (i := .aload_n 0) (len := 1) (a := 0) (b := 0) (c := 0) (p := 0) rfl
theorem zg_67_60 : Zgo d 67 60 L st S Q ↔ (zlda L 1 False fun r => Zgo d 67 61 L (zq r :: st) S Q) := Zgo_iff (i := .aload_n 1) (len := 1) (a := 0) (b := 0) (c := 0) (p := 0) rfl
theorem zg_67_61 : Zgo d 67 61 L st S Q ↔ (zpa st False fun r t => zde r 4 False fun o => Zgo d 67 64 L (zq (S.2.1 4 o 7) :: t) S Q) := Zgo_iff (i := .getfield 148) (len := 3) (a := 4) (b := 7) (c := 3) (p := 1141) rfl
theorem zg_67_64 : Zgo d 67 64 L st S Q ↔ (zldi L 2 False fun x => Zgo d 67 65 L (zi x :: st) S Q) := Zgo_iff (i := .iload_n 2) (len := 1) (a := 0) (b := 0) (c := 0) (p := 0) rfl
theorem zg_67_65 : Zgo d 67 65 L st S Q ↔ (zinv 3 st False fun as t => zrec as 10 False (zCp d 59 as S fun r S2 => Zgo d 67 68 L (r.toList ++ t) S2 Q)) := Zgo_iff (i := .invokevirtual 56) (len := 3) (a := 59) (b := 3) (c := 0) (p := 4011) rfl
theorem zg_67_68 : Zgo d 67 68 L st S Q ↔ (zpa st False fun x t => Zgo d 67 69 (zst L 3 (some (zq x))) t S Q) := Zgo_iff (i := .astore_n 3) (len := 1) (a := 0) (b := 0) (c := 0) (p := 0) rfl
theorem zg_67_69 : Zgo d 67 69 L st S Q ↔ (zlda L 3 False fun r => Zgo d 67 70 L (zq r :: st) S Q) := Zgo_iff (i := .aload_n 3) (len := 1) (a := 0) (b := 0) (c := 0) (p := 0) rfl
theorem zg_67_70 : Zgo d 67 70 L st S Q ↔ (Zgo d 67 73 L (zq (some (90, 1)) :: st) S Q) := Zgo_iff (i := .getstatic 104) (len := 3) (a := 90) (b := 1) (c := 0) (p := 4052) rfl
theorem zg_67_73 : Zgo d 67 73 L st S Q ↔ (zpa st False fun y t => zpa t False fun x t => zsame x y False (Zgo d 67 76 L t S Q) (Zgo d 67 80 L t S Q)) := Zgo_iff (i := .if_acmp .ne 7) (len := 3) (a := 0) (b := 0) (c := 0) (p := 0) rfl
theorem zg_67_76 : Zgo d 67 76 L st S Q ↔ (Zgo d 67 79 L (zq (some (90, 0)) :: st) S Q) := Zgo_iff (i := .getstatic 69) (len := 3) (a := 90) (b := 0) (c := 0) (p := 4015) rfl
theorem zg_67_79 : Zgo d 67 79 L st S Q ↔ (zpa st False fun x t => zem t False (Q (some (zq x)) S)) := Zgo_iff (i := .areturn) (len := 1) (a := 0) (b := 0) (c := 0) (p := 0) rfl
theorem zg_67_80 : Zgo d 67 80 L st S Q ↔ (zlda L 3 False fun r => Zgo d 67 81 L (zq r :: st) S Q) := Zgo_iff (i := .aload_n 3) (len := 1) (a := 0) (b := 0) (c := 0) (p := 0) rfl
theorem zg_67_81 : Zgo d 67 81 L st S Q ↔ (Zgo d 67 84 L (zq (some (90, 0)) :: st) S Q) := Zgo_iff (i := .getstatic 69) (len := 3) (a := 90) (b := 0) (c := 0) (p := 4015) rfl
theorem zg_67_84 : Zgo d 67 84 L st S Q ↔ (zpa st False fun y t => zpa t False fun x t => zsame x y False (Zgo d 67 96 L t S Q) (Zgo d 67 87 L t S Q)) := Zgo_iff (i := .if_acmp .eq 12) (len := 3) (a := 0) (b := 0) (c := 0) (p := 0) rfl
theorem zg_67_87 : Zgo d 67 87 L st S Q ↔ (zlda L 3 False fun r => Zgo d 67 88 L (zq r :: st) S Q) := Zgo_iff (i := .aload_n 3) (len := 1) (a := 0) (b := 0) (c := 0) (p := 0) rfl
theorem zg_67_88 : Zgo d 67 88 L st S Q ↔ (Zgo d 67 91 L (zq (some (90, 2)) :: st) S Q) := Zgo_iff (i := .getstatic 107) (len := 3) (a := 90) (b := 2) (c := 0) (p := 4054) rfl
theorem zg_67_91 : Zgo d 67 91 L st S Q ↔ (zpa st False fun y t => zpa t False fun x t => zsame x y False (Zgo d 67 96 L t S Q) (Zgo d 67 94 L t S Q)) := Zgo_iff (i := .if_acmp .eq 5) (len := 3) (a := 0) (b := 0) (c := 0) (p := 0) rfl
theorem zg_67_94 : Zgo d 67 94 L st S Q ↔ (zlda L 3 False fun r => Zgo d 67 95 L (zq r :: st) S Q) := Zgo_iff (i := .aload_n 3) (len := 1) (a := 0) (b := 0) (c := 0) (p := 0) rfl
theorem zg_67_95 : Zgo d 67 95 L st S Q ↔ (zpa st False fun x t => zem t False (Q (some (zq x)) S)) := Zgo_iff (i := .areturn) (len := 1) (a := 0) (b := 0) (c := 0) (p := 0) rfl
theorem zg_67_96 : Zgo d 67 96 L st S Q ↔ (Zgo d 67 0 L st S Q) := Zgo_iff (i := .goto (-96)) (len := 3) (a := 0) (b := 0) (c := 0) (p := 0) rfl
theorem zg_67_99 : Zgo d 67 99 L st S Q ↔ (Zgo d 67 102 L (zq (some (90, 5)) :: st) S Q) := Zgo_iff (i := .getstatic 60) (len := 3) (a := 90) (b := 5) (c := 0) (p := 4021) rfl
theorem zg_67_102 : Zgo d 67 102 L st S Q ↔ (zpa st False fun x t => zem t False (Q (some (zq x)) S)) := Zgo_iff (i := .areturn) (len := 1) (a := 0) (b := 0) (c := 0) (p := 0) rfl
/-- LeavingMachine$Runner.raiseNew(LLeavingMachine$Statement;)LLeavingMachine$Way; -/
theorem zg_68_0 : Zgo d 68 0 L st S Q ↔ (zlda L 0 False fun r => Zgo d 68 1 L (zq r :: st) S Q) := Zgo_iff (i := .aload_n 0) (len := 1) (a := 0) (b := 0) (c := 0) (p := 0) rfl
theorem zg_68_1 : Zgo d 68 1 L st S Q ↔ (zpa st False fun r t => zde r 10 False fun o => Zgo d 68 4 L (zq (S.2.1 10 o 9) :: t) S Q) := Zgo_iff (i := .getfield 22) (len := 3) (a := 10) (b := 9) (c := 3) (p := 2089) rfl
theorem zg_68_4 : Zgo d 68 4 L st S Q ↔ (zpa st False fun r t => zde r 7 False fun o => Zgo d 68 7 L (zq (S.2.1 7 o 3) :: t) S Q) := Zgo_iff (i := .getfield 132) (len := 3) (a := 7) (b := 3) (c := 3) (p := 1239) rfl
theorem zg_68_7 : Zgo d 68 7 L st S Q ↔ (zlda L 1 False fun r => Zgo d 68 8 L (zq r :: st) S Q) := Zgo_iff (i := .aload_n 1) (len := 1) (a := 0) (b := 0) (c := 0) (p := 0) rfl
theorem zg_68_8 : Zgo d 68 8 L st S Q ↔ (zlda L 0 False fun r => Zgo d 68 9 L (zq r :: st) S Q) := Zgo_iff (i := .aload_n 0) (len := 1) (a := 0) (b := 0) (c := 0) (p := 0) rfl
theorem zg_68_9 : Zgo d 68 9 L st S Q ↔ (zpa st False fun r t => zde r 10 False fun o => Zgo d 68 12 L (zq (S.2.1 10 o 0) :: t) S Q) := Zgo_iff (i := .getfield 9) (len := 3) (a := 10) (b := 0) (c := 3) (p := 2071) rfl
theorem zg_68_12 : Zgo d 68 12 L st S Q ↔ (zinv 3 st False fun as t => zrec as 6 False (zCp d 62 as S fun r S2 => Zgo d 68 15 L (r.toList ++ t) S2 Q)) := Zgo_iff (i := .invokevirtual 136) (len := 3) (a := 62) (b := 3) (c := 0) (p := 4027) rfl
theorem zg_68_15 : Zgo d 68 15 L st S Q ↔ (zpi st False fun x t => if zw x = zw 0 then Zgo d 68 18 L t S Q else Zgo d 68 25 L t S Q) := Zgo_iff (i := .ifCond .ne 10) (len := 3) (a := 0) (b := 0) (c := 0) (p := 0) rfl
theorem zg_68_18 : Zgo d 68 18 L st S Q ↔ (zlda L 0 False fun r => Zgo d 68 19 L (zq r :: st) S Q) := Zgo_iff (i := .aload_n 0) (len := 1) (a := 0) (b := 0) (c := 0) (p := 0) rfl
theorem zg_68_19 : Zgo d 68 19 L st S Q ↔ (Zgo d 68 20 L (zi 5 :: st) S Q) := Zgo_iff (i := .iconst 5) (len := 1) (a := 0) (b := 0) (c := 0) (p := 0) rfl
theorem zg_68_20 : Zgo d 68 20 L st S Q ↔ (Zgo d 68 21 L (zi 0 :: st) S Q) := Zgo_iff (i := .iconst 0) (len := 1) (a := 0) (b := 0) (c := 0) (p := 0) rfl
theorem zg_68_21 : Zgo d 68 21 L st S Q ↔ (zinv 3 st False fun as t => zrec as 10 False (zCp d 64 as S fun r S2 => Zgo d 68 24 L (r.toList ++ t) S2 Q)) := Zgo_iff (i := .invokevirtual 122) (len := 3) (a := 64) (b := 3) (c := 0) (p := 4034) rfl
theorem zg_68_24 : Zgo d 68 24 L st S Q ↔ (zpa st False fun x t => zem t False (Q (some (zq x)) S)) := Zgo_iff (i := .areturn) (len := 1) (a := 0) (b := 0) (c := 0) (p := 0) rfl
theorem zg_68_25 : Zgo d 68 25 L st S Q ↔ (zlda L 0 False fun r => Zgo d 68 26 L (zq r :: st) S Q) := Zgo_iff (i := .aload_n 0) (len := 1) (a := 0) (b := 0) (c := 0) (p := 0) rfl
theorem zg_68_26 : Zgo d 68 26 L st S Q ↔ (zlda L 1 False fun r => Zgo d 68 27 L (zq r :: st) S Q) := Zgo_iff (i := .aload_n 1) (len := 1) (a := 0) (b := 0) (c := 0) (p := 0) rfl
theorem zg_68_27 : Zgo d 68 27 L st S Q ↔ (zpa st False fun r t => zde r 4 False fun o => Zgo d 68 30 L (zi (S.1 4 o 1) :: t) S Q) := Zgo_iff (i := .getfield 142) (len := 3) (a := 4) (b := 1) (c := 0) (p := 1125) rfl
theorem zg_68_30 : Zgo d 68 30 L st S Q ↔ (zlda L 0 False fun r => Zgo d 68 31 L (zq r :: st) S Q) := Zgo_iff (i := .aload_n 0) (len := 1) (a := 0) (b := 0) (c := 0) (p := 0) rfl
theorem zg_68_31 : Zgo d 68 31 L st S Q ↔ (zpa st False fun r t => zde r 10 False fun o => Zgo d 68 34 L (zq (S.2.1 10 o 9) :: t) S Q) := Zgo_iff (i := .getfield 22) (len := 3) (a := 10) (b := 9) (c := 3) (p := 2089) rfl
theorem zg_68_34 : Zgo d 68 34 L st S Q ↔ (zpa st False fun r t => zde r 7 False fun o => Zgo d 68 37 L (zq (S.2.1 7 o 3) :: t) S Q) := Zgo_iff (i := .getfield 132) (len := 3) (a := 7) (b := 3) (c := 3) (p := 1239) rfl
theorem zg_68_37 : Zgo d 68 37 L st S Q ↔ (zpa st False fun r t => zde r 6 False fun o => Zgo d 68 40 L (zi (S.1 6 o 3) :: t) S Q) := Zgo_iff (i := .getfield 145) (len := 3) (a := 6) (b := 3) (c := 0) (p := 1097) rfl
theorem zg_68_40 : Zgo d 68 40 L st S Q ↔ (zinv 3 st False fun as t => zrec as 10 False (zCp d 64 as S fun r S2 => Zgo d 68 43 L (r.toList ++ t) S2 Q)) := Zgo_iff (i := .invokevirtual 122) (len := 3) (a := 64) (b := 3) (c := 0) (p := 4034) rfl
theorem zg_68_43 : Zgo d 68 43 L st S Q ↔ (zpa st False fun x t => zem t False (Q (some (zq x)) S)) := Zgo_iff (i := .areturn) (len := 1) (a := 0) (b := 0) (c := 0) (p := 0) rfl
/-- LeavingMachine$Runner.call(LLeavingMachine$Statement;)LLeavingMachine$Way; -/
theorem zg_69_0 : Zgo d 69 0 L st S Q ↔ (zlda L 0 False fun r => Zgo d 69 1 L (zq r :: st) S Q) := Zgo_iff (i := .aload_n 0) (len := 1) (a := 0) (b := 0) (c := 0) (p := 0) rfl
theorem zg_69_1 : Zgo d 69 1 L st S Q ↔ (zpa st False fun r t => zde r 10 False fun o => Zgo d 69 4 L (zi (S.1 10 o 10) :: t) S Q) := Zgo_iff (i := .getfield 35) (len := 3) (a := 10) (b := 10) (c := 0) (p := 2090) rfl
theorem zg_69_4 : Zgo d 69 4 L st S Q ↔ (Zgo d 69 6 L (zi 8 :: st) S Q) := Zgo_iff (i := .bipush 8) (len := 2) (a := 0) (b := 0) (c := 0) (p := 0) rfl
theorem zg_69_6 : Zgo d 69 6 L st S Q ↔ (zpi st False fun y t => zpi t False fun x t => if zw x = zw y then Zgo d 69 9 L t S Q else Zgo d 69 17 L t S Q) := Zgo_iff (i := .if_icmp .ne 11) (len := 3) (a := 0) (b := 0) (c := 0) (p := 0) rfl
theorem zg_69_9 : Zgo d 69 9 L st S Q ↔ (zlda L 0 False fun r => Zgo d 69 10 L (zq r :: st) S Q) := Zgo_iff (i := .aload_n 0) (len := 1) (a := 0) (b := 0) (c := 0) (p := 0) rfl
theorem zg_69_10 : Zgo d 69 10 L st S Q ↔ (Zgo d 69 12 L (zi 6 :: st) S Q) := Zgo_iff (i := .bipush 6) (len := 2) (a := 0) (b := 0) (c := 0) (p := 0) rfl
theorem zg_69_12 : Zgo d 69 12 L st S Q ↔ (Zgo d 69 13 L (zi 0 :: st) S Q) := Zgo_iff (i := .iconst 0) (len := 1) (a := 0) (b := 0) (c := 0) (p := 0) rfl
theorem zg_69_13 : Zgo d 69 13 L st S Q ↔ (zinv 3 st False fun as t => zrec as 10 False (zCp d 64 as S fun r S2 => Zgo d 69 16 L (r.toList ++ t) S2 Q)) := Zgo_iff (i := .invokevirtual 122) (len := 3) (a := 64) (b := 3) (c := 0) (p := 4034) rfl
theorem zg_69_16 : Zgo d 69 16 L st S Q ↔ (zpa st False fun x t => zem t False (Q (some (zq x)) S)) := Zgo_iff (i := .areturn) (len := 1) (a := 0) (b := 0) (c := 0) (p := 0) rfl
theorem zg_69_17 : Zgo d 69 17 L st S Q ↔ (zlda L 0 False fun r => Zgo d 69 18 L (zq r :: st) S Q) := Zgo_iff (i := .aload_n 0) (len := 1) (a := 0) (b := 0) (c := 0) (p := 0) rfl
theorem zg_69_18 : Zgo d 69 18 L st S Q ↔ (zp1 st False fun v t => Zgo d 69 19 L (v :: v :: t) S Q) := Zgo_iff (i := .dup) (len := 1) (a := 0) (b := 0) (c := 0) (p := 0) rfl
theorem zg_69_19 : Zgo d 69 19 L st S Q ↔ (zpa st False fun r t => zde r 10 False fun o => Zgo d 69 22 L (zi (S.1 10 o 10) :: t) S Q) := Zgo_iff (i := .getfield 35) (len := 3) (a := 10) (b := 10) (c := 0) (p := 2090) rfl
theorem zg_69_22 : Zgo d 69 22 L st S Q ↔ (Zgo d 69 23 L (zi 1 :: st) S Q) := Zgo_iff (i := .iconst 1) (len := 1) (a := 0) (b := 0) (c := 0) (p := 0) rfl
theorem zg_69_23 : Zgo d 69 23 L st S Q ↔ (zpi st False fun y t => zpi t False fun x t => Zgo d 69 24 L (zi (x + y) :: t) S Q) := Zgo_iff (i := .iadd) (len := 1) (a := 0) (b := 0) (c := 0) (p := 0) rfl
theorem zg_69_24 : Zgo d 69 24 L st S Q ↔ (zpi st False fun v t => zpa t False fun r t => zde r 10 False fun o => Zgo d 69 27 L t (zsI S.1 10 o 10 v, S.2) Q) := Zgo_iff (i := .putfield 35) (len := 3) (a := 10) (b := 10) (c := 0) (p := 2090) rfl
theorem zg_69_27 : Zgo d 69 27 L st S Q ↔ (zlda L 0 False fun r => Zgo d 69 28 L (zq r :: st) S Q) := Zgo_iff (i := .aload_n 0) (len := 1) (a := 0) (b := 0) (c := 0) (p := 0) rfl
theorem zg_69_28 : Zgo d 69 28 L st S Q ↔ (zlda L 0 False fun r => Zgo d 69 29 L (zq r :: st) S Q) := Zgo_iff (i := .aload_n 0) (len := 1) (a := 0) (b := 0) (c := 0) (p := 0) rfl
theorem zg_69_29 : Zgo d 69 29 L st S Q ↔ (zpa st False fun r t => zde r 10 False fun o => Zgo d 69 32 L (zi (S.1 10 o 6) :: t) S Q) := Zgo_iff (i := .getfield 38) (len := 3) (a := 10) (b := 6) (c := 0) (p := 2083) rfl
theorem zg_69_32 : Zgo d 69 32 L st S Q ↔ (zlda L 0 False fun r => Zgo d 69 33 L (zq r :: st) S Q) := Zgo_iff (i := .aload_n 0) (len := 1) (a := 0) (b := 0) (c := 0) (p := 0) rfl
theorem zg_69_33 : Zgo d 69 33 L st S Q ↔ (zpa st False fun r t => zde r 10 False fun o => Zgo d 69 36 L (zi (S.1 10 o 10) :: t) S Q) := Zgo_iff (i := .getfield 35) (len := 3) (a := 10) (b := 10) (c := 0) (p := 2090) rfl
theorem zg_69_36 : Zgo d 69 36 L st S Q ↔ (zinv 2 st False fun as t => zCp d 901 as S fun r S2 => Zgo d 69 39 L (r.toList ++ t) S2 Q) := Zgo_iff (i := .invokestatic 160) (len := 3) (a := 901) (b := 2) (c := 5) (p := 4066) rfl
theorem zg_69_39 : Zgo d 69 39 L st S Q ↔ (zpi st False fun v t => zpa t False fun r t => zde r 10 False fun o => Zgo d 69 42 L t (zsI S.1 10 o 6 v, S.2) Q) := Zgo_iff (i := .putfield 38) (len := 3) (a := 10) (b := 6) (c := 0) (p := 2083) rfl
theorem zg_69_42 : Zgo d 69 42 L st S Q ↔ (zlda L 0 False fun r => Zgo d 69 43 L (zq r :: st) S Q) := Zgo_iff (i := .aload_n 0) (len := 1) (a := 0) (b := 0) (c := 0) (p := 0) rfl
theorem zg_69_43 : Zgo d 69 43 L st S Q ↔ (zlda L 1 False fun r => Zgo d 69 44 L (zq r :: st) S Q) := Zgo_iff (i := .aload_n 1) (len := 1) (a := 0) (b := 0) (c := 0) (p := 0) rfl
theorem zg_69_44 : Zgo d 69 44 L st S Q ↔ (zpa st False fun r t => zde r 4 False fun o => Zgo d 69 47 L (zq (S.2.1 4 o 7) :: t) S Q) := Zgo_iff (i := .getfield 148) (len := 3) (a := 4) (b := 7) (c := 3) (p := 1141) rfl
theorem zg_69_47 : Zgo d 69 47 L st S Q ↔ (Zgo d 69 48 L (zi 0 :: st) S Q) := Zgo_iff (i := .iconst 0) (len := 1) (a := 0) (b := 0) (c := 0) (p := 0) rfl
theorem zg_69_48 : Zgo d 69 48 L st S Q ↔ (zinv 3 st False fun as t => zrec as 10 False (zCp d 59 as S fun r S2 => Zgo d 69 51 L (r.toList ++ t) S2 Q)) := Zgo_iff (i := .invokevirtual 56) (len := 3) (a := 59) (b := 3) (c := 0) (p := 4011) rfl
theorem zg_69_51 : Zgo d 69 51 L st S Q ↔ (zpa st False fun x t => Zgo d 69 52 (zst L 2 (some (zq x))) t S Q) := Zgo_iff (i := .astore_n 2) (len := 1) (a := 0) (b := 0) (c := 0) (p := 0) rfl
theorem zg_69_52 : Zgo d 69 52 L st S Q ↔ (zlda L 0 False fun r => Zgo d 69 53 L (zq r :: st) S Q) := Zgo_iff (i := .aload_n 0) (len := 1) (a := 0) (b := 0) (c := 0) (p := 0) rfl
theorem zg_69_53 : Zgo d 69 53 L st S Q ↔ (zp1 st False fun v t => Zgo d 69 54 L (v :: v :: t) S Q) := Zgo_iff (i := .dup) (len := 1) (a := 0) (b := 0) (c := 0) (p := 0) rfl
theorem zg_69_54 : Zgo d 69 54 L st S Q ↔ (zpa st False fun r t => zde r 10 False fun o => Zgo d 69 57 L (zi (S.1 10 o 10) :: t) S Q) := Zgo_iff (i := .getfield 35) (len := 3) (a := 10) (b := 10) (c := 0) (p := 2090) rfl
theorem zg_69_57 : Zgo d 69 57 L st S Q ↔ (Zgo d 69 58 L (zi 1 :: st) S Q) := Zgo_iff (i := .iconst 1) (len := 1) (a := 0) (b := 0) (c := 0) (p := 0) rfl
theorem zg_69_58 : Zgo d 69 58 L st S Q ↔ (zpi st False fun y t => zpi t False fun x t => Zgo d 69 59 L (zi (x - y) :: t) S Q) := Zgo_iff (i := .isub) (len := 1) (a := 0) (b := 0) (c := 0) (p := 0) rfl
theorem zg_69_59 : Zgo d 69 59 L st S Q ↔ (zpi st False fun v t => zpa t False fun r t => zde r 10 False fun o => Zgo d 69 62 L t (zsI S.1 10 o 10 v, S.2) Q) := Zgo_iff (i := .putfield 35) (len := 3) (a := 10) (b := 10) (c := 0) (p := 2090) rfl
theorem zg_69_62 : Zgo d 69 62 L st S Q ↔ (zlda L 2 False fun r => Zgo d 69 63 L (zq r :: st) S Q) := Zgo_iff (i := .aload_n 2) (len := 1) (a := 0) (b := 0) (c := 0) (p := 0) rfl
theorem zg_69_63 : Zgo d 69 63 L st S Q ↔ (Zgo d 69 66 L (zq (some (90, 3)) :: st) S Q) := Zgo_iff (i := .getstatic 110) (len := 3) (a := 90) (b := 3) (c := 0) (p := 4056) rfl
theorem zg_69_66 : Zgo d 69 66 L st S Q ↔ (zpa st False fun y t => zpa t False fun x t => zsame x y False (Zgo d 69 69 L t S Q) (Zgo d 69 75 L t S Q)) := Zgo_iff (i := .if_acmp .ne 9) (len := 3) (a := 0) (b := 0) (c := 0) (p := 0) rfl
theorem zg_69_69 : Zgo d 69 69 L st S Q ↔ (Zgo d 69 72 L (zq (some (90, 0)) :: st) S Q) := Zgo_iff (i := .getstatic 69) (len := 3) (a := 90) (b := 0) (c := 0) (p := 4015) rfl
theorem zg_69_72 : Zgo d 69 72 L st S Q ↔ (Zgo d 69 76 L st S Q) := Zgo_iff (i := .goto 4) (len := 3) (a := 0) (b := 0) (c := 0) (p := 0) rfl
theorem zg_69_75 : Zgo d 69 75 L st S Q ↔ (zlda L 2 False fun r => Zgo d 69 76 L (zq r :: st) S Q) := Zgo_iff (i := .aload_n 2) (len := 1) (a := 0) (b := 0) (c := 0) (p := 0) rfl
theorem zg_69_76 : Zgo d 69 76 L st S Q ↔ (zpa st False fun x t => zem t False (Q (some (zq x)) S)) := Zgo_iff (i := .areturn) (len := 1) (a := 0) (b := 0) (c := 0) (p := 0) rfl
/-- LeavingMachine$Runner.tryOut(LLeavingMachine$Statement;I)LLeavingMachine$Way; -/
theorem zg_70_0 : Zgo d 70 0 L st S Q ↔ (zlda L 0 False fun r => Zgo d 70 1 L (zq r :: st) S Q) := Zgo_iff (i := .aload_n 0) (len := 1) (a := 0) (b := 0) (c := 0) (p := 0) rfl
theorem zg_70_1 : Zgo d 70 1 L st S Q ↔ (zlda L 1 False fun r => Zgo d 70 2 L (zq r :: st) S Q) := Zgo_iff (i := .aload_n 1) (len := 1) (a := 0) (b := 0) (c := 0) (p := 0) rfl
theorem zg_70_2 : Zgo d 70 2 L st S Q ↔ (zpa st False fun r t => zde r 4 False fun o => Zgo d 70 5 L (zq (S.2.1 4 o 7) :: t) S Q) := Zgo_iff (i := .getfield 148) (len := 3) (a := 4) (b := 7) (c := 3) (p := 1141) rfl
theorem zg_70_5 : Zgo d 70 5 L st S Q ↔ (zldi L 2 False fun x => Zgo d 70 6 L (zi x :: st) S Q) := Zgo_iff (i := .iload_n 2) (len := 1) (a := 0) (b := 0) (c := 0) (p := 0) rfl
theorem zg_70_6 : Zgo d 70 6 L st S Q ↔ (zinv 3 st False fun as t => zrec as 10 False (zCp d 59 as S fun r S2 => Zgo d 70 9 L (r.toList ++ t) S2 Q)) := Zgo_iff (i := .invokevirtual 56) (len := 3) (a := 59) (b := 3) (c := 0) (p := 4011) rfl
theorem zg_70_9 : Zgo d 70 9 L st S Q ↔ (zpa st False fun x t => Zgo d 70 10 (zst L 3 (some (zq x))) t S Q) := Zgo_iff (i := .astore_n 3) (len := 1) (a := 0) (b := 0) (c := 0) (p := 0) rfl
theorem zg_70_10 : Zgo d 70 10 L st S Q ↔ (zlda L 3 False fun r => Zgo d 70 11 L (zq r :: st) S Q) := Zgo_iff (i := .aload_n 3) (len := 1) (a := 0) (b := 0) (c := 0) (p := 0) rfl
theorem zg_70_11 : Zgo d 70 11 L st S Q ↔ (Zgo d 70 14 L (zq (some (90, 4)) :: st) S Q) := Zgo_iff (i := .getstatic 66) (len := 3) (a := 90) (b := 4) (c := 0) (p := 4038) rfl
theorem zg_70_14 : Zgo d 70 14 L st S Q ↔ (zpa st False fun y t => zpa t False fun x t => zsame x y False (Zgo d 70 17 L t S Q) (Zgo d 70 28 L t S Q)) := Zgo_iff (i := .if_acmp .ne 14) (len := 3) (a := 0) (b := 0) (c := 0) (p := 0) rfl
theorem zg_70_17 : Zgo d 70 17 L st S Q ↔ (zlda L 1 False fun r => Zgo d 70 18 L (zq r :: st) S Q) := Zgo_iff (i := .aload_n 1) (len := 1) (a := 0) (b := 0) (c := 0) (p := 0) rfl
theorem zg_70_18 : Zgo d 70 18 L st S Q ↔ (zlda L 0 False fun r => Zgo d 70 19 L (zq r :: st) S Q) := Zgo_iff (i := .aload_n 0) (len := 1) (a := 0) (b := 0) (c := 0) (p := 0) rfl
theorem zg_70_19 : Zgo d 70 19 L st S Q ↔ (zpa st False fun r t => zde r 10 False fun o => Zgo d 70 22 L (zi (S.1 10 o 7) :: t) S Q) := Zgo_iff (i := .getfield 154) (len := 3) (a := 10) (b := 7) (c := 0) (p := 2086) rfl
theorem zg_70_22 : Zgo d 70 22 L st S Q ↔ (zinv 2 st False fun as t => zrec as 4 False (zCp d 41 as S fun r S2 => Zgo d 70 25 L (r.toList ++ t) S2 Q)) := Zgo_iff (i := .invokevirtual 166) (len := 3) (a := 41) (b := 2) (c := 0) (p := 4071) rfl
theorem zg_70_25 : Zgo d 70 25 L st S Q ↔ (Zgo d 70 29 L st S Q) := Zgo_iff (i := .goto 4) (len := 3) (a := 0) (b := 0) (c := 0) (p := 0) rfl
theorem zg_70_28 : Zgo d 70 28 L st S Q ↔ (Zgo d 70 29 L (zq none :: st) S Q) := Zgo_iff (i := .aconst_null) (len := 1) (a := 0) (b := 0) (c := 0) (p := 0) rfl
theorem zg_70_29 : Zgo d 70 29 L st S Q ↔ (zpa st False fun x t => Zgo d 70 31 (zst L 4 (some (zq x))) t S Q) := Zgo_iff (i := .astore 4) (len := 2) (a := 0) (b := 0) (c := 0) (p := 0) rfl
theorem zg_70_31 : Zgo d 70 31 L st S Q ↔ (zlda L 4 False fun r => Zgo d 70 33 L (zq r :: st) S Q) := Zgo_iff (i := .aload 4) (len := 2) (a := 0) (b := 0) (c := 0) (p := 0) rfl
theorem zg_70_33 : Zgo d 70 33 L st S Q ↔ (zpa st False fun x t => if x = none then Zgo d 70 64 L t S Q else Zgo d 70 36 L t S Q) := Zgo_iff (i := .ifnull 31) (len := 3) (a := 0) (b := 0) (c := 0) (p := 0) rfl
theorem zg_70_36 : Zgo d 70 36 L st S Q ↔ (zlda L 0 False fun r => Zgo d 70 37 L (zq r :: st) S Q) := Zgo_iff (i := .aload_n 0) (len := 1) (a := 0) (b := 0) (c := 0) (p := 0) rfl
theorem zg_70_37 : Zgo d 70 37 L st S Q ↔ (zpa st False fun r t => zde r 10 False fun o => Zgo d 70 40 L (zq (S.2.1 10 o 0) :: t) S Q) := Zgo_iff (i := .getfield 9) (len := 3) (a := 10) (b := 0) (c := 3) (p := 2071) rfl
theorem zg_70_40 : Zgo d 70 40 L st S Q ↔ (zlda L 4 False fun r => Zgo d 70 42 L (zq r :: st) S Q) := Zgo_iff (i := .aload 4) (len := 2) (a := 0) (b := 0) (c := 0) (p := 0) rfl
theorem zg_70_42 : Zgo d 70 42 L st S Q ↔ (zpa st False fun r t => zde r 5 False fun o => Zgo d 70 45 L (zi (S.1 5 o 1) :: t) S Q) := Zgo_iff (i := .getfield 170) (len := 3) (a := 5) (b := 1) (c := 0) (p := 1213) rfl
theorem zg_70_45 : Zgo d 70 45 L st S Q ↔ (zlda L 0 False fun r => Zgo d 70 46 L (zq r :: st) S Q) := Zgo_iff (i := .aload_n 0) (len := 1) (a := 0) (b := 0) (c := 0) (p := 0) rfl
theorem zg_70_46 : Zgo d 70 46 L st S Q ↔ (zpa st False fun r t => zde r 10 False fun o => Zgo d 70 49 L (zi (S.1 10 o 8) :: t) S Q) := Zgo_iff (i := .getfield 157) (len := 3) (a := 10) (b := 8) (c := 0) (p := 2088) rfl
theorem zg_70_49 : Zgo d 70 49 L st S Q ↔ (zpi st False fun v t => zpi t False fun j t => zpa t False fun r t => znn r False fun q o => zop (zArr q) False fun n => if n.1 = 0 then zix j n.2 False fun x => Zgo d 70 50 L t (zsI S.1 q o x v, S.2) Q else False) := Zgo_iff (i := .iastore) (len := 1) (a := 0) (b := 0) (c := 0) (p := 0) rfl
theorem zg_70_50 : Zgo d 70 50 L st S Q ↔ (zlda L 0 False fun r => Zgo d 70 51 L (zq r :: st) S Q) := Zgo_iff (i := .aload_n 0) (len := 1) (a := 0) (b := 0) (c := 0) (p := 0) rfl
theorem zg_70_51 : Zgo d 70 51 L st S Q ↔ (zlda L 4 False fun r => Zgo d 70 53 L (zq r :: st) S Q) := Zgo_iff (i := .aload 4) (len := 2) (a := 0) (b := 0) (c := 0) (p := 0) rfl
theorem zg_70_53 : Zgo d 70 53 L st S Q ↔ (zpa st False fun r t => zde r 5 False fun o => Zgo d 70 56 L (zq (S.2.1 5 o 2) :: t) S Q) := Zgo_iff (i := .getfield 175) (len := 3) (a := 5) (b := 2) (c := 3) (p := 1216) rfl
theorem zg_70_56 : Zgo d 70 56 L st S Q ↔ (zlda L 0 False fun r => Zgo d 70 57 L (zq r :: st) S Q) := Zgo_iff (i := .aload_n 0) (len := 1) (a := 0) (b := 0) (c := 0) (p := 0) rfl
theorem zg_70_57 : Zgo d 70 57 L st S Q ↔ (zpa st False fun r t => zde r 10 False fun o => Zgo d 70 60 L (zi (S.1 10 o 8) :: t) S Q) := Zgo_iff (i := .getfield 157) (len := 3) (a := 10) (b := 8) (c := 0) (p := 2088) rfl
theorem zg_70_60 : Zgo d 70 60 L st S Q ↔ (zinv 3 st False fun as t => zrec as 10 False (zCp d 59 as S fun r S2 => Zgo d 70 63 L (r.toList ++ t) S2 Q)) := Zgo_iff (i := .invokevirtual 56) (len := 3) (a := 59) (b := 3) (c := 0) (p := 4011) rfl
theorem zg_70_63 : Zgo d 70 63 L st S Q ↔ (zpa st False fun x t => Zgo d 70 64 (zst L 3 (some (zq x))) t S Q) := Zgo_iff (i := .astore_n 3) (len := 1) (a := 0) (b := 0) (c := 0) (p := 0) rfl
theorem zg_70_64 : Zgo d 70 64 L st S Q ↔ (zlda L 3 False fun r => Zgo d 70 65 L (zq r :: st) S Q) := Zgo_iff (i := .aload_n 3) (len := 1) (a := 0) (b := 0) (c := 0) (p := 0) rfl
theorem zg_70_65 : Zgo d 70 65 L st S Q ↔ (Zgo d 70 68 L (zq (some (90, 5)) :: st) S Q) := Zgo_iff (i := .getstatic 60) (len := 3) (a := 90) (b := 5) (c := 0) (p := 4021) rfl
theorem zg_70_68 : Zgo d 70 68 L st S Q ↔ (zpa st False fun y t => zpa t False fun x t => zsame x y False (Zgo d 70 71 L t S Q) (Zgo d 70 75 L t S Q)) := Zgo_iff (i := .if_acmp .ne 7) (len := 3) (a := 0) (b := 0) (c := 0) (p := 0) rfl
theorem zg_70_71 : Zgo d 70 71 L st S Q ↔ (zlda L 3 False fun r => Zgo d 70 72 L (zq r :: st) S Q) := Zgo_iff (i := .aload_n 3) (len := 1) (a := 0) (b := 0) (c := 0) (p := 0) rfl
theorem zg_70_72 : Zgo d 70 72 L st S Q ↔ (Zgo d 70 85 L st S Q) := Zgo_iff (i := .goto 13) (len := 3) (a := 0) (b := 0) (c := 0) (p := 0) rfl
theorem zg_70_75 : Zgo d 70 75 L st S Q ↔ (zlda L 0 False fun r => Zgo d 70 76 L (zq r :: st) S Q) := Zgo_iff (i := .aload_n 0) (len := 1) (a := 0) (b := 0) (c := 0) (p := 0) rfl
theorem zg_70_76 : Zgo d 70 76 L st S Q ↔ (zlda L 1 False fun r => Zgo d 70 77 L (zq r :: st) S Q) := Zgo_iff (i := .aload_n 1) (len := 1) (a := 0) (b := 0) (c := 0) (p := 0) rfl
theorem zg_70_77 : Zgo d 70 77 L st S Q ↔ (zpa st False fun r t => zde r 4 False fun o => Zgo d 70 80 L (zq (S.2.1 4 o 8) :: t) S Q) := Zgo_iff (i := .getfield 151) (len := 3) (a := 4) (b := 8) (c := 3) (p := 1144) rfl
theorem zg_70_80 : Zgo d 70 80 L st S Q ↔ (zlda L 3 False fun r => Zgo d 70 81 L (zq r :: st) S Q) := Zgo_iff (i := .aload_n 3) (len := 1) (a := 0) (b := 0) (c := 0) (p := 0) rfl
theorem zg_70_81 : Zgo d 70 81 L st S Q ↔ (zldi L 2 False fun x => Zgo d 70 82 L (zi x :: st) S Q) := Zgo_iff (i := .iload_n 2) (len := 1) (a := 0) (b := 0) (c := 0) (p := 0) rfl
theorem zg_70_82 : Zgo d 70 82 L st S Q ↔ (zinv 4 st False fun as t => zrec as 10 False (zCp d 71 as S fun r S2 => Zgo d 70 85 L (r.toList ++ t) S2 Q)) := Zgo_iff (i := .invokevirtual 176) (len := 3) (a := 71) (b := 4) (c := 0) (p := 4072) rfl
theorem zg_70_85 : Zgo d 70 85 L st S Q ↔ (zpa st False fun x t => zem t False (Q (some (zq x)) S)) := Zgo_iff (i := .areturn) (len := 1) (a := 0) (b := 0) (c := 0) (p := 0) rfl
/-- LeavingMachine$Runner.doLast(LLeavingMachine$Block;LLeavingMachine$Way;I)LLeavingMachine$Way; -/
theorem zg_71_0 : Zgo d 71 0 L st S Q ↔ (zlda L 0 False fun r => Zgo d 71 1 L (zq r :: st) S Q) := Zgo_iff (i := .aload_n 0) (len := 1) (a := 0) (b := 0) (c := 0) (p := 0) rfl
theorem zg_71_1 : Zgo d 71 1 L st S Q ↔ (zpa st False fun r t => zde r 10 False fun o => Zgo d 71 4 L (zi (S.1 10 o 7) :: t) S Q) := Zgo_iff (i := .getfield 154) (len := 3) (a := 10) (b := 7) (c := 0) (p := 2086) rfl
theorem zg_71_4 : Zgo d 71 4 L st S Q ↔ (zpi st False fun x t => Zgo d 71 6 (zst L 4 (some (zi x))) t S Q) := Zgo_iff (i := .istore 4) (len := 2) (a := 0) (b := 0) (c := 0) (p := 0) rfl
theorem zg_71_6 : Zgo d 71 6 L st S Q ↔ (zlda L 0 False fun r => Zgo d 71 7 L (zq r :: st) S Q) := Zgo_iff (i := .aload_n 0) (len := 1) (a := 0) (b := 0) (c := 0) (p := 0) rfl
theorem zg_71_7 : Zgo d 71 7 L st S Q ↔ (zpa st False fun r t => zde r 10 False fun o => Zgo d 71 10 L (zi (S.1 10 o 8) :: t) S Q) := Zgo_iff (i := .getfield 157) (len := 3) (a := 10) (b := 8) (c := 0) (p := 2088) rfl
theorem zg_71_10 : Zgo d 71 10 L st S Q ↔ (zpi st False fun x t => Zgo d 71 12 (zst L 5 (some (zi x))) t S Q) := Zgo_iff (i := .istore 5) (len := 2) (a := 0) (b := 0) (c := 0) (p := 0) rfl
theorem zg_71_12 : Zgo d 71 12 L st S Q ↔ (zlda L 0 False fun r => Zgo d 71 13 L (zq r :: st) S Q) := Zgo_iff (i := .aload_n 0) (len := 1) (a := 0) (b := 0) (c := 0) (p := 0) rfl
theorem zg_71_13 : Zgo d 71 13 L st S Q ↔ (zlda L 1 False fun r => Zgo d 71 14 L (zq r :: st) S Q) := Zgo_iff (i := .aload_n 1) (len := 1) (a := 0) (b := 0) (c := 0) (p := 0) rfl
theorem zg_71_14 : Zgo d 71 14 L st S Q ↔ (zldi L 3 False fun x => Zgo d 71 15 L (zi x :: st) S Q) := Zgo_iff (i := .iload_n 3) (len := 1) (a := 0) (b := 0) (c := 0) (p := 0) rfl
theorem zg_71_15 : Zgo d 71 15 L st S Q ↔ (zinv 3 st False fun as t => zrec as 10 False (zCp d 59 as S fun r S2 => Zgo d 71 18 L (r.toList ++ t) S2 Q)) := Zgo_iff (i := .invokevirtual 56) (len := 3) (a := 59) (b := 3) (c := 0) (p := 4011) rfl
theorem zg_71_18 : Zgo d 71 18 L st S Q ↔ (zpa st False fun x t => Zgo d 71 20 (zst L 6 (some (zq x))) t S Q) := Zgo_iff (i := .astore 6) (len := 2) (a := 0) (b := 0) (c := 0) (p := 0) rfl
theorem zg_71_20 : Zgo d 71 20 L st S Q ↔ (zlda L 6 False fun r => Zgo d 71 22 L (zq r :: st) S Q) := Zgo_iff (i := .aload 6) (len := 2) (a := 0) (b := 0) (c := 0) (p := 0) rfl
theorem zg_71_22 : Zgo d 71 22 L st S Q ↔ (Zgo d 71 25 L (zq (some (90, 0)) :: st) S Q) := Zgo_iff (i := .getstatic 69) (len := 3) (a := 90) (b := 0) (c := 0) (p := 4015) rfl
theorem zg_71_25 : Zgo d 71 25 L st S Q ↔ (zpa st False fun y t => zpa t False fun x t => zsame x y False (Zgo d 71 31 L t S Q) (Zgo d 71 28 L t S Q)) := Zgo_iff (i := .if_acmp .eq 6) (len := 3) (a := 0) (b := 0) (c := 0) (p := 0) rfl
theorem zg_71_28 : Zgo d 71 28 L st S Q ↔ (zlda L 6 False fun r => Zgo d 71 30 L (zq r :: st) S Q) := Zgo_iff (i := .aload 6) (len := 2) (a := 0) (b := 0) (c := 0) (p := 0) rfl
theorem zg_71_30 : Zgo d 71 30 L st S Q ↔ (zpa st False fun x t => zem t False (Q (some (zq x)) S)) := Zgo_iff (i := .areturn) (len := 1) (a := 0) (b := 0) (c := 0) (p := 0) rfl
theorem zg_71_31 : Zgo d 71 31 L st S Q ↔ (zlda L 0 False fun r => Zgo d 71 32 L (zq r :: st) S Q) := Zgo_iff (i := .aload_n 0) (len := 1) (a := 0) (b := 0) (c := 0) (p := 0) rfl
theorem zg_71_32 : Zgo d 71 32 L st S Q ↔ (zldi L 4 False fun x => Zgo d 71 34 L (zi x :: st) S Q) := Zgo_iff (i := .iload 4) (len := 2) (a := 0) (b := 0) (c := 0) (p := 0) rfl
theorem zg_71_34 : Zgo d 71 34 L st S Q ↔ (zpi st False fun v t => zpa t False fun r t => zde r 10 False fun o => Zgo d 71 37 L t (zsI S.1 10 o 7 v, S.2) Q) := Zgo_iff (i := .putfield 154) (len := 3) (a := 10) (b := 7) (c := 0) (p := 2086) rfl
theorem zg_71_37 : Zgo d 71 37 L st S Q ↔ (zlda L 0 False fun r => Zgo d 71 38 L (zq r :: st) S Q) := Zgo_iff (i := .aload_n 0) (len := 1) (a := 0) (b := 0) (c := 0) (p := 0) rfl
theorem zg_71_38 : Zgo d 71 38 L st S Q ↔ (zldi L 5 False fun x => Zgo d 71 40 L (zi x :: st) S Q) := Zgo_iff (i := .iload 5) (len := 2) (a := 0) (b := 0) (c := 0) (p := 0) rfl
theorem zg_71_40 : Zgo d 71 40 L st S Q ↔ (zpi st False fun v t => zpa t False fun r t => zde r 10 False fun o => Zgo d 71 43 L t (zsI S.1 10 o 8 v, S.2) Q) := Zgo_iff (i := .putfield 157) (len := 3) (a := 10) (b := 8) (c := 0) (p := 2088) rfl
theorem zg_71_43 : Zgo d 71 43 L st S Q ↔ (zlda L 2 False fun r => Zgo d 71 44 L (zq r :: st) S Q) := Zgo_iff (i := .aload_n 2) (len := 1) (a := 0) (b := 0) (c := 0) (p := 0) rfl
theorem zg_71_44 : Zgo d 71 44 L st S Q ↔ (zpa st False fun x t => zem t False (Q (some (zq x)) S)) := Zgo_iff (i := .areturn) (len := 1) (a := 0) (b := 0) (c := 0) (p := 0) rfl
/-- LeavingMachineLaw.out(LLeavingMachine;I[J)I -/
theorem zg_72_0 : Zgo d 72 0 L st S Q ↔ (zlda L 2 False fun r => Zgo d 72 1 L (zq r :: st) S Q) := Zgo_iff (i := .aload_n 2) (len := 1) (a := 0) (b := 0) (c := 0) (p := 0) rfl
theorem zg_72_1 : Zgo d 72 1 L st S Q ↔ (Zgo d 72 2 L (zi 0 :: st) S Q) := Zgo_iff (i := .iconst 0) (len := 1) (a := 0) (b := 0) (c := 0) (p := 0) rfl
theorem zg_72_2 : Zgo d 72 2 L st S Q ↔ (zlda L 0 False fun r => Zgo d 72 3 L (zq r :: st) S Q) := Zgo_iff (i := .aload_n 0) (len := 1) (a := 0) (b := 0) (c := 0) (p := 0) rfl
theorem zg_72_3 : Zgo d 72 3 L st S Q ↔ (zldi L 1 False fun x => Zgo d 72 4 L (zi x :: st) S Q) := Zgo_iff (i := .iload_n 1) (len := 1) (a := 0) (b := 0) (c := 0) (p := 0) rfl
theorem zg_72_4 : Zgo d 72 4 L st S Q ↔ (zinv 2 st False fun as t => zrec as 0 False (zCp d 73 as S fun r S2 => zxr r (fun e => zop (zHd 72 e) False fun h => Zgo d 72 h L [zq (some (e, 0))] S2 Q) (Zgo d 72 7 L (r.toList ++ t) S2 Q))) := Zgo_iff (i := .invokevirtual 17) (len := 3) (a := 73) (b := 2) (c := 0) (p := 4080) rfl
theorem zg_72_7 : Zgo d 72 7 L st S Q ↔ (zpi st False fun x t => Zgo d 72 8 L (zl (zw x) :: t) S Q) := Zgo_iff (i := .i2l) (len := 1) (a := 0) (b := 0) (c := 0) (p := 0) rfl
theorem zg_72_8 : Zgo d 72 8 L st S Q ↔ (zpl st False fun v t => zpi t False fun j t => zpa t False fun r t => znn r False fun q o => zop (zArr q) False fun n => if n.1 = 4 then zix j n.2 False fun x => Zgo d 72 9 L t (zsI S.1 q o x v, S.2) Q else False) := Zgo_iff (i := .lastore) (len := 1) (a := 0) (b := 0) (c := 0) (p := 0) rfl
theorem zg_72_9 : Zgo d 72 9 L st S Q ↔ (Zgo d 72 15 L st S Q) := Zgo_iff (i := .goto 6) (len := 3) (a := 0) (b := 0) (c := 0) (p := 0) rfl
theorem zg_72_12 : Zgo d 72 12 L st S Q ↔ (zpa st False fun x t => Zgo d 72 13 (zst L 3 (some (zq x))) t S Q) := Zgo_iff (i := .astore_n 3) (len := 1) (a := 0) (b := 0) (c := 0) (p := 0) rfl
theorem zg_72_13 : Zgo d 72 13 L st S Q ↔ (Zgo d 72 14 L (zi 1 :: st) S Q) := Zgo_iff (i := .iconst 1) (len := 1) (a := 0) (b := 0) (c := 0) (p := 0) rfl
theorem zg_72_14 : Zgo d 72 14 L st S Q ↔ (zpi st False fun x t => zem t False (Q (some (zi x)) S)) := Zgo_iff (i := .ireturn) (len := 1) (a := 0) (b := 0) (c := 0) (p := 0) rfl
theorem zg_72_15 : Zgo d 72 15 L st S Q ↔ (Zgo d 72 16 L (zi 0 :: st) S Q) := Zgo_iff (i := .iconst 0) (len := 1) (a := 0) (b := 0) (c := 0) (p := 0) rfl
theorem zg_72_16 : Zgo d 72 16 L st S Q ↔ (zpi st False fun x t => zem t False (Q (some (zi x)) S)) := Zgo_iff (i := .ireturn) (len := 1) (a := 0) (b := 0) (c := 0) (p := 0) rfl
/-- LeavingMachine.out(I)I -/
theorem zg_73_0 : Zgo d 73 0 L st S Q ↔ (zldi L 1 False fun x => Zgo d 73 1 L (zi x :: st) S Q) := Zgo_iff (i := .iload_n 1) (len := 1) (a := 0) (b := 0) (c := 0) (p := 0) rfl
theorem zg_73_1 : Zgo d 73 1 L st S Q ↔ (zpi st False fun x t => if zw x < zw 0 then Zgo d 73 15 L t S Q else Zgo d 73 4 L t S Q) := Zgo_iff (i := .ifCond .lt 14) (len := 3) (a := 0) (b := 0) (c := 0) (p := 0) rfl
theorem zg_73_4 : Zgo d 73 4 L st S Q ↔ (zldi L 1 False fun x => Zgo d 73 5 L (zi x :: st) S Q) := Zgo_iff (i := .iload_n 1) (len := 1) (a := 0) (b := 0) (c := 0) (p := 0) rfl
theorem zg_73_5 : Zgo d 73 5 L st S Q ↔ (zlda L 0 False fun r => Zgo d 73 6 L (zq r :: st) S Q) := Zgo_iff (i := .aload_n 0) (len := 1) (a := 0) (b := 0) (c := 0) (p := 0) rfl
theorem zg_73_6 : Zgo d 73 6 L st S Q ↔ (zpa st False fun r t => zde r 0 False fun o => Zgo d 73 9 L (zq (S.2.1 0 o 4) :: t) S Q) := Zgo_iff (i := .getfield 44) (len := 3) (a := 0) (b := 4) (c := 3) (p := 2118) rfl
theorem zg_73_9 : Zgo d 73 9 L st S Q ↔ (zpa st False fun r t => zde r 10 False fun o => Zgo d 73 12 L (zi (S.1 10 o 2) :: t) S Q) := Zgo_iff (i := .getfield 90) (len := 3) (a := 10) (b := 2) (c := 0) (p := 2076) rfl
theorem zg_73_12 : Zgo d 73 12 L st S Q ↔ (zpi st False fun y t => zpi t False fun x t => if zw x < zw y then Zgo d 73 25 L t S Q else Zgo d 73 15 L t S Q) := Zgo_iff (i := .if_icmp .lt 13) (len := 3) (a := 0) (b := 0) (c := 0) (p := 0) rfl
theorem zg_73_15 : Zgo d 73 15 L st S Q ↔ (zem st False (Q (some (zq (some (94, 0)))) (S.1, S.2.1, S.2.2.1, S.2.2.2.1 + 1, S.2.2.2.2.1 + 6, S.2.2.2.2.2))) := Zgo_iff (i := .new 93) (len := 3) (a := 94) (b := 6) (c := 7) (p := 4084) rfl
theorem zg_73_18 : Zgo d 73 18 L st S Q ↔ (zp1 st False fun v t => Zgo d 73 19 L (v :: v :: t) S Q) := Zgo_iff (i := .dup) (len := 1) (a := 0) (b := 0) (c := 0) (p := 0) rfl
theorem zg_73_19 : Zgo d 73 19 L st S Q ↔ (Zgo d 73 21 L (zq (some (91, 3)) :: st) S Q) := Zgo_iff (i := .ldc 95) (len := 2) (a := 91) (b := 3) (c := 0) (p := 4093) rfl
theorem zg_73_25 : Zgo d 73 25 L st S Q ↔ (zlda L 0 False fun r => Zgo d 73 26 L (zq r :: st) S Q) := Zgo_iff (i := .aload_n 0) (len := 1) (a := 0) (b := 0) (c := 0) (p := 0) rfl
theorem zg_73_26 : Zgo d 73 26 L st S Q ↔ (zpa st False fun r t => zde r 0 False fun o => Zgo d 73 29 L (zq (S.2.1 0 o 4) :: t) S Q) := Zgo_iff (i := .getfield 44) (len := 3) (a := 0) (b := 4) (c := 3) (p := 2118) rfl
theorem zg_73_29 : Zgo d 73 29 L st S Q ↔ (zpa st False fun r t => zde r 10 False fun o => Zgo d 73 32 L (zq (S.2.1 10 o 1) :: t) S Q) := Zgo_iff (i := .getfield 98) (len := 3) (a := 10) (b := 1) (c := 3) (p := 2074) rfl
theorem zg_73_32 : Zgo d 73 32 L st S Q ↔ (zldi L 1 False fun x => Zgo d 73 33 L (zi x :: st) S Q) := Zgo_iff (i := .iload_n 1) (len := 1) (a := 0) (b := 0) (c := 0) (p := 0) rfl
theorem zg_73_33 : Zgo d 73 33 L st S Q ↔ (zpi st False fun j t => zpa t False fun r t => znn r False fun q o => zop (zlen S q) False fun n => if n.1 = 0 then zix j n.2 False fun x => Zgo d 73 34 L (zi (S.1 q o x) :: t) S Q else False) := Zgo_iff (i := .iaload) (len := 1) (a := 0) (b := 0) (c := 0) (p := 0) rfl
theorem zg_73_34 : Zgo d 73 34 L st S Q ↔ (zpi st False fun x t => zem t False (Q (some (zi x)) S)) := Zgo_iff (i := .ireturn) (len := 1) (a := 0) (b := 0) (c := 0) (p := 0) rfl
/-- LeavingMachineLaw.variable(LLeavingMachine;I[J)I -/
theorem zg_74_0 : Zgo d 74 0 L st S Q ↔ (zlda L 2 False fun r => Zgo d 74 1 L (zq r :: st) S Q) := Zgo_iff (i := .aload_n 2) (len := 1) (a := 0) (b := 0) (c := 0) (p := 0) rfl
theorem zg_74_1 : Zgo d 74 1 L st S Q ↔ (Zgo d 74 2 L (zi 0 :: st) S Q) := Zgo_iff (i := .iconst 0) (len := 1) (a := 0) (b := 0) (c := 0) (p := 0) rfl
theorem zg_74_2 : Zgo d 74 2 L st S Q ↔ (zlda L 0 False fun r => Zgo d 74 3 L (zq r :: st) S Q) := Zgo_iff (i := .aload_n 0) (len := 1) (a := 0) (b := 0) (c := 0) (p := 0) rfl
theorem zg_74_3 : Zgo d 74 3 L st S Q ↔ (zldi L 1 False fun x => Zgo d 74 4 L (zi x :: st) S Q) := Zgo_iff (i := .iload_n 1) (len := 1) (a := 0) (b := 0) (c := 0) (p := 0) rfl
theorem zg_74_4 : Zgo d 74 4 L st S Q ↔ (zinv 2 st False fun as t => zrec as 0 False (zCp d 75 as S fun r S2 => zxr r (fun e => zop (zHd 74 e) False fun h => Zgo d 74 h L [zq (some (e, 0))] S2 Q) (Zgo d 74 7 L (r.toList ++ t) S2 Q))) := Zgo_iff (i := .invokevirtual 22) (len := 3) (a := 75) (b := 2) (c := 0) (p := 4103) rfl
theorem zg_74_7 : Zgo d 74 7 L st S Q ↔ (zpi st False fun x t => Zgo d 74 8 L (zl (zw x) :: t) S Q) := Zgo_iff (i := .i2l) (len := 1) (a := 0) (b := 0) (c := 0) (p := 0) rfl
theorem zg_74_8 : Zgo d 74 8 L st S Q ↔ (zpl st False fun v t => zpi t False fun j t => zpa t False fun r t => znn r False fun q o => zop (zArr q) False fun n => if n.1 = 4 then zix j n.2 False fun x => Zgo d 74 9 L t (zsI S.1 q o x v, S.2) Q else False) := Zgo_iff (i := .lastore) (len := 1) (a := 0) (b := 0) (c := 0) (p := 0) rfl
theorem zg_74_9 : Zgo d 74 9 L st S Q ↔ (Zgo d 74 15 L st S Q) := Zgo_iff (i := .goto 6) (len := 3) (a := 0) (b := 0) (c := 0) (p := 0) rfl
theorem zg_74_12 : Zgo d 74 12 L st S Q ↔ (zpa st False fun x t => Zgo d 74 13 (zst L 3 (some (zq x))) t S Q) := Zgo_iff (i := .astore_n 3) (len := 1) (a := 0) (b := 0) (c := 0) (p := 0) rfl
theorem zg_74_13 : Zgo d 74 13 L st S Q ↔ (Zgo d 74 14 L (zi 1 :: st) S Q) := Zgo_iff (i := .iconst 1) (len := 1) (a := 0) (b := 0) (c := 0) (p := 0) rfl
theorem zg_74_14 : Zgo d 74 14 L st S Q ↔ (zpi st False fun x t => zem t False (Q (some (zi x)) S)) := Zgo_iff (i := .ireturn) (len := 1) (a := 0) (b := 0) (c := 0) (p := 0) rfl
theorem zg_74_15 : Zgo d 74 15 L st S Q ↔ (Zgo d 74 16 L (zi 0 :: st) S Q) := Zgo_iff (i := .iconst 0) (len := 1) (a := 0) (b := 0) (c := 0) (p := 0) rfl
theorem zg_74_16 : Zgo d 74 16 L st S Q ↔ (zpi st False fun x t => zem t False (Q (some (zi x)) S)) := Zgo_iff (i := .ireturn) (len := 1) (a := 0) (b := 0) (c := 0) (p := 0) rfl
/-- LeavingMachine.variable(I)I -/
theorem zg_75_0 : Zgo d 75 0 L st S Q ↔ (zldi L 1 False fun x => Zgo d 75 1 L (zi x :: st) S Q) := Zgo_iff (i := .iload_n 1) (len := 1) (a := 0) (b := 0) (c := 0) (p := 0) rfl
theorem zg_75_1 : Zgo d 75 1 L st S Q ↔ (zpi st False fun x t => if zw x < zw 0 then Zgo d 75 10 L t S Q else Zgo d 75 4 L t S Q) := Zgo_iff (i := .ifCond .lt 9) (len := 3) (a := 0) (b := 0) (c := 0) (p := 0) rfl
theorem zg_75_4 : Zgo d 75 4 L st S Q ↔ (zldi L 1 False fun x => Zgo d 75 5 L (zi x :: st) S Q) := Zgo_iff (i := .iload_n 1) (len := 1) (a := 0) (b := 0) (c := 0) (p := 0) rfl
theorem zg_75_5 : Zgo d 75 5 L st S Q ↔ (Zgo d 75 7 L (zi 8 :: st) S Q) := Zgo_iff (i := .bipush 8) (len := 2) (a := 0) (b := 0) (c := 0) (p := 0) rfl
theorem zg_75_7 : Zgo d 75 7 L st S Q ↔ (zpi st False fun y t => zpi t False fun x t => if zw x < zw y then Zgo d 75 20 L t S Q else Zgo d 75 10 L t S Q) := Zgo_iff (i := .if_icmp .lt 13) (len := 3) (a := 0) (b := 0) (c := 0) (p := 0) rfl
theorem zg_75_10 : Zgo d 75 10 L st S Q ↔ (zem st False (Q (some (zq (some (94, 0)))) (S.1, S.2.1, S.2.2.1, S.2.2.2.1 + 1, S.2.2.2.2.1 + 6, S.2.2.2.2.2))) := Zgo_iff (i := .new 93) (len := 3) (a := 94) (b := 6) (c := 7) (p := 4084) rfl
theorem zg_75_13 : Zgo d 75 13 L st S Q ↔ (zp1 st False fun v t => Zgo d 75 14 L (v :: v :: t) S Q) := Zgo_iff (i := .dup) (len := 1) (a := 0) (b := 0) (c := 0) (p := 0) rfl
theorem zg_75_14 : Zgo d 75 14 L st S Q ↔ (Zgo d 75 16 L (zq (some (91, 4)) :: st) S Q) := Zgo_iff (i := .ldc 102) (len := 2) (a := 91) (b := 4) (c := 0) (p := 4107) rfl
theorem zg_75_20 : Zgo d 75 20 L st S Q ↔ (zlda L 0 False fun r => Zgo d 75 21 L (zq r :: st) S Q) := Zgo_iff (i := .aload_n 0) (len := 1) (a := 0) (b := 0) (c := 0) (p := 0) rfl
theorem zg_75_21 : Zgo d 75 21 L st S Q ↔ (zpa st False fun r t => zde r 0 False fun o => Zgo d 75 24 L (zq (S.2.1 0 o 4) :: t) S Q) := Zgo_iff (i := .getfield 44) (len := 3) (a := 0) (b := 4) (c := 3) (p := 2118) rfl
theorem zg_75_24 : Zgo d 75 24 L st S Q ↔ (zpa st False fun r t => zde r 10 False fun o => Zgo d 75 27 L (zq (S.2.1 10 o 0) :: t) S Q) := Zgo_iff (i := .getfield 104) (len := 3) (a := 10) (b := 0) (c := 3) (p := 2072) rfl
theorem zg_75_27 : Zgo d 75 27 L st S Q ↔ (zldi L 1 False fun x => Zgo d 75 28 L (zi x :: st) S Q) := Zgo_iff (i := .iload_n 1) (len := 1) (a := 0) (b := 0) (c := 0) (p := 0) rfl
theorem zg_75_28 : Zgo d 75 28 L st S Q ↔ (zpi st False fun j t => zpa t False fun r t => znn r False fun q o => zop (zlen S q) False fun n => if n.1 = 0 then zix j n.2 False fun x => Zgo d 75 29 L (zi (S.1 q o x) :: t) S Q else False) := Zgo_iff (i := .iaload) (len := 1) (a := 0) (b := 0) (c := 0) (p := 0) rfl
theorem zg_75_29 : Zgo d 75 29 L st S Q ↔ (zpi st False fun x t => zem t False (Q (some (zi x)) S)) := Zgo_iff (i := .ireturn) (len := 1) (a := 0) (b := 0) (c := 0) (p := 0) rfl
/-- LeavingMachineLaw.raised(LLeavingMachine;Z[J)I -/
theorem zg_76_0 : Zgo d 76 0 L st S Q ↔ (zlda L 2 False fun r => Zgo d 76 1 L (zq r :: st) S Q) := Zgo_iff (i := .aload_n 2) (len := 1) (a := 0) (b := 0) (c := 0) (p := 0) rfl
theorem zg_76_1 : Zgo d 76 1 L st S Q ↔ (Zgo d 76 2 L (zi 0 :: st) S Q) := Zgo_iff (i := .iconst 0) (len := 1) (a := 0) (b := 0) (c := 0) (p := 0) rfl
theorem zg_76_2 : Zgo d 76 2 L st S Q ↔ (zlda L 0 False fun r => Zgo d 76 3 L (zq r :: st) S Q) := Zgo_iff (i := .aload_n 0) (len := 1) (a := 0) (b := 0) (c := 0) (p := 0) rfl
theorem zg_76_3 : Zgo d 76 3 L st S Q ↔ (zldi L 1 False fun x => Zgo d 76 4 L (zi x :: st) S Q) := Zgo_iff (i := .iload_n 1) (len := 1) (a := 0) (b := 0) (c := 0) (p := 0) rfl
theorem zg_76_4 : Zgo d 76 4 L st S Q ↔ (zinv 2 st False fun as t => zrec as 0 False (zCp d 77 as S fun r S2 => zxr r (fun e => zop (zHd 76 e) False fun h => Zgo d 76 h L [zq (some (e, 0))] S2 Q) (Zgo d 76 7 L (r.toList ++ t) S2 Q))) := Zgo_iff (i := .invokevirtual 25) (len := 3) (a := 77) (b := 2) (c := 0) (p := 4111) rfl
theorem zg_76_7 : Zgo d 76 7 L st S Q ↔ (zpi st False fun x t => Zgo d 76 8 L (zl (zw x) :: t) S Q) := Zgo_iff (i := .i2l) (len := 1) (a := 0) (b := 0) (c := 0) (p := 0) rfl
theorem zg_76_8 : Zgo d 76 8 L st S Q ↔ (zpl st False fun v t => zpi t False fun j t => zpa t False fun r t => znn r False fun q o => zop (zArr q) False fun n => if n.1 = 4 then zix j n.2 False fun x => Zgo d 76 9 L t (zsI S.1 q o x v, S.2) Q else False) := Zgo_iff (i := .lastore) (len := 1) (a := 0) (b := 0) (c := 0) (p := 0) rfl
theorem zg_76_9 : Zgo d 76 9 L st S Q ↔ (Zgo d 76 15 L st S Q) := Zgo_iff (i := .goto 6) (len := 3) (a := 0) (b := 0) (c := 0) (p := 0) rfl
theorem zg_76_12 : Zgo d 76 12 L st S Q ↔ (zpa st False fun x t => Zgo d 76 13 (zst L 3 (some (zq x))) t S Q) := Zgo_iff (i := .astore_n 3) (len := 1) (a := 0) (b := 0) (c := 0) (p := 0) rfl
theorem zg_76_13 : Zgo d 76 13 L st S Q ↔ (Zgo d 76 14 L (zi 1 :: st) S Q) := Zgo_iff (i := .iconst 1) (len := 1) (a := 0) (b := 0) (c := 0) (p := 0) rfl
theorem zg_76_14 : Zgo d 76 14 L st S Q ↔ (zpi st False fun x t => zem t False (Q (some (zi x)) S)) := Zgo_iff (i := .ireturn) (len := 1) (a := 0) (b := 0) (c := 0) (p := 0) rfl
theorem zg_76_15 : Zgo d 76 15 L st S Q ↔ (Zgo d 76 16 L (zi 0 :: st) S Q) := Zgo_iff (i := .iconst 0) (len := 1) (a := 0) (b := 0) (c := 0) (p := 0) rfl
theorem zg_76_16 : Zgo d 76 16 L st S Q ↔ (zpi st False fun x t => zem t False (Q (some (zi x)) S)) := Zgo_iff (i := .ireturn) (len := 1) (a := 0) (b := 0) (c := 0) (p := 0) rfl
/-- LeavingMachine.raised(Z)I -/
theorem zg_77_0 : Zgo d 77 0 L st S Q ↔ (zlda L 0 False fun r => Zgo d 77 1 L (zq r :: st) S Q) := Zgo_iff (i := .aload_n 0) (len := 1) (a := 0) (b := 0) (c := 0) (p := 0) rfl
theorem zg_77_1 : Zgo d 77 1 L st S Q ↔ (zpa st False fun r t => zde r 0 False fun o => Zgo d 77 4 L (zq (S.2.1 0 o 4) :: t) S Q) := Zgo_iff (i := .getfield 44) (len := 3) (a := 0) (b := 4) (c := 3) (p := 2118) rfl
theorem zg_77_4 : Zgo d 77 4 L st S Q ↔ (zpa st False fun r t => zde r 10 False fun o => Zgo d 77 7 L (zi (S.1 10 o 3) :: t) S Q) := Zgo_iff (i := .getfield 107) (len := 3) (a := 10) (b := 3) (c := 0) (p := 2078) rfl
theorem zg_77_7 : Zgo d 77 7 L st S Q ↔ (Zgo d 77 8 L (zi 2 :: st) S Q) := Zgo_iff (i := .iconst 2) (len := 1) (a := 0) (b := 0) (c := 0) (p := 0) rfl
theorem zg_77_8 : Zgo d 77 8 L st S Q ↔ (zpi st False fun y t => zpi t False fun x t => if zw x = zw y then Zgo d 77 21 L t S Q else Zgo d 77 11 L t S Q) := Zgo_iff (i := .if_icmp .eq 13) (len := 3) (a := 0) (b := 0) (c := 0) (p := 0) rfl
theorem zg_77_11 : Zgo d 77 11 L st S Q ↔ (zem st False (Q (some (zq (some (93, 0)))) (S.1, S.2.1, S.2.2.1, S.2.2.2.1 + 1, S.2.2.2.2.1 + 6, S.2.2.2.2.2))) := Zgo_iff (i := .new 81) (len := 3) (a := 93) (b := 6) (c := 7) (p := 3230) rfl
theorem zg_77_14 : Zgo d 77 14 L st S Q ↔ (zp1 st False fun v t => Zgo d 77 15 L (v :: v :: t) S Q) := Zgo_iff (i := .dup) (len := 1) (a := 0) (b := 0) (c := 0) (p := 0) rfl
theorem zg_77_15 : Zgo d 77 15 L st S Q ↔ (Zgo d 77 17 L (zq (some (91, 5)) :: st) S Q) := Zgo_iff (i := .ldc 110) (len := 2) (a := 91) (b := 5) (c := 0) (p := 4115) rfl
theorem zg_77_21 : Zgo d 77 21 L st S Q ↔ (zldi L 1 False fun x => Zgo d 77 22 L (zi x :: st) S Q) := Zgo_iff (i := .iload_n 1) (len := 1) (a := 0) (b := 0) (c := 0) (p := 0) rfl
theorem zg_77_22 : Zgo d 77 22 L st S Q ↔ (zpi st False fun x t => if zw x = zw 0 then Zgo d 77 35 L t S Q else Zgo d 77 25 L t S Q) := Zgo_iff (i := .ifCond .eq 13) (len := 3) (a := 0) (b := 0) (c := 0) (p := 0) rfl
theorem zg_77_25 : Zgo d 77 25 L st S Q ↔ (zlda L 0 False fun r => Zgo d 77 26 L (zq r :: st) S Q) := Zgo_iff (i := .aload_n 0) (len := 1) (a := 0) (b := 0) (c := 0) (p := 0) rfl
theorem zg_77_26 : Zgo d 77 26 L st S Q ↔ (zpa st False fun r t => zde r 0 False fun o => Zgo d 77 29 L (zq (S.2.1 0 o 4) :: t) S Q) := Zgo_iff (i := .getfield 44) (len := 3) (a := 0) (b := 4) (c := 3) (p := 2118) rfl
theorem zg_77_29 : Zgo d 77 29 L st S Q ↔ (zpa st False fun r t => zde r 10 False fun o => Zgo d 77 32 L (zi (S.1 10 o 8) :: t) S Q) := Zgo_iff (i := .getfield 112) (len := 3) (a := 10) (b := 8) (c := 0) (p := 2087) rfl
theorem zg_77_32 : Zgo d 77 32 L st S Q ↔ (Zgo d 77 42 L st S Q) := Zgo_iff (i := .goto 10) (len := 3) (a := 0) (b := 0) (c := 0) (p := 0) rfl
theorem zg_77_35 : Zgo d 77 35 L st S Q ↔ (zlda L 0 False fun r => Zgo d 77 36 L (zq r :: st) S Q) := Zgo_iff (i := .aload_n 0) (len := 1) (a := 0) (b := 0) (c := 0) (p := 0) rfl
theorem zg_77_36 : Zgo d 77 36 L st S Q ↔ (zpa st False fun r t => zde r 0 False fun o => Zgo d 77 39 L (zq (S.2.1 0 o 4) :: t) S Q) := Zgo_iff (i := .getfield 44) (len := 3) (a := 0) (b := 4) (c := 3) (p := 2118) rfl
theorem zg_77_39 : Zgo d 77 39 L st S Q ↔ (zpa st False fun r t => zde r 10 False fun o => Zgo d 77 42 L (zi (S.1 10 o 7) :: t) S Q) := Zgo_iff (i := .getfield 115) (len := 3) (a := 10) (b := 7) (c := 0) (p := 2085) rfl
theorem zg_77_42 : Zgo d 77 42 L st S Q ↔ (zpi st False fun x t => zem t False (Q (some (zi x)) S)) := Zgo_iff (i := .ireturn) (len := 1) (a := 0) (b := 0) (c := 0) (p := 0) rfl
/-- LeavingMachineLaw.raises(LLeavingMachine;I[J)I -/
theorem zg_78_0 : Zgo d 78 0 L st S Q ↔ (zlda L 2 False fun r => Zgo d 78 1 L (zq r :: st) S Q) := Zgo_iff (i := .aload_n 2) (len := 1) (a := 0) (b := 0) (c := 0) (p := 0) rfl
theorem zg_78_1 : Zgo d 78 1 L st S Q ↔ (Zgo d 78 2 L (zi 0 :: st) S Q) := Zgo_iff (i := .iconst 0) (len := 1) (a := 0) (b := 0) (c := 0) (p := 0) rfl
theorem zg_78_2 : Zgo d 78 2 L st S Q ↔ (zlda L 0 False fun r => Zgo d 78 3 L (zq r :: st) S Q) := Zgo_iff (i := .aload_n 0) (len := 1) (a := 0) (b := 0) (c := 0) (p := 0) rfl
theorem zg_78_3 : Zgo d 78 3 L st S Q ↔ (zldi L 1 False fun x => Zgo d 78 4 L (zi x :: st) S Q) := Zgo_iff (i := .iload_n 1) (len := 1) (a := 0) (b := 0) (c := 0) (p := 0) rfl
theorem zg_78_4 : Zgo d 78 4 L st S Q ↔ (zinv 2 st False fun as t => zrec as 0 False (zCp d 79 as S fun r S2 => zxr r (fun e => zop (zHd 78 e) False fun h => Zgo d 78 h L [zq (some (e, 0))] S2 Q) (Zgo d 78 7 L (r.toList ++ t) S2 Q))) := Zgo_iff (i := .invokevirtual 29) (len := 3) (a := 79) (b := 2) (c := 0) (p := 4119) rfl
theorem zg_78_7 : Zgo d 78 7 L st S Q ↔ (zpi st False fun x t => Zgo d 78 8 L (zl (zw x) :: t) S Q) := Zgo_iff (i := .i2l) (len := 1) (a := 0) (b := 0) (c := 0) (p := 0) rfl
theorem zg_78_8 : Zgo d 78 8 L st S Q ↔ (zpl st False fun v t => zpi t False fun j t => zpa t False fun r t => znn r False fun q o => zop (zArr q) False fun n => if n.1 = 4 then zix j n.2 False fun x => Zgo d 78 9 L t (zsI S.1 q o x v, S.2) Q else False) := Zgo_iff (i := .lastore) (len := 1) (a := 0) (b := 0) (c := 0) (p := 0) rfl
theorem zg_78_9 : Zgo d 78 9 L st S Q ↔ (Zgo d 78 15 L st S Q) := Zgo_iff (i := .goto 6) (len := 3) (a := 0) (b := 0) (c := 0) (p := 0) rfl
theorem zg_78_12 : Zgo d 78 12 L st S Q ↔ (zpa st False fun x t => Zgo d 78 13 (zst L 3 (some (zq x))) t S Q) := Zgo_iff (i := .astore_n 3) (len := 1) (a := 0) (b := 0) (c := 0) (p := 0) rfl
theorem zg_78_13 : Zgo d 78 13 L st S Q ↔ (Zgo d 78 14 L (zi 1 :: st) S Q) := Zgo_iff (i := .iconst 1) (len := 1) (a := 0) (b := 0) (c := 0) (p := 0) rfl
theorem zg_78_14 : Zgo d 78 14 L st S Q ↔ (zpi st False fun x t => zem t False (Q (some (zi x)) S)) := Zgo_iff (i := .ireturn) (len := 1) (a := 0) (b := 0) (c := 0) (p := 0) rfl
theorem zg_78_15 : Zgo d 78 15 L st S Q ↔ (Zgo d 78 16 L (zi 0 :: st) S Q) := Zgo_iff (i := .iconst 0) (len := 1) (a := 0) (b := 0) (c := 0) (p := 0) rfl
theorem zg_78_16 : Zgo d 78 16 L st S Q ↔ (zpi st False fun x t => zem t False (Q (some (zi x)) S)) := Zgo_iff (i := .ireturn) (len := 1) (a := 0) (b := 0) (c := 0) (p := 0) rfl
/-- LeavingMachine.raises(I)I -/
theorem zg_79_0 : Zgo d 79 0 L st S Q ↔ (zldi L 1 False fun x => Zgo d 79 1 L (zi x :: st) S Q) := Zgo_iff (i := .iload_n 1) (len := 1) (a := 0) (b := 0) (c := 0) (p := 0) rfl
theorem zg_79_1 : Zgo d 79 1 L st S Q ↔ (zpi st False fun x t => if zw x < zw 0 then Zgo d 79 15 L t S Q else Zgo d 79 4 L t S Q) := Zgo_iff (i := .ifCond .lt 14) (len := 3) (a := 0) (b := 0) (c := 0) (p := 0) rfl
theorem zg_79_4 : Zgo d 79 4 L st S Q ↔ (zldi L 1 False fun x => Zgo d 79 5 L (zi x :: st) S Q) := Zgo_iff (i := .iload_n 1) (len := 1) (a := 0) (b := 0) (c := 0) (p := 0) rfl
theorem zg_79_5 : Zgo d 79 5 L st S Q ↔ (zlda L 0 False fun r => Zgo d 79 6 L (zq r :: st) S Q) := Zgo_iff (i := .aload_n 0) (len := 1) (a := 0) (b := 0) (c := 0) (p := 0) rfl
theorem zg_79_6 : Zgo d 79 6 L st S Q ↔ (zpa st False fun r t => zde r 0 False fun o => Zgo d 79 9 L (zq (S.2.1 0 o 1) :: t) S Q) := Zgo_iff (i := .getfield 19) (len := 3) (a := 0) (b := 1) (c := 3) (p := 2115) rfl
theorem zg_79_9 : Zgo d 79 9 L st S Q ↔ (zpa st False fun r t => zde r 7 False fun o => Zgo d 79 12 L (zi (S.1 7 o 4) :: t) S Q) := Zgo_iff (i := .getfield 118) (len := 3) (a := 7) (b := 4) (c := 0) (p := 2003) rfl
theorem zg_79_12 : Zgo d 79 12 L st S Q ↔ (zpi st False fun y t => zpi t False fun x t => if zw x < zw y then Zgo d 79 25 L t S Q else Zgo d 79 15 L t S Q) := Zgo_iff (i := .if_icmp .lt 13) (len := 3) (a := 0) (b := 0) (c := 0) (p := 0) rfl
theorem zg_79_15 : Zgo d 79 15 L st S Q ↔ (zem st False (Q (some (zq (some (92, 0)))) (S.1, S.2.1, S.2.2.1, S.2.2.2.1 + 1, S.2.2.2.2.1 + 6, S.2.2.2.2.2))) := Zgo_iff (i := .new 74) (len := 3) (a := 92) (b := 6) (c := 7) (p := 3163) rfl
theorem zg_79_18 : Zgo d 79 18 L st S Q ↔ (zp1 st False fun v t => Zgo d 79 19 L (v :: v :: t) S Q) := Zgo_iff (i := .dup) (len := 1) (a := 0) (b := 0) (c := 0) (p := 0) rfl
theorem zg_79_19 : Zgo d 79 19 L st S Q ↔ (Zgo d 79 21 L (zq (some (91, 6)) :: st) S Q) := Zgo_iff (i := .ldc 121) (len := 2) (a := 91) (b := 6) (c := 0) (p := 4123) rfl
theorem zg_79_25 : Zgo d 79 25 L st S Q ↔ (zlda L 0 False fun r => Zgo d 79 26 L (zq r :: st) S Q) := Zgo_iff (i := .aload_n 0) (len := 1) (a := 0) (b := 0) (c := 0) (p := 0) rfl
theorem zg_79_26 : Zgo d 79 26 L st S Q ↔ (zpa st False fun r t => zde r 0 False fun o => Zgo d 79 29 L (zq (S.2.1 0 o 1) :: t) S Q) := Zgo_iff (i := .getfield 19) (len := 3) (a := 0) (b := 1) (c := 3) (p := 2115) rfl
theorem zg_79_29 : Zgo d 79 29 L st S Q ↔ (zpa st False fun r t => zde r 7 False fun o => Zgo d 79 32 L (zq (S.2.1 7 o 0) :: t) S Q) := Zgo_iff (i := .getfield 123) (len := 3) (a := 7) (b := 0) (c := 3) (p := 1231) rfl
theorem zg_79_32 : Zgo d 79 32 L st S Q ↔ (zldi L 1 False fun x => Zgo d 79 33 L (zi x :: st) S Q) := Zgo_iff (i := .iload_n 1) (len := 1) (a := 0) (b := 0) (c := 0) (p := 0) rfl
theorem zg_79_33 : Zgo d 79 33 L st S Q ↔ (zpi st False fun j t => zpa t False fun r t => znn r False fun q o => zop (zlen S q) False fun n => if n.1 = 3 then zix j n.2 False fun x => Zgo d 79 34 L (zq (S.2.1 q o x) :: t) S Q else False) := Zgo_iff (i := .aaload) (len := 1) (a := 0) (b := 0) (c := 0) (p := 0) rfl
theorem zg_79_34 : Zgo d 79 34 L st S Q ↔ (zpa st False fun r t => zde r 2 False fun o => Zgo d 79 37 L (zi (S.1 2 o 2) :: t) S Q) := Zgo_iff (i := .getfield 127) (len := 3) (a := 2) (b := 2) (c := 0) (p := 1070) rfl
theorem zg_79_37 : Zgo d 79 37 L st S Q ↔ (zpi st False fun x t => zem t False (Q (some (zi x)) S)) := Zgo_iff (i := .ireturn) (len := 1) (a := 0) (b := 0) (c := 0) (p := 0) rfl
end
