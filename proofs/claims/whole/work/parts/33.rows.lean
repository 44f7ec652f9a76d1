/-! .. the reference: checking, running -/
section
variable {d : Nat} {L : zL} {st : List zV} {S : zS} {Q : Option zV → zS → Prop}
/-- LeavingMachineModel.check()I -/
theorem zg_103_0 : Zgo d 103 0 L st S Q ↔ (Zgo d 103 1 L (zi 0 :: st) S Q) := Zgo_iff (i := .iconst 0) (len := 1) (a := 0) (b := 0) (c := 0) (p := 0) rfl
theorem zg_103_1 : Zgo d 103 1 L st S Q ↔ (zpi st False fun x t => Zgo d 103 2 (zst L 1 (some (zi x))) t S Q) := Zgo_iff (i := .istore_n 1) (len := 1) (a := 0) (b := 0) (c := 0) (p := 0) rfl
theorem zg_103_2 : Zgo d 103 2 L st S Q ↔ (zldi L 1 False fun x => Zgo d 103 3 L (zi x :: st) S Q) := Zgo_iff (i := .iload_n 1) (len := 1) (a := 0) (b := 0) (c := 0) (p := 0) rfl
theorem zg_103_3 : Zgo d 103 3 L st S Q ↔ (zlda L 0 False fun r => Zgo d 103 4 L (zq r :: st) S Q) := Zgo_iff (i := .aload_n 0) (len := 1) (a := 0) (b := 0) (c := 0) (p := 0) rfl
theorem zg_103_4 : Zgo d 103 4 L st S Q ↔ (zpa st False fun r t => zde r 11 False fun o => Zgo d 103 7 L (zi (S.1 11 o 10) :: t) S Q) := Zgo_iff (i := .getfield 168) (len := 3) (a := 11) (b := 10) (c := 0) (p := 4140) rfl
theorem zg_103_7 : Zgo d 103 7 L st S Q ↔ (zpi st False fun y t => zpi t False fun x t => if zw x < zw y then Zgo d 103 10 L t S Q else Zgo d 103 28 L t S Q) := Zgo_iff (i := .if_icmp .ge 21) (len := 3) (a := 0) (b := 0) (c := 0) (p := 0) rfl
theorem zg_103_10 : Zgo d 103 10 L st S Q ↔ (zlda L 0 False fun r => Zgo d 103 11 L (zq r :: st) S Q) := Zgo_iff (i := .aload_n 0) (len := 1) (a := 0) (b := 0) (c := 0) (p := 0) rfl
theorem zg_103_11 : Zgo d 103 11 L st S Q ↔ (zldi L 1 False fun x => Zgo d 103 12 L (zi x :: st) S Q) := Zgo_iff (i := .iload_n 1) (len := 1) (a := 0) (b := 0) (c := 0) (p := 0) rfl
theorem zg_103_12 : Zgo d 103 12 L st S Q ↔ (zinv 2 st False fun as t => zrec as 11 False (zCp d 104 as S fun r S2 => Zgo d 103 15 L (r.toList ++ t) S2 Q)) := Zgo_iff (i := .invokevirtual 213) (len := 3) (a := 104) (b := 2) (c := 0) (p := 5150) rfl
theorem zg_103_15 : Zgo d 103 15 L st S Q ↔ (zpi st False fun x t => Zgo d 103 16 (zst L 2 (some (zi x))) t S Q) := Zgo_iff (i := .istore_n 2) (len := 1) (a := 0) (b := 0) (c := 0) (p := 0) rfl
theorem zg_103_16 : Zgo d 103 16 L st S Q ↔ (zldi L 2 False fun x => Zgo d 103 17 L (zi x :: st) S Q) := Zgo_iff (i := .iload_n 2) (len := 1) (a := 0) (b := 0) (c := 0) (p := 0) rfl
theorem zg_103_17 : Zgo d 103 17 L st S Q ↔ (zpi st False fun x t => if zw 0 < zw x then Zgo d 103 20 L t S Q else Zgo d 103 22 L t S Q) := Zgo_iff (i := .ifCond .le 5) (len := 3) (a := 0) (b := 0) (c := 0) (p := 0) rfl
theorem zg_103_20 : Zgo d 103 20 L st S Q ↔ (zldi L 2 False fun x => Zgo d 103 21 L (zi x :: st) S Q) := Zgo_iff (i := .iload_n 2) (len := 1) (a := 0) (b := 0) (c := 0) (p := 0) rfl
theorem zg_103_21 : Zgo d 103 21 L st S Q ↔ (zpi st False fun x t => zem t False (Q (some (zi x)) S)) := Zgo_iff (i := .ireturn) (len := 1) (a := 0) (b := 0) (c := 0) (p := 0) rfl
theorem zg_103_22 : Zgo d 103 22 L st S Q ↔ (zldi L 1 False fun x => Zgo d 103 25 (zst L 1 (some (zi (x + 1)))) st S Q) := Zgo_iff (i := .iinc 1 1) (len := 3) (a := 0) (b := 0) (c := 0) (p := 0) rfl
theorem zg_103_25 : Zgo d 103 25 L st S Q ↔ (Zgo d 103 2 L st S Q) := Zgo_iff (i := .goto (-23)) (len := 3) (a := 0) (b := 0) (c := 0) (p := 0) rfl
theorem zg_103_28 : Zgo d 103 28 L st S Q ↔ (Zgo d 103 29 L (zi 0 :: st) S Q) := Zgo_iff (i := .iconst 0) (len := 1) (a := 0) (b := 0) (c := 0) (p := 0) rfl
theorem zg_103_29 : Zgo d 103 29 L st S Q ↔ (zpi st False fun x t => Zgo d 103 30 (zst L 1 (some (zi x))) t S Q) := Zgo_iff (i := .istore_n 1) (len := 1) (a := 0) (b := 0) (c := 0) (p := 0) rfl
theorem zg_103_30 : Zgo d 103 30 L st S Q ↔ (zldi L 1 False fun x => Zgo d 103 31 L (zi x :: st) S Q) := Zgo_iff (i := .iload_n 1) (len := 1) (a := 0) (b := 0) (c := 0) (p := 0) rfl
theorem zg_103_31 : Zgo d 103 31 L st S Q ↔ (zlda L 0 False fun r => Zgo d 103 32 L (zq r :: st) S Q) := Zgo_iff (i := .aload_n 0) (len := 1) (a := 0) (b := 0) (c := 0) (p := 0) rfl
theorem zg_103_32 : Zgo d 103 32 L st S Q ↔ (zpa st False fun r t => zde r 11 False fun o => Zgo d 103 35 L (zi (S.1 11 o 6) :: t) S Q) := Zgo_iff (i := .getfield 193) (len := 3) (a := 11) (b := 6) (c := 0) (p := 4136) rfl
theorem zg_103_35 : Zgo d 103 35 L st S Q ↔ (zpi st False fun y t => zpi t False fun x t => if zw x < zw y then Zgo d 103 38 L t S Q else Zgo d 103 60 L t S Q) := Zgo_iff (i := .if_icmp .ge 25) (len := 3) (a := 0) (b := 0) (c := 0) (p := 0) rfl
theorem zg_103_38 : Zgo d 103 38 L st S Q ↔ (zlda L 0 False fun r => Zgo d 103 39 L (zq r :: st) S Q) := Zgo_iff (i := .aload_n 0) (len := 1) (a := 0) (b := 0) (c := 0) (p := 0) rfl
theorem zg_103_39 : Zgo d 103 39 L st S Q ↔ (zlda L 0 False fun r => Zgo d 103 40 L (zq r :: st) S Q) := Zgo_iff (i := .aload_n 0) (len := 1) (a := 0) (b := 0) (c := 0) (p := 0) rfl
theorem zg_103_40 : Zgo d 103 40 L st S Q ↔ (zpa st False fun r t => zde r 11 False fun o => Zgo d 103 43 L (zq (S.2.1 11 o 7) :: t) S Q) := Zgo_iff (i := .getfield 13) (len := 3) (a := 11) (b := 7) (c := 3) (p := 4137) rfl
theorem zg_103_43 : Zgo d 103 43 L st S Q ↔ (zldi L 1 False fun x => Zgo d 103 44 L (zi x :: st) S Q) := Zgo_iff (i := .iload_n 1) (len := 1) (a := 0) (b := 0) (c := 0) (p := 0) rfl
theorem zg_103_44 : Zgo d 103 44 L st S Q ↔ (zpi st False fun j t => zpa t False fun r t => znn r False fun q o => zop (zlen S q) False fun n => if n.1 = 0 then zix j n.2 False fun x => Zgo d 103 45 L (zi (S.1 q o x) :: t) S Q else False) := Zgo_iff (i := .iaload) (len := 1) (a := 0) (b := 0) (c := 0) (p := 0) rfl
theorem zg_103_45 : Zgo d 103 45 L st S Q ↔ (zinv 2 st False fun as t => zrec as 11 False (zCp d 106 as S fun r S2 => Zgo d 103 48 L (r.toList ++ t) S2 Q)) := Zgo_iff (i := .invokevirtual 203) (len := 3) (a := 106) (b := 2) (c := 0) (p := 5158) rfl
theorem zg_103_48 : Zgo d 103 48 L st S Q ↔ (zldi L 1 False fun x => Zgo d 103 49 L (zi x :: st) S Q) := Zgo_iff (i := .iload_n 1) (len := 1) (a := 0) (b := 0) (c := 0) (p := 0) rfl
theorem zg_103_49 : Zgo d 103 49 L st S Q ↔ (zpi st False fun y t => zpi t False fun x t => if zw x = zw y then Zgo d 103 54 L t S Q else Zgo d 103 52 L t S Q) := Zgo_iff (i := .if_icmp .eq 5) (len := 3) (a := 0) (b := 0) (c := 0) (p := 0) rfl
theorem zg_103_52 : Zgo d 103 52 L st S Q ↔ (Zgo d 103 53 L (zi 3 :: st) S Q) := Zgo_iff (i := .iconst 3) (len := 1) (a := 0) (b := 0) (c := 0) (p := 0) rfl
theorem zg_103_53 : Zgo d 103 53 L st S Q ↔ (zpi st False fun x t => zem t False (Q (some (zi x)) S)) := Zgo_iff (i := .ireturn) (len := 1) (a := 0) (b := 0) (c := 0) (p := 0) rfl
theorem zg_103_54 : Zgo d 103 54 L st S Q ↔ (zldi L 1 False fun x => Zgo d 103 57 (zst L 1 (some (zi (x + 1)))) st S Q) := Zgo_iff (i := .iinc 1 1) (len := 3) (a := 0) (b := 0) (c := 0) (p := 0) rfl
theorem zg_103_57 : Zgo d 103 57 L st S Q ↔ (Zgo d 103 30 L st S Q) := Zgo_iff (i := .goto (-27)) (len := 3) (a := 0) (b := 0) (c := 0) (p := 0) rfl
theorem zg_103_60 : Zgo d 103 60 L st S Q ↔ (Zgo d 103 61 L (zi 0 :: st) S Q) := Zgo_iff (i := .iconst 0) (len := 1) (a := 0) (b := 0) (c := 0) (p := 0) rfl
theorem zg_103_61 : Zgo d 103 61 L st S Q ↔ (zpi st False fun x t => Zgo d 103 62 (zst L 1 (some (zi x))) t S Q) := Zgo_iff (i := .istore_n 1) (len := 1) (a := 0) (b := 0) (c := 0) (p := 0) rfl
theorem zg_103_62 : Zgo d 103 62 L st S Q ↔ (zlda L 0 False fun r => Zgo d 103 63 L (zq r :: st) S Q) := Zgo_iff (i := .aload_n 0) (len := 1) (a := 0) (b := 0) (c := 0) (p := 0) rfl
theorem zg_103_63 : Zgo d 103 63 L st S Q ↔ (zpa st False fun r t => zde r 11 False fun o => Zgo d 103 66 L (zi (S.1 11 o 10) :: t) S Q) := Zgo_iff (i := .getfield 168) (len := 3) (a := 11) (b := 10) (c := 0) (p := 4140) rfl
theorem zg_103_66 : Zgo d 103 66 L st S Q ↔ (Zgo d 103 67 L (zi 1 :: st) S Q) := Zgo_iff (i := .iconst 1) (len := 1) (a := 0) (b := 0) (c := 0) (p := 0) rfl
theorem zg_103_67 : Zgo d 103 67 L st S Q ↔ (zpi st False fun y t => zpi t False fun x t => Zgo d 103 68 L (zi (x - y) :: t) S Q) := Zgo_iff (i := .isub) (len := 1) (a := 0) (b := 0) (c := 0) (p := 0) rfl
theorem zg_103_68 : Zgo d 103 68 L st S Q ↔ (zpi st False fun x t => Zgo d 103 69 (zst L 2 (some (zi x))) t S Q) := Zgo_iff (i := .istore_n 2) (len := 1) (a := 0) (b := 0) (c := 0) (p := 0) rfl
theorem zg_103_69 : Zgo d 103 69 L st S Q ↔ (zldi L 2 False fun x => Zgo d 103 70 L (zi x :: st) S Q) := Zgo_iff (i := .iload_n 2) (len := 1) (a := 0) (b := 0) (c := 0) (p := 0) rfl
theorem zg_103_70 : Zgo d 103 70 L st S Q ↔ (zpi st False fun x t => if zw x < zw 0 then Zgo d 103 97 L t S Q else Zgo d 103 73 L t S Q) := Zgo_iff (i := .ifCond .lt 27) (len := 3) (a := 0) (b := 0) (c := 0) (p := 0) rfl
theorem zg_103_73 : Zgo d 103 73 L st S Q ↔ (zlda L 0 False fun r => Zgo d 103 74 L (zq r :: st) S Q) := Zgo_iff (i := .aload_n 0) (len := 1) (a := 0) (b := 0) (c := 0) (p := 0) rfl
theorem zg_103_74 : Zgo d 103 74 L st S Q ↔ (zldi L 2 False fun x => Zgo d 103 75 L (zi x :: st) S Q) := Zgo_iff (i := .iload_n 2) (len := 1) (a := 0) (b := 0) (c := 0) (p := 0) rfl
theorem zg_103_75 : Zgo d 103 75 L st S Q ↔ (zinv 2 st False fun as t => zrec as 11 False (zCp d 109 as S fun r S2 => Zgo d 103 78 L (r.toList ++ t) S2 Q)) := Zgo_iff (i := .invokevirtual 216) (len := 3) (a := 109) (b := 2) (c := 0) (p := 5169) rfl
theorem zg_103_78 : Zgo d 103 78 L st S Q ↔ (zpi st False fun x t => if zw x = zw 0 then Zgo d 103 81 L t S Q else Zgo d 103 85 L t S Q) := Zgo_iff (i := .ifCond .ne 7) (len := 3) (a := 0) (b := 0) (c := 0) (p := 0) rfl
theorem zg_103_81 : Zgo d 103 81 L st S Q ↔ (zldi L 1 False fun x => Zgo d 103 82 L (zi x :: st) S Q) := Zgo_iff (i := .iload_n 1) (len := 1) (a := 0) (b := 0) (c := 0) (p := 0) rfl
theorem zg_103_82 : Zgo d 103 82 L st S Q ↔ (zpi st False fun x t => if zw x = zw 0 then Zgo d 103 89 L t S Q else Zgo d 103 85 L t S Q) := Zgo_iff (i := .ifCond .eq 7) (len := 3) (a := 0) (b := 0) (c := 0) (p := 0) rfl
theorem zg_103_85 : Zgo d 103 85 L st S Q ↔ (Zgo d 103 86 L (zi 1 :: st) S Q) := Zgo_iff (i := .iconst 1) (len := 1) (a := 0) (b := 0) (c := 0) (p := 0) rfl
theorem zg_103_86 : Zgo d 103 86 L st S Q ↔ (Zgo d 103 90 L st S Q) := Zgo_iff (i := .goto 4) (len := 3) (a := 0) (b := 0) (c := 0) (p := 0) rfl
theorem zg_103_89 : Zgo d 103 89 L st S Q ↔ (Zgo d 103 90 L (zi 0 :: st) S Q) := Zgo_iff (i := .iconst 0) (len := 1) (a := 0) (b := 0) (c := 0) (p := 0) rfl
theorem zg_103_90 : Zgo d 103 90 L st S Q ↔ (zpi st False fun x t => Zgo d 103 91 (zst L 1 (some (zi x))) t S Q) := Zgo_iff (i := .istore_n 1) (len := 1) (a := 0) (b := 0) (c := 0) (p := 0) rfl
theorem zg_103_91 : Zgo d 103 91 L st S Q ↔ (zldi L 2 False fun x => Zgo d 103 94 (zst L 2 (some (zi (x + (-1))))) st S Q) := Zgo_iff (i := .iinc 2 (-1)) (len := 3) (a := 0) (b := 0) (c := 0) (p := 0) rfl
theorem zg_103_94 : Zgo d 103 94 L st S Q ↔ (Zgo d 103 69 L st S Q) := Zgo_iff (i := .goto (-25)) (len := 3) (a := 0) (b := 0) (c := 0) (p := 0) rfl
theorem zg_103_97 : Zgo d 103 97 L st S Q ↔ (Zgo d 103 98 L (zi 0 :: st) S Q) := Zgo_iff (i := .iconst 0) (len := 1) (a := 0) (b := 0) (c := 0) (p := 0) rfl
theorem zg_103_98 : Zgo d 103 98 L st S Q ↔ (zpi st False fun x t => Zgo d 103 99 (zst L 2 (some (zi x))) t S Q) := Zgo_iff (i := .istore_n 2) (len := 1) (a := 0) (b := 0) (c := 0) (p := 0) rfl
theorem zg_103_99 : Zgo d 103 99 L st S Q ↔ (zldi L 2 False fun x => Zgo d 103 100 L (zi x :: st) S Q) := Zgo_iff (i := .iload_n 2) (len := 1) (a := 0) (b := 0) (c := 0) (p := 0) rfl
theorem zg_103_100 : Zgo d 103 100 L st S Q ↔ (zlda L 0 False fun r => Zgo d 103 101 L (zq r :: st) S Q) := Zgo_iff (i := .aload_n 0) (len := 1) (a := 0) (b := 0) (c := 0) (p := 0) rfl
theorem zg_103_101 : Zgo d 103 101 L st S Q ↔ (zpa st False fun r t => zde r 11 False fun o => Zgo d 103 104 L (zi (S.1 11 o 6) :: t) S Q) := Zgo_iff (i := .getfield 193) (len := 3) (a := 11) (b := 6) (c := 0) (p := 4136) rfl
theorem zg_103_104 : Zgo d 103 104 L st S Q ↔ (zpi st False fun y t => zpi t False fun x t => if zw y < zw x then Zgo d 103 167 L t S Q else Zgo d 103 107 L t S Q) := Zgo_iff (i := .if_icmp .gt 63) (len := 3) (a := 0) (b := 0) (c := 0) (p := 0) rfl
theorem zg_103_107 : Zgo d 103 107 L st S Q ↔ (zldi L 1 False fun x => Zgo d 103 108 L (zi x :: st) S Q) := Zgo_iff (i := .iload_n 1) (len := 1) (a := 0) (b := 0) (c := 0) (p := 0) rfl
theorem zg_103_108 : Zgo d 103 108 L st S Q ↔ (zpi st False fun x t => if zw x = zw 0 then Zgo d 103 111 L t S Q else Zgo d 103 155 L t S Q) := Zgo_iff (i := .ifCond .ne 47) (len := 3) (a := 0) (b := 0) (c := 0) (p := 0) rfl
theorem zg_103_111 : Zgo d 103 111 L st S Q ↔ (zlda L 0 False fun r => Zgo d 103 112 L (zq r :: st) S Q) := Zgo_iff (i := .aload_n 0) (len := 1) (a := 0) (b := 0) (c := 0) (p := 0) rfl
theorem zg_103_112 : Zgo d 103 112 L st S Q ↔ (zpa st False fun r t => zde r 11 False fun o => Zgo d 103 115 L (zq (S.2.1 11 o 27) :: t) S Q) := Zgo_iff (i := .getfield 67) (len := 3) (a := 11) (b := 27) (c := 3) (p := 4157) rfl
theorem zg_103_115 : Zgo d 103 115 L st S Q ↔ (zlda L 0 False fun r => Zgo d 103 116 L (zq r :: st) S Q) := Zgo_iff (i := .aload_n 0) (len := 1) (a := 0) (b := 0) (c := 0) (p := 0) rfl
theorem zg_103_116 : Zgo d 103 116 L st S Q ↔ (zpa st False fun r t => zde r 11 False fun o => Zgo d 103 119 L (zq (S.2.1 11 o 9) :: t) S Q) := Zgo_iff (i := .getfield 19) (len := 3) (a := 11) (b := 9) (c := 3) (p := 4139) rfl
theorem zg_103_119 : Zgo d 103 119 L st S Q ↔ (zldi L 2 False fun x => Zgo d 103 120 L (zi x :: st) S Q) := Zgo_iff (i := .iload_n 2) (len := 1) (a := 0) (b := 0) (c := 0) (p := 0) rfl
theorem zg_103_120 : Zgo d 103 120 L st S Q ↔ (zpi st False fun j t => zpa t False fun r t => znn r False fun q o => zop (zlen S q) False fun n => if n.1 = 0 then zix j n.2 False fun x => Zgo d 103 121 L (zi (S.1 q o x) :: t) S Q else False) := Zgo_iff (i := .iaload) (len := 1) (a := 0) (b := 0) (c := 0) (p := 0) rfl
theorem zg_103_121 : Zgo d 103 121 L st S Q ↔ (zpi st False fun j t => zpa t False fun r t => znn r False fun q o => zop (zlen S q) False fun n => if n.1 = 0 then zix j n.2 False fun x => Zgo d 103 122 L (zi (S.1 q o x) :: t) S Q else False) := Zgo_iff (i := .iaload) (len := 1) (a := 0) (b := 0) (c := 0) (p := 0) rfl
theorem zg_103_122 : Zgo d 103 122 L st S Q ↔ (zldi L 2 False fun x => Zgo d 103 123 L (zi x :: st) S Q) := Zgo_iff (i := .iload_n 2) (len := 1) (a := 0) (b := 0) (c := 0) (p := 0) rfl
theorem zg_103_123 : Zgo d 103 123 L st S Q ↔ (zlda L 0 False fun r => Zgo d 103 124 L (zq r :: st) S Q) := Zgo_iff (i := .aload_n 0) (len := 1) (a := 0) (b := 0) (c := 0) (p := 0) rfl
theorem zg_103_124 : Zgo d 103 124 L st S Q ↔ (zpa st False fun r t => zde r 11 False fun o => Zgo d 103 127 L (zi (S.1 11 o 6) :: t) S Q) := Zgo_iff (i := .getfield 193) (len := 3) (a := 11) (b := 6) (c := 0) (p := 4136) rfl
theorem zg_103_127 : Zgo d 103 127 L st S Q ↔ (zpi st False fun y t => zpi t False fun x t => if zw x < zw y then Zgo d 103 130 L t S Q else Zgo d 103 148 L t S Q) := Zgo_iff (i := .if_icmp .ge 21) (len := 3) (a := 0) (b := 0) (c := 0) (p := 0) rfl
theorem zg_103_130 : Zgo d 103 130 L st S Q ↔ (zlda L 0 False fun r => Zgo d 103 131 L (zq r :: st) S Q) := Zgo_iff (i := .aload_n 0) (len := 1) (a := 0) (b := 0) (c := 0) (p := 0) rfl
theorem zg_103_131 : Zgo d 103 131 L st S Q ↔ (zpa st False fun r t => zde r 11 False fun o => Zgo d 103 134 L (zq (S.2.1 11 o 8) :: t) S Q) := Zgo_iff (i := .getfield 16) (len := 3) (a := 11) (b := 8) (c := 3) (p := 4138) rfl
theorem zg_103_134 : Zgo d 103 134 L st S Q ↔ (zldi L 2 False fun x => Zgo d 103 135 L (zi x :: st) S Q) := Zgo_iff (i := .iload_n 2) (len := 1) (a := 0) (b := 0) (c := 0) (p := 0) rfl
theorem zg_103_135 : Zgo d 103 135 L st S Q ↔ (Zgo d 103 136 L (zi 3 :: st) S Q) := Zgo_iff (i := .iconst 3) (len := 1) (a := 0) (b := 0) (c := 0) (p := 0) rfl
theorem zg_103_136 : Zgo d 103 136 L st S Q ↔ (zpi st False fun y t => zpi t False fun x t => if zw x < zw y then Zgo d 103 139 L t S Q else Zgo d 103 143 L t S Q) := Zgo_iff (i := .if_icmp .ge 7) (len := 3) (a := 0) (b := 0) (c := 0) (p := 0) rfl
theorem zg_103_139 : Zgo d 103 139 L st S Q ↔ (zldi L 2 False fun x => Zgo d 103 140 L (zi x :: st) S Q) := Zgo_iff (i := .iload_n 2) (len := 1) (a := 0) (b := 0) (c := 0) (p := 0) rfl
theorem zg_103_140 : Zgo d 103 140 L st S Q ↔ (Zgo d 103 144 L st S Q) := Zgo_iff (i := .goto 4) (len := 3) (a := 0) (b := 0) (c := 0) (p := 0) rfl
theorem zg_103_143 : Zgo d 103 143 L st S Q ↔ (Zgo d 103 144 L (zi 0 :: st) S Q) := Zgo_iff (i := .iconst 0) (len := 1) (a := 0) (b := 0) (c := 0) (p := 0) rfl
theorem zg_103_144 : Zgo d 103 144 L st S Q ↔ (zpi st False fun j t => zpa t False fun r t => znn r False fun q o => zop (zlen S q) False fun n => if n.1 = 0 then zix j n.2 False fun x => Zgo d 103 145 L (zi (S.1 q o x) :: t) S Q else False) := Zgo_iff (i := .iaload) (len := 1) (a := 0) (b := 0) (c := 0) (p := 0) rfl
theorem zg_103_145 : Zgo d 103 145 L st S Q ↔ (Zgo d 103 149 L st S Q) := Zgo_iff (i := .goto 4) (len := 3) (a := 0) (b := 0) (c := 0) (p := 0) rfl
theorem zg_103_148 : Zgo d 103 148 L st S Q ↔ (Zgo d 103 149 L (zi 0 :: st) S Q) := Zgo_iff (i := .iconst 0) (len := 1) (a := 0) (b := 0) (c := 0) (p := 0) rfl
theorem zg_103_149 : Zgo d 103 149 L st S Q ↔ (Zgo d 103 150 L (zi (-1) :: st) S Q) := Zgo_iff (i := .iconst (-1)) (len := 1) (a := 0) (b := 0) (c := 0) (p := 0) rfl
theorem zg_103_150 : Zgo d 103 150 L st S Q ↔ (zpi st False fun y t => zpi t False fun x t => Zgo d 103 151 L (zi (zxor x y) :: t) S Q) := Zgo_iff (i := .ixor) (len := 1) (a := 0) (b := 0) (c := 0) (p := 0) rfl
theorem zg_103_151 : Zgo d 103 151 L st S Q ↔ (zpi st False fun y t => zpi t False fun x t => Zgo d 103 152 L (zi (zand x y) :: t) S Q) := Zgo_iff (i := .iand) (len := 1) (a := 0) (b := 0) (c := 0) (p := 0) rfl
theorem zg_103_152 : Zgo d 103 152 L st S Q ↔ (zpi st False fun x t => if zw x = zw 0 then Zgo d 103 159 L t S Q else Zgo d 103 155 L t S Q) := Zgo_iff (i := .ifCond .eq 7) (len := 3) (a := 0) (b := 0) (c := 0) (p := 0) rfl
theorem zg_103_155 : Zgo d 103 155 L st S Q ↔ (Zgo d 103 156 L (zi 1 :: st) S Q) := Zgo_iff (i := .iconst 1) (len := 1) (a := 0) (b := 0) (c := 0) (p := 0) rfl
theorem zg_103_156 : Zgo d 103 156 L st S Q ↔ (Zgo d 103 160 L st S Q) := Zgo_iff (i := .goto 4) (len := 3) (a := 0) (b := 0) (c := 0) (p := 0) rfl
theorem zg_103_159 : Zgo d 103 159 L st S Q ↔ (Zgo d 103 160 L (zi 0 :: st) S Q) := Zgo_iff (i := .iconst 0) (len := 1) (a := 0) (b := 0) (c := 0) (p := 0) rfl
theorem zg_103_160 : Zgo d 103 160 L st S Q ↔ (zpi st False fun x t => Zgo d 103 161 (zst L 1 (some (zi x))) t S Q) := Zgo_iff (i := .istore_n 1) (len := 1) (a := 0) (b := 0) (c := 0) (p := 0) rfl
theorem zg_103_161 : Zgo d 103 161 L st S Q ↔ (zldi L 2 False fun x => Zgo d 103 164 (zst L 2 (some (zi (x + 1)))) st S Q) := Zgo_iff (i := .iinc 2 1) (len := 3) (a := 0) (b := 0) (c := 0) (p := 0) rfl
theorem zg_103_164 : Zgo d 103 164 L st S Q ↔ (Zgo d 103 99 L st S Q) := Zgo_iff (i := .goto (-65)) (len := 3) (a := 0) (b := 0) (c := 0) (p := 0) rfl
theorem zg_103_167 : Zgo d 103 167 L st S Q ↔ (zldi L 1 False fun x => Zgo d 103 168 L (zi x :: st) S Q) := Zgo_iff (i := .iload_n 1) (len := 1) (a := 0) (b := 0) (c := 0) (p := 0) rfl
theorem zg_103_168 : Zgo d 103 168 L st S Q ↔ (zpi st False fun x t => if zw x = zw 0 then Zgo d 103 175 L t S Q else Zgo d 103 171 L t S Q) := Zgo_iff (i := .ifCond .eq 7) (len := 3) (a := 0) (b := 0) (c := 0) (p := 0) rfl
theorem zg_103_171 : Zgo d 103 171 L st S Q ↔ (Zgo d 103 172 L (zi 5 :: st) S Q) := Zgo_iff (i := .iconst 5) (len := 1) (a := 0) (b := 0) (c := 0) (p := 0) rfl
theorem zg_103_172 : Zgo d 103 172 L st S Q ↔ (Zgo d 103 176 L st S Q) := Zgo_iff (i := .goto 4) (len := 3) (a := 0) (b := 0) (c := 0) (p := 0) rfl
theorem zg_103_175 : Zgo d 103 175 L st S Q ↔ (Zgo d 103 176 L (zi 0 :: st) S Q) := Zgo_iff (i := .iconst 0) (len := 1) (a := 0) (b := 0) (c := 0) (p := 0) rfl
theorem zg_103_176 : Zgo d 103 176 L st S Q ↔ (zpi st False fun x t => zem t False (Q (some (zi x)) S)) := Zgo_iff (i := .ireturn) (len := 1) (a := 0) (b := 0) (c := 0) (p := 0) rfl
/-- LeavingMachineModel.faultOf(I)I -/
theorem zg_104_0 : Zgo d 104 0 L st S Q ↔ (zlda L 0 False fun r => Zgo d 104 1 L (zq r :: st) S Q) := Zgo_iff (i := .aload_n 0) (len := 1) (a := 0) (b := 0) (c := 0) (p := 0) rfl
theorem zg_104_1 : Zgo d 104 1 L st S Q ↔ (zpa st False fun r t => zde r 11 False fun o => Zgo d 104 4 L (zq (S.2.1 11 o 11) :: t) S Q) := Zgo_iff (i := .getfield 22) (len := 3) (a := 11) (b := 11) (c := 3) (p := 4141) rfl
theorem zg_104_4 : Zgo d 104 4 L st S Q ↔ (zldi L 1 False fun x => Zgo d 104 5 L (zi x :: st) S Q) := Zgo_iff (i := .iload_n 1) (len := 1) (a := 0) (b := 0) (c := 0) (p := 0) rfl
theorem zg_104_5 : Zgo d 104 5 L st S Q ↔ (zpi st False fun j t => zpa t False fun r t => znn r False fun q o => zop (zlen S q) False fun n => if n.1 = 0 then zix j n.2 False fun x => Zgo d 104 6 L (zi (S.1 q o x) :: t) S Q else False) := Zgo_iff (i := .iaload) (len := 1) (a := 0) (b := 0) (c := 0) (p := 0) rfl
theorem zg_104_6 : Zgo d 104 6 L st S Q ↔ (zpi st False fun x t => Zgo d 104 7 (zst L 2 (some (zi x))) t S Q) := Zgo_iff (i := .istore_n 2) (len := 1) (a := 0) (b := 0) (c := 0) (p := 0) rfl
theorem zg_104_7 : Zgo d 104 7 L st S Q ↔ (zldi L 2 False fun x => Zgo d 104 8 L (zi x :: st) S Q) := Zgo_iff (i := .iload_n 2) (len := 1) (a := 0) (b := 0) (c := 0) (p := 0) rfl
theorem zg_104_8 : Zgo d 104 8 L st S Q ↔ (Zgo d 104 10 L (zi 66 :: st) S Q) := Zgo_iff (i := .bipush 66) (len := 2) (a := 0) (b := 0) (c := 0) (p := 0) rfl
theorem zg_104_10 : Zgo d 104 10 L st S Q ↔ (zpi st False fun y t => zpi t False fun x t => if zw x = zw y then Zgo d 104 19 L t S Q else Zgo d 104 13 L t S Q) := Zgo_iff (i := .if_icmp .eq 9) (len := 3) (a := 0) (b := 0) (c := 0) (p := 0) rfl
theorem zg_104_13 : Zgo d 104 13 L st S Q ↔ (zldi L 2 False fun x => Zgo d 104 14 L (zi x :: st) S Q) := Zgo_iff (i := .iload_n 2) (len := 1) (a := 0) (b := 0) (c := 0) (p := 0) rfl
theorem zg_104_14 : Zgo d 104 14 L st S Q ↔ (Zgo d 104 16 L (zi 67 :: st) S Q) := Zgo_iff (i := .bipush 67) (len := 2) (a := 0) (b := 0) (c := 0) (p := 0) rfl
theorem zg_104_16 : Zgo d 104 16 L st S Q ↔ (zpi st False fun y t => zpi t False fun x t => if zw x = zw y then Zgo d 104 19 L t S Q else Zgo d 104 31 L t S Q) := Zgo_iff (i := .if_icmp .ne 15) (len := 3) (a := 0) (b := 0) (c := 0) (p := 0) rfl
theorem zg_104_19 : Zgo d 104 19 L st S Q ↔ (zlda L 0 False fun r => Zgo d 104 20 L (zq r :: st) S Q) := Zgo_iff (i := .aload_n 0) (len := 1) (a := 0) (b := 0) (c := 0) (p := 0) rfl
theorem zg_104_20 : Zgo d 104 20 L st S Q ↔ (zldi L 1 False fun x => Zgo d 104 21 L (zi x :: st) S Q) := Zgo_iff (i := .iload_n 1) (len := 1) (a := 0) (b := 0) (c := 0) (p := 0) rfl
theorem zg_104_21 : Zgo d 104 21 L st S Q ↔ (Zgo d 104 23 L (zi 64 :: st) S Q) := Zgo_iff (i := .bipush 64) (len := 2) (a := 0) (b := 0) (c := 0) (p := 0) rfl
theorem zg_104_23 : Zgo d 104 23 L st S Q ↔ (Zgo d 104 24 L (zi 0 :: st) S Q) := Zgo_iff (i := .iconst 0) (len := 1) (a := 0) (b := 0) (c := 0) (p := 0) rfl
theorem zg_104_24 : Zgo d 104 24 L st S Q ↔ (Zgo d 104 25 L (zi 0 :: st) S Q) := Zgo_iff (i := .iconst 0) (len := 1) (a := 0) (b := 0) (c := 0) (p := 0) rfl
theorem zg_104_25 : Zgo d 104 25 L st S Q ↔ (zinv 5 st False fun as t => zrec as 11 False (zCp d 105 as S fun r S2 => Zgo d 104 28 L (r.toList ++ t) S2 Q)) := Zgo_iff (i := .invokevirtual 199) (len := 3) (a := 105) (b := 5) (c := 0) (p := 5154) rfl
theorem zg_104_28 : Zgo d 104 28 L st S Q ↔ (zpi st False fun x t => if zw x < zw 0 then Zgo d 104 49 L t S Q else Zgo d 104 31 L t S Q) := Zgo_iff (i := .ifCond .lt 21) (len := 3) (a := 0) (b := 0) (c := 0) (p := 0) rfl
theorem zg_104_31 : Zgo d 104 31 L st S Q ↔ (zldi L 2 False fun x => Zgo d 104 32 L (zi x :: st) S Q) := Zgo_iff (i := .iload_n 2) (len := 1) (a := 0) (b := 0) (c := 0) (p := 0) rfl
theorem zg_104_32 : Zgo d 104 32 L st S Q ↔ (Zgo d 104 34 L (zi 88 :: st) S Q) := Zgo_iff (i := .bipush 88) (len := 2) (a := 0) (b := 0) (c := 0) (p := 0) rfl
theorem zg_104_34 : Zgo d 104 34 L st S Q ↔ (zpi st False fun y t => zpi t False fun x t => if zw x = zw y then Zgo d 104 37 L t S Q else Zgo d 104 51 L t S Q) := Zgo_iff (i := .if_icmp .ne 17) (len := 3) (a := 0) (b := 0) (c := 0) (p := 0) rfl
theorem zg_104_37 : Zgo d 104 37 L st S Q ↔ (zlda L 0 False fun r => Zgo d 104 38 L (zq r :: st) S Q) := Zgo_iff (i := .aload_n 0) (len := 1) (a := 0) (b := 0) (c := 0) (p := 0) rfl
theorem zg_104_38 : Zgo d 104 38 L st S Q ↔ (zldi L 1 False fun x => Zgo d 104 39 L (zi x :: st) S Q) := Zgo_iff (i := .iload_n 1) (len := 1) (a := 0) (b := 0) (c := 0) (p := 0) rfl
theorem zg_104_39 : Zgo d 104 39 L st S Q ↔ (Zgo d 104 41 L (zi 89 :: st) S Q) := Zgo_iff (i := .bipush 89) (len := 2) (a := 0) (b := 0) (c := 0) (p := 0) rfl
theorem zg_104_41 : Zgo d 104 41 L st S Q ↔ (Zgo d 104 42 L (zi 2 :: st) S Q) := Zgo_iff (i := .iconst 2) (len := 1) (a := 0) (b := 0) (c := 0) (p := 0) rfl
theorem zg_104_42 : Zgo d 104 42 L st S Q ↔ (Zgo d 104 43 L (zi 4 :: st) S Q) := Zgo_iff (i := .iconst 4) (len := 1) (a := 0) (b := 0) (c := 0) (p := 0) rfl
theorem zg_104_43 : Zgo d 104 43 L st S Q ↔ (zinv 5 st False fun as t => zrec as 11 False (zCp d 105 as S fun r S2 => Zgo d 104 46 L (r.toList ++ t) S2 Q)) := Zgo_iff (i := .invokevirtual 199) (len := 3) (a := 105) (b := 5) (c := 0) (p := 5154) rfl
theorem zg_104_46 : Zgo d 104 46 L st S Q ↔ (zpi st False fun x t => if zw x < zw 0 then Zgo d 104 49 L t S Q else Zgo d 104 51 L t S Q) := Zgo_iff (i := .ifCond .ge 5) (len := 3) (a := 0) (b := 0) (c := 0) (p := 0) rfl
theorem zg_104_49 : Zgo d 104 49 L st S Q ↔ (Zgo d 104 50 L (zi 2 :: st) S Q) := Zgo_iff (i := .iconst 2) (len := 1) (a := 0) (b := 0) (c := 0) (p := 0) rfl
theorem zg_104_50 : Zgo d 104 50 L st S Q ↔ (zpi st False fun x t => zem t False (Q (some (zi x)) S)) := Zgo_iff (i := .ireturn) (len := 1) (a := 0) (b := 0) (c := 0) (p := 0) rfl
theorem zg_104_51 : Zgo d 104 51 L st S Q ↔ (zldi L 2 False fun x => Zgo d 104 52 L (zi x :: st) S Q) := Zgo_iff (i := .iload_n 2) (len := 1) (a := 0) (b := 0) (c := 0) (p := 0) rfl
theorem zg_104_52 : Zgo d 104 52 L st S Q ↔ (Zgo d 104 54 L (zi 80 :: st) S Q) := Zgo_iff (i := .bipush 80) (len := 2) (a := 0) (b := 0) (c := 0) (p := 0) rfl
theorem zg_104_54 : Zgo d 104 54 L st S Q ↔ (zpi st False fun y t => zpi t False fun x t => if zw x = zw y then Zgo d 104 57 L t S Q else Zgo d 104 72 L t S Q) := Zgo_iff (i := .if_icmp .ne 18) (len := 3) (a := 0) (b := 0) (c := 0) (p := 0) rfl
theorem zg_104_57 : Zgo d 104 57 L st S Q ↔ (zlda L 0 False fun r => Zgo d 104 58 L (zq r :: st) S Q) := Zgo_iff (i := .aload_n 0) (len := 1) (a := 0) (b := 0) (c := 0) (p := 0) rfl
theorem zg_104_58 : Zgo d 104 58 L st S Q ↔ (zlda L 0 False fun r => Zgo d 104 59 L (zq r :: st) S Q) := Zgo_iff (i := .aload_n 0) (len := 1) (a := 0) (b := 0) (c := 0) (p := 0) rfl
theorem zg_104_59 : Zgo d 104 59 L st S Q ↔ (zpa st False fun r t => zde r 11 False fun o => Zgo d 104 62 L (zq (S.2.1 11 o 12) :: t) S Q) := Zgo_iff (i := .getfield 25) (len := 3) (a := 11) (b := 12) (c := 3) (p := 4142) rfl
theorem zg_104_62 : Zgo d 104 62 L st S Q ↔ (zldi L 1 False fun x => Zgo d 104 63 L (zi x :: st) S Q) := Zgo_iff (i := .iload_n 1) (len := 1) (a := 0) (b := 0) (c := 0) (p := 0) rfl
theorem zg_104_63 : Zgo d 104 63 L st S Q ↔ (zpi st False fun j t => zpa t False fun r t => znn r False fun q o => zop (zlen S q) False fun n => if n.1 = 0 then zix j n.2 False fun x => Zgo d 104 64 L (zi (S.1 q o x) :: t) S Q else False) := Zgo_iff (i := .iaload) (len := 1) (a := 0) (b := 0) (c := 0) (p := 0) rfl
theorem zg_104_64 : Zgo d 104 64 L st S Q ↔ (zinv 2 st False fun as t => zrec as 11 False (zCp d 106 as S fun r S2 => Zgo d 104 67 L (r.toList ++ t) S2 Q)) := Zgo_iff (i := .invokevirtual 203) (len := 3) (a := 106) (b := 2) (c := 0) (p := 5158) rfl
theorem zg_104_67 : Zgo d 104 67 L st S Q ↔ (zpi st False fun x t => if zw x < zw 0 then Zgo d 104 70 L t S Q else Zgo d 104 72 L t S Q) := Zgo_iff (i := .ifCond .ge 5) (len := 3) (a := 0) (b := 0) (c := 0) (p := 0) rfl
theorem zg_104_70 : Zgo d 104 70 L st S Q ↔ (Zgo d 104 71 L (zi 3 :: st) S Q) := Zgo_iff (i := .iconst 3) (len := 1) (a := 0) (b := 0) (c := 0) (p := 0) rfl
theorem zg_104_71 : Zgo d 104 71 L st S Q ↔ (zpi st False fun x t => zem t False (Q (some (zi x)) S)) := Zgo_iff (i := .ireturn) (len := 1) (a := 0) (b := 0) (c := 0) (p := 0) rfl
theorem zg_104_72 : Zgo d 104 72 L st S Q ↔ (zlda L 0 False fun r => Zgo d 104 73 L (zq r :: st) S Q) := Zgo_iff (i := .aload_n 0) (len := 1) (a := 0) (b := 0) (c := 0) (p := 0) rfl
theorem zg_104_73 : Zgo d 104 73 L st S Q ↔ (zldi L 1 False fun x => Zgo d 104 74 L (zi x :: st) S Q) := Zgo_iff (i := .iload_n 1) (len := 1) (a := 0) (b := 0) (c := 0) (p := 0) rfl
theorem zg_104_74 : Zgo d 104 74 L st S Q ↔ (zinv 2 st False fun as t => zrec as 11 False (zCp d 107 as S fun r S2 => Zgo d 104 77 L (r.toList ++ t) S2 Q)) := Zgo_iff (i := .invokevirtual 207) (len := 3) (a := 107) (b := 2) (c := 0) (p := 5162) rfl
theorem zg_104_77 : Zgo d 104 77 L st S Q ↔ (zpi st False fun x t => Zgo d 104 78 (zst L 3 (some (zi x))) t S Q) := Zgo_iff (i := .istore_n 3) (len := 1) (a := 0) (b := 0) (c := 0) (p := 0) rfl
theorem zg_104_78 : Zgo d 104 78 L st S Q ↔ (zldi L 3 False fun x => Zgo d 104 79 L (zi x :: st) S Q) := Zgo_iff (i := .iload_n 3) (len := 1) (a := 0) (b := 0) (c := 0) (p := 0) rfl
theorem zg_104_79 : Zgo d 104 79 L st S Q ↔ (zpi st False fun x t => if zw x < zw 0 then Zgo d 104 106 L t S Q else Zgo d 104 82 L t S Q) := Zgo_iff (i := .ifCond .lt 27) (len := 3) (a := 0) (b := 0) (c := 0) (p := 0) rfl
theorem zg_104_82 : Zgo d 104 82 L st S Q ↔ (zlda L 0 False fun r => Zgo d 104 83 L (zq r :: st) S Q) := Zgo_iff (i := .aload_n 0) (len := 1) (a := 0) (b := 0) (c := 0) (p := 0) rfl
theorem zg_104_83 : Zgo d 104 83 L st S Q ↔ (zpa st False fun r t => zde r 11 False fun o => Zgo d 104 86 L (zq (S.2.1 11 o 11) :: t) S Q) := Zgo_iff (i := .getfield 22) (len := 3) (a := 11) (b := 11) (c := 3) (p := 4141) rfl
theorem zg_104_86 : Zgo d 104 86 L st S Q ↔ (zldi L 3 False fun x => Zgo d 104 87 L (zi x :: st) S Q) := Zgo_iff (i := .iload_n 3) (len := 1) (a := 0) (b := 0) (c := 0) (p := 0) rfl
theorem zg_104_87 : Zgo d 104 87 L st S Q ↔ (zpi st False fun x t => if zw x < zw 0 then Zgo d 104 90 L t S Q else Zgo d 104 94 L t S Q) := Zgo_iff (i := .ifCond .ge 7) (len := 3) (a := 0) (b := 0) (c := 0) (p := 0) rfl
theorem zg_104_90 : Zgo d 104 90 L st S Q ↔ (Zgo d 104 91 L (zi 0 :: st) S Q) := Zgo_iff (i := .iconst 0) (len := 1) (a := 0) (b := 0) (c := 0) (p := 0) rfl
theorem zg_104_91 : Zgo d 104 91 L st S Q ↔ (Zgo d 104 95 L st S Q) := Zgo_iff (i := .goto 4) (len := 3) (a := 0) (b := 0) (c := 0) (p := 0) rfl
theorem zg_104_94 : Zgo d 104 94 L st S Q ↔ (zldi L 3 False fun x => Zgo d 104 95 L (zi x :: st) S Q) := Zgo_iff (i := .iload_n 3) (len := 1) (a := 0) (b := 0) (c := 0) (p := 0) rfl
theorem zg_104_95 : Zgo d 104 95 L st S Q ↔ (zpi st False fun j t => zpa t False fun r t => znn r False fun q o => zop (zlen S q) False fun n => if n.1 = 0 then zix j n.2 False fun x => Zgo d 104 96 L (zi (S.1 q o x) :: t) S Q else False) := Zgo_iff (i := .iaload) (len := 1) (a := 0) (b := 0) (c := 0) (p := 0) rfl
theorem zg_104_96 : Zgo d 104 96 L st S Q ↔ (zinv 1 st False fun as t => zCp d 108 as S fun r S2 => Zgo d 104 99 L (r.toList ++ t) S2 Q) := Zgo_iff (i := .invokestatic 210) (len := 3) (a := 108) (b := 1) (c := 1) (p := 5166) rfl
theorem zg_104_99 : Zgo d 104 99 L st S Q ↔ (zpi st False fun x t => if zw x = zw 0 then Zgo d 104 106 L t S Q else Zgo d 104 102 L t S Q) := Zgo_iff (i := .ifCond .eq 7) (len := 3) (a := 0) (b := 0) (c := 0) (p := 0) rfl
theorem zg_104_102 : Zgo d 104 102 L st S Q ↔ (Zgo d 104 103 L (zi 4 :: st) S Q) := Zgo_iff (i := .iconst 4) (len := 1) (a := 0) (b := 0) (c := 0) (p := 0) rfl
theorem zg_104_103 : Zgo d 104 103 L st S Q ↔ (Zgo d 104 107 L st S Q) := Zgo_iff (i := .goto 4) (len := 3) (a := 0) (b := 0) (c := 0) (p := 0) rfl
theorem zg_104_106 : Zgo d 104 106 L st S Q ↔ (Zgo d 104 107 L (zi 0 :: st) S Q) := Zgo_iff (i := .iconst 0) (len := 1) (a := 0) (b := 0) (c := 0) (p := 0) rfl
theorem zg_104_107 : Zgo d 104 107 L st S Q ↔ (zpi st False fun x t => zem t False (Q (some (zi x)) S)) := Zgo_iff (i := .ireturn) (len := 1) (a := 0) (b := 0) (c := 0) (p := 0) rfl
/-- LeavingMachineModel.around(IIII)I -/
theorem zg_105_0 : Zgo d 105 0 L st S Q ↔ (zlda L 0 False fun r => Zgo d 105 1 L (zq r :: st) S Q) := Zgo_iff (i := .aload_n 0) (len := 1) (a := 0) (b := 0) (c := 0) (p := 0) rfl
theorem zg_105_1 : Zgo d 105 1 L st S Q ↔ (zpa st False fun r t => zde r 11 False fun o => Zgo d 105 4 L (zq (S.2.1 11 o 19) :: t) S Q) := Zgo_iff (i := .getfield 46) (len := 3) (a := 11) (b := 19) (c := 3) (p := 4149) rfl
theorem zg_105_4 : Zgo d 105 4 L st S Q ↔ (zldi L 1 False fun x => Zgo d 105 5 L (zi x :: st) S Q) := Zgo_iff (i := .iload_n 1) (len := 1) (a := 0) (b := 0) (c := 0) (p := 0) rfl
theorem zg_105_5 : Zgo d 105 5 L st S Q ↔ (zpi st False fun j t => zpa t False fun r t => znn r False fun q o => zop (zlen S q) False fun n => if n.1 = 0 then zix j n.2 False fun x => Zgo d 105 6 L (zi (S.1 q o x) :: t) S Q else False) := Zgo_iff (i := .iaload) (len := 1) (a := 0) (b := 0) (c := 0) (p := 0) rfl
theorem zg_105_6 : Zgo d 105 6 L st S Q ↔ (zpi st False fun x t => Zgo d 105 8 (zst L 5 (some (zi x))) t S Q) := Zgo_iff (i := .istore 5) (len := 2) (a := 0) (b := 0) (c := 0) (p := 0) rfl
theorem zg_105_8 : Zgo d 105 8 L st S Q ↔ (zlda L 0 False fun r => Zgo d 105 9 L (zq r :: st) S Q) := Zgo_iff (i := .aload_n 0) (len := 1) (a := 0) (b := 0) (c := 0) (p := 0) rfl
theorem zg_105_9 : Zgo d 105 9 L st S Q ↔ (zpa st False fun r t => zde r 11 False fun o => Zgo d 105 12 L (zq (S.2.1 11 o 25) :: t) S Q) := Zgo_iff (i := .getfield 61) (len := 3) (a := 11) (b := 25) (c := 3) (p := 4155) rfl
theorem zg_105_12 : Zgo d 105 12 L st S Q ↔ (zldi L 5 False fun x => Zgo d 105 14 L (zi x :: st) S Q) := Zgo_iff (i := .iload 5) (len := 2) (a := 0) (b := 0) (c := 0) (p := 0) rfl
theorem zg_105_14 : Zgo d 105 14 L st S Q ↔ (zpi st False fun j t => zpa t False fun r t => znn r False fun q o => zop (zlen S q) False fun n => if n.1 = 0 then zix j n.2 False fun x => Zgo d 105 15 L (zi (S.1 q o x) :: t) S Q else False) := Zgo_iff (i := .iaload) (len := 1) (a := 0) (b := 0) (c := 0) (p := 0) rfl
theorem zg_105_15 : Zgo d 105 15 L st S Q ↔ (zpi st False fun x t => if zw x < zw 0 then Zgo d 105 77 L t S Q else Zgo d 105 18 L t S Q) := Zgo_iff (i := .ifCond .lt 62) (len := 3) (a := 0) (b := 0) (c := 0) (p := 0) rfl
theorem zg_105_18 : Zgo d 105 18 L st S Q ↔ (zlda L 0 False fun r => Zgo d 105 19 L (zq r :: st) S Q) := Zgo_iff (i := .aload_n 0) (len := 1) (a := 0) (b := 0) (c := 0) (p := 0) rfl
theorem zg_105_19 : Zgo d 105 19 L st S Q ↔ (zpa st False fun r t => zde r 11 False fun o => Zgo d 105 22 L (zq (S.2.1 11 o 11) :: t) S Q) := Zgo_iff (i := .getfield 22) (len := 3) (a := 11) (b := 11) (c := 3) (p := 4141) rfl
theorem zg_105_22 : Zgo d 105 22 L st S Q ↔ (zlda L 0 False fun r => Zgo d 105 23 L (zq r :: st) S Q) := Zgo_iff (i := .aload_n 0) (len := 1) (a := 0) (b := 0) (c := 0) (p := 0) rfl
theorem zg_105_23 : Zgo d 105 23 L st S Q ↔ (zpa st False fun r t => zde r 11 False fun o => Zgo d 105 26 L (zq (S.2.1 11 o 25) :: t) S Q) := Zgo_iff (i := .getfield 61) (len := 3) (a := 11) (b := 25) (c := 3) (p := 4155) rfl
theorem zg_105_26 : Zgo d 105 26 L st S Q ↔ (zldi L 5 False fun x => Zgo d 105 28 L (zi x :: st) S Q) := Zgo_iff (i := .iload 5) (len := 2) (a := 0) (b := 0) (c := 0) (p := 0) rfl
theorem zg_105_28 : Zgo d 105 28 L st S Q ↔ (zpi st False fun j t => zpa t False fun r t => znn r False fun q o => zop (zlen S q) False fun n => if n.1 = 0 then zix j n.2 False fun x => Zgo d 105 29 L (zi (S.1 q o x) :: t) S Q else False) := Zgo_iff (i := .iaload) (len := 1) (a := 0) (b := 0) (c := 0) (p := 0) rfl
theorem zg_105_29 : Zgo d 105 29 L st S Q ↔ (zpi st False fun j t => zpa t False fun r t => znn r False fun q o => zop (zlen S q) False fun n => if n.1 = 0 then zix j n.2 False fun x => Zgo d 105 30 L (zi (S.1 q o x) :: t) S Q else False) := Zgo_iff (i := .iaload) (len := 1) (a := 0) (b := 0) (c := 0) (p := 0) rfl
theorem zg_105_30 : Zgo d 105 30 L st S Q ↔ (zldi L 2 False fun x => Zgo d 105 31 L (zi x :: st) S Q) := Zgo_iff (i := .iload_n 2) (len := 1) (a := 0) (b := 0) (c := 0) (p := 0) rfl
theorem zg_105_31 : Zgo d 105 31 L st S Q ↔ (zpi st False fun y t => zpi t False fun x t => if zw x = zw y then Zgo d 105 34 L t S Q else Zgo d 105 60 L t S Q) := Zgo_iff (i := .if_icmp .ne 29) (len := 3) (a := 0) (b := 0) (c := 0) (p := 0) rfl
theorem zg_105_34 : Zgo d 105 34 L st S Q ↔ (zlda L 0 False fun r => Zgo d 105 35 L (zq r :: st) S Q) := Zgo_iff (i := .aload_n 0) (len := 1) (a := 0) (b := 0) (c := 0) (p := 0) rfl
theorem zg_105_35 : Zgo d 105 35 L st S Q ↔ (zpa st False fun r t => zde r 11 False fun o => Zgo d 105 38 L (zq (S.2.1 11 o 26) :: t) S Q) := Zgo_iff (i := .getfield 64) (len := 3) (a := 11) (b := 26) (c := 3) (p := 4156) rfl
theorem zg_105_38 : Zgo d 105 38 L st S Q ↔ (zldi L 5 False fun x => Zgo d 105 40 L (zi x :: st) S Q) := Zgo_iff (i := .iload 5) (len := 2) (a := 0) (b := 0) (c := 0) (p := 0) rfl
theorem zg_105_40 : Zgo d 105 40 L st S Q ↔ (zpi st False fun j t => zpa t False fun r t => znn r False fun q o => zop (zlen S q) False fun n => if n.1 = 0 then zix j n.2 False fun x => Zgo d 105 41 L (zi (S.1 q o x) :: t) S Q else False) := Zgo_iff (i := .iaload) (len := 1) (a := 0) (b := 0) (c := 0) (p := 0) rfl
theorem zg_105_41 : Zgo d 105 41 L st S Q ↔ (zldi L 3 False fun x => Zgo d 105 42 L (zi x :: st) S Q) := Zgo_iff (i := .iload_n 3) (len := 1) (a := 0) (b := 0) (c := 0) (p := 0) rfl
theorem zg_105_42 : Zgo d 105 42 L st S Q ↔ (zpi st False fun y t => zpi t False fun x t => if zw x < zw y then Zgo d 105 60 L t S Q else Zgo d 105 45 L t S Q) := Zgo_iff (i := .if_icmp .lt 18) (len := 3) (a := 0) (b := 0) (c := 0) (p := 0) rfl
theorem zg_105_45 : Zgo d 105 45 L st S Q ↔ (zlda L 0 False fun r => Zgo d 105 46 L (zq r :: st) S Q) := Zgo_iff (i := .aload_n 0) (len := 1) (a := 0) (b := 0) (c := 0) (p := 0) rfl
theorem zg_105_46 : Zgo d 105 46 L st S Q ↔ (zpa st False fun r t => zde r 11 False fun o => Zgo d 105 49 L (zq (S.2.1 11 o 26) :: t) S Q) := Zgo_iff (i := .getfield 64) (len := 3) (a := 11) (b := 26) (c := 3) (p := 4156) rfl
theorem zg_105_49 : Zgo d 105 49 L st S Q ↔ (zldi L 5 False fun x => Zgo d 105 51 L (zi x :: st) S Q) := Zgo_iff (i := .iload 5) (len := 2) (a := 0) (b := 0) (c := 0) (p := 0) rfl
theorem zg_105_51 : Zgo d 105 51 L st S Q ↔ (zpi st False fun j t => zpa t False fun r t => znn r False fun q o => zop (zlen S q) False fun n => if n.1 = 0 then zix j n.2 False fun x => Zgo d 105 52 L (zi (S.1 q o x) :: t) S Q else False) := Zgo_iff (i := .iaload) (len := 1) (a := 0) (b := 0) (c := 0) (p := 0) rfl
theorem zg_105_52 : Zgo d 105 52 L st S Q ↔ (zldi L 4 False fun x => Zgo d 105 54 L (zi x :: st) S Q) := Zgo_iff (i := .iload 4) (len := 2) (a := 0) (b := 0) (c := 0) (p := 0) rfl
theorem zg_105_54 : Zgo d 105 54 L st S Q ↔ (zpi st False fun y t => zpi t False fun x t => if zw y < zw x then Zgo d 105 60 L t S Q else Zgo d 105 57 L t S Q) := Zgo_iff (i := .if_icmp .gt 6) (len := 3) (a := 0) (b := 0) (c := 0) (p := 0) rfl
theorem zg_105_57 : Zgo d 105 57 L st S Q ↔ (zldi L 5 False fun x => Zgo d 105 59 L (zi x :: st) S Q) := Zgo_iff (i := .iload 5) (len := 2) (a := 0) (b := 0) (c := 0) (p := 0) rfl
theorem zg_105_59 : Zgo d 105 59 L st S Q ↔ (zpi st False fun x t => zem t False (Q (some (zi x)) S)) := Zgo_iff (i := .ireturn) (len := 1) (a := 0) (b := 0) (c := 0) (p := 0) rfl
theorem zg_105_60 : Zgo d 105 60 L st S Q ↔ (zlda L 0 False fun r => Zgo d 105 61 L (zq r :: st) S Q) := Zgo_iff (i := .aload_n 0) (len := 1) (a := 0) (b := 0) (c := 0) (p := 0) rfl
theorem zg_105_61 : Zgo d 105 61 L st S Q ↔ (zpa st False fun r t => zde r 11 False fun o => Zgo d 105 64 L (zq (S.2.1 11 o 19) :: t) S Q) := Zgo_iff (i := .getfield 46) (len := 3) (a := 11) (b := 19) (c := 3) (p := 4149) rfl
theorem zg_105_64 : Zgo d 105 64 L st S Q ↔ (zlda L 0 False fun r => Zgo d 105 65 L (zq r :: st) S Q) := Zgo_iff (i := .aload_n 0) (len := 1) (a := 0) (b := 0) (c := 0) (p := 0) rfl
theorem zg_105_65 : Zgo d 105 65 L st S Q ↔ (zpa st False fun r t => zde r 11 False fun o => Zgo d 105 68 L (zq (S.2.1 11 o 25) :: t) S Q) := Zgo_iff (i := .getfield 61) (len := 3) (a := 11) (b := 25) (c := 3) (p := 4155) rfl
theorem zg_105_68 : Zgo d 105 68 L st S Q ↔ (zldi L 5 False fun x => Zgo d 105 70 L (zi x :: st) S Q) := Zgo_iff (i := .iload 5) (len := 2) (a := 0) (b := 0) (c := 0) (p := 0) rfl
theorem zg_105_70 : Zgo d 105 70 L st S Q ↔ (zpi st False fun j t => zpa t False fun r t => znn r False fun q o => zop (zlen S q) False fun n => if n.1 = 0 then zix j n.2 False fun x => Zgo d 105 71 L (zi (S.1 q o x) :: t) S Q else False) := Zgo_iff (i := .iaload) (len := 1) (a := 0) (b := 0) (c := 0) (p := 0) rfl
theorem zg_105_71 : Zgo d 105 71 L st S Q ↔ (zpi st False fun j t => zpa t False fun r t => znn r False fun q o => zop (zlen S q) False fun n => if n.1 = 0 then zix j n.2 False fun x => Zgo d 105 72 L (zi (S.1 q o x) :: t) S Q else False) := Zgo_iff (i := .iaload) (len := 1) (a := 0) (b := 0) (c := 0) (p := 0) rfl
theorem zg_105_72 : Zgo d 105 72 L st S Q ↔ (zpi st False fun x t => Zgo d 105 74 (zst L 5 (some (zi x))) t S Q) := Zgo_iff (i := .istore 5) (len := 2) (a := 0) (b := 0) (c := 0) (p := 0) rfl
theorem zg_105_74 : Zgo d 105 74 L st S Q ↔ (Zgo d 105 8 L st S Q) := Zgo_iff (i := .goto (-66)) (len := 3) (a := 0) (b := 0) (c := 0) (p := 0) rfl
theorem zg_105_77 : Zgo d 105 77 L st S Q ↔ (Zgo d 105 78 L (zi (-1) :: st) S Q) := Zgo_iff (i := .iconst (-1)) (len := 1) (a := 0) (b := 0) (c := 0) (p := 0) rfl
theorem zg_105_78 : Zgo d 105 78 L st S Q ↔ (zpi st False fun x t => zem t False (Q (some (zi x)) S)) := Zgo_iff (i := .ireturn) (len := 1) (a := 0) (b := 0) (c := 0) (p := 0) rfl
/-- LeavingMachineModel.procedureOf(I)I -/
theorem zg_106_0 : Zgo d 106 0 L st S Q ↔ (Zgo d 106 1 L (zi (-1) :: st) S Q) := Zgo_iff (i := .iconst (-1)) (len := 1) (a := 0) (b := 0) (c := 0) (p := 0) rfl
theorem zg_106_1 : Zgo d 106 1 L st S Q ↔ (zpi st False fun x t => Zgo d 106 2 (zst L 2 (some (zi x))) t S Q) := Zgo_iff (i := .istore_n 2) (len := 1) (a := 0) (b := 0) (c := 0) (p := 0) rfl
theorem zg_106_2 : Zgo d 106 2 L st S Q ↔ (zlda L 0 False fun r => Zgo d 106 3 L (zq r :: st) S Q) := Zgo_iff (i := .aload_n 0) (len := 1) (a := 0) (b := 0) (c := 0) (p := 0) rfl
theorem zg_106_3 : Zgo d 106 3 L st S Q ↔ (zpa st False fun r t => zde r 11 False fun o => Zgo d 106 6 L (zi (S.1 11 o 6) :: t) S Q) := Zgo_iff (i := .getfield 193) (len := 3) (a := 11) (b := 6) (c := 0) (p := 4136) rfl
theorem zg_106_6 : Zgo d 106 6 L st S Q ↔ (Zgo d 106 7 L (zi 1 :: st) S Q) := Zgo_iff (i := .iconst 1) (len := 1) (a := 0) (b := 0) (c := 0) (p := 0) rfl
theorem zg_106_7 : Zgo d 106 7 L st S Q ↔ (zpi st False fun y t => zpi t False fun x t => Zgo d 106 8 L (zi (x - y) :: t) S Q) := Zgo_iff (i := .isub) (len := 1) (a := 0) (b := 0) (c := 0) (p := 0) rfl
theorem zg_106_8 : Zgo d 106 8 L st S Q ↔ (zpi st False fun x t => Zgo d 106 9 (zst L 3 (some (zi x))) t S Q) := Zgo_iff (i := .istore_n 3) (len := 1) (a := 0) (b := 0) (c := 0) (p := 0) rfl
theorem zg_106_9 : Zgo d 106 9 L st S Q ↔ (zldi L 3 False fun x => Zgo d 106 10 L (zi x :: st) S Q) := Zgo_iff (i := .iload_n 3) (len := 1) (a := 0) (b := 0) (c := 0) (p := 0) rfl
theorem zg_106_10 : Zgo d 106 10 L st S Q ↔ (zpi st False fun x t => if zw x < zw 0 then Zgo d 106 35 L t S Q else Zgo d 106 13 L t S Q) := Zgo_iff (i := .ifCond .lt 25) (len := 3) (a := 0) (b := 0) (c := 0) (p := 0) rfl
theorem zg_106_13 : Zgo d 106 13 L st S Q ↔ (zlda L 0 False fun r => Zgo d 106 14 L (zq r :: st) S Q) := Zgo_iff (i := .aload_n 0) (len := 1) (a := 0) (b := 0) (c := 0) (p := 0) rfl
theorem zg_106_14 : Zgo d 106 14 L st S Q ↔ (zpa st False fun r t => zde r 11 False fun o => Zgo d 106 17 L (zq (S.2.1 11 o 7) :: t) S Q) := Zgo_iff (i := .getfield 13) (len := 3) (a := 11) (b := 7) (c := 3) (p := 4137) rfl
theorem zg_106_17 : Zgo d 106 17 L st S Q ↔ (zldi L 3 False fun x => Zgo d 106 18 L (zi x :: st) S Q) := Zgo_iff (i := .iload_n 3) (len := 1) (a := 0) (b := 0) (c := 0) (p := 0) rfl
theorem zg_106_18 : Zgo d 106 18 L st S Q ↔ (zpi st False fun j t => zpa t False fun r t => znn r False fun q o => zop (zlen S q) False fun n => if n.1 = 0 then zix j n.2 False fun x => Zgo d 106 19 L (zi (S.1 q o x) :: t) S Q else False) := Zgo_iff (i := .iaload) (len := 1) (a := 0) (b := 0) (c := 0) (p := 0) rfl
theorem zg_106_19 : Zgo d 106 19 L st S Q ↔ (zldi L 1 False fun x => Zgo d 106 20 L (zi x :: st) S Q) := Zgo_iff (i := .iload_n 1) (len := 1) (a := 0) (b := 0) (c := 0) (p := 0) rfl
theorem zg_106_20 : Zgo d 106 20 L st S Q ↔ (zpi st False fun y t => zpi t False fun x t => if zw x = zw y then Zgo d 106 23 L t S Q else Zgo d 106 27 L t S Q) := Zgo_iff (i := .if_icmp .ne 7) (len := 3) (a := 0) (b := 0) (c := 0) (p := 0) rfl
theorem zg_106_23 : Zgo d 106 23 L st S Q ↔ (zldi L 3 False fun x => Zgo d 106 24 L (zi x :: st) S Q) := Zgo_iff (i := .iload_n 3) (len := 1) (a := 0) (b := 0) (c := 0) (p := 0) rfl
theorem zg_106_24 : Zgo d 106 24 L st S Q ↔ (Zgo d 106 28 L st S Q) := Zgo_iff (i := .goto 4) (len := 3) (a := 0) (b := 0) (c := 0) (p := 0) rfl
theorem zg_106_27 : Zgo d 106 27 L st S Q ↔ (zldi L 2 False fun x => Zgo d 106 28 L (zi x :: st) S Q) := Zgo_iff (i := .iload_n 2) (len := 1) (a := 0) (b := 0) (c := 0) (p := 0) rfl
theorem zg_106_28 : Zgo d 106 28 L st S Q ↔ (zpi st False fun x t => Zgo d 106 29 (zst L 2 (some (zi x))) t S Q) := Zgo_iff (i := .istore_n 2) (len := 1) (a := 0) (b := 0) (c := 0) (p := 0) rfl
theorem zg_106_29 : Zgo d 106 29 L st S Q ↔ (zldi L 3 False fun x => Zgo d 106 32 (zst L 3 (some (zi (x + (-1))))) st S Q) := Zgo_iff (i := .iinc 3 (-1)) (len := 3) (a := 0) (b := 0) (c := 0) (p := 0) rfl
theorem zg_106_32 : Zgo d 106 32 L st S Q ↔ (Zgo d 106 9 L st S Q) := Zgo_iff (i := .goto (-23)) (len := 3) (a := 0) (b := 0) (c := 0) (p := 0) rfl
theorem zg_106_35 : Zgo d 106 35 L st S Q ↔ (zldi L 2 False fun x => Zgo d 106 36 L (zi x :: st) S Q) := Zgo_iff (i := .iload_n 2) (len := 1) (a := 0) (b := 0) (c := 0) (p := 0) rfl
theorem zg_106_36 : Zgo d 106 36 L st S Q ↔ (zpi st False fun x t => zem t False (Q (some (zi x)) S)) := Zgo_iff (i := .ireturn) (len := 1) (a := 0) (b := 0) (c := 0) (p := 0) rfl
/-- LeavingMachineModel.before(I)I -/
theorem zg_107_0 : Zgo d 107 0 L st S Q ↔ (Zgo d 107 1 L (zi (-1) :: st) S Q) := Zgo_iff (i := .iconst (-1)) (len := 1) (a := 0) (b := 0) (c := 0) (p := 0) rfl
theorem zg_107_1 : Zgo d 107 1 L st S Q ↔ (zpi st False fun x t => Zgo d 107 2 (zst L 2 (some (zi x))) t S Q) := Zgo_iff (i := .istore_n 2) (len := 1) (a := 0) (b := 0) (c := 0) (p := 0) rfl
theorem zg_107_2 : Zgo d 107 2 L st S Q ↔ (zlda L 0 False fun r => Zgo d 107 3 L (zq r :: st) S Q) := Zgo_iff (i := .aload_n 0) (len := 1) (a := 0) (b := 0) (c := 0) (p := 0) rfl
theorem zg_107_3 : Zgo d 107 3 L st S Q ↔ (zpa st False fun r t => zde r 11 False fun o => Zgo d 107 6 L (zq (S.2.1 11 o 23) :: t) S Q) := Zgo_iff (i := .getfield 55) (len := 3) (a := 11) (b := 23) (c := 3) (p := 4153) rfl
theorem zg_107_6 : Zgo d 107 6 L st S Q ↔ (zlda L 0 False fun r => Zgo d 107 7 L (zq r :: st) S Q) := Zgo_iff (i := .aload_n 0) (len := 1) (a := 0) (b := 0) (c := 0) (p := 0) rfl
theorem zg_107_7 : Zgo d 107 7 L st S Q ↔ (zpa st False fun r t => zde r 11 False fun o => Zgo d 107 10 L (zq (S.2.1 11 o 19) :: t) S Q) := Zgo_iff (i := .getfield 46) (len := 3) (a := 11) (b := 19) (c := 3) (p := 4149) rfl
theorem zg_107_10 : Zgo d 107 10 L st S Q ↔ (zldi L 1 False fun x => Zgo d 107 11 L (zi x :: st) S Q) := Zgo_iff (i := .iload_n 1) (len := 1) (a := 0) (b := 0) (c := 0) (p := 0) rfl
theorem zg_107_11 : Zgo d 107 11 L st S Q ↔ (zpi st False fun j t => zpa t False fun r t => znn r False fun q o => zop (zlen S q) False fun n => if n.1 = 0 then zix j n.2 False fun x => Zgo d 107 12 L (zi (S.1 q o x) :: t) S Q else False) := Zgo_iff (i := .iaload) (len := 1) (a := 0) (b := 0) (c := 0) (p := 0) rfl
theorem zg_107_12 : Zgo d 107 12 L st S Q ↔ (zpi st False fun j t => zpa t False fun r t => znn r False fun q o => zop (zlen S q) False fun n => if n.1 = 0 then zix j n.2 False fun x => Zgo d 107 13 L (zi (S.1 q o x) :: t) S Q else False) := Zgo_iff (i := .iaload) (len := 1) (a := 0) (b := 0) (c := 0) (p := 0) rfl
theorem zg_107_13 : Zgo d 107 13 L st S Q ↔ (zpi st False fun x t => Zgo d 107 14 (zst L 3 (some (zi x))) t S Q) := Zgo_iff (i := .istore_n 3) (len := 1) (a := 0) (b := 0) (c := 0) (p := 0) rfl
theorem zg_107_14 : Zgo d 107 14 L st S Q ↔ (zldi L 3 False fun x => Zgo d 107 15 L (zi x :: st) S Q) := Zgo_iff (i := .iload_n 3) (len := 1) (a := 0) (b := 0) (c := 0) (p := 0) rfl
theorem zg_107_15 : Zgo d 107 15 L st S Q ↔ (zpi st False fun x t => if zw x < zw 0 then Zgo d 107 35 L t S Q else Zgo d 107 18 L t S Q) := Zgo_iff (i := .ifCond .lt 20) (len := 3) (a := 0) (b := 0) (c := 0) (p := 0) rfl
theorem zg_107_18 : Zgo d 107 18 L st S Q ↔ (zldi L 3 False fun x => Zgo d 107 19 L (zi x :: st) S Q) := Zgo_iff (i := .iload_n 3) (len := 1) (a := 0) (b := 0) (c := 0) (p := 0) rfl
theorem zg_107_19 : Zgo d 107 19 L st S Q ↔ (zldi L 1 False fun x => Zgo d 107 20 L (zi x :: st) S Q) := Zgo_iff (i := .iload_n 1) (len := 1) (a := 0) (b := 0) (c := 0) (p := 0) rfl
theorem zg_107_20 : Zgo d 107 20 L st S Q ↔ (zpi st False fun y t => zpi t False fun x t => if zw x = zw y then Zgo d 107 35 L t S Q else Zgo d 107 23 L t S Q) := Zgo_iff (i := .if_icmp .eq 15) (len := 3) (a := 0) (b := 0) (c := 0) (p := 0) rfl
theorem zg_107_23 : Zgo d 107 23 L st S Q ↔ (zldi L 3 False fun x => Zgo d 107 24 L (zi x :: st) S Q) := Zgo_iff (i := .iload_n 3) (len := 1) (a := 0) (b := 0) (c := 0) (p := 0) rfl
theorem zg_107_24 : Zgo d 107 24 L st S Q ↔ (zpi st False fun x t => Zgo d 107 25 (zst L 2 (some (zi x))) t S Q) := Zgo_iff (i := .istore_n 2) (len := 1) (a := 0) (b := 0) (c := 0) (p := 0) rfl
theorem zg_107_25 : Zgo d 107 25 L st S Q ↔ (zlda L 0 False fun r => Zgo d 107 26 L (zq r :: st) S Q) := Zgo_iff (i := .aload_n 0) (len := 1) (a := 0) (b := 0) (c := 0) (p := 0) rfl
theorem zg_107_26 : Zgo d 107 26 L st S Q ↔ (zpa st False fun r t => zde r 11 False fun o => Zgo d 107 29 L (zq (S.2.1 11 o 20) :: t) S Q) := Zgo_iff (i := .getfield 49) (len := 3) (a := 11) (b := 20) (c := 3) (p := 4150) rfl
theorem zg_107_29 : Zgo d 107 29 L st S Q ↔ (zldi L 3 False fun x => Zgo d 107 30 L (zi x :: st) S Q) := Zgo_iff (i := .iload_n 3) (len := 1) (a := 0) (b := 0) (c := 0) (p := 0) rfl
theorem zg_107_30 : Zgo d 107 30 L st S Q ↔ (zpi st False fun j t => zpa t False fun r t => znn r False fun q o => zop (zlen S q) False fun n => if n.1 = 0 then zix j n.2 False fun x => Zgo d 107 31 L (zi (S.1 q o x) :: t) S Q else False) := Zgo_iff (i := .iaload) (len := 1) (a := 0) (b := 0) (c := 0) (p := 0) rfl
theorem zg_107_31 : Zgo d 107 31 L st S Q ↔ (zpi st False fun x t => Zgo d 107 32 (zst L 3 (some (zi x))) t S Q) := Zgo_iff (i := .istore_n 3) (len := 1) (a := 0) (b := 0) (c := 0) (p := 0) rfl
theorem zg_107_32 : Zgo d 107 32 L st S Q ↔ (Zgo d 107 14 L st S Q) := Zgo_iff (i := .goto (-18)) (len := 3) (a := 0) (b := 0) (c := 0) (p := 0) rfl
theorem zg_107_35 : Zgo d 107 35 L st S Q ↔ (zldi L 2 False fun x => Zgo d 107 36 L (zi x :: st) S Q) := Zgo_iff (i := .iload_n 2) (len := 1) (a := 0) (b := 0) (c := 0) (p := 0) rfl
theorem zg_107_36 : Zgo d 107 36 L st S Q ↔ (zpi st False fun x t => zem t False (Q (some (zi x)) S)) := Zgo_iff (i := .ireturn) (len := 1) (a := 0) (b := 0) (c := 0) (p := 0) rfl
/-- LeavingMachineModel.ends(I)Z -/
theorem zg_108_0 : Zgo d 108 0 L st S Q ↔ (zldi L 0 False fun x => Zgo d 108 1 L (zi x :: st) S Q) := Zgo_iff (i := .iload_n 0) (len := 1) (a := 0) (b := 0) (c := 0) (p := 0) rfl
theorem zg_108_1 : Zgo d 108 1 L st S Q ↔ (Zgo d 108 3 L (zi 66 :: st) S Q) := Zgo_iff (i := .bipush 66) (len := 2) (a := 0) (b := 0) (c := 0) (p := 0) rfl
theorem zg_108_3 : Zgo d 108 3 L st S Q ↔ (zpi st False fun y t => zpi t False fun x t => if zw x = zw y then Zgo d 108 30 L t S Q else Zgo d 108 6 L t S Q) := Zgo_iff (i := .if_icmp .eq 27) (len := 3) (a := 0) (b := 0) (c := 0) (p := 0) rfl
theorem zg_108_6 : Zgo d 108 6 L st S Q ↔ (zldi L 0 False fun x => Zgo d 108 7 L (zi x :: st) S Q) := Zgo_iff (i := .iload_n 0) (len := 1) (a := 0) (b := 0) (c := 0) (p := 0) rfl
theorem zg_108_7 : Zgo d 108 7 L st S Q ↔ (Zgo d 108 9 L (zi 67 :: st) S Q) := Zgo_iff (i := .bipush 67) (len := 2) (a := 0) (b := 0) (c := 0) (p := 0) rfl
theorem zg_108_9 : Zgo d 108 9 L st S Q ↔ (zpi st False fun y t => zpi t False fun x t => if zw x = zw y then Zgo d 108 30 L t S Q else Zgo d 108 12 L t S Q) := Zgo_iff (i := .if_icmp .eq 21) (len := 3) (a := 0) (b := 0) (c := 0) (p := 0) rfl
theorem zg_108_12 : Zgo d 108 12 L st S Q ↔ (zldi L 0 False fun x => Zgo d 108 13 L (zi x :: st) S Q) := Zgo_iff (i := .iload_n 0) (len := 1) (a := 0) (b := 0) (c := 0) (p := 0) rfl
theorem zg_108_13 : Zgo d 108 13 L st S Q ↔ (Zgo d 108 15 L (zi 82 :: st) S Q) := Zgo_iff (i := .bipush 82) (len := 2) (a := 0) (b := 0) (c := 0) (p := 0) rfl
theorem zg_108_15 : Zgo d 108 15 L st S Q ↔ (zpi st False fun y t => zpi t False fun x t => if zw x = zw y then Zgo d 108 30 L t S Q else Zgo d 108 18 L t S Q) := Zgo_iff (i := .if_icmp .eq 15) (len := 3) (a := 0) (b := 0) (c := 0) (p := 0) rfl
theorem zg_108_18 : Zgo d 108 18 L st S Q ↔ (zldi L 0 False fun x => Zgo d 108 19 L (zi x :: st) S Q) := Zgo_iff (i := .iload_n 0) (len := 1) (a := 0) (b := 0) (c := 0) (p := 0) rfl
theorem zg_108_19 : Zgo d 108 19 L st S Q ↔ (Zgo d 108 21 L (zi 84 :: st) S Q) := Zgo_iff (i := .bipush 84) (len := 2) (a := 0) (b := 0) (c := 0) (p := 0) rfl
theorem zg_108_21 : Zgo d 108 21 L st S Q ↔ (zpi st False fun y t => zpi t False fun x t => if zw x = zw y then Zgo d 108 30 L t S Q else Zgo d 108 24 L t S Q) := Zgo_iff (i := .if_icmp .eq 9) (len := 3) (a := 0) (b := 0) (c := 0) (p := 0) rfl
theorem zg_108_24 : Zgo d 108 24 L st S Q ↔ (zldi L 0 False fun x => Zgo d 108 25 L (zi x :: st) S Q) := Zgo_iff (i := .iload_n 0) (len := 1) (a := 0) (b := 0) (c := 0) (p := 0) rfl
theorem zg_108_25 : Zgo d 108 25 L st S Q ↔ (Zgo d 108 27 L (zi 88 :: st) S Q) := Zgo_iff (i := .bipush 88) (len := 2) (a := 0) (b := 0) (c := 0) (p := 0) rfl
theorem zg_108_27 : Zgo d 108 27 L st S Q ↔ (zpi st False fun y t => zpi t False fun x t => if zw x = zw y then Zgo d 108 30 L t S Q else Zgo d 108 34 L t S Q) := Zgo_iff (i := .if_icmp .ne 7) (len := 3) (a := 0) (b := 0) (c := 0) (p := 0) rfl
theorem zg_108_30 : Zgo d 108 30 L st S Q ↔ (Zgo d 108 31 L (zi 1 :: st) S Q) := Zgo_iff (i := .iconst 1) (len := 1) (a := 0) (b := 0) (c := 0) (p := 0) rfl
theorem zg_108_31 : Zgo d 108 31 L st S Q ↔ (Zgo d 108 35 L st S Q) := Zgo_iff (i := .goto 4) (len := 3) (a := 0) (b := 0) (c := 0) (p := 0) rfl
theorem zg_108_34 : Zgo d 108 34 L st S Q ↔ (Zgo d 108 35 L (zi 0 :: st) S Q) := Zgo_iff (i := .iconst 0) (len := 1) (a := 0) (b := 0) (c := 0) (p := 0) rfl
theorem zg_108_35 : Zgo d 108 35 L st S Q ↔ (zpi st False fun x t => zem t False (zok 1 x False (Q (some (zi x)) S))) := Zgo_iff (i := .ireturn) (len := 1) (a := 0) (b := 0) (c := 0) (p := 0) rfl
/-- LeavingMachineModel.work(I)Z -/
theorem zg_109_0 : Zgo d 109 0 L st S Q ↔ (Zgo d 109 1 L (zi 0 :: st) S Q) := Zgo_iff (i := .iconst 0) (len := 1) (a := 0) (b := 0) (c := 0) (p := 0) rfl
theorem zg_109_1 : Zgo d 109 1 L st S Q ↔ (zpi st False fun x t => Zgo d 109 2 (zst L 2 (some (zi x))) t S Q) := Zgo_iff (i := .istore_n 2) (len := 1) (a := 0) (b := 0) (c := 0) (p := 0) rfl
theorem zg_109_2 : Zgo d 109 2 L st S Q ↔ (zlda L 0 False fun r => Zgo d 109 3 L (zq r :: st) S Q) := Zgo_iff (i := .aload_n 0) (len := 1) (a := 0) (b := 0) (c := 0) (p := 0) rfl
theorem zg_109_3 : Zgo d 109 3 L st S Q ↔ (zpa st False fun r t => zde r 11 False fun o => Zgo d 109 6 L (zq (S.2.1 11 o 11) :: t) S Q) := Zgo_iff (i := .getfield 22) (len := 3) (a := 11) (b := 11) (c := 3) (p := 4141) rfl
theorem zg_109_6 : Zgo d 109 6 L st S Q ↔ (zldi L 1 False fun x => Zgo d 109 7 L (zi x :: st) S Q) := Zgo_iff (i := .iload_n 1) (len := 1) (a := 0) (b := 0) (c := 0) (p := 0) rfl
theorem zg_109_7 : Zgo d 109 7 L st S Q ↔ (zpi st False fun j t => zpa t False fun r t => znn r False fun q o => zop (zlen S q) False fun n => if n.1 = 0 then zix j n.2 False fun x => Zgo d 109 8 L (zi (S.1 q o x) :: t) S Q else False) := Zgo_iff (i := .iaload) (len := 1) (a := 0) (b := 0) (c := 0) (p := 0) rfl
theorem zg_109_8 : Zgo d 109 8 L st S Q ↔ (zpi st False fun x t => Zgo d 109 9 (zst L 3 (some (zi x))) t S Q) := Zgo_iff (i := .istore_n 3) (len := 1) (a := 0) (b := 0) (c := 0) (p := 0) rfl
theorem zg_109_9 : Zgo d 109 9 L st S Q ↔ (Zgo d 109 10 L (zi 0 :: st) S Q) := Zgo_iff (i := .iconst 0) (len := 1) (a := 0) (b := 0) (c := 0) (p := 0) rfl
theorem zg_109_10 : Zgo d 109 10 L st S Q ↔ (zpi st False fun x t => Zgo d 109 12 (zst L 4 (some (zi x))) t S Q) := Zgo_iff (i := .istore 4) (len := 2) (a := 0) (b := 0) (c := 0) (p := 0) rfl
theorem zg_109_12 : Zgo d 109 12 L st S Q ↔ (Zgo d 109 13 L (zi 0 :: st) S Q) := Zgo_iff (i := .iconst 0) (len := 1) (a := 0) (b := 0) (c := 0) (p := 0) rfl
theorem zg_109_13 : Zgo d 109 13 L st S Q ↔ (zpi st False fun x t => Zgo d 109 15 (zst L 5 (some (zi x))) t S Q) := Zgo_iff (i := .istore 5) (len := 2) (a := 0) (b := 0) (c := 0) (p := 0) rfl
theorem zg_109_15 : Zgo d 109 15 L st S Q ↔ (zldi L 5 False fun x => Zgo d 109 17 L (zi x :: st) S Q) := Zgo_iff (i := .iload 5) (len := 2) (a := 0) (b := 0) (c := 0) (p := 0) rfl
theorem zg_109_17 : Zgo d 109 17 L st S Q ↔ (Zgo d 109 19 L (zi 6 :: st) S Q) := Zgo_iff (i := .bipush 6) (len := 2) (a := 0) (b := 0) (c := 0) (p := 0) rfl
theorem zg_109_19 : Zgo d 109 19 L st S Q ↔ (zpi st False fun y t => zpi t False fun x t => if zw x < zw y then Zgo d 109 22 L t S Q else Zgo d 109 64 L t S Q) := Zgo_iff (i := .if_icmp .ge 45) (len := 3) (a := 0) (b := 0) (c := 0) (p := 0) rfl
theorem zg_109_22 : Zgo d 109 22 L st S Q ↔ (zlda L 0 False fun r => Zgo d 109 23 L (zq r :: st) S Q) := Zgo_iff (i := .aload_n 0) (len := 1) (a := 0) (b := 0) (c := 0) (p := 0) rfl
theorem zg_109_23 : Zgo d 109 23 L st S Q ↔ (zpa st False fun r t => zde r 11 False fun o => Zgo d 109 26 L (zq (S.2.1 11 o 15) :: t) S Q) := Zgo_iff (i := .getfield 34) (len := 3) (a := 11) (b := 15) (c := 3) (p := 4145) rfl
theorem zg_109_26 : Zgo d 109 26 L st S Q ↔ (Zgo d 109 28 L (zi 6 :: st) S Q) := Zgo_iff (i := .bipush 6) (len := 2) (a := 0) (b := 0) (c := 0) (p := 0) rfl
theorem zg_109_28 : Zgo d 109 28 L st S Q ↔ (zldi L 1 False fun x => Zgo d 109 29 L (zi x :: st) S Q) := Zgo_iff (i := .iload_n 1) (len := 1) (a := 0) (b := 0) (c := 0) (p := 0) rfl
theorem zg_109_29 : Zgo d 109 29 L st S Q ↔ (zpi st False fun y t => zpi t False fun x t => Zgo d 109 30 L (zi (x * y) :: t) S Q) := Zgo_iff (i := .imul) (len := 1) (a := 0) (b := 0) (c := 0) (p := 0) rfl
theorem zg_109_30 : Zgo d 109 30 L st S Q ↔ (zldi L 5 False fun x => Zgo d 109 32 L (zi x :: st) S Q) := Zgo_iff (i := .iload 5) (len := 2) (a := 0) (b := 0) (c := 0) (p := 0) rfl
theorem zg_109_32 : Zgo d 109 32 L st S Q ↔ (zpi st False fun y t => zpi t False fun x t => Zgo d 109 33 L (zi (x + y) :: t) S Q) := Zgo_iff (i := .iadd) (len := 1) (a := 0) (b := 0) (c := 0) (p := 0) rfl
theorem zg_109_33 : Zgo d 109 33 L st S Q ↔ (zpi st False fun j t => zpa t False fun r t => znn r False fun q o => zop (zlen S q) False fun n => if n.1 = 0 then zix j n.2 False fun x => Zgo d 109 34 L (zi (S.1 q o x) :: t) S Q else False) := Zgo_iff (i := .iaload) (len := 1) (a := 0) (b := 0) (c := 0) (p := 0) rfl
theorem zg_109_34 : Zgo d 109 34 L st S Q ↔ (zpi st False fun x t => Zgo d 109 36 (zst L 6 (some (zi x))) t S Q) := Zgo_iff (i := .istore 6) (len := 2) (a := 0) (b := 0) (c := 0) (p := 0) rfl
theorem zg_109_36 : Zgo d 109 36 L st S Q ↔ (zldi L 6 False fun x => Zgo d 109 38 L (zi x :: st) S Q) := Zgo_iff (i := .iload 6) (len := 2) (a := 0) (b := 0) (c := 0) (p := 0) rfl
theorem zg_109_38 : Zgo d 109 38 L st S Q ↔ (zpi st False fun x t => if zw x < zw 0 then Zgo d 109 41 L t S Q else Zgo d 109 46 L t S Q) := Zgo_iff (i := .ifCond .ge 8) (len := 3) (a := 0) (b := 0) (c := 0) (p := 0) rfl
theorem zg_109_41 : Zgo d 109 41 L st S Q ↔ (zldi L 4 False fun x => Zgo d 109 43 L (zi x :: st) S Q) := Zgo_iff (i := .iload 4) (len := 2) (a := 0) (b := 0) (c := 0) (p := 0) rfl
theorem zg_109_43 : Zgo d 109 43 L st S Q ↔ (Zgo d 109 56 L st S Q) := Zgo_iff (i := .goto 13) (len := 3) (a := 0) (b := 0) (c := 0) (p := 0) rfl
theorem zg_109_46 : Zgo d 109 46 L st S Q ↔ (zldi L 4 False fun x => Zgo d 109 48 L (zi x :: st) S Q) := Zgo_iff (i := .iload 4) (len := 2) (a := 0) (b := 0) (c := 0) (p := 0) rfl
theorem zg_109_48 : Zgo d 109 48 L st S Q ↔ (zlda L 0 False fun r => Zgo d 109 49 L (zq r :: st) S Q) := Zgo_iff (i := .aload_n 0) (len := 1) (a := 0) (b := 0) (c := 0) (p := 0) rfl
theorem zg_109_49 : Zgo d 109 49 L st S Q ↔ (zpa st False fun r t => zde r 11 False fun o => Zgo d 109 52 L (zq (S.2.1 11 o 27) :: t) S Q) := Zgo_iff (i := .getfield 67) (len := 3) (a := 11) (b := 27) (c := 3) (p := 4157) rfl
theorem zg_109_52 : Zgo d 109 52 L st S Q ↔ (zldi L 6 False fun x => Zgo d 109 54 L (zi x :: st) S Q) := Zgo_iff (i := .iload 6) (len := 2) (a := 0) (b := 0) (c := 0) (p := 0) rfl
theorem zg_109_54 : Zgo d 109 54 L st S Q ↔ (zpi st False fun j t => zpa t False fun r t => znn r False fun q o => zop (zlen S q) False fun n => if n.1 = 0 then zix j n.2 False fun x => Zgo d 109 55 L (zi (S.1 q o x) :: t) S Q else False) := Zgo_iff (i := .iaload) (len := 1) (a := 0) (b := 0) (c := 0) (p := 0) rfl
theorem zg_109_55 : Zgo d 109 55 L st S Q ↔ (zpi st False fun y t => zpi t False fun x t => Zgo d 109 56 L (zi (zor x y) :: t) S Q) := Zgo_iff (i := .ior) (len := 1) (a := 0) (b := 0) (c := 0) (p := 0) rfl
theorem zg_109_56 : Zgo d 109 56 L st S Q ↔ (zpi st False fun x t => Zgo d 109 58 (zst L 4 (some (zi x))) t S Q) := Zgo_iff (i := .istore 4) (len := 2) (a := 0) (b := 0) (c := 0) (p := 0) rfl
theorem zg_109_58 : Zgo d 109 58 L st S Q ↔ (zldi L 5 False fun x => Zgo d 109 61 (zst L 5 (some (zi (x + 1)))) st S Q) := Zgo_iff (i := .iinc 5 1) (len := 3) (a := 0) (b := 0) (c := 0) (p := 0) rfl
theorem zg_109_61 : Zgo d 109 61 L st S Q ↔ (Zgo d 109 15 L st S Q) := Zgo_iff (i := .goto (-46)) (len := 3) (a := 0) (b := 0) (c := 0) (p := 0) rfl
theorem zg_109_64 : Zgo d 109 64 L st S Q ↔ (zldi L 3 False fun x => Zgo d 109 65 L (zi x :: st) S Q) := Zgo_iff (i := .iload_n 3) (len := 1) (a := 0) (b := 0) (c := 0) (p := 0) rfl
theorem zg_109_65 : Zgo d 109 65 L st S Q ↔ (Zgo d 109 67 L (zi 89 :: st) S Q) := Zgo_iff (i := .bipush 89) (len := 2) (a := 0) (b := 0) (c := 0) (p := 0) rfl
theorem zg_109_67 : Zgo d 109 67 L st S Q ↔ (zpi st False fun y t => zpi t False fun x t => if zw x = zw y then Zgo d 109 70 L t S Q else Zgo d 109 220 L t S Q) := Zgo_iff (i := .if_icmp .ne 153) (len := 3) (a := 0) (b := 0) (c := 0) (p := 0) rfl
theorem zg_109_70 : Zgo d 109 70 L st S Q ↔ (zlda L 0 False fun r => Zgo d 109 71 L (zq r :: st) S Q) := Zgo_iff (i := .aload_n 0) (len := 1) (a := 0) (b := 0) (c := 0) (p := 0) rfl
theorem zg_109_71 : Zgo d 109 71 L st S Q ↔ (zpa st False fun r t => zde r 11 False fun o => Zgo d 109 74 L (zq (S.2.1 11 o 27) :: t) S Q) := Zgo_iff (i := .getfield 67) (len := 3) (a := 11) (b := 27) (c := 3) (p := 4157) rfl
theorem zg_109_74 : Zgo d 109 74 L st S Q ↔ (zlda L 0 False fun r => Zgo d 109 75 L (zq r :: st) S Q) := Zgo_iff (i := .aload_n 0) (len := 1) (a := 0) (b := 0) (c := 0) (p := 0) rfl
theorem zg_109_75 : Zgo d 109 75 L st S Q ↔ (zpa st False fun r t => zde r 11 False fun o => Zgo d 109 78 L (zq (S.2.1 11 o 15) :: t) S Q) := Zgo_iff (i := .getfield 34) (len := 3) (a := 11) (b := 15) (c := 3) (p := 4145) rfl
theorem zg_109_78 : Zgo d 109 78 L st S Q ↔ (Zgo d 109 80 L (zi 6 :: st) S Q) := Zgo_iff (i := .bipush 6) (len := 2) (a := 0) (b := 0) (c := 0) (p := 0) rfl
theorem zg_109_80 : Zgo d 109 80 L st S Q ↔ (zldi L 1 False fun x => Zgo d 109 81 L (zi x :: st) S Q) := Zgo_iff (i := .iload_n 1) (len := 1) (a := 0) (b := 0) (c := 0) (p := 0) rfl
theorem zg_109_81 : Zgo d 109 81 L st S Q ↔ (zpi st False fun y t => zpi t False fun x t => Zgo d 109 82 L (zi (x * y) :: t) S Q) := Zgo_iff (i := .imul) (len := 1) (a := 0) (b := 0) (c := 0) (p := 0) rfl
theorem zg_109_82 : Zgo d 109 82 L st S Q ↔ (zpi st False fun j t => zpa t False fun r t => znn r False fun q o => zop (zlen S q) False fun n => if n.1 = 0 then zix j n.2 False fun x => Zgo d 109 83 L (zi (S.1 q o x) :: t) S Q else False) := Zgo_iff (i := .iaload) (len := 1) (a := 0) (b := 0) (c := 0) (p := 0) rfl
theorem zg_109_83 : Zgo d 109 83 L st S Q ↔ (zpi st False fun j t => zpa t False fun r t => znn r False fun q o => zop (zlen S q) False fun n => if n.1 = 0 then zix j n.2 False fun x => Zgo d 109 84 L (zi (S.1 q o x) :: t) S Q else False) := Zgo_iff (i := .iaload) (len := 1) (a := 0) (b := 0) (c := 0) (p := 0) rfl
theorem zg_109_84 : Zgo d 109 84 L st S Q ↔ (zpi st False fun x t => Zgo d 109 86 (zst L 5 (some (zi x))) t S Q) := Zgo_iff (i := .istore 5) (len := 2) (a := 0) (b := 0) (c := 0) (p := 0) rfl
theorem zg_109_86 : Zgo d 109 86 L st S Q ↔ (Zgo d 109 87 L (zi 0 :: st) S Q) := Zgo_iff (i := .iconst 0) (len := 1) (a := 0) (b := 0) (c := 0) (p := 0) rfl
theorem zg_109_87 : Zgo d 109 87 L st S Q ↔ (zpi st False fun x t => Zgo d 109 89 (zst L 6 (some (zi x))) t S Q) := Zgo_iff (i := .istore 6) (len := 2) (a := 0) (b := 0) (c := 0) (p := 0) rfl
theorem zg_109_89 : Zgo d 109 89 L st S Q ↔ (Zgo d 109 90 L (zi 0 :: st) S Q) := Zgo_iff (i := .iconst 0) (len := 1) (a := 0) (b := 0) (c := 0) (p := 0) rfl
theorem zg_109_90 : Zgo d 109 90 L st S Q ↔ (zpi st False fun x t => Zgo d 109 92 (zst L 7 (some (zi x))) t S Q) := Zgo_iff (i := .istore 7) (len := 2) (a := 0) (b := 0) (c := 0) (p := 0) rfl
theorem zg_109_92 : Zgo d 109 92 L st S Q ↔ (zldi L 7 False fun x => Zgo d 109 94 L (zi x :: st) S Q) := Zgo_iff (i := .iload 7) (len := 2) (a := 0) (b := 0) (c := 0) (p := 0) rfl
theorem zg_109_94 : Zgo d 109 94 L st S Q ↔ (zlda L 0 False fun r => Zgo d 109 95 L (zq r :: st) S Q) := Zgo_iff (i := .aload_n 0) (len := 1) (a := 0) (b := 0) (c := 0) (p := 0) rfl
theorem zg_109_95 : Zgo d 109 95 L st S Q ↔ (zpa st False fun r t => zde r 11 False fun o => Zgo d 109 98 L (zq (S.2.1 11 o 18) :: t) S Q) := Zgo_iff (i := .getfield 43) (len := 3) (a := 11) (b := 18) (c := 3) (p := 4148) rfl
theorem zg_109_98 : Zgo d 109 98 L st S Q ↔ (zldi L 1 False fun x => Zgo d 109 99 L (zi x :: st) S Q) := Zgo_iff (i := .iload_n 1) (len := 1) (a := 0) (b := 0) (c := 0) (p := 0) rfl
theorem zg_109_99 : Zgo d 109 99 L st S Q ↔ (zpi st False fun j t => zpa t False fun r t => znn r False fun q o => zop (zlen S q) False fun n => if n.1 = 0 then zix j n.2 False fun x => Zgo d 109 100 L (zi (S.1 q o x) :: t) S Q else False) := Zgo_iff (i := .iaload) (len := 1) (a := 0) (b := 0) (c := 0) (p := 0) rfl
theorem zg_109_100 : Zgo d 109 100 L st S Q ↔ (zpi st False fun y t => zpi t False fun x t => if zw x < zw y then Zgo d 109 103 L t S Q else Zgo d 109 156 L t S Q) := Zgo_iff (i := .if_icmp .ge 56) (len := 3) (a := 0) (b := 0) (c := 0) (p := 0) rfl
theorem zg_109_103 : Zgo d 109 103 L st S Q ↔ (zldi L 2 False fun x => Zgo d 109 104 L (zi x :: st) S Q) := Zgo_iff (i := .iload_n 2) (len := 1) (a := 0) (b := 0) (c := 0) (p := 0) rfl
theorem zg_109_104 : Zgo d 109 104 L st S Q ↔ (zpi st False fun x t => if zw x = zw 0 then Zgo d 109 107 L t S Q else Zgo d 109 126 L t S Q) := Zgo_iff (i := .ifCond .ne 22) (len := 3) (a := 0) (b := 0) (c := 0) (p := 0) rfl
theorem zg_109_107 : Zgo d 109 107 L st S Q ↔ (zldi L 5 False fun x => Zgo d 109 109 L (zi x :: st) S Q) := Zgo_iff (i := .iload 5) (len := 2) (a := 0) (b := 0) (c := 0) (p := 0) rfl
theorem zg_109_109 : Zgo d 109 109 L st S Q ↔ (zlda L 0 False fun r => Zgo d 109 110 L (zq r :: st) S Q) := Zgo_iff (i := .aload_n 0) (len := 1) (a := 0) (b := 0) (c := 0) (p := 0) rfl
theorem zg_109_110 : Zgo d 109 110 L st S Q ↔ (zpa st False fun r t => zde r 11 False fun o => Zgo d 109 113 L (zq (S.2.1 11 o 16) :: t) S Q) := Zgo_iff (i := .getfield 37) (len := 3) (a := 11) (b := 16) (c := 3) (p := 4146) rfl
theorem zg_109_113 : Zgo d 109 113 L st S Q ↔ (Zgo d 109 114 L (zi 3 :: st) S Q) := Zgo_iff (i := .iconst 3) (len := 1) (a := 0) (b := 0) (c := 0) (p := 0) rfl
theorem zg_109_114 : Zgo d 109 114 L st S Q ↔ (zldi L 1 False fun x => Zgo d 109 115 L (zi x :: st) S Q) := Zgo_iff (i := .iload_n 1) (len := 1) (a := 0) (b := 0) (c := 0) (p := 0) rfl
theorem zg_109_115 : Zgo d 109 115 L st S Q ↔ (zpi st False fun y t => zpi t False fun x t => Zgo d 109 116 L (zi (x * y) :: t) S Q) := Zgo_iff (i := .imul) (len := 1) (a := 0) (b := 0) (c := 0) (p := 0) rfl
theorem zg_109_116 : Zgo d 109 116 L st S Q ↔ (zldi L 7 False fun x => Zgo d 109 118 L (zi x :: st) S Q) := Zgo_iff (i := .iload 7) (len := 2) (a := 0) (b := 0) (c := 0) (p := 0) rfl
theorem zg_109_118 : Zgo d 109 118 L st S Q ↔ (zpi st False fun y t => zpi t False fun x t => Zgo d 109 119 L (zi (x + y) :: t) S Q) := Zgo_iff (i := .iadd) (len := 1) (a := 0) (b := 0) (c := 0) (p := 0) rfl
theorem zg_109_119 : Zgo d 109 119 L st S Q ↔ (zpi st False fun j t => zpa t False fun r t => znn r False fun q o => zop (zlen S q) False fun n => if n.1 = 0 then zix j n.2 False fun x => Zgo d 109 120 L (zi (S.1 q o x) :: t) S Q else False) := Zgo_iff (i := .iaload) (len := 1) (a := 0) (b := 0) (c := 0) (p := 0) rfl
theorem zg_109_120 : Zgo d 109 120 L st S Q ↔ (zpi st False fun y t => zpi t False fun x t => Zgo d 109 121 L (zi (zshr x y) :: t) S Q) := Zgo_iff (i := .ishr) (len := 1) (a := 0) (b := 0) (c := 0) (p := 0) rfl
theorem zg_109_121 : Zgo d 109 121 L st S Q ↔ (Zgo d 109 122 L (zi 1 :: st) S Q) := Zgo_iff (i := .iconst 1) (len := 1) (a := 0) (b := 0) (c := 0) (p := 0) rfl
theorem zg_109_122 : Zgo d 109 122 L st S Q ↔ (zpi st False fun y t => zpi t False fun x t => Zgo d 109 123 L (zi (zand x y) :: t) S Q) := Zgo_iff (i := .iand) (len := 1) (a := 0) (b := 0) (c := 0) (p := 0) rfl
theorem zg_109_123 : Zgo d 109 123 L st S Q ↔ (zpi st False fun x t => if zw x = zw 0 then Zgo d 109 126 L t S Q else Zgo d 109 130 L t S Q) := Zgo_iff (i := .ifCond .ne 7) (len := 3) (a := 0) (b := 0) (c := 0) (p := 0) rfl
theorem zg_109_126 : Zgo d 109 126 L st S Q ↔ (Zgo d 109 127 L (zi 1 :: st) S Q) := Zgo_iff (i := .iconst 1) (len := 1) (a := 0) (b := 0) (c := 0) (p := 0) rfl
theorem zg_109_127 : Zgo d 109 127 L st S Q ↔ (Zgo d 109 131 L st S Q) := Zgo_iff (i := .goto 4) (len := 3) (a := 0) (b := 0) (c := 0) (p := 0) rfl
theorem zg_109_130 : Zgo d 109 130 L st S Q ↔ (Zgo d 109 131 L (zi 0 :: st) S Q) := Zgo_iff (i := .iconst 0) (len := 1) (a := 0) (b := 0) (c := 0) (p := 0) rfl
theorem zg_109_131 : Zgo d 109 131 L st S Q ↔ (zpi st False fun x t => Zgo d 109 132 (zst L 2 (some (zi x))) t S Q) := Zgo_iff (i := .istore_n 2) (len := 1) (a := 0) (b := 0) (c := 0) (p := 0) rfl
theorem zg_109_132 : Zgo d 109 132 L st S Q ↔ (zldi L 6 False fun x => Zgo d 109 134 L (zi x :: st) S Q) := Zgo_iff (i := .iload 6) (len := 2) (a := 0) (b := 0) (c := 0) (p := 0) rfl
theorem zg_109_134 : Zgo d 109 134 L st S Q ↔ (Zgo d 109 135 L (zi 1 :: st) S Q) := Zgo_iff (i := .iconst 1) (len := 1) (a := 0) (b := 0) (c := 0) (p := 0) rfl
theorem zg_109_135 : Zgo d 109 135 L st S Q ↔ (zlda L 0 False fun r => Zgo d 109 136 L (zq r :: st) S Q) := Zgo_iff (i := .aload_n 0) (len := 1) (a := 0) (b := 0) (c := 0) (p := 0) rfl
theorem zg_109_136 : Zgo d 109 136 L st S Q ↔ (zpa st False fun r t => zde r 11 False fun o => Zgo d 109 139 L (zq (S.2.1 11 o 16) :: t) S Q) := Zgo_iff (i := .getfield 37) (len := 3) (a := 11) (b := 16) (c := 3) (p := 4146) rfl
theorem zg_109_139 : Zgo d 109 139 L st S Q ↔ (Zgo d 109 140 L (zi 3 :: st) S Q) := Zgo_iff (i := .iconst 3) (len := 1) (a := 0) (b := 0) (c := 0) (p := 0) rfl
theorem zg_109_140 : Zgo d 109 140 L st S Q ↔ (zldi L 1 False fun x => Zgo d 109 141 L (zi x :: st) S Q) := Zgo_iff (i := .iload_n 1) (len := 1) (a := 0) (b := 0) (c := 0) (p := 0) rfl
theorem zg_109_141 : Zgo d 109 141 L st S Q ↔ (zpi st False fun y t => zpi t False fun x t => Zgo d 109 142 L (zi (x * y) :: t) S Q) := Zgo_iff (i := .imul) (len := 1) (a := 0) (b := 0) (c := 0) (p := 0) rfl
theorem zg_109_142 : Zgo d 109 142 L st S Q ↔ (zldi L 7 False fun x => Zgo d 109 144 L (zi x :: st) S Q) := Zgo_iff (i := .iload 7) (len := 2) (a := 0) (b := 0) (c := 0) (p := 0) rfl
theorem zg_109_144 : Zgo d 109 144 L st S Q ↔ (zpi st False fun y t => zpi t False fun x t => Zgo d 109 145 L (zi (x + y) :: t) S Q) := Zgo_iff (i := .iadd) (len := 1) (a := 0) (b := 0) (c := 0) (p := 0) rfl
theorem zg_109_145 : Zgo d 109 145 L st S Q ↔ (zpi st False fun j t => zpa t False fun r t => znn r False fun q o => zop (zlen S q) False fun n => if n.1 = 0 then zix j n.2 False fun x => Zgo d 109 146 L (zi (S.1 q o x) :: t) S Q else False) := Zgo_iff (i := .iaload) (len := 1) (a := 0) (b := 0) (c := 0) (p := 0) rfl
theorem zg_109_146 : Zgo d 109 146 L st S Q ↔ (zpi st False fun y t => zpi t False fun x t => Zgo d 109 147 L (zi (zshl x y) :: t) S Q) := Zgo_iff (i := .ishl) (len := 1) (a := 0) (b := 0) (c := 0) (p := 0) rfl
theorem zg_109_147 : Zgo d 109 147 L st S Q ↔ (zpi st False fun y t => zpi t False fun x t => Zgo d 109 148 L (zi (zor x y) :: t) S Q) := Zgo_iff (i := .ior) (len := 1) (a := 0) (b := 0) (c := 0) (p := 0) rfl
theorem zg_109_148 : Zgo d 109 148 L st S Q ↔ (zpi st False fun x t => Zgo d 109 150 (zst L 6 (some (zi x))) t S Q) := Zgo_iff (i := .istore 6) (len := 2) (a := 0) (b := 0) (c := 0) (p := 0) rfl
theorem zg_109_150 : Zgo d 109 150 L st S Q ↔ (zldi L 7 False fun x => Zgo d 109 153 (zst L 7 (some (zi (x + 1)))) st S Q) := Zgo_iff (i := .iinc 7 1) (len := 3) (a := 0) (b := 0) (c := 0) (p := 0) rfl
theorem zg_109_153 : Zgo d 109 153 L st S Q ↔ (Zgo d 109 92 L st S Q) := Zgo_iff (i := .goto (-61)) (len := 3) (a := 0) (b := 0) (c := 0) (p := 0) rfl
theorem zg_109_156 : Zgo d 109 156 L st S Q ↔ (zldi L 5 False fun x => Zgo d 109 158 L (zi x :: st) S Q) := Zgo_iff (i := .iload 5) (len := 2) (a := 0) (b := 0) (c := 0) (p := 0) rfl
theorem zg_109_158 : Zgo d 109 158 L st S Q ↔ (zldi L 6 False fun x => Zgo d 109 160 L (zi x :: st) S Q) := Zgo_iff (i := .iload 6) (len := 2) (a := 0) (b := 0) (c := 0) (p := 0) rfl
theorem zg_109_160 : Zgo d 109 160 L st S Q ↔ (Zgo d 109 161 L (zi (-1) :: st) S Q) := Zgo_iff (i := .iconst (-1)) (len := 1) (a := 0) (b := 0) (c := 0) (p := 0) rfl
theorem zg_109_161 : Zgo d 109 161 L st S Q ↔ (zpi st False fun y t => zpi t False fun x t => Zgo d 109 162 L (zi (zxor x y) :: t) S Q) := Zgo_iff (i := .ixor) (len := 1) (a := 0) (b := 0) (c := 0) (p := 0) rfl
theorem zg_109_162 : Zgo d 109 162 L st S Q ↔ (zpi st False fun y t => zpi t False fun x t => Zgo d 109 163 L (zi (zand x y) :: t) S Q) := Zgo_iff (i := .iand) (len := 1) (a := 0) (b := 0) (c := 0) (p := 0) rfl
theorem zg_109_163 : Zgo d 109 163 L st S Q ↔ (zpi st False fun x t => Zgo d 109 165 (zst L 4 (some (zi x))) t S Q) := Zgo_iff (i := .istore 4) (len := 2) (a := 0) (b := 0) (c := 0) (p := 0) rfl
theorem zg_109_165 : Zgo d 109 165 L st S Q ↔ (Zgo d 109 166 L (zi 2 :: st) S Q) := Zgo_iff (i := .iconst 2) (len := 1) (a := 0) (b := 0) (c := 0) (p := 0) rfl
theorem zg_109_166 : Zgo d 109 166 L st S Q ↔ (zpi st False fun x t => Zgo d 109 168 (zst L 7 (some (zi x))) t S Q) := Zgo_iff (i := .istore 7) (len := 2) (a := 0) (b := 0) (c := 0) (p := 0) rfl
theorem zg_109_168 : Zgo d 109 168 L st S Q ↔ (zldi L 7 False fun x => Zgo d 109 170 L (zi x :: st) S Q) := Zgo_iff (i := .iload 7) (len := 2) (a := 0) (b := 0) (c := 0) (p := 0) rfl
theorem zg_109_170 : Zgo d 109 170 L st S Q ↔ (Zgo d 109 172 L (zi 6 :: st) S Q) := Zgo_iff (i := .bipush 6) (len := 2) (a := 0) (b := 0) (c := 0) (p := 0) rfl
theorem zg_109_172 : Zgo d 109 172 L st S Q ↔ (zpi st False fun y t => zpi t False fun x t => if zw x < zw y then Zgo d 109 175 L t S Q else Zgo d 109 217 L t S Q) := Zgo_iff (i := .if_icmp .ge 45) (len := 3) (a := 0) (b := 0) (c := 0) (p := 0) rfl
theorem zg_109_175 : Zgo d 109 175 L st S Q ↔ (zlda L 0 False fun r => Zgo d 109 176 L (zq r :: st) S Q) := Zgo_iff (i := .aload_n 0) (len := 1) (a := 0) (b := 0) (c := 0) (p := 0) rfl
theorem zg_109_176 : Zgo d 109 176 L st S Q ↔ (zpa st False fun r t => zde r 11 False fun o => Zgo d 109 179 L (zq (S.2.1 11 o 15) :: t) S Q) := Zgo_iff (i := .getfield 34) (len := 3) (a := 11) (b := 15) (c := 3) (p := 4145) rfl
theorem zg_109_179 : Zgo d 109 179 L st S Q ↔ (Zgo d 109 181 L (zi 6 :: st) S Q) := Zgo_iff (i := .bipush 6) (len := 2) (a := 0) (b := 0) (c := 0) (p := 0) rfl
theorem zg_109_181 : Zgo d 109 181 L st S Q ↔ (zldi L 1 False fun x => Zgo d 109 182 L (zi x :: st) S Q) := Zgo_iff (i := .iload_n 1) (len := 1) (a := 0) (b := 0) (c := 0) (p := 0) rfl
theorem zg_109_182 : Zgo d 109 182 L st S Q ↔ (zpi st False fun y t => zpi t False fun x t => Zgo d 109 183 L (zi (x * y) :: t) S Q) := Zgo_iff (i := .imul) (len := 1) (a := 0) (b := 0) (c := 0) (p := 0) rfl
theorem zg_109_183 : Zgo d 109 183 L st S Q ↔ (zldi L 7 False fun x => Zgo d 109 185 L (zi x :: st) S Q) := Zgo_iff (i := .iload 7) (len := 2) (a := 0) (b := 0) (c := 0) (p := 0) rfl
theorem zg_109_185 : Zgo d 109 185 L st S Q ↔ (zpi st False fun y t => zpi t False fun x t => Zgo d 109 186 L (zi (x + y) :: t) S Q) := Zgo_iff (i := .iadd) (len := 1) (a := 0) (b := 0) (c := 0) (p := 0) rfl
theorem zg_109_186 : Zgo d 109 186 L st S Q ↔ (zpi st False fun j t => zpa t False fun r t => znn r False fun q o => zop (zlen S q) False fun n => if n.1 = 0 then zix j n.2 False fun x => Zgo d 109 187 L (zi (S.1 q o x) :: t) S Q else False) := Zgo_iff (i := .iaload) (len := 1) (a := 0) (b := 0) (c := 0) (p := 0) rfl
theorem zg_109_187 : Zgo d 109 187 L st S Q ↔ (zpi st False fun x t => Zgo d 109 189 (zst L 8 (some (zi x))) t S Q) := Zgo_iff (i := .istore 8) (len := 2) (a := 0) (b := 0) (c := 0) (p := 0) rfl
theorem zg_109_189 : Zgo d 109 189 L st S Q ↔ (zldi L 8 False fun x => Zgo d 109 191 L (zi x :: st) S Q) := Zgo_iff (i := .iload 8) (len := 2) (a := 0) (b := 0) (c := 0) (p := 0) rfl
theorem zg_109_191 : Zgo d 109 191 L st S Q ↔ (zpi st False fun x t => if zw x < zw 0 then Zgo d 109 194 L t S Q else Zgo d 109 199 L t S Q) := Zgo_iff (i := .ifCond .ge 8) (len := 3) (a := 0) (b := 0) (c := 0) (p := 0) rfl
theorem zg_109_194 : Zgo d 109 194 L st S Q ↔ (zldi L 4 False fun x => Zgo d 109 196 L (zi x :: st) S Q) := Zgo_iff (i := .iload 4) (len := 2) (a := 0) (b := 0) (c := 0) (p := 0) rfl
theorem zg_109_196 : Zgo d 109 196 L st S Q ↔ (Zgo d 109 209 L st S Q) := Zgo_iff (i := .goto 13) (len := 3) (a := 0) (b := 0) (c := 0) (p := 0) rfl
theorem zg_109_199 : Zgo d 109 199 L st S Q ↔ (zldi L 4 False fun x => Zgo d 109 201 L (zi x :: st) S Q) := Zgo_iff (i := .iload 4) (len := 2) (a := 0) (b := 0) (c := 0) (p := 0) rfl
theorem zg_109_201 : Zgo d 109 201 L st S Q ↔ (zlda L 0 False fun r => Zgo d 109 202 L (zq r :: st) S Q) := Zgo_iff (i := .aload_n 0) (len := 1) (a := 0) (b := 0) (c := 0) (p := 0) rfl
theorem zg_109_202 : Zgo d 109 202 L st S Q ↔ (zpa st False fun r t => zde r 11 False fun o => Zgo d 109 205 L (zq (S.2.1 11 o 27) :: t) S Q) := Zgo_iff (i := .getfield 67) (len := 3) (a := 11) (b := 27) (c := 3) (p := 4157) rfl
theorem zg_109_205 : Zgo d 109 205 L st S Q ↔ (zldi L 8 False fun x => Zgo d 109 207 L (zi x :: st) S Q) := Zgo_iff (i := .iload 8) (len := 2) (a := 0) (b := 0) (c := 0) (p := 0) rfl
theorem zg_109_207 : Zgo d 109 207 L st S Q ↔ (zpi st False fun j t => zpa t False fun r t => znn r False fun q o => zop (zlen S q) False fun n => if n.1 = 0 then zix j n.2 False fun x => Zgo d 109 208 L (zi (S.1 q o x) :: t) S Q else False) := Zgo_iff (i := .iaload) (len := 1) (a := 0) (b := 0) (c := 0) (p := 0) rfl
theorem zg_109_208 : Zgo d 109 208 L st S Q ↔ (zpi st False fun y t => zpi t False fun x t => Zgo d 109 209 L (zi (zor x y) :: t) S Q) := Zgo_iff (i := .ior) (len := 1) (a := 0) (b := 0) (c := 0) (p := 0) rfl
theorem zg_109_209 : Zgo d 109 209 L st S Q ↔ (zpi st False fun x t => Zgo d 109 211 (zst L 4 (some (zi x))) t S Q) := Zgo_iff (i := .istore 4) (len := 2) (a := 0) (b := 0) (c := 0) (p := 0) rfl
theorem zg_109_211 : Zgo d 109 211 L st S Q ↔ (zldi L 7 False fun x => Zgo d 109 214 (zst L 7 (some (zi (x + 1)))) st S Q) := Zgo_iff (i := .iinc 7 1) (len := 3) (a := 0) (b := 0) (c := 0) (p := 0) rfl
theorem zg_109_214 : Zgo d 109 214 L st S Q ↔ (Zgo d 109 168 L st S Q) := Zgo_iff (i := .goto (-46)) (len := 3) (a := 0) (b := 0) (c := 0) (p := 0) rfl
theorem zg_109_217 : Zgo d 109 217 L st S Q ↔ (Zgo d 109 310 L st S Q) := Zgo_iff (i := .goto 93) (len := 3) (a := 0) (b := 0) (c := 0) (p := 0) rfl
theorem zg_109_220 : Zgo d 109 220 L st S Q ↔ (zldi L 3 False fun x => Zgo d 109 221 L (zi x :: st) S Q) := Zgo_iff (i := .iload_n 3) (len := 1) (a := 0) (b := 0) (c := 0) (p := 0) rfl
theorem zg_109_221 : Zgo d 109 221 L st S Q ↔ (Zgo d 109 223 L (zi 84 :: st) S Q) := Zgo_iff (i := .bipush 84) (len := 2) (a := 0) (b := 0) (c := 0) (p := 0) rfl
theorem zg_109_223 : Zgo d 109 223 L st S Q ↔ (zpi st False fun y t => zpi t False fun x t => if zw x = zw y then Zgo d 109 226 L t S Q else Zgo d 109 239 L t S Q) := Zgo_iff (i := .if_icmp .ne 16) (len := 3) (a := 0) (b := 0) (c := 0) (p := 0) rfl
theorem zg_109_226 : Zgo d 109 226 L st S Q ↔ (Zgo d 109 227 L (zi 1 :: st) S Q) := Zgo_iff (i := .iconst 1) (len := 1) (a := 0) (b := 0) (c := 0) (p := 0) rfl
theorem zg_109_227 : Zgo d 109 227 L st S Q ↔ (zlda L 0 False fun r => Zgo d 109 228 L (zq r :: st) S Q) := Zgo_iff (i := .aload_n 0) (len := 1) (a := 0) (b := 0) (c := 0) (p := 0) rfl
theorem zg_109_228 : Zgo d 109 228 L st S Q ↔ (zpa st False fun r t => zde r 11 False fun o => Zgo d 109 231 L (zq (S.2.1 11 o 12) :: t) S Q) := Zgo_iff (i := .getfield 25) (len := 3) (a := 11) (b := 12) (c := 3) (p := 4142) rfl
theorem zg_109_231 : Zgo d 109 231 L st S Q ↔ (zldi L 1 False fun x => Zgo d 109 232 L (zi x :: st) S Q) := Zgo_iff (i := .iload_n 1) (len := 1) (a := 0) (b := 0) (c := 0) (p := 0) rfl
theorem zg_109_232 : Zgo d 109 232 L st S Q ↔ (zpi st False fun j t => zpa t False fun r t => znn r False fun q o => zop (zlen S q) False fun n => if n.1 = 0 then zix j n.2 False fun x => Zgo d 109 233 L (zi (S.1 q o x) :: t) S Q else False) := Zgo_iff (i := .iaload) (len := 1) (a := 0) (b := 0) (c := 0) (p := 0) rfl
theorem zg_109_233 : Zgo d 109 233 L st S Q ↔ (zpi st False fun y t => zpi t False fun x t => Zgo d 109 234 L (zi (zshl x y) :: t) S Q) := Zgo_iff (i := .ishl) (len := 1) (a := 0) (b := 0) (c := 0) (p := 0) rfl
theorem zg_109_234 : Zgo d 109 234 L st S Q ↔ (zpi st False fun x t => Zgo d 109 236 (zst L 4 (some (zi x))) t S Q) := Zgo_iff (i := .istore 4) (len := 2) (a := 0) (b := 0) (c := 0) (p := 0) rfl
theorem zg_109_236 : Zgo d 109 236 L st S Q ↔ (Zgo d 109 310 L st S Q) := Zgo_iff (i := .goto 74) (len := 3) (a := 0) (b := 0) (c := 0) (p := 0) rfl
theorem zg_109_239 : Zgo d 109 239 L st S Q ↔ (zldi L 3 False fun x => Zgo d 109 240 L (zi x :: st) S Q) := Zgo_iff (i := .iload_n 3) (len := 1) (a := 0) (b := 0) (c := 0) (p := 0) rfl
theorem zg_109_240 : Zgo d 109 240 L st S Q ↔ (Zgo d 109 242 L (zi 88 :: st) S Q) := Zgo_iff (i := .bipush 88) (len := 2) (a := 0) (b := 0) (c := 0) (p := 0) rfl
theorem zg_109_242 : Zgo d 109 242 L st S Q ↔ (zpi st False fun y t => zpi t False fun x t => if zw x = zw y then Zgo d 109 245 L t S Q else Zgo d 109 287 L t S Q) := Zgo_iff (i := .if_icmp .ne 45) (len := 3) (a := 0) (b := 0) (c := 0) (p := 0) rfl
theorem zg_109_245 : Zgo d 109 245 L st S Q ↔ (zlda L 0 False fun r => Zgo d 109 246 L (zq r :: st) S Q) := Zgo_iff (i := .aload_n 0) (len := 1) (a := 0) (b := 0) (c := 0) (p := 0) rfl
theorem zg_109_246 : Zgo d 109 246 L st S Q ↔ (zldi L 1 False fun x => Zgo d 109 247 L (zi x :: st) S Q) := Zgo_iff (i := .iload_n 1) (len := 1) (a := 0) (b := 0) (c := 0) (p := 0) rfl
theorem zg_109_247 : Zgo d 109 247 L st S Q ↔ (Zgo d 109 249 L (zi 89 :: st) S Q) := Zgo_iff (i := .bipush 89) (len := 2) (a := 0) (b := 0) (c := 0) (p := 0) rfl
theorem zg_109_249 : Zgo d 109 249 L st S Q ↔ (Zgo d 109 250 L (zi 2 :: st) S Q) := Zgo_iff (i := .iconst 2) (len := 1) (a := 0) (b := 0) (c := 0) (p := 0) rfl
theorem zg_109_250 : Zgo d 109 250 L st S Q ↔ (Zgo d 109 251 L (zi 4 :: st) S Q) := Zgo_iff (i := .iconst 4) (len := 1) (a := 0) (b := 0) (c := 0) (p := 0) rfl
theorem zg_109_251 : Zgo d 109 251 L st S Q ↔ (zinv 5 st False fun as t => zrec as 11 False (zCp d 105 as S fun r S2 => Zgo d 109 254 L (r.toList ++ t) S2 Q)) := Zgo_iff (i := .invokevirtual 199) (len := 3) (a := 105) (b := 5) (c := 0) (p := 5154) rfl
theorem zg_109_254 : Zgo d 109 254 L st S Q ↔ (zpi st False fun x t => Zgo d 109 256 (zst L 5 (some (zi x))) t S Q) := Zgo_iff (i := .istore 5) (len := 2) (a := 0) (b := 0) (c := 0) (p := 0) rfl
theorem zg_109_256 : Zgo d 109 256 L st S Q ↔ (Zgo d 109 257 L (zi 1 :: st) S Q) := Zgo_iff (i := .iconst 1) (len := 1) (a := 0) (b := 0) (c := 0) (p := 0) rfl
theorem zg_109_257 : Zgo d 109 257 L st S Q ↔ (zlda L 0 False fun r => Zgo d 109 258 L (zq r :: st) S Q) := Zgo_iff (i := .aload_n 0) (len := 1) (a := 0) (b := 0) (c := 0) (p := 0) rfl
theorem zg_109_258 : Zgo d 109 258 L st S Q ↔ (zpa st False fun r t => zde r 11 False fun o => Zgo d 109 261 L (zq (S.2.1 11 o 16) :: t) S Q) := Zgo_iff (i := .getfield 37) (len := 3) (a := 11) (b := 16) (c := 3) (p := 4146) rfl
theorem zg_109_261 : Zgo d 109 261 L st S Q ↔ (Zgo d 109 262 L (zi 3 :: st) S Q) := Zgo_iff (i := .iconst 3) (len := 1) (a := 0) (b := 0) (c := 0) (p := 0) rfl
theorem zg_109_262 : Zgo d 109 262 L st S Q ↔ (zlda L 0 False fun r => Zgo d 109 263 L (zq r :: st) S Q) := Zgo_iff (i := .aload_n 0) (len := 1) (a := 0) (b := 0) (c := 0) (p := 0) rfl
theorem zg_109_263 : Zgo d 109 263 L st S Q ↔ (zpa st False fun r t => zde r 11 False fun o => Zgo d 109 266 L (zq (S.2.1 11 o 25) :: t) S Q) := Zgo_iff (i := .getfield 61) (len := 3) (a := 11) (b := 25) (c := 3) (p := 4155) rfl
theorem zg_109_266 : Zgo d 109 266 L st S Q ↔ (zldi L 5 False fun x => Zgo d 109 268 L (zi x :: st) S Q) := Zgo_iff (i := .iload 5) (len := 2) (a := 0) (b := 0) (c := 0) (p := 0) rfl
theorem zg_109_268 : Zgo d 109 268 L st S Q ↔ (zpi st False fun j t => zpa t False fun r t => znn r False fun q o => zop (zlen S q) False fun n => if n.1 = 0 then zix j n.2 False fun x => Zgo d 109 269 L (zi (S.1 q o x) :: t) S Q else False) := Zgo_iff (i := .iaload) (len := 1) (a := 0) (b := 0) (c := 0) (p := 0) rfl
theorem zg_109_269 : Zgo d 109 269 L st S Q ↔ (zpi st False fun y t => zpi t False fun x t => Zgo d 109 270 L (zi (x * y) :: t) S Q) := Zgo_iff (i := .imul) (len := 1) (a := 0) (b := 0) (c := 0) (p := 0) rfl
theorem zg_109_270 : Zgo d 109 270 L st S Q ↔ (zlda L 0 False fun r => Zgo d 109 271 L (zq r :: st) S Q) := Zgo_iff (i := .aload_n 0) (len := 1) (a := 0) (b := 0) (c := 0) (p := 0) rfl
theorem zg_109_271 : Zgo d 109 271 L st S Q ↔ (zpa st False fun r t => zde r 11 False fun o => Zgo d 109 274 L (zq (S.2.1 11 o 26) :: t) S Q) := Zgo_iff (i := .getfield 64) (len := 3) (a := 11) (b := 26) (c := 3) (p := 4156) rfl
theorem zg_109_274 : Zgo d 109 274 L st S Q ↔ (zldi L 5 False fun x => Zgo d 109 276 L (zi x :: st) S Q) := Zgo_iff (i := .iload 5) (len := 2) (a := 0) (b := 0) (c := 0) (p := 0) rfl
theorem zg_109_276 : Zgo d 109 276 L st S Q ↔ (zpi st False fun j t => zpa t False fun r t => znn r False fun q o => zop (zlen S q) False fun n => if n.1 = 0 then zix j n.2 False fun x => Zgo d 109 277 L (zi (S.1 q o x) :: t) S Q else False) := Zgo_iff (i := .iaload) (len := 1) (a := 0) (b := 0) (c := 0) (p := 0) rfl
theorem zg_109_277 : Zgo d 109 277 L st S Q ↔ (zpi st False fun y t => zpi t False fun x t => Zgo d 109 278 L (zi (x + y) :: t) S Q) := Zgo_iff (i := .iadd) (len := 1) (a := 0) (b := 0) (c := 0) (p := 0) rfl
theorem zg_109_278 : Zgo d 109 278 L st S Q ↔ (Zgo d 109 279 L (zi 2 :: st) S Q) := Zgo_iff (i := .iconst 2) (len := 1) (a := 0) (b := 0) (c := 0) (p := 0) rfl
theorem zg_109_279 : Zgo d 109 279 L st S Q ↔ (zpi st False fun y t => zpi t False fun x t => Zgo d 109 280 L (zi (x - y) :: t) S Q) := Zgo_iff (i := .isub) (len := 1) (a := 0) (b := 0) (c := 0) (p := 0) rfl
theorem zg_109_280 : Zgo d 109 280 L st S Q ↔ (zpi st False fun j t => zpa t False fun r t => znn r False fun q o => zop (zlen S q) False fun n => if n.1 = 0 then zix j n.2 False fun x => Zgo d 109 281 L (zi (S.1 q o x) :: t) S Q else False) := Zgo_iff (i := .iaload) (len := 1) (a := 0) (b := 0) (c := 0) (p := 0) rfl
theorem zg_109_281 : Zgo d 109 281 L st S Q ↔ (zpi st False fun y t => zpi t False fun x t => Zgo d 109 282 L (zi (zshl x y) :: t) S Q) := Zgo_iff (i := .ishl) (len := 1) (a := 0) (b := 0) (c := 0) (p := 0) rfl
theorem zg_109_282 : Zgo d 109 282 L st S Q ↔ (zpi st False fun x t => Zgo d 109 284 (zst L 4 (some (zi x))) t S Q) := Zgo_iff (i := .istore 4) (len := 2) (a := 0) (b := 0) (c := 0) (p := 0) rfl
theorem zg_109_284 : Zgo d 109 284 L st S Q ↔ (Zgo d 109 310 L st S Q) := Zgo_iff (i := .goto 26) (len := 3) (a := 0) (b := 0) (c := 0) (p := 0) rfl
theorem zg_109_287 : Zgo d 109 287 L st S Q ↔ (zldi L 3 False fun x => Zgo d 109 288 L (zi x :: st) S Q) := Zgo_iff (i := .iload_n 3) (len := 1) (a := 0) (b := 0) (c := 0) (p := 0) rfl
theorem zg_109_288 : Zgo d 109 288 L st S Q ↔ (Zgo d 109 290 L (zi 80 :: st) S Q) := Zgo_iff (i := .bipush 80) (len := 2) (a := 0) (b := 0) (c := 0) (p := 0) rfl
theorem zg_109_290 : Zgo d 109 290 L st S Q ↔ (zpi st False fun y t => zpi t False fun x t => if zw x = zw y then Zgo d 109 293 L t S Q else Zgo d 109 310 L t S Q) := Zgo_iff (i := .if_icmp .ne 20) (len := 3) (a := 0) (b := 0) (c := 0) (p := 0) rfl
theorem zg_109_293 : Zgo d 109 293 L st S Q ↔ (zlda L 0 False fun r => Zgo d 109 294 L (zq r :: st) S Q) := Zgo_iff (i := .aload_n 0) (len := 1) (a := 0) (b := 0) (c := 0) (p := 0) rfl
theorem zg_109_294 : Zgo d 109 294 L st S Q ↔ (zpa st False fun r t => zde r 11 False fun o => Zgo d 109 297 L (zq (S.2.1 11 o 8) :: t) S Q) := Zgo_iff (i := .getfield 16) (len := 3) (a := 11) (b := 8) (c := 3) (p := 4138) rfl
theorem zg_109_297 : Zgo d 109 297 L st S Q ↔ (zlda L 0 False fun r => Zgo d 109 298 L (zq r :: st) S Q) := Zgo_iff (i := .aload_n 0) (len := 1) (a := 0) (b := 0) (c := 0) (p := 0) rfl
theorem zg_109_298 : Zgo d 109 298 L st S Q ↔ (zlda L 0 False fun r => Zgo d 109 299 L (zq r :: st) S Q) := Zgo_iff (i := .aload_n 0) (len := 1) (a := 0) (b := 0) (c := 0) (p := 0) rfl
theorem zg_109_299 : Zgo d 109 299 L st S Q ↔ (zpa st False fun r t => zde r 11 False fun o => Zgo d 109 302 L (zq (S.2.1 11 o 12) :: t) S Q) := Zgo_iff (i := .getfield 25) (len := 3) (a := 11) (b := 12) (c := 3) (p := 4142) rfl
theorem zg_109_302 : Zgo d 109 302 L st S Q ↔ (zldi L 1 False fun x => Zgo d 109 303 L (zi x :: st) S Q) := Zgo_iff (i := .iload_n 1) (len := 1) (a := 0) (b := 0) (c := 0) (p := 0) rfl
theorem zg_109_303 : Zgo d 109 303 L st S Q ↔ (zpi st False fun j t => zpa t False fun r t => znn r False fun q o => zop (zlen S q) False fun n => if n.1 = 0 then zix j n.2 False fun x => Zgo d 109 304 L (zi (S.1 q o x) :: t) S Q else False) := Zgo_iff (i := .iaload) (len := 1) (a := 0) (b := 0) (c := 0) (p := 0) rfl
theorem zg_109_304 : Zgo d 109 304 L st S Q ↔ (zinv 2 st False fun as t => zrec as 11 False (zCp d 106 as S fun r S2 => Zgo d 109 307 L (r.toList ++ t) S2 Q)) := Zgo_iff (i := .invokevirtual 203) (len := 3) (a := 106) (b := 2) (c := 0) (p := 5158) rfl
theorem zg_109_307 : Zgo d 109 307 L st S Q ↔ (zpi st False fun j t => zpa t False fun r t => znn r False fun q o => zop (zlen S q) False fun n => if n.1 = 0 then zix j n.2 False fun x => Zgo d 109 308 L (zi (S.1 q o x) :: t) S Q else False) := Zgo_iff (i := .iaload) (len := 1) (a := 0) (b := 0) (c := 0) (p := 0) rfl
theorem zg_109_308 : Zgo d 109 308 L st S Q ↔ (zpi st False fun x t => Zgo d 109 310 (zst L 4 (some (zi x))) t S Q) := Zgo_iff (i := .istore 4) (len := 2) (a := 0) (b := 0) (c := 0) (p := 0) rfl
theorem zg_109_310 : Zgo d 109 310 L st S Q ↔ (zlda L 0 False fun r => Zgo d 109 311 L (zq r :: st) S Q) := Zgo_iff (i := .aload_n 0) (len := 1) (a := 0) (b := 0) (c := 0) (p := 0) rfl
theorem zg_109_311 : Zgo d 109 311 L st S Q ↔ (zpa st False fun r t => zde r 11 False fun o => Zgo d 109 314 L (zq (S.2.1 11 o 21) :: t) S Q) := Zgo_iff (i := .getfield 52) (len := 3) (a := 11) (b := 21) (c := 3) (p := 4151) rfl
theorem zg_109_314 : Zgo d 109 314 L st S Q ↔ (zldi L 1 False fun x => Zgo d 109 315 L (zi x :: st) S Q) := Zgo_iff (i := .iload_n 1) (len := 1) (a := 0) (b := 0) (c := 0) (p := 0) rfl
theorem zg_109_315 : Zgo d 109 315 L st S Q ↔ (zldi L 4 False fun x => Zgo d 109 317 L (zi x :: st) S Q) := Zgo_iff (i := .iload 4) (len := 2) (a := 0) (b := 0) (c := 0) (p := 0) rfl
theorem zg_109_317 : Zgo d 109 317 L st S Q ↔ (zpi st False fun v t => zpi t False fun j t => zpa t False fun r t => znn r False fun q o => zop (zArr q) False fun n => if n.1 = 0 then zix j n.2 False fun x => Zgo d 109 318 L t (zsI S.1 q o x v, S.2) Q else False) := Zgo_iff (i := .iastore) (len := 1) (a := 0) (b := 0) (c := 0) (p := 0) rfl
theorem zg_109_318 : Zgo d 109 318 L st S Q ↔ (zlda L 0 False fun r => Zgo d 109 319 L (zq r :: st) S Q) := Zgo_iff (i := .aload_n 0) (len := 1) (a := 0) (b := 0) (c := 0) (p := 0) rfl
theorem zg_109_319 : Zgo d 109 319 L st S Q ↔ (zpa st False fun r t => zde r 11 False fun o => Zgo d 109 322 L (zq (S.2.1 11 o 27) :: t) S Q) := Zgo_iff (i := .getfield 67) (len := 3) (a := 11) (b := 27) (c := 3) (p := 4157) rfl
theorem zg_109_322 : Zgo d 109 322 L st S Q ↔ (zlda L 0 False fun r => Zgo d 109 323 L (zq r :: st) S Q) := Zgo_iff (i := .aload_n 0) (len := 1) (a := 0) (b := 0) (c := 0) (p := 0) rfl
theorem zg_109_323 : Zgo d 109 323 L st S Q ↔ (zpa st False fun r t => zde r 11 False fun o => Zgo d 109 326 L (zq (S.2.1 11 o 19) :: t) S Q) := Zgo_iff (i := .getfield 46) (len := 3) (a := 11) (b := 19) (c := 3) (p := 4149) rfl
theorem zg_109_326 : Zgo d 109 326 L st S Q ↔ (zldi L 1 False fun x => Zgo d 109 327 L (zi x :: st) S Q) := Zgo_iff (i := .iload_n 1) (len := 1) (a := 0) (b := 0) (c := 0) (p := 0) rfl
theorem zg_109_327 : Zgo d 109 327 L st S Q ↔ (zpi st False fun j t => zpa t False fun r t => znn r False fun q o => zop (zlen S q) False fun n => if n.1 = 0 then zix j n.2 False fun x => Zgo d 109 328 L (zi (S.1 q o x) :: t) S Q else False) := Zgo_iff (i := .iaload) (len := 1) (a := 0) (b := 0) (c := 0) (p := 0) rfl
theorem zg_109_328 : Zgo d 109 328 L st S Q ↔ (zlda L 0 False fun r => Zgo d 109 329 L (zq r :: st) S Q) := Zgo_iff (i := .aload_n 0) (len := 1) (a := 0) (b := 0) (c := 0) (p := 0) rfl
theorem zg_109_329 : Zgo d 109 329 L st S Q ↔ (zpa st False fun r t => zde r 11 False fun o => Zgo d 109 332 L (zq (S.2.1 11 o 27) :: t) S Q) := Zgo_iff (i := .getfield 67) (len := 3) (a := 11) (b := 27) (c := 3) (p := 4157) rfl
theorem zg_109_332 : Zgo d 109 332 L st S Q ↔ (zlda L 0 False fun r => Zgo d 109 333 L (zq r :: st) S Q) := Zgo_iff (i := .aload_n 0) (len := 1) (a := 0) (b := 0) (c := 0) (p := 0) rfl
theorem zg_109_333 : Zgo d 109 333 L st S Q ↔ (zpa st False fun r t => zde r 11 False fun o => Zgo d 109 336 L (zq (S.2.1 11 o 19) :: t) S Q) := Zgo_iff (i := .getfield 46) (len := 3) (a := 11) (b := 19) (c := 3) (p := 4149) rfl
theorem zg_109_336 : Zgo d 109 336 L st S Q ↔ (zldi L 1 False fun x => Zgo d 109 337 L (zi x :: st) S Q) := Zgo_iff (i := .iload_n 1) (len := 1) (a := 0) (b := 0) (c := 0) (p := 0) rfl
theorem zg_109_337 : Zgo d 109 337 L st S Q ↔ (zpi st False fun j t => zpa t False fun r t => znn r False fun q o => zop (zlen S q) False fun n => if n.1 = 0 then zix j n.2 False fun x => Zgo d 109 338 L (zi (S.1 q o x) :: t) S Q else False) := Zgo_iff (i := .iaload) (len := 1) (a := 0) (b := 0) (c := 0) (p := 0) rfl
theorem zg_109_338 : Zgo d 109 338 L st S Q ↔ (zpi st False fun j t => zpa t False fun r t => znn r False fun q o => zop (zlen S q) False fun n => if n.1 = 0 then zix j n.2 False fun x => Zgo d 109 339 L (zi (S.1 q o x) :: t) S Q else False) := Zgo_iff (i := .iaload) (len := 1) (a := 0) (b := 0) (c := 0) (p := 0) rfl
theorem zg_109_339 : Zgo d 109 339 L st S Q ↔ (zldi L 4 False fun x => Zgo d 109 341 L (zi x :: st) S Q) := Zgo_iff (i := .iload 4) (len := 2) (a := 0) (b := 0) (c := 0) (p := 0) rfl
theorem zg_109_341 : Zgo d 109 341 L st S Q ↔ (zpi st False fun y t => zpi t False fun x t => Zgo d 109 342 L (zi (zor x y) :: t) S Q) := Zgo_iff (i := .ior) (len := 1) (a := 0) (b := 0) (c := 0) (p := 0) rfl
theorem zg_109_342 : Zgo d 109 342 L st S Q ↔ (zpi st False fun v t => zpi t False fun j t => zpa t False fun r t => znn r False fun q o => zop (zArr q) False fun n => if n.1 = 0 then zix j n.2 False fun x => Zgo d 109 343 L t (zsI S.1 q o x v, S.2) Q else False) := Zgo_iff (i := .iastore) (len := 1) (a := 0) (b := 0) (c := 0) (p := 0) rfl
theorem zg_109_343 : Zgo d 109 343 L st S Q ↔ (zldi L 2 False fun x => Zgo d 109 344 L (zi x :: st) S Q) := Zgo_iff (i := .iload_n 2) (len := 1) (a := 0) (b := 0) (c := 0) (p := 0) rfl
theorem zg_109_344 : Zgo d 109 344 L st S Q ↔ (zpi st False fun x t => zem t False (zok 1 x False (Q (some (zi x)) S))) := Zgo_iff (i := .ireturn) (len := 1) (a := 0) (b := 0) (c := 0) (p := 0) rfl
/-- LeavingMachineModel.run(I)I -/
theorem zg_110_0 : Zgo d 110 0 L st S Q ↔ (zlda L 0 False fun r => Zgo d 110 1 L (zq r :: st) S Q) := Zgo_iff (i := .aload_n 0) (len := 1) (a := 0) (b := 0) (c := 0) (p := 0) rfl
theorem zg_110_1 : Zgo d 110 1 L st S Q ↔ (zldi L 1 False fun x => Zgo d 110 2 L (zi x :: st) S Q) := Zgo_iff (i := .iload_n 1) (len := 1) (a := 0) (b := 0) (c := 0) (p := 0) rfl
theorem zg_110_2 : Zgo d 110 2 L st S Q ↔ (zpi st False fun x t => if zw x < zw 0 then Zgo d 110 12 L t S Q else Zgo d 110 5 L t S Q) := Zgo_iff (i := .ifCond .lt 10) (len := 3) (a := 0) (b := 0) (c := 0) (p := 0) rfl
theorem zg_110_5 : Zgo d 110 5 L st S Q ↔ (zldi L 1 False fun x => Zgo d 110 6 L (zi x :: st) S Q) := Zgo_iff (i := .iload_n 1) (len := 1) (a := 0) (b := 0) (c := 0) (p := 0) rfl
theorem zg_110_6 : Zgo d 110 6 L st S Q ↔ (Zgo d 110 9 L (zi 3000 :: st) S Q) := Zgo_iff (i := .sipush 3000) (len := 3) (a := 0) (b := 0) (c := 0) (p := 0) rfl
theorem zg_110_9 : Zgo d 110 9 L st S Q ↔ (zpi st False fun y t => zpi t False fun x t => if zw y < zw x then Zgo d 110 12 L t S Q else Zgo d 110 16 L t S Q) := Zgo_iff (i := .if_icmp .le 7) (len := 3) (a := 0) (b := 0) (c := 0) (p := 0) rfl
theorem zg_110_12 : Zgo d 110 12 L st S Q ↔ (Zgo d 110 13 L (zi 1 :: st) S Q) := Zgo_iff (i := .iconst 1) (len := 1) (a := 0) (b := 0) (c := 0) (p := 0) rfl
theorem zg_110_13 : Zgo d 110 13 L st S Q ↔ (Zgo d 110 28 L st S Q) := Zgo_iff (i := .goto 15) (len := 3) (a := 0) (b := 0) (c := 0) (p := 0) rfl
theorem zg_110_16 : Zgo d 110 16 L st S Q ↔ (zlda L 0 False fun r => Zgo d 110 17 L (zq r :: st) S Q) := Zgo_iff (i := .aload_n 0) (len := 1) (a := 0) (b := 0) (c := 0) (p := 0) rfl
theorem zg_110_17 : Zgo d 110 17 L st S Q ↔ (zpa st False fun r t => zde r 11 False fun o => Zgo d 110 20 L (zi (S.1 11 o 5) :: t) S Q) := Zgo_iff (i := .getfield 237) (len := 3) (a := 11) (b := 5) (c := 1) (p := 4135) rfl
theorem zg_110_20 : Zgo d 110 20 L st S Q ↔ (zpi st False fun x t => if zw x = zw 0 then Zgo d 110 23 L t S Q else Zgo d 110 27 L t S Q) := Zgo_iff (i := .ifCond .ne 7) (len := 3) (a := 0) (b := 0) (c := 0) (p := 0) rfl
theorem zg_110_23 : Zgo d 110 23 L st S Q ↔ (Zgo d 110 24 L (zi 2 :: st) S Q) := Zgo_iff (i := .iconst 2) (len := 1) (a := 0) (b := 0) (c := 0) (p := 0) rfl
theorem zg_110_24 : Zgo d 110 24 L st S Q ↔ (Zgo d 110 28 L st S Q) := Zgo_iff (i := .goto 4) (len := 3) (a := 0) (b := 0) (c := 0) (p := 0) rfl
theorem zg_110_27 : Zgo d 110 27 L st S Q ↔ (Zgo d 110 28 L (zi 0 :: st) S Q) := Zgo_iff (i := .iconst 0) (len := 1) (a := 0) (b := 0) (c := 0) (p := 0) rfl
theorem zg_110_28 : Zgo d 110 28 L st S Q ↔ (zpi st False fun v t => zpa t False fun r t => zde r 11 False fun o => Zgo d 110 31 L t (zsI S.1 11 o 0 v, S.2) Q) := Zgo_iff (i := .putfield 119) (len := 3) (a := 11) (b := 0) (c := 0) (p := 4130) rfl
theorem zg_110_31 : Zgo d 110 31 L st S Q ↔ (zlda L 0 False fun r => Zgo d 110 32 L (zq r :: st) S Q) := Zgo_iff (i := .aload_n 0) (len := 1) (a := 0) (b := 0) (c := 0) (p := 0) rfl
theorem zg_110_32 : Zgo d 110 32 L st S Q ↔ (zpa st False fun r t => zde r 11 False fun o => Zgo d 110 35 L (zi (S.1 11 o 0) :: t) S Q) := Zgo_iff (i := .getfield 119) (len := 3) (a := 11) (b := 0) (c := 0) (p := 4130) rfl
theorem zg_110_35 : Zgo d 110 35 L st S Q ↔ (zpi st False fun x t => if zw 0 < zw x then Zgo d 110 38 L t S Q else Zgo d 110 40 L t S Q) := Zgo_iff (i := .ifCond .le 5) (len := 3) (a := 0) (b := 0) (c := 0) (p := 0) rfl
theorem zg_110_38 : Zgo d 110 38 L st S Q ↔ (Zgo d 110 39 L (zi 0 :: st) S Q) := Zgo_iff (i := .iconst 0) (len := 1) (a := 0) (b := 0) (c := 0) (p := 0) rfl
theorem zg_110_39 : Zgo d 110 39 L st S Q ↔ (zpi st False fun x t => zem t False (Q (some (zi x)) S)) := Zgo_iff (i := .ireturn) (len := 1) (a := 0) (b := 0) (c := 0) (p := 0) rfl
theorem zg_110_40 : Zgo d 110 40 L st S Q ↔ (zlda L 0 False fun r => Zgo d 110 41 L (zq r :: st) S Q) := Zgo_iff (i := .aload_n 0) (len := 1) (a := 0) (b := 0) (c := 0) (p := 0) rfl
theorem zg_110_41 : Zgo d 110 41 L st S Q ↔ (zinv 1 st False fun as t => zrec as 11 False (zCp d 85 as S fun r S2 => Zgo d 110 44 L (r.toList ++ t) S2 Q)) := Zgo_iff (i := .invokevirtual 228) (len := 3) (a := 85) (b := 1) (c := 0) (p := 5076) rfl
theorem zg_110_44 : Zgo d 110 44 L st S Q ↔ (zlda L 0 False fun r => Zgo d 110 45 L (zq r :: st) S Q) := Zgo_iff (i := .aload_n 0) (len := 1) (a := 0) (b := 0) (c := 0) (p := 0) rfl
theorem zg_110_45 : Zgo d 110 45 L st S Q ↔ (Zgo d 110 46 L (zi 0 :: st) S Q) := Zgo_iff (i := .iconst 0) (len := 1) (a := 0) (b := 0) (c := 0) (p := 0) rfl
theorem zg_110_46 : Zgo d 110 46 L st S Q ↔ (zpi st False fun v t => zpa t False fun r t => zde r 11 False fun o => Zgo d 110 49 L t (zsI S.1 11 o 41 v, S.2) Q) := Zgo_iff (i := .putfield 256) (len := 3) (a := 11) (b := 41) (c := 0) (p := 4171) rfl
theorem zg_110_49 : Zgo d 110 49 L st S Q ↔ (zlda L 0 False fun r => Zgo d 110 50 L (zq r :: st) S Q) := Zgo_iff (i := .aload_n 0) (len := 1) (a := 0) (b := 0) (c := 0) (p := 0) rfl
theorem zg_110_50 : Zgo d 110 50 L st S Q ↔ (Zgo d 110 51 L (zi 0 :: st) S Q) := Zgo_iff (i := .iconst 0) (len := 1) (a := 0) (b := 0) (c := 0) (p := 0) rfl
theorem zg_110_51 : Zgo d 110 51 L st S Q ↔ (zpi st False fun v t => zpa t False fun r t => zde r 11 False fun o => Zgo d 110 54 L t (zsI S.1 11 o 53 v, S.2) Q) := Zgo_iff (i := .putfield 262) (len := 3) (a := 11) (b := 53) (c := 0) (p := 4183) rfl
theorem zg_110_54 : Zgo d 110 54 L st S Q ↔ (zlda L 0 False fun r => Zgo d 110 55 L (zq r :: st) S Q) := Zgo_iff (i := .aload_n 0) (len := 1) (a := 0) (b := 0) (c := 0) (p := 0) rfl
theorem zg_110_55 : Zgo d 110 55 L st S Q ↔ (Zgo d 110 56 L (zi 0 :: st) S Q) := Zgo_iff (i := .iconst 0) (len := 1) (a := 0) (b := 0) (c := 0) (p := 0) rfl
theorem zg_110_56 : Zgo d 110 56 L st S Q ↔ (Zgo d 110 57 L (zi 0 :: st) S Q) := Zgo_iff (i := .iconst 0) (len := 1) (a := 0) (b := 0) (c := 0) (p := 0) rfl
theorem zg_110_57 : Zgo d 110 57 L st S Q ↔ (Zgo d 110 58 L (zi 0 :: st) S Q) := Zgo_iff (i := .iconst 0) (len := 1) (a := 0) (b := 0) (c := 0) (p := 0) rfl
theorem zg_110_58 : Zgo d 110 58 L st S Q ↔ (zinv 4 st False fun as t => zrec as 11 False (zCp d 111 as S fun r S2 => Zgo d 110 61 L (r.toList ++ t) S2 Q)) := Zgo_iff (i := .invokevirtual 243) (len := 3) (a := 111) (b := 4) (c := 0) (p := 5177) rfl
theorem zg_110_61 : Zgo d 110 61 L st S Q ↔ (zlda L 0 False fun r => Zgo d 110 62 L (zq r :: st) S Q) := Zgo_iff (i := .aload_n 0) (len := 1) (a := 0) (b := 0) (c := 0) (p := 0) rfl
theorem zg_110_62 : Zgo d 110 62 L st S Q ↔ (zlda L 0 False fun r => Zgo d 110 63 L (zq r :: st) S Q) := Zgo_iff (i := .aload_n 0) (len := 1) (a := 0) (b := 0) (c := 0) (p := 0) rfl
theorem zg_110_63 : Zgo d 110 63 L st S Q ↔ (zpa st False fun r t => zde r 11 False fun o => Zgo d 110 66 L (zq (S.2.1 11 o 9) :: t) S Q) := Zgo_iff (i := .getfield 19) (len := 3) (a := 11) (b := 9) (c := 3) (p := 4139) rfl
theorem zg_110_66 : Zgo d 110 66 L st S Q ↔ (zlda L 0 False fun r => Zgo d 110 67 L (zq r :: st) S Q) := Zgo_iff (i := .aload_n 0) (len := 1) (a := 0) (b := 0) (c := 0) (p := 0) rfl
theorem zg_110_67 : Zgo d 110 67 L st S Q ↔ (zpa st False fun r t => zde r 11 False fun o => Zgo d 110 70 L (zi (S.1 11 o 6) :: t) S Q) := Zgo_iff (i := .getfield 193) (len := 3) (a := 11) (b := 6) (c := 0) (p := 4136) rfl
theorem zg_110_70 : Zgo d 110 70 L st S Q ↔ (zpi st False fun j t => zpa t False fun r t => znn r False fun q o => zop (zlen S q) False fun n => if n.1 = 0 then zix j n.2 False fun x => Zgo d 110 71 L (zi (S.1 q o x) :: t) S Q else False) := Zgo_iff (i := .iaload) (len := 1) (a := 0) (b := 0) (c := 0) (p := 0) rfl
theorem zg_110_71 : Zgo d 110 71 L st S Q ↔ (zinv 2 st False fun as t => zrec as 11 False (zCp d 112 as S fun r S2 => Zgo d 110 74 L (r.toList ++ t) S2 Q)) := Zgo_iff (i := .invokevirtual 265) (len := 3) (a := 112) (b := 2) (c := 0) (p := 5181) rfl
theorem zg_110_74 : Zgo d 110 74 L st S Q ↔ (Zgo d 110 75 L (zi 1 :: st) S Q) := Zgo_iff (i := .iconst 1) (len := 1) (a := 0) (b := 0) (c := 0) (p := 0) rfl
theorem zg_110_75 : Zgo d 110 75 L st S Q ↔ (zpi st False fun x t => Zgo d 110 76 (zst L 2 (some (zi x))) t S Q) := Zgo_iff (i := .istore_n 2) (len := 1) (a := 0) (b := 0) (c := 0) (p := 0) rfl
theorem zg_110_76 : Zgo d 110 76 L st S Q ↔ (zlda L 0 False fun r => Zgo d 110 77 L (zq r :: st) S Q) := Zgo_iff (i := .aload_n 0) (len := 1) (a := 0) (b := 0) (c := 0) (p := 0) rfl
theorem zg_110_77 : Zgo d 110 77 L st S Q ↔ (zpa st False fun r t => zde r 11 False fun o => Zgo d 110 80 L (zi (S.1 11 o 41) :: t) S Q) := Zgo_iff (i := .getfield 256) (len := 3) (a := 11) (b := 41) (c := 0) (p := 4171) rfl
theorem zg_110_80 : Zgo d 110 80 L st S Q ↔ (zpi st False fun x t => if zw 0 < zw x then Zgo d 110 83 L t S Q else Zgo d 110 110 L t S Q) := Zgo_iff (i := .ifCond .le 30) (len := 3) (a := 0) (b := 0) (c := 0) (p := 0) rfl
theorem zg_110_83 : Zgo d 110 83 L st S Q ↔ (zldi L 2 False fun x => Zgo d 110 84 L (zi x :: st) S Q) := Zgo_iff (i := .iload_n 2) (len := 1) (a := 0) (b := 0) (c := 0) (p := 0) rfl
theorem zg_110_84 : Zgo d 110 84 L st S Q ↔ (zpi st False fun x t => if zw x = zw 0 then Zgo d 110 110 L t S Q else Zgo d 110 87 L t S Q) := Zgo_iff (i := .ifCond .eq 26) (len := 3) (a := 0) (b := 0) (c := 0) (p := 0) rfl
theorem zg_110_87 : Zgo d 110 87 L st S Q ↔ (zlda L 0 False fun r => Zgo d 110 88 L (zq r :: st) S Q) := Zgo_iff (i := .aload_n 0) (len := 1) (a := 0) (b := 0) (c := 0) (p := 0) rfl
theorem zg_110_88 : Zgo d 110 88 L st S Q ↔ (zpa st False fun r t => zde r 11 False fun o => Zgo d 110 91 L (zi (S.1 11 o 50) :: t) S Q) := Zgo_iff (i := .getfield 247) (len := 3) (a := 11) (b := 50) (c := 0) (p := 4180) rfl
theorem zg_110_91 : Zgo d 110 91 L st S Q ↔ (zpi st False fun x t => if zw x = zw 0 then Zgo d 110 94 L t S Q else Zgo d 110 103 L t S Q) := Zgo_iff (i := .ifCond .ne 12) (len := 3) (a := 0) (b := 0) (c := 0) (p := 0) rfl
theorem zg_110_94 : Zgo d 110 94 L st S Q ↔ (zlda L 0 False fun r => Zgo d 110 95 L (zq r :: st) S Q) := Zgo_iff (i := .aload_n 0) (len := 1) (a := 0) (b := 0) (c := 0) (p := 0) rfl
theorem zg_110_95 : Zgo d 110 95 L st S Q ↔ (zldi L 1 False fun x => Zgo d 110 96 L (zi x :: st) S Q) := Zgo_iff (i := .iload_n 1) (len := 1) (a := 0) (b := 0) (c := 0) (p := 0) rfl
theorem zg_110_96 : Zgo d 110 96 L st S Q ↔ (zinv 2 st False fun as t => zrec as 11 False (zCp d 114 as S fun r S2 => Zgo d 110 99 L (r.toList ++ t) S2 Q)) := Zgo_iff (i := .invokevirtual 289) (len := 3) (a := 114) (b := 2) (c := 0) (p := 5189) rfl
theorem zg_110_99 : Zgo d 110 99 L st S Q ↔ (zpi st False fun x t => Zgo d 110 100 (zst L 2 (some (zi x))) t S Q) := Zgo_iff (i := .istore_n 2) (len := 1) (a := 0) (b := 0) (c := 0) (p := 0) rfl
theorem zg_110_100 : Zgo d 110 100 L st S Q ↔ (Zgo d 110 76 L st S Q) := Zgo_iff (i := .goto (-24)) (len := 3) (a := 0) (b := 0) (c := 0) (p := 0) rfl
theorem zg_110_103 : Zgo d 110 103 L st S Q ↔ (zlda L 0 False fun r => Zgo d 110 104 L (zq r :: st) S Q) := Zgo_iff (i := .aload_n 0) (len := 1) (a := 0) (b := 0) (c := 0) (p := 0) rfl
theorem zg_110_104 : Zgo d 110 104 L st S Q ↔ (zinv 1 st False fun as t => zrec as 11 False (zCp d 121 as S fun r S2 => Zgo d 110 107 L (r.toList ++ t) S2 Q)) := Zgo_iff (i := .invokevirtual 292) (len := 3) (a := 121) (b := 1) (c := 0) (p := 5217) rfl
theorem zg_110_107 : Zgo d 110 107 L st S Q ↔ (Zgo d 110 76 L st S Q) := Zgo_iff (i := .goto (-31)) (len := 3) (a := 0) (b := 0) (c := 0) (p := 0) rfl
theorem zg_110_110 : Zgo d 110 110 L st S Q ↔ (zlda L 0 False fun r => Zgo d 110 111 L (zq r :: st) S Q) := Zgo_iff (i := .aload_n 0) (len := 1) (a := 0) (b := 0) (c := 0) (p := 0) rfl
theorem zg_110_111 : Zgo d 110 111 L st S Q ↔ (zldi L 2 False fun x => Zgo d 110 112 L (zi x :: st) S Q) := Zgo_iff (i := .iload_n 2) (len := 1) (a := 0) (b := 0) (c := 0) (p := 0) rfl
theorem zg_110_112 : Zgo d 110 112 L st S Q ↔ (zpi st False fun x t => if zw x = zw 0 then Zgo d 110 115 L t S Q else Zgo d 110 119 L t S Q) := Zgo_iff (i := .ifCond .ne 7) (len := 3) (a := 0) (b := 0) (c := 0) (p := 0) rfl
theorem zg_110_115 : Zgo d 110 115 L st S Q ↔ (Zgo d 110 116 L (zi 1 :: st) S Q) := Zgo_iff (i := .iconst 1) (len := 1) (a := 0) (b := 0) (c := 0) (p := 0) rfl
theorem zg_110_116 : Zgo d 110 116 L st S Q ↔ (Zgo d 110 132 L st S Q) := Zgo_iff (i := .goto 16) (len := 3) (a := 0) (b := 0) (c := 0) (p := 0) rfl
theorem zg_110_119 : Zgo d 110 119 L st S Q ↔ (zlda L 0 False fun r => Zgo d 110 120 L (zq r :: st) S Q) := Zgo_iff (i := .aload_n 0) (len := 1) (a := 0) (b := 0) (c := 0) (p := 0) rfl
theorem zg_110_120 : Zgo d 110 120 L st S Q ↔ (zpa st False fun r t => zde r 11 False fun o => Zgo d 110 123 L (zi (S.1 11 o 50) :: t) S Q) := Zgo_iff (i := .getfield 247) (len := 3) (a := 11) (b := 50) (c := 0) (p := 4180) rfl
theorem zg_110_123 : Zgo d 110 123 L st S Q ↔ (Zgo d 110 124 L (zi 4 :: st) S Q) := Zgo_iff (i := .iconst 4) (len := 1) (a := 0) (b := 0) (c := 0) (p := 0) rfl
theorem zg_110_124 : Zgo d 110 124 L st S Q ↔ (zpi st False fun y t => zpi t False fun x t => if zw x = zw y then Zgo d 110 127 L t S Q else Zgo d 110 131 L t S Q) := Zgo_iff (i := .if_icmp .ne 7) (len := 3) (a := 0) (b := 0) (c := 0) (p := 0) rfl
theorem zg_110_127 : Zgo d 110 127 L st S Q ↔ (Zgo d 110 128 L (zi 2 :: st) S Q) := Zgo_iff (i := .iconst 2) (len := 1) (a := 0) (b := 0) (c := 0) (p := 0) rfl
theorem zg_110_128 : Zgo d 110 128 L st S Q ↔ (Zgo d 110 132 L st S Q) := Zgo_iff (i := .goto 4) (len := 3) (a := 0) (b := 0) (c := 0) (p := 0) rfl
theorem zg_110_131 : Zgo d 110 131 L st S Q ↔ (Zgo d 110 132 L (zi 0 :: st) S Q) := Zgo_iff (i := .iconst 0) (len := 1) (a := 0) (b := 0) (c := 0) (p := 0) rfl
theorem zg_110_132 : Zgo d 110 132 L st S Q ↔ (zpi st False fun v t => zpa t False fun r t => zde r 11 False fun o => Zgo d 110 135 L t (zsI S.1 11 o 36 v, S.2) Q) := Zgo_iff (i := .putfield 88) (len := 3) (a := 11) (b := 36) (c := 0) (p := 4166) rfl
theorem zg_110_135 : Zgo d 110 135 L st S Q ↔ (zlda L 0 False fun r => Zgo d 110 136 L (zq r :: st) S Q) := Zgo_iff (i := .aload_n 0) (len := 1) (a := 0) (b := 0) (c := 0) (p := 0) rfl
theorem zg_110_136 : Zgo d 110 136 L st S Q ↔ (zlda L 0 False fun r => Zgo d 110 137 L (zq r :: st) S Q) := Zgo_iff (i := .aload_n 0) (len := 1) (a := 0) (b := 0) (c := 0) (p := 0) rfl
theorem zg_110_137 : Zgo d 110 137 L st S Q ↔ (zpa st False fun r t => zde r 11 False fun o => Zgo d 110 140 L (zi (S.1 11 o 51) :: t) S Q) := Zgo_iff (i := .getfield 250) (len := 3) (a := 11) (b := 51) (c := 0) (p := 4181) rfl
theorem zg_110_140 : Zgo d 110 140 L st S Q ↔ (zpi st False fun v t => zpa t False fun r t => zde r 11 False fun o => Zgo d 110 143 L t (zsI S.1 11 o 39 v, S.2) Q) := Zgo_iff (i := .putfield 295) (len := 3) (a := 11) (b := 39) (c := 0) (p := 4169) rfl
theorem zg_110_143 : Zgo d 110 143 L st S Q ↔ (zlda L 0 False fun r => Zgo d 110 144 L (zq r :: st) S Q) := Zgo_iff (i := .aload_n 0) (len := 1) (a := 0) (b := 0) (c := 0) (p := 0) rfl
theorem zg_110_144 : Zgo d 110 144 L st S Q ↔ (zlda L 0 False fun r => Zgo d 110 145 L (zq r :: st) S Q) := Zgo_iff (i := .aload_n 0) (len := 1) (a := 0) (b := 0) (c := 0) (p := 0) rfl
theorem zg_110_145 : Zgo d 110 145 L st S Q ↔ (zpa st False fun r t => zde r 11 False fun o => Zgo d 110 148 L (zi (S.1 11 o 52) :: t) S Q) := Zgo_iff (i := .getfield 253) (len := 3) (a := 11) (b := 52) (c := 0) (p := 4182) rfl
theorem zg_110_148 : Zgo d 110 148 L st S Q ↔ (zpi st False fun v t => zpa t False fun r t => zde r 11 False fun o => Zgo d 110 151 L t (zsI S.1 11 o 40 v, S.2) Q) := Zgo_iff (i := .putfield 298) (len := 3) (a := 11) (b := 40) (c := 0) (p := 4170) rfl
theorem zg_110_151 : Zgo d 110 151 L st S Q ↔ (zlda L 0 False fun r => Zgo d 110 152 L (zq r :: st) S Q) := Zgo_iff (i := .aload_n 0) (len := 1) (a := 0) (b := 0) (c := 0) (p := 0) rfl
theorem zg_110_152 : Zgo d 110 152 L st S Q ↔ (zpa st False fun r t => zde r 11 False fun o => Zgo d 110 155 L (zi (S.1 11 o 36) :: t) S Q) := Zgo_iff (i := .getfield 88) (len := 3) (a := 11) (b := 36) (c := 0) (p := 4166) rfl
theorem zg_110_155 : Zgo d 110 155 L st S Q ↔ (zpi st False fun x t => zem t False (Q (some (zi x)) S)) := Zgo_iff (i := .ireturn) (len := 1) (a := 0) (b := 0) (c := 0) (p := 0) rfl
/-- LeavingMachineModel.go(III)V -/
theorem zg_111_0 : Zgo d 111 0 L st S Q ↔ (zlda L 0 False fun r => Zgo d 111 1 L (zq r :: st) S Q) := Zgo_iff (i := .aload_n 0) (len := 1) (a := 0) (b := 0) (c := 0) (p := 0) rfl
theorem zg_111_1 : Zgo d 111 1 L st S Q ↔ (zldi L 1 False fun x => Zgo d 111 2 L (zi x :: st) S Q) := Zgo_iff (i := .iload_n 1) (len := 1) (a := 0) (b := 0) (c := 0) (p := 0) rfl
theorem zg_111_2 : Zgo d 111 2 L st S Q ↔ (zpi st False fun v t => zpa t False fun r t => zde r 11 False fun o => Zgo d 111 5 L t (zsI S.1 11 o 50 v, S.2) Q) := Zgo_iff (i := .putfield 247) (len := 3) (a := 11) (b := 50) (c := 0) (p := 4180) rfl
theorem zg_111_5 : Zgo d 111 5 L st S Q ↔ (zlda L 0 False fun r => Zgo d 111 6 L (zq r :: st) S Q) := Zgo_iff (i := .aload_n 0) (len := 1) (a := 0) (b := 0) (c := 0) (p := 0) rfl
theorem zg_111_6 : Zgo d 111 6 L st S Q ↔ (zldi L 2 False fun x => Zgo d 111 7 L (zi x :: st) S Q) := Zgo_iff (i := .iload_n 2) (len := 1) (a := 0) (b := 0) (c := 0) (p := 0) rfl
theorem zg_111_7 : Zgo d 111 7 L st S Q ↔ (zpi st False fun v t => zpa t False fun r t => zde r 11 False fun o => Zgo d 111 10 L t (zsI S.1 11 o 51 v, S.2) Q) := Zgo_iff (i := .putfield 250) (len := 3) (a := 11) (b := 51) (c := 0) (p := 4181) rfl
theorem zg_111_10 : Zgo d 111 10 L st S Q ↔ (zlda L 0 False fun r => Zgo d 111 11 L (zq r :: st) S Q) := Zgo_iff (i := .aload_n 0) (len := 1) (a := 0) (b := 0) (c := 0) (p := 0) rfl
theorem zg_111_11 : Zgo d 111 11 L st S Q ↔ (zldi L 3 False fun x => Zgo d 111 12 L (zi x :: st) S Q) := Zgo_iff (i := .iload_n 3) (len := 1) (a := 0) (b := 0) (c := 0) (p := 0) rfl
theorem zg_111_12 : Zgo d 111 12 L st S Q ↔ (zpi st False fun v t => zpa t False fun r t => zde r 11 False fun o => Zgo d 111 15 L t (zsI S.1 11 o 52 v, S.2) Q) := Zgo_iff (i := .putfield 253) (len := 3) (a := 11) (b := 52) (c := 0) (p := 4182) rfl
theorem zg_111_15 : Zgo d 111 15 L st S Q ↔ (zem st False (Q none S)) := Zgo_iff (i := .return_) (len := 1) (a := 0) (b := 0) (c := 0) (p := 0) rfl
/-- LeavingMachineModel.enter(I)V -/
theorem zg_112_0 : Zgo d 112 0 L st S Q ↔ (zlda L 0 False fun r => Zgo d 112 1 L (zq r :: st) S Q) := Zgo_iff (i := .aload_n 0) (len := 1) (a := 0) (b := 0) (c := 0) (p := 0) rfl
theorem zg_112_1 : Zgo d 112 1 L st S Q ↔ (Zgo d 112 2 L (zi 0 :: st) S Q) := Zgo_iff (i := .iconst 0) (len := 1) (a := 0) (b := 0) (c := 0) (p := 0) rfl
theorem zg_112_2 : Zgo d 112 2 L st S Q ↔ (zlda L 0 False fun r => Zgo d 112 3 L (zq r :: st) S Q) := Zgo_iff (i := .aload_n 0) (len := 1) (a := 0) (b := 0) (c := 0) (p := 0) rfl
theorem zg_112_3 : Zgo d 112 3 L st S Q ↔ (zpa st False fun r t => zde r 11 False fun o => Zgo d 112 6 L (zq (S.2.1 11 o 23) :: t) S Q) := Zgo_iff (i := .getfield 55) (len := 3) (a := 11) (b := 23) (c := 3) (p := 4153) rfl
theorem zg_112_6 : Zgo d 112 6 L st S Q ↔ (zldi L 1 False fun x => Zgo d 112 7 L (zi x :: st) S Q) := Zgo_iff (i := .iload_n 1) (len := 1) (a := 0) (b := 0) (c := 0) (p := 0) rfl
theorem zg_112_7 : Zgo d 112 7 L st S Q ↔ (zpi st False fun j t => zpa t False fun r t => znn r False fun q o => zop (zlen S q) False fun n => if n.1 = 0 then zix j n.2 False fun x => Zgo d 112 8 L (zi (S.1 q o x) :: t) S Q else False) := Zgo_iff (i := .iaload) (len := 1) (a := 0) (b := 0) (c := 0) (p := 0) rfl
theorem zg_112_8 : Zgo d 112 8 L st S Q ↔ (zinv 3 st False fun as t => zrec as 11 False (zCp d 113 as S fun r S2 => Zgo d 112 11 L (r.toList ++ t) S2 Q)) := Zgo_iff (i := .invokevirtual 259) (len := 3) (a := 113) (b := 3) (c := 0) (p := 5185) rfl
theorem zg_112_11 : Zgo d 112 11 L st S Q ↔ (zem st False (Q none S)) := Zgo_iff (i := .return_) (len := 1) (a := 0) (b := 0) (c := 0) (p := 0) rfl
/-- LeavingMachineModel.push(II)V -/
theorem zg_113_0 : Zgo d 113 0 L st S Q ↔ (zlda L 0 False fun r => Zgo d 113 1 L (zq r :: st) S Q) := Zgo_iff (i := .aload_n 0) (len := 1) (a := 0) (b := 0) (c := 0) (p := 0) rfl
theorem zg_113_1 : Zgo d 113 1 L st S Q ↔ (zpa st False fun r t => zde r 11 False fun o => Zgo d 113 4 L (zq (S.2.1 11 o 42) :: t) S Q) := Zgo_iff (i := .getfield 92) (len := 3) (a := 11) (b := 42) (c := 3) (p := 4172) rfl
theorem zg_113_4 : Zgo d 113 4 L st S Q ↔ (zlda L 0 False fun r => Zgo d 113 5 L (zq r :: st) S Q) := Zgo_iff (i := .aload_n 0) (len := 1) (a := 0) (b := 0) (c := 0) (p := 0) rfl
theorem zg_113_5 : Zgo d 113 5 L st S Q ↔ (zpa st False fun r t => zde r 11 False fun o => Zgo d 113 8 L (zi (S.1 11 o 41) :: t) S Q) := Zgo_iff (i := .getfield 256) (len := 3) (a := 11) (b := 41) (c := 0) (p := 4171) rfl
theorem zg_113_8 : Zgo d 113 8 L st S Q ↔ (zldi L 1 False fun x => Zgo d 113 9 L (zi x :: st) S Q) := Zgo_iff (i := .iload_n 1) (len := 1) (a := 0) (b := 0) (c := 0) (p := 0) rfl
theorem zg_113_9 : Zgo d 113 9 L st S Q ↔ (zpi st False fun v t => zpi t False fun j t => zpa t False fun r t => znn r False fun q o => zop (zArr q) False fun n => if n.1 = 0 then zix j n.2 False fun x => Zgo d 113 10 L t (zsI S.1 q o x v, S.2) Q else False) := Zgo_iff (i := .iastore) (len := 1) (a := 0) (b := 0) (c := 0) (p := 0) rfl
theorem zg_113_10 : Zgo d 113 10 L st S Q ↔ (zlda L 0 False fun r => Zgo d 113 11 L (zq r :: st) S Q) := Zgo_iff (i := .aload_n 0) (len := 1) (a := 0) (b := 0) (c := 0) (p := 0) rfl
theorem zg_113_11 : Zgo d 113 11 L st S Q ↔ (zpa st False fun r t => zde r 11 False fun o => Zgo d 113 14 L (zq (S.2.1 11 o 43) :: t) S Q) := Zgo_iff (i := .getfield 95) (len := 3) (a := 11) (b := 43) (c := 3) (p := 4173) rfl
theorem zg_113_14 : Zgo d 113 14 L st S Q ↔ (zlda L 0 False fun r => Zgo d 113 15 L (zq r :: st) S Q) := Zgo_iff (i := .aload_n 0) (len := 1) (a := 0) (b := 0) (c := 0) (p := 0) rfl
theorem zg_113_15 : Zgo d 113 15 L st S Q ↔ (zpa st False fun r t => zde r 11 False fun o => Zgo d 113 18 L (zi (S.1 11 o 41) :: t) S Q) := Zgo_iff (i := .getfield 256) (len := 3) (a := 11) (b := 41) (c := 0) (p := 4171) rfl
theorem zg_113_18 : Zgo d 113 18 L st S Q ↔ (zldi L 2 False fun x => Zgo d 113 19 L (zi x :: st) S Q) := Zgo_iff (i := .iload_n 2) (len := 1) (a := 0) (b := 0) (c := 0) (p := 0) rfl
theorem zg_113_19 : Zgo d 113 19 L st S Q ↔ (zpi st False fun v t => zpi t False fun j t => zpa t False fun r t => znn r False fun q o => zop (zArr q) False fun n => if n.1 = 0 then zix j n.2 False fun x => Zgo d 113 20 L t (zsI S.1 q o x v, S.2) Q else False) := Zgo_iff (i := .iastore) (len := 1) (a := 0) (b := 0) (c := 0) (p := 0) rfl
theorem zg_113_20 : Zgo d 113 20 L st S Q ↔ (zlda L 0 False fun r => Zgo d 113 21 L (zq r :: st) S Q) := Zgo_iff (i := .aload_n 0) (len := 1) (a := 0) (b := 0) (c := 0) (p := 0) rfl
theorem zg_113_21 : Zgo d 113 21 L st S Q ↔ (zpa st False fun r t => zde r 11 False fun o => Zgo d 113 24 L (zq (S.2.1 11 o 44) :: t) S Q) := Zgo_iff (i := .getfield 98) (len := 3) (a := 11) (b := 44) (c := 3) (p := 4174) rfl
theorem zg_113_24 : Zgo d 113 24 L st S Q ↔ (zlda L 0 False fun r => Zgo d 113 25 L (zq r :: st) S Q) := Zgo_iff (i := .aload_n 0) (len := 1) (a := 0) (b := 0) (c := 0) (p := 0) rfl
theorem zg_113_25 : Zgo d 113 25 L st S Q ↔ (zpa st False fun r t => zde r 11 False fun o => Zgo d 113 28 L (zi (S.1 11 o 41) :: t) S Q) := Zgo_iff (i := .getfield 256) (len := 3) (a := 11) (b := 41) (c := 0) (p := 4171) rfl
theorem zg_113_28 : Zgo d 113 28 L st S Q ↔ (Zgo d 113 29 L (zi 0 :: st) S Q) := Zgo_iff (i := .iconst 0) (len := 1) (a := 0) (b := 0) (c := 0) (p := 0) rfl
theorem zg_113_29 : Zgo d 113 29 L st S Q ↔ (zpi st False fun v t => zpi t False fun j t => zpa t False fun r t => znn r False fun q o => zop (zArr q) False fun n => if n.1 = 0 then zix j n.2 False fun x => Zgo d 113 30 L t (zsI S.1 q o x v, S.2) Q else False) := Zgo_iff (i := .iastore) (len := 1) (a := 0) (b := 0) (c := 0) (p := 0) rfl
theorem zg_113_30 : Zgo d 113 30 L st S Q ↔ (zlda L 0 False fun r => Zgo d 113 31 L (zq r :: st) S Q) := Zgo_iff (i := .aload_n 0) (len := 1) (a := 0) (b := 0) (c := 0) (p := 0) rfl
theorem zg_113_31 : Zgo d 113 31 L st S Q ↔ (zp1 st False fun v t => Zgo d 113 32 L (v :: v :: t) S Q) := Zgo_iff (i := .dup) (len := 1) (a := 0) (b := 0) (c := 0) (p := 0) rfl
theorem zg_113_32 : Zgo d 113 32 L st S Q ↔ (zpa st False fun r t => zde r 11 False fun o => Zgo d 113 35 L (zi (S.1 11 o 41) :: t) S Q) := Zgo_iff (i := .getfield 256) (len := 3) (a := 11) (b := 41) (c := 0) (p := 4171) rfl
theorem zg_113_35 : Zgo d 113 35 L st S Q ↔ (Zgo d 113 36 L (zi 1 :: st) S Q) := Zgo_iff (i := .iconst 1) (len := 1) (a := 0) (b := 0) (c := 0) (p := 0) rfl
theorem zg_113_36 : Zgo d 113 36 L st S Q ↔ (zpi st False fun y t => zpi t False fun x t => Zgo d 113 37 L (zi (x + y) :: t) S Q) := Zgo_iff (i := .iadd) (len := 1) (a := 0) (b := 0) (c := 0) (p := 0) rfl
theorem zg_113_37 : Zgo d 113 37 L st S Q ↔ (zpi st False fun v t => zpa t False fun r t => zde r 11 False fun o => Zgo d 113 40 L t (zsI S.1 11 o 41 v, S.2) Q) := Zgo_iff (i := .putfield 256) (len := 3) (a := 11) (b := 41) (c := 0) (p := 4171) rfl
theorem zg_113_40 : Zgo d 113 40 L st S Q ↔ (zem st False (Q none S)) := Zgo_iff (i := .return_) (len := 1) (a := 0) (b := 0) (c := 0) (p := 0) rfl
/-- LeavingMachineModel.goOn(I)Z -/
theorem zg_114_0 : Zgo d 114 0 L st S Q ↔ (zlda L 0 False fun r => Zgo d 114 1 L (zq r :: st) S Q) := Zgo_iff (i := .aload_n 0) (len := 1) (a := 0) (b := 0) (c := 0) (p := 0) rfl
theorem zg_114_1 : Zgo d 114 1 L st S Q ↔ (zpa st False fun r t => zde r 11 False fun o => Zgo d 114 4 L (zi (S.1 11 o 41) :: t) S Q) := Zgo_iff (i := .getfield 256) (len := 3) (a := 11) (b := 41) (c := 0) (p := 4171) rfl
theorem zg_114_4 : Zgo d 114 4 L st S Q ↔ (Zgo d 114 5 L (zi 1 :: st) S Q) := Zgo_iff (i := .iconst 1) (len := 1) (a := 0) (b := 0) (c := 0) (p := 0) rfl
theorem zg_114_5 : Zgo d 114 5 L st S Q ↔ (zpi st False fun y t => zpi t False fun x t => Zgo d 114 6 L (zi (x - y) :: t) S Q) := Zgo_iff (i := .isub) (len := 1) (a := 0) (b := 0) (c := 0) (p := 0) rfl
theorem zg_114_6 : Zgo d 114 6 L st S Q ↔ (zpi st False fun x t => Zgo d 114 7 (zst L 2 (some (zi x))) t S Q) := Zgo_iff (i := .istore_n 2) (len := 1) (a := 0) (b := 0) (c := 0) (p := 0) rfl
theorem zg_114_7 : Zgo d 114 7 L st S Q ↔ (zlda L 0 False fun r => Zgo d 114 8 L (zq r :: st) S Q) := Zgo_iff (i := .aload_n 0) (len := 1) (a := 0) (b := 0) (c := 0) (p := 0) rfl
theorem zg_114_8 : Zgo d 114 8 L st S Q ↔ (zpa st False fun r t => zde r 11 False fun o => Zgo d 114 11 L (zq (S.2.1 11 o 43) :: t) S Q) := Zgo_iff (i := .getfield 95) (len := 3) (a := 11) (b := 43) (c := 3) (p := 4173) rfl
theorem zg_114_11 : Zgo d 114 11 L st S Q ↔ (zldi L 2 False fun x => Zgo d 114 12 L (zi x :: st) S Q) := Zgo_iff (i := .iload_n 2) (len := 1) (a := 0) (b := 0) (c := 0) (p := 0) rfl
theorem zg_114_12 : Zgo d 114 12 L st S Q ↔ (zpi st False fun j t => zpa t False fun r t => znn r False fun q o => zop (zlen S q) False fun n => if n.1 = 0 then zix j n.2 False fun x => Zgo d 114 13 L (zi (S.1 q o x) :: t) S Q else False) := Zgo_iff (i := .iaload) (len := 1) (a := 0) (b := 0) (c := 0) (p := 0) rfl
theorem zg_114_13 : Zgo d 114 13 L st S Q ↔ (zpi st False fun x t => Zgo d 114 14 (zst L 3 (some (zi x))) t S Q) := Zgo_iff (i := .istore_n 3) (len := 1) (a := 0) (b := 0) (c := 0) (p := 0) rfl
theorem zg_114_14 : Zgo d 114 14 L st S Q ↔ (zlda L 0 False fun r => Zgo d 114 15 L (zq r :: st) S Q) := Zgo_iff (i := .aload_n 0) (len := 1) (a := 0) (b := 0) (c := 0) (p := 0) rfl
theorem zg_114_15 : Zgo d 114 15 L st S Q ↔ (zpa st False fun r t => zde r 11 False fun o => Zgo d 114 18 L (zq (S.2.1 11 o 42) :: t) S Q) := Zgo_iff (i := .getfield 92) (len := 3) (a := 11) (b := 42) (c := 3) (p := 4172) rfl
theorem zg_114_18 : Zgo d 114 18 L st S Q ↔ (zldi L 2 False fun x => Zgo d 114 19 L (zi x :: st) S Q) := Zgo_iff (i := .iload_n 2) (len := 1) (a := 0) (b := 0) (c := 0) (p := 0) rfl
theorem zg_114_19 : Zgo d 114 19 L st S Q ↔ (zpi st False fun j t => zpa t False fun r t => znn r False fun q o => zop (zlen S q) False fun n => if n.1 = 0 then zix j n.2 False fun x => Zgo d 114 20 L (zi (S.1 q o x) :: t) S Q else False) := Zgo_iff (i := .iaload) (len := 1) (a := 0) (b := 0) (c := 0) (p := 0) rfl
theorem zg_114_20 : Zgo d 114 20 L st S Q ↔ (zpi st False fun x t => if zw x = zw 0 then Zgo d 114 23 L t S Q else Zgo d 114 69 L t S Q) := Zgo_iff (i := .ifCond .ne 49) (len := 3) (a := 0) (b := 0) (c := 0) (p := 0) rfl
theorem zg_114_23 : Zgo d 114 23 L st S Q ↔ (zldi L 3 False fun x => Zgo d 114 24 L (zi x :: st) S Q) := Zgo_iff (i := .iload_n 3) (len := 1) (a := 0) (b := 0) (c := 0) (p := 0) rfl
theorem zg_114_24 : Zgo d 114 24 L st S Q ↔ (zpi st False fun x t => if zw x < zw 0 then Zgo d 114 27 L t S Q else Zgo d 114 39 L t S Q) := Zgo_iff (i := .ifCond .ge 15) (len := 3) (a := 0) (b := 0) (c := 0) (p := 0) rfl
theorem zg_114_27 : Zgo d 114 27 L st S Q ↔ (zlda L 0 False fun r => Zgo d 114 28 L (zq r :: st) S Q) := Zgo_iff (i := .aload_n 0) (len := 1) (a := 0) (b := 0) (c := 0) (p := 0) rfl
theorem zg_114_28 : Zgo d 114 28 L st S Q ↔ (zp1 st False fun v t => Zgo d 114 29 L (v :: v :: t) S Q) := Zgo_iff (i := .dup) (len := 1) (a := 0) (b := 0) (c := 0) (p := 0) rfl
theorem zg_114_29 : Zgo d 114 29 L st S Q ↔ (zpa st False fun r t => zde r 11 False fun o => Zgo d 114 32 L (zi (S.1 11 o 41) :: t) S Q) := Zgo_iff (i := .getfield 256) (len := 3) (a := 11) (b := 41) (c := 0) (p := 4171) rfl
theorem zg_114_32 : Zgo d 114 32 L st S Q ↔ (Zgo d 114 33 L (zi 1 :: st) S Q) := Zgo_iff (i := .iconst 1) (len := 1) (a := 0) (b := 0) (c := 0) (p := 0) rfl
theorem zg_114_33 : Zgo d 114 33 L st S Q ↔ (zpi st False fun y t => zpi t False fun x t => Zgo d 114 34 L (zi (x - y) :: t) S Q) := Zgo_iff (i := .isub) (len := 1) (a := 0) (b := 0) (c := 0) (p := 0) rfl
theorem zg_114_34 : Zgo d 114 34 L st S Q ↔ (zpi st False fun v t => zpa t False fun r t => zde r 11 False fun o => Zgo d 114 37 L t (zsI S.1 11 o 41 v, S.2) Q) := Zgo_iff (i := .putfield 256) (len := 3) (a := 11) (b := 41) (c := 0) (p := 4171) rfl
theorem zg_114_37 : Zgo d 114 37 L st S Q ↔ (Zgo d 114 38 L (zi 1 :: st) S Q) := Zgo_iff (i := .iconst 1) (len := 1) (a := 0) (b := 0) (c := 0) (p := 0) rfl
theorem zg_114_38 : Zgo d 114 38 L st S Q ↔ (zpi st False fun x t => zem t False (zok 1 x False (Q (some (zi x)) S))) := Zgo_iff (i := .ireturn) (len := 1) (a := 0) (b := 0) (c := 0) (p := 0) rfl
theorem zg_114_39 : Zgo d 114 39 L st S Q ↔ (zlda L 0 False fun r => Zgo d 114 40 L (zq r :: st) S Q) := Zgo_iff (i := .aload_n 0) (len := 1) (a := 0) (b := 0) (c := 0) (p := 0) rfl
theorem zg_114_40 : Zgo d 114 40 L st S Q ↔ (zldi L 1 False fun x => Zgo d 114 41 L (zi x :: st) S Q) := Zgo_iff (i := .iload_n 1) (len := 1) (a := 0) (b := 0) (c := 0) (p := 0) rfl
theorem zg_114_41 : Zgo d 114 41 L st S Q ↔ (zinv 2 st False fun as t => zrec as 11 False (zCp d 115 as S fun r S2 => Zgo d 114 44 L (r.toList ++ t) S2 Q)) := Zgo_iff (i := .invokevirtual 277) (len := 3) (a := 115) (b := 2) (c := 0) (p := 5193) rfl
theorem zg_114_44 : Zgo d 114 44 L st S Q ↔ (zpi st False fun x t => if zw x = zw 0 then Zgo d 114 47 L t S Q else Zgo d 114 49 L t S Q) := Zgo_iff (i := .ifCond .ne 5) (len := 3) (a := 0) (b := 0) (c := 0) (p := 0) rfl
theorem zg_114_47 : Zgo d 114 47 L st S Q ↔ (Zgo d 114 48 L (zi 0 :: st) S Q) := Zgo_iff (i := .iconst 0) (len := 1) (a := 0) (b := 0) (c := 0) (p := 0) rfl
theorem zg_114_48 : Zgo d 114 48 L st S Q ↔ (zpi st False fun x t => zem t False (zok 1 x False (Q (some (zi x)) S))) := Zgo_iff (i := .ireturn) (len := 1) (a := 0) (b := 0) (c := 0) (p := 0) rfl
theorem zg_114_49 : Zgo d 114 49 L st S Q ↔ (zlda L 0 False fun r => Zgo d 114 50 L (zq r :: st) S Q) := Zgo_iff (i := .aload_n 0) (len := 1) (a := 0) (b := 0) (c := 0) (p := 0) rfl
theorem zg_114_50 : Zgo d 114 50 L st S Q ↔ (zpa st False fun r t => zde r 11 False fun o => Zgo d 114 53 L (zq (S.2.1 11 o 43) :: t) S Q) := Zgo_iff (i := .getfield 95) (len := 3) (a := 11) (b := 43) (c := 3) (p := 4173) rfl
theorem zg_114_53 : Zgo d 114 53 L st S Q ↔ (zldi L 2 False fun x => Zgo d 114 54 L (zi x :: st) S Q) := Zgo_iff (i := .iload_n 2) (len := 1) (a := 0) (b := 0) (c := 0) (p := 0) rfl
theorem zg_114_54 : Zgo d 114 54 L st S Q ↔ (zlda L 0 False fun r => Zgo d 114 55 L (zq r :: st) S Q) := Zgo_iff (i := .aload_n 0) (len := 1) (a := 0) (b := 0) (c := 0) (p := 0) rfl
theorem zg_114_55 : Zgo d 114 55 L st S Q ↔ (zpa st False fun r t => zde r 11 False fun o => Zgo d 114 58 L (zq (S.2.1 11 o 20) :: t) S Q) := Zgo_iff (i := .getfield 49) (len := 3) (a := 11) (b := 20) (c := 3) (p := 4150) rfl
theorem zg_114_58 : Zgo d 114 58 L st S Q ↔ (zldi L 3 False fun x => Zgo d 114 59 L (zi x :: st) S Q) := Zgo_iff (i := .iload_n 3) (len := 1) (a := 0) (b := 0) (c := 0) (p := 0) rfl
theorem zg_114_59 : Zgo d 114 59 L st S Q ↔ (zpi st False fun j t => zpa t False fun r t => znn r False fun q o => zop (zlen S q) False fun n => if n.1 = 0 then zix j n.2 False fun x => Zgo d 114 60 L (zi (S.1 q o x) :: t) S Q else False) := Zgo_iff (i := .iaload) (len := 1) (a := 0) (b := 0) (c := 0) (p := 0) rfl
theorem zg_114_60 : Zgo d 114 60 L st S Q ↔ (zpi st False fun v t => zpi t False fun j t => zpa t False fun r t => znn r False fun q o => zop (zArr q) False fun n => if n.1 = 0 then zix j n.2 False fun x => Zgo d 114 61 L t (zsI S.1 q o x v, S.2) Q else False) := Zgo_iff (i := .iastore) (len := 1) (a := 0) (b := 0) (c := 0) (p := 0) rfl
theorem zg_114_61 : Zgo d 114 61 L st S Q ↔ (zlda L 0 False fun r => Zgo d 114 62 L (zq r :: st) S Q) := Zgo_iff (i := .aload_n 0) (len := 1) (a := 0) (b := 0) (c := 0) (p := 0) rfl
theorem zg_114_62 : Zgo d 114 62 L st S Q ↔ (zldi L 3 False fun x => Zgo d 114 63 L (zi x :: st) S Q) := Zgo_iff (i := .iload_n 3) (len := 1) (a := 0) (b := 0) (c := 0) (p := 0) rfl
theorem zg_114_63 : Zgo d 114 63 L st S Q ↔ (zinv 2 st False fun as t => zrec as 11 False (zCp d 116 as S fun r S2 => Zgo d 114 66 L (r.toList ++ t) S2 Q)) := Zgo_iff (i := .invokevirtual 280) (len := 3) (a := 116) (b := 2) (c := 0) (p := 5197) rfl
theorem zg_114_66 : Zgo d 114 66 L st S Q ↔ (Zgo d 114 220 L st S Q) := Zgo_iff (i := .goto 154) (len := 3) (a := 0) (b := 0) (c := 0) (p := 0) rfl
theorem zg_114_69 : Zgo d 114 69 L st S Q ↔ (zlda L 0 False fun r => Zgo d 114 70 L (zq r :: st) S Q) := Zgo_iff (i := .aload_n 0) (len := 1) (a := 0) (b := 0) (c := 0) (p := 0) rfl
theorem zg_114_70 : Zgo d 114 70 L st S Q ↔ (zpa st False fun r t => zde r 11 False fun o => Zgo d 114 73 L (zq (S.2.1 11 o 42) :: t) S Q) := Zgo_iff (i := .getfield 92) (len := 3) (a := 11) (b := 42) (c := 3) (p := 4172) rfl
theorem zg_114_73 : Zgo d 114 73 L st S Q ↔ (zldi L 2 False fun x => Zgo d 114 74 L (zi x :: st) S Q) := Zgo_iff (i := .iload_n 2) (len := 1) (a := 0) (b := 0) (c := 0) (p := 0) rfl
theorem zg_114_74 : Zgo d 114 74 L st S Q ↔ (zpi st False fun j t => zpa t False fun r t => znn r False fun q o => zop (zlen S q) False fun n => if n.1 = 0 then zix j n.2 False fun x => Zgo d 114 75 L (zi (S.1 q o x) :: t) S Q else False) := Zgo_iff (i := .iaload) (len := 1) (a := 0) (b := 0) (c := 0) (p := 0) rfl
theorem zg_114_75 : Zgo d 114 75 L st S Q ↔ (Zgo d 114 76 L (zi 1 :: st) S Q) := Zgo_iff (i := .iconst 1) (len := 1) (a := 0) (b := 0) (c := 0) (p := 0) rfl
theorem zg_114_76 : Zgo d 114 76 L st S Q ↔ (zpi st False fun y t => zpi t False fun x t => if zw x = zw y then Zgo d 114 79 L t S Q else Zgo d 114 137 L t S Q) := Zgo_iff (i := .if_icmp .ne 61) (len := 3) (a := 0) (b := 0) (c := 0) (p := 0) rfl
theorem zg_114_79 : Zgo d 114 79 L st S Q ↔ (zlda L 0 False fun r => Zgo d 114 80 L (zq r :: st) S Q) := Zgo_iff (i := .aload_n 0) (len := 1) (a := 0) (b := 0) (c := 0) (p := 0) rfl
theorem zg_114_80 : Zgo d 114 80 L st S Q ↔ (zldi L 1 False fun x => Zgo d 114 81 L (zi x :: st) S Q) := Zgo_iff (i := .iload_n 1) (len := 1) (a := 0) (b := 0) (c := 0) (p := 0) rfl
theorem zg_114_81 : Zgo d 114 81 L st S Q ↔ (zinv 2 st False fun as t => zrec as 11 False (zCp d 115 as S fun r S2 => Zgo d 114 84 L (r.toList ++ t) S2 Q)) := Zgo_iff (i := .invokevirtual 277) (len := 3) (a := 115) (b := 2) (c := 0) (p := 5193) rfl
theorem zg_114_84 : Zgo d 114 84 L st S Q ↔ (zpi st False fun x t => if zw x = zw 0 then Zgo d 114 87 L t S Q else Zgo d 114 89 L t S Q) := Zgo_iff (i := .ifCond .ne 5) (len := 3) (a := 0) (b := 0) (c := 0) (p := 0) rfl
theorem zg_114_87 : Zgo d 114 87 L st S Q ↔ (Zgo d 114 88 L (zi 0 :: st) S Q) := Zgo_iff (i := .iconst 0) (len := 1) (a := 0) (b := 0) (c := 0) (p := 0) rfl
theorem zg_114_88 : Zgo d 114 88 L st S Q ↔ (zpi st False fun x t => zem t False (zok 1 x False (Q (some (zi x)) S))) := Zgo_iff (i := .ireturn) (len := 1) (a := 0) (b := 0) (c := 0) (p := 0) rfl
theorem zg_114_89 : Zgo d 114 89 L st S Q ↔ (zlda L 0 False fun r => Zgo d 114 90 L (zq r :: st) S Q) := Zgo_iff (i := .aload_n 0) (len := 1) (a := 0) (b := 0) (c := 0) (p := 0) rfl
theorem zg_114_90 : Zgo d 114 90 L st S Q ↔ (zldi L 3 False fun x => Zgo d 114 91 L (zi x :: st) S Q) := Zgo_iff (i := .iload_n 3) (len := 1) (a := 0) (b := 0) (c := 0) (p := 0) rfl
theorem zg_114_91 : Zgo d 114 91 L st S Q ↔ (zinv 2 st False fun as t => zrec as 11 False (zCp d 117 as S fun r S2 => Zgo d 114 94 L (r.toList ++ t) S2 Q)) := Zgo_iff (i := .invokevirtual 268) (len := 3) (a := 117) (b := 2) (c := 0) (p := 5201) rfl
theorem zg_114_94 : Zgo d 114 94 L st S Q ↔ (zpi st False fun x t => Zgo d 114 96 (zst L 4 (some (zi x))) t S Q) := Zgo_iff (i := .istore 4) (len := 2) (a := 0) (b := 0) (c := 0) (p := 0) rfl
theorem zg_114_96 : Zgo d 114 96 L st S Q ↔ (zlda L 0 False fun r => Zgo d 114 97 L (zq r :: st) S Q) := Zgo_iff (i := .aload_n 0) (len := 1) (a := 0) (b := 0) (c := 0) (p := 0) rfl
theorem zg_114_97 : Zgo d 114 97 L st S Q ↔ (zpa st False fun r t => zde r 11 False fun o => Zgo d 114 100 L (zi (S.1 11 o 50) :: t) S Q) := Zgo_iff (i := .getfield 247) (len := 3) (a := 11) (b := 50) (c := 0) (p := 4180) rfl
theorem zg_114_100 : Zgo d 114 100 L st S Q ↔ (zpi st False fun x t => if zw x = zw 0 then Zgo d 114 103 L t S Q else Zgo d 114 108 L t S Q) := Zgo_iff (i := .ifCond .ne 8) (len := 3) (a := 0) (b := 0) (c := 0) (p := 0) rfl
theorem zg_114_103 : Zgo d 114 103 L st S Q ↔ (zldi L 4 False fun x => Zgo d 114 105 L (zi x :: st) S Q) := Zgo_iff (i := .iload 4) (len := 2) (a := 0) (b := 0) (c := 0) (p := 0) rfl
theorem zg_114_105 : Zgo d 114 105 L st S Q ↔ (zpi st False fun x t => if zw x = zw 0 then Zgo d 114 108 L t S Q else Zgo d 114 121 L t S Q) := Zgo_iff (i := .ifCond .ne 16) (len := 3) (a := 0) (b := 0) (c := 0) (p := 0) rfl
theorem zg_114_108 : Zgo d 114 108 L st S Q ↔ (zlda L 0 False fun r => Zgo d 114 109 L (zq r :: st) S Q) := Zgo_iff (i := .aload_n 0) (len := 1) (a := 0) (b := 0) (c := 0) (p := 0) rfl
theorem zg_114_109 : Zgo d 114 109 L st S Q ↔ (zp1 st False fun v t => Zgo d 114 110 L (v :: v :: t) S Q) := Zgo_iff (i := .dup) (len := 1) (a := 0) (b := 0) (c := 0) (p := 0) rfl
theorem zg_114_110 : Zgo d 114 110 L st S Q ↔ (zpa st False fun r t => zde r 11 False fun o => Zgo d 114 113 L (zi (S.1 11 o 41) :: t) S Q) := Zgo_iff (i := .getfield 256) (len := 3) (a := 11) (b := 41) (c := 0) (p := 4171) rfl
theorem zg_114_113 : Zgo d 114 113 L st S Q ↔ (Zgo d 114 114 L (zi 1 :: st) S Q) := Zgo_iff (i := .iconst 1) (len := 1) (a := 0) (b := 0) (c := 0) (p := 0) rfl
theorem zg_114_114 : Zgo d 114 114 L st S Q ↔ (zpi st False fun y t => zpi t False fun x t => Zgo d 114 115 L (zi (x - y) :: t) S Q) := Zgo_iff (i := .isub) (len := 1) (a := 0) (b := 0) (c := 0) (p := 0) rfl
theorem zg_114_115 : Zgo d 114 115 L st S Q ↔ (zpi st False fun v t => zpa t False fun r t => zde r 11 False fun o => Zgo d 114 118 L t (zsI S.1 11 o 41 v, S.2) Q) := Zgo_iff (i := .putfield 256) (len := 3) (a := 11) (b := 41) (c := 0) (p := 4171) rfl
theorem zg_114_118 : Zgo d 114 118 L st S Q ↔ (Zgo d 114 134 L st S Q) := Zgo_iff (i := .goto 16) (len := 3) (a := 0) (b := 0) (c := 0) (p := 0) rfl
theorem zg_114_121 : Zgo d 114 121 L st S Q ↔ (zlda L 0 False fun r => Zgo d 114 122 L (zq r :: st) S Q) := Zgo_iff (i := .aload_n 0) (len := 1) (a := 0) (b := 0) (c := 0) (p := 0) rfl
theorem zg_114_122 : Zgo d 114 122 L st S Q ↔ (zlda L 0 False fun r => Zgo d 114 123 L (zq r :: st) S Q) := Zgo_iff (i := .aload_n 0) (len := 1) (a := 0) (b := 0) (c := 0) (p := 0) rfl
theorem zg_114_123 : Zgo d 114 123 L st S Q ↔ (zpa st False fun r t => zde r 11 False fun o => Zgo d 114 126 L (zq (S.2.1 11 o 15) :: t) S Q) := Zgo_iff (i := .getfield 34) (len := 3) (a := 11) (b := 15) (c := 3) (p := 4145) rfl
theorem zg_114_126 : Zgo d 114 126 L st S Q ↔ (Zgo d 114 128 L (zi 6 :: st) S Q) := Zgo_iff (i := .bipush 6) (len := 2) (a := 0) (b := 0) (c := 0) (p := 0) rfl
theorem zg_114_128 : Zgo d 114 128 L st S Q ↔ (zldi L 3 False fun x => Zgo d 114 129 L (zi x :: st) S Q) := Zgo_iff (i := .iload_n 3) (len := 1) (a := 0) (b := 0) (c := 0) (p := 0) rfl
theorem zg_114_129 : Zgo d 114 129 L st S Q ↔ (zpi st False fun y t => zpi t False fun x t => Zgo d 114 130 L (zi (x * y) :: t) S Q) := Zgo_iff (i := .imul) (len := 1) (a := 0) (b := 0) (c := 0) (p := 0) rfl
theorem zg_114_130 : Zgo d 114 130 L st S Q ↔ (zpi st False fun j t => zpa t False fun r t => znn r False fun q o => zop (zlen S q) False fun n => if n.1 = 0 then zix j n.2 False fun x => Zgo d 114 131 L (zi (S.1 q o x) :: t) S Q else False) := Zgo_iff (i := .iaload) (len := 1) (a := 0) (b := 0) (c := 0) (p := 0) rfl
theorem zg_114_131 : Zgo d 114 131 L st S Q ↔ (zinv 2 st False fun as t => zrec as 11 False (zCp d 112 as S fun r S2 => Zgo d 114 134 L (r.toList ++ t) S2 Q)) := Zgo_iff (i := .invokevirtual 265) (len := 3) (a := 112) (b := 2) (c := 0) (p := 5181) rfl
theorem zg_114_134 : Zgo d 114 134 L st S Q ↔ (Zgo d 114 220 L st S Q) := Zgo_iff (i := .goto 86) (len := 3) (a := 0) (b := 0) (c := 0) (p := 0) rfl
theorem zg_114_137 : Zgo d 114 137 L st S Q ↔ (zlda L 0 False fun r => Zgo d 114 138 L (zq r :: st) S Q) := Zgo_iff (i := .aload_n 0) (len := 1) (a := 0) (b := 0) (c := 0) (p := 0) rfl
theorem zg_114_138 : Zgo d 114 138 L st S Q ↔ (zpa st False fun r t => zde r 11 False fun o => Zgo d 114 141 L (zq (S.2.1 11 o 42) :: t) S Q) := Zgo_iff (i := .getfield 92) (len := 3) (a := 11) (b := 42) (c := 3) (p := 4172) rfl
theorem zg_114_141 : Zgo d 114 141 L st S Q ↔ (zldi L 2 False fun x => Zgo d 114 142 L (zi x :: st) S Q) := Zgo_iff (i := .iload_n 2) (len := 1) (a := 0) (b := 0) (c := 0) (p := 0) rfl
theorem zg_114_142 : Zgo d 114 142 L st S Q ↔ (zpi st False fun j t => zpa t False fun r t => znn r False fun q o => zop (zlen S q) False fun n => if n.1 = 0 then zix j n.2 False fun x => Zgo d 114 143 L (zi (S.1 q o x) :: t) S Q else False) := Zgo_iff (i := .iaload) (len := 1) (a := 0) (b := 0) (c := 0) (p := 0) rfl
theorem zg_114_143 : Zgo d 114 143 L st S Q ↔ (Zgo d 114 144 L (zi 2 :: st) S Q) := Zgo_iff (i := .iconst 2) (len := 1) (a := 0) (b := 0) (c := 0) (p := 0) rfl
theorem zg_114_144 : Zgo d 114 144 L st S Q ↔ (zpi st False fun y t => zpi t False fun x t => if zw x = zw y then Zgo d 114 147 L t S Q else Zgo d 114 170 L t S Q) := Zgo_iff (i := .if_icmp .ne 26) (len := 3) (a := 0) (b := 0) (c := 0) (p := 0) rfl
theorem zg_114_147 : Zgo d 114 147 L st S Q ↔ (zlda L 0 False fun r => Zgo d 114 148 L (zq r :: st) S Q) := Zgo_iff (i := .aload_n 0) (len := 1) (a := 0) (b := 0) (c := 0) (p := 0) rfl
theorem zg_114_148 : Zgo d 114 148 L st S Q ↔ (zp1 st False fun v t => Zgo d 114 149 L (v :: v :: t) S Q) := Zgo_iff (i := .dup) (len := 1) (a := 0) (b := 0) (c := 0) (p := 0) rfl
theorem zg_114_149 : Zgo d 114 149 L st S Q ↔ (zpa st False fun r t => zde r 11 False fun o => Zgo d 114 152 L (zi (S.1 11 o 53) :: t) S Q) := Zgo_iff (i := .getfield 262) (len := 3) (a := 11) (b := 53) (c := 0) (p := 4183) rfl
theorem zg_114_152 : Zgo d 114 152 L st S Q ↔ (Zgo d 114 153 L (zi 1 :: st) S Q) := Zgo_iff (i := .iconst 1) (len := 1) (a := 0) (b := 0) (c := 0) (p := 0) rfl
theorem zg_114_153 : Zgo d 114 153 L st S Q ↔ (zpi st False fun y t => zpi t False fun x t => Zgo d 114 154 L (zi (x - y) :: t) S Q) := Zgo_iff (i := .isub) (len := 1) (a := 0) (b := 0) (c := 0) (p := 0) rfl
theorem zg_114_154 : Zgo d 114 154 L st S Q ↔ (zpi st False fun v t => zpa t False fun r t => zde r 11 False fun o => Zgo d 114 157 L t (zsI S.1 11 o 53 v, S.2) Q) := Zgo_iff (i := .putfield 262) (len := 3) (a := 11) (b := 53) (c := 0) (p := 4183) rfl
theorem zg_114_157 : Zgo d 114 157 L st S Q ↔ (zlda L 0 False fun r => Zgo d 114 158 L (zq r :: st) S Q) := Zgo_iff (i := .aload_n 0) (len := 1) (a := 0) (b := 0) (c := 0) (p := 0) rfl
theorem zg_114_158 : Zgo d 114 158 L st S Q ↔ (zp1 st False fun v t => Zgo d 114 159 L (v :: v :: t) S Q) := Zgo_iff (i := .dup) (len := 1) (a := 0) (b := 0) (c := 0) (p := 0) rfl
theorem zg_114_159 : Zgo d 114 159 L st S Q ↔ (zpa st False fun r t => zde r 11 False fun o => Zgo d 114 162 L (zi (S.1 11 o 41) :: t) S Q) := Zgo_iff (i := .getfield 256) (len := 3) (a := 11) (b := 41) (c := 0) (p := 4171) rfl
theorem zg_114_162 : Zgo d 114 162 L st S Q ↔ (Zgo d 114 163 L (zi 1 :: st) S Q) := Zgo_iff (i := .iconst 1) (len := 1) (a := 0) (b := 0) (c := 0) (p := 0) rfl
theorem zg_114_163 : Zgo d 114 163 L st S Q ↔ (zpi st False fun y t => zpi t False fun x t => Zgo d 114 164 L (zi (x - y) :: t) S Q) := Zgo_iff (i := .isub) (len := 1) (a := 0) (b := 0) (c := 0) (p := 0) rfl
theorem zg_114_164 : Zgo d 114 164 L st S Q ↔ (zpi st False fun v t => zpa t False fun r t => zde r 11 False fun o => Zgo d 114 167 L t (zsI S.1 11 o 41 v, S.2) Q) := Zgo_iff (i := .putfield 256) (len := 3) (a := 11) (b := 41) (c := 0) (p := 4171) rfl
theorem zg_114_167 : Zgo d 114 167 L st S Q ↔ (Zgo d 114 220 L st S Q) := Zgo_iff (i := .goto 53) (len := 3) (a := 0) (b := 0) (c := 0) (p := 0) rfl
theorem zg_114_170 : Zgo d 114 170 L st S Q ↔ (zlda L 0 False fun r => Zgo d 114 171 L (zq r :: st) S Q) := Zgo_iff (i := .aload_n 0) (len := 1) (a := 0) (b := 0) (c := 0) (p := 0) rfl
theorem zg_114_171 : Zgo d 114 171 L st S Q ↔ (zpa st False fun r t => zde r 11 False fun o => Zgo d 114 174 L (zq (S.2.1 11 o 44) :: t) S Q) := Zgo_iff (i := .getfield 98) (len := 3) (a := 11) (b := 44) (c := 3) (p := 4174) rfl
theorem zg_114_174 : Zgo d 114 174 L st S Q ↔ (zldi L 2 False fun x => Zgo d 114 175 L (zi x :: st) S Q) := Zgo_iff (i := .iload_n 2) (len := 1) (a := 0) (b := 0) (c := 0) (p := 0) rfl
theorem zg_114_175 : Zgo d 114 175 L st S Q ↔ (zpi st False fun j t => zpa t False fun r t => znn r False fun q o => zop (zlen S q) False fun n => if n.1 = 0 then zix j n.2 False fun x => Zgo d 114 176 L (zi (S.1 q o x) :: t) S Q else False) := Zgo_iff (i := .iaload) (len := 1) (a := 0) (b := 0) (c := 0) (p := 0) rfl
theorem zg_114_176 : Zgo d 114 176 L st S Q ↔ (Zgo d 114 177 L (zi 2 :: st) S Q) := Zgo_iff (i := .iconst 2) (len := 1) (a := 0) (b := 0) (c := 0) (p := 0) rfl
theorem zg_114_177 : Zgo d 114 177 L st S Q ↔ (zpi st False fun y t => zpi t False fun x t => if zw x < zw y then Zgo d 114 180 L t S Q else Zgo d 114 188 L t S Q) := Zgo_iff (i := .if_icmp .ge 11) (len := 3) (a := 0) (b := 0) (c := 0) (p := 0) rfl
theorem zg_114_180 : Zgo d 114 180 L st S Q ↔ (zlda L 0 False fun r => Zgo d 114 181 L (zq r :: st) S Q) := Zgo_iff (i := .aload_n 0) (len := 1) (a := 0) (b := 0) (c := 0) (p := 0) rfl
theorem zg_114_181 : Zgo d 114 181 L st S Q ↔ (zldi L 2 False fun x => Zgo d 114 182 L (zi x :: st) S Q) := Zgo_iff (i := .iload_n 2) (len := 1) (a := 0) (b := 0) (c := 0) (p := 0) rfl
theorem zg_114_182 : Zgo d 114 182 L st S Q ↔ (zinv 2 st False fun as t => zrec as 11 False (zCp d 120 as S fun r S2 => Zgo d 114 185 L (r.toList ++ t) S2 Q)) := Zgo_iff (i := .invokevirtual 283) (len := 3) (a := 120) (b := 2) (c := 0) (p := 5213) rfl
theorem zg_114_185 : Zgo d 114 185 L st S Q ↔ (Zgo d 114 220 L st S Q) := Zgo_iff (i := .goto 35) (len := 3) (a := 0) (b := 0) (c := 0) (p := 0) rfl
theorem zg_114_188 : Zgo d 114 188 L st S Q ↔ (zlda L 0 False fun r => Zgo d 114 189 L (zq r :: st) S Q) := Zgo_iff (i := .aload_n 0) (len := 1) (a := 0) (b := 0) (c := 0) (p := 0) rfl
theorem zg_114_189 : Zgo d 114 189 L st S Q ↔ (zp1 st False fun v t => Zgo d 114 190 L (v :: v :: t) S Q) := Zgo_iff (i := .dup) (len := 1) (a := 0) (b := 0) (c := 0) (p := 0) rfl
theorem zg_114_190 : Zgo d 114 190 L st S Q ↔ (zpa st False fun r t => zde r 11 False fun o => Zgo d 114 193 L (zi (S.1 11 o 41) :: t) S Q) := Zgo_iff (i := .getfield 256) (len := 3) (a := 11) (b := 41) (c := 0) (p := 4171) rfl
theorem zg_114_193 : Zgo d 114 193 L st S Q ↔ (Zgo d 114 194 L (zi 1 :: st) S Q) := Zgo_iff (i := .iconst 1) (len := 1) (a := 0) (b := 0) (c := 0) (p := 0) rfl
theorem zg_114_194 : Zgo d 114 194 L st S Q ↔ (zpi st False fun y t => zpi t False fun x t => Zgo d 114 195 L (zi (x - y) :: t) S Q) := Zgo_iff (i := .isub) (len := 1) (a := 0) (b := 0) (c := 0) (p := 0) rfl
theorem zg_114_195 : Zgo d 114 195 L st S Q ↔ (zpi st False fun v t => zpa t False fun r t => zde r 11 False fun o => Zgo d 114 198 L t (zsI S.1 11 o 41 v, S.2) Q) := Zgo_iff (i := .putfield 256) (len := 3) (a := 11) (b := 41) (c := 0) (p := 4171) rfl
theorem zg_114_198 : Zgo d 114 198 L st S Q ↔ (zlda L 0 False fun r => Zgo d 114 199 L (zq r :: st) S Q) := Zgo_iff (i := .aload_n 0) (len := 1) (a := 0) (b := 0) (c := 0) (p := 0) rfl
theorem zg_114_199 : Zgo d 114 199 L st S Q ↔ (zlda L 0 False fun r => Zgo d 114 200 L (zq r :: st) S Q) := Zgo_iff (i := .aload_n 0) (len := 1) (a := 0) (b := 0) (c := 0) (p := 0) rfl
theorem zg_114_200 : Zgo d 114 200 L st S Q ↔ (zpa st False fun r t => zde r 11 False fun o => Zgo d 114 203 L (zq (S.2.1 11 o 47) :: t) S Q) := Zgo_iff (i := .getfield 107) (len := 3) (a := 11) (b := 47) (c := 3) (p := 4177) rfl
theorem zg_114_203 : Zgo d 114 203 L st S Q ↔ (zldi L 2 False fun x => Zgo d 114 204 L (zi x :: st) S Q) := Zgo_iff (i := .iload_n 2) (len := 1) (a := 0) (b := 0) (c := 0) (p := 0) rfl
theorem zg_114_204 : Zgo d 114 204 L st S Q ↔ (zpi st False fun j t => zpa t False fun r t => znn r False fun q o => zop (zlen S q) False fun n => if n.1 = 0 then zix j n.2 False fun x => Zgo d 114 205 L (zi (S.1 q o x) :: t) S Q else False) := Zgo_iff (i := .iaload) (len := 1) (a := 0) (b := 0) (c := 0) (p := 0) rfl
theorem zg_114_205 : Zgo d 114 205 L st S Q ↔ (zlda L 0 False fun r => Zgo d 114 206 L (zq r :: st) S Q) := Zgo_iff (i := .aload_n 0) (len := 1) (a := 0) (b := 0) (c := 0) (p := 0) rfl
theorem zg_114_206 : Zgo d 114 206 L st S Q ↔ (zpa st False fun r t => zde r 11 False fun o => Zgo d 114 209 L (zq (S.2.1 11 o 48) :: t) S Q) := Zgo_iff (i := .getfield 110) (len := 3) (a := 11) (b := 48) (c := 3) (p := 4178) rfl
theorem zg_114_209 : Zgo d 114 209 L st S Q ↔ (zldi L 2 False fun x => Zgo d 114 210 L (zi x :: st) S Q) := Zgo_iff (i := .iload_n 2) (len := 1) (a := 0) (b := 0) (c := 0) (p := 0) rfl
theorem zg_114_210 : Zgo d 114 210 L st S Q ↔ (zpi st False fun j t => zpa t False fun r t => znn r False fun q o => zop (zlen S q) False fun n => if n.1 = 0 then zix j n.2 False fun x => Zgo d 114 211 L (zi (S.1 q o x) :: t) S Q else False) := Zgo_iff (i := .iaload) (len := 1) (a := 0) (b := 0) (c := 0) (p := 0) rfl
theorem zg_114_211 : Zgo d 114 211 L st S Q ↔ (zlda L 0 False fun r => Zgo d 114 212 L (zq r :: st) S Q) := Zgo_iff (i := .aload_n 0) (len := 1) (a := 0) (b := 0) (c := 0) (p := 0) rfl
theorem zg_114_212 : Zgo d 114 212 L st S Q ↔ (zpa st False fun r t => zde r 11 False fun o => Zgo d 114 215 L (zq (S.2.1 11 o 49) :: t) S Q) := Zgo_iff (i := .getfield 113) (len := 3) (a := 11) (b := 49) (c := 3) (p := 4179) rfl
theorem zg_114_215 : Zgo d 114 215 L st S Q ↔ (zldi L 2 False fun x => Zgo d 114 216 L (zi x :: st) S Q) := Zgo_iff (i := .iload_n 2) (len := 1) (a := 0) (b := 0) (c := 0) (p := 0) rfl
theorem zg_114_216 : Zgo d 114 216 L st S Q ↔ (zpi st False fun j t => zpa t False fun r t => znn r False fun q o => zop (zlen S q) False fun n => if n.1 = 0 then zix j n.2 False fun x => Zgo d 114 217 L (zi (S.1 q o x) :: t) S Q else False) := Zgo_iff (i := .iaload) (len := 1) (a := 0) (b := 0) (c := 0) (p := 0) rfl
theorem zg_114_217 : Zgo d 114 217 L st S Q ↔ (zinv 4 st False fun as t => zrec as 11 False (zCp d 111 as S fun r S2 => Zgo d 114 220 L (r.toList ++ t) S2 Q)) := Zgo_iff (i := .invokevirtual 243) (len := 3) (a := 111) (b := 4) (c := 0) (p := 5177) rfl
theorem zg_114_220 : Zgo d 114 220 L st S Q ↔ (Zgo d 114 221 L (zi 1 :: st) S Q) := Zgo_iff (i := .iconst 1) (len := 1) (a := 0) (b := 0) (c := 0) (p := 0) rfl
theorem zg_114_221 : Zgo d 114 221 L st S Q ↔ (zpi st False fun x t => zem t False (zok 1 x False (Q (some (zi x)) S))) := Zgo_iff (i := .ireturn) (len := 1) (a := 0) (b := 0) (c := 0) (p := 0) rfl
/-- LeavingMachineModel.pay(I)Z -/
theorem zg_115_0 : Zgo d 115 0 L st S Q ↔ (zlda L 0 False fun r => Zgo d 115 1 L (zq r :: st) S Q) := Zgo_iff (i := .aload_n 0) (len := 1) (a := 0) (b := 0) (c := 0) (p := 0) rfl
theorem zg_115_1 : Zgo d 115 1 L st S Q ↔ (zpa st False fun r t => zde r 11 False fun o => Zgo d 115 4 L (zi (S.1 11 o 37) :: t) S Q) := Zgo_iff (i := .getfield 222) (len := 3) (a := 11) (b := 37) (c := 0) (p := 4167) rfl
theorem zg_115_4 : Zgo d 115 4 L st S Q ↔ (zldi L 1 False fun x => Zgo d 115 5 L (zi x :: st) S Q) := Zgo_iff (i := .iload_n 1) (len := 1) (a := 0) (b := 0) (c := 0) (p := 0) rfl
theorem zg_115_5 : Zgo d 115 5 L st S Q ↔ (zpi st False fun y t => zpi t False fun x t => if zw x = zw y then Zgo d 115 8 L t S Q else Zgo d 115 10 L t S Q) := Zgo_iff (i := .if_icmp .ne 5) (len := 3) (a := 0) (b := 0) (c := 0) (p := 0) rfl
theorem zg_115_8 : Zgo d 115 8 L st S Q ↔ (Zgo d 115 9 L (zi 0 :: st) S Q) := Zgo_iff (i := .iconst 0) (len := 1) (a := 0) (b := 0) (c := 0) (p := 0) rfl
theorem zg_115_9 : Zgo d 115 9 L st S Q ↔ (zpi st False fun x t => zem t False (zok 1 x False (Q (some (zi x)) S))) := Zgo_iff (i := .ireturn) (len := 1) (a := 0) (b := 0) (c := 0) (p := 0) rfl
theorem zg_115_10 : Zgo d 115 10 L st S Q ↔ (zlda L 0 False fun r => Zgo d 115 11 L (zq r :: st) S Q) := Zgo_iff (i := .aload_n 0) (len := 1) (a := 0) (b := 0) (c := 0) (p := 0) rfl
theorem zg_115_11 : Zgo d 115 11 L st S Q ↔ (zp1 st False fun v t => Zgo d 115 12 L (v :: v :: t) S Q) := Zgo_iff (i := .dup) (len := 1) (a := 0) (b := 0) (c := 0) (p := 0) rfl
theorem zg_115_12 : Zgo d 115 12 L st S Q ↔ (zpa st False fun r t => zde r 11 False fun o => Zgo d 115 15 L (zi (S.1 11 o 37) :: t) S Q) := Zgo_iff (i := .getfield 222) (len := 3) (a := 11) (b := 37) (c := 0) (p := 4167) rfl
theorem zg_115_15 : Zgo d 115 15 L st S Q ↔ (Zgo d 115 16 L (zi 1 :: st) S Q) := Zgo_iff (i := .iconst 1) (len := 1) (a := 0) (b := 0) (c := 0) (p := 0) rfl
theorem zg_115_16 : Zgo d 115 16 L st S Q ↔ (zpi st False fun y t => zpi t False fun x t => Zgo d 115 17 L (zi (x + y) :: t) S Q) := Zgo_iff (i := .iadd) (len := 1) (a := 0) (b := 0) (c := 0) (p := 0) rfl
theorem zg_115_17 : Zgo d 115 17 L st S Q ↔ (zpi st False fun v t => zpa t False fun r t => zde r 11 False fun o => Zgo d 115 20 L t (zsI S.1 11 o 37 v, S.2) Q) := Zgo_iff (i := .putfield 222) (len := 3) (a := 11) (b := 37) (c := 0) (p := 4167) rfl
theorem zg_115_20 : Zgo d 115 20 L st S Q ↔ (Zgo d 115 21 L (zi 1 :: st) S Q) := Zgo_iff (i := .iconst 1) (len := 1) (a := 0) (b := 0) (c := 0) (p := 0) rfl
theorem zg_115_21 : Zgo d 115 21 L st S Q ↔ (zpi st False fun x t => zem t False (zok 1 x False (Q (some (zi x)) S))) := Zgo_iff (i := .ireturn) (len := 1) (a := 0) (b := 0) (c := 0) (p := 0) rfl
/-- LeavingMachineModel.execute(I)V -/
theorem zg_116_0 : Zgo d 116 0 L st S Q ↔ (zlda L 0 False fun r => Zgo d 116 1 L (zq r :: st) S Q) := Zgo_iff (i := .aload_n 0) (len := 1) (a := 0) (b := 0) (c := 0) (p := 0) rfl
theorem zg_116_1 : Zgo d 116 1 L st S Q ↔ (zpa st False fun r t => zde r 11 False fun o => Zgo d 116 4 L (zq (S.2.1 11 o 11) :: t) S Q) := Zgo_iff (i := .getfield 22) (len := 3) (a := 11) (b := 11) (c := 3) (p := 4141) rfl
theorem zg_116_4 : Zgo d 116 4 L st S Q ↔ (zldi L 1 False fun x => Zgo d 116 5 L (zi x :: st) S Q) := Zgo_iff (i := .iload_n 1) (len := 1) (a := 0) (b := 0) (c := 0) (p := 0) rfl
theorem zg_116_5 : Zgo d 116 5 L st S Q ↔ (zpi st False fun j t => zpa t False fun r t => znn r False fun q o => zop (zlen S q) False fun n => if n.1 = 0 then zix j n.2 False fun x => Zgo d 116 6 L (zi (S.1 q o x) :: t) S Q else False) := Zgo_iff (i := .iaload) (len := 1) (a := 0) (b := 0) (c := 0) (p := 0) rfl
theorem zg_116_6 : Zgo d 116 6 L st S Q ↔ (zpi st False fun x t => Zgo d 116 7 (zst L 2 (some (zi x))) t S Q) := Zgo_iff (i := .istore_n 2) (len := 1) (a := 0) (b := 0) (c := 0) (p := 0) rfl
theorem zg_116_7 : Zgo d 116 7 L st S Q ↔ (zldi L 2 False fun x => Zgo d 116 8 L (zi x :: st) S Q) := Zgo_iff (i := .iload_n 2) (len := 1) (a := 0) (b := 0) (c := 0) (p := 0) rfl
theorem zg_116_8 : Zgo d 116 8 L st S Q ↔ (Zgo d 116 10 L (zi 61 :: st) S Q) := Zgo_iff (i := .bipush 61) (len := 2) (a := 0) (b := 0) (c := 0) (p := 0) rfl
theorem zg_116_10 : Zgo d 116 10 L st S Q ↔ (zpi st False fun y t => zpi t False fun x t => if zw x = zw y then Zgo d 116 31 L t S Q else Zgo d 116 13 L t S Q) := Zgo_iff (i := .if_icmp .eq 21) (len := 3) (a := 0) (b := 0) (c := 0) (p := 0) rfl
theorem zg_116_13 : Zgo d 116 13 L st S Q ↔ (zldi L 2 False fun x => Zgo d 116 14 L (zi x :: st) S Q) := Zgo_iff (i := .iload_n 2) (len := 1) (a := 0) (b := 0) (c := 0) (p := 0) rfl
theorem zg_116_14 : Zgo d 116 14 L st S Q ↔ (Zgo d 116 16 L (zi 33 :: st) S Q) := Zgo_iff (i := .bipush 33) (len := 2) (a := 0) (b := 0) (c := 0) (p := 0) rfl
theorem zg_116_16 : Zgo d 116 16 L st S Q ↔ (zpi st False fun y t => zpi t False fun x t => if zw x = zw y then Zgo d 116 31 L t S Q else Zgo d 116 19 L t S Q) := Zgo_iff (i := .if_icmp .eq 15) (len := 3) (a := 0) (b := 0) (c := 0) (p := 0) rfl
theorem zg_116_19 : Zgo d 116 19 L st S Q ↔ (zldi L 2 False fun x => Zgo d 116 20 L (zi x :: st) S Q) := Zgo_iff (i := .iload_n 2) (len := 1) (a := 0) (b := 0) (c := 0) (p := 0) rfl
theorem zg_116_20 : Zgo d 116 20 L st S Q ↔ (Zgo d 116 22 L (zi 63 :: st) S Q) := Zgo_iff (i := .bipush 63) (len := 2) (a := 0) (b := 0) (c := 0) (p := 0) rfl
theorem zg_116_22 : Zgo d 116 22 L st S Q ↔ (zpi st False fun y t => zpi t False fun x t => if zw x = zw y then Zgo d 116 31 L t S Q else Zgo d 116 25 L t S Q) := Zgo_iff (i := .if_icmp .eq 9) (len := 3) (a := 0) (b := 0) (c := 0) (p := 0) rfl
theorem zg_116_25 : Zgo d 116 25 L st S Q ↔ (zldi L 2 False fun x => Zgo d 116 26 L (zi x :: st) S Q) := Zgo_iff (i := .iload_n 2) (len := 1) (a := 0) (b := 0) (c := 0) (p := 0) rfl
theorem zg_116_26 : Zgo d 116 26 L st S Q ↔ (Zgo d 116 28 L (zi 84 :: st) S Q) := Zgo_iff (i := .bipush 84) (len := 2) (a := 0) (b := 0) (c := 0) (p := 0) rfl
theorem zg_116_28 : Zgo d 116 28 L st S Q ↔ (zpi st False fun y t => zpi t False fun x t => if zw x = zw y then Zgo d 116 31 L t S Q else Zgo d 116 39 L t S Q) := Zgo_iff (i := .if_icmp .ne 11) (len := 3) (a := 0) (b := 0) (c := 0) (p := 0) rfl
theorem zg_116_31 : Zgo d 116 31 L st S Q ↔ (zlda L 0 False fun r => Zgo d 116 32 L (zq r :: st) S Q) := Zgo_iff (i := .aload_n 0) (len := 1) (a := 0) (b := 0) (c := 0) (p := 0) rfl
theorem zg_116_32 : Zgo d 116 32 L st S Q ↔ (zldi L 1 False fun x => Zgo d 116 33 L (zi x :: st) S Q) := Zgo_iff (i := .iload_n 1) (len := 1) (a := 0) (b := 0) (c := 0) (p := 0) rfl
theorem zg_116_33 : Zgo d 116 33 L st S Q ↔ (zinv 2 st False fun as t => zrec as 11 False (zCp d 117 as S fun r S2 => Zgo d 116 36 L (r.toList ++ t) S2 Q)) := Zgo_iff (i := .invokevirtual 268) (len := 3) (a := 117) (b := 2) (c := 0) (p := 5201) rfl
theorem zg_116_36 : Zgo d 116 36 L st S Q ↔ (Zgo d 116 40 L st S Q) := Zgo_iff (i := .goto 4) (len := 3) (a := 0) (b := 0) (c := 0) (p := 0) rfl
theorem zg_116_39 : Zgo d 116 39 L st S Q ↔ (Zgo d 116 40 L (zi 0 :: st) S Q) := Zgo_iff (i := .iconst 0) (len := 1) (a := 0) (b := 0) (c := 0) (p := 0) rfl
theorem zg_116_40 : Zgo d 116 40 L st S Q ↔ (zpi st False fun x t => Zgo d 116 41 (zst L 3 (some (zi x))) t S Q) := Zgo_iff (i := .istore_n 3) (len := 1) (a := 0) (b := 0) (c := 0) (p := 0) rfl
theorem zg_116_41 : Zgo d 116 41 L st S Q ↔ (zlda L 0 False fun r => Zgo d 116 42 L (zq r :: st) S Q) := Zgo_iff (i := .aload_n 0) (len := 1) (a := 0) (b := 0) (c := 0) (p := 0) rfl
theorem zg_116_42 : Zgo d 116 42 L st S Q ↔ (zpa st False fun r t => zde r 11 False fun o => Zgo d 116 45 L (zi (S.1 11 o 50) :: t) S Q) := Zgo_iff (i := .getfield 247) (len := 3) (a := 11) (b := 50) (c := 0) (p := 4180) rfl
theorem zg_116_45 : Zgo d 116 45 L st S Q ↔ (zpi st False fun x t => if zw x = zw 0 then Zgo d 116 49 L t S Q else Zgo d 116 48 L t S Q) := Zgo_iff (i := .ifCond .eq 4) (len := 3) (a := 0) (b := 0) (c := 0) (p := 0) rfl
theorem zg_116_48 : Zgo d 116 48 L st S Q ↔ (zem st False (Q none S)) := Zgo_iff (i := .return_) (len := 1) (a := 0) (b := 0) (c := 0) (p := 0) rfl
theorem zg_116_49 : Zgo d 116 49 L st S Q ↔ (zldi L 2 False fun x => Zgo d 116 50 L (zi x :: st) S Q) := Zgo_iff (i := .iload_n 2) (len := 1) (a := 0) (b := 0) (c := 0) (p := 0) rfl
theorem zg_116_50 : Zgo d 116 50 L st S Q ↔ (Zgo d 116 52 L (zi 61 :: st) S Q) := Zgo_iff (i := .bipush 61) (len := 2) (a := 0) (b := 0) (c := 0) (p := 0) rfl
theorem zg_116_52 : Zgo d 116 52 L st S Q ↔ (zpi st False fun y t => zpi t False fun x t => if zw x = zw y then Zgo d 116 55 L t S Q else Zgo d 116 70 L t S Q) := Zgo_iff (i := .if_icmp .ne 18) (len := 3) (a := 0) (b := 0) (c := 0) (p := 0) rfl
theorem zg_116_55 : Zgo d 116 55 L st S Q ↔ (zlda L 0 False fun r => Zgo d 116 56 L (zq r :: st) S Q) := Zgo_iff (i := .aload_n 0) (len := 1) (a := 0) (b := 0) (c := 0) (p := 0) rfl
theorem zg_116_56 : Zgo d 116 56 L st S Q ↔ (zpa st False fun r t => zde r 11 False fun o => Zgo d 116 59 L (zq (S.2.1 11 o 33) :: t) S Q) := Zgo_iff (i := .getfield 82) (len := 3) (a := 11) (b := 33) (c := 3) (p := 4163) rfl
theorem zg_116_59 : Zgo d 116 59 L st S Q ↔ (zlda L 0 False fun r => Zgo d 116 60 L (zq r :: st) S Q) := Zgo_iff (i := .aload_n 0) (len := 1) (a := 0) (b := 0) (c := 0) (p := 0) rfl
theorem zg_116_60 : Zgo d 116 60 L st S Q ↔ (zpa st False fun r t => zde r 11 False fun o => Zgo d 116 63 L (zq (S.2.1 11 o 12) :: t) S Q) := Zgo_iff (i := .getfield 25) (len := 3) (a := 11) (b := 12) (c := 3) (p := 4142) rfl
theorem zg_116_63 : Zgo d 116 63 L st S Q ↔ (zldi L 1 False fun x => Zgo d 116 64 L (zi x :: st) S Q) := Zgo_iff (i := .iload_n 1) (len := 1) (a := 0) (b := 0) (c := 0) (p := 0) rfl
theorem zg_116_64 : Zgo d 116 64 L st S Q ↔ (zpi st False fun j t => zpa t False fun r t => znn r False fun q o => zop (zlen S q) False fun n => if n.1 = 0 then zix j n.2 False fun x => Zgo d 116 65 L (zi (S.1 q o x) :: t) S Q else False) := Zgo_iff (i := .iaload) (len := 1) (a := 0) (b := 0) (c := 0) (p := 0) rfl
theorem zg_116_65 : Zgo d 116 65 L st S Q ↔ (zldi L 3 False fun x => Zgo d 116 66 L (zi x :: st) S Q) := Zgo_iff (i := .iload_n 3) (len := 1) (a := 0) (b := 0) (c := 0) (p := 0) rfl
theorem zg_116_66 : Zgo d 116 66 L st S Q ↔ (zpi st False fun v t => zpi t False fun j t => zpa t False fun r t => znn r False fun q o => zop (zArr q) False fun n => if n.1 = 0 then zix j n.2 False fun x => Zgo d 116 67 L t (zsI S.1 q o x v, S.2) Q else False) := Zgo_iff (i := .iastore) (len := 1) (a := 0) (b := 0) (c := 0) (p := 0) rfl
theorem zg_116_67 : Zgo d 116 67 L st S Q ↔ (Zgo d 116 270 L st S Q) := Zgo_iff (i := .goto 203) (len := 3) (a := 0) (b := 0) (c := 0) (p := 0) rfl
theorem zg_116_70 : Zgo d 116 70 L st S Q ↔ (zldi L 2 False fun x => Zgo d 116 71 L (zi x :: st) S Q) := Zgo_iff (i := .iload_n 2) (len := 1) (a := 0) (b := 0) (c := 0) (p := 0) rfl
theorem zg_116_71 : Zgo d 116 71 L st S Q ↔ (Zgo d 116 73 L (zi 33 :: st) S Q) := Zgo_iff (i := .bipush 33) (len := 2) (a := 0) (b := 0) (c := 0) (p := 0) rfl
theorem zg_116_73 : Zgo d 116 73 L st S Q ↔ (zpi st False fun y t => zpi t False fun x t => if zw x = zw y then Zgo d 116 76 L t S Q else Zgo d 116 119 L t S Q) := Zgo_iff (i := .if_icmp .ne 46) (len := 3) (a := 0) (b := 0) (c := 0) (p := 0) rfl
theorem zg_116_76 : Zgo d 116 76 L st S Q ↔ (zlda L 0 False fun r => Zgo d 116 77 L (zq r :: st) S Q) := Zgo_iff (i := .aload_n 0) (len := 1) (a := 0) (b := 0) (c := 0) (p := 0) rfl
theorem zg_116_77 : Zgo d 116 77 L st S Q ↔ (zpa st False fun r t => zde r 11 False fun o => Zgo d 116 80 L (zi (S.1 11 o 35) :: t) S Q) := Zgo_iff (i := .getfield 219) (len := 3) (a := 11) (b := 35) (c := 0) (p := 4165) rfl
theorem zg_116_80 : Zgo d 116 80 L st S Q ↔ (Zgo d 116 82 L (zi 24 :: st) S Q) := Zgo_iff (i := .bipush 24) (len := 2) (a := 0) (b := 0) (c := 0) (p := 0) rfl
theorem zg_116_82 : Zgo d 116 82 L st S Q ↔ (zpi st False fun y t => zpi t False fun x t => if zw x = zw y then Zgo d 116 85 L t S Q else Zgo d 116 96 L t S Q) := Zgo_iff (i := .if_icmp .ne 14) (len := 3) (a := 0) (b := 0) (c := 0) (p := 0) rfl
theorem zg_116_85 : Zgo d 116 85 L st S Q ↔ (zlda L 0 False fun r => Zgo d 116 86 L (zq r :: st) S Q) := Zgo_iff (i := .aload_n 0) (len := 1) (a := 0) (b := 0) (c := 0) (p := 0) rfl
theorem zg_116_86 : Zgo d 116 86 L st S Q ↔ (Zgo d 116 87 L (zi 4 :: st) S Q) := Zgo_iff (i := .iconst 4) (len := 1) (a := 0) (b := 0) (c := 0) (p := 0) rfl
theorem zg_116_87 : Zgo d 116 87 L st S Q ↔ (Zgo d 116 89 L (zi 7 :: st) S Q) := Zgo_iff (i := .bipush 7) (len := 2) (a := 0) (b := 0) (c := 0) (p := 0) rfl
theorem zg_116_89 : Zgo d 116 89 L st S Q ↔ (Zgo d 116 90 L (zi 0 :: st) S Q) := Zgo_iff (i := .iconst 0) (len := 1) (a := 0) (b := 0) (c := 0) (p := 0) rfl
theorem zg_116_90 : Zgo d 116 90 L st S Q ↔ (zinv 4 st False fun as t => zrec as 11 False (zCp d 111 as S fun r S2 => Zgo d 116 93 L (r.toList ++ t) S2 Q)) := Zgo_iff (i := .invokevirtual 243) (len := 3) (a := 111) (b := 4) (c := 0) (p := 5177) rfl
theorem zg_116_93 : Zgo d 116 93 L st S Q ↔ (Zgo d 116 270 L st S Q) := Zgo_iff (i := .goto 177) (len := 3) (a := 0) (b := 0) (c := 0) (p := 0) rfl
theorem zg_116_96 : Zgo d 116 96 L st S Q ↔ (zlda L 0 False fun r => Zgo d 116 97 L (zq r :: st) S Q) := Zgo_iff (i := .aload_n 0) (len := 1) (a := 0) (b := 0) (c := 0) (p := 0) rfl
theorem zg_116_97 : Zgo d 116 97 L st S Q ↔ (zpa st False fun r t => zde r 11 False fun o => Zgo d 116 100 L (zq (S.2.1 11 o 34) :: t) S Q) := Zgo_iff (i := .getfield 85) (len := 3) (a := 11) (b := 34) (c := 3) (p := 4164) rfl
theorem zg_116_100 : Zgo d 116 100 L st S Q ↔ (zlda L 0 False fun r => Zgo d 116 101 L (zq r :: st) S Q) := Zgo_iff (i := .aload_n 0) (len := 1) (a := 0) (b := 0) (c := 0) (p := 0) rfl
theorem zg_116_101 : Zgo d 116 101 L st S Q ↔ (zpa st False fun r t => zde r 11 False fun o => Zgo d 116 104 L (zi (S.1 11 o 35) :: t) S Q) := Zgo_iff (i := .getfield 219) (len := 3) (a := 11) (b := 35) (c := 0) (p := 4165) rfl
theorem zg_116_104 : Zgo d 116 104 L st S Q ↔ (zldi L 3 False fun x => Zgo d 116 105 L (zi x :: st) S Q) := Zgo_iff (i := .iload_n 3) (len := 1) (a := 0) (b := 0) (c := 0) (p := 0) rfl
theorem zg_116_105 : Zgo d 116 105 L st S Q ↔ (zpi st False fun v t => zpi t False fun j t => zpa t False fun r t => znn r False fun q o => zop (zArr q) False fun n => if n.1 = 0 then zix j n.2 False fun x => Zgo d 116 106 L t (zsI S.1 q o x v, S.2) Q else False) := Zgo_iff (i := .iastore) (len := 1) (a := 0) (b := 0) (c := 0) (p := 0) rfl
theorem zg_116_106 : Zgo d 116 106 L st S Q ↔ (zlda L 0 False fun r => Zgo d 116 107 L (zq r :: st) S Q) := Zgo_iff (i := .aload_n 0) (len := 1) (a := 0) (b := 0) (c := 0) (p := 0) rfl
theorem zg_116_107 : Zgo d 116 107 L st S Q ↔ (zp1 st False fun v t => Zgo d 116 108 L (v :: v :: t) S Q) := Zgo_iff (i := .dup) (len := 1) (a := 0) (b := 0) (c := 0) (p := 0) rfl
theorem zg_116_108 : Zgo d 116 108 L st S Q ↔ (zpa st False fun r t => zde r 11 False fun o => Zgo d 116 111 L (zi (S.1 11 o 35) :: t) S Q) := Zgo_iff (i := .getfield 219) (len := 3) (a := 11) (b := 35) (c := 0) (p := 4165) rfl
theorem zg_116_111 : Zgo d 116 111 L st S Q ↔ (Zgo d 116 112 L (zi 1 :: st) S Q) := Zgo_iff (i := .iconst 1) (len := 1) (a := 0) (b := 0) (c := 0) (p := 0) rfl
theorem zg_116_112 : Zgo d 116 112 L st S Q ↔ (zpi st False fun y t => zpi t False fun x t => Zgo d 116 113 L (zi (x + y) :: t) S Q) := Zgo_iff (i := .iadd) (len := 1) (a := 0) (b := 0) (c := 0) (p := 0) rfl
theorem zg_116_113 : Zgo d 116 113 L st S Q ↔ (zpi st False fun v t => zpa t False fun r t => zde r 11 False fun o => Zgo d 116 116 L t (zsI S.1 11 o 35 v, S.2) Q) := Zgo_iff (i := .putfield 219) (len := 3) (a := 11) (b := 35) (c := 0) (p := 4165) rfl
theorem zg_116_116 : Zgo d 116 116 L st S Q ↔ (Zgo d 116 270 L st S Q) := Zgo_iff (i := .goto 154) (len := 3) (a := 0) (b := 0) (c := 0) (p := 0) rfl
theorem zg_116_119 : Zgo d 116 119 L st S Q ↔ (zldi L 2 False fun x => Zgo d 116 120 L (zi x :: st) S Q) := Zgo_iff (i := .iload_n 2) (len := 1) (a := 0) (b := 0) (c := 0) (p := 0) rfl
theorem zg_116_120 : Zgo d 116 120 L st S Q ↔ (Zgo d 116 122 L (zi 63 :: st) S Q) := Zgo_iff (i := .bipush 63) (len := 2) (a := 0) (b := 0) (c := 0) (p := 0) rfl
theorem zg_116_122 : Zgo d 116 122 L st S Q ↔ (zpi st False fun y t => zpi t False fun x t => if zw x = zw y then Zgo d 116 125 L t S Q else Zgo d 116 151 L t S Q) := Zgo_iff (i := .if_icmp .ne 29) (len := 3) (a := 0) (b := 0) (c := 0) (p := 0) rfl
theorem zg_116_125 : Zgo d 116 125 L st S Q ↔ (zlda L 0 False fun r => Zgo d 116 126 L (zq r :: st) S Q) := Zgo_iff (i := .aload_n 0) (len := 1) (a := 0) (b := 0) (c := 0) (p := 0) rfl
theorem zg_116_126 : Zgo d 116 126 L st S Q ↔ (zlda L 0 False fun r => Zgo d 116 127 L (zq r :: st) S Q) := Zgo_iff (i := .aload_n 0) (len := 1) (a := 0) (b := 0) (c := 0) (p := 0) rfl
theorem zg_116_127 : Zgo d 116 127 L st S Q ↔ (zpa st False fun r t => zde r 11 False fun o => Zgo d 116 130 L (zq (S.2.1 11 o 15) :: t) S Q) := Zgo_iff (i := .getfield 34) (len := 3) (a := 11) (b := 15) (c := 3) (p := 4145) rfl
theorem zg_116_130 : Zgo d 116 130 L st S Q ↔ (Zgo d 116 132 L (zi 6 :: st) S Q) := Zgo_iff (i := .bipush 6) (len := 2) (a := 0) (b := 0) (c := 0) (p := 0) rfl
theorem zg_116_132 : Zgo d 116 132 L st S Q ↔ (zldi L 1 False fun x => Zgo d 116 133 L (zi x :: st) S Q) := Zgo_iff (i := .iload_n 1) (len := 1) (a := 0) (b := 0) (c := 0) (p := 0) rfl
theorem zg_116_133 : Zgo d 116 133 L st S Q ↔ (zpi st False fun y t => zpi t False fun x t => Zgo d 116 134 L (zi (x * y) :: t) S Q) := Zgo_iff (i := .imul) (len := 1) (a := 0) (b := 0) (c := 0) (p := 0) rfl
theorem zg_116_134 : Zgo d 116 134 L st S Q ↔ (zldi L 3 False fun x => Zgo d 116 135 L (zi x :: st) S Q) := Zgo_iff (i := .iload_n 3) (len := 1) (a := 0) (b := 0) (c := 0) (p := 0) rfl
theorem zg_116_135 : Zgo d 116 135 L st S Q ↔ (zpi st False fun x t => if zw x = zw 0 then Zgo d 116 142 L t S Q else Zgo d 116 138 L t S Q) := Zgo_iff (i := .ifCond .eq 7) (len := 3) (a := 0) (b := 0) (c := 0) (p := 0) rfl
theorem zg_116_138 : Zgo d 116 138 L st S Q ↔ (Zgo d 116 139 L (zi 0 :: st) S Q) := Zgo_iff (i := .iconst 0) (len := 1) (a := 0) (b := 0) (c := 0) (p := 0) rfl
theorem zg_116_139 : Zgo d 116 139 L st S Q ↔ (Zgo d 116 143 L st S Q) := Zgo_iff (i := .goto 4) (len := 3) (a := 0) (b := 0) (c := 0) (p := 0) rfl
theorem zg_116_142 : Zgo d 116 142 L st S Q ↔ (Zgo d 116 143 L (zi 1 :: st) S Q) := Zgo_iff (i := .iconst 1) (len := 1) (a := 0) (b := 0) (c := 0) (p := 0) rfl
theorem zg_116_143 : Zgo d 116 143 L st S Q ↔ (zpi st False fun y t => zpi t False fun x t => Zgo d 116 144 L (zi (x + y) :: t) S Q) := Zgo_iff (i := .iadd) (len := 1) (a := 0) (b := 0) (c := 0) (p := 0) rfl
theorem zg_116_144 : Zgo d 116 144 L st S Q ↔ (zpi st False fun j t => zpa t False fun r t => znn r False fun q o => zop (zlen S q) False fun n => if n.1 = 0 then zix j n.2 False fun x => Zgo d 116 145 L (zi (S.1 q o x) :: t) S Q else False) := Zgo_iff (i := .iaload) (len := 1) (a := 0) (b := 0) (c := 0) (p := 0) rfl
theorem zg_116_145 : Zgo d 116 145 L st S Q ↔ (zinv 2 st False fun as t => zrec as 11 False (zCp d 112 as S fun r S2 => Zgo d 116 148 L (r.toList ++ t) S2 Q)) := Zgo_iff (i := .invokevirtual 265) (len := 3) (a := 112) (b := 2) (c := 0) (p := 5181) rfl
theorem zg_116_148 : Zgo d 116 148 L st S Q ↔ (Zgo d 116 270 L st S Q) := Zgo_iff (i := .goto 122) (len := 3) (a := 0) (b := 0) (c := 0) (p := 0) rfl
theorem zg_116_151 : Zgo d 116 151 L st S Q ↔ (zldi L 2 False fun x => Zgo d 116 152 L (zi x :: st) S Q) := Zgo_iff (i := .iload_n 2) (len := 1) (a := 0) (b := 0) (c := 0) (p := 0) rfl
theorem zg_116_152 : Zgo d 116 152 L st S Q ↔ (Zgo d 116 154 L (zi 64 :: st) S Q) := Zgo_iff (i := .bipush 64) (len := 2) (a := 0) (b := 0) (c := 0) (p := 0) rfl
theorem zg_116_154 : Zgo d 116 154 L st S Q ↔ (zpi st False fun y t => zpi t False fun x t => if zw x = zw y then Zgo d 116 157 L t S Q else Zgo d 116 166 L t S Q) := Zgo_iff (i := .if_icmp .ne 12) (len := 3) (a := 0) (b := 0) (c := 0) (p := 0) rfl
theorem zg_116_157 : Zgo d 116 157 L st S Q ↔ (zlda L 0 False fun r => Zgo d 116 158 L (zq r :: st) S Q) := Zgo_iff (i := .aload_n 0) (len := 1) (a := 0) (b := 0) (c := 0) (p := 0) rfl
theorem zg_116_158 : Zgo d 116 158 L st S Q ↔ (Zgo d 116 159 L (zi 1 :: st) S Q) := Zgo_iff (i := .iconst 1) (len := 1) (a := 0) (b := 0) (c := 0) (p := 0) rfl
theorem zg_116_159 : Zgo d 116 159 L st S Q ↔ (zldi L 1 False fun x => Zgo d 116 160 L (zi x :: st) S Q) := Zgo_iff (i := .iload_n 1) (len := 1) (a := 0) (b := 0) (c := 0) (p := 0) rfl
theorem zg_116_160 : Zgo d 116 160 L st S Q ↔ (zinv 3 st False fun as t => zrec as 11 False (zCp d 113 as S fun r S2 => Zgo d 116 163 L (r.toList ++ t) S2 Q)) := Zgo_iff (i := .invokevirtual 259) (len := 3) (a := 113) (b := 3) (c := 0) (p := 5185) rfl
theorem zg_116_163 : Zgo d 116 163 L st S Q ↔ (Zgo d 116 270 L st S Q) := Zgo_iff (i := .goto 107) (len := 3) (a := 0) (b := 0) (c := 0) (p := 0) rfl
theorem zg_116_166 : Zgo d 116 166 L st S Q ↔ (zldi L 2 False fun x => Zgo d 116 167 L (zi x :: st) S Q) := Zgo_iff (i := .iload_n 2) (len := 1) (a := 0) (b := 0) (c := 0) (p := 0) rfl
theorem zg_116_167 : Zgo d 116 167 L st S Q ↔ (Zgo d 116 169 L (zi 84 :: st) S Q) := Zgo_iff (i := .bipush 84) (len := 2) (a := 0) (b := 0) (c := 0) (p := 0) rfl
theorem zg_116_169 : Zgo d 116 169 L st S Q ↔ (zpi st False fun y t => zpi t False fun x t => if zw x = zw y then Zgo d 116 172 L t S Q else Zgo d 116 187 L t S Q) := Zgo_iff (i := .if_icmp .ne 18) (len := 3) (a := 0) (b := 0) (c := 0) (p := 0) rfl
theorem zg_116_172 : Zgo d 116 172 L st S Q ↔ (zlda L 0 False fun r => Zgo d 116 173 L (zq r :: st) S Q) := Zgo_iff (i := .aload_n 0) (len := 1) (a := 0) (b := 0) (c := 0) (p := 0) rfl
theorem zg_116_173 : Zgo d 116 173 L st S Q ↔ (Zgo d 116 174 L (zi 4 :: st) S Q) := Zgo_iff (i := .iconst 4) (len := 1) (a := 0) (b := 0) (c := 0) (p := 0) rfl
theorem zg_116_174 : Zgo d 116 174 L st S Q ↔ (zlda L 0 False fun r => Zgo d 116 175 L (zq r :: st) S Q) := Zgo_iff (i := .aload_n 0) (len := 1) (a := 0) (b := 0) (c := 0) (p := 0) rfl
theorem zg_116_175 : Zgo d 116 175 L st S Q ↔ (zpa st False fun r t => zde r 11 False fun o => Zgo d 116 178 L (zq (S.2.1 11 o 12) :: t) S Q) := Zgo_iff (i := .getfield 25) (len := 3) (a := 11) (b := 12) (c := 3) (p := 4142) rfl
theorem zg_116_178 : Zgo d 116 178 L st S Q ↔ (zldi L 1 False fun x => Zgo d 116 179 L (zi x :: st) S Q) := Zgo_iff (i := .iload_n 1) (len := 1) (a := 0) (b := 0) (c := 0) (p := 0) rfl
theorem zg_116_179 : Zgo d 116 179 L st S Q ↔ (zpi st False fun j t => zpa t False fun r t => znn r False fun q o => zop (zlen S q) False fun n => if n.1 = 0 then zix j n.2 False fun x => Zgo d 116 180 L (zi (S.1 q o x) :: t) S Q else False) := Zgo_iff (i := .iaload) (len := 1) (a := 0) (b := 0) (c := 0) (p := 0) rfl
theorem zg_116_180 : Zgo d 116 180 L st S Q ↔ (zldi L 3 False fun x => Zgo d 116 181 L (zi x :: st) S Q) := Zgo_iff (i := .iload_n 3) (len := 1) (a := 0) (b := 0) (c := 0) (p := 0) rfl
theorem zg_116_181 : Zgo d 116 181 L st S Q ↔ (zinv 4 st False fun as t => zrec as 11 False (zCp d 111 as S fun r S2 => Zgo d 116 184 L (r.toList ++ t) S2 Q)) := Zgo_iff (i := .invokevirtual 243) (len := 3) (a := 111) (b := 4) (c := 0) (p := 5177) rfl
theorem zg_116_184 : Zgo d 116 184 L st S Q ↔ (Zgo d 116 270 L st S Q) := Zgo_iff (i := .goto 86) (len := 3) (a := 0) (b := 0) (c := 0) (p := 0) rfl
theorem zg_116_187 : Zgo d 116 187 L st S Q ↔ (zldi L 2 False fun x => Zgo d 116 188 L (zi x :: st) S Q) := Zgo_iff (i := .iload_n 2) (len := 1) (a := 0) (b := 0) (c := 0) (p := 0) rfl
theorem zg_116_188 : Zgo d 116 188 L st S Q ↔ (Zgo d 116 190 L (zi 88 :: st) S Q) := Zgo_iff (i := .bipush 88) (len := 2) (a := 0) (b := 0) (c := 0) (p := 0) rfl
theorem zg_116_190 : Zgo d 116 190 L st S Q ↔ (zpi st False fun y t => zpi t False fun x t => if zw x = zw y then Zgo d 116 193 L t S Q else Zgo d 116 201 L t S Q) := Zgo_iff (i := .if_icmp .ne 11) (len := 3) (a := 0) (b := 0) (c := 0) (p := 0) rfl
theorem zg_116_193 : Zgo d 116 193 L st S Q ↔ (zlda L 0 False fun r => Zgo d 116 194 L (zq r :: st) S Q) := Zgo_iff (i := .aload_n 0) (len := 1) (a := 0) (b := 0) (c := 0) (p := 0) rfl
theorem zg_116_194 : Zgo d 116 194 L st S Q ↔ (zldi L 1 False fun x => Zgo d 116 195 L (zi x :: st) S Q) := Zgo_iff (i := .iload_n 1) (len := 1) (a := 0) (b := 0) (c := 0) (p := 0) rfl
theorem zg_116_195 : Zgo d 116 195 L st S Q ↔ (zinv 2 st False fun as t => zrec as 11 False (zCp d 118 as S fun r S2 => Zgo d 116 198 L (r.toList ++ t) S2 Q)) := Zgo_iff (i := .invokevirtual 271) (len := 3) (a := 118) (b := 2) (c := 0) (p := 5205) rfl
theorem zg_116_198 : Zgo d 116 198 L st S Q ↔ (Zgo d 116 270 L st S Q) := Zgo_iff (i := .goto 72) (len := 3) (a := 0) (b := 0) (c := 0) (p := 0) rfl
theorem zg_116_201 : Zgo d 116 201 L st S Q ↔ (zldi L 2 False fun x => Zgo d 116 202 L (zi x :: st) S Q) := Zgo_iff (i := .iload_n 2) (len := 1) (a := 0) (b := 0) (c := 0) (p := 0) rfl
theorem zg_116_202 : Zgo d 116 202 L st S Q ↔ (Zgo d 116 204 L (zi 80 :: st) S Q) := Zgo_iff (i := .bipush 80) (len := 2) (a := 0) (b := 0) (c := 0) (p := 0) rfl
theorem zg_116_204 : Zgo d 116 204 L st S Q ↔ (zpi st False fun y t => zpi t False fun x t => if zw x = zw y then Zgo d 116 207 L t S Q else Zgo d 116 215 L t S Q) := Zgo_iff (i := .if_icmp .ne 11) (len := 3) (a := 0) (b := 0) (c := 0) (p := 0) rfl
theorem zg_116_207 : Zgo d 116 207 L st S Q ↔ (zlda L 0 False fun r => Zgo d 116 208 L (zq r :: st) S Q) := Zgo_iff (i := .aload_n 0) (len := 1) (a := 0) (b := 0) (c := 0) (p := 0) rfl
theorem zg_116_208 : Zgo d 116 208 L st S Q ↔ (zldi L 1 False fun x => Zgo d 116 209 L (zi x :: st) S Q) := Zgo_iff (i := .iload_n 1) (len := 1) (a := 0) (b := 0) (c := 0) (p := 0) rfl
theorem zg_116_209 : Zgo d 116 209 L st S Q ↔ (zinv 2 st False fun as t => zrec as 11 False (zCp d 119 as S fun r S2 => Zgo d 116 212 L (r.toList ++ t) S2 Q)) := Zgo_iff (i := .invokevirtual 274) (len := 3) (a := 119) (b := 2) (c := 0) (p := 5209) rfl
theorem zg_116_212 : Zgo d 116 212 L st S Q ↔ (Zgo d 116 270 L st S Q) := Zgo_iff (i := .goto 58) (len := 3) (a := 0) (b := 0) (c := 0) (p := 0) rfl
theorem zg_116_215 : Zgo d 116 215 L st S Q ↔ (zldi L 2 False fun x => Zgo d 116 216 L (zi x :: st) S Q) := Zgo_iff (i := .iload_n 2) (len := 1) (a := 0) (b := 0) (c := 0) (p := 0) rfl
theorem zg_116_216 : Zgo d 116 216 L st S Q ↔ (Zgo d 116 218 L (zi 89 :: st) S Q) := Zgo_iff (i := .bipush 89) (len := 2) (a := 0) (b := 0) (c := 0) (p := 0) rfl
theorem zg_116_218 : Zgo d 116 218 L st S Q ↔ (zpi st False fun y t => zpi t False fun x t => if zw x = zw y then Zgo d 116 221 L t S Q else Zgo d 116 243 L t S Q) := Zgo_iff (i := .if_icmp .ne 25) (len := 3) (a := 0) (b := 0) (c := 0) (p := 0) rfl
theorem zg_116_221 : Zgo d 116 221 L st S Q ↔ (zlda L 0 False fun r => Zgo d 116 222 L (zq r :: st) S Q) := Zgo_iff (i := .aload_n 0) (len := 1) (a := 0) (b := 0) (c := 0) (p := 0) rfl
theorem zg_116_222 : Zgo d 116 222 L st S Q ↔ (Zgo d 116 223 L (zi 3 :: st) S Q) := Zgo_iff (i := .iconst 3) (len := 1) (a := 0) (b := 0) (c := 0) (p := 0) rfl
theorem zg_116_223 : Zgo d 116 223 L st S Q ↔ (zldi L 1 False fun x => Zgo d 116 224 L (zi x :: st) S Q) := Zgo_iff (i := .iload_n 1) (len := 1) (a := 0) (b := 0) (c := 0) (p := 0) rfl
theorem zg_116_224 : Zgo d 116 224 L st S Q ↔ (zinv 3 st False fun as t => zrec as 11 False (zCp d 113 as S fun r S2 => Zgo d 116 227 L (r.toList ++ t) S2 Q)) := Zgo_iff (i := .invokevirtual 259) (len := 3) (a := 113) (b := 3) (c := 0) (p := 5185) rfl
theorem zg_116_227 : Zgo d 116 227 L st S Q ↔ (zlda L 0 False fun r => Zgo d 116 228 L (zq r :: st) S Q) := Zgo_iff (i := .aload_n 0) (len := 1) (a := 0) (b := 0) (c := 0) (p := 0) rfl
theorem zg_116_228 : Zgo d 116 228 L st S Q ↔ (zlda L 0 False fun r => Zgo d 116 229 L (zq r :: st) S Q) := Zgo_iff (i := .aload_n 0) (len := 1) (a := 0) (b := 0) (c := 0) (p := 0) rfl
theorem zg_116_229 : Zgo d 116 229 L st S Q ↔ (zpa st False fun r t => zde r 11 False fun o => Zgo d 116 232 L (zq (S.2.1 11 o 15) :: t) S Q) := Zgo_iff (i := .getfield 34) (len := 3) (a := 11) (b := 15) (c := 3) (p := 4145) rfl
theorem zg_116_232 : Zgo d 116 232 L st S Q ↔ (Zgo d 116 234 L (zi 6 :: st) S Q) := Zgo_iff (i := .bipush 6) (len := 2) (a := 0) (b := 0) (c := 0) (p := 0) rfl
theorem zg_116_234 : Zgo d 116 234 L st S Q ↔ (zldi L 1 False fun x => Zgo d 116 235 L (zi x :: st) S Q) := Zgo_iff (i := .iload_n 1) (len := 1) (a := 0) (b := 0) (c := 0) (p := 0) rfl
theorem zg_116_235 : Zgo d 116 235 L st S Q ↔ (zpi st False fun y t => zpi t False fun x t => Zgo d 116 236 L (zi (x * y) :: t) S Q) := Zgo_iff (i := .imul) (len := 1) (a := 0) (b := 0) (c := 0) (p := 0) rfl
theorem zg_116_236 : Zgo d 116 236 L st S Q ↔ (zpi st False fun j t => zpa t False fun r t => znn r False fun q o => zop (zlen S q) False fun n => if n.1 = 0 then zix j n.2 False fun x => Zgo d 116 237 L (zi (S.1 q o x) :: t) S Q else False) := Zgo_iff (i := .iaload) (len := 1) (a := 0) (b := 0) (c := 0) (p := 0) rfl
theorem zg_116_237 : Zgo d 116 237 L st S Q ↔ (zinv 2 st False fun as t => zrec as 11 False (zCp d 112 as S fun r S2 => Zgo d 116 240 L (r.toList ++ t) S2 Q)) := Zgo_iff (i := .invokevirtual 265) (len := 3) (a := 112) (b := 2) (c := 0) (p := 5181) rfl
theorem zg_116_240 : Zgo d 116 240 L st S Q ↔ (Zgo d 116 270 L st S Q) := Zgo_iff (i := .goto 30) (len := 3) (a := 0) (b := 0) (c := 0) (p := 0) rfl
theorem zg_116_243 : Zgo d 116 243 L st S Q ↔ (zlda L 0 False fun r => Zgo d 116 244 L (zq r :: st) S Q) := Zgo_iff (i := .aload_n 0) (len := 1) (a := 0) (b := 0) (c := 0) (p := 0) rfl
theorem zg_116_244 : Zgo d 116 244 L st S Q ↔ (zldi L 2 False fun x => Zgo d 116 245 L (zi x :: st) S Q) := Zgo_iff (i := .iload_n 2) (len := 1) (a := 0) (b := 0) (c := 0) (p := 0) rfl
theorem zg_116_245 : Zgo d 116 245 L st S Q ↔ (Zgo d 116 247 L (zi 66 :: st) S Q) := Zgo_iff (i := .bipush 66) (len := 2) (a := 0) (b := 0) (c := 0) (p := 0) rfl
theorem zg_116_247 : Zgo d 116 247 L st S Q ↔ (zpi st False fun y t => zpi t False fun x t => if zw x = zw y then Zgo d 116 250 L t S Q else Zgo d 116 254 L t S Q) := Zgo_iff (i := .if_icmp .ne 7) (len := 3) (a := 0) (b := 0) (c := 0) (p := 0) rfl
theorem zg_116_250 : Zgo d 116 250 L st S Q ↔ (Zgo d 116 251 L (zi 1 :: st) S Q) := Zgo_iff (i := .iconst 1) (len := 1) (a := 0) (b := 0) (c := 0) (p := 0) rfl
theorem zg_116_251 : Zgo d 116 251 L st S Q ↔ (Zgo d 116 265 L st S Q) := Zgo_iff (i := .goto 14) (len := 3) (a := 0) (b := 0) (c := 0) (p := 0) rfl
theorem zg_116_254 : Zgo d 116 254 L st S Q ↔ (zldi L 2 False fun x => Zgo d 116 255 L (zi x :: st) S Q) := Zgo_iff (i := .iload_n 2) (len := 1) (a := 0) (b := 0) (c := 0) (p := 0) rfl
theorem zg_116_255 : Zgo d 116 255 L st S Q ↔ (Zgo d 116 257 L (zi 67 :: st) S Q) := Zgo_iff (i := .bipush 67) (len := 2) (a := 0) (b := 0) (c := 0) (p := 0) rfl
theorem zg_116_257 : Zgo d 116 257 L st S Q ↔ (zpi st False fun y t => zpi t False fun x t => if zw x = zw y then Zgo d 116 260 L t S Q else Zgo d 116 264 L t S Q) := Zgo_iff (i := .if_icmp .ne 7) (len := 3) (a := 0) (b := 0) (c := 0) (p := 0) rfl
theorem zg_116_260 : Zgo d 116 260 L st S Q ↔ (Zgo d 116 261 L (zi 2 :: st) S Q) := Zgo_iff (i := .iconst 2) (len := 1) (a := 0) (b := 0) (c := 0) (p := 0) rfl
theorem zg_116_261 : Zgo d 116 261 L st S Q ↔ (Zgo d 116 265 L st S Q) := Zgo_iff (i := .goto 4) (len := 3) (a := 0) (b := 0) (c := 0) (p := 0) rfl
theorem zg_116_264 : Zgo d 116 264 L st S Q ↔ (Zgo d 116 265 L (zi 3 :: st) S Q) := Zgo_iff (i := .iconst 3) (len := 1) (a := 0) (b := 0) (c := 0) (p := 0) rfl
theorem zg_116_265 : Zgo d 116 265 L st S Q ↔ (Zgo d 116 266 L (zi 0 :: st) S Q) := Zgo_iff (i := .iconst 0) (len := 1) (a := 0) (b := 0) (c := 0) (p := 0) rfl
theorem zg_116_266 : Zgo d 116 266 L st S Q ↔ (Zgo d 116 267 L (zi 0 :: st) S Q) := Zgo_iff (i := .iconst 0) (len := 1) (a := 0) (b := 0) (c := 0) (p := 0) rfl
theorem zg_116_267 : Zgo d 116 267 L st S Q ↔ (zinv 4 st False fun as t => zrec as 11 False (zCp d 111 as S fun r S2 => Zgo d 116 270 L (r.toList ++ t) S2 Q)) := Zgo_iff (i := .invokevirtual 243) (len := 3) (a := 111) (b := 4) (c := 0) (p := 5177) rfl
theorem zg_116_270 : Zgo d 116 270 L st S Q ↔ (zem st False (Q none S)) := Zgo_iff (i := .return_) (len := 1) (a := 0) (b := 0) (c := 0) (p := 0) rfl
/-- LeavingMachineModel.value(I)I -/
theorem zg_117_0 : Zgo d 117 0 L st S Q ↔ (Zgo d 117 1 L (zi 0 :: st) S Q) := Zgo_iff (i := .iconst 0) (len := 1) (a := 0) (b := 0) (c := 0) (p := 0) rfl
theorem zg_117_1 : Zgo d 117 1 L st S Q ↔ (zpi st False fun x t => Zgo d 117 2 (zst L 2 (some (zi x))) t S Q) := Zgo_iff (i := .istore_n 2) (len := 1) (a := 0) (b := 0) (c := 0) (p := 0) rfl
theorem zg_117_2 : Zgo d 117 2 L st S Q ↔ (zlda L 0 False fun r => Zgo d 117 3 L (zq r :: st) S Q) := Zgo_iff (i := .aload_n 0) (len := 1) (a := 0) (b := 0) (c := 0) (p := 0) rfl
theorem zg_117_3 : Zgo d 117 3 L st S Q ↔ (Zgo d 117 4 L (zi 0 :: st) S Q) := Zgo_iff (i := .iconst 0) (len := 1) (a := 0) (b := 0) (c := 0) (p := 0) rfl
theorem zg_117_4 : Zgo d 117 4 L st S Q ↔ (zpi st False fun v t => zpa t False fun r t => zde r 11 False fun o => zok 1 v False (Zgo d 117 7 L t (zsI S.1 11 o 55 v, S.2) Q)) := Zgo_iff (i := .putfield 240) (len := 3) (a := 11) (b := 55) (c := 1) (p := 4185) rfl
theorem zg_117_7 : Zgo d 117 7 L st S Q ↔ (zlda L 0 False fun r => Zgo d 117 8 L (zq r :: st) S Q) := Zgo_iff (i := .aload_n 0) (len := 1) (a := 0) (b := 0) (c := 0) (p := 0) rfl
theorem zg_117_8 : Zgo d 117 8 L st S Q ↔ (zpa st False fun r t => zde r 11 False fun o => Zgo d 117 11 L (zq (S.2.1 11 o 13) :: t) S Q) := Zgo_iff (i := .getfield 28) (len := 3) (a := 11) (b := 13) (c := 3) (p := 4143) rfl
theorem zg_117_11 : Zgo d 117 11 L st S Q ↔ (zldi L 1 False fun x => Zgo d 117 12 L (zi x :: st) S Q) := Zgo_iff (i := .iload_n 1) (len := 1) (a := 0) (b := 0) (c := 0) (p := 0) rfl
theorem zg_117_12 : Zgo d 117 12 L st S Q ↔ (zpi st False fun j t => zpa t False fun r t => znn r False fun q o => zop (zlen S q) False fun n => if n.1 = 0 then zix j n.2 False fun x => Zgo d 117 13 L (zi (S.1 q o x) :: t) S Q else False) := Zgo_iff (i := .iaload) (len := 1) (a := 0) (b := 0) (c := 0) (p := 0) rfl
theorem zg_117_13 : Zgo d 117 13 L st S Q ↔ (zpi st False fun x t => Zgo d 117 14 (zst L 3 (some (zi x))) t S Q) := Zgo_iff (i := .istore_n 3) (len := 1) (a := 0) (b := 0) (c := 0) (p := 0) rfl
theorem zg_117_14 : Zgo d 117 14 L st S Q ↔ (zldi L 3 False fun x => Zgo d 117 15 L (zi x :: st) S Q) := Zgo_iff (i := .iload_n 3) (len := 1) (a := 0) (b := 0) (c := 0) (p := 0) rfl
theorem zg_117_15 : Zgo d 117 15 L st S Q ↔ (zlda L 0 False fun r => Zgo d 117 16 L (zq r :: st) S Q) := Zgo_iff (i := .aload_n 0) (len := 1) (a := 0) (b := 0) (c := 0) (p := 0) rfl
theorem zg_117_16 : Zgo d 117 16 L st S Q ↔ (zpa st False fun r t => zde r 11 False fun o => Zgo d 117 19 L (zq (S.2.1 11 o 14) :: t) S Q) := Zgo_iff (i := .getfield 31) (len := 3) (a := 11) (b := 14) (c := 3) (p := 4144) rfl
theorem zg_117_19 : Zgo d 117 19 L st S Q ↔ (zldi L 1 False fun x => Zgo d 117 20 L (zi x :: st) S Q) := Zgo_iff (i := .iload_n 1) (len := 1) (a := 0) (b := 0) (c := 0) (p := 0) rfl
theorem zg_117_20 : Zgo d 117 20 L st S Q ↔ (zpi st False fun j t => zpa t False fun r t => znn r False fun q o => zop (zlen S q) False fun n => if n.1 = 0 then zix j n.2 False fun x => Zgo d 117 21 L (zi (S.1 q o x) :: t) S Q else False) := Zgo_iff (i := .iaload) (len := 1) (a := 0) (b := 0) (c := 0) (p := 0) rfl
theorem zg_117_21 : Zgo d 117 21 L st S Q ↔ (zpi st False fun y t => zpi t False fun x t => if zw x < zw y then Zgo d 117 24 L t S Q else Zgo d 117 254 L t S Q) := Zgo_iff (i := .if_icmp .ge 233) (len := 3) (a := 0) (b := 0) (c := 0) (p := 0) rfl
theorem zg_117_24 : Zgo d 117 24 L st S Q ↔ (zlda L 0 False fun r => Zgo d 117 25 L (zq r :: st) S Q) := Zgo_iff (i := .aload_n 0) (len := 1) (a := 0) (b := 0) (c := 0) (p := 0) rfl
theorem zg_117_25 : Zgo d 117 25 L st S Q ↔ (zpa st False fun r t => zde r 11 False fun o => Zgo d 117 28 L (zi (S.1 11 o 55) :: t) S Q) := Zgo_iff (i := .getfield 240) (len := 3) (a := 11) (b := 55) (c := 1) (p := 4185) rfl
theorem zg_117_28 : Zgo d 117 28 L st S Q ↔ (zpi st False fun x t => if zw x = zw 0 then Zgo d 117 31 L t S Q else Zgo d 117 254 L t S Q) := Zgo_iff (i := .ifCond .ne 226) (len := 3) (a := 0) (b := 0) (c := 0) (p := 0) rfl
theorem zg_117_31 : Zgo d 117 31 L st S Q ↔ (zlda L 0 False fun r => Zgo d 117 32 L (zq r :: st) S Q) := Zgo_iff (i := .aload_n 0) (len := 1) (a := 0) (b := 0) (c := 0) (p := 0) rfl
theorem zg_117_32 : Zgo d 117 32 L st S Q ↔ (zpa st False fun r t => zde r 11 False fun o => Zgo d 117 35 L (zq (S.2.1 11 o 29) :: t) S Q) := Zgo_iff (i := .getfield 70) (len := 3) (a := 11) (b := 29) (c := 3) (p := 4159) rfl
theorem zg_117_35 : Zgo d 117 35 L st S Q ↔ (zldi L 3 False fun x => Zgo d 117 36 L (zi x :: st) S Q) := Zgo_iff (i := .iload_n 3) (len := 1) (a := 0) (b := 0) (c := 0) (p := 0) rfl
theorem zg_117_36 : Zgo d 117 36 L st S Q ↔ (zpi st False fun j t => zpa t False fun r t => znn r False fun q o => zop (zlen S q) False fun n => if n.1 = 0 then zix j n.2 False fun x => Zgo d 117 37 L (zi (S.1 q o x) :: t) S Q else False) := Zgo_iff (i := .iaload) (len := 1) (a := 0) (b := 0) (c := 0) (p := 0) rfl
theorem zg_117_37 : Zgo d 117 37 L st S Q ↔ (zpi st False fun x t => Zgo d 117 39 (zst L 4 (some (zi x))) t S Q) := Zgo_iff (i := .istore 4) (len := 2) (a := 0) (b := 0) (c := 0) (p := 0) rfl
theorem zg_117_39 : Zgo d 117 39 L st S Q ↔ (zldi L 4 False fun x => Zgo d 117 41 L (zi x :: st) S Q) := Zgo_iff (i := .iload 4) (len := 2) (a := 0) (b := 0) (c := 0) (p := 0) rfl
theorem zg_117_41 : Zgo d 117 41 L st S Q ↔ (Zgo d 117 43 L (zi 48 :: st) S Q) := Zgo_iff (i := .bipush 48) (len := 2) (a := 0) (b := 0) (c := 0) (p := 0) rfl
theorem zg_117_43 : Zgo d 117 43 L st S Q ↔ (zpi st False fun y t => zpi t False fun x t => if zw x = zw y then Zgo d 117 53 L t S Q else Zgo d 117 46 L t S Q) := Zgo_iff (i := .if_icmp .eq 10) (len := 3) (a := 0) (b := 0) (c := 0) (p := 0) rfl
theorem zg_117_46 : Zgo d 117 46 L st S Q ↔ (zldi L 4 False fun x => Zgo d 117 48 L (zi x :: st) S Q) := Zgo_iff (i := .iload 4) (len := 2) (a := 0) (b := 0) (c := 0) (p := 0) rfl
theorem zg_117_48 : Zgo d 117 48 L st S Q ↔ (Zgo d 117 50 L (zi 97 :: st) S Q) := Zgo_iff (i := .bipush 97) (len := 2) (a := 0) (b := 0) (c := 0) (p := 0) rfl
theorem zg_117_50 : Zgo d 117 50 L st S Q ↔ (zpi st False fun y t => zpi t False fun x t => if zw x = zw y then Zgo d 117 53 L t S Q else Zgo d 117 92 L t S Q) := Zgo_iff (i := .if_icmp .ne 42) (len := 3) (a := 0) (b := 0) (c := 0) (p := 0) rfl
theorem zg_117_53 : Zgo d 117 53 L st S Q ↔ (zlda L 0 False fun r => Zgo d 117 54 L (zq r :: st) S Q) := Zgo_iff (i := .aload_n 0) (len := 1) (a := 0) (b := 0) (c := 0) (p := 0) rfl
theorem zg_117_54 : Zgo d 117 54 L st S Q ↔ (zpa st False fun r t => zde r 11 False fun o => Zgo d 117 57 L (zq (S.2.1 11 o 54) :: t) S Q) := Zgo_iff (i := .getfield 116) (len := 3) (a := 11) (b := 54) (c := 3) (p := 4184) rfl
theorem zg_117_57 : Zgo d 117 57 L st S Q ↔ (zldi L 2 False fun x => Zgo d 117 58 L (zi x :: st) S Q) := Zgo_iff (i := .iload_n 2) (len := 1) (a := 0) (b := 0) (c := 0) (p := 0) rfl
theorem zg_117_58 : Zgo d 117 58 L st S Q ↔ (zldi L 4 False fun x => Zgo d 117 60 L (zi x :: st) S Q) := Zgo_iff (i := .iload 4) (len := 2) (a := 0) (b := 0) (c := 0) (p := 0) rfl
theorem zg_117_60 : Zgo d 117 60 L st S Q ↔ (Zgo d 117 62 L (zi 48 :: st) S Q) := Zgo_iff (i := .bipush 48) (len := 2) (a := 0) (b := 0) (c := 0) (p := 0) rfl
theorem zg_117_62 : Zgo d 117 62 L st S Q ↔ (zpi st False fun y t => zpi t False fun x t => if zw x = zw y then Zgo d 117 65 L t S Q else Zgo d 117 74 L t S Q) := Zgo_iff (i := .if_icmp .ne 12) (len := 3) (a := 0) (b := 0) (c := 0) (p := 0) rfl
theorem zg_117_65 : Zgo d 117 65 L st S Q ↔ (zlda L 0 False fun r => Zgo d 117 66 L (zq r :: st) S Q) := Zgo_iff (i := .aload_n 0) (len := 1) (a := 0) (b := 0) (c := 0) (p := 0) rfl
theorem zg_117_66 : Zgo d 117 66 L st S Q ↔ (zpa st False fun r t => zde r 11 False fun o => Zgo d 117 69 L (zq (S.2.1 11 o 30) :: t) S Q) := Zgo_iff (i := .getfield 73) (len := 3) (a := 11) (b := 30) (c := 3) (p := 4160) rfl
theorem zg_117_69 : Zgo d 117 69 L st S Q ↔ (zldi L 3 False fun x => Zgo d 117 70 L (zi x :: st) S Q) := Zgo_iff (i := .iload_n 3) (len := 1) (a := 0) (b := 0) (c := 0) (p := 0) rfl
theorem zg_117_70 : Zgo d 117 70 L st S Q ↔ (zpi st False fun j t => zpa t False fun r t => znn r False fun q o => zop (zlen S q) False fun n => if n.1 = 0 then zix j n.2 False fun x => Zgo d 117 71 L (zi (S.1 q o x) :: t) S Q else False) := Zgo_iff (i := .iaload) (len := 1) (a := 0) (b := 0) (c := 0) (p := 0) rfl
theorem zg_117_71 : Zgo d 117 71 L st S Q ↔ (Zgo d 117 85 L st S Q) := Zgo_iff (i := .goto 14) (len := 3) (a := 0) (b := 0) (c := 0) (p := 0) rfl
theorem zg_117_74 : Zgo d 117 74 L st S Q ↔ (zlda L 0 False fun r => Zgo d 117 75 L (zq r :: st) S Q) := Zgo_iff (i := .aload_n 0) (len := 1) (a := 0) (b := 0) (c := 0) (p := 0) rfl
theorem zg_117_75 : Zgo d 117 75 L st S Q ↔ (zpa st False fun r t => zde r 11 False fun o => Zgo d 117 78 L (zq (S.2.1 11 o 33) :: t) S Q) := Zgo_iff (i := .getfield 82) (len := 3) (a := 11) (b := 33) (c := 3) (p := 4163) rfl
theorem zg_117_78 : Zgo d 117 78 L st S Q ↔ (zlda L 0 False fun r => Zgo d 117 79 L (zq r :: st) S Q) := Zgo_iff (i := .aload_n 0) (len := 1) (a := 0) (b := 0) (c := 0) (p := 0) rfl
theorem zg_117_79 : Zgo d 117 79 L st S Q ↔ (zpa st False fun r t => zde r 11 False fun o => Zgo d 117 82 L (zq (S.2.1 11 o 30) :: t) S Q) := Zgo_iff (i := .getfield 73) (len := 3) (a := 11) (b := 30) (c := 3) (p := 4160) rfl
theorem zg_117_82 : Zgo d 117 82 L st S Q ↔ (zldi L 3 False fun x => Zgo d 117 83 L (zi x :: st) S Q) := Zgo_iff (i := .iload_n 3) (len := 1) (a := 0) (b := 0) (c := 0) (p := 0) rfl
theorem zg_117_83 : Zgo d 117 83 L st S Q ↔ (zpi st False fun j t => zpa t False fun r t => znn r False fun q o => zop (zlen S q) False fun n => if n.1 = 0 then zix j n.2 False fun x => Zgo d 117 84 L (zi (S.1 q o x) :: t) S Q else False) := Zgo_iff (i := .iaload) (len := 1) (a := 0) (b := 0) (c := 0) (p := 0) rfl
theorem zg_117_84 : Zgo d 117 84 L st S Q ↔ (zpi st False fun j t => zpa t False fun r t => znn r False fun q o => zop (zlen S q) False fun n => if n.1 = 0 then zix j n.2 False fun x => Zgo d 117 85 L (zi (S.1 q o x) :: t) S Q else False) := Zgo_iff (i := .iaload) (len := 1) (a := 0) (b := 0) (c := 0) (p := 0) rfl
theorem zg_117_85 : Zgo d 117 85 L st S Q ↔ (zpi st False fun v t => zpi t False fun j t => zpa t False fun r t => znn r False fun q o => zop (zArr q) False fun n => if n.1 = 0 then zix j n.2 False fun x => Zgo d 117 86 L t (zsI S.1 q o x v, S.2) Q else False) := Zgo_iff (i := .iastore) (len := 1) (a := 0) (b := 0) (c := 0) (p := 0) rfl
theorem zg_117_86 : Zgo d 117 86 L st S Q ↔ (zldi L 2 False fun x => Zgo d 117 89 (zst L 2 (some (zi (x + 1)))) st S Q) := Zgo_iff (i := .iinc 2 1) (len := 3) (a := 0) (b := 0) (c := 0) (p := 0) rfl
theorem zg_117_89 : Zgo d 117 89 L st S Q ↔ (Zgo d 117 248 L st S Q) := Zgo_iff (i := .goto 159) (len := 3) (a := 0) (b := 0) (c := 0) (p := 0) rfl
theorem zg_117_92 : Zgo d 117 92 L st S Q ↔ (zlda L 0 False fun r => Zgo d 117 93 L (zq r :: st) S Q) := Zgo_iff (i := .aload_n 0) (len := 1) (a := 0) (b := 0) (c := 0) (p := 0) rfl
theorem zg_117_93 : Zgo d 117 93 L st S Q ↔ (zpa st False fun r t => zde r 11 False fun o => Zgo d 117 96 L (zq (S.2.1 11 o 54) :: t) S Q) := Zgo_iff (i := .getfield 116) (len := 3) (a := 11) (b := 54) (c := 3) (p := 4184) rfl
theorem zg_117_96 : Zgo d 117 96 L st S Q ↔ (zldi L 2 False fun x => Zgo d 117 97 L (zi x :: st) S Q) := Zgo_iff (i := .iload_n 2) (len := 1) (a := 0) (b := 0) (c := 0) (p := 0) rfl
theorem zg_117_97 : Zgo d 117 97 L st S Q ↔ (Zgo d 117 98 L (zi 1 :: st) S Q) := Zgo_iff (i := .iconst 1) (len := 1) (a := 0) (b := 0) (c := 0) (p := 0) rfl
theorem zg_117_98 : Zgo d 117 98 L st S Q ↔ (zpi st False fun y t => zpi t False fun x t => Zgo d 117 99 L (zi (x - y) :: t) S Q) := Zgo_iff (i := .isub) (len := 1) (a := 0) (b := 0) (c := 0) (p := 0) rfl
theorem zg_117_99 : Zgo d 117 99 L st S Q ↔ (zpi st False fun j t => zpa t False fun r t => znn r False fun q o => zop (zlen S q) False fun n => if n.1 = 0 then zix j n.2 False fun x => Zgo d 117 100 L (zi (S.1 q o x) :: t) S Q else False) := Zgo_iff (i := .iaload) (len := 1) (a := 0) (b := 0) (c := 0) (p := 0) rfl
theorem zg_117_100 : Zgo d 117 100 L st S Q ↔ (zpi st False fun x t => Zgo d 117 102 (zst L 5 (some (zi x))) t S Q) := Zgo_iff (i := .istore 5) (len := 2) (a := 0) (b := 0) (c := 0) (p := 0) rfl
theorem zg_117_102 : Zgo d 117 102 L st S Q ↔ (zlda L 0 False fun r => Zgo d 117 103 L (zq r :: st) S Q) := Zgo_iff (i := .aload_n 0) (len := 1) (a := 0) (b := 0) (c := 0) (p := 0) rfl
theorem zg_117_103 : Zgo d 117 103 L st S Q ↔ (zpa st False fun r t => zde r 11 False fun o => Zgo d 117 106 L (zq (S.2.1 11 o 54) :: t) S Q) := Zgo_iff (i := .getfield 116) (len := 3) (a := 11) (b := 54) (c := 3) (p := 4184) rfl
theorem zg_117_106 : Zgo d 117 106 L st S Q ↔ (zldi L 2 False fun x => Zgo d 117 107 L (zi x :: st) S Q) := Zgo_iff (i := .iload_n 2) (len := 1) (a := 0) (b := 0) (c := 0) (p := 0) rfl
theorem zg_117_107 : Zgo d 117 107 L st S Q ↔ (Zgo d 117 108 L (zi 2 :: st) S Q) := Zgo_iff (i := .iconst 2) (len := 1) (a := 0) (b := 0) (c := 0) (p := 0) rfl
theorem zg_117_108 : Zgo d 117 108 L st S Q ↔ (zpi st False fun y t => zpi t False fun x t => Zgo d 117 109 L (zi (x - y) :: t) S Q) := Zgo_iff (i := .isub) (len := 1) (a := 0) (b := 0) (c := 0) (p := 0) rfl
theorem zg_117_109 : Zgo d 117 109 L st S Q ↔ (zpi st False fun j t => zpa t False fun r t => znn r False fun q o => zop (zlen S q) False fun n => if n.1 = 0 then zix j n.2 False fun x => Zgo d 117 110 L (zi (S.1 q o x) :: t) S Q else False) := Zgo_iff (i := .iaload) (len := 1) (a := 0) (b := 0) (c := 0) (p := 0) rfl
theorem zg_117_110 : Zgo d 117 110 L st S Q ↔ (zpi st False fun x t => Zgo d 117 112 (zst L 6 (some (zi x))) t S Q) := Zgo_iff (i := .istore 6) (len := 2) (a := 0) (b := 0) (c := 0) (p := 0) rfl
theorem zg_117_112 : Zgo d 117 112 L st S Q ↔ (zlda L 0 False fun r => Zgo d 117 113 L (zq r :: st) S Q) := Zgo_iff (i := .aload_n 0) (len := 1) (a := 0) (b := 0) (c := 0) (p := 0) rfl
theorem zg_117_113 : Zgo d 117 113 L st S Q ↔ (zldi L 4 False fun x => Zgo d 117 115 L (zi x :: st) S Q) := Zgo_iff (i := .iload 4) (len := 2) (a := 0) (b := 0) (c := 0) (p := 0) rfl
theorem zg_117_115 : Zgo d 117 115 L st S Q ↔ (Zgo d 117 117 L (zi 47 :: st) S Q) := Zgo_iff (i := .bipush 47) (len := 2) (a := 0) (b := 0) (c := 0) (p := 0) rfl
theorem zg_117_117 : Zgo d 117 117 L st S Q ↔ (zpi st False fun y t => zpi t False fun x t => if zw x = zw y then Zgo d 117 120 L t S Q else Zgo d 117 129 L t S Q) := Zgo_iff (i := .if_icmp .ne 12) (len := 3) (a := 0) (b := 0) (c := 0) (p := 0) rfl
theorem zg_117_120 : Zgo d 117 120 L st S Q ↔ (zldi L 5 False fun x => Zgo d 117 122 L (zi x :: st) S Q) := Zgo_iff (i := .iload 5) (len := 2) (a := 0) (b := 0) (c := 0) (p := 0) rfl
theorem zg_117_122 : Zgo d 117 122 L st S Q ↔ (zpi st False fun x t => if zw x = zw 0 then Zgo d 117 125 L t S Q else Zgo d 117 129 L t S Q) := Zgo_iff (i := .ifCond .ne 7) (len := 3) (a := 0) (b := 0) (c := 0) (p := 0) rfl
theorem zg_117_125 : Zgo d 117 125 L st S Q ↔ (Zgo d 117 126 L (zi 1 :: st) S Q) := Zgo_iff (i := .iconst 1) (len := 1) (a := 0) (b := 0) (c := 0) (p := 0) rfl
theorem zg_117_126 : Zgo d 117 126 L st S Q ↔ (Zgo d 117 130 L st S Q) := Zgo_iff (i := .goto 4) (len := 3) (a := 0) (b := 0) (c := 0) (p := 0) rfl
theorem zg_117_129 : Zgo d 117 129 L st S Q ↔ (Zgo d 117 130 L (zi 0 :: st) S Q) := Zgo_iff (i := .iconst 0) (len := 1) (a := 0) (b := 0) (c := 0) (p := 0) rfl
theorem zg_117_130 : Zgo d 117 130 L st S Q ↔ (zpi st False fun v t => zpa t False fun r t => zde r 11 False fun o => zok 1 v False (Zgo d 117 133 L t (zsI S.1 11 o 55 v, S.2) Q)) := Zgo_iff (i := .putfield 240) (len := 3) (a := 11) (b := 55) (c := 1) (p := 4185) rfl
theorem zg_117_133 : Zgo d 117 133 L st S Q ↔ (zldi L 2 False fun x => Zgo d 117 136 (zst L 2 (some (zi (x + (-1))))) st S Q) := Zgo_iff (i := .iinc 2 (-1)) (len := 3) (a := 0) (b := 0) (c := 0) (p := 0) rfl
theorem zg_117_136 : Zgo d 117 136 L st S Q ↔ (zlda L 0 False fun r => Zgo d 117 137 L (zq r :: st) S Q) := Zgo_iff (i := .aload_n 0) (len := 1) (a := 0) (b := 0) (c := 0) (p := 0) rfl
theorem zg_117_137 : Zgo d 117 137 L st S Q ↔ (zpa st False fun r t => zde r 11 False fun o => Zgo d 117 140 L (zq (S.2.1 11 o 54) :: t) S Q) := Zgo_iff (i := .getfield 116) (len := 3) (a := 11) (b := 54) (c := 3) (p := 4184) rfl
theorem zg_117_140 : Zgo d 117 140 L st S Q ↔ (zldi L 2 False fun x => Zgo d 117 141 L (zi x :: st) S Q) := Zgo_iff (i := .iload_n 2) (len := 1) (a := 0) (b := 0) (c := 0) (p := 0) rfl
theorem zg_117_141 : Zgo d 117 141 L st S Q ↔ (Zgo d 117 142 L (zi 1 :: st) S Q) := Zgo_iff (i := .iconst 1) (len := 1) (a := 0) (b := 0) (c := 0) (p := 0) rfl
theorem zg_117_142 : Zgo d 117 142 L st S Q ↔ (zpi st False fun y t => zpi t False fun x t => Zgo d 117 143 L (zi (x - y) :: t) S Q) := Zgo_iff (i := .isub) (len := 1) (a := 0) (b := 0) (c := 0) (p := 0) rfl
theorem zg_117_143 : Zgo d 117 143 L st S Q ↔ (zldi L 4 False fun x => Zgo d 117 145 L (zi x :: st) S Q) := Zgo_iff (i := .iload 4) (len := 2) (a := 0) (b := 0) (c := 0) (p := 0) rfl
theorem zg_117_145 : Zgo d 117 145 L st S Q ↔ (Zgo d 117 147 L (zi 43 :: st) S Q) := Zgo_iff (i := .bipush 43) (len := 2) (a := 0) (b := 0) (c := 0) (p := 0) rfl
theorem zg_117_147 : Zgo d 117 147 L st S Q ↔ (zpi st False fun y t => zpi t False fun x t => if zw x = zw y then Zgo d 117 150 L t S Q else Zgo d 117 158 L t S Q) := Zgo_iff (i := .if_icmp .ne 11) (len := 3) (a := 0) (b := 0) (c := 0) (p := 0) rfl
theorem zg_117_150 : Zgo d 117 150 L st S Q ↔ (zldi L 6 False fun x => Zgo d 117 152 L (zi x :: st) S Q) := Zgo_iff (i := .iload 6) (len := 2) (a := 0) (b := 0) (c := 0) (p := 0) rfl
theorem zg_117_152 : Zgo d 117 152 L st S Q ↔ (zldi L 5 False fun x => Zgo d 117 154 L (zi x :: st) S Q) := Zgo_iff (i := .iload 5) (len := 2) (a := 0) (b := 0) (c := 0) (p := 0) rfl
theorem zg_117_154 : Zgo d 117 154 L st S Q ↔ (zpi st False fun y t => zpi t False fun x t => Zgo d 117 155 L (zi (x + y) :: t) S Q) := Zgo_iff (i := .iadd) (len := 1) (a := 0) (b := 0) (c := 0) (p := 0) rfl
theorem zg_117_155 : Zgo d 117 155 L st S Q ↔ (Zgo d 117 247 L st S Q) := Zgo_iff (i := .goto 92) (len := 3) (a := 0) (b := 0) (c := 0) (p := 0) rfl
theorem zg_117_158 : Zgo d 117 158 L st S Q ↔ (zldi L 4 False fun x => Zgo d 117 160 L (zi x :: st) S Q) := Zgo_iff (i := .iload 4) (len := 2) (a := 0) (b := 0) (c := 0) (p := 0) rfl
theorem zg_117_160 : Zgo d 117 160 L st S Q ↔ (Zgo d 117 162 L (zi 45 :: st) S Q) := Zgo_iff (i := .bipush 45) (len := 2) (a := 0) (b := 0) (c := 0) (p := 0) rfl
theorem zg_117_162 : Zgo d 117 162 L st S Q ↔ (zpi st False fun y t => zpi t False fun x t => if zw x = zw y then Zgo d 117 165 L t S Q else Zgo d 117 173 L t S Q) := Zgo_iff (i := .if_icmp .ne 11) (len := 3) (a := 0) (b := 0) (c := 0) (p := 0) rfl
theorem zg_117_165 : Zgo d 117 165 L st S Q ↔ (zldi L 6 False fun x => Zgo d 117 167 L (zi x :: st) S Q) := Zgo_iff (i := .iload 6) (len := 2) (a := 0) (b := 0) (c := 0) (p := 0) rfl
theorem zg_117_167 : Zgo d 117 167 L st S Q ↔ (zldi L 5 False fun x => Zgo d 117 169 L (zi x :: st) S Q) := Zgo_iff (i := .iload 5) (len := 2) (a := 0) (b := 0) (c := 0) (p := 0) rfl
theorem zg_117_169 : Zgo d 117 169 L st S Q ↔ (zpi st False fun y t => zpi t False fun x t => Zgo d 117 170 L (zi (x - y) :: t) S Q) := Zgo_iff (i := .isub) (len := 1) (a := 0) (b := 0) (c := 0) (p := 0) rfl
theorem zg_117_170 : Zgo d 117 170 L st S Q ↔ (Zgo d 117 247 L st S Q) := Zgo_iff (i := .goto 77) (len := 3) (a := 0) (b := 0) (c := 0) (p := 0) rfl
theorem zg_117_173 : Zgo d 117 173 L st S Q ↔ (zldi L 4 False fun x => Zgo d 117 175 L (zi x :: st) S Q) := Zgo_iff (i := .iload 4) (len := 2) (a := 0) (b := 0) (c := 0) (p := 0) rfl
theorem zg_117_175 : Zgo d 117 175 L st S Q ↔ (Zgo d 117 177 L (zi 42 :: st) S Q) := Zgo_iff (i := .bipush 42) (len := 2) (a := 0) (b := 0) (c := 0) (p := 0) rfl
theorem zg_117_177 : Zgo d 117 177 L st S Q ↔ (zpi st False fun y t => zpi t False fun x t => if zw x = zw y then Zgo d 117 180 L t S Q else Zgo d 117 188 L t S Q) := Zgo_iff (i := .if_icmp .ne 11) (len := 3) (a := 0) (b := 0) (c := 0) (p := 0) rfl
theorem zg_117_180 : Zgo d 117 180 L st S Q ↔ (zldi L 6 False fun x => Zgo d 117 182 L (zi x :: st) S Q) := Zgo_iff (i := .iload 6) (len := 2) (a := 0) (b := 0) (c := 0) (p := 0) rfl
theorem zg_117_182 : Zgo d 117 182 L st S Q ↔ (zldi L 5 False fun x => Zgo d 117 184 L (zi x :: st) S Q) := Zgo_iff (i := .iload 5) (len := 2) (a := 0) (b := 0) (c := 0) (p := 0) rfl
theorem zg_117_184 : Zgo d 117 184 L st S Q ↔ (zpi st False fun y t => zpi t False fun x t => Zgo d 117 185 L (zi (x * y) :: t) S Q) := Zgo_iff (i := .imul) (len := 1) (a := 0) (b := 0) (c := 0) (p := 0) rfl
theorem zg_117_185 : Zgo d 117 185 L st S Q ↔ (Zgo d 117 247 L st S Q) := Zgo_iff (i := .goto 62) (len := 3) (a := 0) (b := 0) (c := 0) (p := 0) rfl
theorem zg_117_188 : Zgo d 117 188 L st S Q ↔ (zldi L 4 False fun x => Zgo d 117 190 L (zi x :: st) S Q) := Zgo_iff (i := .iload 4) (len := 2) (a := 0) (b := 0) (c := 0) (p := 0) rfl
theorem zg_117_190 : Zgo d 117 190 L st S Q ↔ (Zgo d 117 192 L (zi 60 :: st) S Q) := Zgo_iff (i := .bipush 60) (len := 2) (a := 0) (b := 0) (c := 0) (p := 0) rfl
theorem zg_117_192 : Zgo d 117 192 L st S Q ↔ (zpi st False fun y t => zpi t False fun x t => if zw x = zw y then Zgo d 117 195 L t S Q else Zgo d 117 210 L t S Q) := Zgo_iff (i := .if_icmp .ne 18) (len := 3) (a := 0) (b := 0) (c := 0) (p := 0) rfl
theorem zg_117_195 : Zgo d 117 195 L st S Q ↔ (zldi L 6 False fun x => Zgo d 117 197 L (zi x :: st) S Q) := Zgo_iff (i := .iload 6) (len := 2) (a := 0) (b := 0) (c := 0) (p := 0) rfl
theorem zg_117_197 : Zgo d 117 197 L st S Q ↔ (zldi L 5 False fun x => Zgo d 117 199 L (zi x :: st) S Q) := Zgo_iff (i := .iload 5) (len := 2) (a := 0) (b := 0) (c := 0) (p := 0) rfl
theorem zg_117_199 : Zgo d 117 199 L st S Q ↔ (zpi st False fun y t => zpi t False fun x t => if zw x < zw y then Zgo d 117 202 L t S Q else Zgo d 117 206 L t S Q) := Zgo_iff (i := .if_icmp .ge 7) (len := 3) (a := 0) (b := 0) (c := 0) (p := 0) rfl
theorem zg_117_202 : Zgo d 117 202 L st S Q ↔ (Zgo d 117 203 L (zi 1 :: st) S Q) := Zgo_iff (i := .iconst 1) (len := 1) (a := 0) (b := 0) (c := 0) (p := 0) rfl
theorem zg_117_203 : Zgo d 117 203 L st S Q ↔ (Zgo d 117 247 L st S Q) := Zgo_iff (i := .goto 44) (len := 3) (a := 0) (b := 0) (c := 0) (p := 0) rfl
theorem zg_117_206 : Zgo d 117 206 L st S Q ↔ (Zgo d 117 207 L (zi 0 :: st) S Q) := Zgo_iff (i := .iconst 0) (len := 1) (a := 0) (b := 0) (c := 0) (p := 0) rfl
theorem zg_117_207 : Zgo d 117 207 L st S Q ↔ (Zgo d 117 247 L st S Q) := Zgo_iff (i := .goto 40) (len := 3) (a := 0) (b := 0) (c := 0) (p := 0) rfl
theorem zg_117_210 : Zgo d 117 210 L st S Q ↔ (zlda L 0 False fun r => Zgo d 117 211 L (zq r :: st) S Q) := Zgo_iff (i := .aload_n 0) (len := 1) (a := 0) (b := 0) (c := 0) (p := 0) rfl
theorem zg_117_211 : Zgo d 117 211 L st S Q ↔ (zpa st False fun r t => zde r 11 False fun o => Zgo d 117 214 L (zi (S.1 11 o 55) :: t) S Q) := Zgo_iff (i := .getfield 240) (len := 3) (a := 11) (b := 55) (c := 1) (p := 4185) rfl
theorem zg_117_214 : Zgo d 117 214 L st S Q ↔ (zpi st False fun x t => if zw x = zw 0 then Zgo d 117 221 L t S Q else Zgo d 117 217 L t S Q) := Zgo_iff (i := .ifCond .eq 7) (len := 3) (a := 0) (b := 0) (c := 0) (p := 0) rfl
theorem zg_117_217 : Zgo d 117 217 L st S Q ↔ (Zgo d 117 218 L (zi 0 :: st) S Q) := Zgo_iff (i := .iconst 0) (len := 1) (a := 0) (b := 0) (c := 0) (p := 0) rfl
theorem zg_117_218 : Zgo d 117 218 L st S Q ↔ (Zgo d 117 247 L st S Q) := Zgo_iff (i := .goto 29) (len := 3) (a := 0) (b := 0) (c := 0) (p := 0) rfl
theorem zg_117_221 : Zgo d 117 221 L st S Q ↔ (zldi L 5 False fun x => Zgo d 117 223 L (zi x :: st) S Q) := Zgo_iff (i := .iload 5) (len := 2) (a := 0) (b := 0) (c := 0) (p := 0) rfl
theorem zg_117_223 : Zgo d 117 223 L st S Q ↔ (Zgo d 117 224 L (zi (-1) :: st) S Q) := Zgo_iff (i := .iconst (-1)) (len := 1) (a := 0) (b := 0) (c := 0) (p := 0) rfl
theorem zg_117_224 : Zgo d 117 224 L st S Q ↔ (zpi st False fun y t => zpi t False fun x t => if zw x = zw y then Zgo d 117 227 L t S Q else Zgo d 117 233 L t S Q) := Zgo_iff (i := .if_icmp .ne 9) (len := 3) (a := 0) (b := 0) (c := 0) (p := 0) rfl
theorem zg_117_227 : Zgo d 117 227 L st S Q ↔ (zldi L 6 False fun x => Zgo d 117 229 L (zi x :: st) S Q) := Zgo_iff (i := .iload 6) (len := 2) (a := 0) (b := 0) (c := 0) (p := 0) rfl
theorem zg_117_229 : Zgo d 117 229 L st S Q ↔ (zpi st False fun x t => Zgo d 117 230 L (zi (-x) :: t) S Q) := Zgo_iff (i := .ineg) (len := 1) (a := 0) (b := 0) (c := 0) (p := 0) rfl
theorem zg_117_230 : Zgo d 117 230 L st S Q ↔ (Zgo d 117 247 L st S Q) := Zgo_iff (i := .goto 17) (len := 3) (a := 0) (b := 0) (c := 0) (p := 0) rfl
theorem zg_117_233 : Zgo d 117 233 L st S Q ↔ (zldi L 6 False fun x => Zgo d 117 235 L (zi x :: st) S Q) := Zgo_iff (i := .iload 6) (len := 2) (a := 0) (b := 0) (c := 0) (p := 0) rfl
theorem zg_117_235 : Zgo d 117 235 L st S Q ↔ (zldi L 5 False fun x => Zgo d 117 237 L (zi x :: st) S Q) := Zgo_iff (i := .iload 5) (len := 2) (a := 0) (b := 0) (c := 0) (p := 0) rfl
theorem zg_117_237 : Zgo d 117 237 L st S Q ↔ (zpi st False fun x t => if zw x = zw 0 then Zgo d 117 240 L t S Q else Zgo d 117 244 L t S Q) := Zgo_iff (i := .ifCond .ne 7) (len := 3) (a := 0) (b := 0) (c := 0) (p := 0) rfl
theorem zg_117_240 : Zgo d 117 240 L st S Q ↔ (Zgo d 117 241 L (zi 1 :: st) S Q) := Zgo_iff (i := .iconst 1) (len := 1) (a := 0) (b := 0) (c := 0) (p := 0) rfl
theorem zg_117_241 : Zgo d 117 241 L st S Q ↔ (Zgo d 117 246 L st S Q) := Zgo_iff (i := .goto 5) (len := 3) (a := 0) (b := 0) (c := 0) (p := 0) rfl
theorem zg_117_244 : Zgo d 117 244 L st S Q ↔ (zldi L 5 False fun x => Zgo d 117 246 L (zi x :: st) S Q) := Zgo_iff (i := .iload 5) (len := 2) (a := 0) (b := 0) (c := 0) (p := 0) rfl
theorem zg_117_246 : Zgo d 117 246 L st S Q ↔ (zpi st False fun y t => zpi t False fun x t => if zw y = 0 then False else Zgo d 117 247 L (zi (zdiv x y) :: t) S Q) := Zgo_iff (i := .idiv) (len := 1) (a := 0) (b := 0) (c := 0) (p := 0) rfl
theorem zg_117_247 : Zgo d 117 247 L st S Q ↔ (zpi st False fun v t => zpi t False fun j t => zpa t False fun r t => znn r False fun q o => zop (zArr q) False fun n => if n.1 = 0 then zix j n.2 False fun x => Zgo d 117 248 L t (zsI S.1 q o x v, S.2) Q else False) := Zgo_iff (i := .iastore) (len := 1) (a := 0) (b := 0) (c := 0) (p := 0) rfl
theorem zg_117_248 : Zgo d 117 248 L st S Q ↔ (zldi L 3 False fun x => Zgo d 117 251 (zst L 3 (some (zi (x + 1)))) st S Q) := Zgo_iff (i := .iinc 3 1) (len := 3) (a := 0) (b := 0) (c := 0) (p := 0) rfl
theorem zg_117_251 : Zgo d 117 251 L st S Q ↔ (Zgo d 117 14 L st S Q) := Zgo_iff (i := .goto (-237)) (len := 3) (a := 0) (b := 0) (c := 0) (p := 0) rfl
theorem zg_117_254 : Zgo d 117 254 L st S Q ↔ (zlda L 0 False fun r => Zgo d 117 255 L (zq r :: st) S Q) := Zgo_iff (i := .aload_n 0) (len := 1) (a := 0) (b := 0) (c := 0) (p := 0) rfl
theorem zg_117_255 : Zgo d 117 255 L st S Q ↔ (zpa st False fun r t => zde r 11 False fun o => Zgo d 117 258 L (zi (S.1 11 o 55) :: t) S Q) := Zgo_iff (i := .getfield 240) (len := 3) (a := 11) (b := 55) (c := 1) (p := 4185) rfl
theorem zg_117_258 : Zgo d 117 258 L st S Q ↔ (zpi st False fun x t => if zw x = zw 0 then Zgo d 117 268 L t S Q else Zgo d 117 261 L t S Q) := Zgo_iff (i := .ifCond .eq 10) (len := 3) (a := 0) (b := 0) (c := 0) (p := 0) rfl
theorem zg_117_261 : Zgo d 117 261 L st S Q ↔ (zlda L 0 False fun r => Zgo d 117 262 L (zq r :: st) S Q) := Zgo_iff (i := .aload_n 0) (len := 1) (a := 0) (b := 0) (c := 0) (p := 0) rfl
theorem zg_117_262 : Zgo d 117 262 L st S Q ↔ (Zgo d 117 263 L (zi 4 :: st) S Q) := Zgo_iff (i := .iconst 4) (len := 1) (a := 0) (b := 0) (c := 0) (p := 0) rfl
theorem zg_117_263 : Zgo d 117 263 L st S Q ↔ (Zgo d 117 264 L (zi 5 :: st) S Q) := Zgo_iff (i := .iconst 5) (len := 1) (a := 0) (b := 0) (c := 0) (p := 0) rfl
theorem zg_117_264 : Zgo d 117 264 L st S Q ↔ (Zgo d 117 265 L (zi 0 :: st) S Q) := Zgo_iff (i := .iconst 0) (len := 1) (a := 0) (b := 0) (c := 0) (p := 0) rfl
theorem zg_117_265 : Zgo d 117 265 L st S Q ↔ (zinv 4 st False fun as t => zrec as 11 False (zCp d 111 as S fun r S2 => Zgo d 117 268 L (r.toList ++ t) S2 Q)) := Zgo_iff (i := .invokevirtual 243) (len := 3) (a := 111) (b := 4) (c := 0) (p := 5177) rfl
theorem zg_117_268 : Zgo d 117 268 L st S Q ↔ (zlda L 0 False fun r => Zgo d 117 269 L (zq r :: st) S Q) := Zgo_iff (i := .aload_n 0) (len := 1) (a := 0) (b := 0) (c := 0) (p := 0) rfl
theorem zg_117_269 : Zgo d 117 269 L st S Q ↔ (zpa st False fun r t => zde r 11 False fun o => Zgo d 117 272 L (zq (S.2.1 11 o 54) :: t) S Q) := Zgo_iff (i := .getfield 116) (len := 3) (a := 11) (b := 54) (c := 3) (p := 4184) rfl
theorem zg_117_272 : Zgo d 117 272 L st S Q ↔ (Zgo d 117 273 L (zi 0 :: st) S Q) := Zgo_iff (i := .iconst 0) (len := 1) (a := 0) (b := 0) (c := 0) (p := 0) rfl
theorem zg_117_273 : Zgo d 117 273 L st S Q ↔ (zpi st False fun j t => zpa t False fun r t => znn r False fun q o => zop (zlen S q) False fun n => if n.1 = 0 then zix j n.2 False fun x => Zgo d 117 274 L (zi (S.1 q o x) :: t) S Q else False) := Zgo_iff (i := .iaload) (len := 1) (a := 0) (b := 0) (c := 0) (p := 0) rfl
theorem zg_117_274 : Zgo d 117 274 L st S Q ↔ (zpi st False fun x t => zem t False (Q (some (zi x)) S)) := Zgo_iff (i := .ireturn) (len := 1) (a := 0) (b := 0) (c := 0) (p := 0) rfl
/-- LeavingMachineModel.again(I)V -/
theorem zg_118_0 : Zgo d 118 0 L st S Q ↔ (zlda L 0 False fun r => Zgo d 118 1 L (zq r :: st) S Q) := Zgo_iff (i := .aload_n 0) (len := 1) (a := 0) (b := 0) (c := 0) (p := 0) rfl
theorem zg_118_1 : Zgo d 118 1 L st S Q ↔ (zpa st False fun r t => zde r 11 False fun o => Zgo d 118 4 L (zq (S.2.1 11 o 25) :: t) S Q) := Zgo_iff (i := .getfield 61) (len := 3) (a := 11) (b := 25) (c := 3) (p := 4155) rfl
theorem zg_118_4 : Zgo d 118 4 L st S Q ↔ (zlda L 0 False fun r => Zgo d 118 5 L (zq r :: st) S Q) := Zgo_iff (i := .aload_n 0) (len := 1) (a := 0) (b := 0) (c := 0) (p := 0) rfl
theorem zg_118_5 : Zgo d 118 5 L st S Q ↔ (zldi L 1 False fun x => Zgo d 118 6 L (zi x :: st) S Q) := Zgo_iff (i := .iload_n 1) (len := 1) (a := 0) (b := 0) (c := 0) (p := 0) rfl
theorem zg_118_6 : Zgo d 118 6 L st S Q ↔ (Zgo d 118 8 L (zi 89 :: st) S Q) := Zgo_iff (i := .bipush 89) (len := 2) (a := 0) (b := 0) (c := 0) (p := 0) rfl
theorem zg_118_8 : Zgo d 118 8 L st S Q ↔ (Zgo d 118 9 L (zi 2 :: st) S Q) := Zgo_iff (i := .iconst 2) (len := 1) (a := 0) (b := 0) (c := 0) (p := 0) rfl
theorem zg_118_9 : Zgo d 118 9 L st S Q ↔ (Zgo d 118 10 L (zi 4 :: st) S Q) := Zgo_iff (i := .iconst 4) (len := 1) (a := 0) (b := 0) (c := 0) (p := 0) rfl
theorem zg_118_10 : Zgo d 118 10 L st S Q ↔ (zinv 5 st False fun as t => zrec as 11 False (zCp d 105 as S fun r S2 => Zgo d 118 13 L (r.toList ++ t) S2 Q)) := Zgo_iff (i := .invokevirtual 199) (len := 3) (a := 105) (b := 5) (c := 0) (p := 5154) rfl
theorem zg_118_13 : Zgo d 118 13 L st S Q ↔ (zpi st False fun j t => zpa t False fun r t => znn r False fun q o => zop (zlen S q) False fun n => if n.1 = 0 then zix j n.2 False fun x => Zgo d 118 14 L (zi (S.1 q o x) :: t) S Q else False) := Zgo_iff (i := .iaload) (len := 1) (a := 0) (b := 0) (c := 0) (p := 0) rfl
theorem zg_118_14 : Zgo d 118 14 L st S Q ↔ (zpi st False fun x t => Zgo d 118 15 (zst L 2 (some (zi x))) t S Q) := Zgo_iff (i := .istore_n 2) (len := 1) (a := 0) (b := 0) (c := 0) (p := 0) rfl
theorem zg_118_15 : Zgo d 118 15 L st S Q ↔ (zlda L 0 False fun r => Zgo d 118 16 L (zq r :: st) S Q) := Zgo_iff (i := .aload_n 0) (len := 1) (a := 0) (b := 0) (c := 0) (p := 0) rfl
theorem zg_118_16 : Zgo d 118 16 L st S Q ↔ (zpa st False fun r t => zde r 11 False fun o => Zgo d 118 19 L (zi (S.1 11 o 41) :: t) S Q) := Zgo_iff (i := .getfield 256) (len := 3) (a := 11) (b := 41) (c := 0) (p := 4171) rfl
theorem zg_118_19 : Zgo d 118 19 L st S Q ↔ (Zgo d 118 20 L (zi 1 :: st) S Q) := Zgo_iff (i := .iconst 1) (len := 1) (a := 0) (b := 0) (c := 0) (p := 0) rfl
theorem zg_118_20 : Zgo d 118 20 L st S Q ↔ (zpi st False fun y t => zpi t False fun x t => Zgo d 118 21 L (zi (x - y) :: t) S Q) := Zgo_iff (i := .isub) (len := 1) (a := 0) (b := 0) (c := 0) (p := 0) rfl
theorem zg_118_21 : Zgo d 118 21 L st S Q ↔ (zpi st False fun x t => Zgo d 118 22 (zst L 3 (some (zi x))) t S Q) := Zgo_iff (i := .istore_n 3) (len := 1) (a := 0) (b := 0) (c := 0) (p := 0) rfl
theorem zg_118_22 : Zgo d 118 22 L st S Q ↔ (zldi L 3 False fun x => Zgo d 118 23 L (zi x :: st) S Q) := Zgo_iff (i := .iload_n 3) (len := 1) (a := 0) (b := 0) (c := 0) (p := 0) rfl
theorem zg_118_23 : Zgo d 118 23 L st S Q ↔ (zpi st False fun x t => if zw 0 < zw x then Zgo d 118 26 L t S Q else Zgo d 118 52 L t S Q) := Zgo_iff (i := .ifCond .le 29) (len := 3) (a := 0) (b := 0) (c := 0) (p := 0) rfl
theorem zg_118_26 : Zgo d 118 26 L st S Q ↔ (zlda L 0 False fun r => Zgo d 118 27 L (zq r :: st) S Q) := Zgo_iff (i := .aload_n 0) (len := 1) (a := 0) (b := 0) (c := 0) (p := 0) rfl
theorem zg_118_27 : Zgo d 118 27 L st S Q ↔ (zpa st False fun r t => zde r 11 False fun o => Zgo d 118 30 L (zq (S.2.1 11 o 42) :: t) S Q) := Zgo_iff (i := .getfield 92) (len := 3) (a := 11) (b := 42) (c := 3) (p := 4172) rfl
theorem zg_118_30 : Zgo d 118 30 L st S Q ↔ (zldi L 3 False fun x => Zgo d 118 31 L (zi x :: st) S Q) := Zgo_iff (i := .iload_n 3) (len := 1) (a := 0) (b := 0) (c := 0) (p := 0) rfl
theorem zg_118_31 : Zgo d 118 31 L st S Q ↔ (zpi st False fun j t => zpa t False fun r t => znn r False fun q o => zop (zlen S q) False fun n => if n.1 = 0 then zix j n.2 False fun x => Zgo d 118 32 L (zi (S.1 q o x) :: t) S Q else False) := Zgo_iff (i := .iaload) (len := 1) (a := 0) (b := 0) (c := 0) (p := 0) rfl
theorem zg_118_32 : Zgo d 118 32 L st S Q ↔ (Zgo d 118 33 L (zi 3 :: st) S Q) := Zgo_iff (i := .iconst 3) (len := 1) (a := 0) (b := 0) (c := 0) (p := 0) rfl
theorem zg_118_33 : Zgo d 118 33 L st S Q ↔ (zpi st False fun y t => zpi t False fun x t => if zw x = zw y then Zgo d 118 36 L t S Q else Zgo d 118 46 L t S Q) := Zgo_iff (i := .if_icmp .ne 13) (len := 3) (a := 0) (b := 0) (c := 0) (p := 0) rfl
theorem zg_118_36 : Zgo d 118 36 L st S Q ↔ (zlda L 0 False fun r => Zgo d 118 37 L (zq r :: st) S Q) := Zgo_iff (i := .aload_n 0) (len := 1) (a := 0) (b := 0) (c := 0) (p := 0) rfl
theorem zg_118_37 : Zgo d 118 37 L st S Q ↔ (zpa st False fun r t => zde r 11 False fun o => Zgo d 118 40 L (zq (S.2.1 11 o 43) :: t) S Q) := Zgo_iff (i := .getfield 95) (len := 3) (a := 11) (b := 43) (c := 3) (p := 4173) rfl
theorem zg_118_40 : Zgo d 118 40 L st S Q ↔ (zldi L 3 False fun x => Zgo d 118 41 L (zi x :: st) S Q) := Zgo_iff (i := .iload_n 3) (len := 1) (a := 0) (b := 0) (c := 0) (p := 0) rfl
theorem zg_118_41 : Zgo d 118 41 L st S Q ↔ (zpi st False fun j t => zpa t False fun r t => znn r False fun q o => zop (zlen S q) False fun n => if n.1 = 0 then zix j n.2 False fun x => Zgo d 118 42 L (zi (S.1 q o x) :: t) S Q else False) := Zgo_iff (i := .iaload) (len := 1) (a := 0) (b := 0) (c := 0) (p := 0) rfl
theorem zg_118_42 : Zgo d 118 42 L st S Q ↔ (zldi L 2 False fun x => Zgo d 118 43 L (zi x :: st) S Q) := Zgo_iff (i := .iload_n 2) (len := 1) (a := 0) (b := 0) (c := 0) (p := 0) rfl
theorem zg_118_43 : Zgo d 118 43 L st S Q ↔ (zpi st False fun y t => zpi t False fun x t => if zw x = zw y then Zgo d 118 52 L t S Q else Zgo d 118 46 L t S Q) := Zgo_iff (i := .if_icmp .eq 9) (len := 3) (a := 0) (b := 0) (c := 0) (p := 0) rfl
theorem zg_118_46 : Zgo d 118 46 L st S Q ↔ (zldi L 3 False fun x => Zgo d 118 49 (zst L 3 (some (zi (x + (-1))))) st S Q) := Zgo_iff (i := .iinc 3 (-1)) (len := 3) (a := 0) (b := 0) (c := 0) (p := 0) rfl
theorem zg_118_49 : Zgo d 118 49 L st S Q ↔ (Zgo d 118 22 L st S Q) := Zgo_iff (i := .goto (-27)) (len := 3) (a := 0) (b := 0) (c := 0) (p := 0) rfl
theorem zg_118_52 : Zgo d 118 52 L st S Q ↔ (zlda L 0 False fun r => Zgo d 118 53 L (zq r :: st) S Q) := Zgo_iff (i := .aload_n 0) (len := 1) (a := 0) (b := 0) (c := 0) (p := 0) rfl
theorem zg_118_53 : Zgo d 118 53 L st S Q ↔ (Zgo d 118 54 L (zi 4 :: st) S Q) := Zgo_iff (i := .iconst 4) (len := 1) (a := 0) (b := 0) (c := 0) (p := 0) rfl
theorem zg_118_54 : Zgo d 118 54 L st S Q ↔ (zlda L 0 False fun r => Zgo d 118 55 L (zq r :: st) S Q) := Zgo_iff (i := .aload_n 0) (len := 1) (a := 0) (b := 0) (c := 0) (p := 0) rfl
theorem zg_118_55 : Zgo d 118 55 L st S Q ↔ (zpa st False fun r t => zde r 11 False fun o => Zgo d 118 58 L (zq (S.2.1 11 o 45) :: t) S Q) := Zgo_iff (i := .getfield 101) (len := 3) (a := 11) (b := 45) (c := 3) (p := 4175) rfl
theorem zg_118_58 : Zgo d 118 58 L st S Q ↔ (zldi L 3 False fun x => Zgo d 118 59 L (zi x :: st) S Q) := Zgo_iff (i := .iload_n 3) (len := 1) (a := 0) (b := 0) (c := 0) (p := 0) rfl
theorem zg_118_59 : Zgo d 118 59 L st S Q ↔ (zpi st False fun j t => zpa t False fun r t => znn r False fun q o => zop (zlen S q) False fun n => if n.1 = 0 then zix j n.2 False fun x => Zgo d 118 60 L (zi (S.1 q o x) :: t) S Q else False) := Zgo_iff (i := .iaload) (len := 1) (a := 0) (b := 0) (c := 0) (p := 0) rfl
theorem zg_118_60 : Zgo d 118 60 L st S Q ↔ (zlda L 0 False fun r => Zgo d 118 61 L (zq r :: st) S Q) := Zgo_iff (i := .aload_n 0) (len := 1) (a := 0) (b := 0) (c := 0) (p := 0) rfl
theorem zg_118_61 : Zgo d 118 61 L st S Q ↔ (zpa st False fun r t => zde r 11 False fun o => Zgo d 118 64 L (zq (S.2.1 11 o 46) :: t) S Q) := Zgo_iff (i := .getfield 104) (len := 3) (a := 11) (b := 46) (c := 3) (p := 4176) rfl
theorem zg_118_64 : Zgo d 118 64 L st S Q ↔ (zldi L 3 False fun x => Zgo d 118 65 L (zi x :: st) S Q) := Zgo_iff (i := .iload_n 3) (len := 1) (a := 0) (b := 0) (c := 0) (p := 0) rfl
theorem zg_118_65 : Zgo d 118 65 L st S Q ↔ (zpi st False fun j t => zpa t False fun r t => znn r False fun q o => zop (zlen S q) False fun n => if n.1 = 0 then zix j n.2 False fun x => Zgo d 118 66 L (zi (S.1 q o x) :: t) S Q else False) := Zgo_iff (i := .iaload) (len := 1) (a := 0) (b := 0) (c := 0) (p := 0) rfl
theorem zg_118_66 : Zgo d 118 66 L st S Q ↔ (zinv 4 st False fun as t => zrec as 11 False (zCp d 111 as S fun r S2 => Zgo d 118 69 L (r.toList ++ t) S2 Q)) := Zgo_iff (i := .invokevirtual 243) (len := 3) (a := 111) (b := 4) (c := 0) (p := 5177) rfl
theorem zg_118_69 : Zgo d 118 69 L st S Q ↔ (zem st False (Q none S)) := Zgo_iff (i := .return_) (len := 1) (a := 0) (b := 0) (c := 0) (p := 0) rfl
/-- LeavingMachineModel.call(I)V -/
theorem zg_119_0 : Zgo d 119 0 L st S Q ↔ (zlda L 0 False fun r => Zgo d 119 1 L (zq r :: st) S Q) := Zgo_iff (i := .aload_n 0) (len := 1) (a := 0) (b := 0) (c := 0) (p := 0) rfl
theorem zg_119_1 : Zgo d 119 1 L st S Q ↔ (zpa st False fun r t => zde r 11 False fun o => Zgo d 119 4 L (zi (S.1 11 o 53) :: t) S Q) := Zgo_iff (i := .getfield 262) (len := 3) (a := 11) (b := 53) (c := 0) (p := 4183) rfl
theorem zg_119_4 : Zgo d 119 4 L st S Q ↔ (Zgo d 119 6 L (zi 8 :: st) S Q) := Zgo_iff (i := .bipush 8) (len := 2) (a := 0) (b := 0) (c := 0) (p := 0) rfl
theorem zg_119_6 : Zgo d 119 6 L st S Q ↔ (zpi st False fun y t => zpi t False fun x t => if zw x = zw y then Zgo d 119 9 L t S Q else Zgo d 119 18 L t S Q) := Zgo_iff (i := .if_icmp .ne 12) (len := 3) (a := 0) (b := 0) (c := 0) (p := 0) rfl
theorem zg_119_9 : Zgo d 119 9 L st S Q ↔ (zlda L 0 False fun r => Zgo d 119 10 L (zq r :: st) S Q) := Zgo_iff (i := .aload_n 0) (len := 1) (a := 0) (b := 0) (c := 0) (p := 0) rfl
theorem zg_119_10 : Zgo d 119 10 L st S Q ↔ (Zgo d 119 11 L (zi 4 :: st) S Q) := Zgo_iff (i := .iconst 4) (len := 1) (a := 0) (b := 0) (c := 0) (p := 0) rfl
theorem zg_119_11 : Zgo d 119 11 L st S Q ↔ (Zgo d 119 13 L (zi 6 :: st) S Q) := Zgo_iff (i := .bipush 6) (len := 2) (a := 0) (b := 0) (c := 0) (p := 0) rfl
theorem zg_119_13 : Zgo d 119 13 L st S Q ↔ (Zgo d 119 14 L (zi 0 :: st) S Q) := Zgo_iff (i := .iconst 0) (len := 1) (a := 0) (b := 0) (c := 0) (p := 0) rfl
theorem zg_119_14 : Zgo d 119 14 L st S Q ↔ (zinv 4 st False fun as t => zrec as 11 False (zCp d 111 as S fun r S2 => Zgo d 119 17 L (r.toList ++ t) S2 Q)) := Zgo_iff (i := .invokevirtual 243) (len := 3) (a := 111) (b := 4) (c := 0) (p := 5177) rfl
theorem zg_119_17 : Zgo d 119 17 L st S Q ↔ (zem st False (Q none S)) := Zgo_iff (i := .return_) (len := 1) (a := 0) (b := 0) (c := 0) (p := 0) rfl
theorem zg_119_18 : Zgo d 119 18 L st S Q ↔ (zlda L 0 False fun r => Zgo d 119 19 L (zq r :: st) S Q) := Zgo_iff (i := .aload_n 0) (len := 1) (a := 0) (b := 0) (c := 0) (p := 0) rfl
theorem zg_119_19 : Zgo d 119 19 L st S Q ↔ (zp1 st False fun v t => Zgo d 119 20 L (v :: v :: t) S Q) := Zgo_iff (i := .dup) (len := 1) (a := 0) (b := 0) (c := 0) (p := 0) rfl
theorem zg_119_20 : Zgo d 119 20 L st S Q ↔ (zpa st False fun r t => zde r 11 False fun o => Zgo d 119 23 L (zi (S.1 11 o 53) :: t) S Q) := Zgo_iff (i := .getfield 262) (len := 3) (a := 11) (b := 53) (c := 0) (p := 4183) rfl
theorem zg_119_23 : Zgo d 119 23 L st S Q ↔ (Zgo d 119 24 L (zi 1 :: st) S Q) := Zgo_iff (i := .iconst 1) (len := 1) (a := 0) (b := 0) (c := 0) (p := 0) rfl
theorem zg_119_24 : Zgo d 119 24 L st S Q ↔ (zpi st False fun y t => zpi t False fun x t => Zgo d 119 25 L (zi (x + y) :: t) S Q) := Zgo_iff (i := .iadd) (len := 1) (a := 0) (b := 0) (c := 0) (p := 0) rfl
theorem zg_119_25 : Zgo d 119 25 L st S Q ↔ (zpi st False fun v t => zpa t False fun r t => zde r 11 False fun o => Zgo d 119 28 L t (zsI S.1 11 o 53 v, S.2) Q) := Zgo_iff (i := .putfield 262) (len := 3) (a := 11) (b := 53) (c := 0) (p := 4183) rfl
theorem zg_119_28 : Zgo d 119 28 L st S Q ↔ (zlda L 0 False fun r => Zgo d 119 29 L (zq r :: st) S Q) := Zgo_iff (i := .aload_n 0) (len := 1) (a := 0) (b := 0) (c := 0) (p := 0) rfl
theorem zg_119_29 : Zgo d 119 29 L st S Q ↔ (zlda L 0 False fun r => Zgo d 119 30 L (zq r :: st) S Q) := Zgo_iff (i := .aload_n 0) (len := 1) (a := 0) (b := 0) (c := 0) (p := 0) rfl
theorem zg_119_30 : Zgo d 119 30 L st S Q ↔ (zpa st False fun r t => zde r 11 False fun o => Zgo d 119 33 L (zi (S.1 11 o 53) :: t) S Q) := Zgo_iff (i := .getfield 262) (len := 3) (a := 11) (b := 53) (c := 0) (p := 4183) rfl
theorem zg_119_33 : Zgo d 119 33 L st S Q ↔ (zlda L 0 False fun r => Zgo d 119 34 L (zq r :: st) S Q) := Zgo_iff (i := .aload_n 0) (len := 1) (a := 0) (b := 0) (c := 0) (p := 0) rfl
theorem zg_119_34 : Zgo d 119 34 L st S Q ↔ (zpa st False fun r t => zde r 11 False fun o => Zgo d 119 37 L (zi (S.1 11 o 38) :: t) S Q) := Zgo_iff (i := .getfield 225) (len := 3) (a := 11) (b := 38) (c := 0) (p := 4168) rfl
theorem zg_119_37 : Zgo d 119 37 L st S Q ↔ (zpi st False fun y t => zpi t False fun x t => if zw y < zw x then Zgo d 119 40 L t S Q else Zgo d 119 47 L t S Q) := Zgo_iff (i := .if_icmp .le 10) (len := 3) (a := 0) (b := 0) (c := 0) (p := 0) rfl
theorem zg_119_40 : Zgo d 119 40 L st S Q ↔ (zlda L 0 False fun r => Zgo d 119 41 L (zq r :: st) S Q) := Zgo_iff (i := .aload_n 0) (len := 1) (a := 0) (b := 0) (c := 0) (p := 0) rfl
theorem zg_119_41 : Zgo d 119 41 L st S Q ↔ (zpa st False fun r t => zde r 11 False fun o => Zgo d 119 44 L (zi (S.1 11 o 53) :: t) S Q) := Zgo_iff (i := .getfield 262) (len := 3) (a := 11) (b := 53) (c := 0) (p := 4183) rfl
theorem zg_119_44 : Zgo d 119 44 L st S Q ↔ (Zgo d 119 51 L st S Q) := Zgo_iff (i := .goto 7) (len := 3) (a := 0) (b := 0) (c := 0) (p := 0) rfl
theorem zg_119_47 : Zgo d 119 47 L st S Q ↔ (zlda L 0 False fun r => Zgo d 119 48 L (zq r :: st) S Q) := Zgo_iff (i := .aload_n 0) (len := 1) (a := 0) (b := 0) (c := 0) (p := 0) rfl
theorem zg_119_48 : Zgo d 119 48 L st S Q ↔ (zpa st False fun r t => zde r 11 False fun o => Zgo d 119 51 L (zi (S.1 11 o 38) :: t) S Q) := Zgo_iff (i := .getfield 225) (len := 3) (a := 11) (b := 38) (c := 0) (p := 4168) rfl
theorem zg_119_51 : Zgo d 119 51 L st S Q ↔ (zpi st False fun v t => zpa t False fun r t => zde r 11 False fun o => Zgo d 119 54 L t (zsI S.1 11 o 38 v, S.2) Q) := Zgo_iff (i := .putfield 225) (len := 3) (a := 11) (b := 38) (c := 0) (p := 4168) rfl
theorem zg_119_54 : Zgo d 119 54 L st S Q ↔ (zlda L 0 False fun r => Zgo d 119 55 L (zq r :: st) S Q) := Zgo_iff (i := .aload_n 0) (len := 1) (a := 0) (b := 0) (c := 0) (p := 0) rfl
theorem zg_119_55 : Zgo d 119 55 L st S Q ↔ (Zgo d 119 56 L (zi 2 :: st) S Q) := Zgo_iff (i := .iconst 2) (len := 1) (a := 0) (b := 0) (c := 0) (p := 0) rfl
theorem zg_119_56 : Zgo d 119 56 L st S Q ↔ (zldi L 1 False fun x => Zgo d 119 57 L (zi x :: st) S Q) := Zgo_iff (i := .iload_n 1) (len := 1) (a := 0) (b := 0) (c := 0) (p := 0) rfl
theorem zg_119_57 : Zgo d 119 57 L st S Q ↔ (zinv 3 st False fun as t => zrec as 11 False (zCp d 113 as S fun r S2 => Zgo d 119 60 L (r.toList ++ t) S2 Q)) := Zgo_iff (i := .invokevirtual 259) (len := 3) (a := 113) (b := 3) (c := 0) (p := 5185) rfl
theorem zg_119_60 : Zgo d 119 60 L st S Q ↔ (zlda L 0 False fun r => Zgo d 119 61 L (zq r :: st) S Q) := Zgo_iff (i := .aload_n 0) (len := 1) (a := 0) (b := 0) (c := 0) (p := 0) rfl
theorem zg_119_61 : Zgo d 119 61 L st S Q ↔ (zlda L 0 False fun r => Zgo d 119 62 L (zq r :: st) S Q) := Zgo_iff (i := .aload_n 0) (len := 1) (a := 0) (b := 0) (c := 0) (p := 0) rfl
theorem zg_119_62 : Zgo d 119 62 L st S Q ↔ (zpa st False fun r t => zde r 11 False fun o => Zgo d 119 65 L (zq (S.2.1 11 o 9) :: t) S Q) := Zgo_iff (i := .getfield 19) (len := 3) (a := 11) (b := 9) (c := 3) (p := 4139) rfl
theorem zg_119_65 : Zgo d 119 65 L st S Q ↔ (zlda L 0 False fun r => Zgo d 119 66 L (zq r :: st) S Q) := Zgo_iff (i := .aload_n 0) (len := 1) (a := 0) (b := 0) (c := 0) (p := 0) rfl
theorem zg_119_66 : Zgo d 119 66 L st S Q ↔ (zlda L 0 False fun r => Zgo d 119 67 L (zq r :: st) S Q) := Zgo_iff (i := .aload_n 0) (len := 1) (a := 0) (b := 0) (c := 0) (p := 0) rfl
theorem zg_119_67 : Zgo d 119 67 L st S Q ↔ (zpa st False fun r t => zde r 11 False fun o => Zgo d 119 70 L (zq (S.2.1 11 o 12) :: t) S Q) := Zgo_iff (i := .getfield 25) (len := 3) (a := 11) (b := 12) (c := 3) (p := 4142) rfl
theorem zg_119_70 : Zgo d 119 70 L st S Q ↔ (zldi L 1 False fun x => Zgo d 119 71 L (zi x :: st) S Q) := Zgo_iff (i := .iload_n 1) (len := 1) (a := 0) (b := 0) (c := 0) (p := 0) rfl
theorem zg_119_71 : Zgo d 119 71 L st S Q ↔ (zpi st False fun j t => zpa t False fun r t => znn r False fun q o => zop (zlen S q) False fun n => if n.1 = 0 then zix j n.2 False fun x => Zgo d 119 72 L (zi (S.1 q o x) :: t) S Q else False) := Zgo_iff (i := .iaload) (len := 1) (a := 0) (b := 0) (c := 0) (p := 0) rfl
theorem zg_119_72 : Zgo d 119 72 L st S Q ↔ (zinv 2 st False fun as t => zrec as 11 False (zCp d 106 as S fun r S2 => Zgo d 119 75 L (r.toList ++ t) S2 Q)) := Zgo_iff (i := .invokevirtual 203) (len := 3) (a := 106) (b := 2) (c := 0) (p := 5158) rfl
theorem zg_119_75 : Zgo d 119 75 L st S Q ↔ (zpi st False fun j t => zpa t False fun r t => znn r False fun q o => zop (zlen S q) False fun n => if n.1 = 0 then zix j n.2 False fun x => Zgo d 119 76 L (zi (S.1 q o x) :: t) S Q else False) := Zgo_iff (i := .iaload) (len := 1) (a := 0) (b := 0) (c := 0) (p := 0) rfl
theorem zg_119_76 : Zgo d 119 76 L st S Q ↔ (zinv 2 st False fun as t => zrec as 11 False (zCp d 112 as S fun r S2 => Zgo d 119 79 L (r.toList ++ t) S2 Q)) := Zgo_iff (i := .invokevirtual 265) (len := 3) (a := 112) (b := 2) (c := 0) (p := 5181) rfl
theorem zg_119_79 : Zgo d 119 79 L st S Q ↔ (zem st False (Q none S)) := Zgo_iff (i := .return_) (len := 1) (a := 0) (b := 0) (c := 0) (p := 0) rfl
/-- LeavingMachineModel.finish(I)V -/
theorem zg_120_0 : Zgo d 120 0 L st S Q ↔ (zlda L 0 False fun r => Zgo d 120 1 L (zq r :: st) S Q) := Zgo_iff (i := .aload_n 0) (len := 1) (a := 0) (b := 0) (c := 0) (p := 0) rfl
theorem zg_120_1 : Zgo d 120 1 L st S Q ↔ (zpa st False fun r t => zde r 11 False fun o => Zgo d 120 4 L (zq (S.2.1 11 o 15) :: t) S Q) := Zgo_iff (i := .getfield 34) (len := 3) (a := 11) (b := 15) (c := 3) (p := 4145) rfl
theorem zg_120_4 : Zgo d 120 4 L st S Q ↔ (Zgo d 120 6 L (zi 6 :: st) S Q) := Zgo_iff (i := .bipush 6) (len := 2) (a := 0) (b := 0) (c := 0) (p := 0) rfl
theorem zg_120_6 : Zgo d 120 6 L st S Q ↔ (zlda L 0 False fun r => Zgo d 120 7 L (zq r :: st) S Q) := Zgo_iff (i := .aload_n 0) (len := 1) (a := 0) (b := 0) (c := 0) (p := 0) rfl
theorem zg_120_7 : Zgo d 120 7 L st S Q ↔ (zpa st False fun r t => zde r 11 False fun o => Zgo d 120 10 L (zq (S.2.1 11 o 43) :: t) S Q) := Zgo_iff (i := .getfield 95) (len := 3) (a := 11) (b := 43) (c := 3) (p := 4173) rfl
theorem zg_120_10 : Zgo d 120 10 L st S Q ↔ (zldi L 1 False fun x => Zgo d 120 11 L (zi x :: st) S Q) := Zgo_iff (i := .iload_n 1) (len := 1) (a := 0) (b := 0) (c := 0) (p := 0) rfl
theorem zg_120_11 : Zgo d 120 11 L st S Q ↔ (zpi st False fun j t => zpa t False fun r t => znn r False fun q o => zop (zlen S q) False fun n => if n.1 = 0 then zix j n.2 False fun x => Zgo d 120 12 L (zi (S.1 q o x) :: t) S Q else False) := Zgo_iff (i := .iaload) (len := 1) (a := 0) (b := 0) (c := 0) (p := 0) rfl
theorem zg_120_12 : Zgo d 120 12 L st S Q ↔ (zpi st False fun y t => zpi t False fun x t => Zgo d 120 13 L (zi (x * y) :: t) S Q) := Zgo_iff (i := .imul) (len := 1) (a := 0) (b := 0) (c := 0) (p := 0) rfl
theorem zg_120_13 : Zgo d 120 13 L st S Q ↔ (Zgo d 120 14 L (zi 5 :: st) S Q) := Zgo_iff (i := .iconst 5) (len := 1) (a := 0) (b := 0) (c := 0) (p := 0) rfl
theorem zg_120_14 : Zgo d 120 14 L st S Q ↔ (zpi st False fun y t => zpi t False fun x t => Zgo d 120 15 L (zi (x + y) :: t) S Q) := Zgo_iff (i := .iadd) (len := 1) (a := 0) (b := 0) (c := 0) (p := 0) rfl
theorem zg_120_15 : Zgo d 120 15 L st S Q ↔ (zpi st False fun j t => zpa t False fun r t => znn r False fun q o => zop (zlen S q) False fun n => if n.1 = 0 then zix j n.2 False fun x => Zgo d 120 16 L (zi (S.1 q o x) :: t) S Q else False) := Zgo_iff (i := .iaload) (len := 1) (a := 0) (b := 0) (c := 0) (p := 0) rfl
theorem zg_120_16 : Zgo d 120 16 L st S Q ↔ (zpi st False fun x t => Zgo d 120 17 (zst L 2 (some (zi x))) t S Q) := Zgo_iff (i := .istore_n 2) (len := 1) (a := 0) (b := 0) (c := 0) (p := 0) rfl
theorem zg_120_17 : Zgo d 120 17 L st S Q ↔ (zldi L 2 False fun x => Zgo d 120 18 L (zi x :: st) S Q) := Zgo_iff (i := .iload_n 2) (len := 1) (a := 0) (b := 0) (c := 0) (p := 0) rfl
theorem zg_120_18 : Zgo d 120 18 L st S Q ↔ (zpi st False fun x t => if zw x < zw 0 then Zgo d 120 21 L t S Q else Zgo d 120 27 L t S Q) := Zgo_iff (i := .ifCond .ge 9) (len := 3) (a := 0) (b := 0) (c := 0) (p := 0) rfl
theorem zg_120_21 : Zgo d 120 21 L st S Q ↔ (zlda L 0 False fun r => Zgo d 120 22 L (zq r :: st) S Q) := Zgo_iff (i := .aload_n 0) (len := 1) (a := 0) (b := 0) (c := 0) (p := 0) rfl
theorem zg_120_22 : Zgo d 120 22 L st S Q ↔ (zldi L 1 False fun x => Zgo d 120 23 L (zi x :: st) S Q) := Zgo_iff (i := .iload_n 1) (len := 1) (a := 0) (b := 0) (c := 0) (p := 0) rfl
theorem zg_120_23 : Zgo d 120 23 L st S Q ↔ (zpi st False fun v t => zpa t False fun r t => zde r 11 False fun o => Zgo d 120 26 L t (zsI S.1 11 o 41 v, S.2) Q) := Zgo_iff (i := .putfield 256) (len := 3) (a := 11) (b := 41) (c := 0) (p := 4171) rfl
theorem zg_120_26 : Zgo d 120 26 L st S Q ↔ (zem st False (Q none S)) := Zgo_iff (i := .return_) (len := 1) (a := 0) (b := 0) (c := 0) (p := 0) rfl
theorem zg_120_27 : Zgo d 120 27 L st S Q ↔ (zlda L 0 False fun r => Zgo d 120 28 L (zq r :: st) S Q) := Zgo_iff (i := .aload_n 0) (len := 1) (a := 0) (b := 0) (c := 0) (p := 0) rfl
theorem zg_120_28 : Zgo d 120 28 L st S Q ↔ (zpa st False fun r t => zde r 11 False fun o => Zgo d 120 31 L (zq (S.2.1 11 o 44) :: t) S Q) := Zgo_iff (i := .getfield 98) (len := 3) (a := 11) (b := 44) (c := 3) (p := 4174) rfl
theorem zg_120_31 : Zgo d 120 31 L st S Q ↔ (zldi L 1 False fun x => Zgo d 120 32 L (zi x :: st) S Q) := Zgo_iff (i := .iload_n 1) (len := 1) (a := 0) (b := 0) (c := 0) (p := 0) rfl
theorem zg_120_32 : Zgo d 120 32 L st S Q ↔ (Zgo d 120 33 L (zi 2 :: st) S Q) := Zgo_iff (i := .iconst 2) (len := 1) (a := 0) (b := 0) (c := 0) (p := 0) rfl
theorem zg_120_33 : Zgo d 120 33 L st S Q ↔ (zpi st False fun v t => zpi t False fun j t => zpa t False fun r t => znn r False fun q o => zop (zArr q) False fun n => if n.1 = 0 then zix j n.2 False fun x => Zgo d 120 34 L t (zsI S.1 q o x v, S.2) Q else False) := Zgo_iff (i := .iastore) (len := 1) (a := 0) (b := 0) (c := 0) (p := 0) rfl
theorem zg_120_34 : Zgo d 120 34 L st S Q ↔ (zlda L 0 False fun r => Zgo d 120 35 L (zq r :: st) S Q) := Zgo_iff (i := .aload_n 0) (len := 1) (a := 0) (b := 0) (c := 0) (p := 0) rfl
theorem zg_120_35 : Zgo d 120 35 L st S Q ↔ (zpa st False fun r t => zde r 11 False fun o => Zgo d 120 38 L (zq (S.2.1 11 o 47) :: t) S Q) := Zgo_iff (i := .getfield 107) (len := 3) (a := 11) (b := 47) (c := 3) (p := 4177) rfl
theorem zg_120_38 : Zgo d 120 38 L st S Q ↔ (zldi L 1 False fun x => Zgo d 120 39 L (zi x :: st) S Q) := Zgo_iff (i := .iload_n 1) (len := 1) (a := 0) (b := 0) (c := 0) (p := 0) rfl
theorem zg_120_39 : Zgo d 120 39 L st S Q ↔ (zlda L 0 False fun r => Zgo d 120 40 L (zq r :: st) S Q) := Zgo_iff (i := .aload_n 0) (len := 1) (a := 0) (b := 0) (c := 0) (p := 0) rfl
theorem zg_120_40 : Zgo d 120 40 L st S Q ↔ (zpa st False fun r t => zde r 11 False fun o => Zgo d 120 43 L (zi (S.1 11 o 50) :: t) S Q) := Zgo_iff (i := .getfield 247) (len := 3) (a := 11) (b := 50) (c := 0) (p := 4180) rfl
theorem zg_120_43 : Zgo d 120 43 L st S Q ↔ (zpi st False fun v t => zpi t False fun j t => zpa t False fun r t => znn r False fun q o => zop (zArr q) False fun n => if n.1 = 0 then zix j n.2 False fun x => Zgo d 120 44 L t (zsI S.1 q o x v, S.2) Q else False) := Zgo_iff (i := .iastore) (len := 1) (a := 0) (b := 0) (c := 0) (p := 0) rfl
theorem zg_120_44 : Zgo d 120 44 L st S Q ↔ (zlda L 0 False fun r => Zgo d 120 45 L (zq r :: st) S Q) := Zgo_iff (i := .aload_n 0) (len := 1) (a := 0) (b := 0) (c := 0) (p := 0) rfl
theorem zg_120_45 : Zgo d 120 45 L st S Q ↔ (zpa st False fun r t => zde r 11 False fun o => Zgo d 120 48 L (zq (S.2.1 11 o 48) :: t) S Q) := Zgo_iff (i := .getfield 110) (len := 3) (a := 11) (b := 48) (c := 3) (p := 4178) rfl
theorem zg_120_48 : Zgo d 120 48 L st S Q ↔ (zldi L 1 False fun x => Zgo d 120 49 L (zi x :: st) S Q) := Zgo_iff (i := .iload_n 1) (len := 1) (a := 0) (b := 0) (c := 0) (p := 0) rfl
theorem zg_120_49 : Zgo d 120 49 L st S Q ↔ (zlda L 0 False fun r => Zgo d 120 50 L (zq r :: st) S Q) := Zgo_iff (i := .aload_n 0) (len := 1) (a := 0) (b := 0) (c := 0) (p := 0) rfl
theorem zg_120_50 : Zgo d 120 50 L st S Q ↔ (zpa st False fun r t => zde r 11 False fun o => Zgo d 120 53 L (zi (S.1 11 o 51) :: t) S Q) := Zgo_iff (i := .getfield 250) (len := 3) (a := 11) (b := 51) (c := 0) (p := 4181) rfl
theorem zg_120_53 : Zgo d 120 53 L st S Q ↔ (zpi st False fun v t => zpi t False fun j t => zpa t False fun r t => znn r False fun q o => zop (zArr q) False fun n => if n.1 = 0 then zix j n.2 False fun x => Zgo d 120 54 L t (zsI S.1 q o x v, S.2) Q else False) := Zgo_iff (i := .iastore) (len := 1) (a := 0) (b := 0) (c := 0) (p := 0) rfl
theorem zg_120_54 : Zgo d 120 54 L st S Q ↔ (zlda L 0 False fun r => Zgo d 120 55 L (zq r :: st) S Q) := Zgo_iff (i := .aload_n 0) (len := 1) (a := 0) (b := 0) (c := 0) (p := 0) rfl
theorem zg_120_55 : Zgo d 120 55 L st S Q ↔ (zpa st False fun r t => zde r 11 False fun o => Zgo d 120 58 L (zq (S.2.1 11 o 49) :: t) S Q) := Zgo_iff (i := .getfield 113) (len := 3) (a := 11) (b := 49) (c := 3) (p := 4179) rfl
theorem zg_120_58 : Zgo d 120 58 L st S Q ↔ (zldi L 1 False fun x => Zgo d 120 59 L (zi x :: st) S Q) := Zgo_iff (i := .iload_n 1) (len := 1) (a := 0) (b := 0) (c := 0) (p := 0) rfl
theorem zg_120_59 : Zgo d 120 59 L st S Q ↔ (zlda L 0 False fun r => Zgo d 120 60 L (zq r :: st) S Q) := Zgo_iff (i := .aload_n 0) (len := 1) (a := 0) (b := 0) (c := 0) (p := 0) rfl
theorem zg_120_60 : Zgo d 120 60 L st S Q ↔ (zpa st False fun r t => zde r 11 False fun o => Zgo d 120 63 L (zi (S.1 11 o 52) :: t) S Q) := Zgo_iff (i := .getfield 253) (len := 3) (a := 11) (b := 52) (c := 0) (p := 4182) rfl
theorem zg_120_63 : Zgo d 120 63 L st S Q ↔ (zpi st False fun v t => zpi t False fun j t => zpa t False fun r t => znn r False fun q o => zop (zArr q) False fun n => if n.1 = 0 then zix j n.2 False fun x => Zgo d 120 64 L t (zsI S.1 q o x v, S.2) Q else False) := Zgo_iff (i := .iastore) (len := 1) (a := 0) (b := 0) (c := 0) (p := 0) rfl
theorem zg_120_64 : Zgo d 120 64 L st S Q ↔ (zlda L 0 False fun r => Zgo d 120 65 L (zq r :: st) S Q) := Zgo_iff (i := .aload_n 0) (len := 1) (a := 0) (b := 0) (c := 0) (p := 0) rfl
theorem zg_120_65 : Zgo d 120 65 L st S Q ↔ (Zgo d 120 66 L (zi 0 :: st) S Q) := Zgo_iff (i := .iconst 0) (len := 1) (a := 0) (b := 0) (c := 0) (p := 0) rfl
theorem zg_120_66 : Zgo d 120 66 L st S Q ↔ (zpi st False fun v t => zpa t False fun r t => zde r 11 False fun o => Zgo d 120 69 L t (zsI S.1 11 o 50 v, S.2) Q) := Zgo_iff (i := .putfield 247) (len := 3) (a := 11) (b := 50) (c := 0) (p := 4180) rfl
theorem zg_120_69 : Zgo d 120 69 L st S Q ↔ (zlda L 0 False fun r => Zgo d 120 70 L (zq r :: st) S Q) := Zgo_iff (i := .aload_n 0) (len := 1) (a := 0) (b := 0) (c := 0) (p := 0) rfl
theorem zg_120_70 : Zgo d 120 70 L st S Q ↔ (zldi L 2 False fun x => Zgo d 120 71 L (zi x :: st) S Q) := Zgo_iff (i := .iload_n 2) (len := 1) (a := 0) (b := 0) (c := 0) (p := 0) rfl
theorem zg_120_71 : Zgo d 120 71 L st S Q ↔ (zinv 2 st False fun as t => zrec as 11 False (zCp d 112 as S fun r S2 => Zgo d 120 74 L (r.toList ++ t) S2 Q)) := Zgo_iff (i := .invokevirtual 265) (len := 3) (a := 112) (b := 2) (c := 0) (p := 5181) rfl
theorem zg_120_74 : Zgo d 120 74 L st S Q ↔ (zem st False (Q none S)) := Zgo_iff (i := .return_) (len := 1) (a := 0) (b := 0) (c := 0) (p := 0) rfl
/-- LeavingMachineModel.leave()V -/
theorem zg_121_0 : Zgo d 121 0 L st S Q ↔ (zlda L 0 False fun r => Zgo d 121 1 L (zq r :: st) S Q) := Zgo_iff (i := .aload_n 0) (len := 1) (a := 0) (b := 0) (c := 0) (p := 0) rfl
theorem zg_121_1 : Zgo d 121 1 L st S Q ↔ (zpa st False fun r t => zde r 11 False fun o => Zgo d 121 4 L (zi (S.1 11 o 41) :: t) S Q) := Zgo_iff (i := .getfield 256) (len := 3) (a := 11) (b := 41) (c := 0) (p := 4171) rfl
theorem zg_121_4 : Zgo d 121 4 L st S Q ↔ (Zgo d 121 5 L (zi 1 :: st) S Q) := Zgo_iff (i := .iconst 1) (len := 1) (a := 0) (b := 0) (c := 0) (p := 0) rfl
theorem zg_121_5 : Zgo d 121 5 L st S Q ↔ (zpi st False fun y t => zpi t False fun x t => Zgo d 121 6 L (zi (x - y) :: t) S Q) := Zgo_iff (i := .isub) (len := 1) (a := 0) (b := 0) (c := 0) (p := 0) rfl
theorem zg_121_6 : Zgo d 121 6 L st S Q ↔ (zpi st False fun x t => Zgo d 121 7 (zst L 1 (some (zi x))) t S Q) := Zgo_iff (i := .istore_n 1) (len := 1) (a := 0) (b := 0) (c := 0) (p := 0) rfl
theorem zg_121_7 : Zgo d 121 7 L st S Q ↔ (zlda L 0 False fun r => Zgo d 121 8 L (zq r :: st) S Q) := Zgo_iff (i := .aload_n 0) (len := 1) (a := 0) (b := 0) (c := 0) (p := 0) rfl
theorem zg_121_8 : Zgo d 121 8 L st S Q ↔ (zpa st False fun r t => zde r 11 False fun o => Zgo d 121 11 L (zq (S.2.1 11 o 42) :: t) S Q) := Zgo_iff (i := .getfield 92) (len := 3) (a := 11) (b := 42) (c := 3) (p := 4172) rfl
theorem zg_121_11 : Zgo d 121 11 L st S Q ↔ (zldi L 1 False fun x => Zgo d 121 12 L (zi x :: st) S Q) := Zgo_iff (i := .iload_n 1) (len := 1) (a := 0) (b := 0) (c := 0) (p := 0) rfl
theorem zg_121_12 : Zgo d 121 12 L st S Q ↔ (zpi st False fun j t => zpa t False fun r t => znn r False fun q o => zop (zlen S q) False fun n => if n.1 = 0 then zix j n.2 False fun x => Zgo d 121 13 L (zi (S.1 q o x) :: t) S Q else False) := Zgo_iff (i := .iaload) (len := 1) (a := 0) (b := 0) (c := 0) (p := 0) rfl
theorem zg_121_13 : Zgo d 121 13 L st S Q ↔ (zpi st False fun x t => if zw x = zw 0 then Zgo d 121 16 L t S Q else Zgo d 121 29 L t S Q) := Zgo_iff (i := .ifCond .ne 16) (len := 3) (a := 0) (b := 0) (c := 0) (p := 0) rfl
theorem zg_121_16 : Zgo d 121 16 L st S Q ↔ (zlda L 0 False fun r => Zgo d 121 17 L (zq r :: st) S Q) := Zgo_iff (i := .aload_n 0) (len := 1) (a := 0) (b := 0) (c := 0) (p := 0) rfl
theorem zg_121_17 : Zgo d 121 17 L st S Q ↔ (zp1 st False fun v t => Zgo d 121 18 L (v :: v :: t) S Q) := Zgo_iff (i := .dup) (len := 1) (a := 0) (b := 0) (c := 0) (p := 0) rfl
theorem zg_121_18 : Zgo d 121 18 L st S Q ↔ (zpa st False fun r t => zde r 11 False fun o => Zgo d 121 21 L (zi (S.1 11 o 41) :: t) S Q) := Zgo_iff (i := .getfield 256) (len := 3) (a := 11) (b := 41) (c := 0) (p := 4171) rfl
theorem zg_121_21 : Zgo d 121 21 L st S Q ↔ (Zgo d 121 22 L (zi 1 :: st) S Q) := Zgo_iff (i := .iconst 1) (len := 1) (a := 0) (b := 0) (c := 0) (p := 0) rfl
theorem zg_121_22 : Zgo d 121 22 L st S Q ↔ (zpi st False fun y t => zpi t False fun x t => Zgo d 121 23 L (zi (x - y) :: t) S Q) := Zgo_iff (i := .isub) (len := 1) (a := 0) (b := 0) (c := 0) (p := 0) rfl
theorem zg_121_23 : Zgo d 121 23 L st S Q ↔ (zpi st False fun v t => zpa t False fun r t => zde r 11 False fun o => Zgo d 121 26 L t (zsI S.1 11 o 41 v, S.2) Q) := Zgo_iff (i := .putfield 256) (len := 3) (a := 11) (b := 41) (c := 0) (p := 4171) rfl
theorem zg_121_26 : Zgo d 121 26 L st S Q ↔ (Zgo d 121 297 L st S Q) := Zgo_iff (i := .goto 271) (len := 3) (a := 0) (b := 0) (c := 0) (p := 0) rfl
theorem zg_121_29 : Zgo d 121 29 L st S Q ↔ (zlda L 0 False fun r => Zgo d 121 30 L (zq r :: st) S Q) := Zgo_iff (i := .aload_n 0) (len := 1) (a := 0) (b := 0) (c := 0) (p := 0) rfl
theorem zg_121_30 : Zgo d 121 30 L st S Q ↔ (zpa st False fun r t => zde r 11 False fun o => Zgo d 121 33 L (zq (S.2.1 11 o 42) :: t) S Q) := Zgo_iff (i := .getfield 92) (len := 3) (a := 11) (b := 42) (c := 3) (p := 4172) rfl
theorem zg_121_33 : Zgo d 121 33 L st S Q ↔ (zldi L 1 False fun x => Zgo d 121 34 L (zi x :: st) S Q) := Zgo_iff (i := .iload_n 1) (len := 1) (a := 0) (b := 0) (c := 0) (p := 0) rfl
theorem zg_121_34 : Zgo d 121 34 L st S Q ↔ (zpi st False fun j t => zpa t False fun r t => znn r False fun q o => zop (zlen S q) False fun n => if n.1 = 0 then zix j n.2 False fun x => Zgo d 121 35 L (zi (S.1 q o x) :: t) S Q else False) := Zgo_iff (i := .iaload) (len := 1) (a := 0) (b := 0) (c := 0) (p := 0) rfl
theorem zg_121_35 : Zgo d 121 35 L st S Q ↔ (Zgo d 121 36 L (zi 1 :: st) S Q) := Zgo_iff (i := .iconst 1) (len := 1) (a := 0) (b := 0) (c := 0) (p := 0) rfl
theorem zg_121_36 : Zgo d 121 36 L st S Q ↔ (zpi st False fun y t => zpi t False fun x t => if zw x = zw y then Zgo d 121 39 L t S Q else Zgo d 121 95 L t S Q) := Zgo_iff (i := .if_icmp .ne 59) (len := 3) (a := 0) (b := 0) (c := 0) (p := 0) rfl
theorem zg_121_39 : Zgo d 121 39 L st S Q ↔ (zlda L 0 False fun r => Zgo d 121 40 L (zq r :: st) S Q) := Zgo_iff (i := .aload_n 0) (len := 1) (a := 0) (b := 0) (c := 0) (p := 0) rfl
theorem zg_121_40 : Zgo d 121 40 L st S Q ↔ (zlda L 0 False fun r => Zgo d 121 41 L (zq r :: st) S Q) := Zgo_iff (i := .aload_n 0) (len := 1) (a := 0) (b := 0) (c := 0) (p := 0) rfl
theorem zg_121_41 : Zgo d 121 41 L st S Q ↔ (zpa st False fun r t => zde r 11 False fun o => Zgo d 121 44 L (zi (S.1 11 o 50) :: t) S Q) := Zgo_iff (i := .getfield 247) (len := 3) (a := 11) (b := 50) (c := 0) (p := 4180) rfl
theorem zg_121_44 : Zgo d 121 44 L st S Q ↔ (Zgo d 121 45 L (zi 2 :: st) S Q) := Zgo_iff (i := .iconst 2) (len := 1) (a := 0) (b := 0) (c := 0) (p := 0) rfl
theorem zg_121_45 : Zgo d 121 45 L st S Q ↔ (zpi st False fun y t => zpi t False fun x t => if zw x = zw y then Zgo d 121 48 L t S Q else Zgo d 121 55 L t S Q) := Zgo_iff (i := .if_icmp .ne 10) (len := 3) (a := 0) (b := 0) (c := 0) (p := 0) rfl
theorem zg_121_48 : Zgo d 121 48 L st S Q ↔ (zlda L 0 False fun r => Zgo d 121 49 L (zq r :: st) S Q) := Zgo_iff (i := .aload_n 0) (len := 1) (a := 0) (b := 0) (c := 0) (p := 0) rfl
theorem zg_121_49 : Zgo d 121 49 L st S Q ↔ (zpa st False fun r t => zde r 11 False fun o => Zgo d 121 52 L (zi (S.1 11 o 41) :: t) S Q) := Zgo_iff (i := .getfield 256) (len := 3) (a := 11) (b := 41) (c := 0) (p := 4171) rfl
theorem zg_121_52 : Zgo d 121 52 L st S Q ↔ (Zgo d 121 61 L st S Q) := Zgo_iff (i := .goto 9) (len := 3) (a := 0) (b := 0) (c := 0) (p := 0) rfl
theorem zg_121_55 : Zgo d 121 55 L st S Q ↔ (zlda L 0 False fun r => Zgo d 121 56 L (zq r :: st) S Q) := Zgo_iff (i := .aload_n 0) (len := 1) (a := 0) (b := 0) (c := 0) (p := 0) rfl
theorem zg_121_56 : Zgo d 121 56 L st S Q ↔ (zpa st False fun r t => zde r 11 False fun o => Zgo d 121 59 L (zi (S.1 11 o 41) :: t) S Q) := Zgo_iff (i := .getfield 256) (len := 3) (a := 11) (b := 41) (c := 0) (p := 4171) rfl
theorem zg_121_59 : Zgo d 121 59 L st S Q ↔ (Zgo d 121 60 L (zi 1 :: st) S Q) := Zgo_iff (i := .iconst 1) (len := 1) (a := 0) (b := 0) (c := 0) (p := 0) rfl
theorem zg_121_60 : Zgo d 121 60 L st S Q ↔ (zpi st False fun y t => zpi t False fun x t => Zgo d 121 61 L (zi (x - y) :: t) S Q) := Zgo_iff (i := .isub) (len := 1) (a := 0) (b := 0) (c := 0) (p := 0) rfl
theorem zg_121_61 : Zgo d 121 61 L st S Q ↔ (zpi st False fun v t => zpa t False fun r t => zde r 11 False fun o => Zgo d 121 64 L t (zsI S.1 11 o 41 v, S.2) Q) := Zgo_iff (i := .putfield 256) (len := 3) (a := 11) (b := 41) (c := 0) (p := 4171) rfl
theorem zg_121_64 : Zgo d 121 64 L st S Q ↔ (zlda L 0 False fun r => Zgo d 121 65 L (zq r :: st) S Q) := Zgo_iff (i := .aload_n 0) (len := 1) (a := 0) (b := 0) (c := 0) (p := 0) rfl
theorem zg_121_65 : Zgo d 121 65 L st S Q ↔ (zlda L 0 False fun r => Zgo d 121 66 L (zq r :: st) S Q) := Zgo_iff (i := .aload_n 0) (len := 1) (a := 0) (b := 0) (c := 0) (p := 0) rfl
theorem zg_121_66 : Zgo d 121 66 L st S Q ↔ (zpa st False fun r t => zde r 11 False fun o => Zgo d 121 69 L (zi (S.1 11 o 50) :: t) S Q) := Zgo_iff (i := .getfield 247) (len := 3) (a := 11) (b := 50) (c := 0) (p := 4180) rfl
theorem zg_121_69 : Zgo d 121 69 L st S Q ↔ (Zgo d 121 70 L (zi 2 :: st) S Q) := Zgo_iff (i := .iconst 2) (len := 1) (a := 0) (b := 0) (c := 0) (p := 0) rfl
theorem zg_121_70 : Zgo d 121 70 L st S Q ↔ (zpi st False fun y t => zpi t False fun x t => if zw x = zw y then Zgo d 121 81 L t S Q else Zgo d 121 73 L t S Q) := Zgo_iff (i := .if_icmp .eq 11) (len := 3) (a := 0) (b := 0) (c := 0) (p := 0) rfl
theorem zg_121_73 : Zgo d 121 73 L st S Q ↔ (zlda L 0 False fun r => Zgo d 121 74 L (zq r :: st) S Q) := Zgo_iff (i := .aload_n 0) (len := 1) (a := 0) (b := 0) (c := 0) (p := 0) rfl
theorem zg_121_74 : Zgo d 121 74 L st S Q ↔ (zpa st False fun r t => zde r 11 False fun o => Zgo d 121 77 L (zi (S.1 11 o 50) :: t) S Q) := Zgo_iff (i := .getfield 247) (len := 3) (a := 11) (b := 50) (c := 0) (p := 4180) rfl
theorem zg_121_77 : Zgo d 121 77 L st S Q ↔ (Zgo d 121 78 L (zi 1 :: st) S Q) := Zgo_iff (i := .iconst 1) (len := 1) (a := 0) (b := 0) (c := 0) (p := 0) rfl
theorem zg_121_78 : Zgo d 121 78 L st S Q ↔ (zpi st False fun y t => zpi t False fun x t => if zw x = zw y then Zgo d 121 81 L t S Q else Zgo d 121 85 L t S Q) := Zgo_iff (i := .if_icmp .ne 7) (len := 3) (a := 0) (b := 0) (c := 0) (p := 0) rfl
theorem zg_121_81 : Zgo d 121 81 L st S Q ↔ (Zgo d 121 82 L (zi 0 :: st) S Q) := Zgo_iff (i := .iconst 0) (len := 1) (a := 0) (b := 0) (c := 0) (p := 0) rfl
theorem zg_121_82 : Zgo d 121 82 L st S Q ↔ (Zgo d 121 89 L st S Q) := Zgo_iff (i := .goto 7) (len := 3) (a := 0) (b := 0) (c := 0) (p := 0) rfl
theorem zg_121_85 : Zgo d 121 85 L st S Q ↔ (zlda L 0 False fun r => Zgo d 121 86 L (zq r :: st) S Q) := Zgo_iff (i := .aload_n 0) (len := 1) (a := 0) (b := 0) (c := 0) (p := 0) rfl
theorem zg_121_86 : Zgo d 121 86 L st S Q ↔ (zpa st False fun r t => zde r 11 False fun o => Zgo d 121 89 L (zi (S.1 11 o 50) :: t) S Q) := Zgo_iff (i := .getfield 247) (len := 3) (a := 11) (b := 50) (c := 0) (p := 4180) rfl
theorem zg_121_89 : Zgo d 121 89 L st S Q ↔ (zpi st False fun v t => zpa t False fun r t => zde r 11 False fun o => Zgo d 121 92 L t (zsI S.1 11 o 50 v, S.2) Q) := Zgo_iff (i := .putfield 247) (len := 3) (a := 11) (b := 50) (c := 0) (p := 4180) rfl
theorem zg_121_92 : Zgo d 121 92 L st S Q ↔ (Zgo d 121 297 L st S Q) := Zgo_iff (i := .goto 205) (len := 3) (a := 0) (b := 0) (c := 0) (p := 0) rfl
theorem zg_121_95 : Zgo d 121 95 L st S Q ↔ (zlda L 0 False fun r => Zgo d 121 96 L (zq r :: st) S Q) := Zgo_iff (i := .aload_n 0) (len := 1) (a := 0) (b := 0) (c := 0) (p := 0) rfl
theorem zg_121_96 : Zgo d 121 96 L st S Q ↔ (zpa st False fun r t => zde r 11 False fun o => Zgo d 121 99 L (zq (S.2.1 11 o 42) :: t) S Q) := Zgo_iff (i := .getfield 92) (len := 3) (a := 11) (b := 42) (c := 3) (p := 4172) rfl
theorem zg_121_99 : Zgo d 121 99 L st S Q ↔ (zldi L 1 False fun x => Zgo d 121 100 L (zi x :: st) S Q) := Zgo_iff (i := .iload_n 1) (len := 1) (a := 0) (b := 0) (c := 0) (p := 0) rfl
theorem zg_121_100 : Zgo d 121 100 L st S Q ↔ (zpi st False fun j t => zpa t False fun r t => znn r False fun q o => zop (zlen S q) False fun n => if n.1 = 0 then zix j n.2 False fun x => Zgo d 121 101 L (zi (S.1 q o x) :: t) S Q else False) := Zgo_iff (i := .iaload) (len := 1) (a := 0) (b := 0) (c := 0) (p := 0) rfl
theorem zg_121_101 : Zgo d 121 101 L st S Q ↔ (Zgo d 121 102 L (zi 2 :: st) S Q) := Zgo_iff (i := .iconst 2) (len := 1) (a := 0) (b := 0) (c := 0) (p := 0) rfl
theorem zg_121_102 : Zgo d 121 102 L st S Q ↔ (zpi st False fun y t => zpi t False fun x t => if zw x = zw y then Zgo d 121 105 L t S Q else Zgo d 121 148 L t S Q) := Zgo_iff (i := .if_icmp .ne 46) (len := 3) (a := 0) (b := 0) (c := 0) (p := 0) rfl
theorem zg_121_105 : Zgo d 121 105 L st S Q ↔ (zlda L 0 False fun r => Zgo d 121 106 L (zq r :: st) S Q) := Zgo_iff (i := .aload_n 0) (len := 1) (a := 0) (b := 0) (c := 0) (p := 0) rfl
theorem zg_121_106 : Zgo d 121 106 L st S Q ↔ (zp1 st False fun v t => Zgo d 121 107 L (v :: v :: t) S Q) := Zgo_iff (i := .dup) (len := 1) (a := 0) (b := 0) (c := 0) (p := 0) rfl
theorem zg_121_107 : Zgo d 121 107 L st S Q ↔ (zpa st False fun r t => zde r 11 False fun o => Zgo d 121 110 L (zi (S.1 11 o 53) :: t) S Q) := Zgo_iff (i := .getfield 262) (len := 3) (a := 11) (b := 53) (c := 0) (p := 4183) rfl
theorem zg_121_110 : Zgo d 121 110 L st S Q ↔ (Zgo d 121 111 L (zi 1 :: st) S Q) := Zgo_iff (i := .iconst 1) (len := 1) (a := 0) (b := 0) (c := 0) (p := 0) rfl
theorem zg_121_111 : Zgo d 121 111 L st S Q ↔ (zpi st False fun y t => zpi t False fun x t => Zgo d 121 112 L (zi (x - y) :: t) S Q) := Zgo_iff (i := .isub) (len := 1) (a := 0) (b := 0) (c := 0) (p := 0) rfl
theorem zg_121_112 : Zgo d 121 112 L st S Q ↔ (zpi st False fun v t => zpa t False fun r t => zde r 11 False fun o => Zgo d 121 115 L t (zsI S.1 11 o 53 v, S.2) Q) := Zgo_iff (i := .putfield 262) (len := 3) (a := 11) (b := 53) (c := 0) (p := 4183) rfl
theorem zg_121_115 : Zgo d 121 115 L st S Q ↔ (zlda L 0 False fun r => Zgo d 121 116 L (zq r :: st) S Q) := Zgo_iff (i := .aload_n 0) (len := 1) (a := 0) (b := 0) (c := 0) (p := 0) rfl
theorem zg_121_116 : Zgo d 121 116 L st S Q ↔ (zp1 st False fun v t => Zgo d 121 117 L (v :: v :: t) S Q) := Zgo_iff (i := .dup) (len := 1) (a := 0) (b := 0) (c := 0) (p := 0) rfl
theorem zg_121_117 : Zgo d 121 117 L st S Q ↔ (zpa st False fun r t => zde r 11 False fun o => Zgo d 121 120 L (zi (S.1 11 o 41) :: t) S Q) := Zgo_iff (i := .getfield 256) (len := 3) (a := 11) (b := 41) (c := 0) (p := 4171) rfl
theorem zg_121_120 : Zgo d 121 120 L st S Q ↔ (Zgo d 121 121 L (zi 1 :: st) S Q) := Zgo_iff (i := .iconst 1) (len := 1) (a := 0) (b := 0) (c := 0) (p := 0) rfl
theorem zg_121_121 : Zgo d 121 121 L st S Q ↔ (zpi st False fun y t => zpi t False fun x t => Zgo d 121 122 L (zi (x - y) :: t) S Q) := Zgo_iff (i := .isub) (len := 1) (a := 0) (b := 0) (c := 0) (p := 0) rfl
theorem zg_121_122 : Zgo d 121 122 L st S Q ↔ (zpi st False fun v t => zpa t False fun r t => zde r 11 False fun o => Zgo d 121 125 L t (zsI S.1 11 o 41 v, S.2) Q) := Zgo_iff (i := .putfield 256) (len := 3) (a := 11) (b := 41) (c := 0) (p := 4171) rfl
theorem zg_121_125 : Zgo d 121 125 L st S Q ↔ (zlda L 0 False fun r => Zgo d 121 126 L (zq r :: st) S Q) := Zgo_iff (i := .aload_n 0) (len := 1) (a := 0) (b := 0) (c := 0) (p := 0) rfl
theorem zg_121_126 : Zgo d 121 126 L st S Q ↔ (zlda L 0 False fun r => Zgo d 121 127 L (zq r :: st) S Q) := Zgo_iff (i := .aload_n 0) (len := 1) (a := 0) (b := 0) (c := 0) (p := 0) rfl
theorem zg_121_127 : Zgo d 121 127 L st S Q ↔ (zpa st False fun r t => zde r 11 False fun o => Zgo d 121 130 L (zi (S.1 11 o 50) :: t) S Q) := Zgo_iff (i := .getfield 247) (len := 3) (a := 11) (b := 50) (c := 0) (p := 4180) rfl
theorem zg_121_130 : Zgo d 121 130 L st S Q ↔ (Zgo d 121 131 L (zi 3 :: st) S Q) := Zgo_iff (i := .iconst 3) (len := 1) (a := 0) (b := 0) (c := 0) (p := 0) rfl
theorem zg_121_131 : Zgo d 121 131 L st S Q ↔ (zpi st False fun y t => zpi t False fun x t => if zw x = zw y then Zgo d 121 134 L t S Q else Zgo d 121 138 L t S Q) := Zgo_iff (i := .if_icmp .ne 7) (len := 3) (a := 0) (b := 0) (c := 0) (p := 0) rfl
theorem zg_121_134 : Zgo d 121 134 L st S Q ↔ (Zgo d 121 135 L (zi 0 :: st) S Q) := Zgo_iff (i := .iconst 0) (len := 1) (a := 0) (b := 0) (c := 0) (p := 0) rfl
theorem zg_121_135 : Zgo d 121 135 L st S Q ↔ (Zgo d 121 142 L st S Q) := Zgo_iff (i := .goto 7) (len := 3) (a := 0) (b := 0) (c := 0) (p := 0) rfl
theorem zg_121_138 : Zgo d 121 138 L st S Q ↔ (zlda L 0 False fun r => Zgo d 121 139 L (zq r :: st) S Q) := Zgo_iff (i := .aload_n 0) (len := 1) (a := 0) (b := 0) (c := 0) (p := 0) rfl
theorem zg_121_139 : Zgo d 121 139 L st S Q ↔ (zpa st False fun r t => zde r 11 False fun o => Zgo d 121 142 L (zi (S.1 11 o 50) :: t) S Q) := Zgo_iff (i := .getfield 247) (len := 3) (a := 11) (b := 50) (c := 0) (p := 4180) rfl
theorem zg_121_142 : Zgo d 121 142 L st S Q ↔ (zpi st False fun v t => zpa t False fun r t => zde r 11 False fun o => Zgo d 121 145 L t (zsI S.1 11 o 50 v, S.2) Q) := Zgo_iff (i := .putfield 247) (len := 3) (a := 11) (b := 50) (c := 0) (p := 4180) rfl
theorem zg_121_145 : Zgo d 121 145 L st S Q ↔ (Zgo d 121 297 L st S Q) := Zgo_iff (i := .goto 152) (len := 3) (a := 0) (b := 0) (c := 0) (p := 0) rfl
theorem zg_121_148 : Zgo d 121 148 L st S Q ↔ (zlda L 0 False fun r => Zgo d 121 149 L (zq r :: st) S Q) := Zgo_iff (i := .aload_n 0) (len := 1) (a := 0) (b := 0) (c := 0) (p := 0) rfl
theorem zg_121_149 : Zgo d 121 149 L st S Q ↔ (zpa st False fun r t => zde r 11 False fun o => Zgo d 121 152 L (zq (S.2.1 11 o 44) :: t) S Q) := Zgo_iff (i := .getfield 98) (len := 3) (a := 11) (b := 44) (c := 3) (p := 4174) rfl
theorem zg_121_152 : Zgo d 121 152 L st S Q ↔ (zldi L 1 False fun x => Zgo d 121 153 L (zi x :: st) S Q) := Zgo_iff (i := .iload_n 1) (len := 1) (a := 0) (b := 0) (c := 0) (p := 0) rfl
theorem zg_121_153 : Zgo d 121 153 L st S Q ↔ (zpi st False fun j t => zpa t False fun r t => znn r False fun q o => zop (zlen S q) False fun n => if n.1 = 0 then zix j n.2 False fun x => Zgo d 121 154 L (zi (S.1 q o x) :: t) S Q else False) := Zgo_iff (i := .iaload) (len := 1) (a := 0) (b := 0) (c := 0) (p := 0) rfl
theorem zg_121_154 : Zgo d 121 154 L st S Q ↔ (Zgo d 121 155 L (zi 2 :: st) S Q) := Zgo_iff (i := .iconst 2) (len := 1) (a := 0) (b := 0) (c := 0) (p := 0) rfl
theorem zg_121_155 : Zgo d 121 155 L st S Q ↔ (zpi st False fun y t => zpi t False fun x t => if zw x = zw y then Zgo d 121 158 L t S Q else Zgo d 121 171 L t S Q) := Zgo_iff (i := .if_icmp .ne 16) (len := 3) (a := 0) (b := 0) (c := 0) (p := 0) rfl
theorem zg_121_158 : Zgo d 121 158 L st S Q ↔ (zlda L 0 False fun r => Zgo d 121 159 L (zq r :: st) S Q) := Zgo_iff (i := .aload_n 0) (len := 1) (a := 0) (b := 0) (c := 0) (p := 0) rfl
theorem zg_121_159 : Zgo d 121 159 L st S Q ↔ (zp1 st False fun v t => Zgo d 121 160 L (v :: v :: t) S Q) := Zgo_iff (i := .dup) (len := 1) (a := 0) (b := 0) (c := 0) (p := 0) rfl
theorem zg_121_160 : Zgo d 121 160 L st S Q ↔ (zpa st False fun r t => zde r 11 False fun o => Zgo d 121 163 L (zi (S.1 11 o 41) :: t) S Q) := Zgo_iff (i := .getfield 256) (len := 3) (a := 11) (b := 41) (c := 0) (p := 4171) rfl
theorem zg_121_163 : Zgo d 121 163 L st S Q ↔ (Zgo d 121 164 L (zi 1 :: st) S Q) := Zgo_iff (i := .iconst 1) (len := 1) (a := 0) (b := 0) (c := 0) (p := 0) rfl
theorem zg_121_164 : Zgo d 121 164 L st S Q ↔ (zpi st False fun y t => zpi t False fun x t => Zgo d 121 165 L (zi (x - y) :: t) S Q) := Zgo_iff (i := .isub) (len := 1) (a := 0) (b := 0) (c := 0) (p := 0) rfl
theorem zg_121_165 : Zgo d 121 165 L st S Q ↔ (zpi st False fun v t => zpa t False fun r t => zde r 11 False fun o => Zgo d 121 168 L t (zsI S.1 11 o 41 v, S.2) Q) := Zgo_iff (i := .putfield 256) (len := 3) (a := 11) (b := 41) (c := 0) (p := 4171) rfl
theorem zg_121_168 : Zgo d 121 168 L st S Q ↔ (Zgo d 121 297 L st S Q) := Zgo_iff (i := .goto 129) (len := 3) (a := 0) (b := 0) (c := 0) (p := 0) rfl
theorem zg_121_171 : Zgo d 121 171 L st S Q ↔ (zlda L 0 False fun r => Zgo d 121 172 L (zq r :: st) S Q) := Zgo_iff (i := .aload_n 0) (len := 1) (a := 0) (b := 0) (c := 0) (p := 0) rfl
theorem zg_121_172 : Zgo d 121 172 L st S Q ↔ (zpa st False fun r t => zde r 11 False fun o => Zgo d 121 175 L (zq (S.2.1 11 o 44) :: t) S Q) := Zgo_iff (i := .getfield 98) (len := 3) (a := 11) (b := 44) (c := 3) (p := 4174) rfl
theorem zg_121_175 : Zgo d 121 175 L st S Q ↔ (zldi L 1 False fun x => Zgo d 121 176 L (zi x :: st) S Q) := Zgo_iff (i := .iload_n 1) (len := 1) (a := 0) (b := 0) (c := 0) (p := 0) rfl
theorem zg_121_176 : Zgo d 121 176 L st S Q ↔ (zpi st False fun j t => zpa t False fun r t => znn r False fun q o => zop (zlen S q) False fun n => if n.1 = 0 then zix j n.2 False fun x => Zgo d 121 177 L (zi (S.1 q o x) :: t) S Q else False) := Zgo_iff (i := .iaload) (len := 1) (a := 0) (b := 0) (c := 0) (p := 0) rfl
theorem zg_121_177 : Zgo d 121 177 L st S Q ↔ (zpi st False fun x t => if zw x = zw 0 then Zgo d 121 180 L t S Q else Zgo d 121 205 L t S Q) := Zgo_iff (i := .ifCond .ne 28) (len := 3) (a := 0) (b := 0) (c := 0) (p := 0) rfl
theorem zg_121_180 : Zgo d 121 180 L st S Q ↔ (zlda L 0 False fun r => Zgo d 121 181 L (zq r :: st) S Q) := Zgo_iff (i := .aload_n 0) (len := 1) (a := 0) (b := 0) (c := 0) (p := 0) rfl
theorem zg_121_181 : Zgo d 121 181 L st S Q ↔ (zpa st False fun r t => zde r 11 False fun o => Zgo d 121 184 L (zi (S.1 11 o 50) :: t) S Q) := Zgo_iff (i := .getfield 247) (len := 3) (a := 11) (b := 50) (c := 0) (p := 4180) rfl
theorem zg_121_184 : Zgo d 121 184 L st S Q ↔ (Zgo d 121 185 L (zi 4 :: st) S Q) := Zgo_iff (i := .iconst 4) (len := 1) (a := 0) (b := 0) (c := 0) (p := 0) rfl
theorem zg_121_185 : Zgo d 121 185 L st S Q ↔ (zpi st False fun y t => zpi t False fun x t => if zw x = zw y then Zgo d 121 188 L t S Q else Zgo d 121 205 L t S Q) := Zgo_iff (i := .if_icmp .ne 20) (len := 3) (a := 0) (b := 0) (c := 0) (p := 0) rfl
theorem zg_121_188 : Zgo d 121 188 L st S Q ↔ (zlda L 0 False fun r => Zgo d 121 189 L (zq r :: st) S Q) := Zgo_iff (i := .aload_n 0) (len := 1) (a := 0) (b := 0) (c := 0) (p := 0) rfl
theorem zg_121_189 : Zgo d 121 189 L st S Q ↔ (zlda L 0 False fun r => Zgo d 121 190 L (zq r :: st) S Q) := Zgo_iff (i := .aload_n 0) (len := 1) (a := 0) (b := 0) (c := 0) (p := 0) rfl
theorem zg_121_190 : Zgo d 121 190 L st S Q ↔ (zpa st False fun r t => zde r 11 False fun o => Zgo d 121 193 L (zq (S.2.1 11 o 43) :: t) S Q) := Zgo_iff (i := .getfield 95) (len := 3) (a := 11) (b := 43) (c := 3) (p := 4173) rfl
theorem zg_121_193 : Zgo d 121 193 L st S Q ↔ (zldi L 1 False fun x => Zgo d 121 194 L (zi x :: st) S Q) := Zgo_iff (i := .iload_n 1) (len := 1) (a := 0) (b := 0) (c := 0) (p := 0) rfl
theorem zg_121_194 : Zgo d 121 194 L st S Q ↔ (zpi st False fun j t => zpa t False fun r t => znn r False fun q o => zop (zlen S q) False fun n => if n.1 = 0 then zix j n.2 False fun x => Zgo d 121 195 L (zi (S.1 q o x) :: t) S Q else False) := Zgo_iff (i := .iaload) (len := 1) (a := 0) (b := 0) (c := 0) (p := 0) rfl
theorem zg_121_195 : Zgo d 121 195 L st S Q ↔ (zlda L 0 False fun r => Zgo d 121 196 L (zq r :: st) S Q) := Zgo_iff (i := .aload_n 0) (len := 1) (a := 0) (b := 0) (c := 0) (p := 0) rfl
theorem zg_121_196 : Zgo d 121 196 L st S Q ↔ (zpa st False fun r t => zde r 11 False fun o => Zgo d 121 199 L (zi (S.1 11 o 51) :: t) S Q) := Zgo_iff (i := .getfield 250) (len := 3) (a := 11) (b := 51) (c := 0) (p := 4181) rfl
theorem zg_121_199 : Zgo d 121 199 L st S Q ↔ (zinv 3 st False fun as t => zrec as 11 False (zCp d 122 as S fun r S2 => Zgo d 121 202 L (r.toList ++ t) S2 Q)) := Zgo_iff (i := .invokevirtual 286) (len := 3) (a := 122) (b := 3) (c := 0) (p := 5221) rfl
theorem zg_121_202 : Zgo d 121 202 L st S Q ↔ (Zgo d 121 206 L st S Q) := Zgo_iff (i := .goto 4) (len := 3) (a := 0) (b := 0) (c := 0) (p := 0) rfl
theorem zg_121_205 : Zgo d 121 205 L st S Q ↔ (Zgo d 121 206 L (zi (-1) :: st) S Q) := Zgo_iff (i := .iconst (-1)) (len := 1) (a := 0) (b := 0) (c := 0) (p := 0) rfl
theorem zg_121_206 : Zgo d 121 206 L st S Q ↔ (zpi st False fun x t => Zgo d 121 207 (zst L 2 (some (zi x))) t S Q) := Zgo_iff (i := .istore_n 2) (len := 1) (a := 0) (b := 0) (c := 0) (p := 0) rfl
theorem zg_121_207 : Zgo d 121 207 L st S Q ↔ (zldi L 2 False fun x => Zgo d 121 208 L (zi x :: st) S Q) := Zgo_iff (i := .iload_n 2) (len := 1) (a := 0) (b := 0) (c := 0) (p := 0) rfl
theorem zg_121_208 : Zgo d 121 208 L st S Q ↔ (zpi st False fun x t => if zw x < zw 0 then Zgo d 121 211 L t S Q else Zgo d 121 219 L t S Q) := Zgo_iff (i := .ifCond .ge 11) (len := 3) (a := 0) (b := 0) (c := 0) (p := 0) rfl
theorem zg_121_211 : Zgo d 121 211 L st S Q ↔ (zlda L 0 False fun r => Zgo d 121 212 L (zq r :: st) S Q) := Zgo_iff (i := .aload_n 0) (len := 1) (a := 0) (b := 0) (c := 0) (p := 0) rfl
theorem zg_121_212 : Zgo d 121 212 L st S Q ↔ (zldi L 1 False fun x => Zgo d 121 213 L (zi x :: st) S Q) := Zgo_iff (i := .iload_n 1) (len := 1) (a := 0) (b := 0) (c := 0) (p := 0) rfl
theorem zg_121_213 : Zgo d 121 213 L st S Q ↔ (zinv 2 st False fun as t => zrec as 11 False (zCp d 120 as S fun r S2 => Zgo d 121 216 L (r.toList ++ t) S2 Q)) := Zgo_iff (i := .invokevirtual 283) (len := 3) (a := 120) (b := 2) (c := 0) (p := 5213) rfl
theorem zg_121_216 : Zgo d 121 216 L st S Q ↔ (Zgo d 121 297 L st S Q) := Zgo_iff (i := .goto 81) (len := 3) (a := 0) (b := 0) (c := 0) (p := 0) rfl
theorem zg_121_219 : Zgo d 121 219 L st S Q ↔ (zlda L 0 False fun r => Zgo d 121 220 L (zq r :: st) S Q) := Zgo_iff (i := .aload_n 0) (len := 1) (a := 0) (b := 0) (c := 0) (p := 0) rfl
theorem zg_121_220 : Zgo d 121 220 L st S Q ↔ (zpa st False fun r t => zde r 11 False fun o => Zgo d 121 223 L (zq (S.2.1 11 o 44) :: t) S Q) := Zgo_iff (i := .getfield 98) (len := 3) (a := 11) (b := 44) (c := 3) (p := 4174) rfl
theorem zg_121_223 : Zgo d 121 223 L st S Q ↔ (zldi L 1 False fun x => Zgo d 121 224 L (zi x :: st) S Q) := Zgo_iff (i := .iload_n 1) (len := 1) (a := 0) (b := 0) (c := 0) (p := 0) rfl
theorem zg_121_224 : Zgo d 121 224 L st S Q ↔ (Zgo d 121 225 L (zi 1 :: st) S Q) := Zgo_iff (i := .iconst 1) (len := 1) (a := 0) (b := 0) (c := 0) (p := 0) rfl
theorem zg_121_225 : Zgo d 121 225 L st S Q ↔ (zpi st False fun v t => zpi t False fun j t => zpa t False fun r t => znn r False fun q o => zop (zArr q) False fun n => if n.1 = 0 then zix j n.2 False fun x => Zgo d 121 226 L t (zsI S.1 q o x v, S.2) Q else False) := Zgo_iff (i := .iastore) (len := 1) (a := 0) (b := 0) (c := 0) (p := 0) rfl
theorem zg_121_226 : Zgo d 121 226 L st S Q ↔ (zlda L 0 False fun r => Zgo d 121 227 L (zq r :: st) S Q) := Zgo_iff (i := .aload_n 0) (len := 1) (a := 0) (b := 0) (c := 0) (p := 0) rfl
theorem zg_121_227 : Zgo d 121 227 L st S Q ↔ (zpa st False fun r t => zde r 11 False fun o => Zgo d 121 230 L (zq (S.2.1 11 o 45) :: t) S Q) := Zgo_iff (i := .getfield 101) (len := 3) (a := 11) (b := 45) (c := 3) (p := 4175) rfl
theorem zg_121_230 : Zgo d 121 230 L st S Q ↔ (zldi L 1 False fun x => Zgo d 121 231 L (zi x :: st) S Q) := Zgo_iff (i := .iload_n 1) (len := 1) (a := 0) (b := 0) (c := 0) (p := 0) rfl
theorem zg_121_231 : Zgo d 121 231 L st S Q ↔ (zlda L 0 False fun r => Zgo d 121 232 L (zq r :: st) S Q) := Zgo_iff (i := .aload_n 0) (len := 1) (a := 0) (b := 0) (c := 0) (p := 0) rfl
theorem zg_121_232 : Zgo d 121 232 L st S Q ↔ (zpa st False fun r t => zde r 11 False fun o => Zgo d 121 235 L (zi (S.1 11 o 51) :: t) S Q) := Zgo_iff (i := .getfield 250) (len := 3) (a := 11) (b := 51) (c := 0) (p := 4181) rfl
theorem zg_121_235 : Zgo d 121 235 L st S Q ↔ (zpi st False fun v t => zpi t False fun j t => zpa t False fun r t => znn r False fun q o => zop (zArr q) False fun n => if n.1 = 0 then zix j n.2 False fun x => Zgo d 121 236 L t (zsI S.1 q o x v, S.2) Q else False) := Zgo_iff (i := .iastore) (len := 1) (a := 0) (b := 0) (c := 0) (p := 0) rfl
theorem zg_121_236 : Zgo d 121 236 L st S Q ↔ (zlda L 0 False fun r => Zgo d 121 237 L (zq r :: st) S Q) := Zgo_iff (i := .aload_n 0) (len := 1) (a := 0) (b := 0) (c := 0) (p := 0) rfl
theorem zg_121_237 : Zgo d 121 237 L st S Q ↔ (zpa st False fun r t => zde r 11 False fun o => Zgo d 121 240 L (zq (S.2.1 11 o 46) :: t) S Q) := Zgo_iff (i := .getfield 104) (len := 3) (a := 11) (b := 46) (c := 3) (p := 4176) rfl
theorem zg_121_240 : Zgo d 121 240 L st S Q ↔ (zldi L 1 False fun x => Zgo d 121 241 L (zi x :: st) S Q) := Zgo_iff (i := .iload_n 1) (len := 1) (a := 0) (b := 0) (c := 0) (p := 0) rfl
theorem zg_121_241 : Zgo d 121 241 L st S Q ↔ (zlda L 0 False fun r => Zgo d 121 242 L (zq r :: st) S Q) := Zgo_iff (i := .aload_n 0) (len := 1) (a := 0) (b := 0) (c := 0) (p := 0) rfl
theorem zg_121_242 : Zgo d 121 242 L st S Q ↔ (zpa st False fun r t => zde r 11 False fun o => Zgo d 121 245 L (zi (S.1 11 o 52) :: t) S Q) := Zgo_iff (i := .getfield 253) (len := 3) (a := 11) (b := 52) (c := 0) (p := 4182) rfl
theorem zg_121_245 : Zgo d 121 245 L st S Q ↔ (zpi st False fun v t => zpi t False fun j t => zpa t False fun r t => znn r False fun q o => zop (zArr q) False fun n => if n.1 = 0 then zix j n.2 False fun x => Zgo d 121 246 L t (zsI S.1 q o x v, S.2) Q else False) := Zgo_iff (i := .iastore) (len := 1) (a := 0) (b := 0) (c := 0) (p := 0) rfl
theorem zg_121_246 : Zgo d 121 246 L st S Q ↔ (zlda L 0 False fun r => Zgo d 121 247 L (zq r :: st) S Q) := Zgo_iff (i := .aload_n 0) (len := 1) (a := 0) (b := 0) (c := 0) (p := 0) rfl
theorem zg_121_247 : Zgo d 121 247 L st S Q ↔ (zpa st False fun r t => zde r 11 False fun o => Zgo d 121 250 L (zq (S.2.1 11 o 33) :: t) S Q) := Zgo_iff (i := .getfield 82) (len := 3) (a := 11) (b := 33) (c := 3) (p := 4163) rfl
theorem zg_121_250 : Zgo d 121 250 L st S Q ↔ (zlda L 0 False fun r => Zgo d 121 251 L (zq r :: st) S Q) := Zgo_iff (i := .aload_n 0) (len := 1) (a := 0) (b := 0) (c := 0) (p := 0) rfl
theorem zg_121_251 : Zgo d 121 251 L st S Q ↔ (zpa st False fun r t => zde r 11 False fun o => Zgo d 121 254 L (zq (S.2.1 11 o 17) :: t) S Q) := Zgo_iff (i := .getfield 40) (len := 3) (a := 11) (b := 17) (c := 3) (p := 4147) rfl
theorem zg_121_254 : Zgo d 121 254 L st S Q ↔ (Zgo d 121 255 L (zi 3 :: st) S Q) := Zgo_iff (i := .iconst 3) (len := 1) (a := 0) (b := 0) (c := 0) (p := 0) rfl
theorem zg_121_255 : Zgo d 121 255 L st S Q ↔ (zlda L 0 False fun r => Zgo d 121 256 L (zq r :: st) S Q) := Zgo_iff (i := .aload_n 0) (len := 1) (a := 0) (b := 0) (c := 0) (p := 0) rfl
theorem zg_121_256 : Zgo d 121 256 L st S Q ↔ (zpa st False fun r t => zde r 11 False fun o => Zgo d 121 259 L (zq (S.2.1 11 o 43) :: t) S Q) := Zgo_iff (i := .getfield 95) (len := 3) (a := 11) (b := 43) (c := 3) (p := 4173) rfl
theorem zg_121_259 : Zgo d 121 259 L st S Q ↔ (zldi L 1 False fun x => Zgo d 121 260 L (zi x :: st) S Q) := Zgo_iff (i := .iload_n 1) (len := 1) (a := 0) (b := 0) (c := 0) (p := 0) rfl
theorem zg_121_260 : Zgo d 121 260 L st S Q ↔ (zpi st False fun j t => zpa t False fun r t => znn r False fun q o => zop (zlen S q) False fun n => if n.1 = 0 then zix j n.2 False fun x => Zgo d 121 261 L (zi (S.1 q o x) :: t) S Q else False) := Zgo_iff (i := .iaload) (len := 1) (a := 0) (b := 0) (c := 0) (p := 0) rfl
theorem zg_121_261 : Zgo d 121 261 L st S Q ↔ (zpi st False fun y t => zpi t False fun x t => Zgo d 121 262 L (zi (x * y) :: t) S Q) := Zgo_iff (i := .imul) (len := 1) (a := 0) (b := 0) (c := 0) (p := 0) rfl
theorem zg_121_262 : Zgo d 121 262 L st S Q ↔ (zldi L 2 False fun x => Zgo d 121 263 L (zi x :: st) S Q) := Zgo_iff (i := .iload_n 2) (len := 1) (a := 0) (b := 0) (c := 0) (p := 0) rfl
theorem zg_121_263 : Zgo d 121 263 L st S Q ↔ (zpi st False fun y t => zpi t False fun x t => Zgo d 121 264 L (zi (x + y) :: t) S Q) := Zgo_iff (i := .iadd) (len := 1) (a := 0) (b := 0) (c := 0) (p := 0) rfl
theorem zg_121_264 : Zgo d 121 264 L st S Q ↔ (zpi st False fun j t => zpa t False fun r t => znn r False fun q o => zop (zlen S q) False fun n => if n.1 = 0 then zix j n.2 False fun x => Zgo d 121 265 L (zi (S.1 q o x) :: t) S Q else False) := Zgo_iff (i := .iaload) (len := 1) (a := 0) (b := 0) (c := 0) (p := 0) rfl
theorem zg_121_265 : Zgo d 121 265 L st S Q ↔ (zlda L 0 False fun r => Zgo d 121 266 L (zq r :: st) S Q) := Zgo_iff (i := .aload_n 0) (len := 1) (a := 0) (b := 0) (c := 0) (p := 0) rfl
theorem zg_121_266 : Zgo d 121 266 L st S Q ↔ (zpa st False fun r t => zde r 11 False fun o => Zgo d 121 269 L (zi (S.1 11 o 52) :: t) S Q) := Zgo_iff (i := .getfield 253) (len := 3) (a := 11) (b := 52) (c := 0) (p := 4182) rfl
theorem zg_121_269 : Zgo d 121 269 L st S Q ↔ (zpi st False fun v t => zpi t False fun j t => zpa t False fun r t => znn r False fun q o => zop (zArr q) False fun n => if n.1 = 0 then zix j n.2 False fun x => Zgo d 121 270 L t (zsI S.1 q o x v, S.2) Q else False) := Zgo_iff (i := .iastore) (len := 1) (a := 0) (b := 0) (c := 0) (p := 0) rfl
theorem zg_121_270 : Zgo d 121 270 L st S Q ↔ (zlda L 0 False fun r => Zgo d 121 271 L (zq r :: st) S Q) := Zgo_iff (i := .aload_n 0) (len := 1) (a := 0) (b := 0) (c := 0) (p := 0) rfl
theorem zg_121_271 : Zgo d 121 271 L st S Q ↔ (Zgo d 121 272 L (zi 0 :: st) S Q) := Zgo_iff (i := .iconst 0) (len := 1) (a := 0) (b := 0) (c := 0) (p := 0) rfl
theorem zg_121_272 : Zgo d 121 272 L st S Q ↔ (zpi st False fun v t => zpa t False fun r t => zde r 11 False fun o => Zgo d 121 275 L t (zsI S.1 11 o 50 v, S.2) Q) := Zgo_iff (i := .putfield 247) (len := 3) (a := 11) (b := 50) (c := 0) (p := 4180) rfl
theorem zg_121_275 : Zgo d 121 275 L st S Q ↔ (zlda L 0 False fun r => Zgo d 121 276 L (zq r :: st) S Q) := Zgo_iff (i := .aload_n 0) (len := 1) (a := 0) (b := 0) (c := 0) (p := 0) rfl
theorem zg_121_276 : Zgo d 121 276 L st S Q ↔ (zlda L 0 False fun r => Zgo d 121 277 L (zq r :: st) S Q) := Zgo_iff (i := .aload_n 0) (len := 1) (a := 0) (b := 0) (c := 0) (p := 0) rfl
theorem zg_121_277 : Zgo d 121 277 L st S Q ↔ (zpa st False fun r t => zde r 11 False fun o => Zgo d 121 280 L (zq (S.2.1 11 o 15) :: t) S Q) := Zgo_iff (i := .getfield 34) (len := 3) (a := 11) (b := 15) (c := 3) (p := 4145) rfl
theorem zg_121_280 : Zgo d 121 280 L st S Q ↔ (Zgo d 121 282 L (zi 6 :: st) S Q) := Zgo_iff (i := .bipush 6) (len := 2) (a := 0) (b := 0) (c := 0) (p := 0) rfl
theorem zg_121_282 : Zgo d 121 282 L st S Q ↔ (zlda L 0 False fun r => Zgo d 121 283 L (zq r :: st) S Q) := Zgo_iff (i := .aload_n 0) (len := 1) (a := 0) (b := 0) (c := 0) (p := 0) rfl
theorem zg_121_283 : Zgo d 121 283 L st S Q ↔ (zpa st False fun r t => zde r 11 False fun o => Zgo d 121 286 L (zq (S.2.1 11 o 43) :: t) S Q) := Zgo_iff (i := .getfield 95) (len := 3) (a := 11) (b := 43) (c := 3) (p := 4173) rfl
theorem zg_121_286 : Zgo d 121 286 L st S Q ↔ (zldi L 1 False fun x => Zgo d 121 287 L (zi x :: st) S Q) := Zgo_iff (i := .iload_n 1) (len := 1) (a := 0) (b := 0) (c := 0) (p := 0) rfl
theorem zg_121_287 : Zgo d 121 287 L st S Q ↔ (zpi st False fun j t => zpa t False fun r t => znn r False fun q o => zop (zlen S q) False fun n => if n.1 = 0 then zix j n.2 False fun x => Zgo d 121 288 L (zi (S.1 q o x) :: t) S Q else False) := Zgo_iff (i := .iaload) (len := 1) (a := 0) (b := 0) (c := 0) (p := 0) rfl
theorem zg_121_288 : Zgo d 121 288 L st S Q ↔ (zpi st False fun y t => zpi t False fun x t => Zgo d 121 289 L (zi (x * y) :: t) S Q) := Zgo_iff (i := .imul) (len := 1) (a := 0) (b := 0) (c := 0) (p := 0) rfl
theorem zg_121_289 : Zgo d 121 289 L st S Q ↔ (Zgo d 121 290 L (zi 2 :: st) S Q) := Zgo_iff (i := .iconst 2) (len := 1) (a := 0) (b := 0) (c := 0) (p := 0) rfl
theorem zg_121_290 : Zgo d 121 290 L st S Q ↔ (zpi st False fun y t => zpi t False fun x t => Zgo d 121 291 L (zi (x + y) :: t) S Q) := Zgo_iff (i := .iadd) (len := 1) (a := 0) (b := 0) (c := 0) (p := 0) rfl
theorem zg_121_291 : Zgo d 121 291 L st S Q ↔ (zldi L 2 False fun x => Zgo d 121 292 L (zi x :: st) S Q) := Zgo_iff (i := .iload_n 2) (len := 1) (a := 0) (b := 0) (c := 0) (p := 0) rfl
theorem zg_121_292 : Zgo d 121 292 L st S Q ↔ (zpi st False fun y t => zpi t False fun x t => Zgo d 121 293 L (zi (x + y) :: t) S Q) := Zgo_iff (i := .iadd) (len := 1) (a := 0) (b := 0) (c := 0) (p := 0) rfl
theorem zg_121_293 : Zgo d 121 293 L st S Q ↔ (zpi st False fun j t => zpa t False fun r t => znn r False fun q o => zop (zlen S q) False fun n => if n.1 = 0 then zix j n.2 False fun x => Zgo d 121 294 L (zi (S.1 q o x) :: t) S Q else False) := Zgo_iff (i := .iaload) (len := 1) (a := 0) (b := 0) (c := 0) (p := 0) rfl
theorem zg_121_294 : Zgo d 121 294 L st S Q ↔ (zinv 2 st False fun as t => zrec as 11 False (zCp d 112 as S fun r S2 => Zgo d 121 297 L (r.toList ++ t) S2 Q)) := Zgo_iff (i := .invokevirtual 265) (len := 3) (a := 112) (b := 2) (c := 0) (p := 5181) rfl
theorem zg_121_297 : Zgo d 121 297 L st S Q ↔ (zem st False (Q none S)) := Zgo_iff (i := .return_) (len := 1) (a := 0) (b := 0) (c := 0) (p := 0) rfl
/-- LeavingMachineModel.catcher(II)I -/
theorem zg_122_0 : Zgo d 122 0 L st S Q ↔ (Zgo d 122 1 L (zi (-1) :: st) S Q) := Zgo_iff (i := .iconst (-1)) (len := 1) (a := 0) (b := 0) (c := 0) (p := 0) rfl
theorem zg_122_1 : Zgo d 122 1 L st S Q ↔ (zpi st False fun x t => Zgo d 122 2 (zst L 3 (some (zi x))) t S Q) := Zgo_iff (i := .istore_n 3) (len := 1) (a := 0) (b := 0) (c := 0) (p := 0) rfl
theorem zg_122_2 : Zgo d 122 2 L st S Q ↔ (Zgo d 122 3 L (zi 0 :: st) S Q) := Zgo_iff (i := .iconst 0) (len := 1) (a := 0) (b := 0) (c := 0) (p := 0) rfl
theorem zg_122_3 : Zgo d 122 3 L st S Q ↔ (zpi st False fun x t => Zgo d 122 5 (zst L 4 (some (zi x))) t S Q) := Zgo_iff (i := .istore 4) (len := 2) (a := 0) (b := 0) (c := 0) (p := 0) rfl
theorem zg_122_5 : Zgo d 122 5 L st S Q ↔ (zldi L 4 False fun x => Zgo d 122 7 L (zi x :: st) S Q) := Zgo_iff (i := .iload 4) (len := 2) (a := 0) (b := 0) (c := 0) (p := 0) rfl
theorem zg_122_7 : Zgo d 122 7 L st S Q ↔ (zlda L 0 False fun r => Zgo d 122 8 L (zq r :: st) S Q) := Zgo_iff (i := .aload_n 0) (len := 1) (a := 0) (b := 0) (c := 0) (p := 0) rfl
theorem zg_122_8 : Zgo d 122 8 L st S Q ↔ (zpa st False fun r t => zde r 11 False fun o => Zgo d 122 11 L (zq (S.2.1 11 o 18) :: t) S Q) := Zgo_iff (i := .getfield 43) (len := 3) (a := 11) (b := 18) (c := 3) (p := 4148) rfl
theorem zg_122_11 : Zgo d 122 11 L st S Q ↔ (zldi L 1 False fun x => Zgo d 122 12 L (zi x :: st) S Q) := Zgo_iff (i := .iload_n 1) (len := 1) (a := 0) (b := 0) (c := 0) (p := 0) rfl
theorem zg_122_12 : Zgo d 122 12 L st S Q ↔ (zpi st False fun j t => zpa t False fun r t => znn r False fun q o => zop (zlen S q) False fun n => if n.1 = 0 then zix j n.2 False fun x => Zgo d 122 13 L (zi (S.1 q o x) :: t) S Q else False) := Zgo_iff (i := .iaload) (len := 1) (a := 0) (b := 0) (c := 0) (p := 0) rfl
theorem zg_122_13 : Zgo d 122 13 L st S Q ↔ (zpi st False fun y t => zpi t False fun x t => if zw x < zw y then Zgo d 122 16 L t S Q else Zgo d 122 44 L t S Q) := Zgo_iff (i := .if_icmp .ge 31) (len := 3) (a := 0) (b := 0) (c := 0) (p := 0) rfl
theorem zg_122_16 : Zgo d 122 16 L st S Q ↔ (zlda L 0 False fun r => Zgo d 122 17 L (zq r :: st) S Q) := Zgo_iff (i := .aload_n 0) (len := 1) (a := 0) (b := 0) (c := 0) (p := 0) rfl
theorem zg_122_17 : Zgo d 122 17 L st S Q ↔ (zpa st False fun r t => zde r 11 False fun o => Zgo d 122 20 L (zq (S.2.1 11 o 16) :: t) S Q) := Zgo_iff (i := .getfield 37) (len := 3) (a := 11) (b := 16) (c := 3) (p := 4146) rfl
theorem zg_122_20 : Zgo d 122 20 L st S Q ↔ (Zgo d 122 21 L (zi 3 :: st) S Q) := Zgo_iff (i := .iconst 3) (len := 1) (a := 0) (b := 0) (c := 0) (p := 0) rfl
theorem zg_122_21 : Zgo d 122 21 L st S Q ↔ (zldi L 1 False fun x => Zgo d 122 22 L (zi x :: st) S Q) := Zgo_iff (i := .iload_n 1) (len := 1) (a := 0) (b := 0) (c := 0) (p := 0) rfl
theorem zg_122_22 : Zgo d 122 22 L st S Q ↔ (zpi st False fun y t => zpi t False fun x t => Zgo d 122 23 L (zi (x * y) :: t) S Q) := Zgo_iff (i := .imul) (len := 1) (a := 0) (b := 0) (c := 0) (p := 0) rfl
theorem zg_122_23 : Zgo d 122 23 L st S Q ↔ (zldi L 4 False fun x => Zgo d 122 25 L (zi x :: st) S Q) := Zgo_iff (i := .iload 4) (len := 2) (a := 0) (b := 0) (c := 0) (p := 0) rfl
theorem zg_122_25 : Zgo d 122 25 L st S Q ↔ (zpi st False fun y t => zpi t False fun x t => Zgo d 122 26 L (zi (x + y) :: t) S Q) := Zgo_iff (i := .iadd) (len := 1) (a := 0) (b := 0) (c := 0) (p := 0) rfl
theorem zg_122_26 : Zgo d 122 26 L st S Q ↔ (zpi st False fun j t => zpa t False fun r t => znn r False fun q o => zop (zlen S q) False fun n => if n.1 = 0 then zix j n.2 False fun x => Zgo d 122 27 L (zi (S.1 q o x) :: t) S Q else False) := Zgo_iff (i := .iaload) (len := 1) (a := 0) (b := 0) (c := 0) (p := 0) rfl
theorem zg_122_27 : Zgo d 122 27 L st S Q ↔ (zldi L 2 False fun x => Zgo d 122 28 L (zi x :: st) S Q) := Zgo_iff (i := .iload_n 2) (len := 1) (a := 0) (b := 0) (c := 0) (p := 0) rfl
theorem zg_122_28 : Zgo d 122 28 L st S Q ↔ (zpi st False fun y t => zpi t False fun x t => if zw x = zw y then Zgo d 122 31 L t S Q else Zgo d 122 36 L t S Q) := Zgo_iff (i := .if_icmp .ne 8) (len := 3) (a := 0) (b := 0) (c := 0) (p := 0) rfl
theorem zg_122_31 : Zgo d 122 31 L st S Q ↔ (zldi L 4 False fun x => Zgo d 122 33 L (zi x :: st) S Q) := Zgo_iff (i := .iload 4) (len := 2) (a := 0) (b := 0) (c := 0) (p := 0) rfl
theorem zg_122_33 : Zgo d 122 33 L st S Q ↔ (Zgo d 122 37 L st S Q) := Zgo_iff (i := .goto 4) (len := 3) (a := 0) (b := 0) (c := 0) (p := 0) rfl
theorem zg_122_36 : Zgo d 122 36 L st S Q ↔ (zldi L 3 False fun x => Zgo d 122 37 L (zi x :: st) S Q) := Zgo_iff (i := .iload_n 3) (len := 1) (a := 0) (b := 0) (c := 0) (p := 0) rfl
theorem zg_122_37 : Zgo d 122 37 L st S Q ↔ (zpi st False fun x t => Zgo d 122 38 (zst L 3 (some (zi x))) t S Q) := Zgo_iff (i := .istore_n 3) (len := 1) (a := 0) (b := 0) (c := 0) (p := 0) rfl
theorem zg_122_38 : Zgo d 122 38 L st S Q ↔ (zldi L 4 False fun x => Zgo d 122 41 (zst L 4 (some (zi (x + 1)))) st S Q) := Zgo_iff (i := .iinc 4 1) (len := 3) (a := 0) (b := 0) (c := 0) (p := 0) rfl
theorem zg_122_41 : Zgo d 122 41 L st S Q ↔ (Zgo d 122 5 L st S Q) := Zgo_iff (i := .goto (-36)) (len := 3) (a := 0) (b := 0) (c := 0) (p := 0) rfl
theorem zg_122_44 : Zgo d 122 44 L st S Q ↔ (zldi L 3 False fun x => Zgo d 122 45 L (zi x :: st) S Q) := Zgo_iff (i := .iload_n 3) (len := 1) (a := 0) (b := 0) (c := 0) (p := 0) rfl
theorem zg_122_45 : Zgo d 122 45 L st S Q ↔ (zpi st False fun x t => zem t False (Q (some (zi x)) S)) := Zgo_iff (i := .ireturn) (len := 1) (a := 0) (b := 0) (c := 0) (p := 0) rfl
/-- LeavingMachineModel.out(I)I -/
theorem zg_123_0 : Zgo d 123 0 L st S Q ↔ (zlda L 0 False fun r => Zgo d 123 1 L (zq r :: st) S Q) := Zgo_iff (i := .aload_n 0) (len := 1) (a := 0) (b := 0) (c := 0) (p := 0) rfl
theorem zg_123_1 : Zgo d 123 1 L st S Q ↔ (zldi L 1 False fun x => Zgo d 123 2 L (zi x :: st) S Q) := Zgo_iff (i := .iload_n 1) (len := 1) (a := 0) (b := 0) (c := 0) (p := 0) rfl
theorem zg_123_2 : Zgo d 123 2 L st S Q ↔ (zpi st False fun x t => if zw x < zw 0 then Zgo d 123 13 L t S Q else Zgo d 123 5 L t S Q) := Zgo_iff (i := .ifCond .lt 11) (len := 3) (a := 0) (b := 0) (c := 0) (p := 0) rfl
theorem zg_123_5 : Zgo d 123 5 L st S Q ↔ (zldi L 1 False fun x => Zgo d 123 6 L (zi x :: st) S Q) := Zgo_iff (i := .iload_n 1) (len := 1) (a := 0) (b := 0) (c := 0) (p := 0) rfl
theorem zg_123_6 : Zgo d 123 6 L st S Q ↔ (zlda L 0 False fun r => Zgo d 123 7 L (zq r :: st) S Q) := Zgo_iff (i := .aload_n 0) (len := 1) (a := 0) (b := 0) (c := 0) (p := 0) rfl
theorem zg_123_7 : Zgo d 123 7 L st S Q ↔ (zpa st False fun r t => zde r 11 False fun o => Zgo d 123 10 L (zi (S.1 11 o 35) :: t) S Q) := Zgo_iff (i := .getfield 219) (len := 3) (a := 11) (b := 35) (c := 0) (p := 4165) rfl
theorem zg_123_10 : Zgo d 123 10 L st S Q ↔ (zpi st False fun y t => zpi t False fun x t => if zw x < zw y then Zgo d 123 17 L t S Q else Zgo d 123 13 L t S Q) := Zgo_iff (i := .if_icmp .lt 7) (len := 3) (a := 0) (b := 0) (c := 0) (p := 0) rfl
theorem zg_123_13 : Zgo d 123 13 L st S Q ↔ (Zgo d 123 14 L (zi 1 :: st) S Q) := Zgo_iff (i := .iconst 1) (len := 1) (a := 0) (b := 0) (c := 0) (p := 0) rfl
theorem zg_123_14 : Zgo d 123 14 L st S Q ↔ (Zgo d 123 18 L st S Q) := Zgo_iff (i := .goto 4) (len := 3) (a := 0) (b := 0) (c := 0) (p := 0) rfl
theorem zg_123_17 : Zgo d 123 17 L st S Q ↔ (Zgo d 123 18 L (zi 0 :: st) S Q) := Zgo_iff (i := .iconst 0) (len := 1) (a := 0) (b := 0) (c := 0) (p := 0) rfl
theorem zg_123_18 : Zgo d 123 18 L st S Q ↔ (zpi st False fun v t => zpa t False fun r t => zde r 11 False fun o => Zgo d 123 21 L t (zsI S.1 11 o 0 v, S.2) Q) := Zgo_iff (i := .putfield 119) (len := 3) (a := 11) (b := 0) (c := 0) (p := 4130) rfl
theorem zg_123_21 : Zgo d 123 21 L st S Q ↔ (zlda L 0 False fun r => Zgo d 123 22 L (zq r :: st) S Q) := Zgo_iff (i := .aload_n 0) (len := 1) (a := 0) (b := 0) (c := 0) (p := 0) rfl
theorem zg_123_22 : Zgo d 123 22 L st S Q ↔ (zpa st False fun r t => zde r 11 False fun o => Zgo d 123 25 L (zi (S.1 11 o 0) :: t) S Q) := Zgo_iff (i := .getfield 119) (len := 3) (a := 11) (b := 0) (c := 0) (p := 4130) rfl
theorem zg_123_25 : Zgo d 123 25 L st S Q ↔ (zpi st False fun x t => if zw 0 < zw x then Zgo d 123 28 L t S Q else Zgo d 123 32 L t S Q) := Zgo_iff (i := .ifCond .le 7) (len := 3) (a := 0) (b := 0) (c := 0) (p := 0) rfl
theorem zg_123_28 : Zgo d 123 28 L st S Q ↔ (Zgo d 123 29 L (zi 0 :: st) S Q) := Zgo_iff (i := .iconst 0) (len := 1) (a := 0) (b := 0) (c := 0) (p := 0) rfl
theorem zg_123_29 : Zgo d 123 29 L st S Q ↔ (Zgo d 123 38 L st S Q) := Zgo_iff (i := .goto 9) (len := 3) (a := 0) (b := 0) (c := 0) (p := 0) rfl
theorem zg_123_32 : Zgo d 123 32 L st S Q ↔ (zlda L 0 False fun r => Zgo d 123 33 L (zq r :: st) S Q) := Zgo_iff (i := .aload_n 0) (len := 1) (a := 0) (b := 0) (c := 0) (p := 0) rfl
theorem zg_123_33 : Zgo d 123 33 L st S Q ↔ (zpa st False fun r t => zde r 11 False fun o => Zgo d 123 36 L (zq (S.2.1 11 o 34) :: t) S Q) := Zgo_iff (i := .getfield 85) (len := 3) (a := 11) (b := 34) (c := 3) (p := 4164) rfl
theorem zg_123_36 : Zgo d 123 36 L st S Q ↔ (zldi L 1 False fun x => Zgo d 123 37 L (zi x :: st) S Q) := Zgo_iff (i := .iload_n 1) (len := 1) (a := 0) (b := 0) (c := 0) (p := 0) rfl
theorem zg_123_37 : Zgo d 123 37 L st S Q ↔ (zpi st False fun j t => zpa t False fun r t => znn r False fun q o => zop (zlen S q) False fun n => if n.1 = 0 then zix j n.2 False fun x => Zgo d 123 38 L (zi (S.1 q o x) :: t) S Q else False) := Zgo_iff (i := .iaload) (len := 1) (a := 0) (b := 0) (c := 0) (p := 0) rfl
theorem zg_123_38 : Zgo d 123 38 L st S Q ↔ (zpi st False fun x t => zem t False (Q (some (zi x)) S)) := Zgo_iff (i := .ireturn) (len := 1) (a := 0) (b := 0) (c := 0) (p := 0) rfl
/-- LeavingMachineModel.variable(I)I -/
theorem zg_124_0 : Zgo d 124 0 L st S Q ↔ (zlda L 0 False fun r => Zgo d 124 1 L (zq r :: st) S Q) := Zgo_iff (i := .aload_n 0) (len := 1) (a := 0) (b := 0) (c := 0) (p := 0) rfl
theorem zg_124_1 : Zgo d 124 1 L st S Q ↔ (zldi L 1 False fun x => Zgo d 124 2 L (zi x :: st) S Q) := Zgo_iff (i := .iload_n 1) (len := 1) (a := 0) (b := 0) (c := 0) (p := 0) rfl
theorem zg_124_2 : Zgo d 124 2 L st S Q ↔ (zpi st False fun x t => if zw x < zw 0 then Zgo d 124 11 L t S Q else Zgo d 124 5 L t S Q) := Zgo_iff (i := .ifCond .lt 9) (len := 3) (a := 0) (b := 0) (c := 0) (p := 0) rfl
theorem zg_124_5 : Zgo d 124 5 L st S Q ↔ (zldi L 1 False fun x => Zgo d 124 6 L (zi x :: st) S Q) := Zgo_iff (i := .iload_n 1) (len := 1) (a := 0) (b := 0) (c := 0) (p := 0) rfl
theorem zg_124_6 : Zgo d 124 6 L st S Q ↔ (Zgo d 124 8 L (zi 7 :: st) S Q) := Zgo_iff (i := .bipush 7) (len := 2) (a := 0) (b := 0) (c := 0) (p := 0) rfl
theorem zg_124_8 : Zgo d 124 8 L st S Q ↔ (zpi st False fun y t => zpi t False fun x t => if zw y < zw x then Zgo d 124 11 L t S Q else Zgo d 124 15 L t S Q) := Zgo_iff (i := .if_icmp .le 7) (len := 3) (a := 0) (b := 0) (c := 0) (p := 0) rfl
theorem zg_124_11 : Zgo d 124 11 L st S Q ↔ (Zgo d 124 12 L (zi 1 :: st) S Q) := Zgo_iff (i := .iconst 1) (len := 1) (a := 0) (b := 0) (c := 0) (p := 0) rfl
theorem zg_124_12 : Zgo d 124 12 L st S Q ↔ (Zgo d 124 16 L st S Q) := Zgo_iff (i := .goto 4) (len := 3) (a := 0) (b := 0) (c := 0) (p := 0) rfl
theorem zg_124_15 : Zgo d 124 15 L st S Q ↔ (Zgo d 124 16 L (zi 0 :: st) S Q) := Zgo_iff (i := .iconst 0) (len := 1) (a := 0) (b := 0) (c := 0) (p := 0) rfl
theorem zg_124_16 : Zgo d 124 16 L st S Q ↔ (zpi st False fun v t => zpa t False fun r t => zde r 11 False fun o => Zgo d 124 19 L t (zsI S.1 11 o 0 v, S.2) Q) := Zgo_iff (i := .putfield 119) (len := 3) (a := 11) (b := 0) (c := 0) (p := 4130) rfl
theorem zg_124_19 : Zgo d 124 19 L st S Q ↔ (zlda L 0 False fun r => Zgo d 124 20 L (zq r :: st) S Q) := Zgo_iff (i := .aload_n 0) (len := 1) (a := 0) (b := 0) (c := 0) (p := 0) rfl
theorem zg_124_20 : Zgo d 124 20 L st S Q ↔ (zpa st False fun r t => zde r 11 False fun o => Zgo d 124 23 L (zi (S.1 11 o 0) :: t) S Q) := Zgo_iff (i := .getfield 119) (len := 3) (a := 11) (b := 0) (c := 0) (p := 4130) rfl
theorem zg_124_23 : Zgo d 124 23 L st S Q ↔ (zpi st False fun x t => if zw 0 < zw x then Zgo d 124 26 L t S Q else Zgo d 124 30 L t S Q) := Zgo_iff (i := .ifCond .le 7) (len := 3) (a := 0) (b := 0) (c := 0) (p := 0) rfl
theorem zg_124_26 : Zgo d 124 26 L st S Q ↔ (Zgo d 124 27 L (zi 0 :: st) S Q) := Zgo_iff (i := .iconst 0) (len := 1) (a := 0) (b := 0) (c := 0) (p := 0) rfl
theorem zg_124_27 : Zgo d 124 27 L st S Q ↔ (Zgo d 124 36 L st S Q) := Zgo_iff (i := .goto 9) (len := 3) (a := 0) (b := 0) (c := 0) (p := 0) rfl
theorem zg_124_30 : Zgo d 124 30 L st S Q ↔ (zlda L 0 False fun r => Zgo d 124 31 L (zq r :: st) S Q) := Zgo_iff (i := .aload_n 0) (len := 1) (a := 0) (b := 0) (c := 0) (p := 0) rfl
theorem zg_124_31 : Zgo d 124 31 L st S Q ↔ (zpa st False fun r t => zde r 11 False fun o => Zgo d 124 34 L (zq (S.2.1 11 o 33) :: t) S Q) := Zgo_iff (i := .getfield 82) (len := 3) (a := 11) (b := 33) (c := 3) (p := 4163) rfl
theorem zg_124_34 : Zgo d 124 34 L st S Q ↔ (zldi L 1 False fun x => Zgo d 124 35 L (zi x :: st) S Q) := Zgo_iff (i := .iload_n 1) (len := 1) (a := 0) (b := 0) (c := 0) (p := 0) rfl
theorem zg_124_35 : Zgo d 124 35 L st S Q ↔ (zpi st False fun j t => zpa t False fun r t => znn r False fun q o => zop (zlen S q) False fun n => if n.1 = 0 then zix j n.2 False fun x => Zgo d 124 36 L (zi (S.1 q o x) :: t) S Q else False) := Zgo_iff (i := .iaload) (len := 1) (a := 0) (b := 0) (c := 0) (p := 0) rfl
theorem zg_124_36 : Zgo d 124 36 L st S Q ↔ (zpi st False fun x t => zem t False (Q (some (zi x)) S)) := Zgo_iff (i := .ireturn) (len := 1) (a := 0) (b := 0) (c := 0) (p := 0) rfl
/-- LeavingMachineModel.raised(Z)I -/
theorem zg_125_0 : Zgo d 125 0 L st S Q ↔ (zlda L 0 False fun r => Zgo d 125 1 L (zq r :: st) S Q) := Zgo_iff (i := .aload_n 0) (len := 1) (a := 0) (b := 0) (c := 0) (p := 0) rfl
theorem zg_125_1 : Zgo d 125 1 L st S Q ↔ (zlda L 0 False fun r => Zgo d 125 2 L (zq r :: st) S Q) := Zgo_iff (i := .aload_n 0) (len := 1) (a := 0) (b := 0) (c := 0) (p := 0) rfl
theorem zg_125_2 : Zgo d 125 2 L st S Q ↔ (zpa st False fun r t => zde r 11 False fun o => Zgo d 125 5 L (zi (S.1 11 o 36) :: t) S Q) := Zgo_iff (i := .getfield 88) (len := 3) (a := 11) (b := 36) (c := 0) (p := 4166) rfl
theorem zg_125_5 : Zgo d 125 5 L st S Q ↔ (Zgo d 125 6 L (zi 2 :: st) S Q) := Zgo_iff (i := .iconst 2) (len := 1) (a := 0) (b := 0) (c := 0) (p := 0) rfl
theorem zg_125_6 : Zgo d 125 6 L st S Q ↔ (zpi st False fun y t => zpi t False fun x t => if zw x = zw y then Zgo d 125 13 L t S Q else Zgo d 125 9 L t S Q) := Zgo_iff (i := .if_icmp .eq 7) (len := 3) (a := 0) (b := 0) (c := 0) (p := 0) rfl
theorem zg_125_9 : Zgo d 125 9 L st S Q ↔ (Zgo d 125 10 L (zi 1 :: st) S Q) := Zgo_iff (i := .iconst 1) (len := 1) (a := 0) (b := 0) (c := 0) (p := 0) rfl
theorem zg_125_10 : Zgo d 125 10 L st S Q ↔ (Zgo d 125 14 L st S Q) := Zgo_iff (i := .goto 4) (len := 3) (a := 0) (b := 0) (c := 0) (p := 0) rfl
theorem zg_125_13 : Zgo d 125 13 L st S Q ↔ (Zgo d 125 14 L (zi 0 :: st) S Q) := Zgo_iff (i := .iconst 0) (len := 1) (a := 0) (b := 0) (c := 0) (p := 0) rfl
theorem zg_125_14 : Zgo d 125 14 L st S Q ↔ (zpi st False fun v t => zpa t False fun r t => zde r 11 False fun o => Zgo d 125 17 L t (zsI S.1 11 o 0 v, S.2) Q) := Zgo_iff (i := .putfield 119) (len := 3) (a := 11) (b := 0) (c := 0) (p := 4130) rfl
theorem zg_125_17 : Zgo d 125 17 L st S Q ↔ (zlda L 0 False fun r => Zgo d 125 18 L (zq r :: st) S Q) := Zgo_iff (i := .aload_n 0) (len := 1) (a := 0) (b := 0) (c := 0) (p := 0) rfl
theorem zg_125_18 : Zgo d 125 18 L st S Q ↔ (zpa st False fun r t => zde r 11 False fun o => Zgo d 125 21 L (zi (S.1 11 o 0) :: t) S Q) := Zgo_iff (i := .getfield 119) (len := 3) (a := 11) (b := 0) (c := 0) (p := 4130) rfl
theorem zg_125_21 : Zgo d 125 21 L st S Q ↔ (zpi st False fun x t => if zw 0 < zw x then Zgo d 125 24 L t S Q else Zgo d 125 28 L t S Q) := Zgo_iff (i := .ifCond .le 7) (len := 3) (a := 0) (b := 0) (c := 0) (p := 0) rfl
theorem zg_125_24 : Zgo d 125 24 L st S Q ↔ (Zgo d 125 25 L (zi 0 :: st) S Q) := Zgo_iff (i := .iconst 0) (len := 1) (a := 0) (b := 0) (c := 0) (p := 0) rfl
theorem zg_125_25 : Zgo d 125 25 L st S Q ↔ (Zgo d 125 43 L st S Q) := Zgo_iff (i := .goto 18) (len := 3) (a := 0) (b := 0) (c := 0) (p := 0) rfl
theorem zg_125_28 : Zgo d 125 28 L st S Q ↔ (zldi L 1 False fun x => Zgo d 125 29 L (zi x :: st) S Q) := Zgo_iff (i := .iload_n 1) (len := 1) (a := 0) (b := 0) (c := 0) (p := 0) rfl
theorem zg_125_29 : Zgo d 125 29 L st S Q ↔ (zpi st False fun x t => if zw x = zw 0 then Zgo d 125 39 L t S Q else Zgo d 125 32 L t S Q) := Zgo_iff (i := .ifCond .eq 10) (len := 3) (a := 0) (b := 0) (c := 0) (p := 0) rfl
theorem zg_125_32 : Zgo d 125 32 L st S Q ↔ (zlda L 0 False fun r => Zgo d 125 33 L (zq r :: st) S Q) := Zgo_iff (i := .aload_n 0) (len := 1) (a := 0) (b := 0) (c := 0) (p := 0) rfl
theorem zg_125_33 : Zgo d 125 33 L st S Q ↔ (zpa st False fun r t => zde r 11 False fun o => Zgo d 125 36 L (zi (S.1 11 o 40) :: t) S Q) := Zgo_iff (i := .getfield 298) (len := 3) (a := 11) (b := 40) (c := 0) (p := 4170) rfl
theorem zg_125_36 : Zgo d 125 36 L st S Q ↔ (Zgo d 125 43 L st S Q) := Zgo_iff (i := .goto 7) (len := 3) (a := 0) (b := 0) (c := 0) (p := 0) rfl
theorem zg_125_39 : Zgo d 125 39 L st S Q ↔ (zlda L 0 False fun r => Zgo d 125 40 L (zq r :: st) S Q) := Zgo_iff (i := .aload_n 0) (len := 1) (a := 0) (b := 0) (c := 0) (p := 0) rfl
theorem zg_125_40 : Zgo d 125 40 L st S Q ↔ (zpa st False fun r t => zde r 11 False fun o => Zgo d 125 43 L (zi (S.1 11 o 39) :: t) S Q) := Zgo_iff (i := .getfield 295) (len := 3) (a := 11) (b := 39) (c := 0) (p := 4169) rfl
theorem zg_125_43 : Zgo d 125 43 L st S Q ↔ (zpi st False fun x t => zem t False (Q (some (zi x)) S)) := Zgo_iff (i := .ireturn) (len := 1) (a := 0) (b := 0) (c := 0) (p := 0) rfl
/-- LeavingMachineModel.raises(I)I -/
theorem zg_126_0 : Zgo d 126 0 L st S Q ↔ (zlda L 0 False fun r => Zgo d 126 1 L (zq r :: st) S Q) := Zgo_iff (i := .aload_n 0) (len := 1) (a := 0) (b := 0) (c := 0) (p := 0) rfl
theorem zg_126_1 : Zgo d 126 1 L st S Q ↔ (zlda L 0 False fun r => Zgo d 126 2 L (zq r :: st) S Q) := Zgo_iff (i := .aload_n 0) (len := 1) (a := 0) (b := 0) (c := 0) (p := 0) rfl
theorem zg_126_2 : Zgo d 126 2 L st S Q ↔ (zpa st False fun r t => zde r 11 False fun o => Zgo d 126 5 L (zi (S.1 11 o 5) :: t) S Q) := Zgo_iff (i := .getfield 237) (len := 3) (a := 11) (b := 5) (c := 1) (p := 4135) rfl
theorem zg_126_5 : Zgo d 126 5 L st S Q ↔ (zpi st False fun x t => if zw x = zw 0 then Zgo d 126 20 L t S Q else Zgo d 126 8 L t S Q) := Zgo_iff (i := .ifCond .eq 15) (len := 3) (a := 0) (b := 0) (c := 0) (p := 0) rfl
theorem zg_126_8 : Zgo d 126 8 L st S Q ↔ (zldi L 1 False fun x => Zgo d 126 9 L (zi x :: st) S Q) := Zgo_iff (i := .iload_n 1) (len := 1) (a := 0) (b := 0) (c := 0) (p := 0) rfl
theorem zg_126_9 : Zgo d 126 9 L st S Q ↔ (zpi st False fun x t => if zw x < zw 0 then Zgo d 126 20 L t S Q else Zgo d 126 12 L t S Q) := Zgo_iff (i := .ifCond .lt 11) (len := 3) (a := 0) (b := 0) (c := 0) (p := 0) rfl
theorem zg_126_12 : Zgo d 126 12 L st S Q ↔ (zldi L 1 False fun x => Zgo d 126 13 L (zi x :: st) S Q) := Zgo_iff (i := .iload_n 1) (len := 1) (a := 0) (b := 0) (c := 0) (p := 0) rfl
theorem zg_126_13 : Zgo d 126 13 L st S Q ↔ (zlda L 0 False fun r => Zgo d 126 14 L (zq r :: st) S Q) := Zgo_iff (i := .aload_n 0) (len := 1) (a := 0) (b := 0) (c := 0) (p := 0) rfl
theorem zg_126_14 : Zgo d 126 14 L st S Q ↔ (zpa st False fun r t => zde r 11 False fun o => Zgo d 126 17 L (zi (S.1 11 o 6) :: t) S Q) := Zgo_iff (i := .getfield 193) (len := 3) (a := 11) (b := 6) (c := 0) (p := 4136) rfl
theorem zg_126_17 : Zgo d 126 17 L st S Q ↔ (zpi st False fun y t => zpi t False fun x t => if zw x < zw y then Zgo d 126 24 L t S Q else Zgo d 126 20 L t S Q) := Zgo_iff (i := .if_icmp .lt 7) (len := 3) (a := 0) (b := 0) (c := 0) (p := 0) rfl
theorem zg_126_20 : Zgo d 126 20 L st S Q ↔ (Zgo d 126 21 L (zi 1 :: st) S Q) := Zgo_iff (i := .iconst 1) (len := 1) (a := 0) (b := 0) (c := 0) (p := 0) rfl
theorem zg_126_21 : Zgo d 126 21 L st S Q ↔ (Zgo d 126 25 L st S Q) := Zgo_iff (i := .goto 4) (len := 3) (a := 0) (b := 0) (c := 0) (p := 0) rfl
theorem zg_126_24 : Zgo d 126 24 L st S Q ↔ (Zgo d 126 25 L (zi 0 :: st) S Q) := Zgo_iff (i := .iconst 0) (len := 1) (a := 0) (b := 0) (c := 0) (p := 0) rfl
theorem zg_126_25 : Zgo d 126 25 L st S Q ↔ (zpi st False fun v t => zpa t False fun r t => zde r 11 False fun o => Zgo d 126 28 L t (zsI S.1 11 o 0 v, S.2) Q) := Zgo_iff (i := .putfield 119) (len := 3) (a := 11) (b := 0) (c := 0) (p := 4130) rfl
theorem zg_126_28 : Zgo d 126 28 L st S Q ↔ (zlda L 0 False fun r => Zgo d 126 29 L (zq r :: st) S Q) := Zgo_iff (i := .aload_n 0) (len := 1) (a := 0) (b := 0) (c := 0) (p := 0) rfl
theorem zg_126_29 : Zgo d 126 29 L st S Q ↔ (zpa st False fun r t => zde r 11 False fun o => Zgo d 126 32 L (zi (S.1 11 o 0) :: t) S Q) := Zgo_iff (i := .getfield 119) (len := 3) (a := 11) (b := 0) (c := 0) (p := 4130) rfl
theorem zg_126_32 : Zgo d 126 32 L st S Q ↔ (zpi st False fun x t => if zw 0 < zw x then Zgo d 126 35 L t S Q else Zgo d 126 39 L t S Q) := Zgo_iff (i := .ifCond .le 7) (len := 3) (a := 0) (b := 0) (c := 0) (p := 0) rfl
theorem zg_126_35 : Zgo d 126 35 L st S Q ↔ (Zgo d 126 36 L (zi 0 :: st) S Q) := Zgo_iff (i := .iconst 0) (len := 1) (a := 0) (b := 0) (c := 0) (p := 0) rfl
theorem zg_126_36 : Zgo d 126 36 L st S Q ↔ (Zgo d 126 50 L st S Q) := Zgo_iff (i := .goto 14) (len := 3) (a := 0) (b := 0) (c := 0) (p := 0) rfl
theorem zg_126_39 : Zgo d 126 39 L st S Q ↔ (zlda L 0 False fun r => Zgo d 126 40 L (zq r :: st) S Q) := Zgo_iff (i := .aload_n 0) (len := 1) (a := 0) (b := 0) (c := 0) (p := 0) rfl
theorem zg_126_40 : Zgo d 126 40 L st S Q ↔ (zpa st False fun r t => zde r 11 False fun o => Zgo d 126 43 L (zq (S.2.1 11 o 27) :: t) S Q) := Zgo_iff (i := .getfield 67) (len := 3) (a := 11) (b := 27) (c := 3) (p := 4157) rfl
theorem zg_126_43 : Zgo d 126 43 L st S Q ↔ (zlda L 0 False fun r => Zgo d 126 44 L (zq r :: st) S Q) := Zgo_iff (i := .aload_n 0) (len := 1) (a := 0) (b := 0) (c := 0) (p := 0) rfl
theorem zg_126_44 : Zgo d 126 44 L st S Q ↔ (zpa st False fun r t => zde r 11 False fun o => Zgo d 126 47 L (zq (S.2.1 11 o 9) :: t) S Q) := Zgo_iff (i := .getfield 19) (len := 3) (a := 11) (b := 9) (c := 3) (p := 4139) rfl
theorem zg_126_47 : Zgo d 126 47 L st S Q ↔ (zldi L 1 False fun x => Zgo d 126 48 L (zi x :: st) S Q) := Zgo_iff (i := .iload_n 1) (len := 1) (a := 0) (b := 0) (c := 0) (p := 0) rfl
theorem zg_126_48 : Zgo d 126 48 L st S Q ↔ (zpi st False fun j t => zpa t False fun r t => znn r False fun q o => zop (zlen S q) False fun n => if n.1 = 0 then zix j n.2 False fun x => Zgo d 126 49 L (zi (S.1 q o x) :: t) S Q else False) := Zgo_iff (i := .iaload) (len := 1) (a := 0) (b := 0) (c := 0) (p := 0) rfl
theorem zg_126_49 : Zgo d 126 49 L st S Q ↔ (zpi st False fun j t => zpa t False fun r t => znn r False fun q o => zop (zlen S q) False fun n => if n.1 = 0 then zix j n.2 False fun x => Zgo d 126 50 L (zi (S.1 q o x) :: t) S Q else False) := Zgo_iff (i := .iaload) (len := 1) (a := 0) (b := 0) (c := 0) (p := 0) rfl
theorem zg_126_50 : Zgo d 126 50 L st S Q ↔ (zpi st False fun x t => zem t False (Q (some (zi x)) S)) := Zgo_iff (i := .ireturn) (len := 1) (a := 0) (b := 0) (c := 0) (p := 0) rfl
/-- LeavingMachineModel.look(I)I -/
theorem zg_127_0 : Zgo d 127 0 L st S Q ↔ (zlda L 0 False fun r => Zgo d 127 1 L (zq r :: st) S Q) := Zgo_iff (i := .aload_n 0) (len := 1) (a := 0) (b := 0) (c := 0) (p := 0) rfl
theorem zg_127_1 : Zgo d 127 1 L st S Q ↔ (Zgo d 127 2 L (zi 0 :: st) S Q) := Zgo_iff (i := .iconst 0) (len := 1) (a := 0) (b := 0) (c := 0) (p := 0) rfl
theorem zg_127_2 : Zgo d 127 2 L st S Q ↔ (zpi st False fun v t => zpa t False fun r t => zde r 11 False fun o => Zgo d 127 5 L t (zsI S.1 11 o 0 v, S.2) Q) := Zgo_iff (i := .putfield 119) (len := 3) (a := 11) (b := 0) (c := 0) (p := 4130) rfl
theorem zg_127_5 : Zgo d 127 5 L st S Q ↔ (zldi L 1 False fun x => Zgo d 127 6 L (zi x :: st) S Q) := Zgo_iff (i := .iload_n 1) (len := 1) (a := 0) (b := 0) (c := 0) (p := 0) rfl
theorem zg_127_52 : Zgo d 127 52 L st S Q ↔ (zlda L 0 False fun r => Zgo d 127 53 L (zq r :: st) S Q) := Zgo_iff (i := .aload_n 0) (len := 1) (a := 0) (b := 0) (c := 0) (p := 0) rfl
theorem zg_127_53 : Zgo d 127 53 L st S Q ↔ (zpa st False fun r t => zde r 11 False fun o => Zgo d 127 56 L (zi (S.1 11 o 2) :: t) S Q) := Zgo_iff (i := .getfield 122) (len := 3) (a := 11) (b := 2) (c := 0) (p := 4132) rfl
theorem zg_127_56 : Zgo d 127 56 L st S Q ↔ (zpi st False fun x t => zem t False (Q (some (zi x)) S)) := Zgo_iff (i := .ireturn) (len := 1) (a := 0) (b := 0) (c := 0) (p := 0) rfl
theorem zg_127_57 : Zgo d 127 57 L st S Q ↔ (zlda L 0 False fun r => Zgo d 127 58 L (zq r :: st) S Q) := Zgo_iff (i := .aload_n 0) (len := 1) (a := 0) (b := 0) (c := 0) (p := 0) rfl
theorem zg_127_58 : Zgo d 127 58 L st S Q ↔ (zpa st False fun r t => zde r 11 False fun o => Zgo d 127 61 L (zi (S.1 11 o 5) :: t) S Q) := Zgo_iff (i := .getfield 237) (len := 3) (a := 11) (b := 5) (c := 1) (p := 4135) rfl
theorem zg_127_61 : Zgo d 127 61 L st S Q ↔ (zpi st False fun x t => if zw x = zw 0 then Zgo d 127 68 L t S Q else Zgo d 127 64 L t S Q) := Zgo_iff (i := .ifCond .eq 7) (len := 3) (a := 0) (b := 0) (c := 0) (p := 0) rfl
theorem zg_127_64 : Zgo d 127 64 L st S Q ↔ (Zgo d 127 65 L (zi 1 :: st) S Q) := Zgo_iff (i := .iconst 1) (len := 1) (a := 0) (b := 0) (c := 0) (p := 0) rfl
theorem zg_127_65 : Zgo d 127 65 L st S Q ↔ (Zgo d 127 69 L st S Q) := Zgo_iff (i := .goto 4) (len := 3) (a := 0) (b := 0) (c := 0) (p := 0) rfl
theorem zg_127_68 : Zgo d 127 68 L st S Q ↔ (Zgo d 127 69 L (zi 0 :: st) S Q) := Zgo_iff (i := .iconst 0) (len := 1) (a := 0) (b := 0) (c := 0) (p := 0) rfl
theorem zg_127_69 : Zgo d 127 69 L st S Q ↔ (zpi st False fun x t => zem t False (Q (some (zi x)) S)) := Zgo_iff (i := .ireturn) (len := 1) (a := 0) (b := 0) (c := 0) (p := 0) rfl
theorem zg_127_70 : Zgo d 127 70 L st S Q ↔ (zlda L 0 False fun r => Zgo d 127 71 L (zq r :: st) S Q) := Zgo_iff (i := .aload_n 0) (len := 1) (a := 0) (b := 0) (c := 0) (p := 0) rfl
theorem zg_127_71 : Zgo d 127 71 L st S Q ↔ (zpa st False fun r t => zde r 11 False fun o => Zgo d 127 74 L (zi (S.1 11 o 5) :: t) S Q) := Zgo_iff (i := .getfield 237) (len := 3) (a := 11) (b := 5) (c := 1) (p := 4135) rfl
theorem zg_127_74 : Zgo d 127 74 L st S Q ↔ (zpi st False fun x t => if zw x = zw 0 then Zgo d 127 84 L t S Q else Zgo d 127 77 L t S Q) := Zgo_iff (i := .ifCond .eq 10) (len := 3) (a := 0) (b := 0) (c := 0) (p := 0) rfl
theorem zg_127_77 : Zgo d 127 77 L st S Q ↔ (zlda L 0 False fun r => Zgo d 127 78 L (zq r :: st) S Q) := Zgo_iff (i := .aload_n 0) (len := 1) (a := 0) (b := 0) (c := 0) (p := 0) rfl
theorem zg_127_78 : Zgo d 127 78 L st S Q ↔ (zpa st False fun r t => zde r 11 False fun o => Zgo d 127 81 L (zi (S.1 11 o 6) :: t) S Q) := Zgo_iff (i := .getfield 193) (len := 3) (a := 11) (b := 6) (c := 0) (p := 4136) rfl
theorem zg_127_81 : Zgo d 127 81 L st S Q ↔ (Zgo d 127 85 L st S Q) := Zgo_iff (i := .goto 4) (len := 3) (a := 0) (b := 0) (c := 0) (p := 0) rfl
theorem zg_127_84 : Zgo d 127 84 L st S Q ↔ (Zgo d 127 85 L (zi 0 :: st) S Q) := Zgo_iff (i := .iconst 0) (len := 1) (a := 0) (b := 0) (c := 0) (p := 0) rfl
theorem zg_127_85 : Zgo d 127 85 L st S Q ↔ (zpi st False fun x t => zem t False (Q (some (zi x)) S)) := Zgo_iff (i := .ireturn) (len := 1) (a := 0) (b := 0) (c := 0) (p := 0) rfl
theorem zg_127_86 : Zgo d 127 86 L st S Q ↔ (zlda L 0 False fun r => Zgo d 127 87 L (zq r :: st) S Q) := Zgo_iff (i := .aload_n 0) (len := 1) (a := 0) (b := 0) (c := 0) (p := 0) rfl
theorem zg_127_87 : Zgo d 127 87 L st S Q ↔ (zpa st False fun r t => zde r 11 False fun o => Zgo d 127 90 L (zi (S.1 11 o 5) :: t) S Q) := Zgo_iff (i := .getfield 237) (len := 3) (a := 11) (b := 5) (c := 1) (p := 4135) rfl
theorem zg_127_90 : Zgo d 127 90 L st S Q ↔ (zpi st False fun x t => if zw x = zw 0 then Zgo d 127 100 L t S Q else Zgo d 127 93 L t S Q) := Zgo_iff (i := .ifCond .eq 10) (len := 3) (a := 0) (b := 0) (c := 0) (p := 0) rfl
theorem zg_127_93 : Zgo d 127 93 L st S Q ↔ (zlda L 0 False fun r => Zgo d 127 94 L (zq r :: st) S Q) := Zgo_iff (i := .aload_n 0) (len := 1) (a := 0) (b := 0) (c := 0) (p := 0) rfl
theorem zg_127_94 : Zgo d 127 94 L st S Q ↔ (zpa st False fun r t => zde r 11 False fun o => Zgo d 127 97 L (zi (S.1 11 o 10) :: t) S Q) := Zgo_iff (i := .getfield 168) (len := 3) (a := 11) (b := 10) (c := 0) (p := 4140) rfl
theorem zg_127_97 : Zgo d 127 97 L st S Q ↔ (Zgo d 127 101 L st S Q) := Zgo_iff (i := .goto 4) (len := 3) (a := 0) (b := 0) (c := 0) (p := 0) rfl
theorem zg_127_100 : Zgo d 127 100 L st S Q ↔ (Zgo d 127 101 L (zi 0 :: st) S Q) := Zgo_iff (i := .iconst 0) (len := 1) (a := 0) (b := 0) (c := 0) (p := 0) rfl
theorem zg_127_101 : Zgo d 127 101 L st S Q ↔ (zpi st False fun x t => zem t False (Q (some (zi x)) S)) := Zgo_iff (i := .ireturn) (len := 1) (a := 0) (b := 0) (c := 0) (p := 0) rfl
theorem zg_127_102 : Zgo d 127 102 L st S Q ↔ (zlda L 0 False fun r => Zgo d 127 103 L (zq r :: st) S Q) := Zgo_iff (i := .aload_n 0) (len := 1) (a := 0) (b := 0) (c := 0) (p := 0) rfl
theorem zg_127_103 : Zgo d 127 103 L st S Q ↔ (zpa st False fun r t => zde r 11 False fun o => Zgo d 127 106 L (zi (S.1 11 o 36) :: t) S Q) := Zgo_iff (i := .getfield 88) (len := 3) (a := 11) (b := 36) (c := 0) (p := 4166) rfl
theorem zg_127_106 : Zgo d 127 106 L st S Q ↔ (zpi st False fun x t => zem t False (Q (some (zi x)) S)) := Zgo_iff (i := .ireturn) (len := 1) (a := 0) (b := 0) (c := 0) (p := 0) rfl
theorem zg_127_107 : Zgo d 127 107 L st S Q ↔ (zlda L 0 False fun r => Zgo d 127 108 L (zq r :: st) S Q) := Zgo_iff (i := .aload_n 0) (len := 1) (a := 0) (b := 0) (c := 0) (p := 0) rfl
theorem zg_127_108 : Zgo d 127 108 L st S Q ↔ (zpa st False fun r t => zde r 11 False fun o => Zgo d 127 111 L (zi (S.1 11 o 35) :: t) S Q) := Zgo_iff (i := .getfield 219) (len := 3) (a := 11) (b := 35) (c := 0) (p := 4165) rfl
theorem zg_127_111 : Zgo d 127 111 L st S Q ↔ (zpi st False fun x t => zem t False (Q (some (zi x)) S)) := Zgo_iff (i := .ireturn) (len := 1) (a := 0) (b := 0) (c := 0) (p := 0) rfl
theorem zg_127_112 : Zgo d 127 112 L st S Q ↔ (zlda L 0 False fun r => Zgo d 127 113 L (zq r :: st) S Q) := Zgo_iff (i := .aload_n 0) (len := 1) (a := 0) (b := 0) (c := 0) (p := 0) rfl
theorem zg_127_113 : Zgo d 127 113 L st S Q ↔ (zpa st False fun r t => zde r 11 False fun o => Zgo d 127 116 L (zi (S.1 11 o 37) :: t) S Q) := Zgo_iff (i := .getfield 222) (len := 3) (a := 11) (b := 37) (c := 0) (p := 4167) rfl
theorem zg_127_116 : Zgo d 127 116 L st S Q ↔ (zpi st False fun x t => zem t False (Q (some (zi x)) S)) := Zgo_iff (i := .ireturn) (len := 1) (a := 0) (b := 0) (c := 0) (p := 0) rfl
theorem zg_127_117 : Zgo d 127 117 L st S Q ↔ (zlda L 0 False fun r => Zgo d 127 118 L (zq r :: st) S Q) := Zgo_iff (i := .aload_n 0) (len := 1) (a := 0) (b := 0) (c := 0) (p := 0) rfl
theorem zg_127_118 : Zgo d 127 118 L st S Q ↔ (zpa st False fun r t => zde r 11 False fun o => Zgo d 127 121 L (zi (S.1 11 o 38) :: t) S Q) := Zgo_iff (i := .getfield 225) (len := 3) (a := 11) (b := 38) (c := 0) (p := 4168) rfl
theorem zg_127_121 : Zgo d 127 121 L st S Q ↔ (zpi st False fun x t => zem t False (Q (some (zi x)) S)) := Zgo_iff (i := .ireturn) (len := 1) (a := 0) (b := 0) (c := 0) (p := 0) rfl
theorem zg_127_122 : Zgo d 127 122 L st S Q ↔ (Zgo d 127 123 L (zi (-1) :: st) S Q) := Zgo_iff (i := .iconst (-1)) (len := 1) (a := 0) (b := 0) (c := 0) (p := 0) rfl
theorem zg_127_123 : Zgo d 127 123 L st S Q ↔ (zpi st False fun x t => zem t False (Q (some (zi x)) S)) := Zgo_iff (i := .ireturn) (len := 1) (a := 0) (b := 0) (c := 0) (p := 0) rfl
end
