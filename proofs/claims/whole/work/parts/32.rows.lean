/-! .. the reference: reading -/
section
variable {d : Nat} {L : zL} {st : List zV} {S : zS} {Q : Option zV → zS → Prop}
/-- LeavingMachineModel.<init>()V -/
theorem zg_80_0 : Zgo d 80 0 L st S Q ↔ (zlda L 0 False fun r => Zgo d 80 1 L (zq r :: st) S Q) := Zgo_iff (i := .aload_n 0) (len := 1) (a := 0) (b := 0) (c := 0) (p := 0) rfl
theorem zg_80_1 : Zgo d 80 1 L st S Q ↔ (zinv 1 st False fun as t => zCp d 905 as S fun _ S2 => Zgo d 80 4 L t S2 Q) := Zgo_iff (i := .invokespecial 1) (len := 3) (a := 0) (b := 1) (c := 4) (p := 4129) rfl
theorem zg_80_4 : Zgo d 80 4 L st S Q ↔ (zlda L 0 False fun r => Zgo d 80 5 L (zq r :: st) S Q) := Zgo_iff (i := .aload_n 0) (len := 1) (a := 0) (b := 0) (c := 0) (p := 0) rfl
theorem zg_80_5 : Zgo d 80 5 L st S Q ↔ (Zgo d 80 8 L (zi 160 :: st) S Q) := Zgo_iff (i := .sipush 160) (len := 3) (a := 0) (b := 0) (c := 0) (p := 0) rfl
theorem zg_80_8 : Zgo d 80 8 L st S Q ↔ (zpi st False fun n t => if n = (160 : Nat) ∧ S.2.2.1 30 = 0 then Zgo d 80 10 L (zq (some (30, 0)) :: t) (S.1, S.2.1, va_up S.2.2.1 30 1, S.2.2.2.1 + 1, S.2.2.2.2.1 + 160, S.2.2.2.2.2) Q else False) := Zgo_iff (i := .newarray .int) (len := 2) (a := 30) (b := 160) (c := 0) (p := 0) rfl
theorem zg_80_10 : Zgo d 80 10 L st S Q ↔ (zpa st False fun v t => zpa t False fun r t => zde r 11 False fun o => Zgo d 80 13 L t (S.1, zsR S.2.1 11 o 1 v, S.2.2) Q) := Zgo_iff (i := .putfield 7) (len := 3) (a := 11) (b := 1) (c := 3) (p := 4131) rfl
theorem zg_80_13 : Zgo d 80 13 L st S Q ↔ (zlda L 0 False fun r => Zgo d 80 14 L (zq r :: st) S Q) := Zgo_iff (i := .aload_n 0) (len := 1) (a := 0) (b := 0) (c := 0) (p := 0) rfl
theorem zg_80_14 : Zgo d 80 14 L st S Q ↔ (Zgo d 80 15 L (zi 3 :: st) S Q) := Zgo_iff (i := .iconst 3) (len := 1) (a := 0) (b := 0) (c := 0) (p := 0) rfl
theorem zg_80_15 : Zgo d 80 15 L st S Q ↔ (zpi st False fun n t => if n = (3 : Nat) ∧ S.2.2.1 31 = 0 then Zgo d 80 17 L (zq (some (31, 0)) :: t) (S.1, S.2.1, va_up S.2.2.1 31 1, S.2.2.2.1 + 1, S.2.2.2.2.1 + 3, S.2.2.2.2.2) Q else False) := Zgo_iff (i := .newarray .int) (len := 2) (a := 31) (b := 3) (c := 0) (p := 0) rfl
theorem zg_80_17 : Zgo d 80 17 L st S Q ↔ (zpa st False fun v t => zpa t False fun r t => zde r 11 False fun o => Zgo d 80 20 L t (S.1, zsR S.2.1 11 o 7 v, S.2.2) Q) := Zgo_iff (i := .putfield 13) (len := 3) (a := 11) (b := 7) (c := 3) (p := 4137) rfl
theorem zg_80_20 : Zgo d 80 20 L st S Q ↔ (zlda L 0 False fun r => Zgo d 80 21 L (zq r :: st) S Q) := Zgo_iff (i := .aload_n 0) (len := 1) (a := 0) (b := 0) (c := 0) (p := 0) rfl
theorem zg_80_21 : Zgo d 80 21 L st S Q ↔ (Zgo d 80 22 L (zi 3 :: st) S Q) := Zgo_iff (i := .iconst 3) (len := 1) (a := 0) (b := 0) (c := 0) (p := 0) rfl
theorem zg_80_22 : Zgo d 80 22 L st S Q ↔ (zpi st False fun n t => if n = (3 : Nat) ∧ S.2.2.1 32 = 0 then Zgo d 80 24 L (zq (some (32, 0)) :: t) (S.1, S.2.1, va_up S.2.2.1 32 1, S.2.2.2.1 + 1, S.2.2.2.2.1 + 3, S.2.2.2.2.2) Q else False) := Zgo_iff (i := .newarray .int) (len := 2) (a := 32) (b := 3) (c := 0) (p := 0) rfl
theorem zg_80_24 : Zgo d 80 24 L st S Q ↔ (zpa st False fun v t => zpa t False fun r t => zde r 11 False fun o => Zgo d 80 27 L t (S.1, zsR S.2.1 11 o 8 v, S.2.2) Q) := Zgo_iff (i := .putfield 16) (len := 3) (a := 11) (b := 8) (c := 3) (p := 4138) rfl
theorem zg_80_27 : Zgo d 80 27 L st S Q ↔ (zlda L 0 False fun r => Zgo d 80 28 L (zq r :: st) S Q) := Zgo_iff (i := .aload_n 0) (len := 1) (a := 0) (b := 0) (c := 0) (p := 0) rfl
theorem zg_80_28 : Zgo d 80 28 L st S Q ↔ (Zgo d 80 29 L (zi 4 :: st) S Q) := Zgo_iff (i := .iconst 4) (len := 1) (a := 0) (b := 0) (c := 0) (p := 0) rfl
theorem zg_80_29 : Zgo d 80 29 L st S Q ↔ (zpi st False fun n t => if n = (4 : Nat) ∧ S.2.2.1 33 = 0 then Zgo d 80 31 L (zq (some (33, 0)) :: t) (S.1, S.2.1, va_up S.2.2.1 33 1, S.2.2.2.1 + 1, S.2.2.2.2.1 + 4, S.2.2.2.2.2) Q else False) := Zgo_iff (i := .newarray .int) (len := 2) (a := 33) (b := 4) (c := 0) (p := 0) rfl
theorem zg_80_31 : Zgo d 80 31 L st S Q ↔ (zpa st False fun v t => zpa t False fun r t => zde r 11 False fun o => Zgo d 80 34 L t (S.1, zsR S.2.1 11 o 9 v, S.2.2) Q) := Zgo_iff (i := .putfield 19) (len := 3) (a := 11) (b := 9) (c := 3) (p := 4139) rfl
theorem zg_80_34 : Zgo d 80 34 L st S Q ↔ (zlda L 0 False fun r => Zgo d 80 35 L (zq r :: st) S Q) := Zgo_iff (i := .aload_n 0) (len := 1) (a := 0) (b := 0) (c := 0) (p := 0) rfl
theorem zg_80_35 : Zgo d 80 35 L st S Q ↔ (Zgo d 80 38 L (zi 160 :: st) S Q) := Zgo_iff (i := .sipush 160) (len := 3) (a := 0) (b := 0) (c := 0) (p := 0) rfl
theorem zg_80_38 : Zgo d 80 38 L st S Q ↔ (zpi st False fun n t => if n = (160 : Nat) ∧ S.2.2.1 34 = 0 then Zgo d 80 40 L (zq (some (34, 0)) :: t) (S.1, S.2.1, va_up S.2.2.1 34 1, S.2.2.2.1 + 1, S.2.2.2.2.1 + 160, S.2.2.2.2.2) Q else False) := Zgo_iff (i := .newarray .int) (len := 2) (a := 34) (b := 160) (c := 0) (p := 0) rfl
theorem zg_80_40 : Zgo d 80 40 L st S Q ↔ (zpa st False fun v t => zpa t False fun r t => zde r 11 False fun o => Zgo d 80 43 L t (S.1, zsR S.2.1 11 o 11 v, S.2.2) Q) := Zgo_iff (i := .putfield 22) (len := 3) (a := 11) (b := 11) (c := 3) (p := 4141) rfl
theorem zg_80_43 : Zgo d 80 43 L st S Q ↔ (zlda L 0 False fun r => Zgo d 80 44 L (zq r :: st) S Q) := Zgo_iff (i := .aload_n 0) (len := 1) (a := 0) (b := 0) (c := 0) (p := 0) rfl
theorem zg_80_44 : Zgo d 80 44 L st S Q ↔ (Zgo d 80 47 L (zi 160 :: st) S Q) := Zgo_iff (i := .sipush 160) (len := 3) (a := 0) (b := 0) (c := 0) (p := 0) rfl
theorem zg_80_47 : Zgo d 80 47 L st S Q ↔ (zpi st False fun n t => if n = (160 : Nat) ∧ S.2.2.1 35 = 0 then Zgo d 80 49 L (zq (some (35, 0)) :: t) (S.1, S.2.1, va_up S.2.2.1 35 1, S.2.2.2.1 + 1, S.2.2.2.2.1 + 160, S.2.2.2.2.2) Q else False) := Zgo_iff (i := .newarray .int) (len := 2) (a := 35) (b := 160) (c := 0) (p := 0) rfl
theorem zg_80_49 : Zgo d 80 49 L st S Q ↔ (zpa st False fun v t => zpa t False fun r t => zde r 11 False fun o => Zgo d 80 52 L t (S.1, zsR S.2.1 11 o 12 v, S.2.2) Q) := Zgo_iff (i := .putfield 25) (len := 3) (a := 11) (b := 12) (c := 3) (p := 4142) rfl
theorem zg_80_52 : Zgo d 80 52 L st S Q ↔ (zlda L 0 False fun r => Zgo d 80 53 L (zq r :: st) S Q) := Zgo_iff (i := .aload_n 0) (len := 1) (a := 0) (b := 0) (c := 0) (p := 0) rfl
theorem zg_80_53 : Zgo d 80 53 L st S Q ↔ (Zgo d 80 56 L (zi 160 :: st) S Q) := Zgo_iff (i := .sipush 160) (len := 3) (a := 0) (b := 0) (c := 0) (p := 0) rfl
theorem zg_80_56 : Zgo d 80 56 L st S Q ↔ (zpi st False fun n t => if n = (160 : Nat) ∧ S.2.2.1 36 = 0 then Zgo d 80 58 L (zq (some (36, 0)) :: t) (S.1, S.2.1, va_up S.2.2.1 36 1, S.2.2.2.1 + 1, S.2.2.2.2.1 + 160, S.2.2.2.2.2) Q else False) := Zgo_iff (i := .newarray .int) (len := 2) (a := 36) (b := 160) (c := 0) (p := 0) rfl
theorem zg_80_58 : Zgo d 80 58 L st S Q ↔ (zpa st False fun v t => zpa t False fun r t => zde r 11 False fun o => Zgo d 80 61 L t (S.1, zsR S.2.1 11 o 13 v, S.2.2) Q) := Zgo_iff (i := .putfield 28) (len := 3) (a := 11) (b := 13) (c := 3) (p := 4143) rfl
theorem zg_80_61 : Zgo d 80 61 L st S Q ↔ (zlda L 0 False fun r => Zgo d 80 62 L (zq r :: st) S Q) := Zgo_iff (i := .aload_n 0) (len := 1) (a := 0) (b := 0) (c := 0) (p := 0) rfl
theorem zg_80_62 : Zgo d 80 62 L st S Q ↔ (Zgo d 80 65 L (zi 160 :: st) S Q) := Zgo_iff (i := .sipush 160) (len := 3) (a := 0) (b := 0) (c := 0) (p := 0) rfl
theorem zg_80_65 : Zgo d 80 65 L st S Q ↔ (zpi st False fun n t => if n = (160 : Nat) ∧ S.2.2.1 37 = 0 then Zgo d 80 67 L (zq (some (37, 0)) :: t) (S.1, S.2.1, va_up S.2.2.1 37 1, S.2.2.2.1 + 1, S.2.2.2.2.1 + 160, S.2.2.2.2.2) Q else False) := Zgo_iff (i := .newarray .int) (len := 2) (a := 37) (b := 160) (c := 0) (p := 0) rfl
theorem zg_80_67 : Zgo d 80 67 L st S Q ↔ (zpa st False fun v t => zpa t False fun r t => zde r 11 False fun o => Zgo d 80 70 L t (S.1, zsR S.2.1 11 o 14 v, S.2.2) Q) := Zgo_iff (i := .putfield 31) (len := 3) (a := 11) (b := 14) (c := 3) (p := 4144) rfl
theorem zg_80_70 : Zgo d 80 70 L st S Q ↔ (zlda L 0 False fun r => Zgo d 80 71 L (zq r :: st) S Q) := Zgo_iff (i := .aload_n 0) (len := 1) (a := 0) (b := 0) (c := 0) (p := 0) rfl
theorem zg_80_71 : Zgo d 80 71 L st S Q ↔ (Zgo d 80 74 L (zi 960 :: st) S Q) := Zgo_iff (i := .sipush 960) (len := 3) (a := 0) (b := 0) (c := 0) (p := 0) rfl
theorem zg_80_74 : Zgo d 80 74 L st S Q ↔ (zpi st False fun n t => if n = (960 : Nat) ∧ S.2.2.1 38 = 0 then Zgo d 80 76 L (zq (some (38, 0)) :: t) (S.1, S.2.1, va_up S.2.2.1 38 1, S.2.2.2.1 + 1, S.2.2.2.2.1 + 960, S.2.2.2.2.2) Q else False) := Zgo_iff (i := .newarray .int) (len := 2) (a := 38) (b := 960) (c := 0) (p := 0) rfl
theorem zg_80_76 : Zgo d 80 76 L st S Q ↔ (zpa st False fun v t => zpa t False fun r t => zde r 11 False fun o => Zgo d 80 79 L t (S.1, zsR S.2.1 11 o 15 v, S.2.2) Q) := Zgo_iff (i := .putfield 34) (len := 3) (a := 11) (b := 15) (c := 3) (p := 4145) rfl
theorem zg_80_79 : Zgo d 80 79 L st S Q ↔ (zlda L 0 False fun r => Zgo d 80 80 L (zq r :: st) S Q) := Zgo_iff (i := .aload_n 0) (len := 1) (a := 0) (b := 0) (c := 0) (p := 0) rfl
theorem zg_80_80 : Zgo d 80 80 L st S Q ↔ (Zgo d 80 83 L (zi 480 :: st) S Q) := Zgo_iff (i := .sipush 480) (len := 3) (a := 0) (b := 0) (c := 0) (p := 0) rfl
theorem zg_80_83 : Zgo d 80 83 L st S Q ↔ (zpi st False fun n t => if n = (480 : Nat) ∧ S.2.2.1 39 = 0 then Zgo d 80 85 L (zq (some (39, 0)) :: t) (S.1, S.2.1, va_up S.2.2.1 39 1, S.2.2.2.1 + 1, S.2.2.2.2.1 + 480, S.2.2.2.2.2) Q else False) := Zgo_iff (i := .newarray .int) (len := 2) (a := 39) (b := 480) (c := 0) (p := 0) rfl
theorem zg_80_85 : Zgo d 80 85 L st S Q ↔ (zpa st False fun v t => zpa t False fun r t => zde r 11 False fun o => Zgo d 80 88 L t (S.1, zsR S.2.1 11 o 16 v, S.2.2) Q) := Zgo_iff (i := .putfield 37) (len := 3) (a := 11) (b := 16) (c := 3) (p := 4146) rfl
theorem zg_80_88 : Zgo d 80 88 L st S Q ↔ (zlda L 0 False fun r => Zgo d 80 89 L (zq r :: st) S Q) := Zgo_iff (i := .aload_n 0) (len := 1) (a := 0) (b := 0) (c := 0) (p := 0) rfl
theorem zg_80_89 : Zgo d 80 89 L st S Q ↔ (Zgo d 80 92 L (zi 480 :: st) S Q) := Zgo_iff (i := .sipush 480) (len := 3) (a := 0) (b := 0) (c := 0) (p := 0) rfl
theorem zg_80_92 : Zgo d 80 92 L st S Q ↔ (zpi st False fun n t => if n = (480 : Nat) ∧ S.2.2.1 40 = 0 then Zgo d 80 94 L (zq (some (40, 0)) :: t) (S.1, S.2.1, va_up S.2.2.1 40 1, S.2.2.2.1 + 1, S.2.2.2.2.1 + 480, S.2.2.2.2.2) Q else False) := Zgo_iff (i := .newarray .int) (len := 2) (a := 40) (b := 480) (c := 0) (p := 0) rfl
theorem zg_80_94 : Zgo d 80 94 L st S Q ↔ (zpa st False fun v t => zpa t False fun r t => zde r 11 False fun o => Zgo d 80 97 L t (S.1, zsR S.2.1 11 o 17 v, S.2.2) Q) := Zgo_iff (i := .putfield 40) (len := 3) (a := 11) (b := 17) (c := 3) (p := 4147) rfl
theorem zg_80_97 : Zgo d 80 97 L st S Q ↔ (zlda L 0 False fun r => Zgo d 80 98 L (zq r :: st) S Q) := Zgo_iff (i := .aload_n 0) (len := 1) (a := 0) (b := 0) (c := 0) (p := 0) rfl
theorem zg_80_98 : Zgo d 80 98 L st S Q ↔ (Zgo d 80 101 L (zi 160 :: st) S Q) := Zgo_iff (i := .sipush 160) (len := 3) (a := 0) (b := 0) (c := 0) (p := 0) rfl
theorem zg_80_101 : Zgo d 80 101 L st S Q ↔ (zpi st False fun n t => if n = (160 : Nat) ∧ S.2.2.1 41 = 0 then Zgo d 80 103 L (zq (some (41, 0)) :: t) (S.1, S.2.1, va_up S.2.2.1 41 1, S.2.2.2.1 + 1, S.2.2.2.2.1 + 160, S.2.2.2.2.2) Q else False) := Zgo_iff (i := .newarray .int) (len := 2) (a := 41) (b := 160) (c := 0) (p := 0) rfl
theorem zg_80_103 : Zgo d 80 103 L st S Q ↔ (zpa st False fun v t => zpa t False fun r t => zde r 11 False fun o => Zgo d 80 106 L t (S.1, zsR S.2.1 11 o 18 v, S.2.2) Q) := Zgo_iff (i := .putfield 43) (len := 3) (a := 11) (b := 18) (c := 3) (p := 4148) rfl
theorem zg_80_106 : Zgo d 80 106 L st S Q ↔ (zlda L 0 False fun r => Zgo d 80 107 L (zq r :: st) S Q) := Zgo_iff (i := .aload_n 0) (len := 1) (a := 0) (b := 0) (c := 0) (p := 0) rfl
theorem zg_80_107 : Zgo d 80 107 L st S Q ↔ (Zgo d 80 110 L (zi 160 :: st) S Q) := Zgo_iff (i := .sipush 160) (len := 3) (a := 0) (b := 0) (c := 0) (p := 0) rfl
theorem zg_80_110 : Zgo d 80 110 L st S Q ↔ (zpi st False fun n t => if n = (160 : Nat) ∧ S.2.2.1 42 = 0 then Zgo d 80 112 L (zq (some (42, 0)) :: t) (S.1, S.2.1, va_up S.2.2.1 42 1, S.2.2.2.1 + 1, S.2.2.2.2.1 + 160, S.2.2.2.2.2) Q else False) := Zgo_iff (i := .newarray .int) (len := 2) (a := 42) (b := 160) (c := 0) (p := 0) rfl
theorem zg_80_112 : Zgo d 80 112 L st S Q ↔ (zpa st False fun v t => zpa t False fun r t => zde r 11 False fun o => Zgo d 80 115 L t (S.1, zsR S.2.1 11 o 19 v, S.2.2) Q) := Zgo_iff (i := .putfield 46) (len := 3) (a := 11) (b := 19) (c := 3) (p := 4149) rfl
theorem zg_80_115 : Zgo d 80 115 L st S Q ↔ (zlda L 0 False fun r => Zgo d 80 116 L (zq r :: st) S Q) := Zgo_iff (i := .aload_n 0) (len := 1) (a := 0) (b := 0) (c := 0) (p := 0) rfl
theorem zg_80_116 : Zgo d 80 116 L st S Q ↔ (Zgo d 80 119 L (zi 160 :: st) S Q) := Zgo_iff (i := .sipush 160) (len := 3) (a := 0) (b := 0) (c := 0) (p := 0) rfl
theorem zg_80_119 : Zgo d 80 119 L st S Q ↔ (zpi st False fun n t => if n = (160 : Nat) ∧ S.2.2.1 43 = 0 then Zgo d 80 121 L (zq (some (43, 0)) :: t) (S.1, S.2.1, va_up S.2.2.1 43 1, S.2.2.2.1 + 1, S.2.2.2.2.1 + 160, S.2.2.2.2.2) Q else False) := Zgo_iff (i := .newarray .int) (len := 2) (a := 43) (b := 160) (c := 0) (p := 0) rfl
theorem zg_80_121 : Zgo d 80 121 L st S Q ↔ (zpa st False fun v t => zpa t False fun r t => zde r 11 False fun o => Zgo d 80 124 L t (S.1, zsR S.2.1 11 o 20 v, S.2.2) Q) := Zgo_iff (i := .putfield 49) (len := 3) (a := 11) (b := 20) (c := 3) (p := 4150) rfl
theorem zg_80_124 : Zgo d 80 124 L st S Q ↔ (zlda L 0 False fun r => Zgo d 80 125 L (zq r :: st) S Q) := Zgo_iff (i := .aload_n 0) (len := 1) (a := 0) (b := 0) (c := 0) (p := 0) rfl
theorem zg_80_125 : Zgo d 80 125 L st S Q ↔ (Zgo d 80 128 L (zi 160 :: st) S Q) := Zgo_iff (i := .sipush 160) (len := 3) (a := 0) (b := 0) (c := 0) (p := 0) rfl
theorem zg_80_128 : Zgo d 80 128 L st S Q ↔ (zpi st False fun n t => if n = (160 : Nat) ∧ S.2.2.1 44 = 0 then Zgo d 80 130 L (zq (some (44, 0)) :: t) (S.1, S.2.1, va_up S.2.2.1 44 1, S.2.2.2.1 + 1, S.2.2.2.2.1 + 160, S.2.2.2.2.2) Q else False) := Zgo_iff (i := .newarray .int) (len := 2) (a := 44) (b := 160) (c := 0) (p := 0) rfl
theorem zg_80_130 : Zgo d 80 130 L st S Q ↔ (zpa st False fun v t => zpa t False fun r t => zde r 11 False fun o => Zgo d 80 133 L t (S.1, zsR S.2.1 11 o 21 v, S.2.2) Q) := Zgo_iff (i := .putfield 52) (len := 3) (a := 11) (b := 21) (c := 3) (p := 4151) rfl
theorem zg_80_133 : Zgo d 80 133 L st S Q ↔ (zlda L 0 False fun r => Zgo d 80 134 L (zq r :: st) S Q) := Zgo_iff (i := .aload_n 0) (len := 1) (a := 0) (b := 0) (c := 0) (p := 0) rfl
theorem zg_80_134 : Zgo d 80 134 L st S Q ↔ (Zgo d 80 137 L (zi 160 :: st) S Q) := Zgo_iff (i := .sipush 160) (len := 3) (a := 0) (b := 0) (c := 0) (p := 0) rfl
theorem zg_80_137 : Zgo d 80 137 L st S Q ↔ (zpi st False fun n t => if n = (160 : Nat) ∧ S.2.2.1 45 = 0 then Zgo d 80 139 L (zq (some (45, 0)) :: t) (S.1, S.2.1, va_up S.2.2.1 45 1, S.2.2.2.1 + 1, S.2.2.2.2.1 + 160, S.2.2.2.2.2) Q else False) := Zgo_iff (i := .newarray .int) (len := 2) (a := 45) (b := 160) (c := 0) (p := 0) rfl
theorem zg_80_139 : Zgo d 80 139 L st S Q ↔ (zpa st False fun v t => zpa t False fun r t => zde r 11 False fun o => Zgo d 80 142 L t (S.1, zsR S.2.1 11 o 23 v, S.2.2) Q) := Zgo_iff (i := .putfield 55) (len := 3) (a := 11) (b := 23) (c := 3) (p := 4153) rfl
theorem zg_80_142 : Zgo d 80 142 L st S Q ↔ (zlda L 0 False fun r => Zgo d 80 143 L (zq r :: st) S Q) := Zgo_iff (i := .aload_n 0) (len := 1) (a := 0) (b := 0) (c := 0) (p := 0) rfl
theorem zg_80_143 : Zgo d 80 143 L st S Q ↔ (Zgo d 80 146 L (zi 160 :: st) S Q) := Zgo_iff (i := .sipush 160) (len := 3) (a := 0) (b := 0) (c := 0) (p := 0) rfl
theorem zg_80_146 : Zgo d 80 146 L st S Q ↔ (zpi st False fun n t => if n = (160 : Nat) ∧ S.2.2.1 46 = 0 then Zgo d 80 148 L (zq (some (46, 0)) :: t) (S.1, S.2.1, va_up S.2.2.1 46 1, S.2.2.2.1 + 1, S.2.2.2.2.1 + 160, S.2.2.2.2.2) Q else False) := Zgo_iff (i := .newarray .int) (len := 2) (a := 46) (b := 160) (c := 0) (p := 0) rfl
theorem zg_80_148 : Zgo d 80 148 L st S Q ↔ (zpa st False fun v t => zpa t False fun r t => zde r 11 False fun o => Zgo d 80 151 L t (S.1, zsR S.2.1 11 o 24 v, S.2.2) Q) := Zgo_iff (i := .putfield 58) (len := 3) (a := 11) (b := 24) (c := 3) (p := 4154) rfl
theorem zg_80_151 : Zgo d 80 151 L st S Q ↔ (zlda L 0 False fun r => Zgo d 80 152 L (zq r :: st) S Q) := Zgo_iff (i := .aload_n 0) (len := 1) (a := 0) (b := 0) (c := 0) (p := 0) rfl
theorem zg_80_152 : Zgo d 80 152 L st S Q ↔ (Zgo d 80 155 L (zi 160 :: st) S Q) := Zgo_iff (i := .sipush 160) (len := 3) (a := 0) (b := 0) (c := 0) (p := 0) rfl
theorem zg_80_155 : Zgo d 80 155 L st S Q ↔ (zpi st False fun n t => if n = (160 : Nat) ∧ S.2.2.1 47 = 0 then Zgo d 80 157 L (zq (some (47, 0)) :: t) (S.1, S.2.1, va_up S.2.2.1 47 1, S.2.2.2.1 + 1, S.2.2.2.2.1 + 160, S.2.2.2.2.2) Q else False) := Zgo_iff (i := .newarray .int) (len := 2) (a := 47) (b := 160) (c := 0) (p := 0) rfl
theorem zg_80_157 : Zgo d 80 157 L st S Q ↔ (zpa st False fun v t => zpa t False fun r t => zde r 11 False fun o => Zgo d 80 160 L t (S.1, zsR S.2.1 11 o 25 v, S.2.2) Q) := Zgo_iff (i := .putfield 61) (len := 3) (a := 11) (b := 25) (c := 3) (p := 4155) rfl
theorem zg_80_160 : Zgo d 80 160 L st S Q ↔ (zlda L 0 False fun r => Zgo d 80 161 L (zq r :: st) S Q) := Zgo_iff (i := .aload_n 0) (len := 1) (a := 0) (b := 0) (c := 0) (p := 0) rfl
theorem zg_80_161 : Zgo d 80 161 L st S Q ↔ (Zgo d 80 164 L (zi 160 :: st) S Q) := Zgo_iff (i := .sipush 160) (len := 3) (a := 0) (b := 0) (c := 0) (p := 0) rfl
theorem zg_80_164 : Zgo d 80 164 L st S Q ↔ (zpi st False fun n t => if n = (160 : Nat) ∧ S.2.2.1 48 = 0 then Zgo d 80 166 L (zq (some (48, 0)) :: t) (S.1, S.2.1, va_up S.2.2.1 48 1, S.2.2.2.1 + 1, S.2.2.2.2.1 + 160, S.2.2.2.2.2) Q else False) := Zgo_iff (i := .newarray .int) (len := 2) (a := 48) (b := 160) (c := 0) (p := 0) rfl
theorem zg_80_166 : Zgo d 80 166 L st S Q ↔ (zpa st False fun v t => zpa t False fun r t => zde r 11 False fun o => Zgo d 80 169 L t (S.1, zsR S.2.1 11 o 26 v, S.2.2) Q) := Zgo_iff (i := .putfield 64) (len := 3) (a := 11) (b := 26) (c := 3) (p := 4156) rfl
theorem zg_80_169 : Zgo d 80 169 L st S Q ↔ (zlda L 0 False fun r => Zgo d 80 170 L (zq r :: st) S Q) := Zgo_iff (i := .aload_n 0) (len := 1) (a := 0) (b := 0) (c := 0) (p := 0) rfl
theorem zg_80_170 : Zgo d 80 170 L st S Q ↔ (Zgo d 80 173 L (zi 160 :: st) S Q) := Zgo_iff (i := .sipush 160) (len := 3) (a := 0) (b := 0) (c := 0) (p := 0) rfl
theorem zg_80_173 : Zgo d 80 173 L st S Q ↔ (zpi st False fun n t => if n = (160 : Nat) ∧ S.2.2.1 49 = 0 then Zgo d 80 175 L (zq (some (49, 0)) :: t) (S.1, S.2.1, va_up S.2.2.1 49 1, S.2.2.2.1 + 1, S.2.2.2.2.1 + 160, S.2.2.2.2.2) Q else False) := Zgo_iff (i := .newarray .int) (len := 2) (a := 49) (b := 160) (c := 0) (p := 0) rfl
theorem zg_80_175 : Zgo d 80 175 L st S Q ↔ (zpa st False fun v t => zpa t False fun r t => zde r 11 False fun o => Zgo d 80 178 L t (S.1, zsR S.2.1 11 o 27 v, S.2.2) Q) := Zgo_iff (i := .putfield 67) (len := 3) (a := 11) (b := 27) (c := 3) (p := 4157) rfl
theorem zg_80_178 : Zgo d 80 178 L st S Q ↔ (zlda L 0 False fun r => Zgo d 80 179 L (zq r :: st) S Q) := Zgo_iff (i := .aload_n 0) (len := 1) (a := 0) (b := 0) (c := 0) (p := 0) rfl
theorem zg_80_179 : Zgo d 80 179 L st S Q ↔ (Zgo d 80 182 L (zi 200 :: st) S Q) := Zgo_iff (i := .sipush 200) (len := 3) (a := 0) (b := 0) (c := 0) (p := 0) rfl
theorem zg_80_182 : Zgo d 80 182 L st S Q ↔ (zpi st False fun n t => if n = (200 : Nat) ∧ S.2.2.1 50 = 0 then Zgo d 80 184 L (zq (some (50, 0)) :: t) (S.1, S.2.1, va_up S.2.2.1 50 1, S.2.2.2.1 + 1, S.2.2.2.2.1 + 200, S.2.2.2.2.2) Q else False) := Zgo_iff (i := .newarray .int) (len := 2) (a := 50) (b := 200) (c := 0) (p := 0) rfl
theorem zg_80_184 : Zgo d 80 184 L st S Q ↔ (zpa st False fun v t => zpa t False fun r t => zde r 11 False fun o => Zgo d 80 187 L t (S.1, zsR S.2.1 11 o 29 v, S.2.2) Q) := Zgo_iff (i := .putfield 70) (len := 3) (a := 11) (b := 29) (c := 3) (p := 4159) rfl
theorem zg_80_187 : Zgo d 80 187 L st S Q ↔ (zlda L 0 False fun r => Zgo d 80 188 L (zq r :: st) S Q) := Zgo_iff (i := .aload_n 0) (len := 1) (a := 0) (b := 0) (c := 0) (p := 0) rfl
theorem zg_80_188 : Zgo d 80 188 L st S Q ↔ (Zgo d 80 191 L (zi 200 :: st) S Q) := Zgo_iff (i := .sipush 200) (len := 3) (a := 0) (b := 0) (c := 0) (p := 0) rfl
theorem zg_80_191 : Zgo d 80 191 L st S Q ↔ (zpi st False fun n t => if n = (200 : Nat) ∧ S.2.2.1 51 = 0 then Zgo d 80 193 L (zq (some (51, 0)) :: t) (S.1, S.2.1, va_up S.2.2.1 51 1, S.2.2.2.1 + 1, S.2.2.2.2.1 + 200, S.2.2.2.2.2) Q else False) := Zgo_iff (i := .newarray .int) (len := 2) (a := 51) (b := 200) (c := 0) (p := 0) rfl
theorem zg_80_193 : Zgo d 80 193 L st S Q ↔ (zpa st False fun v t => zpa t False fun r t => zde r 11 False fun o => Zgo d 80 196 L t (S.1, zsR S.2.1 11 o 30 v, S.2.2) Q) := Zgo_iff (i := .putfield 73) (len := 3) (a := 11) (b := 30) (c := 3) (p := 4160) rfl
theorem zg_80_196 : Zgo d 80 196 L st S Q ↔ (zlda L 0 False fun r => Zgo d 80 197 L (zq r :: st) S Q) := Zgo_iff (i := .aload_n 0) (len := 1) (a := 0) (b := 0) (c := 0) (p := 0) rfl
theorem zg_80_197 : Zgo d 80 197 L st S Q ↔ (Zgo d 80 199 L (zi 8 :: st) S Q) := Zgo_iff (i := .bipush 8) (len := 2) (a := 0) (b := 0) (c := 0) (p := 0) rfl
theorem zg_80_199 : Zgo d 80 199 L st S Q ↔ (zpi st False fun n t => if n = (8 : Nat) ∧ S.2.2.1 52 = 0 then Zgo d 80 201 L (zq (some (52, 0)) :: t) (S.1, S.2.1, va_up S.2.2.1 52 1, S.2.2.2.1 + 1, S.2.2.2.2.1 + 8, S.2.2.2.2.2) Q else False) := Zgo_iff (i := .newarray .int) (len := 2) (a := 52) (b := 8) (c := 0) (p := 0) rfl
theorem zg_80_201 : Zgo d 80 201 L st S Q ↔ (zpa st False fun v t => zpa t False fun r t => zde r 11 False fun o => Zgo d 80 204 L t (S.1, zsR S.2.1 11 o 31 v, S.2.2) Q) := Zgo_iff (i := .putfield 76) (len := 3) (a := 11) (b := 31) (c := 3) (p := 4161) rfl
theorem zg_80_204 : Zgo d 80 204 L st S Q ↔ (zlda L 0 False fun r => Zgo d 80 205 L (zq r :: st) S Q) := Zgo_iff (i := .aload_n 0) (len := 1) (a := 0) (b := 0) (c := 0) (p := 0) rfl
theorem zg_80_205 : Zgo d 80 205 L st S Q ↔ (Zgo d 80 207 L (zi 8 :: st) S Q) := Zgo_iff (i := .bipush 8) (len := 2) (a := 0) (b := 0) (c := 0) (p := 0) rfl
theorem zg_80_207 : Zgo d 80 207 L st S Q ↔ (zpi st False fun n t => if n = (8 : Nat) ∧ S.2.2.1 53 = 0 then Zgo d 80 209 L (zq (some (53, 0)) :: t) (S.1, S.2.1, va_up S.2.2.1 53 1, S.2.2.2.1 + 1, S.2.2.2.2.1 + 8, S.2.2.2.2.2) Q else False) := Zgo_iff (i := .newarray .int) (len := 2) (a := 53) (b := 8) (c := 0) (p := 0) rfl
theorem zg_80_209 : Zgo d 80 209 L st S Q ↔ (zpa st False fun v t => zpa t False fun r t => zde r 11 False fun o => Zgo d 80 212 L t (S.1, zsR S.2.1 11 o 32 v, S.2.2) Q) := Zgo_iff (i := .putfield 79) (len := 3) (a := 11) (b := 32) (c := 3) (p := 4162) rfl
theorem zg_80_212 : Zgo d 80 212 L st S Q ↔ (zlda L 0 False fun r => Zgo d 80 213 L (zq r :: st) S Q) := Zgo_iff (i := .aload_n 0) (len := 1) (a := 0) (b := 0) (c := 0) (p := 0) rfl
theorem zg_80_213 : Zgo d 80 213 L st S Q ↔ (Zgo d 80 215 L (zi 8 :: st) S Q) := Zgo_iff (i := .bipush 8) (len := 2) (a := 0) (b := 0) (c := 0) (p := 0) rfl
theorem zg_80_215 : Zgo d 80 215 L st S Q ↔ (zpi st False fun n t => if n = (8 : Nat) ∧ S.2.2.1 54 = 0 then Zgo d 80 217 L (zq (some (54, 0)) :: t) (S.1, S.2.1, va_up S.2.2.1 54 1, S.2.2.2.1 + 1, S.2.2.2.2.1 + 8, S.2.2.2.2.2) Q else False) := Zgo_iff (i := .newarray .int) (len := 2) (a := 54) (b := 8) (c := 0) (p := 0) rfl
theorem zg_80_217 : Zgo d 80 217 L st S Q ↔ (zpa st False fun v t => zpa t False fun r t => zde r 11 False fun o => Zgo d 80 220 L t (S.1, zsR S.2.1 11 o 33 v, S.2.2) Q) := Zgo_iff (i := .putfield 82) (len := 3) (a := 11) (b := 33) (c := 3) (p := 4163) rfl
theorem zg_80_220 : Zgo d 80 220 L st S Q ↔ (zlda L 0 False fun r => Zgo d 80 221 L (zq r :: st) S Q) := Zgo_iff (i := .aload_n 0) (len := 1) (a := 0) (b := 0) (c := 0) (p := 0) rfl
theorem zg_80_221 : Zgo d 80 221 L st S Q ↔ (Zgo d 80 223 L (zi 24 :: st) S Q) := Zgo_iff (i := .bipush 24) (len := 2) (a := 0) (b := 0) (c := 0) (p := 0) rfl
theorem zg_80_223 : Zgo d 80 223 L st S Q ↔ (zpi st False fun n t => if n = (24 : Nat) ∧ S.2.2.1 55 = 0 then Zgo d 80 225 L (zq (some (55, 0)) :: t) (S.1, S.2.1, va_up S.2.2.1 55 1, S.2.2.2.1 + 1, S.2.2.2.2.1 + 24, S.2.2.2.2.2) Q else False) := Zgo_iff (i := .newarray .int) (len := 2) (a := 55) (b := 24) (c := 0) (p := 0) rfl
theorem zg_80_225 : Zgo d 80 225 L st S Q ↔ (zpa st False fun v t => zpa t False fun r t => zde r 11 False fun o => Zgo d 80 228 L t (S.1, zsR S.2.1 11 o 34 v, S.2.2) Q) := Zgo_iff (i := .putfield 85) (len := 3) (a := 11) (b := 34) (c := 3) (p := 4164) rfl
theorem zg_80_228 : Zgo d 80 228 L st S Q ↔ (zlda L 0 False fun r => Zgo d 80 229 L (zq r :: st) S Q) := Zgo_iff (i := .aload_n 0) (len := 1) (a := 0) (b := 0) (c := 0) (p := 0) rfl
theorem zg_80_229 : Zgo d 80 229 L st S Q ↔ (Zgo d 80 230 L (zi (-1) :: st) S Q) := Zgo_iff (i := .iconst (-1)) (len := 1) (a := 0) (b := 0) (c := 0) (p := 0) rfl
theorem zg_80_230 : Zgo d 80 230 L st S Q ↔ (zpi st False fun v t => zpa t False fun r t => zde r 11 False fun o => Zgo d 80 233 L t (zsI S.1 11 o 36 v, S.2) Q) := Zgo_iff (i := .putfield 88) (len := 3) (a := 11) (b := 36) (c := 0) (p := 4166) rfl
theorem zg_80_233 : Zgo d 80 233 L st S Q ↔ (zlda L 0 False fun r => Zgo d 80 234 L (zq r :: st) S Q) := Zgo_iff (i := .aload_n 0) (len := 1) (a := 0) (b := 0) (c := 0) (p := 0) rfl
theorem zg_80_234 : Zgo d 80 234 L st S Q ↔ (Zgo d 80 237 L (zi 200 :: st) S Q) := Zgo_iff (i := .sipush 200) (len := 3) (a := 0) (b := 0) (c := 0) (p := 0) rfl
theorem zg_80_237 : Zgo d 80 237 L st S Q ↔ (zpi st False fun n t => if n = (200 : Nat) ∧ S.2.2.1 56 = 0 then Zgo d 80 239 L (zq (some (56, 0)) :: t) (S.1, S.2.1, va_up S.2.2.1 56 1, S.2.2.2.1 + 1, S.2.2.2.2.1 + 200, S.2.2.2.2.2) Q else False) := Zgo_iff (i := .newarray .int) (len := 2) (a := 56) (b := 200) (c := 0) (p := 0) rfl
theorem zg_80_239 : Zgo d 80 239 L st S Q ↔ (zpa st False fun v t => zpa t False fun r t => zde r 11 False fun o => Zgo d 80 242 L t (S.1, zsR S.2.1 11 o 42 v, S.2.2) Q) := Zgo_iff (i := .putfield 92) (len := 3) (a := 11) (b := 42) (c := 3) (p := 4172) rfl
theorem zg_80_242 : Zgo d 80 242 L st S Q ↔ (zlda L 0 False fun r => Zgo d 80 243 L (zq r :: st) S Q) := Zgo_iff (i := .aload_n 0) (len := 1) (a := 0) (b := 0) (c := 0) (p := 0) rfl
theorem zg_80_243 : Zgo d 80 243 L st S Q ↔ (Zgo d 80 246 L (zi 200 :: st) S Q) := Zgo_iff (i := .sipush 200) (len := 3) (a := 0) (b := 0) (c := 0) (p := 0) rfl
theorem zg_80_246 : Zgo d 80 246 L st S Q ↔ (zpi st False fun n t => if n = (200 : Nat) ∧ S.2.2.1 57 = 0 then Zgo d 80 248 L (zq (some (57, 0)) :: t) (S.1, S.2.1, va_up S.2.2.1 57 1, S.2.2.2.1 + 1, S.2.2.2.2.1 + 200, S.2.2.2.2.2) Q else False) := Zgo_iff (i := .newarray .int) (len := 2) (a := 57) (b := 200) (c := 0) (p := 0) rfl
theorem zg_80_248 : Zgo d 80 248 L st S Q ↔ (zpa st False fun v t => zpa t False fun r t => zde r 11 False fun o => Zgo d 80 251 L t (S.1, zsR S.2.1 11 o 43 v, S.2.2) Q) := Zgo_iff (i := .putfield 95) (len := 3) (a := 11) (b := 43) (c := 3) (p := 4173) rfl
theorem zg_80_251 : Zgo d 80 251 L st S Q ↔ (zlda L 0 False fun r => Zgo d 80 252 L (zq r :: st) S Q) := Zgo_iff (i := .aload_n 0) (len := 1) (a := 0) (b := 0) (c := 0) (p := 0) rfl
theorem zg_80_252 : Zgo d 80 252 L st S Q ↔ (Zgo d 80 255 L (zi 200 :: st) S Q) := Zgo_iff (i := .sipush 200) (len := 3) (a := 0) (b := 0) (c := 0) (p := 0) rfl
theorem zg_80_255 : Zgo d 80 255 L st S Q ↔ (zpi st False fun n t => if n = (200 : Nat) ∧ S.2.2.1 58 = 0 then Zgo d 80 257 L (zq (some (58, 0)) :: t) (S.1, S.2.1, va_up S.2.2.1 58 1, S.2.2.2.1 + 1, S.2.2.2.2.1 + 200, S.2.2.2.2.2) Q else False) := Zgo_iff (i := .newarray .int) (len := 2) (a := 58) (b := 200) (c := 0) (p := 0) rfl
theorem zg_80_257 : Zgo d 80 257 L st S Q ↔ (zpa st False fun v t => zpa t False fun r t => zde r 11 False fun o => Zgo d 80 260 L t (S.1, zsR S.2.1 11 o 44 v, S.2.2) Q) := Zgo_iff (i := .putfield 98) (len := 3) (a := 11) (b := 44) (c := 3) (p := 4174) rfl
theorem zg_80_260 : Zgo d 80 260 L st S Q ↔ (zlda L 0 False fun r => Zgo d 80 261 L (zq r :: st) S Q) := Zgo_iff (i := .aload_n 0) (len := 1) (a := 0) (b := 0) (c := 0) (p := 0) rfl
theorem zg_80_261 : Zgo d 80 261 L st S Q ↔ (Zgo d 80 264 L (zi 200 :: st) S Q) := Zgo_iff (i := .sipush 200) (len := 3) (a := 0) (b := 0) (c := 0) (p := 0) rfl
theorem zg_80_264 : Zgo d 80 264 L st S Q ↔ (zpi st False fun n t => if n = (200 : Nat) ∧ S.2.2.1 59 = 0 then Zgo d 80 266 L (zq (some (59, 0)) :: t) (S.1, S.2.1, va_up S.2.2.1 59 1, S.2.2.2.1 + 1, S.2.2.2.2.1 + 200, S.2.2.2.2.2) Q else False) := Zgo_iff (i := .newarray .int) (len := 2) (a := 59) (b := 200) (c := 0) (p := 0) rfl
theorem zg_80_266 : Zgo d 80 266 L st S Q ↔ (zpa st False fun v t => zpa t False fun r t => zde r 11 False fun o => Zgo d 80 269 L t (S.1, zsR S.2.1 11 o 45 v, S.2.2) Q) := Zgo_iff (i := .putfield 101) (len := 3) (a := 11) (b := 45) (c := 3) (p := 4175) rfl
theorem zg_80_269 : Zgo d 80 269 L st S Q ↔ (zlda L 0 False fun r => Zgo d 80 270 L (zq r :: st) S Q) := Zgo_iff (i := .aload_n 0) (len := 1) (a := 0) (b := 0) (c := 0) (p := 0) rfl
theorem zg_80_270 : Zgo d 80 270 L st S Q ↔ (Zgo d 80 273 L (zi 200 :: st) S Q) := Zgo_iff (i := .sipush 200) (len := 3) (a := 0) (b := 0) (c := 0) (p := 0) rfl
theorem zg_80_273 : Zgo d 80 273 L st S Q ↔ (zpi st False fun n t => if n = (200 : Nat) ∧ S.2.2.1 60 = 0 then Zgo d 80 275 L (zq (some (60, 0)) :: t) (S.1, S.2.1, va_up S.2.2.1 60 1, S.2.2.2.1 + 1, S.2.2.2.2.1 + 200, S.2.2.2.2.2) Q else False) := Zgo_iff (i := .newarray .int) (len := 2) (a := 60) (b := 200) (c := 0) (p := 0) rfl
theorem zg_80_275 : Zgo d 80 275 L st S Q ↔ (zpa st False fun v t => zpa t False fun r t => zde r 11 False fun o => Zgo d 80 278 L t (S.1, zsR S.2.1 11 o 46 v, S.2.2) Q) := Zgo_iff (i := .putfield 104) (len := 3) (a := 11) (b := 46) (c := 3) (p := 4176) rfl
theorem zg_80_278 : Zgo d 80 278 L st S Q ↔ (zlda L 0 False fun r => Zgo d 80 279 L (zq r :: st) S Q) := Zgo_iff (i := .aload_n 0) (len := 1) (a := 0) (b := 0) (c := 0) (p := 0) rfl
theorem zg_80_279 : Zgo d 80 279 L st S Q ↔ (Zgo d 80 282 L (zi 200 :: st) S Q) := Zgo_iff (i := .sipush 200) (len := 3) (a := 0) (b := 0) (c := 0) (p := 0) rfl
theorem zg_80_282 : Zgo d 80 282 L st S Q ↔ (zpi st False fun n t => if n = (200 : Nat) ∧ S.2.2.1 61 = 0 then Zgo d 80 284 L (zq (some (61, 0)) :: t) (S.1, S.2.1, va_up S.2.2.1 61 1, S.2.2.2.1 + 1, S.2.2.2.2.1 + 200, S.2.2.2.2.2) Q else False) := Zgo_iff (i := .newarray .int) (len := 2) (a := 61) (b := 200) (c := 0) (p := 0) rfl
theorem zg_80_284 : Zgo d 80 284 L st S Q ↔ (zpa st False fun v t => zpa t False fun r t => zde r 11 False fun o => Zgo d 80 287 L t (S.1, zsR S.2.1 11 o 47 v, S.2.2) Q) := Zgo_iff (i := .putfield 107) (len := 3) (a := 11) (b := 47) (c := 3) (p := 4177) rfl
theorem zg_80_287 : Zgo d 80 287 L st S Q ↔ (zlda L 0 False fun r => Zgo d 80 288 L (zq r :: st) S Q) := Zgo_iff (i := .aload_n 0) (len := 1) (a := 0) (b := 0) (c := 0) (p := 0) rfl
theorem zg_80_288 : Zgo d 80 288 L st S Q ↔ (Zgo d 80 291 L (zi 200 :: st) S Q) := Zgo_iff (i := .sipush 200) (len := 3) (a := 0) (b := 0) (c := 0) (p := 0) rfl
theorem zg_80_291 : Zgo d 80 291 L st S Q ↔ (zpi st False fun n t => if n = (200 : Nat) ∧ S.2.2.1 62 = 0 then Zgo d 80 293 L (zq (some (62, 0)) :: t) (S.1, S.2.1, va_up S.2.2.1 62 1, S.2.2.2.1 + 1, S.2.2.2.2.1 + 200, S.2.2.2.2.2) Q else False) := Zgo_iff (i := .newarray .int) (len := 2) (a := 62) (b := 200) (c := 0) (p := 0) rfl
theorem zg_80_293 : Zgo d 80 293 L st S Q ↔ (zpa st False fun v t => zpa t False fun r t => zde r 11 False fun o => Zgo d 80 296 L t (S.1, zsR S.2.1 11 o 48 v, S.2.2) Q) := Zgo_iff (i := .putfield 110) (len := 3) (a := 11) (b := 48) (c := 3) (p := 4178) rfl
theorem zg_80_296 : Zgo d 80 296 L st S Q ↔ (zlda L 0 False fun r => Zgo d 80 297 L (zq r :: st) S Q) := Zgo_iff (i := .aload_n 0) (len := 1) (a := 0) (b := 0) (c := 0) (p := 0) rfl
theorem zg_80_297 : Zgo d 80 297 L st S Q ↔ (Zgo d 80 300 L (zi 200 :: st) S Q) := Zgo_iff (i := .sipush 200) (len := 3) (a := 0) (b := 0) (c := 0) (p := 0) rfl
theorem zg_80_300 : Zgo d 80 300 L st S Q ↔ (zpi st False fun n t => if n = (200 : Nat) ∧ S.2.2.1 63 = 0 then Zgo d 80 302 L (zq (some (63, 0)) :: t) (S.1, S.2.1, va_up S.2.2.1 63 1, S.2.2.2.1 + 1, S.2.2.2.2.1 + 200, S.2.2.2.2.2) Q else False) := Zgo_iff (i := .newarray .int) (len := 2) (a := 63) (b := 200) (c := 0) (p := 0) rfl
theorem zg_80_302 : Zgo d 80 302 L st S Q ↔ (zpa st False fun v t => zpa t False fun r t => zde r 11 False fun o => Zgo d 80 305 L t (S.1, zsR S.2.1 11 o 49 v, S.2.2) Q) := Zgo_iff (i := .putfield 113) (len := 3) (a := 11) (b := 49) (c := 3) (p := 4179) rfl
theorem zg_80_305 : Zgo d 80 305 L st S Q ↔ (zlda L 0 False fun r => Zgo d 80 306 L (zq r :: st) S Q) := Zgo_iff (i := .aload_n 0) (len := 1) (a := 0) (b := 0) (c := 0) (p := 0) rfl
theorem zg_80_306 : Zgo d 80 306 L st S Q ↔ (Zgo d 80 309 L (zi 200 :: st) S Q) := Zgo_iff (i := .sipush 200) (len := 3) (a := 0) (b := 0) (c := 0) (p := 0) rfl
theorem zg_80_309 : Zgo d 80 309 L st S Q ↔ (zpi st False fun n t => if n = (200 : Nat) ∧ S.2.2.1 64 = 0 then Zgo d 80 311 L (zq (some (64, 0)) :: t) (S.1, S.2.1, va_up S.2.2.1 64 1, S.2.2.2.1 + 1, S.2.2.2.2.1 + 200, S.2.2.2.2.2) Q else False) := Zgo_iff (i := .newarray .int) (len := 2) (a := 64) (b := 200) (c := 0) (p := 0) rfl
theorem zg_80_311 : Zgo d 80 311 L st S Q ↔ (zpa st False fun v t => zpa t False fun r t => zde r 11 False fun o => Zgo d 80 314 L t (S.1, zsR S.2.1 11 o 54 v, S.2.2) Q) := Zgo_iff (i := .putfield 116) (len := 3) (a := 11) (b := 54) (c := 3) (p := 4184) rfl
theorem zg_80_314 : Zgo d 80 314 L st S Q ↔ (zem st False (Q none S)) := Zgo_iff (i := .return_) (len := 1) (a := 0) (b := 0) (c := 0) (p := 0) rfl
/-- LeavingMachineModel.thrown()I -/
theorem zg_81_0 : Zgo d 81 0 L st S Q ↔ (zlda L 0 False fun r => Zgo d 81 1 L (zq r :: st) S Q) := Zgo_iff (i := .aload_n 0) (len := 1) (a := 0) (b := 0) (c := 0) (p := 0) rfl
theorem zg_81_1 : Zgo d 81 1 L st S Q ↔ (zpa st False fun r t => zde r 11 False fun o => Zgo d 81 4 L (zi (S.1 11 o 0) :: t) S Q) := Zgo_iff (i := .getfield 119) (len := 3) (a := 11) (b := 0) (c := 0) (p := 4130) rfl
theorem zg_81_4 : Zgo d 81 4 L st S Q ↔ (zpi st False fun x t => zem t False (Q (some (zi x)) S)) := Zgo_iff (i := .ireturn) (len := 1) (a := 0) (b := 0) (c := 0) (p := 0) rfl
/-- LeavingMachineModel.type(J)Z -/
theorem zg_82_0 : Zgo d 82 0 L st S Q ↔ (zlda L 0 False fun r => Zgo d 82 1 L (zq r :: st) S Q) := Zgo_iff (i := .aload_n 0) (len := 1) (a := 0) (b := 0) (c := 0) (p := 0) rfl
theorem zg_82_1 : Zgo d 82 1 L st S Q ↔ (Zgo d 82 2 L (zi 0 :: st) S Q) := Zgo_iff (i := .iconst 0) (len := 1) (a := 0) (b := 0) (c := 0) (p := 0) rfl
theorem zg_82_2 : Zgo d 82 2 L st S Q ↔ (zpi st False fun v t => zpa t False fun r t => zde r 11 False fun o => Zgo d 82 5 L t (zsI S.1 11 o 0 v, S.2) Q) := Zgo_iff (i := .putfield 119) (len := 3) (a := 11) (b := 0) (c := 0) (p := 4130) rfl
theorem zg_82_5 : Zgo d 82 5 L st S Q ↔ (zlda L 0 False fun r => Zgo d 82 6 L (zq r :: st) S Q) := Zgo_iff (i := .aload_n 0) (len := 1) (a := 0) (b := 0) (c := 0) (p := 0) rfl
theorem zg_82_6 : Zgo d 82 6 L st S Q ↔ (zpa st False fun r t => zde r 11 False fun o => Zgo d 82 9 L (zi (S.1 11 o 2) :: t) S Q) := Zgo_iff (i := .getfield 122) (len := 3) (a := 11) (b := 2) (c := 0) (p := 4132) rfl
theorem zg_82_9 : Zgo d 82 9 L st S Q ↔ (zpi st False fun x t => Zgo d 82 10 (zst L 3 (some (zi x))) t S Q) := Zgo_iff (i := .istore_n 3) (len := 1) (a := 0) (b := 0) (c := 0) (p := 0) rfl
theorem zg_82_10 : Zgo d 82 10 L st S Q ↔ (Zgo d 82 12 L (zi 7 :: st) S Q) := Zgo_iff (i := .bipush 7) (len := 2) (a := 0) (b := 0) (c := 0) (p := 0) rfl
theorem zg_82_12 : Zgo d 82 12 L st S Q ↔ (zpi st False fun x t => Zgo d 82 14 (zst L 4 (some (zi x))) t S Q) := Zgo_iff (i := .istore 4) (len := 2) (a := 0) (b := 0) (c := 0) (p := 0) rfl
theorem zg_82_14 : Zgo d 82 14 L st S Q ↔ (zldi L 4 False fun x => Zgo d 82 16 L (zi x :: st) S Q) := Zgo_iff (i := .iload 4) (len := 2) (a := 0) (b := 0) (c := 0) (p := 0) rfl
theorem zg_82_16 : Zgo d 82 16 L st S Q ↔ (zpi st False fun x t => if zw x < zw 0 then Zgo d 82 78 L t S Q else Zgo d 82 19 L t S Q) := Zgo_iff (i := .ifCond .lt 62) (len := 3) (a := 0) (b := 0) (c := 0) (p := 0) rfl
theorem zg_82_19 : Zgo d 82 19 L st S Q ↔ (zldl L 1 False fun x => Zgo d 82 20 L (zl x :: st) S Q) := Zgo_iff (i := .lload_n 1) (len := 1) (a := 0) (b := 0) (c := 0) (p := 0) rfl
theorem zg_82_20 : Zgo d 82 20 L st S Q ↔ (Zgo d 82 22 L (zi 8 :: st) S Q) := Zgo_iff (i := .bipush 8) (len := 2) (a := 0) (b := 0) (c := 0) (p := 0) rfl
theorem zg_82_22 : Zgo d 82 22 L st S Q ↔ (zldi L 4 False fun x => Zgo d 82 24 L (zi x :: st) S Q) := Zgo_iff (i := .iload 4) (len := 2) (a := 0) (b := 0) (c := 0) (p := 0) rfl
theorem zg_82_24 : Zgo d 82 24 L st S Q ↔ (zpi st False fun y t => zpi t False fun x t => Zgo d 82 25 L (zi (x * y) :: t) S Q) := Zgo_iff (i := .imul) (len := 1) (a := 0) (b := 0) (c := 0) (p := 0) rfl
theorem zg_82_25 : Zgo d 82 25 L st S Q ↔ (zpi st False fun y t => zpl t False fun x t => Zgo d 82 26 L (zl (zlshr x y) :: t) S Q) := Zgo_iff (i := .lshr) (len := 1) (a := 0) (b := 0) (c := 0) (p := 0) rfl
theorem zg_82_26 : Zgo d 82 26 L st S Q ↔ (Zgo d 82 29 L (zl (255 : Nat) :: st) S Q) := Zgo_iff (i := .ldc2_w 125) (len := 3) (a := 255) (b := 0) (c := 0) (p := 5067) rfl
theorem zg_82_29 : Zgo d 82 29 L st S Q ↔ (zpl st False fun y t => zpl t False fun x t => Zgo d 82 30 L (zl (zland x y) :: t) S Q) := Zgo_iff (i := .land) (len := 1) (a := 0) (b := 0) (c := 0) (p := 0) rfl
theorem zg_82_30 : Zgo d 82 30 L st S Q ↔ (zpl st False fun x t => Zgo d 82 31 L (zi x :: t) S Q) := Zgo_iff (i := .l2i) (len := 1) (a := 0) (b := 0) (c := 0) (p := 0) rfl
theorem zg_82_31 : Zgo d 82 31 L st S Q ↔ (zpi st False fun x t => Zgo d 82 33 (zst L 5 (some (zi x))) t S Q) := Zgo_iff (i := .istore 5) (len := 2) (a := 0) (b := 0) (c := 0) (p := 0) rfl
theorem zg_82_33 : Zgo d 82 33 L st S Q ↔ (zldi L 5 False fun x => Zgo d 82 35 L (zi x :: st) S Q) := Zgo_iff (i := .iload 5) (len := 2) (a := 0) (b := 0) (c := 0) (p := 0) rfl
theorem zg_82_35 : Zgo d 82 35 L st S Q ↔ (zpi st False fun x t => if zw x = zw 0 then Zgo d 82 72 L t S Q else Zgo d 82 38 L t S Q) := Zgo_iff (i := .ifCond .eq 37) (len := 3) (a := 0) (b := 0) (c := 0) (p := 0) rfl
theorem zg_82_38 : Zgo d 82 38 L st S Q ↔ (zldi L 5 False fun x => Zgo d 82 40 L (zi x :: st) S Q) := Zgo_iff (i := .iload 5) (len := 2) (a := 0) (b := 0) (c := 0) (p := 0) rfl
theorem zg_82_40 : Zgo d 82 40 L st S Q ↔ (Zgo d 82 42 L (zi 33 :: st) S Q) := Zgo_iff (i := .bipush 33) (len := 2) (a := 0) (b := 0) (c := 0) (p := 0) rfl
theorem zg_82_42 : Zgo d 82 42 L st S Q ↔ (zpi st False fun y t => zpi t False fun x t => if zw x < zw y then Zgo d 82 59 L t S Q else Zgo d 82 45 L t S Q) := Zgo_iff (i := .if_icmp .lt 17) (len := 3) (a := 0) (b := 0) (c := 0) (p := 0) rfl
theorem zg_82_45 : Zgo d 82 45 L st S Q ↔ (zldi L 5 False fun x => Zgo d 82 47 L (zi x :: st) S Q) := Zgo_iff (i := .iload 5) (len := 2) (a := 0) (b := 0) (c := 0) (p := 0) rfl
theorem zg_82_47 : Zgo d 82 47 L st S Q ↔ (Zgo d 82 49 L (zi 126 :: st) S Q) := Zgo_iff (i := .bipush 126) (len := 2) (a := 0) (b := 0) (c := 0) (p := 0) rfl
theorem zg_82_49 : Zgo d 82 49 L st S Q ↔ (zpi st False fun y t => zpi t False fun x t => if zw y < zw x then Zgo d 82 59 L t S Q else Zgo d 82 52 L t S Q) := Zgo_iff (i := .if_icmp .gt 10) (len := 3) (a := 0) (b := 0) (c := 0) (p := 0) rfl
theorem zg_82_52 : Zgo d 82 52 L st S Q ↔ (zldi L 3 False fun x => Zgo d 82 53 L (zi x :: st) S Q) := Zgo_iff (i := .iload_n 3) (len := 1) (a := 0) (b := 0) (c := 0) (p := 0) rfl
theorem zg_82_53 : Zgo d 82 53 L st S Q ↔ (Zgo d 82 56 L (zi 160 :: st) S Q) := Zgo_iff (i := .sipush 160) (len := 3) (a := 0) (b := 0) (c := 0) (p := 0) rfl
theorem zg_82_56 : Zgo d 82 56 L st S Q ↔ (zpi st False fun y t => zpi t False fun x t => if zw x = zw y then Zgo d 82 59 L t S Q else Zgo d 82 61 L t S Q) := Zgo_iff (i := .if_icmp .ne 5) (len := 3) (a := 0) (b := 0) (c := 0) (p := 0) rfl
theorem zg_82_59 : Zgo d 82 59 L st S Q ↔ (Zgo d 82 60 L (zi 0 :: st) S Q) := Zgo_iff (i := .iconst 0) (len := 1) (a := 0) (b := 0) (c := 0) (p := 0) rfl
theorem zg_82_60 : Zgo d 82 60 L st S Q ↔ (zpi st False fun x t => zem t False (zok 1 x False (Q (some (zi x)) S))) := Zgo_iff (i := .ireturn) (len := 1) (a := 0) (b := 0) (c := 0) (p := 0) rfl
theorem zg_82_61 : Zgo d 82 61 L st S Q ↔ (zlda L 0 False fun r => Zgo d 82 62 L (zq r :: st) S Q) := Zgo_iff (i := .aload_n 0) (len := 1) (a := 0) (b := 0) (c := 0) (p := 0) rfl
theorem zg_82_62 : Zgo d 82 62 L st S Q ↔ (zpa st False fun r t => zde r 11 False fun o => Zgo d 82 65 L (zq (S.2.1 11 o 1) :: t) S Q) := Zgo_iff (i := .getfield 7) (len := 3) (a := 11) (b := 1) (c := 3) (p := 4131) rfl
theorem zg_82_65 : Zgo d 82 65 L st S Q ↔ (zldi L 3 False fun x => Zgo d 82 66 L (zi x :: st) S Q) := Zgo_iff (i := .iload_n 3) (len := 1) (a := 0) (b := 0) (c := 0) (p := 0) rfl
theorem zg_82_66 : Zgo d 82 66 L st S Q ↔ (zldi L 5 False fun x => Zgo d 82 68 L (zi x :: st) S Q) := Zgo_iff (i := .iload 5) (len := 2) (a := 0) (b := 0) (c := 0) (p := 0) rfl
theorem zg_82_68 : Zgo d 82 68 L st S Q ↔ (zpi st False fun v t => zpi t False fun j t => zpa t False fun r t => znn r False fun q o => zop (zArr q) False fun n => if n.1 = 0 then zix j n.2 False fun x => Zgo d 82 69 L t (zsI S.1 q o x v, S.2) Q else False) := Zgo_iff (i := .iastore) (len := 1) (a := 0) (b := 0) (c := 0) (p := 0) rfl
theorem zg_82_69 : Zgo d 82 69 L st S Q ↔ (zldi L 3 False fun x => Zgo d 82 72 (zst L 3 (some (zi (x + 1)))) st S Q) := Zgo_iff (i := .iinc 3 1) (len := 3) (a := 0) (b := 0) (c := 0) (p := 0) rfl
theorem zg_82_72 : Zgo d 82 72 L st S Q ↔ (zldi L 4 False fun x => Zgo d 82 75 (zst L 4 (some (zi (x + (-1))))) st S Q) := Zgo_iff (i := .iinc 4 (-1)) (len := 3) (a := 0) (b := 0) (c := 0) (p := 0) rfl
theorem zg_82_75 : Zgo d 82 75 L st S Q ↔ (Zgo d 82 14 L st S Q) := Zgo_iff (i := .goto (-61)) (len := 3) (a := 0) (b := 0) (c := 0) (p := 0) rfl
theorem zg_82_78 : Zgo d 82 78 L st S Q ↔ (zlda L 0 False fun r => Zgo d 82 79 L (zq r :: st) S Q) := Zgo_iff (i := .aload_n 0) (len := 1) (a := 0) (b := 0) (c := 0) (p := 0) rfl
theorem zg_82_79 : Zgo d 82 79 L st S Q ↔ (zldi L 3 False fun x => Zgo d 82 80 L (zi x :: st) S Q) := Zgo_iff (i := .iload_n 3) (len := 1) (a := 0) (b := 0) (c := 0) (p := 0) rfl
theorem zg_82_80 : Zgo d 82 80 L st S Q ↔ (zpi st False fun v t => zpa t False fun r t => zde r 11 False fun o => Zgo d 82 83 L t (zsI S.1 11 o 2 v, S.2) Q) := Zgo_iff (i := .putfield 122) (len := 3) (a := 11) (b := 2) (c := 0) (p := 4132) rfl
theorem zg_82_83 : Zgo d 82 83 L st S Q ↔ (Zgo d 82 84 L (zi 1 :: st) S Q) := Zgo_iff (i := .iconst 1) (len := 1) (a := 0) (b := 0) (c := 0) (p := 0) rfl
theorem zg_82_84 : Zgo d 82 84 L st S Q ↔ (zpi st False fun x t => zem t False (zok 1 x False (Q (some (zi x)) S))) := Zgo_iff (i := .ireturn) (len := 1) (a := 0) (b := 0) (c := 0) (p := 0) rfl
/-- LeavingMachineModel.wipe()V -/
theorem zg_83_0 : Zgo d 83 0 L st S Q ↔ (zlda L 0 False fun r => Zgo d 83 1 L (zq r :: st) S Q) := Zgo_iff (i := .aload_n 0) (len := 1) (a := 0) (b := 0) (c := 0) (p := 0) rfl
theorem zg_83_1 : Zgo d 83 1 L st S Q ↔ (Zgo d 83 2 L (zi 0 :: st) S Q) := Zgo_iff (i := .iconst 0) (len := 1) (a := 0) (b := 0) (c := 0) (p := 0) rfl
theorem zg_83_2 : Zgo d 83 2 L st S Q ↔ (zpi st False fun v t => zpa t False fun r t => zde r 11 False fun o => Zgo d 83 5 L t (zsI S.1 11 o 0 v, S.2) Q) := Zgo_iff (i := .putfield 119) (len := 3) (a := 11) (b := 0) (c := 0) (p := 4130) rfl
theorem zg_83_5 : Zgo d 83 5 L st S Q ↔ (zlda L 0 False fun r => Zgo d 83 6 L (zq r :: st) S Q) := Zgo_iff (i := .aload_n 0) (len := 1) (a := 0) (b := 0) (c := 0) (p := 0) rfl
theorem zg_83_6 : Zgo d 83 6 L st S Q ↔ (Zgo d 83 7 L (zi 0 :: st) S Q) := Zgo_iff (i := .iconst 0) (len := 1) (a := 0) (b := 0) (c := 0) (p := 0) rfl
theorem zg_83_7 : Zgo d 83 7 L st S Q ↔ (zpi st False fun v t => zpa t False fun r t => zde r 11 False fun o => Zgo d 83 10 L t (zsI S.1 11 o 2 v, S.2) Q) := Zgo_iff (i := .putfield 122) (len := 3) (a := 11) (b := 2) (c := 0) (p := 4132) rfl
theorem zg_83_10 : Zgo d 83 10 L st S Q ↔ (zem st False (Q none S)) := Zgo_iff (i := .return_) (len := 1) (a := 0) (b := 0) (c := 0) (p := 0) rfl
/-- LeavingMachineModel.compile()I -/
theorem zg_84_0 : Zgo d 84 0 L st S Q ↔ (zlda L 0 False fun r => Zgo d 84 1 L (zq r :: st) S Q) := Zgo_iff (i := .aload_n 0) (len := 1) (a := 0) (b := 0) (c := 0) (p := 0) rfl
theorem zg_84_1 : Zgo d 84 1 L st S Q ↔ (Zgo d 84 2 L (zi 0 :: st) S Q) := Zgo_iff (i := .iconst 0) (len := 1) (a := 0) (b := 0) (c := 0) (p := 0) rfl
theorem zg_84_2 : Zgo d 84 2 L st S Q ↔ (zpi st False fun v t => zpa t False fun r t => zde r 11 False fun o => Zgo d 84 5 L t (zsI S.1 11 o 0 v, S.2) Q) := Zgo_iff (i := .putfield 119) (len := 3) (a := 11) (b := 0) (c := 0) (p := 4130) rfl
theorem zg_84_5 : Zgo d 84 5 L st S Q ↔ (zlda L 0 False fun r => Zgo d 84 6 L (zq r :: st) S Q) := Zgo_iff (i := .aload_n 0) (len := 1) (a := 0) (b := 0) (c := 0) (p := 0) rfl
theorem zg_84_6 : Zgo d 84 6 L st S Q ↔ (zinv 1 st False fun as t => zrec as 11 False (zCp d 85 as S fun r S2 => Zgo d 84 9 L (r.toList ++ t) S2 Q)) := Zgo_iff (i := .invokevirtual 228) (len := 3) (a := 85) (b := 1) (c := 0) (p := 5076) rfl
theorem zg_84_9 : Zgo d 84 9 L st S Q ↔ (zlda L 0 False fun r => Zgo d 84 10 L (zq r :: st) S Q) := Zgo_iff (i := .aload_n 0) (len := 1) (a := 0) (b := 0) (c := 0) (p := 0) rfl
theorem zg_84_10 : Zgo d 84 10 L st S Q ↔ (zinv 1 st False fun as t => zrec as 11 False (zCp d 86 as S fun r S2 => Zgo d 84 13 L (r.toList ++ t) S2 Q)) := Zgo_iff (i := .invokevirtual 231) (len := 3) (a := 86) (b := 1) (c := 0) (p := 5080) rfl
theorem zg_84_13 : Zgo d 84 13 L st S Q ↔ (zlda L 0 False fun r => Zgo d 84 14 L (zq r :: st) S Q) := Zgo_iff (i := .aload_n 0) (len := 1) (a := 0) (b := 0) (c := 0) (p := 0) rfl
theorem zg_84_14 : Zgo d 84 14 L st S Q ↔ (zpa st False fun r t => zde r 11 False fun o => Zgo d 84 17 L (zi (S.1 11 o 4) :: t) S Q) := Zgo_iff (i := .getfield 130) (len := 3) (a := 11) (b := 4) (c := 1) (p := 4134) rfl
theorem zg_84_17 : Zgo d 84 17 L st S Q ↔ (zpi st False fun x t => if zw x = zw 0 then Zgo d 84 24 L t S Q else Zgo d 84 20 L t S Q) := Zgo_iff (i := .ifCond .eq 7) (len := 3) (a := 0) (b := 0) (c := 0) (p := 0) rfl
theorem zg_84_20 : Zgo d 84 20 L st S Q ↔ (Zgo d 84 21 L (zi 1 :: st) S Q) := Zgo_iff (i := .iconst 1) (len := 1) (a := 0) (b := 0) (c := 0) (p := 0) rfl
theorem zg_84_21 : Zgo d 84 21 L st S Q ↔ (Zgo d 84 28 L st S Q) := Zgo_iff (i := .goto 7) (len := 3) (a := 0) (b := 0) (c := 0) (p := 0) rfl
theorem zg_84_24 : Zgo d 84 24 L st S Q ↔ (zlda L 0 False fun r => Zgo d 84 25 L (zq r :: st) S Q) := Zgo_iff (i := .aload_n 0) (len := 1) (a := 0) (b := 0) (c := 0) (p := 0) rfl
theorem zg_84_25 : Zgo d 84 25 L st S Q ↔ (zinv 1 st False fun as t => zrec as 11 False (zCp d 103 as S fun r S2 => Zgo d 84 28 L (r.toList ++ t) S2 Q)) := Zgo_iff (i := .invokevirtual 234) (len := 3) (a := 103) (b := 1) (c := 0) (p := 5146) rfl
theorem zg_84_28 : Zgo d 84 28 L st S Q ↔ (zpi st False fun x t => Zgo d 84 29 (zst L 1 (some (zi x))) t S Q) := Zgo_iff (i := .istore_n 1) (len := 1) (a := 0) (b := 0) (c := 0) (p := 0) rfl
theorem zg_84_29 : Zgo d 84 29 L st S Q ↔ (zlda L 0 False fun r => Zgo d 84 30 L (zq r :: st) S Q) := Zgo_iff (i := .aload_n 0) (len := 1) (a := 0) (b := 0) (c := 0) (p := 0) rfl
theorem zg_84_30 : Zgo d 84 30 L st S Q ↔ (zldi L 1 False fun x => Zgo d 84 31 L (zi x :: st) S Q) := Zgo_iff (i := .iload_n 1) (len := 1) (a := 0) (b := 0) (c := 0) (p := 0) rfl
theorem zg_84_31 : Zgo d 84 31 L st S Q ↔ (zpi st False fun x t => if zw x = zw 0 then Zgo d 84 34 L t S Q else Zgo d 84 38 L t S Q) := Zgo_iff (i := .ifCond .ne 7) (len := 3) (a := 0) (b := 0) (c := 0) (p := 0) rfl
theorem zg_84_34 : Zgo d 84 34 L st S Q ↔ (Zgo d 84 35 L (zi 1 :: st) S Q) := Zgo_iff (i := .iconst 1) (len := 1) (a := 0) (b := 0) (c := 0) (p := 0) rfl
theorem zg_84_35 : Zgo d 84 35 L st S Q ↔ (Zgo d 84 39 L st S Q) := Zgo_iff (i := .goto 4) (len := 3) (a := 0) (b := 0) (c := 0) (p := 0) rfl
theorem zg_84_38 : Zgo d 84 38 L st S Q ↔ (Zgo d 84 39 L (zi 0 :: st) S Q) := Zgo_iff (i := .iconst 0) (len := 1) (a := 0) (b := 0) (c := 0) (p := 0) rfl
theorem zg_84_39 : Zgo d 84 39 L st S Q ↔ (zpi st False fun v t => zpa t False fun r t => zde r 11 False fun o => zok 1 v False (Zgo d 84 42 L t (zsI S.1 11 o 5 v, S.2) Q)) := Zgo_iff (i := .putfield 237) (len := 3) (a := 11) (b := 5) (c := 1) (p := 4135) rfl
theorem zg_84_42 : Zgo d 84 42 L st S Q ↔ (zldi L 1 False fun x => Zgo d 84 43 L (zi x :: st) S Q) := Zgo_iff (i := .iload_n 1) (len := 1) (a := 0) (b := 0) (c := 0) (p := 0) rfl
theorem zg_84_43 : Zgo d 84 43 L st S Q ↔ (zpi st False fun x t => zem t False (Q (some (zi x)) S)) := Zgo_iff (i := .ireturn) (len := 1) (a := 0) (b := 0) (c := 0) (p := 0) rfl
/-- LeavingMachineModel.forget()V -/
theorem zg_85_0 : Zgo d 85 0 L st S Q ↔ (Zgo d 85 1 L (zi 0 :: st) S Q) := Zgo_iff (i := .iconst 0) (len := 1) (a := 0) (b := 0) (c := 0) (p := 0) rfl
theorem zg_85_1 : Zgo d 85 1 L st S Q ↔ (zpi st False fun x t => Zgo d 85 2 (zst L 1 (some (zi x))) t S Q) := Zgo_iff (i := .istore_n 1) (len := 1) (a := 0) (b := 0) (c := 0) (p := 0) rfl
theorem zg_85_2 : Zgo d 85 2 L st S Q ↔ (zldi L 1 False fun x => Zgo d 85 3 L (zi x :: st) S Q) := Zgo_iff (i := .iload_n 1) (len := 1) (a := 0) (b := 0) (c := 0) (p := 0) rfl
theorem zg_85_3 : Zgo d 85 3 L st S Q ↔ (Zgo d 85 5 L (zi 8 :: st) S Q) := Zgo_iff (i := .bipush 8) (len := 2) (a := 0) (b := 0) (c := 0) (p := 0) rfl
theorem zg_85_5 : Zgo d 85 5 L st S Q ↔ (zpi st False fun y t => zpi t False fun x t => if zw x < zw y then Zgo d 85 8 L t S Q else Zgo d 85 21 L t S Q) := Zgo_iff (i := .if_icmp .ge 16) (len := 3) (a := 0) (b := 0) (c := 0) (p := 0) rfl
theorem zg_85_8 : Zgo d 85 8 L st S Q ↔ (zlda L 0 False fun r => Zgo d 85 9 L (zq r :: st) S Q) := Zgo_iff (i := .aload_n 0) (len := 1) (a := 0) (b := 0) (c := 0) (p := 0) rfl
theorem zg_85_9 : Zgo d 85 9 L st S Q ↔ (zpa st False fun r t => zde r 11 False fun o => Zgo d 85 12 L (zq (S.2.1 11 o 33) :: t) S Q) := Zgo_iff (i := .getfield 82) (len := 3) (a := 11) (b := 33) (c := 3) (p := 4163) rfl
theorem zg_85_12 : Zgo d 85 12 L st S Q ↔ (zldi L 1 False fun x => Zgo d 85 13 L (zi x :: st) S Q) := Zgo_iff (i := .iload_n 1) (len := 1) (a := 0) (b := 0) (c := 0) (p := 0) rfl
theorem zg_85_13 : Zgo d 85 13 L st S Q ↔ (Zgo d 85 14 L (zi 0 :: st) S Q) := Zgo_iff (i := .iconst 0) (len := 1) (a := 0) (b := 0) (c := 0) (p := 0) rfl
theorem zg_85_14 : Zgo d 85 14 L st S Q ↔ (zpi st False fun v t => zpi t False fun j t => zpa t False fun r t => znn r False fun q o => zop (zArr q) False fun n => if n.1 = 0 then zix j n.2 False fun x => Zgo d 85 15 L t (zsI S.1 q o x v, S.2) Q else False) := Zgo_iff (i := .iastore) (len := 1) (a := 0) (b := 0) (c := 0) (p := 0) rfl
theorem zg_85_15 : Zgo d 85 15 L st S Q ↔ (zldi L 1 False fun x => Zgo d 85 18 (zst L 1 (some (zi (x + 1)))) st S Q) := Zgo_iff (i := .iinc 1 1) (len := 3) (a := 0) (b := 0) (c := 0) (p := 0) rfl
theorem zg_85_18 : Zgo d 85 18 L st S Q ↔ (Zgo d 85 2 L st S Q) := Zgo_iff (i := .goto (-16)) (len := 3) (a := 0) (b := 0) (c := 0) (p := 0) rfl
theorem zg_85_21 : Zgo d 85 21 L st S Q ↔ (zlda L 0 False fun r => Zgo d 85 22 L (zq r :: st) S Q) := Zgo_iff (i := .aload_n 0) (len := 1) (a := 0) (b := 0) (c := 0) (p := 0) rfl
theorem zg_85_22 : Zgo d 85 22 L st S Q ↔ (Zgo d 85 23 L (zi 0 :: st) S Q) := Zgo_iff (i := .iconst 0) (len := 1) (a := 0) (b := 0) (c := 0) (p := 0) rfl
theorem zg_85_23 : Zgo d 85 23 L st S Q ↔ (zpi st False fun v t => zpa t False fun r t => zde r 11 False fun o => Zgo d 85 26 L t (zsI S.1 11 o 35 v, S.2) Q) := Zgo_iff (i := .putfield 219) (len := 3) (a := 11) (b := 35) (c := 0) (p := 4165) rfl
theorem zg_85_26 : Zgo d 85 26 L st S Q ↔ (zlda L 0 False fun r => Zgo d 85 27 L (zq r :: st) S Q) := Zgo_iff (i := .aload_n 0) (len := 1) (a := 0) (b := 0) (c := 0) (p := 0) rfl
theorem zg_85_27 : Zgo d 85 27 L st S Q ↔ (Zgo d 85 28 L (zi (-1) :: st) S Q) := Zgo_iff (i := .iconst (-1)) (len := 1) (a := 0) (b := 0) (c := 0) (p := 0) rfl
theorem zg_85_28 : Zgo d 85 28 L st S Q ↔ (zpi st False fun v t => zpa t False fun r t => zde r 11 False fun o => Zgo d 85 31 L t (zsI S.1 11 o 36 v, S.2) Q) := Zgo_iff (i := .putfield 88) (len := 3) (a := 11) (b := 36) (c := 0) (p := 4166) rfl
theorem zg_85_31 : Zgo d 85 31 L st S Q ↔ (zlda L 0 False fun r => Zgo d 85 32 L (zq r :: st) S Q) := Zgo_iff (i := .aload_n 0) (len := 1) (a := 0) (b := 0) (c := 0) (p := 0) rfl
theorem zg_85_32 : Zgo d 85 32 L st S Q ↔ (Zgo d 85 33 L (zi 0 :: st) S Q) := Zgo_iff (i := .iconst 0) (len := 1) (a := 0) (b := 0) (c := 0) (p := 0) rfl
theorem zg_85_33 : Zgo d 85 33 L st S Q ↔ (zpi st False fun v t => zpa t False fun r t => zde r 11 False fun o => Zgo d 85 36 L t (zsI S.1 11 o 37 v, S.2) Q) := Zgo_iff (i := .putfield 222) (len := 3) (a := 11) (b := 37) (c := 0) (p := 4167) rfl
theorem zg_85_36 : Zgo d 85 36 L st S Q ↔ (zlda L 0 False fun r => Zgo d 85 37 L (zq r :: st) S Q) := Zgo_iff (i := .aload_n 0) (len := 1) (a := 0) (b := 0) (c := 0) (p := 0) rfl
theorem zg_85_37 : Zgo d 85 37 L st S Q ↔ (Zgo d 85 38 L (zi 0 :: st) S Q) := Zgo_iff (i := .iconst 0) (len := 1) (a := 0) (b := 0) (c := 0) (p := 0) rfl
theorem zg_85_38 : Zgo d 85 38 L st S Q ↔ (zpi st False fun v t => zpa t False fun r t => zde r 11 False fun o => Zgo d 85 41 L t (zsI S.1 11 o 38 v, S.2) Q) := Zgo_iff (i := .putfield 225) (len := 3) (a := 11) (b := 38) (c := 0) (p := 4168) rfl
theorem zg_85_41 : Zgo d 85 41 L st S Q ↔ (zem st False (Q none S)) := Zgo_iff (i := .return_) (len := 1) (a := 0) (b := 0) (c := 0) (p := 0) rfl
/-- LeavingMachineModel.read()V -/
theorem zg_86_0 : Zgo d 86 0 L st S Q ↔ (zlda L 0 False fun r => Zgo d 86 1 L (zq r :: st) S Q) := Zgo_iff (i := .aload_n 0) (len := 1) (a := 0) (b := 0) (c := 0) (p := 0) rfl
theorem zg_86_1 : Zgo d 86 1 L st S Q ↔ (Zgo d 86 2 L (zi 0 :: st) S Q) := Zgo_iff (i := .iconst 0) (len := 1) (a := 0) (b := 0) (c := 0) (p := 0) rfl
theorem zg_86_2 : Zgo d 86 2 L st S Q ↔ (zpi st False fun v t => zpa t False fun r t => zde r 11 False fun o => Zgo d 86 5 L t (zsI S.1 11 o 3 v, S.2) Q) := Zgo_iff (i := .putfield 127) (len := 3) (a := 11) (b := 3) (c := 0) (p := 4133) rfl
theorem zg_86_5 : Zgo d 86 5 L st S Q ↔ (zlda L 0 False fun r => Zgo d 86 6 L (zq r :: st) S Q) := Zgo_iff (i := .aload_n 0) (len := 1) (a := 0) (b := 0) (c := 0) (p := 0) rfl
theorem zg_86_6 : Zgo d 86 6 L st S Q ↔ (Zgo d 86 7 L (zi 0 :: st) S Q) := Zgo_iff (i := .iconst 0) (len := 1) (a := 0) (b := 0) (c := 0) (p := 0) rfl
theorem zg_86_7 : Zgo d 86 7 L st S Q ↔ (zpi st False fun v t => zpa t False fun r t => zde r 11 False fun o => zok 1 v False (Zgo d 86 10 L t (zsI S.1 11 o 4 v, S.2) Q)) := Zgo_iff (i := .putfield 130) (len := 3) (a := 11) (b := 4) (c := 1) (p := 4134) rfl
theorem zg_86_10 : Zgo d 86 10 L st S Q ↔ (zlda L 0 False fun r => Zgo d 86 11 L (zq r :: st) S Q) := Zgo_iff (i := .aload_n 0) (len := 1) (a := 0) (b := 0) (c := 0) (p := 0) rfl
theorem zg_86_11 : Zgo d 86 11 L st S Q ↔ (Zgo d 86 12 L (zi 0 :: st) S Q) := Zgo_iff (i := .iconst 0) (len := 1) (a := 0) (b := 0) (c := 0) (p := 0) rfl
theorem zg_86_12 : Zgo d 86 12 L st S Q ↔ (zpi st False fun v t => zpa t False fun r t => zde r 11 False fun o => Zgo d 86 15 L t (zsI S.1 11 o 10 v, S.2) Q) := Zgo_iff (i := .putfield 168) (len := 3) (a := 11) (b := 10) (c := 0) (p := 4140) rfl
theorem zg_86_15 : Zgo d 86 15 L st S Q ↔ (zlda L 0 False fun r => Zgo d 86 16 L (zq r :: st) S Q) := Zgo_iff (i := .aload_n 0) (len := 1) (a := 0) (b := 0) (c := 0) (p := 0) rfl
theorem zg_86_16 : Zgo d 86 16 L st S Q ↔ (Zgo d 86 17 L (zi 0 :: st) S Q) := Zgo_iff (i := .iconst 0) (len := 1) (a := 0) (b := 0) (c := 0) (p := 0) rfl
theorem zg_86_17 : Zgo d 86 17 L st S Q ↔ (zpi st False fun v t => zpa t False fun r t => zde r 11 False fun o => Zgo d 86 20 L t (zsI S.1 11 o 22 v, S.2) Q) := Zgo_iff (i := .putfield 165) (len := 3) (a := 11) (b := 22) (c := 0) (p := 4152) rfl
theorem zg_86_20 : Zgo d 86 20 L st S Q ↔ (zlda L 0 False fun r => Zgo d 86 21 L (zq r :: st) S Q) := Zgo_iff (i := .aload_n 0) (len := 1) (a := 0) (b := 0) (c := 0) (p := 0) rfl
theorem zg_86_21 : Zgo d 86 21 L st S Q ↔ (Zgo d 86 22 L (zi 0 :: st) S Q) := Zgo_iff (i := .iconst 0) (len := 1) (a := 0) (b := 0) (c := 0) (p := 0) rfl
theorem zg_86_22 : Zgo d 86 22 L st S Q ↔ (zpi st False fun v t => zpa t False fun r t => zde r 11 False fun o => Zgo d 86 25 L t (zsI S.1 11 o 28 v, S.2) Q) := Zgo_iff (i := .putfield 138) (len := 3) (a := 11) (b := 28) (c := 0) (p := 4158) rfl
theorem zg_86_25 : Zgo d 86 25 L st S Q ↔ (zlda L 0 False fun r => Zgo d 86 26 L (zq r :: st) S Q) := Zgo_iff (i := .aload_n 0) (len := 1) (a := 0) (b := 0) (c := 0) (p := 0) rfl
theorem zg_86_26 : Zgo d 86 26 L st S Q ↔ (Zgo d 86 27 L (zi 0 :: st) S Q) := Zgo_iff (i := .iconst 0) (len := 1) (a := 0) (b := 0) (c := 0) (p := 0) rfl
theorem zg_86_27 : Zgo d 86 27 L st S Q ↔ (zpi st False fun v t => zpa t False fun r t => zde r 11 False fun o => Zgo d 86 30 L t (zsI S.1 11 o 6 v, S.2) Q) := Zgo_iff (i := .putfield 193) (len := 3) (a := 11) (b := 6) (c := 0) (p := 4136) rfl
theorem zg_86_30 : Zgo d 86 30 L st S Q ↔ (zlda L 0 False fun r => Zgo d 86 31 L (zq r :: st) S Q) := Zgo_iff (i := .aload_n 0) (len := 1) (a := 0) (b := 0) (c := 0) (p := 0) rfl
theorem zg_86_31 : Zgo d 86 31 L st S Q ↔ (zinv 1 st False fun as t => zrec as 11 False (zCp d 87 as S fun r S2 => Zgo d 86 34 L (r.toList ++ t) S2 Q)) := Zgo_iff (i := .invokevirtual 134) (len := 3) (a := 87) (b := 1) (c := 0) (p := 5084) rfl
theorem zg_86_34 : Zgo d 86 34 L st S Q ↔ (Zgo d 86 36 L (zi 68 :: st) S Q) := Zgo_iff (i := .bipush 68) (len := 2) (a := 0) (b := 0) (c := 0) (p := 0) rfl
theorem zg_86_36 : Zgo d 86 36 L st S Q ↔ (zpi st False fun y t => zpi t False fun x t => if zw x = zw y then Zgo d 86 39 L t S Q else Zgo d 86 220 L t S Q) := Zgo_iff (i := .if_icmp .ne 184) (len := 3) (a := 0) (b := 0) (c := 0) (p := 0) rfl
theorem zg_86_39 : Zgo d 86 39 L st S Q ↔ (zlda L 0 False fun r => Zgo d 86 40 L (zq r :: st) S Q) := Zgo_iff (i := .aload_n 0) (len := 1) (a := 0) (b := 0) (c := 0) (p := 0) rfl
theorem zg_86_40 : Zgo d 86 40 L st S Q ↔ (zpa st False fun r t => zde r 11 False fun o => Zgo d 86 43 L (zi (S.1 11 o 4) :: t) S Q) := Zgo_iff (i := .getfield 130) (len := 3) (a := 11) (b := 4) (c := 1) (p := 4134) rfl
theorem zg_86_43 : Zgo d 86 43 L st S Q ↔ (zpi st False fun x t => if zw x = zw 0 then Zgo d 86 46 L t S Q else Zgo d 86 220 L t S Q) := Zgo_iff (i := .ifCond .ne 177) (len := 3) (a := 0) (b := 0) (c := 0) (p := 0) rfl
theorem zg_86_46 : Zgo d 86 46 L st S Q ↔ (zlda L 0 False fun r => Zgo d 86 47 L (zq r :: st) S Q) := Zgo_iff (i := .aload_n 0) (len := 1) (a := 0) (b := 0) (c := 0) (p := 0) rfl
theorem zg_86_47 : Zgo d 86 47 L st S Q ↔ (zp1 st False fun v t => Zgo d 86 48 L (v :: v :: t) S Q) := Zgo_iff (i := .dup) (len := 1) (a := 0) (b := 0) (c := 0) (p := 0) rfl
theorem zg_86_48 : Zgo d 86 48 L st S Q ↔ (zpa st False fun r t => zde r 11 False fun o => Zgo d 86 51 L (zi (S.1 11 o 3) :: t) S Q) := Zgo_iff (i := .getfield 127) (len := 3) (a := 11) (b := 3) (c := 0) (p := 4133) rfl
theorem zg_86_51 : Zgo d 86 51 L st S Q ↔ (Zgo d 86 52 L (zi 1 :: st) S Q) := Zgo_iff (i := .iconst 1) (len := 1) (a := 0) (b := 0) (c := 0) (p := 0) rfl
theorem zg_86_52 : Zgo d 86 52 L st S Q ↔ (zpi st False fun y t => zpi t False fun x t => Zgo d 86 53 L (zi (x + y) :: t) S Q) := Zgo_iff (i := .iadd) (len := 1) (a := 0) (b := 0) (c := 0) (p := 0) rfl
theorem zg_86_53 : Zgo d 86 53 L st S Q ↔ (zpi st False fun v t => zpa t False fun r t => zde r 11 False fun o => Zgo d 86 56 L t (zsI S.1 11 o 3 v, S.2) Q) := Zgo_iff (i := .putfield 127) (len := 3) (a := 11) (b := 3) (c := 0) (p := 4133) rfl
theorem zg_86_56 : Zgo d 86 56 L st S Q ↔ (zlda L 0 False fun r => Zgo d 86 57 L (zq r :: st) S Q) := Zgo_iff (i := .aload_n 0) (len := 1) (a := 0) (b := 0) (c := 0) (p := 0) rfl
theorem zg_86_57 : Zgo d 86 57 L st S Q ↔ (zlda L 0 False fun r => Zgo d 86 58 L (zq r :: st) S Q) := Zgo_iff (i := .aload_n 0) (len := 1) (a := 0) (b := 0) (c := 0) (p := 0) rfl
theorem zg_86_58 : Zgo d 86 58 L st S Q ↔ (zpa st False fun r t => zde r 11 False fun o => Zgo d 86 61 L (zi (S.1 11 o 6) :: t) S Q) := Zgo_iff (i := .getfield 193) (len := 3) (a := 11) (b := 6) (c := 0) (p := 4136) rfl
theorem zg_86_61 : Zgo d 86 61 L st S Q ↔ (Zgo d 86 62 L (zi 3 :: st) S Q) := Zgo_iff (i := .iconst 3) (len := 1) (a := 0) (b := 0) (c := 0) (p := 0) rfl
theorem zg_86_62 : Zgo d 86 62 L st S Q ↔ (zpi st False fun y t => zpi t False fun x t => if zw x = zw y then Zgo d 86 65 L t S Q else Zgo d 86 69 L t S Q) := Zgo_iff (i := .if_icmp .ne 7) (len := 3) (a := 0) (b := 0) (c := 0) (p := 0) rfl
theorem zg_86_65 : Zgo d 86 65 L st S Q ↔ (Zgo d 86 66 L (zi 1 :: st) S Q) := Zgo_iff (i := .iconst 1) (len := 1) (a := 0) (b := 0) (c := 0) (p := 0) rfl
theorem zg_86_66 : Zgo d 86 66 L st S Q ↔ (Zgo d 86 70 L st S Q) := Zgo_iff (i := .goto 4) (len := 3) (a := 0) (b := 0) (c := 0) (p := 0) rfl
theorem zg_86_69 : Zgo d 86 69 L st S Q ↔ (Zgo d 86 70 L (zi 0 :: st) S Q) := Zgo_iff (i := .iconst 0) (len := 1) (a := 0) (b := 0) (c := 0) (p := 0) rfl
theorem zg_86_70 : Zgo d 86 70 L st S Q ↔ (zpi st False fun v t => zpa t False fun r t => zde r 11 False fun o => zok 1 v False (Zgo d 86 73 L t (zsI S.1 11 o 4 v, S.2) Q)) := Zgo_iff (i := .putfield 130) (len := 3) (a := 11) (b := 4) (c := 1) (p := 4134) rfl
theorem zg_86_73 : Zgo d 86 73 L st S Q ↔ (zlda L 0 False fun r => Zgo d 86 74 L (zq r :: st) S Q) := Zgo_iff (i := .aload_n 0) (len := 1) (a := 0) (b := 0) (c := 0) (p := 0) rfl
theorem zg_86_74 : Zgo d 86 74 L st S Q ↔ (zpa st False fun r t => zde r 11 False fun o => Zgo d 86 77 L (zi (S.1 11 o 4) :: t) S Q) := Zgo_iff (i := .getfield 130) (len := 3) (a := 11) (b := 4) (c := 1) (p := 4134) rfl
theorem zg_86_77 : Zgo d 86 77 L st S Q ↔ (zpi st False fun x t => if zw x = zw 0 then Zgo d 86 80 L t S Q else Zgo d 86 30 L t S Q) := Zgo_iff (i := .ifCond .ne (-47)) (len := 3) (a := 0) (b := 0) (c := 0) (p := 0) rfl
theorem zg_86_80 : Zgo d 86 80 L st S Q ↔ (zlda L 0 False fun r => Zgo d 86 81 L (zq r :: st) S Q) := Zgo_iff (i := .aload_n 0) (len := 1) (a := 0) (b := 0) (c := 0) (p := 0) rfl
theorem zg_86_81 : Zgo d 86 81 L st S Q ↔ (zpa st False fun r t => zde r 11 False fun o => Zgo d 86 84 L (zq (S.2.1 11 o 7) :: t) S Q) := Zgo_iff (i := .getfield 13) (len := 3) (a := 11) (b := 7) (c := 3) (p := 4137) rfl
theorem zg_86_84 : Zgo d 86 84 L st S Q ↔ (zlda L 0 False fun r => Zgo d 86 85 L (zq r :: st) S Q) := Zgo_iff (i := .aload_n 0) (len := 1) (a := 0) (b := 0) (c := 0) (p := 0) rfl
theorem zg_86_85 : Zgo d 86 85 L st S Q ↔ (zpa st False fun r t => zde r 11 False fun o => Zgo d 86 88 L (zi (S.1 11 o 6) :: t) S Q) := Zgo_iff (i := .getfield 193) (len := 3) (a := 11) (b := 6) (c := 0) (p := 4136) rfl
theorem zg_86_88 : Zgo d 86 88 L st S Q ↔ (zlda L 0 False fun r => Zgo d 86 89 L (zq r :: st) S Q) := Zgo_iff (i := .aload_n 0) (len := 1) (a := 0) (b := 0) (c := 0) (p := 0) rfl
theorem zg_86_89 : Zgo d 86 89 L st S Q ↔ (zinv 1 st False fun as t => zrec as 11 False (zCp d 88 as S fun r S2 => Zgo d 86 92 L (r.toList ++ t) S2 Q)) := Zgo_iff (i := .invokevirtual 177) (len := 3) (a := 88) (b := 1) (c := 0) (p := 5088) rfl
theorem zg_86_92 : Zgo d 86 92 L st S Q ↔ (zpi st False fun v t => zpi t False fun j t => zpa t False fun r t => znn r False fun q o => zop (zArr q) False fun n => if n.1 = 0 then zix j n.2 False fun x => Zgo d 86 93 L t (zsI S.1 q o x v, S.2) Q else False) := Zgo_iff (i := .iastore) (len := 1) (a := 0) (b := 0) (c := 0) (p := 0) rfl
theorem zg_86_93 : Zgo d 86 93 L st S Q ↔ (zlda L 0 False fun r => Zgo d 86 94 L (zq r :: st) S Q) := Zgo_iff (i := .aload_n 0) (len := 1) (a := 0) (b := 0) (c := 0) (p := 0) rfl
theorem zg_86_94 : Zgo d 86 94 L st S Q ↔ (zpa st False fun r t => zde r 11 False fun o => Zgo d 86 97 L (zq (S.2.1 11 o 8) :: t) S Q) := Zgo_iff (i := .getfield 16) (len := 3) (a := 11) (b := 8) (c := 3) (p := 4138) rfl
theorem zg_86_97 : Zgo d 86 97 L st S Q ↔ (zlda L 0 False fun r => Zgo d 86 98 L (zq r :: st) S Q) := Zgo_iff (i := .aload_n 0) (len := 1) (a := 0) (b := 0) (c := 0) (p := 0) rfl
theorem zg_86_98 : Zgo d 86 98 L st S Q ↔ (zpa st False fun r t => zde r 11 False fun o => Zgo d 86 101 L (zi (S.1 11 o 6) :: t) S Q) := Zgo_iff (i := .getfield 193) (len := 3) (a := 11) (b := 6) (c := 0) (p := 4136) rfl
theorem zg_86_101 : Zgo d 86 101 L st S Q ↔ (Zgo d 86 102 L (zi 0 :: st) S Q) := Zgo_iff (i := .iconst 0) (len := 1) (a := 0) (b := 0) (c := 0) (p := 0) rfl
theorem zg_86_102 : Zgo d 86 102 L st S Q ↔ (zpi st False fun v t => zpi t False fun j t => zpa t False fun r t => znn r False fun q o => zop (zArr q) False fun n => if n.1 = 0 then zix j n.2 False fun x => Zgo d 86 103 L t (zsI S.1 q o x v, S.2) Q else False) := Zgo_iff (i := .iastore) (len := 1) (a := 0) (b := 0) (c := 0) (p := 0) rfl
theorem zg_86_103 : Zgo d 86 103 L st S Q ↔ (Zgo d 86 104 L (zi (-1) :: st) S Q) := Zgo_iff (i := .iconst (-1)) (len := 1) (a := 0) (b := 0) (c := 0) (p := 0) rfl
theorem zg_86_104 : Zgo d 86 104 L st S Q ↔ (zpi st False fun x t => Zgo d 86 105 (zst L 1 (some (zi x))) t S Q) := Zgo_iff (i := .istore_n 1) (len := 1) (a := 0) (b := 0) (c := 0) (p := 0) rfl
theorem zg_86_105 : Zgo d 86 105 L st S Q ↔ (zlda L 0 False fun r => Zgo d 86 106 L (zq r :: st) S Q) := Zgo_iff (i := .aload_n 0) (len := 1) (a := 0) (b := 0) (c := 0) (p := 0) rfl
theorem zg_86_106 : Zgo d 86 106 L st S Q ↔ (zinv 1 st False fun as t => zrec as 11 False (zCp d 87 as S fun r S2 => Zgo d 86 109 L (r.toList ++ t) S2 Q)) := Zgo_iff (i := .invokevirtual 134) (len := 3) (a := 87) (b := 1) (c := 0) (p := 5084) rfl
theorem zg_86_109 : Zgo d 86 109 L st S Q ↔ (zinv 1 st False fun as t => zCp d 89 as S fun r S2 => Zgo d 86 112 L (r.toList ++ t) S2 Q) := Zgo_iff (i := .invokestatic 141) (len := 3) (a := 89) (b := 1) (c := 1) (p := 5092) rfl
theorem zg_86_112 : Zgo d 86 112 L st S Q ↔ (zpi st False fun x t => if zw x = zw 0 then Zgo d 86 183 L t S Q else Zgo d 86 115 L t S Q) := Zgo_iff (i := .ifCond .eq 71) (len := 3) (a := 0) (b := 0) (c := 0) (p := 0) rfl
theorem zg_86_115 : Zgo d 86 115 L st S Q ↔ (zlda L 0 False fun r => Zgo d 86 116 L (zq r :: st) S Q) := Zgo_iff (i := .aload_n 0) (len := 1) (a := 0) (b := 0) (c := 0) (p := 0) rfl
theorem zg_86_116 : Zgo d 86 116 L st S Q ↔ (zpa st False fun r t => zde r 11 False fun o => Zgo d 86 119 L (zi (S.1 11 o 4) :: t) S Q) := Zgo_iff (i := .getfield 130) (len := 3) (a := 11) (b := 4) (c := 1) (p := 4134) rfl
theorem zg_86_119 : Zgo d 86 119 L st S Q ↔ (zpi st False fun x t => if zw x = zw 0 then Zgo d 86 122 L t S Q else Zgo d 86 183 L t S Q) := Zgo_iff (i := .ifCond .ne 64) (len := 3) (a := 0) (b := 0) (c := 0) (p := 0) rfl
theorem zg_86_122 : Zgo d 86 122 L st S Q ↔ (zlda L 0 False fun r => Zgo d 86 123 L (zq r :: st) S Q) := Zgo_iff (i := .aload_n 0) (len := 1) (a := 0) (b := 0) (c := 0) (p := 0) rfl
theorem zg_86_123 : Zgo d 86 123 L st S Q ↔ (zinv 1 st False fun as t => zrec as 11 False (zCp d 90 as S fun r S2 => Zgo d 86 126 L (r.toList ++ t) S2 Q)) := Zgo_iff (i := .invokevirtual 174) (len := 3) (a := 90) (b := 1) (c := 0) (p := 5095) rfl
theorem zg_86_126 : Zgo d 86 126 L st S Q ↔ (zpi st False fun x t => Zgo d 86 127 (zst L 2 (some (zi x))) t S Q) := Zgo_iff (i := .istore_n 2) (len := 1) (a := 0) (b := 0) (c := 0) (p := 0) rfl
theorem zg_86_127 : Zgo d 86 127 L st S Q ↔ (zlda L 0 False fun r => Zgo d 86 128 L (zq r :: st) S Q) := Zgo_iff (i := .aload_n 0) (len := 1) (a := 0) (b := 0) (c := 0) (p := 0) rfl
theorem zg_86_128 : Zgo d 86 128 L st S Q ↔ (zlda L 0 False fun r => Zgo d 86 129 L (zq r :: st) S Q) := Zgo_iff (i := .aload_n 0) (len := 1) (a := 0) (b := 0) (c := 0) (p := 0) rfl
theorem zg_86_129 : Zgo d 86 129 L st S Q ↔ (zpa st False fun r t => zde r 11 False fun o => Zgo d 86 132 L (zi (S.1 11 o 4) :: t) S Q) := Zgo_iff (i := .getfield 130) (len := 3) (a := 11) (b := 4) (c := 1) (p := 4134) rfl
theorem zg_86_132 : Zgo d 86 132 L st S Q ↔ (zpi st False fun x t => if zw x = zw 0 then Zgo d 86 135 L t S Q else Zgo d 86 140 L t S Q) := Zgo_iff (i := .ifCond .ne 8) (len := 3) (a := 0) (b := 0) (c := 0) (p := 0) rfl
theorem zg_86_135 : Zgo d 86 135 L st S Q ↔ (zldi L 2 False fun x => Zgo d 86 136 L (zi x :: st) S Q) := Zgo_iff (i := .iload_n 2) (len := 1) (a := 0) (b := 0) (c := 0) (p := 0) rfl
theorem zg_86_136 : Zgo d 86 136 L st S Q ↔ (zldi L 1 False fun x => Zgo d 86 137 L (zi x :: st) S Q) := Zgo_iff (i := .iload_n 1) (len := 1) (a := 0) (b := 0) (c := 0) (p := 0) rfl
theorem zg_86_137 : Zgo d 86 137 L st S Q ↔ (zpi st False fun y t => zpi t False fun x t => if zw y < zw x then Zgo d 86 144 L t S Q else Zgo d 86 140 L t S Q) := Zgo_iff (i := .if_icmp .gt 7) (len := 3) (a := 0) (b := 0) (c := 0) (p := 0) rfl
theorem zg_86_140 : Zgo d 86 140 L st S Q ↔ (Zgo d 86 141 L (zi 1 :: st) S Q) := Zgo_iff (i := .iconst 1) (len := 1) (a := 0) (b := 0) (c := 0) (p := 0) rfl
theorem zg_86_141 : Zgo d 86 141 L st S Q ↔ (Zgo d 86 145 L st S Q) := Zgo_iff (i := .goto 4) (len := 3) (a := 0) (b := 0) (c := 0) (p := 0) rfl
theorem zg_86_144 : Zgo d 86 144 L st S Q ↔ (Zgo d 86 145 L (zi 0 :: st) S Q) := Zgo_iff (i := .iconst 0) (len := 1) (a := 0) (b := 0) (c := 0) (p := 0) rfl
theorem zg_86_145 : Zgo d 86 145 L st S Q ↔ (zpi st False fun v t => zpa t False fun r t => zde r 11 False fun o => zok 1 v False (Zgo d 86 148 L t (zsI S.1 11 o 4 v, S.2) Q)) := Zgo_iff (i := .putfield 130) (len := 3) (a := 11) (b := 4) (c := 1) (p := 4134) rfl
theorem zg_86_148 : Zgo d 86 148 L st S Q ↔ (zldi L 2 False fun x => Zgo d 86 149 L (zi x :: st) S Q) := Zgo_iff (i := .iload_n 2) (len := 1) (a := 0) (b := 0) (c := 0) (p := 0) rfl
theorem zg_86_149 : Zgo d 86 149 L st S Q ↔ (zpi st False fun x t => Zgo d 86 150 (zst L 1 (some (zi x))) t S Q) := Zgo_iff (i := .istore_n 1) (len := 1) (a := 0) (b := 0) (c := 0) (p := 0) rfl
theorem zg_86_150 : Zgo d 86 150 L st S Q ↔ (zlda L 0 False fun r => Zgo d 86 151 L (zq r :: st) S Q) := Zgo_iff (i := .aload_n 0) (len := 1) (a := 0) (b := 0) (c := 0) (p := 0) rfl
theorem zg_86_151 : Zgo d 86 151 L st S Q ↔ (zpa st False fun r t => zde r 11 False fun o => Zgo d 86 154 L (zq (S.2.1 11 o 8) :: t) S Q) := Zgo_iff (i := .getfield 16) (len := 3) (a := 11) (b := 8) (c := 3) (p := 4138) rfl
theorem zg_86_154 : Zgo d 86 154 L st S Q ↔ (zlda L 0 False fun r => Zgo d 86 155 L (zq r :: st) S Q) := Zgo_iff (i := .aload_n 0) (len := 1) (a := 0) (b := 0) (c := 0) (p := 0) rfl
theorem zg_86_155 : Zgo d 86 155 L st S Q ↔ (zpa st False fun r t => zde r 11 False fun o => Zgo d 86 158 L (zi (S.1 11 o 6) :: t) S Q) := Zgo_iff (i := .getfield 193) (len := 3) (a := 11) (b := 6) (c := 0) (p := 4136) rfl
theorem zg_86_158 : Zgo d 86 158 L st S Q ↔ (zlda L 0 False fun r => Zgo d 86 159 L (zq r :: st) S Q) := Zgo_iff (i := .aload_n 0) (len := 1) (a := 0) (b := 0) (c := 0) (p := 0) rfl
theorem zg_86_159 : Zgo d 86 159 L st S Q ↔ (zpa st False fun r t => zde r 11 False fun o => Zgo d 86 162 L (zq (S.2.1 11 o 8) :: t) S Q) := Zgo_iff (i := .getfield 16) (len := 3) (a := 11) (b := 8) (c := 3) (p := 4138) rfl
theorem zg_86_162 : Zgo d 86 162 L st S Q ↔ (zlda L 0 False fun r => Zgo d 86 163 L (zq r :: st) S Q) := Zgo_iff (i := .aload_n 0) (len := 1) (a := 0) (b := 0) (c := 0) (p := 0) rfl
theorem zg_86_163 : Zgo d 86 163 L st S Q ↔ (zpa st False fun r t => zde r 11 False fun o => Zgo d 86 166 L (zi (S.1 11 o 6) :: t) S Q) := Zgo_iff (i := .getfield 193) (len := 3) (a := 11) (b := 6) (c := 0) (p := 4136) rfl
theorem zg_86_166 : Zgo d 86 166 L st S Q ↔ (zpi st False fun j t => zpa t False fun r t => znn r False fun q o => zop (zlen S q) False fun n => if n.1 = 0 then zix j n.2 False fun x => Zgo d 86 167 L (zi (S.1 q o x) :: t) S Q else False) := Zgo_iff (i := .iaload) (len := 1) (a := 0) (b := 0) (c := 0) (p := 0) rfl
theorem zg_86_167 : Zgo d 86 167 L st S Q ↔ (Zgo d 86 168 L (zi 1 :: st) S Q) := Zgo_iff (i := .iconst 1) (len := 1) (a := 0) (b := 0) (c := 0) (p := 0) rfl
theorem zg_86_168 : Zgo d 86 168 L st S Q ↔ (zldi L 2 False fun x => Zgo d 86 169 L (zi x :: st) S Q) := Zgo_iff (i := .iload_n 2) (len := 1) (a := 0) (b := 0) (c := 0) (p := 0) rfl
theorem zg_86_169 : Zgo d 86 169 L st S Q ↔ (zpi st False fun x t => if zw x < zw 0 then Zgo d 86 172 L t S Q else Zgo d 86 176 L t S Q) := Zgo_iff (i := .ifCond .ge 7) (len := 3) (a := 0) (b := 0) (c := 0) (p := 0) rfl
theorem zg_86_172 : Zgo d 86 172 L st S Q ↔ (Zgo d 86 173 L (zi 0 :: st) S Q) := Zgo_iff (i := .iconst 0) (len := 1) (a := 0) (b := 0) (c := 0) (p := 0) rfl
theorem zg_86_173 : Zgo d 86 173 L st S Q ↔ (Zgo d 86 177 L st S Q) := Zgo_iff (i := .goto 4) (len := 3) (a := 0) (b := 0) (c := 0) (p := 0) rfl
theorem zg_86_176 : Zgo d 86 176 L st S Q ↔ (zldi L 2 False fun x => Zgo d 86 177 L (zi x :: st) S Q) := Zgo_iff (i := .iload_n 2) (len := 1) (a := 0) (b := 0) (c := 0) (p := 0) rfl
theorem zg_86_177 : Zgo d 86 177 L st S Q ↔ (zpi st False fun y t => zpi t False fun x t => Zgo d 86 178 L (zi (zshl x y) :: t) S Q) := Zgo_iff (i := .ishl) (len := 1) (a := 0) (b := 0) (c := 0) (p := 0) rfl
theorem zg_86_178 : Zgo d 86 178 L st S Q ↔ (zpi st False fun y t => zpi t False fun x t => Zgo d 86 179 L (zi (zor x y) :: t) S Q) := Zgo_iff (i := .ior) (len := 1) (a := 0) (b := 0) (c := 0) (p := 0) rfl
theorem zg_86_179 : Zgo d 86 179 L st S Q ↔ (zpi st False fun v t => zpi t False fun j t => zpa t False fun r t => znn r False fun q o => zop (zArr q) False fun n => if n.1 = 0 then zix j n.2 False fun x => Zgo d 86 180 L t (zsI S.1 q o x v, S.2) Q else False) := Zgo_iff (i := .iastore) (len := 1) (a := 0) (b := 0) (c := 0) (p := 0) rfl
theorem zg_86_180 : Zgo d 86 180 L st S Q ↔ (Zgo d 86 105 L st S Q) := Zgo_iff (i := .goto (-75)) (len := 3) (a := 0) (b := 0) (c := 0) (p := 0) rfl
theorem zg_86_183 : Zgo d 86 183 L st S Q ↔ (zlda L 0 False fun r => Zgo d 86 184 L (zq r :: st) S Q) := Zgo_iff (i := .aload_n 0) (len := 1) (a := 0) (b := 0) (c := 0) (p := 0) rfl
theorem zg_86_184 : Zgo d 86 184 L st S Q ↔ (zpa st False fun r t => zde r 11 False fun o => Zgo d 86 187 L (zq (S.2.1 11 o 9) :: t) S Q) := Zgo_iff (i := .getfield 19) (len := 3) (a := 11) (b := 9) (c := 3) (p := 4139) rfl
theorem zg_86_187 : Zgo d 86 187 L st S Q ↔ (zlda L 0 False fun r => Zgo d 86 188 L (zq r :: st) S Q) := Zgo_iff (i := .aload_n 0) (len := 1) (a := 0) (b := 0) (c := 0) (p := 0) rfl
theorem zg_86_188 : Zgo d 86 188 L st S Q ↔ (zpa st False fun r t => zde r 11 False fun o => Zgo d 86 191 L (zi (S.1 11 o 6) :: t) S Q) := Zgo_iff (i := .getfield 193) (len := 3) (a := 11) (b := 6) (c := 0) (p := 4136) rfl
theorem zg_86_191 : Zgo d 86 191 L st S Q ↔ (zlda L 0 False fun r => Zgo d 86 192 L (zq r :: st) S Q) := Zgo_iff (i := .aload_n 0) (len := 1) (a := 0) (b := 0) (c := 0) (p := 0) rfl
theorem zg_86_192 : Zgo d 86 192 L st S Q ↔ (zpa st False fun r t => zde r 11 False fun o => Zgo d 86 195 L (zi (S.1 11 o 4) :: t) S Q) := Zgo_iff (i := .getfield 130) (len := 3) (a := 11) (b := 4) (c := 1) (p := 4134) rfl
theorem zg_86_195 : Zgo d 86 195 L st S Q ↔ (zpi st False fun x t => if zw x = zw 0 then Zgo d 86 202 L t S Q else Zgo d 86 198 L t S Q) := Zgo_iff (i := .ifCond .eq 7) (len := 3) (a := 0) (b := 0) (c := 0) (p := 0) rfl
theorem zg_86_198 : Zgo d 86 198 L st S Q ↔ (Zgo d 86 199 L (zi 0 :: st) S Q) := Zgo_iff (i := .iconst 0) (len := 1) (a := 0) (b := 0) (c := 0) (p := 0) rfl
theorem zg_86_199 : Zgo d 86 199 L st S Q ↔ (Zgo d 86 206 L st S Q) := Zgo_iff (i := .goto 7) (len := 3) (a := 0) (b := 0) (c := 0) (p := 0) rfl
theorem zg_86_202 : Zgo d 86 202 L st S Q ↔ (zlda L 0 False fun r => Zgo d 86 203 L (zq r :: st) S Q) := Zgo_iff (i := .aload_n 0) (len := 1) (a := 0) (b := 0) (c := 0) (p := 0) rfl
theorem zg_86_203 : Zgo d 86 203 L st S Q ↔ (zinv 1 st False fun as t => zrec as 11 False (zCp d 91 as S fun r S2 => Zgo d 86 206 L (r.toList ++ t) S2 Q)) := Zgo_iff (i := .invokevirtual 196) (len := 3) (a := 91) (b := 1) (c := 0) (p := 5099) rfl
theorem zg_86_206 : Zgo d 86 206 L st S Q ↔ (zpi st False fun v t => zpi t False fun j t => zpa t False fun r t => znn r False fun q o => zop (zArr q) False fun n => if n.1 = 0 then zix j n.2 False fun x => Zgo d 86 207 L t (zsI S.1 q o x v, S.2) Q else False) := Zgo_iff (i := .iastore) (len := 1) (a := 0) (b := 0) (c := 0) (p := 0) rfl
theorem zg_86_207 : Zgo d 86 207 L st S Q ↔ (zlda L 0 False fun r => Zgo d 86 208 L (zq r :: st) S Q) := Zgo_iff (i := .aload_n 0) (len := 1) (a := 0) (b := 0) (c := 0) (p := 0) rfl
theorem zg_86_208 : Zgo d 86 208 L st S Q ↔ (zp1 st False fun v t => Zgo d 86 209 L (v :: v :: t) S Q) := Zgo_iff (i := .dup) (len := 1) (a := 0) (b := 0) (c := 0) (p := 0) rfl
theorem zg_86_209 : Zgo d 86 209 L st S Q ↔ (zpa st False fun r t => zde r 11 False fun o => Zgo d 86 212 L (zi (S.1 11 o 6) :: t) S Q) := Zgo_iff (i := .getfield 193) (len := 3) (a := 11) (b := 6) (c := 0) (p := 4136) rfl
theorem zg_86_212 : Zgo d 86 212 L st S Q ↔ (Zgo d 86 213 L (zi 1 :: st) S Q) := Zgo_iff (i := .iconst 1) (len := 1) (a := 0) (b := 0) (c := 0) (p := 0) rfl
theorem zg_86_213 : Zgo d 86 213 L st S Q ↔ (zpi st False fun y t => zpi t False fun x t => Zgo d 86 214 L (zi (x + y) :: t) S Q) := Zgo_iff (i := .iadd) (len := 1) (a := 0) (b := 0) (c := 0) (p := 0) rfl
theorem zg_86_214 : Zgo d 86 214 L st S Q ↔ (zpi st False fun v t => zpa t False fun r t => zde r 11 False fun o => Zgo d 86 217 L t (zsI S.1 11 o 6 v, S.2) Q) := Zgo_iff (i := .putfield 193) (len := 3) (a := 11) (b := 6) (c := 0) (p := 4136) rfl
theorem zg_86_217 : Zgo d 86 217 L st S Q ↔ (Zgo d 86 30 L st S Q) := Zgo_iff (i := .goto (-187)) (len := 3) (a := 0) (b := 0) (c := 0) (p := 0) rfl
theorem zg_86_220 : Zgo d 86 220 L st S Q ↔ (zlda L 0 False fun r => Zgo d 86 221 L (zq r :: st) S Q) := Zgo_iff (i := .aload_n 0) (len := 1) (a := 0) (b := 0) (c := 0) (p := 0) rfl
theorem zg_86_221 : Zgo d 86 221 L st S Q ↔ (Zgo d 86 223 L (zi 77 :: st) S Q) := Zgo_iff (i := .bipush 77) (len := 2) (a := 0) (b := 0) (c := 0) (p := 0) rfl
theorem zg_86_223 : Zgo d 86 223 L st S Q ↔ (zinv 2 st False fun as t => zrec as 11 False (zCp d 93 as S fun r S2 => Zgo d 86 226 L (r.toList ++ t) S2 Q)) := Zgo_iff (i := .invokevirtual 162) (len := 3) (a := 93) (b := 2) (c := 0) (p := 5107) rfl
theorem zg_86_226 : Zgo d 86 226 L st S Q ↔ (zlda L 0 False fun r => Zgo d 86 227 L (zq r :: st) S Q) := Zgo_iff (i := .aload_n 0) (len := 1) (a := 0) (b := 0) (c := 0) (p := 0) rfl
theorem zg_86_227 : Zgo d 86 227 L st S Q ↔ (zpa st False fun r t => zde r 11 False fun o => Zgo d 86 230 L (zi (S.1 11 o 4) :: t) S Q) := Zgo_iff (i := .getfield 130) (len := 3) (a := 11) (b := 4) (c := 1) (p := 4134) rfl
theorem zg_86_230 : Zgo d 86 230 L st S Q ↔ (zpi st False fun x t => if zw x = zw 0 then Zgo d 86 233 L t S Q else Zgo d 86 246 L t S Q) := Zgo_iff (i := .ifCond .ne 16) (len := 3) (a := 0) (b := 0) (c := 0) (p := 0) rfl
theorem zg_86_233 : Zgo d 86 233 L st S Q ↔ (zlda L 0 False fun r => Zgo d 86 234 L (zq r :: st) S Q) := Zgo_iff (i := .aload_n 0) (len := 1) (a := 0) (b := 0) (c := 0) (p := 0) rfl
theorem zg_86_234 : Zgo d 86 234 L st S Q ↔ (zpa st False fun r t => zde r 11 False fun o => Zgo d 86 237 L (zq (S.2.1 11 o 9) :: t) S Q) := Zgo_iff (i := .getfield 19) (len := 3) (a := 11) (b := 9) (c := 3) (p := 4139) rfl
theorem zg_86_237 : Zgo d 86 237 L st S Q ↔ (zlda L 0 False fun r => Zgo d 86 238 L (zq r :: st) S Q) := Zgo_iff (i := .aload_n 0) (len := 1) (a := 0) (b := 0) (c := 0) (p := 0) rfl
theorem zg_86_238 : Zgo d 86 238 L st S Q ↔ (zpa st False fun r t => zde r 11 False fun o => Zgo d 86 241 L (zi (S.1 11 o 6) :: t) S Q) := Zgo_iff (i := .getfield 193) (len := 3) (a := 11) (b := 6) (c := 0) (p := 4136) rfl
theorem zg_86_241 : Zgo d 86 241 L st S Q ↔ (zlda L 0 False fun r => Zgo d 86 242 L (zq r :: st) S Q) := Zgo_iff (i := .aload_n 0) (len := 1) (a := 0) (b := 0) (c := 0) (p := 0) rfl
theorem zg_86_242 : Zgo d 86 242 L st S Q ↔ (zinv 1 st False fun as t => zrec as 11 False (zCp d 91 as S fun r S2 => Zgo d 86 245 L (r.toList ++ t) S2 Q)) := Zgo_iff (i := .invokevirtual 196) (len := 3) (a := 91) (b := 1) (c := 0) (p := 5099) rfl
theorem zg_86_245 : Zgo d 86 245 L st S Q ↔ (zpi st False fun v t => zpi t False fun j t => zpa t False fun r t => znn r False fun q o => zop (zArr q) False fun n => if n.1 = 0 then zix j n.2 False fun x => Zgo d 86 246 L t (zsI S.1 q o x v, S.2) Q else False) := Zgo_iff (i := .iastore) (len := 1) (a := 0) (b := 0) (c := 0) (p := 0) rfl
theorem zg_86_246 : Zgo d 86 246 L st S Q ↔ (zlda L 0 False fun r => Zgo d 86 247 L (zq r :: st) S Q) := Zgo_iff (i := .aload_n 0) (len := 1) (a := 0) (b := 0) (c := 0) (p := 0) rfl
theorem zg_86_247 : Zgo d 86 247 L st S Q ↔ (zlda L 0 False fun r => Zgo d 86 248 L (zq r :: st) S Q) := Zgo_iff (i := .aload_n 0) (len := 1) (a := 0) (b := 0) (c := 0) (p := 0) rfl
theorem zg_86_248 : Zgo d 86 248 L st S Q ↔ (zpa st False fun r t => zde r 11 False fun o => Zgo d 86 251 L (zi (S.1 11 o 4) :: t) S Q) := Zgo_iff (i := .getfield 130) (len := 3) (a := 11) (b := 4) (c := 1) (p := 4134) rfl
theorem zg_86_251 : Zgo d 86 251 L st S Q ↔ (zpi st False fun x t => if zw x = zw 0 then Zgo d 86 254 L t S Q else Zgo d 86 265 L t S Q) := Zgo_iff (i := .ifCond .ne 14) (len := 3) (a := 0) (b := 0) (c := 0) (p := 0) rfl
theorem zg_86_254 : Zgo d 86 254 L st S Q ↔ (zlda L 0 False fun r => Zgo d 86 255 L (zq r :: st) S Q) := Zgo_iff (i := .aload_n 0) (len := 1) (a := 0) (b := 0) (c := 0) (p := 0) rfl
theorem zg_86_255 : Zgo d 86 255 L st S Q ↔ (zpa st False fun r t => zde r 11 False fun o => Zgo d 86 258 L (zi (S.1 11 o 3) :: t) S Q) := Zgo_iff (i := .getfield 127) (len := 3) (a := 11) (b := 3) (c := 0) (p := 4133) rfl
theorem zg_86_258 : Zgo d 86 258 L st S Q ↔ (zlda L 0 False fun r => Zgo d 86 259 L (zq r :: st) S Q) := Zgo_iff (i := .aload_n 0) (len := 1) (a := 0) (b := 0) (c := 0) (p := 0) rfl
theorem zg_86_259 : Zgo d 86 259 L st S Q ↔ (zpa st False fun r t => zde r 11 False fun o => Zgo d 86 262 L (zi (S.1 11 o 2) :: t) S Q) := Zgo_iff (i := .getfield 122) (len := 3) (a := 11) (b := 2) (c := 0) (p := 4132) rfl
theorem zg_86_262 : Zgo d 86 262 L st S Q ↔ (zpi st False fun y t => zpi t False fun x t => if zw x = zw y then Zgo d 86 269 L t S Q else Zgo d 86 265 L t S Q) := Zgo_iff (i := .if_icmp .eq 7) (len := 3) (a := 0) (b := 0) (c := 0) (p := 0) rfl
theorem zg_86_265 : Zgo d 86 265 L st S Q ↔ (Zgo d 86 266 L (zi 1 :: st) S Q) := Zgo_iff (i := .iconst 1) (len := 1) (a := 0) (b := 0) (c := 0) (p := 0) rfl
theorem zg_86_266 : Zgo d 86 266 L st S Q ↔ (Zgo d 86 270 L st S Q) := Zgo_iff (i := .goto 4) (len := 3) (a := 0) (b := 0) (c := 0) (p := 0) rfl
theorem zg_86_269 : Zgo d 86 269 L st S Q ↔ (Zgo d 86 270 L (zi 0 :: st) S Q) := Zgo_iff (i := .iconst 0) (len := 1) (a := 0) (b := 0) (c := 0) (p := 0) rfl
theorem zg_86_270 : Zgo d 86 270 L st S Q ↔ (zpi st False fun v t => zpa t False fun r t => zde r 11 False fun o => zok 1 v False (Zgo d 86 273 L t (zsI S.1 11 o 4 v, S.2) Q)) := Zgo_iff (i := .putfield 130) (len := 3) (a := 11) (b := 4) (c := 1) (p := 4134) rfl
theorem zg_86_273 : Zgo d 86 273 L st S Q ↔ (zem st False (Q none S)) := Zgo_iff (i := .return_) (len := 1) (a := 0) (b := 0) (c := 0) (p := 0) rfl
/-- LeavingMachineModel.peek()I -/
theorem zg_87_0 : Zgo d 87 0 L st S Q ↔ (zlda L 0 False fun r => Zgo d 87 1 L (zq r :: st) S Q) := Zgo_iff (i := .aload_n 0) (len := 1) (a := 0) (b := 0) (c := 0) (p := 0) rfl
theorem zg_87_1 : Zgo d 87 1 L st S Q ↔ (zpa st False fun r t => zde r 11 False fun o => Zgo d 87 4 L (zi (S.1 11 o 3) :: t) S Q) := Zgo_iff (i := .getfield 127) (len := 3) (a := 11) (b := 3) (c := 0) (p := 4133) rfl
theorem zg_87_4 : Zgo d 87 4 L st S Q ↔ (zlda L 0 False fun r => Zgo d 87 5 L (zq r :: st) S Q) := Zgo_iff (i := .aload_n 0) (len := 1) (a := 0) (b := 0) (c := 0) (p := 0) rfl
theorem zg_87_5 : Zgo d 87 5 L st S Q ↔ (zpa st False fun r t => zde r 11 False fun o => Zgo d 87 8 L (zi (S.1 11 o 2) :: t) S Q) := Zgo_iff (i := .getfield 122) (len := 3) (a := 11) (b := 2) (c := 0) (p := 4132) rfl
theorem zg_87_8 : Zgo d 87 8 L st S Q ↔ (zpi st False fun y t => zpi t False fun x t => if zw x < zw y then Zgo d 87 11 L t S Q else Zgo d 87 38 L t S Q) := Zgo_iff (i := .if_icmp .ge 30) (len := 3) (a := 0) (b := 0) (c := 0) (p := 0) rfl
theorem zg_87_11 : Zgo d 87 11 L st S Q ↔ (zlda L 0 False fun r => Zgo d 87 12 L (zq r :: st) S Q) := Zgo_iff (i := .aload_n 0) (len := 1) (a := 0) (b := 0) (c := 0) (p := 0) rfl
theorem zg_87_12 : Zgo d 87 12 L st S Q ↔ (zpa st False fun r t => zde r 11 False fun o => Zgo d 87 15 L (zq (S.2.1 11 o 1) :: t) S Q) := Zgo_iff (i := .getfield 7) (len := 3) (a := 11) (b := 1) (c := 3) (p := 4131) rfl
theorem zg_87_15 : Zgo d 87 15 L st S Q ↔ (zlda L 0 False fun r => Zgo d 87 16 L (zq r :: st) S Q) := Zgo_iff (i := .aload_n 0) (len := 1) (a := 0) (b := 0) (c := 0) (p := 0) rfl
theorem zg_87_16 : Zgo d 87 16 L st S Q ↔ (zpa st False fun r t => zde r 11 False fun o => Zgo d 87 19 L (zi (S.1 11 o 3) :: t) S Q) := Zgo_iff (i := .getfield 127) (len := 3) (a := 11) (b := 3) (c := 0) (p := 4133) rfl
theorem zg_87_19 : Zgo d 87 19 L st S Q ↔ (zlda L 0 False fun r => Zgo d 87 20 L (zq r :: st) S Q) := Zgo_iff (i := .aload_n 0) (len := 1) (a := 0) (b := 0) (c := 0) (p := 0) rfl
theorem zg_87_20 : Zgo d 87 20 L st S Q ↔ (zpa st False fun r t => zde r 11 False fun o => Zgo d 87 23 L (zi (S.1 11 o 2) :: t) S Q) := Zgo_iff (i := .getfield 122) (len := 3) (a := 11) (b := 2) (c := 0) (p := 4132) rfl
theorem zg_87_23 : Zgo d 87 23 L st S Q ↔ (zpi st False fun y t => zpi t False fun x t => if zw x < zw y then Zgo d 87 26 L t S Q else Zgo d 87 33 L t S Q) := Zgo_iff (i := .if_icmp .ge 10) (len := 3) (a := 0) (b := 0) (c := 0) (p := 0) rfl
theorem zg_87_26 : Zgo d 87 26 L st S Q ↔ (zlda L 0 False fun r => Zgo d 87 27 L (zq r :: st) S Q) := Zgo_iff (i := .aload_n 0) (len := 1) (a := 0) (b := 0) (c := 0) (p := 0) rfl
theorem zg_87_27 : Zgo d 87 27 L st S Q ↔ (zpa st False fun r t => zde r 11 False fun o => Zgo d 87 30 L (zi (S.1 11 o 3) :: t) S Q) := Zgo_iff (i := .getfield 127) (len := 3) (a := 11) (b := 3) (c := 0) (p := 4133) rfl
theorem zg_87_30 : Zgo d 87 30 L st S Q ↔ (Zgo d 87 34 L st S Q) := Zgo_iff (i := .goto 4) (len := 3) (a := 0) (b := 0) (c := 0) (p := 0) rfl
theorem zg_87_33 : Zgo d 87 33 L st S Q ↔ (Zgo d 87 34 L (zi 0 :: st) S Q) := Zgo_iff (i := .iconst 0) (len := 1) (a := 0) (b := 0) (c := 0) (p := 0) rfl
theorem zg_87_34 : Zgo d 87 34 L st S Q ↔ (zpi st False fun j t => zpa t False fun r t => znn r False fun q o => zop (zlen S q) False fun n => if n.1 = 0 then zix j n.2 False fun x => Zgo d 87 35 L (zi (S.1 q o x) :: t) S Q else False) := Zgo_iff (i := .iaload) (len := 1) (a := 0) (b := 0) (c := 0) (p := 0) rfl
theorem zg_87_35 : Zgo d 87 35 L st S Q ↔ (Zgo d 87 39 L st S Q) := Zgo_iff (i := .goto 4) (len := 3) (a := 0) (b := 0) (c := 0) (p := 0) rfl
theorem zg_87_38 : Zgo d 87 38 L st S Q ↔ (Zgo d 87 39 L (zi 0 :: st) S Q) := Zgo_iff (i := .iconst 0) (len := 1) (a := 0) (b := 0) (c := 0) (p := 0) rfl
theorem zg_87_39 : Zgo d 87 39 L st S Q ↔ (zpi st False fun x t => zem t False (Q (some (zi x)) S)) := Zgo_iff (i := .ireturn) (len := 1) (a := 0) (b := 0) (c := 0) (p := 0) rfl
/-- LeavingMachineModel.name()I -/
theorem zg_88_0 : Zgo d 88 0 L st S Q ↔ (zlda L 0 False fun r => Zgo d 88 1 L (zq r :: st) S Q) := Zgo_iff (i := .aload_n 0) (len := 1) (a := 0) (b := 0) (c := 0) (p := 0) rfl
theorem zg_88_1 : Zgo d 88 1 L st S Q ↔ (zinv 1 st False fun as t => zrec as 11 False (zCp d 87 as S fun r S2 => Zgo d 88 4 L (r.toList ++ t) S2 Q)) := Zgo_iff (i := .invokevirtual 134) (len := 3) (a := 87) (b := 1) (c := 0) (p := 5084) rfl
theorem zg_88_4 : Zgo d 88 4 L st S Q ↔ (Zgo d 88 6 L (zi 112 :: st) S Q) := Zgo_iff (i := .bipush 112) (len := 2) (a := 0) (b := 0) (c := 0) (p := 0) rfl
theorem zg_88_6 : Zgo d 88 6 L st S Q ↔ (zpi st False fun y t => zpi t False fun x t => Zgo d 88 7 L (zi (x - y) :: t) S Q) := Zgo_iff (i := .isub) (len := 1) (a := 0) (b := 0) (c := 0) (p := 0) rfl
theorem zg_88_7 : Zgo d 88 7 L st S Q ↔ (zpi st False fun x t => Zgo d 88 8 (zst L 1 (some (zi x))) t S Q) := Zgo_iff (i := .istore_n 1) (len := 1) (a := 0) (b := 0) (c := 0) (p := 0) rfl
theorem zg_88_8 : Zgo d 88 8 L st S Q ↔ (zlda L 0 False fun r => Zgo d 88 9 L (zq r :: st) S Q) := Zgo_iff (i := .aload_n 0) (len := 1) (a := 0) (b := 0) (c := 0) (p := 0) rfl
theorem zg_88_9 : Zgo d 88 9 L st S Q ↔ (zlda L 0 False fun r => Zgo d 88 10 L (zq r :: st) S Q) := Zgo_iff (i := .aload_n 0) (len := 1) (a := 0) (b := 0) (c := 0) (p := 0) rfl
theorem zg_88_10 : Zgo d 88 10 L st S Q ↔ (zpa st False fun r t => zde r 11 False fun o => Zgo d 88 13 L (zi (S.1 11 o 4) :: t) S Q) := Zgo_iff (i := .getfield 130) (len := 3) (a := 11) (b := 4) (c := 1) (p := 4134) rfl
theorem zg_88_13 : Zgo d 88 13 L st S Q ↔ (zpi st False fun x t => if zw x = zw 0 then Zgo d 88 16 L t S Q else Zgo d 88 25 L t S Q) := Zgo_iff (i := .ifCond .ne 12) (len := 3) (a := 0) (b := 0) (c := 0) (p := 0) rfl
theorem zg_88_16 : Zgo d 88 16 L st S Q ↔ (zldi L 1 False fun x => Zgo d 88 17 L (zi x :: st) S Q) := Zgo_iff (i := .iload_n 1) (len := 1) (a := 0) (b := 0) (c := 0) (p := 0) rfl
theorem zg_88_17 : Zgo d 88 17 L st S Q ↔ (zpi st False fun x t => if zw x < zw 0 then Zgo d 88 25 L t S Q else Zgo d 88 20 L t S Q) := Zgo_iff (i := .ifCond .lt 8) (len := 3) (a := 0) (b := 0) (c := 0) (p := 0) rfl
theorem zg_88_20 : Zgo d 88 20 L st S Q ↔ (zldi L 1 False fun x => Zgo d 88 21 L (zi x :: st) S Q) := Zgo_iff (i := .iload_n 1) (len := 1) (a := 0) (b := 0) (c := 0) (p := 0) rfl
theorem zg_88_21 : Zgo d 88 21 L st S Q ↔ (Zgo d 88 22 L (zi 2 :: st) S Q) := Zgo_iff (i := .iconst 2) (len := 1) (a := 0) (b := 0) (c := 0) (p := 0) rfl
theorem zg_88_22 : Zgo d 88 22 L st S Q ↔ (zpi st False fun y t => zpi t False fun x t => if zw y < zw x then Zgo d 88 25 L t S Q else Zgo d 88 29 L t S Q) := Zgo_iff (i := .if_icmp .le 7) (len := 3) (a := 0) (b := 0) (c := 0) (p := 0) rfl
theorem zg_88_25 : Zgo d 88 25 L st S Q ↔ (Zgo d 88 26 L (zi 1 :: st) S Q) := Zgo_iff (i := .iconst 1) (len := 1) (a := 0) (b := 0) (c := 0) (p := 0) rfl
theorem zg_88_26 : Zgo d 88 26 L st S Q ↔ (Zgo d 88 30 L st S Q) := Zgo_iff (i := .goto 4) (len := 3) (a := 0) (b := 0) (c := 0) (p := 0) rfl
theorem zg_88_29 : Zgo d 88 29 L st S Q ↔ (Zgo d 88 30 L (zi 0 :: st) S Q) := Zgo_iff (i := .iconst 0) (len := 1) (a := 0) (b := 0) (c := 0) (p := 0) rfl
theorem zg_88_30 : Zgo d 88 30 L st S Q ↔ (zpi st False fun v t => zpa t False fun r t => zde r 11 False fun o => zok 1 v False (Zgo d 88 33 L t (zsI S.1 11 o 4 v, S.2) Q)) := Zgo_iff (i := .putfield 130) (len := 3) (a := 11) (b := 4) (c := 1) (p := 4134) rfl
theorem zg_88_33 : Zgo d 88 33 L st S Q ↔ (zlda L 0 False fun r => Zgo d 88 34 L (zq r :: st) S Q) := Zgo_iff (i := .aload_n 0) (len := 1) (a := 0) (b := 0) (c := 0) (p := 0) rfl
theorem zg_88_34 : Zgo d 88 34 L st S Q ↔ (zp1 st False fun v t => Zgo d 88 35 L (v :: v :: t) S Q) := Zgo_iff (i := .dup) (len := 1) (a := 0) (b := 0) (c := 0) (p := 0) rfl
theorem zg_88_35 : Zgo d 88 35 L st S Q ↔ (zpa st False fun r t => zde r 11 False fun o => Zgo d 88 38 L (zi (S.1 11 o 3) :: t) S Q) := Zgo_iff (i := .getfield 127) (len := 3) (a := 11) (b := 3) (c := 0) (p := 4133) rfl
theorem zg_88_38 : Zgo d 88 38 L st S Q ↔ (Zgo d 88 39 L (zi 1 :: st) S Q) := Zgo_iff (i := .iconst 1) (len := 1) (a := 0) (b := 0) (c := 0) (p := 0) rfl
theorem zg_88_39 : Zgo d 88 39 L st S Q ↔ (zpi st False fun y t => zpi t False fun x t => Zgo d 88 40 L (zi (x + y) :: t) S Q) := Zgo_iff (i := .iadd) (len := 1) (a := 0) (b := 0) (c := 0) (p := 0) rfl
theorem zg_88_40 : Zgo d 88 40 L st S Q ↔ (zpi st False fun v t => zpa t False fun r t => zde r 11 False fun o => Zgo d 88 43 L t (zsI S.1 11 o 3 v, S.2) Q) := Zgo_iff (i := .putfield 127) (len := 3) (a := 11) (b := 3) (c := 0) (p := 4133) rfl
theorem zg_88_43 : Zgo d 88 43 L st S Q ↔ (zldi L 1 False fun x => Zgo d 88 44 L (zi x :: st) S Q) := Zgo_iff (i := .iload_n 1) (len := 1) (a := 0) (b := 0) (c := 0) (p := 0) rfl
theorem zg_88_44 : Zgo d 88 44 L st S Q ↔ (zpi st False fun x t => zem t False (Q (some (zi x)) S)) := Zgo_iff (i := .ireturn) (len := 1) (a := 0) (b := 0) (c := 0) (p := 0) rfl
/-- LeavingMachineModel.isDigit(I)Z -/
theorem zg_89_0 : Zgo d 89 0 L st S Q ↔ (zldi L 0 False fun x => Zgo d 89 1 L (zi x :: st) S Q) := Zgo_iff (i := .iload_n 0) (len := 1) (a := 0) (b := 0) (c := 0) (p := 0) rfl
theorem zg_89_1 : Zgo d 89 1 L st S Q ↔ (Zgo d 89 3 L (zi 48 :: st) S Q) := Zgo_iff (i := .bipush 48) (len := 2) (a := 0) (b := 0) (c := 0) (p := 0) rfl
theorem zg_89_3 : Zgo d 89 3 L st S Q ↔ (zpi st False fun y t => zpi t False fun x t => if zw x < zw y then Zgo d 89 16 L t S Q else Zgo d 89 6 L t S Q) := Zgo_iff (i := .if_icmp .lt 13) (len := 3) (a := 0) (b := 0) (c := 0) (p := 0) rfl
theorem zg_89_6 : Zgo d 89 6 L st S Q ↔ (zldi L 0 False fun x => Zgo d 89 7 L (zi x :: st) S Q) := Zgo_iff (i := .iload_n 0) (len := 1) (a := 0) (b := 0) (c := 0) (p := 0) rfl
theorem zg_89_7 : Zgo d 89 7 L st S Q ↔ (Zgo d 89 9 L (zi 57 :: st) S Q) := Zgo_iff (i := .bipush 57) (len := 2) (a := 0) (b := 0) (c := 0) (p := 0) rfl
theorem zg_89_9 : Zgo d 89 9 L st S Q ↔ (zpi st False fun y t => zpi t False fun x t => if zw y < zw x then Zgo d 89 16 L t S Q else Zgo d 89 12 L t S Q) := Zgo_iff (i := .if_icmp .gt 7) (len := 3) (a := 0) (b := 0) (c := 0) (p := 0) rfl
theorem zg_89_12 : Zgo d 89 12 L st S Q ↔ (Zgo d 89 13 L (zi 1 :: st) S Q) := Zgo_iff (i := .iconst 1) (len := 1) (a := 0) (b := 0) (c := 0) (p := 0) rfl
theorem zg_89_13 : Zgo d 89 13 L st S Q ↔ (Zgo d 89 17 L st S Q) := Zgo_iff (i := .goto 4) (len := 3) (a := 0) (b := 0) (c := 0) (p := 0) rfl
theorem zg_89_16 : Zgo d 89 16 L st S Q ↔ (Zgo d 89 17 L (zi 0 :: st) S Q) := Zgo_iff (i := .iconst 0) (len := 1) (a := 0) (b := 0) (c := 0) (p := 0) rfl
theorem zg_89_17 : Zgo d 89 17 L st S Q ↔ (zpi st False fun x t => zem t False (zok 1 x False (Q (some (zi x)) S))) := Zgo_iff (i := .ireturn) (len := 1) (a := 0) (b := 0) (c := 0) (p := 0) rfl
/-- LeavingMachineModel.tag()I -/
theorem zg_90_0 : Zgo d 90 0 L st S Q ↔ (zlda L 0 False fun r => Zgo d 90 1 L (zq r :: st) S Q) := Zgo_iff (i := .aload_n 0) (len := 1) (a := 0) (b := 0) (c := 0) (p := 0) rfl
theorem zg_90_1 : Zgo d 90 1 L st S Q ↔ (zinv 1 st False fun as t => zrec as 11 False (zCp d 87 as S fun r S2 => Zgo d 90 4 L (r.toList ++ t) S2 Q)) := Zgo_iff (i := .invokevirtual 134) (len := 3) (a := 87) (b := 1) (c := 0) (p := 5084) rfl
theorem zg_90_4 : Zgo d 90 4 L st S Q ↔ (Zgo d 90 6 L (zi 48 :: st) S Q) := Zgo_iff (i := .bipush 48) (len := 2) (a := 0) (b := 0) (c := 0) (p := 0) rfl
theorem zg_90_6 : Zgo d 90 6 L st S Q ↔ (zpi st False fun y t => zpi t False fun x t => Zgo d 90 7 L (zi (x - y) :: t) S Q) := Zgo_iff (i := .isub) (len := 1) (a := 0) (b := 0) (c := 0) (p := 0) rfl
theorem zg_90_7 : Zgo d 90 7 L st S Q ↔ (zpi st False fun x t => Zgo d 90 8 (zst L 1 (some (zi x))) t S Q) := Zgo_iff (i := .istore_n 1) (len := 1) (a := 0) (b := 0) (c := 0) (p := 0) rfl
theorem zg_90_8 : Zgo d 90 8 L st S Q ↔ (zlda L 0 False fun r => Zgo d 90 9 L (zq r :: st) S Q) := Zgo_iff (i := .aload_n 0) (len := 1) (a := 0) (b := 0) (c := 0) (p := 0) rfl
theorem zg_90_9 : Zgo d 90 9 L st S Q ↔ (zlda L 0 False fun r => Zgo d 90 10 L (zq r :: st) S Q) := Zgo_iff (i := .aload_n 0) (len := 1) (a := 0) (b := 0) (c := 0) (p := 0) rfl
theorem zg_90_10 : Zgo d 90 10 L st S Q ↔ (zpa st False fun r t => zde r 11 False fun o => Zgo d 90 13 L (zi (S.1 11 o 4) :: t) S Q) := Zgo_iff (i := .getfield 130) (len := 3) (a := 11) (b := 4) (c := 1) (p := 4134) rfl
theorem zg_90_13 : Zgo d 90 13 L st S Q ↔ (zpi st False fun x t => if zw x = zw 0 then Zgo d 90 16 L t S Q else Zgo d 90 25 L t S Q) := Zgo_iff (i := .ifCond .ne 12) (len := 3) (a := 0) (b := 0) (c := 0) (p := 0) rfl
theorem zg_90_16 : Zgo d 90 16 L st S Q ↔ (zldi L 1 False fun x => Zgo d 90 17 L (zi x :: st) S Q) := Zgo_iff (i := .iload_n 1) (len := 1) (a := 0) (b := 0) (c := 0) (p := 0) rfl
theorem zg_90_17 : Zgo d 90 17 L st S Q ↔ (zpi st False fun x t => if zw x < zw 0 then Zgo d 90 25 L t S Q else Zgo d 90 20 L t S Q) := Zgo_iff (i := .ifCond .lt 8) (len := 3) (a := 0) (b := 0) (c := 0) (p := 0) rfl
theorem zg_90_20 : Zgo d 90 20 L st S Q ↔ (zldi L 1 False fun x => Zgo d 90 21 L (zi x :: st) S Q) := Zgo_iff (i := .iload_n 1) (len := 1) (a := 0) (b := 0) (c := 0) (p := 0) rfl
theorem zg_90_21 : Zgo d 90 21 L st S Q ↔ (Zgo d 90 22 L (zi 4 :: st) S Q) := Zgo_iff (i := .iconst 4) (len := 1) (a := 0) (b := 0) (c := 0) (p := 0) rfl
theorem zg_90_22 : Zgo d 90 22 L st S Q ↔ (zpi st False fun y t => zpi t False fun x t => if zw y < zw x then Zgo d 90 25 L t S Q else Zgo d 90 29 L t S Q) := Zgo_iff (i := .if_icmp .le 7) (len := 3) (a := 0) (b := 0) (c := 0) (p := 0) rfl
theorem zg_90_25 : Zgo d 90 25 L st S Q ↔ (Zgo d 90 26 L (zi 1 :: st) S Q) := Zgo_iff (i := .iconst 1) (len := 1) (a := 0) (b := 0) (c := 0) (p := 0) rfl
theorem zg_90_26 : Zgo d 90 26 L st S Q ↔ (Zgo d 90 30 L st S Q) := Zgo_iff (i := .goto 4) (len := 3) (a := 0) (b := 0) (c := 0) (p := 0) rfl
theorem zg_90_29 : Zgo d 90 29 L st S Q ↔ (Zgo d 90 30 L (zi 0 :: st) S Q) := Zgo_iff (i := .iconst 0) (len := 1) (a := 0) (b := 0) (c := 0) (p := 0) rfl
theorem zg_90_30 : Zgo d 90 30 L st S Q ↔ (zpi st False fun v t => zpa t False fun r t => zde r 11 False fun o => zok 1 v False (Zgo d 90 33 L t (zsI S.1 11 o 4 v, S.2) Q)) := Zgo_iff (i := .putfield 130) (len := 3) (a := 11) (b := 4) (c := 1) (p := 4134) rfl
theorem zg_90_33 : Zgo d 90 33 L st S Q ↔ (zlda L 0 False fun r => Zgo d 90 34 L (zq r :: st) S Q) := Zgo_iff (i := .aload_n 0) (len := 1) (a := 0) (b := 0) (c := 0) (p := 0) rfl
theorem zg_90_34 : Zgo d 90 34 L st S Q ↔ (zp1 st False fun v t => Zgo d 90 35 L (v :: v :: t) S Q) := Zgo_iff (i := .dup) (len := 1) (a := 0) (b := 0) (c := 0) (p := 0) rfl
theorem zg_90_35 : Zgo d 90 35 L st S Q ↔ (zpa st False fun r t => zde r 11 False fun o => Zgo d 90 38 L (zi (S.1 11 o 3) :: t) S Q) := Zgo_iff (i := .getfield 127) (len := 3) (a := 11) (b := 3) (c := 0) (p := 4133) rfl
theorem zg_90_38 : Zgo d 90 38 L st S Q ↔ (Zgo d 90 39 L (zi 1 :: st) S Q) := Zgo_iff (i := .iconst 1) (len := 1) (a := 0) (b := 0) (c := 0) (p := 0) rfl
theorem zg_90_39 : Zgo d 90 39 L st S Q ↔ (zpi st False fun y t => zpi t False fun x t => Zgo d 90 40 L (zi (x + y) :: t) S Q) := Zgo_iff (i := .iadd) (len := 1) (a := 0) (b := 0) (c := 0) (p := 0) rfl
theorem zg_90_40 : Zgo d 90 40 L st S Q ↔ (zpi st False fun v t => zpa t False fun r t => zde r 11 False fun o => Zgo d 90 43 L t (zsI S.1 11 o 3 v, S.2) Q) := Zgo_iff (i := .putfield 127) (len := 3) (a := 11) (b := 3) (c := 0) (p := 4133) rfl
theorem zg_90_43 : Zgo d 90 43 L st S Q ↔ (zldi L 1 False fun x => Zgo d 90 44 L (zi x :: st) S Q) := Zgo_iff (i := .iload_n 1) (len := 1) (a := 0) (b := 0) (c := 0) (p := 0) rfl
theorem zg_90_44 : Zgo d 90 44 L st S Q ↔ (zpi st False fun x t => zem t False (Q (some (zi x)) S)) := Zgo_iff (i := .ireturn) (len := 1) (a := 0) (b := 0) (c := 0) (p := 0) rfl
/-- LeavingMachineModel.block()I -/
theorem zg_91_0 : Zgo d 91 0 L st S Q ↔ (zlda L 0 False fun r => Zgo d 91 1 L (zq r :: st) S Q) := Zgo_iff (i := .aload_n 0) (len := 1) (a := 0) (b := 0) (c := 0) (p := 0) rfl
theorem zg_91_1 : Zgo d 91 1 L st S Q ↔ (Zgo d 91 2 L (zi (-1) :: st) S Q) := Zgo_iff (i := .iconst (-1)) (len := 1) (a := 0) (b := 0) (c := 0) (p := 0) rfl
theorem zg_91_2 : Zgo d 91 2 L st S Q ↔ (Zgo d 91 3 L (zi 0 :: st) S Q) := Zgo_iff (i := .iconst 0) (len := 1) (a := 0) (b := 0) (c := 0) (p := 0) rfl
theorem zg_91_3 : Zgo d 91 3 L st S Q ↔ (zinv 3 st False fun as t => zrec as 11 False (zCp d 92 as S fun r S2 => Zgo d 91 6 L (r.toList ++ t) S2 Q)) := Zgo_iff (i := .invokevirtual 180) (len := 3) (a := 92) (b := 3) (c := 0) (p := 5103) rfl
theorem zg_91_6 : Zgo d 91 6 L st S Q ↔ (zpi st False fun x t => Zgo d 91 7 (zst L 1 (some (zi x))) t S Q) := Zgo_iff (i := .istore_n 1) (len := 1) (a := 0) (b := 0) (c := 0) (p := 0) rfl
theorem zg_91_7 : Zgo d 91 7 L st S Q ↔ (Zgo d 91 8 L (zi 1 :: st) S Q) := Zgo_iff (i := .iconst 1) (len := 1) (a := 0) (b := 0) (c := 0) (p := 0) rfl
theorem zg_91_8 : Zgo d 91 8 L st S Q ↔ (zpi st False fun x t => Zgo d 91 9 (zst L 2 (some (zi x))) t S Q) := Zgo_iff (i := .istore_n 2) (len := 1) (a := 0) (b := 0) (c := 0) (p := 0) rfl
theorem zg_91_9 : Zgo d 91 9 L st S Q ↔ (zlda L 0 False fun r => Zgo d 91 10 L (zq r :: st) S Q) := Zgo_iff (i := .aload_n 0) (len := 1) (a := 0) (b := 0) (c := 0) (p := 0) rfl
theorem zg_91_10 : Zgo d 91 10 L st S Q ↔ (zpa st False fun r t => zde r 11 False fun o => Zgo d 91 13 L (zq (S.2.1 11 o 31) :: t) S Q) := Zgo_iff (i := .getfield 76) (len := 3) (a := 11) (b := 31) (c := 3) (p := 4161) rfl
theorem zg_91_13 : Zgo d 91 13 L st S Q ↔ (Zgo d 91 14 L (zi 1 :: st) S Q) := Zgo_iff (i := .iconst 1) (len := 1) (a := 0) (b := 0) (c := 0) (p := 0) rfl
theorem zg_91_14 : Zgo d 91 14 L st S Q ↔ (zldi L 1 False fun x => Zgo d 91 15 L (zi x :: st) S Q) := Zgo_iff (i := .iload_n 1) (len := 1) (a := 0) (b := 0) (c := 0) (p := 0) rfl
theorem zg_91_15 : Zgo d 91 15 L st S Q ↔ (zpi st False fun v t => zpi t False fun j t => zpa t False fun r t => znn r False fun q o => zop (zArr q) False fun n => if n.1 = 0 then zix j n.2 False fun x => Zgo d 91 16 L t (zsI S.1 q o x v, S.2) Q else False) := Zgo_iff (i := .iastore) (len := 1) (a := 0) (b := 0) (c := 0) (p := 0) rfl
theorem zg_91_16 : Zgo d 91 16 L st S Q ↔ (zldi L 2 False fun x => Zgo d 91 17 L (zi x :: st) S Q) := Zgo_iff (i := .iload_n 2) (len := 1) (a := 0) (b := 0) (c := 0) (p := 0) rfl
theorem zg_91_17 : Zgo d 91 17 L st S Q ↔ (zpi st False fun x t => if zw 0 < zw x then Zgo d 91 20 L t S Q else Zgo d 91 162 L t S Q) := Zgo_iff (i := .ifCond .le 145) (len := 3) (a := 0) (b := 0) (c := 0) (p := 0) rfl
theorem zg_91_20 : Zgo d 91 20 L st S Q ↔ (zlda L 0 False fun r => Zgo d 91 21 L (zq r :: st) S Q) := Zgo_iff (i := .aload_n 0) (len := 1) (a := 0) (b := 0) (c := 0) (p := 0) rfl
theorem zg_91_21 : Zgo d 91 21 L st S Q ↔ (zpa st False fun r t => zde r 11 False fun o => Zgo d 91 24 L (zi (S.1 11 o 4) :: t) S Q) := Zgo_iff (i := .getfield 130) (len := 3) (a := 11) (b := 4) (c := 1) (p := 4134) rfl
theorem zg_91_24 : Zgo d 91 24 L st S Q ↔ (zpi st False fun x t => if zw x = zw 0 then Zgo d 91 27 L t S Q else Zgo d 91 162 L t S Q) := Zgo_iff (i := .ifCond .ne 138) (len := 3) (a := 0) (b := 0) (c := 0) (p := 0) rfl
theorem zg_91_27 : Zgo d 91 27 L st S Q ↔ (zlda L 0 False fun r => Zgo d 91 28 L (zq r :: st) S Q) := Zgo_iff (i := .aload_n 0) (len := 1) (a := 0) (b := 0) (c := 0) (p := 0) rfl
theorem zg_91_28 : Zgo d 91 28 L st S Q ↔ (zpa st False fun r t => zde r 11 False fun o => Zgo d 91 31 L (zq (S.2.1 11 o 31) :: t) S Q) := Zgo_iff (i := .getfield 76) (len := 3) (a := 11) (b := 31) (c := 3) (p := 4161) rfl
theorem zg_91_31 : Zgo d 91 31 L st S Q ↔ (zldi L 2 False fun x => Zgo d 91 32 L (zi x :: st) S Q) := Zgo_iff (i := .iload_n 2) (len := 1) (a := 0) (b := 0) (c := 0) (p := 0) rfl
theorem zg_91_32 : Zgo d 91 32 L st S Q ↔ (zpi st False fun j t => zpa t False fun r t => znn r False fun q o => zop (zlen S q) False fun n => if n.1 = 0 then zix j n.2 False fun x => Zgo d 91 33 L (zi (S.1 q o x) :: t) S Q else False) := Zgo_iff (i := .iaload) (len := 1) (a := 0) (b := 0) (c := 0) (p := 0) rfl
theorem zg_91_33 : Zgo d 91 33 L st S Q ↔ (zpi st False fun x t => Zgo d 91 34 (zst L 3 (some (zi x))) t S Q) := Zgo_iff (i := .istore_n 3) (len := 1) (a := 0) (b := 0) (c := 0) (p := 0) rfl
theorem zg_91_34 : Zgo d 91 34 L st S Q ↔ (zlda L 0 False fun r => Zgo d 91 35 L (zq r :: st) S Q) := Zgo_iff (i := .aload_n 0) (len := 1) (a := 0) (b := 0) (c := 0) (p := 0) rfl
theorem zg_91_35 : Zgo d 91 35 L st S Q ↔ (zinv 1 st False fun as t => zrec as 11 False (zCp d 87 as S fun r S2 => Zgo d 91 38 L (r.toList ++ t) S2 Q)) := Zgo_iff (i := .invokevirtual 134) (len := 3) (a := 87) (b := 1) (c := 0) (p := 5084) rfl
theorem zg_91_38 : Zgo d 91 38 L st S Q ↔ (zpi st False fun x t => Zgo d 91 40 (zst L 4 (some (zi x))) t S Q) := Zgo_iff (i := .istore 4) (len := 2) (a := 0) (b := 0) (c := 0) (p := 0) rfl
theorem zg_91_40 : Zgo d 91 40 L st S Q ↔ (zlda L 0 False fun r => Zgo d 91 41 L (zq r :: st) S Q) := Zgo_iff (i := .aload_n 0) (len := 1) (a := 0) (b := 0) (c := 0) (p := 0) rfl
theorem zg_91_41 : Zgo d 91 41 L st S Q ↔ (zpa st False fun r t => zde r 11 False fun o => Zgo d 91 44 L (zq (S.2.1 11 o 25) :: t) S Q) := Zgo_iff (i := .getfield 61) (len := 3) (a := 11) (b := 25) (c := 3) (p := 4155) rfl
theorem zg_91_44 : Zgo d 91 44 L st S Q ↔ (zldi L 3 False fun x => Zgo d 91 45 L (zi x :: st) S Q) := Zgo_iff (i := .iload_n 3) (len := 1) (a := 0) (b := 0) (c := 0) (p := 0) rfl
theorem zg_91_45 : Zgo d 91 45 L st S Q ↔ (zpi st False fun j t => zpa t False fun r t => znn r False fun q o => zop (zlen S q) False fun n => if n.1 = 0 then zix j n.2 False fun x => Zgo d 91 46 L (zi (S.1 q o x) :: t) S Q else False) := Zgo_iff (i := .iaload) (len := 1) (a := 0) (b := 0) (c := 0) (p := 0) rfl
theorem zg_91_46 : Zgo d 91 46 L st S Q ↔ (zpi st False fun x t => Zgo d 91 48 (zst L 5 (some (zi x))) t S Q) := Zgo_iff (i := .istore 5) (len := 2) (a := 0) (b := 0) (c := 0) (p := 0) rfl
theorem zg_91_48 : Zgo d 91 48 L st S Q ↔ (Zgo d 91 49 L (zi (-1) :: st) S Q) := Zgo_iff (i := .iconst (-1)) (len := 1) (a := 0) (b := 0) (c := 0) (p := 0) rfl
theorem zg_91_49 : Zgo d 91 49 L st S Q ↔ (zpi st False fun x t => Zgo d 91 51 (zst L 6 (some (zi x))) t S Q) := Zgo_iff (i := .istore 6) (len := 2) (a := 0) (b := 0) (c := 0) (p := 0) rfl
theorem zg_91_51 : Zgo d 91 51 L st S Q ↔ (zlda L 0 False fun r => Zgo d 91 52 L (zq r :: st) S Q) := Zgo_iff (i := .aload_n 0) (len := 1) (a := 0) (b := 0) (c := 0) (p := 0) rfl
theorem zg_91_52 : Zgo d 91 52 L st S Q ↔ (zp1 st False fun v t => Zgo d 91 53 L (v :: v :: t) S Q) := Zgo_iff (i := .dup) (len := 1) (a := 0) (b := 0) (c := 0) (p := 0) rfl
theorem zg_91_53 : Zgo d 91 53 L st S Q ↔ (zpa st False fun r t => zde r 11 False fun o => Zgo d 91 56 L (zi (S.1 11 o 3) :: t) S Q) := Zgo_iff (i := .getfield 127) (len := 3) (a := 11) (b := 3) (c := 0) (p := 4133) rfl
theorem zg_91_56 : Zgo d 91 56 L st S Q ↔ (Zgo d 91 57 L (zi 1 :: st) S Q) := Zgo_iff (i := .iconst 1) (len := 1) (a := 0) (b := 0) (c := 0) (p := 0) rfl
theorem zg_91_57 : Zgo d 91 57 L st S Q ↔ (zpi st False fun y t => zpi t False fun x t => Zgo d 91 58 L (zi (x + y) :: t) S Q) := Zgo_iff (i := .iadd) (len := 1) (a := 0) (b := 0) (c := 0) (p := 0) rfl
theorem zg_91_58 : Zgo d 91 58 L st S Q ↔ (zpi st False fun v t => zpa t False fun r t => zde r 11 False fun o => Zgo d 91 61 L t (zsI S.1 11 o 3 v, S.2) Q) := Zgo_iff (i := .putfield 127) (len := 3) (a := 11) (b := 3) (c := 0) (p := 4133) rfl
theorem zg_91_61 : Zgo d 91 61 L st S Q ↔ (zldi L 4 False fun x => Zgo d 91 63 L (zi x :: st) S Q) := Zgo_iff (i := .iload 4) (len := 2) (a := 0) (b := 0) (c := 0) (p := 0) rfl
theorem zg_91_63 : Zgo d 91 63 L st S Q ↔ (Zgo d 91 65 L (zi 125 :: st) S Q) := Zgo_iff (i := .bipush 125) (len := 2) (a := 0) (b := 0) (c := 0) (p := 0) rfl
theorem zg_91_65 : Zgo d 91 65 L st S Q ↔ (zpi st False fun y t => zpi t False fun x t => if zw x = zw y then Zgo d 91 68 L t S Q else Zgo d 91 97 L t S Q) := Zgo_iff (i := .if_icmp .ne 32) (len := 3) (a := 0) (b := 0) (c := 0) (p := 0) rfl
theorem zg_91_68 : Zgo d 91 68 L st S Q ↔ (zldi L 2 False fun x => Zgo d 91 71 (zst L 2 (some (zi (x + (-1))))) st S Q) := Zgo_iff (i := .iinc 2 (-1)) (len := 3) (a := 0) (b := 0) (c := 0) (p := 0) rfl
theorem zg_91_71 : Zgo d 91 71 L st S Q ↔ (zldi L 5 False fun x => Zgo d 91 73 L (zi x :: st) S Q) := Zgo_iff (i := .iload 5) (len := 2) (a := 0) (b := 0) (c := 0) (p := 0) rfl
theorem zg_91_73 : Zgo d 91 73 L st S Q ↔ (zpi st False fun x t => if zw x < zw 0 then Zgo d 91 76 L t S Q else Zgo d 91 80 L t S Q) := Zgo_iff (i := .ifCond .ge 7) (len := 3) (a := 0) (b := 0) (c := 0) (p := 0) rfl
theorem zg_91_76 : Zgo d 91 76 L st S Q ↔ (Zgo d 91 77 L (zi (-1) :: st) S Q) := Zgo_iff (i := .iconst (-1)) (len := 1) (a := 0) (b := 0) (c := 0) (p := 0) rfl
theorem zg_91_77 : Zgo d 91 77 L st S Q ↔ (Zgo d 91 92 L st S Q) := Zgo_iff (i := .goto 15) (len := 3) (a := 0) (b := 0) (c := 0) (p := 0) rfl
theorem zg_91_80 : Zgo d 91 80 L st S Q ↔ (zlda L 0 False fun r => Zgo d 91 81 L (zq r :: st) S Q) := Zgo_iff (i := .aload_n 0) (len := 1) (a := 0) (b := 0) (c := 0) (p := 0) rfl
theorem zg_91_81 : Zgo d 91 81 L st S Q ↔ (zldi L 5 False fun x => Zgo d 91 83 L (zi x :: st) S Q) := Zgo_iff (i := .iload 5) (len := 2) (a := 0) (b := 0) (c := 0) (p := 0) rfl
theorem zg_91_83 : Zgo d 91 83 L st S Q ↔ (zlda L 0 False fun r => Zgo d 91 84 L (zq r :: st) S Q) := Zgo_iff (i := .aload_n 0) (len := 1) (a := 0) (b := 0) (c := 0) (p := 0) rfl
theorem zg_91_84 : Zgo d 91 84 L st S Q ↔ (zpa st False fun r t => zde r 11 False fun o => Zgo d 91 87 L (zq (S.2.1 11 o 26) :: t) S Q) := Zgo_iff (i := .getfield 64) (len := 3) (a := 11) (b := 26) (c := 3) (p := 4156) rfl
theorem zg_91_87 : Zgo d 91 87 L st S Q ↔ (zldi L 3 False fun x => Zgo d 91 88 L (zi x :: st) S Q) := Zgo_iff (i := .iload_n 3) (len := 1) (a := 0) (b := 0) (c := 0) (p := 0) rfl
theorem zg_91_88 : Zgo d 91 88 L st S Q ↔ (zpi st False fun j t => zpa t False fun r t => znn r False fun q o => zop (zlen S q) False fun n => if n.1 = 0 then zix j n.2 False fun x => Zgo d 91 89 L (zi (S.1 q o x) :: t) S Q else False) := Zgo_iff (i := .iaload) (len := 1) (a := 0) (b := 0) (c := 0) (p := 0) rfl
theorem zg_91_89 : Zgo d 91 89 L st S Q ↔ (zinv 3 st False fun as t => zrec as 11 False (zCp d 94 as S fun r S2 => Zgo d 91 92 L (r.toList ++ t) S2 Q)) := Zgo_iff (i := .invokevirtual 184) (len := 3) (a := 94) (b := 3) (c := 0) (p := 5111) rfl
theorem zg_91_92 : Zgo d 91 92 L st S Q ↔ (zpi st False fun x t => Zgo d 91 94 (zst L 6 (some (zi x))) t S Q) := Zgo_iff (i := .istore 6) (len := 2) (a := 0) (b := 0) (c := 0) (p := 0) rfl
theorem zg_91_94 : Zgo d 91 94 L st S Q ↔ (Zgo d 91 116 L st S Q) := Zgo_iff (i := .goto 22) (len := 3) (a := 0) (b := 0) (c := 0) (p := 0) rfl
theorem zg_91_97 : Zgo d 91 97 L st S Q ↔ (zlda L 0 False fun r => Zgo d 91 98 L (zq r :: st) S Q) := Zgo_iff (i := .aload_n 0) (len := 1) (a := 0) (b := 0) (c := 0) (p := 0) rfl
theorem zg_91_98 : Zgo d 91 98 L st S Q ↔ (zldi L 3 False fun x => Zgo d 91 99 L (zi x :: st) S Q) := Zgo_iff (i := .iload_n 3) (len := 1) (a := 0) (b := 0) (c := 0) (p := 0) rfl
theorem zg_91_99 : Zgo d 91 99 L st S Q ↔ (zldi L 4 False fun x => Zgo d 91 101 L (zi x :: st) S Q) := Zgo_iff (i := .iload 4) (len := 2) (a := 0) (b := 0) (c := 0) (p := 0) rfl
theorem zg_91_101 : Zgo d 91 101 L st S Q ↔ (zinv 3 st False fun as t => zrec as 11 False (zCp d 96 as S fun r S2 => Zgo d 91 104 L (r.toList ++ t) S2 Q)) := Zgo_iff (i := .invokevirtual 187) (len := 3) (a := 96) (b := 3) (c := 0) (p := 5119) rfl
theorem zg_91_104 : Zgo d 91 104 L st S Q ↔ (zpi st False fun x t => Zgo d 91 106 (zst L 5 (some (zi x))) t S Q) := Zgo_iff (i := .istore 5) (len := 2) (a := 0) (b := 0) (c := 0) (p := 0) rfl
theorem zg_91_106 : Zgo d 91 106 L st S Q ↔ (zlda L 0 False fun r => Zgo d 91 107 L (zq r :: st) S Q) := Zgo_iff (i := .aload_n 0) (len := 1) (a := 0) (b := 0) (c := 0) (p := 0) rfl
theorem zg_91_107 : Zgo d 91 107 L st S Q ↔ (zldi L 5 False fun x => Zgo d 91 109 L (zi x :: st) S Q) := Zgo_iff (i := .iload 5) (len := 2) (a := 0) (b := 0) (c := 0) (p := 0) rfl
theorem zg_91_109 : Zgo d 91 109 L st S Q ↔ (zldi L 4 False fun x => Zgo d 91 111 L (zi x :: st) S Q) := Zgo_iff (i := .iload 4) (len := 2) (a := 0) (b := 0) (c := 0) (p := 0) rfl
theorem zg_91_111 : Zgo d 91 111 L st S Q ↔ (zinv 3 st False fun as t => zrec as 11 False (zCp d 97 as S fun r S2 => Zgo d 91 114 L (r.toList ++ t) S2 Q)) := Zgo_iff (i := .invokevirtual 190) (len := 3) (a := 97) (b := 3) (c := 0) (p := 5123) rfl
theorem zg_91_114 : Zgo d 91 114 L st S Q ↔ (zpi st False fun x t => Zgo d 91 116 (zst L 6 (some (zi x))) t S Q) := Zgo_iff (i := .istore 6) (len := 2) (a := 0) (b := 0) (c := 0) (p := 0) rfl
theorem zg_91_116 : Zgo d 91 116 L st S Q ↔ (zldi L 6 False fun x => Zgo d 91 118 L (zi x :: st) S Q) := Zgo_iff (i := .iload 6) (len := 2) (a := 0) (b := 0) (c := 0) (p := 0) rfl
theorem zg_91_118 : Zgo d 91 118 L st S Q ↔ (zpi st False fun x t => if zw x < zw 0 then Zgo d 91 159 L t S Q else Zgo d 91 121 L t S Q) := Zgo_iff (i := .ifCond .lt 41) (len := 3) (a := 0) (b := 0) (c := 0) (p := 0) rfl
theorem zg_91_121 : Zgo d 91 121 L st S Q ↔ (zlda L 0 False fun r => Zgo d 91 122 L (zq r :: st) S Q) := Zgo_iff (i := .aload_n 0) (len := 1) (a := 0) (b := 0) (c := 0) (p := 0) rfl
theorem zg_91_122 : Zgo d 91 122 L st S Q ↔ (zpa st False fun r t => zde r 11 False fun o => Zgo d 91 125 L (zi (S.1 11 o 4) :: t) S Q) := Zgo_iff (i := .getfield 130) (len := 3) (a := 11) (b := 4) (c := 1) (p := 4134) rfl
theorem zg_91_125 : Zgo d 91 125 L st S Q ↔ (zpi st False fun x t => if zw x = zw 0 then Zgo d 91 128 L t S Q else Zgo d 91 159 L t S Q) := Zgo_iff (i := .ifCond .ne 34) (len := 3) (a := 0) (b := 0) (c := 0) (p := 0) rfl
theorem zg_91_128 : Zgo d 91 128 L st S Q ↔ (zldi L 2 False fun x => Zgo d 91 131 (zst L 2 (some (zi (x + 1)))) st S Q) := Zgo_iff (i := .iinc 2 1) (len := 3) (a := 0) (b := 0) (c := 0) (p := 0) rfl
theorem zg_91_131 : Zgo d 91 131 L st S Q ↔ (zlda L 0 False fun r => Zgo d 91 132 L (zq r :: st) S Q) := Zgo_iff (i := .aload_n 0) (len := 1) (a := 0) (b := 0) (c := 0) (p := 0) rfl
theorem zg_91_132 : Zgo d 91 132 L st S Q ↔ (zldi L 2 False fun x => Zgo d 91 133 L (zi x :: st) S Q) := Zgo_iff (i := .iload_n 2) (len := 1) (a := 0) (b := 0) (c := 0) (p := 0) rfl
theorem zg_91_133 : Zgo d 91 133 L st S Q ↔ (Zgo d 91 134 L (zi 4 :: st) S Q) := Zgo_iff (i := .iconst 4) (len := 1) (a := 0) (b := 0) (c := 0) (p := 0) rfl
theorem zg_91_134 : Zgo d 91 134 L st S Q ↔ (zpi st False fun y t => zpi t False fun x t => if zw y < zw x then Zgo d 91 137 L t S Q else Zgo d 91 141 L t S Q) := Zgo_iff (i := .if_icmp .le 7) (len := 3) (a := 0) (b := 0) (c := 0) (p := 0) rfl
theorem zg_91_137 : Zgo d 91 137 L st S Q ↔ (Zgo d 91 138 L (zi 1 :: st) S Q) := Zgo_iff (i := .iconst 1) (len := 1) (a := 0) (b := 0) (c := 0) (p := 0) rfl
theorem zg_91_138 : Zgo d 91 138 L st S Q ↔ (Zgo d 91 142 L st S Q) := Zgo_iff (i := .goto 4) (len := 3) (a := 0) (b := 0) (c := 0) (p := 0) rfl
theorem zg_91_141 : Zgo d 91 141 L st S Q ↔ (Zgo d 91 142 L (zi 0 :: st) S Q) := Zgo_iff (i := .iconst 0) (len := 1) (a := 0) (b := 0) (c := 0) (p := 0) rfl
theorem zg_91_142 : Zgo d 91 142 L st S Q ↔ (zpi st False fun v t => zpa t False fun r t => zde r 11 False fun o => zok 1 v False (Zgo d 91 145 L t (zsI S.1 11 o 4 v, S.2) Q)) := Zgo_iff (i := .putfield 130) (len := 3) (a := 11) (b := 4) (c := 1) (p := 4134) rfl
theorem zg_91_145 : Zgo d 91 145 L st S Q ↔ (zlda L 0 False fun r => Zgo d 91 146 L (zq r :: st) S Q) := Zgo_iff (i := .aload_n 0) (len := 1) (a := 0) (b := 0) (c := 0) (p := 0) rfl
theorem zg_91_146 : Zgo d 91 146 L st S Q ↔ (zpa st False fun r t => zde r 11 False fun o => Zgo d 91 149 L (zq (S.2.1 11 o 31) :: t) S Q) := Zgo_iff (i := .getfield 76) (len := 3) (a := 11) (b := 31) (c := 3) (p := 4161) rfl
theorem zg_91_149 : Zgo d 91 149 L st S Q ↔ (zldi L 2 False fun x => Zgo d 91 150 L (zi x :: st) S Q) := Zgo_iff (i := .iload_n 2) (len := 1) (a := 0) (b := 0) (c := 0) (p := 0) rfl
theorem zg_91_150 : Zgo d 91 150 L st S Q ↔ (zlda L 0 False fun r => Zgo d 91 151 L (zq r :: st) S Q) := Zgo_iff (i := .aload_n 0) (len := 1) (a := 0) (b := 0) (c := 0) (p := 0) rfl
theorem zg_91_151 : Zgo d 91 151 L st S Q ↔ (zldi L 5 False fun x => Zgo d 91 153 L (zi x :: st) S Q) := Zgo_iff (i := .iload 5) (len := 2) (a := 0) (b := 0) (c := 0) (p := 0) rfl
theorem zg_91_153 : Zgo d 91 153 L st S Q ↔ (zldi L 6 False fun x => Zgo d 91 155 L (zi x :: st) S Q) := Zgo_iff (i := .iload 6) (len := 2) (a := 0) (b := 0) (c := 0) (p := 0) rfl
theorem zg_91_155 : Zgo d 91 155 L st S Q ↔ (zinv 3 st False fun as t => zrec as 11 False (zCp d 92 as S fun r S2 => Zgo d 91 158 L (r.toList ++ t) S2 Q)) := Zgo_iff (i := .invokevirtual 180) (len := 3) (a := 92) (b := 3) (c := 0) (p := 5103) rfl
theorem zg_91_158 : Zgo d 91 158 L st S Q ↔ (zpi st False fun v t => zpi t False fun j t => zpa t False fun r t => znn r False fun q o => zop (zArr q) False fun n => if n.1 = 0 then zix j n.2 False fun x => Zgo d 91 159 L t (zsI S.1 q o x v, S.2) Q else False) := Zgo_iff (i := .iastore) (len := 1) (a := 0) (b := 0) (c := 0) (p := 0) rfl
theorem zg_91_159 : Zgo d 91 159 L st S Q ↔ (Zgo d 91 16 L st S Q) := Zgo_iff (i := .goto (-143)) (len := 3) (a := 0) (b := 0) (c := 0) (p := 0) rfl
theorem zg_91_162 : Zgo d 91 162 L st S Q ↔ (zldi L 1 False fun x => Zgo d 91 163 L (zi x :: st) S Q) := Zgo_iff (i := .iload_n 1) (len := 1) (a := 0) (b := 0) (c := 0) (p := 0) rfl
theorem zg_91_163 : Zgo d 91 163 L st S Q ↔ (zpi st False fun x t => zem t False (Q (some (zi x)) S)) := Zgo_iff (i := .ireturn) (len := 1) (a := 0) (b := 0) (c := 0) (p := 0) rfl
/-- LeavingMachineModel.newBlock(II)I -/
theorem zg_92_0 : Zgo d 92 0 L st S Q ↔ (zlda L 0 False fun r => Zgo d 92 1 L (zq r :: st) S Q) := Zgo_iff (i := .aload_n 0) (len := 1) (a := 0) (b := 0) (c := 0) (p := 0) rfl
theorem zg_92_1 : Zgo d 92 1 L st S Q ↔ (Zgo d 92 3 L (zi 123 :: st) S Q) := Zgo_iff (i := .bipush 123) (len := 2) (a := 0) (b := 0) (c := 0) (p := 0) rfl
theorem zg_92_3 : Zgo d 92 3 L st S Q ↔ (zinv 2 st False fun as t => zrec as 11 False (zCp d 93 as S fun r S2 => Zgo d 92 6 L (r.toList ++ t) S2 Q)) := Zgo_iff (i := .invokevirtual 162) (len := 3) (a := 93) (b := 2) (c := 0) (p := 5107) rfl
theorem zg_92_6 : Zgo d 92 6 L st S Q ↔ (zlda L 0 False fun r => Zgo d 92 7 L (zq r :: st) S Q) := Zgo_iff (i := .aload_n 0) (len := 1) (a := 0) (b := 0) (c := 0) (p := 0) rfl
theorem zg_92_7 : Zgo d 92 7 L st S Q ↔ (zpa st False fun r t => zde r 11 False fun o => Zgo d 92 10 L (zi (S.1 11 o 22) :: t) S Q) := Zgo_iff (i := .getfield 165) (len := 3) (a := 11) (b := 22) (c := 0) (p := 4152) rfl
theorem zg_92_10 : Zgo d 92 10 L st S Q ↔ (zpi st False fun x t => Zgo d 92 11 (zst L 3 (some (zi x))) t S Q) := Zgo_iff (i := .istore_n 3) (len := 1) (a := 0) (b := 0) (c := 0) (p := 0) rfl
theorem zg_92_11 : Zgo d 92 11 L st S Q ↔ (zlda L 0 False fun r => Zgo d 92 12 L (zq r :: st) S Q) := Zgo_iff (i := .aload_n 0) (len := 1) (a := 0) (b := 0) (c := 0) (p := 0) rfl
theorem zg_92_12 : Zgo d 92 12 L st S Q ↔ (zpa st False fun r t => zde r 11 False fun o => Zgo d 92 15 L (zi (S.1 11 o 22) :: t) S Q) := Zgo_iff (i := .getfield 165) (len := 3) (a := 11) (b := 22) (c := 0) (p := 4152) rfl
theorem zg_92_15 : Zgo d 92 15 L st S Q ↔ (Zgo d 92 18 L (zi 159 :: st) S Q) := Zgo_iff (i := .sipush 159) (len := 3) (a := 0) (b := 0) (c := 0) (p := 0) rfl
theorem zg_92_18 : Zgo d 92 18 L st S Q ↔ (zpi st False fun y t => zpi t False fun x t => if zw x < zw y then Zgo d 92 21 L t S Q else Zgo d 92 31 L t S Q) := Zgo_iff (i := .if_icmp .ge 13) (len := 3) (a := 0) (b := 0) (c := 0) (p := 0) rfl
theorem zg_92_21 : Zgo d 92 21 L st S Q ↔ (zlda L 0 False fun r => Zgo d 92 22 L (zq r :: st) S Q) := Zgo_iff (i := .aload_n 0) (len := 1) (a := 0) (b := 0) (c := 0) (p := 0) rfl
theorem zg_92_22 : Zgo d 92 22 L st S Q ↔ (zp1 st False fun v t => Zgo d 92 23 L (v :: v :: t) S Q) := Zgo_iff (i := .dup) (len := 1) (a := 0) (b := 0) (c := 0) (p := 0) rfl
theorem zg_92_23 : Zgo d 92 23 L st S Q ↔ (zpa st False fun r t => zde r 11 False fun o => Zgo d 92 26 L (zi (S.1 11 o 22) :: t) S Q) := Zgo_iff (i := .getfield 165) (len := 3) (a := 11) (b := 22) (c := 0) (p := 4152) rfl
theorem zg_92_26 : Zgo d 92 26 L st S Q ↔ (Zgo d 92 27 L (zi 1 :: st) S Q) := Zgo_iff (i := .iconst 1) (len := 1) (a := 0) (b := 0) (c := 0) (p := 0) rfl
theorem zg_92_27 : Zgo d 92 27 L st S Q ↔ (zpi st False fun y t => zpi t False fun x t => Zgo d 92 28 L (zi (x + y) :: t) S Q) := Zgo_iff (i := .iadd) (len := 1) (a := 0) (b := 0) (c := 0) (p := 0) rfl
theorem zg_92_28 : Zgo d 92 28 L st S Q ↔ (zpi st False fun v t => zpa t False fun r t => zde r 11 False fun o => Zgo d 92 31 L t (zsI S.1 11 o 22 v, S.2) Q) := Zgo_iff (i := .putfield 165) (len := 3) (a := 11) (b := 22) (c := 0) (p := 4152) rfl
theorem zg_92_31 : Zgo d 92 31 L st S Q ↔ (zlda L 0 False fun r => Zgo d 92 32 L (zq r :: st) S Q) := Zgo_iff (i := .aload_n 0) (len := 1) (a := 0) (b := 0) (c := 0) (p := 0) rfl
theorem zg_92_32 : Zgo d 92 32 L st S Q ↔ (zpa st False fun r t => zde r 11 False fun o => Zgo d 92 35 L (zq (S.2.1 11 o 23) :: t) S Q) := Zgo_iff (i := .getfield 55) (len := 3) (a := 11) (b := 23) (c := 3) (p := 4153) rfl
theorem zg_92_35 : Zgo d 92 35 L st S Q ↔ (zldi L 3 False fun x => Zgo d 92 36 L (zi x :: st) S Q) := Zgo_iff (i := .iload_n 3) (len := 1) (a := 0) (b := 0) (c := 0) (p := 0) rfl
theorem zg_92_36 : Zgo d 92 36 L st S Q ↔ (Zgo d 92 37 L (zi (-1) :: st) S Q) := Zgo_iff (i := .iconst (-1)) (len := 1) (a := 0) (b := 0) (c := 0) (p := 0) rfl
theorem zg_92_37 : Zgo d 92 37 L st S Q ↔ (zpi st False fun v t => zpi t False fun j t => zpa t False fun r t => znn r False fun q o => zop (zArr q) False fun n => if n.1 = 0 then zix j n.2 False fun x => Zgo d 92 38 L t (zsI S.1 q o x v, S.2) Q else False) := Zgo_iff (i := .iastore) (len := 1) (a := 0) (b := 0) (c := 0) (p := 0) rfl
theorem zg_92_38 : Zgo d 92 38 L st S Q ↔ (zlda L 0 False fun r => Zgo d 92 39 L (zq r :: st) S Q) := Zgo_iff (i := .aload_n 0) (len := 1) (a := 0) (b := 0) (c := 0) (p := 0) rfl
theorem zg_92_39 : Zgo d 92 39 L st S Q ↔ (zpa st False fun r t => zde r 11 False fun o => Zgo d 92 42 L (zq (S.2.1 11 o 24) :: t) S Q) := Zgo_iff (i := .getfield 58) (len := 3) (a := 11) (b := 24) (c := 3) (p := 4154) rfl
theorem zg_92_42 : Zgo d 92 42 L st S Q ↔ (zldi L 3 False fun x => Zgo d 92 43 L (zi x :: st) S Q) := Zgo_iff (i := .iload_n 3) (len := 1) (a := 0) (b := 0) (c := 0) (p := 0) rfl
theorem zg_92_43 : Zgo d 92 43 L st S Q ↔ (Zgo d 92 44 L (zi (-1) :: st) S Q) := Zgo_iff (i := .iconst (-1)) (len := 1) (a := 0) (b := 0) (c := 0) (p := 0) rfl
theorem zg_92_44 : Zgo d 92 44 L st S Q ↔ (zpi st False fun v t => zpi t False fun j t => zpa t False fun r t => znn r False fun q o => zop (zArr q) False fun n => if n.1 = 0 then zix j n.2 False fun x => Zgo d 92 45 L t (zsI S.1 q o x v, S.2) Q else False) := Zgo_iff (i := .iastore) (len := 1) (a := 0) (b := 0) (c := 0) (p := 0) rfl
theorem zg_92_45 : Zgo d 92 45 L st S Q ↔ (zlda L 0 False fun r => Zgo d 92 46 L (zq r :: st) S Q) := Zgo_iff (i := .aload_n 0) (len := 1) (a := 0) (b := 0) (c := 0) (p := 0) rfl
theorem zg_92_46 : Zgo d 92 46 L st S Q ↔ (zpa st False fun r t => zde r 11 False fun o => Zgo d 92 49 L (zq (S.2.1 11 o 25) :: t) S Q) := Zgo_iff (i := .getfield 61) (len := 3) (a := 11) (b := 25) (c := 3) (p := 4155) rfl
theorem zg_92_49 : Zgo d 92 49 L st S Q ↔ (zldi L 3 False fun x => Zgo d 92 50 L (zi x :: st) S Q) := Zgo_iff (i := .iload_n 3) (len := 1) (a := 0) (b := 0) (c := 0) (p := 0) rfl
theorem zg_92_50 : Zgo d 92 50 L st S Q ↔ (zldi L 1 False fun x => Zgo d 92 51 L (zi x :: st) S Q) := Zgo_iff (i := .iload_n 1) (len := 1) (a := 0) (b := 0) (c := 0) (p := 0) rfl
theorem zg_92_51 : Zgo d 92 51 L st S Q ↔ (zpi st False fun v t => zpi t False fun j t => zpa t False fun r t => znn r False fun q o => zop (zArr q) False fun n => if n.1 = 0 then zix j n.2 False fun x => Zgo d 92 52 L t (zsI S.1 q o x v, S.2) Q else False) := Zgo_iff (i := .iastore) (len := 1) (a := 0) (b := 0) (c := 0) (p := 0) rfl
theorem zg_92_52 : Zgo d 92 52 L st S Q ↔ (zlda L 0 False fun r => Zgo d 92 53 L (zq r :: st) S Q) := Zgo_iff (i := .aload_n 0) (len := 1) (a := 0) (b := 0) (c := 0) (p := 0) rfl
theorem zg_92_53 : Zgo d 92 53 L st S Q ↔ (zpa st False fun r t => zde r 11 False fun o => Zgo d 92 56 L (zq (S.2.1 11 o 26) :: t) S Q) := Zgo_iff (i := .getfield 64) (len := 3) (a := 11) (b := 26) (c := 3) (p := 4156) rfl
theorem zg_92_56 : Zgo d 92 56 L st S Q ↔ (zldi L 3 False fun x => Zgo d 92 57 L (zi x :: st) S Q) := Zgo_iff (i := .iload_n 3) (len := 1) (a := 0) (b := 0) (c := 0) (p := 0) rfl
theorem zg_92_57 : Zgo d 92 57 L st S Q ↔ (zldi L 2 False fun x => Zgo d 92 58 L (zi x :: st) S Q) := Zgo_iff (i := .iload_n 2) (len := 1) (a := 0) (b := 0) (c := 0) (p := 0) rfl
theorem zg_92_58 : Zgo d 92 58 L st S Q ↔ (zpi st False fun v t => zpi t False fun j t => zpa t False fun r t => znn r False fun q o => zop (zArr q) False fun n => if n.1 = 0 then zix j n.2 False fun x => Zgo d 92 59 L t (zsI S.1 q o x v, S.2) Q else False) := Zgo_iff (i := .iastore) (len := 1) (a := 0) (b := 0) (c := 0) (p := 0) rfl
theorem zg_92_59 : Zgo d 92 59 L st S Q ↔ (zlda L 0 False fun r => Zgo d 92 60 L (zq r :: st) S Q) := Zgo_iff (i := .aload_n 0) (len := 1) (a := 0) (b := 0) (c := 0) (p := 0) rfl
theorem zg_92_60 : Zgo d 92 60 L st S Q ↔ (zpa st False fun r t => zde r 11 False fun o => Zgo d 92 63 L (zq (S.2.1 11 o 27) :: t) S Q) := Zgo_iff (i := .getfield 67) (len := 3) (a := 11) (b := 27) (c := 3) (p := 4157) rfl
theorem zg_92_63 : Zgo d 92 63 L st S Q ↔ (zldi L 3 False fun x => Zgo d 92 64 L (zi x :: st) S Q) := Zgo_iff (i := .iload_n 3) (len := 1) (a := 0) (b := 0) (c := 0) (p := 0) rfl
theorem zg_92_64 : Zgo d 92 64 L st S Q ↔ (Zgo d 92 65 L (zi 0 :: st) S Q) := Zgo_iff (i := .iconst 0) (len := 1) (a := 0) (b := 0) (c := 0) (p := 0) rfl
theorem zg_92_65 : Zgo d 92 65 L st S Q ↔ (zpi st False fun v t => zpi t False fun j t => zpa t False fun r t => znn r False fun q o => zop (zArr q) False fun n => if n.1 = 0 then zix j n.2 False fun x => Zgo d 92 66 L t (zsI S.1 q o x v, S.2) Q else False) := Zgo_iff (i := .iastore) (len := 1) (a := 0) (b := 0) (c := 0) (p := 0) rfl
theorem zg_92_66 : Zgo d 92 66 L st S Q ↔ (zldi L 1 False fun x => Zgo d 92 67 L (zi x :: st) S Q) := Zgo_iff (i := .iload_n 1) (len := 1) (a := 0) (b := 0) (c := 0) (p := 0) rfl
theorem zg_92_67 : Zgo d 92 67 L st S Q ↔ (zpi st False fun x t => if zw x < zw 0 then Zgo d 92 82 L t S Q else Zgo d 92 70 L t S Q) := Zgo_iff (i := .ifCond .lt 15) (len := 3) (a := 0) (b := 0) (c := 0) (p := 0) rfl
theorem zg_92_70 : Zgo d 92 70 L st S Q ↔ (zlda L 0 False fun r => Zgo d 92 71 L (zq r :: st) S Q) := Zgo_iff (i := .aload_n 0) (len := 1) (a := 0) (b := 0) (c := 0) (p := 0) rfl
theorem zg_92_71 : Zgo d 92 71 L st S Q ↔ (zpa st False fun r t => zde r 11 False fun o => Zgo d 92 74 L (zq (S.2.1 11 o 15) :: t) S Q) := Zgo_iff (i := .getfield 34) (len := 3) (a := 11) (b := 15) (c := 3) (p := 4145) rfl
theorem zg_92_74 : Zgo d 92 74 L st S Q ↔ (Zgo d 92 76 L (zi 6 :: st) S Q) := Zgo_iff (i := .bipush 6) (len := 2) (a := 0) (b := 0) (c := 0) (p := 0) rfl
theorem zg_92_76 : Zgo d 92 76 L st S Q ↔ (zldi L 1 False fun x => Zgo d 92 77 L (zi x :: st) S Q) := Zgo_iff (i := .iload_n 1) (len := 1) (a := 0) (b := 0) (c := 0) (p := 0) rfl
theorem zg_92_77 : Zgo d 92 77 L st S Q ↔ (zpi st False fun y t => zpi t False fun x t => Zgo d 92 78 L (zi (x * y) :: t) S Q) := Zgo_iff (i := .imul) (len := 1) (a := 0) (b := 0) (c := 0) (p := 0) rfl
theorem zg_92_78 : Zgo d 92 78 L st S Q ↔ (zldi L 2 False fun x => Zgo d 92 79 L (zi x :: st) S Q) := Zgo_iff (i := .iload_n 2) (len := 1) (a := 0) (b := 0) (c := 0) (p := 0) rfl
theorem zg_92_79 : Zgo d 92 79 L st S Q ↔ (zpi st False fun y t => zpi t False fun x t => Zgo d 92 80 L (zi (x + y) :: t) S Q) := Zgo_iff (i := .iadd) (len := 1) (a := 0) (b := 0) (c := 0) (p := 0) rfl
theorem zg_92_80 : Zgo d 92 80 L st S Q ↔ (zldi L 3 False fun x => Zgo d 92 81 L (zi x :: st) S Q) := Zgo_iff (i := .iload_n 3) (len := 1) (a := 0) (b := 0) (c := 0) (p := 0) rfl
theorem zg_92_81 : Zgo d 92 81 L st S Q ↔ (zpi st False fun v t => zpi t False fun j t => zpa t False fun r t => znn r False fun q o => zop (zArr q) False fun n => if n.1 = 0 then zix j n.2 False fun x => Zgo d 92 82 L t (zsI S.1 q o x v, S.2) Q else False) := Zgo_iff (i := .iastore) (len := 1) (a := 0) (b := 0) (c := 0) (p := 0) rfl
theorem zg_92_82 : Zgo d 92 82 L st S Q ↔ (zldi L 3 False fun x => Zgo d 92 83 L (zi x :: st) S Q) := Zgo_iff (i := .iload_n 3) (len := 1) (a := 0) (b := 0) (c := 0) (p := 0) rfl
theorem zg_92_83 : Zgo d 92 83 L st S Q ↔ (zpi st False fun x t => zem t False (Q (some (zi x)) S)) := Zgo_iff (i := .ireturn) (len := 1) (a := 0) (b := 0) (c := 0) (p := 0) rfl
/-- LeavingMachineModel.expect(I)V -/
theorem zg_93_0 : Zgo d 93 0 L st S Q ↔ (zlda L 0 False fun r => Zgo d 93 1 L (zq r :: st) S Q) := Zgo_iff (i := .aload_n 0) (len := 1) (a := 0) (b := 0) (c := 0) (p := 0) rfl
theorem zg_93_1 : Zgo d 93 1 L st S Q ↔ (zlda L 0 False fun r => Zgo d 93 2 L (zq r :: st) S Q) := Zgo_iff (i := .aload_n 0) (len := 1) (a := 0) (b := 0) (c := 0) (p := 0) rfl
theorem zg_93_2 : Zgo d 93 2 L st S Q ↔ (zpa st False fun r t => zde r 11 False fun o => Zgo d 93 5 L (zi (S.1 11 o 4) :: t) S Q) := Zgo_iff (i := .getfield 130) (len := 3) (a := 11) (b := 4) (c := 1) (p := 4134) rfl
theorem zg_93_5 : Zgo d 93 5 L st S Q ↔ (zpi st False fun x t => if zw x = zw 0 then Zgo d 93 8 L t S Q else Zgo d 93 16 L t S Q) := Zgo_iff (i := .ifCond .ne 11) (len := 3) (a := 0) (b := 0) (c := 0) (p := 0) rfl
theorem zg_93_8 : Zgo d 93 8 L st S Q ↔ (zlda L 0 False fun r => Zgo d 93 9 L (zq r :: st) S Q) := Zgo_iff (i := .aload_n 0) (len := 1) (a := 0) (b := 0) (c := 0) (p := 0) rfl
theorem zg_93_9 : Zgo d 93 9 L st S Q ↔ (zinv 1 st False fun as t => zrec as 11 False (zCp d 87 as S fun r S2 => Zgo d 93 12 L (r.toList ++ t) S2 Q)) := Zgo_iff (i := .invokevirtual 134) (len := 3) (a := 87) (b := 1) (c := 0) (p := 5084) rfl
theorem zg_93_12 : Zgo d 93 12 L st S Q ↔ (zldi L 1 False fun x => Zgo d 93 13 L (zi x :: st) S Q) := Zgo_iff (i := .iload_n 1) (len := 1) (a := 0) (b := 0) (c := 0) (p := 0) rfl
theorem zg_93_13 : Zgo d 93 13 L st S Q ↔ (zpi st False fun y t => zpi t False fun x t => if zw x = zw y then Zgo d 93 20 L t S Q else Zgo d 93 16 L t S Q) := Zgo_iff (i := .if_icmp .eq 7) (len := 3) (a := 0) (b := 0) (c := 0) (p := 0) rfl
theorem zg_93_16 : Zgo d 93 16 L st S Q ↔ (Zgo d 93 17 L (zi 1 :: st) S Q) := Zgo_iff (i := .iconst 1) (len := 1) (a := 0) (b := 0) (c := 0) (p := 0) rfl
theorem zg_93_17 : Zgo d 93 17 L st S Q ↔ (Zgo d 93 21 L st S Q) := Zgo_iff (i := .goto 4) (len := 3) (a := 0) (b := 0) (c := 0) (p := 0) rfl
theorem zg_93_20 : Zgo d 93 20 L st S Q ↔ (Zgo d 93 21 L (zi 0 :: st) S Q) := Zgo_iff (i := .iconst 0) (len := 1) (a := 0) (b := 0) (c := 0) (p := 0) rfl
theorem zg_93_21 : Zgo d 93 21 L st S Q ↔ (zpi st False fun v t => zpa t False fun r t => zde r 11 False fun o => zok 1 v False (Zgo d 93 24 L t (zsI S.1 11 o 4 v, S.2) Q)) := Zgo_iff (i := .putfield 130) (len := 3) (a := 11) (b := 4) (c := 1) (p := 4134) rfl
theorem zg_93_24 : Zgo d 93 24 L st S Q ↔ (zlda L 0 False fun r => Zgo d 93 25 L (zq r :: st) S Q) := Zgo_iff (i := .aload_n 0) (len := 1) (a := 0) (b := 0) (c := 0) (p := 0) rfl
theorem zg_93_25 : Zgo d 93 25 L st S Q ↔ (zp1 st False fun v t => Zgo d 93 26 L (v :: v :: t) S Q) := Zgo_iff (i := .dup) (len := 1) (a := 0) (b := 0) (c := 0) (p := 0) rfl
theorem zg_93_26 : Zgo d 93 26 L st S Q ↔ (zpa st False fun r t => zde r 11 False fun o => Zgo d 93 29 L (zi (S.1 11 o 3) :: t) S Q) := Zgo_iff (i := .getfield 127) (len := 3) (a := 11) (b := 3) (c := 0) (p := 4133) rfl
theorem zg_93_29 : Zgo d 93 29 L st S Q ↔ (Zgo d 93 30 L (zi 1 :: st) S Q) := Zgo_iff (i := .iconst 1) (len := 1) (a := 0) (b := 0) (c := 0) (p := 0) rfl
theorem zg_93_30 : Zgo d 93 30 L st S Q ↔ (zpi st False fun y t => zpi t False fun x t => Zgo d 93 31 L (zi (x + y) :: t) S Q) := Zgo_iff (i := .iadd) (len := 1) (a := 0) (b := 0) (c := 0) (p := 0) rfl
theorem zg_93_31 : Zgo d 93 31 L st S Q ↔ (zpi st False fun v t => zpa t False fun r t => zde r 11 False fun o => Zgo d 93 34 L t (zsI S.1 11 o 3 v, S.2) Q) := Zgo_iff (i := .putfield 127) (len := 3) (a := 11) (b := 3) (c := 0) (p := 4133) rfl
theorem zg_93_34 : Zgo d 93 34 L st S Q ↔ (zem st False (Q none S)) := Zgo_iff (i := .return_) (len := 1) (a := 0) (b := 0) (c := 0) (p := 0) rfl
/-- LeavingMachineModel.after(II)I -/
theorem zg_94_0 : Zgo d 94 0 L st S Q ↔ (zlda L 0 False fun r => Zgo d 94 1 L (zq r :: st) S Q) := Zgo_iff (i := .aload_n 0) (len := 1) (a := 0) (b := 0) (c := 0) (p := 0) rfl
theorem zg_94_1 : Zgo d 94 1 L st S Q ↔ (zpa st False fun r t => zde r 11 False fun o => Zgo d 94 4 L (zq (S.2.1 11 o 11) :: t) S Q) := Zgo_iff (i := .getfield 22) (len := 3) (a := 11) (b := 11) (c := 3) (p := 4141) rfl
theorem zg_94_4 : Zgo d 94 4 L st S Q ↔ (zldi L 1 False fun x => Zgo d 94 5 L (zi x :: st) S Q) := Zgo_iff (i := .iload_n 1) (len := 1) (a := 0) (b := 0) (c := 0) (p := 0) rfl
theorem zg_94_5 : Zgo d 94 5 L st S Q ↔ (zpi st False fun j t => zpa t False fun r t => znn r False fun q o => zop (zlen S q) False fun n => if n.1 = 0 then zix j n.2 False fun x => Zgo d 94 6 L (zi (S.1 q o x) :: t) S Q else False) := Zgo_iff (i := .iaload) (len := 1) (a := 0) (b := 0) (c := 0) (p := 0) rfl
theorem zg_94_6 : Zgo d 94 6 L st S Q ↔ (Zgo d 94 8 L (zi 63 :: st) S Q) := Zgo_iff (i := .bipush 63) (len := 2) (a := 0) (b := 0) (c := 0) (p := 0) rfl
theorem zg_94_8 : Zgo d 94 8 L st S Q ↔ (zpi st False fun y t => zpi t False fun x t => if zw x = zw y then Zgo d 94 11 L t S Q else Zgo d 94 21 L t S Q) := Zgo_iff (i := .if_icmp .ne 13) (len := 3) (a := 0) (b := 0) (c := 0) (p := 0) rfl
theorem zg_94_11 : Zgo d 94 11 L st S Q ↔ (zldi L 2 False fun x => Zgo d 94 12 L (zi x :: st) S Q) := Zgo_iff (i := .iload_n 2) (len := 1) (a := 0) (b := 0) (c := 0) (p := 0) rfl
theorem zg_94_12 : Zgo d 94 12 L st S Q ↔ (zpi st False fun x t => if zw x = zw 0 then Zgo d 94 15 L t S Q else Zgo d 94 19 L t S Q) := Zgo_iff (i := .ifCond .ne 7) (len := 3) (a := 0) (b := 0) (c := 0) (p := 0) rfl
theorem zg_94_15 : Zgo d 94 15 L st S Q ↔ (Zgo d 94 16 L (zi 1 :: st) S Q) := Zgo_iff (i := .iconst 1) (len := 1) (a := 0) (b := 0) (c := 0) (p := 0) rfl
theorem zg_94_16 : Zgo d 94 16 L st S Q ↔ (Zgo d 94 20 L st S Q) := Zgo_iff (i := .goto 4) (len := 3) (a := 0) (b := 0) (c := 0) (p := 0) rfl
theorem zg_94_19 : Zgo d 94 19 L st S Q ↔ (Zgo d 94 20 L (zi (-1) :: st) S Q) := Zgo_iff (i := .iconst (-1)) (len := 1) (a := 0) (b := 0) (c := 0) (p := 0) rfl
theorem zg_94_20 : Zgo d 94 20 L st S Q ↔ (zpi st False fun x t => zem t False (Q (some (zi x)) S)) := Zgo_iff (i := .ireturn) (len := 1) (a := 0) (b := 0) (c := 0) (p := 0) rfl
theorem zg_94_21 : Zgo d 94 21 L st S Q ↔ (zlda L 0 False fun r => Zgo d 94 22 L (zq r :: st) S Q) := Zgo_iff (i := .aload_n 0) (len := 1) (a := 0) (b := 0) (c := 0) (p := 0) rfl
theorem zg_94_22 : Zgo d 94 22 L st S Q ↔ (zpa st False fun r t => zde r 11 False fun o => Zgo d 94 25 L (zq (S.2.1 11 o 11) :: t) S Q) := Zgo_iff (i := .getfield 22) (len := 3) (a := 11) (b := 11) (c := 3) (p := 4141) rfl
theorem zg_94_25 : Zgo d 94 25 L st S Q ↔ (zldi L 1 False fun x => Zgo d 94 26 L (zi x :: st) S Q) := Zgo_iff (i := .iload_n 1) (len := 1) (a := 0) (b := 0) (c := 0) (p := 0) rfl
theorem zg_94_26 : Zgo d 94 26 L st S Q ↔ (zpi st False fun j t => zpa t False fun r t => znn r False fun q o => zop (zlen S q) False fun n => if n.1 = 0 then zix j n.2 False fun x => Zgo d 94 27 L (zi (S.1 q o x) :: t) S Q else False) := Zgo_iff (i := .iaload) (len := 1) (a := 0) (b := 0) (c := 0) (p := 0) rfl
theorem zg_94_27 : Zgo d 94 27 L st S Q ↔ (Zgo d 94 29 L (zi 64 :: st) S Q) := Zgo_iff (i := .bipush 64) (len := 2) (a := 0) (b := 0) (c := 0) (p := 0) rfl
theorem zg_94_29 : Zgo d 94 29 L st S Q ↔ (zpi st False fun y t => zpi t False fun x t => if zw x = zw y then Zgo d 94 37 L t S Q else Zgo d 94 32 L t S Q) := Zgo_iff (i := .if_icmp .eq 8) (len := 3) (a := 0) (b := 0) (c := 0) (p := 0) rfl
theorem zg_94_32 : Zgo d 94 32 L st S Q ↔ (zldi L 2 False fun x => Zgo d 94 33 L (zi x :: st) S Q) := Zgo_iff (i := .iload_n 2) (len := 1) (a := 0) (b := 0) (c := 0) (p := 0) rfl
theorem zg_94_33 : Zgo d 94 33 L st S Q ↔ (Zgo d 94 34 L (zi 5 :: st) S Q) := Zgo_iff (i := .iconst 5) (len := 1) (a := 0) (b := 0) (c := 0) (p := 0) rfl
theorem zg_94_34 : Zgo d 94 34 L st S Q ↔ (zpi st False fun y t => zpi t False fun x t => if zw x = zw y then Zgo d 94 37 L t S Q else Zgo d 94 39 L t S Q) := Zgo_iff (i := .if_icmp .ne 5) (len := 3) (a := 0) (b := 0) (c := 0) (p := 0) rfl
theorem zg_94_37 : Zgo d 94 37 L st S Q ↔ (Zgo d 94 38 L (zi (-1) :: st) S Q) := Zgo_iff (i := .iconst (-1)) (len := 1) (a := 0) (b := 0) (c := 0) (p := 0) rfl
theorem zg_94_38 : Zgo d 94 38 L st S Q ↔ (zpi st False fun x t => zem t False (Q (some (zi x)) S)) := Zgo_iff (i := .ireturn) (len := 1) (a := 0) (b := 0) (c := 0) (p := 0) rfl
theorem zg_94_39 : Zgo d 94 39 L st S Q ↔ (zlda L 0 False fun r => Zgo d 94 40 L (zq r :: st) S Q) := Zgo_iff (i := .aload_n 0) (len := 1) (a := 0) (b := 0) (c := 0) (p := 0) rfl
theorem zg_94_40 : Zgo d 94 40 L st S Q ↔ (zpa st False fun r t => zde r 11 False fun o => Zgo d 94 43 L (zq (S.2.1 11 o 18) :: t) S Q) := Zgo_iff (i := .getfield 43) (len := 3) (a := 11) (b := 18) (c := 3) (p := 4148) rfl
theorem zg_94_43 : Zgo d 94 43 L st S Q ↔ (zldi L 1 False fun x => Zgo d 94 44 L (zi x :: st) S Q) := Zgo_iff (i := .iload_n 1) (len := 1) (a := 0) (b := 0) (c := 0) (p := 0) rfl
theorem zg_94_44 : Zgo d 94 44 L st S Q ↔ (zpi st False fun j t => zpa t False fun r t => znn r False fun q o => zop (zlen S q) False fun n => if n.1 = 0 then zix j n.2 False fun x => Zgo d 94 45 L (zi (S.1 q o x) :: t) S Q else False) := Zgo_iff (i := .iaload) (len := 1) (a := 0) (b := 0) (c := 0) (p := 0) rfl
theorem zg_94_45 : Zgo d 94 45 L st S Q ↔ (zpi st False fun x t => Zgo d 94 46 (zst L 3 (some (zi x))) t S Q) := Zgo_iff (i := .istore_n 3) (len := 1) (a := 0) (b := 0) (c := 0) (p := 0) rfl
theorem zg_94_46 : Zgo d 94 46 L st S Q ↔ (zlda L 0 False fun r => Zgo d 94 47 L (zq r :: st) S Q) := Zgo_iff (i := .aload_n 0) (len := 1) (a := 0) (b := 0) (c := 0) (p := 0) rfl
theorem zg_94_47 : Zgo d 94 47 L st S Q ↔ (zinv 1 st False fun as t => zrec as 11 False (zCp d 87 as S fun r S2 => Zgo d 94 50 L (r.toList ++ t) S2 Q)) := Zgo_iff (i := .invokevirtual 134) (len := 3) (a := 87) (b := 1) (c := 0) (p := 5084) rfl
theorem zg_94_50 : Zgo d 94 50 L st S Q ↔ (Zgo d 94 52 L (zi 75 :: st) S Q) := Zgo_iff (i := .bipush 75) (len := 2) (a := 0) (b := 0) (c := 0) (p := 0) rfl
theorem zg_94_52 : Zgo d 94 52 L st S Q ↔ (zpi st False fun y t => zpi t False fun x t => if zw x = zw y then Zgo d 94 55 L t S Q else Zgo d 94 188 L t S Q) := Zgo_iff (i := .if_icmp .ne 136) (len := 3) (a := 0) (b := 0) (c := 0) (p := 0) rfl
theorem zg_94_55 : Zgo d 94 55 L st S Q ↔ (zlda L 0 False fun r => Zgo d 94 56 L (zq r :: st) S Q) := Zgo_iff (i := .aload_n 0) (len := 1) (a := 0) (b := 0) (c := 0) (p := 0) rfl
theorem zg_94_56 : Zgo d 94 56 L st S Q ↔ (zp1 st False fun v t => Zgo d 94 57 L (v :: v :: t) S Q) := Zgo_iff (i := .dup) (len := 1) (a := 0) (b := 0) (c := 0) (p := 0) rfl
theorem zg_94_57 : Zgo d 94 57 L st S Q ↔ (zpa st False fun r t => zde r 11 False fun o => Zgo d 94 60 L (zi (S.1 11 o 3) :: t) S Q) := Zgo_iff (i := .getfield 127) (len := 3) (a := 11) (b := 3) (c := 0) (p := 4133) rfl
theorem zg_94_60 : Zgo d 94 60 L st S Q ↔ (Zgo d 94 61 L (zi 1 :: st) S Q) := Zgo_iff (i := .iconst 1) (len := 1) (a := 0) (b := 0) (c := 0) (p := 0) rfl
theorem zg_94_61 : Zgo d 94 61 L st S Q ↔ (zpi st False fun y t => zpi t False fun x t => Zgo d 94 62 L (zi (x + y) :: t) S Q) := Zgo_iff (i := .iadd) (len := 1) (a := 0) (b := 0) (c := 0) (p := 0) rfl
theorem zg_94_62 : Zgo d 94 62 L st S Q ↔ (zpi st False fun v t => zpa t False fun r t => zde r 11 False fun o => Zgo d 94 65 L t (zsI S.1 11 o 3 v, S.2) Q) := Zgo_iff (i := .putfield 127) (len := 3) (a := 11) (b := 3) (c := 0) (p := 4133) rfl
theorem zg_94_65 : Zgo d 94 65 L st S Q ↔ (zlda L 0 False fun r => Zgo d 94 66 L (zq r :: st) S Q) := Zgo_iff (i := .aload_n 0) (len := 1) (a := 0) (b := 0) (c := 0) (p := 0) rfl
theorem zg_94_66 : Zgo d 94 66 L st S Q ↔ (zlda L 0 False fun r => Zgo d 94 67 L (zq r :: st) S Q) := Zgo_iff (i := .aload_n 0) (len := 1) (a := 0) (b := 0) (c := 0) (p := 0) rfl
theorem zg_94_67 : Zgo d 94 67 L st S Q ↔ (zpa st False fun r t => zde r 11 False fun o => Zgo d 94 70 L (zi (S.1 11 o 4) :: t) S Q) := Zgo_iff (i := .getfield 130) (len := 3) (a := 11) (b := 4) (c := 1) (p := 4134) rfl
theorem zg_94_70 : Zgo d 94 70 L st S Q ↔ (zpi st False fun x t => if zw x = zw 0 then Zgo d 94 73 L t S Q else Zgo d 94 78 L t S Q) := Zgo_iff (i := .ifCond .ne 8) (len := 3) (a := 0) (b := 0) (c := 0) (p := 0) rfl
theorem zg_94_73 : Zgo d 94 73 L st S Q ↔ (zldi L 3 False fun x => Zgo d 94 74 L (zi x :: st) S Q) := Zgo_iff (i := .iload_n 3) (len := 1) (a := 0) (b := 0) (c := 0) (p := 0) rfl
theorem zg_94_74 : Zgo d 94 74 L st S Q ↔ (Zgo d 94 75 L (zi 3 :: st) S Q) := Zgo_iff (i := .iconst 3) (len := 1) (a := 0) (b := 0) (c := 0) (p := 0) rfl
theorem zg_94_75 : Zgo d 94 75 L st S Q ↔ (zpi st False fun y t => zpi t False fun x t => if zw x = zw y then Zgo d 94 78 L t S Q else Zgo d 94 82 L t S Q) := Zgo_iff (i := .if_icmp .ne 7) (len := 3) (a := 0) (b := 0) (c := 0) (p := 0) rfl
theorem zg_94_78 : Zgo d 94 78 L st S Q ↔ (Zgo d 94 79 L (zi 1 :: st) S Q) := Zgo_iff (i := .iconst 1) (len := 1) (a := 0) (b := 0) (c := 0) (p := 0) rfl
theorem zg_94_79 : Zgo d 94 79 L st S Q ↔ (Zgo d 94 83 L st S Q) := Zgo_iff (i := .goto 4) (len := 3) (a := 0) (b := 0) (c := 0) (p := 0) rfl
theorem zg_94_82 : Zgo d 94 82 L st S Q ↔ (Zgo d 94 83 L (zi 0 :: st) S Q) := Zgo_iff (i := .iconst 0) (len := 1) (a := 0) (b := 0) (c := 0) (p := 0) rfl
theorem zg_94_83 : Zgo d 94 83 L st S Q ↔ (zpi st False fun v t => zpa t False fun r t => zde r 11 False fun o => zok 1 v False (Zgo d 94 86 L t (zsI S.1 11 o 4 v, S.2) Q)) := Zgo_iff (i := .putfield 130) (len := 3) (a := 11) (b := 4) (c := 1) (p := 4134) rfl
theorem zg_94_86 : Zgo d 94 86 L st S Q ↔ (zlda L 0 False fun r => Zgo d 94 87 L (zq r :: st) S Q) := Zgo_iff (i := .aload_n 0) (len := 1) (a := 0) (b := 0) (c := 0) (p := 0) rfl
theorem zg_94_87 : Zgo d 94 87 L st S Q ↔ (zpa st False fun r t => zde r 11 False fun o => Zgo d 94 90 L (zi (S.1 11 o 4) :: t) S Q) := Zgo_iff (i := .getfield 130) (len := 3) (a := 11) (b := 4) (c := 1) (p := 4134) rfl
theorem zg_94_90 : Zgo d 94 90 L st S Q ↔ (zpi st False fun x t => if zw x = zw 0 then Zgo d 94 95 L t S Q else Zgo d 94 93 L t S Q) := Zgo_iff (i := .ifCond .eq 5) (len := 3) (a := 0) (b := 0) (c := 0) (p := 0) rfl
theorem zg_94_93 : Zgo d 94 93 L st S Q ↔ (Zgo d 94 94 L (zi (-1) :: st) S Q) := Zgo_iff (i := .iconst (-1)) (len := 1) (a := 0) (b := 0) (c := 0) (p := 0) rfl
theorem zg_94_94 : Zgo d 94 94 L st S Q ↔ (zpi st False fun x t => zem t False (Q (some (zi x)) S)) := Zgo_iff (i := .ireturn) (len := 1) (a := 0) (b := 0) (c := 0) (p := 0) rfl
theorem zg_94_95 : Zgo d 94 95 L st S Q ↔ (zlda L 0 False fun r => Zgo d 94 96 L (zq r :: st) S Q) := Zgo_iff (i := .aload_n 0) (len := 1) (a := 0) (b := 0) (c := 0) (p := 0) rfl
theorem zg_94_96 : Zgo d 94 96 L st S Q ↔ (zinv 1 st False fun as t => zrec as 11 False (zCp d 90 as S fun r S2 => Zgo d 94 99 L (r.toList ++ t) S2 Q)) := Zgo_iff (i := .invokevirtual 174) (len := 3) (a := 90) (b := 1) (c := 0) (p := 5095) rfl
theorem zg_94_99 : Zgo d 94 99 L st S Q ↔ (zpi st False fun x t => Zgo d 94 101 (zst L 4 (some (zi x))) t S Q) := Zgo_iff (i := .istore 4) (len := 2) (a := 0) (b := 0) (c := 0) (p := 0) rfl
theorem zg_94_101 : Zgo d 94 101 L st S Q ↔ (Zgo d 94 102 L (zi 0 :: st) S Q) := Zgo_iff (i := .iconst 0) (len := 1) (a := 0) (b := 0) (c := 0) (p := 0) rfl
theorem zg_94_102 : Zgo d 94 102 L st S Q ↔ (zpi st False fun x t => Zgo d 94 104 (zst L 5 (some (zi x))) t S Q) := Zgo_iff (i := .istore 5) (len := 2) (a := 0) (b := 0) (c := 0) (p := 0) rfl
theorem zg_94_104 : Zgo d 94 104 L st S Q ↔ (zldi L 5 False fun x => Zgo d 94 106 L (zi x :: st) S Q) := Zgo_iff (i := .iload 5) (len := 2) (a := 0) (b := 0) (c := 0) (p := 0) rfl
theorem zg_94_106 : Zgo d 94 106 L st S Q ↔ (zldi L 3 False fun x => Zgo d 94 107 L (zi x :: st) S Q) := Zgo_iff (i := .iload_n 3) (len := 1) (a := 0) (b := 0) (c := 0) (p := 0) rfl
theorem zg_94_107 : Zgo d 94 107 L st S Q ↔ (zpi st False fun y t => zpi t False fun x t => if zw x < zw y then Zgo d 94 110 L t S Q else Zgo d 94 148 L t S Q) := Zgo_iff (i := .if_icmp .ge 41) (len := 3) (a := 0) (b := 0) (c := 0) (p := 0) rfl
theorem zg_94_110 : Zgo d 94 110 L st S Q ↔ (zlda L 0 False fun r => Zgo d 94 111 L (zq r :: st) S Q) := Zgo_iff (i := .aload_n 0) (len := 1) (a := 0) (b := 0) (c := 0) (p := 0) rfl
theorem zg_94_111 : Zgo d 94 111 L st S Q ↔ (zlda L 0 False fun r => Zgo d 94 112 L (zq r :: st) S Q) := Zgo_iff (i := .aload_n 0) (len := 1) (a := 0) (b := 0) (c := 0) (p := 0) rfl
theorem zg_94_112 : Zgo d 94 112 L st S Q ↔ (zpa st False fun r t => zde r 11 False fun o => Zgo d 94 115 L (zi (S.1 11 o 4) :: t) S Q) := Zgo_iff (i := .getfield 130) (len := 3) (a := 11) (b := 4) (c := 1) (p := 4134) rfl
theorem zg_94_115 : Zgo d 94 115 L st S Q ↔ (zpi st False fun x t => if zw x = zw 0 then Zgo d 94 118 L t S Q else Zgo d 94 134 L t S Q) := Zgo_iff (i := .ifCond .ne 19) (len := 3) (a := 0) (b := 0) (c := 0) (p := 0) rfl
theorem zg_94_118 : Zgo d 94 118 L st S Q ↔ (zlda L 0 False fun r => Zgo d 94 119 L (zq r :: st) S Q) := Zgo_iff (i := .aload_n 0) (len := 1) (a := 0) (b := 0) (c := 0) (p := 0) rfl
theorem zg_94_119 : Zgo d 94 119 L st S Q ↔ (zpa st False fun r t => zde r 11 False fun o => Zgo d 94 122 L (zq (S.2.1 11 o 16) :: t) S Q) := Zgo_iff (i := .getfield 37) (len := 3) (a := 11) (b := 16) (c := 3) (p := 4146) rfl
theorem zg_94_122 : Zgo d 94 122 L st S Q ↔ (Zgo d 94 123 L (zi 3 :: st) S Q) := Zgo_iff (i := .iconst 3) (len := 1) (a := 0) (b := 0) (c := 0) (p := 0) rfl
theorem zg_94_123 : Zgo d 94 123 L st S Q ↔ (zldi L 1 False fun x => Zgo d 94 124 L (zi x :: st) S Q) := Zgo_iff (i := .iload_n 1) (len := 1) (a := 0) (b := 0) (c := 0) (p := 0) rfl
theorem zg_94_124 : Zgo d 94 124 L st S Q ↔ (zpi st False fun y t => zpi t False fun x t => Zgo d 94 125 L (zi (x * y) :: t) S Q) := Zgo_iff (i := .imul) (len := 1) (a := 0) (b := 0) (c := 0) (p := 0) rfl
theorem zg_94_125 : Zgo d 94 125 L st S Q ↔ (zldi L 5 False fun x => Zgo d 94 127 L (zi x :: st) S Q) := Zgo_iff (i := .iload 5) (len := 2) (a := 0) (b := 0) (c := 0) (p := 0) rfl
theorem zg_94_127 : Zgo d 94 127 L st S Q ↔ (zpi st False fun y t => zpi t False fun x t => Zgo d 94 128 L (zi (x + y) :: t) S Q) := Zgo_iff (i := .iadd) (len := 1) (a := 0) (b := 0) (c := 0) (p := 0) rfl
theorem zg_94_128 : Zgo d 94 128 L st S Q ↔ (zpi st False fun j t => zpa t False fun r t => znn r False fun q o => zop (zlen S q) False fun n => if n.1 = 0 then zix j n.2 False fun x => Zgo d 94 129 L (zi (S.1 q o x) :: t) S Q else False) := Zgo_iff (i := .iaload) (len := 1) (a := 0) (b := 0) (c := 0) (p := 0) rfl
theorem zg_94_129 : Zgo d 94 129 L st S Q ↔ (zldi L 4 False fun x => Zgo d 94 131 L (zi x :: st) S Q) := Zgo_iff (i := .iload 4) (len := 2) (a := 0) (b := 0) (c := 0) (p := 0) rfl
theorem zg_94_131 : Zgo d 94 131 L st S Q ↔ (zpi st False fun y t => zpi t False fun x t => if zw x = zw y then Zgo d 94 134 L t S Q else Zgo d 94 138 L t S Q) := Zgo_iff (i := .if_icmp .ne 7) (len := 3) (a := 0) (b := 0) (c := 0) (p := 0) rfl
theorem zg_94_134 : Zgo d 94 134 L st S Q ↔ (Zgo d 94 135 L (zi 1 :: st) S Q) := Zgo_iff (i := .iconst 1) (len := 1) (a := 0) (b := 0) (c := 0) (p := 0) rfl
theorem zg_94_135 : Zgo d 94 135 L st S Q ↔ (Zgo d 94 139 L st S Q) := Zgo_iff (i := .goto 4) (len := 3) (a := 0) (b := 0) (c := 0) (p := 0) rfl
theorem zg_94_138 : Zgo d 94 138 L st S Q ↔ (Zgo d 94 139 L (zi 0 :: st) S Q) := Zgo_iff (i := .iconst 0) (len := 1) (a := 0) (b := 0) (c := 0) (p := 0) rfl
theorem zg_94_139 : Zgo d 94 139 L st S Q ↔ (zpi st False fun v t => zpa t False fun r t => zde r 11 False fun o => zok 1 v False (Zgo d 94 142 L t (zsI S.1 11 o 4 v, S.2) Q)) := Zgo_iff (i := .putfield 130) (len := 3) (a := 11) (b := 4) (c := 1) (p := 4134) rfl
theorem zg_94_142 : Zgo d 94 142 L st S Q ↔ (zldi L 5 False fun x => Zgo d 94 145 (zst L 5 (some (zi (x + 1)))) st S Q) := Zgo_iff (i := .iinc 5 1) (len := 3) (a := 0) (b := 0) (c := 0) (p := 0) rfl
theorem zg_94_145 : Zgo d 94 145 L st S Q ↔ (Zgo d 94 104 L st S Q) := Zgo_iff (i := .goto (-41)) (len := 3) (a := 0) (b := 0) (c := 0) (p := 0) rfl
theorem zg_94_148 : Zgo d 94 148 L st S Q ↔ (zlda L 0 False fun r => Zgo d 94 149 L (zq r :: st) S Q) := Zgo_iff (i := .aload_n 0) (len := 1) (a := 0) (b := 0) (c := 0) (p := 0) rfl
theorem zg_94_149 : Zgo d 94 149 L st S Q ↔ (zpa st False fun r t => zde r 11 False fun o => Zgo d 94 152 L (zq (S.2.1 11 o 16) :: t) S Q) := Zgo_iff (i := .getfield 37) (len := 3) (a := 11) (b := 16) (c := 3) (p := 4146) rfl
theorem zg_94_152 : Zgo d 94 152 L st S Q ↔ (Zgo d 94 153 L (zi 3 :: st) S Q) := Zgo_iff (i := .iconst 3) (len := 1) (a := 0) (b := 0) (c := 0) (p := 0) rfl
theorem zg_94_153 : Zgo d 94 153 L st S Q ↔ (zldi L 1 False fun x => Zgo d 94 154 L (zi x :: st) S Q) := Zgo_iff (i := .iload_n 1) (len := 1) (a := 0) (b := 0) (c := 0) (p := 0) rfl
theorem zg_94_154 : Zgo d 94 154 L st S Q ↔ (zpi st False fun y t => zpi t False fun x t => Zgo d 94 155 L (zi (x * y) :: t) S Q) := Zgo_iff (i := .imul) (len := 1) (a := 0) (b := 0) (c := 0) (p := 0) rfl
theorem zg_94_155 : Zgo d 94 155 L st S Q ↔ (zldi L 3 False fun x => Zgo d 94 156 L (zi x :: st) S Q) := Zgo_iff (i := .iload_n 3) (len := 1) (a := 0) (b := 0) (c := 0) (p := 0) rfl
theorem zg_94_156 : Zgo d 94 156 L st S Q ↔ (zpi st False fun y t => zpi t False fun x t => Zgo d 94 157 L (zi (x + y) :: t) S Q) := Zgo_iff (i := .iadd) (len := 1) (a := 0) (b := 0) (c := 0) (p := 0) rfl
theorem zg_94_157 : Zgo d 94 157 L st S Q ↔ (zldi L 4 False fun x => Zgo d 94 159 L (zi x :: st) S Q) := Zgo_iff (i := .iload 4) (len := 2) (a := 0) (b := 0) (c := 0) (p := 0) rfl
theorem zg_94_159 : Zgo d 94 159 L st S Q ↔ (zpi st False fun v t => zpi t False fun j t => zpa t False fun r t => znn r False fun q o => zop (zArr q) False fun n => if n.1 = 0 then zix j n.2 False fun x => Zgo d 94 160 L t (zsI S.1 q o x v, S.2) Q else False) := Zgo_iff (i := .iastore) (len := 1) (a := 0) (b := 0) (c := 0) (p := 0) rfl
theorem zg_94_160 : Zgo d 94 160 L st S Q ↔ (zlda L 0 False fun r => Zgo d 94 161 L (zq r :: st) S Q) := Zgo_iff (i := .aload_n 0) (len := 1) (a := 0) (b := 0) (c := 0) (p := 0) rfl
theorem zg_94_161 : Zgo d 94 161 L st S Q ↔ (zpa st False fun r t => zde r 11 False fun o => Zgo d 94 164 L (zq (S.2.1 11 o 17) :: t) S Q) := Zgo_iff (i := .getfield 40) (len := 3) (a := 11) (b := 17) (c := 3) (p := 4147) rfl
theorem zg_94_164 : Zgo d 94 164 L st S Q ↔ (Zgo d 94 165 L (zi 3 :: st) S Q) := Zgo_iff (i := .iconst 3) (len := 1) (a := 0) (b := 0) (c := 0) (p := 0) rfl
theorem zg_94_165 : Zgo d 94 165 L st S Q ↔ (zldi L 1 False fun x => Zgo d 94 166 L (zi x :: st) S Q) := Zgo_iff (i := .iload_n 1) (len := 1) (a := 0) (b := 0) (c := 0) (p := 0) rfl
theorem zg_94_166 : Zgo d 94 166 L st S Q ↔ (zpi st False fun y t => zpi t False fun x t => Zgo d 94 167 L (zi (x * y) :: t) S Q) := Zgo_iff (i := .imul) (len := 1) (a := 0) (b := 0) (c := 0) (p := 0) rfl
theorem zg_94_167 : Zgo d 94 167 L st S Q ↔ (zldi L 3 False fun x => Zgo d 94 168 L (zi x :: st) S Q) := Zgo_iff (i := .iload_n 3) (len := 1) (a := 0) (b := 0) (c := 0) (p := 0) rfl
theorem zg_94_168 : Zgo d 94 168 L st S Q ↔ (zpi st False fun y t => zpi t False fun x t => Zgo d 94 169 L (zi (x + y) :: t) S Q) := Zgo_iff (i := .iadd) (len := 1) (a := 0) (b := 0) (c := 0) (p := 0) rfl
theorem zg_94_169 : Zgo d 94 169 L st S Q ↔ (zlda L 0 False fun r => Zgo d 94 170 L (zq r :: st) S Q) := Zgo_iff (i := .aload_n 0) (len := 1) (a := 0) (b := 0) (c := 0) (p := 0) rfl
theorem zg_94_170 : Zgo d 94 170 L st S Q ↔ (zinv 1 st False fun as t => zrec as 11 False (zCp d 95 as S fun r S2 => Zgo d 94 173 L (r.toList ++ t) S2 Q)) := Zgo_iff (i := .invokevirtual 152) (len := 3) (a := 95) (b := 1) (c := 0) (p := 5115) rfl
theorem zg_94_173 : Zgo d 94 173 L st S Q ↔ (zpi st False fun v t => zpi t False fun j t => zpa t False fun r t => znn r False fun q o => zop (zArr q) False fun n => if n.1 = 0 then zix j n.2 False fun x => Zgo d 94 174 L t (zsI S.1 q o x v, S.2) Q else False) := Zgo_iff (i := .iastore) (len := 1) (a := 0) (b := 0) (c := 0) (p := 0) rfl
theorem zg_94_174 : Zgo d 94 174 L st S Q ↔ (zlda L 0 False fun r => Zgo d 94 175 L (zq r :: st) S Q) := Zgo_iff (i := .aload_n 0) (len := 1) (a := 0) (b := 0) (c := 0) (p := 0) rfl
theorem zg_94_175 : Zgo d 94 175 L st S Q ↔ (zpa st False fun r t => zde r 11 False fun o => Zgo d 94 178 L (zq (S.2.1 11 o 18) :: t) S Q) := Zgo_iff (i := .getfield 43) (len := 3) (a := 11) (b := 18) (c := 3) (p := 4148) rfl
theorem zg_94_178 : Zgo d 94 178 L st S Q ↔ (zldi L 1 False fun x => Zgo d 94 179 L (zi x :: st) S Q) := Zgo_iff (i := .iload_n 1) (len := 1) (a := 0) (b := 0) (c := 0) (p := 0) rfl
theorem zg_94_179 : Zgo d 94 179 L st S Q ↔ (zp1 st False fun v t => zp1 t False fun u t => Zgo d 94 180 L (v :: u :: v :: u :: t) S Q) := Zgo_iff (i := .dup2) (len := 1) (a := 0) (b := 0) (c := 0) (p := 0) rfl
theorem zg_94_180 : Zgo d 94 180 L st S Q ↔ (zpi st False fun j t => zpa t False fun r t => znn r False fun q o => zop (zlen S q) False fun n => if n.1 = 0 then zix j n.2 False fun x => Zgo d 94 181 L (zi (S.1 q o x) :: t) S Q else False) := Zgo_iff (i := .iaload) (len := 1) (a := 0) (b := 0) (c := 0) (p := 0) rfl
theorem zg_94_181 : Zgo d 94 181 L st S Q ↔ (Zgo d 94 182 L (zi 1 :: st) S Q) := Zgo_iff (i := .iconst 1) (len := 1) (a := 0) (b := 0) (c := 0) (p := 0) rfl
theorem zg_94_182 : Zgo d 94 182 L st S Q ↔ (zpi st False fun y t => zpi t False fun x t => Zgo d 94 183 L (zi (x + y) :: t) S Q) := Zgo_iff (i := .iadd) (len := 1) (a := 0) (b := 0) (c := 0) (p := 0) rfl
theorem zg_94_183 : Zgo d 94 183 L st S Q ↔ (zpi st False fun v t => zpi t False fun j t => zpa t False fun r t => znn r False fun q o => zop (zArr q) False fun n => if n.1 = 0 then zix j n.2 False fun x => Zgo d 94 184 L t (zsI S.1 q o x v, S.2) Q else False) := Zgo_iff (i := .iastore) (len := 1) (a := 0) (b := 0) (c := 0) (p := 0) rfl
theorem zg_94_184 : Zgo d 94 184 L st S Q ↔ (Zgo d 94 185 L (zi 2 :: st) S Q) := Zgo_iff (i := .iconst 2) (len := 1) (a := 0) (b := 0) (c := 0) (p := 0) rfl
theorem zg_94_185 : Zgo d 94 185 L st S Q ↔ (zldi L 3 False fun x => Zgo d 94 186 L (zi x :: st) S Q) := Zgo_iff (i := .iload_n 3) (len := 1) (a := 0) (b := 0) (c := 0) (p := 0) rfl
theorem zg_94_186 : Zgo d 94 186 L st S Q ↔ (zpi st False fun y t => zpi t False fun x t => Zgo d 94 187 L (zi (x + y) :: t) S Q) := Zgo_iff (i := .iadd) (len := 1) (a := 0) (b := 0) (c := 0) (p := 0) rfl
theorem zg_94_187 : Zgo d 94 187 L st S Q ↔ (zpi st False fun x t => zem t False (Q (some (zi x)) S)) := Zgo_iff (i := .ireturn) (len := 1) (a := 0) (b := 0) (c := 0) (p := 0) rfl
theorem zg_94_188 : Zgo d 94 188 L st S Q ↔ (zlda L 0 False fun r => Zgo d 94 189 L (zq r :: st) S Q) := Zgo_iff (i := .aload_n 0) (len := 1) (a := 0) (b := 0) (c := 0) (p := 0) rfl
theorem zg_94_189 : Zgo d 94 189 L st S Q ↔ (zinv 1 st False fun as t => zrec as 11 False (zCp d 87 as S fun r S2 => Zgo d 94 192 L (r.toList ++ t) S2 Q)) := Zgo_iff (i := .invokevirtual 134) (len := 3) (a := 87) (b := 1) (c := 0) (p := 5084) rfl
theorem zg_94_192 : Zgo d 94 192 L st S Q ↔ (Zgo d 94 194 L (zi 70 :: st) S Q) := Zgo_iff (i := .bipush 70) (len := 2) (a := 0) (b := 0) (c := 0) (p := 0) rfl
theorem zg_94_194 : Zgo d 94 194 L st S Q ↔ (zpi st False fun y t => zpi t False fun x t => if zw x = zw y then Zgo d 94 197 L t S Q else Zgo d 94 209 L t S Q) := Zgo_iff (i := .if_icmp .ne 15) (len := 3) (a := 0) (b := 0) (c := 0) (p := 0) rfl
theorem zg_94_197 : Zgo d 94 197 L st S Q ↔ (zlda L 0 False fun r => Zgo d 94 198 L (zq r :: st) S Q) := Zgo_iff (i := .aload_n 0) (len := 1) (a := 0) (b := 0) (c := 0) (p := 0) rfl
theorem zg_94_198 : Zgo d 94 198 L st S Q ↔ (zp1 st False fun v t => Zgo d 94 199 L (v :: v :: t) S Q) := Zgo_iff (i := .dup) (len := 1) (a := 0) (b := 0) (c := 0) (p := 0) rfl
theorem zg_94_199 : Zgo d 94 199 L st S Q ↔ (zpa st False fun r t => zde r 11 False fun o => Zgo d 94 202 L (zi (S.1 11 o 3) :: t) S Q) := Zgo_iff (i := .getfield 127) (len := 3) (a := 11) (b := 3) (c := 0) (p := 4133) rfl
theorem zg_94_202 : Zgo d 94 202 L st S Q ↔ (Zgo d 94 203 L (zi 1 :: st) S Q) := Zgo_iff (i := .iconst 1) (len := 1) (a := 0) (b := 0) (c := 0) (p := 0) rfl
theorem zg_94_203 : Zgo d 94 203 L st S Q ↔ (zpi st False fun y t => zpi t False fun x t => Zgo d 94 204 L (zi (x + y) :: t) S Q) := Zgo_iff (i := .iadd) (len := 1) (a := 0) (b := 0) (c := 0) (p := 0) rfl
theorem zg_94_204 : Zgo d 94 204 L st S Q ↔ (zpi st False fun v t => zpa t False fun r t => zde r 11 False fun o => Zgo d 94 207 L t (zsI S.1 11 o 3 v, S.2) Q) := Zgo_iff (i := .putfield 127) (len := 3) (a := 11) (b := 3) (c := 0) (p := 4133) rfl
theorem zg_94_207 : Zgo d 94 207 L st S Q ↔ (Zgo d 94 208 L (zi 5 :: st) S Q) := Zgo_iff (i := .iconst 5) (len := 1) (a := 0) (b := 0) (c := 0) (p := 0) rfl
theorem zg_94_208 : Zgo d 94 208 L st S Q ↔ (zpi st False fun x t => zem t False (Q (some (zi x)) S)) := Zgo_iff (i := .ireturn) (len := 1) (a := 0) (b := 0) (c := 0) (p := 0) rfl
theorem zg_94_209 : Zgo d 94 209 L st S Q ↔ (zlda L 0 False fun r => Zgo d 94 210 L (zq r :: st) S Q) := Zgo_iff (i := .aload_n 0) (len := 1) (a := 0) (b := 0) (c := 0) (p := 0) rfl
theorem zg_94_210 : Zgo d 94 210 L st S Q ↔ (zlda L 0 False fun r => Zgo d 94 211 L (zq r :: st) S Q) := Zgo_iff (i := .aload_n 0) (len := 1) (a := 0) (b := 0) (c := 0) (p := 0) rfl
theorem zg_94_211 : Zgo d 94 211 L st S Q ↔ (zpa st False fun r t => zde r 11 False fun o => Zgo d 94 214 L (zi (S.1 11 o 4) :: t) S Q) := Zgo_iff (i := .getfield 130) (len := 3) (a := 11) (b := 4) (c := 1) (p := 4134) rfl
theorem zg_94_214 : Zgo d 94 214 L st S Q ↔ (zpi st False fun x t => if zw x = zw 0 then Zgo d 94 217 L t S Q else Zgo d 94 221 L t S Q) := Zgo_iff (i := .ifCond .ne 7) (len := 3) (a := 0) (b := 0) (c := 0) (p := 0) rfl
theorem zg_94_217 : Zgo d 94 217 L st S Q ↔ (zldi L 3 False fun x => Zgo d 94 218 L (zi x :: st) S Q) := Zgo_iff (i := .iload_n 3) (len := 1) (a := 0) (b := 0) (c := 0) (p := 0) rfl
theorem zg_94_218 : Zgo d 94 218 L st S Q ↔ (zpi st False fun x t => if zw x = zw 0 then Zgo d 94 221 L t S Q else Zgo d 94 225 L t S Q) := Zgo_iff (i := .ifCond .ne 7) (len := 3) (a := 0) (b := 0) (c := 0) (p := 0) rfl
theorem zg_94_221 : Zgo d 94 221 L st S Q ↔ (Zgo d 94 222 L (zi 1 :: st) S Q) := Zgo_iff (i := .iconst 1) (len := 1) (a := 0) (b := 0) (c := 0) (p := 0) rfl
theorem zg_94_222 : Zgo d 94 222 L st S Q ↔ (Zgo d 94 226 L st S Q) := Zgo_iff (i := .goto 4) (len := 3) (a := 0) (b := 0) (c := 0) (p := 0) rfl
theorem zg_94_225 : Zgo d 94 225 L st S Q ↔ (Zgo d 94 226 L (zi 0 :: st) S Q) := Zgo_iff (i := .iconst 0) (len := 1) (a := 0) (b := 0) (c := 0) (p := 0) rfl
theorem zg_94_226 : Zgo d 94 226 L st S Q ↔ (zpi st False fun v t => zpa t False fun r t => zde r 11 False fun o => zok 1 v False (Zgo d 94 229 L t (zsI S.1 11 o 4 v, S.2) Q)) := Zgo_iff (i := .putfield 130) (len := 3) (a := 11) (b := 4) (c := 1) (p := 4134) rfl
theorem zg_94_229 : Zgo d 94 229 L st S Q ↔ (Zgo d 94 230 L (zi (-1) :: st) S Q) := Zgo_iff (i := .iconst (-1)) (len := 1) (a := 0) (b := 0) (c := 0) (p := 0) rfl
theorem zg_94_230 : Zgo d 94 230 L st S Q ↔ (zpi st False fun x t => zem t False (Q (some (zi x)) S)) := Zgo_iff (i := .ireturn) (len := 1) (a := 0) (b := 0) (c := 0) (p := 0) rfl
/-- LeavingMachineModel.readVariable()I -/
theorem zg_95_0 : Zgo d 95 0 L st S Q ↔ (zlda L 0 False fun r => Zgo d 95 1 L (zq r :: st) S Q) := Zgo_iff (i := .aload_n 0) (len := 1) (a := 0) (b := 0) (c := 0) (p := 0) rfl
theorem zg_95_1 : Zgo d 95 1 L st S Q ↔ (zinv 1 st False fun as t => zrec as 11 False (zCp d 87 as S fun r S2 => Zgo d 95 4 L (r.toList ++ t) S2 Q)) := Zgo_iff (i := .invokevirtual 134) (len := 3) (a := 87) (b := 1) (c := 0) (p := 5084) rfl
theorem zg_95_4 : Zgo d 95 4 L st S Q ↔ (Zgo d 95 6 L (zi 97 :: st) S Q) := Zgo_iff (i := .bipush 97) (len := 2) (a := 0) (b := 0) (c := 0) (p := 0) rfl
theorem zg_95_6 : Zgo d 95 6 L st S Q ↔ (zpi st False fun y t => zpi t False fun x t => Zgo d 95 7 L (zi (x - y) :: t) S Q) := Zgo_iff (i := .isub) (len := 1) (a := 0) (b := 0) (c := 0) (p := 0) rfl
theorem zg_95_7 : Zgo d 95 7 L st S Q ↔ (zpi st False fun x t => Zgo d 95 8 (zst L 1 (some (zi x))) t S Q) := Zgo_iff (i := .istore_n 1) (len := 1) (a := 0) (b := 0) (c := 0) (p := 0) rfl
theorem zg_95_8 : Zgo d 95 8 L st S Q ↔ (zlda L 0 False fun r => Zgo d 95 9 L (zq r :: st) S Q) := Zgo_iff (i := .aload_n 0) (len := 1) (a := 0) (b := 0) (c := 0) (p := 0) rfl
theorem zg_95_9 : Zgo d 95 9 L st S Q ↔ (zlda L 0 False fun r => Zgo d 95 10 L (zq r :: st) S Q) := Zgo_iff (i := .aload_n 0) (len := 1) (a := 0) (b := 0) (c := 0) (p := 0) rfl
theorem zg_95_10 : Zgo d 95 10 L st S Q ↔ (zpa st False fun r t => zde r 11 False fun o => Zgo d 95 13 L (zi (S.1 11 o 4) :: t) S Q) := Zgo_iff (i := .getfield 130) (len := 3) (a := 11) (b := 4) (c := 1) (p := 4134) rfl
theorem zg_95_13 : Zgo d 95 13 L st S Q ↔ (zpi st False fun x t => if zw x = zw 0 then Zgo d 95 16 L t S Q else Zgo d 95 26 L t S Q) := Zgo_iff (i := .ifCond .ne 13) (len := 3) (a := 0) (b := 0) (c := 0) (p := 0) rfl
theorem zg_95_16 : Zgo d 95 16 L st S Q ↔ (zldi L 1 False fun x => Zgo d 95 17 L (zi x :: st) S Q) := Zgo_iff (i := .iload_n 1) (len := 1) (a := 0) (b := 0) (c := 0) (p := 0) rfl
theorem zg_95_17 : Zgo d 95 17 L st S Q ↔ (zpi st False fun x t => if zw x < zw 0 then Zgo d 95 26 L t S Q else Zgo d 95 20 L t S Q) := Zgo_iff (i := .ifCond .lt 9) (len := 3) (a := 0) (b := 0) (c := 0) (p := 0) rfl
theorem zg_95_20 : Zgo d 95 20 L st S Q ↔ (zldi L 1 False fun x => Zgo d 95 21 L (zi x :: st) S Q) := Zgo_iff (i := .iload_n 1) (len := 1) (a := 0) (b := 0) (c := 0) (p := 0) rfl
theorem zg_95_21 : Zgo d 95 21 L st S Q ↔ (Zgo d 95 23 L (zi 7 :: st) S Q) := Zgo_iff (i := .bipush 7) (len := 2) (a := 0) (b := 0) (c := 0) (p := 0) rfl
theorem zg_95_23 : Zgo d 95 23 L st S Q ↔ (zpi st False fun y t => zpi t False fun x t => if zw y < zw x then Zgo d 95 26 L t S Q else Zgo d 95 30 L t S Q) := Zgo_iff (i := .if_icmp .le 7) (len := 3) (a := 0) (b := 0) (c := 0) (p := 0) rfl
theorem zg_95_26 : Zgo d 95 26 L st S Q ↔ (Zgo d 95 27 L (zi 1 :: st) S Q) := Zgo_iff (i := .iconst 1) (len := 1) (a := 0) (b := 0) (c := 0) (p := 0) rfl
theorem zg_95_27 : Zgo d 95 27 L st S Q ↔ (Zgo d 95 31 L st S Q) := Zgo_iff (i := .goto 4) (len := 3) (a := 0) (b := 0) (c := 0) (p := 0) rfl
theorem zg_95_30 : Zgo d 95 30 L st S Q ↔ (Zgo d 95 31 L (zi 0 :: st) S Q) := Zgo_iff (i := .iconst 0) (len := 1) (a := 0) (b := 0) (c := 0) (p := 0) rfl
theorem zg_95_31 : Zgo d 95 31 L st S Q ↔ (zpi st False fun v t => zpa t False fun r t => zde r 11 False fun o => zok 1 v False (Zgo d 95 34 L t (zsI S.1 11 o 4 v, S.2) Q)) := Zgo_iff (i := .putfield 130) (len := 3) (a := 11) (b := 4) (c := 1) (p := 4134) rfl
theorem zg_95_34 : Zgo d 95 34 L st S Q ↔ (zlda L 0 False fun r => Zgo d 95 35 L (zq r :: st) S Q) := Zgo_iff (i := .aload_n 0) (len := 1) (a := 0) (b := 0) (c := 0) (p := 0) rfl
theorem zg_95_35 : Zgo d 95 35 L st S Q ↔ (zp1 st False fun v t => Zgo d 95 36 L (v :: v :: t) S Q) := Zgo_iff (i := .dup) (len := 1) (a := 0) (b := 0) (c := 0) (p := 0) rfl
theorem zg_95_36 : Zgo d 95 36 L st S Q ↔ (zpa st False fun r t => zde r 11 False fun o => Zgo d 95 39 L (zi (S.1 11 o 3) :: t) S Q) := Zgo_iff (i := .getfield 127) (len := 3) (a := 11) (b := 3) (c := 0) (p := 4133) rfl
theorem zg_95_39 : Zgo d 95 39 L st S Q ↔ (Zgo d 95 40 L (zi 1 :: st) S Q) := Zgo_iff (i := .iconst 1) (len := 1) (a := 0) (b := 0) (c := 0) (p := 0) rfl
theorem zg_95_40 : Zgo d 95 40 L st S Q ↔ (zpi st False fun y t => zpi t False fun x t => Zgo d 95 41 L (zi (x + y) :: t) S Q) := Zgo_iff (i := .iadd) (len := 1) (a := 0) (b := 0) (c := 0) (p := 0) rfl
theorem zg_95_41 : Zgo d 95 41 L st S Q ↔ (zpi st False fun v t => zpa t False fun r t => zde r 11 False fun o => Zgo d 95 44 L t (zsI S.1 11 o 3 v, S.2) Q) := Zgo_iff (i := .putfield 127) (len := 3) (a := 11) (b := 3) (c := 0) (p := 4133) rfl
theorem zg_95_44 : Zgo d 95 44 L st S Q ↔ (zldi L 1 False fun x => Zgo d 95 45 L (zi x :: st) S Q) := Zgo_iff (i := .iload_n 1) (len := 1) (a := 0) (b := 0) (c := 0) (p := 0) rfl
theorem zg_95_45 : Zgo d 95 45 L st S Q ↔ (zpi st False fun x t => zem t False (Q (some (zi x)) S)) := Zgo_iff (i := .ireturn) (len := 1) (a := 0) (b := 0) (c := 0) (p := 0) rfl
/-- LeavingMachineModel.newStatement(II)I -/
theorem zg_96_0 : Zgo d 96 0 L st S Q ↔ (zlda L 0 False fun r => Zgo d 96 1 L (zq r :: st) S Q) := Zgo_iff (i := .aload_n 0) (len := 1) (a := 0) (b := 0) (c := 0) (p := 0) rfl
theorem zg_96_1 : Zgo d 96 1 L st S Q ↔ (zpa st False fun r t => zde r 11 False fun o => Zgo d 96 4 L (zi (S.1 11 o 10) :: t) S Q) := Zgo_iff (i := .getfield 168) (len := 3) (a := 11) (b := 10) (c := 0) (p := 4140) rfl
theorem zg_96_4 : Zgo d 96 4 L st S Q ↔ (zpi st False fun x t => Zgo d 96 5 (zst L 3 (some (zi x))) t S Q) := Zgo_iff (i := .istore_n 3) (len := 1) (a := 0) (b := 0) (c := 0) (p := 0) rfl
theorem zg_96_5 : Zgo d 96 5 L st S Q ↔ (zlda L 0 False fun r => Zgo d 96 6 L (zq r :: st) S Q) := Zgo_iff (i := .aload_n 0) (len := 1) (a := 0) (b := 0) (c := 0) (p := 0) rfl
theorem zg_96_6 : Zgo d 96 6 L st S Q ↔ (zpa st False fun r t => zde r 11 False fun o => Zgo d 96 9 L (zi (S.1 11 o 10) :: t) S Q) := Zgo_iff (i := .getfield 168) (len := 3) (a := 11) (b := 10) (c := 0) (p := 4140) rfl
theorem zg_96_9 : Zgo d 96 9 L st S Q ↔ (Zgo d 96 12 L (zi 159 :: st) S Q) := Zgo_iff (i := .sipush 159) (len := 3) (a := 0) (b := 0) (c := 0) (p := 0) rfl
theorem zg_96_12 : Zgo d 96 12 L st S Q ↔ (zpi st False fun y t => zpi t False fun x t => if zw x < zw y then Zgo d 96 15 L t S Q else Zgo d 96 25 L t S Q) := Zgo_iff (i := .if_icmp .ge 13) (len := 3) (a := 0) (b := 0) (c := 0) (p := 0) rfl
theorem zg_96_15 : Zgo d 96 15 L st S Q ↔ (zlda L 0 False fun r => Zgo d 96 16 L (zq r :: st) S Q) := Zgo_iff (i := .aload_n 0) (len := 1) (a := 0) (b := 0) (c := 0) (p := 0) rfl
theorem zg_96_16 : Zgo d 96 16 L st S Q ↔ (zp1 st False fun v t => Zgo d 96 17 L (v :: v :: t) S Q) := Zgo_iff (i := .dup) (len := 1) (a := 0) (b := 0) (c := 0) (p := 0) rfl
theorem zg_96_17 : Zgo d 96 17 L st S Q ↔ (zpa st False fun r t => zde r 11 False fun o => Zgo d 96 20 L (zi (S.1 11 o 10) :: t) S Q) := Zgo_iff (i := .getfield 168) (len := 3) (a := 11) (b := 10) (c := 0) (p := 4140) rfl
theorem zg_96_20 : Zgo d 96 20 L st S Q ↔ (Zgo d 96 21 L (zi 1 :: st) S Q) := Zgo_iff (i := .iconst 1) (len := 1) (a := 0) (b := 0) (c := 0) (p := 0) rfl
theorem zg_96_21 : Zgo d 96 21 L st S Q ↔ (zpi st False fun y t => zpi t False fun x t => Zgo d 96 22 L (zi (x + y) :: t) S Q) := Zgo_iff (i := .iadd) (len := 1) (a := 0) (b := 0) (c := 0) (p := 0) rfl
theorem zg_96_22 : Zgo d 96 22 L st S Q ↔ (zpi st False fun v t => zpa t False fun r t => zde r 11 False fun o => Zgo d 96 25 L t (zsI S.1 11 o 10 v, S.2) Q) := Zgo_iff (i := .putfield 168) (len := 3) (a := 11) (b := 10) (c := 0) (p := 4140) rfl
theorem zg_96_25 : Zgo d 96 25 L st S Q ↔ (zlda L 0 False fun r => Zgo d 96 26 L (zq r :: st) S Q) := Zgo_iff (i := .aload_n 0) (len := 1) (a := 0) (b := 0) (c := 0) (p := 0) rfl
theorem zg_96_26 : Zgo d 96 26 L st S Q ↔ (zpa st False fun r t => zde r 11 False fun o => Zgo d 96 29 L (zq (S.2.1 11 o 11) :: t) S Q) := Zgo_iff (i := .getfield 22) (len := 3) (a := 11) (b := 11) (c := 3) (p := 4141) rfl
theorem zg_96_29 : Zgo d 96 29 L st S Q ↔ (zldi L 3 False fun x => Zgo d 96 30 L (zi x :: st) S Q) := Zgo_iff (i := .iload_n 3) (len := 1) (a := 0) (b := 0) (c := 0) (p := 0) rfl
theorem zg_96_30 : Zgo d 96 30 L st S Q ↔ (zldi L 2 False fun x => Zgo d 96 31 L (zi x :: st) S Q) := Zgo_iff (i := .iload_n 2) (len := 1) (a := 0) (b := 0) (c := 0) (p := 0) rfl
theorem zg_96_31 : Zgo d 96 31 L st S Q ↔ (zpi st False fun v t => zpi t False fun j t => zpa t False fun r t => znn r False fun q o => zop (zArr q) False fun n => if n.1 = 0 then zix j n.2 False fun x => Zgo d 96 32 L t (zsI S.1 q o x v, S.2) Q else False) := Zgo_iff (i := .iastore) (len := 1) (a := 0) (b := 0) (c := 0) (p := 0) rfl
theorem zg_96_32 : Zgo d 96 32 L st S Q ↔ (zlda L 0 False fun r => Zgo d 96 33 L (zq r :: st) S Q) := Zgo_iff (i := .aload_n 0) (len := 1) (a := 0) (b := 0) (c := 0) (p := 0) rfl
theorem zg_96_33 : Zgo d 96 33 L st S Q ↔ (zpa st False fun r t => zde r 11 False fun o => Zgo d 96 36 L (zq (S.2.1 11 o 12) :: t) S Q) := Zgo_iff (i := .getfield 25) (len := 3) (a := 11) (b := 12) (c := 3) (p := 4142) rfl
theorem zg_96_36 : Zgo d 96 36 L st S Q ↔ (zldi L 3 False fun x => Zgo d 96 37 L (zi x :: st) S Q) := Zgo_iff (i := .iload_n 3) (len := 1) (a := 0) (b := 0) (c := 0) (p := 0) rfl
theorem zg_96_37 : Zgo d 96 37 L st S Q ↔ (Zgo d 96 38 L (zi 0 :: st) S Q) := Zgo_iff (i := .iconst 0) (len := 1) (a := 0) (b := 0) (c := 0) (p := 0) rfl
theorem zg_96_38 : Zgo d 96 38 L st S Q ↔ (zpi st False fun v t => zpi t False fun j t => zpa t False fun r t => znn r False fun q o => zop (zArr q) False fun n => if n.1 = 0 then zix j n.2 False fun x => Zgo d 96 39 L t (zsI S.1 q o x v, S.2) Q else False) := Zgo_iff (i := .iastore) (len := 1) (a := 0) (b := 0) (c := 0) (p := 0) rfl
theorem zg_96_39 : Zgo d 96 39 L st S Q ↔ (zlda L 0 False fun r => Zgo d 96 40 L (zq r :: st) S Q) := Zgo_iff (i := .aload_n 0) (len := 1) (a := 0) (b := 0) (c := 0) (p := 0) rfl
theorem zg_96_40 : Zgo d 96 40 L st S Q ↔ (zpa st False fun r t => zde r 11 False fun o => Zgo d 96 43 L (zq (S.2.1 11 o 13) :: t) S Q) := Zgo_iff (i := .getfield 28) (len := 3) (a := 11) (b := 13) (c := 3) (p := 4143) rfl
theorem zg_96_43 : Zgo d 96 43 L st S Q ↔ (zldi L 3 False fun x => Zgo d 96 44 L (zi x :: st) S Q) := Zgo_iff (i := .iload_n 3) (len := 1) (a := 0) (b := 0) (c := 0) (p := 0) rfl
theorem zg_96_44 : Zgo d 96 44 L st S Q ↔ (Zgo d 96 45 L (zi 0 :: st) S Q) := Zgo_iff (i := .iconst 0) (len := 1) (a := 0) (b := 0) (c := 0) (p := 0) rfl
theorem zg_96_45 : Zgo d 96 45 L st S Q ↔ (zpi st False fun v t => zpi t False fun j t => zpa t False fun r t => znn r False fun q o => zop (zArr q) False fun n => if n.1 = 0 then zix j n.2 False fun x => Zgo d 96 46 L t (zsI S.1 q o x v, S.2) Q else False) := Zgo_iff (i := .iastore) (len := 1) (a := 0) (b := 0) (c := 0) (p := 0) rfl
theorem zg_96_46 : Zgo d 96 46 L st S Q ↔ (zlda L 0 False fun r => Zgo d 96 47 L (zq r :: st) S Q) := Zgo_iff (i := .aload_n 0) (len := 1) (a := 0) (b := 0) (c := 0) (p := 0) rfl
theorem zg_96_47 : Zgo d 96 47 L st S Q ↔ (zpa st False fun r t => zde r 11 False fun o => Zgo d 96 50 L (zq (S.2.1 11 o 14) :: t) S Q) := Zgo_iff (i := .getfield 31) (len := 3) (a := 11) (b := 14) (c := 3) (p := 4144) rfl
theorem zg_96_50 : Zgo d 96 50 L st S Q ↔ (zldi L 3 False fun x => Zgo d 96 51 L (zi x :: st) S Q) := Zgo_iff (i := .iload_n 3) (len := 1) (a := 0) (b := 0) (c := 0) (p := 0) rfl
theorem zg_96_51 : Zgo d 96 51 L st S Q ↔ (Zgo d 96 52 L (zi 0 :: st) S Q) := Zgo_iff (i := .iconst 0) (len := 1) (a := 0) (b := 0) (c := 0) (p := 0) rfl
theorem zg_96_52 : Zgo d 96 52 L st S Q ↔ (zpi st False fun v t => zpi t False fun j t => zpa t False fun r t => znn r False fun q o => zop (zArr q) False fun n => if n.1 = 0 then zix j n.2 False fun x => Zgo d 96 53 L t (zsI S.1 q o x v, S.2) Q else False) := Zgo_iff (i := .iastore) (len := 1) (a := 0) (b := 0) (c := 0) (p := 0) rfl
theorem zg_96_53 : Zgo d 96 53 L st S Q ↔ (zlda L 0 False fun r => Zgo d 96 54 L (zq r :: st) S Q) := Zgo_iff (i := .aload_n 0) (len := 1) (a := 0) (b := 0) (c := 0) (p := 0) rfl
theorem zg_96_54 : Zgo d 96 54 L st S Q ↔ (zpa st False fun r t => zde r 11 False fun o => Zgo d 96 57 L (zq (S.2.1 11 o 18) :: t) S Q) := Zgo_iff (i := .getfield 43) (len := 3) (a := 11) (b := 18) (c := 3) (p := 4148) rfl
theorem zg_96_57 : Zgo d 96 57 L st S Q ↔ (zldi L 3 False fun x => Zgo d 96 58 L (zi x :: st) S Q) := Zgo_iff (i := .iload_n 3) (len := 1) (a := 0) (b := 0) (c := 0) (p := 0) rfl
theorem zg_96_58 : Zgo d 96 58 L st S Q ↔ (Zgo d 96 59 L (zi 0 :: st) S Q) := Zgo_iff (i := .iconst 0) (len := 1) (a := 0) (b := 0) (c := 0) (p := 0) rfl
theorem zg_96_59 : Zgo d 96 59 L st S Q ↔ (zpi st False fun v t => zpi t False fun j t => zpa t False fun r t => znn r False fun q o => zop (zArr q) False fun n => if n.1 = 0 then zix j n.2 False fun x => Zgo d 96 60 L t (zsI S.1 q o x v, S.2) Q else False) := Zgo_iff (i := .iastore) (len := 1) (a := 0) (b := 0) (c := 0) (p := 0) rfl
theorem zg_96_60 : Zgo d 96 60 L st S Q ↔ (zlda L 0 False fun r => Zgo d 96 61 L (zq r :: st) S Q) := Zgo_iff (i := .aload_n 0) (len := 1) (a := 0) (b := 0) (c := 0) (p := 0) rfl
theorem zg_96_61 : Zgo d 96 61 L st S Q ↔ (zpa st False fun r t => zde r 11 False fun o => Zgo d 96 64 L (zq (S.2.1 11 o 19) :: t) S Q) := Zgo_iff (i := .getfield 46) (len := 3) (a := 11) (b := 19) (c := 3) (p := 4149) rfl
theorem zg_96_64 : Zgo d 96 64 L st S Q ↔ (zldi L 3 False fun x => Zgo d 96 65 L (zi x :: st) S Q) := Zgo_iff (i := .iload_n 3) (len := 1) (a := 0) (b := 0) (c := 0) (p := 0) rfl
theorem zg_96_65 : Zgo d 96 65 L st S Q ↔ (zldi L 1 False fun x => Zgo d 96 66 L (zi x :: st) S Q) := Zgo_iff (i := .iload_n 1) (len := 1) (a := 0) (b := 0) (c := 0) (p := 0) rfl
theorem zg_96_66 : Zgo d 96 66 L st S Q ↔ (zpi st False fun v t => zpi t False fun j t => zpa t False fun r t => znn r False fun q o => zop (zArr q) False fun n => if n.1 = 0 then zix j n.2 False fun x => Zgo d 96 67 L t (zsI S.1 q o x v, S.2) Q else False) := Zgo_iff (i := .iastore) (len := 1) (a := 0) (b := 0) (c := 0) (p := 0) rfl
theorem zg_96_67 : Zgo d 96 67 L st S Q ↔ (zlda L 0 False fun r => Zgo d 96 68 L (zq r :: st) S Q) := Zgo_iff (i := .aload_n 0) (len := 1) (a := 0) (b := 0) (c := 0) (p := 0) rfl
theorem zg_96_68 : Zgo d 96 68 L st S Q ↔ (zpa st False fun r t => zde r 11 False fun o => Zgo d 96 71 L (zq (S.2.1 11 o 20) :: t) S Q) := Zgo_iff (i := .getfield 49) (len := 3) (a := 11) (b := 20) (c := 3) (p := 4150) rfl
theorem zg_96_71 : Zgo d 96 71 L st S Q ↔ (zldi L 3 False fun x => Zgo d 96 72 L (zi x :: st) S Q) := Zgo_iff (i := .iload_n 3) (len := 1) (a := 0) (b := 0) (c := 0) (p := 0) rfl
theorem zg_96_72 : Zgo d 96 72 L st S Q ↔ (Zgo d 96 73 L (zi (-1) :: st) S Q) := Zgo_iff (i := .iconst (-1)) (len := 1) (a := 0) (b := 0) (c := 0) (p := 0) rfl
theorem zg_96_73 : Zgo d 96 73 L st S Q ↔ (zpi st False fun v t => zpi t False fun j t => zpa t False fun r t => znn r False fun q o => zop (zArr q) False fun n => if n.1 = 0 then zix j n.2 False fun x => Zgo d 96 74 L t (zsI S.1 q o x v, S.2) Q else False) := Zgo_iff (i := .iastore) (len := 1) (a := 0) (b := 0) (c := 0) (p := 0) rfl
theorem zg_96_74 : Zgo d 96 74 L st S Q ↔ (zlda L 0 False fun r => Zgo d 96 75 L (zq r :: st) S Q) := Zgo_iff (i := .aload_n 0) (len := 1) (a := 0) (b := 0) (c := 0) (p := 0) rfl
theorem zg_96_75 : Zgo d 96 75 L st S Q ↔ (zpa st False fun r t => zde r 11 False fun o => Zgo d 96 78 L (zq (S.2.1 11 o 21) :: t) S Q) := Zgo_iff (i := .getfield 52) (len := 3) (a := 11) (b := 21) (c := 3) (p := 4151) rfl
theorem zg_96_78 : Zgo d 96 78 L st S Q ↔ (zldi L 3 False fun x => Zgo d 96 79 L (zi x :: st) S Q) := Zgo_iff (i := .iload_n 3) (len := 1) (a := 0) (b := 0) (c := 0) (p := 0) rfl
theorem zg_96_79 : Zgo d 96 79 L st S Q ↔ (Zgo d 96 80 L (zi 0 :: st) S Q) := Zgo_iff (i := .iconst 0) (len := 1) (a := 0) (b := 0) (c := 0) (p := 0) rfl
theorem zg_96_80 : Zgo d 96 80 L st S Q ↔ (zpi st False fun v t => zpi t False fun j t => zpa t False fun r t => znn r False fun q o => zop (zArr q) False fun n => if n.1 = 0 then zix j n.2 False fun x => Zgo d 96 81 L t (zsI S.1 q o x v, S.2) Q else False) := Zgo_iff (i := .iastore) (len := 1) (a := 0) (b := 0) (c := 0) (p := 0) rfl
theorem zg_96_81 : Zgo d 96 81 L st S Q ↔ (Zgo d 96 82 L (zi 0 :: st) S Q) := Zgo_iff (i := .iconst 0) (len := 1) (a := 0) (b := 0) (c := 0) (p := 0) rfl
theorem zg_96_82 : Zgo d 96 82 L st S Q ↔ (zpi st False fun x t => Zgo d 96 84 (zst L 4 (some (zi x))) t S Q) := Zgo_iff (i := .istore 4) (len := 2) (a := 0) (b := 0) (c := 0) (p := 0) rfl
theorem zg_96_84 : Zgo d 96 84 L st S Q ↔ (zldi L 4 False fun x => Zgo d 96 86 L (zi x :: st) S Q) := Zgo_iff (i := .iload 4) (len := 2) (a := 0) (b := 0) (c := 0) (p := 0) rfl
theorem zg_96_86 : Zgo d 96 86 L st S Q ↔ (Zgo d 96 88 L (zi 6 :: st) S Q) := Zgo_iff (i := .bipush 6) (len := 2) (a := 0) (b := 0) (c := 0) (p := 0) rfl
theorem zg_96_88 : Zgo d 96 88 L st S Q ↔ (zpi st False fun y t => zpi t False fun x t => if zw x < zw y then Zgo d 96 91 L t S Q else Zgo d 96 110 L t S Q) := Zgo_iff (i := .if_icmp .ge 22) (len := 3) (a := 0) (b := 0) (c := 0) (p := 0) rfl
theorem zg_96_91 : Zgo d 96 91 L st S Q ↔ (zlda L 0 False fun r => Zgo d 96 92 L (zq r :: st) S Q) := Zgo_iff (i := .aload_n 0) (len := 1) (a := 0) (b := 0) (c := 0) (p := 0) rfl
theorem zg_96_92 : Zgo d 96 92 L st S Q ↔ (zpa st False fun r t => zde r 11 False fun o => Zgo d 96 95 L (zq (S.2.1 11 o 15) :: t) S Q) := Zgo_iff (i := .getfield 34) (len := 3) (a := 11) (b := 15) (c := 3) (p := 4145) rfl
theorem zg_96_95 : Zgo d 96 95 L st S Q ↔ (Zgo d 96 97 L (zi 6 :: st) S Q) := Zgo_iff (i := .bipush 6) (len := 2) (a := 0) (b := 0) (c := 0) (p := 0) rfl
theorem zg_96_97 : Zgo d 96 97 L st S Q ↔ (zldi L 3 False fun x => Zgo d 96 98 L (zi x :: st) S Q) := Zgo_iff (i := .iload_n 3) (len := 1) (a := 0) (b := 0) (c := 0) (p := 0) rfl
theorem zg_96_98 : Zgo d 96 98 L st S Q ↔ (zpi st False fun y t => zpi t False fun x t => Zgo d 96 99 L (zi (x * y) :: t) S Q) := Zgo_iff (i := .imul) (len := 1) (a := 0) (b := 0) (c := 0) (p := 0) rfl
theorem zg_96_99 : Zgo d 96 99 L st S Q ↔ (zldi L 4 False fun x => Zgo d 96 101 L (zi x :: st) S Q) := Zgo_iff (i := .iload 4) (len := 2) (a := 0) (b := 0) (c := 0) (p := 0) rfl
theorem zg_96_101 : Zgo d 96 101 L st S Q ↔ (zpi st False fun y t => zpi t False fun x t => Zgo d 96 102 L (zi (x + y) :: t) S Q) := Zgo_iff (i := .iadd) (len := 1) (a := 0) (b := 0) (c := 0) (p := 0) rfl
theorem zg_96_102 : Zgo d 96 102 L st S Q ↔ (Zgo d 96 103 L (zi (-1) :: st) S Q) := Zgo_iff (i := .iconst (-1)) (len := 1) (a := 0) (b := 0) (c := 0) (p := 0) rfl
theorem zg_96_103 : Zgo d 96 103 L st S Q ↔ (zpi st False fun v t => zpi t False fun j t => zpa t False fun r t => znn r False fun q o => zop (zArr q) False fun n => if n.1 = 0 then zix j n.2 False fun x => Zgo d 96 104 L t (zsI S.1 q o x v, S.2) Q else False) := Zgo_iff (i := .iastore) (len := 1) (a := 0) (b := 0) (c := 0) (p := 0) rfl
theorem zg_96_104 : Zgo d 96 104 L st S Q ↔ (zldi L 4 False fun x => Zgo d 96 107 (zst L 4 (some (zi (x + 1)))) st S Q) := Zgo_iff (i := .iinc 4 1) (len := 3) (a := 0) (b := 0) (c := 0) (p := 0) rfl
theorem zg_96_107 : Zgo d 96 107 L st S Q ↔ (Zgo d 96 84 L st S Q) := Zgo_iff (i := .goto (-23)) (len := 3) (a := 0) (b := 0) (c := 0) (p := 0) rfl
theorem zg_96_110 : Zgo d 96 110 L st S Q ↔ (zlda L 0 False fun r => Zgo d 96 111 L (zq r :: st) S Q) := Zgo_iff (i := .aload_n 0) (len := 1) (a := 0) (b := 0) (c := 0) (p := 0) rfl
theorem zg_96_111 : Zgo d 96 111 L st S Q ↔ (zpa st False fun r t => zde r 11 False fun o => Zgo d 96 114 L (zq (S.2.1 11 o 24) :: t) S Q) := Zgo_iff (i := .getfield 58) (len := 3) (a := 11) (b := 24) (c := 3) (p := 4154) rfl
theorem zg_96_114 : Zgo d 96 114 L st S Q ↔ (zldi L 1 False fun x => Zgo d 96 115 L (zi x :: st) S Q) := Zgo_iff (i := .iload_n 1) (len := 1) (a := 0) (b := 0) (c := 0) (p := 0) rfl
theorem zg_96_115 : Zgo d 96 115 L st S Q ↔ (zpi st False fun j t => zpa t False fun r t => znn r False fun q o => zop (zlen S q) False fun n => if n.1 = 0 then zix j n.2 False fun x => Zgo d 96 116 L (zi (S.1 q o x) :: t) S Q else False) := Zgo_iff (i := .iaload) (len := 1) (a := 0) (b := 0) (c := 0) (p := 0) rfl
theorem zg_96_116 : Zgo d 96 116 L st S Q ↔ (zpi st False fun x t => if zw x < zw 0 then Zgo d 96 119 L t S Q else Zgo d 96 129 L t S Q) := Zgo_iff (i := .ifCond .ge 13) (len := 3) (a := 0) (b := 0) (c := 0) (p := 0) rfl
theorem zg_96_119 : Zgo d 96 119 L st S Q ↔ (zlda L 0 False fun r => Zgo d 96 120 L (zq r :: st) S Q) := Zgo_iff (i := .aload_n 0) (len := 1) (a := 0) (b := 0) (c := 0) (p := 0) rfl
theorem zg_96_120 : Zgo d 96 120 L st S Q ↔ (zpa st False fun r t => zde r 11 False fun o => Zgo d 96 123 L (zq (S.2.1 11 o 23) :: t) S Q) := Zgo_iff (i := .getfield 55) (len := 3) (a := 11) (b := 23) (c := 3) (p := 4153) rfl
theorem zg_96_123 : Zgo d 96 123 L st S Q ↔ (zldi L 1 False fun x => Zgo d 96 124 L (zi x :: st) S Q) := Zgo_iff (i := .iload_n 1) (len := 1) (a := 0) (b := 0) (c := 0) (p := 0) rfl
theorem zg_96_124 : Zgo d 96 124 L st S Q ↔ (zldi L 3 False fun x => Zgo d 96 125 L (zi x :: st) S Q) := Zgo_iff (i := .iload_n 3) (len := 1) (a := 0) (b := 0) (c := 0) (p := 0) rfl
theorem zg_96_125 : Zgo d 96 125 L st S Q ↔ (zpi st False fun v t => zpi t False fun j t => zpa t False fun r t => znn r False fun q o => zop (zArr q) False fun n => if n.1 = 0 then zix j n.2 False fun x => Zgo d 96 126 L t (zsI S.1 q o x v, S.2) Q else False) := Zgo_iff (i := .iastore) (len := 1) (a := 0) (b := 0) (c := 0) (p := 0) rfl
theorem zg_96_126 : Zgo d 96 126 L st S Q ↔ (Zgo d 96 141 L st S Q) := Zgo_iff (i := .goto 15) (len := 3) (a := 0) (b := 0) (c := 0) (p := 0) rfl
theorem zg_96_129 : Zgo d 96 129 L st S Q ↔ (zlda L 0 False fun r => Zgo d 96 130 L (zq r :: st) S Q) := Zgo_iff (i := .aload_n 0) (len := 1) (a := 0) (b := 0) (c := 0) (p := 0) rfl
theorem zg_96_130 : Zgo d 96 130 L st S Q ↔ (zpa st False fun r t => zde r 11 False fun o => Zgo d 96 133 L (zq (S.2.1 11 o 20) :: t) S Q) := Zgo_iff (i := .getfield 49) (len := 3) (a := 11) (b := 20) (c := 3) (p := 4150) rfl
theorem zg_96_133 : Zgo d 96 133 L st S Q ↔ (zlda L 0 False fun r => Zgo d 96 134 L (zq r :: st) S Q) := Zgo_iff (i := .aload_n 0) (len := 1) (a := 0) (b := 0) (c := 0) (p := 0) rfl
theorem zg_96_134 : Zgo d 96 134 L st S Q ↔ (zpa st False fun r t => zde r 11 False fun o => Zgo d 96 137 L (zq (S.2.1 11 o 24) :: t) S Q) := Zgo_iff (i := .getfield 58) (len := 3) (a := 11) (b := 24) (c := 3) (p := 4154) rfl
theorem zg_96_137 : Zgo d 96 137 L st S Q ↔ (zldi L 1 False fun x => Zgo d 96 138 L (zi x :: st) S Q) := Zgo_iff (i := .iload_n 1) (len := 1) (a := 0) (b := 0) (c := 0) (p := 0) rfl
theorem zg_96_138 : Zgo d 96 138 L st S Q ↔ (zpi st False fun j t => zpa t False fun r t => znn r False fun q o => zop (zlen S q) False fun n => if n.1 = 0 then zix j n.2 False fun x => Zgo d 96 139 L (zi (S.1 q o x) :: t) S Q else False) := Zgo_iff (i := .iaload) (len := 1) (a := 0) (b := 0) (c := 0) (p := 0) rfl
theorem zg_96_139 : Zgo d 96 139 L st S Q ↔ (zldi L 3 False fun x => Zgo d 96 140 L (zi x :: st) S Q) := Zgo_iff (i := .iload_n 3) (len := 1) (a := 0) (b := 0) (c := 0) (p := 0) rfl
theorem zg_96_140 : Zgo d 96 140 L st S Q ↔ (zpi st False fun v t => zpi t False fun j t => zpa t False fun r t => znn r False fun q o => zop (zArr q) False fun n => if n.1 = 0 then zix j n.2 False fun x => Zgo d 96 141 L t (zsI S.1 q o x v, S.2) Q else False) := Zgo_iff (i := .iastore) (len := 1) (a := 0) (b := 0) (c := 0) (p := 0) rfl
theorem zg_96_141 : Zgo d 96 141 L st S Q ↔ (zlda L 0 False fun r => Zgo d 96 142 L (zq r :: st) S Q) := Zgo_iff (i := .aload_n 0) (len := 1) (a := 0) (b := 0) (c := 0) (p := 0) rfl
theorem zg_96_142 : Zgo d 96 142 L st S Q ↔ (zpa st False fun r t => zde r 11 False fun o => Zgo d 96 145 L (zq (S.2.1 11 o 24) :: t) S Q) := Zgo_iff (i := .getfield 58) (len := 3) (a := 11) (b := 24) (c := 3) (p := 4154) rfl
theorem zg_96_145 : Zgo d 96 145 L st S Q ↔ (zldi L 1 False fun x => Zgo d 96 146 L (zi x :: st) S Q) := Zgo_iff (i := .iload_n 1) (len := 1) (a := 0) (b := 0) (c := 0) (p := 0) rfl
theorem zg_96_146 : Zgo d 96 146 L st S Q ↔ (zldi L 3 False fun x => Zgo d 96 147 L (zi x :: st) S Q) := Zgo_iff (i := .iload_n 3) (len := 1) (a := 0) (b := 0) (c := 0) (p := 0) rfl
theorem zg_96_147 : Zgo d 96 147 L st S Q ↔ (zpi st False fun v t => zpi t False fun j t => zpa t False fun r t => znn r False fun q o => zop (zArr q) False fun n => if n.1 = 0 then zix j n.2 False fun x => Zgo d 96 148 L t (zsI S.1 q o x v, S.2) Q else False) := Zgo_iff (i := .iastore) (len := 1) (a := 0) (b := 0) (c := 0) (p := 0) rfl
theorem zg_96_148 : Zgo d 96 148 L st S Q ↔ (zldi L 3 False fun x => Zgo d 96 149 L (zi x :: st) S Q) := Zgo_iff (i := .iload_n 3) (len := 1) (a := 0) (b := 0) (c := 0) (p := 0) rfl
theorem zg_96_149 : Zgo d 96 149 L st S Q ↔ (zpi st False fun x t => zem t False (Q (some (zi x)) S)) := Zgo_iff (i := .ireturn) (len := 1) (a := 0) (b := 0) (c := 0) (p := 0) rfl
/-- LeavingMachineModel.begin(II)I -/
theorem zg_97_0 : Zgo d 97 0 L st S Q ↔ (zldi L 2 False fun x => Zgo d 97 1 L (zi x :: st) S Q) := Zgo_iff (i := .iload_n 2) (len := 1) (a := 0) (b := 0) (c := 0) (p := 0) rfl
theorem zg_97_1 : Zgo d 97 1 L st S Q ↔ (Zgo d 97 3 L (zi 97 :: st) S Q) := Zgo_iff (i := .bipush 97) (len := 2) (a := 0) (b := 0) (c := 0) (p := 0) rfl
theorem zg_97_3 : Zgo d 97 3 L st S Q ↔ (zpi st False fun y t => zpi t False fun x t => if zw x < zw y then Zgo d 97 49 L t S Q else Zgo d 97 6 L t S Q) := Zgo_iff (i := .if_icmp .lt 46) (len := 3) (a := 0) (b := 0) (c := 0) (p := 0) rfl
theorem zg_97_6 : Zgo d 97 6 L st S Q ↔ (zldi L 2 False fun x => Zgo d 97 7 L (zi x :: st) S Q) := Zgo_iff (i := .iload_n 2) (len := 1) (a := 0) (b := 0) (c := 0) (p := 0) rfl
theorem zg_97_7 : Zgo d 97 7 L st S Q ↔ (Zgo d 97 9 L (zi 104 :: st) S Q) := Zgo_iff (i := .bipush 104) (len := 2) (a := 0) (b := 0) (c := 0) (p := 0) rfl
theorem zg_97_9 : Zgo d 97 9 L st S Q ↔ (zpi st False fun y t => zpi t False fun x t => if zw y < zw x then Zgo d 97 49 L t S Q else Zgo d 97 12 L t S Q) := Zgo_iff (i := .if_icmp .gt 40) (len := 3) (a := 0) (b := 0) (c := 0) (p := 0) rfl
theorem zg_97_12 : Zgo d 97 12 L st S Q ↔ (zlda L 0 False fun r => Zgo d 97 13 L (zq r :: st) S Q) := Zgo_iff (i := .aload_n 0) (len := 1) (a := 0) (b := 0) (c := 0) (p := 0) rfl
theorem zg_97_13 : Zgo d 97 13 L st S Q ↔ (zpa st False fun r t => zde r 11 False fun o => Zgo d 97 16 L (zq (S.2.1 11 o 12) :: t) S Q) := Zgo_iff (i := .getfield 25) (len := 3) (a := 11) (b := 12) (c := 3) (p := 4142) rfl
theorem zg_97_16 : Zgo d 97 16 L st S Q ↔ (zldi L 1 False fun x => Zgo d 97 17 L (zi x :: st) S Q) := Zgo_iff (i := .iload_n 1) (len := 1) (a := 0) (b := 0) (c := 0) (p := 0) rfl
theorem zg_97_17 : Zgo d 97 17 L st S Q ↔ (zldi L 2 False fun x => Zgo d 97 18 L (zi x :: st) S Q) := Zgo_iff (i := .iload_n 2) (len := 1) (a := 0) (b := 0) (c := 0) (p := 0) rfl
theorem zg_97_18 : Zgo d 97 18 L st S Q ↔ (Zgo d 97 20 L (zi 97 :: st) S Q) := Zgo_iff (i := .bipush 97) (len := 2) (a := 0) (b := 0) (c := 0) (p := 0) rfl
theorem zg_97_20 : Zgo d 97 20 L st S Q ↔ (zpi st False fun y t => zpi t False fun x t => Zgo d 97 21 L (zi (x - y) :: t) S Q) := Zgo_iff (i := .isub) (len := 1) (a := 0) (b := 0) (c := 0) (p := 0) rfl
theorem zg_97_21 : Zgo d 97 21 L st S Q ↔ (zpi st False fun v t => zpi t False fun j t => zpa t False fun r t => znn r False fun q o => zop (zArr q) False fun n => if n.1 = 0 then zix j n.2 False fun x => Zgo d 97 22 L t (zsI S.1 q o x v, S.2) Q else False) := Zgo_iff (i := .iastore) (len := 1) (a := 0) (b := 0) (c := 0) (p := 0) rfl
theorem zg_97_22 : Zgo d 97 22 L st S Q ↔ (zlda L 0 False fun r => Zgo d 97 23 L (zq r :: st) S Q) := Zgo_iff (i := .aload_n 0) (len := 1) (a := 0) (b := 0) (c := 0) (p := 0) rfl
theorem zg_97_23 : Zgo d 97 23 L st S Q ↔ (zpa st False fun r t => zde r 11 False fun o => Zgo d 97 26 L (zq (S.2.1 11 o 11) :: t) S Q) := Zgo_iff (i := .getfield 22) (len := 3) (a := 11) (b := 11) (c := 3) (p := 4141) rfl
theorem zg_97_26 : Zgo d 97 26 L st S Q ↔ (zldi L 1 False fun x => Zgo d 97 27 L (zi x :: st) S Q) := Zgo_iff (i := .iload_n 1) (len := 1) (a := 0) (b := 0) (c := 0) (p := 0) rfl
theorem zg_97_27 : Zgo d 97 27 L st S Q ↔ (Zgo d 97 29 L (zi 61 :: st) S Q) := Zgo_iff (i := .bipush 61) (len := 2) (a := 0) (b := 0) (c := 0) (p := 0) rfl
theorem zg_97_29 : Zgo d 97 29 L st S Q ↔ (zpi st False fun v t => zpi t False fun j t => zpa t False fun r t => znn r False fun q o => zop (zArr q) False fun n => if n.1 = 0 then zix j n.2 False fun x => Zgo d 97 30 L t (zsI S.1 q o x v, S.2) Q else False) := Zgo_iff (i := .iastore) (len := 1) (a := 0) (b := 0) (c := 0) (p := 0) rfl
theorem zg_97_30 : Zgo d 97 30 L st S Q ↔ (zlda L 0 False fun r => Zgo d 97 31 L (zq r :: st) S Q) := Zgo_iff (i := .aload_n 0) (len := 1) (a := 0) (b := 0) (c := 0) (p := 0) rfl
theorem zg_97_31 : Zgo d 97 31 L st S Q ↔ (Zgo d 97 33 L (zi 61 :: st) S Q) := Zgo_iff (i := .bipush 61) (len := 2) (a := 0) (b := 0) (c := 0) (p := 0) rfl
theorem zg_97_33 : Zgo d 97 33 L st S Q ↔ (zinv 2 st False fun as t => zrec as 11 False (zCp d 93 as S fun r S2 => Zgo d 97 36 L (r.toList ++ t) S2 Q)) := Zgo_iff (i := .invokevirtual 162) (len := 3) (a := 93) (b := 2) (c := 0) (p := 5107) rfl
theorem zg_97_36 : Zgo d 97 36 L st S Q ↔ (zlda L 0 False fun r => Zgo d 97 37 L (zq r :: st) S Q) := Zgo_iff (i := .aload_n 0) (len := 1) (a := 0) (b := 0) (c := 0) (p := 0) rfl
theorem zg_97_37 : Zgo d 97 37 L st S Q ↔ (zldi L 1 False fun x => Zgo d 97 38 L (zi x :: st) S Q) := Zgo_iff (i := .iload_n 1) (len := 1) (a := 0) (b := 0) (c := 0) (p := 0) rfl
theorem zg_97_38 : Zgo d 97 38 L st S Q ↔ (zinv 2 st False fun as t => zrec as 11 False (zCp d 98 as S fun r S2 => Zgo d 97 41 L (r.toList ++ t) S2 Q)) := Zgo_iff (i := .invokevirtual 171) (len := 3) (a := 98) (b := 2) (c := 0) (p := 5127) rfl
theorem zg_97_41 : Zgo d 97 41 L st S Q ↔ (zlda L 0 False fun r => Zgo d 97 42 L (zq r :: st) S Q) := Zgo_iff (i := .aload_n 0) (len := 1) (a := 0) (b := 0) (c := 0) (p := 0) rfl
theorem zg_97_42 : Zgo d 97 42 L st S Q ↔ (Zgo d 97 44 L (zi 59 :: st) S Q) := Zgo_iff (i := .bipush 59) (len := 2) (a := 0) (b := 0) (c := 0) (p := 0) rfl
theorem zg_97_44 : Zgo d 97 44 L st S Q ↔ (zinv 2 st False fun as t => zrec as 11 False (zCp d 93 as S fun r S2 => Zgo d 97 47 L (r.toList ++ t) S2 Q)) := Zgo_iff (i := .invokevirtual 162) (len := 3) (a := 93) (b := 2) (c := 0) (p := 5107) rfl
theorem zg_97_47 : Zgo d 97 47 L st S Q ↔ (Zgo d 97 48 L (zi (-1) :: st) S Q) := Zgo_iff (i := .iconst (-1)) (len := 1) (a := 0) (b := 0) (c := 0) (p := 0) rfl
theorem zg_97_48 : Zgo d 97 48 L st S Q ↔ (zpi st False fun x t => zem t False (Q (some (zi x)) S)) := Zgo_iff (i := .ireturn) (len := 1) (a := 0) (b := 0) (c := 0) (p := 0) rfl
theorem zg_97_49 : Zgo d 97 49 L st S Q ↔ (zldi L 2 False fun x => Zgo d 97 50 L (zi x :: st) S Q) := Zgo_iff (i := .iload_n 2) (len := 1) (a := 0) (b := 0) (c := 0) (p := 0) rfl
theorem zg_97_50 : Zgo d 97 50 L st S Q ↔ (Zgo d 97 52 L (zi 33 :: st) S Q) := Zgo_iff (i := .bipush 33) (len := 2) (a := 0) (b := 0) (c := 0) (p := 0) rfl
theorem zg_97_52 : Zgo d 97 52 L st S Q ↔ (zpi st False fun y t => zpi t False fun x t => if zw x = zw y then Zgo d 97 55 L t S Q else Zgo d 97 68 L t S Q) := Zgo_iff (i := .if_icmp .ne 16) (len := 3) (a := 0) (b := 0) (c := 0) (p := 0) rfl
theorem zg_97_55 : Zgo d 97 55 L st S Q ↔ (zlda L 0 False fun r => Zgo d 97 56 L (zq r :: st) S Q) := Zgo_iff (i := .aload_n 0) (len := 1) (a := 0) (b := 0) (c := 0) (p := 0) rfl
theorem zg_97_56 : Zgo d 97 56 L st S Q ↔ (zldi L 1 False fun x => Zgo d 97 57 L (zi x :: st) S Q) := Zgo_iff (i := .iload_n 1) (len := 1) (a := 0) (b := 0) (c := 0) (p := 0) rfl
theorem zg_97_57 : Zgo d 97 57 L st S Q ↔ (zinv 2 st False fun as t => zrec as 11 False (zCp d 98 as S fun r S2 => Zgo d 97 60 L (r.toList ++ t) S2 Q)) := Zgo_iff (i := .invokevirtual 171) (len := 3) (a := 98) (b := 2) (c := 0) (p := 5127) rfl
theorem zg_97_60 : Zgo d 97 60 L st S Q ↔ (zlda L 0 False fun r => Zgo d 97 61 L (zq r :: st) S Q) := Zgo_iff (i := .aload_n 0) (len := 1) (a := 0) (b := 0) (c := 0) (p := 0) rfl
theorem zg_97_61 : Zgo d 97 61 L st S Q ↔ (Zgo d 97 63 L (zi 59 :: st) S Q) := Zgo_iff (i := .bipush 59) (len := 2) (a := 0) (b := 0) (c := 0) (p := 0) rfl
theorem zg_97_63 : Zgo d 97 63 L st S Q ↔ (zinv 2 st False fun as t => zrec as 11 False (zCp d 93 as S fun r S2 => Zgo d 97 66 L (r.toList ++ t) S2 Q)) := Zgo_iff (i := .invokevirtual 162) (len := 3) (a := 93) (b := 2) (c := 0) (p := 5107) rfl
theorem zg_97_66 : Zgo d 97 66 L st S Q ↔ (Zgo d 97 67 L (zi (-1) :: st) S Q) := Zgo_iff (i := .iconst (-1)) (len := 1) (a := 0) (b := 0) (c := 0) (p := 0) rfl
theorem zg_97_67 : Zgo d 97 67 L st S Q ↔ (zpi st False fun x t => zem t False (Q (some (zi x)) S)) := Zgo_iff (i := .ireturn) (len := 1) (a := 0) (b := 0) (c := 0) (p := 0) rfl
theorem zg_97_68 : Zgo d 97 68 L st S Q ↔ (zldi L 2 False fun x => Zgo d 97 69 L (zi x :: st) S Q) := Zgo_iff (i := .iload_n 2) (len := 1) (a := 0) (b := 0) (c := 0) (p := 0) rfl
theorem zg_97_69 : Zgo d 97 69 L st S Q ↔ (Zgo d 97 71 L (zi 63 :: st) S Q) := Zgo_iff (i := .bipush 63) (len := 2) (a := 0) (b := 0) (c := 0) (p := 0) rfl
theorem zg_97_71 : Zgo d 97 71 L st S Q ↔ (zpi st False fun y t => zpi t False fun x t => if zw x = zw y then Zgo d 97 80 L t S Q else Zgo d 97 74 L t S Q) := Zgo_iff (i := .if_icmp .eq 9) (len := 3) (a := 0) (b := 0) (c := 0) (p := 0) rfl
theorem zg_97_74 : Zgo d 97 74 L st S Q ↔ (zldi L 2 False fun x => Zgo d 97 75 L (zi x :: st) S Q) := Zgo_iff (i := .iload_n 2) (len := 1) (a := 0) (b := 0) (c := 0) (p := 0) rfl
theorem zg_97_75 : Zgo d 97 75 L st S Q ↔ (Zgo d 97 77 L (zi 64 :: st) S Q) := Zgo_iff (i := .bipush 64) (len := 2) (a := 0) (b := 0) (c := 0) (p := 0) rfl
theorem zg_97_77 : Zgo d 97 77 L st S Q ↔ (zpi st False fun y t => zpi t False fun x t => if zw x = zw y then Zgo d 97 80 L t S Q else Zgo d 97 87 L t S Q) := Zgo_iff (i := .if_icmp .ne 10) (len := 3) (a := 0) (b := 0) (c := 0) (p := 0) rfl
theorem zg_97_80 : Zgo d 97 80 L st S Q ↔ (zlda L 0 False fun r => Zgo d 97 81 L (zq r :: st) S Q) := Zgo_iff (i := .aload_n 0) (len := 1) (a := 0) (b := 0) (c := 0) (p := 0) rfl
theorem zg_97_81 : Zgo d 97 81 L st S Q ↔ (zldi L 1 False fun x => Zgo d 97 82 L (zi x :: st) S Q) := Zgo_iff (i := .iload_n 1) (len := 1) (a := 0) (b := 0) (c := 0) (p := 0) rfl
theorem zg_97_82 : Zgo d 97 82 L st S Q ↔ (zinv 2 st False fun as t => zrec as 11 False (zCp d 98 as S fun r S2 => Zgo d 97 85 L (r.toList ++ t) S2 Q)) := Zgo_iff (i := .invokevirtual 171) (len := 3) (a := 98) (b := 2) (c := 0) (p := 5127) rfl
theorem zg_97_85 : Zgo d 97 85 L st S Q ↔ (Zgo d 97 86 L (zi 0 :: st) S Q) := Zgo_iff (i := .iconst 0) (len := 1) (a := 0) (b := 0) (c := 0) (p := 0) rfl
theorem zg_97_86 : Zgo d 97 86 L st S Q ↔ (zpi st False fun x t => zem t False (Q (some (zi x)) S)) := Zgo_iff (i := .ireturn) (len := 1) (a := 0) (b := 0) (c := 0) (p := 0) rfl
theorem zg_97_87 : Zgo d 97 87 L st S Q ↔ (zldi L 2 False fun x => Zgo d 97 88 L (zi x :: st) S Q) := Zgo_iff (i := .iload_n 2) (len := 1) (a := 0) (b := 0) (c := 0) (p := 0) rfl
theorem zg_97_88 : Zgo d 97 88 L st S Q ↔ (Zgo d 97 90 L (zi 84 :: st) S Q) := Zgo_iff (i := .bipush 84) (len := 2) (a := 0) (b := 0) (c := 0) (p := 0) rfl
theorem zg_97_90 : Zgo d 97 90 L st S Q ↔ (zpi st False fun y t => zpi t False fun x t => if zw x = zw y then Zgo d 97 93 L t S Q else Zgo d 97 116 L t S Q) := Zgo_iff (i := .if_icmp .ne 26) (len := 3) (a := 0) (b := 0) (c := 0) (p := 0) rfl
theorem zg_97_93 : Zgo d 97 93 L st S Q ↔ (zlda L 0 False fun r => Zgo d 97 94 L (zq r :: st) S Q) := Zgo_iff (i := .aload_n 0) (len := 1) (a := 0) (b := 0) (c := 0) (p := 0) rfl
theorem zg_97_94 : Zgo d 97 94 L st S Q ↔ (zpa st False fun r t => zde r 11 False fun o => Zgo d 97 97 L (zq (S.2.1 11 o 12) :: t) S Q) := Zgo_iff (i := .getfield 25) (len := 3) (a := 11) (b := 12) (c := 3) (p := 4142) rfl
theorem zg_97_97 : Zgo d 97 97 L st S Q ↔ (zldi L 1 False fun x => Zgo d 97 98 L (zi x :: st) S Q) := Zgo_iff (i := .iload_n 1) (len := 1) (a := 0) (b := 0) (c := 0) (p := 0) rfl
theorem zg_97_98 : Zgo d 97 98 L st S Q ↔ (zlda L 0 False fun r => Zgo d 97 99 L (zq r :: st) S Q) := Zgo_iff (i := .aload_n 0) (len := 1) (a := 0) (b := 0) (c := 0) (p := 0) rfl
theorem zg_97_99 : Zgo d 97 99 L st S Q ↔ (zinv 1 st False fun as t => zrec as 11 False (zCp d 90 as S fun r S2 => Zgo d 97 102 L (r.toList ++ t) S2 Q)) := Zgo_iff (i := .invokevirtual 174) (len := 3) (a := 90) (b := 1) (c := 0) (p := 5095) rfl
theorem zg_97_102 : Zgo d 97 102 L st S Q ↔ (zpi st False fun v t => zpi t False fun j t => zpa t False fun r t => znn r False fun q o => zop (zArr q) False fun n => if n.1 = 0 then zix j n.2 False fun x => Zgo d 97 103 L t (zsI S.1 q o x v, S.2) Q else False) := Zgo_iff (i := .iastore) (len := 1) (a := 0) (b := 0) (c := 0) (p := 0) rfl
theorem zg_97_103 : Zgo d 97 103 L st S Q ↔ (zlda L 0 False fun r => Zgo d 97 104 L (zq r :: st) S Q) := Zgo_iff (i := .aload_n 0) (len := 1) (a := 0) (b := 0) (c := 0) (p := 0) rfl
theorem zg_97_104 : Zgo d 97 104 L st S Q ↔ (zldi L 1 False fun x => Zgo d 97 105 L (zi x :: st) S Q) := Zgo_iff (i := .iload_n 1) (len := 1) (a := 0) (b := 0) (c := 0) (p := 0) rfl
theorem zg_97_105 : Zgo d 97 105 L st S Q ↔ (zinv 2 st False fun as t => zrec as 11 False (zCp d 98 as S fun r S2 => Zgo d 97 108 L (r.toList ++ t) S2 Q)) := Zgo_iff (i := .invokevirtual 171) (len := 3) (a := 98) (b := 2) (c := 0) (p := 5127) rfl
theorem zg_97_108 : Zgo d 97 108 L st S Q ↔ (zlda L 0 False fun r => Zgo d 97 109 L (zq r :: st) S Q) := Zgo_iff (i := .aload_n 0) (len := 1) (a := 0) (b := 0) (c := 0) (p := 0) rfl
theorem zg_97_109 : Zgo d 97 109 L st S Q ↔ (Zgo d 97 111 L (zi 59 :: st) S Q) := Zgo_iff (i := .bipush 59) (len := 2) (a := 0) (b := 0) (c := 0) (p := 0) rfl
theorem zg_97_111 : Zgo d 97 111 L st S Q ↔ (zinv 2 st False fun as t => zrec as 11 False (zCp d 93 as S fun r S2 => Zgo d 97 114 L (r.toList ++ t) S2 Q)) := Zgo_iff (i := .invokevirtual 162) (len := 3) (a := 93) (b := 2) (c := 0) (p := 5107) rfl
theorem zg_97_114 : Zgo d 97 114 L st S Q ↔ (Zgo d 97 115 L (zi (-1) :: st) S Q) := Zgo_iff (i := .iconst (-1)) (len := 1) (a := 0) (b := 0) (c := 0) (p := 0) rfl
theorem zg_97_115 : Zgo d 97 115 L st S Q ↔ (zpi st False fun x t => zem t False (Q (some (zi x)) S)) := Zgo_iff (i := .ireturn) (len := 1) (a := 0) (b := 0) (c := 0) (p := 0) rfl
theorem zg_97_116 : Zgo d 97 116 L st S Q ↔ (zldi L 2 False fun x => Zgo d 97 117 L (zi x :: st) S Q) := Zgo_iff (i := .iload_n 2) (len := 1) (a := 0) (b := 0) (c := 0) (p := 0) rfl
theorem zg_97_117 : Zgo d 97 117 L st S Q ↔ (Zgo d 97 119 L (zi 80 :: st) S Q) := Zgo_iff (i := .bipush 80) (len := 2) (a := 0) (b := 0) (c := 0) (p := 0) rfl
theorem zg_97_119 : Zgo d 97 119 L st S Q ↔ (zpi st False fun y t => zpi t False fun x t => if zw x = zw y then Zgo d 97 122 L t S Q else Zgo d 97 140 L t S Q) := Zgo_iff (i := .if_icmp .ne 21) (len := 3) (a := 0) (b := 0) (c := 0) (p := 0) rfl
theorem zg_97_122 : Zgo d 97 122 L st S Q ↔ (zlda L 0 False fun r => Zgo d 97 123 L (zq r :: st) S Q) := Zgo_iff (i := .aload_n 0) (len := 1) (a := 0) (b := 0) (c := 0) (p := 0) rfl
theorem zg_97_123 : Zgo d 97 123 L st S Q ↔ (zpa st False fun r t => zde r 11 False fun o => Zgo d 97 126 L (zq (S.2.1 11 o 12) :: t) S Q) := Zgo_iff (i := .getfield 25) (len := 3) (a := 11) (b := 12) (c := 3) (p := 4142) rfl
theorem zg_97_126 : Zgo d 97 126 L st S Q ↔ (zldi L 1 False fun x => Zgo d 97 127 L (zi x :: st) S Q) := Zgo_iff (i := .iload_n 1) (len := 1) (a := 0) (b := 0) (c := 0) (p := 0) rfl
theorem zg_97_127 : Zgo d 97 127 L st S Q ↔ (zlda L 0 False fun r => Zgo d 97 128 L (zq r :: st) S Q) := Zgo_iff (i := .aload_n 0) (len := 1) (a := 0) (b := 0) (c := 0) (p := 0) rfl
theorem zg_97_128 : Zgo d 97 128 L st S Q ↔ (zinv 1 st False fun as t => zrec as 11 False (zCp d 88 as S fun r S2 => Zgo d 97 131 L (r.toList ++ t) S2 Q)) := Zgo_iff (i := .invokevirtual 177) (len := 3) (a := 88) (b := 1) (c := 0) (p := 5088) rfl
theorem zg_97_131 : Zgo d 97 131 L st S Q ↔ (zpi st False fun v t => zpi t False fun j t => zpa t False fun r t => znn r False fun q o => zop (zArr q) False fun n => if n.1 = 0 then zix j n.2 False fun x => Zgo d 97 132 L t (zsI S.1 q o x v, S.2) Q else False) := Zgo_iff (i := .iastore) (len := 1) (a := 0) (b := 0) (c := 0) (p := 0) rfl
theorem zg_97_132 : Zgo d 97 132 L st S Q ↔ (zlda L 0 False fun r => Zgo d 97 133 L (zq r :: st) S Q) := Zgo_iff (i := .aload_n 0) (len := 1) (a := 0) (b := 0) (c := 0) (p := 0) rfl
theorem zg_97_133 : Zgo d 97 133 L st S Q ↔ (Zgo d 97 135 L (zi 59 :: st) S Q) := Zgo_iff (i := .bipush 59) (len := 2) (a := 0) (b := 0) (c := 0) (p := 0) rfl
theorem zg_97_135 : Zgo d 97 135 L st S Q ↔ (zinv 2 st False fun as t => zrec as 11 False (zCp d 93 as S fun r S2 => Zgo d 97 138 L (r.toList ++ t) S2 Q)) := Zgo_iff (i := .invokevirtual 162) (len := 3) (a := 93) (b := 2) (c := 0) (p := 5107) rfl
theorem zg_97_138 : Zgo d 97 138 L st S Q ↔ (Zgo d 97 139 L (zi (-1) :: st) S Q) := Zgo_iff (i := .iconst (-1)) (len := 1) (a := 0) (b := 0) (c := 0) (p := 0) rfl
theorem zg_97_139 : Zgo d 97 139 L st S Q ↔ (zpi st False fun x t => zem t False (Q (some (zi x)) S)) := Zgo_iff (i := .ireturn) (len := 1) (a := 0) (b := 0) (c := 0) (p := 0) rfl
theorem zg_97_140 : Zgo d 97 140 L st S Q ↔ (zldi L 2 False fun x => Zgo d 97 141 L (zi x :: st) S Q) := Zgo_iff (i := .iload_n 2) (len := 1) (a := 0) (b := 0) (c := 0) (p := 0) rfl
theorem zg_97_141 : Zgo d 97 141 L st S Q ↔ (Zgo d 97 143 L (zi 89 :: st) S Q) := Zgo_iff (i := .bipush 89) (len := 2) (a := 0) (b := 0) (c := 0) (p := 0) rfl
theorem zg_97_143 : Zgo d 97 143 L st S Q ↔ (zpi st False fun y t => zpi t False fun x t => if zw x = zw y then Zgo d 97 146 L t S Q else Zgo d 97 148 L t S Q) := Zgo_iff (i := .if_icmp .ne 5) (len := 3) (a := 0) (b := 0) (c := 0) (p := 0) rfl
theorem zg_97_146 : Zgo d 97 146 L st S Q ↔ (Zgo d 97 147 L (zi 0 :: st) S Q) := Zgo_iff (i := .iconst 0) (len := 1) (a := 0) (b := 0) (c := 0) (p := 0) rfl
theorem zg_97_147 : Zgo d 97 147 L st S Q ↔ (zpi st False fun x t => zem t False (Q (some (zi x)) S)) := Zgo_iff (i := .ireturn) (len := 1) (a := 0) (b := 0) (c := 0) (p := 0) rfl
theorem zg_97_148 : Zgo d 97 148 L st S Q ↔ (zlda L 0 False fun r => Zgo d 97 149 L (zq r :: st) S Q) := Zgo_iff (i := .aload_n 0) (len := 1) (a := 0) (b := 0) (c := 0) (p := 0) rfl
theorem zg_97_149 : Zgo d 97 149 L st S Q ↔ (zlda L 0 False fun r => Zgo d 97 150 L (zq r :: st) S Q) := Zgo_iff (i := .aload_n 0) (len := 1) (a := 0) (b := 0) (c := 0) (p := 0) rfl
theorem zg_97_150 : Zgo d 97 150 L st S Q ↔ (zpa st False fun r t => zde r 11 False fun o => Zgo d 97 153 L (zi (S.1 11 o 4) :: t) S Q) := Zgo_iff (i := .getfield 130) (len := 3) (a := 11) (b := 4) (c := 1) (p := 4134) rfl
theorem zg_97_153 : Zgo d 97 153 L st S Q ↔ (zpi st False fun x t => if zw x = zw 0 then Zgo d 97 156 L t S Q else Zgo d 97 180 L t S Q) := Zgo_iff (i := .ifCond .ne 27) (len := 3) (a := 0) (b := 0) (c := 0) (p := 0) rfl
theorem zg_97_156 : Zgo d 97 156 L st S Q ↔ (zldi L 2 False fun x => Zgo d 97 157 L (zi x :: st) S Q) := Zgo_iff (i := .iload_n 2) (len := 1) (a := 0) (b := 0) (c := 0) (p := 0) rfl
theorem zg_97_157 : Zgo d 97 157 L st S Q ↔ (Zgo d 97 159 L (zi 66 :: st) S Q) := Zgo_iff (i := .bipush 66) (len := 2) (a := 0) (b := 0) (c := 0) (p := 0) rfl
theorem zg_97_159 : Zgo d 97 159 L st S Q ↔ (zpi st False fun y t => zpi t False fun x t => if zw x = zw y then Zgo d 97 184 L t S Q else Zgo d 97 162 L t S Q) := Zgo_iff (i := .if_icmp .eq 25) (len := 3) (a := 0) (b := 0) (c := 0) (p := 0) rfl
theorem zg_97_162 : Zgo d 97 162 L st S Q ↔ (zldi L 2 False fun x => Zgo d 97 163 L (zi x :: st) S Q) := Zgo_iff (i := .iload_n 2) (len := 1) (a := 0) (b := 0) (c := 0) (p := 0) rfl
theorem zg_97_163 : Zgo d 97 163 L st S Q ↔ (Zgo d 97 165 L (zi 67 :: st) S Q) := Zgo_iff (i := .bipush 67) (len := 2) (a := 0) (b := 0) (c := 0) (p := 0) rfl
theorem zg_97_165 : Zgo d 97 165 L st S Q ↔ (zpi st False fun y t => zpi t False fun x t => if zw x = zw y then Zgo d 97 184 L t S Q else Zgo d 97 168 L t S Q) := Zgo_iff (i := .if_icmp .eq 19) (len := 3) (a := 0) (b := 0) (c := 0) (p := 0) rfl
theorem zg_97_168 : Zgo d 97 168 L st S Q ↔ (zldi L 2 False fun x => Zgo d 97 169 L (zi x :: st) S Q) := Zgo_iff (i := .iload_n 2) (len := 1) (a := 0) (b := 0) (c := 0) (p := 0) rfl
theorem zg_97_169 : Zgo d 97 169 L st S Q ↔ (Zgo d 97 171 L (zi 82 :: st) S Q) := Zgo_iff (i := .bipush 82) (len := 2) (a := 0) (b := 0) (c := 0) (p := 0) rfl
theorem zg_97_171 : Zgo d 97 171 L st S Q ↔ (zpi st False fun y t => zpi t False fun x t => if zw x = zw y then Zgo d 97 184 L t S Q else Zgo d 97 174 L t S Q) := Zgo_iff (i := .if_icmp .eq 13) (len := 3) (a := 0) (b := 0) (c := 0) (p := 0) rfl
theorem zg_97_174 : Zgo d 97 174 L st S Q ↔ (zldi L 2 False fun x => Zgo d 97 175 L (zi x :: st) S Q) := Zgo_iff (i := .iload_n 2) (len := 1) (a := 0) (b := 0) (c := 0) (p := 0) rfl
theorem zg_97_175 : Zgo d 97 175 L st S Q ↔ (Zgo d 97 177 L (zi 88 :: st) S Q) := Zgo_iff (i := .bipush 88) (len := 2) (a := 0) (b := 0) (c := 0) (p := 0) rfl
theorem zg_97_177 : Zgo d 97 177 L st S Q ↔ (zpi st False fun y t => zpi t False fun x t => if zw x = zw y then Zgo d 97 184 L t S Q else Zgo d 97 180 L t S Q) := Zgo_iff (i := .if_icmp .eq 7) (len := 3) (a := 0) (b := 0) (c := 0) (p := 0) rfl
theorem zg_97_180 : Zgo d 97 180 L st S Q ↔ (Zgo d 97 181 L (zi 1 :: st) S Q) := Zgo_iff (i := .iconst 1) (len := 1) (a := 0) (b := 0) (c := 0) (p := 0) rfl
theorem zg_97_181 : Zgo d 97 181 L st S Q ↔ (Zgo d 97 185 L st S Q) := Zgo_iff (i := .goto 4) (len := 3) (a := 0) (b := 0) (c := 0) (p := 0) rfl
theorem zg_97_184 : Zgo d 97 184 L st S Q ↔ (Zgo d 97 185 L (zi 0 :: st) S Q) := Zgo_iff (i := .iconst 0) (len := 1) (a := 0) (b := 0) (c := 0) (p := 0) rfl
theorem zg_97_185 : Zgo d 97 185 L st S Q ↔ (zpi st False fun v t => zpa t False fun r t => zde r 11 False fun o => zok 1 v False (Zgo d 97 188 L t (zsI S.1 11 o 4 v, S.2) Q)) := Zgo_iff (i := .putfield 130) (len := 3) (a := 11) (b := 4) (c := 1) (p := 4134) rfl
theorem zg_97_188 : Zgo d 97 188 L st S Q ↔ (zlda L 0 False fun r => Zgo d 97 189 L (zq r :: st) S Q) := Zgo_iff (i := .aload_n 0) (len := 1) (a := 0) (b := 0) (c := 0) (p := 0) rfl
theorem zg_97_189 : Zgo d 97 189 L st S Q ↔ (Zgo d 97 191 L (zi 59 :: st) S Q) := Zgo_iff (i := .bipush 59) (len := 2) (a := 0) (b := 0) (c := 0) (p := 0) rfl
theorem zg_97_191 : Zgo d 97 191 L st S Q ↔ (zinv 2 st False fun as t => zrec as 11 False (zCp d 93 as S fun r S2 => Zgo d 97 194 L (r.toList ++ t) S2 Q)) := Zgo_iff (i := .invokevirtual 162) (len := 3) (a := 93) (b := 2) (c := 0) (p := 5107) rfl
theorem zg_97_194 : Zgo d 97 194 L st S Q ↔ (Zgo d 97 195 L (zi (-1) :: st) S Q) := Zgo_iff (i := .iconst (-1)) (len := 1) (a := 0) (b := 0) (c := 0) (p := 0) rfl
theorem zg_97_195 : Zgo d 97 195 L st S Q ↔ (zpi st False fun x t => zem t False (Q (some (zi x)) S)) := Zgo_iff (i := .ireturn) (len := 1) (a := 0) (b := 0) (c := 0) (p := 0) rfl
/-- LeavingMachineModel.expression(I)V -/
theorem zg_98_0 : Zgo d 98 0 L st S Q ↔ (zlda L 0 False fun r => Zgo d 98 1 L (zq r :: st) S Q) := Zgo_iff (i := .aload_n 0) (len := 1) (a := 0) (b := 0) (c := 0) (p := 0) rfl
theorem zg_98_1 : Zgo d 98 1 L st S Q ↔ (zpa st False fun r t => zde r 11 False fun o => Zgo d 98 4 L (zq (S.2.1 11 o 13) :: t) S Q) := Zgo_iff (i := .getfield 28) (len := 3) (a := 11) (b := 13) (c := 3) (p := 4143) rfl
theorem zg_98_4 : Zgo d 98 4 L st S Q ↔ (zldi L 1 False fun x => Zgo d 98 5 L (zi x :: st) S Q) := Zgo_iff (i := .iload_n 1) (len := 1) (a := 0) (b := 0) (c := 0) (p := 0) rfl
theorem zg_98_5 : Zgo d 98 5 L st S Q ↔ (zlda L 0 False fun r => Zgo d 98 6 L (zq r :: st) S Q) := Zgo_iff (i := .aload_n 0) (len := 1) (a := 0) (b := 0) (c := 0) (p := 0) rfl
theorem zg_98_6 : Zgo d 98 6 L st S Q ↔ (zpa st False fun r t => zde r 11 False fun o => Zgo d 98 9 L (zi (S.1 11 o 28) :: t) S Q) := Zgo_iff (i := .getfield 138) (len := 3) (a := 11) (b := 28) (c := 0) (p := 4158) rfl
theorem zg_98_9 : Zgo d 98 9 L st S Q ↔ (zpi st False fun v t => zpi t False fun j t => zpa t False fun r t => znn r False fun q o => zop (zArr q) False fun n => if n.1 = 0 then zix j n.2 False fun x => Zgo d 98 10 L t (zsI S.1 q o x v, S.2) Q else False) := Zgo_iff (i := .iastore) (len := 1) (a := 0) (b := 0) (c := 0) (p := 0) rfl
theorem zg_98_10 : Zgo d 98 10 L st S Q ↔ (Zgo d 98 11 L (zi 0 :: st) S Q) := Zgo_iff (i := .iconst 0) (len := 1) (a := 0) (b := 0) (c := 0) (p := 0) rfl
theorem zg_98_11 : Zgo d 98 11 L st S Q ↔ (zpi st False fun x t => Zgo d 98 12 (zst L 2 (some (zi x))) t S Q) := Zgo_iff (i := .istore_n 2) (len := 1) (a := 0) (b := 0) (c := 0) (p := 0) rfl
theorem zg_98_12 : Zgo d 98 12 L st S Q ↔ (zlda L 0 False fun r => Zgo d 98 13 L (zq r :: st) S Q) := Zgo_iff (i := .aload_n 0) (len := 1) (a := 0) (b := 0) (c := 0) (p := 0) rfl
theorem zg_98_13 : Zgo d 98 13 L st S Q ↔ (zpa st False fun r t => zde r 11 False fun o => Zgo d 98 16 L (zq (S.2.1 11 o 32) :: t) S Q) := Zgo_iff (i := .getfield 79) (len := 3) (a := 11) (b := 32) (c := 3) (p := 4162) rfl
theorem zg_98_16 : Zgo d 98 16 L st S Q ↔ (Zgo d 98 17 L (zi 0 :: st) S Q) := Zgo_iff (i := .iconst 0) (len := 1) (a := 0) (b := 0) (c := 0) (p := 0) rfl
theorem zg_98_17 : Zgo d 98 17 L st S Q ↔ (Zgo d 98 18 L (zi 0 :: st) S Q) := Zgo_iff (i := .iconst 0) (len := 1) (a := 0) (b := 0) (c := 0) (p := 0) rfl
theorem zg_98_18 : Zgo d 98 18 L st S Q ↔ (zpi st False fun v t => zpi t False fun j t => zpa t False fun r t => znn r False fun q o => zop (zArr q) False fun n => if n.1 = 0 then zix j n.2 False fun x => Zgo d 98 19 L t (zsI S.1 q o x v, S.2) Q else False) := Zgo_iff (i := .iastore) (len := 1) (a := 0) (b := 0) (c := 0) (p := 0) rfl
theorem zg_98_19 : Zgo d 98 19 L st S Q ↔ (Zgo d 98 20 L (zi 1 :: st) S Q) := Zgo_iff (i := .iconst 1) (len := 1) (a := 0) (b := 0) (c := 0) (p := 0) rfl
theorem zg_98_20 : Zgo d 98 20 L st S Q ↔ (zpi st False fun x t => Zgo d 98 21 (zst L 3 (some (zi x))) t S Q) := Zgo_iff (i := .istore_n 3) (len := 1) (a := 0) (b := 0) (c := 0) (p := 0) rfl
theorem zg_98_21 : Zgo d 98 21 L st S Q ↔ (Zgo d 98 22 L (zi 1 :: st) S Q) := Zgo_iff (i := .iconst 1) (len := 1) (a := 0) (b := 0) (c := 0) (p := 0) rfl
theorem zg_98_22 : Zgo d 98 22 L st S Q ↔ (zpi st False fun x t => Zgo d 98 24 (zst L 4 (some (zi x))) t S Q) := Zgo_iff (i := .istore 4) (len := 2) (a := 0) (b := 0) (c := 0) (p := 0) rfl
theorem zg_98_24 : Zgo d 98 24 L st S Q ↔ (zldi L 4 False fun x => Zgo d 98 26 L (zi x :: st) S Q) := Zgo_iff (i := .iload 4) (len := 2) (a := 0) (b := 0) (c := 0) (p := 0) rfl
theorem zg_98_26 : Zgo d 98 26 L st S Q ↔ (zpi st False fun x t => if zw x = zw 0 then Zgo d 98 211 L t S Q else Zgo d 98 29 L t S Q) := Zgo_iff (i := .ifCond .eq 185) (len := 3) (a := 0) (b := 0) (c := 0) (p := 0) rfl
theorem zg_98_29 : Zgo d 98 29 L st S Q ↔ (zlda L 0 False fun r => Zgo d 98 30 L (zq r :: st) S Q) := Zgo_iff (i := .aload_n 0) (len := 1) (a := 0) (b := 0) (c := 0) (p := 0) rfl
theorem zg_98_30 : Zgo d 98 30 L st S Q ↔ (zpa st False fun r t => zde r 11 False fun o => Zgo d 98 33 L (zi (S.1 11 o 4) :: t) S Q) := Zgo_iff (i := .getfield 130) (len := 3) (a := 11) (b := 4) (c := 1) (p := 4134) rfl
theorem zg_98_33 : Zgo d 98 33 L st S Q ↔ (zpi st False fun x t => if zw x = zw 0 then Zgo d 98 36 L t S Q else Zgo d 98 211 L t S Q) := Zgo_iff (i := .ifCond .ne 178) (len := 3) (a := 0) (b := 0) (c := 0) (p := 0) rfl
theorem zg_98_36 : Zgo d 98 36 L st S Q ↔ (zlda L 0 False fun r => Zgo d 98 37 L (zq r :: st) S Q) := Zgo_iff (i := .aload_n 0) (len := 1) (a := 0) (b := 0) (c := 0) (p := 0) rfl
theorem zg_98_37 : Zgo d 98 37 L st S Q ↔ (zinv 1 st False fun as t => zrec as 11 False (zCp d 87 as S fun r S2 => Zgo d 98 40 L (r.toList ++ t) S2 Q)) := Zgo_iff (i := .invokevirtual 134) (len := 3) (a := 87) (b := 1) (c := 0) (p := 5084) rfl
theorem zg_98_40 : Zgo d 98 40 L st S Q ↔ (zpi st False fun x t => Zgo d 98 42 (zst L 5 (some (zi x))) t S Q) := Zgo_iff (i := .istore 5) (len := 2) (a := 0) (b := 0) (c := 0) (p := 0) rfl
theorem zg_98_42 : Zgo d 98 42 L st S Q ↔ (zldi L 3 False fun x => Zgo d 98 43 L (zi x :: st) S Q) := Zgo_iff (i := .iload_n 3) (len := 1) (a := 0) (b := 0) (c := 0) (p := 0) rfl
theorem zg_98_43 : Zgo d 98 43 L st S Q ↔ (zpi st False fun x t => if zw x = zw 0 then Zgo d 98 90 L t S Q else Zgo d 98 46 L t S Q) := Zgo_iff (i := .ifCond .eq 47) (len := 3) (a := 0) (b := 0) (c := 0) (p := 0) rfl
theorem zg_98_46 : Zgo d 98 46 L st S Q ↔ (zldi L 5 False fun x => Zgo d 98 48 L (zi x :: st) S Q) := Zgo_iff (i := .iload 5) (len := 2) (a := 0) (b := 0) (c := 0) (p := 0) rfl
theorem zg_98_48 : Zgo d 98 48 L st S Q ↔ (Zgo d 98 50 L (zi 40 :: st) S Q) := Zgo_iff (i := .bipush 40) (len := 2) (a := 0) (b := 0) (c := 0) (p := 0) rfl
theorem zg_98_50 : Zgo d 98 50 L st S Q ↔ (zpi st False fun y t => zpi t False fun x t => if zw x = zw y then Zgo d 98 53 L t S Q else Zgo d 98 90 L t S Q) := Zgo_iff (i := .if_icmp .ne 40) (len := 3) (a := 0) (b := 0) (c := 0) (p := 0) rfl
theorem zg_98_53 : Zgo d 98 53 L st S Q ↔ (zldi L 2 False fun x => Zgo d 98 56 (zst L 2 (some (zi (x + 1)))) st S Q) := Zgo_iff (i := .iinc 2 1) (len := 3) (a := 0) (b := 0) (c := 0) (p := 0) rfl
theorem zg_98_56 : Zgo d 98 56 L st S Q ↔ (zlda L 0 False fun r => Zgo d 98 57 L (zq r :: st) S Q) := Zgo_iff (i := .aload_n 0) (len := 1) (a := 0) (b := 0) (c := 0) (p := 0) rfl
theorem zg_98_57 : Zgo d 98 57 L st S Q ↔ (zldi L 2 False fun x => Zgo d 98 58 L (zi x :: st) S Q) := Zgo_iff (i := .iload_n 2) (len := 1) (a := 0) (b := 0) (c := 0) (p := 0) rfl
theorem zg_98_58 : Zgo d 98 58 L st S Q ↔ (Zgo d 98 59 L (zi 3 :: st) S Q) := Zgo_iff (i := .iconst 3) (len := 1) (a := 0) (b := 0) (c := 0) (p := 0) rfl
theorem zg_98_59 : Zgo d 98 59 L st S Q ↔ (zpi st False fun y t => zpi t False fun x t => if zw y < zw x then Zgo d 98 62 L t S Q else Zgo d 98 66 L t S Q) := Zgo_iff (i := .if_icmp .le 7) (len := 3) (a := 0) (b := 0) (c := 0) (p := 0) rfl
theorem zg_98_62 : Zgo d 98 62 L st S Q ↔ (Zgo d 98 63 L (zi 1 :: st) S Q) := Zgo_iff (i := .iconst 1) (len := 1) (a := 0) (b := 0) (c := 0) (p := 0) rfl
theorem zg_98_63 : Zgo d 98 63 L st S Q ↔ (Zgo d 98 67 L st S Q) := Zgo_iff (i := .goto 4) (len := 3) (a := 0) (b := 0) (c := 0) (p := 0) rfl
theorem zg_98_66 : Zgo d 98 66 L st S Q ↔ (Zgo d 98 67 L (zi 0 :: st) S Q) := Zgo_iff (i := .iconst 0) (len := 1) (a := 0) (b := 0) (c := 0) (p := 0) rfl
theorem zg_98_67 : Zgo d 98 67 L st S Q ↔ (zpi st False fun v t => zpa t False fun r t => zde r 11 False fun o => zok 1 v False (Zgo d 98 70 L t (zsI S.1 11 o 4 v, S.2) Q)) := Zgo_iff (i := .putfield 130) (len := 3) (a := 11) (b := 4) (c := 1) (p := 4134) rfl
theorem zg_98_70 : Zgo d 98 70 L st S Q ↔ (zlda L 0 False fun r => Zgo d 98 71 L (zq r :: st) S Q) := Zgo_iff (i := .aload_n 0) (len := 1) (a := 0) (b := 0) (c := 0) (p := 0) rfl
theorem zg_98_71 : Zgo d 98 71 L st S Q ↔ (zpa st False fun r t => zde r 11 False fun o => Zgo d 98 74 L (zq (S.2.1 11 o 32) :: t) S Q) := Zgo_iff (i := .getfield 79) (len := 3) (a := 11) (b := 32) (c := 3) (p := 4162) rfl
theorem zg_98_74 : Zgo d 98 74 L st S Q ↔ (zldi L 2 False fun x => Zgo d 98 75 L (zi x :: st) S Q) := Zgo_iff (i := .iload_n 2) (len := 1) (a := 0) (b := 0) (c := 0) (p := 0) rfl
theorem zg_98_75 : Zgo d 98 75 L st S Q ↔ (Zgo d 98 76 L (zi 0 :: st) S Q) := Zgo_iff (i := .iconst 0) (len := 1) (a := 0) (b := 0) (c := 0) (p := 0) rfl
theorem zg_98_76 : Zgo d 98 76 L st S Q ↔ (zpi st False fun v t => zpi t False fun j t => zpa t False fun r t => znn r False fun q o => zop (zArr q) False fun n => if n.1 = 0 then zix j n.2 False fun x => Zgo d 98 77 L t (zsI S.1 q o x v, S.2) Q else False) := Zgo_iff (i := .iastore) (len := 1) (a := 0) (b := 0) (c := 0) (p := 0) rfl
theorem zg_98_77 : Zgo d 98 77 L st S Q ↔ (zlda L 0 False fun r => Zgo d 98 78 L (zq r :: st) S Q) := Zgo_iff (i := .aload_n 0) (len := 1) (a := 0) (b := 0) (c := 0) (p := 0) rfl
theorem zg_98_78 : Zgo d 98 78 L st S Q ↔ (zp1 st False fun v t => Zgo d 98 79 L (v :: v :: t) S Q) := Zgo_iff (i := .dup) (len := 1) (a := 0) (b := 0) (c := 0) (p := 0) rfl
theorem zg_98_79 : Zgo d 98 79 L st S Q ↔ (zpa st False fun r t => zde r 11 False fun o => Zgo d 98 82 L (zi (S.1 11 o 3) :: t) S Q) := Zgo_iff (i := .getfield 127) (len := 3) (a := 11) (b := 3) (c := 0) (p := 4133) rfl
theorem zg_98_82 : Zgo d 98 82 L st S Q ↔ (Zgo d 98 83 L (zi 1 :: st) S Q) := Zgo_iff (i := .iconst 1) (len := 1) (a := 0) (b := 0) (c := 0) (p := 0) rfl
theorem zg_98_83 : Zgo d 98 83 L st S Q ↔ (zpi st False fun y t => zpi t False fun x t => Zgo d 98 84 L (zi (x + y) :: t) S Q) := Zgo_iff (i := .iadd) (len := 1) (a := 0) (b := 0) (c := 0) (p := 0) rfl
theorem zg_98_84 : Zgo d 98 84 L st S Q ↔ (zpi st False fun v t => zpa t False fun r t => zde r 11 False fun o => Zgo d 98 87 L t (zsI S.1 11 o 3 v, S.2) Q) := Zgo_iff (i := .putfield 127) (len := 3) (a := 11) (b := 3) (c := 0) (p := 4133) rfl
theorem zg_98_87 : Zgo d 98 87 L st S Q ↔ (Zgo d 98 208 L st S Q) := Zgo_iff (i := .goto 121) (len := 3) (a := 0) (b := 0) (c := 0) (p := 0) rfl
theorem zg_98_90 : Zgo d 98 90 L st S Q ↔ (zldi L 3 False fun x => Zgo d 98 91 L (zi x :: st) S Q) := Zgo_iff (i := .iload_n 3) (len := 1) (a := 0) (b := 0) (c := 0) (p := 0) rfl
theorem zg_98_91 : Zgo d 98 91 L st S Q ↔ (zpi st False fun x t => if zw x = zw 0 then Zgo d 98 129 L t S Q else Zgo d 98 94 L t S Q) := Zgo_iff (i := .ifCond .eq 38) (len := 3) (a := 0) (b := 0) (c := 0) (p := 0) rfl
theorem zg_98_94 : Zgo d 98 94 L st S Q ↔ (zldi L 5 False fun x => Zgo d 98 96 L (zi x :: st) S Q) := Zgo_iff (i := .iload 5) (len := 2) (a := 0) (b := 0) (c := 0) (p := 0) rfl
theorem zg_98_96 : Zgo d 98 96 L st S Q ↔ (zinv 1 st False fun as t => zCp d 89 as S fun r S2 => Zgo d 98 99 L (r.toList ++ t) S2 Q) := Zgo_iff (i := .invokestatic 141) (len := 3) (a := 89) (b := 1) (c := 1) (p := 5092) rfl
theorem zg_98_99 : Zgo d 98 99 L st S Q ↔ (zpi st False fun x t => if zw x = zw 0 then Zgo d 98 109 L t S Q else Zgo d 98 102 L t S Q) := Zgo_iff (i := .ifCond .eq 10) (len := 3) (a := 0) (b := 0) (c := 0) (p := 0) rfl
theorem zg_98_102 : Zgo d 98 102 L st S Q ↔ (zlda L 0 False fun r => Zgo d 98 103 L (zq r :: st) S Q) := Zgo_iff (i := .aload_n 0) (len := 1) (a := 0) (b := 0) (c := 0) (p := 0) rfl
theorem zg_98_103 : Zgo d 98 103 L st S Q ↔ (zinv 1 st False fun as t => zrec as 11 False (zCp d 99 as S fun r S2 => Zgo d 98 106 L (r.toList ++ t) S2 Q)) := Zgo_iff (i := .invokevirtual 149) (len := 3) (a := 99) (b := 1) (c := 0) (p := 5131) rfl
theorem zg_98_106 : Zgo d 98 106 L st S Q ↔ (Zgo d 98 119 L st S Q) := Zgo_iff (i := .goto 13) (len := 3) (a := 0) (b := 0) (c := 0) (p := 0) rfl
theorem zg_98_109 : Zgo d 98 109 L st S Q ↔ (zlda L 0 False fun r => Zgo d 98 110 L (zq r :: st) S Q) := Zgo_iff (i := .aload_n 0) (len := 1) (a := 0) (b := 0) (c := 0) (p := 0) rfl
theorem zg_98_110 : Zgo d 98 110 L st S Q ↔ (Zgo d 98 112 L (zi 97 :: st) S Q) := Zgo_iff (i := .bipush 97) (len := 2) (a := 0) (b := 0) (c := 0) (p := 0) rfl
theorem zg_98_112 : Zgo d 98 112 L st S Q ↔ (zlda L 0 False fun r => Zgo d 98 113 L (zq r :: st) S Q) := Zgo_iff (i := .aload_n 0) (len := 1) (a := 0) (b := 0) (c := 0) (p := 0) rfl
theorem zg_98_113 : Zgo d 98 113 L st S Q ↔ (zinv 1 st False fun as t => zrec as 11 False (zCp d 95 as S fun r S2 => Zgo d 98 116 L (r.toList ++ t) S2 Q)) := Zgo_iff (i := .invokevirtual 152) (len := 3) (a := 95) (b := 1) (c := 0) (p := 5115) rfl
theorem zg_98_116 : Zgo d 98 116 L st S Q ↔ (zinv 3 st False fun as t => zrec as 11 False (zCp d 100 as S fun r S2 => Zgo d 98 119 L (r.toList ++ t) S2 Q)) := Zgo_iff (i := .invokevirtual 145) (len := 3) (a := 100) (b := 3) (c := 0) (p := 5135) rfl
theorem zg_98_119 : Zgo d 98 119 L st S Q ↔ (Zgo d 98 120 L (zi 0 :: st) S Q) := Zgo_iff (i := .iconst 0) (len := 1) (a := 0) (b := 0) (c := 0) (p := 0) rfl
theorem zg_98_120 : Zgo d 98 120 L st S Q ↔ (zpi st False fun x t => Zgo d 98 121 (zst L 3 (some (zi x))) t S Q) := Zgo_iff (i := .istore_n 3) (len := 1) (a := 0) (b := 0) (c := 0) (p := 0) rfl
theorem zg_98_121 : Zgo d 98 121 L st S Q ↔ (zlda L 0 False fun r => Zgo d 98 122 L (zq r :: st) S Q) := Zgo_iff (i := .aload_n 0) (len := 1) (a := 0) (b := 0) (c := 0) (p := 0) rfl
theorem zg_98_122 : Zgo d 98 122 L st S Q ↔ (zldi L 2 False fun x => Zgo d 98 123 L (zi x :: st) S Q) := Zgo_iff (i := .iload_n 2) (len := 1) (a := 0) (b := 0) (c := 0) (p := 0) rfl
theorem zg_98_123 : Zgo d 98 123 L st S Q ↔ (zinv 2 st False fun as t => zrec as 11 False (zCp d 101 as S fun r S2 => Zgo d 98 126 L (r.toList ++ t) S2 Q)) := Zgo_iff (i := .invokevirtual 155) (len := 3) (a := 101) (b := 2) (c := 0) (p := 5139) rfl
theorem zg_98_126 : Zgo d 98 126 L st S Q ↔ (Zgo d 98 208 L st S Q) := Zgo_iff (i := .goto 82) (len := 3) (a := 0) (b := 0) (c := 0) (p := 0) rfl
theorem zg_98_129 : Zgo d 98 129 L st S Q ↔ (zldi L 5 False fun x => Zgo d 98 131 L (zi x :: st) S Q) := Zgo_iff (i := .iload 5) (len := 2) (a := 0) (b := 0) (c := 0) (p := 0) rfl
theorem zg_98_131 : Zgo d 98 131 L st S Q ↔ (zinv 1 st False fun as t => zCp d 102 as S fun r S2 => Zgo d 98 134 L (r.toList ++ t) S2 Q) := Zgo_iff (i := .invokestatic 159) (len := 3) (a := 102) (b := 1) (c := 1) (p := 5143) rfl
theorem zg_98_134 : Zgo d 98 134 L st S Q ↔ (zpi st False fun x t => if zw x = zw 0 then Zgo d 98 160 L t S Q else Zgo d 98 137 L t S Q) := Zgo_iff (i := .ifCond .eq 26) (len := 3) (a := 0) (b := 0) (c := 0) (p := 0) rfl
theorem zg_98_137 : Zgo d 98 137 L st S Q ↔ (zlda L 0 False fun r => Zgo d 98 138 L (zq r :: st) S Q) := Zgo_iff (i := .aload_n 0) (len := 1) (a := 0) (b := 0) (c := 0) (p := 0) rfl
theorem zg_98_138 : Zgo d 98 138 L st S Q ↔ (zpa st False fun r t => zde r 11 False fun o => Zgo d 98 141 L (zq (S.2.1 11 o 32) :: t) S Q) := Zgo_iff (i := .getfield 79) (len := 3) (a := 11) (b := 32) (c := 3) (p := 4162) rfl
theorem zg_98_141 : Zgo d 98 141 L st S Q ↔ (zldi L 2 False fun x => Zgo d 98 142 L (zi x :: st) S Q) := Zgo_iff (i := .iload_n 2) (len := 1) (a := 0) (b := 0) (c := 0) (p := 0) rfl
theorem zg_98_142 : Zgo d 98 142 L st S Q ↔ (zldi L 5 False fun x => Zgo d 98 144 L (zi x :: st) S Q) := Zgo_iff (i := .iload 5) (len := 2) (a := 0) (b := 0) (c := 0) (p := 0) rfl
theorem zg_98_144 : Zgo d 98 144 L st S Q ↔ (zpi st False fun v t => zpi t False fun j t => zpa t False fun r t => znn r False fun q o => zop (zArr q) False fun n => if n.1 = 0 then zix j n.2 False fun x => Zgo d 98 145 L t (zsI S.1 q o x v, S.2) Q else False) := Zgo_iff (i := .iastore) (len := 1) (a := 0) (b := 0) (c := 0) (p := 0) rfl
theorem zg_98_145 : Zgo d 98 145 L st S Q ↔ (zlda L 0 False fun r => Zgo d 98 146 L (zq r :: st) S Q) := Zgo_iff (i := .aload_n 0) (len := 1) (a := 0) (b := 0) (c := 0) (p := 0) rfl
theorem zg_98_146 : Zgo d 98 146 L st S Q ↔ (zp1 st False fun v t => Zgo d 98 147 L (v :: v :: t) S Q) := Zgo_iff (i := .dup) (len := 1) (a := 0) (b := 0) (c := 0) (p := 0) rfl
theorem zg_98_147 : Zgo d 98 147 L st S Q ↔ (zpa st False fun r t => zde r 11 False fun o => Zgo d 98 150 L (zi (S.1 11 o 3) :: t) S Q) := Zgo_iff (i := .getfield 127) (len := 3) (a := 11) (b := 3) (c := 0) (p := 4133) rfl
theorem zg_98_150 : Zgo d 98 150 L st S Q ↔ (Zgo d 98 151 L (zi 1 :: st) S Q) := Zgo_iff (i := .iconst 1) (len := 1) (a := 0) (b := 0) (c := 0) (p := 0) rfl
theorem zg_98_151 : Zgo d 98 151 L st S Q ↔ (zpi st False fun y t => zpi t False fun x t => Zgo d 98 152 L (zi (x + y) :: t) S Q) := Zgo_iff (i := .iadd) (len := 1) (a := 0) (b := 0) (c := 0) (p := 0) rfl
theorem zg_98_152 : Zgo d 98 152 L st S Q ↔ (zpi st False fun v t => zpa t False fun r t => zde r 11 False fun o => Zgo d 98 155 L t (zsI S.1 11 o 3 v, S.2) Q) := Zgo_iff (i := .putfield 127) (len := 3) (a := 11) (b := 3) (c := 0) (p := 4133) rfl
theorem zg_98_155 : Zgo d 98 155 L st S Q ↔ (Zgo d 98 156 L (zi 1 :: st) S Q) := Zgo_iff (i := .iconst 1) (len := 1) (a := 0) (b := 0) (c := 0) (p := 0) rfl
theorem zg_98_156 : Zgo d 98 156 L st S Q ↔ (zpi st False fun x t => Zgo d 98 157 (zst L 3 (some (zi x))) t S Q) := Zgo_iff (i := .istore_n 3) (len := 1) (a := 0) (b := 0) (c := 0) (p := 0) rfl
theorem zg_98_157 : Zgo d 98 157 L st S Q ↔ (Zgo d 98 208 L st S Q) := Zgo_iff (i := .goto 51) (len := 3) (a := 0) (b := 0) (c := 0) (p := 0) rfl
theorem zg_98_160 : Zgo d 98 160 L st S Q ↔ (zldi L 5 False fun x => Zgo d 98 162 L (zi x :: st) S Q) := Zgo_iff (i := .iload 5) (len := 2) (a := 0) (b := 0) (c := 0) (p := 0) rfl
theorem zg_98_162 : Zgo d 98 162 L st S Q ↔ (Zgo d 98 164 L (zi 41 :: st) S Q) := Zgo_iff (i := .bipush 41) (len := 2) (a := 0) (b := 0) (c := 0) (p := 0) rfl
theorem zg_98_164 : Zgo d 98 164 L st S Q ↔ (zpi st False fun y t => zpi t False fun x t => if zw x = zw y then Zgo d 98 167 L t S Q else Zgo d 98 192 L t S Q) := Zgo_iff (i := .if_icmp .ne 28) (len := 3) (a := 0) (b := 0) (c := 0) (p := 0) rfl
theorem zg_98_167 : Zgo d 98 167 L st S Q ↔ (zldi L 2 False fun x => Zgo d 98 168 L (zi x :: st) S Q) := Zgo_iff (i := .iload_n 2) (len := 1) (a := 0) (b := 0) (c := 0) (p := 0) rfl
theorem zg_98_168 : Zgo d 98 168 L st S Q ↔ (zpi st False fun x t => if zw 0 < zw x then Zgo d 98 171 L t S Q else Zgo d 98 192 L t S Q) := Zgo_iff (i := .ifCond .le 24) (len := 3) (a := 0) (b := 0) (c := 0) (p := 0) rfl
theorem zg_98_171 : Zgo d 98 171 L st S Q ↔ (zlda L 0 False fun r => Zgo d 98 172 L (zq r :: st) S Q) := Zgo_iff (i := .aload_n 0) (len := 1) (a := 0) (b := 0) (c := 0) (p := 0) rfl
theorem zg_98_172 : Zgo d 98 172 L st S Q ↔ (zp1 st False fun v t => Zgo d 98 173 L (v :: v :: t) S Q) := Zgo_iff (i := .dup) (len := 1) (a := 0) (b := 0) (c := 0) (p := 0) rfl
theorem zg_98_173 : Zgo d 98 173 L st S Q ↔ (zpa st False fun r t => zde r 11 False fun o => Zgo d 98 176 L (zi (S.1 11 o 3) :: t) S Q) := Zgo_iff (i := .getfield 127) (len := 3) (a := 11) (b := 3) (c := 0) (p := 4133) rfl
theorem zg_98_176 : Zgo d 98 176 L st S Q ↔ (Zgo d 98 177 L (zi 1 :: st) S Q) := Zgo_iff (i := .iconst 1) (len := 1) (a := 0) (b := 0) (c := 0) (p := 0) rfl
theorem zg_98_177 : Zgo d 98 177 L st S Q ↔ (zpi st False fun y t => zpi t False fun x t => Zgo d 98 178 L (zi (x + y) :: t) S Q) := Zgo_iff (i := .iadd) (len := 1) (a := 0) (b := 0) (c := 0) (p := 0) rfl
theorem zg_98_178 : Zgo d 98 178 L st S Q ↔ (zpi st False fun v t => zpa t False fun r t => zde r 11 False fun o => Zgo d 98 181 L t (zsI S.1 11 o 3 v, S.2) Q) := Zgo_iff (i := .putfield 127) (len := 3) (a := 11) (b := 3) (c := 0) (p := 4133) rfl
theorem zg_98_181 : Zgo d 98 181 L st S Q ↔ (zldi L 2 False fun x => Zgo d 98 184 (zst L 2 (some (zi (x + (-1))))) st S Q) := Zgo_iff (i := .iinc 2 (-1)) (len := 3) (a := 0) (b := 0) (c := 0) (p := 0) rfl
theorem zg_98_184 : Zgo d 98 184 L st S Q ↔ (zlda L 0 False fun r => Zgo d 98 185 L (zq r :: st) S Q) := Zgo_iff (i := .aload_n 0) (len := 1) (a := 0) (b := 0) (c := 0) (p := 0) rfl
theorem zg_98_185 : Zgo d 98 185 L st S Q ↔ (zldi L 2 False fun x => Zgo d 98 186 L (zi x :: st) S Q) := Zgo_iff (i := .iload_n 2) (len := 1) (a := 0) (b := 0) (c := 0) (p := 0) rfl
theorem zg_98_186 : Zgo d 98 186 L st S Q ↔ (zinv 2 st False fun as t => zrec as 11 False (zCp d 101 as S fun r S2 => Zgo d 98 189 L (r.toList ++ t) S2 Q)) := Zgo_iff (i := .invokevirtual 155) (len := 3) (a := 101) (b := 2) (c := 0) (p := 5139) rfl
theorem zg_98_189 : Zgo d 98 189 L st S Q ↔ (Zgo d 98 208 L st S Q) := Zgo_iff (i := .goto 19) (len := 3) (a := 0) (b := 0) (c := 0) (p := 0) rfl
theorem zg_98_192 : Zgo d 98 192 L st S Q ↔ (zlda L 0 False fun r => Zgo d 98 193 L (zq r :: st) S Q) := Zgo_iff (i := .aload_n 0) (len := 1) (a := 0) (b := 0) (c := 0) (p := 0) rfl
theorem zg_98_193 : Zgo d 98 193 L st S Q ↔ (zldi L 2 False fun x => Zgo d 98 194 L (zi x :: st) S Q) := Zgo_iff (i := .iload_n 2) (len := 1) (a := 0) (b := 0) (c := 0) (p := 0) rfl
theorem zg_98_194 : Zgo d 98 194 L st S Q ↔ (zpi st False fun x t => if zw 0 < zw x then Zgo d 98 197 L t S Q else Zgo d 98 201 L t S Q) := Zgo_iff (i := .ifCond .le 7) (len := 3) (a := 0) (b := 0) (c := 0) (p := 0) rfl
theorem zg_98_197 : Zgo d 98 197 L st S Q ↔ (Zgo d 98 198 L (zi 1 :: st) S Q) := Zgo_iff (i := .iconst 1) (len := 1) (a := 0) (b := 0) (c := 0) (p := 0) rfl
theorem zg_98_198 : Zgo d 98 198 L st S Q ↔ (Zgo d 98 202 L st S Q) := Zgo_iff (i := .goto 4) (len := 3) (a := 0) (b := 0) (c := 0) (p := 0) rfl
theorem zg_98_201 : Zgo d 98 201 L st S Q ↔ (Zgo d 98 202 L (zi 0 :: st) S Q) := Zgo_iff (i := .iconst 0) (len := 1) (a := 0) (b := 0) (c := 0) (p := 0) rfl
theorem zg_98_202 : Zgo d 98 202 L st S Q ↔ (zpi st False fun v t => zpa t False fun r t => zde r 11 False fun o => zok 1 v False (Zgo d 98 205 L t (zsI S.1 11 o 4 v, S.2) Q)) := Zgo_iff (i := .putfield 130) (len := 3) (a := 11) (b := 4) (c := 1) (p := 4134) rfl
theorem zg_98_205 : Zgo d 98 205 L st S Q ↔ (Zgo d 98 206 L (zi 0 :: st) S Q) := Zgo_iff (i := .iconst 0) (len := 1) (a := 0) (b := 0) (c := 0) (p := 0) rfl
theorem zg_98_206 : Zgo d 98 206 L st S Q ↔ (zpi st False fun x t => Zgo d 98 208 (zst L 4 (some (zi x))) t S Q) := Zgo_iff (i := .istore 4) (len := 2) (a := 0) (b := 0) (c := 0) (p := 0) rfl
theorem zg_98_208 : Zgo d 98 208 L st S Q ↔ (Zgo d 98 24 L st S Q) := Zgo_iff (i := .goto (-184)) (len := 3) (a := 0) (b := 0) (c := 0) (p := 0) rfl
theorem zg_98_211 : Zgo d 98 211 L st S Q ↔ (zlda L 0 False fun r => Zgo d 98 212 L (zq r :: st) S Q) := Zgo_iff (i := .aload_n 0) (len := 1) (a := 0) (b := 0) (c := 0) (p := 0) rfl
theorem zg_98_212 : Zgo d 98 212 L st S Q ↔ (zpa st False fun r t => zde r 11 False fun o => Zgo d 98 215 L (zq (S.2.1 11 o 14) :: t) S Q) := Zgo_iff (i := .getfield 31) (len := 3) (a := 11) (b := 14) (c := 3) (p := 4144) rfl
theorem zg_98_215 : Zgo d 98 215 L st S Q ↔ (zldi L 1 False fun x => Zgo d 98 216 L (zi x :: st) S Q) := Zgo_iff (i := .iload_n 1) (len := 1) (a := 0) (b := 0) (c := 0) (p := 0) rfl
theorem zg_98_216 : Zgo d 98 216 L st S Q ↔ (zlda L 0 False fun r => Zgo d 98 217 L (zq r :: st) S Q) := Zgo_iff (i := .aload_n 0) (len := 1) (a := 0) (b := 0) (c := 0) (p := 0) rfl
theorem zg_98_217 : Zgo d 98 217 L st S Q ↔ (zpa st False fun r t => zde r 11 False fun o => Zgo d 98 220 L (zi (S.1 11 o 28) :: t) S Q) := Zgo_iff (i := .getfield 138) (len := 3) (a := 11) (b := 28) (c := 0) (p := 4158) rfl
theorem zg_98_220 : Zgo d 98 220 L st S Q ↔ (zpi st False fun v t => zpi t False fun j t => zpa t False fun r t => znn r False fun q o => zop (zArr q) False fun n => if n.1 = 0 then zix j n.2 False fun x => Zgo d 98 221 L t (zsI S.1 q o x v, S.2) Q else False) := Zgo_iff (i := .iastore) (len := 1) (a := 0) (b := 0) (c := 0) (p := 0) rfl
theorem zg_98_221 : Zgo d 98 221 L st S Q ↔ (zem st False (Q none S)) := Zgo_iff (i := .return_) (len := 1) (a := 0) (b := 0) (c := 0) (p := 0) rfl
/-- LeavingMachineModel.number()V -/
theorem zg_99_0 : Zgo d 99 0 L st S Q ↔ (Zgo d 99 1 L (zi 0 :: st) S Q) := Zgo_iff (i := .iconst 0) (len := 1) (a := 0) (b := 0) (c := 0) (p := 0) rfl
theorem zg_99_1 : Zgo d 99 1 L st S Q ↔ (zpi st False fun x t => Zgo d 99 2 (zst L 1 (some (zi x))) t S Q) := Zgo_iff (i := .istore_n 1) (len := 1) (a := 0) (b := 0) (c := 0) (p := 0) rfl
theorem zg_99_2 : Zgo d 99 2 L st S Q ↔ (Zgo d 99 3 L (zi 0 :: st) S Q) := Zgo_iff (i := .iconst 0) (len := 1) (a := 0) (b := 0) (c := 0) (p := 0) rfl
theorem zg_99_3 : Zgo d 99 3 L st S Q ↔ (zpi st False fun x t => Zgo d 99 4 (zst L 2 (some (zi x))) t S Q) := Zgo_iff (i := .istore_n 2) (len := 1) (a := 0) (b := 0) (c := 0) (p := 0) rfl
theorem zg_99_4 : Zgo d 99 4 L st S Q ↔ (zlda L 0 False fun r => Zgo d 99 5 L (zq r :: st) S Q) := Zgo_iff (i := .aload_n 0) (len := 1) (a := 0) (b := 0) (c := 0) (p := 0) rfl
theorem zg_99_5 : Zgo d 99 5 L st S Q ↔ (zinv 1 st False fun as t => zrec as 11 False (zCp d 87 as S fun r S2 => Zgo d 99 8 L (r.toList ++ t) S2 Q)) := Zgo_iff (i := .invokevirtual 134) (len := 3) (a := 87) (b := 1) (c := 0) (p := 5084) rfl
theorem zg_99_8 : Zgo d 99 8 L st S Q ↔ (zinv 1 st False fun as t => zCp d 89 as S fun r S2 => Zgo d 99 11 L (r.toList ++ t) S2 Q) := Zgo_iff (i := .invokestatic 141) (len := 3) (a := 89) (b := 1) (c := 1) (p := 5092) rfl
theorem zg_99_11 : Zgo d 99 11 L st S Q ↔ (zpi st False fun x t => if zw x = zw 0 then Zgo d 99 52 L t S Q else Zgo d 99 14 L t S Q) := Zgo_iff (i := .ifCond .eq 41) (len := 3) (a := 0) (b := 0) (c := 0) (p := 0) rfl
theorem zg_99_14 : Zgo d 99 14 L st S Q ↔ (zldi L 2 False fun x => Zgo d 99 15 L (zi x :: st) S Q) := Zgo_iff (i := .iload_n 2) (len := 1) (a := 0) (b := 0) (c := 0) (p := 0) rfl
theorem zg_99_15 : Zgo d 99 15 L st S Q ↔ (Zgo d 99 16 L (zi 3 :: st) S Q) := Zgo_iff (i := .iconst 3) (len := 1) (a := 0) (b := 0) (c := 0) (p := 0) rfl
theorem zg_99_16 : Zgo d 99 16 L st S Q ↔ (zpi st False fun y t => zpi t False fun x t => if zw x < zw y then Zgo d 99 19 L t S Q else Zgo d 99 34 L t S Q) := Zgo_iff (i := .if_icmp .ge 18) (len := 3) (a := 0) (b := 0) (c := 0) (p := 0) rfl
theorem zg_99_19 : Zgo d 99 19 L st S Q ↔ (Zgo d 99 21 L (zi 10 :: st) S Q) := Zgo_iff (i := .bipush 10) (len := 2) (a := 0) (b := 0) (c := 0) (p := 0) rfl
theorem zg_99_21 : Zgo d 99 21 L st S Q ↔ (zldi L 1 False fun x => Zgo d 99 22 L (zi x :: st) S Q) := Zgo_iff (i := .iload_n 1) (len := 1) (a := 0) (b := 0) (c := 0) (p := 0) rfl
theorem zg_99_22 : Zgo d 99 22 L st S Q ↔ (zpi st False fun y t => zpi t False fun x t => Zgo d 99 23 L (zi (x * y) :: t) S Q) := Zgo_iff (i := .imul) (len := 1) (a := 0) (b := 0) (c := 0) (p := 0) rfl
theorem zg_99_23 : Zgo d 99 23 L st S Q ↔ (zlda L 0 False fun r => Zgo d 99 24 L (zq r :: st) S Q) := Zgo_iff (i := .aload_n 0) (len := 1) (a := 0) (b := 0) (c := 0) (p := 0) rfl
theorem zg_99_24 : Zgo d 99 24 L st S Q ↔ (zinv 1 st False fun as t => zrec as 11 False (zCp d 87 as S fun r S2 => Zgo d 99 27 L (r.toList ++ t) S2 Q)) := Zgo_iff (i := .invokevirtual 134) (len := 3) (a := 87) (b := 1) (c := 0) (p := 5084) rfl
theorem zg_99_27 : Zgo d 99 27 L st S Q ↔ (zpi st False fun y t => zpi t False fun x t => Zgo d 99 28 L (zi (x + y) :: t) S Q) := Zgo_iff (i := .iadd) (len := 1) (a := 0) (b := 0) (c := 0) (p := 0) rfl
theorem zg_99_28 : Zgo d 99 28 L st S Q ↔ (Zgo d 99 30 L (zi 48 :: st) S Q) := Zgo_iff (i := .bipush 48) (len := 2) (a := 0) (b := 0) (c := 0) (p := 0) rfl
theorem zg_99_30 : Zgo d 99 30 L st S Q ↔ (zpi st False fun y t => zpi t False fun x t => Zgo d 99 31 L (zi (x - y) :: t) S Q) := Zgo_iff (i := .isub) (len := 1) (a := 0) (b := 0) (c := 0) (p := 0) rfl
theorem zg_99_31 : Zgo d 99 31 L st S Q ↔ (Zgo d 99 35 L st S Q) := Zgo_iff (i := .goto 4) (len := 3) (a := 0) (b := 0) (c := 0) (p := 0) rfl
theorem zg_99_34 : Zgo d 99 34 L st S Q ↔ (zldi L 1 False fun x => Zgo d 99 35 L (zi x :: st) S Q) := Zgo_iff (i := .iload_n 1) (len := 1) (a := 0) (b := 0) (c := 0) (p := 0) rfl
theorem zg_99_35 : Zgo d 99 35 L st S Q ↔ (zpi st False fun x t => Zgo d 99 36 (zst L 1 (some (zi x))) t S Q) := Zgo_iff (i := .istore_n 1) (len := 1) (a := 0) (b := 0) (c := 0) (p := 0) rfl
theorem zg_99_36 : Zgo d 99 36 L st S Q ↔ (zldi L 2 False fun x => Zgo d 99 39 (zst L 2 (some (zi (x + 1)))) st S Q) := Zgo_iff (i := .iinc 2 1) (len := 3) (a := 0) (b := 0) (c := 0) (p := 0) rfl
theorem zg_99_39 : Zgo d 99 39 L st S Q ↔ (zlda L 0 False fun r => Zgo d 99 40 L (zq r :: st) S Q) := Zgo_iff (i := .aload_n 0) (len := 1) (a := 0) (b := 0) (c := 0) (p := 0) rfl
theorem zg_99_40 : Zgo d 99 40 L st S Q ↔ (zp1 st False fun v t => Zgo d 99 41 L (v :: v :: t) S Q) := Zgo_iff (i := .dup) (len := 1) (a := 0) (b := 0) (c := 0) (p := 0) rfl
theorem zg_99_41 : Zgo d 99 41 L st S Q ↔ (zpa st False fun r t => zde r 11 False fun o => Zgo d 99 44 L (zi (S.1 11 o 3) :: t) S Q) := Zgo_iff (i := .getfield 127) (len := 3) (a := 11) (b := 3) (c := 0) (p := 4133) rfl
theorem zg_99_44 : Zgo d 99 44 L st S Q ↔ (Zgo d 99 45 L (zi 1 :: st) S Q) := Zgo_iff (i := .iconst 1) (len := 1) (a := 0) (b := 0) (c := 0) (p := 0) rfl
theorem zg_99_45 : Zgo d 99 45 L st S Q ↔ (zpi st False fun y t => zpi t False fun x t => Zgo d 99 46 L (zi (x + y) :: t) S Q) := Zgo_iff (i := .iadd) (len := 1) (a := 0) (b := 0) (c := 0) (p := 0) rfl
theorem zg_99_46 : Zgo d 99 46 L st S Q ↔ (zpi st False fun v t => zpa t False fun r t => zde r 11 False fun o => Zgo d 99 49 L t (zsI S.1 11 o 3 v, S.2) Q) := Zgo_iff (i := .putfield 127) (len := 3) (a := 11) (b := 3) (c := 0) (p := 4133) rfl
theorem zg_99_49 : Zgo d 99 49 L st S Q ↔ (Zgo d 99 4 L st S Q) := Zgo_iff (i := .goto (-45)) (len := 3) (a := 0) (b := 0) (c := 0) (p := 0) rfl
theorem zg_99_52 : Zgo d 99 52 L st S Q ↔ (zlda L 0 False fun r => Zgo d 99 53 L (zq r :: st) S Q) := Zgo_iff (i := .aload_n 0) (len := 1) (a := 0) (b := 0) (c := 0) (p := 0) rfl
theorem zg_99_53 : Zgo d 99 53 L st S Q ↔ (zlda L 0 False fun r => Zgo d 99 54 L (zq r :: st) S Q) := Zgo_iff (i := .aload_n 0) (len := 1) (a := 0) (b := 0) (c := 0) (p := 0) rfl
theorem zg_99_54 : Zgo d 99 54 L st S Q ↔ (zpa st False fun r t => zde r 11 False fun o => Zgo d 99 57 L (zi (S.1 11 o 4) :: t) S Q) := Zgo_iff (i := .getfield 130) (len := 3) (a := 11) (b := 4) (c := 1) (p := 4134) rfl
theorem zg_99_57 : Zgo d 99 57 L st S Q ↔ (zpi st False fun x t => if zw x = zw 0 then Zgo d 99 60 L t S Q else Zgo d 99 65 L t S Q) := Zgo_iff (i := .ifCond .ne 8) (len := 3) (a := 0) (b := 0) (c := 0) (p := 0) rfl
theorem zg_99_60 : Zgo d 99 60 L st S Q ↔ (zldi L 2 False fun x => Zgo d 99 61 L (zi x :: st) S Q) := Zgo_iff (i := .iload_n 2) (len := 1) (a := 0) (b := 0) (c := 0) (p := 0) rfl
theorem zg_99_61 : Zgo d 99 61 L st S Q ↔ (Zgo d 99 62 L (zi 3 :: st) S Q) := Zgo_iff (i := .iconst 3) (len := 1) (a := 0) (b := 0) (c := 0) (p := 0) rfl
theorem zg_99_62 : Zgo d 99 62 L st S Q ↔ (zpi st False fun y t => zpi t False fun x t => if zw y < zw x then Zgo d 99 65 L t S Q else Zgo d 99 69 L t S Q) := Zgo_iff (i := .if_icmp .le 7) (len := 3) (a := 0) (b := 0) (c := 0) (p := 0) rfl
theorem zg_99_65 : Zgo d 99 65 L st S Q ↔ (Zgo d 99 66 L (zi 1 :: st) S Q) := Zgo_iff (i := .iconst 1) (len := 1) (a := 0) (b := 0) (c := 0) (p := 0) rfl
theorem zg_99_66 : Zgo d 99 66 L st S Q ↔ (Zgo d 99 70 L st S Q) := Zgo_iff (i := .goto 4) (len := 3) (a := 0) (b := 0) (c := 0) (p := 0) rfl
theorem zg_99_69 : Zgo d 99 69 L st S Q ↔ (Zgo d 99 70 L (zi 0 :: st) S Q) := Zgo_iff (i := .iconst 0) (len := 1) (a := 0) (b := 0) (c := 0) (p := 0) rfl
theorem zg_99_70 : Zgo d 99 70 L st S Q ↔ (zpi st False fun v t => zpa t False fun r t => zde r 11 False fun o => zok 1 v False (Zgo d 99 73 L t (zsI S.1 11 o 4 v, S.2) Q)) := Zgo_iff (i := .putfield 130) (len := 3) (a := 11) (b := 4) (c := 1) (p := 4134) rfl
theorem zg_99_73 : Zgo d 99 73 L st S Q ↔ (zlda L 0 False fun r => Zgo d 99 74 L (zq r :: st) S Q) := Zgo_iff (i := .aload_n 0) (len := 1) (a := 0) (b := 0) (c := 0) (p := 0) rfl
theorem zg_99_74 : Zgo d 99 74 L st S Q ↔ (Zgo d 99 76 L (zi 48 :: st) S Q) := Zgo_iff (i := .bipush 48) (len := 2) (a := 0) (b := 0) (c := 0) (p := 0) rfl
theorem zg_99_76 : Zgo d 99 76 L st S Q ↔ (zldi L 1 False fun x => Zgo d 99 77 L (zi x :: st) S Q) := Zgo_iff (i := .iload_n 1) (len := 1) (a := 0) (b := 0) (c := 0) (p := 0) rfl
theorem zg_99_77 : Zgo d 99 77 L st S Q ↔ (zinv 3 st False fun as t => zrec as 11 False (zCp d 100 as S fun r S2 => Zgo d 99 80 L (r.toList ++ t) S2 Q)) := Zgo_iff (i := .invokevirtual 145) (len := 3) (a := 100) (b := 3) (c := 0) (p := 5135) rfl
theorem zg_99_80 : Zgo d 99 80 L st S Q ↔ (zem st False (Q none S)) := Zgo_iff (i := .return_) (len := 1) (a := 0) (b := 0) (c := 0) (p := 0) rfl
/-- LeavingMachineModel.emit(II)V -/
theorem zg_100_0 : Zgo d 100 0 L st S Q ↔ (zlda L 0 False fun r => Zgo d 100 1 L (zq r :: st) S Q) := Zgo_iff (i := .aload_n 0) (len := 1) (a := 0) (b := 0) (c := 0) (p := 0) rfl
theorem zg_100_1 : Zgo d 100 1 L st S Q ↔ (zpa st False fun r t => zde r 11 False fun o => Zgo d 100 4 L (zi (S.1 11 o 28) :: t) S Q) := Zgo_iff (i := .getfield 138) (len := 3) (a := 11) (b := 28) (c := 0) (p := 4158) rfl
theorem zg_100_4 : Zgo d 100 4 L st S Q ↔ (Zgo d 100 7 L (zi 200 :: st) S Q) := Zgo_iff (i := .sipush 200) (len := 3) (a := 0) (b := 0) (c := 0) (p := 0) rfl
theorem zg_100_7 : Zgo d 100 7 L st S Q ↔ (zpi st False fun y t => zpi t False fun x t => if zw x < zw y then Zgo d 100 10 L t S Q else Zgo d 100 40 L t S Q) := Zgo_iff (i := .if_icmp .ge 33) (len := 3) (a := 0) (b := 0) (c := 0) (p := 0) rfl
theorem zg_100_10 : Zgo d 100 10 L st S Q ↔ (zlda L 0 False fun r => Zgo d 100 11 L (zq r :: st) S Q) := Zgo_iff (i := .aload_n 0) (len := 1) (a := 0) (b := 0) (c := 0) (p := 0) rfl
theorem zg_100_11 : Zgo d 100 11 L st S Q ↔ (zpa st False fun r t => zde r 11 False fun o => Zgo d 100 14 L (zq (S.2.1 11 o 29) :: t) S Q) := Zgo_iff (i := .getfield 70) (len := 3) (a := 11) (b := 29) (c := 3) (p := 4159) rfl
theorem zg_100_14 : Zgo d 100 14 L st S Q ↔ (zlda L 0 False fun r => Zgo d 100 15 L (zq r :: st) S Q) := Zgo_iff (i := .aload_n 0) (len := 1) (a := 0) (b := 0) (c := 0) (p := 0) rfl
theorem zg_100_15 : Zgo d 100 15 L st S Q ↔ (zpa st False fun r t => zde r 11 False fun o => Zgo d 100 18 L (zi (S.1 11 o 28) :: t) S Q) := Zgo_iff (i := .getfield 138) (len := 3) (a := 11) (b := 28) (c := 0) (p := 4158) rfl
theorem zg_100_18 : Zgo d 100 18 L st S Q ↔ (zldi L 1 False fun x => Zgo d 100 19 L (zi x :: st) S Q) := Zgo_iff (i := .iload_n 1) (len := 1) (a := 0) (b := 0) (c := 0) (p := 0) rfl
theorem zg_100_19 : Zgo d 100 19 L st S Q ↔ (zpi st False fun v t => zpi t False fun j t => zpa t False fun r t => znn r False fun q o => zop (zArr q) False fun n => if n.1 = 0 then zix j n.2 False fun x => Zgo d 100 20 L t (zsI S.1 q o x v, S.2) Q else False) := Zgo_iff (i := .iastore) (len := 1) (a := 0) (b := 0) (c := 0) (p := 0) rfl
theorem zg_100_20 : Zgo d 100 20 L st S Q ↔ (zlda L 0 False fun r => Zgo d 100 21 L (zq r :: st) S Q) := Zgo_iff (i := .aload_n 0) (len := 1) (a := 0) (b := 0) (c := 0) (p := 0) rfl
theorem zg_100_21 : Zgo d 100 21 L st S Q ↔ (zpa st False fun r t => zde r 11 False fun o => Zgo d 100 24 L (zq (S.2.1 11 o 30) :: t) S Q) := Zgo_iff (i := .getfield 73) (len := 3) (a := 11) (b := 30) (c := 3) (p := 4160) rfl
theorem zg_100_24 : Zgo d 100 24 L st S Q ↔ (zlda L 0 False fun r => Zgo d 100 25 L (zq r :: st) S Q) := Zgo_iff (i := .aload_n 0) (len := 1) (a := 0) (b := 0) (c := 0) (p := 0) rfl
theorem zg_100_25 : Zgo d 100 25 L st S Q ↔ (zpa st False fun r t => zde r 11 False fun o => Zgo d 100 28 L (zi (S.1 11 o 28) :: t) S Q) := Zgo_iff (i := .getfield 138) (len := 3) (a := 11) (b := 28) (c := 0) (p := 4158) rfl
theorem zg_100_28 : Zgo d 100 28 L st S Q ↔ (zldi L 2 False fun x => Zgo d 100 29 L (zi x :: st) S Q) := Zgo_iff (i := .iload_n 2) (len := 1) (a := 0) (b := 0) (c := 0) (p := 0) rfl
theorem zg_100_29 : Zgo d 100 29 L st S Q ↔ (zpi st False fun v t => zpi t False fun j t => zpa t False fun r t => znn r False fun q o => zop (zArr q) False fun n => if n.1 = 0 then zix j n.2 False fun x => Zgo d 100 30 L t (zsI S.1 q o x v, S.2) Q else False) := Zgo_iff (i := .iastore) (len := 1) (a := 0) (b := 0) (c := 0) (p := 0) rfl
theorem zg_100_30 : Zgo d 100 30 L st S Q ↔ (zlda L 0 False fun r => Zgo d 100 31 L (zq r :: st) S Q) := Zgo_iff (i := .aload_n 0) (len := 1) (a := 0) (b := 0) (c := 0) (p := 0) rfl
theorem zg_100_31 : Zgo d 100 31 L st S Q ↔ (zp1 st False fun v t => Zgo d 100 32 L (v :: v :: t) S Q) := Zgo_iff (i := .dup) (len := 1) (a := 0) (b := 0) (c := 0) (p := 0) rfl
theorem zg_100_32 : Zgo d 100 32 L st S Q ↔ (zpa st False fun r t => zde r 11 False fun o => Zgo d 100 35 L (zi (S.1 11 o 28) :: t) S Q) := Zgo_iff (i := .getfield 138) (len := 3) (a := 11) (b := 28) (c := 0) (p := 4158) rfl
theorem zg_100_35 : Zgo d 100 35 L st S Q ↔ (Zgo d 100 36 L (zi 1 :: st) S Q) := Zgo_iff (i := .iconst 1) (len := 1) (a := 0) (b := 0) (c := 0) (p := 0) rfl
theorem zg_100_36 : Zgo d 100 36 L st S Q ↔ (zpi st False fun y t => zpi t False fun x t => Zgo d 100 37 L (zi (x + y) :: t) S Q) := Zgo_iff (i := .iadd) (len := 1) (a := 0) (b := 0) (c := 0) (p := 0) rfl
theorem zg_100_37 : Zgo d 100 37 L st S Q ↔ (zpi st False fun v t => zpa t False fun r t => zde r 11 False fun o => Zgo d 100 40 L t (zsI S.1 11 o 28 v, S.2) Q) := Zgo_iff (i := .putfield 138) (len := 3) (a := 11) (b := 28) (c := 0) (p := 4158) rfl
theorem zg_100_40 : Zgo d 100 40 L st S Q ↔ (zem st False (Q none S)) := Zgo_iff (i := .return_) (len := 1) (a := 0) (b := 0) (c := 0) (p := 0) rfl
/-- LeavingMachineModel.settle(I)V -/
theorem zg_101_0 : Zgo d 101 0 L st S Q ↔ (zlda L 0 False fun r => Zgo d 101 1 L (zq r :: st) S Q) := Zgo_iff (i := .aload_n 0) (len := 1) (a := 0) (b := 0) (c := 0) (p := 0) rfl
theorem zg_101_1 : Zgo d 101 1 L st S Q ↔ (zpa st False fun r t => zde r 11 False fun o => Zgo d 101 4 L (zq (S.2.1 11 o 32) :: t) S Q) := Zgo_iff (i := .getfield 79) (len := 3) (a := 11) (b := 32) (c := 3) (p := 4162) rfl
theorem zg_101_4 : Zgo d 101 4 L st S Q ↔ (zldi L 1 False fun x => Zgo d 101 5 L (zi x :: st) S Q) := Zgo_iff (i := .iload_n 1) (len := 1) (a := 0) (b := 0) (c := 0) (p := 0) rfl
theorem zg_101_5 : Zgo d 101 5 L st S Q ↔ (zpi st False fun j t => zpa t False fun r t => znn r False fun q o => zop (zlen S q) False fun n => if n.1 = 0 then zix j n.2 False fun x => Zgo d 101 6 L (zi (S.1 q o x) :: t) S Q else False) := Zgo_iff (i := .iaload) (len := 1) (a := 0) (b := 0) (c := 0) (p := 0) rfl
theorem zg_101_6 : Zgo d 101 6 L st S Q ↔ (zpi st False fun x t => if zw x = zw 0 then Zgo d 101 27 L t S Q else Zgo d 101 9 L t S Q) := Zgo_iff (i := .ifCond .eq 21) (len := 3) (a := 0) (b := 0) (c := 0) (p := 0) rfl
theorem zg_101_9 : Zgo d 101 9 L st S Q ↔ (zlda L 0 False fun r => Zgo d 101 10 L (zq r :: st) S Q) := Zgo_iff (i := .aload_n 0) (len := 1) (a := 0) (b := 0) (c := 0) (p := 0) rfl
theorem zg_101_10 : Zgo d 101 10 L st S Q ↔ (zlda L 0 False fun r => Zgo d 101 11 L (zq r :: st) S Q) := Zgo_iff (i := .aload_n 0) (len := 1) (a := 0) (b := 0) (c := 0) (p := 0) rfl
theorem zg_101_11 : Zgo d 101 11 L st S Q ↔ (zpa st False fun r t => zde r 11 False fun o => Zgo d 101 14 L (zq (S.2.1 11 o 32) :: t) S Q) := Zgo_iff (i := .getfield 79) (len := 3) (a := 11) (b := 32) (c := 3) (p := 4162) rfl
theorem zg_101_14 : Zgo d 101 14 L st S Q ↔ (zldi L 1 False fun x => Zgo d 101 15 L (zi x :: st) S Q) := Zgo_iff (i := .iload_n 1) (len := 1) (a := 0) (b := 0) (c := 0) (p := 0) rfl
theorem zg_101_15 : Zgo d 101 15 L st S Q ↔ (zpi st False fun j t => zpa t False fun r t => znn r False fun q o => zop (zlen S q) False fun n => if n.1 = 0 then zix j n.2 False fun x => Zgo d 101 16 L (zi (S.1 q o x) :: t) S Q else False) := Zgo_iff (i := .iaload) (len := 1) (a := 0) (b := 0) (c := 0) (p := 0) rfl
theorem zg_101_16 : Zgo d 101 16 L st S Q ↔ (Zgo d 101 17 L (zi 0 :: st) S Q) := Zgo_iff (i := .iconst 0) (len := 1) (a := 0) (b := 0) (c := 0) (p := 0) rfl
theorem zg_101_17 : Zgo d 101 17 L st S Q ↔ (zinv 3 st False fun as t => zrec as 11 False (zCp d 100 as S fun r S2 => Zgo d 101 20 L (r.toList ++ t) S2 Q)) := Zgo_iff (i := .invokevirtual 145) (len := 3) (a := 100) (b := 3) (c := 0) (p := 5135) rfl
theorem zg_101_20 : Zgo d 101 20 L st S Q ↔ (zlda L 0 False fun r => Zgo d 101 21 L (zq r :: st) S Q) := Zgo_iff (i := .aload_n 0) (len := 1) (a := 0) (b := 0) (c := 0) (p := 0) rfl
theorem zg_101_21 : Zgo d 101 21 L st S Q ↔ (zpa st False fun r t => zde r 11 False fun o => Zgo d 101 24 L (zq (S.2.1 11 o 32) :: t) S Q) := Zgo_iff (i := .getfield 79) (len := 3) (a := 11) (b := 32) (c := 3) (p := 4162) rfl
theorem zg_101_24 : Zgo d 101 24 L st S Q ↔ (zldi L 1 False fun x => Zgo d 101 25 L (zi x :: st) S Q) := Zgo_iff (i := .iload_n 1) (len := 1) (a := 0) (b := 0) (c := 0) (p := 0) rfl
theorem zg_101_25 : Zgo d 101 25 L st S Q ↔ (Zgo d 101 26 L (zi 0 :: st) S Q) := Zgo_iff (i := .iconst 0) (len := 1) (a := 0) (b := 0) (c := 0) (p := 0) rfl
theorem zg_101_26 : Zgo d 101 26 L st S Q ↔ (zpi st False fun v t => zpi t False fun j t => zpa t False fun r t => znn r False fun q o => zop (zArr q) False fun n => if n.1 = 0 then zix j n.2 False fun x => Zgo d 101 27 L t (zsI S.1 q o x v, S.2) Q else False) := Zgo_iff (i := .iastore) (len := 1) (a := 0) (b := 0) (c := 0) (p := 0) rfl
theorem zg_101_27 : Zgo d 101 27 L st S Q ↔ (zem st False (Q none S)) := Zgo_iff (i := .return_) (len := 1) (a := 0) (b := 0) (c := 0) (p := 0) rfl
/-- LeavingMachineModel.isOp(I)Z -/
theorem zg_102_0 : Zgo d 102 0 L st S Q ↔ (zldi L 0 False fun x => Zgo d 102 1 L (zi x :: st) S Q) := Zgo_iff (i := .iload_n 0) (len := 1) (a := 0) (b := 0) (c := 0) (p := 0) rfl
theorem zg_102_1 : Zgo d 102 1 L st S Q ↔ (Zgo d 102 3 L (zi 43 :: st) S Q) := Zgo_iff (i := .bipush 43) (len := 2) (a := 0) (b := 0) (c := 0) (p := 0) rfl
theorem zg_102_3 : Zgo d 102 3 L st S Q ↔ (zpi st False fun y t => zpi t False fun x t => if zw x = zw y then Zgo d 102 30 L t S Q else Zgo d 102 6 L t S Q) := Zgo_iff (i := .if_icmp .eq 27) (len := 3) (a := 0) (b := 0) (c := 0) (p := 0) rfl
theorem zg_102_6 : Zgo d 102 6 L st S Q ↔ (zldi L 0 False fun x => Zgo d 102 7 L (zi x :: st) S Q) := Zgo_iff (i := .iload_n 0) (len := 1) (a := 0) (b := 0) (c := 0) (p := 0) rfl
theorem zg_102_7 : Zgo d 102 7 L st S Q ↔ (Zgo d 102 9 L (zi 45 :: st) S Q) := Zgo_iff (i := .bipush 45) (len := 2) (a := 0) (b := 0) (c := 0) (p := 0) rfl
theorem zg_102_9 : Zgo d 102 9 L st S Q ↔ (zpi st False fun y t => zpi t False fun x t => if zw x = zw y then Zgo d 102 30 L t S Q else Zgo d 102 12 L t S Q) := Zgo_iff (i := .if_icmp .eq 21) (len := 3) (a := 0) (b := 0) (c := 0) (p := 0) rfl
theorem zg_102_12 : Zgo d 102 12 L st S Q ↔ (zldi L 0 False fun x => Zgo d 102 13 L (zi x :: st) S Q) := Zgo_iff (i := .iload_n 0) (len := 1) (a := 0) (b := 0) (c := 0) (p := 0) rfl
theorem zg_102_13 : Zgo d 102 13 L st S Q ↔ (Zgo d 102 15 L (zi 42 :: st) S Q) := Zgo_iff (i := .bipush 42) (len := 2) (a := 0) (b := 0) (c := 0) (p := 0) rfl
theorem zg_102_15 : Zgo d 102 15 L st S Q ↔ (zpi st False fun y t => zpi t False fun x t => if zw x = zw y then Zgo d 102 30 L t S Q else Zgo d 102 18 L t S Q) := Zgo_iff (i := .if_icmp .eq 15) (len := 3) (a := 0) (b := 0) (c := 0) (p := 0) rfl
theorem zg_102_18 : Zgo d 102 18 L st S Q ↔ (zldi L 0 False fun x => Zgo d 102 19 L (zi x :: st) S Q) := Zgo_iff (i := .iload_n 0) (len := 1) (a := 0) (b := 0) (c := 0) (p := 0) rfl
theorem zg_102_19 : Zgo d 102 19 L st S Q ↔ (Zgo d 102 21 L (zi 47 :: st) S Q) := Zgo_iff (i := .bipush 47) (len := 2) (a := 0) (b := 0) (c := 0) (p := 0) rfl
theorem zg_102_21 : Zgo d 102 21 L st S Q ↔ (zpi st False fun y t => zpi t False fun x t => if zw x = zw y then Zgo d 102 30 L t S Q else Zgo d 102 24 L t S Q) := Zgo_iff (i := .if_icmp .eq 9) (len := 3) (a := 0) (b := 0) (c := 0) (p := 0) rfl
theorem zg_102_24 : Zgo d 102 24 L st S Q ↔ (zldi L 0 False fun x => Zgo d 102 25 L (zi x :: st) S Q) := Zgo_iff (i := .iload_n 0) (len := 1) (a := 0) (b := 0) (c := 0) (p := 0) rfl
theorem zg_102_25 : Zgo d 102 25 L st S Q ↔ (Zgo d 102 27 L (zi 60 :: st) S Q) := Zgo_iff (i := .bipush 60) (len := 2) (a := 0) (b := 0) (c := 0) (p := 0) rfl
theorem zg_102_27 : Zgo d 102 27 L st S Q ↔ (zpi st False fun y t => zpi t False fun x t => if zw x = zw y then Zgo d 102 30 L t S Q else Zgo d 102 34 L t S Q) := Zgo_iff (i := .if_icmp .ne 7) (len := 3) (a := 0) (b := 0) (c := 0) (p := 0) rfl
theorem zg_102_30 : Zgo d 102 30 L st S Q ↔ (Zgo d 102 31 L (zi 1 :: st) S Q) := Zgo_iff (i := .iconst 1) (len := 1) (a := 0) (b := 0) (c := 0) (p := 0) rfl
theorem zg_102_31 : Zgo d 102 31 L st S Q ↔ (Zgo d 102 35 L st S Q) := Zgo_iff (i := .goto 4) (len := 3) (a := 0) (b := 0) (c := 0) (p := 0) rfl
theorem zg_102_34 : Zgo d 102 34 L st S Q ↔ (Zgo d 102 35 L (zi 0 :: st) S Q) := Zgo_iff (i := .iconst 0) (len := 1) (a := 0) (b := 0) (c := 0) (p := 0) rfl
theorem zg_102_35 : Zgo d 102 35 L st S Q ↔ (zpi st False fun x t => zem t False (zok 1 x False (Q (some (zi x)) S))) := Zgo_iff (i := .ireturn) (len := 1) (a := 0) (b := 0) (c := 0) (p := 0) rfl
end
