/-! .. the law -/
section
variable {d : Nat} {L : zL} {st : List zV} {S : zS} {Q : Option zV → zS → Prop}
-- LeavingMachineLaw.law([I)Z
set_option maxRecDepth 20000 in
theorem zg_128_0 : Zgo d 128 0 L st S Q ↔ (Zgo d 128 3 L (zq (some (0, S.2.2.1 0)) :: st) (S.1, S.2.1, va_up S.2.2.1 0 (S.2.2.1 0 + 1), S.2.2.2.1 + 1, S.2.2.2.2.1 + 5, S.2.2.2.2.2) Q) := Zgo_iff (i := .new 8) (len := 3) (a := 0) (b := 5) (c := 0) (p := 1027) rfl
set_option maxRecDepth 20000 in
theorem zg_128_3 : Zgo d 128 3 L st S Q ↔ (zp1 st False fun v t => Zgo d 128 4 L (v :: v :: t) S Q) := Zgo_iff (i := .dup) (len := 1) (a := 0) (b := 0) (c := 0) (p := 0) rfl
set_option maxRecDepth 20000 in
theorem zg_128_4 : Zgo d 128 4 L st S Q ↔ (zinv 1 st False fun as t => zrec as 0 False (zCp d 0 as S fun r S2 => Zgo d 128 7 L (r.toList ++ t) S2 Q)) := Zgo_iff (i := .invokespecial 32) (len := 3) (a := 0) (b := 1) (c := 2) (p := 1029) rfl
set_option maxRecDepth 20000 in
theorem zg_128_7 : Zgo d 128 7 L st S Q ↔ (zpa st False fun x t => Zgo d 128 8 (zst L 1 (some (zq x))) t S Q) := Zgo_iff (i := .astore_n 1) (len := 1) (a := 0) (b := 0) (c := 0) (p := 0) rfl
set_option maxRecDepth 20000 in
theorem zg_128_8 : Zgo d 128 8 L st S Q ↔ (Zgo d 128 11 L (zq (some (11, S.2.2.1 11)) :: st) (S.1, S.2.1, va_up S.2.2.1 11 (S.2.2.1 11 + 1), S.2.2.2.1 + 1, S.2.2.2.2.1 + 56, S.2.2.2.2.2) Q) := Zgo_iff (i := .new 33) (len := 3) (a := 11) (b := 56) (c := 0) (p := 4124) rfl
set_option maxRecDepth 20000 in
theorem zg_128_11 : Zgo d 128 11 L st S Q ↔ (zp1 st False fun v t => Zgo d 128 12 L (v :: v :: t) S Q) := Zgo_iff (i := .dup) (len := 1) (a := 0) (b := 0) (c := 0) (p := 0) rfl
set_option maxRecDepth 20000 in
theorem zg_128_12 : Zgo d 128 12 L st S Q ↔ (zinv 1 st False fun as t => zrec as 11 False (zCp d 80 as S fun r S2 => Zgo d 128 15 L (r.toList ++ t) S2 Q)) := Zgo_iff (i := .invokespecial 35) (len := 3) (a := 80) (b := 1) (c := 2) (p := 4126) rfl
set_option maxRecDepth 20000 in
theorem zg_128_15 : Zgo d 128 15 L st S Q ↔ (zpa st False fun x t => Zgo d 128 16 (zst L 2 (some (zq x))) t S Q) := Zgo_iff (i := .astore_n 2) (len := 1) (a := 0) (b := 0) (c := 0) (p := 0) rfl
set_option maxRecDepth 20000 in
theorem zg_128_16 : Zgo d 128 16 L st S Q ↔ (Zgo d 128 17 L (zi 1 :: st) S Q) := Zgo_iff (i := .iconst 1) (len := 1) (a := 0) (b := 0) (c := 0) (p := 0) rfl
set_option maxRecDepth 20000 in
theorem zg_128_17 : Zgo d 128 17 L st S Q ↔ (zpi st False fun n t => if n = (1 : Nat) ∧ S.2.2.1 65 = 0 then Zgo d 128 19 L (zq (some (65, 0)) :: t) (S.1, S.2.1, va_up S.2.2.1 65 1, S.2.2.2.1 + 1, S.2.2.2.2.1 + 1, S.2.2.2.2.2) Q else False) := Zgo_iff (i := .newarray .long) (len := 2) (a := 65) (b := 1) (c := 4) (p := 0) rfl
set_option maxRecDepth 20000 in
theorem zg_128_19 : Zgo d 128 19 L st S Q ↔ (zpa st False fun x t => Zgo d 128 20 (zst L 3 (some (zq x))) t S Q) := Zgo_iff (i := .astore_n 3) (len := 1) (a := 0) (b := 0) (c := 0) (p := 0) rfl
set_option maxRecDepth 20000 in
theorem zg_128_20 : Zgo d 128 20 L st S Q ↔ (Zgo d 128 21 L (zi 0 :: st) S Q) := Zgo_iff (i := .iconst 0) (len := 1) (a := 0) (b := 0) (c := 0) (p := 0) rfl
set_option maxRecDepth 20000 in
theorem zg_128_21 : Zgo d 128 21 L st S Q ↔ (zpi st False fun x t => Zgo d 128 23 (zst L 4 (some (zi x))) t S Q) := Zgo_iff (i := .istore 4) (len := 2) (a := 0) (b := 0) (c := 0) (p := 0) rfl
set_option maxRecDepth 20000 in
theorem zg_128_23 : Zgo d 128 23 L st S Q ↔ (zldi L 4 False fun x => Zgo d 128 25 L (zi x :: st) S Q) := Zgo_iff (i := .iload 4) (len := 2) (a := 0) (b := 0) (c := 0) (p := 0) rfl
set_option maxRecDepth 20000 in
theorem zg_128_25 : Zgo d 128 25 L st S Q ↔ (zlda L 0 False fun r => Zgo d 128 26 L (zq r :: st) S Q) := Zgo_iff (i := .aload_n 0) (len := 1) (a := 0) (b := 0) (c := 0) (p := 0) rfl
set_option maxRecDepth 20000 in
theorem zg_128_26 : Zgo d 128 26 L st S Q ↔ (zpa st False fun r t => znn r False fun q _ => zop (zlen S q) False fun n => Zgo d 128 27 L (zi n.2 :: t) S Q) := Zgo_iff (i := .arraylength) (len := 1) (a := 0) (b := 0) (c := 0) (p := 0) rfl
set_option maxRecDepth 20000 in
theorem zg_128_27 : Zgo d 128 27 L st S Q ↔ (Zgo d 128 28 L (zi 3 :: st) S Q) := Zgo_iff (i := .iconst 3) (len := 1) (a := 0) (b := 0) (c := 0) (p := 0) rfl
set_option maxRecDepth 20000 in
theorem zg_128_28 : Zgo d 128 28 L st S Q ↔ (zpi st False fun y t => zpi t False fun x t => Zgo d 128 29 L (zi (x - y) :: t) S Q) := Zgo_iff (i := .isub) (len := 1) (a := 0) (b := 0) (c := 0) (p := 0) rfl
set_option maxRecDepth 20000 in
theorem zg_128_29 : Zgo d 128 29 L st S Q ↔ (zpi st False fun y t => zpi t False fun x t => if zw y < zw x then Zgo d 128 496 L t S Q else Zgo d 128 32 L t S Q) := Zgo_iff (i := .if_icmp .gt 467) (len := 3) (a := 0) (b := 0) (c := 0) (p := 0) rfl
set_option maxRecDepth 20000 in
theorem zg_128_32 : Zgo d 128 32 L st S Q ↔ (zlda L 0 False fun r => Zgo d 128 33 L (zq r :: st) S Q) := Zgo_iff (i := .aload_n 0) (len := 1) (a := 0) (b := 0) (c := 0) (p := 0) rfl
set_option maxRecDepth 20000 in
theorem zg_128_33 : Zgo d 128 33 L st S Q ↔ (zldi L 4 False fun x => Zgo d 128 35 L (zi x :: st) S Q) := Zgo_iff (i := .iload 4) (len := 2) (a := 0) (b := 0) (c := 0) (p := 0) rfl
set_option maxRecDepth 20000 in
theorem zg_128_35 : Zgo d 128 35 L st S Q ↔ (zpi st False fun j t => zpa t False fun r t => znn r False fun q o => zop (zlen S q) False fun n => if n.1 = 0 then zix j n.2 False fun x => Zgo d 128 36 L (zi (S.1 q o x) :: t) S Q else False) := Zgo_iff (i := .iaload) (len := 1) (a := 0) (b := 0) (c := 0) (p := 0) rfl
set_option maxRecDepth 20000 in
theorem zg_128_36 : Zgo d 128 36 L st S Q ↔ (Zgo d 128 38 L (zi 15 :: st) S Q) := Zgo_iff (i := .bipush 15) (len := 2) (a := 0) (b := 0) (c := 0) (p := 0) rfl
set_option maxRecDepth 20000 in
theorem zg_128_38 : Zgo d 128 38 L st S Q ↔ (zpi st False fun y t => zpi t False fun x t => Zgo d 128 39 L (zi (zand x y) :: t) S Q) := Zgo_iff (i := .iand) (len := 1) (a := 0) (b := 0) (c := 0) (p := 0) rfl
set_option maxRecDepth 20000 in
theorem zg_128_88 : Zgo d 128 88 L st S Q ↔ (zlda L 1 False fun r => Zgo d 128 89 L (zq r :: st) S Q) := Zgo_iff (i := .aload_n 1) (len := 1) (a := 0) (b := 0) (c := 0) (p := 0) rfl
set_option maxRecDepth 20000 in
theorem zg_128_89 : Zgo d 128 89 L st S Q ↔ (zlda L 0 False fun r => Zgo d 128 90 L (zq r :: st) S Q) := Zgo_iff (i := .aload_n 0) (len := 1) (a := 0) (b := 0) (c := 0) (p := 0) rfl
set_option maxRecDepth 20000 in
theorem zg_128_90 : Zgo d 128 90 L st S Q ↔ (zldi L 4 False fun x => Zgo d 128 92 L (zi x :: st) S Q) := Zgo_iff (i := .iload 4) (len := 2) (a := 0) (b := 0) (c := 0) (p := 0) rfl
set_option maxRecDepth 20000 in
theorem zg_128_92 : Zgo d 128 92 L st S Q ↔ (Zgo d 128 93 L (zi 1 :: st) S Q) := Zgo_iff (i := .iconst 1) (len := 1) (a := 0) (b := 0) (c := 0) (p := 0) rfl
set_option maxRecDepth 20000 in
theorem zg_128_93 : Zgo d 128 93 L st S Q ↔ (zpi st False fun y t => zpi t False fun x t => Zgo d 128 94 L (zi (x + y) :: t) S Q) := Zgo_iff (i := .iadd) (len := 1) (a := 0) (b := 0) (c := 0) (p := 0) rfl
set_option maxRecDepth 20000 in
theorem zg_128_94 : Zgo d 128 94 L st S Q ↔ (zpi st False fun j t => zpa t False fun r t => znn r False fun q o => zop (zlen S q) False fun n => if n.1 = 0 then zix j n.2 False fun x => Zgo d 128 95 L (zi (S.1 q o x) :: t) S Q else False) := Zgo_iff (i := .iaload) (len := 1) (a := 0) (b := 0) (c := 0) (p := 0) rfl
set_option maxRecDepth 20000 in
theorem zg_128_95 : Zgo d 128 95 L st S Q ↔ (zpi st False fun x t => Zgo d 128 96 L (zl (zw x) :: t) S Q) := Zgo_iff (i := .i2l) (len := 1) (a := 0) (b := 0) (c := 0) (p := 0) rfl
set_option maxRecDepth 20000 in
theorem zg_128_96 : Zgo d 128 96 L st S Q ↔ (Zgo d 128 98 L (zi 32 :: st) S Q) := Zgo_iff (i := .bipush 32) (len := 2) (a := 0) (b := 0) (c := 0) (p := 0) rfl
set_option maxRecDepth 20000 in
theorem zg_128_98 : Zgo d 128 98 L st S Q ↔ (zpi st False fun y t => zpl t False fun x t => Zgo d 128 99 L (zl (zlshl x y) :: t) S Q) := Zgo_iff (i := .lshl) (len := 1) (a := 0) (b := 0) (c := 0) (p := 0) rfl
set_option maxRecDepth 20000 in
theorem zg_128_99 : Zgo d 128 99 L st S Q ↔ (zlda L 0 False fun r => Zgo d 128 100 L (zq r :: st) S Q) := Zgo_iff (i := .aload_n 0) (len := 1) (a := 0) (b := 0) (c := 0) (p := 0) rfl
set_option maxRecDepth 20000 in
theorem zg_128_100 : Zgo d 128 100 L st S Q ↔ (zldi L 4 False fun x => Zgo d 128 102 L (zi x :: st) S Q) := Zgo_iff (i := .iload 4) (len := 2) (a := 0) (b := 0) (c := 0) (p := 0) rfl
set_option maxRecDepth 20000 in
theorem zg_128_102 : Zgo d 128 102 L st S Q ↔ (Zgo d 128 103 L (zi 2 :: st) S Q) := Zgo_iff (i := .iconst 2) (len := 1) (a := 0) (b := 0) (c := 0) (p := 0) rfl
set_option maxRecDepth 20000 in
theorem zg_128_103 : Zgo d 128 103 L st S Q ↔ (zpi st False fun y t => zpi t False fun x t => Zgo d 128 104 L (zi (x + y) :: t) S Q) := Zgo_iff (i := .iadd) (len := 1) (a := 0) (b := 0) (c := 0) (p := 0) rfl
set_option maxRecDepth 20000 in
theorem zg_128_104 : Zgo d 128 104 L st S Q ↔ (zpi st False fun j t => zpa t False fun r t => znn r False fun q o => zop (zlen S q) False fun n => if n.1 = 0 then zix j n.2 False fun x => Zgo d 128 105 L (zi (S.1 q o x) :: t) S Q else False) := Zgo_iff (i := .iaload) (len := 1) (a := 0) (b := 0) (c := 0) (p := 0) rfl
set_option maxRecDepth 20000 in
theorem zg_128_105 : Zgo d 128 105 L st S Q ↔ (zpi st False fun x t => Zgo d 128 106 L (zl (zw x) :: t) S Q) := Zgo_iff (i := .i2l) (len := 1) (a := 0) (b := 0) (c := 0) (p := 0) rfl
set_option maxRecDepth 20000 in
theorem zg_128_106 : Zgo d 128 106 L st S Q ↔ (Zgo d 128 109 L (zl (4294967295 : Nat) :: st) S Q) := Zgo_iff (i := .ldc2_w 36) (len := 3) (a := 4294967295) (b := 0) (c := 0) (p := 6005) rfl
set_option maxRecDepth 20000 in
theorem zg_128_109 : Zgo d 128 109 L st S Q ↔ (zpl st False fun y t => zpl t False fun x t => Zgo d 128 110 L (zl (zland x y) :: t) S Q) := Zgo_iff (i := .land) (len := 1) (a := 0) (b := 0) (c := 0) (p := 0) rfl
set_option maxRecDepth 20000 in
theorem zg_128_110 : Zgo d 128 110 L st S Q ↔ (zpl st False fun y t => zpl t False fun x t => Zgo d 128 111 L (zl (zlor x y) :: t) S Q) := Zgo_iff (i := .lor) (len := 1) (a := 0) (b := 0) (c := 0) (p := 0) rfl
set_option maxRecDepth 20000 in
theorem zg_128_111 : Zgo d 128 111 L st S Q ↔ (zinv 2 st False fun as t => zrec as 0 False (zCp d 11 as S fun r S2 => Zgo d 128 114 L (r.toList ++ t) S2 Q)) := Zgo_iff (i := .invokevirtual 38) (len := 3) (a := 11) (b := 2) (c := 0) (p := 2130) rfl
set_option maxRecDepth 20000 in
theorem zg_128_114 : Zgo d 128 114 L st S Q ↔ (zlda L 2 False fun r => Zgo d 128 115 L (zq r :: st) S Q) := Zgo_iff (i := .aload_n 2) (len := 1) (a := 0) (b := 0) (c := 0) (p := 0) rfl
set_option maxRecDepth 20000 in
theorem zg_128_115 : Zgo d 128 115 L st S Q ↔ (zlda L 0 False fun r => Zgo d 128 116 L (zq r :: st) S Q) := Zgo_iff (i := .aload_n 0) (len := 1) (a := 0) (b := 0) (c := 0) (p := 0) rfl
set_option maxRecDepth 20000 in
theorem zg_128_116 : Zgo d 128 116 L st S Q ↔ (zldi L 4 False fun x => Zgo d 128 118 L (zi x :: st) S Q) := Zgo_iff (i := .iload 4) (len := 2) (a := 0) (b := 0) (c := 0) (p := 0) rfl
set_option maxRecDepth 20000 in
theorem zg_128_118 : Zgo d 128 118 L st S Q ↔ (Zgo d 128 119 L (zi 1 :: st) S Q) := Zgo_iff (i := .iconst 1) (len := 1) (a := 0) (b := 0) (c := 0) (p := 0) rfl
set_option maxRecDepth 20000 in
theorem zg_128_119 : Zgo d 128 119 L st S Q ↔ (zpi st False fun y t => zpi t False fun x t => Zgo d 128 120 L (zi (x + y) :: t) S Q) := Zgo_iff (i := .iadd) (len := 1) (a := 0) (b := 0) (c := 0) (p := 0) rfl
set_option maxRecDepth 20000 in
theorem zg_128_120 : Zgo d 128 120 L st S Q ↔ (zpi st False fun j t => zpa t False fun r t => znn r False fun q o => zop (zlen S q) False fun n => if n.1 = 0 then zix j n.2 False fun x => Zgo d 128 121 L (zi (S.1 q o x) :: t) S Q else False) := Zgo_iff (i := .iaload) (len := 1) (a := 0) (b := 0) (c := 0) (p := 0) rfl
set_option maxRecDepth 20000 in
theorem zg_128_121 : Zgo d 128 121 L st S Q ↔ (zpi st False fun x t => Zgo d 128 122 L (zl (zw x) :: t) S Q) := Zgo_iff (i := .i2l) (len := 1) (a := 0) (b := 0) (c := 0) (p := 0) rfl
set_option maxRecDepth 20000 in
theorem zg_128_122 : Zgo d 128 122 L st S Q ↔ (Zgo d 128 124 L (zi 32 :: st) S Q) := Zgo_iff (i := .bipush 32) (len := 2) (a := 0) (b := 0) (c := 0) (p := 0) rfl
set_option maxRecDepth 20000 in
theorem zg_128_124 : Zgo d 128 124 L st S Q ↔ (zpi st False fun y t => zpl t False fun x t => Zgo d 128 125 L (zl (zlshl x y) :: t) S Q) := Zgo_iff (i := .lshl) (len := 1) (a := 0) (b := 0) (c := 0) (p := 0) rfl
set_option maxRecDepth 20000 in
theorem zg_128_125 : Zgo d 128 125 L st S Q ↔ (zlda L 0 False fun r => Zgo d 128 126 L (zq r :: st) S Q) := Zgo_iff (i := .aload_n 0) (len := 1) (a := 0) (b := 0) (c := 0) (p := 0) rfl
set_option maxRecDepth 20000 in
theorem zg_128_126 : Zgo d 128 126 L st S Q ↔ (zldi L 4 False fun x => Zgo d 128 128 L (zi x :: st) S Q) := Zgo_iff (i := .iload 4) (len := 2) (a := 0) (b := 0) (c := 0) (p := 0) rfl
set_option maxRecDepth 20000 in
theorem zg_128_128 : Zgo d 128 128 L st S Q ↔ (Zgo d 128 129 L (zi 2 :: st) S Q) := Zgo_iff (i := .iconst 2) (len := 1) (a := 0) (b := 0) (c := 0) (p := 0) rfl
set_option maxRecDepth 20000 in
theorem zg_128_129 : Zgo d 128 129 L st S Q ↔ (zpi st False fun y t => zpi t False fun x t => Zgo d 128 130 L (zi (x + y) :: t) S Q) := Zgo_iff (i := .iadd) (len := 1) (a := 0) (b := 0) (c := 0) (p := 0) rfl
set_option maxRecDepth 20000 in
theorem zg_128_130 : Zgo d 128 130 L st S Q ↔ (zpi st False fun j t => zpa t False fun r t => znn r False fun q o => zop (zlen S q) False fun n => if n.1 = 0 then zix j n.2 False fun x => Zgo d 128 131 L (zi (S.1 q o x) :: t) S Q else False) := Zgo_iff (i := .iaload) (len := 1) (a := 0) (b := 0) (c := 0) (p := 0) rfl
set_option maxRecDepth 20000 in
theorem zg_128_131 : Zgo d 128 131 L st S Q ↔ (zpi st False fun x t => Zgo d 128 132 L (zl (zw x) :: t) S Q) := Zgo_iff (i := .i2l) (len := 1) (a := 0) (b := 0) (c := 0) (p := 0) rfl
set_option maxRecDepth 20000 in
theorem zg_128_132 : Zgo d 128 132 L st S Q ↔ (Zgo d 128 135 L (zl (4294967295 : Nat) :: st) S Q) := Zgo_iff (i := .ldc2_w 36) (len := 3) (a := 4294967295) (b := 0) (c := 0) (p := 6005) rfl
set_option maxRecDepth 20000 in
theorem zg_128_135 : Zgo d 128 135 L st S Q ↔ (zpl st False fun y t => zpl t False fun x t => Zgo d 128 136 L (zl (zland x y) :: t) S Q) := Zgo_iff (i := .land) (len := 1) (a := 0) (b := 0) (c := 0) (p := 0) rfl
set_option maxRecDepth 20000 in
theorem zg_128_136 : Zgo d 128 136 L st S Q ↔ (zpl st False fun y t => zpl t False fun x t => Zgo d 128 137 L (zl (zlor x y) :: t) S Q) := Zgo_iff (i := .lor) (len := 1) (a := 0) (b := 0) (c := 0) (p := 0) rfl
set_option maxRecDepth 20000 in
theorem zg_128_137 : Zgo d 128 137 L st S Q ↔ (zinv 2 st False fun as t => zrec as 11 False (zCp d 82 as S fun r S2 => Zgo d 128 140 L (r.toList ++ t) S2 Q)) := Zgo_iff (i := .invokevirtual 42) (len := 3) (a := 82) (b := 2) (c := 0) (p := 5063) rfl
set_option maxRecDepth 20000 in
theorem zg_128_140 : Zgo d 128 140 L st S Q ↔ (zpi st False fun y t => zpi t False fun x t => if zw x = zw y then Zgo d 128 490 L t S Q else Zgo d 128 143 L t S Q) := Zgo_iff (i := .if_icmp .eq 350) (len := 3) (a := 0) (b := 0) (c := 0) (p := 0) rfl
set_option maxRecDepth 20000 in
theorem zg_128_143 : Zgo d 128 143 L st S Q ↔ (Zgo d 128 144 L (zi 0 :: st) S Q) := Zgo_iff (i := .iconst 0) (len := 1) (a := 0) (b := 0) (c := 0) (p := 0) rfl
set_option maxRecDepth 20000 in
theorem zg_128_144 : Zgo d 128 144 L st S Q ↔ (zpi st False fun x t => zem t False (zok 1 x False (Q (some (zi x)) S))) := Zgo_iff (i := .ireturn) (len := 1) (a := 0) (b := 0) (c := 0) (p := 0) rfl
set_option maxRecDepth 20000 in
theorem zg_128_145 : Zgo d 128 145 L st S Q ↔ (zlda L 1 False fun r => Zgo d 128 146 L (zq r :: st) S Q) := Zgo_iff (i := .aload_n 1) (len := 1) (a := 0) (b := 0) (c := 0) (p := 0) rfl
set_option maxRecDepth 20000 in
theorem zg_128_146 : Zgo d 128 146 L st S Q ↔ (zinv 1 st False fun as t => zrec as 0 False (zCp d 15 as S fun r S2 => Zgo d 128 149 L (r.toList ++ t) S2 Q)) := Zgo_iff (i := .invokevirtual 43) (len := 3) (a := 15) (b := 1) (c := 0) (p := 2144) rfl
set_option maxRecDepth 20000 in
theorem zg_128_149 : Zgo d 128 149 L st S Q ↔ (zlda L 2 False fun r => Zgo d 128 150 L (zq r :: st) S Q) := Zgo_iff (i := .aload_n 2) (len := 1) (a := 0) (b := 0) (c := 0) (p := 0) rfl
set_option maxRecDepth 20000 in
theorem zg_128_150 : Zgo d 128 150 L st S Q ↔ (zinv 1 st False fun as t => zrec as 11 False (zCp d 83 as S fun r S2 => Zgo d 128 153 L (r.toList ++ t) S2 Q)) := Zgo_iff (i := .invokevirtual 46) (len := 3) (a := 83) (b := 1) (c := 0) (p := 5068) rfl
set_option maxRecDepth 20000 in
theorem zg_128_153 : Zgo d 128 153 L st S Q ↔ (Zgo d 128 490 L st S Q) := Zgo_iff (i := .goto 337) (len := 3) (a := 0) (b := 0) (c := 0) (p := 0) rfl
set_option maxRecDepth 20000 in
theorem zg_128_156 : Zgo d 128 156 L st S Q ↔ (zlda L 1 False fun r => Zgo d 128 157 L (zq r :: st) S Q) := Zgo_iff (i := .aload_n 1) (len := 1) (a := 0) (b := 0) (c := 0) (p := 0) rfl
set_option maxRecDepth 20000 in
theorem zg_128_157 : Zgo d 128 157 L st S Q ↔ (zinv 1 st False fun as t => zrec as 0 False (zCp d 16 as S fun r S2 => Zgo d 128 160 L (r.toList ++ t) S2 Q)) := Zgo_iff (i := .invokevirtual 47) (len := 3) (a := 16) (b := 1) (c := 0) (p := 2148) rfl
set_option maxRecDepth 20000 in
theorem zg_128_160 : Zgo d 128 160 L st S Q ↔ (zlda L 2 False fun r => Zgo d 128 161 L (zq r :: st) S Q) := Zgo_iff (i := .aload_n 2) (len := 1) (a := 0) (b := 0) (c := 0) (p := 0) rfl
set_option maxRecDepth 20000 in
theorem zg_128_161 : Zgo d 128 161 L st S Q ↔ (zinv 1 st False fun as t => zrec as 11 False (zCp d 84 as S fun r S2 => Zgo d 128 164 L (r.toList ++ t) S2 Q)) := Zgo_iff (i := .invokevirtual 51) (len := 3) (a := 84) (b := 1) (c := 0) (p := 5072) rfl
set_option maxRecDepth 20000 in
theorem zg_128_164 : Zgo d 128 164 L st S Q ↔ (zpi st False fun y t => zpi t False fun x t => if zw x = zw y then Zgo d 128 490 L t S Q else Zgo d 128 167 L t S Q) := Zgo_iff (i := .if_icmp .eq 326) (len := 3) (a := 0) (b := 0) (c := 0) (p := 0) rfl
set_option maxRecDepth 20000 in
theorem zg_128_167 : Zgo d 128 167 L st S Q ↔ (Zgo d 128 168 L (zi 0 :: st) S Q) := Zgo_iff (i := .iconst 0) (len := 1) (a := 0) (b := 0) (c := 0) (p := 0) rfl
set_option maxRecDepth 20000 in
theorem zg_128_168 : Zgo d 128 168 L st S Q ↔ (zpi st False fun x t => zem t False (zok 1 x False (Q (some (zi x)) S))) := Zgo_iff (i := .ireturn) (len := 1) (a := 0) (b := 0) (c := 0) (p := 0) rfl
set_option maxRecDepth 20000 in
theorem zg_128_169 : Zgo d 128 169 L st S Q ↔ (zlda L 1 False fun r => Zgo d 128 170 L (zq r :: st) S Q) := Zgo_iff (i := .aload_n 1) (len := 1) (a := 0) (b := 0) (c := 0) (p := 0) rfl
set_option maxRecDepth 20000 in
theorem zg_128_170 : Zgo d 128 170 L st S Q ↔ (zlda L 0 False fun r => Zgo d 128 171 L (zq r :: st) S Q) := Zgo_iff (i := .aload_n 0) (len := 1) (a := 0) (b := 0) (c := 0) (p := 0) rfl
set_option maxRecDepth 20000 in
theorem zg_128_171 : Zgo d 128 171 L st S Q ↔ (zldi L 4 False fun x => Zgo d 128 173 L (zi x :: st) S Q) := Zgo_iff (i := .iload 4) (len := 2) (a := 0) (b := 0) (c := 0) (p := 0) rfl
set_option maxRecDepth 20000 in
theorem zg_128_173 : Zgo d 128 173 L st S Q ↔ (Zgo d 128 174 L (zi 1 :: st) S Q) := Zgo_iff (i := .iconst 1) (len := 1) (a := 0) (b := 0) (c := 0) (p := 0) rfl
set_option maxRecDepth 20000 in
theorem zg_128_174 : Zgo d 128 174 L st S Q ↔ (zpi st False fun y t => zpi t False fun x t => Zgo d 128 175 L (zi (x + y) :: t) S Q) := Zgo_iff (i := .iadd) (len := 1) (a := 0) (b := 0) (c := 0) (p := 0) rfl
set_option maxRecDepth 20000 in
theorem zg_128_175 : Zgo d 128 175 L st S Q ↔ (zpi st False fun j t => zpa t False fun r t => znn r False fun q o => zop (zlen S q) False fun n => if n.1 = 0 then zix j n.2 False fun x => Zgo d 128 176 L (zi (S.1 q o x) :: t) S Q else False) := Zgo_iff (i := .iaload) (len := 1) (a := 0) (b := 0) (c := 0) (p := 0) rfl
set_option maxRecDepth 20000 in
theorem zg_128_176 : Zgo d 128 176 L st S Q ↔ (zlda L 3 False fun r => Zgo d 128 177 L (zq r :: st) S Q) := Zgo_iff (i := .aload_n 3) (len := 1) (a := 0) (b := 0) (c := 0) (p := 0) rfl
set_option maxRecDepth 20000 in
theorem zg_128_177 : Zgo d 128 177 L st S Q ↔ (zinv 3 st False fun as t => zCp d 56 as S fun r S2 => Zgo d 128 180 L (r.toList ++ t) S2 Q) := Zgo_iff (i := .invokestatic 52) (len := 3) (a := 56) (b := 3) (c := 1) (p := 3154) rfl
set_option maxRecDepth 20000 in
theorem zg_128_180 : Zgo d 128 180 L st S Q ↔ (zpi st False fun x t => Zgo d 128 182 (zst L 5 (some (zi x))) t S Q) := Zgo_iff (i := .istore 5) (len := 2) (a := 0) (b := 0) (c := 0) (p := 0) rfl
set_option maxRecDepth 20000 in
theorem zg_128_182 : Zgo d 128 182 L st S Q ↔ (zlda L 2 False fun r => Zgo d 128 183 L (zq r :: st) S Q) := Zgo_iff (i := .aload_n 2) (len := 1) (a := 0) (b := 0) (c := 0) (p := 0) rfl
set_option maxRecDepth 20000 in
theorem zg_128_183 : Zgo d 128 183 L st S Q ↔ (zlda L 0 False fun r => Zgo d 128 184 L (zq r :: st) S Q) := Zgo_iff (i := .aload_n 0) (len := 1) (a := 0) (b := 0) (c := 0) (p := 0) rfl
set_option maxRecDepth 20000 in
theorem zg_128_184 : Zgo d 128 184 L st S Q ↔ (zldi L 4 False fun x => Zgo d 128 186 L (zi x :: st) S Q) := Zgo_iff (i := .iload 4) (len := 2) (a := 0) (b := 0) (c := 0) (p := 0) rfl
set_option maxRecDepth 20000 in
theorem zg_128_186 : Zgo d 128 186 L st S Q ↔ (Zgo d 128 187 L (zi 1 :: st) S Q) := Zgo_iff (i := .iconst 1) (len := 1) (a := 0) (b := 0) (c := 0) (p := 0) rfl
set_option maxRecDepth 20000 in
theorem zg_128_187 : Zgo d 128 187 L st S Q ↔ (zpi st False fun y t => zpi t False fun x t => Zgo d 128 188 L (zi (x + y) :: t) S Q) := Zgo_iff (i := .iadd) (len := 1) (a := 0) (b := 0) (c := 0) (p := 0) rfl
set_option maxRecDepth 20000 in
theorem zg_128_188 : Zgo d 128 188 L st S Q ↔ (zpi st False fun j t => zpa t False fun r t => znn r False fun q o => zop (zlen S q) False fun n => if n.1 = 0 then zix j n.2 False fun x => Zgo d 128 189 L (zi (S.1 q o x) :: t) S Q else False) := Zgo_iff (i := .iaload) (len := 1) (a := 0) (b := 0) (c := 0) (p := 0) rfl
set_option maxRecDepth 20000 in
theorem zg_128_189 : Zgo d 128 189 L st S Q ↔ (zinv 2 st False fun as t => zrec as 11 False (zCp d 110 as S fun r S2 => Zgo d 128 192 L (r.toList ++ t) S2 Q)) := Zgo_iff (i := .invokevirtual 57) (len := 3) (a := 110) (b := 2) (c := 0) (p := 5173) rfl
set_option maxRecDepth 20000 in
theorem zg_128_192 : Zgo d 128 192 L st S Q ↔ (zpi st False fun x t => Zgo d 128 194 (zst L 6 (some (zi x))) t S Q) := Zgo_iff (i := .istore 6) (len := 2) (a := 0) (b := 0) (c := 0) (p := 0) rfl
set_option maxRecDepth 20000 in
theorem zg_128_194 : Zgo d 128 194 L st S Q ↔ (zlda L 2 False fun r => Zgo d 128 195 L (zq r :: st) S Q) := Zgo_iff (i := .aload_n 2) (len := 1) (a := 0) (b := 0) (c := 0) (p := 0) rfl
set_option maxRecDepth 20000 in
theorem zg_128_195 : Zgo d 128 195 L st S Q ↔ (zinv 1 st False fun as t => zrec as 11 False (zCp d 81 as S fun r S2 => Zgo d 128 198 L (r.toList ++ t) S2 Q)) := Zgo_iff (i := .invokevirtual 58) (len := 3) (a := 81) (b := 1) (c := 0) (p := 5059) rfl
set_option maxRecDepth 20000 in
theorem zg_128_198 : Zgo d 128 198 L st S Q ↔ (zldi L 5 False fun x => Zgo d 128 200 L (zi x :: st) S Q) := Zgo_iff (i := .iload 5) (len := 2) (a := 0) (b := 0) (c := 0) (p := 0) rfl
set_option maxRecDepth 20000 in
theorem zg_128_200 : Zgo d 128 200 L st S Q ↔ (zpi st False fun y t => zpi t False fun x t => if zw x = zw y then Zgo d 128 205 L t S Q else Zgo d 128 203 L t S Q) := Zgo_iff (i := .if_icmp .eq 5) (len := 3) (a := 0) (b := 0) (c := 0) (p := 0) rfl
set_option maxRecDepth 20000 in
theorem zg_128_203 : Zgo d 128 203 L st S Q ↔ (Zgo d 128 204 L (zi 0 :: st) S Q) := Zgo_iff (i := .iconst 0) (len := 1) (a := 0) (b := 0) (c := 0) (p := 0) rfl
set_option maxRecDepth 20000 in
theorem zg_128_204 : Zgo d 128 204 L st S Q ↔ (zpi st False fun x t => zem t False (zok 1 x False (Q (some (zi x)) S))) := Zgo_iff (i := .ireturn) (len := 1) (a := 0) (b := 0) (c := 0) (p := 0) rfl
set_option maxRecDepth 20000 in
theorem zg_128_205 : Zgo d 128 205 L st S Q ↔ (zldi L 5 False fun x => Zgo d 128 207 L (zi x :: st) S Q) := Zgo_iff (i := .iload 5) (len := 2) (a := 0) (b := 0) (c := 0) (p := 0) rfl
set_option maxRecDepth 20000 in
theorem zg_128_207 : Zgo d 128 207 L st S Q ↔ (zpi st False fun x t => if zw x = zw 0 then Zgo d 128 210 L t S Q else Zgo d 128 222 L t S Q) := Zgo_iff (i := .ifCond .ne 15) (len := 3) (a := 0) (b := 0) (c := 0) (p := 0) rfl
set_option maxRecDepth 20000 in
theorem zg_128_210 : Zgo d 128 210 L st S Q ↔ (zlda L 3 False fun r => Zgo d 128 211 L (zq r :: st) S Q) := Zgo_iff (i := .aload_n 3) (len := 1) (a := 0) (b := 0) (c := 0) (p := 0) rfl
set_option maxRecDepth 20000 in
theorem zg_128_211 : Zgo d 128 211 L st S Q ↔ (Zgo d 128 212 L (zi 0 :: st) S Q) := Zgo_iff (i := .iconst 0) (len := 1) (a := 0) (b := 0) (c := 0) (p := 0) rfl
set_option maxRecDepth 20000 in
theorem zg_128_212 : Zgo d 128 212 L st S Q ↔ (zpi st False fun j t => zpa t False fun r t => znn r False fun q o => zop (zlen S q) False fun n => if n.1 = 4 then zix j n.2 False fun x => Zgo d 128 213 L (zl (S.1 q o x) :: t) S Q else False) := Zgo_iff (i := .laload) (len := 1) (a := 0) (b := 0) (c := 0) (p := 0) rfl
set_option maxRecDepth 20000 in
theorem zg_128_213 : Zgo d 128 213 L st S Q ↔ (zldi L 6 False fun x => Zgo d 128 215 L (zi x :: st) S Q) := Zgo_iff (i := .iload 6) (len := 2) (a := 0) (b := 0) (c := 0) (p := 0) rfl
set_option maxRecDepth 20000 in
theorem zg_128_215 : Zgo d 128 215 L st S Q ↔ (zpi st False fun x t => Zgo d 128 216 L (zl (zw x) :: t) S Q) := Zgo_iff (i := .i2l) (len := 1) (a := 0) (b := 0) (c := 0) (p := 0) rfl
set_option maxRecDepth 20000 in
theorem zg_128_216 : Zgo d 128 216 L st S Q ↔ (zpl st False fun y t => zpl t False fun x t => Zgo d 128 217 L (zi (zlcmp x y) :: t) S Q) := Zgo_iff (i := .lcmp) (len := 1) (a := 0) (b := 0) (c := 0) (p := 0) rfl
set_option maxRecDepth 20000 in
theorem zg_128_217 : Zgo d 128 217 L st S Q ↔ (zpi st False fun x t => if zw x = zw 0 then Zgo d 128 222 L t S Q else Zgo d 128 220 L t S Q) := Zgo_iff (i := .ifCond .eq 5) (len := 3) (a := 0) (b := 0) (c := 0) (p := 0) rfl
set_option maxRecDepth 20000 in
theorem zg_128_220 : Zgo d 128 220 L st S Q ↔ (Zgo d 128 221 L (zi 0 :: st) S Q) := Zgo_iff (i := .iconst 0) (len := 1) (a := 0) (b := 0) (c := 0) (p := 0) rfl
set_option maxRecDepth 20000 in
theorem zg_128_221 : Zgo d 128 221 L st S Q ↔ (zpi st False fun x t => zem t False (zok 1 x False (Q (some (zi x)) S))) := Zgo_iff (i := .ireturn) (len := 1) (a := 0) (b := 0) (c := 0) (p := 0) rfl
set_option maxRecDepth 20000 in
theorem zg_128_222 : Zgo d 128 222 L st S Q ↔ (Zgo d 128 490 L st S Q) := Zgo_iff (i := .goto 268) (len := 3) (a := 0) (b := 0) (c := 0) (p := 0) rfl
set_option maxRecDepth 20000 in
theorem zg_128_225 : Zgo d 128 225 L st S Q ↔ (zlda L 1 False fun r => Zgo d 128 226 L (zq r :: st) S Q) := Zgo_iff (i := .aload_n 1) (len := 1) (a := 0) (b := 0) (c := 0) (p := 0) rfl
set_option maxRecDepth 20000 in
theorem zg_128_226 : Zgo d 128 226 L st S Q ↔ (zlda L 0 False fun r => Zgo d 128 227 L (zq r :: st) S Q) := Zgo_iff (i := .aload_n 0) (len := 1) (a := 0) (b := 0) (c := 0) (p := 0) rfl
set_option maxRecDepth 20000 in
theorem zg_128_227 : Zgo d 128 227 L st S Q ↔ (zldi L 4 False fun x => Zgo d 128 229 L (zi x :: st) S Q) := Zgo_iff (i := .iload 4) (len := 2) (a := 0) (b := 0) (c := 0) (p := 0) rfl
set_option maxRecDepth 20000 in
theorem zg_128_229 : Zgo d 128 229 L st S Q ↔ (Zgo d 128 230 L (zi 1 :: st) S Q) := Zgo_iff (i := .iconst 1) (len := 1) (a := 0) (b := 0) (c := 0) (p := 0) rfl
set_option maxRecDepth 20000 in
theorem zg_128_230 : Zgo d 128 230 L st S Q ↔ (zpi st False fun y t => zpi t False fun x t => Zgo d 128 231 L (zi (x + y) :: t) S Q) := Zgo_iff (i := .iadd) (len := 1) (a := 0) (b := 0) (c := 0) (p := 0) rfl
set_option maxRecDepth 20000 in
theorem zg_128_231 : Zgo d 128 231 L st S Q ↔ (zpi st False fun j t => zpa t False fun r t => znn r False fun q o => zop (zlen S q) False fun n => if n.1 = 0 then zix j n.2 False fun x => Zgo d 128 232 L (zi (S.1 q o x) :: t) S Q else False) := Zgo_iff (i := .iaload) (len := 1) (a := 0) (b := 0) (c := 0) (p := 0) rfl
set_option maxRecDepth 20000 in
theorem zg_128_232 : Zgo d 128 232 L st S Q ↔ (zlda L 3 False fun r => Zgo d 128 233 L (zq r :: st) S Q) := Zgo_iff (i := .aload_n 3) (len := 1) (a := 0) (b := 0) (c := 0) (p := 0) rfl
set_option maxRecDepth 20000 in
theorem zg_128_233 : Zgo d 128 233 L st S Q ↔ (zinv 3 st False fun as t => zCp d 72 as S fun r S2 => Zgo d 128 236 L (r.toList ++ t) S2 Q) := Zgo_iff (i := .invokestatic 61) (len := 3) (a := 72) (b := 3) (c := 1) (p := 4076) rfl
set_option maxRecDepth 20000 in
theorem zg_128_236 : Zgo d 128 236 L st S Q ↔ (zpi st False fun x t => Zgo d 128 238 (zst L 5 (some (zi x))) t S Q) := Zgo_iff (i := .istore 5) (len := 2) (a := 0) (b := 0) (c := 0) (p := 0) rfl
set_option maxRecDepth 20000 in
theorem zg_128_238 : Zgo d 128 238 L st S Q ↔ (zlda L 2 False fun r => Zgo d 128 239 L (zq r :: st) S Q) := Zgo_iff (i := .aload_n 2) (len := 1) (a := 0) (b := 0) (c := 0) (p := 0) rfl
set_option maxRecDepth 20000 in
theorem zg_128_239 : Zgo d 128 239 L st S Q ↔ (zlda L 0 False fun r => Zgo d 128 240 L (zq r :: st) S Q) := Zgo_iff (i := .aload_n 0) (len := 1) (a := 0) (b := 0) (c := 0) (p := 0) rfl
set_option maxRecDepth 20000 in
theorem zg_128_240 : Zgo d 128 240 L st S Q ↔ (zldi L 4 False fun x => Zgo d 128 242 L (zi x :: st) S Q) := Zgo_iff (i := .iload 4) (len := 2) (a := 0) (b := 0) (c := 0) (p := 0) rfl
set_option maxRecDepth 20000 in
theorem zg_128_242 : Zgo d 128 242 L st S Q ↔ (Zgo d 128 243 L (zi 1 :: st) S Q) := Zgo_iff (i := .iconst 1) (len := 1) (a := 0) (b := 0) (c := 0) (p := 0) rfl
set_option maxRecDepth 20000 in
theorem zg_128_243 : Zgo d 128 243 L st S Q ↔ (zpi st False fun y t => zpi t False fun x t => Zgo d 128 244 L (zi (x + y) :: t) S Q) := Zgo_iff (i := .iadd) (len := 1) (a := 0) (b := 0) (c := 0) (p := 0) rfl
set_option maxRecDepth 20000 in
theorem zg_128_244 : Zgo d 128 244 L st S Q ↔ (zpi st False fun j t => zpa t False fun r t => znn r False fun q o => zop (zlen S q) False fun n => if n.1 = 0 then zix j n.2 False fun x => Zgo d 128 245 L (zi (S.1 q o x) :: t) S Q else False) := Zgo_iff (i := .iaload) (len := 1) (a := 0) (b := 0) (c := 0) (p := 0) rfl
set_option maxRecDepth 20000 in
theorem zg_128_245 : Zgo d 128 245 L st S Q ↔ (zinv 2 st False fun as t => zrec as 11 False (zCp d 123 as S fun r S2 => Zgo d 128 248 L (r.toList ++ t) S2 Q)) := Zgo_iff (i := .invokevirtual 63) (len := 3) (a := 123) (b := 2) (c := 0) (p := 5225) rfl
set_option maxRecDepth 20000 in
theorem zg_128_248 : Zgo d 128 248 L st S Q ↔ (zpi st False fun x t => Zgo d 128 250 (zst L 6 (some (zi x))) t S Q) := Zgo_iff (i := .istore 6) (len := 2) (a := 0) (b := 0) (c := 0) (p := 0) rfl
set_option maxRecDepth 20000 in
theorem zg_128_250 : Zgo d 128 250 L st S Q ↔ (zlda L 2 False fun r => Zgo d 128 251 L (zq r :: st) S Q) := Zgo_iff (i := .aload_n 2) (len := 1) (a := 0) (b := 0) (c := 0) (p := 0) rfl
set_option maxRecDepth 20000 in
theorem zg_128_251 : Zgo d 128 251 L st S Q ↔ (zinv 1 st False fun as t => zrec as 11 False (zCp d 81 as S fun r S2 => Zgo d 128 254 L (r.toList ++ t) S2 Q)) := Zgo_iff (i := .invokevirtual 58) (len := 3) (a := 81) (b := 1) (c := 0) (p := 5059) rfl
set_option maxRecDepth 20000 in
theorem zg_128_254 : Zgo d 128 254 L st S Q ↔ (zldi L 5 False fun x => Zgo d 128 256 L (zi x :: st) S Q) := Zgo_iff (i := .iload 5) (len := 2) (a := 0) (b := 0) (c := 0) (p := 0) rfl
set_option maxRecDepth 20000 in
theorem zg_128_256 : Zgo d 128 256 L st S Q ↔ (zpi st False fun y t => zpi t False fun x t => if zw x = zw y then Zgo d 128 261 L t S Q else Zgo d 128 259 L t S Q) := Zgo_iff (i := .if_icmp .eq 5) (len := 3) (a := 0) (b := 0) (c := 0) (p := 0) rfl
set_option maxRecDepth 20000 in
theorem zg_128_259 : Zgo d 128 259 L st S Q ↔ (Zgo d 128 260 L (zi 0 :: st) S Q) := Zgo_iff (i := .iconst 0) (len := 1) (a := 0) (b := 0) (c := 0) (p := 0) rfl
set_option maxRecDepth 20000 in
theorem zg_128_260 : Zgo d 128 260 L st S Q ↔ (zpi st False fun x t => zem t False (zok 1 x False (Q (some (zi x)) S))) := Zgo_iff (i := .ireturn) (len := 1) (a := 0) (b := 0) (c := 0) (p := 0) rfl
set_option maxRecDepth 20000 in
theorem zg_128_261 : Zgo d 128 261 L st S Q ↔ (zldi L 5 False fun x => Zgo d 128 263 L (zi x :: st) S Q) := Zgo_iff (i := .iload 5) (len := 2) (a := 0) (b := 0) (c := 0) (p := 0) rfl
set_option maxRecDepth 20000 in
theorem zg_128_263 : Zgo d 128 263 L st S Q ↔ (zpi st False fun x t => if zw x = zw 0 then Zgo d 128 266 L t S Q else Zgo d 128 278 L t S Q) := Zgo_iff (i := .ifCond .ne 15) (len := 3) (a := 0) (b := 0) (c := 0) (p := 0) rfl
set_option maxRecDepth 20000 in
theorem zg_128_266 : Zgo d 128 266 L st S Q ↔ (zlda L 3 False fun r => Zgo d 128 267 L (zq r :: st) S Q) := Zgo_iff (i := .aload_n 3) (len := 1) (a := 0) (b := 0) (c := 0) (p := 0) rfl
set_option maxRecDepth 20000 in
theorem zg_128_267 : Zgo d 128 267 L st S Q ↔ (Zgo d 128 268 L (zi 0 :: st) S Q) := Zgo_iff (i := .iconst 0) (len := 1) (a := 0) (b := 0) (c := 0) (p := 0) rfl
set_option maxRecDepth 20000 in
theorem zg_128_268 : Zgo d 128 268 L st S Q ↔ (zpi st False fun j t => zpa t False fun r t => znn r False fun q o => zop (zlen S q) False fun n => if n.1 = 4 then zix j n.2 False fun x => Zgo d 128 269 L (zl (S.1 q o x) :: t) S Q else False) := Zgo_iff (i := .laload) (len := 1) (a := 0) (b := 0) (c := 0) (p := 0) rfl
set_option maxRecDepth 20000 in
theorem zg_128_269 : Zgo d 128 269 L st S Q ↔ (zldi L 6 False fun x => Zgo d 128 271 L (zi x :: st) S Q) := Zgo_iff (i := .iload 6) (len := 2) (a := 0) (b := 0) (c := 0) (p := 0) rfl
set_option maxRecDepth 20000 in
theorem zg_128_271 : Zgo d 128 271 L st S Q ↔ (zpi st False fun x t => Zgo d 128 272 L (zl (zw x) :: t) S Q) := Zgo_iff (i := .i2l) (len := 1) (a := 0) (b := 0) (c := 0) (p := 0) rfl
set_option maxRecDepth 20000 in
theorem zg_128_272 : Zgo d 128 272 L st S Q ↔ (zpl st False fun y t => zpl t False fun x t => Zgo d 128 273 L (zi (zlcmp x y) :: t) S Q) := Zgo_iff (i := .lcmp) (len := 1) (a := 0) (b := 0) (c := 0) (p := 0) rfl
set_option maxRecDepth 20000 in
theorem zg_128_273 : Zgo d 128 273 L st S Q ↔ (zpi st False fun x t => if zw x = zw 0 then Zgo d 128 278 L t S Q else Zgo d 128 276 L t S Q) := Zgo_iff (i := .ifCond .eq 5) (len := 3) (a := 0) (b := 0) (c := 0) (p := 0) rfl
set_option maxRecDepth 20000 in
theorem zg_128_276 : Zgo d 128 276 L st S Q ↔ (Zgo d 128 277 L (zi 0 :: st) S Q) := Zgo_iff (i := .iconst 0) (len := 1) (a := 0) (b := 0) (c := 0) (p := 0) rfl
set_option maxRecDepth 20000 in
theorem zg_128_277 : Zgo d 128 277 L st S Q ↔ (zpi st False fun x t => zem t False (zok 1 x False (Q (some (zi x)) S))) := Zgo_iff (i := .ireturn) (len := 1) (a := 0) (b := 0) (c := 0) (p := 0) rfl
set_option maxRecDepth 20000 in
theorem zg_128_278 : Zgo d 128 278 L st S Q ↔ (Zgo d 128 490 L st S Q) := Zgo_iff (i := .goto 212) (len := 3) (a := 0) (b := 0) (c := 0) (p := 0) rfl
set_option maxRecDepth 20000 in
theorem zg_128_281 : Zgo d 128 281 L st S Q ↔ (zlda L 1 False fun r => Zgo d 128 282 L (zq r :: st) S Q) := Zgo_iff (i := .aload_n 1) (len := 1) (a := 0) (b := 0) (c := 0) (p := 0) rfl
set_option maxRecDepth 20000 in
theorem zg_128_282 : Zgo d 128 282 L st S Q ↔ (zlda L 0 False fun r => Zgo d 128 283 L (zq r :: st) S Q) := Zgo_iff (i := .aload_n 0) (len := 1) (a := 0) (b := 0) (c := 0) (p := 0) rfl
set_option maxRecDepth 20000 in
theorem zg_128_283 : Zgo d 128 283 L st S Q ↔ (zldi L 4 False fun x => Zgo d 128 285 L (zi x :: st) S Q) := Zgo_iff (i := .iload 4) (len := 2) (a := 0) (b := 0) (c := 0) (p := 0) rfl
set_option maxRecDepth 20000 in
theorem zg_128_285 : Zgo d 128 285 L st S Q ↔ (Zgo d 128 286 L (zi 1 :: st) S Q) := Zgo_iff (i := .iconst 1) (len := 1) (a := 0) (b := 0) (c := 0) (p := 0) rfl
set_option maxRecDepth 20000 in
theorem zg_128_286 : Zgo d 128 286 L st S Q ↔ (zpi st False fun y t => zpi t False fun x t => Zgo d 128 287 L (zi (x + y) :: t) S Q) := Zgo_iff (i := .iadd) (len := 1) (a := 0) (b := 0) (c := 0) (p := 0) rfl
set_option maxRecDepth 20000 in
theorem zg_128_287 : Zgo d 128 287 L st S Q ↔ (zpi st False fun j t => zpa t False fun r t => znn r False fun q o => zop (zlen S q) False fun n => if n.1 = 0 then zix j n.2 False fun x => Zgo d 128 288 L (zi (S.1 q o x) :: t) S Q else False) := Zgo_iff (i := .iaload) (len := 1) (a := 0) (b := 0) (c := 0) (p := 0) rfl
set_option maxRecDepth 20000 in
theorem zg_128_288 : Zgo d 128 288 L st S Q ↔ (zlda L 3 False fun r => Zgo d 128 289 L (zq r :: st) S Q) := Zgo_iff (i := .aload_n 3) (len := 1) (a := 0) (b := 0) (c := 0) (p := 0) rfl
set_option maxRecDepth 20000 in
theorem zg_128_289 : Zgo d 128 289 L st S Q ↔ (zinv 3 st False fun as t => zCp d 74 as S fun r S2 => Zgo d 128 292 L (r.toList ++ t) S2 Q) := Zgo_iff (i := .invokestatic 64) (len := 3) (a := 74) (b := 3) (c := 1) (p := 4100) rfl
set_option maxRecDepth 20000 in
theorem zg_128_292 : Zgo d 128 292 L st S Q ↔ (zpi st False fun x t => Zgo d 128 294 (zst L 5 (some (zi x))) t S Q) := Zgo_iff (i := .istore 5) (len := 2) (a := 0) (b := 0) (c := 0) (p := 0) rfl
set_option maxRecDepth 20000 in
theorem zg_128_294 : Zgo d 128 294 L st S Q ↔ (zlda L 2 False fun r => Zgo d 128 295 L (zq r :: st) S Q) := Zgo_iff (i := .aload_n 2) (len := 1) (a := 0) (b := 0) (c := 0) (p := 0) rfl
set_option maxRecDepth 20000 in
theorem zg_128_295 : Zgo d 128 295 L st S Q ↔ (zlda L 0 False fun r => Zgo d 128 296 L (zq r :: st) S Q) := Zgo_iff (i := .aload_n 0) (len := 1) (a := 0) (b := 0) (c := 0) (p := 0) rfl
set_option maxRecDepth 20000 in
theorem zg_128_296 : Zgo d 128 296 L st S Q ↔ (zldi L 4 False fun x => Zgo d 128 298 L (zi x :: st) S Q) := Zgo_iff (i := .iload 4) (len := 2) (a := 0) (b := 0) (c := 0) (p := 0) rfl
set_option maxRecDepth 20000 in
theorem zg_128_298 : Zgo d 128 298 L st S Q ↔ (Zgo d 128 299 L (zi 1 :: st) S Q) := Zgo_iff (i := .iconst 1) (len := 1) (a := 0) (b := 0) (c := 0) (p := 0) rfl
set_option maxRecDepth 20000 in
theorem zg_128_299 : Zgo d 128 299 L st S Q ↔ (zpi st False fun y t => zpi t False fun x t => Zgo d 128 300 L (zi (x + y) :: t) S Q) := Zgo_iff (i := .iadd) (len := 1) (a := 0) (b := 0) (c := 0) (p := 0) rfl
set_option maxRecDepth 20000 in
theorem zg_128_300 : Zgo d 128 300 L st S Q ↔ (zpi st False fun j t => zpa t False fun r t => znn r False fun q o => zop (zlen S q) False fun n => if n.1 = 0 then zix j n.2 False fun x => Zgo d 128 301 L (zi (S.1 q o x) :: t) S Q else False) := Zgo_iff (i := .iaload) (len := 1) (a := 0) (b := 0) (c := 0) (p := 0) rfl
set_option maxRecDepth 20000 in
theorem zg_128_301 : Zgo d 128 301 L st S Q ↔ (zinv 2 st False fun as t => zrec as 11 False (zCp d 124 as S fun r S2 => Zgo d 128 304 L (r.toList ++ t) S2 Q)) := Zgo_iff (i := .invokevirtual 66) (len := 3) (a := 124) (b := 2) (c := 0) (p := 5229) rfl
set_option maxRecDepth 20000 in
theorem zg_128_304 : Zgo d 128 304 L st S Q ↔ (zpi st False fun x t => Zgo d 128 306 (zst L 6 (some (zi x))) t S Q) := Zgo_iff (i := .istore 6) (len := 2) (a := 0) (b := 0) (c := 0) (p := 0) rfl
set_option maxRecDepth 20000 in
theorem zg_128_306 : Zgo d 128 306 L st S Q ↔ (zlda L 2 False fun r => Zgo d 128 307 L (zq r :: st) S Q) := Zgo_iff (i := .aload_n 2) (len := 1) (a := 0) (b := 0) (c := 0) (p := 0) rfl
set_option maxRecDepth 20000 in
theorem zg_128_307 : Zgo d 128 307 L st S Q ↔ (zinv 1 st False fun as t => zrec as 11 False (zCp d 81 as S fun r S2 => Zgo d 128 310 L (r.toList ++ t) S2 Q)) := Zgo_iff (i := .invokevirtual 58) (len := 3) (a := 81) (b := 1) (c := 0) (p := 5059) rfl
set_option maxRecDepth 20000 in
theorem zg_128_310 : Zgo d 128 310 L st S Q ↔ (zldi L 5 False fun x => Zgo d 128 312 L (zi x :: st) S Q) := Zgo_iff (i := .iload 5) (len := 2) (a := 0) (b := 0) (c := 0) (p := 0) rfl
set_option maxRecDepth 20000 in
theorem zg_128_312 : Zgo d 128 312 L st S Q ↔ (zpi st False fun y t => zpi t False fun x t => if zw x = zw y then Zgo d 128 317 L t S Q else Zgo d 128 315 L t S Q) := Zgo_iff (i := .if_icmp .eq 5) (len := 3) (a := 0) (b := 0) (c := 0) (p := 0) rfl
set_option maxRecDepth 20000 in
theorem zg_128_315 : Zgo d 128 315 L st S Q ↔ (Zgo d 128 316 L (zi 0 :: st) S Q) := Zgo_iff (i := .iconst 0) (len := 1) (a := 0) (b := 0) (c := 0) (p := 0) rfl
set_option maxRecDepth 20000 in
theorem zg_128_316 : Zgo d 128 316 L st S Q ↔ (zpi st False fun x t => zem t False (zok 1 x False (Q (some (zi x)) S))) := Zgo_iff (i := .ireturn) (len := 1) (a := 0) (b := 0) (c := 0) (p := 0) rfl
set_option maxRecDepth 20000 in
theorem zg_128_317 : Zgo d 128 317 L st S Q ↔ (zldi L 5 False fun x => Zgo d 128 319 L (zi x :: st) S Q) := Zgo_iff (i := .iload 5) (len := 2) (a := 0) (b := 0) (c := 0) (p := 0) rfl
set_option maxRecDepth 20000 in
theorem zg_128_319 : Zgo d 128 319 L st S Q ↔ (zpi st False fun x t => if zw x = zw 0 then Zgo d 128 322 L t S Q else Zgo d 128 334 L t S Q) := Zgo_iff (i := .ifCond .ne 15) (len := 3) (a := 0) (b := 0) (c := 0) (p := 0) rfl
set_option maxRecDepth 20000 in
theorem zg_128_322 : Zgo d 128 322 L st S Q ↔ (zlda L 3 False fun r => Zgo d 128 323 L (zq r :: st) S Q) := Zgo_iff (i := .aload_n 3) (len := 1) (a := 0) (b := 0) (c := 0) (p := 0) rfl
set_option maxRecDepth 20000 in
theorem zg_128_323 : Zgo d 128 323 L st S Q ↔ (Zgo d 128 324 L (zi 0 :: st) S Q) := Zgo_iff (i := .iconst 0) (len := 1) (a := 0) (b := 0) (c := 0) (p := 0) rfl
set_option maxRecDepth 20000 in
theorem zg_128_324 : Zgo d 128 324 L st S Q ↔ (zpi st False fun j t => zpa t False fun r t => znn r False fun q o => zop (zlen S q) False fun n => if n.1 = 4 then zix j n.2 False fun x => Zgo d 128 325 L (zl (S.1 q o x) :: t) S Q else False) := Zgo_iff (i := .laload) (len := 1) (a := 0) (b := 0) (c := 0) (p := 0) rfl
set_option maxRecDepth 20000 in
theorem zg_128_325 : Zgo d 128 325 L st S Q ↔ (zldi L 6 False fun x => Zgo d 128 327 L (zi x :: st) S Q) := Zgo_iff (i := .iload 6) (len := 2) (a := 0) (b := 0) (c := 0) (p := 0) rfl
set_option maxRecDepth 20000 in
theorem zg_128_327 : Zgo d 128 327 L st S Q ↔ (zpi st False fun x t => Zgo d 128 328 L (zl (zw x) :: t) S Q) := Zgo_iff (i := .i2l) (len := 1) (a := 0) (b := 0) (c := 0) (p := 0) rfl
set_option maxRecDepth 20000 in
theorem zg_128_328 : Zgo d 128 328 L st S Q ↔ (zpl st False fun y t => zpl t False fun x t => Zgo d 128 329 L (zi (zlcmp x y) :: t) S Q) := Zgo_iff (i := .lcmp) (len := 1) (a := 0) (b := 0) (c := 0) (p := 0) rfl
set_option maxRecDepth 20000 in
theorem zg_128_329 : Zgo d 128 329 L st S Q ↔ (zpi st False fun x t => if zw x = zw 0 then Zgo d 128 334 L t S Q else Zgo d 128 332 L t S Q) := Zgo_iff (i := .ifCond .eq 5) (len := 3) (a := 0) (b := 0) (c := 0) (p := 0) rfl
set_option maxRecDepth 20000 in
theorem zg_128_332 : Zgo d 128 332 L st S Q ↔ (Zgo d 128 333 L (zi 0 :: st) S Q) := Zgo_iff (i := .iconst 0) (len := 1) (a := 0) (b := 0) (c := 0) (p := 0) rfl
set_option maxRecDepth 20000 in
theorem zg_128_333 : Zgo d 128 333 L st S Q ↔ (zpi st False fun x t => zem t False (zok 1 x False (Q (some (zi x)) S))) := Zgo_iff (i := .ireturn) (len := 1) (a := 0) (b := 0) (c := 0) (p := 0) rfl
set_option maxRecDepth 20000 in
theorem zg_128_334 : Zgo d 128 334 L st S Q ↔ (Zgo d 128 490 L st S Q) := Zgo_iff (i := .goto 156) (len := 3) (a := 0) (b := 0) (c := 0) (p := 0) rfl
set_option maxRecDepth 20000 in
theorem zg_128_337 : Zgo d 128 337 L st S Q ↔ (zlda L 1 False fun r => Zgo d 128 338 L (zq r :: st) S Q) := Zgo_iff (i := .aload_n 1) (len := 1) (a := 0) (b := 0) (c := 0) (p := 0) rfl
set_option maxRecDepth 20000 in
theorem zg_128_338 : Zgo d 128 338 L st S Q ↔ (zlda L 0 False fun r => Zgo d 128 339 L (zq r :: st) S Q) := Zgo_iff (i := .aload_n 0) (len := 1) (a := 0) (b := 0) (c := 0) (p := 0) rfl
set_option maxRecDepth 20000 in
theorem zg_128_339 : Zgo d 128 339 L st S Q ↔ (zldi L 4 False fun x => Zgo d 128 341 L (zi x :: st) S Q) := Zgo_iff (i := .iload 4) (len := 2) (a := 0) (b := 0) (c := 0) (p := 0) rfl
set_option maxRecDepth 20000 in
theorem zg_128_341 : Zgo d 128 341 L st S Q ↔ (Zgo d 128 342 L (zi 1 :: st) S Q) := Zgo_iff (i := .iconst 1) (len := 1) (a := 0) (b := 0) (c := 0) (p := 0) rfl
set_option maxRecDepth 20000 in
theorem zg_128_342 : Zgo d 128 342 L st S Q ↔ (zpi st False fun y t => zpi t False fun x t => Zgo d 128 343 L (zi (x + y) :: t) S Q) := Zgo_iff (i := .iadd) (len := 1) (a := 0) (b := 0) (c := 0) (p := 0) rfl
set_option maxRecDepth 20000 in
theorem zg_128_343 : Zgo d 128 343 L st S Q ↔ (zpi st False fun j t => zpa t False fun r t => znn r False fun q o => zop (zlen S q) False fun n => if n.1 = 0 then zix j n.2 False fun x => Zgo d 128 344 L (zi (S.1 q o x) :: t) S Q else False) := Zgo_iff (i := .iaload) (len := 1) (a := 0) (b := 0) (c := 0) (p := 0) rfl
set_option maxRecDepth 20000 in
theorem zg_128_344 : Zgo d 128 344 L st S Q ↔ (zpi st False fun x t => if zw x = zw 0 then Zgo d 128 351 L t S Q else Zgo d 128 347 L t S Q) := Zgo_iff (i := .ifCond .eq 7) (len := 3) (a := 0) (b := 0) (c := 0) (p := 0) rfl
set_option maxRecDepth 20000 in
theorem zg_128_347 : Zgo d 128 347 L st S Q ↔ (Zgo d 128 348 L (zi 1 :: st) S Q) := Zgo_iff (i := .iconst 1) (len := 1) (a := 0) (b := 0) (c := 0) (p := 0) rfl
set_option maxRecDepth 20000 in
theorem zg_128_348 : Zgo d 128 348 L st S Q ↔ (Zgo d 128 352 L st S Q) := Zgo_iff (i := .goto 4) (len := 3) (a := 0) (b := 0) (c := 0) (p := 0) rfl
set_option maxRecDepth 20000 in
theorem zg_128_351 : Zgo d 128 351 L st S Q ↔ (Zgo d 128 352 L (zi 0 :: st) S Q) := Zgo_iff (i := .iconst 0) (len := 1) (a := 0) (b := 0) (c := 0) (p := 0) rfl
set_option maxRecDepth 20000 in
theorem zg_128_352 : Zgo d 128 352 L st S Q ↔ (zlda L 3 False fun r => Zgo d 128 353 L (zq r :: st) S Q) := Zgo_iff (i := .aload_n 3) (len := 1) (a := 0) (b := 0) (c := 0) (p := 0) rfl
set_option maxRecDepth 20000 in
theorem zg_128_353 : Zgo d 128 353 L st S Q ↔ (zinv 3 st False fun as t => zCp d 76 as S fun r S2 => Zgo d 128 356 L (r.toList ++ t) S2 Q) := Zgo_iff (i := .invokestatic 67) (len := 3) (a := 76) (b := 3) (c := 1) (p := 4108) rfl
set_option maxRecDepth 20000 in
theorem zg_128_356 : Zgo d 128 356 L st S Q ↔ (zpi st False fun x t => Zgo d 128 358 (zst L 5 (some (zi x))) t S Q) := Zgo_iff (i := .istore 5) (len := 2) (a := 0) (b := 0) (c := 0) (p := 0) rfl
set_option maxRecDepth 20000 in
theorem zg_128_358 : Zgo d 128 358 L st S Q ↔ (zlda L 2 False fun r => Zgo d 128 359 L (zq r :: st) S Q) := Zgo_iff (i := .aload_n 2) (len := 1) (a := 0) (b := 0) (c := 0) (p := 0) rfl
set_option maxRecDepth 20000 in
theorem zg_128_359 : Zgo d 128 359 L st S Q ↔ (zlda L 0 False fun r => Zgo d 128 360 L (zq r :: st) S Q) := Zgo_iff (i := .aload_n 0) (len := 1) (a := 0) (b := 0) (c := 0) (p := 0) rfl
set_option maxRecDepth 20000 in
theorem zg_128_360 : Zgo d 128 360 L st S Q ↔ (zldi L 4 False fun x => Zgo d 128 362 L (zi x :: st) S Q) := Zgo_iff (i := .iload 4) (len := 2) (a := 0) (b := 0) (c := 0) (p := 0) rfl
set_option maxRecDepth 20000 in
theorem zg_128_362 : Zgo d 128 362 L st S Q ↔ (Zgo d 128 363 L (zi 1 :: st) S Q) := Zgo_iff (i := .iconst 1) (len := 1) (a := 0) (b := 0) (c := 0) (p := 0) rfl
set_option maxRecDepth 20000 in
theorem zg_128_363 : Zgo d 128 363 L st S Q ↔ (zpi st False fun y t => zpi t False fun x t => Zgo d 128 364 L (zi (x + y) :: t) S Q) := Zgo_iff (i := .iadd) (len := 1) (a := 0) (b := 0) (c := 0) (p := 0) rfl
set_option maxRecDepth 20000 in
theorem zg_128_364 : Zgo d 128 364 L st S Q ↔ (zpi st False fun j t => zpa t False fun r t => znn r False fun q o => zop (zlen S q) False fun n => if n.1 = 0 then zix j n.2 False fun x => Zgo d 128 365 L (zi (S.1 q o x) :: t) S Q else False) := Zgo_iff (i := .iaload) (len := 1) (a := 0) (b := 0) (c := 0) (p := 0) rfl
set_option maxRecDepth 20000 in
theorem zg_128_365 : Zgo d 128 365 L st S Q ↔ (zpi st False fun x t => if zw x = zw 0 then Zgo d 128 372 L t S Q else Zgo d 128 368 L t S Q) := Zgo_iff (i := .ifCond .eq 7) (len := 3) (a := 0) (b := 0) (c := 0) (p := 0) rfl
set_option maxRecDepth 20000 in
theorem zg_128_368 : Zgo d 128 368 L st S Q ↔ (Zgo d 128 369 L (zi 1 :: st) S Q) := Zgo_iff (i := .iconst 1) (len := 1) (a := 0) (b := 0) (c := 0) (p := 0) rfl
set_option maxRecDepth 20000 in
theorem zg_128_369 : Zgo d 128 369 L st S Q ↔ (Zgo d 128 373 L st S Q) := Zgo_iff (i := .goto 4) (len := 3) (a := 0) (b := 0) (c := 0) (p := 0) rfl
set_option maxRecDepth 20000 in
theorem zg_128_372 : Zgo d 128 372 L st S Q ↔ (Zgo d 128 373 L (zi 0 :: st) S Q) := Zgo_iff (i := .iconst 0) (len := 1) (a := 0) (b := 0) (c := 0) (p := 0) rfl
set_option maxRecDepth 20000 in
theorem zg_128_373 : Zgo d 128 373 L st S Q ↔ (zinv 2 st False fun as t => zrec as 11 False (zCp d 125 as S fun r S2 => Zgo d 128 376 L (r.toList ++ t) S2 Q)) := Zgo_iff (i := .invokevirtual 70) (len := 3) (a := 125) (b := 2) (c := 0) (p := 5233) rfl
set_option maxRecDepth 20000 in
theorem zg_128_376 : Zgo d 128 376 L st S Q ↔ (zpi st False fun x t => Zgo d 128 378 (zst L 6 (some (zi x))) t S Q) := Zgo_iff (i := .istore 6) (len := 2) (a := 0) (b := 0) (c := 0) (p := 0) rfl
set_option maxRecDepth 20000 in
theorem zg_128_378 : Zgo d 128 378 L st S Q ↔ (zlda L 2 False fun r => Zgo d 128 379 L (zq r :: st) S Q) := Zgo_iff (i := .aload_n 2) (len := 1) (a := 0) (b := 0) (c := 0) (p := 0) rfl
set_option maxRecDepth 20000 in
theorem zg_128_379 : Zgo d 128 379 L st S Q ↔ (zinv 1 st False fun as t => zrec as 11 False (zCp d 81 as S fun r S2 => Zgo d 128 382 L (r.toList ++ t) S2 Q)) := Zgo_iff (i := .invokevirtual 58) (len := 3) (a := 81) (b := 1) (c := 0) (p := 5059) rfl
set_option maxRecDepth 20000 in
theorem zg_128_382 : Zgo d 128 382 L st S Q ↔ (zldi L 5 False fun x => Zgo d 128 384 L (zi x :: st) S Q) := Zgo_iff (i := .iload 5) (len := 2) (a := 0) (b := 0) (c := 0) (p := 0) rfl
set_option maxRecDepth 20000 in
theorem zg_128_384 : Zgo d 128 384 L st S Q ↔ (zpi st False fun y t => zpi t False fun x t => if zw x = zw y then Zgo d 128 389 L t S Q else Zgo d 128 387 L t S Q) := Zgo_iff (i := .if_icmp .eq 5) (len := 3) (a := 0) (b := 0) (c := 0) (p := 0) rfl
set_option maxRecDepth 20000 in
theorem zg_128_387 : Zgo d 128 387 L st S Q ↔ (Zgo d 128 388 L (zi 0 :: st) S Q) := Zgo_iff (i := .iconst 0) (len := 1) (a := 0) (b := 0) (c := 0) (p := 0) rfl
set_option maxRecDepth 20000 in
theorem zg_128_388 : Zgo d 128 388 L st S Q ↔ (zpi st False fun x t => zem t False (zok 1 x False (Q (some (zi x)) S))) := Zgo_iff (i := .ireturn) (len := 1) (a := 0) (b := 0) (c := 0) (p := 0) rfl
set_option maxRecDepth 20000 in
theorem zg_128_389 : Zgo d 128 389 L st S Q ↔ (zldi L 5 False fun x => Zgo d 128 391 L (zi x :: st) S Q) := Zgo_iff (i := .iload 5) (len := 2) (a := 0) (b := 0) (c := 0) (p := 0) rfl
set_option maxRecDepth 20000 in
theorem zg_128_391 : Zgo d 128 391 L st S Q ↔ (zpi st False fun x t => if zw x = zw 0 then Zgo d 128 394 L t S Q else Zgo d 128 406 L t S Q) := Zgo_iff (i := .ifCond .ne 15) (len := 3) (a := 0) (b := 0) (c := 0) (p := 0) rfl
set_option maxRecDepth 20000 in
theorem zg_128_394 : Zgo d 128 394 L st S Q ↔ (zlda L 3 False fun r => Zgo d 128 395 L (zq r :: st) S Q) := Zgo_iff (i := .aload_n 3) (len := 1) (a := 0) (b := 0) (c := 0) (p := 0) rfl
set_option maxRecDepth 20000 in
theorem zg_128_395 : Zgo d 128 395 L st S Q ↔ (Zgo d 128 396 L (zi 0 :: st) S Q) := Zgo_iff (i := .iconst 0) (len := 1) (a := 0) (b := 0) (c := 0) (p := 0) rfl
set_option maxRecDepth 20000 in
theorem zg_128_396 : Zgo d 128 396 L st S Q ↔ (zpi st False fun j t => zpa t False fun r t => znn r False fun q o => zop (zlen S q) False fun n => if n.1 = 4 then zix j n.2 False fun x => Zgo d 128 397 L (zl (S.1 q o x) :: t) S Q else False) := Zgo_iff (i := .laload) (len := 1) (a := 0) (b := 0) (c := 0) (p := 0) rfl
set_option maxRecDepth 20000 in
theorem zg_128_397 : Zgo d 128 397 L st S Q ↔ (zldi L 6 False fun x => Zgo d 128 399 L (zi x :: st) S Q) := Zgo_iff (i := .iload 6) (len := 2) (a := 0) (b := 0) (c := 0) (p := 0) rfl
set_option maxRecDepth 20000 in
theorem zg_128_399 : Zgo d 128 399 L st S Q ↔ (zpi st False fun x t => Zgo d 128 400 L (zl (zw x) :: t) S Q) := Zgo_iff (i := .i2l) (len := 1) (a := 0) (b := 0) (c := 0) (p := 0) rfl
set_option maxRecDepth 20000 in
theorem zg_128_400 : Zgo d 128 400 L st S Q ↔ (zpl st False fun y t => zpl t False fun x t => Zgo d 128 401 L (zi (zlcmp x y) :: t) S Q) := Zgo_iff (i := .lcmp) (len := 1) (a := 0) (b := 0) (c := 0) (p := 0) rfl
set_option maxRecDepth 20000 in
theorem zg_128_401 : Zgo d 128 401 L st S Q ↔ (zpi st False fun x t => if zw x = zw 0 then Zgo d 128 406 L t S Q else Zgo d 128 404 L t S Q) := Zgo_iff (i := .ifCond .eq 5) (len := 3) (a := 0) (b := 0) (c := 0) (p := 0) rfl
set_option maxRecDepth 20000 in
theorem zg_128_404 : Zgo d 128 404 L st S Q ↔ (Zgo d 128 405 L (zi 0 :: st) S Q) := Zgo_iff (i := .iconst 0) (len := 1) (a := 0) (b := 0) (c := 0) (p := 0) rfl
set_option maxRecDepth 20000 in
theorem zg_128_405 : Zgo d 128 405 L st S Q ↔ (zpi st False fun x t => zem t False (zok 1 x False (Q (some (zi x)) S))) := Zgo_iff (i := .ireturn) (len := 1) (a := 0) (b := 0) (c := 0) (p := 0) rfl
set_option maxRecDepth 20000 in
theorem zg_128_406 : Zgo d 128 406 L st S Q ↔ (Zgo d 128 490 L st S Q) := Zgo_iff (i := .goto 84) (len := 3) (a := 0) (b := 0) (c := 0) (p := 0) rfl
set_option maxRecDepth 20000 in
theorem zg_128_409 : Zgo d 128 409 L st S Q ↔ (zlda L 1 False fun r => Zgo d 128 410 L (zq r :: st) S Q) := Zgo_iff (i := .aload_n 1) (len := 1) (a := 0) (b := 0) (c := 0) (p := 0) rfl
set_option maxRecDepth 20000 in
theorem zg_128_410 : Zgo d 128 410 L st S Q ↔ (zlda L 0 False fun r => Zgo d 128 411 L (zq r :: st) S Q) := Zgo_iff (i := .aload_n 0) (len := 1) (a := 0) (b := 0) (c := 0) (p := 0) rfl
set_option maxRecDepth 20000 in
theorem zg_128_411 : Zgo d 128 411 L st S Q ↔ (zldi L 4 False fun x => Zgo d 128 413 L (zi x :: st) S Q) := Zgo_iff (i := .iload 4) (len := 2) (a := 0) (b := 0) (c := 0) (p := 0) rfl
set_option maxRecDepth 20000 in
theorem zg_128_413 : Zgo d 128 413 L st S Q ↔ (Zgo d 128 414 L (zi 1 :: st) S Q) := Zgo_iff (i := .iconst 1) (len := 1) (a := 0) (b := 0) (c := 0) (p := 0) rfl
set_option maxRecDepth 20000 in
theorem zg_128_414 : Zgo d 128 414 L st S Q ↔ (zpi st False fun y t => zpi t False fun x t => Zgo d 128 415 L (zi (x + y) :: t) S Q) := Zgo_iff (i := .iadd) (len := 1) (a := 0) (b := 0) (c := 0) (p := 0) rfl
set_option maxRecDepth 20000 in
theorem zg_128_415 : Zgo d 128 415 L st S Q ↔ (zpi st False fun j t => zpa t False fun r t => znn r False fun q o => zop (zlen S q) False fun n => if n.1 = 0 then zix j n.2 False fun x => Zgo d 128 416 L (zi (S.1 q o x) :: t) S Q else False) := Zgo_iff (i := .iaload) (len := 1) (a := 0) (b := 0) (c := 0) (p := 0) rfl
set_option maxRecDepth 20000 in
theorem zg_128_416 : Zgo d 128 416 L st S Q ↔ (zlda L 3 False fun r => Zgo d 128 417 L (zq r :: st) S Q) := Zgo_iff (i := .aload_n 3) (len := 1) (a := 0) (b := 0) (c := 0) (p := 0) rfl
set_option maxRecDepth 20000 in
theorem zg_128_417 : Zgo d 128 417 L st S Q ↔ (zinv 3 st False fun as t => zCp d 78 as S fun r S2 => Zgo d 128 420 L (r.toList ++ t) S2 Q) := Zgo_iff (i := .invokestatic 71) (len := 3) (a := 78) (b := 3) (c := 1) (p := 4116) rfl
set_option maxRecDepth 20000 in
theorem zg_128_420 : Zgo d 128 420 L st S Q ↔ (zpi st False fun x t => Zgo d 128 422 (zst L 5 (some (zi x))) t S Q) := Zgo_iff (i := .istore 5) (len := 2) (a := 0) (b := 0) (c := 0) (p := 0) rfl
set_option maxRecDepth 20000 in
theorem zg_128_422 : Zgo d 128 422 L st S Q ↔ (zlda L 2 False fun r => Zgo d 128 423 L (zq r :: st) S Q) := Zgo_iff (i := .aload_n 2) (len := 1) (a := 0) (b := 0) (c := 0) (p := 0) rfl
set_option maxRecDepth 20000 in
theorem zg_128_423 : Zgo d 128 423 L st S Q ↔ (zlda L 0 False fun r => Zgo d 128 424 L (zq r :: st) S Q) := Zgo_iff (i := .aload_n 0) (len := 1) (a := 0) (b := 0) (c := 0) (p := 0) rfl
set_option maxRecDepth 20000 in
theorem zg_128_424 : Zgo d 128 424 L st S Q ↔ (zldi L 4 False fun x => Zgo d 128 426 L (zi x :: st) S Q) := Zgo_iff (i := .iload 4) (len := 2) (a := 0) (b := 0) (c := 0) (p := 0) rfl
set_option maxRecDepth 20000 in
theorem zg_128_426 : Zgo d 128 426 L st S Q ↔ (Zgo d 128 427 L (zi 1 :: st) S Q) := Zgo_iff (i := .iconst 1) (len := 1) (a := 0) (b := 0) (c := 0) (p := 0) rfl
set_option maxRecDepth 20000 in
theorem zg_128_427 : Zgo d 128 427 L st S Q ↔ (zpi st False fun y t => zpi t False fun x t => Zgo d 128 428 L (zi (x + y) :: t) S Q) := Zgo_iff (i := .iadd) (len := 1) (a := 0) (b := 0) (c := 0) (p := 0) rfl
set_option maxRecDepth 20000 in
theorem zg_128_428 : Zgo d 128 428 L st S Q ↔ (zpi st False fun j t => zpa t False fun r t => znn r False fun q o => zop (zlen S q) False fun n => if n.1 = 0 then zix j n.2 False fun x => Zgo d 128 429 L (zi (S.1 q o x) :: t) S Q else False) := Zgo_iff (i := .iaload) (len := 1) (a := 0) (b := 0) (c := 0) (p := 0) rfl
set_option maxRecDepth 20000 in
theorem zg_128_429 : Zgo d 128 429 L st S Q ↔ (zinv 2 st False fun as t => zrec as 11 False (zCp d 126 as S fun r S2 => Zgo d 128 432 L (r.toList ++ t) S2 Q)) := Zgo_iff (i := .invokevirtual 73) (len := 3) (a := 126) (b := 2) (c := 0) (p := 5237) rfl
set_option maxRecDepth 20000 in
theorem zg_128_432 : Zgo d 128 432 L st S Q ↔ (zpi st False fun x t => Zgo d 128 434 (zst L 6 (some (zi x))) t S Q) := Zgo_iff (i := .istore 6) (len := 2) (a := 0) (b := 0) (c := 0) (p := 0) rfl
set_option maxRecDepth 20000 in
theorem zg_128_434 : Zgo d 128 434 L st S Q ↔ (zlda L 2 False fun r => Zgo d 128 435 L (zq r :: st) S Q) := Zgo_iff (i := .aload_n 2) (len := 1) (a := 0) (b := 0) (c := 0) (p := 0) rfl
set_option maxRecDepth 20000 in
theorem zg_128_435 : Zgo d 128 435 L st S Q ↔ (zinv 1 st False fun as t => zrec as 11 False (zCp d 81 as S fun r S2 => Zgo d 128 438 L (r.toList ++ t) S2 Q)) := Zgo_iff (i := .invokevirtual 58) (len := 3) (a := 81) (b := 1) (c := 0) (p := 5059) rfl
set_option maxRecDepth 20000 in
theorem zg_128_438 : Zgo d 128 438 L st S Q ↔ (zldi L 5 False fun x => Zgo d 128 440 L (zi x :: st) S Q) := Zgo_iff (i := .iload 5) (len := 2) (a := 0) (b := 0) (c := 0) (p := 0) rfl
set_option maxRecDepth 20000 in
theorem zg_128_440 : Zgo d 128 440 L st S Q ↔ (zpi st False fun y t => zpi t False fun x t => if zw x = zw y then Zgo d 128 445 L t S Q else Zgo d 128 443 L t S Q) := Zgo_iff (i := .if_icmp .eq 5) (len := 3) (a := 0) (b := 0) (c := 0) (p := 0) rfl
set_option maxRecDepth 20000 in
theorem zg_128_443 : Zgo d 128 443 L st S Q ↔ (Zgo d 128 444 L (zi 0 :: st) S Q) := Zgo_iff (i := .iconst 0) (len := 1) (a := 0) (b := 0) (c := 0) (p := 0) rfl
set_option maxRecDepth 20000 in
theorem zg_128_444 : Zgo d 128 444 L st S Q ↔ (zpi st False fun x t => zem t False (zok 1 x False (Q (some (zi x)) S))) := Zgo_iff (i := .ireturn) (len := 1) (a := 0) (b := 0) (c := 0) (p := 0) rfl
set_option maxRecDepth 20000 in
theorem zg_128_445 : Zgo d 128 445 L st S Q ↔ (zldi L 5 False fun x => Zgo d 128 447 L (zi x :: st) S Q) := Zgo_iff (i := .iload 5) (len := 2) (a := 0) (b := 0) (c := 0) (p := 0) rfl
set_option maxRecDepth 20000 in
theorem zg_128_447 : Zgo d 128 447 L st S Q ↔ (zpi st False fun x t => if zw x = zw 0 then Zgo d 128 450 L t S Q else Zgo d 128 462 L t S Q) := Zgo_iff (i := .ifCond .ne 15) (len := 3) (a := 0) (b := 0) (c := 0) (p := 0) rfl
set_option maxRecDepth 20000 in
theorem zg_128_450 : Zgo d 128 450 L st S Q ↔ (zlda L 3 False fun r => Zgo d 128 451 L (zq r :: st) S Q) := Zgo_iff (i := .aload_n 3) (len := 1) (a := 0) (b := 0) (c := 0) (p := 0) rfl
set_option maxRecDepth 20000 in
theorem zg_128_451 : Zgo d 128 451 L st S Q ↔ (Zgo d 128 452 L (zi 0 :: st) S Q) := Zgo_iff (i := .iconst 0) (len := 1) (a := 0) (b := 0) (c := 0) (p := 0) rfl
set_option maxRecDepth 20000 in
theorem zg_128_452 : Zgo d 128 452 L st S Q ↔ (zpi st False fun j t => zpa t False fun r t => znn r False fun q o => zop (zlen S q) False fun n => if n.1 = 4 then zix j n.2 False fun x => Zgo d 128 453 L (zl (S.1 q o x) :: t) S Q else False) := Zgo_iff (i := .laload) (len := 1) (a := 0) (b := 0) (c := 0) (p := 0) rfl
set_option maxRecDepth 20000 in
theorem zg_128_453 : Zgo d 128 453 L st S Q ↔ (zldi L 6 False fun x => Zgo d 128 455 L (zi x :: st) S Q) := Zgo_iff (i := .iload 6) (len := 2) (a := 0) (b := 0) (c := 0) (p := 0) rfl
set_option maxRecDepth 20000 in
theorem zg_128_455 : Zgo d 128 455 L st S Q ↔ (zpi st False fun x t => Zgo d 128 456 L (zl (zw x) :: t) S Q) := Zgo_iff (i := .i2l) (len := 1) (a := 0) (b := 0) (c := 0) (p := 0) rfl
set_option maxRecDepth 20000 in
theorem zg_128_456 : Zgo d 128 456 L st S Q ↔ (zpl st False fun y t => zpl t False fun x t => Zgo d 128 457 L (zi (zlcmp x y) :: t) S Q) := Zgo_iff (i := .lcmp) (len := 1) (a := 0) (b := 0) (c := 0) (p := 0) rfl
set_option maxRecDepth 20000 in
theorem zg_128_457 : Zgo d 128 457 L st S Q ↔ (zpi st False fun x t => if zw x = zw 0 then Zgo d 128 462 L t S Q else Zgo d 128 460 L t S Q) := Zgo_iff (i := .ifCond .eq 5) (len := 3) (a := 0) (b := 0) (c := 0) (p := 0) rfl
set_option maxRecDepth 20000 in
theorem zg_128_460 : Zgo d 128 460 L st S Q ↔ (Zgo d 128 461 L (zi 0 :: st) S Q) := Zgo_iff (i := .iconst 0) (len := 1) (a := 0) (b := 0) (c := 0) (p := 0) rfl
set_option maxRecDepth 20000 in
theorem zg_128_461 : Zgo d 128 461 L st S Q ↔ (zpi st False fun x t => zem t False (zok 1 x False (Q (some (zi x)) S))) := Zgo_iff (i := .ireturn) (len := 1) (a := 0) (b := 0) (c := 0) (p := 0) rfl
set_option maxRecDepth 20000 in
theorem zg_128_462 : Zgo d 128 462 L st S Q ↔ (Zgo d 128 490 L st S Q) := Zgo_iff (i := .goto 28) (len := 3) (a := 0) (b := 0) (c := 0) (p := 0) rfl
set_option maxRecDepth 20000 in
theorem zg_128_465 : Zgo d 128 465 L st S Q ↔ (zlda L 1 False fun r => Zgo d 128 466 L (zq r :: st) S Q) := Zgo_iff (i := .aload_n 1) (len := 1) (a := 0) (b := 0) (c := 0) (p := 0) rfl
set_option maxRecDepth 20000 in
theorem zg_128_466 : Zgo d 128 466 L st S Q ↔ (zlda L 0 False fun r => Zgo d 128 467 L (zq r :: st) S Q) := Zgo_iff (i := .aload_n 0) (len := 1) (a := 0) (b := 0) (c := 0) (p := 0) rfl
set_option maxRecDepth 20000 in
theorem zg_128_467 : Zgo d 128 467 L st S Q ↔ (zldi L 4 False fun x => Zgo d 128 469 L (zi x :: st) S Q) := Zgo_iff (i := .iload 4) (len := 2) (a := 0) (b := 0) (c := 0) (p := 0) rfl
set_option maxRecDepth 20000 in
theorem zg_128_469 : Zgo d 128 469 L st S Q ↔ (Zgo d 128 470 L (zi 1 :: st) S Q) := Zgo_iff (i := .iconst 1) (len := 1) (a := 0) (b := 0) (c := 0) (p := 0) rfl
set_option maxRecDepth 20000 in
theorem zg_128_470 : Zgo d 128 470 L st S Q ↔ (zpi st False fun y t => zpi t False fun x t => Zgo d 128 471 L (zi (x + y) :: t) S Q) := Zgo_iff (i := .iadd) (len := 1) (a := 0) (b := 0) (c := 0) (p := 0) rfl
set_option maxRecDepth 20000 in
theorem zg_128_471 : Zgo d 128 471 L st S Q ↔ (zpi st False fun j t => zpa t False fun r t => znn r False fun q o => zop (zlen S q) False fun n => if n.1 = 0 then zix j n.2 False fun x => Zgo d 128 472 L (zi (S.1 q o x) :: t) S Q else False) := Zgo_iff (i := .iaload) (len := 1) (a := 0) (b := 0) (c := 0) (p := 0) rfl
set_option maxRecDepth 20000 in
theorem zg_128_472 : Zgo d 128 472 L st S Q ↔ (zinv 2 st False fun as t => zrec as 0 False (zCp d 55 as S fun r S2 => Zgo d 128 475 L (r.toList ++ t) S2 Q)) := Zgo_iff (i := .invokevirtual 74) (len := 3) (a := 55) (b := 2) (c := 0) (p := 3150) rfl
set_option maxRecDepth 20000 in
theorem zg_128_475 : Zgo d 128 475 L st S Q ↔ (zlda L 2 False fun r => Zgo d 128 476 L (zq r :: st) S Q) := Zgo_iff (i := .aload_n 2) (len := 1) (a := 0) (b := 0) (c := 0) (p := 0) rfl
set_option maxRecDepth 20000 in
theorem zg_128_476 : Zgo d 128 476 L st S Q ↔ (zlda L 0 False fun r => Zgo d 128 477 L (zq r :: st) S Q) := Zgo_iff (i := .aload_n 0) (len := 1) (a := 0) (b := 0) (c := 0) (p := 0) rfl
set_option maxRecDepth 20000 in
theorem zg_128_477 : Zgo d 128 477 L st S Q ↔ (zldi L 4 False fun x => Zgo d 128 479 L (zi x :: st) S Q) := Zgo_iff (i := .iload 4) (len := 2) (a := 0) (b := 0) (c := 0) (p := 0) rfl
set_option maxRecDepth 20000 in
theorem zg_128_479 : Zgo d 128 479 L st S Q ↔ (Zgo d 128 480 L (zi 1 :: st) S Q) := Zgo_iff (i := .iconst 1) (len := 1) (a := 0) (b := 0) (c := 0) (p := 0) rfl
set_option maxRecDepth 20000 in
theorem zg_128_480 : Zgo d 128 480 L st S Q ↔ (zpi st False fun y t => zpi t False fun x t => Zgo d 128 481 L (zi (x + y) :: t) S Q) := Zgo_iff (i := .iadd) (len := 1) (a := 0) (b := 0) (c := 0) (p := 0) rfl
set_option maxRecDepth 20000 in
theorem zg_128_481 : Zgo d 128 481 L st S Q ↔ (zpi st False fun j t => zpa t False fun r t => znn r False fun q o => zop (zlen S q) False fun n => if n.1 = 0 then zix j n.2 False fun x => Zgo d 128 482 L (zi (S.1 q o x) :: t) S Q else False) := Zgo_iff (i := .iaload) (len := 1) (a := 0) (b := 0) (c := 0) (p := 0) rfl
set_option maxRecDepth 20000 in
theorem zg_128_482 : Zgo d 128 482 L st S Q ↔ (zinv 2 st False fun as t => zrec as 11 False (zCp d 127 as S fun r S2 => Zgo d 128 485 L (r.toList ++ t) S2 Q)) := Zgo_iff (i := .invokevirtual 77) (len := 3) (a := 127) (b := 2) (c := 0) (p := 6001) rfl
set_option maxRecDepth 20000 in
theorem zg_128_485 : Zgo d 128 485 L st S Q ↔ (zpi st False fun y t => zpi t False fun x t => if zw x = zw y then Zgo d 128 490 L t S Q else Zgo d 128 488 L t S Q) := Zgo_iff (i := .if_icmp .eq 5) (len := 3) (a := 0) (b := 0) (c := 0) (p := 0) rfl
set_option maxRecDepth 20000 in
theorem zg_128_488 : Zgo d 128 488 L st S Q ↔ (Zgo d 128 489 L (zi 0 :: st) S Q) := Zgo_iff (i := .iconst 0) (len := 1) (a := 0) (b := 0) (c := 0) (p := 0) rfl
set_option maxRecDepth 20000 in
theorem zg_128_489 : Zgo d 128 489 L st S Q ↔ (zpi st False fun x t => zem t False (zok 1 x False (Q (some (zi x)) S))) := Zgo_iff (i := .ireturn) (len := 1) (a := 0) (b := 0) (c := 0) (p := 0) rfl
set_option maxRecDepth 20000 in
theorem zg_128_490 : Zgo d 128 490 L st S Q ↔ (zldi L 4 False fun x => Zgo d 128 493 (zst L 4 (some (zi (x + 3)))) st S Q) := Zgo_iff (i := .iinc 4 3) (len := 3) (a := 0) (b := 0) (c := 0) (p := 0) rfl
set_option maxRecDepth 20000 in
theorem zg_128_493 : Zgo d 128 493 L st S Q ↔ (Zgo d 128 23 L st S Q) := Zgo_iff (i := .goto (-470)) (len := 3) (a := 0) (b := 0) (c := 0) (p := 0) rfl
set_option maxRecDepth 20000 in
theorem zg_128_496 : Zgo d 128 496 L st S Q ↔ (Zgo d 128 497 L (zi 1 :: st) S Q) := Zgo_iff (i := .iconst 1) (len := 1) (a := 0) (b := 0) (c := 0) (p := 0) rfl
set_option maxRecDepth 20000 in
theorem zg_128_497 : Zgo d 128 497 L st S Q ↔ (zpi st False fun x t => zem t False (zok 1 x False (Q (some (zi x)) S))) := Zgo_iff (i := .ireturn) (len := 1) (a := 0) (b := 0) (c := 0) (p := 0) rfl
end
