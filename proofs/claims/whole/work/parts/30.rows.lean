/-! what each instruction does, as an equivalence of Zgo: the calls, the class -/
section
variable {d : Nat} {S : zS} {k : Option zV → zS → Prop}
theorem zcp_0 {a0 : Option (Nat × Nat)} : zCp (d + 1) 0 [zq a0] S k ↔ Zgo d 0 0 [some (zq a0)] [] S k := Iff.rfl
theorem zcp_1 {a0 : Option (Nat × Nat)} : zCp (d + 1) 1 [zq a0] S k ↔ Zgo d 1 0 [some (zq a0)] [] S k := Iff.rfl
theorem zcp_2 {a0 : Option (Nat × Nat)} : zCp (d + 1) 2 [zq a0] S k ↔ Zgo d 2 0 [some (zq a0), none] [] S k := Iff.rfl
theorem zcp_3 {a0 : Option (Nat × Nat)} : zCp (d + 1) 3 [zq a0] S k ↔ Zgo d 3 0 [some (zq a0)] [] S k := Iff.rfl
theorem zcp_4 {a0 : Option (Nat × Nat)} : zCp (d + 1) 4 [zq a0] S k ↔ Zgo d 4 0 [some (zq a0)] [] S k := Iff.rfl
theorem zcp_5 {a0 : Option (Nat × Nat)} : zCp (d + 1) 5 [zq a0] S k ↔ Zgo d 5 0 [some (zq a0)] [] S k := Iff.rfl
theorem zcp_6 {a0 : Option (Nat × Nat)} : zCp (d + 1) 6 [zq a0] S k ↔ Zgo d 6 0 [some (zq a0)] [] S k := Iff.rfl
theorem zcp_7 {a0 : Option (Nat × Nat)} : zCp (d + 1) 7 [zq a0] S k ↔ Zgo d 7 0 [some (zq a0)] [] S k := Iff.rfl
theorem zcp_8 {a0 : Option (Nat × Nat)} {a1 : Option (Nat × Nat)} {a2 : Option (Nat × Nat)} : zCp (d + 1) 8 [zq a0, zq a1, zq a2] S k ↔ Zgo d 8 0 [some (zq a0), some (zq a1), some (zq a2)] [] S k := Iff.rfl
theorem zcp_9 {a0 : Option (Nat × Nat)} {a1 : Option (Nat × Nat)} : zCp (d + 1) 9 [zq a0, zq a1] S k ↔ Zgo d 9 0 [some (zq a0), some (zq a1)] [] S k := Iff.rfl
theorem zcp_10 {a0 : Option (Nat × Nat)} {a1 : Option (Nat × Nat)} : zCp (d + 1) 10 [zq a0, zq a1] S k ↔ Zgo d 10 0 [some (zq a0), some (zq a1)] [] S k := Iff.rfl
theorem zcp_11 {a0 : Option (Nat × Nat)} {a1 : Int} : zCp (d + 1) 11 [zq a0, zl a1] S k ↔ Zgo d 11 0 [some (zq a0), some (zl a1), none] [] S k := Iff.rfl
theorem zcp_12 {a0 : Option (Nat × Nat)} {a1 : Int} : zCp (d + 1) 12 [zq a0, zl a1] S k ↔ Zgo d 12 0 [some (zq a0), some (zl a1), none, none, none, none] [] S k := Iff.rfl
theorem zcp_13 {a0 : Int} : zCp (d + 1) 13 [zl a0] S k ↔ Zgo d 13 0 [some (zl a0), none, none, none, none] [] S k := Iff.rfl
theorem zcp_14 {a0 : Int} {a1 : Int} : zCp (d + 1) 14 [zl a0, zi a1] S k ↔ Zgo d 14 0 [some (zl a0), none, some (zi a1)] [] S k := Iff.rfl
theorem zcp_15 {a0 : Option (Nat × Nat)} : zCp (d + 1) 15 [zq a0] S k ↔ Zgo d 15 0 [some (zq a0)] [] S k := Iff.rfl
theorem zcp_16 {a0 : Option (Nat × Nat)} : zCp (d + 1) 16 [zq a0] S k ↔ Zgo d 16 0 [some (zq a0), none] [] S k := Iff.rfl
theorem zcp_17 {a0 : Option (Nat × Nat)} : zCp (d + 1) 17 [zq a0] S k ↔ Zgo d 17 0 [some (zq a0), none] [] S k := Iff.rfl
theorem zcp_18 {a0 : Option (Nat × Nat)} : zCp (d + 1) 18 [zq a0] S k ↔ Zgo d 18 0 [some (zq a0), none] [] S k := Iff.rfl
theorem zcp_19 {a0 : Option (Nat × Nat)} : zCp (d + 1) 19 [zq a0] S k ↔ Zgo d 19 0 [some (zq a0)] [] S k := Iff.rfl
theorem zcp_20 {a0 : Option (Nat × Nat)} {a1 : Int} : zCp (d + 1) 20 [zq a0, zi a1] S k ↔ Zgo d 20 0 [some (zq a0), some (zi a1)] [] S k := Iff.rfl
theorem zcp_21 {a0 : Option (Nat × Nat)} : zCp (d + 1) 21 [zq a0] S k ↔ Zgo d 21 0 [some (zq a0), none, none] [] S k := Iff.rfl
theorem zcp_22 {a0 : Option (Nat × Nat)} {a1 : Int} {a2 : Int} : zCp (d + 1) 22 [zq a0, zi a1, zi a2] S k ↔ Zgo d 22 0 [some (zq a0), some (zi a1), some (zi a2)] [] S k := Iff.rfl
theorem zcp_23 {a0 : Option (Nat × Nat)} {a1 : Int} : zCp (d + 1) 23 [zq a0, zi a1] S k ↔ Zgo d 23 0 [some (zq a0), some (zi a1), none] [] S k := Iff.rfl
theorem zcp_24 {a0 : Option (Nat × Nat)} : zCp (d + 1) 24 [zq a0] S k ↔ Zgo d 24 0 [some (zq a0), none, none] [] S k := Iff.rfl
theorem zcp_25 {a0 : Option (Nat × Nat)} {a1 : Option (Nat × Nat)} : zCp (d + 1) 25 [zq a0, zq a1] S k ↔ Zgo d 25 0 [some (zq a0), some (zq a1)] [] S k := Iff.rfl
theorem zcp_26 {a0 : Option (Nat × Nat)} {a1 : Int} {a2 : Int} {a3 : Int} : zCp (d + 1) 26 [zq a0, zi a1, zi a2, zi a3] S k ↔ Zgo d 26 0 [some (zq a0), some (zi a1), some (zi a2), some (zi a3), none, none] [] S k := Iff.rfl
theorem zcp_27 {a0 : Option (Nat × Nat)} {a1 : Int} {a2 : Int} {a3 : Int} : zCp (d + 1) 27 [zq a0, zi a1, zi a2, zi a3] S k ↔ Zgo d 27 0 [some (zq a0), some (zi a1), some (zi a2), some (zi a3), none] [] S k := Iff.rfl
theorem zcp_28 {a0 : Option (Nat × Nat)} {a1 : Option (Nat × Nat)} : zCp (d + 1) 28 [zq a0, zq a1] S k ↔ Zgo d 28 0 [some (zq a0), some (zq a1), none] [] S k := Iff.rfl
theorem zcp_29 {a0 : Option (Nat × Nat)} : zCp (d + 1) 29 [zq a0] S k ↔ Zgo d 29 0 [some (zq a0)] [] S k := Iff.rfl
theorem zcp_30 {a0 : Option (Nat × Nat)} {a1 : Option (Nat × Nat)} {a2 : Int} : zCp (d + 1) 30 [zq a0, zq a1, zi a2] S k ↔ Zgo d 30 0 [some (zq a0), some (zq a1), some (zi a2), none] [] S k := Iff.rfl
theorem zcp_31 {a0 : Option (Nat × Nat)} {a1 : Option (Nat × Nat)} : zCp (d + 1) 31 [zq a0, zq a1] S k ↔ Zgo d 31 0 [some (zq a0), some (zq a1), none] [] S k := Iff.rfl
theorem zcp_32 {a0 : Option (Nat × Nat)} {a1 : Int} : zCp (d + 1) 32 [zq a0, zi a1] S k ↔ Zgo d 32 0 [some (zq a0), some (zi a1), none, none] [] S k := Iff.rfl
theorem zcp_33 {a0 : Option (Nat × Nat)} {a1 : Int} : zCp (d + 1) 33 [zq a0, zi a1] S k ↔ Zgo d 33 0 [some (zq a0), some (zi a1), none] [] S k := Iff.rfl
theorem zcp_34 {a0 : Option (Nat × Nat)} {a1 : Int} {a2 : Int} : zCp (d + 1) 34 [zq a0, zi a1, zi a2] S k ↔ Zgo d 34 0 [some (zq a0), some (zi a1), some (zi a2)] [] S k := Iff.rfl
theorem zcp_35 {a0 : Option (Nat × Nat)} : zCp (d + 1) 35 [zq a0] S k ↔ Zgo d 35 0 [some (zq a0), none, none, none] [] S k := Iff.rfl
theorem zcp_36 {a0 : Option (Nat × Nat)} {a1 : Option (Nat × Nat)} {a2 : Option (Nat × Nat)} : zCp (d + 1) 36 [zq a0, zq a1, zq a2] S k ↔ Zgo d 36 0 [some (zq a0), some (zq a1), some (zq a2)] [] S k := Iff.rfl
theorem zcp_37 {a0 : Option (Nat × Nat)} {a1 : Option (Nat × Nat)} : zCp (d + 1) 37 [zq a0, zq a1] S k ↔ Zgo d 37 0 [some (zq a0), some (zq a1)] [] S k := Iff.rfl
theorem zcp_38 {a0 : Option (Nat × Nat)} {a1 : Option (Nat × Nat)} {a2 : Option (Nat × Nat)} : zCp (d + 1) 38 [zq a0, zq a1, zq a2] S k ↔ Zgo d 38 0 [some (zq a0), some (zq a1), some (zq a2)] [] S k := Iff.rfl
theorem zcp_39 {a0 : Option (Nat × Nat)} {a1 : Option (Nat × Nat)} {a2 : Option (Nat × Nat)} : zCp (d + 1) 39 [zq a0, zq a1, zq a2] S k ↔ Zgo d 39 0 [some (zq a0), some (zq a1), some (zq a2), none] [] S k := Iff.rfl
theorem zcp_40 {a0 : Option (Nat × Nat)} {a1 : Option (Nat × Nat)} {a2 : Option (Nat × Nat)} : zCp (d + 1) 40 [zq a0, zq a1, zq a2] S k ↔ Zgo d 40 0 [some (zq a0), some (zq a1), some (zq a2), none, none, none] [] S k := Iff.rfl
theorem zcp_41 {a0 : Option (Nat × Nat)} {a1 : Int} : zCp (d + 1) 41 [zq a0, zi a1] S k ↔ Zgo d 41 0 [some (zq a0), some (zi a1), none] [] S k := Iff.rfl
theorem zcp_42 {a0 : Option (Nat × Nat)} {a1 : Option (Nat × Nat)} {a2 : Int} {a3 : Int} : zCp (d + 1) 42 [zq a0, zq a1, zi a2, zi a3] S k ↔ Zgo d 42 0 [some (zq a0), some (zq a1), some (zi a2), some (zi a3), none] [] S k := Iff.rfl
theorem zcp_43 {a0 : Option (Nat × Nat)} : zCp (d + 1) 43 [zq a0] S k ↔ Zgo d 43 0 [some (zq a0), none, none] [] S k := Iff.rfl
theorem zcp_44 {a0 : Option (Nat × Nat)} : zCp (d + 1) 44 [zq a0] S k ↔ Zgo d 44 0 [some (zq a0), none, none, none] [] S k := Iff.rfl
theorem zcp_45 {a0 : Option (Nat × Nat)} {a1 : Int} : zCp (d + 1) 45 [zq a0, zi a1] S k ↔ Zgo d 45 0 [some (zq a0), some (zi a1), none] [] S k := Iff.rfl
theorem zcp_46 {a0 : Option (Nat × Nat)} : zCp (d + 1) 46 [zq a0] S k ↔ Zgo d 46 0 [some (zq a0)] [] S k := Iff.rfl
theorem zcp_47 {a0 : Option (Nat × Nat)} : zCp (d + 1) 47 [zq a0] S k ↔ Zgo d 47 0 [some (zq a0)] [] S k := Iff.rfl
theorem zcp_48 {a0 : Option (Nat × Nat)} : zCp (d + 1) 48 [zq a0] S k ↔ Zgo d 48 0 [some (zq a0)] [] S k := Iff.rfl
theorem zcp_49 {a0 : Option (Nat × Nat)} : zCp (d + 1) 49 [zq a0] S k ↔ Zgo d 49 0 [some (zq a0), none, none] [] S k := Iff.rfl
theorem zcp_50 {a0 : Option (Nat × Nat)} : zCp (d + 1) 50 [zq a0] S k ↔ Zgo d 50 0 [some (zq a0), none, none] [] S k := Iff.rfl
theorem zcp_51 {a0 : Option (Nat × Nat)} {a1 : Option (Nat × Nat)} : zCp (d + 1) 51 [zq a0, zq a1] S k ↔ Zgo d 51 0 [some (zq a0), some (zq a1)] [] S k := Iff.rfl
theorem zcp_52 {a0 : Option (Nat × Nat)} {a1 : Option (Nat × Nat)} : zCp (d + 1) 52 [zq a0, zq a1] S k ↔ Zgo d 52 0 [some (zq a0), some (zq a1), none, none] [] S k := Iff.rfl
theorem zcp_53 {a0 : Option (Nat × Nat)} {a1 : Option (Nat × Nat)} : zCp (d + 1) 53 [zq a0, zq a1] S k ↔ Zgo d 53 0 [some (zq a0), some (zq a1)] [] S k := Iff.rfl
theorem zcp_54 {a0 : Option (Nat × Nat)} {a1 : Option (Nat × Nat)} : zCp (d + 1) 54 [zq a0, zq a1] S k ↔ Zgo d 54 0 [some (zq a0), some (zq a1), none, none, none, none] [] S k := Iff.rfl
theorem zcp_55 {a0 : Option (Nat × Nat)} {a1 : Int} : zCp (d + 1) 55 [zq a0, zi a1] S k ↔ Zgo d 55 0 [some (zq a0), some (zi a1)] [] S k := Iff.rfl
theorem zcp_56 {a0 : Option (Nat × Nat)} {a1 : Int} {a2 : Option (Nat × Nat)} : zCp (d + 1) 56 [zq a0, zi a1, zq a2] S k ↔ Zgo d 56 0 [some (zq a0), some (zi a1), some (zq a2), none] [] S k := Iff.rfl
theorem zcp_57 {a0 : Option (Nat × Nat)} {a1 : Int} : zCp (d + 15) 57 [zq a0, zi a1] S k ↔ Zgo (d + 14) 57 0 [some (zq a0), some (zi a1)] [] S k := by unfold zCp zPd; rw [if_neg (by decide), if_pos (by decide), if_pos (by omega)]; rfl
theorem zcp_58 {a0 : Option (Nat × Nat)} {a1 : Int} : zCp (d + 1) 58 [zq a0, zi a1] S k ↔ Zgo d 58 0 [some (zq a0), some (zi a1), none] [] S k := Iff.rfl
theorem zcp_59 {a0 : Option (Nat × Nat)} {a1 : Option (Nat × Nat)} {a2 : Int} : zCp (d + 1) 59 [zq a0, zq a1, zi a2] S k ↔ Zgo d 59 0 [some (zq a0), some (zq a1), some (zi a2), none, none] [] S k := Iff.rfl
theorem zcp_60 {a0 : Option (Nat × Nat)} {a1 : Option (Nat × Nat)} {a2 : Int} : zCp (d + 1) 60 [zq a0, zq a1, zi a2] S k ↔ Zgo d 60 0 [some (zq a0), some (zq a1), some (zi a2)] [] S k := Iff.rfl
theorem zcp_61 {a0 : Option (Nat × Nat)} {a1 : Option (Nat × Nat)} : zCp (d + 1) 61 [zq a0, zq a1] S k ↔ Zgo d 61 0 [some (zq a0), some (zq a1)] [] S k := Iff.rfl
theorem zcp_62 {a0 : Option (Nat × Nat)} {a1 : Option (Nat × Nat)} {a2 : Option (Nat × Nat)} : zCp (d + 1) 62 [zq a0, zq a1, zq a2] S k ↔ Zgo d 62 0 [some (zq a0), some (zq a1), some (zq a2), none, none, none] [] S k := Iff.rfl
theorem zcp_63 {a0 : Int} {a1 : Int} {a2 : Int} : zCp (d + 1) 63 [zi a0, zi a1, zi a2] S k ↔ Zgo d 63 0 [some (zi a0), some (zi a1), some (zi a2)] [] S k := Iff.rfl
theorem zcp_64 {a0 : Option (Nat × Nat)} {a1 : Int} {a2 : Int} : zCp (d + 1) 64 [zq a0, zi a1, zi a2] S k ↔ Zgo d 64 0 [some (zq a0), some (zi a1), some (zi a2)] [] S k := Iff.rfl
theorem zcp_65 {a0 : Option (Nat × Nat)} {a1 : Option (Nat × Nat)} : zCp (d + 1) 65 [zq a0, zq a1] S k ↔ Zgo d 65 0 [some (zq a0), some (zq a1)] [] S k := Iff.rfl
theorem zcp_66 {a0 : Option (Nat × Nat)} {a1 : Option (Nat × Nat)} {a2 : Int} : zCp (d + 1) 66 [zq a0, zq a1, zi a2] S k ↔ Zgo d 66 0 [some (zq a0), some (zq a1), some (zi a2)] [] S k := Iff.rfl
theorem zcp_67 {a0 : Option (Nat × Nat)} {a1 : Option (Nat × Nat)} {a2 : Int} : zCp (d + 1) 67 [zq a0, zq a1, zi a2] S k ↔ Zgo d 67 0 [some (zq a0), some (zq a1), some (zi a2), none] [] S k := Iff.rfl
theorem zcp_68 {a0 : Option (Nat × Nat)} {a1 : Option (Nat × Nat)} : zCp (d + 1) 68 [zq a0, zq a1] S k ↔ Zgo d 68 0 [some (zq a0), some (zq a1)] [] S k := Iff.rfl
theorem zcp_69 {a0 : Option (Nat × Nat)} {a1 : Option (Nat × Nat)} : zCp (d + 1) 69 [zq a0, zq a1] S k ↔ Zgo d 69 0 [some (zq a0), some (zq a1), none] [] S k := Iff.rfl
theorem zcp_70 {a0 : Option (Nat × Nat)} {a1 : Option (Nat × Nat)} {a2 : Int} : zCp (d + 1) 70 [zq a0, zq a1, zi a2] S k ↔ Zgo d 70 0 [some (zq a0), some (zq a1), some (zi a2), none, none] [] S k := Iff.rfl
theorem zcp_71 {a0 : Option (Nat × Nat)} {a1 : Option (Nat × Nat)} {a2 : Option (Nat × Nat)} {a3 : Int} : zCp (d + 1) 71 [zq a0, zq a1, zq a2, zi a3] S k ↔ Zgo d 71 0 [some (zq a0), some (zq a1), some (zq a2), some (zi a3), none, none, none] [] S k := Iff.rfl
theorem zcp_72 {a0 : Option (Nat × Nat)} {a1 : Int} {a2 : Option (Nat × Nat)} : zCp (d + 1) 72 [zq a0, zi a1, zq a2] S k ↔ Zgo d 72 0 [some (zq a0), some (zi a1), some (zq a2), none] [] S k := Iff.rfl
theorem zcp_73 {a0 : Option (Nat × Nat)} {a1 : Int} : zCp (d + 15) 73 [zq a0, zi a1] S k ↔ Zgo (d + 14) 73 0 [some (zq a0), some (zi a1)] [] S k := by unfold zCp zPd; rw [if_neg (by decide), if_pos (by decide), if_pos (by omega)]; rfl
theorem zcp_74 {a0 : Option (Nat × Nat)} {a1 : Int} {a2 : Option (Nat × Nat)} : zCp (d + 1) 74 [zq a0, zi a1, zq a2] S k ↔ Zgo d 74 0 [some (zq a0), some (zi a1), some (zq a2), none] [] S k := Iff.rfl
theorem zcp_75 {a0 : Option (Nat × Nat)} {a1 : Int} : zCp (d + 15) 75 [zq a0, zi a1] S k ↔ Zgo (d + 14) 75 0 [some (zq a0), some (zi a1)] [] S k := by unfold zCp zPd; rw [if_neg (by decide), if_pos (by decide), if_pos (by omega)]; rfl
theorem zcp_76 {a0 : Option (Nat × Nat)} {a1 : Int} {a2 : Option (Nat × Nat)} : zCp (d + 1) 76 [zq a0, zi a1, zq a2] S k ↔ Zgo d 76 0 [some (zq a0), some (zi a1), some (zq a2), none] [] S k := Iff.rfl
theorem zcp_77 {a0 : Option (Nat × Nat)} {a1 : Int} : zCp (d + 15) 77 [zq a0, zi a1] S k ↔ Zgo (d + 14) 77 0 [some (zq a0), some (zi a1)] [] S k := by unfold zCp zPd; rw [if_neg (by decide), if_pos (by decide), if_pos (by omega)]; rfl
theorem zcp_78 {a0 : Option (Nat × Nat)} {a1 : Int} {a2 : Option (Nat × Nat)} : zCp (d + 1) 78 [zq a0, zi a1, zq a2] S k ↔ Zgo d 78 0 [some (zq a0), some (zi a1), some (zq a2), none] [] S k := Iff.rfl
theorem zcp_79 {a0 : Option (Nat × Nat)} {a1 : Int} : zCp (d + 15) 79 [zq a0, zi a1] S k ↔ Zgo (d + 14) 79 0 [some (zq a0), some (zi a1)] [] S k := by unfold zCp zPd; rw [if_neg (by decide), if_pos (by decide), if_pos (by omega)]; rfl
theorem zcp_80 {a0 : Option (Nat × Nat)} : zCp (d + 1) 80 [zq a0] S k ↔ Zgo d 80 0 [some (zq a0)] [] S k := Iff.rfl
theorem zcp_81 {a0 : Option (Nat × Nat)} : zCp (d + 1) 81 [zq a0] S k ↔ Zgo d 81 0 [some (zq a0)] [] S k := Iff.rfl
theorem zcp_82 {a0 : Option (Nat × Nat)} {a1 : Int} : zCp (d + 1) 82 [zq a0, zl a1] S k ↔ Zgo d 82 0 [some (zq a0), some (zl a1), none, none, none, none] [] S k := Iff.rfl
theorem zcp_83 {a0 : Option (Nat × Nat)} : zCp (d + 1) 83 [zq a0] S k ↔ Zgo d 83 0 [some (zq a0)] [] S k := Iff.rfl
theorem zcp_84 {a0 : Option (Nat × Nat)} : zCp (d + 1) 84 [zq a0] S k ↔ Zgo d 84 0 [some (zq a0), none] [] S k := Iff.rfl
theorem zcp_85 {a0 : Option (Nat × Nat)} : zCp (d + 1) 85 [zq a0] S k ↔ Zgo d 85 0 [some (zq a0), none] [] S k := Iff.rfl
theorem zcp_86 {a0 : Option (Nat × Nat)} : zCp (d + 1) 86 [zq a0] S k ↔ Zgo d 86 0 [some (zq a0), none, none] [] S k := Iff.rfl
theorem zcp_87 {a0 : Option (Nat × Nat)} : zCp (d + 1) 87 [zq a0] S k ↔ Zgo d 87 0 [some (zq a0)] [] S k := Iff.rfl
theorem zcp_88 {a0 : Option (Nat × Nat)} : zCp (d + 1) 88 [zq a0] S k ↔ Zgo d 88 0 [some (zq a0), none] [] S k := Iff.rfl
theorem zcp_89 {a0 : Int} : zCp (d + 1) 89 [zi a0] S k ↔ Zgo d 89 0 [some (zi a0)] [] S k := Iff.rfl
theorem zcp_90 {a0 : Option (Nat × Nat)} : zCp (d + 1) 90 [zq a0] S k ↔ Zgo d 90 0 [some (zq a0), none] [] S k := Iff.rfl
theorem zcp_91 {a0 : Option (Nat × Nat)} : zCp (d + 1) 91 [zq a0] S k ↔ Zgo d 91 0 [some (zq a0), none, none, none, none, none, none] [] S k := Iff.rfl
theorem zcp_92 {a0 : Option (Nat × Nat)} {a1 : Int} {a2 : Int} : zCp (d + 1) 92 [zq a0, zi a1, zi a2] S k ↔ Zgo d 92 0 [some (zq a0), some (zi a1), some (zi a2), none] [] S k := Iff.rfl
theorem zcp_93 {a0 : Option (Nat × Nat)} {a1 : Int} : zCp (d + 1) 93 [zq a0, zi a1] S k ↔ Zgo d 93 0 [some (zq a0), some (zi a1)] [] S k := Iff.rfl
theorem zcp_94 {a0 : Option (Nat × Nat)} {a1 : Int} {a2 : Int} : zCp (d + 1) 94 [zq a0, zi a1, zi a2] S k ↔ Zgo d 94 0 [some (zq a0), some (zi a1), some (zi a2), none, none, none] [] S k := Iff.rfl
theorem zcp_95 {a0 : Option (Nat × Nat)} : zCp (d + 1) 95 [zq a0] S k ↔ Zgo d 95 0 [some (zq a0), none] [] S k := Iff.rfl
theorem zcp_96 {a0 : Option (Nat × Nat)} {a1 : Int} {a2 : Int} : zCp (d + 1) 96 [zq a0, zi a1, zi a2] S k ↔ Zgo d 96 0 [some (zq a0), some (zi a1), some (zi a2), none, none] [] S k := Iff.rfl
theorem zcp_97 {a0 : Option (Nat × Nat)} {a1 : Int} {a2 : Int} : zCp (d + 1) 97 [zq a0, zi a1, zi a2] S k ↔ Zgo d 97 0 [some (zq a0), some (zi a1), some (zi a2)] [] S k := Iff.rfl
theorem zcp_98 {a0 : Option (Nat × Nat)} {a1 : Int} : zCp (d + 1) 98 [zq a0, zi a1] S k ↔ Zgo d 98 0 [some (zq a0), some (zi a1), none, none, none, none] [] S k := Iff.rfl
theorem zcp_99 {a0 : Option (Nat × Nat)} : zCp (d + 1) 99 [zq a0] S k ↔ Zgo d 99 0 [some (zq a0), none, none] [] S k := Iff.rfl
theorem zcp_100 {a0 : Option (Nat × Nat)} {a1 : Int} {a2 : Int} : zCp (d + 1) 100 [zq a0, zi a1, zi a2] S k ↔ Zgo d 100 0 [some (zq a0), some (zi a1), some (zi a2)] [] S k := Iff.rfl
theorem zcp_101 {a0 : Option (Nat × Nat)} {a1 : Int} : zCp (d + 1) 101 [zq a0, zi a1] S k ↔ Zgo d 101 0 [some (zq a0), some (zi a1)] [] S k := Iff.rfl
theorem zcp_102 {a0 : Int} : zCp (d + 1) 102 [zi a0] S k ↔ Zgo d 102 0 [some (zi a0)] [] S k := Iff.rfl
theorem zcp_103 {a0 : Option (Nat × Nat)} : zCp (d + 1) 103 [zq a0] S k ↔ Zgo d 103 0 [some (zq a0), none, none] [] S k := Iff.rfl
theorem zcp_104 {a0 : Option (Nat × Nat)} {a1 : Int} : zCp (d + 1) 104 [zq a0, zi a1] S k ↔ Zgo d 104 0 [some (zq a0), some (zi a1), none, none] [] S k := Iff.rfl
theorem zcp_105 {a0 : Option (Nat × Nat)} {a1 : Int} {a2 : Int} {a3 : Int} {a4 : Int} : zCp (d + 1) 105 [zq a0, zi a1, zi a2, zi a3, zi a4] S k ↔ Zgo d 105 0 [some (zq a0), some (zi a1), some (zi a2), some (zi a3), some (zi a4), none] [] S k := Iff.rfl
theorem zcp_106 {a0 : Option (Nat × Nat)} {a1 : Int} : zCp (d + 1) 106 [zq a0, zi a1] S k ↔ Zgo d 106 0 [some (zq a0), some (zi a1), none, none] [] S k := Iff.rfl
theorem zcp_107 {a0 : Option (Nat × Nat)} {a1 : Int} : zCp (d + 1) 107 [zq a0, zi a1] S k ↔ Zgo d 107 0 [some (zq a0), some (zi a1), none, none] [] S k := Iff.rfl
theorem zcp_108 {a0 : Int} : zCp (d + 1) 108 [zi a0] S k ↔ Zgo d 108 0 [some (zi a0)] [] S k := Iff.rfl
theorem zcp_109 {a0 : Option (Nat × Nat)} {a1 : Int} : zCp (d + 1) 109 [zq a0, zi a1] S k ↔ Zgo d 109 0 [some (zq a0), some (zi a1), none, none, none, none, none, none, none] [] S k := Iff.rfl
theorem zcp_110 {a0 : Option (Nat × Nat)} {a1 : Int} : zCp (d + 1) 110 [zq a0, zi a1] S k ↔ Zgo d 110 0 [some (zq a0), some (zi a1), none] [] S k := Iff.rfl
theorem zcp_111 {a0 : Option (Nat × Nat)} {a1 : Int} {a2 : Int} {a3 : Int} : zCp (d + 1) 111 [zq a0, zi a1, zi a2, zi a3] S k ↔ Zgo d 111 0 [some (zq a0), some (zi a1), some (zi a2), some (zi a3)] [] S k := Iff.rfl
theorem zcp_112 {a0 : Option (Nat × Nat)} {a1 : Int} : zCp (d + 1) 112 [zq a0, zi a1] S k ↔ Zgo d 112 0 [some (zq a0), some (zi a1)] [] S k := Iff.rfl
theorem zcp_113 {a0 : Option (Nat × Nat)} {a1 : Int} {a2 : Int} : zCp (d + 1) 113 [zq a0, zi a1, zi a2] S k ↔ Zgo d 113 0 [some (zq a0), some (zi a1), some (zi a2)] [] S k := Iff.rfl
theorem zcp_114 {a0 : Option (Nat × Nat)} {a1 : Int} : zCp (d + 1) 114 [zq a0, zi a1] S k ↔ Zgo d 114 0 [some (zq a0), some (zi a1), none, none, none] [] S k := Iff.rfl
theorem zcp_115 {a0 : Option (Nat × Nat)} {a1 : Int} : zCp (d + 1) 115 [zq a0, zi a1] S k ↔ Zgo d 115 0 [some (zq a0), some (zi a1)] [] S k := Iff.rfl
theorem zcp_116 {a0 : Option (Nat × Nat)} {a1 : Int} : zCp (d + 1) 116 [zq a0, zi a1] S k ↔ Zgo d 116 0 [some (zq a0), some (zi a1), none, none] [] S k := Iff.rfl
theorem zcp_117 {a0 : Option (Nat × Nat)} {a1 : Int} : zCp (d + 1) 117 [zq a0, zi a1] S k ↔ Zgo d 117 0 [some (zq a0), some (zi a1), none, none, none, none, none] [] S k := Iff.rfl
theorem zcp_118 {a0 : Option (Nat × Nat)} {a1 : Int} : zCp (d + 1) 118 [zq a0, zi a1] S k ↔ Zgo d 118 0 [some (zq a0), some (zi a1), none, none] [] S k := Iff.rfl
theorem zcp_119 {a0 : Option (Nat × Nat)} {a1 : Int} : zCp (d + 1) 119 [zq a0, zi a1] S k ↔ Zgo d 119 0 [some (zq a0), some (zi a1)] [] S k := Iff.rfl
theorem zcp_120 {a0 : Option (Nat × Nat)} {a1 : Int} : zCp (d + 1) 120 [zq a0, zi a1] S k ↔ Zgo d 120 0 [some (zq a0), some (zi a1), none] [] S k := Iff.rfl
theorem zcp_121 {a0 : Option (Nat × Nat)} : zCp (d + 1) 121 [zq a0] S k ↔ Zgo d 121 0 [some (zq a0), none, none] [] S k := Iff.rfl
theorem zcp_122 {a0 : Option (Nat × Nat)} {a1 : Int} {a2 : Int} : zCp (d + 1) 122 [zq a0, zi a1, zi a2] S k ↔ Zgo d 122 0 [some (zq a0), some (zi a1), some (zi a2), none, none] [] S k := Iff.rfl
theorem zcp_123 {a0 : Option (Nat × Nat)} {a1 : Int} : zCp (d + 1) 123 [zq a0, zi a1] S k ↔ Zgo d 123 0 [some (zq a0), some (zi a1)] [] S k := Iff.rfl
theorem zcp_124 {a0 : Option (Nat × Nat)} {a1 : Int} : zCp (d + 1) 124 [zq a0, zi a1] S k ↔ Zgo d 124 0 [some (zq a0), some (zi a1)] [] S k := Iff.rfl
theorem zcp_125 {a0 : Option (Nat × Nat)} {a1 : Int} : zCp (d + 1) 125 [zq a0, zi a1] S k ↔ Zgo d 125 0 [some (zq a0), some (zi a1)] [] S k := Iff.rfl
theorem zcp_126 {a0 : Option (Nat × Nat)} {a1 : Int} : zCp (d + 1) 126 [zq a0, zi a1] S k ↔ Zgo d 126 0 [some (zq a0), some (zi a1)] [] S k := Iff.rfl
theorem zcp_127 {a0 : Option (Nat × Nat)} {a1 : Int} : zCp (d + 1) 127 [zq a0, zi a1] S k ↔ Zgo d 127 0 [some (zq a0), some (zi a1)] [] S k := Iff.rfl
theorem zcp_900 {q : Nat × Nat} {x : Int} : zCp (d + 12) 900 [zq (some q), zi x] S k ↔ k (some (zi (zops (zw x)))) S := by unfold zCp; rw [if_pos (by decide), if_pos (by omega)]; rfl
theorem zcp_901 {x y : Int} : zCp (d + 12) 901 [zi x, zi y] S k ↔ k (some (zi (zmax x y))) S := by unfold zCp; rw [if_pos (by decide), if_pos (by omega)]; rfl
theorem zcp_905 {q : Nat × Nat} : zCp (d + 12) 905 [zq (some q)] S k ↔ k none S := by unfold zCp; rw [if_pos (by decide), if_pos (by omega)]; rfl
end
section
variable {d : Nat} {L : zL} {st : List zV} {S : zS} {Q : Option zV → zS → Prop}
/-- LeavingMachine.<init>()V -/
theorem zg_0_0 : Zgo d 0 0 L st S Q ↔ (zlda L 0 False fun r => Zgo d 0 1 L (zq r :: st) S Q) := Zgo_iff (i := .aload_n 0) (len := 1) (a := 0) (b := 0) (c := 0) (p := 0) rfl
theorem zg_0_1 : Zgo d 0 1 L st S Q ↔ (zinv 1 st False fun as t => zCp d 905 as S fun _ S2 => Zgo d 0 4 L t S2 Q) := Zgo_iff (i := .invokespecial 3) (len := 3) (a := 0) (b := 1) (c := 4) (p := 1032) rfl
theorem zg_0_4 : Zgo d 0 4 L st S Q ↔ (zlda L 0 False fun r => Zgo d 0 5 L (zq r :: st) S Q) := Zgo_iff (i := .aload_n 0) (len := 1) (a := 0) (b := 0) (c := 0) (p := 0) rfl
theorem zg_0_5 : Zgo d 0 5 L st S Q ↔ (Zgo d 0 8 L (zq (some (1, S.2.2.1 1)) :: st) (S.1, S.2.1, va_up S.2.2.1 1 (S.2.2.1 1 + 1), S.2.2.2.1 + 1, S.2.2.2.2.1 + 2, S.2.2.2.2.2) Q) := Zgo_iff (i := .new 9) (len := 3) (a := 1) (b := 2) (c := 0) (p := 1035) rfl
theorem zg_0_8 : Zgo d 0 8 L st S Q ↔ (zp1 st False fun v t => Zgo d 0 9 L (v :: v :: t) S Q) := Zgo_iff (i := .dup) (len := 1) (a := 0) (b := 0) (c := 0) (p := 0) rfl
theorem zg_0_9 : Zgo d 0 9 L st S Q ↔ (zinv 1 st False fun as t => zrec as 1 False (zCp d 1 as S fun r S2 => Zgo d 0 12 L (r.toList ++ t) S2 Q)) := Zgo_iff (i := .invokespecial 11) (len := 3) (a := 1) (b := 1) (c := 3) (p := 1037) rfl
theorem zg_0_12 : Zgo d 0 12 L st S Q ↔ (zpa st False fun v t => zpa t False fun r t => zde r 0 False fun o => Zgo d 0 15 L t (S.1, zsR S.2.1 0 o 0 v, S.2.2) Q) := Zgo_iff (i := .putfield 12) (len := 3) (a := 0) (b := 0) (c := 3) (p := 2114) rfl
theorem zg_0_15 : Zgo d 0 15 L st S Q ↔ (zlda L 0 False fun r => Zgo d 0 16 L (zq r :: st) S Q) := Zgo_iff (i := .aload_n 0) (len := 1) (a := 0) (b := 0) (c := 0) (p := 0) rfl
theorem zg_0_16 : Zgo d 0 16 L st S Q ↔ (Zgo d 0 19 L (zq (some (7, S.2.2.1 7)) :: st) (S.1, S.2.1, va_up S.2.2.1 7 (S.2.2.1 7 + 1), S.2.2.2.1 + 1, S.2.2.2.2.1 + 11, S.2.2.2.2.2) Q) := Zgo_iff (i := .new 16) (len := 3) (a := 7) (b := 11) (c := 0) (p := 1052) rfl
theorem zg_0_19 : Zgo d 0 19 L st S Q ↔ (zp1 st False fun v t => Zgo d 0 20 L (v :: v :: t) S Q) := Zgo_iff (i := .dup) (len := 1) (a := 0) (b := 0) (c := 0) (p := 0) rfl
theorem zg_0_20 : Zgo d 0 20 L st S Q ↔ (zinv 1 st False fun as t => zrec as 7 False (zCp d 2 as S fun r S2 => Zgo d 0 23 L (r.toList ++ t) S2 Q)) := Zgo_iff (i := .invokespecial 18) (len := 3) (a := 2) (b := 1) (c := 2) (p := 1054) rfl
theorem zg_0_23 : Zgo d 0 23 L st S Q ↔ (zpa st False fun v t => zpa t False fun r t => zde r 0 False fun o => Zgo d 0 26 L t (S.1, zsR S.2.1 0 o 1 v, S.2.2) Q) := Zgo_iff (i := .putfield 19) (len := 3) (a := 0) (b := 1) (c := 3) (p := 2115) rfl
theorem zg_0_26 : Zgo d 0 26 L st S Q ↔ (zlda L 0 False fun r => Zgo d 0 27 L (zq r :: st) S Q) := Zgo_iff (i := .aload_n 0) (len := 1) (a := 0) (b := 0) (c := 0) (p := 0) rfl
theorem zg_0_27 : Zgo d 0 27 L st S Q ↔ (Zgo d 0 30 L (zq (some (8, S.2.2.1 8)) :: st) (S.1, S.2.1, va_up S.2.2.1 8 (S.2.2.1 8 + 1), S.2.2.2.1 + 1, S.2.2.2.2.1 + 3, S.2.2.2.2.2) Q) := Zgo_iff (i := .new 23) (len := 3) (a := 8) (b := 3) (c := 0) (p := 2036) rfl
theorem zg_0_30 : Zgo d 0 30 L st S Q ↔ (zp1 st False fun v t => Zgo d 0 31 L (v :: v :: t) S Q) := Zgo_iff (i := .dup) (len := 1) (a := 0) (b := 0) (c := 0) (p := 0) rfl
theorem zg_0_31 : Zgo d 0 31 L st S Q ↔ (zlda L 0 False fun r => Zgo d 0 32 L (zq r :: st) S Q) := Zgo_iff (i := .aload_n 0) (len := 1) (a := 0) (b := 0) (c := 0) (p := 0) rfl
theorem zg_0_32 : Zgo d 0 32 L st S Q ↔ (zpa st False fun r t => zde r 0 False fun o => Zgo d 0 35 L (zq (S.2.1 0 o 0) :: t) S Q) := Zgo_iff (i := .getfield 12) (len := 3) (a := 0) (b := 0) (c := 3) (p := 2114) rfl
theorem zg_0_35 : Zgo d 0 35 L st S Q ↔ (zlda L 0 False fun r => Zgo d 0 36 L (zq r :: st) S Q) := Zgo_iff (i := .aload_n 0) (len := 1) (a := 0) (b := 0) (c := 0) (p := 0) rfl
theorem zg_0_36 : Zgo d 0 36 L st S Q ↔ (zpa st False fun r t => zde r 0 False fun o => Zgo d 0 39 L (zq (S.2.1 0 o 1) :: t) S Q) := Zgo_iff (i := .getfield 19) (len := 3) (a := 0) (b := 1) (c := 3) (p := 2115) rfl
theorem zg_0_39 : Zgo d 0 39 L st S Q ↔ (zinv 3 st False fun as t => zrec as 8 False (zCp d 8 as S fun r S2 => Zgo d 0 42 L (r.toList ++ t) S2 Q)) := Zgo_iff (i := .invokespecial 25) (len := 3) (a := 8) (b := 3) (c := 2) (p := 2038) rfl
theorem zg_0_42 : Zgo d 0 42 L st S Q ↔ (zpa st False fun v t => zpa t False fun r t => zde r 0 False fun o => Zgo d 0 45 L t (S.1, zsR S.2.1 0 o 2 v, S.2.2) Q) := Zgo_iff (i := .putfield 28) (len := 3) (a := 0) (b := 2) (c := 3) (p := 2116) rfl
theorem zg_0_45 : Zgo d 0 45 L st S Q ↔ (zlda L 0 False fun r => Zgo d 0 46 L (zq r :: st) S Q) := Zgo_iff (i := .aload_n 0) (len := 1) (a := 0) (b := 0) (c := 0) (p := 0) rfl
theorem zg_0_46 : Zgo d 0 46 L st S Q ↔ (Zgo d 0 49 L (zq (some (9, S.2.2.1 9)) :: st) (S.1, S.2.1, va_up S.2.2.1 9 (S.2.2.1 9 + 1), S.2.2.2.1 + 1, S.2.2.2.2.1 + 2, S.2.2.2.2.2) Q) := Zgo_iff (i := .new 32) (len := 3) (a := 9) (b := 2) (c := 0) (p := 2052) rfl
theorem zg_0_49 : Zgo d 0 49 L st S Q ↔ (zp1 st False fun v t => Zgo d 0 50 L (v :: v :: t) S Q) := Zgo_iff (i := .dup) (len := 1) (a := 0) (b := 0) (c := 0) (p := 0) rfl
theorem zg_0_50 : Zgo d 0 50 L st S Q ↔ (zlda L 0 False fun r => Zgo d 0 51 L (zq r :: st) S Q) := Zgo_iff (i := .aload_n 0) (len := 1) (a := 0) (b := 0) (c := 0) (p := 0) rfl
theorem zg_0_51 : Zgo d 0 51 L st S Q ↔ (zpa st False fun r t => zde r 0 False fun o => Zgo d 0 54 L (zq (S.2.1 0 o 1) :: t) S Q) := Zgo_iff (i := .getfield 19) (len := 3) (a := 0) (b := 1) (c := 3) (p := 2115) rfl
theorem zg_0_54 : Zgo d 0 54 L st S Q ↔ (zinv 2 st False fun as t => zrec as 9 False (zCp d 9 as S fun r S2 => Zgo d 0 57 L (r.toList ++ t) S2 Q)) := Zgo_iff (i := .invokespecial 34) (len := 3) (a := 9) (b := 2) (c := 2) (p := 2054) rfl
theorem zg_0_57 : Zgo d 0 57 L st S Q ↔ (zpa st False fun v t => zpa t False fun r t => zde r 0 False fun o => Zgo d 0 60 L t (S.1, zsR S.2.1 0 o 3 v, S.2.2) Q) := Zgo_iff (i := .putfield 37) (len := 3) (a := 0) (b := 3) (c := 3) (p := 2117) rfl
theorem zg_0_60 : Zgo d 0 60 L st S Q ↔ (zlda L 0 False fun r => Zgo d 0 61 L (zq r :: st) S Q) := Zgo_iff (i := .aload_n 0) (len := 1) (a := 0) (b := 0) (c := 0) (p := 0) rfl
theorem zg_0_61 : Zgo d 0 61 L st S Q ↔ (Zgo d 0 64 L (zq (some (10, S.2.2.1 10)) :: st) (S.1, S.2.1, va_up S.2.2.1 10 (S.2.2.1 10 + 1), S.2.2.2.1 + 1, S.2.2.2.2.1 + 11, S.2.2.2.2.2) Q) := Zgo_iff (i := .new 41) (len := 3) (a := 10) (b := 11) (c := 0) (p := 2065) rfl
theorem zg_0_64 : Zgo d 0 64 L st S Q ↔ (zp1 st False fun v t => Zgo d 0 65 L (v :: v :: t) S Q) := Zgo_iff (i := .dup) (len := 1) (a := 0) (b := 0) (c := 0) (p := 0) rfl
theorem zg_0_65 : Zgo d 0 65 L st S Q ↔ (zlda L 0 False fun r => Zgo d 0 66 L (zq r :: st) S Q) := Zgo_iff (i := .aload_n 0) (len := 1) (a := 0) (b := 0) (c := 0) (p := 0) rfl
theorem zg_0_66 : Zgo d 0 66 L st S Q ↔ (zpa st False fun r t => zde r 0 False fun o => Zgo d 0 69 L (zq (S.2.1 0 o 1) :: t) S Q) := Zgo_iff (i := .getfield 19) (len := 3) (a := 0) (b := 1) (c := 3) (p := 2115) rfl
theorem zg_0_69 : Zgo d 0 69 L st S Q ↔ (zinv 2 st False fun as t => zrec as 10 False (zCp d 10 as S fun r S2 => Zgo d 0 72 L (r.toList ++ t) S2 Q)) := Zgo_iff (i := .invokespecial 43) (len := 3) (a := 10) (b := 2) (c := 2) (p := 2067) rfl
theorem zg_0_72 : Zgo d 0 72 L st S Q ↔ (zpa st False fun v t => zpa t False fun r t => zde r 0 False fun o => Zgo d 0 75 L t (S.1, zsR S.2.1 0 o 4 v, S.2.2) Q) := Zgo_iff (i := .putfield 44) (len := 3) (a := 0) (b := 4) (c := 3) (p := 2118) rfl
theorem zg_0_75 : Zgo d 0 75 L st S Q ↔ (zem st False (Q none S)) := Zgo_iff (i := .return_) (len := 1) (a := 0) (b := 0) (c := 0) (p := 0) rfl
/-- LeavingMachine$Text.<init>()V -/
theorem zg_1_0 : Zgo d 1 0 L st S Q ↔ (zlda L 0 False fun r => Zgo d 1 1 L (zq r :: st) S Q) := Zgo_iff (i := .aload_n 0) (len := 1) (a := 0) (b := 0) (c := 0) (p := 0) rfl
theorem zg_1_1 : Zgo d 1 1 L st S Q ↔ (zinv 1 st False fun as t => zCp d 905 as S fun _ S2 => Zgo d 1 4 L t S2 Q) := Zgo_iff (i := .invokespecial 3) (len := 3) (a := 0) (b := 1) (c := 4) (p := 1040) rfl
theorem zg_1_4 : Zgo d 1 4 L st S Q ↔ (zlda L 0 False fun r => Zgo d 1 5 L (zq r :: st) S Q) := Zgo_iff (i := .aload_n 0) (len := 1) (a := 0) (b := 0) (c := 0) (p := 0) rfl
theorem zg_1_5 : Zgo d 1 5 L st S Q ↔ (Zgo d 1 8 L (zi 160 :: st) S Q) := Zgo_iff (i := .sipush 160) (len := 3) (a := 0) (b := 0) (c := 0) (p := 0) rfl
theorem zg_1_8 : Zgo d 1 8 L st S Q ↔ (zpi st False fun n t => if n = (160 : Nat) ∧ S.2.2.1 20 = 0 then Zgo d 1 10 L (zq (some (20, 0)) :: t) (S.1, S.2.1, va_up S.2.2.1 20 1, S.2.2.2.1 + 1, S.2.2.2.2.1 + 160, S.2.2.2.2.2) Q else False) := Zgo_iff (i := .newarray .char) (len := 2) (a := 20) (b := 160) (c := 2) (p := 0) rfl
theorem zg_1_10 : Zgo d 1 10 L st S Q ↔ (zpa st False fun v t => zpa t False fun r t => zde r 1 False fun o => Zgo d 1 13 L t (S.1, zsR S.2.1 1 o 0 v, S.2.2) Q) := Zgo_iff (i := .putfield 9) (len := 3) (a := 1) (b := 0) (c := 3) (p := 1041) rfl
theorem zg_1_13 : Zgo d 1 13 L st S Q ↔ (zem st False (Q none S)) := Zgo_iff (i := .return_) (len := 1) (a := 0) (b := 0) (c := 0) (p := 0) rfl
/-- LeavingMachine$Program.<init>()V -/
theorem zg_2_0 : Zgo d 2 0 L st S Q ↔ (zlda L 0 False fun r => Zgo d 2 1 L (zq r :: st) S Q) := Zgo_iff (i := .aload_n 0) (len := 1) (a := 0) (b := 0) (c := 0) (p := 0) rfl
theorem zg_2_1 : Zgo d 2 1 L st S Q ↔ (zinv 1 st False fun as t => zCp d 905 as S fun _ S2 => Zgo d 2 4 L t S2 Q) := Zgo_iff (i := .invokespecial 3) (len := 3) (a := 0) (b := 1) (c := 4) (p := 1057) rfl
theorem zg_2_4 : Zgo d 2 4 L st S Q ↔ (zlda L 0 False fun r => Zgo d 2 5 L (zq r :: st) S Q) := Zgo_iff (i := .aload_n 0) (len := 1) (a := 0) (b := 0) (c := 0) (p := 0) rfl
theorem zg_2_5 : Zgo d 2 5 L st S Q ↔ (Zgo d 2 6 L (zi 3 :: st) S Q) := Zgo_iff (i := .iconst 3) (len := 1) (a := 0) (b := 0) (c := 0) (p := 0) rfl
theorem zg_2_6 : Zgo d 2 6 L st S Q ↔ (zpi st False fun n t => if n = (3 : Nat) ∧ S.2.2.1 21 = 0 then Zgo d 2 9 L (zq (some (21, 0)) :: t) (S.1, S.2.1, va_up S.2.2.1 21 1, S.2.2.2.1 + 1, S.2.2.2.2.1 + 3, S.2.2.2.2.2) Q else False) := Zgo_iff (i := .anewarray 9) (len := 3) (a := 21) (b := 3) (c := 3) (p := 1058) rfl
theorem zg_2_9 : Zgo d 2 9 L st S Q ↔ (zpa st False fun v t => zpa t False fun r t => zde r 7 False fun o => Zgo d 2 12 L t (S.1, zsR S.2.1 7 o 0 v, S.2.2) Q) := Zgo_iff (i := .putfield 11) (len := 3) (a := 7) (b := 0) (c := 3) (p := 1229) rfl
theorem zg_2_12 : Zgo d 2 12 L st S Q ↔ (zlda L 0 False fun r => Zgo d 2 13 L (zq r :: st) S Q) := Zgo_iff (i := .aload_n 0) (len := 1) (a := 0) (b := 0) (c := 0) (p := 0) rfl
theorem zg_2_13 : Zgo d 2 13 L st S Q ↔ (Zgo d 2 16 L (zq (some (2, S.2.2.1 2)) :: st) (S.1, S.2.1, va_up S.2.2.1 2 (S.2.2.1 2 + 1), S.2.2.2.1 + 1, S.2.2.2.2.1 + 4, S.2.2.2.2.2) Q) := Zgo_iff (i := .new 9) (len := 3) (a := 2) (b := 4) (c := 0) (p := 1058) rfl
theorem zg_2_16 : Zgo d 2 16 L st S Q ↔ (zp1 st False fun v t => Zgo d 2 17 L (v :: v :: t) S Q) := Zgo_iff (i := .dup) (len := 1) (a := 0) (b := 0) (c := 0) (p := 0) rfl
theorem zg_2_17 : Zgo d 2 17 L st S Q ↔ (zinv 1 st False fun as t => zrec as 2 False (zCp d 3 as S fun r S2 => Zgo d 2 20 L (r.toList ++ t) S2 Q)) := Zgo_iff (i := .invokespecial 17) (len := 3) (a := 3) (b := 1) (c := 3) (p := 1061) rfl
theorem zg_2_20 : Zgo d 2 20 L st S Q ↔ (zpa st False fun v t => zpa t False fun r t => zde r 7 False fun o => Zgo d 2 23 L t (S.1, zsR S.2.1 7 o 1 v, S.2.2) Q) := Zgo_iff (i := .putfield 18) (len := 3) (a := 7) (b := 1) (c := 3) (p := 1232) rfl
theorem zg_2_23 : Zgo d 2 23 L st S Q ↔ (zlda L 0 False fun r => Zgo d 2 24 L (zq r :: st) S Q) := Zgo_iff (i := .aload_n 0) (len := 1) (a := 0) (b := 0) (c := 0) (p := 0) rfl
theorem zg_2_24 : Zgo d 2 24 L st S Q ↔ (Zgo d 2 26 L (zi 80 :: st) S Q) := Zgo_iff (i := .bipush 80) (len := 2) (a := 0) (b := 0) (c := 0) (p := 0) rfl
theorem zg_2_26 : Zgo d 2 26 L st S Q ↔ (zpi st False fun n t => if n = (80 : Nat) ∧ S.2.2.1 22 = 0 then Zgo d 2 29 L (zq (some (22, 0)) :: t) (S.1, S.2.1, va_up S.2.2.1 22 1, S.2.2.2.1 + 1, S.2.2.2.2.1 + 80, S.2.2.2.2.2) Q else False) := Zgo_iff (i := .anewarray 22) (len := 3) (a := 22) (b := 80) (c := 3) (p := 1083) rfl
theorem zg_2_29 : Zgo d 2 29 L st S Q ↔ (zpa st False fun v t => zpa t False fun r t => zde r 7 False fun o => Zgo d 2 32 L t (S.1, zsR S.2.1 7 o 2 v, S.2.2) Q) := Zgo_iff (i := .putfield 24) (len := 3) (a := 7) (b := 2) (c := 3) (p := 1236) rfl
theorem zg_2_32 : Zgo d 2 32 L st S Q ↔ (zlda L 0 False fun r => Zgo d 2 33 L (zq r :: st) S Q) := Zgo_iff (i := .aload_n 0) (len := 1) (a := 0) (b := 0) (c := 0) (p := 0) rfl
theorem zg_2_33 : Zgo d 2 33 L st S Q ↔ (Zgo d 2 36 L (zq (some (6, S.2.2.1 6)) :: st) (S.1, S.2.1, va_up S.2.2.1 6 (S.2.2.1 6 + 1), S.2.2.2.1 + 1, S.2.2.2.2.1 + 5, S.2.2.2.2.2) Q) := Zgo_iff (i := .new 28) (len := 3) (a := 6) (b := 5) (c := 0) (p := 1085) rfl
theorem zg_2_36 : Zgo d 2 36 L st S Q ↔ (zp1 st False fun v t => Zgo d 2 37 L (v :: v :: t) S Q) := Zgo_iff (i := .dup) (len := 1) (a := 0) (b := 0) (c := 0) (p := 0) rfl
theorem zg_2_37 : Zgo d 2 37 L st S Q ↔ (zinv 1 st False fun as t => zrec as 6 False (zCp d 4 as S fun r S2 => Zgo d 2 40 L (r.toList ++ t) S2 Q)) := Zgo_iff (i := .invokespecial 30) (len := 3) (a := 4) (b := 1) (c := 3) (p := 1087) rfl
theorem zg_2_40 : Zgo d 2 40 L st S Q ↔ (zpa st False fun v t => zpa t False fun r t => zde r 7 False fun o => Zgo d 2 43 L t (S.1, zsR S.2.1 7 o 3 v, S.2.2) Q) := Zgo_iff (i := .putfield 31) (len := 3) (a := 7) (b := 3) (c := 3) (p := 1238) rfl
theorem zg_2_43 : Zgo d 2 43 L st S Q ↔ (zlda L 0 False fun r => Zgo d 2 44 L (zq r :: st) S Q) := Zgo_iff (i := .aload_n 0) (len := 1) (a := 0) (b := 0) (c := 0) (p := 0) rfl
theorem zg_2_44 : Zgo d 2 44 L st S Q ↔ (Zgo d 2 46 L (zi 80 :: st) S Q) := Zgo_iff (i := .bipush 80) (len := 2) (a := 0) (b := 0) (c := 0) (p := 0) rfl
theorem zg_2_46 : Zgo d 2 46 L st S Q ↔ (zpi st False fun n t => if n = (80 : Nat) ∧ S.2.2.1 23 = 0 then Zgo d 2 49 L (zq (some (23, 0)) :: t) (S.1, S.2.1, va_up S.2.2.1 23 1, S.2.2.2.1 + 1, S.2.2.2.2.1 + 80, S.2.2.2.2.2) Q else False) := Zgo_iff (i := .anewarray 35) (len := 3) (a := 23) (b := 80) (c := 3) (p := 1111) rfl
theorem zg_2_49 : Zgo d 2 49 L st S Q ↔ (zpa st False fun v t => zpa t False fun r t => zde r 7 False fun o => Zgo d 2 52 L t (S.1, zsR S.2.1 7 o 7 v, S.2.2) Q) := Zgo_iff (i := .putfield 37) (len := 3) (a := 7) (b := 7) (c := 3) (p := 2009) rfl
theorem zg_2_52 : Zgo d 2 52 L st S Q ↔ (zlda L 0 False fun r => Zgo d 2 53 L (zq r :: st) S Q) := Zgo_iff (i := .aload_n 0) (len := 1) (a := 0) (b := 0) (c := 0) (p := 0) rfl
theorem zg_2_53 : Zgo d 2 53 L st S Q ↔ (Zgo d 2 55 L (zi 32 :: st) S Q) := Zgo_iff (i := .bipush 32) (len := 2) (a := 0) (b := 0) (c := 0) (p := 0) rfl
theorem zg_2_55 : Zgo d 2 55 L st S Q ↔ (zpi st False fun n t => if n = (32 : Nat) ∧ S.2.2.1 24 = 0 then Zgo d 2 58 L (zq (some (24, 0)) :: t) (S.1, S.2.1, va_up S.2.2.1 24 1, S.2.2.2.1 + 1, S.2.2.2.2.1 + 32, S.2.2.2.2.2) Q else False) := Zgo_iff (i := .anewarray 41) (len := 3) (a := 24) (b := 32) (c := 3) (p := 1113) rfl
theorem zg_2_58 : Zgo d 2 58 L st S Q ↔ (zpa st False fun v t => zpa t False fun r t => zde r 7 False fun o => Zgo d 2 61 L t (S.1, zsR S.2.1 7 o 8 v, S.2.2) Q) := Zgo_iff (i := .putfield 43) (len := 3) (a := 7) (b := 8) (c := 3) (p := 2010) rfl
theorem zg_2_61 : Zgo d 2 61 L st S Q ↔ (Zgo d 2 62 L (zi 0 :: st) S Q) := Zgo_iff (i := .iconst 0) (len := 1) (a := 0) (b := 0) (c := 0) (p := 0) rfl
theorem zg_2_62 : Zgo d 2 62 L st S Q ↔ (zpi st False fun x t => Zgo d 2 63 (zst L 1 (some (zi x))) t S Q) := Zgo_iff (i := .istore_n 1) (len := 1) (a := 0) (b := 0) (c := 0) (p := 0) rfl
theorem zg_2_63 : Zgo d 2 63 L st S Q ↔ (zldi L 1 False fun x => Zgo d 2 64 L (zi x :: st) S Q) := Zgo_iff (i := .iload_n 1) (len := 1) (a := 0) (b := 0) (c := 0) (p := 0) rfl
theorem zg_2_64 : Zgo d 2 64 L st S Q ↔ (Zgo d 2 65 L (zi 3 :: st) S Q) := Zgo_iff (i := .iconst 3) (len := 1) (a := 0) (b := 0) (c := 0) (p := 0) rfl
theorem zg_2_65 : Zgo d 2 65 L st S Q ↔ (zpi st False fun y t => zpi t False fun x t => if zw x < zw y then Zgo d 2 68 L t S Q else Zgo d 2 87 L t S Q) := Zgo_iff (i := .if_icmp .ge 22) (len := 3) (a := 0) (b := 0) (c := 0) (p := 0) rfl
theorem zg_2_68 : Zgo d 2 68 L st S Q ↔ (zlda L 0 False fun r => Zgo d 2 69 L (zq r :: st) S Q) := Zgo_iff (i := .aload_n 0) (len := 1) (a := 0) (b := 0) (c := 0) (p := 0) rfl
theorem zg_2_69 : Zgo d 2 69 L st S Q ↔ (zpa st False fun r t => zde r 7 False fun o => Zgo d 2 72 L (zq (S.2.1 7 o 0) :: t) S Q) := Zgo_iff (i := .getfield 11) (len := 3) (a := 7) (b := 0) (c := 3) (p := 1229) rfl
theorem zg_2_72 : Zgo d 2 72 L st S Q ↔ (zldi L 1 False fun x => Zgo d 2 73 L (zi x :: st) S Q) := Zgo_iff (i := .iload_n 1) (len := 1) (a := 0) (b := 0) (c := 0) (p := 0) rfl
theorem zg_2_73 : Zgo d 2 73 L st S Q ↔ (Zgo d 2 76 L (zq (some (2, S.2.2.1 2)) :: st) (S.1, S.2.1, va_up S.2.2.1 2 (S.2.2.1 2 + 1), S.2.2.2.1 + 1, S.2.2.2.2.1 + 4, S.2.2.2.2.2) Q) := Zgo_iff (i := .new 9) (len := 3) (a := 2) (b := 4) (c := 0) (p := 1058) rfl
theorem zg_2_76 : Zgo d 2 76 L st S Q ↔ (zp1 st False fun v t => Zgo d 2 77 L (v :: v :: t) S Q) := Zgo_iff (i := .dup) (len := 1) (a := 0) (b := 0) (c := 0) (p := 0) rfl
theorem zg_2_77 : Zgo d 2 77 L st S Q ↔ (zinv 1 st False fun as t => zrec as 2 False (zCp d 3 as S fun r S2 => Zgo d 2 80 L (r.toList ++ t) S2 Q)) := Zgo_iff (i := .invokespecial 17) (len := 3) (a := 3) (b := 1) (c := 3) (p := 1061) rfl
theorem zg_2_80 : Zgo d 2 80 L st S Q ↔ (zpa st False fun v t => zpi t False fun j t => zpa t False fun r t => znn r False fun q o => zop (zArr q) False fun n => if n.1 = 3 then zix j n.2 False fun x => zde v (zArT q) False fun u => Zgo d 2 81 L t (S.1, zsR S.2.1 q o x (some (zArT q, u)), S.2.2) Q else False) := Zgo_iff (i := .aastore) (len := 1) (a := 0) (b := 0) (c := 0) (p := 0) rfl
theorem zg_2_81 : Zgo d 2 81 L st S Q ↔ (zldi L 1 False fun x => Zgo d 2 84 (zst L 1 (some (zi (x + 1)))) st S Q) := Zgo_iff (i := .iinc 1 1) (len := 3) (a := 0) (b := 0) (c := 0) (p := 0) rfl
theorem zg_2_84 : Zgo d 2 84 L st S Q ↔ (Zgo d 2 63 L st S Q) := Zgo_iff (i := .goto (-21)) (len := 3) (a := 0) (b := 0) (c := 0) (p := 0) rfl
theorem zg_2_87 : Zgo d 2 87 L st S Q ↔ (Zgo d 2 88 L (zi 0 :: st) S Q) := Zgo_iff (i := .iconst 0) (len := 1) (a := 0) (b := 0) (c := 0) (p := 0) rfl
theorem zg_2_88 : Zgo d 2 88 L st S Q ↔ (zpi st False fun x t => Zgo d 2 89 (zst L 1 (some (zi x))) t S Q) := Zgo_iff (i := .istore_n 1) (len := 1) (a := 0) (b := 0) (c := 0) (p := 0) rfl
theorem zg_2_89 : Zgo d 2 89 L st S Q ↔ (zldi L 1 False fun x => Zgo d 2 90 L (zi x :: st) S Q) := Zgo_iff (i := .iload_n 1) (len := 1) (a := 0) (b := 0) (c := 0) (p := 0) rfl
theorem zg_2_90 : Zgo d 2 90 L st S Q ↔ (Zgo d 2 92 L (zi 80 :: st) S Q) := Zgo_iff (i := .bipush 80) (len := 2) (a := 0) (b := 0) (c := 0) (p := 0) rfl
theorem zg_2_92 : Zgo d 2 92 L st S Q ↔ (zpi st False fun y t => zpi t False fun x t => if zw x < zw y then Zgo d 2 95 L t S Q else Zgo d 2 114 L t S Q) := Zgo_iff (i := .if_icmp .ge 22) (len := 3) (a := 0) (b := 0) (c := 0) (p := 0) rfl
theorem zg_2_95 : Zgo d 2 95 L st S Q ↔ (zlda L 0 False fun r => Zgo d 2 96 L (zq r :: st) S Q) := Zgo_iff (i := .aload_n 0) (len := 1) (a := 0) (b := 0) (c := 0) (p := 0) rfl
theorem zg_2_96 : Zgo d 2 96 L st S Q ↔ (zpa st False fun r t => zde r 7 False fun o => Zgo d 2 99 L (zq (S.2.1 7 o 2) :: t) S Q) := Zgo_iff (i := .getfield 24) (len := 3) (a := 7) (b := 2) (c := 3) (p := 1236) rfl
theorem zg_2_99 : Zgo d 2 99 L st S Q ↔ (zldi L 1 False fun x => Zgo d 2 100 L (zi x :: st) S Q) := Zgo_iff (i := .iload_n 1) (len := 1) (a := 0) (b := 0) (c := 0) (p := 0) rfl
theorem zg_2_100 : Zgo d 2 100 L st S Q ↔ (Zgo d 2 103 L (zq (some (4, S.2.2.1 4)) :: st) (S.1, S.2.1, va_up S.2.2.1 4 (S.2.2.1 4 + 1), S.2.2.2.1 + 1, S.2.2.2.2.1 + 11, S.2.2.2.2.2) Q) := Zgo_iff (i := .new 22) (len := 3) (a := 4) (b := 11) (c := 0) (p := 1083) rfl
theorem zg_2_103 : Zgo d 2 103 L st S Q ↔ (zp1 st False fun v t => Zgo d 2 104 L (v :: v :: t) S Q) := Zgo_iff (i := .dup) (len := 1) (a := 0) (b := 0) (c := 0) (p := 0) rfl
theorem zg_2_104 : Zgo d 2 104 L st S Q ↔ (zinv 1 st False fun as t => zrec as 4 False (zCp d 5 as S fun r S2 => Zgo d 2 107 L (r.toList ++ t) S2 Q)) := Zgo_iff (i := .invokespecial 47) (len := 3) (a := 5) (b := 1) (c := 3) (p := 1116) rfl
theorem zg_2_107 : Zgo d 2 107 L st S Q ↔ (zpa st False fun v t => zpi t False fun j t => zpa t False fun r t => znn r False fun q o => zop (zArr q) False fun n => if n.1 = 3 then zix j n.2 False fun x => zde v (zArT q) False fun u => Zgo d 2 108 L t (S.1, zsR S.2.1 q o x (some (zArT q, u)), S.2.2) Q else False) := Zgo_iff (i := .aastore) (len := 1) (a := 0) (b := 0) (c := 0) (p := 0) rfl
theorem zg_2_108 : Zgo d 2 108 L st S Q ↔ (zldi L 1 False fun x => Zgo d 2 111 (zst L 1 (some (zi (x + 1)))) st S Q) := Zgo_iff (i := .iinc 1 1) (len := 3) (a := 0) (b := 0) (c := 0) (p := 0) rfl
theorem zg_2_111 : Zgo d 2 111 L st S Q ↔ (Zgo d 2 89 L st S Q) := Zgo_iff (i := .goto (-22)) (len := 3) (a := 0) (b := 0) (c := 0) (p := 0) rfl
theorem zg_2_114 : Zgo d 2 114 L st S Q ↔ (Zgo d 2 115 L (zi 0 :: st) S Q) := Zgo_iff (i := .iconst 0) (len := 1) (a := 0) (b := 0) (c := 0) (p := 0) rfl
theorem zg_2_115 : Zgo d 2 115 L st S Q ↔ (zpi st False fun x t => Zgo d 2 116 (zst L 1 (some (zi x))) t S Q) := Zgo_iff (i := .istore_n 1) (len := 1) (a := 0) (b := 0) (c := 0) (p := 0) rfl
theorem zg_2_116 : Zgo d 2 116 L st S Q ↔ (zldi L 1 False fun x => Zgo d 2 117 L (zi x :: st) S Q) := Zgo_iff (i := .iload_n 1) (len := 1) (a := 0) (b := 0) (c := 0) (p := 0) rfl
theorem zg_2_117 : Zgo d 2 117 L st S Q ↔ (Zgo d 2 119 L (zi 80 :: st) S Q) := Zgo_iff (i := .bipush 80) (len := 2) (a := 0) (b := 0) (c := 0) (p := 0) rfl
theorem zg_2_119 : Zgo d 2 119 L st S Q ↔ (zpi st False fun y t => zpi t False fun x t => if zw x < zw y then Zgo d 2 122 L t S Q else Zgo d 2 141 L t S Q) := Zgo_iff (i := .if_icmp .ge 22) (len := 3) (a := 0) (b := 0) (c := 0) (p := 0) rfl
theorem zg_2_122 : Zgo d 2 122 L st S Q ↔ (zlda L 0 False fun r => Zgo d 2 123 L (zq r :: st) S Q) := Zgo_iff (i := .aload_n 0) (len := 1) (a := 0) (b := 0) (c := 0) (p := 0) rfl
theorem zg_2_123 : Zgo d 2 123 L st S Q ↔ (zpa st False fun r t => zde r 7 False fun o => Zgo d 2 126 L (zq (S.2.1 7 o 7) :: t) S Q) := Zgo_iff (i := .getfield 37) (len := 3) (a := 7) (b := 7) (c := 3) (p := 2009) rfl
theorem zg_2_126 : Zgo d 2 126 L st S Q ↔ (zldi L 1 False fun x => Zgo d 2 127 L (zi x :: st) S Q) := Zgo_iff (i := .iload_n 1) (len := 1) (a := 0) (b := 0) (c := 0) (p := 0) rfl
theorem zg_2_127 : Zgo d 2 127 L st S Q ↔ (Zgo d 2 130 L (zq (some (3, S.2.2.1 3)) :: st) (S.1, S.2.1, va_up S.2.2.1 3 (S.2.2.1 3 + 1), S.2.2.2.1 + 1, S.2.2.2.2.1 + 5, S.2.2.2.2.2) Q) := Zgo_iff (i := .new 35) (len := 3) (a := 3) (b := 5) (c := 0) (p := 1111) rfl
theorem zg_2_130 : Zgo d 2 130 L st S Q ↔ (zp1 st False fun v t => Zgo d 2 131 L (v :: v :: t) S Q) := Zgo_iff (i := .dup) (len := 1) (a := 0) (b := 0) (c := 0) (p := 0) rfl
theorem zg_2_131 : Zgo d 2 131 L st S Q ↔ (zinv 1 st False fun as t => zrec as 3 False (zCp d 6 as S fun r S2 => Zgo d 2 134 L (r.toList ++ t) S2 Q)) := Zgo_iff (i := .invokespecial 48) (len := 3) (a := 6) (b := 1) (c := 3) (p := 1176) rfl
theorem zg_2_134 : Zgo d 2 134 L st S Q ↔ (zpa st False fun v t => zpi t False fun j t => zpa t False fun r t => znn r False fun q o => zop (zArr q) False fun n => if n.1 = 3 then zix j n.2 False fun x => zde v (zArT q) False fun u => Zgo d 2 135 L t (S.1, zsR S.2.1 q o x (some (zArT q, u)), S.2.2) Q else False) := Zgo_iff (i := .aastore) (len := 1) (a := 0) (b := 0) (c := 0) (p := 0) rfl
theorem zg_2_135 : Zgo d 2 135 L st S Q ↔ (zldi L 1 False fun x => Zgo d 2 138 (zst L 1 (some (zi (x + 1)))) st S Q) := Zgo_iff (i := .iinc 1 1) (len := 3) (a := 0) (b := 0) (c := 0) (p := 0) rfl
theorem zg_2_138 : Zgo d 2 138 L st S Q ↔ (Zgo d 2 116 L st S Q) := Zgo_iff (i := .goto (-22)) (len := 3) (a := 0) (b := 0) (c := 0) (p := 0) rfl
theorem zg_2_141 : Zgo d 2 141 L st S Q ↔ (Zgo d 2 142 L (zi 0 :: st) S Q) := Zgo_iff (i := .iconst 0) (len := 1) (a := 0) (b := 0) (c := 0) (p := 0) rfl
theorem zg_2_142 : Zgo d 2 142 L st S Q ↔ (zpi st False fun x t => Zgo d 2 143 (zst L 1 (some (zi x))) t S Q) := Zgo_iff (i := .istore_n 1) (len := 1) (a := 0) (b := 0) (c := 0) (p := 0) rfl
theorem zg_2_143 : Zgo d 2 143 L st S Q ↔ (zldi L 1 False fun x => Zgo d 2 144 L (zi x :: st) S Q) := Zgo_iff (i := .iload_n 1) (len := 1) (a := 0) (b := 0) (c := 0) (p := 0) rfl
theorem zg_2_144 : Zgo d 2 144 L st S Q ↔ (Zgo d 2 146 L (zi 32 :: st) S Q) := Zgo_iff (i := .bipush 32) (len := 2) (a := 0) (b := 0) (c := 0) (p := 0) rfl
theorem zg_2_146 : Zgo d 2 146 L st S Q ↔ (zpi st False fun y t => zpi t False fun x t => if zw x < zw y then Zgo d 2 149 L t S Q else Zgo d 2 168 L t S Q) := Zgo_iff (i := .if_icmp .ge 22) (len := 3) (a := 0) (b := 0) (c := 0) (p := 0) rfl
theorem zg_2_149 : Zgo d 2 149 L st S Q ↔ (zlda L 0 False fun r => Zgo d 2 150 L (zq r :: st) S Q) := Zgo_iff (i := .aload_n 0) (len := 1) (a := 0) (b := 0) (c := 0) (p := 0) rfl
theorem zg_2_150 : Zgo d 2 150 L st S Q ↔ (zpa st False fun r t => zde r 7 False fun o => Zgo d 2 153 L (zq (S.2.1 7 o 8) :: t) S Q) := Zgo_iff (i := .getfield 43) (len := 3) (a := 7) (b := 8) (c := 3) (p := 2010) rfl
theorem zg_2_153 : Zgo d 2 153 L st S Q ↔ (zldi L 1 False fun x => Zgo d 2 154 L (zi x :: st) S Q) := Zgo_iff (i := .iload_n 1) (len := 1) (a := 0) (b := 0) (c := 0) (p := 0) rfl
theorem zg_2_154 : Zgo d 2 154 L st S Q ↔ (Zgo d 2 157 L (zq (some (5, S.2.2.1 5)) :: st) (S.1, S.2.1, va_up S.2.2.1 5 (S.2.2.1 5 + 1), S.2.2.2.1 + 1, S.2.2.2.2.1 + 4, S.2.2.2.2.2) Q) := Zgo_iff (i := .new 41) (len := 3) (a := 5) (b := 4) (c := 0) (p := 1113) rfl
theorem zg_2_157 : Zgo d 2 157 L st S Q ↔ (zp1 st False fun v t => Zgo d 2 158 L (v :: v :: t) S Q) := Zgo_iff (i := .dup) (len := 1) (a := 0) (b := 0) (c := 0) (p := 0) rfl
theorem zg_2_158 : Zgo d 2 158 L st S Q ↔ (zinv 1 st False fun as t => zrec as 5 False (zCp d 7 as S fun r S2 => Zgo d 2 161 L (r.toList ++ t) S2 Q)) := Zgo_iff (i := .invokespecial 49) (len := 3) (a := 7) (b := 1) (c := 3) (p := 1205) rfl
theorem zg_2_161 : Zgo d 2 161 L st S Q ↔ (zpa st False fun v t => zpi t False fun j t => zpa t False fun r t => znn r False fun q o => zop (zArr q) False fun n => if n.1 = 3 then zix j n.2 False fun x => zde v (zArT q) False fun u => Zgo d 2 162 L t (S.1, zsR S.2.1 q o x (some (zArT q, u)), S.2.2) Q else False) := Zgo_iff (i := .aastore) (len := 1) (a := 0) (b := 0) (c := 0) (p := 0) rfl
theorem zg_2_162 : Zgo d 2 162 L st S Q ↔ (zldi L 1 False fun x => Zgo d 2 165 (zst L 1 (some (zi (x + 1)))) st S Q) := Zgo_iff (i := .iinc 1 1) (len := 3) (a := 0) (b := 0) (c := 0) (p := 0) rfl
theorem zg_2_165 : Zgo d 2 165 L st S Q ↔ (Zgo d 2 143 L st S Q) := Zgo_iff (i := .goto (-22)) (len := 3) (a := 0) (b := 0) (c := 0) (p := 0) rfl
theorem zg_2_168 : Zgo d 2 168 L st S Q ↔ (zem st False (Q none S)) := Zgo_iff (i := .return_) (len := 1) (a := 0) (b := 0) (c := 0) (p := 0) rfl
/-- LeavingMachine$Procedure.<init>()V -/
theorem zg_3_0 : Zgo d 3 0 L st S Q ↔ (zlda L 0 False fun r => Zgo d 3 1 L (zq r :: st) S Q) := Zgo_iff (i := .aload_n 0) (len := 1) (a := 0) (b := 0) (c := 0) (p := 0) rfl
theorem zg_3_1 : Zgo d 3 1 L st S Q ↔ (zinv 1 st False fun as t => zCp d 905 as S fun _ S2 => Zgo d 3 4 L t S2 Q) := Zgo_iff (i := .invokespecial 1) (len := 3) (a := 0) (b := 1) (c := 4) (p := 1064) rfl
theorem zg_3_4 : Zgo d 3 4 L st S Q ↔ (zem st False (Q none S)) := Zgo_iff (i := .return_) (len := 1) (a := 0) (b := 0) (c := 0) (p := 0) rfl
/-- LeavingMachine$Expressions.<init>()V -/
theorem zg_4_0 : Zgo d 4 0 L st S Q ↔ (zlda L 0 False fun r => Zgo d 4 1 L (zq r :: st) S Q) := Zgo_iff (i := .aload_n 0) (len := 1) (a := 0) (b := 0) (c := 0) (p := 0) rfl
theorem zg_4_1 : Zgo d 4 1 L st S Q ↔ (zinv 1 st False fun as t => zCp d 905 as S fun _ S2 => Zgo d 4 4 L t S2 Q) := Zgo_iff (i := .invokespecial 3) (len := 3) (a := 0) (b := 1) (c := 4) (p := 1090) rfl
theorem zg_4_4 : Zgo d 4 4 L st S Q ↔ (zlda L 0 False fun r => Zgo d 4 5 L (zq r :: st) S Q) := Zgo_iff (i := .aload_n 0) (len := 1) (a := 0) (b := 0) (c := 0) (p := 0) rfl
theorem zg_4_5 : Zgo d 4 5 L st S Q ↔ (Zgo d 4 8 L (zi 160 :: st) S Q) := Zgo_iff (i := .sipush 160) (len := 3) (a := 0) (b := 0) (c := 0) (p := 0) rfl
theorem zg_4_8 : Zgo d 4 8 L st S Q ↔ (zpi st False fun n t => if n = (160 : Nat) ∧ S.2.2.1 25 = 0 then Zgo d 4 10 L (zq (some (25, 0)) :: t) (S.1, S.2.1, va_up S.2.2.1 25 1, S.2.2.2.1 + 1, S.2.2.2.2.1 + 160, S.2.2.2.2.2) Q else False) := Zgo_iff (i := .newarray .char) (len := 2) (a := 25) (b := 160) (c := 2) (p := 0) rfl
theorem zg_4_10 : Zgo d 4 10 L st S Q ↔ (zpa st False fun v t => zpa t False fun r t => zde r 6 False fun o => Zgo d 4 13 L t (S.1, zsR S.2.1 6 o 0 v, S.2.2) Q) := Zgo_iff (i := .putfield 9) (len := 3) (a := 6) (b := 0) (c := 3) (p := 1091) rfl
theorem zg_4_13 : Zgo d 4 13 L st S Q ↔ (zlda L 0 False fun r => Zgo d 4 14 L (zq r :: st) S Q) := Zgo_iff (i := .aload_n 0) (len := 1) (a := 0) (b := 0) (c := 0) (p := 0) rfl
theorem zg_4_14 : Zgo d 4 14 L st S Q ↔ (Zgo d 4 17 L (zi 160 :: st) S Q) := Zgo_iff (i := .sipush 160) (len := 3) (a := 0) (b := 0) (c := 0) (p := 0) rfl
theorem zg_4_17 : Zgo d 4 17 L st S Q ↔ (zpi st False fun n t => if n = (160 : Nat) ∧ S.2.2.1 26 = 0 then Zgo d 4 19 L (zq (some (26, 0)) :: t) (S.1, S.2.1, va_up S.2.2.1 26 1, S.2.2.2.1 + 1, S.2.2.2.2.1 + 160, S.2.2.2.2.2) Q else False) := Zgo_iff (i := .newarray .int) (len := 2) (a := 26) (b := 160) (c := 0) (p := 0) rfl
theorem zg_4_19 : Zgo d 4 19 L st S Q ↔ (zpa st False fun v t => zpa t False fun r t => zde r 6 False fun o => Zgo d 4 22 L t (S.1, zsR S.2.1 6 o 1 v, S.2.2) Q) := Zgo_iff (i := .putfield 15) (len := 3) (a := 6) (b := 1) (c := 3) (p := 1092) rfl
theorem zg_4_22 : Zgo d 4 22 L st S Q ↔ (zlda L 0 False fun r => Zgo d 4 23 L (zq r :: st) S Q) := Zgo_iff (i := .aload_n 0) (len := 1) (a := 0) (b := 0) (c := 0) (p := 0) rfl
theorem zg_4_23 : Zgo d 4 23 L st S Q ↔ (Zgo d 4 24 L (zi 5 :: st) S Q) := Zgo_iff (i := .iconst 5) (len := 1) (a := 0) (b := 0) (c := 0) (p := 0) rfl
theorem zg_4_24 : Zgo d 4 24 L st S Q ↔ (zpi st False fun n t => if n = (5 : Nat) ∧ S.2.2.1 27 = 0 then Zgo d 4 26 L (zq (some (27, 0)) :: t) (S.1, S.2.1, va_up S.2.2.1 27 1, S.2.2.2.1 + 1, S.2.2.2.2.1 + 5, S.2.2.2.2.2) Q else False) := Zgo_iff (i := .newarray .int) (len := 2) (a := 27) (b := 5) (c := 0) (p := 0) rfl
theorem zg_4_26 : Zgo d 4 26 L st S Q ↔ (zpa st False fun v t => zpa t False fun r t => zde r 6 False fun o => Zgo d 4 29 L t (S.1, zsR S.2.1 6 o 4 v, S.2.2) Q) := Zgo_iff (i := .putfield 19) (len := 3) (a := 6) (b := 4) (c := 3) (p := 1098) rfl
theorem zg_4_29 : Zgo d 4 29 L st S Q ↔ (zem st False (Q none S)) := Zgo_iff (i := .return_) (len := 1) (a := 0) (b := 0) (c := 0) (p := 0) rfl
/-- LeavingMachine$Statement.<init>()V -/
theorem zg_5_0 : Zgo d 5 0 L st S Q ↔ (zlda L 0 False fun r => Zgo d 5 1 L (zq r :: st) S Q) := Zgo_iff (i := .aload_n 0) (len := 1) (a := 0) (b := 0) (c := 0) (p := 0) rfl
theorem zg_5_1 : Zgo d 5 1 L st S Q ↔ (zinv 1 st False fun as t => zCp d 905 as S fun _ S2 => Zgo d 5 4 L t S2 Q) := Zgo_iff (i := .invokespecial 1) (len := 3) (a := 0) (b := 1) (c := 4) (p := 1119) rfl
theorem zg_5_4 : Zgo d 5 4 L st S Q ↔ (zem st False (Q none S)) := Zgo_iff (i := .return_) (len := 1) (a := 0) (b := 0) (c := 0) (p := 0) rfl
/-- LeavingMachine$Block.<init>()V -/
theorem zg_6_0 : Zgo d 6 0 L st S Q ↔ (zlda L 0 False fun r => Zgo d 6 1 L (zq r :: st) S Q) := Zgo_iff (i := .aload_n 0) (len := 1) (a := 0) (b := 0) (c := 0) (p := 0) rfl
theorem zg_6_1 : Zgo d 6 1 L st S Q ↔ (zinv 1 st False fun as t => zCp d 905 as S fun _ S2 => Zgo d 6 4 L t S2 Q) := Zgo_iff (i := .invokespecial 1) (len := 3) (a := 0) (b := 1) (c := 4) (p := 1179) rfl
theorem zg_6_4 : Zgo d 6 4 L st S Q ↔ (zem st False (Q none S)) := Zgo_iff (i := .return_) (len := 1) (a := 0) (b := 0) (c := 0) (p := 0) rfl
/-- LeavingMachine$Catch.<init>()V -/
theorem zg_7_0 : Zgo d 7 0 L st S Q ↔ (zlda L 0 False fun r => Zgo d 7 1 L (zq r :: st) S Q) := Zgo_iff (i := .aload_n 0) (len := 1) (a := 0) (b := 0) (c := 0) (p := 0) rfl
theorem zg_7_1 : Zgo d 7 1 L st S Q ↔ (zinv 1 st False fun as t => zCp d 905 as S fun _ S2 => Zgo d 7 4 L t S2 Q) := Zgo_iff (i := .invokespecial 1) (len := 3) (a := 0) (b := 1) (c := 4) (p := 1208) rfl
theorem zg_7_4 : Zgo d 7 4 L st S Q ↔ (zem st False (Q none S)) := Zgo_iff (i := .return_) (len := 1) (a := 0) (b := 0) (c := 0) (p := 0) rfl
/-- LeavingMachine$Reader.<init>(LLeavingMachine$Text;LLeavingMachine$Program;)V -/
theorem zg_8_0 : Zgo d 8 0 L st S Q ↔ (zlda L 0 False fun r => Zgo d 8 1 L (zq r :: st) S Q) := Zgo_iff (i := .aload_n 0) (len := 1) (a := 0) (b := 0) (c := 0) (p := 0) rfl
theorem zg_8_1 : Zgo d 8 1 L st S Q ↔ (zinv 1 st False fun as t => zCp d 905 as S fun _ S2 => Zgo d 8 4 L t S2 Q) := Zgo_iff (i := .invokespecial 3) (len := 3) (a := 0) (b := 1) (c := 4) (p := 2041) rfl
theorem zg_8_4 : Zgo d 8 4 L st S Q ↔ (zlda L 0 False fun r => Zgo d 8 5 L (zq r :: st) S Q) := Zgo_iff (i := .aload_n 0) (len := 1) (a := 0) (b := 0) (c := 0) (p := 0) rfl
theorem zg_8_5 : Zgo d 8 5 L st S Q ↔ (zlda L 1 False fun r => Zgo d 8 6 L (zq r :: st) S Q) := Zgo_iff (i := .aload_n 1) (len := 1) (a := 0) (b := 0) (c := 0) (p := 0) rfl
theorem zg_8_6 : Zgo d 8 6 L st S Q ↔ (zpa st False fun v t => zpa t False fun r t => zde r 8 False fun o => Zgo d 8 9 L t (S.1, zsR S.2.1 8 o 0 v, S.2.2) Q) := Zgo_iff (i := .putfield 9) (len := 3) (a := 8) (b := 0) (c := 3) (p := 2042) rfl
theorem zg_8_9 : Zgo d 8 9 L st S Q ↔ (zlda L 0 False fun r => Zgo d 8 10 L (zq r :: st) S Q) := Zgo_iff (i := .aload_n 0) (len := 1) (a := 0) (b := 0) (c := 0) (p := 0) rfl
theorem zg_8_10 : Zgo d 8 10 L st S Q ↔ (zlda L 2 False fun r => Zgo d 8 11 L (zq r :: st) S Q) := Zgo_iff (i := .aload_n 2) (len := 1) (a := 0) (b := 0) (c := 0) (p := 0) rfl
theorem zg_8_11 : Zgo d 8 11 L st S Q ↔ (zpa st False fun v t => zpa t False fun r t => zde r 8 False fun o => Zgo d 8 14 L t (S.1, zsR S.2.1 8 o 1 v, S.2.2) Q) := Zgo_iff (i := .putfield 15) (len := 3) (a := 8) (b := 1) (c := 3) (p := 2043) rfl
theorem zg_8_14 : Zgo d 8 14 L st S Q ↔ (zem st False (Q none S)) := Zgo_iff (i := .return_) (len := 1) (a := 0) (b := 0) (c := 0) (p := 0) rfl
/-- LeavingMachine$Checker.<init>(LLeavingMachine$Program;)V -/
theorem zg_9_0 : Zgo d 9 0 L st S Q ↔ (zlda L 0 False fun r => Zgo d 9 1 L (zq r :: st) S Q) := Zgo_iff (i := .aload_n 0) (len := 1) (a := 0) (b := 0) (c := 0) (p := 0) rfl
theorem zg_9_1 : Zgo d 9 1 L st S Q ↔ (zinv 1 st False fun as t => zCp d 905 as S fun _ S2 => Zgo d 9 4 L t S2 Q) := Zgo_iff (i := .invokespecial 3) (len := 3) (a := 0) (b := 1) (c := 4) (p := 2057) rfl
theorem zg_9_4 : Zgo d 9 4 L st S Q ↔ (zlda L 0 False fun r => Zgo d 9 5 L (zq r :: st) S Q) := Zgo_iff (i := .aload_n 0) (len := 1) (a := 0) (b := 0) (c := 0) (p := 0) rfl
theorem zg_9_5 : Zgo d 9 5 L st S Q ↔ (zlda L 1 False fun r => Zgo d 9 6 L (zq r :: st) S Q) := Zgo_iff (i := .aload_n 1) (len := 1) (a := 0) (b := 0) (c := 0) (p := 0) rfl
theorem zg_9_6 : Zgo d 9 6 L st S Q ↔ (zpa st False fun v t => zpa t False fun r t => zde r 9 False fun o => Zgo d 9 9 L t (S.1, zsR S.2.1 9 o 0 v, S.2.2) Q) := Zgo_iff (i := .putfield 9) (len := 3) (a := 9) (b := 0) (c := 3) (p := 2058) rfl
theorem zg_9_9 : Zgo d 9 9 L st S Q ↔ (zem st False (Q none S)) := Zgo_iff (i := .return_) (len := 1) (a := 0) (b := 0) (c := 0) (p := 0) rfl
/-- LeavingMachine$Runner.<init>(LLeavingMachine$Program;)V -/
theorem zg_10_0 : Zgo d 10 0 L st S Q ↔ (zlda L 0 False fun r => Zgo d 10 1 L (zq r :: st) S Q) := Zgo_iff (i := .aload_n 0) (len := 1) (a := 0) (b := 0) (c := 0) (p := 0) rfl
theorem zg_10_1 : Zgo d 10 1 L st S Q ↔ (zinv 1 st False fun as t => zCp d 905 as S fun _ S2 => Zgo d 10 4 L t S2 Q) := Zgo_iff (i := .invokespecial 3) (len := 3) (a := 0) (b := 1) (c := 4) (p := 2070) rfl
theorem zg_10_4 : Zgo d 10 4 L st S Q ↔ (zlda L 0 False fun r => Zgo d 10 5 L (zq r :: st) S Q) := Zgo_iff (i := .aload_n 0) (len := 1) (a := 0) (b := 0) (c := 0) (p := 0) rfl
theorem zg_10_5 : Zgo d 10 5 L st S Q ↔ (Zgo d 10 7 L (zi 8 :: st) S Q) := Zgo_iff (i := .bipush 8) (len := 2) (a := 0) (b := 0) (c := 0) (p := 0) rfl
theorem zg_10_7 : Zgo d 10 7 L st S Q ↔ (zpi st False fun n t => if n = (8 : Nat) ∧ S.2.2.1 28 = 0 then Zgo d 10 9 L (zq (some (28, 0)) :: t) (S.1, S.2.1, va_up S.2.2.1 28 1, S.2.2.2.1 + 1, S.2.2.2.2.1 + 8, S.2.2.2.2.2) Q else False) := Zgo_iff (i := .newarray .int) (len := 2) (a := 28) (b := 8) (c := 0) (p := 0) rfl
theorem zg_10_9 : Zgo d 10 9 L st S Q ↔ (zpa st False fun v t => zpa t False fun r t => zde r 10 False fun o => Zgo d 10 12 L t (S.1, zsR S.2.1 10 o 0 v, S.2.2) Q) := Zgo_iff (i := .putfield 9) (len := 3) (a := 10) (b := 0) (c := 3) (p := 2071) rfl
theorem zg_10_12 : Zgo d 10 12 L st S Q ↔ (zlda L 0 False fun r => Zgo d 10 13 L (zq r :: st) S Q) := Zgo_iff (i := .aload_n 0) (len := 1) (a := 0) (b := 0) (c := 0) (p := 0) rfl
theorem zg_10_13 : Zgo d 10 13 L st S Q ↔ (Zgo d 10 15 L (zi 24 :: st) S Q) := Zgo_iff (i := .bipush 24) (len := 2) (a := 0) (b := 0) (c := 0) (p := 0) rfl
theorem zg_10_15 : Zgo d 10 15 L st S Q ↔ (zpi st False fun n t => if n = (24 : Nat) ∧ S.2.2.1 29 = 0 then Zgo d 10 17 L (zq (some (29, 0)) :: t) (S.1, S.2.1, va_up S.2.2.1 29 1, S.2.2.2.1 + 1, S.2.2.2.2.1 + 24, S.2.2.2.2.2) Q else False) := Zgo_iff (i := .newarray .int) (len := 2) (a := 29) (b := 24) (c := 0) (p := 0) rfl
theorem zg_10_17 : Zgo d 10 17 L st S Q ↔ (zpa st False fun v t => zpa t False fun r t => zde r 10 False fun o => Zgo d 10 20 L t (S.1, zsR S.2.1 10 o 1 v, S.2.2) Q) := Zgo_iff (i := .putfield 15) (len := 3) (a := 10) (b := 1) (c := 3) (p := 2073) rfl
theorem zg_10_20 : Zgo d 10 20 L st S Q ↔ (zlda L 0 False fun r => Zgo d 10 21 L (zq r :: st) S Q) := Zgo_iff (i := .aload_n 0) (len := 1) (a := 0) (b := 0) (c := 0) (p := 0) rfl
theorem zg_10_21 : Zgo d 10 21 L st S Q ↔ (Zgo d 10 22 L (zi (-1) :: st) S Q) := Zgo_iff (i := .iconst (-1)) (len := 1) (a := 0) (b := 0) (c := 0) (p := 0) rfl
theorem zg_10_22 : Zgo d 10 22 L st S Q ↔ (zpi st False fun v t => zpa t False fun r t => zde r 10 False fun o => Zgo d 10 25 L t (zsI S.1 10 o 3 v, S.2) Q) := Zgo_iff (i := .putfield 18) (len := 3) (a := 10) (b := 3) (c := 0) (p := 2077) rfl
theorem zg_10_25 : Zgo d 10 25 L st S Q ↔ (zlda L 0 False fun r => Zgo d 10 26 L (zq r :: st) S Q) := Zgo_iff (i := .aload_n 0) (len := 1) (a := 0) (b := 0) (c := 0) (p := 0) rfl
theorem zg_10_26 : Zgo d 10 26 L st S Q ↔ (zlda L 1 False fun r => Zgo d 10 27 L (zq r :: st) S Q) := Zgo_iff (i := .aload_n 1) (len := 1) (a := 0) (b := 0) (c := 0) (p := 0) rfl
theorem zg_10_27 : Zgo d 10 27 L st S Q ↔ (zpa st False fun v t => zpa t False fun r t => zde r 10 False fun o => Zgo d 10 30 L t (S.1, zsR S.2.1 10 o 9 v, S.2.2) Q) := Zgo_iff (i := .putfield 22) (len := 3) (a := 10) (b := 9) (c := 3) (p := 2089) rfl
theorem zg_10_30 : Zgo d 10 30 L st S Q ↔ (zem st False (Q none S)) := Zgo_iff (i := .return_) (len := 1) (a := 0) (b := 0) (c := 0) (p := 0) rfl
/-- LeavingMachine.type(J)Z -/
theorem zg_11_0 : Zgo d 11 0 L st S Q ↔ (zlda L 0 False fun r => Zgo d 11 1 L (zq r :: st) S Q) := Zgo_iff (i := .aload_n 0) (len := 1) (a := 0) (b := 0) (c := 0) (p := 0) rfl
theorem zg_11_1 : Zgo d 11 1 L st S Q ↔ (zpa st False fun r t => zde r 0 False fun o => Zgo d 11 4 L (zq (S.2.1 0 o 0) :: t) S Q) := Zgo_iff (i := .getfield 12) (len := 3) (a := 0) (b := 0) (c := 3) (p := 2114) rfl
theorem zg_11_4 : Zgo d 11 4 L st S Q ↔ (zldl L 1 False fun x => Zgo d 11 5 L (zl x :: st) S Q) := Zgo_iff (i := .lload_n 1) (len := 1) (a := 0) (b := 0) (c := 0) (p := 0) rfl
theorem zg_11_5 : Zgo d 11 5 L st S Q ↔ (zinv 2 st False fun as t => zrec as 1 False (zCp d 12 as S fun r S2 => Zgo d 11 8 L (r.toList ++ t) S2 Q)) := Zgo_iff (i := .invokevirtual 48) (len := 3) (a := 12) (b := 2) (c := 0) (p := 2134) rfl
theorem zg_11_8 : Zgo d 11 8 L st S Q ↔ (zpi st False fun x t => zem t False (zok 1 x False (Q (some (zi x)) S))) := Zgo_iff (i := .ireturn) (len := 1) (a := 0) (b := 0) (c := 0) (p := 0) rfl
/-- LeavingMachine$Text.add(J)Z -/
theorem zg_12_0 : Zgo d 12 0 L st S Q ↔ (zldl L 1 False fun x => Zgo d 12 1 L (zl x :: st) S Q) := Zgo_iff (i := .lload_n 1) (len := 1) (a := 0) (b := 0) (c := 0) (p := 0) rfl
theorem zg_12_1 : Zgo d 12 1 L st S Q ↔ (zinv 1 st False fun as t => zCp d 13 as S fun r S2 => Zgo d 12 4 L (r.toList ++ t) S2 Q) := Zgo_iff (i := .invokestatic 15) (len := 3) (a := 13) (b := 1) (c := 1) (p := 2138) rfl
theorem zg_12_4 : Zgo d 12 4 L st S Q ↔ (zpi st False fun x t => Zgo d 12 5 (zst L 3 (some (zi x))) t S Q) := Zgo_iff (i := .istore_n 3) (len := 1) (a := 0) (b := 0) (c := 0) (p := 0) rfl
theorem zg_12_5 : Zgo d 12 5 L st S Q ↔ (zldi L 3 False fun x => Zgo d 12 6 L (zi x :: st) S Q) := Zgo_iff (i := .iload_n 3) (len := 1) (a := 0) (b := 0) (c := 0) (p := 0) rfl
theorem zg_12_6 : Zgo d 12 6 L st S Q ↔ (Zgo d 12 7 L (zi (-1) :: st) S Q) := Zgo_iff (i := .iconst (-1)) (len := 1) (a := 0) (b := 0) (c := 0) (p := 0) rfl
theorem zg_12_7 : Zgo d 12 7 L st S Q ↔ (zpi st False fun y t => zpi t False fun x t => if zw x = zw y then Zgo d 12 22 L t S Q else Zgo d 12 10 L t S Q) := Zgo_iff (i := .if_icmp .eq 15) (len := 3) (a := 0) (b := 0) (c := 0) (p := 0) rfl
theorem zg_12_10 : Zgo d 12 10 L st S Q ↔ (zlda L 0 False fun r => Zgo d 12 11 L (zq r :: st) S Q) := Zgo_iff (i := .aload_n 0) (len := 1) (a := 0) (b := 0) (c := 0) (p := 0) rfl
theorem zg_12_11 : Zgo d 12 11 L st S Q ↔ (zpa st False fun r t => zde r 1 False fun o => Zgo d 12 14 L (zi (S.1 1 o 1) :: t) S Q) := Zgo_iff (i := .getfield 19) (len := 3) (a := 1) (b := 1) (c := 0) (p := 1043) rfl
theorem zg_12_14 : Zgo d 12 14 L st S Q ↔ (zldi L 3 False fun x => Zgo d 12 15 L (zi x :: st) S Q) := Zgo_iff (i := .iload_n 3) (len := 1) (a := 0) (b := 0) (c := 0) (p := 0) rfl
theorem zg_12_15 : Zgo d 12 15 L st S Q ↔ (zpi st False fun y t => zpi t False fun x t => Zgo d 12 16 L (zi (x + y) :: t) S Q) := Zgo_iff (i := .iadd) (len := 1) (a := 0) (b := 0) (c := 0) (p := 0) rfl
theorem zg_12_16 : Zgo d 12 16 L st S Q ↔ (Zgo d 12 19 L (zi 160 :: st) S Q) := Zgo_iff (i := .sipush 160) (len := 3) (a := 0) (b := 0) (c := 0) (p := 0) rfl
theorem zg_12_19 : Zgo d 12 19 L st S Q ↔ (zpi st False fun y t => zpi t False fun x t => if zw y < zw x then Zgo d 12 22 L t S Q else Zgo d 12 24 L t S Q) := Zgo_iff (i := .if_icmp .le 5) (len := 3) (a := 0) (b := 0) (c := 0) (p := 0) rfl
theorem zg_12_22 : Zgo d 12 22 L st S Q ↔ (Zgo d 12 23 L (zi 0 :: st) S Q) := Zgo_iff (i := .iconst 0) (len := 1) (a := 0) (b := 0) (c := 0) (p := 0) rfl
theorem zg_12_23 : Zgo d 12 23 L st S Q ↔ (zpi st False fun x t => zem t False (zok 1 x False (Q (some (zi x)) S))) := Zgo_iff (i := .ireturn) (len := 1) (a := 0) (b := 0) (c := 0) (p := 0) rfl
theorem zg_12_24 : Zgo d 12 24 L st S Q ↔ (Zgo d 12 26 L (zi 56 :: st) S Q) := Zgo_iff (i := .bipush 56) (len := 2) (a := 0) (b := 0) (c := 0) (p := 0) rfl
theorem zg_12_26 : Zgo d 12 26 L st S Q ↔ (zpi st False fun x t => Zgo d 12 28 (zst L 4 (some (zi x))) t S Q) := Zgo_iff (i := .istore 4) (len := 2) (a := 0) (b := 0) (c := 0) (p := 0) rfl
theorem zg_12_28 : Zgo d 12 28 L st S Q ↔ (zldi L 4 False fun x => Zgo d 12 30 L (zi x :: st) S Q) := Zgo_iff (i := .iload 4) (len := 2) (a := 0) (b := 0) (c := 0) (p := 0) rfl
theorem zg_12_30 : Zgo d 12 30 L st S Q ↔ (zpi st False fun x t => if zw x < zw 0 then Zgo d 12 71 L t S Q else Zgo d 12 33 L t S Q) := Zgo_iff (i := .ifCond .lt 41) (len := 3) (a := 0) (b := 0) (c := 0) (p := 0) rfl
theorem zg_12_33 : Zgo d 12 33 L st S Q ↔ (zldl L 1 False fun x => Zgo d 12 34 L (zl x :: st) S Q) := Zgo_iff (i := .lload_n 1) (len := 1) (a := 0) (b := 0) (c := 0) (p := 0) rfl
theorem zg_12_34 : Zgo d 12 34 L st S Q ↔ (zldi L 4 False fun x => Zgo d 12 36 L (zi x :: st) S Q) := Zgo_iff (i := .iload 4) (len := 2) (a := 0) (b := 0) (c := 0) (p := 0) rfl
theorem zg_12_36 : Zgo d 12 36 L st S Q ↔ (zinv 2 st False fun as t => zCp d 14 as S fun r S2 => Zgo d 12 39 L (r.toList ++ t) S2 Q) := Zgo_iff (i := .invokestatic 23) (len := 3) (a := 14) (b := 2) (c := 1) (p := 2141) rfl
theorem zg_12_39 : Zgo d 12 39 L st S Q ↔ (zpi st False fun x t => Zgo d 12 41 (zst L 5 (some (zi x))) t S Q) := Zgo_iff (i := .istore 5) (len := 2) (a := 0) (b := 0) (c := 0) (p := 0) rfl
theorem zg_12_41 : Zgo d 12 41 L st S Q ↔ (zldi L 5 False fun x => Zgo d 12 43 L (zi x :: st) S Q) := Zgo_iff (i := .iload 5) (len := 2) (a := 0) (b := 0) (c := 0) (p := 0) rfl
theorem zg_12_43 : Zgo d 12 43 L st S Q ↔ (zpi st False fun x t => if zw x = zw 0 then Zgo d 12 65 L t S Q else Zgo d 12 46 L t S Q) := Zgo_iff (i := .ifCond .eq 22) (len := 3) (a := 0) (b := 0) (c := 0) (p := 0) rfl
theorem zg_12_46 : Zgo d 12 46 L st S Q ↔ (zlda L 0 False fun r => Zgo d 12 47 L (zq r :: st) S Q) := Zgo_iff (i := .aload_n 0) (len := 1) (a := 0) (b := 0) (c := 0) (p := 0) rfl
theorem zg_12_47 : Zgo d 12 47 L st S Q ↔ (zpa st False fun r t => zde r 1 False fun o => Zgo d 12 50 L (zq (S.2.1 1 o 0) :: t) S Q) := Zgo_iff (i := .getfield 9) (len := 3) (a := 1) (b := 0) (c := 3) (p := 1041) rfl
theorem zg_12_50 : Zgo d 12 50 L st S Q ↔ (zlda L 0 False fun r => Zgo d 12 51 L (zq r :: st) S Q) := Zgo_iff (i := .aload_n 0) (len := 1) (a := 0) (b := 0) (c := 0) (p := 0) rfl
theorem zg_12_51 : Zgo d 12 51 L st S Q ↔ (zp1 st False fun v t => Zgo d 12 52 L (v :: v :: t) S Q) := Zgo_iff (i := .dup) (len := 1) (a := 0) (b := 0) (c := 0) (p := 0) rfl
theorem zg_12_52 : Zgo d 12 52 L st S Q ↔ (zpa st False fun r t => zde r 1 False fun o => Zgo d 12 55 L (zi (S.1 1 o 1) :: t) S Q) := Zgo_iff (i := .getfield 19) (len := 3) (a := 1) (b := 1) (c := 0) (p := 1043) rfl
theorem zg_12_55 : Zgo d 12 55 L st S Q ↔ (zp1 st False fun v t => zp1 t False fun u t => Zgo d 12 56 L (v :: u :: v :: t) S Q) := Zgo_iff (i := .dup_x1) (len := 1) (a := 0) (b := 0) (c := 0) (p := 0) rfl
theorem zg_12_56 : Zgo d 12 56 L st S Q ↔ (Zgo d 12 57 L (zi 1 :: st) S Q) := Zgo_iff (i := .iconst 1) (len := 1) (a := 0) (b := 0) (c := 0) (p := 0) rfl
theorem zg_12_57 : Zgo d 12 57 L st S Q ↔ (zpi st False fun y t => zpi t False fun x t => Zgo d 12 58 L (zi (x + y) :: t) S Q) := Zgo_iff (i := .iadd) (len := 1) (a := 0) (b := 0) (c := 0) (p := 0) rfl
theorem zg_12_58 : Zgo d 12 58 L st S Q ↔ (zpi st False fun v t => zpa t False fun r t => zde r 1 False fun o => Zgo d 12 61 L t (zsI S.1 1 o 1 v, S.2) Q) := Zgo_iff (i := .putfield 19) (len := 3) (a := 1) (b := 1) (c := 0) (p := 1043) rfl
theorem zg_12_61 : Zgo d 12 61 L st S Q ↔ (zldi L 5 False fun x => Zgo d 12 63 L (zi x :: st) S Q) := Zgo_iff (i := .iload 5) (len := 2) (a := 0) (b := 0) (c := 0) (p := 0) rfl
theorem zg_12_63 : Zgo d 12 63 L st S Q ↔ (zpi st False fun x t => Zgo d 12 64 L (zi (x % 65536) :: t) S Q) := Zgo_iff (i := .i2c) (len := 1) (a := 0) (b := 0) (c := 0) (p := 0) rfl
theorem zg_12_64 : Zgo d 12 64 L st S Q ↔ (zpi st False fun v t => zpi t False fun j t => zpa t False fun r t => znn r False fun q o => zop (zArr q) False fun n => if n.1 = 2 then zix j n.2 False fun x => Zgo d 12 65 L t (zsI S.1 q o x (v % 65536), S.2) Q else False) := Zgo_iff (i := .castore) (len := 1) (a := 0) (b := 0) (c := 0) (p := 0) rfl
theorem zg_12_65 : Zgo d 12 65 L st S Q ↔ (zldi L 4 False fun x => Zgo d 12 68 (zst L 4 (some (zi (x + (-8))))) st S Q) := Zgo_iff (i := .iinc 4 (-8)) (len := 3) (a := 0) (b := 0) (c := 0) (p := 0) rfl
theorem zg_12_68 : Zgo d 12 68 L st S Q ↔ (Zgo d 12 28 L st S Q) := Zgo_iff (i := .goto (-40)) (len := 3) (a := 0) (b := 0) (c := 0) (p := 0) rfl
theorem zg_12_71 : Zgo d 12 71 L st S Q ↔ (Zgo d 12 72 L (zi 1 :: st) S Q) := Zgo_iff (i := .iconst 1) (len := 1) (a := 0) (b := 0) (c := 0) (p := 0) rfl
theorem zg_12_72 : Zgo d 12 72 L st S Q ↔ (zpi st False fun x t => zem t False (zok 1 x False (Q (some (zi x)) S))) := Zgo_iff (i := .ireturn) (len := 1) (a := 0) (b := 0) (c := 0) (p := 0) rfl
/-- LeavingMachine$Text.countCharacters(J)I -/
theorem zg_13_0 : Zgo d 13 0 L st S Q ↔ (Zgo d 13 1 L (zi 0 :: st) S Q) := Zgo_iff (i := .iconst 0) (len := 1) (a := 0) (b := 0) (c := 0) (p := 0) rfl
theorem zg_13_1 : Zgo d 13 1 L st S Q ↔ (zpi st False fun x t => Zgo d 13 2 (zst L 2 (some (zi x))) t S Q) := Zgo_iff (i := .istore_n 2) (len := 1) (a := 0) (b := 0) (c := 0) (p := 0) rfl
theorem zg_13_2 : Zgo d 13 2 L st S Q ↔ (Zgo d 13 4 L (zi 56 :: st) S Q) := Zgo_iff (i := .bipush 56) (len := 2) (a := 0) (b := 0) (c := 0) (p := 0) rfl
theorem zg_13_4 : Zgo d 13 4 L st S Q ↔ (zpi st False fun x t => Zgo d 13 5 (zst L 3 (some (zi x))) t S Q) := Zgo_iff (i := .istore_n 3) (len := 1) (a := 0) (b := 0) (c := 0) (p := 0) rfl
theorem zg_13_5 : Zgo d 13 5 L st S Q ↔ (zldi L 3 False fun x => Zgo d 13 6 L (zi x :: st) S Q) := Zgo_iff (i := .iload_n 3) (len := 1) (a := 0) (b := 0) (c := 0) (p := 0) rfl
theorem zg_13_6 : Zgo d 13 6 L st S Q ↔ (zpi st False fun x t => if zw x < zw 0 then Zgo d 13 49 L t S Q else Zgo d 13 9 L t S Q) := Zgo_iff (i := .ifCond .lt 43) (len := 3) (a := 0) (b := 0) (c := 0) (p := 0) rfl
theorem zg_13_9 : Zgo d 13 9 L st S Q ↔ (zldl L 0 False fun x => Zgo d 13 10 L (zl x :: st) S Q) := Zgo_iff (i := .lload_n 0) (len := 1) (a := 0) (b := 0) (c := 0) (p := 0) rfl
theorem zg_13_10 : Zgo d 13 10 L st S Q ↔ (zldi L 3 False fun x => Zgo d 13 11 L (zi x :: st) S Q) := Zgo_iff (i := .iload_n 3) (len := 1) (a := 0) (b := 0) (c := 0) (p := 0) rfl
theorem zg_13_11 : Zgo d 13 11 L st S Q ↔ (zinv 2 st False fun as t => zCp d 14 as S fun r S2 => Zgo d 13 14 L (r.toList ++ t) S2 Q) := Zgo_iff (i := .invokestatic 23) (len := 3) (a := 14) (b := 2) (c := 1) (p := 2141) rfl
theorem zg_13_14 : Zgo d 13 14 L st S Q ↔ (zpi st False fun x t => Zgo d 13 16 (zst L 4 (some (zi x))) t S Q) := Zgo_iff (i := .istore 4) (len := 2) (a := 0) (b := 0) (c := 0) (p := 0) rfl
theorem zg_13_16 : Zgo d 13 16 L st S Q ↔ (zldi L 4 False fun x => Zgo d 13 18 L (zi x :: st) S Q) := Zgo_iff (i := .iload 4) (len := 2) (a := 0) (b := 0) (c := 0) (p := 0) rfl
theorem zg_13_18 : Zgo d 13 18 L st S Q ↔ (zpi st False fun x t => if zw x = zw 0 then Zgo d 13 21 L t S Q else Zgo d 13 24 L t S Q) := Zgo_iff (i := .ifCond .ne 6) (len := 3) (a := 0) (b := 0) (c := 0) (p := 0) rfl
theorem zg_13_21 : Zgo d 13 21 L st S Q ↔ (Zgo d 13 43 L st S Q) := Zgo_iff (i := .goto 22) (len := 3) (a := 0) (b := 0) (c := 0) (p := 0) rfl
theorem zg_13_24 : Zgo d 13 24 L st S Q ↔ (zldi L 4 False fun x => Zgo d 13 26 L (zi x :: st) S Q) := Zgo_iff (i := .iload 4) (len := 2) (a := 0) (b := 0) (c := 0) (p := 0) rfl
theorem zg_13_26 : Zgo d 13 26 L st S Q ↔ (Zgo d 13 28 L (zi 33 :: st) S Q) := Zgo_iff (i := .bipush 33) (len := 2) (a := 0) (b := 0) (c := 0) (p := 0) rfl
theorem zg_13_28 : Zgo d 13 28 L st S Q ↔ (zpi st False fun y t => zpi t False fun x t => if zw x < zw y then Zgo d 13 38 L t S Q else Zgo d 13 31 L t S Q) := Zgo_iff (i := .if_icmp .lt 10) (len := 3) (a := 0) (b := 0) (c := 0) (p := 0) rfl
theorem zg_13_31 : Zgo d 13 31 L st S Q ↔ (zldi L 4 False fun x => Zgo d 13 33 L (zi x :: st) S Q) := Zgo_iff (i := .iload 4) (len := 2) (a := 0) (b := 0) (c := 0) (p := 0) rfl
theorem zg_13_33 : Zgo d 13 33 L st S Q ↔ (Zgo d 13 35 L (zi 126 :: st) S Q) := Zgo_iff (i := .bipush 126) (len := 2) (a := 0) (b := 0) (c := 0) (p := 0) rfl
theorem zg_13_35 : Zgo d 13 35 L st S Q ↔ (zpi st False fun y t => zpi t False fun x t => if zw y < zw x then Zgo d 13 38 L t S Q else Zgo d 13 40 L t S Q) := Zgo_iff (i := .if_icmp .le 5) (len := 3) (a := 0) (b := 0) (c := 0) (p := 0) rfl
theorem zg_13_38 : Zgo d 13 38 L st S Q ↔ (Zgo d 13 39 L (zi (-1) :: st) S Q) := Zgo_iff (i := .iconst (-1)) (len := 1) (a := 0) (b := 0) (c := 0) (p := 0) rfl
theorem zg_13_39 : Zgo d 13 39 L st S Q ↔ (zpi st False fun x t => zem t False (Q (some (zi x)) S)) := Zgo_iff (i := .ireturn) (len := 1) (a := 0) (b := 0) (c := 0) (p := 0) rfl
theorem zg_13_40 : Zgo d 13 40 L st S Q ↔ (zldi L 2 False fun x => Zgo d 13 43 (zst L 2 (some (zi (x + 1)))) st S Q) := Zgo_iff (i := .iinc 2 1) (len := 3) (a := 0) (b := 0) (c := 0) (p := 0) rfl
theorem zg_13_43 : Zgo d 13 43 L st S Q ↔ (zldi L 3 False fun x => Zgo d 13 46 (zst L 3 (some (zi (x + (-8))))) st S Q) := Zgo_iff (i := .iinc 3 (-8)) (len := 3) (a := 0) (b := 0) (c := 0) (p := 0) rfl
theorem zg_13_46 : Zgo d 13 46 L st S Q ↔ (Zgo d 13 5 L st S Q) := Zgo_iff (i := .goto (-41)) (len := 3) (a := 0) (b := 0) (c := 0) (p := 0) rfl
theorem zg_13_49 : Zgo d 13 49 L st S Q ↔ (zldi L 2 False fun x => Zgo d 13 50 L (zi x :: st) S Q) := Zgo_iff (i := .iload_n 2) (len := 1) (a := 0) (b := 0) (c := 0) (p := 0) rfl
theorem zg_13_50 : Zgo d 13 50 L st S Q ↔ (zpi st False fun x t => zem t False (Q (some (zi x)) S)) := Zgo_iff (i := .ireturn) (len := 1) (a := 0) (b := 0) (c := 0) (p := 0) rfl
/-- LeavingMachine$Text.byteAt(JI)I -/
theorem zg_14_0 : Zgo d 14 0 L st S Q ↔ (zldl L 0 False fun x => Zgo d 14 1 L (zl x :: st) S Q) := Zgo_iff (i := .lload_n 0) (len := 1) (a := 0) (b := 0) (c := 0) (p := 0) rfl
theorem zg_14_1 : Zgo d 14 1 L st S Q ↔ (zldi L 2 False fun x => Zgo d 14 2 L (zi x :: st) S Q) := Zgo_iff (i := .iload_n 2) (len := 1) (a := 0) (b := 0) (c := 0) (p := 0) rfl
theorem zg_14_2 : Zgo d 14 2 L st S Q ↔ (zpi st False fun y t => zpl t False fun x t => Zgo d 14 3 L (zl (zlushr x y) :: t) S Q) := Zgo_iff (i := .lushr) (len := 1) (a := 0) (b := 0) (c := 0) (p := 0) rfl
theorem zg_14_3 : Zgo d 14 3 L st S Q ↔ (zpl st False fun x t => Zgo d 14 4 L (zi x :: t) S Q) := Zgo_iff (i := .l2i) (len := 1) (a := 0) (b := 0) (c := 0) (p := 0) rfl
theorem zg_14_4 : Zgo d 14 4 L st S Q ↔ (Zgo d 14 7 L (zi 255 :: st) S Q) := Zgo_iff (i := .sipush 255) (len := 3) (a := 0) (b := 0) (c := 0) (p := 0) rfl
theorem zg_14_7 : Zgo d 14 7 L st S Q ↔ (zpi st False fun y t => zpi t False fun x t => Zgo d 14 8 L (zi (zand x y) :: t) S Q) := Zgo_iff (i := .iand) (len := 1) (a := 0) (b := 0) (c := 0) (p := 0) rfl
theorem zg_14_8 : Zgo d 14 8 L st S Q ↔ (zpi st False fun x t => zem t False (Q (some (zi x)) S)) := Zgo_iff (i := .ireturn) (len := 1) (a := 0) (b := 0) (c := 0) (p := 0) rfl
/-- LeavingMachine.wipe()V -/
theorem zg_15_0 : Zgo d 15 0 L st S Q ↔ (zlda L 0 False fun r => Zgo d 15 1 L (zq r :: st) S Q) := Zgo_iff (i := .aload_n 0) (len := 1) (a := 0) (b := 0) (c := 0) (p := 0) rfl
theorem zg_15_1 : Zgo d 15 1 L st S Q ↔ (zpa st False fun r t => zde r 0 False fun o => Zgo d 15 4 L (zq (S.2.1 0 o 0) :: t) S Q) := Zgo_iff (i := .getfield 12) (len := 3) (a := 0) (b := 0) (c := 3) (p := 2114) rfl
theorem zg_15_4 : Zgo d 15 4 L st S Q ↔ (Zgo d 15 5 L (zi 0 :: st) S Q) := Zgo_iff (i := .iconst 0) (len := 1) (a := 0) (b := 0) (c := 0) (p := 0) rfl
theorem zg_15_5 : Zgo d 15 5 L st S Q ↔ (zpi st False fun v t => zpa t False fun r t => zde r 1 False fun o => Zgo d 15 8 L t (zsI S.1 1 o 1 v, S.2) Q) := Zgo_iff (i := .putfield 52) (len := 3) (a := 1) (b := 1) (c := 0) (p := 1045) rfl
theorem zg_15_8 : Zgo d 15 8 L st S Q ↔ (zem st False (Q none S)) := Zgo_iff (i := .return_) (len := 1) (a := 0) (b := 0) (c := 0) (p := 0) rfl
/-- LeavingMachine.compile()I -/
theorem zg_16_0 : Zgo d 16 0 L st S Q ↔ (zlda L 0 False fun r => Zgo d 16 1 L (zq r :: st) S Q) := Zgo_iff (i := .aload_n 0) (len := 1) (a := 0) (b := 0) (c := 0) (p := 0) rfl
theorem zg_16_1 : Zgo d 16 1 L st S Q ↔ (zpa st False fun r t => zde r 0 False fun o => Zgo d 16 4 L (zq (S.2.1 0 o 4) :: t) S Q) := Zgo_iff (i := .getfield 44) (len := 3) (a := 0) (b := 4) (c := 3) (p := 2118) rfl
theorem zg_16_4 : Zgo d 16 4 L st S Q ↔ (zinv 1 st False fun as t => zrec as 10 False (zCp d 17 as S fun r S2 => Zgo d 16 7 L (r.toList ++ t) S2 Q)) := Zgo_iff (i := .invokevirtual 56) (len := 3) (a := 17) (b := 1) (c := 0) (p := 2152) rfl
theorem zg_16_7 : Zgo d 16 7 L st S Q ↔ (zlda L 0 False fun r => Zgo d 16 8 L (zq r :: st) S Q) := Zgo_iff (i := .aload_n 0) (len := 1) (a := 0) (b := 0) (c := 0) (p := 0) rfl
theorem zg_16_8 : Zgo d 16 8 L st S Q ↔ (zpa st False fun r t => zde r 0 False fun o => Zgo d 16 11 L (zq (S.2.1 0 o 2) :: t) S Q) := Zgo_iff (i := .getfield 28) (len := 3) (a := 0) (b := 2) (c := 3) (p := 2116) rfl
theorem zg_16_11 : Zgo d 16 11 L st S Q ↔ (zinv 1 st False fun as t => zrec as 8 False (zCp d 18 as S fun r S2 => Zgo d 16 14 L (r.toList ++ t) S2 Q)) := Zgo_iff (i := .invokevirtual 59) (len := 3) (a := 18) (b := 1) (c := 0) (p := 2156) rfl
theorem zg_16_14 : Zgo d 16 14 L st S Q ↔ (zpi st False fun x t => if zw x = zw 0 then Zgo d 16 27 L t S Q else Zgo d 16 17 L t S Q) := Zgo_iff (i := .ifCond .eq 13) (len := 3) (a := 0) (b := 0) (c := 0) (p := 0) rfl
theorem zg_16_17 : Zgo d 16 17 L st S Q ↔ (zlda L 0 False fun r => Zgo d 16 18 L (zq r :: st) S Q) := Zgo_iff (i := .aload_n 0) (len := 1) (a := 0) (b := 0) (c := 0) (p := 0) rfl
theorem zg_16_18 : Zgo d 16 18 L st S Q ↔ (zpa st False fun r t => zde r 0 False fun o => Zgo d 16 21 L (zq (S.2.1 0 o 3) :: t) S Q) := Zgo_iff (i := .getfield 37) (len := 3) (a := 0) (b := 3) (c := 3) (p := 2117) rfl
theorem zg_16_21 : Zgo d 16 21 L st S Q ↔ (zinv 1 st False fun as t => zrec as 9 False (zCp d 43 as S fun r S2 => Zgo d 16 24 L (r.toList ++ t) S2 Q)) := Zgo_iff (i := .invokevirtual 63) (len := 3) (a := 43) (b := 1) (c := 0) (p := 3103) rfl
theorem zg_16_24 : Zgo d 16 24 L st S Q ↔ (Zgo d 16 28 L st S Q) := Zgo_iff (i := .goto 4) (len := 3) (a := 0) (b := 0) (c := 0) (p := 0) rfl
theorem zg_16_27 : Zgo d 16 27 L st S Q ↔ (Zgo d 16 28 L (zi 1 :: st) S Q) := Zgo_iff (i := .iconst 1) (len := 1) (a := 0) (b := 0) (c := 0) (p := 0) rfl
theorem zg_16_28 : Zgo d 16 28 L st S Q ↔ (zpi st False fun x t => Zgo d 16 29 (zst L 1 (some (zi x))) t S Q) := Zgo_iff (i := .istore_n 1) (len := 1) (a := 0) (b := 0) (c := 0) (p := 0) rfl
theorem zg_16_29 : Zgo d 16 29 L st S Q ↔ (zldi L 1 False fun x => Zgo d 16 30 L (zi x :: st) S Q) := Zgo_iff (i := .iload_n 1) (len := 1) (a := 0) (b := 0) (c := 0) (p := 0) rfl
theorem zg_16_30 : Zgo d 16 30 L st S Q ↔ (zpi st False fun x t => if zw x = zw 0 then Zgo d 16 33 L t S Q else Zgo d 16 44 L t S Q) := Zgo_iff (i := .ifCond .ne 14) (len := 3) (a := 0) (b := 0) (c := 0) (p := 0) rfl
theorem zg_16_33 : Zgo d 16 33 L st S Q ↔ (zlda L 0 False fun r => Zgo d 16 34 L (zq r :: st) S Q) := Zgo_iff (i := .aload_n 0) (len := 1) (a := 0) (b := 0) (c := 0) (p := 0) rfl
theorem zg_16_34 : Zgo d 16 34 L st S Q ↔ (zpa st False fun r t => zde r 0 False fun o => Zgo d 16 37 L (zq (S.2.1 0 o 1) :: t) S Q) := Zgo_iff (i := .getfield 19) (len := 3) (a := 0) (b := 1) (c := 3) (p := 2115) rfl
theorem zg_16_37 : Zgo d 16 37 L st S Q ↔ (Zgo d 16 38 L (zi 1 :: st) S Q) := Zgo_iff (i := .iconst 1) (len := 1) (a := 0) (b := 0) (c := 0) (p := 0) rfl
theorem zg_16_38 : Zgo d 16 38 L st S Q ↔ (zpi st False fun v t => zpa t False fun r t => zde r 7 False fun o => zok 1 v False (Zgo d 16 41 L t (zsI S.1 7 o 6 v, S.2) Q)) := Zgo_iff (i := .putfield 67) (len := 3) (a := 7) (b := 6) (c := 1) (p := 2008) rfl
theorem zg_16_41 : Zgo d 16 41 L st S Q ↔ (Zgo d 16 51 L st S Q) := Zgo_iff (i := .goto 10) (len := 3) (a := 0) (b := 0) (c := 0) (p := 0) rfl
theorem zg_16_44 : Zgo d 16 44 L st S Q ↔ (zlda L 0 False fun r => Zgo d 16 45 L (zq r :: st) S Q) := Zgo_iff (i := .aload_n 0) (len := 1) (a := 0) (b := 0) (c := 0) (p := 0) rfl
theorem zg_16_45 : Zgo d 16 45 L st S Q ↔ (zpa st False fun r t => zde r 0 False fun o => Zgo d 16 48 L (zq (S.2.1 0 o 1) :: t) S Q) := Zgo_iff (i := .getfield 19) (len := 3) (a := 0) (b := 1) (c := 3) (p := 2115) rfl
theorem zg_16_48 : Zgo d 16 48 L st S Q ↔ (zinv 1 st False fun as t => zrec as 7 False (zCp d 19 as S fun r S2 => Zgo d 16 51 L (r.toList ++ t) S2 Q)) := Zgo_iff (i := .invokevirtual 71) (len := 3) (a := 19) (b := 1) (c := 0) (p := 3148) rfl
theorem zg_16_51 : Zgo d 16 51 L st S Q ↔ (zldi L 1 False fun x => Zgo d 16 52 L (zi x :: st) S Q) := Zgo_iff (i := .iload_n 1) (len := 1) (a := 0) (b := 0) (c := 0) (p := 0) rfl
theorem zg_16_52 : Zgo d 16 52 L st S Q ↔ (zpi st False fun x t => zem t False (Q (some (zi x)) S)) := Zgo_iff (i := .ireturn) (len := 1) (a := 0) (b := 0) (c := 0) (p := 0) rfl
/-- LeavingMachine$Runner.forget()V -/
theorem zg_17_0 : Zgo d 17 0 L st S Q ↔ (Zgo d 17 1 L (zi 0 :: st) S Q) := Zgo_iff (i := .iconst 0) (len := 1) (a := 0) (b := 0) (c := 0) (p := 0) rfl
theorem zg_17_1 : Zgo d 17 1 L st S Q ↔ (zpi st False fun x t => Zgo d 17 2 (zst L 1 (some (zi x))) t S Q) := Zgo_iff (i := .istore_n 1) (len := 1) (a := 0) (b := 0) (c := 0) (p := 0) rfl
theorem zg_17_2 : Zgo d 17 2 L st S Q ↔ (zldi L 1 False fun x => Zgo d 17 3 L (zi x :: st) S Q) := Zgo_iff (i := .iload_n 1) (len := 1) (a := 0) (b := 0) (c := 0) (p := 0) rfl
theorem zg_17_3 : Zgo d 17 3 L st S Q ↔ (Zgo d 17 5 L (zi 8 :: st) S Q) := Zgo_iff (i := .bipush 8) (len := 2) (a := 0) (b := 0) (c := 0) (p := 0) rfl
theorem zg_17_5 : Zgo d 17 5 L st S Q ↔ (zpi st False fun y t => zpi t False fun x t => if zw x < zw y then Zgo d 17 8 L t S Q else Zgo d 17 21 L t S Q) := Zgo_iff (i := .if_icmp .ge 16) (len := 3) (a := 0) (b := 0) (c := 0) (p := 0) rfl
theorem zg_17_8 : Zgo d 17 8 L st S Q ↔ (zlda L 0 False fun r => Zgo d 17 9 L (zq r :: st) S Q) := Zgo_iff (i := .aload_n 0) (len := 1) (a := 0) (b := 0) (c := 0) (p := 0) rfl
theorem zg_17_9 : Zgo d 17 9 L st S Q ↔ (zpa st False fun r t => zde r 10 False fun o => Zgo d 17 12 L (zq (S.2.1 10 o 0) :: t) S Q) := Zgo_iff (i := .getfield 9) (len := 3) (a := 10) (b := 0) (c := 3) (p := 2071) rfl
theorem zg_17_12 : Zgo d 17 12 L st S Q ↔ (zldi L 1 False fun x => Zgo d 17 13 L (zi x :: st) S Q) := Zgo_iff (i := .iload_n 1) (len := 1) (a := 0) (b := 0) (c := 0) (p := 0) rfl
theorem zg_17_13 : Zgo d 17 13 L st S Q ↔ (Zgo d 17 14 L (zi 0 :: st) S Q) := Zgo_iff (i := .iconst 0) (len := 1) (a := 0) (b := 0) (c := 0) (p := 0) rfl
theorem zg_17_14 : Zgo d 17 14 L st S Q ↔ (zpi st False fun v t => zpi t False fun j t => zpa t False fun r t => znn r False fun q o => zop (zArr q) False fun n => if n.1 = 0 then zix j n.2 False fun x => Zgo d 17 15 L t (zsI S.1 q o x v, S.2) Q else False) := Zgo_iff (i := .iastore) (len := 1) (a := 0) (b := 0) (c := 0) (p := 0) rfl
theorem zg_17_15 : Zgo d 17 15 L st S Q ↔ (zldi L 1 False fun x => Zgo d 17 18 (zst L 1 (some (zi (x + 1)))) st S Q) := Zgo_iff (i := .iinc 1 1) (len := 3) (a := 0) (b := 0) (c := 0) (p := 0) rfl
theorem zg_17_18 : Zgo d 17 18 L st S Q ↔ (Zgo d 17 2 L st S Q) := Zgo_iff (i := .goto (-16)) (len := 3) (a := 0) (b := 0) (c := 0) (p := 0) rfl
theorem zg_17_21 : Zgo d 17 21 L st S Q ↔ (zlda L 0 False fun r => Zgo d 17 22 L (zq r :: st) S Q) := Zgo_iff (i := .aload_n 0) (len := 1) (a := 0) (b := 0) (c := 0) (p := 0) rfl
theorem zg_17_22 : Zgo d 17 22 L st S Q ↔ (Zgo d 17 23 L (zi 0 :: st) S Q) := Zgo_iff (i := .iconst 0) (len := 1) (a := 0) (b := 0) (c := 0) (p := 0) rfl
theorem zg_17_23 : Zgo d 17 23 L st S Q ↔ (zpi st False fun v t => zpa t False fun r t => zde r 10 False fun o => Zgo d 17 26 L t (zsI S.1 10 o 2 v, S.2) Q) := Zgo_iff (i := .putfield 26) (len := 3) (a := 10) (b := 2) (c := 0) (p := 2075) rfl
theorem zg_17_26 : Zgo d 17 26 L st S Q ↔ (zlda L 0 False fun r => Zgo d 17 27 L (zq r :: st) S Q) := Zgo_iff (i := .aload_n 0) (len := 1) (a := 0) (b := 0) (c := 0) (p := 0) rfl
theorem zg_17_27 : Zgo d 17 27 L st S Q ↔ (Zgo d 17 28 L (zi (-1) :: st) S Q) := Zgo_iff (i := .iconst (-1)) (len := 1) (a := 0) (b := 0) (c := 0) (p := 0) rfl
theorem zg_17_28 : Zgo d 17 28 L st S Q ↔ (zpi st False fun v t => zpa t False fun r t => zde r 10 False fun o => Zgo d 17 31 L t (zsI S.1 10 o 3 v, S.2) Q) := Zgo_iff (i := .putfield 18) (len := 3) (a := 10) (b := 3) (c := 0) (p := 2077) rfl
theorem zg_17_31 : Zgo d 17 31 L st S Q ↔ (zlda L 0 False fun r => Zgo d 17 32 L (zq r :: st) S Q) := Zgo_iff (i := .aload_n 0) (len := 1) (a := 0) (b := 0) (c := 0) (p := 0) rfl
theorem zg_17_32 : Zgo d 17 32 L st S Q ↔ (Zgo d 17 33 L (zi 0 :: st) S Q) := Zgo_iff (i := .iconst 0) (len := 1) (a := 0) (b := 0) (c := 0) (p := 0) rfl
theorem zg_17_33 : Zgo d 17 33 L st S Q ↔ (zpi st False fun v t => zpa t False fun r t => zde r 10 False fun o => Zgo d 17 36 L t (zsI S.1 10 o 4 v, S.2) Q) := Zgo_iff (i := .putfield 29) (len := 3) (a := 10) (b := 4) (c := 0) (p := 2079) rfl
theorem zg_17_36 : Zgo d 17 36 L st S Q ↔ (zlda L 0 False fun r => Zgo d 17 37 L (zq r :: st) S Q) := Zgo_iff (i := .aload_n 0) (len := 1) (a := 0) (b := 0) (c := 0) (p := 0) rfl
theorem zg_17_37 : Zgo d 17 37 L st S Q ↔ (Zgo d 17 38 L (zi 0 :: st) S Q) := Zgo_iff (i := .iconst 0) (len := 1) (a := 0) (b := 0) (c := 0) (p := 0) rfl
theorem zg_17_38 : Zgo d 17 38 L st S Q ↔ (zpi st False fun v t => zpa t False fun r t => zde r 10 False fun o => Zgo d 17 41 L t (zsI S.1 10 o 5 v, S.2) Q) := Zgo_iff (i := .putfield 32) (len := 3) (a := 10) (b := 5) (c := 0) (p := 2081) rfl
theorem zg_17_41 : Zgo d 17 41 L st S Q ↔ (zlda L 0 False fun r => Zgo d 17 42 L (zq r :: st) S Q) := Zgo_iff (i := .aload_n 0) (len := 1) (a := 0) (b := 0) (c := 0) (p := 0) rfl
theorem zg_17_42 : Zgo d 17 42 L st S Q ↔ (Zgo d 17 43 L (zi 0 :: st) S Q) := Zgo_iff (i := .iconst 0) (len := 1) (a := 0) (b := 0) (c := 0) (p := 0) rfl
theorem zg_17_43 : Zgo d 17 43 L st S Q ↔ (zpi st False fun v t => zpa t False fun r t => zde r 10 False fun o => Zgo d 17 46 L t (zsI S.1 10 o 10 v, S.2) Q) := Zgo_iff (i := .putfield 35) (len := 3) (a := 10) (b := 10) (c := 0) (p := 2090) rfl
theorem zg_17_46 : Zgo d 17 46 L st S Q ↔ (zlda L 0 False fun r => Zgo d 17 47 L (zq r :: st) S Q) := Zgo_iff (i := .aload_n 0) (len := 1) (a := 0) (b := 0) (c := 0) (p := 0) rfl
theorem zg_17_47 : Zgo d 17 47 L st S Q ↔ (Zgo d 17 48 L (zi 0 :: st) S Q) := Zgo_iff (i := .iconst 0) (len := 1) (a := 0) (b := 0) (c := 0) (p := 0) rfl
theorem zg_17_48 : Zgo d 17 48 L st S Q ↔ (zpi st False fun v t => zpa t False fun r t => zde r 10 False fun o => Zgo d 17 51 L t (zsI S.1 10 o 6 v, S.2) Q) := Zgo_iff (i := .putfield 38) (len := 3) (a := 10) (b := 6) (c := 0) (p := 2083) rfl
theorem zg_17_51 : Zgo d 17 51 L st S Q ↔ (zem st False (Q none S)) := Zgo_iff (i := .return_) (len := 1) (a := 0) (b := 0) (c := 0) (p := 0) rfl
/-- LeavingMachine$Reader.readProgram()Z -/
theorem zg_18_0 : Zgo d 18 0 L st S Q ↔ (zlda L 0 False fun r => Zgo d 18 1 L (zq r :: st) S Q) := Zgo_iff (i := .aload_n 0) (len := 1) (a := 0) (b := 0) (c := 0) (p := 0) rfl
theorem zg_18_1 : Zgo d 18 1 L st S Q ↔ (Zgo d 18 2 L (zi 0 :: st) S Q) := Zgo_iff (i := .iconst 0) (len := 1) (a := 0) (b := 0) (c := 0) (p := 0) rfl
theorem zg_18_2 : Zgo d 18 2 L st S Q ↔ (zpi st False fun v t => zpa t False fun r t => zde r 8 False fun o => Zgo d 18 5 L t (zsI S.1 8 o 2 v, S.2) Q) := Zgo_iff (i := .putfield 19) (len := 3) (a := 8) (b := 2) (c := 0) (p := 2044) rfl
theorem zg_18_5 : Zgo d 18 5 L st S Q ↔ (zlda L 0 False fun r => Zgo d 18 6 L (zq r :: st) S Q) := Zgo_iff (i := .aload_n 0) (len := 1) (a := 0) (b := 0) (c := 0) (p := 0) rfl
theorem zg_18_6 : Zgo d 18 6 L st S Q ↔ (zpa st False fun r t => zde r 8 False fun o => Zgo d 18 9 L (zq (S.2.1 8 o 1) :: t) S Q) := Zgo_iff (i := .getfield 15) (len := 3) (a := 8) (b := 1) (c := 3) (p := 2043) rfl
theorem zg_18_9 : Zgo d 18 9 L st S Q ↔ (zinv 1 st False fun as t => zrec as 7 False (zCp d 19 as S fun r S2 => Zgo d 18 12 L (r.toList ++ t) S2 Q)) := Zgo_iff (i := .invokevirtual 23) (len := 3) (a := 19) (b := 1) (c := 0) (p := 2160) rfl
theorem zg_18_12 : Zgo d 18 12 L st S Q ↔ (Zgo d 18 13 L (zi 0 :: st) S Q) := Zgo_iff (i := .iconst 0) (len := 1) (a := 0) (b := 0) (c := 0) (p := 0) rfl
theorem zg_18_13 : Zgo d 18 13 L st S Q ↔ (zpi st False fun x t => Zgo d 18 14 (zst L 1 (some (zi x))) t S Q) := Zgo_iff (i := .istore_n 1) (len := 1) (a := 0) (b := 0) (c := 0) (p := 0) rfl
theorem zg_18_14 : Zgo d 18 14 L st S Q ↔ (zldi L 1 False fun x => Zgo d 18 15 L (zi x :: st) S Q) := Zgo_iff (i := .iload_n 1) (len := 1) (a := 0) (b := 0) (c := 0) (p := 0) rfl
theorem zg_18_15 : Zgo d 18 15 L st S Q ↔ (Zgo d 18 16 L (zi 3 :: st) S Q) := Zgo_iff (i := .iconst 3) (len := 1) (a := 0) (b := 0) (c := 0) (p := 0) rfl
theorem zg_18_16 : Zgo d 18 16 L st S Q ↔ (zpi st False fun y t => zpi t False fun x t => if zw x < zw y then Zgo d 18 19 L t S Q else Zgo d 18 43 L t S Q) := Zgo_iff (i := .if_icmp .ge 27) (len := 3) (a := 0) (b := 0) (c := 0) (p := 0) rfl
theorem zg_18_19 : Zgo d 18 19 L st S Q ↔ (zlda L 0 False fun r => Zgo d 18 20 L (zq r :: st) S Q) := Zgo_iff (i := .aload_n 0) (len := 1) (a := 0) (b := 0) (c := 0) (p := 0) rfl
theorem zg_18_20 : Zgo d 18 20 L st S Q ↔ (Zgo d 18 22 L (zi 68 :: st) S Q) := Zgo_iff (i := .bipush 68) (len := 2) (a := 0) (b := 0) (c := 0) (p := 0) rfl
theorem zg_18_22 : Zgo d 18 22 L st S Q ↔ (zinv 2 st False fun as t => zrec as 8 False (zCp d 20 as S fun r S2 => Zgo d 18 25 L (r.toList ++ t) S2 Q)) := Zgo_iff (i := .invokevirtual 28) (len := 3) (a := 20) (b := 2) (c := 0) (p := 2164) rfl
theorem zg_18_25 : Zgo d 18 25 L st S Q ↔ (zpi st False fun x t => if zw x = zw 0 then Zgo d 18 43 L t S Q else Zgo d 18 28 L t S Q) := Zgo_iff (i := .ifCond .eq 18) (len := 3) (a := 0) (b := 0) (c := 0) (p := 0) rfl
theorem zg_18_28 : Zgo d 18 28 L st S Q ↔ (zlda L 0 False fun r => Zgo d 18 29 L (zq r :: st) S Q) := Zgo_iff (i := .aload_n 0) (len := 1) (a := 0) (b := 0) (c := 0) (p := 0) rfl
theorem zg_18_29 : Zgo d 18 29 L st S Q ↔ (zinv 1 st False fun as t => zrec as 8 False (zCp d 21 as S fun r S2 => Zgo d 18 32 L (r.toList ++ t) S2 Q)) := Zgo_iff (i := .invokevirtual 32) (len := 3) (a := 21) (b := 1) (c := 0) (p := 2168) rfl
theorem zg_18_32 : Zgo d 18 32 L st S Q ↔ (zpi st False fun x t => if zw x = zw 0 then Zgo d 18 35 L t S Q else Zgo d 18 37 L t S Q) := Zgo_iff (i := .ifCond .ne 5) (len := 3) (a := 0) (b := 0) (c := 0) (p := 0) rfl
theorem zg_18_35 : Zgo d 18 35 L st S Q ↔ (Zgo d 18 36 L (zi 0 :: st) S Q) := Zgo_iff (i := .iconst 0) (len := 1) (a := 0) (b := 0) (c := 0) (p := 0) rfl
theorem zg_18_36 : Zgo d 18 36 L st S Q ↔ (zpi st False fun x t => zem t False (zok 1 x False (Q (some (zi x)) S))) := Zgo_iff (i := .ireturn) (len := 1) (a := 0) (b := 0) (c := 0) (p := 0) rfl
theorem zg_18_37 : Zgo d 18 37 L st S Q ↔ (zldi L 1 False fun x => Zgo d 18 40 (zst L 1 (some (zi (x + 1)))) st S Q) := Zgo_iff (i := .iinc 1 1) (len := 3) (a := 0) (b := 0) (c := 0) (p := 0) rfl
theorem zg_18_40 : Zgo d 18 40 L st S Q ↔ (Zgo d 18 14 L st S Q) := Zgo_iff (i := .goto (-26)) (len := 3) (a := 0) (b := 0) (c := 0) (p := 0) rfl
theorem zg_18_43 : Zgo d 18 43 L st S Q ↔ (zlda L 0 False fun r => Zgo d 18 44 L (zq r :: st) S Q) := Zgo_iff (i := .aload_n 0) (len := 1) (a := 0) (b := 0) (c := 0) (p := 0) rfl
theorem zg_18_44 : Zgo d 18 44 L st S Q ↔ (Zgo d 18 46 L (zi 77 :: st) S Q) := Zgo_iff (i := .bipush 77) (len := 2) (a := 0) (b := 0) (c := 0) (p := 0) rfl
theorem zg_18_46 : Zgo d 18 46 L st S Q ↔ (zinv 2 st False fun as t => zrec as 8 False (zCp d 20 as S fun r S2 => Zgo d 18 49 L (r.toList ++ t) S2 Q)) := Zgo_iff (i := .invokevirtual 28) (len := 3) (a := 20) (b := 2) (c := 0) (p := 2164) rfl
theorem zg_18_49 : Zgo d 18 49 L st S Q ↔ (zpi st False fun x t => if zw x = zw 0 then Zgo d 18 84 L t S Q else Zgo d 18 52 L t S Q) := Zgo_iff (i := .ifCond .eq 35) (len := 3) (a := 0) (b := 0) (c := 0) (p := 0) rfl
theorem zg_18_52 : Zgo d 18 52 L st S Q ↔ (zlda L 0 False fun r => Zgo d 18 53 L (zq r :: st) S Q) := Zgo_iff (i := .aload_n 0) (len := 1) (a := 0) (b := 0) (c := 0) (p := 0) rfl
theorem zg_18_53 : Zgo d 18 53 L st S Q ↔ (zlda L 0 False fun r => Zgo d 18 54 L (zq r :: st) S Q) := Zgo_iff (i := .aload_n 0) (len := 1) (a := 0) (b := 0) (c := 0) (p := 0) rfl
theorem zg_18_54 : Zgo d 18 54 L st S Q ↔ (zpa st False fun r t => zde r 8 False fun o => Zgo d 18 57 L (zq (S.2.1 8 o 1) :: t) S Q) := Zgo_iff (i := .getfield 15) (len := 3) (a := 8) (b := 1) (c := 3) (p := 2043) rfl
theorem zg_18_57 : Zgo d 18 57 L st S Q ↔ (zpa st False fun r t => zde r 7 False fun o => Zgo d 18 60 L (zq (S.2.1 7 o 1) :: t) S Q) := Zgo_iff (i := .getfield 36) (len := 3) (a := 7) (b := 1) (c := 3) (p := 1233) rfl
theorem zg_18_60 : Zgo d 18 60 L st S Q ↔ (zinv 2 st False fun as t => zrec as 8 False (zCp d 25 as S fun r S2 => Zgo d 18 63 L (r.toList ++ t) S2 Q)) := Zgo_iff (i := .invokevirtual 40) (len := 3) (a := 25) (b := 2) (c := 0) (p := 2184) rfl
theorem zg_18_63 : Zgo d 18 63 L st S Q ↔ (zpi st False fun x t => if zw x = zw 0 then Zgo d 18 84 L t S Q else Zgo d 18 66 L t S Q) := Zgo_iff (i := .ifCond .eq 21) (len := 3) (a := 0) (b := 0) (c := 0) (p := 0) rfl
theorem zg_18_66 : Zgo d 18 66 L st S Q ↔ (zlda L 0 False fun r => Zgo d 18 67 L (zq r :: st) S Q) := Zgo_iff (i := .aload_n 0) (len := 1) (a := 0) (b := 0) (c := 0) (p := 0) rfl
theorem zg_18_67 : Zgo d 18 67 L st S Q ↔ (zpa st False fun r t => zde r 8 False fun o => Zgo d 18 70 L (zi (S.1 8 o 2) :: t) S Q) := Zgo_iff (i := .getfield 19) (len := 3) (a := 8) (b := 2) (c := 0) (p := 2044) rfl
theorem zg_18_70 : Zgo d 18 70 L st S Q ↔ (zlda L 0 False fun r => Zgo d 18 71 L (zq r :: st) S Q) := Zgo_iff (i := .aload_n 0) (len := 1) (a := 0) (b := 0) (c := 0) (p := 0) rfl
theorem zg_18_71 : Zgo d 18 71 L st S Q ↔ (zpa st False fun r t => zde r 8 False fun o => Zgo d 18 74 L (zq (S.2.1 8 o 0) :: t) S Q) := Zgo_iff (i := .getfield 9) (len := 3) (a := 8) (b := 0) (c := 3) (p := 2042) rfl
theorem zg_18_74 : Zgo d 18 74 L st S Q ↔ (zpa st False fun r t => zde r 1 False fun o => Zgo d 18 77 L (zi (S.1 1 o 1) :: t) S Q) := Zgo_iff (i := .getfield 44) (len := 3) (a := 1) (b := 1) (c := 0) (p := 1044) rfl
theorem zg_18_77 : Zgo d 18 77 L st S Q ↔ (zpi st False fun y t => zpi t False fun x t => if zw x = zw y then Zgo d 18 80 L t S Q else Zgo d 18 84 L t S Q) := Zgo_iff (i := .if_icmp .ne 7) (len := 3) (a := 0) (b := 0) (c := 0) (p := 0) rfl
theorem zg_18_80 : Zgo d 18 80 L st S Q ↔ (Zgo d 18 81 L (zi 1 :: st) S Q) := Zgo_iff (i := .iconst 1) (len := 1) (a := 0) (b := 0) (c := 0) (p := 0) rfl
theorem zg_18_81 : Zgo d 18 81 L st S Q ↔ (Zgo d 18 85 L st S Q) := Zgo_iff (i := .goto 4) (len := 3) (a := 0) (b := 0) (c := 0) (p := 0) rfl
theorem zg_18_84 : Zgo d 18 84 L st S Q ↔ (Zgo d 18 85 L (zi 0 :: st) S Q) := Zgo_iff (i := .iconst 0) (len := 1) (a := 0) (b := 0) (c := 0) (p := 0) rfl
theorem zg_18_85 : Zgo d 18 85 L st S Q ↔ (zpi st False fun x t => zem t False (zok 1 x False (Q (some (zi x)) S))) := Zgo_iff (i := .ireturn) (len := 1) (a := 0) (b := 0) (c := 0) (p := 0) rfl
/-- LeavingMachine$Program.clear()V -/
theorem zg_19_0 : Zgo d 19 0 L st S Q ↔ (zlda L 0 False fun r => Zgo d 19 1 L (zq r :: st) S Q) := Zgo_iff (i := .aload_n 0) (len := 1) (a := 0) (b := 0) (c := 0) (p := 0) rfl
theorem zg_19_1 : Zgo d 19 1 L st S Q ↔ (Zgo d 19 2 L (zi 0 :: st) S Q) := Zgo_iff (i := .iconst 0) (len := 1) (a := 0) (b := 0) (c := 0) (p := 0) rfl
theorem zg_19_2 : Zgo d 19 2 L st S Q ↔ (zpi st False fun v t => zpa t False fun r t => zde r 7 False fun o => zok 1 v False (Zgo d 19 5 L t (zsI S.1 7 o 6 v, S.2) Q)) := Zgo_iff (i := .putfield 50) (len := 3) (a := 7) (b := 6) (c := 1) (p := 2007) rfl
theorem zg_19_5 : Zgo d 19 5 L st S Q ↔ (zlda L 0 False fun r => Zgo d 19 6 L (zq r :: st) S Q) := Zgo_iff (i := .aload_n 0) (len := 1) (a := 0) (b := 0) (c := 0) (p := 0) rfl
theorem zg_19_6 : Zgo d 19 6 L st S Q ↔ (Zgo d 19 7 L (zi 0 :: st) S Q) := Zgo_iff (i := .iconst 0) (len := 1) (a := 0) (b := 0) (c := 0) (p := 0) rfl
theorem zg_19_7 : Zgo d 19 7 L st S Q ↔ (zpi st False fun v t => zpa t False fun r t => zde r 7 False fun o => Zgo d 19 10 L t (zsI S.1 7 o 4 v, S.2) Q) := Zgo_iff (i := .putfield 54) (len := 3) (a := 7) (b := 4) (c := 0) (p := 2001) rfl
theorem zg_19_10 : Zgo d 19 10 L st S Q ↔ (zlda L 0 False fun r => Zgo d 19 11 L (zq r :: st) S Q) := Zgo_iff (i := .aload_n 0) (len := 1) (a := 0) (b := 0) (c := 0) (p := 0) rfl
theorem zg_19_11 : Zgo d 19 11 L st S Q ↔ (Zgo d 19 12 L (zi 0 :: st) S Q) := Zgo_iff (i := .iconst 0) (len := 1) (a := 0) (b := 0) (c := 0) (p := 0) rfl
theorem zg_19_12 : Zgo d 19 12 L st S Q ↔ (zpi st False fun v t => zpa t False fun r t => zde r 7 False fun o => Zgo d 19 15 L t (zsI S.1 7 o 5 v, S.2) Q) := Zgo_iff (i := .putfield 58) (len := 3) (a := 7) (b := 5) (c := 0) (p := 2005) rfl
theorem zg_19_15 : Zgo d 19 15 L st S Q ↔ (zlda L 0 False fun r => Zgo d 19 16 L (zq r :: st) S Q) := Zgo_iff (i := .aload_n 0) (len := 1) (a := 0) (b := 0) (c := 0) (p := 0) rfl
theorem zg_19_16 : Zgo d 19 16 L st S Q ↔ (Zgo d 19 17 L (zi 0 :: st) S Q) := Zgo_iff (i := .iconst 0) (len := 1) (a := 0) (b := 0) (c := 0) (p := 0) rfl
theorem zg_19_17 : Zgo d 19 17 L st S Q ↔ (zpi st False fun v t => zpa t False fun r t => zde r 7 False fun o => Zgo d 19 20 L t (zsI S.1 7 o 9 v, S.2) Q) := Zgo_iff (i := .putfield 61) (len := 3) (a := 7) (b := 9) (c := 0) (p := 2011) rfl
theorem zg_19_20 : Zgo d 19 20 L st S Q ↔ (zlda L 0 False fun r => Zgo d 19 21 L (zq r :: st) S Q) := Zgo_iff (i := .aload_n 0) (len := 1) (a := 0) (b := 0) (c := 0) (p := 0) rfl
theorem zg_19_21 : Zgo d 19 21 L st S Q ↔ (Zgo d 19 22 L (zi 0 :: st) S Q) := Zgo_iff (i := .iconst 0) (len := 1) (a := 0) (b := 0) (c := 0) (p := 0) rfl
theorem zg_19_22 : Zgo d 19 22 L st S Q ↔ (zpi st False fun v t => zpa t False fun r t => zde r 7 False fun o => Zgo d 19 25 L t (zsI S.1 7 o 10 v, S.2) Q) := Zgo_iff (i := .putfield 64) (len := 3) (a := 7) (b := 10) (c := 0) (p := 2012) rfl
theorem zg_19_25 : Zgo d 19 25 L st S Q ↔ (zlda L 0 False fun r => Zgo d 19 26 L (zq r :: st) S Q) := Zgo_iff (i := .aload_n 0) (len := 1) (a := 0) (b := 0) (c := 0) (p := 0) rfl
theorem zg_19_26 : Zgo d 19 26 L st S Q ↔ (zpa st False fun r t => zde r 7 False fun o => Zgo d 19 29 L (zq (S.2.1 7 o 3) :: t) S Q) := Zgo_iff (i := .getfield 31) (len := 3) (a := 7) (b := 3) (c := 3) (p := 1238) rfl
theorem zg_19_29 : Zgo d 19 29 L st S Q ↔ (Zgo d 19 30 L (zi 0 :: st) S Q) := Zgo_iff (i := .iconst 0) (len := 1) (a := 0) (b := 0) (c := 0) (p := 0) rfl
theorem zg_19_30 : Zgo d 19 30 L st S Q ↔ (zpi st False fun v t => zpa t False fun r t => zde r 6 False fun o => Zgo d 19 33 L t (zsI S.1 6 o 2 v, S.2) Q) := Zgo_iff (i := .putfield 67) (len := 3) (a := 6) (b := 2) (c := 0) (p := 1094) rfl
theorem zg_19_33 : Zgo d 19 33 L st S Q ↔ (zem st False (Q none S)) := Zgo_iff (i := .return_) (len := 1) (a := 0) (b := 0) (c := 0) (p := 0) rfl
/-- LeavingMachine$Reader.take(C)Z -/
theorem zg_20_0 : Zgo d 20 0 L st S Q ↔ (zlda L 0 False fun r => Zgo d 20 1 L (zq r :: st) S Q) := Zgo_iff (i := .aload_n 0) (len := 1) (a := 0) (b := 0) (c := 0) (p := 0) rfl
theorem zg_20_1 : Zgo d 20 1 L st S Q ↔ (zpa st False fun r t => zde r 8 False fun o => Zgo d 20 4 L (zi (S.1 8 o 2) :: t) S Q) := Zgo_iff (i := .getfield 19) (len := 3) (a := 8) (b := 2) (c := 0) (p := 2044) rfl
theorem zg_20_4 : Zgo d 20 4 L st S Q ↔ (zlda L 0 False fun r => Zgo d 20 5 L (zq r :: st) S Q) := Zgo_iff (i := .aload_n 0) (len := 1) (a := 0) (b := 0) (c := 0) (p := 0) rfl
theorem zg_20_5 : Zgo d 20 5 L st S Q ↔ (zpa st False fun r t => zde r 8 False fun o => Zgo d 20 8 L (zq (S.2.1 8 o 0) :: t) S Q) := Zgo_iff (i := .getfield 9) (len := 3) (a := 8) (b := 0) (c := 3) (p := 2042) rfl
theorem zg_20_8 : Zgo d 20 8 L st S Q ↔ (zpa st False fun r t => zde r 1 False fun o => Zgo d 20 11 L (zi (S.1 1 o 1) :: t) S Q) := Zgo_iff (i := .getfield 44) (len := 3) (a := 1) (b := 1) (c := 0) (p := 1044) rfl
theorem zg_20_11 : Zgo d 20 11 L st S Q ↔ (zpi st False fun y t => zpi t False fun x t => if zw x < zw y then Zgo d 20 14 L t S Q else Zgo d 20 30 L t S Q) := Zgo_iff (i := .if_icmp .ge 19) (len := 3) (a := 0) (b := 0) (c := 0) (p := 0) rfl
theorem zg_20_14 : Zgo d 20 14 L st S Q ↔ (zlda L 0 False fun r => Zgo d 20 15 L (zq r :: st) S Q) := Zgo_iff (i := .aload_n 0) (len := 1) (a := 0) (b := 0) (c := 0) (p := 0) rfl
theorem zg_20_15 : Zgo d 20 15 L st S Q ↔ (zpa st False fun r t => zde r 8 False fun o => Zgo d 20 18 L (zq (S.2.1 8 o 0) :: t) S Q) := Zgo_iff (i := .getfield 9) (len := 3) (a := 8) (b := 0) (c := 3) (p := 2042) rfl
theorem zg_20_18 : Zgo d 20 18 L st S Q ↔ (zpa st False fun r t => zde r 1 False fun o => Zgo d 20 21 L (zq (S.2.1 1 o 0) :: t) S Q) := Zgo_iff (i := .getfield 189) (len := 3) (a := 1) (b := 0) (c := 3) (p := 1042) rfl
theorem zg_20_21 : Zgo d 20 21 L st S Q ↔ (zlda L 0 False fun r => Zgo d 20 22 L (zq r :: st) S Q) := Zgo_iff (i := .aload_n 0) (len := 1) (a := 0) (b := 0) (c := 0) (p := 0) rfl
theorem zg_20_22 : Zgo d 20 22 L st S Q ↔ (zpa st False fun r t => zde r 8 False fun o => Zgo d 20 25 L (zi (S.1 8 o 2) :: t) S Q) := Zgo_iff (i := .getfield 19) (len := 3) (a := 8) (b := 2) (c := 0) (p := 2044) rfl
theorem zg_20_25 : Zgo d 20 25 L st S Q ↔ (zpi st False fun j t => zpa t False fun r t => znn r False fun q o => zop (zlen S q) False fun n => if n.1 = 2 then zix j n.2 False fun x => Zgo d 20 26 L (zi (S.1 q o x) :: t) S Q else False) := Zgo_iff (i := .caload) (len := 1) (a := 0) (b := 0) (c := 0) (p := 0) rfl
theorem zg_20_26 : Zgo d 20 26 L st S Q ↔ (zldi L 1 False fun x => Zgo d 20 27 L (zi x :: st) S Q) := Zgo_iff (i := .iload_n 1) (len := 1) (a := 0) (b := 0) (c := 0) (p := 0) rfl
theorem zg_20_27 : Zgo d 20 27 L st S Q ↔ (zpi st False fun y t => zpi t False fun x t => if zw x = zw y then Zgo d 20 32 L t S Q else Zgo d 20 30 L t S Q) := Zgo_iff (i := .if_icmp .eq 5) (len := 3) (a := 0) (b := 0) (c := 0) (p := 0) rfl
theorem zg_20_30 : Zgo d 20 30 L st S Q ↔ (Zgo d 20 31 L (zi 0 :: st) S Q) := Zgo_iff (i := .iconst 0) (len := 1) (a := 0) (b := 0) (c := 0) (p := 0) rfl
theorem zg_20_31 : Zgo d 20 31 L st S Q ↔ (zpi st False fun x t => zem t False (zok 1 x False (Q (some (zi x)) S))) := Zgo_iff (i := .ireturn) (len := 1) (a := 0) (b := 0) (c := 0) (p := 0) rfl
theorem zg_20_32 : Zgo d 20 32 L st S Q ↔ (zlda L 0 False fun r => Zgo d 20 33 L (zq r :: st) S Q) := Zgo_iff (i := .aload_n 0) (len := 1) (a := 0) (b := 0) (c := 0) (p := 0) rfl
theorem zg_20_33 : Zgo d 20 33 L st S Q ↔ (zp1 st False fun v t => Zgo d 20 34 L (v :: v :: t) S Q) := Zgo_iff (i := .dup) (len := 1) (a := 0) (b := 0) (c := 0) (p := 0) rfl
theorem zg_20_34 : Zgo d 20 34 L st S Q ↔ (zpa st False fun r t => zde r 8 False fun o => Zgo d 20 37 L (zi (S.1 8 o 2) :: t) S Q) := Zgo_iff (i := .getfield 19) (len := 3) (a := 8) (b := 2) (c := 0) (p := 2044) rfl
theorem zg_20_37 : Zgo d 20 37 L st S Q ↔ (Zgo d 20 38 L (zi 1 :: st) S Q) := Zgo_iff (i := .iconst 1) (len := 1) (a := 0) (b := 0) (c := 0) (p := 0) rfl
theorem zg_20_38 : Zgo d 20 38 L st S Q ↔ (zpi st False fun y t => zpi t False fun x t => Zgo d 20 39 L (zi (x + y) :: t) S Q) := Zgo_iff (i := .iadd) (len := 1) (a := 0) (b := 0) (c := 0) (p := 0) rfl
theorem zg_20_39 : Zgo d 20 39 L st S Q ↔ (zpi st False fun v t => zpa t False fun r t => zde r 8 False fun o => Zgo d 20 42 L t (zsI S.1 8 o 2 v, S.2) Q) := Zgo_iff (i := .putfield 19) (len := 3) (a := 8) (b := 2) (c := 0) (p := 2044) rfl
theorem zg_20_42 : Zgo d 20 42 L st S Q ↔ (Zgo d 20 43 L (zi 1 :: st) S Q) := Zgo_iff (i := .iconst 1) (len := 1) (a := 0) (b := 0) (c := 0) (p := 0) rfl
theorem zg_20_43 : Zgo d 20 43 L st S Q ↔ (zpi st False fun x t => zem t False (zok 1 x False (Q (some (zi x)) S))) := Zgo_iff (i := .ireturn) (len := 1) (a := 0) (b := 0) (c := 0) (p := 0) rfl
/-- LeavingMachine$Reader.readProcedure()Z -/
theorem zg_21_0 : Zgo d 21 0 L st S Q ↔ (zlda L 0 False fun r => Zgo d 21 1 L (zq r :: st) S Q) := Zgo_iff (i := .aload_n 0) (len := 1) (a := 0) (b := 0) (c := 0) (p := 0) rfl
theorem zg_21_1 : Zgo d 21 1 L st S Q ↔ (Zgo d 21 3 L (zi 112 :: st) S Q) := Zgo_iff (i := .bipush 112) (len := 2) (a := 0) (b := 0) (c := 0) (p := 0) rfl
theorem zg_21_3 : Zgo d 21 3 L st S Q ↔ (Zgo d 21 5 L (zi 114 :: st) S Q) := Zgo_iff (i := .bipush 114) (len := 2) (a := 0) (b := 0) (c := 0) (p := 0) rfl
theorem zg_21_5 : Zgo d 21 5 L st S Q ↔ (zinv 3 st False fun as t => zrec as 8 False (zCp d 22 as S fun r S2 => Zgo d 21 8 L (r.toList ++ t) S2 Q)) := Zgo_iff (i := .invokevirtual 49) (len := 3) (a := 22) (b := 3) (c := 0) (p := 2172) rfl
theorem zg_21_8 : Zgo d 21 8 L st S Q ↔ (zpi st False fun x t => Zgo d 21 9 (zst L 1 (some (zi x))) t S Q) := Zgo_iff (i := .istore_n 1) (len := 1) (a := 0) (b := 0) (c := 0) (p := 0) rfl
theorem zg_21_9 : Zgo d 21 9 L st S Q ↔ (zldi L 1 False fun x => Zgo d 21 10 L (zi x :: st) S Q) := Zgo_iff (i := .iload_n 1) (len := 1) (a := 0) (b := 0) (c := 0) (p := 0) rfl
theorem zg_21_10 : Zgo d 21 10 L st S Q ↔ (Zgo d 21 11 L (zi (-1) :: st) S Q) := Zgo_iff (i := .iconst (-1)) (len := 1) (a := 0) (b := 0) (c := 0) (p := 0) rfl
theorem zg_21_11 : Zgo d 21 11 L st S Q ↔ (zpi st False fun y t => zpi t False fun x t => if zw x = zw y then Zgo d 21 14 L t S Q else Zgo d 21 18 L t S Q) := Zgo_iff (i := .if_icmp .ne 7) (len := 3) (a := 0) (b := 0) (c := 0) (p := 0) rfl
theorem zg_21_14 : Zgo d 21 14 L st S Q ↔ (Zgo d 21 15 L (zq none :: st) S Q) := Zgo_iff (i := .aconst_null) (len := 1) (a := 0) (b := 0) (c := 0) (p := 0) rfl
theorem zg_21_15 : Zgo d 21 15 L st S Q ↔ (Zgo d 21 26 L st S Q) := Zgo_iff (i := .goto 11) (len := 3) (a := 0) (b := 0) (c := 0) (p := 0) rfl
theorem zg_21_18 : Zgo d 21 18 L st S Q ↔ (zlda L 0 False fun r => Zgo d 21 19 L (zq r :: st) S Q) := Zgo_iff (i := .aload_n 0) (len := 1) (a := 0) (b := 0) (c := 0) (p := 0) rfl
theorem zg_21_19 : Zgo d 21 19 L st S Q ↔ (zpa st False fun r t => zde r 8 False fun o => Zgo d 21 22 L (zq (S.2.1 8 o 1) :: t) S Q) := Zgo_iff (i := .getfield 15) (len := 3) (a := 8) (b := 1) (c := 3) (p := 2043) rfl
theorem zg_21_22 : Zgo d 21 22 L st S Q ↔ (zldi L 1 False fun x => Zgo d 21 23 L (zi x :: st) S Q) := Zgo_iff (i := .iload_n 1) (len := 1) (a := 0) (b := 0) (c := 0) (p := 0) rfl
theorem zg_21_23 : Zgo d 21 23 L st S Q ↔ (zinv 2 st False fun as t => zrec as 7 False (zCp d 23 as S fun r S2 => Zgo d 21 26 L (r.toList ++ t) S2 Q)) := Zgo_iff (i := .invokevirtual 53) (len := 3) (a := 23) (b := 2) (c := 0) (p := 2176) rfl
theorem zg_21_26 : Zgo d 21 26 L st S Q ↔ (zpa st False fun x t => Zgo d 21 27 (zst L 2 (some (zq x))) t S Q) := Zgo_iff (i := .astore_n 2) (len := 1) (a := 0) (b := 0) (c := 0) (p := 0) rfl
theorem zg_21_27 : Zgo d 21 27 L st S Q ↔ (zlda L 2 False fun r => Zgo d 21 28 L (zq r :: st) S Q) := Zgo_iff (i := .aload_n 2) (len := 1) (a := 0) (b := 0) (c := 0) (p := 0) rfl
theorem zg_21_28 : Zgo d 21 28 L st S Q ↔ (zpa st False fun x t => if x = none then Zgo d 21 31 L t S Q else Zgo d 21 33 L t S Q) := Zgo_iff (i := .ifnonnull 5) (len := 3) (a := 0) (b := 0) (c := 0) (p := 0) rfl
theorem zg_21_31 : Zgo d 21 31 L st S Q ↔ (Zgo d 21 32 L (zi 0 :: st) S Q) := Zgo_iff (i := .iconst 0) (len := 1) (a := 0) (b := 0) (c := 0) (p := 0) rfl
theorem zg_21_32 : Zgo d 21 32 L st S Q ↔ (zpi st False fun x t => zem t False (zok 1 x False (Q (some (zi x)) S))) := Zgo_iff (i := .ireturn) (len := 1) (a := 0) (b := 0) (c := 0) (p := 0) rfl
theorem zg_21_33 : Zgo d 21 33 L st S Q ↔ (zlda L 2 False fun r => Zgo d 21 34 L (zq r :: st) S Q) := Zgo_iff (i := .aload_n 2) (len := 1) (a := 0) (b := 0) (c := 0) (p := 0) rfl
theorem zg_21_34 : Zgo d 21 34 L st S Q ↔ (zlda L 0 False fun r => Zgo d 21 35 L (zq r :: st) S Q) := Zgo_iff (i := .aload_n 0) (len := 1) (a := 0) (b := 0) (c := 0) (p := 0) rfl
theorem zg_21_35 : Zgo d 21 35 L st S Q ↔ (zinv 1 st False fun as t => zrec as 8 False (zCp d 24 as S fun r S2 => Zgo d 21 38 L (r.toList ++ t) S2 Q)) := Zgo_iff (i := .invokevirtual 57) (len := 3) (a := 24) (b := 1) (c := 0) (p := 2180) rfl
theorem zg_21_38 : Zgo d 21 38 L st S Q ↔ (zpi st False fun v t => zpa t False fun r t => zde r 2 False fun o => Zgo d 21 41 L t (zsI S.1 2 o 1 v, S.2) Q) := Zgo_iff (i := .putfield 61) (len := 3) (a := 2) (b := 1) (c := 0) (p := 1067) rfl
theorem zg_21_41 : Zgo d 21 41 L st S Q ↔ (zlda L 0 False fun r => Zgo d 21 42 L (zq r :: st) S Q) := Zgo_iff (i := .aload_n 0) (len := 1) (a := 0) (b := 0) (c := 0) (p := 0) rfl
theorem zg_21_42 : Zgo d 21 42 L st S Q ↔ (zlda L 2 False fun r => Zgo d 21 43 L (zq r :: st) S Q) := Zgo_iff (i := .aload_n 2) (len := 1) (a := 0) (b := 0) (c := 0) (p := 0) rfl
theorem zg_21_43 : Zgo d 21 43 L st S Q ↔ (zinv 2 st False fun as t => zrec as 8 False (zCp d 25 as S fun r S2 => Zgo d 21 46 L (r.toList ++ t) S2 Q)) := Zgo_iff (i := .invokevirtual 40) (len := 3) (a := 25) (b := 2) (c := 0) (p := 2184) rfl
theorem zg_21_46 : Zgo d 21 46 L st S Q ↔ (zpi st False fun x t => zem t False (zok 1 x False (Q (some (zi x)) S))) := Zgo_iff (i := .ireturn) (len := 1) (a := 0) (b := 0) (c := 0) (p := 0) rfl
/-- LeavingMachine$Reader.takeBetween(CC)I -/
theorem zg_22_0 : Zgo d 22 0 L st S Q ↔ (zlda L 0 False fun r => Zgo d 22 1 L (zq r :: st) S Q) := Zgo_iff (i := .aload_n 0) (len := 1) (a := 0) (b := 0) (c := 0) (p := 0) rfl
theorem zg_22_1 : Zgo d 22 1 L st S Q ↔ (zpa st False fun r t => zde r 8 False fun o => Zgo d 22 4 L (zi (S.1 8 o 2) :: t) S Q) := Zgo_iff (i := .getfield 19) (len := 3) (a := 8) (b := 2) (c := 0) (p := 2044) rfl
theorem zg_22_4 : Zgo d 22 4 L st S Q ↔ (zlda L 0 False fun r => Zgo d 22 5 L (zq r :: st) S Q) := Zgo_iff (i := .aload_n 0) (len := 1) (a := 0) (b := 0) (c := 0) (p := 0) rfl
theorem zg_22_5 : Zgo d 22 5 L st S Q ↔ (zpa st False fun r t => zde r 8 False fun o => Zgo d 22 8 L (zq (S.2.1 8 o 0) :: t) S Q) := Zgo_iff (i := .getfield 9) (len := 3) (a := 8) (b := 0) (c := 3) (p := 2042) rfl
theorem zg_22_8 : Zgo d 22 8 L st S Q ↔ (zpa st False fun r t => zde r 1 False fun o => Zgo d 22 11 L (zi (S.1 1 o 1) :: t) S Q) := Zgo_iff (i := .getfield 44) (len := 3) (a := 1) (b := 1) (c := 0) (p := 1044) rfl
theorem zg_22_11 : Zgo d 22 11 L st S Q ↔ (zpi st False fun y t => zpi t False fun x t => if zw x < zw y then Zgo d 22 14 L t S Q else Zgo d 22 46 L t S Q) := Zgo_iff (i := .if_icmp .ge 35) (len := 3) (a := 0) (b := 0) (c := 0) (p := 0) rfl
theorem zg_22_14 : Zgo d 22 14 L st S Q ↔ (zlda L 0 False fun r => Zgo d 22 15 L (zq r :: st) S Q) := Zgo_iff (i := .aload_n 0) (len := 1) (a := 0) (b := 0) (c := 0) (p := 0) rfl
theorem zg_22_15 : Zgo d 22 15 L st S Q ↔ (zpa st False fun r t => zde r 8 False fun o => Zgo d 22 18 L (zq (S.2.1 8 o 0) :: t) S Q) := Zgo_iff (i := .getfield 9) (len := 3) (a := 8) (b := 0) (c := 3) (p := 2042) rfl
theorem zg_22_18 : Zgo d 22 18 L st S Q ↔ (zpa st False fun r t => zde r 1 False fun o => Zgo d 22 21 L (zq (S.2.1 1 o 0) :: t) S Q) := Zgo_iff (i := .getfield 189) (len := 3) (a := 1) (b := 0) (c := 3) (p := 1042) rfl
theorem zg_22_21 : Zgo d 22 21 L st S Q ↔ (zlda L 0 False fun r => Zgo d 22 22 L (zq r :: st) S Q) := Zgo_iff (i := .aload_n 0) (len := 1) (a := 0) (b := 0) (c := 0) (p := 0) rfl
theorem zg_22_22 : Zgo d 22 22 L st S Q ↔ (zpa st False fun r t => zde r 8 False fun o => Zgo d 22 25 L (zi (S.1 8 o 2) :: t) S Q) := Zgo_iff (i := .getfield 19) (len := 3) (a := 8) (b := 2) (c := 0) (p := 2044) rfl
theorem zg_22_25 : Zgo d 22 25 L st S Q ↔ (zpi st False fun j t => zpa t False fun r t => znn r False fun q o => zop (zlen S q) False fun n => if n.1 = 2 then zix j n.2 False fun x => Zgo d 22 26 L (zi (S.1 q o x) :: t) S Q else False) := Zgo_iff (i := .caload) (len := 1) (a := 0) (b := 0) (c := 0) (p := 0) rfl
theorem zg_22_26 : Zgo d 22 26 L st S Q ↔ (zldi L 1 False fun x => Zgo d 22 27 L (zi x :: st) S Q) := Zgo_iff (i := .iload_n 1) (len := 1) (a := 0) (b := 0) (c := 0) (p := 0) rfl
theorem zg_22_27 : Zgo d 22 27 L st S Q ↔ (zpi st False fun y t => zpi t False fun x t => if zw x < zw y then Zgo d 22 46 L t S Q else Zgo d 22 30 L t S Q) := Zgo_iff (i := .if_icmp .lt 19) (len := 3) (a := 0) (b := 0) (c := 0) (p := 0) rfl
theorem zg_22_30 : Zgo d 22 30 L st S Q ↔ (zlda L 0 False fun r => Zgo d 22 31 L (zq r :: st) S Q) := Zgo_iff (i := .aload_n 0) (len := 1) (a := 0) (b := 0) (c := 0) (p := 0) rfl
theorem zg_22_31 : Zgo d 22 31 L st S Q ↔ (zpa st False fun r t => zde r 8 False fun o => Zgo d 22 34 L (zq (S.2.1 8 o 0) :: t) S Q) := Zgo_iff (i := .getfield 9) (len := 3) (a := 8) (b := 0) (c := 3) (p := 2042) rfl
theorem zg_22_34 : Zgo d 22 34 L st S Q ↔ (zpa st False fun r t => zde r 1 False fun o => Zgo d 22 37 L (zq (S.2.1 1 o 0) :: t) S Q) := Zgo_iff (i := .getfield 189) (len := 3) (a := 1) (b := 0) (c := 3) (p := 1042) rfl
theorem zg_22_37 : Zgo d 22 37 L st S Q ↔ (zlda L 0 False fun r => Zgo d 22 38 L (zq r :: st) S Q) := Zgo_iff (i := .aload_n 0) (len := 1) (a := 0) (b := 0) (c := 0) (p := 0) rfl
theorem zg_22_38 : Zgo d 22 38 L st S Q ↔ (zpa st False fun r t => zde r 8 False fun o => Zgo d 22 41 L (zi (S.1 8 o 2) :: t) S Q) := Zgo_iff (i := .getfield 19) (len := 3) (a := 8) (b := 2) (c := 0) (p := 2044) rfl
theorem zg_22_41 : Zgo d 22 41 L st S Q ↔ (zpi st False fun j t => zpa t False fun r t => znn r False fun q o => zop (zlen S q) False fun n => if n.1 = 2 then zix j n.2 False fun x => Zgo d 22 42 L (zi (S.1 q o x) :: t) S Q else False) := Zgo_iff (i := .caload) (len := 1) (a := 0) (b := 0) (c := 0) (p := 0) rfl
theorem zg_22_42 : Zgo d 22 42 L st S Q ↔ (zldi L 2 False fun x => Zgo d 22 43 L (zi x :: st) S Q) := Zgo_iff (i := .iload_n 2) (len := 1) (a := 0) (b := 0) (c := 0) (p := 0) rfl
theorem zg_22_43 : Zgo d 22 43 L st S Q ↔ (zpi st False fun y t => zpi t False fun x t => if zw y < zw x then Zgo d 22 46 L t S Q else Zgo d 22 48 L t S Q) := Zgo_iff (i := .if_icmp .le 5) (len := 3) (a := 0) (b := 0) (c := 0) (p := 0) rfl
theorem zg_22_46 : Zgo d 22 46 L st S Q ↔ (Zgo d 22 47 L (zi (-1) :: st) S Q) := Zgo_iff (i := .iconst (-1)) (len := 1) (a := 0) (b := 0) (c := 0) (p := 0) rfl
theorem zg_22_47 : Zgo d 22 47 L st S Q ↔ (zpi st False fun x t => zem t False (Q (some (zi x)) S)) := Zgo_iff (i := .ireturn) (len := 1) (a := 0) (b := 0) (c := 0) (p := 0) rfl
theorem zg_22_48 : Zgo d 22 48 L st S Q ↔ (zlda L 0 False fun r => Zgo d 22 49 L (zq r :: st) S Q) := Zgo_iff (i := .aload_n 0) (len := 1) (a := 0) (b := 0) (c := 0) (p := 0) rfl
theorem zg_22_49 : Zgo d 22 49 L st S Q ↔ (zpa st False fun r t => zde r 8 False fun o => Zgo d 22 52 L (zq (S.2.1 8 o 0) :: t) S Q) := Zgo_iff (i := .getfield 9) (len := 3) (a := 8) (b := 0) (c := 3) (p := 2042) rfl
theorem zg_22_52 : Zgo d 22 52 L st S Q ↔ (zpa st False fun r t => zde r 1 False fun o => Zgo d 22 55 L (zq (S.2.1 1 o 0) :: t) S Q) := Zgo_iff (i := .getfield 189) (len := 3) (a := 1) (b := 0) (c := 3) (p := 1042) rfl
theorem zg_22_55 : Zgo d 22 55 L st S Q ↔ (zlda L 0 False fun r => Zgo d 22 56 L (zq r :: st) S Q) := Zgo_iff (i := .aload_n 0) (len := 1) (a := 0) (b := 0) (c := 0) (p := 0) rfl
theorem zg_22_56 : Zgo d 22 56 L st S Q ↔ (zp1 st False fun v t => Zgo d 22 57 L (v :: v :: t) S Q) := Zgo_iff (i := .dup) (len := 1) (a := 0) (b := 0) (c := 0) (p := 0) rfl
theorem zg_22_57 : Zgo d 22 57 L st S Q ↔ (zpa st False fun r t => zde r 8 False fun o => Zgo d 22 60 L (zi (S.1 8 o 2) :: t) S Q) := Zgo_iff (i := .getfield 19) (len := 3) (a := 8) (b := 2) (c := 0) (p := 2044) rfl
theorem zg_22_60 : Zgo d 22 60 L st S Q ↔ (zp1 st False fun v t => zp1 t False fun u t => Zgo d 22 61 L (v :: u :: v :: t) S Q) := Zgo_iff (i := .dup_x1) (len := 1) (a := 0) (b := 0) (c := 0) (p := 0) rfl
theorem zg_22_61 : Zgo d 22 61 L st S Q ↔ (Zgo d 22 62 L (zi 1 :: st) S Q) := Zgo_iff (i := .iconst 1) (len := 1) (a := 0) (b := 0) (c := 0) (p := 0) rfl
theorem zg_22_62 : Zgo d 22 62 L st S Q ↔ (zpi st False fun y t => zpi t False fun x t => Zgo d 22 63 L (zi (x + y) :: t) S Q) := Zgo_iff (i := .iadd) (len := 1) (a := 0) (b := 0) (c := 0) (p := 0) rfl
theorem zg_22_63 : Zgo d 22 63 L st S Q ↔ (zpi st False fun v t => zpa t False fun r t => zde r 8 False fun o => Zgo d 22 66 L t (zsI S.1 8 o 2 v, S.2) Q) := Zgo_iff (i := .putfield 19) (len := 3) (a := 8) (b := 2) (c := 0) (p := 2044) rfl
theorem zg_22_66 : Zgo d 22 66 L st S Q ↔ (zpi st False fun j t => zpa t False fun r t => znn r False fun q o => zop (zlen S q) False fun n => if n.1 = 2 then zix j n.2 False fun x => Zgo d 22 67 L (zi (S.1 q o x) :: t) S Q else False) := Zgo_iff (i := .caload) (len := 1) (a := 0) (b := 0) (c := 0) (p := 0) rfl
theorem zg_22_67 : Zgo d 22 67 L st S Q ↔ (zldi L 1 False fun x => Zgo d 22 68 L (zi x :: st) S Q) := Zgo_iff (i := .iload_n 1) (len := 1) (a := 0) (b := 0) (c := 0) (p := 0) rfl
theorem zg_22_68 : Zgo d 22 68 L st S Q ↔ (zpi st False fun y t => zpi t False fun x t => Zgo d 22 69 L (zi (x - y) :: t) S Q) := Zgo_iff (i := .isub) (len := 1) (a := 0) (b := 0) (c := 0) (p := 0) rfl
theorem zg_22_69 : Zgo d 22 69 L st S Q ↔ (zpi st False fun x t => zem t False (Q (some (zi x)) S)) := Zgo_iff (i := .ireturn) (len := 1) (a := 0) (b := 0) (c := 0) (p := 0) rfl
/-- LeavingMachine$Program.addProcedure(I)LLeavingMachine$Procedure; -/
theorem zg_23_0 : Zgo d 23 0 L st S Q ↔ (zlda L 0 False fun r => Zgo d 23 1 L (zq r :: st) S Q) := Zgo_iff (i := .aload_n 0) (len := 1) (a := 0) (b := 0) (c := 0) (p := 0) rfl
theorem zg_23_1 : Zgo d 23 1 L st S Q ↔ (zpa st False fun r t => zde r 7 False fun o => Zgo d 23 4 L (zi (S.1 7 o 4) :: t) S Q) := Zgo_iff (i := .getfield 54) (len := 3) (a := 7) (b := 4) (c := 0) (p := 2001) rfl
theorem zg_23_4 : Zgo d 23 4 L st S Q ↔ (Zgo d 23 5 L (zi 3 :: st) S Q) := Zgo_iff (i := .iconst 3) (len := 1) (a := 0) (b := 0) (c := 0) (p := 0) rfl
theorem zg_23_5 : Zgo d 23 5 L st S Q ↔ (zpi st False fun y t => zpi t False fun x t => if zw x = zw y then Zgo d 23 8 L t S Q else Zgo d 23 10 L t S Q) := Zgo_iff (i := .if_icmp .ne 5) (len := 3) (a := 0) (b := 0) (c := 0) (p := 0) rfl
theorem zg_23_8 : Zgo d 23 8 L st S Q ↔ (Zgo d 23 9 L (zq none :: st) S Q) := Zgo_iff (i := .aconst_null) (len := 1) (a := 0) (b := 0) (c := 0) (p := 0) rfl
theorem zg_23_9 : Zgo d 23 9 L st S Q ↔ (zpa st False fun x t => zem t False (Q (some (zq x)) S)) := Zgo_iff (i := .areturn) (len := 1) (a := 0) (b := 0) (c := 0) (p := 0) rfl
theorem zg_23_10 : Zgo d 23 10 L st S Q ↔ (zlda L 0 False fun r => Zgo d 23 11 L (zq r :: st) S Q) := Zgo_iff (i := .aload_n 0) (len := 1) (a := 0) (b := 0) (c := 0) (p := 0) rfl
theorem zg_23_11 : Zgo d 23 11 L st S Q ↔ (zpa st False fun r t => zde r 7 False fun o => Zgo d 23 14 L (zq (S.2.1 7 o 0) :: t) S Q) := Zgo_iff (i := .getfield 11) (len := 3) (a := 7) (b := 0) (c := 3) (p := 1229) rfl
theorem zg_23_14 : Zgo d 23 14 L st S Q ↔ (zlda L 0 False fun r => Zgo d 23 15 L (zq r :: st) S Q) := Zgo_iff (i := .aload_n 0) (len := 1) (a := 0) (b := 0) (c := 0) (p := 0) rfl
theorem zg_23_15 : Zgo d 23 15 L st S Q ↔ (zp1 st False fun v t => Zgo d 23 16 L (v :: v :: t) S Q) := Zgo_iff (i := .dup) (len := 1) (a := 0) (b := 0) (c := 0) (p := 0) rfl
theorem zg_23_16 : Zgo d 23 16 L st S Q ↔ (zpa st False fun r t => zde r 7 False fun o => Zgo d 23 19 L (zi (S.1 7 o 4) :: t) S Q) := Zgo_iff (i := .getfield 54) (len := 3) (a := 7) (b := 4) (c := 0) (p := 2001) rfl
theorem zg_23_19 : Zgo d 23 19 L st S Q ↔ (zp1 st False fun v t => zp1 t False fun u t => Zgo d 23 20 L (v :: u :: v :: t) S Q) := Zgo_iff (i := .dup_x1) (len := 1) (a := 0) (b := 0) (c := 0) (p := 0) rfl
theorem zg_23_20 : Zgo d 23 20 L st S Q ↔ (Zgo d 23 21 L (zi 1 :: st) S Q) := Zgo_iff (i := .iconst 1) (len := 1) (a := 0) (b := 0) (c := 0) (p := 0) rfl
theorem zg_23_21 : Zgo d 23 21 L st S Q ↔ (zpi st False fun y t => zpi t False fun x t => Zgo d 23 22 L (zi (x + y) :: t) S Q) := Zgo_iff (i := .iadd) (len := 1) (a := 0) (b := 0) (c := 0) (p := 0) rfl
theorem zg_23_22 : Zgo d 23 22 L st S Q ↔ (zpi st False fun v t => zpa t False fun r t => zde r 7 False fun o => Zgo d 23 25 L t (zsI S.1 7 o 4 v, S.2) Q) := Zgo_iff (i := .putfield 54) (len := 3) (a := 7) (b := 4) (c := 0) (p := 2001) rfl
theorem zg_23_25 : Zgo d 23 25 L st S Q ↔ (zpi st False fun j t => zpa t False fun r t => znn r False fun q o => zop (zlen S q) False fun n => if n.1 = 3 then zix j n.2 False fun x => Zgo d 23 26 L (zq (S.2.1 q o x) :: t) S Q else False) := Zgo_iff (i := .aaload) (len := 1) (a := 0) (b := 0) (c := 0) (p := 0) rfl
theorem zg_23_26 : Zgo d 23 26 L st S Q ↔ (zpa st False fun x t => Zgo d 23 27 (zst L 2 (some (zq x))) t S Q) := Zgo_iff (i := .astore_n 2) (len := 1) (a := 0) (b := 0) (c := 0) (p := 0) rfl
theorem zg_23_27 : Zgo d 23 27 L st S Q ↔ (zlda L 2 False fun r => Zgo d 23 28 L (zq r :: st) S Q) := Zgo_iff (i := .aload_n 2) (len := 1) (a := 0) (b := 0) (c := 0) (p := 0) rfl
theorem zg_23_28 : Zgo d 23 28 L st S Q ↔ (zldi L 1 False fun x => Zgo d 23 29 L (zi x :: st) S Q) := Zgo_iff (i := .iload_n 1) (len := 1) (a := 0) (b := 0) (c := 0) (p := 0) rfl
theorem zg_23_29 : Zgo d 23 29 L st S Q ↔ (zpi st False fun v t => zpa t False fun r t => zde r 2 False fun o => Zgo d 23 32 L t (zsI S.1 2 o 0 v, S.2) Q) := Zgo_iff (i := .putfield 70) (len := 3) (a := 2) (b := 0) (c := 0) (p := 1065) rfl
theorem zg_23_32 : Zgo d 23 32 L st S Q ↔ (zlda L 2 False fun r => Zgo d 23 33 L (zq r :: st) S Q) := Zgo_iff (i := .aload_n 2) (len := 1) (a := 0) (b := 0) (c := 0) (p := 0) rfl
theorem zg_23_33 : Zgo d 23 33 L st S Q ↔ (zpa st False fun x t => zem t False (Q (some (zq x)) S)) := Zgo_iff (i := .areturn) (len := 1) (a := 0) (b := 0) (c := 0) (p := 0) rfl
/-- LeavingMachine$Reader.readTags()I -/
theorem zg_24_0 : Zgo d 24 0 L st S Q ↔ (Zgo d 24 1 L (zi 0 :: st) S Q) := Zgo_iff (i := .iconst 0) (len := 1) (a := 0) (b := 0) (c := 0) (p := 0) rfl
theorem zg_24_1 : Zgo d 24 1 L st S Q ↔ (zpi st False fun x t => Zgo d 24 2 (zst L 1 (some (zi x))) t S Q) := Zgo_iff (i := .istore_n 1) (len := 1) (a := 0) (b := 0) (c := 0) (p := 0) rfl
theorem zg_24_2 : Zgo d 24 2 L st S Q ↔ (Zgo d 24 3 L (zi 0 :: st) S Q) := Zgo_iff (i := .iconst 0) (len := 1) (a := 0) (b := 0) (c := 0) (p := 0) rfl
theorem zg_24_3 : Zgo d 24 3 L st S Q ↔ (zpi st False fun x t => Zgo d 24 4 (zst L 2 (some (zi x))) t S Q) := Zgo_iff (i := .istore_n 2) (len := 1) (a := 0) (b := 0) (c := 0) (p := 0) rfl
theorem zg_24_4 : Zgo d 24 4 L st S Q ↔ (zldi L 2 False fun x => Zgo d 24 5 L (zi x :: st) S Q) := Zgo_iff (i := .iload_n 2) (len := 1) (a := 0) (b := 0) (c := 0) (p := 0) rfl
theorem zg_24_5 : Zgo d 24 5 L st S Q ↔ (Zgo d 24 6 L (zi 5 :: st) S Q) := Zgo_iff (i := .iconst 5) (len := 1) (a := 0) (b := 0) (c := 0) (p := 0) rfl
theorem zg_24_6 : Zgo d 24 6 L st S Q ↔ (zpi st False fun y t => zpi t False fun x t => if zw x < zw y then Zgo d 24 9 L t S Q else Zgo d 24 33 L t S Q) := Zgo_iff (i := .if_icmp .ge 27) (len := 3) (a := 0) (b := 0) (c := 0) (p := 0) rfl
theorem zg_24_9 : Zgo d 24 9 L st S Q ↔ (zlda L 0 False fun r => Zgo d 24 10 L (zq r :: st) S Q) := Zgo_iff (i := .aload_n 0) (len := 1) (a := 0) (b := 0) (c := 0) (p := 0) rfl
theorem zg_24_10 : Zgo d 24 10 L st S Q ↔ (Zgo d 24 12 L (zi 48 :: st) S Q) := Zgo_iff (i := .bipush 48) (len := 2) (a := 0) (b := 0) (c := 0) (p := 0) rfl
theorem zg_24_12 : Zgo d 24 12 L st S Q ↔ (zldi L 2 False fun x => Zgo d 24 13 L (zi x :: st) S Q) := Zgo_iff (i := .iload_n 2) (len := 1) (a := 0) (b := 0) (c := 0) (p := 0) rfl
theorem zg_24_13 : Zgo d 24 13 L st S Q ↔ (zpi st False fun y t => zpi t False fun x t => Zgo d 24 14 L (zi (x + y) :: t) S Q) := Zgo_iff (i := .iadd) (len := 1) (a := 0) (b := 0) (c := 0) (p := 0) rfl
theorem zg_24_14 : Zgo d 24 14 L st S Q ↔ (zpi st False fun x t => Zgo d 24 15 L (zi (x % 65536) :: t) S Q) := Zgo_iff (i := .i2c) (len := 1) (a := 0) (b := 0) (c := 0) (p := 0) rfl
theorem zg_24_15 : Zgo d 24 15 L st S Q ↔ (zinv 2 st False fun as t => zrec as 8 False (zCp d 20 as S fun r S2 => Zgo d 24 18 L (r.toList ++ t) S2 Q)) := Zgo_iff (i := .invokevirtual 28) (len := 3) (a := 20) (b := 2) (c := 0) (p := 2164) rfl
theorem zg_24_18 : Zgo d 24 18 L st S Q ↔ (zpi st False fun x t => if zw x = zw 0 then Zgo d 24 27 L t S Q else Zgo d 24 21 L t S Q) := Zgo_iff (i := .ifCond .eq 9) (len := 3) (a := 0) (b := 0) (c := 0) (p := 0) rfl
theorem zg_24_21 : Zgo d 24 21 L st S Q ↔ (zldi L 1 False fun x => Zgo d 24 22 L (zi x :: st) S Q) := Zgo_iff (i := .iload_n 1) (len := 1) (a := 0) (b := 0) (c := 0) (p := 0) rfl
theorem zg_24_22 : Zgo d 24 22 L st S Q ↔ (Zgo d 24 23 L (zi 1 :: st) S Q) := Zgo_iff (i := .iconst 1) (len := 1) (a := 0) (b := 0) (c := 0) (p := 0) rfl
theorem zg_24_23 : Zgo d 24 23 L st S Q ↔ (zldi L 2 False fun x => Zgo d 24 24 L (zi x :: st) S Q) := Zgo_iff (i := .iload_n 2) (len := 1) (a := 0) (b := 0) (c := 0) (p := 0) rfl
theorem zg_24_24 : Zgo d 24 24 L st S Q ↔ (zpi st False fun y t => zpi t False fun x t => Zgo d 24 25 L (zi (zshl x y) :: t) S Q) := Zgo_iff (i := .ishl) (len := 1) (a := 0) (b := 0) (c := 0) (p := 0) rfl
theorem zg_24_25 : Zgo d 24 25 L st S Q ↔ (zpi st False fun y t => zpi t False fun x t => Zgo d 24 26 L (zi (zor x y) :: t) S Q) := Zgo_iff (i := .ior) (len := 1) (a := 0) (b := 0) (c := 0) (p := 0) rfl
theorem zg_24_26 : Zgo d 24 26 L st S Q ↔ (zpi st False fun x t => Zgo d 24 27 (zst L 1 (some (zi x))) t S Q) := Zgo_iff (i := .istore_n 1) (len := 1) (a := 0) (b := 0) (c := 0) (p := 0) rfl
theorem zg_24_27 : Zgo d 24 27 L st S Q ↔ (zldi L 2 False fun x => Zgo d 24 30 (zst L 2 (some (zi (x + 1)))) st S Q) := Zgo_iff (i := .iinc 2 1) (len := 3) (a := 0) (b := 0) (c := 0) (p := 0) rfl
theorem zg_24_30 : Zgo d 24 30 L st S Q ↔ (Zgo d 24 4 L st S Q) := Zgo_iff (i := .goto (-26)) (len := 3) (a := 0) (b := 0) (c := 0) (p := 0) rfl
theorem zg_24_33 : Zgo d 24 33 L st S Q ↔ (zldi L 1 False fun x => Zgo d 24 34 L (zi x :: st) S Q) := Zgo_iff (i := .iload_n 1) (len := 1) (a := 0) (b := 0) (c := 0) (p := 0) rfl
theorem zg_24_34 : Zgo d 24 34 L st S Q ↔ (zpi st False fun x t => zem t False (Q (some (zi x)) S)) := Zgo_iff (i := .ireturn) (len := 1) (a := 0) (b := 0) (c := 0) (p := 0) rfl
/-- LeavingMachine$Reader.readBody(LLeavingMachine$Procedure;)Z -/
theorem zg_25_0 : Zgo d 25 0 L st S Q ↔ (zlda L 1 False fun r => Zgo d 25 1 L (zq r :: st) S Q) := Zgo_iff (i := .aload_n 1) (len := 1) (a := 0) (b := 0) (c := 0) (p := 0) rfl
theorem zg_25_1 : Zgo d 25 1 L st S Q ↔ (zlda L 0 False fun r => Zgo d 25 2 L (zq r :: st) S Q) := Zgo_iff (i := .aload_n 0) (len := 1) (a := 0) (b := 0) (c := 0) (p := 0) rfl
theorem zg_25_2 : Zgo d 25 2 L st S Q ↔ (Zgo d 25 3 L (zi 1 :: st) S Q) := Zgo_iff (i := .iconst 1) (len := 1) (a := 0) (b := 0) (c := 0) (p := 0) rfl
theorem zg_25_3 : Zgo d 25 3 L st S Q ↔ (Zgo d 25 4 L (zi 0 :: st) S Q) := Zgo_iff (i := .iconst 0) (len := 1) (a := 0) (b := 0) (c := 0) (p := 0) rfl
theorem zg_25_4 : Zgo d 25 4 L st S Q ↔ (Zgo d 25 5 L (zi (-1) :: st) S Q) := Zgo_iff (i := .iconst (-1)) (len := 1) (a := 0) (b := 0) (c := 0) (p := 0) rfl
theorem zg_25_5 : Zgo d 25 5 L st S Q ↔ (zinv 4 st False fun as t => zrec as 8 False (zCp d 26 as S fun r S2 => Zgo d 25 8 L (r.toList ++ t) S2 Q)) := Zgo_iff (i := .invokevirtual 66) (len := 3) (a := 26) (b := 4) (c := 0) (p := 2188) rfl
theorem zg_25_8 : Zgo d 25 8 L st S Q ↔ (zpa st False fun v t => zpa t False fun r t => zde r 2 False fun o => Zgo d 25 11 L t (S.1, zsR S.2.1 2 o 3 v, S.2.2) Q) := Zgo_iff (i := .putfield 70) (len := 3) (a := 2) (b := 3) (c := 3) (p := 1073) rfl
theorem zg_25_11 : Zgo d 25 11 L st S Q ↔ (zlda L 1 False fun r => Zgo d 25 12 L (zq r :: st) S Q) := Zgo_iff (i := .aload_n 1) (len := 1) (a := 0) (b := 0) (c := 0) (p := 0) rfl
theorem zg_25_12 : Zgo d 25 12 L st S Q ↔ (zpa st False fun r t => zde r 2 False fun o => Zgo d 25 15 L (zq (S.2.1 2 o 3) :: t) S Q) := Zgo_iff (i := .getfield 70) (len := 3) (a := 2) (b := 3) (c := 3) (p := 1073) rfl
theorem zg_25_15 : Zgo d 25 15 L st S Q ↔ (zpa st False fun x t => if x = none then Zgo d 25 22 L t S Q else Zgo d 25 18 L t S Q) := Zgo_iff (i := .ifnull 7) (len := 3) (a := 0) (b := 0) (c := 0) (p := 0) rfl
theorem zg_25_18 : Zgo d 25 18 L st S Q ↔ (Zgo d 25 19 L (zi 1 :: st) S Q) := Zgo_iff (i := .iconst 1) (len := 1) (a := 0) (b := 0) (c := 0) (p := 0) rfl
theorem zg_25_19 : Zgo d 25 19 L st S Q ↔ (Zgo d 25 23 L st S Q) := Zgo_iff (i := .goto 4) (len := 3) (a := 0) (b := 0) (c := 0) (p := 0) rfl
theorem zg_25_22 : Zgo d 25 22 L st S Q ↔ (Zgo d 25 23 L (zi 0 :: st) S Q) := Zgo_iff (i := .iconst 0) (len := 1) (a := 0) (b := 0) (c := 0) (p := 0) rfl
theorem zg_25_23 : Zgo d 25 23 L st S Q ↔ (zpi st False fun x t => zem t False (zok 1 x False (Q (some (zi x)) S))) := Zgo_iff (i := .ireturn) (len := 1) (a := 0) (b := 0) (c := 0) (p := 0) rfl
/-- LeavingMachine$Reader.readBlock(IZI)LLeavingMachine$Block; -/
theorem zg_26_0 : Zgo d 26 0 L st S Q ↔ (zldi L 1 False fun x => Zgo d 26 1 L (zi x :: st) S Q) := Zgo_iff (i := .iload_n 1) (len := 1) (a := 0) (b := 0) (c := 0) (p := 0) rfl
theorem zg_26_1 : Zgo d 26 1 L st S Q ↔ (Zgo d 26 2 L (zi 4 :: st) S Q) := Zgo_iff (i := .iconst 4) (len := 1) (a := 0) (b := 0) (c := 0) (p := 0) rfl
theorem zg_26_2 : Zgo d 26 2 L st S Q ↔ (zpi st False fun y t => zpi t False fun x t => if zw y < zw x then Zgo d 26 14 L t S Q else Zgo d 26 5 L t S Q) := Zgo_iff (i := .if_icmp .gt 12) (len := 3) (a := 0) (b := 0) (c := 0) (p := 0) rfl
theorem zg_26_5 : Zgo d 26 5 L st S Q ↔ (zlda L 0 False fun r => Zgo d 26 6 L (zq r :: st) S Q) := Zgo_iff (i := .aload_n 0) (len := 1) (a := 0) (b := 0) (c := 0) (p := 0) rfl
theorem zg_26_6 : Zgo d 26 6 L st S Q ↔ (Zgo d 26 8 L (zi 123 :: st) S Q) := Zgo_iff (i := .bipush 123) (len := 2) (a := 0) (b := 0) (c := 0) (p := 0) rfl
theorem zg_26_8 : Zgo d 26 8 L st S Q ↔ (zinv 2 st False fun as t => zrec as 8 False (zCp d 20 as S fun r S2 => Zgo d 26 11 L (r.toList ++ t) S2 Q)) := Zgo_iff (i := .invokevirtual 28) (len := 3) (a := 20) (b := 2) (c := 0) (p := 2164) rfl
theorem zg_26_11 : Zgo d 26 11 L st S Q ↔ (zpi st False fun x t => if zw x = zw 0 then Zgo d 26 14 L t S Q else Zgo d 26 16 L t S Q) := Zgo_iff (i := .ifCond .ne 5) (len := 3) (a := 0) (b := 0) (c := 0) (p := 0) rfl
theorem zg_26_14 : Zgo d 26 14 L st S Q ↔ (Zgo d 26 15 L (zq none :: st) S Q) := Zgo_iff (i := .aconst_null) (len := 1) (a := 0) (b := 0) (c := 0) (p := 0) rfl
theorem zg_26_15 : Zgo d 26 15 L st S Q ↔ (zpa st False fun x t => zem t False (Q (some (zq x)) S)) := Zgo_iff (i := .areturn) (len := 1) (a := 0) (b := 0) (c := 0) (p := 0) rfl
theorem zg_26_16 : Zgo d 26 16 L st S Q ↔ (zlda L 0 False fun r => Zgo d 26 17 L (zq r :: st) S Q) := Zgo_iff (i := .aload_n 0) (len := 1) (a := 0) (b := 0) (c := 0) (p := 0) rfl
theorem zg_26_17 : Zgo d 26 17 L st S Q ↔ (zpa st False fun r t => zde r 8 False fun o => Zgo d 26 20 L (zq (S.2.1 8 o 1) :: t) S Q) := Zgo_iff (i := .getfield 15) (len := 3) (a := 8) (b := 1) (c := 3) (p := 2043) rfl
theorem zg_26_20 : Zgo d 26 20 L st S Q ↔ (zldi L 1 False fun x => Zgo d 26 21 L (zi x :: st) S Q) := Zgo_iff (i := .iload_n 1) (len := 1) (a := 0) (b := 0) (c := 0) (p := 0) rfl
theorem zg_26_21 : Zgo d 26 21 L st S Q ↔ (zldi L 2 False fun x => Zgo d 26 22 L (zi x :: st) S Q) := Zgo_iff (i := .iload_n 2) (len := 1) (a := 0) (b := 0) (c := 0) (p := 0) rfl
theorem zg_26_22 : Zgo d 26 22 L st S Q ↔ (zldi L 3 False fun x => Zgo d 26 23 L (zi x :: st) S Q) := Zgo_iff (i := .iload_n 3) (len := 1) (a := 0) (b := 0) (c := 0) (p := 0) rfl
theorem zg_26_23 : Zgo d 26 23 L st S Q ↔ (zinv 4 st False fun as t => zrec as 7 False (zCp d 27 as S fun r S2 => Zgo d 26 26 L (r.toList ++ t) S2 Q)) := Zgo_iff (i := .invokevirtual 74) (len := 3) (a := 27) (b := 4) (c := 0) (p := 2192) rfl
theorem zg_26_26 : Zgo d 26 26 L st S Q ↔ (zpa st False fun x t => Zgo d 26 28 (zst L 4 (some (zq x))) t S Q) := Zgo_iff (i := .astore 4) (len := 2) (a := 0) (b := 0) (c := 0) (p := 0) rfl
theorem zg_26_28 : Zgo d 26 28 L st S Q ↔ (zlda L 4 False fun r => Zgo d 26 30 L (zq r :: st) S Q) := Zgo_iff (i := .aload 4) (len := 2) (a := 0) (b := 0) (c := 0) (p := 0) rfl
theorem zg_26_30 : Zgo d 26 30 L st S Q ↔ (zpa st False fun x t => if x = none then Zgo d 26 33 L t S Q else Zgo d 26 35 L t S Q) := Zgo_iff (i := .ifnonnull 5) (len := 3) (a := 0) (b := 0) (c := 0) (p := 0) rfl
theorem zg_26_33 : Zgo d 26 33 L st S Q ↔ (Zgo d 26 34 L (zq none :: st) S Q) := Zgo_iff (i := .aconst_null) (len := 1) (a := 0) (b := 0) (c := 0) (p := 0) rfl
theorem zg_26_34 : Zgo d 26 34 L st S Q ↔ (zpa st False fun x t => zem t False (Q (some (zq x)) S)) := Zgo_iff (i := .areturn) (len := 1) (a := 0) (b := 0) (c := 0) (p := 0) rfl
theorem zg_26_35 : Zgo d 26 35 L st S Q ↔ (Zgo d 26 36 L (zi 0 :: st) S Q) := Zgo_iff (i := .iconst 0) (len := 1) (a := 0) (b := 0) (c := 0) (p := 0) rfl
theorem zg_26_36 : Zgo d 26 36 L st S Q ↔ (zpi st False fun x t => Zgo d 26 38 (zst L 5 (some (zi x))) t S Q) := Zgo_iff (i := .istore 5) (len := 2) (a := 0) (b := 0) (c := 0) (p := 0) rfl
theorem zg_26_38 : Zgo d 26 38 L st S Q ↔ (zldi L 5 False fun x => Zgo d 26 40 L (zi x :: st) S Q) := Zgo_iff (i := .iload 5) (len := 2) (a := 0) (b := 0) (c := 0) (p := 0) rfl
theorem zg_26_40 : Zgo d 26 40 L st S Q ↔ (Zgo d 26 42 L (zi 80 :: st) S Q) := Zgo_iff (i := .bipush 80) (len := 2) (a := 0) (b := 0) (c := 0) (p := 0) rfl
theorem zg_26_42 : Zgo d 26 42 L st S Q ↔ (zpi st False fun y t => zpi t False fun x t => if zw y < zw x then Zgo d 26 74 L t S Q else Zgo d 26 45 L t S Q) := Zgo_iff (i := .if_icmp .gt 32) (len := 3) (a := 0) (b := 0) (c := 0) (p := 0) rfl
theorem zg_26_45 : Zgo d 26 45 L st S Q ↔ (zlda L 0 False fun r => Zgo d 26 46 L (zq r :: st) S Q) := Zgo_iff (i := .aload_n 0) (len := 1) (a := 0) (b := 0) (c := 0) (p := 0) rfl
theorem zg_26_46 : Zgo d 26 46 L st S Q ↔ (Zgo d 26 48 L (zi 125 :: st) S Q) := Zgo_iff (i := .bipush 125) (len := 2) (a := 0) (b := 0) (c := 0) (p := 0) rfl
theorem zg_26_48 : Zgo d 26 48 L st S Q ↔ (zinv 2 st False fun as t => zrec as 8 False (zCp d 20 as S fun r S2 => Zgo d 26 51 L (r.toList ++ t) S2 Q)) := Zgo_iff (i := .invokevirtual 28) (len := 3) (a := 20) (b := 2) (c := 0) (p := 2164) rfl
theorem zg_26_51 : Zgo d 26 51 L st S Q ↔ (zpi st False fun x t => if zw x = zw 0 then Zgo d 26 57 L t S Q else Zgo d 26 54 L t S Q) := Zgo_iff (i := .ifCond .eq 6) (len := 3) (a := 0) (b := 0) (c := 0) (p := 0) rfl
theorem zg_26_54 : Zgo d 26 54 L st S Q ↔ (zlda L 4 False fun r => Zgo d 26 56 L (zq r :: st) S Q) := Zgo_iff (i := .aload 4) (len := 2) (a := 0) (b := 0) (c := 0) (p := 0) rfl
theorem zg_26_56 : Zgo d 26 56 L st S Q ↔ (zpa st False fun x t => zem t False (Q (some (zq x)) S)) := Zgo_iff (i := .areturn) (len := 1) (a := 0) (b := 0) (c := 0) (p := 0) rfl
theorem zg_26_57 : Zgo d 26 57 L st S Q ↔ (zlda L 0 False fun r => Zgo d 26 58 L (zq r :: st) S Q) := Zgo_iff (i := .aload_n 0) (len := 1) (a := 0) (b := 0) (c := 0) (p := 0) rfl
theorem zg_26_58 : Zgo d 26 58 L st S Q ↔ (zlda L 4 False fun r => Zgo d 26 60 L (zq r :: st) S Q) := Zgo_iff (i := .aload 4) (len := 2) (a := 0) (b := 0) (c := 0) (p := 0) rfl
theorem zg_26_60 : Zgo d 26 60 L st S Q ↔ (zinv 2 st False fun as t => zrec as 8 False (zCp d 28 as S fun r S2 => Zgo d 26 63 L (r.toList ++ t) S2 Q)) := Zgo_iff (i := .invokevirtual 77) (len := 3) (a := 28) (b := 2) (c := 0) (p := 2196) rfl
theorem zg_26_63 : Zgo d 26 63 L st S Q ↔ (zpi st False fun x t => if zw x = zw 0 then Zgo d 26 66 L t S Q else Zgo d 26 68 L t S Q) := Zgo_iff (i := .ifCond .ne 5) (len := 3) (a := 0) (b := 0) (c := 0) (p := 0) rfl
theorem zg_26_66 : Zgo d 26 66 L st S Q ↔ (Zgo d 26 67 L (zq none :: st) S Q) := Zgo_iff (i := .aconst_null) (len := 1) (a := 0) (b := 0) (c := 0) (p := 0) rfl
theorem zg_26_67 : Zgo d 26 67 L st S Q ↔ (zpa st False fun x t => zem t False (Q (some (zq x)) S)) := Zgo_iff (i := .areturn) (len := 1) (a := 0) (b := 0) (c := 0) (p := 0) rfl
theorem zg_26_68 : Zgo d 26 68 L st S Q ↔ (zldi L 5 False fun x => Zgo d 26 71 (zst L 5 (some (zi (x + 1)))) st S Q) := Zgo_iff (i := .iinc 5 1) (len := 3) (a := 0) (b := 0) (c := 0) (p := 0) rfl
theorem zg_26_71 : Zgo d 26 71 L st S Q ↔ (Zgo d 26 38 L st S Q) := Zgo_iff (i := .goto (-33)) (len := 3) (a := 0) (b := 0) (c := 0) (p := 0) rfl
theorem zg_26_74 : Zgo d 26 74 L st S Q ↔ (Zgo d 26 75 L (zq none :: st) S Q) := Zgo_iff (i := .aconst_null) (len := 1) (a := 0) (b := 0) (c := 0) (p := 0) rfl
theorem zg_26_75 : Zgo d 26 75 L st S Q ↔ (zpa st False fun x t => zem t False (Q (some (zq x)) S)) := Zgo_iff (i := .areturn) (len := 1) (a := 0) (b := 0) (c := 0) (p := 0) rfl
/-- LeavingMachine$Program.addBlock(IZI)LLeavingMachine$Block; -/
theorem zg_27_0 : Zgo d 27 0 L st S Q ↔ (zlda L 0 False fun r => Zgo d 27 1 L (zq r :: st) S Q) := Zgo_iff (i := .aload_n 0) (len := 1) (a := 0) (b := 0) (c := 0) (p := 0) rfl
theorem zg_27_1 : Zgo d 27 1 L st S Q ↔ (zpa st False fun r t => zde r 7 False fun o => Zgo d 27 4 L (zi (S.1 7 o 9) :: t) S Q) := Zgo_iff (i := .getfield 61) (len := 3) (a := 7) (b := 9) (c := 0) (p := 2011) rfl
theorem zg_27_4 : Zgo d 27 4 L st S Q ↔ (Zgo d 27 6 L (zi 80 :: st) S Q) := Zgo_iff (i := .bipush 80) (len := 2) (a := 0) (b := 0) (c := 0) (p := 0) rfl
theorem zg_27_6 : Zgo d 27 6 L st S Q ↔ (zpi st False fun y t => zpi t False fun x t => if zw x = zw y then Zgo d 27 9 L t S Q else Zgo d 27 11 L t S Q) := Zgo_iff (i := .if_icmp .ne 5) (len := 3) (a := 0) (b := 0) (c := 0) (p := 0) rfl
theorem zg_27_9 : Zgo d 27 9 L st S Q ↔ (Zgo d 27 10 L (zq none :: st) S Q) := Zgo_iff (i := .aconst_null) (len := 1) (a := 0) (b := 0) (c := 0) (p := 0) rfl
theorem zg_27_10 : Zgo d 27 10 L st S Q ↔ (zpa st False fun x t => zem t False (Q (some (zq x)) S)) := Zgo_iff (i := .areturn) (len := 1) (a := 0) (b := 0) (c := 0) (p := 0) rfl
theorem zg_27_11 : Zgo d 27 11 L st S Q ↔ (zlda L 0 False fun r => Zgo d 27 12 L (zq r :: st) S Q) := Zgo_iff (i := .aload_n 0) (len := 1) (a := 0) (b := 0) (c := 0) (p := 0) rfl
theorem zg_27_12 : Zgo d 27 12 L st S Q ↔ (zpa st False fun r t => zde r 7 False fun o => Zgo d 27 15 L (zq (S.2.1 7 o 7) :: t) S Q) := Zgo_iff (i := .getfield 37) (len := 3) (a := 7) (b := 7) (c := 3) (p := 2009) rfl
theorem zg_27_15 : Zgo d 27 15 L st S Q ↔ (zlda L 0 False fun r => Zgo d 27 16 L (zq r :: st) S Q) := Zgo_iff (i := .aload_n 0) (len := 1) (a := 0) (b := 0) (c := 0) (p := 0) rfl
theorem zg_27_16 : Zgo d 27 16 L st S Q ↔ (zp1 st False fun v t => Zgo d 27 17 L (v :: v :: t) S Q) := Zgo_iff (i := .dup) (len := 1) (a := 0) (b := 0) (c := 0) (p := 0) rfl
theorem zg_27_17 : Zgo d 27 17 L st S Q ↔ (zpa st False fun r t => zde r 7 False fun o => Zgo d 27 20 L (zi (S.1 7 o 9) :: t) S Q) := Zgo_iff (i := .getfield 61) (len := 3) (a := 7) (b := 9) (c := 0) (p := 2011) rfl
theorem zg_27_20 : Zgo d 27 20 L st S Q ↔ (zp1 st False fun v t => zp1 t False fun u t => Zgo d 27 21 L (v :: u :: v :: t) S Q) := Zgo_iff (i := .dup_x1) (len := 1) (a := 0) (b := 0) (c := 0) (p := 0) rfl
theorem zg_27_21 : Zgo d 27 21 L st S Q ↔ (Zgo d 27 22 L (zi 1 :: st) S Q) := Zgo_iff (i := .iconst 1) (len := 1) (a := 0) (b := 0) (c := 0) (p := 0) rfl
theorem zg_27_22 : Zgo d 27 22 L st S Q ↔ (zpi st False fun y t => zpi t False fun x t => Zgo d 27 23 L (zi (x + y) :: t) S Q) := Zgo_iff (i := .iadd) (len := 1) (a := 0) (b := 0) (c := 0) (p := 0) rfl
theorem zg_27_23 : Zgo d 27 23 L st S Q ↔ (zpi st False fun v t => zpa t False fun r t => zde r 7 False fun o => Zgo d 27 26 L t (zsI S.1 7 o 9 v, S.2) Q) := Zgo_iff (i := .putfield 61) (len := 3) (a := 7) (b := 9) (c := 0) (p := 2011) rfl
theorem zg_27_26 : Zgo d 27 26 L st S Q ↔ (zpi st False fun j t => zpa t False fun r t => znn r False fun q o => zop (zlen S q) False fun n => if n.1 = 3 then zix j n.2 False fun x => Zgo d 27 27 L (zq (S.2.1 q o x) :: t) S Q else False) := Zgo_iff (i := .aaload) (len := 1) (a := 0) (b := 0) (c := 0) (p := 0) rfl
theorem zg_27_27 : Zgo d 27 27 L st S Q ↔ (zpa st False fun x t => Zgo d 27 29 (zst L 4 (some (zq x))) t S Q) := Zgo_iff (i := .astore 4) (len := 2) (a := 0) (b := 0) (c := 0) (p := 0) rfl
theorem zg_27_29 : Zgo d 27 29 L st S Q ↔ (zlda L 4 False fun r => Zgo d 27 31 L (zq r :: st) S Q) := Zgo_iff (i := .aload 4) (len := 2) (a := 0) (b := 0) (c := 0) (p := 0) rfl
theorem zg_27_31 : Zgo d 27 31 L st S Q ↔ (zldi L 1 False fun x => Zgo d 27 32 L (zi x :: st) S Q) := Zgo_iff (i := .iload_n 1) (len := 1) (a := 0) (b := 0) (c := 0) (p := 0) rfl
theorem zg_27_32 : Zgo d 27 32 L st S Q ↔ (zpi st False fun v t => zpa t False fun r t => zde r 3 False fun o => Zgo d 27 35 L t (zsI S.1 3 o 0 v, S.2) Q) := Zgo_iff (i := .putfield 73) (len := 3) (a := 3) (b := 0) (c := 0) (p := 1180) rfl
theorem zg_27_35 : Zgo d 27 35 L st S Q ↔ (zlda L 4 False fun r => Zgo d 27 37 L (zq r :: st) S Q) := Zgo_iff (i := .aload 4) (len := 2) (a := 0) (b := 0) (c := 0) (p := 0) rfl
theorem zg_27_37 : Zgo d 27 37 L st S Q ↔ (zldi L 2 False fun x => Zgo d 27 38 L (zi x :: st) S Q) := Zgo_iff (i := .iload_n 2) (len := 1) (a := 0) (b := 0) (c := 0) (p := 0) rfl
theorem zg_27_38 : Zgo d 27 38 L st S Q ↔ (zpi st False fun v t => zpa t False fun r t => zde r 3 False fun o => zok 1 v False (Zgo d 27 41 L t (zsI S.1 3 o 1 v, S.2) Q)) := Zgo_iff (i := .putfield 76) (len := 3) (a := 3) (b := 1) (c := 1) (p := 1182) rfl
theorem zg_27_41 : Zgo d 27 41 L st S Q ↔ (zlda L 4 False fun r => Zgo d 27 43 L (zq r :: st) S Q) := Zgo_iff (i := .aload 4) (len := 2) (a := 0) (b := 0) (c := 0) (p := 0) rfl
theorem zg_27_43 : Zgo d 27 43 L st S Q ↔ (zldi L 3 False fun x => Zgo d 27 44 L (zi x :: st) S Q) := Zgo_iff (i := .iload_n 3) (len := 1) (a := 0) (b := 0) (c := 0) (p := 0) rfl
theorem zg_27_44 : Zgo d 27 44 L st S Q ↔ (zpi st False fun v t => zpa t False fun r t => zde r 3 False fun o => Zgo d 27 47 L t (zsI S.1 3 o 2 v, S.2) Q) := Zgo_iff (i := .putfield 79) (len := 3) (a := 3) (b := 2) (c := 0) (p := 1185) rfl
theorem zg_27_47 : Zgo d 27 47 L st S Q ↔ (zlda L 4 False fun r => Zgo d 27 49 L (zq r :: st) S Q) := Zgo_iff (i := .aload 4) (len := 2) (a := 0) (b := 0) (c := 0) (p := 0) rfl
theorem zg_27_49 : Zgo d 27 49 L st S Q ↔ (Zgo d 27 50 L (zq none :: st) S Q) := Zgo_iff (i := .aconst_null) (len := 1) (a := 0) (b := 0) (c := 0) (p := 0) rfl
theorem zg_27_50 : Zgo d 27 50 L st S Q ↔ (zpa st False fun v t => zpa t False fun r t => zde r 3 False fun o => Zgo d 27 53 L t (S.1, zsR S.2.1 3 o 3 v, S.2.2) Q) := Zgo_iff (i := .putfield 82) (len := 3) (a := 3) (b := 3) (c := 3) (p := 1190) rfl
theorem zg_27_53 : Zgo d 27 53 L st S Q ↔ (zlda L 4 False fun r => Zgo d 27 55 L (zq r :: st) S Q) := Zgo_iff (i := .aload 4) (len := 2) (a := 0) (b := 0) (c := 0) (p := 0) rfl
theorem zg_27_55 : Zgo d 27 55 L st S Q ↔ (Zgo d 27 56 L (zq none :: st) S Q) := Zgo_iff (i := .aconst_null) (len := 1) (a := 0) (b := 0) (c := 0) (p := 0) rfl
theorem zg_27_56 : Zgo d 27 56 L st S Q ↔ (zpa st False fun v t => zpa t False fun r t => zde r 3 False fun o => Zgo d 27 59 L t (S.1, zsR S.2.1 3 o 4 v, S.2.2) Q) := Zgo_iff (i := .putfield 86) (len := 3) (a := 3) (b := 4) (c := 3) (p := 1192) rfl
theorem zg_27_59 : Zgo d 27 59 L st S Q ↔ (zlda L 4 False fun r => Zgo d 27 61 L (zq r :: st) S Q) := Zgo_iff (i := .aload 4) (len := 2) (a := 0) (b := 0) (c := 0) (p := 0) rfl
theorem zg_27_61 : Zgo d 27 61 L st S Q ↔ (zpa st False fun x t => zem t False (Q (some (zq x)) S)) := Zgo_iff (i := .areturn) (len := 1) (a := 0) (b := 0) (c := 0) (p := 0) rfl
/-- LeavingMachine$Reader.readStatement(LLeavingMachine$Block;)Z -/
theorem zg_28_0 : Zgo d 28 0 L st S Q ↔ (zlda L 0 False fun r => Zgo d 28 1 L (zq r :: st) S Q) := Zgo_iff (i := .aload_n 0) (len := 1) (a := 0) (b := 0) (c := 0) (p := 0) rfl
theorem zg_28_1 : Zgo d 28 1 L st S Q ↔ (zpa st False fun r t => zde r 8 False fun o => Zgo d 28 4 L (zq (S.2.1 8 o 1) :: t) S Q) := Zgo_iff (i := .getfield 15) (len := 3) (a := 8) (b := 1) (c := 3) (p := 2043) rfl
theorem zg_28_4 : Zgo d 28 4 L st S Q ↔ (zlda L 1 False fun r => Zgo d 28 5 L (zq r :: st) S Q) := Zgo_iff (i := .aload_n 1) (len := 1) (a := 0) (b := 0) (c := 0) (p := 0) rfl
theorem zg_28_5 : Zgo d 28 5 L st S Q ↔ (zlda L 0 False fun r => Zgo d 28 6 L (zq r :: st) S Q) := Zgo_iff (i := .aload_n 0) (len := 1) (a := 0) (b := 0) (c := 0) (p := 0) rfl
theorem zg_28_6 : Zgo d 28 6 L st S Q ↔ (zinv 1 st False fun as t => zrec as 8 False (zCp d 29 as S fun r S2 => Zgo d 28 9 L (r.toList ++ t) S2 Q)) := Zgo_iff (i := .invokevirtual 93) (len := 3) (a := 29) (b := 1) (c := 0) (p := 2200) rfl
theorem zg_28_9 : Zgo d 28 9 L st S Q ↔ (zinv 3 st False fun as t => zrec as 7 False (zCp d 30 as S fun r S2 => Zgo d 28 12 L (r.toList ++ t) S2 Q)) := Zgo_iff (i := .invokevirtual 97) (len := 3) (a := 30) (b := 3) (c := 0) (p := 2204) rfl
theorem zg_28_12 : Zgo d 28 12 L st S Q ↔ (zpa st False fun x t => Zgo d 28 13 (zst L 2 (some (zq x))) t S Q) := Zgo_iff (i := .astore_n 2) (len := 1) (a := 0) (b := 0) (c := 0) (p := 0) rfl
theorem zg_28_13 : Zgo d 28 13 L st S Q ↔ (zlda L 2 False fun r => Zgo d 28 14 L (zq r :: st) S Q) := Zgo_iff (i := .aload_n 2) (len := 1) (a := 0) (b := 0) (c := 0) (p := 0) rfl
theorem zg_28_14 : Zgo d 28 14 L st S Q ↔ (zpa st False fun x t => if x = none then Zgo d 28 17 L t S Q else Zgo d 28 19 L t S Q) := Zgo_iff (i := .ifnonnull 5) (len := 3) (a := 0) (b := 0) (c := 0) (p := 0) rfl
theorem zg_28_17 : Zgo d 28 17 L st S Q ↔ (Zgo d 28 18 L (zi 0 :: st) S Q) := Zgo_iff (i := .iconst 0) (len := 1) (a := 0) (b := 0) (c := 0) (p := 0) rfl
theorem zg_28_18 : Zgo d 28 18 L st S Q ↔ (zpi st False fun x t => zem t False (zok 1 x False (Q (some (zi x)) S))) := Zgo_iff (i := .ireturn) (len := 1) (a := 0) (b := 0) (c := 0) (p := 0) rfl
theorem zg_28_19 : Zgo d 28 19 L st S Q ↔ (zlda L 2 False fun r => Zgo d 28 20 L (zq r :: st) S Q) := Zgo_iff (i := .aload_n 2) (len := 1) (a := 0) (b := 0) (c := 0) (p := 0) rfl
theorem zg_28_20 : Zgo d 28 20 L st S Q ↔ (zlda L 0 False fun r => Zgo d 28 21 L (zq r :: st) S Q) := Zgo_iff (i := .aload_n 0) (len := 1) (a := 0) (b := 0) (c := 0) (p := 0) rfl
theorem zg_28_21 : Zgo d 28 21 L st S Q ↔ (Zgo d 28 23 L (zi 97 :: st) S Q) := Zgo_iff (i := .bipush 97) (len := 2) (a := 0) (b := 0) (c := 0) (p := 0) rfl
theorem zg_28_23 : Zgo d 28 23 L st S Q ↔ (Zgo d 28 25 L (zi 104 :: st) S Q) := Zgo_iff (i := .bipush 104) (len := 2) (a := 0) (b := 0) (c := 0) (p := 0) rfl
theorem zg_28_25 : Zgo d 28 25 L st S Q ↔ (zinv 3 st False fun as t => zrec as 8 False (zCp d 22 as S fun r S2 => Zgo d 28 28 L (r.toList ++ t) S2 Q)) := Zgo_iff (i := .invokevirtual 49) (len := 3) (a := 22) (b := 3) (c := 0) (p := 2172) rfl
theorem zg_28_28 : Zgo d 28 28 L st S Q ↔ (zpi st False fun v t => zpa t False fun r t => zde r 4 False fun o => Zgo d 28 31 L t (zsI S.1 4 o 1 v, S.2) Q) := Zgo_iff (i := .putfield 101) (len := 3) (a := 4) (b := 1) (c := 0) (p := 1126) rfl
theorem zg_28_31 : Zgo d 28 31 L st S Q ↔ (zlda L 2 False fun r => Zgo d 28 32 L (zq r :: st) S Q) := Zgo_iff (i := .aload_n 2) (len := 1) (a := 0) (b := 0) (c := 0) (p := 0) rfl
theorem zg_28_32 : Zgo d 28 32 L st S Q ↔ (zpa st False fun r t => zde r 4 False fun o => Zgo d 28 35 L (zi (S.1 4 o 1) :: t) S Q) := Zgo_iff (i := .getfield 101) (len := 3) (a := 4) (b := 1) (c := 0) (p := 1126) rfl
theorem zg_28_35 : Zgo d 28 35 L st S Q ↔ (Zgo d 28 36 L (zi (-1) :: st) S Q) := Zgo_iff (i := .iconst (-1)) (len := 1) (a := 0) (b := 0) (c := 0) (p := 0) rfl
theorem zg_28_36 : Zgo d 28 36 L st S Q ↔ (zpi st False fun y t => zpi t False fun x t => if zw x = zw y then Zgo d 28 77 L t S Q else Zgo d 28 39 L t S Q) := Zgo_iff (i := .if_icmp .eq 41) (len := 3) (a := 0) (b := 0) (c := 0) (p := 0) rfl
theorem zg_28_39 : Zgo d 28 39 L st S Q ↔ (zlda L 2 False fun r => Zgo d 28 40 L (zq r :: st) S Q) := Zgo_iff (i := .aload_n 2) (len := 1) (a := 0) (b := 0) (c := 0) (p := 0) rfl
theorem zg_28_40 : Zgo d 28 40 L st S Q ↔ (Zgo d 28 42 L (zi 61 :: st) S Q) := Zgo_iff (i := .bipush 61) (len := 2) (a := 0) (b := 0) (c := 0) (p := 0) rfl
theorem zg_28_42 : Zgo d 28 42 L st S Q ↔ (zpi st False fun v t => zpa t False fun r t => zde r 4 False fun o => zok 2 v False (Zgo d 28 45 L t (zsI S.1 4 o 0 v, S.2) Q)) := Zgo_iff (i := .putfield 106) (len := 3) (a := 4) (b := 0) (c := 2) (p := 1123) rfl
theorem zg_28_45 : Zgo d 28 45 L st S Q ↔ (zlda L 0 False fun r => Zgo d 28 46 L (zq r :: st) S Q) := Zgo_iff (i := .aload_n 0) (len := 1) (a := 0) (b := 0) (c := 0) (p := 0) rfl
theorem zg_28_46 : Zgo d 28 46 L st S Q ↔ (Zgo d 28 48 L (zi 61 :: st) S Q) := Zgo_iff (i := .bipush 61) (len := 2) (a := 0) (b := 0) (c := 0) (p := 0) rfl
theorem zg_28_48 : Zgo d 28 48 L st S Q ↔ (zinv 2 st False fun as t => zrec as 8 False (zCp d 20 as S fun r S2 => Zgo d 28 51 L (r.toList ++ t) S2 Q)) := Zgo_iff (i := .invokevirtual 28) (len := 3) (a := 20) (b := 2) (c := 0) (p := 2164) rfl
theorem zg_28_51 : Zgo d 28 51 L st S Q ↔ (zpi st False fun x t => if zw x = zw 0 then Zgo d 28 75 L t S Q else Zgo d 28 54 L t S Q) := Zgo_iff (i := .ifCond .eq 24) (len := 3) (a := 0) (b := 0) (c := 0) (p := 0) rfl
theorem zg_28_54 : Zgo d 28 54 L st S Q ↔ (zlda L 0 False fun r => Zgo d 28 55 L (zq r :: st) S Q) := Zgo_iff (i := .aload_n 0) (len := 1) (a := 0) (b := 0) (c := 0) (p := 0) rfl
theorem zg_28_55 : Zgo d 28 55 L st S Q ↔ (zlda L 2 False fun r => Zgo d 28 56 L (zq r :: st) S Q) := Zgo_iff (i := .aload_n 2) (len := 1) (a := 0) (b := 0) (c := 0) (p := 0) rfl
theorem zg_28_56 : Zgo d 28 56 L st S Q ↔ (zinv 2 st False fun as t => zrec as 8 False (zCp d 31 as S fun r S2 => Zgo d 28 59 L (r.toList ++ t) S2 Q)) := Zgo_iff (i := .invokevirtual 110) (len := 3) (a := 31) (b := 2) (c := 0) (p := 2208) rfl
theorem zg_28_59 : Zgo d 28 59 L st S Q ↔ (zpi st False fun x t => if zw x = zw 0 then Zgo d 28 75 L t S Q else Zgo d 28 62 L t S Q) := Zgo_iff (i := .ifCond .eq 16) (len := 3) (a := 0) (b := 0) (c := 0) (p := 0) rfl
theorem zg_28_62 : Zgo d 28 62 L st S Q ↔ (zlda L 0 False fun r => Zgo d 28 63 L (zq r :: st) S Q) := Zgo_iff (i := .aload_n 0) (len := 1) (a := 0) (b := 0) (c := 0) (p := 0) rfl
theorem zg_28_63 : Zgo d 28 63 L st S Q ↔ (Zgo d 28 65 L (zi 59 :: st) S Q) := Zgo_iff (i := .bipush 59) (len := 2) (a := 0) (b := 0) (c := 0) (p := 0) rfl
theorem zg_28_65 : Zgo d 28 65 L st S Q ↔ (zinv 2 st False fun as t => zrec as 8 False (zCp d 20 as S fun r S2 => Zgo d 28 68 L (r.toList ++ t) S2 Q)) := Zgo_iff (i := .invokevirtual 28) (len := 3) (a := 20) (b := 2) (c := 0) (p := 2164) rfl
theorem zg_28_68 : Zgo d 28 68 L st S Q ↔ (zpi st False fun x t => if zw x = zw 0 then Zgo d 28 75 L t S Q else Zgo d 28 71 L t S Q) := Zgo_iff (i := .ifCond .eq 7) (len := 3) (a := 0) (b := 0) (c := 0) (p := 0) rfl
theorem zg_28_71 : Zgo d 28 71 L st S Q ↔ (Zgo d 28 72 L (zi 1 :: st) S Q) := Zgo_iff (i := .iconst 1) (len := 1) (a := 0) (b := 0) (c := 0) (p := 0) rfl
theorem zg_28_72 : Zgo d 28 72 L st S Q ↔ (Zgo d 28 76 L st S Q) := Zgo_iff (i := .goto 4) (len := 3) (a := 0) (b := 0) (c := 0) (p := 0) rfl
theorem zg_28_75 : Zgo d 28 75 L st S Q ↔ (Zgo d 28 76 L (zi 0 :: st) S Q) := Zgo_iff (i := .iconst 0) (len := 1) (a := 0) (b := 0) (c := 0) (p := 0) rfl
theorem zg_28_76 : Zgo d 28 76 L st S Q ↔ (zpi st False fun x t => zem t False (zok 1 x False (Q (some (zi x)) S))) := Zgo_iff (i := .ireturn) (len := 1) (a := 0) (b := 0) (c := 0) (p := 0) rfl
theorem zg_28_77 : Zgo d 28 77 L st S Q ↔ (zlda L 0 False fun r => Zgo d 28 78 L (zq r :: st) S Q) := Zgo_iff (i := .aload_n 0) (len := 1) (a := 0) (b := 0) (c := 0) (p := 0) rfl
theorem zg_28_78 : Zgo d 28 78 L st S Q ↔ (zp1 st False fun v t => Zgo d 28 79 L (v :: v :: t) S Q) := Zgo_iff (i := .dup) (len := 1) (a := 0) (b := 0) (c := 0) (p := 0) rfl
theorem zg_28_79 : Zgo d 28 79 L st S Q ↔ (zpa st False fun r t => zde r 8 False fun o => Zgo d 28 82 L (zi (S.1 8 o 2) :: t) S Q) := Zgo_iff (i := .getfield 19) (len := 3) (a := 8) (b := 2) (c := 0) (p := 2044) rfl
theorem zg_28_82 : Zgo d 28 82 L st S Q ↔ (Zgo d 28 83 L (zi 1 :: st) S Q) := Zgo_iff (i := .iconst 1) (len := 1) (a := 0) (b := 0) (c := 0) (p := 0) rfl
theorem zg_28_83 : Zgo d 28 83 L st S Q ↔ (zpi st False fun y t => zpi t False fun x t => Zgo d 28 84 L (zi (x + y) :: t) S Q) := Zgo_iff (i := .iadd) (len := 1) (a := 0) (b := 0) (c := 0) (p := 0) rfl
theorem zg_28_84 : Zgo d 28 84 L st S Q ↔ (zpi st False fun v t => zpa t False fun r t => zde r 8 False fun o => Zgo d 28 87 L t (zsI S.1 8 o 2 v, S.2) Q) := Zgo_iff (i := .putfield 19) (len := 3) (a := 8) (b := 2) (c := 0) (p := 2044) rfl
theorem zg_28_87 : Zgo d 28 87 L st S Q ↔ (zlda L 2 False fun r => Zgo d 28 88 L (zq r :: st) S Q) := Zgo_iff (i := .aload_n 2) (len := 1) (a := 0) (b := 0) (c := 0) (p := 0) rfl
theorem zg_28_88 : Zgo d 28 88 L st S Q ↔ (zpa st False fun r t => zde r 4 False fun o => Zgo d 28 91 L (zi (S.1 4 o 0) :: t) S Q) := Zgo_iff (i := .getfield 106) (len := 3) (a := 4) (b := 0) (c := 2) (p := 1123) rfl
theorem zg_28_180 : Zgo d 28 180 L st S Q ↔ (zlda L 0 False fun r => Zgo d 28 181 L (zq r :: st) S Q) := Zgo_iff (i := .aload_n 0) (len := 1) (a := 0) (b := 0) (c := 0) (p := 0) rfl
theorem zg_28_181 : Zgo d 28 181 L st S Q ↔ (zlda L 2 False fun r => Zgo d 28 182 L (zq r :: st) S Q) := Zgo_iff (i := .aload_n 2) (len := 1) (a := 0) (b := 0) (c := 0) (p := 0) rfl
theorem zg_28_182 : Zgo d 28 182 L st S Q ↔ (zinv 2 st False fun as t => zrec as 8 False (zCp d 31 as S fun r S2 => Zgo d 28 185 L (r.toList ++ t) S2 Q)) := Zgo_iff (i := .invokevirtual 110) (len := 3) (a := 31) (b := 2) (c := 0) (p := 2208) rfl
theorem zg_28_185 : Zgo d 28 185 L st S Q ↔ (zpi st False fun x t => if zw x = zw 0 then Zgo d 28 201 L t S Q else Zgo d 28 188 L t S Q) := Zgo_iff (i := .ifCond .eq 16) (len := 3) (a := 0) (b := 0) (c := 0) (p := 0) rfl
theorem zg_28_188 : Zgo d 28 188 L st S Q ↔ (zlda L 0 False fun r => Zgo d 28 189 L (zq r :: st) S Q) := Zgo_iff (i := .aload_n 0) (len := 1) (a := 0) (b := 0) (c := 0) (p := 0) rfl
theorem zg_28_189 : Zgo d 28 189 L st S Q ↔ (Zgo d 28 191 L (zi 59 :: st) S Q) := Zgo_iff (i := .bipush 59) (len := 2) (a := 0) (b := 0) (c := 0) (p := 0) rfl
theorem zg_28_191 : Zgo d 28 191 L st S Q ↔ (zinv 2 st False fun as t => zrec as 8 False (zCp d 20 as S fun r S2 => Zgo d 28 194 L (r.toList ++ t) S2 Q)) := Zgo_iff (i := .invokevirtual 28) (len := 3) (a := 20) (b := 2) (c := 0) (p := 2164) rfl
theorem zg_28_194 : Zgo d 28 194 L st S Q ↔ (zpi st False fun x t => if zw x = zw 0 then Zgo d 28 201 L t S Q else Zgo d 28 197 L t S Q) := Zgo_iff (i := .ifCond .eq 7) (len := 3) (a := 0) (b := 0) (c := 0) (p := 0) rfl
theorem zg_28_197 : Zgo d 28 197 L st S Q ↔ (Zgo d 28 198 L (zi 1 :: st) S Q) := Zgo_iff (i := .iconst 1) (len := 1) (a := 0) (b := 0) (c := 0) (p := 0) rfl
theorem zg_28_198 : Zgo d 28 198 L st S Q ↔ (Zgo d 28 202 L st S Q) := Zgo_iff (i := .goto 4) (len := 3) (a := 0) (b := 0) (c := 0) (p := 0) rfl
theorem zg_28_201 : Zgo d 28 201 L st S Q ↔ (Zgo d 28 202 L (zi 0 :: st) S Q) := Zgo_iff (i := .iconst 0) (len := 1) (a := 0) (b := 0) (c := 0) (p := 0) rfl
theorem zg_28_202 : Zgo d 28 202 L st S Q ↔ (zpi st False fun x t => zem t False (zok 1 x False (Q (some (zi x)) S))) := Zgo_iff (i := .ireturn) (len := 1) (a := 0) (b := 0) (c := 0) (p := 0) rfl
theorem zg_28_203 : Zgo d 28 203 L st S Q ↔ (zlda L 0 False fun r => Zgo d 28 204 L (zq r :: st) S Q) := Zgo_iff (i := .aload_n 0) (len := 1) (a := 0) (b := 0) (c := 0) (p := 0) rfl
theorem zg_28_204 : Zgo d 28 204 L st S Q ↔ (zlda L 2 False fun r => Zgo d 28 205 L (zq r :: st) S Q) := Zgo_iff (i := .aload_n 2) (len := 1) (a := 0) (b := 0) (c := 0) (p := 0) rfl
theorem zg_28_205 : Zgo d 28 205 L st S Q ↔ (zlda L 1 False fun r => Zgo d 28 206 L (zq r :: st) S Q) := Zgo_iff (i := .aload_n 1) (len := 1) (a := 0) (b := 0) (c := 0) (p := 0) rfl
theorem zg_28_206 : Zgo d 28 206 L st S Q ↔ (zinv 3 st False fun as t => zrec as 8 False (zCp d 36 as S fun r S2 => Zgo d 28 209 L (r.toList ++ t) S2 Q)) := Zgo_iff (i := .invokevirtual 114) (len := 3) (a := 36) (b := 3) (c := 0) (p := 3075) rfl
theorem zg_28_209 : Zgo d 28 209 L st S Q ↔ (zpi st False fun x t => zem t False (zok 1 x False (Q (some (zi x)) S))) := Zgo_iff (i := .ireturn) (len := 1) (a := 0) (b := 0) (c := 0) (p := 0) rfl
theorem zg_28_210 : Zgo d 28 210 L st S Q ↔ (zlda L 0 False fun r => Zgo d 28 211 L (zq r :: st) S Q) := Zgo_iff (i := .aload_n 0) (len := 1) (a := 0) (b := 0) (c := 0) (p := 0) rfl
theorem zg_28_211 : Zgo d 28 211 L st S Q ↔ (zlda L 2 False fun r => Zgo d 28 212 L (zq r :: st) S Q) := Zgo_iff (i := .aload_n 2) (len := 1) (a := 0) (b := 0) (c := 0) (p := 0) rfl
theorem zg_28_212 : Zgo d 28 212 L st S Q ↔ (zlda L 1 False fun r => Zgo d 28 213 L (zq r :: st) S Q) := Zgo_iff (i := .aload_n 1) (len := 1) (a := 0) (b := 0) (c := 0) (p := 0) rfl
theorem zg_28_213 : Zgo d 28 213 L st S Q ↔ (zinv 3 st False fun as t => zrec as 8 False (zCp d 38 as S fun r S2 => Zgo d 28 216 L (r.toList ++ t) S2 Q)) := Zgo_iff (i := .invokevirtual 118) (len := 3) (a := 38) (b := 3) (c := 0) (p := 3083) rfl
theorem zg_28_216 : Zgo d 28 216 L st S Q ↔ (zpi st False fun x t => zem t False (zok 1 x False (Q (some (zi x)) S))) := Zgo_iff (i := .ireturn) (len := 1) (a := 0) (b := 0) (c := 0) (p := 0) rfl
theorem zg_28_217 : Zgo d 28 217 L st S Q ↔ (zlda L 0 False fun r => Zgo d 28 218 L (zq r :: st) S Q) := Zgo_iff (i := .aload_n 0) (len := 1) (a := 0) (b := 0) (c := 0) (p := 0) rfl
theorem zg_28_218 : Zgo d 28 218 L st S Q ↔ (Zgo d 28 220 L (zi 59 :: st) S Q) := Zgo_iff (i := .bipush 59) (len := 2) (a := 0) (b := 0) (c := 0) (p := 0) rfl
theorem zg_28_220 : Zgo d 28 220 L st S Q ↔ (zinv 2 st False fun as t => zrec as 8 False (zCp d 20 as S fun r S2 => Zgo d 28 223 L (r.toList ++ t) S2 Q)) := Zgo_iff (i := .invokevirtual 28) (len := 3) (a := 20) (b := 2) (c := 0) (p := 2164) rfl
theorem zg_28_223 : Zgo d 28 223 L st S Q ↔ (zpi st False fun x t => zem t False (zok 1 x False (Q (some (zi x)) S))) := Zgo_iff (i := .ireturn) (len := 1) (a := 0) (b := 0) (c := 0) (p := 0) rfl
theorem zg_28_224 : Zgo d 28 224 L st S Q ↔ (zlda L 2 False fun r => Zgo d 28 225 L (zq r :: st) S Q) := Zgo_iff (i := .aload_n 2) (len := 1) (a := 0) (b := 0) (c := 0) (p := 0) rfl
theorem zg_28_225 : Zgo d 28 225 L st S Q ↔ (zlda L 0 False fun r => Zgo d 28 226 L (zq r :: st) S Q) := Zgo_iff (i := .aload_n 0) (len := 1) (a := 0) (b := 0) (c := 0) (p := 0) rfl
theorem zg_28_226 : Zgo d 28 226 L st S Q ↔ (Zgo d 28 228 L (zi 48 :: st) S Q) := Zgo_iff (i := .bipush 48) (len := 2) (a := 0) (b := 0) (c := 0) (p := 0) rfl
theorem zg_28_228 : Zgo d 28 228 L st S Q ↔ (Zgo d 28 230 L (zi 52 :: st) S Q) := Zgo_iff (i := .bipush 52) (len := 2) (a := 0) (b := 0) (c := 0) (p := 0) rfl
theorem zg_28_230 : Zgo d 28 230 L st S Q ↔ (zinv 3 st False fun as t => zrec as 8 False (zCp d 22 as S fun r S2 => Zgo d 28 233 L (r.toList ++ t) S2 Q)) := Zgo_iff (i := .invokevirtual 49) (len := 3) (a := 22) (b := 3) (c := 0) (p := 2172) rfl
theorem zg_28_233 : Zgo d 28 233 L st S Q ↔ (zpi st False fun v t => zpa t False fun r t => zde r 4 False fun o => Zgo d 28 236 L t (zsI S.1 4 o 1 v, S.2) Q) := Zgo_iff (i := .putfield 101) (len := 3) (a := 4) (b := 1) (c := 0) (p := 1126) rfl
theorem zg_28_236 : Zgo d 28 236 L st S Q ↔ (zlda L 2 False fun r => Zgo d 28 237 L (zq r :: st) S Q) := Zgo_iff (i := .aload_n 2) (len := 1) (a := 0) (b := 0) (c := 0) (p := 0) rfl
theorem zg_28_237 : Zgo d 28 237 L st S Q ↔ (zpa st False fun r t => zde r 4 False fun o => Zgo d 28 240 L (zi (S.1 4 o 1) :: t) S Q) := Zgo_iff (i := .getfield 101) (len := 3) (a := 4) (b := 1) (c := 0) (p := 1126) rfl
theorem zg_28_240 : Zgo d 28 240 L st S Q ↔ (Zgo d 28 241 L (zi (-1) :: st) S Q) := Zgo_iff (i := .iconst (-1)) (len := 1) (a := 0) (b := 0) (c := 0) (p := 0) rfl
theorem zg_28_241 : Zgo d 28 241 L st S Q ↔ (zpi st False fun y t => zpi t False fun x t => if zw x = zw y then Zgo d 28 265 L t S Q else Zgo d 28 244 L t S Q) := Zgo_iff (i := .if_icmp .eq 24) (len := 3) (a := 0) (b := 0) (c := 0) (p := 0) rfl
theorem zg_28_244 : Zgo d 28 244 L st S Q ↔ (zlda L 0 False fun r => Zgo d 28 245 L (zq r :: st) S Q) := Zgo_iff (i := .aload_n 0) (len := 1) (a := 0) (b := 0) (c := 0) (p := 0) rfl
theorem zg_28_245 : Zgo d 28 245 L st S Q ↔ (zlda L 2 False fun r => Zgo d 28 246 L (zq r :: st) S Q) := Zgo_iff (i := .aload_n 2) (len := 1) (a := 0) (b := 0) (c := 0) (p := 0) rfl
theorem zg_28_246 : Zgo d 28 246 L st S Q ↔ (zinv 2 st False fun as t => zrec as 8 False (zCp d 31 as S fun r S2 => Zgo d 28 249 L (r.toList ++ t) S2 Q)) := Zgo_iff (i := .invokevirtual 110) (len := 3) (a := 31) (b := 2) (c := 0) (p := 2208) rfl
theorem zg_28_249 : Zgo d 28 249 L st S Q ↔ (zpi st False fun x t => if zw x = zw 0 then Zgo d 28 265 L t S Q else Zgo d 28 252 L t S Q) := Zgo_iff (i := .ifCond .eq 16) (len := 3) (a := 0) (b := 0) (c := 0) (p := 0) rfl
theorem zg_28_252 : Zgo d 28 252 L st S Q ↔ (zlda L 0 False fun r => Zgo d 28 253 L (zq r :: st) S Q) := Zgo_iff (i := .aload_n 0) (len := 1) (a := 0) (b := 0) (c := 0) (p := 0) rfl
theorem zg_28_253 : Zgo d 28 253 L st S Q ↔ (Zgo d 28 255 L (zi 59 :: st) S Q) := Zgo_iff (i := .bipush 59) (len := 2) (a := 0) (b := 0) (c := 0) (p := 0) rfl
theorem zg_28_255 : Zgo d 28 255 L st S Q ↔ (zinv 2 st False fun as t => zrec as 8 False (zCp d 20 as S fun r S2 => Zgo d 28 258 L (r.toList ++ t) S2 Q)) := Zgo_iff (i := .invokevirtual 28) (len := 3) (a := 20) (b := 2) (c := 0) (p := 2164) rfl
theorem zg_28_258 : Zgo d 28 258 L st S Q ↔ (zpi st False fun x t => if zw x = zw 0 then Zgo d 28 265 L t S Q else Zgo d 28 261 L t S Q) := Zgo_iff (i := .ifCond .eq 7) (len := 3) (a := 0) (b := 0) (c := 0) (p := 0) rfl
theorem zg_28_261 : Zgo d 28 261 L st S Q ↔ (Zgo d 28 262 L (zi 1 :: st) S Q) := Zgo_iff (i := .iconst 1) (len := 1) (a := 0) (b := 0) (c := 0) (p := 0) rfl
theorem zg_28_262 : Zgo d 28 262 L st S Q ↔ (Zgo d 28 266 L st S Q) := Zgo_iff (i := .goto 4) (len := 3) (a := 0) (b := 0) (c := 0) (p := 0) rfl
theorem zg_28_265 : Zgo d 28 265 L st S Q ↔ (Zgo d 28 266 L (zi 0 :: st) S Q) := Zgo_iff (i := .iconst 0) (len := 1) (a := 0) (b := 0) (c := 0) (p := 0) rfl
theorem zg_28_266 : Zgo d 28 266 L st S Q ↔ (zpi st False fun x t => zem t False (zok 1 x False (Q (some (zi x)) S))) := Zgo_iff (i := .ireturn) (len := 1) (a := 0) (b := 0) (c := 0) (p := 0) rfl
theorem zg_28_267 : Zgo d 28 267 L st S Q ↔ (zlda L 2 False fun r => Zgo d 28 268 L (zq r :: st) S Q) := Zgo_iff (i := .aload_n 2) (len := 1) (a := 0) (b := 0) (c := 0) (p := 0) rfl
theorem zg_28_268 : Zgo d 28 268 L st S Q ↔ (zlda L 0 False fun r => Zgo d 28 269 L (zq r :: st) S Q) := Zgo_iff (i := .aload_n 0) (len := 1) (a := 0) (b := 0) (c := 0) (p := 0) rfl
theorem zg_28_269 : Zgo d 28 269 L st S Q ↔ (Zgo d 28 271 L (zi 112 :: st) S Q) := Zgo_iff (i := .bipush 112) (len := 2) (a := 0) (b := 0) (c := 0) (p := 0) rfl
theorem zg_28_271 : Zgo d 28 271 L st S Q ↔ (Zgo d 28 273 L (zi 114 :: st) S Q) := Zgo_iff (i := .bipush 114) (len := 2) (a := 0) (b := 0) (c := 0) (p := 0) rfl
theorem zg_28_273 : Zgo d 28 273 L st S Q ↔ (zinv 3 st False fun as t => zrec as 8 False (zCp d 22 as S fun r S2 => Zgo d 28 276 L (r.toList ++ t) S2 Q)) := Zgo_iff (i := .invokevirtual 49) (len := 3) (a := 22) (b := 3) (c := 0) (p := 2172) rfl
theorem zg_28_276 : Zgo d 28 276 L st S Q ↔ (zpi st False fun v t => zpa t False fun r t => zde r 4 False fun o => Zgo d 28 279 L t (zsI S.1 4 o 1 v, S.2) Q) := Zgo_iff (i := .putfield 101) (len := 3) (a := 4) (b := 1) (c := 0) (p := 1126) rfl
theorem zg_28_279 : Zgo d 28 279 L st S Q ↔ (zlda L 2 False fun r => Zgo d 28 280 L (zq r :: st) S Q) := Zgo_iff (i := .aload_n 2) (len := 1) (a := 0) (b := 0) (c := 0) (p := 0) rfl
theorem zg_28_280 : Zgo d 28 280 L st S Q ↔ (zpa st False fun r t => zde r 4 False fun o => Zgo d 28 283 L (zi (S.1 4 o 1) :: t) S Q) := Zgo_iff (i := .getfield 101) (len := 3) (a := 4) (b := 1) (c := 0) (p := 1126) rfl
theorem zg_28_283 : Zgo d 28 283 L st S Q ↔ (Zgo d 28 284 L (zi (-1) :: st) S Q) := Zgo_iff (i := .iconst (-1)) (len := 1) (a := 0) (b := 0) (c := 0) (p := 0) rfl
theorem zg_28_284 : Zgo d 28 284 L st S Q ↔ (zpi st False fun y t => zpi t False fun x t => if zw x = zw y then Zgo d 28 300 L t S Q else Zgo d 28 287 L t S Q) := Zgo_iff (i := .if_icmp .eq 16) (len := 3) (a := 0) (b := 0) (c := 0) (p := 0) rfl
theorem zg_28_287 : Zgo d 28 287 L st S Q ↔ (zlda L 0 False fun r => Zgo d 28 288 L (zq r :: st) S Q) := Zgo_iff (i := .aload_n 0) (len := 1) (a := 0) (b := 0) (c := 0) (p := 0) rfl
theorem zg_28_288 : Zgo d 28 288 L st S Q ↔ (Zgo d 28 290 L (zi 59 :: st) S Q) := Zgo_iff (i := .bipush 59) (len := 2) (a := 0) (b := 0) (c := 0) (p := 0) rfl
theorem zg_28_290 : Zgo d 28 290 L st S Q ↔ (zinv 2 st False fun as t => zrec as 8 False (zCp d 20 as S fun r S2 => Zgo d 28 293 L (r.toList ++ t) S2 Q)) := Zgo_iff (i := .invokevirtual 28) (len := 3) (a := 20) (b := 2) (c := 0) (p := 2164) rfl
theorem zg_28_293 : Zgo d 28 293 L st S Q ↔ (zpi st False fun x t => if zw x = zw 0 then Zgo d 28 300 L t S Q else Zgo d 28 296 L t S Q) := Zgo_iff (i := .ifCond .eq 7) (len := 3) (a := 0) (b := 0) (c := 0) (p := 0) rfl
theorem zg_28_296 : Zgo d 28 296 L st S Q ↔ (Zgo d 28 297 L (zi 1 :: st) S Q) := Zgo_iff (i := .iconst 1) (len := 1) (a := 0) (b := 0) (c := 0) (p := 0) rfl
theorem zg_28_297 : Zgo d 28 297 L st S Q ↔ (Zgo d 28 301 L st S Q) := Zgo_iff (i := .goto 4) (len := 3) (a := 0) (b := 0) (c := 0) (p := 0) rfl
theorem zg_28_300 : Zgo d 28 300 L st S Q ↔ (Zgo d 28 301 L (zi 0 :: st) S Q) := Zgo_iff (i := .iconst 0) (len := 1) (a := 0) (b := 0) (c := 0) (p := 0) rfl
theorem zg_28_301 : Zgo d 28 301 L st S Q ↔ (zpi st False fun x t => zem t False (zok 1 x False (Q (some (zi x)) S))) := Zgo_iff (i := .ireturn) (len := 1) (a := 0) (b := 0) (c := 0) (p := 0) rfl
theorem zg_28_302 : Zgo d 28 302 L st S Q ↔ (zlda L 0 False fun r => Zgo d 28 303 L (zq r :: st) S Q) := Zgo_iff (i := .aload_n 0) (len := 1) (a := 0) (b := 0) (c := 0) (p := 0) rfl
theorem zg_28_303 : Zgo d 28 303 L st S Q ↔ (zlda L 2 False fun r => Zgo d 28 304 L (zq r :: st) S Q) := Zgo_iff (i := .aload_n 2) (len := 1) (a := 0) (b := 0) (c := 0) (p := 0) rfl
theorem zg_28_304 : Zgo d 28 304 L st S Q ↔ (zlda L 1 False fun r => Zgo d 28 305 L (zq r :: st) S Q) := Zgo_iff (i := .aload_n 1) (len := 1) (a := 0) (b := 0) (c := 0) (p := 0) rfl
theorem zg_28_305 : Zgo d 28 305 L st S Q ↔ (zinv 3 st False fun as t => zrec as 8 False (zCp d 39 as S fun r S2 => Zgo d 28 308 L (r.toList ++ t) S2 Q)) := Zgo_iff (i := .invokevirtual 121) (len := 3) (a := 39) (b := 3) (c := 0) (p := 3087) rfl
theorem zg_28_308 : Zgo d 28 308 L st S Q ↔ (zpi st False fun x t => zem t False (zok 1 x False (Q (some (zi x)) S))) := Zgo_iff (i := .ireturn) (len := 1) (a := 0) (b := 0) (c := 0) (p := 0) rfl
theorem zg_28_309 : Zgo d 28 309 L st S Q ↔ (Zgo d 28 310 L (zi 0 :: st) S Q) := Zgo_iff (i := .iconst 0) (len := 1) (a := 0) (b := 0) (c := 0) (p := 0) rfl
theorem zg_28_310 : Zgo d 28 310 L st S Q ↔ (zpi st False fun x t => zem t False (zok 1 x False (Q (some (zi x)) S))) := Zgo_iff (i := .ireturn) (len := 1) (a := 0) (b := 0) (c := 0) (p := 0) rfl
/-- LeavingMachine$Reader.here()C -/
theorem zg_29_0 : Zgo d 29 0 L st S Q ↔ (zlda L 0 False fun r => Zgo d 29 1 L (zq r :: st) S Q) := Zgo_iff (i := .aload_n 0) (len := 1) (a := 0) (b := 0) (c := 0) (p := 0) rfl
theorem zg_29_1 : Zgo d 29 1 L st S Q ↔ (zpa st False fun r t => zde r 8 False fun o => Zgo d 29 4 L (zi (S.1 8 o 2) :: t) S Q) := Zgo_iff (i := .getfield 19) (len := 3) (a := 8) (b := 2) (c := 0) (p := 2044) rfl
theorem zg_29_4 : Zgo d 29 4 L st S Q ↔ (zlda L 0 False fun r => Zgo d 29 5 L (zq r :: st) S Q) := Zgo_iff (i := .aload_n 0) (len := 1) (a := 0) (b := 0) (c := 0) (p := 0) rfl
theorem zg_29_5 : Zgo d 29 5 L st S Q ↔ (zpa st False fun r t => zde r 8 False fun o => Zgo d 29 8 L (zq (S.2.1 8 o 0) :: t) S Q) := Zgo_iff (i := .getfield 9) (len := 3) (a := 8) (b := 0) (c := 3) (p := 2042) rfl
theorem zg_29_8 : Zgo d 29 8 L st S Q ↔ (zpa st False fun r t => zde r 1 False fun o => Zgo d 29 11 L (zi (S.1 1 o 1) :: t) S Q) := Zgo_iff (i := .getfield 44) (len := 3) (a := 1) (b := 1) (c := 0) (p := 1044) rfl
theorem zg_29_11 : Zgo d 29 11 L st S Q ↔ (zpi st False fun y t => zpi t False fun x t => if zw x < zw y then Zgo d 29 14 L t S Q else Zgo d 29 29 L t S Q) := Zgo_iff (i := .if_icmp .ge 18) (len := 3) (a := 0) (b := 0) (c := 0) (p := 0) rfl
theorem zg_29_14 : Zgo d 29 14 L st S Q ↔ (zlda L 0 False fun r => Zgo d 29 15 L (zq r :: st) S Q) := Zgo_iff (i := .aload_n 0) (len := 1) (a := 0) (b := 0) (c := 0) (p := 0) rfl
theorem zg_29_15 : Zgo d 29 15 L st S Q ↔ (zpa st False fun r t => zde r 8 False fun o => Zgo d 29 18 L (zq (S.2.1 8 o 0) :: t) S Q) := Zgo_iff (i := .getfield 9) (len := 3) (a := 8) (b := 0) (c := 3) (p := 2042) rfl
theorem zg_29_18 : Zgo d 29 18 L st S Q ↔ (zpa st False fun r t => zde r 1 False fun o => Zgo d 29 21 L (zq (S.2.1 1 o 0) :: t) S Q) := Zgo_iff (i := .getfield 189) (len := 3) (a := 1) (b := 0) (c := 3) (p := 1042) rfl
theorem zg_29_21 : Zgo d 29 21 L st S Q ↔ (zlda L 0 False fun r => Zgo d 29 22 L (zq r :: st) S Q) := Zgo_iff (i := .aload_n 0) (len := 1) (a := 0) (b := 0) (c := 0) (p := 0) rfl
theorem zg_29_22 : Zgo d 29 22 L st S Q ↔ (zpa st False fun r t => zde r 8 False fun o => Zgo d 29 25 L (zi (S.1 8 o 2) :: t) S Q) := Zgo_iff (i := .getfield 19) (len := 3) (a := 8) (b := 2) (c := 0) (p := 2044) rfl
theorem zg_29_25 : Zgo d 29 25 L st S Q ↔ (zpi st False fun j t => zpa t False fun r t => znn r False fun q o => zop (zlen S q) False fun n => if n.1 = 2 then zix j n.2 False fun x => Zgo d 29 26 L (zi (S.1 q o x) :: t) S Q else False) := Zgo_iff (i := .caload) (len := 1) (a := 0) (b := 0) (c := 0) (p := 0) rfl
theorem zg_29_26 : Zgo d 29 26 L st S Q ↔ (Zgo d 29 30 L st S Q) := Zgo_iff (i := .goto 4) (len := 3) (a := 0) (b := 0) (c := 0) (p := 0) rfl
theorem zg_29_29 : Zgo d 29 29 L st S Q ↔ (Zgo d 29 30 L (zi 0 :: st) S Q) := Zgo_iff (i := .iconst 0) (len := 1) (a := 0) (b := 0) (c := 0) (p := 0) rfl
theorem zg_29_30 : Zgo d 29 30 L st S Q ↔ (zpi st False fun x t => zem t False (zok 2 x False (Q (some (zi x)) S))) := Zgo_iff (i := .ireturn) (len := 1) (a := 0) (b := 0) (c := 0) (p := 0) rfl
/-- LeavingMachine$Program.addStatement(LLeavingMachine$Block;C)LLeavingMachine$Statement; -/
theorem zg_30_0 : Zgo d 30 0 L st S Q ↔ (zlda L 0 False fun r => Zgo d 30 1 L (zq r :: st) S Q) := Zgo_iff (i := .aload_n 0) (len := 1) (a := 0) (b := 0) (c := 0) (p := 0) rfl
theorem zg_30_1 : Zgo d 30 1 L st S Q ↔ (zpa st False fun r t => zde r 7 False fun o => Zgo d 30 4 L (zi (S.1 7 o 5) :: t) S Q) := Zgo_iff (i := .getfield 58) (len := 3) (a := 7) (b := 5) (c := 0) (p := 2005) rfl
theorem zg_30_4 : Zgo d 30 4 L st S Q ↔ (Zgo d 30 6 L (zi 80 :: st) S Q) := Zgo_iff (i := .bipush 80) (len := 2) (a := 0) (b := 0) (c := 0) (p := 0) rfl
theorem zg_30_6 : Zgo d 30 6 L st S Q ↔ (zpi st False fun y t => zpi t False fun x t => if zw x = zw y then Zgo d 30 9 L t S Q else Zgo d 30 11 L t S Q) := Zgo_iff (i := .if_icmp .ne 5) (len := 3) (a := 0) (b := 0) (c := 0) (p := 0) rfl
theorem zg_30_9 : Zgo d 30 9 L st S Q ↔ (Zgo d 30 10 L (zq none :: st) S Q) := Zgo_iff (i := .aconst_null) (len := 1) (a := 0) (b := 0) (c := 0) (p := 0) rfl
theorem zg_30_10 : Zgo d 30 10 L st S Q ↔ (zpa st False fun x t => zem t False (Q (some (zq x)) S)) := Zgo_iff (i := .areturn) (len := 1) (a := 0) (b := 0) (c := 0) (p := 0) rfl
theorem zg_30_11 : Zgo d 30 11 L st S Q ↔ (zlda L 0 False fun r => Zgo d 30 12 L (zq r :: st) S Q) := Zgo_iff (i := .aload_n 0) (len := 1) (a := 0) (b := 0) (c := 0) (p := 0) rfl
theorem zg_30_12 : Zgo d 30 12 L st S Q ↔ (zpa st False fun r t => zde r 7 False fun o => Zgo d 30 15 L (zq (S.2.1 7 o 2) :: t) S Q) := Zgo_iff (i := .getfield 24) (len := 3) (a := 7) (b := 2) (c := 3) (p := 1236) rfl
theorem zg_30_15 : Zgo d 30 15 L st S Q ↔ (zlda L 0 False fun r => Zgo d 30 16 L (zq r :: st) S Q) := Zgo_iff (i := .aload_n 0) (len := 1) (a := 0) (b := 0) (c := 0) (p := 0) rfl
theorem zg_30_16 : Zgo d 30 16 L st S Q ↔ (zp1 st False fun v t => Zgo d 30 17 L (v :: v :: t) S Q) := Zgo_iff (i := .dup) (len := 1) (a := 0) (b := 0) (c := 0) (p := 0) rfl
theorem zg_30_17 : Zgo d 30 17 L st S Q ↔ (zpa st False fun r t => zde r 7 False fun o => Zgo d 30 20 L (zi (S.1 7 o 5) :: t) S Q) := Zgo_iff (i := .getfield 58) (len := 3) (a := 7) (b := 5) (c := 0) (p := 2005) rfl
theorem zg_30_20 : Zgo d 30 20 L st S Q ↔ (zp1 st False fun v t => zp1 t False fun u t => Zgo d 30 21 L (v :: u :: v :: t) S Q) := Zgo_iff (i := .dup_x1) (len := 1) (a := 0) (b := 0) (c := 0) (p := 0) rfl
theorem zg_30_21 : Zgo d 30 21 L st S Q ↔ (Zgo d 30 22 L (zi 1 :: st) S Q) := Zgo_iff (i := .iconst 1) (len := 1) (a := 0) (b := 0) (c := 0) (p := 0) rfl
theorem zg_30_22 : Zgo d 30 22 L st S Q ↔ (zpi st False fun y t => zpi t False fun x t => Zgo d 30 23 L (zi (x + y) :: t) S Q) := Zgo_iff (i := .iadd) (len := 1) (a := 0) (b := 0) (c := 0) (p := 0) rfl
theorem zg_30_23 : Zgo d 30 23 L st S Q ↔ (zpi st False fun v t => zpa t False fun r t => zde r 7 False fun o => Zgo d 30 26 L t (zsI S.1 7 o 5 v, S.2) Q) := Zgo_iff (i := .putfield 58) (len := 3) (a := 7) (b := 5) (c := 0) (p := 2005) rfl
theorem zg_30_26 : Zgo d 30 26 L st S Q ↔ (zpi st False fun j t => zpa t False fun r t => znn r False fun q o => zop (zlen S q) False fun n => if n.1 = 3 then zix j n.2 False fun x => Zgo d 30 27 L (zq (S.2.1 q o x) :: t) S Q else False) := Zgo_iff (i := .aaload) (len := 1) (a := 0) (b := 0) (c := 0) (p := 0) rfl
theorem zg_30_27 : Zgo d 30 27 L st S Q ↔ (zpa st False fun x t => Zgo d 30 28 (zst L 3 (some (zq x))) t S Q) := Zgo_iff (i := .astore_n 3) (len := 1) (a := 0) (b := 0) (c := 0) (p := 0) rfl
theorem zg_30_28 : Zgo d 30 28 L st S Q ↔ (zlda L 3 False fun r => Zgo d 30 29 L (zq r :: st) S Q) := Zgo_iff (i := .aload_n 3) (len := 1) (a := 0) (b := 0) (c := 0) (p := 0) rfl
theorem zg_30_29 : Zgo d 30 29 L st S Q ↔ (zldi L 2 False fun x => Zgo d 30 30 L (zi x :: st) S Q) := Zgo_iff (i := .iload_n 2) (len := 1) (a := 0) (b := 0) (c := 0) (p := 0) rfl
theorem zg_30_30 : Zgo d 30 30 L st S Q ↔ (zpi st False fun v t => zpa t False fun r t => zde r 4 False fun o => zok 2 v False (Zgo d 30 33 L t (zsI S.1 4 o 0 v, S.2) Q)) := Zgo_iff (i := .putfield 89) (len := 3) (a := 4) (b := 0) (c := 2) (p := 1122) rfl
theorem zg_30_33 : Zgo d 30 33 L st S Q ↔ (zlda L 3 False fun r => Zgo d 30 34 L (zq r :: st) S Q) := Zgo_iff (i := .aload_n 3) (len := 1) (a := 0) (b := 0) (c := 0) (p := 0) rfl
theorem zg_30_34 : Zgo d 30 34 L st S Q ↔ (zlda L 1 False fun r => Zgo d 30 35 L (zq r :: st) S Q) := Zgo_iff (i := .aload_n 1) (len := 1) (a := 0) (b := 0) (c := 0) (p := 0) rfl
theorem zg_30_35 : Zgo d 30 35 L st S Q ↔ (zpa st False fun v t => zpa t False fun r t => zde r 4 False fun o => Zgo d 30 38 L t (S.1, zsR S.2.1 4 o 4 v, S.2.2) Q) := Zgo_iff (i := .putfield 93) (len := 3) (a := 4) (b := 4) (c := 3) (p := 1131) rfl
theorem zg_30_38 : Zgo d 30 38 L st S Q ↔ (zlda L 3 False fun r => Zgo d 30 39 L (zq r :: st) S Q) := Zgo_iff (i := .aload_n 3) (len := 1) (a := 0) (b := 0) (c := 0) (p := 0) rfl
theorem zg_30_39 : Zgo d 30 39 L st S Q ↔ (zlda L 1 False fun r => Zgo d 30 40 L (zq r :: st) S Q) := Zgo_iff (i := .aload_n 1) (len := 1) (a := 0) (b := 0) (c := 0) (p := 0) rfl
theorem zg_30_40 : Zgo d 30 40 L st S Q ↔ (zpa st False fun r t => zde r 3 False fun o => Zgo d 30 43 L (zq (S.2.1 3 o 4) :: t) S Q) := Zgo_iff (i := .getfield 86) (len := 3) (a := 3) (b := 4) (c := 3) (p := 1192) rfl
theorem zg_30_43 : Zgo d 30 43 L st S Q ↔ (zpa st False fun v t => zpa t False fun r t => zde r 4 False fun o => Zgo d 30 46 L t (S.1, zsR S.2.1 4 o 5 v, S.2.2) Q) := Zgo_iff (i := .putfield 97) (len := 3) (a := 4) (b := 5) (c := 3) (p := 1135) rfl
theorem zg_30_46 : Zgo d 30 46 L st S Q ↔ (zlda L 3 False fun r => Zgo d 30 47 L (zq r :: st) S Q) := Zgo_iff (i := .aload_n 3) (len := 1) (a := 0) (b := 0) (c := 0) (p := 0) rfl
theorem zg_30_47 : Zgo d 30 47 L st S Q ↔ (Zgo d 30 48 L (zq none :: st) S Q) := Zgo_iff (i := .aconst_null) (len := 1) (a := 0) (b := 0) (c := 0) (p := 0) rfl
theorem zg_30_48 : Zgo d 30 48 L st S Q ↔ (zpa st False fun v t => zpa t False fun r t => zde r 4 False fun o => Zgo d 30 51 L t (S.1, zsR S.2.1 4 o 6 v, S.2.2) Q) := Zgo_iff (i := .putfield 100) (len := 3) (a := 4) (b := 6) (c := 3) (p := 1137) rfl
theorem zg_30_51 : Zgo d 30 51 L st S Q ↔ (zlda L 3 False fun r => Zgo d 30 52 L (zq r :: st) S Q) := Zgo_iff (i := .aload_n 3) (len := 1) (a := 0) (b := 0) (c := 0) (p := 0) rfl
theorem zg_30_52 : Zgo d 30 52 L st S Q ↔ (Zgo d 30 53 L (zq none :: st) S Q) := Zgo_iff (i := .aconst_null) (len := 1) (a := 0) (b := 0) (c := 0) (p := 0) rfl
theorem zg_30_53 : Zgo d 30 53 L st S Q ↔ (zpa st False fun v t => zpa t False fun r t => zde r 4 False fun o => Zgo d 30 56 L t (S.1, zsR S.2.1 4 o 7 v, S.2.2) Q) := Zgo_iff (i := .putfield 103) (len := 3) (a := 4) (b := 7) (c := 3) (p := 1140) rfl
theorem zg_30_56 : Zgo d 30 56 L st S Q ↔ (zlda L 3 False fun r => Zgo d 30 57 L (zq r :: st) S Q) := Zgo_iff (i := .aload_n 3) (len := 1) (a := 0) (b := 0) (c := 0) (p := 0) rfl
theorem zg_30_57 : Zgo d 30 57 L st S Q ↔ (Zgo d 30 58 L (zq none :: st) S Q) := Zgo_iff (i := .aconst_null) (len := 1) (a := 0) (b := 0) (c := 0) (p := 0) rfl
theorem zg_30_58 : Zgo d 30 58 L st S Q ↔ (zpa st False fun v t => zpa t False fun r t => zde r 4 False fun o => Zgo d 30 61 L t (S.1, zsR S.2.1 4 o 8 v, S.2.2) Q) := Zgo_iff (i := .putfield 106) (len := 3) (a := 4) (b := 8) (c := 3) (p := 1143) rfl
theorem zg_30_61 : Zgo d 30 61 L st S Q ↔ (zlda L 3 False fun r => Zgo d 30 62 L (zq r :: st) S Q) := Zgo_iff (i := .aload_n 3) (len := 1) (a := 0) (b := 0) (c := 0) (p := 0) rfl
theorem zg_30_62 : Zgo d 30 62 L st S Q ↔ (Zgo d 30 63 L (zq none :: st) S Q) := Zgo_iff (i := .aconst_null) (len := 1) (a := 0) (b := 0) (c := 0) (p := 0) rfl
theorem zg_30_63 : Zgo d 30 63 L st S Q ↔ (zpa st False fun v t => zpa t False fun r t => zde r 4 False fun o => Zgo d 30 66 L t (S.1, zsR S.2.1 4 o 9 v, S.2.2) Q) := Zgo_iff (i := .putfield 109) (len := 3) (a := 4) (b := 9) (c := 3) (p := 1148) rfl
theorem zg_30_66 : Zgo d 30 66 L st S Q ↔ (zlda L 1 False fun r => Zgo d 30 67 L (zq r :: st) S Q) := Zgo_iff (i := .aload_n 1) (len := 1) (a := 0) (b := 0) (c := 0) (p := 0) rfl
theorem zg_30_67 : Zgo d 30 67 L st S Q ↔ (zpa st False fun r t => zde r 3 False fun o => Zgo d 30 70 L (zq (S.2.1 3 o 4) :: t) S Q) := Zgo_iff (i := .getfield 86) (len := 3) (a := 3) (b := 4) (c := 3) (p := 1192) rfl
theorem zg_30_70 : Zgo d 30 70 L st S Q ↔ (zpa st False fun x t => if x = none then Zgo d 30 73 L t S Q else Zgo d 30 81 L t S Q) := Zgo_iff (i := .ifnonnull 11) (len := 3) (a := 0) (b := 0) (c := 0) (p := 0) rfl
theorem zg_30_73 : Zgo d 30 73 L st S Q ↔ (zlda L 1 False fun r => Zgo d 30 74 L (zq r :: st) S Q) := Zgo_iff (i := .aload_n 1) (len := 1) (a := 0) (b := 0) (c := 0) (p := 0) rfl
theorem zg_30_74 : Zgo d 30 74 L st S Q ↔ (zlda L 3 False fun r => Zgo d 30 75 L (zq r :: st) S Q) := Zgo_iff (i := .aload_n 3) (len := 1) (a := 0) (b := 0) (c := 0) (p := 0) rfl
theorem zg_30_75 : Zgo d 30 75 L st S Q ↔ (zpa st False fun v t => zpa t False fun r t => zde r 3 False fun o => Zgo d 30 78 L t (S.1, zsR S.2.1 3 o 3 v, S.2.2) Q) := Zgo_iff (i := .putfield 82) (len := 3) (a := 3) (b := 3) (c := 3) (p := 1190) rfl
theorem zg_30_78 : Zgo d 30 78 L st S Q ↔ (Zgo d 30 89 L st S Q) := Zgo_iff (i := .goto 11) (len := 3) (a := 0) (b := 0) (c := 0) (p := 0) rfl
theorem zg_30_81 : Zgo d 30 81 L st S Q ↔ (zlda L 1 False fun r => Zgo d 30 82 L (zq r :: st) S Q) := Zgo_iff (i := .aload_n 1) (len := 1) (a := 0) (b := 0) (c := 0) (p := 0) rfl
theorem zg_30_82 : Zgo d 30 82 L st S Q ↔ (zpa st False fun r t => zde r 3 False fun o => Zgo d 30 85 L (zq (S.2.1 3 o 4) :: t) S Q) := Zgo_iff (i := .getfield 86) (len := 3) (a := 3) (b := 4) (c := 3) (p := 1192) rfl
theorem zg_30_85 : Zgo d 30 85 L st S Q ↔ (zlda L 3 False fun r => Zgo d 30 86 L (zq r :: st) S Q) := Zgo_iff (i := .aload_n 3) (len := 1) (a := 0) (b := 0) (c := 0) (p := 0) rfl
theorem zg_30_86 : Zgo d 30 86 L st S Q ↔ (zpa st False fun v t => zpa t False fun r t => zde r 4 False fun o => Zgo d 30 89 L t (S.1, zsR S.2.1 4 o 6 v, S.2.2) Q) := Zgo_iff (i := .putfield 100) (len := 3) (a := 4) (b := 6) (c := 3) (p := 1137) rfl
theorem zg_30_89 : Zgo d 30 89 L st S Q ↔ (zlda L 1 False fun r => Zgo d 30 90 L (zq r :: st) S Q) := Zgo_iff (i := .aload_n 1) (len := 1) (a := 0) (b := 0) (c := 0) (p := 0) rfl
theorem zg_30_90 : Zgo d 30 90 L st S Q ↔ (zlda L 3 False fun r => Zgo d 30 91 L (zq r :: st) S Q) := Zgo_iff (i := .aload_n 3) (len := 1) (a := 0) (b := 0) (c := 0) (p := 0) rfl
theorem zg_30_91 : Zgo d 30 91 L st S Q ↔ (zpa st False fun v t => zpa t False fun r t => zde r 3 False fun o => Zgo d 30 94 L t (S.1, zsR S.2.1 3 o 4 v, S.2.2) Q) := Zgo_iff (i := .putfield 86) (len := 3) (a := 3) (b := 4) (c := 3) (p := 1192) rfl
theorem zg_30_94 : Zgo d 30 94 L st S Q ↔ (zlda L 3 False fun r => Zgo d 30 95 L (zq r :: st) S Q) := Zgo_iff (i := .aload_n 3) (len := 1) (a := 0) (b := 0) (c := 0) (p := 0) rfl
theorem zg_30_95 : Zgo d 30 95 L st S Q ↔ (zpa st False fun x t => zem t False (Q (some (zq x)) S)) := Zgo_iff (i := .areturn) (len := 1) (a := 0) (b := 0) (c := 0) (p := 0) rfl
/-- LeavingMachine$Reader.readExpression(LLeavingMachine$Statement;)Z -/
theorem zg_31_0 : Zgo d 31 0 L st S Q ↔ (zlda L 1 False fun r => Zgo d 31 1 L (zq r :: st) S Q) := Zgo_iff (i := .aload_n 1) (len := 1) (a := 0) (b := 0) (c := 0) (p := 0) rfl
theorem zg_31_1 : Zgo d 31 1 L st S Q ↔ (zlda L 0 False fun r => Zgo d 31 2 L (zq r :: st) S Q) := Zgo_iff (i := .aload_n 0) (len := 1) (a := 0) (b := 0) (c := 0) (p := 0) rfl
theorem zg_31_2 : Zgo d 31 2 L st S Q ↔ (zpa st False fun r t => zde r 8 False fun o => Zgo d 31 5 L (zq (S.2.1 8 o 1) :: t) S Q) := Zgo_iff (i := .getfield 15) (len := 3) (a := 8) (b := 1) (c := 3) (p := 2043) rfl
theorem zg_31_5 : Zgo d 31 5 L st S Q ↔ (zpa st False fun r t => zde r 7 False fun o => Zgo d 31 8 L (zq (S.2.1 7 o 3) :: t) S Q) := Zgo_iff (i := .getfield 152) (len := 3) (a := 7) (b := 3) (c := 3) (p := 2000) rfl
theorem zg_31_8 : Zgo d 31 8 L st S Q ↔ (zpa st False fun r t => zde r 6 False fun o => Zgo d 31 11 L (zi (S.1 6 o 2) :: t) S Q) := Zgo_iff (i := .getfield 156) (len := 3) (a := 6) (b := 2) (c := 0) (p := 1095) rfl
theorem zg_31_11 : Zgo d 31 11 L st S Q ↔ (zpi st False fun v t => zpa t False fun r t => zde r 4 False fun o => Zgo d 31 14 L t (zsI S.1 4 o 2 v, S.2) Q) := Zgo_iff (i := .putfield 161) (len := 3) (a := 4) (b := 2) (c := 0) (p := 1128) rfl
theorem zg_31_14 : Zgo d 31 14 L st S Q ↔ (zlda L 0 False fun r => Zgo d 31 15 L (zq r :: st) S Q) := Zgo_iff (i := .aload_n 0) (len := 1) (a := 0) (b := 0) (c := 0) (p := 0) rfl
theorem zg_31_15 : Zgo d 31 15 L st S Q ↔ (Zgo d 31 16 L (zi 0 :: st) S Q) := Zgo_iff (i := .iconst 0) (len := 1) (a := 0) (b := 0) (c := 0) (p := 0) rfl
theorem zg_31_16 : Zgo d 31 16 L st S Q ↔ (zinv 2 st False fun as t => zrec as 8 False (zCp d 32 as S fun r S2 => Zgo d 31 19 L (r.toList ++ t) S2 Q)) := Zgo_iff (i := .invokevirtual 164) (len := 3) (a := 32) (b := 2) (c := 0) (p := 2212) rfl
theorem zg_31_19 : Zgo d 31 19 L st S Q ↔ (zpi st False fun x t => Zgo d 31 20 (zst L 2 (some (zi x))) t S Q) := Zgo_iff (i := .istore_n 2) (len := 1) (a := 0) (b := 0) (c := 0) (p := 0) rfl
theorem zg_31_20 : Zgo d 31 20 L st S Q ↔ (zlda L 1 False fun r => Zgo d 31 21 L (zq r :: st) S Q) := Zgo_iff (i := .aload_n 1) (len := 1) (a := 0) (b := 0) (c := 0) (p := 0) rfl
theorem zg_31_21 : Zgo d 31 21 L st S Q ↔ (zlda L 0 False fun r => Zgo d 31 22 L (zq r :: st) S Q) := Zgo_iff (i := .aload_n 0) (len := 1) (a := 0) (b := 0) (c := 0) (p := 0) rfl
theorem zg_31_22 : Zgo d 31 22 L st S Q ↔ (zpa st False fun r t => zde r 8 False fun o => Zgo d 31 25 L (zq (S.2.1 8 o 1) :: t) S Q) := Zgo_iff (i := .getfield 15) (len := 3) (a := 8) (b := 1) (c := 3) (p := 2043) rfl
theorem zg_31_25 : Zgo d 31 25 L st S Q ↔ (zpa st False fun r t => zde r 7 False fun o => Zgo d 31 28 L (zq (S.2.1 7 o 3) :: t) S Q) := Zgo_iff (i := .getfield 152) (len := 3) (a := 7) (b := 3) (c := 3) (p := 2000) rfl
theorem zg_31_28 : Zgo d 31 28 L st S Q ↔ (zpa st False fun r t => zde r 6 False fun o => Zgo d 31 31 L (zi (S.1 6 o 2) :: t) S Q) := Zgo_iff (i := .getfield 156) (len := 3) (a := 6) (b := 2) (c := 0) (p := 1095) rfl
theorem zg_31_31 : Zgo d 31 31 L st S Q ↔ (zpi st False fun v t => zpa t False fun r t => zde r 4 False fun o => Zgo d 31 34 L t (zsI S.1 4 o 3 v, S.2) Q) := Zgo_iff (i := .putfield 168) (len := 3) (a := 4) (b := 3) (c := 0) (p := 1130) rfl
theorem zg_31_34 : Zgo d 31 34 L st S Q ↔ (zldi L 2 False fun x => Zgo d 31 35 L (zi x :: st) S Q) := Zgo_iff (i := .iload_n 2) (len := 1) (a := 0) (b := 0) (c := 0) (p := 0) rfl
theorem zg_31_35 : Zgo d 31 35 L st S Q ↔ (zpi st False fun x t => zem t False (zok 1 x False (Q (some (zi x)) S))) := Zgo_iff (i := .ireturn) (len := 1) (a := 0) (b := 0) (c := 0) (p := 0) rfl
/-- LeavingMachine$Reader.readTerms(I)Z -/
theorem zg_32_0 : Zgo d 32 0 L st S Q ↔ (zldi L 1 False fun x => Zgo d 32 1 L (zi x :: st) S Q) := Zgo_iff (i := .iload_n 1) (len := 1) (a := 0) (b := 0) (c := 0) (p := 0) rfl
theorem zg_32_1 : Zgo d 32 1 L st S Q ↔ (Zgo d 32 2 L (zi 3 :: st) S Q) := Zgo_iff (i := .iconst 3) (len := 1) (a := 0) (b := 0) (c := 0) (p := 0) rfl
theorem zg_32_2 : Zgo d 32 2 L st S Q ↔ (zpi st False fun y t => zpi t False fun x t => if zw y < zw x then Zgo d 32 13 L t S Q else Zgo d 32 5 L t S Q) := Zgo_iff (i := .if_icmp .gt 11) (len := 3) (a := 0) (b := 0) (c := 0) (p := 0) rfl
theorem zg_32_5 : Zgo d 32 5 L st S Q ↔ (zlda L 0 False fun r => Zgo d 32 6 L (zq r :: st) S Q) := Zgo_iff (i := .aload_n 0) (len := 1) (a := 0) (b := 0) (c := 0) (p := 0) rfl
theorem zg_32_6 : Zgo d 32 6 L st S Q ↔ (zldi L 1 False fun x => Zgo d 32 7 L (zi x :: st) S Q) := Zgo_iff (i := .iload_n 1) (len := 1) (a := 0) (b := 0) (c := 0) (p := 0) rfl
theorem zg_32_7 : Zgo d 32 7 L st S Q ↔ (zinv 2 st False fun as t => zrec as 8 False (zCp d 33 as S fun r S2 => Zgo d 32 10 L (r.toList ++ t) S2 Q)) := Zgo_iff (i := .invokevirtual 171) (len := 3) (a := 33) (b := 2) (c := 0) (p := 2216) rfl
theorem zg_32_10 : Zgo d 32 10 L st S Q ↔ (zpi st False fun x t => if zw x = zw 0 then Zgo d 32 13 L t S Q else Zgo d 32 15 L t S Q) := Zgo_iff (i := .ifCond .ne 5) (len := 3) (a := 0) (b := 0) (c := 0) (p := 0) rfl
theorem zg_32_13 : Zgo d 32 13 L st S Q ↔ (Zgo d 32 14 L (zi 0 :: st) S Q) := Zgo_iff (i := .iconst 0) (len := 1) (a := 0) (b := 0) (c := 0) (p := 0) rfl
theorem zg_32_14 : Zgo d 32 14 L st S Q ↔ (zpi st False fun x t => zem t False (zok 1 x False (Q (some (zi x)) S))) := Zgo_iff (i := .ireturn) (len := 1) (a := 0) (b := 0) (c := 0) (p := 0) rfl
theorem zg_32_15 : Zgo d 32 15 L st S Q ↔ (Zgo d 32 16 L (zi 0 :: st) S Q) := Zgo_iff (i := .iconst 0) (len := 1) (a := 0) (b := 0) (c := 0) (p := 0) rfl
theorem zg_32_16 : Zgo d 32 16 L st S Q ↔ (zpi st False fun x t => Zgo d 32 17 (zst L 2 (some (zi x))) t S Q) := Zgo_iff (i := .istore_n 2) (len := 1) (a := 0) (b := 0) (c := 0) (p := 0) rfl
theorem zg_32_17 : Zgo d 32 17 L st S Q ↔ (zldi L 2 False fun x => Zgo d 32 18 L (zi x :: st) S Q) := Zgo_iff (i := .iload_n 2) (len := 1) (a := 0) (b := 0) (c := 0) (p := 0) rfl
theorem zg_32_18 : Zgo d 32 18 L st S Q ↔ (Zgo d 32 21 L (zi 160 :: st) S Q) := Zgo_iff (i := .sipush 160) (len := 3) (a := 0) (b := 0) (c := 0) (p := 0) rfl
theorem zg_32_21 : Zgo d 32 21 L st S Q ↔ (zpi st False fun y t => zpi t False fun x t => if zw x < zw y then Zgo d 32 24 L t S Q else Zgo d 32 82 L t S Q) := Zgo_iff (i := .if_icmp .ge 61) (len := 3) (a := 0) (b := 0) (c := 0) (p := 0) rfl
theorem zg_32_24 : Zgo d 32 24 L st S Q ↔ (Zgo d 32 26 L (zq (some (91, 0)) :: st) S Q) := Zgo_iff (i := .ldc 174) (len := 2) (a := 91) (b := 0) (c := 0) (p := 2228) rfl
theorem zg_32_26 : Zgo d 32 26 L st S Q ↔ (zlda L 0 False fun r => Zgo d 32 27 L (zq r :: st) S Q) := Zgo_iff (i := .aload_n 0) (len := 1) (a := 0) (b := 0) (c := 0) (p := 0) rfl
theorem zg_32_27 : Zgo d 32 27 L st S Q ↔ (zinv 1 st False fun as t => zrec as 8 False (zCp d 29 as S fun r S2 => Zgo d 32 30 L (r.toList ++ t) S2 Q)) := Zgo_iff (i := .invokevirtual 93) (len := 3) (a := 29) (b := 1) (c := 0) (p := 2200) rfl
theorem zg_32_30 : Zgo d 32 30 L st S Q ↔ (zinv 2 st False fun as t => zrec as 91 False (zCp d 900 as S fun r S2 => Zgo d 32 33 L (r.toList ++ t) S2 Q)) := Zgo_iff (i := .invokevirtual 176) (len := 3) (a := 900) (b := 2) (c := 6) (p := 2229) rfl
theorem zg_32_33 : Zgo d 32 33 L st S Q ↔ (zpi st False fun x t => if zw x < zw 0 then Zgo d 32 82 L t S Q else Zgo d 32 36 L t S Q) := Zgo_iff (i := .ifCond .lt 49) (len := 3) (a := 0) (b := 0) (c := 0) (p := 0) rfl
theorem zg_32_36 : Zgo d 32 36 L st S Q ↔ (zlda L 0 False fun r => Zgo d 32 37 L (zq r :: st) S Q) := Zgo_iff (i := .aload_n 0) (len := 1) (a := 0) (b := 0) (c := 0) (p := 0) rfl
theorem zg_32_37 : Zgo d 32 37 L st S Q ↔ (zinv 1 st False fun as t => zrec as 8 False (zCp d 29 as S fun r S2 => Zgo d 32 40 L (r.toList ++ t) S2 Q)) := Zgo_iff (i := .invokevirtual 93) (len := 3) (a := 29) (b := 1) (c := 0) (p := 2200) rfl
theorem zg_32_40 : Zgo d 32 40 L st S Q ↔ (zpi st False fun x t => Zgo d 32 41 (zst L 3 (some (zi x))) t S Q) := Zgo_iff (i := .istore_n 3) (len := 1) (a := 0) (b := 0) (c := 0) (p := 0) rfl
theorem zg_32_41 : Zgo d 32 41 L st S Q ↔ (zlda L 0 False fun r => Zgo d 32 42 L (zq r :: st) S Q) := Zgo_iff (i := .aload_n 0) (len := 1) (a := 0) (b := 0) (c := 0) (p := 0) rfl
theorem zg_32_42 : Zgo d 32 42 L st S Q ↔ (zp1 st False fun v t => Zgo d 32 43 L (v :: v :: t) S Q) := Zgo_iff (i := .dup) (len := 1) (a := 0) (b := 0) (c := 0) (p := 0) rfl
theorem zg_32_43 : Zgo d 32 43 L st S Q ↔ (zpa st False fun r t => zde r 8 False fun o => Zgo d 32 46 L (zi (S.1 8 o 2) :: t) S Q) := Zgo_iff (i := .getfield 19) (len := 3) (a := 8) (b := 2) (c := 0) (p := 2044) rfl
theorem zg_32_46 : Zgo d 32 46 L st S Q ↔ (Zgo d 32 47 L (zi 1 :: st) S Q) := Zgo_iff (i := .iconst 1) (len := 1) (a := 0) (b := 0) (c := 0) (p := 0) rfl
theorem zg_32_47 : Zgo d 32 47 L st S Q ↔ (zpi st False fun y t => zpi t False fun x t => Zgo d 32 48 L (zi (x + y) :: t) S Q) := Zgo_iff (i := .iadd) (len := 1) (a := 0) (b := 0) (c := 0) (p := 0) rfl
theorem zg_32_48 : Zgo d 32 48 L st S Q ↔ (zpi st False fun v t => zpa t False fun r t => zde r 8 False fun o => Zgo d 32 51 L t (zsI S.1 8 o 2 v, S.2) Q) := Zgo_iff (i := .putfield 19) (len := 3) (a := 8) (b := 2) (c := 0) (p := 2044) rfl
theorem zg_32_51 : Zgo d 32 51 L st S Q ↔ (zlda L 0 False fun r => Zgo d 32 52 L (zq r :: st) S Q) := Zgo_iff (i := .aload_n 0) (len := 1) (a := 0) (b := 0) (c := 0) (p := 0) rfl
theorem zg_32_52 : Zgo d 32 52 L st S Q ↔ (zldi L 1 False fun x => Zgo d 32 53 L (zi x :: st) S Q) := Zgo_iff (i := .iload_n 1) (len := 1) (a := 0) (b := 0) (c := 0) (p := 0) rfl
theorem zg_32_53 : Zgo d 32 53 L st S Q ↔ (zinv 2 st False fun as t => zrec as 8 False (zCp d 33 as S fun r S2 => Zgo d 32 56 L (r.toList ++ t) S2 Q)) := Zgo_iff (i := .invokevirtual 171) (len := 3) (a := 33) (b := 2) (c := 0) (p := 2216) rfl
theorem zg_32_56 : Zgo d 32 56 L st S Q ↔ (zpi st False fun x t => if zw x = zw 0 then Zgo d 32 74 L t S Q else Zgo d 32 59 L t S Q) := Zgo_iff (i := .ifCond .eq 18) (len := 3) (a := 0) (b := 0) (c := 0) (p := 0) rfl
theorem zg_32_59 : Zgo d 32 59 L st S Q ↔ (zlda L 0 False fun r => Zgo d 32 60 L (zq r :: st) S Q) := Zgo_iff (i := .aload_n 0) (len := 1) (a := 0) (b := 0) (c := 0) (p := 0) rfl
theorem zg_32_60 : Zgo d 32 60 L st S Q ↔ (zpa st False fun r t => zde r 8 False fun o => Zgo d 32 63 L (zq (S.2.1 8 o 1) :: t) S Q) := Zgo_iff (i := .getfield 15) (len := 3) (a := 8) (b := 1) (c := 3) (p := 2043) rfl
theorem zg_32_63 : Zgo d 32 63 L st S Q ↔ (zpa st False fun r t => zde r 7 False fun o => Zgo d 32 66 L (zq (S.2.1 7 o 3) :: t) S Q) := Zgo_iff (i := .getfield 152) (len := 3) (a := 7) (b := 3) (c := 3) (p := 2000) rfl
theorem zg_32_66 : Zgo d 32 66 L st S Q ↔ (zldi L 3 False fun x => Zgo d 32 67 L (zi x :: st) S Q) := Zgo_iff (i := .iload_n 3) (len := 1) (a := 0) (b := 0) (c := 0) (p := 0) rfl
theorem zg_32_67 : Zgo d 32 67 L st S Q ↔ (Zgo d 32 68 L (zi 0 :: st) S Q) := Zgo_iff (i := .iconst 0) (len := 1) (a := 0) (b := 0) (c := 0) (p := 0) rfl
theorem zg_32_68 : Zgo d 32 68 L st S Q ↔ (zinv 3 st False fun as t => zrec as 6 False (zCp d 34 as S fun r S2 => Zgo d 32 71 L (r.toList ++ t) S2 Q)) := Zgo_iff (i := .invokevirtual 182) (len := 3) (a := 34) (b := 3) (c := 0) (p := 2220) rfl
theorem zg_32_71 : Zgo d 32 71 L st S Q ↔ (zpi st False fun x t => if zw x = zw 0 then Zgo d 32 74 L t S Q else Zgo d 32 76 L t S Q) := Zgo_iff (i := .ifCond .ne 5) (len := 3) (a := 0) (b := 0) (c := 0) (p := 0) rfl
theorem zg_32_74 : Zgo d 32 74 L st S Q ↔ (Zgo d 32 75 L (zi 0 :: st) S Q) := Zgo_iff (i := .iconst 0) (len := 1) (a := 0) (b := 0) (c := 0) (p := 0) rfl
theorem zg_32_75 : Zgo d 32 75 L st S Q ↔ (zpi st False fun x t => zem t False (zok 1 x False (Q (some (zi x)) S))) := Zgo_iff (i := .ireturn) (len := 1) (a := 0) (b := 0) (c := 0) (p := 0) rfl
theorem zg_32_76 : Zgo d 32 76 L st S Q ↔ (zldi L 2 False fun x => Zgo d 32 79 (zst L 2 (some (zi (x + 1)))) st S Q) := Zgo_iff (i := .iinc 2 1) (len := 3) (a := 0) (b := 0) (c := 0) (p := 0) rfl
theorem zg_32_79 : Zgo d 32 79 L st S Q ↔ (Zgo d 32 17 L st S Q) := Zgo_iff (i := .goto (-62)) (len := 3) (a := 0) (b := 0) (c := 0) (p := 0) rfl
theorem zg_32_82 : Zgo d 32 82 L st S Q ↔ (Zgo d 32 83 L (zi 1 :: st) S Q) := Zgo_iff (i := .iconst 1) (len := 1) (a := 0) (b := 0) (c := 0) (p := 0) rfl
theorem zg_32_83 : Zgo d 32 83 L st S Q ↔ (zpi st False fun x t => zem t False (zok 1 x False (Q (some (zi x)) S))) := Zgo_iff (i := .ireturn) (len := 1) (a := 0) (b := 0) (c := 0) (p := 0) rfl
/-- LeavingMachine$Reader.readTerm(I)Z -/
theorem zg_33_0 : Zgo d 33 0 L st S Q ↔ (zlda L 0 False fun r => Zgo d 33 1 L (zq r :: st) S Q) := Zgo_iff (i := .aload_n 0) (len := 1) (a := 0) (b := 0) (c := 0) (p := 0) rfl
theorem zg_33_1 : Zgo d 33 1 L st S Q ↔ (Zgo d 33 3 L (zi 40 :: st) S Q) := Zgo_iff (i := .bipush 40) (len := 2) (a := 0) (b := 0) (c := 0) (p := 0) rfl
theorem zg_33_3 : Zgo d 33 3 L st S Q ↔ (zinv 2 st False fun as t => zrec as 8 False (zCp d 20 as S fun r S2 => Zgo d 33 6 L (r.toList ++ t) S2 Q)) := Zgo_iff (i := .invokevirtual 28) (len := 3) (a := 20) (b := 2) (c := 0) (p := 2164) rfl
theorem zg_33_6 : Zgo d 33 6 L st S Q ↔ (zpi st False fun x t => if zw x = zw 0 then Zgo d 33 34 L t S Q else Zgo d 33 9 L t S Q) := Zgo_iff (i := .ifCond .eq 28) (len := 3) (a := 0) (b := 0) (c := 0) (p := 0) rfl
theorem zg_33_9 : Zgo d 33 9 L st S Q ↔ (zlda L 0 False fun r => Zgo d 33 10 L (zq r :: st) S Q) := Zgo_iff (i := .aload_n 0) (len := 1) (a := 0) (b := 0) (c := 0) (p := 0) rfl
theorem zg_33_10 : Zgo d 33 10 L st S Q ↔ (zldi L 1 False fun x => Zgo d 33 11 L (zi x :: st) S Q) := Zgo_iff (i := .iload_n 1) (len := 1) (a := 0) (b := 0) (c := 0) (p := 0) rfl
theorem zg_33_11 : Zgo d 33 11 L st S Q ↔ (Zgo d 33 12 L (zi 1 :: st) S Q) := Zgo_iff (i := .iconst 1) (len := 1) (a := 0) (b := 0) (c := 0) (p := 0) rfl
theorem zg_33_12 : Zgo d 33 12 L st S Q ↔ (zpi st False fun y t => zpi t False fun x t => Zgo d 33 13 L (zi (x + y) :: t) S Q) := Zgo_iff (i := .iadd) (len := 1) (a := 0) (b := 0) (c := 0) (p := 0) rfl
theorem zg_33_13 : Zgo d 33 13 L st S Q ↔ (zinv 2 st False fun as t => zrec as 8 False (zCp d 32 as S fun r S2 => Zgo d 33 16 L (r.toList ++ t) S2 Q)) := Zgo_iff (i := .invokevirtual 164) (len := 3) (a := 32) (b := 2) (c := 0) (p := 2212) rfl
theorem zg_33_16 : Zgo d 33 16 L st S Q ↔ (zpi st False fun x t => if zw x = zw 0 then Zgo d 33 32 L t S Q else Zgo d 33 19 L t S Q) := Zgo_iff (i := .ifCond .eq 16) (len := 3) (a := 0) (b := 0) (c := 0) (p := 0) rfl
theorem zg_33_19 : Zgo d 33 19 L st S Q ↔ (zlda L 0 False fun r => Zgo d 33 20 L (zq r :: st) S Q) := Zgo_iff (i := .aload_n 0) (len := 1) (a := 0) (b := 0) (c := 0) (p := 0) rfl
theorem zg_33_20 : Zgo d 33 20 L st S Q ↔ (Zgo d 33 22 L (zi 41 :: st) S Q) := Zgo_iff (i := .bipush 41) (len := 2) (a := 0) (b := 0) (c := 0) (p := 0) rfl
theorem zg_33_22 : Zgo d 33 22 L st S Q ↔ (zinv 2 st False fun as t => zrec as 8 False (zCp d 20 as S fun r S2 => Zgo d 33 25 L (r.toList ++ t) S2 Q)) := Zgo_iff (i := .invokevirtual 28) (len := 3) (a := 20) (b := 2) (c := 0) (p := 2164) rfl
theorem zg_33_25 : Zgo d 33 25 L st S Q ↔ (zpi st False fun x t => if zw x = zw 0 then Zgo d 33 32 L t S Q else Zgo d 33 28 L t S Q) := Zgo_iff (i := .ifCond .eq 7) (len := 3) (a := 0) (b := 0) (c := 0) (p := 0) rfl
theorem zg_33_28 : Zgo d 33 28 L st S Q ↔ (Zgo d 33 29 L (zi 1 :: st) S Q) := Zgo_iff (i := .iconst 1) (len := 1) (a := 0) (b := 0) (c := 0) (p := 0) rfl
theorem zg_33_29 : Zgo d 33 29 L st S Q ↔ (Zgo d 33 33 L st S Q) := Zgo_iff (i := .goto 4) (len := 3) (a := 0) (b := 0) (c := 0) (p := 0) rfl
theorem zg_33_32 : Zgo d 33 32 L st S Q ↔ (Zgo d 33 33 L (zi 0 :: st) S Q) := Zgo_iff (i := .iconst 0) (len := 1) (a := 0) (b := 0) (c := 0) (p := 0) rfl
theorem zg_33_33 : Zgo d 33 33 L st S Q ↔ (zpi st False fun x t => zem t False (zok 1 x False (Q (some (zi x)) S))) := Zgo_iff (i := .ireturn) (len := 1) (a := 0) (b := 0) (c := 0) (p := 0) rfl
theorem zg_33_34 : Zgo d 33 34 L st S Q ↔ (zlda L 0 False fun r => Zgo d 33 35 L (zq r :: st) S Q) := Zgo_iff (i := .aload_n 0) (len := 1) (a := 0) (b := 0) (c := 0) (p := 0) rfl
theorem zg_33_35 : Zgo d 33 35 L st S Q ↔ (Zgo d 33 37 L (zi 97 :: st) S Q) := Zgo_iff (i := .bipush 97) (len := 2) (a := 0) (b := 0) (c := 0) (p := 0) rfl
theorem zg_33_37 : Zgo d 33 37 L st S Q ↔ (Zgo d 33 39 L (zi 104 :: st) S Q) := Zgo_iff (i := .bipush 104) (len := 2) (a := 0) (b := 0) (c := 0) (p := 0) rfl
theorem zg_33_39 : Zgo d 33 39 L st S Q ↔ (zinv 3 st False fun as t => zrec as 8 False (zCp d 22 as S fun r S2 => Zgo d 33 42 L (r.toList ++ t) S2 Q)) := Zgo_iff (i := .invokevirtual 49) (len := 3) (a := 22) (b := 3) (c := 0) (p := 2172) rfl
theorem zg_33_42 : Zgo d 33 42 L st S Q ↔ (zpi st False fun x t => Zgo d 33 43 (zst L 2 (some (zi x))) t S Q) := Zgo_iff (i := .istore_n 2) (len := 1) (a := 0) (b := 0) (c := 0) (p := 0) rfl
theorem zg_33_43 : Zgo d 33 43 L st S Q ↔ (zldi L 2 False fun x => Zgo d 33 44 L (zi x :: st) S Q) := Zgo_iff (i := .iload_n 2) (len := 1) (a := 0) (b := 0) (c := 0) (p := 0) rfl
theorem zg_33_44 : Zgo d 33 44 L st S Q ↔ (Zgo d 33 45 L (zi (-1) :: st) S Q) := Zgo_iff (i := .iconst (-1)) (len := 1) (a := 0) (b := 0) (c := 0) (p := 0) rfl
theorem zg_33_45 : Zgo d 33 45 L st S Q ↔ (zpi st False fun y t => zpi t False fun x t => if zw x = zw y then Zgo d 33 62 L t S Q else Zgo d 33 48 L t S Q) := Zgo_iff (i := .if_icmp .eq 17) (len := 3) (a := 0) (b := 0) (c := 0) (p := 0) rfl
theorem zg_33_48 : Zgo d 33 48 L st S Q ↔ (zlda L 0 False fun r => Zgo d 33 49 L (zq r :: st) S Q) := Zgo_iff (i := .aload_n 0) (len := 1) (a := 0) (b := 0) (c := 0) (p := 0) rfl
theorem zg_33_49 : Zgo d 33 49 L st S Q ↔ (zpa st False fun r t => zde r 8 False fun o => Zgo d 33 52 L (zq (S.2.1 8 o 1) :: t) S Q) := Zgo_iff (i := .getfield 15) (len := 3) (a := 8) (b := 1) (c := 3) (p := 2043) rfl
theorem zg_33_52 : Zgo d 33 52 L st S Q ↔ (zpa st False fun r t => zde r 7 False fun o => Zgo d 33 55 L (zq (S.2.1 7 o 3) :: t) S Q) := Zgo_iff (i := .getfield 152) (len := 3) (a := 7) (b := 3) (c := 3) (p := 2000) rfl
theorem zg_33_55 : Zgo d 33 55 L st S Q ↔ (Zgo d 33 57 L (zi 118 :: st) S Q) := Zgo_iff (i := .bipush 118) (len := 2) (a := 0) (b := 0) (c := 0) (p := 0) rfl
theorem zg_33_57 : Zgo d 33 57 L st S Q ↔ (zldi L 2 False fun x => Zgo d 33 58 L (zi x :: st) S Q) := Zgo_iff (i := .iload_n 2) (len := 1) (a := 0) (b := 0) (c := 0) (p := 0) rfl
theorem zg_33_58 : Zgo d 33 58 L st S Q ↔ (zinv 3 st False fun as t => zrec as 6 False (zCp d 34 as S fun r S2 => Zgo d 33 61 L (r.toList ++ t) S2 Q)) := Zgo_iff (i := .invokevirtual 182) (len := 3) (a := 34) (b := 3) (c := 0) (p := 2220) rfl
theorem zg_33_61 : Zgo d 33 61 L st S Q ↔ (zpi st False fun x t => zem t False (zok 1 x False (Q (some (zi x)) S))) := Zgo_iff (i := .ireturn) (len := 1) (a := 0) (b := 0) (c := 0) (p := 0) rfl
theorem zg_33_62 : Zgo d 33 62 L st S Q ↔ (zlda L 0 False fun r => Zgo d 33 63 L (zq r :: st) S Q) := Zgo_iff (i := .aload_n 0) (len := 1) (a := 0) (b := 0) (c := 0) (p := 0) rfl
theorem zg_33_63 : Zgo d 33 63 L st S Q ↔ (zinv 1 st False fun as t => zrec as 8 False (zCp d 35 as S fun r S2 => Zgo d 33 66 L (r.toList ++ t) S2 Q)) := Zgo_iff (i := .invokevirtual 186) (len := 3) (a := 35) (b := 1) (c := 0) (p := 2224) rfl
theorem zg_33_66 : Zgo d 33 66 L st S Q ↔ (zpi st False fun x t => zem t False (zok 1 x False (Q (some (zi x)) S))) := Zgo_iff (i := .ireturn) (len := 1) (a := 0) (b := 0) (c := 0) (p := 0) rfl
/-- LeavingMachine$Expressions.add(CI)Z -/
theorem zg_34_0 : Zgo d 34 0 L st S Q ↔ (zlda L 0 False fun r => Zgo d 34 1 L (zq r :: st) S Q) := Zgo_iff (i := .aload_n 0) (len := 1) (a := 0) (b := 0) (c := 0) (p := 0) rfl
theorem zg_34_1 : Zgo d 34 1 L st S Q ↔ (zpa st False fun r t => zde r 6 False fun o => Zgo d 34 4 L (zi (S.1 6 o 2) :: t) S Q) := Zgo_iff (i := .getfield 22) (len := 3) (a := 6) (b := 2) (c := 0) (p := 1093) rfl
theorem zg_34_4 : Zgo d 34 4 L st S Q ↔ (Zgo d 34 7 L (zi 160 :: st) S Q) := Zgo_iff (i := .sipush 160) (len := 3) (a := 0) (b := 0) (c := 0) (p := 0) rfl
theorem zg_34_7 : Zgo d 34 7 L st S Q ↔ (zpi st False fun y t => zpi t False fun x t => if zw x = zw y then Zgo d 34 10 L t S Q else Zgo d 34 12 L t S Q) := Zgo_iff (i := .if_icmp .ne 5) (len := 3) (a := 0) (b := 0) (c := 0) (p := 0) rfl
theorem zg_34_10 : Zgo d 34 10 L st S Q ↔ (Zgo d 34 11 L (zi 0 :: st) S Q) := Zgo_iff (i := .iconst 0) (len := 1) (a := 0) (b := 0) (c := 0) (p := 0) rfl
theorem zg_34_11 : Zgo d 34 11 L st S Q ↔ (zpi st False fun x t => zem t False (zok 1 x False (Q (some (zi x)) S))) := Zgo_iff (i := .ireturn) (len := 1) (a := 0) (b := 0) (c := 0) (p := 0) rfl
theorem zg_34_12 : Zgo d 34 12 L st S Q ↔ (zlda L 0 False fun r => Zgo d 34 13 L (zq r :: st) S Q) := Zgo_iff (i := .aload_n 0) (len := 1) (a := 0) (b := 0) (c := 0) (p := 0) rfl
theorem zg_34_13 : Zgo d 34 13 L st S Q ↔ (zpa st False fun r t => zde r 6 False fun o => Zgo d 34 16 L (zq (S.2.1 6 o 0) :: t) S Q) := Zgo_iff (i := .getfield 9) (len := 3) (a := 6) (b := 0) (c := 3) (p := 1091) rfl
theorem zg_34_16 : Zgo d 34 16 L st S Q ↔ (zlda L 0 False fun r => Zgo d 34 17 L (zq r :: st) S Q) := Zgo_iff (i := .aload_n 0) (len := 1) (a := 0) (b := 0) (c := 0) (p := 0) rfl
theorem zg_34_17 : Zgo d 34 17 L st S Q ↔ (zpa st False fun r t => zde r 6 False fun o => Zgo d 34 20 L (zi (S.1 6 o 2) :: t) S Q) := Zgo_iff (i := .getfield 22) (len := 3) (a := 6) (b := 2) (c := 0) (p := 1093) rfl
theorem zg_34_20 : Zgo d 34 20 L st S Q ↔ (zldi L 1 False fun x => Zgo d 34 21 L (zi x :: st) S Q) := Zgo_iff (i := .iload_n 1) (len := 1) (a := 0) (b := 0) (c := 0) (p := 0) rfl
theorem zg_34_21 : Zgo d 34 21 L st S Q ↔ (zpi st False fun v t => zpi t False fun j t => zpa t False fun r t => znn r False fun q o => zop (zArr q) False fun n => if n.1 = 2 then zix j n.2 False fun x => Zgo d 34 22 L t (zsI S.1 q o x (v % 65536), S.2) Q else False) := Zgo_iff (i := .castore) (len := 1) (a := 0) (b := 0) (c := 0) (p := 0) rfl
theorem zg_34_22 : Zgo d 34 22 L st S Q ↔ (zlda L 0 False fun r => Zgo d 34 23 L (zq r :: st) S Q) := Zgo_iff (i := .aload_n 0) (len := 1) (a := 0) (b := 0) (c := 0) (p := 0) rfl
theorem zg_34_23 : Zgo d 34 23 L st S Q ↔ (zpa st False fun r t => zde r 6 False fun o => Zgo d 34 26 L (zq (S.2.1 6 o 1) :: t) S Q) := Zgo_iff (i := .getfield 15) (len := 3) (a := 6) (b := 1) (c := 3) (p := 1092) rfl
theorem zg_34_26 : Zgo d 34 26 L st S Q ↔ (zlda L 0 False fun r => Zgo d 34 27 L (zq r :: st) S Q) := Zgo_iff (i := .aload_n 0) (len := 1) (a := 0) (b := 0) (c := 0) (p := 0) rfl
theorem zg_34_27 : Zgo d 34 27 L st S Q ↔ (zpa st False fun r t => zde r 6 False fun o => Zgo d 34 30 L (zi (S.1 6 o 2) :: t) S Q) := Zgo_iff (i := .getfield 22) (len := 3) (a := 6) (b := 2) (c := 0) (p := 1093) rfl
theorem zg_34_30 : Zgo d 34 30 L st S Q ↔ (zldi L 2 False fun x => Zgo d 34 31 L (zi x :: st) S Q) := Zgo_iff (i := .iload_n 2) (len := 1) (a := 0) (b := 0) (c := 0) (p := 0) rfl
theorem zg_34_31 : Zgo d 34 31 L st S Q ↔ (zpi st False fun v t => zpi t False fun j t => zpa t False fun r t => znn r False fun q o => zop (zArr q) False fun n => if n.1 = 0 then zix j n.2 False fun x => Zgo d 34 32 L t (zsI S.1 q o x v, S.2) Q else False) := Zgo_iff (i := .iastore) (len := 1) (a := 0) (b := 0) (c := 0) (p := 0) rfl
theorem zg_34_32 : Zgo d 34 32 L st S Q ↔ (zlda L 0 False fun r => Zgo d 34 33 L (zq r :: st) S Q) := Zgo_iff (i := .aload_n 0) (len := 1) (a := 0) (b := 0) (c := 0) (p := 0) rfl
theorem zg_34_33 : Zgo d 34 33 L st S Q ↔ (zp1 st False fun v t => Zgo d 34 34 L (v :: v :: t) S Q) := Zgo_iff (i := .dup) (len := 1) (a := 0) (b := 0) (c := 0) (p := 0) rfl
theorem zg_34_34 : Zgo d 34 34 L st S Q ↔ (zpa st False fun r t => zde r 6 False fun o => Zgo d 34 37 L (zi (S.1 6 o 2) :: t) S Q) := Zgo_iff (i := .getfield 22) (len := 3) (a := 6) (b := 2) (c := 0) (p := 1093) rfl
theorem zg_34_37 : Zgo d 34 37 L st S Q ↔ (Zgo d 34 38 L (zi 1 :: st) S Q) := Zgo_iff (i := .iconst 1) (len := 1) (a := 0) (b := 0) (c := 0) (p := 0) rfl
theorem zg_34_38 : Zgo d 34 38 L st S Q ↔ (zpi st False fun y t => zpi t False fun x t => Zgo d 34 39 L (zi (x + y) :: t) S Q) := Zgo_iff (i := .iadd) (len := 1) (a := 0) (b := 0) (c := 0) (p := 0) rfl
theorem zg_34_39 : Zgo d 34 39 L st S Q ↔ (zpi st False fun v t => zpa t False fun r t => zde r 6 False fun o => Zgo d 34 42 L t (zsI S.1 6 o 2 v, S.2) Q) := Zgo_iff (i := .putfield 22) (len := 3) (a := 6) (b := 2) (c := 0) (p := 1093) rfl
theorem zg_34_42 : Zgo d 34 42 L st S Q ↔ (Zgo d 34 43 L (zi 1 :: st) S Q) := Zgo_iff (i := .iconst 1) (len := 1) (a := 0) (b := 0) (c := 0) (p := 0) rfl
theorem zg_34_43 : Zgo d 34 43 L st S Q ↔ (zpi st False fun x t => zem t False (zok 1 x False (Q (some (zi x)) S))) := Zgo_iff (i := .ireturn) (len := 1) (a := 0) (b := 0) (c := 0) (p := 0) rfl
/-- LeavingMachine$Reader.readNumber()Z -/
theorem zg_35_0 : Zgo d 35 0 L st S Q ↔ (Zgo d 35 1 L (zi 0 :: st) S Q) := Zgo_iff (i := .iconst 0) (len := 1) (a := 0) (b := 0) (c := 0) (p := 0) rfl
theorem zg_35_1 : Zgo d 35 1 L st S Q ↔ (zpi st False fun x t => Zgo d 35 2 (zst L 1 (some (zi x))) t S Q) := Zgo_iff (i := .istore_n 1) (len := 1) (a := 0) (b := 0) (c := 0) (p := 0) rfl
theorem zg_35_2 : Zgo d 35 2 L st S Q ↔ (Zgo d 35 3 L (zi 0 :: st) S Q) := Zgo_iff (i := .iconst 0) (len := 1) (a := 0) (b := 0) (c := 0) (p := 0) rfl
theorem zg_35_3 : Zgo d 35 3 L st S Q ↔ (zpi st False fun x t => Zgo d 35 4 (zst L 2 (some (zi x))) t S Q) := Zgo_iff (i := .istore_n 2) (len := 1) (a := 0) (b := 0) (c := 0) (p := 0) rfl
theorem zg_35_4 : Zgo d 35 4 L st S Q ↔ (zlda L 0 False fun r => Zgo d 35 5 L (zq r :: st) S Q) := Zgo_iff (i := .aload_n 0) (len := 1) (a := 0) (b := 0) (c := 0) (p := 0) rfl
theorem zg_35_5 : Zgo d 35 5 L st S Q ↔ (Zgo d 35 7 L (zi 48 :: st) S Q) := Zgo_iff (i := .bipush 48) (len := 2) (a := 0) (b := 0) (c := 0) (p := 0) rfl
theorem zg_35_7 : Zgo d 35 7 L st S Q ↔ (Zgo d 35 9 L (zi 57 :: st) S Q) := Zgo_iff (i := .bipush 57) (len := 2) (a := 0) (b := 0) (c := 0) (p := 0) rfl
theorem zg_35_9 : Zgo d 35 9 L st S Q ↔ (zinv 3 st False fun as t => zrec as 8 False (zCp d 22 as S fun r S2 => Zgo d 35 12 L (r.toList ++ t) S2 Q)) := Zgo_iff (i := .invokevirtual 49) (len := 3) (a := 22) (b := 3) (c := 0) (p := 2172) rfl
theorem zg_35_12 : Zgo d 35 12 L st S Q ↔ (zpi st False fun x t => Zgo d 35 13 (zst L 3 (some (zi x))) t S Q) := Zgo_iff (i := .istore_n 3) (len := 1) (a := 0) (b := 0) (c := 0) (p := 0) rfl
theorem zg_35_13 : Zgo d 35 13 L st S Q ↔ (zldi L 3 False fun x => Zgo d 35 14 L (zi x :: st) S Q) := Zgo_iff (i := .iload_n 3) (len := 1) (a := 0) (b := 0) (c := 0) (p := 0) rfl
theorem zg_35_14 : Zgo d 35 14 L st S Q ↔ (Zgo d 35 15 L (zi (-1) :: st) S Q) := Zgo_iff (i := .iconst (-1)) (len := 1) (a := 0) (b := 0) (c := 0) (p := 0) rfl
theorem zg_35_15 : Zgo d 35 15 L st S Q ↔ (zpi st False fun y t => zpi t False fun x t => if zw x = zw y then Zgo d 35 45 L t S Q else Zgo d 35 18 L t S Q) := Zgo_iff (i := .if_icmp .eq 30) (len := 3) (a := 0) (b := 0) (c := 0) (p := 0) rfl
theorem zg_35_18 : Zgo d 35 18 L st S Q ↔ (zldi L 2 False fun x => Zgo d 35 19 L (zi x :: st) S Q) := Zgo_iff (i := .iload_n 2) (len := 1) (a := 0) (b := 0) (c := 0) (p := 0) rfl
theorem zg_35_19 : Zgo d 35 19 L st S Q ↔ (Zgo d 35 20 L (zi 3 :: st) S Q) := Zgo_iff (i := .iconst 3) (len := 1) (a := 0) (b := 0) (c := 0) (p := 0) rfl
theorem zg_35_20 : Zgo d 35 20 L st S Q ↔ (zpi st False fun y t => zpi t False fun x t => if zw y < zw x then Zgo d 35 45 L t S Q else Zgo d 35 23 L t S Q) := Zgo_iff (i := .if_icmp .gt 25) (len := 3) (a := 0) (b := 0) (c := 0) (p := 0) rfl
theorem zg_35_23 : Zgo d 35 23 L st S Q ↔ (zldi L 1 False fun x => Zgo d 35 24 L (zi x :: st) S Q) := Zgo_iff (i := .iload_n 1) (len := 1) (a := 0) (b := 0) (c := 0) (p := 0) rfl
theorem zg_35_24 : Zgo d 35 24 L st S Q ↔ (Zgo d 35 26 L (zi 10 :: st) S Q) := Zgo_iff (i := .bipush 10) (len := 2) (a := 0) (b := 0) (c := 0) (p := 0) rfl
theorem zg_35_26 : Zgo d 35 26 L st S Q ↔ (zpi st False fun y t => zpi t False fun x t => Zgo d 35 27 L (zi (x * y) :: t) S Q) := Zgo_iff (i := .imul) (len := 1) (a := 0) (b := 0) (c := 0) (p := 0) rfl
theorem zg_35_27 : Zgo d 35 27 L st S Q ↔ (zldi L 3 False fun x => Zgo d 35 28 L (zi x :: st) S Q) := Zgo_iff (i := .iload_n 3) (len := 1) (a := 0) (b := 0) (c := 0) (p := 0) rfl
theorem zg_35_28 : Zgo d 35 28 L st S Q ↔ (zpi st False fun y t => zpi t False fun x t => Zgo d 35 29 L (zi (x + y) :: t) S Q) := Zgo_iff (i := .iadd) (len := 1) (a := 0) (b := 0) (c := 0) (p := 0) rfl
theorem zg_35_29 : Zgo d 35 29 L st S Q ↔ (zpi st False fun x t => Zgo d 35 30 (zst L 1 (some (zi x))) t S Q) := Zgo_iff (i := .istore_n 1) (len := 1) (a := 0) (b := 0) (c := 0) (p := 0) rfl
theorem zg_35_30 : Zgo d 35 30 L st S Q ↔ (zlda L 0 False fun r => Zgo d 35 31 L (zq r :: st) S Q) := Zgo_iff (i := .aload_n 0) (len := 1) (a := 0) (b := 0) (c := 0) (p := 0) rfl
theorem zg_35_31 : Zgo d 35 31 L st S Q ↔ (Zgo d 35 33 L (zi 48 :: st) S Q) := Zgo_iff (i := .bipush 48) (len := 2) (a := 0) (b := 0) (c := 0) (p := 0) rfl
theorem zg_35_33 : Zgo d 35 33 L st S Q ↔ (Zgo d 35 35 L (zi 57 :: st) S Q) := Zgo_iff (i := .bipush 57) (len := 2) (a := 0) (b := 0) (c := 0) (p := 0) rfl
theorem zg_35_35 : Zgo d 35 35 L st S Q ↔ (zinv 3 st False fun as t => zrec as 8 False (zCp d 22 as S fun r S2 => Zgo d 35 38 L (r.toList ++ t) S2 Q)) := Zgo_iff (i := .invokevirtual 49) (len := 3) (a := 22) (b := 3) (c := 0) (p := 2172) rfl
theorem zg_35_38 : Zgo d 35 38 L st S Q ↔ (zpi st False fun x t => Zgo d 35 39 (zst L 3 (some (zi x))) t S Q) := Zgo_iff (i := .istore_n 3) (len := 1) (a := 0) (b := 0) (c := 0) (p := 0) rfl
theorem zg_35_39 : Zgo d 35 39 L st S Q ↔ (zldi L 2 False fun x => Zgo d 35 42 (zst L 2 (some (zi (x + 1)))) st S Q) := Zgo_iff (i := .iinc 2 1) (len := 3) (a := 0) (b := 0) (c := 0) (p := 0) rfl
theorem zg_35_42 : Zgo d 35 42 L st S Q ↔ (Zgo d 35 13 L st S Q) := Zgo_iff (i := .goto (-29)) (len := 3) (a := 0) (b := 0) (c := 0) (p := 0) rfl
theorem zg_35_45 : Zgo d 35 45 L st S Q ↔ (zldi L 2 False fun x => Zgo d 35 46 L (zi x :: st) S Q) := Zgo_iff (i := .iload_n 2) (len := 1) (a := 0) (b := 0) (c := 0) (p := 0) rfl
theorem zg_35_46 : Zgo d 35 46 L st S Q ↔ (Zgo d 35 47 L (zi 1 :: st) S Q) := Zgo_iff (i := .iconst 1) (len := 1) (a := 0) (b := 0) (c := 0) (p := 0) rfl
theorem zg_35_47 : Zgo d 35 47 L st S Q ↔ (zpi st False fun y t => zpi t False fun x t => if zw x < zw y then Zgo d 35 75 L t S Q else Zgo d 35 50 L t S Q) := Zgo_iff (i := .if_icmp .lt 28) (len := 3) (a := 0) (b := 0) (c := 0) (p := 0) rfl
theorem zg_35_50 : Zgo d 35 50 L st S Q ↔ (zldi L 2 False fun x => Zgo d 35 51 L (zi x :: st) S Q) := Zgo_iff (i := .iload_n 2) (len := 1) (a := 0) (b := 0) (c := 0) (p := 0) rfl
theorem zg_35_51 : Zgo d 35 51 L st S Q ↔ (Zgo d 35 52 L (zi 3 :: st) S Q) := Zgo_iff (i := .iconst 3) (len := 1) (a := 0) (b := 0) (c := 0) (p := 0) rfl
theorem zg_35_52 : Zgo d 35 52 L st S Q ↔ (zpi st False fun y t => zpi t False fun x t => if zw y < zw x then Zgo d 35 75 L t S Q else Zgo d 35 55 L t S Q) := Zgo_iff (i := .if_icmp .gt 23) (len := 3) (a := 0) (b := 0) (c := 0) (p := 0) rfl
theorem zg_35_55 : Zgo d 35 55 L st S Q ↔ (zlda L 0 False fun r => Zgo d 35 56 L (zq r :: st) S Q) := Zgo_iff (i := .aload_n 0) (len := 1) (a := 0) (b := 0) (c := 0) (p := 0) rfl
theorem zg_35_56 : Zgo d 35 56 L st S Q ↔ (zpa st False fun r t => zde r 8 False fun o => Zgo d 35 59 L (zq (S.2.1 8 o 1) :: t) S Q) := Zgo_iff (i := .getfield 15) (len := 3) (a := 8) (b := 1) (c := 3) (p := 2043) rfl
theorem zg_35_59 : Zgo d 35 59 L st S Q ↔ (zpa st False fun r t => zde r 7 False fun o => Zgo d 35 62 L (zq (S.2.1 7 o 3) :: t) S Q) := Zgo_iff (i := .getfield 152) (len := 3) (a := 7) (b := 3) (c := 3) (p := 2000) rfl
theorem zg_35_62 : Zgo d 35 62 L st S Q ↔ (Zgo d 35 64 L (zi 110 :: st) S Q) := Zgo_iff (i := .bipush 110) (len := 2) (a := 0) (b := 0) (c := 0) (p := 0) rfl
theorem zg_35_64 : Zgo d 35 64 L st S Q ↔ (zldi L 1 False fun x => Zgo d 35 65 L (zi x :: st) S Q) := Zgo_iff (i := .iload_n 1) (len := 1) (a := 0) (b := 0) (c := 0) (p := 0) rfl
theorem zg_35_65 : Zgo d 35 65 L st S Q ↔ (zinv 3 st False fun as t => zrec as 6 False (zCp d 34 as S fun r S2 => Zgo d 35 68 L (r.toList ++ t) S2 Q)) := Zgo_iff (i := .invokevirtual 182) (len := 3) (a := 34) (b := 3) (c := 0) (p := 2220) rfl
theorem zg_35_68 : Zgo d 35 68 L st S Q ↔ (zpi st False fun x t => if zw x = zw 0 then Zgo d 35 75 L t S Q else Zgo d 35 71 L t S Q) := Zgo_iff (i := .ifCond .eq 7) (len := 3) (a := 0) (b := 0) (c := 0) (p := 0) rfl
theorem zg_35_71 : Zgo d 35 71 L st S Q ↔ (Zgo d 35 72 L (zi 1 :: st) S Q) := Zgo_iff (i := .iconst 1) (len := 1) (a := 0) (b := 0) (c := 0) (p := 0) rfl
theorem zg_35_72 : Zgo d 35 72 L st S Q ↔ (Zgo d 35 76 L st S Q) := Zgo_iff (i := .goto 4) (len := 3) (a := 0) (b := 0) (c := 0) (p := 0) rfl
theorem zg_35_75 : Zgo d 35 75 L st S Q ↔ (Zgo d 35 76 L (zi 0 :: st) S Q) := Zgo_iff (i := .iconst 0) (len := 1) (a := 0) (b := 0) (c := 0) (p := 0) rfl
theorem zg_35_76 : Zgo d 35 76 L st S Q ↔ (zpi st False fun x t => zem t False (zok 1 x False (Q (some (zi x)) S))) := Zgo_iff (i := .ireturn) (len := 1) (a := 0) (b := 0) (c := 0) (p := 0) rfl
/-- LeavingMachine$Reader.readChoice(LLeavingMachine$Statement;LLeavingMachine$Block;)Z -/
theorem zg_36_0 : Zgo d 36 0 L st S Q ↔ (zlda L 0 False fun r => Zgo d 36 1 L (zq r :: st) S Q) := Zgo_iff (i := .aload_n 0) (len := 1) (a := 0) (b := 0) (c := 0) (p := 0) rfl
theorem zg_36_1 : Zgo d 36 1 L st S Q ↔ (zlda L 1 False fun r => Zgo d 36 2 L (zq r :: st) S Q) := Zgo_iff (i := .aload_n 1) (len := 1) (a := 0) (b := 0) (c := 0) (p := 0) rfl
theorem zg_36_2 : Zgo d 36 2 L st S Q ↔ (zinv 2 st False fun as t => zrec as 8 False (zCp d 31 as S fun r S2 => Zgo d 36 5 L (r.toList ++ t) S2 Q)) := Zgo_iff (i := .invokevirtual 110) (len := 3) (a := 31) (b := 2) (c := 0) (p := 2208) rfl
theorem zg_36_5 : Zgo d 36 5 L st S Q ↔ (zpi st False fun x t => if zw x = zw 0 then Zgo d 36 8 L t S Q else Zgo d 36 10 L t S Q) := Zgo_iff (i := .ifCond .ne 5) (len := 3) (a := 0) (b := 0) (c := 0) (p := 0) rfl
theorem zg_36_8 : Zgo d 36 8 L st S Q ↔ (Zgo d 36 9 L (zi 0 :: st) S Q) := Zgo_iff (i := .iconst 0) (len := 1) (a := 0) (b := 0) (c := 0) (p := 0) rfl
theorem zg_36_9 : Zgo d 36 9 L st S Q ↔ (zpi st False fun x t => zem t False (zok 1 x False (Q (some (zi x)) S))) := Zgo_iff (i := .ireturn) (len := 1) (a := 0) (b := 0) (c := 0) (p := 0) rfl
theorem zg_36_10 : Zgo d 36 10 L st S Q ↔ (zlda L 1 False fun r => Zgo d 36 11 L (zq r :: st) S Q) := Zgo_iff (i := .aload_n 1) (len := 1) (a := 0) (b := 0) (c := 0) (p := 0) rfl
theorem zg_36_11 : Zgo d 36 11 L st S Q ↔ (zlda L 0 False fun r => Zgo d 36 12 L (zq r :: st) S Q) := Zgo_iff (i := .aload_n 0) (len := 1) (a := 0) (b := 0) (c := 0) (p := 0) rfl
theorem zg_36_12 : Zgo d 36 12 L st S Q ↔ (zlda L 2 False fun r => Zgo d 36 13 L (zq r :: st) S Q) := Zgo_iff (i := .aload_n 2) (len := 1) (a := 0) (b := 0) (c := 0) (p := 0) rfl
theorem zg_36_13 : Zgo d 36 13 L st S Q ↔ (zinv 2 st False fun as t => zrec as 8 False (zCp d 37 as S fun r S2 => Zgo d 36 16 L (r.toList ++ t) S2 Q)) := Zgo_iff (i := .invokevirtual 124) (len := 3) (a := 37) (b := 2) (c := 0) (p := 3079) rfl
theorem zg_36_16 : Zgo d 36 16 L st S Q ↔ (zpa st False fun v t => zpa t False fun r t => zde r 4 False fun o => Zgo d 36 19 L t (S.1, zsR S.2.1 4 o 7 v, S.2.2) Q) := Zgo_iff (i := .putfield 128) (len := 3) (a := 4) (b := 7) (c := 3) (p := 1142) rfl
theorem zg_36_19 : Zgo d 36 19 L st S Q ↔ (zlda L 1 False fun r => Zgo d 36 20 L (zq r :: st) S Q) := Zgo_iff (i := .aload_n 1) (len := 1) (a := 0) (b := 0) (c := 0) (p := 0) rfl
theorem zg_36_20 : Zgo d 36 20 L st S Q ↔ (zpa st False fun r t => zde r 4 False fun o => Zgo d 36 23 L (zq (S.2.1 4 o 7) :: t) S Q) := Zgo_iff (i := .getfield 128) (len := 3) (a := 4) (b := 7) (c := 3) (p := 1142) rfl
theorem zg_36_23 : Zgo d 36 23 L st S Q ↔ (zpa st False fun x t => if x = none then Zgo d 36 26 L t S Q else Zgo d 36 28 L t S Q) := Zgo_iff (i := .ifnonnull 5) (len := 3) (a := 0) (b := 0) (c := 0) (p := 0) rfl
theorem zg_36_26 : Zgo d 36 26 L st S Q ↔ (Zgo d 36 27 L (zi 0 :: st) S Q) := Zgo_iff (i := .iconst 0) (len := 1) (a := 0) (b := 0) (c := 0) (p := 0) rfl
theorem zg_36_27 : Zgo d 36 27 L st S Q ↔ (zpi st False fun x t => zem t False (zok 1 x False (Q (some (zi x)) S))) := Zgo_iff (i := .ireturn) (len := 1) (a := 0) (b := 0) (c := 0) (p := 0) rfl
theorem zg_36_28 : Zgo d 36 28 L st S Q ↔ (zlda L 1 False fun r => Zgo d 36 29 L (zq r :: st) S Q) := Zgo_iff (i := .aload_n 1) (len := 1) (a := 0) (b := 0) (c := 0) (p := 0) rfl
theorem zg_36_29 : Zgo d 36 29 L st S Q ↔ (zlda L 0 False fun r => Zgo d 36 30 L (zq r :: st) S Q) := Zgo_iff (i := .aload_n 0) (len := 1) (a := 0) (b := 0) (c := 0) (p := 0) rfl
theorem zg_36_30 : Zgo d 36 30 L st S Q ↔ (zlda L 2 False fun r => Zgo d 36 31 L (zq r :: st) S Q) := Zgo_iff (i := .aload_n 2) (len := 1) (a := 0) (b := 0) (c := 0) (p := 0) rfl
theorem zg_36_31 : Zgo d 36 31 L st S Q ↔ (zinv 2 st False fun as t => zrec as 8 False (zCp d 37 as S fun r S2 => Zgo d 36 34 L (r.toList ++ t) S2 Q)) := Zgo_iff (i := .invokevirtual 124) (len := 3) (a := 37) (b := 2) (c := 0) (p := 3079) rfl
theorem zg_36_34 : Zgo d 36 34 L st S Q ↔ (zpa st False fun v t => zpa t False fun r t => zde r 4 False fun o => Zgo d 36 37 L t (S.1, zsR S.2.1 4 o 8 v, S.2.2) Q) := Zgo_iff (i := .putfield 131) (len := 3) (a := 4) (b := 8) (c := 3) (p := 1145) rfl
theorem zg_36_37 : Zgo d 36 37 L st S Q ↔ (zlda L 1 False fun r => Zgo d 36 38 L (zq r :: st) S Q) := Zgo_iff (i := .aload_n 1) (len := 1) (a := 0) (b := 0) (c := 0) (p := 0) rfl
theorem zg_36_38 : Zgo d 36 38 L st S Q ↔ (zpa st False fun r t => zde r 4 False fun o => Zgo d 36 41 L (zq (S.2.1 4 o 8) :: t) S Q) := Zgo_iff (i := .getfield 131) (len := 3) (a := 4) (b := 8) (c := 3) (p := 1145) rfl
theorem zg_36_41 : Zgo d 36 41 L st S Q ↔ (zpa st False fun x t => if x = none then Zgo d 36 48 L t S Q else Zgo d 36 44 L t S Q) := Zgo_iff (i := .ifnull 7) (len := 3) (a := 0) (b := 0) (c := 0) (p := 0) rfl
theorem zg_36_44 : Zgo d 36 44 L st S Q ↔ (Zgo d 36 45 L (zi 1 :: st) S Q) := Zgo_iff (i := .iconst 1) (len := 1) (a := 0) (b := 0) (c := 0) (p := 0) rfl
theorem zg_36_45 : Zgo d 36 45 L st S Q ↔ (Zgo d 36 49 L st S Q) := Zgo_iff (i := .goto 4) (len := 3) (a := 0) (b := 0) (c := 0) (p := 0) rfl
theorem zg_36_48 : Zgo d 36 48 L st S Q ↔ (Zgo d 36 49 L (zi 0 :: st) S Q) := Zgo_iff (i := .iconst 0) (len := 1) (a := 0) (b := 0) (c := 0) (p := 0) rfl
theorem zg_36_49 : Zgo d 36 49 L st S Q ↔ (zpi st False fun x t => zem t False (zok 1 x False (Q (some (zi x)) S))) := Zgo_iff (i := .ireturn) (len := 1) (a := 0) (b := 0) (c := 0) (p := 0) rfl
/-- LeavingMachine$Reader.readBlockIn(LLeavingMachine$Block;)LLeavingMachine$Block; -/
theorem zg_37_0 : Zgo d 37 0 L st S Q ↔ (zlda L 0 False fun r => Zgo d 37 1 L (zq r :: st) S Q) := Zgo_iff (i := .aload_n 0) (len := 1) (a := 0) (b := 0) (c := 0) (p := 0) rfl
theorem zg_37_1 : Zgo d 37 1 L st S Q ↔ (zlda L 1 False fun r => Zgo d 37 2 L (zq r :: st) S Q) := Zgo_iff (i := .aload_n 1) (len := 1) (a := 0) (b := 0) (c := 0) (p := 0) rfl
theorem zg_37_2 : Zgo d 37 2 L st S Q ↔ (zpa st False fun r t => zde r 3 False fun o => Zgo d 37 5 L (zi (S.1 3 o 0) :: t) S Q) := Zgo_iff (i := .getfield 81) (len := 3) (a := 3) (b := 0) (c := 0) (p := 1181) rfl
theorem zg_37_5 : Zgo d 37 5 L st S Q ↔ (Zgo d 37 6 L (zi 1 :: st) S Q) := Zgo_iff (i := .iconst 1) (len := 1) (a := 0) (b := 0) (c := 0) (p := 0) rfl
theorem zg_37_6 : Zgo d 37 6 L st S Q ↔ (zpi st False fun y t => zpi t False fun x t => Zgo d 37 7 L (zi (x + y) :: t) S Q) := Zgo_iff (i := .iadd) (len := 1) (a := 0) (b := 0) (c := 0) (p := 0) rfl
theorem zg_37_7 : Zgo d 37 7 L st S Q ↔ (zlda L 1 False fun r => Zgo d 37 8 L (zq r :: st) S Q) := Zgo_iff (i := .aload_n 1) (len := 1) (a := 0) (b := 0) (c := 0) (p := 0) rfl
theorem zg_37_8 : Zgo d 37 8 L st S Q ↔ (zpa st False fun r t => zde r 3 False fun o => Zgo d 37 11 L (zi (S.1 3 o 1) :: t) S Q) := Zgo_iff (i := .getfield 86) (len := 3) (a := 3) (b := 1) (c := 1) (p := 1184) rfl
theorem zg_37_11 : Zgo d 37 11 L st S Q ↔ (zlda L 1 False fun r => Zgo d 37 12 L (zq r :: st) S Q) := Zgo_iff (i := .aload_n 1) (len := 1) (a := 0) (b := 0) (c := 0) (p := 0) rfl
theorem zg_37_12 : Zgo d 37 12 L st S Q ↔ (zpa st False fun r t => zde r 3 False fun o => Zgo d 37 15 L (zi (S.1 3 o 2) :: t) S Q) := Zgo_iff (i := .getfield 90) (len := 3) (a := 3) (b := 2) (c := 0) (p := 1188) rfl
theorem zg_37_15 : Zgo d 37 15 L st S Q ↔ (zinv 4 st False fun as t => zrec as 8 False (zCp d 26 as S fun r S2 => Zgo d 37 18 L (r.toList ++ t) S2 Q)) := Zgo_iff (i := .invokevirtual 66) (len := 3) (a := 26) (b := 4) (c := 0) (p := 2188) rfl
theorem zg_37_18 : Zgo d 37 18 L st S Q ↔ (zpa st False fun x t => zem t False (Q (some (zq x)) S)) := Zgo_iff (i := .areturn) (len := 1) (a := 0) (b := 0) (c := 0) (p := 0) rfl
/-- LeavingMachine$Reader.readLoop(LLeavingMachine$Statement;LLeavingMachine$Block;)Z -/
theorem zg_38_0 : Zgo d 38 0 L st S Q ↔ (zlda L 0 False fun r => Zgo d 38 1 L (zq r :: st) S Q) := Zgo_iff (i := .aload_n 0) (len := 1) (a := 0) (b := 0) (c := 0) (p := 0) rfl
theorem zg_38_1 : Zgo d 38 1 L st S Q ↔ (zlda L 1 False fun r => Zgo d 38 2 L (zq r :: st) S Q) := Zgo_iff (i := .aload_n 1) (len := 1) (a := 0) (b := 0) (c := 0) (p := 0) rfl
theorem zg_38_2 : Zgo d 38 2 L st S Q ↔ (zinv 2 st False fun as t => zrec as 8 False (zCp d 31 as S fun r S2 => Zgo d 38 5 L (r.toList ++ t) S2 Q)) := Zgo_iff (i := .invokevirtual 110) (len := 3) (a := 31) (b := 2) (c := 0) (p := 2208) rfl
theorem zg_38_5 : Zgo d 38 5 L st S Q ↔ (zpi st False fun x t => if zw x = zw 0 then Zgo d 38 8 L t S Q else Zgo d 38 10 L t S Q) := Zgo_iff (i := .ifCond .ne 5) (len := 3) (a := 0) (b := 0) (c := 0) (p := 0) rfl
theorem zg_38_8 : Zgo d 38 8 L st S Q ↔ (Zgo d 38 9 L (zi 0 :: st) S Q) := Zgo_iff (i := .iconst 0) (len := 1) (a := 0) (b := 0) (c := 0) (p := 0) rfl
theorem zg_38_9 : Zgo d 38 9 L st S Q ↔ (zpi st False fun x t => zem t False (zok 1 x False (Q (some (zi x)) S))) := Zgo_iff (i := .ireturn) (len := 1) (a := 0) (b := 0) (c := 0) (p := 0) rfl
theorem zg_38_10 : Zgo d 38 10 L st S Q ↔ (zlda L 1 False fun r => Zgo d 38 11 L (zq r :: st) S Q) := Zgo_iff (i := .aload_n 1) (len := 1) (a := 0) (b := 0) (c := 0) (p := 0) rfl
theorem zg_38_11 : Zgo d 38 11 L st S Q ↔ (zlda L 0 False fun r => Zgo d 38 12 L (zq r :: st) S Q) := Zgo_iff (i := .aload_n 0) (len := 1) (a := 0) (b := 0) (c := 0) (p := 0) rfl
theorem zg_38_12 : Zgo d 38 12 L st S Q ↔ (zlda L 2 False fun r => Zgo d 38 13 L (zq r :: st) S Q) := Zgo_iff (i := .aload_n 2) (len := 1) (a := 0) (b := 0) (c := 0) (p := 0) rfl
theorem zg_38_13 : Zgo d 38 13 L st S Q ↔ (zpa st False fun r t => zde r 3 False fun o => Zgo d 38 16 L (zi (S.1 3 o 0) :: t) S Q) := Zgo_iff (i := .getfield 81) (len := 3) (a := 3) (b := 0) (c := 0) (p := 1181) rfl
theorem zg_38_16 : Zgo d 38 16 L st S Q ↔ (Zgo d 38 17 L (zi 1 :: st) S Q) := Zgo_iff (i := .iconst 1) (len := 1) (a := 0) (b := 0) (c := 0) (p := 0) rfl
theorem zg_38_17 : Zgo d 38 17 L st S Q ↔ (zpi st False fun y t => zpi t False fun x t => Zgo d 38 18 L (zi (x + y) :: t) S Q) := Zgo_iff (i := .iadd) (len := 1) (a := 0) (b := 0) (c := 0) (p := 0) rfl
theorem zg_38_18 : Zgo d 38 18 L st S Q ↔ (Zgo d 38 19 L (zi 1 :: st) S Q) := Zgo_iff (i := .iconst 1) (len := 1) (a := 0) (b := 0) (c := 0) (p := 0) rfl
theorem zg_38_19 : Zgo d 38 19 L st S Q ↔ (zlda L 2 False fun r => Zgo d 38 20 L (zq r :: st) S Q) := Zgo_iff (i := .aload_n 2) (len := 1) (a := 0) (b := 0) (c := 0) (p := 0) rfl
theorem zg_38_20 : Zgo d 38 20 L st S Q ↔ (zpa st False fun r t => zde r 3 False fun o => Zgo d 38 23 L (zi (S.1 3 o 2) :: t) S Q) := Zgo_iff (i := .getfield 90) (len := 3) (a := 3) (b := 2) (c := 0) (p := 1188) rfl
theorem zg_38_23 : Zgo d 38 23 L st S Q ↔ (zinv 4 st False fun as t => zrec as 8 False (zCp d 26 as S fun r S2 => Zgo d 38 26 L (r.toList ++ t) S2 Q)) := Zgo_iff (i := .invokevirtual 66) (len := 3) (a := 26) (b := 4) (c := 0) (p := 2188) rfl
theorem zg_38_26 : Zgo d 38 26 L st S Q ↔ (zpa st False fun v t => zpa t False fun r t => zde r 4 False fun o => Zgo d 38 29 L t (S.1, zsR S.2.1 4 o 7 v, S.2.2) Q) := Zgo_iff (i := .putfield 128) (len := 3) (a := 4) (b := 7) (c := 3) (p := 1142) rfl
theorem zg_38_29 : Zgo d 38 29 L st S Q ↔ (zlda L 1 False fun r => Zgo d 38 30 L (zq r :: st) S Q) := Zgo_iff (i := .aload_n 1) (len := 1) (a := 0) (b := 0) (c := 0) (p := 0) rfl
theorem zg_38_30 : Zgo d 38 30 L st S Q ↔ (zpa st False fun r t => zde r 4 False fun o => Zgo d 38 33 L (zq (S.2.1 4 o 7) :: t) S Q) := Zgo_iff (i := .getfield 128) (len := 3) (a := 4) (b := 7) (c := 3) (p := 1142) rfl
theorem zg_38_33 : Zgo d 38 33 L st S Q ↔ (zpa st False fun x t => if x = none then Zgo d 38 40 L t S Q else Zgo d 38 36 L t S Q) := Zgo_iff (i := .ifnull 7) (len := 3) (a := 0) (b := 0) (c := 0) (p := 0) rfl
theorem zg_38_36 : Zgo d 38 36 L st S Q ↔ (Zgo d 38 37 L (zi 1 :: st) S Q) := Zgo_iff (i := .iconst 1) (len := 1) (a := 0) (b := 0) (c := 0) (p := 0) rfl
theorem zg_38_37 : Zgo d 38 37 L st S Q ↔ (Zgo d 38 41 L st S Q) := Zgo_iff (i := .goto 4) (len := 3) (a := 0) (b := 0) (c := 0) (p := 0) rfl
theorem zg_38_40 : Zgo d 38 40 L st S Q ↔ (Zgo d 38 41 L (zi 0 :: st) S Q) := Zgo_iff (i := .iconst 0) (len := 1) (a := 0) (b := 0) (c := 0) (p := 0) rfl
theorem zg_38_41 : Zgo d 38 41 L st S Q ↔ (zpi st False fun x t => zem t False (zok 1 x False (Q (some (zi x)) S))) := Zgo_iff (i := .ireturn) (len := 1) (a := 0) (b := 0) (c := 0) (p := 0) rfl
/-- LeavingMachine$Reader.readTry(LLeavingMachine$Statement;LLeavingMachine$Block;)Z -/
theorem zg_39_0 : Zgo d 39 0 L st S Q ↔ (zlda L 1 False fun r => Zgo d 39 1 L (zq r :: st) S Q) := Zgo_iff (i := .aload_n 1) (len := 1) (a := 0) (b := 0) (c := 0) (p := 0) rfl
theorem zg_39_1 : Zgo d 39 1 L st S Q ↔ (zlda L 0 False fun r => Zgo d 39 2 L (zq r :: st) S Q) := Zgo_iff (i := .aload_n 0) (len := 1) (a := 0) (b := 0) (c := 0) (p := 0) rfl
theorem zg_39_2 : Zgo d 39 2 L st S Q ↔ (zlda L 2 False fun r => Zgo d 39 3 L (zq r :: st) S Q) := Zgo_iff (i := .aload_n 2) (len := 1) (a := 0) (b := 0) (c := 0) (p := 0) rfl
theorem zg_39_3 : Zgo d 39 3 L st S Q ↔ (zinv 2 st False fun as t => zrec as 8 False (zCp d 37 as S fun r S2 => Zgo d 39 6 L (r.toList ++ t) S2 Q)) := Zgo_iff (i := .invokevirtual 124) (len := 3) (a := 37) (b := 2) (c := 0) (p := 3079) rfl
theorem zg_39_6 : Zgo d 39 6 L st S Q ↔ (zpa st False fun v t => zpa t False fun r t => zde r 4 False fun o => Zgo d 39 9 L t (S.1, zsR S.2.1 4 o 7 v, S.2.2) Q) := Zgo_iff (i := .putfield 128) (len := 3) (a := 4) (b := 7) (c := 3) (p := 1142) rfl
theorem zg_39_9 : Zgo d 39 9 L st S Q ↔ (zlda L 1 False fun r => Zgo d 39 10 L (zq r :: st) S Q) := Zgo_iff (i := .aload_n 1) (len := 1) (a := 0) (b := 0) (c := 0) (p := 0) rfl
theorem zg_39_10 : Zgo d 39 10 L st S Q ↔ (zpa st False fun r t => zde r 4 False fun o => Zgo d 39 13 L (zq (S.2.1 4 o 7) :: t) S Q) := Zgo_iff (i := .getfield 128) (len := 3) (a := 4) (b := 7) (c := 3) (p := 1142) rfl
theorem zg_39_13 : Zgo d 39 13 L st S Q ↔ (zpa st False fun x t => if x = none then Zgo d 39 16 L t S Q else Zgo d 39 18 L t S Q) := Zgo_iff (i := .ifnonnull 5) (len := 3) (a := 0) (b := 0) (c := 0) (p := 0) rfl
theorem zg_39_16 : Zgo d 39 16 L st S Q ↔ (Zgo d 39 17 L (zi 0 :: st) S Q) := Zgo_iff (i := .iconst 0) (len := 1) (a := 0) (b := 0) (c := 0) (p := 0) rfl
theorem zg_39_17 : Zgo d 39 17 L st S Q ↔ (zpi st False fun x t => zem t False (zok 1 x False (Q (some (zi x)) S))) := Zgo_iff (i := .ireturn) (len := 1) (a := 0) (b := 0) (c := 0) (p := 0) rfl
theorem zg_39_18 : Zgo d 39 18 L st S Q ↔ (Zgo d 39 19 L (zi 0 :: st) S Q) := Zgo_iff (i := .iconst 0) (len := 1) (a := 0) (b := 0) (c := 0) (p := 0) rfl
theorem zg_39_19 : Zgo d 39 19 L st S Q ↔ (zpi st False fun x t => Zgo d 39 20 (zst L 3 (some (zi x))) t S Q) := Zgo_iff (i := .istore_n 3) (len := 1) (a := 0) (b := 0) (c := 0) (p := 0) rfl
theorem zg_39_20 : Zgo d 39 20 L st S Q ↔ (zldi L 3 False fun x => Zgo d 39 21 L (zi x :: st) S Q) := Zgo_iff (i := .iload_n 3) (len := 1) (a := 0) (b := 0) (c := 0) (p := 0) rfl
theorem zg_39_21 : Zgo d 39 21 L st S Q ↔ (Zgo d 39 22 L (zi 3 :: st) S Q) := Zgo_iff (i := .iconst 3) (len := 1) (a := 0) (b := 0) (c := 0) (p := 0) rfl
theorem zg_39_22 : Zgo d 39 22 L st S Q ↔ (zpi st False fun y t => zpi t False fun x t => if zw x < zw y then Zgo d 39 25 L t S Q else Zgo d 39 51 L t S Q) := Zgo_iff (i := .if_icmp .ge 29) (len := 3) (a := 0) (b := 0) (c := 0) (p := 0) rfl
theorem zg_39_25 : Zgo d 39 25 L st S Q ↔ (zlda L 0 False fun r => Zgo d 39 26 L (zq r :: st) S Q) := Zgo_iff (i := .aload_n 0) (len := 1) (a := 0) (b := 0) (c := 0) (p := 0) rfl
theorem zg_39_26 : Zgo d 39 26 L st S Q ↔ (Zgo d 39 28 L (zi 75 :: st) S Q) := Zgo_iff (i := .bipush 75) (len := 2) (a := 0) (b := 0) (c := 0) (p := 0) rfl
theorem zg_39_28 : Zgo d 39 28 L st S Q ↔ (zinv 2 st False fun as t => zrec as 8 False (zCp d 20 as S fun r S2 => Zgo d 39 31 L (r.toList ++ t) S2 Q)) := Zgo_iff (i := .invokevirtual 28) (len := 3) (a := 20) (b := 2) (c := 0) (p := 2164) rfl
theorem zg_39_31 : Zgo d 39 31 L st S Q ↔ (zpi st False fun x t => if zw x = zw 0 then Zgo d 39 51 L t S Q else Zgo d 39 34 L t S Q) := Zgo_iff (i := .ifCond .eq 20) (len := 3) (a := 0) (b := 0) (c := 0) (p := 0) rfl
theorem zg_39_34 : Zgo d 39 34 L st S Q ↔ (zlda L 0 False fun r => Zgo d 39 35 L (zq r :: st) S Q) := Zgo_iff (i := .aload_n 0) (len := 1) (a := 0) (b := 0) (c := 0) (p := 0) rfl
theorem zg_39_35 : Zgo d 39 35 L st S Q ↔ (zlda L 1 False fun r => Zgo d 39 36 L (zq r :: st) S Q) := Zgo_iff (i := .aload_n 1) (len := 1) (a := 0) (b := 0) (c := 0) (p := 0) rfl
theorem zg_39_36 : Zgo d 39 36 L st S Q ↔ (zlda L 2 False fun r => Zgo d 39 37 L (zq r :: st) S Q) := Zgo_iff (i := .aload_n 2) (len := 1) (a := 0) (b := 0) (c := 0) (p := 0) rfl
theorem zg_39_37 : Zgo d 39 37 L st S Q ↔ (zinv 3 st False fun as t => zrec as 8 False (zCp d 40 as S fun r S2 => Zgo d 39 40 L (r.toList ++ t) S2 Q)) := Zgo_iff (i := .invokevirtual 134) (len := 3) (a := 40) (b := 3) (c := 0) (p := 3091) rfl
theorem zg_39_40 : Zgo d 39 40 L st S Q ↔ (zpi st False fun x t => if zw x = zw 0 then Zgo d 39 43 L t S Q else Zgo d 39 45 L t S Q) := Zgo_iff (i := .ifCond .ne 5) (len := 3) (a := 0) (b := 0) (c := 0) (p := 0) rfl
theorem zg_39_43 : Zgo d 39 43 L st S Q ↔ (Zgo d 39 44 L (zi 0 :: st) S Q) := Zgo_iff (i := .iconst 0) (len := 1) (a := 0) (b := 0) (c := 0) (p := 0) rfl
theorem zg_39_44 : Zgo d 39 44 L st S Q ↔ (zpi st False fun x t => zem t False (zok 1 x False (Q (some (zi x)) S))) := Zgo_iff (i := .ireturn) (len := 1) (a := 0) (b := 0) (c := 0) (p := 0) rfl
theorem zg_39_45 : Zgo d 39 45 L st S Q ↔ (zldi L 3 False fun x => Zgo d 39 48 (zst L 3 (some (zi (x + 1)))) st S Q) := Zgo_iff (i := .iinc 3 1) (len := 3) (a := 0) (b := 0) (c := 0) (p := 0) rfl
theorem zg_39_48 : Zgo d 39 48 L st S Q ↔ (Zgo d 39 20 L st S Q) := Zgo_iff (i := .goto (-28)) (len := 3) (a := 0) (b := 0) (c := 0) (p := 0) rfl
theorem zg_39_51 : Zgo d 39 51 L st S Q ↔ (zlda L 0 False fun r => Zgo d 39 52 L (zq r :: st) S Q) := Zgo_iff (i := .aload_n 0) (len := 1) (a := 0) (b := 0) (c := 0) (p := 0) rfl
theorem zg_39_52 : Zgo d 39 52 L st S Q ↔ (Zgo d 39 54 L (zi 70 :: st) S Q) := Zgo_iff (i := .bipush 70) (len := 2) (a := 0) (b := 0) (c := 0) (p := 0) rfl
theorem zg_39_54 : Zgo d 39 54 L st S Q ↔ (zinv 2 st False fun as t => zrec as 8 False (zCp d 20 as S fun r S2 => Zgo d 39 57 L (r.toList ++ t) S2 Q)) := Zgo_iff (i := .invokevirtual 28) (len := 3) (a := 20) (b := 2) (c := 0) (p := 2164) rfl
theorem zg_39_57 : Zgo d 39 57 L st S Q ↔ (zpi st False fun x t => if zw x = zw 0 then Zgo d 39 60 L t S Q else Zgo d 39 73 L t S Q) := Zgo_iff (i := .ifCond .ne 16) (len := 3) (a := 0) (b := 0) (c := 0) (p := 0) rfl
theorem zg_39_60 : Zgo d 39 60 L st S Q ↔ (zlda L 1 False fun r => Zgo d 39 61 L (zq r :: st) S Q) := Zgo_iff (i := .aload_n 1) (len := 1) (a := 0) (b := 0) (c := 0) (p := 0) rfl
theorem zg_39_61 : Zgo d 39 61 L st S Q ↔ (zpa st False fun r t => zde r 4 False fun o => Zgo d 39 64 L (zq (S.2.1 4 o 9) :: t) S Q) := Zgo_iff (i := .getfield 137) (len := 3) (a := 4) (b := 9) (c := 3) (p := 1149) rfl
theorem zg_39_64 : Zgo d 39 64 L st S Q ↔ (zpa st False fun x t => if x = none then Zgo d 39 71 L t S Q else Zgo d 39 67 L t S Q) := Zgo_iff (i := .ifnull 7) (len := 3) (a := 0) (b := 0) (c := 0) (p := 0) rfl
theorem zg_39_67 : Zgo d 39 67 L st S Q ↔ (Zgo d 39 68 L (zi 1 :: st) S Q) := Zgo_iff (i := .iconst 1) (len := 1) (a := 0) (b := 0) (c := 0) (p := 0) rfl
theorem zg_39_68 : Zgo d 39 68 L st S Q ↔ (Zgo d 39 72 L st S Q) := Zgo_iff (i := .goto 4) (len := 3) (a := 0) (b := 0) (c := 0) (p := 0) rfl
theorem zg_39_71 : Zgo d 39 71 L st S Q ↔ (Zgo d 39 72 L (zi 0 :: st) S Q) := Zgo_iff (i := .iconst 0) (len := 1) (a := 0) (b := 0) (c := 0) (p := 0) rfl
theorem zg_39_72 : Zgo d 39 72 L st S Q ↔ (zpi st False fun x t => zem t False (zok 1 x False (Q (some (zi x)) S))) := Zgo_iff (i := .ireturn) (len := 1) (a := 0) (b := 0) (c := 0) (p := 0) rfl
theorem zg_39_73 : Zgo d 39 73 L st S Q ↔ (zlda L 1 False fun r => Zgo d 39 74 L (zq r :: st) S Q) := Zgo_iff (i := .aload_n 1) (len := 1) (a := 0) (b := 0) (c := 0) (p := 0) rfl
theorem zg_39_74 : Zgo d 39 74 L st S Q ↔ (zlda L 0 False fun r => Zgo d 39 75 L (zq r :: st) S Q) := Zgo_iff (i := .aload_n 0) (len := 1) (a := 0) (b := 0) (c := 0) (p := 0) rfl
theorem zg_39_75 : Zgo d 39 75 L st S Q ↔ (zlda L 2 False fun r => Zgo d 39 76 L (zq r :: st) S Q) := Zgo_iff (i := .aload_n 2) (len := 1) (a := 0) (b := 0) (c := 0) (p := 0) rfl
theorem zg_39_76 : Zgo d 39 76 L st S Q ↔ (zinv 2 st False fun as t => zrec as 8 False (zCp d 37 as S fun r S2 => Zgo d 39 79 L (r.toList ++ t) S2 Q)) := Zgo_iff (i := .invokevirtual 124) (len := 3) (a := 37) (b := 2) (c := 0) (p := 3079) rfl
theorem zg_39_79 : Zgo d 39 79 L st S Q ↔ (zpa st False fun v t => zpa t False fun r t => zde r 4 False fun o => Zgo d 39 82 L t (S.1, zsR S.2.1 4 o 8 v, S.2.2) Q) := Zgo_iff (i := .putfield 131) (len := 3) (a := 4) (b := 8) (c := 3) (p := 1145) rfl
theorem zg_39_82 : Zgo d 39 82 L st S Q ↔ (zlda L 1 False fun r => Zgo d 39 83 L (zq r :: st) S Q) := Zgo_iff (i := .aload_n 1) (len := 1) (a := 0) (b := 0) (c := 0) (p := 0) rfl
theorem zg_39_83 : Zgo d 39 83 L st S Q ↔ (zpa st False fun r t => zde r 4 False fun o => Zgo d 39 86 L (zq (S.2.1 4 o 8) :: t) S Q) := Zgo_iff (i := .getfield 131) (len := 3) (a := 4) (b := 8) (c := 3) (p := 1145) rfl
theorem zg_39_86 : Zgo d 39 86 L st S Q ↔ (zpa st False fun x t => if x = none then Zgo d 39 93 L t S Q else Zgo d 39 89 L t S Q) := Zgo_iff (i := .ifnull 7) (len := 3) (a := 0) (b := 0) (c := 0) (p := 0) rfl
theorem zg_39_89 : Zgo d 39 89 L st S Q ↔ (Zgo d 39 90 L (zi 1 :: st) S Q) := Zgo_iff (i := .iconst 1) (len := 1) (a := 0) (b := 0) (c := 0) (p := 0) rfl
theorem zg_39_90 : Zgo d 39 90 L st S Q ↔ (Zgo d 39 94 L st S Q) := Zgo_iff (i := .goto 4) (len := 3) (a := 0) (b := 0) (c := 0) (p := 0) rfl
theorem zg_39_93 : Zgo d 39 93 L st S Q ↔ (Zgo d 39 94 L (zi 0 :: st) S Q) := Zgo_iff (i := .iconst 0) (len := 1) (a := 0) (b := 0) (c := 0) (p := 0) rfl
theorem zg_39_94 : Zgo d 39 94 L st S Q ↔ (zpi st False fun x t => zem t False (zok 1 x False (Q (some (zi x)) S))) := Zgo_iff (i := .ireturn) (len := 1) (a := 0) (b := 0) (c := 0) (p := 0) rfl
/-- LeavingMachine$Reader.readCatch(LLeavingMachine$Statement;LLeavingMachine$Block;)Z -/
theorem zg_40_0 : Zgo d 40 0 L st S Q ↔ (zlda L 0 False fun r => Zgo d 40 1 L (zq r :: st) S Q) := Zgo_iff (i := .aload_n 0) (len := 1) (a := 0) (b := 0) (c := 0) (p := 0) rfl
theorem zg_40_1 : Zgo d 40 1 L st S Q ↔ (Zgo d 40 3 L (zi 48 :: st) S Q) := Zgo_iff (i := .bipush 48) (len := 2) (a := 0) (b := 0) (c := 0) (p := 0) rfl
theorem zg_40_3 : Zgo d 40 3 L st S Q ↔ (Zgo d 40 5 L (zi 52 :: st) S Q) := Zgo_iff (i := .bipush 52) (len := 2) (a := 0) (b := 0) (c := 0) (p := 0) rfl
theorem zg_40_5 : Zgo d 40 5 L st S Q ↔ (zinv 3 st False fun as t => zrec as 8 False (zCp d 22 as S fun r S2 => Zgo d 40 8 L (r.toList ++ t) S2 Q)) := Zgo_iff (i := .invokevirtual 49) (len := 3) (a := 22) (b := 3) (c := 0) (p := 2172) rfl
theorem zg_40_8 : Zgo d 40 8 L st S Q ↔ (zpi st False fun x t => Zgo d 40 9 (zst L 3 (some (zi x))) t S Q) := Zgo_iff (i := .istore_n 3) (len := 1) (a := 0) (b := 0) (c := 0) (p := 0) rfl
theorem zg_40_9 : Zgo d 40 9 L st S Q ↔ (zlda L 0 False fun r => Zgo d 40 10 L (zq r :: st) S Q) := Zgo_iff (i := .aload_n 0) (len := 1) (a := 0) (b := 0) (c := 0) (p := 0) rfl
theorem zg_40_10 : Zgo d 40 10 L st S Q ↔ (Zgo d 40 12 L (zi 97 :: st) S Q) := Zgo_iff (i := .bipush 97) (len := 2) (a := 0) (b := 0) (c := 0) (p := 0) rfl
theorem zg_40_12 : Zgo d 40 12 L st S Q ↔ (Zgo d 40 14 L (zi 104 :: st) S Q) := Zgo_iff (i := .bipush 104) (len := 2) (a := 0) (b := 0) (c := 0) (p := 0) rfl
theorem zg_40_14 : Zgo d 40 14 L st S Q ↔ (zinv 3 st False fun as t => zrec as 8 False (zCp d 22 as S fun r S2 => Zgo d 40 17 L (r.toList ++ t) S2 Q)) := Zgo_iff (i := .invokevirtual 49) (len := 3) (a := 22) (b := 3) (c := 0) (p := 2172) rfl
theorem zg_40_17 : Zgo d 40 17 L st S Q ↔ (zpi st False fun x t => Zgo d 40 19 (zst L 4 (some (zi x))) t S Q) := Zgo_iff (i := .istore 4) (len := 2) (a := 0) (b := 0) (c := 0) (p := 0) rfl
theorem zg_40_19 : Zgo d 40 19 L st S Q ↔ (zldi L 3 False fun x => Zgo d 40 20 L (zi x :: st) S Q) := Zgo_iff (i := .iload_n 3) (len := 1) (a := 0) (b := 0) (c := 0) (p := 0) rfl
theorem zg_40_20 : Zgo d 40 20 L st S Q ↔ (Zgo d 40 21 L (zi (-1) :: st) S Q) := Zgo_iff (i := .iconst (-1)) (len := 1) (a := 0) (b := 0) (c := 0) (p := 0) rfl
theorem zg_40_21 : Zgo d 40 21 L st S Q ↔ (zpi st False fun y t => zpi t False fun x t => if zw x = zw y then Zgo d 40 38 L t S Q else Zgo d 40 24 L t S Q) := Zgo_iff (i := .if_icmp .eq 17) (len := 3) (a := 0) (b := 0) (c := 0) (p := 0) rfl
theorem zg_40_24 : Zgo d 40 24 L st S Q ↔ (zldi L 4 False fun x => Zgo d 40 26 L (zi x :: st) S Q) := Zgo_iff (i := .iload 4) (len := 2) (a := 0) (b := 0) (c := 0) (p := 0) rfl
theorem zg_40_26 : Zgo d 40 26 L st S Q ↔ (Zgo d 40 27 L (zi (-1) :: st) S Q) := Zgo_iff (i := .iconst (-1)) (len := 1) (a := 0) (b := 0) (c := 0) (p := 0) rfl
theorem zg_40_27 : Zgo d 40 27 L st S Q ↔ (zpi st False fun y t => zpi t False fun x t => if zw x = zw y then Zgo d 40 38 L t S Q else Zgo d 40 30 L t S Q) := Zgo_iff (i := .if_icmp .eq 11) (len := 3) (a := 0) (b := 0) (c := 0) (p := 0) rfl
theorem zg_40_30 : Zgo d 40 30 L st S Q ↔ (zlda L 1 False fun r => Zgo d 40 31 L (zq r :: st) S Q) := Zgo_iff (i := .aload_n 1) (len := 1) (a := 0) (b := 0) (c := 0) (p := 0) rfl
theorem zg_40_31 : Zgo d 40 31 L st S Q ↔ (zldi L 3 False fun x => Zgo d 40 32 L (zi x :: st) S Q) := Zgo_iff (i := .iload_n 3) (len := 1) (a := 0) (b := 0) (c := 0) (p := 0) rfl
theorem zg_40_32 : Zgo d 40 32 L st S Q ↔ (zinv 2 st False fun as t => zrec as 4 False (zCp d 41 as S fun r S2 => Zgo d 40 35 L (r.toList ++ t) S2 Q)) := Zgo_iff (i := .invokevirtual 141) (len := 3) (a := 41) (b := 2) (c := 0) (p := 3095) rfl
theorem zg_40_35 : Zgo d 40 35 L st S Q ↔ (zpa st False fun x t => if x = none then Zgo d 40 40 L t S Q else Zgo d 40 38 L t S Q) := Zgo_iff (i := .ifnull 5) (len := 3) (a := 0) (b := 0) (c := 0) (p := 0) rfl
theorem zg_40_38 : Zgo d 40 38 L st S Q ↔ (Zgo d 40 39 L (zi 0 :: st) S Q) := Zgo_iff (i := .iconst 0) (len := 1) (a := 0) (b := 0) (c := 0) (p := 0) rfl
theorem zg_40_39 : Zgo d 40 39 L st S Q ↔ (zpi st False fun x t => zem t False (zok 1 x False (Q (some (zi x)) S))) := Zgo_iff (i := .ireturn) (len := 1) (a := 0) (b := 0) (c := 0) (p := 0) rfl
theorem zg_40_40 : Zgo d 40 40 L st S Q ↔ (zlda L 0 False fun r => Zgo d 40 41 L (zq r :: st) S Q) := Zgo_iff (i := .aload_n 0) (len := 1) (a := 0) (b := 0) (c := 0) (p := 0) rfl
theorem zg_40_41 : Zgo d 40 41 L st S Q ↔ (zpa st False fun r t => zde r 8 False fun o => Zgo d 40 44 L (zq (S.2.1 8 o 1) :: t) S Q) := Zgo_iff (i := .getfield 15) (len := 3) (a := 8) (b := 1) (c := 3) (p := 2043) rfl
theorem zg_40_44 : Zgo d 40 44 L st S Q ↔ (zlda L 1 False fun r => Zgo d 40 45 L (zq r :: st) S Q) := Zgo_iff (i := .aload_n 1) (len := 1) (a := 0) (b := 0) (c := 0) (p := 0) rfl
theorem zg_40_45 : Zgo d 40 45 L st S Q ↔ (zldi L 3 False fun x => Zgo d 40 46 L (zi x :: st) S Q) := Zgo_iff (i := .iload_n 3) (len := 1) (a := 0) (b := 0) (c := 0) (p := 0) rfl
theorem zg_40_46 : Zgo d 40 46 L st S Q ↔ (zldi L 4 False fun x => Zgo d 40 48 L (zi x :: st) S Q) := Zgo_iff (i := .iload 4) (len := 2) (a := 0) (b := 0) (c := 0) (p := 0) rfl
theorem zg_40_48 : Zgo d 40 48 L st S Q ↔ (zinv 4 st False fun as t => zrec as 7 False (zCp d 42 as S fun r S2 => Zgo d 40 51 L (r.toList ++ t) S2 Q)) := Zgo_iff (i := .invokevirtual 145) (len := 3) (a := 42) (b := 4) (c := 0) (p := 3099) rfl
theorem zg_40_51 : Zgo d 40 51 L st S Q ↔ (zpa st False fun x t => Zgo d 40 53 (zst L 5 (some (zq x))) t S Q) := Zgo_iff (i := .astore 5) (len := 2) (a := 0) (b := 0) (c := 0) (p := 0) rfl
theorem zg_40_53 : Zgo d 40 53 L st S Q ↔ (zlda L 5 False fun r => Zgo d 40 55 L (zq r :: st) S Q) := Zgo_iff (i := .aload 5) (len := 2) (a := 0) (b := 0) (c := 0) (p := 0) rfl
theorem zg_40_55 : Zgo d 40 55 L st S Q ↔ (zpa st False fun x t => if x = none then Zgo d 40 58 L t S Q else Zgo d 40 60 L t S Q) := Zgo_iff (i := .ifnonnull 5) (len := 3) (a := 0) (b := 0) (c := 0) (p := 0) rfl
theorem zg_40_58 : Zgo d 40 58 L st S Q ↔ (Zgo d 40 59 L (zi 0 :: st) S Q) := Zgo_iff (i := .iconst 0) (len := 1) (a := 0) (b := 0) (c := 0) (p := 0) rfl
theorem zg_40_59 : Zgo d 40 59 L st S Q ↔ (zpi st False fun x t => zem t False (zok 1 x False (Q (some (zi x)) S))) := Zgo_iff (i := .ireturn) (len := 1) (a := 0) (b := 0) (c := 0) (p := 0) rfl
theorem zg_40_60 : Zgo d 40 60 L st S Q ↔ (zlda L 5 False fun r => Zgo d 40 62 L (zq r :: st) S Q) := Zgo_iff (i := .aload 5) (len := 2) (a := 0) (b := 0) (c := 0) (p := 0) rfl
theorem zg_40_62 : Zgo d 40 62 L st S Q ↔ (zlda L 0 False fun r => Zgo d 40 63 L (zq r :: st) S Q) := Zgo_iff (i := .aload_n 0) (len := 1) (a := 0) (b := 0) (c := 0) (p := 0) rfl
theorem zg_40_63 : Zgo d 40 63 L st S Q ↔ (zlda L 2 False fun r => Zgo d 40 64 L (zq r :: st) S Q) := Zgo_iff (i := .aload_n 2) (len := 1) (a := 0) (b := 0) (c := 0) (p := 0) rfl
theorem zg_40_64 : Zgo d 40 64 L st S Q ↔ (zpa st False fun r t => zde r 3 False fun o => Zgo d 40 67 L (zi (S.1 3 o 0) :: t) S Q) := Zgo_iff (i := .getfield 81) (len := 3) (a := 3) (b := 0) (c := 0) (p := 1181) rfl
theorem zg_40_67 : Zgo d 40 67 L st S Q ↔ (Zgo d 40 68 L (zi 1 :: st) S Q) := Zgo_iff (i := .iconst 1) (len := 1) (a := 0) (b := 0) (c := 0) (p := 0) rfl
theorem zg_40_68 : Zgo d 40 68 L st S Q ↔ (zpi st False fun y t => zpi t False fun x t => Zgo d 40 69 L (zi (x + y) :: t) S Q) := Zgo_iff (i := .iadd) (len := 1) (a := 0) (b := 0) (c := 0) (p := 0) rfl
theorem zg_40_69 : Zgo d 40 69 L st S Q ↔ (zlda L 2 False fun r => Zgo d 40 70 L (zq r :: st) S Q) := Zgo_iff (i := .aload_n 2) (len := 1) (a := 0) (b := 0) (c := 0) (p := 0) rfl
theorem zg_40_70 : Zgo d 40 70 L st S Q ↔ (zpa st False fun r t => zde r 3 False fun o => Zgo d 40 73 L (zi (S.1 3 o 1) :: t) S Q) := Zgo_iff (i := .getfield 86) (len := 3) (a := 3) (b := 1) (c := 1) (p := 1184) rfl
theorem zg_40_73 : Zgo d 40 73 L st S Q ↔ (zldi L 3 False fun x => Zgo d 40 74 L (zi x :: st) S Q) := Zgo_iff (i := .iload_n 3) (len := 1) (a := 0) (b := 0) (c := 0) (p := 0) rfl
theorem zg_40_74 : Zgo d 40 74 L st S Q ↔ (zinv 4 st False fun as t => zrec as 8 False (zCp d 26 as S fun r S2 => Zgo d 40 77 L (r.toList ++ t) S2 Q)) := Zgo_iff (i := .invokevirtual 66) (len := 3) (a := 26) (b := 4) (c := 0) (p := 2188) rfl
theorem zg_40_77 : Zgo d 40 77 L st S Q ↔ (zpa st False fun v t => zpa t False fun r t => zde r 5 False fun o => Zgo d 40 80 L t (S.1, zsR S.2.1 5 o 2 v, S.2.2) Q) := Zgo_iff (i := .putfield 149) (len := 3) (a := 5) (b := 2) (c := 3) (p := 1215) rfl
theorem zg_40_80 : Zgo d 40 80 L st S Q ↔ (zlda L 5 False fun r => Zgo d 40 82 L (zq r :: st) S Q) := Zgo_iff (i := .aload 5) (len := 2) (a := 0) (b := 0) (c := 0) (p := 0) rfl
theorem zg_40_82 : Zgo d 40 82 L st S Q ↔ (zpa st False fun r t => zde r 5 False fun o => Zgo d 40 85 L (zq (S.2.1 5 o 2) :: t) S Q) := Zgo_iff (i := .getfield 149) (len := 3) (a := 5) (b := 2) (c := 3) (p := 1215) rfl
theorem zg_40_85 : Zgo d 40 85 L st S Q ↔ (zpa st False fun x t => if x = none then Zgo d 40 92 L t S Q else Zgo d 40 88 L t S Q) := Zgo_iff (i := .ifnull 7) (len := 3) (a := 0) (b := 0) (c := 0) (p := 0) rfl
theorem zg_40_88 : Zgo d 40 88 L st S Q ↔ (Zgo d 40 89 L (zi 1 :: st) S Q) := Zgo_iff (i := .iconst 1) (len := 1) (a := 0) (b := 0) (c := 0) (p := 0) rfl
theorem zg_40_89 : Zgo d 40 89 L st S Q ↔ (Zgo d 40 93 L st S Q) := Zgo_iff (i := .goto 4) (len := 3) (a := 0) (b := 0) (c := 0) (p := 0) rfl
theorem zg_40_92 : Zgo d 40 92 L st S Q ↔ (Zgo d 40 93 L (zi 0 :: st) S Q) := Zgo_iff (i := .iconst 0) (len := 1) (a := 0) (b := 0) (c := 0) (p := 0) rfl
theorem zg_40_93 : Zgo d 40 93 L st S Q ↔ (zpi st False fun x t => zem t False (zok 1 x False (Q (some (zi x)) S))) := Zgo_iff (i := .ireturn) (len := 1) (a := 0) (b := 0) (c := 0) (p := 0) rfl
/-- LeavingMachine$Statement.catchOf(I)LLeavingMachine$Catch; -/
theorem zg_41_0 : Zgo d 41 0 L st S Q ↔ (zlda L 0 False fun r => Zgo d 41 1 L (zq r :: st) S Q) := Zgo_iff (i := .aload_n 0) (len := 1) (a := 0) (b := 0) (c := 0) (p := 0) rfl
theorem zg_41_1 : Zgo d 41 1 L st S Q ↔ (zpa st False fun r t => zde r 4 False fun o => Zgo d 41 4 L (zq (S.2.1 4 o 9) :: t) S Q) := Zgo_iff (i := .getfield 7) (len := 3) (a := 4) (b := 9) (c := 3) (p := 1147) rfl
theorem zg_41_4 : Zgo d 41 4 L st S Q ↔ (zpa st False fun x t => Zgo d 41 5 (zst L 2 (some (zq x))) t S Q) := Zgo_iff (i := .astore_n 2) (len := 1) (a := 0) (b := 0) (c := 0) (p := 0) rfl
theorem zg_41_5 : Zgo d 41 5 L st S Q ↔ (zlda L 2 False fun r => Zgo d 41 6 L (zq r :: st) S Q) := Zgo_iff (i := .aload_n 2) (len := 1) (a := 0) (b := 0) (c := 0) (p := 0) rfl
theorem zg_41_6 : Zgo d 41 6 L st S Q ↔ (zpa st False fun x t => if x = none then Zgo d 41 27 L t S Q else Zgo d 41 9 L t S Q) := Zgo_iff (i := .ifnull 21) (len := 3) (a := 0) (b := 0) (c := 0) (p := 0) rfl
theorem zg_41_9 : Zgo d 41 9 L st S Q ↔ (zlda L 2 False fun r => Zgo d 41 10 L (zq r :: st) S Q) := Zgo_iff (i := .aload_n 2) (len := 1) (a := 0) (b := 0) (c := 0) (p := 0) rfl
theorem zg_41_10 : Zgo d 41 10 L st S Q ↔ (zpa st False fun r t => zde r 5 False fun o => Zgo d 41 13 L (zi (S.1 5 o 0) :: t) S Q) := Zgo_iff (i := .getfield 13) (len := 3) (a := 5) (b := 0) (c := 0) (p := 1209) rfl
theorem zg_41_13 : Zgo d 41 13 L st S Q ↔ (zldi L 1 False fun x => Zgo d 41 14 L (zi x :: st) S Q) := Zgo_iff (i := .iload_n 1) (len := 1) (a := 0) (b := 0) (c := 0) (p := 0) rfl
theorem zg_41_14 : Zgo d 41 14 L st S Q ↔ (zpi st False fun y t => zpi t False fun x t => if zw x = zw y then Zgo d 41 17 L t S Q else Zgo d 41 19 L t S Q) := Zgo_iff (i := .if_icmp .ne 5) (len := 3) (a := 0) (b := 0) (c := 0) (p := 0) rfl
theorem zg_41_17 : Zgo d 41 17 L st S Q ↔ (zlda L 2 False fun r => Zgo d 41 18 L (zq r :: st) S Q) := Zgo_iff (i := .aload_n 2) (len := 1) (a := 0) (b := 0) (c := 0) (p := 0) rfl
theorem zg_41_18 : Zgo d 41 18 L st S Q ↔ (zpa st False fun x t => zem t False (Q (some (zq x)) S)) := Zgo_iff (i := .areturn) (len := 1) (a := 0) (b := 0) (c := 0) (p := 0) rfl
theorem zg_41_19 : Zgo d 41 19 L st S Q ↔ (zlda L 2 False fun r => Zgo d 41 20 L (zq r :: st) S Q) := Zgo_iff (i := .aload_n 2) (len := 1) (a := 0) (b := 0) (c := 0) (p := 0) rfl
theorem zg_41_20 : Zgo d 41 20 L st S Q ↔ (zpa st False fun r t => zde r 5 False fun o => Zgo d 41 23 L (zq (S.2.1 5 o 3) :: t) S Q) := Zgo_iff (i := .getfield 19) (len := 3) (a := 5) (b := 3) (c := 3) (p := 1217) rfl
theorem zg_41_23 : Zgo d 41 23 L st S Q ↔ (zpa st False fun x t => Zgo d 41 24 (zst L 2 (some (zq x))) t S Q) := Zgo_iff (i := .astore_n 2) (len := 1) (a := 0) (b := 0) (c := 0) (p := 0) rfl
theorem zg_41_24 : Zgo d 41 24 L st S Q ↔ (Zgo d 41 5 L st S Q) := Zgo_iff (i := .goto (-19)) (len := 3) (a := 0) (b := 0) (c := 0) (p := 0) rfl
theorem zg_41_27 : Zgo d 41 27 L st S Q ↔ (Zgo d 41 28 L (zq none :: st) S Q) := Zgo_iff (i := .aconst_null) (len := 1) (a := 0) (b := 0) (c := 0) (p := 0) rfl
theorem zg_41_28 : Zgo d 41 28 L st S Q ↔ (zpa st False fun x t => zem t False (Q (some (zq x)) S)) := Zgo_iff (i := .areturn) (len := 1) (a := 0) (b := 0) (c := 0) (p := 0) rfl
/-- LeavingMachine$Program.addCatch(LLeavingMachine$Statement;II)LLeavingMachine$Catch; -/
theorem zg_42_0 : Zgo d 42 0 L st S Q ↔ (zlda L 0 False fun r => Zgo d 42 1 L (zq r :: st) S Q) := Zgo_iff (i := .aload_n 0) (len := 1) (a := 0) (b := 0) (c := 0) (p := 0) rfl
theorem zg_42_1 : Zgo d 42 1 L st S Q ↔ (zpa st False fun r t => zde r 7 False fun o => Zgo d 42 4 L (zi (S.1 7 o 10) :: t) S Q) := Zgo_iff (i := .getfield 64) (len := 3) (a := 7) (b := 10) (c := 0) (p := 2012) rfl
theorem zg_42_4 : Zgo d 42 4 L st S Q ↔ (Zgo d 42 6 L (zi 32 :: st) S Q) := Zgo_iff (i := .bipush 32) (len := 2) (a := 0) (b := 0) (c := 0) (p := 0) rfl
theorem zg_42_6 : Zgo d 42 6 L st S Q ↔ (zpi st False fun y t => zpi t False fun x t => if zw x = zw y then Zgo d 42 9 L t S Q else Zgo d 42 11 L t S Q) := Zgo_iff (i := .if_icmp .ne 5) (len := 3) (a := 0) (b := 0) (c := 0) (p := 0) rfl
theorem zg_42_9 : Zgo d 42 9 L st S Q ↔ (Zgo d 42 10 L (zq none :: st) S Q) := Zgo_iff (i := .aconst_null) (len := 1) (a := 0) (b := 0) (c := 0) (p := 0) rfl
theorem zg_42_10 : Zgo d 42 10 L st S Q ↔ (zpa st False fun x t => zem t False (Q (some (zq x)) S)) := Zgo_iff (i := .areturn) (len := 1) (a := 0) (b := 0) (c := 0) (p := 0) rfl
theorem zg_42_11 : Zgo d 42 11 L st S Q ↔ (zlda L 0 False fun r => Zgo d 42 12 L (zq r :: st) S Q) := Zgo_iff (i := .aload_n 0) (len := 1) (a := 0) (b := 0) (c := 0) (p := 0) rfl
theorem zg_42_12 : Zgo d 42 12 L st S Q ↔ (zpa st False fun r t => zde r 7 False fun o => Zgo d 42 15 L (zq (S.2.1 7 o 8) :: t) S Q) := Zgo_iff (i := .getfield 43) (len := 3) (a := 7) (b := 8) (c := 3) (p := 2010) rfl
theorem zg_42_15 : Zgo d 42 15 L st S Q ↔ (zlda L 0 False fun r => Zgo d 42 16 L (zq r :: st) S Q) := Zgo_iff (i := .aload_n 0) (len := 1) (a := 0) (b := 0) (c := 0) (p := 0) rfl
theorem zg_42_16 : Zgo d 42 16 L st S Q ↔ (zp1 st False fun v t => Zgo d 42 17 L (v :: v :: t) S Q) := Zgo_iff (i := .dup) (len := 1) (a := 0) (b := 0) (c := 0) (p := 0) rfl
theorem zg_42_17 : Zgo d 42 17 L st S Q ↔ (zpa st False fun r t => zde r 7 False fun o => Zgo d 42 20 L (zi (S.1 7 o 10) :: t) S Q) := Zgo_iff (i := .getfield 64) (len := 3) (a := 7) (b := 10) (c := 0) (p := 2012) rfl
theorem zg_42_20 : Zgo d 42 20 L st S Q ↔ (zp1 st False fun v t => zp1 t False fun u t => Zgo d 42 21 L (v :: u :: v :: t) S Q) := Zgo_iff (i := .dup_x1) (len := 1) (a := 0) (b := 0) (c := 0) (p := 0) rfl
theorem zg_42_21 : Zgo d 42 21 L st S Q ↔ (Zgo d 42 22 L (zi 1 :: st) S Q) := Zgo_iff (i := .iconst 1) (len := 1) (a := 0) (b := 0) (c := 0) (p := 0) rfl
theorem zg_42_22 : Zgo d 42 22 L st S Q ↔ (zpi st False fun y t => zpi t False fun x t => Zgo d 42 23 L (zi (x + y) :: t) S Q) := Zgo_iff (i := .iadd) (len := 1) (a := 0) (b := 0) (c := 0) (p := 0) rfl
theorem zg_42_23 : Zgo d 42 23 L st S Q ↔ (zpi st False fun v t => zpa t False fun r t => zde r 7 False fun o => Zgo d 42 26 L t (zsI S.1 7 o 10 v, S.2) Q) := Zgo_iff (i := .putfield 64) (len := 3) (a := 7) (b := 10) (c := 0) (p := 2012) rfl
theorem zg_42_26 : Zgo d 42 26 L st S Q ↔ (zpi st False fun j t => zpa t False fun r t => znn r False fun q o => zop (zlen S q) False fun n => if n.1 = 3 then zix j n.2 False fun x => Zgo d 42 27 L (zq (S.2.1 q o x) :: t) S Q else False) := Zgo_iff (i := .aaload) (len := 1) (a := 0) (b := 0) (c := 0) (p := 0) rfl
theorem zg_42_27 : Zgo d 42 27 L st S Q ↔ (zpa st False fun x t => Zgo d 42 29 (zst L 4 (some (zq x))) t S Q) := Zgo_iff (i := .astore 4) (len := 2) (a := 0) (b := 0) (c := 0) (p := 0) rfl
theorem zg_42_29 : Zgo d 42 29 L st S Q ↔ (zlda L 4 False fun r => Zgo d 42 31 L (zq r :: st) S Q) := Zgo_iff (i := .aload 4) (len := 2) (a := 0) (b := 0) (c := 0) (p := 0) rfl
theorem zg_42_31 : Zgo d 42 31 L st S Q ↔ (zldi L 2 False fun x => Zgo d 42 32 L (zi x :: st) S Q) := Zgo_iff (i := .iload_n 2) (len := 1) (a := 0) (b := 0) (c := 0) (p := 0) rfl
theorem zg_42_32 : Zgo d 42 32 L st S Q ↔ (zpi st False fun v t => zpa t False fun r t => zde r 5 False fun o => Zgo d 42 35 L t (zsI S.1 5 o 0 v, S.2) Q) := Zgo_iff (i := .putfield 112) (len := 3) (a := 5) (b := 0) (c := 0) (p := 1210) rfl
theorem zg_42_35 : Zgo d 42 35 L st S Q ↔ (zlda L 4 False fun r => Zgo d 42 37 L (zq r :: st) S Q) := Zgo_iff (i := .aload 4) (len := 2) (a := 0) (b := 0) (c := 0) (p := 0) rfl
theorem zg_42_37 : Zgo d 42 37 L st S Q ↔ (zldi L 3 False fun x => Zgo d 42 38 L (zi x :: st) S Q) := Zgo_iff (i := .iload_n 3) (len := 1) (a := 0) (b := 0) (c := 0) (p := 0) rfl
theorem zg_42_38 : Zgo d 42 38 L st S Q ↔ (zpi st False fun v t => zpa t False fun r t => zde r 5 False fun o => Zgo d 42 41 L t (zsI S.1 5 o 1 v, S.2) Q) := Zgo_iff (i := .putfield 115) (len := 3) (a := 5) (b := 1) (c := 0) (p := 1212) rfl
theorem zg_42_41 : Zgo d 42 41 L st S Q ↔ (zlda L 4 False fun r => Zgo d 42 43 L (zq r :: st) S Q) := Zgo_iff (i := .aload 4) (len := 2) (a := 0) (b := 0) (c := 0) (p := 0) rfl
theorem zg_42_43 : Zgo d 42 43 L st S Q ↔ (zlda L 1 False fun r => Zgo d 42 44 L (zq r :: st) S Q) := Zgo_iff (i := .aload_n 1) (len := 1) (a := 0) (b := 0) (c := 0) (p := 0) rfl
theorem zg_42_44 : Zgo d 42 44 L st S Q ↔ (zpa st False fun r t => zde r 4 False fun o => Zgo d 42 47 L (zq (S.2.1 4 o 9) :: t) S Q) := Zgo_iff (i := .getfield 109) (len := 3) (a := 4) (b := 9) (c := 3) (p := 1148) rfl
theorem zg_42_47 : Zgo d 42 47 L st S Q ↔ (zpa st False fun v t => zpa t False fun r t => zde r 5 False fun o => Zgo d 42 50 L t (S.1, zsR S.2.1 5 o 3 v, S.2.2) Q) := Zgo_iff (i := .putfield 118) (len := 3) (a := 5) (b := 3) (c := 3) (p := 1218) rfl
theorem zg_42_50 : Zgo d 42 50 L st S Q ↔ (zlda L 1 False fun r => Zgo d 42 51 L (zq r :: st) S Q) := Zgo_iff (i := .aload_n 1) (len := 1) (a := 0) (b := 0) (c := 0) (p := 0) rfl
theorem zg_42_51 : Zgo d 42 51 L st S Q ↔ (zlda L 4 False fun r => Zgo d 42 53 L (zq r :: st) S Q) := Zgo_iff (i := .aload 4) (len := 2) (a := 0) (b := 0) (c := 0) (p := 0) rfl
theorem zg_42_53 : Zgo d 42 53 L st S Q ↔ (zpa st False fun v t => zpa t False fun r t => zde r 4 False fun o => Zgo d 42 56 L t (S.1, zsR S.2.1 4 o 9 v, S.2.2) Q) := Zgo_iff (i := .putfield 109) (len := 3) (a := 4) (b := 9) (c := 3) (p := 1148) rfl
theorem zg_42_56 : Zgo d 42 56 L st S Q ↔ (zlda L 4 False fun r => Zgo d 42 58 L (zq r :: st) S Q) := Zgo_iff (i := .aload 4) (len := 2) (a := 0) (b := 0) (c := 0) (p := 0) rfl
theorem zg_42_58 : Zgo d 42 58 L st S Q ↔ (zpa st False fun x t => zem t False (Q (some (zq x)) S)) := Zgo_iff (i := .areturn) (len := 1) (a := 0) (b := 0) (c := 0) (p := 0) rfl
/-- LeavingMachine$Checker.findFault()I -/
theorem zg_43_0 : Zgo d 43 0 L st S Q ↔ (zlda L 0 False fun r => Zgo d 43 1 L (zq r :: st) S Q) := Zgo_iff (i := .aload_n 0) (len := 1) (a := 0) (b := 0) (c := 0) (p := 0) rfl
theorem zg_43_1 : Zgo d 43 1 L st S Q ↔ (zinv 1 st False fun as t => zrec as 9 False (zCp d 44 as S fun r S2 => Zgo d 43 4 L (r.toList ++ t) S2 Q)) := Zgo_iff (i := .invokevirtual 15) (len := 3) (a := 44) (b := 1) (c := 0) (p := 3107) rfl
theorem zg_43_4 : Zgo d 43 4 L st S Q ↔ (Zgo d 43 5 L (zi 0 :: st) S Q) := Zgo_iff (i := .iconst 0) (len := 1) (a := 0) (b := 0) (c := 0) (p := 0) rfl
theorem zg_43_5 : Zgo d 43 5 L st S Q ↔ (zpi st False fun x t => Zgo d 43 6 (zst L 1 (some (zi x))) t S Q) := Zgo_iff (i := .istore_n 1) (len := 1) (a := 0) (b := 0) (c := 0) (p := 0) rfl
theorem zg_43_6 : Zgo d 43 6 L st S Q ↔ (zldi L 1 False fun x => Zgo d 43 7 L (zi x :: st) S Q) := Zgo_iff (i := .iload_n 1) (len := 1) (a := 0) (b := 0) (c := 0) (p := 0) rfl
theorem zg_43_7 : Zgo d 43 7 L st S Q ↔ (zlda L 0 False fun r => Zgo d 43 8 L (zq r :: st) S Q) := Zgo_iff (i := .aload_n 0) (len := 1) (a := 0) (b := 0) (c := 0) (p := 0) rfl
theorem zg_43_8 : Zgo d 43 8 L st S Q ↔ (zpa st False fun r t => zde r 9 False fun o => Zgo d 43 11 L (zq (S.2.1 9 o 0) :: t) S Q) := Zgo_iff (i := .getfield 9) (len := 3) (a := 9) (b := 0) (c := 3) (p := 2058) rfl
theorem zg_43_11 : Zgo d 43 11 L st S Q ↔ (zpa st False fun r t => zde r 7 False fun o => Zgo d 43 14 L (zi (S.1 7 o 5) :: t) S Q) := Zgo_iff (i := .getfield 18) (len := 3) (a := 7) (b := 5) (c := 0) (p := 2004) rfl
theorem zg_43_14 : Zgo d 43 14 L st S Q ↔ (zpi st False fun y t => zpi t False fun x t => if zw x < zw y then Zgo d 43 17 L t S Q else Zgo d 43 42 L t S Q) := Zgo_iff (i := .if_icmp .ge 28) (len := 3) (a := 0) (b := 0) (c := 0) (p := 0) rfl
theorem zg_43_17 : Zgo d 43 17 L st S Q ↔ (zlda L 0 False fun r => Zgo d 43 18 L (zq r :: st) S Q) := Zgo_iff (i := .aload_n 0) (len := 1) (a := 0) (b := 0) (c := 0) (p := 0) rfl
theorem zg_43_18 : Zgo d 43 18 L st S Q ↔ (zpa st False fun r t => zde r 9 False fun o => Zgo d 43 21 L (zq (S.2.1 9 o 0) :: t) S Q) := Zgo_iff (i := .getfield 9) (len := 3) (a := 9) (b := 0) (c := 3) (p := 2058) rfl
theorem zg_43_21 : Zgo d 43 21 L st S Q ↔ (zpa st False fun r t => zde r 7 False fun o => Zgo d 43 24 L (zq (S.2.1 7 o 2) :: t) S Q) := Zgo_iff (i := .getfield 24) (len := 3) (a := 7) (b := 2) (c := 3) (p := 1237) rfl
theorem zg_43_24 : Zgo d 43 24 L st S Q ↔ (zldi L 1 False fun x => Zgo d 43 25 L (zi x :: st) S Q) := Zgo_iff (i := .iload_n 1) (len := 1) (a := 0) (b := 0) (c := 0) (p := 0) rfl
theorem zg_43_25 : Zgo d 43 25 L st S Q ↔ (zpi st False fun j t => zpa t False fun r t => znn r False fun q o => zop (zlen S q) False fun n => if n.1 = 3 then zix j n.2 False fun x => Zgo d 43 26 L (zq (S.2.1 q o x) :: t) S Q else False) := Zgo_iff (i := .aaload) (len := 1) (a := 0) (b := 0) (c := 0) (p := 0) rfl
theorem zg_43_26 : Zgo d 43 26 L st S Q ↔ (zinv 1 st False fun as t => zCp d 46 as S fun r S2 => Zgo d 43 29 L (r.toList ++ t) S2 Q) := Zgo_iff (i := .invokestatic 28) (len := 3) (a := 46) (b := 1) (c := 1) (p := 3115) rfl
theorem zg_43_29 : Zgo d 43 29 L st S Q ↔ (zpi st False fun x t => Zgo d 43 30 (zst L 2 (some (zi x))) t S Q) := Zgo_iff (i := .istore_n 2) (len := 1) (a := 0) (b := 0) (c := 0) (p := 0) rfl
theorem zg_43_30 : Zgo d 43 30 L st S Q ↔ (zldi L 2 False fun x => Zgo d 43 31 L (zi x :: st) S Q) := Zgo_iff (i := .iload_n 2) (len := 1) (a := 0) (b := 0) (c := 0) (p := 0) rfl
theorem zg_43_31 : Zgo d 43 31 L st S Q ↔ (zpi st False fun x t => if zw x = zw 0 then Zgo d 43 36 L t S Q else Zgo d 43 34 L t S Q) := Zgo_iff (i := .ifCond .eq 5) (len := 3) (a := 0) (b := 0) (c := 0) (p := 0) rfl
theorem zg_43_34 : Zgo d 43 34 L st S Q ↔ (zldi L 2 False fun x => Zgo d 43 35 L (zi x :: st) S Q) := Zgo_iff (i := .iload_n 2) (len := 1) (a := 0) (b := 0) (c := 0) (p := 0) rfl
theorem zg_43_35 : Zgo d 43 35 L st S Q ↔ (zpi st False fun x t => zem t False (Q (some (zi x)) S)) := Zgo_iff (i := .ireturn) (len := 1) (a := 0) (b := 0) (c := 0) (p := 0) rfl
theorem zg_43_36 : Zgo d 43 36 L st S Q ↔ (zldi L 1 False fun x => Zgo d 43 39 (zst L 1 (some (zi (x + 1)))) st S Q) := Zgo_iff (i := .iinc 1 1) (len := 3) (a := 0) (b := 0) (c := 0) (p := 0) rfl
theorem zg_43_39 : Zgo d 43 39 L st S Q ↔ (Zgo d 43 6 L st S Q) := Zgo_iff (i := .goto (-33)) (len := 3) (a := 0) (b := 0) (c := 0) (p := 0) rfl
theorem zg_43_42 : Zgo d 43 42 L st S Q ↔ (zlda L 0 False fun r => Zgo d 43 43 L (zq r :: st) S Q) := Zgo_iff (i := .aload_n 0) (len := 1) (a := 0) (b := 0) (c := 0) (p := 0) rfl
theorem zg_43_43 : Zgo d 43 43 L st S Q ↔ (zinv 1 st False fun as t => zrec as 9 False (zCp d 49 as S fun r S2 => Zgo d 43 46 L (r.toList ++ t) S2 Q)) := Zgo_iff (i := .invokevirtual 32) (len := 3) (a := 49) (b := 1) (c := 0) (p := 3124) rfl
theorem zg_43_46 : Zgo d 43 46 L st S Q ↔ (zpi st False fun x t => if zw x = zw 0 then Zgo d 43 51 L t S Q else Zgo d 43 49 L t S Q) := Zgo_iff (i := .ifCond .eq 5) (len := 3) (a := 0) (b := 0) (c := 0) (p := 0) rfl
theorem zg_43_49 : Zgo d 43 49 L st S Q ↔ (Zgo d 43 50 L (zi 3 :: st) S Q) := Zgo_iff (i := .iconst 3) (len := 1) (a := 0) (b := 0) (c := 0) (p := 0) rfl
theorem zg_43_50 : Zgo d 43 50 L st S Q ↔ (zpi st False fun x t => zem t False (Q (some (zi x)) S)) := Zgo_iff (i := .ireturn) (len := 1) (a := 0) (b := 0) (c := 0) (p := 0) rfl
theorem zg_43_51 : Zgo d 43 51 L st S Q ↔ (zlda L 0 False fun r => Zgo d 43 52 L (zq r :: st) S Q) := Zgo_iff (i := .aload_n 0) (len := 1) (a := 0) (b := 0) (c := 0) (p := 0) rfl
theorem zg_43_52 : Zgo d 43 52 L st S Q ↔ (zinv 1 st False fun as t => zrec as 9 False (zCp d 50 as S fun r S2 => Zgo d 43 55 L (r.toList ++ t) S2 Q)) := Zgo_iff (i := .invokevirtual 36) (len := 3) (a := 50) (b := 1) (c := 0) (p := 3128) rfl
theorem zg_43_55 : Zgo d 43 55 L st S Q ↔ (zpi st False fun x t => if zw x = zw 0 then Zgo d 43 62 L t S Q else Zgo d 43 58 L t S Q) := Zgo_iff (i := .ifCond .eq 7) (len := 3) (a := 0) (b := 0) (c := 0) (p := 0) rfl
theorem zg_43_58 : Zgo d 43 58 L st S Q ↔ (Zgo d 43 59 L (zi 0 :: st) S Q) := Zgo_iff (i := .iconst 0) (len := 1) (a := 0) (b := 0) (c := 0) (p := 0) rfl
theorem zg_43_59 : Zgo d 43 59 L st S Q ↔ (Zgo d 43 63 L st S Q) := Zgo_iff (i := .goto 4) (len := 3) (a := 0) (b := 0) (c := 0) (p := 0) rfl
theorem zg_43_62 : Zgo d 43 62 L st S Q ↔ (Zgo d 43 63 L (zi 5 :: st) S Q) := Zgo_iff (i := .iconst 5) (len := 1) (a := 0) (b := 0) (c := 0) (p := 0) rfl
theorem zg_43_63 : Zgo d 43 63 L st S Q ↔ (zpi st False fun x t => zem t False (Q (some (zi x)) S)) := Zgo_iff (i := .ireturn) (len := 1) (a := 0) (b := 0) (c := 0) (p := 0) rfl
/-- LeavingMachine$Checker.linkCalls()V -/
theorem zg_44_0 : Zgo d 44 0 L st S Q ↔ (Zgo d 44 1 L (zi 0 :: st) S Q) := Zgo_iff (i := .iconst 0) (len := 1) (a := 0) (b := 0) (c := 0) (p := 0) rfl
theorem zg_44_1 : Zgo d 44 1 L st S Q ↔ (zpi st False fun x t => Zgo d 44 2 (zst L 1 (some (zi x))) t S Q) := Zgo_iff (i := .istore_n 1) (len := 1) (a := 0) (b := 0) (c := 0) (p := 0) rfl
theorem zg_44_2 : Zgo d 44 2 L st S Q ↔ (zldi L 1 False fun x => Zgo d 44 3 L (zi x :: st) S Q) := Zgo_iff (i := .iload_n 1) (len := 1) (a := 0) (b := 0) (c := 0) (p := 0) rfl
theorem zg_44_3 : Zgo d 44 3 L st S Q ↔ (zlda L 0 False fun r => Zgo d 44 4 L (zq r :: st) S Q) := Zgo_iff (i := .aload_n 0) (len := 1) (a := 0) (b := 0) (c := 0) (p := 0) rfl
theorem zg_44_4 : Zgo d 44 4 L st S Q ↔ (zpa st False fun r t => zde r 9 False fun o => Zgo d 44 7 L (zq (S.2.1 9 o 0) :: t) S Q) := Zgo_iff (i := .getfield 9) (len := 3) (a := 9) (b := 0) (c := 3) (p := 2058) rfl
theorem zg_44_7 : Zgo d 44 7 L st S Q ↔ (zpa st False fun r t => zde r 7 False fun o => Zgo d 44 10 L (zi (S.1 7 o 5) :: t) S Q) := Zgo_iff (i := .getfield 18) (len := 3) (a := 7) (b := 5) (c := 0) (p := 2004) rfl
theorem zg_44_10 : Zgo d 44 10 L st S Q ↔ (zpi st False fun y t => zpi t False fun x t => if zw x < zw y then Zgo d 44 13 L t S Q else Zgo d 44 82 L t S Q) := Zgo_iff (i := .if_icmp .ge 72) (len := 3) (a := 0) (b := 0) (c := 0) (p := 0) rfl
theorem zg_44_13 : Zgo d 44 13 L st S Q ↔ (zlda L 0 False fun r => Zgo d 44 14 L (zq r :: st) S Q) := Zgo_iff (i := .aload_n 0) (len := 1) (a := 0) (b := 0) (c := 0) (p := 0) rfl
theorem zg_44_14 : Zgo d 44 14 L st S Q ↔ (zpa st False fun r t => zde r 9 False fun o => Zgo d 44 17 L (zq (S.2.1 9 o 0) :: t) S Q) := Zgo_iff (i := .getfield 9) (len := 3) (a := 9) (b := 0) (c := 3) (p := 2058) rfl
theorem zg_44_17 : Zgo d 44 17 L st S Q ↔ (zpa st False fun r t => zde r 7 False fun o => Zgo d 44 20 L (zq (S.2.1 7 o 2) :: t) S Q) := Zgo_iff (i := .getfield 24) (len := 3) (a := 7) (b := 2) (c := 3) (p := 1237) rfl
theorem zg_44_20 : Zgo d 44 20 L st S Q ↔ (zldi L 1 False fun x => Zgo d 44 21 L (zi x :: st) S Q) := Zgo_iff (i := .iload_n 1) (len := 1) (a := 0) (b := 0) (c := 0) (p := 0) rfl
theorem zg_44_21 : Zgo d 44 21 L st S Q ↔ (zpi st False fun j t => zpa t False fun r t => znn r False fun q o => zop (zlen S q) False fun n => if n.1 = 3 then zix j n.2 False fun x => Zgo d 44 22 L (zq (S.2.1 q o x) :: t) S Q else False) := Zgo_iff (i := .aaload) (len := 1) (a := 0) (b := 0) (c := 0) (p := 0) rfl
theorem zg_44_22 : Zgo d 44 22 L st S Q ↔ (zpa st False fun x t => Zgo d 44 23 (zst L 2 (some (zq x))) t S Q) := Zgo_iff (i := .astore_n 2) (len := 1) (a := 0) (b := 0) (c := 0) (p := 0) rfl
theorem zg_44_23 : Zgo d 44 23 L st S Q ↔ (zlda L 2 False fun r => Zgo d 44 24 L (zq r :: st) S Q) := Zgo_iff (i := .aload_n 2) (len := 1) (a := 0) (b := 0) (c := 0) (p := 0) rfl
theorem zg_44_24 : Zgo d 44 24 L st S Q ↔ (zpa st False fun r t => zde r 4 False fun o => Zgo d 44 27 L (zi (S.1 4 o 0) :: t) S Q) := Zgo_iff (i := .getfield 39) (len := 3) (a := 4) (b := 0) (c := 2) (p := 1120) rfl
theorem zg_44_27 : Zgo d 44 27 L st S Q ↔ (Zgo d 44 29 L (zi 80 :: st) S Q) := Zgo_iff (i := .bipush 80) (len := 2) (a := 0) (b := 0) (c := 0) (p := 0) rfl
theorem zg_44_29 : Zgo d 44 29 L st S Q ↔ (zpi st False fun y t => zpi t False fun x t => if zw x = zw y then Zgo d 44 32 L t S Q else Zgo d 44 76 L t S Q) := Zgo_iff (i := .if_icmp .ne 47) (len := 3) (a := 0) (b := 0) (c := 0) (p := 0) rfl
theorem zg_44_32 : Zgo d 44 32 L st S Q ↔ (zlda L 0 False fun r => Zgo d 44 33 L (zq r :: st) S Q) := Zgo_iff (i := .aload_n 0) (len := 1) (a := 0) (b := 0) (c := 0) (p := 0) rfl
theorem zg_44_33 : Zgo d 44 33 L st S Q ↔ (zpa st False fun r t => zde r 9 False fun o => Zgo d 44 36 L (zq (S.2.1 9 o 0) :: t) S Q) := Zgo_iff (i := .getfield 9) (len := 3) (a := 9) (b := 0) (c := 3) (p := 2058) rfl
theorem zg_44_36 : Zgo d 44 36 L st S Q ↔ (zlda L 2 False fun r => Zgo d 44 37 L (zq r :: st) S Q) := Zgo_iff (i := .aload_n 2) (len := 1) (a := 0) (b := 0) (c := 0) (p := 0) rfl
theorem zg_44_37 : Zgo d 44 37 L st S Q ↔ (zpa st False fun r t => zde r 4 False fun o => Zgo d 44 40 L (zi (S.1 4 o 1) :: t) S Q) := Zgo_iff (i := .getfield 45) (len := 3) (a := 4) (b := 1) (c := 0) (p := 1124) rfl
theorem zg_44_40 : Zgo d 44 40 L st S Q ↔ (zinv 2 st False fun as t => zrec as 7 False (zCp d 45 as S fun r S2 => Zgo d 44 43 L (r.toList ++ t) S2 Q)) := Zgo_iff (i := .invokevirtual 48) (len := 3) (a := 45) (b := 2) (c := 0) (p := 3111) rfl
theorem zg_44_43 : Zgo d 44 43 L st S Q ↔ (zpa st False fun x t => Zgo d 44 44 (zst L 3 (some (zq x))) t S Q) := Zgo_iff (i := .astore_n 3) (len := 1) (a := 0) (b := 0) (c := 0) (p := 0) rfl
theorem zg_44_44 : Zgo d 44 44 L st S Q ↔ (zlda L 2 False fun r => Zgo d 44 45 L (zq r :: st) S Q) := Zgo_iff (i := .aload_n 2) (len := 1) (a := 0) (b := 0) (c := 0) (p := 0) rfl
theorem zg_44_45 : Zgo d 44 45 L st S Q ↔ (zlda L 3 False fun r => Zgo d 44 46 L (zq r :: st) S Q) := Zgo_iff (i := .aload_n 3) (len := 1) (a := 0) (b := 0) (c := 0) (p := 0) rfl
theorem zg_44_46 : Zgo d 44 46 L st S Q ↔ (zpa st False fun x t => if x = none then Zgo d 44 49 L t S Q else Zgo d 44 53 L t S Q) := Zgo_iff (i := .ifnonnull 7) (len := 3) (a := 0) (b := 0) (c := 0) (p := 0) rfl
theorem zg_44_49 : Zgo d 44 49 L st S Q ↔ (Zgo d 44 50 L (zq none :: st) S Q) := Zgo_iff (i := .aconst_null) (len := 1) (a := 0) (b := 0) (c := 0) (p := 0) rfl
theorem zg_44_50 : Zgo d 44 50 L st S Q ↔ (Zgo d 44 57 L st S Q) := Zgo_iff (i := .goto 7) (len := 3) (a := 0) (b := 0) (c := 0) (p := 0) rfl
theorem zg_44_53 : Zgo d 44 53 L st S Q ↔ (zlda L 3 False fun r => Zgo d 44 54 L (zq r :: st) S Q) := Zgo_iff (i := .aload_n 3) (len := 1) (a := 0) (b := 0) (c := 0) (p := 0) rfl
theorem zg_44_54 : Zgo d 44 54 L st S Q ↔ (zpa st False fun r t => zde r 2 False fun o => Zgo d 44 57 L (zq (S.2.1 2 o 3) :: t) S Q) := Zgo_iff (i := .getfield 52) (len := 3) (a := 2) (b := 3) (c := 3) (p := 1072) rfl
theorem zg_44_57 : Zgo d 44 57 L st S Q ↔ (zpa st False fun v t => zpa t False fun r t => zde r 4 False fun o => Zgo d 44 60 L t (S.1, zsR S.2.1 4 o 7 v, S.2.2) Q) := Zgo_iff (i := .putfield 58) (len := 3) (a := 4) (b := 7) (c := 3) (p := 1139) rfl
theorem zg_44_60 : Zgo d 44 60 L st S Q ↔ (zlda L 2 False fun r => Zgo d 44 61 L (zq r :: st) S Q) := Zgo_iff (i := .aload_n 2) (len := 1) (a := 0) (b := 0) (c := 0) (p := 0) rfl
theorem zg_44_61 : Zgo d 44 61 L st S Q ↔ (zlda L 3 False fun r => Zgo d 44 62 L (zq r :: st) S Q) := Zgo_iff (i := .aload_n 3) (len := 1) (a := 0) (b := 0) (c := 0) (p := 0) rfl
theorem zg_44_62 : Zgo d 44 62 L st S Q ↔ (zpa st False fun x t => if x = none then Zgo d 44 65 L t S Q else Zgo d 44 69 L t S Q) := Zgo_iff (i := .ifnonnull 7) (len := 3) (a := 0) (b := 0) (c := 0) (p := 0) rfl
theorem zg_44_65 : Zgo d 44 65 L st S Q ↔ (Zgo d 44 66 L (zi 0 :: st) S Q) := Zgo_iff (i := .iconst 0) (len := 1) (a := 0) (b := 0) (c := 0) (p := 0) rfl
theorem zg_44_66 : Zgo d 44 66 L st S Q ↔ (Zgo d 44 73 L st S Q) := Zgo_iff (i := .goto 7) (len := 3) (a := 0) (b := 0) (c := 0) (p := 0) rfl
theorem zg_44_69 : Zgo d 44 69 L st S Q ↔ (zlda L 3 False fun r => Zgo d 44 70 L (zq r :: st) S Q) := Zgo_iff (i := .aload_n 3) (len := 1) (a := 0) (b := 0) (c := 0) (p := 0) rfl
theorem zg_44_70 : Zgo d 44 70 L st S Q ↔ (zpa st False fun r t => zde r 2 False fun o => Zgo d 44 73 L (zi (S.1 2 o 1) :: t) S Q) := Zgo_iff (i := .getfield 61) (len := 3) (a := 2) (b := 1) (c := 0) (p := 1068) rfl
theorem zg_44_73 : Zgo d 44 73 L st S Q ↔ (zpi st False fun v t => zpa t False fun r t => zde r 4 False fun o => Zgo d 44 76 L t (zsI S.1 4 o 10 v, S.2) Q) := Zgo_iff (i := .putfield 64) (len := 3) (a := 4) (b := 10) (c := 0) (p := 1151) rfl
theorem zg_44_76 : Zgo d 44 76 L st S Q ↔ (zldi L 1 False fun x => Zgo d 44 79 (zst L 1 (some (zi (x + 1)))) st S Q) := Zgo_iff (i := .iinc 1 1) (len := 3) (a := 0) (b := 0) (c := 0) (p := 0) rfl
theorem zg_44_79 : Zgo d 44 79 L st S Q ↔ (Zgo d 44 2 L st S Q) := Zgo_iff (i := .goto (-77)) (len := 3) (a := 0) (b := 0) (c := 0) (p := 0) rfl
theorem zg_44_82 : Zgo d 44 82 L st S Q ↔ (zem st False (Q none S)) := Zgo_iff (i := .return_) (len := 1) (a := 0) (b := 0) (c := 0) (p := 0) rfl
/-- LeavingMachine$Program.procedureNamed(I)LLeavingMachine$Procedure; -/
theorem zg_45_0 : Zgo d 45 0 L st S Q ↔ (Zgo d 45 1 L (zi 0 :: st) S Q) := Zgo_iff (i := .iconst 0) (len := 1) (a := 0) (b := 0) (c := 0) (p := 0) rfl
theorem zg_45_1 : Zgo d 45 1 L st S Q ↔ (zpi st False fun x t => Zgo d 45 2 (zst L 2 (some (zi x))) t S Q) := Zgo_iff (i := .istore_n 2) (len := 1) (a := 0) (b := 0) (c := 0) (p := 0) rfl
theorem zg_45_2 : Zgo d 45 2 L st S Q ↔ (zldi L 2 False fun x => Zgo d 45 3 L (zi x :: st) S Q) := Zgo_iff (i := .iload_n 2) (len := 1) (a := 0) (b := 0) (c := 0) (p := 0) rfl
theorem zg_45_3 : Zgo d 45 3 L st S Q ↔ (zlda L 0 False fun r => Zgo d 45 4 L (zq r :: st) S Q) := Zgo_iff (i := .aload_n 0) (len := 1) (a := 0) (b := 0) (c := 0) (p := 0) rfl
theorem zg_45_4 : Zgo d 45 4 L st S Q ↔ (zpa st False fun r t => zde r 7 False fun o => Zgo d 45 7 L (zi (S.1 7 o 4) :: t) S Q) := Zgo_iff (i := .getfield 54) (len := 3) (a := 7) (b := 4) (c := 0) (p := 2001) rfl
theorem zg_45_7 : Zgo d 45 7 L st S Q ↔ (zpi st False fun y t => zpi t False fun x t => if zw x < zw y then Zgo d 45 10 L t S Q else Zgo d 45 36 L t S Q) := Zgo_iff (i := .if_icmp .ge 29) (len := 3) (a := 0) (b := 0) (c := 0) (p := 0) rfl
theorem zg_45_10 : Zgo d 45 10 L st S Q ↔ (zlda L 0 False fun r => Zgo d 45 11 L (zq r :: st) S Q) := Zgo_iff (i := .aload_n 0) (len := 1) (a := 0) (b := 0) (c := 0) (p := 0) rfl
theorem zg_45_11 : Zgo d 45 11 L st S Q ↔ (zpa st False fun r t => zde r 7 False fun o => Zgo d 45 14 L (zq (S.2.1 7 o 0) :: t) S Q) := Zgo_iff (i := .getfield 11) (len := 3) (a := 7) (b := 0) (c := 3) (p := 1229) rfl
theorem zg_45_14 : Zgo d 45 14 L st S Q ↔ (zldi L 2 False fun x => Zgo d 45 15 L (zi x :: st) S Q) := Zgo_iff (i := .iload_n 2) (len := 1) (a := 0) (b := 0) (c := 0) (p := 0) rfl
theorem zg_45_15 : Zgo d 45 15 L st S Q ↔ (zpi st False fun j t => zpa t False fun r t => znn r False fun q o => zop (zlen S q) False fun n => if n.1 = 3 then zix j n.2 False fun x => Zgo d 45 16 L (zq (S.2.1 q o x) :: t) S Q else False) := Zgo_iff (i := .aaload) (len := 1) (a := 0) (b := 0) (c := 0) (p := 0) rfl
theorem zg_45_16 : Zgo d 45 16 L st S Q ↔ (zpa st False fun r t => zde r 2 False fun o => Zgo d 45 19 L (zi (S.1 2 o 0) :: t) S Q) := Zgo_iff (i := .getfield 70) (len := 3) (a := 2) (b := 0) (c := 0) (p := 1065) rfl
theorem zg_45_19 : Zgo d 45 19 L st S Q ↔ (zldi L 1 False fun x => Zgo d 45 20 L (zi x :: st) S Q) := Zgo_iff (i := .iload_n 1) (len := 1) (a := 0) (b := 0) (c := 0) (p := 0) rfl
theorem zg_45_20 : Zgo d 45 20 L st S Q ↔ (zpi st False fun y t => zpi t False fun x t => if zw x = zw y then Zgo d 45 23 L t S Q else Zgo d 45 30 L t S Q) := Zgo_iff (i := .if_icmp .ne 10) (len := 3) (a := 0) (b := 0) (c := 0) (p := 0) rfl
theorem zg_45_23 : Zgo d 45 23 L st S Q ↔ (zlda L 0 False fun r => Zgo d 45 24 L (zq r :: st) S Q) := Zgo_iff (i := .aload_n 0) (len := 1) (a := 0) (b := 0) (c := 0) (p := 0) rfl
theorem zg_45_24 : Zgo d 45 24 L st S Q ↔ (zpa st False fun r t => zde r 7 False fun o => Zgo d 45 27 L (zq (S.2.1 7 o 0) :: t) S Q) := Zgo_iff (i := .getfield 11) (len := 3) (a := 7) (b := 0) (c := 3) (p := 1229) rfl
theorem zg_45_27 : Zgo d 45 27 L st S Q ↔ (zldi L 2 False fun x => Zgo d 45 28 L (zi x :: st) S Q) := Zgo_iff (i := .iload_n 2) (len := 1) (a := 0) (b := 0) (c := 0) (p := 0) rfl
theorem zg_45_28 : Zgo d 45 28 L st S Q ↔ (zpi st False fun j t => zpa t False fun r t => znn r False fun q o => zop (zlen S q) False fun n => if n.1 = 3 then zix j n.2 False fun x => Zgo d 45 29 L (zq (S.2.1 q o x) :: t) S Q else False) := Zgo_iff (i := .aaload) (len := 1) (a := 0) (b := 0) (c := 0) (p := 0) rfl
theorem zg_45_29 : Zgo d 45 29 L st S Q ↔ (zpa st False fun x t => zem t False (Q (some (zq x)) S)) := Zgo_iff (i := .areturn) (len := 1) (a := 0) (b := 0) (c := 0) (p := 0) rfl
theorem zg_45_30 : Zgo d 45 30 L st S Q ↔ (zldi L 2 False fun x => Zgo d 45 33 (zst L 2 (some (zi (x + 1)))) st S Q) := Zgo_iff (i := .iinc 2 1) (len := 3) (a := 0) (b := 0) (c := 0) (p := 0) rfl
theorem zg_45_33 : Zgo d 45 33 L st S Q ↔ (Zgo d 45 2 L st S Q) := Zgo_iff (i := .goto (-31)) (len := 3) (a := 0) (b := 0) (c := 0) (p := 0) rfl
theorem zg_45_36 : Zgo d 45 36 L st S Q ↔ (Zgo d 45 37 L (zq none :: st) S Q) := Zgo_iff (i := .aconst_null) (len := 1) (a := 0) (b := 0) (c := 0) (p := 0) rfl
theorem zg_45_37 : Zgo d 45 37 L st S Q ↔ (zpa st False fun x t => zem t False (Q (some (zq x)) S)) := Zgo_iff (i := .areturn) (len := 1) (a := 0) (b := 0) (c := 0) (p := 0) rfl
/-- LeavingMachine$Checker.faultOf(LLeavingMachine$Statement;)I -/
theorem zg_46_0 : Zgo d 46 0 L st S Q ↔ (zlda L 0 False fun r => Zgo d 46 1 L (zq r :: st) S Q) := Zgo_iff (i := .aload_n 0) (len := 1) (a := 0) (b := 0) (c := 0) (p := 0) rfl
theorem zg_46_1 : Zgo d 46 1 L st S Q ↔ (zinv 1 st False fun as t => zCp d 47 as S fun r S2 => Zgo d 46 4 L (r.toList ++ t) S2 Q) := Zgo_iff (i := .invokestatic 67) (len := 3) (a := 47) (b := 1) (c := 1) (p := 3118) rfl
theorem zg_46_4 : Zgo d 46 4 L st S Q ↔ (zpi st False fun x t => if zw x = zw 0 then Zgo d 46 9 L t S Q else Zgo d 46 7 L t S Q) := Zgo_iff (i := .ifCond .eq 5) (len := 3) (a := 0) (b := 0) (c := 0) (p := 0) rfl
theorem zg_46_7 : Zgo d 46 7 L st S Q ↔ (Zgo d 46 8 L (zi 2 :: st) S Q) := Zgo_iff (i := .iconst 2) (len := 1) (a := 0) (b := 0) (c := 0) (p := 0) rfl
theorem zg_46_8 : Zgo d 46 8 L st S Q ↔ (zpi st False fun x t => zem t False (Q (some (zi x)) S)) := Zgo_iff (i := .ireturn) (len := 1) (a := 0) (b := 0) (c := 0) (p := 0) rfl
theorem zg_46_9 : Zgo d 46 9 L st S Q ↔ (zlda L 0 False fun r => Zgo d 46 10 L (zq r :: st) S Q) := Zgo_iff (i := .aload_n 0) (len := 1) (a := 0) (b := 0) (c := 0) (p := 0) rfl
theorem zg_46_10 : Zgo d 46 10 L st S Q ↔ (zpa st False fun r t => zde r 4 False fun o => Zgo d 46 13 L (zi (S.1 4 o 0) :: t) S Q) := Zgo_iff (i := .getfield 39) (len := 3) (a := 4) (b := 0) (c := 2) (p := 1120) rfl
theorem zg_46_13 : Zgo d 46 13 L st S Q ↔ (Zgo d 46 15 L (zi 80 :: st) S Q) := Zgo_iff (i := .bipush 80) (len := 2) (a := 0) (b := 0) (c := 0) (p := 0) rfl
theorem zg_46_15 : Zgo d 46 15 L st S Q ↔ (zpi st False fun y t => zpi t False fun x t => if zw x = zw y then Zgo d 46 18 L t S Q else Zgo d 46 27 L t S Q) := Zgo_iff (i := .if_icmp .ne 12) (len := 3) (a := 0) (b := 0) (c := 0) (p := 0) rfl
theorem zg_46_18 : Zgo d 46 18 L st S Q ↔ (zlda L 0 False fun r => Zgo d 46 19 L (zq r :: st) S Q) := Zgo_iff (i := .aload_n 0) (len := 1) (a := 0) (b := 0) (c := 0) (p := 0) rfl
theorem zg_46_19 : Zgo d 46 19 L st S Q ↔ (zpa st False fun r t => zde r 4 False fun o => Zgo d 46 22 L (zq (S.2.1 4 o 7) :: t) S Q) := Zgo_iff (i := .getfield 58) (len := 3) (a := 4) (b := 7) (c := 3) (p := 1139) rfl
theorem zg_46_22 : Zgo d 46 22 L st S Q ↔ (zpa st False fun x t => if x = none then Zgo d 46 25 L t S Q else Zgo d 46 27 L t S Q) := Zgo_iff (i := .ifnonnull 5) (len := 3) (a := 0) (b := 0) (c := 0) (p := 0) rfl
theorem zg_46_25 : Zgo d 46 25 L st S Q ↔ (Zgo d 46 26 L (zi 3 :: st) S Q) := Zgo_iff (i := .iconst 3) (len := 1) (a := 0) (b := 0) (c := 0) (p := 0) rfl
theorem zg_46_26 : Zgo d 46 26 L st S Q ↔ (zpi st False fun x t => zem t False (Q (some (zi x)) S)) := Zgo_iff (i := .ireturn) (len := 1) (a := 0) (b := 0) (c := 0) (p := 0) rfl
theorem zg_46_27 : Zgo d 46 27 L st S Q ↔ (zlda L 0 False fun r => Zgo d 46 28 L (zq r :: st) S Q) := Zgo_iff (i := .aload_n 0) (len := 1) (a := 0) (b := 0) (c := 0) (p := 0) rfl
theorem zg_46_28 : Zgo d 46 28 L st S Q ↔ (zpa st False fun r t => zde r 4 False fun o => Zgo d 46 31 L (zq (S.2.1 4 o 5) :: t) S Q) := Zgo_iff (i := .getfield 71) (len := 3) (a := 4) (b := 5) (c := 3) (p := 1134) rfl
theorem zg_46_31 : Zgo d 46 31 L st S Q ↔ (zpa st False fun x t => if x = none then Zgo d 46 48 L t S Q else Zgo d 46 34 L t S Q) := Zgo_iff (i := .ifnull 17) (len := 3) (a := 0) (b := 0) (c := 0) (p := 0) rfl
theorem zg_46_34 : Zgo d 46 34 L st S Q ↔ (zlda L 0 False fun r => Zgo d 46 35 L (zq r :: st) S Q) := Zgo_iff (i := .aload_n 0) (len := 1) (a := 0) (b := 0) (c := 0) (p := 0) rfl
theorem zg_46_35 : Zgo d 46 35 L st S Q ↔ (zpa st False fun r t => zde r 4 False fun o => Zgo d 46 38 L (zq (S.2.1 4 o 5) :: t) S Q) := Zgo_iff (i := .getfield 71) (len := 3) (a := 4) (b := 5) (c := 3) (p := 1134) rfl
theorem zg_46_38 : Zgo d 46 38 L st S Q ↔ (zinv 1 st False fun as t => zCp d 48 as S fun r S2 => Zgo d 46 41 L (r.toList ++ t) S2 Q) := Zgo_iff (i := .invokestatic 75) (len := 3) (a := 48) (b := 1) (c := 1) (p := 3121) rfl
theorem zg_46_41 : Zgo d 46 41 L st S Q ↔ (zpi st False fun x t => if zw x = zw 0 then Zgo d 46 48 L t S Q else Zgo d 46 44 L t S Q) := Zgo_iff (i := .ifCond .eq 7) (len := 3) (a := 0) (b := 0) (c := 0) (p := 0) rfl
theorem zg_46_44 : Zgo d 46 44 L st S Q ↔ (Zgo d 46 45 L (zi 4 :: st) S Q) := Zgo_iff (i := .iconst 4) (len := 1) (a := 0) (b := 0) (c := 0) (p := 0) rfl
theorem zg_46_45 : Zgo d 46 45 L st S Q ↔ (Zgo d 46 49 L st S Q) := Zgo_iff (i := .goto 4) (len := 3) (a := 0) (b := 0) (c := 0) (p := 0) rfl
theorem zg_46_48 : Zgo d 46 48 L st S Q ↔ (Zgo d 46 49 L (zi 0 :: st) S Q) := Zgo_iff (i := .iconst 0) (len := 1) (a := 0) (b := 0) (c := 0) (p := 0) rfl
theorem zg_46_49 : Zgo d 46 49 L st S Q ↔ (zpi st False fun x t => zem t False (Q (some (zi x)) S)) := Zgo_iff (i := .ireturn) (len := 1) (a := 0) (b := 0) (c := 0) (p := 0) rfl
/-- LeavingMachine$Checker.isOutOfPlace(LLeavingMachine$Statement;)Z -/
theorem zg_47_0 : Zgo d 47 0 L st S Q ↔ (zlda L 0 False fun r => Zgo d 47 1 L (zq r :: st) S Q) := Zgo_iff (i := .aload_n 0) (len := 1) (a := 0) (b := 0) (c := 0) (p := 0) rfl
theorem zg_47_1 : Zgo d 47 1 L st S Q ↔ (zpa st False fun r t => zde r 4 False fun o => Zgo d 47 4 L (zi (S.1 4 o 0) :: t) S Q) := Zgo_iff (i := .getfield 39) (len := 3) (a := 4) (b := 0) (c := 2) (p := 1120) rfl
theorem zg_47_40 : Zgo d 47 40 L st S Q ↔ (zlda L 0 False fun r => Zgo d 47 41 L (zq r :: st) S Q) := Zgo_iff (i := .aload_n 0) (len := 1) (a := 0) (b := 0) (c := 0) (p := 0) rfl
theorem zg_47_41 : Zgo d 47 41 L st S Q ↔ (zpa st False fun r t => zde r 4 False fun o => Zgo d 47 44 L (zq (S.2.1 4 o 4) :: t) S Q) := Zgo_iff (i := .getfield 78) (len := 3) (a := 4) (b := 4) (c := 3) (p := 1132) rfl
theorem zg_47_44 : Zgo d 47 44 L st S Q ↔ (zpa st False fun r t => zde r 3 False fun o => Zgo d 47 47 L (zi (S.1 3 o 1) :: t) S Q) := Zgo_iff (i := .getfield 81) (len := 3) (a := 3) (b := 1) (c := 1) (p := 1183) rfl
theorem zg_47_47 : Zgo d 47 47 L st S Q ↔ (zpi st False fun x t => if zw x = zw 0 then Zgo d 47 50 L t S Q else Zgo d 47 54 L t S Q) := Zgo_iff (i := .ifCond .ne 7) (len := 3) (a := 0) (b := 0) (c := 0) (p := 0) rfl
theorem zg_47_50 : Zgo d 47 50 L st S Q ↔ (Zgo d 47 51 L (zi 1 :: st) S Q) := Zgo_iff (i := .iconst 1) (len := 1) (a := 0) (b := 0) (c := 0) (p := 0) rfl
theorem zg_47_51 : Zgo d 47 51 L st S Q ↔ (Zgo d 47 55 L st S Q) := Zgo_iff (i := .goto 4) (len := 3) (a := 0) (b := 0) (c := 0) (p := 0) rfl
theorem zg_47_54 : Zgo d 47 54 L st S Q ↔ (Zgo d 47 55 L (zi 0 :: st) S Q) := Zgo_iff (i := .iconst 0) (len := 1) (a := 0) (b := 0) (c := 0) (p := 0) rfl
theorem zg_47_55 : Zgo d 47 55 L st S Q ↔ (zpi st False fun x t => zem t False (zok 1 x False (Q (some (zi x)) S))) := Zgo_iff (i := .ireturn) (len := 1) (a := 0) (b := 0) (c := 0) (p := 0) rfl
theorem zg_47_56 : Zgo d 47 56 L st S Q ↔ (zlda L 0 False fun r => Zgo d 47 57 L (zq r :: st) S Q) := Zgo_iff (i := .aload_n 0) (len := 1) (a := 0) (b := 0) (c := 0) (p := 0) rfl
theorem zg_47_57 : Zgo d 47 57 L st S Q ↔ (zpa st False fun r t => zde r 4 False fun o => Zgo d 47 60 L (zq (S.2.1 4 o 4) :: t) S Q) := Zgo_iff (i := .getfield 78) (len := 3) (a := 4) (b := 4) (c := 3) (p := 1132) rfl
theorem zg_47_60 : Zgo d 47 60 L st S Q ↔ (zpa st False fun r t => zde r 3 False fun o => Zgo d 47 63 L (zi (S.1 3 o 2) :: t) S Q) := Zgo_iff (i := .getfield 87) (len := 3) (a := 3) (b := 2) (c := 0) (p := 1186) rfl
theorem zg_47_63 : Zgo d 47 63 L st S Q ↔ (Zgo d 47 64 L (zi (-1) :: st) S Q) := Zgo_iff (i := .iconst (-1)) (len := 1) (a := 0) (b := 0) (c := 0) (p := 0) rfl
theorem zg_47_64 : Zgo d 47 64 L st S Q ↔ (zpi st False fun y t => zpi t False fun x t => if zw x = zw y then Zgo d 47 67 L t S Q else Zgo d 47 71 L t S Q) := Zgo_iff (i := .if_icmp .ne 7) (len := 3) (a := 0) (b := 0) (c := 0) (p := 0) rfl
theorem zg_47_67 : Zgo d 47 67 L st S Q ↔ (Zgo d 47 68 L (zi 1 :: st) S Q) := Zgo_iff (i := .iconst 1) (len := 1) (a := 0) (b := 0) (c := 0) (p := 0) rfl
theorem zg_47_68 : Zgo d 47 68 L st S Q ↔ (Zgo d 47 72 L st S Q) := Zgo_iff (i := .goto 4) (len := 3) (a := 0) (b := 0) (c := 0) (p := 0) rfl
theorem zg_47_71 : Zgo d 47 71 L st S Q ↔ (Zgo d 47 72 L (zi 0 :: st) S Q) := Zgo_iff (i := .iconst 0) (len := 1) (a := 0) (b := 0) (c := 0) (p := 0) rfl
theorem zg_47_72 : Zgo d 47 72 L st S Q ↔ (zpi st False fun x t => zem t False (zok 1 x False (Q (some (zi x)) S))) := Zgo_iff (i := .ireturn) (len := 1) (a := 0) (b := 0) (c := 0) (p := 0) rfl
theorem zg_47_73 : Zgo d 47 73 L st S Q ↔ (Zgo d 47 74 L (zi 0 :: st) S Q) := Zgo_iff (i := .iconst 0) (len := 1) (a := 0) (b := 0) (c := 0) (p := 0) rfl
theorem zg_47_74 : Zgo d 47 74 L st S Q ↔ (zpi st False fun x t => zem t False (zok 1 x False (Q (some (zi x)) S))) := Zgo_iff (i := .ireturn) (len := 1) (a := 0) (b := 0) (c := 0) (p := 0) rfl
/-- LeavingMachine$Checker.alwaysLeaves(LLeavingMachine$Statement;)Z -/
theorem zg_48_0 : Zgo d 48 0 L st S Q ↔ (zlda L 0 False fun r => Zgo d 48 1 L (zq r :: st) S Q) := Zgo_iff (i := .aload_n 0) (len := 1) (a := 0) (b := 0) (c := 0) (p := 0) rfl
theorem zg_48_1 : Zgo d 48 1 L st S Q ↔ (zpa st False fun r t => zde r 4 False fun o => Zgo d 48 4 L (zi (S.1 4 o 0) :: t) S Q) := Zgo_iff (i := .getfield 39) (len := 3) (a := 4) (b := 0) (c := 2) (p := 1120) rfl
theorem zg_48_56 : Zgo d 48 56 L st S Q ↔ (Zgo d 48 57 L (zi 1 :: st) S Q) := Zgo_iff (i := .iconst 1) (len := 1) (a := 0) (b := 0) (c := 0) (p := 0) rfl
theorem zg_48_57 : Zgo d 48 57 L st S Q ↔ (zpi st False fun x t => zem t False (zok 1 x False (Q (some (zi x)) S))) := Zgo_iff (i := .ireturn) (len := 1) (a := 0) (b := 0) (c := 0) (p := 0) rfl
theorem zg_48_58 : Zgo d 48 58 L st S Q ↔ (Zgo d 48 59 L (zi 0 :: st) S Q) := Zgo_iff (i := .iconst 0) (len := 1) (a := 0) (b := 0) (c := 0) (p := 0) rfl
theorem zg_48_59 : Zgo d 48 59 L st S Q ↔ (zpi st False fun x t => zem t False (zok 1 x False (Q (some (zi x)) S))) := Zgo_iff (i := .ireturn) (len := 1) (a := 0) (b := 0) (c := 0) (p := 0) rfl
/-- LeavingMachine$Checker.hasNameTwice()Z -/
theorem zg_49_0 : Zgo d 49 0 L st S Q ↔ (Zgo d 49 1 L (zi 0 :: st) S Q) := Zgo_iff (i := .iconst 0) (len := 1) (a := 0) (b := 0) (c := 0) (p := 0) rfl
theorem zg_49_1 : Zgo d 49 1 L st S Q ↔ (zpi st False fun x t => Zgo d 49 2 (zst L 1 (some (zi x))) t S Q) := Zgo_iff (i := .istore_n 1) (len := 1) (a := 0) (b := 0) (c := 0) (p := 0) rfl
theorem zg_49_2 : Zgo d 49 2 L st S Q ↔ (zldi L 1 False fun x => Zgo d 49 3 L (zi x :: st) S Q) := Zgo_iff (i := .iload_n 1) (len := 1) (a := 0) (b := 0) (c := 0) (p := 0) rfl
theorem zg_49_3 : Zgo d 49 3 L st S Q ↔ (zlda L 0 False fun r => Zgo d 49 4 L (zq r :: st) S Q) := Zgo_iff (i := .aload_n 0) (len := 1) (a := 0) (b := 0) (c := 0) (p := 0) rfl
theorem zg_49_4 : Zgo d 49 4 L st S Q ↔ (zpa st False fun r t => zde r 9 False fun o => Zgo d 49 7 L (zq (S.2.1 9 o 0) :: t) S Q) := Zgo_iff (i := .getfield 9) (len := 3) (a := 9) (b := 0) (c := 3) (p := 2058) rfl
theorem zg_49_7 : Zgo d 49 7 L st S Q ↔ (zpa st False fun r t => zde r 7 False fun o => Zgo d 49 10 L (zi (S.1 7 o 4) :: t) S Q) := Zgo_iff (i := .getfield 90) (len := 3) (a := 7) (b := 4) (c := 0) (p := 2002) rfl
theorem zg_49_10 : Zgo d 49 10 L st S Q ↔ (zpi st False fun y t => zpi t False fun x t => if zw x < zw y then Zgo d 49 13 L t S Q else Zgo d 49 46 L t S Q) := Zgo_iff (i := .if_icmp .ge 36) (len := 3) (a := 0) (b := 0) (c := 0) (p := 0) rfl
theorem zg_49_13 : Zgo d 49 13 L st S Q ↔ (zlda L 0 False fun r => Zgo d 49 14 L (zq r :: st) S Q) := Zgo_iff (i := .aload_n 0) (len := 1) (a := 0) (b := 0) (c := 0) (p := 0) rfl
theorem zg_49_14 : Zgo d 49 14 L st S Q ↔ (zpa st False fun r t => zde r 9 False fun o => Zgo d 49 17 L (zq (S.2.1 9 o 0) :: t) S Q) := Zgo_iff (i := .getfield 9) (len := 3) (a := 9) (b := 0) (c := 3) (p := 2058) rfl
theorem zg_49_17 : Zgo d 49 17 L st S Q ↔ (zpa st False fun r t => zde r 7 False fun o => Zgo d 49 20 L (zq (S.2.1 7 o 0) :: t) S Q) := Zgo_iff (i := .getfield 93) (len := 3) (a := 7) (b := 0) (c := 3) (p := 1230) rfl
theorem zg_49_20 : Zgo d 49 20 L st S Q ↔ (zldi L 1 False fun x => Zgo d 49 21 L (zi x :: st) S Q) := Zgo_iff (i := .iload_n 1) (len := 1) (a := 0) (b := 0) (c := 0) (p := 0) rfl
theorem zg_49_21 : Zgo d 49 21 L st S Q ↔ (zpi st False fun j t => zpa t False fun r t => znn r False fun q o => zop (zlen S q) False fun n => if n.1 = 3 then zix j n.2 False fun x => Zgo d 49 22 L (zq (S.2.1 q o x) :: t) S Q else False) := Zgo_iff (i := .aaload) (len := 1) (a := 0) (b := 0) (c := 0) (p := 0) rfl
theorem zg_49_22 : Zgo d 49 22 L st S Q ↔ (zpa st False fun x t => Zgo d 49 23 (zst L 2 (some (zq x))) t S Q) := Zgo_iff (i := .astore_n 2) (len := 1) (a := 0) (b := 0) (c := 0) (p := 0) rfl
theorem zg_49_23 : Zgo d 49 23 L st S Q ↔ (zlda L 0 False fun r => Zgo d 49 24 L (zq r :: st) S Q) := Zgo_iff (i := .aload_n 0) (len := 1) (a := 0) (b := 0) (c := 0) (p := 0) rfl
theorem zg_49_24 : Zgo d 49 24 L st S Q ↔ (zpa st False fun r t => zde r 9 False fun o => Zgo d 49 27 L (zq (S.2.1 9 o 0) :: t) S Q) := Zgo_iff (i := .getfield 9) (len := 3) (a := 9) (b := 0) (c := 3) (p := 2058) rfl
theorem zg_49_27 : Zgo d 49 27 L st S Q ↔ (zlda L 2 False fun r => Zgo d 49 28 L (zq r :: st) S Q) := Zgo_iff (i := .aload_n 2) (len := 1) (a := 0) (b := 0) (c := 0) (p := 0) rfl
theorem zg_49_28 : Zgo d 49 28 L st S Q ↔ (zpa st False fun r t => zde r 2 False fun o => Zgo d 49 31 L (zi (S.1 2 o 0) :: t) S Q) := Zgo_iff (i := .getfield 97) (len := 3) (a := 2) (b := 0) (c := 0) (p := 1066) rfl
theorem zg_49_31 : Zgo d 49 31 L st S Q ↔ (zinv 2 st False fun as t => zrec as 7 False (zCp d 45 as S fun r S2 => Zgo d 49 34 L (r.toList ++ t) S2 Q)) := Zgo_iff (i := .invokevirtual 48) (len := 3) (a := 45) (b := 2) (c := 0) (p := 3111) rfl
theorem zg_49_34 : Zgo d 49 34 L st S Q ↔ (zlda L 2 False fun r => Zgo d 49 35 L (zq r :: st) S Q) := Zgo_iff (i := .aload_n 2) (len := 1) (a := 0) (b := 0) (c := 0) (p := 0) rfl
theorem zg_49_35 : Zgo d 49 35 L st S Q ↔ (zpa st False fun y t => zpa t False fun x t => zsame x y False (Zgo d 49 40 L t S Q) (Zgo d 49 38 L t S Q)) := Zgo_iff (i := .if_acmp .eq 5) (len := 3) (a := 0) (b := 0) (c := 0) (p := 0) rfl
theorem zg_49_38 : Zgo d 49 38 L st S Q ↔ (Zgo d 49 39 L (zi 1 :: st) S Q) := Zgo_iff (i := .iconst 1) (len := 1) (a := 0) (b := 0) (c := 0) (p := 0) rfl
theorem zg_49_39 : Zgo d 49 39 L st S Q ↔ (zpi st False fun x t => zem t False (zok 1 x False (Q (some (zi x)) S))) := Zgo_iff (i := .ireturn) (len := 1) (a := 0) (b := 0) (c := 0) (p := 0) rfl
theorem zg_49_40 : Zgo d 49 40 L st S Q ↔ (zldi L 1 False fun x => Zgo d 49 43 (zst L 1 (some (zi (x + 1)))) st S Q) := Zgo_iff (i := .iinc 1 1) (len := 3) (a := 0) (b := 0) (c := 0) (p := 0) rfl
theorem zg_49_43 : Zgo d 49 43 L st S Q ↔ (Zgo d 49 2 L st S Q) := Zgo_iff (i := .goto (-41)) (len := 3) (a := 0) (b := 0) (c := 0) (p := 0) rfl
theorem zg_49_46 : Zgo d 49 46 L st S Q ↔ (Zgo d 49 47 L (zi 0 :: st) S Q) := Zgo_iff (i := .iconst 0) (len := 1) (a := 0) (b := 0) (c := 0) (p := 0) rfl
theorem zg_49_47 : Zgo d 49 47 L st S Q ↔ (zpi st False fun x t => zem t False (zok 1 x False (Q (some (zi x)) S))) := Zgo_iff (i := .ireturn) (len := 1) (a := 0) (b := 0) (c := 0) (p := 0) rfl
/-- LeavingMachine$Checker.raisesAsDeclared()Z -/
theorem zg_50_0 : Zgo d 50 0 L st S Q ↔ (zlda L 0 False fun r => Zgo d 50 1 L (zq r :: st) S Q) := Zgo_iff (i := .aload_n 0) (len := 1) (a := 0) (b := 0) (c := 0) (p := 0) rfl
theorem zg_50_1 : Zgo d 50 1 L st S Q ↔ (Zgo d 50 2 L (zi 0 :: st) S Q) := Zgo_iff (i := .iconst 0) (len := 1) (a := 0) (b := 0) (c := 0) (p := 0) rfl
theorem zg_50_2 : Zgo d 50 2 L st S Q ↔ (zpi st False fun v t => zpa t False fun r t => zde r 9 False fun o => zok 1 v False (Zgo d 50 5 L t (zsI S.1 9 o 1 v, S.2) Q)) := Zgo_iff (i := .putfield 100) (len := 3) (a := 9) (b := 1) (c := 1) (p := 2059) rfl
theorem zg_50_5 : Zgo d 50 5 L st S Q ↔ (zlda L 0 False fun r => Zgo d 50 6 L (zq r :: st) S Q) := Zgo_iff (i := .aload_n 0) (len := 1) (a := 0) (b := 0) (c := 0) (p := 0) rfl
theorem zg_50_6 : Zgo d 50 6 L st S Q ↔ (zlda L 0 False fun r => Zgo d 50 7 L (zq r :: st) S Q) := Zgo_iff (i := .aload_n 0) (len := 1) (a := 0) (b := 0) (c := 0) (p := 0) rfl
theorem zg_50_7 : Zgo d 50 7 L st S Q ↔ (zpa st False fun r t => zde r 9 False fun o => Zgo d 50 10 L (zq (S.2.1 9 o 0) :: t) S Q) := Zgo_iff (i := .getfield 9) (len := 3) (a := 9) (b := 0) (c := 3) (p := 2058) rfl
theorem zg_50_10 : Zgo d 50 10 L st S Q ↔ (zpa st False fun r t => zde r 7 False fun o => Zgo d 50 13 L (zq (S.2.1 7 o 1) :: t) S Q) := Zgo_iff (i := .getfield 103) (len := 3) (a := 7) (b := 1) (c := 3) (p := 1235) rfl
theorem zg_50_13 : Zgo d 50 13 L st S Q ↔ (zinv 2 st False fun as t => zrec as 9 False (zCp d 51 as S fun r S2 => Zgo d 50 16 L (r.toList ++ t) S2 Q)) := Zgo_iff (i := .invokevirtual 107) (len := 3) (a := 51) (b := 2) (c := 0) (p := 3132) rfl
theorem zg_50_16 : Zgo d 50 16 L st S Q ↔ (zpi st False fun x t => Zgo d 50 17 (zst L 1 (some (zi x))) t S Q) := Zgo_iff (i := .istore_n 1) (len := 1) (a := 0) (b := 0) (c := 0) (p := 0) rfl
theorem zg_50_17 : Zgo d 50 17 L st S Q ↔ (Zgo d 50 18 L (zi 0 :: st) S Q) := Zgo_iff (i := .iconst 0) (len := 1) (a := 0) (b := 0) (c := 0) (p := 0) rfl
theorem zg_50_18 : Zgo d 50 18 L st S Q ↔ (zpi st False fun x t => Zgo d 50 19 (zst L 2 (some (zi x))) t S Q) := Zgo_iff (i := .istore_n 2) (len := 1) (a := 0) (b := 0) (c := 0) (p := 0) rfl
theorem zg_50_19 : Zgo d 50 19 L st S Q ↔ (zldi L 2 False fun x => Zgo d 50 20 L (zi x :: st) S Q) := Zgo_iff (i := .iload_n 2) (len := 1) (a := 0) (b := 0) (c := 0) (p := 0) rfl
theorem zg_50_20 : Zgo d 50 20 L st S Q ↔ (zlda L 0 False fun r => Zgo d 50 21 L (zq r :: st) S Q) := Zgo_iff (i := .aload_n 0) (len := 1) (a := 0) (b := 0) (c := 0) (p := 0) rfl
theorem zg_50_21 : Zgo d 50 21 L st S Q ↔ (zpa st False fun r t => zde r 9 False fun o => Zgo d 50 24 L (zq (S.2.1 9 o 0) :: t) S Q) := Zgo_iff (i := .getfield 9) (len := 3) (a := 9) (b := 0) (c := 3) (p := 2058) rfl
theorem zg_50_24 : Zgo d 50 24 L st S Q ↔ (zpa st False fun r t => zde r 7 False fun o => Zgo d 50 27 L (zi (S.1 7 o 4) :: t) S Q) := Zgo_iff (i := .getfield 90) (len := 3) (a := 7) (b := 4) (c := 0) (p := 2002) rfl
theorem zg_50_27 : Zgo d 50 27 L st S Q ↔ (zpi st False fun y t => zpi t False fun x t => if zw x < zw y then Zgo d 50 30 L t S Q else Zgo d 50 54 L t S Q) := Zgo_iff (i := .if_icmp .ge 27) (len := 3) (a := 0) (b := 0) (c := 0) (p := 0) rfl
theorem zg_50_30 : Zgo d 50 30 L st S Q ↔ (zlda L 0 False fun r => Zgo d 50 31 L (zq r :: st) S Q) := Zgo_iff (i := .aload_n 0) (len := 1) (a := 0) (b := 0) (c := 0) (p := 0) rfl
theorem zg_50_31 : Zgo d 50 31 L st S Q ↔ (zlda L 0 False fun r => Zgo d 50 32 L (zq r :: st) S Q) := Zgo_iff (i := .aload_n 0) (len := 1) (a := 0) (b := 0) (c := 0) (p := 0) rfl
theorem zg_50_32 : Zgo d 50 32 L st S Q ↔ (zpa st False fun r t => zde r 9 False fun o => Zgo d 50 35 L (zq (S.2.1 9 o 0) :: t) S Q) := Zgo_iff (i := .getfield 9) (len := 3) (a := 9) (b := 0) (c := 3) (p := 2058) rfl
theorem zg_50_35 : Zgo d 50 35 L st S Q ↔ (zpa st False fun r t => zde r 7 False fun o => Zgo d 50 38 L (zq (S.2.1 7 o 0) :: t) S Q) := Zgo_iff (i := .getfield 93) (len := 3) (a := 7) (b := 0) (c := 3) (p := 1230) rfl
theorem zg_50_38 : Zgo d 50 38 L st S Q ↔ (zldi L 2 False fun x => Zgo d 50 39 L (zi x :: st) S Q) := Zgo_iff (i := .iload_n 2) (len := 1) (a := 0) (b := 0) (c := 0) (p := 0) rfl
theorem zg_50_39 : Zgo d 50 39 L st S Q ↔ (zpi st False fun j t => zpa t False fun r t => znn r False fun q o => zop (zlen S q) False fun n => if n.1 = 3 then zix j n.2 False fun x => Zgo d 50 40 L (zq (S.2.1 q o x) :: t) S Q else False) := Zgo_iff (i := .aaload) (len := 1) (a := 0) (b := 0) (c := 0) (p := 0) rfl
theorem zg_50_40 : Zgo d 50 40 L st S Q ↔ (zinv 2 st False fun as t => zrec as 9 False (zCp d 51 as S fun r S2 => Zgo d 50 43 L (r.toList ++ t) S2 Q)) := Zgo_iff (i := .invokevirtual 107) (len := 3) (a := 51) (b := 2) (c := 0) (p := 3132) rfl
theorem zg_50_43 : Zgo d 50 43 L st S Q ↔ (zpi st False fun x t => if zw x = zw 0 then Zgo d 50 46 L t S Q else Zgo d 50 48 L t S Q) := Zgo_iff (i := .ifCond .ne 5) (len := 3) (a := 0) (b := 0) (c := 0) (p := 0) rfl
theorem zg_50_46 : Zgo d 50 46 L st S Q ↔ (Zgo d 50 47 L (zi 0 :: st) S Q) := Zgo_iff (i := .iconst 0) (len := 1) (a := 0) (b := 0) (c := 0) (p := 0) rfl
theorem zg_50_47 : Zgo d 50 47 L st S Q ↔ (zpi st False fun x t => Zgo d 50 48 (zst L 1 (some (zi x))) t S Q) := Zgo_iff (i := .istore_n 1) (len := 1) (a := 0) (b := 0) (c := 0) (p := 0) rfl
theorem zg_50_48 : Zgo d 50 48 L st S Q ↔ (zldi L 2 False fun x => Zgo d 50 51 (zst L 2 (some (zi (x + 1)))) st S Q) := Zgo_iff (i := .iinc 2 1) (len := 3) (a := 0) (b := 0) (c := 0) (p := 0) rfl
theorem zg_50_51 : Zgo d 50 51 L st S Q ↔ (Zgo d 50 19 L st S Q) := Zgo_iff (i := .goto (-32)) (len := 3) (a := 0) (b := 0) (c := 0) (p := 0) rfl
theorem zg_50_54 : Zgo d 50 54 L st S Q ↔ (zldi L 1 False fun x => Zgo d 50 55 L (zi x :: st) S Q) := Zgo_iff (i := .iload_n 1) (len := 1) (a := 0) (b := 0) (c := 0) (p := 0) rfl
theorem zg_50_55 : Zgo d 50 55 L st S Q ↔ (zpi st False fun x t => if zw x = zw 0 then Zgo d 50 69 L t S Q else Zgo d 50 58 L t S Q) := Zgo_iff (i := .ifCond .eq 14) (len := 3) (a := 0) (b := 0) (c := 0) (p := 0) rfl
theorem zg_50_58 : Zgo d 50 58 L st S Q ↔ (zlda L 0 False fun r => Zgo d 50 59 L (zq r :: st) S Q) := Zgo_iff (i := .aload_n 0) (len := 1) (a := 0) (b := 0) (c := 0) (p := 0) rfl
theorem zg_50_59 : Zgo d 50 59 L st S Q ↔ (zpa st False fun r t => zde r 9 False fun o => Zgo d 50 62 L (zi (S.1 9 o 1) :: t) S Q) := Zgo_iff (i := .getfield 100) (len := 3) (a := 9) (b := 1) (c := 1) (p := 2059) rfl
theorem zg_50_62 : Zgo d 50 62 L st S Q ↔ (zpi st False fun x t => if zw x = zw 0 then Zgo d 50 65 L t S Q else Zgo d 50 69 L t S Q) := Zgo_iff (i := .ifCond .ne 7) (len := 3) (a := 0) (b := 0) (c := 0) (p := 0) rfl
theorem zg_50_65 : Zgo d 50 65 L st S Q ↔ (Zgo d 50 66 L (zi 1 :: st) S Q) := Zgo_iff (i := .iconst 1) (len := 1) (a := 0) (b := 0) (c := 0) (p := 0) rfl
theorem zg_50_66 : Zgo d 50 66 L st S Q ↔ (Zgo d 50 70 L st S Q) := Zgo_iff (i := .goto 4) (len := 3) (a := 0) (b := 0) (c := 0) (p := 0) rfl
theorem zg_50_69 : Zgo d 50 69 L st S Q ↔ (Zgo d 50 70 L (zi 0 :: st) S Q) := Zgo_iff (i := .iconst 0) (len := 1) (a := 0) (b := 0) (c := 0) (p := 0) rfl
theorem zg_50_70 : Zgo d 50 70 L st S Q ↔ (zpi st False fun x t => zem t False (zok 1 x False (Q (some (zi x)) S))) := Zgo_iff (i := .ireturn) (len := 1) (a := 0) (b := 0) (c := 0) (p := 0) rfl
/-- LeavingMachine$Checker.keepsToItsTags(LLeavingMachine$Procedure;)Z -/
theorem zg_51_0 : Zgo d 51 0 L st S Q ↔ (zlda L 1 False fun r => Zgo d 51 1 L (zq r :: st) S Q) := Zgo_iff (i := .aload_n 1) (len := 1) (a := 0) (b := 0) (c := 0) (p := 0) rfl
theorem zg_51_1 : Zgo d 51 1 L st S Q ↔ (zlda L 0 False fun r => Zgo d 51 2 L (zq r :: st) S Q) := Zgo_iff (i := .aload_n 0) (len := 1) (a := 0) (b := 0) (c := 0) (p := 0) rfl
theorem zg_51_2 : Zgo d 51 2 L st S Q ↔ (zlda L 1 False fun r => Zgo d 51 3 L (zq r :: st) S Q) := Zgo_iff (i := .aload_n 1) (len := 1) (a := 0) (b := 0) (c := 0) (p := 0) rfl
theorem zg_51_3 : Zgo d 51 3 L st S Q ↔ (zpa st False fun r t => zde r 2 False fun o => Zgo d 51 6 L (zq (S.2.1 2 o 3) :: t) S Q) := Zgo_iff (i := .getfield 52) (len := 3) (a := 2) (b := 3) (c := 3) (p := 1072) rfl
theorem zg_51_6 : Zgo d 51 6 L st S Q ↔ (zinv 2 st False fun as t => zrec as 9 False (zCp d 52 as S fun r S2 => Zgo d 51 9 L (r.toList ++ t) S2 Q)) := Zgo_iff (i := .invokevirtual 111) (len := 3) (a := 52) (b := 2) (c := 0) (p := 3136) rfl
theorem zg_51_9 : Zgo d 51 9 L st S Q ↔ (zpi st False fun v t => zpa t False fun r t => zde r 2 False fun o => Zgo d 51 12 L t (zsI S.1 2 o 2 v, S.2) Q) := Zgo_iff (i := .putfield 115) (len := 3) (a := 2) (b := 2) (c := 0) (p := 1069) rfl
theorem zg_51_12 : Zgo d 51 12 L st S Q ↔ (zlda L 1 False fun r => Zgo d 51 13 L (zq r :: st) S Q) := Zgo_iff (i := .aload_n 1) (len := 1) (a := 0) (b := 0) (c := 0) (p := 0) rfl
theorem zg_51_13 : Zgo d 51 13 L st S Q ↔ (zpa st False fun r t => zde r 2 False fun o => Zgo d 51 16 L (zi (S.1 2 o 2) :: t) S Q) := Zgo_iff (i := .getfield 115) (len := 3) (a := 2) (b := 2) (c := 0) (p := 1069) rfl
theorem zg_51_16 : Zgo d 51 16 L st S Q ↔ (zlda L 1 False fun r => Zgo d 51 17 L (zq r :: st) S Q) := Zgo_iff (i := .aload_n 1) (len := 1) (a := 0) (b := 0) (c := 0) (p := 0) rfl
theorem zg_51_17 : Zgo d 51 17 L st S Q ↔ (zpa st False fun r t => zde r 2 False fun o => Zgo d 51 20 L (zi (S.1 2 o 1) :: t) S Q) := Zgo_iff (i := .getfield 61) (len := 3) (a := 2) (b := 1) (c := 0) (p := 1068) rfl
theorem zg_51_20 : Zgo d 51 20 L st S Q ↔ (Zgo d 51 21 L (zi (-1) :: st) S Q) := Zgo_iff (i := .iconst (-1)) (len := 1) (a := 0) (b := 0) (c := 0) (p := 0) rfl
theorem zg_51_21 : Zgo d 51 21 L st S Q ↔ (zpi st False fun y t => zpi t False fun x t => Zgo d 51 22 L (zi (zxor x y) :: t) S Q) := Zgo_iff (i := .ixor) (len := 1) (a := 0) (b := 0) (c := 0) (p := 0) rfl
theorem zg_51_22 : Zgo d 51 22 L st S Q ↔ (zpi st False fun y t => zpi t False fun x t => Zgo d 51 23 L (zi (zand x y) :: t) S Q) := Zgo_iff (i := .iand) (len := 1) (a := 0) (b := 0) (c := 0) (p := 0) rfl
theorem zg_51_23 : Zgo d 51 23 L st S Q ↔ (zpi st False fun x t => if zw x = zw 0 then Zgo d 51 26 L t S Q else Zgo d 51 30 L t S Q) := Zgo_iff (i := .ifCond .ne 7) (len := 3) (a := 0) (b := 0) (c := 0) (p := 0) rfl
theorem zg_51_26 : Zgo d 51 26 L st S Q ↔ (Zgo d 51 27 L (zi 1 :: st) S Q) := Zgo_iff (i := .iconst 1) (len := 1) (a := 0) (b := 0) (c := 0) (p := 0) rfl
theorem zg_51_27 : Zgo d 51 27 L st S Q ↔ (Zgo d 51 31 L st S Q) := Zgo_iff (i := .goto 4) (len := 3) (a := 0) (b := 0) (c := 0) (p := 0) rfl
theorem zg_51_30 : Zgo d 51 30 L st S Q ↔ (Zgo d 51 31 L (zi 0 :: st) S Q) := Zgo_iff (i := .iconst 0) (len := 1) (a := 0) (b := 0) (c := 0) (p := 0) rfl
theorem zg_51_31 : Zgo d 51 31 L st S Q ↔ (zpi st False fun x t => zem t False (zok 1 x False (Q (some (zi x)) S))) := Zgo_iff (i := .ireturn) (len := 1) (a := 0) (b := 0) (c := 0) (p := 0) rfl
/-- LeavingMachine$Checker.tagsOfBlock(LLeavingMachine$Block;)I -/
theorem zg_52_0 : Zgo d 52 0 L st S Q ↔ (Zgo d 52 1 L (zi 0 :: st) S Q) := Zgo_iff (i := .iconst 0) (len := 1) (a := 0) (b := 0) (c := 0) (p := 0) rfl
theorem zg_52_1 : Zgo d 52 1 L st S Q ↔ (zpi st False fun x t => Zgo d 52 2 (zst L 2 (some (zi x))) t S Q) := Zgo_iff (i := .istore_n 2) (len := 1) (a := 0) (b := 0) (c := 0) (p := 0) rfl
theorem zg_52_2 : Zgo d 52 2 L st S Q ↔ (zlda L 1 False fun r => Zgo d 52 3 L (zq r :: st) S Q) := Zgo_iff (i := .aload_n 1) (len := 1) (a := 0) (b := 0) (c := 0) (p := 0) rfl
theorem zg_52_3 : Zgo d 52 3 L st S Q ↔ (zpa st False fun x t => if x = none then Zgo d 52 31 L t S Q else Zgo d 52 6 L t S Q) := Zgo_iff (i := .ifnull 28) (len := 3) (a := 0) (b := 0) (c := 0) (p := 0) rfl
theorem zg_52_6 : Zgo d 52 6 L st S Q ↔ (zlda L 1 False fun r => Zgo d 52 7 L (zq r :: st) S Q) := Zgo_iff (i := .aload_n 1) (len := 1) (a := 0) (b := 0) (c := 0) (p := 0) rfl
theorem zg_52_7 : Zgo d 52 7 L st S Q ↔ (zpa st False fun r t => zde r 3 False fun o => Zgo d 52 10 L (zq (S.2.1 3 o 3) :: t) S Q) := Zgo_iff (i := .getfield 118) (len := 3) (a := 3) (b := 3) (c := 3) (p := 1191) rfl
theorem zg_52_10 : Zgo d 52 10 L st S Q ↔ (zpa st False fun x t => Zgo d 52 11 (zst L 3 (some (zq x))) t S Q) := Zgo_iff (i := .astore_n 3) (len := 1) (a := 0) (b := 0) (c := 0) (p := 0) rfl
theorem zg_52_11 : Zgo d 52 11 L st S Q ↔ (zlda L 3 False fun r => Zgo d 52 12 L (zq r :: st) S Q) := Zgo_iff (i := .aload_n 3) (len := 1) (a := 0) (b := 0) (c := 0) (p := 0) rfl
theorem zg_52_12 : Zgo d 52 12 L st S Q ↔ (zpa st False fun x t => if x = none then Zgo d 52 31 L t S Q else Zgo d 52 15 L t S Q) := Zgo_iff (i := .ifnull 19) (len := 3) (a := 0) (b := 0) (c := 0) (p := 0) rfl
theorem zg_52_15 : Zgo d 52 15 L st S Q ↔ (zldi L 2 False fun x => Zgo d 52 16 L (zi x :: st) S Q) := Zgo_iff (i := .iload_n 2) (len := 1) (a := 0) (b := 0) (c := 0) (p := 0) rfl
theorem zg_52_16 : Zgo d 52 16 L st S Q ↔ (zlda L 0 False fun r => Zgo d 52 17 L (zq r :: st) S Q) := Zgo_iff (i := .aload_n 0) (len := 1) (a := 0) (b := 0) (c := 0) (p := 0) rfl
theorem zg_52_17 : Zgo d 52 17 L st S Q ↔ (zlda L 3 False fun r => Zgo d 52 18 L (zq r :: st) S Q) := Zgo_iff (i := .aload_n 3) (len := 1) (a := 0) (b := 0) (c := 0) (p := 0) rfl
theorem zg_52_18 : Zgo d 52 18 L st S Q ↔ (zinv 2 st False fun as t => zrec as 9 False (zCp d 53 as S fun r S2 => Zgo d 52 21 L (r.toList ++ t) S2 Q)) := Zgo_iff (i := .invokevirtual 121) (len := 3) (a := 53) (b := 2) (c := 0) (p := 3140) rfl
theorem zg_52_21 : Zgo d 52 21 L st S Q ↔ (zpi st False fun y t => zpi t False fun x t => Zgo d 52 22 L (zi (zor x y) :: t) S Q) := Zgo_iff (i := .ior) (len := 1) (a := 0) (b := 0) (c := 0) (p := 0) rfl
theorem zg_52_22 : Zgo d 52 22 L st S Q ↔ (zpi st False fun x t => Zgo d 52 23 (zst L 2 (some (zi x))) t S Q) := Zgo_iff (i := .istore_n 2) (len := 1) (a := 0) (b := 0) (c := 0) (p := 0) rfl
theorem zg_52_23 : Zgo d 52 23 L st S Q ↔ (zlda L 3 False fun r => Zgo d 52 24 L (zq r :: st) S Q) := Zgo_iff (i := .aload_n 3) (len := 1) (a := 0) (b := 0) (c := 0) (p := 0) rfl
theorem zg_52_24 : Zgo d 52 24 L st S Q ↔ (zpa st False fun r t => zde r 4 False fun o => Zgo d 52 27 L (zq (S.2.1 4 o 6) :: t) S Q) := Zgo_iff (i := .getfield 124) (len := 3) (a := 4) (b := 6) (c := 3) (p := 1138) rfl
theorem zg_52_27 : Zgo d 52 27 L st S Q ↔ (zpa st False fun x t => Zgo d 52 28 (zst L 3 (some (zq x))) t S Q) := Zgo_iff (i := .astore_n 3) (len := 1) (a := 0) (b := 0) (c := 0) (p := 0) rfl
theorem zg_52_28 : Zgo d 52 28 L st S Q ↔ (Zgo d 52 11 L st S Q) := Zgo_iff (i := .goto (-17)) (len := 3) (a := 0) (b := 0) (c := 0) (p := 0) rfl
theorem zg_52_31 : Zgo d 52 31 L st S Q ↔ (zldi L 2 False fun x => Zgo d 52 32 L (zi x :: st) S Q) := Zgo_iff (i := .iload_n 2) (len := 1) (a := 0) (b := 0) (c := 0) (p := 0) rfl
theorem zg_52_32 : Zgo d 52 32 L st S Q ↔ (zpi st False fun x t => zem t False (Q (some (zi x)) S)) := Zgo_iff (i := .ireturn) (len := 1) (a := 0) (b := 0) (c := 0) (p := 0) rfl
/-- LeavingMachine$Checker.tagsOfStatement(LLeavingMachine$Statement;)I -/
theorem zg_53_0 : Zgo d 53 0 L st S Q ↔ (zlda L 1 False fun r => Zgo d 53 1 L (zq r :: st) S Q) := Zgo_iff (i := .aload_n 1) (len := 1) (a := 0) (b := 0) (c := 0) (p := 0) rfl
theorem zg_53_1 : Zgo d 53 1 L st S Q ↔ (zpa st False fun r t => zde r 4 False fun o => Zgo d 53 4 L (zi (S.1 4 o 0) :: t) S Q) := Zgo_iff (i := .getfield 39) (len := 3) (a := 4) (b := 0) (c := 2) (p := 1120) rfl
theorem zg_53_64 : Zgo d 53 64 L st S Q ↔ (Zgo d 53 65 L (zi 1 :: st) S Q) := Zgo_iff (i := .iconst 1) (len := 1) (a := 0) (b := 0) (c := 0) (p := 0) rfl
theorem zg_53_65 : Zgo d 53 65 L st S Q ↔ (zlda L 1 False fun r => Zgo d 53 66 L (zq r :: st) S Q) := Zgo_iff (i := .aload_n 1) (len := 1) (a := 0) (b := 0) (c := 0) (p := 0) rfl
theorem zg_53_66 : Zgo d 53 66 L st S Q ↔ (zpa st False fun r t => zde r 4 False fun o => Zgo d 53 69 L (zi (S.1 4 o 1) :: t) S Q) := Zgo_iff (i := .getfield 45) (len := 3) (a := 4) (b := 1) (c := 0) (p := 1124) rfl
theorem zg_53_69 : Zgo d 53 69 L st S Q ↔ (zpi st False fun y t => zpi t False fun x t => Zgo d 53 70 L (zi (zshl x y) :: t) S Q) := Zgo_iff (i := .ishl) (len := 1) (a := 0) (b := 0) (c := 0) (p := 0) rfl
theorem zg_53_70 : Zgo d 53 70 L st S Q ↔ (zpi st False fun x t => zem t False (Q (some (zi x)) S)) := Zgo_iff (i := .ireturn) (len := 1) (a := 0) (b := 0) (c := 0) (p := 0) rfl
theorem zg_53_71 : Zgo d 53 71 L st S Q ↔ (Zgo d 53 72 L (zi 1 :: st) S Q) := Zgo_iff (i := .iconst 1) (len := 1) (a := 0) (b := 0) (c := 0) (p := 0) rfl
theorem zg_53_72 : Zgo d 53 72 L st S Q ↔ (zlda L 1 False fun r => Zgo d 53 73 L (zq r :: st) S Q) := Zgo_iff (i := .aload_n 1) (len := 1) (a := 0) (b := 0) (c := 0) (p := 0) rfl
theorem zg_53_73 : Zgo d 53 73 L st S Q ↔ (zpa st False fun r t => zde r 4 False fun o => Zgo d 53 76 L (zq (S.2.1 4 o 4) :: t) S Q) := Zgo_iff (i := .getfield 78) (len := 3) (a := 4) (b := 4) (c := 3) (p := 1132) rfl
theorem zg_53_76 : Zgo d 53 76 L st S Q ↔ (zpa st False fun r t => zde r 3 False fun o => Zgo d 53 79 L (zi (S.1 3 o 2) :: t) S Q) := Zgo_iff (i := .getfield 87) (len := 3) (a := 3) (b := 2) (c := 0) (p := 1186) rfl
theorem zg_53_79 : Zgo d 53 79 L st S Q ↔ (zpi st False fun y t => zpi t False fun x t => Zgo d 53 80 L (zi (zshl x y) :: t) S Q) := Zgo_iff (i := .ishl) (len := 1) (a := 0) (b := 0) (c := 0) (p := 0) rfl
theorem zg_53_80 : Zgo d 53 80 L st S Q ↔ (zpi st False fun x t => zem t False (Q (some (zi x)) S)) := Zgo_iff (i := .ireturn) (len := 1) (a := 0) (b := 0) (c := 0) (p := 0) rfl
theorem zg_53_81 : Zgo d 53 81 L st S Q ↔ (zlda L 1 False fun r => Zgo d 53 82 L (zq r :: st) S Q) := Zgo_iff (i := .aload_n 1) (len := 1) (a := 0) (b := 0) (c := 0) (p := 0) rfl
theorem zg_53_82 : Zgo d 53 82 L st S Q ↔ (zpa st False fun r t => zde r 4 False fun o => Zgo d 53 85 L (zi (S.1 4 o 10) :: t) S Q) := Zgo_iff (i := .getfield 64) (len := 3) (a := 4) (b := 10) (c := 0) (p := 1151) rfl
theorem zg_53_85 : Zgo d 53 85 L st S Q ↔ (zpi st False fun x t => zem t False (Q (some (zi x)) S)) := Zgo_iff (i := .ireturn) (len := 1) (a := 0) (b := 0) (c := 0) (p := 0) rfl
theorem zg_53_86 : Zgo d 53 86 L st S Q ↔ (zlda L 0 False fun r => Zgo d 53 87 L (zq r :: st) S Q) := Zgo_iff (i := .aload_n 0) (len := 1) (a := 0) (b := 0) (c := 0) (p := 0) rfl
theorem zg_53_87 : Zgo d 53 87 L st S Q ↔ (zlda L 1 False fun r => Zgo d 53 88 L (zq r :: st) S Q) := Zgo_iff (i := .aload_n 1) (len := 1) (a := 0) (b := 0) (c := 0) (p := 0) rfl
theorem zg_53_88 : Zgo d 53 88 L st S Q ↔ (zpa st False fun r t => zde r 4 False fun o => Zgo d 53 91 L (zq (S.2.1 4 o 7) :: t) S Q) := Zgo_iff (i := .getfield 58) (len := 3) (a := 4) (b := 7) (c := 3) (p := 1139) rfl
theorem zg_53_91 : Zgo d 53 91 L st S Q ↔ (zinv 2 st False fun as t => zrec as 9 False (zCp d 52 as S fun r S2 => Zgo d 53 94 L (r.toList ++ t) S2 Q)) := Zgo_iff (i := .invokevirtual 111) (len := 3) (a := 52) (b := 2) (c := 0) (p := 3136) rfl
theorem zg_53_94 : Zgo d 53 94 L st S Q ↔ (zlda L 0 False fun r => Zgo d 53 95 L (zq r :: st) S Q) := Zgo_iff (i := .aload_n 0) (len := 1) (a := 0) (b := 0) (c := 0) (p := 0) rfl
theorem zg_53_95 : Zgo d 53 95 L st S Q ↔ (zlda L 1 False fun r => Zgo d 53 96 L (zq r :: st) S Q) := Zgo_iff (i := .aload_n 1) (len := 1) (a := 0) (b := 0) (c := 0) (p := 0) rfl
theorem zg_53_96 : Zgo d 53 96 L st S Q ↔ (zpa st False fun r t => zde r 4 False fun o => Zgo d 53 99 L (zq (S.2.1 4 o 8) :: t) S Q) := Zgo_iff (i := .getfield 127) (len := 3) (a := 4) (b := 8) (c := 3) (p := 1146) rfl
theorem zg_53_99 : Zgo d 53 99 L st S Q ↔ (zinv 2 st False fun as t => zrec as 9 False (zCp d 52 as S fun r S2 => Zgo d 53 102 L (r.toList ++ t) S2 Q)) := Zgo_iff (i := .invokevirtual 111) (len := 3) (a := 52) (b := 2) (c := 0) (p := 3136) rfl
theorem zg_53_102 : Zgo d 53 102 L st S Q ↔ (zpi st False fun y t => zpi t False fun x t => Zgo d 53 103 L (zi (zor x y) :: t) S Q) := Zgo_iff (i := .ior) (len := 1) (a := 0) (b := 0) (c := 0) (p := 0) rfl
theorem zg_53_103 : Zgo d 53 103 L st S Q ↔ (zpi st False fun x t => zem t False (Q (some (zi x)) S)) := Zgo_iff (i := .ireturn) (len := 1) (a := 0) (b := 0) (c := 0) (p := 0) rfl
theorem zg_53_104 : Zgo d 53 104 L st S Q ↔ (zlda L 0 False fun r => Zgo d 53 105 L (zq r :: st) S Q) := Zgo_iff (i := .aload_n 0) (len := 1) (a := 0) (b := 0) (c := 0) (p := 0) rfl
theorem zg_53_105 : Zgo d 53 105 L st S Q ↔ (zlda L 1 False fun r => Zgo d 53 106 L (zq r :: st) S Q) := Zgo_iff (i := .aload_n 1) (len := 1) (a := 0) (b := 0) (c := 0) (p := 0) rfl
theorem zg_53_106 : Zgo d 53 106 L st S Q ↔ (zinv 2 st False fun as t => zrec as 9 False (zCp d 54 as S fun r S2 => Zgo d 53 109 L (r.toList ++ t) S2 Q)) := Zgo_iff (i := .invokevirtual 130) (len := 3) (a := 54) (b := 2) (c := 0) (p := 3144) rfl
theorem zg_53_109 : Zgo d 53 109 L st S Q ↔ (zpi st False fun x t => zem t False (Q (some (zi x)) S)) := Zgo_iff (i := .ireturn) (len := 1) (a := 0) (b := 0) (c := 0) (p := 0) rfl
theorem zg_53_110 : Zgo d 53 110 L st S Q ↔ (Zgo d 53 111 L (zi 0 :: st) S Q) := Zgo_iff (i := .iconst 0) (len := 1) (a := 0) (b := 0) (c := 0) (p := 0) rfl
theorem zg_53_111 : Zgo d 53 111 L st S Q ↔ (zpi st False fun x t => zem t False (Q (some (zi x)) S)) := Zgo_iff (i := .ireturn) (len := 1) (a := 0) (b := 0) (c := 0) (p := 0) rfl
/-- LeavingMachine$Checker.tagsOfTry(LLeavingMachine$Statement;)I -/
theorem zg_54_0 : Zgo d 54 0 L st S Q ↔ (zlda L 0 False fun r => Zgo d 54 1 L (zq r :: st) S Q) := Zgo_iff (i := .aload_n 0) (len := 1) (a := 0) (b := 0) (c := 0) (p := 0) rfl
theorem zg_54_1 : Zgo d 54 1 L st S Q ↔ (zlda L 1 False fun r => Zgo d 54 2 L (zq r :: st) S Q) := Zgo_iff (i := .aload_n 1) (len := 1) (a := 0) (b := 0) (c := 0) (p := 0) rfl
theorem zg_54_2 : Zgo d 54 2 L st S Q ↔ (zpa st False fun r t => zde r 4 False fun o => Zgo d 54 5 L (zq (S.2.1 4 o 7) :: t) S Q) := Zgo_iff (i := .getfield 58) (len := 3) (a := 4) (b := 7) (c := 3) (p := 1139) rfl
theorem zg_54_5 : Zgo d 54 5 L st S Q ↔ (zinv 2 st False fun as t => zrec as 9 False (zCp d 52 as S fun r S2 => Zgo d 54 8 L (r.toList ++ t) S2 Q)) := Zgo_iff (i := .invokevirtual 111) (len := 3) (a := 52) (b := 2) (c := 0) (p := 3136) rfl
theorem zg_54_8 : Zgo d 54 8 L st S Q ↔ (zpi st False fun x t => Zgo d 54 9 (zst L 2 (some (zi x))) t S Q) := Zgo_iff (i := .istore_n 2) (len := 1) (a := 0) (b := 0) (c := 0) (p := 0) rfl
theorem zg_54_9 : Zgo d 54 9 L st S Q ↔ (Zgo d 54 10 L (zi 0 :: st) S Q) := Zgo_iff (i := .iconst 0) (len := 1) (a := 0) (b := 0) (c := 0) (p := 0) rfl
theorem zg_54_10 : Zgo d 54 10 L st S Q ↔ (zpi st False fun x t => Zgo d 54 11 (zst L 3 (some (zi x))) t S Q) := Zgo_iff (i := .istore_n 3) (len := 1) (a := 0) (b := 0) (c := 0) (p := 0) rfl
theorem zg_54_11 : Zgo d 54 11 L st S Q ↔ (zlda L 0 False fun r => Zgo d 54 12 L (zq r :: st) S Q) := Zgo_iff (i := .aload_n 0) (len := 1) (a := 0) (b := 0) (c := 0) (p := 0) rfl
theorem zg_54_12 : Zgo d 54 12 L st S Q ↔ (zlda L 1 False fun r => Zgo d 54 13 L (zq r :: st) S Q) := Zgo_iff (i := .aload_n 1) (len := 1) (a := 0) (b := 0) (c := 0) (p := 0) rfl
theorem zg_54_13 : Zgo d 54 13 L st S Q ↔ (zpa st False fun r t => zde r 4 False fun o => Zgo d 54 16 L (zq (S.2.1 4 o 8) :: t) S Q) := Zgo_iff (i := .getfield 127) (len := 3) (a := 4) (b := 8) (c := 3) (p := 1146) rfl
theorem zg_54_16 : Zgo d 54 16 L st S Q ↔ (zinv 2 st False fun as t => zrec as 9 False (zCp d 52 as S fun r S2 => Zgo d 54 19 L (r.toList ++ t) S2 Q)) := Zgo_iff (i := .invokevirtual 111) (len := 3) (a := 52) (b := 2) (c := 0) (p := 3136) rfl
theorem zg_54_19 : Zgo d 54 19 L st S Q ↔ (zpi st False fun x t => Zgo d 54 21 (zst L 4 (some (zi x))) t S Q) := Zgo_iff (i := .istore 4) (len := 2) (a := 0) (b := 0) (c := 0) (p := 0) rfl
theorem zg_54_21 : Zgo d 54 21 L st S Q ↔ (zlda L 1 False fun r => Zgo d 54 22 L (zq r :: st) S Q) := Zgo_iff (i := .aload_n 1) (len := 1) (a := 0) (b := 0) (c := 0) (p := 0) rfl
theorem zg_54_22 : Zgo d 54 22 L st S Q ↔ (zpa st False fun r t => zde r 4 False fun o => Zgo d 54 25 L (zq (S.2.1 4 o 9) :: t) S Q) := Zgo_iff (i := .getfield 133) (len := 3) (a := 4) (b := 9) (c := 3) (p := 1150) rfl
theorem zg_54_25 : Zgo d 54 25 L st S Q ↔ (zpa st False fun x t => Zgo d 54 27 (zst L 5 (some (zq x))) t S Q) := Zgo_iff (i := .astore 5) (len := 2) (a := 0) (b := 0) (c := 0) (p := 0) rfl
theorem zg_54_27 : Zgo d 54 27 L st S Q ↔ (zlda L 5 False fun r => Zgo d 54 29 L (zq r :: st) S Q) := Zgo_iff (i := .aload 5) (len := 2) (a := 0) (b := 0) (c := 0) (p := 0) rfl
theorem zg_54_29 : Zgo d 54 29 L st S Q ↔ (zpa st False fun x t => if x = none then Zgo d 54 66 L t S Q else Zgo d 54 32 L t S Q) := Zgo_iff (i := .ifnull 37) (len := 3) (a := 0) (b := 0) (c := 0) (p := 0) rfl
theorem zg_54_32 : Zgo d 54 32 L st S Q ↔ (zldi L 3 False fun x => Zgo d 54 33 L (zi x :: st) S Q) := Zgo_iff (i := .iload_n 3) (len := 1) (a := 0) (b := 0) (c := 0) (p := 0) rfl
theorem zg_54_33 : Zgo d 54 33 L st S Q ↔ (Zgo d 54 34 L (zi 1 :: st) S Q) := Zgo_iff (i := .iconst 1) (len := 1) (a := 0) (b := 0) (c := 0) (p := 0) rfl
theorem zg_54_34 : Zgo d 54 34 L st S Q ↔ (zlda L 5 False fun r => Zgo d 54 36 L (zq r :: st) S Q) := Zgo_iff (i := .aload 5) (len := 2) (a := 0) (b := 0) (c := 0) (p := 0) rfl
theorem zg_54_36 : Zgo d 54 36 L st S Q ↔ (zpa st False fun r t => zde r 5 False fun o => Zgo d 54 39 L (zi (S.1 5 o 0) :: t) S Q) := Zgo_iff (i := .getfield 137) (len := 3) (a := 5) (b := 0) (c := 0) (p := 1211) rfl
theorem zg_54_39 : Zgo d 54 39 L st S Q ↔ (zpi st False fun y t => zpi t False fun x t => Zgo d 54 40 L (zi (zshl x y) :: t) S Q) := Zgo_iff (i := .ishl) (len := 1) (a := 0) (b := 0) (c := 0) (p := 0) rfl
theorem zg_54_40 : Zgo d 54 40 L st S Q ↔ (zpi st False fun y t => zpi t False fun x t => Zgo d 54 41 L (zi (zor x y) :: t) S Q) := Zgo_iff (i := .ior) (len := 1) (a := 0) (b := 0) (c := 0) (p := 0) rfl
theorem zg_54_41 : Zgo d 54 41 L st S Q ↔ (zpi st False fun x t => Zgo d 54 42 (zst L 3 (some (zi x))) t S Q) := Zgo_iff (i := .istore_n 3) (len := 1) (a := 0) (b := 0) (c := 0) (p := 0) rfl
theorem zg_54_42 : Zgo d 54 42 L st S Q ↔ (zldi L 4 False fun x => Zgo d 54 44 L (zi x :: st) S Q) := Zgo_iff (i := .iload 4) (len := 2) (a := 0) (b := 0) (c := 0) (p := 0) rfl
theorem zg_54_44 : Zgo d 54 44 L st S Q ↔ (zlda L 0 False fun r => Zgo d 54 45 L (zq r :: st) S Q) := Zgo_iff (i := .aload_n 0) (len := 1) (a := 0) (b := 0) (c := 0) (p := 0) rfl
theorem zg_54_45 : Zgo d 54 45 L st S Q ↔ (zlda L 5 False fun r => Zgo d 54 47 L (zq r :: st) S Q) := Zgo_iff (i := .aload 5) (len := 2) (a := 0) (b := 0) (c := 0) (p := 0) rfl
theorem zg_54_47 : Zgo d 54 47 L st S Q ↔ (zpa st False fun r t => zde r 5 False fun o => Zgo d 54 50 L (zq (S.2.1 5 o 2) :: t) S Q) := Zgo_iff (i := .getfield 142) (len := 3) (a := 5) (b := 2) (c := 3) (p := 1214) rfl
theorem zg_54_50 : Zgo d 54 50 L st S Q ↔ (zinv 2 st False fun as t => zrec as 9 False (zCp d 52 as S fun r S2 => Zgo d 54 53 L (r.toList ++ t) S2 Q)) := Zgo_iff (i := .invokevirtual 111) (len := 3) (a := 52) (b := 2) (c := 0) (p := 3136) rfl
theorem zg_54_53 : Zgo d 54 53 L st S Q ↔ (zpi st False fun y t => zpi t False fun x t => Zgo d 54 54 L (zi (zor x y) :: t) S Q) := Zgo_iff (i := .ior) (len := 1) (a := 0) (b := 0) (c := 0) (p := 0) rfl
theorem zg_54_54 : Zgo d 54 54 L st S Q ↔ (zpi st False fun x t => Zgo d 54 56 (zst L 4 (some (zi x))) t S Q) := Zgo_iff (i := .istore 4) (len := 2) (a := 0) (b := 0) (c := 0) (p := 0) rfl
theorem zg_54_56 : Zgo d 54 56 L st S Q ↔ (zlda L 5 False fun r => Zgo d 54 58 L (zq r :: st) S Q) := Zgo_iff (i := .aload 5) (len := 2) (a := 0) (b := 0) (c := 0) (p := 0) rfl
theorem zg_54_58 : Zgo d 54 58 L st S Q ↔ (zpa st False fun r t => zde r 5 False fun o => Zgo d 54 61 L (zq (S.2.1 5 o 3) :: t) S Q) := Zgo_iff (i := .getfield 143) (len := 3) (a := 5) (b := 3) (c := 3) (p := 1219) rfl
theorem zg_54_61 : Zgo d 54 61 L st S Q ↔ (zpa st False fun x t => Zgo d 54 63 (zst L 5 (some (zq x))) t S Q) := Zgo_iff (i := .astore 5) (len := 2) (a := 0) (b := 0) (c := 0) (p := 0) rfl
theorem zg_54_63 : Zgo d 54 63 L st S Q ↔ (Zgo d 54 27 L st S Q) := Zgo_iff (i := .goto (-36)) (len := 3) (a := 0) (b := 0) (c := 0) (p := 0) rfl
theorem zg_54_66 : Zgo d 54 66 L st S Q ↔ (zldi L 3 False fun x => Zgo d 54 67 L (zi x :: st) S Q) := Zgo_iff (i := .iload_n 3) (len := 1) (a := 0) (b := 0) (c := 0) (p := 0) rfl
theorem zg_54_67 : Zgo d 54 67 L st S Q ↔ (zldi L 2 False fun x => Zgo d 54 68 L (zi x :: st) S Q) := Zgo_iff (i := .iload_n 2) (len := 1) (a := 0) (b := 0) (c := 0) (p := 0) rfl
theorem zg_54_68 : Zgo d 54 68 L st S Q ↔ (Zgo d 54 69 L (zi (-1) :: st) S Q) := Zgo_iff (i := .iconst (-1)) (len := 1) (a := 0) (b := 0) (c := 0) (p := 0) rfl
theorem zg_54_69 : Zgo d 54 69 L st S Q ↔ (zpi st False fun y t => zpi t False fun x t => Zgo d 54 70 L (zi (zxor x y) :: t) S Q) := Zgo_iff (i := .ixor) (len := 1) (a := 0) (b := 0) (c := 0) (p := 0) rfl
theorem zg_54_70 : Zgo d 54 70 L st S Q ↔ (zpi st False fun y t => zpi t False fun x t => Zgo d 54 71 L (zi (zand x y) :: t) S Q) := Zgo_iff (i := .iand) (len := 1) (a := 0) (b := 0) (c := 0) (p := 0) rfl
theorem zg_54_71 : Zgo d 54 71 L st S Q ↔ (zpi st False fun x t => if zw x = zw 0 then Zgo d 54 79 L t S Q else Zgo d 54 74 L t S Q) := Zgo_iff (i := .ifCond .eq 8) (len := 3) (a := 0) (b := 0) (c := 0) (p := 0) rfl
theorem zg_54_74 : Zgo d 54 74 L st S Q ↔ (zlda L 0 False fun r => Zgo d 54 75 L (zq r :: st) S Q) := Zgo_iff (i := .aload_n 0) (len := 1) (a := 0) (b := 0) (c := 0) (p := 0) rfl
theorem zg_54_75 : Zgo d 54 75 L st S Q ↔ (Zgo d 54 76 L (zi 1 :: st) S Q) := Zgo_iff (i := .iconst 1) (len := 1) (a := 0) (b := 0) (c := 0) (p := 0) rfl
theorem zg_54_76 : Zgo d 54 76 L st S Q ↔ (zpi st False fun v t => zpa t False fun r t => zde r 9 False fun o => zok 1 v False (Zgo d 54 79 L t (zsI S.1 9 o 1 v, S.2) Q)) := Zgo_iff (i := .putfield 100) (len := 3) (a := 9) (b := 1) (c := 1) (p := 2059) rfl
theorem zg_54_79 : Zgo d 54 79 L st S Q ↔ (zldi L 2 False fun x => Zgo d 54 80 L (zi x :: st) S Q) := Zgo_iff (i := .iload_n 2) (len := 1) (a := 0) (b := 0) (c := 0) (p := 0) rfl
theorem zg_54_80 : Zgo d 54 80 L st S Q ↔ (zldi L 3 False fun x => Zgo d 54 81 L (zi x :: st) S Q) := Zgo_iff (i := .iload_n 3) (len := 1) (a := 0) (b := 0) (c := 0) (p := 0) rfl
theorem zg_54_81 : Zgo d 54 81 L st S Q ↔ (Zgo d 54 82 L (zi (-1) :: st) S Q) := Zgo_iff (i := .iconst (-1)) (len := 1) (a := 0) (b := 0) (c := 0) (p := 0) rfl
theorem zg_54_82 : Zgo d 54 82 L st S Q ↔ (zpi st False fun y t => zpi t False fun x t => Zgo d 54 83 L (zi (zxor x y) :: t) S Q) := Zgo_iff (i := .ixor) (len := 1) (a := 0) (b := 0) (c := 0) (p := 0) rfl
theorem zg_54_83 : Zgo d 54 83 L st S Q ↔ (zpi st False fun y t => zpi t False fun x t => Zgo d 54 84 L (zi (zand x y) :: t) S Q) := Zgo_iff (i := .iand) (len := 1) (a := 0) (b := 0) (c := 0) (p := 0) rfl
theorem zg_54_84 : Zgo d 54 84 L st S Q ↔ (zldi L 4 False fun x => Zgo d 54 86 L (zi x :: st) S Q) := Zgo_iff (i := .iload 4) (len := 2) (a := 0) (b := 0) (c := 0) (p := 0) rfl
theorem zg_54_86 : Zgo d 54 86 L st S Q ↔ (zpi st False fun y t => zpi t False fun x t => Zgo d 54 87 L (zi (zor x y) :: t) S Q) := Zgo_iff (i := .ior) (len := 1) (a := 0) (b := 0) (c := 0) (p := 0) rfl
theorem zg_54_87 : Zgo d 54 87 L st S Q ↔ (zpi st False fun x t => zem t False (Q (some (zi x)) S)) := Zgo_iff (i := .ireturn) (len := 1) (a := 0) (b := 0) (c := 0) (p := 0) rfl
/-- LeavingMachine.look(I)I -/
theorem zg_55_0 : Zgo d 55 0 L st S Q ↔ (zldi L 1 False fun x => Zgo d 55 1 L (zi x :: st) S Q) := Zgo_iff (i := .iload_n 1) (len := 1) (a := 0) (b := 0) (c := 0) (p := 0) rfl
theorem zg_55_48 : Zgo d 55 48 L st S Q ↔ (zlda L 0 False fun r => Zgo d 55 49 L (zq r :: st) S Q) := Zgo_iff (i := .aload_n 0) (len := 1) (a := 0) (b := 0) (c := 0) (p := 0) rfl
theorem zg_55_49 : Zgo d 55 49 L st S Q ↔ (zpa st False fun r t => zde r 0 False fun o => Zgo d 55 52 L (zq (S.2.1 0 o 0) :: t) S Q) := Zgo_iff (i := .getfield 12) (len := 3) (a := 0) (b := 0) (c := 3) (p := 2114) rfl
theorem zg_55_52 : Zgo d 55 52 L st S Q ↔ (zpa st False fun r t => zde r 1 False fun o => Zgo d 55 55 L (zi (S.1 1 o 1) :: t) S Q) := Zgo_iff (i := .getfield 52) (len := 3) (a := 1) (b := 1) (c := 0) (p := 1045) rfl
theorem zg_55_55 : Zgo d 55 55 L st S Q ↔ (zpi st False fun x t => zem t False (Q (some (zi x)) S)) := Zgo_iff (i := .ireturn) (len := 1) (a := 0) (b := 0) (c := 0) (p := 0) rfl
theorem zg_55_56 : Zgo d 55 56 L st S Q ↔ (zlda L 0 False fun r => Zgo d 55 57 L (zq r :: st) S Q) := Zgo_iff (i := .aload_n 0) (len := 1) (a := 0) (b := 0) (c := 0) (p := 0) rfl
theorem zg_55_57 : Zgo d 55 57 L st S Q ↔ (zpa st False fun r t => zde r 0 False fun o => Zgo d 55 60 L (zq (S.2.1 0 o 1) :: t) S Q) := Zgo_iff (i := .getfield 19) (len := 3) (a := 0) (b := 1) (c := 3) (p := 2115) rfl
theorem zg_55_60 : Zgo d 55 60 L st S Q ↔ (zpa st False fun r t => zde r 7 False fun o => Zgo d 55 63 L (zi (S.1 7 o 6) :: t) S Q) := Zgo_iff (i := .getfield 67) (len := 3) (a := 7) (b := 6) (c := 1) (p := 2008) rfl
theorem zg_55_63 : Zgo d 55 63 L st S Q ↔ (zpi st False fun x t => if zw x = zw 0 then Zgo d 55 70 L t S Q else Zgo d 55 66 L t S Q) := Zgo_iff (i := .ifCond .eq 7) (len := 3) (a := 0) (b := 0) (c := 0) (p := 0) rfl
theorem zg_55_66 : Zgo d 55 66 L st S Q ↔ (Zgo d 55 67 L (zi 1 :: st) S Q) := Zgo_iff (i := .iconst 1) (len := 1) (a := 0) (b := 0) (c := 0) (p := 0) rfl
theorem zg_55_67 : Zgo d 55 67 L st S Q ↔ (Zgo d 55 71 L st S Q) := Zgo_iff (i := .goto 4) (len := 3) (a := 0) (b := 0) (c := 0) (p := 0) rfl
theorem zg_55_70 : Zgo d 55 70 L st S Q ↔ (Zgo d 55 71 L (zi 0 :: st) S Q) := Zgo_iff (i := .iconst 0) (len := 1) (a := 0) (b := 0) (c := 0) (p := 0) rfl
theorem zg_55_71 : Zgo d 55 71 L st S Q ↔ (zpi st False fun x t => zem t False (Q (some (zi x)) S)) := Zgo_iff (i := .ireturn) (len := 1) (a := 0) (b := 0) (c := 0) (p := 0) rfl
theorem zg_55_72 : Zgo d 55 72 L st S Q ↔ (zlda L 0 False fun r => Zgo d 55 73 L (zq r :: st) S Q) := Zgo_iff (i := .aload_n 0) (len := 1) (a := 0) (b := 0) (c := 0) (p := 0) rfl
theorem zg_55_73 : Zgo d 55 73 L st S Q ↔ (zpa st False fun r t => zde r 0 False fun o => Zgo d 55 76 L (zq (S.2.1 0 o 1) :: t) S Q) := Zgo_iff (i := .getfield 19) (len := 3) (a := 0) (b := 1) (c := 3) (p := 2115) rfl
theorem zg_55_76 : Zgo d 55 76 L st S Q ↔ (zpa st False fun r t => zde r 7 False fun o => Zgo d 55 79 L (zi (S.1 7 o 4) :: t) S Q) := Zgo_iff (i := .getfield 118) (len := 3) (a := 7) (b := 4) (c := 0) (p := 2003) rfl
theorem zg_55_79 : Zgo d 55 79 L st S Q ↔ (zpi st False fun x t => zem t False (Q (some (zi x)) S)) := Zgo_iff (i := .ireturn) (len := 1) (a := 0) (b := 0) (c := 0) (p := 0) rfl
theorem zg_55_80 : Zgo d 55 80 L st S Q ↔ (zlda L 0 False fun r => Zgo d 55 81 L (zq r :: st) S Q) := Zgo_iff (i := .aload_n 0) (len := 1) (a := 0) (b := 0) (c := 0) (p := 0) rfl
theorem zg_55_81 : Zgo d 55 81 L st S Q ↔ (zpa st False fun r t => zde r 0 False fun o => Zgo d 55 84 L (zq (S.2.1 0 o 1) :: t) S Q) := Zgo_iff (i := .getfield 19) (len := 3) (a := 0) (b := 1) (c := 3) (p := 2115) rfl
theorem zg_55_84 : Zgo d 55 84 L st S Q ↔ (zpa st False fun r t => zde r 7 False fun o => Zgo d 55 87 L (zi (S.1 7 o 5) :: t) S Q) := Zgo_iff (i := .getfield 132) (len := 3) (a := 7) (b := 5) (c := 0) (p := 2006) rfl
theorem zg_55_87 : Zgo d 55 87 L st S Q ↔ (zpi st False fun x t => zem t False (Q (some (zi x)) S)) := Zgo_iff (i := .ireturn) (len := 1) (a := 0) (b := 0) (c := 0) (p := 0) rfl
theorem zg_55_88 : Zgo d 55 88 L st S Q ↔ (zlda L 0 False fun r => Zgo d 55 89 L (zq r :: st) S Q) := Zgo_iff (i := .aload_n 0) (len := 1) (a := 0) (b := 0) (c := 0) (p := 0) rfl
theorem zg_55_89 : Zgo d 55 89 L st S Q ↔ (zpa st False fun r t => zde r 0 False fun o => Zgo d 55 92 L (zq (S.2.1 0 o 4) :: t) S Q) := Zgo_iff (i := .getfield 44) (len := 3) (a := 0) (b := 4) (c := 3) (p := 2118) rfl
theorem zg_55_92 : Zgo d 55 92 L st S Q ↔ (zpa st False fun r t => zde r 10 False fun o => Zgo d 55 95 L (zi (S.1 10 o 3) :: t) S Q) := Zgo_iff (i := .getfield 107) (len := 3) (a := 10) (b := 3) (c := 0) (p := 2078) rfl
theorem zg_55_95 : Zgo d 55 95 L st S Q ↔ (zpi st False fun x t => zem t False (Q (some (zi x)) S)) := Zgo_iff (i := .ireturn) (len := 1) (a := 0) (b := 0) (c := 0) (p := 0) rfl
theorem zg_55_96 : Zgo d 55 96 L st S Q ↔ (zlda L 0 False fun r => Zgo d 55 97 L (zq r :: st) S Q) := Zgo_iff (i := .aload_n 0) (len := 1) (a := 0) (b := 0) (c := 0) (p := 0) rfl
theorem zg_55_97 : Zgo d 55 97 L st S Q ↔ (zpa st False fun r t => zde r 0 False fun o => Zgo d 55 100 L (zq (S.2.1 0 o 4) :: t) S Q) := Zgo_iff (i := .getfield 44) (len := 3) (a := 0) (b := 4) (c := 3) (p := 2118) rfl
theorem zg_55_100 : Zgo d 55 100 L st S Q ↔ (zpa st False fun r t => zde r 10 False fun o => Zgo d 55 103 L (zi (S.1 10 o 2) :: t) S Q) := Zgo_iff (i := .getfield 90) (len := 3) (a := 10) (b := 2) (c := 0) (p := 2076) rfl
theorem zg_55_103 : Zgo d 55 103 L st S Q ↔ (zpi st False fun x t => zem t False (Q (some (zi x)) S)) := Zgo_iff (i := .ireturn) (len := 1) (a := 0) (b := 0) (c := 0) (p := 0) rfl
theorem zg_55_104 : Zgo d 55 104 L st S Q ↔ (zlda L 0 False fun r => Zgo d 55 105 L (zq r :: st) S Q) := Zgo_iff (i := .aload_n 0) (len := 1) (a := 0) (b := 0) (c := 0) (p := 0) rfl
theorem zg_55_105 : Zgo d 55 105 L st S Q ↔ (zpa st False fun r t => zde r 0 False fun o => Zgo d 55 108 L (zq (S.2.1 0 o 4) :: t) S Q) := Zgo_iff (i := .getfield 44) (len := 3) (a := 0) (b := 4) (c := 3) (p := 2118) rfl
theorem zg_55_108 : Zgo d 55 108 L st S Q ↔ (zpa st False fun r t => zde r 10 False fun o => Zgo d 55 111 L (zi (S.1 10 o 4) :: t) S Q) := Zgo_iff (i := .getfield 135) (len := 3) (a := 10) (b := 4) (c := 0) (p := 2080) rfl
theorem zg_55_111 : Zgo d 55 111 L st S Q ↔ (zlda L 0 False fun r => Zgo d 55 112 L (zq r :: st) S Q) := Zgo_iff (i := .aload_n 0) (len := 1) (a := 0) (b := 0) (c := 0) (p := 0) rfl
theorem zg_55_112 : Zgo d 55 112 L st S Q ↔ (zpa st False fun r t => zde r 0 False fun o => Zgo d 55 115 L (zq (S.2.1 0 o 4) :: t) S Q) := Zgo_iff (i := .getfield 44) (len := 3) (a := 0) (b := 4) (c := 3) (p := 2118) rfl
theorem zg_55_115 : Zgo d 55 115 L st S Q ↔ (zpa st False fun r t => zde r 10 False fun o => Zgo d 55 118 L (zi (S.1 10 o 5) :: t) S Q) := Zgo_iff (i := .getfield 138) (len := 3) (a := 10) (b := 5) (c := 0) (p := 2082) rfl
theorem zg_55_118 : Zgo d 55 118 L st S Q ↔ (zpi st False fun y t => zpi t False fun x t => Zgo d 55 119 L (zi (x - y) :: t) S Q) := Zgo_iff (i := .isub) (len := 1) (a := 0) (b := 0) (c := 0) (p := 0) rfl
theorem zg_55_119 : Zgo d 55 119 L st S Q ↔ (zpi st False fun x t => zem t False (Q (some (zi x)) S)) := Zgo_iff (i := .ireturn) (len := 1) (a := 0) (b := 0) (c := 0) (p := 0) rfl
theorem zg_55_120 : Zgo d 55 120 L st S Q ↔ (zlda L 0 False fun r => Zgo d 55 121 L (zq r :: st) S Q) := Zgo_iff (i := .aload_n 0) (len := 1) (a := 0) (b := 0) (c := 0) (p := 0) rfl
theorem zg_55_121 : Zgo d 55 121 L st S Q ↔ (zpa st False fun r t => zde r 0 False fun o => Zgo d 55 124 L (zq (S.2.1 0 o 4) :: t) S Q) := Zgo_iff (i := .getfield 44) (len := 3) (a := 0) (b := 4) (c := 3) (p := 2118) rfl
theorem zg_55_124 : Zgo d 55 124 L st S Q ↔ (zpa st False fun r t => zde r 10 False fun o => Zgo d 55 127 L (zi (S.1 10 o 6) :: t) S Q) := Zgo_iff (i := .getfield 141) (len := 3) (a := 10) (b := 6) (c := 0) (p := 2084) rfl
theorem zg_55_127 : Zgo d 55 127 L st S Q ↔ (zpi st False fun x t => zem t False (Q (some (zi x)) S)) := Zgo_iff (i := .ireturn) (len := 1) (a := 0) (b := 0) (c := 0) (p := 0) rfl
theorem zg_55_128 : Zgo d 55 128 L st S Q ↔ (Zgo d 55 129 L (zi (-1) :: st) S Q) := Zgo_iff (i := .iconst (-1)) (len := 1) (a := 0) (b := 0) (c := 0) (p := 0) rfl
theorem zg_55_129 : Zgo d 55 129 L st S Q ↔ (zpi st False fun x t => zem t False (Q (some (zi x)) S)) := Zgo_iff (i := .ireturn) (len := 1) (a := 0) (b := 0) (c := 0) (p := 0) rfl
end
