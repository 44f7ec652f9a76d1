/-! rows of the switches -/
section
variable {d : Nat} {L : zL} {st : List zV} {S : zS} {Q : Option zV → zS → Prop}
theorem zg_28_91 : Zgo d 28 91 L st S Q ↔ (zpi st False fun x t => if zw x = 33 then Zgo d 28 180 L t S Q else if zw x = 63 then Zgo d 28 203 L t S Q else if zw x = 64 then Zgo d 28 210 L t S Q else if zw x = 66 then Zgo d 28 217 L t S Q else if zw x = 67 then Zgo d 28 217 L t S Q else if zw x = 80 then Zgo d 28 267 L t S Q else if zw x = 82 then Zgo d 28 217 L t S Q else if zw x = 84 then Zgo d 28 224 L t S Q else if zw x = 88 then Zgo d 28 217 L t S Q else if zw x = 89 then Zgo d 28 302 L t S Q else Zgo d 28 309 L t S Q) := by
  rw [Zgo_iff (i := .lookupswitch 218 #[(33, 89), (63, 112), (64, 119), (66, 126), (67, 126), (80, 176), (82, 126), (84, 133), (88, 126), (89, 211)]) (len := 89) (a := 0) (b := 0) (c := 0) (p := 0) rfl]
  show (zpi st False fun x t => zgt (((91 : Nat) : Int) + zlu [(33, 89), (63, 112), (64, 119), (66, 126), (67, 126), (80, 176), (82, 126), (84, 133), (88, 126), (89, 211)] 218 (zw x)) False fun g => Zgo d 28 g L t S Q) ↔ _
  have e : (fun (x : Int) (t : List zV) => zgt (((91 : Nat) : Int) + zlu [(33, 89), (63, 112), (64, 119), (66, 126), (67, 126), (80, 176), (82, 126), (84, 133), (88, 126), (89, 211)] 218 (zw x)) False fun g => Zgo d 28 g L t S Q) = (fun x t => if zw x = 33 then Zgo d 28 180 L t S Q else if zw x = 63 then Zgo d 28 203 L t S Q else if zw x = 64 then Zgo d 28 210 L t S Q else if zw x = 66 then Zgo d 28 217 L t S Q else if zw x = 67 then Zgo d 28 217 L t S Q else if zw x = 80 then Zgo d 28 267 L t S Q else if zw x = 82 then Zgo d 28 217 L t S Q else if zw x = 84 then Zgo d 28 224 L t S Q else if zw x = 88 then Zgo d 28 217 L t S Q else if zw x = 89 then Zgo d 28 302 L t S Q else Zgo d 28 309 L t S Q) := by
    funext x t
    simp only [zlu]
    repeat (split; rfl)
    rfl
  rw [e]
theorem zg_47_4 : Zgo d 47 4 L st S Q ↔ (zpi st False fun x t => if zw x = 66 then Zgo d 47 40 L t S Q else if zw x = 67 then Zgo d 47 40 L t S Q else if zw x = 88 then Zgo d 47 56 L t S Q else Zgo d 47 73 L t S Q) := by
  rw [Zgo_iff (i := .lookupswitch 69 #[(66, 36), (67, 36), (88, 52)]) (len := 36) (a := 0) (b := 0) (c := 0) (p := 0) rfl]
  show (zpi st False fun x t => zgt (((4 : Nat) : Int) + zlu [(66, 36), (67, 36), (88, 52)] 69 (zw x)) False fun g => Zgo d 47 g L t S Q) ↔ _
  have e : (fun (x : Int) (t : List zV) => zgt (((4 : Nat) : Int) + zlu [(66, 36), (67, 36), (88, 52)] 69 (zw x)) False fun g => Zgo d 47 g L t S Q) = (fun x t => if zw x = 66 then Zgo d 47 40 L t S Q else if zw x = 67 then Zgo d 47 40 L t S Q else if zw x = 88 then Zgo d 47 56 L t S Q else Zgo d 47 73 L t S Q) := by
    funext x t
    simp only [zlu]
    repeat (split; rfl)
    rfl
  rw [e]
theorem zg_48_4 : Zgo d 48 4 L st S Q ↔ (zpi st False fun x t => if zw x = 66 then Zgo d 48 56 L t S Q else if zw x = 67 then Zgo d 48 56 L t S Q else if zw x = 82 then Zgo d 48 56 L t S Q else if zw x = 84 then Zgo d 48 56 L t S Q else if zw x = 88 then Zgo d 48 56 L t S Q else Zgo d 48 58 L t S Q) := by
  rw [Zgo_iff (i := .lookupswitch 54 #[(66, 52), (67, 52), (82, 52), (84, 52), (88, 52)]) (len := 52) (a := 0) (b := 0) (c := 0) (p := 0) rfl]
  show (zpi st False fun x t => zgt (((4 : Nat) : Int) + zlu [(66, 52), (67, 52), (82, 52), (84, 52), (88, 52)] 54 (zw x)) False fun g => Zgo d 48 g L t S Q) ↔ _
  have e : (fun (x : Int) (t : List zV) => zgt (((4 : Nat) : Int) + zlu [(66, 52), (67, 52), (82, 52), (84, 52), (88, 52)] 54 (zw x)) False fun g => Zgo d 48 g L t S Q) = (fun x t => if zw x = 66 then Zgo d 48 56 L t S Q else if zw x = 67 then Zgo d 48 56 L t S Q else if zw x = 82 then Zgo d 48 56 L t S Q else if zw x = 84 then Zgo d 48 56 L t S Q else if zw x = 88 then Zgo d 48 56 L t S Q else Zgo d 48 58 L t S Q) := by
    funext x t
    simp only [zlu]
    repeat (split; rfl)
    rfl
  rw [e]
theorem zg_53_4 : Zgo d 53 4 L st S Q ↔ (zpi st False fun x t => if zw x = 63 then Zgo d 53 86 L t S Q else if zw x = 64 then Zgo d 53 86 L t S Q else if zw x = 80 then Zgo d 53 81 L t S Q else if zw x = 84 then Zgo d 53 64 L t S Q else if zw x = 88 then Zgo d 53 71 L t S Q else if zw x = 89 then Zgo d 53 104 L t S Q else Zgo d 53 110 L t S Q) := by
  rw [Zgo_iff (i := .lookupswitch 106 #[(63, 82), (64, 82), (80, 77), (84, 60), (88, 67), (89, 100)]) (len := 60) (a := 0) (b := 0) (c := 0) (p := 0) rfl]
  show (zpi st False fun x t => zgt (((4 : Nat) : Int) + zlu [(63, 82), (64, 82), (80, 77), (84, 60), (88, 67), (89, 100)] 106 (zw x)) False fun g => Zgo d 53 g L t S Q) ↔ _
  have e : (fun (x : Int) (t : List zV) => zgt (((4 : Nat) : Int) + zlu [(63, 82), (64, 82), (80, 77), (84, 60), (88, 67), (89, 100)] 106 (zw x)) False fun g => Zgo d 53 g L t S Q) = (fun x t => if zw x = 63 then Zgo d 53 86 L t S Q else if zw x = 64 then Zgo d 53 86 L t S Q else if zw x = 80 then Zgo d 53 81 L t S Q else if zw x = 84 then Zgo d 53 64 L t S Q else if zw x = 88 then Zgo d 53 71 L t S Q else if zw x = 89 then Zgo d 53 104 L t S Q else Zgo d 53 110 L t S Q) := by
    funext x t
    simp only [zlu]
    repeat (split; rfl)
    rfl
  rw [e]
theorem zg_55_1 : Zgo d 55 1 L st S Q ↔ (zpi st False fun x t => if zw x = 0 then Zgo d 55 48 L t S Q else if zw x = 1 then Zgo d 55 56 L t S Q else if zw x = 2 then Zgo d 55 72 L t S Q else if zw x = 3 then Zgo d 55 80 L t S Q else if zw x = 4 then Zgo d 55 88 L t S Q else if zw x = 5 then Zgo d 55 96 L t S Q else if zw x = 6 then Zgo d 55 104 L t S Q else if zw x = 7 then Zgo d 55 120 L t S Q else Zgo d 55 128 L t S Q) := by
  rw [Zgo_iff (i := .tableswitch 127 0 7 #[47, 55, 71, 79, 87, 95, 103, 119]) (len := 47) (a := 0) (b := 0) (c := 0) (p := 0) rfl]
  show (zpi st False fun x t => if zw x < 0 ∨ 7 < zw x then Zgo d 55 128 L t S Q else zop (#[47, 55, 71, 79, 87, 95, 103, 119] : Array Int)[(zw x - 0).toNat]? False fun o => zgt (((1 : Nat) : Int) + o) False fun g => Zgo d 55 g L t S Q) ↔ _
  have e : (fun (x : Int) (t : List zV) => if zw x < 0 ∨ 7 < zw x then Zgo d 55 128 L t S Q else zop (#[47, 55, 71, 79, 87, 95, 103, 119] : Array Int)[(zw x - 0).toNat]? False fun o => zgt (((1 : Nat) : Int) + o) False fun g => Zgo d 55 g L t S Q) = (fun x t => if zw x = 0 then Zgo d 55 48 L t S Q else if zw x = 1 then Zgo d 55 56 L t S Q else if zw x = 2 then Zgo d 55 72 L t S Q else if zw x = 3 then Zgo d 55 80 L t S Q else if zw x = 4 then Zgo d 55 88 L t S Q else if zw x = 5 then Zgo d 55 96 L t S Q else if zw x = 6 then Zgo d 55 104 L t S Q else if zw x = 7 then Zgo d 55 120 L t S Q else Zgo d 55 128 L t S Q) := by
    funext x t
    by_cases h0 : zw x = 0
    · rw [h0]; rfl
    by_cases h1 : zw x = 1
    · rw [h1]; rfl
    by_cases h2 : zw x = 2
    · rw [h2]; rfl
    by_cases h3 : zw x = 3
    · rw [h3]; rfl
    by_cases h4 : zw x = 4
    · rw [h4]; rfl
    by_cases h5 : zw x = 5
    · rw [h5]; rfl
    by_cases h6 : zw x = 6
    · rw [h6]; rfl
    by_cases h7 : zw x = 7
    · rw [h7]; rfl
    rw [if_pos (by omega), if_neg h0, if_neg h1, if_neg h2, if_neg h3, if_neg h4, if_neg h5, if_neg h6, if_neg h7]
  rw [e]
theorem zg_60_25 : Zgo d 60 25 L st S Q ↔ (zpi st False fun x t => if zw x = 33 then Zgo d 60 122 L t S Q else if zw x = 61 then Zgo d 60 116 L t S Q else if zw x = 63 then Zgo d 60 128 L t S Q else if zw x = 64 then Zgo d 60 135 L t S Q else if zw x = 66 then Zgo d 60 142 L t S Q else if zw x = 67 then Zgo d 60 146 L t S Q else if zw x = 80 then Zgo d 60 173 L t S Q else if zw x = 82 then Zgo d 60 150 L t S Q else if zw x = 84 then Zgo d 60 154 L t S Q else if zw x = 88 then Zgo d 60 160 L t S Q else Zgo d 60 179 L t S Q) := by
  rw [Zgo_iff (i := .lookupswitch 154 #[(33, 97), (61, 91), (63, 103), (64, 110), (66, 117), (67, 121), (80, 148), (82, 125), (84, 129), (88, 135)]) (len := 91) (a := 0) (b := 0) (c := 0) (p := 0) rfl]
  show (zpi st False fun x t => zgt (((25 : Nat) : Int) + zlu [(33, 97), (61, 91), (63, 103), (64, 110), (66, 117), (67, 121), (80, 148), (82, 125), (84, 129), (88, 135)] 154 (zw x)) False fun g => Zgo d 60 g L t S Q) ↔ _
  have e : (fun (x : Int) (t : List zV) => zgt (((25 : Nat) : Int) + zlu [(33, 97), (61, 91), (63, 103), (64, 110), (66, 117), (67, 121), (80, 148), (82, 125), (84, 129), (88, 135)] 154 (zw x)) False fun g => Zgo d 60 g L t S Q) = (fun x t => if zw x = 33 then Zgo d 60 122 L t S Q else if zw x = 61 then Zgo d 60 116 L t S Q else if zw x = 63 then Zgo d 60 128 L t S Q else if zw x = 64 then Zgo d 60 135 L t S Q else if zw x = 66 then Zgo d 60 142 L t S Q else if zw x = 67 then Zgo d 60 146 L t S Q else if zw x = 80 then Zgo d 60 173 L t S Q else if zw x = 82 then Zgo d 60 150 L t S Q else if zw x = 84 then Zgo d 60 154 L t S Q else if zw x = 88 then Zgo d 60 160 L t S Q else Zgo d 60 179 L t S Q) := by
    funext x t
    simp only [zlu]
    repeat (split; rfl)
    rfl
  rw [e]
theorem zg_63_1 : Zgo d 63 1 L st S Q ↔ (zpi st False fun x t => if zw x = 42 then Zgo d 63 48 L t S Q else if zw x = 43 then Zgo d 63 40 L t S Q else if zw x = 44 then Zgo d 63 56 L t S Q else if zw x = 45 then Zgo d 63 44 L t S Q else if zw x = 46 then Zgo d 63 56 L t S Q else if zw x = 47 then Zgo d 63 52 L t S Q else Zgo d 63 56 L t S Q) := by
  rw [Zgo_iff (i := .tableswitch 55 42 47 #[47, 39, 55, 43, 55, 51]) (len := 39) (a := 0) (b := 0) (c := 0) (p := 0) rfl]
  show (zpi st False fun x t => if zw x < 42 ∨ 47 < zw x then Zgo d 63 56 L t S Q else zop (#[47, 39, 55, 43, 55, 51] : Array Int)[(zw x - 42).toNat]? False fun o => zgt (((1 : Nat) : Int) + o) False fun g => Zgo d 63 g L t S Q) ↔ _
  have e : (fun (x : Int) (t : List zV) => if zw x < 42 ∨ 47 < zw x then Zgo d 63 56 L t S Q else zop (#[47, 39, 55, 43, 55, 51] : Array Int)[(zw x - 42).toNat]? False fun o => zgt (((1 : Nat) : Int) + o) False fun g => Zgo d 63 g L t S Q) = (fun x t => if zw x = 42 then Zgo d 63 48 L t S Q else if zw x = 43 then Zgo d 63 40 L t S Q else if zw x = 44 then Zgo d 63 56 L t S Q else if zw x = 45 then Zgo d 63 44 L t S Q else if zw x = 46 then Zgo d 63 56 L t S Q else if zw x = 47 then Zgo d 63 52 L t S Q else Zgo d 63 56 L t S Q) := by
    funext x t
    by_cases h0 : zw x = 42
    · rw [h0]; rfl
    by_cases h1 : zw x = 43
    · rw [h1]; rfl
    by_cases h2 : zw x = 44
    · rw [h2]; rfl
    by_cases h3 : zw x = 45
    · rw [h3]; rfl
    by_cases h4 : zw x = 46
    · rw [h4]; rfl
    by_cases h5 : zw x = 47
    · rw [h5]; rfl
    rw [if_pos (by omega), if_neg h0, if_neg h1, if_neg h2, if_neg h3, if_neg h4, if_neg h5]
  rw [e]
theorem zg_127_6 : Zgo d 127 6 L st S Q ↔ (zpi st False fun x t => if zw x = 0 then Zgo d 127 52 L t S Q else if zw x = 1 then Zgo d 127 57 L t S Q else if zw x = 2 then Zgo d 127 70 L t S Q else if zw x = 3 then Zgo d 127 86 L t S Q else if zw x = 4 then Zgo d 127 102 L t S Q else if zw x = 5 then Zgo d 127 107 L t S Q else if zw x = 6 then Zgo d 127 112 L t S Q else if zw x = 7 then Zgo d 127 117 L t S Q else Zgo d 127 122 L t S Q) := by
  rw [Zgo_iff (i := .tableswitch 116 0 7 #[46, 51, 64, 80, 96, 101, 106, 111]) (len := 46) (a := 0) (b := 0) (c := 0) (p := 0) rfl]
  show (zpi st False fun x t => if zw x < 0 ∨ 7 < zw x then Zgo d 127 122 L t S Q else zop (#[46, 51, 64, 80, 96, 101, 106, 111] : Array Int)[(zw x - 0).toNat]? False fun o => zgt (((6 : Nat) : Int) + o) False fun g => Zgo d 127 g L t S Q) ↔ _
  have e : (fun (x : Int) (t : List zV) => if zw x < 0 ∨ 7 < zw x then Zgo d 127 122 L t S Q else zop (#[46, 51, 64, 80, 96, 101, 106, 111] : Array Int)[(zw x - 0).toNat]? False fun o => zgt (((6 : Nat) : Int) + o) False fun g => Zgo d 127 g L t S Q) = (fun x t => if zw x = 0 then Zgo d 127 52 L t S Q else if zw x = 1 then Zgo d 127 57 L t S Q else if zw x = 2 then Zgo d 127 70 L t S Q else if zw x = 3 then Zgo d 127 86 L t S Q else if zw x = 4 then Zgo d 127 102 L t S Q else if zw x = 5 then Zgo d 127 107 L t S Q else if zw x = 6 then Zgo d 127 112 L t S Q else if zw x = 7 then Zgo d 127 117 L t S Q else Zgo d 127 122 L t S Q) := by
    funext x t
    by_cases h0 : zw x = 0
    · rw [h0]; rfl
    by_cases h1 : zw x = 1
    · rw [h1]; rfl
    by_cases h2 : zw x = 2
    · rw [h2]; rfl
    by_cases h3 : zw x = 3
    · rw [h3]; rfl
    by_cases h4 : zw x = 4
    · rw [h4]; rfl
    by_cases h5 : zw x = 5
    · rw [h5]; rfl
    by_cases h6 : zw x = 6
    · rw [h6]; rfl
    by_cases h7 : zw x = 7
    · rw [h7]; rfl
    rw [if_pos (by omega), if_neg h0, if_neg h1, if_neg h2, if_neg h3, if_neg h4, if_neg h5, if_neg h6, if_neg h7]
  rw [e]
theorem zg_128_39 : Zgo d 128 39 L st S Q ↔ (zpi st False fun x t => if zw x = 0 then Zgo d 128 88 L t S Q else if zw x = 1 then Zgo d 128 145 L t S Q else if zw x = 2 then Zgo d 128 156 L t S Q else if zw x = 3 then Zgo d 128 169 L t S Q else if zw x = 4 then Zgo d 128 225 L t S Q else if zw x = 5 then Zgo d 128 281 L t S Q else if zw x = 6 then Zgo d 128 337 L t S Q else if zw x = 7 then Zgo d 128 409 L t S Q else if zw x = 8 then Zgo d 128 465 L t S Q else Zgo d 128 490 L t S Q) := by
  rw [Zgo_iff (i := .tableswitch 451 0 8 #[49, 106, 117, 130, 186, 242, 298, 370, 426]) (len := 49) (a := 0) (b := 0) (c := 0) (p := 0) rfl]
  show (zpi st False fun x t => if zw x < 0 ∨ 8 < zw x then Zgo d 128 490 L t S Q else zop (#[49, 106, 117, 130, 186, 242, 298, 370, 426] : Array Int)[(zw x - 0).toNat]? False fun o => zgt (((39 : Nat) : Int) + o) False fun g => Zgo d 128 g L t S Q) ↔ _
  have e : (fun (x : Int) (t : List zV) => if zw x < 0 ∨ 8 < zw x then Zgo d 128 490 L t S Q else zop (#[49, 106, 117, 130, 186, 242, 298, 370, 426] : Array Int)[(zw x - 0).toNat]? False fun o => zgt (((39 : Nat) : Int) + o) False fun g => Zgo d 128 g L t S Q) = (fun x t => if zw x = 0 then Zgo d 128 88 L t S Q else if zw x = 1 then Zgo d 128 145 L t S Q else if zw x = 2 then Zgo d 128 156 L t S Q else if zw x = 3 then Zgo d 128 169 L t S Q else if zw x = 4 then Zgo d 128 225 L t S Q else if zw x = 5 then Zgo d 128 281 L t S Q else if zw x = 6 then Zgo d 128 337 L t S Q else if zw x = 7 then Zgo d 128 409 L t S Q else if zw x = 8 then Zgo d 128 465 L t S Q else Zgo d 128 490 L t S Q) := by
    funext x t
    by_cases h0 : zw x = 0
    · rw [h0]; rfl
    by_cases h1 : zw x = 1
    · rw [h1]; rfl
    by_cases h2 : zw x = 2
    · rw [h2]; rfl
    by_cases h3 : zw x = 3
    · rw [h3]; rfl
    by_cases h4 : zw x = 4
    · rw [h4]; rfl
    by_cases h5 : zw x = 5
    · rw [h5]; rfl
    by_cases h6 : zw x = 6
    · rw [h6]; rfl
    by_cases h7 : zw x = 7
    · rw [h7]; rfl
    by_cases h8 : zw x = 8
    · rw [h8]; rfl
    rw [if_pos (by omega), if_neg h0, if_neg h1, if_neg h2, if_neg h3, if_neg h4, if_neg h5, if_neg h6, if_neg h7, if_neg h8]
  rw [e]
end
