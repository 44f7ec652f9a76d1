/-! lengths of the arrays; the references that never change -/
theorem zs_len_20 {S : zS} : zlen S 20 = some (2, 160) := rfl
theorem zs_arr_20 : zArr 20 = some (2, 160) := rfl
theorem zs_len_21 {S : zS} : zlen S 21 = some (3, 3) := rfl
theorem zs_arr_21 : zArr 21 = some (3, 3) := rfl
theorem zs_len_22 {S : zS} : zlen S 22 = some (3, 80) := rfl
theorem zs_arr_22 : zArr 22 = some (3, 80) := rfl
theorem zs_len_23 {S : zS} : zlen S 23 = some (3, 80) := rfl
theorem zs_arr_23 : zArr 23 = some (3, 80) := rfl
theorem zs_len_24 {S : zS} : zlen S 24 = some (3, 32) := rfl
theorem zs_arr_24 : zArr 24 = some (3, 32) := rfl
theorem zs_len_25 {S : zS} : zlen S 25 = some (2, 160) := rfl
theorem zs_arr_25 : zArr 25 = some (2, 160) := rfl
theorem zs_len_26 {S : zS} : zlen S 26 = some (0, 160) := rfl
theorem zs_arr_26 : zArr 26 = some (0, 160) := rfl
theorem zs_len_27 {S : zS} : zlen S 27 = some (0, 5) := rfl
theorem zs_arr_27 : zArr 27 = some (0, 5) := rfl
theorem zs_len_28 {S : zS} : zlen S 28 = some (0, 8) := rfl
theorem zs_arr_28 : zArr 28 = some (0, 8) := rfl
theorem zs_len_29 {S : zS} : zlen S 29 = some (0, 24) := rfl
theorem zs_arr_29 : zArr 29 = some (0, 24) := rfl
theorem zs_len_30 {S : zS} : zlen S 30 = some (0, 160) := rfl
theorem zs_arr_30 : zArr 30 = some (0, 160) := rfl
theorem zs_len_31 {S : zS} : zlen S 31 = some (0, 3) := rfl
theorem zs_arr_31 : zArr 31 = some (0, 3) := rfl
theorem zs_len_32 {S : zS} : zlen S 32 = some (0, 3) := rfl
theorem zs_arr_32 : zArr 32 = some (0, 3) := rfl
theorem zs_len_33 {S : zS} : zlen S 33 = some (0, 4) := rfl
theorem zs_arr_33 : zArr 33 = some (0, 4) := rfl
theorem zs_len_34 {S : zS} : zlen S 34 = some (0, 160) := rfl
theorem zs_arr_34 : zArr 34 = some (0, 160) := rfl
theorem zs_len_35 {S : zS} : zlen S 35 = some (0, 160) := rfl
theorem zs_arr_35 : zArr 35 = some (0, 160) := rfl
theorem zs_len_36 {S : zS} : zlen S 36 = some (0, 160) := rfl
theorem zs_arr_36 : zArr 36 = some (0, 160) := rfl
theorem zs_len_37 {S : zS} : zlen S 37 = some (0, 160) := rfl
theorem zs_arr_37 : zArr 37 = some (0, 160) := rfl
theorem zs_len_38 {S : zS} : zlen S 38 = some (0, 960) := rfl
theorem zs_arr_38 : zArr 38 = some (0, 960) := rfl
theorem zs_len_39 {S : zS} : zlen S 39 = some (0, 480) := rfl
theorem zs_arr_39 : zArr 39 = some (0, 480) := rfl
theorem zs_len_40 {S : zS} : zlen S 40 = some (0, 480) := rfl
theorem zs_arr_40 : zArr 40 = some (0, 480) := rfl
theorem zs_len_41 {S : zS} : zlen S 41 = some (0, 160) := rfl
theorem zs_arr_41 : zArr 41 = some (0, 160) := rfl
theorem zs_len_42 {S : zS} : zlen S 42 = some (0, 160) := rfl
theorem zs_arr_42 : zArr 42 = some (0, 160) := rfl
theorem zs_len_43 {S : zS} : zlen S 43 = some (0, 160) := rfl
theorem zs_arr_43 : zArr 43 = some (0, 160) := rfl
theorem zs_len_44 {S : zS} : zlen S 44 = some (0, 160) := rfl
theorem zs_arr_44 : zArr 44 = some (0, 160) := rfl
theorem zs_len_45 {S : zS} : zlen S 45 = some (0, 160) := rfl
theorem zs_arr_45 : zArr 45 = some (0, 160) := rfl
theorem zs_len_46 {S : zS} : zlen S 46 = some (0, 160) := rfl
theorem zs_arr_46 : zArr 46 = some (0, 160) := rfl
theorem zs_len_47 {S : zS} : zlen S 47 = some (0, 160) := rfl
theorem zs_arr_47 : zArr 47 = some (0, 160) := rfl
theorem zs_len_48 {S : zS} : zlen S 48 = some (0, 160) := rfl
theorem zs_arr_48 : zArr 48 = some (0, 160) := rfl
theorem zs_len_49 {S : zS} : zlen S 49 = some (0, 160) := rfl
theorem zs_arr_49 : zArr 49 = some (0, 160) := rfl
theorem zs_len_50 {S : zS} : zlen S 50 = some (0, 200) := rfl
theorem zs_arr_50 : zArr 50 = some (0, 200) := rfl
theorem zs_len_51 {S : zS} : zlen S 51 = some (0, 200) := rfl
theorem zs_arr_51 : zArr 51 = some (0, 200) := rfl
theorem zs_len_52 {S : zS} : zlen S 52 = some (0, 8) := rfl
theorem zs_arr_52 : zArr 52 = some (0, 8) := rfl
theorem zs_len_53 {S : zS} : zlen S 53 = some (0, 8) := rfl
theorem zs_arr_53 : zArr 53 = some (0, 8) := rfl
theorem zs_len_54 {S : zS} : zlen S 54 = some (0, 8) := rfl
theorem zs_arr_54 : zArr 54 = some (0, 8) := rfl
theorem zs_len_55 {S : zS} : zlen S 55 = some (0, 24) := rfl
theorem zs_arr_55 : zArr 55 = some (0, 24) := rfl
theorem zs_len_56 {S : zS} : zlen S 56 = some (0, 200) := rfl
theorem zs_arr_56 : zArr 56 = some (0, 200) := rfl
theorem zs_len_57 {S : zS} : zlen S 57 = some (0, 200) := rfl
theorem zs_arr_57 : zArr 57 = some (0, 200) := rfl
theorem zs_len_58 {S : zS} : zlen S 58 = some (0, 200) := rfl
theorem zs_arr_58 : zArr 58 = some (0, 200) := rfl
theorem zs_len_59 {S : zS} : zlen S 59 = some (0, 200) := rfl
theorem zs_arr_59 : zArr 59 = some (0, 200) := rfl
theorem zs_len_60 {S : zS} : zlen S 60 = some (0, 200) := rfl
theorem zs_arr_60 : zArr 60 = some (0, 200) := rfl
theorem zs_len_61 {S : zS} : zlen S 61 = some (0, 200) := rfl
theorem zs_arr_61 : zArr 61 = some (0, 200) := rfl
theorem zs_len_62 {S : zS} : zlen S 62 = some (0, 200) := rfl
theorem zs_arr_62 : zArr 62 = some (0, 200) := rfl
theorem zs_len_63 {S : zS} : zlen S 63 = some (0, 200) := rfl
theorem zs_arr_63 : zArr 63 = some (0, 200) := rfl
theorem zs_len_64 {S : zS} : zlen S 64 = some (0, 200) := rfl
theorem zs_arr_64 : zArr 64 = some (0, 200) := rfl
theorem zs_len_65 {S : zS} : zlen S 65 = some (4, 1) := rfl
theorem zs_arr_65 : zArr 65 = some (4, 1) := rfl
theorem zs_len_99 {S : zS} : zlen S 99 = some (0, S.2.2.2.2.2) := rfl
def zK0 : zMR := fun c i k => match c, i, k with
  | 0, 0, 0 => some (1, 0)
  | 0, 0, 1 => some (7, 0)
  | 0, 0, 2 => some (8, 0)
  | 0, 0, 3 => some (9, 0)
  | 0, 0, 4 => some (10, 0)
  | 1, 0, 0 => some (20, 0)
  | 6, 0, 0 => some (25, 0)
  | 6, 0, 1 => some (26, 0)
  | 6, 0, 4 => some (27, 0)
  | 7, 0, 0 => some (21, 0)
  | 7, 0, 1 => some (2, 0)
  | 7, 0, 2 => some (22, 0)
  | 7, 0, 3 => some (6, 0)
  | 7, 0, 7 => some (23, 0)
  | 7, 0, 8 => some (24, 0)
  | 8, 0, 0 => some (1, 0)
  | 8, 0, 1 => some (7, 0)
  | 9, 0, 0 => some (7, 0)
  | 10, 0, 0 => some (28, 0)
  | 10, 0, 1 => some (29, 0)
  | 10, 0, 9 => some (7, 0)
  | 11, 0, 1 => some (30, 0)
  | 11, 0, 7 => some (31, 0)
  | 11, 0, 8 => some (32, 0)
  | 11, 0, 9 => some (33, 0)
  | 11, 0, 11 => some (34, 0)
  | 11, 0, 12 => some (35, 0)
  | 11, 0, 13 => some (36, 0)
  | 11, 0, 14 => some (37, 0)
  | 11, 0, 15 => some (38, 0)
  | 11, 0, 16 => some (39, 0)
  | 11, 0, 17 => some (40, 0)
  | 11, 0, 18 => some (41, 0)
  | 11, 0, 19 => some (42, 0)
  | 11, 0, 20 => some (43, 0)
  | 11, 0, 21 => some (44, 0)
  | 11, 0, 23 => some (45, 0)
  | 11, 0, 24 => some (46, 0)
  | 11, 0, 25 => some (47, 0)
  | 11, 0, 26 => some (48, 0)
  | 11, 0, 27 => some (49, 0)
  | 11, 0, 29 => some (50, 0)
  | 11, 0, 30 => some (51, 0)
  | 11, 0, 31 => some (52, 0)
  | 11, 0, 32 => some (53, 0)
  | 11, 0, 33 => some (54, 0)
  | 11, 0, 34 => some (55, 0)
  | 11, 0, 42 => some (56, 0)
  | 11, 0, 43 => some (57, 0)
  | 11, 0, 44 => some (58, 0)
  | 11, 0, 45 => some (59, 0)
  | 11, 0, 46 => some (60, 0)
  | 11, 0, 47 => some (61, 0)
  | 11, 0, 48 => some (62, 0)
  | 11, 0, 49 => some (63, 0)
  | 11, 0, 54 => some (64, 0)
  | 21, 0, k => if k < 3 then some (2, k + 1) else none
  | 22, 0, k => if k < 80 then some (4, k) else none
  | 23, 0, k => if k < 80 then some (3, k) else none
  | 24, 0, k => if k < 32 then some (5, k) else none
  | _, _, _ => none
def Kon (R : zMR) : Prop := ∀ c i k, (c < 2 ∨ 5 < c) → R c i k = zK0 c i k
theorem Kon.set {R : zMR} {c i k : Nat} {v : Option (Nat × Nat)} (h : Kon R) (h1 : 2 ≤ c) (h2 : c ≤ 5) : Kon (zsR R c i k v) := fun c' i' k' hc => by
  rw [zsR_n (by omega)]; exact h c' i' k' hc
theorem kon_0_0_0 {R : zMR} (h : Kon R) : R 0 0 0 = some (1, 0) := h 0 0 0 (by omega)
theorem kon_0_0_1 {R : zMR} (h : Kon R) : R 0 0 1 = some (7, 0) := h 0 0 1 (by omega)
theorem kon_0_0_2 {R : zMR} (h : Kon R) : R 0 0 2 = some (8, 0) := h 0 0 2 (by omega)
theorem kon_0_0_3 {R : zMR} (h : Kon R) : R 0 0 3 = some (9, 0) := h 0 0 3 (by omega)
theorem kon_0_0_4 {R : zMR} (h : Kon R) : R 0 0 4 = some (10, 0) := h 0 0 4 (by omega)
theorem kon_1_0_0 {R : zMR} (h : Kon R) : R 1 0 0 = some (20, 0) := h 1 0 0 (by omega)
theorem kon_6_0_0 {R : zMR} (h : Kon R) : R 6 0 0 = some (25, 0) := h 6 0 0 (by omega)
theorem kon_6_0_1 {R : zMR} (h : Kon R) : R 6 0 1 = some (26, 0) := h 6 0 1 (by omega)
theorem kon_6_0_4 {R : zMR} (h : Kon R) : R 6 0 4 = some (27, 0) := h 6 0 4 (by omega)
theorem kon_7_0_0 {R : zMR} (h : Kon R) : R 7 0 0 = some (21, 0) := h 7 0 0 (by omega)
theorem kon_7_0_1 {R : zMR} (h : Kon R) : R 7 0 1 = some (2, 0) := h 7 0 1 (by omega)
theorem kon_7_0_2 {R : zMR} (h : Kon R) : R 7 0 2 = some (22, 0) := h 7 0 2 (by omega)
theorem kon_7_0_3 {R : zMR} (h : Kon R) : R 7 0 3 = some (6, 0) := h 7 0 3 (by omega)
theorem kon_7_0_7 {R : zMR} (h : Kon R) : R 7 0 7 = some (23, 0) := h 7 0 7 (by omega)
theorem kon_7_0_8 {R : zMR} (h : Kon R) : R 7 0 8 = some (24, 0) := h 7 0 8 (by omega)
theorem kon_8_0_0 {R : zMR} (h : Kon R) : R 8 0 0 = some (1, 0) := h 8 0 0 (by omega)
theorem kon_8_0_1 {R : zMR} (h : Kon R) : R 8 0 1 = some (7, 0) := h 8 0 1 (by omega)
theorem kon_9_0_0 {R : zMR} (h : Kon R) : R 9 0 0 = some (7, 0) := h 9 0 0 (by omega)
theorem kon_10_0_0 {R : zMR} (h : Kon R) : R 10 0 0 = some (28, 0) := h 10 0 0 (by omega)
theorem kon_10_0_1 {R : zMR} (h : Kon R) : R 10 0 1 = some (29, 0) := h 10 0 1 (by omega)
theorem kon_10_0_9 {R : zMR} (h : Kon R) : R 10 0 9 = some (7, 0) := h 10 0 9 (by omega)
theorem kon_11_0_1 {R : zMR} (h : Kon R) : R 11 0 1 = some (30, 0) := h 11 0 1 (by omega)
theorem kon_11_0_7 {R : zMR} (h : Kon R) : R 11 0 7 = some (31, 0) := h 11 0 7 (by omega)
theorem kon_11_0_8 {R : zMR} (h : Kon R) : R 11 0 8 = some (32, 0) := h 11 0 8 (by omega)
theorem kon_11_0_9 {R : zMR} (h : Kon R) : R 11 0 9 = some (33, 0) := h 11 0 9 (by omega)
theorem kon_11_0_11 {R : zMR} (h : Kon R) : R 11 0 11 = some (34, 0) := h 11 0 11 (by omega)
theorem kon_11_0_12 {R : zMR} (h : Kon R) : R 11 0 12 = some (35, 0) := h 11 0 12 (by omega)
theorem kon_11_0_13 {R : zMR} (h : Kon R) : R 11 0 13 = some (36, 0) := h 11 0 13 (by omega)
theorem kon_11_0_14 {R : zMR} (h : Kon R) : R 11 0 14 = some (37, 0) := h 11 0 14 (by omega)
theorem kon_11_0_15 {R : zMR} (h : Kon R) : R 11 0 15 = some (38, 0) := h 11 0 15 (by omega)
theorem kon_11_0_16 {R : zMR} (h : Kon R) : R 11 0 16 = some (39, 0) := h 11 0 16 (by omega)
theorem kon_11_0_17 {R : zMR} (h : Kon R) : R 11 0 17 = some (40, 0) := h 11 0 17 (by omega)
theorem kon_11_0_18 {R : zMR} (h : Kon R) : R 11 0 18 = some (41, 0) := h 11 0 18 (by omega)
theorem kon_11_0_19 {R : zMR} (h : Kon R) : R 11 0 19 = some (42, 0) := h 11 0 19 (by omega)
theorem kon_11_0_20 {R : zMR} (h : Kon R) : R 11 0 20 = some (43, 0) := h 11 0 20 (by omega)
theorem kon_11_0_21 {R : zMR} (h : Kon R) : R 11 0 21 = some (44, 0) := h 11 0 21 (by omega)
theorem kon_11_0_23 {R : zMR} (h : Kon R) : R 11 0 23 = some (45, 0) := h 11 0 23 (by omega)
theorem kon_11_0_24 {R : zMR} (h : Kon R) : R 11 0 24 = some (46, 0) := h 11 0 24 (by omega)
theorem kon_11_0_25 {R : zMR} (h : Kon R) : R 11 0 25 = some (47, 0) := h 11 0 25 (by omega)
theorem kon_11_0_26 {R : zMR} (h : Kon R) : R 11 0 26 = some (48, 0) := h 11 0 26 (by omega)
theorem kon_11_0_27 {R : zMR} (h : Kon R) : R 11 0 27 = some (49, 0) := h 11 0 27 (by omega)
theorem kon_11_0_29 {R : zMR} (h : Kon R) : R 11 0 29 = some (50, 0) := h 11 0 29 (by omega)
theorem kon_11_0_30 {R : zMR} (h : Kon R) : R 11 0 30 = some (51, 0) := h 11 0 30 (by omega)
theorem kon_11_0_31 {R : zMR} (h : Kon R) : R 11 0 31 = some (52, 0) := h 11 0 31 (by omega)
theorem kon_11_0_32 {R : zMR} (h : Kon R) : R 11 0 32 = some (53, 0) := h 11 0 32 (by omega)
theorem kon_11_0_33 {R : zMR} (h : Kon R) : R 11 0 33 = some (54, 0) := h 11 0 33 (by omega)
theorem kon_11_0_34 {R : zMR} (h : Kon R) : R 11 0 34 = some (55, 0) := h 11 0 34 (by omega)
theorem kon_11_0_42 {R : zMR} (h : Kon R) : R 11 0 42 = some (56, 0) := h 11 0 42 (by omega)
theorem kon_11_0_43 {R : zMR} (h : Kon R) : R 11 0 43 = some (57, 0) := h 11 0 43 (by omega)
theorem kon_11_0_44 {R : zMR} (h : Kon R) : R 11 0 44 = some (58, 0) := h 11 0 44 (by omega)
theorem kon_11_0_45 {R : zMR} (h : Kon R) : R 11 0 45 = some (59, 0) := h 11 0 45 (by omega)
theorem kon_11_0_46 {R : zMR} (h : Kon R) : R 11 0 46 = some (60, 0) := h 11 0 46 (by omega)
theorem kon_11_0_47 {R : zMR} (h : Kon R) : R 11 0 47 = some (61, 0) := h 11 0 47 (by omega)
theorem kon_11_0_48 {R : zMR} (h : Kon R) : R 11 0 48 = some (62, 0) := h 11 0 48 (by omega)
theorem kon_11_0_49 {R : zMR} (h : Kon R) : R 11 0 49 = some (63, 0) := h 11 0 49 (by omega)
theorem kon_11_0_54 {R : zMR} (h : Kon R) : R 11 0 54 = some (64, 0) := h 11 0 54 (by omega)
theorem kon_21 {R : zMR} (h : Kon R) {j : Nat} (hj : j < 3) : R 21 0 j = some (2, j + 1) := by
  rw [h 21 0 j (by omega)]
  show (if j < 3 then some (2, j + 1) else none) = _
  rw [if_pos hj]
theorem kon_22 {R : zMR} (h : Kon R) {j : Nat} (hj : j < 80) : R 22 0 j = some (4, j) := by
  rw [h 22 0 j (by omega)]
  show (if j < 80 then some (4, j) else none) = _
  rw [if_pos hj]
theorem kon_23 {R : zMR} (h : Kon R) {j : Nat} (hj : j < 80) : R 23 0 j = some (3, j) := by
  rw [h 23 0 j (by omega)]
  show (if j < 80 then some (3, j) else none) = _
  rw [if_pos hj]
theorem kon_24 {R : zMR} (h : Kon R) {j : Nat} (hj : j < 32) : R 24 0 j = some (5, j) := by
  rw [h 24 0 j (by omega)]
  show (if j < 32 then some (5, j) else none) = _
  rw [if_pos hj]
