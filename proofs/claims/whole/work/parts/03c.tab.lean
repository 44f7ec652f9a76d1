theorem zOk_80 : ([80, 81, 82, 83] : List Nat).all (fun y => zMok y && (zCd y).all (zEok y)) = true := by decide +kernel
theorem zOk_84 : ([84, 85, 86, 87] : List Nat).all (fun y => zMok y && (zCd y).all (zEok y)) = true := by decide +kernel
theorem zOk_88 : ([88, 89, 90, 91] : List Nat).all (fun y => zMok y && (zCd y).all (zEok y)) = true := by decide +kernel
theorem zOk_92 : ([92, 93, 94, 95] : List Nat).all (fun y => zMok y && (zCd y).all (zEok y)) = true := by decide +kernel
