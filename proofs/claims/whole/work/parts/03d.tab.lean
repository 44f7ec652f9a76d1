theorem zOk_96 : ([96, 97, 98, 99] : List Nat).all (fun y => zMok y && (zCd y).all (zEok y)) = true := by decide +kernel
theorem zOk_100 : ([100, 101, 102, 103] : List Nat).all (fun y => zMok y && (zCd y).all (zEok y)) = true := by decide +kernel
theorem zOk_104 : ([104, 105, 106, 107] : List Nat).all (fun y => zMok y && (zCd y).all (zEok y)) = true := by decide +kernel
theorem zOk_108 : ([108, 109, 110, 111] : List Nat).all (fun y => zMok y && (zCd y).all (zEok y)) = true := by decide +kernel
