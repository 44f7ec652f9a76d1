theorem zOk_112 : ([112, 113, 114, 115] : List Nat).all (fun y => zMok y && (zCd y).all (zEok y)) = true := by decide +kernel
theorem zOk_116 : ([116, 117, 118, 119] : List Nat).all (fun y => zMok y && (zCd y).all (zEok y)) = true := by decide +kernel
theorem zOk_120 : ([120, 121, 122, 123] : List Nat).all (fun y => zMok y && (zCd y).all (zEok y)) = true := by decide +kernel
theorem zOk_124 : ([124, 125, 126, 127] : List Nat).all (fun y => zMok y && (zCd y).all (zEok y)) = true := by decide +kernel
theorem zOk_128 : ([128] : List Nat).all (fun y => zMok y && (zCd y).all (zEok y)) = true := by decide +kernel
