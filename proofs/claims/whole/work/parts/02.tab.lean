/-! where a method's words stand in lw_tbl: code; instance or static; selects; initialized; its kind (0 by its receiver, 1 static, 2 constructor, 9 none) -/
def zMp : List (Nat × Nat × Nat × Nat × Nat) := [(1031, 1030, 0, 1001, 2), (1039, 1038, 0, 1002, 2), (1056, 1055, 0, 1003, 2), (1063, 1062, 0, 1004, 2), (1089, 1088, 0, 1005, 2), (1118, 1117, 0, 1006, 2), (1178, 1177, 0, 1007, 2), (1207, 1206, 0, 1008, 2), (2040, 2039, 0, 1009, 2), (2056, 2055, 0, 1010, 2), (2069, 2068, 0, 1011, 2), (2133, 2131, 2132, 1001, 0), (2137, 2135, 2136, 1002, 0), (2140, 2139, 0, 1002, 1), (2143, 2142, 0, 1002, 1), (2147, 2145, 2146, 1001, 0), (2151, 2149, 2150, 1001, 0), (2155, 2153, 2154, 1011, 0), (2159, 2157, 2158, 1009, 0), (2163, 2161, 2162, 1003, 0), (2167, 2166, 0, 1009, 0), (2171, 2170, 1, 1009, 0), (2175, 2174, 2, 1009, 0), (2179, 2177, 2178, 1003, 0), (2183, 2182, 3, 1009, 0), (2187, 2186, 4, 1009, 0), (2191, 2190, 5, 1009, 0), (2195, 2193, 2194, 1003, 0), (2199, 2198, 6, 1009, 0), (2203, 2202, 7, 1009, 0), (2207, 2205, 2206, 1003, 0), (2211, 2210, 8, 1009, 0), (2215, 2214, 9, 1009, 0), (2219, 2218, 10, 1009, 0), (2223, 2221, 2222, 1005, 0), (2227, 2226, 11, 1009, 0), (3078, 3077, 12, 1009, 0), (3082, 3081, 13, 1009, 0), (3086, 3085, 14, 1009, 0), (3090, 3089, 15, 1009, 0), (3094, 3093, 16, 1009, 0), (3098, 3096, 3097, 1006, 0), (3102, 3100, 3101, 1003, 0), (3106, 3104, 3105, 1010, 0), (3110, 3109, 17, 1010, 0), (3114, 3112, 3113, 1003, 0), (3117, 3116, 0, 1010, 1), (3120, 3119, 0, 1010, 1), (3123, 3122, 0, 1010, 1), (3127, 3126, 18, 1010, 0), (3131, 3130, 19, 1010, 0), (3135, 3134, 20, 1010, 0), (3139, 3138, 21, 1010, 0), (3143, 3142, 22, 1010, 0), (3147, 3146, 23, 1010, 0), (3153, 3151, 3152, 1001, 0), (0, 0, 0, 0, 9), (3162, 3160, 3161, 1001, 0), (4009, 4007, 4008, 1011, 0), (4014, 4013, 25, 1011, 0), (4020, 4019, 26, 1011, 0), (4026, 4025, 27, 1011, 0), (4030, 4028, 4029, 1005, 0), (4033, 4032, 0, 1005, 1), (4037, 4036, 28, 1011, 0), (4043, 4042, 29, 1011, 0), (4047, 4046, 30, 1011, 0), (4051, 4050, 31, 1011, 0), (4061, 4060, 32, 1011, 0), (4065, 4064, 33, 1011, 0), (4070, 4069, 34, 1011, 0), (4075, 4074, 35, 1011, 0), (0, 0, 0, 0, 9), (4083, 4081, 4082, 1001, 0), (0, 0, 0, 0, 9), (4106, 4104, 4105, 1001, 0), (0, 0, 0, 0, 9), (4114, 4112, 4113, 1001, 0), (0, 0, 0, 0, 9), (4122, 4120, 4121, 1001, 0), (4128, 4127, 0, 1012, 2), (5062, 5060, 5061, 1012, 0), (5066, 5064, 5065, 1012, 0), (5071, 5069, 5070, 1012, 0), (5075, 5073, 5074, 1012, 0), (5079, 5078, 36, 1012, 0), (5083, 5082, 37, 1012, 0), (5087, 5086, 38, 1012, 0), (5091, 5090, 39, 1012, 0), (5094, 5093, 0, 1012, 1), (5098, 5097, 40, 1012, 0), (5102, 5101, 41, 1012, 0), (5106, 5105, 42, 1012, 0), (5110, 5109, 43, 1012, 0), (5114, 5113, 44, 1012, 0), (5118, 5117, 45, 1012, 0), (5122, 5121, 46, 1012, 0), (5126, 5125, 47, 1012, 0), (5130, 5129, 48, 1012, 0), (5134, 5133, 49, 1012, 0), (5138, 5137, 50, 1012, 0), (5142, 5141, 51, 1012, 0), (5145, 5144, 0, 1012, 1), (5149, 5148, 52, 1012, 0), (5153, 5152, 53, 1012, 0), (5157, 5156, 54, 1012, 0), (5161, 5160, 55, 1012, 0), (5165, 5164, 56, 1012, 0), (5168, 5167, 0, 1012, 1), (5172, 5171, 57, 1012, 0), (5176, 5174, 5175, 1012, 0), (5180, 5179, 58, 1012, 0), (5184, 5183, 59, 1012, 0), (5188, 5187, 60, 1012, 0), (5192, 5191, 61, 1012, 0), (5196, 5195, 62, 1012, 0), (5200, 5199, 63, 1012, 0), (5204, 5203, 64, 1012, 0), (5208, 5207, 65, 1012, 0), (5212, 5211, 66, 1012, 0), (5216, 5215, 67, 1012, 0), (5220, 5219, 68, 1012, 0), (5224, 5223, 69, 1012, 0), (5228, 5226, 5227, 1012, 0), (5232, 5230, 5231, 1012, 0), (5236, 5234, 5235, 1012, 0), (6000, 5238, 5239, 1012, 0), (6004, 6002, 6003, 1012, 0), (0, 0, 0, 0, 9)]
def zFp : List (List Nat) := [[2119, 2121, 2123, 2125, 2127], [1046, 1048], [1074, 1076, 1078, 1080], [1193, 1195, 1197, 1199, 1201], [1152, 1154, 1156, 1158, 1160, 1162, 1164, 1166, 1168, 1170, 1172], [1220, 1222, 1224, 1226], [1099, 1101, 1103, 1105, 1107], [2013, 2015, 2017, 2019, 2021, 2023, 2025, 2027, 2029, 2031, 2033], [2045, 2047, 2049], [2060, 2062], [2091, 2093, 2095, 2097, 2099, 2101, 2103, 2105, 2107, 2109, 2111], [4186, 4188, 4190, 4192, 4194, 4196, 4198, 4200, 4202, 4204, 4206, 4208, 4210, 4212, 4214, 4216, 4218, 4220, 4222, 4224, 4226, 4228, 4230, 4232, 4234, 4236, 4238, 5000, 5002, 5004, 5006, 5008, 5010, 5012, 5014, 5016, 5018, 5020, 5022, 5024, 5026, 5028, 5030, 5032, 5034, 5036, 5038, 5040, 5042, 5044, 5046, 5048, 5050, 5052, 5054, 5056]]
def zIp : List (Nat × Nat) := [(1028, 1001), (1036, 1002), (1060, 1004), (1175, 1007), (1115, 1006), (1204, 1008), (1086, 1005), (1053, 1003), (2037, 1009), (2053, 1010), (2066, 1011), (4125, 1012)]
def zNestP : List Nat := [1037, 1061, 1087, 1116, 1176, 1205]
def zOverP : List Nat := [1059, 1084, 1112, 1114]
def zTb (k : Nat) : List Cond := match k with
  | 0 => k2_sels lw_privs
  | 1 => tables_1_1
  | 2 => tables_1_2
  | 3 => tables_1_3
  | 4 => tables_1_4
  | 5 => tables_1_5
  | _ => tables_1_6
def zTw (p : Nat) : Option Cond := (zTb (p / 1000))[p % 1000]?
/-- a method's class, its return's kind, the places that its locals have; the methods that throw, the law's that catch, and where -/
def zMe (y : Nat) : zMt := zMs.getD y (0, "", "", ⟨#[]⟩, 0, none)
def zOw (y : Nat) : Nat := if y = 900 then 91 else (zMe y).1
def zRt (y : Nat) : Nat := match (zMe y).2.2.2.2.2 with
  | some .boolean => 1
  | some .char => 2
  | _ => 0
def zMx (y : Nat) : Nat := (zMe y).2.2.2.2.1
def zThr (y : Nat) : Bool := y == 57 || y == 73 || y == 75 || y == 77 || y == 79
def zHd (y e : Nat) : Option Nat := if y = 56 then (if e = 92 then some 12 else if e = 93 then some 15 else none) else if y = 72 ∨ y = 74 then (if e = 94 then some 12 else none) else if y = 76 then (if e = 93 then some 12 else none) else if y = 78 then (if e = 92 then some 12 else none) else none
def zY (y : Nat) : MethodName := ⟨zNm (zMe y).1, (zMe y).2.1, (zMe y).2.2.1⟩
def zB (y : Nat) : ByteArray := (zMe y).2.2.2.1
def zRet (y : Nat) : Option FieldType := (zMe y).2.2.2.2.2
def zP (y : Nat) : Nat × Nat × Nat × Nat × Nat := zMp.getD y (0, 0, 0, 0, 9)
def zIl (i : Instr) : Nat := match i with
  | .aload _ => 2
  | .iload _ => 2
  | .istore _ => 2
  | .astore _ => 2
  | .bipush _ => 2
  | .ldc _ => 2
  | .newarray _ => 2
  | .iinc _ _ => 3
  | .sipush _ => 3
  | .ldc2_w _ => 3
  | .getfield _ => 3
  | .putfield _ => 3
  | .getstatic _ => 3
  | .invokevirtual _ => 3
  | .invokespecial _ => 3
  | .invokestatic _ => 3
  | .new _ => 3
  | .anewarray _ => 3
  | .goto _ => 3
  | .ifCond _ _ => 3
  | .if_icmp _ _ => 3
  | .if_acmp _ _ => 3
  | .ifnull _ => 3
  | .ifnonnull _ => 3
  | _ => 1
def zTc (t : FieldType) : Nat := match t with
  | .int => 0
  | .boolean => 1
  | .char => 2
  | .object _ => 3
  | .array _ => 3
  | .long => 4
  | _ => 9
def zWayN : List String := ["AT_ITS_END", "BREAK", "CONTINUE", "RETURN", "RAISE", "FUEL_GONE"]
def zWayC : String := "LeavingMachine$Way"
def zWayD : String := "LLeavingMachine$Way;"
def zArC (c : Nat) : String := if c = 21 then "LeavingMachine$Procedure" else if c = 22 then "LeavingMachine$Statement" else if c = 23 then "LeavingMachine$Block" else "LeavingMachine$Catch"
/-- the class of what an array of references holds, by its tag -/
def zArT (c : Nat) : Nat := if c = 21 then 2 else if c = 22 then 4 else if c = 23 then 3 else 5
/-- the words of one instruction stand where the table says -/
def zEw (y : Nat) (i : Instr) (a b c p : Nat) : Bool := match i with
  | .getfield x => decide (zTw p = some (.fieldLink (zNm (zOw y)) x (zNm a) (zT a b).2.1 (zT a b).2.2.1)) && decide (a < 12) && decide (b < zN a) && decide (zTc (zTy a b) = c) && decide (c ≤ 3)
  | .putfield x => decide (zTw p = some (.fieldLink (zNm (zOw y)) x (zNm a) (zT a b).2.1 (zT a b).2.2.1)) && decide (a < 12) && decide (b < zN a) && decide (zTc (zTy a b) = c) && decide (c ≤ 3) && (!(zT a b).2.2.2 || (decide ((zMe y).2.1 = "<init>") && decide (zOw y = a)))
  | .getstatic x => decide (zTw p = some (.fieldLink (zNm (zOw y)) x zWayC (zWayN.getD b "") zWayD)) && decide (a = 90) && decide (b < 6)
  | .invokevirtual x => decide (c = 6) || ((!zThr a || decide ((zP y).2.2.2.2 = 9)) && decide (zTw p = some (.methodLink (zNm (zOw y)) x (zY a))) && decide (c = 0) && decide (a < 128) && decide ((zP a).2.2.2.2 = 0 ) && decide ((parseMethodDescriptor (zY a).desc).map (fun d => d.parameters.length + 1) = some b))
  | .invokestatic x => decide (c = 5) || (zP a).2.2.2.2 == 9 || (decide (zTw p = some (.methodLink (zNm (zOw y)) x (zY a))) && decide (c = 1) && decide (a < 128) && decide ((zP a).2.2.2.2 = 1) && decide ((parseMethodDescriptor (zY a).desc).map (fun d => d.parameters.length) = some b))
  | .invokespecial x => decide (c = 7) || (decide (c = 4) && decide (zTw p = some (.methodLink (zNm (zOw y)) x objectInit))) ||
      (decide (a < 128) && decide ((zP a).2.2.2.2 = 2) && decide ((parseMethodDescriptor (zY a).desc).map (fun d => d.parameters.length + 1) = some b) &&
        ((decide (c = 2) && decide (zTw p = some (.methodLink (zNm (zOw y)) x (zY a)))) || (decide (c = 3) && decide (zTw p = some (.methodLinkNest (zNm (zOw y)) x (zY a) "LeavingMachine")) && decide (p ∈ zNestP))))
  | .new x => decide (c = 7) || (decide (c = 0) && decide (a < 12) && decide (b = zN a) && decide (zTw p = some (.classLink (zNm (zOw y)) x (zNm a))))
  | .newarray t => decide (20 ≤ a) && decide (zArr a = some (c, b)) && (match t with
    | .int => decide (c = 0)
    | .char => decide (c = 2)
    | .long => decide (c = 4)
    | _ => false)
  | .anewarray x => decide (20 ≤ a) && decide (zArr a = some (3, b)) && decide (c = 3) && decide (a = 21 ∨ a = 22 ∨ a = 23 ∨ a = 24) && decide (zTw p = some (.classLink (zNm (zOw y)) x (zArC a)))
  | .ldc2_w x => decide (zTw p = some (.constantLong (zNm (zOw y)) x (Int64.ofInt a)))
  | .bipush v => decide (-128 ≤ v) && decide (v < 128)
  | .sipush v => decide (-32768 ≤ v) && decide (v < 32768)
  | .lookupswitch _ ps => (ps.toList.zip (ps.toList.drop 1)).all (fun (a, next) => a.1 < next.1) && ps.toList.all (fun q => decide (-2147483648 ≤ q.1) && decide (q.1 < 2147483648))
  | _ => true
def zSw (i : Instr) : Bool := match i with
  | .tableswitch .. => true
  | .lookupswitch .. => true
  | _ => false
def zEok (y : Nat) (e : zE) : Bool := decide (decode (zB y) e.1 = .ok (e.2.1, e.2.2.1)) && (zSw e.2.1 || decide (e.2.2.1 = zIl e.2.1)) && zEw y e.2.1 e.2.2.2.1 e.2.2.2.2.1 e.2.2.2.2.2.1 e.2.2.2.2.2.2
/-- a method's own words -/
def zMok (y : Nat) : Bool := (zP y).2.2.2.2 == 9 || (decide (zTw (zP y).1 = some (.code (zY y) (zB y) (zMx y) (zRet y))) && decide (zTw (zP y).2.1 = some (if (zP y).2.2.2.2 = 1 then .static (zY y) else .instanceMethod (zY y))) &&
  ((zP y).2.2.2.2 != 0 || decide (zTw (zP y).2.2.1 = some (.selects (zY y).cls (zY y) (zY y)))) && decide (zTw (zP y).2.2.2.1 = some (.initialized (zY y).cls)) && plainName (zY y).cls && decide (zMx y ≤ 9) && ((zP y).2.2.2.2 != 2 || decide ((zY y).name = "<init>" ∧ zRet y = none)))
