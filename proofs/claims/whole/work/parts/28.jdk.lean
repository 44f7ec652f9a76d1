/-! the eight methods of the JDK -/
def zJg (b : Int32) : Nat → Nat → Int32
  | 0, _ => -1
  | n + 1, j => if zOpb j = b then Int32.ofInt j else zJg b n (j + 1)
def zJx (x : Int) : Int32 := if 0 ≤ zw x ∧ zw x ≤ 255 then zJg (Int32.ofInt x).toInt8.toInt32 5 0 else -1
theorem zJx_all : (List.range 256).all (fun k => decide (zJg (Int32.ofInt (k : Int)).toInt8.toInt32 5 0 = Int32.ofInt (zops (k : Int)))) = true := by decide +kernel
theorem zJx_ops (x : Int) : zJx x = Int32.ofInt (zops (zw x)) := by
  unfold zJx
  split
  · rename_i h
    have h1 := List.all_eq_true.mp zJx_all (zw x).toNat (List.mem_range.mpr (by omega))
    rw [decide_eq_true_eq, show (((zw x).toNat : Nat) : Int) = zw x by omega] at h1
    rw [← zo_w x]
    exact h1
  · rename_i h
    have h1 : zops (zw x) = -1 := by
      unfold zops
      rw [if_neg (by omega), if_neg (by omega), if_neg (by omega), if_neg (by omega), if_neg (by omega)]
    rw [h1]
    decide
section JW
variable {l : Launch} {A : Nat → Prop} {a t : Nat}
theorem zJ0 : Met l (zJn 0) (zJw 0) (zJR 0 0) (zJP A a t [.ref a]) (zJQ 1) 0 0 (fun _ => False) := by
  refine zJ_met (by decide) ?_
  intro p e s m below meth c hx hb hml hr hlk hown hts hw
  obtain ⟨w1, w2, w3, w4, w5⟩ := hw
  refine va_gets hx hb w5 va_S.rf hown (hts _ (zGW_of (p := 3001) rfl rfl)) (fun _ h => h) (by decide +kernel) ?_
  refine lv_if_eq hx hb (off := 14) (tgt := 17) (by decide +kernel) (by decide) (fun h => absurd h (by decide)) (fun _ => ?_)
  refine lv_aload_n hx hb (k := 0) (i := 0) (x := a) (by decide +kernel) rfl rfl ?_
  refine vk_getf hx hb w2 va_S.rf hown (hts _ (zGW_of (p := 6008) rfl rfl)) (fun _ h => h) (by decide +kernel) ?_
  refine lv_if_ne hx hb (off := 7) (tgt := 17) (by decide +kernel) (by decide) (fun h => absurd rfl h) (fun _ => ?_)
  refine lv_iconst hx hb (n := 1) (v := 1) (by decide +kernel) rfl ?_
  refine lv_goto hx hb (off := 4) (tgt := 18) (by decide +kernel) (by decide) ?_
  exact W.zret hx hb hr rfl (fun t ht _ => ⟨rfl, ht⟩) (fun q hq => by cases hq) (by decide +kernel)
theorem zJ1 : Met l (zJn 1) (zJw 1) (zJR 0 0) (zJP A a t [.ref a]) (zJQ 0) 0 0 (fun _ => False) := by
  refine zJ_met (by decide) ?_
  intro p e s m below meth c hx hb hml hr hlk hown hts hw
  obtain ⟨w1, w2, w3, w4, w5⟩ := hw
  refine va_gets hx hb w5 va_S.rf hown (hts _ (zGW_of (p := 3001) rfl rfl)) (fun _ h => h) (by decide +kernel) ?_
  refine lv_if_eq hx hb (off := 10) (tgt := 13) (by decide +kernel) (by decide) (fun h => absurd h (by decide)) (fun _ => ?_)
  refine lv_aload_n hx hb (k := 0) (i := 0) (x := a) (by decide +kernel) rfl rfl ?_
  refine vk_getf hx hb w2 va_S.rf hown (hts _ (zGW_of (p := 6008) rfl rfl)) (fun _ h => h) (by decide +kernel) ?_
  refine lv_goto hx hb (off := 4) (tgt := 14) (by decide +kernel) (by decide) ?_
  exact W.zret hx hb hr rfl (fun t ht _ => ⟨rfl, ht⟩) (fun q hq => by cases hq) (by decide +kernel)
theorem zJ2 : Met l (zJn 2) (zJw 2) (zJR 1 20) (zJP A a t [.ref a]) (zJQ (Int32.ofInt 5)) 0 0 (fun _ => False) := by
  refine zJ_met (by decide) ?_
  intro p e s m below meth c hx hb hml hr hlk hown hts hw
  obtain ⟨w1, w2, w3, w4, w5⟩ := id hw
  refine lv_aload_n hx hb (k := 0) (i := 0) (x := a) (by decide +kernel) rfl rfl ?_
  refine vk_getf hx hb w3 va_S.rf hown (hts _ (zGW_of (p := 6009) rfl rfl)) (fun _ h => h) (by decide +kernel) ?_
  refine va_tlen hx hb w4 va_S.rf (v := Int32.ofInt 5) (by decide) (by decide +kernel) ?_
  refine lv_aload_n hx hb (k := 0) (i := 0) (x := a) (by decide +kernel) rfl rfl ?_
  refine zJ_callV (k := 1) (f := 0) (n := 0) (vs := []) (own := zJs) (by decide) zJ1 hx hb hml hown hts (zGW_of (p := 3007) rfl rfl) hw va_S.rf rfl (Nat.le_refl _) (by decide) (Nat.le_refl _) (Nat.le_refl _) (by decide) (by decide +kernel) ?_
  refine lv_ishr hx hb (by decide +kernel) ?_
  exact W.zret (v := Int32.ofInt 5) hx hb hr rfl (fun t ht _ => ⟨rfl, ht⟩) (fun q hq => by cases hq) (by decide +kernel)
theorem zJ6 {x : Int} : Met l (zJn 6) (zJw 6) (zJR 0 0) (zJP A a t [.int (Int32.ofInt x)]) (zJQ (if 0 ≤ zw x ∧ zw x ≤ 255 then 1 else 0)) 0 0 (fun _ => False) := by
  refine zJ_met (by decide) ?_
  intro p e s m below meth c hx hb hml hr hlk hown hts hw
  have k0 : W p l e (zJR 0 0) s m [Value.int (Int32.ofInt x)].toArray below meth c s.heap [] 0 0 (MQ below (zJQ 0) [Value.int (Int32.ofInt x)].toArray s 0 0 (fun _ => False)) (F0 m 15 ((lg_sl [Value.int (Int32.ofInt x)] ++ List.replicate (zJm 6 - (lg_sl [Value.int (Int32.ofInt x)]).length) Slot.unset).toArray) []) := by
    refine lv_iconst hx hb (n := 0) (v := 0) (by decide +kernel) rfl ?_
    exact W.zret hx hb hr rfl (fun t ht _ => ⟨rfl, ht⟩) (fun q hq => by cases hq) (by decide +kernel)
  refine lv_iload_n hx hb (k := 0) (i := 0) (x := Int32.ofInt x) (by decide +kernel) rfl rfl ?_
  refine lv_if_lt hx hb (off := 14) (tgt := 15) (by decide +kernel) (by decide) (fun h => ?_) (fun h => ?_)
  · rw [← zo_0, zo_lt, zw_0] at h
    rw [if_neg (by omega)]
    exact k0
  · rw [← zo_0, zo_lt, zw_0] at h
    refine lv_iload_n hx hb (k := 0) (i := 0) (x := Int32.ofInt x) (by decide +kernel) rfl rfl ?_
    refine lv_sipush hx hb (n := 255) (v := Int32.ofInt 255) (by decide +kernel) (by decide) ?_
    refine lv_icmp_gt hx hb (off := 7) (tgt := 15) (by decide +kernel) (by decide) (fun h2 => ?_) (fun h2 => ?_)
    · have h3 : zw 255 < zw x := zo_lt.mp h2
      rw [zw_id (by decide) (by decide)] at h3
      rw [if_neg (by omega)]
      exact k0
    · have h3 : ¬ zw 255 < zw x := fun q => h2 (zo_lt.mpr q)
      rw [zw_id (a := 255) (by decide) (by decide)] at h3
      rw [if_pos (by omega)]
      refine lv_iconst hx hb (n := 1) (v := 1) (by decide +kernel) rfl ?_
      refine lv_goto hx hb (off := 4) (tgt := 16) (by decide +kernel) (by decide) ?_
      exact W.zret hx hb hr rfl (fun t ht _ => ⟨rfl, ht⟩) (fun q hq => by cases hq) (by decide +kernel)
def zJL (x b : Int) (j : Nat) : zL := [some (zq (some (0, 0))), some (zi x), some (zi 0), some (zi 5), some (zi b), some (zi j)]
theorem zJ7_loop {p : Program} {e : Env} {s : State} {m : MethodId} {args : Array Value} {below : List Frame} {meth : Method} {c : Code} {x b : Int} {r : Int32} (hx : p.tables.exec = Jvm.exec) (hb : c.code = zJb 7) (hr : meth.sig.returnType = some (zJt 7)) (hlk : meth.locks = false) (w4 : va_T .byte t 5 (fun j => .int (zOpb j)) A s s.heap) :
    ∀ (n j : Nat) (ls : Array Slot), j + n = 5 → zLv ls 6 (fun _ _ => t) (zJL x b j) → r = zJg (Int32.ofInt b) n j → W p l e (zJR 0 0) s m args below meth c s.heap [] 0 0 (MQ below (zJQ r) args s 0 0 (fun _ => False)) (F0 m 7 ls []) := by
  intro n
  induction n with
  | zero =>
    intro j ls hj hl hrr
    obtain rfl : j = 5 := by omega
    refine lv_iload hx hb (i := 5) (x := Int32.ofInt 5) (by decide +kernel) (hl.at (v := zi 5) rfl) ?_
    refine lv_iload_n hx hb (k := 3) (i := 3) (x := Int32.ofInt 5) (by decide +kernel) rfl (hl.at (v := zi 5) rfl) ?_
    refine lv_icmp_ge hx hb (off := 21) (tgt := 31) (by decide +kernel) (by decide) (fun _ => ?_) (fun h => absurd (by decide) h)
    refine lv_iconst hx hb (n := -1) (v := -1) (by decide +kernel) rfl ?_
    subst hrr
    exact W.zret hx hb hr rfl (fun t ht _ => ⟨rfl, ht⟩) (fun q hq => by cases hq) (by decide +kernel)
  | succ n ih =>
    intro j ls hj hl hrr
    have hj5 : j < 5 := by omega
    refine lv_iload hx hb (i := 5) (x := Int32.ofInt j) (by decide +kernel) (hl.at (v := zi j) rfl) ?_
    refine lv_iload_n hx hb (k := 3) (i := 3) (x := Int32.ofInt 5) (by decide +kernel) rfl (hl.at (v := zi 5) rfl) ?_
    refine lv_icmp_ge hx hb (off := 21) (tgt := 31) (by decide +kernel) (by decide) (fun h => ?_) (fun _ => ?_)
    · have h2 := zo_le.mp h
      rw [zw_id (by decide) (by decide), zw_id (by omega) (by omega)] at h2
      omega
    · refine lv_aload_n hx hb (k := 0) (i := 0) (x := t) (by decide +kernel) rfl (hl.at (v := zq (some (0, 0))) rfl) ?_
      refine lv_iload hx hb (i := 5) (x := Int32.ofInt j) (by decide +kernel) (hl.at (v := zi j) rfl) ?_
      refine va_tb hx hb w4 va_S.rf (v := .int (zOpb j)) (zo_in (by rw [zw_id (by omega) (by omega)]; omega)) (by rw [zo_clamp, zw_id (by omega) (by omega)]; rfl) (by decide +kernel) ?_
      refine lv_iload hx hb (i := 4) (x := Int32.ofInt b) (by decide +kernel) (hl.at (v := zi b) rfl) ?_
      refine lv_icmp_ne hx hb (off := 6) (tgt := 25) (by decide +kernel) (by decide) (fun h => ?_) (fun h => ?_)
      · refine zr_iinc (k := 5) (v := 1) (x := j) hx hb (by decide +kernel) hl rfl (fun ls' hl' => ?_)
        refine lv_goto hx hb (off := -21) (tgt := 7) (by decide +kernel) (by decide) ?_
        refine ih (j + 1) ls' (by omega) hl' ?_
        rw [hrr, zJg, if_neg h]
      · refine lv_iload hx hb (i := 5) (x := Int32.ofInt j) (by decide +kernel) (hl.at (v := zi j) rfl) ?_
        rw [zJg, if_pos h] at hrr
        subst hrr
        exact W.zret hx hb hr rfl (fun t ht _ => ⟨rfl, ht⟩) (fun q hq => by cases hq) (by decide +kernel)
theorem zJ7 {x : Int} : Met l (zJn 7) (zJw 7) (zJR 0 0) (zJP A a t [.ref t, .int (Int32.ofInt x), .int (Int32.ofInt 0), .int (Int32.ofInt 5)]) (zJQ (zJg (Int32.ofInt x).toInt8.toInt32 5 0)) 0 0 (fun _ => False) := by
  refine zJ_met (by decide) ?_
  intro p e s m below meth c hx hb hml hr hlk hown hts hw
  obtain ⟨w1, w2, w3, w4, w5⟩ := hw
  have hl := zent_lv (ad := fun _ _ => t) (as := [zq (some (0, 0)), zi x, zi 0, zi 5]) (n := 6) (by show 4 ≤ 6; decide)
  refine lv_iload_n hx hb (k := 1) (i := 1) (x := Int32.ofInt x) (by decide +kernel) rfl (hl.at (v := zi x) rfl) ?_
  refine lv_i2b hx hb (v := Int32.ofInt ((Int32.ofInt x).toInt8.toInt32).toInt) (by decide +kernel) (zo_of _).symm ?_
  refine zr_istore (k := 4) hx hb (by decide +kernel) hl (by decide) (fun ls1 hl1 => ?_)
  refine lv_iload_n hx hb (k := 2) (i := 2) (x := Int32.ofInt 0) (by decide +kernel) rfl (hl1.at (v := zi 0) rfl) ?_
  refine zr_istore (ad := fun _ _ => t) (x := 0) (k := 5) hx hb (by decide +kernel) hl1 (by decide) (fun ls2 hl2 => ?_)
  refine zJ7_loop hx hb hr hlk w4 5 0 ls2 rfl hl2 ?_
  rw [zo_of]
theorem zJmin {x y : Int32} (h : x = y) : (if x < y then x else y) = y := by
  subst h
  split <;> rfl
theorem zJ5 {x : Int} : Met l (zJn 5) (zJw 5) (zJR 1 30) (zJP A a t [.ref t, .int (Int32.ofInt x), .int (Int32.ofInt 0), .int (Int32.ofInt 5)]) (zJQ (zJx x)) 0 0 (fun _ => False) := by
  refine zJ_met (by decide) ?_
  intro p e s m below meth c hx hb hml hr hlk hown hts hw
  obtain ⟨w1, w2, w3, w4, w5⟩ := id hw
  have hl := zent_lv (ad := fun _ _ => t) (as := [zq (some (0, 0)), zi x, zi 0, zi 5]) (n := 4) (by show 4 ≤ 4; decide)
  refine lv_iload_n hx hb (k := 1) (i := 1) (x := Int32.ofInt x) (by decide +kernel) rfl (hl.at (v := zi x) rfl) ?_
  refine zJ_callS (k := 6) (f := 0) (n := 0) (vs := [.int (Int32.ofInt x)]) (own := zJl) (by decide) (by decide) zJ6 hx hb (hml.trans hl.2.1.symm) hown hts (zGW_of (p := 3014) rfl rfl) hw va_S.rf rfl (Nat.le_refl _) (by decide) (Nat.le_refl _) (Nat.le_refl _) (by decide) (by decide +kernel) ?_
  unfold zJx
  by_cases hin : 0 ≤ zw x ∧ zw x ≤ 255
  · rw [if_pos hin, if_pos hin]
    refine lv_if_ne hx hb (off := 5) (tgt := 9) (by decide +kernel) (by decide) (fun _ => ?_) (fun h => absurd h (by decide))
    refine lv_iload_n hx hb (k := 2) (i := 2) (x := Int32.ofInt 0) (by decide +kernel) rfl (hl.at (v := zi 0) rfl) ?_
    refine lv_iconst hx hb (n := 0) (v := Int32.ofInt 0) (by decide +kernel) rfl ?_
    refine va_mmax (own := zJl) hx hb (hml.trans hl.2.1.symm) hown (hts _ (zGW_of (p := 3017) rfl rfl)) (hts _ (zGW_of (p := 3018) rfl rfl)) (hts _ (zGW_of (p := 1015) rfl rfl)) (hts _ (zGW_of (p := 3019) rfl rfl)) (by decide) (by decide) (Nat.le_refl _) (Nat.le_refl _) (by decide +kernel) ?_
    refine zr_istore_n (ad := fun _ _ => t) (x := 0) (k := 2) hx hb (by decide +kernel) hl (by decide) (fun ls1 hl1 => ?_)
    refine lv_iload_n hx hb (k := 3) (i := 3) (x := Int32.ofInt 5) (by decide +kernel) rfl (hl1.at (v := zi 5) rfl) ?_
    refine lv_aload_n hx hb (k := 0) (i := 0) (x := t) (by decide +kernel) rfl (hl1.at (v := zq (some (0, 0))) rfl) ?_
    refine va_tlen hx hb w4 va_S.rf (v := Int32.ofInt 5) (by decide) (by decide +kernel) ?_
    refine va_mmin (own := zJl) hx hb (hml.trans hl1.2.1.symm) hown (hts _ (zGW_of (p := 3020) rfl rfl)) (hts _ (zGW_of (p := 3021) rfl rfl)) (hts _ (zGW_of (p := 1015) rfl rfl)) (hts _ (zGW_of (p := 3022) rfl rfl)) (by decide) (by decide) (Nat.le_refl _) (Nat.le_refl _) (by decide +kernel) ?_
    refine zr_istore_n (ad := fun _ _ => t) (x := 5) (k := 3) hx hb (by decide +kernel) hl1 (by decide) (fun ls2 hl2 => ?_)
    refine lv_iload_n hx hb (k := 2) (i := 2) (x := Int32.ofInt 0) (by decide +kernel) rfl (hl2.at (v := zi 0) rfl) ?_
    refine lv_iload_n hx hb (k := 3) (i := 3) (x := Int32.ofInt 5) (by decide +kernel) rfl (hl2.at (v := zi 5) rfl) ?_
    refine lv_icmp_lt hx hb (off := 5) (tgt := 29) (by decide +kernel) (by decide) (fun _ => ?_) (fun h => absurd (by decide) h)
    refine lv_aload_n hx hb (k := 0) (i := 0) (x := t) (by decide +kernel) rfl (hl2.at (v := zq (some (0, 0))) rfl) ?_
    refine lv_iload_n hx hb (k := 1) (i := 1) (x := Int32.ofInt x) (by decide +kernel) rfl (hl2.at (v := zi x) rfl) ?_
    refine lv_iload_n hx hb (k := 2) (i := 2) (x := Int32.ofInt 0) (by decide +kernel) rfl (hl2.at (v := zi 0) rfl) ?_
    refine lv_iload_n hx hb (k := 3) (i := 3) (x := Int32.ofInt 5) (by decide +kernel) rfl (hl2.at (v := zi 5) rfl) ?_
    refine zJ_callS (k := 7) (f := 0) (n := 0) (rest := []) (vs := [.ref t, .int (Int32.ofInt x), .int (Int32.ofInt 0), .int (Int32.ofInt 5)]) (own := zJl) (by decide) (by decide) zJ7 hx hb (hml.trans hl2.2.1.symm) hown hts (zGW_of (p := 3023) rfl rfl) hw va_S.rf rfl (Nat.le_refl _) (by decide) (Nat.le_refl _) (Nat.le_refl _) (by decide) (by decide +kernel) ?_
    exact W.zret hx hb hr rfl (fun t ht _ => ⟨rfl, ht⟩) (fun q hq => by cases hq) (by decide +kernel)
  · rw [if_neg hin, if_neg hin]
    refine lv_if_ne hx hb (off := 5) (tgt := 9) (by decide +kernel) (by decide) (fun h => absurd rfl h) (fun _ => ?_)
    refine lv_iconst hx hb (n := -1) (v := -1) (by decide +kernel) rfl ?_
    exact W.zret hx hb hr rfl (fun t ht _ => ⟨rfl, ht⟩) (fun q hq => by cases hq) (by decide +kernel)
theorem zJ3 {x : Int} : Met l (zJn 3) (zJw 3) (zJR 2 60) (zJP A a t [.ref a, .int (Int32.ofInt x), .int (Int32.ofInt 0)]) (zJQ (zJx x)) 0 0 (fun _ => False) := by
  refine zJ_met (by decide) ?_
  intro p e s m below meth c hx hb hml hr hlk hown hts hw
  obtain ⟨w1, w2, w3, w4, w5⟩ := id hw
  have hl := zent_lv (ad := fun _ _ => a) (as := [zq (some (0, 0)), zi x, zi 0]) (n := 3) (by show 3 ≤ 3; decide)
  refine lv_aload_n hx hb (k := 0) (i := 0) (x := a) (by decide +kernel) rfl (hl.at (v := zq (some (0, 0))) rfl) ?_
  refine zJ_callV (k := 0) (f := 0) (n := 0) (rest := []) (vs := []) (own := zJs) (by decide) zJ0 hx hb (hml.trans hl.2.1.symm) hown hts (zGW_of (p := 2237) rfl rfl) hw va_S.rf rfl (by decide) (by decide) (Nat.le_refl _) (Nat.le_refl _) (by decide) (by decide +kernel) ?_
  refine lv_if_eq hx hb (off := 19) (tgt := 23) (by decide +kernel) (by decide) (fun h => absurd h (by decide)) (fun _ => ?_)
  refine lv_aload_n hx hb (k := 0) (i := 0) (x := a) (by decide +kernel) rfl (hl.at (v := zq (some (0, 0))) rfl) ?_
  refine vk_getf hx hb w3 va_S.rf hown (hts _ (zGW_of (p := 6009) rfl rfl)) (fun _ h => h) (by decide +kernel) ?_
  refine lv_iload_n hx hb (k := 1) (i := 1) (x := Int32.ofInt x) (by decide +kernel) rfl (hl.at (v := zi x) rfl) ?_
  refine lv_iload_n hx hb (k := 2) (i := 2) (x := Int32.ofInt 0) (by decide +kernel) rfl (hl.at (v := zi 0) rfl) ?_
  refine lv_aload_n hx hb (k := 0) (i := 0) (x := a) (by decide +kernel) rfl (hl.at (v := zq (some (0, 0))) rfl) ?_
  refine zJ_callV (k := 2) (f := 1) (n := 20) (vs := []) (own := zJs) (by decide) zJ2 hx hb (hml.trans hl.2.1.symm) hown hts (zGW_of (p := 3003) rfl rfl) hw va_S.rf rfl (by decide) (by decide) (Nat.le_refl _) (Nat.le_refl _) (by show 3 ≤ 8; decide) (by decide +kernel) ?_
  refine zJ_callS (k := 5) (f := 1) (n := 30) (rest := []) (vs := [.ref t, .int (Int32.ofInt x), .int (Int32.ofInt 0), .int (Int32.ofInt 5)]) (own := zJs) (by decide) (by decide) zJ5 hx hb (hml.trans hl.2.1.symm) hown hts (zGW_of (p := 3011) rfl rfl) hw va_S.rf rfl (by decide) (by decide) (Nat.le_refl _) (Nat.le_refl _) (by decide) (by decide +kernel) ?_
  refine lv_goto hx hb (off := 16) (tgt := 36) (by decide +kernel) (by decide) ?_
  exact W.zret hx hb hr rfl (fun t ht _ => ⟨rfl, ht⟩) (fun q hq => by cases hq) (by decide +kernel)
theorem zJ4 {x : Int} : Met l (zJn 4) (zJw 4) (zJR 3 90) (zJP A a t [.ref a, .int (Int32.ofInt x)]) (zJQ (zJx x)) 0 0 (fun _ => False) := by
  refine zJ_met (by decide) ?_
  intro p e s m below meth c hx hb hml hr hlk hown hts hw
  have hl := zent_lv (ad := fun _ _ => a) (as := [zq (some (0, 0)), zi x]) (n := 2) (by show 2 ≤ 2; decide)
  refine lv_aload_n hx hb (k := 0) (i := 0) (x := a) (by decide +kernel) rfl (hl.at (v := zq (some (0, 0))) rfl) ?_
  refine lv_iload_n hx hb (k := 1) (i := 1) (x := Int32.ofInt x) (by decide +kernel) rfl (hl.at (v := zi x) rfl) ?_
  refine lv_iconst hx hb (n := 0) (v := Int32.ofInt 0) (by decide +kernel) rfl ?_
  refine zJ_callV (k := 3) (f := 2) (n := 60) (rest := []) (vs := [.int (Int32.ofInt x), .int (Int32.ofInt 0)]) (own := zJs) (by decide) zJ3 hx hb (hml.trans hl.2.1.symm) hown hts (zGW_of (p := 2233) rfl rfl) hw va_S.rf rfl (by decide) (by decide) (Nat.le_refl _) (Nat.le_refl _) (by decide) (by decide +kernel) ?_
  exact W.zret hx hb hr rfl (fun t ht _ => ⟨rfl, ht⟩) (fun q hq => by cases hq) (by decide +kernel)
end JW
