def dg (c : Int32) : Bool := decide (nI 48 ≤ c) && decide (c ≤ nI 57)
def kL (c : Int32) : Int32 := if c = nI 100 then nI 1 else if c = nI 112 then nI 0 else if c = nI 117 then nI 2 else (-9)
abbrev YS.addD (Y : YS) (v : Int32) : YS := (Y.D + 1, Y.P, Y.db, Y.rm, upd Y.hard Y.D v, Y.kind, Y.wit, Y.pat, Y.pret)
abbrev YS.addP (Y : YS) (v : Int32) : YS := (Y.D, Y.P + 1, Y.db, Y.rm, Y.hard, Y.kind, Y.wit, upd Y.pat Y.P v, Y.pret)
abbrev YS.zero (Y : YS) : YS := (0, 0, Y.db, Y.rm, Y.hard, Y.kind, Y.wit, Y.pat, Y.pret)
/-- the reader: a digit of a day -/
def tkD (s : Nat) (Y : YS) (c : Int32) : Bool × Nat × YS := if dg c && decide (Y.D < 5) then (true, 5, Y.addD (c - nI 48)) else (false, s, Y)
/-- a code of a pupil -/
def tkP (s : Nat) (Y : YS) (c : Int32) : Bool × Nat × YS :=
  if s = 6 then (decide (¬ kL c = (-9)), if decide (¬ kL c = (-9)) then 7 else s, Y.sKind (upd Y.kind Y.P (kL c)))
  else if dg c then (if s = 7 then (true, 8, Y.sWit (upd Y.wit Y.P (c - nI 48))) else (true, 9, Y.addP (c - nI 48)))
  else (false, s, Y)
/-- any code -/
def tk (s : Nat) (Y : YS) (c : Int32) : Bool × Nat × YS :=
  if s = 0 then (decide (c = nI 99), if decide (c = nI 99) then 1 else s, Y)
  else if s = 1 then (dg c, if dg c then 2 else s, Y.sDb (c - nI 48))
  else if s = 2 then (decide (nI 49 ≤ c) && decide (c ≤ nI 52), if decide (nI 49 ≤ c) && decide (c ≤ nI 52) then 3 else s, Y.sRm (c - nI 48))
  else if s = 3 then (decide (c = nI 44), if decide (c = nI 44) then 4 else s, Y)
  else if s = 4 then tkD s Y c
  else if s = 5 then (if c = nI 59 then (true, 6, Y) else tkD s Y c)
  else if s = 9 then (decide (c = nI 59) && decide (Y.P < 4), if decide (c = nI 59) && decide (Y.P < 4) then 6 else s, Y)
  else if Y.P < 4 then tkP s Y c else (false, s, Y)
abbrev wRe (cI : ClassId) (q0 a0 a1 a2 a3 a4 a5 a6 s : Nat) (Y : YS) (st : Nat → Int32) : va_W := [(q0, .inr (0, [.ref a0, .int (nI s)])), (a0, .inr (2, [.int (nI Y.D), .int (nI Y.P), .int Y.db, .int Y.rm, .ref a1, .ref a2, .ref a3, .ref a4, .ref a5, .ref a6])), (a1, .inl (cI, 5, .inl Y.hard)), (a2, .inl (cI, 4, .inl Y.kind)), (a3, .inl (cI, 4, .inl Y.wit)), (a4, .inl (cI, 4, .inl Y.pat)), (a5, .inl (cI, 4, .inl Y.pret)), (a6, .inl (cI, 5, .inl st))]
theorem hdX0_isDigit : yX0_isDigit.cls ≠ "java/lang/invoke/MethodHandle" ∧ yX0_isDigit.cls ≠ "java/lang/invoke/VarHandle" ∧ (parseMethodDescriptor yX0_isDigit.desc).map (fun d => d.parameters.length) = some 1 := by decide +kernel
theorem hdX0_goesOn : yX0_goesOn.cls = RX0 ∧ yX0_goesOn.cls ≠ "java/lang/invoke/MethodHandle" ∧ yX0_goesOn.cls ≠ "java/lang/invoke/VarHandle" ∧ (parseMethodDescriptor yX0_goesOn.desc).map (fun d => d.parameters.length) = some 2 := by decide +kernel
theorem hdX0_kindOfLetter : yX0_kindOfLetter.cls ≠ "java/lang/invoke/MethodHandle" ∧ yX0_kindOfLetter.cls ≠ "java/lang/invoke/VarHandle" ∧ (parseMethodDescriptor yX0_kindOfLetter.desc).map (fun d => d.parameters.length) = some 1 := by decide +kernel
theorem hdX0_takesDay : yX0_takesDay.cls = RX0 ∧ yX0_takesDay.cls ≠ "java/lang/invoke/MethodHandle" ∧ yX0_takesDay.cls ≠ "java/lang/invoke/VarHandle" ∧ (parseMethodDescriptor yX0_takesDay.desc).map (fun d => d.parameters.length) = some 1 := by decide +kernel
theorem hdX0_takesOfPupil : yX0_takesOfPupil.cls = RX0 ∧ yX0_takesOfPupil.cls ≠ "java/lang/invoke/MethodHandle" ∧ yX0_takesOfPupil.cls ≠ "java/lang/invoke/VarHandle" ∧ (parseMethodDescriptor yX0_takesOfPupil.desc).map (fun d => d.parameters.length) = some 2 := by decide +kernel
set_option maxHeartbeats 4000000 in
set_option maxRecDepth 100000 in
theorem c_isDigit (l : Launch) (D : va_G) (cI : ClassId) (x : Int32)  : Met l yX0_isDigit wsX0_isDigit ({ frames := 0, cells := 0, slots := 0, locals := 0 }) (PS D cI [.int x] ([])) (vp_Si (fun r => r = bI (dg x))) 0 0 (fun _ => False) := by
  refine zk_S (cc := cX0_isDigit) (maxL := 1) (ret := (some .boolean)) (by decide) rfl (Nat.le_of_ble_eq_true rfl) ?_
  intro pX eX sX mX bX tX cX hx hb hr hlocks hml hown hts hP hK ls hl
  have hl : lv_has ls 1 [(0, .int x)] := hl
  have hP : va_P D vwCl [] sX.heap := hP
  skip
  refine lv_iload_n hx hb dX0_isDigit_0 rfl (lv_at hl 0 rfl) ?_
  refine lv_bipush (v := nI 48) hx hb dX0_isDigit_1 (by decide) ?_
  refine lv_icmp_lt (tgt := 16) hx hb dX0_isDigit_3 (by decide) (fun c_1 => ?_) (fun c_1 => ?_)
  · refine lv_iconst (v := nI 0) hx hb dX0_isDigit_16 (by decide) ?_
    exact zk_retSB hx hb hr nI_nar0 (by rw [show dg x = false from by simp [dg, c_1, (Int32.not_le.mpr c_1)]]; rfl) dX0_isDigit_17 hlocks
  · have c_1 := Int32.not_lt.mp c_1
    refine lv_iload_n hx hb dX0_isDigit_6 rfl (lv_at hl 0 rfl) ?_
    refine lv_bipush (v := nI 57) hx hb dX0_isDigit_7 (by decide) ?_
    refine lv_icmp_gt (tgt := 16) hx hb dX0_isDigit_9 (by decide) (fun c_2 => ?_) (fun c_2 => ?_)
    · refine lv_iconst (v := nI 0) hx hb dX0_isDigit_16 (by decide) ?_
      exact zk_retSB hx hb hr nI_nar0 (by rw [show dg x = false from by simp [dg, c_1, (Int32.not_lt.mpr c_1), c_2, (Int32.not_le.mpr c_2)]]; rfl) dX0_isDigit_17 hlocks
    · have c_2 := Int32.not_lt.mp c_2
      refine lv_iconst (v := nI 1) hx hb dX0_isDigit_12 (by decide) ?_
      refine lv_goto (tgt := 17) hx hb dX0_isDigit_13 (by decide) ?_
      exact zk_retSB hx hb hr nI_nar1 (by rw [show dg x = true from by simp [dg, c_1, (Int32.not_lt.mpr c_1), c_2, (Int32.not_lt.mpr c_2)]]; rfl) dX0_isDigit_17 hlocks
set_option maxHeartbeats 4000000 in
set_option maxRecDepth 100000 in
theorem c_kindOfLetter (l : Launch) (D : va_G) (cI : ClassId) (x : Int32)  : Met l yX0_kindOfLetter wsX0_kindOfLetter ({ frames := 0, cells := 0, slots := 0, locals := 0 }) (PS D cI [.int x] ([])) (vp_Si (fun r => r = kL x)) 0 0 (fun _ => False) := by
  refine zk_S (cc := cX0_kindOfLetter) (maxL := 1) (ret := (some .int)) (by decide) rfl (Nat.le_of_ble_eq_true rfl) ?_
  intro pX eX sX mX bX tX cX hx hb hr hlocks hml hown hts hP hK ls hl
  have hl : lv_has ls 1 [(0, .int x)] := hl
  have hP : va_P D vwCl [] sX.heap := hP
  skip
  refine lv_iload_n hx hb dX0_kindOfLetter_0 rfl (lv_at hl 0 rfl) ?_
  by_cases c_1 : x = nI 100
  · refine lv_lookup (tgt := 38) hx hb dX0_kindOfLetter_1 rfl (by rw [c_1]; try rfl) (by decide) ?_
    refine lv_iconst (v := nI 1) hx hb dX0_kindOfLetter_38 (by decide) ?_
    exact zk_retS hx hb hr (by unfold kL; rw [if_pos c_1]) dX0_kindOfLetter_39 hlocks
  by_cases c_2 : x = nI 112
  · refine lv_lookup (tgt := 36) hx hb dX0_kindOfLetter_1 rfl (by rw [c_2]; try rfl) (by decide) ?_
    refine lv_iconst (v := nI 0) hx hb dX0_kindOfLetter_36 (by decide) ?_
    exact zk_retS hx hb hr (by unfold kL; rw [if_neg c_1, if_pos c_2]) dX0_kindOfLetter_37 hlocks
  by_cases c_3 : x = nI 117
  · refine lv_lookup (tgt := 40) hx hb dX0_kindOfLetter_1 rfl (by rw [c_3]; try rfl) (by decide) ?_
    refine lv_iconst (v := nI 2) hx hb dX0_kindOfLetter_40 (by decide) ?_
    exact zk_retS hx hb hr (by unfold kL; rw [if_neg c_1, if_neg c_2, if_pos c_3]) dX0_kindOfLetter_41 hlocks
  refine lv_lookup (tgt := 42) (off := 41) hx hb dX0_kindOfLetter_1 rfl (show Op.lookupswitch.offset [(100, 37), (112, 35), (117, 39)] 41 (x).toInt = 41 from by rw [lv_osw c_1 (show (nI 100).toInt = 100 from by decide), lv_osw c_2 (show (nI 112).toInt = 112 from by decide), lv_osw c_3 (show (nI 117).toInt = 117 from by decide)]; try rfl) (by decide) ?_
  refine lv_bipush (v := (-9)) hx hb dX0_kindOfLetter_42 (by decide) ?_
  exact zk_retS hx hb hr (by unfold kL; rw [if_neg c_1, if_neg c_2, if_neg c_3]) dX0_kindOfLetter_44 hlocks
set_option maxHeartbeats 4000000 in
set_option maxRecDepth 100000 in
theorem c_mayEnd (l : Launch) (D : va_G) (cI : ClassId) (q0 : Nat) (a0 : Nat) (a1 : Nat) (a2 : Nat) (a3 : Nat) (a4 : Nat) (a5 : Nat) (a6 : Nat) (s : Nat) (Y : YS) (st : Nat → Int32) (hs : s ≤ 9) : Met l yX0_mayEnd wsX0_mayEnd ({ frames := 0, cells := 0, slots := 0, locals := 0 }) (PS D cI [.ref q0] (wRe cI q0 a0 a1 a2 a3 a4 a5 a6 s Y st)) (vp_Si (fun r => r = bI (decide (s = 9)))) 0 0 (fun _ => False) := by
  refine zk_S (cc := cX0_mayEnd) (maxL := 1) (ret := (some .boolean)) (by decide) rfl (Nat.le_of_ble_eq_true rfl) ?_
  intro pX eX sX mX bX tX cX hx hb hr hlocks hml hown hts hP hK ls hl
  have hl : lv_has ls 1 [(0, .ref q0)] := hl
  have hP : va_P D vwCl [(q0, .inr (0, [.ref a0, .int (nI s)])), (a0, .inr (2, [.int (nI Y.D), .int (nI Y.P), .int Y.db, .int Y.rm, .ref a1, .ref a2, .ref a3, .ref a4, .ref a5, .ref a6])), (a1, .inl (cI, 5, .inl Y.hard)), (a2, .inl (cI, 4, .inl Y.kind)), (a3, .inl (cI, 4, .inl Y.wit)), (a4, .inl (cI, 4, .inl Y.pat)), (a5, .inl (cI, 4, .inl Y.pret)), (a6, .inl (cI, 5, .inl st))] sX.heap := hP
  have f_18 := hts (.fieldLink RX0 18 "DunceSee$Reader" "step" "I") (by decide +kernel)
  have inX0 : ∀ w ∈ wsX00, w ∈ wsX0_mayEnd := fun w h => List.mem_cons_of_mem _ (List.mem_append_right _ h)
  refine lv_aload_n hx hb dX0_mayEnd_0 rfl (lv_at hl 0 rfl) ?_
  refine va_get (D := D) (ci := 0) (v := .int (nI s)) (C := RX0) (T := TX0) (N := 2) hx hb hts inX0 hown hK.1 hP 0 rfl rfl 1 (by decide) f_18 (fun _ h9 => h9) rfl dX0_mayEnd_1 ?_
  refine lv_bipush (v := nI 9) hx hb dX0_mayEnd_4 (by decide) ?_
  refine zk_icmp_ne (tgt := 13) hx hb dX0_mayEnd_6 (by decide) (by omega) (by omega) (fun c_1 => ?_) (fun c_1 => ?_)
  · refine lv_iconst (v := nI 0) hx hb dX0_mayEnd_13 (by decide) ?_
    exact zk_retSB hx hb hr nI_nar0 (by rw [show decide (s = 9) = false from by simp [c_1]]; rfl) dX0_mayEnd_14 hlocks
  · refine lv_iconst (v := nI 1) hx hb dX0_mayEnd_9 (by decide) ?_
    refine lv_goto (tgt := 14) hx hb dX0_mayEnd_10 (by decide) ?_
    exact zk_retSB hx hb hr nI_nar1 (by rw [show decide (s = 9) = true from by simp [c_1]]; rfl) dX0_mayEnd_14 hlocks
set_option maxHeartbeats 4000000 in
set_option maxRecDepth 100000 in
theorem c_begin (l : Launch) (D : va_G) (cI : ClassId) (sz : Nat) (q0 : Nat) (a0 : Nat) (a1 : Nat) (a2 : Nat) (a3 : Nat) (a4 : Nat) (a5 : Nat) (a6 : Nat) (s : Nat) (Y : YS) (st : Nat → Int32)  : Met l yX0_begin wsX0_begin ({ frames := 0, cells := 0, slots := 0, locals := 0 }) (PQ D cI [.ref q0] (wRe cI q0 a0 a1 a2 a3 a4 a5 a6 s Y st) sz) (QV (S := Unit) D (fun _ => True) (fun _ => wRe cI q0 a0 a1 a2 a3 a4 a5 a6 0 Y.zero st) (va_A (wRe cI q0 a0 a1 a2 a3 a4 a5 a6 s Y st) sz)) 0 0 (va_A (wRe cI q0 a0 a1 a2 a3 a4 a5 a6 s Y st) sz) := by
  refine zk_Q (QV (S := Unit) D (fun _ => True) (fun _ => wRe cI q0 a0 a1 a2 a3 a4 a5 a6 0 Y.zero st)) (cc := cX0_begin) (maxL := 1) (ret := none) (by decide) rfl (Nat.le_of_ble_eq_true rfl) ?_
  intro pX eX sX mX bX tX cX hx hb hr hlocks hml hown hmn hts hP hK A hA hD hS ls hl
  have hl : lv_has ls 1 [(0, .ref q0)] := hl
  have hP : va_P D vwCl [(q0, .inr (0, [.ref a0, .int (nI s)])), (a0, .inr (2, [.int (nI Y.D), .int (nI Y.P), .int Y.db, .int Y.rm, .ref a1, .ref a2, .ref a3, .ref a4, .ref a5, .ref a6])), (a1, .inl (cI, 5, .inl Y.hard)), (a2, .inl (cI, 4, .inl Y.kind)), (a3, .inl (cI, 4, .inl Y.wit)), (a4, .inl (cI, 4, .inl Y.pat)), (a5, .inl (cI, 4, .inl Y.pret)), (a6, .inl (cI, 5, .inl st))] sX.heap := hP
  have hD : va_D A [(q0, .inr (0, [.ref a0, .int (nI s)])), (a0, .inr (2, [.int (nI Y.D), .int (nI Y.P), .int Y.db, .int Y.rm, .ref a1, .ref a2, .ref a3, .ref a4, .ref a5, .ref a6])), (a1, .inl (cI, 5, .inl Y.hard)), (a2, .inl (cI, 4, .inl Y.kind)), (a3, .inl (cI, 4, .inl Y.wit)), (a4, .inl (cI, 4, .inl Y.pat)), (a5, .inl (cI, 4, .inl Y.pret)), (a6, .inl (cI, 5, .inl st))] := hD
  have f_18 := hts (.fieldLink RX0 18 "DunceSee$Reader" "step" "I") (by decide +kernel)
  have f_12 := hts (.fieldLink RX0 12 "DunceSee$Reader" "roll" "LDunceSee$Roll;") (by decide +kernel)
  have f_22 := hK.nest (A := ([.ref q0] : List Value).toArray) 1 rfl
  have f_25 := hK.nest (A := ([.ref q0] : List Value).toArray) 3 rfl
  have inX0 : ∀ w ∈ wsX00, w ∈ wsX0_begin := fun w h => List.mem_cons_of_mem _ (List.mem_append_left _ (List.mem_append_right _ h))
  have inX2 : ∀ w ∈ wsX20, w ∈ wsX0_begin := fun w h => List.mem_cons_of_mem _ (List.mem_append_right _ h)
  refine lv_aload_n hx hb dX0_begin_0 rfl (lv_at hl 0 rfl) ?_
  refine lv_iconst (v := nI 0) hx hb dX0_begin_1 (by decide) ?_
  refine va_put (D := D) (ci := 0) (v := .int (nI 0)) (ty := .int) (C := RX0) (T := TX0) (N := 2) hx hb hts inX0 tyX0 tyX0_ok nmX0 hown hK.1 hP hD hS 0 rfl rfl 1 (by decide) f_18 (fun _ h9 => h9) rfl (by decide +kernel) rfl rfl (Nat.le_of_ble_eq_true rfl) dX0_begin_2 (fun H locs hP hD hS => ?_)
  have hP : va_P D vwCl [(q0, .inr (0, [.ref a0, .int (nI 0)])), (a0, .inr (2, [.int (nI Y.D), .int (nI Y.P), .int Y.db, .int Y.rm, .ref a1, .ref a2, .ref a3, .ref a4, .ref a5, .ref a6])), (a1, .inl (cI, 5, .inl Y.hard)), (a2, .inl (cI, 4, .inl Y.kind)), (a3, .inl (cI, 4, .inl Y.wit)), (a4, .inl (cI, 4, .inl Y.pat)), (a5, .inl (cI, 4, .inl Y.pret)), (a6, .inl (cI, 5, .inl st))] H := hP
  have hD : va_D A [(q0, .inr (0, [.ref a0, .int (nI 0)])), (a0, .inr (2, [.int (nI Y.D), .int (nI Y.P), .int Y.db, .int Y.rm, .ref a1, .ref a2, .ref a3, .ref a4, .ref a5, .ref a6])), (a1, .inl (cI, 5, .inl Y.hard)), (a2, .inl (cI, 4, .inl Y.kind)), (a3, .inl (cI, 4, .inl Y.wit)), (a4, .inl (cI, 4, .inl Y.pat)), (a5, .inl (cI, 4, .inl Y.pret)), (a6, .inl (cI, 5, .inl st))] := hD
  refine lv_aload_n hx hb dX0_begin_5 rfl (lv_at hl 0 rfl) ?_
  refine va_get (D := D) (ci := 0) (v := .ref a0) (C := RX0) (T := TX0) (N := 2) hx hb hts inX0 hown hK.1 hP 0 rfl rfl 0 (by decide) f_12 (fun _ h9 => h9) rfl dX0_begin_6 ?_
  refine lv_iconst (v := nI 0) hx hb dX0_begin_9 (by decide) ?_
  refine va_putN (D := D) (ci := 2) (v := .int (nI 0)) (ty := .int) (C := RX2) (T := TX2) (N := 10) hx hb hts inX2 tyX2 tyX2_ok nmX2 hown hK.1 hP hD hS 1 rfl rfl 0 (by decide) f_22 (fun _ h9 => h9) rfl (by decide +kernel) rfl rfl (Nat.le_of_ble_eq_true rfl) dX0_begin_10 (fun H locs hP hD hS => ?_)
  have hP : va_P D vwCl [(q0, .inr (0, [.ref a0, .int (nI 0)])), (a0, .inr (2, [.int (nI 0), .int (nI Y.P), .int Y.db, .int Y.rm, .ref a1, .ref a2, .ref a3, .ref a4, .ref a5, .ref a6])), (a1, .inl (cI, 5, .inl Y.hard)), (a2, .inl (cI, 4, .inl Y.kind)), (a3, .inl (cI, 4, .inl Y.wit)), (a4, .inl (cI, 4, .inl Y.pat)), (a5, .inl (cI, 4, .inl Y.pret)), (a6, .inl (cI, 5, .inl st))] H := hP
  have hD : va_D A [(q0, .inr (0, [.ref a0, .int (nI 0)])), (a0, .inr (2, [.int (nI 0), .int (nI Y.P), .int Y.db, .int Y.rm, .ref a1, .ref a2, .ref a3, .ref a4, .ref a5, .ref a6])), (a1, .inl (cI, 5, .inl Y.hard)), (a2, .inl (cI, 4, .inl Y.kind)), (a3, .inl (cI, 4, .inl Y.wit)), (a4, .inl (cI, 4, .inl Y.pat)), (a5, .inl (cI, 4, .inl Y.pret)), (a6, .inl (cI, 5, .inl st))] := hD
  refine lv_aload_n hx hb dX0_begin_13 rfl (lv_at hl 0 rfl) ?_
  refine va_get (D := D) (ci := 0) (v := .ref a0) (C := RX0) (T := TX0) (N := 2) hx hb hts inX0 hown hK.1 hP 0 rfl rfl 0 (by decide) f_12 (fun _ h9 => h9) rfl dX0_begin_14 ?_
  refine lv_iconst (v := nI 0) hx hb dX0_begin_17 (by decide) ?_
  refine va_putN (D := D) (ci := 2) (v := .int (nI 0)) (ty := .int) (C := RX2) (T := TX2) (N := 10) hx hb hts inX2 tyX2 tyX2_ok nmX2 hown hK.1 hP hD hS 1 rfl rfl 1 (by decide) f_25 (fun _ h9 => h9) rfl (by decide +kernel) rfl rfl (Nat.le_of_ble_eq_true rfl) dX0_begin_18 (fun H locs hP hD hS => ?_)
  have hP : va_P D vwCl [(q0, .inr (0, [.ref a0, .int (nI 0)])), (a0, .inr (2, [.int (nI 0), .int (nI 0), .int Y.db, .int Y.rm, .ref a1, .ref a2, .ref a3, .ref a4, .ref a5, .ref a6])), (a1, .inl (cI, 5, .inl Y.hard)), (a2, .inl (cI, 4, .inl Y.kind)), (a3, .inl (cI, 4, .inl Y.wit)), (a4, .inl (cI, 4, .inl Y.pat)), (a5, .inl (cI, 4, .inl Y.pret)), (a6, .inl (cI, 5, .inl st))] H := hP
  have hD : va_D A [(q0, .inr (0, [.ref a0, .int (nI 0)])), (a0, .inr (2, [.int (nI 0), .int (nI 0), .int Y.db, .int Y.rm, .ref a1, .ref a2, .ref a3, .ref a4, .ref a5, .ref a6])), (a1, .inl (cI, 5, .inl Y.hard)), (a2, .inl (cI, 4, .inl Y.kind)), (a3, .inl (cI, 4, .inl Y.wit)), (a4, .inl (cI, 4, .inl Y.pat)), (a5, .inl (cI, 4, .inl Y.pret)), (a6, .inl (cI, 5, .inl st))] := hD
  exact zk_retV hx hb hr hS (()) (trivial) hP hD dX0_begin_21 hlocks
set_option maxHeartbeats 4000000 in
set_option maxRecDepth 100000 in
theorem c_goesOn (l : Launch) (D : va_G) (cI : ClassId) (sz : Nat) (q0 : Nat) (a0 : Nat) (s : Nat) (b : Bool) (x : Nat)  : Met l yX0_goesOn wsX0_goesOn ({ frames := 0, cells := 0, slots := 0, locals := 0 }) (PQ D cI [.ref q0, .int (bI b), .int (nI x)] ([(q0, .inr (0, [.ref a0, .int (nI s)]))]) sz) (QI (S := Unit) D (fun r _ => r = bI b) (fun _ => [(q0, .inr (0, [.ref a0, .int (nI (if b then x else s))]))]) (va_A ([(q0, .inr (0, [.ref a0, .int (nI s)]))]) sz)) 0 0 (va_A ([(q0, .inr (0, [.ref a0, .int (nI s)]))]) sz) := by
  refine zk_Q (QI (S := Unit) D (fun r _ => r = bI b) (fun _ => [(q0, .inr (0, [.ref a0, .int (nI (if b then x else s))]))])) (cc := cX0_goesOn) (maxL := 3) (ret := (some .boolean)) (by decide) rfl (Nat.le_of_ble_eq_true rfl) ?_
  intro pX eX sX mX bX tX cX hx hb hr hlocks hml hown hmn hts hP hK A hA hD hS ls hl
  have hl : lv_has ls 3 [(0, .ref q0), (1, .int (bI b)), (2, .int (nI x))] := hl
  have hP : va_P D vwCl [(q0, .inr (0, [.ref a0, .int (nI s)]))] sX.heap := hP
  have hD : va_D A [(q0, .inr (0, [.ref a0, .int (nI s)]))] := hD
  have f_18 := hts (.fieldLink RX0 18 "DunceSee$Reader" "step" "I") (by decide +kernel)
  have inX0 : ∀ w ∈ wsX00, w ∈ wsX0_goesOn := fun w h => List.mem_cons_of_mem _ (List.mem_append_right _ h)
  refine lv_iload_n hx hb dX0_goesOn_0 rfl (lv_at hl 1 rfl) ?_
  refine zk_ifeqB (tgt := 9) hx hb dX0_goesOn_1 (by decide) (fun c_1 => ?_) (fun c_1 => ?_)
  · refine lv_iload_n hx hb dX0_goesOn_9 rfl (lv_at hl 1 rfl) ?_
    subst c_1
    exact zk_retB hx hb hr (bI_nar _) hS (()) (rfl) hP hD dX0_goesOn_10 hlocks
  · refine lv_aload_n hx hb dX0_goesOn_4 rfl (lv_at hl 0 rfl) ?_
    refine lv_iload_n hx hb dX0_goesOn_5 rfl (lv_at hl 2 rfl) ?_
    refine va_put (D := D) (ci := 0) (v := .int (nI x)) (ty := .int) (C := RX0) (T := TX0) (N := 2) hx hb hts inX0 tyX0 tyX0_ok nmX0 hown hK.1 hP hD hS 0 rfl rfl 1 (by decide) f_18 (fun _ h9 => h9) rfl (by decide +kernel) rfl rfl (Nat.le_of_ble_eq_true rfl) dX0_goesOn_6 (fun H locs hP hD hS => ?_)
    have hP : va_P D vwCl [(q0, .inr (0, [.ref a0, .int (nI x)]))] H := hP
    have hD : va_D A [(q0, .inr (0, [.ref a0, .int (nI x)]))] := hD
    refine lv_iload_n hx hb dX0_goesOn_9 rfl (lv_at hl 1 rfl) ?_
    subst c_1
    exact zk_retB hx hb hr (bI_nar _) hS (()) (rfl) hP hD dX0_goesOn_10 hlocks
set_option maxHeartbeats 4000000 in
set_option maxRecDepth 100000 in
theorem c_takesDay (l : Launch) (D : va_G) (cI : ClassId) (sz : Nat) (q0 : Nat) (a0 : Nat) (a1 : Nat) (a2 : Nat) (a3 : Nat) (a4 : Nat) (a5 : Nat) (a6 : Nat) (s : Nat) (Y : YS) (st : Nat → Int32) (x : Int32) (hD5 : Y.D ≤ 5) : Met l yX0_takesDay wsX0_takesDay ({ frames := 1, cells := 0, slots := 0, locals := 22 }) (PQ D cI [.ref q0, .int x] (wRe cI q0 a0 a1 a2 a3 a4 a5 a6 s Y st) sz) (QI (S := Unit) D (fun r _ => r = bI (tkD s Y x).1) (fun _ => wRe cI q0 a0 a1 a2 a3 a4 a5 a6 (tkD s Y x).2.1 (tkD s Y x).2.2 st) (va_A (wRe cI q0 a0 a1 a2 a3 a4 a5 a6 s Y st) sz)) 0 0 (va_A (wRe cI q0 a0 a1 a2 a3 a4 a5 a6 s Y st) sz) := by
  refine zk_Q (QI (S := Unit) D (fun r _ => r = bI (tkD s Y x).1) (fun _ => wRe cI q0 a0 a1 a2 a3 a4 a5 a6 (tkD s Y x).2.1 (tkD s Y x).2.2 st)) (cc := cX0_takesDay) (maxL := 2) (ret := (some .boolean)) (by decide) rfl (Nat.le_of_ble_eq_true rfl) ?_
  intro pX eX sX mX bX tX cX hx hb hr hlocks hml hown hmn hts hP hK A hA hD hS ls hl
  have hl : lv_has ls 2 [(0, .ref q0), (1, .int x)] := hl
  have hP : va_P D vwCl [(q0, .inr (0, [.ref a0, .int (nI s)])), (a0, .inr (2, [.int (nI Y.D), .int (nI Y.P), .int Y.db, .int Y.rm, .ref a1, .ref a2, .ref a3, .ref a4, .ref a5, .ref a6])), (a1, .inl (cI, 5, .inl Y.hard)), (a2, .inl (cI, 4, .inl Y.kind)), (a3, .inl (cI, 4, .inl Y.wit)), (a4, .inl (cI, 4, .inl Y.pat)), (a5, .inl (cI, 4, .inl Y.pret)), (a6, .inl (cI, 5, .inl st))] sX.heap := hP
  have hD : va_D A [(q0, .inr (0, [.ref a0, .int (nI s)])), (a0, .inr (2, [.int (nI Y.D), .int (nI Y.P), .int Y.db, .int Y.rm, .ref a1, .ref a2, .ref a3, .ref a4, .ref a5, .ref a6])), (a1, .inl (cI, 5, .inl Y.hard)), (a2, .inl (cI, 4, .inl Y.kind)), (a3, .inl (cI, 4, .inl Y.wit)), (a4, .inl (cI, 4, .inl Y.pat)), (a5, .inl (cI, 4, .inl Y.pret)), (a6, .inl (cI, 5, .inl st))] := hD
  have f_12 := hts (.fieldLink RX0 12 "DunceSee$Reader" "roll" "LDunceSee$Roll;") (by decide +kernel)
  have f_22 := hK.nest (A := ([.ref q0, .int x] : List Value).toArray) 1 rfl
  have f_49 := hK.nest (A := ([.ref q0, .int x] : List Value).toArray) 10 rfl
  have inX0 : ∀ w ∈ wsX00, w ∈ wsX0_takesDay := fun w h => List.mem_cons_of_mem _ (List.mem_append_left _ (List.mem_append_right _ h))
  have inX2 : ∀ w ∈ wsX20, w ∈ wsX0_takesDay := fun w h => List.mem_cons_of_mem _ (List.mem_append_right _ h)
  refine lv_iload_n hx hb dX0_takesDay_0 rfl (lv_at hl 1 rfl) ?_
  refine zk_callSi (As := [.int x]) (rest := []) (bI (dg x)) ⟨hx, hb, hml, hown, hts⟩ hK hP [] rfl (c_isDigit l D cI x ) (va_cwS 1 hts gX0_takesDay_X0_isDigit rfl rfl rfl hdX0_isDigit ⟨Nat.le_of_ble_eq_true rfl, Nat.le_of_ble_eq_true rfl⟩) rfl hl.1 rfl (Nat.le_of_ble_eq_true rfl) dX0_takesDay_1 ⟨Nat.le_of_ble_eq_true rfl, Nat.le_of_ble_eq_true rfl⟩ ?_
  refine zk_ifeqB (tgt := 18) hx hb dX0_takesDay_4 (by decide) (fun c_1 => ?_) (fun c_1 => ?_)
  · refine lv_iconst (v := nI 0) hx hb dX0_takesDay_18 (by decide) ?_
    have e_t : tkD s Y x = (false, s, (Y.D, Y.P, Y.db, Y.rm, Y.hard, Y.kind, Y.wit, Y.pat, Y.pret)) := by simp [tkD, c_1]
    exact zk_retB hx hb hr nI_nar0 hS (()) (by rw [e_t]; rfl) (by rw [e_t]; exact hP) (by rw [e_t]; exact hD) dX0_takesDay_19 hlocks
  · refine lv_aload_n hx hb dX0_takesDay_7 rfl (lv_at hl 0 rfl) ?_
    refine va_get (D := D) (ci := 0) (v := .ref a0) (C := RX0) (T := TX0) (N := 2) hx hb hts inX0 hown hK.1 hP 0 rfl rfl 0 (by decide) f_12 (fun _ h9 => h9) rfl dX0_takesDay_8 ?_
    refine va_getN (D := D) (ci := 2) (v := .int (nI Y.D)) (C := RX2) (T := TX2) (N := 10) hx hb hts inX2 hown hK.1 hP 1 rfl rfl 0 (by decide) f_22 (fun _ h9 => h9) rfl dX0_takesDay_11 ?_
    refine lv_iconst (v := nI 5) hx hb dX0_takesDay_14 (by decide) ?_
    refine zk_icmp_lt (tgt := 20) hx hb dX0_takesDay_15 (by decide) (by omega) (by omega) (fun c_2 => ?_) (fun c_2 => ?_)
    · refine lv_aload_n hx hb dX0_takesDay_20 rfl (lv_at hl 0 rfl) ?_
      refine va_get (D := D) (ci := 0) (v := .ref a0) (C := RX0) (T := TX0) (N := 2) hx hb hts inX0 hown hK.1 hP 0 rfl rfl 0 (by decide) f_12 (fun _ h9 => h9) rfl dX0_takesDay_21 ?_
      refine va_getN (D := D) (ci := 2) (v := .ref a1) (C := RX2) (T := TX2) (N := 10) hx hb hts inX2 hown hK.1 hP 1 rfl rfl 4 (by decide) f_49 (fun _ h9 => h9) rfl dX0_takesDay_24 ?_
      refine lv_aload_n hx hb dX0_takesDay_27 rfl (lv_at hl 0 rfl) ?_
      refine va_get (D := D) (ci := 0) (v := .ref a0) (C := RX0) (T := TX0) (N := 2) hx hb hts inX0 hown hK.1 hP 0 rfl rfl 0 (by decide) f_12 (fun _ h9 => h9) rfl dX0_takesDay_28 ?_
      refine va_getN (D := D) (ci := 2) (v := .int (nI Y.D)) (C := RX2) (T := TX2) (N := 10) hx hb hts inX2 hown hK.1 hP 1 rfl rfl 0 (by decide) f_22 (fun _ h9 => h9) rfl dX0_takesDay_31 ?_
      refine lv_iload_n hx hb dX0_takesDay_34 rfl (lv_at hl 1 rfl) ?_
      refine lv_bipush (v := nI 48) hx hb dX0_takesDay_35 (by decide) ?_
      refine lv_isub hx hb dX0_takesDay_37 ?_
      refine zk_iast (x := x - (nI 48)) hx hb hK hP hD hS 2 rfl (by omega) (by decide) dX0_takesDay_38 (fun H locs hP hD hS => ?_)
      have hP : va_P D vwCl [(q0, .inr (0, [.ref a0, .int (nI s)])), (a0, .inr (2, [.int (nI Y.D), .int (nI Y.P), .int Y.db, .int Y.rm, .ref a1, .ref a2, .ref a3, .ref a4, .ref a5, .ref a6])), (a1, .inl (cI, 5, .inl (upd Y.hard Y.D (x - (nI 48))))), (a2, .inl (cI, 4, .inl Y.kind)), (a3, .inl (cI, 4, .inl Y.wit)), (a4, .inl (cI, 4, .inl Y.pat)), (a5, .inl (cI, 4, .inl Y.pret)), (a6, .inl (cI, 5, .inl st))] H := hP
      have hD : va_D A [(q0, .inr (0, [.ref a0, .int (nI s)])), (a0, .inr (2, [.int (nI Y.D), .int (nI Y.P), .int Y.db, .int Y.rm, .ref a1, .ref a2, .ref a3, .ref a4, .ref a5, .ref a6])), (a1, .inl (cI, 5, .inl (upd Y.hard Y.D (x - (nI 48))))), (a2, .inl (cI, 4, .inl Y.kind)), (a3, .inl (cI, 4, .inl Y.wit)), (a4, .inl (cI, 4, .inl Y.pat)), (a5, .inl (cI, 4, .inl Y.pret)), (a6, .inl (cI, 5, .inl st))] := hD
      refine lv_aload_n hx hb dX0_takesDay_39 rfl (lv_at hl 0 rfl) ?_
      refine va_get (D := D) (ci := 0) (v := .ref a0) (C := RX0) (T := TX0) (N := 2) hx hb hts inX0 hown hK.1 hP 0 rfl rfl 0 (by decide) f_12 (fun _ h9 => h9) rfl dX0_takesDay_40 ?_
      refine lv_dup hx hb dX0_takesDay_43 rfl ?_
      refine va_getN (D := D) (ci := 2) (v := .int (nI Y.D)) (C := RX2) (T := TX2) (N := 10) hx hb hts inX2 hown hK.1 hP 1 rfl rfl 0 (by decide) f_22 (fun _ h9 => h9) rfl dX0_takesDay_44 ?_
      refine lv_iconst (v := nI 1) hx hb dX0_takesDay_47 (by decide) ?_
      refine zk_iaddN hx hb dX0_takesDay_48 ?_
      refine va_putN (D := D) (ci := 2) (v := .int (nI (Y.D + 1))) (ty := .int) (C := RX2) (T := TX2) (N := 10) hx hb hts inX2 tyX2 tyX2_ok nmX2 hown hK.1 hP hD hS 1 rfl rfl 0 (by decide) f_22 (fun _ h9 => h9) rfl (by decide +kernel) rfl rfl (Nat.le_of_ble_eq_true rfl) dX0_takesDay_49 (fun H locs hP hD hS => ?_)
      have hP : va_P D vwCl [(q0, .inr (0, [.ref a0, .int (nI s)])), (a0, .inr (2, [.int (nI (Y.D + 1)), .int (nI Y.P), .int Y.db, .int Y.rm, .ref a1, .ref a2, .ref a3, .ref a4, .ref a5, .ref a6])), (a1, .inl (cI, 5, .inl (upd Y.hard Y.D (x - (nI 48))))), (a2, .inl (cI, 4, .inl Y.kind)), (a3, .inl (cI, 4, .inl Y.wit)), (a4, .inl (cI, 4, .inl Y.pat)), (a5, .inl (cI, 4, .inl Y.pret)), (a6, .inl (cI, 5, .inl st))] H := hP
      have hD : va_D A [(q0, .inr (0, [.ref a0, .int (nI s)])), (a0, .inr (2, [.int (nI (Y.D + 1)), .int (nI Y.P), .int Y.db, .int Y.rm, .ref a1, .ref a2, .ref a3, .ref a4, .ref a5, .ref a6])), (a1, .inl (cI, 5, .inl (upd Y.hard Y.D (x - (nI 48))))), (a2, .inl (cI, 4, .inl Y.kind)), (a3, .inl (cI, 4, .inl Y.wit)), (a4, .inl (cI, 4, .inl Y.pat)), (a5, .inl (cI, 4, .inl Y.pret)), (a6, .inl (cI, 5, .inl st))] := hD
      refine lv_aload_n hx hb dX0_takesDay_52 rfl (lv_at hl 0 rfl) ?_
      refine lv_iconst (v := nI 1) hx hb dX0_takesDay_53 (by decide) ?_
      refine lv_iconst (v := nI 5) hx hb dX0_takesDay_54 (by decide) ?_
      refine zk_effVi (As := [.int (bI true), .int (nI 5)]) (rest := []) (S := Unit) (fun r _ => r = bI true) (fun _ => [(q0, .inr (0, [.ref a0, .int (nI (if true then 5 else s))]))]) ⟨hx, hb, hml, hown, hts⟩ hK hP hD hS hA [0] [1, 2, 3, 4, 5, 6, 7] (wc := [(q0, .inr (0, [.ref a0, .int (nI s)]))]) (wr := [(a0, .inr (2, [.int (nI (Y.D + 1)), .int (nI Y.P), .int Y.db, .int Y.rm, .ref a1, .ref a2, .ref a3, .ref a4, .ref a5, .ref a6])), (a1, .inl (cI, 5, .inl (upd Y.hard Y.D (x - (nI 48))))), (a2, .inl (cI, 4, .inl Y.kind)), (a3, .inl (cI, 4, .inl Y.wit)), (a4, .inl (cI, 4, .inl Y.pat)), (a5, .inl (cI, 4, .inl Y.pret)), (a6, .inl (cI, 5, .inl st))]) rfl rfl (by decide) (by decide) (by decide) [7, 0, 1, 2, 3, 4, 5, 6] (fun (_ : Unit) => [(q0, .inr (0, [.ref a0, .int (nI (if true then 5 else s))])), (a0, .inr (2, [.int (nI (Y.D + 1)), .int (nI Y.P), .int Y.db, .int Y.rm, .ref a1, .ref a2, .ref a3, .ref a4, .ref a5, .ref a6])), (a1, .inl (cI, 5, .inl (upd Y.hard Y.D (x - (nI 48))))), (a2, .inl (cI, 4, .inl Y.kind)), (a3, .inl (cI, 4, .inl Y.wit)), (a4, .inl (cI, 4, .inl Y.pat)), (a5, .inl (cI, 4, .inl Y.pret)), (a6, .inl (cI, 5, .inl st))]) (fun _ => rfl) (by decide) (c_goesOn l D cI H.size q0 a0 s true 5 ) (cwV 2 hts gX0_takesDay_X0_goesOn rfl rfl rfl hdX0_goesOn ⟨Nat.le_of_ble_eq_true rfl, Nat.le_of_ble_eq_true rfl⟩) rfl rfl rfl hl.1 rfl (Nat.le_of_ble_eq_true rfl) dX0_takesDay_55 ⟨Nat.le_of_ble_eq_true rfl, Nat.le_of_ble_eq_true rfl⟩ (fun r_3 _ H locs hw_4 hP hD hS => ?_)
      have e_r_3 : r_3 = bI true := hw_4
      rw [e_r_3]
      have e_t : tkD s Y x = (true, if true then 5 else s, (Y.D + 1, Y.P, Y.db, Y.rm, upd Y.hard Y.D (x - (nI 48)), Y.kind, Y.wit, Y.pat, Y.pret)) := by simp [tkD, c_1, c_2, (Nat.not_le.mpr c_2)]
      exact zk_retB hx hb hr (bI_nar _) hS (()) (by rw [e_t]) (by rw [e_t]; exact hP) (by rw [e_t]; exact hD) dX0_takesDay_58 hlocks
    · refine lv_iconst (v := nI 0) hx hb dX0_takesDay_18 (by decide) ?_
      have e_t : tkD s Y x = (false, s, (Y.D, Y.P, Y.db, Y.rm, Y.hard, Y.kind, Y.wit, Y.pat, Y.pret)) := by simp [tkD, c_1, c_2, (Nat.not_lt.mpr c_2)]
      exact zk_retB hx hb hr nI_nar0 hS (()) (by rw [e_t]; rfl) (by rw [e_t]; exact hP) (by rw [e_t]; exact hD) dX0_takesDay_19 hlocks
set_option maxHeartbeats 4000000 in
set_option maxRecDepth 100000 in
theorem c_takesOfPupil (l : Launch) (D : va_G) (cI : ClassId) (sz : Nat) (q0 : Nat) (a0 : Nat) (a1 : Nat) (a2 : Nat) (a3 : Nat) (a4 : Nat) (a5 : Nat) (a6 : Nat) (s : Nat) (Y : YS) (st : Nat → Int32) (x : Int32) (hP4 : Y.P < 4) (hs : s ≤ 9) : Met l yX0_takesOfPupil wsX0_takesOfPupil ({ frames := 1, cells := 0, slots := 0, locals := 22 }) (PQ D cI [.ref q0, .int (nI Y.P), .int x] (wRe cI q0 a0 a1 a2 a3 a4 a5 a6 s Y st) sz) (QI (S := Unit) D (fun r _ => r = bI (tkP s Y x).1) (fun _ => wRe cI q0 a0 a1 a2 a3 a4 a5 a6 (tkP s Y x).2.1 (tkP s Y x).2.2 st) (va_A (wRe cI q0 a0 a1 a2 a3 a4 a5 a6 s Y st) sz)) 0 0 (va_A (wRe cI q0 a0 a1 a2 a3 a4 a5 a6 s Y st) sz) := by
  refine zk_Q (QI (S := Unit) D (fun r _ => r = bI (tkP s Y x).1) (fun _ => wRe cI q0 a0 a1 a2 a3 a4 a5 a6 (tkP s Y x).2.1 (tkP s Y x).2.2 st)) (cc := cX0_takesOfPupil) (maxL := 3) (ret := (some .boolean)) (by decide) rfl (Nat.le_of_ble_eq_true rfl) ?_
  intro pX eX sX mX bX tX cX hx hb hr hlocks hml hown hmn hts hP hK A hA hD hS ls hl
  have hl : lv_has ls 3 [(0, .ref q0), (1, .int (nI Y.P)), (2, .int x)] := hl
  have hP : va_P D vwCl [(q0, .inr (0, [.ref a0, .int (nI s)])), (a0, .inr (2, [.int (nI Y.D), .int (nI Y.P), .int Y.db, .int Y.rm, .ref a1, .ref a2, .ref a3, .ref a4, .ref a5, .ref a6])), (a1, .inl (cI, 5, .inl Y.hard)), (a2, .inl (cI, 4, .inl Y.kind)), (a3, .inl (cI, 4, .inl Y.wit)), (a4, .inl (cI, 4, .inl Y.pat)), (a5, .inl (cI, 4, .inl Y.pret)), (a6, .inl (cI, 5, .inl st))] sX.heap := hP
  have hD : va_D A [(q0, .inr (0, [.ref a0, .int (nI s)])), (a0, .inr (2, [.int (nI Y.D), .int (nI Y.P), .int Y.db, .int Y.rm, .ref a1, .ref a2, .ref a3, .ref a4, .ref a5, .ref a6])), (a1, .inl (cI, 5, .inl Y.hard)), (a2, .inl (cI, 4, .inl Y.kind)), (a3, .inl (cI, 4, .inl Y.wit)), (a4, .inl (cI, 4, .inl Y.pat)), (a5, .inl (cI, 4, .inl Y.pret)), (a6, .inl (cI, 5, .inl st))] := hD
  have f_18 := hts (.fieldLink RX0 18 "DunceSee$Reader" "step" "I") (by decide +kernel)
  have f_12 := hts (.fieldLink RX0 12 "DunceSee$Reader" "roll" "LDunceSee$Roll;") (by decide +kernel)
  have f_63 := hK.nest (A := ([.ref q0, .int (nI Y.P), .int x] : List Value).toArray) 16 rfl
  have f_25 := hK.nest (A := ([.ref q0, .int (nI Y.P), .int x] : List Value).toArray) 3 rfl
  have f_60 := hK.nest (A := ([.ref q0, .int (nI Y.P), .int x] : List Value).toArray) 14 rfl
  have f_53 := hK.nest (A := ([.ref q0, .int (nI Y.P), .int x] : List Value).toArray) 12 rfl
  have inX0 : ∀ w ∈ wsX00, w ∈ wsX0_takesOfPupil := fun w h => List.mem_cons_of_mem _ (List.mem_append_left _ (List.mem_append_right _ h))
  have inX2 : ∀ w ∈ wsX20, w ∈ wsX0_takesOfPupil := fun w h => List.mem_cons_of_mem _ (List.mem_append_right _ h)
  refine lv_aload_n hx hb dX0_takesOfPupil_0 rfl (lv_at hl 0 rfl) ?_
  refine va_get (D := D) (ci := 0) (v := .int (nI s)) (C := RX0) (T := TX0) (N := 2) hx hb hts inX0 hown hK.1 hP 0 rfl rfl 1 (by decide) f_18 (fun _ h9 => h9) rfl dX0_takesOfPupil_1 ?_
  refine lv_bipush (v := nI 6) hx hb dX0_takesOfPupil_4 (by decide) ?_
  refine zk_icmp_ne (tgt := 48) hx hb dX0_takesOfPupil_6 (by decide) (by omega) (by omega) (fun c_1 => ?_) (fun c_1 => ?_)
  · refine lv_iload_n hx hb dX0_takesOfPupil_48 rfl (lv_at hl 2 rfl) ?_
    refine zk_callSi (As := [.int x]) (rest := []) (bI (dg x)) ⟨hx, hb, hml, hown, hts⟩ hK hP [] rfl (c_isDigit l D cI x ) (va_cwS 1 hts gX0_takesOfPupil_X0_isDigit rfl rfl rfl hdX0_isDigit ⟨Nat.le_of_ble_eq_true rfl, Nat.le_of_ble_eq_true rfl⟩) rfl hl.1 rfl (Nat.le_of_ble_eq_true rfl) dX0_takesOfPupil_49 ⟨Nat.le_of_ble_eq_true rfl, Nat.le_of_ble_eq_true rfl⟩ ?_
    refine zk_ifneB (tgt := 57) hx hb dX0_takesOfPupil_52 (by decide) (fun c_2 => ?_) (fun c_2 => ?_)
    · refine lv_aload_n hx hb dX0_takesOfPupil_57 rfl (lv_at hl 0 rfl) ?_
      refine va_get (D := D) (ci := 0) (v := .int (nI s)) (C := RX0) (T := TX0) (N := 2) hx hb hts inX0 hown hK.1 hP 0 rfl rfl 1 (by decide) f_18 (fun _ h9 => h9) rfl dX0_takesOfPupil_58 ?_
      refine lv_bipush (v := nI 7) hx hb dX0_takesOfPupil_61 (by decide) ?_
      refine zk_icmp_ne (tgt := 87) hx hb dX0_takesOfPupil_63 (by decide) (by omega) (by omega) (fun c_3 => ?_) (fun c_3 => ?_)
      · refine lv_aload_n hx hb dX0_takesOfPupil_87 rfl (lv_at hl 0 rfl) ?_
        refine va_get (D := D) (ci := 0) (v := .ref a0) (C := RX0) (T := TX0) (N := 2) hx hb hts inX0 hown hK.1 hP 0 rfl rfl 0 (by decide) f_12 (fun _ h9 => h9) rfl dX0_takesOfPupil_88 ?_
        refine va_getN (D := D) (ci := 2) (v := .ref a4) (C := RX2) (T := TX2) (N := 10) hx hb hts inX2 hown hK.1 hP 1 rfl rfl 7 (by decide) f_63 (fun _ h9 => h9) rfl dX0_takesOfPupil_91 ?_
        refine lv_iload_n hx hb dX0_takesOfPupil_94 rfl (lv_at hl 1 rfl) ?_
        refine lv_iload_n hx hb dX0_takesOfPupil_95 rfl (lv_at hl 2 rfl) ?_
        refine lv_bipush (v := nI 48) hx hb dX0_takesOfPupil_96 (by decide) ?_
        refine lv_isub hx hb dX0_takesOfPupil_98 ?_
        refine zk_iast (x := x - (nI 48)) hx hb hK hP hD hS 5 rfl (by omega) (by decide) dX0_takesOfPupil_99 (fun H locs hP hD hS => ?_)
        have hP : va_P D vwCl [(q0, .inr (0, [.ref a0, .int (nI s)])), (a0, .inr (2, [.int (nI Y.D), .int (nI Y.P), .int Y.db, .int Y.rm, .ref a1, .ref a2, .ref a3, .ref a4, .ref a5, .ref a6])), (a1, .inl (cI, 5, .inl Y.hard)), (a2, .inl (cI, 4, .inl Y.kind)), (a3, .inl (cI, 4, .inl Y.wit)), (a4, .inl (cI, 4, .inl (upd Y.pat Y.P (x - (nI 48))))), (a5, .inl (cI, 4, .inl Y.pret)), (a6, .inl (cI, 5, .inl st))] H := hP
        have hD : va_D A [(q0, .inr (0, [.ref a0, .int (nI s)])), (a0, .inr (2, [.int (nI Y.D), .int (nI Y.P), .int Y.db, .int Y.rm, .ref a1, .ref a2, .ref a3, .ref a4, .ref a5, .ref a6])), (a1, .inl (cI, 5, .inl Y.hard)), (a2, .inl (cI, 4, .inl Y.kind)), (a3, .inl (cI, 4, .inl Y.wit)), (a4, .inl (cI, 4, .inl (upd Y.pat Y.P (x - (nI 48))))), (a5, .inl (cI, 4, .inl Y.pret)), (a6, .inl (cI, 5, .inl st))] := hD
        refine lv_aload_n hx hb dX0_takesOfPupil_100 rfl (lv_at hl 0 rfl) ?_
        refine va_get (D := D) (ci := 0) (v := .ref a0) (C := RX0) (T := TX0) (N := 2) hx hb hts inX0 hown hK.1 hP 0 rfl rfl 0 (by decide) f_12 (fun _ h9 => h9) rfl dX0_takesOfPupil_101 ?_
        refine lv_dup hx hb dX0_takesOfPupil_104 rfl ?_
        refine va_getN (D := D) (ci := 2) (v := .int (nI Y.P)) (C := RX2) (T := TX2) (N := 10) hx hb hts inX2 hown hK.1 hP 1 rfl rfl 1 (by decide) f_25 (fun _ h9 => h9) rfl dX0_takesOfPupil_105 ?_
        refine lv_iconst (v := nI 1) hx hb dX0_takesOfPupil_108 (by decide) ?_
        refine zk_iaddN hx hb dX0_takesOfPupil_109 ?_
        refine va_putN (D := D) (ci := 2) (v := .int (nI (Y.P + 1))) (ty := .int) (C := RX2) (T := TX2) (N := 10) hx hb hts inX2 tyX2 tyX2_ok nmX2 hown hK.1 hP hD hS 1 rfl rfl 1 (by decide) f_25 (fun _ h9 => h9) rfl (by decide +kernel) rfl rfl (Nat.le_of_ble_eq_true rfl) dX0_takesOfPupil_110 (fun H locs hP hD hS => ?_)
        have hP : va_P D vwCl [(q0, .inr (0, [.ref a0, .int (nI s)])), (a0, .inr (2, [.int (nI Y.D), .int (nI (Y.P + 1)), .int Y.db, .int Y.rm, .ref a1, .ref a2, .ref a3, .ref a4, .ref a5, .ref a6])), (a1, .inl (cI, 5, .inl Y.hard)), (a2, .inl (cI, 4, .inl Y.kind)), (a3, .inl (cI, 4, .inl Y.wit)), (a4, .inl (cI, 4, .inl (upd Y.pat Y.P (x - (nI 48))))), (a5, .inl (cI, 4, .inl Y.pret)), (a6, .inl (cI, 5, .inl st))] H := hP
        have hD : va_D A [(q0, .inr (0, [.ref a0, .int (nI s)])), (a0, .inr (2, [.int (nI Y.D), .int (nI (Y.P + 1)), .int Y.db, .int Y.rm, .ref a1, .ref a2, .ref a3, .ref a4, .ref a5, .ref a6])), (a1, .inl (cI, 5, .inl Y.hard)), (a2, .inl (cI, 4, .inl Y.kind)), (a3, .inl (cI, 4, .inl Y.wit)), (a4, .inl (cI, 4, .inl (upd Y.pat Y.P (x - (nI 48))))), (a5, .inl (cI, 4, .inl Y.pret)), (a6, .inl (cI, 5, .inl st))] := hD
        refine lv_aload_n hx hb dX0_takesOfPupil_113 rfl (lv_at hl 0 rfl) ?_
        refine lv_iconst (v := nI 1) hx hb dX0_takesOfPupil_114 (by decide) ?_
        refine lv_bipush (v := nI 9) hx hb dX0_takesOfPupil_115 (by decide) ?_
        refine zk_effVi (As := [.int (bI true), .int (nI 9)]) (rest := []) (S := Unit) (fun r _ => r = bI true) (fun _ => [(q0, .inr (0, [.ref a0, .int (nI (if true then 9 else s))]))]) ⟨hx, hb, hml, hown, hts⟩ hK hP hD hS hA [0] [1, 2, 3, 4, 5, 6, 7] (wc := [(q0, .inr (0, [.ref a0, .int (nI s)]))]) (wr := [(a0, .inr (2, [.int (nI Y.D), .int (nI (Y.P + 1)), .int Y.db, .int Y.rm, .ref a1, .ref a2, .ref a3, .ref a4, .ref a5, .ref a6])), (a1, .inl (cI, 5, .inl Y.hard)), (a2, .inl (cI, 4, .inl Y.kind)), (a3, .inl (cI, 4, .inl Y.wit)), (a4, .inl (cI, 4, .inl (upd Y.pat Y.P (x - (nI 48))))), (a5, .inl (cI, 4, .inl Y.pret)), (a6, .inl (cI, 5, .inl st))]) rfl rfl (by decide) (by decide) (by decide) [7, 0, 1, 2, 3, 4, 5, 6] (fun (_ : Unit) => [(q0, .inr (0, [.ref a0, .int (nI (if true then 9 else s))])), (a0, .inr (2, [.int (nI Y.D), .int (nI (Y.P + 1)), .int Y.db, .int Y.rm, .ref a1, .ref a2, .ref a3, .ref a4, .ref a5, .ref a6])), (a1, .inl (cI, 5, .inl Y.hard)), (a2, .inl (cI, 4, .inl Y.kind)), (a3, .inl (cI, 4, .inl Y.wit)), (a4, .inl (cI, 4, .inl (upd Y.pat Y.P (x - (nI 48))))), (a5, .inl (cI, 4, .inl Y.pret)), (a6, .inl (cI, 5, .inl st))]) (fun _ => rfl) (by decide) (c_goesOn l D cI H.size q0 a0 s true 9 ) (cwV 2 hts gX0_takesOfPupil_X0_goesOn rfl rfl rfl hdX0_goesOn ⟨Nat.le_of_ble_eq_true rfl, Nat.le_of_ble_eq_true rfl⟩) rfl rfl rfl hl.1 rfl (Nat.le_of_ble_eq_true rfl) dX0_takesOfPupil_117 ⟨Nat.le_of_ble_eq_true rfl, Nat.le_of_ble_eq_true rfl⟩ (fun r_4 _ H locs hw_5 hP hD hS => ?_)
        have e_r_4 : r_4 = bI true := hw_5
        rw [e_r_4]
        have e_t : tkP s Y x = (true, if true then 9 else s, (Y.D, Y.P + 1, Y.db, Y.rm, Y.hard, Y.kind, Y.wit, upd Y.pat Y.P (x - (nI 48)), Y.pret)) := by simp [tkP, c_1, c_2, c_3]
        exact zk_retB hx hb hr (bI_nar _) hS (()) (by rw [e_t]) (by rw [e_t]; exact hP) (by rw [e_t]; exact hD) dX0_takesOfPupil_120 hlocks
      · refine lv_aload_n hx hb dX0_takesOfPupil_66 rfl (lv_at hl 0 rfl) ?_
        refine va_get (D := D) (ci := 0) (v := .ref a0) (C := RX0) (T := TX0) (N := 2) hx hb hts inX0 hown hK.1 hP 0 rfl rfl 0 (by decide) f_12 (fun _ h9 => h9) rfl dX0_takesOfPupil_67 ?_
        refine va_getN (D := D) (ci := 2) (v := .ref a3) (C := RX2) (T := TX2) (N := 10) hx hb hts inX2 hown hK.1 hP 1 rfl rfl 6 (by decide) f_60 (fun _ h9 => h9) rfl dX0_takesOfPupil_70 ?_
        refine lv_iload_n hx hb dX0_takesOfPupil_73 rfl (lv_at hl 1 rfl) ?_
        refine lv_iload_n hx hb dX0_takesOfPupil_74 rfl (lv_at hl 2 rfl) ?_
        refine lv_bipush (v := nI 48) hx hb dX0_takesOfPupil_75 (by decide) ?_
        refine lv_isub hx hb dX0_takesOfPupil_77 ?_
        refine zk_iast (x := x - (nI 48)) hx hb hK hP hD hS 4 rfl (by omega) (by decide) dX0_takesOfPupil_78 (fun H locs hP hD hS => ?_)
        have hP : va_P D vwCl [(q0, .inr (0, [.ref a0, .int (nI s)])), (a0, .inr (2, [.int (nI Y.D), .int (nI Y.P), .int Y.db, .int Y.rm, .ref a1, .ref a2, .ref a3, .ref a4, .ref a5, .ref a6])), (a1, .inl (cI, 5, .inl Y.hard)), (a2, .inl (cI, 4, .inl Y.kind)), (a3, .inl (cI, 4, .inl (upd Y.wit Y.P (x - (nI 48))))), (a4, .inl (cI, 4, .inl Y.pat)), (a5, .inl (cI, 4, .inl Y.pret)), (a6, .inl (cI, 5, .inl st))] H := hP
        have hD : va_D A [(q0, .inr (0, [.ref a0, .int (nI s)])), (a0, .inr (2, [.int (nI Y.D), .int (nI Y.P), .int Y.db, .int Y.rm, .ref a1, .ref a2, .ref a3, .ref a4, .ref a5, .ref a6])), (a1, .inl (cI, 5, .inl Y.hard)), (a2, .inl (cI, 4, .inl Y.kind)), (a3, .inl (cI, 4, .inl (upd Y.wit Y.P (x - (nI 48))))), (a4, .inl (cI, 4, .inl Y.pat)), (a5, .inl (cI, 4, .inl Y.pret)), (a6, .inl (cI, 5, .inl st))] := hD
        refine lv_aload_n hx hb dX0_takesOfPupil_79 rfl (lv_at hl 0 rfl) ?_
        refine lv_iconst (v := nI 1) hx hb dX0_takesOfPupil_80 (by decide) ?_
        refine lv_bipush (v := nI 8) hx hb dX0_takesOfPupil_81 (by decide) ?_
        refine zk_effVi (As := [.int (bI true), .int (nI 8)]) (rest := []) (S := Unit) (fun r _ => r = bI true) (fun _ => [(q0, .inr (0, [.ref a0, .int (nI (if true then 8 else s))]))]) ⟨hx, hb, hml, hown, hts⟩ hK hP hD hS hA [0] [1, 2, 3, 4, 5, 6, 7] (wc := [(q0, .inr (0, [.ref a0, .int (nI s)]))]) (wr := [(a0, .inr (2, [.int (nI Y.D), .int (nI Y.P), .int Y.db, .int Y.rm, .ref a1, .ref a2, .ref a3, .ref a4, .ref a5, .ref a6])), (a1, .inl (cI, 5, .inl Y.hard)), (a2, .inl (cI, 4, .inl Y.kind)), (a3, .inl (cI, 4, .inl (upd Y.wit Y.P (x - (nI 48))))), (a4, .inl (cI, 4, .inl Y.pat)), (a5, .inl (cI, 4, .inl Y.pret)), (a6, .inl (cI, 5, .inl st))]) rfl rfl (by decide) (by decide) (by decide) [7, 0, 1, 2, 3, 4, 5, 6] (fun (_ : Unit) => [(q0, .inr (0, [.ref a0, .int (nI (if true then 8 else s))])), (a0, .inr (2, [.int (nI Y.D), .int (nI Y.P), .int Y.db, .int Y.rm, .ref a1, .ref a2, .ref a3, .ref a4, .ref a5, .ref a6])), (a1, .inl (cI, 5, .inl Y.hard)), (a2, .inl (cI, 4, .inl Y.kind)), (a3, .inl (cI, 4, .inl (upd Y.wit Y.P (x - (nI 48))))), (a4, .inl (cI, 4, .inl Y.pat)), (a5, .inl (cI, 4, .inl Y.pret)), (a6, .inl (cI, 5, .inl st))]) (fun _ => rfl) (by decide) (c_goesOn l D cI H.size q0 a0 s true 8 ) (cwV 2 hts gX0_takesOfPupil_X0_goesOn rfl rfl rfl hdX0_goesOn ⟨Nat.le_of_ble_eq_true rfl, Nat.le_of_ble_eq_true rfl⟩) rfl rfl rfl hl.1 rfl (Nat.le_of_ble_eq_true rfl) dX0_takesOfPupil_83 ⟨Nat.le_of_ble_eq_true rfl, Nat.le_of_ble_eq_true rfl⟩ (fun r_6 _ H locs hw_7 hP hD hS => ?_)
        have e_r_6 : r_6 = bI true := hw_7
        rw [e_r_6]
        have e_t : tkP s Y x = (true, if true then 8 else s, (Y.D, Y.P, Y.db, Y.rm, Y.hard, Y.kind, upd Y.wit Y.P (x - (nI 48)), Y.pat, Y.pret)) := by simp [tkP, c_1, c_2, c_3]
        exact zk_retB hx hb hr (bI_nar _) hS (()) (by rw [e_t]) (by rw [e_t]; exact hP) (by rw [e_t]; exact hD) dX0_takesOfPupil_86 hlocks
    · refine lv_iconst (v := nI 0) hx hb dX0_takesOfPupil_55 (by decide) ?_
      have e_t : tkP s Y x = (false, s, (Y.D, Y.P, Y.db, Y.rm, Y.hard, Y.kind, Y.wit, Y.pat, Y.pret)) := by simp [tkP, c_1, c_2]
      exact zk_retB hx hb hr nI_nar0 hS (()) (by rw [e_t]; rfl) (by rw [e_t]; exact hP) (by rw [e_t]; exact hD) dX0_takesOfPupil_56 hlocks
  · refine lv_aload_n hx hb dX0_takesOfPupil_9 rfl (lv_at hl 0 rfl) ?_
    refine va_get (D := D) (ci := 0) (v := .ref a0) (C := RX0) (T := TX0) (N := 2) hx hb hts inX0 hown hK.1 hP 0 rfl rfl 0 (by decide) f_12 (fun _ h9 => h9) rfl dX0_takesOfPupil_10 ?_
    refine va_getN (D := D) (ci := 2) (v := .ref a2) (C := RX2) (T := TX2) (N := 10) hx hb hts inX2 hown hK.1 hP 1 rfl rfl 5 (by decide) f_53 (fun _ h9 => h9) rfl dX0_takesOfPupil_13 ?_
    refine lv_iload_n hx hb dX0_takesOfPupil_16 rfl (lv_at hl 1 rfl) ?_
    refine lv_iload_n hx hb dX0_takesOfPupil_17 rfl (lv_at hl 2 rfl) ?_
    refine zk_callSi (As := [.int x]) (rest := [.int (nI Y.P), .ref a2]) (kL x) ⟨hx, hb, hml, hown, hts⟩ hK hP [] rfl (c_kindOfLetter l D cI x ) (va_cwS 1 hts gX0_takesOfPupil_X0_kindOfLetter rfl rfl rfl hdX0_kindOfLetter ⟨Nat.le_of_ble_eq_true rfl, Nat.le_of_ble_eq_true rfl⟩) rfl hl.1 rfl (Nat.le_of_ble_eq_true rfl) dX0_takesOfPupil_18 ⟨Nat.le_of_ble_eq_true rfl, Nat.le_of_ble_eq_true rfl⟩ ?_
    refine zk_iast (x := kL x) hx hb hK hP hD hS 3 rfl (by omega) (by decide) dX0_takesOfPupil_21 (fun H locs hP hD hS => ?_)
    have hP : va_P D vwCl [(q0, .inr (0, [.ref a0, .int (nI s)])), (a0, .inr (2, [.int (nI Y.D), .int (nI Y.P), .int Y.db, .int Y.rm, .ref a1, .ref a2, .ref a3, .ref a4, .ref a5, .ref a6])), (a1, .inl (cI, 5, .inl Y.hard)), (a2, .inl (cI, 4, .inl (upd Y.kind Y.P (kL x)))), (a3, .inl (cI, 4, .inl Y.wit)), (a4, .inl (cI, 4, .inl Y.pat)), (a5, .inl (cI, 4, .inl Y.pret)), (a6, .inl (cI, 5, .inl st))] H := hP
    have hD : va_D A [(q0, .inr (0, [.ref a0, .int (nI s)])), (a0, .inr (2, [.int (nI Y.D), .int (nI Y.P), .int Y.db, .int Y.rm, .ref a1, .ref a2, .ref a3, .ref a4, .ref a5, .ref a6])), (a1, .inl (cI, 5, .inl Y.hard)), (a2, .inl (cI, 4, .inl (upd Y.kind Y.P (kL x)))), (a3, .inl (cI, 4, .inl Y.wit)), (a4, .inl (cI, 4, .inl Y.pat)), (a5, .inl (cI, 4, .inl Y.pret)), (a6, .inl (cI, 5, .inl st))] := hD
    refine lv_aload_n hx hb dX0_takesOfPupil_22 rfl (lv_at hl 0 rfl) ?_
    refine lv_aload_n hx hb dX0_takesOfPupil_23 rfl (lv_at hl 0 rfl) ?_
    refine va_get (D := D) (ci := 0) (v := .ref a0) (C := RX0) (T := TX0) (N := 2) hx hb hts inX0 hown hK.1 hP 0 rfl rfl 0 (by decide) f_12 (fun _ h9 => h9) rfl dX0_takesOfPupil_24 ?_
    refine va_getN (D := D) (ci := 2) (v := .ref a2) (C := RX2) (T := TX2) (N := 10) hx hb hts inX2 hown hK.1 hP 1 rfl rfl 5 (by decide) f_53 (fun _ h9 => h9) rfl dX0_takesOfPupil_27 ?_
    refine lv_iload_n hx hb dX0_takesOfPupil_30 rfl (lv_at hl 1 rfl) ?_
    refine zk_iald hx hb hK hP 3 rfl (by omega) (by decide) dX0_takesOfPupil_31 ?_
    refine zk_top (y := kL x) (upd_s _ _ _) ?_
    refine lv_bipush (v := (-9)) hx hb dX0_takesOfPupil_32 (by decide) ?_
    refine lv_icmp_eq (tgt := 41) hx hb dX0_takesOfPupil_34 (by decide) (fun c_8 => ?_) (fun c_8 => ?_)
    · refine lv_iconst (v := nI 0) hx hb dX0_takesOfPupil_41 (by decide) ?_
      refine lv_bipush (v := nI 7) hx hb dX0_takesOfPupil_42 (by decide) ?_
      refine zk_effVi (As := [.int (bI false), .int (nI 7)]) (rest := []) (S := Unit) (fun r _ => r = bI false) (fun _ => [(q0, .inr (0, [.ref a0, .int (nI (if false then 7 else s))]))]) ⟨hx, hb, hml, hown, hts⟩ hK hP hD hS hA [0] [1, 2, 3, 4, 5, 6, 7] (wc := [(q0, .inr (0, [.ref a0, .int (nI s)]))]) (wr := [(a0, .inr (2, [.int (nI Y.D), .int (nI Y.P), .int Y.db, .int Y.rm, .ref a1, .ref a2, .ref a3, .ref a4, .ref a5, .ref a6])), (a1, .inl (cI, 5, .inl Y.hard)), (a2, .inl (cI, 4, .inl (upd Y.kind Y.P (kL x)))), (a3, .inl (cI, 4, .inl Y.wit)), (a4, .inl (cI, 4, .inl Y.pat)), (a5, .inl (cI, 4, .inl Y.pret)), (a6, .inl (cI, 5, .inl st))]) rfl rfl (by decide) (by decide) (by decide) [7, 0, 1, 2, 3, 4, 5, 6] (fun (_ : Unit) => [(q0, .inr (0, [.ref a0, .int (nI (if false then 7 else s))])), (a0, .inr (2, [.int (nI Y.D), .int (nI Y.P), .int Y.db, .int Y.rm, .ref a1, .ref a2, .ref a3, .ref a4, .ref a5, .ref a6])), (a1, .inl (cI, 5, .inl Y.hard)), (a2, .inl (cI, 4, .inl (upd Y.kind Y.P (kL x)))), (a3, .inl (cI, 4, .inl Y.wit)), (a4, .inl (cI, 4, .inl Y.pat)), (a5, .inl (cI, 4, .inl Y.pret)), (a6, .inl (cI, 5, .inl st))]) (fun _ => rfl) (by decide) (c_goesOn l D cI H.size q0 a0 s false 7 ) (cwV 2 hts gX0_takesOfPupil_X0_goesOn rfl rfl rfl hdX0_goesOn ⟨Nat.le_of_ble_eq_true rfl, Nat.le_of_ble_eq_true rfl⟩) rfl rfl rfl hl.1 rfl (Nat.le_of_ble_eq_true rfl) dX0_takesOfPupil_44 ⟨Nat.le_of_ble_eq_true rfl, Nat.le_of_ble_eq_true rfl⟩ (fun r_9 _ H locs hw_10 hP hD hS => ?_)
      have e_r_9 : r_9 = bI false := hw_10
      rw [e_r_9]
      have e_t : tkP s Y x = (false, if false then 7 else s, (Y.D, Y.P, Y.db, Y.rm, Y.hard, upd Y.kind Y.P (kL x), Y.wit, Y.pat, Y.pret)) := by simp [tkP, c_1, c_8]
      exact zk_retB hx hb hr (bI_nar _) hS (()) (by rw [e_t]) (by rw [e_t]; exact hP) (by rw [e_t]; exact hD) dX0_takesOfPupil_47 hlocks
    · refine lv_iconst (v := nI 1) hx hb dX0_takesOfPupil_37 (by decide) ?_
      refine lv_goto (tgt := 42) hx hb dX0_takesOfPupil_38 (by decide) ?_
      refine lv_bipush (v := nI 7) hx hb dX0_takesOfPupil_42 (by decide) ?_
      refine zk_effVi (As := [.int (bI true), .int (nI 7)]) (rest := []) (S := Unit) (fun r _ => r = bI true) (fun _ => [(q0, .inr (0, [.ref a0, .int (nI (if true then 7 else s))]))]) ⟨hx, hb, hml, hown, hts⟩ hK hP hD hS hA [0] [1, 2, 3, 4, 5, 6, 7] (wc := [(q0, .inr (0, [.ref a0, .int (nI s)]))]) (wr := [(a0, .inr (2, [.int (nI Y.D), .int (nI Y.P), .int Y.db, .int Y.rm, .ref a1, .ref a2, .ref a3, .ref a4, .ref a5, .ref a6])), (a1, .inl (cI, 5, .inl Y.hard)), (a2, .inl (cI, 4, .inl (upd Y.kind Y.P (kL x)))), (a3, .inl (cI, 4, .inl Y.wit)), (a4, .inl (cI, 4, .inl Y.pat)), (a5, .inl (cI, 4, .inl Y.pret)), (a6, .inl (cI, 5, .inl st))]) rfl rfl (by decide) (by decide) (by decide) [7, 0, 1, 2, 3, 4, 5, 6] (fun (_ : Unit) => [(q0, .inr (0, [.ref a0, .int (nI (if true then 7 else s))])), (a0, .inr (2, [.int (nI Y.D), .int (nI Y.P), .int Y.db, .int Y.rm, .ref a1, .ref a2, .ref a3, .ref a4, .ref a5, .ref a6])), (a1, .inl (cI, 5, .inl Y.hard)), (a2, .inl (cI, 4, .inl (upd Y.kind Y.P (kL x)))), (a3, .inl (cI, 4, .inl Y.wit)), (a4, .inl (cI, 4, .inl Y.pat)), (a5, .inl (cI, 4, .inl Y.pret)), (a6, .inl (cI, 5, .inl st))]) (fun _ => rfl) (by decide) (c_goesOn l D cI H.size q0 a0 s true 7 ) (cwV 2 hts gX0_takesOfPupil_X0_goesOn rfl rfl rfl hdX0_goesOn ⟨Nat.le_of_ble_eq_true rfl, Nat.le_of_ble_eq_true rfl⟩) rfl rfl rfl hl.1 rfl (Nat.le_of_ble_eq_true rfl) dX0_takesOfPupil_44 ⟨Nat.le_of_ble_eq_true rfl, Nat.le_of_ble_eq_true rfl⟩ (fun r_11 _ H locs hw_12 hP hD hS => ?_)
      have e_r_11 : r_11 = bI true := hw_12
      rw [e_r_11]
      have e_t : tkP s Y x = (true, if true then 7 else s, (Y.D, Y.P, Y.db, Y.rm, Y.hard, upd Y.kind Y.P (kL x), Y.wit, Y.pat, Y.pret)) := by simp [tkP, c_1, c_8]
      exact zk_retB hx hb hr (bI_nar _) hS (()) (by rw [e_t]) (by rw [e_t]; exact hP) (by rw [e_t]; exact hD) dX0_takesOfPupil_47 hlocks
set_option maxHeartbeats 4000000 in
set_option maxRecDepth 100000 in
theorem c_takes (l : Launch) (D : va_G) (cI : ClassId) (sz : Nat) (q0 : Nat) (a0 : Nat) (a1 : Nat) (a2 : Nat) (a3 : Nat) (a4 : Nat) (a5 : Nat) (a6 : Nat) (s : Nat) (Y : YS) (st : Nat → Int32) (x : Int32) (hs : s ≤ 9) (hok : OkY Y) : Met l yX0_takes wsX0_takes ({ frames := 2, cells := 0, slots := 0, locals := 44 }) (PQ D cI [.ref q0, .int x] (wRe cI q0 a0 a1 a2 a3 a4 a5 a6 s Y st) sz) (QI (S := Unit) D (fun r _ => r = bI (tk s Y x).1) (fun _ => wRe cI q0 a0 a1 a2 a3 a4 a5 a6 (tk s Y x).2.1 (tk s Y x).2.2 st) (va_A (wRe cI q0 a0 a1 a2 a3 a4 a5 a6 s Y st) sz)) 0 0 (va_A (wRe cI q0 a0 a1 a2 a3 a4 a5 a6 s Y st) sz) := by
  refine zk_Q (QI (S := Unit) D (fun r _ => r = bI (tk s Y x).1) (fun _ => wRe cI q0 a0 a1 a2 a3 a4 a5 a6 (tk s Y x).2.1 (tk s Y x).2.2 st)) (cc := cX0_takes) (maxL := 2) (ret := (some .boolean)) (by decide) rfl (Nat.le_of_ble_eq_true rfl) ?_
  intro pX eX sX mX bX tX cX hx hb hr hlocks hml hown hmn hts hP hK A hA hD hS ls hl
  have hl : lv_has ls 2 [(0, .ref q0), (1, .int x)] := hl
  have hP : va_P D vwCl [(q0, .inr (0, [.ref a0, .int (nI s)])), (a0, .inr (2, [.int (nI Y.D), .int (nI Y.P), .int Y.db, .int Y.rm, .ref a1, .ref a2, .ref a3, .ref a4, .ref a5, .ref a6])), (a1, .inl (cI, 5, .inl Y.hard)), (a2, .inl (cI, 4, .inl Y.kind)), (a3, .inl (cI, 4, .inl Y.wit)), (a4, .inl (cI, 4, .inl Y.pat)), (a5, .inl (cI, 4, .inl Y.pret)), (a6, .inl (cI, 5, .inl st))] sX.heap := hP
  have hD : va_D A [(q0, .inr (0, [.ref a0, .int (nI s)])), (a0, .inr (2, [.int (nI Y.D), .int (nI Y.P), .int Y.db, .int Y.rm, .ref a1, .ref a2, .ref a3, .ref a4, .ref a5, .ref a6])), (a1, .inl (cI, 5, .inl Y.hard)), (a2, .inl (cI, 4, .inl Y.kind)), (a3, .inl (cI, 4, .inl Y.wit)), (a4, .inl (cI, 4, .inl Y.pat)), (a5, .inl (cI, 4, .inl Y.pret)), (a6, .inl (cI, 5, .inl st))] := hD
  have f_18 := hts (.fieldLink RX0 18 "DunceSee$Reader" "step" "I") (by decide +kernel)
  have f_12 := hts (.fieldLink RX0 12 "DunceSee$Reader" "roll" "LDunceSee$Roll;") (by decide +kernel)
  have f_32 := hK.nest (A := ([.ref q0, .int x] : List Value).toArray) 5 rfl
  have f_39 := hK.nest (A := ([.ref q0, .int x] : List Value).toArray) 7 rfl
  have f_25 := hK.nest (A := ([.ref q0, .int x] : List Value).toArray) 3 rfl
  have inX0 : ∀ w ∈ wsX00, w ∈ wsX0_takes := fun w h => List.mem_cons_of_mem _ (List.mem_append_left _ (List.mem_append_right _ h))
  have inX2 : ∀ w ∈ wsX20, w ∈ wsX0_takes := fun w h => List.mem_cons_of_mem _ (List.mem_append_right _ h)
  have hD5 : Y.D ≤ 5 := hok.1
  have hP4 : Y.P ≤ 4 := hok.2
  refine lv_aload_n hx hb dX0_takes_0 rfl (lv_at hl 0 rfl) ?_
  refine va_get (D := D) (ci := 0) (v := .int (nI s)) (C := RX0) (T := TX0) (N := 2) hx hb hts inX0 hown hK.1 hP 0 rfl rfl 1 (by decide) f_18 (fun _ h9 => h9) rfl dX0_takes_1 ?_
  by_cases c_1 : s = 0
  · refine lv_tableIn (tgt := 60) hx hb dX0_takes_4 (by rw [c_1]; decide) (by rw [c_1]; decide) (by rw [c_1]; try rfl) (by decide) ?_
    refine lv_aload_n hx hb dX0_takes_60 rfl (lv_at hl 0 rfl) ?_
    refine lv_iload_n hx hb dX0_takes_61 rfl (lv_at hl 1 rfl) ?_
    refine lv_bipush (v := nI 99) hx hb dX0_takes_62 (by decide) ?_
    refine lv_icmp_ne (tgt := 71) hx hb dX0_takes_64 (by decide) (fun c_2 => ?_) (fun c_2 => ?_)
    · refine lv_iconst (v := nI 0) hx hb dX0_takes_71 (by decide) ?_
      refine lv_iconst (v := nI 1) hx hb dX0_takes_72 (by decide) ?_
      refine zk_effVi (As := [.int (bI false), .int (nI 1)]) (rest := []) (S := Unit) (fun r _ => r = bI false) (fun _ => [(q0, .inr (0, [.ref a0, .int (nI (if false then 1 else s))]))]) ⟨hx, hb, hml, hown, hts⟩ hK hP hD hS hA [0] [1, 2, 3, 4, 5, 6, 7] (wc := [(q0, .inr (0, [.ref a0, .int (nI s)]))]) (wr := [(a0, .inr (2, [.int (nI Y.D), .int (nI Y.P), .int Y.db, .int Y.rm, .ref a1, .ref a2, .ref a3, .ref a4, .ref a5, .ref a6])), (a1, .inl (cI, 5, .inl Y.hard)), (a2, .inl (cI, 4, .inl Y.kind)), (a3, .inl (cI, 4, .inl Y.wit)), (a4, .inl (cI, 4, .inl Y.pat)), (a5, .inl (cI, 4, .inl Y.pret)), (a6, .inl (cI, 5, .inl st))]) rfl rfl (by decide) (by decide) (by decide) [7, 0, 1, 2, 3, 4, 5, 6] (fun (_ : Unit) => [(q0, .inr (0, [.ref a0, .int (nI (if false then 1 else s))])), (a0, .inr (2, [.int (nI Y.D), .int (nI Y.P), .int Y.db, .int Y.rm, .ref a1, .ref a2, .ref a3, .ref a4, .ref a5, .ref a6])), (a1, .inl (cI, 5, .inl Y.hard)), (a2, .inl (cI, 4, .inl Y.kind)), (a3, .inl (cI, 4, .inl Y.wit)), (a4, .inl (cI, 4, .inl Y.pat)), (a5, .inl (cI, 4, .inl Y.pret)), (a6, .inl (cI, 5, .inl st))]) (fun _ => rfl) (by decide) (c_goesOn l D cI sX.heap.size q0 a0 s false 1 ) (cwV 2 hts gX0_takes_X0_goesOn rfl rfl rfl hdX0_goesOn ⟨Nat.le_of_ble_eq_true rfl, Nat.le_of_ble_eq_true rfl⟩) rfl rfl rfl hl.1 rfl (Nat.le_of_ble_eq_true rfl) dX0_takes_73 ⟨Nat.le_of_ble_eq_true rfl, Nat.le_of_ble_eq_true rfl⟩ (fun r_3 _ H locs hw_4 hP hD hS => ?_)
      have e_r_3 : r_3 = bI false := hw_4
      rw [e_r_3]
      have e_t : tk s Y x = (false, if false then 1 else s, (Y.D, Y.P, Y.db, Y.rm, Y.hard, Y.kind, Y.wit, Y.pat, Y.pret)) := by simp [tk, c_1, c_2]
      exact zk_retB hx hb hr (bI_nar _) hS (()) (by rw [e_t]) (by rw [e_t]; exact hP) (by rw [e_t]; exact hD) dX0_takes_76 hlocks
    · refine lv_iconst (v := nI 1) hx hb dX0_takes_67 (by decide) ?_
      refine lv_goto (tgt := 72) hx hb dX0_takes_68 (by decide) ?_
      refine lv_iconst (v := nI 1) hx hb dX0_takes_72 (by decide) ?_
      refine zk_effVi (As := [.int (bI true), .int (nI 1)]) (rest := []) (S := Unit) (fun r _ => r = bI true) (fun _ => [(q0, .inr (0, [.ref a0, .int (nI (if true then 1 else s))]))]) ⟨hx, hb, hml, hown, hts⟩ hK hP hD hS hA [0] [1, 2, 3, 4, 5, 6, 7] (wc := [(q0, .inr (0, [.ref a0, .int (nI s)]))]) (wr := [(a0, .inr (2, [.int (nI Y.D), .int (nI Y.P), .int Y.db, .int Y.rm, .ref a1, .ref a2, .ref a3, .ref a4, .ref a5, .ref a6])), (a1, .inl (cI, 5, .inl Y.hard)), (a2, .inl (cI, 4, .inl Y.kind)), (a3, .inl (cI, 4, .inl Y.wit)), (a4, .inl (cI, 4, .inl Y.pat)), (a5, .inl (cI, 4, .inl Y.pret)), (a6, .inl (cI, 5, .inl st))]) rfl rfl (by decide) (by decide) (by decide) [7, 0, 1, 2, 3, 4, 5, 6] (fun (_ : Unit) => [(q0, .inr (0, [.ref a0, .int (nI (if true then 1 else s))])), (a0, .inr (2, [.int (nI Y.D), .int (nI Y.P), .int Y.db, .int Y.rm, .ref a1, .ref a2, .ref a3, .ref a4, .ref a5, .ref a6])), (a1, .inl (cI, 5, .inl Y.hard)), (a2, .inl (cI, 4, .inl Y.kind)), (a3, .inl (cI, 4, .inl Y.wit)), (a4, .inl (cI, 4, .inl Y.pat)), (a5, .inl (cI, 4, .inl Y.pret)), (a6, .inl (cI, 5, .inl st))]) (fun _ => rfl) (by decide) (c_goesOn l D cI sX.heap.size q0 a0 s true 1 ) (cwV 2 hts gX0_takes_X0_goesOn rfl rfl rfl hdX0_goesOn ⟨Nat.le_of_ble_eq_true rfl, Nat.le_of_ble_eq_true rfl⟩) rfl rfl rfl hl.1 rfl (Nat.le_of_ble_eq_true rfl) dX0_takes_73 ⟨Nat.le_of_ble_eq_true rfl, Nat.le_of_ble_eq_true rfl⟩ (fun r_5 _ H locs hw_6 hP hD hS => ?_)
      have e_r_5 : r_5 = bI true := hw_6
      rw [e_r_5]
      have e_t : tk s Y x = (true, if true then 1 else s, (Y.D, Y.P, Y.db, Y.rm, Y.hard, Y.kind, Y.wit, Y.pat, Y.pret)) := by simp [tk, c_1, c_2]
      exact zk_retB hx hb hr (bI_nar _) hS (()) (by rw [e_t]) (by rw [e_t]; exact hP) (by rw [e_t]; exact hD) dX0_takes_76 hlocks
  by_cases c_7 : s = 1
  · refine lv_tableIn (tgt := 77) hx hb dX0_takes_4 (by rw [c_7]; decide) (by rw [c_7]; decide) (by rw [c_7]; try rfl) (by decide) ?_
    refine lv_aload_n hx hb dX0_takes_77 rfl (lv_at hl 0 rfl) ?_
    refine va_get (D := D) (ci := 0) (v := .ref a0) (C := RX0) (T := TX0) (N := 2) hx hb hts inX0 hown hK.1 hP 0 rfl rfl 0 (by decide) f_12 (fun _ h9 => h9) rfl dX0_takes_78 ?_
    refine lv_iload_n hx hb dX0_takes_81 rfl (lv_at hl 1 rfl) ?_
    refine lv_bipush (v := nI 48) hx hb dX0_takes_82 (by decide) ?_
    refine lv_isub hx hb dX0_takes_84 ?_
    refine va_putN (D := D) (ci := 2) (v := .int (x - (nI 48))) (ty := .int) (C := RX2) (T := TX2) (N := 10) hx hb hts inX2 tyX2 tyX2_ok nmX2 hown hK.1 hP hD hS 1 rfl rfl 2 (by decide) f_32 (fun _ h9 => h9) rfl (by decide +kernel) rfl rfl (Nat.le_of_ble_eq_true rfl) dX0_takes_85 (fun H locs hP hD hS => ?_)
    have hP : va_P D vwCl [(q0, .inr (0, [.ref a0, .int (nI s)])), (a0, .inr (2, [.int (nI Y.D), .int (nI Y.P), .int (x - (nI 48)), .int Y.rm, .ref a1, .ref a2, .ref a3, .ref a4, .ref a5, .ref a6])), (a1, .inl (cI, 5, .inl Y.hard)), (a2, .inl (cI, 4, .inl Y.kind)), (a3, .inl (cI, 4, .inl Y.wit)), (a4, .inl (cI, 4, .inl Y.pat)), (a5, .inl (cI, 4, .inl Y.pret)), (a6, .inl (cI, 5, .inl st))] H := hP
    have hD : va_D A [(q0, .inr (0, [.ref a0, .int (nI s)])), (a0, .inr (2, [.int (nI Y.D), .int (nI Y.P), .int (x - (nI 48)), .int Y.rm, .ref a1, .ref a2, .ref a3, .ref a4, .ref a5, .ref a6])), (a1, .inl (cI, 5, .inl Y.hard)), (a2, .inl (cI, 4, .inl Y.kind)), (a3, .inl (cI, 4, .inl Y.wit)), (a4, .inl (cI, 4, .inl Y.pat)), (a5, .inl (cI, 4, .inl Y.pret)), (a6, .inl (cI, 5, .inl st))] := hD
    refine lv_aload_n hx hb dX0_takes_88 rfl (lv_at hl 0 rfl) ?_
    refine lv_iload_n hx hb dX0_takes_89 rfl (lv_at hl 1 rfl) ?_
    refine zk_callSi (As := [.int x]) (rest := [.ref q0]) (bI (dg x)) ⟨hx, hb, hml, hown, hts⟩ hK hP [] rfl (c_isDigit l D cI x ) (va_cwS 1 hts gX0_takes_X0_isDigit rfl rfl rfl hdX0_isDigit ⟨Nat.le_of_ble_eq_true rfl, Nat.le_of_ble_eq_true rfl⟩) rfl hl.1 rfl (Nat.le_of_ble_eq_true rfl) dX0_takes_90 ⟨Nat.le_of_ble_eq_true rfl, Nat.le_of_ble_eq_true rfl⟩ ?_
    refine lv_iconst (v := nI 2) hx hb dX0_takes_93 (by decide) ?_
    refine zk_effVi (As := [.int (bI (dg x)), .int (nI 2)]) (rest := []) (S := Unit) (fun r _ => r = bI (dg x)) (fun _ => [(q0, .inr (0, [.ref a0, .int (nI (if (dg x) then 2 else s))]))]) ⟨hx, hb, hml, hown, hts⟩ hK hP hD hS hA [0] [1, 2, 3, 4, 5, 6, 7] (wc := [(q0, .inr (0, [.ref a0, .int (nI s)]))]) (wr := [(a0, .inr (2, [.int (nI Y.D), .int (nI Y.P), .int (x - (nI 48)), .int Y.rm, .ref a1, .ref a2, .ref a3, .ref a4, .ref a5, .ref a6])), (a1, .inl (cI, 5, .inl Y.hard)), (a2, .inl (cI, 4, .inl Y.kind)), (a3, .inl (cI, 4, .inl Y.wit)), (a4, .inl (cI, 4, .inl Y.pat)), (a5, .inl (cI, 4, .inl Y.pret)), (a6, .inl (cI, 5, .inl st))]) rfl rfl (by decide) (by decide) (by decide) [7, 0, 1, 2, 3, 4, 5, 6] (fun (_ : Unit) => [(q0, .inr (0, [.ref a0, .int (nI (if (dg x) then 2 else s))])), (a0, .inr (2, [.int (nI Y.D), .int (nI Y.P), .int (x - (nI 48)), .int Y.rm, .ref a1, .ref a2, .ref a3, .ref a4, .ref a5, .ref a6])), (a1, .inl (cI, 5, .inl Y.hard)), (a2, .inl (cI, 4, .inl Y.kind)), (a3, .inl (cI, 4, .inl Y.wit)), (a4, .inl (cI, 4, .inl Y.pat)), (a5, .inl (cI, 4, .inl Y.pret)), (a6, .inl (cI, 5, .inl st))]) (fun _ => rfl) (by decide) (c_goesOn l D cI H.size q0 a0 s (dg x) 2 ) (cwV 2 hts gX0_takes_X0_goesOn rfl rfl rfl hdX0_goesOn ⟨Nat.le_of_ble_eq_true rfl, Nat.le_of_ble_eq_true rfl⟩) rfl rfl rfl hl.1 rfl (Nat.le_of_ble_eq_true rfl) dX0_takes_94 ⟨Nat.le_of_ble_eq_true rfl, Nat.le_of_ble_eq_true rfl⟩ (fun r_8 _ H locs hw_9 hP hD hS => ?_)
    have e_r_8 : r_8 = bI (dg x) := hw_9
    rw [e_r_8]
    have e_t : tk s Y x = (dg x, if (dg x) then 2 else s, (Y.D, Y.P, x - (nI 48), Y.rm, Y.hard, Y.kind, Y.wit, Y.pat, Y.pret)) := by simp [tk, c_1, c_7]
    exact zk_retB hx hb hr (bI_nar _) hS (()) (by rw [e_t]) (by rw [e_t]; exact hP) (by rw [e_t]; exact hD) dX0_takes_97 hlocks
  by_cases c_10 : s = 2
  · refine lv_tableIn (tgt := 98) hx hb dX0_takes_4 (by rw [c_10]; decide) (by rw [c_10]; decide) (by rw [c_10]; try rfl) (by decide) ?_
    refine lv_aload_n hx hb dX0_takes_98 rfl (lv_at hl 0 rfl) ?_
    refine va_get (D := D) (ci := 0) (v := .ref a0) (C := RX0) (T := TX0) (N := 2) hx hb hts inX0 hown hK.1 hP 0 rfl rfl 0 (by decide) f_12 (fun _ h9 => h9) rfl dX0_takes_99 ?_
    refine lv_iload_n hx hb dX0_takes_102 rfl (lv_at hl 1 rfl) ?_
    refine lv_bipush (v := nI 48) hx hb dX0_takes_103 (by decide) ?_
    refine lv_isub hx hb dX0_takes_105 ?_
    refine va_putN (D := D) (ci := 2) (v := .int (x - (nI 48))) (ty := .int) (C := RX2) (T := TX2) (N := 10) hx hb hts inX2 tyX2 tyX2_ok nmX2 hown hK.1 hP hD hS 1 rfl rfl 3 (by decide) f_39 (fun _ h9 => h9) rfl (by decide +kernel) rfl rfl (Nat.le_of_ble_eq_true rfl) dX0_takes_106 (fun H locs hP hD hS => ?_)
    have hP : va_P D vwCl [(q0, .inr (0, [.ref a0, .int (nI s)])), (a0, .inr (2, [.int (nI Y.D), .int (nI Y.P), .int Y.db, .int (x - (nI 48)), .ref a1, .ref a2, .ref a3, .ref a4, .ref a5, .ref a6])), (a1, .inl (cI, 5, .inl Y.hard)), (a2, .inl (cI, 4, .inl Y.kind)), (a3, .inl (cI, 4, .inl Y.wit)), (a4, .inl (cI, 4, .inl Y.pat)), (a5, .inl (cI, 4, .inl Y.pret)), (a6, .inl (cI, 5, .inl st))] H := hP
    have hD : va_D A [(q0, .inr (0, [.ref a0, .int (nI s)])), (a0, .inr (2, [.int (nI Y.D), .int (nI Y.P), .int Y.db, .int (x - (nI 48)), .ref a1, .ref a2, .ref a3, .ref a4, .ref a5, .ref a6])), (a1, .inl (cI, 5, .inl Y.hard)), (a2, .inl (cI, 4, .inl Y.kind)), (a3, .inl (cI, 4, .inl Y.wit)), (a4, .inl (cI, 4, .inl Y.pat)), (a5, .inl (cI, 4, .inl Y.pret)), (a6, .inl (cI, 5, .inl st))] := hD
    refine lv_aload_n hx hb dX0_takes_109 rfl (lv_at hl 0 rfl) ?_
    refine lv_iload_n hx hb dX0_takes_110 rfl (lv_at hl 1 rfl) ?_
    refine lv_bipush (v := nI 49) hx hb dX0_takes_111 (by decide) ?_
    refine lv_icmp_lt (tgt := 126) hx hb dX0_takes_113 (by decide) (fun c_11 => ?_) (fun c_11 => ?_)
    · refine lv_iconst (v := nI 0) hx hb dX0_takes_126 (by decide) ?_
      refine lv_iconst (v := nI 3) hx hb dX0_takes_127 (by decide) ?_
      refine zk_effVi (As := [.int (bI false), .int (nI 3)]) (rest := []) (S := Unit) (fun r _ => r = bI false) (fun _ => [(q0, .inr (0, [.ref a0, .int (nI (if false then 3 else s))]))]) ⟨hx, hb, hml, hown, hts⟩ hK hP hD hS hA [0] [1, 2, 3, 4, 5, 6, 7] (wc := [(q0, .inr (0, [.ref a0, .int (nI s)]))]) (wr := [(a0, .inr (2, [.int (nI Y.D), .int (nI Y.P), .int Y.db, .int (x - (nI 48)), .ref a1, .ref a2, .ref a3, .ref a4, .ref a5, .ref a6])), (a1, .inl (cI, 5, .inl Y.hard)), (a2, .inl (cI, 4, .inl Y.kind)), (a3, .inl (cI, 4, .inl Y.wit)), (a4, .inl (cI, 4, .inl Y.pat)), (a5, .inl (cI, 4, .inl Y.pret)), (a6, .inl (cI, 5, .inl st))]) rfl rfl (by decide) (by decide) (by decide) [7, 0, 1, 2, 3, 4, 5, 6] (fun (_ : Unit) => [(q0, .inr (0, [.ref a0, .int (nI (if false then 3 else s))])), (a0, .inr (2, [.int (nI Y.D), .int (nI Y.P), .int Y.db, .int (x - (nI 48)), .ref a1, .ref a2, .ref a3, .ref a4, .ref a5, .ref a6])), (a1, .inl (cI, 5, .inl Y.hard)), (a2, .inl (cI, 4, .inl Y.kind)), (a3, .inl (cI, 4, .inl Y.wit)), (a4, .inl (cI, 4, .inl Y.pat)), (a5, .inl (cI, 4, .inl Y.pret)), (a6, .inl (cI, 5, .inl st))]) (fun _ => rfl) (by decide) (c_goesOn l D cI H.size q0 a0 s false 3 ) (cwV 2 hts gX0_takes_X0_goesOn rfl rfl rfl hdX0_goesOn ⟨Nat.le_of_ble_eq_true rfl, Nat.le_of_ble_eq_true rfl⟩) rfl rfl rfl hl.1 rfl (Nat.le_of_ble_eq_true rfl) dX0_takes_128 ⟨Nat.le_of_ble_eq_true rfl, Nat.le_of_ble_eq_true rfl⟩ (fun r_12 _ H locs hw_13 hP hD hS => ?_)
      have e_r_12 : r_12 = bI false := hw_13
      rw [e_r_12]
      have e_t : tk s Y x = (false, if false then 3 else s, (Y.D, Y.P, Y.db, x - (nI 48), Y.hard, Y.kind, Y.wit, Y.pat, Y.pret)) := by simp [tk, c_1, c_7, c_10, c_11, (Int32.not_le.mpr c_11)]
      exact zk_retB hx hb hr (bI_nar _) hS (()) (by rw [e_t]) (by rw [e_t]; exact hP) (by rw [e_t]; exact hD) dX0_takes_131 hlocks
    · have c_11 := Int32.not_lt.mp c_11
      refine lv_iload_n hx hb dX0_takes_116 rfl (lv_at hl 1 rfl) ?_
      refine lv_bipush (v := nI 52) hx hb dX0_takes_117 (by decide) ?_
      refine lv_icmp_gt (tgt := 126) hx hb dX0_takes_119 (by decide) (fun c_14 => ?_) (fun c_14 => ?_)
      · refine lv_iconst (v := nI 0) hx hb dX0_takes_126 (by decide) ?_
        refine lv_iconst (v := nI 3) hx hb dX0_takes_127 (by decide) ?_
        refine zk_effVi (As := [.int (bI false), .int (nI 3)]) (rest := []) (S := Unit) (fun r _ => r = bI false) (fun _ => [(q0, .inr (0, [.ref a0, .int (nI (if false then 3 else s))]))]) ⟨hx, hb, hml, hown, hts⟩ hK hP hD hS hA [0] [1, 2, 3, 4, 5, 6, 7] (wc := [(q0, .inr (0, [.ref a0, .int (nI s)]))]) (wr := [(a0, .inr (2, [.int (nI Y.D), .int (nI Y.P), .int Y.db, .int (x - (nI 48)), .ref a1, .ref a2, .ref a3, .ref a4, .ref a5, .ref a6])), (a1, .inl (cI, 5, .inl Y.hard)), (a2, .inl (cI, 4, .inl Y.kind)), (a3, .inl (cI, 4, .inl Y.wit)), (a4, .inl (cI, 4, .inl Y.pat)), (a5, .inl (cI, 4, .inl Y.pret)), (a6, .inl (cI, 5, .inl st))]) rfl rfl (by decide) (by decide) (by decide) [7, 0, 1, 2, 3, 4, 5, 6] (fun (_ : Unit) => [(q0, .inr (0, [.ref a0, .int (nI (if false then 3 else s))])), (a0, .inr (2, [.int (nI Y.D), .int (nI Y.P), .int Y.db, .int (x - (nI 48)), .ref a1, .ref a2, .ref a3, .ref a4, .ref a5, .ref a6])), (a1, .inl (cI, 5, .inl Y.hard)), (a2, .inl (cI, 4, .inl Y.kind)), (a3, .inl (cI, 4, .inl Y.wit)), (a4, .inl (cI, 4, .inl Y.pat)), (a5, .inl (cI, 4, .inl Y.pret)), (a6, .inl (cI, 5, .inl st))]) (fun _ => rfl) (by decide) (c_goesOn l D cI H.size q0 a0 s false 3 ) (cwV 2 hts gX0_takes_X0_goesOn rfl rfl rfl hdX0_goesOn ⟨Nat.le_of_ble_eq_true rfl, Nat.le_of_ble_eq_true rfl⟩) rfl rfl rfl hl.1 rfl (Nat.le_of_ble_eq_true rfl) dX0_takes_128 ⟨Nat.le_of_ble_eq_true rfl, Nat.le_of_ble_eq_true rfl⟩ (fun r_15 _ H locs hw_16 hP hD hS => ?_)
        have e_r_15 : r_15 = bI false := hw_16
        rw [e_r_15]
        have e_t : tk s Y x = (false, if false then 3 else s, (Y.D, Y.P, Y.db, x - (nI 48), Y.hard, Y.kind, Y.wit, Y.pat, Y.pret)) := by simp [tk, c_1, c_7, c_10, c_11, (Int32.not_lt.mpr c_11), c_14, (Int32.not_le.mpr c_14)]
        exact zk_retB hx hb hr (bI_nar _) hS (()) (by rw [e_t]) (by rw [e_t]; exact hP) (by rw [e_t]; exact hD) dX0_takes_131 hlocks
      · have c_14 := Int32.not_lt.mp c_14
        refine lv_iconst (v := nI 1) hx hb dX0_takes_122 (by decide) ?_
        refine lv_goto (tgt := 127) hx hb dX0_takes_123 (by decide) ?_
        refine lv_iconst (v := nI 3) hx hb dX0_takes_127 (by decide) ?_
        refine zk_effVi (As := [.int (bI true), .int (nI 3)]) (rest := []) (S := Unit) (fun r _ => r = bI true) (fun _ => [(q0, .inr (0, [.ref a0, .int (nI (if true then 3 else s))]))]) ⟨hx, hb, hml, hown, hts⟩ hK hP hD hS hA [0] [1, 2, 3, 4, 5, 6, 7] (wc := [(q0, .inr (0, [.ref a0, .int (nI s)]))]) (wr := [(a0, .inr (2, [.int (nI Y.D), .int (nI Y.P), .int Y.db, .int (x - (nI 48)), .ref a1, .ref a2, .ref a3, .ref a4, .ref a5, .ref a6])), (a1, .inl (cI, 5, .inl Y.hard)), (a2, .inl (cI, 4, .inl Y.kind)), (a3, .inl (cI, 4, .inl Y.wit)), (a4, .inl (cI, 4, .inl Y.pat)), (a5, .inl (cI, 4, .inl Y.pret)), (a6, .inl (cI, 5, .inl st))]) rfl rfl (by decide) (by decide) (by decide) [7, 0, 1, 2, 3, 4, 5, 6] (fun (_ : Unit) => [(q0, .inr (0, [.ref a0, .int (nI (if true then 3 else s))])), (a0, .inr (2, [.int (nI Y.D), .int (nI Y.P), .int Y.db, .int (x - (nI 48)), .ref a1, .ref a2, .ref a3, .ref a4, .ref a5, .ref a6])), (a1, .inl (cI, 5, .inl Y.hard)), (a2, .inl (cI, 4, .inl Y.kind)), (a3, .inl (cI, 4, .inl Y.wit)), (a4, .inl (cI, 4, .inl Y.pat)), (a5, .inl (cI, 4, .inl Y.pret)), (a6, .inl (cI, 5, .inl st))]) (fun _ => rfl) (by decide) (c_goesOn l D cI H.size q0 a0 s true 3 ) (cwV 2 hts gX0_takes_X0_goesOn rfl rfl rfl hdX0_goesOn ⟨Nat.le_of_ble_eq_true rfl, Nat.le_of_ble_eq_true rfl⟩) rfl rfl rfl hl.1 rfl (Nat.le_of_ble_eq_true rfl) dX0_takes_128 ⟨Nat.le_of_ble_eq_true rfl, Nat.le_of_ble_eq_true rfl⟩ (fun r_17 _ H locs hw_18 hP hD hS => ?_)
        have e_r_17 : r_17 = bI true := hw_18
        rw [e_r_17]
        have e_t : tk s Y x = (true, if true then 3 else s, (Y.D, Y.P, Y.db, x - (nI 48), Y.hard, Y.kind, Y.wit, Y.pat, Y.pret)) := by simp [tk, c_1, c_7, c_10, c_11, (Int32.not_lt.mpr c_11), c_14, (Int32.not_lt.mpr c_14)]
        exact zk_retB hx hb hr (bI_nar _) hS (()) (by rw [e_t]) (by rw [e_t]; exact hP) (by rw [e_t]; exact hD) dX0_takes_131 hlocks
  by_cases c_19 : s = 3
  · refine lv_tableIn (tgt := 132) hx hb dX0_takes_4 (by rw [c_19]; decide) (by rw [c_19]; decide) (by rw [c_19]; try rfl) (by decide) ?_
    refine lv_aload_n hx hb dX0_takes_132 rfl (lv_at hl 0 rfl) ?_
    refine lv_iload_n hx hb dX0_takes_133 rfl (lv_at hl 1 rfl) ?_
    refine lv_bipush (v := nI 44) hx hb dX0_takes_134 (by decide) ?_
    refine lv_icmp_ne (tgt := 143) hx hb dX0_takes_136 (by decide) (fun c_20 => ?_) (fun c_20 => ?_)
    · refine lv_iconst (v := nI 0) hx hb dX0_takes_143 (by decide) ?_
      refine lv_iconst (v := nI 4) hx hb dX0_takes_144 (by decide) ?_
      refine zk_effVi (As := [.int (bI false), .int (nI 4)]) (rest := []) (S := Unit) (fun r _ => r = bI false) (fun _ => [(q0, .inr (0, [.ref a0, .int (nI (if false then 4 else s))]))]) ⟨hx, hb, hml, hown, hts⟩ hK hP hD hS hA [0] [1, 2, 3, 4, 5, 6, 7] (wc := [(q0, .inr (0, [.ref a0, .int (nI s)]))]) (wr := [(a0, .inr (2, [.int (nI Y.D), .int (nI Y.P), .int Y.db, .int Y.rm, .ref a1, .ref a2, .ref a3, .ref a4, .ref a5, .ref a6])), (a1, .inl (cI, 5, .inl Y.hard)), (a2, .inl (cI, 4, .inl Y.kind)), (a3, .inl (cI, 4, .inl Y.wit)), (a4, .inl (cI, 4, .inl Y.pat)), (a5, .inl (cI, 4, .inl Y.pret)), (a6, .inl (cI, 5, .inl st))]) rfl rfl (by decide) (by decide) (by decide) [7, 0, 1, 2, 3, 4, 5, 6] (fun (_ : Unit) => [(q0, .inr (0, [.ref a0, .int (nI (if false then 4 else s))])), (a0, .inr (2, [.int (nI Y.D), .int (nI Y.P), .int Y.db, .int Y.rm, .ref a1, .ref a2, .ref a3, .ref a4, .ref a5, .ref a6])), (a1, .inl (cI, 5, .inl Y.hard)), (a2, .inl (cI, 4, .inl Y.kind)), (a3, .inl (cI, 4, .inl Y.wit)), (a4, .inl (cI, 4, .inl Y.pat)), (a5, .inl (cI, 4, .inl Y.pret)), (a6, .inl (cI, 5, .inl st))]) (fun _ => rfl) (by decide) (c_goesOn l D cI sX.heap.size q0 a0 s false 4 ) (cwV 2 hts gX0_takes_X0_goesOn rfl rfl rfl hdX0_goesOn ⟨Nat.le_of_ble_eq_true rfl, Nat.le_of_ble_eq_true rfl⟩) rfl rfl rfl hl.1 rfl (Nat.le_of_ble_eq_true rfl) dX0_takes_145 ⟨Nat.le_of_ble_eq_true rfl, Nat.le_of_ble_eq_true rfl⟩ (fun r_21 _ H locs hw_22 hP hD hS => ?_)
      have e_r_21 : r_21 = bI false := hw_22
      rw [e_r_21]
      have e_t : tk s Y x = (false, if false then 4 else s, (Y.D, Y.P, Y.db, Y.rm, Y.hard, Y.kind, Y.wit, Y.pat, Y.pret)) := by simp [tk, c_1, c_7, c_10, c_19, c_20]
      exact zk_retB hx hb hr (bI_nar _) hS (()) (by rw [e_t]) (by rw [e_t]; exact hP) (by rw [e_t]; exact hD) dX0_takes_148 hlocks
    · refine lv_iconst (v := nI 1) hx hb dX0_takes_139 (by decide) ?_
      refine lv_goto (tgt := 144) hx hb dX0_takes_140 (by decide) ?_
      refine lv_iconst (v := nI 4) hx hb dX0_takes_144 (by decide) ?_
      refine zk_effVi (As := [.int (bI true), .int (nI 4)]) (rest := []) (S := Unit) (fun r _ => r = bI true) (fun _ => [(q0, .inr (0, [.ref a0, .int (nI (if true then 4 else s))]))]) ⟨hx, hb, hml, hown, hts⟩ hK hP hD hS hA [0] [1, 2, 3, 4, 5, 6, 7] (wc := [(q0, .inr (0, [.ref a0, .int (nI s)]))]) (wr := [(a0, .inr (2, [.int (nI Y.D), .int (nI Y.P), .int Y.db, .int Y.rm, .ref a1, .ref a2, .ref a3, .ref a4, .ref a5, .ref a6])), (a1, .inl (cI, 5, .inl Y.hard)), (a2, .inl (cI, 4, .inl Y.kind)), (a3, .inl (cI, 4, .inl Y.wit)), (a4, .inl (cI, 4, .inl Y.pat)), (a5, .inl (cI, 4, .inl Y.pret)), (a6, .inl (cI, 5, .inl st))]) rfl rfl (by decide) (by decide) (by decide) [7, 0, 1, 2, 3, 4, 5, 6] (fun (_ : Unit) => [(q0, .inr (0, [.ref a0, .int (nI (if true then 4 else s))])), (a0, .inr (2, [.int (nI Y.D), .int (nI Y.P), .int Y.db, .int Y.rm, .ref a1, .ref a2, .ref a3, .ref a4, .ref a5, .ref a6])), (a1, .inl (cI, 5, .inl Y.hard)), (a2, .inl (cI, 4, .inl Y.kind)), (a3, .inl (cI, 4, .inl Y.wit)), (a4, .inl (cI, 4, .inl Y.pat)), (a5, .inl (cI, 4, .inl Y.pret)), (a6, .inl (cI, 5, .inl st))]) (fun _ => rfl) (by decide) (c_goesOn l D cI sX.heap.size q0 a0 s true 4 ) (cwV 2 hts gX0_takes_X0_goesOn rfl rfl rfl hdX0_goesOn ⟨Nat.le_of_ble_eq_true rfl, Nat.le_of_ble_eq_true rfl⟩) rfl rfl rfl hl.1 rfl (Nat.le_of_ble_eq_true rfl) dX0_takes_145 ⟨Nat.le_of_ble_eq_true rfl, Nat.le_of_ble_eq_true rfl⟩ (fun r_23 _ H locs hw_24 hP hD hS => ?_)
      have e_r_23 : r_23 = bI true := hw_24
      rw [e_r_23]
      have e_t : tk s Y x = (true, if true then 4 else s, (Y.D, Y.P, Y.db, Y.rm, Y.hard, Y.kind, Y.wit, Y.pat, Y.pret)) := by simp [tk, c_1, c_7, c_10, c_19, c_20]
      exact zk_retB hx hb hr (bI_nar _) hS (()) (by rw [e_t]) (by rw [e_t]; exact hP) (by rw [e_t]; exact hD) dX0_takes_148 hlocks
  by_cases c_25 : s = 4
  · refine lv_tableIn (tgt := 149) hx hb dX0_takes_4 (by rw [c_25]; decide) (by rw [c_25]; decide) (by rw [c_25]; try rfl) (by decide) ?_
    refine lv_aload_n hx hb dX0_takes_149 rfl (lv_at hl 0 rfl) ?_
    refine lv_iload_n hx hb dX0_takes_150 rfl (lv_at hl 1 rfl) ?_
    refine zk_effVi (As := [.int x]) (rest := []) (S := Unit) (fun r _ => r = bI (tkD s Y x).1) (fun _ => wRe cI q0 a0 a1 a2 a3 a4 a5 a6 (tkD s Y x).2.1 (tkD s Y x).2.2 st) ⟨hx, hb, hml, hown, hts⟩ hK hP hD hS hA [0, 1, 2, 3, 4, 5, 6, 7] [] (wc := [(q0, .inr (0, [.ref a0, .int (nI s)])), (a0, .inr (2, [.int (nI Y.D), .int (nI Y.P), .int Y.db, .int Y.rm, .ref a1, .ref a2, .ref a3, .ref a4, .ref a5, .ref a6])), (a1, .inl (cI, 5, .inl Y.hard)), (a2, .inl (cI, 4, .inl Y.kind)), (a3, .inl (cI, 4, .inl Y.wit)), (a4, .inl (cI, 4, .inl Y.pat)), (a5, .inl (cI, 4, .inl Y.pret)), (a6, .inl (cI, 5, .inl st))]) (wr := []) rfl rfl (by decide) (by decide) (by decide) [0, 1, 2, 3, 4, 5, 6, 7] (fun (_ : Unit) => [(q0, .inr (0, [.ref a0, .int (nI ((tkD s Y x).2.1))])), (a0, .inr (2, [.int (nI (((tkD s Y x).2.2).D)), .int (nI (((tkD s Y x).2.2).P)), .int (((tkD s Y x).2.2).db), .int (((tkD s Y x).2.2).rm), .ref a1, .ref a2, .ref a3, .ref a4, .ref a5, .ref a6])), (a1, .inl (cI, 5, .inl (((tkD s Y x).2.2).hard))), (a2, .inl (cI, 4, .inl (((tkD s Y x).2.2).kind))), (a3, .inl (cI, 4, .inl (((tkD s Y x).2.2).wit))), (a4, .inl (cI, 4, .inl (((tkD s Y x).2.2).pat))), (a5, .inl (cI, 4, .inl (((tkD s Y x).2.2).pret))), (a6, .inl (cI, 5, .inl st))]) (fun _ => rfl) (by decide) (c_takesDay l D cI sX.heap.size q0 a0 a1 a2 a3 a4 a5 a6 s Y st x hD5) (cwV 1 hts gX0_takes_X0_takesDay rfl rfl rfl hdX0_takesDay ⟨Nat.le_of_ble_eq_true rfl, Nat.le_of_ble_eq_true rfl⟩) rfl rfl rfl hl.1 rfl (Nat.le_of_ble_eq_true rfl) dX0_takes_151 ⟨Nat.le_of_ble_eq_true rfl, Nat.le_of_ble_eq_true rfl⟩ (fun r_26 _ H locs hw_27 hP hD hS => ?_)
    have e_r_26 : r_26 = bI ((tkD s Y x).1) := hw_27
    rw [e_r_26]
    have e_t : tk s Y x = tkD s Y x := by simp [tk, c_1, c_7, c_10, c_19, c_25]
    exact zk_retB hx hb hr (bI_nar _) hS (()) (by rw [e_t]) (by rw [e_t]; exact hP) (by rw [e_t]; exact hD) dX0_takes_154 hlocks
  by_cases c_28 : s = 5
  · refine lv_tableIn (tgt := 155) hx hb dX0_takes_4 (by rw [c_28]; decide) (by rw [c_28]; decide) (by rw [c_28]; try rfl) (by decide) ?_
    refine lv_iload_n hx hb dX0_takes_155 rfl (lv_at hl 1 rfl) ?_
    refine lv_bipush (v := nI 59) hx hb dX0_takes_156 (by decide) ?_
    refine lv_icmp_ne (tgt := 171) hx hb dX0_takes_158 (by decide) (fun c_29 => ?_) (fun c_29 => ?_)
    · refine lv_aload_n hx hb dX0_takes_171 rfl (lv_at hl 0 rfl) ?_
      refine lv_iload_n hx hb dX0_takes_172 rfl (lv_at hl 1 rfl) ?_
      refine zk_effVi (As := [.int x]) (rest := []) (S := Unit) (fun r _ => r = bI (tkD s Y x).1) (fun _ => wRe cI q0 a0 a1 a2 a3 a4 a5 a6 (tkD s Y x).2.1 (tkD s Y x).2.2 st) ⟨hx, hb, hml, hown, hts⟩ hK hP hD hS hA [0, 1, 2, 3, 4, 5, 6, 7] [] (wc := [(q0, .inr (0, [.ref a0, .int (nI s)])), (a0, .inr (2, [.int (nI Y.D), .int (nI Y.P), .int Y.db, .int Y.rm, .ref a1, .ref a2, .ref a3, .ref a4, .ref a5, .ref a6])), (a1, .inl (cI, 5, .inl Y.hard)), (a2, .inl (cI, 4, .inl Y.kind)), (a3, .inl (cI, 4, .inl Y.wit)), (a4, .inl (cI, 4, .inl Y.pat)), (a5, .inl (cI, 4, .inl Y.pret)), (a6, .inl (cI, 5, .inl st))]) (wr := []) rfl rfl (by decide) (by decide) (by decide) [0, 1, 2, 3, 4, 5, 6, 7] (fun (_ : Unit) => [(q0, .inr (0, [.ref a0, .int (nI ((tkD s Y x).2.1))])), (a0, .inr (2, [.int (nI (((tkD s Y x).2.2).D)), .int (nI (((tkD s Y x).2.2).P)), .int (((tkD s Y x).2.2).db), .int (((tkD s Y x).2.2).rm), .ref a1, .ref a2, .ref a3, .ref a4, .ref a5, .ref a6])), (a1, .inl (cI, 5, .inl (((tkD s Y x).2.2).hard))), (a2, .inl (cI, 4, .inl (((tkD s Y x).2.2).kind))), (a3, .inl (cI, 4, .inl (((tkD s Y x).2.2).wit))), (a4, .inl (cI, 4, .inl (((tkD s Y x).2.2).pat))), (a5, .inl (cI, 4, .inl (((tkD s Y x).2.2).pret))), (a6, .inl (cI, 5, .inl st))]) (fun _ => rfl) (by decide) (c_takesDay l D cI sX.heap.size q0 a0 a1 a2 a3 a4 a5 a6 s Y st x hD5) (cwV 1 hts gX0_takes_X0_takesDay rfl rfl rfl hdX0_takesDay ⟨Nat.le_of_ble_eq_true rfl, Nat.le_of_ble_eq_true rfl⟩) rfl rfl rfl hl.1 rfl (Nat.le_of_ble_eq_true rfl) dX0_takes_173 ⟨Nat.le_of_ble_eq_true rfl, Nat.le_of_ble_eq_true rfl⟩ (fun r_30 _ H locs hw_31 hP hD hS => ?_)
      have e_r_30 : r_30 = bI ((tkD s Y x).1) := hw_31
      rw [e_r_30]
      have e_t : tk s Y x = tkD s Y x := by simp [tk, c_1, c_7, c_10, c_19, c_25, c_28, c_29]
      exact zk_retB hx hb hr (bI_nar _) hS (()) (by rw [e_t]) (by rw [e_t]; exact hP) (by rw [e_t]; exact hD) dX0_takes_176 hlocks
    · refine lv_aload_n hx hb dX0_takes_161 rfl (lv_at hl 0 rfl) ?_
      refine lv_iconst (v := nI 1) hx hb dX0_takes_162 (by decide) ?_
      refine lv_bipush (v := nI 6) hx hb dX0_takes_163 (by decide) ?_
      refine zk_effVi (As := [.int (bI true), .int (nI 6)]) (rest := []) (S := Unit) (fun r _ => r = bI true) (fun _ => [(q0, .inr (0, [.ref a0, .int (nI (if true then 6 else s))]))]) ⟨hx, hb, hml, hown, hts⟩ hK hP hD hS hA [0] [1, 2, 3, 4, 5, 6, 7] (wc := [(q0, .inr (0, [.ref a0, .int (nI s)]))]) (wr := [(a0, .inr (2, [.int (nI Y.D), .int (nI Y.P), .int Y.db, .int Y.rm, .ref a1, .ref a2, .ref a3, .ref a4, .ref a5, .ref a6])), (a1, .inl (cI, 5, .inl Y.hard)), (a2, .inl (cI, 4, .inl Y.kind)), (a3, .inl (cI, 4, .inl Y.wit)), (a4, .inl (cI, 4, .inl Y.pat)), (a5, .inl (cI, 4, .inl Y.pret)), (a6, .inl (cI, 5, .inl st))]) rfl rfl (by decide) (by decide) (by decide) [7, 0, 1, 2, 3, 4, 5, 6] (fun (_ : Unit) => [(q0, .inr (0, [.ref a0, .int (nI (if true then 6 else s))])), (a0, .inr (2, [.int (nI Y.D), .int (nI Y.P), .int Y.db, .int Y.rm, .ref a1, .ref a2, .ref a3, .ref a4, .ref a5, .ref a6])), (a1, .inl (cI, 5, .inl Y.hard)), (a2, .inl (cI, 4, .inl Y.kind)), (a3, .inl (cI, 4, .inl Y.wit)), (a4, .inl (cI, 4, .inl Y.pat)), (a5, .inl (cI, 4, .inl Y.pret)), (a6, .inl (cI, 5, .inl st))]) (fun _ => rfl) (by decide) (c_goesOn l D cI sX.heap.size q0 a0 s true 6 ) (cwV 2 hts gX0_takes_X0_goesOn rfl rfl rfl hdX0_goesOn ⟨Nat.le_of_ble_eq_true rfl, Nat.le_of_ble_eq_true rfl⟩) rfl rfl rfl hl.1 rfl (Nat.le_of_ble_eq_true rfl) dX0_takes_165 ⟨Nat.le_of_ble_eq_true rfl, Nat.le_of_ble_eq_true rfl⟩ (fun r_32 _ H locs hw_33 hP hD hS => ?_)
      have e_r_32 : r_32 = bI true := hw_33
      rw [e_r_32]
      refine lv_goto (tgt := 176) hx hb dX0_takes_168 (by decide) ?_
      have e_t : tk s Y x = (true, if true then 6 else s, (Y.D, Y.P, Y.db, Y.rm, Y.hard, Y.kind, Y.wit, Y.pat, Y.pret)) := by simp [tk, c_1, c_7, c_10, c_19, c_25, c_28, c_29]
      exact zk_retB hx hb hr (bI_nar _) hS (()) (by rw [e_t]) (by rw [e_t]; exact hP) (by rw [e_t]; exact hD) dX0_takes_176 hlocks
  by_cases c_34 : s = 6
  · refine lv_tableIn (tgt := 206) hx hb dX0_takes_4 (by rw [c_34]; decide) (by rw [c_34]; decide) (by rw [c_34]; try rfl) (by decide) ?_
    refine lv_aload_n hx hb dX0_takes_206 rfl (lv_at hl 0 rfl) ?_
    refine va_get (D := D) (ci := 0) (v := .ref a0) (C := RX0) (T := TX0) (N := 2) hx hb hts inX0 hown hK.1 hP 0 rfl rfl 0 (by decide) f_12 (fun _ h9 => h9) rfl dX0_takes_207 ?_
    refine va_getN (D := D) (ci := 2) (v := .int (nI Y.P)) (C := RX2) (T := TX2) (N := 10) hx hb hts inX2 hown hK.1 hP 1 rfl rfl 1 (by decide) f_25 (fun _ h9 => h9) rfl dX0_takes_210 ?_
    refine lv_iconst (v := nI 4) hx hb dX0_takes_213 (by decide) ?_
    refine zk_icmp_ge (tgt := 236) hx hb dX0_takes_214 (by decide) (by omega) (by omega) (fun c_35 => ?_) (fun c_35 => ?_)
    · refine lv_iconst (v := nI 0) hx hb dX0_takes_236 (by decide) ?_
      have e_t : tk s Y x = (false, s, (Y.D, Y.P, Y.db, Y.rm, Y.hard, Y.kind, Y.wit, Y.pat, Y.pret)) := by simp [tk, c_1, c_7, c_10, c_19, c_25, c_28, c_34, c_35, (Nat.not_lt.mpr c_35)]
      exact zk_retB hx hb hr nI_nar0 hS (()) (by rw [e_t]; rfl) (by rw [e_t]; exact hP) (by rw [e_t]; exact hD) dX0_takes_237 hlocks
    · refine lv_aload_n hx hb dX0_takes_217 rfl (lv_at hl 0 rfl) ?_
      refine lv_aload_n hx hb dX0_takes_218 rfl (lv_at hl 0 rfl) ?_
      refine va_get (D := D) (ci := 0) (v := .ref a0) (C := RX0) (T := TX0) (N := 2) hx hb hts inX0 hown hK.1 hP 0 rfl rfl 0 (by decide) f_12 (fun _ h9 => h9) rfl dX0_takes_219 ?_
      refine va_getN (D := D) (ci := 2) (v := .int (nI Y.P)) (C := RX2) (T := TX2) (N := 10) hx hb hts inX2 hown hK.1 hP 1 rfl rfl 1 (by decide) f_25 (fun _ h9 => h9) rfl dX0_takes_222 ?_
      refine lv_iload_n hx hb dX0_takes_225 rfl (lv_at hl 1 rfl) ?_
      refine zk_effVi (As := [.int (nI Y.P), .int x]) (rest := []) (S := Unit) (fun r _ => r = bI (tkP s Y x).1) (fun _ => wRe cI q0 a0 a1 a2 a3 a4 a5 a6 (tkP s Y x).2.1 (tkP s Y x).2.2 st) ⟨hx, hb, hml, hown, hts⟩ hK hP hD hS hA [0, 1, 2, 3, 4, 5, 6, 7] [] (wc := [(q0, .inr (0, [.ref a0, .int (nI s)])), (a0, .inr (2, [.int (nI Y.D), .int (nI Y.P), .int Y.db, .int Y.rm, .ref a1, .ref a2, .ref a3, .ref a4, .ref a5, .ref a6])), (a1, .inl (cI, 5, .inl Y.hard)), (a2, .inl (cI, 4, .inl Y.kind)), (a3, .inl (cI, 4, .inl Y.wit)), (a4, .inl (cI, 4, .inl Y.pat)), (a5, .inl (cI, 4, .inl Y.pret)), (a6, .inl (cI, 5, .inl st))]) (wr := []) rfl rfl (by decide) (by decide) (by decide) [0, 1, 2, 3, 4, 5, 6, 7] (fun (_ : Unit) => [(q0, .inr (0, [.ref a0, .int (nI ((tkP s Y x).2.1))])), (a0, .inr (2, [.int (nI (((tkP s Y x).2.2).D)), .int (nI (((tkP s Y x).2.2).P)), .int (((tkP s Y x).2.2).db), .int (((tkP s Y x).2.2).rm), .ref a1, .ref a2, .ref a3, .ref a4, .ref a5, .ref a6])), (a1, .inl (cI, 5, .inl (((tkP s Y x).2.2).hard))), (a2, .inl (cI, 4, .inl (((tkP s Y x).2.2).kind))), (a3, .inl (cI, 4, .inl (((tkP s Y x).2.2).wit))), (a4, .inl (cI, 4, .inl (((tkP s Y x).2.2).pat))), (a5, .inl (cI, 4, .inl (((tkP s Y x).2.2).pret))), (a6, .inl (cI, 5, .inl st))]) (fun _ => rfl) (by decide) (c_takesOfPupil l D cI sX.heap.size q0 a0 a1 a2 a3 a4 a5 a6 s Y st x (by omega) hs) (cwV 2 hts gX0_takes_X0_takesOfPupil rfl rfl rfl hdX0_takesOfPupil ⟨Nat.le_of_ble_eq_true rfl, Nat.le_of_ble_eq_true rfl⟩) rfl rfl rfl hl.1 rfl (Nat.le_of_ble_eq_true rfl) dX0_takes_226 ⟨Nat.le_of_ble_eq_true rfl, Nat.le_of_ble_eq_true rfl⟩ (fun r_36 _ H locs hw_37 hP hD hS => ?_)
      have e_r_36 : r_36 = bI ((tkP s Y x).1) := hw_37
      rw [e_r_36]
      refine zk_ifeqB (tgt := 236) hx hb dX0_takes_229 (by decide) (fun c_38 => ?_) (fun c_38 => ?_)
      · refine lv_iconst (v := nI 0) hx hb dX0_takes_236 (by decide) ?_
        have e_t : tk s Y x = tkP s Y x := by simp [tk, c_1, c_7, c_10, c_19, c_25, c_28, c_34, c_35, (Nat.not_le.mpr c_35)]
        exact zk_retB hx hb hr nI_nar0 hS (()) (by rw [e_t, c_38]; rfl) (by rw [e_t]; exact hP) (by rw [e_t]; exact hD) dX0_takes_237 hlocks
      · refine lv_iconst (v := nI 1) hx hb dX0_takes_232 (by decide) ?_
        refine lv_goto (tgt := 237) hx hb dX0_takes_233 (by decide) ?_
        have e_t : tk s Y x = tkP s Y x := by simp [tk, c_1, c_7, c_10, c_19, c_25, c_28, c_34, c_35, (Nat.not_le.mpr c_35)]
        exact zk_retB hx hb hr nI_nar1 hS (()) (by rw [e_t, c_38]; rfl) (by rw [e_t]; exact hP) (by rw [e_t]; exact hD) dX0_takes_237 hlocks
  by_cases c_39 : s = 7
  · refine lv_tableIn (tgt := 206) hx hb dX0_takes_4 (by rw [c_39]; decide) (by rw [c_39]; decide) (by rw [c_39]; try rfl) (by decide) ?_
    refine lv_aload_n hx hb dX0_takes_206 rfl (lv_at hl 0 rfl) ?_
    refine va_get (D := D) (ci := 0) (v := .ref a0) (C := RX0) (T := TX0) (N := 2) hx hb hts inX0 hown hK.1 hP 0 rfl rfl 0 (by decide) f_12 (fun _ h9 => h9) rfl dX0_takes_207 ?_
    refine va_getN (D := D) (ci := 2) (v := .int (nI Y.P)) (C := RX2) (T := TX2) (N := 10) hx hb hts inX2 hown hK.1 hP 1 rfl rfl 1 (by decide) f_25 (fun _ h9 => h9) rfl dX0_takes_210 ?_
    refine lv_iconst (v := nI 4) hx hb dX0_takes_213 (by decide) ?_
    refine zk_icmp_ge (tgt := 236) hx hb dX0_takes_214 (by decide) (by omega) (by omega) (fun c_40 => ?_) (fun c_40 => ?_)
    · refine lv_iconst (v := nI 0) hx hb dX0_takes_236 (by decide) ?_
      have e_t : tk s Y x = (false, s, (Y.D, Y.P, Y.db, Y.rm, Y.hard, Y.kind, Y.wit, Y.pat, Y.pret)) := by simp [tk, c_1, c_7, c_10, c_19, c_25, c_28, c_34, c_39, c_40, (Nat.not_lt.mpr c_40)]
      exact zk_retB hx hb hr nI_nar0 hS (()) (by rw [e_t]; rfl) (by rw [e_t]; exact hP) (by rw [e_t]; exact hD) dX0_takes_237 hlocks
    · refine lv_aload_n hx hb dX0_takes_217 rfl (lv_at hl 0 rfl) ?_
      refine lv_aload_n hx hb dX0_takes_218 rfl (lv_at hl 0 rfl) ?_
      refine va_get (D := D) (ci := 0) (v := .ref a0) (C := RX0) (T := TX0) (N := 2) hx hb hts inX0 hown hK.1 hP 0 rfl rfl 0 (by decide) f_12 (fun _ h9 => h9) rfl dX0_takes_219 ?_
      refine va_getN (D := D) (ci := 2) (v := .int (nI Y.P)) (C := RX2) (T := TX2) (N := 10) hx hb hts inX2 hown hK.1 hP 1 rfl rfl 1 (by decide) f_25 (fun _ h9 => h9) rfl dX0_takes_222 ?_
      refine lv_iload_n hx hb dX0_takes_225 rfl (lv_at hl 1 rfl) ?_
      refine zk_effVi (As := [.int (nI Y.P), .int x]) (rest := []) (S := Unit) (fun r _ => r = bI (tkP s Y x).1) (fun _ => wRe cI q0 a0 a1 a2 a3 a4 a5 a6 (tkP s Y x).2.1 (tkP s Y x).2.2 st) ⟨hx, hb, hml, hown, hts⟩ hK hP hD hS hA [0, 1, 2, 3, 4, 5, 6, 7] [] (wc := [(q0, .inr (0, [.ref a0, .int (nI s)])), (a0, .inr (2, [.int (nI Y.D), .int (nI Y.P), .int Y.db, .int Y.rm, .ref a1, .ref a2, .ref a3, .ref a4, .ref a5, .ref a6])), (a1, .inl (cI, 5, .inl Y.hard)), (a2, .inl (cI, 4, .inl Y.kind)), (a3, .inl (cI, 4, .inl Y.wit)), (a4, .inl (cI, 4, .inl Y.pat)), (a5, .inl (cI, 4, .inl Y.pret)), (a6, .inl (cI, 5, .inl st))]) (wr := []) rfl rfl (by decide) (by decide) (by decide) [0, 1, 2, 3, 4, 5, 6, 7] (fun (_ : Unit) => [(q0, .inr (0, [.ref a0, .int (nI ((tkP s Y x).2.1))])), (a0, .inr (2, [.int (nI (((tkP s Y x).2.2).D)), .int (nI (((tkP s Y x).2.2).P)), .int (((tkP s Y x).2.2).db), .int (((tkP s Y x).2.2).rm), .ref a1, .ref a2, .ref a3, .ref a4, .ref a5, .ref a6])), (a1, .inl (cI, 5, .inl (((tkP s Y x).2.2).hard))), (a2, .inl (cI, 4, .inl (((tkP s Y x).2.2).kind))), (a3, .inl (cI, 4, .inl (((tkP s Y x).2.2).wit))), (a4, .inl (cI, 4, .inl (((tkP s Y x).2.2).pat))), (a5, .inl (cI, 4, .inl (((tkP s Y x).2.2).pret))), (a6, .inl (cI, 5, .inl st))]) (fun _ => rfl) (by decide) (c_takesOfPupil l D cI sX.heap.size q0 a0 a1 a2 a3 a4 a5 a6 s Y st x (by omega) hs) (cwV 2 hts gX0_takes_X0_takesOfPupil rfl rfl rfl hdX0_takesOfPupil ⟨Nat.le_of_ble_eq_true rfl, Nat.le_of_ble_eq_true rfl⟩) rfl rfl rfl hl.1 rfl (Nat.le_of_ble_eq_true rfl) dX0_takes_226 ⟨Nat.le_of_ble_eq_true rfl, Nat.le_of_ble_eq_true rfl⟩ (fun r_41 _ H locs hw_42 hP hD hS => ?_)
      have e_r_41 : r_41 = bI ((tkP s Y x).1) := hw_42
      rw [e_r_41]
      refine zk_ifeqB (tgt := 236) hx hb dX0_takes_229 (by decide) (fun c_43 => ?_) (fun c_43 => ?_)
      · refine lv_iconst (v := nI 0) hx hb dX0_takes_236 (by decide) ?_
        have e_t : tk s Y x = tkP s Y x := by simp [tk, c_1, c_7, c_10, c_19, c_25, c_28, c_34, c_39, c_40, (Nat.not_le.mpr c_40)]
        exact zk_retB hx hb hr nI_nar0 hS (()) (by rw [e_t, c_43]; rfl) (by rw [e_t]; exact hP) (by rw [e_t]; exact hD) dX0_takes_237 hlocks
      · refine lv_iconst (v := nI 1) hx hb dX0_takes_232 (by decide) ?_
        refine lv_goto (tgt := 237) hx hb dX0_takes_233 (by decide) ?_
        have e_t : tk s Y x = tkP s Y x := by simp [tk, c_1, c_7, c_10, c_19, c_25, c_28, c_34, c_39, c_40, (Nat.not_le.mpr c_40)]
        exact zk_retB hx hb hr nI_nar1 hS (()) (by rw [e_t, c_43]; rfl) (by rw [e_t]; exact hP) (by rw [e_t]; exact hD) dX0_takes_237 hlocks
  by_cases c_44 : s = 8
  · refine lv_tableIn (tgt := 206) hx hb dX0_takes_4 (by rw [c_44]; decide) (by rw [c_44]; decide) (by rw [c_44]; try rfl) (by decide) ?_
    refine lv_aload_n hx hb dX0_takes_206 rfl (lv_at hl 0 rfl) ?_
    refine va_get (D := D) (ci := 0) (v := .ref a0) (C := RX0) (T := TX0) (N := 2) hx hb hts inX0 hown hK.1 hP 0 rfl rfl 0 (by decide) f_12 (fun _ h9 => h9) rfl dX0_takes_207 ?_
    refine va_getN (D := D) (ci := 2) (v := .int (nI Y.P)) (C := RX2) (T := TX2) (N := 10) hx hb hts inX2 hown hK.1 hP 1 rfl rfl 1 (by decide) f_25 (fun _ h9 => h9) rfl dX0_takes_210 ?_
    refine lv_iconst (v := nI 4) hx hb dX0_takes_213 (by decide) ?_
    refine zk_icmp_ge (tgt := 236) hx hb dX0_takes_214 (by decide) (by omega) (by omega) (fun c_45 => ?_) (fun c_45 => ?_)
    · refine lv_iconst (v := nI 0) hx hb dX0_takes_236 (by decide) ?_
      have e_t : tk s Y x = (false, s, (Y.D, Y.P, Y.db, Y.rm, Y.hard, Y.kind, Y.wit, Y.pat, Y.pret)) := by simp [tk, c_1, c_7, c_10, c_19, c_25, c_28, c_34, c_39, c_44, c_45, (Nat.not_lt.mpr c_45)]
      exact zk_retB hx hb hr nI_nar0 hS (()) (by rw [e_t]; rfl) (by rw [e_t]; exact hP) (by rw [e_t]; exact hD) dX0_takes_237 hlocks
    · refine lv_aload_n hx hb dX0_takes_217 rfl (lv_at hl 0 rfl) ?_
      refine lv_aload_n hx hb dX0_takes_218 rfl (lv_at hl 0 rfl) ?_
      refine va_get (D := D) (ci := 0) (v := .ref a0) (C := RX0) (T := TX0) (N := 2) hx hb hts inX0 hown hK.1 hP 0 rfl rfl 0 (by decide) f_12 (fun _ h9 => h9) rfl dX0_takes_219 ?_
      refine va_getN (D := D) (ci := 2) (v := .int (nI Y.P)) (C := RX2) (T := TX2) (N := 10) hx hb hts inX2 hown hK.1 hP 1 rfl rfl 1 (by decide) f_25 (fun _ h9 => h9) rfl dX0_takes_222 ?_
      refine lv_iload_n hx hb dX0_takes_225 rfl (lv_at hl 1 rfl) ?_
      refine zk_effVi (As := [.int (nI Y.P), .int x]) (rest := []) (S := Unit) (fun r _ => r = bI (tkP s Y x).1) (fun _ => wRe cI q0 a0 a1 a2 a3 a4 a5 a6 (tkP s Y x).2.1 (tkP s Y x).2.2 st) ⟨hx, hb, hml, hown, hts⟩ hK hP hD hS hA [0, 1, 2, 3, 4, 5, 6, 7] [] (wc := [(q0, .inr (0, [.ref a0, .int (nI s)])), (a0, .inr (2, [.int (nI Y.D), .int (nI Y.P), .int Y.db, .int Y.rm, .ref a1, .ref a2, .ref a3, .ref a4, .ref a5, .ref a6])), (a1, .inl (cI, 5, .inl Y.hard)), (a2, .inl (cI, 4, .inl Y.kind)), (a3, .inl (cI, 4, .inl Y.wit)), (a4, .inl (cI, 4, .inl Y.pat)), (a5, .inl (cI, 4, .inl Y.pret)), (a6, .inl (cI, 5, .inl st))]) (wr := []) rfl rfl (by decide) (by decide) (by decide) [0, 1, 2, 3, 4, 5, 6, 7] (fun (_ : Unit) => [(q0, .inr (0, [.ref a0, .int (nI ((tkP s Y x).2.1))])), (a0, .inr (2, [.int (nI (((tkP s Y x).2.2).D)), .int (nI (((tkP s Y x).2.2).P)), .int (((tkP s Y x).2.2).db), .int (((tkP s Y x).2.2).rm), .ref a1, .ref a2, .ref a3, .ref a4, .ref a5, .ref a6])), (a1, .inl (cI, 5, .inl (((tkP s Y x).2.2).hard))), (a2, .inl (cI, 4, .inl (((tkP s Y x).2.2).kind))), (a3, .inl (cI, 4, .inl (((tkP s Y x).2.2).wit))), (a4, .inl (cI, 4, .inl (((tkP s Y x).2.2).pat))), (a5, .inl (cI, 4, .inl (((tkP s Y x).2.2).pret))), (a6, .inl (cI, 5, .inl st))]) (fun _ => rfl) (by decide) (c_takesOfPupil l D cI sX.heap.size q0 a0 a1 a2 a3 a4 a5 a6 s Y st x (by omega) hs) (cwV 2 hts gX0_takes_X0_takesOfPupil rfl rfl rfl hdX0_takesOfPupil ⟨Nat.le_of_ble_eq_true rfl, Nat.le_of_ble_eq_true rfl⟩) rfl rfl rfl hl.1 rfl (Nat.le_of_ble_eq_true rfl) dX0_takes_226 ⟨Nat.le_of_ble_eq_true rfl, Nat.le_of_ble_eq_true rfl⟩ (fun r_46 _ H locs hw_47 hP hD hS => ?_)
      have e_r_46 : r_46 = bI ((tkP s Y x).1) := hw_47
      rw [e_r_46]
      refine zk_ifeqB (tgt := 236) hx hb dX0_takes_229 (by decide) (fun c_48 => ?_) (fun c_48 => ?_)
      · refine lv_iconst (v := nI 0) hx hb dX0_takes_236 (by decide) ?_
        have e_t : tk s Y x = tkP s Y x := by simp [tk, c_1, c_7, c_10, c_19, c_25, c_28, c_34, c_39, c_44, c_45, (Nat.not_le.mpr c_45)]
        exact zk_retB hx hb hr nI_nar0 hS (()) (by rw [e_t, c_48]; rfl) (by rw [e_t]; exact hP) (by rw [e_t]; exact hD) dX0_takes_237 hlocks
      · refine lv_iconst (v := nI 1) hx hb dX0_takes_232 (by decide) ?_
        refine lv_goto (tgt := 237) hx hb dX0_takes_233 (by decide) ?_
        have e_t : tk s Y x = tkP s Y x := by simp [tk, c_1, c_7, c_10, c_19, c_25, c_28, c_34, c_39, c_44, c_45, (Nat.not_le.mpr c_45)]
        exact zk_retB hx hb hr nI_nar1 hS (()) (by rw [e_t, c_48]; rfl) (by rw [e_t]; exact hP) (by rw [e_t]; exact hD) dX0_takes_237 hlocks
  by_cases c_49 : s = 9
  · refine lv_tableIn (tgt := 177) hx hb dX0_takes_4 (by rw [c_49]; decide) (by rw [c_49]; decide) (by rw [c_49]; try rfl) (by decide) ?_
    refine lv_aload_n hx hb dX0_takes_177 rfl (lv_at hl 0 rfl) ?_
    refine lv_iload_n hx hb dX0_takes_178 rfl (lv_at hl 1 rfl) ?_
    refine lv_bipush (v := nI 59) hx hb dX0_takes_179 (by decide) ?_
    refine lv_icmp_ne (tgt := 199) hx hb dX0_takes_181 (by decide) (fun c_50 => ?_) (fun c_50 => ?_)
    · refine lv_iconst (v := nI 0) hx hb dX0_takes_199 (by decide) ?_
      refine lv_bipush (v := nI 6) hx hb dX0_takes_200 (by decide) ?_
      refine zk_effVi (As := [.int (bI false), .int (nI 6)]) (rest := []) (S := Unit) (fun r _ => r = bI false) (fun _ => [(q0, .inr (0, [.ref a0, .int (nI (if false then 6 else s))]))]) ⟨hx, hb, hml, hown, hts⟩ hK hP hD hS hA [0] [1, 2, 3, 4, 5, 6, 7] (wc := [(q0, .inr (0, [.ref a0, .int (nI s)]))]) (wr := [(a0, .inr (2, [.int (nI Y.D), .int (nI Y.P), .int Y.db, .int Y.rm, .ref a1, .ref a2, .ref a3, .ref a4, .ref a5, .ref a6])), (a1, .inl (cI, 5, .inl Y.hard)), (a2, .inl (cI, 4, .inl Y.kind)), (a3, .inl (cI, 4, .inl Y.wit)), (a4, .inl (cI, 4, .inl Y.pat)), (a5, .inl (cI, 4, .inl Y.pret)), (a6, .inl (cI, 5, .inl st))]) rfl rfl (by decide) (by decide) (by decide) [7, 0, 1, 2, 3, 4, 5, 6] (fun (_ : Unit) => [(q0, .inr (0, [.ref a0, .int (nI (if false then 6 else s))])), (a0, .inr (2, [.int (nI Y.D), .int (nI Y.P), .int Y.db, .int Y.rm, .ref a1, .ref a2, .ref a3, .ref a4, .ref a5, .ref a6])), (a1, .inl (cI, 5, .inl Y.hard)), (a2, .inl (cI, 4, .inl Y.kind)), (a3, .inl (cI, 4, .inl Y.wit)), (a4, .inl (cI, 4, .inl Y.pat)), (a5, .inl (cI, 4, .inl Y.pret)), (a6, .inl (cI, 5, .inl st))]) (fun _ => rfl) (by decide) (c_goesOn l D cI sX.heap.size q0 a0 s false 6 ) (cwV 2 hts gX0_takes_X0_goesOn rfl rfl rfl hdX0_goesOn ⟨Nat.le_of_ble_eq_true rfl, Nat.le_of_ble_eq_true rfl⟩) rfl rfl rfl hl.1 rfl (Nat.le_of_ble_eq_true rfl) dX0_takes_202 ⟨Nat.le_of_ble_eq_true rfl, Nat.le_of_ble_eq_true rfl⟩ (fun r_51 _ H locs hw_52 hP hD hS => ?_)
      have e_r_51 : r_51 = bI false := hw_52
      rw [e_r_51]
      have e_t : tk s Y x = (false, if false then 6 else s, (Y.D, Y.P, Y.db, Y.rm, Y.hard, Y.kind, Y.wit, Y.pat, Y.pret)) := by simp [tk, c_1, c_7, c_10, c_19, c_25, c_28, c_34, c_39, c_44, c_49, c_50]
      exact zk_retB hx hb hr (bI_nar _) hS (()) (by rw [e_t]) (by rw [e_t]; exact hP) (by rw [e_t]; exact hD) dX0_takes_205 hlocks
    · refine lv_aload_n hx hb dX0_takes_184 rfl (lv_at hl 0 rfl) ?_
      refine va_get (D := D) (ci := 0) (v := .ref a0) (C := RX0) (T := TX0) (N := 2) hx hb hts inX0 hown hK.1 hP 0 rfl rfl 0 (by decide) f_12 (fun _ h9 => h9) rfl dX0_takes_185 ?_
      refine va_getN (D := D) (ci := 2) (v := .int (nI Y.P)) (C := RX2) (T := TX2) (N := 10) hx hb hts inX2 hown hK.1 hP 1 rfl rfl 1 (by decide) f_25 (fun _ h9 => h9) rfl dX0_takes_188 ?_
      refine lv_iconst (v := nI 4) hx hb dX0_takes_191 (by decide) ?_
      refine zk_icmp_ge (tgt := 199) hx hb dX0_takes_192 (by decide) (by omega) (by omega) (fun c_53 => ?_) (fun c_53 => ?_)
      · refine lv_iconst (v := nI 0) hx hb dX0_takes_199 (by decide) ?_
        refine lv_bipush (v := nI 6) hx hb dX0_takes_200 (by decide) ?_
        refine zk_effVi (As := [.int (bI false), .int (nI 6)]) (rest := []) (S := Unit) (fun r _ => r = bI false) (fun _ => [(q0, .inr (0, [.ref a0, .int (nI (if false then 6 else s))]))]) ⟨hx, hb, hml, hown, hts⟩ hK hP hD hS hA [0] [1, 2, 3, 4, 5, 6, 7] (wc := [(q0, .inr (0, [.ref a0, .int (nI s)]))]) (wr := [(a0, .inr (2, [.int (nI Y.D), .int (nI Y.P), .int Y.db, .int Y.rm, .ref a1, .ref a2, .ref a3, .ref a4, .ref a5, .ref a6])), (a1, .inl (cI, 5, .inl Y.hard)), (a2, .inl (cI, 4, .inl Y.kind)), (a3, .inl (cI, 4, .inl Y.wit)), (a4, .inl (cI, 4, .inl Y.pat)), (a5, .inl (cI, 4, .inl Y.pret)), (a6, .inl (cI, 5, .inl st))]) rfl rfl (by decide) (by decide) (by decide) [7, 0, 1, 2, 3, 4, 5, 6] (fun (_ : Unit) => [(q0, .inr (0, [.ref a0, .int (nI (if false then 6 else s))])), (a0, .inr (2, [.int (nI Y.D), .int (nI Y.P), .int Y.db, .int Y.rm, .ref a1, .ref a2, .ref a3, .ref a4, .ref a5, .ref a6])), (a1, .inl (cI, 5, .inl Y.hard)), (a2, .inl (cI, 4, .inl Y.kind)), (a3, .inl (cI, 4, .inl Y.wit)), (a4, .inl (cI, 4, .inl Y.pat)), (a5, .inl (cI, 4, .inl Y.pret)), (a6, .inl (cI, 5, .inl st))]) (fun _ => rfl) (by decide) (c_goesOn l D cI sX.heap.size q0 a0 s false 6 ) (cwV 2 hts gX0_takes_X0_goesOn rfl rfl rfl hdX0_goesOn ⟨Nat.le_of_ble_eq_true rfl, Nat.le_of_ble_eq_true rfl⟩) rfl rfl rfl hl.1 rfl (Nat.le_of_ble_eq_true rfl) dX0_takes_202 ⟨Nat.le_of_ble_eq_true rfl, Nat.le_of_ble_eq_true rfl⟩ (fun r_54 _ H locs hw_55 hP hD hS => ?_)
        have e_r_54 : r_54 = bI false := hw_55
        rw [e_r_54]
        have e_t : tk s Y x = (false, if false then 6 else s, (Y.D, Y.P, Y.db, Y.rm, Y.hard, Y.kind, Y.wit, Y.pat, Y.pret)) := by simp [tk, c_1, c_7, c_10, c_19, c_25, c_28, c_34, c_39, c_44, c_49, c_50, c_53, (Nat.not_lt.mpr c_53)]
        exact zk_retB hx hb hr (bI_nar _) hS (()) (by rw [e_t]) (by rw [e_t]; exact hP) (by rw [e_t]; exact hD) dX0_takes_205 hlocks
      · refine lv_iconst (v := nI 1) hx hb dX0_takes_195 (by decide) ?_
        refine lv_goto (tgt := 200) hx hb dX0_takes_196 (by decide) ?_
        refine lv_bipush (v := nI 6) hx hb dX0_takes_200 (by decide) ?_
        refine zk_effVi (As := [.int (bI true), .int (nI 6)]) (rest := []) (S := Unit) (fun r _ => r = bI true) (fun _ => [(q0, .inr (0, [.ref a0, .int (nI (if true then 6 else s))]))]) ⟨hx, hb, hml, hown, hts⟩ hK hP hD hS hA [0] [1, 2, 3, 4, 5, 6, 7] (wc := [(q0, .inr (0, [.ref a0, .int (nI s)]))]) (wr := [(a0, .inr (2, [.int (nI Y.D), .int (nI Y.P), .int Y.db, .int Y.rm, .ref a1, .ref a2, .ref a3, .ref a4, .ref a5, .ref a6])), (a1, .inl (cI, 5, .inl Y.hard)), (a2, .inl (cI, 4, .inl Y.kind)), (a3, .inl (cI, 4, .inl Y.wit)), (a4, .inl (cI, 4, .inl Y.pat)), (a5, .inl (cI, 4, .inl Y.pret)), (a6, .inl (cI, 5, .inl st))]) rfl rfl (by decide) (by decide) (by decide) [7, 0, 1, 2, 3, 4, 5, 6] (fun (_ : Unit) => [(q0, .inr (0, [.ref a0, .int (nI (if true then 6 else s))])), (a0, .inr (2, [.int (nI Y.D), .int (nI Y.P), .int Y.db, .int Y.rm, .ref a1, .ref a2, .ref a3, .ref a4, .ref a5, .ref a6])), (a1, .inl (cI, 5, .inl Y.hard)), (a2, .inl (cI, 4, .inl Y.kind)), (a3, .inl (cI, 4, .inl Y.wit)), (a4, .inl (cI, 4, .inl Y.pat)), (a5, .inl (cI, 4, .inl Y.pret)), (a6, .inl (cI, 5, .inl st))]) (fun _ => rfl) (by decide) (c_goesOn l D cI sX.heap.size q0 a0 s true 6 ) (cwV 2 hts gX0_takes_X0_goesOn rfl rfl rfl hdX0_goesOn ⟨Nat.le_of_ble_eq_true rfl, Nat.le_of_ble_eq_true rfl⟩) rfl rfl rfl hl.1 rfl (Nat.le_of_ble_eq_true rfl) dX0_takes_202 ⟨Nat.le_of_ble_eq_true rfl, Nat.le_of_ble_eq_true rfl⟩ (fun r_56 _ H locs hw_57 hP hD hS => ?_)
        have e_r_56 : r_56 = bI true := hw_57
        rw [e_r_56]
        have e_t : tk s Y x = (true, if true then 6 else s, (Y.D, Y.P, Y.db, Y.rm, Y.hard, Y.kind, Y.wit, Y.pat, Y.pret)) := by simp [tk, c_1, c_7, c_10, c_19, c_25, c_28, c_34, c_39, c_44, c_49, c_50, c_53, (Nat.not_le.mpr c_53)]
        exact zk_retB hx hb hr (bI_nar _) hS (()) (by rw [e_t]) (by rw [e_t]; exact hP) (by rw [e_t]; exact hD) dX0_takes_205 hlocks
  exact (by exfalso; omega)
