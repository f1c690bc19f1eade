abbrev wRoll (cI : ClassId) (a0 a1 a2 a3 a4 a5 a6 : Nat) (Y : YS) (st : Nat → Int32) : va_W := [(a0, .inr (2, [.int (nI Y.D), .int (nI Y.P), .int Y.db, .int Y.rm, .ref a1, .ref a2, .ref a3, .ref a4, .ref a5, .ref a6])), (a1, .inl (cI, 5, .inl Y.hard)), (a2, .inl (cI, 4, .inl Y.kind)), (a3, .inl (cI, 4, .inl Y.wit)), (a4, .inl (cI, 4, .inl Y.pat)), (a5, .inl (cI, 4, .inl Y.pret)), (a6, .inl (cI, 5, .inl st))]
theorem hdX2_holds : yX2_holds.cls ≠ "java/lang/invoke/MethodHandle" ∧ yX2_holds.cls ≠ "java/lang/invoke/VarHandle" ∧ (parseMethodDescriptor yX2_holds.desc).map (fun d => d.parameters.length) = some 2 := by decide +kernel
theorem hdX2_wouldStand : yX2_wouldStand.cls = RX2 ∧ yX2_wouldStand.cls ≠ "java/lang/invoke/MethodHandle" ∧ yX2_wouldStand.cls ≠ "java/lang/invoke/VarHandle" ∧ (parseMethodDescriptor yX2_wouldStand.desc).map (fun d => d.parameters.length) = some 3 := by decide +kernel
set_option maxHeartbeats 4000000 in
set_option maxRecDepth 100000 in
theorem c_holds (l : Launch) (D : va_G) (cI : ClassId) (x : Int32) (n : Nat)  : Met l yX2_holds wsX2_holds ({ frames := 0, cells := 0, slots := 0, locals := 0 }) (PS D cI [.int x, .int (nI n)] ([])) (vp_Si (fun r => r = bI (hbit x n))) 0 0 (fun _ => False) := by
  refine zk_S (cc := cX2_holds) (maxL := 2) (ret := (some .boolean)) (by decide) rfl (Nat.le_of_ble_eq_true rfl) ?_
  intro pX eX sX mX bX tX cX hx hb hr hlocks hml hown hts hP hK ls hl
  have hl : lv_has ls 2 [(0, .int x), (1, .int (nI n))] := hl
  have hP : va_P D vwCl [] sX.heap := hP
  skip
  refine lv_iload_n hx hb dX2_holds_0 rfl (lv_at hl 0 rfl) ?_
  refine lv_iload_n hx hb dX2_holds_1 rfl (lv_at hl 1 rfl) ?_
  refine lv_ishr hx hb dX2_holds_2 ?_
  refine lv_iconst (v := nI 1) hx hb dX2_holds_3 (by decide) ?_
  refine lv_iand hx hb dX2_holds_4 ?_
  refine lv_if_eq (tgt := 12) hx hb dX2_holds_5 (by decide) (fun c_1 => ?_) (fun c_1 => ?_)
  · refine lv_iconst (v := nI 0) hx hb dX2_holds_12 (by decide) ?_
    exact zk_retSB hx hb hr nI_nar0 (by rw [show hbit x n = false from by simp [hbit, c_1]]; rfl) dX2_holds_13 hlocks
  · refine lv_iconst (v := nI 1) hx hb dX2_holds_8 (by decide) ?_
    refine lv_goto (tgt := 13) hx hb dX2_holds_9 (by decide) ?_
    exact zk_retSB hx hb hr nI_nar1 (by rw [show hbit x n = true from by simp [hbit, c_1]]; rfl) dX2_holds_13 hlocks
def bc1 (x : Nat) : Nat := ([0, 1, 1, 2, 4, 5, 5, 6, 4, 5, 5, 6, 8, 9, 9, 10, 16, 17, 17, 18, 20, 21, 21, 22, 20, 21, 21, 22, 24, 25, 25, 26] : List Nat).getD x 0
theorem bc1_eq : ∀ x, x < 32 → (nI x) - ((((nI x).toUInt32 >>> ((nI 1).toUInt32 &&& Int32.toUInt32 31)).toInt32) &&& 1431655765) = nI (bc1 x) := by decide +kernel
def bc2 (x : Nat) : Nat := ([0, 1, 1, 2, 1, 2, 2, 3, 1, 2, 2, 3, 2, 3, 3, 4, 16, 17, 17, 18, 17, 18, 18, 19, 17, 18, 18, 19, 18, 19, 19, 20] : List Nat).getD x 0
theorem bc2_eq : ∀ x, x < 32 → ((nI (bc1 x)) &&& 858993459) + ((((nI (bc1 x)).toUInt32 >>> ((nI 2).toUInt32 &&& Int32.toUInt32 31)).toInt32) &&& 858993459) = nI (bc2 x) := by decide +kernel
def bc3 (x : Nat) : Nat := ([0, 1, 1, 2, 1, 2, 2, 3, 1, 2, 2, 3, 2, 3, 3, 4, 1, 2, 2, 3, 2, 3, 3, 4, 2, 3, 3, 4, 3, 4, 4, 5] : List Nat).getD x 0
theorem bc3_eq : ∀ x, x < 32 → ((nI (bc2 x)) + (((nI (bc2 x)).toUInt32 >>> ((nI 4).toUInt32 &&& Int32.toUInt32 31)).toInt32)) &&& 252645135 = nI (bc3 x) := by decide +kernel
def bc4 (x : Nat) : Nat := ([0, 1, 1, 2, 1, 2, 2, 3, 1, 2, 2, 3, 2, 3, 3, 4, 1, 2, 2, 3, 2, 3, 3, 4, 2, 3, 3, 4, 3, 4, 4, 5] : List Nat).getD x 0
theorem bc4_eq : ∀ x, x < 32 → (nI (bc3 x)) + (((nI (bc3 x)).toUInt32 >>> ((nI 8).toUInt32 &&& Int32.toUInt32 31)).toInt32) = nI (bc4 x) := by decide +kernel
def bc5 (x : Nat) : Nat := ([0, 1, 1, 2, 1, 2, 2, 3, 1, 2, 2, 3, 2, 3, 3, 4, 1, 2, 2, 3, 2, 3, 3, 4, 2, 3, 3, 4, 3, 4, 4, 5] : List Nat).getD x 0
theorem bc5_eq : ∀ x, x < 32 → (nI (bc4 x)) + (((nI (bc4 x)).toUInt32 >>> ((nI 16).toUInt32 &&& Int32.toUInt32 31)).toInt32) = nI (bc5 x) := by decide +kernel
theorem pop_eq : ∀ x, x < 32 → (nI (bc5 x)) &&& (nI 63) = nI (pop x) := by decide +kernel
set_option maxHeartbeats 4000000 in
set_option maxRecDepth 100000 in
theorem c_bitCount (l : Launch) (D : va_G) (cI : ClassId) (x : Nat) (hx32 : x < 32) : Met l yJ6_bitCount_0f7a4 wsJ6_bitCount_0f7a4 ({ frames := 0, cells := 0, slots := 0, locals := 0 }) (PS D cI [.int (nI x)] ([])) (vp_Si (fun r => r = nI (pop x))) 0 0 (fun _ => False) := by
  refine zk_S (cc := cJ6_bitCount_0f7a4) (maxL := 1) (ret := (some .int)) (by decide) rfl (Nat.le_of_ble_eq_true rfl) ?_
  intro pX eX sX mX bX tX cX hx hb hr hlocks hml hown hts hP hK ls hl
  have hl : lv_has ls 1 [(0, .int (nI x))] := hl
  have hP : va_P D vwCl [] sX.heap := hP
  have k_265 := hts (.constant RJ6 265 (1431655765)) (by decide +kernel)
  have k_266 := hts (.constant RJ6 266 (858993459)) (by decide +kernel)
  have k_267 := hts (.constant RJ6 267 (252645135)) (by decide +kernel)
  refine lv_iload_n hx hb dJ6_bitCount_0f7a4_0 rfl (lv_at hl 0 rfl) ?_
  refine lv_iload_n hx hb dJ6_bitCount_0f7a4_1 rfl (lv_at hl 0 rfl) ?_
  refine lv_iconst (v := nI 1) hx hb dJ6_bitCount_0f7a4_2 (by decide) ?_
  refine lv_iushr (v := ((nI x).toUInt32 >>> ((nI 1).toUInt32 &&& Int32.toUInt32 31)).toInt32) hx hb dJ6_bitCount_0f7a4_3 rfl ?_
  refine lv_ldcw (v := 1431655765) hx hb hown k_265 dJ6_bitCount_0f7a4_4 ?_
  refine lv_iand hx hb dJ6_bitCount_0f7a4_7 ?_
  refine lv_isub hx hb dJ6_bitCount_0f7a4_8 ?_
  refine zk_top (y := nI (bc1 x)) (bc1_eq x hx32) ?_
  refine lv_istore_n (lv' := [(0, .int (nI (bc1 x)))]) hx hb dJ6_bitCount_0f7a4_9 rfl hl (by decide) rfl (fun ls hl => ?_)
  refine lv_iload_n hx hb dJ6_bitCount_0f7a4_10 rfl (lv_at hl 0 rfl) ?_
  refine lv_ldcw (v := 858993459) hx hb hown k_266 dJ6_bitCount_0f7a4_11 ?_
  refine lv_iand hx hb dJ6_bitCount_0f7a4_14 ?_
  refine lv_iload_n hx hb dJ6_bitCount_0f7a4_15 rfl (lv_at hl 0 rfl) ?_
  refine lv_iconst (v := nI 2) hx hb dJ6_bitCount_0f7a4_16 (by decide) ?_
  refine lv_iushr (v := ((nI (bc1 x)).toUInt32 >>> ((nI 2).toUInt32 &&& Int32.toUInt32 31)).toInt32) hx hb dJ6_bitCount_0f7a4_17 rfl ?_
  refine lv_ldcw (v := 858993459) hx hb hown k_266 dJ6_bitCount_0f7a4_18 ?_
  refine lv_iand hx hb dJ6_bitCount_0f7a4_21 ?_
  refine lv_iadd hx hb dJ6_bitCount_0f7a4_22 ?_
  refine zk_top (y := nI (bc2 x)) (bc2_eq x hx32) ?_
  refine lv_istore_n (lv' := [(0, .int (nI (bc2 x)))]) hx hb dJ6_bitCount_0f7a4_23 rfl hl (by decide) rfl (fun ls hl => ?_)
  refine lv_iload_n hx hb dJ6_bitCount_0f7a4_24 rfl (lv_at hl 0 rfl) ?_
  refine lv_iload_n hx hb dJ6_bitCount_0f7a4_25 rfl (lv_at hl 0 rfl) ?_
  refine lv_iconst (v := nI 4) hx hb dJ6_bitCount_0f7a4_26 (by decide) ?_
  refine lv_iushr (v := ((nI (bc2 x)).toUInt32 >>> ((nI 4).toUInt32 &&& Int32.toUInt32 31)).toInt32) hx hb dJ6_bitCount_0f7a4_27 rfl ?_
  refine lv_iadd hx hb dJ6_bitCount_0f7a4_28 ?_
  refine lv_ldcw (v := 252645135) hx hb hown k_267 dJ6_bitCount_0f7a4_29 ?_
  refine lv_iand hx hb dJ6_bitCount_0f7a4_32 ?_
  refine zk_top (y := nI (bc3 x)) (bc3_eq x hx32) ?_
  refine lv_istore_n (lv' := [(0, .int (nI (bc3 x)))]) hx hb dJ6_bitCount_0f7a4_33 rfl hl (by decide) rfl (fun ls hl => ?_)
  refine lv_iload_n hx hb dJ6_bitCount_0f7a4_34 rfl (lv_at hl 0 rfl) ?_
  refine lv_iload_n hx hb dJ6_bitCount_0f7a4_35 rfl (lv_at hl 0 rfl) ?_
  refine lv_bipush (v := nI 8) hx hb dJ6_bitCount_0f7a4_36 (by decide) ?_
  refine lv_iushr (v := ((nI (bc3 x)).toUInt32 >>> ((nI 8).toUInt32 &&& Int32.toUInt32 31)).toInt32) hx hb dJ6_bitCount_0f7a4_38 rfl ?_
  refine lv_iadd hx hb dJ6_bitCount_0f7a4_39 ?_
  refine zk_top (y := nI (bc4 x)) (bc4_eq x hx32) ?_
  refine lv_istore_n (lv' := [(0, .int (nI (bc4 x)))]) hx hb dJ6_bitCount_0f7a4_40 rfl hl (by decide) rfl (fun ls hl => ?_)
  refine lv_iload_n hx hb dJ6_bitCount_0f7a4_41 rfl (lv_at hl 0 rfl) ?_
  refine lv_iload_n hx hb dJ6_bitCount_0f7a4_42 rfl (lv_at hl 0 rfl) ?_
  refine lv_bipush (v := nI 16) hx hb dJ6_bitCount_0f7a4_43 (by decide) ?_
  refine lv_iushr (v := ((nI (bc4 x)).toUInt32 >>> ((nI 16).toUInt32 &&& Int32.toUInt32 31)).toInt32) hx hb dJ6_bitCount_0f7a4_45 rfl ?_
  refine lv_iadd hx hb dJ6_bitCount_0f7a4_46 ?_
  refine zk_top (y := nI (bc5 x)) (bc5_eq x hx32) ?_
  refine lv_istore_n (lv' := [(0, .int (nI (bc5 x)))]) hx hb dJ6_bitCount_0f7a4_47 rfl hl (by decide) rfl (fun ls hl => ?_)
  refine lv_iload_n hx hb dJ6_bitCount_0f7a4_48 rfl (lv_at hl 0 rfl) ?_
  refine lv_bipush (v := nI 63) hx hb dJ6_bitCount_0f7a4_49 (by decide) ?_
  refine lv_iand hx hb dJ6_bitCount_0f7a4_51 ?_
  exact zk_retS hx hb hr (pop_eq x hx32) dJ6_bitCount_0f7a4_52 hlocks
set_option maxHeartbeats 4000000 in
set_option maxRecDepth 100000 in
theorem c_allDays (l : Launch) (D : va_G) (cI : ClassId) (a0 : Nat) (a1 : Nat) (a2 : Nat) (a3 : Nat) (a4 : Nat) (a5 : Nat) (a6 : Nat) (Y : YS) (st : Nat → Int32) (hok : OkY Y) : Met l yX2_allDays wsX2_allDays ({ frames := 0, cells := 0, slots := 0, locals := 0 }) (PS D cI [.ref a0] (wRoll cI a0 a1 a2 a3 a4 a5 a6 Y st)) (vp_Si (fun r => r = nI (aD Y.D))) 0 0 (fun _ => False) := by
  refine zk_S (cc := cX2_allDays) (maxL := 1) (ret := (some .int)) (by decide) rfl (Nat.le_of_ble_eq_true rfl) ?_
  intro pX eX sX mX bX tX cX hx hb hr hlocks hml hown hts hP hK ls hl
  have hl : lv_has ls 1 [(0, .ref a0)] := hl
  have hP : va_P D vwCl [(a0, .inr (2, [.int (nI Y.D), .int (nI Y.P), .int Y.db, .int Y.rm, .ref a1, .ref a2, .ref a3, .ref a4, .ref a5, .ref a6])), (a1, .inl (cI, 5, .inl Y.hard)), (a2, .inl (cI, 4, .inl Y.kind)), (a3, .inl (cI, 4, .inl Y.wit)), (a4, .inl (cI, 4, .inl Y.pat)), (a5, .inl (cI, 4, .inl Y.pret)), (a6, .inl (cI, 5, .inl st))] sX.heap := hP
  have f_30 := hts (.fieldLink RX2 30 "DunceSee$Roll" "days" "I") (by decide +kernel)
  have inX2 : ∀ w ∈ wsX20, w ∈ wsX2_allDays := fun w h => List.mem_cons_of_mem _ (List.mem_append_right _ h)
  have hD5 : Y.D ≤ 5 := hok.1
  have hP4 : Y.P ≤ 4 := hok.2
  refine lv_iconst (v := nI 1) hx hb dX2_allDays_0 (by decide) ?_
  refine lv_aload_n hx hb dX2_allDays_1 rfl (lv_at hl 0 rfl) ?_
  refine va_get (D := D) (ci := 2) (v := .int (nI Y.D)) (C := RX2) (T := TX2) (N := 10) hx hb hts inX2 hown hK.1 hP 0 rfl rfl 0 (by decide) f_30 (fun _ h9 => h9) rfl dX2_allDays_2 ?_
  refine lv_ishl hx hb dX2_allDays_5 ?_
  refine lv_iconst (v := nI 1) hx hb dX2_allDays_6 (by decide) ?_
  refine lv_isub hx hb dX2_allDays_7 ?_
  exact zk_retS hx hb hr (aD_eq _ hD5) dX2_allDays_8 hlocks
set_option maxHeartbeats 4000000 in
set_option maxRecDepth 100000 in
theorem c_hoursOfDay (l : Launch) (D : va_G) (cI : ClassId) (a0 : Nat) (a1 : Nat) (a2 : Nat) (a3 : Nat) (a4 : Nat) (a5 : Nat) (a6 : Nat) (Y : YS) (st : Nat → Int32) (p : Nat) (hok : OkY Y) (hp : p < 4) : Met l yX2_hoursOfDay wsX2_hoursOfDay ({ frames := 1, cells := 0, slots := 0, locals := 30 }) (PS D cI [.ref a0, .int (nI p)] (wRoll cI a0 a1 a2 a3 a4 a5 a6 Y st)) (vp_Si (fun r => r = hrs Y p)) 0 0 (fun _ => False) := by
  refine zk_S (cc := cX2_hoursOfDay) (maxL := 3) (ret := (some .int)) (by decide) rfl (Nat.le_of_ble_eq_true rfl) ?_
  intro pX eX sX mX bX tX cX hx hb hr hlocks hml hown hts hP hK ls hl
  have hl : lv_has ls 3 [(0, .ref a0), (1, .int (nI p))] := hl
  have hP : va_P D vwCl [(a0, .inr (2, [.int (nI Y.D), .int (nI Y.P), .int Y.db, .int Y.rm, .ref a1, .ref a2, .ref a3, .ref a4, .ref a5, .ref a6])), (a1, .inl (cI, 5, .inl Y.hard)), (a2, .inl (cI, 4, .inl Y.kind)), (a3, .inl (cI, 4, .inl Y.wit)), (a4, .inl (cI, 4, .inl Y.pat)), (a5, .inl (cI, 4, .inl Y.pret)), (a6, .inl (cI, 5, .inl st))] sX.heap := hP
  have f_21 := hts (.fieldLink RX2 21 "DunceSee$Roll" "patienceOf" "[I") (by decide +kernel)
  have f_15 := hts (.fieldLink RX2 15 "DunceSee$Roll" "kindOf" "[I") (by decide +kernel)
  have m_l := hts (.methodLink RX2 55 Lib.Math.max.name) (by decide +kernel)
  have m_s := hts (.static Lib.Math.max.name) (by decide +kernel)
  have m_i := hts (.initialized "java/lang/Math") (by decide +kernel)
  have m_c := hts (.code Lib.Math.max.name Lib.Math.max.code 2 (some .int)) (by decide +kernel)
  have inX2 : ∀ w ∈ wsX20, w ∈ wsX2_hoursOfDay := fun w h => List.mem_cons_of_mem _ (List.mem_append_right _ h)
  refine lv_aload_n hx hb dX2_hoursOfDay_0 rfl (lv_at hl 0 rfl) ?_
  refine va_get (D := D) (ci := 2) (v := .ref a4) (C := RX2) (T := TX2) (N := 10) hx hb hts inX2 hown hK.1 hP 0 rfl rfl 7 (by decide) f_21 (fun _ h9 => h9) rfl dX2_hoursOfDay_1 ?_
  refine lv_iload_n hx hb dX2_hoursOfDay_4 rfl (lv_at hl 1 rfl) ?_
  refine zk_iald hx hb hK hP 4 rfl (by omega) (by decide) dX2_hoursOfDay_5 ?_
  refine lv_istore_n (lv' := [(2, .int (Y.pat p)), (0, .ref a0), (1, .int (nI p))]) hx hb dX2_hoursOfDay_6 rfl hl (by decide) rfl (fun ls hl => ?_)
  refine lv_aload_n hx hb dX2_hoursOfDay_7 rfl (lv_at hl 1 rfl) ?_
  refine va_get (D := D) (ci := 2) (v := .ref a2) (C := RX2) (T := TX2) (N := 10) hx hb hts inX2 hown hK.1 hP 0 rfl rfl 5 (by decide) f_15 (fun _ h9 => h9) rfl dX2_hoursOfDay_8 ?_
  refine lv_iload_n hx hb dX2_hoursOfDay_11 rfl (lv_at hl 2 rfl) ?_
  refine zk_iald hx hb hK hP 2 rfl (by omega) (by decide) dX2_hoursOfDay_12 ?_
  by_cases c_1 : Y.kind p = nI 1
  · refine lv_lookup (tgt := 44) hx hb dX2_hoursOfDay_13 rfl (by rw [c_1]; try rfl) (by decide) ?_
    refine lv_iload_n hx hb dX2_hoursOfDay_44 rfl (lv_at hl 0 rfl) ?_
    refine lv_iconst (v := nI 1) hx hb dX2_hoursOfDay_45 (by decide) ?_
    refine lv_isub hx hb dX2_hoursOfDay_46 ?_
    refine lv_iconst (v := nI 0) hx hb dX2_hoursOfDay_47 (by decide) ?_
    refine va_mmax hx hb (by rw [hml]; exact hl.1.symm) hown m_l m_s m_i m_c (by decide) (by decide) (Nat.zero_le _) (Nat.zero_le _) dX2_hoursOfDay_48 ?_
    exact zk_retS hx hb hr (by unfold hrs; rw [if_pos c_1]) dX2_hoursOfDay_51 hlocks
  by_cases c_2 : Y.kind p = nI 2
  · refine lv_lookup (tgt := 40) hx hb dX2_hoursOfDay_13 rfl (by rw [c_2]; try rfl) (by decide) ?_
    refine lv_iload_n hx hb dX2_hoursOfDay_40 rfl (lv_at hl 0 rfl) ?_
    refine lv_iconst (v := nI 2) hx hb dX2_hoursOfDay_41 (by decide) ?_
    refine lv_idiv hx hb dX2_hoursOfDay_42 (by decide) ?_
    exact zk_retS hx hb hr (by unfold hrs; rw [if_neg c_1, if_pos c_2]) dX2_hoursOfDay_43 hlocks
  refine lv_lookup (tgt := 52) (off := 39) hx hb dX2_hoursOfDay_13 rfl (show Op.lookupswitch.offset [(1, 31), (2, 27)] 39 (Y.kind p).toInt = 39 from by rw [lv_osw c_1 (show (nI 1).toInt = 1 from by decide), lv_osw c_2 (show (nI 2).toInt = 2 from by decide)]; try rfl) (by decide) ?_
  refine lv_iload_n hx hb dX2_hoursOfDay_52 rfl (lv_at hl 0 rfl) ?_
  exact zk_retS hx hb hr (by unfold hrs; rw [if_neg c_1, if_neg c_2]) dX2_hoursOfDay_53 hlocks
set_option maxHeartbeats 4000000 in
set_option maxRecDepth 100000 in
theorem c_wouldStand (l : Launch) (D : va_G) (cI : ClassId) (a0 : Nat) (a1 : Nat) (a2 : Nat) (a3 : Nat) (a4 : Nat) (a5 : Nat) (a6 : Nat) (Y : YS) (st : Nat → Int32) (p : Nat) (d : Nat) (b : Bool) (hok : OkY Y) (hp : p < 4) (hd : d < 5) : Met l yX2_wouldStand wsX2_wouldStand ({ frames := 0, cells := 0, slots := 0, locals := 0 }) (PS D cI [.ref a0, .int (nI p), .int (nI d), .int (bI b)] (wRoll cI a0 a1 a2 a3 a4 a5 a6 Y st)) (vp_Si (fun r => r = bI (wdB (Y.wit p) (Y.hard d) Y.db b))) 0 0 (fun _ => False) := by
  refine zk_S (cc := cX2_wouldStand) (maxL := 5) (ret := (some .boolean)) (by decide) rfl (Nat.le_of_ble_eq_true rfl) ?_
  intro pX eX sX mX bX tX cX hx hb hr hlocks hml hown hts hP hK ls hl
  have hl : lv_has ls 5 [(0, .ref a0), (1, .int (nI p)), (2, .int (nI d)), (3, .int (bI b))] := hl
  have hP : va_P D vwCl [(a0, .inr (2, [.int (nI Y.D), .int (nI Y.P), .int Y.db, .int Y.rm, .ref a1, .ref a2, .ref a3, .ref a4, .ref a5, .ref a6])), (a1, .inl (cI, 5, .inl Y.hard)), (a2, .inl (cI, 4, .inl Y.kind)), (a3, .inl (cI, 4, .inl Y.wit)), (a4, .inl (cI, 4, .inl Y.pat)), (a5, .inl (cI, 4, .inl Y.pret)), (a6, .inl (cI, 5, .inl st))] sX.heap := hP
  have f_18 := hts (.fieldLink RX2 18 "DunceSee$Roll" "witOf" "[I") (by decide +kernel)
  have f_9 := hts (.fieldLink RX2 9 "DunceSee$Roll" "hardOf" "[I") (by decide +kernel)
  have f_37 := hts (.fieldLink RX2 37 "DunceSee$Roll" "doubt" "I") (by decide +kernel)
  have inX2 : ∀ w ∈ wsX20, w ∈ wsX2_wouldStand := fun w h => List.mem_cons_of_mem _ (List.mem_append_right _ h)
  refine lv_aload_n hx hb dX2_wouldStand_0 rfl (lv_at hl 0 rfl) ?_
  refine va_get (D := D) (ci := 2) (v := .ref a3) (C := RX2) (T := TX2) (N := 10) hx hb hts inX2 hown hK.1 hP 0 rfl rfl 6 (by decide) f_18 (fun _ h9 => h9) rfl dX2_wouldStand_1 ?_
  refine lv_iload_n hx hb dX2_wouldStand_4 rfl (lv_at hl 1 rfl) ?_
  refine zk_iald hx hb hK hP 3 rfl (by omega) (by decide) dX2_wouldStand_5 ?_
  refine lv_aload_n hx hb dX2_wouldStand_6 rfl (lv_at hl 0 rfl) ?_
  refine va_get (D := D) (ci := 2) (v := .ref a1) (C := RX2) (T := TX2) (N := 10) hx hb hts inX2 hown hK.1 hP 0 rfl rfl 4 (by decide) f_9 (fun _ h9 => h9) rfl dX2_wouldStand_7 ?_
  refine lv_iload_n hx hb dX2_wouldStand_10 rfl (lv_at hl 2 rfl) ?_
  refine zk_iald hx hb hK hP 1 rfl (by omega) (by decide) dX2_wouldStand_11 ?_
  refine lv_isub hx hb dX2_wouldStand_12 ?_
  refine lv_istore (lv' := [(4, .int ((Y.wit p) - (Y.hard d))), (0, .ref a0), (1, .int (nI p)), (2, .int (nI d)), (3, .int (bI b))]) hx hb dX2_wouldStand_13 hl (by decide) rfl (fun ls hl => ?_)
  refine lv_iload hx hb dX2_wouldStand_15 (lv_at hl 0 rfl) ?_
  refine lv_if_lt (tgt := 33) hx hb dX2_wouldStand_17 (by decide) (fun c_1 => ?_) (fun c_1 => ?_)
  · refine lv_iconst (v := nI 1) hx hb dX2_wouldStand_33 (by decide) ?_
    refine lv_goto (tgt := 38) hx hb dX2_wouldStand_34 (by decide) ?_
    exact zk_retSB hx hb hr nI_nar1 (by rw [show wdB (Y.wit p) (Y.hard d) Y.db b = true from by simp [wdB, c_1, (Int32.not_le.mpr c_1)]]; rfl) dX2_wouldStand_38 hlocks
  · have c_1 := Int32.not_lt.mp c_1
    refine lv_iload_n hx hb dX2_wouldStand_20 rfl (lv_at hl 4 rfl) ?_
    refine zk_ifeqB (tgt := 37) hx hb dX2_wouldStand_21 (by decide) (fun c_2 => ?_) (fun c_2 => ?_)
    · refine lv_iconst (v := nI 0) hx hb dX2_wouldStand_37 (by decide) ?_
      exact zk_retSB hx hb hr nI_nar0 (by rw [show wdB (Y.wit p) (Y.hard d) Y.db b = false from by simp [wdB, c_1, (Int32.not_lt.mpr c_1), c_2]]; rfl) dX2_wouldStand_38 hlocks
    · refine lv_iload hx hb dX2_wouldStand_24 (lv_at hl 0 rfl) ?_
      refine lv_aload_n hx hb dX2_wouldStand_26 rfl (lv_at hl 1 rfl) ?_
      refine va_get (D := D) (ci := 2) (v := .int Y.db) (C := RX2) (T := TX2) (N := 10) hx hb hts inX2 hown hK.1 hP 0 rfl rfl 2 (by decide) f_37 (fun _ h9 => h9) rfl dX2_wouldStand_27 ?_
      refine lv_icmp_ge (tgt := 37) hx hb dX2_wouldStand_30 (by decide) (fun c_3 => ?_) (fun c_3 => ?_)
      · refine lv_iconst (v := nI 0) hx hb dX2_wouldStand_37 (by decide) ?_
        exact zk_retSB hx hb hr nI_nar0 (by rw [show wdB (Y.wit p) (Y.hard d) Y.db b = false from by simp [wdB, c_1, (Int32.not_lt.mpr c_1), c_2, c_3, (Int32.not_lt.mpr c_3)]]; rfl) dX2_wouldStand_38 hlocks
      · have c_3 := Int32.not_le.mp c_3
        refine lv_iconst (v := nI 1) hx hb dX2_wouldStand_33 (by decide) ?_
        refine lv_goto (tgt := 38) hx hb dX2_wouldStand_34 (by decide) ?_
        exact zk_retSB hx hb hr nI_nar1 (by rw [show wdB (Y.wit p) (Y.hard d) Y.db b = true from by simp [wdB, c_1, (Int32.not_lt.mpr c_1), c_2, c_3, (Int32.not_le.mpr c_3)]]; rfl) dX2_wouldStand_38 hlocks
set_option maxHeartbeats 4000000 in
set_option maxRecDepth 100000 in
theorem c_whoWouldStand (l : Launch) (D : va_G) (cI : ClassId) (a0 : Nat) (a1 : Nat) (a2 : Nat) (a3 : Nat) (a4 : Nat) (a5 : Nat) (a6 : Nat) (Y : YS) (st : Nat → Int32) (d : Nat) (hok : OkY Y) (hd : d < 5) : Met l yX2_whoWouldStand wsX2_whoWouldStand ({ frames := 1, cells := 0, slots := 0, locals := 24 }) (PS D cI [.ref a0, .int (nI d)] (wRoll cI a0 a1 a2 a3 a4 a5 a6 Y st)) (vp_Si (fun r => r = nI (msk Y.P (wd Y d)))) 0 0 (fun _ => False) := by
  refine zk_S (cc := cX2_whoWouldStand) (maxL := 4) (ret := (some .int)) (by decide) rfl (Nat.le_of_ble_eq_true rfl) ?_
  intro pX eX sX mX bX tX cX hx hb hr hlocks hml hown hts hP hK ls hl
  have hl : lv_has ls 4 [(0, .ref a0), (1, .int (nI d))] := hl
  have hP : va_P D vwCl [(a0, .inr (2, [.int (nI Y.D), .int (nI Y.P), .int Y.db, .int Y.rm, .ref a1, .ref a2, .ref a3, .ref a4, .ref a5, .ref a6])), (a1, .inl (cI, 5, .inl Y.hard)), (a2, .inl (cI, 4, .inl Y.kind)), (a3, .inl (cI, 4, .inl Y.wit)), (a4, .inl (cI, 4, .inl Y.pat)), (a5, .inl (cI, 4, .inl Y.pret)), (a6, .inl (cI, 5, .inl st))] sX.heap := hP
  have f_34 := hts (.fieldLink RX2 34 "DunceSee$Roll" "pupils" "I") (by decide +kernel)
  have f_24 := hts (.fieldLink RX2 24 "DunceSee$Roll" "pretendsOf" "[I") (by decide +kernel)
  have inX2 : ∀ w ∈ wsX20, w ∈ wsX2_whoWouldStand := fun w h => List.mem_cons_of_mem _ (List.mem_append_right _ h)
  have hD5 : Y.D ≤ 5 := hok.1
  have hP4 : Y.P ≤ 4 := hok.2
  refine lv_iconst (v := nI 0) hx hb dX2_whoWouldStand_0 (by decide) ?_
  refine lv_istore_n (lv' := [(2, .int (nI 0)), (0, .ref a0), (1, .int (nI d))]) hx hb dX2_whoWouldStand_1 rfl hl (by decide) rfl (fun ls hl => ?_)
  refine lv_iconst (v := nI 0) hx hb dX2_whoWouldStand_2 (by decide) ?_
  refine lv_istore_n (lv' := [(3, .int (nI 0)), (2, .int (nI 0)), (0, .ref a0), (1, .int (nI d))]) hx hb dX2_whoWouldStand_3 rfl hl (by decide) rfl (fun ls hl => ?_)
  have loop4 : ∀ (nL k : Nat), k ≤ Y.P → Y.P < k + nL → ∀ ls : Array Slot, lv_has ls 4 [(0, .ref a0), (1, .int (nI d)), (2, .int (nI (msk k (wd Y d)))), (3, .int (nI k))] → W pX l eX ({ frames := 1, cells := 0, slots := 0, locals := 24 }) sX mX ([.ref a0, .int (nI d)] : List Value).toArray bX tX cX sX.heap [] 0 0 (MQ bX (vp_Si (fun r => r = nI (msk Y.P (wd Y d)))) ([.ref a0, .int (nI d)] : List Value).toArray sX 0 0 (fun _ => False)) (F0 mX 4 ls []) := by
    intro nL
    induction nL with
    | zero => intro k  h1 h2; exact absurd h2 (by omega)
    | succ nL ih =>
      intro k  h_le h_n   ls hl
      refine lv_iload_n hx hb dX2_whoWouldStand_4 rfl (lv_at hl 3 rfl) ?_
      refine lv_aload_n hx hb dX2_whoWouldStand_5 rfl (lv_at hl 0 rfl) ?_
      refine va_get (D := D) (ci := 2) (v := .int (nI Y.P)) (C := RX2) (T := TX2) (N := 10) hx hb hts inX2 hown hK.1 hP 0 rfl rfl 1 (by decide) f_34 (fun _ h9 => h9) rfl dX2_whoWouldStand_6 ?_
      refine zk_icmp_ge (tgt := 43) hx hb dX2_whoWouldStand_9 (by decide) (by omega) (by omega) (fun c_1 => ?_) (fun c_1 => ?_)
      · refine lv_iload_n hx hb dX2_whoWouldStand_43 rfl (lv_at hl 2 rfl) ?_
        exact zk_retS hx hb hr (by rw [show k = Y.P by omega]) dX2_whoWouldStand_44 hlocks
      · refine lv_aload_n hx hb dX2_whoWouldStand_12 rfl (lv_at hl 0 rfl) ?_
        refine lv_iload_n hx hb dX2_whoWouldStand_13 rfl (lv_at hl 3 rfl) ?_
        refine lv_iload_n hx hb dX2_whoWouldStand_14 rfl (lv_at hl 1 rfl) ?_
        refine lv_aload_n hx hb dX2_whoWouldStand_15 rfl (lv_at hl 0 rfl) ?_
        refine va_get (D := D) (ci := 2) (v := .ref a5) (C := RX2) (T := TX2) (N := 10) hx hb hts inX2 hown hK.1 hP 0 rfl rfl 8 (by decide) f_24 (fun _ h9 => h9) rfl dX2_whoWouldStand_16 ?_
        refine lv_iload_n hx hb dX2_whoWouldStand_19 rfl (lv_at hl 3 rfl) ?_
        refine zk_iald hx hb hK hP 5 rfl (by omega) (by decide) dX2_whoWouldStand_20 ?_
        refine lv_iload_n hx hb dX2_whoWouldStand_21 rfl (lv_at hl 1 rfl) ?_
        refine zk_callSi (As := [.int (Y.pret k), .int (nI d)]) (rest := [.int (nI d), .int (nI k), .ref a0]) (bI (hbit (Y.pret k) d)) ⟨hx, hb, hml, hown, hts⟩ hK hP [] rfl (c_holds l D cI (Y.pret k) d ) (va_cwS 2 hts gX2_whoWouldStand_X2_holds rfl rfl rfl hdX2_holds ⟨Nat.le_of_ble_eq_true rfl, Nat.le_of_ble_eq_true rfl⟩) rfl hl.1 rfl (Nat.le_of_ble_eq_true rfl) dX2_whoWouldStand_22 ⟨Nat.le_of_ble_eq_true rfl, Nat.le_of_ble_eq_true rfl⟩ ?_
        refine zk_callVi (As := [.int (nI k), .int (nI d), .int (bI (hbit (Y.pret k) d))]) (rest := []) (bI (wdB (Y.wit k) (Y.hard d) Y.db (hbit (Y.pret k) d))) ⟨hx, hb, hml, hown, hts⟩ hK hP [0, 1, 2, 3, 4, 5, 6] rfl (c_wouldStand l D cI a0 a1 a2 a3 a4 a5 a6 Y st k d (hbit (Y.pret k) d) hok (by omega) hd) (cwV 3 hts gX2_whoWouldStand_X2_wouldStand rfl rfl rfl hdX2_wouldStand ⟨Nat.le_of_ble_eq_true rfl, Nat.le_of_ble_eq_true rfl⟩) rfl rfl rfl hl.1 rfl (Nat.le_of_ble_eq_true rfl) dX2_whoWouldStand_25 ⟨Nat.le_of_ble_eq_true rfl, Nat.le_of_ble_eq_true rfl⟩ ?_
        refine zk_ifeqB (tgt := 37) hx hb dX2_whoWouldStand_28 (by decide) (fun c_2 => ?_) (fun c_2 => ?_)
        · refine lv_iinc (v := nI (k + 1)) (lv' := [(3, .int (nI (k + 1))), (0, .ref a0), (1, .int (nI d)), (2, .int (nI (msk k (wd Y d))))]) hx hb dX2_whoWouldStand_37 hl (k := 3) rfl (by rw [show (Int32.ofInt 1) = nI 1 from by decide, nI_add]) (by decide) rfl (fun ls hl => ?_)
          refine lv_goto (tgt := 4) hx hb dX2_whoWouldStand_40 (by decide) ?_
          have hl := lv_sub hl [1, 2, 3, 0] rfl
          have e_2 : nI (msk k (wd Y d)) = nI (msk (k + 1) (wd Y d)) := msk_no (show wd Y d k = false from c_2)
          rw [e_2] at hl
          exact ih (k + 1)  (by omega) (by omega)   ls hl
        · refine lv_iload_n hx hb dX2_whoWouldStand_31 rfl (lv_at hl 2 rfl) ?_
          refine lv_iconst (v := nI 1) hx hb dX2_whoWouldStand_32 (by decide) ?_
          refine lv_iload_n hx hb dX2_whoWouldStand_33 rfl (lv_at hl 3 rfl) ?_
          refine lv_ishl hx hb dX2_whoWouldStand_34 ?_
          refine lv_ior hx hb dX2_whoWouldStand_35 ?_
          refine lv_istore_n (lv' := [(2, .int ((nI (msk k (wd Y d))) ||| ((nI 1) <<< ((nI k) &&& 31)))), (0, .ref a0), (1, .int (nI d)), (3, .int (nI k))]) hx hb dX2_whoWouldStand_36 rfl hl (by decide) rfl (fun ls hl => ?_)
          refine lv_iinc (v := nI (k + 1)) (lv' := [(3, .int (nI (k + 1))), (2, .int ((nI (msk k (wd Y d))) ||| ((nI 1) <<< ((nI k) &&& 31)))), (0, .ref a0), (1, .int (nI d))]) hx hb dX2_whoWouldStand_37 hl (k := 3) rfl (by rw [show (Int32.ofInt 1) = nI 1 from by decide, nI_add]) (by decide) rfl (fun ls hl => ?_)
          refine lv_goto (tgt := 4) hx hb dX2_whoWouldStand_40 (by decide) ?_
          have hl := lv_sub hl [2, 3, 1, 0] rfl
          have e_2 : (nI (msk k (wd Y d))) ||| ((nI 1) <<< ((nI k) &&& 31)) = nI (msk (k + 1) (wd Y d)) := msk_or (by omega) (show wd Y d k = true from c_2)
          rw [e_2] at hl
          exact ih (k + 1)  (by omega) (by omega)   ls hl
  have hl := lv_sub hl [2, 3, 1, 0] rfl
  have e_2 : nI 0 = nI (msk 0 (wd Y d)) := by rfl
  have hl : lv_has ls 4 [(0, .ref a0), (1, .int (nI d)), (2, .int (nI (msk 0 (wd Y d)))), (3, .int (nI 0))] := by
    first | exact hl | (rw [← e_2]; exact hl) | (simp only [e_2] at hl ⊢; exact hl)
  exact loop4 (Y.P + 1) 0  (by omega) (by omega)   ls hl
set_option maxHeartbeats 4000000 in
set_option maxRecDepth 100000 in
theorem c_howManyBefore (l : Launch) (D : va_G) (cI : ClassId) (a0 : Nat) (a1 : Nat) (a2 : Nat) (a3 : Nat) (a4 : Nat) (a5 : Nat) (a6 : Nat) (Y : YS) (st : Nat → Int32) (p : Nat) (wb : Nat → Bool) (hok : OkY Y) (hp : p < 4) : Met l yX2_howManyBefore wsX2_howManyBefore ({ frames := 1, cells := 0, slots := 0, locals := 21 }) (PS D cI [.ref a0, .int (nI p), .int (nI (msk Y.P wb))] (wRoll cI a0 a1 a2 a3 a4 a5 a6 Y st)) (vp_Si (fun r => r = nI (cnt Y.P (fun q => snr Y q p && wb q)))) 0 0 (fun _ => False) := by
  refine zk_S (cc := cX2_howManyBefore) (maxL := 6) (ret := (some .int)) (by decide) rfl (Nat.le_of_ble_eq_true rfl) ?_
  intro pX eX sX mX bX tX cX hx hb hr hlocks hml hown hts hP hK ls hl
  have hl : lv_has ls 6 [(0, .ref a0), (1, .int (nI p)), (2, .int (nI (msk Y.P wb)))] := hl
  have hP : va_P D vwCl [(a0, .inr (2, [.int (nI Y.D), .int (nI Y.P), .int Y.db, .int Y.rm, .ref a1, .ref a2, .ref a3, .ref a4, .ref a5, .ref a6])), (a1, .inl (cI, 5, .inl Y.hard)), (a2, .inl (cI, 4, .inl Y.kind)), (a3, .inl (cI, 4, .inl Y.wit)), (a4, .inl (cI, 4, .inl Y.pat)), (a5, .inl (cI, 4, .inl Y.pret)), (a6, .inl (cI, 5, .inl st))] sX.heap := hP
  have f_34 := hts (.fieldLink RX2 34 "DunceSee$Roll" "pupils" "I") (by decide +kernel)
  have f_18 := hts (.fieldLink RX2 18 "DunceSee$Roll" "witOf" "[I") (by decide +kernel)
  have inX2 : ∀ w ∈ wsX20, w ∈ wsX2_howManyBefore := fun w h => List.mem_cons_of_mem _ (List.mem_append_right _ h)
  have hD5 : Y.D ≤ 5 := hok.1
  have hP4 : Y.P ≤ 4 := hok.2
  refine lv_iconst (v := nI 0) hx hb dX2_howManyBefore_0 (by decide) ?_
  refine lv_istore_n (lv' := [(3, .int (nI 0)), (0, .ref a0), (1, .int (nI p)), (2, .int (nI (msk Y.P wb)))]) hx hb dX2_howManyBefore_1 rfl hl (by decide) rfl (fun ls hl => ?_)
  refine lv_iconst (v := nI 0) hx hb dX2_howManyBefore_2 (by decide) ?_
  refine lv_istore (lv' := [(4, .int (nI 0)), (3, .int (nI 0)), (0, .ref a0), (1, .int (nI p)), (2, .int (nI (msk Y.P wb)))]) hx hb dX2_howManyBefore_3 hl (by decide) rfl (fun ls hl => ?_)
  have loop5 : ∀ (nL k : Nat), k ≤ Y.P → Y.P < k + nL → ∀ ls : Array Slot, lv_has ls 6 [(0, .ref a0), (1, .int (nI p)), (2, .int (nI (msk Y.P wb))), (3, .int (nI (cnt k (fun q => snr Y q p && wb q)))), (4, .int (nI k))] → W pX l eX ({ frames := 1, cells := 0, slots := 0, locals := 21 }) sX mX ([.ref a0, .int (nI p), .int (nI (msk Y.P wb))] : List Value).toArray bX tX cX sX.heap [] 0 0 (MQ bX (vp_Si (fun r => r = nI (cnt Y.P (fun q => snr Y q p && wb q)))) ([.ref a0, .int (nI p), .int (nI (msk Y.P wb))] : List Value).toArray sX 0 0 (fun _ => False)) (F0 mX 5 ls []) := by
    intro nL
    induction nL with
    | zero => intro k  h1 h2; exact absurd h2 (by omega)
    | succ nL ih =>
      intro k  h_le h_n   ls hl
      refine lv_iload hx hb dX2_howManyBefore_5 (lv_at hl 4 rfl) ?_
      refine lv_aload_n hx hb dX2_howManyBefore_7 rfl (lv_at hl 0 rfl) ?_
      refine va_get (D := D) (ci := 2) (v := .int (nI Y.P)) (C := RX2) (T := TX2) (N := 10) hx hb hts inX2 hown hK.1 hP 0 rfl rfl 1 (by decide) f_34 (fun _ h9 => h9) rfl dX2_howManyBefore_8 ?_
      refine zk_icmp_ge (tgt := 82) hx hb dX2_howManyBefore_11 (by decide) (by omega) (by omega) (fun c_1 => ?_) (fun c_1 => ?_)
      · refine lv_iload_n hx hb dX2_howManyBefore_82 rfl (lv_at hl 3 rfl) ?_
        exact zk_retS hx hb hr (by rw [show k = Y.P by omega]) dX2_howManyBefore_83 hlocks
      · have join57 : ∀ (b : Bool), (b = snr Y k p) → ∀ ls : Array Slot, lv_has ls 6 [(0, .ref a0), (1, .int (nI p)), (2, .int (nI (msk Y.P wb))), (3, .int (nI (cnt k (fun q => snr Y q p && wb q)))), (4, .int (nI k))] → W pX l eX ({ frames := 1, cells := 0, slots := 0, locals := 21 }) sX mX ([.ref a0, .int (nI p), .int (nI (msk Y.P wb))] : List Value).toArray bX tX cX sX.heap [] 0 0 (MQ bX (vp_Si (fun r => r = nI (cnt Y.P (fun q => snr Y q p && wb q)))) ([.ref a0, .int (nI p), .int (nI (msk Y.P wb))] : List Value).toArray sX 0 0 (fun _ => False)) (F0 mX 57 ls [.int (bI b)]) := by
          intro b hbv ls hl
          refine lv_istore (lv' := [(5, .int (bI b)), (0, .ref a0), (1, .int (nI p)), (2, .int (nI (msk Y.P wb))), (3, .int (nI (cnt k (fun q => snr Y q p && wb q)))), (4, .int (nI k))]) hx hb dX2_howManyBefore_57 hl (by decide) rfl (fun ls hl => ?_)
          subst hbv
          refine lv_iload hx hb dX2_howManyBefore_59 (lv_at hl 0 rfl) ?_
          refine zk_ifeqB (tgt := 76) hx hb dX2_howManyBefore_61 (by decide) (fun c_2 => ?_) (fun c_2 => ?_)
          · refine lv_iinc (v := nI (k + 1)) (lv' := [(4, .int (nI (k + 1))), (5, .int (bI (snr Y k p))), (0, .ref a0), (1, .int (nI p)), (2, .int (nI (msk Y.P wb))), (3, .int (nI (cnt k (fun q => snr Y q p && wb q))))]) hx hb dX2_howManyBefore_76 hl (k := 5) rfl (by rw [show (Int32.ofInt 1) = nI 1 from by decide, nI_add]) (by decide) rfl (fun ls hl => ?_)
            refine lv_goto (tgt := 5) hx hb dX2_howManyBefore_79 (by decide) ?_
            have hbq := hbit_mskI (p := k) (show Y.P ≤ 5 by omega) (by omega) wb
            have hl := lv_sub hl [2, 3, 4, 5, 0] rfl
            have e_3 : nI (cnt k (fun q => snr Y q p && wb q)) = nI (cnt (k + 1) (fun q => snr Y q p && wb q)) := cnt_no (by simp [← hbq, c_1, (Nat.not_le.mpr c_1), c_2])
            rw [e_3] at hl
            exact ih (k + 1)  (by omega) (by omega)   ls hl
          · refine lv_iload_n hx hb dX2_howManyBefore_64 rfl (lv_at hl 3 rfl) ?_
            refine lv_iload hx hb dX2_howManyBefore_65 (lv_at hl 5 rfl) ?_
            refine zk_callSi (As := [.int (nI (msk Y.P wb)), .int (nI k)]) (rest := []) (bI (hbit (nI (msk Y.P wb)) k)) ⟨hx, hb, hml, hown, hts⟩ hK hP [] rfl (c_holds l D cI (nI (msk Y.P wb)) k ) (va_cwS 2 hts gX2_howManyBefore_X2_holds rfl rfl rfl hdX2_holds ⟨Nat.le_of_ble_eq_true rfl, Nat.le_of_ble_eq_true rfl⟩) rfl hl.1 rfl (Nat.le_of_ble_eq_true rfl) dX2_howManyBefore_67 ⟨Nat.le_of_ble_eq_true rfl, Nat.le_of_ble_eq_true rfl⟩ ?_
            refine zk_ifeqB (tgt := 76) hx hb dX2_howManyBefore_70 (by decide) (fun c_3 => ?_) (fun c_3 => ?_)
            · refine lv_iinc (v := nI (k + 1)) (lv' := [(4, .int (nI (k + 1))), (5, .int (bI (snr Y k p))), (0, .ref a0), (1, .int (nI p)), (2, .int (nI (msk Y.P wb))), (3, .int (nI (cnt k (fun q => snr Y q p && wb q))))]) hx hb dX2_howManyBefore_76 hl (k := 5) rfl (by rw [show (Int32.ofInt 1) = nI 1 from by decide, nI_add]) (by decide) rfl (fun ls hl => ?_)
              refine lv_goto (tgt := 5) hx hb dX2_howManyBefore_79 (by decide) ?_
              have hbq := hbit_mskI (p := k) (show Y.P ≤ 5 by omega) (by omega) wb
              have hl := lv_sub hl [2, 3, 4, 5, 0] rfl
              have e_3 : nI (cnt k (fun q => snr Y q p && wb q)) = nI (cnt (k + 1) (fun q => snr Y q p && wb q)) := cnt_no (by simp [← hbq, c_1, (Nat.not_le.mpr c_1), c_2, c_3])
              rw [e_3] at hl
              exact ih (k + 1)  (by omega) (by omega)   ls hl
            · refine lv_iinc (v := nI (cnt k (fun q => snr Y q p && wb q) + 1)) (lv' := [(3, .int (nI (cnt k (fun q => snr Y q p && wb q) + 1))), (5, .int (bI (snr Y k p))), (0, .ref a0), (1, .int (nI p)), (2, .int (nI (msk Y.P wb))), (4, .int (nI k))]) hx hb dX2_howManyBefore_73 hl (k := 4) rfl (by rw [show (Int32.ofInt 1) = nI 1 from by decide, nI_add]) (by decide) rfl (fun ls hl => ?_)
              refine lv_iinc (v := nI (k + 1)) (lv' := [(4, .int (nI (k + 1))), (3, .int (nI (cnt k (fun q => snr Y q p && wb q) + 1))), (5, .int (bI (snr Y k p))), (0, .ref a0), (1, .int (nI p)), (2, .int (nI (msk Y.P wb)))]) hx hb dX2_howManyBefore_76 hl (k := 5) rfl (by rw [show (Int32.ofInt 1) = nI 1 from by decide, nI_add]) (by decide) rfl (fun ls hl => ?_)
              refine lv_goto (tgt := 5) hx hb dX2_howManyBefore_79 (by decide) ?_
              have hbq := hbit_mskI (p := k) (show Y.P ≤ 5 by omega) (by omega) wb
              have hl := lv_sub hl [3, 4, 5, 1, 0] rfl
              have e_3 : nI (cnt k (fun q => snr Y q p && wb q) + 1) = nI (cnt (k + 1) (fun q => snr Y q p && wb q)) := cnt_in (by simp [← hbq, c_1, (Nat.not_le.mpr c_1), c_2, c_3])
              rw [e_3] at hl
              exact ih (k + 1)  (by omega) (by omega)   ls hl
        refine lv_aload_n hx hb dX2_howManyBefore_14 rfl (lv_at hl 0 rfl) ?_
        refine va_get (D := D) (ci := 2) (v := .ref a3) (C := RX2) (T := TX2) (N := 10) hx hb hts inX2 hown hK.1 hP 0 rfl rfl 6 (by decide) f_18 (fun _ h9 => h9) rfl dX2_howManyBefore_15 ?_
        refine lv_iload hx hb dX2_howManyBefore_18 (lv_at hl 4 rfl) ?_
        refine zk_iald hx hb hK hP 3 rfl (by omega) (by decide) dX2_howManyBefore_20 ?_
        refine lv_aload_n hx hb dX2_howManyBefore_21 rfl (lv_at hl 0 rfl) ?_
        refine va_get (D := D) (ci := 2) (v := .ref a3) (C := RX2) (T := TX2) (N := 10) hx hb hts inX2 hown hK.1 hP 0 rfl rfl 6 (by decide) f_18 (fun _ h9 => h9) rfl dX2_howManyBefore_22 ?_
        refine lv_iload_n hx hb dX2_howManyBefore_25 rfl (lv_at hl 1 rfl) ?_
        refine zk_iald hx hb hK hP 3 rfl (by omega) (by decide) dX2_howManyBefore_26 ?_
        refine lv_icmp_lt (tgt := 52) hx hb dX2_howManyBefore_27 (by decide) (fun c_4 => ?_) (fun c_4 => ?_)
        · refine lv_iconst (v := nI 1) hx hb dX2_howManyBefore_52 (by decide) ?_
          refine lv_goto (tgt := 57) hx hb dX2_howManyBefore_53 (by decide) ?_
          exact join57 true (by simp [snr, c_1, (Nat.not_le.mpr c_1), c_4, (Int32.not_le.mpr c_4)]) ls (lv_sub hl [0, 1, 2, 3, 4] rfl)
        · have c_4 := Int32.not_lt.mp c_4
          refine lv_aload_n hx hb dX2_howManyBefore_30 rfl (lv_at hl 0 rfl) ?_
          refine va_get (D := D) (ci := 2) (v := .ref a3) (C := RX2) (T := TX2) (N := 10) hx hb hts inX2 hown hK.1 hP 0 rfl rfl 6 (by decide) f_18 (fun _ h9 => h9) rfl dX2_howManyBefore_31 ?_
          refine lv_iload hx hb dX2_howManyBefore_34 (lv_at hl 4 rfl) ?_
          refine zk_iald hx hb hK hP 3 rfl (by omega) (by decide) dX2_howManyBefore_36 ?_
          refine lv_aload_n hx hb dX2_howManyBefore_37 rfl (lv_at hl 0 rfl) ?_
          refine va_get (D := D) (ci := 2) (v := .ref a3) (C := RX2) (T := TX2) (N := 10) hx hb hts inX2 hown hK.1 hP 0 rfl rfl 6 (by decide) f_18 (fun _ h9 => h9) rfl dX2_howManyBefore_38 ?_
          refine lv_iload_n hx hb dX2_howManyBefore_41 rfl (lv_at hl 1 rfl) ?_
          refine zk_iald hx hb hK hP 3 rfl (by omega) (by decide) dX2_howManyBefore_42 ?_
          refine lv_icmp_ne (tgt := 56) hx hb dX2_howManyBefore_43 (by decide) (fun c_5 => ?_) (fun c_5 => ?_)
          · refine lv_iconst (v := nI 0) hx hb dX2_howManyBefore_56 (by decide) ?_
            exact join57 false (by simp [snr, c_1, (Nat.not_le.mpr c_1), c_4, (Int32.not_lt.mpr c_4), c_5]) ls (lv_sub hl [0, 1, 2, 3, 4] rfl)
          · refine lv_iload hx hb dX2_howManyBefore_46 (lv_at hl 4 rfl) ?_
            refine lv_iload_n hx hb dX2_howManyBefore_48 rfl (lv_at hl 1 rfl) ?_
            refine zk_icmp_ge (tgt := 56) hx hb dX2_howManyBefore_49 (by decide) (by omega) (by omega) (fun c_6 => ?_) (fun c_6 => ?_)
            · refine lv_iconst (v := nI 0) hx hb dX2_howManyBefore_56 (by decide) ?_
              exact join57 false (by simp [snr, c_1, (Nat.not_le.mpr c_1), c_4, (Int32.not_lt.mpr c_4), c_5, c_6, (Nat.not_lt.mpr c_6)]) ls (lv_sub hl [0, 1, 2, 3, 4] rfl)
            · refine lv_iconst (v := nI 1) hx hb dX2_howManyBefore_52 (by decide) ?_
              refine lv_goto (tgt := 57) hx hb dX2_howManyBefore_53 (by decide) ?_
              exact join57 true (by simp [snr, c_1, (Nat.not_le.mpr c_1), c_4, (Int32.not_lt.mpr c_4), c_5, c_6, (Nat.not_le.mpr c_6)]) ls (lv_sub hl [0, 1, 2, 3, 4] rfl)
  have hl := lv_sub hl [2, 3, 4, 1, 0] rfl
  have e_3 : nI 0 = nI (cnt 0 (fun q => snr Y q p && wb q)) := by rfl
  have hl : lv_has ls 6 [(0, .ref a0), (1, .int (nI p)), (2, .int (nI (msk Y.P wb))), (3, .int (nI (cnt 0 (fun q => snr Y q p && wb q)))), (4, .int (nI 0))] := by
    first | exact hl | (rw [← e_3]; exact hl) | (simp only [e_3] at hl ⊢; exact hl)
  exact loop5 (Y.P + 1) 0  (by omega) (by omega)   ls hl
