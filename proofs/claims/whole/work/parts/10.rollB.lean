theorem msk32 {n : Nat} (h : n ≤ 4) {b : Nat → Bool} : msk n b < 32 := Nat.lt_of_lt_of_le (msk_lt n b) (Nat.pow_le_pow_right (by omega) (show n ≤ 5 by omega))
theorem hdX2_whoWouldStand : yX2_whoWouldStand.cls = RX2 ∧ yX2_whoWouldStand.cls ≠ "java/lang/invoke/MethodHandle" ∧ yX2_whoWouldStand.cls ≠ "java/lang/invoke/VarHandle" ∧ (parseMethodDescriptor yX2_whoWouldStand.desc).map (fun d => d.parameters.length) = some 1 := by decide +kernel
theorem hdJ6_bitCount_0f7a4 : yJ6_bitCount_0f7a4.cls ≠ "java/lang/invoke/MethodHandle" ∧ yJ6_bitCount_0f7a4.cls ≠ "java/lang/invoke/VarHandle" ∧ (parseMethodDescriptor yJ6_bitCount_0f7a4.desc).map (fun d => d.parameters.length) = some 1 := by decide +kernel
theorem hdX2_howManyBefore : yX2_howManyBefore.cls = RX2 ∧ yX2_howManyBefore.cls ≠ "java/lang/invoke/MethodHandle" ∧ yX2_howManyBefore.cls ≠ "java/lang/invoke/VarHandle" ∧ (parseMethodDescriptor yX2_howManyBefore.desc).map (fun d => d.parameters.length) = some 2 := by decide +kernel
theorem hdX2_whoStands : yX2_whoStands.cls = RX2 ∧ yX2_whoStands.cls ≠ "java/lang/invoke/MethodHandle" ∧ yX2_whoStands.cls ≠ "java/lang/invoke/VarHandle" ∧ (parseMethodDescriptor yX2_whoStands.desc).map (fun d => d.parameters.length) = some 1 := by decide +kernel
theorem hdX2_hoursOfDay : yX2_hoursOfDay.cls = RX2 ∧ yX2_hoursOfDay.cls ≠ "java/lang/invoke/MethodHandle" ∧ yX2_hoursOfDay.cls ≠ "java/lang/invoke/VarHandle" ∧ (parseMethodDescriptor yX2_hoursOfDay.desc).map (fun d => d.parameters.length) = some 1 := by decide +kernel
theorem hdX2_hoursBehind : yX2_hoursBehind.cls = RX2 ∧ yX2_hoursBehind.cls ≠ "java/lang/invoke/MethodHandle" ∧ yX2_hoursBehind.cls ≠ "java/lang/invoke/VarHandle" ∧ (parseMethodDescriptor yX2_hoursBehind.desc).map (fun d => d.parameters.length) = some 2 := by decide +kernel
theorem hdX2_allDays : yX2_allDays.cls = RX2 ∧ yX2_allDays.cls ≠ "java/lang/invoke/MethodHandle" ∧ yX2_allDays.cls ≠ "java/lang/invoke/VarHandle" ∧ (parseMethodDescriptor yX2_allDays.desc).map (fun d => d.parameters.length) = some 0 := by decide +kernel
theorem hdX2_hoursPretendingAlways : yX2_hoursPretendingAlways.cls = RX2 ∧ yX2_hoursPretendingAlways.cls ≠ "java/lang/invoke/MethodHandle" ∧ yX2_hoursPretendingAlways.cls ≠ "java/lang/invoke/VarHandle" ∧ (parseMethodDescriptor yX2_hoursPretendingAlways.desc).map (fun d => d.parameters.length) = some 1 := by decide +kernel
set_option maxHeartbeats 4000000 in
set_option maxRecDepth 100000 in
theorem c_whoStands (l : Launch) (D : va_G) (cI : ClassId) (a0 : Nat) (a1 : Nat) (a2 : Nat) (a3 : Nat) (a4 : Nat) (a5 : Nat) (a6 : Nat) (Y : YS) (st : Nat → Int32) (d : Nat) (hok : OkY Y) (hd : d < 5) : Met l yX2_whoStands wsX2_whoStands ({ frames := 2, cells := 0, slots := 0, locals := 47 }) (PS D cI [.ref a0, .int (nI d)] (wRoll cI a0 a1 a2 a3 a4 a5 a6 Y st)) (vp_Si (fun r => r = nI (msk Y.P (std Y d)))) 0 0 (fun _ => False) := by
  refine zk_S (cc := cX2_whoStands) (maxL := 5) (ret := (some .int)) (by decide) rfl (Nat.le_of_ble_eq_true rfl) ?_
  intro pX eX sX mX bX tX cX hx hb hr hlocks hml hown hts hP hK ls hl
  have hl : lv_has ls 5 [(0, .ref a0), (1, .int (nI d))] := hl
  have hP : va_P D vwCl [(a0, .inr (2, [.int (nI Y.D), .int (nI Y.P), .int Y.db, .int Y.rm, .ref a1, .ref a2, .ref a3, .ref a4, .ref a5, .ref a6])), (a1, .inl (cI, 5, .inl Y.hard)), (a2, .inl (cI, 4, .inl Y.kind)), (a3, .inl (cI, 4, .inl Y.wit)), (a4, .inl (cI, 4, .inl Y.pat)), (a5, .inl (cI, 4, .inl Y.pret)), (a6, .inl (cI, 5, .inl st))] sX.heap := hP
  have f_40 := hts (.fieldLink RX2 40 "DunceSee$Roll" "room" "I") (by decide +kernel)
  have f_34 := hts (.fieldLink RX2 34 "DunceSee$Roll" "pupils" "I") (by decide +kernel)
  have inX2 : ∀ w ∈ wsX20, w ∈ wsX2_whoStands := fun w h => List.mem_cons_of_mem _ (List.mem_append_right _ h)
  have hD5 : Y.D ≤ 5 := hok.1
  have hP4 : Y.P ≤ 4 := hok.2
  refine lv_aload_n hx hb dX2_whoStands_0 rfl (lv_at hl 0 rfl) ?_
  refine lv_iload_n hx hb dX2_whoStands_1 rfl (lv_at hl 1 rfl) ?_
  refine zk_callVi (As := [.int (nI d)]) (rest := []) (nI (msk Y.P (wd Y d))) ⟨hx, hb, hml, hown, hts⟩ hK hP [0, 1, 2, 3, 4, 5, 6] rfl (c_whoWouldStand l D cI a0 a1 a2 a3 a4 a5 a6 Y st d hok hd) (cwV 1 hts gX2_whoStands_X2_whoWouldStand rfl rfl rfl hdX2_whoWouldStand ⟨Nat.le_of_ble_eq_true rfl, Nat.le_of_ble_eq_true rfl⟩) rfl rfl rfl hl.1 rfl (Nat.le_of_ble_eq_true rfl) dX2_whoStands_2 ⟨Nat.le_of_ble_eq_true rfl, Nat.le_of_ble_eq_true rfl⟩ ?_
  refine lv_istore_n (lv' := [(2, .int (nI (msk Y.P (wd Y d)))), (0, .ref a0), (1, .int (nI d))]) hx hb dX2_whoStands_5 rfl hl (by decide) rfl (fun ls hl => ?_)
  refine lv_iload_n hx hb dX2_whoStands_6 rfl (lv_at hl 0 rfl) ?_
  refine zk_callSi (As := [.int (nI (msk Y.P (wd Y d)))]) (rest := []) (nI (pop (msk Y.P (wd Y d)))) ⟨hx, hb, hml, hown, hts⟩ hK hP [] rfl (c_bitCount l D cI (msk Y.P (wd Y d)) (msk32 hP4)) (va_cwS 1 hts gX2_whoStands_J6_bitCount_0f7a4 rfl rfl rfl hdJ6_bitCount_0f7a4 ⟨Nat.le_of_ble_eq_true rfl, Nat.le_of_ble_eq_true rfl⟩) rfl hl.1 rfl (Nat.le_of_ble_eq_true rfl) dX2_whoStands_7 ⟨Nat.le_of_ble_eq_true rfl, Nat.le_of_ble_eq_true rfl⟩ ?_
  refine zk_top (y := nI (cnt Y.P (wd Y d))) (by rw [pop_msk (by omega)]) ?_
  refine lv_aload_n hx hb dX2_whoStands_10 rfl (lv_at hl 1 rfl) ?_
  refine va_get (D := D) (ci := 2) (v := .int Y.rm) (C := RX2) (T := TX2) (N := 10) hx hb hts inX2 hown hK.1 hP 0 rfl rfl 3 (by decide) f_40 (fun _ h9 => h9) rfl dX2_whoStands_11 ?_
  refine lv_icmp_gt (tgt := 19) hx hb dX2_whoStands_14 (by decide) (fun c_1 => ?_) (fun c_1 => ?_)
  · refine lv_iconst (v := nI 0) hx hb dX2_whoStands_19 (by decide) ?_
    refine lv_istore_n (lv' := [(3, .int (nI 0)), (2, .int (nI (msk Y.P (wd Y d)))), (0, .ref a0), (1, .int (nI d))]) hx hb dX2_whoStands_20 rfl hl (by decide) rfl (fun ls hl => ?_)
    refine lv_iconst (v := nI 0) hx hb dX2_whoStands_21 (by decide) ?_
    refine lv_istore (lv' := [(4, .int (nI 0)), (3, .int (nI 0)), (2, .int (nI (msk Y.P (wd Y d)))), (0, .ref a0), (1, .int (nI d))]) hx hb dX2_whoStands_22 hl (by decide) rfl (fun ls hl => ?_)
    have loop24 : ∀ (nL k : Nat), k ≤ Y.P → Y.P < k + nL → ∀ ls : Array Slot, lv_has ls 5 [(0, .ref a0), (1, .int (nI d)), (2, .int (nI (msk Y.P (wd Y d)))), (3, .int (nI (msk k (std Y d)))), (4, .int (nI k))] → W pX l eX ({ frames := 2, cells := 0, slots := 0, locals := 47 }) sX mX ([.ref a0, .int (nI d)] : List Value).toArray bX tX cX sX.heap [] 0 0 (MQ bX (vp_Si (fun r => r = nI (msk Y.P (std Y d)))) ([.ref a0, .int (nI d)] : List Value).toArray sX 0 0 (fun _ => False)) (F0 mX 24 ls []) := by
      intro nL
      induction nL with
      | zero => intro k  h1 h2; exact absurd h2 (by omega)
      | succ nL ih =>
        intro k  h_le h_n   ls hl
        have hbq := hbit_mskI (p := k) (n := Y.P) (by omega)
        refine lv_iload hx hb dX2_whoStands_24 (lv_at hl 4 rfl) ?_
        refine lv_aload_n hx hb dX2_whoStands_26 rfl (lv_at hl 0 rfl) ?_
        refine va_get (D := D) (ci := 2) (v := .int (nI Y.P)) (C := RX2) (T := TX2) (N := 10) hx hb hts inX2 hown hK.1 hP 0 rfl rfl 1 (by decide) f_34 (fun _ h9 => h9) rfl dX2_whoStands_27 ?_
        refine zk_icmp_ge (tgt := 69) hx hb dX2_whoStands_30 (by decide) (by omega) (by omega) (fun c_2 => ?_) (fun c_2 => ?_)
        · refine lv_iload_n hx hb dX2_whoStands_69 rfl (lv_at hl 3 rfl) ?_
          exact zk_retS hx hb hr (by rw [show k = Y.P by omega]) dX2_whoStands_70 hlocks
        · refine lv_iload_n hx hb dX2_whoStands_33 rfl (lv_at hl 2 rfl) ?_
          refine lv_iload hx hb dX2_whoStands_34 (lv_at hl 4 rfl) ?_
          refine zk_callSi (As := [.int (nI (msk Y.P (wd Y d))), .int (nI k)]) (rest := []) (bI (hbit (nI (msk Y.P (wd Y d))) k)) ⟨hx, hb, hml, hown, hts⟩ hK hP [] rfl (c_holds l D cI (nI (msk Y.P (wd Y d))) k ) (va_cwS 2 hts gX2_whoStands_X2_holds rfl rfl rfl hdX2_holds ⟨Nat.le_of_ble_eq_true rfl, Nat.le_of_ble_eq_true rfl⟩) rfl hl.1 rfl (Nat.le_of_ble_eq_true rfl) dX2_whoStands_36 ⟨Nat.le_of_ble_eq_true rfl, Nat.le_of_ble_eq_true rfl⟩ ?_
          refine zk_ifeqB (tgt := 63) hx hb dX2_whoStands_39 (by decide) (fun c_3 => ?_) (fun c_3 => ?_)
          · refine lv_iinc (v := nI (k + 1)) (lv' := [(4, .int (nI (k + 1))), (0, .ref a0), (1, .int (nI d)), (2, .int (nI (msk Y.P (wd Y d)))), (3, .int (nI (msk k (std Y d))))]) hx hb dX2_whoStands_63 hl (k := 4) rfl (by rw [show (Int32.ofInt 1) = nI 1 from by decide, nI_add]) (by decide) rfl (fun ls hl => ?_)
            refine lv_goto (tgt := 24) hx hb dX2_whoStands_66 (by decide) ?_
            have hl := lv_sub hl [1, 2, 3, 4, 0] rfl
            have e_3 : nI (msk k (std Y d)) = nI (msk (k + 1) (std Y d)) := msk_no (by have h8 := (hbq (by omega) (wd Y d)).symm.trans c_3; unfold std; rw [h8]; exact rfl)
            rw [e_3] at hl
            exact ih (k + 1)  (by omega) (by omega)   ls hl
          · refine lv_aload_n hx hb dX2_whoStands_42 rfl (lv_at hl 0 rfl) ?_
            refine lv_iload hx hb dX2_whoStands_43 (lv_at hl 4 rfl) ?_
            refine lv_iload_n hx hb dX2_whoStands_45 rfl (lv_at hl 2 rfl) ?_
            refine zk_callVi (As := [.int (nI k), .int (nI (msk Y.P (wd Y d)))]) (rest := []) (nI (cnt Y.P (fun q => snr Y q k && (wd Y d) q))) ⟨hx, hb, hml, hown, hts⟩ hK hP [0, 1, 2, 3, 4, 5, 6] rfl (c_howManyBefore l D cI a0 a1 a2 a3 a4 a5 a6 Y st k (wd Y d) hok (by omega)) (cwV 2 hts gX2_whoStands_X2_howManyBefore rfl rfl rfl hdX2_howManyBefore ⟨Nat.le_of_ble_eq_true rfl, Nat.le_of_ble_eq_true rfl⟩) rfl rfl rfl hl.1 rfl (Nat.le_of_ble_eq_true rfl) dX2_whoStands_46 ⟨Nat.le_of_ble_eq_true rfl, Nat.le_of_ble_eq_true rfl⟩ ?_
            refine lv_aload_n hx hb dX2_whoStands_49 rfl (lv_at hl 0 rfl) ?_
            refine va_get (D := D) (ci := 2) (v := .int Y.rm) (C := RX2) (T := TX2) (N := 10) hx hb hts inX2 hown hK.1 hP 0 rfl rfl 3 (by decide) f_40 (fun _ h9 => h9) rfl dX2_whoStands_50 ?_
            refine lv_icmp_ge (tgt := 63) hx hb dX2_whoStands_53 (by decide) (fun c_4 => ?_) (fun c_4 => ?_)
            · refine lv_iinc (v := nI (k + 1)) (lv' := [(4, .int (nI (k + 1))), (0, .ref a0), (1, .int (nI d)), (2, .int (nI (msk Y.P (wd Y d)))), (3, .int (nI (msk k (std Y d))))]) hx hb dX2_whoStands_63 hl (k := 4) rfl (by rw [show (Int32.ofInt 1) = nI 1 from by decide, nI_add]) (by decide) rfl (fun ls hl => ?_)
              refine lv_goto (tgt := 24) hx hb dX2_whoStands_66 (by decide) ?_
              have hl := lv_sub hl [1, 2, 3, 4, 0] rfl
              have e_3 : nI (msk k (std Y d)) = nI (msk (k + 1) (std Y d)) := msk_no (by have h8 := (hbq (by omega) (wd Y d)).symm.trans c_3; unfold std; rw [h8]; exact decide_eq_false (Int32.not_lt.mpr c_4))
              rw [e_3] at hl
              exact ih (k + 1)  (by omega) (by omega)   ls hl
            · have c_4 := Int32.not_le.mp c_4
              refine lv_iload_n hx hb dX2_whoStands_56 rfl (lv_at hl 3 rfl) ?_
              refine lv_iconst (v := nI 1) hx hb dX2_whoStands_57 (by decide) ?_
              refine lv_iload hx hb dX2_whoStands_58 (lv_at hl 4 rfl) ?_
              refine lv_ishl hx hb dX2_whoStands_60 ?_
              refine lv_ior hx hb dX2_whoStands_61 ?_
              refine lv_istore_n (lv' := [(3, .int ((nI (msk k (std Y d))) ||| ((nI 1) <<< ((nI k) &&& 31)))), (0, .ref a0), (1, .int (nI d)), (2, .int (nI (msk Y.P (wd Y d)))), (4, .int (nI k))]) hx hb dX2_whoStands_62 rfl hl (by decide) rfl (fun ls hl => ?_)
              refine lv_iinc (v := nI (k + 1)) (lv' := [(4, .int (nI (k + 1))), (3, .int ((nI (msk k (std Y d))) ||| ((nI 1) <<< ((nI k) &&& 31)))), (0, .ref a0), (1, .int (nI d)), (2, .int (nI (msk Y.P (wd Y d))))]) hx hb dX2_whoStands_63 hl (k := 4) rfl (by rw [show (Int32.ofInt 1) = nI 1 from by decide, nI_add]) (by decide) rfl (fun ls hl => ?_)
              refine lv_goto (tgt := 24) hx hb dX2_whoStands_66 (by decide) ?_
              have hl := lv_sub hl [2, 3, 4, 1, 0] rfl
              have e_3 : (nI (msk k (std Y d))) ||| ((nI 1) <<< ((nI k) &&& 31)) = nI (msk (k + 1) (std Y d)) := msk_or (by omega) (by have h8 := (hbq (by omega) (wd Y d)).symm.trans c_3; unfold std; rw [h8]; exact decide_eq_true c_4)
              rw [e_3] at hl
              exact ih (k + 1)  (by omega) (by omega)   ls hl
    have hl := lv_sub hl [3, 4, 2, 1, 0] rfl
    have e_3 : nI 0 = nI (msk 0 (std Y d)) := by rfl
    have hl : lv_has ls 5 [(0, .ref a0), (1, .int (nI d)), (2, .int (nI (msk Y.P (wd Y d)))), (3, .int (nI (msk 0 (std Y d)))), (4, .int (nI 0))] := by
      first | exact hl | (rw [← e_3]; exact hl) | (simp only [e_3] at hl ⊢; exact hl)
    exact loop24 (Y.P + 1) 0  (by omega) (by omega)   ls hl
  · have c_1 := Int32.not_lt.mp c_1
    refine lv_iload_n hx hb dX2_whoStands_17 rfl (lv_at hl 0 rfl) ?_
    exact zk_retS hx hb hr (congrArg nI (std_all (Int32.not_lt.mpr c_1) hP4)) dX2_whoStands_18 hlocks
set_option maxHeartbeats 4000000 in
set_option maxRecDepth 100000 in
theorem c_settle (l : Launch) (D : va_G) (cI : ClassId) (sz : Nat) (a0 : Nat) (a1 : Nat) (a2 : Nat) (a3 : Nat) (a4 : Nat) (a5 : Nat) (a6 : Nat) (Y : YS) (st : Nat → Int32) (hok : OkY Y) : Met l yX2_settle wsX2_settle ({ frames := 3, cells := 0, slots := 0, locals := 71 }) (PQ D cI [.ref a0] (wRoll cI a0 a1 a2 a3 a4 a5 a6 Y st) sz) (QV (S := Unit) D (fun _ => True) (fun _ => wRoll cI a0 a1 a2 a3 a4 a5 a6 Y (tab Y.D (fun d => nI (msk Y.P (std Y d))) st)) (va_A (wRoll cI a0 a1 a2 a3 a4 a5 a6 Y st) sz)) 0 0 (va_A (wRoll cI a0 a1 a2 a3 a4 a5 a6 Y st) sz) := by
  refine zk_Q (QV (S := Unit) D (fun _ => True) (fun _ => wRoll cI a0 a1 a2 a3 a4 a5 a6 Y (tab Y.D (fun d => nI (msk Y.P (std Y d))) st))) (cc := cX2_settle) (maxL := 2) (ret := none) (by decide) rfl (Nat.le_of_ble_eq_true rfl) ?_
  intro pX eX sX mX bX tX cX hx hb hr hlocks hml hown hmn hts hP hK A hA hD hS ls hl
  have hl : lv_has ls 2 [(0, .ref a0)] := hl
  have hP : va_P D vwCl [(a0, .inr (2, [.int (nI Y.D), .int (nI Y.P), .int Y.db, .int Y.rm, .ref a1, .ref a2, .ref a3, .ref a4, .ref a5, .ref a6])), (a1, .inl (cI, 5, .inl Y.hard)), (a2, .inl (cI, 4, .inl Y.kind)), (a3, .inl (cI, 4, .inl Y.wit)), (a4, .inl (cI, 4, .inl Y.pat)), (a5, .inl (cI, 4, .inl Y.pret)), (a6, .inl (cI, 5, .inl st))] sX.heap := hP
  have hD : va_D A [(a0, .inr (2, [.int (nI Y.D), .int (nI Y.P), .int Y.db, .int Y.rm, .ref a1, .ref a2, .ref a3, .ref a4, .ref a5, .ref a6])), (a1, .inl (cI, 5, .inl Y.hard)), (a2, .inl (cI, 4, .inl Y.kind)), (a3, .inl (cI, 4, .inl Y.wit)), (a4, .inl (cI, 4, .inl Y.pat)), (a5, .inl (cI, 4, .inl Y.pret)), (a6, .inl (cI, 5, .inl st))] := hD
  have f_30 := hts (.fieldLink RX2 30 "DunceSee$Roll" "days" "I") (by decide +kernel)
  have f_27 := hts (.fieldLink RX2 27 "DunceSee$Roll" "standing" "[I") (by decide +kernel)
  have inX2 : ∀ w ∈ wsX20, w ∈ wsX2_settle := fun w h => List.mem_cons_of_mem _ (List.mem_append_right _ h)
  have hD5 : Y.D ≤ 5 := hok.1
  have hP4 : Y.P ≤ 4 := hok.2
  refine lv_iconst (v := nI 0) hx hb dX2_settle_0 (by decide) ?_
  refine lv_istore_n (lv' := [(1, .int (nI 0)), (0, .ref a0)]) hx hb dX2_settle_1 rfl hl (by decide) rfl (fun ls hl => ?_)
  have loop2 : ∀ (nL k : Nat), k ≤ Y.D → Y.D < k + nL → ∀ (H : Heap) (locs : List Loc), va_P D vwCl [(a0, .inr (2, [.int (nI Y.D), .int (nI Y.P), .int Y.db, .int Y.rm, .ref a1, .ref a2, .ref a3, .ref a4, .ref a5, .ref a6])), (a1, .inl (cI, 5, .inl Y.hard)), (a2, .inl (cI, 4, .inl Y.kind)), (a3, .inl (cI, 4, .inl Y.wit)), (a4, .inl (cI, 4, .inl Y.pat)), (a5, .inl (cI, 4, .inl Y.pret)), (a6, .inl (cI, 5, .inl (tab k (fun d => nI (msk Y.P (std Y d))) st)))] H → va_D A [(a0, .inr (2, [.int (nI Y.D), .int (nI Y.P), .int Y.db, .int Y.rm, .ref a1, .ref a2, .ref a3, .ref a4, .ref a5, .ref a6])), (a1, .inl (cI, 5, .inl Y.hard)), (a2, .inl (cI, 4, .inl Y.kind)), (a3, .inl (cI, 4, .inl Y.wit)), (a4, .inl (cI, 4, .inl Y.pat)), (a5, .inl (cI, 4, .inl Y.pret)), (a6, .inl (cI, 5, .inl (tab k (fun d => nI (msk Y.P (std Y d))) st)))] → va_S A sX.heap H locs → ∀ ls : Array Slot, lv_has ls 2 [(0, .ref a0), (1, .int (nI k))] → W pX l eX ({ frames := 3, cells := 0, slots := 0, locals := 71 }) sX mX ([.ref a0] : List Value).toArray bX tX cX H locs 0 0 (MQ bX (QV (S := Unit) D (fun _ => True) (fun _ => wRoll cI a0 a1 a2 a3 a4 a5 a6 Y (tab Y.D (fun d => nI (msk Y.P (std Y d))) st)) A) ([.ref a0] : List Value).toArray sX 0 0 A) (F0 mX 2 ls []) := by
    intro nL
    induction nL with
    | zero => intro k  h1 h2; exact absurd h2 (by omega)
    | succ nL ih =>
      intro k  h_le h_n  H locs hP hD hS ls hl
      refine lv_iload_n hx hb dX2_settle_2 rfl (lv_at hl 1 rfl) ?_
      refine lv_aload_n hx hb dX2_settle_3 rfl (lv_at hl 0 rfl) ?_
      refine va_get (D := D) (ci := 2) (v := .int (nI Y.D)) (C := RX2) (T := TX2) (N := 10) hx hb hts inX2 hown hK.1 hP 0 rfl rfl 0 (by decide) f_30 (fun _ h9 => h9) rfl dX2_settle_4 ?_
      refine zk_icmp_ge (tgt := 27) hx hb dX2_settle_7 (by decide) (by omega) (by omega) (fun c_1 => ?_) (fun c_1 => ?_)
      · have e_k : k = Y.D := by omega
        subst e_k
        exact zk_retV hx hb hr hS (()) (trivial) hP hD dX2_settle_27 hlocks
      · refine lv_aload_n hx hb dX2_settle_10 rfl (lv_at hl 0 rfl) ?_
        refine va_get (D := D) (ci := 2) (v := .ref a6) (C := RX2) (T := TX2) (N := 10) hx hb hts inX2 hown hK.1 hP 0 rfl rfl 9 (by decide) f_27 (fun _ h9 => h9) rfl dX2_settle_11 ?_
        refine lv_iload_n hx hb dX2_settle_14 rfl (lv_at hl 1 rfl) ?_
        refine lv_aload_n hx hb dX2_settle_15 rfl (lv_at hl 0 rfl) ?_
        refine lv_iload_n hx hb dX2_settle_16 rfl (lv_at hl 1 rfl) ?_
        refine zk_callVi (As := [.int (nI k)]) (rest := [.int (nI k), .ref a6]) (nI (msk Y.P (std Y k))) ⟨hx, hb, hml, hown, hts⟩ hK hP [0, 1, 2, 3, 4, 5, 6] rfl (c_whoStands l D cI a0 a1 a2 a3 a4 a5 a6 Y (tab k (fun d => nI (msk Y.P (std Y d))) st) k hok (by omega)) (cwV 1 hts gX2_settle_X2_whoStands rfl rfl rfl hdX2_whoStands ⟨Nat.le_of_ble_eq_true rfl, Nat.le_of_ble_eq_true rfl⟩) rfl rfl rfl hl.1 rfl (Nat.le_of_ble_eq_true rfl) dX2_settle_17 ⟨Nat.le_of_ble_eq_true rfl, Nat.le_of_ble_eq_true rfl⟩ ?_
        refine zk_iast (x := nI (msk Y.P (std Y k))) hx hb hK hP hD hS 6 rfl (by omega) (by decide) dX2_settle_20 (fun H locs hP hD hS => ?_)
        have hP : va_P D vwCl [(a0, .inr (2, [.int (nI Y.D), .int (nI Y.P), .int Y.db, .int Y.rm, .ref a1, .ref a2, .ref a3, .ref a4, .ref a5, .ref a6])), (a1, .inl (cI, 5, .inl Y.hard)), (a2, .inl (cI, 4, .inl Y.kind)), (a3, .inl (cI, 4, .inl Y.wit)), (a4, .inl (cI, 4, .inl Y.pat)), (a5, .inl (cI, 4, .inl Y.pret)), (a6, .inl (cI, 5, .inl (upd (tab k (fun d => nI (msk Y.P (std Y d))) st) k (nI (msk Y.P (std Y k))))))] H := hP
        have hD : va_D A [(a0, .inr (2, [.int (nI Y.D), .int (nI Y.P), .int Y.db, .int Y.rm, .ref a1, .ref a2, .ref a3, .ref a4, .ref a5, .ref a6])), (a1, .inl (cI, 5, .inl Y.hard)), (a2, .inl (cI, 4, .inl Y.kind)), (a3, .inl (cI, 4, .inl Y.wit)), (a4, .inl (cI, 4, .inl Y.pat)), (a5, .inl (cI, 4, .inl Y.pret)), (a6, .inl (cI, 5, .inl (upd (tab k (fun d => nI (msk Y.P (std Y d))) st) k (nI (msk Y.P (std Y k))))))] := hD
        refine lv_iinc (v := nI (k + 1)) (lv' := [(1, .int (nI (k + 1))), (0, .ref a0)]) hx hb dX2_settle_21 hl (k := 1) rfl (by rw [show (Int32.ofInt 1) = nI 1 from by decide, nI_add]) (by decide) rfl (fun ls hl => ?_)
        refine lv_goto (tgt := 2) hx hb dX2_settle_24 (by decide) ?_
        rw [tab_s k (fun d => nI (msk Y.P (std Y d))) st] at hP hD
        exact ih (k + 1)  (by omega) (by omega)  _ _ hP hD hS ls (lv_sub hl [1, 0] rfl)
  rw [← tab_0 (fun d => nI (msk Y.P (std Y d))) st] at hP hD
  exact loop2 (Y.D + 1) 0  (by omega) (by omega)  _ _ hP hD hS ls (lv_sub hl [1, 0] rfl)
set_option maxHeartbeats 4000000 in
set_option maxRecDepth 100000 in
theorem c_hoursBehind (l : Launch) (D : va_G) (cI : ClassId) (a0 : Nat) (a1 : Nat) (a2 : Nat) (a3 : Nat) (a4 : Nat) (a5 : Nat) (a6 : Nat) (Y : YS) (st : Nat → Int32) (p : Nat) (t : Nat) (hok : OkY Y) (hp : p < 4) (ht : t ≤ 5) : Met l yX2_hoursBehind wsX2_hoursBehind ({ frames := 2, cells := 0, slots := 0, locals := 52 }) (PS D cI [.ref a0, .int (nI p), .int (nI t)] (wRoll cI a0 a1 a2 a3 a4 a5 a6 Y st)) (vp_Si (fun r => r = hbS Y st p t)) 0 0 (fun _ => False) := by
  refine zk_S (cc := cX2_hoursBehind) (maxL := 5) (ret := (some .int)) (by decide) rfl (Nat.le_of_ble_eq_true rfl) ?_
  intro pX eX sX mX bX tX cX hx hb hr hlocks hml hown hts hP hK ls hl
  have hl : lv_has ls 5 [(0, .ref a0), (1, .int (nI p)), (2, .int (nI t))] := hl
  have hP : va_P D vwCl [(a0, .inr (2, [.int (nI Y.D), .int (nI Y.P), .int Y.db, .int Y.rm, .ref a1, .ref a2, .ref a3, .ref a4, .ref a5, .ref a6])), (a1, .inl (cI, 5, .inl Y.hard)), (a2, .inl (cI, 4, .inl Y.kind)), (a3, .inl (cI, 4, .inl Y.wit)), (a4, .inl (cI, 4, .inl Y.pat)), (a5, .inl (cI, 4, .inl Y.pret)), (a6, .inl (cI, 5, .inl st))] sX.heap := hP
  have f_27 := hts (.fieldLink RX2 27 "DunceSee$Roll" "standing" "[I") (by decide +kernel)
  have inX2 : ∀ w ∈ wsX20, w ∈ wsX2_hoursBehind := fun w h => List.mem_cons_of_mem _ (List.mem_append_right _ h)
  have hD5 : Y.D ≤ 5 := hok.1
  have hP4 : Y.P ≤ 4 := hok.2
  refine lv_iconst (v := nI 0) hx hb dX2_hoursBehind_0 (by decide) ?_
  refine lv_istore_n (lv' := [(3, .int (nI 0)), (0, .ref a0), (1, .int (nI p)), (2, .int (nI t))]) hx hb dX2_hoursBehind_1 rfl hl (by decide) rfl (fun ls hl => ?_)
  refine lv_iconst (v := nI 0) hx hb dX2_hoursBehind_2 (by decide) ?_
  refine lv_istore (lv' := [(4, .int (nI 0)), (3, .int (nI 0)), (0, .ref a0), (1, .int (nI p)), (2, .int (nI t))]) hx hb dX2_hoursBehind_3 hl (by decide) rfl (fun ls hl => ?_)
  have loop5 : ∀ (nL k : Nat), k ≤ t → t < k + nL → ∀ ls : Array Slot, lv_has ls 5 [(0, .ref a0), (1, .int (nI p)), (2, .int (nI t)), (3, .int (nI (cnt k (fun d => hbit (st d) p)))), (4, .int (nI k))] → W pX l eX ({ frames := 2, cells := 0, slots := 0, locals := 52 }) sX mX ([.ref a0, .int (nI p), .int (nI t)] : List Value).toArray bX tX cX sX.heap [] 0 0 (MQ bX (vp_Si (fun r => r = hbS Y st p t)) ([.ref a0, .int (nI p), .int (nI t)] : List Value).toArray sX 0 0 (fun _ => False)) (F0 mX 5 ls []) := by
    intro nL
    induction nL with
    | zero => intro k  h1 h2; exact absurd h2 (by omega)
    | succ nL ih =>
      intro k  h_le h_n   ls hl
      refine lv_iload hx hb dX2_hoursBehind_5 (lv_at hl 4 rfl) ?_
      refine lv_iload_n hx hb dX2_hoursBehind_7 rfl (lv_at hl 2 rfl) ?_
      refine zk_icmp_ge (tgt := 34) hx hb dX2_hoursBehind_8 (by decide) (by omega) (by omega) (fun c_1 => ?_) (fun c_1 => ?_)
      · refine lv_iload_n hx hb dX2_hoursBehind_34 rfl (lv_at hl 3 rfl) ?_
        refine lv_aload_n hx hb dX2_hoursBehind_35 rfl (lv_at hl 0 rfl) ?_
        refine lv_iload_n hx hb dX2_hoursBehind_36 rfl (lv_at hl 1 rfl) ?_
        refine zk_callVi (As := [.int (nI p)]) (rest := [.int (nI (cnt k (fun d => hbit (st d) p)))]) (hrs Y p) ⟨hx, hb, hml, hown, hts⟩ hK hP [0, 1, 2, 3, 4, 5, 6] rfl (c_hoursOfDay l D cI a0 a1 a2 a3 a4 a5 a6 Y st p hok hp) (cwV 1 hts gX2_hoursBehind_X2_hoursOfDay rfl rfl rfl hdX2_hoursOfDay ⟨Nat.le_of_ble_eq_true rfl, Nat.le_of_ble_eq_true rfl⟩) rfl rfl rfl hl.1 rfl (Nat.le_of_ble_eq_true rfl) dX2_hoursBehind_37 ⟨Nat.le_of_ble_eq_true rfl, Nat.le_of_ble_eq_true rfl⟩ ?_
        refine lv_imul hx hb dX2_hoursBehind_40 ?_
        exact zk_retS hx hb hr (by rw [show k = t by omega]; rfl) dX2_hoursBehind_41 hlocks
      · refine lv_aload_n hx hb dX2_hoursBehind_11 rfl (lv_at hl 0 rfl) ?_
        refine va_get (D := D) (ci := 2) (v := .ref a6) (C := RX2) (T := TX2) (N := 10) hx hb hts inX2 hown hK.1 hP 0 rfl rfl 9 (by decide) f_27 (fun _ h9 => h9) rfl dX2_hoursBehind_12 ?_
        refine lv_iload hx hb dX2_hoursBehind_15 (lv_at hl 4 rfl) ?_
        refine zk_iald hx hb hK hP 6 rfl (by omega) (by decide) dX2_hoursBehind_17 ?_
        refine lv_iload_n hx hb dX2_hoursBehind_18 rfl (lv_at hl 1 rfl) ?_
        refine zk_callSi (As := [.int (st k), .int (nI p)]) (rest := []) (bI (hbit (st k) p)) ⟨hx, hb, hml, hown, hts⟩ hK hP [] rfl (c_holds l D cI (st k) p ) (va_cwS 2 hts gX2_hoursBehind_X2_holds rfl rfl rfl hdX2_holds ⟨Nat.le_of_ble_eq_true rfl, Nat.le_of_ble_eq_true rfl⟩) rfl hl.1 rfl (Nat.le_of_ble_eq_true rfl) dX2_hoursBehind_19 ⟨Nat.le_of_ble_eq_true rfl, Nat.le_of_ble_eq_true rfl⟩ ?_
        refine zk_ifeqB (tgt := 28) hx hb dX2_hoursBehind_22 (by decide) (fun c_2 => ?_) (fun c_2 => ?_)
        · refine lv_iinc (v := nI (k + 1)) (lv' := [(4, .int (nI (k + 1))), (0, .ref a0), (1, .int (nI p)), (2, .int (nI t)), (3, .int (nI (cnt k (fun d => hbit (st d) p))))]) hx hb dX2_hoursBehind_28 hl (k := 4) rfl (by rw [show (Int32.ofInt 1) = nI 1 from by decide, nI_add]) (by decide) rfl (fun ls hl => ?_)
          refine lv_goto (tgt := 5) hx hb dX2_hoursBehind_31 (by decide) ?_
          have hl := lv_sub hl [1, 2, 3, 4, 0] rfl
          have e_3 : nI (cnt k (fun d => hbit (st d) p)) = nI (cnt (k + 1) (fun d => hbit (st d) p)) := cnt_no (by simp [c_1, (Nat.not_le.mpr c_1), c_2])
          rw [e_3] at hl
          exact ih (k + 1)  (by omega) (by omega)   ls hl
        · refine lv_iinc (v := nI (cnt k (fun d => hbit (st d) p) + 1)) (lv' := [(3, .int (nI (cnt k (fun d => hbit (st d) p) + 1))), (0, .ref a0), (1, .int (nI p)), (2, .int (nI t)), (4, .int (nI k))]) hx hb dX2_hoursBehind_25 hl (k := 3) rfl (by rw [show (Int32.ofInt 1) = nI 1 from by decide, nI_add]) (by decide) rfl (fun ls hl => ?_)
          refine lv_iinc (v := nI (k + 1)) (lv' := [(4, .int (nI (k + 1))), (3, .int (nI (cnt k (fun d => hbit (st d) p) + 1))), (0, .ref a0), (1, .int (nI p)), (2, .int (nI t))]) hx hb dX2_hoursBehind_28 hl (k := 4) rfl (by rw [show (Int32.ofInt 1) = nI 1 from by decide, nI_add]) (by decide) rfl (fun ls hl => ?_)
          refine lv_goto (tgt := 5) hx hb dX2_hoursBehind_31 (by decide) ?_
          have hl := lv_sub hl [2, 3, 4, 1, 0] rfl
          have e_3 : nI (cnt k (fun d => hbit (st d) p) + 1) = nI (cnt (k + 1) (fun d => hbit (st d) p)) := cnt_in (by simp [c_1, (Nat.not_le.mpr c_1), c_2])
          rw [e_3] at hl
          exact ih (k + 1)  (by omega) (by omega)   ls hl
  have hl := lv_sub hl [2, 3, 4, 1, 0] rfl
  have e_3 : nI 0 = nI (cnt 0 (fun d => hbit (st d) p)) := by rfl
  have hl : lv_has ls 5 [(0, .ref a0), (1, .int (nI p)), (2, .int (nI t)), (3, .int (nI (cnt 0 (fun d => hbit (st d) p)))), (4, .int (nI 0))] := by
    first | exact hl | (rw [← e_3]; exact hl) | (simp only [e_3] at hl ⊢; exact hl)
  exact loop5 (t + 1) 0  (by omega) (by omega)   ls hl
set_option maxHeartbeats 4000000 in
set_option maxRecDepth 100000 in
theorem c_hoursOfAll (l : Launch) (D : va_G) (cI : ClassId) (a0 : Nat) (a1 : Nat) (a2 : Nat) (a3 : Nat) (a4 : Nat) (a5 : Nat) (a6 : Nat) (Y : YS) (st : Nat → Int32) (hok : OkY Y) : Met l yX2_hoursOfAll wsX2_hoursOfAll ({ frames := 3, cells := 0, slots := 0, locals := 76 }) (PS D cI [.ref a0] (wRoll cI a0 a1 a2 a3 a4 a5 a6 Y st)) (vp_Si (fun r => r = sumF (fun p => hbS Y st p Y.D) Y.P)) 0 0 (fun _ => False) := by
  refine zk_S (cc := cX2_hoursOfAll) (maxL := 3) (ret := (some .int)) (by decide) rfl (Nat.le_of_ble_eq_true rfl) ?_
  intro pX eX sX mX bX tX cX hx hb hr hlocks hml hown hts hP hK ls hl
  have hl : lv_has ls 3 [(0, .ref a0)] := hl
  have hP : va_P D vwCl [(a0, .inr (2, [.int (nI Y.D), .int (nI Y.P), .int Y.db, .int Y.rm, .ref a1, .ref a2, .ref a3, .ref a4, .ref a5, .ref a6])), (a1, .inl (cI, 5, .inl Y.hard)), (a2, .inl (cI, 4, .inl Y.kind)), (a3, .inl (cI, 4, .inl Y.wit)), (a4, .inl (cI, 4, .inl Y.pat)), (a5, .inl (cI, 4, .inl Y.pret)), (a6, .inl (cI, 5, .inl st))] sX.heap := hP
  have f_34 := hts (.fieldLink RX2 34 "DunceSee$Roll" "pupils" "I") (by decide +kernel)
  have f_30 := hts (.fieldLink RX2 30 "DunceSee$Roll" "days" "I") (by decide +kernel)
  have inX2 : ∀ w ∈ wsX20, w ∈ wsX2_hoursOfAll := fun w h => List.mem_cons_of_mem _ (List.mem_append_right _ h)
  have hD5 : Y.D ≤ 5 := hok.1
  have hP4 : Y.P ≤ 4 := hok.2
  refine lv_iconst (v := nI 0) hx hb dX2_hoursOfAll_0 (by decide) ?_
  refine lv_istore_n (lv' := [(1, .int (nI 0)), (0, .ref a0)]) hx hb dX2_hoursOfAll_1 rfl hl (by decide) rfl (fun ls hl => ?_)
  refine lv_iconst (v := nI 0) hx hb dX2_hoursOfAll_2 (by decide) ?_
  refine lv_istore_n (lv' := [(2, .int (nI 0)), (1, .int (nI 0)), (0, .ref a0)]) hx hb dX2_hoursOfAll_3 rfl hl (by decide) rfl (fun ls hl => ?_)
  have loop4 : ∀ (nL k : Nat), k ≤ Y.P → Y.P < k + nL → ∀ ls : Array Slot, lv_has ls 3 [(0, .ref a0), (1, .int (sumF (fun p => hbS Y st p Y.D) k)), (2, .int (nI k))] → W pX l eX ({ frames := 3, cells := 0, slots := 0, locals := 76 }) sX mX ([.ref a0] : List Value).toArray bX tX cX sX.heap [] 0 0 (MQ bX (vp_Si (fun r => r = sumF (fun p => hbS Y st p Y.D) Y.P)) ([.ref a0] : List Value).toArray sX 0 0 (fun _ => False)) (F0 mX 4 ls []) := by
    intro nL
    induction nL with
    | zero => intro k  h1 h2; exact absurd h2 (by omega)
    | succ nL ih =>
      intro k  h_le h_n   ls hl
      refine lv_iload_n hx hb dX2_hoursOfAll_4 rfl (lv_at hl 2 rfl) ?_
      refine lv_aload_n hx hb dX2_hoursOfAll_5 rfl (lv_at hl 0 rfl) ?_
      refine va_get (D := D) (ci := 2) (v := .int (nI Y.P)) (C := RX2) (T := TX2) (N := 10) hx hb hts inX2 hown hK.1 hP 0 rfl rfl 1 (by decide) f_34 (fun _ h9 => h9) rfl dX2_hoursOfAll_6 ?_
      refine zk_icmp_ge (tgt := 30) hx hb dX2_hoursOfAll_9 (by decide) (by omega) (by omega) (fun c_1 => ?_) (fun c_1 => ?_)
      · refine lv_iload_n hx hb dX2_hoursOfAll_30 rfl (lv_at hl 1 rfl) ?_
        exact zk_retS hx hb hr (by rw [show k = Y.P by omega]) dX2_hoursOfAll_31 hlocks
      · refine lv_iload_n hx hb dX2_hoursOfAll_12 rfl (lv_at hl 1 rfl) ?_
        refine lv_aload_n hx hb dX2_hoursOfAll_13 rfl (lv_at hl 0 rfl) ?_
        refine lv_iload_n hx hb dX2_hoursOfAll_14 rfl (lv_at hl 2 rfl) ?_
        refine lv_aload_n hx hb dX2_hoursOfAll_15 rfl (lv_at hl 0 rfl) ?_
        refine va_get (D := D) (ci := 2) (v := .int (nI Y.D)) (C := RX2) (T := TX2) (N := 10) hx hb hts inX2 hown hK.1 hP 0 rfl rfl 0 (by decide) f_30 (fun _ h9 => h9) rfl dX2_hoursOfAll_16 ?_
        refine zk_callVi (As := [.int (nI k), .int (nI Y.D)]) (rest := [.int (sumF (fun p => hbS Y st p Y.D) k)]) (hbS Y st k Y.D) ⟨hx, hb, hml, hown, hts⟩ hK hP [0, 1, 2, 3, 4, 5, 6] rfl (c_hoursBehind l D cI a0 a1 a2 a3 a4 a5 a6 Y st k Y.D hok (by omega) hD5) (cwV 2 hts gX2_hoursOfAll_X2_hoursBehind rfl rfl rfl hdX2_hoursBehind ⟨Nat.le_of_ble_eq_true rfl, Nat.le_of_ble_eq_true rfl⟩) rfl rfl rfl hl.1 rfl (Nat.le_of_ble_eq_true rfl) dX2_hoursOfAll_19 ⟨Nat.le_of_ble_eq_true rfl, Nat.le_of_ble_eq_true rfl⟩ ?_
        refine lv_iadd hx hb dX2_hoursOfAll_22 ?_
        refine lv_istore_n (lv' := [(1, .int ((sumF (fun p => hbS Y st p Y.D) k) + (hbS Y st k Y.D))), (0, .ref a0), (2, .int (nI k))]) hx hb dX2_hoursOfAll_23 rfl hl (by decide) rfl (fun ls hl => ?_)
        refine lv_iinc (v := nI (k + 1)) (lv' := [(2, .int (nI (k + 1))), (1, .int ((sumF (fun p => hbS Y st p Y.D) k) + (hbS Y st k Y.D))), (0, .ref a0)]) hx hb dX2_hoursOfAll_24 hl (k := 2) rfl (by rw [show (Int32.ofInt 1) = nI 1 from by decide, nI_add]) (by decide) rfl (fun ls hl => ?_)
        refine lv_goto (tgt := 4) hx hb dX2_hoursOfAll_27 (by decide) ?_
        have hl := lv_sub hl [2, 1, 0] rfl
        have e_1 : (sumF (fun p => hbS Y st p Y.D) k) + (hbS Y st k Y.D) = sumF (fun p => hbS Y st p Y.D) (k + 1) := rfl
        rw [e_1] at hl
        exact ih (k + 1)  (by omega) (by omega)   ls hl
  have hl := lv_sub hl [2, 1, 0] rfl
  have e_1 : nI 0 = sumF (fun p => hbS Y st p Y.D) 0 := by rfl
  have hl : lv_has ls 3 [(0, .ref a0), (1, .int (sumF (fun p => hbS Y st p Y.D) 0)), (2, .int (nI 0))] := by
    first | exact hl | (rw [← e_1]; exact hl) | (simp only [e_1] at hl ⊢; exact hl)
  exact loop4 (Y.P + 1) 0  (by omega) (by omega)   ls hl
set_option maxHeartbeats 4000000 in
set_option maxRecDepth 100000 in
theorem c_longestStander (l : Launch) (D : va_G) (cI : ClassId) (a0 : Nat) (a1 : Nat) (a2 : Nat) (a3 : Nat) (a4 : Nat) (a5 : Nat) (a6 : Nat) (Y : YS) (st : Nat → Int32) (hok : OkY Y) : Met l yX2_longestStander wsX2_longestStander ({ frames := 3, cells := 0, slots := 0, locals := 76 }) (PS D cI [.ref a0] (wRoll cI a0 a1 a2 a3 a4 a5 a6 Y st)) (vp_Si (fun r => r = (bstF (fun p => hbS Y st p Y.D) Y.P).1)) 0 0 (fun _ => False) := by
  refine zk_S (cc := cX2_longestStander) (maxL := 5) (ret := (some .int)) (by decide) rfl (Nat.le_of_ble_eq_true rfl) ?_
  intro pX eX sX mX bX tX cX hx hb hr hlocks hml hown hts hP hK ls hl
  have hl : lv_has ls 5 [(0, .ref a0)] := hl
  have hP : va_P D vwCl [(a0, .inr (2, [.int (nI Y.D), .int (nI Y.P), .int Y.db, .int Y.rm, .ref a1, .ref a2, .ref a3, .ref a4, .ref a5, .ref a6])), (a1, .inl (cI, 5, .inl Y.hard)), (a2, .inl (cI, 4, .inl Y.kind)), (a3, .inl (cI, 4, .inl Y.wit)), (a4, .inl (cI, 4, .inl Y.pat)), (a5, .inl (cI, 4, .inl Y.pret)), (a6, .inl (cI, 5, .inl st))] sX.heap := hP
  have f_34 := hts (.fieldLink RX2 34 "DunceSee$Roll" "pupils" "I") (by decide +kernel)
  have f_30 := hts (.fieldLink RX2 30 "DunceSee$Roll" "days" "I") (by decide +kernel)
  have inX2 : ∀ w ∈ wsX20, w ∈ wsX2_longestStander := fun w h => List.mem_cons_of_mem _ (List.mem_append_right _ h)
  have hD5 : Y.D ≤ 5 := hok.1
  have hP4 : Y.P ≤ 4 := hok.2
  refine lv_bipush (v := (-9)) hx hb dX2_longestStander_0 (by decide) ?_
  refine lv_istore_n (lv' := [(1, .int (-9)), (0, .ref a0)]) hx hb dX2_longestStander_2 rfl hl (by decide) rfl (fun ls hl => ?_)
  refine lv_iconst (v := nI 0) hx hb dX2_longestStander_3 (by decide) ?_
  refine lv_istore_n (lv' := [(2, .int (nI 0)), (1, .int (-9)), (0, .ref a0)]) hx hb dX2_longestStander_4 rfl hl (by decide) rfl (fun ls hl => ?_)
  refine lv_iconst (v := nI 0) hx hb dX2_longestStander_5 (by decide) ?_
  refine lv_istore_n (lv' := [(3, .int (nI 0)), (2, .int (nI 0)), (1, .int (-9)), (0, .ref a0)]) hx hb dX2_longestStander_6 rfl hl (by decide) rfl (fun ls hl => ?_)
  have loop7 : ∀ (nL k : Nat), k ≤ Y.P → Y.P < k + nL → ∀ ls : Array Slot, lv_has ls 5 [(0, .ref a0), (1, .int ((bstF (fun p => hbS Y st p Y.D) k).1)), (2, .int ((bstF (fun p => hbS Y st p Y.D) k).2)), (3, .int (nI k))] → W pX l eX ({ frames := 3, cells := 0, slots := 0, locals := 76 }) sX mX ([.ref a0] : List Value).toArray bX tX cX sX.heap [] 0 0 (MQ bX (vp_Si (fun r => r = (bstF (fun p => hbS Y st p Y.D) Y.P).1)) ([.ref a0] : List Value).toArray sX 0 0 (fun _ => False)) (F0 mX 7 ls []) := by
    intro nL
    induction nL with
    | zero => intro k  h1 h2; exact absurd h2 (by omega)
    | succ nL ih =>
      intro k  h_le h_n   ls hl
      refine lv_iload_n hx hb dX2_longestStander_7 rfl (lv_at hl 3 rfl) ?_
      refine lv_aload_n hx hb dX2_longestStander_8 rfl (lv_at hl 0 rfl) ?_
      refine va_get (D := D) (ci := 2) (v := .int (nI Y.P)) (C := RX2) (T := TX2) (N := 10) hx hb hts inX2 hown hK.1 hP 0 rfl rfl 1 (by decide) f_34 (fun _ h9 => h9) rfl dX2_longestStander_9 ?_
      refine zk_icmp_ge (tgt := 43) hx hb dX2_longestStander_12 (by decide) (by omega) (by omega) (fun c_1 => ?_) (fun c_1 => ?_)
      · refine lv_iload_n hx hb dX2_longestStander_43 rfl (lv_at hl 1 rfl) ?_
        exact zk_retS hx hb hr (by rw [show k = Y.P by omega]) dX2_longestStander_44 hlocks
      · refine lv_aload_n hx hb dX2_longestStander_15 rfl (lv_at hl 0 rfl) ?_
        refine lv_iload_n hx hb dX2_longestStander_16 rfl (lv_at hl 3 rfl) ?_
        refine lv_aload_n hx hb dX2_longestStander_17 rfl (lv_at hl 0 rfl) ?_
        refine va_get (D := D) (ci := 2) (v := .int (nI Y.D)) (C := RX2) (T := TX2) (N := 10) hx hb hts inX2 hown hK.1 hP 0 rfl rfl 0 (by decide) f_30 (fun _ h9 => h9) rfl dX2_longestStander_18 ?_
        refine zk_callVi (As := [.int (nI k), .int (nI Y.D)]) (rest := []) (hbS Y st k Y.D) ⟨hx, hb, hml, hown, hts⟩ hK hP [0, 1, 2, 3, 4, 5, 6] rfl (c_hoursBehind l D cI a0 a1 a2 a3 a4 a5 a6 Y st k Y.D hok (by omega) hD5) (cwV 2 hts gX2_longestStander_X2_hoursBehind rfl rfl rfl hdX2_hoursBehind ⟨Nat.le_of_ble_eq_true rfl, Nat.le_of_ble_eq_true rfl⟩) rfl rfl rfl hl.1 rfl (Nat.le_of_ble_eq_true rfl) dX2_longestStander_21 ⟨Nat.le_of_ble_eq_true rfl, Nat.le_of_ble_eq_true rfl⟩ ?_
        refine lv_istore (lv' := [(4, .int (hbS Y st k Y.D)), (0, .ref a0), (1, .int ((bstF (fun p => hbS Y st p Y.D) k).1)), (2, .int ((bstF (fun p => hbS Y st p Y.D) k).2)), (3, .int (nI k))]) hx hb dX2_longestStander_24 hl (by decide) rfl (fun ls hl => ?_)
        refine lv_iload hx hb dX2_longestStander_26 (lv_at hl 0 rfl) ?_
        refine lv_iload_n hx hb dX2_longestStander_28 rfl (lv_at hl 3 rfl) ?_
        refine lv_icmp_le (tgt := 37) hx hb dX2_longestStander_29 (by decide) (fun c_2 => ?_) (fun c_2 => ?_)
        · refine lv_iinc (v := nI (k + 1)) (lv' := [(3, .int (nI (k + 1))), (4, .int (hbS Y st k Y.D)), (0, .ref a0), (1, .int ((bstF (fun p => hbS Y st p Y.D) k).1)), (2, .int ((bstF (fun p => hbS Y st p Y.D) k).2))]) hx hb dX2_longestStander_37 hl (k := 4) rfl (by rw [show (Int32.ofInt 1) = nI 1 from by decide, nI_add]) (by decide) rfl (fun ls hl => ?_)
          refine lv_goto (tgt := 7) hx hb dX2_longestStander_40 (by decide) ?_
          have hl := lv_sub hl [2, 3, 4, 0] rfl
          have e_1 : (bstF (fun p => hbS Y st p Y.D) k).1 = (bstF (fun p => hbS Y st p Y.D) (k + 1)).1 := by rw [bstF]; rw [if_neg (Int32.not_lt.mpr c_2)]
          have e_2 : (bstF (fun p => hbS Y st p Y.D) k).2 = (bstF (fun p => hbS Y st p Y.D) (k + 1)).2 := by rw [bstF]; rw [if_neg (Int32.not_lt.mpr c_2)]
          rw [e_1, e_2] at hl
          exact ih (k + 1)  (by omega) (by omega)   ls hl
        · have c_2 := Int32.not_le.mp c_2
          refine lv_iload hx hb dX2_longestStander_32 (lv_at hl 0 rfl) ?_
          refine lv_istore_n (lv' := [(2, .int (hbS Y st k Y.D)), (4, .int (hbS Y st k Y.D)), (0, .ref a0), (1, .int ((bstF (fun p => hbS Y st p Y.D) k).1)), (3, .int (nI k))]) hx hb dX2_longestStander_34 rfl hl (by decide) rfl (fun ls hl => ?_)
          refine lv_iload_n hx hb dX2_longestStander_35 rfl (lv_at hl 4 rfl) ?_
          refine lv_istore_n (lv' := [(1, .int (nI k)), (2, .int (hbS Y st k Y.D)), (4, .int (hbS Y st k Y.D)), (0, .ref a0), (3, .int (nI k))]) hx hb dX2_longestStander_36 rfl hl (by decide) rfl (fun ls hl => ?_)
          refine lv_iinc (v := nI (k + 1)) (lv' := [(3, .int (nI (k + 1))), (1, .int (nI k)), (2, .int (hbS Y st k Y.D)), (4, .int (hbS Y st k Y.D)), (0, .ref a0)]) hx hb dX2_longestStander_37 hl (k := 4) rfl (by rw [show (Int32.ofInt 1) = nI 1 from by decide, nI_add]) (by decide) rfl (fun ls hl => ?_)
          refine lv_goto (tgt := 7) hx hb dX2_longestStander_40 (by decide) ?_
          have hl := lv_sub hl [4, 1, 2, 0] rfl
          have e_1 : nI k = (bstF (fun p => hbS Y st p Y.D) (k + 1)).1 := by rw [bstF]; rw [if_pos c_2]
          have e_2 : hbS Y st k Y.D = (bstF (fun p => hbS Y st p Y.D) (k + 1)).2 := by rw [bstF]; rw [if_pos c_2]
          rw [e_1, e_2] at hl
          exact ih (k + 1)  (by omega) (by omega)   ls hl
  have hl := lv_sub hl [3, 2, 1, 0] rfl
  have e_1 : (-9) = (bstF (fun p => hbS Y st p Y.D) 0).1 := by rfl
  have e_2 : nI 0 = (bstF (fun p => hbS Y st p Y.D) 0).2 := by rfl
  have hl : lv_has ls 5 [(0, .ref a0), (1, .int ((bstF (fun p => hbS Y st p Y.D) 0).1)), (2, .int ((bstF (fun p => hbS Y st p Y.D) 0).2)), (3, .int (nI 0))] := by
    first | exact hl | (rw [← e_1, ← e_2]; exact hl) | (simp only [e_1, e_2] at hl ⊢; exact hl)
  exact loop7 (Y.P + 1) 0  (by omega) (by omega)   ls hl
set_option maxHeartbeats 4000000 in
set_option maxRecDepth 100000 in
theorem c_crowdedDays (l : Launch) (D : va_G) (cI : ClassId) (a0 : Nat) (a1 : Nat) (a2 : Nat) (a3 : Nat) (a4 : Nat) (a5 : Nat) (a6 : Nat) (Y : YS) (st : Nat → Int32) (hok : OkY Y) : Met l yX2_crowdedDays wsX2_crowdedDays ({ frames := 2, cells := 0, slots := 0, locals := 47 }) (PS D cI [.ref a0] (wRoll cI a0 a1 a2 a3 a4 a5 a6 Y st)) (vp_Si (fun r => r = nI (msk Y.D (fun d => decide (Y.rm < nI (cnt Y.P (wd Y d))))))) 0 0 (fun _ => False) := by
  refine zk_S (cc := cX2_crowdedDays) (maxL := 3) (ret := (some .int)) (by decide) rfl (Nat.le_of_ble_eq_true rfl) ?_
  intro pX eX sX mX bX tX cX hx hb hr hlocks hml hown hts hP hK ls hl
  have hl : lv_has ls 3 [(0, .ref a0)] := hl
  have hP : va_P D vwCl [(a0, .inr (2, [.int (nI Y.D), .int (nI Y.P), .int Y.db, .int Y.rm, .ref a1, .ref a2, .ref a3, .ref a4, .ref a5, .ref a6])), (a1, .inl (cI, 5, .inl Y.hard)), (a2, .inl (cI, 4, .inl Y.kind)), (a3, .inl (cI, 4, .inl Y.wit)), (a4, .inl (cI, 4, .inl Y.pat)), (a5, .inl (cI, 4, .inl Y.pret)), (a6, .inl (cI, 5, .inl st))] sX.heap := hP
  have f_30 := hts (.fieldLink RX2 30 "DunceSee$Roll" "days" "I") (by decide +kernel)
  have f_40 := hts (.fieldLink RX2 40 "DunceSee$Roll" "room" "I") (by decide +kernel)
  have inX2 : ∀ w ∈ wsX20, w ∈ wsX2_crowdedDays := fun w h => List.mem_cons_of_mem _ (List.mem_append_right _ h)
  have hD5 : Y.D ≤ 5 := hok.1
  have hP4 : Y.P ≤ 4 := hok.2
  refine lv_iconst (v := nI 0) hx hb dX2_crowdedDays_0 (by decide) ?_
  refine lv_istore_n (lv' := [(1, .int (nI 0)), (0, .ref a0)]) hx hb dX2_crowdedDays_1 rfl hl (by decide) rfl (fun ls hl => ?_)
  refine lv_iconst (v := nI 0) hx hb dX2_crowdedDays_2 (by decide) ?_
  refine lv_istore_n (lv' := [(2, .int (nI 0)), (1, .int (nI 0)), (0, .ref a0)]) hx hb dX2_crowdedDays_3 rfl hl (by decide) rfl (fun ls hl => ?_)
  have loop4 : ∀ (nL k : Nat), k ≤ Y.D → Y.D < k + nL → ∀ ls : Array Slot, lv_has ls 3 [(0, .ref a0), (1, .int (nI (msk k (fun d => decide (Y.rm < nI (cnt Y.P (wd Y d))))))), (2, .int (nI k))] → W pX l eX ({ frames := 2, cells := 0, slots := 0, locals := 47 }) sX mX ([.ref a0] : List Value).toArray bX tX cX sX.heap [] 0 0 (MQ bX (vp_Si (fun r => r = nI (msk Y.D (fun d => decide (Y.rm < nI (cnt Y.P (wd Y d))))))) ([.ref a0] : List Value).toArray sX 0 0 (fun _ => False)) (F0 mX 4 ls []) := by
    intro nL
    induction nL with
    | zero => intro k  h1 h2; exact absurd h2 (by omega)
    | succ nL ih =>
      intro k  h_le h_n   ls hl
      refine lv_iload_n hx hb dX2_crowdedDays_4 rfl (lv_at hl 2 rfl) ?_
      refine lv_aload_n hx hb dX2_crowdedDays_5 rfl (lv_at hl 0 rfl) ?_
      refine va_get (D := D) (ci := 2) (v := .int (nI Y.D)) (C := RX2) (T := TX2) (N := 10) hx hb hts inX2 hown hK.1 hP 0 rfl rfl 0 (by decide) f_30 (fun _ h9 => h9) rfl dX2_crowdedDays_6 ?_
      refine zk_icmp_ge (tgt := 39) hx hb dX2_crowdedDays_9 (by decide) (by omega) (by omega) (fun c_1 => ?_) (fun c_1 => ?_)
      · refine lv_iload_n hx hb dX2_crowdedDays_39 rfl (lv_at hl 1 rfl) ?_
        exact zk_retS hx hb hr (by rw [show k = Y.D by omega]) dX2_crowdedDays_40 hlocks
      · refine lv_aload_n hx hb dX2_crowdedDays_12 rfl (lv_at hl 0 rfl) ?_
        refine lv_iload_n hx hb dX2_crowdedDays_13 rfl (lv_at hl 2 rfl) ?_
        refine zk_callVi (As := [.int (nI k)]) (rest := []) (nI (msk Y.P (wd Y k))) ⟨hx, hb, hml, hown, hts⟩ hK hP [0, 1, 2, 3, 4, 5, 6] rfl (c_whoWouldStand l D cI a0 a1 a2 a3 a4 a5 a6 Y st k hok (by omega)) (cwV 1 hts gX2_crowdedDays_X2_whoWouldStand rfl rfl rfl hdX2_whoWouldStand ⟨Nat.le_of_ble_eq_true rfl, Nat.le_of_ble_eq_true rfl⟩) rfl rfl rfl hl.1 rfl (Nat.le_of_ble_eq_true rfl) dX2_crowdedDays_14 ⟨Nat.le_of_ble_eq_true rfl, Nat.le_of_ble_eq_true rfl⟩ ?_
        refine zk_callSi (As := [.int (nI (msk Y.P (wd Y k)))]) (rest := []) (nI (pop (msk Y.P (wd Y k)))) ⟨hx, hb, hml, hown, hts⟩ hK hP [] rfl (c_bitCount l D cI (msk Y.P (wd Y k)) (msk32 hP4)) (va_cwS 1 hts gX2_crowdedDays_J6_bitCount_0f7a4 rfl rfl rfl hdJ6_bitCount_0f7a4 ⟨Nat.le_of_ble_eq_true rfl, Nat.le_of_ble_eq_true rfl⟩) rfl hl.1 rfl (Nat.le_of_ble_eq_true rfl) dX2_crowdedDays_17 ⟨Nat.le_of_ble_eq_true rfl, Nat.le_of_ble_eq_true rfl⟩ ?_
        refine zk_top (y := nI (cnt Y.P (wd Y k))) (by rw [pop_msk (by omega)]) ?_
        refine lv_aload_n hx hb dX2_crowdedDays_20 rfl (lv_at hl 0 rfl) ?_
        refine va_get (D := D) (ci := 2) (v := .int Y.rm) (C := RX2) (T := TX2) (N := 10) hx hb hts inX2 hown hK.1 hP 0 rfl rfl 3 (by decide) f_40 (fun _ h9 => h9) rfl dX2_crowdedDays_21 ?_
        refine lv_icmp_le (tgt := 33) hx hb dX2_crowdedDays_24 (by decide) (fun c_2 => ?_) (fun c_2 => ?_)
        · refine lv_iinc (v := nI (k + 1)) (lv' := [(2, .int (nI (k + 1))), (0, .ref a0), (1, .int (nI (msk k (fun d => decide (Y.rm < nI (cnt Y.P (wd Y d)))))))]) hx hb dX2_crowdedDays_33 hl (k := 2) rfl (by rw [show (Int32.ofInt 1) = nI 1 from by decide, nI_add]) (by decide) rfl (fun ls hl => ?_)
          refine lv_goto (tgt := 4) hx hb dX2_crowdedDays_36 (by decide) ?_
          have hl := lv_sub hl [1, 2, 0] rfl
          have e_1 : nI (msk k (fun d => decide (Y.rm < nI (cnt Y.P (wd Y d))))) = nI (msk (k + 1) (fun d => decide (Y.rm < nI (cnt Y.P (wd Y d))))) := msk_no (by simp [c_1, (Nat.not_le.mpr c_1), c_2, (Int32.not_lt.mpr c_2)])
          rw [e_1] at hl
          exact ih (k + 1)  (by omega) (by omega)   ls hl
        · have c_2 := Int32.not_le.mp c_2
          refine lv_iload_n hx hb dX2_crowdedDays_27 rfl (lv_at hl 1 rfl) ?_
          refine lv_iconst (v := nI 1) hx hb dX2_crowdedDays_28 (by decide) ?_
          refine lv_iload_n hx hb dX2_crowdedDays_29 rfl (lv_at hl 2 rfl) ?_
          refine lv_ishl hx hb dX2_crowdedDays_30 ?_
          refine lv_ior hx hb dX2_crowdedDays_31 ?_
          refine lv_istore_n (lv' := [(1, .int ((nI (msk k (fun d => decide (Y.rm < nI (cnt Y.P (wd Y d)))))) ||| ((nI 1) <<< ((nI k) &&& 31)))), (0, .ref a0), (2, .int (nI k))]) hx hb dX2_crowdedDays_32 rfl hl (by decide) rfl (fun ls hl => ?_)
          refine lv_iinc (v := nI (k + 1)) (lv' := [(2, .int (nI (k + 1))), (1, .int ((nI (msk k (fun d => decide (Y.rm < nI (cnt Y.P (wd Y d)))))) ||| ((nI 1) <<< ((nI k) &&& 31)))), (0, .ref a0)]) hx hb dX2_crowdedDays_33 hl (k := 2) rfl (by rw [show (Int32.ofInt 1) = nI 1 from by decide, nI_add]) (by decide) rfl (fun ls hl => ?_)
          refine lv_goto (tgt := 4) hx hb dX2_crowdedDays_36 (by decide) ?_
          have hl := lv_sub hl [2, 1, 0] rfl
          have e_1 : (nI (msk k (fun d => decide (Y.rm < nI (cnt Y.P (wd Y d)))))) ||| ((nI 1) <<< ((nI k) &&& 31)) = nI (msk (k + 1) (fun d => decide (Y.rm < nI (cnt Y.P (wd Y d))))) := msk_or (by omega) (by simp [c_1, (Nat.not_le.mpr c_1), c_2, (Int32.not_le.mpr c_2)])
          rw [e_1] at hl
          exact ih (k + 1)  (by omega) (by omega)   ls hl
  have hl := lv_sub hl [2, 1, 0] rfl
  have e_1 : nI 0 = nI (msk 0 (fun d => decide (Y.rm < nI (cnt Y.P (wd Y d))))) := by rfl
  have hl : lv_has ls 3 [(0, .ref a0), (1, .int (nI (msk 0 (fun d => decide (Y.rm < nI (cnt Y.P (wd Y d))))))), (2, .int (nI 0))] := by
    first | exact hl | (rw [← e_1]; exact hl) | (simp only [e_1] at hl ⊢; exact hl)
  exact loop4 (Y.D + 1) 0  (by omega) (by omega)   ls hl
set_option maxHeartbeats 4000000 in
set_option maxRecDepth 100000 in
theorem c_always (l : Launch) (D : va_G) (cI : ClassId) (sz : Nat) (a0 : Nat) (a1 : Nat) (a2 : Nat) (a3 : Nat) (a4 : Nat) (a5 : Nat) (a6 : Nat) (Y : YS) (st : Nat → Int32) (p : Nat) (hok : OkY Y) (hp : p < Y.P) : Met l yX2_hoursPretendingAlways wsX2_hoursPretendingAlways ({ frames := 3, cells := 0, slots := 0, locals := 71 }) (PQ D cI [.ref a0, .int (nI p)] (wRoll cI a0 a1 a2 a3 a4 a5 a6 Y st) sz) (QI (S := Unit) D (fun r _ => r = nI (cnt Y.D (fun d => std (Y.sPret (upd Y.pret p (nI (aD Y.D)))) d p)) * hrs Y p) (fun _ => wRoll cI a0 a1 a2 a3 a4 a5 a6 Y st) (va_A (wRoll cI a0 a1 a2 a3 a4 a5 a6 Y st) sz)) 0 0 (va_A (wRoll cI a0 a1 a2 a3 a4 a5 a6 Y st) sz) := by
  refine zk_Q (QI (S := Unit) D (fun r _ => r = nI (cnt Y.D (fun d => std (Y.sPret (upd Y.pret p (nI (aD Y.D)))) d p)) * hrs Y p) (fun _ => wRoll cI a0 a1 a2 a3 a4 a5 a6 Y st)) (cc := cX2_hoursPretendingAlways) (maxL := 5) (ret := (some .int)) (by decide) rfl (Nat.le_of_ble_eq_true rfl) ?_
  intro pX eX sX mX bX tX cX hx hb hr hlocks hml hown hmn hts hP hK A hA hD hS ls hl
  have hl : lv_has ls 5 [(0, .ref a0), (1, .int (nI p))] := hl
  have hP : va_P D vwCl [(a0, .inr (2, [.int (nI Y.D), .int (nI Y.P), .int Y.db, .int Y.rm, .ref a1, .ref a2, .ref a3, .ref a4, .ref a5, .ref a6])), (a1, .inl (cI, 5, .inl Y.hard)), (a2, .inl (cI, 4, .inl Y.kind)), (a3, .inl (cI, 4, .inl Y.wit)), (a4, .inl (cI, 4, .inl Y.pat)), (a5, .inl (cI, 4, .inl Y.pret)), (a6, .inl (cI, 5, .inl st))] sX.heap := hP
  have hD : va_D A [(a0, .inr (2, [.int (nI Y.D), .int (nI Y.P), .int Y.db, .int Y.rm, .ref a1, .ref a2, .ref a3, .ref a4, .ref a5, .ref a6])), (a1, .inl (cI, 5, .inl Y.hard)), (a2, .inl (cI, 4, .inl Y.kind)), (a3, .inl (cI, 4, .inl Y.wit)), (a4, .inl (cI, 4, .inl Y.pat)), (a5, .inl (cI, 4, .inl Y.pret)), (a6, .inl (cI, 5, .inl st))] := hD
  have f_24 := hts (.fieldLink RX2 24 "DunceSee$Roll" "pretendsOf" "[I") (by decide +kernel)
  have f_30 := hts (.fieldLink RX2 30 "DunceSee$Roll" "days" "I") (by decide +kernel)
  have inX2 : ∀ w ∈ wsX20, w ∈ wsX2_hoursPretendingAlways := fun w h => List.mem_cons_of_mem _ (List.mem_append_right _ h)
  have hD5 : Y.D ≤ 5 := hok.1
  have hP4 : Y.P ≤ 4 := hok.2
  refine lv_aload_n hx hb dX2_hoursPretendingAlways_0 rfl (lv_at hl 0 rfl) ?_
  refine va_get (D := D) (ci := 2) (v := .ref a5) (C := RX2) (T := TX2) (N := 10) hx hb hts inX2 hown hK.1 hP 0 rfl rfl 8 (by decide) f_24 (fun _ h9 => h9) rfl dX2_hoursPretendingAlways_1 ?_
  refine lv_iload_n hx hb dX2_hoursPretendingAlways_4 rfl (lv_at hl 1 rfl) ?_
  refine zk_iald hx hb hK hP 5 rfl (by omega) (by decide) dX2_hoursPretendingAlways_5 ?_
  refine lv_istore_n (lv' := [(2, .int (Y.pret p)), (0, .ref a0), (1, .int (nI p))]) hx hb dX2_hoursPretendingAlways_6 rfl hl (by decide) rfl (fun ls hl => ?_)
  refine lv_aload_n hx hb dX2_hoursPretendingAlways_7 rfl (lv_at hl 1 rfl) ?_
  refine va_get (D := D) (ci := 2) (v := .ref a5) (C := RX2) (T := TX2) (N := 10) hx hb hts inX2 hown hK.1 hP 0 rfl rfl 8 (by decide) f_24 (fun _ h9 => h9) rfl dX2_hoursPretendingAlways_8 ?_
  refine lv_iload_n hx hb dX2_hoursPretendingAlways_11 rfl (lv_at hl 2 rfl) ?_
  refine lv_aload_n hx hb dX2_hoursPretendingAlways_12 rfl (lv_at hl 1 rfl) ?_
  refine zk_callVi (As := []) (rest := [.int (nI p), .ref a5]) (nI (aD Y.D)) ⟨hx, hb, hml, hown, hts⟩ hK hP [0, 1, 2, 3, 4, 5, 6] rfl (c_allDays l D cI a0 a1 a2 a3 a4 a5 a6 Y st hok) (cwV 0 hts gX2_hoursPretendingAlways_X2_allDays rfl rfl rfl hdX2_allDays ⟨Nat.le_of_ble_eq_true rfl, Nat.le_of_ble_eq_true rfl⟩) rfl rfl rfl hl.1 rfl (Nat.le_of_ble_eq_true rfl) dX2_hoursPretendingAlways_13 ⟨Nat.le_of_ble_eq_true rfl, Nat.le_of_ble_eq_true rfl⟩ ?_
  refine zk_iast (x := nI (aD Y.D)) hx hb hK hP hD hS 5 rfl (by omega) (by decide) dX2_hoursPretendingAlways_16 (fun H locs hP hD hS => ?_)
  have hP : va_P D vwCl [(a0, .inr (2, [.int (nI Y.D), .int (nI Y.P), .int Y.db, .int Y.rm, .ref a1, .ref a2, .ref a3, .ref a4, .ref a5, .ref a6])), (a1, .inl (cI, 5, .inl Y.hard)), (a2, .inl (cI, 4, .inl Y.kind)), (a3, .inl (cI, 4, .inl Y.wit)), (a4, .inl (cI, 4, .inl Y.pat)), (a5, .inl (cI, 4, .inl (upd Y.pret p (nI (aD Y.D))))), (a6, .inl (cI, 5, .inl st))] H := hP
  have hD : va_D A [(a0, .inr (2, [.int (nI Y.D), .int (nI Y.P), .int Y.db, .int Y.rm, .ref a1, .ref a2, .ref a3, .ref a4, .ref a5, .ref a6])), (a1, .inl (cI, 5, .inl Y.hard)), (a2, .inl (cI, 4, .inl Y.kind)), (a3, .inl (cI, 4, .inl Y.wit)), (a4, .inl (cI, 4, .inl Y.pat)), (a5, .inl (cI, 4, .inl (upd Y.pret p (nI (aD Y.D))))), (a6, .inl (cI, 5, .inl st))] := hD
  refine lv_iconst (v := nI 0) hx hb dX2_hoursPretendingAlways_17 (by decide) ?_
  refine lv_istore_n (lv' := [(3, .int (nI 0)), (2, .int (Y.pret p)), (0, .ref a0), (1, .int (nI p))]) hx hb dX2_hoursPretendingAlways_18 rfl hl (by decide) rfl (fun ls hl => ?_)
  refine lv_iconst (v := nI 0) hx hb dX2_hoursPretendingAlways_19 (by decide) ?_
  refine lv_istore (lv' := [(4, .int (nI 0)), (3, .int (nI 0)), (2, .int (Y.pret p)), (0, .ref a0), (1, .int (nI p))]) hx hb dX2_hoursPretendingAlways_20 hl (by decide) rfl (fun ls hl => ?_)
  have loop22 : ∀ (nL k : Nat), k ≤ Y.D → Y.D < k + nL → ∀ ls : Array Slot, lv_has ls 5 [(0, .ref a0), (1, .int (nI p)), (2, .int (Y.pret p)), (3, .int (nI (cnt k (fun d => std (Y.sPret (upd Y.pret p (nI (aD Y.D)))) d p)))), (4, .int (nI k))] → W pX l eX ({ frames := 3, cells := 0, slots := 0, locals := 71 }) sX mX ([.ref a0, .int (nI p)] : List Value).toArray bX tX cX H locs 0 0 (MQ bX (QI (S := Unit) D (fun r _ => r = nI (cnt Y.D (fun d => std (Y.sPret (upd Y.pret p (nI (aD Y.D)))) d p)) * hrs Y p) (fun _ => wRoll cI a0 a1 a2 a3 a4 a5 a6 Y st) A) ([.ref a0, .int (nI p)] : List Value).toArray sX 0 0 A) (F0 mX 22 ls []) := by
    intro nL
    induction nL with
    | zero => intro k  h1 h2; exact absurd h2 (by omega)
    | succ nL ih =>
      intro k  h_le h_n   ls hl
      refine lv_iload hx hb dX2_hoursPretendingAlways_22 (lv_at hl 4 rfl) ?_
      refine lv_aload_n hx hb dX2_hoursPretendingAlways_24 rfl (lv_at hl 0 rfl) ?_
      refine va_get (D := D) (ci := 2) (v := .int (nI Y.D)) (C := RX2) (T := TX2) (N := 10) hx hb hts inX2 hown hK.1 hP 0 rfl rfl 0 (by decide) f_30 (fun _ h9 => h9) rfl dX2_hoursPretendingAlways_25 ?_
      refine zk_icmp_ge (tgt := 53) hx hb dX2_hoursPretendingAlways_28 (by decide) (by omega) (by omega) (fun c_1 => ?_) (fun c_1 => ?_)
      · refine lv_aload_n hx hb dX2_hoursPretendingAlways_53 rfl (lv_at hl 0 rfl) ?_
        refine va_get (D := D) (ci := 2) (v := .ref a5) (C := RX2) (T := TX2) (N := 10) hx hb hts inX2 hown hK.1 hP 0 rfl rfl 8 (by decide) f_24 (fun _ h9 => h9) rfl dX2_hoursPretendingAlways_54 ?_
        refine lv_iload_n hx hb dX2_hoursPretendingAlways_57 rfl (lv_at hl 1 rfl) ?_
        refine lv_iload_n hx hb dX2_hoursPretendingAlways_58 rfl (lv_at hl 2 rfl) ?_
        refine zk_iast (x := Y.pret p) hx hb hK hP hD hS 5 rfl (by omega) (by decide) dX2_hoursPretendingAlways_59 (fun H locs hP hD hS => ?_)
        have hP : va_P D vwCl [(a0, .inr (2, [.int (nI Y.D), .int (nI Y.P), .int Y.db, .int Y.rm, .ref a1, .ref a2, .ref a3, .ref a4, .ref a5, .ref a6])), (a1, .inl (cI, 5, .inl Y.hard)), (a2, .inl (cI, 4, .inl Y.kind)), (a3, .inl (cI, 4, .inl Y.wit)), (a4, .inl (cI, 4, .inl Y.pat)), (a5, .inl (cI, 4, .inl (upd (upd Y.pret p (nI (aD Y.D))) p (Y.pret p)))), (a6, .inl (cI, 5, .inl st))] H := hP
        have hD : va_D A [(a0, .inr (2, [.int (nI Y.D), .int (nI Y.P), .int Y.db, .int Y.rm, .ref a1, .ref a2, .ref a3, .ref a4, .ref a5, .ref a6])), (a1, .inl (cI, 5, .inl Y.hard)), (a2, .inl (cI, 4, .inl Y.kind)), (a3, .inl (cI, 4, .inl Y.wit)), (a4, .inl (cI, 4, .inl Y.pat)), (a5, .inl (cI, 4, .inl (upd (upd Y.pret p (nI (aD Y.D))) p (Y.pret p)))), (a6, .inl (cI, 5, .inl st))] := hD
        rw [upd_back] at hP hD
        refine lv_iload_n hx hb dX2_hoursPretendingAlways_60 rfl (lv_at hl 3 rfl) ?_
        refine lv_aload_n hx hb dX2_hoursPretendingAlways_61 rfl (lv_at hl 0 rfl) ?_
        refine lv_iload_n hx hb dX2_hoursPretendingAlways_62 rfl (lv_at hl 1 rfl) ?_
        refine zk_callVi (As := [.int (nI p)]) (rest := [.int (nI (cnt k (fun d => std (Y.sPret (upd Y.pret p (nI (aD Y.D)))) d p)))]) (hrs Y p) ⟨hx, hb, hml, hown, hts⟩ hK hP [0, 1, 2, 3, 4, 5, 6] rfl (c_hoursOfDay l D cI a0 a1 a2 a3 a4 a5 a6 Y st p hok (by omega)) (cwV 1 hts gX2_hoursPretendingAlways_X2_hoursOfDay rfl rfl rfl hdX2_hoursOfDay ⟨Nat.le_of_ble_eq_true rfl, Nat.le_of_ble_eq_true rfl⟩) rfl rfl rfl hl.1 rfl (Nat.le_of_ble_eq_true rfl) dX2_hoursPretendingAlways_63 ⟨Nat.le_of_ble_eq_true rfl, Nat.le_of_ble_eq_true rfl⟩ ?_
        refine lv_imul hx hb dX2_hoursPretendingAlways_66 ?_
        exact zk_retI hx hb hr hS (()) (by rw [show k = Y.D by omega]) hP hD dX2_hoursPretendingAlways_67 hlocks
      · refine lv_aload_n hx hb dX2_hoursPretendingAlways_31 rfl (lv_at hl 0 rfl) ?_
        refine lv_iload hx hb dX2_hoursPretendingAlways_32 (lv_at hl 4 rfl) ?_
        refine zk_callVi (As := [.int (nI k)]) (rest := []) (nI (msk (Y.sPret (upd Y.pret p (nI (aD Y.D)))).P (std (Y.sPret (upd Y.pret p (nI (aD Y.D)))) k))) ⟨hx, hb, hml, hown, hts⟩ hK hP [0, 1, 2, 3, 4, 5, 6] rfl (c_whoStands l D cI a0 a1 a2 a3 a4 a5 a6 (Y.sPret (upd Y.pret p (nI (aD Y.D)))) st k hok (by omega)) (cwV 1 hts gX2_hoursPretendingAlways_X2_whoStands rfl rfl rfl hdX2_whoStands ⟨Nat.le_of_ble_eq_true rfl, Nat.le_of_ble_eq_true rfl⟩) rfl rfl rfl hl.1 rfl (Nat.le_of_ble_eq_true rfl) dX2_hoursPretendingAlways_34 ⟨Nat.le_of_ble_eq_true rfl, Nat.le_of_ble_eq_true rfl⟩ ?_
        refine lv_iload_n hx hb dX2_hoursPretendingAlways_37 rfl (lv_at hl 1 rfl) ?_
        refine zk_callSi (As := [.int (nI (msk Y.P (std (Y.sPret (upd Y.pret p (nI (aD Y.D)))) k))), .int (nI p)]) (rest := []) (bI (hbit (nI (msk Y.P (std (Y.sPret (upd Y.pret p (nI (aD Y.D)))) k))) p)) ⟨hx, hb, hml, hown, hts⟩ hK hP [] rfl (c_holds l D cI (nI (msk Y.P (std (Y.sPret (upd Y.pret p (nI (aD Y.D)))) k))) p ) (va_cwS 2 hts gX2_hoursPretendingAlways_X2_holds rfl rfl rfl hdX2_holds ⟨Nat.le_of_ble_eq_true rfl, Nat.le_of_ble_eq_true rfl⟩) rfl hl.1 rfl (Nat.le_of_ble_eq_true rfl) dX2_hoursPretendingAlways_38 ⟨Nat.le_of_ble_eq_true rfl, Nat.le_of_ble_eq_true rfl⟩ ?_
        refine zk_ifeqB (tgt := 47) hx hb dX2_hoursPretendingAlways_41 (by decide) (fun c_2 => ?_) (fun c_2 => ?_)
        · refine lv_iinc (v := nI (k + 1)) (lv' := [(4, .int (nI (k + 1))), (0, .ref a0), (1, .int (nI p)), (2, .int (Y.pret p)), (3, .int (nI (cnt k (fun d => std (Y.sPret (upd Y.pret p (nI (aD Y.D)))) d p))))]) hx hb dX2_hoursPretendingAlways_47 hl (k := 4) rfl (by rw [show (Int32.ofInt 1) = nI 1 from by decide, nI_add]) (by decide) rfl (fun ls hl => ?_)
          refine lv_goto (tgt := 22) hx hb dX2_hoursPretendingAlways_50 (by decide) ?_
          have hl := lv_sub hl [1, 2, 3, 4, 0] rfl
          have e_3 : nI (cnt k (fun d => std (Y.sPret (upd Y.pret p (nI (aD Y.D)))) d p)) = nI (cnt (k + 1) (fun d => std (Y.sPret (upd Y.pret p (nI (aD Y.D)))) d p)) := cnt_no (by rw [← hbit_mskI (n := Y.P) (by omega) hp (std (Y.sPret (upd Y.pret p (nI (aD Y.D)))) k)]; exact c_2)
          rw [e_3] at hl
          exact ih (k + 1)  (by omega) (by omega)   ls hl
        · refine lv_iinc (v := nI (cnt k (fun d => std (Y.sPret (upd Y.pret p (nI (aD Y.D)))) d p) + 1)) (lv' := [(3, .int (nI (cnt k (fun d => std (Y.sPret (upd Y.pret p (nI (aD Y.D)))) d p) + 1))), (0, .ref a0), (1, .int (nI p)), (2, .int (Y.pret p)), (4, .int (nI k))]) hx hb dX2_hoursPretendingAlways_44 hl (k := 3) rfl (by rw [show (Int32.ofInt 1) = nI 1 from by decide, nI_add]) (by decide) rfl (fun ls hl => ?_)
          refine lv_iinc (v := nI (k + 1)) (lv' := [(4, .int (nI (k + 1))), (3, .int (nI (cnt k (fun d => std (Y.sPret (upd Y.pret p (nI (aD Y.D)))) d p) + 1))), (0, .ref a0), (1, .int (nI p)), (2, .int (Y.pret p))]) hx hb dX2_hoursPretendingAlways_47 hl (k := 4) rfl (by rw [show (Int32.ofInt 1) = nI 1 from by decide, nI_add]) (by decide) rfl (fun ls hl => ?_)
          refine lv_goto (tgt := 22) hx hb dX2_hoursPretendingAlways_50 (by decide) ?_
          have hl := lv_sub hl [2, 3, 4, 1, 0] rfl
          have e_3 : nI (cnt k (fun d => std (Y.sPret (upd Y.pret p (nI (aD Y.D)))) d p) + 1) = nI (cnt (k + 1) (fun d => std (Y.sPret (upd Y.pret p (nI (aD Y.D)))) d p)) := cnt_in (by rw [← hbit_mskI (n := Y.P) (by omega) hp (std (Y.sPret (upd Y.pret p (nI (aD Y.D)))) k)]; exact c_2)
          rw [e_3] at hl
          exact ih (k + 1)  (by omega) (by omega)   ls hl
  have hl := lv_sub hl [3, 4, 2, 1, 0] rfl
  have e_3 : nI 0 = nI (cnt 0 (fun d => std (Y.sPret (upd Y.pret p (nI (aD Y.D)))) d p)) := by rfl
  have hl : lv_has ls 5 [(0, .ref a0), (1, .int (nI p)), (2, .int (Y.pret p)), (3, .int (nI (cnt 0 (fun d => std (Y.sPret (upd Y.pret p (nI (aD Y.D)))) d p)))), (4, .int (nI 0))] := by
    first | exact hl | (rw [← e_3]; exact hl) | (simp only [e_3] at hl ⊢; exact hl)
  exact loop22 (Y.D + 1) 0  (by omega) (by omega)   ls hl
set_option maxHeartbeats 4000000 in
set_option maxRecDepth 100000 in
theorem c_firstRestless (l : Launch) (D : va_G) (cI : ClassId) (sz : Nat) (a0 : Nat) (a1 : Nat) (a2 : Nat) (a3 : Nat) (a4 : Nat) (a5 : Nat) (a6 : Nat) (Y : YS) (st : Nat → Int32) (hok : OkY Y) : Met l yX2_firstRestless wsX2_firstRestless ({ frames := 4, cells := 0, slots := 0, locals := 95 }) (PQ D cI [.ref a0] (wRoll cI a0 a1 a2 a3 a4 a5 a6 Y st) sz) (QI (S := Unit) D (fun r _ => r = fstB Y.P (fun p => decide (hbS Y st p Y.D < nI (cnt Y.D (fun d => std (Y.sPret (upd Y.pret p (nI (aD Y.D)))) d p)) * hrs Y p)) 0) (fun _ => wRoll cI a0 a1 a2 a3 a4 a5 a6 Y st) (va_A (wRoll cI a0 a1 a2 a3 a4 a5 a6 Y st) sz)) 0 0 (va_A (wRoll cI a0 a1 a2 a3 a4 a5 a6 Y st) sz) := by
  refine zk_Q (QI (S := Unit) D (fun r _ => r = fstB Y.P (fun p => decide (hbS Y st p Y.D < nI (cnt Y.D (fun d => std (Y.sPret (upd Y.pret p (nI (aD Y.D)))) d p)) * hrs Y p)) 0) (fun _ => wRoll cI a0 a1 a2 a3 a4 a5 a6 Y st)) (cc := cX2_firstRestless) (maxL := 2) (ret := (some .int)) (by decide) rfl (Nat.le_of_ble_eq_true rfl) ?_
  intro pX eX sX mX bX tX cX hx hb hr hlocks hml hown hmn hts hP hK A hA hD hS ls hl
  have hl : lv_has ls 2 [(0, .ref a0)] := hl
  have hP : va_P D vwCl [(a0, .inr (2, [.int (nI Y.D), .int (nI Y.P), .int Y.db, .int Y.rm, .ref a1, .ref a2, .ref a3, .ref a4, .ref a5, .ref a6])), (a1, .inl (cI, 5, .inl Y.hard)), (a2, .inl (cI, 4, .inl Y.kind)), (a3, .inl (cI, 4, .inl Y.wit)), (a4, .inl (cI, 4, .inl Y.pat)), (a5, .inl (cI, 4, .inl Y.pret)), (a6, .inl (cI, 5, .inl st))] sX.heap := hP
  have hD : va_D A [(a0, .inr (2, [.int (nI Y.D), .int (nI Y.P), .int Y.db, .int Y.rm, .ref a1, .ref a2, .ref a3, .ref a4, .ref a5, .ref a6])), (a1, .inl (cI, 5, .inl Y.hard)), (a2, .inl (cI, 4, .inl Y.kind)), (a3, .inl (cI, 4, .inl Y.wit)), (a4, .inl (cI, 4, .inl Y.pat)), (a5, .inl (cI, 4, .inl Y.pret)), (a6, .inl (cI, 5, .inl st))] := hD
  have f_34 := hts (.fieldLink RX2 34 "DunceSee$Roll" "pupils" "I") (by decide +kernel)
  have f_30 := hts (.fieldLink RX2 30 "DunceSee$Roll" "days" "I") (by decide +kernel)
  have inX2 : ∀ w ∈ wsX20, w ∈ wsX2_firstRestless := fun w h => List.mem_cons_of_mem _ (List.mem_append_right _ h)
  have hD5 : Y.D ≤ 5 := hok.1
  have hP4 : Y.P ≤ 4 := hok.2
  refine lv_iconst (v := nI 0) hx hb dX2_firstRestless_0 (by decide) ?_
  refine lv_istore_n (lv' := [(1, .int (nI 0)), (0, .ref a0)]) hx hb dX2_firstRestless_1 rfl hl (by decide) rfl (fun ls hl => ?_)
  have loop2 : ∀ (nL k : Nat), k ≤ Y.P → Y.P < k + nL → (∀ i, i < k → (fun p => decide (hbS Y st p Y.D < nI (cnt Y.D (fun d => std (Y.sPret (upd Y.pret p (nI (aD Y.D)))) d p)) * hrs Y p)) i = false) → ∀ (H : Heap) (locs : List Loc), va_P D vwCl [(a0, .inr (2, [.int (nI Y.D), .int (nI Y.P), .int Y.db, .int Y.rm, .ref a1, .ref a2, .ref a3, .ref a4, .ref a5, .ref a6])), (a1, .inl (cI, 5, .inl Y.hard)), (a2, .inl (cI, 4, .inl Y.kind)), (a3, .inl (cI, 4, .inl Y.wit)), (a4, .inl (cI, 4, .inl Y.pat)), (a5, .inl (cI, 4, .inl Y.pret)), (a6, .inl (cI, 5, .inl st))] H → va_D A [(a0, .inr (2, [.int (nI Y.D), .int (nI Y.P), .int Y.db, .int Y.rm, .ref a1, .ref a2, .ref a3, .ref a4, .ref a5, .ref a6])), (a1, .inl (cI, 5, .inl Y.hard)), (a2, .inl (cI, 4, .inl Y.kind)), (a3, .inl (cI, 4, .inl Y.wit)), (a4, .inl (cI, 4, .inl Y.pat)), (a5, .inl (cI, 4, .inl Y.pret)), (a6, .inl (cI, 5, .inl st))] → va_S A sX.heap H locs → ∀ ls : Array Slot, lv_has ls 2 [(0, .ref a0), (1, .int (nI k))] → W pX l eX ({ frames := 4, cells := 0, slots := 0, locals := 95 }) sX mX ([.ref a0] : List Value).toArray bX tX cX H locs 0 0 (MQ bX (QI (S := Unit) D (fun r _ => r = fstB Y.P (fun p => decide (hbS Y st p Y.D < nI (cnt Y.D (fun d => std (Y.sPret (upd Y.pret p (nI (aD Y.D)))) d p)) * hrs Y p)) 0) (fun _ => wRoll cI a0 a1 a2 a3 a4 a5 a6 Y st) A) ([.ref a0] : List Value).toArray sX 0 0 A) (F0 mX 2 ls []) := by
    intro nL
    induction nL with
    | zero => intro k  h1 h2; exact absurd h2 (by omega)
    | succ nL ih =>
      intro k  h_le h_n hno H locs hP hD hS ls hl
      refine lv_iload_n hx hb dX2_firstRestless_2 rfl (lv_at hl 1 rfl) ?_
      refine lv_aload_n hx hb dX2_firstRestless_3 rfl (lv_at hl 0 rfl) ?_
      refine va_get (D := D) (ci := 2) (v := .int (nI Y.P)) (C := RX2) (T := TX2) (N := 10) hx hb hts inX2 hown hK.1 hP 0 rfl rfl 1 (by decide) f_34 (fun _ h9 => h9) rfl dX2_firstRestless_4 ?_
      refine zk_icmp_ge (tgt := 35) hx hb dX2_firstRestless_7 (by decide) (by omega) (by omega) (fun c_1 => ?_) (fun c_1 => ?_)
      · refine lv_bipush (v := (-9)) hx hb dX2_firstRestless_35 (by decide) ?_
        exact zk_retI hx hb hr hS (()) ((fstB_no _ 0 (fun i _ h => hno i (by omega))).symm) hP hD dX2_firstRestless_37 hlocks
      · refine lv_aload_n hx hb dX2_firstRestless_10 rfl (lv_at hl 0 rfl) ?_
        refine lv_iload_n hx hb dX2_firstRestless_11 rfl (lv_at hl 1 rfl) ?_
        refine zk_effVi (As := [.int (nI k)]) (rest := []) (S := Unit) (fun r _ => r = nI (cnt Y.D (fun d => std (Y.sPret (upd Y.pret k (nI (aD Y.D)))) d k)) * hrs Y k) (fun _ => wRoll cI a0 a1 a2 a3 a4 a5 a6 Y st) ⟨hx, hb, hml, hown, hts⟩ hK hP hD hS hA [0, 1, 2, 3, 4, 5, 6] [] (wc := [(a0, .inr (2, [.int (nI Y.D), .int (nI Y.P), .int Y.db, .int Y.rm, .ref a1, .ref a2, .ref a3, .ref a4, .ref a5, .ref a6])), (a1, .inl (cI, 5, .inl Y.hard)), (a2, .inl (cI, 4, .inl Y.kind)), (a3, .inl (cI, 4, .inl Y.wit)), (a4, .inl (cI, 4, .inl Y.pat)), (a5, .inl (cI, 4, .inl Y.pret)), (a6, .inl (cI, 5, .inl st))]) (wr := []) rfl rfl (by decide) (by decide) (by decide) [0, 1, 2, 3, 4, 5, 6] (fun (_ : Unit) => [(a0, .inr (2, [.int (nI Y.D), .int (nI Y.P), .int Y.db, .int Y.rm, .ref a1, .ref a2, .ref a3, .ref a4, .ref a5, .ref a6])), (a1, .inl (cI, 5, .inl Y.hard)), (a2, .inl (cI, 4, .inl Y.kind)), (a3, .inl (cI, 4, .inl Y.wit)), (a4, .inl (cI, 4, .inl Y.pat)), (a5, .inl (cI, 4, .inl Y.pret)), (a6, .inl (cI, 5, .inl st))]) (fun _ => rfl) (by decide) (c_always l D cI H.size a0 a1 a2 a3 a4 a5 a6 Y st k hok (by omega)) (cwV 1 hts gX2_firstRestless_X2_hoursPretendingAlways rfl rfl rfl hdX2_hoursPretendingAlways ⟨Nat.le_of_ble_eq_true rfl, Nat.le_of_ble_eq_true rfl⟩) rfl rfl rfl hl.1 rfl (Nat.le_of_ble_eq_true rfl) dX2_firstRestless_12 ⟨Nat.le_of_ble_eq_true rfl, Nat.le_of_ble_eq_true rfl⟩ (fun r1 _ H locs hw1 hP hD hS => ?_)
        have e_r1 : r1 = nI (cnt Y.D (fun d => std (Y.sPret (upd Y.pret k (nI (aD Y.D)))) d k)) * hrs Y k := hw1
        rw [e_r1]
        refine lv_aload_n hx hb dX2_firstRestless_15 rfl (lv_at hl 0 rfl) ?_
        refine lv_iload_n hx hb dX2_firstRestless_16 rfl (lv_at hl 1 rfl) ?_
        refine lv_aload_n hx hb dX2_firstRestless_17 rfl (lv_at hl 0 rfl) ?_
        refine va_get (D := D) (ci := 2) (v := .int (nI Y.D)) (C := RX2) (T := TX2) (N := 10) hx hb hts inX2 hown hK.1 hP 0 rfl rfl 0 (by decide) f_30 (fun _ h9 => h9) rfl dX2_firstRestless_18 ?_
        refine zk_callVi (As := [.int (nI k), .int (nI Y.D)]) (rest := [.int (nI (cnt Y.D (fun d => std (Y.sPret (upd Y.pret k (nI (aD Y.D)))) d k)) * hrs Y k)]) (hbS Y st k Y.D) ⟨hx, hb, hml, hown, hts⟩ hK hP [0, 1, 2, 3, 4, 5, 6] rfl (c_hoursBehind l D cI a0 a1 a2 a3 a4 a5 a6 Y st k Y.D hok (by omega) hD5) (cwV 2 hts gX2_firstRestless_X2_hoursBehind rfl rfl rfl hdX2_hoursBehind ⟨Nat.le_of_ble_eq_true rfl, Nat.le_of_ble_eq_true rfl⟩) rfl rfl rfl hl.1 rfl (Nat.le_of_ble_eq_true rfl) dX2_firstRestless_21 ⟨Nat.le_of_ble_eq_true rfl, Nat.le_of_ble_eq_true rfl⟩ ?_
        refine lv_icmp_le (tgt := 29) hx hb dX2_firstRestless_24 (by decide) (fun c_4 => ?_) (fun c_4 => ?_)
        · refine lv_iinc (v := nI (k + 1)) (lv' := [(1, .int (nI (k + 1))), (0, .ref a0)]) hx hb dX2_firstRestless_29 hl (k := 1) rfl (by rw [show (Int32.ofInt 1) = nI 1 from by decide, nI_add]) (by decide) rfl (fun ls hl => ?_)
          refine lv_goto (tgt := 2) hx hb dX2_firstRestless_32 (by decide) ?_
          exact ih (k + 1)  (by omega) (by omega) (fun i h => by by_cases e : i = k; { subst e; simp [c_1, (Nat.not_le.mpr c_1), c_4, (Int32.not_lt.mpr c_4)] }; { exact hno i (by omega) }) _ _ hP hD hS ls (lv_sub hl [1, 0] rfl)
        · have c_4 := Int32.not_le.mp c_4
          refine lv_iload_n hx hb dX2_firstRestless_27 rfl (lv_at hl 1 rfl) ?_
          exact zk_retI hx hb hr hS (()) ((fstB_at _ 0 k (by omega) (by omega) (fun i _ h => hno i h) (by simp [c_1, (Nat.not_le.mpr c_1), c_4, (Int32.not_le.mpr c_4)])).symm) hP hD dX2_firstRestless_28 hlocks
  exact loop2 (Y.P + 1) 0  (by omega) (by omega) (fun i h => by omega) _ _ hP hD hS ls (lv_sub hl [1, 0] rfl)
set_option maxHeartbeats 4000000 in
set_option maxRecDepth 100000 in
theorem c_pretendAll (l : Launch) (D : va_G) (cI : ClassId) (sz : Nat) (a0 : Nat) (a1 : Nat) (a2 : Nat) (a3 : Nat) (a4 : Nat) (a5 : Nat) (a6 : Nat) (Y : YS) (st : Nat → Int32) (x : Int32) (hok : OkY Y) : Met l yX2_pretendAllDays wsX2_pretendAllDays ({ frames := 1, cells := 0, slots := 0, locals := 21 }) (PQ D cI [.ref a0, .int x] (wRoll cI a0 a1 a2 a3 a4 a5 a6 Y st) sz) (QV (S := Unit) D (fun _ => True) (fun _ => wRoll cI a0 a1 a2 a3 a4 a5 a6 (Y.sPret (tab Y.P (fun p => if hbit x p then nI (aD Y.D) else nI 0) Y.pret)) st) (va_A (wRoll cI a0 a1 a2 a3 a4 a5 a6 Y st) sz)) 0 0 (va_A (wRoll cI a0 a1 a2 a3 a4 a5 a6 Y st) sz) := by
  refine zk_Q (QV (S := Unit) D (fun _ => True) (fun _ => wRoll cI a0 a1 a2 a3 a4 a5 a6 (Y.sPret (tab Y.P (fun p => if hbit x p then nI (aD Y.D) else nI 0) Y.pret)) st)) (cc := cX2_pretendAllDays) (maxL := 3) (ret := none) (by decide) rfl (Nat.le_of_ble_eq_true rfl) ?_
  intro pX eX sX mX bX tX cX hx hb hr hlocks hml hown hmn hts hP hK A hA hD hS ls hl
  have hl : lv_has ls 3 [(0, .ref a0), (1, .int x)] := hl
  have hP : va_P D vwCl [(a0, .inr (2, [.int (nI Y.D), .int (nI Y.P), .int Y.db, .int Y.rm, .ref a1, .ref a2, .ref a3, .ref a4, .ref a5, .ref a6])), (a1, .inl (cI, 5, .inl Y.hard)), (a2, .inl (cI, 4, .inl Y.kind)), (a3, .inl (cI, 4, .inl Y.wit)), (a4, .inl (cI, 4, .inl Y.pat)), (a5, .inl (cI, 4, .inl Y.pret)), (a6, .inl (cI, 5, .inl st))] sX.heap := hP
  have hD : va_D A [(a0, .inr (2, [.int (nI Y.D), .int (nI Y.P), .int Y.db, .int Y.rm, .ref a1, .ref a2, .ref a3, .ref a4, .ref a5, .ref a6])), (a1, .inl (cI, 5, .inl Y.hard)), (a2, .inl (cI, 4, .inl Y.kind)), (a3, .inl (cI, 4, .inl Y.wit)), (a4, .inl (cI, 4, .inl Y.pat)), (a5, .inl (cI, 4, .inl Y.pret)), (a6, .inl (cI, 5, .inl st))] := hD
  have f_34 := hts (.fieldLink RX2 34 "DunceSee$Roll" "pupils" "I") (by decide +kernel)
  have f_24 := hts (.fieldLink RX2 24 "DunceSee$Roll" "pretendsOf" "[I") (by decide +kernel)
  have inX2 : ∀ w ∈ wsX20, w ∈ wsX2_pretendAllDays := fun w h => List.mem_cons_of_mem _ (List.mem_append_right _ h)
  have hD5 : Y.D ≤ 5 := hok.1
  have hP4 : Y.P ≤ 4 := hok.2
  refine lv_iconst (v := nI 0) hx hb dX2_pretendAllDays_0 (by decide) ?_
  refine lv_istore_n (lv' := [(2, .int (nI 0)), (0, .ref a0), (1, .int x)]) hx hb dX2_pretendAllDays_1 rfl hl (by decide) rfl (fun ls hl => ?_)
  have loop2 : ∀ (nL k : Nat), k ≤ Y.P → Y.P < k + nL → ∀ (H : Heap) (locs : List Loc), va_P D vwCl [(a0, .inr (2, [.int (nI Y.D), .int (nI Y.P), .int Y.db, .int Y.rm, .ref a1, .ref a2, .ref a3, .ref a4, .ref a5, .ref a6])), (a1, .inl (cI, 5, .inl Y.hard)), (a2, .inl (cI, 4, .inl Y.kind)), (a3, .inl (cI, 4, .inl Y.wit)), (a4, .inl (cI, 4, .inl Y.pat)), (a5, .inl (cI, 4, .inl (tab k (fun p => if hbit x p then nI (aD Y.D) else nI 0) Y.pret))), (a6, .inl (cI, 5, .inl st))] H → va_D A [(a0, .inr (2, [.int (nI Y.D), .int (nI Y.P), .int Y.db, .int Y.rm, .ref a1, .ref a2, .ref a3, .ref a4, .ref a5, .ref a6])), (a1, .inl (cI, 5, .inl Y.hard)), (a2, .inl (cI, 4, .inl Y.kind)), (a3, .inl (cI, 4, .inl Y.wit)), (a4, .inl (cI, 4, .inl Y.pat)), (a5, .inl (cI, 4, .inl (tab k (fun p => if hbit x p then nI (aD Y.D) else nI 0) Y.pret))), (a6, .inl (cI, 5, .inl st))] → va_S A sX.heap H locs → ∀ ls : Array Slot, lv_has ls 3 [(0, .ref a0), (1, .int x), (2, .int (nI k))] → W pX l eX ({ frames := 1, cells := 0, slots := 0, locals := 21 }) sX mX ([.ref a0, .int x] : List Value).toArray bX tX cX H locs 0 0 (MQ bX (QV (S := Unit) D (fun _ => True) (fun _ => wRoll cI a0 a1 a2 a3 a4 a5 a6 (Y.sPret (tab Y.P (fun p => if hbit x p then nI (aD Y.D) else nI 0) Y.pret)) st) A) ([.ref a0, .int x] : List Value).toArray sX 0 0 A) (F0 mX 2 ls []) := by
    intro nL
    induction nL with
    | zero => intro k  h1 h2; exact absurd h2 (by omega)
    | succ nL ih =>
      intro k  h_le h_n  H locs hP hD hS ls hl
      refine lv_iload_n hx hb dX2_pretendAllDays_2 rfl (lv_at hl 2 rfl) ?_
      refine lv_aload_n hx hb dX2_pretendAllDays_3 rfl (lv_at hl 0 rfl) ?_
      refine va_get (D := D) (ci := 2) (v := .int (nI Y.P)) (C := RX2) (T := TX2) (N := 10) hx hb hts inX2 hown hK.1 hP 0 rfl rfl 1 (by decide) f_34 (fun _ h9 => h9) rfl dX2_pretendAllDays_4 ?_
      refine zk_icmp_ge (tgt := 38) hx hb dX2_pretendAllDays_7 (by decide) (by omega) (by omega) (fun c_1 => ?_) (fun c_1 => ?_)
      · have e_k : k = Y.P := by omega
        subst e_k
        exact zk_retV hx hb hr hS (()) (trivial) hP hD dX2_pretendAllDays_38 hlocks
      · refine lv_aload_n hx hb dX2_pretendAllDays_10 rfl (lv_at hl 0 rfl) ?_
        refine va_get (D := D) (ci := 2) (v := .ref a5) (C := RX2) (T := TX2) (N := 10) hx hb hts inX2 hown hK.1 hP 0 rfl rfl 8 (by decide) f_24 (fun _ h9 => h9) rfl dX2_pretendAllDays_11 ?_
        refine lv_iload_n hx hb dX2_pretendAllDays_14 rfl (lv_at hl 2 rfl) ?_
        refine lv_iload_n hx hb dX2_pretendAllDays_15 rfl (lv_at hl 1 rfl) ?_
        refine lv_iload_n hx hb dX2_pretendAllDays_16 rfl (lv_at hl 2 rfl) ?_
        refine zk_callSi (As := [.int x, .int (nI k)]) (rest := [.int (nI k), .ref a5]) (bI (hbit x k)) ⟨hx, hb, hml, hown, hts⟩ hK hP [] rfl (c_holds l D cI x k ) (va_cwS 2 hts gX2_pretendAllDays_X2_holds rfl rfl rfl hdX2_holds ⟨Nat.le_of_ble_eq_true rfl, Nat.le_of_ble_eq_true rfl⟩) rfl hl.1 rfl (Nat.le_of_ble_eq_true rfl) dX2_pretendAllDays_17 ⟨Nat.le_of_ble_eq_true rfl, Nat.le_of_ble_eq_true rfl⟩ ?_
        refine zk_ifeqB (tgt := 30) hx hb dX2_pretendAllDays_20 (by decide) (fun c_2 => ?_) (fun c_2 => ?_)
        · refine lv_iconst (v := nI 0) hx hb dX2_pretendAllDays_30 (by decide) ?_
          refine zk_iast (x := nI 0) hx hb hK hP hD hS 5 rfl (by omega) (by decide) dX2_pretendAllDays_31 (fun H locs hP hD hS => ?_)
          have hP : va_P D vwCl [(a0, .inr (2, [.int (nI Y.D), .int (nI Y.P), .int Y.db, .int Y.rm, .ref a1, .ref a2, .ref a3, .ref a4, .ref a5, .ref a6])), (a1, .inl (cI, 5, .inl Y.hard)), (a2, .inl (cI, 4, .inl Y.kind)), (a3, .inl (cI, 4, .inl Y.wit)), (a4, .inl (cI, 4, .inl Y.pat)), (a5, .inl (cI, 4, .inl (upd (tab k (fun p => if hbit x p then nI (aD Y.D) else nI 0) Y.pret) k (nI 0)))), (a6, .inl (cI, 5, .inl st))] H := hP
          have hD : va_D A [(a0, .inr (2, [.int (nI Y.D), .int (nI Y.P), .int Y.db, .int Y.rm, .ref a1, .ref a2, .ref a3, .ref a4, .ref a5, .ref a6])), (a1, .inl (cI, 5, .inl Y.hard)), (a2, .inl (cI, 4, .inl Y.kind)), (a3, .inl (cI, 4, .inl Y.wit)), (a4, .inl (cI, 4, .inl Y.pat)), (a5, .inl (cI, 4, .inl (upd (tab k (fun p => if hbit x p then nI (aD Y.D) else nI 0) Y.pret) k (nI 0)))), (a6, .inl (cI, 5, .inl st))] := hD
          refine lv_iinc (v := nI (k + 1)) (lv' := [(2, .int (nI (k + 1))), (0, .ref a0), (1, .int x)]) hx hb dX2_pretendAllDays_32 hl (k := 2) rfl (by rw [show (Int32.ofInt 1) = nI 1 from by decide, nI_add]) (by decide) rfl (fun ls hl => ?_)
          refine lv_goto (tgt := 2) hx hb dX2_pretendAllDays_35 (by decide) ?_
          have e_v : upd (tab k (fun p => if hbit x p then nI (aD Y.D) else nI 0) Y.pret) k (nI 0) = tab (k + 1) (fun p => if hbit x p then nI (aD Y.D) else nI 0) Y.pret := by rw [← tab_s k (fun p => if hbit x p then nI (aD Y.D) else nI 0) Y.pret]; simp [c_1, (Nat.not_le.mpr c_1), c_2]
          rw [e_v] at hP hD
          exact ih (k + 1)  (by omega) (by omega)  _ _ hP hD hS ls (lv_sub hl [1, 2, 0] rfl)
        · refine lv_aload_n hx hb dX2_pretendAllDays_23 rfl (lv_at hl 0 rfl) ?_
          refine zk_callVi (As := []) (rest := [.int (nI k), .ref a5]) (nI (aD (Y.sPret (tab k (fun p => if hbit x p then nI (aD Y.D) else nI 0) Y.pret)).D)) ⟨hx, hb, hml, hown, hts⟩ hK hP [0, 1, 2, 3, 4, 5, 6] rfl (c_allDays l D cI a0 a1 a2 a3 a4 a5 a6 (Y.sPret (tab k (fun p => if hbit x p then nI (aD Y.D) else nI 0) Y.pret)) st hok) (cwV 0 hts gX2_pretendAllDays_X2_allDays rfl rfl rfl hdX2_allDays ⟨Nat.le_of_ble_eq_true rfl, Nat.le_of_ble_eq_true rfl⟩) rfl rfl rfl hl.1 rfl (Nat.le_of_ble_eq_true rfl) dX2_pretendAllDays_24 ⟨Nat.le_of_ble_eq_true rfl, Nat.le_of_ble_eq_true rfl⟩ ?_
          refine zk_top (y := nI (aD Y.D)) rfl ?_
          refine lv_goto (tgt := 31) hx hb dX2_pretendAllDays_27 (by decide) ?_
          refine zk_iast (x := nI (aD Y.D)) hx hb hK hP hD hS 5 rfl (by omega) (by decide) dX2_pretendAllDays_31 (fun H locs hP hD hS => ?_)
          have hP : va_P D vwCl [(a0, .inr (2, [.int (nI Y.D), .int (nI Y.P), .int Y.db, .int Y.rm, .ref a1, .ref a2, .ref a3, .ref a4, .ref a5, .ref a6])), (a1, .inl (cI, 5, .inl Y.hard)), (a2, .inl (cI, 4, .inl Y.kind)), (a3, .inl (cI, 4, .inl Y.wit)), (a4, .inl (cI, 4, .inl Y.pat)), (a5, .inl (cI, 4, .inl (upd (tab k (fun p => if hbit x p then nI (aD Y.D) else nI 0) Y.pret) k (nI (aD Y.D))))), (a6, .inl (cI, 5, .inl st))] H := hP
          have hD : va_D A [(a0, .inr (2, [.int (nI Y.D), .int (nI Y.P), .int Y.db, .int Y.rm, .ref a1, .ref a2, .ref a3, .ref a4, .ref a5, .ref a6])), (a1, .inl (cI, 5, .inl Y.hard)), (a2, .inl (cI, 4, .inl Y.kind)), (a3, .inl (cI, 4, .inl Y.wit)), (a4, .inl (cI, 4, .inl Y.pat)), (a5, .inl (cI, 4, .inl (upd (tab k (fun p => if hbit x p then nI (aD Y.D) else nI 0) Y.pret) k (nI (aD Y.D))))), (a6, .inl (cI, 5, .inl st))] := hD
          refine lv_iinc (v := nI (k + 1)) (lv' := [(2, .int (nI (k + 1))), (0, .ref a0), (1, .int x)]) hx hb dX2_pretendAllDays_32 hl (k := 2) rfl (by rw [show (Int32.ofInt 1) = nI 1 from by decide, nI_add]) (by decide) rfl (fun ls hl => ?_)
          refine lv_goto (tgt := 2) hx hb dX2_pretendAllDays_35 (by decide) ?_
          have e_v : upd (tab k (fun p => if hbit x p then nI (aD Y.D) else nI 0) Y.pret) k (nI (aD Y.D)) = tab (k + 1) (fun p => if hbit x p then nI (aD Y.D) else nI 0) Y.pret := by rw [← tab_s k (fun p => if hbit x p then nI (aD Y.D) else nI 0) Y.pret]; simp [c_1, (Nat.not_le.mpr c_1), c_2]
          rw [e_v] at hP hD
          exact ih (k + 1)  (by omega) (by omega)  _ _ hP hD hS ls (lv_sub hl [1, 2, 0] rfl)
  rw [← tab_0 (fun p => if hbit x p then nI (aD Y.D) else nI 0) Y.pret] at hP hD
  exact loop2 (Y.P + 1) 0  (by omega) (by omega)  _ _ hP hD hS ls (lv_sub hl [1, 2, 0] rfl)
