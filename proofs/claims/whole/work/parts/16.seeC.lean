def okS (sz0 : Nat → Int32) : Prop := ∀ k, k < 4 → ∃ z : Nat, z ≤ 60 ∧ sz0 k = nI z
theorem pl1_of {sz0 : Nat → Int32} (h : okS sz0) {k : Nat} (hk : k < 4) {i : Int32} (hp : pl1 i (sz0 k) = true) : ∃ j : Nat, j < 60 ∧ i = nI j ∧ i.toNatClampNeg = j := by
  obtain ⟨z, hz, e⟩ := h k hk
  rw [e] at hp
  obtain ⟨j, h1, h2, h3⟩ := isP_of (n := z) (by omega) hp
  exact ⟨j, by omega, h2, h3⟩
theorem plN_of {sz0 : Nat → Int32} (h : okS sz0) {k : Nat} (hk : k < 4) {i n : Int32} {m : Nat} (hm : m < 2 ^ 31) (hn : n = nI m) (hp : plN i n (sz0 k) = true) : ∃ j : Nat, j + m ≤ 60 ∧ i = nI j ∧ i.toNatClampNeg = j := by
  obtain ⟨z, hz, e⟩ := h k hk
  rw [e, hn] at hp
  unfold plN at hp
  rw [Bool.and_eq_true, Bool.and_eq_true, decide_eq_true_eq, decide_eq_true_eq, decide_eq_true_eq] at hp
  obtain ⟨h1, h2, h3⟩ := hp
  obtain ⟨j, hj, e2, g⟩ := le_of (n := z) (by omega) h1 h2
  rw [e2, pk_sub hj] at h3
  have h4 := (nI_leI hm (by omega)).mp h3
  exact ⟨j, by omega, e2, g⟩
theorem nat_of {n : Int32} (h : 0 ≤ n) : ∃ m : Nat, m < 2 ^ 31 ∧ n = nI m ∧ n.toNatClampNeg = m := by
  obtain ⟨m, hm, e⟩ := nI_of (x := n) (Int32.not_lt.mpr h)
  exact ⟨m, hm, e, by rw [e]; exact nI_clamp hm⟩
theorem fRow_0 {ln : Nat → Int32} {k : Nat} {lane : Int32} (h : fRow ln k lane = 0) : hasR ln k = true ∧ ln k = lane := by
  unfold fRow at h
  split at h
  · rename_i h1
    split at h
    · rename_i h2; exact ⟨h1, h2⟩
    · exact absurd h (by decide)
  · exact absurd h (by decide)
theorem fCel_0 {ln sz0 : Nat → Int32} {k : Nat} {lane i n : Int32} (h : fCel ln sz0 k lane i n = 0) : fRow ln k lane = 0 ∧ 0 ≤ n ∧ plN i n (sz0 k) = true := by
  unfold fCel at h
  split at h
  · rename_i h1
    split at h
    · rename_i h2
      split at h
      · rename_i h3; exact ⟨h1, h2, h3⟩
      · exact absurd h (by decide)
    · exact absurd h (by decide)
  · rename_i h1; exact absurd h h1
abbrev SH : Type := (Nat → Int32) × (Nat → Int32) × (Nat → Int32)
def sheetF (cl ln sz0 : Nat → Int32) (k lane n : Int32) : Int32 × Int32 × SH := if isP 4 k then (if isP 3 lane && decide (n ≤ nI 60) then (if 0 ≤ n then (nI 1, nI 0, fillR cl (k.toNatClampNeg * 60) (k.toNatClampNeg * 60 + n.toNatClampNeg) (nI 0), upd ln k.toNatClampNeg lane, upd sz0 k.toNatClampNeg (nI n.toNatClampNeg)) else ((-14), nI 4, cl, ln, sz0)) else ((-2), nI 0, cl, ln, sz0)) else ((-1), nI 0, cl, ln, sz0)
def loseF (ln sz0 : Nat → Int32) (k : Int32) : Int32 × (Nat → Int32) × (Nat → Int32) := if isP 4 k then (bI (hasR ln k.toNatClampNeg), upd ln k.toNatClampNeg (-1), upd sz0 k.toNatClampNeg (nI 0)) else ((-1), ln, sz0)
def putF (cl ln sz0 : Nat → Int32) (k i v : Int32) : Int32 × Int32 × (Nat → Int32) := if isP 4 k then (if hasR ln k.toNatClampNeg then (if pl1 i (sz0 k.toNatClampNeg) then (nI 1, nI 0, upd cl (k.toNatClampNeg * 60 + i.toNatClampNeg) (cutL v (ln k.toNatClampNeg))) else ((-13), nI 3, cl)) else ((-11), nI 1, cl)) else ((-1), nI 0, cl)
def cellF (cl ln sz0 : Nat → Int32) (k i lane : Int32) : Int64 × Int32 := if isP 4 k && isP 3 lane then (if fRow ln k.toNatClampNeg lane = 0 then (if pl1 i (sz0 k.toNatClampNeg) then ((cl (k.toNatClampNeg * 60 + i.toNatClampNeg)).toInt64, fRow ln k.toNatClampNeg lane) else ((-9223372036854775808), nI 3)) else ((-9223372036854775808), fRow ln k.toNatClampNeg lane)) else ((-9223372036854775808), nI 0)
def copyF (cl ln sz0 : Nat → Int32) (k i o j n : Int32) : Int32 × Int32 × (Nat → Int32) := if isP 4 k && isP 4 o then (if hasR ln k.toNatClampNeg && hasR ln o.toNatClampNeg then (if ln k.toNatClampNeg = ln o.toNatClampNeg then (if decide (0 ≤ n) && (plN i n (sz0 k.toNatClampNeg) && plN j n (sz0 o.toNatClampNeg)) then (n, nI 0, va_cpy cl cl (k.toNatClampNeg * 60 + i.toNatClampNeg) (o.toNatClampNeg * 60 + j.toNatClampNeg) n.toNatClampNeg) else ((-13), nI 3, cl)) else ((-12), nI 2, cl)) else ((-11), nI 1, cl)) else ((-1), nI 0, cl)
theorem hdX4_commonDivisor : yX4_commonDivisor.cls ≠ "java/lang/invoke/MethodHandle" ∧ yX4_commonDivisor.cls ≠ "java/lang/invoke/VarHandle" ∧ (parseMethodDescriptor yX4_commonDivisor.desc).map (fun d => d.parameters.length) = some 2 := by decide +kernel
theorem hdX2_pretendAllDays : yX2_pretendAllDays.cls = RX2 ∧ yX2_pretendAllDays.cls ≠ "java/lang/invoke/MethodHandle" ∧ yX2_pretendAllDays.cls ≠ "java/lang/invoke/VarHandle" ∧ (parseMethodDescriptor yX2_pretendAllDays.desc).map (fun d => d.parameters.length) = some 1 := by decide +kernel
theorem hdX4_isSheet : yX4_isSheet.cls ≠ "java/lang/invoke/MethodHandle" ∧ yX4_isSheet.cls ≠ "java/lang/invoke/VarHandle" ∧ (parseMethodDescriptor yX4_isSheet.desc).map (fun d => d.parameters.length) = some 1 := by decide +kernel
theorem hdX4_isLane : yX4_isLane.cls ≠ "java/lang/invoke/MethodHandle" ∧ yX4_isLane.cls ≠ "java/lang/invoke/VarHandle" ∧ (parseMethodDescriptor yX4_isLane.desc).map (fun d => d.parameters.length) = some 1 := by decide +kernel
theorem hdX3_renew : yX3_renew.cls = RX3 ∧ yX3_renew.cls ≠ "java/lang/invoke/MethodHandle" ∧ yX3_renew.cls ≠ "java/lang/invoke/VarHandle" ∧ (parseMethodDescriptor yX3_renew.desc).map (fun d => d.parameters.length) = some 3 := by decide +kernel
theorem hdX3_drop : yX3_drop.cls = RX3 ∧ yX3_drop.cls ≠ "java/lang/invoke/MethodHandle" ∧ yX3_drop.cls ≠ "java/lang/invoke/VarHandle" ∧ (parseMethodDescriptor yX3_drop.desc).map (fun d => d.parameters.length) = some 1 := by decide +kernel
theorem hdX3_hasPlace : yX3_hasPlace.cls = RX3 ∧ yX3_hasPlace.cls ≠ "java/lang/invoke/MethodHandle" ∧ yX3_hasPlace.cls ≠ "java/lang/invoke/VarHandle" ∧ (parseMethodDescriptor yX3_hasPlace.desc).map (fun d => d.parameters.length) = some 2 := by decide +kernel
theorem hdX3_write : yX3_write.cls = RX3 ∧ yX3_write.cls ≠ "java/lang/invoke/MethodHandle" ∧ yX3_write.cls ≠ "java/lang/invoke/VarHandle" ∧ (parseMethodDescriptor yX3_write.desc).map (fun d => d.parameters.length) = some 3 := by decide +kernel
theorem hdX3_read : yX3_read.cls = RX3 ∧ yX3_read.cls ≠ "java/lang/invoke/MethodHandle" ∧ yX3_read.cls ≠ "java/lang/invoke/VarHandle" ∧ (parseMethodDescriptor yX3_read.desc).map (fun d => d.parameters.length) = some 2 := by decide +kernel
theorem hdX3_carry : yX3_carry.cls = RX3 ∧ yX3_carry.cls ≠ "java/lang/invoke/MethodHandle" ∧ yX3_carry.cls ≠ "java/lang/invoke/VarHandle" ∧ (parseMethodDescriptor yX3_carry.desc).map (fun d => d.parameters.length) = some 5 := by decide +kernel
set_option maxHeartbeats 4000000 in
set_option maxRecDepth 100000 in
theorem cx_odds (l : Launch) (D : va_G) (cI : ClassId) (sz : Nat) (x0 : Nat) (x1 : Nat) (x2 : Nat) (x3 : Nat) (x4 : Nat) (x5 : Nat) (x6 : Nat) (x7 : Nat) (x8 : Nat) (x9 : Nat) (x10 : Nat) (x11 : Nat) (x12 : Nat) (x13 : Nat) (x14 : Nat) (x15 : Nat) (x16 : Nat) (x17 : Nat) (x18 : Nat) (x19 : Nat) (x20 : Nat) (x21 : Nat) (x22 : Nat) (x23 : Nat) (x24 : Nat) (x25 : Nat) (x26 : Nat) (x27 : Nat) (x28 : Nat) (x29 : Nat) (x30 : Nat) (T : YS) (ts : Nat → Int32) (Y : YS) (ys : Nat → Int32) (tr : Int32) (fl : Int32) (p : Int32) (w : Int32) (hok : OkY T) : Met l yX4_odds wsX4_odds ({ frames := 5, cells := 0, slots := 0, locals := 121 }) (PQ D cI [.ref x0, .int p, .int w] (wXo x0 x1 x8 x15 x23 x27 tr fl ++ (wRoll cI x1 x2 x3 x4 x5 x6 x7 T ts ++ wRoll cI x8 x9 x10 x11 x12 x13 x14 Y ys)) sz) (QL (S := YS × (Nat → Int32)) D (fun r _ => r = oddsF T p w) (fun u => wXo x0 x1 x8 x15 x23 x27 tr fl ++ (wRoll cI x1 x2 x3 x4 x5 x6 x7 T ts ++ wRoll cI x8 x9 x10 x11 x12 x13 x14 u.1 u.2)) (va_A (wXo x0 x1 x8 x15 x23 x27 tr fl ++ (wRoll cI x1 x2 x3 x4 x5 x6 x7 T ts ++ wRoll cI x8 x9 x10 x11 x12 x13 x14 Y ys)) sz)) 0 0 (va_A (wXo x0 x1 x8 x15 x23 x27 tr fl ++ (wRoll cI x1 x2 x3 x4 x5 x6 x7 T ts ++ wRoll cI x8 x9 x10 x11 x12 x13 x14 Y ys)) sz) := by
  refine zk_Q (QL (S := YS × (Nat → Int32)) D (fun r _ => r = oddsF T p w) (fun u => wXo x0 x1 x8 x15 x23 x27 tr fl ++ (wRoll cI x1 x2 x3 x4 x5 x6 x7 T ts ++ wRoll cI x8 x9 x10 x11 x12 x13 x14 u.1 u.2))) (cc := cX4_odds) (maxL := 6) (ret := (some .long)) (by decide) rfl (Nat.le_of_ble_eq_true rfl) ?_
  intro pX eX sX mX bX tX cX hx hb hr hlocks hml hown hmn hts hP hK A hA hD hS ls hl
  have hl : lv_has ls 6 [(0, .ref x0), (1, .int p), (2, .int w)] := hl
  have hP : va_P D vwCl [(x0, .inr (4, [.ref x1, .ref x8, .ref x15, .ref x23, .ref x27, .int tr, .int fl])), (x1, .inr (2, [.int (nI T.D), .int (nI T.P), .int T.db, .int T.rm, .ref x2, .ref x3, .ref x4, .ref x5, .ref x6, .ref x7])), (x2, .inl (cI, 5, .inl T.hard)), (x3, .inl (cI, 4, .inl T.kind)), (x4, .inl (cI, 4, .inl T.wit)), (x5, .inl (cI, 4, .inl T.pat)), (x6, .inl (cI, 4, .inl T.pret)), (x7, .inl (cI, 5, .inl ts)), (x8, .inr (2, [.int (nI Y.D), .int (nI Y.P), .int Y.db, .int Y.rm, .ref x9, .ref x10, .ref x11, .ref x12, .ref x13, .ref x14])), (x9, .inl (cI, 5, .inl Y.hard)), (x10, .inl (cI, 4, .inl Y.kind)), (x11, .inl (cI, 4, .inl Y.wit)), (x12, .inl (cI, 4, .inl Y.pat)), (x13, .inl (cI, 4, .inl Y.pret)), (x14, .inl (cI, 5, .inl ys))] sX.heap := hP
  have hD : va_D A [(x0, .inr (4, [.ref x1, .ref x8, .ref x15, .ref x23, .ref x27, .int tr, .int fl])), (x1, .inr (2, [.int (nI T.D), .int (nI T.P), .int T.db, .int T.rm, .ref x2, .ref x3, .ref x4, .ref x5, .ref x6, .ref x7])), (x2, .inl (cI, 5, .inl T.hard)), (x3, .inl (cI, 4, .inl T.kind)), (x4, .inl (cI, 4, .inl T.wit)), (x5, .inl (cI, 4, .inl T.pat)), (x6, .inl (cI, 4, .inl T.pret)), (x7, .inl (cI, 5, .inl ts)), (x8, .inr (2, [.int (nI Y.D), .int (nI Y.P), .int Y.db, .int Y.rm, .ref x9, .ref x10, .ref x11, .ref x12, .ref x13, .ref x14])), (x9, .inl (cI, 5, .inl Y.hard)), (x10, .inl (cI, 4, .inl Y.kind)), (x11, .inl (cI, 4, .inl Y.wit)), (x12, .inl (cI, 4, .inl Y.pat)), (x13, .inl (cI, 4, .inl Y.pret)), (x14, .inl (cI, 5, .inl ys))] := hD
  have k_164 := hts (.constantLong RX4 164 (-9223372036854775808)) (by decide +kernel)
  have f_18 := hts (.fieldLink RX4 18 "DunceSee" "tried" "LDunceSee$Roll;") (by decide +kernel)
  have f_12 := hts (.fieldLink RX4 12 "DunceSee" "told" "LDunceSee$Roll;") (by decide +kernel)
  have f_76 := hK.nest (A := ([.ref x0, .int p, .int w] : List Value).toArray) 4 rfl
  have inX4 : ∀ w ∈ wsX40, w ∈ wsX4_odds := fun w h => List.mem_cons_of_mem _ (List.mem_append_left _ (List.mem_append_right _ h))
  have inX2 : ∀ w ∈ wsX20, w ∈ wsX4_odds := fun w h => List.mem_cons_of_mem _ (List.mem_append_right _ h)
  have hD5 : T.D ≤ 5 := hok.1
  have hP4 : T.P ≤ 4 := hok.2
  have h16 := pow16 hP4
  have h1p := Nat.two_pow_pos T.P
  refine lv_aload_n hx hb dX4_odds_0 rfl (lv_at hl 0 rfl) ?_
  refine lv_iload_n hx hb dX4_odds_1 rfl (lv_at hl 1 rfl) ?_
  refine zk_callVi (As := [.int p]) (rest := []) (bI (isP T.P p)) ⟨hx, hb, hml, hown, hts⟩ hK hP [0, 1, 2, 3, 4, 5, 6, 7] rfl (c_isPupil l D cI x0 x1 x2 x3 x4 x5 x6 x7 x8 x9 x10 x11 x12 x13 x14 x15 x16 x17 x18 x19 x20 x21 x22 x23 x24 x25 x26 x27 x28 x29 x30 T ts tr fl p ) (cwV 1 hts gX4_odds_X4_isPupil rfl rfl rfl hdX4_isPupil ⟨Nat.le_of_ble_eq_true rfl, Nat.le_of_ble_eq_true rfl⟩) rfl rfl rfl hl.1 rfl (Nat.le_of_ble_eq_true rfl) dX4_odds_2 ⟨Nat.le_of_ble_eq_true rfl, Nat.le_of_ble_eq_true rfl⟩ ?_
  refine zk_ifeqB (tgt := 17) hx hb dX4_odds_5 (by decide) (fun c_1 => ?_) (fun c_1 => ?_)
  · refine lv_ldc2 (v := (-9223372036854775808)) hx hb hown k_164 dX4_odds_17 ?_
    exact zk_retL hx hb hr hS ((Y, ys)) (by unfold oddsF; simp [c_1]) hP hD dX4_odds_20 hlocks
  · obtain ⟨j, hj, e_j, g_j⟩ := isP_of (by omega) c_1
    rw [e_j] at hl
    refine lv_iload_n hx hb dX4_odds_8 rfl (lv_at hl 2 rfl) ?_
    refine lv_if_lt (tgt := 17) hx hb dX4_odds_9 (by decide) (fun c_2 => ?_) (fun c_2 => ?_)
    · refine lv_ldc2 (v := (-9223372036854775808)) hx hb hown k_164 dX4_odds_17 ?_
      exact zk_retL hx hb hr hS ((Y, ys)) (by unfold oddsF; simp [c_1, g_j, c_2, (Int32.not_le.mpr c_2)]) hP hD dX4_odds_20 hlocks
    · have c_2 := Int32.not_lt.mp c_2
      refine lv_iload_n hx hb dX4_odds_12 rfl (lv_at hl 2 rfl) ?_
      refine lv_iconst (v := nI 1) hx hb dX4_odds_13 (by decide) ?_
      refine lv_icmp_le (tgt := 21) hx hb dX4_odds_14 (by decide) (fun c_3 => ?_) (fun c_3 => ?_)
      · refine lv_aload_n hx hb dX4_odds_21 rfl (lv_at hl 0 rfl) ?_
        refine va_get (D := D) (ci := 4) (v := .ref x8) (C := RX4) (T := TX4) (N := 7) hx hb hts inX4 hown hK.1 hP 0 rfl rfl 1 (by decide) f_18 (fun _ h9 => h9) rfl dX4_odds_22 ?_
        refine lv_aload_n hx hb dX4_odds_25 rfl (lv_at hl 0 rfl) ?_
        refine va_get (D := D) (ci := 4) (v := .ref x1) (C := RX4) (T := TX4) (N := 7) hx hb hts inX4 hown hK.1 hP 0 rfl rfl 0 (by decide) f_12 (fun _ h9 => h9) rfl dX4_odds_26 ?_
        refine zk_effVv (As := [.ref x1]) (rest := []) (S := Unit) (fun _ => True) (fun _ => wRoll cI x8 x9 x10 x11 x12 x13 x14 (T.sPret (fun _ => nI 0)) ys ++ wRoll cI x1 x2 x3 x4 x5 x6 x7 T ts) ⟨hx, hb, hml, hown, hts⟩ hK hP hD hS hA [8, 9, 10, 11, 12, 13, 14, 1, 2, 3, 4, 5, 6, 7] [0] (wc := [(x8, .inr (2, [.int (nI Y.D), .int (nI Y.P), .int Y.db, .int Y.rm, .ref x9, .ref x10, .ref x11, .ref x12, .ref x13, .ref x14])), (x9, .inl (cI, 5, .inl Y.hard)), (x10, .inl (cI, 4, .inl Y.kind)), (x11, .inl (cI, 4, .inl Y.wit)), (x12, .inl (cI, 4, .inl Y.pat)), (x13, .inl (cI, 4, .inl Y.pret)), (x14, .inl (cI, 5, .inl ys)), (x1, .inr (2, [.int (nI T.D), .int (nI T.P), .int T.db, .int T.rm, .ref x2, .ref x3, .ref x4, .ref x5, .ref x6, .ref x7])), (x2, .inl (cI, 5, .inl T.hard)), (x3, .inl (cI, 4, .inl T.kind)), (x4, .inl (cI, 4, .inl T.wit)), (x5, .inl (cI, 4, .inl T.pat)), (x6, .inl (cI, 4, .inl T.pret)), (x7, .inl (cI, 5, .inl ts))]) (wr := [(x0, .inr (4, [.ref x1, .ref x8, .ref x15, .ref x23, .ref x27, .int tr, .int fl]))]) rfl rfl (by decide) (by decide) (by decide) [0, 8, 9, 10, 11, 12, 13, 14, 1, 2, 3, 4, 5, 6, 7] (fun (_ : Unit) => [(x0, .inr (4, [.ref x1, .ref x8, .ref x15, .ref x23, .ref x27, .int tr, .int fl])), (x1, .inr (2, [.int (nI T.D), .int (nI T.P), .int T.db, .int T.rm, .ref x2, .ref x3, .ref x4, .ref x5, .ref x6, .ref x7])), (x2, .inl (cI, 5, .inl T.hard)), (x3, .inl (cI, 4, .inl T.kind)), (x4, .inl (cI, 4, .inl T.wit)), (x5, .inl (cI, 4, .inl T.pat)), (x6, .inl (cI, 4, .inl T.pret)), (x7, .inl (cI, 5, .inl ts)), (x8, .inr (2, [.int (nI ((T.sPret (fun _ => nI 0)).D)), .int (nI ((T.sPret (fun _ => nI 0)).P)), .int ((T.sPret (fun _ => nI 0)).db), .int ((T.sPret (fun _ => nI 0)).rm), .ref x9, .ref x10, .ref x11, .ref x12, .ref x13, .ref x14])), (x9, .inl (cI, 5, .inl ((T.sPret (fun _ => nI 0)).hard))), (x10, .inl (cI, 4, .inl ((T.sPret (fun _ => nI 0)).kind))), (x11, .inl (cI, 4, .inl ((T.sPret (fun _ => nI 0)).wit))), (x12, .inl (cI, 4, .inl ((T.sPret (fun _ => nI 0)).pat))), (x13, .inl (cI, 4, .inl ((T.sPret (fun _ => nI 0)).pret))), (x14, .inl (cI, 5, .inl ys))]) (fun _ => rfl) (by decide) (c_become l D cI sX.heap.size x8 x9 x10 x11 x12 x13 x14 Y ys x1 x2 x3 x4 x5 x6 x7 T ts ) (cwV 1 hts gX4_odds_X2_become rfl rfl rfl hdX2_become ⟨Nat.le_of_ble_eq_true rfl, Nat.le_of_ble_eq_true rfl⟩) rfl rfl rfl hl.1 rfl (Nat.le_of_ble_eq_true rfl) dX4_odds_29 ⟨Nat.le_of_ble_eq_true rfl, Nat.le_of_ble_eq_true rfl⟩ (fun _ H locs hw_5 hP hD hS => ?_)
        refine lv_iconst (v := nI 1) hx hb dX4_odds_32 (by decide) ?_
        refine lv_aload_n hx hb dX4_odds_33 rfl (lv_at hl 0 rfl) ?_
        refine va_get (D := D) (ci := 4) (v := .ref x1) (C := RX4) (T := TX4) (N := 7) hx hb hts inX4 hown hK.1 hP 0 rfl rfl 0 (by decide) f_12 (fun _ h9 => h9) rfl dX4_odds_34 ?_
        refine va_getN (D := D) (ci := 2) (v := .int (nI T.P)) (C := RX2) (T := TX2) (N := 10) hx hb hts inX2 hown hK.1 hP 1 rfl rfl 1 (by decide) f_76 (fun _ h9 => h9) rfl dX4_odds_37 ?_
        refine lv_ishl hx hb dX4_odds_40 ?_
        refine zk_top (y := nI (2 ^ T.P)) (shl2 _ hP4) ?_
        refine lv_istore_n (lv' := [(3, .int (nI (2 ^ T.P))), (0, .ref x0), (1, .int (nI j)), (2, .int w)]) hx hb dX4_odds_41 rfl hl (by decide) rfl (fun ls hl => ?_)
        refine lv_iconst (v := nI 0) hx hb dX4_odds_42 (by decide) ?_
        refine lv_istore (lv' := [(4, .int (nI 0)), (3, .int (nI (2 ^ T.P))), (0, .ref x0), (1, .int (nI j)), (2, .int w)]) hx hb dX4_odds_43 hl (by decide) rfl (fun ls hl => ?_)
        refine lv_iconst (v := nI 0) hx hb dX4_odds_45 (by decide) ?_
        refine lv_istore (lv' := [(5, .int (nI 0)), (4, .int (nI 0)), (3, .int (nI (2 ^ T.P))), (0, .ref x0), (1, .int (nI j)), (2, .int w)]) hx hb dX4_odds_46 hl (by decide) rfl (fun ls hl => ?_)
        have loop48 : ∀ (nL k : Nat) (pt : Nat → Int32) (yv : Nat → Int32), k ≤ (2 ^ T.P) → (2 ^ T.P) < k + nL → ∀ (H : Heap) (locs : List Loc), va_P D vwCl [(x0, .inr (4, [.ref x1, .ref x8, .ref x15, .ref x23, .ref x27, .int tr, .int fl])), (x1, .inr (2, [.int (nI T.D), .int (nI T.P), .int T.db, .int T.rm, .ref x2, .ref x3, .ref x4, .ref x5, .ref x6, .ref x7])), (x2, .inl (cI, 5, .inl T.hard)), (x3, .inl (cI, 4, .inl T.kind)), (x4, .inl (cI, 4, .inl T.wit)), (x5, .inl (cI, 4, .inl T.pat)), (x6, .inl (cI, 4, .inl T.pret)), (x7, .inl (cI, 5, .inl ts)), (x8, .inr (2, [.int (nI T.D), .int (nI T.P), .int T.db, .int T.rm, .ref x9, .ref x10, .ref x11, .ref x12, .ref x13, .ref x14])), (x9, .inl (cI, 5, .inl T.hard)), (x10, .inl (cI, 4, .inl T.kind)), (x11, .inl (cI, 4, .inl T.wit)), (x12, .inl (cI, 4, .inl T.pat)), (x13, .inl (cI, 4, .inl pt)), (x14, .inl (cI, 5, .inl yv))] H → va_D A [(x0, .inr (4, [.ref x1, .ref x8, .ref x15, .ref x23, .ref x27, .int tr, .int fl])), (x1, .inr (2, [.int (nI T.D), .int (nI T.P), .int T.db, .int T.rm, .ref x2, .ref x3, .ref x4, .ref x5, .ref x6, .ref x7])), (x2, .inl (cI, 5, .inl T.hard)), (x3, .inl (cI, 4, .inl T.kind)), (x4, .inl (cI, 4, .inl T.wit)), (x5, .inl (cI, 4, .inl T.pat)), (x6, .inl (cI, 4, .inl T.pret)), (x7, .inl (cI, 5, .inl ts)), (x8, .inr (2, [.int (nI T.D), .int (nI T.P), .int T.db, .int T.rm, .ref x9, .ref x10, .ref x11, .ref x12, .ref x13, .ref x14])), (x9, .inl (cI, 5, .inl T.hard)), (x10, .inl (cI, 4, .inl T.kind)), (x11, .inl (cI, 4, .inl T.wit)), (x12, .inl (cI, 4, .inl T.pat)), (x13, .inl (cI, 4, .inl pt)), (x14, .inl (cI, 5, .inl yv))] → va_S A sX.heap H locs → ∀ ls : Array Slot, lv_has ls 6 [(0, .ref x0), (1, .int (nI j)), (2, .int w), (3, .int (nI (2 ^ T.P))), (4, .int (nI (cnt k (odB T j)))), (5, .int (nI k))] → W pX l eX ({ frames := 5, cells := 0, slots := 0, locals := 121 }) sX mX ([.ref x0, .int p, .int w] : List Value).toArray bX tX cX H locs 0 0 (MQ bX (QL (S := YS × (Nat → Int32)) D (fun r _ => r = oddsF T p w) (fun u => wXo x0 x1 x8 x15 x23 x27 tr fl ++ (wRoll cI x1 x2 x3 x4 x5 x6 x7 T ts ++ wRoll cI x8 x9 x10 x11 x12 x13 x14 u.1 u.2)) A) ([.ref x0, .int p, .int w] : List Value).toArray sX 0 0 A) (F0 mX 48 ls []) := by
          intro nL
          induction nL with
          | zero => intro k pt yv h1 h2; exact absurd h2 (by omega)
          | succ nL ih =>
            intro k pt yv h_le h_n  H locs hP hD hS ls hl
            refine lv_iload hx hb dX4_odds_48 (lv_at hl 5 rfl) ?_
            refine lv_iload_n hx hb dX4_odds_50 rfl (lv_at hl 3 rfl) ?_
            refine zk_icmp_ge (tgt := 80) hx hb dX4_odds_51 (by decide) (by omega) (by omega) (fun c_6 => ?_) (fun c_6 => ?_)
            · have e_k : k = 2 ^ T.P := by omega
              subst e_k
              have h_g := Nat.gcd_pos_of_pos_left (cnt (2 ^ T.P) (odB T j)) h1p
              have h_g2 := Nat.gcd_le_left (cnt (2 ^ T.P) (odB T j)) h1p
              have h_c := cnt_le (2 ^ T.P) (odB T j)
              refine lv_iload_n hx hb dX4_odds_80 rfl (lv_at hl 3 rfl) ?_
              refine lv_iload hx hb dX4_odds_81 (lv_at hl 4 rfl) ?_
              refine zk_callSi (As := [.int (nI (2 ^ T.P)), .int (nI (cnt (2 ^ T.P) (odB T j)))]) (rest := []) (nI (Nat.gcd (2 ^ T.P) (cnt (2 ^ T.P) (odB T j)))) ⟨hx, hb, hml, hown, hts⟩ hK hP [] rfl (c_comDiv l D cI (2 ^ T.P) (cnt (2 ^ T.P) (odB T j)) h1p h16 (by have := cnt_le (2 ^ T.P) (odB T j); omega)) (va_cwS 2 hts gX4_odds_X4_commonDivisor rfl rfl rfl hdX4_commonDivisor ⟨Nat.le_of_ble_eq_true rfl, Nat.le_of_ble_eq_true rfl⟩) rfl hl.1 rfl (Nat.le_of_ble_eq_true rfl) dX4_odds_83 ⟨Nat.le_of_ble_eq_true rfl, Nat.le_of_ble_eq_true rfl⟩ ?_
              refine lv_istore (lv' := [(5, .int (nI (Nat.gcd (2 ^ T.P) (cnt (2 ^ T.P) (odB T j))))), (0, .ref x0), (1, .int (nI j)), (2, .int w), (3, .int (nI (2 ^ T.P))), (4, .int (nI (cnt (2 ^ T.P) (odB T j))))]) hx hb dX4_odds_86 hl (by decide) rfl (fun ls hl => ?_)
              refine lv_iload_n hx hb dX4_odds_88 rfl (lv_at hl 3 rfl) ?_
              refine lv_if_ne (tgt := 101) hx hb dX4_odds_89 (by decide) (fun c_7 => ?_) (fun c_7 => ?_)
              · refine lv_iload_n hx hb dX4_odds_101 rfl (lv_at hl 4 rfl) ?_
                refine lv_iload hx hb dX4_odds_102 (lv_at hl 0 rfl) ?_
                refine lv_idiv hx hb dX4_odds_104 (nI_ne0 h_g (by omega)) ?_
                refine zk_top (y := nI (2 ^ T.P / Nat.gcd (2 ^ T.P) (cnt (2 ^ T.P) (odB T j)))) (pk_div (by omega) h_g (by omega)) ?_
                refine lv_i2l (v := lN (2 ^ T.P / Nat.gcd (2 ^ T.P) (cnt (2 ^ T.P) (odB T j)))) hx hb dX4_odds_105 (nI_l (by have := Nat.div_le_self (2 ^ T.P) (Nat.gcd (2 ^ T.P) (cnt (2 ^ T.P) (odB T j))); omega)) ?_
                exact zk_retL hx hb hr hS (((T.D, T.P, T.db, T.rm, T.hard, T.kind, T.wit, T.pat, pt), yv)) (by unfold oddsF; rw [if_pos (show (isP T.P p && (decide (0 ≤ w) && decide (w ≤ nI 1))) = true from by simp [c_1, c_2, (Int32.not_lt.mpr c_2), c_3, (Int32.not_lt.mpr c_3), c_6, (Nat.not_lt.mpr c_6)]), if_neg c_7, g_j]) hP hD dX4_odds_106 hlocks
              · refine lv_iload hx hb dX4_odds_92 (lv_at hl 5 rfl) ?_
                refine lv_iload hx hb dX4_odds_94 (lv_at hl 0 rfl) ?_
                refine lv_idiv hx hb dX4_odds_96 (nI_ne0 h_g (by omega)) ?_
                refine zk_top (y := nI (cnt (2 ^ T.P) (odB T j) / Nat.gcd (2 ^ T.P) (cnt (2 ^ T.P) (odB T j)))) (pk_div (by omega) h_g (by omega)) ?_
                refine lv_i2l (v := lN (cnt (2 ^ T.P) (odB T j) / Nat.gcd (2 ^ T.P) (cnt (2 ^ T.P) (odB T j)))) hx hb dX4_odds_97 (nI_l (by have := Nat.div_le_self (cnt (2 ^ T.P) (odB T j)) (Nat.gcd (2 ^ T.P) (cnt (2 ^ T.P) (odB T j))); omega)) ?_
                refine lv_goto (tgt := 106) hx hb dX4_odds_98 (by decide) ?_
                exact zk_retL hx hb hr hS (((T.D, T.P, T.db, T.rm, T.hard, T.kind, T.wit, T.pat, pt), yv)) (by unfold oddsF; rw [if_pos (show (isP T.P p && (decide (0 ≤ w) && decide (w ≤ nI 1))) = true from by simp [c_1, c_2, (Int32.not_lt.mpr c_2), c_3, (Int32.not_lt.mpr c_3), c_6, (Nat.not_lt.mpr c_6)]), if_pos c_7, g_j]) hP hD dX4_odds_106 hlocks
            · refine lv_aload_n hx hb dX4_odds_54 rfl (lv_at hl 0 rfl) ?_
              refine va_get (D := D) (ci := 4) (v := .ref x8) (C := RX4) (T := TX4) (N := 7) hx hb hts inX4 hown hK.1 hP 0 rfl rfl 1 (by decide) f_18 (fun _ h9 => h9) rfl dX4_odds_55 ?_
              refine lv_iload hx hb dX4_odds_58 (lv_at hl 5 rfl) ?_
              refine zk_effVv (As := [.int (nI k)]) (rest := []) (S := Unit) (fun _ => True) (fun _ => wRoll cI x8 x9 x10 x11 x12 x13 x14 ((T.sPret pt).sPret (tab (T.sPret pt).P (fun p => if hbit (nI k) p then nI (aD (T.sPret pt).D) else nI 0) (T.sPret pt).pret)) yv) ⟨hx, hb, hml, hown, hts⟩ hK hP hD hS hA [8, 9, 10, 11, 12, 13, 14] [0, 1, 2, 3, 4, 5, 6, 7] (wc := [(x8, .inr (2, [.int (nI T.D), .int (nI T.P), .int T.db, .int T.rm, .ref x9, .ref x10, .ref x11, .ref x12, .ref x13, .ref x14])), (x9, .inl (cI, 5, .inl T.hard)), (x10, .inl (cI, 4, .inl T.kind)), (x11, .inl (cI, 4, .inl T.wit)), (x12, .inl (cI, 4, .inl T.pat)), (x13, .inl (cI, 4, .inl pt)), (x14, .inl (cI, 5, .inl yv))]) (wr := [(x0, .inr (4, [.ref x1, .ref x8, .ref x15, .ref x23, .ref x27, .int tr, .int fl])), (x1, .inr (2, [.int (nI T.D), .int (nI T.P), .int T.db, .int T.rm, .ref x2, .ref x3, .ref x4, .ref x5, .ref x6, .ref x7])), (x2, .inl (cI, 5, .inl T.hard)), (x3, .inl (cI, 4, .inl T.kind)), (x4, .inl (cI, 4, .inl T.wit)), (x5, .inl (cI, 4, .inl T.pat)), (x6, .inl (cI, 4, .inl T.pret)), (x7, .inl (cI, 5, .inl ts))]) rfl rfl (by decide) (by decide) (by decide) [0, 1, 2, 3, 4, 5, 6, 7, 8, 9, 10, 11, 12, 13, 14] (fun (_ : Unit) => [(x0, .inr (4, [.ref x1, .ref x8, .ref x15, .ref x23, .ref x27, .int tr, .int fl])), (x1, .inr (2, [.int (nI T.D), .int (nI T.P), .int T.db, .int T.rm, .ref x2, .ref x3, .ref x4, .ref x5, .ref x6, .ref x7])), (x2, .inl (cI, 5, .inl T.hard)), (x3, .inl (cI, 4, .inl T.kind)), (x4, .inl (cI, 4, .inl T.wit)), (x5, .inl (cI, 4, .inl T.pat)), (x6, .inl (cI, 4, .inl T.pret)), (x7, .inl (cI, 5, .inl ts)), (x8, .inr (2, [.int (nI (((T.sPret pt).sPret (tab (T.sPret pt).P (fun p => if hbit (nI k) p then nI (aD (T.sPret pt).D) else nI 0) (T.sPret pt).pret)).D)), .int (nI (((T.sPret pt).sPret (tab (T.sPret pt).P (fun p => if hbit (nI k) p then nI (aD (T.sPret pt).D) else nI 0) (T.sPret pt).pret)).P)), .int (((T.sPret pt).sPret (tab (T.sPret pt).P (fun p => if hbit (nI k) p then nI (aD (T.sPret pt).D) else nI 0) (T.sPret pt).pret)).db), .int (((T.sPret pt).sPret (tab (T.sPret pt).P (fun p => if hbit (nI k) p then nI (aD (T.sPret pt).D) else nI 0) (T.sPret pt).pret)).rm), .ref x9, .ref x10, .ref x11, .ref x12, .ref x13, .ref x14])), (x9, .inl (cI, 5, .inl (((T.sPret pt).sPret (tab (T.sPret pt).P (fun p => if hbit (nI k) p then nI (aD (T.sPret pt).D) else nI 0) (T.sPret pt).pret)).hard))), (x10, .inl (cI, 4, .inl (((T.sPret pt).sPret (tab (T.sPret pt).P (fun p => if hbit (nI k) p then nI (aD (T.sPret pt).D) else nI 0) (T.sPret pt).pret)).kind))), (x11, .inl (cI, 4, .inl (((T.sPret pt).sPret (tab (T.sPret pt).P (fun p => if hbit (nI k) p then nI (aD (T.sPret pt).D) else nI 0) (T.sPret pt).pret)).wit))), (x12, .inl (cI, 4, .inl (((T.sPret pt).sPret (tab (T.sPret pt).P (fun p => if hbit (nI k) p then nI (aD (T.sPret pt).D) else nI 0) (T.sPret pt).pret)).pat))), (x13, .inl (cI, 4, .inl (((T.sPret pt).sPret (tab (T.sPret pt).P (fun p => if hbit (nI k) p then nI (aD (T.sPret pt).D) else nI 0) (T.sPret pt).pret)).pret))), (x14, .inl (cI, 5, .inl yv))]) (fun _ => rfl) (by decide) (c_pretendAll l D cI H.size x8 x9 x10 x11 x12 x13 x14 (T.sPret pt) yv (nI k) hok) (cwV 1 hts gX4_odds_X2_pretendAllDays rfl rfl rfl hdX2_pretendAllDays ⟨Nat.le_of_ble_eq_true rfl, Nat.le_of_ble_eq_true rfl⟩) rfl rfl rfl hl.1 rfl (Nat.le_of_ble_eq_true rfl) dX4_odds_60 ⟨Nat.le_of_ble_eq_true rfl, Nat.le_of_ble_eq_true rfl⟩ (fun _ H locs hw_9 hP hD hS => ?_)
              refine lv_aload_n hx hb dX4_odds_63 rfl (lv_at hl 0 rfl) ?_
              refine lv_iload_n hx hb dX4_odds_64 rfl (lv_at hl 1 rfl) ?_
              refine zk_effVi (As := [.int (nI j)]) (rest := []) (S := Unit) (fun r _ => r = bI (decide (bish (T.sPret (tab T.P (fun p => if hbit (nI k) p then nI (aD T.D) else nI 0) pt)) = nI j))) (fun _ => wXo x0 x1 x8 x15 x23 x27 tr fl ++ wRoll cI x8 x9 x10 x11 x12 x13 x14 (T.sPret (tab T.P (fun p => if hbit (nI k) p then nI (aD T.D) else nI 0) pt)) (stn (T.sPret (tab T.P (fun p => if hbit (nI k) p then nI (aD T.D) else nI 0) pt)) yv)) ⟨hx, hb, hml, hown, hts⟩ hK hP hD hS hA [0, 8, 9, 10, 11, 12, 13, 14] [1, 2, 3, 4, 5, 6, 7] (wc := [(x0, .inr (4, [.ref x1, .ref x8, .ref x15, .ref x23, .ref x27, .int tr, .int fl])), (x8, .inr (2, [.int (nI (((T.sPret pt).sPret (tab (T.sPret pt).P (fun p => if hbit (nI k) p then nI (aD (T.sPret pt).D) else nI 0) (T.sPret pt).pret)).D)), .int (nI (((T.sPret pt).sPret (tab (T.sPret pt).P (fun p => if hbit (nI k) p then nI (aD (T.sPret pt).D) else nI 0) (T.sPret pt).pret)).P)), .int (((T.sPret pt).sPret (tab (T.sPret pt).P (fun p => if hbit (nI k) p then nI (aD (T.sPret pt).D) else nI 0) (T.sPret pt).pret)).db), .int (((T.sPret pt).sPret (tab (T.sPret pt).P (fun p => if hbit (nI k) p then nI (aD (T.sPret pt).D) else nI 0) (T.sPret pt).pret)).rm), .ref x9, .ref x10, .ref x11, .ref x12, .ref x13, .ref x14])), (x9, .inl (cI, 5, .inl (((T.sPret pt).sPret (tab (T.sPret pt).P (fun p => if hbit (nI k) p then nI (aD (T.sPret pt).D) else nI 0) (T.sPret pt).pret)).hard))), (x10, .inl (cI, 4, .inl (((T.sPret pt).sPret (tab (T.sPret pt).P (fun p => if hbit (nI k) p then nI (aD (T.sPret pt).D) else nI 0) (T.sPret pt).pret)).kind))), (x11, .inl (cI, 4, .inl (((T.sPret pt).sPret (tab (T.sPret pt).P (fun p => if hbit (nI k) p then nI (aD (T.sPret pt).D) else nI 0) (T.sPret pt).pret)).wit))), (x12, .inl (cI, 4, .inl (((T.sPret pt).sPret (tab (T.sPret pt).P (fun p => if hbit (nI k) p then nI (aD (T.sPret pt).D) else nI 0) (T.sPret pt).pret)).pat))), (x13, .inl (cI, 4, .inl (((T.sPret pt).sPret (tab (T.sPret pt).P (fun p => if hbit (nI k) p then nI (aD (T.sPret pt).D) else nI 0) (T.sPret pt).pret)).pret))), (x14, .inl (cI, 5, .inl yv))]) (wr := [(x1, .inr (2, [.int (nI T.D), .int (nI T.P), .int T.db, .int T.rm, .ref x2, .ref x3, .ref x4, .ref x5, .ref x6, .ref x7])), (x2, .inl (cI, 5, .inl T.hard)), (x3, .inl (cI, 4, .inl T.kind)), (x4, .inl (cI, 4, .inl T.wit)), (x5, .inl (cI, 4, .inl T.pat)), (x6, .inl (cI, 4, .inl T.pret)), (x7, .inl (cI, 5, .inl ts))]) rfl rfl (by decide) (by decide) (by decide) [7, 0, 1, 2, 3, 4, 5, 6, 8, 9, 10, 11, 12, 13, 14] (fun (_ : Unit) => [(x0, .inr (4, [.ref x1, .ref x8, .ref x15, .ref x23, .ref x27, .int tr, .int fl])), (x1, .inr (2, [.int (nI T.D), .int (nI T.P), .int T.db, .int T.rm, .ref x2, .ref x3, .ref x4, .ref x5, .ref x6, .ref x7])), (x2, .inl (cI, 5, .inl T.hard)), (x3, .inl (cI, 4, .inl T.kind)), (x4, .inl (cI, 4, .inl T.wit)), (x5, .inl (cI, 4, .inl T.pat)), (x6, .inl (cI, 4, .inl T.pret)), (x7, .inl (cI, 5, .inl ts)), (x8, .inr (2, [.int (nI ((T.sPret (tab T.P (fun p => if hbit (nI k) p then nI (aD T.D) else nI 0) pt)).D)), .int (nI ((T.sPret (tab T.P (fun p => if hbit (nI k) p then nI (aD T.D) else nI 0) pt)).P)), .int ((T.sPret (tab T.P (fun p => if hbit (nI k) p then nI (aD T.D) else nI 0) pt)).db), .int ((T.sPret (tab T.P (fun p => if hbit (nI k) p then nI (aD T.D) else nI 0) pt)).rm), .ref x9, .ref x10, .ref x11, .ref x12, .ref x13, .ref x14])), (x9, .inl (cI, 5, .inl ((T.sPret (tab T.P (fun p => if hbit (nI k) p then nI (aD T.D) else nI 0) pt)).hard))), (x10, .inl (cI, 4, .inl ((T.sPret (tab T.P (fun p => if hbit (nI k) p then nI (aD T.D) else nI 0) pt)).kind))), (x11, .inl (cI, 4, .inl ((T.sPret (tab T.P (fun p => if hbit (nI k) p then nI (aD T.D) else nI 0) pt)).wit))), (x12, .inl (cI, 4, .inl ((T.sPret (tab T.P (fun p => if hbit (nI k) p then nI (aD T.D) else nI 0) pt)).pat))), (x13, .inl (cI, 4, .inl ((T.sPret (tab T.P (fun p => if hbit (nI k) p then nI (aD T.D) else nI 0) pt)).pret))), (x14, .inl (cI, 5, .inl (stn (T.sPret (tab T.P (fun p => if hbit (nI k) p then nI (aD T.D) else nI 0) pt)) yv)))]) (fun _ => rfl) (by decide) (c_isBish l D cI H.size x0 x1 x2 x3 x4 x5 x6 x7 x8 x9 x10 x11 x12 x13 x14 x15 x16 x17 x18 x19 x20 x21 x22 x23 x24 x25 x26 x27 x28 x29 x30 (T.sPret (tab T.P (fun p => if hbit (nI k) p then nI (aD T.D) else nI 0) pt)) yv tr fl j hok) (cwV 1 hts gX4_odds_X4_isBishopAsTried rfl rfl rfl hdX4_isBishopAsTried ⟨Nat.le_of_ble_eq_true rfl, Nat.le_of_ble_eq_true rfl⟩) rfl rfl rfl hl.1 rfl (Nat.le_of_ble_eq_true rfl) dX4_odds_65 ⟨Nat.le_of_ble_eq_true rfl, Nat.le_of_ble_eq_true rfl⟩ (fun r_10 _ H locs hw_11 hP hD hS => ?_)
              have e_r_10 : r_10 = bI (odB T j k) := hw_11.trans (by unfold odB; rw [bish_c (Y := T.sPret (tab T.P (fun p => if hbit (nI k) p then nI (aD T.D) else nI 0) pt)) (Z := T.po k) ⟨rfl, rfl, rfl, rfl, fun _ _ => rfl, fun p hp => ⟨rfl, rfl, rfl, tab_lt (k := T.P) (j := p) hp (fun p => if hbit (nI k) p then nI (aD T.D) else nI 0) pt⟩⟩])
              rw [e_r_10]
              refine zk_ifeqB (tgt := 74) hx hb dX4_odds_68 (by decide) (fun c_12 => ?_) (fun c_12 => ?_)
              · refine lv_iinc (v := nI (k + 1)) (lv' := [(5, .int (nI (k + 1))), (0, .ref x0), (1, .int (nI j)), (2, .int w), (3, .int (nI (2 ^ T.P))), (4, .int (nI (cnt k (odB T j))))]) hx hb dX4_odds_74 hl (k := 5) rfl (by rw [show (Int32.ofInt 1) = nI 1 from by decide, nI_add]) (by decide) rfl (fun ls hl => ?_)
                refine lv_goto (tgt := 48) hx hb dX4_odds_77 (by decide) ?_
                have hl := lv_sub hl [1, 2, 3, 4, 5, 0] rfl
                have e_4 : nI (cnt k (odB T j)) = nI (cnt (k + 1) (odB T j)) := cnt_no c_12
                rw [e_4] at hl
                exact ih (k + 1) (tab T.P (fun p => if hbit (nI k) p then nI (aD T.D) else nI 0) pt) (stn (T.sPret (tab T.P (fun p => if hbit (nI k) p then nI (aD T.D) else nI 0) pt)) yv) (by omega) (by omega)  _ _ hP hD hS ls hl
              · refine lv_iinc (v := nI (cnt k (odB T j) + 1)) (lv' := [(4, .int (nI (cnt k (odB T j) + 1))), (0, .ref x0), (1, .int (nI j)), (2, .int w), (3, .int (nI (2 ^ T.P))), (5, .int (nI k))]) hx hb dX4_odds_71 hl (k := 4) rfl (by rw [show (Int32.ofInt 1) = nI 1 from by decide, nI_add]) (by decide) rfl (fun ls hl => ?_)
                refine lv_iinc (v := nI (k + 1)) (lv' := [(5, .int (nI (k + 1))), (4, .int (nI (cnt k (odB T j) + 1))), (0, .ref x0), (1, .int (nI j)), (2, .int w), (3, .int (nI (2 ^ T.P)))]) hx hb dX4_odds_74 hl (k := 5) rfl (by rw [show (Int32.ofInt 1) = nI 1 from by decide, nI_add]) (by decide) rfl (fun ls hl => ?_)
                refine lv_goto (tgt := 48) hx hb dX4_odds_77 (by decide) ?_
                have hl := lv_sub hl [2, 3, 4, 5, 1, 0] rfl
                have e_4 : nI (cnt k (odB T j) + 1) = nI (cnt (k + 1) (odB T j)) := cnt_in c_12
                rw [e_4] at hl
                exact ih (k + 1) (tab T.P (fun p => if hbit (nI k) p then nI (aD T.D) else nI 0) pt) (stn (T.sPret (tab T.P (fun p => if hbit (nI k) p then nI (aD T.D) else nI 0) pt)) yv) (by omega) (by omega)  _ _ hP hD hS ls hl
        have hl := lv_sub hl [3, 4, 5, 2, 1, 0] rfl
        have e_4 : nI 0 = nI (cnt 0 (odB T j)) := by rfl
        have hl : lv_has ls 6 [(0, .ref x0), (1, .int (nI j)), (2, .int w), (3, .int (nI (2 ^ T.P))), (4, .int (nI (cnt 0 (odB T j)))), (5, .int (nI 0))] := by
          first | exact hl | (rw [← e_4]; exact hl) | (simp only [e_4] at hl ⊢; exact hl)
        exact loop48 (((2 ^ T.P)) + 1) 0 (fun _ => nI 0) ys (by omega) (by omega)  _ _ hP hD hS ls hl
      · have c_3 := Int32.not_le.mp c_3
        refine lv_ldc2 (v := (-9223372036854775808)) hx hb hown k_164 dX4_odds_17 ?_
        exact zk_retL hx hb hr hS ((Y, ys)) (by unfold oddsF; simp [c_1, g_j, c_2, (Int32.not_lt.mpr c_2), c_3, (Int32.not_le.mpr c_3)]) hP hD dX4_odds_20 hlocks
set_option maxHeartbeats 4000000 in
set_option maxRecDepth 100000 in
theorem cx_sheet (l : Launch) (D : va_G) (cI : ClassId) (sz : Nat) (x0 : Nat) (x1 : Nat) (x2 : Nat) (x3 : Nat) (x4 : Nat) (x5 : Nat) (x6 : Nat) (x7 : Nat) (x8 : Nat) (x9 : Nat) (x10 : Nat) (x11 : Nat) (x12 : Nat) (x13 : Nat) (x14 : Nat) (x15 : Nat) (x16 : Nat) (x17 : Nat) (x18 : Nat) (x19 : Nat) (x20 : Nat) (x21 : Nat) (x22 : Nat) (x23 : Nat) (x24 : Nat) (x25 : Nat) (x26 : Nat) (x27 : Nat) (x28 : Nat) (x29 : Nat) (x30 : Nat) (cl : Nat → Int32) (ln : Nat → Int32) (sz0 : Nat → Int32) (tr : Int32) (fl : Int32) (k : Int32) (lane : Int32) (n : Int32)  : Met l yX4_sheet wsX4_sheet ({ frames := 3, cells := 0, slots := 0, locals := 69 }) (PQ D cI [.ref x0, .int k, .int lane, .int n] (wXo x0 x1 x8 x15 x23 x27 tr fl ++ wSh cI x27 x28 x29 x30 cl ln sz0) sz) (QI (S := Unit) D (fun r _ => r = (sheetF cl ln sz0 k lane n).1) (fun _ => wXo x0 x1 x8 x15 x23 x27 tr ((sheetF cl ln sz0 k lane n).2.1) ++ wSh cI x27 x28 x29 x30 ((sheetF cl ln sz0 k lane n).2.2.1) ((sheetF cl ln sz0 k lane n).2.2.2.1) ((sheetF cl ln sz0 k lane n).2.2.2.2)) (va_A (wXo x0 x1 x8 x15 x23 x27 tr fl ++ wSh cI x27 x28 x29 x30 cl ln sz0) sz)) 0 0 (va_A (wXo x0 x1 x8 x15 x23 x27 tr fl ++ wSh cI x27 x28 x29 x30 cl ln sz0) sz) := by
  refine zk_Q (QI (S := Unit) D (fun r _ => r = (sheetF cl ln sz0 k lane n).1) (fun _ => wXo x0 x1 x8 x15 x23 x27 tr ((sheetF cl ln sz0 k lane n).2.1) ++ wSh cI x27 x28 x29 x30 ((sheetF cl ln sz0 k lane n).2.2.1) ((sheetF cl ln sz0 k lane n).2.2.2.1) ((sheetF cl ln sz0 k lane n).2.2.2.2))) (cc := cX4_sheet) (maxL := 4) (ret := (some .int)) (by decide) rfl (Nat.le_of_ble_eq_true rfl) ?_
  intro pX eX sX mX bX tX cX hx hb hr hlocks hml hown hmn hts hP hK A hA hD hS ls hl
  have hl : lv_has ls 4 [(0, .ref x0), (1, .int k), (2, .int lane), (3, .int n)] := hl
  have hP : va_P D vwCl [(x0, .inr (4, [.ref x1, .ref x8, .ref x15, .ref x23, .ref x27, .int tr, .int fl])), (x27, .inr (3, [.ref x28, .ref x29, .ref x30])), (x28, .inl (cI, 240, .inl cl)), (x29, .inl (cI, 4, .inl ln)), (x30, .inl (cI, 4, .inl sz0))] sX.heap := hP
  have hD : va_D A [(x0, .inr (4, [.ref x1, .ref x8, .ref x15, .ref x23, .ref x27, .int tr, .int fl])), (x27, .inr (3, [.ref x28, .ref x29, .ref x30])), (x28, .inl (cI, 240, .inl cl)), (x29, .inl (cI, 4, .inl ln)), (x30, .inl (cI, 4, .inl sz0))] := hD
  have f_42 := hts (.fieldLink RX4 42 "DunceSee" "fault" "I") (by decide +kernel)
  have f_38 := hts (.fieldLink RX4 38 "DunceSee" "sheets" "LDunceSee$Sheets;") (by decide +kernel)
  have inX4 : ∀ w ∈ wsX40, w ∈ wsX4_sheet := fun w h => List.mem_cons_of_mem _ (List.mem_append_left _ (List.mem_append_right _ h))
  have inX3 : ∀ w ∈ wsX30, w ∈ wsX4_sheet := fun w h => List.mem_cons_of_mem _ (List.mem_append_right _ h)
  refine lv_aload_n hx hb dX4_sheet_0 rfl (lv_at hl 0 rfl) ?_
  refine lv_iconst (v := nI 0) hx hb dX4_sheet_1 (by decide) ?_
  refine va_put (D := D) (ci := 4) (v := .int (nI 0)) (ty := .int) (C := RX4) (T := TX4) (N := 7) hx hb hts inX4 tyX4 tyX4_ok nmX4 hown hK.1 hP hD hS 0 rfl rfl 6 (by decide) f_42 (fun _ h9 => h9) rfl (by decide +kernel) rfl rfl (Nat.le_of_ble_eq_true rfl) dX4_sheet_2 (fun H locs hP hD hS => ?_)
  have hP : va_P D vwCl [(x0, .inr (4, [.ref x1, .ref x8, .ref x15, .ref x23, .ref x27, .int tr, .int (nI 0)])), (x27, .inr (3, [.ref x28, .ref x29, .ref x30])), (x28, .inl (cI, 240, .inl cl)), (x29, .inl (cI, 4, .inl ln)), (x30, .inl (cI, 4, .inl sz0))] H := hP
  have hD : va_D A [(x0, .inr (4, [.ref x1, .ref x8, .ref x15, .ref x23, .ref x27, .int tr, .int (nI 0)])), (x27, .inr (3, [.ref x28, .ref x29, .ref x30])), (x28, .inl (cI, 240, .inl cl)), (x29, .inl (cI, 4, .inl ln)), (x30, .inl (cI, 4, .inl sz0))] := hD
  refine lv_iload_n hx hb dX4_sheet_5 rfl (lv_at hl 1 rfl) ?_
  refine zk_callSi (As := [.int k]) (rest := []) (bI (isP 4 k)) ⟨hx, hb, hml, hown, hts⟩ hK hP [] rfl (c_isSheet l D cI k ) (va_cwS 1 hts gX4_sheet_X4_isSheet rfl rfl rfl hdX4_isSheet ⟨Nat.le_of_ble_eq_true rfl, Nat.le_of_ble_eq_true rfl⟩) rfl hl.1 rfl (Nat.le_of_ble_eq_true rfl) dX4_sheet_6 ⟨Nat.le_of_ble_eq_true rfl, Nat.le_of_ble_eq_true rfl⟩ ?_
  refine zk_ifneB (tgt := 14) hx hb dX4_sheet_9 (by decide) (fun c_1 => ?_) (fun c_1 => ?_)
  · obtain ⟨j, hj, e_j, g_j⟩ := isP_of (by omega) c_1
    rw [e_j] at hl
    refine lv_iload_n hx hb dX4_sheet_14 rfl (lv_at hl 2 rfl) ?_
    refine zk_callSi (As := [.int lane]) (rest := []) (bI (isP 3 lane)) ⟨hx, hb, hml, hown, hts⟩ hK hP [] rfl (c_isLane l D cI lane ) (va_cwS 1 hts gX4_sheet_X4_isLane rfl rfl rfl hdX4_isLane ⟨Nat.le_of_ble_eq_true rfl, Nat.le_of_ble_eq_true rfl⟩) rfl hl.1 rfl (Nat.le_of_ble_eq_true rfl) dX4_sheet_15 ⟨Nat.le_of_ble_eq_true rfl, Nat.le_of_ble_eq_true rfl⟩ ?_
    refine zk_ifeqB (tgt := 27) hx hb dX4_sheet_18 (by decide) (fun c_2 => ?_) (fun c_2 => ?_)
    · refine lv_bipush (v := (-2)) hx hb dX4_sheet_27 (by decide) ?_
      have e_t : sheetF cl ln sz0 k lane n = ((-2), nI 0, cl, ln, sz0) := by simp [sheetF, c_1, g_j, c_2]
      exact zk_retI hx hb hr hS (()) (by rw [e_t]) (by rw [e_t]; exact hP) (by rw [e_t]; exact hD) dX4_sheet_29 hlocks
    · refine lv_iload_n hx hb dX4_sheet_21 rfl (lv_at hl 3 rfl) ?_
      refine lv_bipush (v := nI 60) hx hb dX4_sheet_22 (by decide) ?_
      refine lv_icmp_le (tgt := 30) hx hb dX4_sheet_24 (by decide) (fun c_3 => ?_) (fun c_3 => ?_)
      · refine lv_iload_n hx hb dX4_sheet_30 rfl (lv_at hl 3 rfl) ?_
        refine lv_if_ge (tgt := 40) hx hb dX4_sheet_31 (by decide) (fun c_4 => ?_) (fun c_4 => ?_)
        · obtain ⟨m, hm, e_m, g_m⟩ := le_of (n := 60) (by omega) c_4 c_3
          rw [e_m] at hl
          refine lv_aload_n hx hb dX4_sheet_40 rfl (lv_at hl 0 rfl) ?_
          refine va_get (D := D) (ci := 4) (v := .ref x27) (C := RX4) (T := TX4) (N := 7) hx hb hts inX4 hown hK.1 hP 0 rfl rfl 4 (by decide) f_38 (fun _ h9 => h9) rfl dX4_sheet_41 ?_
          refine lv_iload_n hx hb dX4_sheet_44 rfl (lv_at hl 1 rfl) ?_
          refine lv_iload_n hx hb dX4_sheet_45 rfl (lv_at hl 2 rfl) ?_
          refine lv_iload_n hx hb dX4_sheet_46 rfl (lv_at hl 3 rfl) ?_
          refine zk_effVv (As := [.int (nI j), .int lane, .int (nI m)]) (rest := []) (S := Unit) (fun _ => True) (fun _ => wSh cI x27 x28 x29 x30 (fillR cl (j * 60) (j * 60 + m) (nI 0)) (upd ln j lane) (upd sz0 j (nI m))) ⟨hx, hb, hml, hown, hts⟩ hK hP hD hS hA [1, 2, 3, 4] [0] (wc := [(x27, .inr (3, [.ref x28, .ref x29, .ref x30])), (x28, .inl (cI, 240, .inl cl)), (x29, .inl (cI, 4, .inl ln)), (x30, .inl (cI, 4, .inl sz0))]) (wr := [(x0, .inr (4, [.ref x1, .ref x8, .ref x15, .ref x23, .ref x27, .int tr, .int (nI 0)]))]) rfl rfl (by decide) (by decide) (by decide) [0, 1, 2, 3, 4] (fun (_ : Unit) => [(x0, .inr (4, [.ref x1, .ref x8, .ref x15, .ref x23, .ref x27, .int tr, .int (nI 0)])), (x27, .inr (3, [.ref x28, .ref x29, .ref x30])), (x28, .inl (cI, 240, .inl (fillR cl (j * 60) (j * 60 + m) (nI 0)))), (x29, .inl (cI, 4, .inl (upd ln j lane))), (x30, .inl (cI, 4, .inl (upd sz0 j (nI m))))]) (fun _ => rfl) (by decide) (c_renew l D cI H.size x27 x28 x29 x30 cl ln sz0 j lane m hj (by omega)) (cwV 3 hts gX4_sheet_X3_renew rfl rfl rfl hdX3_renew ⟨Nat.le_of_ble_eq_true rfl, Nat.le_of_ble_eq_true rfl⟩) rfl rfl rfl hl.1 rfl (Nat.le_of_ble_eq_true rfl) dX4_sheet_47 ⟨Nat.le_of_ble_eq_true rfl, Nat.le_of_ble_eq_true rfl⟩ (fun _ H locs hw_6 hP hD hS => ?_)
          refine lv_iconst (v := nI 1) hx hb dX4_sheet_50 (by decide) ?_
          have e_t : sheetF cl ln sz0 k lane n = (nI 1, nI 0, fillR cl (j * 60) (j * 60 + m) (nI 0), upd ln j lane, upd sz0 j (nI m)) := by simp [sheetF, c_1, g_j, c_2, c_3, (Int32.not_lt.mpr c_3), c_4, (Int32.not_lt.mpr c_4), g_m]
          exact zk_retI hx hb hr hS (()) (by rw [e_t]) (by rw [e_t]; exact hP) (by rw [e_t]; exact hD) dX4_sheet_51 hlocks
        · have c_4 := Int32.not_le.mp c_4
          refine lv_aload_n hx hb dX4_sheet_34 rfl (lv_at hl 0 rfl) ?_
          refine lv_iconst (v := nI 4) hx hb dX4_sheet_35 (by decide) ?_
          refine zk_effVi (As := [.int (nI 4)]) (rest := []) (S := Unit) (fun r _ => r = (-10) - (nI 4)) (fun _ => wXo x0 x1 x8 x15 x23 x27 tr (nI 4)) ⟨hx, hb, hml, hown, hts⟩ hK hP hD hS hA [0] [1, 2, 3, 4] (wc := [(x0, .inr (4, [.ref x1, .ref x8, .ref x15, .ref x23, .ref x27, .int tr, .int (nI 0)]))]) (wr := [(x27, .inr (3, [.ref x28, .ref x29, .ref x30])), (x28, .inl (cI, 240, .inl cl)), (x29, .inl (cI, 4, .inl ln)), (x30, .inl (cI, 4, .inl sz0))]) rfl rfl (by decide) (by decide) (by decide) [4, 0, 1, 2, 3] (fun (_ : Unit) => [(x0, .inr (4, [.ref x1, .ref x8, .ref x15, .ref x23, .ref x27, .int tr, .int (nI 4)])), (x27, .inr (3, [.ref x28, .ref x29, .ref x30])), (x28, .inl (cI, 240, .inl cl)), (x29, .inl (cI, 4, .inl ln)), (x30, .inl (cI, 4, .inl sz0))]) (fun _ => rfl) (by decide) (c_fail l D cI H.size x0 x1 x2 x3 x4 x5 x6 x7 x8 x9 x10 x11 x12 x13 x14 x15 x16 x17 x18 x19 x20 x21 x22 x23 x24 x25 x26 x27 x28 x29 x30 tr (nI 0) (nI 4) ) (cwV 1 hts gX4_sheet_X4_fail rfl rfl rfl hdX4_fail ⟨Nat.le_of_ble_eq_true rfl, Nat.le_of_ble_eq_true rfl⟩) rfl rfl rfl hl.1 rfl (Nat.le_of_ble_eq_true rfl) dX4_sheet_36 ⟨Nat.le_of_ble_eq_true rfl, Nat.le_of_ble_eq_true rfl⟩ (fun r_7 _ H locs hw_8 hP hD hS => ?_)
          have e_r_7 : r_7 = (-14) := hw_8.trans (by decide)
          rw [e_r_7]
          have e_t : sheetF cl ln sz0 k lane n = ((-14), (nI 4), cl, ln, sz0) := by simp [sheetF, c_1, g_j, c_2, c_3, (Int32.not_lt.mpr c_3), c_4, (Int32.not_le.mpr c_4)]
          exact zk_retI hx hb hr hS (()) (by rw [e_t]) (by rw [e_t]; exact hP) (by rw [e_t]; exact hD) dX4_sheet_39 hlocks
      · have c_3 := Int32.not_le.mp c_3
        refine lv_bipush (v := (-2)) hx hb dX4_sheet_27 (by decide) ?_
        have e_t : sheetF cl ln sz0 k lane n = ((-2), nI 0, cl, ln, sz0) := by simp [sheetF, c_1, g_j, c_2, c_3, (Int32.not_le.mpr c_3)]
        exact zk_retI hx hb hr hS (()) (by rw [e_t]) (by rw [e_t]; exact hP) (by rw [e_t]; exact hD) dX4_sheet_29 hlocks
  · refine lv_iconst (v := (-1)) hx hb dX4_sheet_12 (by decide) ?_
    have e_t : sheetF cl ln sz0 k lane n = ((-1), nI 0, cl, ln, sz0) := by simp [sheetF, c_1]
    exact zk_retI hx hb hr hS (()) (by rw [e_t]) (by rw [e_t]; exact hP) (by rw [e_t]; exact hD) dX4_sheet_13 hlocks
set_option maxHeartbeats 4000000 in
set_option maxRecDepth 100000 in
theorem cx_lose (l : Launch) (D : va_G) (cI : ClassId) (sz : Nat) (x0 : Nat) (x1 : Nat) (x2 : Nat) (x3 : Nat) (x4 : Nat) (x5 : Nat) (x6 : Nat) (x7 : Nat) (x8 : Nat) (x9 : Nat) (x10 : Nat) (x11 : Nat) (x12 : Nat) (x13 : Nat) (x14 : Nat) (x15 : Nat) (x16 : Nat) (x17 : Nat) (x18 : Nat) (x19 : Nat) (x20 : Nat) (x21 : Nat) (x22 : Nat) (x23 : Nat) (x24 : Nat) (x25 : Nat) (x26 : Nat) (x27 : Nat) (x28 : Nat) (x29 : Nat) (x30 : Nat) (cl : Nat → Int32) (ln : Nat → Int32) (sz0 : Nat → Int32) (tr : Int32) (fl : Int32) (k : Int32)  : Met l yX4_lose wsX4_lose ({ frames := 2, cells := 0, slots := 0, locals := 43 }) (PQ D cI [.ref x0, .int k] (wXo x0 x1 x8 x15 x23 x27 tr fl ++ wSh cI x27 x28 x29 x30 cl ln sz0) sz) (QI (S := Unit) D (fun r _ => r = (loseF ln sz0 k).1) (fun _ => wXo x0 x1 x8 x15 x23 x27 tr fl ++ wSh cI x27 x28 x29 x30 cl ((loseF ln sz0 k).2.1) ((loseF ln sz0 k).2.2)) (va_A (wXo x0 x1 x8 x15 x23 x27 tr fl ++ wSh cI x27 x28 x29 x30 cl ln sz0) sz)) 0 0 (va_A (wXo x0 x1 x8 x15 x23 x27 tr fl ++ wSh cI x27 x28 x29 x30 cl ln sz0) sz) := by
  refine zk_Q (QI (S := Unit) D (fun r _ => r = (loseF ln sz0 k).1) (fun _ => wXo x0 x1 x8 x15 x23 x27 tr fl ++ wSh cI x27 x28 x29 x30 cl ((loseF ln sz0 k).2.1) ((loseF ln sz0 k).2.2))) (cc := cX4_lose) (maxL := 2) (ret := (some .int)) (by decide) rfl (Nat.le_of_ble_eq_true rfl) ?_
  intro pX eX sX mX bX tX cX hx hb hr hlocks hml hown hmn hts hP hK A hA hD hS ls hl
  have hl : lv_has ls 2 [(0, .ref x0), (1, .int k)] := hl
  have hP : va_P D vwCl [(x0, .inr (4, [.ref x1, .ref x8, .ref x15, .ref x23, .ref x27, .int tr, .int fl])), (x27, .inr (3, [.ref x28, .ref x29, .ref x30])), (x28, .inl (cI, 240, .inl cl)), (x29, .inl (cI, 4, .inl ln)), (x30, .inl (cI, 4, .inl sz0))] sX.heap := hP
  have hD : va_D A [(x0, .inr (4, [.ref x1, .ref x8, .ref x15, .ref x23, .ref x27, .int tr, .int fl])), (x27, .inr (3, [.ref x28, .ref x29, .ref x30])), (x28, .inl (cI, 240, .inl cl)), (x29, .inl (cI, 4, .inl ln)), (x30, .inl (cI, 4, .inl sz0))] := hD
  have f_38 := hts (.fieldLink RX4 38 "DunceSee" "sheets" "LDunceSee$Sheets;") (by decide +kernel)
  have inX4 : ∀ w ∈ wsX40, w ∈ wsX4_lose := fun w h => List.mem_cons_of_mem _ (List.mem_append_left _ (List.mem_append_right _ h))
  have inX3 : ∀ w ∈ wsX30, w ∈ wsX4_lose := fun w h => List.mem_cons_of_mem _ (List.mem_append_right _ h)
  refine lv_iload_n hx hb dX4_lose_0 rfl (lv_at hl 1 rfl) ?_
  refine zk_callSi (As := [.int k]) (rest := []) (bI (isP 4 k)) ⟨hx, hb, hml, hown, hts⟩ hK hP [] rfl (c_isSheet l D cI k ) (va_cwS 1 hts gX4_lose_X4_isSheet rfl rfl rfl hdX4_isSheet ⟨Nat.le_of_ble_eq_true rfl, Nat.le_of_ble_eq_true rfl⟩) rfl hl.1 rfl (Nat.le_of_ble_eq_true rfl) dX4_lose_1 ⟨Nat.le_of_ble_eq_true rfl, Nat.le_of_ble_eq_true rfl⟩ ?_
  refine zk_ifneB (tgt := 9) hx hb dX4_lose_4 (by decide) (fun c_1 => ?_) (fun c_1 => ?_)
  · obtain ⟨j, hj, e_j, g_j⟩ := isP_of (by omega) c_1
    rw [e_j] at hl
    refine lv_aload_n hx hb dX4_lose_9 rfl (lv_at hl 0 rfl) ?_
    refine va_get (D := D) (ci := 4) (v := .ref x27) (C := RX4) (T := TX4) (N := 7) hx hb hts inX4 hown hK.1 hP 0 rfl rfl 4 (by decide) f_38 (fun _ h9 => h9) rfl dX4_lose_10 ?_
    refine lv_iload_n hx hb dX4_lose_13 rfl (lv_at hl 1 rfl) ?_
    refine zk_effVi (As := [.int (nI j)]) (rest := []) (S := Unit) (fun r _ => r = bI (hasR ln j)) (fun _ => wSh cI x27 x28 x29 x30 cl (upd ln j (-1)) (upd sz0 j (nI 0))) ⟨hx, hb, hml, hown, hts⟩ hK hP hD hS hA [1, 2, 3, 4] [0] (wc := [(x27, .inr (3, [.ref x28, .ref x29, .ref x30])), (x28, .inl (cI, 240, .inl cl)), (x29, .inl (cI, 4, .inl ln)), (x30, .inl (cI, 4, .inl sz0))]) (wr := [(x0, .inr (4, [.ref x1, .ref x8, .ref x15, .ref x23, .ref x27, .int tr, .int fl]))]) rfl rfl (by decide) (by decide) (by decide) [0, 1, 2, 3, 4] (fun (_ : Unit) => [(x0, .inr (4, [.ref x1, .ref x8, .ref x15, .ref x23, .ref x27, .int tr, .int fl])), (x27, .inr (3, [.ref x28, .ref x29, .ref x30])), (x28, .inl (cI, 240, .inl cl)), (x29, .inl (cI, 4, .inl (upd ln j (-1)))), (x30, .inl (cI, 4, .inl (upd sz0 j (nI 0))))]) (fun _ => rfl) (by decide) (c_drop l D cI sX.heap.size x27 x28 x29 x30 cl ln sz0 j hj) (cwV 1 hts gX4_lose_X3_drop rfl rfl rfl hdX3_drop ⟨Nat.le_of_ble_eq_true rfl, Nat.le_of_ble_eq_true rfl⟩) rfl rfl rfl hl.1 rfl (Nat.le_of_ble_eq_true rfl) dX4_lose_14 ⟨Nat.le_of_ble_eq_true rfl, Nat.le_of_ble_eq_true rfl⟩ (fun r_2 _ H locs hw_3 hP hD hS => ?_)
    have e_r_2 : r_2 = bI (hasR ln j) := hw_3
    rw [e_r_2]
    refine zk_ifeqB (tgt := 24) hx hb dX4_lose_17 (by decide) (fun c_4 => ?_) (fun c_4 => ?_)
    · refine lv_iconst (v := nI 0) hx hb dX4_lose_24 (by decide) ?_
      have e_t : loseF ln sz0 k = (nI 0, upd ln j (-1), upd sz0 j (nI 0)) := by simp [loseF, nI_bI0, nI_bI1, c_1, g_j, c_4]
      exact zk_retI hx hb hr hS (()) (by rw [e_t]) (by rw [e_t]; exact hP) (by rw [e_t]; exact hD) dX4_lose_25 hlocks
    · refine lv_iconst (v := nI 1) hx hb dX4_lose_20 (by decide) ?_
      refine lv_goto (tgt := 25) hx hb dX4_lose_21 (by decide) ?_
      have e_t : loseF ln sz0 k = (nI 1, upd ln j (-1), upd sz0 j (nI 0)) := by simp [loseF, nI_bI0, nI_bI1, c_1, g_j, c_4]
      exact zk_retI hx hb hr hS (()) (by rw [e_t]) (by rw [e_t]; exact hP) (by rw [e_t]; exact hD) dX4_lose_25 hlocks
  · refine lv_iconst (v := (-1)) hx hb dX4_lose_7 (by decide) ?_
    have e_t : loseF ln sz0 k = ((-1), ln, sz0) := by simp [loseF, nI_bI0, nI_bI1, c_1]
    exact zk_retI hx hb hr hS (()) (by rw [e_t]) (by rw [e_t]; exact hP) (by rw [e_t]; exact hD) dX4_lose_8 hlocks
set_option maxHeartbeats 4000000 in
set_option maxRecDepth 100000 in
theorem cx_put (l : Launch) (D : va_G) (cI : ClassId) (sz : Nat) (x0 : Nat) (x1 : Nat) (x2 : Nat) (x3 : Nat) (x4 : Nat) (x5 : Nat) (x6 : Nat) (x7 : Nat) (x8 : Nat) (x9 : Nat) (x10 : Nat) (x11 : Nat) (x12 : Nat) (x13 : Nat) (x14 : Nat) (x15 : Nat) (x16 : Nat) (x17 : Nat) (x18 : Nat) (x19 : Nat) (x20 : Nat) (x21 : Nat) (x22 : Nat) (x23 : Nat) (x24 : Nat) (x25 : Nat) (x26 : Nat) (x27 : Nat) (x28 : Nat) (x29 : Nat) (x30 : Nat) (cl : Nat → Int32) (ln : Nat → Int32) (sz0 : Nat → Int32) (tr : Int32) (fl : Int32) (k : Int32) (i : Int32) (v : Int32) (hsz : okS sz0) : Met l yX4_put wsX4_put ({ frames := 2, cells := 0, slots := 0, locals := 44 }) (PQ D cI [.ref x0, .int k, .int i, .int v] (wXo x0 x1 x8 x15 x23 x27 tr fl ++ wSh cI x27 x28 x29 x30 cl ln sz0) sz) (QI (S := Unit) D (fun r _ => r = (putF cl ln sz0 k i v).1) (fun _ => wXo x0 x1 x8 x15 x23 x27 tr ((putF cl ln sz0 k i v).2.1) ++ wSh cI x27 x28 x29 x30 ((putF cl ln sz0 k i v).2.2) ln sz0) (va_A (wXo x0 x1 x8 x15 x23 x27 tr fl ++ wSh cI x27 x28 x29 x30 cl ln sz0) sz)) 0 0 (va_A (wXo x0 x1 x8 x15 x23 x27 tr fl ++ wSh cI x27 x28 x29 x30 cl ln sz0) sz) := by
  refine zk_Q (QI (S := Unit) D (fun r _ => r = (putF cl ln sz0 k i v).1) (fun _ => wXo x0 x1 x8 x15 x23 x27 tr ((putF cl ln sz0 k i v).2.1) ++ wSh cI x27 x28 x29 x30 ((putF cl ln sz0 k i v).2.2) ln sz0)) (cc := cX4_put) (maxL := 4) (ret := (some .int)) (by decide) rfl (Nat.le_of_ble_eq_true rfl) ?_
  intro pX eX sX mX bX tX cX hx hb hr hlocks hml hown hmn hts hP hK A hA hD hS ls hl
  have hl : lv_has ls 4 [(0, .ref x0), (1, .int k), (2, .int i), (3, .int v)] := hl
  have hP : va_P D vwCl [(x0, .inr (4, [.ref x1, .ref x8, .ref x15, .ref x23, .ref x27, .int tr, .int fl])), (x27, .inr (3, [.ref x28, .ref x29, .ref x30])), (x28, .inl (cI, 240, .inl cl)), (x29, .inl (cI, 4, .inl ln)), (x30, .inl (cI, 4, .inl sz0))] sX.heap := hP
  have hD : va_D A [(x0, .inr (4, [.ref x1, .ref x8, .ref x15, .ref x23, .ref x27, .int tr, .int fl])), (x27, .inr (3, [.ref x28, .ref x29, .ref x30])), (x28, .inl (cI, 240, .inl cl)), (x29, .inl (cI, 4, .inl ln)), (x30, .inl (cI, 4, .inl sz0))] := hD
  have f_42 := hts (.fieldLink RX4 42 "DunceSee" "fault" "I") (by decide +kernel)
  have f_38 := hts (.fieldLink RX4 38 "DunceSee" "sheets" "LDunceSee$Sheets;") (by decide +kernel)
  have inX4 : ∀ w ∈ wsX40, w ∈ wsX4_put := fun w h => List.mem_cons_of_mem _ (List.mem_append_left _ (List.mem_append_right _ h))
  have inX3 : ∀ w ∈ wsX30, w ∈ wsX4_put := fun w h => List.mem_cons_of_mem _ (List.mem_append_right _ h)
  refine lv_aload_n hx hb dX4_put_0 rfl (lv_at hl 0 rfl) ?_
  refine lv_iconst (v := nI 0) hx hb dX4_put_1 (by decide) ?_
  refine va_put (D := D) (ci := 4) (v := .int (nI 0)) (ty := .int) (C := RX4) (T := TX4) (N := 7) hx hb hts inX4 tyX4 tyX4_ok nmX4 hown hK.1 hP hD hS 0 rfl rfl 6 (by decide) f_42 (fun _ h9 => h9) rfl (by decide +kernel) rfl rfl (Nat.le_of_ble_eq_true rfl) dX4_put_2 (fun H locs hP hD hS => ?_)
  have hP : va_P D vwCl [(x0, .inr (4, [.ref x1, .ref x8, .ref x15, .ref x23, .ref x27, .int tr, .int (nI 0)])), (x27, .inr (3, [.ref x28, .ref x29, .ref x30])), (x28, .inl (cI, 240, .inl cl)), (x29, .inl (cI, 4, .inl ln)), (x30, .inl (cI, 4, .inl sz0))] H := hP
  have hD : va_D A [(x0, .inr (4, [.ref x1, .ref x8, .ref x15, .ref x23, .ref x27, .int tr, .int (nI 0)])), (x27, .inr (3, [.ref x28, .ref x29, .ref x30])), (x28, .inl (cI, 240, .inl cl)), (x29, .inl (cI, 4, .inl ln)), (x30, .inl (cI, 4, .inl sz0))] := hD
  refine lv_iload_n hx hb dX4_put_5 rfl (lv_at hl 1 rfl) ?_
  refine zk_callSi (As := [.int k]) (rest := []) (bI (isP 4 k)) ⟨hx, hb, hml, hown, hts⟩ hK hP [] rfl (c_isSheet l D cI k ) (va_cwS 1 hts gX4_put_X4_isSheet rfl rfl rfl hdX4_isSheet ⟨Nat.le_of_ble_eq_true rfl, Nat.le_of_ble_eq_true rfl⟩) rfl hl.1 rfl (Nat.le_of_ble_eq_true rfl) dX4_put_6 ⟨Nat.le_of_ble_eq_true rfl, Nat.le_of_ble_eq_true rfl⟩ ?_
  refine zk_ifneB (tgt := 14) hx hb dX4_put_9 (by decide) (fun c_1 => ?_) (fun c_1 => ?_)
  · obtain ⟨j, hj, e_j, g_j⟩ := isP_of (by omega) c_1
    rw [e_j] at hl
    refine lv_aload_n hx hb dX4_put_14 rfl (lv_at hl 0 rfl) ?_
    refine va_get (D := D) (ci := 4) (v := .ref x27) (C := RX4) (T := TX4) (N := 7) hx hb hts inX4 hown hK.1 hP 0 rfl rfl 4 (by decide) f_38 (fun _ h9 => h9) rfl dX4_put_15 ?_
    refine lv_iload_n hx hb dX4_put_18 rfl (lv_at hl 1 rfl) ?_
    refine zk_callVi (As := [.int (nI j)]) (rest := []) (bI (hasR ln j)) ⟨hx, hb, hml, hown, hts⟩ hK hP [1, 2, 3, 4] rfl (c_hasRow l D cI x27 x28 x29 x30 cl ln sz0 j hj) (cwV 1 hts gX4_put_X3_hasRow rfl rfl rfl hdX3_hasRow ⟨Nat.le_of_ble_eq_true rfl, Nat.le_of_ble_eq_true rfl⟩) rfl rfl rfl hl.1 rfl (Nat.le_of_ble_eq_true rfl) dX4_put_19 ⟨Nat.le_of_ble_eq_true rfl, Nat.le_of_ble_eq_true rfl⟩ ?_
    refine zk_ifneB (tgt := 31) hx hb dX4_put_22 (by decide) (fun c_2 => ?_) (fun c_2 => ?_)
    · refine lv_aload_n hx hb dX4_put_31 rfl (lv_at hl 0 rfl) ?_
      refine va_get (D := D) (ci := 4) (v := .ref x27) (C := RX4) (T := TX4) (N := 7) hx hb hts inX4 hown hK.1 hP 0 rfl rfl 4 (by decide) f_38 (fun _ h9 => h9) rfl dX4_put_32 ?_
      refine lv_iload_n hx hb dX4_put_35 rfl (lv_at hl 1 rfl) ?_
      refine lv_iload_n hx hb dX4_put_36 rfl (lv_at hl 2 rfl) ?_
      refine zk_callVi (As := [.int (nI j), .int i]) (rest := []) (bI (pl1 i (sz0 j))) ⟨hx, hb, hml, hown, hts⟩ hK hP [1, 2, 3, 4] rfl (c_hasPlace l D cI x27 x28 x29 x30 cl ln sz0 j i hj) (cwV 2 hts gX4_put_X3_hasPlace rfl rfl rfl hdX3_hasPlace ⟨Nat.le_of_ble_eq_true rfl, Nat.le_of_ble_eq_true rfl⟩) rfl rfl rfl hl.1 rfl (Nat.le_of_ble_eq_true rfl) dX4_put_37 ⟨Nat.le_of_ble_eq_true rfl, Nat.le_of_ble_eq_true rfl⟩ ?_
      refine zk_ifneB (tgt := 49) hx hb dX4_put_40 (by decide) (fun c_3 => ?_) (fun c_3 => ?_)
      · obtain ⟨m, hm, e_m, g_m⟩ := pl1_of hsz hj c_3
        rw [e_m] at hl
        refine lv_aload_n hx hb dX4_put_49 rfl (lv_at hl 0 rfl) ?_
        refine va_get (D := D) (ci := 4) (v := .ref x27) (C := RX4) (T := TX4) (N := 7) hx hb hts inX4 hown hK.1 hP 0 rfl rfl 4 (by decide) f_38 (fun _ h9 => h9) rfl dX4_put_50 ?_
        refine lv_iload_n hx hb dX4_put_53 rfl (lv_at hl 1 rfl) ?_
        refine lv_iload_n hx hb dX4_put_54 rfl (lv_at hl 2 rfl) ?_
        refine lv_iload_n hx hb dX4_put_55 rfl (lv_at hl 3 rfl) ?_
        refine zk_effVv (As := [.int (nI j), .int (nI m), .int v]) (rest := []) (S := Unit) (fun _ => True) (fun _ => wSh cI x27 x28 x29 x30 (upd cl (j * 60 + m) (cutL v (ln j))) ln sz0) ⟨hx, hb, hml, hown, hts⟩ hK hP hD hS hA [1, 2, 3, 4] [0] (wc := [(x27, .inr (3, [.ref x28, .ref x29, .ref x30])), (x28, .inl (cI, 240, .inl cl)), (x29, .inl (cI, 4, .inl ln)), (x30, .inl (cI, 4, .inl sz0))]) (wr := [(x0, .inr (4, [.ref x1, .ref x8, .ref x15, .ref x23, .ref x27, .int tr, .int (nI 0)]))]) rfl rfl (by decide) (by decide) (by decide) [0, 1, 2, 3, 4] (fun (_ : Unit) => [(x0, .inr (4, [.ref x1, .ref x8, .ref x15, .ref x23, .ref x27, .int tr, .int (nI 0)])), (x27, .inr (3, [.ref x28, .ref x29, .ref x30])), (x28, .inl (cI, 240, .inl (upd cl (j * 60 + m) (cutL v (ln j))))), (x29, .inl (cI, 4, .inl ln)), (x30, .inl (cI, 4, .inl sz0))]) (fun _ => rfl) (by decide) (c_write l D cI H.size x27 x28 x29 x30 cl ln sz0 j m v hj hm) (cwV 3 hts gX4_put_X3_write rfl rfl rfl hdX3_write ⟨Nat.le_of_ble_eq_true rfl, Nat.le_of_ble_eq_true rfl⟩) rfl rfl rfl hl.1 rfl (Nat.le_of_ble_eq_true rfl) dX4_put_56 ⟨Nat.le_of_ble_eq_true rfl, Nat.le_of_ble_eq_true rfl⟩ (fun _ H locs hw_5 hP hD hS => ?_)
        refine lv_iconst (v := nI 1) hx hb dX4_put_59 (by decide) ?_
        have e_t : putF cl ln sz0 k i v = (nI 1, nI 0, upd cl (j * 60 + m) (cutL v (ln j))) := by simp [putF, c_1, g_j, c_2, c_3, g_m]
        exact zk_retI hx hb hr hS (()) (by rw [e_t]) (by rw [e_t]; exact hP) (by rw [e_t]; exact hD) dX4_put_60 hlocks
      · refine lv_aload_n hx hb dX4_put_43 rfl (lv_at hl 0 rfl) ?_
        refine lv_iconst (v := nI 3) hx hb dX4_put_44 (by decide) ?_
        refine zk_effVi (As := [.int (nI 3)]) (rest := []) (S := Unit) (fun r _ => r = (-10) - (nI 3)) (fun _ => wXo x0 x1 x8 x15 x23 x27 tr (nI 3)) ⟨hx, hb, hml, hown, hts⟩ hK hP hD hS hA [0] [1, 2, 3, 4] (wc := [(x0, .inr (4, [.ref x1, .ref x8, .ref x15, .ref x23, .ref x27, .int tr, .int (nI 0)]))]) (wr := [(x27, .inr (3, [.ref x28, .ref x29, .ref x30])), (x28, .inl (cI, 240, .inl cl)), (x29, .inl (cI, 4, .inl ln)), (x30, .inl (cI, 4, .inl sz0))]) rfl rfl (by decide) (by decide) (by decide) [4, 0, 1, 2, 3] (fun (_ : Unit) => [(x0, .inr (4, [.ref x1, .ref x8, .ref x15, .ref x23, .ref x27, .int tr, .int (nI 3)])), (x27, .inr (3, [.ref x28, .ref x29, .ref x30])), (x28, .inl (cI, 240, .inl cl)), (x29, .inl (cI, 4, .inl ln)), (x30, .inl (cI, 4, .inl sz0))]) (fun _ => rfl) (by decide) (c_fail l D cI H.size x0 x1 x2 x3 x4 x5 x6 x7 x8 x9 x10 x11 x12 x13 x14 x15 x16 x17 x18 x19 x20 x21 x22 x23 x24 x25 x26 x27 x28 x29 x30 tr (nI 0) (nI 3) ) (cwV 1 hts gX4_put_X4_fail rfl rfl rfl hdX4_fail ⟨Nat.le_of_ble_eq_true rfl, Nat.le_of_ble_eq_true rfl⟩) rfl rfl rfl hl.1 rfl (Nat.le_of_ble_eq_true rfl) dX4_put_45 ⟨Nat.le_of_ble_eq_true rfl, Nat.le_of_ble_eq_true rfl⟩ (fun r_6 _ H locs hw_7 hP hD hS => ?_)
        have e_r_6 : r_6 = (-13) := hw_7.trans (by decide)
        rw [e_r_6]
        have e_t : putF cl ln sz0 k i v = ((-13), (nI 3), cl) := by simp [putF, c_1, g_j, c_2, c_3]
        exact zk_retI hx hb hr hS (()) (by rw [e_t]) (by rw [e_t]; exact hP) (by rw [e_t]; exact hD) dX4_put_48 hlocks
    · refine lv_aload_n hx hb dX4_put_25 rfl (lv_at hl 0 rfl) ?_
      refine lv_iconst (v := nI 1) hx hb dX4_put_26 (by decide) ?_
      refine zk_effVi (As := [.int (nI 1)]) (rest := []) (S := Unit) (fun r _ => r = (-10) - (nI 1)) (fun _ => wXo x0 x1 x8 x15 x23 x27 tr (nI 1)) ⟨hx, hb, hml, hown, hts⟩ hK hP hD hS hA [0] [1, 2, 3, 4] (wc := [(x0, .inr (4, [.ref x1, .ref x8, .ref x15, .ref x23, .ref x27, .int tr, .int (nI 0)]))]) (wr := [(x27, .inr (3, [.ref x28, .ref x29, .ref x30])), (x28, .inl (cI, 240, .inl cl)), (x29, .inl (cI, 4, .inl ln)), (x30, .inl (cI, 4, .inl sz0))]) rfl rfl (by decide) (by decide) (by decide) [4, 0, 1, 2, 3] (fun (_ : Unit) => [(x0, .inr (4, [.ref x1, .ref x8, .ref x15, .ref x23, .ref x27, .int tr, .int (nI 1)])), (x27, .inr (3, [.ref x28, .ref x29, .ref x30])), (x28, .inl (cI, 240, .inl cl)), (x29, .inl (cI, 4, .inl ln)), (x30, .inl (cI, 4, .inl sz0))]) (fun _ => rfl) (by decide) (c_fail l D cI H.size x0 x1 x2 x3 x4 x5 x6 x7 x8 x9 x10 x11 x12 x13 x14 x15 x16 x17 x18 x19 x20 x21 x22 x23 x24 x25 x26 x27 x28 x29 x30 tr (nI 0) (nI 1) ) (cwV 1 hts gX4_put_X4_fail rfl rfl rfl hdX4_fail ⟨Nat.le_of_ble_eq_true rfl, Nat.le_of_ble_eq_true rfl⟩) rfl rfl rfl hl.1 rfl (Nat.le_of_ble_eq_true rfl) dX4_put_27 ⟨Nat.le_of_ble_eq_true rfl, Nat.le_of_ble_eq_true rfl⟩ (fun r_8 _ H locs hw_9 hP hD hS => ?_)
      have e_r_8 : r_8 = (-11) := hw_9.trans (by decide)
      rw [e_r_8]
      have e_t : putF cl ln sz0 k i v = ((-11), (nI 1), cl) := by simp [putF, c_1, g_j, c_2]
      exact zk_retI hx hb hr hS (()) (by rw [e_t]) (by rw [e_t]; exact hP) (by rw [e_t]; exact hD) dX4_put_30 hlocks
  · refine lv_iconst (v := (-1)) hx hb dX4_put_12 (by decide) ?_
    have e_t : putF cl ln sz0 k i v = ((-1), nI 0, cl) := by simp [putF, c_1]
    exact zk_retI hx hb hr hS (()) (by rw [e_t]) (by rw [e_t]; exact hP) (by rw [e_t]; exact hD) dX4_put_13 hlocks
set_option maxHeartbeats 4000000 in
set_option maxRecDepth 100000 in
theorem cx_cell (l : Launch) (D : va_G) (cI : ClassId) (sz : Nat) (x0 : Nat) (x1 : Nat) (x2 : Nat) (x3 : Nat) (x4 : Nat) (x5 : Nat) (x6 : Nat) (x7 : Nat) (x8 : Nat) (x9 : Nat) (x10 : Nat) (x11 : Nat) (x12 : Nat) (x13 : Nat) (x14 : Nat) (x15 : Nat) (x16 : Nat) (x17 : Nat) (x18 : Nat) (x19 : Nat) (x20 : Nat) (x21 : Nat) (x22 : Nat) (x23 : Nat) (x24 : Nat) (x25 : Nat) (x26 : Nat) (x27 : Nat) (x28 : Nat) (x29 : Nat) (x30 : Nat) (cl : Nat → Int32) (ln : Nat → Int32) (sz0 : Nat → Int32) (tr : Int32) (fl : Int32) (k : Int32) (i : Int32) (lane : Int32) (hsz : okS sz0) : Met l yX4_cell wsX4_cell ({ frames := 2, cells := 0, slots := 0, locals := 43 }) (PQ D cI [.ref x0, .int k, .int i, .int lane] (wXo x0 x1 x8 x15 x23 x27 tr fl ++ wSh cI x27 x28 x29 x30 cl ln sz0) sz) (QL (S := Unit) D (fun r _ => r = (cellF cl ln sz0 k i lane).1) (fun _ => wXo x0 x1 x8 x15 x23 x27 tr ((cellF cl ln sz0 k i lane).2) ++ wSh cI x27 x28 x29 x30 cl ln sz0) (va_A (wXo x0 x1 x8 x15 x23 x27 tr fl ++ wSh cI x27 x28 x29 x30 cl ln sz0) sz)) 0 0 (va_A (wXo x0 x1 x8 x15 x23 x27 tr fl ++ wSh cI x27 x28 x29 x30 cl ln sz0) sz) := by
  refine zk_Q (QL (S := Unit) D (fun r _ => r = (cellF cl ln sz0 k i lane).1) (fun _ => wXo x0 x1 x8 x15 x23 x27 tr ((cellF cl ln sz0 k i lane).2) ++ wSh cI x27 x28 x29 x30 cl ln sz0)) (cc := cX4_cell) (maxL := 4) (ret := (some .long)) (by decide) rfl (Nat.le_of_ble_eq_true rfl) ?_
  intro pX eX sX mX bX tX cX hx hb hr hlocks hml hown hmn hts hP hK A hA hD hS ls hl
  have hl : lv_has ls 4 [(0, .ref x0), (1, .int k), (2, .int i), (3, .int lane)] := hl
  have hP : va_P D vwCl [(x0, .inr (4, [.ref x1, .ref x8, .ref x15, .ref x23, .ref x27, .int tr, .int fl])), (x27, .inr (3, [.ref x28, .ref x29, .ref x30])), (x28, .inl (cI, 240, .inl cl)), (x29, .inl (cI, 4, .inl ln)), (x30, .inl (cI, 4, .inl sz0))] sX.heap := hP
  have hD : va_D A [(x0, .inr (4, [.ref x1, .ref x8, .ref x15, .ref x23, .ref x27, .int tr, .int fl])), (x27, .inr (3, [.ref x28, .ref x29, .ref x30])), (x28, .inl (cI, 240, .inl cl)), (x29, .inl (cI, 4, .inl ln)), (x30, .inl (cI, 4, .inl sz0))] := hD
  have f_42 := hts (.fieldLink RX4 42 "DunceSee" "fault" "I") (by decide +kernel)
  have k_164 := hts (.constantLong RX4 164 (-9223372036854775808)) (by decide +kernel)
  have f_38 := hts (.fieldLink RX4 38 "DunceSee" "sheets" "LDunceSee$Sheets;") (by decide +kernel)
  have inX4 : ∀ w ∈ wsX40, w ∈ wsX4_cell := fun w h => List.mem_cons_of_mem _ (List.mem_append_left _ (List.mem_append_right _ h))
  have inX3 : ∀ w ∈ wsX30, w ∈ wsX4_cell := fun w h => List.mem_cons_of_mem _ (List.mem_append_right _ h)
  refine lv_aload_n hx hb dX4_cell_0 rfl (lv_at hl 0 rfl) ?_
  refine lv_iconst (v := nI 0) hx hb dX4_cell_1 (by decide) ?_
  refine va_put (D := D) (ci := 4) (v := .int (nI 0)) (ty := .int) (C := RX4) (T := TX4) (N := 7) hx hb hts inX4 tyX4 tyX4_ok nmX4 hown hK.1 hP hD hS 0 rfl rfl 6 (by decide) f_42 (fun _ h9 => h9) rfl (by decide +kernel) rfl rfl (Nat.le_of_ble_eq_true rfl) dX4_cell_2 (fun H locs hP hD hS => ?_)
  have hP : va_P D vwCl [(x0, .inr (4, [.ref x1, .ref x8, .ref x15, .ref x23, .ref x27, .int tr, .int (nI 0)])), (x27, .inr (3, [.ref x28, .ref x29, .ref x30])), (x28, .inl (cI, 240, .inl cl)), (x29, .inl (cI, 4, .inl ln)), (x30, .inl (cI, 4, .inl sz0))] H := hP
  have hD : va_D A [(x0, .inr (4, [.ref x1, .ref x8, .ref x15, .ref x23, .ref x27, .int tr, .int (nI 0)])), (x27, .inr (3, [.ref x28, .ref x29, .ref x30])), (x28, .inl (cI, 240, .inl cl)), (x29, .inl (cI, 4, .inl ln)), (x30, .inl (cI, 4, .inl sz0))] := hD
  refine lv_iload_n hx hb dX4_cell_5 rfl (lv_at hl 1 rfl) ?_
  refine zk_callSi (As := [.int k]) (rest := []) (bI (isP 4 k)) ⟨hx, hb, hml, hown, hts⟩ hK hP [] rfl (c_isSheet l D cI k ) (va_cwS 1 hts gX4_cell_X4_isSheet rfl rfl rfl hdX4_isSheet ⟨Nat.le_of_ble_eq_true rfl, Nat.le_of_ble_eq_true rfl⟩) rfl hl.1 rfl (Nat.le_of_ble_eq_true rfl) dX4_cell_6 ⟨Nat.le_of_ble_eq_true rfl, Nat.le_of_ble_eq_true rfl⟩ ?_
  refine zk_ifeqB (tgt := 19) hx hb dX4_cell_9 (by decide) (fun c_1 => ?_) (fun c_1 => ?_)
  · refine lv_ldc2 (v := (-9223372036854775808)) hx hb hown k_164 dX4_cell_19 ?_
    have e_t : cellF cl ln sz0 k i lane = ((-9223372036854775808), nI 0) := by simp [cellF, c_1]
    exact zk_retL hx hb hr hS (()) (by rw [e_t]) (by rw [e_t]; exact hP) (by rw [e_t]; exact hD) dX4_cell_22 hlocks
  · obtain ⟨j, hj, e_j, g_j⟩ := isP_of (by omega) c_1
    rw [e_j] at hl
    refine lv_iload_n hx hb dX4_cell_12 rfl (lv_at hl 3 rfl) ?_
    refine zk_callSi (As := [.int lane]) (rest := []) (bI (isP 3 lane)) ⟨hx, hb, hml, hown, hts⟩ hK hP [] rfl (c_isLane l D cI lane ) (va_cwS 1 hts gX4_cell_X4_isLane rfl rfl rfl hdX4_isLane ⟨Nat.le_of_ble_eq_true rfl, Nat.le_of_ble_eq_true rfl⟩) rfl hl.1 rfl (Nat.le_of_ble_eq_true rfl) dX4_cell_13 ⟨Nat.le_of_ble_eq_true rfl, Nat.le_of_ble_eq_true rfl⟩ ?_
    refine zk_ifneB (tgt := 23) hx hb dX4_cell_16 (by decide) (fun c_2 => ?_) (fun c_2 => ?_)
    · refine lv_aload_n hx hb dX4_cell_23 rfl (lv_at hl 0 rfl) ?_
      refine lv_aload_n hx hb dX4_cell_24 rfl (lv_at hl 0 rfl) ?_
      refine va_get (D := D) (ci := 4) (v := .ref x27) (C := RX4) (T := TX4) (N := 7) hx hb hts inX4 hown hK.1 hP 0 rfl rfl 4 (by decide) f_38 (fun _ h9 => h9) rfl dX4_cell_25 ?_
      refine lv_iload_n hx hb dX4_cell_28 rfl (lv_at hl 1 rfl) ?_
      refine lv_iload_n hx hb dX4_cell_29 rfl (lv_at hl 3 rfl) ?_
      refine zk_callVi (As := [.int (nI j), .int lane]) (rest := [.ref x0]) (fRow ln j lane) ⟨hx, hb, hml, hown, hts⟩ hK hP [1, 2, 3, 4] rfl (c_faultOfRow l D cI x27 x28 x29 x30 cl ln sz0 j lane hj) (cwV 2 hts gX4_cell_X3_faultOfRow rfl rfl rfl hdX3_faultOfRow ⟨Nat.le_of_ble_eq_true rfl, Nat.le_of_ble_eq_true rfl⟩) rfl rfl rfl hl.1 rfl (Nat.le_of_ble_eq_true rfl) dX4_cell_30 ⟨Nat.le_of_ble_eq_true rfl, Nat.le_of_ble_eq_true rfl⟩ ?_
      refine va_put (D := D) (ci := 4) (v := .int (fRow ln j lane)) (ty := .int) (C := RX4) (T := TX4) (N := 7) hx hb hts inX4 tyX4 tyX4_ok nmX4 hown hK.1 hP hD hS 0 rfl rfl 6 (by decide) f_42 (fun _ h9 => h9) rfl (by decide +kernel) rfl rfl (Nat.le_of_ble_eq_true rfl) dX4_cell_33 (fun H locs hP hD hS => ?_)
      have hP : va_P D vwCl [(x0, .inr (4, [.ref x1, .ref x8, .ref x15, .ref x23, .ref x27, .int tr, .int (fRow ln j lane)])), (x27, .inr (3, [.ref x28, .ref x29, .ref x30])), (x28, .inl (cI, 240, .inl cl)), (x29, .inl (cI, 4, .inl ln)), (x30, .inl (cI, 4, .inl sz0))] H := hP
      have hD : va_D A [(x0, .inr (4, [.ref x1, .ref x8, .ref x15, .ref x23, .ref x27, .int tr, .int (fRow ln j lane)])), (x27, .inr (3, [.ref x28, .ref x29, .ref x30])), (x28, .inl (cI, 240, .inl cl)), (x29, .inl (cI, 4, .inl ln)), (x30, .inl (cI, 4, .inl sz0))] := hD
      refine lv_aload_n hx hb dX4_cell_36 rfl (lv_at hl 0 rfl) ?_
      refine va_get (D := D) (ci := 4) (v := .int (fRow ln j lane)) (C := RX4) (T := TX4) (N := 7) hx hb hts inX4 hown hK.1 hP 0 rfl rfl 6 (by decide) f_42 (fun _ h9 => h9) rfl dX4_cell_37 ?_
      refine lv_if_ne (tgt := 60) hx hb dX4_cell_40 (by decide) (fun c_3 => ?_) (fun c_3 => ?_)
      · refine lv_aload_n hx hb dX4_cell_60 rfl (lv_at hl 0 rfl) ?_
        refine va_get (D := D) (ci := 4) (v := .int (fRow ln j lane)) (C := RX4) (T := TX4) (N := 7) hx hb hts inX4 hown hK.1 hP 0 rfl rfl 6 (by decide) f_42 (fun _ h9 => h9) rfl dX4_cell_61 ?_
        refine lv_if_ne (tgt := 80) hx hb dX4_cell_64 (by decide) (fun c_4 => ?_) (fun c_4 => ?_)
        · refine lv_ldc2 (v := (-9223372036854775808)) hx hb hown k_164 dX4_cell_80 ?_
          have e_t : cellF cl ln sz0 k i lane = ((-9223372036854775808), fRow ln j lane) := by simp [cellF, c_1, g_j, c_2, c_3, c_4]
          exact zk_retL hx hb hr hS (()) (by rw [e_t]) (by rw [e_t]; exact hP) (by rw [e_t]; exact hD) dX4_cell_83 hlocks
        · exact (by exact absurd c_4 c_3)
      · refine lv_aload_n hx hb dX4_cell_43 rfl (lv_at hl 0 rfl) ?_
        refine va_get (D := D) (ci := 4) (v := .ref x27) (C := RX4) (T := TX4) (N := 7) hx hb hts inX4 hown hK.1 hP 0 rfl rfl 4 (by decide) f_38 (fun _ h9 => h9) rfl dX4_cell_44 ?_
        refine lv_iload_n hx hb dX4_cell_47 rfl (lv_at hl 1 rfl) ?_
        refine lv_iload_n hx hb dX4_cell_48 rfl (lv_at hl 2 rfl) ?_
        refine zk_callVi (As := [.int (nI j), .int i]) (rest := []) (bI (pl1 i (sz0 j))) ⟨hx, hb, hml, hown, hts⟩ hK hP [1, 2, 3, 4] rfl (c_hasPlace l D cI x27 x28 x29 x30 cl ln sz0 j i hj) (cwV 2 hts gX4_cell_X3_hasPlace rfl rfl rfl hdX3_hasPlace ⟨Nat.le_of_ble_eq_true rfl, Nat.le_of_ble_eq_true rfl⟩) rfl rfl rfl hl.1 rfl (Nat.le_of_ble_eq_true rfl) dX4_cell_49 ⟨Nat.le_of_ble_eq_true rfl, Nat.le_of_ble_eq_true rfl⟩ ?_
        refine zk_ifneB (tgt := 60) hx hb dX4_cell_52 (by decide) (fun c_5 => ?_) (fun c_5 => ?_)
        · obtain ⟨m, hm, e_m, g_m⟩ := pl1_of hsz hj c_5
          rw [e_m] at hl
          refine lv_aload_n hx hb dX4_cell_60 rfl (lv_at hl 0 rfl) ?_
          refine va_get (D := D) (ci := 4) (v := .int (fRow ln j lane)) (C := RX4) (T := TX4) (N := 7) hx hb hts inX4 hown hK.1 hP 0 rfl rfl 6 (by decide) f_42 (fun _ h9 => h9) rfl dX4_cell_61 ?_
          refine lv_if_ne (tgt := 80) hx hb dX4_cell_64 (by decide) (fun c_6 => ?_) (fun c_6 => ?_)
          · exact (by exact absurd c_3 c_6)
          · refine lv_aload_n hx hb dX4_cell_67 rfl (lv_at hl 0 rfl) ?_
            refine va_get (D := D) (ci := 4) (v := .ref x27) (C := RX4) (T := TX4) (N := 7) hx hb hts inX4 hown hK.1 hP 0 rfl rfl 4 (by decide) f_38 (fun _ h9 => h9) rfl dX4_cell_68 ?_
            refine lv_iload_n hx hb dX4_cell_71 rfl (lv_at hl 1 rfl) ?_
            refine lv_iload_n hx hb dX4_cell_72 rfl (lv_at hl 2 rfl) ?_
            refine zk_callVi (As := [.int (nI j), .int (nI m)]) (rest := []) (cl (j * 60 + m)) ⟨hx, hb, hml, hown, hts⟩ hK hP [1, 2, 3, 4] rfl (c_read l D cI x27 x28 x29 x30 cl ln sz0 j m hj hm) (cwV 2 hts gX4_cell_X3_read rfl rfl rfl hdX3_read ⟨Nat.le_of_ble_eq_true rfl, Nat.le_of_ble_eq_true rfl⟩) rfl rfl rfl hl.1 rfl (Nat.le_of_ble_eq_true rfl) dX4_cell_73 ⟨Nat.le_of_ble_eq_true rfl, Nat.le_of_ble_eq_true rfl⟩ ?_
            refine lv_i2l (v := (cl (j * 60 + m)).toInt64) hx hb dX4_cell_76 rfl ?_
            refine lv_goto (tgt := 83) hx hb dX4_cell_77 (by decide) ?_
            have e_t : cellF cl ln sz0 k i lane = ((cl (j * 60 + m)).toInt64, fRow ln j lane) := by simp [cellF, c_1, g_j, c_2, c_3, c_5, g_m, c_6]
            exact zk_retL hx hb hr hS (()) (by rw [e_t]) (by rw [e_t]; exact hP) (by rw [e_t]; exact hD) dX4_cell_83 hlocks
        · refine lv_aload_n hx hb dX4_cell_55 rfl (lv_at hl 0 rfl) ?_
          refine lv_iconst (v := nI 3) hx hb dX4_cell_56 (by decide) ?_
          refine va_put (D := D) (ci := 4) (v := .int (nI 3)) (ty := .int) (C := RX4) (T := TX4) (N := 7) hx hb hts inX4 tyX4 tyX4_ok nmX4 hown hK.1 hP hD hS 0 rfl rfl 6 (by decide) f_42 (fun _ h9 => h9) rfl (by decide +kernel) rfl rfl (Nat.le_of_ble_eq_true rfl) dX4_cell_57 (fun H locs hP hD hS => ?_)
          have hP : va_P D vwCl [(x0, .inr (4, [.ref x1, .ref x8, .ref x15, .ref x23, .ref x27, .int tr, .int (nI 3)])), (x27, .inr (3, [.ref x28, .ref x29, .ref x30])), (x28, .inl (cI, 240, .inl cl)), (x29, .inl (cI, 4, .inl ln)), (x30, .inl (cI, 4, .inl sz0))] H := hP
          have hD : va_D A [(x0, .inr (4, [.ref x1, .ref x8, .ref x15, .ref x23, .ref x27, .int tr, .int (nI 3)])), (x27, .inr (3, [.ref x28, .ref x29, .ref x30])), (x28, .inl (cI, 240, .inl cl)), (x29, .inl (cI, 4, .inl ln)), (x30, .inl (cI, 4, .inl sz0))] := hD
          refine lv_aload_n hx hb dX4_cell_60 rfl (lv_at hl 0 rfl) ?_
          refine va_get (D := D) (ci := 4) (v := .int (nI 3)) (C := RX4) (T := TX4) (N := 7) hx hb hts inX4 hown hK.1 hP 0 rfl rfl 6 (by decide) f_42 (fun _ h9 => h9) rfl dX4_cell_61 ?_
          refine lv_if_ne (tgt := 80) hx hb dX4_cell_64 (by decide) (fun c_7 => ?_) (fun c_7 => ?_)
          · refine lv_ldc2 (v := (-9223372036854775808)) hx hb hown k_164 dX4_cell_80 ?_
            have e_t : cellF cl ln sz0 k i lane = ((-9223372036854775808), nI 3) := by simp [cellF, c_1, g_j, c_2, c_3, c_5, c_7]
            exact zk_retL hx hb hr hS (()) (by rw [e_t]) (by rw [e_t]; exact hP) (by rw [e_t]; exact hD) dX4_cell_83 hlocks
          · exact (by exact absurd c_7 (by decide))
    · refine lv_ldc2 (v := (-9223372036854775808)) hx hb hown k_164 dX4_cell_19 ?_
      have e_t : cellF cl ln sz0 k i lane = ((-9223372036854775808), nI 0) := by simp [cellF, c_1, g_j, c_2]
      exact zk_retL hx hb hr hS (()) (by rw [e_t]) (by rw [e_t]; exact hP) (by rw [e_t]; exact hD) dX4_cell_22 hlocks
set_option maxHeartbeats 4000000 in
set_option maxRecDepth 100000 in
theorem cx_copy (l : Launch) (D : va_G) (cI : ClassId) (sz : Nat) (x0 : Nat) (x1 : Nat) (x2 : Nat) (x3 : Nat) (x4 : Nat) (x5 : Nat) (x6 : Nat) (x7 : Nat) (x8 : Nat) (x9 : Nat) (x10 : Nat) (x11 : Nat) (x12 : Nat) (x13 : Nat) (x14 : Nat) (x15 : Nat) (x16 : Nat) (x17 : Nat) (x18 : Nat) (x19 : Nat) (x20 : Nat) (x21 : Nat) (x22 : Nat) (x23 : Nat) (x24 : Nat) (x25 : Nat) (x26 : Nat) (x27 : Nat) (x28 : Nat) (x29 : Nat) (x30 : Nat) (cl : Nat → Int32) (ln : Nat → Int32) (sz0 : Nat → Int32) (tr : Int32) (fl : Int32) (k : Int32) (i : Int32) (o : Int32) (j : Int32) (n : Int32) (hsz : okS sz0) : Met l yX4_copy wsX4_copy ({ frames := 2, cells := 0, slots := 0, locals := 85 }) (PQ D cI [.ref x0, .int k, .int i, .int o, .int j, .int n] (wXo x0 x1 x8 x15 x23 x27 tr fl ++ wSh cI x27 x28 x29 x30 cl ln sz0) sz) (QI (S := Unit) D (fun r _ => r = (copyF cl ln sz0 k i o j n).1) (fun _ => wXo x0 x1 x8 x15 x23 x27 tr ((copyF cl ln sz0 k i o j n).2.1) ++ wSh cI x27 x28 x29 x30 ((copyF cl ln sz0 k i o j n).2.2) ln sz0) (va_A (wXo x0 x1 x8 x15 x23 x27 tr fl ++ wSh cI x27 x28 x29 x30 cl ln sz0) sz)) 0 0 (va_A (wXo x0 x1 x8 x15 x23 x27 tr fl ++ wSh cI x27 x28 x29 x30 cl ln sz0) sz) := by
  refine zk_Q (QI (S := Unit) D (fun r _ => r = (copyF cl ln sz0 k i o j n).1) (fun _ => wXo x0 x1 x8 x15 x23 x27 tr ((copyF cl ln sz0 k i o j n).2.1) ++ wSh cI x27 x28 x29 x30 ((copyF cl ln sz0 k i o j n).2.2) ln sz0)) (cc := cX4_copy) (maxL := 6) (ret := (some .int)) (by decide) rfl (Nat.le_of_ble_eq_true rfl) ?_
  intro pX eX sX mX bX tX cX hx hb hr hlocks hml hown hmn hts hP hK A hA hD hS ls hl
  have hl : lv_has ls 6 [(0, .ref x0), (1, .int k), (2, .int i), (3, .int o), (4, .int j), (5, .int n)] := hl
  have hP : va_P D vwCl [(x0, .inr (4, [.ref x1, .ref x8, .ref x15, .ref x23, .ref x27, .int tr, .int fl])), (x27, .inr (3, [.ref x28, .ref x29, .ref x30])), (x28, .inl (cI, 240, .inl cl)), (x29, .inl (cI, 4, .inl ln)), (x30, .inl (cI, 4, .inl sz0))] sX.heap := hP
  have hD : va_D A [(x0, .inr (4, [.ref x1, .ref x8, .ref x15, .ref x23, .ref x27, .int tr, .int fl])), (x27, .inr (3, [.ref x28, .ref x29, .ref x30])), (x28, .inl (cI, 240, .inl cl)), (x29, .inl (cI, 4, .inl ln)), (x30, .inl (cI, 4, .inl sz0))] := hD
  have f_42 := hts (.fieldLink RX4 42 "DunceSee" "fault" "I") (by decide +kernel)
  have f_38 := hts (.fieldLink RX4 38 "DunceSee" "sheets" "LDunceSee$Sheets;") (by decide +kernel)
  have f_195 := hK.nest (A := ([.ref x0, .int k, .int i, .int o, .int j, .int n] : List Value).toArray) 24 rfl
  have inX4 : ∀ w ∈ wsX40, w ∈ wsX4_copy := fun w h => List.mem_cons_of_mem _ (List.mem_append_left _ (List.mem_append_right _ h))
  have inX3 : ∀ w ∈ wsX30, w ∈ wsX4_copy := fun w h => List.mem_cons_of_mem _ (List.mem_append_right _ h)
  refine lv_aload_n hx hb dX4_copy_0 rfl (lv_at hl 0 rfl) ?_
  refine lv_iconst (v := nI 0) hx hb dX4_copy_1 (by decide) ?_
  refine va_put (D := D) (ci := 4) (v := .int (nI 0)) (ty := .int) (C := RX4) (T := TX4) (N := 7) hx hb hts inX4 tyX4 tyX4_ok nmX4 hown hK.1 hP hD hS 0 rfl rfl 6 (by decide) f_42 (fun _ h9 => h9) rfl (by decide +kernel) rfl rfl (Nat.le_of_ble_eq_true rfl) dX4_copy_2 (fun H locs hP hD hS => ?_)
  have hP : va_P D vwCl [(x0, .inr (4, [.ref x1, .ref x8, .ref x15, .ref x23, .ref x27, .int tr, .int (nI 0)])), (x27, .inr (3, [.ref x28, .ref x29, .ref x30])), (x28, .inl (cI, 240, .inl cl)), (x29, .inl (cI, 4, .inl ln)), (x30, .inl (cI, 4, .inl sz0))] H := hP
  have hD : va_D A [(x0, .inr (4, [.ref x1, .ref x8, .ref x15, .ref x23, .ref x27, .int tr, .int (nI 0)])), (x27, .inr (3, [.ref x28, .ref x29, .ref x30])), (x28, .inl (cI, 240, .inl cl)), (x29, .inl (cI, 4, .inl ln)), (x30, .inl (cI, 4, .inl sz0))] := hD
  refine lv_iload_n hx hb dX4_copy_5 rfl (lv_at hl 1 rfl) ?_
  refine zk_callSi (As := [.int k]) (rest := []) (bI (isP 4 k)) ⟨hx, hb, hml, hown, hts⟩ hK hP [] rfl (c_isSheet l D cI k ) (va_cwS 1 hts gX4_copy_X4_isSheet rfl rfl rfl hdX4_isSheet ⟨Nat.le_of_ble_eq_true rfl, Nat.le_of_ble_eq_true rfl⟩) rfl hl.1 rfl (Nat.le_of_ble_eq_true rfl) dX4_copy_6 ⟨Nat.le_of_ble_eq_true rfl, Nat.le_of_ble_eq_true rfl⟩ ?_
  refine zk_ifeqB (tgt := 19) hx hb dX4_copy_9 (by decide) (fun c_1 => ?_) (fun c_1 => ?_)
  · refine lv_iconst (v := (-1)) hx hb dX4_copy_19 (by decide) ?_
    have e_t : copyF cl ln sz0 k i o j n = ((-1), nI 0, cl) := by simp [copyF, c_1]
    exact zk_retI hx hb hr hS (()) (by rw [e_t]) (by rw [e_t]; exact hP) (by rw [e_t]; exact hD) dX4_copy_20 hlocks
  · obtain ⟨k1, hk1, e_k1, g_k1⟩ := isP_of (by omega) c_1
    rw [e_k1] at hl
    refine lv_iload_n hx hb dX4_copy_12 rfl (lv_at hl 3 rfl) ?_
    refine zk_callSi (As := [.int o]) (rest := []) (bI (isP 4 o)) ⟨hx, hb, hml, hown, hts⟩ hK hP [] rfl (c_isSheet l D cI o ) (va_cwS 1 hts gX4_copy_X4_isSheet rfl rfl rfl hdX4_isSheet ⟨Nat.le_of_ble_eq_true rfl, Nat.le_of_ble_eq_true rfl⟩) rfl hl.1 rfl (Nat.le_of_ble_eq_true rfl) dX4_copy_13 ⟨Nat.le_of_ble_eq_true rfl, Nat.le_of_ble_eq_true rfl⟩ ?_
    refine zk_ifneB (tgt := 21) hx hb dX4_copy_16 (by decide) (fun c_2 => ?_) (fun c_2 => ?_)
    · obtain ⟨o1, ho1, e_o1, g_o1⟩ := isP_of (by omega) c_2
      rw [e_o1] at hl
      refine lv_aload_n hx hb dX4_copy_21 rfl (lv_at hl 0 rfl) ?_
      refine va_get (D := D) (ci := 4) (v := .ref x27) (C := RX4) (T := TX4) (N := 7) hx hb hts inX4 hown hK.1 hP 0 rfl rfl 4 (by decide) f_38 (fun _ h9 => h9) rfl dX4_copy_22 ?_
      refine lv_iload_n hx hb dX4_copy_25 rfl (lv_at hl 1 rfl) ?_
      refine zk_callVi (As := [.int (nI k1)]) (rest := []) (bI (hasR ln k1)) ⟨hx, hb, hml, hown, hts⟩ hK hP [1, 2, 3, 4] rfl (c_hasRow l D cI x27 x28 x29 x30 cl ln sz0 k1 hk1) (cwV 1 hts gX4_copy_X3_hasRow rfl rfl rfl hdX3_hasRow ⟨Nat.le_of_ble_eq_true rfl, Nat.le_of_ble_eq_true rfl⟩) rfl rfl rfl hl.1 rfl (Nat.le_of_ble_eq_true rfl) dX4_copy_26 ⟨Nat.le_of_ble_eq_true rfl, Nat.le_of_ble_eq_true rfl⟩ ?_
      refine zk_ifeqB (tgt := 43) hx hb dX4_copy_29 (by decide) (fun c_3 => ?_) (fun c_3 => ?_)
      · refine lv_aload_n hx hb dX4_copy_43 rfl (lv_at hl 0 rfl) ?_
        refine lv_iconst (v := nI 1) hx hb dX4_copy_44 (by decide) ?_
        refine zk_effVi (As := [.int (nI 1)]) (rest := []) (S := Unit) (fun r _ => r = (-10) - (nI 1)) (fun _ => wXo x0 x1 x8 x15 x23 x27 tr (nI 1)) ⟨hx, hb, hml, hown, hts⟩ hK hP hD hS hA [0] [1, 2, 3, 4] (wc := [(x0, .inr (4, [.ref x1, .ref x8, .ref x15, .ref x23, .ref x27, .int tr, .int (nI 0)]))]) (wr := [(x27, .inr (3, [.ref x28, .ref x29, .ref x30])), (x28, .inl (cI, 240, .inl cl)), (x29, .inl (cI, 4, .inl ln)), (x30, .inl (cI, 4, .inl sz0))]) rfl rfl (by decide) (by decide) (by decide) [4, 0, 1, 2, 3] (fun (_ : Unit) => [(x0, .inr (4, [.ref x1, .ref x8, .ref x15, .ref x23, .ref x27, .int tr, .int (nI 1)])), (x27, .inr (3, [.ref x28, .ref x29, .ref x30])), (x28, .inl (cI, 240, .inl cl)), (x29, .inl (cI, 4, .inl ln)), (x30, .inl (cI, 4, .inl sz0))]) (fun _ => rfl) (by decide) (c_fail l D cI H.size x0 x1 x2 x3 x4 x5 x6 x7 x8 x9 x10 x11 x12 x13 x14 x15 x16 x17 x18 x19 x20 x21 x22 x23 x24 x25 x26 x27 x28 x29 x30 tr (nI 0) (nI 1) ) (cwV 1 hts gX4_copy_X4_fail rfl rfl rfl hdX4_fail ⟨Nat.le_of_ble_eq_true rfl, Nat.le_of_ble_eq_true rfl⟩) rfl rfl rfl hl.1 rfl (Nat.le_of_ble_eq_true rfl) dX4_copy_45 ⟨Nat.le_of_ble_eq_true rfl, Nat.le_of_ble_eq_true rfl⟩ (fun r_4 _ H locs hw_5 hP hD hS => ?_)
        have e_r_4 : r_4 = (-11) := hw_5.trans (by decide)
        rw [e_r_4]
        have e_t : copyF cl ln sz0 k i o j n = ((-11), (nI 1), cl) := by simp [copyF, c_1, g_k1, c_2, g_o1, c_3]
        exact zk_retI hx hb hr hS (()) (by rw [e_t]) (by rw [e_t]; exact hP) (by rw [e_t]; exact hD) dX4_copy_48 hlocks
      · refine lv_aload_n hx hb dX4_copy_32 rfl (lv_at hl 0 rfl) ?_
        refine va_get (D := D) (ci := 4) (v := .ref x27) (C := RX4) (T := TX4) (N := 7) hx hb hts inX4 hown hK.1 hP 0 rfl rfl 4 (by decide) f_38 (fun _ h9 => h9) rfl dX4_copy_33 ?_
        refine lv_iload_n hx hb dX4_copy_36 rfl (lv_at hl 3 rfl) ?_
        refine zk_callVi (As := [.int (nI o1)]) (rest := []) (bI (hasR ln o1)) ⟨hx, hb, hml, hown, hts⟩ hK hP [1, 2, 3, 4] rfl (c_hasRow l D cI x27 x28 x29 x30 cl ln sz0 o1 ho1) (cwV 1 hts gX4_copy_X3_hasRow rfl rfl rfl hdX3_hasRow ⟨Nat.le_of_ble_eq_true rfl, Nat.le_of_ble_eq_true rfl⟩) rfl rfl rfl hl.1 rfl (Nat.le_of_ble_eq_true rfl) dX4_copy_37 ⟨Nat.le_of_ble_eq_true rfl, Nat.le_of_ble_eq_true rfl⟩ ?_
        refine zk_ifneB (tgt := 49) hx hb dX4_copy_40 (by decide) (fun c_6 => ?_) (fun c_6 => ?_)
        · refine lv_aload_n hx hb dX4_copy_49 rfl (lv_at hl 0 rfl) ?_
          refine va_get (D := D) (ci := 4) (v := .ref x27) (C := RX4) (T := TX4) (N := 7) hx hb hts inX4 hown hK.1 hP 0 rfl rfl 4 (by decide) f_38 (fun _ h9 => h9) rfl dX4_copy_50 ?_
          refine va_getN (D := D) (ci := 3) (v := .ref x29) (C := RX3) (T := TX3) (N := 3) hx hb hts inX3 hown hK.1 hP 1 rfl rfl 1 (by decide) f_195 (fun _ h9 => h9) rfl dX4_copy_53 ?_
          refine lv_iload_n hx hb dX4_copy_56 rfl (lv_at hl 1 rfl) ?_
          refine zk_iald hx hb hK hP 3 rfl (by omega) (by decide) dX4_copy_57 ?_
          refine lv_aload_n hx hb dX4_copy_58 rfl (lv_at hl 0 rfl) ?_
          refine va_get (D := D) (ci := 4) (v := .ref x27) (C := RX4) (T := TX4) (N := 7) hx hb hts inX4 hown hK.1 hP 0 rfl rfl 4 (by decide) f_38 (fun _ h9 => h9) rfl dX4_copy_59 ?_
          refine va_getN (D := D) (ci := 3) (v := .ref x29) (C := RX3) (T := TX3) (N := 3) hx hb hts inX3 hown hK.1 hP 1 rfl rfl 1 (by decide) f_195 (fun _ h9 => h9) rfl dX4_copy_62 ?_
          refine lv_iload_n hx hb dX4_copy_65 rfl (lv_at hl 3 rfl) ?_
          refine zk_iald hx hb hK hP 3 rfl (by omega) (by decide) dX4_copy_66 ?_
          refine lv_icmp_eq (tgt := 76) hx hb dX4_copy_67 (by decide) (fun c_7 => ?_) (fun c_7 => ?_)
          · refine lv_iload hx hb dX4_copy_76 (lv_at hl 5 rfl) ?_
            refine lv_if_lt (tgt := 110) hx hb dX4_copy_78 (by decide) (fun c_8 => ?_) (fun c_8 => ?_)
            · refine lv_aload_n hx hb dX4_copy_110 rfl (lv_at hl 0 rfl) ?_
              refine lv_iconst (v := nI 3) hx hb dX4_copy_111 (by decide) ?_
              refine zk_effVi (As := [.int (nI 3)]) (rest := []) (S := Unit) (fun r _ => r = (-10) - (nI 3)) (fun _ => wXo x0 x1 x8 x15 x23 x27 tr (nI 3)) ⟨hx, hb, hml, hown, hts⟩ hK hP hD hS hA [0] [1, 2, 3, 4] (wc := [(x0, .inr (4, [.ref x1, .ref x8, .ref x15, .ref x23, .ref x27, .int tr, .int (nI 0)]))]) (wr := [(x27, .inr (3, [.ref x28, .ref x29, .ref x30])), (x28, .inl (cI, 240, .inl cl)), (x29, .inl (cI, 4, .inl ln)), (x30, .inl (cI, 4, .inl sz0))]) rfl rfl (by decide) (by decide) (by decide) [4, 0, 1, 2, 3] (fun (_ : Unit) => [(x0, .inr (4, [.ref x1, .ref x8, .ref x15, .ref x23, .ref x27, .int tr, .int (nI 3)])), (x27, .inr (3, [.ref x28, .ref x29, .ref x30])), (x28, .inl (cI, 240, .inl cl)), (x29, .inl (cI, 4, .inl ln)), (x30, .inl (cI, 4, .inl sz0))]) (fun _ => rfl) (by decide) (c_fail l D cI H.size x0 x1 x2 x3 x4 x5 x6 x7 x8 x9 x10 x11 x12 x13 x14 x15 x16 x17 x18 x19 x20 x21 x22 x23 x24 x25 x26 x27 x28 x29 x30 tr (nI 0) (nI 3) ) (cwV 1 hts gX4_copy_X4_fail rfl rfl rfl hdX4_fail ⟨Nat.le_of_ble_eq_true rfl, Nat.le_of_ble_eq_true rfl⟩) rfl rfl rfl hl.1 rfl (Nat.le_of_ble_eq_true rfl) dX4_copy_112 ⟨Nat.le_of_ble_eq_true rfl, Nat.le_of_ble_eq_true rfl⟩ (fun r_9 _ H locs hw_10 hP hD hS => ?_)
              have e_r_9 : r_9 = (-13) := hw_10.trans (by decide)
              rw [e_r_9]
              have e_t : copyF cl ln sz0 k i o j n = ((-13), (nI 3), cl) := by simp [copyF, c_1, g_k1, c_2, g_o1, c_3, c_6, c_7, c_8, (Int32.not_le.mpr c_8)]
              exact zk_retI hx hb hr hS (()) (by rw [e_t]) (by rw [e_t]; exact hP) (by rw [e_t]; exact hD) dX4_copy_115 hlocks
            · have c_8 := Int32.not_lt.mp c_8
              refine lv_aload_n hx hb dX4_copy_81 rfl (lv_at hl 0 rfl) ?_
              refine va_get (D := D) (ci := 4) (v := .ref x27) (C := RX4) (T := TX4) (N := 7) hx hb hts inX4 hown hK.1 hP 0 rfl rfl 4 (by decide) f_38 (fun _ h9 => h9) rfl dX4_copy_82 ?_
              refine lv_iload_n hx hb dX4_copy_85 rfl (lv_at hl 1 rfl) ?_
              refine lv_iload_n hx hb dX4_copy_86 rfl (lv_at hl 2 rfl) ?_
              refine lv_iload hx hb dX4_copy_87 (lv_at hl 5 rfl) ?_
              refine zk_callVi (As := [.int (nI k1), .int i, .int n]) (rest := []) (bI (plN i n (sz0 k1))) ⟨hx, hb, hml, hown, hts⟩ hK hP [1, 2, 3, 4] rfl (c_hasPlaces l D cI x27 x28 x29 x30 cl ln sz0 k1 i n hk1) (cwV 3 hts gX4_copy_X3_hasPlaces rfl rfl rfl hdX3_hasPlaces ⟨Nat.le_of_ble_eq_true rfl, Nat.le_of_ble_eq_true rfl⟩) rfl rfl rfl hl.1 rfl (Nat.le_of_ble_eq_true rfl) dX4_copy_89 ⟨Nat.le_of_ble_eq_true rfl, Nat.le_of_ble_eq_true rfl⟩ ?_
              refine zk_ifeqB (tgt := 110) hx hb dX4_copy_92 (by decide) (fun c_11 => ?_) (fun c_11 => ?_)
              · refine lv_aload_n hx hb dX4_copy_110 rfl (lv_at hl 0 rfl) ?_
                refine lv_iconst (v := nI 3) hx hb dX4_copy_111 (by decide) ?_
                refine zk_effVi (As := [.int (nI 3)]) (rest := []) (S := Unit) (fun r _ => r = (-10) - (nI 3)) (fun _ => wXo x0 x1 x8 x15 x23 x27 tr (nI 3)) ⟨hx, hb, hml, hown, hts⟩ hK hP hD hS hA [0] [1, 2, 3, 4] (wc := [(x0, .inr (4, [.ref x1, .ref x8, .ref x15, .ref x23, .ref x27, .int tr, .int (nI 0)]))]) (wr := [(x27, .inr (3, [.ref x28, .ref x29, .ref x30])), (x28, .inl (cI, 240, .inl cl)), (x29, .inl (cI, 4, .inl ln)), (x30, .inl (cI, 4, .inl sz0))]) rfl rfl (by decide) (by decide) (by decide) [4, 0, 1, 2, 3] (fun (_ : Unit) => [(x0, .inr (4, [.ref x1, .ref x8, .ref x15, .ref x23, .ref x27, .int tr, .int (nI 3)])), (x27, .inr (3, [.ref x28, .ref x29, .ref x30])), (x28, .inl (cI, 240, .inl cl)), (x29, .inl (cI, 4, .inl ln)), (x30, .inl (cI, 4, .inl sz0))]) (fun _ => rfl) (by decide) (c_fail l D cI H.size x0 x1 x2 x3 x4 x5 x6 x7 x8 x9 x10 x11 x12 x13 x14 x15 x16 x17 x18 x19 x20 x21 x22 x23 x24 x25 x26 x27 x28 x29 x30 tr (nI 0) (nI 3) ) (cwV 1 hts gX4_copy_X4_fail rfl rfl rfl hdX4_fail ⟨Nat.le_of_ble_eq_true rfl, Nat.le_of_ble_eq_true rfl⟩) rfl rfl rfl hl.1 rfl (Nat.le_of_ble_eq_true rfl) dX4_copy_112 ⟨Nat.le_of_ble_eq_true rfl, Nat.le_of_ble_eq_true rfl⟩ (fun r_12 _ H locs hw_13 hP hD hS => ?_)
                have e_r_12 : r_12 = (-13) := hw_13.trans (by decide)
                rw [e_r_12]
                have e_t : copyF cl ln sz0 k i o j n = ((-13), (nI 3), cl) := by simp [copyF, c_1, g_k1, c_2, g_o1, c_3, c_6, c_7, c_8, (Int32.not_lt.mpr c_8), c_11]
                exact zk_retI hx hb hr hS (()) (by rw [e_t]) (by rw [e_t]; exact hP) (by rw [e_t]; exact hD) dX4_copy_115 hlocks
              · refine lv_aload_n hx hb dX4_copy_95 rfl (lv_at hl 0 rfl) ?_
                refine va_get (D := D) (ci := 4) (v := .ref x27) (C := RX4) (T := TX4) (N := 7) hx hb hts inX4 hown hK.1 hP 0 rfl rfl 4 (by decide) f_38 (fun _ h9 => h9) rfl dX4_copy_96 ?_
                refine lv_iload_n hx hb dX4_copy_99 rfl (lv_at hl 3 rfl) ?_
                refine lv_iload hx hb dX4_copy_100 (lv_at hl 4 rfl) ?_
                refine lv_iload hx hb dX4_copy_102 (lv_at hl 5 rfl) ?_
                refine zk_callVi (As := [.int (nI o1), .int j, .int n]) (rest := []) (bI (plN j n (sz0 o1))) ⟨hx, hb, hml, hown, hts⟩ hK hP [1, 2, 3, 4] rfl (c_hasPlaces l D cI x27 x28 x29 x30 cl ln sz0 o1 j n ho1) (cwV 3 hts gX4_copy_X3_hasPlaces rfl rfl rfl hdX3_hasPlaces ⟨Nat.le_of_ble_eq_true rfl, Nat.le_of_ble_eq_true rfl⟩) rfl rfl rfl hl.1 rfl (Nat.le_of_ble_eq_true rfl) dX4_copy_104 ⟨Nat.le_of_ble_eq_true rfl, Nat.le_of_ble_eq_true rfl⟩ ?_
                refine zk_ifneB (tgt := 116) hx hb dX4_copy_107 (by decide) (fun c_14 => ?_) (fun c_14 => ?_)
                · obtain ⟨m, hm, e_m, g_m⟩ := nat_of c_8
                  obtain ⟨i1, hi1, e_i, g_i⟩ := plN_of hsz hk1 hm e_m c_11
                  obtain ⟨j1, hj1, e_j, g_j⟩ := plN_of hsz ho1 hm e_m c_14
                  rw [e_m, e_i, e_j] at hl
                  refine lv_aload_n hx hb dX4_copy_116 rfl (lv_at hl 0 rfl) ?_
                  refine va_get (D := D) (ci := 4) (v := .ref x27) (C := RX4) (T := TX4) (N := 7) hx hb hts inX4 hown hK.1 hP 0 rfl rfl 4 (by decide) f_38 (fun _ h9 => h9) rfl dX4_copy_117 ?_
                  refine lv_iload_n hx hb dX4_copy_120 rfl (lv_at hl 1 rfl) ?_
                  refine lv_iload_n hx hb dX4_copy_121 rfl (lv_at hl 2 rfl) ?_
                  refine lv_iload_n hx hb dX4_copy_122 rfl (lv_at hl 3 rfl) ?_
                  refine lv_iload hx hb dX4_copy_123 (lv_at hl 4 rfl) ?_
                  refine lv_iload hx hb dX4_copy_125 (lv_at hl 5 rfl) ?_
                  refine zk_effVv (As := [.int (nI k1), .int (nI i1), .int (nI o1), .int (nI j1), .int (nI m)]) (rest := []) (S := Unit) (fun _ => True) (fun _ => wSh cI x27 x28 x29 x30 (va_cpy cl cl (k1 * 60 + i1) (o1 * 60 + j1) m) ln sz0) ⟨hx, hb, hml, hown, hts⟩ hK hP hD hS hA [1, 2, 3, 4] [0] (wc := [(x27, .inr (3, [.ref x28, .ref x29, .ref x30])), (x28, .inl (cI, 240, .inl cl)), (x29, .inl (cI, 4, .inl ln)), (x30, .inl (cI, 4, .inl sz0))]) (wr := [(x0, .inr (4, [.ref x1, .ref x8, .ref x15, .ref x23, .ref x27, .int tr, .int (nI 0)]))]) rfl rfl (by decide) (by decide) (by decide) [0, 1, 2, 3, 4] (fun (_ : Unit) => [(x0, .inr (4, [.ref x1, .ref x8, .ref x15, .ref x23, .ref x27, .int tr, .int (nI 0)])), (x27, .inr (3, [.ref x28, .ref x29, .ref x30])), (x28, .inl (cI, 240, .inl (va_cpy cl cl (k1 * 60 + i1) (o1 * 60 + j1) m))), (x29, .inl (cI, 4, .inl ln)), (x30, .inl (cI, 4, .inl sz0))]) (fun _ => rfl) (by decide) (c_carry l D cI H.size x27 x28 x29 x30 cl ln sz0 k1 i1 o1 j1 m hk1 ho1 hi1 hj1) (cwV 5 hts gX4_copy_X3_carry rfl rfl rfl hdX3_carry ⟨Nat.le_of_ble_eq_true rfl, Nat.le_of_ble_eq_true rfl⟩) rfl rfl rfl hl.1 rfl (Nat.le_of_ble_eq_true rfl) dX4_copy_127 ⟨Nat.le_of_ble_eq_true rfl, Nat.le_of_ble_eq_true rfl⟩ (fun _ H locs hw_16 hP hD hS => ?_)
                  refine lv_iload hx hb dX4_copy_130 (lv_at hl 5 rfl) ?_
                  have e_t : copyF cl ln sz0 k i o j n = (n, nI 0, va_cpy cl cl (k1 * 60 + i1) (o1 * 60 + j1) m) := by simp [copyF, c_1, g_k1, c_2, g_o1, c_3, c_6, c_7, c_8, (Int32.not_lt.mpr c_8), c_11, c_14, g_m, g_i, g_j]
                  exact zk_retI hx hb hr hS (()) (by rw [e_t]; exact e_m.symm) (by rw [e_t]; exact hP) (by rw [e_t]; exact hD) dX4_copy_132 hlocks
                · refine lv_aload_n hx hb dX4_copy_110 rfl (lv_at hl 0 rfl) ?_
                  refine lv_iconst (v := nI 3) hx hb dX4_copy_111 (by decide) ?_
                  refine zk_effVi (As := [.int (nI 3)]) (rest := []) (S := Unit) (fun r _ => r = (-10) - (nI 3)) (fun _ => wXo x0 x1 x8 x15 x23 x27 tr (nI 3)) ⟨hx, hb, hml, hown, hts⟩ hK hP hD hS hA [0] [1, 2, 3, 4] (wc := [(x0, .inr (4, [.ref x1, .ref x8, .ref x15, .ref x23, .ref x27, .int tr, .int (nI 0)]))]) (wr := [(x27, .inr (3, [.ref x28, .ref x29, .ref x30])), (x28, .inl (cI, 240, .inl cl)), (x29, .inl (cI, 4, .inl ln)), (x30, .inl (cI, 4, .inl sz0))]) rfl rfl (by decide) (by decide) (by decide) [4, 0, 1, 2, 3] (fun (_ : Unit) => [(x0, .inr (4, [.ref x1, .ref x8, .ref x15, .ref x23, .ref x27, .int tr, .int (nI 3)])), (x27, .inr (3, [.ref x28, .ref x29, .ref x30])), (x28, .inl (cI, 240, .inl cl)), (x29, .inl (cI, 4, .inl ln)), (x30, .inl (cI, 4, .inl sz0))]) (fun _ => rfl) (by decide) (c_fail l D cI H.size x0 x1 x2 x3 x4 x5 x6 x7 x8 x9 x10 x11 x12 x13 x14 x15 x16 x17 x18 x19 x20 x21 x22 x23 x24 x25 x26 x27 x28 x29 x30 tr (nI 0) (nI 3) ) (cwV 1 hts gX4_copy_X4_fail rfl rfl rfl hdX4_fail ⟨Nat.le_of_ble_eq_true rfl, Nat.le_of_ble_eq_true rfl⟩) rfl rfl rfl hl.1 rfl (Nat.le_of_ble_eq_true rfl) dX4_copy_112 ⟨Nat.le_of_ble_eq_true rfl, Nat.le_of_ble_eq_true rfl⟩ (fun r_17 _ H locs hw_18 hP hD hS => ?_)
                  have e_r_17 : r_17 = (-13) := hw_18.trans (by decide)
                  rw [e_r_17]
                  have e_t : copyF cl ln sz0 k i o j n = ((-13), (nI 3), cl) := by simp [copyF, c_1, g_k1, c_2, g_o1, c_3, c_6, c_7, c_8, (Int32.not_lt.mpr c_8), c_11, c_14]
                  exact zk_retI hx hb hr hS (()) (by rw [e_t]) (by rw [e_t]; exact hP) (by rw [e_t]; exact hD) dX4_copy_115 hlocks
          · refine lv_aload_n hx hb dX4_copy_70 rfl (lv_at hl 0 rfl) ?_
            refine lv_iconst (v := nI 2) hx hb dX4_copy_71 (by decide) ?_
            refine zk_effVi (As := [.int (nI 2)]) (rest := []) (S := Unit) (fun r _ => r = (-10) - (nI 2)) (fun _ => wXo x0 x1 x8 x15 x23 x27 tr (nI 2)) ⟨hx, hb, hml, hown, hts⟩ hK hP hD hS hA [0] [1, 2, 3, 4] (wc := [(x0, .inr (4, [.ref x1, .ref x8, .ref x15, .ref x23, .ref x27, .int tr, .int (nI 0)]))]) (wr := [(x27, .inr (3, [.ref x28, .ref x29, .ref x30])), (x28, .inl (cI, 240, .inl cl)), (x29, .inl (cI, 4, .inl ln)), (x30, .inl (cI, 4, .inl sz0))]) rfl rfl (by decide) (by decide) (by decide) [4, 0, 1, 2, 3] (fun (_ : Unit) => [(x0, .inr (4, [.ref x1, .ref x8, .ref x15, .ref x23, .ref x27, .int tr, .int (nI 2)])), (x27, .inr (3, [.ref x28, .ref x29, .ref x30])), (x28, .inl (cI, 240, .inl cl)), (x29, .inl (cI, 4, .inl ln)), (x30, .inl (cI, 4, .inl sz0))]) (fun _ => rfl) (by decide) (c_fail l D cI H.size x0 x1 x2 x3 x4 x5 x6 x7 x8 x9 x10 x11 x12 x13 x14 x15 x16 x17 x18 x19 x20 x21 x22 x23 x24 x25 x26 x27 x28 x29 x30 tr (nI 0) (nI 2) ) (cwV 1 hts gX4_copy_X4_fail rfl rfl rfl hdX4_fail ⟨Nat.le_of_ble_eq_true rfl, Nat.le_of_ble_eq_true rfl⟩) rfl rfl rfl hl.1 rfl (Nat.le_of_ble_eq_true rfl) dX4_copy_72 ⟨Nat.le_of_ble_eq_true rfl, Nat.le_of_ble_eq_true rfl⟩ (fun r_19 _ H locs hw_20 hP hD hS => ?_)
            have e_r_19 : r_19 = (-12) := hw_20.trans (by decide)
            rw [e_r_19]
            have e_t : copyF cl ln sz0 k i o j n = ((-12), (nI 2), cl) := by simp [copyF, c_1, g_k1, c_2, g_o1, c_3, c_6, c_7]
            exact zk_retI hx hb hr hS (()) (by rw [e_t]) (by rw [e_t]; exact hP) (by rw [e_t]; exact hD) dX4_copy_75 hlocks
        · refine lv_aload_n hx hb dX4_copy_43 rfl (lv_at hl 0 rfl) ?_
          refine lv_iconst (v := nI 1) hx hb dX4_copy_44 (by decide) ?_
          refine zk_effVi (As := [.int (nI 1)]) (rest := []) (S := Unit) (fun r _ => r = (-10) - (nI 1)) (fun _ => wXo x0 x1 x8 x15 x23 x27 tr (nI 1)) ⟨hx, hb, hml, hown, hts⟩ hK hP hD hS hA [0] [1, 2, 3, 4] (wc := [(x0, .inr (4, [.ref x1, .ref x8, .ref x15, .ref x23, .ref x27, .int tr, .int (nI 0)]))]) (wr := [(x27, .inr (3, [.ref x28, .ref x29, .ref x30])), (x28, .inl (cI, 240, .inl cl)), (x29, .inl (cI, 4, .inl ln)), (x30, .inl (cI, 4, .inl sz0))]) rfl rfl (by decide) (by decide) (by decide) [4, 0, 1, 2, 3] (fun (_ : Unit) => [(x0, .inr (4, [.ref x1, .ref x8, .ref x15, .ref x23, .ref x27, .int tr, .int (nI 1)])), (x27, .inr (3, [.ref x28, .ref x29, .ref x30])), (x28, .inl (cI, 240, .inl cl)), (x29, .inl (cI, 4, .inl ln)), (x30, .inl (cI, 4, .inl sz0))]) (fun _ => rfl) (by decide) (c_fail l D cI H.size x0 x1 x2 x3 x4 x5 x6 x7 x8 x9 x10 x11 x12 x13 x14 x15 x16 x17 x18 x19 x20 x21 x22 x23 x24 x25 x26 x27 x28 x29 x30 tr (nI 0) (nI 1) ) (cwV 1 hts gX4_copy_X4_fail rfl rfl rfl hdX4_fail ⟨Nat.le_of_ble_eq_true rfl, Nat.le_of_ble_eq_true rfl⟩) rfl rfl rfl hl.1 rfl (Nat.le_of_ble_eq_true rfl) dX4_copy_45 ⟨Nat.le_of_ble_eq_true rfl, Nat.le_of_ble_eq_true rfl⟩ (fun r_21 _ H locs hw_22 hP hD hS => ?_)
          have e_r_21 : r_21 = (-11) := hw_22.trans (by decide)
          rw [e_r_21]
          have e_t : copyF cl ln sz0 k i o j n = ((-11), (nI 1), cl) := by simp [copyF, c_1, g_k1, c_2, g_o1, c_3, c_6]
          exact zk_retI hx hb hr hS (()) (by rw [e_t]) (by rw [e_t]; exact hP) (by rw [e_t]; exact hD) dX4_copy_48 hlocks
    · refine lv_iconst (v := (-1)) hx hb dX4_copy_19 (by decide) ?_
      have e_t : copyF cl ln sz0 k i o j n = ((-1), nI 0, cl) := by simp [copyF, c_1, g_k1, c_2]
      exact zk_retI hx hb hr hS (()) (by rw [e_t]) (by rw [e_t]; exact hP) (by rw [e_t]; exact hD) dX4_copy_20 hlocks
