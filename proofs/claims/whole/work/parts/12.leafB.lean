abbrev wSh (cI : ClassId) (s0 s1 s2 s3 : Nat) (cl ln sz0 : Nat → Int32) : va_W := [(s0, .inr (3, [.ref s1, .ref s2, .ref s3])), (s1, .inl (cI, 240, .inl cl)), (s2, .inl (cI, 4, .inl ln)), (s3, .inl (cI, 4, .inl sz0))]
def pl1 (i z : Int32) : Bool := decide (0 ≤ i) && decide (i < z)
def plN (i n z : Int32) : Bool := decide (0 ≤ i) && (decide (i ≤ z) && decide (n ≤ z - i))
def hasR (ln : Nat → Int32) (k : Nat) : Bool := decide (¬ ln k = (-1))
def fRow (ln : Nat → Int32) (k : Nat) (lane : Int32) : Int32 := if hasR ln k then (if ln k = lane then nI 0 else nI 2) else nI 1
def fCel (ln sz0 : Nat → Int32) (k : Nat) (lane i n : Int32) : Int32 := if fRow ln k lane = 0 then (if 0 ≤ n then (if plN i n (sz0 k) then nI 0 else nI 3) else nI 4) else fRow ln k lane
def cutL (v lane : Int32) : Int32 := if lane = nI 0 then v.toInt8.toInt32 else if lane = nI 1 then v.toInt16.toInt32 else v
abbrev wRd (cI : ClassId) (r0 r1 r2 r3 ct : Nat) (wh wn : Nat → Nat) (hs : Nat → Int32) : va_W := [(r0, .inr (1, [.ref r1, .ref r2, .ref r3, .int (nI ct)])), (r1, .inl (cI, 8, .inl (fun q9 => nI (wh q9)))), (r2, .inl (cI, 8, .inl (fun q9 => nI (wn q9)))), (r3, .inl (cI, 8, .inl hs))]
def updN (f : Nat → Nat) (k v : Nat) : Nat → Nat := fun j => if j = k then v else f j
theorem updN_e (f : Nat → Nat) (k v : Nat) : upd (fun j => nI (f j)) k (nI v) = fun j => nI (updN f k v j) := by
  funext j
  unfold upd updN
  by_cases h : j = k <;> simp [h]
set_option maxHeartbeats 4000000 in
set_option maxRecDepth 100000 in
theorem c_hasRow (l : Launch) (D : va_G) (cI : ClassId) (s0 : Nat) (s1 : Nat) (s2 : Nat) (s3 : Nat) (cl : Nat → Int32) (ln : Nat → Int32) (sz0 : Nat → Int32) (k : Nat) (hk : k < 4) : Met l yX3_hasRow wsX3_hasRow ({ frames := 0, cells := 0, slots := 0, locals := 0 }) (PS D cI [.ref s0, .int (nI k)] (wSh cI s0 s1 s2 s3 cl ln sz0)) (vp_Si (fun r => r = bI (hasR ln k))) 0 0 (fun _ => False) := by
  refine zk_S (cc := cX3_hasRow) (maxL := 2) (ret := (some .boolean)) (by decide) rfl (Nat.le_of_ble_eq_true rfl) ?_
  intro pX eX sX mX bX tX cX hx hb hr hlocks hml hown hts hP hK ls hl
  have hl : lv_has ls 2 [(0, .ref s0), (1, .int (nI k))] := hl
  have hP : va_P D vwCl [(s0, .inr (3, [.ref s1, .ref s2, .ref s3])), (s1, .inl (cI, 240, .inl cl)), (s2, .inl (cI, 4, .inl ln)), (s3, .inl (cI, 4, .inl sz0))] sX.heap := hP
  have f_15 := hts (.fieldLink RX3 15 "DunceSee$Sheets" "laneOf" "[I") (by decide +kernel)
  have inX3 : ∀ w ∈ wsX30, w ∈ wsX3_hasRow := fun w h => List.mem_cons_of_mem _ (List.mem_append_right _ h)
  refine lv_aload_n hx hb dX3_hasRow_0 rfl (lv_at hl 0 rfl) ?_
  refine va_get (D := D) (ci := 3) (v := .ref s2) (C := RX3) (T := TX3) (N := 3) hx hb hts inX3 hown hK.1 hP 0 rfl rfl 1 (by decide) f_15 (fun _ h9 => h9) rfl dX3_hasRow_1 ?_
  refine lv_iload_n hx hb dX3_hasRow_4 rfl (lv_at hl 1 rfl) ?_
  refine zk_iald hx hb hK hP 2 rfl (by omega) (by decide) dX3_hasRow_5 ?_
  refine lv_iconst (v := (-1)) hx hb dX3_hasRow_6 (by decide) ?_
  refine lv_icmp_eq (tgt := 14) hx hb dX3_hasRow_7 (by decide) (fun c_1 => ?_) (fun c_1 => ?_)
  · refine lv_iconst (v := nI 0) hx hb dX3_hasRow_14 (by decide) ?_
    exact zk_retSB hx hb hr nI_nar0 (by rw [show hasR ln k = false from by simp [hasR, c_1]]; rfl) dX3_hasRow_15 hlocks
  · refine lv_iconst (v := nI 1) hx hb dX3_hasRow_10 (by decide) ?_
    refine lv_goto (tgt := 15) hx hb dX3_hasRow_11 (by decide) ?_
    exact zk_retSB hx hb hr nI_nar1 (by rw [show hasR ln k = true from by simp [hasR, c_1]]; rfl) dX3_hasRow_15 hlocks
set_option maxHeartbeats 4000000 in
set_option maxRecDepth 100000 in
theorem c_hasPlace (l : Launch) (D : va_G) (cI : ClassId) (s0 : Nat) (s1 : Nat) (s2 : Nat) (s3 : Nat) (cl : Nat → Int32) (ln : Nat → Int32) (sz0 : Nat → Int32) (k : Nat) (i : Int32) (hk : k < 4) : Met l yX3_hasPlace wsX3_hasPlace ({ frames := 0, cells := 0, slots := 0, locals := 0 }) (PS D cI [.ref s0, .int (nI k), .int i] (wSh cI s0 s1 s2 s3 cl ln sz0)) (vp_Si (fun r => r = bI (pl1 i (sz0 k)))) 0 0 (fun _ => False) := by
  refine zk_S (cc := cX3_hasPlace) (maxL := 3) (ret := (some .boolean)) (by decide) rfl (Nat.le_of_ble_eq_true rfl) ?_
  intro pX eX sX mX bX tX cX hx hb hr hlocks hml hown hts hP hK ls hl
  have hl : lv_has ls 3 [(0, .ref s0), (1, .int (nI k)), (2, .int i)] := hl
  have hP : va_P D vwCl [(s0, .inr (3, [.ref s1, .ref s2, .ref s3])), (s1, .inl (cI, 240, .inl cl)), (s2, .inl (cI, 4, .inl ln)), (s3, .inl (cI, 4, .inl sz0))] sX.heap := hP
  have f_18 := hts (.fieldLink RX3 18 "DunceSee$Sheets" "sizeOf" "[I") (by decide +kernel)
  have inX3 : ∀ w ∈ wsX30, w ∈ wsX3_hasPlace := fun w h => List.mem_cons_of_mem _ (List.mem_append_right _ h)
  refine lv_iload_n hx hb dX3_hasPlace_0 rfl (lv_at hl 2 rfl) ?_
  refine lv_if_lt (tgt := 18) hx hb dX3_hasPlace_1 (by decide) (fun c_1 => ?_) (fun c_1 => ?_)
  · refine lv_iconst (v := nI 0) hx hb dX3_hasPlace_18 (by decide) ?_
    exact zk_retSB hx hb hr nI_nar0 (by rw [show pl1 i (sz0 k) = false from by simp [pl1, c_1, (Int32.not_le.mpr c_1)]]; rfl) dX3_hasPlace_19 hlocks
  · have c_1 := Int32.not_lt.mp c_1
    refine lv_iload_n hx hb dX3_hasPlace_4 rfl (lv_at hl 2 rfl) ?_
    refine lv_aload_n hx hb dX3_hasPlace_5 rfl (lv_at hl 0 rfl) ?_
    refine va_get (D := D) (ci := 3) (v := .ref s3) (C := RX3) (T := TX3) (N := 3) hx hb hts inX3 hown hK.1 hP 0 rfl rfl 2 (by decide) f_18 (fun _ h9 => h9) rfl dX3_hasPlace_6 ?_
    refine lv_iload_n hx hb dX3_hasPlace_9 rfl (lv_at hl 1 rfl) ?_
    refine zk_iald hx hb hK hP 3 rfl (by omega) (by decide) dX3_hasPlace_10 ?_
    refine lv_icmp_ge (tgt := 18) hx hb dX3_hasPlace_11 (by decide) (fun c_2 => ?_) (fun c_2 => ?_)
    · refine lv_iconst (v := nI 0) hx hb dX3_hasPlace_18 (by decide) ?_
      exact zk_retSB hx hb hr nI_nar0 (by rw [show pl1 i (sz0 k) = false from by simp [pl1, c_1, (Int32.not_lt.mpr c_1), c_2, (Int32.not_lt.mpr c_2)]]; rfl) dX3_hasPlace_19 hlocks
    · have c_2 := Int32.not_le.mp c_2
      refine lv_iconst (v := nI 1) hx hb dX3_hasPlace_14 (by decide) ?_
      refine lv_goto (tgt := 19) hx hb dX3_hasPlace_15 (by decide) ?_
      exact zk_retSB hx hb hr nI_nar1 (by rw [show pl1 i (sz0 k) = true from by simp [pl1, c_1, (Int32.not_lt.mpr c_1), c_2, (Int32.not_le.mpr c_2)]]; rfl) dX3_hasPlace_19 hlocks
set_option maxHeartbeats 4000000 in
set_option maxRecDepth 100000 in
theorem c_hasPlaces (l : Launch) (D : va_G) (cI : ClassId) (s0 : Nat) (s1 : Nat) (s2 : Nat) (s3 : Nat) (cl : Nat → Int32) (ln : Nat → Int32) (sz0 : Nat → Int32) (k : Nat) (i : Int32) (n : Int32) (hk : k < 4) : Met l yX3_hasPlaces wsX3_hasPlaces ({ frames := 0, cells := 0, slots := 0, locals := 0 }) (PS D cI [.ref s0, .int (nI k), .int i, .int n] (wSh cI s0 s1 s2 s3 cl ln sz0)) (vp_Si (fun r => r = bI (plN i n (sz0 k)))) 0 0 (fun _ => False) := by
  refine zk_S (cc := cX3_hasPlaces) (maxL := 4) (ret := (some .boolean)) (by decide) rfl (Nat.le_of_ble_eq_true rfl) ?_
  intro pX eX sX mX bX tX cX hx hb hr hlocks hml hown hts hP hK ls hl
  have hl : lv_has ls 4 [(0, .ref s0), (1, .int (nI k)), (2, .int i), (3, .int n)] := hl
  have hP : va_P D vwCl [(s0, .inr (3, [.ref s1, .ref s2, .ref s3])), (s1, .inl (cI, 240, .inl cl)), (s2, .inl (cI, 4, .inl ln)), (s3, .inl (cI, 4, .inl sz0))] sX.heap := hP
  have f_18 := hts (.fieldLink RX3 18 "DunceSee$Sheets" "sizeOf" "[I") (by decide +kernel)
  have inX3 : ∀ w ∈ wsX30, w ∈ wsX3_hasPlaces := fun w h => List.mem_cons_of_mem _ (List.mem_append_right _ h)
  refine lv_iload_n hx hb dX3_hasPlaces_0 rfl (lv_at hl 2 rfl) ?_
  refine lv_if_lt (tgt := 30) hx hb dX3_hasPlaces_1 (by decide) (fun c_1 => ?_) (fun c_1 => ?_)
  · refine lv_iconst (v := nI 0) hx hb dX3_hasPlaces_30 (by decide) ?_
    exact zk_retSB hx hb hr nI_nar0 (by rw [show plN i n (sz0 k) = false from by simp [plN, c_1, (Int32.not_le.mpr c_1)]]; rfl) dX3_hasPlaces_31 hlocks
  · have c_1 := Int32.not_lt.mp c_1
    refine lv_iload_n hx hb dX3_hasPlaces_4 rfl (lv_at hl 2 rfl) ?_
    refine lv_aload_n hx hb dX3_hasPlaces_5 rfl (lv_at hl 0 rfl) ?_
    refine va_get (D := D) (ci := 3) (v := .ref s3) (C := RX3) (T := TX3) (N := 3) hx hb hts inX3 hown hK.1 hP 0 rfl rfl 2 (by decide) f_18 (fun _ h9 => h9) rfl dX3_hasPlaces_6 ?_
    refine lv_iload_n hx hb dX3_hasPlaces_9 rfl (lv_at hl 1 rfl) ?_
    refine zk_iald hx hb hK hP 3 rfl (by omega) (by decide) dX3_hasPlaces_10 ?_
    refine lv_icmp_gt (tgt := 30) hx hb dX3_hasPlaces_11 (by decide) (fun c_2 => ?_) (fun c_2 => ?_)
    · refine lv_iconst (v := nI 0) hx hb dX3_hasPlaces_30 (by decide) ?_
      exact zk_retSB hx hb hr nI_nar0 (by rw [show plN i n (sz0 k) = false from by simp [plN, c_1, (Int32.not_lt.mpr c_1), c_2, (Int32.not_le.mpr c_2)]]; rfl) dX3_hasPlaces_31 hlocks
    · have c_2 := Int32.not_lt.mp c_2
      refine lv_iload_n hx hb dX3_hasPlaces_14 rfl (lv_at hl 3 rfl) ?_
      refine lv_aload_n hx hb dX3_hasPlaces_15 rfl (lv_at hl 0 rfl) ?_
      refine va_get (D := D) (ci := 3) (v := .ref s3) (C := RX3) (T := TX3) (N := 3) hx hb hts inX3 hown hK.1 hP 0 rfl rfl 2 (by decide) f_18 (fun _ h9 => h9) rfl dX3_hasPlaces_16 ?_
      refine lv_iload_n hx hb dX3_hasPlaces_19 rfl (lv_at hl 1 rfl) ?_
      refine zk_iald hx hb hK hP 3 rfl (by omega) (by decide) dX3_hasPlaces_20 ?_
      refine lv_iload_n hx hb dX3_hasPlaces_21 rfl (lv_at hl 2 rfl) ?_
      refine lv_isub hx hb dX3_hasPlaces_22 ?_
      refine lv_icmp_gt (tgt := 30) hx hb dX3_hasPlaces_23 (by decide) (fun c_3 => ?_) (fun c_3 => ?_)
      · refine lv_iconst (v := nI 0) hx hb dX3_hasPlaces_30 (by decide) ?_
        exact zk_retSB hx hb hr nI_nar0 (by rw [show plN i n (sz0 k) = false from by simp [plN, c_1, (Int32.not_lt.mpr c_1), c_2, (Int32.not_lt.mpr c_2), c_3, (Int32.not_le.mpr c_3)]]; rfl) dX3_hasPlaces_31 hlocks
      · have c_3 := Int32.not_lt.mp c_3
        refine lv_iconst (v := nI 1) hx hb dX3_hasPlaces_26 (by decide) ?_
        refine lv_goto (tgt := 31) hx hb dX3_hasPlaces_27 (by decide) ?_
        exact zk_retSB hx hb hr nI_nar1 (by rw [show plN i n (sz0 k) = true from by simp [plN, c_1, (Int32.not_lt.mpr c_1), c_2, (Int32.not_lt.mpr c_2), c_3, (Int32.not_lt.mpr c_3)]]; rfl) dX3_hasPlaces_31 hlocks
set_option maxHeartbeats 4000000 in
set_option maxRecDepth 100000 in
theorem c_faultOfRow (l : Launch) (D : va_G) (cI : ClassId) (s0 : Nat) (s1 : Nat) (s2 : Nat) (s3 : Nat) (cl : Nat → Int32) (ln : Nat → Int32) (sz0 : Nat → Int32) (k : Nat) (lane : Int32) (hk : k < 4) : Met l yX3_faultOfRow wsX3_faultOfRow ({ frames := 1, cells := 0, slots := 0, locals := 21 }) (PS D cI [.ref s0, .int (nI k), .int lane] (wSh cI s0 s1 s2 s3 cl ln sz0)) (vp_Si (fun r => r = fRow ln k lane)) 0 0 (fun _ => False) := by
  refine zk_S (cc := cX3_faultOfRow) (maxL := 3) (ret := (some .int)) (by decide) rfl (Nat.le_of_ble_eq_true rfl) ?_
  intro pX eX sX mX bX tX cX hx hb hr hlocks hml hown hts hP hK ls hl
  have hl : lv_has ls 3 [(0, .ref s0), (1, .int (nI k)), (2, .int lane)] := hl
  have hP : va_P D vwCl [(s0, .inr (3, [.ref s1, .ref s2, .ref s3])), (s1, .inl (cI, 240, .inl cl)), (s2, .inl (cI, 4, .inl ln)), (s3, .inl (cI, 4, .inl sz0))] sX.heap := hP
  have f_15 := hts (.fieldLink RX3 15 "DunceSee$Sheets" "laneOf" "[I") (by decide +kernel)
  have inX3 : ∀ w ∈ wsX30, w ∈ wsX3_faultOfRow := fun w h => List.mem_cons_of_mem _ (List.mem_append_right _ h)
  refine lv_aload_n hx hb dX3_faultOfRow_0 rfl (lv_at hl 0 rfl) ?_
  refine lv_iload_n hx hb dX3_faultOfRow_1 rfl (lv_at hl 1 rfl) ?_
  refine zk_callVi (As := [.int (nI k)]) (rest := []) (bI (hasR ln k)) ⟨hx, hb, hml, hown, hts⟩ hK hP [0, 1, 2, 3] rfl (c_hasRow l D cI s0 s1 s2 s3 cl ln sz0 k hk) (cwV 1 hts gX3_faultOfRow_X3_hasRow rfl rfl rfl hdX3_hasRow ⟨Nat.le_of_ble_eq_true rfl, Nat.le_of_ble_eq_true rfl⟩) rfl rfl rfl hl.1 rfl (Nat.le_of_ble_eq_true rfl) dX3_faultOfRow_2 ⟨Nat.le_of_ble_eq_true rfl, Nat.le_of_ble_eq_true rfl⟩ ?_
  refine zk_ifneB (tgt := 10) hx hb dX3_faultOfRow_5 (by decide) (fun c_1 => ?_) (fun c_1 => ?_)
  · refine lv_aload_n hx hb dX3_faultOfRow_10 rfl (lv_at hl 0 rfl) ?_
    refine va_get (D := D) (ci := 3) (v := .ref s2) (C := RX3) (T := TX3) (N := 3) hx hb hts inX3 hown hK.1 hP 0 rfl rfl 1 (by decide) f_15 (fun _ h9 => h9) rfl dX3_faultOfRow_11 ?_
    refine lv_iload_n hx hb dX3_faultOfRow_14 rfl (lv_at hl 1 rfl) ?_
    refine zk_iald hx hb hK hP 2 rfl (by omega) (by decide) dX3_faultOfRow_15 ?_
    refine lv_iload_n hx hb dX3_faultOfRow_16 rfl (lv_at hl 2 rfl) ?_
    refine lv_icmp_ne (tgt := 24) hx hb dX3_faultOfRow_17 (by decide) (fun c_2 => ?_) (fun c_2 => ?_)
    · refine lv_iconst (v := nI 2) hx hb dX3_faultOfRow_24 (by decide) ?_
      exact zk_retS hx hb hr (by simp [fRow, c_1, c_2]) dX3_faultOfRow_25 hlocks
    · refine lv_iconst (v := nI 0) hx hb dX3_faultOfRow_20 (by decide) ?_
      refine lv_goto (tgt := 25) hx hb dX3_faultOfRow_21 (by decide) ?_
      exact zk_retS hx hb hr (by simp [fRow, c_1, c_2]) dX3_faultOfRow_25 hlocks
  · refine lv_iconst (v := nI 1) hx hb dX3_faultOfRow_8 (by decide) ?_
    exact zk_retS hx hb hr (by simp [fRow, c_1]) dX3_faultOfRow_9 hlocks
set_option maxHeartbeats 4000000 in
set_option maxRecDepth 100000 in
theorem c_faultOfCells (l : Launch) (D : va_G) (cI : ClassId) (s0 : Nat) (s1 : Nat) (s2 : Nat) (s3 : Nat) (cl : Nat → Int32) (ln : Nat → Int32) (sz0 : Nat → Int32) (k : Nat) (lane : Int32) (i : Int32) (n : Int32) (hk : k < 4) : Met l yX3_faultOfCells wsX3_faultOfCells ({ frames := 2, cells := 0, slots := 0, locals := 43 }) (PS D cI [.ref s0, .int (nI k), .int lane, .int i, .int n] (wSh cI s0 s1 s2 s3 cl ln sz0)) (vp_Si (fun r => r = fCel ln sz0 k lane i n)) 0 0 (fun _ => False) := by
  refine zk_S (cc := cX3_faultOfCells) (maxL := 6) (ret := (some .int)) (by decide) rfl (Nat.le_of_ble_eq_true rfl) ?_
  intro pX eX sX mX bX tX cX hx hb hr hlocks hml hown hts hP hK ls hl
  have hl : lv_has ls 6 [(0, .ref s0), (1, .int (nI k)), (2, .int lane), (3, .int i), (4, .int n)] := hl
  have hP : va_P D vwCl [(s0, .inr (3, [.ref s1, .ref s2, .ref s3])), (s1, .inl (cI, 240, .inl cl)), (s2, .inl (cI, 4, .inl ln)), (s3, .inl (cI, 4, .inl sz0))] sX.heap := hP
  have inX3 : ∀ w ∈ wsX30, w ∈ wsX3_faultOfCells := fun w h => List.mem_cons_of_mem _ (List.mem_append_right _ h)
  refine lv_aload_n hx hb dX3_faultOfCells_0 rfl (lv_at hl 0 rfl) ?_
  refine lv_iload_n hx hb dX3_faultOfCells_1 rfl (lv_at hl 1 rfl) ?_
  refine lv_iload_n hx hb dX3_faultOfCells_2 rfl (lv_at hl 2 rfl) ?_
  refine zk_callVi (As := [.int (nI k), .int lane]) (rest := []) (fRow ln k lane) ⟨hx, hb, hml, hown, hts⟩ hK hP [0, 1, 2, 3] rfl (c_faultOfRow l D cI s0 s1 s2 s3 cl ln sz0 k lane hk) (cwV 2 hts gX3_faultOfCells_X3_faultOfRow rfl rfl rfl hdX3_faultOfRow ⟨Nat.le_of_ble_eq_true rfl, Nat.le_of_ble_eq_true rfl⟩) rfl rfl rfl hl.1 rfl (Nat.le_of_ble_eq_true rfl) dX3_faultOfCells_3 ⟨Nat.le_of_ble_eq_true rfl, Nat.le_of_ble_eq_true rfl⟩ ?_
  refine lv_istore (lv' := [(5, .int (fRow ln k lane)), (0, .ref s0), (1, .int (nI k)), (2, .int lane), (3, .int i), (4, .int n)]) hx hb dX3_faultOfCells_6 hl (by decide) rfl (fun ls hl => ?_)
  refine lv_iload hx hb dX3_faultOfCells_8 (lv_at hl 0 rfl) ?_
  refine lv_if_eq (tgt := 16) hx hb dX3_faultOfCells_10 (by decide) (fun c_1 => ?_) (fun c_1 => ?_)
  · refine lv_iload hx hb dX3_faultOfCells_16 (lv_at hl 5 rfl) ?_
    refine lv_if_ge (tgt := 23) hx hb dX3_faultOfCells_18 (by decide) (fun c_2 => ?_) (fun c_2 => ?_)
    · refine lv_aload_n hx hb dX3_faultOfCells_23 rfl (lv_at hl 1 rfl) ?_
      refine lv_iload_n hx hb dX3_faultOfCells_24 rfl (lv_at hl 2 rfl) ?_
      refine lv_iload_n hx hb dX3_faultOfCells_25 rfl (lv_at hl 4 rfl) ?_
      refine lv_iload hx hb dX3_faultOfCells_26 (lv_at hl 5 rfl) ?_
      refine zk_callVi (As := [.int (nI k), .int i, .int n]) (rest := []) (bI (plN i n (sz0 k))) ⟨hx, hb, hml, hown, hts⟩ hK hP [0, 1, 2, 3] rfl (c_hasPlaces l D cI s0 s1 s2 s3 cl ln sz0 k i n hk) (cwV 3 hts gX3_faultOfCells_X3_hasPlaces rfl rfl rfl hdX3_hasPlaces ⟨Nat.le_of_ble_eq_true rfl, Nat.le_of_ble_eq_true rfl⟩) rfl rfl rfl hl.1 rfl (Nat.le_of_ble_eq_true rfl) dX3_faultOfCells_28 ⟨Nat.le_of_ble_eq_true rfl, Nat.le_of_ble_eq_true rfl⟩ ?_
      refine zk_ifeqB (tgt := 38) hx hb dX3_faultOfCells_31 (by decide) (fun c_3 => ?_) (fun c_3 => ?_)
      · refine lv_iconst (v := nI 3) hx hb dX3_faultOfCells_38 (by decide) ?_
        exact zk_retS hx hb hr (by simp [fCel, c_1, c_2, (Int32.not_lt.mpr c_2), c_3]) dX3_faultOfCells_39 hlocks
      · refine lv_iconst (v := nI 0) hx hb dX3_faultOfCells_34 (by decide) ?_
        refine lv_goto (tgt := 39) hx hb dX3_faultOfCells_35 (by decide) ?_
        exact zk_retS hx hb hr (by simp [fCel, c_1, c_2, (Int32.not_lt.mpr c_2), c_3]) dX3_faultOfCells_39 hlocks
    · have c_2 := Int32.not_le.mp c_2
      refine lv_iconst (v := nI 4) hx hb dX3_faultOfCells_21 (by decide) ?_
      exact zk_retS hx hb hr (by simp [fCel, c_1, c_2, (Int32.not_le.mpr c_2)]) dX3_faultOfCells_22 hlocks
  · refine lv_iload hx hb dX3_faultOfCells_13 (lv_at hl 0 rfl) ?_
    exact zk_retS hx hb hr (by simp [fCel, c_1]) dX3_faultOfCells_15 hlocks
set_option maxHeartbeats 4000000 in
set_option maxRecDepth 100000 in
theorem c_read (l : Launch) (D : va_G) (cI : ClassId) (s0 : Nat) (s1 : Nat) (s2 : Nat) (s3 : Nat) (cl : Nat → Int32) (ln : Nat → Int32) (sz0 : Nat → Int32) (k : Nat) (j : Nat) (hk : k < 4) (hj : j < 60) : Met l yX3_read wsX3_read ({ frames := 0, cells := 0, slots := 0, locals := 0 }) (PS D cI [.ref s0, .int (nI k), .int (nI j)] (wSh cI s0 s1 s2 s3 cl ln sz0)) (vp_Si (fun r => r = cl (k * 60 + j))) 0 0 (fun _ => False) := by
  refine zk_S (cc := cX3_read) (maxL := 3) (ret := (some .int)) (by decide) rfl (Nat.le_of_ble_eq_true rfl) ?_
  intro pX eX sX mX bX tX cX hx hb hr hlocks hml hown hts hP hK ls hl
  have hl : lv_has ls 3 [(0, .ref s0), (1, .int (nI k)), (2, .int (nI j))] := hl
  have hP : va_P D vwCl [(s0, .inr (3, [.ref s1, .ref s2, .ref s3])), (s1, .inl (cI, 240, .inl cl)), (s2, .inl (cI, 4, .inl ln)), (s3, .inl (cI, 4, .inl sz0))] sX.heap := hP
  have f_9 := hts (.fieldLink RX3 9 "DunceSee$Sheets" "cells" "[I") (by decide +kernel)
  have inX3 : ∀ w ∈ wsX30, w ∈ wsX3_read := fun w h => List.mem_cons_of_mem _ (List.mem_append_right _ h)
  refine lv_aload_n hx hb dX3_read_0 rfl (lv_at hl 0 rfl) ?_
  refine va_get (D := D) (ci := 3) (v := .ref s1) (C := RX3) (T := TX3) (N := 3) hx hb hts inX3 hown hK.1 hP 0 rfl rfl 0 (by decide) f_9 (fun _ h9 => h9) rfl dX3_read_1 ?_
  refine lv_iload_n hx hb dX3_read_4 rfl (lv_at hl 1 rfl) ?_
  refine lv_bipush (v := nI 60) hx hb dX3_read_5 (by decide) ?_
  refine zk_imulN hx hb dX3_read_7 ?_
  refine lv_iload_n hx hb dX3_read_8 rfl (lv_at hl 2 rfl) ?_
  refine zk_iaddN hx hb dX3_read_9 ?_
  refine zk_iald hx hb hK hP 1 rfl (by omega) (by decide) dX3_read_10 ?_
  exact zk_retS hx hb hr (rfl) dX3_read_11 hlocks
set_option maxHeartbeats 4000000 in
set_option maxRecDepth 100000 in
theorem c_cut (l : Launch) (D : va_G) (cI : ClassId) (v : Int32) (lane : Int32)  : Met l yX3_cut wsX3_cut ({ frames := 0, cells := 0, slots := 0, locals := 0 }) (PS D cI [.int v, .int lane] ([])) (vp_Si (fun r => r = cutL v lane)) 0 0 (fun _ => False) := by
  refine zk_S (cc := cX3_cut) (maxL := 2) (ret := (some .int)) (by decide) rfl (Nat.le_of_ble_eq_true rfl) ?_
  intro pX eX sX mX bX tX cX hx hb hr hlocks hml hown hts hP hK ls hl
  have hl : lv_has ls 2 [(0, .int v), (1, .int lane)] := hl
  have hP : va_P D vwCl [] sX.heap := hP
  skip
  refine lv_iload_n hx hb dX3_cut_0 rfl (lv_at hl 1 rfl) ?_
  by_cases c_1 : lane = nI 0
  · refine lv_lookup (tgt := 28) hx hb dX3_cut_1 rfl (by rw [c_1]; try rfl) (by decide) ?_
    refine lv_iload_n hx hb dX3_cut_28 rfl (lv_at hl 0 rfl) ?_
    refine lv_i2b (v := v.toInt8.toInt32) hx hb dX3_cut_29 rfl ?_
    exact zk_retS hx hb hr (by unfold cutL; rw [if_pos c_1]) dX3_cut_30 hlocks
  by_cases c_2 : lane = nI 1
  · refine lv_lookup (tgt := 31) hx hb dX3_cut_1 rfl (by rw [c_2]; try rfl) (by decide) ?_
    refine lv_iload_n hx hb dX3_cut_31 rfl (lv_at hl 0 rfl) ?_
    refine lv_i2s (v := v.toInt16.toInt32) hx hb dX3_cut_32 rfl ?_
    exact zk_retS hx hb hr (by unfold cutL; rw [if_neg c_1, if_pos c_2]) dX3_cut_33 hlocks
  refine lv_lookup (tgt := 34) (off := 33) hx hb dX3_cut_1 rfl (show Op.lookupswitch.offset [(0, 27), (1, 30)] 33 (lane).toInt = 33 from by rw [lv_osw c_1 (show (nI 0).toInt = 0 from by decide), lv_osw c_2 (show (nI 1).toInt = 1 from by decide)]; try rfl) (by decide) ?_
  refine lv_iload_n hx hb dX3_cut_34 rfl (lv_at hl 0 rfl) ?_
  exact zk_retS hx hb hr (by unfold cutL; rw [if_neg c_1, if_neg c_2]) dX3_cut_35 hlocks
set_option maxHeartbeats 4000000 in
set_option maxRecDepth 100000 in
theorem c_renew (l : Launch) (D : va_G) (cI : ClassId) (sz : Nat) (s0 : Nat) (s1 : Nat) (s2 : Nat) (s3 : Nat) (cl : Nat → Int32) (ln : Nat → Int32) (sz0 : Nat → Int32) (k : Nat) (lane : Int32) (n : Nat) (hk : k < 4) (hn : n ≤ 60) : Met l yX3_renew wsX3_renew ({ frames := 2, cells := 0, slots := 0, locals := 46 }) (PQ D cI [.ref s0, .int (nI k), .int lane, .int (nI n)] (wSh cI s0 s1 s2 s3 cl ln sz0) sz) (QV (S := Unit) D (fun _ => True) (fun _ => wSh cI s0 s1 s2 s3 (fillR cl (k * 60) (k * 60 + n) (nI 0)) (upd ln k lane) (upd sz0 k (nI n))) (va_A (wSh cI s0 s1 s2 s3 cl ln sz0) sz)) 0 0 (va_A (wSh cI s0 s1 s2 s3 cl ln sz0) sz) := by
  refine zk_Q (QV (S := Unit) D (fun _ => True) (fun _ => wSh cI s0 s1 s2 s3 (fillR cl (k * 60) (k * 60 + n) (nI 0)) (upd ln k lane) (upd sz0 k (nI n)))) (cc := cX3_renew) (maxL := 4) (ret := none) (by decide) rfl (Nat.le_of_ble_eq_true rfl) ?_
  intro pX eX sX mX bX tX cX hx hb hr hlocks hml hown hmn hts hP hK A hA hD hS ls hl
  have hl : lv_has ls 4 [(0, .ref s0), (1, .int (nI k)), (2, .int lane), (3, .int (nI n))] := hl
  have hP : va_P D vwCl [(s0, .inr (3, [.ref s1, .ref s2, .ref s3])), (s1, .inl (cI, 240, .inl cl)), (s2, .inl (cI, 4, .inl ln)), (s3, .inl (cI, 4, .inl sz0))] sX.heap := hP
  have hD : va_D A [(s0, .inr (3, [.ref s1, .ref s2, .ref s3])), (s1, .inl (cI, 240, .inl cl)), (s2, .inl (cI, 4, .inl ln)), (s3, .inl (cI, 4, .inl sz0))] := hD
  have f_15 := hts (.fieldLink RX3 15 "DunceSee$Sheets" "laneOf" "[I") (by decide +kernel)
  have f_18 := hts (.fieldLink RX3 18 "DunceSee$Sheets" "sizeOf" "[I") (by decide +kernel)
  have f_9 := hts (.fieldLink RX3 9 "DunceSee$Sheets" "cells" "[I") (by decide +kernel)
  have inX3 : ∀ w ∈ wsX30, w ∈ wsX3_renew := fun w h => List.mem_cons_of_mem _ (List.mem_append_right _ h)
  refine lv_aload_n hx hb dX3_renew_0 rfl (lv_at hl 0 rfl) ?_
  refine va_get (D := D) (ci := 3) (v := .ref s2) (C := RX3) (T := TX3) (N := 3) hx hb hts inX3 hown hK.1 hP 0 rfl rfl 1 (by decide) f_15 (fun _ h9 => h9) rfl dX3_renew_1 ?_
  refine lv_iload_n hx hb dX3_renew_4 rfl (lv_at hl 1 rfl) ?_
  refine lv_iload_n hx hb dX3_renew_5 rfl (lv_at hl 2 rfl) ?_
  refine zk_iast (x := lane) hx hb hK hP hD hS 2 rfl (by omega) (by decide) dX3_renew_6 (fun H locs hP hD hS => ?_)
  have hP : va_P D vwCl [(s0, .inr (3, [.ref s1, .ref s2, .ref s3])), (s1, .inl (cI, 240, .inl cl)), (s2, .inl (cI, 4, .inl (upd ln k lane))), (s3, .inl (cI, 4, .inl sz0))] H := hP
  have hD : va_D A [(s0, .inr (3, [.ref s1, .ref s2, .ref s3])), (s1, .inl (cI, 240, .inl cl)), (s2, .inl (cI, 4, .inl (upd ln k lane))), (s3, .inl (cI, 4, .inl sz0))] := hD
  refine lv_aload_n hx hb dX3_renew_7 rfl (lv_at hl 0 rfl) ?_
  refine va_get (D := D) (ci := 3) (v := .ref s3) (C := RX3) (T := TX3) (N := 3) hx hb hts inX3 hown hK.1 hP 0 rfl rfl 2 (by decide) f_18 (fun _ h9 => h9) rfl dX3_renew_8 ?_
  refine lv_iload_n hx hb dX3_renew_11 rfl (lv_at hl 1 rfl) ?_
  refine lv_iload_n hx hb dX3_renew_12 rfl (lv_at hl 3 rfl) ?_
  refine zk_iast (x := nI n) hx hb hK hP hD hS 3 rfl (by omega) (by decide) dX3_renew_13 (fun H locs hP hD hS => ?_)
  have hP : va_P D vwCl [(s0, .inr (3, [.ref s1, .ref s2, .ref s3])), (s1, .inl (cI, 240, .inl cl)), (s2, .inl (cI, 4, .inl (upd ln k lane))), (s3, .inl (cI, 4, .inl (upd sz0 k (nI n))))] H := hP
  have hD : va_D A [(s0, .inr (3, [.ref s1, .ref s2, .ref s3])), (s1, .inl (cI, 240, .inl cl)), (s2, .inl (cI, 4, .inl (upd ln k lane))), (s3, .inl (cI, 4, .inl (upd sz0 k (nI n))))] := hD
  refine lv_aload_n hx hb dX3_renew_14 rfl (lv_at hl 0 rfl) ?_
  refine va_get (D := D) (ci := 3) (v := .ref s1) (C := RX3) (T := TX3) (N := 3) hx hb hts inX3 hown hK.1 hP 0 rfl rfl 0 (by decide) f_9 (fun _ h9 => h9) rfl dX3_renew_15 ?_
  refine lv_iload_n hx hb dX3_renew_18 rfl (lv_at hl 1 rfl) ?_
  refine lv_bipush (v := nI 60) hx hb dX3_renew_19 (by decide) ?_
  refine zk_imulN hx hb dX3_renew_21 ?_
  refine lv_iload_n hx hb dX3_renew_22 rfl (lv_at hl 1 rfl) ?_
  refine lv_bipush (v := nI 60) hx hb dX3_renew_23 (by decide) ?_
  refine zk_imulN hx hb dX3_renew_25 ?_
  refine lv_iload_n hx hb dX3_renew_26 rfl (lv_at hl 3 rfl) ?_
  refine zk_iaddN hx hb dX3_renew_27 ?_
  refine lv_iconst (v := nI 0) hx hb dX3_renew_28 (by decide) ?_
  refine zk_effSv (As := [.ref s1, .int (nI (k * 60)), .int (nI (k * 60 + n)), .int (nI 0)]) (rest := []) (S := Unit) (fun _ => True) (fun _ => [(s1, .inl (cI, 240, .inl (fillR cl (k * 60) (k * 60 + n) (nI 0))))]) ⟨hx, hb, hml, hown, hts⟩ hK hP hD hS hA [1] [0, 2, 3] (wc := [(s1, .inl (cI, 240, .inl cl))]) (wr := [(s0, .inr (3, [.ref s1, .ref s2, .ref s3])), (s2, .inl (cI, 4, .inl (upd ln k lane))), (s3, .inl (cI, 4, .inl (upd sz0 k (nI n))))]) rfl rfl (by decide) (by decide) (by decide) [0, 3, 1, 2] (fun (_ : Unit) => [(s0, .inr (3, [.ref s1, .ref s2, .ref s3])), (s1, .inl (cI, 240, .inl (fillR cl (k * 60) (k * 60 + n) (nI 0)))), (s2, .inl (cI, 4, .inl (upd ln k lane))), (s3, .inl (cI, 4, .inl (upd sz0 k (nI n))))]) (fun _ => rfl) (by decide) (c_fillR l D cI H.size s1 240 cl (k * 60) (k * 60 + n) (nI 0) (by omega) (by omega) (by omega)) (va_cwS 4 hts gX3_renew_J7_fill_fda19 rfl rfl rfl hdJ7_fill_fda19 ⟨Nat.le_of_ble_eq_true rfl, Nat.le_of_ble_eq_true rfl⟩) rfl hl.1 rfl (Nat.le_of_ble_eq_true rfl) dX3_renew_29 ⟨Nat.le_of_ble_eq_true rfl, Nat.le_of_ble_eq_true rfl⟩ (fun _ H locs hw_2 hP hD hS => ?_)
  exact zk_retV hx hb hr hS (()) (trivial) hP hD dX3_renew_32 hlocks
set_option maxHeartbeats 4000000 in
set_option maxRecDepth 100000 in
theorem c_drop (l : Launch) (D : va_G) (cI : ClassId) (sz : Nat) (s0 : Nat) (s1 : Nat) (s2 : Nat) (s3 : Nat) (cl : Nat → Int32) (ln : Nat → Int32) (sz0 : Nat → Int32) (k : Nat) (hk : k < 4) : Met l yX3_drop wsX3_drop ({ frames := 1, cells := 0, slots := 0, locals := 21 }) (PQ D cI [.ref s0, .int (nI k)] (wSh cI s0 s1 s2 s3 cl ln sz0) sz) (QI (S := Unit) D (fun r _ => r = bI (hasR ln k)) (fun _ => wSh cI s0 s1 s2 s3 cl (upd ln k (-1)) (upd sz0 k (nI 0))) (va_A (wSh cI s0 s1 s2 s3 cl ln sz0) sz)) 0 0 (va_A (wSh cI s0 s1 s2 s3 cl ln sz0) sz) := by
  refine zk_Q (QI (S := Unit) D (fun r _ => r = bI (hasR ln k)) (fun _ => wSh cI s0 s1 s2 s3 cl (upd ln k (-1)) (upd sz0 k (nI 0)))) (cc := cX3_drop) (maxL := 3) (ret := (some .boolean)) (by decide) rfl (Nat.le_of_ble_eq_true rfl) ?_
  intro pX eX sX mX bX tX cX hx hb hr hlocks hml hown hmn hts hP hK A hA hD hS ls hl
  have hl : lv_has ls 3 [(0, .ref s0), (1, .int (nI k))] := hl
  have hP : va_P D vwCl [(s0, .inr (3, [.ref s1, .ref s2, .ref s3])), (s1, .inl (cI, 240, .inl cl)), (s2, .inl (cI, 4, .inl ln)), (s3, .inl (cI, 4, .inl sz0))] sX.heap := hP
  have hD : va_D A [(s0, .inr (3, [.ref s1, .ref s2, .ref s3])), (s1, .inl (cI, 240, .inl cl)), (s2, .inl (cI, 4, .inl ln)), (s3, .inl (cI, 4, .inl sz0))] := hD
  have f_15 := hts (.fieldLink RX3 15 "DunceSee$Sheets" "laneOf" "[I") (by decide +kernel)
  have f_18 := hts (.fieldLink RX3 18 "DunceSee$Sheets" "sizeOf" "[I") (by decide +kernel)
  have inX3 : ∀ w ∈ wsX30, w ∈ wsX3_drop := fun w h => List.mem_cons_of_mem _ (List.mem_append_right _ h)
  refine lv_aload_n hx hb dX3_drop_0 rfl (lv_at hl 0 rfl) ?_
  refine lv_iload_n hx hb dX3_drop_1 rfl (lv_at hl 1 rfl) ?_
  refine zk_callVi (As := [.int (nI k)]) (rest := []) (bI (hasR ln k)) ⟨hx, hb, hml, hown, hts⟩ hK hP [0, 1, 2, 3] rfl (c_hasRow l D cI s0 s1 s2 s3 cl ln sz0 k hk) (cwV 1 hts gX3_drop_X3_hasRow rfl rfl rfl hdX3_hasRow ⟨Nat.le_of_ble_eq_true rfl, Nat.le_of_ble_eq_true rfl⟩) rfl rfl rfl hl.1 rfl (Nat.le_of_ble_eq_true rfl) dX3_drop_2 ⟨Nat.le_of_ble_eq_true rfl, Nat.le_of_ble_eq_true rfl⟩ ?_
  refine lv_istore_n (lv' := [(2, .int (bI (hasR ln k))), (0, .ref s0), (1, .int (nI k))]) hx hb dX3_drop_5 rfl hl (by decide) rfl (fun ls hl => ?_)
  refine lv_aload_n hx hb dX3_drop_6 rfl (lv_at hl 1 rfl) ?_
  refine va_get (D := D) (ci := 3) (v := .ref s2) (C := RX3) (T := TX3) (N := 3) hx hb hts inX3 hown hK.1 hP 0 rfl rfl 1 (by decide) f_15 (fun _ h9 => h9) rfl dX3_drop_7 ?_
  refine lv_iload_n hx hb dX3_drop_10 rfl (lv_at hl 2 rfl) ?_
  refine lv_iconst (v := (-1)) hx hb dX3_drop_11 (by decide) ?_
  refine zk_iast (x := (-1)) hx hb hK hP hD hS 2 rfl (by omega) (by decide) dX3_drop_12 (fun H locs hP hD hS => ?_)
  have hP : va_P D vwCl [(s0, .inr (3, [.ref s1, .ref s2, .ref s3])), (s1, .inl (cI, 240, .inl cl)), (s2, .inl (cI, 4, .inl (upd ln k (-1)))), (s3, .inl (cI, 4, .inl sz0))] H := hP
  have hD : va_D A [(s0, .inr (3, [.ref s1, .ref s2, .ref s3])), (s1, .inl (cI, 240, .inl cl)), (s2, .inl (cI, 4, .inl (upd ln k (-1)))), (s3, .inl (cI, 4, .inl sz0))] := hD
  refine lv_aload_n hx hb dX3_drop_13 rfl (lv_at hl 1 rfl) ?_
  refine va_get (D := D) (ci := 3) (v := .ref s3) (C := RX3) (T := TX3) (N := 3) hx hb hts inX3 hown hK.1 hP 0 rfl rfl 2 (by decide) f_18 (fun _ h9 => h9) rfl dX3_drop_14 ?_
  refine lv_iload_n hx hb dX3_drop_17 rfl (lv_at hl 2 rfl) ?_
  refine lv_iconst (v := nI 0) hx hb dX3_drop_18 (by decide) ?_
  refine zk_iast (x := nI 0) hx hb hK hP hD hS 3 rfl (by omega) (by decide) dX3_drop_19 (fun H locs hP hD hS => ?_)
  have hP : va_P D vwCl [(s0, .inr (3, [.ref s1, .ref s2, .ref s3])), (s1, .inl (cI, 240, .inl cl)), (s2, .inl (cI, 4, .inl (upd ln k (-1)))), (s3, .inl (cI, 4, .inl (upd sz0 k (nI 0))))] H := hP
  have hD : va_D A [(s0, .inr (3, [.ref s1, .ref s2, .ref s3])), (s1, .inl (cI, 240, .inl cl)), (s2, .inl (cI, 4, .inl (upd ln k (-1)))), (s3, .inl (cI, 4, .inl (upd sz0 k (nI 0))))] := hD
  refine lv_iload_n hx hb dX3_drop_20 rfl (lv_at hl 0 rfl) ?_
  exact zk_retB hx hb hr (bI_nar _) hS (()) (rfl) hP hD dX3_drop_21 hlocks
set_option maxHeartbeats 4000000 in
set_option maxRecDepth 100000 in
theorem c_write (l : Launch) (D : va_G) (cI : ClassId) (sz : Nat) (s0 : Nat) (s1 : Nat) (s2 : Nat) (s3 : Nat) (cl : Nat → Int32) (ln : Nat → Int32) (sz0 : Nat → Int32) (k : Nat) (j : Nat) (v : Int32) (hk : k < 4) (hj : j < 60) : Met l yX3_write wsX3_write ({ frames := 1, cells := 0, slots := 0, locals := 21 }) (PQ D cI [.ref s0, .int (nI k), .int (nI j), .int v] (wSh cI s0 s1 s2 s3 cl ln sz0) sz) (QV (S := Unit) D (fun _ => True) (fun _ => wSh cI s0 s1 s2 s3 (upd cl (k * 60 + j) (cutL v (ln k))) ln sz0) (va_A (wSh cI s0 s1 s2 s3 cl ln sz0) sz)) 0 0 (va_A (wSh cI s0 s1 s2 s3 cl ln sz0) sz) := by
  refine zk_Q (QV (S := Unit) D (fun _ => True) (fun _ => wSh cI s0 s1 s2 s3 (upd cl (k * 60 + j) (cutL v (ln k))) ln sz0)) (cc := cX3_write) (maxL := 4) (ret := none) (by decide) rfl (Nat.le_of_ble_eq_true rfl) ?_
  intro pX eX sX mX bX tX cX hx hb hr hlocks hml hown hmn hts hP hK A hA hD hS ls hl
  have hl : lv_has ls 4 [(0, .ref s0), (1, .int (nI k)), (2, .int (nI j)), (3, .int v)] := hl
  have hP : va_P D vwCl [(s0, .inr (3, [.ref s1, .ref s2, .ref s3])), (s1, .inl (cI, 240, .inl cl)), (s2, .inl (cI, 4, .inl ln)), (s3, .inl (cI, 4, .inl sz0))] sX.heap := hP
  have hD : va_D A [(s0, .inr (3, [.ref s1, .ref s2, .ref s3])), (s1, .inl (cI, 240, .inl cl)), (s2, .inl (cI, 4, .inl ln)), (s3, .inl (cI, 4, .inl sz0))] := hD
  have f_9 := hts (.fieldLink RX3 9 "DunceSee$Sheets" "cells" "[I") (by decide +kernel)
  have f_15 := hts (.fieldLink RX3 15 "DunceSee$Sheets" "laneOf" "[I") (by decide +kernel)
  have inX3 : ∀ w ∈ wsX30, w ∈ wsX3_write := fun w h => List.mem_cons_of_mem _ (List.mem_append_right _ h)
  refine lv_aload_n hx hb dX3_write_0 rfl (lv_at hl 0 rfl) ?_
  refine va_get (D := D) (ci := 3) (v := .ref s1) (C := RX3) (T := TX3) (N := 3) hx hb hts inX3 hown hK.1 hP 0 rfl rfl 0 (by decide) f_9 (fun _ h9 => h9) rfl dX3_write_1 ?_
  refine lv_iload_n hx hb dX3_write_4 rfl (lv_at hl 1 rfl) ?_
  refine lv_bipush (v := nI 60) hx hb dX3_write_5 (by decide) ?_
  refine zk_imulN hx hb dX3_write_7 ?_
  refine lv_iload_n hx hb dX3_write_8 rfl (lv_at hl 2 rfl) ?_
  refine zk_iaddN hx hb dX3_write_9 ?_
  refine lv_iload_n hx hb dX3_write_10 rfl (lv_at hl 3 rfl) ?_
  refine lv_aload_n hx hb dX3_write_11 rfl (lv_at hl 0 rfl) ?_
  refine va_get (D := D) (ci := 3) (v := .ref s2) (C := RX3) (T := TX3) (N := 3) hx hb hts inX3 hown hK.1 hP 0 rfl rfl 1 (by decide) f_15 (fun _ h9 => h9) rfl dX3_write_12 ?_
  refine lv_iload_n hx hb dX3_write_15 rfl (lv_at hl 1 rfl) ?_
  refine zk_iald hx hb hK hP 2 rfl (by omega) (by decide) dX3_write_16 ?_
  refine zk_callSi (As := [.int v, .int (ln k)]) (rest := [.int (nI (k * 60 + j)), .ref s1]) (cutL v (ln k)) ⟨hx, hb, hml, hown, hts⟩ hK hP [] rfl (c_cut l D cI v (ln k) ) (va_cwS 2 hts gX3_write_X3_cut rfl rfl rfl hdX3_cut ⟨Nat.le_of_ble_eq_true rfl, Nat.le_of_ble_eq_true rfl⟩) rfl hl.1 rfl (Nat.le_of_ble_eq_true rfl) dX3_write_17 ⟨Nat.le_of_ble_eq_true rfl, Nat.le_of_ble_eq_true rfl⟩ ?_
  refine zk_iast (x := cutL v (ln k)) hx hb hK hP hD hS 1 rfl (by omega) (by decide) dX3_write_20 (fun H locs hP hD hS => ?_)
  have hP : va_P D vwCl [(s0, .inr (3, [.ref s1, .ref s2, .ref s3])), (s1, .inl (cI, 240, .inl (upd cl (k * 60 + j) (cutL v (ln k))))), (s2, .inl (cI, 4, .inl ln)), (s3, .inl (cI, 4, .inl sz0))] H := hP
  have hD : va_D A [(s0, .inr (3, [.ref s1, .ref s2, .ref s3])), (s1, .inl (cI, 240, .inl (upd cl (k * 60 + j) (cutL v (ln k))))), (s2, .inl (cI, 4, .inl ln)), (s3, .inl (cI, 4, .inl sz0))] := hD
  exact zk_retV hx hb hr hS (()) (trivial) hP hD dX3_write_21 hlocks
set_option maxHeartbeats 4000000 in
set_option maxRecDepth 100000 in
theorem c_carry (l : Launch) (D : va_G) (cI : ClassId) (sz : Nat) (s0 : Nat) (s1 : Nat) (s2 : Nat) (s3 : Nat) (cl : Nat → Int32) (ln : Nat → Int32) (sz0 : Nat → Int32) (k : Nat) (i : Nat) (o : Nat) (j : Nat) (n : Nat) (hk : k < 4) (ho : o < 4) (hi : i + n ≤ 60) (hj : j + n ≤ 60) : Met l yX3_carry wsX3_carry ({ frames := 1, cells := 0, slots := 0, locals := 60 }) (PQ D cI [.ref s0, .int (nI k), .int (nI i), .int (nI o), .int (nI j), .int (nI n)] (wSh cI s0 s1 s2 s3 cl ln sz0) sz) (QV (S := Unit) D (fun _ => True) (fun _ => wSh cI s0 s1 s2 s3 (va_cpy cl cl (k * 60 + i) (o * 60 + j) n) ln sz0) (va_A (wSh cI s0 s1 s2 s3 cl ln sz0) sz)) 0 0 (va_A (wSh cI s0 s1 s2 s3 cl ln sz0) sz) := by
  refine zk_Q (QV (S := Unit) D (fun _ => True) (fun _ => wSh cI s0 s1 s2 s3 (va_cpy cl cl (k * 60 + i) (o * 60 + j) n) ln sz0)) (cc := cX3_carry) (maxL := 6) (ret := none) (by decide) rfl (Nat.le_of_ble_eq_true rfl) ?_
  intro pX eX sX mX bX tX cX hx hb hr hlocks hml hown hmn hts hP hK A hA hD hS ls hl
  have hl : lv_has ls 6 [(0, .ref s0), (1, .int (nI k)), (2, .int (nI i)), (3, .int (nI o)), (4, .int (nI j)), (5, .int (nI n))] := hl
  have hP : va_P D vwCl [(s0, .inr (3, [.ref s1, .ref s2, .ref s3])), (s1, .inl (cI, 240, .inl cl)), (s2, .inl (cI, 4, .inl ln)), (s3, .inl (cI, 4, .inl sz0))] sX.heap := hP
  have hD : va_D A [(s0, .inr (3, [.ref s1, .ref s2, .ref s3])), (s1, .inl (cI, 240, .inl cl)), (s2, .inl (cI, 4, .inl ln)), (s3, .inl (cI, 4, .inl sz0))] := hD
  have f_9 := hts (.fieldLink RX3 9 "DunceSee$Sheets" "cells" "[I") (by decide +kernel)
  have ac_l45 := hts (.methodLink RX3 45 arraycopyName) (by decide +kernel)
  have ac_n := hts (.native arraycopyName) (by decide +kernel)
  have ac_s := hts (.static arraycopyName) (by decide +kernel)
  have ac_i := hts (.initialized "java/lang/System") (by decide +kernel)
  have inX3 : ∀ w ∈ wsX30, w ∈ wsX3_carry := fun w h => List.mem_cons_of_mem _ (List.mem_append_right _ h)
  refine lv_aload_n hx hb dX3_carry_0 rfl (lv_at hl 0 rfl) ?_
  refine va_get (D := D) (ci := 3) (v := .ref s1) (C := RX3) (T := TX3) (N := 3) hx hb hts inX3 hown hK.1 hP 0 rfl rfl 0 (by decide) f_9 (fun _ h9 => h9) rfl dX3_carry_1 ?_
  refine lv_iload_n hx hb dX3_carry_4 rfl (lv_at hl 1 rfl) ?_
  refine lv_bipush (v := nI 60) hx hb dX3_carry_5 (by decide) ?_
  refine zk_imulN hx hb dX3_carry_7 ?_
  refine lv_iload_n hx hb dX3_carry_8 rfl (lv_at hl 2 rfl) ?_
  refine zk_iaddN hx hb dX3_carry_9 ?_
  refine lv_aload_n hx hb dX3_carry_10 rfl (lv_at hl 0 rfl) ?_
  refine va_get (D := D) (ci := 3) (v := .ref s1) (C := RX3) (T := TX3) (N := 3) hx hb hts inX3 hown hK.1 hP 0 rfl rfl 0 (by decide) f_9 (fun _ h9 => h9) rfl dX3_carry_11 ?_
  refine lv_iload_n hx hb dX3_carry_14 rfl (lv_at hl 3 rfl) ?_
  refine lv_bipush (v := nI 60) hx hb dX3_carry_15 (by decide) ?_
  refine zk_imulN hx hb dX3_carry_17 ?_
  refine lv_iload hx hb dX3_carry_18 (lv_at hl 4 rfl) ?_
  refine zk_iaddN hx hb dX3_carry_20 ?_
  refine lv_iload hx hb dX3_carry_21 (lv_at hl 5 rfl) ?_
  refine va_copyi (ty := .int) (f := cl) (g := cl) hx hb (by rw [hml]; exact hl.1.symm) hown ac_l45 ac_n ac_s ac_i hK.1 hP hD hS 1 1 0 0 rfl rfl rfl rfl rfl (nI_pos (by omega)) (nI_pos (by omega)) (nI_pos (by omega)) (by rw [nI_clamp (by omega), nI_clamp (by omega)]; omega) (by rw [nI_clamp (by omega), nI_clamp (by omega)]; omega) (fun _ _ => rfl) (by decide) (by decide) dX3_carry_23 (fun H locs hP hD hS => ?_)
  have hP : va_P D vwCl [(s0, .inr (3, [.ref s1, .ref s2, .ref s3])), (s1, .inl (cI, 240, .inl (va_cpy cl cl (nI (k * 60 + i)).toNatClampNeg (nI (o * 60 + j)).toNatClampNeg (nI n).toNatClampNeg))), (s2, .inl (cI, 4, .inl ln)), (s3, .inl (cI, 4, .inl sz0))] H := hP
  have hD : va_D A [(s0, .inr (3, [.ref s1, .ref s2, .ref s3])), (s1, .inl (cI, 240, .inl (va_cpy cl cl (nI (k * 60 + i)).toNatClampNeg (nI (o * 60 + j)).toNatClampNeg (nI n).toNatClampNeg))), (s2, .inl (cI, 4, .inl ln)), (s3, .inl (cI, 4, .inl sz0))] := hD
  rw [nI_clamp (by omega), nI_clamp (by omega), nI_clamp (by omega)] at hP hD
  exact zk_retV hx hb hr hS (()) (trivial) hP hD dX3_carry_26 hlocks
set_option maxHeartbeats 4000000 in
set_option maxRecDepth 100000 in
theorem c_radd (l : Launch) (D : va_G) (cI : ClassId) (sz : Nat) (r0 : Nat) (r1 : Nat) (r2 : Nat) (r3 : Nat) (ct : Nat) (wh : Nat → Nat) (wn : Nat → Nat) (hs : Nat → Int32) (p : Nat) (t : Nat) (v : Int32) (hc : ct < 8) : Met l yX1_add wsX1_add ({ frames := 0, cells := 0, slots := 0, locals := 0 }) (PQ D cI [.ref r0, .int (nI p), .int (nI t), .int v] (wRd cI r0 r1 r2 r3 ct wh wn hs) sz) (QI (S := Unit) D (fun r _ => r = nI ct) (fun _ => wRd cI r0 r1 r2 r3 (ct + 1) (updN wh ct p) (updN wn ct t) (upd hs ct v)) (va_A (wRd cI r0 r1 r2 r3 ct wh wn hs) sz)) 0 0 (va_A (wRd cI r0 r1 r2 r3 ct wh wn hs) sz) := by
  refine zk_Q (QI (S := Unit) D (fun r _ => r = nI ct) (fun _ => wRd cI r0 r1 r2 r3 (ct + 1) (updN wh ct p) (updN wn ct t) (upd hs ct v))) (cc := cX1_add) (maxL := 5) (ret := (some .int)) (by decide) rfl (Nat.le_of_ble_eq_true rfl) ?_
  intro pX eX sX mX bX tX cX hx hb hr hlocks hml hown hmn hts hP hK A hA hD hS ls hl
  have hl : lv_has ls 5 [(0, .ref r0), (1, .int (nI p)), (2, .int (nI t)), (3, .int v)] := hl
  have hP : va_P D vwCl [(r0, .inr (1, [.ref r1, .ref r2, .ref r3, .int (nI ct)])), (r1, .inl (cI, 8, .inl (fun q9 => nI (wh q9)))), (r2, .inl (cI, 8, .inl (fun q9 => nI (wn q9)))), (r3, .inl (cI, 8, .inl hs))] sX.heap := hP
  have hD : va_D A [(r0, .inr (1, [.ref r1, .ref r2, .ref r3, .int (nI ct)])), (r1, .inl (cI, 8, .inl (fun q9 => nI (wh q9)))), (r2, .inl (cI, 8, .inl (fun q9 => nI (wn q9)))), (r3, .inl (cI, 8, .inl hs))] := hD
  have f_21 := hts (.fieldLink RX1 21 "DunceSee$Readings" "count" "I") (by decide +kernel)
  have f_9 := hts (.fieldLink RX1 9 "DunceSee$Readings" "pupilOf" "[I") (by decide +kernel)
  have f_15 := hts (.fieldLink RX1 15 "DunceSee$Readings" "daysOf" "[I") (by decide +kernel)
  have f_18 := hts (.fieldLink RX1 18 "DunceSee$Readings" "hoursOf" "[I") (by decide +kernel)
  have inX1 : ∀ w ∈ wsX10, w ∈ wsX1_add := fun w h => List.mem_cons_of_mem _ (List.mem_append_right _ h)
  refine lv_aload_n hx hb dX1_add_0 rfl (lv_at hl 0 rfl) ?_
  refine va_get (D := D) (ci := 1) (v := .int (nI ct)) (C := RX1) (T := TX1) (N := 4) hx hb hts inX1 hown hK.1 hP 0 rfl rfl 3 (by decide) f_21 (fun _ h9 => h9) rfl dX1_add_1 ?_
  refine lv_istore (lv' := [(4, .int (nI ct)), (0, .ref r0), (1, .int (nI p)), (2, .int (nI t)), (3, .int v)]) hx hb dX1_add_4 hl (by decide) rfl (fun ls hl => ?_)
  refine lv_aload_n hx hb dX1_add_6 rfl (lv_at hl 1 rfl) ?_
  refine va_get (D := D) (ci := 1) (v := .ref r1) (C := RX1) (T := TX1) (N := 4) hx hb hts inX1 hown hK.1 hP 0 rfl rfl 0 (by decide) f_9 (fun _ h9 => h9) rfl dX1_add_7 ?_
  refine lv_iload hx hb dX1_add_10 (lv_at hl 0 rfl) ?_
  refine lv_iload_n hx hb dX1_add_12 rfl (lv_at hl 2 rfl) ?_
  refine zk_iast (x := nI p) hx hb hK hP hD hS 1 rfl (by omega) (by decide) dX1_add_13 (fun H locs hP hD hS => ?_)
  have hP : va_P D vwCl [(r0, .inr (1, [.ref r1, .ref r2, .ref r3, .int (nI ct)])), (r1, .inl (cI, 8, .inl (upd (fun q9 => nI (wh q9)) ct (nI p)))), (r2, .inl (cI, 8, .inl (fun q9 => nI (wn q9)))), (r3, .inl (cI, 8, .inl hs))] H := hP
  have hD : va_D A [(r0, .inr (1, [.ref r1, .ref r2, .ref r3, .int (nI ct)])), (r1, .inl (cI, 8, .inl (upd (fun q9 => nI (wh q9)) ct (nI p)))), (r2, .inl (cI, 8, .inl (fun q9 => nI (wn q9)))), (r3, .inl (cI, 8, .inl hs))] := hD
  rw [updN_e] at hP hD
  refine lv_aload_n hx hb dX1_add_14 rfl (lv_at hl 1 rfl) ?_
  refine va_get (D := D) (ci := 1) (v := .ref r2) (C := RX1) (T := TX1) (N := 4) hx hb hts inX1 hown hK.1 hP 0 rfl rfl 1 (by decide) f_15 (fun _ h9 => h9) rfl dX1_add_15 ?_
  refine lv_iload hx hb dX1_add_18 (lv_at hl 0 rfl) ?_
  refine lv_iload_n hx hb dX1_add_20 rfl (lv_at hl 3 rfl) ?_
  refine zk_iast (x := nI t) hx hb hK hP hD hS 2 rfl (by omega) (by decide) dX1_add_21 (fun H locs hP hD hS => ?_)
  have hP : va_P D vwCl [(r0, .inr (1, [.ref r1, .ref r2, .ref r3, .int (nI ct)])), (r1, .inl (cI, 8, .inl (fun q9 => nI (updN wh ct p q9)))), (r2, .inl (cI, 8, .inl (upd (fun q9 => nI (wn q9)) ct (nI t)))), (r3, .inl (cI, 8, .inl hs))] H := hP
  have hD : va_D A [(r0, .inr (1, [.ref r1, .ref r2, .ref r3, .int (nI ct)])), (r1, .inl (cI, 8, .inl (fun q9 => nI (updN wh ct p q9)))), (r2, .inl (cI, 8, .inl (upd (fun q9 => nI (wn q9)) ct (nI t)))), (r3, .inl (cI, 8, .inl hs))] := hD
  rw [updN_e] at hP hD
  refine lv_aload_n hx hb dX1_add_22 rfl (lv_at hl 1 rfl) ?_
  refine va_get (D := D) (ci := 1) (v := .ref r3) (C := RX1) (T := TX1) (N := 4) hx hb hts inX1 hown hK.1 hP 0 rfl rfl 2 (by decide) f_18 (fun _ h9 => h9) rfl dX1_add_23 ?_
  refine lv_iload hx hb dX1_add_26 (lv_at hl 0 rfl) ?_
  refine lv_iload_n hx hb dX1_add_28 rfl (lv_at hl 4 rfl) ?_
  refine zk_iast (x := v) hx hb hK hP hD hS 3 rfl (by omega) (by decide) dX1_add_29 (fun H locs hP hD hS => ?_)
  have hP : va_P D vwCl [(r0, .inr (1, [.ref r1, .ref r2, .ref r3, .int (nI ct)])), (r1, .inl (cI, 8, .inl (fun q9 => nI (updN wh ct p q9)))), (r2, .inl (cI, 8, .inl (fun q9 => nI (updN wn ct t q9)))), (r3, .inl (cI, 8, .inl (upd hs ct v)))] H := hP
  have hD : va_D A [(r0, .inr (1, [.ref r1, .ref r2, .ref r3, .int (nI ct)])), (r1, .inl (cI, 8, .inl (fun q9 => nI (updN wh ct p q9)))), (r2, .inl (cI, 8, .inl (fun q9 => nI (updN wn ct t q9)))), (r3, .inl (cI, 8, .inl (upd hs ct v)))] := hD
  refine lv_aload_n hx hb dX1_add_30 rfl (lv_at hl 1 rfl) ?_
  refine lv_dup hx hb dX1_add_31 rfl ?_
  refine va_get (D := D) (ci := 1) (v := .int (nI ct)) (C := RX1) (T := TX1) (N := 4) hx hb hts inX1 hown hK.1 hP 0 rfl rfl 3 (by decide) f_21 (fun _ h9 => h9) rfl dX1_add_32 ?_
  refine lv_iconst (v := nI 1) hx hb dX1_add_35 (by decide) ?_
  refine zk_iaddN hx hb dX1_add_36 ?_
  refine va_put (D := D) (ci := 1) (v := .int (nI (ct + 1))) (ty := .int) (C := RX1) (T := TX1) (N := 4) hx hb hts inX1 tyX1 tyX1_ok nmX1 hown hK.1 hP hD hS 0 rfl rfl 3 (by decide) f_21 (fun _ h9 => h9) rfl (by decide +kernel) rfl rfl (Nat.le_of_ble_eq_true rfl) dX1_add_37 (fun H locs hP hD hS => ?_)
  have hP : va_P D vwCl [(r0, .inr (1, [.ref r1, .ref r2, .ref r3, .int (nI (ct + 1))])), (r1, .inl (cI, 8, .inl (fun q9 => nI (updN wh ct p q9)))), (r2, .inl (cI, 8, .inl (fun q9 => nI (updN wn ct t q9)))), (r3, .inl (cI, 8, .inl (upd hs ct v)))] H := hP
  have hD : va_D A [(r0, .inr (1, [.ref r1, .ref r2, .ref r3, .int (nI (ct + 1))])), (r1, .inl (cI, 8, .inl (fun q9 => nI (updN wh ct p q9)))), (r2, .inl (cI, 8, .inl (fun q9 => nI (updN wn ct t q9)))), (r3, .inl (cI, 8, .inl (upd hs ct v)))] := hD
  refine lv_iload hx hb dX1_add_40 (lv_at hl 0 rfl) ?_
  exact zk_retI hx hb hr hS (()) (rfl) hP hD dX1_add_42 hlocks
set_option maxHeartbeats 4000000 in
set_option maxRecDepth 100000 in
theorem c_rkeep (l : Launch) (D : va_G) (cI : ClassId) (sz : Nat) (r0 : Nat) (r1 : Nat) (r2 : Nat) (r3 : Nat) (ct : Nat) (wh : Nat → Nat) (wn : Nat → Nat) (hs : Nat → Int32) (n : Nat)  : Met l yX1_keep wsX1_keep ({ frames := 0, cells := 0, slots := 0, locals := 0 }) (PQ D cI [.ref r0, .int (nI n)] (wRd cI r0 r1 r2 r3 ct wh wn hs) sz) (QV (S := Unit) D (fun _ => True) (fun _ => wRd cI r0 r1 r2 r3 n wh wn hs) (va_A (wRd cI r0 r1 r2 r3 ct wh wn hs) sz)) 0 0 (va_A (wRd cI r0 r1 r2 r3 ct wh wn hs) sz) := by
  refine zk_Q (QV (S := Unit) D (fun _ => True) (fun _ => wRd cI r0 r1 r2 r3 n wh wn hs)) (cc := cX1_keep) (maxL := 2) (ret := none) (by decide) rfl (Nat.le_of_ble_eq_true rfl) ?_
  intro pX eX sX mX bX tX cX hx hb hr hlocks hml hown hmn hts hP hK A hA hD hS ls hl
  have hl : lv_has ls 2 [(0, .ref r0), (1, .int (nI n))] := hl
  have hP : va_P D vwCl [(r0, .inr (1, [.ref r1, .ref r2, .ref r3, .int (nI ct)])), (r1, .inl (cI, 8, .inl (fun q9 => nI (wh q9)))), (r2, .inl (cI, 8, .inl (fun q9 => nI (wn q9)))), (r3, .inl (cI, 8, .inl hs))] sX.heap := hP
  have hD : va_D A [(r0, .inr (1, [.ref r1, .ref r2, .ref r3, .int (nI ct)])), (r1, .inl (cI, 8, .inl (fun q9 => nI (wh q9)))), (r2, .inl (cI, 8, .inl (fun q9 => nI (wn q9)))), (r3, .inl (cI, 8, .inl hs))] := hD
  have f_21 := hts (.fieldLink RX1 21 "DunceSee$Readings" "count" "I") (by decide +kernel)
  have inX1 : ∀ w ∈ wsX10, w ∈ wsX1_keep := fun w h => List.mem_cons_of_mem _ (List.mem_append_right _ h)
  refine lv_aload_n hx hb dX1_keep_0 rfl (lv_at hl 0 rfl) ?_
  refine lv_iload_n hx hb dX1_keep_1 rfl (lv_at hl 1 rfl) ?_
  refine va_put (D := D) (ci := 1) (v := .int (nI n)) (ty := .int) (C := RX1) (T := TX1) (N := 4) hx hb hts inX1 tyX1 tyX1_ok nmX1 hown hK.1 hP hD hS 0 rfl rfl 3 (by decide) f_21 (fun _ h9 => h9) rfl (by decide +kernel) rfl rfl (Nat.le_of_ble_eq_true rfl) dX1_keep_2 (fun H locs hP hD hS => ?_)
  have hP : va_P D vwCl [(r0, .inr (1, [.ref r1, .ref r2, .ref r3, .int (nI n)])), (r1, .inl (cI, 8, .inl (fun q9 => nI (wh q9)))), (r2, .inl (cI, 8, .inl (fun q9 => nI (wn q9)))), (r3, .inl (cI, 8, .inl hs))] H := hP
  have hD : va_D A [(r0, .inr (1, [.ref r1, .ref r2, .ref r3, .int (nI n)])), (r1, .inl (cI, 8, .inl (fun q9 => nI (wh q9)))), (r2, .inl (cI, 8, .inl (fun q9 => nI (wn q9)))), (r3, .inl (cI, 8, .inl hs))] := hD
  exact zk_retV hx hb hr hS (()) (trivial) hP hD dX1_keep_5 hlocks
set_option maxHeartbeats 4000000 in
set_option maxRecDepth 100000 in
theorem c_areSoIn (l : Launch) (D : va_G) (cI : ClassId) (r0 : Nat) (r1 : Nat) (r2 : Nat) (r3 : Nat) (ct : Nat) (wh : Nat → Nat) (wn : Nat → Nat) (hs : Nat → Int32) (a0 : Nat) (a1 : Nat) (a2 : Nat) (a3 : Nat) (a4 : Nat) (a5 : Nat) (a6 : Nat) (Y : YS) (st : Nat → Int32) (hok : OkY Y) (hc : ct ≤ 8) (hw4 : ∀ r, r < ct → wh r < 4 ∧ wn r ≤ 5) : Met l yX1_areSoIn wsX1_areSoIn ({ frames := 3, cells := 0, slots := 0, locals := 76 }) (PS D cI [.ref r0, .ref a0] (wRd cI r0 r1 r2 r3 ct wh wn hs ++ wRoll cI a0 a1 a2 a3 a4 a5 a6 Y st)) (vp_Si (fun r => r = bI (allB ct (fun r => decide (hbS Y st (wh r) (wn r) = hs r))))) 0 0 (fun _ => False) := by
  refine zk_S (cc := cX1_areSoIn) (maxL := 3) (ret := (some .boolean)) (by decide) rfl (Nat.le_of_ble_eq_true rfl) ?_
  intro pX eX sX mX bX tX cX hx hb hr hlocks hml hown hts hP hK ls hl
  have hl : lv_has ls 3 [(0, .ref r0), (1, .ref a0)] := hl
  have hP : va_P D vwCl [(r0, .inr (1, [.ref r1, .ref r2, .ref r3, .int (nI ct)])), (r1, .inl (cI, 8, .inl (fun q9 => nI (wh q9)))), (r2, .inl (cI, 8, .inl (fun q9 => nI (wn q9)))), (r3, .inl (cI, 8, .inl hs)), (a0, .inr (2, [.int (nI Y.D), .int (nI Y.P), .int Y.db, .int Y.rm, .ref a1, .ref a2, .ref a3, .ref a4, .ref a5, .ref a6])), (a1, .inl (cI, 5, .inl Y.hard)), (a2, .inl (cI, 4, .inl Y.kind)), (a3, .inl (cI, 4, .inl Y.wit)), (a4, .inl (cI, 4, .inl Y.pat)), (a5, .inl (cI, 4, .inl Y.pret)), (a6, .inl (cI, 5, .inl st))] sX.heap := hP
  have f_21 := hts (.fieldLink RX1 21 "DunceSee$Readings" "count" "I") (by decide +kernel)
  have f_9 := hts (.fieldLink RX1 9 "DunceSee$Readings" "pupilOf" "[I") (by decide +kernel)
  have f_15 := hts (.fieldLink RX1 15 "DunceSee$Readings" "daysOf" "[I") (by decide +kernel)
  have f_18 := hts (.fieldLink RX1 18 "DunceSee$Readings" "hoursOf" "[I") (by decide +kernel)
  have inX1 : ∀ w ∈ wsX10, w ∈ wsX1_areSoIn := fun w h => List.mem_cons_of_mem _ (List.mem_append_left _ (List.mem_append_right _ h))
  have inX2 : ∀ w ∈ wsX20, w ∈ wsX1_areSoIn := fun w h => List.mem_cons_of_mem _ (List.mem_append_right _ h)
  have hD5 : Y.D ≤ 5 := hok.1
  have hP4 : Y.P ≤ 4 := hok.2
  refine lv_iconst (v := nI 0) hx hb dX1_areSoIn_0 (by decide) ?_
  refine lv_istore_n (lv' := [(2, .int (nI 0)), (0, .ref r0), (1, .ref a0)]) hx hb dX1_areSoIn_1 rfl hl (by decide) rfl (fun ls hl => ?_)
  have loop2 : ∀ (nL k : Nat), k ≤ ct → ct < k + nL → (∀ i, i < k → (fun r => decide (hbS Y st (wh r) (wn r) = hs r)) i = true) → ∀ ls : Array Slot, lv_has ls 3 [(0, .ref r0), (1, .ref a0), (2, .int (nI k))] → W pX l eX ({ frames := 3, cells := 0, slots := 0, locals := 76 }) sX mX ([.ref r0, .ref a0] : List Value).toArray bX tX cX sX.heap [] 0 0 (MQ bX (vp_Si (fun r => r = bI (allB ct (fun r => decide (hbS Y st (wh r) (wn r) = hs r))))) ([.ref r0, .ref a0] : List Value).toArray sX 0 0 (fun _ => False)) (F0 mX 2 ls []) := by
    intro nL
    induction nL with
    | zero => intro k  h1 h2; exact absurd h2 (by omega)
    | succ nL ih =>
      intro k  h_le h_n hall  ls hl
      refine lv_iload_n hx hb dX1_areSoIn_2 rfl (lv_at hl 2 rfl) ?_
      refine lv_aload_n hx hb dX1_areSoIn_3 rfl (lv_at hl 0 rfl) ?_
      refine va_get (D := D) (ci := 1) (v := .int (nI ct)) (C := RX1) (T := TX1) (N := 4) hx hb hts inX1 hown hK.1 hP 0 rfl rfl 3 (by decide) f_21 (fun _ h9 => h9) rfl dX1_areSoIn_4 ?_
      refine zk_icmp_ge (tgt := 43) hx hb dX1_areSoIn_7 (by decide) (by omega) (by omega) (fun c_1 => ?_) (fun c_1 => ?_)
      · refine lv_iconst (v := nI 1) hx hb dX1_areSoIn_43 (by decide) ?_
        exact zk_retSB hx hb hr nI_nar1 (by rw [allB_iff.mpr (fun i h => hall i (by omega))]; rfl) dX1_areSoIn_44 hlocks
      · refine lv_aload_n hx hb dX1_areSoIn_10 rfl (lv_at hl 1 rfl) ?_
        refine lv_aload_n hx hb dX1_areSoIn_11 rfl (lv_at hl 0 rfl) ?_
        refine va_get (D := D) (ci := 1) (v := .ref r1) (C := RX1) (T := TX1) (N := 4) hx hb hts inX1 hown hK.1 hP 0 rfl rfl 0 (by decide) f_9 (fun _ h9 => h9) rfl dX1_areSoIn_12 ?_
        refine lv_iload_n hx hb dX1_areSoIn_15 rfl (lv_at hl 2 rfl) ?_
        refine zk_iald hx hb hK hP 1 rfl (by omega) (by decide) dX1_areSoIn_16 ?_
        refine zk_top (y := nI (wh k)) rfl ?_
        refine lv_aload_n hx hb dX1_areSoIn_17 rfl (lv_at hl 0 rfl) ?_
        refine va_get (D := D) (ci := 1) (v := .ref r2) (C := RX1) (T := TX1) (N := 4) hx hb hts inX1 hown hK.1 hP 0 rfl rfl 1 (by decide) f_15 (fun _ h9 => h9) rfl dX1_areSoIn_18 ?_
        refine lv_iload_n hx hb dX1_areSoIn_21 rfl (lv_at hl 2 rfl) ?_
        refine zk_iald hx hb hK hP 2 rfl (by omega) (by decide) dX1_areSoIn_22 ?_
        refine zk_top (y := nI (wn k)) rfl ?_
        refine zk_callVi (As := [.int (nI (wh k)), .int (nI (wn k))]) (rest := []) (hbS Y st (wh k) (wn k)) ⟨hx, hb, hml, hown, hts⟩ hK hP [4, 5, 6, 7, 8, 9, 10] rfl (c_hoursBehind l D cI a0 a1 a2 a3 a4 a5 a6 Y st (wh k) (wn k) hok ((hw4 k (by omega)).1) ((hw4 k (by omega)).2)) (cwV 2 hts gX1_areSoIn_X2_hoursBehind rfl rfl rfl hdX2_hoursBehind ⟨Nat.le_of_ble_eq_true rfl, Nat.le_of_ble_eq_true rfl⟩) rfl rfl rfl hl.1 rfl (Nat.le_of_ble_eq_true rfl) dX1_areSoIn_23 ⟨Nat.le_of_ble_eq_true rfl, Nat.le_of_ble_eq_true rfl⟩ ?_
        refine lv_aload_n hx hb dX1_areSoIn_26 rfl (lv_at hl 0 rfl) ?_
        refine va_get (D := D) (ci := 1) (v := .ref r3) (C := RX1) (T := TX1) (N := 4) hx hb hts inX1 hown hK.1 hP 0 rfl rfl 2 (by decide) f_18 (fun _ h9 => h9) rfl dX1_areSoIn_27 ?_
        refine lv_iload_n hx hb dX1_areSoIn_30 rfl (lv_at hl 2 rfl) ?_
        refine zk_iald hx hb hK hP 3 rfl (by omega) (by decide) dX1_areSoIn_31 ?_
        refine lv_icmp_eq (tgt := 37) hx hb dX1_areSoIn_32 (by decide) (fun c_2 => ?_) (fun c_2 => ?_)
        · refine lv_iinc (v := nI (k + 1)) (lv' := [(2, .int (nI (k + 1))), (0, .ref r0), (1, .ref a0)]) hx hb dX1_areSoIn_37 hl (k := 2) rfl (by rw [show (Int32.ofInt 1) = nI 1 from by decide, nI_add]) (by decide) rfl (fun ls hl => ?_)
          refine lv_goto (tgt := 2) hx hb dX1_areSoIn_40 (by decide) ?_
          exact ih (k + 1)  (by omega) (by omega) (fun i h => by by_cases e : i = k; { subst e; simp [c_1, (Nat.not_le.mpr c_1), c_2] }; { exact hall i (by omega) })  ls (lv_sub hl [1, 2, 0] rfl)
        · refine lv_iconst (v := nI 0) hx hb dX1_areSoIn_35 (by decide) ?_
          exact zk_retSB hx hb hr nI_nar0 (by rw [allB_f (k := k) (by omega) (by simp [c_1, (Nat.not_le.mpr c_1), c_2])]; rfl) dX1_areSoIn_36 hlocks
  exact loop2 (ct + 1) 0  (by omega) (by omega) (fun i h => by omega)  ls (lv_sub hl [1, 2, 0] rfl)
