abbrev wXo (x0 x1 x8 x15 x23 x27 : Nat) (tr fl : Int32) : va_W := [(x0, .inr (4, [.ref x1, .ref x8, .ref x15, .ref x23, .ref x27, .int tr, .int fl]))]
def isP (n : Nat) (p : Int32) : Bool := decide (0 ≤ p) && decide (p < nI n)
theorem isP_of {n : Nat} {p : Int32} (hn : n < 1000) (h : isP n p = true) : ∃ j : Nat, j < n ∧ p = nI j ∧ p.toNatClampNeg = j := by
  unfold isP at h
  rw [Bool.and_eq_true, decide_eq_true_eq, decide_eq_true_eq] at h
  obtain ⟨j, hj, e⟩ := nI_of (x := p) (Int32.not_lt.mpr h.1)
  subst e
  have h2 := (nI_ltI hj (by omega)).mp h.2
  exact ⟨j, h2, rfl, nI_clamp hj⟩
theorem isP_in {n j : Nat} (hn : n < 1000) (h : j < n) : isP n (nI j) = true := by
  unfold isP
  rw [decide_eq_true (nI_pos' (by omega)), decide_eq_true (nI_lt h (by omega))]; rfl
theorem gt0N {n : Nat} (hn : n < 1000) (h : 0 < nI n) : 0 < n := by
  rw [← nI_0] at h
  exact (nI_ltI (by omega) (by omega)).mp h
theorem le0N {n : Nat} (hn : n < 1000) (h : nI n ≤ 0) : ¬ 0 < n := by
  rw [← nI_0] at h
  have := (nI_leI (by omega) (by omega)).mp h
  omega
def isPl (w : Int32) : Bool := (decide (0 ≤ w) && decide (w ≤ nI 3)) || ((decide (nI 10 ≤ w) && decide (w < nI 14)) || (decide (nI 20 ≤ w) && decide (w < nI 25)))
/-- hours behind t days -/
def hrB (Y : YS) (p t : Nat) : Int32 := nI (cnt t (fun d => std Y d p)) * hrs Y p
def bish (Y : YS) : Int32 := (bstF (fun p => hrB Y p Y.D) Y.P).1
def stn (Y : YS) (st : Nat → Int32) : Nat → Int32 := tab Y.D (fun d => nI (msk Y.P (std Y d))) st
theorem hbS_set {Y : YS} (hok : OkY Y) (st : Nat → Int32) {p t : Nat} (hp : p < Y.P) (ht : t ≤ Y.D) : hbS Y (stn Y st) p t = hrB Y p t := by
  unfold hbS hrB
  rw [cnt_congr (c := fun d => std Y d p) (fun d hd => ?_)]
  unfold stn
  rw [tab_lt (by omega)]
  exact hbit_mskI (by have := hok.2; omega) hp _
theorem bish_set {Y : YS} (hok : OkY Y) (st : Nat → Int32) : (bstF (fun p => hbS Y (stn Y st) p Y.D) Y.P).1 = bish Y := by
  unfold bish
  rw [bstF_congr (fun p hp => hbS_set hok st hp (Nat.le_refl _))]
/-- all readings are so -/
def soY (Y : YS) (ct : Nat) (wh wn : Nat → Nat) (hs : Nat → Int32) : Bool := allB ct (fun r => decide (hrB Y (wh r) (wn r) = hs r))
theorem so_set {Y : YS} (hok : OkY Y) (st : Nat → Int32) {ct : Nat} {wh wn : Nat → Nat} {hs : Nat → Int32} (h : ∀ r, r < ct → wh r < Y.P ∧ wn r ≤ Y.D) : allB ct (fun r => decide (hbS Y (stn Y st) (wh r) (wn r) = hs r)) = soY Y ct wh wn hs := by
  unfold soY
  exact allB_congr (fun r hr => by rw [hbS_set hok st (h r hr).1 (h r hr).2])
abbrev YS.np (T : YS) : YS := T.sPret (fun _ => nI 0)
def ofPupilF (T : YS) (p w : Int32) : Int32 := if isP T.P p then (if w = nI 0 then T.kind p.toNatClampNeg else if w = nI 1 then T.wit p.toNatClampNeg else if w = nI 2 then T.pat p.toNatClampNeg else if w = nI 3 then hrs T p.toNatClampNeg else (-2)) else (-1)
def hardF (T : YS) (d : Int32) : Int32 := if isP T.D d then T.hard d.toNatClampNeg else (-1)
def askF (T : YS) (d v : Int32) : Int32 × YS := if isP T.D d then (if isP 10 v then (T.hard d.toNatClampNeg, T.sHard (upd T.hard d.toNatClampNeg v)) else ((-2), T)) else ((-1), T)
def teachF (T : YS) (p v : Int32) : Int32 × YS := if isP T.P p then (if isP 10 v then (T.wit p.toNatClampNeg, T.sWit (upd T.wit p.toNatClampNeg v)) else ((-2), T)) else ((-1), T)
def doubtF (T : YS) (v : Int32) : Int32 × YS := if isP 10 v then (if 0 < T.P then (T.db, T.sDb v) else ((-3), T)) else ((-2), T)
def buildF (T : YS) (v : Int32) : Int32 × YS := if decide (nI 1 ≤ v) && decide (v ≤ nI 4) then (if 0 < T.P then (T.rm, T.sRm v) else ((-3), T)) else ((-2), T)
def wouldF (T : YS) (p d : Int32) (b : Bool) : Int32 := if isP T.P p && isP T.D d then bI (wdB (T.wit p.toNatClampNeg) (T.hard d.toNatClampNeg) T.db b) else (-1)
def standF (T : YS) (d : Int32) : Int32 := if isP T.D d then nI (msk T.P (std T d.toNatClampNeg)) else (-1)
def bishopF (T : YS) : Int32 := if 0 < T.P then bish T else (-3)
def manyF (T : YS) (ct : Nat) (w : Int32) : Int32 := if w = nI 0 then nI T.P else if w = nI 1 then nI T.D else if w = nI 2 then T.db else if w = nI 3 then T.rm else if w = nI 4 then nI ct else (-2)
def tellF (T : YS) (tr p : Int32) : Int32 × Int32 := if isP T.P p then (if T.kind p.toNatClampNeg = nI 1 then (T.pat p.toNatClampNeg + nI 100, nI 31 * (nI 31 * tr + nI 2) + nI 1) else if T.kind p.toNatClampNeg = nI 2 then (T.pat p.toNatClampNeg + nI 100 + T.pat p.toNatClampNeg, nI 31 * (nI 31 * (nI 31 * (nI 31 * tr + nI 3) + nI 2) + nI 1) + nI 1) else (T.pat p.toNatClampNeg, nI 31 * tr + nI 1)) else ((-1), tr)
def capF (T : YS) (tr p : Int32) : Int32 × Int32 := if isP T.P p then (if T.kind p.toNatClampNeg = nI 2 then (nI 70, nI 31 * tr + nI 5) else (p, nI 31 * tr + nI 4)) else ((-1), tr)
def asF (T : YS) (p k : Int32) : Int32 × Int32 := if isP T.P p then (if decide (0 ≤ k) && decide (k < nI 3) then (if T.kind p.toNatClampNeg < k then ((-12), nI 2) else (nI 1, nI 0)) else ((-2), nI 0)) else ((-1), nI 0)
theorem hdX4_isPupil : yX4_isPupil.cls = RX4 ∧ yX4_isPupil.cls ≠ "java/lang/invoke/MethodHandle" ∧ yX4_isPupil.cls ≠ "java/lang/invoke/VarHandle" ∧ (parseMethodDescriptor yX4_isPupil.desc).map (fun d => d.parameters.length) = some 1 := by decide +kernel
theorem hdX4_isDay : yX4_isDay.cls = RX4 ∧ yX4_isDay.cls ≠ "java/lang/invoke/MethodHandle" ∧ yX4_isDay.cls ≠ "java/lang/invoke/VarHandle" ∧ (parseMethodDescriptor yX4_isDay.desc).map (fun d => d.parameters.length) = some 1 := by decide +kernel
theorem hdX4_isLevel : yX4_isLevel.cls ≠ "java/lang/invoke/MethodHandle" ∧ yX4_isLevel.cls ≠ "java/lang/invoke/VarHandle" ∧ (parseMethodDescriptor yX4_isLevel.desc).map (fun d => d.parameters.length) = some 1 := by decide +kernel
theorem hdX4_hasSee : yX4_hasSee.cls = RX4 ∧ yX4_hasSee.cls ≠ "java/lang/invoke/MethodHandle" ∧ yX4_hasSee.cls ≠ "java/lang/invoke/VarHandle" ∧ (parseMethodDescriptor yX4_hasSee.desc).map (fun d => d.parameters.length) = some 0 := by decide +kernel
theorem hdX2_settle : yX2_settle.cls = RX2 ∧ yX2_settle.cls ≠ "java/lang/invoke/MethodHandle" ∧ yX2_settle.cls ≠ "java/lang/invoke/VarHandle" ∧ (parseMethodDescriptor yX2_settle.desc).map (fun d => d.parameters.length) = some 0 := by decide +kernel
theorem hdX2_longestStander : yX2_longestStander.cls = RX2 ∧ yX2_longestStander.cls ≠ "java/lang/invoke/MethodHandle" ∧ yX2_longestStander.cls ≠ "java/lang/invoke/VarHandle" ∧ (parseMethodDescriptor yX2_longestStander.desc).map (fun d => d.parameters.length) = some 0 := by decide +kernel
theorem hdX4_leaveTrace : yX4_leaveTrace.cls = RX4 ∧ yX4_leaveTrace.cls ≠ "java/lang/invoke/MethodHandle" ∧ yX4_leaveTrace.cls ≠ "java/lang/invoke/VarHandle" ∧ (parseMethodDescriptor yX4_leaveTrace.desc).map (fun d => d.parameters.length) = some 1 := by decide +kernel
theorem hdX4_tellAsPupil : yX4_tellAsPupil.cls = RX4 ∧ yX4_tellAsPupil.cls ≠ "java/lang/invoke/MethodHandle" ∧ yX4_tellAsPupil.cls ≠ "java/lang/invoke/VarHandle" ∧ (parseMethodDescriptor yX4_tellAsPupil.desc).map (fun d => d.parameters.length) = some 1 := by decide +kernel
theorem hdX4_tellAsDeacon : yX4_tellAsDeacon.cls = RX4 ∧ yX4_tellAsDeacon.cls ≠ "java/lang/invoke/MethodHandle" ∧ yX4_tellAsDeacon.cls ≠ "java/lang/invoke/VarHandle" ∧ (parseMethodDescriptor yX4_tellAsDeacon.desc).map (fun d => d.parameters.length) = some 1 := by decide +kernel
theorem hdX4_tellAsCurate : yX4_tellAsCurate.cls = RX4 ∧ yX4_tellAsCurate.cls ≠ "java/lang/invoke/MethodHandle" ∧ yX4_tellAsCurate.cls ≠ "java/lang/invoke/VarHandle" ∧ (parseMethodDescriptor yX4_tellAsCurate.desc).map (fun d => d.parameters.length) = some 1 := by decide +kernel
theorem hdX4_fail : yX4_fail.cls = RX4 ∧ yX4_fail.cls ≠ "java/lang/invoke/MethodHandle" ∧ yX4_fail.cls ≠ "java/lang/invoke/VarHandle" ∧ (parseMethodDescriptor yX4_fail.desc).map (fun d => d.parameters.length) = some 1 := by decide +kernel
set_option maxHeartbeats 4000000 in
set_option maxRecDepth 100000 in
theorem c_isLevel (l : Launch) (D : va_G) (cI : ClassId) (v : Int32)  : Met l yX4_isLevel wsX4_isLevel ({ frames := 0, cells := 0, slots := 0, locals := 0 }) (PS D cI [.int v] ([])) (vp_Si (fun r => r = bI (isP 10 v))) 0 0 (fun _ => False) := by
  refine zk_S (cc := cX4_isLevel) (maxL := 1) (ret := (some .boolean)) (by decide) rfl (Nat.le_of_ble_eq_true rfl) ?_
  intro pX eX sX mX bX tX cX hx hb hr hlocks hml hown hts hP hK ls hl
  have hl : lv_has ls 1 [(0, .int v)] := hl
  have hP : va_P D vwCl [] sX.heap := hP
  skip
  refine lv_iload_n hx hb dX4_isLevel_0 rfl (lv_at hl 0 rfl) ?_
  refine lv_if_lt (tgt := 14) hx hb dX4_isLevel_1 (by decide) (fun c_1 => ?_) (fun c_1 => ?_)
  · refine lv_iconst (v := nI 0) hx hb dX4_isLevel_14 (by decide) ?_
    exact zk_retSB hx hb hr nI_nar0 (by rw [show isP 10 v = false from by simp [isP, c_1, (Int32.not_le.mpr c_1)]]; rfl) dX4_isLevel_15 hlocks
  · have c_1 := Int32.not_lt.mp c_1
    refine lv_iload_n hx hb dX4_isLevel_4 rfl (lv_at hl 0 rfl) ?_
    refine lv_bipush (v := nI 10) hx hb dX4_isLevel_5 (by decide) ?_
    refine lv_icmp_ge (tgt := 14) hx hb dX4_isLevel_7 (by decide) (fun c_2 => ?_) (fun c_2 => ?_)
    · refine lv_iconst (v := nI 0) hx hb dX4_isLevel_14 (by decide) ?_
      exact zk_retSB hx hb hr nI_nar0 (by rw [show isP 10 v = false from by simp [isP, c_1, (Int32.not_lt.mpr c_1), c_2, (Int32.not_lt.mpr c_2)]]; rfl) dX4_isLevel_15 hlocks
    · have c_2 := Int32.not_le.mp c_2
      refine lv_iconst (v := nI 1) hx hb dX4_isLevel_10 (by decide) ?_
      refine lv_goto (tgt := 15) hx hb dX4_isLevel_11 (by decide) ?_
      exact zk_retSB hx hb hr nI_nar1 (by rw [show isP 10 v = true from by simp [isP, c_1, (Int32.not_lt.mpr c_1), c_2, (Int32.not_le.mpr c_2)]]; rfl) dX4_isLevel_15 hlocks
set_option maxHeartbeats 4000000 in
set_option maxRecDepth 100000 in
theorem c_isSheet (l : Launch) (D : va_G) (cI : ClassId) (v : Int32)  : Met l yX4_isSheet wsX4_isSheet ({ frames := 0, cells := 0, slots := 0, locals := 0 }) (PS D cI [.int v] ([])) (vp_Si (fun r => r = bI (isP 4 v))) 0 0 (fun _ => False) := by
  refine zk_S (cc := cX4_isSheet) (maxL := 1) (ret := (some .boolean)) (by decide) rfl (Nat.le_of_ble_eq_true rfl) ?_
  intro pX eX sX mX bX tX cX hx hb hr hlocks hml hown hts hP hK ls hl
  have hl : lv_has ls 1 [(0, .int v)] := hl
  have hP : va_P D vwCl [] sX.heap := hP
  skip
  refine lv_iload_n hx hb dX4_isSheet_0 rfl (lv_at hl 0 rfl) ?_
  refine lv_if_lt (tgt := 13) hx hb dX4_isSheet_1 (by decide) (fun c_1 => ?_) (fun c_1 => ?_)
  · refine lv_iconst (v := nI 0) hx hb dX4_isSheet_13 (by decide) ?_
    exact zk_retSB hx hb hr nI_nar0 (by rw [show isP 4 v = false from by simp [isP, c_1, (Int32.not_le.mpr c_1)]]; rfl) dX4_isSheet_14 hlocks
  · have c_1 := Int32.not_lt.mp c_1
    refine lv_iload_n hx hb dX4_isSheet_4 rfl (lv_at hl 0 rfl) ?_
    refine lv_iconst (v := nI 4) hx hb dX4_isSheet_5 (by decide) ?_
    refine lv_icmp_ge (tgt := 13) hx hb dX4_isSheet_6 (by decide) (fun c_2 => ?_) (fun c_2 => ?_)
    · refine lv_iconst (v := nI 0) hx hb dX4_isSheet_13 (by decide) ?_
      exact zk_retSB hx hb hr nI_nar0 (by rw [show isP 4 v = false from by simp [isP, c_1, (Int32.not_lt.mpr c_1), c_2, (Int32.not_lt.mpr c_2)]]; rfl) dX4_isSheet_14 hlocks
    · have c_2 := Int32.not_le.mp c_2
      refine lv_iconst (v := nI 1) hx hb dX4_isSheet_9 (by decide) ?_
      refine lv_goto (tgt := 14) hx hb dX4_isSheet_10 (by decide) ?_
      exact zk_retSB hx hb hr nI_nar1 (by rw [show isP 4 v = true from by simp [isP, c_1, (Int32.not_lt.mpr c_1), c_2, (Int32.not_le.mpr c_2)]]; rfl) dX4_isSheet_14 hlocks
set_option maxHeartbeats 4000000 in
set_option maxRecDepth 100000 in
theorem c_isLane (l : Launch) (D : va_G) (cI : ClassId) (v : Int32)  : Met l yX4_isLane wsX4_isLane ({ frames := 0, cells := 0, slots := 0, locals := 0 }) (PS D cI [.int v] ([])) (vp_Si (fun r => r = bI (isP 3 v))) 0 0 (fun _ => False) := by
  refine zk_S (cc := cX4_isLane) (maxL := 1) (ret := (some .boolean)) (by decide) rfl (Nat.le_of_ble_eq_true rfl) ?_
  intro pX eX sX mX bX tX cX hx hb hr hlocks hml hown hts hP hK ls hl
  have hl : lv_has ls 1 [(0, .int v)] := hl
  have hP : va_P D vwCl [] sX.heap := hP
  skip
  refine lv_iload_n hx hb dX4_isLane_0 rfl (lv_at hl 0 rfl) ?_
  refine lv_if_lt (tgt := 13) hx hb dX4_isLane_1 (by decide) (fun c_1 => ?_) (fun c_1 => ?_)
  · refine lv_iconst (v := nI 0) hx hb dX4_isLane_13 (by decide) ?_
    exact zk_retSB hx hb hr nI_nar0 (by rw [show isP 3 v = false from by simp [isP, c_1, (Int32.not_le.mpr c_1)]]; rfl) dX4_isLane_14 hlocks
  · have c_1 := Int32.not_lt.mp c_1
    refine lv_iload_n hx hb dX4_isLane_4 rfl (lv_at hl 0 rfl) ?_
    refine lv_iconst (v := nI 3) hx hb dX4_isLane_5 (by decide) ?_
    refine lv_icmp_ge (tgt := 13) hx hb dX4_isLane_6 (by decide) (fun c_2 => ?_) (fun c_2 => ?_)
    · refine lv_iconst (v := nI 0) hx hb dX4_isLane_13 (by decide) ?_
      exact zk_retSB hx hb hr nI_nar0 (by rw [show isP 3 v = false from by simp [isP, c_1, (Int32.not_lt.mpr c_1), c_2, (Int32.not_lt.mpr c_2)]]; rfl) dX4_isLane_14 hlocks
    · have c_2 := Int32.not_le.mp c_2
      refine lv_iconst (v := nI 1) hx hb dX4_isLane_9 (by decide) ?_
      refine lv_goto (tgt := 14) hx hb dX4_isLane_10 (by decide) ?_
      exact zk_retSB hx hb hr nI_nar1 (by rw [show isP 3 v = true from by simp [isP, c_1, (Int32.not_lt.mpr c_1), c_2, (Int32.not_le.mpr c_2)]]; rfl) dX4_isLane_14 hlocks
set_option maxHeartbeats 4000000 in
set_option maxRecDepth 100000 in
theorem c_isOfPlan (l : Launch) (D : va_G) (cI : ClassId) (v : Int32)  : Met l yX4_isOfPlan wsX4_isOfPlan ({ frames := 0, cells := 0, slots := 0, locals := 0 }) (PS D cI [.int v] ([])) (vp_Si (fun r => r = bI (isPl v))) 0 0 (fun _ => False) := by
  refine zk_S (cc := cX4_isOfPlan) (maxL := 1) (ret := (some .boolean)) (by decide) rfl (Nat.le_of_ble_eq_true rfl) ?_
  intro pX eX sX mX bX tX cX hx hb hr hlocks hml hown hts hP hK ls hl
  have hl : lv_has ls 1 [(0, .int v)] := hl
  have hP : va_P D vwCl [] sX.heap := hP
  skip
  refine lv_iload_n hx hb dX4_isOfPlan_0 rfl (lv_at hl 0 rfl) ?_
  refine lv_if_lt (tgt := 9) hx hb dX4_isOfPlan_1 (by decide) (fun c_1 => ?_) (fun c_1 => ?_)
  · refine lv_iload_n hx hb dX4_isOfPlan_9 rfl (lv_at hl 0 rfl) ?_
    refine lv_bipush (v := nI 10) hx hb dX4_isOfPlan_10 (by decide) ?_
    refine lv_icmp_lt (tgt := 21) hx hb dX4_isOfPlan_12 (by decide) (fun c_2 => ?_) (fun c_2 => ?_)
    · refine lv_iload_n hx hb dX4_isOfPlan_21 rfl (lv_at hl 0 rfl) ?_
      refine lv_bipush (v := nI 20) hx hb dX4_isOfPlan_22 (by decide) ?_
      refine lv_icmp_lt (tgt := 37) hx hb dX4_isOfPlan_24 (by decide) (fun c_3 => ?_) (fun c_3 => ?_)
      · refine lv_iconst (v := nI 0) hx hb dX4_isOfPlan_37 (by decide) ?_
        exact zk_retSB hx hb hr nI_nar0 (by rw [show isPl v = false from by simp [isPl, c_1, (Int32.not_le.mpr c_1), c_2, (Int32.not_le.mpr c_2), c_3, (Int32.not_le.mpr c_3)]]; rfl) dX4_isOfPlan_38 hlocks
      · have c_3 := Int32.not_lt.mp c_3
        refine lv_iload_n hx hb dX4_isOfPlan_27 rfl (lv_at hl 0 rfl) ?_
        refine lv_bipush (v := nI 25) hx hb dX4_isOfPlan_28 (by decide) ?_
        refine lv_icmp_ge (tgt := 37) hx hb dX4_isOfPlan_30 (by decide) (fun c_4 => ?_) (fun c_4 => ?_)
        · refine lv_iconst (v := nI 0) hx hb dX4_isOfPlan_37 (by decide) ?_
          exact zk_retSB hx hb hr nI_nar0 (by rw [show isPl v = false from by simp [isPl, c_1, (Int32.not_le.mpr c_1), c_2, (Int32.not_le.mpr c_2), c_3, (Int32.not_lt.mpr c_3), c_4, (Int32.not_lt.mpr c_4)]]; rfl) dX4_isOfPlan_38 hlocks
        · have c_4 := Int32.not_le.mp c_4
          refine lv_iconst (v := nI 1) hx hb dX4_isOfPlan_33 (by decide) ?_
          refine lv_goto (tgt := 38) hx hb dX4_isOfPlan_34 (by decide) ?_
          exact zk_retSB hx hb hr nI_nar1 (by rw [show isPl v = true from by simp [isPl, c_1, (Int32.not_le.mpr c_1), c_2, (Int32.not_le.mpr c_2), c_3, (Int32.not_lt.mpr c_3), c_4, (Int32.not_le.mpr c_4)]]; rfl) dX4_isOfPlan_38 hlocks
    · have c_2 := Int32.not_lt.mp c_2
      refine lv_iload_n hx hb dX4_isOfPlan_15 rfl (lv_at hl 0 rfl) ?_
      refine lv_bipush (v := nI 14) hx hb dX4_isOfPlan_16 (by decide) ?_
      refine lv_icmp_lt (tgt := 33) hx hb dX4_isOfPlan_18 (by decide) (fun c_5 => ?_) (fun c_5 => ?_)
      · refine lv_iconst (v := nI 1) hx hb dX4_isOfPlan_33 (by decide) ?_
        refine lv_goto (tgt := 38) hx hb dX4_isOfPlan_34 (by decide) ?_
        exact zk_retSB hx hb hr nI_nar1 (by rw [show isPl v = true from by simp [isPl, c_1, (Int32.not_le.mpr c_1), c_2, (Int32.not_lt.mpr c_2), c_5, (Int32.not_le.mpr c_5)]]; rfl) dX4_isOfPlan_38 hlocks
      · have c_5 := Int32.not_lt.mp c_5
        refine lv_iload_n hx hb dX4_isOfPlan_21 rfl (lv_at hl 0 rfl) ?_
        refine lv_bipush (v := nI 20) hx hb dX4_isOfPlan_22 (by decide) ?_
        refine lv_icmp_lt (tgt := 37) hx hb dX4_isOfPlan_24 (by decide) (fun c_6 => ?_) (fun c_6 => ?_)
        · refine lv_iconst (v := nI 0) hx hb dX4_isOfPlan_37 (by decide) ?_
          exact zk_retSB hx hb hr nI_nar0 (by rw [show isPl v = false from by simp [isPl, c_1, (Int32.not_le.mpr c_1), c_2, (Int32.not_lt.mpr c_2), c_5, (Int32.not_lt.mpr c_5), c_6, (Int32.not_le.mpr c_6)]]; rfl) dX4_isOfPlan_38 hlocks
        · have c_6 := Int32.not_lt.mp c_6
          refine lv_iload_n hx hb dX4_isOfPlan_27 rfl (lv_at hl 0 rfl) ?_
          refine lv_bipush (v := nI 25) hx hb dX4_isOfPlan_28 (by decide) ?_
          refine lv_icmp_ge (tgt := 37) hx hb dX4_isOfPlan_30 (by decide) (fun c_7 => ?_) (fun c_7 => ?_)
          · refine lv_iconst (v := nI 0) hx hb dX4_isOfPlan_37 (by decide) ?_
            exact zk_retSB hx hb hr nI_nar0 (by rw [show isPl v = false from by simp [isPl, c_1, (Int32.not_le.mpr c_1), c_2, (Int32.not_lt.mpr c_2), c_5, (Int32.not_lt.mpr c_5), c_6, (Int32.not_lt.mpr c_6), c_7, (Int32.not_lt.mpr c_7)]]; rfl) dX4_isOfPlan_38 hlocks
          · have c_7 := Int32.not_le.mp c_7
            refine lv_iconst (v := nI 1) hx hb dX4_isOfPlan_33 (by decide) ?_
            refine lv_goto (tgt := 38) hx hb dX4_isOfPlan_34 (by decide) ?_
            exact zk_retSB hx hb hr nI_nar1 (by rw [show isPl v = true from by simp [isPl, c_1, (Int32.not_le.mpr c_1), c_2, (Int32.not_lt.mpr c_2), c_5, (Int32.not_lt.mpr c_5), c_6, (Int32.not_lt.mpr c_6), c_7, (Int32.not_le.mpr c_7)]]; rfl) dX4_isOfPlan_38 hlocks
  · have c_1 := Int32.not_lt.mp c_1
    refine lv_iload_n hx hb dX4_isOfPlan_4 rfl (lv_at hl 0 rfl) ?_
    refine lv_iconst (v := nI 3) hx hb dX4_isOfPlan_5 (by decide) ?_
    refine lv_icmp_le (tgt := 33) hx hb dX4_isOfPlan_6 (by decide) (fun c_8 => ?_) (fun c_8 => ?_)
    · refine lv_iconst (v := nI 1) hx hb dX4_isOfPlan_33 (by decide) ?_
      refine lv_goto (tgt := 38) hx hb dX4_isOfPlan_34 (by decide) ?_
      exact zk_retSB hx hb hr nI_nar1 (by rw [show isPl v = true from by simp [isPl, c_1, (Int32.not_lt.mpr c_1), c_8, (Int32.not_lt.mpr c_8)]]; rfl) dX4_isOfPlan_38 hlocks
    · have c_8 := Int32.not_le.mp c_8
      refine lv_iload_n hx hb dX4_isOfPlan_9 rfl (lv_at hl 0 rfl) ?_
      refine lv_bipush (v := nI 10) hx hb dX4_isOfPlan_10 (by decide) ?_
      refine lv_icmp_lt (tgt := 21) hx hb dX4_isOfPlan_12 (by decide) (fun c_9 => ?_) (fun c_9 => ?_)
      · refine lv_iload_n hx hb dX4_isOfPlan_21 rfl (lv_at hl 0 rfl) ?_
        refine lv_bipush (v := nI 20) hx hb dX4_isOfPlan_22 (by decide) ?_
        refine lv_icmp_lt (tgt := 37) hx hb dX4_isOfPlan_24 (by decide) (fun c_10 => ?_) (fun c_10 => ?_)
        · refine lv_iconst (v := nI 0) hx hb dX4_isOfPlan_37 (by decide) ?_
          exact zk_retSB hx hb hr nI_nar0 (by rw [show isPl v = false from by simp [isPl, c_1, (Int32.not_lt.mpr c_1), c_8, (Int32.not_le.mpr c_8), c_9, (Int32.not_le.mpr c_9), c_10, (Int32.not_le.mpr c_10)]]; rfl) dX4_isOfPlan_38 hlocks
        · have c_10 := Int32.not_lt.mp c_10
          refine lv_iload_n hx hb dX4_isOfPlan_27 rfl (lv_at hl 0 rfl) ?_
          refine lv_bipush (v := nI 25) hx hb dX4_isOfPlan_28 (by decide) ?_
          refine lv_icmp_ge (tgt := 37) hx hb dX4_isOfPlan_30 (by decide) (fun c_11 => ?_) (fun c_11 => ?_)
          · refine lv_iconst (v := nI 0) hx hb dX4_isOfPlan_37 (by decide) ?_
            exact zk_retSB hx hb hr nI_nar0 (by rw [show isPl v = false from by simp [isPl, c_1, (Int32.not_lt.mpr c_1), c_8, (Int32.not_le.mpr c_8), c_9, (Int32.not_le.mpr c_9), c_10, (Int32.not_lt.mpr c_10), c_11, (Int32.not_lt.mpr c_11)]]; rfl) dX4_isOfPlan_38 hlocks
          · have c_11 := Int32.not_le.mp c_11
            refine lv_iconst (v := nI 1) hx hb dX4_isOfPlan_33 (by decide) ?_
            refine lv_goto (tgt := 38) hx hb dX4_isOfPlan_34 (by decide) ?_
            exact zk_retSB hx hb hr nI_nar1 (by rw [show isPl v = true from by simp [isPl, c_1, (Int32.not_lt.mpr c_1), c_8, (Int32.not_le.mpr c_8), c_9, (Int32.not_le.mpr c_9), c_10, (Int32.not_lt.mpr c_10), c_11, (Int32.not_le.mpr c_11)]]; rfl) dX4_isOfPlan_38 hlocks
      · have c_9 := Int32.not_lt.mp c_9
        refine lv_iload_n hx hb dX4_isOfPlan_15 rfl (lv_at hl 0 rfl) ?_
        refine lv_bipush (v := nI 14) hx hb dX4_isOfPlan_16 (by decide) ?_
        refine lv_icmp_lt (tgt := 33) hx hb dX4_isOfPlan_18 (by decide) (fun c_12 => ?_) (fun c_12 => ?_)
        · refine lv_iconst (v := nI 1) hx hb dX4_isOfPlan_33 (by decide) ?_
          refine lv_goto (tgt := 38) hx hb dX4_isOfPlan_34 (by decide) ?_
          exact zk_retSB hx hb hr nI_nar1 (by rw [show isPl v = true from by simp [isPl, c_1, (Int32.not_lt.mpr c_1), c_8, (Int32.not_le.mpr c_8), c_9, (Int32.not_lt.mpr c_9), c_12, (Int32.not_le.mpr c_12)]]; rfl) dX4_isOfPlan_38 hlocks
        · have c_12 := Int32.not_lt.mp c_12
          refine lv_iload_n hx hb dX4_isOfPlan_21 rfl (lv_at hl 0 rfl) ?_
          refine lv_bipush (v := nI 20) hx hb dX4_isOfPlan_22 (by decide) ?_
          refine lv_icmp_lt (tgt := 37) hx hb dX4_isOfPlan_24 (by decide) (fun c_13 => ?_) (fun c_13 => ?_)
          · refine lv_iconst (v := nI 0) hx hb dX4_isOfPlan_37 (by decide) ?_
            exact zk_retSB hx hb hr nI_nar0 (by rw [show isPl v = false from by simp [isPl, c_1, (Int32.not_lt.mpr c_1), c_8, (Int32.not_le.mpr c_8), c_9, (Int32.not_lt.mpr c_9), c_12, (Int32.not_lt.mpr c_12), c_13, (Int32.not_le.mpr c_13)]]; rfl) dX4_isOfPlan_38 hlocks
          · have c_13 := Int32.not_lt.mp c_13
            refine lv_iload_n hx hb dX4_isOfPlan_27 rfl (lv_at hl 0 rfl) ?_
            refine lv_bipush (v := nI 25) hx hb dX4_isOfPlan_28 (by decide) ?_
            refine lv_icmp_ge (tgt := 37) hx hb dX4_isOfPlan_30 (by decide) (fun c_14 => ?_) (fun c_14 => ?_)
            · refine lv_iconst (v := nI 0) hx hb dX4_isOfPlan_37 (by decide) ?_
              exact zk_retSB hx hb hr nI_nar0 (by rw [show isPl v = false from by simp [isPl, c_1, (Int32.not_lt.mpr c_1), c_8, (Int32.not_le.mpr c_8), c_9, (Int32.not_lt.mpr c_9), c_12, (Int32.not_lt.mpr c_12), c_13, (Int32.not_lt.mpr c_13), c_14, (Int32.not_lt.mpr c_14)]]; rfl) dX4_isOfPlan_38 hlocks
            · have c_14 := Int32.not_le.mp c_14
              refine lv_iconst (v := nI 1) hx hb dX4_isOfPlan_33 (by decide) ?_
              refine lv_goto (tgt := 38) hx hb dX4_isOfPlan_34 (by decide) ?_
              exact zk_retSB hx hb hr nI_nar1 (by rw [show isPl v = true from by simp [isPl, c_1, (Int32.not_lt.mpr c_1), c_8, (Int32.not_le.mpr c_8), c_9, (Int32.not_lt.mpr c_9), c_12, (Int32.not_lt.mpr c_12), c_13, (Int32.not_lt.mpr c_13), c_14, (Int32.not_le.mpr c_14)]]; rfl) dX4_isOfPlan_38 hlocks
set_option maxHeartbeats 4000000 in
set_option maxRecDepth 100000 in
theorem c_hasSee (l : Launch) (D : va_G) (cI : ClassId) (x0 : Nat) (x1 : Nat) (x2 : Nat) (x3 : Nat) (x4 : Nat) (x5 : Nat) (x6 : Nat) (x7 : Nat) (x8 : Nat) (x9 : Nat) (x10 : Nat) (x11 : Nat) (x12 : Nat) (x13 : Nat) (x14 : Nat) (x15 : Nat) (x16 : Nat) (x17 : Nat) (x18 : Nat) (x19 : Nat) (x20 : Nat) (x21 : Nat) (x22 : Nat) (x23 : Nat) (x24 : Nat) (x25 : Nat) (x26 : Nat) (x27 : Nat) (x28 : Nat) (x29 : Nat) (x30 : Nat) (T : YS) (ts : Nat → Int32) (tr : Int32) (fl : Int32) (hok : OkY T) : Met l yX4_hasSee wsX4_hasSee ({ frames := 0, cells := 0, slots := 0, locals := 0 }) (PS D cI [.ref x0] (wXo x0 x1 x8 x15 x23 x27 tr fl ++ wRoll cI x1 x2 x3 x4 x5 x6 x7 T ts)) (vp_Si (fun r => r = bI (decide (0 < T.P)))) 0 0 (fun _ => False) := by
  refine zk_S (cc := cX4_hasSee) (maxL := 1) (ret := (some .boolean)) (by decide) rfl (Nat.le_of_ble_eq_true rfl) ?_
  intro pX eX sX mX bX tX cX hx hb hr hlocks hml hown hts hP hK ls hl
  have hl : lv_has ls 1 [(0, .ref x0)] := hl
  have hP : va_P D vwCl [(x0, .inr (4, [.ref x1, .ref x8, .ref x15, .ref x23, .ref x27, .int tr, .int fl])), (x1, .inr (2, [.int (nI T.D), .int (nI T.P), .int T.db, .int T.rm, .ref x2, .ref x3, .ref x4, .ref x5, .ref x6, .ref x7])), (x2, .inl (cI, 5, .inl T.hard)), (x3, .inl (cI, 4, .inl T.kind)), (x4, .inl (cI, 4, .inl T.wit)), (x5, .inl (cI, 4, .inl T.pat)), (x6, .inl (cI, 4, .inl T.pret)), (x7, .inl (cI, 5, .inl ts))] sX.heap := hP
  have f_12 := hts (.fieldLink RX4 12 "DunceSee" "told" "LDunceSee$Roll;") (by decide +kernel)
  have f_76 := hK.nest (A := ([.ref x0] : List Value).toArray) 4 rfl
  have inX4 : ∀ w ∈ wsX40, w ∈ wsX4_hasSee := fun w h => List.mem_cons_of_mem _ (List.mem_append_left _ (List.mem_append_right _ h))
  have inX2 : ∀ w ∈ wsX20, w ∈ wsX4_hasSee := fun w h => List.mem_cons_of_mem _ (List.mem_append_right _ h)
  have hD5 : T.D ≤ 5 := hok.1
  have hP4 : T.P ≤ 4 := hok.2
  refine lv_aload_n hx hb dX4_hasSee_0 rfl (lv_at hl 0 rfl) ?_
  refine va_get (D := D) (ci := 4) (v := .ref x1) (C := RX4) (T := TX4) (N := 7) hx hb hts inX4 hown hK.1 hP 0 rfl rfl 0 (by decide) f_12 (fun _ h9 => h9) rfl dX4_hasSee_1 ?_
  refine va_getN (D := D) (ci := 2) (v := .int (nI T.P)) (C := RX2) (T := TX2) (N := 10) hx hb hts inX2 hown hK.1 hP 1 rfl rfl 1 (by decide) f_76 (fun _ h9 => h9) rfl dX4_hasSee_4 ?_
  refine lv_if_le (tgt := 14) hx hb dX4_hasSee_7 (by decide) (fun c_1 => ?_) (fun c_1 => ?_)
  · refine lv_iconst (v := nI 0) hx hb dX4_hasSee_14 (by decide) ?_
    exact zk_retSB hx hb hr nI_nar0 (by rw [show decide (0 < T.P) = false from decide_eq_false (le0N (by omega) c_1)]; rfl) dX4_hasSee_15 hlocks
  · have c_1 := Int32.not_le.mp c_1
    refine lv_iconst (v := nI 1) hx hb dX4_hasSee_10 (by decide) ?_
    refine lv_goto (tgt := 15) hx hb dX4_hasSee_11 (by decide) ?_
    exact zk_retSB hx hb hr nI_nar1 (by rw [show decide (0 < T.P) = true from decide_eq_true (gt0N (by omega) c_1)]; rfl) dX4_hasSee_15 hlocks
set_option maxHeartbeats 4000000 in
set_option maxRecDepth 100000 in
theorem c_isPupil (l : Launch) (D : va_G) (cI : ClassId) (x0 : Nat) (x1 : Nat) (x2 : Nat) (x3 : Nat) (x4 : Nat) (x5 : Nat) (x6 : Nat) (x7 : Nat) (x8 : Nat) (x9 : Nat) (x10 : Nat) (x11 : Nat) (x12 : Nat) (x13 : Nat) (x14 : Nat) (x15 : Nat) (x16 : Nat) (x17 : Nat) (x18 : Nat) (x19 : Nat) (x20 : Nat) (x21 : Nat) (x22 : Nat) (x23 : Nat) (x24 : Nat) (x25 : Nat) (x26 : Nat) (x27 : Nat) (x28 : Nat) (x29 : Nat) (x30 : Nat) (T : YS) (ts : Nat → Int32) (tr : Int32) (fl : Int32) (p : Int32)  : Met l yX4_isPupil wsX4_isPupil ({ frames := 0, cells := 0, slots := 0, locals := 0 }) (PS D cI [.ref x0, .int p] (wXo x0 x1 x8 x15 x23 x27 tr fl ++ wRoll cI x1 x2 x3 x4 x5 x6 x7 T ts)) (vp_Si (fun r => r = bI (isP T.P p))) 0 0 (fun _ => False) := by
  refine zk_S (cc := cX4_isPupil) (maxL := 2) (ret := (some .boolean)) (by decide) rfl (Nat.le_of_ble_eq_true rfl) ?_
  intro pX eX sX mX bX tX cX hx hb hr hlocks hml hown hts hP hK ls hl
  have hl : lv_has ls 2 [(0, .ref x0), (1, .int p)] := hl
  have hP : va_P D vwCl [(x0, .inr (4, [.ref x1, .ref x8, .ref x15, .ref x23, .ref x27, .int tr, .int fl])), (x1, .inr (2, [.int (nI T.D), .int (nI T.P), .int T.db, .int T.rm, .ref x2, .ref x3, .ref x4, .ref x5, .ref x6, .ref x7])), (x2, .inl (cI, 5, .inl T.hard)), (x3, .inl (cI, 4, .inl T.kind)), (x4, .inl (cI, 4, .inl T.wit)), (x5, .inl (cI, 4, .inl T.pat)), (x6, .inl (cI, 4, .inl T.pret)), (x7, .inl (cI, 5, .inl ts))] sX.heap := hP
  have f_12 := hts (.fieldLink RX4 12 "DunceSee" "told" "LDunceSee$Roll;") (by decide +kernel)
  have f_76 := hK.nest (A := ([.ref x0, .int p] : List Value).toArray) 4 rfl
  have inX4 : ∀ w ∈ wsX40, w ∈ wsX4_isPupil := fun w h => List.mem_cons_of_mem _ (List.mem_append_left _ (List.mem_append_right _ h))
  have inX2 : ∀ w ∈ wsX20, w ∈ wsX4_isPupil := fun w h => List.mem_cons_of_mem _ (List.mem_append_right _ h)
  refine lv_iload_n hx hb dX4_isPupil_0 rfl (lv_at hl 1 rfl) ?_
  refine lv_if_lt (tgt := 19) hx hb dX4_isPupil_1 (by decide) (fun c_1 => ?_) (fun c_1 => ?_)
  · refine lv_iconst (v := nI 0) hx hb dX4_isPupil_19 (by decide) ?_
    exact zk_retSB hx hb hr nI_nar0 (by rw [show isP T.P p = false from by simp [isP, c_1, (Int32.not_le.mpr c_1)]]; rfl) dX4_isPupil_20 hlocks
  · have c_1 := Int32.not_lt.mp c_1
    refine lv_iload_n hx hb dX4_isPupil_4 rfl (lv_at hl 1 rfl) ?_
    refine lv_aload_n hx hb dX4_isPupil_5 rfl (lv_at hl 0 rfl) ?_
    refine va_get (D := D) (ci := 4) (v := .ref x1) (C := RX4) (T := TX4) (N := 7) hx hb hts inX4 hown hK.1 hP 0 rfl rfl 0 (by decide) f_12 (fun _ h9 => h9) rfl dX4_isPupil_6 ?_
    refine va_getN (D := D) (ci := 2) (v := .int (nI T.P)) (C := RX2) (T := TX2) (N := 10) hx hb hts inX2 hown hK.1 hP 1 rfl rfl 1 (by decide) f_76 (fun _ h9 => h9) rfl dX4_isPupil_9 ?_
    refine lv_icmp_ge (tgt := 19) hx hb dX4_isPupil_12 (by decide) (fun c_2 => ?_) (fun c_2 => ?_)
    · refine lv_iconst (v := nI 0) hx hb dX4_isPupil_19 (by decide) ?_
      exact zk_retSB hx hb hr nI_nar0 (by rw [show isP T.P p = false from by simp [isP, c_1, (Int32.not_lt.mpr c_1), c_2, (Int32.not_lt.mpr c_2)]]; rfl) dX4_isPupil_20 hlocks
    · have c_2 := Int32.not_le.mp c_2
      refine lv_iconst (v := nI 1) hx hb dX4_isPupil_15 (by decide) ?_
      refine lv_goto (tgt := 20) hx hb dX4_isPupil_16 (by decide) ?_
      exact zk_retSB hx hb hr nI_nar1 (by rw [show isP T.P p = true from by simp [isP, c_1, (Int32.not_lt.mpr c_1), c_2, (Int32.not_le.mpr c_2)]]; rfl) dX4_isPupil_20 hlocks
set_option maxHeartbeats 4000000 in
set_option maxRecDepth 100000 in
theorem c_isDay (l : Launch) (D : va_G) (cI : ClassId) (x0 : Nat) (x1 : Nat) (x2 : Nat) (x3 : Nat) (x4 : Nat) (x5 : Nat) (x6 : Nat) (x7 : Nat) (x8 : Nat) (x9 : Nat) (x10 : Nat) (x11 : Nat) (x12 : Nat) (x13 : Nat) (x14 : Nat) (x15 : Nat) (x16 : Nat) (x17 : Nat) (x18 : Nat) (x19 : Nat) (x20 : Nat) (x21 : Nat) (x22 : Nat) (x23 : Nat) (x24 : Nat) (x25 : Nat) (x26 : Nat) (x27 : Nat) (x28 : Nat) (x29 : Nat) (x30 : Nat) (T : YS) (ts : Nat → Int32) (tr : Int32) (fl : Int32) (p : Int32)  : Met l yX4_isDay wsX4_isDay ({ frames := 0, cells := 0, slots := 0, locals := 0 }) (PS D cI [.ref x0, .int p] (wXo x0 x1 x8 x15 x23 x27 tr fl ++ wRoll cI x1 x2 x3 x4 x5 x6 x7 T ts)) (vp_Si (fun r => r = bI (isP T.D p))) 0 0 (fun _ => False) := by
  refine zk_S (cc := cX4_isDay) (maxL := 2) (ret := (some .boolean)) (by decide) rfl (Nat.le_of_ble_eq_true rfl) ?_
  intro pX eX sX mX bX tX cX hx hb hr hlocks hml hown hts hP hK ls hl
  have hl : lv_has ls 2 [(0, .ref x0), (1, .int p)] := hl
  have hP : va_P D vwCl [(x0, .inr (4, [.ref x1, .ref x8, .ref x15, .ref x23, .ref x27, .int tr, .int fl])), (x1, .inr (2, [.int (nI T.D), .int (nI T.P), .int T.db, .int T.rm, .ref x2, .ref x3, .ref x4, .ref x5, .ref x6, .ref x7])), (x2, .inl (cI, 5, .inl T.hard)), (x3, .inl (cI, 4, .inl T.kind)), (x4, .inl (cI, 4, .inl T.wit)), (x5, .inl (cI, 4, .inl T.pat)), (x6, .inl (cI, 4, .inl T.pret)), (x7, .inl (cI, 5, .inl ts))] sX.heap := hP
  have f_12 := hts (.fieldLink RX4 12 "DunceSee" "told" "LDunceSee$Roll;") (by decide +kernel)
  have f_152 := hK.nest (A := ([.ref x0, .int p] : List Value).toArray) 2 rfl
  have inX4 : ∀ w ∈ wsX40, w ∈ wsX4_isDay := fun w h => List.mem_cons_of_mem _ (List.mem_append_left _ (List.mem_append_right _ h))
  have inX2 : ∀ w ∈ wsX20, w ∈ wsX4_isDay := fun w h => List.mem_cons_of_mem _ (List.mem_append_right _ h)
  refine lv_iload_n hx hb dX4_isDay_0 rfl (lv_at hl 1 rfl) ?_
  refine lv_if_lt (tgt := 19) hx hb dX4_isDay_1 (by decide) (fun c_1 => ?_) (fun c_1 => ?_)
  · refine lv_iconst (v := nI 0) hx hb dX4_isDay_19 (by decide) ?_
    exact zk_retSB hx hb hr nI_nar0 (by rw [show isP T.D p = false from by simp [isP, c_1, (Int32.not_le.mpr c_1)]]; rfl) dX4_isDay_20 hlocks
  · have c_1 := Int32.not_lt.mp c_1
    refine lv_iload_n hx hb dX4_isDay_4 rfl (lv_at hl 1 rfl) ?_
    refine lv_aload_n hx hb dX4_isDay_5 rfl (lv_at hl 0 rfl) ?_
    refine va_get (D := D) (ci := 4) (v := .ref x1) (C := RX4) (T := TX4) (N := 7) hx hb hts inX4 hown hK.1 hP 0 rfl rfl 0 (by decide) f_12 (fun _ h9 => h9) rfl dX4_isDay_6 ?_
    refine va_getN (D := D) (ci := 2) (v := .int (nI T.D)) (C := RX2) (T := TX2) (N := 10) hx hb hts inX2 hown hK.1 hP 1 rfl rfl 0 (by decide) f_152 (fun _ h9 => h9) rfl dX4_isDay_9 ?_
    refine lv_icmp_ge (tgt := 19) hx hb dX4_isDay_12 (by decide) (fun c_2 => ?_) (fun c_2 => ?_)
    · refine lv_iconst (v := nI 0) hx hb dX4_isDay_19 (by decide) ?_
      exact zk_retSB hx hb hr nI_nar0 (by rw [show isP T.D p = false from by simp [isP, c_1, (Int32.not_lt.mpr c_1), c_2, (Int32.not_lt.mpr c_2)]]; rfl) dX4_isDay_20 hlocks
    · have c_2 := Int32.not_le.mp c_2
      refine lv_iconst (v := nI 1) hx hb dX4_isDay_15 (by decide) ?_
      refine lv_goto (tgt := 20) hx hb dX4_isDay_16 (by decide) ?_
      exact zk_retSB hx hb hr nI_nar1 (by rw [show isP T.D p = true from by simp [isP, c_1, (Int32.not_lt.mpr c_1), c_2, (Int32.not_le.mpr c_2)]]; rfl) dX4_isDay_20 hlocks
set_option maxHeartbeats 4000000 in
set_option maxRecDepth 100000 in
theorem c_fail (l : Launch) (D : va_G) (cI : ClassId) (sz : Nat) (x0 : Nat) (x1 : Nat) (x2 : Nat) (x3 : Nat) (x4 : Nat) (x5 : Nat) (x6 : Nat) (x7 : Nat) (x8 : Nat) (x9 : Nat) (x10 : Nat) (x11 : Nat) (x12 : Nat) (x13 : Nat) (x14 : Nat) (x15 : Nat) (x16 : Nat) (x17 : Nat) (x18 : Nat) (x19 : Nat) (x20 : Nat) (x21 : Nat) (x22 : Nat) (x23 : Nat) (x24 : Nat) (x25 : Nat) (x26 : Nat) (x27 : Nat) (x28 : Nat) (x29 : Nat) (x30 : Nat) (tr : Int32) (fl : Int32) (v : Int32)  : Met l yX4_fail wsX4_fail ({ frames := 0, cells := 0, slots := 0, locals := 0 }) (PQ D cI [.ref x0, .int v] (wXo x0 x1 x8 x15 x23 x27 tr fl) sz) (QI (S := Unit) D (fun r _ => r = (-10) - v) (fun _ => wXo x0 x1 x8 x15 x23 x27 tr v) (va_A (wXo x0 x1 x8 x15 x23 x27 tr fl) sz)) 0 0 (va_A (wXo x0 x1 x8 x15 x23 x27 tr fl) sz) := by
  refine zk_Q (QI (S := Unit) D (fun r _ => r = (-10) - v) (fun _ => wXo x0 x1 x8 x15 x23 x27 tr v)) (cc := cX4_fail) (maxL := 2) (ret := (some .int)) (by decide) rfl (Nat.le_of_ble_eq_true rfl) ?_
  intro pX eX sX mX bX tX cX hx hb hr hlocks hml hown hmn hts hP hK A hA hD hS ls hl
  have hl : lv_has ls 2 [(0, .ref x0), (1, .int v)] := hl
  have hP : va_P D vwCl [(x0, .inr (4, [.ref x1, .ref x8, .ref x15, .ref x23, .ref x27, .int tr, .int fl]))] sX.heap := hP
  have hD : va_D A [(x0, .inr (4, [.ref x1, .ref x8, .ref x15, .ref x23, .ref x27, .int tr, .int fl]))] := hD
  have f_42 := hts (.fieldLink RX4 42 "DunceSee" "fault" "I") (by decide +kernel)
  have inX4 : ∀ w ∈ wsX40, w ∈ wsX4_fail := fun w h => List.mem_cons_of_mem _ (List.mem_append_right _ h)
  refine lv_aload_n hx hb dX4_fail_0 rfl (lv_at hl 0 rfl) ?_
  refine lv_iload_n hx hb dX4_fail_1 rfl (lv_at hl 1 rfl) ?_
  refine va_put (D := D) (ci := 4) (v := .int v) (ty := .int) (C := RX4) (T := TX4) (N := 7) hx hb hts inX4 tyX4 tyX4_ok nmX4 hown hK.1 hP hD hS 0 rfl rfl 6 (by decide) f_42 (fun _ h9 => h9) rfl (by decide +kernel) rfl rfl (Nat.le_of_ble_eq_true rfl) dX4_fail_2 (fun H locs hP hD hS => ?_)
  have hP : va_P D vwCl [(x0, .inr (4, [.ref x1, .ref x8, .ref x15, .ref x23, .ref x27, .int tr, .int v]))] H := hP
  have hD : va_D A [(x0, .inr (4, [.ref x1, .ref x8, .ref x15, .ref x23, .ref x27, .int tr, .int v]))] := hD
  refine lv_bipush (v := (-10)) hx hb dX4_fail_5 (by decide) ?_
  refine lv_iload_n hx hb dX4_fail_7 rfl (lv_at hl 1 rfl) ?_
  refine lv_isub hx hb dX4_fail_8 ?_
  exact zk_retI hx hb hr hS (()) (rfl) hP hD dX4_fail_9 hlocks
set_option maxHeartbeats 4000000 in
set_option maxRecDepth 100000 in
theorem c_leaveTrace (l : Launch) (D : va_G) (cI : ClassId) (sz : Nat) (x0 : Nat) (x1 : Nat) (x2 : Nat) (x3 : Nat) (x4 : Nat) (x5 : Nat) (x6 : Nat) (x7 : Nat) (x8 : Nat) (x9 : Nat) (x10 : Nat) (x11 : Nat) (x12 : Nat) (x13 : Nat) (x14 : Nat) (x15 : Nat) (x16 : Nat) (x17 : Nat) (x18 : Nat) (x19 : Nat) (x20 : Nat) (x21 : Nat) (x22 : Nat) (x23 : Nat) (x24 : Nat) (x25 : Nat) (x26 : Nat) (x27 : Nat) (x28 : Nat) (x29 : Nat) (x30 : Nat) (tr : Int32) (fl : Int32) (v : Int32)  : Met l yX4_leaveTrace wsX4_leaveTrace ({ frames := 0, cells := 0, slots := 0, locals := 0 }) (PQ D cI [.ref x0, .int v] (wXo x0 x1 x8 x15 x23 x27 tr fl) sz) (QV (S := Unit) D (fun _ => True) (fun _ => wXo x0 x1 x8 x15 x23 x27 (nI 31 * tr + v) fl) (va_A (wXo x0 x1 x8 x15 x23 x27 tr fl) sz)) 0 0 (va_A (wXo x0 x1 x8 x15 x23 x27 tr fl) sz) := by
  refine zk_Q (QV (S := Unit) D (fun _ => True) (fun _ => wXo x0 x1 x8 x15 x23 x27 (nI 31 * tr + v) fl)) (cc := cX4_leaveTrace) (maxL := 2) (ret := none) (by decide) rfl (Nat.le_of_ble_eq_true rfl) ?_
  intro pX eX sX mX bX tX cX hx hb hr hlocks hml hown hmn hts hP hK A hA hD hS ls hl
  have hl : lv_has ls 2 [(0, .ref x0), (1, .int v)] := hl
  have hP : va_P D vwCl [(x0, .inr (4, [.ref x1, .ref x8, .ref x15, .ref x23, .ref x27, .int tr, .int fl]))] sX.heap := hP
  have hD : va_D A [(x0, .inr (4, [.ref x1, .ref x8, .ref x15, .ref x23, .ref x27, .int tr, .int fl]))] := hD
  have f_218 := hts (.fieldLink RX4 218 "DunceSee" "trace" "I") (by decide +kernel)
  have inX4 : ∀ w ∈ wsX40, w ∈ wsX4_leaveTrace := fun w h => List.mem_cons_of_mem _ (List.mem_append_right _ h)
  refine lv_aload_n hx hb dX4_leaveTrace_0 rfl (lv_at hl 0 rfl) ?_
  refine lv_bipush (v := nI 31) hx hb dX4_leaveTrace_1 (by decide) ?_
  refine lv_aload_n hx hb dX4_leaveTrace_3 rfl (lv_at hl 0 rfl) ?_
  refine va_get (D := D) (ci := 4) (v := .int tr) (C := RX4) (T := TX4) (N := 7) hx hb hts inX4 hown hK.1 hP 0 rfl rfl 5 (by decide) f_218 (fun _ h9 => h9) rfl dX4_leaveTrace_4 ?_
  refine lv_imul hx hb dX4_leaveTrace_7 ?_
  refine lv_iload_n hx hb dX4_leaveTrace_8 rfl (lv_at hl 1 rfl) ?_
  refine lv_iadd hx hb dX4_leaveTrace_9 ?_
  refine va_put (D := D) (ci := 4) (v := .int (((nI 31) * tr) + v)) (ty := .int) (C := RX4) (T := TX4) (N := 7) hx hb hts inX4 tyX4 tyX4_ok nmX4 hown hK.1 hP hD hS 0 rfl rfl 5 (by decide) f_218 (fun _ h9 => h9) rfl (by decide +kernel) rfl rfl (Nat.le_of_ble_eq_true rfl) dX4_leaveTrace_10 (fun H locs hP hD hS => ?_)
  have hP : va_P D vwCl [(x0, .inr (4, [.ref x1, .ref x8, .ref x15, .ref x23, .ref x27, .int (((nI 31) * tr) + v), .int fl]))] H := hP
  have hD : va_D A [(x0, .inr (4, [.ref x1, .ref x8, .ref x15, .ref x23, .ref x27, .int (((nI 31) * tr) + v), .int fl]))] := hD
  exact zk_retV hx hb hr hS (()) (trivial) hP hD dX4_leaveTrace_13 hlocks
set_option maxHeartbeats 4000000 in
set_option maxRecDepth 100000 in
theorem cx_ofPupil (l : Launch) (D : va_G) (cI : ClassId) (x0 : Nat) (x1 : Nat) (x2 : Nat) (x3 : Nat) (x4 : Nat) (x5 : Nat) (x6 : Nat) (x7 : Nat) (x8 : Nat) (x9 : Nat) (x10 : Nat) (x11 : Nat) (x12 : Nat) (x13 : Nat) (x14 : Nat) (x15 : Nat) (x16 : Nat) (x17 : Nat) (x18 : Nat) (x19 : Nat) (x20 : Nat) (x21 : Nat) (x22 : Nat) (x23 : Nat) (x24 : Nat) (x25 : Nat) (x26 : Nat) (x27 : Nat) (x28 : Nat) (x29 : Nat) (x30 : Nat) (T : YS) (ts : Nat → Int32) (tr : Int32) (fl : Int32) (p : Int32) (w : Int32) (hok : OkY T) : Met l yX4_ofPupil wsX4_ofPupil ({ frames := 2, cells := 0, slots := 0, locals := 52 }) (PS D cI [.ref x0, .int p, .int w] (wXo x0 x1 x8 x15 x23 x27 tr fl ++ wRoll cI x1 x2 x3 x4 x5 x6 x7 T ts)) (vp_Si (fun r => r = ofPupilF T p w)) 0 0 (fun _ => False) := by
  refine zk_S (cc := cX4_ofPupil) (maxL := 3) (ret := (some .int)) (by decide) rfl (Nat.le_of_ble_eq_true rfl) ?_
  intro pX eX sX mX bX tX cX hx hb hr hlocks hml hown hts hP hK ls hl
  have hl : lv_has ls 3 [(0, .ref x0), (1, .int p), (2, .int w)] := hl
  have hP : va_P D vwCl [(x0, .inr (4, [.ref x1, .ref x8, .ref x15, .ref x23, .ref x27, .int tr, .int fl])), (x1, .inr (2, [.int (nI T.D), .int (nI T.P), .int T.db, .int T.rm, .ref x2, .ref x3, .ref x4, .ref x5, .ref x6, .ref x7])), (x2, .inl (cI, 5, .inl T.hard)), (x3, .inl (cI, 4, .inl T.kind)), (x4, .inl (cI, 4, .inl T.wit)), (x5, .inl (cI, 4, .inl T.pat)), (x6, .inl (cI, 4, .inl T.pret)), (x7, .inl (cI, 5, .inl ts))] sX.heap := hP
  have f_12 := hts (.fieldLink RX4 12 "DunceSee" "told" "LDunceSee$Roll;") (by decide +kernel)
  have f_82 := hK.nest (A := ([.ref x0, .int p, .int w] : List Value).toArray) 11 rfl
  have f_86 := hK.nest (A := ([.ref x0, .int p, .int w] : List Value).toArray) 13 rfl
  have f_89 := hK.nest (A := ([.ref x0, .int p, .int w] : List Value).toArray) 15 rfl
  have inX4 : ∀ w ∈ wsX40, w ∈ wsX4_ofPupil := fun w h => List.mem_cons_of_mem _ (List.mem_append_left _ (List.mem_append_right _ h))
  have inX2 : ∀ w ∈ wsX20, w ∈ wsX4_ofPupil := fun w h => List.mem_cons_of_mem _ (List.mem_append_right _ h)
  have hD5 : T.D ≤ 5 := hok.1
  have hP4 : T.P ≤ 4 := hok.2
  refine lv_aload_n hx hb dX4_ofPupil_0 rfl (lv_at hl 0 rfl) ?_
  refine lv_iload_n hx hb dX4_ofPupil_1 rfl (lv_at hl 1 rfl) ?_
  refine zk_callVi (As := [.int p]) (rest := []) (bI (isP T.P p)) ⟨hx, hb, hml, hown, hts⟩ hK hP [0, 1, 2, 3, 4, 5, 6, 7] rfl (c_isPupil l D cI x0 x1 x2 x3 x4 x5 x6 x7 x8 x9 x10 x11 x12 x13 x14 x15 x16 x17 x18 x19 x20 x21 x22 x23 x24 x25 x26 x27 x28 x29 x30 T ts tr fl p ) (cwV 1 hts gX4_ofPupil_X4_isPupil rfl rfl rfl hdX4_isPupil ⟨Nat.le_of_ble_eq_true rfl, Nat.le_of_ble_eq_true rfl⟩) rfl rfl rfl hl.1 rfl (Nat.le_of_ble_eq_true rfl) dX4_ofPupil_2 ⟨Nat.le_of_ble_eq_true rfl, Nat.le_of_ble_eq_true rfl⟩ ?_
  refine zk_ifneB (tgt := 10) hx hb dX4_ofPupil_5 (by decide) (fun c_1 => ?_) (fun c_1 => ?_)
  · obtain ⟨j, hj, e_j, g_j⟩ := isP_of (by omega) c_1
    rw [e_j] at hl
    refine lv_iload_n hx hb dX4_ofPupil_10 rfl (lv_at hl 2 rfl) ?_
    by_cases c_2 : w = nI 0
    · refine lv_tableIn (tgt := 40) hx hb dX4_ofPupil_11 (by rw [c_2]; decide) (by rw [c_2]; decide) (by rw [c_2]; try rfl) (by decide) ?_
      refine lv_aload_n hx hb dX4_ofPupil_40 rfl (lv_at hl 0 rfl) ?_
      refine va_get (D := D) (ci := 4) (v := .ref x1) (C := RX4) (T := TX4) (N := 7) hx hb hts inX4 hown hK.1 hP 0 rfl rfl 0 (by decide) f_12 (fun _ h9 => h9) rfl dX4_ofPupil_41 ?_
      refine va_getN (D := D) (ci := 2) (v := .ref x3) (C := RX2) (T := TX2) (N := 10) hx hb hts inX2 hown hK.1 hP 1 rfl rfl 5 (by decide) f_82 (fun _ h9 => h9) rfl dX4_ofPupil_44 ?_
      refine lv_iload_n hx hb dX4_ofPupil_47 rfl (lv_at hl 1 rfl) ?_
      refine zk_iald hx hb hK hP 3 rfl (by omega) (by decide) dX4_ofPupil_48 ?_
      exact zk_retS hx hb hr (by unfold ofPupilF; rw [c_1, g_j]; rw [if_pos rfl, if_pos c_2]) dX4_ofPupil_49 hlocks
    by_cases c_3 : w = nI 1
    · refine lv_tableIn (tgt := 50) hx hb dX4_ofPupil_11 (by rw [c_3]; decide) (by rw [c_3]; decide) (by rw [c_3]; try rfl) (by decide) ?_
      refine lv_aload_n hx hb dX4_ofPupil_50 rfl (lv_at hl 0 rfl) ?_
      refine va_get (D := D) (ci := 4) (v := .ref x1) (C := RX4) (T := TX4) (N := 7) hx hb hts inX4 hown hK.1 hP 0 rfl rfl 0 (by decide) f_12 (fun _ h9 => h9) rfl dX4_ofPupil_51 ?_
      refine va_getN (D := D) (ci := 2) (v := .ref x4) (C := RX2) (T := TX2) (N := 10) hx hb hts inX2 hown hK.1 hP 1 rfl rfl 6 (by decide) f_86 (fun _ h9 => h9) rfl dX4_ofPupil_54 ?_
      refine lv_iload_n hx hb dX4_ofPupil_57 rfl (lv_at hl 1 rfl) ?_
      refine zk_iald hx hb hK hP 4 rfl (by omega) (by decide) dX4_ofPupil_58 ?_
      exact zk_retS hx hb hr (by unfold ofPupilF; rw [c_1, g_j]; rw [if_pos rfl, if_neg c_2, if_pos c_3]) dX4_ofPupil_59 hlocks
    by_cases c_4 : w = nI 2
    · refine lv_tableIn (tgt := 60) hx hb dX4_ofPupil_11 (by rw [c_4]; decide) (by rw [c_4]; decide) (by rw [c_4]; try rfl) (by decide) ?_
      refine lv_aload_n hx hb dX4_ofPupil_60 rfl (lv_at hl 0 rfl) ?_
      refine va_get (D := D) (ci := 4) (v := .ref x1) (C := RX4) (T := TX4) (N := 7) hx hb hts inX4 hown hK.1 hP 0 rfl rfl 0 (by decide) f_12 (fun _ h9 => h9) rfl dX4_ofPupil_61 ?_
      refine va_getN (D := D) (ci := 2) (v := .ref x5) (C := RX2) (T := TX2) (N := 10) hx hb hts inX2 hown hK.1 hP 1 rfl rfl 7 (by decide) f_89 (fun _ h9 => h9) rfl dX4_ofPupil_64 ?_
      refine lv_iload_n hx hb dX4_ofPupil_67 rfl (lv_at hl 1 rfl) ?_
      refine zk_iald hx hb hK hP 5 rfl (by omega) (by decide) dX4_ofPupil_68 ?_
      exact zk_retS hx hb hr (by unfold ofPupilF; rw [c_1, g_j]; rw [if_pos rfl, if_neg c_2, if_neg c_3, if_pos c_4]) dX4_ofPupil_69 hlocks
    by_cases c_5 : w = nI 3
    · refine lv_tableIn (tgt := 70) hx hb dX4_ofPupil_11 (by rw [c_5]; decide) (by rw [c_5]; decide) (by rw [c_5]; try rfl) (by decide) ?_
      refine lv_aload_n hx hb dX4_ofPupil_70 rfl (lv_at hl 0 rfl) ?_
      refine va_get (D := D) (ci := 4) (v := .ref x1) (C := RX4) (T := TX4) (N := 7) hx hb hts inX4 hown hK.1 hP 0 rfl rfl 0 (by decide) f_12 (fun _ h9 => h9) rfl dX4_ofPupil_71 ?_
      refine lv_iload_n hx hb dX4_ofPupil_74 rfl (lv_at hl 1 rfl) ?_
      refine zk_callVi (As := [.int (nI j)]) (rest := []) (hrs T j) ⟨hx, hb, hml, hown, hts⟩ hK hP [1, 2, 3, 4, 5, 6, 7] rfl (c_hoursOfDay l D cI x1 x2 x3 x4 x5 x6 x7 T ts j hok (by omega)) (cwV 1 hts gX4_ofPupil_X2_hoursOfDay rfl rfl rfl hdX2_hoursOfDay ⟨Nat.le_of_ble_eq_true rfl, Nat.le_of_ble_eq_true rfl⟩) rfl rfl rfl hl.1 rfl (Nat.le_of_ble_eq_true rfl) dX4_ofPupil_75 ⟨Nat.le_of_ble_eq_true rfl, Nat.le_of_ble_eq_true rfl⟩ ?_
      exact zk_retS hx hb hr (by unfold ofPupilF; rw [c_1, g_j]; rw [if_pos rfl, if_neg c_2, if_neg c_3, if_neg c_4, if_pos c_5]) dX4_ofPupil_78 hlocks
    refine lv_tableOut (tgt := 79) hx hb dX4_ofPupil_11 (by have := lv_neT c_2 (show (nI 0).toInt = 0 from by decide); have := lv_neT c_3 (show (nI 1).toInt = 1 from by decide); have := lv_neT c_4 (show (nI 2).toInt = 2 from by decide); have := lv_neT c_5 (show (nI 3).toInt = 3 from by decide); omega) (by decide) ?_
    refine lv_bipush (v := (-2)) hx hb dX4_ofPupil_79 (by decide) ?_
    exact zk_retS hx hb hr (by unfold ofPupilF; rw [c_1, g_j]; rw [if_pos rfl, if_neg c_2, if_neg c_3, if_neg c_4, if_neg c_5]) dX4_ofPupil_81 hlocks
  · refine lv_iconst (v := (-1)) hx hb dX4_ofPupil_8 (by decide) ?_
    exact zk_retS hx hb hr (by unfold ofPupilF; rw [c_1]; rfl) dX4_ofPupil_9 hlocks
set_option maxHeartbeats 4000000 in
set_option maxRecDepth 100000 in
theorem cx_hard (l : Launch) (D : va_G) (cI : ClassId) (x0 : Nat) (x1 : Nat) (x2 : Nat) (x3 : Nat) (x4 : Nat) (x5 : Nat) (x6 : Nat) (x7 : Nat) (x8 : Nat) (x9 : Nat) (x10 : Nat) (x11 : Nat) (x12 : Nat) (x13 : Nat) (x14 : Nat) (x15 : Nat) (x16 : Nat) (x17 : Nat) (x18 : Nat) (x19 : Nat) (x20 : Nat) (x21 : Nat) (x22 : Nat) (x23 : Nat) (x24 : Nat) (x25 : Nat) (x26 : Nat) (x27 : Nat) (x28 : Nat) (x29 : Nat) (x30 : Nat) (T : YS) (ts : Nat → Int32) (tr : Int32) (fl : Int32) (p : Int32) (hok : OkY T) : Met l yX4_hard wsX4_hard ({ frames := 1, cells := 0, slots := 0, locals := 21 }) (PS D cI [.ref x0, .int p] (wXo x0 x1 x8 x15 x23 x27 tr fl ++ wRoll cI x1 x2 x3 x4 x5 x6 x7 T ts)) (vp_Si (fun r => r = hardF T p)) 0 0 (fun _ => False) := by
  refine zk_S (cc := cX4_hard) (maxL := 2) (ret := (some .int)) (by decide) rfl (Nat.le_of_ble_eq_true rfl) ?_
  intro pX eX sX mX bX tX cX hx hb hr hlocks hml hown hts hP hK ls hl
  have hl : lv_has ls 2 [(0, .ref x0), (1, .int p)] := hl
  have hP : va_P D vwCl [(x0, .inr (4, [.ref x1, .ref x8, .ref x15, .ref x23, .ref x27, .int tr, .int fl])), (x1, .inr (2, [.int (nI T.D), .int (nI T.P), .int T.db, .int T.rm, .ref x2, .ref x3, .ref x4, .ref x5, .ref x6, .ref x7])), (x2, .inl (cI, 5, .inl T.hard)), (x3, .inl (cI, 4, .inl T.kind)), (x4, .inl (cI, 4, .inl T.wit)), (x5, .inl (cI, 4, .inl T.pat)), (x6, .inl (cI, 4, .inl T.pret)), (x7, .inl (cI, 5, .inl ts))] sX.heap := hP
  have f_12 := hts (.fieldLink RX4 12 "DunceSee" "told" "LDunceSee$Roll;") (by decide +kernel)
  have f_98 := hK.nest (A := ([.ref x0, .int p] : List Value).toArray) 9 rfl
  have inX4 : ∀ w ∈ wsX40, w ∈ wsX4_hard := fun w h => List.mem_cons_of_mem _ (List.mem_append_left _ (List.mem_append_right _ h))
  have inX2 : ∀ w ∈ wsX20, w ∈ wsX4_hard := fun w h => List.mem_cons_of_mem _ (List.mem_append_right _ h)
  have hD5 : T.D ≤ 5 := hok.1
  have hP4 : T.P ≤ 4 := hok.2
  refine lv_aload_n hx hb dX4_hard_0 rfl (lv_at hl 0 rfl) ?_
  refine lv_iload_n hx hb dX4_hard_1 rfl (lv_at hl 1 rfl) ?_
  refine zk_callVi (As := [.int p]) (rest := []) (bI (isP T.D p)) ⟨hx, hb, hml, hown, hts⟩ hK hP [0, 1, 2, 3, 4, 5, 6, 7] rfl (c_isDay l D cI x0 x1 x2 x3 x4 x5 x6 x7 x8 x9 x10 x11 x12 x13 x14 x15 x16 x17 x18 x19 x20 x21 x22 x23 x24 x25 x26 x27 x28 x29 x30 T ts tr fl p ) (cwV 1 hts gX4_hard_X4_isDay rfl rfl rfl hdX4_isDay ⟨Nat.le_of_ble_eq_true rfl, Nat.le_of_ble_eq_true rfl⟩) rfl rfl rfl hl.1 rfl (Nat.le_of_ble_eq_true rfl) dX4_hard_2 ⟨Nat.le_of_ble_eq_true rfl, Nat.le_of_ble_eq_true rfl⟩ ?_
  refine zk_ifeqB (tgt := 20) hx hb dX4_hard_5 (by decide) (fun c_1 => ?_) (fun c_1 => ?_)
  · refine lv_iconst (v := (-1)) hx hb dX4_hard_20 (by decide) ?_
    exact zk_retS hx hb hr (by unfold hardF; rw [c_1]; rfl) dX4_hard_21 hlocks
  · obtain ⟨j, hj, e_j, g_j⟩ := isP_of (by omega) c_1
    rw [e_j] at hl
    refine lv_aload_n hx hb dX4_hard_8 rfl (lv_at hl 0 rfl) ?_
    refine va_get (D := D) (ci := 4) (v := .ref x1) (C := RX4) (T := TX4) (N := 7) hx hb hts inX4 hown hK.1 hP 0 rfl rfl 0 (by decide) f_12 (fun _ h9 => h9) rfl dX4_hard_9 ?_
    refine va_getN (D := D) (ci := 2) (v := .ref x2) (C := RX2) (T := TX2) (N := 10) hx hb hts inX2 hown hK.1 hP 1 rfl rfl 4 (by decide) f_98 (fun _ h9 => h9) rfl dX4_hard_12 ?_
    refine lv_iload_n hx hb dX4_hard_15 rfl (lv_at hl 1 rfl) ?_
    refine zk_iald hx hb hK hP 2 rfl (by omega) (by decide) dX4_hard_16 ?_
    refine lv_goto (tgt := 21) hx hb dX4_hard_17 (by decide) ?_
    exact zk_retS hx hb hr (by unfold hardF; rw [c_1, g_j]; rfl) dX4_hard_21 hlocks
set_option maxHeartbeats 4000000 in
set_option maxRecDepth 100000 in
theorem cx_would (l : Launch) (D : va_G) (cI : ClassId) (x0 : Nat) (x1 : Nat) (x2 : Nat) (x3 : Nat) (x4 : Nat) (x5 : Nat) (x6 : Nat) (x7 : Nat) (x8 : Nat) (x9 : Nat) (x10 : Nat) (x11 : Nat) (x12 : Nat) (x13 : Nat) (x14 : Nat) (x15 : Nat) (x16 : Nat) (x17 : Nat) (x18 : Nat) (x19 : Nat) (x20 : Nat) (x21 : Nat) (x22 : Nat) (x23 : Nat) (x24 : Nat) (x25 : Nat) (x26 : Nat) (x27 : Nat) (x28 : Nat) (x29 : Nat) (x30 : Nat) (T : YS) (ts : Nat → Int32) (tr : Int32) (fl : Int32) (p : Int32) (d : Int32) (b : Bool) (hok : OkY T) : Met l yX4_would wsX4_would ({ frames := 1, cells := 0, slots := 0, locals := 24 }) (PS D cI [.ref x0, .int p, .int d, .int (bI b)] (wXo x0 x1 x8 x15 x23 x27 tr fl ++ wRoll cI x1 x2 x3 x4 x5 x6 x7 T ts)) (vp_Si (fun r => r = wouldF T p d b)) 0 0 (fun _ => False) := by
  refine zk_S (cc := cX4_would) (maxL := 4) (ret := (some .int)) (by decide) rfl (Nat.le_of_ble_eq_true rfl) ?_
  intro pX eX sX mX bX tX cX hx hb hr hlocks hml hown hts hP hK ls hl
  have hl : lv_has ls 4 [(0, .ref x0), (1, .int p), (2, .int d), (3, .int (bI b))] := hl
  have hP : va_P D vwCl [(x0, .inr (4, [.ref x1, .ref x8, .ref x15, .ref x23, .ref x27, .int tr, .int fl])), (x1, .inr (2, [.int (nI T.D), .int (nI T.P), .int T.db, .int T.rm, .ref x2, .ref x3, .ref x4, .ref x5, .ref x6, .ref x7])), (x2, .inl (cI, 5, .inl T.hard)), (x3, .inl (cI, 4, .inl T.kind)), (x4, .inl (cI, 4, .inl T.wit)), (x5, .inl (cI, 4, .inl T.pat)), (x6, .inl (cI, 4, .inl T.pret)), (x7, .inl (cI, 5, .inl ts))] sX.heap := hP
  have f_12 := hts (.fieldLink RX4 12 "DunceSee" "told" "LDunceSee$Roll;") (by decide +kernel)
  have inX4 : ∀ w ∈ wsX40, w ∈ wsX4_would := fun w h => List.mem_cons_of_mem _ (List.mem_append_left _ (List.mem_append_right _ h))
  have inX2 : ∀ w ∈ wsX20, w ∈ wsX4_would := fun w h => List.mem_cons_of_mem _ (List.mem_append_right _ h)
  have hD5 : T.D ≤ 5 := hok.1
  have hP4 : T.P ≤ 4 := hok.2
  refine lv_aload_n hx hb dX4_would_0 rfl (lv_at hl 0 rfl) ?_
  refine lv_iload_n hx hb dX4_would_1 rfl (lv_at hl 1 rfl) ?_
  refine zk_callVi (As := [.int p]) (rest := []) (bI (isP T.P p)) ⟨hx, hb, hml, hown, hts⟩ hK hP [0, 1, 2, 3, 4, 5, 6, 7] rfl (c_isPupil l D cI x0 x1 x2 x3 x4 x5 x6 x7 x8 x9 x10 x11 x12 x13 x14 x15 x16 x17 x18 x19 x20 x21 x22 x23 x24 x25 x26 x27 x28 x29 x30 T ts tr fl p ) (cwV 1 hts gX4_would_X4_isPupil rfl rfl rfl hdX4_isPupil ⟨Nat.le_of_ble_eq_true rfl, Nat.le_of_ble_eq_true rfl⟩) rfl rfl rfl hl.1 rfl (Nat.le_of_ble_eq_true rfl) dX4_would_2 ⟨Nat.le_of_ble_eq_true rfl, Nat.le_of_ble_eq_true rfl⟩ ?_
  refine zk_ifeqB (tgt := 16) hx hb dX4_would_5 (by decide) (fun c_1 => ?_) (fun c_1 => ?_)
  · refine lv_iconst (v := (-1)) hx hb dX4_would_16 (by decide) ?_
    exact zk_retS hx hb hr (by simp [wouldF, c_1]) dX4_would_17 hlocks
  · obtain ⟨j, hj, e_j, g_j⟩ := isP_of (by omega) c_1
    rw [e_j] at hl
    refine lv_aload_n hx hb dX4_would_8 rfl (lv_at hl 0 rfl) ?_
    refine lv_iload_n hx hb dX4_would_9 rfl (lv_at hl 2 rfl) ?_
    refine zk_callVi (As := [.int d]) (rest := []) (bI (isP T.D d)) ⟨hx, hb, hml, hown, hts⟩ hK hP [0, 1, 2, 3, 4, 5, 6, 7] rfl (c_isDay l D cI x0 x1 x2 x3 x4 x5 x6 x7 x8 x9 x10 x11 x12 x13 x14 x15 x16 x17 x18 x19 x20 x21 x22 x23 x24 x25 x26 x27 x28 x29 x30 T ts tr fl d ) (cwV 1 hts gX4_would_X4_isDay rfl rfl rfl hdX4_isDay ⟨Nat.le_of_ble_eq_true rfl, Nat.le_of_ble_eq_true rfl⟩) rfl rfl rfl hl.1 rfl (Nat.le_of_ble_eq_true rfl) dX4_would_10 ⟨Nat.le_of_ble_eq_true rfl, Nat.le_of_ble_eq_true rfl⟩ ?_
    refine zk_ifneB (tgt := 18) hx hb dX4_would_13 (by decide) (fun c_2 => ?_) (fun c_2 => ?_)
    · obtain ⟨i, hi, e_i, g_i⟩ := isP_of (by omega) c_2
      rw [e_i] at hl
      refine lv_aload_n hx hb dX4_would_18 rfl (lv_at hl 0 rfl) ?_
      refine va_get (D := D) (ci := 4) (v := .ref x1) (C := RX4) (T := TX4) (N := 7) hx hb hts inX4 hown hK.1 hP 0 rfl rfl 0 (by decide) f_12 (fun _ h9 => h9) rfl dX4_would_19 ?_
      refine lv_iload_n hx hb dX4_would_22 rfl (lv_at hl 1 rfl) ?_
      refine lv_iload_n hx hb dX4_would_23 rfl (lv_at hl 2 rfl) ?_
      refine lv_iload_n hx hb dX4_would_24 rfl (lv_at hl 3 rfl) ?_
      refine zk_callVi (As := [.int (nI j), .int (nI i), .int (bI b)]) (rest := []) (bI (wdB (T.wit j) (T.hard i) T.db b)) ⟨hx, hb, hml, hown, hts⟩ hK hP [1, 2, 3, 4, 5, 6, 7] rfl (c_wouldStand l D cI x1 x2 x3 x4 x5 x6 x7 T ts j i b hok (by omega) (by omega)) (cwV 3 hts gX4_would_X2_wouldStand rfl rfl rfl hdX2_wouldStand ⟨Nat.le_of_ble_eq_true rfl, Nat.le_of_ble_eq_true rfl⟩) rfl rfl rfl hl.1 rfl (Nat.le_of_ble_eq_true rfl) dX4_would_25 ⟨Nat.le_of_ble_eq_true rfl, Nat.le_of_ble_eq_true rfl⟩ ?_
      refine zk_ifeqB (tgt := 35) hx hb dX4_would_28 (by decide) (fun c_3 => ?_) (fun c_3 => ?_)
      · refine lv_iconst (v := nI 0) hx hb dX4_would_35 (by decide) ?_
        exact zk_retS hx hb hr (by unfold wouldF; rw [c_1, c_2, g_j, g_i, c_3]; rfl) dX4_would_36 hlocks
      · refine lv_iconst (v := nI 1) hx hb dX4_would_31 (by decide) ?_
        refine lv_goto (tgt := 36) hx hb dX4_would_32 (by decide) ?_
        exact zk_retS hx hb hr (by unfold wouldF; rw [c_1, c_2, g_j, g_i, c_3]; rfl) dX4_would_36 hlocks
    · refine lv_iconst (v := (-1)) hx hb dX4_would_16 (by decide) ?_
      exact zk_retS hx hb hr (by simp [wouldF, c_1, g_j, c_2]) dX4_would_17 hlocks
set_option maxHeartbeats 4000000 in
set_option maxRecDepth 100000 in
theorem cx_stand (l : Launch) (D : va_G) (cI : ClassId) (x0 : Nat) (x1 : Nat) (x2 : Nat) (x3 : Nat) (x4 : Nat) (x5 : Nat) (x6 : Nat) (x7 : Nat) (x8 : Nat) (x9 : Nat) (x10 : Nat) (x11 : Nat) (x12 : Nat) (x13 : Nat) (x14 : Nat) (x15 : Nat) (x16 : Nat) (x17 : Nat) (x18 : Nat) (x19 : Nat) (x20 : Nat) (x21 : Nat) (x22 : Nat) (x23 : Nat) (x24 : Nat) (x25 : Nat) (x26 : Nat) (x27 : Nat) (x28 : Nat) (x29 : Nat) (x30 : Nat) (T : YS) (ts : Nat → Int32) (tr : Int32) (fl : Int32) (p : Int32) (hok : OkY T) : Met l yX4_stand wsX4_stand ({ frames := 3, cells := 0, slots := 0, locals := 71 }) (PS D cI [.ref x0, .int p] (wXo x0 x1 x8 x15 x23 x27 tr fl ++ wRoll cI x1 x2 x3 x4 x5 x6 x7 T ts)) (vp_Si (fun r => r = standF T p)) 0 0 (fun _ => False) := by
  refine zk_S (cc := cX4_stand) (maxL := 2) (ret := (some .int)) (by decide) rfl (Nat.le_of_ble_eq_true rfl) ?_
  intro pX eX sX mX bX tX cX hx hb hr hlocks hml hown hts hP hK ls hl
  have hl : lv_has ls 2 [(0, .ref x0), (1, .int p)] := hl
  have hP : va_P D vwCl [(x0, .inr (4, [.ref x1, .ref x8, .ref x15, .ref x23, .ref x27, .int tr, .int fl])), (x1, .inr (2, [.int (nI T.D), .int (nI T.P), .int T.db, .int T.rm, .ref x2, .ref x3, .ref x4, .ref x5, .ref x6, .ref x7])), (x2, .inl (cI, 5, .inl T.hard)), (x3, .inl (cI, 4, .inl T.kind)), (x4, .inl (cI, 4, .inl T.wit)), (x5, .inl (cI, 4, .inl T.pat)), (x6, .inl (cI, 4, .inl T.pret)), (x7, .inl (cI, 5, .inl ts))] sX.heap := hP
  have f_12 := hts (.fieldLink RX4 12 "DunceSee" "told" "LDunceSee$Roll;") (by decide +kernel)
  have inX4 : ∀ w ∈ wsX40, w ∈ wsX4_stand := fun w h => List.mem_cons_of_mem _ (List.mem_append_left _ (List.mem_append_right _ h))
  have inX2 : ∀ w ∈ wsX20, w ∈ wsX4_stand := fun w h => List.mem_cons_of_mem _ (List.mem_append_right _ h)
  have hD5 : T.D ≤ 5 := hok.1
  have hP4 : T.P ≤ 4 := hok.2
  refine lv_aload_n hx hb dX4_stand_0 rfl (lv_at hl 0 rfl) ?_
  refine lv_iload_n hx hb dX4_stand_1 rfl (lv_at hl 1 rfl) ?_
  refine zk_callVi (As := [.int p]) (rest := []) (bI (isP T.D p)) ⟨hx, hb, hml, hown, hts⟩ hK hP [0, 1, 2, 3, 4, 5, 6, 7] rfl (c_isDay l D cI x0 x1 x2 x3 x4 x5 x6 x7 x8 x9 x10 x11 x12 x13 x14 x15 x16 x17 x18 x19 x20 x21 x22 x23 x24 x25 x26 x27 x28 x29 x30 T ts tr fl p ) (cwV 1 hts gX4_stand_X4_isDay rfl rfl rfl hdX4_isDay ⟨Nat.le_of_ble_eq_true rfl, Nat.le_of_ble_eq_true rfl⟩) rfl rfl rfl hl.1 rfl (Nat.le_of_ble_eq_true rfl) dX4_stand_2 ⟨Nat.le_of_ble_eq_true rfl, Nat.le_of_ble_eq_true rfl⟩ ?_
  refine zk_ifeqB (tgt := 19) hx hb dX4_stand_5 (by decide) (fun c_1 => ?_) (fun c_1 => ?_)
  · refine lv_iconst (v := (-1)) hx hb dX4_stand_19 (by decide) ?_
    exact zk_retS hx hb hr (by unfold standF; rw [c_1]; rfl) dX4_stand_20 hlocks
  · obtain ⟨j, hj, e_j, g_j⟩ := isP_of (by omega) c_1
    rw [e_j] at hl
    refine lv_aload_n hx hb dX4_stand_8 rfl (lv_at hl 0 rfl) ?_
    refine va_get (D := D) (ci := 4) (v := .ref x1) (C := RX4) (T := TX4) (N := 7) hx hb hts inX4 hown hK.1 hP 0 rfl rfl 0 (by decide) f_12 (fun _ h9 => h9) rfl dX4_stand_9 ?_
    refine lv_iload_n hx hb dX4_stand_12 rfl (lv_at hl 1 rfl) ?_
    refine zk_callVi (As := [.int (nI j)]) (rest := []) (nI (msk T.P (std T j))) ⟨hx, hb, hml, hown, hts⟩ hK hP [1, 2, 3, 4, 5, 6, 7] rfl (c_whoStands l D cI x1 x2 x3 x4 x5 x6 x7 T ts j hok (by omega)) (cwV 1 hts gX4_stand_X2_whoStands rfl rfl rfl hdX2_whoStands ⟨Nat.le_of_ble_eq_true rfl, Nat.le_of_ble_eq_true rfl⟩) rfl rfl rfl hl.1 rfl (Nat.le_of_ble_eq_true rfl) dX4_stand_13 ⟨Nat.le_of_ble_eq_true rfl, Nat.le_of_ble_eq_true rfl⟩ ?_
    refine lv_goto (tgt := 20) hx hb dX4_stand_16 (by decide) ?_
    exact zk_retS hx hb hr (by unfold standF; rw [c_1, g_j]; rfl) dX4_stand_20 hlocks
set_option maxHeartbeats 4000000 in
set_option maxRecDepth 100000 in
theorem cx_trace (l : Launch) (D : va_G) (cI : ClassId) (x0 : Nat) (x1 : Nat) (x2 : Nat) (x3 : Nat) (x4 : Nat) (x5 : Nat) (x6 : Nat) (x7 : Nat) (x8 : Nat) (x9 : Nat) (x10 : Nat) (x11 : Nat) (x12 : Nat) (x13 : Nat) (x14 : Nat) (x15 : Nat) (x16 : Nat) (x17 : Nat) (x18 : Nat) (x19 : Nat) (x20 : Nat) (x21 : Nat) (x22 : Nat) (x23 : Nat) (x24 : Nat) (x25 : Nat) (x26 : Nat) (x27 : Nat) (x28 : Nat) (x29 : Nat) (x30 : Nat) (tr : Int32) (fl : Int32)  : Met l yX4_trace wsX4_trace ({ frames := 0, cells := 0, slots := 0, locals := 0 }) (PS D cI [.ref x0] (wXo x0 x1 x8 x15 x23 x27 tr fl)) (vp_Si (fun r => r = tr)) 0 0 (fun _ => False) := by
  refine zk_S (cc := cX4_trace) (maxL := 1) (ret := (some .int)) (by decide) rfl (Nat.le_of_ble_eq_true rfl) ?_
  intro pX eX sX mX bX tX cX hx hb hr hlocks hml hown hts hP hK ls hl
  have hl : lv_has ls 1 [(0, .ref x0)] := hl
  have hP : va_P D vwCl [(x0, .inr (4, [.ref x1, .ref x8, .ref x15, .ref x23, .ref x27, .int tr, .int fl]))] sX.heap := hP
  have f_218 := hts (.fieldLink RX4 218 "DunceSee" "trace" "I") (by decide +kernel)
  have inX4 : ∀ w ∈ wsX40, w ∈ wsX4_trace := fun w h => List.mem_cons_of_mem _ (List.mem_append_right _ h)
  refine lv_aload_n hx hb dX4_trace_0 rfl (lv_at hl 0 rfl) ?_
  refine va_get (D := D) (ci := 4) (v := .int tr) (C := RX4) (T := TX4) (N := 7) hx hb hts inX4 hown hK.1 hP 0 rfl rfl 5 (by decide) f_218 (fun _ h9 => h9) rfl dX4_trace_1 ?_
  exact zk_retS hx hb hr (rfl) dX4_trace_4 hlocks
set_option maxHeartbeats 4000000 in
set_option maxRecDepth 100000 in
theorem cx_fault (l : Launch) (D : va_G) (cI : ClassId) (x0 : Nat) (x1 : Nat) (x2 : Nat) (x3 : Nat) (x4 : Nat) (x5 : Nat) (x6 : Nat) (x7 : Nat) (x8 : Nat) (x9 : Nat) (x10 : Nat) (x11 : Nat) (x12 : Nat) (x13 : Nat) (x14 : Nat) (x15 : Nat) (x16 : Nat) (x17 : Nat) (x18 : Nat) (x19 : Nat) (x20 : Nat) (x21 : Nat) (x22 : Nat) (x23 : Nat) (x24 : Nat) (x25 : Nat) (x26 : Nat) (x27 : Nat) (x28 : Nat) (x29 : Nat) (x30 : Nat) (tr : Int32) (fl : Int32)  : Met l yX4_fault wsX4_fault ({ frames := 0, cells := 0, slots := 0, locals := 0 }) (PS D cI [.ref x0] (wXo x0 x1 x8 x15 x23 x27 tr fl)) (vp_Si (fun r => r = fl)) 0 0 (fun _ => False) := by
  refine zk_S (cc := cX4_fault) (maxL := 1) (ret := (some .int)) (by decide) rfl (Nat.le_of_ble_eq_true rfl) ?_
  intro pX eX sX mX bX tX cX hx hb hr hlocks hml hown hts hP hK ls hl
  have hl : lv_has ls 1 [(0, .ref x0)] := hl
  have hP : va_P D vwCl [(x0, .inr (4, [.ref x1, .ref x8, .ref x15, .ref x23, .ref x27, .int tr, .int fl]))] sX.heap := hP
  have f_42 := hts (.fieldLink RX4 42 "DunceSee" "fault" "I") (by decide +kernel)
  have inX4 : ∀ w ∈ wsX40, w ∈ wsX4_fault := fun w h => List.mem_cons_of_mem _ (List.mem_append_right _ h)
  refine lv_aload_n hx hb dX4_fault_0 rfl (lv_at hl 0 rfl) ?_
  refine va_get (D := D) (ci := 4) (v := .int fl) (C := RX4) (T := TX4) (N := 7) hx hb hts inX4 hown hK.1 hP 0 rfl rfl 6 (by decide) f_42 (fun _ h9 => h9) rfl dX4_fault_1 ?_
  exact zk_retS hx hb hr (rfl) dX4_fault_4 hlocks
set_option maxHeartbeats 4000000 in
set_option maxRecDepth 100000 in
theorem cx_many (l : Launch) (D : va_G) (cI : ClassId) (x0 : Nat) (x1 : Nat) (x2 : Nat) (x3 : Nat) (x4 : Nat) (x5 : Nat) (x6 : Nat) (x7 : Nat) (x8 : Nat) (x9 : Nat) (x10 : Nat) (x11 : Nat) (x12 : Nat) (x13 : Nat) (x14 : Nat) (x15 : Nat) (x16 : Nat) (x17 : Nat) (x18 : Nat) (x19 : Nat) (x20 : Nat) (x21 : Nat) (x22 : Nat) (x23 : Nat) (x24 : Nat) (x25 : Nat) (x26 : Nat) (x27 : Nat) (x28 : Nat) (x29 : Nat) (x30 : Nat) (T : YS) (ts : Nat → Int32) (ct : Nat) (wh : Nat → Nat) (wn : Nat → Nat) (hs : Nat → Int32) (tr : Int32) (fl : Int32) (w : Int32)  : Met l yX4_many wsX4_many ({ frames := 0, cells := 0, slots := 0, locals := 0 }) (PS D cI [.ref x0, .int w] (wXo x0 x1 x8 x15 x23 x27 tr fl ++ (wRoll cI x1 x2 x3 x4 x5 x6 x7 T ts ++ wRd cI x23 x24 x25 x26 ct wh wn hs))) (vp_Si (fun r => r = manyF T ct w)) 0 0 (fun _ => False) := by
  refine zk_S (cc := cX4_many) (maxL := 2) (ret := (some .int)) (by decide) rfl (Nat.le_of_ble_eq_true rfl) ?_
  intro pX eX sX mX bX tX cX hx hb hr hlocks hml hown hts hP hK ls hl
  have hl : lv_has ls 2 [(0, .ref x0), (1, .int w)] := hl
  have hP : va_P D vwCl [(x0, .inr (4, [.ref x1, .ref x8, .ref x15, .ref x23, .ref x27, .int tr, .int fl])), (x1, .inr (2, [.int (nI T.D), .int (nI T.P), .int T.db, .int T.rm, .ref x2, .ref x3, .ref x4, .ref x5, .ref x6, .ref x7])), (x2, .inl (cI, 5, .inl T.hard)), (x3, .inl (cI, 4, .inl T.kind)), (x4, .inl (cI, 4, .inl T.wit)), (x5, .inl (cI, 4, .inl T.pat)), (x6, .inl (cI, 4, .inl T.pret)), (x7, .inl (cI, 5, .inl ts)), (x23, .inr (1, [.ref x24, .ref x25, .ref x26, .int (nI ct)])), (x24, .inl (cI, 8, .inl (fun q9 => nI (wh q9)))), (x25, .inl (cI, 8, .inl (fun q9 => nI (wn q9)))), (x26, .inl (cI, 8, .inl hs))] sX.heap := hP
  have f_12 := hts (.fieldLink RX4 12 "DunceSee" "told" "LDunceSee$Roll;") (by decide +kernel)
  have f_76 := hK.nest (A := ([.ref x0, .int w] : List Value).toArray) 4 rfl
  have f_152 := hK.nest (A := ([.ref x0, .int w] : List Value).toArray) 2 rfl
  have f_108 := hK.nest (A := ([.ref x0, .int w] : List Value).toArray) 6 rfl
  have f_111 := hK.nest (A := ([.ref x0, .int w] : List Value).toArray) 8 rfl
  have f_31 := hts (.fieldLink RX4 31 "DunceSee" "readings" "LDunceSee$Readings;") (by decide +kernel)
  have f_155 := hK.nest (A := ([.ref x0, .int w] : List Value).toArray) 23 rfl
  have inX4 : ∀ w ∈ wsX40, w ∈ wsX4_many := fun w h => List.mem_cons_of_mem _ (List.mem_append_left _ (List.mem_append_left _ (List.mem_append_right _ h)))
  have inX2 : ∀ w ∈ wsX20, w ∈ wsX4_many := fun w h => List.mem_cons_of_mem _ (List.mem_append_left _ (List.mem_append_right _ h))
  have inX1 : ∀ w ∈ wsX10, w ∈ wsX4_many := fun w h => List.mem_cons_of_mem _ (List.mem_append_right _ h)
  refine lv_iload_n hx hb dX4_many_0 rfl (lv_at hl 1 rfl) ?_
  by_cases c_1 : w = nI 0
  · refine lv_tableIn (tgt := 36) hx hb dX4_many_1 (by rw [c_1]; decide) (by rw [c_1]; decide) (by rw [c_1]; try rfl) (by decide) ?_
    refine lv_aload_n hx hb dX4_many_36 rfl (lv_at hl 0 rfl) ?_
    refine va_get (D := D) (ci := 4) (v := .ref x1) (C := RX4) (T := TX4) (N := 7) hx hb hts inX4 hown hK.1 hP 0 rfl rfl 0 (by decide) f_12 (fun _ h9 => h9) rfl dX4_many_37 ?_
    refine va_getN (D := D) (ci := 2) (v := .int (nI T.P)) (C := RX2) (T := TX2) (N := 10) hx hb hts inX2 hown hK.1 hP 1 rfl rfl 1 (by decide) f_76 (fun _ h9 => h9) rfl dX4_many_40 ?_
    exact zk_retS hx hb hr (by unfold manyF; rw [if_pos c_1]) dX4_many_43 hlocks
  by_cases c_2 : w = nI 1
  · refine lv_tableIn (tgt := 44) hx hb dX4_many_1 (by rw [c_2]; decide) (by rw [c_2]; decide) (by rw [c_2]; try rfl) (by decide) ?_
    refine lv_aload_n hx hb dX4_many_44 rfl (lv_at hl 0 rfl) ?_
    refine va_get (D := D) (ci := 4) (v := .ref x1) (C := RX4) (T := TX4) (N := 7) hx hb hts inX4 hown hK.1 hP 0 rfl rfl 0 (by decide) f_12 (fun _ h9 => h9) rfl dX4_many_45 ?_
    refine va_getN (D := D) (ci := 2) (v := .int (nI T.D)) (C := RX2) (T := TX2) (N := 10) hx hb hts inX2 hown hK.1 hP 1 rfl rfl 0 (by decide) f_152 (fun _ h9 => h9) rfl dX4_many_48 ?_
    exact zk_retS hx hb hr (by unfold manyF; rw [if_neg c_1, if_pos c_2]) dX4_many_51 hlocks
  by_cases c_3 : w = nI 2
  · refine lv_tableIn (tgt := 52) hx hb dX4_many_1 (by rw [c_3]; decide) (by rw [c_3]; decide) (by rw [c_3]; try rfl) (by decide) ?_
    refine lv_aload_n hx hb dX4_many_52 rfl (lv_at hl 0 rfl) ?_
    refine va_get (D := D) (ci := 4) (v := .ref x1) (C := RX4) (T := TX4) (N := 7) hx hb hts inX4 hown hK.1 hP 0 rfl rfl 0 (by decide) f_12 (fun _ h9 => h9) rfl dX4_many_53 ?_
    refine va_getN (D := D) (ci := 2) (v := .int T.db) (C := RX2) (T := TX2) (N := 10) hx hb hts inX2 hown hK.1 hP 1 rfl rfl 2 (by decide) f_108 (fun _ h9 => h9) rfl dX4_many_56 ?_
    exact zk_retS hx hb hr (by unfold manyF; rw [if_neg c_1, if_neg c_2, if_pos c_3]) dX4_many_59 hlocks
  by_cases c_4 : w = nI 3
  · refine lv_tableIn (tgt := 60) hx hb dX4_many_1 (by rw [c_4]; decide) (by rw [c_4]; decide) (by rw [c_4]; try rfl) (by decide) ?_
    refine lv_aload_n hx hb dX4_many_60 rfl (lv_at hl 0 rfl) ?_
    refine va_get (D := D) (ci := 4) (v := .ref x1) (C := RX4) (T := TX4) (N := 7) hx hb hts inX4 hown hK.1 hP 0 rfl rfl 0 (by decide) f_12 (fun _ h9 => h9) rfl dX4_many_61 ?_
    refine va_getN (D := D) (ci := 2) (v := .int T.rm) (C := RX2) (T := TX2) (N := 10) hx hb hts inX2 hown hK.1 hP 1 rfl rfl 3 (by decide) f_111 (fun _ h9 => h9) rfl dX4_many_64 ?_
    exact zk_retS hx hb hr (by unfold manyF; rw [if_neg c_1, if_neg c_2, if_neg c_3, if_pos c_4]) dX4_many_67 hlocks
  by_cases c_5 : w = nI 4
  · refine lv_tableIn (tgt := 68) hx hb dX4_many_1 (by rw [c_5]; decide) (by rw [c_5]; decide) (by rw [c_5]; try rfl) (by decide) ?_
    refine lv_aload_n hx hb dX4_many_68 rfl (lv_at hl 0 rfl) ?_
    refine va_get (D := D) (ci := 4) (v := .ref x23) (C := RX4) (T := TX4) (N := 7) hx hb hts inX4 hown hK.1 hP 0 rfl rfl 3 (by decide) f_31 (fun _ h9 => h9) rfl dX4_many_69 ?_
    refine va_getN (D := D) (ci := 1) (v := .int (nI ct)) (C := RX1) (T := TX1) (N := 4) hx hb hts inX1 hown hK.1 hP 8 rfl rfl 3 (by decide) f_155 (fun _ h9 => h9) rfl dX4_many_72 ?_
    exact zk_retS hx hb hr (by unfold manyF; rw [if_neg c_1, if_neg c_2, if_neg c_3, if_neg c_4, if_pos c_5]) dX4_many_75 hlocks
  refine lv_tableOut (tgt := 76) hx hb dX4_many_1 (by have := lv_neT c_1 (show (nI 0).toInt = 0 from by decide); have := lv_neT c_2 (show (nI 1).toInt = 1 from by decide); have := lv_neT c_3 (show (nI 2).toInt = 2 from by decide); have := lv_neT c_4 (show (nI 3).toInt = 3 from by decide); have := lv_neT c_5 (show (nI 4).toInt = 4 from by decide); omega) (by decide) ?_
  refine lv_bipush (v := (-2)) hx hb dX4_many_76 (by decide) ?_
  exact zk_retS hx hb hr (by unfold manyF; rw [if_neg c_1, if_neg c_2, if_neg c_3, if_neg c_4, if_neg c_5]) dX4_many_78 hlocks
set_option maxHeartbeats 4000000 in
set_option maxRecDepth 100000 in
theorem cx_ask (l : Launch) (D : va_G) (cI : ClassId) (sz : Nat) (x0 : Nat) (x1 : Nat) (x2 : Nat) (x3 : Nat) (x4 : Nat) (x5 : Nat) (x6 : Nat) (x7 : Nat) (x8 : Nat) (x9 : Nat) (x10 : Nat) (x11 : Nat) (x12 : Nat) (x13 : Nat) (x14 : Nat) (x15 : Nat) (x16 : Nat) (x17 : Nat) (x18 : Nat) (x19 : Nat) (x20 : Nat) (x21 : Nat) (x22 : Nat) (x23 : Nat) (x24 : Nat) (x25 : Nat) (x26 : Nat) (x27 : Nat) (x28 : Nat) (x29 : Nat) (x30 : Nat) (T : YS) (ts : Nat → Int32) (tr : Int32) (fl : Int32) (p : Int32) (v : Int32) (hok : OkY T) : Met l yX4_ask wsX4_ask ({ frames := 1, cells := 0, slots := 0, locals := 21 }) (PQ D cI [.ref x0, .int p, .int v] (wXo x0 x1 x8 x15 x23 x27 tr fl ++ wRoll cI x1 x2 x3 x4 x5 x6 x7 T ts) sz) (QI (S := Unit) D (fun r _ => r = (askF T p v).1) (fun _ => wXo x0 x1 x8 x15 x23 x27 tr fl ++ wRoll cI x1 x2 x3 x4 x5 x6 x7 ((askF T p v).2) ts) (va_A (wXo x0 x1 x8 x15 x23 x27 tr fl ++ wRoll cI x1 x2 x3 x4 x5 x6 x7 T ts) sz)) 0 0 (va_A (wXo x0 x1 x8 x15 x23 x27 tr fl ++ wRoll cI x1 x2 x3 x4 x5 x6 x7 T ts) sz) := by
  refine zk_Q (QI (S := Unit) D (fun r _ => r = (askF T p v).1) (fun _ => wXo x0 x1 x8 x15 x23 x27 tr fl ++ wRoll cI x1 x2 x3 x4 x5 x6 x7 ((askF T p v).2) ts)) (cc := cX4_ask) (maxL := 4) (ret := (some .int)) (by decide) rfl (Nat.le_of_ble_eq_true rfl) ?_
  intro pX eX sX mX bX tX cX hx hb hr hlocks hml hown hmn hts hP hK A hA hD hS ls hl
  have hl : lv_has ls 4 [(0, .ref x0), (1, .int p), (2, .int v)] := hl
  have hP : va_P D vwCl [(x0, .inr (4, [.ref x1, .ref x8, .ref x15, .ref x23, .ref x27, .int tr, .int fl])), (x1, .inr (2, [.int (nI T.D), .int (nI T.P), .int T.db, .int T.rm, .ref x2, .ref x3, .ref x4, .ref x5, .ref x6, .ref x7])), (x2, .inl (cI, 5, .inl T.hard)), (x3, .inl (cI, 4, .inl T.kind)), (x4, .inl (cI, 4, .inl T.wit)), (x5, .inl (cI, 4, .inl T.pat)), (x6, .inl (cI, 4, .inl T.pret)), (x7, .inl (cI, 5, .inl ts))] sX.heap := hP
  have hD : va_D A [(x0, .inr (4, [.ref x1, .ref x8, .ref x15, .ref x23, .ref x27, .int tr, .int fl])), (x1, .inr (2, [.int (nI T.D), .int (nI T.P), .int T.db, .int T.rm, .ref x2, .ref x3, .ref x4, .ref x5, .ref x6, .ref x7])), (x2, .inl (cI, 5, .inl T.hard)), (x3, .inl (cI, 4, .inl T.kind)), (x4, .inl (cI, 4, .inl T.wit)), (x5, .inl (cI, 4, .inl T.pat)), (x6, .inl (cI, 4, .inl T.pret)), (x7, .inl (cI, 5, .inl ts))] := hD
  have f_12 := hts (.fieldLink RX4 12 "DunceSee" "told" "LDunceSee$Roll;") (by decide +kernel)
  have f_98 := hK.nest (A := ([.ref x0, .int p, .int v] : List Value).toArray) 9 rfl
  have inX4 : ∀ w ∈ wsX40, w ∈ wsX4_ask := fun w h => List.mem_cons_of_mem _ (List.mem_append_left _ (List.mem_append_right _ h))
  have inX2 : ∀ w ∈ wsX20, w ∈ wsX4_ask := fun w h => List.mem_cons_of_mem _ (List.mem_append_right _ h)
  have hD5 : T.D ≤ 5 := hok.1
  have hP4 : T.P ≤ 4 := hok.2
  refine lv_aload_n hx hb dX4_ask_0 rfl (lv_at hl 0 rfl) ?_
  refine lv_iload_n hx hb dX4_ask_1 rfl (lv_at hl 1 rfl) ?_
  refine zk_callVi (As := [.int p]) (rest := []) (bI (isP T.D p)) ⟨hx, hb, hml, hown, hts⟩ hK hP [0, 1, 2, 3, 4, 5, 6, 7] rfl (c_isDay l D cI x0 x1 x2 x3 x4 x5 x6 x7 x8 x9 x10 x11 x12 x13 x14 x15 x16 x17 x18 x19 x20 x21 x22 x23 x24 x25 x26 x27 x28 x29 x30 T ts tr fl p ) (cwV 1 hts gX4_ask_X4_isDay rfl rfl rfl hdX4_isDay ⟨Nat.le_of_ble_eq_true rfl, Nat.le_of_ble_eq_true rfl⟩) rfl rfl rfl hl.1 rfl (Nat.le_of_ble_eq_true rfl) dX4_ask_2 ⟨Nat.le_of_ble_eq_true rfl, Nat.le_of_ble_eq_true rfl⟩ ?_
  refine zk_ifneB (tgt := 10) hx hb dX4_ask_5 (by decide) (fun c_1 => ?_) (fun c_1 => ?_)
  · obtain ⟨j, hj, e_j, g_j⟩ := isP_of (by omega) c_1
    rw [e_j] at hl
    refine lv_iload_n hx hb dX4_ask_10 rfl (lv_at hl 2 rfl) ?_
    refine zk_callSi (As := [.int v]) (rest := []) (bI (isP 10 v)) ⟨hx, hb, hml, hown, hts⟩ hK hP [] rfl (c_isLevel l D cI v ) (va_cwS 1 hts gX4_ask_X4_isLevel rfl rfl rfl hdX4_isLevel ⟨Nat.le_of_ble_eq_true rfl, Nat.le_of_ble_eq_true rfl⟩) rfl hl.1 rfl (Nat.le_of_ble_eq_true rfl) dX4_ask_11 ⟨Nat.le_of_ble_eq_true rfl, Nat.le_of_ble_eq_true rfl⟩ ?_
    refine zk_ifneB (tgt := 20) hx hb dX4_ask_14 (by decide) (fun c_2 => ?_) (fun c_2 => ?_)
    · refine lv_aload_n hx hb dX4_ask_20 rfl (lv_at hl 0 rfl) ?_
      refine va_get (D := D) (ci := 4) (v := .ref x1) (C := RX4) (T := TX4) (N := 7) hx hb hts inX4 hown hK.1 hP 0 rfl rfl 0 (by decide) f_12 (fun _ h9 => h9) rfl dX4_ask_21 ?_
      refine va_getN (D := D) (ci := 2) (v := .ref x2) (C := RX2) (T := TX2) (N := 10) hx hb hts inX2 hown hK.1 hP 1 rfl rfl 4 (by decide) f_98 (fun _ h9 => h9) rfl dX4_ask_24 ?_
      refine lv_iload_n hx hb dX4_ask_27 rfl (lv_at hl 1 rfl) ?_
      refine zk_iald hx hb hK hP 2 rfl (by omega) (by decide) dX4_ask_28 ?_
      refine lv_istore_n (lv' := [(3, .int (T.hard j)), (0, .ref x0), (1, .int (nI j)), (2, .int v)]) hx hb dX4_ask_29 rfl hl (by decide) rfl (fun ls hl => ?_)
      refine lv_aload_n hx hb dX4_ask_30 rfl (lv_at hl 1 rfl) ?_
      refine va_get (D := D) (ci := 4) (v := .ref x1) (C := RX4) (T := TX4) (N := 7) hx hb hts inX4 hown hK.1 hP 0 rfl rfl 0 (by decide) f_12 (fun _ h9 => h9) rfl dX4_ask_31 ?_
      refine va_getN (D := D) (ci := 2) (v := .ref x2) (C := RX2) (T := TX2) (N := 10) hx hb hts inX2 hown hK.1 hP 1 rfl rfl 4 (by decide) f_98 (fun _ h9 => h9) rfl dX4_ask_34 ?_
      refine lv_iload_n hx hb dX4_ask_37 rfl (lv_at hl 2 rfl) ?_
      refine lv_iload_n hx hb dX4_ask_38 rfl (lv_at hl 3 rfl) ?_
      refine zk_iast (x := v) hx hb hK hP hD hS 2 rfl (by omega) (by decide) dX4_ask_39 (fun H locs hP hD hS => ?_)
      have hP : va_P D vwCl [(x0, .inr (4, [.ref x1, .ref x8, .ref x15, .ref x23, .ref x27, .int tr, .int fl])), (x1, .inr (2, [.int (nI T.D), .int (nI T.P), .int T.db, .int T.rm, .ref x2, .ref x3, .ref x4, .ref x5, .ref x6, .ref x7])), (x2, .inl (cI, 5, .inl (upd T.hard j v))), (x3, .inl (cI, 4, .inl T.kind)), (x4, .inl (cI, 4, .inl T.wit)), (x5, .inl (cI, 4, .inl T.pat)), (x6, .inl (cI, 4, .inl T.pret)), (x7, .inl (cI, 5, .inl ts))] H := hP
      have hD : va_D A [(x0, .inr (4, [.ref x1, .ref x8, .ref x15, .ref x23, .ref x27, .int tr, .int fl])), (x1, .inr (2, [.int (nI T.D), .int (nI T.P), .int T.db, .int T.rm, .ref x2, .ref x3, .ref x4, .ref x5, .ref x6, .ref x7])), (x2, .inl (cI, 5, .inl (upd T.hard j v))), (x3, .inl (cI, 4, .inl T.kind)), (x4, .inl (cI, 4, .inl T.wit)), (x5, .inl (cI, 4, .inl T.pat)), (x6, .inl (cI, 4, .inl T.pret)), (x7, .inl (cI, 5, .inl ts))] := hD
      refine lv_iload_n hx hb dX4_ask_40 rfl (lv_at hl 0 rfl) ?_
      have e_t : askF T p v = (T.hard j, (T.D, T.P, T.db, T.rm, upd T.hard j v, T.kind, T.wit, T.pat, T.pret)) := by simp [askF, c_1, g_j, c_2]
      exact zk_retI hx hb hr hS (()) (by rw [e_t]) (by rw [e_t]; exact hP) (by rw [e_t]; exact hD) dX4_ask_41 hlocks
    · refine lv_bipush (v := (-2)) hx hb dX4_ask_17 (by decide) ?_
      have e_t : askF T p v = ((-2), (T.D, T.P, T.db, T.rm, T.hard, T.kind, T.wit, T.pat, T.pret)) := by simp [askF, c_1, g_j, c_2]
      exact zk_retI hx hb hr hS (()) (by rw [e_t]) (by rw [e_t]; exact hP) (by rw [e_t]; exact hD) dX4_ask_19 hlocks
  · refine lv_iconst (v := (-1)) hx hb dX4_ask_8 (by decide) ?_
    have e_t : askF T p v = ((-1), (T.D, T.P, T.db, T.rm, T.hard, T.kind, T.wit, T.pat, T.pret)) := by simp [askF, c_1]
    exact zk_retI hx hb hr hS (()) (by rw [e_t]) (by rw [e_t]; exact hP) (by rw [e_t]; exact hD) dX4_ask_9 hlocks
set_option maxHeartbeats 4000000 in
set_option maxRecDepth 100000 in
theorem cx_teach (l : Launch) (D : va_G) (cI : ClassId) (sz : Nat) (x0 : Nat) (x1 : Nat) (x2 : Nat) (x3 : Nat) (x4 : Nat) (x5 : Nat) (x6 : Nat) (x7 : Nat) (x8 : Nat) (x9 : Nat) (x10 : Nat) (x11 : Nat) (x12 : Nat) (x13 : Nat) (x14 : Nat) (x15 : Nat) (x16 : Nat) (x17 : Nat) (x18 : Nat) (x19 : Nat) (x20 : Nat) (x21 : Nat) (x22 : Nat) (x23 : Nat) (x24 : Nat) (x25 : Nat) (x26 : Nat) (x27 : Nat) (x28 : Nat) (x29 : Nat) (x30 : Nat) (T : YS) (ts : Nat → Int32) (tr : Int32) (fl : Int32) (p : Int32) (v : Int32) (hok : OkY T) : Met l yX4_teach wsX4_teach ({ frames := 1, cells := 0, slots := 0, locals := 21 }) (PQ D cI [.ref x0, .int p, .int v] (wXo x0 x1 x8 x15 x23 x27 tr fl ++ wRoll cI x1 x2 x3 x4 x5 x6 x7 T ts) sz) (QI (S := Unit) D (fun r _ => r = (teachF T p v).1) (fun _ => wXo x0 x1 x8 x15 x23 x27 tr fl ++ wRoll cI x1 x2 x3 x4 x5 x6 x7 ((teachF T p v).2) ts) (va_A (wXo x0 x1 x8 x15 x23 x27 tr fl ++ wRoll cI x1 x2 x3 x4 x5 x6 x7 T ts) sz)) 0 0 (va_A (wXo x0 x1 x8 x15 x23 x27 tr fl ++ wRoll cI x1 x2 x3 x4 x5 x6 x7 T ts) sz) := by
  refine zk_Q (QI (S := Unit) D (fun r _ => r = (teachF T p v).1) (fun _ => wXo x0 x1 x8 x15 x23 x27 tr fl ++ wRoll cI x1 x2 x3 x4 x5 x6 x7 ((teachF T p v).2) ts)) (cc := cX4_teach) (maxL := 4) (ret := (some .int)) (by decide) rfl (Nat.le_of_ble_eq_true rfl) ?_
  intro pX eX sX mX bX tX cX hx hb hr hlocks hml hown hmn hts hP hK A hA hD hS ls hl
  have hl : lv_has ls 4 [(0, .ref x0), (1, .int p), (2, .int v)] := hl
  have hP : va_P D vwCl [(x0, .inr (4, [.ref x1, .ref x8, .ref x15, .ref x23, .ref x27, .int tr, .int fl])), (x1, .inr (2, [.int (nI T.D), .int (nI T.P), .int T.db, .int T.rm, .ref x2, .ref x3, .ref x4, .ref x5, .ref x6, .ref x7])), (x2, .inl (cI, 5, .inl T.hard)), (x3, .inl (cI, 4, .inl T.kind)), (x4, .inl (cI, 4, .inl T.wit)), (x5, .inl (cI, 4, .inl T.pat)), (x6, .inl (cI, 4, .inl T.pret)), (x7, .inl (cI, 5, .inl ts))] sX.heap := hP
  have hD : va_D A [(x0, .inr (4, [.ref x1, .ref x8, .ref x15, .ref x23, .ref x27, .int tr, .int fl])), (x1, .inr (2, [.int (nI T.D), .int (nI T.P), .int T.db, .int T.rm, .ref x2, .ref x3, .ref x4, .ref x5, .ref x6, .ref x7])), (x2, .inl (cI, 5, .inl T.hard)), (x3, .inl (cI, 4, .inl T.kind)), (x4, .inl (cI, 4, .inl T.wit)), (x5, .inl (cI, 4, .inl T.pat)), (x6, .inl (cI, 4, .inl T.pret)), (x7, .inl (cI, 5, .inl ts))] := hD
  have f_12 := hts (.fieldLink RX4 12 "DunceSee" "told" "LDunceSee$Roll;") (by decide +kernel)
  have f_86 := hK.nest (A := ([.ref x0, .int p, .int v] : List Value).toArray) 13 rfl
  have inX4 : ∀ w ∈ wsX40, w ∈ wsX4_teach := fun w h => List.mem_cons_of_mem _ (List.mem_append_left _ (List.mem_append_right _ h))
  have inX2 : ∀ w ∈ wsX20, w ∈ wsX4_teach := fun w h => List.mem_cons_of_mem _ (List.mem_append_right _ h)
  have hD5 : T.D ≤ 5 := hok.1
  have hP4 : T.P ≤ 4 := hok.2
  refine lv_aload_n hx hb dX4_teach_0 rfl (lv_at hl 0 rfl) ?_
  refine lv_iload_n hx hb dX4_teach_1 rfl (lv_at hl 1 rfl) ?_
  refine zk_callVi (As := [.int p]) (rest := []) (bI (isP T.P p)) ⟨hx, hb, hml, hown, hts⟩ hK hP [0, 1, 2, 3, 4, 5, 6, 7] rfl (c_isPupil l D cI x0 x1 x2 x3 x4 x5 x6 x7 x8 x9 x10 x11 x12 x13 x14 x15 x16 x17 x18 x19 x20 x21 x22 x23 x24 x25 x26 x27 x28 x29 x30 T ts tr fl p ) (cwV 1 hts gX4_teach_X4_isPupil rfl rfl rfl hdX4_isPupil ⟨Nat.le_of_ble_eq_true rfl, Nat.le_of_ble_eq_true rfl⟩) rfl rfl rfl hl.1 rfl (Nat.le_of_ble_eq_true rfl) dX4_teach_2 ⟨Nat.le_of_ble_eq_true rfl, Nat.le_of_ble_eq_true rfl⟩ ?_
  refine zk_ifneB (tgt := 10) hx hb dX4_teach_5 (by decide) (fun c_1 => ?_) (fun c_1 => ?_)
  · obtain ⟨j, hj, e_j, g_j⟩ := isP_of (by omega) c_1
    rw [e_j] at hl
    refine lv_iload_n hx hb dX4_teach_10 rfl (lv_at hl 2 rfl) ?_
    refine zk_callSi (As := [.int v]) (rest := []) (bI (isP 10 v)) ⟨hx, hb, hml, hown, hts⟩ hK hP [] rfl (c_isLevel l D cI v ) (va_cwS 1 hts gX4_teach_X4_isLevel rfl rfl rfl hdX4_isLevel ⟨Nat.le_of_ble_eq_true rfl, Nat.le_of_ble_eq_true rfl⟩) rfl hl.1 rfl (Nat.le_of_ble_eq_true rfl) dX4_teach_11 ⟨Nat.le_of_ble_eq_true rfl, Nat.le_of_ble_eq_true rfl⟩ ?_
    refine zk_ifneB (tgt := 20) hx hb dX4_teach_14 (by decide) (fun c_2 => ?_) (fun c_2 => ?_)
    · refine lv_aload_n hx hb dX4_teach_20 rfl (lv_at hl 0 rfl) ?_
      refine va_get (D := D) (ci := 4) (v := .ref x1) (C := RX4) (T := TX4) (N := 7) hx hb hts inX4 hown hK.1 hP 0 rfl rfl 0 (by decide) f_12 (fun _ h9 => h9) rfl dX4_teach_21 ?_
      refine va_getN (D := D) (ci := 2) (v := .ref x4) (C := RX2) (T := TX2) (N := 10) hx hb hts inX2 hown hK.1 hP 1 rfl rfl 6 (by decide) f_86 (fun _ h9 => h9) rfl dX4_teach_24 ?_
      refine lv_iload_n hx hb dX4_teach_27 rfl (lv_at hl 1 rfl) ?_
      refine zk_iald hx hb hK hP 4 rfl (by omega) (by decide) dX4_teach_28 ?_
      refine lv_istore_n (lv' := [(3, .int (T.wit j)), (0, .ref x0), (1, .int (nI j)), (2, .int v)]) hx hb dX4_teach_29 rfl hl (by decide) rfl (fun ls hl => ?_)
      refine lv_aload_n hx hb dX4_teach_30 rfl (lv_at hl 1 rfl) ?_
      refine va_get (D := D) (ci := 4) (v := .ref x1) (C := RX4) (T := TX4) (N := 7) hx hb hts inX4 hown hK.1 hP 0 rfl rfl 0 (by decide) f_12 (fun _ h9 => h9) rfl dX4_teach_31 ?_
      refine va_getN (D := D) (ci := 2) (v := .ref x4) (C := RX2) (T := TX2) (N := 10) hx hb hts inX2 hown hK.1 hP 1 rfl rfl 6 (by decide) f_86 (fun _ h9 => h9) rfl dX4_teach_34 ?_
      refine lv_iload_n hx hb dX4_teach_37 rfl (lv_at hl 2 rfl) ?_
      refine lv_iload_n hx hb dX4_teach_38 rfl (lv_at hl 3 rfl) ?_
      refine zk_iast (x := v) hx hb hK hP hD hS 4 rfl (by omega) (by decide) dX4_teach_39 (fun H locs hP hD hS => ?_)
      have hP : va_P D vwCl [(x0, .inr (4, [.ref x1, .ref x8, .ref x15, .ref x23, .ref x27, .int tr, .int fl])), (x1, .inr (2, [.int (nI T.D), .int (nI T.P), .int T.db, .int T.rm, .ref x2, .ref x3, .ref x4, .ref x5, .ref x6, .ref x7])), (x2, .inl (cI, 5, .inl T.hard)), (x3, .inl (cI, 4, .inl T.kind)), (x4, .inl (cI, 4, .inl (upd T.wit j v))), (x5, .inl (cI, 4, .inl T.pat)), (x6, .inl (cI, 4, .inl T.pret)), (x7, .inl (cI, 5, .inl ts))] H := hP
      have hD : va_D A [(x0, .inr (4, [.ref x1, .ref x8, .ref x15, .ref x23, .ref x27, .int tr, .int fl])), (x1, .inr (2, [.int (nI T.D), .int (nI T.P), .int T.db, .int T.rm, .ref x2, .ref x3, .ref x4, .ref x5, .ref x6, .ref x7])), (x2, .inl (cI, 5, .inl T.hard)), (x3, .inl (cI, 4, .inl T.kind)), (x4, .inl (cI, 4, .inl (upd T.wit j v))), (x5, .inl (cI, 4, .inl T.pat)), (x6, .inl (cI, 4, .inl T.pret)), (x7, .inl (cI, 5, .inl ts))] := hD
      refine lv_iload_n hx hb dX4_teach_40 rfl (lv_at hl 0 rfl) ?_
      have e_t : teachF T p v = (T.wit j, (T.D, T.P, T.db, T.rm, T.hard, T.kind, upd T.wit j v, T.pat, T.pret)) := by simp [teachF, c_1, g_j, c_2]
      exact zk_retI hx hb hr hS (()) (by rw [e_t]) (by rw [e_t]; exact hP) (by rw [e_t]; exact hD) dX4_teach_41 hlocks
    · refine lv_bipush (v := (-2)) hx hb dX4_teach_17 (by decide) ?_
      have e_t : teachF T p v = ((-2), (T.D, T.P, T.db, T.rm, T.hard, T.kind, T.wit, T.pat, T.pret)) := by simp [teachF, c_1, g_j, c_2]
      exact zk_retI hx hb hr hS (()) (by rw [e_t]) (by rw [e_t]; exact hP) (by rw [e_t]; exact hD) dX4_teach_19 hlocks
  · refine lv_iconst (v := (-1)) hx hb dX4_teach_8 (by decide) ?_
    have e_t : teachF T p v = ((-1), (T.D, T.P, T.db, T.rm, T.hard, T.kind, T.wit, T.pat, T.pret)) := by simp [teachF, c_1]
    exact zk_retI hx hb hr hS (()) (by rw [e_t]) (by rw [e_t]; exact hP) (by rw [e_t]; exact hD) dX4_teach_9 hlocks
set_option maxHeartbeats 4000000 in
set_option maxRecDepth 100000 in
theorem cx_doubt (l : Launch) (D : va_G) (cI : ClassId) (sz : Nat) (x0 : Nat) (x1 : Nat) (x2 : Nat) (x3 : Nat) (x4 : Nat) (x5 : Nat) (x6 : Nat) (x7 : Nat) (x8 : Nat) (x9 : Nat) (x10 : Nat) (x11 : Nat) (x12 : Nat) (x13 : Nat) (x14 : Nat) (x15 : Nat) (x16 : Nat) (x17 : Nat) (x18 : Nat) (x19 : Nat) (x20 : Nat) (x21 : Nat) (x22 : Nat) (x23 : Nat) (x24 : Nat) (x25 : Nat) (x26 : Nat) (x27 : Nat) (x28 : Nat) (x29 : Nat) (x30 : Nat) (T : YS) (ts : Nat → Int32) (tr : Int32) (fl : Int32) (v : Int32) (hok : OkY T) : Met l yX4_doubt wsX4_doubt ({ frames := 1, cells := 0, slots := 0, locals := 20 }) (PQ D cI [.ref x0, .int v] (wXo x0 x1 x8 x15 x23 x27 tr fl ++ wRoll cI x1 x2 x3 x4 x5 x6 x7 T ts) sz) (QI (S := Unit) D (fun r _ => r = (doubtF T v).1) (fun _ => wXo x0 x1 x8 x15 x23 x27 tr fl ++ wRoll cI x1 x2 x3 x4 x5 x6 x7 ((doubtF T v).2) ts) (va_A (wXo x0 x1 x8 x15 x23 x27 tr fl ++ wRoll cI x1 x2 x3 x4 x5 x6 x7 T ts) sz)) 0 0 (va_A (wXo x0 x1 x8 x15 x23 x27 tr fl ++ wRoll cI x1 x2 x3 x4 x5 x6 x7 T ts) sz) := by
  refine zk_Q (QI (S := Unit) D (fun r _ => r = (doubtF T v).1) (fun _ => wXo x0 x1 x8 x15 x23 x27 tr fl ++ wRoll cI x1 x2 x3 x4 x5 x6 x7 ((doubtF T v).2) ts)) (cc := cX4_doubt) (maxL := 3) (ret := (some .int)) (by decide) rfl (Nat.le_of_ble_eq_true rfl) ?_
  intro pX eX sX mX bX tX cX hx hb hr hlocks hml hown hmn hts hP hK A hA hD hS ls hl
  have hl : lv_has ls 3 [(0, .ref x0), (1, .int v)] := hl
  have hP : va_P D vwCl [(x0, .inr (4, [.ref x1, .ref x8, .ref x15, .ref x23, .ref x27, .int tr, .int fl])), (x1, .inr (2, [.int (nI T.D), .int (nI T.P), .int T.db, .int T.rm, .ref x2, .ref x3, .ref x4, .ref x5, .ref x6, .ref x7])), (x2, .inl (cI, 5, .inl T.hard)), (x3, .inl (cI, 4, .inl T.kind)), (x4, .inl (cI, 4, .inl T.wit)), (x5, .inl (cI, 4, .inl T.pat)), (x6, .inl (cI, 4, .inl T.pret)), (x7, .inl (cI, 5, .inl ts))] sX.heap := hP
  have hD : va_D A [(x0, .inr (4, [.ref x1, .ref x8, .ref x15, .ref x23, .ref x27, .int tr, .int fl])), (x1, .inr (2, [.int (nI T.D), .int (nI T.P), .int T.db, .int T.rm, .ref x2, .ref x3, .ref x4, .ref x5, .ref x6, .ref x7])), (x2, .inl (cI, 5, .inl T.hard)), (x3, .inl (cI, 4, .inl T.kind)), (x4, .inl (cI, 4, .inl T.wit)), (x5, .inl (cI, 4, .inl T.pat)), (x6, .inl (cI, 4, .inl T.pret)), (x7, .inl (cI, 5, .inl ts))] := hD
  have f_12 := hts (.fieldLink RX4 12 "DunceSee" "told" "LDunceSee$Roll;") (by decide +kernel)
  have f_108 := hK.nest (A := ([.ref x0, .int v] : List Value).toArray) 6 rfl
  have inX4 : ∀ w ∈ wsX40, w ∈ wsX4_doubt := fun w h => List.mem_cons_of_mem _ (List.mem_append_left _ (List.mem_append_right _ h))
  have inX2 : ∀ w ∈ wsX20, w ∈ wsX4_doubt := fun w h => List.mem_cons_of_mem _ (List.mem_append_right _ h)
  have hD5 : T.D ≤ 5 := hok.1
  have hP4 : T.P ≤ 4 := hok.2
  refine lv_iload_n hx hb dX4_doubt_0 rfl (lv_at hl 1 rfl) ?_
  refine zk_callSi (As := [.int v]) (rest := []) (bI (isP 10 v)) ⟨hx, hb, hml, hown, hts⟩ hK hP [] rfl (c_isLevel l D cI v ) (va_cwS 1 hts gX4_doubt_X4_isLevel rfl rfl rfl hdX4_isLevel ⟨Nat.le_of_ble_eq_true rfl, Nat.le_of_ble_eq_true rfl⟩) rfl hl.1 rfl (Nat.le_of_ble_eq_true rfl) dX4_doubt_1 ⟨Nat.le_of_ble_eq_true rfl, Nat.le_of_ble_eq_true rfl⟩ ?_
  refine zk_ifneB (tgt := 10) hx hb dX4_doubt_4 (by decide) (fun c_1 => ?_) (fun c_1 => ?_)
  · refine lv_aload_n hx hb dX4_doubt_10 rfl (lv_at hl 0 rfl) ?_
    refine zk_callVi (As := []) (rest := []) (bI (decide (0 < T.P))) ⟨hx, hb, hml, hown, hts⟩ hK hP [0, 1, 2, 3, 4, 5, 6, 7] rfl (c_hasSee l D cI x0 x1 x2 x3 x4 x5 x6 x7 x8 x9 x10 x11 x12 x13 x14 x15 x16 x17 x18 x19 x20 x21 x22 x23 x24 x25 x26 x27 x28 x29 x30 T ts tr fl hok) (cwV 0 hts gX4_doubt_X4_hasSee rfl rfl rfl hdX4_hasSee ⟨Nat.le_of_ble_eq_true rfl, Nat.le_of_ble_eq_true rfl⟩) rfl rfl rfl hl.1 rfl (Nat.le_of_ble_eq_true rfl) dX4_doubt_11 ⟨Nat.le_of_ble_eq_true rfl, Nat.le_of_ble_eq_true rfl⟩ ?_
    refine zk_ifneB (tgt := 20) hx hb dX4_doubt_14 (by decide) (fun c_2 => ?_) (fun c_2 => ?_)
    · have c_s : 0 < T.P := of_decide_eq_true c_2
      refine lv_aload_n hx hb dX4_doubt_20 rfl (lv_at hl 0 rfl) ?_
      refine va_get (D := D) (ci := 4) (v := .ref x1) (C := RX4) (T := TX4) (N := 7) hx hb hts inX4 hown hK.1 hP 0 rfl rfl 0 (by decide) f_12 (fun _ h9 => h9) rfl dX4_doubt_21 ?_
      refine va_getN (D := D) (ci := 2) (v := .int T.db) (C := RX2) (T := TX2) (N := 10) hx hb hts inX2 hown hK.1 hP 1 rfl rfl 2 (by decide) f_108 (fun _ h9 => h9) rfl dX4_doubt_24 ?_
      refine lv_istore_n (lv' := [(2, .int T.db), (0, .ref x0), (1, .int v)]) hx hb dX4_doubt_27 rfl hl (by decide) rfl (fun ls hl => ?_)
      refine lv_aload_n hx hb dX4_doubt_28 rfl (lv_at hl 1 rfl) ?_
      refine va_get (D := D) (ci := 4) (v := .ref x1) (C := RX4) (T := TX4) (N := 7) hx hb hts inX4 hown hK.1 hP 0 rfl rfl 0 (by decide) f_12 (fun _ h9 => h9) rfl dX4_doubt_29 ?_
      refine lv_iload_n hx hb dX4_doubt_32 rfl (lv_at hl 2 rfl) ?_
      refine va_putN (D := D) (ci := 2) (v := .int v) (ty := .int) (C := RX2) (T := TX2) (N := 10) hx hb hts inX2 tyX2 tyX2_ok nmX2 hown hK.1 hP hD hS 1 rfl rfl 2 (by decide) f_108 (fun _ h9 => h9) rfl (by decide +kernel) rfl rfl (Nat.le_of_ble_eq_true rfl) dX4_doubt_33 (fun H locs hP hD hS => ?_)
      have hP : va_P D vwCl [(x0, .inr (4, [.ref x1, .ref x8, .ref x15, .ref x23, .ref x27, .int tr, .int fl])), (x1, .inr (2, [.int (nI T.D), .int (nI T.P), .int v, .int T.rm, .ref x2, .ref x3, .ref x4, .ref x5, .ref x6, .ref x7])), (x2, .inl (cI, 5, .inl T.hard)), (x3, .inl (cI, 4, .inl T.kind)), (x4, .inl (cI, 4, .inl T.wit)), (x5, .inl (cI, 4, .inl T.pat)), (x6, .inl (cI, 4, .inl T.pret)), (x7, .inl (cI, 5, .inl ts))] H := hP
      have hD : va_D A [(x0, .inr (4, [.ref x1, .ref x8, .ref x15, .ref x23, .ref x27, .int tr, .int fl])), (x1, .inr (2, [.int (nI T.D), .int (nI T.P), .int v, .int T.rm, .ref x2, .ref x3, .ref x4, .ref x5, .ref x6, .ref x7])), (x2, .inl (cI, 5, .inl T.hard)), (x3, .inl (cI, 4, .inl T.kind)), (x4, .inl (cI, 4, .inl T.wit)), (x5, .inl (cI, 4, .inl T.pat)), (x6, .inl (cI, 4, .inl T.pret)), (x7, .inl (cI, 5, .inl ts))] := hD
      refine lv_iload_n hx hb dX4_doubt_36 rfl (lv_at hl 0 rfl) ?_
      have e_t : doubtF T v = (T.db, (T.D, T.P, v, T.rm, T.hard, T.kind, T.wit, T.pat, T.pret)) := by simp [doubtF, c_1, c_s]
      exact zk_retI hx hb hr hS (()) (by rw [e_t]) (by rw [e_t]; exact hP) (by rw [e_t]; exact hD) dX4_doubt_37 hlocks
    · have c_s : ¬ 0 < T.P := of_decide_eq_false c_2
      refine lv_bipush (v := (-3)) hx hb dX4_doubt_17 (by decide) ?_
      have e_t : doubtF T v = ((-3), (T.D, T.P, T.db, T.rm, T.hard, T.kind, T.wit, T.pat, T.pret)) := by simp [doubtF, c_1, c_s]
      exact zk_retI hx hb hr hS (()) (by rw [e_t]) (by rw [e_t]; exact hP) (by rw [e_t]; exact hD) dX4_doubt_19 hlocks
  · refine lv_bipush (v := (-2)) hx hb dX4_doubt_7 (by decide) ?_
    have e_t : doubtF T v = ((-2), (T.D, T.P, T.db, T.rm, T.hard, T.kind, T.wit, T.pat, T.pret)) := by simp [doubtF, c_1]
    exact zk_retI hx hb hr hS (()) (by rw [e_t]) (by rw [e_t]; exact hP) (by rw [e_t]; exact hD) dX4_doubt_9 hlocks
set_option maxHeartbeats 4000000 in
set_option maxRecDepth 100000 in
theorem cx_build (l : Launch) (D : va_G) (cI : ClassId) (sz : Nat) (x0 : Nat) (x1 : Nat) (x2 : Nat) (x3 : Nat) (x4 : Nat) (x5 : Nat) (x6 : Nat) (x7 : Nat) (x8 : Nat) (x9 : Nat) (x10 : Nat) (x11 : Nat) (x12 : Nat) (x13 : Nat) (x14 : Nat) (x15 : Nat) (x16 : Nat) (x17 : Nat) (x18 : Nat) (x19 : Nat) (x20 : Nat) (x21 : Nat) (x22 : Nat) (x23 : Nat) (x24 : Nat) (x25 : Nat) (x26 : Nat) (x27 : Nat) (x28 : Nat) (x29 : Nat) (x30 : Nat) (T : YS) (ts : Nat → Int32) (tr : Int32) (fl : Int32) (v : Int32) (hok : OkY T) : Met l yX4_build wsX4_build ({ frames := 1, cells := 0, slots := 0, locals := 20 }) (PQ D cI [.ref x0, .int v] (wXo x0 x1 x8 x15 x23 x27 tr fl ++ wRoll cI x1 x2 x3 x4 x5 x6 x7 T ts) sz) (QI (S := Unit) D (fun r _ => r = (buildF T v).1) (fun _ => wXo x0 x1 x8 x15 x23 x27 tr fl ++ wRoll cI x1 x2 x3 x4 x5 x6 x7 ((buildF T v).2) ts) (va_A (wXo x0 x1 x8 x15 x23 x27 tr fl ++ wRoll cI x1 x2 x3 x4 x5 x6 x7 T ts) sz)) 0 0 (va_A (wXo x0 x1 x8 x15 x23 x27 tr fl ++ wRoll cI x1 x2 x3 x4 x5 x6 x7 T ts) sz) := by
  refine zk_Q (QI (S := Unit) D (fun r _ => r = (buildF T v).1) (fun _ => wXo x0 x1 x8 x15 x23 x27 tr fl ++ wRoll cI x1 x2 x3 x4 x5 x6 x7 ((buildF T v).2) ts)) (cc := cX4_build) (maxL := 3) (ret := (some .int)) (by decide) rfl (Nat.le_of_ble_eq_true rfl) ?_
  intro pX eX sX mX bX tX cX hx hb hr hlocks hml hown hmn hts hP hK A hA hD hS ls hl
  have hl : lv_has ls 3 [(0, .ref x0), (1, .int v)] := hl
  have hP : va_P D vwCl [(x0, .inr (4, [.ref x1, .ref x8, .ref x15, .ref x23, .ref x27, .int tr, .int fl])), (x1, .inr (2, [.int (nI T.D), .int (nI T.P), .int T.db, .int T.rm, .ref x2, .ref x3, .ref x4, .ref x5, .ref x6, .ref x7])), (x2, .inl (cI, 5, .inl T.hard)), (x3, .inl (cI, 4, .inl T.kind)), (x4, .inl (cI, 4, .inl T.wit)), (x5, .inl (cI, 4, .inl T.pat)), (x6, .inl (cI, 4, .inl T.pret)), (x7, .inl (cI, 5, .inl ts))] sX.heap := hP
  have hD : va_D A [(x0, .inr (4, [.ref x1, .ref x8, .ref x15, .ref x23, .ref x27, .int tr, .int fl])), (x1, .inr (2, [.int (nI T.D), .int (nI T.P), .int T.db, .int T.rm, .ref x2, .ref x3, .ref x4, .ref x5, .ref x6, .ref x7])), (x2, .inl (cI, 5, .inl T.hard)), (x3, .inl (cI, 4, .inl T.kind)), (x4, .inl (cI, 4, .inl T.wit)), (x5, .inl (cI, 4, .inl T.pat)), (x6, .inl (cI, 4, .inl T.pret)), (x7, .inl (cI, 5, .inl ts))] := hD
  have f_12 := hts (.fieldLink RX4 12 "DunceSee" "told" "LDunceSee$Roll;") (by decide +kernel)
  have f_111 := hK.nest (A := ([.ref x0, .int v] : List Value).toArray) 8 rfl
  have inX4 : ∀ w ∈ wsX40, w ∈ wsX4_build := fun w h => List.mem_cons_of_mem _ (List.mem_append_left _ (List.mem_append_right _ h))
  have inX2 : ∀ w ∈ wsX20, w ∈ wsX4_build := fun w h => List.mem_cons_of_mem _ (List.mem_append_right _ h)
  have hD5 : T.D ≤ 5 := hok.1
  have hP4 : T.P ≤ 4 := hok.2
  refine lv_iload_n hx hb dX4_build_0 rfl (lv_at hl 1 rfl) ?_
  refine lv_iconst (v := nI 1) hx hb dX4_build_1 (by decide) ?_
  refine lv_icmp_lt (tgt := 10) hx hb dX4_build_2 (by decide) (fun c_1 => ?_) (fun c_1 => ?_)
  · refine lv_bipush (v := (-2)) hx hb dX4_build_10 (by decide) ?_
    have e_t : buildF T v = ((-2), (T.D, T.P, T.db, T.rm, T.hard, T.kind, T.wit, T.pat, T.pret)) := by simp [buildF, c_1, (Int32.not_le.mpr c_1)]
    exact zk_retI hx hb hr hS (()) (by rw [e_t]) (by rw [e_t]; exact hP) (by rw [e_t]; exact hD) dX4_build_12 hlocks
  · have c_1 := Int32.not_lt.mp c_1
    refine lv_iload_n hx hb dX4_build_5 rfl (lv_at hl 1 rfl) ?_
    refine lv_iconst (v := nI 4) hx hb dX4_build_6 (by decide) ?_
    refine lv_icmp_le (tgt := 13) hx hb dX4_build_7 (by decide) (fun c_2 => ?_) (fun c_2 => ?_)
    · refine lv_aload_n hx hb dX4_build_13 rfl (lv_at hl 0 rfl) ?_
      refine zk_callVi (As := []) (rest := []) (bI (decide (0 < T.P))) ⟨hx, hb, hml, hown, hts⟩ hK hP [0, 1, 2, 3, 4, 5, 6, 7] rfl (c_hasSee l D cI x0 x1 x2 x3 x4 x5 x6 x7 x8 x9 x10 x11 x12 x13 x14 x15 x16 x17 x18 x19 x20 x21 x22 x23 x24 x25 x26 x27 x28 x29 x30 T ts tr fl hok) (cwV 0 hts gX4_build_X4_hasSee rfl rfl rfl hdX4_hasSee ⟨Nat.le_of_ble_eq_true rfl, Nat.le_of_ble_eq_true rfl⟩) rfl rfl rfl hl.1 rfl (Nat.le_of_ble_eq_true rfl) dX4_build_14 ⟨Nat.le_of_ble_eq_true rfl, Nat.le_of_ble_eq_true rfl⟩ ?_
      refine zk_ifneB (tgt := 23) hx hb dX4_build_17 (by decide) (fun c_3 => ?_) (fun c_3 => ?_)
      · have c_s : 0 < T.P := of_decide_eq_true c_3
        refine lv_aload_n hx hb dX4_build_23 rfl (lv_at hl 0 rfl) ?_
        refine va_get (D := D) (ci := 4) (v := .ref x1) (C := RX4) (T := TX4) (N := 7) hx hb hts inX4 hown hK.1 hP 0 rfl rfl 0 (by decide) f_12 (fun _ h9 => h9) rfl dX4_build_24 ?_
        refine va_getN (D := D) (ci := 2) (v := .int T.rm) (C := RX2) (T := TX2) (N := 10) hx hb hts inX2 hown hK.1 hP 1 rfl rfl 3 (by decide) f_111 (fun _ h9 => h9) rfl dX4_build_27 ?_
        refine lv_istore_n (lv' := [(2, .int T.rm), (0, .ref x0), (1, .int v)]) hx hb dX4_build_30 rfl hl (by decide) rfl (fun ls hl => ?_)
        refine lv_aload_n hx hb dX4_build_31 rfl (lv_at hl 1 rfl) ?_
        refine va_get (D := D) (ci := 4) (v := .ref x1) (C := RX4) (T := TX4) (N := 7) hx hb hts inX4 hown hK.1 hP 0 rfl rfl 0 (by decide) f_12 (fun _ h9 => h9) rfl dX4_build_32 ?_
        refine lv_iload_n hx hb dX4_build_35 rfl (lv_at hl 2 rfl) ?_
        refine va_putN (D := D) (ci := 2) (v := .int v) (ty := .int) (C := RX2) (T := TX2) (N := 10) hx hb hts inX2 tyX2 tyX2_ok nmX2 hown hK.1 hP hD hS 1 rfl rfl 3 (by decide) f_111 (fun _ h9 => h9) rfl (by decide +kernel) rfl rfl (Nat.le_of_ble_eq_true rfl) dX4_build_36 (fun H locs hP hD hS => ?_)
        have hP : va_P D vwCl [(x0, .inr (4, [.ref x1, .ref x8, .ref x15, .ref x23, .ref x27, .int tr, .int fl])), (x1, .inr (2, [.int (nI T.D), .int (nI T.P), .int T.db, .int v, .ref x2, .ref x3, .ref x4, .ref x5, .ref x6, .ref x7])), (x2, .inl (cI, 5, .inl T.hard)), (x3, .inl (cI, 4, .inl T.kind)), (x4, .inl (cI, 4, .inl T.wit)), (x5, .inl (cI, 4, .inl T.pat)), (x6, .inl (cI, 4, .inl T.pret)), (x7, .inl (cI, 5, .inl ts))] H := hP
        have hD : va_D A [(x0, .inr (4, [.ref x1, .ref x8, .ref x15, .ref x23, .ref x27, .int tr, .int fl])), (x1, .inr (2, [.int (nI T.D), .int (nI T.P), .int T.db, .int v, .ref x2, .ref x3, .ref x4, .ref x5, .ref x6, .ref x7])), (x2, .inl (cI, 5, .inl T.hard)), (x3, .inl (cI, 4, .inl T.kind)), (x4, .inl (cI, 4, .inl T.wit)), (x5, .inl (cI, 4, .inl T.pat)), (x6, .inl (cI, 4, .inl T.pret)), (x7, .inl (cI, 5, .inl ts))] := hD
        refine lv_iload_n hx hb dX4_build_39 rfl (lv_at hl 0 rfl) ?_
        have e_t : buildF T v = (T.rm, (T.D, T.P, T.db, v, T.hard, T.kind, T.wit, T.pat, T.pret)) := by simp [buildF, c_1, (Int32.not_lt.mpr c_1), c_2, (Int32.not_lt.mpr c_2), c_s]
        exact zk_retI hx hb hr hS (()) (by rw [e_t]) (by rw [e_t]; exact hP) (by rw [e_t]; exact hD) dX4_build_40 hlocks
      · have c_s : ¬ 0 < T.P := of_decide_eq_false c_3
        refine lv_bipush (v := (-3)) hx hb dX4_build_20 (by decide) ?_
        have e_t : buildF T v = ((-3), (T.D, T.P, T.db, T.rm, T.hard, T.kind, T.wit, T.pat, T.pret)) := by simp [buildF, c_1, (Int32.not_lt.mpr c_1), c_2, (Int32.not_lt.mpr c_2), c_s]
        exact zk_retI hx hb hr hS (()) (by rw [e_t]) (by rw [e_t]; exact hP) (by rw [e_t]; exact hD) dX4_build_22 hlocks
    · have c_2 := Int32.not_le.mp c_2
      refine lv_bipush (v := (-2)) hx hb dX4_build_10 (by decide) ?_
      have e_t : buildF T v = ((-2), (T.D, T.P, T.db, T.rm, T.hard, T.kind, T.wit, T.pat, T.pret)) := by simp [buildF, c_1, (Int32.not_lt.mpr c_1), c_2, (Int32.not_le.mpr c_2)]
      exact zk_retI hx hb hr hS (()) (by rw [e_t]) (by rw [e_t]; exact hP) (by rw [e_t]; exact hD) dX4_build_12 hlocks
set_option maxHeartbeats 4000000 in
set_option maxRecDepth 100000 in
theorem cx_bishop (l : Launch) (D : va_G) (cI : ClassId) (sz : Nat) (x0 : Nat) (x1 : Nat) (x2 : Nat) (x3 : Nat) (x4 : Nat) (x5 : Nat) (x6 : Nat) (x7 : Nat) (x8 : Nat) (x9 : Nat) (x10 : Nat) (x11 : Nat) (x12 : Nat) (x13 : Nat) (x14 : Nat) (x15 : Nat) (x16 : Nat) (x17 : Nat) (x18 : Nat) (x19 : Nat) (x20 : Nat) (x21 : Nat) (x22 : Nat) (x23 : Nat) (x24 : Nat) (x25 : Nat) (x26 : Nat) (x27 : Nat) (x28 : Nat) (x29 : Nat) (x30 : Nat) (T : YS) (ts : Nat → Int32) (tr : Int32) (fl : Int32) (hok : OkY T) : Met l yX4_bishop wsX4_bishop ({ frames := 4, cells := 0, slots := 0, locals := 100 }) (PQ D cI [.ref x0] (wXo x0 x1 x8 x15 x23 x27 tr fl ++ wRoll cI x1 x2 x3 x4 x5 x6 x7 T ts) sz) (QI (S := Unit) D (fun r _ => r = bishopF T) (fun _ => wXo x0 x1 x8 x15 x23 x27 tr fl ++ wRoll cI x1 x2 x3 x4 x5 x6 x7 T (if 0 < T.P then stn T ts else ts)) (va_A (wXo x0 x1 x8 x15 x23 x27 tr fl ++ wRoll cI x1 x2 x3 x4 x5 x6 x7 T ts) sz)) 0 0 (va_A (wXo x0 x1 x8 x15 x23 x27 tr fl ++ wRoll cI x1 x2 x3 x4 x5 x6 x7 T ts) sz) := by
  refine zk_Q (QI (S := Unit) D (fun r _ => r = bishopF T) (fun _ => wXo x0 x1 x8 x15 x23 x27 tr fl ++ wRoll cI x1 x2 x3 x4 x5 x6 x7 T (if 0 < T.P then stn T ts else ts))) (cc := cX4_bishop) (maxL := 1) (ret := (some .int)) (by decide) rfl (Nat.le_of_ble_eq_true rfl) ?_
  intro pX eX sX mX bX tX cX hx hb hr hlocks hml hown hmn hts hP hK A hA hD hS ls hl
  have hl : lv_has ls 1 [(0, .ref x0)] := hl
  have hP : va_P D vwCl [(x0, .inr (4, [.ref x1, .ref x8, .ref x15, .ref x23, .ref x27, .int tr, .int fl])), (x1, .inr (2, [.int (nI T.D), .int (nI T.P), .int T.db, .int T.rm, .ref x2, .ref x3, .ref x4, .ref x5, .ref x6, .ref x7])), (x2, .inl (cI, 5, .inl T.hard)), (x3, .inl (cI, 4, .inl T.kind)), (x4, .inl (cI, 4, .inl T.wit)), (x5, .inl (cI, 4, .inl T.pat)), (x6, .inl (cI, 4, .inl T.pret)), (x7, .inl (cI, 5, .inl ts))] sX.heap := hP
  have hD : va_D A [(x0, .inr (4, [.ref x1, .ref x8, .ref x15, .ref x23, .ref x27, .int tr, .int fl])), (x1, .inr (2, [.int (nI T.D), .int (nI T.P), .int T.db, .int T.rm, .ref x2, .ref x3, .ref x4, .ref x5, .ref x6, .ref x7])), (x2, .inl (cI, 5, .inl T.hard)), (x3, .inl (cI, 4, .inl T.kind)), (x4, .inl (cI, 4, .inl T.wit)), (x5, .inl (cI, 4, .inl T.pat)), (x6, .inl (cI, 4, .inl T.pret)), (x7, .inl (cI, 5, .inl ts))] := hD
  have f_12 := hts (.fieldLink RX4 12 "DunceSee" "told" "LDunceSee$Roll;") (by decide +kernel)
  have inX4 : ∀ w ∈ wsX40, w ∈ wsX4_bishop := fun w h => List.mem_cons_of_mem _ (List.mem_append_left _ (List.mem_append_right _ h))
  have inX2 : ∀ w ∈ wsX20, w ∈ wsX4_bishop := fun w h => List.mem_cons_of_mem _ (List.mem_append_right _ h)
  have hD5 : T.D ≤ 5 := hok.1
  have hP4 : T.P ≤ 4 := hok.2
  refine lv_aload_n hx hb dX4_bishop_0 rfl (lv_at hl 0 rfl) ?_
  refine zk_callVi (As := []) (rest := []) (bI (decide (0 < T.P))) ⟨hx, hb, hml, hown, hts⟩ hK hP [0, 1, 2, 3, 4, 5, 6, 7] rfl (c_hasSee l D cI x0 x1 x2 x3 x4 x5 x6 x7 x8 x9 x10 x11 x12 x13 x14 x15 x16 x17 x18 x19 x20 x21 x22 x23 x24 x25 x26 x27 x28 x29 x30 T ts tr fl hok) (cwV 0 hts gX4_bishop_X4_hasSee rfl rfl rfl hdX4_hasSee ⟨Nat.le_of_ble_eq_true rfl, Nat.le_of_ble_eq_true rfl⟩) rfl rfl rfl hl.1 rfl (Nat.le_of_ble_eq_true rfl) dX4_bishop_1 ⟨Nat.le_of_ble_eq_true rfl, Nat.le_of_ble_eq_true rfl⟩ ?_
  refine zk_ifneB (tgt := 10) hx hb dX4_bishop_4 (by decide) (fun c_1 => ?_) (fun c_1 => ?_)
  · refine lv_aload_n hx hb dX4_bishop_10 rfl (lv_at hl 0 rfl) ?_
    refine va_get (D := D) (ci := 4) (v := .ref x1) (C := RX4) (T := TX4) (N := 7) hx hb hts inX4 hown hK.1 hP 0 rfl rfl 0 (by decide) f_12 (fun _ h9 => h9) rfl dX4_bishop_11 ?_
    refine zk_effVv (As := []) (rest := []) (S := Unit) (fun _ => True) (fun _ => wRoll cI x1 x2 x3 x4 x5 x6 x7 T (tab T.D (fun d => nI (msk T.P (std T d))) ts)) ⟨hx, hb, hml, hown, hts⟩ hK hP hD hS hA [1, 2, 3, 4, 5, 6, 7] [0] (wc := [(x1, .inr (2, [.int (nI T.D), .int (nI T.P), .int T.db, .int T.rm, .ref x2, .ref x3, .ref x4, .ref x5, .ref x6, .ref x7])), (x2, .inl (cI, 5, .inl T.hard)), (x3, .inl (cI, 4, .inl T.kind)), (x4, .inl (cI, 4, .inl T.wit)), (x5, .inl (cI, 4, .inl T.pat)), (x6, .inl (cI, 4, .inl T.pret)), (x7, .inl (cI, 5, .inl ts))]) (wr := [(x0, .inr (4, [.ref x1, .ref x8, .ref x15, .ref x23, .ref x27, .int tr, .int fl]))]) rfl rfl (by decide) (by decide) (by decide) [0, 1, 2, 3, 4, 5, 6, 7] (fun (_ : Unit) => [(x0, .inr (4, [.ref x1, .ref x8, .ref x15, .ref x23, .ref x27, .int tr, .int fl])), (x1, .inr (2, [.int (nI T.D), .int (nI T.P), .int T.db, .int T.rm, .ref x2, .ref x3, .ref x4, .ref x5, .ref x6, .ref x7])), (x2, .inl (cI, 5, .inl T.hard)), (x3, .inl (cI, 4, .inl T.kind)), (x4, .inl (cI, 4, .inl T.wit)), (x5, .inl (cI, 4, .inl T.pat)), (x6, .inl (cI, 4, .inl T.pret)), (x7, .inl (cI, 5, .inl (tab T.D (fun d => nI (msk T.P (std T d))) ts)))]) (fun _ => rfl) (by decide) (c_settle l D cI sX.heap.size x1 x2 x3 x4 x5 x6 x7 T ts hok) (cwV 0 hts gX4_bishop_X2_settle rfl rfl rfl hdX2_settle ⟨Nat.le_of_ble_eq_true rfl, Nat.le_of_ble_eq_true rfl⟩) rfl rfl rfl hl.1 rfl (Nat.le_of_ble_eq_true rfl) dX4_bishop_14 ⟨Nat.le_of_ble_eq_true rfl, Nat.le_of_ble_eq_true rfl⟩ (fun _ H locs hw_3 hP hD hS => ?_)
    refine lv_aload_n hx hb dX4_bishop_17 rfl (lv_at hl 0 rfl) ?_
    refine va_get (D := D) (ci := 4) (v := .ref x1) (C := RX4) (T := TX4) (N := 7) hx hb hts inX4 hown hK.1 hP 0 rfl rfl 0 (by decide) f_12 (fun _ h9 => h9) rfl dX4_bishop_18 ?_
    refine zk_callVi (As := []) (rest := []) ((bstF (fun p => hbS T (stn T ts) p T.D) T.P).1) ⟨hx, hb, hml, hown, hts⟩ hK hP [1, 2, 3, 4, 5, 6, 7] rfl (c_longestStander l D cI x1 x2 x3 x4 x5 x6 x7 T (stn T ts) hok) (cwV 0 hts gX4_bishop_X2_longestStander rfl rfl rfl hdX2_longestStander ⟨Nat.le_of_ble_eq_true rfl, Nat.le_of_ble_eq_true rfl⟩) rfl rfl rfl hl.1 rfl (Nat.le_of_ble_eq_true rfl) dX4_bishop_21 ⟨Nat.le_of_ble_eq_true rfl, Nat.le_of_ble_eq_true rfl⟩ ?_
    have c_s : 0 < T.P := of_decide_eq_true c_1
    exact zk_retI hx hb hr hS (()) (by unfold bishopF; rw [if_pos c_s]; exact bish_set hok ts) (by rw [if_pos c_s]; exact hP) (by rw [if_pos c_s]; exact hD) dX4_bishop_24 hlocks
  · refine lv_bipush (v := (-3)) hx hb dX4_bishop_7 (by decide) ?_
    have c_s : ¬ 0 < T.P := of_decide_eq_false c_1
    exact zk_retI hx hb hr hS (()) (by unfold bishopF; rw [if_neg c_s]) (by rw [if_neg c_s]; exact hP) (by rw [if_neg c_s]; exact hD) dX4_bishop_9 hlocks
set_option maxHeartbeats 4000000 in
set_option maxRecDepth 100000 in
theorem c_tellP (l : Launch) (D : va_G) (cI : ClassId) (sz : Nat) (x0 : Nat) (x1 : Nat) (x2 : Nat) (x3 : Nat) (x4 : Nat) (x5 : Nat) (x6 : Nat) (x7 : Nat) (x8 : Nat) (x9 : Nat) (x10 : Nat) (x11 : Nat) (x12 : Nat) (x13 : Nat) (x14 : Nat) (x15 : Nat) (x16 : Nat) (x17 : Nat) (x18 : Nat) (x19 : Nat) (x20 : Nat) (x21 : Nat) (x22 : Nat) (x23 : Nat) (x24 : Nat) (x25 : Nat) (x26 : Nat) (x27 : Nat) (x28 : Nat) (x29 : Nat) (x30 : Nat) (T : YS) (ts : Nat → Int32) (tr : Int32) (fl : Int32) (j : Nat) (hj : j < 4) : Met l yX4_tellAsPupil wsX4_tellAsPupil ({ frames := 1, cells := 0, slots := 0, locals := 21 }) (PQ D cI [.ref x0, .int (nI j)] (wXo x0 x1 x8 x15 x23 x27 tr fl ++ wRoll cI x1 x2 x3 x4 x5 x6 x7 T ts) sz) (QI (S := Unit) D (fun r _ => r = T.pat j) (fun _ => wXo x0 x1 x8 x15 x23 x27 (nI 31 * tr + nI 1) fl ++ wRoll cI x1 x2 x3 x4 x5 x6 x7 T ts) (va_A (wXo x0 x1 x8 x15 x23 x27 tr fl ++ wRoll cI x1 x2 x3 x4 x5 x6 x7 T ts) sz)) 0 0 (va_A (wXo x0 x1 x8 x15 x23 x27 tr fl ++ wRoll cI x1 x2 x3 x4 x5 x6 x7 T ts) sz) := by
  refine zk_Q (QI (S := Unit) D (fun r _ => r = T.pat j) (fun _ => wXo x0 x1 x8 x15 x23 x27 (nI 31 * tr + nI 1) fl ++ wRoll cI x1 x2 x3 x4 x5 x6 x7 T ts)) (cc := cX4_tellAsPupil) (maxL := 2) (ret := (some .int)) (by decide) rfl (Nat.le_of_ble_eq_true rfl) ?_
  intro pX eX sX mX bX tX cX hx hb hr hlocks hml hown hmn hts hP hK A hA hD hS ls hl
  have hl : lv_has ls 2 [(0, .ref x0), (1, .int (nI j))] := hl
  have hP : va_P D vwCl [(x0, .inr (4, [.ref x1, .ref x8, .ref x15, .ref x23, .ref x27, .int tr, .int fl])), (x1, .inr (2, [.int (nI T.D), .int (nI T.P), .int T.db, .int T.rm, .ref x2, .ref x3, .ref x4, .ref x5, .ref x6, .ref x7])), (x2, .inl (cI, 5, .inl T.hard)), (x3, .inl (cI, 4, .inl T.kind)), (x4, .inl (cI, 4, .inl T.wit)), (x5, .inl (cI, 4, .inl T.pat)), (x6, .inl (cI, 4, .inl T.pret)), (x7, .inl (cI, 5, .inl ts))] sX.heap := hP
  have hD : va_D A [(x0, .inr (4, [.ref x1, .ref x8, .ref x15, .ref x23, .ref x27, .int tr, .int fl])), (x1, .inr (2, [.int (nI T.D), .int (nI T.P), .int T.db, .int T.rm, .ref x2, .ref x3, .ref x4, .ref x5, .ref x6, .ref x7])), (x2, .inl (cI, 5, .inl T.hard)), (x3, .inl (cI, 4, .inl T.kind)), (x4, .inl (cI, 4, .inl T.wit)), (x5, .inl (cI, 4, .inl T.pat)), (x6, .inl (cI, 4, .inl T.pret)), (x7, .inl (cI, 5, .inl ts))] := hD
  have f_12 := hts (.fieldLink RX4 12 "DunceSee" "told" "LDunceSee$Roll;") (by decide +kernel)
  have f_89 := hK.nest (A := ([.ref x0, .int (nI j)] : List Value).toArray) 15 rfl
  have inX4 : ∀ w ∈ wsX40, w ∈ wsX4_tellAsPupil := fun w h => List.mem_cons_of_mem _ (List.mem_append_left _ (List.mem_append_right _ h))
  have inX2 : ∀ w ∈ wsX20, w ∈ wsX4_tellAsPupil := fun w h => List.mem_cons_of_mem _ (List.mem_append_right _ h)
  refine lv_aload_n hx hb dX4_tellAsPupil_0 rfl (lv_at hl 0 rfl) ?_
  refine lv_iconst (v := nI 1) hx hb dX4_tellAsPupil_1 (by decide) ?_
  refine zk_effVv (As := [.int (nI 1)]) (rest := []) (S := Unit) (fun _ => True) (fun _ => wXo x0 x1 x8 x15 x23 x27 (nI 31 * tr + (nI 1)) fl) ⟨hx, hb, hml, hown, hts⟩ hK hP hD hS hA [0] [1, 2, 3, 4, 5, 6, 7] (wc := [(x0, .inr (4, [.ref x1, .ref x8, .ref x15, .ref x23, .ref x27, .int tr, .int fl]))]) (wr := [(x1, .inr (2, [.int (nI T.D), .int (nI T.P), .int T.db, .int T.rm, .ref x2, .ref x3, .ref x4, .ref x5, .ref x6, .ref x7])), (x2, .inl (cI, 5, .inl T.hard)), (x3, .inl (cI, 4, .inl T.kind)), (x4, .inl (cI, 4, .inl T.wit)), (x5, .inl (cI, 4, .inl T.pat)), (x6, .inl (cI, 4, .inl T.pret)), (x7, .inl (cI, 5, .inl ts))]) rfl rfl (by decide) (by decide) (by decide) [7, 0, 1, 2, 3, 4, 5, 6] (fun (_ : Unit) => [(x0, .inr (4, [.ref x1, .ref x8, .ref x15, .ref x23, .ref x27, .int (nI 31 * tr + (nI 1)), .int fl])), (x1, .inr (2, [.int (nI T.D), .int (nI T.P), .int T.db, .int T.rm, .ref x2, .ref x3, .ref x4, .ref x5, .ref x6, .ref x7])), (x2, .inl (cI, 5, .inl T.hard)), (x3, .inl (cI, 4, .inl T.kind)), (x4, .inl (cI, 4, .inl T.wit)), (x5, .inl (cI, 4, .inl T.pat)), (x6, .inl (cI, 4, .inl T.pret)), (x7, .inl (cI, 5, .inl ts))]) (fun _ => rfl) (by decide) (c_leaveTrace l D cI sX.heap.size x0 x1 x2 x3 x4 x5 x6 x7 x8 x9 x10 x11 x12 x13 x14 x15 x16 x17 x18 x19 x20 x21 x22 x23 x24 x25 x26 x27 x28 x29 x30 tr fl (nI 1) ) (cwV 1 hts gX4_tellAsPupil_X4_leaveTrace rfl rfl rfl hdX4_leaveTrace ⟨Nat.le_of_ble_eq_true rfl, Nat.le_of_ble_eq_true rfl⟩) rfl rfl rfl hl.1 rfl (Nat.le_of_ble_eq_true rfl) dX4_tellAsPupil_2 ⟨Nat.le_of_ble_eq_true rfl, Nat.le_of_ble_eq_true rfl⟩ (fun _ H locs hw_2 hP hD hS => ?_)
  refine lv_aload_n hx hb dX4_tellAsPupil_5 rfl (lv_at hl 0 rfl) ?_
  refine va_get (D := D) (ci := 4) (v := .ref x1) (C := RX4) (T := TX4) (N := 7) hx hb hts inX4 hown hK.1 hP 0 rfl rfl 0 (by decide) f_12 (fun _ h9 => h9) rfl dX4_tellAsPupil_6 ?_
  refine va_getN (D := D) (ci := 2) (v := .ref x5) (C := RX2) (T := TX2) (N := 10) hx hb hts inX2 hown hK.1 hP 1 rfl rfl 7 (by decide) f_89 (fun _ h9 => h9) rfl dX4_tellAsPupil_9 ?_
  refine lv_iload_n hx hb dX4_tellAsPupil_12 rfl (lv_at hl 1 rfl) ?_
  refine zk_iald hx hb hK hP 5 rfl (by omega) (by decide) dX4_tellAsPupil_13 ?_
  exact zk_retI hx hb hr hS (()) (rfl) hP hD dX4_tellAsPupil_14 hlocks
set_option maxHeartbeats 4000000 in
set_option maxRecDepth 100000 in
theorem c_tellD (l : Launch) (D : va_G) (cI : ClassId) (sz : Nat) (x0 : Nat) (x1 : Nat) (x2 : Nat) (x3 : Nat) (x4 : Nat) (x5 : Nat) (x6 : Nat) (x7 : Nat) (x8 : Nat) (x9 : Nat) (x10 : Nat) (x11 : Nat) (x12 : Nat) (x13 : Nat) (x14 : Nat) (x15 : Nat) (x16 : Nat) (x17 : Nat) (x18 : Nat) (x19 : Nat) (x20 : Nat) (x21 : Nat) (x22 : Nat) (x23 : Nat) (x24 : Nat) (x25 : Nat) (x26 : Nat) (x27 : Nat) (x28 : Nat) (x29 : Nat) (x30 : Nat) (T : YS) (ts : Nat → Int32) (tr : Int32) (fl : Int32) (j : Nat) (hj : j < 4) : Met l yX4_tellAsDeacon wsX4_tellAsDeacon ({ frames := 2, cells := 0, slots := 0, locals := 42 }) (PQ D cI [.ref x0, .int (nI j)] (wXo x0 x1 x8 x15 x23 x27 tr fl ++ wRoll cI x1 x2 x3 x4 x5 x6 x7 T ts) sz) (QI (S := Unit) D (fun r _ => r = T.pat j + nI 100) (fun _ => wXo x0 x1 x8 x15 x23 x27 (nI 31 * (nI 31 * tr + nI 2) + nI 1) fl ++ wRoll cI x1 x2 x3 x4 x5 x6 x7 T ts) (va_A (wXo x0 x1 x8 x15 x23 x27 tr fl ++ wRoll cI x1 x2 x3 x4 x5 x6 x7 T ts) sz)) 0 0 (va_A (wXo x0 x1 x8 x15 x23 x27 tr fl ++ wRoll cI x1 x2 x3 x4 x5 x6 x7 T ts) sz) := by
  refine zk_Q (QI (S := Unit) D (fun r _ => r = T.pat j + nI 100) (fun _ => wXo x0 x1 x8 x15 x23 x27 (nI 31 * (nI 31 * tr + nI 2) + nI 1) fl ++ wRoll cI x1 x2 x3 x4 x5 x6 x7 T ts)) (cc := cX4_tellAsDeacon) (maxL := 2) (ret := (some .int)) (by decide) rfl (Nat.le_of_ble_eq_true rfl) ?_
  intro pX eX sX mX bX tX cX hx hb hr hlocks hml hown hmn hts hP hK A hA hD hS ls hl
  have hl : lv_has ls 2 [(0, .ref x0), (1, .int (nI j))] := hl
  have hP : va_P D vwCl [(x0, .inr (4, [.ref x1, .ref x8, .ref x15, .ref x23, .ref x27, .int tr, .int fl])), (x1, .inr (2, [.int (nI T.D), .int (nI T.P), .int T.db, .int T.rm, .ref x2, .ref x3, .ref x4, .ref x5, .ref x6, .ref x7])), (x2, .inl (cI, 5, .inl T.hard)), (x3, .inl (cI, 4, .inl T.kind)), (x4, .inl (cI, 4, .inl T.wit)), (x5, .inl (cI, 4, .inl T.pat)), (x6, .inl (cI, 4, .inl T.pret)), (x7, .inl (cI, 5, .inl ts))] sX.heap := hP
  have hD : va_D A [(x0, .inr (4, [.ref x1, .ref x8, .ref x15, .ref x23, .ref x27, .int tr, .int fl])), (x1, .inr (2, [.int (nI T.D), .int (nI T.P), .int T.db, .int T.rm, .ref x2, .ref x3, .ref x4, .ref x5, .ref x6, .ref x7])), (x2, .inl (cI, 5, .inl T.hard)), (x3, .inl (cI, 4, .inl T.kind)), (x4, .inl (cI, 4, .inl T.wit)), (x5, .inl (cI, 4, .inl T.pat)), (x6, .inl (cI, 4, .inl T.pret)), (x7, .inl (cI, 5, .inl ts))] := hD
  have inX4 : ∀ w ∈ wsX40, w ∈ wsX4_tellAsDeacon := fun w h => List.mem_cons_of_mem _ (List.mem_append_left _ (List.mem_append_right _ h))
  have inX2 : ∀ w ∈ wsX20, w ∈ wsX4_tellAsDeacon := fun w h => List.mem_cons_of_mem _ (List.mem_append_right _ h)
  refine lv_aload_n hx hb dX4_tellAsDeacon_0 rfl (lv_at hl 0 rfl) ?_
  refine lv_iconst (v := nI 2) hx hb dX4_tellAsDeacon_1 (by decide) ?_
  refine zk_effVv (As := [.int (nI 2)]) (rest := []) (S := Unit) (fun _ => True) (fun _ => wXo x0 x1 x8 x15 x23 x27 (nI 31 * tr + (nI 2)) fl) ⟨hx, hb, hml, hown, hts⟩ hK hP hD hS hA [0] [1, 2, 3, 4, 5, 6, 7] (wc := [(x0, .inr (4, [.ref x1, .ref x8, .ref x15, .ref x23, .ref x27, .int tr, .int fl]))]) (wr := [(x1, .inr (2, [.int (nI T.D), .int (nI T.P), .int T.db, .int T.rm, .ref x2, .ref x3, .ref x4, .ref x5, .ref x6, .ref x7])), (x2, .inl (cI, 5, .inl T.hard)), (x3, .inl (cI, 4, .inl T.kind)), (x4, .inl (cI, 4, .inl T.wit)), (x5, .inl (cI, 4, .inl T.pat)), (x6, .inl (cI, 4, .inl T.pret)), (x7, .inl (cI, 5, .inl ts))]) rfl rfl (by decide) (by decide) (by decide) [7, 0, 1, 2, 3, 4, 5, 6] (fun (_ : Unit) => [(x0, .inr (4, [.ref x1, .ref x8, .ref x15, .ref x23, .ref x27, .int (nI 31 * tr + (nI 2)), .int fl])), (x1, .inr (2, [.int (nI T.D), .int (nI T.P), .int T.db, .int T.rm, .ref x2, .ref x3, .ref x4, .ref x5, .ref x6, .ref x7])), (x2, .inl (cI, 5, .inl T.hard)), (x3, .inl (cI, 4, .inl T.kind)), (x4, .inl (cI, 4, .inl T.wit)), (x5, .inl (cI, 4, .inl T.pat)), (x6, .inl (cI, 4, .inl T.pret)), (x7, .inl (cI, 5, .inl ts))]) (fun _ => rfl) (by decide) (c_leaveTrace l D cI sX.heap.size x0 x1 x2 x3 x4 x5 x6 x7 x8 x9 x10 x11 x12 x13 x14 x15 x16 x17 x18 x19 x20 x21 x22 x23 x24 x25 x26 x27 x28 x29 x30 tr fl (nI 2) ) (cwV 1 hts gX4_tellAsDeacon_X4_leaveTrace rfl rfl rfl hdX4_leaveTrace ⟨Nat.le_of_ble_eq_true rfl, Nat.le_of_ble_eq_true rfl⟩) rfl rfl rfl hl.1 rfl (Nat.le_of_ble_eq_true rfl) dX4_tellAsDeacon_2 ⟨Nat.le_of_ble_eq_true rfl, Nat.le_of_ble_eq_true rfl⟩ (fun _ H locs hw_2 hP hD hS => ?_)
  refine lv_aload_n hx hb dX4_tellAsDeacon_5 rfl (lv_at hl 0 rfl) ?_
  refine lv_iload_n hx hb dX4_tellAsDeacon_6 rfl (lv_at hl 1 rfl) ?_
  refine zk_effVi (As := [.int (nI j)]) (rest := []) (S := Unit) (fun r _ => r = T.pat j) (fun _ => wXo x0 x1 x8 x15 x23 x27 (nI 31 * (nI 31 * tr + (nI 2)) + nI 1) fl ++ wRoll cI x1 x2 x3 x4 x5 x6 x7 T ts) ⟨hx, hb, hml, hown, hts⟩ hK hP hD hS hA [0, 1, 2, 3, 4, 5, 6, 7] [] (wc := [(x0, .inr (4, [.ref x1, .ref x8, .ref x15, .ref x23, .ref x27, .int (nI 31 * tr + (nI 2)), .int fl])), (x1, .inr (2, [.int (nI T.D), .int (nI T.P), .int T.db, .int T.rm, .ref x2, .ref x3, .ref x4, .ref x5, .ref x6, .ref x7])), (x2, .inl (cI, 5, .inl T.hard)), (x3, .inl (cI, 4, .inl T.kind)), (x4, .inl (cI, 4, .inl T.wit)), (x5, .inl (cI, 4, .inl T.pat)), (x6, .inl (cI, 4, .inl T.pret)), (x7, .inl (cI, 5, .inl ts))]) (wr := []) rfl rfl (by decide) (by decide) (by decide) [0, 1, 2, 3, 4, 5, 6, 7] (fun (_ : Unit) => [(x0, .inr (4, [.ref x1, .ref x8, .ref x15, .ref x23, .ref x27, .int (nI 31 * (nI 31 * tr + (nI 2)) + nI 1), .int fl])), (x1, .inr (2, [.int (nI T.D), .int (nI T.P), .int T.db, .int T.rm, .ref x2, .ref x3, .ref x4, .ref x5, .ref x6, .ref x7])), (x2, .inl (cI, 5, .inl T.hard)), (x3, .inl (cI, 4, .inl T.kind)), (x4, .inl (cI, 4, .inl T.wit)), (x5, .inl (cI, 4, .inl T.pat)), (x6, .inl (cI, 4, .inl T.pret)), (x7, .inl (cI, 5, .inl ts))]) (fun _ => rfl) (by decide) (c_tellP l D cI H.size x0 x1 x2 x3 x4 x5 x6 x7 x8 x9 x10 x11 x12 x13 x14 x15 x16 x17 x18 x19 x20 x21 x22 x23 x24 x25 x26 x27 x28 x29 x30 T ts (nI 31 * tr + (nI 2)) fl j hj) (cwV 1 hts gX4_tellAsDeacon_X4_tellAsPupil rfl rfl rfl hdX4_tellAsPupil ⟨Nat.le_of_ble_eq_true rfl, Nat.le_of_ble_eq_true rfl⟩) rfl rfl rfl hl.1 rfl (Nat.le_of_ble_eq_true rfl) dX4_tellAsDeacon_7 ⟨Nat.le_of_ble_eq_true rfl, Nat.le_of_ble_eq_true rfl⟩ (fun r_3 _ H locs hw_4 hP hD hS => ?_)
  have e_r_3 : r_3 = T.pat j := hw_4
  rw [e_r_3]
  refine lv_bipush (v := nI 100) hx hb dX4_tellAsDeacon_10 (by decide) ?_
  refine lv_iadd hx hb dX4_tellAsDeacon_12 ?_
  exact zk_retI hx hb hr hS (()) (rfl) hP hD dX4_tellAsDeacon_13 hlocks
set_option maxHeartbeats 4000000 in
set_option maxRecDepth 100000 in
theorem c_tellC (l : Launch) (D : va_G) (cI : ClassId) (sz : Nat) (x0 : Nat) (x1 : Nat) (x2 : Nat) (x3 : Nat) (x4 : Nat) (x5 : Nat) (x6 : Nat) (x7 : Nat) (x8 : Nat) (x9 : Nat) (x10 : Nat) (x11 : Nat) (x12 : Nat) (x13 : Nat) (x14 : Nat) (x15 : Nat) (x16 : Nat) (x17 : Nat) (x18 : Nat) (x19 : Nat) (x20 : Nat) (x21 : Nat) (x22 : Nat) (x23 : Nat) (x24 : Nat) (x25 : Nat) (x26 : Nat) (x27 : Nat) (x28 : Nat) (x29 : Nat) (x30 : Nat) (T : YS) (ts : Nat → Int32) (tr : Int32) (fl : Int32) (j : Nat) (hj : j < 4) : Met l yX4_tellAsCurate wsX4_tellAsCurate ({ frames := 3, cells := 0, slots := 0, locals := 63 }) (PQ D cI [.ref x0, .int (nI j)] (wXo x0 x1 x8 x15 x23 x27 tr fl ++ wRoll cI x1 x2 x3 x4 x5 x6 x7 T ts) sz) (QI (S := Unit) D (fun r _ => r = T.pat j + nI 100 + T.pat j) (fun _ => wXo x0 x1 x8 x15 x23 x27 (nI 31 * (nI 31 * (nI 31 * (nI 31 * tr + nI 3) + nI 2) + nI 1) + nI 1) fl ++ wRoll cI x1 x2 x3 x4 x5 x6 x7 T ts) (va_A (wXo x0 x1 x8 x15 x23 x27 tr fl ++ wRoll cI x1 x2 x3 x4 x5 x6 x7 T ts) sz)) 0 0 (va_A (wXo x0 x1 x8 x15 x23 x27 tr fl ++ wRoll cI x1 x2 x3 x4 x5 x6 x7 T ts) sz) := by
  refine zk_Q (QI (S := Unit) D (fun r _ => r = T.pat j + nI 100 + T.pat j) (fun _ => wXo x0 x1 x8 x15 x23 x27 (nI 31 * (nI 31 * (nI 31 * (nI 31 * tr + nI 3) + nI 2) + nI 1) + nI 1) fl ++ wRoll cI x1 x2 x3 x4 x5 x6 x7 T ts)) (cc := cX4_tellAsCurate) (maxL := 3) (ret := (some .int)) (by decide) rfl (Nat.le_of_ble_eq_true rfl) ?_
  intro pX eX sX mX bX tX cX hx hb hr hlocks hml hown hmn hts hP hK A hA hD hS ls hl
  have hl : lv_has ls 3 [(0, .ref x0), (1, .int (nI j))] := hl
  have hP : va_P D vwCl [(x0, .inr (4, [.ref x1, .ref x8, .ref x15, .ref x23, .ref x27, .int tr, .int fl])), (x1, .inr (2, [.int (nI T.D), .int (nI T.P), .int T.db, .int T.rm, .ref x2, .ref x3, .ref x4, .ref x5, .ref x6, .ref x7])), (x2, .inl (cI, 5, .inl T.hard)), (x3, .inl (cI, 4, .inl T.kind)), (x4, .inl (cI, 4, .inl T.wit)), (x5, .inl (cI, 4, .inl T.pat)), (x6, .inl (cI, 4, .inl T.pret)), (x7, .inl (cI, 5, .inl ts))] sX.heap := hP
  have hD : va_D A [(x0, .inr (4, [.ref x1, .ref x8, .ref x15, .ref x23, .ref x27, .int tr, .int fl])), (x1, .inr (2, [.int (nI T.D), .int (nI T.P), .int T.db, .int T.rm, .ref x2, .ref x3, .ref x4, .ref x5, .ref x6, .ref x7])), (x2, .inl (cI, 5, .inl T.hard)), (x3, .inl (cI, 4, .inl T.kind)), (x4, .inl (cI, 4, .inl T.wit)), (x5, .inl (cI, 4, .inl T.pat)), (x6, .inl (cI, 4, .inl T.pret)), (x7, .inl (cI, 5, .inl ts))] := hD
  have inX4 : ∀ w ∈ wsX40, w ∈ wsX4_tellAsCurate := fun w h => List.mem_cons_of_mem _ (List.mem_append_left _ (List.mem_append_right _ h))
  have inX2 : ∀ w ∈ wsX20, w ∈ wsX4_tellAsCurate := fun w h => List.mem_cons_of_mem _ (List.mem_append_right _ h)
  refine lv_aload_n hx hb dX4_tellAsCurate_0 rfl (lv_at hl 0 rfl) ?_
  refine lv_iconst (v := nI 3) hx hb dX4_tellAsCurate_1 (by decide) ?_
  refine zk_effVv (As := [.int (nI 3)]) (rest := []) (S := Unit) (fun _ => True) (fun _ => wXo x0 x1 x8 x15 x23 x27 (nI 31 * tr + (nI 3)) fl) ⟨hx, hb, hml, hown, hts⟩ hK hP hD hS hA [0] [1, 2, 3, 4, 5, 6, 7] (wc := [(x0, .inr (4, [.ref x1, .ref x8, .ref x15, .ref x23, .ref x27, .int tr, .int fl]))]) (wr := [(x1, .inr (2, [.int (nI T.D), .int (nI T.P), .int T.db, .int T.rm, .ref x2, .ref x3, .ref x4, .ref x5, .ref x6, .ref x7])), (x2, .inl (cI, 5, .inl T.hard)), (x3, .inl (cI, 4, .inl T.kind)), (x4, .inl (cI, 4, .inl T.wit)), (x5, .inl (cI, 4, .inl T.pat)), (x6, .inl (cI, 4, .inl T.pret)), (x7, .inl (cI, 5, .inl ts))]) rfl rfl (by decide) (by decide) (by decide) [7, 0, 1, 2, 3, 4, 5, 6] (fun (_ : Unit) => [(x0, .inr (4, [.ref x1, .ref x8, .ref x15, .ref x23, .ref x27, .int (nI 31 * tr + (nI 3)), .int fl])), (x1, .inr (2, [.int (nI T.D), .int (nI T.P), .int T.db, .int T.rm, .ref x2, .ref x3, .ref x4, .ref x5, .ref x6, .ref x7])), (x2, .inl (cI, 5, .inl T.hard)), (x3, .inl (cI, 4, .inl T.kind)), (x4, .inl (cI, 4, .inl T.wit)), (x5, .inl (cI, 4, .inl T.pat)), (x6, .inl (cI, 4, .inl T.pret)), (x7, .inl (cI, 5, .inl ts))]) (fun _ => rfl) (by decide) (c_leaveTrace l D cI sX.heap.size x0 x1 x2 x3 x4 x5 x6 x7 x8 x9 x10 x11 x12 x13 x14 x15 x16 x17 x18 x19 x20 x21 x22 x23 x24 x25 x26 x27 x28 x29 x30 tr fl (nI 3) ) (cwV 1 hts gX4_tellAsCurate_X4_leaveTrace rfl rfl rfl hdX4_leaveTrace ⟨Nat.le_of_ble_eq_true rfl, Nat.le_of_ble_eq_true rfl⟩) rfl rfl rfl hl.1 rfl (Nat.le_of_ble_eq_true rfl) dX4_tellAsCurate_2 ⟨Nat.le_of_ble_eq_true rfl, Nat.le_of_ble_eq_true rfl⟩ (fun _ H locs hw_2 hP hD hS => ?_)
  refine lv_aload_n hx hb dX4_tellAsCurate_5 rfl (lv_at hl 0 rfl) ?_
  refine lv_iload_n hx hb dX4_tellAsCurate_6 rfl (lv_at hl 1 rfl) ?_
  refine zk_effVi (As := [.int (nI j)]) (rest := []) (S := Unit) (fun r _ => r = T.pat j + nI 100) (fun _ => wXo x0 x1 x8 x15 x23 x27 (nI 31 * (nI 31 * (nI 31 * tr + (nI 3)) + nI 2) + nI 1) fl ++ wRoll cI x1 x2 x3 x4 x5 x6 x7 T ts) ⟨hx, hb, hml, hown, hts⟩ hK hP hD hS hA [0, 1, 2, 3, 4, 5, 6, 7] [] (wc := [(x0, .inr (4, [.ref x1, .ref x8, .ref x15, .ref x23, .ref x27, .int (nI 31 * tr + (nI 3)), .int fl])), (x1, .inr (2, [.int (nI T.D), .int (nI T.P), .int T.db, .int T.rm, .ref x2, .ref x3, .ref x4, .ref x5, .ref x6, .ref x7])), (x2, .inl (cI, 5, .inl T.hard)), (x3, .inl (cI, 4, .inl T.kind)), (x4, .inl (cI, 4, .inl T.wit)), (x5, .inl (cI, 4, .inl T.pat)), (x6, .inl (cI, 4, .inl T.pret)), (x7, .inl (cI, 5, .inl ts))]) (wr := []) rfl rfl (by decide) (by decide) (by decide) [0, 1, 2, 3, 4, 5, 6, 7] (fun (_ : Unit) => [(x0, .inr (4, [.ref x1, .ref x8, .ref x15, .ref x23, .ref x27, .int (nI 31 * (nI 31 * (nI 31 * tr + (nI 3)) + nI 2) + nI 1), .int fl])), (x1, .inr (2, [.int (nI T.D), .int (nI T.P), .int T.db, .int T.rm, .ref x2, .ref x3, .ref x4, .ref x5, .ref x6, .ref x7])), (x2, .inl (cI, 5, .inl T.hard)), (x3, .inl (cI, 4, .inl T.kind)), (x4, .inl (cI, 4, .inl T.wit)), (x5, .inl (cI, 4, .inl T.pat)), (x6, .inl (cI, 4, .inl T.pret)), (x7, .inl (cI, 5, .inl ts))]) (fun _ => rfl) (by decide) (c_tellD l D cI H.size x0 x1 x2 x3 x4 x5 x6 x7 x8 x9 x10 x11 x12 x13 x14 x15 x16 x17 x18 x19 x20 x21 x22 x23 x24 x25 x26 x27 x28 x29 x30 T ts (nI 31 * tr + (nI 3)) fl j hj) (cwV 1 hts gX4_tellAsCurate_X4_tellAsDeacon rfl rfl rfl hdX4_tellAsDeacon ⟨Nat.le_of_ble_eq_true rfl, Nat.le_of_ble_eq_true rfl⟩) rfl rfl rfl hl.1 rfl (Nat.le_of_ble_eq_true rfl) dX4_tellAsCurate_7 ⟨Nat.le_of_ble_eq_true rfl, Nat.le_of_ble_eq_true rfl⟩ (fun r_3 _ H locs hw_4 hP hD hS => ?_)
  have e_r_3 : r_3 = T.pat j + nI 100 := hw_4
  rw [e_r_3]
  refine lv_istore_n (lv' := [(2, .int (T.pat j + nI 100)), (0, .ref x0), (1, .int (nI j))]) hx hb dX4_tellAsCurate_10 rfl hl (by decide) rfl (fun ls hl => ?_)
  refine lv_iload_n hx hb dX4_tellAsCurate_11 rfl (lv_at hl 0 rfl) ?_
  refine lv_aload_n hx hb dX4_tellAsCurate_12 rfl (lv_at hl 1 rfl) ?_
  refine lv_iload_n hx hb dX4_tellAsCurate_13 rfl (lv_at hl 2 rfl) ?_
  refine zk_effVi (As := [.int (nI j)]) (rest := [.int (T.pat j + nI 100)]) (S := Unit) (fun r _ => r = T.pat j) (fun _ => wXo x0 x1 x8 x15 x23 x27 (nI 31 * (nI 31 * (nI 31 * (nI 31 * tr + (nI 3)) + nI 2) + nI 1) + nI 1) fl ++ wRoll cI x1 x2 x3 x4 x5 x6 x7 T ts) ⟨hx, hb, hml, hown, hts⟩ hK hP hD hS hA [0, 1, 2, 3, 4, 5, 6, 7] [] (wc := [(x0, .inr (4, [.ref x1, .ref x8, .ref x15, .ref x23, .ref x27, .int (nI 31 * (nI 31 * (nI 31 * tr + (nI 3)) + nI 2) + nI 1), .int fl])), (x1, .inr (2, [.int (nI T.D), .int (nI T.P), .int T.db, .int T.rm, .ref x2, .ref x3, .ref x4, .ref x5, .ref x6, .ref x7])), (x2, .inl (cI, 5, .inl T.hard)), (x3, .inl (cI, 4, .inl T.kind)), (x4, .inl (cI, 4, .inl T.wit)), (x5, .inl (cI, 4, .inl T.pat)), (x6, .inl (cI, 4, .inl T.pret)), (x7, .inl (cI, 5, .inl ts))]) (wr := []) rfl rfl (by decide) (by decide) (by decide) [0, 1, 2, 3, 4, 5, 6, 7] (fun (_ : Unit) => [(x0, .inr (4, [.ref x1, .ref x8, .ref x15, .ref x23, .ref x27, .int (nI 31 * (nI 31 * (nI 31 * (nI 31 * tr + (nI 3)) + nI 2) + nI 1) + nI 1), .int fl])), (x1, .inr (2, [.int (nI T.D), .int (nI T.P), .int T.db, .int T.rm, .ref x2, .ref x3, .ref x4, .ref x5, .ref x6, .ref x7])), (x2, .inl (cI, 5, .inl T.hard)), (x3, .inl (cI, 4, .inl T.kind)), (x4, .inl (cI, 4, .inl T.wit)), (x5, .inl (cI, 4, .inl T.pat)), (x6, .inl (cI, 4, .inl T.pret)), (x7, .inl (cI, 5, .inl ts))]) (fun _ => rfl) (by decide) (c_tellP l D cI H.size x0 x1 x2 x3 x4 x5 x6 x7 x8 x9 x10 x11 x12 x13 x14 x15 x16 x17 x18 x19 x20 x21 x22 x23 x24 x25 x26 x27 x28 x29 x30 T ts (nI 31 * (nI 31 * (nI 31 * tr + (nI 3)) + nI 2) + nI 1) fl j hj) (cwV 1 hts gX4_tellAsCurate_X4_tellAsPupil rfl rfl rfl hdX4_tellAsPupil ⟨Nat.le_of_ble_eq_true rfl, Nat.le_of_ble_eq_true rfl⟩) rfl rfl rfl hl.1 rfl (Nat.le_of_ble_eq_true rfl) dX4_tellAsCurate_14 ⟨Nat.le_of_ble_eq_true rfl, Nat.le_of_ble_eq_true rfl⟩ (fun r_5 _ H locs hw_6 hP hD hS => ?_)
  have e_r_5 : r_5 = T.pat j := hw_6
  rw [e_r_5]
  refine lv_iadd hx hb dX4_tellAsCurate_17 ?_
  exact zk_retI hx hb hr hS (()) (rfl) hP hD dX4_tellAsCurate_18 hlocks
set_option maxHeartbeats 4000000 in
set_option maxRecDepth 100000 in
theorem cx_tell (l : Launch) (D : va_G) (cI : ClassId) (sz : Nat) (x0 : Nat) (x1 : Nat) (x2 : Nat) (x3 : Nat) (x4 : Nat) (x5 : Nat) (x6 : Nat) (x7 : Nat) (x8 : Nat) (x9 : Nat) (x10 : Nat) (x11 : Nat) (x12 : Nat) (x13 : Nat) (x14 : Nat) (x15 : Nat) (x16 : Nat) (x17 : Nat) (x18 : Nat) (x19 : Nat) (x20 : Nat) (x21 : Nat) (x22 : Nat) (x23 : Nat) (x24 : Nat) (x25 : Nat) (x26 : Nat) (x27 : Nat) (x28 : Nat) (x29 : Nat) (x30 : Nat) (T : YS) (ts : Nat → Int32) (tr : Int32) (fl : Int32) (p : Int32) (hok : OkY T) : Met l yX4_tell wsX4_tell ({ frames := 4, cells := 0, slots := 0, locals := 85 }) (PQ D cI [.ref x0, .int p] (wXo x0 x1 x8 x15 x23 x27 tr fl ++ wRoll cI x1 x2 x3 x4 x5 x6 x7 T ts) sz) (QI (S := Unit) D (fun r _ => r = (tellF T tr p).1) (fun _ => wXo x0 x1 x8 x15 x23 x27 ((tellF T tr p).2) fl ++ wRoll cI x1 x2 x3 x4 x5 x6 x7 T ts) (va_A (wXo x0 x1 x8 x15 x23 x27 tr fl ++ wRoll cI x1 x2 x3 x4 x5 x6 x7 T ts) sz)) 0 0 (va_A (wXo x0 x1 x8 x15 x23 x27 tr fl ++ wRoll cI x1 x2 x3 x4 x5 x6 x7 T ts) sz) := by
  refine zk_Q (QI (S := Unit) D (fun r _ => r = (tellF T tr p).1) (fun _ => wXo x0 x1 x8 x15 x23 x27 ((tellF T tr p).2) fl ++ wRoll cI x1 x2 x3 x4 x5 x6 x7 T ts)) (cc := cX4_tell) (maxL := 2) (ret := (some .int)) (by decide) rfl (Nat.le_of_ble_eq_true rfl) ?_
  intro pX eX sX mX bX tX cX hx hb hr hlocks hml hown hmn hts hP hK A hA hD hS ls hl
  have hl : lv_has ls 2 [(0, .ref x0), (1, .int p)] := hl
  have hP : va_P D vwCl [(x0, .inr (4, [.ref x1, .ref x8, .ref x15, .ref x23, .ref x27, .int tr, .int fl])), (x1, .inr (2, [.int (nI T.D), .int (nI T.P), .int T.db, .int T.rm, .ref x2, .ref x3, .ref x4, .ref x5, .ref x6, .ref x7])), (x2, .inl (cI, 5, .inl T.hard)), (x3, .inl (cI, 4, .inl T.kind)), (x4, .inl (cI, 4, .inl T.wit)), (x5, .inl (cI, 4, .inl T.pat)), (x6, .inl (cI, 4, .inl T.pret)), (x7, .inl (cI, 5, .inl ts))] sX.heap := hP
  have hD : va_D A [(x0, .inr (4, [.ref x1, .ref x8, .ref x15, .ref x23, .ref x27, .int tr, .int fl])), (x1, .inr (2, [.int (nI T.D), .int (nI T.P), .int T.db, .int T.rm, .ref x2, .ref x3, .ref x4, .ref x5, .ref x6, .ref x7])), (x2, .inl (cI, 5, .inl T.hard)), (x3, .inl (cI, 4, .inl T.kind)), (x4, .inl (cI, 4, .inl T.wit)), (x5, .inl (cI, 4, .inl T.pat)), (x6, .inl (cI, 4, .inl T.pret)), (x7, .inl (cI, 5, .inl ts))] := hD
  have f_12 := hts (.fieldLink RX4 12 "DunceSee" "told" "LDunceSee$Roll;") (by decide +kernel)
  have f_82 := hK.nest (A := ([.ref x0, .int p] : List Value).toArray) 11 rfl
  have inX4 : ∀ w ∈ wsX40, w ∈ wsX4_tell := fun w h => List.mem_cons_of_mem _ (List.mem_append_left _ (List.mem_append_right _ h))
  have inX2 : ∀ w ∈ wsX20, w ∈ wsX4_tell := fun w h => List.mem_cons_of_mem _ (List.mem_append_right _ h)
  have hD5 : T.D ≤ 5 := hok.1
  have hP4 : T.P ≤ 4 := hok.2
  refine lv_aload_n hx hb dX4_tell_0 rfl (lv_at hl 0 rfl) ?_
  refine lv_iload_n hx hb dX4_tell_1 rfl (lv_at hl 1 rfl) ?_
  refine zk_callVi (As := [.int p]) (rest := []) (bI (isP T.P p)) ⟨hx, hb, hml, hown, hts⟩ hK hP [0, 1, 2, 3, 4, 5, 6, 7] rfl (c_isPupil l D cI x0 x1 x2 x3 x4 x5 x6 x7 x8 x9 x10 x11 x12 x13 x14 x15 x16 x17 x18 x19 x20 x21 x22 x23 x24 x25 x26 x27 x28 x29 x30 T ts tr fl p ) (cwV 1 hts gX4_tell_X4_isPupil rfl rfl rfl hdX4_isPupil ⟨Nat.le_of_ble_eq_true rfl, Nat.le_of_ble_eq_true rfl⟩) rfl rfl rfl hl.1 rfl (Nat.le_of_ble_eq_true rfl) dX4_tell_2 ⟨Nat.le_of_ble_eq_true rfl, Nat.le_of_ble_eq_true rfl⟩ ?_
  refine zk_ifneB (tgt := 10) hx hb dX4_tell_5 (by decide) (fun c_1 => ?_) (fun c_1 => ?_)
  · obtain ⟨j, hj, e_j, g_j⟩ := isP_of (by omega) c_1
    rw [e_j] at hl
    refine lv_aload_n hx hb dX4_tell_10 rfl (lv_at hl 0 rfl) ?_
    refine va_get (D := D) (ci := 4) (v := .ref x1) (C := RX4) (T := TX4) (N := 7) hx hb hts inX4 hown hK.1 hP 0 rfl rfl 0 (by decide) f_12 (fun _ h9 => h9) rfl dX4_tell_11 ?_
    refine va_getN (D := D) (ci := 2) (v := .ref x3) (C := RX2) (T := TX2) (N := 10) hx hb hts inX2 hown hK.1 hP 1 rfl rfl 5 (by decide) f_82 (fun _ h9 => h9) rfl dX4_tell_14 ?_
    refine lv_iload_n hx hb dX4_tell_17 rfl (lv_at hl 1 rfl) ?_
    refine zk_iald hx hb hK hP 3 rfl (by omega) (by decide) dX4_tell_18 ?_
    by_cases c_2 : T.kind j = nI 1
    · refine lv_lookup (tgt := 50) hx hb dX4_tell_19 rfl (by rw [c_2]; try rfl) (by decide) ?_
      refine lv_aload_n hx hb dX4_tell_50 rfl (lv_at hl 0 rfl) ?_
      refine lv_iload_n hx hb dX4_tell_51 rfl (lv_at hl 1 rfl) ?_
      refine zk_effVi (As := [.int (nI j)]) (rest := []) (S := Unit) (fun r _ => r = T.pat j + nI 100) (fun _ => wXo x0 x1 x8 x15 x23 x27 (nI 31 * (nI 31 * tr + nI 2) + nI 1) fl ++ wRoll cI x1 x2 x3 x4 x5 x6 x7 T ts) ⟨hx, hb, hml, hown, hts⟩ hK hP hD hS hA [0, 1, 2, 3, 4, 5, 6, 7] [] (wc := [(x0, .inr (4, [.ref x1, .ref x8, .ref x15, .ref x23, .ref x27, .int tr, .int fl])), (x1, .inr (2, [.int (nI T.D), .int (nI T.P), .int T.db, .int T.rm, .ref x2, .ref x3, .ref x4, .ref x5, .ref x6, .ref x7])), (x2, .inl (cI, 5, .inl T.hard)), (x3, .inl (cI, 4, .inl T.kind)), (x4, .inl (cI, 4, .inl T.wit)), (x5, .inl (cI, 4, .inl T.pat)), (x6, .inl (cI, 4, .inl T.pret)), (x7, .inl (cI, 5, .inl ts))]) (wr := []) rfl rfl (by decide) (by decide) (by decide) [0, 1, 2, 3, 4, 5, 6, 7] (fun (_ : Unit) => [(x0, .inr (4, [.ref x1, .ref x8, .ref x15, .ref x23, .ref x27, .int (nI 31 * (nI 31 * tr + nI 2) + nI 1), .int fl])), (x1, .inr (2, [.int (nI T.D), .int (nI T.P), .int T.db, .int T.rm, .ref x2, .ref x3, .ref x4, .ref x5, .ref x6, .ref x7])), (x2, .inl (cI, 5, .inl T.hard)), (x3, .inl (cI, 4, .inl T.kind)), (x4, .inl (cI, 4, .inl T.wit)), (x5, .inl (cI, 4, .inl T.pat)), (x6, .inl (cI, 4, .inl T.pret)), (x7, .inl (cI, 5, .inl ts))]) (fun _ => rfl) (by decide) (c_tellD l D cI sX.heap.size x0 x1 x2 x3 x4 x5 x6 x7 x8 x9 x10 x11 x12 x13 x14 x15 x16 x17 x18 x19 x20 x21 x22 x23 x24 x25 x26 x27 x28 x29 x30 T ts tr fl j (by omega)) (cwV 1 hts gX4_tell_X4_tellAsDeacon rfl rfl rfl hdX4_tellAsDeacon ⟨Nat.le_of_ble_eq_true rfl, Nat.le_of_ble_eq_true rfl⟩) rfl rfl rfl hl.1 rfl (Nat.le_of_ble_eq_true rfl) dX4_tell_52 ⟨Nat.le_of_ble_eq_true rfl, Nat.le_of_ble_eq_true rfl⟩ (fun r_3 _ H locs hw_4 hP hD hS => ?_)
      have e_r_3 : r_3 = T.pat j + nI 100 := hw_4
      rw [e_r_3]
      have e_t : tellF T tr p = (T.pat j + nI 100, nI 31 * (nI 31 * tr + nI 2) + nI 1) := by unfold tellF; rw [c_1, g_j]; rw [if_pos rfl, if_pos c_2]
      exact zk_retI hx hb hr hS (()) (by rw [e_t]) (by rw [e_t]; exact hP) (by rw [e_t]; exact hD) dX4_tell_55 hlocks
    by_cases c_5 : T.kind j = nI 2
    · refine lv_lookup (tgt := 44) hx hb dX4_tell_19 rfl (by rw [c_5]; try rfl) (by decide) ?_
      refine lv_aload_n hx hb dX4_tell_44 rfl (lv_at hl 0 rfl) ?_
      refine lv_iload_n hx hb dX4_tell_45 rfl (lv_at hl 1 rfl) ?_
      refine zk_effVi (As := [.int (nI j)]) (rest := []) (S := Unit) (fun r _ => r = T.pat j + nI 100 + T.pat j) (fun _ => wXo x0 x1 x8 x15 x23 x27 (nI 31 * (nI 31 * (nI 31 * (nI 31 * tr + nI 3) + nI 2) + nI 1) + nI 1) fl ++ wRoll cI x1 x2 x3 x4 x5 x6 x7 T ts) ⟨hx, hb, hml, hown, hts⟩ hK hP hD hS hA [0, 1, 2, 3, 4, 5, 6, 7] [] (wc := [(x0, .inr (4, [.ref x1, .ref x8, .ref x15, .ref x23, .ref x27, .int tr, .int fl])), (x1, .inr (2, [.int (nI T.D), .int (nI T.P), .int T.db, .int T.rm, .ref x2, .ref x3, .ref x4, .ref x5, .ref x6, .ref x7])), (x2, .inl (cI, 5, .inl T.hard)), (x3, .inl (cI, 4, .inl T.kind)), (x4, .inl (cI, 4, .inl T.wit)), (x5, .inl (cI, 4, .inl T.pat)), (x6, .inl (cI, 4, .inl T.pret)), (x7, .inl (cI, 5, .inl ts))]) (wr := []) rfl rfl (by decide) (by decide) (by decide) [0, 1, 2, 3, 4, 5, 6, 7] (fun (_ : Unit) => [(x0, .inr (4, [.ref x1, .ref x8, .ref x15, .ref x23, .ref x27, .int (nI 31 * (nI 31 * (nI 31 * (nI 31 * tr + nI 3) + nI 2) + nI 1) + nI 1), .int fl])), (x1, .inr (2, [.int (nI T.D), .int (nI T.P), .int T.db, .int T.rm, .ref x2, .ref x3, .ref x4, .ref x5, .ref x6, .ref x7])), (x2, .inl (cI, 5, .inl T.hard)), (x3, .inl (cI, 4, .inl T.kind)), (x4, .inl (cI, 4, .inl T.wit)), (x5, .inl (cI, 4, .inl T.pat)), (x6, .inl (cI, 4, .inl T.pret)), (x7, .inl (cI, 5, .inl ts))]) (fun _ => rfl) (by decide) (c_tellC l D cI sX.heap.size x0 x1 x2 x3 x4 x5 x6 x7 x8 x9 x10 x11 x12 x13 x14 x15 x16 x17 x18 x19 x20 x21 x22 x23 x24 x25 x26 x27 x28 x29 x30 T ts tr fl j (by omega)) (cwV 1 hts gX4_tell_X4_tellAsCurate rfl rfl rfl hdX4_tellAsCurate ⟨Nat.le_of_ble_eq_true rfl, Nat.le_of_ble_eq_true rfl⟩) rfl rfl rfl hl.1 rfl (Nat.le_of_ble_eq_true rfl) dX4_tell_46 ⟨Nat.le_of_ble_eq_true rfl, Nat.le_of_ble_eq_true rfl⟩ (fun r_6 _ H locs hw_7 hP hD hS => ?_)
      have e_r_6 : r_6 = T.pat j + nI 100 + T.pat j := hw_7
      rw [e_r_6]
      have e_t : tellF T tr p = (T.pat j + nI 100 + T.pat j, nI 31 * (nI 31 * (nI 31 * (nI 31 * tr + nI 3) + nI 2) + nI 1) + nI 1) := by unfold tellF; rw [c_1, g_j]; rw [if_pos rfl, if_neg c_2, if_pos c_5]
      exact zk_retI hx hb hr hS (()) (by rw [e_t]) (by rw [e_t]; exact hP) (by rw [e_t]; exact hD) dX4_tell_49 hlocks
    refine lv_lookup (tgt := 56) (off := 37) hx hb dX4_tell_19 rfl (show Op.lookupswitch.offset [(1, 31), (2, 25)] 37 (T.kind j).toInt = 37 from by rw [lv_osw c_2 (show (nI 1).toInt = 1 from by decide), lv_osw c_5 (show (nI 2).toInt = 2 from by decide)]; try rfl) (by decide) ?_
    refine lv_aload_n hx hb dX4_tell_56 rfl (lv_at hl 0 rfl) ?_
    refine lv_iload_n hx hb dX4_tell_57 rfl (lv_at hl 1 rfl) ?_
    refine zk_effVi (As := [.int (nI j)]) (rest := []) (S := Unit) (fun r _ => r = T.pat j) (fun _ => wXo x0 x1 x8 x15 x23 x27 (nI 31 * tr + nI 1) fl ++ wRoll cI x1 x2 x3 x4 x5 x6 x7 T ts) ⟨hx, hb, hml, hown, hts⟩ hK hP hD hS hA [0, 1, 2, 3, 4, 5, 6, 7] [] (wc := [(x0, .inr (4, [.ref x1, .ref x8, .ref x15, .ref x23, .ref x27, .int tr, .int fl])), (x1, .inr (2, [.int (nI T.D), .int (nI T.P), .int T.db, .int T.rm, .ref x2, .ref x3, .ref x4, .ref x5, .ref x6, .ref x7])), (x2, .inl (cI, 5, .inl T.hard)), (x3, .inl (cI, 4, .inl T.kind)), (x4, .inl (cI, 4, .inl T.wit)), (x5, .inl (cI, 4, .inl T.pat)), (x6, .inl (cI, 4, .inl T.pret)), (x7, .inl (cI, 5, .inl ts))]) (wr := []) rfl rfl (by decide) (by decide) (by decide) [0, 1, 2, 3, 4, 5, 6, 7] (fun (_ : Unit) => [(x0, .inr (4, [.ref x1, .ref x8, .ref x15, .ref x23, .ref x27, .int (nI 31 * tr + nI 1), .int fl])), (x1, .inr (2, [.int (nI T.D), .int (nI T.P), .int T.db, .int T.rm, .ref x2, .ref x3, .ref x4, .ref x5, .ref x6, .ref x7])), (x2, .inl (cI, 5, .inl T.hard)), (x3, .inl (cI, 4, .inl T.kind)), (x4, .inl (cI, 4, .inl T.wit)), (x5, .inl (cI, 4, .inl T.pat)), (x6, .inl (cI, 4, .inl T.pret)), (x7, .inl (cI, 5, .inl ts))]) (fun _ => rfl) (by decide) (c_tellP l D cI sX.heap.size x0 x1 x2 x3 x4 x5 x6 x7 x8 x9 x10 x11 x12 x13 x14 x15 x16 x17 x18 x19 x20 x21 x22 x23 x24 x25 x26 x27 x28 x29 x30 T ts tr fl j (by omega)) (cwV 1 hts gX4_tell_X4_tellAsPupil rfl rfl rfl hdX4_tellAsPupil ⟨Nat.le_of_ble_eq_true rfl, Nat.le_of_ble_eq_true rfl⟩) rfl rfl rfl hl.1 rfl (Nat.le_of_ble_eq_true rfl) dX4_tell_58 ⟨Nat.le_of_ble_eq_true rfl, Nat.le_of_ble_eq_true rfl⟩ (fun r_8 _ H locs hw_9 hP hD hS => ?_)
    have e_r_8 : r_8 = T.pat j := hw_9
    rw [e_r_8]
    have e_t : tellF T tr p = (T.pat j, nI 31 * tr + nI 1) := by unfold tellF; rw [c_1, g_j]; rw [if_pos rfl, if_neg c_2, if_neg c_5]
    exact zk_retI hx hb hr hS (()) (by rw [e_t]) (by rw [e_t]; exact hP) (by rw [e_t]; exact hD) dX4_tell_61 hlocks
  · refine lv_iconst (v := (-1)) hx hb dX4_tell_8 (by decide) ?_
    have e_t : tellF T tr p = ((-1), tr) := by unfold tellF; rw [c_1]; rfl
    exact zk_retI hx hb hr hS (()) (by rw [e_t]) (by rw [e_t]; exact hP) (by rw [e_t]; exact hD) dX4_tell_9 hlocks
set_option maxHeartbeats 4000000 in
set_option maxRecDepth 100000 in
theorem cx_cap (l : Launch) (D : va_G) (cI : ClassId) (sz : Nat) (x0 : Nat) (x1 : Nat) (x2 : Nat) (x3 : Nat) (x4 : Nat) (x5 : Nat) (x6 : Nat) (x7 : Nat) (x8 : Nat) (x9 : Nat) (x10 : Nat) (x11 : Nat) (x12 : Nat) (x13 : Nat) (x14 : Nat) (x15 : Nat) (x16 : Nat) (x17 : Nat) (x18 : Nat) (x19 : Nat) (x20 : Nat) (x21 : Nat) (x22 : Nat) (x23 : Nat) (x24 : Nat) (x25 : Nat) (x26 : Nat) (x27 : Nat) (x28 : Nat) (x29 : Nat) (x30 : Nat) (T : YS) (ts : Nat → Int32) (tr : Int32) (fl : Int32) (p : Int32) (hok : OkY T) : Met l yX4_cap wsX4_cap ({ frames := 1, cells := 0, slots := 0, locals := 21 }) (PQ D cI [.ref x0, .int p] (wXo x0 x1 x8 x15 x23 x27 tr fl ++ wRoll cI x1 x2 x3 x4 x5 x6 x7 T ts) sz) (QI (S := Unit) D (fun r _ => r = (capF T tr p).1) (fun _ => wXo x0 x1 x8 x15 x23 x27 ((capF T tr p).2) fl ++ wRoll cI x1 x2 x3 x4 x5 x6 x7 T ts) (va_A (wXo x0 x1 x8 x15 x23 x27 tr fl ++ wRoll cI x1 x2 x3 x4 x5 x6 x7 T ts) sz)) 0 0 (va_A (wXo x0 x1 x8 x15 x23 x27 tr fl ++ wRoll cI x1 x2 x3 x4 x5 x6 x7 T ts) sz) := by
  refine zk_Q (QI (S := Unit) D (fun r _ => r = (capF T tr p).1) (fun _ => wXo x0 x1 x8 x15 x23 x27 ((capF T tr p).2) fl ++ wRoll cI x1 x2 x3 x4 x5 x6 x7 T ts)) (cc := cX4_cap) (maxL := 2) (ret := (some .int)) (by decide) rfl (Nat.le_of_ble_eq_true rfl) ?_
  intro pX eX sX mX bX tX cX hx hb hr hlocks hml hown hmn hts hP hK A hA hD hS ls hl
  have hl : lv_has ls 2 [(0, .ref x0), (1, .int p)] := hl
  have hP : va_P D vwCl [(x0, .inr (4, [.ref x1, .ref x8, .ref x15, .ref x23, .ref x27, .int tr, .int fl])), (x1, .inr (2, [.int (nI T.D), .int (nI T.P), .int T.db, .int T.rm, .ref x2, .ref x3, .ref x4, .ref x5, .ref x6, .ref x7])), (x2, .inl (cI, 5, .inl T.hard)), (x3, .inl (cI, 4, .inl T.kind)), (x4, .inl (cI, 4, .inl T.wit)), (x5, .inl (cI, 4, .inl T.pat)), (x6, .inl (cI, 4, .inl T.pret)), (x7, .inl (cI, 5, .inl ts))] sX.heap := hP
  have hD : va_D A [(x0, .inr (4, [.ref x1, .ref x8, .ref x15, .ref x23, .ref x27, .int tr, .int fl])), (x1, .inr (2, [.int (nI T.D), .int (nI T.P), .int T.db, .int T.rm, .ref x2, .ref x3, .ref x4, .ref x5, .ref x6, .ref x7])), (x2, .inl (cI, 5, .inl T.hard)), (x3, .inl (cI, 4, .inl T.kind)), (x4, .inl (cI, 4, .inl T.wit)), (x5, .inl (cI, 4, .inl T.pat)), (x6, .inl (cI, 4, .inl T.pret)), (x7, .inl (cI, 5, .inl ts))] := hD
  have f_12 := hts (.fieldLink RX4 12 "DunceSee" "told" "LDunceSee$Roll;") (by decide +kernel)
  have f_82 := hK.nest (A := ([.ref x0, .int p] : List Value).toArray) 11 rfl
  have inX4 : ∀ w ∈ wsX40, w ∈ wsX4_cap := fun w h => List.mem_cons_of_mem _ (List.mem_append_left _ (List.mem_append_right _ h))
  have inX2 : ∀ w ∈ wsX20, w ∈ wsX4_cap := fun w h => List.mem_cons_of_mem _ (List.mem_append_right _ h)
  have hD5 : T.D ≤ 5 := hok.1
  have hP4 : T.P ≤ 4 := hok.2
  refine lv_aload_n hx hb dX4_cap_0 rfl (lv_at hl 0 rfl) ?_
  refine lv_iload_n hx hb dX4_cap_1 rfl (lv_at hl 1 rfl) ?_
  refine zk_callVi (As := [.int p]) (rest := []) (bI (isP T.P p)) ⟨hx, hb, hml, hown, hts⟩ hK hP [0, 1, 2, 3, 4, 5, 6, 7] rfl (c_isPupil l D cI x0 x1 x2 x3 x4 x5 x6 x7 x8 x9 x10 x11 x12 x13 x14 x15 x16 x17 x18 x19 x20 x21 x22 x23 x24 x25 x26 x27 x28 x29 x30 T ts tr fl p ) (cwV 1 hts gX4_cap_X4_isPupil rfl rfl rfl hdX4_isPupil ⟨Nat.le_of_ble_eq_true rfl, Nat.le_of_ble_eq_true rfl⟩) rfl rfl rfl hl.1 rfl (Nat.le_of_ble_eq_true rfl) dX4_cap_2 ⟨Nat.le_of_ble_eq_true rfl, Nat.le_of_ble_eq_true rfl⟩ ?_
  refine zk_ifneB (tgt := 10) hx hb dX4_cap_5 (by decide) (fun c_1 => ?_) (fun c_1 => ?_)
  · obtain ⟨j, hj, e_j, g_j⟩ := isP_of (by omega) c_1
    rw [e_j] at hl
    refine lv_aload_n hx hb dX4_cap_10 rfl (lv_at hl 0 rfl) ?_
    refine va_get (D := D) (ci := 4) (v := .ref x1) (C := RX4) (T := TX4) (N := 7) hx hb hts inX4 hown hK.1 hP 0 rfl rfl 0 (by decide) f_12 (fun _ h9 => h9) rfl dX4_cap_11 ?_
    refine va_getN (D := D) (ci := 2) (v := .ref x3) (C := RX2) (T := TX2) (N := 10) hx hb hts inX2 hown hK.1 hP 1 rfl rfl 5 (by decide) f_82 (fun _ h9 => h9) rfl dX4_cap_14 ?_
    refine lv_iload_n hx hb dX4_cap_17 rfl (lv_at hl 1 rfl) ?_
    refine zk_iald hx hb hK hP 3 rfl (by omega) (by decide) dX4_cap_18 ?_
    refine lv_iconst (v := nI 2) hx hb dX4_cap_19 (by decide) ?_
    refine lv_icmp_ne (tgt := 31) hx hb dX4_cap_20 (by decide) (fun c_2 => ?_) (fun c_2 => ?_)
    · refine lv_aload_n hx hb dX4_cap_31 rfl (lv_at hl 0 rfl) ?_
      refine lv_iconst (v := nI 4) hx hb dX4_cap_32 (by decide) ?_
      refine zk_effVv (As := [.int (nI 4)]) (rest := []) (S := Unit) (fun _ => True) (fun _ => wXo x0 x1 x8 x15 x23 x27 (nI 31 * tr + (nI 4)) fl) ⟨hx, hb, hml, hown, hts⟩ hK hP hD hS hA [0] [1, 2, 3, 4, 5, 6, 7] (wc := [(x0, .inr (4, [.ref x1, .ref x8, .ref x15, .ref x23, .ref x27, .int tr, .int fl]))]) (wr := [(x1, .inr (2, [.int (nI T.D), .int (nI T.P), .int T.db, .int T.rm, .ref x2, .ref x3, .ref x4, .ref x5, .ref x6, .ref x7])), (x2, .inl (cI, 5, .inl T.hard)), (x3, .inl (cI, 4, .inl T.kind)), (x4, .inl (cI, 4, .inl T.wit)), (x5, .inl (cI, 4, .inl T.pat)), (x6, .inl (cI, 4, .inl T.pret)), (x7, .inl (cI, 5, .inl ts))]) rfl rfl (by decide) (by decide) (by decide) [7, 0, 1, 2, 3, 4, 5, 6] (fun (_ : Unit) => [(x0, .inr (4, [.ref x1, .ref x8, .ref x15, .ref x23, .ref x27, .int (nI 31 * tr + (nI 4)), .int fl])), (x1, .inr (2, [.int (nI T.D), .int (nI T.P), .int T.db, .int T.rm, .ref x2, .ref x3, .ref x4, .ref x5, .ref x6, .ref x7])), (x2, .inl (cI, 5, .inl T.hard)), (x3, .inl (cI, 4, .inl T.kind)), (x4, .inl (cI, 4, .inl T.wit)), (x5, .inl (cI, 4, .inl T.pat)), (x6, .inl (cI, 4, .inl T.pret)), (x7, .inl (cI, 5, .inl ts))]) (fun _ => rfl) (by decide) (c_leaveTrace l D cI sX.heap.size x0 x1 x2 x3 x4 x5 x6 x7 x8 x9 x10 x11 x12 x13 x14 x15 x16 x17 x18 x19 x20 x21 x22 x23 x24 x25 x26 x27 x28 x29 x30 tr fl (nI 4) ) (cwV 1 hts gX4_cap_X4_leaveTrace rfl rfl rfl hdX4_leaveTrace ⟨Nat.le_of_ble_eq_true rfl, Nat.le_of_ble_eq_true rfl⟩) rfl rfl rfl hl.1 rfl (Nat.le_of_ble_eq_true rfl) dX4_cap_33 ⟨Nat.le_of_ble_eq_true rfl, Nat.le_of_ble_eq_true rfl⟩ (fun _ H locs hw_4 hP hD hS => ?_)
      refine lv_iload_n hx hb dX4_cap_36 rfl (lv_at hl 1 rfl) ?_
      have e_t : capF T tr p = (nI j, nI 31 * tr + (nI 4)) := by unfold capF; rw [c_1, g_j]; rw [if_pos rfl, if_neg c_2, e_j]
      exact zk_retI hx hb hr hS (()) (by rw [e_t]) (by rw [e_t]; exact hP) (by rw [e_t]; exact hD) dX4_cap_37 hlocks
    · refine lv_aload_n hx hb dX4_cap_23 rfl (lv_at hl 0 rfl) ?_
      refine lv_iconst (v := nI 5) hx hb dX4_cap_24 (by decide) ?_
      refine zk_effVv (As := [.int (nI 5)]) (rest := []) (S := Unit) (fun _ => True) (fun _ => wXo x0 x1 x8 x15 x23 x27 (nI 31 * tr + (nI 5)) fl) ⟨hx, hb, hml, hown, hts⟩ hK hP hD hS hA [0] [1, 2, 3, 4, 5, 6, 7] (wc := [(x0, .inr (4, [.ref x1, .ref x8, .ref x15, .ref x23, .ref x27, .int tr, .int fl]))]) (wr := [(x1, .inr (2, [.int (nI T.D), .int (nI T.P), .int T.db, .int T.rm, .ref x2, .ref x3, .ref x4, .ref x5, .ref x6, .ref x7])), (x2, .inl (cI, 5, .inl T.hard)), (x3, .inl (cI, 4, .inl T.kind)), (x4, .inl (cI, 4, .inl T.wit)), (x5, .inl (cI, 4, .inl T.pat)), (x6, .inl (cI, 4, .inl T.pret)), (x7, .inl (cI, 5, .inl ts))]) rfl rfl (by decide) (by decide) (by decide) [7, 0, 1, 2, 3, 4, 5, 6] (fun (_ : Unit) => [(x0, .inr (4, [.ref x1, .ref x8, .ref x15, .ref x23, .ref x27, .int (nI 31 * tr + (nI 5)), .int fl])), (x1, .inr (2, [.int (nI T.D), .int (nI T.P), .int T.db, .int T.rm, .ref x2, .ref x3, .ref x4, .ref x5, .ref x6, .ref x7])), (x2, .inl (cI, 5, .inl T.hard)), (x3, .inl (cI, 4, .inl T.kind)), (x4, .inl (cI, 4, .inl T.wit)), (x5, .inl (cI, 4, .inl T.pat)), (x6, .inl (cI, 4, .inl T.pret)), (x7, .inl (cI, 5, .inl ts))]) (fun _ => rfl) (by decide) (c_leaveTrace l D cI sX.heap.size x0 x1 x2 x3 x4 x5 x6 x7 x8 x9 x10 x11 x12 x13 x14 x15 x16 x17 x18 x19 x20 x21 x22 x23 x24 x25 x26 x27 x28 x29 x30 tr fl (nI 5) ) (cwV 1 hts gX4_cap_X4_leaveTrace rfl rfl rfl hdX4_leaveTrace ⟨Nat.le_of_ble_eq_true rfl, Nat.le_of_ble_eq_true rfl⟩) rfl rfl rfl hl.1 rfl (Nat.le_of_ble_eq_true rfl) dX4_cap_25 ⟨Nat.le_of_ble_eq_true rfl, Nat.le_of_ble_eq_true rfl⟩ (fun _ H locs hw_6 hP hD hS => ?_)
      refine lv_bipush (v := nI 70) hx hb dX4_cap_28 (by decide) ?_
      have e_t : capF T tr p = (nI 70, nI 31 * tr + (nI 5)) := by unfold capF; rw [c_1, g_j]; rw [if_pos rfl, if_pos c_2]
      exact zk_retI hx hb hr hS (()) (by rw [e_t]) (by rw [e_t]; exact hP) (by rw [e_t]; exact hD) dX4_cap_30 hlocks
  · refine lv_iconst (v := (-1)) hx hb dX4_cap_8 (by decide) ?_
    have e_t : capF T tr p = ((-1), tr) := by unfold capF; rw [c_1]; rfl
    exact zk_retI hx hb hr hS (()) (by rw [e_t]) (by rw [e_t]; exact hP) (by rw [e_t]; exact hD) dX4_cap_9 hlocks
set_option maxHeartbeats 4000000 in
set_option maxRecDepth 100000 in
theorem cx_as (l : Launch) (D : va_G) (cI : ClassId) (sz : Nat) (x0 : Nat) (x1 : Nat) (x2 : Nat) (x3 : Nat) (x4 : Nat) (x5 : Nat) (x6 : Nat) (x7 : Nat) (x8 : Nat) (x9 : Nat) (x10 : Nat) (x11 : Nat) (x12 : Nat) (x13 : Nat) (x14 : Nat) (x15 : Nat) (x16 : Nat) (x17 : Nat) (x18 : Nat) (x19 : Nat) (x20 : Nat) (x21 : Nat) (x22 : Nat) (x23 : Nat) (x24 : Nat) (x25 : Nat) (x26 : Nat) (x27 : Nat) (x28 : Nat) (x29 : Nat) (x30 : Nat) (T : YS) (ts : Nat → Int32) (tr : Int32) (fl : Int32) (p : Int32) (k : Int32) (hok : OkY T) : Met l yX4_as wsX4_as ({ frames := 1, cells := 0, slots := 0, locals := 21 }) (PQ D cI [.ref x0, .int p, .int k] (wXo x0 x1 x8 x15 x23 x27 tr fl ++ wRoll cI x1 x2 x3 x4 x5 x6 x7 T ts) sz) (QI (S := Unit) D (fun r _ => r = (asF T p k).1) (fun _ => wXo x0 x1 x8 x15 x23 x27 tr ((asF T p k).2) ++ wRoll cI x1 x2 x3 x4 x5 x6 x7 T ts) (va_A (wXo x0 x1 x8 x15 x23 x27 tr fl ++ wRoll cI x1 x2 x3 x4 x5 x6 x7 T ts) sz)) 0 0 (va_A (wXo x0 x1 x8 x15 x23 x27 tr fl ++ wRoll cI x1 x2 x3 x4 x5 x6 x7 T ts) sz) := by
  refine zk_Q (QI (S := Unit) D (fun r _ => r = (asF T p k).1) (fun _ => wXo x0 x1 x8 x15 x23 x27 tr ((asF T p k).2) ++ wRoll cI x1 x2 x3 x4 x5 x6 x7 T ts)) (cc := cX4_as) (maxL := 3) (ret := (some .int)) (by decide) rfl (Nat.le_of_ble_eq_true rfl) ?_
  intro pX eX sX mX bX tX cX hx hb hr hlocks hml hown hmn hts hP hK A hA hD hS ls hl
  have hl : lv_has ls 3 [(0, .ref x0), (1, .int p), (2, .int k)] := hl
  have hP : va_P D vwCl [(x0, .inr (4, [.ref x1, .ref x8, .ref x15, .ref x23, .ref x27, .int tr, .int fl])), (x1, .inr (2, [.int (nI T.D), .int (nI T.P), .int T.db, .int T.rm, .ref x2, .ref x3, .ref x4, .ref x5, .ref x6, .ref x7])), (x2, .inl (cI, 5, .inl T.hard)), (x3, .inl (cI, 4, .inl T.kind)), (x4, .inl (cI, 4, .inl T.wit)), (x5, .inl (cI, 4, .inl T.pat)), (x6, .inl (cI, 4, .inl T.pret)), (x7, .inl (cI, 5, .inl ts))] sX.heap := hP
  have hD : va_D A [(x0, .inr (4, [.ref x1, .ref x8, .ref x15, .ref x23, .ref x27, .int tr, .int fl])), (x1, .inr (2, [.int (nI T.D), .int (nI T.P), .int T.db, .int T.rm, .ref x2, .ref x3, .ref x4, .ref x5, .ref x6, .ref x7])), (x2, .inl (cI, 5, .inl T.hard)), (x3, .inl (cI, 4, .inl T.kind)), (x4, .inl (cI, 4, .inl T.wit)), (x5, .inl (cI, 4, .inl T.pat)), (x6, .inl (cI, 4, .inl T.pret)), (x7, .inl (cI, 5, .inl ts))] := hD
  have f_42 := hts (.fieldLink RX4 42 "DunceSee" "fault" "I") (by decide +kernel)
  have f_12 := hts (.fieldLink RX4 12 "DunceSee" "told" "LDunceSee$Roll;") (by decide +kernel)
  have f_82 := hK.nest (A := ([.ref x0, .int p, .int k] : List Value).toArray) 11 rfl
  have inX4 : ∀ w ∈ wsX40, w ∈ wsX4_as := fun w h => List.mem_cons_of_mem _ (List.mem_append_left _ (List.mem_append_right _ h))
  have inX2 : ∀ w ∈ wsX20, w ∈ wsX4_as := fun w h => List.mem_cons_of_mem _ (List.mem_append_right _ h)
  have hD5 : T.D ≤ 5 := hok.1
  have hP4 : T.P ≤ 4 := hok.2
  refine lv_aload_n hx hb dX4_as_0 rfl (lv_at hl 0 rfl) ?_
  refine lv_iconst (v := nI 0) hx hb dX4_as_1 (by decide) ?_
  refine va_put (D := D) (ci := 4) (v := .int (nI 0)) (ty := .int) (C := RX4) (T := TX4) (N := 7) hx hb hts inX4 tyX4 tyX4_ok nmX4 hown hK.1 hP hD hS 0 rfl rfl 6 (by decide) f_42 (fun _ h9 => h9) rfl (by decide +kernel) rfl rfl (Nat.le_of_ble_eq_true rfl) dX4_as_2 (fun H locs hP hD hS => ?_)
  have hP : va_P D vwCl [(x0, .inr (4, [.ref x1, .ref x8, .ref x15, .ref x23, .ref x27, .int tr, .int (nI 0)])), (x1, .inr (2, [.int (nI T.D), .int (nI T.P), .int T.db, .int T.rm, .ref x2, .ref x3, .ref x4, .ref x5, .ref x6, .ref x7])), (x2, .inl (cI, 5, .inl T.hard)), (x3, .inl (cI, 4, .inl T.kind)), (x4, .inl (cI, 4, .inl T.wit)), (x5, .inl (cI, 4, .inl T.pat)), (x6, .inl (cI, 4, .inl T.pret)), (x7, .inl (cI, 5, .inl ts))] H := hP
  have hD : va_D A [(x0, .inr (4, [.ref x1, .ref x8, .ref x15, .ref x23, .ref x27, .int tr, .int (nI 0)])), (x1, .inr (2, [.int (nI T.D), .int (nI T.P), .int T.db, .int T.rm, .ref x2, .ref x3, .ref x4, .ref x5, .ref x6, .ref x7])), (x2, .inl (cI, 5, .inl T.hard)), (x3, .inl (cI, 4, .inl T.kind)), (x4, .inl (cI, 4, .inl T.wit)), (x5, .inl (cI, 4, .inl T.pat)), (x6, .inl (cI, 4, .inl T.pret)), (x7, .inl (cI, 5, .inl ts))] := hD
  refine lv_aload_n hx hb dX4_as_5 rfl (lv_at hl 0 rfl) ?_
  refine lv_iload_n hx hb dX4_as_6 rfl (lv_at hl 1 rfl) ?_
  refine zk_callVi (As := [.int p]) (rest := []) (bI (isP T.P p)) ⟨hx, hb, hml, hown, hts⟩ hK hP [0, 1, 2, 3, 4, 5, 6, 7] rfl (c_isPupil l D cI x0 x1 x2 x3 x4 x5 x6 x7 x8 x9 x10 x11 x12 x13 x14 x15 x16 x17 x18 x19 x20 x21 x22 x23 x24 x25 x26 x27 x28 x29 x30 T ts tr (nI 0) p ) (cwV 1 hts gX4_as_X4_isPupil rfl rfl rfl hdX4_isPupil ⟨Nat.le_of_ble_eq_true rfl, Nat.le_of_ble_eq_true rfl⟩) rfl rfl rfl hl.1 rfl (Nat.le_of_ble_eq_true rfl) dX4_as_7 ⟨Nat.le_of_ble_eq_true rfl, Nat.le_of_ble_eq_true rfl⟩ ?_
  refine zk_ifneB (tgt := 15) hx hb dX4_as_10 (by decide) (fun c_1 => ?_) (fun c_1 => ?_)
  · obtain ⟨j, hj, e_j, g_j⟩ := isP_of (by omega) c_1
    rw [e_j] at hl
    refine lv_iload_n hx hb dX4_as_15 rfl (lv_at hl 2 rfl) ?_
    refine lv_if_lt (tgt := 24) hx hb dX4_as_16 (by decide) (fun c_2 => ?_) (fun c_2 => ?_)
    · refine lv_bipush (v := (-2)) hx hb dX4_as_24 (by decide) ?_
      have e_t : asF T p k = ((-2), nI 0) := by simp [asF, c_1, g_j, c_2, (Int32.not_le.mpr c_2)]
      exact zk_retI hx hb hr hS (()) (by rw [e_t]) (by rw [e_t]; exact hP) (by rw [e_t]; exact hD) dX4_as_26 hlocks
    · have c_2 := Int32.not_lt.mp c_2
      refine lv_iload_n hx hb dX4_as_19 rfl (lv_at hl 2 rfl) ?_
      refine lv_iconst (v := nI 3) hx hb dX4_as_20 (by decide) ?_
      refine lv_icmp_lt (tgt := 27) hx hb dX4_as_21 (by decide) (fun c_3 => ?_) (fun c_3 => ?_)
      · refine lv_aload_n hx hb dX4_as_27 rfl (lv_at hl 0 rfl) ?_
        refine va_get (D := D) (ci := 4) (v := .ref x1) (C := RX4) (T := TX4) (N := 7) hx hb hts inX4 hown hK.1 hP 0 rfl rfl 0 (by decide) f_12 (fun _ h9 => h9) rfl dX4_as_28 ?_
        refine va_getN (D := D) (ci := 2) (v := .ref x3) (C := RX2) (T := TX2) (N := 10) hx hb hts inX2 hown hK.1 hP 1 rfl rfl 5 (by decide) f_82 (fun _ h9 => h9) rfl dX4_as_31 ?_
        refine lv_iload_n hx hb dX4_as_34 rfl (lv_at hl 1 rfl) ?_
        refine zk_iald hx hb hK hP 3 rfl (by omega) (by decide) dX4_as_35 ?_
        refine lv_iload_n hx hb dX4_as_36 rfl (lv_at hl 2 rfl) ?_
        refine lv_icmp_lt (tgt := 44) hx hb dX4_as_37 (by decide) (fun c_4 => ?_) (fun c_4 => ?_)
        · refine lv_aload_n hx hb dX4_as_44 rfl (lv_at hl 0 rfl) ?_
          refine lv_iconst (v := nI 2) hx hb dX4_as_45 (by decide) ?_
          refine zk_effVi (As := [.int (nI 2)]) (rest := []) (S := Unit) (fun r _ => r = (-10) - (nI 2)) (fun _ => wXo x0 x1 x8 x15 x23 x27 tr (nI 2)) ⟨hx, hb, hml, hown, hts⟩ hK hP hD hS hA [0] [1, 2, 3, 4, 5, 6, 7] (wc := [(x0, .inr (4, [.ref x1, .ref x8, .ref x15, .ref x23, .ref x27, .int tr, .int (nI 0)]))]) (wr := [(x1, .inr (2, [.int (nI T.D), .int (nI T.P), .int T.db, .int T.rm, .ref x2, .ref x3, .ref x4, .ref x5, .ref x6, .ref x7])), (x2, .inl (cI, 5, .inl T.hard)), (x3, .inl (cI, 4, .inl T.kind)), (x4, .inl (cI, 4, .inl T.wit)), (x5, .inl (cI, 4, .inl T.pat)), (x6, .inl (cI, 4, .inl T.pret)), (x7, .inl (cI, 5, .inl ts))]) rfl rfl (by decide) (by decide) (by decide) [7, 0, 1, 2, 3, 4, 5, 6] (fun (_ : Unit) => [(x0, .inr (4, [.ref x1, .ref x8, .ref x15, .ref x23, .ref x27, .int tr, .int (nI 2)])), (x1, .inr (2, [.int (nI T.D), .int (nI T.P), .int T.db, .int T.rm, .ref x2, .ref x3, .ref x4, .ref x5, .ref x6, .ref x7])), (x2, .inl (cI, 5, .inl T.hard)), (x3, .inl (cI, 4, .inl T.kind)), (x4, .inl (cI, 4, .inl T.wit)), (x5, .inl (cI, 4, .inl T.pat)), (x6, .inl (cI, 4, .inl T.pret)), (x7, .inl (cI, 5, .inl ts))]) (fun _ => rfl) (by decide) (c_fail l D cI H.size x0 x1 x2 x3 x4 x5 x6 x7 x8 x9 x10 x11 x12 x13 x14 x15 x16 x17 x18 x19 x20 x21 x22 x23 x24 x25 x26 x27 x28 x29 x30 tr (nI 0) (nI 2) ) (cwV 1 hts gX4_as_X4_fail rfl rfl rfl hdX4_fail ⟨Nat.le_of_ble_eq_true rfl, Nat.le_of_ble_eq_true rfl⟩) rfl rfl rfl hl.1 rfl (Nat.le_of_ble_eq_true rfl) dX4_as_46 ⟨Nat.le_of_ble_eq_true rfl, Nat.le_of_ble_eq_true rfl⟩ (fun r_5 _ H locs hw_6 hP hD hS => ?_)
          have e_r_5 : r_5 = (-12) := hw_6.trans (by decide)
          rw [e_r_5]
          have e_t : asF T p k = ((-12), (nI 2)) := by simp [asF, c_1, g_j, c_2, (Int32.not_lt.mpr c_2), c_3, (Int32.not_le.mpr c_3), c_4, (Int32.not_le.mpr c_4)]
          exact zk_retI hx hb hr hS (()) (by rw [e_t]) (by rw [e_t]; exact hP) (by rw [e_t]; exact hD) dX4_as_49 hlocks
        · have c_4 := Int32.not_lt.mp c_4
          refine lv_iconst (v := nI 1) hx hb dX4_as_40 (by decide) ?_
          refine lv_goto (tgt := 49) hx hb dX4_as_41 (by decide) ?_
          have e_t : asF T p k = (nI 1, nI 0) := by simp [asF, c_1, g_j, c_2, (Int32.not_lt.mpr c_2), c_3, (Int32.not_le.mpr c_3), c_4, (Int32.not_lt.mpr c_4)]
          exact zk_retI hx hb hr hS (()) (by rw [e_t]) (by rw [e_t]; exact hP) (by rw [e_t]; exact hD) dX4_as_49 hlocks
      · have c_3 := Int32.not_lt.mp c_3
        refine lv_bipush (v := (-2)) hx hb dX4_as_24 (by decide) ?_
        have e_t : asF T p k = ((-2), nI 0) := by simp [asF, c_1, g_j, c_2, (Int32.not_lt.mpr c_2), c_3, (Int32.not_lt.mpr c_3)]
        exact zk_retI hx hb hr hS (()) (by rw [e_t]) (by rw [e_t]; exact hP) (by rw [e_t]; exact hD) dX4_as_26 hlocks
  · refine lv_iconst (v := (-1)) hx hb dX4_as_13 (by decide) ?_
    have e_t : asF T p k = ((-1), nI 0) := by simp [asF, c_1]
    exact zk_retI hx hb hr hS (()) (by rw [e_t]) (by rw [e_t]; exact hP) (by rw [e_t]; exact hD) dX4_as_14 hlocks
