abbrev wMo (m0 m1 m2 m3 m4 m5 m6 m7 m8 m9 m10 m11 m12 m13 m14 m15 : Nat) (fm tm : Int32) (at1 : Nat) (rdb rrm : Int32) (rD rP mt : Nat) (M : YS) : va_W := [(m0, .inr (5, [.int fm, .int tm, .ref m1, .ref m2, .ref m3, .int M.db, .int M.rm, .int (nI M.D), .int (nI M.P), .ref m4, .ref m5, .ref m6, .ref m7, .int (nI at1), .int rdb, .int rrm, .int (nI rD), .int (nI rP), .ref m8, .ref m9, .ref m10, .ref m11, .ref m12, .int (nI mt), .ref m13, .ref m14, .ref m15]))]
abbrev wMa (cI : ClassId) (m4 m5 m6 m7 m12 : Nat) (M : YS) : va_W := [(m4, .inl (cI, 5, .inl M.hard)), (m5, .inl (cI, 4, .inl M.kind)), (m6, .inl (cI, 4, .inl M.wit)), (m7, .inl (cI, 4, .inl M.pat)), (m12, .inl (cI, 4, .inl M.pret))]
def oN (o : Option Nat) : Int32 := match o with
  | none => (-9)
  | some q => nI q
theorem hrs_k1 {Y : YS} {p a : Nat} (h : Y.kind p = nI 1) (ha : Y.pat p = nI a) (h9 : a ≤ 9) : (0 < nI a → nI a - nI 1 = hrs Y p) ∧ (nI a ≤ 0 → nI 0 = hrs Y p) := by
  unfold hrs
  rw [if_pos h, ha]
  constructor
  · intro q
    have := gt0N (by omega) q
    rw [pk_sub (by omega), if_neg (nI_nlt (by omega) (by omega))]
  · intro q
    have := le0N (by omega) q
    rw [show a = 0 by omega]
    decide
theorem k01 : ¬ nI 1 = (0 : Int32) ∧ ¬ nI 2 = (0 : Int32) ∧ nI 0 = (0 : Int32) ∧ ¬ nI 2 = nI 1 ∧ ¬ nI 0 = nI 1 ∧ ¬ nI 0 = nI 2 := by decide
theorem set_q {P q : Nat} (hP : P ≤ 4) (hq : q < P) {f g : Nat → Bool} (h0 : f q = false) (h : ∀ p, p < P → g p = (f p || decide (p = q))) : nI (msk P f) ||| (nI 1 <<< (nI q &&& 31)) = nI (msk P g) := by
  have h1 : msk P g = msk P (fun p => f p || decide (p = q)) := msk_congr h
  rw [h1]
  have h2 : ∀ n, n ≤ 4 → ∀ x, x < 2 ^ n → ∀ q, q < n → x.testBit q = false → nI x ||| (nI 1 <<< (nI q &&& 31)) = nI (x + 2 ^ q) := by decide +kernel
  rw [h2 P hP _ (msk_lt P f) q hq (by rw [msk_bit]; simp [h0])]
  congr 1
  have h3 : ∀ n, q < n → msk n (fun p => f p || decide (p = q)) = msk n f + 2 ^ q := by
    intro n
    induction n with
    | zero => intro h; omega
    | succ n ih =>
      intro h
      rw [msk_s, msk_s]
      by_cases e : n = q
      · subst e
        have h4 : msk n (fun p => f p || decide (p = n)) = msk n f := msk_congr (fun i hi => by
          have : ¬ i = n := by omega
          simp [this])
        rw [h4]
        simp [h0]
      · rw [ih (by omega)]
        simp [e]
        split <;> omega
  exact (h3 P hq).symm
theorem oN_ne {q : Nat} (h : q < 1000) : ¬ nI q = (-9) := nI_n9 h
theorem stdk0 (Y : YS) (d : Nat) : msk Y.P (stdk Y d 0) = 0 := by
  have h1 : msk Y.P (stdk Y d 0) = msk Y.P (fun _ => false) := msk_congr (fun i _ => by simp [stdk])
  rw [h1]
  have h2 : ∀ n, msk n (fun _ => false) = 0 := by
    intro n
    induction n with
    | zero => rfl
    | succ n ih => rw [msk_s, ih]; rfl
  exact h2 _
theorem or0m {P : Nat} (hP : P ≤ 4) (f : Nat → Bool) : nI (msk P f) ||| nI 0 = nI (msk P f) := or0 P (by omega) _ (msk_lt P f)
theorem hdX5_within : yX5_within.cls ≠ "java/lang/invoke/MethodHandle" ∧ yX5_within.cls ≠ "java/lang/invoke/VarHandle" ∧ (parseMethodDescriptor yX5_within.desc).map (fun d => d.parameters.length) = some 3 := by decide +kernel
theorem hdX5_isWould : yX5_isWould.cls = RX5 ∧ yX5_isWould.cls ≠ "java/lang/invoke/MethodHandle" ∧ yX5_isWould.cls ≠ "java/lang/invoke/VarHandle" ∧ (parseMethodDescriptor yX5_isWould.desc).map (fun d => d.parameters.length) = some 3 := by decide +kernel
theorem hdX5_wouldNow : yX5_wouldNow.cls = RX5 ∧ yX5_wouldNow.cls ≠ "java/lang/invoke/MethodHandle" ∧ yX5_wouldNow.cls ≠ "java/lang/invoke/VarHandle" ∧ (parseMethodDescriptor yX5_wouldNow.desc).map (fun d => d.parameters.length) = some 2 := by decide +kernel
theorem hdX5_wouldsOn : yX5_wouldsOn.cls = RX5 ∧ yX5_wouldsOn.cls ≠ "java/lang/invoke/MethodHandle" ∧ yX5_wouldsOn.cls ≠ "java/lang/invoke/VarHandle" ∧ (parseMethodDescriptor yX5_wouldsOn.desc).map (fun d => d.parameters.length) = some 1 := by decide +kernel
theorem hdX5_standsOn : yX5_standsOn.cls = RX5 ∧ yX5_standsOn.cls ≠ "java/lang/invoke/MethodHandle" ∧ yX5_standsOn.cls ≠ "java/lang/invoke/VarHandle" ∧ (parseMethodDescriptor yX5_standsOn.desc).map (fun d => d.parameters.length) = some 1 := by decide +kernel
theorem hdX5_hoursOf : yX5_hoursOf.cls = RX5 ∧ yX5_hoursOf.cls ≠ "java/lang/invoke/MethodHandle" ∧ yX5_hoursOf.cls ≠ "java/lang/invoke/VarHandle" ∧ (parseMethodDescriptor yX5_hoursOf.desc).map (fun d => d.parameters.length) = some 1 := by decide +kernel
theorem hdX5_hoursBehind : yX5_hoursBehind.cls = RX5 ∧ yX5_hoursBehind.cls ≠ "java/lang/invoke/MethodHandle" ∧ yX5_hoursBehind.cls ≠ "java/lang/invoke/VarHandle" ∧ (parseMethodDescriptor yX5_hoursBehind.desc).map (fun d => d.parameters.length) = some 2 := by decide +kernel
set_option maxHeartbeats 4000000 in
set_option maxRecDepth 100000 in
theorem m_within (l : Launch) (D : va_G) (cI : ClassId) (v : Int32) (a : Int32) (b : Int32)  : Met l yX5_within wsX5_within ({ frames := 0, cells := 0, slots := 0, locals := 0 }) (PS D cI [.int v, .int a, .int b] ([])) (vp_Si (fun r => r = bI (wiB v a b))) 0 0 (fun _ => False) := by
  refine zk_S (cc := cX5_within) (maxL := 3) (ret := (some .boolean)) (by decide) rfl (Nat.le_of_ble_eq_true rfl) ?_
  intro pX eX sX mX bX tX cX hx hb hr hlocks hml hown hts hP hK ls hl
  have hl : lv_has ls 3 [(0, .int v), (1, .int a), (2, .int b)] := hl
  have hP : va_P D vwCl [] sX.heap := hP
  skip
  refine lv_iload_n hx hb dX5_within_0 rfl (lv_at hl 0 rfl) ?_
  refine lv_iload_n hx hb dX5_within_1 rfl (lv_at hl 1 rfl) ?_
  refine lv_icmp_lt (tgt := 14) hx hb dX5_within_2 (by decide) (fun c_1 => ?_) (fun c_1 => ?_)
  · refine lv_iconst (v := nI 0) hx hb dX5_within_14 (by decide) ?_
    exact zk_retSB hx hb hr nI_nar0 (by rw [show wiB v a b = false from by simp [wiB, c_1, (Int32.not_le.mpr c_1)]]; rfl) dX5_within_15 hlocks
  · have c_1 := Int32.not_lt.mp c_1
    refine lv_iload_n hx hb dX5_within_5 rfl (lv_at hl 0 rfl) ?_
    refine lv_iload_n hx hb dX5_within_6 rfl (lv_at hl 2 rfl) ?_
    refine lv_icmp_gt (tgt := 14) hx hb dX5_within_7 (by decide) (fun c_2 => ?_) (fun c_2 => ?_)
    · refine lv_iconst (v := nI 0) hx hb dX5_within_14 (by decide) ?_
      exact zk_retSB hx hb hr nI_nar0 (by rw [show wiB v a b = false from by simp [wiB, c_1, (Int32.not_lt.mpr c_1), c_2, (Int32.not_le.mpr c_2)]]; rfl) dX5_within_15 hlocks
    · have c_2 := Int32.not_lt.mp c_2
      refine lv_iconst (v := nI 1) hx hb dX5_within_10 (by decide) ?_
      refine lv_goto (tgt := 15) hx hb dX5_within_11 (by decide) ?_
      exact zk_retSB hx hb hr nI_nar1 (by rw [show wiB v a b = true from by simp [wiB, c_1, (Int32.not_lt.mpr c_1), c_2, (Int32.not_lt.mpr c_2)]]; rfl) dX5_within_15 hlocks
set_option maxHeartbeats 4000000 in
set_option maxRecDepth 100000 in
theorem m_isSheet (l : Launch) (D : va_G) (cI : ClassId) (v : Int32)  : Met l yX5_isSheet wsX5_isSheet ({ frames := 1, cells := 0, slots := 0, locals := 22 }) (PS D cI [.int v] ([])) (vp_Si (fun r => r = bI (isP 4 v))) 0 0 (fun _ => False) := by
  refine zk_S (cc := cX5_isSheet) (maxL := 1) (ret := (some .boolean)) (by decide) rfl (Nat.le_of_ble_eq_true rfl) ?_
  intro pX eX sX mX bX tX cX hx hb hr hlocks hml hown hts hP hK ls hl
  have hl : lv_has ls 1 [(0, .int v)] := hl
  have hP : va_P D vwCl [] sX.heap := hP
  skip
  refine lv_iload_n hx hb dX5_isSheet_0 rfl (lv_at hl 0 rfl) ?_
  refine lv_iconst (v := nI 0) hx hb dX5_isSheet_1 (by decide) ?_
  refine lv_iconst (v := nI 3) hx hb dX5_isSheet_2 (by decide) ?_
  refine zk_callSi (As := [.int v, .int (nI 0), .int (nI 3)]) (rest := []) (bI (wiB v (nI 0) (nI 3))) ⟨hx, hb, hml, hown, hts⟩ hK hP [] rfl (m_within l D cI v (nI 0) (nI 3) ) (va_cwS 3 hts gX5_isSheet_X5_within rfl rfl rfl hdX5_within ⟨Nat.le_of_ble_eq_true rfl, Nat.le_of_ble_eq_true rfl⟩) rfl hl.1 rfl (Nat.le_of_ble_eq_true rfl) dX5_isSheet_3 ⟨Nat.le_of_ble_eq_true rfl, Nat.le_of_ble_eq_true rfl⟩ ?_
  exact zk_retSB hx hb hr (bI_nar _) (congrArg bI (wiB_isP (by omega) v)) dX5_isSheet_6 hlocks
set_option maxHeartbeats 4000000 in
set_option maxRecDepth 100000 in
theorem m_isSort (l : Launch) (D : va_G) (cI : ClassId) (v : Int32)  : Met l yX5_isSort wsX5_isSort ({ frames := 1, cells := 0, slots := 0, locals := 22 }) (PS D cI [.int v] ([])) (vp_Si (fun r => r = bI (isP 3 v))) 0 0 (fun _ => False) := by
  refine zk_S (cc := cX5_isSort) (maxL := 1) (ret := (some .boolean)) (by decide) rfl (Nat.le_of_ble_eq_true rfl) ?_
  intro pX eX sX mX bX tX cX hx hb hr hlocks hml hown hts hP hK ls hl
  have hl : lv_has ls 1 [(0, .int v)] := hl
  have hP : va_P D vwCl [] sX.heap := hP
  skip
  refine lv_iload_n hx hb dX5_isSort_0 rfl (lv_at hl 0 rfl) ?_
  refine lv_iconst (v := nI 0) hx hb dX5_isSort_1 (by decide) ?_
  refine lv_iconst (v := nI 2) hx hb dX5_isSort_2 (by decide) ?_
  refine zk_callSi (As := [.int v, .int (nI 0), .int (nI 2)]) (rest := []) (bI (wiB v (nI 0) (nI 2))) ⟨hx, hb, hml, hown, hts⟩ hK hP [] rfl (m_within l D cI v (nI 0) (nI 2) ) (va_cwS 3 hts gX5_isSort_X5_within rfl rfl rfl hdX5_within ⟨Nat.le_of_ble_eq_true rfl, Nat.le_of_ble_eq_true rfl⟩) rfl hl.1 rfl (Nat.le_of_ble_eq_true rfl) dX5_isSort_3 ⟨Nat.le_of_ble_eq_true rfl, Nat.le_of_ble_eq_true rfl⟩ ?_
  exact zk_retSB hx hb hr (bI_nar _) (congrArg bI (wiB_isP (by omega) v)) dX5_isSort_6 hlocks
set_option maxHeartbeats 4000000 in
set_option maxRecDepth 100000 in
theorem m_isDigit (l : Launch) (D : va_G) (cI : ClassId) (v : Int32)  : Met l yX5_isDigit wsX5_isDigit ({ frames := 1, cells := 0, slots := 0, locals := 22 }) (PS D cI [.int v] ([])) (vp_Si (fun r => r = bI (isP 10 v))) 0 0 (fun _ => False) := by
  refine zk_S (cc := cX5_isDigit) (maxL := 1) (ret := (some .boolean)) (by decide) rfl (Nat.le_of_ble_eq_true rfl) ?_
  intro pX eX sX mX bX tX cX hx hb hr hlocks hml hown hts hP hK ls hl
  have hl : lv_has ls 1 [(0, .int v)] := hl
  have hP : va_P D vwCl [] sX.heap := hP
  skip
  refine lv_iload_n hx hb dX5_isDigit_0 rfl (lv_at hl 0 rfl) ?_
  refine lv_iconst (v := nI 0) hx hb dX5_isDigit_1 (by decide) ?_
  refine lv_bipush (v := nI 9) hx hb dX5_isDigit_2 (by decide) ?_
  refine zk_callSi (As := [.int v, .int (nI 0), .int (nI 9)]) (rest := []) (bI (wiB v (nI 0) (nI 9))) ⟨hx, hb, hml, hown, hts⟩ hK hP [] rfl (m_within l D cI v (nI 0) (nI 9) ) (va_cwS 3 hts gX5_isDigit_X5_within rfl rfl rfl hdX5_within ⟨Nat.le_of_ble_eq_true rfl, Nat.le_of_ble_eq_true rfl⟩) rfl hl.1 rfl (Nat.le_of_ble_eq_true rfl) dX5_isDigit_4 ⟨Nat.le_of_ble_eq_true rfl, Nat.le_of_ble_eq_true rfl⟩ ?_
  exact zk_retSB hx hb hr (bI_nar _) (congrArg bI (wiB_isP (by omega) v)) dX5_isDigit_7 hlocks
set_option maxHeartbeats 4000000 in
set_option maxRecDepth 100000 in
theorem m_isPupil (l : Launch) (D : va_G) (cI : ClassId) (m0 : Nat) (m1 : Nat) (m2 : Nat) (m3 : Nat) (m4 : Nat) (m5 : Nat) (m6 : Nat) (m7 : Nat) (m8 : Nat) (m9 : Nat) (m10 : Nat) (m11 : Nat) (m12 : Nat) (m13 : Nat) (m14 : Nat) (m15 : Nat) (fm : Int32) (tm : Int32) (at1 : Nat) (rdb : Int32) (rrm : Int32) (rD : Nat) (rP : Nat) (mt : Nat) (M : YS) (p : Int32)  : Met l yX5_isPupil wsX5_isPupil ({ frames := 0, cells := 0, slots := 0, locals := 0 }) (PS D cI [.ref m0, .int p] (wMo m0 m1 m2 m3 m4 m5 m6 m7 m8 m9 m10 m11 m12 m13 m14 m15 fm tm at1 rdb rrm rD rP mt M ++ wMa cI m4 m5 m6 m7 m12 M)) (vp_Si (fun r => r = bI (isP M.P p))) 0 0 (fun _ => False) := by
  refine zk_S (cc := cX5_isPupil) (maxL := 2) (ret := (some .boolean)) (by decide) rfl (Nat.le_of_ble_eq_true rfl) ?_
  intro pX eX sX mX bX tX cX hx hb hr hlocks hml hown hts hP hK ls hl
  have hl : lv_has ls 2 [(0, .ref m0), (1, .int p)] := hl
  have hP : va_P D vwCl [(m0, .inr (5, [.int fm, .int tm, .ref m1, .ref m2, .ref m3, .int M.db, .int M.rm, .int (nI M.D), .int (nI M.P), .ref m4, .ref m5, .ref m6, .ref m7, .int (nI at1), .int rdb, .int rrm, .int (nI rD), .int (nI rP), .ref m8, .ref m9, .ref m10, .ref m11, .ref m12, .int (nI mt), .ref m13, .ref m14, .ref m15])), (m4, .inl (cI, 5, .inl M.hard)), (m5, .inl (cI, 4, .inl M.kind)), (m6, .inl (cI, 4, .inl M.wit)), (m7, .inl (cI, 4, .inl M.pat)), (m12, .inl (cI, 4, .inl M.pret))] sX.heap := hP
  have f_65 := hts (.fieldLink RX5 65 "DunceSeeModel" "pupils" "I") (by decide +kernel)
  have inX5 : ∀ w ∈ wsX50, w ∈ wsX5_isPupil := fun w h => List.mem_cons_of_mem _ (List.mem_append_right _ h)
  refine lv_iload_n hx hb dX5_isPupil_0 rfl (lv_at hl 1 rfl) ?_
  refine lv_if_lt (tgt := 16) hx hb dX5_isPupil_1 (by decide) (fun c_1 => ?_) (fun c_1 => ?_)
  · refine lv_iconst (v := nI 0) hx hb dX5_isPupil_16 (by decide) ?_
    exact zk_retSB hx hb hr nI_nar0 (by rw [show isP M.P p = false from by simp [isP, c_1, (Int32.not_le.mpr c_1)]]; rfl) dX5_isPupil_17 hlocks
  · have c_1 := Int32.not_lt.mp c_1
    refine lv_iload_n hx hb dX5_isPupil_4 rfl (lv_at hl 1 rfl) ?_
    refine lv_aload_n hx hb dX5_isPupil_5 rfl (lv_at hl 0 rfl) ?_
    refine va_get (D := D) (ci := 5) (v := .int (nI M.P)) (C := RX5) (T := TX5) (N := 27) hx hb hts inX5 hown hK.1 hP 0 rfl rfl 8 (by decide) f_65 (fun _ h9 => h9) rfl dX5_isPupil_6 ?_
    refine lv_icmp_ge (tgt := 16) hx hb dX5_isPupil_9 (by decide) (fun c_2 => ?_) (fun c_2 => ?_)
    · refine lv_iconst (v := nI 0) hx hb dX5_isPupil_16 (by decide) ?_
      exact zk_retSB hx hb hr nI_nar0 (by rw [show isP M.P p = false from by simp [isP, c_1, (Int32.not_lt.mpr c_1), c_2, (Int32.not_lt.mpr c_2)]]; rfl) dX5_isPupil_17 hlocks
    · have c_2 := Int32.not_le.mp c_2
      refine lv_iconst (v := nI 1) hx hb dX5_isPupil_12 (by decide) ?_
      refine lv_goto (tgt := 17) hx hb dX5_isPupil_13 (by decide) ?_
      exact zk_retSB hx hb hr nI_nar1 (by rw [show isP M.P p = true from by simp [isP, c_1, (Int32.not_lt.mpr c_1), c_2, (Int32.not_le.mpr c_2)]]; rfl) dX5_isPupil_17 hlocks
set_option maxHeartbeats 4000000 in
set_option maxRecDepth 100000 in
theorem m_isDay (l : Launch) (D : va_G) (cI : ClassId) (m0 : Nat) (m1 : Nat) (m2 : Nat) (m3 : Nat) (m4 : Nat) (m5 : Nat) (m6 : Nat) (m7 : Nat) (m8 : Nat) (m9 : Nat) (m10 : Nat) (m11 : Nat) (m12 : Nat) (m13 : Nat) (m14 : Nat) (m15 : Nat) (fm : Int32) (tm : Int32) (at1 : Nat) (rdb : Int32) (rrm : Int32) (rD : Nat) (rP : Nat) (mt : Nat) (M : YS) (p : Int32)  : Met l yX5_isDay wsX5_isDay ({ frames := 0, cells := 0, slots := 0, locals := 0 }) (PS D cI [.ref m0, .int p] (wMo m0 m1 m2 m3 m4 m5 m6 m7 m8 m9 m10 m11 m12 m13 m14 m15 fm tm at1 rdb rrm rD rP mt M ++ wMa cI m4 m5 m6 m7 m12 M)) (vp_Si (fun r => r = bI (isP M.D p))) 0 0 (fun _ => False) := by
  refine zk_S (cc := cX5_isDay) (maxL := 2) (ret := (some .boolean)) (by decide) rfl (Nat.le_of_ble_eq_true rfl) ?_
  intro pX eX sX mX bX tX cX hx hb hr hlocks hml hown hts hP hK ls hl
  have hl : lv_has ls 2 [(0, .ref m0), (1, .int p)] := hl
  have hP : va_P D vwCl [(m0, .inr (5, [.int fm, .int tm, .ref m1, .ref m2, .ref m3, .int M.db, .int M.rm, .int (nI M.D), .int (nI M.P), .ref m4, .ref m5, .ref m6, .ref m7, .int (nI at1), .int rdb, .int rrm, .int (nI rD), .int (nI rP), .ref m8, .ref m9, .ref m10, .ref m11, .ref m12, .int (nI mt), .ref m13, .ref m14, .ref m15])), (m4, .inl (cI, 5, .inl M.hard)), (m5, .inl (cI, 4, .inl M.kind)), (m6, .inl (cI, 4, .inl M.wit)), (m7, .inl (cI, 4, .inl M.pat)), (m12, .inl (cI, 4, .inl M.pret))] sX.heap := hP
  have f_68 := hts (.fieldLink RX5 68 "DunceSeeModel" "days" "I") (by decide +kernel)
  have inX5 : ∀ w ∈ wsX50, w ∈ wsX5_isDay := fun w h => List.mem_cons_of_mem _ (List.mem_append_right _ h)
  refine lv_iload_n hx hb dX5_isDay_0 rfl (lv_at hl 1 rfl) ?_
  refine lv_if_lt (tgt := 16) hx hb dX5_isDay_1 (by decide) (fun c_1 => ?_) (fun c_1 => ?_)
  · refine lv_iconst (v := nI 0) hx hb dX5_isDay_16 (by decide) ?_
    exact zk_retSB hx hb hr nI_nar0 (by rw [show isP M.D p = false from by simp [isP, c_1, (Int32.not_le.mpr c_1)]]; rfl) dX5_isDay_17 hlocks
  · have c_1 := Int32.not_lt.mp c_1
    refine lv_iload_n hx hb dX5_isDay_4 rfl (lv_at hl 1 rfl) ?_
    refine lv_aload_n hx hb dX5_isDay_5 rfl (lv_at hl 0 rfl) ?_
    refine va_get (D := D) (ci := 5) (v := .int (nI M.D)) (C := RX5) (T := TX5) (N := 27) hx hb hts inX5 hown hK.1 hP 0 rfl rfl 7 (by decide) f_68 (fun _ h9 => h9) rfl dX5_isDay_6 ?_
    refine lv_icmp_ge (tgt := 16) hx hb dX5_isDay_9 (by decide) (fun c_2 => ?_) (fun c_2 => ?_)
    · refine lv_iconst (v := nI 0) hx hb dX5_isDay_16 (by decide) ?_
      exact zk_retSB hx hb hr nI_nar0 (by rw [show isP M.D p = false from by simp [isP, c_1, (Int32.not_lt.mpr c_1), c_2, (Int32.not_lt.mpr c_2)]]; rfl) dX5_isDay_17 hlocks
    · have c_2 := Int32.not_le.mp c_2
      refine lv_iconst (v := nI 1) hx hb dX5_isDay_12 (by decide) ?_
      refine lv_goto (tgt := 17) hx hb dX5_isDay_13 (by decide) ?_
      exact zk_retSB hx hb hr nI_nar1 (by rw [show isP M.D p = true from by simp [isP, c_1, (Int32.not_lt.mpr c_1), c_2, (Int32.not_le.mpr c_2)]]; rfl) dX5_isDay_17 hlocks
set_option maxHeartbeats 4000000 in
set_option maxRecDepth 100000 in
theorem m_hoursOf (l : Launch) (D : va_G) (cI : ClassId) (m0 : Nat) (m1 : Nat) (m2 : Nat) (m3 : Nat) (m4 : Nat) (m5 : Nat) (m6 : Nat) (m7 : Nat) (m8 : Nat) (m9 : Nat) (m10 : Nat) (m11 : Nat) (m12 : Nat) (m13 : Nat) (m14 : Nat) (m15 : Nat) (fm : Int32) (tm : Int32) (at1 : Nat) (rdb : Int32) (rrm : Int32) (rD : Nat) (rP : Nat) (mt : Nat) (M : YS) (p : Nat) (hg : GdY M) (hp : p < M.P) : Met l yX5_hoursOf wsX5_hoursOf ({ frames := 0, cells := 0, slots := 0, locals := 0 }) (PS D cI [.ref m0, .int (nI p)] (wMo m0 m1 m2 m3 m4 m5 m6 m7 m8 m9 m10 m11 m12 m13 m14 m15 fm tm at1 rdb rrm rD rP mt M ++ wMa cI m4 m5 m6 m7 m12 M)) (vp_Si (fun r => r = hrs M p)) 0 0 (fun _ => False) := by
  refine zk_S (cc := cX5_hoursOf) (maxL := 2) (ret := (some .int)) (by decide) rfl (Nat.le_of_ble_eq_true rfl) ?_
  intro pX eX sX mX bX tX cX hx hb hr hlocks hml hown hts hP hK ls hl
  have hl : lv_has ls 2 [(0, .ref m0), (1, .int (nI p))] := hl
  have hP : va_P D vwCl [(m0, .inr (5, [.int fm, .int tm, .ref m1, .ref m2, .ref m3, .int M.db, .int M.rm, .int (nI M.D), .int (nI M.P), .ref m4, .ref m5, .ref m6, .ref m7, .int (nI at1), .int rdb, .int rrm, .int (nI rD), .int (nI rP), .ref m8, .ref m9, .ref m10, .ref m11, .ref m12, .int (nI mt), .ref m13, .ref m14, .ref m15])), (m4, .inl (cI, 5, .inl M.hard)), (m5, .inl (cI, 4, .inl M.kind)), (m6, .inl (cI, 4, .inl M.wit)), (m7, .inl (cI, 4, .inl M.pat)), (m12, .inl (cI, 4, .inl M.pret))] sX.heap := hP
  have f_22 := hts (.fieldLink RX5 22 "DunceSeeModel" "kind" "[I") (by decide +kernel)
  have f_28 := hts (.fieldLink RX5 28 "DunceSeeModel" "patience" "[I") (by decide +kernel)
  have inX5 : ∀ w ∈ wsX50, w ∈ wsX5_hoursOf := fun w h => List.mem_cons_of_mem _ (List.mem_append_right _ h)
  have hD5 : M.D ≤ 5 := hg.1.1
  have hP4 : M.P ≤ 4 := hg.1.2
  obtain ⟨h_k, a, h_9, h_a⟩ := hg.2.2 p hp
  refine lv_aload_n hx hb dX5_hoursOf_0 rfl (lv_at hl 0 rfl) ?_
  refine va_get (D := D) (ci := 5) (v := .ref m5) (C := RX5) (T := TX5) (N := 27) hx hb hts inX5 hown hK.1 hP 0 rfl rfl 10 (by decide) f_22 (fun _ h9 => h9) rfl dX5_hoursOf_1 ?_
  refine lv_iload_n hx hb dX5_hoursOf_4 rfl (lv_at hl 1 rfl) ?_
  refine zk_iald hx hb hK hP 2 rfl (by omega) (by decide) dX5_hoursOf_5 ?_
  refine lv_iconst (v := nI 1) hx hb dX5_hoursOf_6 (by decide) ?_
  refine lv_icmp_ne (tgt := 32) hx hb dX5_hoursOf_7 (by decide) (fun c_1 => ?_) (fun c_1 => ?_)
  · refine lv_aload_n hx hb dX5_hoursOf_32 rfl (lv_at hl 0 rfl) ?_
    refine va_get (D := D) (ci := 5) (v := .ref m5) (C := RX5) (T := TX5) (N := 27) hx hb hts inX5 hown hK.1 hP 0 rfl rfl 10 (by decide) f_22 (fun _ h9 => h9) rfl dX5_hoursOf_33 ?_
    refine lv_iload_n hx hb dX5_hoursOf_36 rfl (lv_at hl 1 rfl) ?_
    refine zk_iald hx hb hK hP 2 rfl (by omega) (by decide) dX5_hoursOf_37 ?_
    refine lv_if_ne (tgt := 50) hx hb dX5_hoursOf_38 (by decide) (fun c_2 => ?_) (fun c_2 => ?_)
    · refine lv_aload_n hx hb dX5_hoursOf_50 rfl (lv_at hl 0 rfl) ?_
      refine va_get (D := D) (ci := 5) (v := .ref m7) (C := RX5) (T := TX5) (N := 27) hx hb hts inX5 hown hK.1 hP 0 rfl rfl 12 (by decide) f_28 (fun _ h9 => h9) rfl dX5_hoursOf_51 ?_
      refine lv_iload_n hx hb dX5_hoursOf_54 rfl (lv_at hl 1 rfl) ?_
      refine zk_iald hx hb hK hP 4 rfl (by omega) (by decide) dX5_hoursOf_55 ?_
      refine lv_iconst (v := nI 2) hx hb dX5_hoursOf_56 (by decide) ?_
      refine lv_idiv hx hb dX5_hoursOf_57 (by decide) ?_
      exact zk_retS hx hb hr (by unfold hrs; rw [if_neg c_1]; rcases h_k with h_k | h_k | h_k; { exact absurd (h_k.trans k01.2.2.1) c_2 }; { exact absurd h_k c_1 }; { rw [if_pos h_k] }) dX5_hoursOf_58 hlocks
    · refine lv_aload_n hx hb dX5_hoursOf_41 rfl (lv_at hl 0 rfl) ?_
      refine va_get (D := D) (ci := 5) (v := .ref m7) (C := RX5) (T := TX5) (N := 27) hx hb hts inX5 hown hK.1 hP 0 rfl rfl 12 (by decide) f_28 (fun _ h9 => h9) rfl dX5_hoursOf_42 ?_
      refine lv_iload_n hx hb dX5_hoursOf_45 rfl (lv_at hl 1 rfl) ?_
      refine zk_iald hx hb hK hP 4 rfl (by omega) (by decide) dX5_hoursOf_46 ?_
      refine lv_goto (tgt := 58) hx hb dX5_hoursOf_47 (by decide) ?_
      exact zk_retS hx hb hr (by unfold hrs; rw [if_neg c_1]; rcases h_k with h_k | h_k | h_k; { rw [if_neg (by rw [h_k]; exact k01.2.2.2.2.2)] }; { exact absurd h_k c_1 }; { rw [h_k] at c_2; exact absurd c_2 k01.2.1 }) dX5_hoursOf_58 hlocks
  · refine lv_aload_n hx hb dX5_hoursOf_10 rfl (lv_at hl 0 rfl) ?_
    refine va_get (D := D) (ci := 5) (v := .ref m7) (C := RX5) (T := TX5) (N := 27) hx hb hts inX5 hown hK.1 hP 0 rfl rfl 12 (by decide) f_28 (fun _ h9 => h9) rfl dX5_hoursOf_11 ?_
    refine lv_iload_n hx hb dX5_hoursOf_14 rfl (lv_at hl 1 rfl) ?_
    refine zk_iald hx hb hK hP 4 rfl (by omega) (by decide) dX5_hoursOf_15 ?_
    refine lv_if_le (tgt := 30) hx hb dX5_hoursOf_16 (by decide) (fun c_3 => ?_) (fun c_3 => ?_)
    · refine lv_iconst (v := nI 0) hx hb dX5_hoursOf_30 (by decide) ?_
      exact zk_retS hx hb hr ((hrs_k1 c_1 h_a h_9).2 (by rw [← h_a]; exact c_3)) dX5_hoursOf_31 hlocks
    · have c_3 := Int32.not_le.mp c_3
      refine lv_aload_n hx hb dX5_hoursOf_19 rfl (lv_at hl 0 rfl) ?_
      refine va_get (D := D) (ci := 5) (v := .ref m7) (C := RX5) (T := TX5) (N := 27) hx hb hts inX5 hown hK.1 hP 0 rfl rfl 12 (by decide) f_28 (fun _ h9 => h9) rfl dX5_hoursOf_20 ?_
      refine lv_iload_n hx hb dX5_hoursOf_23 rfl (lv_at hl 1 rfl) ?_
      refine zk_iald hx hb hK hP 4 rfl (by omega) (by decide) dX5_hoursOf_24 ?_
      refine lv_iconst (v := nI 1) hx hb dX5_hoursOf_25 (by decide) ?_
      refine lv_isub hx hb dX5_hoursOf_26 ?_
      refine lv_goto (tgt := 31) hx hb dX5_hoursOf_27 (by decide) ?_
      exact zk_retS hx hb hr (by rw [h_a]; exact (hrs_k1 c_1 h_a h_9).1 (by rw [← h_a]; exact c_3)) dX5_hoursOf_31 hlocks
set_option maxHeartbeats 4000000 in
set_option maxRecDepth 100000 in
theorem m_isWould (l : Launch) (D : va_G) (cI : ClassId) (m0 : Nat) (m1 : Nat) (m2 : Nat) (m3 : Nat) (m4 : Nat) (m5 : Nat) (m6 : Nat) (m7 : Nat) (m8 : Nat) (m9 : Nat) (m10 : Nat) (m11 : Nat) (m12 : Nat) (m13 : Nat) (m14 : Nat) (m15 : Nat) (fm : Int32) (tm : Int32) (at1 : Nat) (rdb : Int32) (rrm : Int32) (rD : Nat) (rP : Nat) (mt : Nat) (M : YS) (p : Nat) (d : Nat) (b : Bool) (hp : p < 4) (hd : d < 5) : Met l yX5_isWould wsX5_isWould ({ frames := 0, cells := 0, slots := 0, locals := 0 }) (PS D cI [.ref m0, .int (nI p), .int (nI d), .int (bI b)] (wMo m0 m1 m2 m3 m4 m5 m6 m7 m8 m9 m10 m11 m12 m13 m14 m15 fm tm at1 rdb rrm rD rP mt M ++ wMa cI m4 m5 m6 m7 m12 M)) (vp_Si (fun r => r = bI (wdB (M.wit p) (M.hard d) M.db b))) 0 0 (fun _ => False) := by
  refine zk_S (cc := cX5_isWould) (maxL := 5) (ret := (some .boolean)) (by decide) rfl (Nat.le_of_ble_eq_true rfl) ?_
  intro pX eX sX mX bX tX cX hx hb hr hlocks hml hown hts hP hK ls hl
  have hl : lv_has ls 5 [(0, .ref m0), (1, .int (nI p)), (2, .int (nI d)), (3, .int (bI b))] := hl
  have hP : va_P D vwCl [(m0, .inr (5, [.int fm, .int tm, .ref m1, .ref m2, .ref m3, .int M.db, .int M.rm, .int (nI M.D), .int (nI M.P), .ref m4, .ref m5, .ref m6, .ref m7, .int (nI at1), .int rdb, .int rrm, .int (nI rD), .int (nI rP), .ref m8, .ref m9, .ref m10, .ref m11, .ref m12, .int (nI mt), .ref m13, .ref m14, .ref m15])), (m4, .inl (cI, 5, .inl M.hard)), (m5, .inl (cI, 4, .inl M.kind)), (m6, .inl (cI, 4, .inl M.wit)), (m7, .inl (cI, 4, .inl M.pat)), (m12, .inl (cI, 4, .inl M.pret))] sX.heap := hP
  have f_25 := hts (.fieldLink RX5 25 "DunceSeeModel" "wit" "[I") (by decide +kernel)
  have f_19 := hts (.fieldLink RX5 19 "DunceSeeModel" "hardOf" "[I") (by decide +kernel)
  have f_98 := hts (.fieldLink RX5 98 "DunceSeeModel" "doubtNow" "I") (by decide +kernel)
  have inX5 : ∀ w ∈ wsX50, w ∈ wsX5_isWould := fun w h => List.mem_cons_of_mem _ (List.mem_append_right _ h)
  refine lv_aload_n hx hb dX5_isWould_0 rfl (lv_at hl 0 rfl) ?_
  refine va_get (D := D) (ci := 5) (v := .ref m6) (C := RX5) (T := TX5) (N := 27) hx hb hts inX5 hown hK.1 hP 0 rfl rfl 11 (by decide) f_25 (fun _ h9 => h9) rfl dX5_isWould_1 ?_
  refine lv_iload_n hx hb dX5_isWould_4 rfl (lv_at hl 1 rfl) ?_
  refine zk_iald hx hb hK hP 3 rfl (by omega) (by decide) dX5_isWould_5 ?_
  refine lv_aload_n hx hb dX5_isWould_6 rfl (lv_at hl 0 rfl) ?_
  refine va_get (D := D) (ci := 5) (v := .ref m4) (C := RX5) (T := TX5) (N := 27) hx hb hts inX5 hown hK.1 hP 0 rfl rfl 9 (by decide) f_19 (fun _ h9 => h9) rfl dX5_isWould_7 ?_
  refine lv_iload_n hx hb dX5_isWould_10 rfl (lv_at hl 2 rfl) ?_
  refine zk_iald hx hb hK hP 1 rfl (by omega) (by decide) dX5_isWould_11 ?_
  refine lv_isub hx hb dX5_isWould_12 ?_
  refine lv_istore (lv' := [(4, .int ((M.wit p) - (M.hard d))), (0, .ref m0), (1, .int (nI p)), (2, .int (nI d)), (3, .int (bI b))]) hx hb dX5_isWould_13 hl (by decide) rfl (fun ls hl => ?_)
  refine lv_iload hx hb dX5_isWould_15 (lv_at hl 0 rfl) ?_
  refine lv_if_lt (tgt := 33) hx hb dX5_isWould_17 (by decide) (fun c_1 => ?_) (fun c_1 => ?_)
  · refine lv_iconst (v := nI 1) hx hb dX5_isWould_33 (by decide) ?_
    refine lv_goto (tgt := 38) hx hb dX5_isWould_34 (by decide) ?_
    exact zk_retSB hx hb hr nI_nar1 (by rw [show wdB (M.wit p) (M.hard d) M.db b = true from by simp [wdB, c_1, (Int32.not_le.mpr c_1)]]; rfl) dX5_isWould_38 hlocks
  · have c_1 := Int32.not_lt.mp c_1
    refine lv_iload_n hx hb dX5_isWould_20 rfl (lv_at hl 4 rfl) ?_
    refine zk_ifeqB (tgt := 37) hx hb dX5_isWould_21 (by decide) (fun c_2 => ?_) (fun c_2 => ?_)
    · refine lv_iconst (v := nI 0) hx hb dX5_isWould_37 (by decide) ?_
      exact zk_retSB hx hb hr nI_nar0 (by rw [show wdB (M.wit p) (M.hard d) M.db b = false from by simp [wdB, c_1, (Int32.not_lt.mpr c_1), c_2]]; rfl) dX5_isWould_38 hlocks
    · refine lv_iload hx hb dX5_isWould_24 (lv_at hl 0 rfl) ?_
      refine lv_aload_n hx hb dX5_isWould_26 rfl (lv_at hl 1 rfl) ?_
      refine va_get (D := D) (ci := 5) (v := .int M.db) (C := RX5) (T := TX5) (N := 27) hx hb hts inX5 hown hK.1 hP 0 rfl rfl 5 (by decide) f_98 (fun _ h9 => h9) rfl dX5_isWould_27 ?_
      refine lv_icmp_ge (tgt := 37) hx hb dX5_isWould_30 (by decide) (fun c_3 => ?_) (fun c_3 => ?_)
      · refine lv_iconst (v := nI 0) hx hb dX5_isWould_37 (by decide) ?_
        exact zk_retSB hx hb hr nI_nar0 (by rw [show wdB (M.wit p) (M.hard d) M.db b = false from by simp [wdB, c_1, (Int32.not_lt.mpr c_1), c_2, c_3, (Int32.not_lt.mpr c_3)]]; rfl) dX5_isWould_38 hlocks
      · have c_3 := Int32.not_le.mp c_3
        refine lv_iconst (v := nI 1) hx hb dX5_isWould_33 (by decide) ?_
        refine lv_goto (tgt := 38) hx hb dX5_isWould_34 (by decide) ?_
        exact zk_retSB hx hb hr nI_nar1 (by rw [show wdB (M.wit p) (M.hard d) M.db b = true from by simp [wdB, c_1, (Int32.not_lt.mpr c_1), c_2, c_3, (Int32.not_le.mpr c_3)]]; rfl) dX5_isWould_38 hlocks
set_option maxHeartbeats 4000000 in
set_option maxRecDepth 100000 in
theorem m_wouldNow (l : Launch) (D : va_G) (cI : ClassId) (m0 : Nat) (m1 : Nat) (m2 : Nat) (m3 : Nat) (m4 : Nat) (m5 : Nat) (m6 : Nat) (m7 : Nat) (m8 : Nat) (m9 : Nat) (m10 : Nat) (m11 : Nat) (m12 : Nat) (m13 : Nat) (m14 : Nat) (m15 : Nat) (fm : Int32) (tm : Int32) (at1 : Nat) (rdb : Int32) (rrm : Int32) (rD : Nat) (rP : Nat) (mt : Nat) (M : YS) (p : Nat) (d : Nat) (hp : p < 4) (hd : d < 5) : Met l yX5_wouldNow wsX5_wouldNow ({ frames := 1, cells := 0, slots := 0, locals := 24 }) (PS D cI [.ref m0, .int (nI p), .int (nI d)] (wMo m0 m1 m2 m3 m4 m5 m6 m7 m8 m9 m10 m11 m12 m13 m14 m15 fm tm at1 rdb rrm rD rP mt M ++ wMa cI m4 m5 m6 m7 m12 M)) (vp_Si (fun r => r = bI (wd M d p))) 0 0 (fun _ => False) := by
  refine zk_S (cc := cX5_wouldNow) (maxL := 3) (ret := (some .boolean)) (by decide) rfl (Nat.le_of_ble_eq_true rfl) ?_
  intro pX eX sX mX bX tX cX hx hb hr hlocks hml hown hts hP hK ls hl
  have hl : lv_has ls 3 [(0, .ref m0), (1, .int (nI p)), (2, .int (nI d))] := hl
  have hP : va_P D vwCl [(m0, .inr (5, [.int fm, .int tm, .ref m1, .ref m2, .ref m3, .int M.db, .int M.rm, .int (nI M.D), .int (nI M.P), .ref m4, .ref m5, .ref m6, .ref m7, .int (nI at1), .int rdb, .int rrm, .int (nI rD), .int (nI rP), .ref m8, .ref m9, .ref m10, .ref m11, .ref m12, .int (nI mt), .ref m13, .ref m14, .ref m15])), (m4, .inl (cI, 5, .inl M.hard)), (m5, .inl (cI, 4, .inl M.kind)), (m6, .inl (cI, 4, .inl M.wit)), (m7, .inl (cI, 4, .inl M.pat)), (m12, .inl (cI, 4, .inl M.pret))] sX.heap := hP
  have f_43 := hts (.fieldLink RX5 43 "DunceSeeModel" "pretends" "[I") (by decide +kernel)
  have inX5 : ∀ w ∈ wsX50, w ∈ wsX5_wouldNow := fun w h => List.mem_cons_of_mem _ (List.mem_append_right _ h)
  refine lv_aload_n hx hb dX5_wouldNow_0 rfl (lv_at hl 0 rfl) ?_
  refine lv_iload_n hx hb dX5_wouldNow_1 rfl (lv_at hl 1 rfl) ?_
  refine lv_iload_n hx hb dX5_wouldNow_2 rfl (lv_at hl 2 rfl) ?_
  refine lv_aload_n hx hb dX5_wouldNow_3 rfl (lv_at hl 0 rfl) ?_
  refine va_get (D := D) (ci := 5) (v := .ref m12) (C := RX5) (T := TX5) (N := 27) hx hb hts inX5 hown hK.1 hP 0 rfl rfl 22 (by decide) f_43 (fun _ h9 => h9) rfl dX5_wouldNow_4 ?_
  refine lv_iload_n hx hb dX5_wouldNow_7 rfl (lv_at hl 1 rfl) ?_
  refine zk_iald hx hb hK hP 5 rfl (by omega) (by decide) dX5_wouldNow_8 ?_
  refine lv_iload_n hx hb dX5_wouldNow_9 rfl (lv_at hl 2 rfl) ?_
  refine lv_ishr hx hb dX5_wouldNow_10 ?_
  refine lv_iconst (v := nI 1) hx hb dX5_wouldNow_11 (by decide) ?_
  refine lv_iand hx hb dX5_wouldNow_12 ?_
  refine lv_iconst (v := nI 1) hx hb dX5_wouldNow_13 (by decide) ?_
  refine lv_icmp_ne (tgt := 21) hx hb dX5_wouldNow_14 (by decide) (fun c_1 => ?_) (fun c_1 => ?_)
  · refine lv_iconst (v := nI 0) hx hb dX5_wouldNow_21 (by decide) ?_
    refine zk_callVi (As := [.int (nI p), .int (nI d), .int (bI false)]) (rest := []) (bI (wdB (M.wit p) (M.hard d) M.db false)) ⟨hx, hb, hml, hown, hts⟩ hK hP [0, 1, 2, 3, 4, 5] rfl (m_isWould l D cI m0 m1 m2 m3 m4 m5 m6 m7 m8 m9 m10 m11 m12 m13 m14 m15 fm tm at1 rdb rrm rD rP mt M p d false hp hd) (cwV 3 hts gX5_wouldNow_X5_isWould rfl rfl rfl hdX5_isWould ⟨Nat.le_of_ble_eq_true rfl, Nat.le_of_ble_eq_true rfl⟩) rfl rfl rfl hl.1 rfl (Nat.le_of_ble_eq_true rfl) dX5_wouldNow_22 ⟨Nat.le_of_ble_eq_true rfl, Nat.le_of_ble_eq_true rfl⟩ ?_
    exact zk_retSB hx hb hr (bI_nar _) (by unfold wd; rw [hbit_n1 c_1]) dX5_wouldNow_25 hlocks
  · refine lv_iconst (v := nI 1) hx hb dX5_wouldNow_17 (by decide) ?_
    refine lv_goto (tgt := 22) hx hb dX5_wouldNow_18 (by decide) ?_
    refine zk_callVi (As := [.int (nI p), .int (nI d), .int (bI true)]) (rest := []) (bI (wdB (M.wit p) (M.hard d) M.db true)) ⟨hx, hb, hml, hown, hts⟩ hK hP [0, 1, 2, 3, 4, 5] rfl (m_isWould l D cI m0 m1 m2 m3 m4 m5 m6 m7 m8 m9 m10 m11 m12 m13 m14 m15 fm tm at1 rdb rrm rD rP mt M p d true hp hd) (cwV 3 hts gX5_wouldNow_X5_isWould rfl rfl rfl hdX5_isWould ⟨Nat.le_of_ble_eq_true rfl, Nat.le_of_ble_eq_true rfl⟩) rfl rfl rfl hl.1 rfl (Nat.le_of_ble_eq_true rfl) dX5_wouldNow_22 ⟨Nat.le_of_ble_eq_true rfl, Nat.le_of_ble_eq_true rfl⟩ ?_
    exact zk_retSB hx hb hr (bI_nar _) (by unfold wd; rw [hbit_1 c_1]) dX5_wouldNow_25 hlocks
set_option maxHeartbeats 4000000 in
set_option maxRecDepth 100000 in
theorem m_wouldsOn (l : Launch) (D : va_G) (cI : ClassId) (m0 : Nat) (m1 : Nat) (m2 : Nat) (m3 : Nat) (m4 : Nat) (m5 : Nat) (m6 : Nat) (m7 : Nat) (m8 : Nat) (m9 : Nat) (m10 : Nat) (m11 : Nat) (m12 : Nat) (m13 : Nat) (m14 : Nat) (m15 : Nat) (fm : Int32) (tm : Int32) (at1 : Nat) (rdb : Int32) (rrm : Int32) (rD : Nat) (rP : Nat) (mt : Nat) (M : YS) (d : Nat) (hok : OkY M) (hd : d < 5) : Met l yX5_wouldsOn wsX5_wouldsOn ({ frames := 2, cells := 0, slots := 0, locals := 46 }) (PS D cI [.ref m0, .int (nI d)] (wMo m0 m1 m2 m3 m4 m5 m6 m7 m8 m9 m10 m11 m12 m13 m14 m15 fm tm at1 rdb rrm rD rP mt M ++ wMa cI m4 m5 m6 m7 m12 M)) (vp_Si (fun r => r = nI (msk M.P (wd M d)))) 0 0 (fun _ => False) := by
  refine zk_S (cc := cX5_wouldsOn) (maxL := 4) (ret := (some .int)) (by decide) rfl (Nat.le_of_ble_eq_true rfl) ?_
  intro pX eX sX mX bX tX cX hx hb hr hlocks hml hown hts hP hK ls hl
  have hl : lv_has ls 4 [(0, .ref m0), (1, .int (nI d))] := hl
  have hP : va_P D vwCl [(m0, .inr (5, [.int fm, .int tm, .ref m1, .ref m2, .ref m3, .int M.db, .int M.rm, .int (nI M.D), .int (nI M.P), .ref m4, .ref m5, .ref m6, .ref m7, .int (nI at1), .int rdb, .int rrm, .int (nI rD), .int (nI rP), .ref m8, .ref m9, .ref m10, .ref m11, .ref m12, .int (nI mt), .ref m13, .ref m14, .ref m15])), (m4, .inl (cI, 5, .inl M.hard)), (m5, .inl (cI, 4, .inl M.kind)), (m6, .inl (cI, 4, .inl M.wit)), (m7, .inl (cI, 4, .inl M.pat)), (m12, .inl (cI, 4, .inl M.pret))] sX.heap := hP
  have f_65 := hts (.fieldLink RX5 65 "DunceSeeModel" "pupils" "I") (by decide +kernel)
  have inX5 : ∀ w ∈ wsX50, w ∈ wsX5_wouldsOn := fun w h => List.mem_cons_of_mem _ (List.mem_append_right _ h)
  have hP4 : M.P ≤ 4 := hok.2
  refine lv_iconst (v := nI 0) hx hb dX5_wouldsOn_0 (by decide) ?_
  refine lv_istore_n (lv' := [(2, .int (nI 0)), (0, .ref m0), (1, .int (nI d))]) hx hb dX5_wouldsOn_1 rfl hl (by decide) rfl (fun ls hl => ?_)
  refine lv_iconst (v := nI 0) hx hb dX5_wouldsOn_2 (by decide) ?_
  refine lv_istore_n (lv' := [(3, .int (nI 0)), (2, .int (nI 0)), (0, .ref m0), (1, .int (nI d))]) hx hb dX5_wouldsOn_3 rfl hl (by decide) rfl (fun ls hl => ?_)
  have loop4 : ∀ (nL k : Nat), k ≤ M.P → M.P < k + nL → ∀ ls : Array Slot, lv_has ls 4 [(0, .ref m0), (1, .int (nI d)), (2, .int (nI (msk k (wd M d)))), (3, .int (nI k))] → W pX l eX ({ frames := 2, cells := 0, slots := 0, locals := 46 }) sX mX ([.ref m0, .int (nI d)] : List Value).toArray bX tX cX sX.heap [] 0 0 (MQ bX (vp_Si (fun r => r = nI (msk M.P (wd M d)))) ([.ref m0, .int (nI d)] : List Value).toArray sX 0 0 (fun _ => False)) (F0 mX 4 ls []) := by
    intro nL
    induction nL with
    | zero => intro k  h1 h2; exact absurd h2 (by omega)
    | succ nL ih =>
      intro k  h_le h_n   ls hl
      refine lv_iload_n hx hb dX5_wouldsOn_4 rfl (lv_at hl 3 rfl) ?_
      refine lv_aload_n hx hb dX5_wouldsOn_5 rfl (lv_at hl 0 rfl) ?_
      refine va_get (D := D) (ci := 5) (v := .int (nI M.P)) (C := RX5) (T := TX5) (N := 27) hx hb hts inX5 hown hK.1 hP 0 rfl rfl 8 (by decide) f_65 (fun _ h9 => h9) rfl dX5_wouldsOn_6 ?_
      refine zk_icmp_ge (tgt := 37) hx hb dX5_wouldsOn_9 (by decide) (by omega) (by omega) (fun c_1 => ?_) (fun c_1 => ?_)
      · refine lv_iload_n hx hb dX5_wouldsOn_37 rfl (lv_at hl 2 rfl) ?_
        exact zk_retS hx hb hr (by rw [show k = M.P by omega]) dX5_wouldsOn_38 hlocks
      · refine lv_iload_n hx hb dX5_wouldsOn_12 rfl (lv_at hl 2 rfl) ?_
        refine lv_aload_n hx hb dX5_wouldsOn_13 rfl (lv_at hl 0 rfl) ?_
        refine lv_iload_n hx hb dX5_wouldsOn_14 rfl (lv_at hl 3 rfl) ?_
        refine lv_iload_n hx hb dX5_wouldsOn_15 rfl (lv_at hl 1 rfl) ?_
        refine zk_callVi (As := [.int (nI k), .int (nI d)]) (rest := [.int (nI (msk k (wd M d)))]) (bI (wd M d k)) ⟨hx, hb, hml, hown, hts⟩ hK hP [0, 1, 2, 3, 4, 5] rfl (m_wouldNow l D cI m0 m1 m2 m3 m4 m5 m6 m7 m8 m9 m10 m11 m12 m13 m14 m15 fm tm at1 rdb rrm rD rP mt M k d (by omega) hd) (cwV 2 hts gX5_wouldsOn_X5_wouldNow rfl rfl rfl hdX5_wouldNow ⟨Nat.le_of_ble_eq_true rfl, Nat.le_of_ble_eq_true rfl⟩) rfl rfl rfl hl.1 rfl (Nat.le_of_ble_eq_true rfl) dX5_wouldsOn_16 ⟨Nat.le_of_ble_eq_true rfl, Nat.le_of_ble_eq_true rfl⟩ ?_
        refine zk_ifeqB (tgt := 28) hx hb dX5_wouldsOn_19 (by decide) (fun c_2 => ?_) (fun c_2 => ?_)
        · refine lv_iconst (v := nI 0) hx hb dX5_wouldsOn_28 (by decide) ?_
          refine lv_ior hx hb dX5_wouldsOn_29 ?_
          refine lv_istore_n (lv' := [(2, .int ((nI (msk k (wd M d))) ||| (nI 0))), (0, .ref m0), (1, .int (nI d)), (3, .int (nI k))]) hx hb dX5_wouldsOn_30 rfl hl (by decide) rfl (fun ls hl => ?_)
          refine lv_iinc (v := nI (k + 1)) (lv' := [(3, .int (nI (k + 1))), (2, .int ((nI (msk k (wd M d))) ||| (nI 0))), (0, .ref m0), (1, .int (nI d))]) hx hb dX5_wouldsOn_31 hl (k := 3) rfl (by rw [show (Int32.ofInt 1) = nI 1 from by decide, nI_add]) (by decide) rfl (fun ls hl => ?_)
          refine lv_goto (tgt := 4) hx hb dX5_wouldsOn_34 (by decide) ?_
          have hl := lv_sub hl [2, 3, 1, 0] rfl
          have e_2 : (nI (msk k (wd M d))) ||| (nI 0) = nI (msk (k + 1) (wd M d)) := (or0 k (by omega) _ (msk_lt k _)).trans (msk_no c_2)
          rw [e_2] at hl
          exact ih (k + 1)  (by omega) (by omega)   ls hl
        · refine lv_iconst (v := nI 1) hx hb dX5_wouldsOn_22 (by decide) ?_
          refine lv_iload_n hx hb dX5_wouldsOn_23 rfl (lv_at hl 3 rfl) ?_
          refine lv_ishl hx hb dX5_wouldsOn_24 ?_
          refine lv_goto (tgt := 29) hx hb dX5_wouldsOn_25 (by decide) ?_
          refine lv_ior hx hb dX5_wouldsOn_29 ?_
          refine lv_istore_n (lv' := [(2, .int ((nI (msk k (wd M d))) ||| ((nI 1) <<< ((nI k) &&& 31)))), (0, .ref m0), (1, .int (nI d)), (3, .int (nI k))]) hx hb dX5_wouldsOn_30 rfl hl (by decide) rfl (fun ls hl => ?_)
          refine lv_iinc (v := nI (k + 1)) (lv' := [(3, .int (nI (k + 1))), (2, .int ((nI (msk k (wd M d))) ||| ((nI 1) <<< ((nI k) &&& 31)))), (0, .ref m0), (1, .int (nI d))]) hx hb dX5_wouldsOn_31 hl (k := 3) rfl (by rw [show (Int32.ofInt 1) = nI 1 from by decide, nI_add]) (by decide) rfl (fun ls hl => ?_)
          refine lv_goto (tgt := 4) hx hb dX5_wouldsOn_34 (by decide) ?_
          have hl := lv_sub hl [2, 3, 1, 0] rfl
          have e_2 : (nI (msk k (wd M d))) ||| ((nI 1) <<< ((nI k) &&& 31)) = nI (msk (k + 1) (wd M d)) := msk_or (by omega) c_2
          rw [e_2] at hl
          exact ih (k + 1)  (by omega) (by omega)   ls hl
  have hl := lv_sub hl [2, 3, 1, 0] rfl
  have e_2 : nI 0 = nI (msk 0 (wd M d)) := by rfl
  have hl : lv_has ls 4 [(0, .ref m0), (1, .int (nI d)), (2, .int (nI (msk 0 (wd M d)))), (3, .int (nI 0))] := by
    first | exact hl | (rw [← e_2]; exact hl) | (simp only [e_2] at hl ⊢; exact hl)
  exact loop4 (M.P + 1) 0  (by omega) (by omega)   ls hl
set_option maxHeartbeats 4000000 in
set_option maxRecDepth 100000 in
theorem m_standsOn (l : Launch) (D : va_G) (cI : ClassId) (m0 : Nat) (m1 : Nat) (m2 : Nat) (m3 : Nat) (m4 : Nat) (m5 : Nat) (m6 : Nat) (m7 : Nat) (m8 : Nat) (m9 : Nat) (m10 : Nat) (m11 : Nat) (m12 : Nat) (m13 : Nat) (m14 : Nat) (m15 : Nat) (fm : Int32) (tm : Int32) (at1 : Nat) (rdb : Int32) (rrm : Int32) (rD : Nat) (rP : Nat) (mt : Nat) (M : YS) (d : Nat) (hg : GdY M) (hd : d < 5) : Met l yX5_standsOn wsX5_standsOn ({ frames := 3, cells := 0, slots := 0, locals := 69 }) (PS D cI [.ref m0, .int (nI d)] (wMo m0 m1 m2 m3 m4 m5 m6 m7 m8 m9 m10 m11 m12 m13 m14 m15 fm tm at1 rdb rrm rD rP mt M ++ wMa cI m4 m5 m6 m7 m12 M)) (vp_Si (fun r => r = nI (msk M.P (std M d)))) 0 0 (fun _ => False) := by
  refine zk_S (cc := cX5_standsOn) (maxL := 8) (ret := (some .int)) (by decide) rfl (Nat.le_of_ble_eq_true rfl) ?_
  intro pX eX sX mX bX tX cX hx hb hr hlocks hml hown hts hP hK ls hl
  have hl : lv_has ls 8 [(0, .ref m0), (1, .int (nI d))] := hl
  have hP : va_P D vwCl [(m0, .inr (5, [.int fm, .int tm, .ref m1, .ref m2, .ref m3, .int M.db, .int M.rm, .int (nI M.D), .int (nI M.P), .ref m4, .ref m5, .ref m6, .ref m7, .int (nI at1), .int rdb, .int rrm, .int (nI rD), .int (nI rP), .ref m8, .ref m9, .ref m10, .ref m11, .ref m12, .int (nI mt), .ref m13, .ref m14, .ref m15])), (m4, .inl (cI, 5, .inl M.hard)), (m5, .inl (cI, 4, .inl M.kind)), (m6, .inl (cI, 4, .inl M.wit)), (m7, .inl (cI, 4, .inl M.pat)), (m12, .inl (cI, 4, .inl M.pret))] sX.heap := hP
  have f_104 := hts (.fieldLink RX5 104 "DunceSeeModel" "room" "I") (by decide +kernel)
  have f_65 := hts (.fieldLink RX5 65 "DunceSeeModel" "pupils" "I") (by decide +kernel)
  have f_25 := hts (.fieldLink RX5 25 "DunceSeeModel" "wit" "[I") (by decide +kernel)
  have inX5 : ∀ w ∈ wsX50, w ∈ wsX5_standsOn := fun w h => List.mem_cons_of_mem _ (List.mem_append_right _ h)
  have hD5 : M.D ≤ 5 := hg.1.1
  have hP4 : M.P ≤ 4 := hg.1.2
  obtain ⟨r, hr4, hrm⟩ := hg.2.1
  refine lv_aload_n hx hb dX5_standsOn_0 rfl (lv_at hl 0 rfl) ?_
  refine lv_iload_n hx hb dX5_standsOn_1 rfl (lv_at hl 1 rfl) ?_
  refine zk_callVi (As := [.int (nI d)]) (rest := []) (nI (msk M.P (wd M d))) ⟨hx, hb, hml, hown, hts⟩ hK hP [0, 1, 2, 3, 4, 5] rfl (m_wouldsOn l D cI m0 m1 m2 m3 m4 m5 m6 m7 m8 m9 m10 m11 m12 m13 m14 m15 fm tm at1 rdb rrm rD rP mt M d (hg.1) hd) (cwV 1 hts gX5_standsOn_X5_wouldsOn rfl rfl rfl hdX5_wouldsOn ⟨Nat.le_of_ble_eq_true rfl, Nat.le_of_ble_eq_true rfl⟩) rfl rfl rfl hl.1 rfl (Nat.le_of_ble_eq_true rfl) dX5_standsOn_2 ⟨Nat.le_of_ble_eq_true rfl, Nat.le_of_ble_eq_true rfl⟩ ?_
  refine lv_istore_n (lv' := [(2, .int (nI (msk M.P (wd M d)))), (0, .ref m0), (1, .int (nI d))]) hx hb dX5_standsOn_5 rfl hl (by decide) rfl (fun ls hl => ?_)
  refine lv_iconst (v := nI 0) hx hb dX5_standsOn_6 (by decide) ?_
  refine lv_istore_n (lv' := [(3, .int (nI 0)), (2, .int (nI (msk M.P (wd M d)))), (0, .ref m0), (1, .int (nI d))]) hx hb dX5_standsOn_7 rfl hl (by decide) rfl (fun ls hl => ?_)
  refine lv_iconst (v := nI 0) hx hb dX5_standsOn_8 (by decide) ?_
  refine lv_istore (lv' := [(4, .int (nI 0)), (3, .int (nI 0)), (2, .int (nI (msk M.P (wd M d)))), (0, .ref m0), (1, .int (nI d))]) hx hb dX5_standsOn_9 hl (by decide) rfl (fun ls hl => ?_)
  have loop11 : ∀ (nL k : Nat), k ≤ r → r < k + nL → ∀ ls : Array Slot, lv_has ls 8 [(0, .ref m0), (1, .int (nI d)), (2, .int (nI (msk M.P (wd M d)))), (3, .int (nI (msk M.P (stdk M d k)))), (4, .int (nI k))] → W pX l eX ({ frames := 3, cells := 0, slots := 0, locals := 69 }) sX mX ([.ref m0, .int (nI d)] : List Value).toArray bX tX cX sX.heap [] 0 0 (MQ bX (vp_Si (fun r => r = nI (msk M.P (std M d)))) ([.ref m0, .int (nI d)] : List Value).toArray sX 0 0 (fun _ => False)) (F0 mX 11 ls []) := by
    intro nL
    induction nL with
    | zero => intro k  h1 h2; exact absurd h2 (by omega)
    | succ nL ih =>
      intro k  h_le h_n   ls hl
      have iho := ih
      refine lv_iload hx hb dX5_standsOn_11 (lv_at hl 4 rfl) ?_
      refine lv_aload_n hx hb dX5_standsOn_13 rfl (lv_at hl 0 rfl) ?_
      refine va_get (D := D) (ci := 5) (v := .int M.rm) (C := RX5) (T := TX5) (N := 27) hx hb hts inX5 hown hK.1 hP 0 rfl rfl 6 (by decide) f_104 (fun _ h9 => h9) rfl dX5_standsOn_14 ?_
      refine zk_top (y := nI r) hrm ?_
      refine zk_icmp_ge (tgt := 130) hx hb dX5_standsOn_17 (by decide) (by omega) (by omega) (fun c_1 => ?_) (fun c_1 => ?_)
      · refine lv_iload_n hx hb dX5_standsOn_130 rfl (lv_at hl 3 rfl) ?_
        exact zk_retS hx hb hr (by rw [show k = r by omega]; exact congrArg nI (msk_congr (fun p _ => (std_stdk hrm hr4 hP4 p).symm))) dX5_standsOn_131 hlocks
      · refine lv_bipush (v := (-9)) hx hb dX5_standsOn_20 (by decide) ?_
        refine lv_istore (lv' := [(5, .int (-9)), (0, .ref m0), (1, .int (nI d)), (2, .int (nI (msk M.P (wd M d)))), (3, .int (nI (msk M.P (stdk M d k)))), (4, .int (nI k))]) hx hb dX5_standsOn_22 hl (by decide) rfl (fun ls hl => ?_)
        refine lv_iconst (v := nI 0) hx hb dX5_standsOn_24 (by decide) ?_
        refine lv_istore (lv' := [(6, .int (nI 0)), (5, .int (-9)), (0, .ref m0), (1, .int (nI d)), (2, .int (nI (msk M.P (wd M d)))), (3, .int (nI (msk M.P (stdk M d k)))), (4, .int (nI k))]) hx hb dX5_standsOn_25 hl (by decide) rfl (fun ls hl => ?_)
        have loop27 : ∀ (nL j : Nat), j ≤ M.P → M.P < j + nL → ∀ ls : Array Slot, lv_has ls 8 [(0, .ref m0), (1, .int (nI d)), (2, .int (nI (msk M.P (wd M d)))), (3, .int (nI (msk M.P (stdk M d k)))), (4, .int (nI k)), (5, .int (oN (pkF M (lft M d k) j))), (6, .int (nI j))] → W pX l eX ({ frames := 3, cells := 0, slots := 0, locals := 69 }) sX mX ([.ref m0, .int (nI d)] : List Value).toArray bX tX cX sX.heap [] 0 0 (MQ bX (vp_Si (fun r => r = nI (msk M.P (std M d)))) ([.ref m0, .int (nI d)] : List Value).toArray sX 0 0 (fun _ => False)) (F0 mX 27 ls []) := by
          intro nL
          induction nL with
          | zero => intro j  h1 h2; exact absurd h2 (by omega)
          | succ nL ih =>
            intro j  h_le h_n   ls hl
            have ihj := ih
            have hw_j : j < M.P → hbit (nI (msk M.P (wd M d))) j = wd M d j := fun h => hbit_mskI (by omega) h _
            have hs_j : j < M.P → hbit (nI (msk M.P (stdk M d k))) j = stdk M d k j := fun h => hbit_mskI (by omega) h _
            refine lv_iload hx hb dX5_standsOn_27 (lv_at hl 6 rfl) ?_
            refine lv_aload_n hx hb dX5_standsOn_29 rfl (lv_at hl 0 rfl) ?_
            refine va_get (D := D) (ci := 5) (v := .int (nI M.P)) (C := RX5) (T := TX5) (N := 27) hx hb hts inX5 hown hK.1 hP 0 rfl rfl 8 (by decide) f_65 (fun _ h9 => h9) rfl dX5_standsOn_30 ?_
            refine zk_icmp_ge (tgt := 106) hx hb dX5_standsOn_33 (by decide) (by omega) (by omega) (fun c_2 => ?_) (fun c_2 => ?_)
            · rcases hqq : pkF M (lft M d k) M.P with _ | q
              · have e_j : j = M.P := by omega
                rw [e_j, hqq] at hl
                have hl : lv_has ls 8 [(0, .ref m0), (1, .int (nI d)), (2, .int (nI (msk M.P (wd M d)))), (3, .int (nI (msk M.P (stdk M d k)))), (4, .int (nI k)), (5, .int (-9)), (6, .int (nI j))] := by rw [e_j]; exact hl
                refine lv_iload_n hx hb dX5_standsOn_106 rfl (lv_at hl 3 rfl) ?_
                refine lv_iload hx hb dX5_standsOn_107 (lv_at hl 5 rfl) ?_
                refine lv_bipush (v := (-9)) hx hb dX5_standsOn_109 (by decide) ?_
                refine lv_icmp_ne (tgt := 118) hx hb dX5_standsOn_111 (by decide) (fun c_3 => ?_) (fun c_3 => ?_)
                · exact (by exact absurd rfl c_3)
                · refine lv_iconst (v := nI 0) hx hb dX5_standsOn_114 (by decide) ?_
                  refine lv_goto (tgt := 122) hx hb dX5_standsOn_115 (by decide) ?_
                  refine lv_ior hx hb dX5_standsOn_122 ?_
                  refine lv_istore_n (lv' := [(3, .int ((nI (msk M.P (stdk M d k))) ||| (nI 0))), (0, .ref m0), (1, .int (nI d)), (2, .int (nI (msk M.P (wd M d)))), (4, .int (nI k)), (5, .int (-9)), (6, .int (nI j))]) hx hb dX5_standsOn_123 rfl hl (by decide) rfl (fun ls hl => ?_)
                  refine lv_iinc (v := nI (k + 1)) (lv' := [(4, .int (nI (k + 1))), (3, .int ((nI (msk M.P (stdk M d k))) ||| (nI 0))), (0, .ref m0), (1, .int (nI d)), (2, .int (nI (msk M.P (wd M d)))), (5, .int (-9)), (6, .int (nI j))]) hx hb dX5_standsOn_124 hl (k := 4) rfl (by rw [show (Int32.ofInt 1) = nI 1 from by decide, nI_add]) (by decide) rfl (fun ls hl => ?_)
                  refine lv_goto (tgt := 11) hx hb dX5_standsOn_127 (by decide) ?_
                  have hl := lv_sub hl [2, 3, 4, 1, 0] rfl
                  have e_3 : (nI (msk M.P (stdk M d k))) ||| (nI 0) = nI (msk M.P (stdk M d (k + 1))) := (or0m hP4 _).trans (congrArg nI (msk_congr (pick_none hqq)).symm)
                  rw [e_3] at hl
                  exact iho (k + 1)  (by omega) (by omega)   ls hl
              · have e_j : j = M.P := by omega
                rw [e_j, hqq] at hl
                have hl : lv_has ls 8 [(0, .ref m0), (1, .int (nI d)), (2, .int (nI (msk M.P (wd M d)))), (3, .int (nI (msk M.P (stdk M d k)))), (4, .int (nI k)), (5, .int (nI q)), (6, .int (nI j))] := by rw [e_j]; exact hl
                have h_q := (pick_some hqq).1
                refine lv_iload_n hx hb dX5_standsOn_106 rfl (lv_at hl 3 rfl) ?_
                refine lv_iload hx hb dX5_standsOn_107 (lv_at hl 5 rfl) ?_
                refine lv_bipush (v := (-9)) hx hb dX5_standsOn_109 (by decide) ?_
                refine lv_icmp_ne (tgt := 118) hx hb dX5_standsOn_111 (by decide) (fun c_4 => ?_) (fun c_4 => ?_)
                · refine lv_iconst (v := nI 1) hx hb dX5_standsOn_118 (by decide) ?_
                  refine lv_iload hx hb dX5_standsOn_119 (lv_at hl 5 rfl) ?_
                  refine lv_ishl hx hb dX5_standsOn_121 ?_
                  refine lv_ior hx hb dX5_standsOn_122 ?_
                  refine lv_istore_n (lv' := [(3, .int ((nI (msk M.P (stdk M d k))) ||| ((nI 1) <<< ((nI q) &&& 31)))), (0, .ref m0), (1, .int (nI d)), (2, .int (nI (msk M.P (wd M d)))), (4, .int (nI k)), (5, .int (nI q)), (6, .int (nI j))]) hx hb dX5_standsOn_123 rfl hl (by decide) rfl (fun ls hl => ?_)
                  refine lv_iinc (v := nI (k + 1)) (lv' := [(4, .int (nI (k + 1))), (3, .int ((nI (msk M.P (stdk M d k))) ||| ((nI 1) <<< ((nI q) &&& 31)))), (0, .ref m0), (1, .int (nI d)), (2, .int (nI (msk M.P (wd M d)))), (5, .int (nI q)), (6, .int (nI j))]) hx hb dX5_standsOn_124 hl (k := 4) rfl (by rw [show (Int32.ofInt 1) = nI 1 from by decide, nI_add]) (by decide) rfl (fun ls hl => ?_)
                  refine lv_goto (tgt := 11) hx hb dX5_standsOn_127 (by decide) ?_
                  have hl := lv_sub hl [2, 3, 4, 1, 0] rfl
                  have e_3 : (nI (msk M.P (stdk M d k))) ||| ((nI 1) <<< ((nI q) &&& 31)) = nI (msk M.P (stdk M d (k + 1))) := set_q hP4 (pick_some hqq).1 (pick_some hqq).2.1 (pick_some hqq).2.2
                  rw [e_3] at hl
                  exact iho (k + 1)  (by omega) (by omega)   ls hl
                · exact (by exact absurd c_4 (oN_ne (by omega)))
            · have join60 : ∀ (b : Bool), (lft M d k j = b) → ∀ ls : Array Slot, lv_has ls 8 [(0, .ref m0), (1, .int (nI d)), (2, .int (nI (msk M.P (wd M d)))), (3, .int (nI (msk M.P (stdk M d k)))), (4, .int (nI k)), (5, .int (oN (pkF M (lft M d k) j))), (6, .int (nI j))] → W pX l eX ({ frames := 3, cells := 0, slots := 0, locals := 69 }) sX mX ([.ref m0, .int (nI d)] : List Value).toArray bX tX cX sX.heap [] 0 0 (MQ bX (vp_Si (fun r => r = nI (msk M.P (std M d)))) ([.ref m0, .int (nI d)] : List Value).toArray sX 0 0 (fun _ => False)) (F0 mX 60 ls [.int (bI b)]) := by
                intro b h_l ls hl
                refine lv_istore (lv' := [(7, .int (bI b)), (0, .ref m0), (1, .int (nI d)), (2, .int (nI (msk M.P (wd M d)))), (3, .int (nI (msk M.P (stdk M d k)))), (4, .int (nI k)), (5, .int (oN (pkF M (lft M d k) j))), (6, .int (nI j))]) hx hb dX5_standsOn_60 hl (by decide) rfl (fun ls hl => ?_)
                refine lv_iload hx hb dX5_standsOn_62 (lv_at hl 0 rfl) ?_
                refine zk_ifeqB (tgt := 96) hx hb dX5_standsOn_64 (by decide) (fun c_5 => ?_) (fun c_5 => ?_)
                · rw [c_5] at h_l
                  refine lv_iload hx hb dX5_standsOn_96 (lv_at hl 6 rfl) ?_
                  refine lv_istore (lv' := [(5, .int (oN (pkF M (lft M d k) j))), (7, .int (bI b)), (0, .ref m0), (1, .int (nI d)), (2, .int (nI (msk M.P (wd M d)))), (3, .int (nI (msk M.P (stdk M d k)))), (4, .int (nI k)), (6, .int (nI j))]) hx hb dX5_standsOn_98 hl (by decide) rfl (fun ls hl => ?_)
                  refine lv_iinc (v := nI (j + 1)) (lv' := [(6, .int (nI (j + 1))), (5, .int (oN (pkF M (lft M d k) j))), (7, .int (bI b)), (0, .ref m0), (1, .int (nI d)), (2, .int (nI (msk M.P (wd M d)))), (3, .int (nI (msk M.P (stdk M d k)))), (4, .int (nI k))]) hx hb dX5_standsOn_100 hl (k := 7) rfl (by rw [show (Int32.ofInt 1) = nI 1 from by decide, nI_add]) (by decide) rfl (fun ls hl => ?_)
                  refine lv_goto (tgt := 27) hx hb dX5_standsOn_103 (by decide) ?_
                  have hl := lv_sub hl [3, 4, 5, 6, 7, 1, 0] rfl
                  have e_5 : oN (pkF M (lft M d k) j) = oN (pkF M (lft M d k) (j + 1)) := by rw [pkF, if_neg (by rw [h_l]; simp)]
                  rw [e_5] at hl
                  exact ihj (j + 1)  (by omega) (by omega)   ls hl
                · rw [c_5] at h_l
                  rcases hq : pkF M (lft M d k) j with _ | q
                  · rw [hq] at hl
                    have hl : lv_has ls 8 [(7, .int (bI b)), (0, .ref m0), (1, .int (nI d)), (2, .int (nI (msk M.P (wd M d)))), (3, .int (nI (msk M.P (stdk M d k)))), (4, .int (nI k)), (5, .int (-9)), (6, .int (nI j))] := hl
                    refine lv_iload hx hb dX5_standsOn_67 (lv_at hl 6 rfl) ?_
                    refine lv_bipush (v := (-9)) hx hb dX5_standsOn_69 (by decide) ?_
                    refine lv_icmp_eq (tgt := 91) hx hb dX5_standsOn_71 (by decide) (fun c_6 => ?_) (fun c_6 => ?_)
                    · refine lv_iload hx hb dX5_standsOn_91 (lv_at hl 7 rfl) ?_
                      refine lv_goto (tgt := 98) hx hb dX5_standsOn_93 (by decide) ?_
                      refine lv_istore (lv' := [(5, .int (nI j)), (7, .int (bI b)), (0, .ref m0), (1, .int (nI d)), (2, .int (nI (msk M.P (wd M d)))), (3, .int (nI (msk M.P (stdk M d k)))), (4, .int (nI k)), (6, .int (nI j))]) hx hb dX5_standsOn_98 hl (by decide) rfl (fun ls hl => ?_)
                      refine lv_iinc (v := nI (j + 1)) (lv' := [(6, .int (nI (j + 1))), (5, .int (nI j)), (7, .int (bI b)), (0, .ref m0), (1, .int (nI d)), (2, .int (nI (msk M.P (wd M d)))), (3, .int (nI (msk M.P (stdk M d k)))), (4, .int (nI k))]) hx hb dX5_standsOn_100 hl (k := 7) rfl (by rw [show (Int32.ofInt 1) = nI 1 from by decide, nI_add]) (by decide) rfl (fun ls hl => ?_)
                      refine lv_goto (tgt := 27) hx hb dX5_standsOn_103 (by decide) ?_
                      have hl := lv_sub hl [3, 4, 5, 6, 7, 1, 0] rfl
                      have e_5 : nI j = oN (pkF M (lft M d k) (j + 1)) := by rw [pkF, hq, if_pos (by rw [h_l]; simp [btr, c_1, (Nat.not_le.mpr c_1), c_2, (Nat.not_le.mpr c_2), c_5, c_6])]; rfl
                      rw [e_5] at hl
                      exact ihj (j + 1)  (by omega) (by omega)   ls hl
                    · exact (by exact absurd rfl c_6)
                  · rw [hq] at hl
                    have hl : lv_has ls 8 [(7, .int (bI b)), (0, .ref m0), (1, .int (nI d)), (2, .int (nI (msk M.P (wd M d)))), (3, .int (nI (msk M.P (stdk M d k)))), (4, .int (nI k)), (5, .int (nI q)), (6, .int (nI j))] := hl
                    have h_q := (pkF_some hq).1
                    refine lv_iload hx hb dX5_standsOn_67 (lv_at hl 6 rfl) ?_
                    refine lv_bipush (v := (-9)) hx hb dX5_standsOn_69 (by decide) ?_
                    refine lv_icmp_eq (tgt := 91) hx hb dX5_standsOn_71 (by decide) (fun c_7 => ?_) (fun c_7 => ?_)
                    · exact (by exact absurd c_7 (oN_ne (by omega)))
                    · refine lv_aload_n hx hb dX5_standsOn_74 rfl (lv_at hl 1 rfl) ?_
                      refine va_get (D := D) (ci := 5) (v := .ref m6) (C := RX5) (T := TX5) (N := 27) hx hb hts inX5 hown hK.1 hP 0 rfl rfl 11 (by decide) f_25 (fun _ h9 => h9) rfl dX5_standsOn_75 ?_
                      refine lv_iload hx hb dX5_standsOn_78 (lv_at hl 7 rfl) ?_
                      refine zk_iald hx hb hK hP 3 rfl (by omega) (by decide) dX5_standsOn_80 ?_
                      refine lv_aload_n hx hb dX5_standsOn_81 rfl (lv_at hl 1 rfl) ?_
                      refine va_get (D := D) (ci := 5) (v := .ref m6) (C := RX5) (T := TX5) (N := 27) hx hb hts inX5 hown hK.1 hP 0 rfl rfl 11 (by decide) f_25 (fun _ h9 => h9) rfl dX5_standsOn_82 ?_
                      refine lv_iload hx hb dX5_standsOn_85 (lv_at hl 6 rfl) ?_
                      refine zk_iald hx hb hK hP 3 rfl (by omega) (by decide) dX5_standsOn_87 ?_
                      refine lv_icmp_ge (tgt := 96) hx hb dX5_standsOn_88 (by decide) (fun c_8 => ?_) (fun c_8 => ?_)
                      · refine lv_iload hx hb dX5_standsOn_96 (lv_at hl 6 rfl) ?_
                        refine lv_istore (lv' := [(5, .int (nI q)), (7, .int (bI b)), (0, .ref m0), (1, .int (nI d)), (2, .int (nI (msk M.P (wd M d)))), (3, .int (nI (msk M.P (stdk M d k)))), (4, .int (nI k)), (6, .int (nI j))]) hx hb dX5_standsOn_98 hl (by decide) rfl (fun ls hl => ?_)
                        refine lv_iinc (v := nI (j + 1)) (lv' := [(6, .int (nI (j + 1))), (5, .int (nI q)), (7, .int (bI b)), (0, .ref m0), (1, .int (nI d)), (2, .int (nI (msk M.P (wd M d)))), (3, .int (nI (msk M.P (stdk M d k)))), (4, .int (nI k))]) hx hb dX5_standsOn_100 hl (k := 7) rfl (by rw [show (Int32.ofInt 1) = nI 1 from by decide, nI_add]) (by decide) rfl (fun ls hl => ?_)
                        refine lv_goto (tgt := 27) hx hb dX5_standsOn_103 (by decide) ?_
                        have hl := lv_sub hl [3, 4, 5, 6, 7, 1, 0] rfl
                        have e_5 : nI q = oN (pkF M (lft M d k) (j + 1)) := by rw [pkF, hq, if_neg (by rw [h_l]; simp [btr, c_1, (Nat.not_le.mpr c_1), c_2, (Nat.not_le.mpr c_2), c_5, c_7, c_8, (Int32.not_lt.mpr c_8)])]; rfl
                        rw [e_5] at hl
                        exact ihj (j + 1)  (by omega) (by omega)   ls hl
                      · have c_8 := Int32.not_le.mp c_8
                        refine lv_iload hx hb dX5_standsOn_91 (lv_at hl 7 rfl) ?_
                        refine lv_goto (tgt := 98) hx hb dX5_standsOn_93 (by decide) ?_
                        refine lv_istore (lv' := [(5, .int (nI j)), (7, .int (bI b)), (0, .ref m0), (1, .int (nI d)), (2, .int (nI (msk M.P (wd M d)))), (3, .int (nI (msk M.P (stdk M d k)))), (4, .int (nI k)), (6, .int (nI j))]) hx hb dX5_standsOn_98 hl (by decide) rfl (fun ls hl => ?_)
                        refine lv_iinc (v := nI (j + 1)) (lv' := [(6, .int (nI (j + 1))), (5, .int (nI j)), (7, .int (bI b)), (0, .ref m0), (1, .int (nI d)), (2, .int (nI (msk M.P (wd M d)))), (3, .int (nI (msk M.P (stdk M d k)))), (4, .int (nI k))]) hx hb dX5_standsOn_100 hl (k := 7) rfl (by rw [show (Int32.ofInt 1) = nI 1 from by decide, nI_add]) (by decide) rfl (fun ls hl => ?_)
                        refine lv_goto (tgt := 27) hx hb dX5_standsOn_103 (by decide) ?_
                        have hl := lv_sub hl [3, 4, 5, 6, 7, 1, 0] rfl
                        have e_5 : nI j = oN (pkF M (lft M d k) (j + 1)) := by rw [pkF, hq, if_pos (by rw [h_l]; simp [btr, c_1, (Nat.not_le.mpr c_1), c_2, (Nat.not_le.mpr c_2), c_5, c_7, c_8, (Int32.not_le.mpr c_8)])]; rfl
                        rw [e_5] at hl
                        exact ihj (j + 1)  (by omega) (by omega)   ls hl
              refine lv_iload_n hx hb dX5_standsOn_36 rfl (lv_at hl 2 rfl) ?_
              refine lv_iload hx hb dX5_standsOn_37 (lv_at hl 6 rfl) ?_
              refine lv_ishr hx hb dX5_standsOn_39 ?_
              refine lv_iconst (v := nI 1) hx hb dX5_standsOn_40 (by decide) ?_
              refine lv_iand hx hb dX5_standsOn_41 ?_
              refine lv_iconst (v := nI 1) hx hb dX5_standsOn_42 (by decide) ?_
              refine lv_icmp_ne (tgt := 59) hx hb dX5_standsOn_43 (by decide) (fun c_9 => ?_) (fun c_9 => ?_)
              · refine lv_iconst (v := nI 0) hx hb dX5_standsOn_59 (by decide) ?_
                exact join60 false (by unfold lft; rw [← hw_j c_2, hbit_n1 c_9]; rfl) ls (lv_sub hl [0, 1, 2, 3, 4, 5, 6] rfl)
              · refine lv_iload_n hx hb dX5_standsOn_46 rfl (lv_at hl 3 rfl) ?_
                refine lv_iload hx hb dX5_standsOn_47 (lv_at hl 6 rfl) ?_
                refine lv_ishr hx hb dX5_standsOn_49 ?_
                refine lv_iconst (v := nI 1) hx hb dX5_standsOn_50 (by decide) ?_
                refine lv_iand hx hb dX5_standsOn_51 ?_
                refine lv_if_ne (tgt := 59) hx hb dX5_standsOn_52 (by decide) (fun c_10 => ?_) (fun c_10 => ?_)
                · refine lv_iconst (v := nI 0) hx hb dX5_standsOn_59 (by decide) ?_
                  exact join60 false (by unfold lft; rw [← hs_j c_2, hbit_nz c_10]; simp) ls (lv_sub hl [0, 1, 2, 3, 4, 5, 6] rfl)
                · refine lv_iconst (v := nI 1) hx hb dX5_standsOn_55 (by decide) ?_
                  refine lv_goto (tgt := 60) hx hb dX5_standsOn_56 (by decide) ?_
                  exact join60 true (by unfold lft; rw [← hw_j c_2, ← hs_j c_2, hbit_1 c_9, hbit_z c_10]; rfl) ls (lv_sub hl [0, 1, 2, 3, 4, 5, 6] rfl)
        have hl := lv_sub hl [2, 3, 4, 5, 6, 1, 0] rfl
        have e_5 : (-9) = oN (pkF M (lft M d k) 0) := rfl
        have hl : lv_has ls 8 [(0, .ref m0), (1, .int (nI d)), (2, .int (nI (msk M.P (wd M d)))), (3, .int (nI (msk M.P (stdk M d k)))), (4, .int (nI k)), (5, .int (oN (pkF M (lft M d k) 0))), (6, .int (nI 0))] := by
          first | exact hl | (rw [← e_5]; exact hl) | (simp only [e_5] at hl ⊢; exact hl)
        exact loop27 (M.P + 1) 0  (by omega) (by omega)   ls hl
  have hl := lv_sub hl [3, 4, 2, 1, 0] rfl
  have e_3 : nI 0 = nI (msk M.P (stdk M d 0)) := congrArg nI (stdk0 M d).symm
  have hl : lv_has ls 8 [(0, .ref m0), (1, .int (nI d)), (2, .int (nI (msk M.P (wd M d)))), (3, .int (nI (msk M.P (stdk M d 0)))), (4, .int (nI 0))] := by
    first | exact hl | (rw [← e_3]; exact hl) | (simp only [e_3] at hl ⊢; exact hl)
  exact loop11 (r + 1) 0  (by omega) (by omega)   ls hl
set_option maxHeartbeats 4000000 in
set_option maxRecDepth 100000 in
theorem m_hoursBehind (l : Launch) (D : va_G) (cI : ClassId) (m0 : Nat) (m1 : Nat) (m2 : Nat) (m3 : Nat) (m4 : Nat) (m5 : Nat) (m6 : Nat) (m7 : Nat) (m8 : Nat) (m9 : Nat) (m10 : Nat) (m11 : Nat) (m12 : Nat) (m13 : Nat) (m14 : Nat) (m15 : Nat) (fm : Int32) (tm : Int32) (at1 : Nat) (rdb : Int32) (rrm : Int32) (rD : Nat) (rP : Nat) (mt : Nat) (M : YS) (p : Nat) (t : Nat) (hg : GdY M) (hp : p < M.P) (ht : t ≤ M.D) : Met l yX5_hoursBehind wsX5_hoursBehind ({ frames := 4, cells := 0, slots := 0, locals := 96 }) (PS D cI [.ref m0, .int (nI p), .int (nI t)] (wMo m0 m1 m2 m3 m4 m5 m6 m7 m8 m9 m10 m11 m12 m13 m14 m15 fm tm at1 rdb rrm rD rP mt M ++ wMa cI m4 m5 m6 m7 m12 M)) (vp_Si (fun r => r = hrB M p t)) 0 0 (fun _ => False) := by
  refine zk_S (cc := cX5_hoursBehind) (maxL := 5) (ret := (some .int)) (by decide) rfl (Nat.le_of_ble_eq_true rfl) ?_
  intro pX eX sX mX bX tX cX hx hb hr hlocks hml hown hts hP hK ls hl
  have hl : lv_has ls 5 [(0, .ref m0), (1, .int (nI p)), (2, .int (nI t))] := hl
  have hP : va_P D vwCl [(m0, .inr (5, [.int fm, .int tm, .ref m1, .ref m2, .ref m3, .int M.db, .int M.rm, .int (nI M.D), .int (nI M.P), .ref m4, .ref m5, .ref m6, .ref m7, .int (nI at1), .int rdb, .int rrm, .int (nI rD), .int (nI rP), .ref m8, .ref m9, .ref m10, .ref m11, .ref m12, .int (nI mt), .ref m13, .ref m14, .ref m15])), (m4, .inl (cI, 5, .inl M.hard)), (m5, .inl (cI, 4, .inl M.kind)), (m6, .inl (cI, 4, .inl M.wit)), (m7, .inl (cI, 4, .inl M.pat)), (m12, .inl (cI, 4, .inl M.pret))] sX.heap := hP
  have inX5 : ∀ w ∈ wsX50, w ∈ wsX5_hoursBehind := fun w h => List.mem_cons_of_mem _ (List.mem_append_right _ h)
  have hD5 : M.D ≤ 5 := hg.1.1
  have hP4 : M.P ≤ 4 := hg.1.2
  refine lv_iconst (v := nI 0) hx hb dX5_hoursBehind_0 (by decide) ?_
  refine lv_istore_n (lv' := [(3, .int (nI 0)), (0, .ref m0), (1, .int (nI p)), (2, .int (nI t))]) hx hb dX5_hoursBehind_1 rfl hl (by decide) rfl (fun ls hl => ?_)
  refine lv_iconst (v := nI 0) hx hb dX5_hoursBehind_2 (by decide) ?_
  refine lv_istore (lv' := [(4, .int (nI 0)), (3, .int (nI 0)), (0, .ref m0), (1, .int (nI p)), (2, .int (nI t))]) hx hb dX5_hoursBehind_3 hl (by decide) rfl (fun ls hl => ?_)
  have loop5 : ∀ (nL k : Nat), k ≤ t → t < k + nL → ∀ ls : Array Slot, lv_has ls 5 [(0, .ref m0), (1, .int (nI p)), (2, .int (nI t)), (3, .int (nI (cnt k (fun d => std M d p)) * hrs M p)), (4, .int (nI k))] → W pX l eX ({ frames := 4, cells := 0, slots := 0, locals := 96 }) sX mX ([.ref m0, .int (nI p), .int (nI t)] : List Value).toArray bX tX cX sX.heap [] 0 0 (MQ bX (vp_Si (fun r => r = hrB M p t)) ([.ref m0, .int (nI p), .int (nI t)] : List Value).toArray sX 0 0 (fun _ => False)) (F0 mX 5 ls []) := by
    intro nL
    induction nL with
    | zero => intro k  h1 h2; exact absurd h2 (by omega)
    | succ nL ih =>
      intro k  h_le h_n   ls hl
      refine lv_iload hx hb dX5_hoursBehind_5 (lv_at hl 4 rfl) ?_
      refine lv_iload_n hx hb dX5_hoursBehind_7 rfl (lv_at hl 2 rfl) ?_
      refine zk_icmp_ge (tgt := 43) hx hb dX5_hoursBehind_8 (by decide) (by omega) (by omega) (fun c_1 => ?_) (fun c_1 => ?_)
      · refine lv_iload_n hx hb dX5_hoursBehind_43 rfl (lv_at hl 3 rfl) ?_
        exact zk_retS hx hb hr (by rw [show k = t by omega]; rfl) dX5_hoursBehind_44 hlocks
      · refine lv_iload_n hx hb dX5_hoursBehind_11 rfl (lv_at hl 3 rfl) ?_
        refine lv_aload_n hx hb dX5_hoursBehind_12 rfl (lv_at hl 0 rfl) ?_
        refine lv_iload hx hb dX5_hoursBehind_13 (lv_at hl 4 rfl) ?_
        refine zk_callVi (As := [.int (nI k)]) (rest := [.int (nI (cnt k (fun d => std M d p)) * hrs M p)]) (nI (msk M.P (std M k))) ⟨hx, hb, hml, hown, hts⟩ hK hP [0, 1, 2, 3, 4, 5] rfl (m_standsOn l D cI m0 m1 m2 m3 m4 m5 m6 m7 m8 m9 m10 m11 m12 m13 m14 m15 fm tm at1 rdb rrm rD rP mt M k hg (by omega)) (cwV 1 hts gX5_hoursBehind_X5_standsOn rfl rfl rfl hdX5_standsOn ⟨Nat.le_of_ble_eq_true rfl, Nat.le_of_ble_eq_true rfl⟩) rfl rfl rfl hl.1 rfl (Nat.le_of_ble_eq_true rfl) dX5_hoursBehind_15 ⟨Nat.le_of_ble_eq_true rfl, Nat.le_of_ble_eq_true rfl⟩ ?_
        refine lv_iload_n hx hb dX5_hoursBehind_18 rfl (lv_at hl 1 rfl) ?_
        refine lv_ishr hx hb dX5_hoursBehind_19 ?_
        refine lv_iconst (v := nI 1) hx hb dX5_hoursBehind_20 (by decide) ?_
        refine lv_iand hx hb dX5_hoursBehind_21 ?_
        refine lv_iconst (v := nI 1) hx hb dX5_hoursBehind_22 (by decide) ?_
        refine lv_icmp_ne (tgt := 34) hx hb dX5_hoursBehind_23 (by decide) (fun c_2 => ?_) (fun c_2 => ?_)
        · refine lv_iconst (v := nI 0) hx hb dX5_hoursBehind_34 (by decide) ?_
          refine lv_iadd hx hb dX5_hoursBehind_35 ?_
          refine lv_istore_n (lv' := [(3, .int ((nI (cnt k (fun d => std M d p)) * hrs M p) + (nI 0))), (0, .ref m0), (1, .int (nI p)), (2, .int (nI t)), (4, .int (nI k))]) hx hb dX5_hoursBehind_36 rfl hl (by decide) rfl (fun ls hl => ?_)
          refine lv_iinc (v := nI (k + 1)) (lv' := [(4, .int (nI (k + 1))), (3, .int ((nI (cnt k (fun d => std M d p)) * hrs M p) + (nI 0))), (0, .ref m0), (1, .int (nI p)), (2, .int (nI t))]) hx hb dX5_hoursBehind_37 hl (k := 4) rfl (by rw [show (Int32.ofInt 1) = nI 1 from by decide, nI_add]) (by decide) rfl (fun ls hl => ?_)
          refine lv_goto (tgt := 5) hx hb dX5_hoursBehind_40 (by decide) ?_
          have h_b := hbit_mskI (n := M.P) (by omega) hp (std M k)
          have hl := lv_sub hl [2, 3, 4, 1, 0] rfl
          have e_3 : (nI (cnt k (fun d => std M d p)) * hrs M p) + (nI 0) = nI (cnt (k + 1) (fun d => std M d p)) * hrs M p := by rw [nI_0, Int32.add_zero, cnt_s, show std M k p = false from by rw [← h_b]; exact hbit_n1 c_2]; rfl
          rw [e_3] at hl
          exact ih (k + 1)  (by omega) (by omega)   ls hl
        · refine lv_aload_n hx hb dX5_hoursBehind_26 rfl (lv_at hl 0 rfl) ?_
          refine lv_iload_n hx hb dX5_hoursBehind_27 rfl (lv_at hl 1 rfl) ?_
          refine zk_callVi (As := [.int (nI p)]) (rest := [.int (nI (cnt k (fun d => std M d p)) * hrs M p)]) (hrs M p) ⟨hx, hb, hml, hown, hts⟩ hK hP [0, 1, 2, 3, 4, 5] rfl (m_hoursOf l D cI m0 m1 m2 m3 m4 m5 m6 m7 m8 m9 m10 m11 m12 m13 m14 m15 fm tm at1 rdb rrm rD rP mt M p hg hp) (cwV 1 hts gX5_hoursBehind_X5_hoursOf rfl rfl rfl hdX5_hoursOf ⟨Nat.le_of_ble_eq_true rfl, Nat.le_of_ble_eq_true rfl⟩) rfl rfl rfl hl.1 rfl (Nat.le_of_ble_eq_true rfl) dX5_hoursBehind_28 ⟨Nat.le_of_ble_eq_true rfl, Nat.le_of_ble_eq_true rfl⟩ ?_
          refine lv_goto (tgt := 35) hx hb dX5_hoursBehind_31 (by decide) ?_
          refine lv_iadd hx hb dX5_hoursBehind_35 ?_
          refine lv_istore_n (lv' := [(3, .int ((nI (cnt k (fun d => std M d p)) * hrs M p) + (hrs M p))), (0, .ref m0), (1, .int (nI p)), (2, .int (nI t)), (4, .int (nI k))]) hx hb dX5_hoursBehind_36 rfl hl (by decide) rfl (fun ls hl => ?_)
          refine lv_iinc (v := nI (k + 1)) (lv' := [(4, .int (nI (k + 1))), (3, .int ((nI (cnt k (fun d => std M d p)) * hrs M p) + (hrs M p))), (0, .ref m0), (1, .int (nI p)), (2, .int (nI t))]) hx hb dX5_hoursBehind_37 hl (k := 4) rfl (by rw [show (Int32.ofInt 1) = nI 1 from by decide, nI_add]) (by decide) rfl (fun ls hl => ?_)
          refine lv_goto (tgt := 5) hx hb dX5_hoursBehind_40 (by decide) ?_
          have h_b := hbit_mskI (n := M.P) (by omega) hp (std M k)
          have hl := lv_sub hl [2, 3, 4, 1, 0] rfl
          have e_3 : (nI (cnt k (fun d => std M d p)) * hrs M p) + (hrs M p) = nI (cnt (k + 1) (fun d => std M d p)) * hrs M p := by rw [mul_s, cnt_s, show std M k p = true from by rw [← h_b]; exact hbit_1 c_2]; rfl
          rw [e_3] at hl
          exact ih (k + 1)  (by omega) (by omega)   ls hl
  have hl := lv_sub hl [2, 3, 4, 1, 0] rfl
  have e_3 : nI 0 = nI (cnt 0 (fun d => std M d p)) * hrs M p := (by show nI 0 = nI 0 * _; rw [nI_0, Int32.zero_mul])
  have hl : lv_has ls 5 [(0, .ref m0), (1, .int (nI p)), (2, .int (nI t)), (3, .int (nI (cnt 0 (fun d => std M d p)) * hrs M p)), (4, .int (nI 0))] := by
    first | exact hl | (rw [← e_3]; exact hl) | (simp only [e_3] at hl ⊢; exact hl)
  exact loop5 (t + 1) 0  (by omega) (by omega)   ls hl
set_option maxHeartbeats 4000000 in
set_option maxRecDepth 100000 in
theorem m_bishopNow (l : Launch) (D : va_G) (cI : ClassId) (m0 : Nat) (m1 : Nat) (m2 : Nat) (m3 : Nat) (m4 : Nat) (m5 : Nat) (m6 : Nat) (m7 : Nat) (m8 : Nat) (m9 : Nat) (m10 : Nat) (m11 : Nat) (m12 : Nat) (m13 : Nat) (m14 : Nat) (m15 : Nat) (fm : Int32) (tm : Int32) (at1 : Nat) (rdb : Int32) (rrm : Int32) (rD : Nat) (rP : Nat) (mt : Nat) (M : YS) (hg : GdY M) : Met l yX5_bishopNow wsX5_bishopNow ({ frames := 5, cells := 0, slots := 0, locals := 120 }) (PS D cI [.ref m0] (wMo m0 m1 m2 m3 m4 m5 m6 m7 m8 m9 m10 m11 m12 m13 m14 m15 fm tm at1 rdb rrm rD rP mt M ++ wMa cI m4 m5 m6 m7 m12 M)) (vp_Si (fun r => r = bish M)) 0 0 (fun _ => False) := by
  refine zk_S (cc := cX5_bishopNow) (maxL := 5) (ret := (some .int)) (by decide) rfl (Nat.le_of_ble_eq_true rfl) ?_
  intro pX eX sX mX bX tX cX hx hb hr hlocks hml hown hts hP hK ls hl
  have hl : lv_has ls 5 [(0, .ref m0)] := hl
  have hP : va_P D vwCl [(m0, .inr (5, [.int fm, .int tm, .ref m1, .ref m2, .ref m3, .int M.db, .int M.rm, .int (nI M.D), .int (nI M.P), .ref m4, .ref m5, .ref m6, .ref m7, .int (nI at1), .int rdb, .int rrm, .int (nI rD), .int (nI rP), .ref m8, .ref m9, .ref m10, .ref m11, .ref m12, .int (nI mt), .ref m13, .ref m14, .ref m15])), (m4, .inl (cI, 5, .inl M.hard)), (m5, .inl (cI, 4, .inl M.kind)), (m6, .inl (cI, 4, .inl M.wit)), (m7, .inl (cI, 4, .inl M.pat)), (m12, .inl (cI, 4, .inl M.pret))] sX.heap := hP
  have f_65 := hts (.fieldLink RX5 65 "DunceSeeModel" "pupils" "I") (by decide +kernel)
  have f_68 := hts (.fieldLink RX5 68 "DunceSeeModel" "days" "I") (by decide +kernel)
  have inX5 : ∀ w ∈ wsX50, w ∈ wsX5_bishopNow := fun w h => List.mem_cons_of_mem _ (List.mem_append_right _ h)
  have hD5 : M.D ≤ 5 := hg.1.1
  have hP4 : M.P ≤ 4 := hg.1.2
  refine lv_bipush (v := (-9)) hx hb dX5_bishopNow_0 (by decide) ?_
  refine lv_istore_n (lv' := [(1, .int (-9)), (0, .ref m0)]) hx hb dX5_bishopNow_2 rfl hl (by decide) rfl (fun ls hl => ?_)
  refine lv_iconst (v := nI 0) hx hb dX5_bishopNow_3 (by decide) ?_
  refine lv_istore_n (lv' := [(2, .int (nI 0)), (1, .int (-9)), (0, .ref m0)]) hx hb dX5_bishopNow_4 rfl hl (by decide) rfl (fun ls hl => ?_)
  refine lv_iconst (v := nI 0) hx hb dX5_bishopNow_5 (by decide) ?_
  refine lv_istore_n (lv' := [(3, .int (nI 0)), (2, .int (nI 0)), (1, .int (-9)), (0, .ref m0)]) hx hb dX5_bishopNow_6 rfl hl (by decide) rfl (fun ls hl => ?_)
  have loop7 : ∀ (nL k : Nat), k ≤ M.P → M.P < k + nL → ∀ ls : Array Slot, lv_has ls 5 [(0, .ref m0), (1, .int ((bstF (fun p => hrB M p M.D) k).1)), (2, .int ((bstF (fun p => hrB M p M.D) k).2)), (3, .int (nI k))] → W pX l eX ({ frames := 5, cells := 0, slots := 0, locals := 120 }) sX mX ([.ref m0] : List Value).toArray bX tX cX sX.heap [] 0 0 (MQ bX (vp_Si (fun r => r = bish M)) ([.ref m0] : List Value).toArray sX 0 0 (fun _ => False)) (F0 mX 7 ls []) := by
    intro nL
    induction nL with
    | zero => intro k  h1 h2; exact absurd h2 (by omega)
    | succ nL ih =>
      intro k  h_le h_n   ls hl
      refine lv_iload_n hx hb dX5_bishopNow_7 rfl (lv_at hl 3 rfl) ?_
      refine lv_aload_n hx hb dX5_bishopNow_8 rfl (lv_at hl 0 rfl) ?_
      refine va_get (D := D) (ci := 5) (v := .int (nI M.P)) (C := RX5) (T := TX5) (N := 27) hx hb hts inX5 hown hK.1 hP 0 rfl rfl 8 (by decide) f_65 (fun _ h9 => h9) rfl dX5_bishopNow_9 ?_
      refine zk_icmp_ge (tgt := 43) hx hb dX5_bishopNow_12 (by decide) (by omega) (by omega) (fun c_1 => ?_) (fun c_1 => ?_)
      · refine lv_iload_n hx hb dX5_bishopNow_43 rfl (lv_at hl 1 rfl) ?_
        exact zk_retS hx hb hr (by rw [show k = M.P by omega]; rfl) dX5_bishopNow_44 hlocks
      · refine lv_aload_n hx hb dX5_bishopNow_15 rfl (lv_at hl 0 rfl) ?_
        refine lv_iload_n hx hb dX5_bishopNow_16 rfl (lv_at hl 3 rfl) ?_
        refine lv_aload_n hx hb dX5_bishopNow_17 rfl (lv_at hl 0 rfl) ?_
        refine va_get (D := D) (ci := 5) (v := .int (nI M.D)) (C := RX5) (T := TX5) (N := 27) hx hb hts inX5 hown hK.1 hP 0 rfl rfl 7 (by decide) f_68 (fun _ h9 => h9) rfl dX5_bishopNow_18 ?_
        refine zk_callVi (As := [.int (nI k), .int (nI M.D)]) (rest := []) (hrB M k M.D) ⟨hx, hb, hml, hown, hts⟩ hK hP [0, 1, 2, 3, 4, 5] rfl (m_hoursBehind l D cI m0 m1 m2 m3 m4 m5 m6 m7 m8 m9 m10 m11 m12 m13 m14 m15 fm tm at1 rdb rrm rD rP mt M k M.D hg (by omega) (Nat.le_refl _)) (cwV 2 hts gX5_bishopNow_X5_hoursBehind rfl rfl rfl hdX5_hoursBehind ⟨Nat.le_of_ble_eq_true rfl, Nat.le_of_ble_eq_true rfl⟩) rfl rfl rfl hl.1 rfl (Nat.le_of_ble_eq_true rfl) dX5_bishopNow_21 ⟨Nat.le_of_ble_eq_true rfl, Nat.le_of_ble_eq_true rfl⟩ ?_
        refine lv_istore (lv' := [(4, .int (hrB M k M.D)), (0, .ref m0), (1, .int ((bstF (fun p => hrB M p M.D) k).1)), (2, .int ((bstF (fun p => hrB M p M.D) k).2)), (3, .int (nI k))]) hx hb dX5_bishopNow_24 hl (by decide) rfl (fun ls hl => ?_)
        refine lv_iload hx hb dX5_bishopNow_26 (lv_at hl 0 rfl) ?_
        refine lv_iload_n hx hb dX5_bishopNow_28 rfl (lv_at hl 3 rfl) ?_
        refine lv_icmp_le (tgt := 37) hx hb dX5_bishopNow_29 (by decide) (fun c_2 => ?_) (fun c_2 => ?_)
        · refine lv_iinc (v := nI (k + 1)) (lv' := [(3, .int (nI (k + 1))), (4, .int (hrB M k M.D)), (0, .ref m0), (1, .int ((bstF (fun p => hrB M p M.D) k).1)), (2, .int ((bstF (fun p => hrB M p M.D) k).2))]) hx hb dX5_bishopNow_37 hl (k := 4) rfl (by rw [show (Int32.ofInt 1) = nI 1 from by decide, nI_add]) (by decide) rfl (fun ls hl => ?_)
          refine lv_goto (tgt := 7) hx hb dX5_bishopNow_40 (by decide) ?_
          have hl := lv_sub hl [2, 3, 4, 0] rfl
          have e_1 : (bstF (fun p => hrB M p M.D) k).1 = (bstF (fun p => hrB M p M.D) (k + 1)).1 := by rw [bstF]; rw [if_neg (Int32.not_lt.mpr c_2)]
          have e_2 : (bstF (fun p => hrB M p M.D) k).2 = (bstF (fun p => hrB M p M.D) (k + 1)).2 := by rw [bstF]; rw [if_neg (Int32.not_lt.mpr c_2)]
          rw [e_1, e_2] at hl
          exact ih (k + 1)  (by omega) (by omega)   ls hl
        · have c_2 := Int32.not_le.mp c_2
          refine lv_iload_n hx hb dX5_bishopNow_32 rfl (lv_at hl 4 rfl) ?_
          refine lv_istore_n (lv' := [(1, .int (nI k)), (4, .int (hrB M k M.D)), (0, .ref m0), (2, .int ((bstF (fun p => hrB M p M.D) k).2)), (3, .int (nI k))]) hx hb dX5_bishopNow_33 rfl hl (by decide) rfl (fun ls hl => ?_)
          refine lv_iload hx hb dX5_bishopNow_34 (lv_at hl 1 rfl) ?_
          refine lv_istore_n (lv' := [(2, .int (hrB M k M.D)), (1, .int (nI k)), (4, .int (hrB M k M.D)), (0, .ref m0), (3, .int (nI k))]) hx hb dX5_bishopNow_36 rfl hl (by decide) rfl (fun ls hl => ?_)
          refine lv_iinc (v := nI (k + 1)) (lv' := [(3, .int (nI (k + 1))), (2, .int (hrB M k M.D)), (1, .int (nI k)), (4, .int (hrB M k M.D)), (0, .ref m0)]) hx hb dX5_bishopNow_37 hl (k := 4) rfl (by rw [show (Int32.ofInt 1) = nI 1 from by decide, nI_add]) (by decide) rfl (fun ls hl => ?_)
          refine lv_goto (tgt := 7) hx hb dX5_bishopNow_40 (by decide) ?_
          have hl := lv_sub hl [4, 2, 1, 0] rfl
          have e_1 : nI k = (bstF (fun p => hrB M p M.D) (k + 1)).1 := by rw [bstF]; rw [if_pos c_2]
          have e_2 : hrB M k M.D = (bstF (fun p => hrB M p M.D) (k + 1)).2 := by rw [bstF]; rw [if_pos c_2]
          rw [e_1, e_2] at hl
          exact ih (k + 1)  (by omega) (by omega)   ls hl
  have hl := lv_sub hl [3, 2, 1, 0] rfl
  have e_1 : (-9) = (bstF (fun p => hrB M p M.D) 0).1 := by rfl
  have e_2 : nI 0 = (bstF (fun p => hrB M p M.D) 0).2 := by rfl
  have hl : lv_has ls 5 [(0, .ref m0), (1, .int ((bstF (fun p => hrB M p M.D) 0).1)), (2, .int ((bstF (fun p => hrB M p M.D) 0).2)), (3, .int (nI 0))] := by
    first | exact hl | (rw [← e_1, ← e_2]; exact hl) | (simp only [e_1, e_2] at hl ⊢; exact hl)
  exact loop7 (M.P + 1) 0  (by omega) (by omega)   ls hl
set_option maxHeartbeats 4000000 in
set_option maxRecDepth 100000 in
theorem m_nobody (l : Launch) (D : va_G) (cI : ClassId) (sz : Nat) (m0 : Nat) (m1 : Nat) (m2 : Nat) (m3 : Nat) (m4 : Nat) (m5 : Nat) (m6 : Nat) (m7 : Nat) (m8 : Nat) (m9 : Nat) (m10 : Nat) (m11 : Nat) (m12 : Nat) (m13 : Nat) (m14 : Nat) (m15 : Nat) (fm : Int32) (tm : Int32) (at1 : Nat) (rdb : Int32) (rrm : Int32) (rD : Nat) (rP : Nat) (mt : Nat) (M : YS)  : Met l yX5_nobody wsX5_nobody ({ frames := 0, cells := 0, slots := 0, locals := 0 }) (PQ D cI [.ref m0] (wMo m0 m1 m2 m3 m4 m5 m6 m7 m8 m9 m10 m11 m12 m13 m14 m15 fm tm at1 rdb rrm rD rP mt M ++ wMa cI m4 m5 m6 m7 m12 M) sz) (QV (S := Unit) D (fun _ => True) (fun _ => wMo m0 m1 m2 m3 m4 m5 m6 m7 m8 m9 m10 m11 m12 m13 m14 m15 fm tm at1 rdb rrm rD rP mt M.np ++ wMa cI m4 m5 m6 m7 m12 M.np) (va_A (wMo m0 m1 m2 m3 m4 m5 m6 m7 m8 m9 m10 m11 m12 m13 m14 m15 fm tm at1 rdb rrm rD rP mt M ++ wMa cI m4 m5 m6 m7 m12 M) sz)) 0 0 (va_A (wMo m0 m1 m2 m3 m4 m5 m6 m7 m8 m9 m10 m11 m12 m13 m14 m15 fm tm at1 rdb rrm rD rP mt M ++ wMa cI m4 m5 m6 m7 m12 M) sz) := by
  refine zk_Q (QV (S := Unit) D (fun _ => True) (fun _ => wMo m0 m1 m2 m3 m4 m5 m6 m7 m8 m9 m10 m11 m12 m13 m14 m15 fm tm at1 rdb rrm rD rP mt M.np ++ wMa cI m4 m5 m6 m7 m12 M.np)) (cc := cX5_nobody) (maxL := 2) (ret := none) (by decide) rfl (Nat.le_of_ble_eq_true rfl) ?_
  intro pX eX sX mX bX tX cX hx hb hr hlocks hml hown hmn hts hP hK A hA hD hS ls hl
  have hl : lv_has ls 2 [(0, .ref m0)] := hl
  have hP : va_P D vwCl [(m0, .inr (5, [.int fm, .int tm, .ref m1, .ref m2, .ref m3, .int M.db, .int M.rm, .int (nI M.D), .int (nI M.P), .ref m4, .ref m5, .ref m6, .ref m7, .int (nI at1), .int rdb, .int rrm, .int (nI rD), .int (nI rP), .ref m8, .ref m9, .ref m10, .ref m11, .ref m12, .int (nI mt), .ref m13, .ref m14, .ref m15])), (m4, .inl (cI, 5, .inl M.hard)), (m5, .inl (cI, 4, .inl M.kind)), (m6, .inl (cI, 4, .inl M.wit)), (m7, .inl (cI, 4, .inl M.pat)), (m12, .inl (cI, 4, .inl M.pret))] sX.heap := hP
  have hD : va_D A [(m0, .inr (5, [.int fm, .int tm, .ref m1, .ref m2, .ref m3, .int M.db, .int M.rm, .int (nI M.D), .int (nI M.P), .ref m4, .ref m5, .ref m6, .ref m7, .int (nI at1), .int rdb, .int rrm, .int (nI rD), .int (nI rP), .ref m8, .ref m9, .ref m10, .ref m11, .ref m12, .int (nI mt), .ref m13, .ref m14, .ref m15])), (m4, .inl (cI, 5, .inl M.hard)), (m5, .inl (cI, 4, .inl M.kind)), (m6, .inl (cI, 4, .inl M.wit)), (m7, .inl (cI, 4, .inl M.pat)), (m12, .inl (cI, 4, .inl M.pret))] := hD
  have f_43 := hts (.fieldLink RX5 43 "DunceSeeModel" "pretends" "[I") (by decide +kernel)
  have inX5 : ∀ w ∈ wsX50, w ∈ wsX5_nobody := fun w h => List.mem_cons_of_mem _ (List.mem_append_right _ h)
  refine lv_iconst (v := nI 0) hx hb dX5_nobody_0 (by decide) ?_
  refine lv_istore_n (lv' := [(1, .int (nI 0)), (0, .ref m0)]) hx hb dX5_nobody_1 rfl hl (by decide) rfl (fun ls hl => ?_)
  have loop2 : ∀ (nL k : Nat), k ≤ 4 → 4 < k + nL → ∀ (H : Heap) (locs : List Loc), va_P D vwCl [(m0, .inr (5, [.int fm, .int tm, .ref m1, .ref m2, .ref m3, .int M.db, .int M.rm, .int (nI M.D), .int (nI M.P), .ref m4, .ref m5, .ref m6, .ref m7, .int (nI at1), .int rdb, .int rrm, .int (nI rD), .int (nI rP), .ref m8, .ref m9, .ref m10, .ref m11, .ref m12, .int (nI mt), .ref m13, .ref m14, .ref m15])), (m4, .inl (cI, 5, .inl M.hard)), (m5, .inl (cI, 4, .inl M.kind)), (m6, .inl (cI, 4, .inl M.wit)), (m7, .inl (cI, 4, .inl M.pat)), (m12, .inl (cI, 4, .inl (tab k (fun _ => nI 0) M.pret)))] H → va_D A [(m0, .inr (5, [.int fm, .int tm, .ref m1, .ref m2, .ref m3, .int M.db, .int M.rm, .int (nI M.D), .int (nI M.P), .ref m4, .ref m5, .ref m6, .ref m7, .int (nI at1), .int rdb, .int rrm, .int (nI rD), .int (nI rP), .ref m8, .ref m9, .ref m10, .ref m11, .ref m12, .int (nI mt), .ref m13, .ref m14, .ref m15])), (m4, .inl (cI, 5, .inl M.hard)), (m5, .inl (cI, 4, .inl M.kind)), (m6, .inl (cI, 4, .inl M.wit)), (m7, .inl (cI, 4, .inl M.pat)), (m12, .inl (cI, 4, .inl (tab k (fun _ => nI 0) M.pret)))] → va_S A sX.heap H locs → ∀ ls : Array Slot, lv_has ls 2 [(0, .ref m0), (1, .int (nI k))] → W pX l eX ({ frames := 0, cells := 0, slots := 0, locals := 0 }) sX mX ([.ref m0] : List Value).toArray bX tX cX H locs 0 0 (MQ bX (QV (S := Unit) D (fun _ => True) (fun _ => wMo m0 m1 m2 m3 m4 m5 m6 m7 m8 m9 m10 m11 m12 m13 m14 m15 fm tm at1 rdb rrm rD rP mt M.np ++ wMa cI m4 m5 m6 m7 m12 M.np) A) ([.ref m0] : List Value).toArray sX 0 0 A) (F0 mX 2 ls []) := by
    intro nL
    induction nL with
    | zero => intro k  h1 h2; exact absurd h2 (by omega)
    | succ nL ih =>
      intro k  h_le h_n  H locs hP hD hS ls hl
      refine lv_iload_n hx hb dX5_nobody_2 rfl (lv_at hl 1 rfl) ?_
      refine lv_iconst (v := nI 4) hx hb dX5_nobody_3 (by decide) ?_
      refine zk_icmp_ge (tgt := 20) hx hb dX5_nobody_4 (by decide) (by omega) (by omega) (fun c_1 => ?_) (fun c_1 => ?_)
      · have e_k : k = 4 := by omega
        subst e_k
        have hP := zk_arr (g := fun _ => nI 0) hP (k := 5) rfl (fun j hj => tab_lt hj _ _)
        have hD := zk_arrD (g := fun _ => nI 0) hD (k := 5) rfl
        exact zk_retV hx hb hr hS (()) (trivial) hP hD dX5_nobody_20 hlocks
      · refine lv_aload_n hx hb dX5_nobody_7 rfl (lv_at hl 0 rfl) ?_
        refine va_get (D := D) (ci := 5) (v := .ref m12) (C := RX5) (T := TX5) (N := 27) hx hb hts inX5 hown hK.1 hP 0 rfl rfl 22 (by decide) f_43 (fun _ h9 => h9) rfl dX5_nobody_8 ?_
        refine lv_iload_n hx hb dX5_nobody_11 rfl (lv_at hl 1 rfl) ?_
        refine lv_iconst (v := nI 0) hx hb dX5_nobody_12 (by decide) ?_
        refine zk_iast (x := nI 0) hx hb hK hP hD hS 5 rfl (by omega) (by decide) dX5_nobody_13 (fun H locs hP hD hS => ?_)
        have hP : va_P D vwCl [(m0, .inr (5, [.int fm, .int tm, .ref m1, .ref m2, .ref m3, .int M.db, .int M.rm, .int (nI M.D), .int (nI M.P), .ref m4, .ref m5, .ref m6, .ref m7, .int (nI at1), .int rdb, .int rrm, .int (nI rD), .int (nI rP), .ref m8, .ref m9, .ref m10, .ref m11, .ref m12, .int (nI mt), .ref m13, .ref m14, .ref m15])), (m4, .inl (cI, 5, .inl M.hard)), (m5, .inl (cI, 4, .inl M.kind)), (m6, .inl (cI, 4, .inl M.wit)), (m7, .inl (cI, 4, .inl M.pat)), (m12, .inl (cI, 4, .inl (upd (tab k (fun _ => nI 0) M.pret) k (nI 0))))] H := hP
        have hD : va_D A [(m0, .inr (5, [.int fm, .int tm, .ref m1, .ref m2, .ref m3, .int M.db, .int M.rm, .int (nI M.D), .int (nI M.P), .ref m4, .ref m5, .ref m6, .ref m7, .int (nI at1), .int rdb, .int rrm, .int (nI rD), .int (nI rP), .ref m8, .ref m9, .ref m10, .ref m11, .ref m12, .int (nI mt), .ref m13, .ref m14, .ref m15])), (m4, .inl (cI, 5, .inl M.hard)), (m5, .inl (cI, 4, .inl M.kind)), (m6, .inl (cI, 4, .inl M.wit)), (m7, .inl (cI, 4, .inl M.pat)), (m12, .inl (cI, 4, .inl (upd (tab k (fun _ => nI 0) M.pret) k (nI 0))))] := hD
        refine lv_iinc (v := nI (k + 1)) (lv' := [(1, .int (nI (k + 1))), (0, .ref m0)]) hx hb dX5_nobody_14 hl (k := 1) rfl (by rw [show (Int32.ofInt 1) = nI 1 from by decide, nI_add]) (by decide) rfl (fun ls hl => ?_)
        refine lv_goto (tgt := 2) hx hb dX5_nobody_17 (by decide) ?_
        rw [tab_s k (fun _ => nI 0) M.pret] at hP hD
        exact ih (k + 1)  (by omega) (by omega)  _ _ hP hD hS ls (lv_sub hl [1, 0] rfl)
  rw [← tab_0 (fun _ => nI 0) M.pret] at hP hD
  exact loop2 (4 + 1) 0  (by omega) (by omega)  _ _ hP hD hS ls (lv_sub hl [1, 0] rfl)
