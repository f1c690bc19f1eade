theorem ne0N {n : Nat} (h : ¬ nI n = 0) : ¬ n = 0 := fun q => h (by rw [q]; exact nI_0)
theorem eq0N {n : Nat} (hn : n < 1000) (h : nI n = 0) : n = 0 := (nI_eq (by omega) (by omega)).mp (h.trans nI_0.symm)
theorem wiB0 (v b : Int32) : wiB v (nI 0) b = (decide (0 ≤ v) && decide (v ≤ b)) := by unfold wiB; rw [nI_0]
theorem upd_same (f : Nat → Int32) (k : Nat) : upd f k (f k) = f := by
  funext j
  unfold upd
  by_cases h : j = k
  · subst h; simp
  · simp [h]
theorem bsF_cases (f : Nat → Bool) (n : Nat) : bsF f n = ((-9), 6) ∨ ∃ q, q < n ∧ bsF f n = (nI q, pop q) := by
  induction n with
  | zero => exact Or.inl rfl
  | succ n ih =>
    unfold bsF
    split
    · exact Or.inr ⟨n, by omega, rfl⟩
    · rcases ih with h | ⟨q, h1, h2⟩
      · exact Or.inl h
      · exact Or.inr ⟨q, by omega, h2⟩
theorem GdY_kind {Y : YS} (h : GdY Y) {j v : Nat} (hv : v < 3) : GdY (Y.sKind (upd Y.kind j (nI v))) := by
  refine ⟨h.1, h.2.1, fun p hp => ⟨?_, (h.2.2 p hp).2⟩⟩
  show upd Y.kind j (nI v) p = nI 0 ∨ upd Y.kind j (nI v) p = nI 1 ∨ upd Y.kind j (nI v) p = nI 2
  by_cases e : p = j
  · subst e
    rw [upd_s]
    rcases (show v = 0 ∨ v = 1 ∨ v = 2 by omega) with q | q | q <;> subst q
    · exact Or.inl rfl
    · exact Or.inr (Or.inl rfl)
    · exact Or.inr (Or.inr rfl)
  · rw [upd_n _ e]
    exact (h.2.2 p hp).1
theorem fst_dn (f : Nat → Bool) {k : Nat} (h : k < 10) : fstB (k + 1) f (9 - k) = if f (9 - k) then nI (9 - k) else fstB k f (10 - k) := by
  rw [fstB, show 9 - k + 1 = 10 - k by omega]
theorem dnS (k : Nat) : (nI 9 - nI k) + (-1) = nI 9 - nI (k + 1) := by
  rw [nI_succ k]
  have : ∀ a b : Int32, a - b + (-1) = a - (b + 1) := fun a b => by
    rw [Int32.sub_eq_add_neg, Int32.sub_eq_add_neg, Int32.neg_add, Int32.sub_eq_add_neg, Int32.add_assoc]
  exact this _ _
theorem dn10 {k : Nat} (hk : k ≤ 10) (h : 0 ≤ nI 9 - nI k) : k < 10 := by
  rcases Nat.lt_or_ge k 10 with q | q
  · exact q
  · have e : k = 10 := by omega
    subst e
    exact absurd h (by decide)
theorem dn9 {k : Nat} (hk : k ≤ 10) (h : nI 9 - nI k < 0) : k = 10 := by
  rcases Nat.lt_or_ge k 10 with q | q
  · rw [pk_sub (by omega)] at h
    exact absurd h (nI_pos (by omega))
  · omega
theorem tellS (x : Int32) : nI 2 * x + nI 100 = x + nI 100 + x := by
  rw [show nI 2 = 1 + 1 from by decide, Int32.add_mul, Int32.one_mul, Int32.add_assoc, Int32.add_assoc, Int32.add_comm x (nI 100)]
theorem szS {x k : Nat} : cnt k x.testBit + x / 2 ^ k % 2 = cnt (k + 1) x.testBit := by
  rw [cnt_s, Nat.testBit_eq_decide_div_mod_eq]
  rcases Nat.mod_two_eq_zero_or_one (x / 2 ^ k) with h | h <;> rw [h] <;> simp
theorem szD {x k : Nat} : x / 2 ^ k / 2 = x / 2 ^ (k + 1) := by
  rw [Nat.div_div_eq_div_mul, Nat.pow_succ]
theorem szE {x k : Nat} (hk : k ≤ 5) (h : ¬ 0 < x / 2 ^ k) : cnt k x.testBit = pop x := by
  unfold pop
  have h2 : ∀ m, cnt (k + m) x.testBit = cnt k x.testBit := by
    intro m
    induction m with
    | zero => rfl
    | succ m ih =>
      rw [show k + (m + 1) = (k + m) + 1 from rfl, cnt_s, ih]
      have h3 : x < 2 ^ k := by
        rcases Nat.lt_or_ge x (2 ^ k) with q | q
        · exact q
        · exact absurd (Nat.div_pos q (Nat.two_pow_pos k)) h
      rw [Nat.testBit_lt_two_pow (Nat.lt_of_lt_of_le h3 (Nat.pow_le_pow_right (by omega) (by omega)))]
      rfl
  have h4 := h2 (5 - k)
  rw [show k + (5 - k) = 5 by omega] at h4
  exact h4.symm
theorem szL {x k : Nat} (hx : x < 32) (hk : k ≤ 5) (h : 0 < x / 2 ^ k) : k < 5 := by
  rcases Nat.lt_or_ge k 5 with q | q
  · exact q
  · have e : k = 5 := by omega
    subst e
    have : x / 2 ^ 5 = 0 := Nat.div_eq_of_lt hx
    omega
theorem shlA : ∀ {D : Nat}, D ≤ 5 → nI 1 <<< (nI D &&& 31) = nI (aD D + 1) := by
  have h : ∀ D, D ≤ 5 → nI 1 <<< (nI D &&& 31) = nI (aD D + 1) := by decide +kernel
  exact fun {D} hD => h D hD
theorem hdX5_isPupil : yX5_isPupil.cls = RX5 ∧ yX5_isPupil.cls ≠ "java/lang/invoke/MethodHandle" ∧ yX5_isPupil.cls ≠ "java/lang/invoke/VarHandle" ∧ (parseMethodDescriptor yX5_isPupil.desc).map (fun d => d.parameters.length) = some 1 := by decide +kernel
theorem hdX5_isDay : yX5_isDay.cls = RX5 ∧ yX5_isDay.cls ≠ "java/lang/invoke/MethodHandle" ∧ yX5_isDay.cls ≠ "java/lang/invoke/VarHandle" ∧ (parseMethodDescriptor yX5_isDay.desc).map (fun d => d.parameters.length) = some 1 := by decide +kernel
theorem hdX5_isDigit : yX5_isDigit.cls ≠ "java/lang/invoke/MethodHandle" ∧ yX5_isDigit.cls ≠ "java/lang/invoke/VarHandle" ∧ (parseMethodDescriptor yX5_isDigit.desc).map (fun d => d.parameters.length) = some 1 := by decide +kernel
theorem hdX5_nobody : yX5_nobody.cls = RX5 ∧ yX5_nobody.cls ≠ "java/lang/invoke/MethodHandle" ∧ yX5_nobody.cls ≠ "java/lang/invoke/VarHandle" ∧ (parseMethodDescriptor yX5_nobody.desc).map (fun d => d.parameters.length) = some 0 := by decide +kernel
theorem hdX5_bishopNow : yX5_bishopNow.cls = RX5 ∧ yX5_bishopNow.cls ≠ "java/lang/invoke/MethodHandle" ∧ yX5_bishopNow.cls ≠ "java/lang/invoke/VarHandle" ∧ (parseMethodDescriptor yX5_bishopNow.desc).map (fun d => d.parameters.length) = some 0 := by decide +kernel
theorem hdX5_size : yX5_size.cls ≠ "java/lang/invoke/MethodHandle" ∧ yX5_size.cls ≠ "java/lang/invoke/VarHandle" ∧ (parseMethodDescriptor yX5_size.desc).map (fun d => d.parameters.length) = some 1 := by decide +kernel
theorem hdX5_begins : yX5_begins.cls = RX5 ∧ yX5_begins.cls ≠ "java/lang/invoke/MethodHandle" ∧ yX5_begins.cls ≠ "java/lang/invoke/VarHandle" ∧ (parseMethodDescriptor yX5_begins.desc).map (fun d => d.parameters.length) = some 1 := by decide +kernel
theorem hdX5_fails : yX5_fails.cls = RX5 ∧ yX5_fails.cls ≠ "java/lang/invoke/MethodHandle" ∧ yX5_fails.cls ≠ "java/lang/invoke/VarHandle" ∧ (parseMethodDescriptor yX5_fails.desc).map (fun d => d.parameters.length) = some 1 := by decide +kernel
set_option maxHeartbeats 4000000 in
set_option maxRecDepth 100000 in
theorem mx_ofPupil (l : Launch) (D : va_G) (cI : ClassId) (m0 : Nat) (m1 : Nat) (m2 : Nat) (m3 : Nat) (m4 : Nat) (m5 : Nat) (m6 : Nat) (m7 : Nat) (m8 : Nat) (m9 : Nat) (m10 : Nat) (m11 : Nat) (m12 : Nat) (m13 : Nat) (m14 : Nat) (m15 : Nat) (fm : Int32) (tm : Int32) (at1 : Nat) (rdb : Int32) (rrm : Int32) (rD : Nat) (rP : Nat) (mt : Nat) (M : YS) (p : Int32) (w : Int32) (hg : GdY M) : Met l yX5_ofPupil wsX5_ofPupil ({ frames := 1, cells := 0, slots := 0, locals := 21 }) (PS D cI [.ref m0, .int p, .int w] (wMo m0 m1 m2 m3 m4 m5 m6 m7 m8 m9 m10 m11 m12 m13 m14 m15 fm tm at1 rdb rrm rD rP mt M ++ wMa cI m4 m5 m6 m7 m12 M)) (vp_Si (fun r => r = ofPupilF M p w)) 0 0 (fun _ => False) := by
  refine zk_S (cc := cX5_ofPupil) (maxL := 3) (ret := (some .int)) (by decide) rfl (Nat.le_of_ble_eq_true rfl) ?_
  intro pX eX sX mX bX tX cX hx hb hr hlocks hml hown hts hP hK ls hl
  have hl : lv_has ls 3 [(0, .ref m0), (1, .int p), (2, .int w)] := hl
  have hP : va_P D vwCl [(m0, .inr (5, [.int fm, .int tm, .ref m1, .ref m2, .ref m3, .int M.db, .int M.rm, .int (nI M.D), .int (nI M.P), .ref m4, .ref m5, .ref m6, .ref m7, .int (nI at1), .int rdb, .int rrm, .int (nI rD), .int (nI rP), .ref m8, .ref m9, .ref m10, .ref m11, .ref m12, .int (nI mt), .ref m13, .ref m14, .ref m15])), (m4, .inl (cI, 5, .inl M.hard)), (m5, .inl (cI, 4, .inl M.kind)), (m6, .inl (cI, 4, .inl M.wit)), (m7, .inl (cI, 4, .inl M.pat)), (m12, .inl (cI, 4, .inl M.pret))] sX.heap := hP
  have f_22 := hts (.fieldLink RX5 22 "DunceSeeModel" "kind" "[I") (by decide +kernel)
  have f_25 := hts (.fieldLink RX5 25 "DunceSeeModel" "wit" "[I") (by decide +kernel)
  have f_28 := hts (.fieldLink RX5 28 "DunceSeeModel" "patience" "[I") (by decide +kernel)
  have inX5 : ∀ w ∈ wsX50, w ∈ wsX5_ofPupil := fun w h => List.mem_cons_of_mem _ (List.mem_append_right _ h)
  have hD5 : M.D ≤ 5 := hg.1.1
  have hP4 : M.P ≤ 4 := hg.1.2
  refine lv_aload_n hx hb dX5_ofPupil_0 rfl (lv_at hl 0 rfl) ?_
  refine lv_iload_n hx hb dX5_ofPupil_1 rfl (lv_at hl 1 rfl) ?_
  refine zk_callVi (As := [.int p]) (rest := []) (bI (isP M.P p)) ⟨hx, hb, hml, hown, hts⟩ hK hP [0, 1, 2, 3, 4, 5] rfl (m_isPupil l D cI m0 m1 m2 m3 m4 m5 m6 m7 m8 m9 m10 m11 m12 m13 m14 m15 fm tm at1 rdb rrm rD rP mt M p ) (cwV 1 hts gX5_ofPupil_X5_isPupil rfl rfl rfl hdX5_isPupil ⟨Nat.le_of_ble_eq_true rfl, Nat.le_of_ble_eq_true rfl⟩) rfl rfl rfl hl.1 rfl (Nat.le_of_ble_eq_true rfl) dX5_ofPupil_2 ⟨Nat.le_of_ble_eq_true rfl, Nat.le_of_ble_eq_true rfl⟩ ?_
  refine zk_ifneB (tgt := 10) hx hb dX5_ofPupil_5 (by decide) (fun c_1 => ?_) (fun c_1 => ?_)
  · obtain ⟨j, hj, e_j, g_j⟩ := isP_of (by omega) c_1
    rw [e_j] at hl
    refine lv_iload_n hx hb dX5_ofPupil_10 rfl (lv_at hl 2 rfl) ?_
    by_cases c_2 : w = nI 0
    · refine lv_tableIn (tgt := 40) hx hb dX5_ofPupil_11 (by rw [c_2]; decide) (by rw [c_2]; decide) (by rw [c_2]; try rfl) (by decide) ?_
      refine lv_aload_n hx hb dX5_ofPupil_40 rfl (lv_at hl 0 rfl) ?_
      refine va_get (D := D) (ci := 5) (v := .ref m5) (C := RX5) (T := TX5) (N := 27) hx hb hts inX5 hown hK.1 hP 0 rfl rfl 10 (by decide) f_22 (fun _ h9 => h9) rfl dX5_ofPupil_41 ?_
      refine lv_iload_n hx hb dX5_ofPupil_44 rfl (lv_at hl 1 rfl) ?_
      refine zk_iald hx hb hK hP 2 rfl (by omega) (by decide) dX5_ofPupil_45 ?_
      exact zk_retS hx hb hr (by unfold ofPupilF; rw [c_1, g_j]; rw [if_pos rfl, if_pos c_2]) dX5_ofPupil_46 hlocks
    by_cases c_3 : w = nI 1
    · refine lv_tableIn (tgt := 47) hx hb dX5_ofPupil_11 (by rw [c_3]; decide) (by rw [c_3]; decide) (by rw [c_3]; try rfl) (by decide) ?_
      refine lv_aload_n hx hb dX5_ofPupil_47 rfl (lv_at hl 0 rfl) ?_
      refine va_get (D := D) (ci := 5) (v := .ref m6) (C := RX5) (T := TX5) (N := 27) hx hb hts inX5 hown hK.1 hP 0 rfl rfl 11 (by decide) f_25 (fun _ h9 => h9) rfl dX5_ofPupil_48 ?_
      refine lv_iload_n hx hb dX5_ofPupil_51 rfl (lv_at hl 1 rfl) ?_
      refine zk_iald hx hb hK hP 3 rfl (by omega) (by decide) dX5_ofPupil_52 ?_
      exact zk_retS hx hb hr (by unfold ofPupilF; rw [c_1, g_j]; rw [if_pos rfl, if_neg c_2, if_pos c_3]) dX5_ofPupil_53 hlocks
    by_cases c_4 : w = nI 2
    · refine lv_tableIn (tgt := 54) hx hb dX5_ofPupil_11 (by rw [c_4]; decide) (by rw [c_4]; decide) (by rw [c_4]; try rfl) (by decide) ?_
      refine lv_aload_n hx hb dX5_ofPupil_54 rfl (lv_at hl 0 rfl) ?_
      refine va_get (D := D) (ci := 5) (v := .ref m7) (C := RX5) (T := TX5) (N := 27) hx hb hts inX5 hown hK.1 hP 0 rfl rfl 12 (by decide) f_28 (fun _ h9 => h9) rfl dX5_ofPupil_55 ?_
      refine lv_iload_n hx hb dX5_ofPupil_58 rfl (lv_at hl 1 rfl) ?_
      refine zk_iald hx hb hK hP 4 rfl (by omega) (by decide) dX5_ofPupil_59 ?_
      exact zk_retS hx hb hr (by unfold ofPupilF; rw [c_1, g_j]; rw [if_pos rfl, if_neg c_2, if_neg c_3, if_pos c_4]) dX5_ofPupil_60 hlocks
    by_cases c_5 : w = nI 3
    · refine lv_tableIn (tgt := 61) hx hb dX5_ofPupil_11 (by rw [c_5]; decide) (by rw [c_5]; decide) (by rw [c_5]; try rfl) (by decide) ?_
      refine lv_aload_n hx hb dX5_ofPupil_61 rfl (lv_at hl 0 rfl) ?_
      refine lv_iload_n hx hb dX5_ofPupil_62 rfl (lv_at hl 1 rfl) ?_
      refine zk_callVi (As := [.int (nI j)]) (rest := []) (hrs M j) ⟨hx, hb, hml, hown, hts⟩ hK hP [0, 1, 2, 3, 4, 5] rfl (m_hoursOf l D cI m0 m1 m2 m3 m4 m5 m6 m7 m8 m9 m10 m11 m12 m13 m14 m15 fm tm at1 rdb rrm rD rP mt M j hg hj) (cwV 1 hts gX5_ofPupil_X5_hoursOf rfl rfl rfl hdX5_hoursOf ⟨Nat.le_of_ble_eq_true rfl, Nat.le_of_ble_eq_true rfl⟩) rfl rfl rfl hl.1 rfl (Nat.le_of_ble_eq_true rfl) dX5_ofPupil_63 ⟨Nat.le_of_ble_eq_true rfl, Nat.le_of_ble_eq_true rfl⟩ ?_
      exact zk_retS hx hb hr (by unfold ofPupilF; rw [c_1, g_j]; rw [if_pos rfl, if_neg c_2, if_neg c_3, if_neg c_4, if_pos c_5]) dX5_ofPupil_66 hlocks
    refine lv_tableOut (tgt := 67) hx hb dX5_ofPupil_11 (by have := lv_neT c_2 (show (nI 0).toInt = 0 from by decide); have := lv_neT c_3 (show (nI 1).toInt = 1 from by decide); have := lv_neT c_4 (show (nI 2).toInt = 2 from by decide); have := lv_neT c_5 (show (nI 3).toInt = 3 from by decide); omega) (by decide) ?_
    refine lv_bipush (v := (-2)) hx hb dX5_ofPupil_67 (by decide) ?_
    exact zk_retS hx hb hr (by unfold ofPupilF; rw [c_1, g_j]; rw [if_pos rfl, if_neg c_2, if_neg c_3, if_neg c_4, if_neg c_5]) dX5_ofPupil_69 hlocks
  · refine lv_iconst (v := (-1)) hx hb dX5_ofPupil_8 (by decide) ?_
    exact zk_retS hx hb hr (by unfold ofPupilF; rw [c_1]; rfl) dX5_ofPupil_9 hlocks
set_option maxHeartbeats 4000000 in
set_option maxRecDepth 100000 in
theorem mx_hard (l : Launch) (D : va_G) (cI : ClassId) (m0 : Nat) (m1 : Nat) (m2 : Nat) (m3 : Nat) (m4 : Nat) (m5 : Nat) (m6 : Nat) (m7 : Nat) (m8 : Nat) (m9 : Nat) (m10 : Nat) (m11 : Nat) (m12 : Nat) (m13 : Nat) (m14 : Nat) (m15 : Nat) (fm : Int32) (tm : Int32) (at1 : Nat) (rdb : Int32) (rrm : Int32) (rD : Nat) (rP : Nat) (mt : Nat) (M : YS) (p : Int32) (hg : GdY M) : Met l yX5_hard wsX5_hard ({ frames := 1, cells := 0, slots := 0, locals := 21 }) (PS D cI [.ref m0, .int p] (wMo m0 m1 m2 m3 m4 m5 m6 m7 m8 m9 m10 m11 m12 m13 m14 m15 fm tm at1 rdb rrm rD rP mt M ++ wMa cI m4 m5 m6 m7 m12 M)) (vp_Si (fun r => r = hardF M p)) 0 0 (fun _ => False) := by
  refine zk_S (cc := cX5_hard) (maxL := 2) (ret := (some .int)) (by decide) rfl (Nat.le_of_ble_eq_true rfl) ?_
  intro pX eX sX mX bX tX cX hx hb hr hlocks hml hown hts hP hK ls hl
  have hl : lv_has ls 2 [(0, .ref m0), (1, .int p)] := hl
  have hP : va_P D vwCl [(m0, .inr (5, [.int fm, .int tm, .ref m1, .ref m2, .ref m3, .int M.db, .int M.rm, .int (nI M.D), .int (nI M.P), .ref m4, .ref m5, .ref m6, .ref m7, .int (nI at1), .int rdb, .int rrm, .int (nI rD), .int (nI rP), .ref m8, .ref m9, .ref m10, .ref m11, .ref m12, .int (nI mt), .ref m13, .ref m14, .ref m15])), (m4, .inl (cI, 5, .inl M.hard)), (m5, .inl (cI, 4, .inl M.kind)), (m6, .inl (cI, 4, .inl M.wit)), (m7, .inl (cI, 4, .inl M.pat)), (m12, .inl (cI, 4, .inl M.pret))] sX.heap := hP
  have f_19 := hts (.fieldLink RX5 19 "DunceSeeModel" "hardOf" "[I") (by decide +kernel)
  have inX5 : ∀ w ∈ wsX50, w ∈ wsX5_hard := fun w h => List.mem_cons_of_mem _ (List.mem_append_right _ h)
  have hD5 : M.D ≤ 5 := hg.1.1
  have hP4 : M.P ≤ 4 := hg.1.2
  refine lv_aload_n hx hb dX5_hard_0 rfl (lv_at hl 0 rfl) ?_
  refine lv_iload_n hx hb dX5_hard_1 rfl (lv_at hl 1 rfl) ?_
  refine zk_callVi (As := [.int p]) (rest := []) (bI (isP M.D p)) ⟨hx, hb, hml, hown, hts⟩ hK hP [0, 1, 2, 3, 4, 5] rfl (m_isDay l D cI m0 m1 m2 m3 m4 m5 m6 m7 m8 m9 m10 m11 m12 m13 m14 m15 fm tm at1 rdb rrm rD rP mt M p ) (cwV 1 hts gX5_hard_X5_isDay rfl rfl rfl hdX5_isDay ⟨Nat.le_of_ble_eq_true rfl, Nat.le_of_ble_eq_true rfl⟩) rfl rfl rfl hl.1 rfl (Nat.le_of_ble_eq_true rfl) dX5_hard_2 ⟨Nat.le_of_ble_eq_true rfl, Nat.le_of_ble_eq_true rfl⟩ ?_
  refine zk_ifeqB (tgt := 17) hx hb dX5_hard_5 (by decide) (fun c_1 => ?_) (fun c_1 => ?_)
  · refine lv_iconst (v := (-1)) hx hb dX5_hard_17 (by decide) ?_
    exact zk_retS hx hb hr (by unfold hardF; rw [c_1]; rfl) dX5_hard_18 hlocks
  · obtain ⟨j, hj, e_j, g_j⟩ := isP_of (by omega) c_1
    rw [e_j] at hl
    refine lv_aload_n hx hb dX5_hard_8 rfl (lv_at hl 0 rfl) ?_
    refine va_get (D := D) (ci := 5) (v := .ref m4) (C := RX5) (T := TX5) (N := 27) hx hb hts inX5 hown hK.1 hP 0 rfl rfl 9 (by decide) f_19 (fun _ h9 => h9) rfl dX5_hard_9 ?_
    refine lv_iload_n hx hb dX5_hard_12 rfl (lv_at hl 1 rfl) ?_
    refine zk_iald hx hb hK hP 1 rfl (by omega) (by decide) dX5_hard_13 ?_
    refine lv_goto (tgt := 18) hx hb dX5_hard_14 (by decide) ?_
    exact zk_retS hx hb hr (by unfold hardF; rw [c_1, g_j]; rfl) dX5_hard_18 hlocks
set_option maxHeartbeats 4000000 in
set_option maxRecDepth 100000 in
theorem mx_would (l : Launch) (D : va_G) (cI : ClassId) (m0 : Nat) (m1 : Nat) (m2 : Nat) (m3 : Nat) (m4 : Nat) (m5 : Nat) (m6 : Nat) (m7 : Nat) (m8 : Nat) (m9 : Nat) (m10 : Nat) (m11 : Nat) (m12 : Nat) (m13 : Nat) (m14 : Nat) (m15 : Nat) (fm : Int32) (tm : Int32) (at1 : Nat) (rdb : Int32) (rrm : Int32) (rD : Nat) (rP : Nat) (mt : Nat) (M : YS) (p : Int32) (d : Int32) (b : Bool) (hg : GdY M) : Met l yX5_would wsX5_would ({ frames := 1, cells := 0, slots := 0, locals := 24 }) (PS D cI [.ref m0, .int p, .int d, .int (bI b)] (wMo m0 m1 m2 m3 m4 m5 m6 m7 m8 m9 m10 m11 m12 m13 m14 m15 fm tm at1 rdb rrm rD rP mt M ++ wMa cI m4 m5 m6 m7 m12 M)) (vp_Si (fun r => r = wouldF M p d b)) 0 0 (fun _ => False) := by
  refine zk_S (cc := cX5_would) (maxL := 4) (ret := (some .int)) (by decide) rfl (Nat.le_of_ble_eq_true rfl) ?_
  intro pX eX sX mX bX tX cX hx hb hr hlocks hml hown hts hP hK ls hl
  have hl : lv_has ls 4 [(0, .ref m0), (1, .int p), (2, .int d), (3, .int (bI b))] := hl
  have hP : va_P D vwCl [(m0, .inr (5, [.int fm, .int tm, .ref m1, .ref m2, .ref m3, .int M.db, .int M.rm, .int (nI M.D), .int (nI M.P), .ref m4, .ref m5, .ref m6, .ref m7, .int (nI at1), .int rdb, .int rrm, .int (nI rD), .int (nI rP), .ref m8, .ref m9, .ref m10, .ref m11, .ref m12, .int (nI mt), .ref m13, .ref m14, .ref m15])), (m4, .inl (cI, 5, .inl M.hard)), (m5, .inl (cI, 4, .inl M.kind)), (m6, .inl (cI, 4, .inl M.wit)), (m7, .inl (cI, 4, .inl M.pat)), (m12, .inl (cI, 4, .inl M.pret))] sX.heap := hP
  have inX5 : ∀ w ∈ wsX50, w ∈ wsX5_would := fun w h => List.mem_cons_of_mem _ (List.mem_append_right _ h)
  have hD5 : M.D ≤ 5 := hg.1.1
  have hP4 : M.P ≤ 4 := hg.1.2
  refine lv_aload_n hx hb dX5_would_0 rfl (lv_at hl 0 rfl) ?_
  refine lv_iload_n hx hb dX5_would_1 rfl (lv_at hl 1 rfl) ?_
  refine zk_callVi (As := [.int p]) (rest := []) (bI (isP M.P p)) ⟨hx, hb, hml, hown, hts⟩ hK hP [0, 1, 2, 3, 4, 5] rfl (m_isPupil l D cI m0 m1 m2 m3 m4 m5 m6 m7 m8 m9 m10 m11 m12 m13 m14 m15 fm tm at1 rdb rrm rD rP mt M p ) (cwV 1 hts gX5_would_X5_isPupil rfl rfl rfl hdX5_isPupil ⟨Nat.le_of_ble_eq_true rfl, Nat.le_of_ble_eq_true rfl⟩) rfl rfl rfl hl.1 rfl (Nat.le_of_ble_eq_true rfl) dX5_would_2 ⟨Nat.le_of_ble_eq_true rfl, Nat.le_of_ble_eq_true rfl⟩ ?_
  refine zk_ifeqB (tgt := 16) hx hb dX5_would_5 (by decide) (fun c_1 => ?_) (fun c_1 => ?_)
  · refine lv_iconst (v := (-1)) hx hb dX5_would_16 (by decide) ?_
    exact zk_retS hx hb hr (by simp [wouldF, c_1]) dX5_would_17 hlocks
  · obtain ⟨j, hj, e_j, g_j⟩ := isP_of (by omega) c_1
    rw [e_j] at hl
    refine lv_aload_n hx hb dX5_would_8 rfl (lv_at hl 0 rfl) ?_
    refine lv_iload_n hx hb dX5_would_9 rfl (lv_at hl 2 rfl) ?_
    refine zk_callVi (As := [.int d]) (rest := []) (bI (isP M.D d)) ⟨hx, hb, hml, hown, hts⟩ hK hP [0, 1, 2, 3, 4, 5] rfl (m_isDay l D cI m0 m1 m2 m3 m4 m5 m6 m7 m8 m9 m10 m11 m12 m13 m14 m15 fm tm at1 rdb rrm rD rP mt M d ) (cwV 1 hts gX5_would_X5_isDay rfl rfl rfl hdX5_isDay ⟨Nat.le_of_ble_eq_true rfl, Nat.le_of_ble_eq_true rfl⟩) rfl rfl rfl hl.1 rfl (Nat.le_of_ble_eq_true rfl) dX5_would_10 ⟨Nat.le_of_ble_eq_true rfl, Nat.le_of_ble_eq_true rfl⟩ ?_
    refine zk_ifneB (tgt := 18) hx hb dX5_would_13 (by decide) (fun c_2 => ?_) (fun c_2 => ?_)
    · obtain ⟨i, hi, e_i, g_i⟩ := isP_of (by omega) c_2
      rw [e_i] at hl
      refine lv_aload_n hx hb dX5_would_18 rfl (lv_at hl 0 rfl) ?_
      refine lv_iload_n hx hb dX5_would_19 rfl (lv_at hl 1 rfl) ?_
      refine lv_iload_n hx hb dX5_would_20 rfl (lv_at hl 2 rfl) ?_
      refine lv_iload_n hx hb dX5_would_21 rfl (lv_at hl 3 rfl) ?_
      refine zk_callVi (As := [.int (nI j), .int (nI i), .int (bI b)]) (rest := []) (bI (wdB (M.wit j) (M.hard i) M.db b)) ⟨hx, hb, hml, hown, hts⟩ hK hP [0, 1, 2, 3, 4, 5] rfl (m_isWould l D cI m0 m1 m2 m3 m4 m5 m6 m7 m8 m9 m10 m11 m12 m13 m14 m15 fm tm at1 rdb rrm rD rP mt M j i b (by omega) (by omega)) (cwV 3 hts gX5_would_X5_isWould rfl rfl rfl hdX5_isWould ⟨Nat.le_of_ble_eq_true rfl, Nat.le_of_ble_eq_true rfl⟩) rfl rfl rfl hl.1 rfl (Nat.le_of_ble_eq_true rfl) dX5_would_22 ⟨Nat.le_of_ble_eq_true rfl, Nat.le_of_ble_eq_true rfl⟩ ?_
      refine zk_ifeqB (tgt := 32) hx hb dX5_would_25 (by decide) (fun c_3 => ?_) (fun c_3 => ?_)
      · refine lv_iconst (v := nI 0) hx hb dX5_would_32 (by decide) ?_
        exact zk_retS hx hb hr (by unfold wouldF; rw [c_1, c_2, g_j, g_i, c_3]; rfl) dX5_would_33 hlocks
      · refine lv_iconst (v := nI 1) hx hb dX5_would_28 (by decide) ?_
        refine lv_goto (tgt := 33) hx hb dX5_would_29 (by decide) ?_
        exact zk_retS hx hb hr (by unfold wouldF; rw [c_1, c_2, g_j, g_i, c_3]; rfl) dX5_would_33 hlocks
    · refine lv_iconst (v := (-1)) hx hb dX5_would_16 (by decide) ?_
      exact zk_retS hx hb hr (by simp [wouldF, c_1, g_j, c_2]) dX5_would_17 hlocks
set_option maxHeartbeats 4000000 in
set_option maxRecDepth 100000 in
theorem mx_trace (l : Launch) (D : va_G) (cI : ClassId) (m0 : Nat) (m1 : Nat) (m2 : Nat) (m3 : Nat) (m4 : Nat) (m5 : Nat) (m6 : Nat) (m7 : Nat) (m8 : Nat) (m9 : Nat) (m10 : Nat) (m11 : Nat) (m12 : Nat) (m13 : Nat) (m14 : Nat) (m15 : Nat) (fm : Int32) (tm : Int32) (at1 : Nat) (rdb : Int32) (rrm : Int32) (rD : Nat) (rP : Nat) (mt : Nat) (M : YS)  : Met l yX5_trace wsX5_trace ({ frames := 0, cells := 0, slots := 0, locals := 0 }) (PS D cI [.ref m0] (wMo m0 m1 m2 m3 m4 m5 m6 m7 m8 m9 m10 m11 m12 m13 m14 m15 fm tm at1 rdb rrm rD rP mt M)) (vp_Si (fun r => r = tm)) 0 0 (fun _ => False) := by
  refine zk_S (cc := cX5_trace) (maxL := 1) (ret := (some .int)) (by decide) rfl (Nat.le_of_ble_eq_true rfl) ?_
  intro pX eX sX mX bX tX cX hx hb hr hlocks hml hown hts hP hK ls hl
  have hl : lv_has ls 1 [(0, .ref m0)] := hl
  have hP : va_P D vwCl [(m0, .inr (5, [.int fm, .int tm, .ref m1, .ref m2, .ref m3, .int M.db, .int M.rm, .int (nI M.D), .int (nI M.P), .ref m4, .ref m5, .ref m6, .ref m7, .int (nI at1), .int rdb, .int rrm, .int (nI rD), .int (nI rP), .ref m8, .ref m9, .ref m10, .ref m11, .ref m12, .int (nI mt), .ref m13, .ref m14, .ref m15]))] sX.heap := hP
  have f_190 := hts (.fieldLink RX5 190 "DunceSeeModel" "trace" "I") (by decide +kernel)
  have inX5 : ∀ w ∈ wsX50, w ∈ wsX5_trace := fun w h => List.mem_cons_of_mem _ (List.mem_append_right _ h)
  refine lv_aload_n hx hb dX5_trace_0 rfl (lv_at hl 0 rfl) ?_
  refine va_get (D := D) (ci := 5) (v := .int tm) (C := RX5) (T := TX5) (N := 27) hx hb hts inX5 hown hK.1 hP 0 rfl rfl 1 (by decide) f_190 (fun _ h9 => h9) rfl dX5_trace_1 ?_
  exact zk_retS hx hb hr (rfl) dX5_trace_4 hlocks
set_option maxHeartbeats 4000000 in
set_option maxRecDepth 100000 in
theorem mx_fault (l : Launch) (D : va_G) (cI : ClassId) (m0 : Nat) (m1 : Nat) (m2 : Nat) (m3 : Nat) (m4 : Nat) (m5 : Nat) (m6 : Nat) (m7 : Nat) (m8 : Nat) (m9 : Nat) (m10 : Nat) (m11 : Nat) (m12 : Nat) (m13 : Nat) (m14 : Nat) (m15 : Nat) (fm : Int32) (tm : Int32) (at1 : Nat) (rdb : Int32) (rrm : Int32) (rD : Nat) (rP : Nat) (mt : Nat) (M : YS)  : Met l yX5_fault wsX5_fault ({ frames := 0, cells := 0, slots := 0, locals := 0 }) (PS D cI [.ref m0] (wMo m0 m1 m2 m3 m4 m5 m6 m7 m8 m9 m10 m11 m12 m13 m14 m15 fm tm at1 rdb rrm rD rP mt M)) (vp_Si (fun r => r = fm)) 0 0 (fun _ => False) := by
  refine zk_S (cc := cX5_fault) (maxL := 1) (ret := (some .int)) (by decide) rfl (Nat.le_of_ble_eq_true rfl) ?_
  intro pX eX sX mX bX tX cX hx hb hr hlocks hml hown hts hP hK ls hl
  have hl : lv_has ls 1 [(0, .ref m0)] := hl
  have hP : va_P D vwCl [(m0, .inr (5, [.int fm, .int tm, .ref m1, .ref m2, .ref m3, .int M.db, .int M.rm, .int (nI M.D), .int (nI M.P), .ref m4, .ref m5, .ref m6, .ref m7, .int (nI at1), .int rdb, .int rrm, .int (nI rD), .int (nI rP), .ref m8, .ref m9, .ref m10, .ref m11, .ref m12, .int (nI mt), .ref m13, .ref m14, .ref m15]))] sX.heap := hP
  have f_55 := hts (.fieldLink RX5 55 "DunceSeeModel" "fault" "I") (by decide +kernel)
  have inX5 : ∀ w ∈ wsX50, w ∈ wsX5_fault := fun w h => List.mem_cons_of_mem _ (List.mem_append_right _ h)
  refine lv_aload_n hx hb dX5_fault_0 rfl (lv_at hl 0 rfl) ?_
  refine va_get (D := D) (ci := 5) (v := .int fm) (C := RX5) (T := TX5) (N := 27) hx hb hts inX5 hown hK.1 hP 0 rfl rfl 0 (by decide) f_55 (fun _ h9 => h9) rfl dX5_fault_1 ?_
  exact zk_retS hx hb hr (rfl) dX5_fault_4 hlocks
set_option maxHeartbeats 4000000 in
set_option maxRecDepth 100000 in
theorem mx_many (l : Launch) (D : va_G) (cI : ClassId) (m0 : Nat) (m1 : Nat) (m2 : Nat) (m3 : Nat) (m4 : Nat) (m5 : Nat) (m6 : Nat) (m7 : Nat) (m8 : Nat) (m9 : Nat) (m10 : Nat) (m11 : Nat) (m12 : Nat) (m13 : Nat) (m14 : Nat) (m15 : Nat) (fm : Int32) (tm : Int32) (at1 : Nat) (rdb : Int32) (rrm : Int32) (rD : Nat) (rP : Nat) (mt : Nat) (M : YS) (w : Int32)  : Met l yX5_many wsX5_many ({ frames := 0, cells := 0, slots := 0, locals := 0 }) (PS D cI [.ref m0, .int w] (wMo m0 m1 m2 m3 m4 m5 m6 m7 m8 m9 m10 m11 m12 m13 m14 m15 fm tm at1 rdb rrm rD rP mt M)) (vp_Si (fun r => r = manyF M mt w)) 0 0 (fun _ => False) := by
  refine zk_S (cc := cX5_many) (maxL := 2) (ret := (some .int)) (by decide) rfl (Nat.le_of_ble_eq_true rfl) ?_
  intro pX eX sX mX bX tX cX hx hb hr hlocks hml hown hts hP hK ls hl
  have hl : lv_has ls 2 [(0, .ref m0), (1, .int w)] := hl
  have hP : va_P D vwCl [(m0, .inr (5, [.int fm, .int tm, .ref m1, .ref m2, .ref m3, .int M.db, .int M.rm, .int (nI M.D), .int (nI M.P), .ref m4, .ref m5, .ref m6, .ref m7, .int (nI at1), .int rdb, .int rrm, .int (nI rD), .int (nI rP), .ref m8, .ref m9, .ref m10, .ref m11, .ref m12, .int (nI mt), .ref m13, .ref m14, .ref m15]))] sX.heap := hP
  have f_65 := hts (.fieldLink RX5 65 "DunceSeeModel" "pupils" "I") (by decide +kernel)
  have f_68 := hts (.fieldLink RX5 68 "DunceSeeModel" "days" "I") (by decide +kernel)
  have f_98 := hts (.fieldLink RX5 98 "DunceSeeModel" "doubtNow" "I") (by decide +kernel)
  have f_104 := hts (.fieldLink RX5 104 "DunceSeeModel" "room" "I") (by decide +kernel)
  have f_113 := hts (.fieldLink RX5 113 "DunceSeeModel" "readings" "I") (by decide +kernel)
  have inX5 : ∀ w ∈ wsX50, w ∈ wsX5_many := fun w h => List.mem_cons_of_mem _ (List.mem_append_right _ h)
  refine lv_iload_n hx hb dX5_many_0 rfl (lv_at hl 1 rfl) ?_
  by_cases c_1 : w = nI 0
  · refine lv_tableIn (tgt := 36) hx hb dX5_many_1 (by rw [c_1]; decide) (by rw [c_1]; decide) (by rw [c_1]; try rfl) (by decide) ?_
    refine lv_aload_n hx hb dX5_many_36 rfl (lv_at hl 0 rfl) ?_
    refine va_get (D := D) (ci := 5) (v := .int (nI M.P)) (C := RX5) (T := TX5) (N := 27) hx hb hts inX5 hown hK.1 hP 0 rfl rfl 8 (by decide) f_65 (fun _ h9 => h9) rfl dX5_many_37 ?_
    exact zk_retS hx hb hr (by unfold manyF; rw [if_pos c_1]) dX5_many_40 hlocks
  by_cases c_2 : w = nI 1
  · refine lv_tableIn (tgt := 41) hx hb dX5_many_1 (by rw [c_2]; decide) (by rw [c_2]; decide) (by rw [c_2]; try rfl) (by decide) ?_
    refine lv_aload_n hx hb dX5_many_41 rfl (lv_at hl 0 rfl) ?_
    refine va_get (D := D) (ci := 5) (v := .int (nI M.D)) (C := RX5) (T := TX5) (N := 27) hx hb hts inX5 hown hK.1 hP 0 rfl rfl 7 (by decide) f_68 (fun _ h9 => h9) rfl dX5_many_42 ?_
    exact zk_retS hx hb hr (by unfold manyF; rw [if_neg c_1, if_pos c_2]) dX5_many_45 hlocks
  by_cases c_3 : w = nI 2
  · refine lv_tableIn (tgt := 46) hx hb dX5_many_1 (by rw [c_3]; decide) (by rw [c_3]; decide) (by rw [c_3]; try rfl) (by decide) ?_
    refine lv_aload_n hx hb dX5_many_46 rfl (lv_at hl 0 rfl) ?_
    refine va_get (D := D) (ci := 5) (v := .int M.db) (C := RX5) (T := TX5) (N := 27) hx hb hts inX5 hown hK.1 hP 0 rfl rfl 5 (by decide) f_98 (fun _ h9 => h9) rfl dX5_many_47 ?_
    exact zk_retS hx hb hr (by unfold manyF; rw [if_neg c_1, if_neg c_2, if_pos c_3]) dX5_many_50 hlocks
  by_cases c_4 : w = nI 3
  · refine lv_tableIn (tgt := 51) hx hb dX5_many_1 (by rw [c_4]; decide) (by rw [c_4]; decide) (by rw [c_4]; try rfl) (by decide) ?_
    refine lv_aload_n hx hb dX5_many_51 rfl (lv_at hl 0 rfl) ?_
    refine va_get (D := D) (ci := 5) (v := .int M.rm) (C := RX5) (T := TX5) (N := 27) hx hb hts inX5 hown hK.1 hP 0 rfl rfl 6 (by decide) f_104 (fun _ h9 => h9) rfl dX5_many_52 ?_
    exact zk_retS hx hb hr (by unfold manyF; rw [if_neg c_1, if_neg c_2, if_neg c_3, if_pos c_4]) dX5_many_55 hlocks
  by_cases c_5 : w = nI 4
  · refine lv_tableIn (tgt := 56) hx hb dX5_many_1 (by rw [c_5]; decide) (by rw [c_5]; decide) (by rw [c_5]; try rfl) (by decide) ?_
    refine lv_aload_n hx hb dX5_many_56 rfl (lv_at hl 0 rfl) ?_
    refine va_get (D := D) (ci := 5) (v := .int (nI mt)) (C := RX5) (T := TX5) (N := 27) hx hb hts inX5 hown hK.1 hP 0 rfl rfl 23 (by decide) f_113 (fun _ h9 => h9) rfl dX5_many_57 ?_
    exact zk_retS hx hb hr (by unfold manyF; rw [if_neg c_1, if_neg c_2, if_neg c_3, if_neg c_4, if_pos c_5]) dX5_many_60 hlocks
  refine lv_tableOut (tgt := 61) hx hb dX5_many_1 (by have := lv_neT c_1 (show (nI 0).toInt = 0 from by decide); have := lv_neT c_2 (show (nI 1).toInt = 1 from by decide); have := lv_neT c_3 (show (nI 2).toInt = 2 from by decide); have := lv_neT c_4 (show (nI 3).toInt = 3 from by decide); have := lv_neT c_5 (show (nI 4).toInt = 4 from by decide); omega) (by decide) ?_
  refine lv_bipush (v := (-2)) hx hb dX5_many_61 (by decide) ?_
  exact zk_retS hx hb hr (by unfold manyF; rw [if_neg c_1, if_neg c_2, if_neg c_3, if_neg c_4, if_neg c_5]) dX5_many_63 hlocks
set_option maxHeartbeats 4000000 in
set_option maxRecDepth 100000 in
theorem mx_ask (l : Launch) (D : va_G) (cI : ClassId) (sz : Nat) (m0 : Nat) (m1 : Nat) (m2 : Nat) (m3 : Nat) (m4 : Nat) (m5 : Nat) (m6 : Nat) (m7 : Nat) (m8 : Nat) (m9 : Nat) (m10 : Nat) (m11 : Nat) (m12 : Nat) (m13 : Nat) (m14 : Nat) (m15 : Nat) (fm : Int32) (tm : Int32) (at1 : Nat) (rdb : Int32) (rrm : Int32) (rD : Nat) (rP : Nat) (mt : Nat) (M : YS) (p : Int32) (v : Int32) (hok : OkY M) : Met l yX5_ask wsX5_ask ({ frames := 2, cells := 0, slots := 0, locals := 42 }) (PQ D cI [.ref m0, .int p, .int v] (wMo m0 m1 m2 m3 m4 m5 m6 m7 m8 m9 m10 m11 m12 m13 m14 m15 fm tm at1 rdb rrm rD rP mt M ++ wMa cI m4 m5 m6 m7 m12 M) sz) (QI (S := Unit) D (fun r _ => r = (askF M p v).1) (fun _ => wMo m0 m1 m2 m3 m4 m5 m6 m7 m8 m9 m10 m11 m12 m13 m14 m15 fm tm at1 rdb rrm rD rP mt ((askF M p v).2) ++ wMa cI m4 m5 m6 m7 m12 ((askF M p v).2)) (va_A (wMo m0 m1 m2 m3 m4 m5 m6 m7 m8 m9 m10 m11 m12 m13 m14 m15 fm tm at1 rdb rrm rD rP mt M ++ wMa cI m4 m5 m6 m7 m12 M) sz)) 0 0 (va_A (wMo m0 m1 m2 m3 m4 m5 m6 m7 m8 m9 m10 m11 m12 m13 m14 m15 fm tm at1 rdb rrm rD rP mt M ++ wMa cI m4 m5 m6 m7 m12 M) sz) := by
  refine zk_Q (QI (S := Unit) D (fun r _ => r = (askF M p v).1) (fun _ => wMo m0 m1 m2 m3 m4 m5 m6 m7 m8 m9 m10 m11 m12 m13 m14 m15 fm tm at1 rdb rrm rD rP mt ((askF M p v).2) ++ wMa cI m4 m5 m6 m7 m12 ((askF M p v).2))) (cc := cX5_ask) (maxL := 4) (ret := (some .int)) (by decide) rfl (Nat.le_of_ble_eq_true rfl) ?_
  intro pX eX sX mX bX tX cX hx hb hr hlocks hml hown hmn hts hP hK A hA hD hS ls hl
  have hl : lv_has ls 4 [(0, .ref m0), (1, .int p), (2, .int v)] := hl
  have hP : va_P D vwCl [(m0, .inr (5, [.int fm, .int tm, .ref m1, .ref m2, .ref m3, .int M.db, .int M.rm, .int (nI M.D), .int (nI M.P), .ref m4, .ref m5, .ref m6, .ref m7, .int (nI at1), .int rdb, .int rrm, .int (nI rD), .int (nI rP), .ref m8, .ref m9, .ref m10, .ref m11, .ref m12, .int (nI mt), .ref m13, .ref m14, .ref m15])), (m4, .inl (cI, 5, .inl M.hard)), (m5, .inl (cI, 4, .inl M.kind)), (m6, .inl (cI, 4, .inl M.wit)), (m7, .inl (cI, 4, .inl M.pat)), (m12, .inl (cI, 4, .inl M.pret))] sX.heap := hP
  have hD : va_D A [(m0, .inr (5, [.int fm, .int tm, .ref m1, .ref m2, .ref m3, .int M.db, .int M.rm, .int (nI M.D), .int (nI M.P), .ref m4, .ref m5, .ref m6, .ref m7, .int (nI at1), .int rdb, .int rrm, .int (nI rD), .int (nI rP), .ref m8, .ref m9, .ref m10, .ref m11, .ref m12, .int (nI mt), .ref m13, .ref m14, .ref m15])), (m4, .inl (cI, 5, .inl M.hard)), (m5, .inl (cI, 4, .inl M.kind)), (m6, .inl (cI, 4, .inl M.wit)), (m7, .inl (cI, 4, .inl M.pat)), (m12, .inl (cI, 4, .inl M.pret))] := hD
  have f_19 := hts (.fieldLink RX5 19 "DunceSeeModel" "hardOf" "[I") (by decide +kernel)
  have inX5 : ∀ w ∈ wsX50, w ∈ wsX5_ask := fun w h => List.mem_cons_of_mem _ (List.mem_append_right _ h)
  have hD5 : M.D ≤ 5 := hok.1
  have hP4 : M.P ≤ 4 := hok.2
  refine lv_aload_n hx hb dX5_ask_0 rfl (lv_at hl 0 rfl) ?_
  refine lv_iload_n hx hb dX5_ask_1 rfl (lv_at hl 1 rfl) ?_
  refine zk_callVi (As := [.int p]) (rest := []) (bI (isP M.D p)) ⟨hx, hb, hml, hown, hts⟩ hK hP [0, 1, 2, 3, 4, 5] rfl (m_isDay l D cI m0 m1 m2 m3 m4 m5 m6 m7 m8 m9 m10 m11 m12 m13 m14 m15 fm tm at1 rdb rrm rD rP mt M p ) (cwV 1 hts gX5_ask_X5_isDay rfl rfl rfl hdX5_isDay ⟨Nat.le_of_ble_eq_true rfl, Nat.le_of_ble_eq_true rfl⟩) rfl rfl rfl hl.1 rfl (Nat.le_of_ble_eq_true rfl) dX5_ask_2 ⟨Nat.le_of_ble_eq_true rfl, Nat.le_of_ble_eq_true rfl⟩ ?_
  refine zk_ifneB (tgt := 10) hx hb dX5_ask_5 (by decide) (fun c_1 => ?_) (fun c_1 => ?_)
  · obtain ⟨j, hj, e_j, g_j⟩ := isP_of (by omega) c_1
    rw [e_j] at hl
    refine lv_iload_n hx hb dX5_ask_10 rfl (lv_at hl 2 rfl) ?_
    refine zk_callSi (As := [.int v]) (rest := []) (bI (isP 10 v)) ⟨hx, hb, hml, hown, hts⟩ hK hP [] rfl (m_isDigit l D cI v ) (va_cwS 1 hts gX5_ask_X5_isDigit rfl rfl rfl hdX5_isDigit ⟨Nat.le_of_ble_eq_true rfl, Nat.le_of_ble_eq_true rfl⟩) rfl hl.1 rfl (Nat.le_of_ble_eq_true rfl) dX5_ask_11 ⟨Nat.le_of_ble_eq_true rfl, Nat.le_of_ble_eq_true rfl⟩ ?_
    refine zk_ifneB (tgt := 20) hx hb dX5_ask_14 (by decide) (fun c_2 => ?_) (fun c_2 => ?_)
    · refine lv_aload_n hx hb dX5_ask_20 rfl (lv_at hl 0 rfl) ?_
      refine va_get (D := D) (ci := 5) (v := .ref m4) (C := RX5) (T := TX5) (N := 27) hx hb hts inX5 hown hK.1 hP 0 rfl rfl 9 (by decide) f_19 (fun _ h9 => h9) rfl dX5_ask_21 ?_
      refine lv_iload_n hx hb dX5_ask_24 rfl (lv_at hl 1 rfl) ?_
      refine zk_iald hx hb hK hP 1 rfl (by omega) (by decide) dX5_ask_25 ?_
      refine lv_istore_n (lv' := [(3, .int (M.hard j)), (0, .ref m0), (1, .int (nI j)), (2, .int v)]) hx hb dX5_ask_26 rfl hl (by decide) rfl (fun ls hl => ?_)
      refine lv_aload_n hx hb dX5_ask_27 rfl (lv_at hl 1 rfl) ?_
      refine va_get (D := D) (ci := 5) (v := .ref m4) (C := RX5) (T := TX5) (N := 27) hx hb hts inX5 hown hK.1 hP 0 rfl rfl 9 (by decide) f_19 (fun _ h9 => h9) rfl dX5_ask_28 ?_
      refine lv_iload_n hx hb dX5_ask_31 rfl (lv_at hl 2 rfl) ?_
      refine lv_iload_n hx hb dX5_ask_32 rfl (lv_at hl 3 rfl) ?_
      refine zk_iast (x := v) hx hb hK hP hD hS 1 rfl (by omega) (by decide) dX5_ask_33 (fun H locs hP hD hS => ?_)
      have hP : va_P D vwCl [(m0, .inr (5, [.int fm, .int tm, .ref m1, .ref m2, .ref m3, .int M.db, .int M.rm, .int (nI M.D), .int (nI M.P), .ref m4, .ref m5, .ref m6, .ref m7, .int (nI at1), .int rdb, .int rrm, .int (nI rD), .int (nI rP), .ref m8, .ref m9, .ref m10, .ref m11, .ref m12, .int (nI mt), .ref m13, .ref m14, .ref m15])), (m4, .inl (cI, 5, .inl (upd M.hard j v))), (m5, .inl (cI, 4, .inl M.kind)), (m6, .inl (cI, 4, .inl M.wit)), (m7, .inl (cI, 4, .inl M.pat)), (m12, .inl (cI, 4, .inl M.pret))] H := hP
      have hD : va_D A [(m0, .inr (5, [.int fm, .int tm, .ref m1, .ref m2, .ref m3, .int M.db, .int M.rm, .int (nI M.D), .int (nI M.P), .ref m4, .ref m5, .ref m6, .ref m7, .int (nI at1), .int rdb, .int rrm, .int (nI rD), .int (nI rP), .ref m8, .ref m9, .ref m10, .ref m11, .ref m12, .int (nI mt), .ref m13, .ref m14, .ref m15])), (m4, .inl (cI, 5, .inl (upd M.hard j v))), (m5, .inl (cI, 4, .inl M.kind)), (m6, .inl (cI, 4, .inl M.wit)), (m7, .inl (cI, 4, .inl M.pat)), (m12, .inl (cI, 4, .inl M.pret))] := hD
      refine lv_iload_n hx hb dX5_ask_34 rfl (lv_at hl 0 rfl) ?_
      have e_t : askF M p v = (M.hard j, (M.D, M.P, M.db, M.rm, upd M.hard j v, M.kind, M.wit, M.pat, M.pret)) := by simp [askF, c_1, g_j, c_2]
      exact zk_retI hx hb hr hS (()) (by rw [e_t]) (by rw [e_t]; exact hP) (by rw [e_t]; exact hD) dX5_ask_35 hlocks
    · refine lv_bipush (v := (-2)) hx hb dX5_ask_17 (by decide) ?_
      have e_t : askF M p v = ((-2), (M.D, M.P, M.db, M.rm, M.hard, M.kind, M.wit, M.pat, M.pret)) := by simp [askF, c_1, g_j, c_2]
      exact zk_retI hx hb hr hS (()) (by rw [e_t]) (by rw [e_t]; exact hP) (by rw [e_t]; exact hD) dX5_ask_19 hlocks
  · refine lv_iconst (v := (-1)) hx hb dX5_ask_8 (by decide) ?_
    have e_t : askF M p v = ((-1), (M.D, M.P, M.db, M.rm, M.hard, M.kind, M.wit, M.pat, M.pret)) := by simp [askF, c_1]
    exact zk_retI hx hb hr hS (()) (by rw [e_t]) (by rw [e_t]; exact hP) (by rw [e_t]; exact hD) dX5_ask_9 hlocks
set_option maxHeartbeats 4000000 in
set_option maxRecDepth 100000 in
theorem mx_teach (l : Launch) (D : va_G) (cI : ClassId) (sz : Nat) (m0 : Nat) (m1 : Nat) (m2 : Nat) (m3 : Nat) (m4 : Nat) (m5 : Nat) (m6 : Nat) (m7 : Nat) (m8 : Nat) (m9 : Nat) (m10 : Nat) (m11 : Nat) (m12 : Nat) (m13 : Nat) (m14 : Nat) (m15 : Nat) (fm : Int32) (tm : Int32) (at1 : Nat) (rdb : Int32) (rrm : Int32) (rD : Nat) (rP : Nat) (mt : Nat) (M : YS) (p : Int32) (v : Int32) (hok : OkY M) : Met l yX5_teach wsX5_teach ({ frames := 2, cells := 0, slots := 0, locals := 42 }) (PQ D cI [.ref m0, .int p, .int v] (wMo m0 m1 m2 m3 m4 m5 m6 m7 m8 m9 m10 m11 m12 m13 m14 m15 fm tm at1 rdb rrm rD rP mt M ++ wMa cI m4 m5 m6 m7 m12 M) sz) (QI (S := Unit) D (fun r _ => r = (teachF M p v).1) (fun _ => wMo m0 m1 m2 m3 m4 m5 m6 m7 m8 m9 m10 m11 m12 m13 m14 m15 fm tm at1 rdb rrm rD rP mt ((teachF M p v).2) ++ wMa cI m4 m5 m6 m7 m12 ((teachF M p v).2)) (va_A (wMo m0 m1 m2 m3 m4 m5 m6 m7 m8 m9 m10 m11 m12 m13 m14 m15 fm tm at1 rdb rrm rD rP mt M ++ wMa cI m4 m5 m6 m7 m12 M) sz)) 0 0 (va_A (wMo m0 m1 m2 m3 m4 m5 m6 m7 m8 m9 m10 m11 m12 m13 m14 m15 fm tm at1 rdb rrm rD rP mt M ++ wMa cI m4 m5 m6 m7 m12 M) sz) := by
  refine zk_Q (QI (S := Unit) D (fun r _ => r = (teachF M p v).1) (fun _ => wMo m0 m1 m2 m3 m4 m5 m6 m7 m8 m9 m10 m11 m12 m13 m14 m15 fm tm at1 rdb rrm rD rP mt ((teachF M p v).2) ++ wMa cI m4 m5 m6 m7 m12 ((teachF M p v).2))) (cc := cX5_teach) (maxL := 4) (ret := (some .int)) (by decide) rfl (Nat.le_of_ble_eq_true rfl) ?_
  intro pX eX sX mX bX tX cX hx hb hr hlocks hml hown hmn hts hP hK A hA hD hS ls hl
  have hl : lv_has ls 4 [(0, .ref m0), (1, .int p), (2, .int v)] := hl
  have hP : va_P D vwCl [(m0, .inr (5, [.int fm, .int tm, .ref m1, .ref m2, .ref m3, .int M.db, .int M.rm, .int (nI M.D), .int (nI M.P), .ref m4, .ref m5, .ref m6, .ref m7, .int (nI at1), .int rdb, .int rrm, .int (nI rD), .int (nI rP), .ref m8, .ref m9, .ref m10, .ref m11, .ref m12, .int (nI mt), .ref m13, .ref m14, .ref m15])), (m4, .inl (cI, 5, .inl M.hard)), (m5, .inl (cI, 4, .inl M.kind)), (m6, .inl (cI, 4, .inl M.wit)), (m7, .inl (cI, 4, .inl M.pat)), (m12, .inl (cI, 4, .inl M.pret))] sX.heap := hP
  have hD : va_D A [(m0, .inr (5, [.int fm, .int tm, .ref m1, .ref m2, .ref m3, .int M.db, .int M.rm, .int (nI M.D), .int (nI M.P), .ref m4, .ref m5, .ref m6, .ref m7, .int (nI at1), .int rdb, .int rrm, .int (nI rD), .int (nI rP), .ref m8, .ref m9, .ref m10, .ref m11, .ref m12, .int (nI mt), .ref m13, .ref m14, .ref m15])), (m4, .inl (cI, 5, .inl M.hard)), (m5, .inl (cI, 4, .inl M.kind)), (m6, .inl (cI, 4, .inl M.wit)), (m7, .inl (cI, 4, .inl M.pat)), (m12, .inl (cI, 4, .inl M.pret))] := hD
  have f_25 := hts (.fieldLink RX5 25 "DunceSeeModel" "wit" "[I") (by decide +kernel)
  have inX5 : ∀ w ∈ wsX50, w ∈ wsX5_teach := fun w h => List.mem_cons_of_mem _ (List.mem_append_right _ h)
  have hD5 : M.D ≤ 5 := hok.1
  have hP4 : M.P ≤ 4 := hok.2
  refine lv_aload_n hx hb dX5_teach_0 rfl (lv_at hl 0 rfl) ?_
  refine lv_iload_n hx hb dX5_teach_1 rfl (lv_at hl 1 rfl) ?_
  refine zk_callVi (As := [.int p]) (rest := []) (bI (isP M.P p)) ⟨hx, hb, hml, hown, hts⟩ hK hP [0, 1, 2, 3, 4, 5] rfl (m_isPupil l D cI m0 m1 m2 m3 m4 m5 m6 m7 m8 m9 m10 m11 m12 m13 m14 m15 fm tm at1 rdb rrm rD rP mt M p ) (cwV 1 hts gX5_teach_X5_isPupil rfl rfl rfl hdX5_isPupil ⟨Nat.le_of_ble_eq_true rfl, Nat.le_of_ble_eq_true rfl⟩) rfl rfl rfl hl.1 rfl (Nat.le_of_ble_eq_true rfl) dX5_teach_2 ⟨Nat.le_of_ble_eq_true rfl, Nat.le_of_ble_eq_true rfl⟩ ?_
  refine zk_ifneB (tgt := 10) hx hb dX5_teach_5 (by decide) (fun c_1 => ?_) (fun c_1 => ?_)
  · obtain ⟨j, hj, e_j, g_j⟩ := isP_of (by omega) c_1
    rw [e_j] at hl
    refine lv_iload_n hx hb dX5_teach_10 rfl (lv_at hl 2 rfl) ?_
    refine zk_callSi (As := [.int v]) (rest := []) (bI (isP 10 v)) ⟨hx, hb, hml, hown, hts⟩ hK hP [] rfl (m_isDigit l D cI v ) (va_cwS 1 hts gX5_teach_X5_isDigit rfl rfl rfl hdX5_isDigit ⟨Nat.le_of_ble_eq_true rfl, Nat.le_of_ble_eq_true rfl⟩) rfl hl.1 rfl (Nat.le_of_ble_eq_true rfl) dX5_teach_11 ⟨Nat.le_of_ble_eq_true rfl, Nat.le_of_ble_eq_true rfl⟩ ?_
    refine zk_ifneB (tgt := 20) hx hb dX5_teach_14 (by decide) (fun c_2 => ?_) (fun c_2 => ?_)
    · refine lv_aload_n hx hb dX5_teach_20 rfl (lv_at hl 0 rfl) ?_
      refine va_get (D := D) (ci := 5) (v := .ref m6) (C := RX5) (T := TX5) (N := 27) hx hb hts inX5 hown hK.1 hP 0 rfl rfl 11 (by decide) f_25 (fun _ h9 => h9) rfl dX5_teach_21 ?_
      refine lv_iload_n hx hb dX5_teach_24 rfl (lv_at hl 1 rfl) ?_
      refine zk_iald hx hb hK hP 3 rfl (by omega) (by decide) dX5_teach_25 ?_
      refine lv_istore_n (lv' := [(3, .int (M.wit j)), (0, .ref m0), (1, .int (nI j)), (2, .int v)]) hx hb dX5_teach_26 rfl hl (by decide) rfl (fun ls hl => ?_)
      refine lv_aload_n hx hb dX5_teach_27 rfl (lv_at hl 1 rfl) ?_
      refine va_get (D := D) (ci := 5) (v := .ref m6) (C := RX5) (T := TX5) (N := 27) hx hb hts inX5 hown hK.1 hP 0 rfl rfl 11 (by decide) f_25 (fun _ h9 => h9) rfl dX5_teach_28 ?_
      refine lv_iload_n hx hb dX5_teach_31 rfl (lv_at hl 2 rfl) ?_
      refine lv_iload_n hx hb dX5_teach_32 rfl (lv_at hl 3 rfl) ?_
      refine zk_iast (x := v) hx hb hK hP hD hS 3 rfl (by omega) (by decide) dX5_teach_33 (fun H locs hP hD hS => ?_)
      have hP : va_P D vwCl [(m0, .inr (5, [.int fm, .int tm, .ref m1, .ref m2, .ref m3, .int M.db, .int M.rm, .int (nI M.D), .int (nI M.P), .ref m4, .ref m5, .ref m6, .ref m7, .int (nI at1), .int rdb, .int rrm, .int (nI rD), .int (nI rP), .ref m8, .ref m9, .ref m10, .ref m11, .ref m12, .int (nI mt), .ref m13, .ref m14, .ref m15])), (m4, .inl (cI, 5, .inl M.hard)), (m5, .inl (cI, 4, .inl M.kind)), (m6, .inl (cI, 4, .inl (upd M.wit j v))), (m7, .inl (cI, 4, .inl M.pat)), (m12, .inl (cI, 4, .inl M.pret))] H := hP
      have hD : va_D A [(m0, .inr (5, [.int fm, .int tm, .ref m1, .ref m2, .ref m3, .int M.db, .int M.rm, .int (nI M.D), .int (nI M.P), .ref m4, .ref m5, .ref m6, .ref m7, .int (nI at1), .int rdb, .int rrm, .int (nI rD), .int (nI rP), .ref m8, .ref m9, .ref m10, .ref m11, .ref m12, .int (nI mt), .ref m13, .ref m14, .ref m15])), (m4, .inl (cI, 5, .inl M.hard)), (m5, .inl (cI, 4, .inl M.kind)), (m6, .inl (cI, 4, .inl (upd M.wit j v))), (m7, .inl (cI, 4, .inl M.pat)), (m12, .inl (cI, 4, .inl M.pret))] := hD
      refine lv_iload_n hx hb dX5_teach_34 rfl (lv_at hl 0 rfl) ?_
      have e_t : teachF M p v = (M.wit j, (M.D, M.P, M.db, M.rm, M.hard, M.kind, upd M.wit j v, M.pat, M.pret)) := by simp [teachF, c_1, g_j, c_2]
      exact zk_retI hx hb hr hS (()) (by rw [e_t]) (by rw [e_t]; exact hP) (by rw [e_t]; exact hD) dX5_teach_35 hlocks
    · refine lv_bipush (v := (-2)) hx hb dX5_teach_17 (by decide) ?_
      have e_t : teachF M p v = ((-2), (M.D, M.P, M.db, M.rm, M.hard, M.kind, M.wit, M.pat, M.pret)) := by simp [teachF, c_1, g_j, c_2]
      exact zk_retI hx hb hr hS (()) (by rw [e_t]) (by rw [e_t]; exact hP) (by rw [e_t]; exact hD) dX5_teach_19 hlocks
  · refine lv_iconst (v := (-1)) hx hb dX5_teach_8 (by decide) ?_
    have e_t : teachF M p v = ((-1), (M.D, M.P, M.db, M.rm, M.hard, M.kind, M.wit, M.pat, M.pret)) := by simp [teachF, c_1]
    exact zk_retI hx hb hr hS (()) (by rw [e_t]) (by rw [e_t]; exact hP) (by rw [e_t]; exact hD) dX5_teach_9 hlocks
set_option maxHeartbeats 4000000 in
set_option maxRecDepth 100000 in
theorem mx_doubt (l : Launch) (D : va_G) (cI : ClassId) (sz : Nat) (m0 : Nat) (m1 : Nat) (m2 : Nat) (m3 : Nat) (m4 : Nat) (m5 : Nat) (m6 : Nat) (m7 : Nat) (m8 : Nat) (m9 : Nat) (m10 : Nat) (m11 : Nat) (m12 : Nat) (m13 : Nat) (m14 : Nat) (m15 : Nat) (fm : Int32) (tm : Int32) (at1 : Nat) (rdb : Int32) (rrm : Int32) (rD : Nat) (rP : Nat) (mt : Nat) (M : YS) (v : Int32) (hok : OkY M) (hDP : M.D = 0 ↔ M.P = 0) : Met l yX5_doubt wsX5_doubt ({ frames := 2, cells := 0, slots := 0, locals := 42 }) (PQ D cI [.ref m0, .int v] (wMo m0 m1 m2 m3 m4 m5 m6 m7 m8 m9 m10 m11 m12 m13 m14 m15 fm tm at1 rdb rrm rD rP mt M ++ wMa cI m4 m5 m6 m7 m12 M) sz) (QI (S := Unit) D (fun r _ => r = (doubtF M v).1) (fun _ => wMo m0 m1 m2 m3 m4 m5 m6 m7 m8 m9 m10 m11 m12 m13 m14 m15 fm tm at1 rdb rrm rD rP mt ((doubtF M v).2) ++ wMa cI m4 m5 m6 m7 m12 ((doubtF M v).2)) (va_A (wMo m0 m1 m2 m3 m4 m5 m6 m7 m8 m9 m10 m11 m12 m13 m14 m15 fm tm at1 rdb rrm rD rP mt M ++ wMa cI m4 m5 m6 m7 m12 M) sz)) 0 0 (va_A (wMo m0 m1 m2 m3 m4 m5 m6 m7 m8 m9 m10 m11 m12 m13 m14 m15 fm tm at1 rdb rrm rD rP mt M ++ wMa cI m4 m5 m6 m7 m12 M) sz) := by
  refine zk_Q (QI (S := Unit) D (fun r _ => r = (doubtF M v).1) (fun _ => wMo m0 m1 m2 m3 m4 m5 m6 m7 m8 m9 m10 m11 m12 m13 m14 m15 fm tm at1 rdb rrm rD rP mt ((doubtF M v).2) ++ wMa cI m4 m5 m6 m7 m12 ((doubtF M v).2))) (cc := cX5_doubt) (maxL := 3) (ret := (some .int)) (by decide) rfl (Nat.le_of_ble_eq_true rfl) ?_
  intro pX eX sX mX bX tX cX hx hb hr hlocks hml hown hmn hts hP hK A hA hD hS ls hl
  have hl : lv_has ls 3 [(0, .ref m0), (1, .int v)] := hl
  have hP : va_P D vwCl [(m0, .inr (5, [.int fm, .int tm, .ref m1, .ref m2, .ref m3, .int M.db, .int M.rm, .int (nI M.D), .int (nI M.P), .ref m4, .ref m5, .ref m6, .ref m7, .int (nI at1), .int rdb, .int rrm, .int (nI rD), .int (nI rP), .ref m8, .ref m9, .ref m10, .ref m11, .ref m12, .int (nI mt), .ref m13, .ref m14, .ref m15])), (m4, .inl (cI, 5, .inl M.hard)), (m5, .inl (cI, 4, .inl M.kind)), (m6, .inl (cI, 4, .inl M.wit)), (m7, .inl (cI, 4, .inl M.pat)), (m12, .inl (cI, 4, .inl M.pret))] sX.heap := hP
  have hD : va_D A [(m0, .inr (5, [.int fm, .int tm, .ref m1, .ref m2, .ref m3, .int M.db, .int M.rm, .int (nI M.D), .int (nI M.P), .ref m4, .ref m5, .ref m6, .ref m7, .int (nI at1), .int rdb, .int rrm, .int (nI rD), .int (nI rP), .ref m8, .ref m9, .ref m10, .ref m11, .ref m12, .int (nI mt), .ref m13, .ref m14, .ref m15])), (m4, .inl (cI, 5, .inl M.hard)), (m5, .inl (cI, 4, .inl M.kind)), (m6, .inl (cI, 4, .inl M.wit)), (m7, .inl (cI, 4, .inl M.pat)), (m12, .inl (cI, 4, .inl M.pret))] := hD
  have f_68 := hts (.fieldLink RX5 68 "DunceSeeModel" "days" "I") (by decide +kernel)
  have f_98 := hts (.fieldLink RX5 98 "DunceSeeModel" "doubtNow" "I") (by decide +kernel)
  have inX5 : ∀ w ∈ wsX50, w ∈ wsX5_doubt := fun w h => List.mem_cons_of_mem _ (List.mem_append_right _ h)
  have hD5 : M.D ≤ 5 := hok.1
  have hP4 : M.P ≤ 4 := hok.2
  refine lv_iload_n hx hb dX5_doubt_0 rfl (lv_at hl 1 rfl) ?_
  refine zk_callSi (As := [.int v]) (rest := []) (bI (isP 10 v)) ⟨hx, hb, hml, hown, hts⟩ hK hP [] rfl (m_isDigit l D cI v ) (va_cwS 1 hts gX5_doubt_X5_isDigit rfl rfl rfl hdX5_isDigit ⟨Nat.le_of_ble_eq_true rfl, Nat.le_of_ble_eq_true rfl⟩) rfl hl.1 rfl (Nat.le_of_ble_eq_true rfl) dX5_doubt_1 ⟨Nat.le_of_ble_eq_true rfl, Nat.le_of_ble_eq_true rfl⟩ ?_
  refine zk_ifneB (tgt := 10) hx hb dX5_doubt_4 (by decide) (fun c_1 => ?_) (fun c_1 => ?_)
  · refine lv_aload_n hx hb dX5_doubt_10 rfl (lv_at hl 0 rfl) ?_
    refine va_get (D := D) (ci := 5) (v := .int (nI M.D)) (C := RX5) (T := TX5) (N := 27) hx hb hts inX5 hown hK.1 hP 0 rfl rfl 7 (by decide) f_68 (fun _ h9 => h9) rfl dX5_doubt_11 ?_
    refine lv_if_ne (tgt := 20) hx hb dX5_doubt_14 (by decide) (fun c_2 => ?_) (fun c_2 => ?_)
    · have c_s : 0 < M.P := by have := ne0N c_2; omega
      refine lv_aload_n hx hb dX5_doubt_20 rfl (lv_at hl 0 rfl) ?_
      refine va_get (D := D) (ci := 5) (v := .int M.db) (C := RX5) (T := TX5) (N := 27) hx hb hts inX5 hown hK.1 hP 0 rfl rfl 5 (by decide) f_98 (fun _ h9 => h9) rfl dX5_doubt_21 ?_
      refine lv_istore_n (lv' := [(2, .int M.db), (0, .ref m0), (1, .int v)]) hx hb dX5_doubt_24 rfl hl (by decide) rfl (fun ls hl => ?_)
      refine lv_aload_n hx hb dX5_doubt_25 rfl (lv_at hl 1 rfl) ?_
      refine lv_iload_n hx hb dX5_doubt_26 rfl (lv_at hl 2 rfl) ?_
      refine va_put (D := D) (ci := 5) (v := .int v) (ty := .int) (C := RX5) (T := TX5) (N := 27) hx hb hts inX5 tyX5 tyX5_ok nmX5 hown hK.1 hP hD hS 0 rfl rfl 5 (by decide) f_98 (fun _ h9 => h9) rfl (by decide +kernel) rfl rfl (Nat.le_of_ble_eq_true rfl) dX5_doubt_27 (fun H locs hP hD hS => ?_)
      have hP : va_P D vwCl [(m0, .inr (5, [.int fm, .int tm, .ref m1, .ref m2, .ref m3, .int v, .int M.rm, .int (nI M.D), .int (nI M.P), .ref m4, .ref m5, .ref m6, .ref m7, .int (nI at1), .int rdb, .int rrm, .int (nI rD), .int (nI rP), .ref m8, .ref m9, .ref m10, .ref m11, .ref m12, .int (nI mt), .ref m13, .ref m14, .ref m15])), (m4, .inl (cI, 5, .inl M.hard)), (m5, .inl (cI, 4, .inl M.kind)), (m6, .inl (cI, 4, .inl M.wit)), (m7, .inl (cI, 4, .inl M.pat)), (m12, .inl (cI, 4, .inl M.pret))] H := hP
      have hD : va_D A [(m0, .inr (5, [.int fm, .int tm, .ref m1, .ref m2, .ref m3, .int v, .int M.rm, .int (nI M.D), .int (nI M.P), .ref m4, .ref m5, .ref m6, .ref m7, .int (nI at1), .int rdb, .int rrm, .int (nI rD), .int (nI rP), .ref m8, .ref m9, .ref m10, .ref m11, .ref m12, .int (nI mt), .ref m13, .ref m14, .ref m15])), (m4, .inl (cI, 5, .inl M.hard)), (m5, .inl (cI, 4, .inl M.kind)), (m6, .inl (cI, 4, .inl M.wit)), (m7, .inl (cI, 4, .inl M.pat)), (m12, .inl (cI, 4, .inl M.pret))] := hD
      refine lv_iload_n hx hb dX5_doubt_30 rfl (lv_at hl 0 rfl) ?_
      have e_t : doubtF M v = (M.db, (M.D, M.P, v, M.rm, M.hard, M.kind, M.wit, M.pat, M.pret)) := by simp [doubtF, c_1, c_s]
      exact zk_retI hx hb hr hS (()) (by rw [e_t]) (by rw [e_t]; exact hP) (by rw [e_t]; exact hD) dX5_doubt_31 hlocks
    · have c_s : ¬ 0 < M.P := by have := hDP.mp (eq0N (by omega) c_2); omega
      refine lv_bipush (v := (-3)) hx hb dX5_doubt_17 (by decide) ?_
      have e_t : doubtF M v = ((-3), (M.D, M.P, M.db, M.rm, M.hard, M.kind, M.wit, M.pat, M.pret)) := by simp [doubtF, c_1, c_s]
      exact zk_retI hx hb hr hS (()) (by rw [e_t]) (by rw [e_t]; exact hP) (by rw [e_t]; exact hD) dX5_doubt_19 hlocks
  · refine lv_bipush (v := (-2)) hx hb dX5_doubt_7 (by decide) ?_
    have e_t : doubtF M v = ((-2), (M.D, M.P, M.db, M.rm, M.hard, M.kind, M.wit, M.pat, M.pret)) := by simp [doubtF, c_1]
    exact zk_retI hx hb hr hS (()) (by rw [e_t]) (by rw [e_t]; exact hP) (by rw [e_t]; exact hD) dX5_doubt_9 hlocks
set_option maxHeartbeats 4000000 in
set_option maxRecDepth 100000 in
theorem mx_build (l : Launch) (D : va_G) (cI : ClassId) (sz : Nat) (m0 : Nat) (m1 : Nat) (m2 : Nat) (m3 : Nat) (m4 : Nat) (m5 : Nat) (m6 : Nat) (m7 : Nat) (m8 : Nat) (m9 : Nat) (m10 : Nat) (m11 : Nat) (m12 : Nat) (m13 : Nat) (m14 : Nat) (m15 : Nat) (fm : Int32) (tm : Int32) (at1 : Nat) (rdb : Int32) (rrm : Int32) (rD : Nat) (rP : Nat) (mt : Nat) (M : YS) (v : Int32) (hok : OkY M) (hDP : M.D = 0 ↔ M.P = 0) : Met l yX5_build wsX5_build ({ frames := 1, cells := 0, slots := 0, locals := 22 }) (PQ D cI [.ref m0, .int v] (wMo m0 m1 m2 m3 m4 m5 m6 m7 m8 m9 m10 m11 m12 m13 m14 m15 fm tm at1 rdb rrm rD rP mt M ++ wMa cI m4 m5 m6 m7 m12 M) sz) (QI (S := Unit) D (fun r _ => r = (buildF M v).1) (fun _ => wMo m0 m1 m2 m3 m4 m5 m6 m7 m8 m9 m10 m11 m12 m13 m14 m15 fm tm at1 rdb rrm rD rP mt ((buildF M v).2) ++ wMa cI m4 m5 m6 m7 m12 ((buildF M v).2)) (va_A (wMo m0 m1 m2 m3 m4 m5 m6 m7 m8 m9 m10 m11 m12 m13 m14 m15 fm tm at1 rdb rrm rD rP mt M ++ wMa cI m4 m5 m6 m7 m12 M) sz)) 0 0 (va_A (wMo m0 m1 m2 m3 m4 m5 m6 m7 m8 m9 m10 m11 m12 m13 m14 m15 fm tm at1 rdb rrm rD rP mt M ++ wMa cI m4 m5 m6 m7 m12 M) sz) := by
  refine zk_Q (QI (S := Unit) D (fun r _ => r = (buildF M v).1) (fun _ => wMo m0 m1 m2 m3 m4 m5 m6 m7 m8 m9 m10 m11 m12 m13 m14 m15 fm tm at1 rdb rrm rD rP mt ((buildF M v).2) ++ wMa cI m4 m5 m6 m7 m12 ((buildF M v).2))) (cc := cX5_build) (maxL := 3) (ret := (some .int)) (by decide) rfl (Nat.le_of_ble_eq_true rfl) ?_
  intro pX eX sX mX bX tX cX hx hb hr hlocks hml hown hmn hts hP hK A hA hD hS ls hl
  have hl : lv_has ls 3 [(0, .ref m0), (1, .int v)] := hl
  have hP : va_P D vwCl [(m0, .inr (5, [.int fm, .int tm, .ref m1, .ref m2, .ref m3, .int M.db, .int M.rm, .int (nI M.D), .int (nI M.P), .ref m4, .ref m5, .ref m6, .ref m7, .int (nI at1), .int rdb, .int rrm, .int (nI rD), .int (nI rP), .ref m8, .ref m9, .ref m10, .ref m11, .ref m12, .int (nI mt), .ref m13, .ref m14, .ref m15])), (m4, .inl (cI, 5, .inl M.hard)), (m5, .inl (cI, 4, .inl M.kind)), (m6, .inl (cI, 4, .inl M.wit)), (m7, .inl (cI, 4, .inl M.pat)), (m12, .inl (cI, 4, .inl M.pret))] sX.heap := hP
  have hD : va_D A [(m0, .inr (5, [.int fm, .int tm, .ref m1, .ref m2, .ref m3, .int M.db, .int M.rm, .int (nI M.D), .int (nI M.P), .ref m4, .ref m5, .ref m6, .ref m7, .int (nI at1), .int rdb, .int rrm, .int (nI rD), .int (nI rP), .ref m8, .ref m9, .ref m10, .ref m11, .ref m12, .int (nI mt), .ref m13, .ref m14, .ref m15])), (m4, .inl (cI, 5, .inl M.hard)), (m5, .inl (cI, 4, .inl M.kind)), (m6, .inl (cI, 4, .inl M.wit)), (m7, .inl (cI, 4, .inl M.pat)), (m12, .inl (cI, 4, .inl M.pret))] := hD
  have f_68 := hts (.fieldLink RX5 68 "DunceSeeModel" "days" "I") (by decide +kernel)
  have f_104 := hts (.fieldLink RX5 104 "DunceSeeModel" "room" "I") (by decide +kernel)
  have inX5 : ∀ w ∈ wsX50, w ∈ wsX5_build := fun w h => List.mem_cons_of_mem _ (List.mem_append_right _ h)
  have hD5 : M.D ≤ 5 := hok.1
  have hP4 : M.P ≤ 4 := hok.2
  refine lv_iload_n hx hb dX5_build_0 rfl (lv_at hl 1 rfl) ?_
  refine lv_iconst (v := nI 1) hx hb dX5_build_1 (by decide) ?_
  refine lv_iconst (v := nI 4) hx hb dX5_build_2 (by decide) ?_
  refine zk_callSi (As := [.int v, .int (nI 1), .int (nI 4)]) (rest := []) (bI (wiB v (nI 1) (nI 4))) ⟨hx, hb, hml, hown, hts⟩ hK hP [] rfl (m_within l D cI v (nI 1) (nI 4) ) (va_cwS 3 hts gX5_build_X5_within rfl rfl rfl hdX5_within ⟨Nat.le_of_ble_eq_true rfl, Nat.le_of_ble_eq_true rfl⟩) rfl hl.1 rfl (Nat.le_of_ble_eq_true rfl) dX5_build_3 ⟨Nat.le_of_ble_eq_true rfl, Nat.le_of_ble_eq_true rfl⟩ ?_
  refine zk_ifneB (tgt := 12) hx hb dX5_build_6 (by decide) (fun c_1 => ?_) (fun c_1 => ?_)
  · have c_w : (decide (nI 1 ≤ v) && decide (v ≤ nI 4)) = true := c_1
    refine lv_aload_n hx hb dX5_build_12 rfl (lv_at hl 0 rfl) ?_
    refine va_get (D := D) (ci := 5) (v := .int (nI M.D)) (C := RX5) (T := TX5) (N := 27) hx hb hts inX5 hown hK.1 hP 0 rfl rfl 7 (by decide) f_68 (fun _ h9 => h9) rfl dX5_build_13 ?_
    refine lv_if_ne (tgt := 22) hx hb dX5_build_16 (by decide) (fun c_2 => ?_) (fun c_2 => ?_)
    · have c_s : 0 < M.P := by have := ne0N c_2; omega
      refine lv_aload_n hx hb dX5_build_22 rfl (lv_at hl 0 rfl) ?_
      refine va_get (D := D) (ci := 5) (v := .int M.rm) (C := RX5) (T := TX5) (N := 27) hx hb hts inX5 hown hK.1 hP 0 rfl rfl 6 (by decide) f_104 (fun _ h9 => h9) rfl dX5_build_23 ?_
      refine lv_istore_n (lv' := [(2, .int M.rm), (0, .ref m0), (1, .int v)]) hx hb dX5_build_26 rfl hl (by decide) rfl (fun ls hl => ?_)
      refine lv_aload_n hx hb dX5_build_27 rfl (lv_at hl 1 rfl) ?_
      refine lv_iload_n hx hb dX5_build_28 rfl (lv_at hl 2 rfl) ?_
      refine va_put (D := D) (ci := 5) (v := .int v) (ty := .int) (C := RX5) (T := TX5) (N := 27) hx hb hts inX5 tyX5 tyX5_ok nmX5 hown hK.1 hP hD hS 0 rfl rfl 6 (by decide) f_104 (fun _ h9 => h9) rfl (by decide +kernel) rfl rfl (Nat.le_of_ble_eq_true rfl) dX5_build_29 (fun H locs hP hD hS => ?_)
      have hP : va_P D vwCl [(m0, .inr (5, [.int fm, .int tm, .ref m1, .ref m2, .ref m3, .int M.db, .int v, .int (nI M.D), .int (nI M.P), .ref m4, .ref m5, .ref m6, .ref m7, .int (nI at1), .int rdb, .int rrm, .int (nI rD), .int (nI rP), .ref m8, .ref m9, .ref m10, .ref m11, .ref m12, .int (nI mt), .ref m13, .ref m14, .ref m15])), (m4, .inl (cI, 5, .inl M.hard)), (m5, .inl (cI, 4, .inl M.kind)), (m6, .inl (cI, 4, .inl M.wit)), (m7, .inl (cI, 4, .inl M.pat)), (m12, .inl (cI, 4, .inl M.pret))] H := hP
      have hD : va_D A [(m0, .inr (5, [.int fm, .int tm, .ref m1, .ref m2, .ref m3, .int M.db, .int v, .int (nI M.D), .int (nI M.P), .ref m4, .ref m5, .ref m6, .ref m7, .int (nI at1), .int rdb, .int rrm, .int (nI rD), .int (nI rP), .ref m8, .ref m9, .ref m10, .ref m11, .ref m12, .int (nI mt), .ref m13, .ref m14, .ref m15])), (m4, .inl (cI, 5, .inl M.hard)), (m5, .inl (cI, 4, .inl M.kind)), (m6, .inl (cI, 4, .inl M.wit)), (m7, .inl (cI, 4, .inl M.pat)), (m12, .inl (cI, 4, .inl M.pret))] := hD
      refine lv_iload_n hx hb dX5_build_32 rfl (lv_at hl 0 rfl) ?_
      have e_t : buildF M v = (M.rm, (M.D, M.P, M.db, v, M.hard, M.kind, M.wit, M.pat, M.pret)) := by simp [buildF, c_w, c_s]
      exact zk_retI hx hb hr hS (()) (by rw [e_t]) (by rw [e_t]; exact hP) (by rw [e_t]; exact hD) dX5_build_33 hlocks
    · have c_s : ¬ 0 < M.P := by have := hDP.mp (eq0N (by omega) c_2); omega
      refine lv_bipush (v := (-3)) hx hb dX5_build_19 (by decide) ?_
      have e_t : buildF M v = ((-3), (M.D, M.P, M.db, M.rm, M.hard, M.kind, M.wit, M.pat, M.pret)) := by simp [buildF, c_w, c_s]
      exact zk_retI hx hb hr hS (()) (by rw [e_t]) (by rw [e_t]; exact hP) (by rw [e_t]; exact hD) dX5_build_21 hlocks
  · have c_w : (decide (nI 1 ≤ v) && decide (v ≤ nI 4)) = false := c_1
    refine lv_bipush (v := (-2)) hx hb dX5_build_9 (by decide) ?_
    have e_t : buildF M v = ((-2), (M.D, M.P, M.db, M.rm, M.hard, M.kind, M.wit, M.pat, M.pret)) := by simp [buildF, c_w]
    exact zk_retI hx hb hr hS (()) (by rw [e_t]) (by rw [e_t]; exact hP) (by rw [e_t]; exact hD) dX5_build_11 hlocks
set_option maxHeartbeats 4000000 in
set_option maxRecDepth 100000 in
theorem mx_stand (l : Launch) (D : va_G) (cI : ClassId) (sz : Nat) (m0 : Nat) (m1 : Nat) (m2 : Nat) (m3 : Nat) (m4 : Nat) (m5 : Nat) (m6 : Nat) (m7 : Nat) (m8 : Nat) (m9 : Nat) (m10 : Nat) (m11 : Nat) (m12 : Nat) (m13 : Nat) (m14 : Nat) (m15 : Nat) (fm : Int32) (tm : Int32) (at1 : Nat) (rdb : Int32) (rrm : Int32) (rD : Nat) (rP : Nat) (mt : Nat) (M : YS) (p : Int32) (hg : GdY M) : Met l yX5_stand wsX5_stand ({ frames := 4, cells := 0, slots := 0, locals := 96 }) (PQ D cI [.ref m0, .int p] (wMo m0 m1 m2 m3 m4 m5 m6 m7 m8 m9 m10 m11 m12 m13 m14 m15 fm tm at1 rdb rrm rD rP mt M ++ wMa cI m4 m5 m6 m7 m12 M) sz) (QI (S := Nat → Int32) D (fun r _ => r = standF M.np p) (fun u => wMo m0 m1 m2 m3 m4 m5 m6 m7 m8 m9 m10 m11 m12 m13 m14 m15 fm tm at1 rdb rrm rD rP mt (M.sPret u) ++ wMa cI m4 m5 m6 m7 m12 (M.sPret u)) (va_A (wMo m0 m1 m2 m3 m4 m5 m6 m7 m8 m9 m10 m11 m12 m13 m14 m15 fm tm at1 rdb rrm rD rP mt M ++ wMa cI m4 m5 m6 m7 m12 M) sz)) 0 0 (va_A (wMo m0 m1 m2 m3 m4 m5 m6 m7 m8 m9 m10 m11 m12 m13 m14 m15 fm tm at1 rdb rrm rD rP mt M ++ wMa cI m4 m5 m6 m7 m12 M) sz) := by
  refine zk_Q (QI (S := Nat → Int32) D (fun r _ => r = standF M.np p) (fun u => wMo m0 m1 m2 m3 m4 m5 m6 m7 m8 m9 m10 m11 m12 m13 m14 m15 fm tm at1 rdb rrm rD rP mt (M.sPret u) ++ wMa cI m4 m5 m6 m7 m12 (M.sPret u))) (cc := cX5_stand) (maxL := 2) (ret := (some .int)) (by decide) rfl (Nat.le_of_ble_eq_true rfl) ?_
  intro pX eX sX mX bX tX cX hx hb hr hlocks hml hown hmn hts hP hK A hA hD hS ls hl
  have hl : lv_has ls 2 [(0, .ref m0), (1, .int p)] := hl
  have hP : va_P D vwCl [(m0, .inr (5, [.int fm, .int tm, .ref m1, .ref m2, .ref m3, .int M.db, .int M.rm, .int (nI M.D), .int (nI M.P), .ref m4, .ref m5, .ref m6, .ref m7, .int (nI at1), .int rdb, .int rrm, .int (nI rD), .int (nI rP), .ref m8, .ref m9, .ref m10, .ref m11, .ref m12, .int (nI mt), .ref m13, .ref m14, .ref m15])), (m4, .inl (cI, 5, .inl M.hard)), (m5, .inl (cI, 4, .inl M.kind)), (m6, .inl (cI, 4, .inl M.wit)), (m7, .inl (cI, 4, .inl M.pat)), (m12, .inl (cI, 4, .inl M.pret))] sX.heap := hP
  have hD : va_D A [(m0, .inr (5, [.int fm, .int tm, .ref m1, .ref m2, .ref m3, .int M.db, .int M.rm, .int (nI M.D), .int (nI M.P), .ref m4, .ref m5, .ref m6, .ref m7, .int (nI at1), .int rdb, .int rrm, .int (nI rD), .int (nI rP), .ref m8, .ref m9, .ref m10, .ref m11, .ref m12, .int (nI mt), .ref m13, .ref m14, .ref m15])), (m4, .inl (cI, 5, .inl M.hard)), (m5, .inl (cI, 4, .inl M.kind)), (m6, .inl (cI, 4, .inl M.wit)), (m7, .inl (cI, 4, .inl M.pat)), (m12, .inl (cI, 4, .inl M.pret))] := hD
  have inX5 : ∀ w ∈ wsX50, w ∈ wsX5_stand := fun w h => List.mem_cons_of_mem _ (List.mem_append_right _ h)
  have hD5 : M.D ≤ 5 := hg.1.1
  have hP4 : M.P ≤ 4 := hg.1.2
  refine lv_aload_n hx hb dX5_stand_0 rfl (lv_at hl 0 rfl) ?_
  refine lv_iload_n hx hb dX5_stand_1 rfl (lv_at hl 1 rfl) ?_
  refine zk_callVi (As := [.int p]) (rest := []) (bI (isP M.D p)) ⟨hx, hb, hml, hown, hts⟩ hK hP [0, 1, 2, 3, 4, 5] rfl (m_isDay l D cI m0 m1 m2 m3 m4 m5 m6 m7 m8 m9 m10 m11 m12 m13 m14 m15 fm tm at1 rdb rrm rD rP mt M p ) (cwV 1 hts gX5_stand_X5_isDay rfl rfl rfl hdX5_isDay ⟨Nat.le_of_ble_eq_true rfl, Nat.le_of_ble_eq_true rfl⟩) rfl rfl rfl hl.1 rfl (Nat.le_of_ble_eq_true rfl) dX5_stand_2 ⟨Nat.le_of_ble_eq_true rfl, Nat.le_of_ble_eq_true rfl⟩ ?_
  refine zk_ifneB (tgt := 10) hx hb dX5_stand_5 (by decide) (fun c_1 => ?_) (fun c_1 => ?_)
  · obtain ⟨j, hj, e_j, g_j⟩ := isP_of (by omega) c_1
    rw [e_j] at hl
    refine lv_aload_n hx hb dX5_stand_10 rfl (lv_at hl 0 rfl) ?_
    refine zk_effVv (As := []) (rest := []) (S := Unit) (fun _ => True) (fun _ => wMo m0 m1 m2 m3 m4 m5 m6 m7 m8 m9 m10 m11 m12 m13 m14 m15 fm tm at1 rdb rrm rD rP mt M.np ++ wMa cI m4 m5 m6 m7 m12 M.np) ⟨hx, hb, hml, hown, hts⟩ hK hP hD hS hA [0, 1, 2, 3, 4, 5] [] (wc := [(m0, .inr (5, [.int fm, .int tm, .ref m1, .ref m2, .ref m3, .int M.db, .int M.rm, .int (nI M.D), .int (nI M.P), .ref m4, .ref m5, .ref m6, .ref m7, .int (nI at1), .int rdb, .int rrm, .int (nI rD), .int (nI rP), .ref m8, .ref m9, .ref m10, .ref m11, .ref m12, .int (nI mt), .ref m13, .ref m14, .ref m15])), (m4, .inl (cI, 5, .inl M.hard)), (m5, .inl (cI, 4, .inl M.kind)), (m6, .inl (cI, 4, .inl M.wit)), (m7, .inl (cI, 4, .inl M.pat)), (m12, .inl (cI, 4, .inl M.pret))]) (wr := []) rfl rfl (by decide) (by decide) (by decide) [0, 1, 2, 3, 4, 5] (fun (_ : Unit) => [(m0, .inr (5, [.int fm, .int tm, .ref m1, .ref m2, .ref m3, .int M.np.db, .int M.np.rm, .int (nI M.np.D), .int (nI M.np.P), .ref m4, .ref m5, .ref m6, .ref m7, .int (nI at1), .int rdb, .int rrm, .int (nI rD), .int (nI rP), .ref m8, .ref m9, .ref m10, .ref m11, .ref m12, .int (nI mt), .ref m13, .ref m14, .ref m15])), (m4, .inl (cI, 5, .inl M.np.hard)), (m5, .inl (cI, 4, .inl M.np.kind)), (m6, .inl (cI, 4, .inl M.np.wit)), (m7, .inl (cI, 4, .inl M.np.pat)), (m12, .inl (cI, 4, .inl M.np.pret))]) (fun _ => rfl) (by decide) (m_nobody l D cI sX.heap.size m0 m1 m2 m3 m4 m5 m6 m7 m8 m9 m10 m11 m12 m13 m14 m15 fm tm at1 rdb rrm rD rP mt M ) (cwV 0 hts gX5_stand_X5_nobody rfl rfl rfl hdX5_nobody ⟨Nat.le_of_ble_eq_true rfl, Nat.le_of_ble_eq_true rfl⟩) rfl rfl rfl hl.1 rfl (Nat.le_of_ble_eq_true rfl) dX5_stand_11 ⟨Nat.le_of_ble_eq_true rfl, Nat.le_of_ble_eq_true rfl⟩ (fun _ H locs hw_3 hP hD hS => ?_)
    refine lv_aload_n hx hb dX5_stand_14 rfl (lv_at hl 0 rfl) ?_
    refine lv_iload_n hx hb dX5_stand_15 rfl (lv_at hl 1 rfl) ?_
    refine zk_callVi (As := [.int (nI j)]) (rest := []) (nI (msk M.np.P (std M.np j))) ⟨hx, hb, hml, hown, hts⟩ hK hP [0, 1, 2, 3, 4, 5] rfl (m_standsOn l D cI m0 m1 m2 m3 m4 m5 m6 m7 m8 m9 m10 m11 m12 m13 m14 m15 fm tm at1 rdb rrm rD rP mt M.np j hg (by omega)) (cwV 1 hts gX5_stand_X5_standsOn rfl rfl rfl hdX5_standsOn ⟨Nat.le_of_ble_eq_true rfl, Nat.le_of_ble_eq_true rfl⟩) rfl rfl rfl hl.1 rfl (Nat.le_of_ble_eq_true rfl) dX5_stand_16 ⟨Nat.le_of_ble_eq_true rfl, Nat.le_of_ble_eq_true rfl⟩ ?_
    exact zk_retI hx hb hr hS (fun _ => nI 0) (by unfold standF; rw [c_1, g_j]; rfl) hP hD dX5_stand_19 hlocks
  · refine lv_iconst (v := (-1)) hx hb dX5_stand_8 (by decide) ?_
    exact zk_retI hx hb hr hS (M.pret) (by unfold standF; rw [c_1]; rfl) hP hD dX5_stand_9 hlocks
set_option maxHeartbeats 4000000 in
set_option maxRecDepth 100000 in
theorem mx_bishop (l : Launch) (D : va_G) (cI : ClassId) (sz : Nat) (m0 : Nat) (m1 : Nat) (m2 : Nat) (m3 : Nat) (m4 : Nat) (m5 : Nat) (m6 : Nat) (m7 : Nat) (m8 : Nat) (m9 : Nat) (m10 : Nat) (m11 : Nat) (m12 : Nat) (m13 : Nat) (m14 : Nat) (m15 : Nat) (fm : Int32) (tm : Int32) (at1 : Nat) (rdb : Int32) (rrm : Int32) (rD : Nat) (rP : Nat) (mt : Nat) (M : YS) (hg : GdY M) (hDP : M.D = 0 ↔ M.P = 0) : Met l yX5_bishop wsX5_bishop ({ frames := 6, cells := 0, slots := 0, locals := 144 }) (PQ D cI [.ref m0] (wMo m0 m1 m2 m3 m4 m5 m6 m7 m8 m9 m10 m11 m12 m13 m14 m15 fm tm at1 rdb rrm rD rP mt M ++ wMa cI m4 m5 m6 m7 m12 M) sz) (QI (S := Nat → Int32) D (fun r _ => r = bishopF M.np) (fun u => wMo m0 m1 m2 m3 m4 m5 m6 m7 m8 m9 m10 m11 m12 m13 m14 m15 fm tm at1 rdb rrm rD rP mt (M.sPret u) ++ wMa cI m4 m5 m6 m7 m12 (M.sPret u)) (va_A (wMo m0 m1 m2 m3 m4 m5 m6 m7 m8 m9 m10 m11 m12 m13 m14 m15 fm tm at1 rdb rrm rD rP mt M ++ wMa cI m4 m5 m6 m7 m12 M) sz)) 0 0 (va_A (wMo m0 m1 m2 m3 m4 m5 m6 m7 m8 m9 m10 m11 m12 m13 m14 m15 fm tm at1 rdb rrm rD rP mt M ++ wMa cI m4 m5 m6 m7 m12 M) sz) := by
  refine zk_Q (QI (S := Nat → Int32) D (fun r _ => r = bishopF M.np) (fun u => wMo m0 m1 m2 m3 m4 m5 m6 m7 m8 m9 m10 m11 m12 m13 m14 m15 fm tm at1 rdb rrm rD rP mt (M.sPret u) ++ wMa cI m4 m5 m6 m7 m12 (M.sPret u))) (cc := cX5_bishop) (maxL := 1) (ret := (some .int)) (by decide) rfl (Nat.le_of_ble_eq_true rfl) ?_
  intro pX eX sX mX bX tX cX hx hb hr hlocks hml hown hmn hts hP hK A hA hD hS ls hl
  have hl : lv_has ls 1 [(0, .ref m0)] := hl
  have hP : va_P D vwCl [(m0, .inr (5, [.int fm, .int tm, .ref m1, .ref m2, .ref m3, .int M.db, .int M.rm, .int (nI M.D), .int (nI M.P), .ref m4, .ref m5, .ref m6, .ref m7, .int (nI at1), .int rdb, .int rrm, .int (nI rD), .int (nI rP), .ref m8, .ref m9, .ref m10, .ref m11, .ref m12, .int (nI mt), .ref m13, .ref m14, .ref m15])), (m4, .inl (cI, 5, .inl M.hard)), (m5, .inl (cI, 4, .inl M.kind)), (m6, .inl (cI, 4, .inl M.wit)), (m7, .inl (cI, 4, .inl M.pat)), (m12, .inl (cI, 4, .inl M.pret))] sX.heap := hP
  have hD : va_D A [(m0, .inr (5, [.int fm, .int tm, .ref m1, .ref m2, .ref m3, .int M.db, .int M.rm, .int (nI M.D), .int (nI M.P), .ref m4, .ref m5, .ref m6, .ref m7, .int (nI at1), .int rdb, .int rrm, .int (nI rD), .int (nI rP), .ref m8, .ref m9, .ref m10, .ref m11, .ref m12, .int (nI mt), .ref m13, .ref m14, .ref m15])), (m4, .inl (cI, 5, .inl M.hard)), (m5, .inl (cI, 4, .inl M.kind)), (m6, .inl (cI, 4, .inl M.wit)), (m7, .inl (cI, 4, .inl M.pat)), (m12, .inl (cI, 4, .inl M.pret))] := hD
  have f_68 := hts (.fieldLink RX5 68 "DunceSeeModel" "days" "I") (by decide +kernel)
  have inX5 : ∀ w ∈ wsX50, w ∈ wsX5_bishop := fun w h => List.mem_cons_of_mem _ (List.mem_append_right _ h)
  have hD5 : M.D ≤ 5 := hg.1.1
  have hP4 : M.P ≤ 4 := hg.1.2
  refine lv_aload_n hx hb dX5_bishop_0 rfl (lv_at hl 0 rfl) ?_
  refine va_get (D := D) (ci := 5) (v := .int (nI M.D)) (C := RX5) (T := TX5) (N := 27) hx hb hts inX5 hown hK.1 hP 0 rfl rfl 7 (by decide) f_68 (fun _ h9 => h9) rfl dX5_bishop_1 ?_
  refine lv_if_ne (tgt := 10) hx hb dX5_bishop_4 (by decide) (fun c_1 => ?_) (fun c_1 => ?_)
  · have c_s : 0 < M.P := by have := ne0N c_1; omega
    refine lv_aload_n hx hb dX5_bishop_10 rfl (lv_at hl 0 rfl) ?_
    refine zk_effVv (As := []) (rest := []) (S := Unit) (fun _ => True) (fun _ => wMo m0 m1 m2 m3 m4 m5 m6 m7 m8 m9 m10 m11 m12 m13 m14 m15 fm tm at1 rdb rrm rD rP mt M.np ++ wMa cI m4 m5 m6 m7 m12 M.np) ⟨hx, hb, hml, hown, hts⟩ hK hP hD hS hA [0, 1, 2, 3, 4, 5] [] (wc := [(m0, .inr (5, [.int fm, .int tm, .ref m1, .ref m2, .ref m3, .int M.db, .int M.rm, .int (nI M.D), .int (nI M.P), .ref m4, .ref m5, .ref m6, .ref m7, .int (nI at1), .int rdb, .int rrm, .int (nI rD), .int (nI rP), .ref m8, .ref m9, .ref m10, .ref m11, .ref m12, .int (nI mt), .ref m13, .ref m14, .ref m15])), (m4, .inl (cI, 5, .inl M.hard)), (m5, .inl (cI, 4, .inl M.kind)), (m6, .inl (cI, 4, .inl M.wit)), (m7, .inl (cI, 4, .inl M.pat)), (m12, .inl (cI, 4, .inl M.pret))]) (wr := []) rfl rfl (by decide) (by decide) (by decide) [0, 1, 2, 3, 4, 5] (fun (_ : Unit) => [(m0, .inr (5, [.int fm, .int tm, .ref m1, .ref m2, .ref m3, .int M.np.db, .int M.np.rm, .int (nI M.np.D), .int (nI M.np.P), .ref m4, .ref m5, .ref m6, .ref m7, .int (nI at1), .int rdb, .int rrm, .int (nI rD), .int (nI rP), .ref m8, .ref m9, .ref m10, .ref m11, .ref m12, .int (nI mt), .ref m13, .ref m14, .ref m15])), (m4, .inl (cI, 5, .inl M.np.hard)), (m5, .inl (cI, 4, .inl M.np.kind)), (m6, .inl (cI, 4, .inl M.np.wit)), (m7, .inl (cI, 4, .inl M.np.pat)), (m12, .inl (cI, 4, .inl M.np.pret))]) (fun _ => rfl) (by decide) (m_nobody l D cI sX.heap.size m0 m1 m2 m3 m4 m5 m6 m7 m8 m9 m10 m11 m12 m13 m14 m15 fm tm at1 rdb rrm rD rP mt M ) (cwV 0 hts gX5_bishop_X5_nobody rfl rfl rfl hdX5_nobody ⟨Nat.le_of_ble_eq_true rfl, Nat.le_of_ble_eq_true rfl⟩) rfl rfl rfl hl.1 rfl (Nat.le_of_ble_eq_true rfl) dX5_bishop_11 ⟨Nat.le_of_ble_eq_true rfl, Nat.le_of_ble_eq_true rfl⟩ (fun _ H locs hw_3 hP hD hS => ?_)
    refine lv_aload_n hx hb dX5_bishop_14 rfl (lv_at hl 0 rfl) ?_
    refine zk_callVi (As := []) (rest := []) (bish M.np) ⟨hx, hb, hml, hown, hts⟩ hK hP [0, 1, 2, 3, 4, 5] rfl (m_bishopNow l D cI m0 m1 m2 m3 m4 m5 m6 m7 m8 m9 m10 m11 m12 m13 m14 m15 fm tm at1 rdb rrm rD rP mt M.np hg) (cwV 0 hts gX5_bishop_X5_bishopNow rfl rfl rfl hdX5_bishopNow ⟨Nat.le_of_ble_eq_true rfl, Nat.le_of_ble_eq_true rfl⟩) rfl rfl rfl hl.1 rfl (Nat.le_of_ble_eq_true rfl) dX5_bishop_15 ⟨Nat.le_of_ble_eq_true rfl, Nat.le_of_ble_eq_true rfl⟩ ?_
    exact zk_retI hx hb hr hS (fun _ => nI 0) (by unfold bishopF; rw [if_pos c_s]) hP hD dX5_bishop_18 hlocks
  · have c_s : ¬ 0 < M.P := by have := hDP.mp (eq0N (by omega) c_1); omega
    refine lv_bipush (v := (-3)) hx hb dX5_bishop_7 (by decide) ?_
    exact zk_retI hx hb hr hS (M.pret) (by unfold bishopF; rw [if_neg c_s]) hP hD dX5_bishop_9 hlocks
set_option maxHeartbeats 4000000 in
set_option maxRecDepth 100000 in
theorem m_size (l : Launch) (D : va_G) (cI : ClassId) (x : Nat) (hx9 : x < 32) : Met l yX5_size wsX5_size ({ frames := 0, cells := 0, slots := 0, locals := 0 }) (PS D cI [.int (nI x)] ([])) (vp_Si (fun r => r = nI (pop x))) 0 0 (fun _ => False) := by
  refine zk_S (cc := cX5_size) (maxL := 3) (ret := (some .int)) (by decide) rfl (Nat.le_of_ble_eq_true rfl) ?_
  intro pX eX sX mX bX tX cX hx hb hr hlocks hml hown hts hP hK ls hl
  have hl : lv_has ls 3 [(0, .int (nI x))] := hl
  have hP : va_P D vwCl [] sX.heap := hP
  skip
  refine lv_iconst (v := nI 0) hx hb dX5_size_0 (by decide) ?_
  refine lv_istore_n (lv' := [(1, .int (nI 0)), (0, .int (nI x))]) hx hb dX5_size_1 rfl hl (by decide) rfl (fun ls hl => ?_)
  refine lv_iload_n hx hb dX5_size_2 rfl (lv_at hl 1 rfl) ?_
  refine lv_istore_n (lv' := [(2, .int (nI x)), (1, .int (nI 0)), (0, .int (nI x))]) hx hb dX5_size_3 rfl hl (by decide) rfl (fun ls hl => ?_)
  have loop4 : ∀ (nL k : Nat), k ≤ 5 → 5 < k + nL → ∀ ls : Array Slot, lv_has ls 3 [(0, .int (nI x)), (1, .int (nI (cnt k x.testBit))), (2, .int (nI (x / 2 ^ k)))] → W pX l eX ({ frames := 0, cells := 0, slots := 0, locals := 0 }) sX mX ([.int (nI x)] : List Value).toArray bX tX cX sX.heap [] 0 0 (MQ bX (vp_Si (fun r => r = nI (pop x))) ([.int (nI x)] : List Value).toArray sX 0 0 (fun _ => False)) (F0 mX 4 ls []) := by
    intro nL
    induction nL with
    | zero => intro k  h1 h2; exact absurd h2 (by omega)
    | succ nL ih =>
      intro k  h_le h_n   ls hl
      have h_d := Nat.div_le_self x (2 ^ k)
      refine lv_iload_n hx hb dX5_size_4 rfl (lv_at hl 2 rfl) ?_
      refine lv_if_le (tgt := 21) hx hb dX5_size_5 (by decide) (fun c_1 => ?_) (fun c_1 => ?_)
      · have h_s := le0N (by omega) c_1
        refine lv_iload_n hx hb dX5_size_21 rfl (lv_at hl 1 rfl) ?_
        exact zk_retS hx hb hr (congrArg nI (szE h_le h_s)) dX5_size_22 hlocks
      · have c_1 := Int32.not_le.mp c_1
        have h_s := gt0N (by omega) c_1
        refine lv_iload_n hx hb dX5_size_8 rfl (lv_at hl 1 rfl) ?_
        refine lv_iload_n hx hb dX5_size_9 rfl (lv_at hl 2 rfl) ?_
        refine lv_iconst (v := nI 1) hx hb dX5_size_10 (by decide) ?_
        refine lv_iand hx hb dX5_size_11 ?_
        refine zk_top (y := nI (x / 2 ^ k % 2)) (pk_andN (by omega) 1 (by decide)) ?_
        refine zk_iaddN hx hb dX5_size_12 ?_
        refine lv_istore_n (lv' := [(1, .int (nI (cnt k x.testBit + (x / 2 ^ k % 2)))), (0, .int (nI x)), (2, .int (nI (x / 2 ^ k)))]) hx hb dX5_size_13 rfl hl (by decide) rfl (fun ls hl => ?_)
        refine lv_iload_n hx hb dX5_size_14 rfl (lv_at hl 2 rfl) ?_
        refine lv_iconst (v := nI 1) hx hb dX5_size_15 (by decide) ?_
        refine lv_ishr hx hb dX5_size_16 ?_
        refine zk_top (y := nI (x / 2 ^ k / 2)) (pk_shrN (by omega) (nI 1 &&& 31) 1 (by decide)) ?_
        refine lv_istore_n (lv' := [(2, .int (nI (x / 2 ^ k / 2))), (1, .int (nI (cnt k x.testBit + (x / 2 ^ k % 2)))), (0, .int (nI x))]) hx hb dX5_size_17 rfl hl (by decide) rfl (fun ls hl => ?_)
        refine lv_goto (tgt := 4) hx hb dX5_size_18 (by decide) ?_
        have hl := lv_sub hl [2, 1, 0] rfl
        have e_1 : nI (cnt k x.testBit + (x / 2 ^ k % 2)) = nI (cnt (k + 1) x.testBit) := congrArg nI szS
        have e_2 : nI (x / 2 ^ k / 2) = nI (x / 2 ^ (k + 1)) := congrArg nI szD
        rw [e_1, e_2] at hl
        exact ih (k + 1)  (szL hx9 (by omega) h_s) (by have := szL hx9 h_le h_s; omega)   ls hl
  have hl := lv_sub hl [2, 1, 0] rfl
  have e_1 : nI 0 = nI (cnt 0 x.testBit) := by rfl
  have e_2 : nI x = nI (x / 2 ^ 0) := by rw [Nat.pow_zero, Nat.div_one]
  have hl : lv_has ls 3 [(0, .int (nI x)), (1, .int (nI (cnt 0 x.testBit))), (2, .int (nI (x / 2 ^ 0)))] := by
    first | exact hl | (rw [← e_1, ← e_2]; exact hl) | (simp only [e_1, e_2] at hl ⊢; exact hl)
  exact loop4 (5 + 1) 0  (by omega) (by omega)   ls hl
set_option maxHeartbeats 4000000 in
set_option maxRecDepth 100000 in
theorem mx_best (l : Launch) (D : va_G) (cI : ClassId) (sz : Nat) (m0 : Nat) (m1 : Nat) (m2 : Nat) (m3 : Nat) (m4 : Nat) (m5 : Nat) (m6 : Nat) (m7 : Nat) (m8 : Nat) (m9 : Nat) (m10 : Nat) (m11 : Nat) (m12 : Nat) (m13 : Nat) (m14 : Nat) (m15 : Nat) (fm : Int32) (tm : Int32) (at1 : Nat) (rdb : Int32) (rrm : Int32) (rD : Nat) (rP : Nat) (mt : Nat) (M : YS) (p : Int32) (hg : GdY M) : Met l yX5_best wsX5_best ({ frames := 6, cells := 0, slots := 0, locals := 144 }) (PQ D cI [.ref m0, .int p] (wMo m0 m1 m2 m3 m4 m5 m6 m7 m8 m9 m10 m11 m12 m13 m14 m15 fm tm at1 rdb rrm rD rP mt M ++ wMa cI m4 m5 m6 m7 m12 M) sz) (QI (S := Nat → Int32) D (fun r _ => r = bestF M p) (fun u => wMo m0 m1 m2 m3 m4 m5 m6 m7 m8 m9 m10 m11 m12 m13 m14 m15 fm tm at1 rdb rrm rD rP mt (M.sPret u) ++ wMa cI m4 m5 m6 m7 m12 (M.sPret u)) (va_A (wMo m0 m1 m2 m3 m4 m5 m6 m7 m8 m9 m10 m11 m12 m13 m14 m15 fm tm at1 rdb rrm rD rP mt M ++ wMa cI m4 m5 m6 m7 m12 M) sz)) 0 0 (va_A (wMo m0 m1 m2 m3 m4 m5 m6 m7 m8 m9 m10 m11 m12 m13 m14 m15 fm tm at1 rdb rrm rD rP mt M ++ wMa cI m4 m5 m6 m7 m12 M) sz) := by
  refine zk_Q (QI (S := Nat → Int32) D (fun r _ => r = bestF M p) (fun u => wMo m0 m1 m2 m3 m4 m5 m6 m7 m8 m9 m10 m11 m12 m13 m14 m15 fm tm at1 rdb rrm rD rP mt (M.sPret u) ++ wMa cI m4 m5 m6 m7 m12 (M.sPret u))) (cc := cX5_best) (maxL := 4) (ret := (some .int)) (by decide) rfl (Nat.le_of_ble_eq_true rfl) ?_
  intro pX eX sX mX bX tX cX hx hb hr hlocks hml hown hmn hts hP hK A hA hD hS ls hl
  have hl : lv_has ls 4 [(0, .ref m0), (1, .int p)] := hl
  have hP : va_P D vwCl [(m0, .inr (5, [.int fm, .int tm, .ref m1, .ref m2, .ref m3, .int M.db, .int M.rm, .int (nI M.D), .int (nI M.P), .ref m4, .ref m5, .ref m6, .ref m7, .int (nI at1), .int rdb, .int rrm, .int (nI rD), .int (nI rP), .ref m8, .ref m9, .ref m10, .ref m11, .ref m12, .int (nI mt), .ref m13, .ref m14, .ref m15])), (m4, .inl (cI, 5, .inl M.hard)), (m5, .inl (cI, 4, .inl M.kind)), (m6, .inl (cI, 4, .inl M.wit)), (m7, .inl (cI, 4, .inl M.pat)), (m12, .inl (cI, 4, .inl M.pret))] sX.heap := hP
  have hD : va_D A [(m0, .inr (5, [.int fm, .int tm, .ref m1, .ref m2, .ref m3, .int M.db, .int M.rm, .int (nI M.D), .int (nI M.P), .ref m4, .ref m5, .ref m6, .ref m7, .int (nI at1), .int rdb, .int rrm, .int (nI rD), .int (nI rP), .ref m8, .ref m9, .ref m10, .ref m11, .ref m12, .int (nI mt), .ref m13, .ref m14, .ref m15])), (m4, .inl (cI, 5, .inl M.hard)), (m5, .inl (cI, 4, .inl M.kind)), (m6, .inl (cI, 4, .inl M.wit)), (m7, .inl (cI, 4, .inl M.pat)), (m12, .inl (cI, 4, .inl M.pret))] := hD
  have f_68 := hts (.fieldLink RX5 68 "DunceSeeModel" "days" "I") (by decide +kernel)
  have f_43 := hts (.fieldLink RX5 43 "DunceSeeModel" "pretends" "[I") (by decide +kernel)
  have inX5 : ∀ w ∈ wsX50, w ∈ wsX5_best := fun w h => List.mem_cons_of_mem _ (List.mem_append_right _ h)
  have hD5 : M.D ≤ 5 := hg.1.1
  have hP4 : M.P ≤ 4 := hg.1.2
  have h32 := aD_lt hD5
  refine lv_aload_n hx hb dX5_best_0 rfl (lv_at hl 0 rfl) ?_
  refine lv_iload_n hx hb dX5_best_1 rfl (lv_at hl 1 rfl) ?_
  refine zk_callVi (As := [.int p]) (rest := []) (bI (isP M.P p)) ⟨hx, hb, hml, hown, hts⟩ hK hP [0, 1, 2, 3, 4, 5] rfl (m_isPupil l D cI m0 m1 m2 m3 m4 m5 m6 m7 m8 m9 m10 m11 m12 m13 m14 m15 fm tm at1 rdb rrm rD rP mt M p ) (cwV 1 hts gX5_best_X5_isPupil rfl rfl rfl hdX5_isPupil ⟨Nat.le_of_ble_eq_true rfl, Nat.le_of_ble_eq_true rfl⟩) rfl rfl rfl hl.1 rfl (Nat.le_of_ble_eq_true rfl) dX5_best_2 ⟨Nat.le_of_ble_eq_true rfl, Nat.le_of_ble_eq_true rfl⟩ ?_
  refine zk_ifneB (tgt := 10) hx hb dX5_best_5 (by decide) (fun c_1 => ?_) (fun c_1 => ?_)
  · obtain ⟨j, hj, e_j, g_j⟩ := isP_of (by omega) c_1
    rw [e_j] at hl
    refine lv_aload_n hx hb dX5_best_10 rfl (lv_at hl 0 rfl) ?_
    refine zk_effVv (As := []) (rest := []) (S := Unit) (fun _ => True) (fun _ => wMo m0 m1 m2 m3 m4 m5 m6 m7 m8 m9 m10 m11 m12 m13 m14 m15 fm tm at1 rdb rrm rD rP mt M.np ++ wMa cI m4 m5 m6 m7 m12 M.np) ⟨hx, hb, hml, hown, hts⟩ hK hP hD hS hA [0, 1, 2, 3, 4, 5] [] (wc := [(m0, .inr (5, [.int fm, .int tm, .ref m1, .ref m2, .ref m3, .int M.db, .int M.rm, .int (nI M.D), .int (nI M.P), .ref m4, .ref m5, .ref m6, .ref m7, .int (nI at1), .int rdb, .int rrm, .int (nI rD), .int (nI rP), .ref m8, .ref m9, .ref m10, .ref m11, .ref m12, .int (nI mt), .ref m13, .ref m14, .ref m15])), (m4, .inl (cI, 5, .inl M.hard)), (m5, .inl (cI, 4, .inl M.kind)), (m6, .inl (cI, 4, .inl M.wit)), (m7, .inl (cI, 4, .inl M.pat)), (m12, .inl (cI, 4, .inl M.pret))]) (wr := []) rfl rfl (by decide) (by decide) (by decide) [0, 1, 2, 3, 4, 5] (fun (_ : Unit) => [(m0, .inr (5, [.int fm, .int tm, .ref m1, .ref m2, .ref m3, .int M.np.db, .int M.np.rm, .int (nI M.np.D), .int (nI M.np.P), .ref m4, .ref m5, .ref m6, .ref m7, .int (nI at1), .int rdb, .int rrm, .int (nI rD), .int (nI rP), .ref m8, .ref m9, .ref m10, .ref m11, .ref m12, .int (nI mt), .ref m13, .ref m14, .ref m15])), (m4, .inl (cI, 5, .inl M.np.hard)), (m5, .inl (cI, 4, .inl M.np.kind)), (m6, .inl (cI, 4, .inl M.np.wit)), (m7, .inl (cI, 4, .inl M.np.pat)), (m12, .inl (cI, 4, .inl M.np.pret))]) (fun _ => rfl) (by decide) (m_nobody l D cI sX.heap.size m0 m1 m2 m3 m4 m5 m6 m7 m8 m9 m10 m11 m12 m13 m14 m15 fm tm at1 rdb rrm rD rP mt M ) (cwV 0 hts gX5_best_X5_nobody rfl rfl rfl hdX5_nobody ⟨Nat.le_of_ble_eq_true rfl, Nat.le_of_ble_eq_true rfl⟩) rfl rfl rfl hl.1 rfl (Nat.le_of_ble_eq_true rfl) dX5_best_11 ⟨Nat.le_of_ble_eq_true rfl, Nat.le_of_ble_eq_true rfl⟩ (fun _ H locs hw_3 hP hD hS => ?_)
    refine lv_bipush (v := (-9)) hx hb dX5_best_14 (by decide) ?_
    refine lv_istore_n (lv' := [(2, .int (-9)), (0, .ref m0), (1, .int (nI j))]) hx hb dX5_best_16 rfl hl (by decide) rfl (fun ls hl => ?_)
    refine lv_iconst (v := nI 0) hx hb dX5_best_17 (by decide) ?_
    refine lv_istore_n (lv' := [(3, .int (nI 0)), (2, .int (-9)), (0, .ref m0), (1, .int (nI j))]) hx hb dX5_best_18 rfl hl (by decide) rfl (fun ls hl => ?_)
    have loop19 : ∀ (nL k : Nat) (pt : Nat → Int32), k ≤ (aD M.D + 1) → (aD M.D + 1) < k + nL → (∀ v, upd pt j v = upd (fun _ => nI 0) j v) → ∀ (H : Heap) (locs : List Loc), va_P D vwCl [(m0, .inr (5, [.int fm, .int tm, .ref m1, .ref m2, .ref m3, .int M.db, .int M.rm, .int (nI M.D), .int (nI M.P), .ref m4, .ref m5, .ref m6, .ref m7, .int (nI at1), .int rdb, .int rrm, .int (nI rD), .int (nI rP), .ref m8, .ref m9, .ref m10, .ref m11, .ref m12, .int (nI mt), .ref m13, .ref m14, .ref m15])), (m4, .inl (cI, 5, .inl M.hard)), (m5, .inl (cI, 4, .inl M.kind)), (m6, .inl (cI, 4, .inl M.wit)), (m7, .inl (cI, 4, .inl M.pat)), (m12, .inl (cI, 4, .inl pt))] H → va_D A [(m0, .inr (5, [.int fm, .int tm, .ref m1, .ref m2, .ref m3, .int M.db, .int M.rm, .int (nI M.D), .int (nI M.P), .ref m4, .ref m5, .ref m6, .ref m7, .int (nI at1), .int rdb, .int rrm, .int (nI rD), .int (nI rP), .ref m8, .ref m9, .ref m10, .ref m11, .ref m12, .int (nI mt), .ref m13, .ref m14, .ref m15])), (m4, .inl (cI, 5, .inl M.hard)), (m5, .inl (cI, 4, .inl M.kind)), (m6, .inl (cI, 4, .inl M.wit)), (m7, .inl (cI, 4, .inl M.pat)), (m12, .inl (cI, 4, .inl pt))] → va_S A sX.heap H locs → ∀ ls : Array Slot, lv_has ls 4 [(0, .ref m0), (1, .int (nI j)), (2, .int ((bsF (beB M j) k).1)), (3, .int (nI k))] → W pX l eX ({ frames := 6, cells := 0, slots := 0, locals := 144 }) sX mX ([.ref m0, .int p] : List Value).toArray bX tX cX H locs 0 0 (MQ bX (QI (S := Nat → Int32) D (fun r _ => r = bestF M p) (fun u => wMo m0 m1 m2 m3 m4 m5 m6 m7 m8 m9 m10 m11 m12 m13 m14 m15 fm tm at1 rdb rrm rD rP mt (M.sPret u) ++ wMa cI m4 m5 m6 m7 m12 (M.sPret u)) A) ([.ref m0, .int p] : List Value).toArray sX 0 0 A) (F0 mX 19 ls []) := by
      intro nL
      induction nL with
      | zero => intro k pt h1 h2; exact absurd h2 (by omega)
      | succ nL ih =>
        intro k pt h_le h_n hw H locs hP hD hS ls hl
        have h_pk := pop_le k
        have h_pp := pop_le
        refine lv_iload_n hx hb dX5_best_19 rfl (lv_at hl 3 rfl) ?_
        refine lv_iconst (v := nI 1) hx hb dX5_best_20 (by decide) ?_
        refine lv_aload_n hx hb dX5_best_21 rfl (lv_at hl 0 rfl) ?_
        refine va_get (D := D) (ci := 5) (v := .int (nI M.D)) (C := RX5) (T := TX5) (N := 27) hx hb hts inX5 hown hK.1 hP 0 rfl rfl 7 (by decide) f_68 (fun _ h9 => h9) rfl dX5_best_22 ?_
        refine lv_ishl hx hb dX5_best_25 ?_
        refine zk_top (y := nI (aD M.D + 1)) (shlA hD5) ?_
        refine zk_icmp_ge (tgt := 69) hx hb dX5_best_26 (by decide) (by omega) (by omega) (fun c_4 => ?_) (fun c_4 => ?_)
        · refine lv_iload_n hx hb dX5_best_69 rfl (lv_at hl 2 rfl) ?_
          exact zk_retI hx hb hr hS (pt) (by unfold bestF; rw [c_1, g_j, show k = aD M.D + 1 by omega]; rfl) hP hD dX5_best_70 hlocks
        · refine lv_aload_n hx hb dX5_best_29 rfl (lv_at hl 0 rfl) ?_
          refine va_get (D := D) (ci := 5) (v := .ref m12) (C := RX5) (T := TX5) (N := 27) hx hb hts inX5 hown hK.1 hP 0 rfl rfl 22 (by decide) f_43 (fun _ h9 => h9) rfl dX5_best_30 ?_
          refine lv_iload_n hx hb dX5_best_33 rfl (lv_at hl 1 rfl) ?_
          refine lv_iload_n hx hb dX5_best_34 rfl (lv_at hl 3 rfl) ?_
          refine zk_iast (x := nI k) hx hb hK hP hD hS 5 rfl (by omega) (by decide) dX5_best_35 (fun H locs hP hD hS => ?_)
          have hP : va_P D vwCl [(m0, .inr (5, [.int fm, .int tm, .ref m1, .ref m2, .ref m3, .int M.db, .int M.rm, .int (nI M.D), .int (nI M.P), .ref m4, .ref m5, .ref m6, .ref m7, .int (nI at1), .int rdb, .int rrm, .int (nI rD), .int (nI rP), .ref m8, .ref m9, .ref m10, .ref m11, .ref m12, .int (nI mt), .ref m13, .ref m14, .ref m15])), (m4, .inl (cI, 5, .inl M.hard)), (m5, .inl (cI, 4, .inl M.kind)), (m6, .inl (cI, 4, .inl M.wit)), (m7, .inl (cI, 4, .inl M.pat)), (m12, .inl (cI, 4, .inl (upd pt j (nI k))))] H := hP
          have hD : va_D A [(m0, .inr (5, [.int fm, .int tm, .ref m1, .ref m2, .ref m3, .int M.db, .int M.rm, .int (nI M.D), .int (nI M.P), .ref m4, .ref m5, .ref m6, .ref m7, .int (nI at1), .int rdb, .int rrm, .int (nI rD), .int (nI rP), .ref m8, .ref m9, .ref m10, .ref m11, .ref m12, .int (nI mt), .ref m13, .ref m14, .ref m15])), (m4, .inl (cI, 5, .inl M.hard)), (m5, .inl (cI, 4, .inl M.kind)), (m6, .inl (cI, 4, .inl M.wit)), (m7, .inl (cI, 4, .inl M.pat)), (m12, .inl (cI, 4, .inl (upd pt j (nI k))))] := hD
          rw [hw (nI k)] at hP hD
          have hP : va_P D vwCl [(m0, .inr (5, [.int fm, .int tm, .ref m1, .ref m2, .ref m3, .int M.db, .int M.rm, .int (nI M.D), .int (nI M.P), .ref m4, .ref m5, .ref m6, .ref m7, .int (nI at1), .int rdb, .int rrm, .int (nI rD), .int (nI rP), .ref m8, .ref m9, .ref m10, .ref m11, .ref m12, .int (nI mt), .ref m13, .ref m14, .ref m15])), (m4, .inl (cI, 5, .inl M.hard)), (m5, .inl (cI, 4, .inl M.kind)), (m6, .inl (cI, 4, .inl M.wit)), (m7, .inl (cI, 4, .inl M.pat)), (m12, .inl (cI, 4, .inl (upd (fun _ => nI 0) j (nI k))))] H := hP
          have hD : va_D A [(m0, .inr (5, [.int fm, .int tm, .ref m1, .ref m2, .ref m3, .int M.db, .int M.rm, .int (nI M.D), .int (nI M.P), .ref m4, .ref m5, .ref m6, .ref m7, .int (nI at1), .int rdb, .int rrm, .int (nI rD), .int (nI rP), .ref m8, .ref m9, .ref m10, .ref m11, .ref m12, .int (nI mt), .ref m13, .ref m14, .ref m15])), (m4, .inl (cI, 5, .inl M.hard)), (m5, .inl (cI, 4, .inl M.kind)), (m6, .inl (cI, 4, .inl M.wit)), (m7, .inl (cI, 4, .inl M.pat)), (m12, .inl (cI, 4, .inl (upd (fun _ => nI 0) j (nI k))))] := hD
          rcases bsF_cases (beB M j) k with hq | ⟨q, h_q, hq⟩
          · rw [hq] at hl
            have hl : lv_has ls 4 [(0, .ref m0), (1, .int (nI j)), (2, .int (-9)), (3, .int (nI k))] := hl
            refine lv_iload_n hx hb dX5_best_36 rfl (lv_at hl 2 rfl) ?_
            refine lv_bipush (v := (-9)) hx hb dX5_best_37 (by decide) ?_
            refine lv_icmp_eq (tgt := 53) hx hb dX5_best_39 (by decide) (fun c_5 => ?_) (fun c_5 => ?_)
            · refine lv_aload_n hx hb dX5_best_53 rfl (lv_at hl 0 rfl) ?_
              refine zk_callVi (As := []) (rest := []) (bish (M.sPret (upd (fun _ => nI 0) j (nI k)))) ⟨hx, hb, hml, hown, hts⟩ hK hP [0, 1, 2, 3, 4, 5] rfl (m_bishopNow l D cI m0 m1 m2 m3 m4 m5 m6 m7 m8 m9 m10 m11 m12 m13 m14 m15 fm tm at1 rdb rrm rD rP mt (M.sPret (upd (fun _ => nI 0) j (nI k))) hg) (cwV 0 hts gX5_best_X5_bishopNow rfl rfl rfl hdX5_bishopNow ⟨Nat.le_of_ble_eq_true rfl, Nat.le_of_ble_eq_true rfl⟩) rfl rfl rfl hl.1 rfl (Nat.le_of_ble_eq_true rfl) dX5_best_54 ⟨Nat.le_of_ble_eq_true rfl, Nat.le_of_ble_eq_true rfl⟩ ?_
              refine lv_iload_n hx hb dX5_best_57 rfl (lv_at hl 1 rfl) ?_
              refine lv_icmp_ne (tgt := 63) hx hb dX5_best_58 (by decide) (fun c_6 => ?_) (fun c_6 => ?_)
              · refine lv_iinc (v := nI (k + 1)) (lv' := [(3, .int (nI (k + 1))), (0, .ref m0), (1, .int (nI j)), (2, .int (-9))]) hx hb dX5_best_63 hl (k := 3) rfl (by rw [show (Int32.ofInt 1) = nI 1 from by decide, nI_add]) (by decide) rfl (fun ls hl => ?_)
                refine lv_goto (tgt := 19) hx hb dX5_best_66 (by decide) ?_
                have hl := lv_sub hl [1, 2, 3, 0] rfl
                have e_2 : (-9) = (bsF (beB M j) (k + 1)).1 := by rw [bsF, if_neg (fun z => absurd (of_decide_eq_true z.2) c_6), hq]
                rw [e_2] at hl
                exact ih (k + 1) (upd (fun _ => nI 0) j (nI k)) (by omega) (by omega) (fun v => upd_upd _ _ _ _) _ _ hP hD hS ls hl
              · refine lv_iload_n hx hb dX5_best_61 rfl (lv_at hl 3 rfl) ?_
                refine lv_istore_n (lv' := [(2, .int (nI k)), (0, .ref m0), (1, .int (nI j)), (3, .int (nI k))]) hx hb dX5_best_62 rfl hl (by decide) rfl (fun ls hl => ?_)
                refine lv_iinc (v := nI (k + 1)) (lv' := [(3, .int (nI (k + 1))), (2, .int (nI k)), (0, .ref m0), (1, .int (nI j))]) hx hb dX5_best_63 hl (k := 3) rfl (by rw [show (Int32.ofInt 1) = nI 1 from by decide, nI_add]) (by decide) rfl (fun ls hl => ?_)
                refine lv_goto (tgt := 19) hx hb dX5_best_66 (by decide) ?_
                have hl := lv_sub hl [2, 3, 1, 0] rfl
                have e_2 : nI k = (bsF (beB M j) (k + 1)).1 := by rw [bsF, if_pos ⟨by rw [hq]; exact by have := pop_le k; show pop k < 6; omega, decide_eq_true c_6⟩]
                rw [e_2] at hl
                exact ih (k + 1) (upd (fun _ => nI 0) j (nI k)) (by omega) (by omega) (fun v => upd_upd _ _ _ _) _ _ hP hD hS ls hl
            · exact (by exact absurd rfl c_5)
          · rw [hq] at hl
            have hl : lv_has ls 4 [(0, .ref m0), (1, .int (nI j)), (2, .int (nI q)), (3, .int (nI k))] := hl
            refine lv_iload_n hx hb dX5_best_36 rfl (lv_at hl 2 rfl) ?_
            refine lv_bipush (v := (-9)) hx hb dX5_best_37 (by decide) ?_
            refine lv_icmp_eq (tgt := 53) hx hb dX5_best_39 (by decide) (fun c_7 => ?_) (fun c_7 => ?_)
            · exact (by exact absurd c_7 (oN_ne (by omega)))
            · refine lv_iload_n hx hb dX5_best_42 rfl (lv_at hl 3 rfl) ?_
              refine zk_callSi (As := [.int (nI k)]) (rest := []) (nI (pop k)) ⟨hx, hb, hml, hown, hts⟩ hK hP [] rfl (m_size l D cI k (by omega)) (va_cwS 1 hts gX5_best_X5_size rfl rfl rfl hdX5_size ⟨Nat.le_of_ble_eq_true rfl, Nat.le_of_ble_eq_true rfl⟩) rfl hl.1 rfl (Nat.le_of_ble_eq_true rfl) dX5_best_43 ⟨Nat.le_of_ble_eq_true rfl, Nat.le_of_ble_eq_true rfl⟩ ?_
              refine lv_iload_n hx hb dX5_best_46 rfl (lv_at hl 2 rfl) ?_
              refine zk_callSi (As := [.int (nI q)]) (rest := [.int (nI (pop k))]) (nI (pop q)) ⟨hx, hb, hml, hown, hts⟩ hK hP [] rfl (m_size l D cI q (by omega)) (va_cwS 1 hts gX5_best_X5_size rfl rfl rfl hdX5_size ⟨Nat.le_of_ble_eq_true rfl, Nat.le_of_ble_eq_true rfl⟩) rfl hl.1 rfl (Nat.le_of_ble_eq_true rfl) dX5_best_47 ⟨Nat.le_of_ble_eq_true rfl, Nat.le_of_ble_eq_true rfl⟩ ?_
              refine zk_icmp_ge (tgt := 63) hx hb dX5_best_50 (by decide) (by omega) (by have := h_pp q; omega) (fun c_8 => ?_) (fun c_8 => ?_)
              · refine lv_iinc (v := nI (k + 1)) (lv' := [(3, .int (nI (k + 1))), (0, .ref m0), (1, .int (nI j)), (2, .int (nI q))]) hx hb dX5_best_63 hl (k := 3) rfl (by rw [show (Int32.ofInt 1) = nI 1 from by decide, nI_add]) (by decide) rfl (fun ls hl => ?_)
                refine lv_goto (tgt := 19) hx hb dX5_best_66 (by decide) ?_
                have hl := lv_sub hl [1, 2, 3, 0] rfl
                have e_2 : nI q = (bsF (beB M j) (k + 1)).1 := by rw [bsF, if_neg (fun z => by have z1 := z.1; rw [hq] at z1; have z2 : pop k < pop q := z1; omega), hq]
                rw [e_2] at hl
                exact ih (k + 1) (upd (fun _ => nI 0) j (nI k)) (by omega) (by omega) (fun v => upd_upd _ _ _ _) _ _ hP hD hS ls hl
              · refine lv_aload_n hx hb dX5_best_53 rfl (lv_at hl 0 rfl) ?_
                refine zk_callVi (As := []) (rest := []) (bish (M.sPret (upd (fun _ => nI 0) j (nI k)))) ⟨hx, hb, hml, hown, hts⟩ hK hP [0, 1, 2, 3, 4, 5] rfl (m_bishopNow l D cI m0 m1 m2 m3 m4 m5 m6 m7 m8 m9 m10 m11 m12 m13 m14 m15 fm tm at1 rdb rrm rD rP mt (M.sPret (upd (fun _ => nI 0) j (nI k))) hg) (cwV 0 hts gX5_best_X5_bishopNow rfl rfl rfl hdX5_bishopNow ⟨Nat.le_of_ble_eq_true rfl, Nat.le_of_ble_eq_true rfl⟩) rfl rfl rfl hl.1 rfl (Nat.le_of_ble_eq_true rfl) dX5_best_54 ⟨Nat.le_of_ble_eq_true rfl, Nat.le_of_ble_eq_true rfl⟩ ?_
                refine lv_iload_n hx hb dX5_best_57 rfl (lv_at hl 1 rfl) ?_
                refine lv_icmp_ne (tgt := 63) hx hb dX5_best_58 (by decide) (fun c_9 => ?_) (fun c_9 => ?_)
                · refine lv_iinc (v := nI (k + 1)) (lv' := [(3, .int (nI (k + 1))), (0, .ref m0), (1, .int (nI j)), (2, .int (nI q))]) hx hb dX5_best_63 hl (k := 3) rfl (by rw [show (Int32.ofInt 1) = nI 1 from by decide, nI_add]) (by decide) rfl (fun ls hl => ?_)
                  refine lv_goto (tgt := 19) hx hb dX5_best_66 (by decide) ?_
                  have hl := lv_sub hl [1, 2, 3, 0] rfl
                  have e_2 : nI q = (bsF (beB M j) (k + 1)).1 := by rw [bsF, if_neg (fun z => absurd (of_decide_eq_true z.2) c_9), hq]
                  rw [e_2] at hl
                  exact ih (k + 1) (upd (fun _ => nI 0) j (nI k)) (by omega) (by omega) (fun v => upd_upd _ _ _ _) _ _ hP hD hS ls hl
                · refine lv_iload_n hx hb dX5_best_61 rfl (lv_at hl 3 rfl) ?_
                  refine lv_istore_n (lv' := [(2, .int (nI k)), (0, .ref m0), (1, .int (nI j)), (3, .int (nI k))]) hx hb dX5_best_62 rfl hl (by decide) rfl (fun ls hl => ?_)
                  refine lv_iinc (v := nI (k + 1)) (lv' := [(3, .int (nI (k + 1))), (2, .int (nI k)), (0, .ref m0), (1, .int (nI j))]) hx hb dX5_best_63 hl (k := 3) rfl (by rw [show (Int32.ofInt 1) = nI 1 from by decide, nI_add]) (by decide) rfl (fun ls hl => ?_)
                  refine lv_goto (tgt := 19) hx hb dX5_best_66 (by decide) ?_
                  have hl := lv_sub hl [2, 3, 1, 0] rfl
                  have e_2 : nI k = (bsF (beB M j) (k + 1)).1 := by rw [bsF, if_pos ⟨by rw [hq]; exact c_8, decide_eq_true c_9⟩]
                  rw [e_2] at hl
                  exact ih (k + 1) (upd (fun _ => nI 0) j (nI k)) (by omega) (by omega) (fun v => upd_upd _ _ _ _) _ _ hP hD hS ls hl
    have hl := lv_sub hl [2, 3, 1, 0] rfl
    have e_2 : (-9) = (bsF (beB M j) 0).1 := by rfl
    have hl : lv_has ls 4 [(0, .ref m0), (1, .int (nI j)), (2, .int ((bsF (beB M j) 0).1)), (3, .int (nI 0))] := by
      first | exact hl | (rw [← e_2]; exact hl) | (simp only [e_2] at hl ⊢; exact hl)
    exact loop19 (((aD M.D + 1)) + 1) 0 (fun _ => nI 0) (by omega) (by omega) (fun _ => rfl) _ _ hP hD hS ls hl
  · refine lv_iconst (v := (-1)) hx hb dX5_best_8 (by decide) ?_
    exact zk_retI hx hb hr hS (M.pret) (by unfold bestF; rw [c_1]; rfl) hP hD dX5_best_9 hlocks
set_option maxHeartbeats 4000000 in
set_option maxRecDepth 100000 in
theorem mx_choose (l : Launch) (D : va_G) (cI : ClassId) (sz : Nat) (m0 : Nat) (m1 : Nat) (m2 : Nat) (m3 : Nat) (m4 : Nat) (m5 : Nat) (m6 : Nat) (m7 : Nat) (m8 : Nat) (m9 : Nat) (m10 : Nat) (m11 : Nat) (m12 : Nat) (m13 : Nat) (m14 : Nat) (m15 : Nat) (fm : Int32) (tm : Int32) (at1 : Nat) (rdb : Int32) (rrm : Int32) (rD : Nat) (rP : Nat) (mt : Nat) (M : YS) (p : Int32) (d : Int32) (hg : GdY M) : Met l yX5_choose wsX5_choose ({ frames := 6, cells := 0, slots := 0, locals := 144 }) (PQ D cI [.ref m0, .int p, .int d] (wMo m0 m1 m2 m3 m4 m5 m6 m7 m8 m9 m10 m11 m12 m13 m14 m15 fm tm at1 rdb rrm rD rP mt M ++ wMa cI m4 m5 m6 m7 m12 M) sz) (QI (S := Nat → Int32) D (fun r _ => r = chooseF M p d) (fun u => wMo m0 m1 m2 m3 m4 m5 m6 m7 m8 m9 m10 m11 m12 m13 m14 m15 fm tm at1 rdb rrm rD rP mt (M.sPret u) ++ wMa cI m4 m5 m6 m7 m12 (M.sPret u)) (va_A (wMo m0 m1 m2 m3 m4 m5 m6 m7 m8 m9 m10 m11 m12 m13 m14 m15 fm tm at1 rdb rrm rD rP mt M ++ wMa cI m4 m5 m6 m7 m12 M) sz)) 0 0 (va_A (wMo m0 m1 m2 m3 m4 m5 m6 m7 m8 m9 m10 m11 m12 m13 m14 m15 fm tm at1 rdb rrm rD rP mt M ++ wMa cI m4 m5 m6 m7 m12 M) sz) := by
  refine zk_Q (QI (S := Nat → Int32) D (fun r _ => r = chooseF M p d) (fun u => wMo m0 m1 m2 m3 m4 m5 m6 m7 m8 m9 m10 m11 m12 m13 m14 m15 fm tm at1 rdb rrm rD rP mt (M.sPret u) ++ wMa cI m4 m5 m6 m7 m12 (M.sPret u))) (cc := cX5_choose) (maxL := 6) (ret := (some .int)) (by decide) rfl (Nat.le_of_ble_eq_true rfl) ?_
  intro pX eX sX mX bX tX cX hx hb hr hlocks hml hown hmn hts hP hK A hA hD hS ls hl
  have hl : lv_has ls 6 [(0, .ref m0), (1, .int p), (2, .int d)] := hl
  have hP : va_P D vwCl [(m0, .inr (5, [.int fm, .int tm, .ref m1, .ref m2, .ref m3, .int M.db, .int M.rm, .int (nI M.D), .int (nI M.P), .ref m4, .ref m5, .ref m6, .ref m7, .int (nI at1), .int rdb, .int rrm, .int (nI rD), .int (nI rP), .ref m8, .ref m9, .ref m10, .ref m11, .ref m12, .int (nI mt), .ref m13, .ref m14, .ref m15])), (m4, .inl (cI, 5, .inl M.hard)), (m5, .inl (cI, 4, .inl M.kind)), (m6, .inl (cI, 4, .inl M.wit)), (m7, .inl (cI, 4, .inl M.pat)), (m12, .inl (cI, 4, .inl M.pret))] sX.heap := hP
  have hD : va_D A [(m0, .inr (5, [.int fm, .int tm, .ref m1, .ref m2, .ref m3, .int M.db, .int M.rm, .int (nI M.D), .int (nI M.P), .ref m4, .ref m5, .ref m6, .ref m7, .int (nI at1), .int rdb, .int rrm, .int (nI rD), .int (nI rP), .ref m8, .ref m9, .ref m10, .ref m11, .ref m12, .int (nI mt), .ref m13, .ref m14, .ref m15])), (m4, .inl (cI, 5, .inl M.hard)), (m5, .inl (cI, 4, .inl M.kind)), (m6, .inl (cI, 4, .inl M.wit)), (m7, .inl (cI, 4, .inl M.pat)), (m12, .inl (cI, 4, .inl M.pret))] := hD
  have f_19 := hts (.fieldLink RX5 19 "DunceSeeModel" "hardOf" "[I") (by decide +kernel)
  have inX5 : ∀ w ∈ wsX50, w ∈ wsX5_choose := fun w h => List.mem_cons_of_mem _ (List.mem_append_right _ h)
  have hD5 : M.D ≤ 5 := hg.1.1
  have hP4 : M.P ≤ 4 := hg.1.2
  refine lv_aload_n hx hb dX5_choose_0 rfl (lv_at hl 0 rfl) ?_
  refine lv_iload_n hx hb dX5_choose_1 rfl (lv_at hl 1 rfl) ?_
  refine zk_callVi (As := [.int p]) (rest := []) (bI (isP M.P p)) ⟨hx, hb, hml, hown, hts⟩ hK hP [0, 1, 2, 3, 4, 5] rfl (m_isPupil l D cI m0 m1 m2 m3 m4 m5 m6 m7 m8 m9 m10 m11 m12 m13 m14 m15 fm tm at1 rdb rrm rD rP mt M p ) (cwV 1 hts gX5_choose_X5_isPupil rfl rfl rfl hdX5_isPupil ⟨Nat.le_of_ble_eq_true rfl, Nat.le_of_ble_eq_true rfl⟩) rfl rfl rfl hl.1 rfl (Nat.le_of_ble_eq_true rfl) dX5_choose_2 ⟨Nat.le_of_ble_eq_true rfl, Nat.le_of_ble_eq_true rfl⟩ ?_
  refine zk_ifeqB (tgt := 16) hx hb dX5_choose_5 (by decide) (fun c_1 => ?_) (fun c_1 => ?_)
  · refine lv_iconst (v := (-1)) hx hb dX5_choose_16 (by decide) ?_
    exact zk_retI hx hb hr hS (M.pret) (by unfold chooseF; simp [c_1]) hP hD dX5_choose_17 hlocks
  · obtain ⟨j, hj, e_j, g_j⟩ := isP_of (by omega) c_1
    rw [e_j] at hl
    refine lv_aload_n hx hb dX5_choose_8 rfl (lv_at hl 0 rfl) ?_
    refine lv_iload_n hx hb dX5_choose_9 rfl (lv_at hl 2 rfl) ?_
    refine zk_callVi (As := [.int d]) (rest := []) (bI (isP M.D d)) ⟨hx, hb, hml, hown, hts⟩ hK hP [0, 1, 2, 3, 4, 5] rfl (m_isDay l D cI m0 m1 m2 m3 m4 m5 m6 m7 m8 m9 m10 m11 m12 m13 m14 m15 fm tm at1 rdb rrm rD rP mt M d ) (cwV 1 hts gX5_choose_X5_isDay rfl rfl rfl hdX5_isDay ⟨Nat.le_of_ble_eq_true rfl, Nat.le_of_ble_eq_true rfl⟩) rfl rfl rfl hl.1 rfl (Nat.le_of_ble_eq_true rfl) dX5_choose_10 ⟨Nat.le_of_ble_eq_true rfl, Nat.le_of_ble_eq_true rfl⟩ ?_
    refine zk_ifneB (tgt := 18) hx hb dX5_choose_13 (by decide) (fun c_2 => ?_) (fun c_2 => ?_)
    · obtain ⟨i, hi, e_i, g_i⟩ := isP_of (by omega) c_2
      rw [e_i] at hl
      refine lv_aload_n hx hb dX5_choose_18 rfl (lv_at hl 0 rfl) ?_
      refine zk_effVv (As := []) (rest := []) (S := Unit) (fun _ => True) (fun _ => wMo m0 m1 m2 m3 m4 m5 m6 m7 m8 m9 m10 m11 m12 m13 m14 m15 fm tm at1 rdb rrm rD rP mt M.np ++ wMa cI m4 m5 m6 m7 m12 M.np) ⟨hx, hb, hml, hown, hts⟩ hK hP hD hS hA [0, 1, 2, 3, 4, 5] [] (wc := [(m0, .inr (5, [.int fm, .int tm, .ref m1, .ref m2, .ref m3, .int M.db, .int M.rm, .int (nI M.D), .int (nI M.P), .ref m4, .ref m5, .ref m6, .ref m7, .int (nI at1), .int rdb, .int rrm, .int (nI rD), .int (nI rP), .ref m8, .ref m9, .ref m10, .ref m11, .ref m12, .int (nI mt), .ref m13, .ref m14, .ref m15])), (m4, .inl (cI, 5, .inl M.hard)), (m5, .inl (cI, 4, .inl M.kind)), (m6, .inl (cI, 4, .inl M.wit)), (m7, .inl (cI, 4, .inl M.pat)), (m12, .inl (cI, 4, .inl M.pret))]) (wr := []) rfl rfl (by decide) (by decide) (by decide) [0, 1, 2, 3, 4, 5] (fun (_ : Unit) => [(m0, .inr (5, [.int fm, .int tm, .ref m1, .ref m2, .ref m3, .int M.np.db, .int M.np.rm, .int (nI M.np.D), .int (nI M.np.P), .ref m4, .ref m5, .ref m6, .ref m7, .int (nI at1), .int rdb, .int rrm, .int (nI rD), .int (nI rP), .ref m8, .ref m9, .ref m10, .ref m11, .ref m12, .int (nI mt), .ref m13, .ref m14, .ref m15])), (m4, .inl (cI, 5, .inl M.np.hard)), (m5, .inl (cI, 4, .inl M.np.kind)), (m6, .inl (cI, 4, .inl M.np.wit)), (m7, .inl (cI, 4, .inl M.np.pat)), (m12, .inl (cI, 4, .inl M.np.pret))]) (fun _ => rfl) (by decide) (m_nobody l D cI sX.heap.size m0 m1 m2 m3 m4 m5 m6 m7 m8 m9 m10 m11 m12 m13 m14 m15 fm tm at1 rdb rrm rD rP mt M ) (cwV 0 hts gX5_choose_X5_nobody rfl rfl rfl hdX5_nobody ⟨Nat.le_of_ble_eq_true rfl, Nat.le_of_ble_eq_true rfl⟩) rfl rfl rfl hl.1 rfl (Nat.le_of_ble_eq_true rfl) dX5_choose_19 ⟨Nat.le_of_ble_eq_true rfl, Nat.le_of_ble_eq_true rfl⟩ (fun _ H locs hw_4 hP hD hS => ?_)
      refine lv_aload_n hx hb dX5_choose_22 rfl (lv_at hl 0 rfl) ?_
      refine va_get (D := D) (ci := 5) (v := .ref m4) (C := RX5) (T := TX5) (N := 27) hx hb hts inX5 hown hK.1 hP 0 rfl rfl 9 (by decide) f_19 (fun _ h9 => h9) rfl dX5_choose_23 ?_
      refine lv_iload_n hx hb dX5_choose_26 rfl (lv_at hl 2 rfl) ?_
      refine zk_iald hx hb hK hP 1 rfl (by omega) (by decide) dX5_choose_27 ?_
      refine lv_istore_n (lv' := [(3, .int (M.np.hard i)), (0, .ref m0), (1, .int (nI j)), (2, .int (nI i))]) hx hb dX5_choose_28 rfl hl (by decide) rfl (fun ls hl => ?_)
      refine lv_bipush (v := (-9)) hx hb dX5_choose_29 (by decide) ?_
      refine lv_istore (lv' := [(4, .int (-9)), (3, .int (M.np.hard i)), (0, .ref m0), (1, .int (nI j)), (2, .int (nI i))]) hx hb dX5_choose_31 hl (by decide) rfl (fun ls hl => ?_)
      refine lv_bipush (v := nI 9) hx hb dX5_choose_33 (by decide) ?_
      refine lv_istore (lv' := [(5, .int (nI 9)), (4, .int (-9)), (3, .int (M.np.hard i)), (0, .ref m0), (1, .int (nI j)), (2, .int (nI i))]) hx hb dX5_choose_35 hl (by decide) rfl (fun ls hl => ?_)
      have loop37 : ∀ (nL k : Nat) (wt : Nat → Int32), k ≤ 10 → 10 < k + nL → (∀ v, upd wt i v = upd M.hard i v) → ∀ (H : Heap) (locs : List Loc), va_P D vwCl [(m0, .inr (5, [.int fm, .int tm, .ref m1, .ref m2, .ref m3, .int M.db, .int M.rm, .int (nI M.D), .int (nI M.P), .ref m4, .ref m5, .ref m6, .ref m7, .int (nI at1), .int rdb, .int rrm, .int (nI rD), .int (nI rP), .ref m8, .ref m9, .ref m10, .ref m11, .ref m12, .int (nI mt), .ref m13, .ref m14, .ref m15])), (m4, .inl (cI, 5, .inl wt)), (m5, .inl (cI, 4, .inl M.kind)), (m6, .inl (cI, 4, .inl M.wit)), (m7, .inl (cI, 4, .inl M.pat)), (m12, .inl (cI, 4, .inl (fun _ => nI 0)))] H → va_D A [(m0, .inr (5, [.int fm, .int tm, .ref m1, .ref m2, .ref m3, .int M.db, .int M.rm, .int (nI M.D), .int (nI M.P), .ref m4, .ref m5, .ref m6, .ref m7, .int (nI at1), .int rdb, .int rrm, .int (nI rD), .int (nI rP), .ref m8, .ref m9, .ref m10, .ref m11, .ref m12, .int (nI mt), .ref m13, .ref m14, .ref m15])), (m4, .inl (cI, 5, .inl wt)), (m5, .inl (cI, 4, .inl M.kind)), (m6, .inl (cI, 4, .inl M.wit)), (m7, .inl (cI, 4, .inl M.pat)), (m12, .inl (cI, 4, .inl (fun _ => nI 0)))] → va_S A sX.heap H locs → ∀ ls : Array Slot, lv_has ls 6 [(0, .ref m0), (1, .int (nI j)), (2, .int (nI i)), (3, .int (M.np.hard i)), (4, .int (fstB k (chB M j i) (10 - k))), (5, .int (nI 9 - nI k))] → W pX l eX ({ frames := 6, cells := 0, slots := 0, locals := 144 }) sX mX ([.ref m0, .int p, .int d] : List Value).toArray bX tX cX H locs 0 0 (MQ bX (QI (S := Nat → Int32) D (fun r _ => r = chooseF M p d) (fun u => wMo m0 m1 m2 m3 m4 m5 m6 m7 m8 m9 m10 m11 m12 m13 m14 m15 fm tm at1 rdb rrm rD rP mt (M.sPret u) ++ wMa cI m4 m5 m6 m7 m12 (M.sPret u)) A) ([.ref m0, .int p, .int d] : List Value).toArray sX 0 0 A) (F0 mX 37 ls []) := by
        intro nL
        induction nL with
        | zero => intro k wt h1 h2; exact absurd h2 (by omega)
        | succ nL ih =>
          intro k wt h_le h_n hw H locs hP hD hS ls hl
          refine lv_iload hx hb dX5_choose_37 (lv_at hl 5 rfl) ?_
          refine lv_if_lt (tgt := 73) hx hb dX5_choose_39 (by decide) (fun c_5 => ?_) (fun c_5 => ?_)
          · have h_k := dn9 h_le c_5
            refine lv_aload_n hx hb dX5_choose_73 rfl (lv_at hl 0 rfl) ?_
            refine va_get (D := D) (ci := 5) (v := .ref m4) (C := RX5) (T := TX5) (N := 27) hx hb hts inX5 hown hK.1 hP 0 rfl rfl 9 (by decide) f_19 (fun _ h9 => h9) rfl dX5_choose_74 ?_
            refine lv_iload_n hx hb dX5_choose_77 rfl (lv_at hl 2 rfl) ?_
            refine lv_iload_n hx hb dX5_choose_78 rfl (lv_at hl 3 rfl) ?_
            refine zk_iast (x := M.np.hard i) hx hb hK hP hD hS 1 rfl (by omega) (by decide) dX5_choose_79 (fun H locs hP hD hS => ?_)
            have hP : va_P D vwCl [(m0, .inr (5, [.int fm, .int tm, .ref m1, .ref m2, .ref m3, .int M.db, .int M.rm, .int (nI M.D), .int (nI M.P), .ref m4, .ref m5, .ref m6, .ref m7, .int (nI at1), .int rdb, .int rrm, .int (nI rD), .int (nI rP), .ref m8, .ref m9, .ref m10, .ref m11, .ref m12, .int (nI mt), .ref m13, .ref m14, .ref m15])), (m4, .inl (cI, 5, .inl (upd wt i (M.np.hard i)))), (m5, .inl (cI, 4, .inl M.kind)), (m6, .inl (cI, 4, .inl M.wit)), (m7, .inl (cI, 4, .inl M.pat)), (m12, .inl (cI, 4, .inl (fun _ => nI 0)))] H := hP
            have hD : va_D A [(m0, .inr (5, [.int fm, .int tm, .ref m1, .ref m2, .ref m3, .int M.db, .int M.rm, .int (nI M.D), .int (nI M.P), .ref m4, .ref m5, .ref m6, .ref m7, .int (nI at1), .int rdb, .int rrm, .int (nI rD), .int (nI rP), .ref m8, .ref m9, .ref m10, .ref m11, .ref m12, .int (nI mt), .ref m13, .ref m14, .ref m15])), (m4, .inl (cI, 5, .inl (upd wt i (M.np.hard i)))), (m5, .inl (cI, 4, .inl M.kind)), (m6, .inl (cI, 4, .inl M.wit)), (m7, .inl (cI, 4, .inl M.pat)), (m12, .inl (cI, 4, .inl (fun _ => nI 0)))] := hD
            rw [hw (M.hard i), upd_same] at hP hD
            have hP : va_P D vwCl [(m0, .inr (5, [.int fm, .int tm, .ref m1, .ref m2, .ref m3, .int M.db, .int M.rm, .int (nI M.D), .int (nI M.P), .ref m4, .ref m5, .ref m6, .ref m7, .int (nI at1), .int rdb, .int rrm, .int (nI rD), .int (nI rP), .ref m8, .ref m9, .ref m10, .ref m11, .ref m12, .int (nI mt), .ref m13, .ref m14, .ref m15])), (m4, .inl (cI, 5, .inl M.hard)), (m5, .inl (cI, 4, .inl M.kind)), (m6, .inl (cI, 4, .inl M.wit)), (m7, .inl (cI, 4, .inl M.pat)), (m12, .inl (cI, 4, .inl (fun _ => nI 0)))] H := hP
            have hD : va_D A [(m0, .inr (5, [.int fm, .int tm, .ref m1, .ref m2, .ref m3, .int M.db, .int M.rm, .int (nI M.D), .int (nI M.P), .ref m4, .ref m5, .ref m6, .ref m7, .int (nI at1), .int rdb, .int rrm, .int (nI rD), .int (nI rP), .ref m8, .ref m9, .ref m10, .ref m11, .ref m12, .int (nI mt), .ref m13, .ref m14, .ref m15])), (m4, .inl (cI, 5, .inl M.hard)), (m5, .inl (cI, 4, .inl M.kind)), (m6, .inl (cI, 4, .inl M.wit)), (m7, .inl (cI, 4, .inl M.pat)), (m12, .inl (cI, 4, .inl (fun _ => nI 0)))] := hD
            refine lv_iload hx hb dX5_choose_80 (lv_at hl 4 rfl) ?_
            exact zk_retI hx hb hr hS (fun _ => nI 0) (by unfold chooseF; rw [c_1, c_2, g_j, g_i, h_k]; rfl) hP hD dX5_choose_82 hlocks
          · have c_5 := Int32.not_lt.mp c_5
            have h_k := dn10 h_le c_5
            have e_v : nI 9 - nI k = nI (9 - k) := pk_sub (by omega)
            rw [e_v] at hl
            refine lv_aload_n hx hb dX5_choose_42 rfl (lv_at hl 0 rfl) ?_
            refine va_get (D := D) (ci := 5) (v := .ref m4) (C := RX5) (T := TX5) (N := 27) hx hb hts inX5 hown hK.1 hP 0 rfl rfl 9 (by decide) f_19 (fun _ h9 => h9) rfl dX5_choose_43 ?_
            refine lv_iload_n hx hb dX5_choose_46 rfl (lv_at hl 2 rfl) ?_
            refine lv_iload hx hb dX5_choose_47 (lv_at hl 5 rfl) ?_
            refine zk_iast (x := nI (9 - k)) hx hb hK hP hD hS 1 rfl (by omega) (by decide) dX5_choose_49 (fun H locs hP hD hS => ?_)
            have hP : va_P D vwCl [(m0, .inr (5, [.int fm, .int tm, .ref m1, .ref m2, .ref m3, .int M.db, .int M.rm, .int (nI M.D), .int (nI M.P), .ref m4, .ref m5, .ref m6, .ref m7, .int (nI at1), .int rdb, .int rrm, .int (nI rD), .int (nI rP), .ref m8, .ref m9, .ref m10, .ref m11, .ref m12, .int (nI mt), .ref m13, .ref m14, .ref m15])), (m4, .inl (cI, 5, .inl (upd wt i (nI (9 - k))))), (m5, .inl (cI, 4, .inl M.kind)), (m6, .inl (cI, 4, .inl M.wit)), (m7, .inl (cI, 4, .inl M.pat)), (m12, .inl (cI, 4, .inl (fun _ => nI 0)))] H := hP
            have hD : va_D A [(m0, .inr (5, [.int fm, .int tm, .ref m1, .ref m2, .ref m3, .int M.db, .int M.rm, .int (nI M.D), .int (nI M.P), .ref m4, .ref m5, .ref m6, .ref m7, .int (nI at1), .int rdb, .int rrm, .int (nI rD), .int (nI rP), .ref m8, .ref m9, .ref m10, .ref m11, .ref m12, .int (nI mt), .ref m13, .ref m14, .ref m15])), (m4, .inl (cI, 5, .inl (upd wt i (nI (9 - k))))), (m5, .inl (cI, 4, .inl M.kind)), (m6, .inl (cI, 4, .inl M.wit)), (m7, .inl (cI, 4, .inl M.pat)), (m12, .inl (cI, 4, .inl (fun _ => nI 0)))] := hD
            rw [hw (nI (9 - k))] at hP hD
            have hP : va_P D vwCl [(m0, .inr (5, [.int fm, .int tm, .ref m1, .ref m2, .ref m3, .int M.db, .int M.rm, .int (nI M.D), .int (nI M.P), .ref m4, .ref m5, .ref m6, .ref m7, .int (nI at1), .int rdb, .int rrm, .int (nI rD), .int (nI rP), .ref m8, .ref m9, .ref m10, .ref m11, .ref m12, .int (nI mt), .ref m13, .ref m14, .ref m15])), (m4, .inl (cI, 5, .inl (upd M.hard i (nI (9 - k))))), (m5, .inl (cI, 4, .inl M.kind)), (m6, .inl (cI, 4, .inl M.wit)), (m7, .inl (cI, 4, .inl M.pat)), (m12, .inl (cI, 4, .inl (fun _ => nI 0)))] H := hP
            have hD : va_D A [(m0, .inr (5, [.int fm, .int tm, .ref m1, .ref m2, .ref m3, .int M.db, .int M.rm, .int (nI M.D), .int (nI M.P), .ref m4, .ref m5, .ref m6, .ref m7, .int (nI at1), .int rdb, .int rrm, .int (nI rD), .int (nI rP), .ref m8, .ref m9, .ref m10, .ref m11, .ref m12, .int (nI mt), .ref m13, .ref m14, .ref m15])), (m4, .inl (cI, 5, .inl (upd M.hard i (nI (9 - k))))), (m5, .inl (cI, 4, .inl M.kind)), (m6, .inl (cI, 4, .inl M.wit)), (m7, .inl (cI, 4, .inl M.pat)), (m12, .inl (cI, 4, .inl (fun _ => nI 0)))] := hD
            refine lv_aload_n hx hb dX5_choose_50 rfl (lv_at hl 0 rfl) ?_
            refine zk_callVi (As := []) (rest := []) (bish (M.np.sHard (upd M.hard i (nI (9 - k))))) ⟨hx, hb, hml, hown, hts⟩ hK hP [0, 1, 2, 3, 4, 5] rfl (m_bishopNow l D cI m0 m1 m2 m3 m4 m5 m6 m7 m8 m9 m10 m11 m12 m13 m14 m15 fm tm at1 rdb rrm rD rP mt (M.np.sHard (upd M.hard i (nI (9 - k)))) hg) (cwV 0 hts gX5_choose_X5_bishopNow rfl rfl rfl hdX5_bishopNow ⟨Nat.le_of_ble_eq_true rfl, Nat.le_of_ble_eq_true rfl⟩) rfl rfl rfl hl.1 rfl (Nat.le_of_ble_eq_true rfl) dX5_choose_51 ⟨Nat.le_of_ble_eq_true rfl, Nat.le_of_ble_eq_true rfl⟩ ?_
            refine lv_iload_n hx hb dX5_choose_54 rfl (lv_at hl 1 rfl) ?_
            refine lv_icmp_ne (tgt := 63) hx hb dX5_choose_55 (by decide) (fun c_6 => ?_) (fun c_6 => ?_)
            · refine lv_iload hx hb dX5_choose_63 (lv_at hl 4 rfl) ?_
              refine lv_istore (lv' := [(4, .int (fstB k (chB M j i) (10 - k))), (0, .ref m0), (1, .int (nI j)), (2, .int (nI i)), (3, .int (M.np.hard i)), (5, .int (nI (9 - k)))]) hx hb dX5_choose_65 hl (by decide) rfl (fun ls hl => ?_)
              refine lv_iinc (v := (nI (9 - k)) + (-1)) (lv' := [(5, .int ((nI (9 - k)) + (-1))), (4, .int (fstB k (chB M j i) (10 - k))), (0, .ref m0), (1, .int (nI j)), (2, .int (nI i)), (3, .int (M.np.hard i))]) hx hb dX5_choose_67 hl (k := 5) rfl rfl (by decide) rfl (fun ls hl => ?_)
              refine lv_goto (tgt := 37) hx hb dX5_choose_70 (by decide) ?_
              have hl := lv_sub hl [2, 3, 4, 5, 1, 0] rfl
              have e_4 : fstB k (chB M j i) (10 - k) = fstB (k + 1) (chB M j i) (10 - (k + 1)) := by rw [show 10 - (k + 1) = 9 - k by omega, fst_dn _ h_k, if_neg (show ¬ chB M j i (9 - k) = true from fun z => c_6 (of_decide_eq_true z))]
              have e_5 : (nI (9 - k)) + (-1) = nI 9 - nI (k + 1) := by rw [← e_v]; exact dnS k
              rw [e_4, e_5] at hl
              exact ih (k + 1) (upd M.hard i (nI (9 - k))) (by omega) (by omega) (fun v => upd_upd _ _ _ _) _ _ hP hD hS ls hl
            · refine lv_iload hx hb dX5_choose_58 (lv_at hl 5 rfl) ?_
              refine lv_goto (tgt := 65) hx hb dX5_choose_60 (by decide) ?_
              refine lv_istore (lv' := [(4, .int (nI (9 - k))), (0, .ref m0), (1, .int (nI j)), (2, .int (nI i)), (3, .int (M.np.hard i)), (5, .int (nI (9 - k)))]) hx hb dX5_choose_65 hl (by decide) rfl (fun ls hl => ?_)
              refine lv_iinc (v := (nI (9 - k)) + (-1)) (lv' := [(5, .int ((nI (9 - k)) + (-1))), (4, .int (nI (9 - k))), (0, .ref m0), (1, .int (nI j)), (2, .int (nI i)), (3, .int (M.np.hard i))]) hx hb dX5_choose_67 hl (k := 5) rfl rfl (by decide) rfl (fun ls hl => ?_)
              refine lv_goto (tgt := 37) hx hb dX5_choose_70 (by decide) ?_
              have hl := lv_sub hl [2, 3, 4, 5, 1, 0] rfl
              have e_4 : nI (9 - k) = fstB (k + 1) (chB M j i) (10 - (k + 1)) := by rw [show 10 - (k + 1) = 9 - k by omega, fst_dn _ h_k, if_pos (show chB M j i (9 - k) = true from decide_eq_true c_6)]
              have e_5 : (nI (9 - k)) + (-1) = nI 9 - nI (k + 1) := by rw [← e_v]; exact dnS k
              rw [e_5, e_4] at hl
              exact ih (k + 1) (upd M.hard i (nI (9 - k))) (by omega) (by omega) (fun v => upd_upd _ _ _ _) _ _ hP hD hS ls hl
      have hl := lv_sub hl [3, 4, 5, 2, 1, 0] rfl
      have e_4 : (-9) = fstB 0 (chB M j i) (10 - 0) := rfl
      have e_5 : nI 9 = nI 9 - nI 0 := by decide
      have hl : lv_has ls 6 [(0, .ref m0), (1, .int (nI j)), (2, .int (nI i)), (3, .int (M.np.hard i)), (4, .int (fstB 0 (chB M j i) (10 - 0))), (5, .int (nI 9 - nI 0))] := by
        first | exact hl | (rw [← e_4, ← e_5]; exact hl) | (simp only [e_4, e_5] at hl ⊢; exact hl)
      exact loop37 (10 + 1) 0 M.hard (by omega) (by omega) (fun _ => rfl) _ _ hP hD hS ls hl
    · refine lv_iconst (v := (-1)) hx hb dX5_choose_16 (by decide) ?_
      exact zk_retI hx hb hr hS (M.pret) (by unfold chooseF; simp [c_1, g_j, c_2]) hP hD dX5_choose_17 hlocks
set_option maxHeartbeats 4000000 in
set_option maxRecDepth 100000 in
theorem m_begins (l : Launch) (D : va_G) (cI : ClassId) (sz : Nat) (m0 : Nat) (m1 : Nat) (m2 : Nat) (m3 : Nat) (m4 : Nat) (m5 : Nat) (m6 : Nat) (m7 : Nat) (m8 : Nat) (m9 : Nat) (m10 : Nat) (m11 : Nat) (m12 : Nat) (m13 : Nat) (m14 : Nat) (m15 : Nat) (fm : Int32) (tm : Int32) (at1 : Nat) (rdb : Int32) (rrm : Int32) (rD : Nat) (rP : Nat) (mt : Nat) (M : YS) (v : Int32)  : Met l yX5_begins wsX5_begins ({ frames := 0, cells := 0, slots := 0, locals := 0 }) (PQ D cI [.ref m0, .int v] (wMo m0 m1 m2 m3 m4 m5 m6 m7 m8 m9 m10 m11 m12 m13 m14 m15 fm tm at1 rdb rrm rD rP mt M) sz) (QV (S := Unit) D (fun _ => True) (fun _ => wMo m0 m1 m2 m3 m4 m5 m6 m7 m8 m9 m10 m11 m12 m13 m14 m15 fm (nI 31 * tm + v) at1 rdb rrm rD rP mt M) (va_A (wMo m0 m1 m2 m3 m4 m5 m6 m7 m8 m9 m10 m11 m12 m13 m14 m15 fm tm at1 rdb rrm rD rP mt M) sz)) 0 0 (va_A (wMo m0 m1 m2 m3 m4 m5 m6 m7 m8 m9 m10 m11 m12 m13 m14 m15 fm tm at1 rdb rrm rD rP mt M) sz) := by
  refine zk_Q (QV (S := Unit) D (fun _ => True) (fun _ => wMo m0 m1 m2 m3 m4 m5 m6 m7 m8 m9 m10 m11 m12 m13 m14 m15 fm (nI 31 * tm + v) at1 rdb rrm rD rP mt M)) (cc := cX5_begins) (maxL := 2) (ret := none) (by decide) rfl (Nat.le_of_ble_eq_true rfl) ?_
  intro pX eX sX mX bX tX cX hx hb hr hlocks hml hown hmn hts hP hK A hA hD hS ls hl
  have hl : lv_has ls 2 [(0, .ref m0), (1, .int v)] := hl
  have hP : va_P D vwCl [(m0, .inr (5, [.int fm, .int tm, .ref m1, .ref m2, .ref m3, .int M.db, .int M.rm, .int (nI M.D), .int (nI M.P), .ref m4, .ref m5, .ref m6, .ref m7, .int (nI at1), .int rdb, .int rrm, .int (nI rD), .int (nI rP), .ref m8, .ref m9, .ref m10, .ref m11, .ref m12, .int (nI mt), .ref m13, .ref m14, .ref m15]))] sX.heap := hP
  have hD : va_D A [(m0, .inr (5, [.int fm, .int tm, .ref m1, .ref m2, .ref m3, .int M.db, .int M.rm, .int (nI M.D), .int (nI M.P), .ref m4, .ref m5, .ref m6, .ref m7, .int (nI at1), .int rdb, .int rrm, .int (nI rD), .int (nI rP), .ref m8, .ref m9, .ref m10, .ref m11, .ref m12, .int (nI mt), .ref m13, .ref m14, .ref m15]))] := hD
  have f_190 := hts (.fieldLink RX5 190 "DunceSeeModel" "trace" "I") (by decide +kernel)
  have inX5 : ∀ w ∈ wsX50, w ∈ wsX5_begins := fun w h => List.mem_cons_of_mem _ (List.mem_append_right _ h)
  refine lv_aload_n hx hb dX5_begins_0 rfl (lv_at hl 0 rfl) ?_
  refine lv_bipush (v := nI 31) hx hb dX5_begins_1 (by decide) ?_
  refine lv_aload_n hx hb dX5_begins_3 rfl (lv_at hl 0 rfl) ?_
  refine va_get (D := D) (ci := 5) (v := .int tm) (C := RX5) (T := TX5) (N := 27) hx hb hts inX5 hown hK.1 hP 0 rfl rfl 1 (by decide) f_190 (fun _ h9 => h9) rfl dX5_begins_4 ?_
  refine lv_imul hx hb dX5_begins_7 ?_
  refine lv_iload_n hx hb dX5_begins_8 rfl (lv_at hl 1 rfl) ?_
  refine lv_iadd hx hb dX5_begins_9 ?_
  refine va_put (D := D) (ci := 5) (v := .int (((nI 31) * tm) + v)) (ty := .int) (C := RX5) (T := TX5) (N := 27) hx hb hts inX5 tyX5 tyX5_ok nmX5 hown hK.1 hP hD hS 0 rfl rfl 1 (by decide) f_190 (fun _ h9 => h9) rfl (by decide +kernel) rfl rfl (Nat.le_of_ble_eq_true rfl) dX5_begins_10 (fun H locs hP hD hS => ?_)
  have hP : va_P D vwCl [(m0, .inr (5, [.int fm, .int (((nI 31) * tm) + v), .ref m1, .ref m2, .ref m3, .int M.db, .int M.rm, .int (nI M.D), .int (nI M.P), .ref m4, .ref m5, .ref m6, .ref m7, .int (nI at1), .int rdb, .int rrm, .int (nI rD), .int (nI rP), .ref m8, .ref m9, .ref m10, .ref m11, .ref m12, .int (nI mt), .ref m13, .ref m14, .ref m15]))] H := hP
  have hD : va_D A [(m0, .inr (5, [.int fm, .int (((nI 31) * tm) + v), .ref m1, .ref m2, .ref m3, .int M.db, .int M.rm, .int (nI M.D), .int (nI M.P), .ref m4, .ref m5, .ref m6, .ref m7, .int (nI at1), .int rdb, .int rrm, .int (nI rD), .int (nI rP), .ref m8, .ref m9, .ref m10, .ref m11, .ref m12, .int (nI mt), .ref m13, .ref m14, .ref m15]))] := hD
  exact zk_retV hx hb hr hS (()) (trivial) hP hD dX5_begins_13 hlocks
set_option maxHeartbeats 4000000 in
set_option maxRecDepth 100000 in
theorem m_fails (l : Launch) (D : va_G) (cI : ClassId) (sz : Nat) (m0 : Nat) (m1 : Nat) (m2 : Nat) (m3 : Nat) (m4 : Nat) (m5 : Nat) (m6 : Nat) (m7 : Nat) (m8 : Nat) (m9 : Nat) (m10 : Nat) (m11 : Nat) (m12 : Nat) (m13 : Nat) (m14 : Nat) (m15 : Nat) (fm : Int32) (tm : Int32) (at1 : Nat) (rdb : Int32) (rrm : Int32) (rD : Nat) (rP : Nat) (mt : Nat) (M : YS) (v : Int32)  : Met l yX5_fails wsX5_fails ({ frames := 0, cells := 0, slots := 0, locals := 0 }) (PQ D cI [.ref m0, .int v] (wMo m0 m1 m2 m3 m4 m5 m6 m7 m8 m9 m10 m11 m12 m13 m14 m15 fm tm at1 rdb rrm rD rP mt M) sz) (QI (S := Unit) D (fun r _ => r = (-10) - v) (fun _ => wMo m0 m1 m2 m3 m4 m5 m6 m7 m8 m9 m10 m11 m12 m13 m14 m15 v tm at1 rdb rrm rD rP mt M) (va_A (wMo m0 m1 m2 m3 m4 m5 m6 m7 m8 m9 m10 m11 m12 m13 m14 m15 fm tm at1 rdb rrm rD rP mt M) sz)) 0 0 (va_A (wMo m0 m1 m2 m3 m4 m5 m6 m7 m8 m9 m10 m11 m12 m13 m14 m15 fm tm at1 rdb rrm rD rP mt M) sz) := by
  refine zk_Q (QI (S := Unit) D (fun r _ => r = (-10) - v) (fun _ => wMo m0 m1 m2 m3 m4 m5 m6 m7 m8 m9 m10 m11 m12 m13 m14 m15 v tm at1 rdb rrm rD rP mt M)) (cc := cX5_fails) (maxL := 2) (ret := (some .int)) (by decide) rfl (Nat.le_of_ble_eq_true rfl) ?_
  intro pX eX sX mX bX tX cX hx hb hr hlocks hml hown hmn hts hP hK A hA hD hS ls hl
  have hl : lv_has ls 2 [(0, .ref m0), (1, .int v)] := hl
  have hP : va_P D vwCl [(m0, .inr (5, [.int fm, .int tm, .ref m1, .ref m2, .ref m3, .int M.db, .int M.rm, .int (nI M.D), .int (nI M.P), .ref m4, .ref m5, .ref m6, .ref m7, .int (nI at1), .int rdb, .int rrm, .int (nI rD), .int (nI rP), .ref m8, .ref m9, .ref m10, .ref m11, .ref m12, .int (nI mt), .ref m13, .ref m14, .ref m15]))] sX.heap := hP
  have hD : va_D A [(m0, .inr (5, [.int fm, .int tm, .ref m1, .ref m2, .ref m3, .int M.db, .int M.rm, .int (nI M.D), .int (nI M.P), .ref m4, .ref m5, .ref m6, .ref m7, .int (nI at1), .int rdb, .int rrm, .int (nI rD), .int (nI rP), .ref m8, .ref m9, .ref m10, .ref m11, .ref m12, .int (nI mt), .ref m13, .ref m14, .ref m15]))] := hD
  have f_55 := hts (.fieldLink RX5 55 "DunceSeeModel" "fault" "I") (by decide +kernel)
  have inX5 : ∀ w ∈ wsX50, w ∈ wsX5_fails := fun w h => List.mem_cons_of_mem _ (List.mem_append_right _ h)
  refine lv_aload_n hx hb dX5_fails_0 rfl (lv_at hl 0 rfl) ?_
  refine lv_iload_n hx hb dX5_fails_1 rfl (lv_at hl 1 rfl) ?_
  refine va_put (D := D) (ci := 5) (v := .int v) (ty := .int) (C := RX5) (T := TX5) (N := 27) hx hb hts inX5 tyX5 tyX5_ok nmX5 hown hK.1 hP hD hS 0 rfl rfl 0 (by decide) f_55 (fun _ h9 => h9) rfl (by decide +kernel) rfl rfl (Nat.le_of_ble_eq_true rfl) dX5_fails_2 (fun H locs hP hD hS => ?_)
  have hP : va_P D vwCl [(m0, .inr (5, [.int v, .int tm, .ref m1, .ref m2, .ref m3, .int M.db, .int M.rm, .int (nI M.D), .int (nI M.P), .ref m4, .ref m5, .ref m6, .ref m7, .int (nI at1), .int rdb, .int rrm, .int (nI rD), .int (nI rP), .ref m8, .ref m9, .ref m10, .ref m11, .ref m12, .int (nI mt), .ref m13, .ref m14, .ref m15]))] H := hP
  have hD : va_D A [(m0, .inr (5, [.int v, .int tm, .ref m1, .ref m2, .ref m3, .int M.db, .int M.rm, .int (nI M.D), .int (nI M.P), .ref m4, .ref m5, .ref m6, .ref m7, .int (nI at1), .int rdb, .int rrm, .int (nI rD), .int (nI rP), .ref m8, .ref m9, .ref m10, .ref m11, .ref m12, .int (nI mt), .ref m13, .ref m14, .ref m15]))] := hD
  refine lv_bipush (v := (-10)) hx hb dX5_fails_5 (by decide) ?_
  refine lv_iload_n hx hb dX5_fails_7 rfl (lv_at hl 1 rfl) ?_
  refine lv_isub hx hb dX5_fails_8 ?_
  exact zk_retI hx hb hr hS (()) (rfl) hP hD dX5_fails_9 hlocks
set_option maxHeartbeats 4000000 in
set_option maxRecDepth 100000 in
theorem m_lost (l : Launch) (D : va_G) (cI : ClassId) (sz : Nat) (m0 : Nat) (m1 : Nat) (m2 : Nat) (m3 : Nat) (m4 : Nat) (m5 : Nat) (m6 : Nat) (m7 : Nat) (m8 : Nat) (m9 : Nat) (m10 : Nat) (m11 : Nat) (m12 : Nat) (m13 : Nat) (m14 : Nat) (m15 : Nat) (fm : Int32) (tm : Int32) (at1 : Nat) (rdb : Int32) (rrm : Int32) (rD : Nat) (rP : Nat) (mt : Nat) (M : YS) (v : Int32)  : Met l yX5_lost wsX5_lost ({ frames := 0, cells := 0, slots := 0, locals := 0 }) (PQ D cI [.ref m0, .int v] (wMo m0 m1 m2 m3 m4 m5 m6 m7 m8 m9 m10 m11 m12 m13 m14 m15 fm tm at1 rdb rrm rD rP mt M) sz) (QL (S := Unit) D (fun r _ => r = (-9223372036854775808)) (fun _ => wMo m0 m1 m2 m3 m4 m5 m6 m7 m8 m9 m10 m11 m12 m13 m14 m15 v tm at1 rdb rrm rD rP mt M) (va_A (wMo m0 m1 m2 m3 m4 m5 m6 m7 m8 m9 m10 m11 m12 m13 m14 m15 fm tm at1 rdb rrm rD rP mt M) sz)) 0 0 (va_A (wMo m0 m1 m2 m3 m4 m5 m6 m7 m8 m9 m10 m11 m12 m13 m14 m15 fm tm at1 rdb rrm rD rP mt M) sz) := by
  refine zk_Q (QL (S := Unit) D (fun r _ => r = (-9223372036854775808)) (fun _ => wMo m0 m1 m2 m3 m4 m5 m6 m7 m8 m9 m10 m11 m12 m13 m14 m15 v tm at1 rdb rrm rD rP mt M)) (cc := cX5_lost) (maxL := 2) (ret := (some .long)) (by decide) rfl (Nat.le_of_ble_eq_true rfl) ?_
  intro pX eX sX mX bX tX cX hx hb hr hlocks hml hown hmn hts hP hK A hA hD hS ls hl
  have hl : lv_has ls 2 [(0, .ref m0), (1, .int v)] := hl
  have hP : va_P D vwCl [(m0, .inr (5, [.int fm, .int tm, .ref m1, .ref m2, .ref m3, .int M.db, .int M.rm, .int (nI M.D), .int (nI M.P), .ref m4, .ref m5, .ref m6, .ref m7, .int (nI at1), .int rdb, .int rrm, .int (nI rD), .int (nI rP), .ref m8, .ref m9, .ref m10, .ref m11, .ref m12, .int (nI mt), .ref m13, .ref m14, .ref m15]))] sX.heap := hP
  have hD : va_D A [(m0, .inr (5, [.int fm, .int tm, .ref m1, .ref m2, .ref m3, .int M.db, .int M.rm, .int (nI M.D), .int (nI M.P), .ref m4, .ref m5, .ref m6, .ref m7, .int (nI at1), .int rdb, .int rrm, .int (nI rD), .int (nI rP), .ref m8, .ref m9, .ref m10, .ref m11, .ref m12, .int (nI mt), .ref m13, .ref m14, .ref m15]))] := hD
  have f_55 := hts (.fieldLink RX5 55 "DunceSeeModel" "fault" "I") (by decide +kernel)
  have k_59 := hts (.constantLong RX5 59 (-9223372036854775808)) (by decide +kernel)
  have inX5 : ∀ w ∈ wsX50, w ∈ wsX5_lost := fun w h => List.mem_cons_of_mem _ (List.mem_append_right _ h)
  refine lv_aload_n hx hb dX5_lost_0 rfl (lv_at hl 0 rfl) ?_
  refine lv_iload_n hx hb dX5_lost_1 rfl (lv_at hl 1 rfl) ?_
  refine va_put (D := D) (ci := 5) (v := .int v) (ty := .int) (C := RX5) (T := TX5) (N := 27) hx hb hts inX5 tyX5 tyX5_ok nmX5 hown hK.1 hP hD hS 0 rfl rfl 0 (by decide) f_55 (fun _ h9 => h9) rfl (by decide +kernel) rfl rfl (Nat.le_of_ble_eq_true rfl) dX5_lost_2 (fun H locs hP hD hS => ?_)
  have hP : va_P D vwCl [(m0, .inr (5, [.int v, .int tm, .ref m1, .ref m2, .ref m3, .int M.db, .int M.rm, .int (nI M.D), .int (nI M.P), .ref m4, .ref m5, .ref m6, .ref m7, .int (nI at1), .int rdb, .int rrm, .int (nI rD), .int (nI rP), .ref m8, .ref m9, .ref m10, .ref m11, .ref m12, .int (nI mt), .ref m13, .ref m14, .ref m15]))] H := hP
  have hD : va_D A [(m0, .inr (5, [.int v, .int tm, .ref m1, .ref m2, .ref m3, .int M.db, .int M.rm, .int (nI M.D), .int (nI M.P), .ref m4, .ref m5, .ref m6, .ref m7, .int (nI at1), .int rdb, .int rrm, .int (nI rD), .int (nI rP), .ref m8, .ref m9, .ref m10, .ref m11, .ref m12, .int (nI mt), .ref m13, .ref m14, .ref m15]))] := hD
  refine lv_ldc2 (v := (-9223372036854775808)) hx hb hown k_59 dX5_lost_5 ?_
  exact zk_retL hx hb hr hS (()) (rfl) hP hD dX5_lost_8 hlocks
set_option maxHeartbeats 4000000 in
set_option maxRecDepth 100000 in
theorem mx_tell (l : Launch) (D : va_G) (cI : ClassId) (sz : Nat) (m0 : Nat) (m1 : Nat) (m2 : Nat) (m3 : Nat) (m4 : Nat) (m5 : Nat) (m6 : Nat) (m7 : Nat) (m8 : Nat) (m9 : Nat) (m10 : Nat) (m11 : Nat) (m12 : Nat) (m13 : Nat) (m14 : Nat) (m15 : Nat) (fm : Int32) (tm : Int32) (at1 : Nat) (rdb : Int32) (rrm : Int32) (rD : Nat) (rP : Nat) (mt : Nat) (M : YS) (p : Int32) (hok : OkY M) : Met l yX5_tell wsX5_tell ({ frames := 1, cells := 0, slots := 0, locals := 21 }) (PQ D cI [.ref m0, .int p] (wMo m0 m1 m2 m3 m4 m5 m6 m7 m8 m9 m10 m11 m12 m13 m14 m15 fm tm at1 rdb rrm rD rP mt M ++ wMa cI m4 m5 m6 m7 m12 M) sz) (QI (S := Unit) D (fun r _ => r = (tellF M tm p).1) (fun _ => wMo m0 m1 m2 m3 m4 m5 m6 m7 m8 m9 m10 m11 m12 m13 m14 m15 fm ((tellF M tm p).2) at1 rdb rrm rD rP mt M ++ wMa cI m4 m5 m6 m7 m12 M) (va_A (wMo m0 m1 m2 m3 m4 m5 m6 m7 m8 m9 m10 m11 m12 m13 m14 m15 fm tm at1 rdb rrm rD rP mt M ++ wMa cI m4 m5 m6 m7 m12 M) sz)) 0 0 (va_A (wMo m0 m1 m2 m3 m4 m5 m6 m7 m8 m9 m10 m11 m12 m13 m14 m15 fm tm at1 rdb rrm rD rP mt M ++ wMa cI m4 m5 m6 m7 m12 M) sz) := by
  refine zk_Q (QI (S := Unit) D (fun r _ => r = (tellF M tm p).1) (fun _ => wMo m0 m1 m2 m3 m4 m5 m6 m7 m8 m9 m10 m11 m12 m13 m14 m15 fm ((tellF M tm p).2) at1 rdb rrm rD rP mt M ++ wMa cI m4 m5 m6 m7 m12 M)) (cc := cX5_tell) (maxL := 3) (ret := (some .int)) (by decide) rfl (Nat.le_of_ble_eq_true rfl) ?_
  intro pX eX sX mX bX tX cX hx hb hr hlocks hml hown hmn hts hP hK A hA hD hS ls hl
  have hl : lv_has ls 3 [(0, .ref m0), (1, .int p)] := hl
  have hP : va_P D vwCl [(m0, .inr (5, [.int fm, .int tm, .ref m1, .ref m2, .ref m3, .int M.db, .int M.rm, .int (nI M.D), .int (nI M.P), .ref m4, .ref m5, .ref m6, .ref m7, .int (nI at1), .int rdb, .int rrm, .int (nI rD), .int (nI rP), .ref m8, .ref m9, .ref m10, .ref m11, .ref m12, .int (nI mt), .ref m13, .ref m14, .ref m15])), (m4, .inl (cI, 5, .inl M.hard)), (m5, .inl (cI, 4, .inl M.kind)), (m6, .inl (cI, 4, .inl M.wit)), (m7, .inl (cI, 4, .inl M.pat)), (m12, .inl (cI, 4, .inl M.pret))] sX.heap := hP
  have hD : va_D A [(m0, .inr (5, [.int fm, .int tm, .ref m1, .ref m2, .ref m3, .int M.db, .int M.rm, .int (nI M.D), .int (nI M.P), .ref m4, .ref m5, .ref m6, .ref m7, .int (nI at1), .int rdb, .int rrm, .int (nI rD), .int (nI rP), .ref m8, .ref m9, .ref m10, .ref m11, .ref m12, .int (nI mt), .ref m13, .ref m14, .ref m15])), (m4, .inl (cI, 5, .inl M.hard)), (m5, .inl (cI, 4, .inl M.kind)), (m6, .inl (cI, 4, .inl M.wit)), (m7, .inl (cI, 4, .inl M.pat)), (m12, .inl (cI, 4, .inl M.pret))] := hD
  have f_28 := hts (.fieldLink RX5 28 "DunceSeeModel" "patience" "[I") (by decide +kernel)
  have f_22 := hts (.fieldLink RX5 22 "DunceSeeModel" "kind" "[I") (by decide +kernel)
  have inX5 : ∀ w ∈ wsX50, w ∈ wsX5_tell := fun w h => List.mem_cons_of_mem _ (List.mem_append_right _ h)
  have hP4 : M.P ≤ 4 := hok.2
  refine lv_aload_n hx hb dX5_tell_0 rfl (lv_at hl 0 rfl) ?_
  refine lv_iload_n hx hb dX5_tell_1 rfl (lv_at hl 1 rfl) ?_
  refine zk_callVi (As := [.int p]) (rest := []) (bI (isP M.P p)) ⟨hx, hb, hml, hown, hts⟩ hK hP [0, 1, 2, 3, 4, 5] rfl (m_isPupil l D cI m0 m1 m2 m3 m4 m5 m6 m7 m8 m9 m10 m11 m12 m13 m14 m15 fm tm at1 rdb rrm rD rP mt M p ) (cwV 1 hts gX5_tell_X5_isPupil rfl rfl rfl hdX5_isPupil ⟨Nat.le_of_ble_eq_true rfl, Nat.le_of_ble_eq_true rfl⟩) rfl rfl rfl hl.1 rfl (Nat.le_of_ble_eq_true rfl) dX5_tell_2 ⟨Nat.le_of_ble_eq_true rfl, Nat.le_of_ble_eq_true rfl⟩ ?_
  refine zk_ifneB (tgt := 10) hx hb dX5_tell_5 (by decide) (fun c_1 => ?_) (fun c_1 => ?_)
  · obtain ⟨j, hj, e_j, g_j⟩ := isP_of (by omega) c_1
    rw [e_j] at hl
    refine lv_aload_n hx hb dX5_tell_10 rfl (lv_at hl 0 rfl) ?_
    refine va_get (D := D) (ci := 5) (v := .ref m7) (C := RX5) (T := TX5) (N := 27) hx hb hts inX5 hown hK.1 hP 0 rfl rfl 12 (by decide) f_28 (fun _ h9 => h9) rfl dX5_tell_11 ?_
    refine lv_iload_n hx hb dX5_tell_14 rfl (lv_at hl 1 rfl) ?_
    refine zk_iald hx hb hK hP 4 rfl (by omega) (by decide) dX5_tell_15 ?_
    refine lv_istore_n (lv' := [(2, .int (M.pat j)), (0, .ref m0), (1, .int (nI j))]) hx hb dX5_tell_16 rfl hl (by decide) rfl (fun ls hl => ?_)
    refine lv_aload_n hx hb dX5_tell_17 rfl (lv_at hl 1 rfl) ?_
    refine va_get (D := D) (ci := 5) (v := .ref m5) (C := RX5) (T := TX5) (N := 27) hx hb hts inX5 hown hK.1 hP 0 rfl rfl 10 (by decide) f_22 (fun _ h9 => h9) rfl dX5_tell_18 ?_
    refine lv_iload_n hx hb dX5_tell_21 rfl (lv_at hl 2 rfl) ?_
    refine zk_iald hx hb hK hP 2 rfl (by omega) (by decide) dX5_tell_22 ?_
    by_cases c_2 : M.kind j = nI 1
    · refine lv_lookup (tgt := 48) hx hb dX5_tell_23 rfl (by rw [c_2]; try rfl) (by decide) ?_
      refine lv_aload_n hx hb dX5_tell_48 rfl (lv_at hl 1 rfl) ?_
      refine lv_iconst (v := nI 2) hx hb dX5_tell_49 (by decide) ?_
      refine zk_effVv (As := [.int (nI 2)]) (rest := []) (S := Unit) (fun _ => True) (fun _ => wMo m0 m1 m2 m3 m4 m5 m6 m7 m8 m9 m10 m11 m12 m13 m14 m15 fm (nI 31 * tm + (nI 2)) at1 rdb rrm rD rP mt M) ⟨hx, hb, hml, hown, hts⟩ hK hP hD hS hA [0] [1, 2, 3, 4, 5] (wc := [(m0, .inr (5, [.int fm, .int tm, .ref m1, .ref m2, .ref m3, .int M.db, .int M.rm, .int (nI M.D), .int (nI M.P), .ref m4, .ref m5, .ref m6, .ref m7, .int (nI at1), .int rdb, .int rrm, .int (nI rD), .int (nI rP), .ref m8, .ref m9, .ref m10, .ref m11, .ref m12, .int (nI mt), .ref m13, .ref m14, .ref m15]))]) (wr := [(m4, .inl (cI, 5, .inl M.hard)), (m5, .inl (cI, 4, .inl M.kind)), (m6, .inl (cI, 4, .inl M.wit)), (m7, .inl (cI, 4, .inl M.pat)), (m12, .inl (cI, 4, .inl M.pret))]) rfl rfl (by decide) (by decide) (by decide) [5, 0, 1, 2, 3, 4] (fun (_ : Unit) => [(m0, .inr (5, [.int fm, .int (nI 31 * tm + (nI 2)), .ref m1, .ref m2, .ref m3, .int M.db, .int M.rm, .int (nI M.D), .int (nI M.P), .ref m4, .ref m5, .ref m6, .ref m7, .int (nI at1), .int rdb, .int rrm, .int (nI rD), .int (nI rP), .ref m8, .ref m9, .ref m10, .ref m11, .ref m12, .int (nI mt), .ref m13, .ref m14, .ref m15])), (m4, .inl (cI, 5, .inl M.hard)), (m5, .inl (cI, 4, .inl M.kind)), (m6, .inl (cI, 4, .inl M.wit)), (m7, .inl (cI, 4, .inl M.pat)), (m12, .inl (cI, 4, .inl M.pret))]) (fun _ => rfl) (by decide) (m_begins l D cI sX.heap.size m0 m1 m2 m3 m4 m5 m6 m7 m8 m9 m10 m11 m12 m13 m14 m15 fm tm at1 rdb rrm rD rP mt M (nI 2) ) (cwV 1 hts gX5_tell_X5_begins rfl rfl rfl hdX5_begins ⟨Nat.le_of_ble_eq_true rfl, Nat.le_of_ble_eq_true rfl⟩) rfl rfl rfl hl.1 rfl (Nat.le_of_ble_eq_true rfl) dX5_tell_50 ⟨Nat.le_of_ble_eq_true rfl, Nat.le_of_ble_eq_true rfl⟩ (fun _ H locs hw_4 hP hD hS => ?_)
      refine lv_aload_n hx hb dX5_tell_53 rfl (lv_at hl 1 rfl) ?_
      refine lv_iconst (v := nI 1) hx hb dX5_tell_54 (by decide) ?_
      refine zk_effVv (As := [.int (nI 1)]) (rest := []) (S := Unit) (fun _ => True) (fun _ => wMo m0 m1 m2 m3 m4 m5 m6 m7 m8 m9 m10 m11 m12 m13 m14 m15 fm (nI 31 * (nI 31 * tm + (nI 2)) + (nI 1)) at1 rdb rrm rD rP mt M) ⟨hx, hb, hml, hown, hts⟩ hK hP hD hS hA [0] [1, 2, 3, 4, 5] (wc := [(m0, .inr (5, [.int fm, .int (nI 31 * tm + (nI 2)), .ref m1, .ref m2, .ref m3, .int M.db, .int M.rm, .int (nI M.D), .int (nI M.P), .ref m4, .ref m5, .ref m6, .ref m7, .int (nI at1), .int rdb, .int rrm, .int (nI rD), .int (nI rP), .ref m8, .ref m9, .ref m10, .ref m11, .ref m12, .int (nI mt), .ref m13, .ref m14, .ref m15]))]) (wr := [(m4, .inl (cI, 5, .inl M.hard)), (m5, .inl (cI, 4, .inl M.kind)), (m6, .inl (cI, 4, .inl M.wit)), (m7, .inl (cI, 4, .inl M.pat)), (m12, .inl (cI, 4, .inl M.pret))]) rfl rfl (by decide) (by decide) (by decide) [5, 0, 1, 2, 3, 4] (fun (_ : Unit) => [(m0, .inr (5, [.int fm, .int (nI 31 * (nI 31 * tm + (nI 2)) + (nI 1)), .ref m1, .ref m2, .ref m3, .int M.db, .int M.rm, .int (nI M.D), .int (nI M.P), .ref m4, .ref m5, .ref m6, .ref m7, .int (nI at1), .int rdb, .int rrm, .int (nI rD), .int (nI rP), .ref m8, .ref m9, .ref m10, .ref m11, .ref m12, .int (nI mt), .ref m13, .ref m14, .ref m15])), (m4, .inl (cI, 5, .inl M.hard)), (m5, .inl (cI, 4, .inl M.kind)), (m6, .inl (cI, 4, .inl M.wit)), (m7, .inl (cI, 4, .inl M.pat)), (m12, .inl (cI, 4, .inl M.pret))]) (fun _ => rfl) (by decide) (m_begins l D cI H.size m0 m1 m2 m3 m4 m5 m6 m7 m8 m9 m10 m11 m12 m13 m14 m15 fm (nI 31 * tm + (nI 2)) at1 rdb rrm rD rP mt M (nI 1) ) (cwV 1 hts gX5_tell_X5_begins rfl rfl rfl hdX5_begins ⟨Nat.le_of_ble_eq_true rfl, Nat.le_of_ble_eq_true rfl⟩) rfl rfl rfl hl.1 rfl (Nat.le_of_ble_eq_true rfl) dX5_tell_55 ⟨Nat.le_of_ble_eq_true rfl, Nat.le_of_ble_eq_true rfl⟩ (fun _ H locs hw_6 hP hD hS => ?_)
      refine lv_iload_n hx hb dX5_tell_58 rfl (lv_at hl 0 rfl) ?_
      refine lv_bipush (v := nI 100) hx hb dX5_tell_59 (by decide) ?_
      refine lv_iadd hx hb dX5_tell_61 ?_
      have e_t : tellF M tm p = ((M.pat j) + (nI 100), nI 31 * (nI 31 * tm + (nI 2)) + (nI 1)) := by unfold tellF; rw [c_1, g_j]; rw [if_pos rfl, if_pos c_2]
      exact zk_retI hx hb hr hS (()) (by rw [e_t]) (by rw [e_t]; exact hP) (by rw [e_t]; exact hD) dX5_tell_62 hlocks
    by_cases c_7 : M.kind j = nI 2
    · refine lv_lookup (tgt := 63) hx hb dX5_tell_23 rfl (by rw [c_7]; try rfl) (by decide) ?_
      refine lv_aload_n hx hb dX5_tell_63 rfl (lv_at hl 1 rfl) ?_
      refine lv_iconst (v := nI 3) hx hb dX5_tell_64 (by decide) ?_
      refine zk_effVv (As := [.int (nI 3)]) (rest := []) (S := Unit) (fun _ => True) (fun _ => wMo m0 m1 m2 m3 m4 m5 m6 m7 m8 m9 m10 m11 m12 m13 m14 m15 fm (nI 31 * tm + (nI 3)) at1 rdb rrm rD rP mt M) ⟨hx, hb, hml, hown, hts⟩ hK hP hD hS hA [0] [1, 2, 3, 4, 5] (wc := [(m0, .inr (5, [.int fm, .int tm, .ref m1, .ref m2, .ref m3, .int M.db, .int M.rm, .int (nI M.D), .int (nI M.P), .ref m4, .ref m5, .ref m6, .ref m7, .int (nI at1), .int rdb, .int rrm, .int (nI rD), .int (nI rP), .ref m8, .ref m9, .ref m10, .ref m11, .ref m12, .int (nI mt), .ref m13, .ref m14, .ref m15]))]) (wr := [(m4, .inl (cI, 5, .inl M.hard)), (m5, .inl (cI, 4, .inl M.kind)), (m6, .inl (cI, 4, .inl M.wit)), (m7, .inl (cI, 4, .inl M.pat)), (m12, .inl (cI, 4, .inl M.pret))]) rfl rfl (by decide) (by decide) (by decide) [5, 0, 1, 2, 3, 4] (fun (_ : Unit) => [(m0, .inr (5, [.int fm, .int (nI 31 * tm + (nI 3)), .ref m1, .ref m2, .ref m3, .int M.db, .int M.rm, .int (nI M.D), .int (nI M.P), .ref m4, .ref m5, .ref m6, .ref m7, .int (nI at1), .int rdb, .int rrm, .int (nI rD), .int (nI rP), .ref m8, .ref m9, .ref m10, .ref m11, .ref m12, .int (nI mt), .ref m13, .ref m14, .ref m15])), (m4, .inl (cI, 5, .inl M.hard)), (m5, .inl (cI, 4, .inl M.kind)), (m6, .inl (cI, 4, .inl M.wit)), (m7, .inl (cI, 4, .inl M.pat)), (m12, .inl (cI, 4, .inl M.pret))]) (fun _ => rfl) (by decide) (m_begins l D cI sX.heap.size m0 m1 m2 m3 m4 m5 m6 m7 m8 m9 m10 m11 m12 m13 m14 m15 fm tm at1 rdb rrm rD rP mt M (nI 3) ) (cwV 1 hts gX5_tell_X5_begins rfl rfl rfl hdX5_begins ⟨Nat.le_of_ble_eq_true rfl, Nat.le_of_ble_eq_true rfl⟩) rfl rfl rfl hl.1 rfl (Nat.le_of_ble_eq_true rfl) dX5_tell_65 ⟨Nat.le_of_ble_eq_true rfl, Nat.le_of_ble_eq_true rfl⟩ (fun _ H locs hw_9 hP hD hS => ?_)
      refine lv_aload_n hx hb dX5_tell_68 rfl (lv_at hl 1 rfl) ?_
      refine lv_iconst (v := nI 2) hx hb dX5_tell_69 (by decide) ?_
      refine zk_effVv (As := [.int (nI 2)]) (rest := []) (S := Unit) (fun _ => True) (fun _ => wMo m0 m1 m2 m3 m4 m5 m6 m7 m8 m9 m10 m11 m12 m13 m14 m15 fm (nI 31 * (nI 31 * tm + (nI 3)) + (nI 2)) at1 rdb rrm rD rP mt M) ⟨hx, hb, hml, hown, hts⟩ hK hP hD hS hA [0] [1, 2, 3, 4, 5] (wc := [(m0, .inr (5, [.int fm, .int (nI 31 * tm + (nI 3)), .ref m1, .ref m2, .ref m3, .int M.db, .int M.rm, .int (nI M.D), .int (nI M.P), .ref m4, .ref m5, .ref m6, .ref m7, .int (nI at1), .int rdb, .int rrm, .int (nI rD), .int (nI rP), .ref m8, .ref m9, .ref m10, .ref m11, .ref m12, .int (nI mt), .ref m13, .ref m14, .ref m15]))]) (wr := [(m4, .inl (cI, 5, .inl M.hard)), (m5, .inl (cI, 4, .inl M.kind)), (m6, .inl (cI, 4, .inl M.wit)), (m7, .inl (cI, 4, .inl M.pat)), (m12, .inl (cI, 4, .inl M.pret))]) rfl rfl (by decide) (by decide) (by decide) [5, 0, 1, 2, 3, 4] (fun (_ : Unit) => [(m0, .inr (5, [.int fm, .int (nI 31 * (nI 31 * tm + (nI 3)) + (nI 2)), .ref m1, .ref m2, .ref m3, .int M.db, .int M.rm, .int (nI M.D), .int (nI M.P), .ref m4, .ref m5, .ref m6, .ref m7, .int (nI at1), .int rdb, .int rrm, .int (nI rD), .int (nI rP), .ref m8, .ref m9, .ref m10, .ref m11, .ref m12, .int (nI mt), .ref m13, .ref m14, .ref m15])), (m4, .inl (cI, 5, .inl M.hard)), (m5, .inl (cI, 4, .inl M.kind)), (m6, .inl (cI, 4, .inl M.wit)), (m7, .inl (cI, 4, .inl M.pat)), (m12, .inl (cI, 4, .inl M.pret))]) (fun _ => rfl) (by decide) (m_begins l D cI H.size m0 m1 m2 m3 m4 m5 m6 m7 m8 m9 m10 m11 m12 m13 m14 m15 fm (nI 31 * tm + (nI 3)) at1 rdb rrm rD rP mt M (nI 2) ) (cwV 1 hts gX5_tell_X5_begins rfl rfl rfl hdX5_begins ⟨Nat.le_of_ble_eq_true rfl, Nat.le_of_ble_eq_true rfl⟩) rfl rfl rfl hl.1 rfl (Nat.le_of_ble_eq_true rfl) dX5_tell_70 ⟨Nat.le_of_ble_eq_true rfl, Nat.le_of_ble_eq_true rfl⟩ (fun _ H locs hw_11 hP hD hS => ?_)
      refine lv_aload_n hx hb dX5_tell_73 rfl (lv_at hl 1 rfl) ?_
      refine lv_iconst (v := nI 1) hx hb dX5_tell_74 (by decide) ?_
      refine zk_effVv (As := [.int (nI 1)]) (rest := []) (S := Unit) (fun _ => True) (fun _ => wMo m0 m1 m2 m3 m4 m5 m6 m7 m8 m9 m10 m11 m12 m13 m14 m15 fm (nI 31 * (nI 31 * (nI 31 * tm + (nI 3)) + (nI 2)) + (nI 1)) at1 rdb rrm rD rP mt M) ⟨hx, hb, hml, hown, hts⟩ hK hP hD hS hA [0] [1, 2, 3, 4, 5] (wc := [(m0, .inr (5, [.int fm, .int (nI 31 * (nI 31 * tm + (nI 3)) + (nI 2)), .ref m1, .ref m2, .ref m3, .int M.db, .int M.rm, .int (nI M.D), .int (nI M.P), .ref m4, .ref m5, .ref m6, .ref m7, .int (nI at1), .int rdb, .int rrm, .int (nI rD), .int (nI rP), .ref m8, .ref m9, .ref m10, .ref m11, .ref m12, .int (nI mt), .ref m13, .ref m14, .ref m15]))]) (wr := [(m4, .inl (cI, 5, .inl M.hard)), (m5, .inl (cI, 4, .inl M.kind)), (m6, .inl (cI, 4, .inl M.wit)), (m7, .inl (cI, 4, .inl M.pat)), (m12, .inl (cI, 4, .inl M.pret))]) rfl rfl (by decide) (by decide) (by decide) [5, 0, 1, 2, 3, 4] (fun (_ : Unit) => [(m0, .inr (5, [.int fm, .int (nI 31 * (nI 31 * (nI 31 * tm + (nI 3)) + (nI 2)) + (nI 1)), .ref m1, .ref m2, .ref m3, .int M.db, .int M.rm, .int (nI M.D), .int (nI M.P), .ref m4, .ref m5, .ref m6, .ref m7, .int (nI at1), .int rdb, .int rrm, .int (nI rD), .int (nI rP), .ref m8, .ref m9, .ref m10, .ref m11, .ref m12, .int (nI mt), .ref m13, .ref m14, .ref m15])), (m4, .inl (cI, 5, .inl M.hard)), (m5, .inl (cI, 4, .inl M.kind)), (m6, .inl (cI, 4, .inl M.wit)), (m7, .inl (cI, 4, .inl M.pat)), (m12, .inl (cI, 4, .inl M.pret))]) (fun _ => rfl) (by decide) (m_begins l D cI H.size m0 m1 m2 m3 m4 m5 m6 m7 m8 m9 m10 m11 m12 m13 m14 m15 fm (nI 31 * (nI 31 * tm + (nI 3)) + (nI 2)) at1 rdb rrm rD rP mt M (nI 1) ) (cwV 1 hts gX5_tell_X5_begins rfl rfl rfl hdX5_begins ⟨Nat.le_of_ble_eq_true rfl, Nat.le_of_ble_eq_true rfl⟩) rfl rfl rfl hl.1 rfl (Nat.le_of_ble_eq_true rfl) dX5_tell_75 ⟨Nat.le_of_ble_eq_true rfl, Nat.le_of_ble_eq_true rfl⟩ (fun _ H locs hw_13 hP hD hS => ?_)
      refine lv_aload_n hx hb dX5_tell_78 rfl (lv_at hl 1 rfl) ?_
      refine lv_iconst (v := nI 1) hx hb dX5_tell_79 (by decide) ?_
      refine zk_effVv (As := [.int (nI 1)]) (rest := []) (S := Unit) (fun _ => True) (fun _ => wMo m0 m1 m2 m3 m4 m5 m6 m7 m8 m9 m10 m11 m12 m13 m14 m15 fm (nI 31 * (nI 31 * (nI 31 * (nI 31 * tm + (nI 3)) + (nI 2)) + (nI 1)) + (nI 1)) at1 rdb rrm rD rP mt M) ⟨hx, hb, hml, hown, hts⟩ hK hP hD hS hA [0] [1, 2, 3, 4, 5] (wc := [(m0, .inr (5, [.int fm, .int (nI 31 * (nI 31 * (nI 31 * tm + (nI 3)) + (nI 2)) + (nI 1)), .ref m1, .ref m2, .ref m3, .int M.db, .int M.rm, .int (nI M.D), .int (nI M.P), .ref m4, .ref m5, .ref m6, .ref m7, .int (nI at1), .int rdb, .int rrm, .int (nI rD), .int (nI rP), .ref m8, .ref m9, .ref m10, .ref m11, .ref m12, .int (nI mt), .ref m13, .ref m14, .ref m15]))]) (wr := [(m4, .inl (cI, 5, .inl M.hard)), (m5, .inl (cI, 4, .inl M.kind)), (m6, .inl (cI, 4, .inl M.wit)), (m7, .inl (cI, 4, .inl M.pat)), (m12, .inl (cI, 4, .inl M.pret))]) rfl rfl (by decide) (by decide) (by decide) [5, 0, 1, 2, 3, 4] (fun (_ : Unit) => [(m0, .inr (5, [.int fm, .int (nI 31 * (nI 31 * (nI 31 * (nI 31 * tm + (nI 3)) + (nI 2)) + (nI 1)) + (nI 1)), .ref m1, .ref m2, .ref m3, .int M.db, .int M.rm, .int (nI M.D), .int (nI M.P), .ref m4, .ref m5, .ref m6, .ref m7, .int (nI at1), .int rdb, .int rrm, .int (nI rD), .int (nI rP), .ref m8, .ref m9, .ref m10, .ref m11, .ref m12, .int (nI mt), .ref m13, .ref m14, .ref m15])), (m4, .inl (cI, 5, .inl M.hard)), (m5, .inl (cI, 4, .inl M.kind)), (m6, .inl (cI, 4, .inl M.wit)), (m7, .inl (cI, 4, .inl M.pat)), (m12, .inl (cI, 4, .inl M.pret))]) (fun _ => rfl) (by decide) (m_begins l D cI H.size m0 m1 m2 m3 m4 m5 m6 m7 m8 m9 m10 m11 m12 m13 m14 m15 fm (nI 31 * (nI 31 * (nI 31 * tm + (nI 3)) + (nI 2)) + (nI 1)) at1 rdb rrm rD rP mt M (nI 1) ) (cwV 1 hts gX5_tell_X5_begins rfl rfl rfl hdX5_begins ⟨Nat.le_of_ble_eq_true rfl, Nat.le_of_ble_eq_true rfl⟩) rfl rfl rfl hl.1 rfl (Nat.le_of_ble_eq_true rfl) dX5_tell_80 ⟨Nat.le_of_ble_eq_true rfl, Nat.le_of_ble_eq_true rfl⟩ (fun _ H locs hw_15 hP hD hS => ?_)
      refine lv_iconst (v := nI 2) hx hb dX5_tell_83 (by decide) ?_
      refine lv_iload_n hx hb dX5_tell_84 rfl (lv_at hl 0 rfl) ?_
      refine lv_imul hx hb dX5_tell_85 ?_
      refine lv_bipush (v := nI 100) hx hb dX5_tell_86 (by decide) ?_
      refine lv_iadd hx hb dX5_tell_88 ?_
      have e_t : tellF M tm p = (((nI 2) * (M.pat j)) + (nI 100), nI 31 * (nI 31 * (nI 31 * (nI 31 * tm + (nI 3)) + (nI 2)) + (nI 1)) + (nI 1)) := by unfold tellF; rw [c_1, g_j]; rw [if_pos rfl, if_neg c_2, if_pos c_7, tellS]
      exact zk_retI hx hb hr hS (()) (by rw [e_t]) (by rw [e_t]; exact hP) (by rw [e_t]; exact hD) dX5_tell_89 hlocks
    refine lv_lookup (tgt := 90) (off := 67) hx hb dX5_tell_23 rfl (show Op.lookupswitch.offset [(1, 25), (2, 40)] 67 (M.kind j).toInt = 67 from by rw [lv_osw c_2 (show (nI 1).toInt = 1 from by decide), lv_osw c_7 (show (nI 2).toInt = 2 from by decide)]; try rfl) (by decide) ?_
    refine lv_aload_n hx hb dX5_tell_90 rfl (lv_at hl 1 rfl) ?_
    refine lv_iconst (v := nI 1) hx hb dX5_tell_91 (by decide) ?_
    refine zk_effVv (As := [.int (nI 1)]) (rest := []) (S := Unit) (fun _ => True) (fun _ => wMo m0 m1 m2 m3 m4 m5 m6 m7 m8 m9 m10 m11 m12 m13 m14 m15 fm (nI 31 * tm + (nI 1)) at1 rdb rrm rD rP mt M) ⟨hx, hb, hml, hown, hts⟩ hK hP hD hS hA [0] [1, 2, 3, 4, 5] (wc := [(m0, .inr (5, [.int fm, .int tm, .ref m1, .ref m2, .ref m3, .int M.db, .int M.rm, .int (nI M.D), .int (nI M.P), .ref m4, .ref m5, .ref m6, .ref m7, .int (nI at1), .int rdb, .int rrm, .int (nI rD), .int (nI rP), .ref m8, .ref m9, .ref m10, .ref m11, .ref m12, .int (nI mt), .ref m13, .ref m14, .ref m15]))]) (wr := [(m4, .inl (cI, 5, .inl M.hard)), (m5, .inl (cI, 4, .inl M.kind)), (m6, .inl (cI, 4, .inl M.wit)), (m7, .inl (cI, 4, .inl M.pat)), (m12, .inl (cI, 4, .inl M.pret))]) rfl rfl (by decide) (by decide) (by decide) [5, 0, 1, 2, 3, 4] (fun (_ : Unit) => [(m0, .inr (5, [.int fm, .int (nI 31 * tm + (nI 1)), .ref m1, .ref m2, .ref m3, .int M.db, .int M.rm, .int (nI M.D), .int (nI M.P), .ref m4, .ref m5, .ref m6, .ref m7, .int (nI at1), .int rdb, .int rrm, .int (nI rD), .int (nI rP), .ref m8, .ref m9, .ref m10, .ref m11, .ref m12, .int (nI mt), .ref m13, .ref m14, .ref m15])), (m4, .inl (cI, 5, .inl M.hard)), (m5, .inl (cI, 4, .inl M.kind)), (m6, .inl (cI, 4, .inl M.wit)), (m7, .inl (cI, 4, .inl M.pat)), (m12, .inl (cI, 4, .inl M.pret))]) (fun _ => rfl) (by decide) (m_begins l D cI sX.heap.size m0 m1 m2 m3 m4 m5 m6 m7 m8 m9 m10 m11 m12 m13 m14 m15 fm tm at1 rdb rrm rD rP mt M (nI 1) ) (cwV 1 hts gX5_tell_X5_begins rfl rfl rfl hdX5_begins ⟨Nat.le_of_ble_eq_true rfl, Nat.le_of_ble_eq_true rfl⟩) rfl rfl rfl hl.1 rfl (Nat.le_of_ble_eq_true rfl) dX5_tell_92 ⟨Nat.le_of_ble_eq_true rfl, Nat.le_of_ble_eq_true rfl⟩ (fun _ H locs hw_17 hP hD hS => ?_)
    refine lv_iload_n hx hb dX5_tell_95 rfl (lv_at hl 0 rfl) ?_
    have e_t : tellF M tm p = (M.pat j, nI 31 * tm + (nI 1)) := by unfold tellF; rw [c_1, g_j]; rw [if_pos rfl, if_neg c_2, if_neg c_7]
    exact zk_retI hx hb hr hS (()) (by rw [e_t]) (by rw [e_t]; exact hP) (by rw [e_t]; exact hD) dX5_tell_96 hlocks
  · refine lv_iconst (v := (-1)) hx hb dX5_tell_8 (by decide) ?_
    have e_t : tellF M tm p = ((-1), tm) := by unfold tellF; rw [c_1]; rfl
    exact zk_retI hx hb hr hS (()) (by rw [e_t]) (by rw [e_t]; exact hP) (by rw [e_t]; exact hD) dX5_tell_9 hlocks
set_option maxHeartbeats 4000000 in
set_option maxRecDepth 100000 in
theorem mx_cap (l : Launch) (D : va_G) (cI : ClassId) (sz : Nat) (m0 : Nat) (m1 : Nat) (m2 : Nat) (m3 : Nat) (m4 : Nat) (m5 : Nat) (m6 : Nat) (m7 : Nat) (m8 : Nat) (m9 : Nat) (m10 : Nat) (m11 : Nat) (m12 : Nat) (m13 : Nat) (m14 : Nat) (m15 : Nat) (fm : Int32) (tm : Int32) (at1 : Nat) (rdb : Int32) (rrm : Int32) (rD : Nat) (rP : Nat) (mt : Nat) (M : YS) (p : Int32) (hok : OkY M) : Met l yX5_cap wsX5_cap ({ frames := 1, cells := 0, slots := 0, locals := 21 }) (PQ D cI [.ref m0, .int p] (wMo m0 m1 m2 m3 m4 m5 m6 m7 m8 m9 m10 m11 m12 m13 m14 m15 fm tm at1 rdb rrm rD rP mt M ++ wMa cI m4 m5 m6 m7 m12 M) sz) (QI (S := Unit) D (fun r _ => r = (capF M tm p).1) (fun _ => wMo m0 m1 m2 m3 m4 m5 m6 m7 m8 m9 m10 m11 m12 m13 m14 m15 fm ((capF M tm p).2) at1 rdb rrm rD rP mt M ++ wMa cI m4 m5 m6 m7 m12 M) (va_A (wMo m0 m1 m2 m3 m4 m5 m6 m7 m8 m9 m10 m11 m12 m13 m14 m15 fm tm at1 rdb rrm rD rP mt M ++ wMa cI m4 m5 m6 m7 m12 M) sz)) 0 0 (va_A (wMo m0 m1 m2 m3 m4 m5 m6 m7 m8 m9 m10 m11 m12 m13 m14 m15 fm tm at1 rdb rrm rD rP mt M ++ wMa cI m4 m5 m6 m7 m12 M) sz) := by
  refine zk_Q (QI (S := Unit) D (fun r _ => r = (capF M tm p).1) (fun _ => wMo m0 m1 m2 m3 m4 m5 m6 m7 m8 m9 m10 m11 m12 m13 m14 m15 fm ((capF M tm p).2) at1 rdb rrm rD rP mt M ++ wMa cI m4 m5 m6 m7 m12 M)) (cc := cX5_cap) (maxL := 2) (ret := (some .int)) (by decide) rfl (Nat.le_of_ble_eq_true rfl) ?_
  intro pX eX sX mX bX tX cX hx hb hr hlocks hml hown hmn hts hP hK A hA hD hS ls hl
  have hl : lv_has ls 2 [(0, .ref m0), (1, .int p)] := hl
  have hP : va_P D vwCl [(m0, .inr (5, [.int fm, .int tm, .ref m1, .ref m2, .ref m3, .int M.db, .int M.rm, .int (nI M.D), .int (nI M.P), .ref m4, .ref m5, .ref m6, .ref m7, .int (nI at1), .int rdb, .int rrm, .int (nI rD), .int (nI rP), .ref m8, .ref m9, .ref m10, .ref m11, .ref m12, .int (nI mt), .ref m13, .ref m14, .ref m15])), (m4, .inl (cI, 5, .inl M.hard)), (m5, .inl (cI, 4, .inl M.kind)), (m6, .inl (cI, 4, .inl M.wit)), (m7, .inl (cI, 4, .inl M.pat)), (m12, .inl (cI, 4, .inl M.pret))] sX.heap := hP
  have hD : va_D A [(m0, .inr (5, [.int fm, .int tm, .ref m1, .ref m2, .ref m3, .int M.db, .int M.rm, .int (nI M.D), .int (nI M.P), .ref m4, .ref m5, .ref m6, .ref m7, .int (nI at1), .int rdb, .int rrm, .int (nI rD), .int (nI rP), .ref m8, .ref m9, .ref m10, .ref m11, .ref m12, .int (nI mt), .ref m13, .ref m14, .ref m15])), (m4, .inl (cI, 5, .inl M.hard)), (m5, .inl (cI, 4, .inl M.kind)), (m6, .inl (cI, 4, .inl M.wit)), (m7, .inl (cI, 4, .inl M.pat)), (m12, .inl (cI, 4, .inl M.pret))] := hD
  have f_22 := hts (.fieldLink RX5 22 "DunceSeeModel" "kind" "[I") (by decide +kernel)
  have inX5 : ∀ w ∈ wsX50, w ∈ wsX5_cap := fun w h => List.mem_cons_of_mem _ (List.mem_append_right _ h)
  have hP4 : M.P ≤ 4 := hok.2
  refine lv_aload_n hx hb dX5_cap_0 rfl (lv_at hl 0 rfl) ?_
  refine lv_iload_n hx hb dX5_cap_1 rfl (lv_at hl 1 rfl) ?_
  refine zk_callVi (As := [.int p]) (rest := []) (bI (isP M.P p)) ⟨hx, hb, hml, hown, hts⟩ hK hP [0, 1, 2, 3, 4, 5] rfl (m_isPupil l D cI m0 m1 m2 m3 m4 m5 m6 m7 m8 m9 m10 m11 m12 m13 m14 m15 fm tm at1 rdb rrm rD rP mt M p ) (cwV 1 hts gX5_cap_X5_isPupil rfl rfl rfl hdX5_isPupil ⟨Nat.le_of_ble_eq_true rfl, Nat.le_of_ble_eq_true rfl⟩) rfl rfl rfl hl.1 rfl (Nat.le_of_ble_eq_true rfl) dX5_cap_2 ⟨Nat.le_of_ble_eq_true rfl, Nat.le_of_ble_eq_true rfl⟩ ?_
  refine zk_ifneB (tgt := 10) hx hb dX5_cap_5 (by decide) (fun c_1 => ?_) (fun c_1 => ?_)
  · obtain ⟨j, hj, e_j, g_j⟩ := isP_of (by omega) c_1
    rw [e_j] at hl
    refine lv_aload_n hx hb dX5_cap_10 rfl (lv_at hl 0 rfl) ?_
    refine lv_aload_n hx hb dX5_cap_11 rfl (lv_at hl 0 rfl) ?_
    refine va_get (D := D) (ci := 5) (v := .ref m5) (C := RX5) (T := TX5) (N := 27) hx hb hts inX5 hown hK.1 hP 0 rfl rfl 10 (by decide) f_22 (fun _ h9 => h9) rfl dX5_cap_12 ?_
    refine lv_iload_n hx hb dX5_cap_15 rfl (lv_at hl 1 rfl) ?_
    refine zk_iald hx hb hK hP 2 rfl (by omega) (by decide) dX5_cap_16 ?_
    refine lv_iconst (v := nI 2) hx hb dX5_cap_17 (by decide) ?_
    refine lv_icmp_ne (tgt := 25) hx hb dX5_cap_18 (by decide) (fun c_2 => ?_) (fun c_2 => ?_)
    · refine lv_iconst (v := nI 4) hx hb dX5_cap_25 (by decide) ?_
      refine zk_effVv (As := [.int (nI 4)]) (rest := []) (S := Unit) (fun _ => True) (fun _ => wMo m0 m1 m2 m3 m4 m5 m6 m7 m8 m9 m10 m11 m12 m13 m14 m15 fm (nI 31 * tm + (nI 4)) at1 rdb rrm rD rP mt M) ⟨hx, hb, hml, hown, hts⟩ hK hP hD hS hA [0] [1, 2, 3, 4, 5] (wc := [(m0, .inr (5, [.int fm, .int tm, .ref m1, .ref m2, .ref m3, .int M.db, .int M.rm, .int (nI M.D), .int (nI M.P), .ref m4, .ref m5, .ref m6, .ref m7, .int (nI at1), .int rdb, .int rrm, .int (nI rD), .int (nI rP), .ref m8, .ref m9, .ref m10, .ref m11, .ref m12, .int (nI mt), .ref m13, .ref m14, .ref m15]))]) (wr := [(m4, .inl (cI, 5, .inl M.hard)), (m5, .inl (cI, 4, .inl M.kind)), (m6, .inl (cI, 4, .inl M.wit)), (m7, .inl (cI, 4, .inl M.pat)), (m12, .inl (cI, 4, .inl M.pret))]) rfl rfl (by decide) (by decide) (by decide) [5, 0, 1, 2, 3, 4] (fun (_ : Unit) => [(m0, .inr (5, [.int fm, .int (nI 31 * tm + (nI 4)), .ref m1, .ref m2, .ref m3, .int M.db, .int M.rm, .int (nI M.D), .int (nI M.P), .ref m4, .ref m5, .ref m6, .ref m7, .int (nI at1), .int rdb, .int rrm, .int (nI rD), .int (nI rP), .ref m8, .ref m9, .ref m10, .ref m11, .ref m12, .int (nI mt), .ref m13, .ref m14, .ref m15])), (m4, .inl (cI, 5, .inl M.hard)), (m5, .inl (cI, 4, .inl M.kind)), (m6, .inl (cI, 4, .inl M.wit)), (m7, .inl (cI, 4, .inl M.pat)), (m12, .inl (cI, 4, .inl M.pret))]) (fun _ => rfl) (by decide) (m_begins l D cI sX.heap.size m0 m1 m2 m3 m4 m5 m6 m7 m8 m9 m10 m11 m12 m13 m14 m15 fm tm at1 rdb rrm rD rP mt M (nI 4) ) (cwV 1 hts gX5_cap_X5_begins rfl rfl rfl hdX5_begins ⟨Nat.le_of_ble_eq_true rfl, Nat.le_of_ble_eq_true rfl⟩) rfl rfl rfl hl.1 rfl (Nat.le_of_ble_eq_true rfl) dX5_cap_26 ⟨Nat.le_of_ble_eq_true rfl, Nat.le_of_ble_eq_true rfl⟩ (fun _ H locs hw_4 hP hD hS => ?_)
      refine lv_aload_n hx hb dX5_cap_29 rfl (lv_at hl 0 rfl) ?_
      refine va_get (D := D) (ci := 5) (v := .ref m5) (C := RX5) (T := TX5) (N := 27) hx hb hts inX5 hown hK.1 hP 0 rfl rfl 10 (by decide) f_22 (fun _ h9 => h9) rfl dX5_cap_30 ?_
      refine lv_iload_n hx hb dX5_cap_33 rfl (lv_at hl 1 rfl) ?_
      refine zk_iald hx hb hK hP 2 rfl (by omega) (by decide) dX5_cap_34 ?_
      refine lv_iconst (v := nI 2) hx hb dX5_cap_35 (by decide) ?_
      refine lv_icmp_ne (tgt := 44) hx hb dX5_cap_36 (by decide) (fun c_5 => ?_) (fun c_5 => ?_)
      · refine lv_iload_n hx hb dX5_cap_44 rfl (lv_at hl 1 rfl) ?_
        have e_t : capF M tm p = (nI j, nI 31 * tm + (nI 4)) := by unfold capF; rw [c_1, g_j]; rw [if_pos rfl, if_neg c_2, e_j]
        exact zk_retI hx hb hr hS (()) (by rw [e_t]) (by rw [e_t]; exact hP) (by rw [e_t]; exact hD) dX5_cap_45 hlocks
      · exact (by exact absurd c_5 c_2)
    · refine lv_iconst (v := nI 5) hx hb dX5_cap_21 (by decide) ?_
      refine lv_goto (tgt := 26) hx hb dX5_cap_22 (by decide) ?_
      refine zk_effVv (As := [.int (nI 5)]) (rest := []) (S := Unit) (fun _ => True) (fun _ => wMo m0 m1 m2 m3 m4 m5 m6 m7 m8 m9 m10 m11 m12 m13 m14 m15 fm (nI 31 * tm + (nI 5)) at1 rdb rrm rD rP mt M) ⟨hx, hb, hml, hown, hts⟩ hK hP hD hS hA [0] [1, 2, 3, 4, 5] (wc := [(m0, .inr (5, [.int fm, .int tm, .ref m1, .ref m2, .ref m3, .int M.db, .int M.rm, .int (nI M.D), .int (nI M.P), .ref m4, .ref m5, .ref m6, .ref m7, .int (nI at1), .int rdb, .int rrm, .int (nI rD), .int (nI rP), .ref m8, .ref m9, .ref m10, .ref m11, .ref m12, .int (nI mt), .ref m13, .ref m14, .ref m15]))]) (wr := [(m4, .inl (cI, 5, .inl M.hard)), (m5, .inl (cI, 4, .inl M.kind)), (m6, .inl (cI, 4, .inl M.wit)), (m7, .inl (cI, 4, .inl M.pat)), (m12, .inl (cI, 4, .inl M.pret))]) rfl rfl (by decide) (by decide) (by decide) [5, 0, 1, 2, 3, 4] (fun (_ : Unit) => [(m0, .inr (5, [.int fm, .int (nI 31 * tm + (nI 5)), .ref m1, .ref m2, .ref m3, .int M.db, .int M.rm, .int (nI M.D), .int (nI M.P), .ref m4, .ref m5, .ref m6, .ref m7, .int (nI at1), .int rdb, .int rrm, .int (nI rD), .int (nI rP), .ref m8, .ref m9, .ref m10, .ref m11, .ref m12, .int (nI mt), .ref m13, .ref m14, .ref m15])), (m4, .inl (cI, 5, .inl M.hard)), (m5, .inl (cI, 4, .inl M.kind)), (m6, .inl (cI, 4, .inl M.wit)), (m7, .inl (cI, 4, .inl M.pat)), (m12, .inl (cI, 4, .inl M.pret))]) (fun _ => rfl) (by decide) (m_begins l D cI sX.heap.size m0 m1 m2 m3 m4 m5 m6 m7 m8 m9 m10 m11 m12 m13 m14 m15 fm tm at1 rdb rrm rD rP mt M (nI 5) ) (cwV 1 hts gX5_cap_X5_begins rfl rfl rfl hdX5_begins ⟨Nat.le_of_ble_eq_true rfl, Nat.le_of_ble_eq_true rfl⟩) rfl rfl rfl hl.1 rfl (Nat.le_of_ble_eq_true rfl) dX5_cap_26 ⟨Nat.le_of_ble_eq_true rfl, Nat.le_of_ble_eq_true rfl⟩ (fun _ H locs hw_7 hP hD hS => ?_)
      refine lv_aload_n hx hb dX5_cap_29 rfl (lv_at hl 0 rfl) ?_
      refine va_get (D := D) (ci := 5) (v := .ref m5) (C := RX5) (T := TX5) (N := 27) hx hb hts inX5 hown hK.1 hP 0 rfl rfl 10 (by decide) f_22 (fun _ h9 => h9) rfl dX5_cap_30 ?_
      refine lv_iload_n hx hb dX5_cap_33 rfl (lv_at hl 1 rfl) ?_
      refine zk_iald hx hb hK hP 2 rfl (by omega) (by decide) dX5_cap_34 ?_
      refine lv_iconst (v := nI 2) hx hb dX5_cap_35 (by decide) ?_
      refine lv_icmp_ne (tgt := 44) hx hb dX5_cap_36 (by decide) (fun c_8 => ?_) (fun c_8 => ?_)
      · exact (by exact absurd c_2 c_8)
      · refine lv_bipush (v := nI 70) hx hb dX5_cap_39 (by decide) ?_
        refine lv_goto (tgt := 45) hx hb dX5_cap_41 (by decide) ?_
        have e_t : capF M tm p = (nI 70, nI 31 * tm + (nI 5)) := by unfold capF; rw [c_1, g_j]; rw [if_pos rfl, if_pos c_2]
        exact zk_retI hx hb hr hS (()) (by rw [e_t]) (by rw [e_t]; exact hP) (by rw [e_t]; exact hD) dX5_cap_45 hlocks
  · refine lv_iconst (v := (-1)) hx hb dX5_cap_8 (by decide) ?_
    have e_t : capF M tm p = ((-1), tm) := by unfold capF; rw [c_1]; rfl
    exact zk_retI hx hb hr hS (()) (by rw [e_t]) (by rw [e_t]; exact hP) (by rw [e_t]; exact hD) dX5_cap_9 hlocks
set_option maxHeartbeats 4000000 in
set_option maxRecDepth 100000 in
theorem mx_as (l : Launch) (D : va_G) (cI : ClassId) (sz : Nat) (m0 : Nat) (m1 : Nat) (m2 : Nat) (m3 : Nat) (m4 : Nat) (m5 : Nat) (m6 : Nat) (m7 : Nat) (m8 : Nat) (m9 : Nat) (m10 : Nat) (m11 : Nat) (m12 : Nat) (m13 : Nat) (m14 : Nat) (m15 : Nat) (fm : Int32) (tm : Int32) (at1 : Nat) (rdb : Int32) (rrm : Int32) (rD : Nat) (rP : Nat) (mt : Nat) (M : YS) (p : Int32) (k : Int32) (hok : OkY M) : Met l yX5_as wsX5_as ({ frames := 1, cells := 0, slots := 0, locals := 22 }) (PQ D cI [.ref m0, .int p, .int k] (wMo m0 m1 m2 m3 m4 m5 m6 m7 m8 m9 m10 m11 m12 m13 m14 m15 fm tm at1 rdb rrm rD rP mt M ++ wMa cI m4 m5 m6 m7 m12 M) sz) (QI (S := Unit) D (fun r _ => r = (asF M p k).1) (fun _ => wMo m0 m1 m2 m3 m4 m5 m6 m7 m8 m9 m10 m11 m12 m13 m14 m15 ((asF M p k).2) tm at1 rdb rrm rD rP mt M ++ wMa cI m4 m5 m6 m7 m12 M) (va_A (wMo m0 m1 m2 m3 m4 m5 m6 m7 m8 m9 m10 m11 m12 m13 m14 m15 fm tm at1 rdb rrm rD rP mt M ++ wMa cI m4 m5 m6 m7 m12 M) sz)) 0 0 (va_A (wMo m0 m1 m2 m3 m4 m5 m6 m7 m8 m9 m10 m11 m12 m13 m14 m15 fm tm at1 rdb rrm rD rP mt M ++ wMa cI m4 m5 m6 m7 m12 M) sz) := by
  refine zk_Q (QI (S := Unit) D (fun r _ => r = (asF M p k).1) (fun _ => wMo m0 m1 m2 m3 m4 m5 m6 m7 m8 m9 m10 m11 m12 m13 m14 m15 ((asF M p k).2) tm at1 rdb rrm rD rP mt M ++ wMa cI m4 m5 m6 m7 m12 M)) (cc := cX5_as) (maxL := 3) (ret := (some .int)) (by decide) rfl (Nat.le_of_ble_eq_true rfl) ?_
  intro pX eX sX mX bX tX cX hx hb hr hlocks hml hown hmn hts hP hK A hA hD hS ls hl
  have hl : lv_has ls 3 [(0, .ref m0), (1, .int p), (2, .int k)] := hl
  have hP : va_P D vwCl [(m0, .inr (5, [.int fm, .int tm, .ref m1, .ref m2, .ref m3, .int M.db, .int M.rm, .int (nI M.D), .int (nI M.P), .ref m4, .ref m5, .ref m6, .ref m7, .int (nI at1), .int rdb, .int rrm, .int (nI rD), .int (nI rP), .ref m8, .ref m9, .ref m10, .ref m11, .ref m12, .int (nI mt), .ref m13, .ref m14, .ref m15])), (m4, .inl (cI, 5, .inl M.hard)), (m5, .inl (cI, 4, .inl M.kind)), (m6, .inl (cI, 4, .inl M.wit)), (m7, .inl (cI, 4, .inl M.pat)), (m12, .inl (cI, 4, .inl M.pret))] sX.heap := hP
  have hD : va_D A [(m0, .inr (5, [.int fm, .int tm, .ref m1, .ref m2, .ref m3, .int M.db, .int M.rm, .int (nI M.D), .int (nI M.P), .ref m4, .ref m5, .ref m6, .ref m7, .int (nI at1), .int rdb, .int rrm, .int (nI rD), .int (nI rP), .ref m8, .ref m9, .ref m10, .ref m11, .ref m12, .int (nI mt), .ref m13, .ref m14, .ref m15])), (m4, .inl (cI, 5, .inl M.hard)), (m5, .inl (cI, 4, .inl M.kind)), (m6, .inl (cI, 4, .inl M.wit)), (m7, .inl (cI, 4, .inl M.pat)), (m12, .inl (cI, 4, .inl M.pret))] := hD
  have f_55 := hts (.fieldLink RX5 55 "DunceSeeModel" "fault" "I") (by decide +kernel)
  have f_22 := hts (.fieldLink RX5 22 "DunceSeeModel" "kind" "[I") (by decide +kernel)
  have inX5 : ∀ w ∈ wsX50, w ∈ wsX5_as := fun w h => List.mem_cons_of_mem _ (List.mem_append_right _ h)
  have hP4 : M.P ≤ 4 := hok.2
  refine lv_aload_n hx hb dX5_as_0 rfl (lv_at hl 0 rfl) ?_
  refine lv_iconst (v := nI 0) hx hb dX5_as_1 (by decide) ?_
  refine va_put (D := D) (ci := 5) (v := .int (nI 0)) (ty := .int) (C := RX5) (T := TX5) (N := 27) hx hb hts inX5 tyX5 tyX5_ok nmX5 hown hK.1 hP hD hS 0 rfl rfl 0 (by decide) f_55 (fun _ h9 => h9) rfl (by decide +kernel) rfl rfl (Nat.le_of_ble_eq_true rfl) dX5_as_2 (fun H locs hP hD hS => ?_)
  have hP : va_P D vwCl [(m0, .inr (5, [.int (nI 0), .int tm, .ref m1, .ref m2, .ref m3, .int M.db, .int M.rm, .int (nI M.D), .int (nI M.P), .ref m4, .ref m5, .ref m6, .ref m7, .int (nI at1), .int rdb, .int rrm, .int (nI rD), .int (nI rP), .ref m8, .ref m9, .ref m10, .ref m11, .ref m12, .int (nI mt), .ref m13, .ref m14, .ref m15])), (m4, .inl (cI, 5, .inl M.hard)), (m5, .inl (cI, 4, .inl M.kind)), (m6, .inl (cI, 4, .inl M.wit)), (m7, .inl (cI, 4, .inl M.pat)), (m12, .inl (cI, 4, .inl M.pret))] H := hP
  have hD : va_D A [(m0, .inr (5, [.int (nI 0), .int tm, .ref m1, .ref m2, .ref m3, .int M.db, .int M.rm, .int (nI M.D), .int (nI M.P), .ref m4, .ref m5, .ref m6, .ref m7, .int (nI at1), .int rdb, .int rrm, .int (nI rD), .int (nI rP), .ref m8, .ref m9, .ref m10, .ref m11, .ref m12, .int (nI mt), .ref m13, .ref m14, .ref m15])), (m4, .inl (cI, 5, .inl M.hard)), (m5, .inl (cI, 4, .inl M.kind)), (m6, .inl (cI, 4, .inl M.wit)), (m7, .inl (cI, 4, .inl M.pat)), (m12, .inl (cI, 4, .inl M.pret))] := hD
  refine lv_aload_n hx hb dX5_as_5 rfl (lv_at hl 0 rfl) ?_
  refine lv_iload_n hx hb dX5_as_6 rfl (lv_at hl 1 rfl) ?_
  refine zk_callVi (As := [.int p]) (rest := []) (bI (isP M.P p)) ⟨hx, hb, hml, hown, hts⟩ hK hP [0, 1, 2, 3, 4, 5] rfl (m_isPupil l D cI m0 m1 m2 m3 m4 m5 m6 m7 m8 m9 m10 m11 m12 m13 m14 m15 (nI 0) tm at1 rdb rrm rD rP mt M p ) (cwV 1 hts gX5_as_X5_isPupil rfl rfl rfl hdX5_isPupil ⟨Nat.le_of_ble_eq_true rfl, Nat.le_of_ble_eq_true rfl⟩) rfl rfl rfl hl.1 rfl (Nat.le_of_ble_eq_true rfl) dX5_as_7 ⟨Nat.le_of_ble_eq_true rfl, Nat.le_of_ble_eq_true rfl⟩ ?_
  refine zk_ifneB (tgt := 15) hx hb dX5_as_10 (by decide) (fun c_1 => ?_) (fun c_1 => ?_)
  · obtain ⟨j, hj, e_j, g_j⟩ := isP_of (by omega) c_1
    rw [e_j] at hl
    refine lv_iload_n hx hb dX5_as_15 rfl (lv_at hl 2 rfl) ?_
    refine lv_iconst (v := nI 0) hx hb dX5_as_16 (by decide) ?_
    refine lv_iconst (v := nI 2) hx hb dX5_as_17 (by decide) ?_
    refine zk_callSi (As := [.int k, .int (nI 0), .int (nI 2)]) (rest := []) (bI (wiB k (nI 0) (nI 2))) ⟨hx, hb, hml, hown, hts⟩ hK hP [] rfl (m_within l D cI k (nI 0) (nI 2) ) (va_cwS 3 hts gX5_as_X5_within rfl rfl rfl hdX5_within ⟨Nat.le_of_ble_eq_true rfl, Nat.le_of_ble_eq_true rfl⟩) rfl hl.1 rfl (Nat.le_of_ble_eq_true rfl) dX5_as_18 ⟨Nat.le_of_ble_eq_true rfl, Nat.le_of_ble_eq_true rfl⟩ ?_
    refine zk_ifneB (tgt := 27) hx hb dX5_as_21 (by decide) (fun c_2 => ?_) (fun c_2 => ?_)
    · have c_w : (decide (0 ≤ k) && decide (k < nI 3)) = true := by rw [← c_2]; exact (wiB_isP (n := 2) (by omega) k).symm
      refine lv_aload_n hx hb dX5_as_27 rfl (lv_at hl 0 rfl) ?_
      refine va_get (D := D) (ci := 5) (v := .ref m5) (C := RX5) (T := TX5) (N := 27) hx hb hts inX5 hown hK.1 hP 0 rfl rfl 10 (by decide) f_22 (fun _ h9 => h9) rfl dX5_as_28 ?_
      refine lv_iload_n hx hb dX5_as_31 rfl (lv_at hl 1 rfl) ?_
      refine zk_iald hx hb hK hP 2 rfl (by omega) (by decide) dX5_as_32 ?_
      refine lv_iload_n hx hb dX5_as_33 rfl (lv_at hl 2 rfl) ?_
      refine lv_icmp_lt (tgt := 41) hx hb dX5_as_34 (by decide) (fun c_3 => ?_) (fun c_3 => ?_)
      · refine lv_aload_n hx hb dX5_as_41 rfl (lv_at hl 0 rfl) ?_
        refine lv_iconst (v := nI 2) hx hb dX5_as_42 (by decide) ?_
        refine zk_effVi (As := [.int (nI 2)]) (rest := []) (S := Unit) (fun r _ => r = (-10) - (nI 2)) (fun _ => wMo m0 m1 m2 m3 m4 m5 m6 m7 m8 m9 m10 m11 m12 m13 m14 m15 (nI 2) tm at1 rdb rrm rD rP mt M) ⟨hx, hb, hml, hown, hts⟩ hK hP hD hS hA [0] [1, 2, 3, 4, 5] (wc := [(m0, .inr (5, [.int (nI 0), .int tm, .ref m1, .ref m2, .ref m3, .int M.db, .int M.rm, .int (nI M.D), .int (nI M.P), .ref m4, .ref m5, .ref m6, .ref m7, .int (nI at1), .int rdb, .int rrm, .int (nI rD), .int (nI rP), .ref m8, .ref m9, .ref m10, .ref m11, .ref m12, .int (nI mt), .ref m13, .ref m14, .ref m15]))]) (wr := [(m4, .inl (cI, 5, .inl M.hard)), (m5, .inl (cI, 4, .inl M.kind)), (m6, .inl (cI, 4, .inl M.wit)), (m7, .inl (cI, 4, .inl M.pat)), (m12, .inl (cI, 4, .inl M.pret))]) rfl rfl (by decide) (by decide) (by decide) [5, 0, 1, 2, 3, 4] (fun (_ : Unit) => [(m0, .inr (5, [.int (nI 2), .int tm, .ref m1, .ref m2, .ref m3, .int M.db, .int M.rm, .int (nI M.D), .int (nI M.P), .ref m4, .ref m5, .ref m6, .ref m7, .int (nI at1), .int rdb, .int rrm, .int (nI rD), .int (nI rP), .ref m8, .ref m9, .ref m10, .ref m11, .ref m12, .int (nI mt), .ref m13, .ref m14, .ref m15])), (m4, .inl (cI, 5, .inl M.hard)), (m5, .inl (cI, 4, .inl M.kind)), (m6, .inl (cI, 4, .inl M.wit)), (m7, .inl (cI, 4, .inl M.pat)), (m12, .inl (cI, 4, .inl M.pret))]) (fun _ => rfl) (by decide) (m_fails l D cI H.size m0 m1 m2 m3 m4 m5 m6 m7 m8 m9 m10 m11 m12 m13 m14 m15 (nI 0) tm at1 rdb rrm rD rP mt M (nI 2) ) (cwV 1 hts gX5_as_X5_fails rfl rfl rfl hdX5_fails ⟨Nat.le_of_ble_eq_true rfl, Nat.le_of_ble_eq_true rfl⟩) rfl rfl rfl hl.1 rfl (Nat.le_of_ble_eq_true rfl) dX5_as_43 ⟨Nat.le_of_ble_eq_true rfl, Nat.le_of_ble_eq_true rfl⟩ (fun r_4 _ H locs hw_5 hP hD hS => ?_)
        have e_r_4 : r_4 = (-12) := hw_5.trans (by decide)
        rw [e_r_4]
        have e_t : asF M p k = ((-12), (nI 2)) := by simp [asF, c_1, g_j, c_w, c_3, (Int32.not_le.mpr c_3)]
        exact zk_retI hx hb hr hS (()) (by rw [e_t]) (by rw [e_t]; exact hP) (by rw [e_t]; exact hD) dX5_as_46 hlocks
      · have c_3 := Int32.not_lt.mp c_3
        refine lv_iconst (v := nI 1) hx hb dX5_as_37 (by decide) ?_
        refine lv_goto (tgt := 46) hx hb dX5_as_38 (by decide) ?_
        have e_t : asF M p k = (nI 1, nI 0) := by simp [asF, c_1, g_j, c_w, c_3, (Int32.not_lt.mpr c_3)]
        exact zk_retI hx hb hr hS (()) (by rw [e_t]) (by rw [e_t]; exact hP) (by rw [e_t]; exact hD) dX5_as_46 hlocks
    · have c_w : (decide (0 ≤ k) && decide (k < nI 3)) = false := by rw [← c_2]; exact (wiB_isP (n := 2) (by omega) k).symm
      refine lv_bipush (v := (-2)) hx hb dX5_as_24 (by decide) ?_
      have e_t : asF M p k = ((-2), nI 0) := by simp [asF, c_1, g_j, c_w]
      exact zk_retI hx hb hr hS (()) (by rw [e_t]) (by rw [e_t]; exact hP) (by rw [e_t]; exact hD) dX5_as_26 hlocks
  · refine lv_iconst (v := (-1)) hx hb dX5_as_13 (by decide) ?_
    have e_t : asF M p k = ((-1), nI 0) := by simp [asF, c_1]
    exact zk_retI hx hb hr hS (()) (by rw [e_t]) (by rw [e_t]; exact hP) (by rw [e_t]; exact hD) dX5_as_14 hlocks
