def okC (mc : Nat → Int32) (p e a b : Nat) : Bool := decide (p < e) && wiB (mc p) (nI (48 + a)) (nI (48 + b))
def sgC (mc : Nat → Int32) (p e : Nat) (c : Int32) : Bool := decide (p < e) && decide (mc p = c)
theorem wi_v {x : Int32} {a b : Nat} (ha : a ≤ 9) (hb : b ≤ 9) (h : wiB x (nI (48 + a)) (nI (48 + b)) = true) : ∃ v : Nat, a ≤ v ∧ v ≤ b ∧ x = nI (48 + v) := by
  unfold wiB at h
  rw [Bool.and_eq_true, decide_eq_true_eq, decide_eq_true_eq] at h
  have h0 : (0 : Int32) ≤ x := Int32.le_trans (nI_pos' (n := 48 + a) (by omega)) h.1
  obtain ⟨j, hj, e⟩ := nI_of (x := x) (Int32.not_lt.mpr h0)
  subst e
  have h2 := (nI_leI hj (by omega)).mp h.2
  have h1 := (nI_leI (by omega) hj).mp h.1
  exact ⟨j - 48, by omega, by omega, by congr 1; omega⟩
theorem wi_of {v a b : Nat} (hb : b ≤ 9) (h1 : a ≤ v) (h2 : v ≤ b) : wiB (nI (48 + v)) (nI (48 + a)) (nI (48 + b)) = true := by
  unfold wiB
  rw [decide_eq_true (nI_le (by omega) (by omega)), decide_eq_true (nI_le (by omega) (by omega))]; rfl
theorem okC_t {mc : Nat → Int32} {p e a b : Nat} (ha : a ≤ 9) (hb : b ≤ 9) (h : okC mc p e a b = true) : p < e ∧ ∃ v : Nat, a ≤ v ∧ v ≤ b ∧ mc p = nI (48 + v) := by
  unfold okC at h
  rw [Bool.and_eq_true, decide_eq_true_eq] at h
  exact ⟨h.1, wi_v ha hb h.2⟩
theorem okC_f {mc : Nat → Int32} {p e a b : Nat} (hb : b ≤ 9) (h : okC mc p e a b = false) (hp : p < e) : ∀ v : Nat, a ≤ v → v ≤ b → ¬ mc p = nI (48 + v) := by
  intro v h1 h2 q
  unfold okC at h
  rw [q, wi_of hb h1 h2, decide_eq_true hp] at h
  cases h
theorem sgC_t {mc : Nat → Int32} {p e : Nat} {c : Int32} (h : sgC mc p e c = true) : p < e ∧ mc p = c := by
  unfold sgC at h
  rw [Bool.and_eq_true, decide_eq_true_eq, decide_eq_true_eq] at h
  exact h
theorem sgC_f {mc : Nat → Int32} {p e : Nat} {c : Int32} (h : sgC mc p e c = false) (hp : p < e) : ¬ mc p = c := by
  intro q
  unfold sgC at h
  rw [q, decide_eq_true hp, decide_eq_true rfl] at h
  cases h
theorem dg48 {v : Nat} (h : v ≤ 9) : nI (48 + v) - nI 48 = nI v := by
  rw [pk_sub (by omega)]; congr 1; omega
abbrev wMc (cI : ClassId) (m3 : Nat) (mc : Nat → Int32) : va_W := [(m3, .inl (cI, 240, .inl mc))]
abbrev wMh (cI : ClassId) (m8 : Nat) (rh : Nat → Int32) : va_W := [(m8, .inl (cI, 5, .inl rh))]
abbrev wMk (cI : ClassId) (m9 m10 m11 : Nat) (rk rw rp : Nat → Int32) : va_W := [(m9, .inl (cI, 4, .inl rk)), (m10, .inl (cI, 4, .inl rw)), (m11, .inl (cI, 4, .inl rp))]
/-- how many in a row are so, from k on, n at most -/
def lead : Nat → (Nat → Bool) → Nat → Nat
  | 0, _, k => k
  | n + 1, f, k => if f k then lead n f (k + 1) else k
theorem lead_at {f : Nat → Bool} : ∀ (n k m : Nat), k ≤ m → m ≤ k + n → (∀ q, k ≤ q → q < m → f q = true) → (m = k + n ∨ f m = false) → lead n f k = m := by
  intro n
  induction n with
  | zero => intro k m h1 h2 _ _; show k = m; omega
  | succ n ih =>
    intro k m h1 h2 h3 h4
    unfold lead
    by_cases e : m = k
    · subst e
      rcases h4 with h | h
      · omega
      · rw [h]; rfl
    · rw [h3 k (Nat.le_refl _) (by omega), if_pos rfl]
      exact ih (k + 1) m (by omega) (by omega) (fun q h5 h6 => h3 q (by omega) h6) (by rcases h4 with h | h; { left; omega }; { right; exact h })
def dysM (mc : Nat → Int32) (p e : Nat) : Nat := lead 5 (fun q => okC mc (p + q) e 0 9) 0
def kcM (mc : Nat → Int32) (p e : Nat) : Int32 := if p < e then mc p else 0
theorem hdX5_digit : yX5_digit.cls = RX5 ∧ yX5_digit.cls ≠ "java/lang/invoke/MethodHandle" ∧ yX5_digit.cls ≠ "java/lang/invoke/VarHandle" ∧ (parseMethodDescriptor yX5_digit.desc).map (fun d => d.parameters.length) = some 3 := by decide +kernel
set_option maxHeartbeats 4000000 in
set_option maxRecDepth 100000 in
theorem m_digit (l : Launch) (D : va_G) (cI : ClassId) (sz : Nat) (m0 : Nat) (m1 : Nat) (m2 : Nat) (m3 : Nat) (m4 : Nat) (m5 : Nat) (m6 : Nat) (m7 : Nat) (m8 : Nat) (m9 : Nat) (m10 : Nat) (m11 : Nat) (m12 : Nat) (m13 : Nat) (m14 : Nat) (m15 : Nat) (fm : Int32) (tm : Int32) (at1 : Nat) (rdb : Int32) (rrm : Int32) (rD : Nat) (rP : Nat) (mt : Nat) (M : YS) (mc : Nat → Int32) (e : Nat) (a : Nat) (b : Nat) (he : e ≤ 240) (hat : at1 ≤ 300) (ha : a ≤ 9) (hb9 : b ≤ 9) : Met l yX5_digit wsX5_digit ({ frames := 1, cells := 0, slots := 0, locals := 22 }) (PQ D cI [.ref m0, .int (nI e), .int (nI a), .int (nI b)] (wMo m0 m1 m2 m3 m4 m5 m6 m7 m8 m9 m10 m11 m12 m13 m14 m15 fm tm at1 rdb rrm rD rP mt M ++ wMc cI m3 mc) sz) (QI (S := Nat) D (fun r u => (okC mc at1 e a b = true → r = mc at1 - nI 48 ∧ u = at1 + 1) ∧ (okC mc at1 e a b = false → r = (-9) ∧ u = at1)) (fun u => wMo m0 m1 m2 m3 m4 m5 m6 m7 m8 m9 m10 m11 m12 m13 m14 m15 fm tm u rdb rrm rD rP mt M ++ wMc cI m3 mc) (va_A (wMo m0 m1 m2 m3 m4 m5 m6 m7 m8 m9 m10 m11 m12 m13 m14 m15 fm tm at1 rdb rrm rD rP mt M ++ wMc cI m3 mc) sz)) 0 0 (va_A (wMo m0 m1 m2 m3 m4 m5 m6 m7 m8 m9 m10 m11 m12 m13 m14 m15 fm tm at1 rdb rrm rD rP mt M ++ wMc cI m3 mc) sz) := by
  refine zk_Q (QI (S := Nat) D (fun r u => (okC mc at1 e a b = true → r = mc at1 - nI 48 ∧ u = at1 + 1) ∧ (okC mc at1 e a b = false → r = (-9) ∧ u = at1)) (fun u => wMo m0 m1 m2 m3 m4 m5 m6 m7 m8 m9 m10 m11 m12 m13 m14 m15 fm tm u rdb rrm rD rP mt M ++ wMc cI m3 mc)) (cc := cX5_digit) (maxL := 4) (ret := (some .int)) (by decide) rfl (Nat.le_of_ble_eq_true rfl) ?_
  intro pX eX sX mX bX tX cX hx hb hr hlocks hml hown hmn hts hP hK A hA hD hS ls hl
  have hl : lv_has ls 4 [(0, .ref m0), (1, .int (nI e)), (2, .int (nI a)), (3, .int (nI b))] := hl
  have hP : va_P D vwCl [(m0, .inr (5, [.int fm, .int tm, .ref m1, .ref m2, .ref m3, .int M.db, .int M.rm, .int (nI M.D), .int (nI M.P), .ref m4, .ref m5, .ref m6, .ref m7, .int (nI at1), .int rdb, .int rrm, .int (nI rD), .int (nI rP), .ref m8, .ref m9, .ref m10, .ref m11, .ref m12, .int (nI mt), .ref m13, .ref m14, .ref m15])), (m3, .inl (cI, 240, .inl mc))] sX.heap := hP
  have hD : va_D A [(m0, .inr (5, [.int fm, .int tm, .ref m1, .ref m2, .ref m3, .int M.db, .int M.rm, .int (nI M.D), .int (nI M.P), .ref m4, .ref m5, .ref m6, .ref m7, .int (nI at1), .int rdb, .int rrm, .int (nI rD), .int (nI rP), .ref m8, .ref m9, .ref m10, .ref m11, .ref m12, .int (nI mt), .ref m13, .ref m14, .ref m15])), (m3, .inl (cI, 240, .inl mc))] := hD
  have f_71 := hts (.fieldLink RX5 71 "DunceSeeModel" "at" "I") (by decide +kernel)
  have f_16 := hts (.fieldLink RX5 16 "DunceSeeModel" "cells" "[I") (by decide +kernel)
  have inX5 : ∀ w ∈ wsX50, w ∈ wsX5_digit := fun w h => List.mem_cons_of_mem _ (List.mem_append_right _ h)
  refine lv_aload_n hx hb dX5_digit_0 rfl (lv_at hl 0 rfl) ?_
  refine va_get (D := D) (ci := 5) (v := .int (nI at1)) (C := RX5) (T := TX5) (N := 27) hx hb hts inX5 hown hK.1 hP 0 rfl rfl 13 (by decide) f_71 (fun _ h9 => h9) rfl dX5_digit_1 ?_
  refine lv_iload_n hx hb dX5_digit_4 rfl (lv_at hl 1 rfl) ?_
  refine zk_icmp_ge (tgt := 31) hx hb dX5_digit_5 (by decide) (by omega) (by omega) (fun c_1 => ?_) (fun c_1 => ?_)
  · refine lv_bipush (v := (-9)) hx hb dX5_digit_31 (by decide) ?_
    have h_o : okC mc at1 e a b = false := by unfold okC; rw [decide_eq_false (by omega)]; rfl
    exact zk_retI hx hb hr hS (at1) (⟨fun q => (by rw [h_o] at q; cases q), fun _ => ⟨rfl, rfl⟩⟩) hP hD dX5_digit_33 hlocks
  · refine lv_aload_n hx hb dX5_digit_8 rfl (lv_at hl 0 rfl) ?_
    refine va_get (D := D) (ci := 5) (v := .ref m3) (C := RX5) (T := TX5) (N := 27) hx hb hts inX5 hown hK.1 hP 0 rfl rfl 4 (by decide) f_16 (fun _ h9 => h9) rfl dX5_digit_9 ?_
    refine lv_aload_n hx hb dX5_digit_12 rfl (lv_at hl 0 rfl) ?_
    refine va_get (D := D) (ci := 5) (v := .int (nI at1)) (C := RX5) (T := TX5) (N := 27) hx hb hts inX5 hown hK.1 hP 0 rfl rfl 13 (by decide) f_71 (fun _ h9 => h9) rfl dX5_digit_13 ?_
    refine zk_iald hx hb hK hP 1 rfl (by omega) (by decide) dX5_digit_16 ?_
    refine lv_bipush (v := nI 48) hx hb dX5_digit_17 (by decide) ?_
    refine lv_iload_n hx hb dX5_digit_19 rfl (lv_at hl 2 rfl) ?_
    refine zk_iaddN hx hb dX5_digit_20 ?_
    refine lv_bipush (v := nI 48) hx hb dX5_digit_21 (by decide) ?_
    refine lv_iload_n hx hb dX5_digit_23 rfl (lv_at hl 3 rfl) ?_
    refine zk_iaddN hx hb dX5_digit_24 ?_
    refine zk_callSi (As := [.int (mc at1), .int (nI (48 + a)), .int (nI (48 + b))]) (rest := []) (bI (wiB (mc at1) (nI (48 + a)) (nI (48 + b)))) ⟨hx, hb, hml, hown, hts⟩ hK hP [] rfl (m_within l D cI (mc at1) (nI (48 + a)) (nI (48 + b)) ) (va_cwS 3 hts gX5_digit_X5_within rfl rfl rfl hdX5_within ⟨Nat.le_of_ble_eq_true rfl, Nat.le_of_ble_eq_true rfl⟩) rfl hl.1 rfl (Nat.le_of_ble_eq_true rfl) dX5_digit_25 ⟨Nat.le_of_ble_eq_true rfl, Nat.le_of_ble_eq_true rfl⟩ ?_
    refine zk_ifneB (tgt := 34) hx hb dX5_digit_28 (by decide) (fun c_2 => ?_) (fun c_2 => ?_)
    · refine lv_aload_n hx hb dX5_digit_34 rfl (lv_at hl 0 rfl) ?_
      refine lv_dup hx hb dX5_digit_35 rfl ?_
      refine va_get (D := D) (ci := 5) (v := .int (nI at1)) (C := RX5) (T := TX5) (N := 27) hx hb hts inX5 hown hK.1 hP 0 rfl rfl 13 (by decide) f_71 (fun _ h9 => h9) rfl dX5_digit_36 ?_
      refine lv_iconst (v := nI 1) hx hb dX5_digit_39 (by decide) ?_
      refine zk_iaddN hx hb dX5_digit_40 ?_
      refine va_put (D := D) (ci := 5) (v := .int (nI (at1 + 1))) (ty := .int) (C := RX5) (T := TX5) (N := 27) hx hb hts inX5 tyX5 tyX5_ok nmX5 hown hK.1 hP hD hS 0 rfl rfl 13 (by decide) f_71 (fun _ h9 => h9) rfl (by decide +kernel) rfl rfl (Nat.le_of_ble_eq_true rfl) dX5_digit_41 (fun H locs hP hD hS => ?_)
      have hP : va_P D vwCl [(m0, .inr (5, [.int fm, .int tm, .ref m1, .ref m2, .ref m3, .int M.db, .int M.rm, .int (nI M.D), .int (nI M.P), .ref m4, .ref m5, .ref m6, .ref m7, .int (nI (at1 + 1)), .int rdb, .int rrm, .int (nI rD), .int (nI rP), .ref m8, .ref m9, .ref m10, .ref m11, .ref m12, .int (nI mt), .ref m13, .ref m14, .ref m15])), (m3, .inl (cI, 240, .inl mc))] H := hP
      have hD : va_D A [(m0, .inr (5, [.int fm, .int tm, .ref m1, .ref m2, .ref m3, .int M.db, .int M.rm, .int (nI M.D), .int (nI M.P), .ref m4, .ref m5, .ref m6, .ref m7, .int (nI (at1 + 1)), .int rdb, .int rrm, .int (nI rD), .int (nI rP), .ref m8, .ref m9, .ref m10, .ref m11, .ref m12, .int (nI mt), .ref m13, .ref m14, .ref m15])), (m3, .inl (cI, 240, .inl mc))] := hD
      refine lv_aload_n hx hb dX5_digit_44 rfl (lv_at hl 0 rfl) ?_
      refine va_get (D := D) (ci := 5) (v := .ref m3) (C := RX5) (T := TX5) (N := 27) hx hb hts inX5 hown hK.1 hP 0 rfl rfl 4 (by decide) f_16 (fun _ h9 => h9) rfl dX5_digit_45 ?_
      refine lv_aload_n hx hb dX5_digit_48 rfl (lv_at hl 0 rfl) ?_
      refine va_get (D := D) (ci := 5) (v := .int (nI (at1 + 1))) (C := RX5) (T := TX5) (N := 27) hx hb hts inX5 hown hK.1 hP 0 rfl rfl 13 (by decide) f_71 (fun _ h9 => h9) rfl dX5_digit_49 ?_
      refine lv_iconst (v := nI 1) hx hb dX5_digit_52 (by decide) ?_
      refine zk_isubN hx hb (by omega) dX5_digit_53 ?_
      refine zk_iald hx hb hK hP 1 rfl (by omega) (by decide) dX5_digit_54 ?_
      refine zk_top (y := mc at1) rfl ?_
      refine lv_bipush (v := nI 48) hx hb dX5_digit_55 (by decide) ?_
      refine lv_isub hx hb dX5_digit_57 ?_
      have h_o : okC mc at1 e a b = true := by unfold okC; rw [c_2, decide_eq_true (by omega)]; rfl
      exact zk_retI hx hb hr hS (at1 + 1) (⟨fun _ => ⟨rfl, rfl⟩, fun q => (by rw [h_o] at q; cases q)⟩) hP hD dX5_digit_58 hlocks
    · refine lv_bipush (v := (-9)) hx hb dX5_digit_31 (by decide) ?_
      have h_o : okC mc at1 e a b = false := by unfold okC; rw [c_2, Bool.and_false]
      exact zk_retI hx hb hr hS (at1) (⟨fun q => (by rw [h_o] at q; cases q), fun _ => ⟨rfl, rfl⟩⟩) hP hD dX5_digit_33 hlocks
set_option maxHeartbeats 4000000 in
set_option maxRecDepth 100000 in
theorem m_isSign (l : Launch) (D : va_G) (cI : ClassId) (sz : Nat) (m0 : Nat) (m1 : Nat) (m2 : Nat) (m3 : Nat) (m4 : Nat) (m5 : Nat) (m6 : Nat) (m7 : Nat) (m8 : Nat) (m9 : Nat) (m10 : Nat) (m11 : Nat) (m12 : Nat) (m13 : Nat) (m14 : Nat) (m15 : Nat) (fm : Int32) (tm : Int32) (at1 : Nat) (rdb : Int32) (rrm : Int32) (rD : Nat) (rP : Nat) (mt : Nat) (M : YS) (mc : Nat → Int32) (e : Nat) (c : Int32) (he : e ≤ 240) (hat : at1 ≤ 300) : Met l yX5_isSign wsX5_isSign ({ frames := 0, cells := 0, slots := 0, locals := 0 }) (PQ D cI [.ref m0, .int (nI e), .int c] (wMo m0 m1 m2 m3 m4 m5 m6 m7 m8 m9 m10 m11 m12 m13 m14 m15 fm tm at1 rdb rrm rD rP mt M ++ wMc cI m3 mc) sz) (QI (S := Unit) D (fun r _ => r = bI (sgC mc at1 e c)) (fun _ => wMo m0 m1 m2 m3 m4 m5 m6 m7 m8 m9 m10 m11 m12 m13 m14 m15 fm tm (if sgC mc at1 e c then at1 + 1 else at1) rdb rrm rD rP mt M ++ wMc cI m3 mc) (va_A (wMo m0 m1 m2 m3 m4 m5 m6 m7 m8 m9 m10 m11 m12 m13 m14 m15 fm tm at1 rdb rrm rD rP mt M ++ wMc cI m3 mc) sz)) 0 0 (va_A (wMo m0 m1 m2 m3 m4 m5 m6 m7 m8 m9 m10 m11 m12 m13 m14 m15 fm tm at1 rdb rrm rD rP mt M ++ wMc cI m3 mc) sz) := by
  refine zk_Q (QI (S := Unit) D (fun r _ => r = bI (sgC mc at1 e c)) (fun _ => wMo m0 m1 m2 m3 m4 m5 m6 m7 m8 m9 m10 m11 m12 m13 m14 m15 fm tm (if sgC mc at1 e c then at1 + 1 else at1) rdb rrm rD rP mt M ++ wMc cI m3 mc)) (cc := cX5_isSign) (maxL := 3) (ret := (some .boolean)) (by decide) rfl (Nat.le_of_ble_eq_true rfl) ?_
  intro pX eX sX mX bX tX cX hx hb hr hlocks hml hown hmn hts hP hK A hA hD hS ls hl
  have hl : lv_has ls 3 [(0, .ref m0), (1, .int (nI e)), (2, .int c)] := hl
  have hP : va_P D vwCl [(m0, .inr (5, [.int fm, .int tm, .ref m1, .ref m2, .ref m3, .int M.db, .int M.rm, .int (nI M.D), .int (nI M.P), .ref m4, .ref m5, .ref m6, .ref m7, .int (nI at1), .int rdb, .int rrm, .int (nI rD), .int (nI rP), .ref m8, .ref m9, .ref m10, .ref m11, .ref m12, .int (nI mt), .ref m13, .ref m14, .ref m15])), (m3, .inl (cI, 240, .inl mc))] sX.heap := hP
  have hD : va_D A [(m0, .inr (5, [.int fm, .int tm, .ref m1, .ref m2, .ref m3, .int M.db, .int M.rm, .int (nI M.D), .int (nI M.P), .ref m4, .ref m5, .ref m6, .ref m7, .int (nI at1), .int rdb, .int rrm, .int (nI rD), .int (nI rP), .ref m8, .ref m9, .ref m10, .ref m11, .ref m12, .int (nI mt), .ref m13, .ref m14, .ref m15])), (m3, .inl (cI, 240, .inl mc))] := hD
  have f_71 := hts (.fieldLink RX5 71 "DunceSeeModel" "at" "I") (by decide +kernel)
  have f_16 := hts (.fieldLink RX5 16 "DunceSeeModel" "cells" "[I") (by decide +kernel)
  have inX5 : ∀ w ∈ wsX50, w ∈ wsX5_isSign := fun w h => List.mem_cons_of_mem _ (List.mem_append_right _ h)
  refine lv_aload_n hx hb dX5_isSign_0 rfl (lv_at hl 0 rfl) ?_
  refine va_get (D := D) (ci := 5) (v := .int (nI at1)) (C := RX5) (T := TX5) (N := 27) hx hb hts inX5 hown hK.1 hP 0 rfl rfl 13 (by decide) f_71 (fun _ h9 => h9) rfl dX5_isSign_1 ?_
  refine lv_iload_n hx hb dX5_isSign_4 rfl (lv_at hl 1 rfl) ?_
  refine zk_icmp_ge (tgt := 21) hx hb dX5_isSign_5 (by decide) (by omega) (by omega) (fun c_1 => ?_) (fun c_1 => ?_)
  · refine lv_iconst (v := nI 0) hx hb dX5_isSign_21 (by decide) ?_
    have h_o : sgC mc at1 e c = false := by unfold sgC; rw [decide_eq_false (by omega)]; rfl
    exact zk_retB hx hb hr nI_nar0 hS (()) (by rw [h_o]; rfl) (by rw [h_o]; exact hP) (by rw [h_o]; exact hD) dX5_isSign_22 hlocks
  · refine lv_aload_n hx hb dX5_isSign_8 rfl (lv_at hl 0 rfl) ?_
    refine va_get (D := D) (ci := 5) (v := .ref m3) (C := RX5) (T := TX5) (N := 27) hx hb hts inX5 hown hK.1 hP 0 rfl rfl 4 (by decide) f_16 (fun _ h9 => h9) rfl dX5_isSign_9 ?_
    refine lv_aload_n hx hb dX5_isSign_12 rfl (lv_at hl 0 rfl) ?_
    refine va_get (D := D) (ci := 5) (v := .int (nI at1)) (C := RX5) (T := TX5) (N := 27) hx hb hts inX5 hown hK.1 hP 0 rfl rfl 13 (by decide) f_71 (fun _ h9 => h9) rfl dX5_isSign_13 ?_
    refine zk_iald hx hb hK hP 1 rfl (by omega) (by decide) dX5_isSign_16 ?_
    refine lv_iload_n hx hb dX5_isSign_17 rfl (lv_at hl 2 rfl) ?_
    refine lv_icmp_eq (tgt := 23) hx hb dX5_isSign_18 (by decide) (fun c_2 => ?_) (fun c_2 => ?_)
    · refine lv_aload_n hx hb dX5_isSign_23 rfl (lv_at hl 0 rfl) ?_
      refine lv_dup hx hb dX5_isSign_24 rfl ?_
      refine va_get (D := D) (ci := 5) (v := .int (nI at1)) (C := RX5) (T := TX5) (N := 27) hx hb hts inX5 hown hK.1 hP 0 rfl rfl 13 (by decide) f_71 (fun _ h9 => h9) rfl dX5_isSign_25 ?_
      refine lv_iconst (v := nI 1) hx hb dX5_isSign_28 (by decide) ?_
      refine zk_iaddN hx hb dX5_isSign_29 ?_
      refine va_put (D := D) (ci := 5) (v := .int (nI (at1 + 1))) (ty := .int) (C := RX5) (T := TX5) (N := 27) hx hb hts inX5 tyX5 tyX5_ok nmX5 hown hK.1 hP hD hS 0 rfl rfl 13 (by decide) f_71 (fun _ h9 => h9) rfl (by decide +kernel) rfl rfl (Nat.le_of_ble_eq_true rfl) dX5_isSign_30 (fun H locs hP hD hS => ?_)
      have hP : va_P D vwCl [(m0, .inr (5, [.int fm, .int tm, .ref m1, .ref m2, .ref m3, .int M.db, .int M.rm, .int (nI M.D), .int (nI M.P), .ref m4, .ref m5, .ref m6, .ref m7, .int (nI (at1 + 1)), .int rdb, .int rrm, .int (nI rD), .int (nI rP), .ref m8, .ref m9, .ref m10, .ref m11, .ref m12, .int (nI mt), .ref m13, .ref m14, .ref m15])), (m3, .inl (cI, 240, .inl mc))] H := hP
      have hD : va_D A [(m0, .inr (5, [.int fm, .int tm, .ref m1, .ref m2, .ref m3, .int M.db, .int M.rm, .int (nI M.D), .int (nI M.P), .ref m4, .ref m5, .ref m6, .ref m7, .int (nI (at1 + 1)), .int rdb, .int rrm, .int (nI rD), .int (nI rP), .ref m8, .ref m9, .ref m10, .ref m11, .ref m12, .int (nI mt), .ref m13, .ref m14, .ref m15])), (m3, .inl (cI, 240, .inl mc))] := hD
      refine lv_iconst (v := nI 1) hx hb dX5_isSign_33 (by decide) ?_
      have h_o : sgC mc at1 e c = true := by unfold sgC; rw [decide_eq_true c_2, decide_eq_true (by omega)]; rfl
      exact zk_retB hx hb hr nI_nar1 hS (()) (by rw [h_o]; rfl) (by rw [h_o]; exact hP) (by rw [h_o]; exact hD) dX5_isSign_34 hlocks
    · refine lv_iconst (v := nI 0) hx hb dX5_isSign_21 (by decide) ?_
      have h_o : sgC mc at1 e c = false := by unfold sgC; rw [decide_eq_false c_2, Bool.and_false]
      exact zk_retB hx hb hr nI_nar0 hS (()) (by rw [h_o]; rfl) (by rw [h_o]; exact hP) (by rw [h_o]; exact hD) dX5_isSign_22 hlocks
set_option maxHeartbeats 4000000 in
set_option maxRecDepth 100000 in
theorem m_readDays (l : Launch) (D : va_G) (cI : ClassId) (sz : Nat) (m0 : Nat) (m1 : Nat) (m2 : Nat) (m3 : Nat) (m4 : Nat) (m5 : Nat) (m6 : Nat) (m7 : Nat) (m8 : Nat) (m9 : Nat) (m10 : Nat) (m11 : Nat) (m12 : Nat) (m13 : Nat) (m14 : Nat) (m15 : Nat) (fm : Int32) (tm : Int32) (at1 : Nat) (rdb : Int32) (rrm : Int32) (rD : Nat) (rP : Nat) (mt : Nat) (M : YS) (mc : Nat → Int32) (rh : Nat → Int32) (e : Nat) (he : e ≤ 240) (hat : at1 ≤ 280) : Met l yX5_readTheDays wsX5_readTheDays ({ frames := 2, cells := 0, slots := 0, locals := 45 }) (PQ D cI [.ref m0, .int (nI e)] (wMo m0 m1 m2 m3 m4 m5 m6 m7 m8 m9 m10 m11 m12 m13 m14 m15 fm tm at1 rdb rrm rD rP mt M ++ (wMc cI m3 mc ++ wMh cI m8 rh)) sz) (QI (S := Unit) D (fun r _ => r = bI (decide (0 < dysM mc at1 e))) (fun _ => wMo m0 m1 m2 m3 m4 m5 m6 m7 m8 m9 m10 m11 m12 m13 m14 m15 fm tm (at1 + dysM mc at1 e) rdb rrm (dysM mc at1 e) rP mt M ++ (wMc cI m3 mc ++ wMh cI m8 (tab (dysM mc at1 e) (fun q => mc (at1 + q) - nI 48) rh))) (va_A (wMo m0 m1 m2 m3 m4 m5 m6 m7 m8 m9 m10 m11 m12 m13 m14 m15 fm tm at1 rdb rrm rD rP mt M ++ (wMc cI m3 mc ++ wMh cI m8 rh)) sz)) 0 0 (va_A (wMo m0 m1 m2 m3 m4 m5 m6 m7 m8 m9 m10 m11 m12 m13 m14 m15 fm tm at1 rdb rrm rD rP mt M ++ (wMc cI m3 mc ++ wMh cI m8 rh)) sz) := by
  refine zk_Q (QI (S := Unit) D (fun r _ => r = bI (decide (0 < dysM mc at1 e))) (fun _ => wMo m0 m1 m2 m3 m4 m5 m6 m7 m8 m9 m10 m11 m12 m13 m14 m15 fm tm (at1 + dysM mc at1 e) rdb rrm (dysM mc at1 e) rP mt M ++ (wMc cI m3 mc ++ wMh cI m8 (tab (dysM mc at1 e) (fun q => mc (at1 + q) - nI 48) rh)))) (cc := cX5_readTheDays) (maxL := 3) (ret := (some .boolean)) (by decide) rfl (Nat.le_of_ble_eq_true rfl) ?_
  intro pX eX sX mX bX tX cX hx hb hr hlocks hml hown hmn hts hP hK A hA hD hS ls hl
  have hl : lv_has ls 3 [(0, .ref m0), (1, .int (nI e))] := hl
  have hP : va_P D vwCl [(m0, .inr (5, [.int fm, .int tm, .ref m1, .ref m2, .ref m3, .int M.db, .int M.rm, .int (nI M.D), .int (nI M.P), .ref m4, .ref m5, .ref m6, .ref m7, .int (nI at1), .int rdb, .int rrm, .int (nI rD), .int (nI rP), .ref m8, .ref m9, .ref m10, .ref m11, .ref m12, .int (nI mt), .ref m13, .ref m14, .ref m15])), (m3, .inl (cI, 240, .inl mc)), (m8, .inl (cI, 5, .inl rh))] sX.heap := hP
  have hD : va_D A [(m0, .inr (5, [.int fm, .int tm, .ref m1, .ref m2, .ref m3, .int M.db, .int M.rm, .int (nI M.D), .int (nI M.P), .ref m4, .ref m5, .ref m6, .ref m7, .int (nI at1), .int rdb, .int rrm, .int (nI rD), .int (nI rP), .ref m8, .ref m9, .ref m10, .ref m11, .ref m12, .int (nI mt), .ref m13, .ref m14, .ref m15])), (m3, .inl (cI, 240, .inl mc)), (m8, .inl (cI, 5, .inl rh))] := hD
  have f_107 := hts (.fieldLink RX5 107 "DunceSeeModel" "readDays" "I") (by decide +kernel)
  have f_31 := hts (.fieldLink RX5 31 "DunceSeeModel" "readHard" "[I") (by decide +kernel)
  have inX5 : ∀ w ∈ wsX50, w ∈ wsX5_readTheDays := fun w h => List.mem_cons_of_mem _ (List.mem_append_right _ h)
  refine lv_aload_n hx hb dX5_readTheDays_0 rfl (lv_at hl 0 rfl) ?_
  refine lv_iconst (v := nI 0) hx hb dX5_readTheDays_1 (by decide) ?_
  refine va_put (D := D) (ci := 5) (v := .int (nI 0)) (ty := .int) (C := RX5) (T := TX5) (N := 27) hx hb hts inX5 tyX5 tyX5_ok nmX5 hown hK.1 hP hD hS 0 rfl rfl 16 (by decide) f_107 (fun _ h9 => h9) rfl (by decide +kernel) rfl rfl (Nat.le_of_ble_eq_true rfl) dX5_readTheDays_2 (fun H locs hP hD hS => ?_)
  have hP : va_P D vwCl [(m0, .inr (5, [.int fm, .int tm, .ref m1, .ref m2, .ref m3, .int M.db, .int M.rm, .int (nI M.D), .int (nI M.P), .ref m4, .ref m5, .ref m6, .ref m7, .int (nI at1), .int rdb, .int rrm, .int (nI 0), .int (nI rP), .ref m8, .ref m9, .ref m10, .ref m11, .ref m12, .int (nI mt), .ref m13, .ref m14, .ref m15])), (m3, .inl (cI, 240, .inl mc)), (m8, .inl (cI, 5, .inl rh))] H := hP
  have hD : va_D A [(m0, .inr (5, [.int fm, .int tm, .ref m1, .ref m2, .ref m3, .int M.db, .int M.rm, .int (nI M.D), .int (nI M.P), .ref m4, .ref m5, .ref m6, .ref m7, .int (nI at1), .int rdb, .int rrm, .int (nI 0), .int (nI rP), .ref m8, .ref m9, .ref m10, .ref m11, .ref m12, .int (nI mt), .ref m13, .ref m14, .ref m15])), (m3, .inl (cI, 240, .inl mc)), (m8, .inl (cI, 5, .inl rh))] := hD
  have loop5 : ∀ (nL k : Nat), k ≤ 5 → 5 < k + nL → (∀ q, q < k → okC mc (at1 + q) e 0 9 = true) → ∀ (H : Heap) (locs : List Loc), va_P D vwCl [(m0, .inr (5, [.int fm, .int tm, .ref m1, .ref m2, .ref m3, .int M.db, .int M.rm, .int (nI M.D), .int (nI M.P), .ref m4, .ref m5, .ref m6, .ref m7, .int (nI (at1 + k)), .int rdb, .int rrm, .int (nI k), .int (nI rP), .ref m8, .ref m9, .ref m10, .ref m11, .ref m12, .int (nI mt), .ref m13, .ref m14, .ref m15])), (m3, .inl (cI, 240, .inl mc)), (m8, .inl (cI, 5, .inl (tab k (fun q => mc (at1 + q) - nI 48) rh)))] H → va_D A [(m0, .inr (5, [.int fm, .int tm, .ref m1, .ref m2, .ref m3, .int M.db, .int M.rm, .int (nI M.D), .int (nI M.P), .ref m4, .ref m5, .ref m6, .ref m7, .int (nI (at1 + k)), .int rdb, .int rrm, .int (nI k), .int (nI rP), .ref m8, .ref m9, .ref m10, .ref m11, .ref m12, .int (nI mt), .ref m13, .ref m14, .ref m15])), (m3, .inl (cI, 240, .inl mc)), (m8, .inl (cI, 5, .inl (tab k (fun q => mc (at1 + q) - nI 48) rh)))] → va_S A sX.heap H locs → ∀ ls : Array Slot, lv_has ls 3 [(0, .ref m0), (1, .int (nI e))] → W pX l eX ({ frames := 2, cells := 0, slots := 0, locals := 45 }) sX mX ([.ref m0, .int (nI e)] : List Value).toArray bX tX cX H locs 0 0 (MQ bX (QI (S := Unit) D (fun r _ => r = bI (decide (0 < dysM mc at1 e))) (fun _ => wMo m0 m1 m2 m3 m4 m5 m6 m7 m8 m9 m10 m11 m12 m13 m14 m15 fm tm (at1 + dysM mc at1 e) rdb rrm (dysM mc at1 e) rP mt M ++ (wMc cI m3 mc ++ wMh cI m8 (tab (dysM mc at1 e) (fun q => mc (at1 + q) - nI 48) rh))) A) ([.ref m0, .int (nI e)] : List Value).toArray sX 0 0 A) (F0 mX 5 ls []) := by
    intro nL
    induction nL with
    | zero => intro k  h1 h2; exact absurd h2 (by omega)
    | succ nL ih =>
      intro k  h_le h_n hall H locs hP hD hS ls hl
      refine lv_aload_n hx hb dX5_readTheDays_5 rfl (lv_at hl 0 rfl) ?_
      refine va_get (D := D) (ci := 5) (v := .int (nI k)) (C := RX5) (T := TX5) (N := 27) hx hb hts inX5 hown hK.1 hP 0 rfl rfl 16 (by decide) f_107 (fun _ h9 => h9) rfl dX5_readTheDays_6 ?_
      refine lv_iconst (v := nI 5) hx hb dX5_readTheDays_9 (by decide) ?_
      refine zk_icmp_ge (tgt := 64) hx hb dX5_readTheDays_10 (by decide) (by omega) (by omega) (fun c_1 => ?_) (fun c_1 => ?_)
      · refine lv_iconst (v := nI 1) hx hb dX5_readTheDays_64 (by decide) ?_
        have e_m : dysM mc at1 e = k := lead_at 5 0 k (by omega) (by omega) (fun q _ h9 => hall q h9) (Or.inl (by omega))
        exact zk_retB hx hb hr nI_nar1 hS (()) (by rw [e_m, decide_eq_true (by omega)]; rfl) (by rw [e_m]; exact hP) (by rw [e_m]; exact hD) dX5_readTheDays_65 hlocks
      · refine lv_aload_n hx hb dX5_readTheDays_13 rfl (lv_at hl 0 rfl) ?_
        refine lv_iload_n hx hb dX5_readTheDays_14 rfl (lv_at hl 1 rfl) ?_
        refine lv_iconst (v := nI 0) hx hb dX5_readTheDays_15 (by decide) ?_
        refine lv_bipush (v := nI 9) hx hb dX5_readTheDays_16 (by decide) ?_
        refine zk_effVi (As := [.int (nI e), .int (nI 0), .int (nI 9)]) (rest := []) (S := Nat) (fun r u => (okC mc (at1 + k) e 0 9 = true → r = mc (at1 + k) - nI 48 ∧ u = (at1 + k) + 1) ∧ (okC mc (at1 + k) e 0 9 = false → r = (-9) ∧ u = (at1 + k))) (fun u => wMo m0 m1 m2 m3 m4 m5 m6 m7 m8 m9 m10 m11 m12 m13 m14 m15 fm tm u rdb rrm k rP mt M ++ wMc cI m3 mc) ⟨hx, hb, hml, hown, hts⟩ hK hP hD hS hA [0, 1] [2] (wc := [(m0, .inr (5, [.int fm, .int tm, .ref m1, .ref m2, .ref m3, .int M.db, .int M.rm, .int (nI M.D), .int (nI M.P), .ref m4, .ref m5, .ref m6, .ref m7, .int (nI (at1 + k)), .int rdb, .int rrm, .int (nI k), .int (nI rP), .ref m8, .ref m9, .ref m10, .ref m11, .ref m12, .int (nI mt), .ref m13, .ref m14, .ref m15])), (m3, .inl (cI, 240, .inl mc))]) (wr := [(m8, .inl (cI, 5, .inl (tab k (fun q => mc (at1 + q) - nI 48) rh)))]) rfl rfl (by decide) (by decide) (by decide) [1, 2, 0] (fun (u1 : Nat) => [(m0, .inr (5, [.int fm, .int tm, .ref m1, .ref m2, .ref m3, .int M.db, .int M.rm, .int (nI M.D), .int (nI M.P), .ref m4, .ref m5, .ref m6, .ref m7, .int (nI u1), .int rdb, .int rrm, .int (nI k), .int (nI rP), .ref m8, .ref m9, .ref m10, .ref m11, .ref m12, .int (nI mt), .ref m13, .ref m14, .ref m15])), (m3, .inl (cI, 240, .inl mc)), (m8, .inl (cI, 5, .inl (tab k (fun q => mc (at1 + q) - nI 48) rh)))]) (fun _ => rfl) (by decide) (m_digit l D cI H.size m0 m1 m2 m3 m4 m5 m6 m7 m8 m9 m10 m11 m12 m13 m14 m15 fm tm (at1 + k) rdb rrm k rP mt M mc e 0 9 he (by omega) (by omega) (by omega)) (cwV 3 hts gX5_readTheDays_X5_digit rfl rfl rfl hdX5_digit ⟨Nat.le_of_ble_eq_true rfl, Nat.le_of_ble_eq_true rfl⟩) rfl rfl rfl hl.1 rfl (Nat.le_of_ble_eq_true rfl) dX5_readTheDays_18 ⟨Nat.le_of_ble_eq_true rfl, Nat.le_of_ble_eq_true rfl⟩ (fun r1 u1 H locs hw1 hP hD hS => ?_)
        rcases h_o : okC mc (at1 + k) e 0 9 with _ | _
        · obtain ⟨e_r, e_u⟩ := hw1.2 h_o
          subst e_r e_u
          have hl : lv_has ls 3 [(0, .ref m0), (1, .int (nI e))] := hl
          refine lv_istore_n (lv' := [(2, .int (-9)), (0, .ref m0), (1, .int (nI e))]) hx hb dX5_readTheDays_21 rfl hl (by decide) rfl (fun ls hl => ?_)
          refine lv_iload_n hx hb dX5_readTheDays_22 rfl (lv_at hl 0 rfl) ?_
          refine lv_bipush (v := (-9)) hx hb dX5_readTheDays_23 (by decide) ?_
          refine lv_icmp_ne (tgt := 41) hx hb dX5_readTheDays_25 (by decide) (fun c_4 => ?_) (fun c_4 => ?_)
          · exact (by exact absurd rfl c_4)
          · refine lv_aload_n hx hb dX5_readTheDays_28 rfl (lv_at hl 1 rfl) ?_
            refine va_get (D := D) (ci := 5) (v := .int (nI k)) (C := RX5) (T := TX5) (N := 27) hx hb hts inX5 hown hK.1 hP 0 rfl rfl 16 (by decide) f_107 (fun _ h9 => h9) rfl dX5_readTheDays_29 ?_
            refine lv_if_le (tgt := 39) hx hb dX5_readTheDays_32 (by decide) (fun c_5 => ?_) (fun c_5 => ?_)
            · have c_z := le0N (by omega) c_5
              refine lv_iconst (v := nI 0) hx hb dX5_readTheDays_39 (by decide) ?_
              have e_m : dysM mc at1 e = k := lead_at 5 0 k (by omega) (by omega) (fun q _ h9 => hall q h9) (Or.inr h_o)
              exact zk_retB hx hb hr nI_nar0 hS (()) (by rw [e_m, decide_eq_false (by omega)]; rfl) (by rw [e_m]; exact hP) (by rw [e_m]; exact hD) dX5_readTheDays_40 hlocks
            · have c_5 := Int32.not_le.mp c_5
              have c_z := gt0N (by omega) c_5
              refine lv_iconst (v := nI 1) hx hb dX5_readTheDays_35 (by decide) ?_
              refine lv_goto (tgt := 40) hx hb dX5_readTheDays_36 (by decide) ?_
              have e_m : dysM mc at1 e = k := lead_at 5 0 k (by omega) (by omega) (fun q _ h9 => hall q h9) (Or.inr h_o)
              exact zk_retB hx hb hr nI_nar1 hS (()) (by rw [e_m, decide_eq_true (by omega)]; rfl) (by rw [e_m]; exact hP) (by rw [e_m]; exact hD) dX5_readTheDays_40 hlocks
        · obtain ⟨e_r, e_u⟩ := hw1.1 h_o
          subst e_r e_u
          have hl : lv_has ls 3 [(0, .ref m0), (1, .int (nI e))] := hl
          obtain ⟨h_lt, v, h_v0, h_v9, h_v⟩ := okC_t (by omega) (by omega) h_o
          refine lv_istore_n (lv' := [(2, .int (mc (at1 + k) - nI 48)), (0, .ref m0), (1, .int (nI e))]) hx hb dX5_readTheDays_21 rfl hl (by decide) rfl (fun ls hl => ?_)
          refine lv_iload_n hx hb dX5_readTheDays_22 rfl (lv_at hl 0 rfl) ?_
          refine lv_bipush (v := (-9)) hx hb dX5_readTheDays_23 (by decide) ?_
          refine lv_icmp_ne (tgt := 41) hx hb dX5_readTheDays_25 (by decide) (fun c_6 => ?_) (fun c_6 => ?_)
          · refine lv_aload_n hx hb dX5_readTheDays_41 rfl (lv_at hl 1 rfl) ?_
            refine va_get (D := D) (ci := 5) (v := .ref m8) (C := RX5) (T := TX5) (N := 27) hx hb hts inX5 hown hK.1 hP 0 rfl rfl 18 (by decide) f_31 (fun _ h9 => h9) rfl dX5_readTheDays_42 ?_
            refine lv_aload_n hx hb dX5_readTheDays_45 rfl (lv_at hl 1 rfl) ?_
            refine va_get (D := D) (ci := 5) (v := .int (nI k)) (C := RX5) (T := TX5) (N := 27) hx hb hts inX5 hown hK.1 hP 0 rfl rfl 16 (by decide) f_107 (fun _ h9 => h9) rfl dX5_readTheDays_46 ?_
            refine lv_iload_n hx hb dX5_readTheDays_49 rfl (lv_at hl 0 rfl) ?_
            refine zk_iast (x := (mc (at1 + k) - nI 48)) hx hb hK hP hD hS 2 rfl (by omega) (by decide) dX5_readTheDays_50 (fun H locs hP hD hS => ?_)
            have hP : va_P D vwCl [(m0, .inr (5, [.int fm, .int tm, .ref m1, .ref m2, .ref m3, .int M.db, .int M.rm, .int (nI M.D), .int (nI M.P), .ref m4, .ref m5, .ref m6, .ref m7, .int (nI (at1 + k + 1)), .int rdb, .int rrm, .int (nI k), .int (nI rP), .ref m8, .ref m9, .ref m10, .ref m11, .ref m12, .int (nI mt), .ref m13, .ref m14, .ref m15])), (m3, .inl (cI, 240, .inl mc)), (m8, .inl (cI, 5, .inl (upd (tab k (fun q => mc (at1 + q) - nI 48) rh) k (mc (at1 + k) - nI 48))))] H := hP
            have hD : va_D A [(m0, .inr (5, [.int fm, .int tm, .ref m1, .ref m2, .ref m3, .int M.db, .int M.rm, .int (nI M.D), .int (nI M.P), .ref m4, .ref m5, .ref m6, .ref m7, .int (nI (at1 + k + 1)), .int rdb, .int rrm, .int (nI k), .int (nI rP), .ref m8, .ref m9, .ref m10, .ref m11, .ref m12, .int (nI mt), .ref m13, .ref m14, .ref m15])), (m3, .inl (cI, 240, .inl mc)), (m8, .inl (cI, 5, .inl (upd (tab k (fun q => mc (at1 + q) - nI 48) rh) k (mc (at1 + k) - nI 48))))] := hD
            refine lv_aload_n hx hb dX5_readTheDays_51 rfl (lv_at hl 1 rfl) ?_
            refine lv_dup hx hb dX5_readTheDays_52 rfl ?_
            refine va_get (D := D) (ci := 5) (v := .int (nI k)) (C := RX5) (T := TX5) (N := 27) hx hb hts inX5 hown hK.1 hP 0 rfl rfl 16 (by decide) f_107 (fun _ h9 => h9) rfl dX5_readTheDays_53 ?_
            refine lv_iconst (v := nI 1) hx hb dX5_readTheDays_56 (by decide) ?_
            refine zk_iaddN hx hb dX5_readTheDays_57 ?_
            refine va_put (D := D) (ci := 5) (v := .int (nI (k + 1))) (ty := .int) (C := RX5) (T := TX5) (N := 27) hx hb hts inX5 tyX5 tyX5_ok nmX5 hown hK.1 hP hD hS 0 rfl rfl 16 (by decide) f_107 (fun _ h9 => h9) rfl (by decide +kernel) rfl rfl (Nat.le_of_ble_eq_true rfl) dX5_readTheDays_58 (fun H locs hP hD hS => ?_)
            have hP : va_P D vwCl [(m0, .inr (5, [.int fm, .int tm, .ref m1, .ref m2, .ref m3, .int M.db, .int M.rm, .int (nI M.D), .int (nI M.P), .ref m4, .ref m5, .ref m6, .ref m7, .int (nI (at1 + k + 1)), .int rdb, .int rrm, .int (nI (k + 1)), .int (nI rP), .ref m8, .ref m9, .ref m10, .ref m11, .ref m12, .int (nI mt), .ref m13, .ref m14, .ref m15])), (m3, .inl (cI, 240, .inl mc)), (m8, .inl (cI, 5, .inl (upd (tab k (fun q => mc (at1 + q) - nI 48) rh) k (mc (at1 + k) - nI 48))))] H := hP
            have hD : va_D A [(m0, .inr (5, [.int fm, .int tm, .ref m1, .ref m2, .ref m3, .int M.db, .int M.rm, .int (nI M.D), .int (nI M.P), .ref m4, .ref m5, .ref m6, .ref m7, .int (nI (at1 + k + 1)), .int rdb, .int rrm, .int (nI (k + 1)), .int (nI rP), .ref m8, .ref m9, .ref m10, .ref m11, .ref m12, .int (nI mt), .ref m13, .ref m14, .ref m15])), (m3, .inl (cI, 240, .inl mc)), (m8, .inl (cI, 5, .inl (upd (tab k (fun q => mc (at1 + q) - nI 48) rh) k (mc (at1 + k) - nI 48))))] := hD
            refine lv_goto (tgt := 5) hx hb dX5_readTheDays_61 (by decide) ?_
            rw [tab_s k (fun q => mc (at1 + q) - nI 48) rh] at hP hD
            exact ih (k + 1)  (by omega) (by omega) (fun q h9 => by by_cases e9 : q = k; { subst e9; exact h_o }; { exact hall q (by omega) }) _ _ hP hD hS ls (lv_sub hl [1, 2] rfl)
          · exact (by rw [h_v, dg48 h_v9] at c_6; exact absurd c_6 (nI_n9 (by omega)))
  rw [← tab_0 (fun q => mc (at1 + q) - nI 48) rh] at hP hD
  exact loop5 (5 + 1) 0  (by omega) (by omega) (fun q h9 => by omega) _ _ hP hD hS ls (lv_sub hl [0, 1] rfl)
set_option maxHeartbeats 4000000 in
set_option maxRecDepth 100000 in
theorem m_readPupil (l : Launch) (D : va_G) (cI : ClassId) (sz : Nat) (m0 : Nat) (m1 : Nat) (m2 : Nat) (m3 : Nat) (m4 : Nat) (m5 : Nat) (m6 : Nat) (m7 : Nat) (m8 : Nat) (m9 : Nat) (m10 : Nat) (m11 : Nat) (m12 : Nat) (m13 : Nat) (m14 : Nat) (m15 : Nat) (fm : Int32) (tm : Int32) (at1 : Nat) (rdb : Int32) (rrm : Int32) (rD : Nat) (rP : Nat) (mt : Nat) (M : YS) (mc : Nat → Int32) (rk : Nat → Int32) (rw : Nat → Int32) (rp : Nat → Int32) (e : Nat) (he : e ≤ 240) (hat : at1 ≤ 280) (hP4 : rP < 4) : Met l yX5_readPupil wsX5_readPupil ({ frames := 2, cells := 0, slots := 0, locals := 45 }) (PQ D cI [.ref m0, .int (nI e)] (wMo m0 m1 m2 m3 m4 m5 m6 m7 m8 m9 m10 m11 m12 m13 m14 m15 fm tm at1 rdb rrm rD rP mt M ++ (wMc cI m3 mc ++ wMk cI m9 m10 m11 rk rw rp)) sz) (QI (S := Nat × Nat × (Nat → Int32) × (Nat → Int32) × (Nat → Int32)) D (fun r u => (kL (kcM mc at1 e) = (-9) → r = bI false ∧ u.1 = at1) ∧ (¬ kL (kcM mc at1 e) = (-9) → (okC mc (at1 + 1) e 0 9 = false → r = bI false ∧ u.1 = at1 + 1) ∧ (okC mc (at1 + 1) e 0 9 = true → (okC mc (at1 + 2) e 0 9 = false → r = bI false ∧ u.1 = at1 + 2) ∧ (okC mc (at1 + 2) e 0 9 = true → r = bI true ∧ u = (at1 + 3, rP + 1, upd rk rP (kL (kcM mc at1 e)), upd rw rP (mc (at1 + 1) - nI 48), upd rp rP (mc (at1 + 2) - nI 48)))))) (fun u => wMo m0 m1 m2 m3 m4 m5 m6 m7 m8 m9 m10 m11 m12 m13 m14 m15 fm tm u.1 rdb rrm rD u.2.1 mt M ++ (wMc cI m3 mc ++ wMk cI m9 m10 m11 u.2.2.1 u.2.2.2.1 u.2.2.2.2)) (va_A (wMo m0 m1 m2 m3 m4 m5 m6 m7 m8 m9 m10 m11 m12 m13 m14 m15 fm tm at1 rdb rrm rD rP mt M ++ (wMc cI m3 mc ++ wMk cI m9 m10 m11 rk rw rp)) sz)) 0 0 (va_A (wMo m0 m1 m2 m3 m4 m5 m6 m7 m8 m9 m10 m11 m12 m13 m14 m15 fm tm at1 rdb rrm rD rP mt M ++ (wMc cI m3 mc ++ wMk cI m9 m10 m11 rk rw rp)) sz) := by
  refine zk_Q (QI (S := Nat × Nat × (Nat → Int32) × (Nat → Int32) × (Nat → Int32)) D (fun r u => (kL (kcM mc at1 e) = (-9) → r = bI false ∧ u.1 = at1) ∧ (¬ kL (kcM mc at1 e) = (-9) → (okC mc (at1 + 1) e 0 9 = false → r = bI false ∧ u.1 = at1 + 1) ∧ (okC mc (at1 + 1) e 0 9 = true → (okC mc (at1 + 2) e 0 9 = false → r = bI false ∧ u.1 = at1 + 2) ∧ (okC mc (at1 + 2) e 0 9 = true → r = bI true ∧ u = (at1 + 3, rP + 1, upd rk rP (kL (kcM mc at1 e)), upd rw rP (mc (at1 + 1) - nI 48), upd rp rP (mc (at1 + 2) - nI 48)))))) (fun u => wMo m0 m1 m2 m3 m4 m5 m6 m7 m8 m9 m10 m11 m12 m13 m14 m15 fm tm u.1 rdb rrm rD u.2.1 mt M ++ (wMc cI m3 mc ++ wMk cI m9 m10 m11 u.2.2.1 u.2.2.2.1 u.2.2.2.2))) (cc := cX5_readPupil) (maxL := 3) (ret := (some .boolean)) (by decide) rfl (Nat.le_of_ble_eq_true rfl) ?_
  intro pX eX sX mX bX tX cX hx hb hr hlocks hml hown hmn hts hP hK A hA hD hS ls hl
  have hl : lv_has ls 3 [(0, .ref m0), (1, .int (nI e))] := hl
  have hP : va_P D vwCl [(m0, .inr (5, [.int fm, .int tm, .ref m1, .ref m2, .ref m3, .int M.db, .int M.rm, .int (nI M.D), .int (nI M.P), .ref m4, .ref m5, .ref m6, .ref m7, .int (nI at1), .int rdb, .int rrm, .int (nI rD), .int (nI rP), .ref m8, .ref m9, .ref m10, .ref m11, .ref m12, .int (nI mt), .ref m13, .ref m14, .ref m15])), (m3, .inl (cI, 240, .inl mc)), (m9, .inl (cI, 4, .inl rk)), (m10, .inl (cI, 4, .inl rw)), (m11, .inl (cI, 4, .inl rp))] sX.heap := hP
  have hD : va_D A [(m0, .inr (5, [.int fm, .int tm, .ref m1, .ref m2, .ref m3, .int M.db, .int M.rm, .int (nI M.D), .int (nI M.P), .ref m4, .ref m5, .ref m6, .ref m7, .int (nI at1), .int rdb, .int rrm, .int (nI rD), .int (nI rP), .ref m8, .ref m9, .ref m10, .ref m11, .ref m12, .int (nI mt), .ref m13, .ref m14, .ref m15])), (m3, .inl (cI, 240, .inl mc)), (m9, .inl (cI, 4, .inl rk)), (m10, .inl (cI, 4, .inl rw)), (m11, .inl (cI, 4, .inl rp))] := hD
  have f_34 := hts (.fieldLink RX5 34 "DunceSeeModel" "readKind" "[I") (by decide +kernel)
  have f_110 := hts (.fieldLink RX5 110 "DunceSeeModel" "readPupils" "I") (by decide +kernel)
  have f_71 := hts (.fieldLink RX5 71 "DunceSeeModel" "at" "I") (by decide +kernel)
  have f_37 := hts (.fieldLink RX5 37 "DunceSeeModel" "readWit" "[I") (by decide +kernel)
  have f_40 := hts (.fieldLink RX5 40 "DunceSeeModel" "readPatience" "[I") (by decide +kernel)
  have f_16 := hts (.fieldLink RX5 16 "DunceSeeModel" "cells" "[I") (by decide +kernel)
  have inX5 : ∀ w ∈ wsX50, w ∈ wsX5_readPupil := fun w h => List.mem_cons_of_mem _ (List.mem_append_right _ h)
  have join21 : ∀ (cd : Int32), (cd = kcM mc at1 e) → ∀ ls : Array Slot, lv_has ls 3 [(0, .ref m0), (1, .int (nI e))] → W pX l eX ({ frames := 2, cells := 0, slots := 0, locals := 45 }) sX mX ([.ref m0, .int (nI e)] : List Value).toArray bX tX cX sX.heap [] 0 0 (MQ bX (QI (S := Nat × Nat × (Nat → Int32) × (Nat → Int32) × (Nat → Int32)) D (fun r u => (kL (kcM mc at1 e) = (-9) → r = bI false ∧ u.1 = at1) ∧ (¬ kL (kcM mc at1 e) = (-9) → (okC mc (at1 + 1) e 0 9 = false → r = bI false ∧ u.1 = at1 + 1) ∧ (okC mc (at1 + 1) e 0 9 = true → (okC mc (at1 + 2) e 0 9 = false → r = bI false ∧ u.1 = at1 + 2) ∧ (okC mc (at1 + 2) e 0 9 = true → r = bI true ∧ u = (at1 + 3, rP + 1, upd rk rP (kL (kcM mc at1 e)), upd rw rP (mc (at1 + 1) - nI 48), upd rp rP (mc (at1 + 2) - nI 48)))))) (fun u => wMo m0 m1 m2 m3 m4 m5 m6 m7 m8 m9 m10 m11 m12 m13 m14 m15 fm tm u.1 rdb rrm rD u.2.1 mt M ++ (wMc cI m3 mc ++ wMk cI m9 m10 m11 u.2.2.1 u.2.2.2.1 u.2.2.2.2)) A) ([.ref m0, .int (nI e)] : List Value).toArray sX 0 0 A) (F0 mX 21 ls [.int cd]) := by
    intro cd h_cd ls hl
    refine lv_istore_n (lv' := [(2, .int cd), (0, .ref m0), (1, .int (nI e))]) hx hb dX5_readPupil_21 rfl hl (by decide) rfl (fun ls hl => ?_)
    refine lv_aload_n hx hb dX5_readPupil_22 rfl (lv_at hl 1 rfl) ?_
    refine va_get (D := D) (ci := 5) (v := .ref m9) (C := RX5) (T := TX5) (N := 27) hx hb hts inX5 hown hK.1 hP 0 rfl rfl 19 (by decide) f_34 (fun _ h9 => h9) rfl dX5_readPupil_23 ?_
    refine lv_aload_n hx hb dX5_readPupil_26 rfl (lv_at hl 1 rfl) ?_
    refine va_get (D := D) (ci := 5) (v := .int (nI rP)) (C := RX5) (T := TX5) (N := 27) hx hb hts inX5 hown hK.1 hP 0 rfl rfl 17 (by decide) f_110 (fun _ h9 => h9) rfl dX5_readPupil_27 ?_
    have join62 : ∀ (kk : Int32), (kk = kL (kcM mc at1 e)) → ∀ ls : Array Slot, lv_has ls 3 [(0, .ref m0), (1, .int (nI e)), (2, .int cd)] → W pX l eX ({ frames := 2, cells := 0, slots := 0, locals := 45 }) sX mX ([.ref m0, .int (nI e)] : List Value).toArray bX tX cX sX.heap [] 0 0 (MQ bX (QI (S := Nat × Nat × (Nat → Int32) × (Nat → Int32) × (Nat → Int32)) D (fun r u => (kL (kcM mc at1 e) = (-9) → r = bI false ∧ u.1 = at1) ∧ (¬ kL (kcM mc at1 e) = (-9) → (okC mc (at1 + 1) e 0 9 = false → r = bI false ∧ u.1 = at1 + 1) ∧ (okC mc (at1 + 1) e 0 9 = true → (okC mc (at1 + 2) e 0 9 = false → r = bI false ∧ u.1 = at1 + 2) ∧ (okC mc (at1 + 2) e 0 9 = true → r = bI true ∧ u = (at1 + 3, rP + 1, upd rk rP (kL (kcM mc at1 e)), upd rw rP (mc (at1 + 1) - nI 48), upd rp rP (mc (at1 + 2) - nI 48)))))) (fun u => wMo m0 m1 m2 m3 m4 m5 m6 m7 m8 m9 m10 m11 m12 m13 m14 m15 fm tm u.1 rdb rrm rD u.2.1 mt M ++ (wMc cI m3 mc ++ wMk cI m9 m10 m11 u.2.2.1 u.2.2.2.1 u.2.2.2.2)) A) ([.ref m0, .int (nI e)] : List Value).toArray sX 0 0 A) (F0 mX 62 ls [.int kk, .int (nI rP), .ref m9]) := by
      intro kk h_k ls hl
      refine zk_iast (x := kk) hx hb hK hP hD hS 2 rfl (by omega) (by decide) dX5_readPupil_62 (fun H locs hP hD hS => ?_)
      have hP : va_P D vwCl [(m0, .inr (5, [.int fm, .int tm, .ref m1, .ref m2, .ref m3, .int M.db, .int M.rm, .int (nI M.D), .int (nI M.P), .ref m4, .ref m5, .ref m6, .ref m7, .int (nI at1), .int rdb, .int rrm, .int (nI rD), .int (nI rP), .ref m8, .ref m9, .ref m10, .ref m11, .ref m12, .int (nI mt), .ref m13, .ref m14, .ref m15])), (m3, .inl (cI, 240, .inl mc)), (m9, .inl (cI, 4, .inl (upd rk rP kk))), (m10, .inl (cI, 4, .inl rw)), (m11, .inl (cI, 4, .inl rp))] H := hP
      have hD : va_D A [(m0, .inr (5, [.int fm, .int tm, .ref m1, .ref m2, .ref m3, .int M.db, .int M.rm, .int (nI M.D), .int (nI M.P), .ref m4, .ref m5, .ref m6, .ref m7, .int (nI at1), .int rdb, .int rrm, .int (nI rD), .int (nI rP), .ref m8, .ref m9, .ref m10, .ref m11, .ref m12, .int (nI mt), .ref m13, .ref m14, .ref m15])), (m3, .inl (cI, 240, .inl mc)), (m9, .inl (cI, 4, .inl (upd rk rP kk))), (m10, .inl (cI, 4, .inl rw)), (m11, .inl (cI, 4, .inl rp))] := hD
      subst h_k
      refine lv_aload_n hx hb dX5_readPupil_63 rfl (lv_at hl 0 rfl) ?_
      refine va_get (D := D) (ci := 5) (v := .ref m9) (C := RX5) (T := TX5) (N := 27) hx hb hts inX5 hown hK.1 hP 0 rfl rfl 19 (by decide) f_34 (fun _ h9 => h9) rfl dX5_readPupil_64 ?_
      refine lv_aload_n hx hb dX5_readPupil_67 rfl (lv_at hl 0 rfl) ?_
      refine va_get (D := D) (ci := 5) (v := .int (nI rP)) (C := RX5) (T := TX5) (N := 27) hx hb hts inX5 hown hK.1 hP 0 rfl rfl 17 (by decide) f_110 (fun _ h9 => h9) rfl dX5_readPupil_68 ?_
      refine zk_iald hx hb hK hP 2 rfl (by omega) (by decide) dX5_readPupil_71 ?_
      refine zk_top (y := kL (kcM mc at1 e)) (upd_s _ _ _) ?_
      refine lv_bipush (v := (-9)) hx hb dX5_readPupil_72 (by decide) ?_
      refine lv_icmp_ne (tgt := 79) hx hb dX5_readPupil_74 (by decide) (fun c_1 => ?_) (fun c_1 => ?_)
      · have h_kk := c_1
        refine lv_aload_n hx hb dX5_readPupil_79 rfl (lv_at hl 0 rfl) ?_
        refine lv_dup hx hb dX5_readPupil_80 rfl ?_
        refine va_get (D := D) (ci := 5) (v := .int (nI at1)) (C := RX5) (T := TX5) (N := 27) hx hb hts inX5 hown hK.1 hP 0 rfl rfl 13 (by decide) f_71 (fun _ h9 => h9) rfl dX5_readPupil_81 ?_
        refine lv_iconst (v := nI 1) hx hb dX5_readPupil_84 (by decide) ?_
        refine zk_iaddN hx hb dX5_readPupil_85 ?_
        refine va_put (D := D) (ci := 5) (v := .int (nI (at1 + 1))) (ty := .int) (C := RX5) (T := TX5) (N := 27) hx hb hts inX5 tyX5 tyX5_ok nmX5 hown hK.1 hP hD hS 0 rfl rfl 13 (by decide) f_71 (fun _ h9 => h9) rfl (by decide +kernel) rfl rfl (Nat.le_of_ble_eq_true rfl) dX5_readPupil_86 (fun H locs hP hD hS => ?_)
        have hP : va_P D vwCl [(m0, .inr (5, [.int fm, .int tm, .ref m1, .ref m2, .ref m3, .int M.db, .int M.rm, .int (nI M.D), .int (nI M.P), .ref m4, .ref m5, .ref m6, .ref m7, .int (nI (at1 + 1)), .int rdb, .int rrm, .int (nI rD), .int (nI rP), .ref m8, .ref m9, .ref m10, .ref m11, .ref m12, .int (nI mt), .ref m13, .ref m14, .ref m15])), (m3, .inl (cI, 240, .inl mc)), (m9, .inl (cI, 4, .inl (upd rk rP (kL (kcM mc at1 e))))), (m10, .inl (cI, 4, .inl rw)), (m11, .inl (cI, 4, .inl rp))] H := hP
        have hD : va_D A [(m0, .inr (5, [.int fm, .int tm, .ref m1, .ref m2, .ref m3, .int M.db, .int M.rm, .int (nI M.D), .int (nI M.P), .ref m4, .ref m5, .ref m6, .ref m7, .int (nI (at1 + 1)), .int rdb, .int rrm, .int (nI rD), .int (nI rP), .ref m8, .ref m9, .ref m10, .ref m11, .ref m12, .int (nI mt), .ref m13, .ref m14, .ref m15])), (m3, .inl (cI, 240, .inl mc)), (m9, .inl (cI, 4, .inl (upd rk rP (kL (kcM mc at1 e))))), (m10, .inl (cI, 4, .inl rw)), (m11, .inl (cI, 4, .inl rp))] := hD
        refine lv_aload_n hx hb dX5_readPupil_89 rfl (lv_at hl 0 rfl) ?_
        refine va_get (D := D) (ci := 5) (v := .ref m10) (C := RX5) (T := TX5) (N := 27) hx hb hts inX5 hown hK.1 hP 0 rfl rfl 20 (by decide) f_37 (fun _ h9 => h9) rfl dX5_readPupil_90 ?_
        refine lv_aload_n hx hb dX5_readPupil_93 rfl (lv_at hl 0 rfl) ?_
        refine va_get (D := D) (ci := 5) (v := .int (nI rP)) (C := RX5) (T := TX5) (N := 27) hx hb hts inX5 hown hK.1 hP 0 rfl rfl 17 (by decide) f_110 (fun _ h9 => h9) rfl dX5_readPupil_94 ?_
        refine lv_aload_n hx hb dX5_readPupil_97 rfl (lv_at hl 0 rfl) ?_
        refine lv_iload_n hx hb dX5_readPupil_98 rfl (lv_at hl 1 rfl) ?_
        refine lv_iconst (v := nI 0) hx hb dX5_readPupil_99 (by decide) ?_
        refine lv_bipush (v := nI 9) hx hb dX5_readPupil_100 (by decide) ?_
        refine zk_effVi (As := [.int (nI e), .int (nI 0), .int (nI 9)]) (rest := [.int (nI rP), .ref m10]) (S := Nat) (fun r u => (okC mc (at1 + 1) e 0 9 = true → r = mc (at1 + 1) - nI 48 ∧ u = (at1 + 1) + 1) ∧ (okC mc (at1 + 1) e 0 9 = false → r = (-9) ∧ u = (at1 + 1))) (fun u => wMo m0 m1 m2 m3 m4 m5 m6 m7 m8 m9 m10 m11 m12 m13 m14 m15 fm tm u rdb rrm rD rP mt M ++ wMc cI m3 mc) ⟨hx, hb, hml, hown, hts⟩ hK hP hD hS hA [0, 1] [2, 3, 4] (wc := [(m0, .inr (5, [.int fm, .int tm, .ref m1, .ref m2, .ref m3, .int M.db, .int M.rm, .int (nI M.D), .int (nI M.P), .ref m4, .ref m5, .ref m6, .ref m7, .int (nI (at1 + 1)), .int rdb, .int rrm, .int (nI rD), .int (nI rP), .ref m8, .ref m9, .ref m10, .ref m11, .ref m12, .int (nI mt), .ref m13, .ref m14, .ref m15])), (m3, .inl (cI, 240, .inl mc))]) (wr := [(m9, .inl (cI, 4, .inl (upd rk rP (kL (kcM mc at1 e))))), (m10, .inl (cI, 4, .inl rw)), (m11, .inl (cI, 4, .inl rp))]) rfl rfl (by decide) (by decide) (by decide) [3, 4, 0, 1, 2] (fun (u1 : Nat) => [(m0, .inr (5, [.int fm, .int tm, .ref m1, .ref m2, .ref m3, .int M.db, .int M.rm, .int (nI M.D), .int (nI M.P), .ref m4, .ref m5, .ref m6, .ref m7, .int (nI u1), .int rdb, .int rrm, .int (nI rD), .int (nI rP), .ref m8, .ref m9, .ref m10, .ref m11, .ref m12, .int (nI mt), .ref m13, .ref m14, .ref m15])), (m3, .inl (cI, 240, .inl mc)), (m9, .inl (cI, 4, .inl (upd rk rP (kL (kcM mc at1 e))))), (m10, .inl (cI, 4, .inl rw)), (m11, .inl (cI, 4, .inl rp))]) (fun _ => rfl) (by decide) (m_digit l D cI H.size m0 m1 m2 m3 m4 m5 m6 m7 m8 m9 m10 m11 m12 m13 m14 m15 fm tm (at1 + 1) rdb rrm rD rP mt M mc e 0 9 he (by omega) (by omega) (by omega)) (cwV 3 hts gX5_readPupil_X5_digit rfl rfl rfl hdX5_digit ⟨Nat.le_of_ble_eq_true rfl, Nat.le_of_ble_eq_true rfl⟩) rfl rfl rfl hl.1 rfl (Nat.le_of_ble_eq_true rfl) dX5_readPupil_102 ⟨Nat.le_of_ble_eq_true rfl, Nat.le_of_ble_eq_true rfl⟩ (fun r1 u1 H locs hw1 hP hD hS => ?_)
        rcases h_o1 : okC mc (at1 + 1) e 0 9 with _ | _
        · obtain ⟨e_r, e_u⟩ := hw1.2 h_o1
          subst e_r e_u
          refine zk_iast (x := (-9)) hx hb hK hP hD hS 3 rfl (by omega) (by decide) dX5_readPupil_105 (fun H locs hP hD hS => ?_)
          have hP : va_P D vwCl [(m0, .inr (5, [.int fm, .int tm, .ref m1, .ref m2, .ref m3, .int M.db, .int M.rm, .int (nI M.D), .int (nI M.P), .ref m4, .ref m5, .ref m6, .ref m7, .int (nI (at1 + 1)), .int rdb, .int rrm, .int (nI rD), .int (nI rP), .ref m8, .ref m9, .ref m10, .ref m11, .ref m12, .int (nI mt), .ref m13, .ref m14, .ref m15])), (m3, .inl (cI, 240, .inl mc)), (m9, .inl (cI, 4, .inl (upd rk rP (kL (kcM mc at1 e))))), (m10, .inl (cI, 4, .inl (upd rw rP (-9)))), (m11, .inl (cI, 4, .inl rp))] H := hP
          have hD : va_D A [(m0, .inr (5, [.int fm, .int tm, .ref m1, .ref m2, .ref m3, .int M.db, .int M.rm, .int (nI M.D), .int (nI M.P), .ref m4, .ref m5, .ref m6, .ref m7, .int (nI (at1 + 1)), .int rdb, .int rrm, .int (nI rD), .int (nI rP), .ref m8, .ref m9, .ref m10, .ref m11, .ref m12, .int (nI mt), .ref m13, .ref m14, .ref m15])), (m3, .inl (cI, 240, .inl mc)), (m9, .inl (cI, 4, .inl (upd rk rP (kL (kcM mc at1 e))))), (m10, .inl (cI, 4, .inl (upd rw rP (-9)))), (m11, .inl (cI, 4, .inl rp))] := hD
          refine lv_aload_n hx hb dX5_readPupil_106 rfl (lv_at hl 0 rfl) ?_
          refine va_get (D := D) (ci := 5) (v := .ref m10) (C := RX5) (T := TX5) (N := 27) hx hb hts inX5 hown hK.1 hP 0 rfl rfl 20 (by decide) f_37 (fun _ h9 => h9) rfl dX5_readPupil_107 ?_
          refine lv_aload_n hx hb dX5_readPupil_110 rfl (lv_at hl 0 rfl) ?_
          refine va_get (D := D) (ci := 5) (v := .int (nI rP)) (C := RX5) (T := TX5) (N := 27) hx hb hts inX5 hown hK.1 hP 0 rfl rfl 17 (by decide) f_110 (fun _ h9 => h9) rfl dX5_readPupil_111 ?_
          refine zk_iald hx hb hK hP 3 rfl (by omega) (by decide) dX5_readPupil_114 ?_
          refine zk_top (y := (-9)) (upd_s _ _ _) ?_
          refine lv_bipush (v := (-9)) hx hb dX5_readPupil_115 (by decide) ?_
          refine lv_icmp_ne (tgt := 122) hx hb dX5_readPupil_117 (by decide) (fun c_4 => ?_) (fun c_4 => ?_)
          · exact (by exact absurd rfl c_4)
          · refine lv_iconst (v := nI 0) hx hb dX5_readPupil_120 (by decide) ?_
            exact zk_retB hx hb hr nI_nar0 hS (((at1 + 1), rP, upd rk rP (kL (kcM mc at1 e)), upd rw rP (-9), rp)) (⟨fun q => absurd q h_kk, fun _ => ⟨fun _ => ⟨rfl, rfl⟩, fun q => (by first | (cases q; done) | (rw [h_o1] at q; cases q))⟩⟩) hP hD dX5_readPupil_121 hlocks
        · obtain ⟨e_r, e_u⟩ := hw1.1 h_o1
          subst e_r e_u
          obtain ⟨h_lt1, v1, h_v01, h_v91, h_v1⟩ := okC_t (by omega) (by omega) h_o1
          refine zk_iast (x := (mc (at1 + 1) - nI 48)) hx hb hK hP hD hS 3 rfl (by omega) (by decide) dX5_readPupil_105 (fun H locs hP hD hS => ?_)
          have hP : va_P D vwCl [(m0, .inr (5, [.int fm, .int tm, .ref m1, .ref m2, .ref m3, .int M.db, .int M.rm, .int (nI M.D), .int (nI M.P), .ref m4, .ref m5, .ref m6, .ref m7, .int (nI (at1 + 1 + 1)), .int rdb, .int rrm, .int (nI rD), .int (nI rP), .ref m8, .ref m9, .ref m10, .ref m11, .ref m12, .int (nI mt), .ref m13, .ref m14, .ref m15])), (m3, .inl (cI, 240, .inl mc)), (m9, .inl (cI, 4, .inl (upd rk rP (kL (kcM mc at1 e))))), (m10, .inl (cI, 4, .inl (upd rw rP (mc (at1 + 1) - nI 48)))), (m11, .inl (cI, 4, .inl rp))] H := hP
          have hD : va_D A [(m0, .inr (5, [.int fm, .int tm, .ref m1, .ref m2, .ref m3, .int M.db, .int M.rm, .int (nI M.D), .int (nI M.P), .ref m4, .ref m5, .ref m6, .ref m7, .int (nI (at1 + 1 + 1)), .int rdb, .int rrm, .int (nI rD), .int (nI rP), .ref m8, .ref m9, .ref m10, .ref m11, .ref m12, .int (nI mt), .ref m13, .ref m14, .ref m15])), (m3, .inl (cI, 240, .inl mc)), (m9, .inl (cI, 4, .inl (upd rk rP (kL (kcM mc at1 e))))), (m10, .inl (cI, 4, .inl (upd rw rP (mc (at1 + 1) - nI 48)))), (m11, .inl (cI, 4, .inl rp))] := hD
          refine lv_aload_n hx hb dX5_readPupil_106 rfl (lv_at hl 0 rfl) ?_
          refine va_get (D := D) (ci := 5) (v := .ref m10) (C := RX5) (T := TX5) (N := 27) hx hb hts inX5 hown hK.1 hP 0 rfl rfl 20 (by decide) f_37 (fun _ h9 => h9) rfl dX5_readPupil_107 ?_
          refine lv_aload_n hx hb dX5_readPupil_110 rfl (lv_at hl 0 rfl) ?_
          refine va_get (D := D) (ci := 5) (v := .int (nI rP)) (C := RX5) (T := TX5) (N := 27) hx hb hts inX5 hown hK.1 hP 0 rfl rfl 17 (by decide) f_110 (fun _ h9 => h9) rfl dX5_readPupil_111 ?_
          refine zk_iald hx hb hK hP 3 rfl (by omega) (by decide) dX5_readPupil_114 ?_
          refine zk_top (y := mc (at1 + 1) - nI 48) (upd_s _ _ _) ?_
          refine lv_bipush (v := (-9)) hx hb dX5_readPupil_115 (by decide) ?_
          refine lv_icmp_ne (tgt := 122) hx hb dX5_readPupil_117 (by decide) (fun c_5 => ?_) (fun c_5 => ?_)
          · refine lv_aload_n hx hb dX5_readPupil_122 rfl (lv_at hl 0 rfl) ?_
            refine va_get (D := D) (ci := 5) (v := .ref m11) (C := RX5) (T := TX5) (N := 27) hx hb hts inX5 hown hK.1 hP 0 rfl rfl 21 (by decide) f_40 (fun _ h9 => h9) rfl dX5_readPupil_123 ?_
            refine lv_aload_n hx hb dX5_readPupil_126 rfl (lv_at hl 0 rfl) ?_
            refine va_get (D := D) (ci := 5) (v := .int (nI rP)) (C := RX5) (T := TX5) (N := 27) hx hb hts inX5 hown hK.1 hP 0 rfl rfl 17 (by decide) f_110 (fun _ h9 => h9) rfl dX5_readPupil_127 ?_
            refine lv_aload_n hx hb dX5_readPupil_130 rfl (lv_at hl 0 rfl) ?_
            refine lv_iload_n hx hb dX5_readPupil_131 rfl (lv_at hl 1 rfl) ?_
            refine lv_iconst (v := nI 0) hx hb dX5_readPupil_132 (by decide) ?_
            refine lv_bipush (v := nI 9) hx hb dX5_readPupil_133 (by decide) ?_
            refine zk_effVi (As := [.int (nI e), .int (nI 0), .int (nI 9)]) (rest := [.int (nI rP), .ref m11]) (S := Nat) (fun r u => (okC mc (at1 + 1 + 1) e 0 9 = true → r = mc (at1 + 1 + 1) - nI 48 ∧ u = (at1 + 1 + 1) + 1) ∧ (okC mc (at1 + 1 + 1) e 0 9 = false → r = (-9) ∧ u = (at1 + 1 + 1))) (fun u => wMo m0 m1 m2 m3 m4 m5 m6 m7 m8 m9 m10 m11 m12 m13 m14 m15 fm tm u rdb rrm rD rP mt M ++ wMc cI m3 mc) ⟨hx, hb, hml, hown, hts⟩ hK hP hD hS hA [0, 1] [2, 3, 4] (wc := [(m0, .inr (5, [.int fm, .int tm, .ref m1, .ref m2, .ref m3, .int M.db, .int M.rm, .int (nI M.D), .int (nI M.P), .ref m4, .ref m5, .ref m6, .ref m7, .int (nI (at1 + 1 + 1)), .int rdb, .int rrm, .int (nI rD), .int (nI rP), .ref m8, .ref m9, .ref m10, .ref m11, .ref m12, .int (nI mt), .ref m13, .ref m14, .ref m15])), (m3, .inl (cI, 240, .inl mc))]) (wr := [(m9, .inl (cI, 4, .inl (upd rk rP (kL (kcM mc at1 e))))), (m10, .inl (cI, 4, .inl (upd rw rP (mc (at1 + 1) - nI 48)))), (m11, .inl (cI, 4, .inl rp))]) rfl rfl (by decide) (by decide) (by decide) [3, 4, 0, 1, 2] (fun (u2 : Nat) => [(m0, .inr (5, [.int fm, .int tm, .ref m1, .ref m2, .ref m3, .int M.db, .int M.rm, .int (nI M.D), .int (nI M.P), .ref m4, .ref m5, .ref m6, .ref m7, .int (nI u2), .int rdb, .int rrm, .int (nI rD), .int (nI rP), .ref m8, .ref m9, .ref m10, .ref m11, .ref m12, .int (nI mt), .ref m13, .ref m14, .ref m15])), (m3, .inl (cI, 240, .inl mc)), (m9, .inl (cI, 4, .inl (upd rk rP (kL (kcM mc at1 e))))), (m10, .inl (cI, 4, .inl (upd rw rP (mc (at1 + 1) - nI 48)))), (m11, .inl (cI, 4, .inl rp))]) (fun _ => rfl) (by decide) (m_digit l D cI H.size m0 m1 m2 m3 m4 m5 m6 m7 m8 m9 m10 m11 m12 m13 m14 m15 fm tm (at1 + 1 + 1) rdb rrm rD rP mt M mc e 0 9 he (by omega) (by omega) (by omega)) (cwV 3 hts gX5_readPupil_X5_digit rfl rfl rfl hdX5_digit ⟨Nat.le_of_ble_eq_true rfl, Nat.le_of_ble_eq_true rfl⟩) rfl rfl rfl hl.1 rfl (Nat.le_of_ble_eq_true rfl) dX5_readPupil_135 ⟨Nat.le_of_ble_eq_true rfl, Nat.le_of_ble_eq_true rfl⟩ (fun r2 u2 H locs hw2 hP hD hS => ?_)
            rcases h_o2 : okC mc (at1 + 2) e 0 9 with _ | _
            · obtain ⟨e_r, e_u⟩ := hw2.2 h_o2
              subst e_r e_u
              refine zk_iast (x := (-9)) hx hb hK hP hD hS 4 rfl (by omega) (by decide) dX5_readPupil_138 (fun H locs hP hD hS => ?_)
              have hP : va_P D vwCl [(m0, .inr (5, [.int fm, .int tm, .ref m1, .ref m2, .ref m3, .int M.db, .int M.rm, .int (nI M.D), .int (nI M.P), .ref m4, .ref m5, .ref m6, .ref m7, .int (nI (at1 + 2)), .int rdb, .int rrm, .int (nI rD), .int (nI rP), .ref m8, .ref m9, .ref m10, .ref m11, .ref m12, .int (nI mt), .ref m13, .ref m14, .ref m15])), (m3, .inl (cI, 240, .inl mc)), (m9, .inl (cI, 4, .inl (upd rk rP (kL (kcM mc at1 e))))), (m10, .inl (cI, 4, .inl (upd rw rP (mc (at1 + 1) - nI 48)))), (m11, .inl (cI, 4, .inl (upd rp rP (-9))))] H := hP
              have hD : va_D A [(m0, .inr (5, [.int fm, .int tm, .ref m1, .ref m2, .ref m3, .int M.db, .int M.rm, .int (nI M.D), .int (nI M.P), .ref m4, .ref m5, .ref m6, .ref m7, .int (nI (at1 + 2)), .int rdb, .int rrm, .int (nI rD), .int (nI rP), .ref m8, .ref m9, .ref m10, .ref m11, .ref m12, .int (nI mt), .ref m13, .ref m14, .ref m15])), (m3, .inl (cI, 240, .inl mc)), (m9, .inl (cI, 4, .inl (upd rk rP (kL (kcM mc at1 e))))), (m10, .inl (cI, 4, .inl (upd rw rP (mc (at1 + 1) - nI 48)))), (m11, .inl (cI, 4, .inl (upd rp rP (-9))))] := hD
              refine lv_aload_n hx hb dX5_readPupil_139 rfl (lv_at hl 0 rfl) ?_
              refine lv_dup hx hb dX5_readPupil_140 rfl ?_
              refine va_get (D := D) (ci := 5) (v := .int (nI rP)) (C := RX5) (T := TX5) (N := 27) hx hb hts inX5 hown hK.1 hP 0 rfl rfl 17 (by decide) f_110 (fun _ h9 => h9) rfl dX5_readPupil_141 ?_
              refine lv_iconst (v := nI 1) hx hb dX5_readPupil_144 (by decide) ?_
              refine zk_iaddN hx hb dX5_readPupil_145 ?_
              refine va_put (D := D) (ci := 5) (v := .int (nI (rP + 1))) (ty := .int) (C := RX5) (T := TX5) (N := 27) hx hb hts inX5 tyX5 tyX5_ok nmX5 hown hK.1 hP hD hS 0 rfl rfl 17 (by decide) f_110 (fun _ h9 => h9) rfl (by decide +kernel) rfl rfl (Nat.le_of_ble_eq_true rfl) dX5_readPupil_146 (fun H locs hP hD hS => ?_)
              have hP : va_P D vwCl [(m0, .inr (5, [.int fm, .int tm, .ref m1, .ref m2, .ref m3, .int M.db, .int M.rm, .int (nI M.D), .int (nI M.P), .ref m4, .ref m5, .ref m6, .ref m7, .int (nI (at1 + 2)), .int rdb, .int rrm, .int (nI rD), .int (nI (rP + 1)), .ref m8, .ref m9, .ref m10, .ref m11, .ref m12, .int (nI mt), .ref m13, .ref m14, .ref m15])), (m3, .inl (cI, 240, .inl mc)), (m9, .inl (cI, 4, .inl (upd rk rP (kL (kcM mc at1 e))))), (m10, .inl (cI, 4, .inl (upd rw rP (mc (at1 + 1) - nI 48)))), (m11, .inl (cI, 4, .inl (upd rp rP (-9))))] H := hP
              have hD : va_D A [(m0, .inr (5, [.int fm, .int tm, .ref m1, .ref m2, .ref m3, .int M.db, .int M.rm, .int (nI M.D), .int (nI M.P), .ref m4, .ref m5, .ref m6, .ref m7, .int (nI (at1 + 2)), .int rdb, .int rrm, .int (nI rD), .int (nI (rP + 1)), .ref m8, .ref m9, .ref m10, .ref m11, .ref m12, .int (nI mt), .ref m13, .ref m14, .ref m15])), (m3, .inl (cI, 240, .inl mc)), (m9, .inl (cI, 4, .inl (upd rk rP (kL (kcM mc at1 e))))), (m10, .inl (cI, 4, .inl (upd rw rP (mc (at1 + 1) - nI 48)))), (m11, .inl (cI, 4, .inl (upd rp rP (-9))))] := hD
              refine lv_aload_n hx hb dX5_readPupil_149 rfl (lv_at hl 0 rfl) ?_
              refine va_get (D := D) (ci := 5) (v := .ref m11) (C := RX5) (T := TX5) (N := 27) hx hb hts inX5 hown hK.1 hP 0 rfl rfl 21 (by decide) f_40 (fun _ h9 => h9) rfl dX5_readPupil_150 ?_
              refine lv_aload_n hx hb dX5_readPupil_153 rfl (lv_at hl 0 rfl) ?_
              refine va_get (D := D) (ci := 5) (v := .int (nI (rP + 1))) (C := RX5) (T := TX5) (N := 27) hx hb hts inX5 hown hK.1 hP 0 rfl rfl 17 (by decide) f_110 (fun _ h9 => h9) rfl dX5_readPupil_154 ?_
              refine lv_iconst (v := nI 1) hx hb dX5_readPupil_157 (by decide) ?_
              refine zk_isubN hx hb (by omega) dX5_readPupil_158 ?_
              refine zk_iald hx hb hK hP 4 rfl (by omega) (by decide) dX5_readPupil_159 ?_
              refine zk_top (y := (-9)) (upd_s _ _ _) ?_
              refine lv_bipush (v := (-9)) hx hb dX5_readPupil_160 (by decide) ?_
              refine lv_icmp_eq (tgt := 169) hx hb dX5_readPupil_162 (by decide) (fun c_8 => ?_) (fun c_8 => ?_)
              · refine lv_iconst (v := nI 0) hx hb dX5_readPupil_169 (by decide) ?_
                exact zk_retB hx hb hr nI_nar0 hS (((at1 + 2), rP + 1, upd rk rP (kL (kcM mc at1 e)), upd rw rP (mc (at1 + 1) - nI 48), upd rp rP (-9))) (⟨fun q => absurd q h_kk, fun _ => ⟨fun q => (by first | (cases q; done) | (rw [h_o1] at q; cases q)), fun _ => ⟨fun _ => ⟨rfl, rfl⟩, fun q => (by first | (cases q; done) | (rw [h_o2] at q; cases q))⟩⟩⟩) hP hD dX5_readPupil_170 hlocks
              · exact (by exact absurd rfl c_8)
            · obtain ⟨e_r, e_u⟩ := hw2.1 h_o2
              subst e_r e_u
              obtain ⟨h_lt2, v2, h_v02, h_v92, h_v2⟩ := okC_t (by omega) (by omega) h_o2
              refine zk_iast (x := (mc (at1 + 2) - nI 48)) hx hb hK hP hD hS 4 rfl (by omega) (by decide) dX5_readPupil_138 (fun H locs hP hD hS => ?_)
              have hP : va_P D vwCl [(m0, .inr (5, [.int fm, .int tm, .ref m1, .ref m2, .ref m3, .int M.db, .int M.rm, .int (nI M.D), .int (nI M.P), .ref m4, .ref m5, .ref m6, .ref m7, .int (nI (at1 + 2 + 1)), .int rdb, .int rrm, .int (nI rD), .int (nI rP), .ref m8, .ref m9, .ref m10, .ref m11, .ref m12, .int (nI mt), .ref m13, .ref m14, .ref m15])), (m3, .inl (cI, 240, .inl mc)), (m9, .inl (cI, 4, .inl (upd rk rP (kL (kcM mc at1 e))))), (m10, .inl (cI, 4, .inl (upd rw rP (mc (at1 + 1) - nI 48)))), (m11, .inl (cI, 4, .inl (upd rp rP (mc (at1 + 2) - nI 48))))] H := hP
              have hD : va_D A [(m0, .inr (5, [.int fm, .int tm, .ref m1, .ref m2, .ref m3, .int M.db, .int M.rm, .int (nI M.D), .int (nI M.P), .ref m4, .ref m5, .ref m6, .ref m7, .int (nI (at1 + 2 + 1)), .int rdb, .int rrm, .int (nI rD), .int (nI rP), .ref m8, .ref m9, .ref m10, .ref m11, .ref m12, .int (nI mt), .ref m13, .ref m14, .ref m15])), (m3, .inl (cI, 240, .inl mc)), (m9, .inl (cI, 4, .inl (upd rk rP (kL (kcM mc at1 e))))), (m10, .inl (cI, 4, .inl (upd rw rP (mc (at1 + 1) - nI 48)))), (m11, .inl (cI, 4, .inl (upd rp rP (mc (at1 + 2) - nI 48))))] := hD
              refine lv_aload_n hx hb dX5_readPupil_139 rfl (lv_at hl 0 rfl) ?_
              refine lv_dup hx hb dX5_readPupil_140 rfl ?_
              refine va_get (D := D) (ci := 5) (v := .int (nI rP)) (C := RX5) (T := TX5) (N := 27) hx hb hts inX5 hown hK.1 hP 0 rfl rfl 17 (by decide) f_110 (fun _ h9 => h9) rfl dX5_readPupil_141 ?_
              refine lv_iconst (v := nI 1) hx hb dX5_readPupil_144 (by decide) ?_
              refine zk_iaddN hx hb dX5_readPupil_145 ?_
              refine va_put (D := D) (ci := 5) (v := .int (nI (rP + 1))) (ty := .int) (C := RX5) (T := TX5) (N := 27) hx hb hts inX5 tyX5 tyX5_ok nmX5 hown hK.1 hP hD hS 0 rfl rfl 17 (by decide) f_110 (fun _ h9 => h9) rfl (by decide +kernel) rfl rfl (Nat.le_of_ble_eq_true rfl) dX5_readPupil_146 (fun H locs hP hD hS => ?_)
              have hP : va_P D vwCl [(m0, .inr (5, [.int fm, .int tm, .ref m1, .ref m2, .ref m3, .int M.db, .int M.rm, .int (nI M.D), .int (nI M.P), .ref m4, .ref m5, .ref m6, .ref m7, .int (nI (at1 + 2 + 1)), .int rdb, .int rrm, .int (nI rD), .int (nI (rP + 1)), .ref m8, .ref m9, .ref m10, .ref m11, .ref m12, .int (nI mt), .ref m13, .ref m14, .ref m15])), (m3, .inl (cI, 240, .inl mc)), (m9, .inl (cI, 4, .inl (upd rk rP (kL (kcM mc at1 e))))), (m10, .inl (cI, 4, .inl (upd rw rP (mc (at1 + 1) - nI 48)))), (m11, .inl (cI, 4, .inl (upd rp rP (mc (at1 + 2) - nI 48))))] H := hP
              have hD : va_D A [(m0, .inr (5, [.int fm, .int tm, .ref m1, .ref m2, .ref m3, .int M.db, .int M.rm, .int (nI M.D), .int (nI M.P), .ref m4, .ref m5, .ref m6, .ref m7, .int (nI (at1 + 2 + 1)), .int rdb, .int rrm, .int (nI rD), .int (nI (rP + 1)), .ref m8, .ref m9, .ref m10, .ref m11, .ref m12, .int (nI mt), .ref m13, .ref m14, .ref m15])), (m3, .inl (cI, 240, .inl mc)), (m9, .inl (cI, 4, .inl (upd rk rP (kL (kcM mc at1 e))))), (m10, .inl (cI, 4, .inl (upd rw rP (mc (at1 + 1) - nI 48)))), (m11, .inl (cI, 4, .inl (upd rp rP (mc (at1 + 2) - nI 48))))] := hD
              refine lv_aload_n hx hb dX5_readPupil_149 rfl (lv_at hl 0 rfl) ?_
              refine va_get (D := D) (ci := 5) (v := .ref m11) (C := RX5) (T := TX5) (N := 27) hx hb hts inX5 hown hK.1 hP 0 rfl rfl 21 (by decide) f_40 (fun _ h9 => h9) rfl dX5_readPupil_150 ?_
              refine lv_aload_n hx hb dX5_readPupil_153 rfl (lv_at hl 0 rfl) ?_
              refine va_get (D := D) (ci := 5) (v := .int (nI (rP + 1))) (C := RX5) (T := TX5) (N := 27) hx hb hts inX5 hown hK.1 hP 0 rfl rfl 17 (by decide) f_110 (fun _ h9 => h9) rfl dX5_readPupil_154 ?_
              refine lv_iconst (v := nI 1) hx hb dX5_readPupil_157 (by decide) ?_
              refine zk_isubN hx hb (by omega) dX5_readPupil_158 ?_
              refine zk_iald hx hb hK hP 4 rfl (by omega) (by decide) dX5_readPupil_159 ?_
              refine zk_top (y := mc (at1 + 2) - nI 48) (upd_s _ _ _) ?_
              refine lv_bipush (v := (-9)) hx hb dX5_readPupil_160 (by decide) ?_
              refine lv_icmp_eq (tgt := 169) hx hb dX5_readPupil_162 (by decide) (fun c_9 => ?_) (fun c_9 => ?_)
              · exact (by rw [h_v2, dg48 h_v92] at c_9; exact absurd c_9 (nI_n9 (by omega)))
              · refine lv_iconst (v := nI 1) hx hb dX5_readPupil_165 (by decide) ?_
                refine lv_goto (tgt := 170) hx hb dX5_readPupil_166 (by decide) ?_
                exact zk_retB hx hb hr nI_nar1 hS (((at1 + 2 + 1), rP + 1, upd rk rP (kL (kcM mc at1 e)), upd rw rP (mc (at1 + 1) - nI 48), upd rp rP (mc (at1 + 2) - nI 48))) (⟨fun q => absurd q h_kk, fun _ => ⟨fun q => (by first | (cases q; done) | (rw [h_o1] at q; cases q)), fun _ => ⟨fun q => (by first | (cases q; done) | (rw [h_o2] at q; cases q)), fun _ => ⟨rfl, rfl⟩⟩⟩⟩) hP hD dX5_readPupil_170 hlocks
          · exact (by rw [h_v1, dg48 h_v91] at c_5; exact absurd c_5 (nI_n9 (by omega)))
      · have h_kk := c_1
        refine lv_iconst (v := nI 0) hx hb dX5_readPupil_77 (by decide) ?_
        exact zk_retB hx hb hr nI_nar0 hS ((at1, rP, upd rk rP (kL (kcM mc at1 e)), rw, rp)) (⟨fun _ => ⟨rfl, rfl⟩, fun q => absurd h_kk q⟩) hP hD dX5_readPupil_78 hlocks
    refine lv_iload_n hx hb dX5_readPupil_30 rfl (lv_at hl 0 rfl) ?_
    refine lv_bipush (v := nI 112) hx hb dX5_readPupil_31 (by decide) ?_
    refine lv_icmp_ne (tgt := 40) hx hb dX5_readPupil_33 (by decide) (fun c_10 => ?_) (fun c_10 => ?_)
    · refine lv_iload_n hx hb dX5_readPupil_40 rfl (lv_at hl 0 rfl) ?_
      refine lv_bipush (v := nI 100) hx hb dX5_readPupil_41 (by decide) ?_
      refine lv_icmp_ne (tgt := 50) hx hb dX5_readPupil_43 (by decide) (fun c_11 => ?_) (fun c_11 => ?_)
      · refine lv_iload_n hx hb dX5_readPupil_50 rfl (lv_at hl 0 rfl) ?_
        refine lv_bipush (v := nI 117) hx hb dX5_readPupil_51 (by decide) ?_
        refine lv_icmp_ne (tgt := 60) hx hb dX5_readPupil_53 (by decide) (fun c_12 => ?_) (fun c_12 => ?_)
        · refine lv_bipush (v := (-9)) hx hb dX5_readPupil_60 (by decide) ?_
          exact join62 (-9) (by rw [← h_cd]; unfold kL; rw [if_neg c_11, if_neg c_10, if_neg c_12]) ls (lv_sub hl [1, 2, 0] rfl)
        · refine lv_iconst (v := nI 2) hx hb dX5_readPupil_56 (by decide) ?_
          refine lv_goto (tgt := 62) hx hb dX5_readPupil_57 (by decide) ?_
          exact join62 (nI 2) (by rw [← h_cd]; unfold kL; rw [if_neg c_11, if_neg c_10, if_pos c_12]) ls (lv_sub hl [1, 2, 0] rfl)
      · refine lv_iconst (v := nI 1) hx hb dX5_readPupil_46 (by decide) ?_
        refine lv_goto (tgt := 62) hx hb dX5_readPupil_47 (by decide) ?_
        exact join62 (nI 1) (by rw [← h_cd]; unfold kL; rw [if_pos c_11]) ls (lv_sub hl [1, 2, 0] rfl)
    · refine lv_iconst (v := nI 0) hx hb dX5_readPupil_36 (by decide) ?_
      refine lv_goto (tgt := 62) hx hb dX5_readPupil_37 (by decide) ?_
      exact join62 (nI 0) (by rw [← h_cd]; unfold kL; rw [if_neg (by rw [c_10]; decide), if_pos c_10]) ls (lv_sub hl [1, 2, 0] rfl)
  refine lv_aload_n hx hb dX5_readPupil_0 rfl (lv_at hl 0 rfl) ?_
  refine va_get (D := D) (ci := 5) (v := .int (nI at1)) (C := RX5) (T := TX5) (N := 27) hx hb hts inX5 hown hK.1 hP 0 rfl rfl 13 (by decide) f_71 (fun _ h9 => h9) rfl dX5_readPupil_1 ?_
  refine lv_iload_n hx hb dX5_readPupil_4 rfl (lv_at hl 1 rfl) ?_
  refine zk_icmp_ge (tgt := 20) hx hb dX5_readPupil_5 (by decide) (by omega) (by omega) (fun c_13 => ?_) (fun c_13 => ?_)
  · refine lv_iconst (v := nI 0) hx hb dX5_readPupil_20 (by decide) ?_
    exact join21 (nI 0) (by unfold kcM; rw [if_neg (by omega)]; exact nI_0) ls (lv_sub hl [0, 1] rfl)
  · refine lv_aload_n hx hb dX5_readPupil_8 rfl (lv_at hl 0 rfl) ?_
    refine va_get (D := D) (ci := 5) (v := .ref m3) (C := RX5) (T := TX5) (N := 27) hx hb hts inX5 hown hK.1 hP 0 rfl rfl 4 (by decide) f_16 (fun _ h9 => h9) rfl dX5_readPupil_9 ?_
    refine lv_aload_n hx hb dX5_readPupil_12 rfl (lv_at hl 0 rfl) ?_
    refine va_get (D := D) (ci := 5) (v := .int (nI at1)) (C := RX5) (T := TX5) (N := 27) hx hb hts inX5 hown hK.1 hP 0 rfl rfl 13 (by decide) f_71 (fun _ h9 => h9) rfl dX5_readPupil_13 ?_
    refine zk_iald hx hb hK hP 1 rfl (by omega) (by decide) dX5_readPupil_16 ?_
    refine lv_goto (tgt := 21) hx hb dX5_readPupil_17 (by decide) ?_
    exact join21 (mc at1) (by unfold kcM; rw [if_pos (by omega)]) ls (lv_sub hl [0, 1] rfl)
