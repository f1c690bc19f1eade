def copyM (mc so lg : Nat → Int32) (k i o j n : Int32) : Int32 × Int32 × (Nat → Int32) := if isP 4 k && isP 4 o then (if hasM so k.toNatClampNeg && hasM so o.toNatClampNeg then (if so k.toNatClampNeg = so o.toNatClampNeg then (if decide (0 ≤ n) && (plN i n (lg k.toNatClampNeg) && plN j n (lg o.toNatClampNeg)) then (n, nI 0, va_cpy mc mc (60 * k.toNatClampNeg + i.toNatClampNeg) (60 * o.toNatClampNeg + j.toNatClampNeg) n.toNatClampNeg) else ((-13), nI 3, mc)) else ((-12), nI 2, mc)) else ((-11), nI 1, mc)) else ((-1), nI 0, mc)
theorem cpy0 (f : Nat → Int32) (a b : Nat) : va_cpy f f a b 0 = f := by
  funext x
  unfold va_cpy
  rw [if_neg (by omega)]
theorem cpyU (f : Nat → Int32) (a b k : Nat) : upd (va_cpy f f a b k) (b + k) (f (a + k)) = va_cpy f f a b (k + 1) := by
  funext x
  unfold upd va_cpy
  by_cases e : x = b + k
  · subst e
    rw [if_pos rfl, if_pos (by omega)]
    congr 1
    omega
  · rw [if_neg e]
    by_cases h : b ≤ x ∧ x < b + k
    · rw [if_pos h, if_pos (by omega)]
    · rw [if_neg h, if_neg (by omega)]
theorem cpyD (f : Nat → Int32) (a b n k : Nat) (h : k < n) : upd (va_cpy f f (a + n - k) (b + n - k) k) (b + (n - 1 - k)) (f (a + (n - 1 - k))) = va_cpy f f (a + n - (k + 1)) (b + n - (k + 1)) (k + 1) := by
  funext x
  unfold upd va_cpy
  by_cases e : x = b + (n - 1 - k)
  · subst e
    rw [if_pos rfl, if_pos (by omega)]
    congr 1
    omega
  · rw [if_neg e]
    by_cases h : b + n - k ≤ x ∧ x < b + n - k + k
    · rw [if_pos h, if_pos (by omega)]
      congr 1
      omega
    · rw [if_neg h, if_neg (by omega)]
/-- the cell that is read next has not yet been written -/
theorem cpyRU (f : Nat → Int32) {K O i j n k : Nat} (hK : K < 4) (hO : O < 4) (hi : i + n ≤ 60) (hj : j + n ≤ 60) (h : j ≤ i) (hk : k < n) : va_cpy f f (60 * K + i) (60 * O + j) k (60 * K + i + k) = f (60 * K + i + k) := by
  unfold va_cpy
  rw [if_neg (by omega)]
theorem cpyRD (f : Nat → Int32) {K O i j n k : Nat} (hK : K < 4) (hO : O < 4) (hi : i + n ≤ 60) (hj : j + n ≤ 60) (h : i < j) (hk : k < n) : va_cpy f f (60 * K + i + n - k) (60 * O + j + n - k) k (60 * K + i + (n - 1 - k)) = f (60 * K + i + (n - 1 - k)) := by
  unfold va_cpy
  rw [if_neg (by omega)]
abbrev rowM (mc : Nat → Int32) (h i : Nat) : Nat → Int32 := fun q => mc (60 * h + i + q)
def planM (M : YS) (mc so lg : Nat → Int32) (k lane i n w : Int32) : Int32 × Int32 := if isP 4 k then (if isP 3 lane && isPl w then (if fCelM so lg k.toNatClampNeg lane i n = 0 then (if 0 < M.P then (if n = nI M.P then (if allB M.P (plB M (rowM mc k.toNatClampNeg i.toNatClampNeg)) then (ofPlF (M.sPret (tab M.P (rowM mc k.toNatClampNeg i.toNatClampNeg) M.pret)) w, nI 0) else ((-2), nI 0)) else ((-2), nI 0)) else ((-3), nI 0)) else ((-10) - fCelM so lg k.toNatClampNeg lane i n, fCelM so lg k.toNatClampNeg lane i n)) else ((-2), nI 0)) else ((-1), nI 0)
theorem isPl_w (w : Int32) : isPl w = (wiB w (nI 0) (nI 3) || (wiB w (nI 10) (nI 13) || wiB w (nI 20) (nI 24))) := by
  unfold isPl wiB
  rw [nI_0, decide_eq_decide.mpr (lt_le_succ (v := w) (n := 13) (by omega)), decide_eq_decide.mpr (lt_le_succ (v := w) (n := 24) (by omega))]
theorem hdX5_against : yX5_against.cls = RX5 ∧ yX5_against.cls ≠ "java/lang/invoke/MethodHandle" ∧ yX5_against.cls ≠ "java/lang/invoke/VarHandle" ∧ (parseMethodDescriptor yX5_against.desc).map (fun d => d.parameters.length) = some 4 := by decide +kernel
theorem hdX5_tellPlan : yX5_tellPlan.cls = RX5 ∧ yX5_tellPlan.cls ≠ "java/lang/invoke/MethodHandle" ∧ yX5_tellPlan.cls ≠ "java/lang/invoke/VarHandle" ∧ (parseMethodDescriptor yX5_tellPlan.desc).map (fun d => d.parameters.length) = some 1 := by decide +kernel
set_option maxHeartbeats 4000000 in
set_option maxRecDepth 100000 in
theorem mx_copy (l : Launch) (D : va_G) (cI : ClassId) (sz : Nat) (m0 : Nat) (m1 : Nat) (m2 : Nat) (m3 : Nat) (m4 : Nat) (m5 : Nat) (m6 : Nat) (m7 : Nat) (m8 : Nat) (m9 : Nat) (m10 : Nat) (m11 : Nat) (m12 : Nat) (m13 : Nat) (m14 : Nat) (m15 : Nat) (fm : Int32) (tm : Int32) (at1 : Nat) (rdb : Int32) (rrm : Int32) (rD : Nat) (rP : Nat) (mt : Nat) (M : YS) (so : Nat → Int32) (lg : Nat → Int32) (mc : Nat → Int32) (k : Int32) (i : Int32) (o : Int32) (j : Int32) (n : Int32) (hsz : okS lg) : Met l yX5_copy wsX5_copy ({ frames := 2, cells := 0, slots := 0, locals := 42 }) (PQ D cI [.ref m0, .int k, .int i, .int o, .int j, .int n] (wMo m0 m1 m2 m3 m4 m5 m6 m7 m8 m9 m10 m11 m12 m13 m14 m15 fm tm at1 rdb rrm rD rP mt M ++ wMs cI m1 m2 m3 so lg mc) sz) (QI (S := Unit) D (fun r _ => r = (copyM mc so lg k i o j n).1) (fun _ => wMo m0 m1 m2 m3 m4 m5 m6 m7 m8 m9 m10 m11 m12 m13 m14 m15 ((copyM mc so lg k i o j n).2.1) tm at1 rdb rrm rD rP mt M ++ wMs cI m1 m2 m3 so lg ((copyM mc so lg k i o j n).2.2)) (va_A (wMo m0 m1 m2 m3 m4 m5 m6 m7 m8 m9 m10 m11 m12 m13 m14 m15 fm tm at1 rdb rrm rD rP mt M ++ wMs cI m1 m2 m3 so lg mc) sz)) 0 0 (va_A (wMo m0 m1 m2 m3 m4 m5 m6 m7 m8 m9 m10 m11 m12 m13 m14 m15 fm tm at1 rdb rrm rD rP mt M ++ wMs cI m1 m2 m3 so lg mc) sz) := by
  refine zk_Q (QI (S := Unit) D (fun r _ => r = (copyM mc so lg k i o j n).1) (fun _ => wMo m0 m1 m2 m3 m4 m5 m6 m7 m8 m9 m10 m11 m12 m13 m14 m15 ((copyM mc so lg k i o j n).2.1) tm at1 rdb rrm rD rP mt M ++ wMs cI m1 m2 m3 so lg ((copyM mc so lg k i o j n).2.2))) (cc := cX5_copy) (maxL := 10) (ret := (some .int)) (by decide) rfl (Nat.le_of_ble_eq_true rfl) ?_
  intro pX eX sX mX bX tX cX hx hb hr hlocks hml hown hmn hts hP hK A hA hD hS ls hl
  have hl : lv_has ls 10 [(0, .ref m0), (1, .int k), (2, .int i), (3, .int o), (4, .int j), (5, .int n)] := hl
  have hP : va_P D vwCl [(m0, .inr (5, [.int fm, .int tm, .ref m1, .ref m2, .ref m3, .int M.db, .int M.rm, .int (nI M.D), .int (nI M.P), .ref m4, .ref m5, .ref m6, .ref m7, .int (nI at1), .int rdb, .int rrm, .int (nI rD), .int (nI rP), .ref m8, .ref m9, .ref m10, .ref m11, .ref m12, .int (nI mt), .ref m13, .ref m14, .ref m15])), (m1, .inl (cI, 4, .inl so)), (m2, .inl (cI, 4, .inl lg)), (m3, .inl (cI, 240, .inl mc))] sX.heap := hP
  have hD : va_D A [(m0, .inr (5, [.int fm, .int tm, .ref m1, .ref m2, .ref m3, .int M.db, .int M.rm, .int (nI M.D), .int (nI M.P), .ref m4, .ref m5, .ref m6, .ref m7, .int (nI at1), .int rdb, .int rrm, .int (nI rD), .int (nI rP), .ref m8, .ref m9, .ref m10, .ref m11, .ref m12, .int (nI mt), .ref m13, .ref m14, .ref m15])), (m1, .inl (cI, 4, .inl so)), (m2, .inl (cI, 4, .inl lg)), (m3, .inl (cI, 240, .inl mc))] := hD
  have f_55 := hts (.fieldLink RX5 55 "DunceSeeModel" "fault" "I") (by decide +kernel)
  have f_9 := hts (.fieldLink RX5 9 "DunceSeeModel" "sorts" "[I") (by decide +kernel)
  have f_13 := hts (.fieldLink RX5 13 "DunceSeeModel" "sheetLong" "[I") (by decide +kernel)
  have f_16 := hts (.fieldLink RX5 16 "DunceSeeModel" "cells" "[I") (by decide +kernel)
  have inX5 : ∀ w ∈ wsX50, w ∈ wsX5_copy := fun w h => List.mem_cons_of_mem _ (List.mem_append_right _ h)
  refine lv_aload_n hx hb dX5_copy_0 rfl (lv_at hl 0 rfl) ?_
  refine lv_iconst (v := nI 0) hx hb dX5_copy_1 (by decide) ?_
  refine va_put (D := D) (ci := 5) (v := .int (nI 0)) (ty := .int) (C := RX5) (T := TX5) (N := 27) hx hb hts inX5 tyX5 tyX5_ok nmX5 hown hK.1 hP hD hS 0 rfl rfl 0 (by decide) f_55 (fun _ h9 => h9) rfl (by decide +kernel) rfl rfl (Nat.le_of_ble_eq_true rfl) dX5_copy_2 (fun H locs hP hD hS => ?_)
  have hP : va_P D vwCl [(m0, .inr (5, [.int (nI 0), .int tm, .ref m1, .ref m2, .ref m3, .int M.db, .int M.rm, .int (nI M.D), .int (nI M.P), .ref m4, .ref m5, .ref m6, .ref m7, .int (nI at1), .int rdb, .int rrm, .int (nI rD), .int (nI rP), .ref m8, .ref m9, .ref m10, .ref m11, .ref m12, .int (nI mt), .ref m13, .ref m14, .ref m15])), (m1, .inl (cI, 4, .inl so)), (m2, .inl (cI, 4, .inl lg)), (m3, .inl (cI, 240, .inl mc))] H := hP
  have hD : va_D A [(m0, .inr (5, [.int (nI 0), .int tm, .ref m1, .ref m2, .ref m3, .int M.db, .int M.rm, .int (nI M.D), .int (nI M.P), .ref m4, .ref m5, .ref m6, .ref m7, .int (nI at1), .int rdb, .int rrm, .int (nI rD), .int (nI rP), .ref m8, .ref m9, .ref m10, .ref m11, .ref m12, .int (nI mt), .ref m13, .ref m14, .ref m15])), (m1, .inl (cI, 4, .inl so)), (m2, .inl (cI, 4, .inl lg)), (m3, .inl (cI, 240, .inl mc))] := hD
  refine lv_iload_n hx hb dX5_copy_5 rfl (lv_at hl 1 rfl) ?_
  refine zk_callSi (As := [.int k]) (rest := []) (bI (isP 4 k)) ⟨hx, hb, hml, hown, hts⟩ hK hP [] rfl (m_isSheet l D cI k ) (va_cwS 1 hts gX5_copy_X5_isSheet rfl rfl rfl hdX5_isSheet ⟨Nat.le_of_ble_eq_true rfl, Nat.le_of_ble_eq_true rfl⟩) rfl hl.1 rfl (Nat.le_of_ble_eq_true rfl) dX5_copy_6 ⟨Nat.le_of_ble_eq_true rfl, Nat.le_of_ble_eq_true rfl⟩ ?_
  refine zk_ifeqB (tgt := 19) hx hb dX5_copy_9 (by decide) (fun c_1 => ?_) (fun c_1 => ?_)
  · refine lv_iconst (v := (-1)) hx hb dX5_copy_19 (by decide) ?_
    have e_t : copyM mc so lg k i o j n = ((-1), nI 0, mc) := by simp [copyM, hasM, plN, c_1]
    exact zk_retI hx hb hr hS (()) (by rw [e_t]) (by rw [e_t]; exact hP) (by rw [e_t]; exact hD) dX5_copy_20 hlocks
  · obtain ⟨k1, hk1, e_k1, g_k1⟩ := isP_of (by omega) c_1
    rw [e_k1] at hl
    refine lv_iload_n hx hb dX5_copy_12 rfl (lv_at hl 3 rfl) ?_
    refine zk_callSi (As := [.int o]) (rest := []) (bI (isP 4 o)) ⟨hx, hb, hml, hown, hts⟩ hK hP [] rfl (m_isSheet l D cI o ) (va_cwS 1 hts gX5_copy_X5_isSheet rfl rfl rfl hdX5_isSheet ⟨Nat.le_of_ble_eq_true rfl, Nat.le_of_ble_eq_true rfl⟩) rfl hl.1 rfl (Nat.le_of_ble_eq_true rfl) dX5_copy_13 ⟨Nat.le_of_ble_eq_true rfl, Nat.le_of_ble_eq_true rfl⟩ ?_
    refine zk_ifneB (tgt := 21) hx hb dX5_copy_16 (by decide) (fun c_2 => ?_) (fun c_2 => ?_)
    · obtain ⟨o1, ho1, e_o1, g_o1⟩ := isP_of (by omega) c_2
      rw [e_o1] at hl
      refine lv_aload_n hx hb dX5_copy_21 rfl (lv_at hl 0 rfl) ?_
      refine va_get (D := D) (ci := 5) (v := .ref m1) (C := RX5) (T := TX5) (N := 27) hx hb hts inX5 hown hK.1 hP 0 rfl rfl 2 (by decide) f_9 (fun _ h9 => h9) rfl dX5_copy_22 ?_
      refine lv_iload_n hx hb dX5_copy_25 rfl (lv_at hl 1 rfl) ?_
      refine zk_iald hx hb hK hP 1 rfl (by omega) (by decide) dX5_copy_26 ?_
      refine lv_bipush (v := (-9)) hx hb dX5_copy_27 (by decide) ?_
      refine lv_icmp_eq (tgt := 43) hx hb dX5_copy_29 (by decide) (fun c_3 => ?_) (fun c_3 => ?_)
      · refine lv_aload_n hx hb dX5_copy_43 rfl (lv_at hl 0 rfl) ?_
        refine lv_iconst (v := nI 1) hx hb dX5_copy_44 (by decide) ?_
        refine zk_effVi (As := [.int (nI 1)]) (rest := []) (S := Unit) (fun r _ => r = (-10) - (nI 1)) (fun _ => wMo m0 m1 m2 m3 m4 m5 m6 m7 m8 m9 m10 m11 m12 m13 m14 m15 (nI 1) tm at1 rdb rrm rD rP mt M) ⟨hx, hb, hml, hown, hts⟩ hK hP hD hS hA [0] [1, 2, 3] (wc := [(m0, .inr (5, [.int (nI 0), .int tm, .ref m1, .ref m2, .ref m3, .int M.db, .int M.rm, .int (nI M.D), .int (nI M.P), .ref m4, .ref m5, .ref m6, .ref m7, .int (nI at1), .int rdb, .int rrm, .int (nI rD), .int (nI rP), .ref m8, .ref m9, .ref m10, .ref m11, .ref m12, .int (nI mt), .ref m13, .ref m14, .ref m15]))]) (wr := [(m1, .inl (cI, 4, .inl so)), (m2, .inl (cI, 4, .inl lg)), (m3, .inl (cI, 240, .inl mc))]) rfl rfl (by decide) (by decide) (by decide) [3, 0, 1, 2] (fun (_ : Unit) => [(m0, .inr (5, [.int (nI 1), .int tm, .ref m1, .ref m2, .ref m3, .int M.db, .int M.rm, .int (nI M.D), .int (nI M.P), .ref m4, .ref m5, .ref m6, .ref m7, .int (nI at1), .int rdb, .int rrm, .int (nI rD), .int (nI rP), .ref m8, .ref m9, .ref m10, .ref m11, .ref m12, .int (nI mt), .ref m13, .ref m14, .ref m15])), (m1, .inl (cI, 4, .inl so)), (m2, .inl (cI, 4, .inl lg)), (m3, .inl (cI, 240, .inl mc))]) (fun _ => rfl) (by decide) (m_fails l D cI H.size m0 m1 m2 m3 m4 m5 m6 m7 m8 m9 m10 m11 m12 m13 m14 m15 (nI 0) tm at1 rdb rrm rD rP mt M (nI 1) ) (cwV 1 hts gX5_copy_X5_fails rfl rfl rfl hdX5_fails ⟨Nat.le_of_ble_eq_true rfl, Nat.le_of_ble_eq_true rfl⟩) rfl rfl rfl hl.1 rfl (Nat.le_of_ble_eq_true rfl) dX5_copy_45 ⟨Nat.le_of_ble_eq_true rfl, Nat.le_of_ble_eq_true rfl⟩ (fun r_4 _ H locs hw_5 hP hD hS => ?_)
        have e_r_4 : r_4 = (-11) := hw_5.trans (by decide)
        rw [e_r_4]
        have e_t : copyM mc so lg k i o j n = ((-11), (nI 1), mc) := by simp [copyM, hasM, plN, c_1, g_k1, c_2, g_o1, c_3]
        exact zk_retI hx hb hr hS (()) (by rw [e_t]) (by rw [e_t]; exact hP) (by rw [e_t]; exact hD) dX5_copy_48 hlocks
      · refine lv_aload_n hx hb dX5_copy_32 rfl (lv_at hl 0 rfl) ?_
        refine va_get (D := D) (ci := 5) (v := .ref m1) (C := RX5) (T := TX5) (N := 27) hx hb hts inX5 hown hK.1 hP 0 rfl rfl 2 (by decide) f_9 (fun _ h9 => h9) rfl dX5_copy_33 ?_
        refine lv_iload_n hx hb dX5_copy_36 rfl (lv_at hl 3 rfl) ?_
        refine zk_iald hx hb hK hP 1 rfl (by omega) (by decide) dX5_copy_37 ?_
        refine lv_bipush (v := (-9)) hx hb dX5_copy_38 (by decide) ?_
        refine lv_icmp_ne (tgt := 49) hx hb dX5_copy_40 (by decide) (fun c_6 => ?_) (fun c_6 => ?_)
        · refine lv_aload_n hx hb dX5_copy_49 rfl (lv_at hl 0 rfl) ?_
          refine va_get (D := D) (ci := 5) (v := .ref m1) (C := RX5) (T := TX5) (N := 27) hx hb hts inX5 hown hK.1 hP 0 rfl rfl 2 (by decide) f_9 (fun _ h9 => h9) rfl dX5_copy_50 ?_
          refine lv_iload_n hx hb dX5_copy_53 rfl (lv_at hl 1 rfl) ?_
          refine zk_iald hx hb hK hP 1 rfl (by omega) (by decide) dX5_copy_54 ?_
          refine lv_aload_n hx hb dX5_copy_55 rfl (lv_at hl 0 rfl) ?_
          refine va_get (D := D) (ci := 5) (v := .ref m1) (C := RX5) (T := TX5) (N := 27) hx hb hts inX5 hown hK.1 hP 0 rfl rfl 2 (by decide) f_9 (fun _ h9 => h9) rfl dX5_copy_56 ?_
          refine lv_iload_n hx hb dX5_copy_59 rfl (lv_at hl 3 rfl) ?_
          refine zk_iald hx hb hK hP 1 rfl (by omega) (by decide) dX5_copy_60 ?_
          refine lv_icmp_eq (tgt := 70) hx hb dX5_copy_61 (by decide) (fun c_7 => ?_) (fun c_7 => ?_)
          · refine lv_iload_n hx hb dX5_copy_70 rfl (lv_at hl 2 rfl) ?_
            refine lv_if_lt (tgt := 109) hx hb dX5_copy_71 (by decide) (fun c_8 => ?_) (fun c_8 => ?_)
            · refine lv_iconst (v := nI 0) hx hb dX5_copy_109 (by decide) ?_
              refine lv_istore (lv' := [(6, .int (nI 0)), (0, .ref m0), (1, .int (nI k1)), (2, .int i), (3, .int (nI o1)), (4, .int j), (5, .int n)]) hx hb dX5_copy_110 hl (by decide) rfl (fun ls hl => ?_)
              refine lv_iload hx hb dX5_copy_112 (lv_at hl 0 rfl) ?_
              refine lv_if_eq (tgt := 144) hx hb dX5_copy_114 (by decide) (fun c_9 => ?_) (fun c_9 => ?_)
              · refine lv_aload_n hx hb dX5_copy_144 rfl (lv_at hl 1 rfl) ?_
                refine lv_iconst (v := nI 3) hx hb dX5_copy_145 (by decide) ?_
                refine zk_effVi (As := [.int (nI 3)]) (rest := []) (S := Unit) (fun r _ => r = (-10) - (nI 3)) (fun _ => wMo m0 m1 m2 m3 m4 m5 m6 m7 m8 m9 m10 m11 m12 m13 m14 m15 (nI 3) tm at1 rdb rrm rD rP mt M) ⟨hx, hb, hml, hown, hts⟩ hK hP hD hS hA [0] [1, 2, 3] (wc := [(m0, .inr (5, [.int (nI 0), .int tm, .ref m1, .ref m2, .ref m3, .int M.db, .int M.rm, .int (nI M.D), .int (nI M.P), .ref m4, .ref m5, .ref m6, .ref m7, .int (nI at1), .int rdb, .int rrm, .int (nI rD), .int (nI rP), .ref m8, .ref m9, .ref m10, .ref m11, .ref m12, .int (nI mt), .ref m13, .ref m14, .ref m15]))]) (wr := [(m1, .inl (cI, 4, .inl so)), (m2, .inl (cI, 4, .inl lg)), (m3, .inl (cI, 240, .inl mc))]) rfl rfl (by decide) (by decide) (by decide) [3, 0, 1, 2] (fun (_ : Unit) => [(m0, .inr (5, [.int (nI 3), .int tm, .ref m1, .ref m2, .ref m3, .int M.db, .int M.rm, .int (nI M.D), .int (nI M.P), .ref m4, .ref m5, .ref m6, .ref m7, .int (nI at1), .int rdb, .int rrm, .int (nI rD), .int (nI rP), .ref m8, .ref m9, .ref m10, .ref m11, .ref m12, .int (nI mt), .ref m13, .ref m14, .ref m15])), (m1, .inl (cI, 4, .inl so)), (m2, .inl (cI, 4, .inl lg)), (m3, .inl (cI, 240, .inl mc))]) (fun _ => rfl) (by decide) (m_fails l D cI H.size m0 m1 m2 m3 m4 m5 m6 m7 m8 m9 m10 m11 m12 m13 m14 m15 (nI 0) tm at1 rdb rrm rD rP mt M (nI 3) ) (cwV 1 hts gX5_copy_X5_fails rfl rfl rfl hdX5_fails ⟨Nat.le_of_ble_eq_true rfl, Nat.le_of_ble_eq_true rfl⟩) rfl rfl rfl hl.1 rfl (Nat.le_of_ble_eq_true rfl) dX5_copy_146 ⟨Nat.le_of_ble_eq_true rfl, Nat.le_of_ble_eq_true rfl⟩ (fun r_10 _ H locs hw_11 hP hD hS => ?_)
                have e_r_10 : r_10 = (-13) := hw_11.trans (by decide)
                rw [e_r_10]
                have e_t : copyM mc so lg k i o j n = ((-13), (nI 3), mc) := by simp [copyM, hasM, plN, c_1, g_k1, c_2, g_o1, c_3, c_6, c_7, c_8, (Int32.not_le.mpr c_8), c_9]
                exact zk_retI hx hb hr hS (()) (by rw [e_t]) (by rw [e_t]; exact hP) (by rw [e_t]; exact hD) dX5_copy_149 hlocks
              · exact (by exact absurd k01.2.2.1 c_9)
            · have c_8 := Int32.not_lt.mp c_8
              refine lv_iload hx hb dX5_copy_74 (lv_at hl 4 rfl) ?_
              refine lv_if_lt (tgt := 109) hx hb dX5_copy_76 (by decide) (fun c_12 => ?_) (fun c_12 => ?_)
              · refine lv_iconst (v := nI 0) hx hb dX5_copy_109 (by decide) ?_
                refine lv_istore (lv' := [(6, .int (nI 0)), (0, .ref m0), (1, .int (nI k1)), (2, .int i), (3, .int (nI o1)), (4, .int j), (5, .int n)]) hx hb dX5_copy_110 hl (by decide) rfl (fun ls hl => ?_)
                refine lv_iload hx hb dX5_copy_112 (lv_at hl 0 rfl) ?_
                refine lv_if_eq (tgt := 144) hx hb dX5_copy_114 (by decide) (fun c_13 => ?_) (fun c_13 => ?_)
                · refine lv_aload_n hx hb dX5_copy_144 rfl (lv_at hl 1 rfl) ?_
                  refine lv_iconst (v := nI 3) hx hb dX5_copy_145 (by decide) ?_
                  refine zk_effVi (As := [.int (nI 3)]) (rest := []) (S := Unit) (fun r _ => r = (-10) - (nI 3)) (fun _ => wMo m0 m1 m2 m3 m4 m5 m6 m7 m8 m9 m10 m11 m12 m13 m14 m15 (nI 3) tm at1 rdb rrm rD rP mt M) ⟨hx, hb, hml, hown, hts⟩ hK hP hD hS hA [0] [1, 2, 3] (wc := [(m0, .inr (5, [.int (nI 0), .int tm, .ref m1, .ref m2, .ref m3, .int M.db, .int M.rm, .int (nI M.D), .int (nI M.P), .ref m4, .ref m5, .ref m6, .ref m7, .int (nI at1), .int rdb, .int rrm, .int (nI rD), .int (nI rP), .ref m8, .ref m9, .ref m10, .ref m11, .ref m12, .int (nI mt), .ref m13, .ref m14, .ref m15]))]) (wr := [(m1, .inl (cI, 4, .inl so)), (m2, .inl (cI, 4, .inl lg)), (m3, .inl (cI, 240, .inl mc))]) rfl rfl (by decide) (by decide) (by decide) [3, 0, 1, 2] (fun (_ : Unit) => [(m0, .inr (5, [.int (nI 3), .int tm, .ref m1, .ref m2, .ref m3, .int M.db, .int M.rm, .int (nI M.D), .int (nI M.P), .ref m4, .ref m5, .ref m6, .ref m7, .int (nI at1), .int rdb, .int rrm, .int (nI rD), .int (nI rP), .ref m8, .ref m9, .ref m10, .ref m11, .ref m12, .int (nI mt), .ref m13, .ref m14, .ref m15])), (m1, .inl (cI, 4, .inl so)), (m2, .inl (cI, 4, .inl lg)), (m3, .inl (cI, 240, .inl mc))]) (fun _ => rfl) (by decide) (m_fails l D cI H.size m0 m1 m2 m3 m4 m5 m6 m7 m8 m9 m10 m11 m12 m13 m14 m15 (nI 0) tm at1 rdb rrm rD rP mt M (nI 3) ) (cwV 1 hts gX5_copy_X5_fails rfl rfl rfl hdX5_fails ⟨Nat.le_of_ble_eq_true rfl, Nat.le_of_ble_eq_true rfl⟩) rfl rfl rfl hl.1 rfl (Nat.le_of_ble_eq_true rfl) dX5_copy_146 ⟨Nat.le_of_ble_eq_true rfl, Nat.le_of_ble_eq_true rfl⟩ (fun r_14 _ H locs hw_15 hP hD hS => ?_)
                  have e_r_14 : r_14 = (-13) := hw_15.trans (by decide)
                  rw [e_r_14]
                  have e_t : copyM mc so lg k i o j n = ((-13), (nI 3), mc) := by simp [copyM, hasM, plN, c_1, g_k1, c_2, g_o1, c_3, c_6, c_7, c_8, (Int32.not_lt.mpr c_8), c_12, (Int32.not_le.mpr c_12), c_13]
                  exact zk_retI hx hb hr hS (()) (by rw [e_t]) (by rw [e_t]; exact hP) (by rw [e_t]; exact hD) dX5_copy_149 hlocks
                · exact (by exact absurd k01.2.2.1 c_13)
              · have c_12 := Int32.not_lt.mp c_12
                refine lv_iload hx hb dX5_copy_79 (lv_at hl 5 rfl) ?_
                refine lv_if_lt (tgt := 109) hx hb dX5_copy_81 (by decide) (fun c_16 => ?_) (fun c_16 => ?_)
                · refine lv_iconst (v := nI 0) hx hb dX5_copy_109 (by decide) ?_
                  refine lv_istore (lv' := [(6, .int (nI 0)), (0, .ref m0), (1, .int (nI k1)), (2, .int i), (3, .int (nI o1)), (4, .int j), (5, .int n)]) hx hb dX5_copy_110 hl (by decide) rfl (fun ls hl => ?_)
                  refine lv_iload hx hb dX5_copy_112 (lv_at hl 0 rfl) ?_
                  refine lv_if_eq (tgt := 144) hx hb dX5_copy_114 (by decide) (fun c_17 => ?_) (fun c_17 => ?_)
                  · refine lv_aload_n hx hb dX5_copy_144 rfl (lv_at hl 1 rfl) ?_
                    refine lv_iconst (v := nI 3) hx hb dX5_copy_145 (by decide) ?_
                    refine zk_effVi (As := [.int (nI 3)]) (rest := []) (S := Unit) (fun r _ => r = (-10) - (nI 3)) (fun _ => wMo m0 m1 m2 m3 m4 m5 m6 m7 m8 m9 m10 m11 m12 m13 m14 m15 (nI 3) tm at1 rdb rrm rD rP mt M) ⟨hx, hb, hml, hown, hts⟩ hK hP hD hS hA [0] [1, 2, 3] (wc := [(m0, .inr (5, [.int (nI 0), .int tm, .ref m1, .ref m2, .ref m3, .int M.db, .int M.rm, .int (nI M.D), .int (nI M.P), .ref m4, .ref m5, .ref m6, .ref m7, .int (nI at1), .int rdb, .int rrm, .int (nI rD), .int (nI rP), .ref m8, .ref m9, .ref m10, .ref m11, .ref m12, .int (nI mt), .ref m13, .ref m14, .ref m15]))]) (wr := [(m1, .inl (cI, 4, .inl so)), (m2, .inl (cI, 4, .inl lg)), (m3, .inl (cI, 240, .inl mc))]) rfl rfl (by decide) (by decide) (by decide) [3, 0, 1, 2] (fun (_ : Unit) => [(m0, .inr (5, [.int (nI 3), .int tm, .ref m1, .ref m2, .ref m3, .int M.db, .int M.rm, .int (nI M.D), .int (nI M.P), .ref m4, .ref m5, .ref m6, .ref m7, .int (nI at1), .int rdb, .int rrm, .int (nI rD), .int (nI rP), .ref m8, .ref m9, .ref m10, .ref m11, .ref m12, .int (nI mt), .ref m13, .ref m14, .ref m15])), (m1, .inl (cI, 4, .inl so)), (m2, .inl (cI, 4, .inl lg)), (m3, .inl (cI, 240, .inl mc))]) (fun _ => rfl) (by decide) (m_fails l D cI H.size m0 m1 m2 m3 m4 m5 m6 m7 m8 m9 m10 m11 m12 m13 m14 m15 (nI 0) tm at1 rdb rrm rD rP mt M (nI 3) ) (cwV 1 hts gX5_copy_X5_fails rfl rfl rfl hdX5_fails ⟨Nat.le_of_ble_eq_true rfl, Nat.le_of_ble_eq_true rfl⟩) rfl rfl rfl hl.1 rfl (Nat.le_of_ble_eq_true rfl) dX5_copy_146 ⟨Nat.le_of_ble_eq_true rfl, Nat.le_of_ble_eq_true rfl⟩ (fun r_18 _ H locs hw_19 hP hD hS => ?_)
                    have e_r_18 : r_18 = (-13) := hw_19.trans (by decide)
                    rw [e_r_18]
                    have e_t : copyM mc so lg k i o j n = ((-13), (nI 3), mc) := by simp [copyM, hasM, plN, c_1, g_k1, c_2, g_o1, c_3, c_6, c_7, c_8, (Int32.not_lt.mpr c_8), c_12, (Int32.not_lt.mpr c_12), c_16, (Int32.not_le.mpr c_16), c_17]
                    exact zk_retI hx hb hr hS (()) (by rw [e_t]) (by rw [e_t]; exact hP) (by rw [e_t]; exact hD) dX5_copy_149 hlocks
                  · exact (by exact absurd k01.2.2.1 c_17)
                · have c_16 := Int32.not_lt.mp c_16
                  refine lv_iload_n hx hb dX5_copy_84 rfl (lv_at hl 2 rfl) ?_
                  refine lv_aload_n hx hb dX5_copy_85 rfl (lv_at hl 0 rfl) ?_
                  refine va_get (D := D) (ci := 5) (v := .ref m2) (C := RX5) (T := TX5) (N := 27) hx hb hts inX5 hown hK.1 hP 0 rfl rfl 3 (by decide) f_13 (fun _ h9 => h9) rfl dX5_copy_86 ?_
                  refine lv_iload_n hx hb dX5_copy_89 rfl (lv_at hl 1 rfl) ?_
                  refine zk_iald hx hb hK hP 2 rfl (by omega) (by decide) dX5_copy_90 ?_
                  refine lv_icmp_gt (tgt := 109) hx hb dX5_copy_91 (by decide) (fun c_20 => ?_) (fun c_20 => ?_)
                  · refine lv_iconst (v := nI 0) hx hb dX5_copy_109 (by decide) ?_
                    refine lv_istore (lv' := [(6, .int (nI 0)), (0, .ref m0), (1, .int (nI k1)), (2, .int i), (3, .int (nI o1)), (4, .int j), (5, .int n)]) hx hb dX5_copy_110 hl (by decide) rfl (fun ls hl => ?_)
                    refine lv_iload hx hb dX5_copy_112 (lv_at hl 0 rfl) ?_
                    refine lv_if_eq (tgt := 144) hx hb dX5_copy_114 (by decide) (fun c_21 => ?_) (fun c_21 => ?_)
                    · refine lv_aload_n hx hb dX5_copy_144 rfl (lv_at hl 1 rfl) ?_
                      refine lv_iconst (v := nI 3) hx hb dX5_copy_145 (by decide) ?_
                      refine zk_effVi (As := [.int (nI 3)]) (rest := []) (S := Unit) (fun r _ => r = (-10) - (nI 3)) (fun _ => wMo m0 m1 m2 m3 m4 m5 m6 m7 m8 m9 m10 m11 m12 m13 m14 m15 (nI 3) tm at1 rdb rrm rD rP mt M) ⟨hx, hb, hml, hown, hts⟩ hK hP hD hS hA [0] [1, 2, 3] (wc := [(m0, .inr (5, [.int (nI 0), .int tm, .ref m1, .ref m2, .ref m3, .int M.db, .int M.rm, .int (nI M.D), .int (nI M.P), .ref m4, .ref m5, .ref m6, .ref m7, .int (nI at1), .int rdb, .int rrm, .int (nI rD), .int (nI rP), .ref m8, .ref m9, .ref m10, .ref m11, .ref m12, .int (nI mt), .ref m13, .ref m14, .ref m15]))]) (wr := [(m1, .inl (cI, 4, .inl so)), (m2, .inl (cI, 4, .inl lg)), (m3, .inl (cI, 240, .inl mc))]) rfl rfl (by decide) (by decide) (by decide) [3, 0, 1, 2] (fun (_ : Unit) => [(m0, .inr (5, [.int (nI 3), .int tm, .ref m1, .ref m2, .ref m3, .int M.db, .int M.rm, .int (nI M.D), .int (nI M.P), .ref m4, .ref m5, .ref m6, .ref m7, .int (nI at1), .int rdb, .int rrm, .int (nI rD), .int (nI rP), .ref m8, .ref m9, .ref m10, .ref m11, .ref m12, .int (nI mt), .ref m13, .ref m14, .ref m15])), (m1, .inl (cI, 4, .inl so)), (m2, .inl (cI, 4, .inl lg)), (m3, .inl (cI, 240, .inl mc))]) (fun _ => rfl) (by decide) (m_fails l D cI H.size m0 m1 m2 m3 m4 m5 m6 m7 m8 m9 m10 m11 m12 m13 m14 m15 (nI 0) tm at1 rdb rrm rD rP mt M (nI 3) ) (cwV 1 hts gX5_copy_X5_fails rfl rfl rfl hdX5_fails ⟨Nat.le_of_ble_eq_true rfl, Nat.le_of_ble_eq_true rfl⟩) rfl rfl rfl hl.1 rfl (Nat.le_of_ble_eq_true rfl) dX5_copy_146 ⟨Nat.le_of_ble_eq_true rfl, Nat.le_of_ble_eq_true rfl⟩ (fun r_22 _ H locs hw_23 hP hD hS => ?_)
                      have e_r_22 : r_22 = (-13) := hw_23.trans (by decide)
                      rw [e_r_22]
                      have e_t : copyM mc so lg k i o j n = ((-13), (nI 3), mc) := by simp [copyM, hasM, plN, c_1, g_k1, c_2, g_o1, c_3, c_6, c_7, c_8, (Int32.not_lt.mpr c_8), c_12, (Int32.not_lt.mpr c_12), c_16, (Int32.not_lt.mpr c_16), c_20, (Int32.not_le.mpr c_20), c_21]
                      exact zk_retI hx hb hr hS (()) (by rw [e_t]) (by rw [e_t]; exact hP) (by rw [e_t]; exact hD) dX5_copy_149 hlocks
                    · exact (by exact absurd k01.2.2.1 c_21)
                  · have c_20 := Int32.not_lt.mp c_20
                    refine lv_iload hx hb dX5_copy_94 (lv_at hl 4 rfl) ?_
                    refine lv_aload_n hx hb dX5_copy_96 rfl (lv_at hl 0 rfl) ?_
                    refine va_get (D := D) (ci := 5) (v := .ref m2) (C := RX5) (T := TX5) (N := 27) hx hb hts inX5 hown hK.1 hP 0 rfl rfl 3 (by decide) f_13 (fun _ h9 => h9) rfl dX5_copy_97 ?_
                    refine lv_iload_n hx hb dX5_copy_100 rfl (lv_at hl 3 rfl) ?_
                    refine zk_iald hx hb hK hP 2 rfl (by omega) (by decide) dX5_copy_101 ?_
                    refine lv_icmp_gt (tgt := 109) hx hb dX5_copy_102 (by decide) (fun c_24 => ?_) (fun c_24 => ?_)
                    · refine lv_iconst (v := nI 0) hx hb dX5_copy_109 (by decide) ?_
                      refine lv_istore (lv' := [(6, .int (nI 0)), (0, .ref m0), (1, .int (nI k1)), (2, .int i), (3, .int (nI o1)), (4, .int j), (5, .int n)]) hx hb dX5_copy_110 hl (by decide) rfl (fun ls hl => ?_)
                      refine lv_iload hx hb dX5_copy_112 (lv_at hl 0 rfl) ?_
                      refine lv_if_eq (tgt := 144) hx hb dX5_copy_114 (by decide) (fun c_25 => ?_) (fun c_25 => ?_)
                      · refine lv_aload_n hx hb dX5_copy_144 rfl (lv_at hl 1 rfl) ?_
                        refine lv_iconst (v := nI 3) hx hb dX5_copy_145 (by decide) ?_
                        refine zk_effVi (As := [.int (nI 3)]) (rest := []) (S := Unit) (fun r _ => r = (-10) - (nI 3)) (fun _ => wMo m0 m1 m2 m3 m4 m5 m6 m7 m8 m9 m10 m11 m12 m13 m14 m15 (nI 3) tm at1 rdb rrm rD rP mt M) ⟨hx, hb, hml, hown, hts⟩ hK hP hD hS hA [0] [1, 2, 3] (wc := [(m0, .inr (5, [.int (nI 0), .int tm, .ref m1, .ref m2, .ref m3, .int M.db, .int M.rm, .int (nI M.D), .int (nI M.P), .ref m4, .ref m5, .ref m6, .ref m7, .int (nI at1), .int rdb, .int rrm, .int (nI rD), .int (nI rP), .ref m8, .ref m9, .ref m10, .ref m11, .ref m12, .int (nI mt), .ref m13, .ref m14, .ref m15]))]) (wr := [(m1, .inl (cI, 4, .inl so)), (m2, .inl (cI, 4, .inl lg)), (m3, .inl (cI, 240, .inl mc))]) rfl rfl (by decide) (by decide) (by decide) [3, 0, 1, 2] (fun (_ : Unit) => [(m0, .inr (5, [.int (nI 3), .int tm, .ref m1, .ref m2, .ref m3, .int M.db, .int M.rm, .int (nI M.D), .int (nI M.P), .ref m4, .ref m5, .ref m6, .ref m7, .int (nI at1), .int rdb, .int rrm, .int (nI rD), .int (nI rP), .ref m8, .ref m9, .ref m10, .ref m11, .ref m12, .int (nI mt), .ref m13, .ref m14, .ref m15])), (m1, .inl (cI, 4, .inl so)), (m2, .inl (cI, 4, .inl lg)), (m3, .inl (cI, 240, .inl mc))]) (fun _ => rfl) (by decide) (m_fails l D cI H.size m0 m1 m2 m3 m4 m5 m6 m7 m8 m9 m10 m11 m12 m13 m14 m15 (nI 0) tm at1 rdb rrm rD rP mt M (nI 3) ) (cwV 1 hts gX5_copy_X5_fails rfl rfl rfl hdX5_fails ⟨Nat.le_of_ble_eq_true rfl, Nat.le_of_ble_eq_true rfl⟩) rfl rfl rfl hl.1 rfl (Nat.le_of_ble_eq_true rfl) dX5_copy_146 ⟨Nat.le_of_ble_eq_true rfl, Nat.le_of_ble_eq_true rfl⟩ (fun r_26 _ H locs hw_27 hP hD hS => ?_)
                        have e_r_26 : r_26 = (-13) := hw_27.trans (by decide)
                        rw [e_r_26]
                        have e_t : copyM mc so lg k i o j n = ((-13), (nI 3), mc) := by simp [copyM, hasM, plN, c_1, g_k1, c_2, g_o1, c_3, c_6, c_7, c_8, (Int32.not_lt.mpr c_8), c_12, (Int32.not_lt.mpr c_12), c_16, (Int32.not_lt.mpr c_16), c_20, (Int32.not_lt.mpr c_20), c_24, (Int32.not_le.mpr c_24), c_25]
                        exact zk_retI hx hb hr hS (()) (by rw [e_t]) (by rw [e_t]; exact hP) (by rw [e_t]; exact hD) dX5_copy_149 hlocks
                      · exact (by exact absurd k01.2.2.1 c_25)
                    · have c_24 := Int32.not_lt.mp c_24
                      refine lv_iconst (v := nI 1) hx hb dX5_copy_105 (by decide) ?_
                      refine lv_goto (tgt := 110) hx hb dX5_copy_106 (by decide) ?_
                      refine lv_istore (lv' := [(6, .int (nI 1)), (0, .ref m0), (1, .int (nI k1)), (2, .int i), (3, .int (nI o1)), (4, .int j), (5, .int n)]) hx hb dX5_copy_110 hl (by decide) rfl (fun ls hl => ?_)
                      refine lv_iload hx hb dX5_copy_112 (lv_at hl 0 rfl) ?_
                      refine lv_if_eq (tgt := 144) hx hb dX5_copy_114 (by decide) (fun c_28 => ?_) (fun c_28 => ?_)
                      · exact (by exact absurd c_28 k01.1)
                      · refine lv_iload hx hb dX5_copy_117 (lv_at hl 6 rfl) ?_
                        refine lv_aload_n hx hb dX5_copy_119 rfl (lv_at hl 1 rfl) ?_
                        refine va_get (D := D) (ci := 5) (v := .ref m2) (C := RX5) (T := TX5) (N := 27) hx hb hts inX5 hown hK.1 hP 0 rfl rfl 3 (by decide) f_13 (fun _ h9 => h9) rfl dX5_copy_120 ?_
                        refine lv_iload_n hx hb dX5_copy_123 rfl (lv_at hl 2 rfl) ?_
                        refine zk_iald hx hb hK hP 2 rfl (by omega) (by decide) dX5_copy_124 ?_
                        refine lv_iload_n hx hb dX5_copy_125 rfl (lv_at hl 3 rfl) ?_
                        refine lv_isub hx hb dX5_copy_126 ?_
                        refine lv_icmp_gt (tgt := 144) hx hb dX5_copy_127 (by decide) (fun c_29 => ?_) (fun c_29 => ?_)
                        · refine lv_aload_n hx hb dX5_copy_144 rfl (lv_at hl 1 rfl) ?_
                          refine lv_iconst (v := nI 3) hx hb dX5_copy_145 (by decide) ?_
                          refine zk_effVi (As := [.int (nI 3)]) (rest := []) (S := Unit) (fun r _ => r = (-10) - (nI 3)) (fun _ => wMo m0 m1 m2 m3 m4 m5 m6 m7 m8 m9 m10 m11 m12 m13 m14 m15 (nI 3) tm at1 rdb rrm rD rP mt M) ⟨hx, hb, hml, hown, hts⟩ hK hP hD hS hA [0] [1, 2, 3] (wc := [(m0, .inr (5, [.int (nI 0), .int tm, .ref m1, .ref m2, .ref m3, .int M.db, .int M.rm, .int (nI M.D), .int (nI M.P), .ref m4, .ref m5, .ref m6, .ref m7, .int (nI at1), .int rdb, .int rrm, .int (nI rD), .int (nI rP), .ref m8, .ref m9, .ref m10, .ref m11, .ref m12, .int (nI mt), .ref m13, .ref m14, .ref m15]))]) (wr := [(m1, .inl (cI, 4, .inl so)), (m2, .inl (cI, 4, .inl lg)), (m3, .inl (cI, 240, .inl mc))]) rfl rfl (by decide) (by decide) (by decide) [3, 0, 1, 2] (fun (_ : Unit) => [(m0, .inr (5, [.int (nI 3), .int tm, .ref m1, .ref m2, .ref m3, .int M.db, .int M.rm, .int (nI M.D), .int (nI M.P), .ref m4, .ref m5, .ref m6, .ref m7, .int (nI at1), .int rdb, .int rrm, .int (nI rD), .int (nI rP), .ref m8, .ref m9, .ref m10, .ref m11, .ref m12, .int (nI mt), .ref m13, .ref m14, .ref m15])), (m1, .inl (cI, 4, .inl so)), (m2, .inl (cI, 4, .inl lg)), (m3, .inl (cI, 240, .inl mc))]) (fun _ => rfl) (by decide) (m_fails l D cI H.size m0 m1 m2 m3 m4 m5 m6 m7 m8 m9 m10 m11 m12 m13 m14 m15 (nI 0) tm at1 rdb rrm rD rP mt M (nI 3) ) (cwV 1 hts gX5_copy_X5_fails rfl rfl rfl hdX5_fails ⟨Nat.le_of_ble_eq_true rfl, Nat.le_of_ble_eq_true rfl⟩) rfl rfl rfl hl.1 rfl (Nat.le_of_ble_eq_true rfl) dX5_copy_146 ⟨Nat.le_of_ble_eq_true rfl, Nat.le_of_ble_eq_true rfl⟩ (fun r_30 _ H locs hw_31 hP hD hS => ?_)
                          have e_r_30 : r_30 = (-13) := hw_31.trans (by decide)
                          rw [e_r_30]
                          have e_t : copyM mc so lg k i o j n = ((-13), (nI 3), mc) := by simp [copyM, hasM, plN, c_1, g_k1, c_2, g_o1, c_3, c_6, c_7, c_8, (Int32.not_lt.mpr c_8), c_12, (Int32.not_lt.mpr c_12), c_16, (Int32.not_lt.mpr c_16), c_20, (Int32.not_lt.mpr c_20), c_24, (Int32.not_lt.mpr c_24), c_28, c_29, (Int32.not_le.mpr c_29)]
                          exact zk_retI hx hb hr hS (()) (by rw [e_t]) (by rw [e_t]; exact hP) (by rw [e_t]; exact hD) dX5_copy_149 hlocks
                        · have c_29 := Int32.not_lt.mp c_29
                          refine lv_iload hx hb dX5_copy_130 (lv_at hl 6 rfl) ?_
                          refine lv_aload_n hx hb dX5_copy_132 rfl (lv_at hl 1 rfl) ?_
                          refine va_get (D := D) (ci := 5) (v := .ref m2) (C := RX5) (T := TX5) (N := 27) hx hb hts inX5 hown hK.1 hP 0 rfl rfl 3 (by decide) f_13 (fun _ h9 => h9) rfl dX5_copy_133 ?_
                          refine lv_iload_n hx hb dX5_copy_136 rfl (lv_at hl 4 rfl) ?_
                          refine zk_iald hx hb hK hP 2 rfl (by omega) (by decide) dX5_copy_137 ?_
                          refine lv_iload hx hb dX5_copy_138 (lv_at hl 5 rfl) ?_
                          refine lv_isub hx hb dX5_copy_140 ?_
                          refine lv_icmp_le (tgt := 150) hx hb dX5_copy_141 (by decide) (fun c_32 => ?_) (fun c_32 => ?_)
                          · have c_a : plN i n (lg k1) = true := by simp [plN, c_8, c_20, c_29]
                            have c_b : plN j n (lg o1) = true := by simp [plN, c_12, c_24, c_32]
                            have c_c := c_16
                            obtain ⟨m, hm, e_m, g_m⟩ := nat_of c_16
                            obtain ⟨i1, hi1, e_i, g_i⟩ := plN_of hsz hk1 hm e_m c_a
                            obtain ⟨j1, hj1, e_j, g_j⟩ := plN_of hsz ho1 hm e_m c_b
                            rw [e_m, e_i, e_j] at hl
                            refine lv_iload_n hx hb dX5_copy_150 rfl (lv_at hl 3 rfl) ?_
                            refine lv_iload hx hb dX5_copy_151 (lv_at hl 5 rfl) ?_
                            refine zk_icmp_ge (tgt := 160) hx hb dX5_copy_153 (by decide) (by omega) (by omega) (fun c_33 => ?_) (fun c_33 => ?_)
                            · have c_up := c_33
                              refine lv_iconst (v := nI 0) hx hb dX5_copy_160 (by decide) ?_
                              refine lv_istore (lv' := [(7, .int (nI 0)), (6, .int (nI 1)), (0, .ref m0), (1, .int (nI k1)), (2, .int (nI i1)), (3, .int (nI o1)), (4, .int (nI j1)), (5, .int (nI m))]) hx hb dX5_copy_161 hl (by decide) rfl (fun ls hl => ?_)
                              refine lv_iconst (v := nI 0) hx hb dX5_copy_163 (by decide) ?_
                              refine lv_istore (lv' := [(8, .int (nI 0)), (7, .int (nI 0)), (6, .int (nI 1)), (0, .ref m0), (1, .int (nI k1)), (2, .int (nI i1)), (3, .int (nI o1)), (4, .int (nI j1)), (5, .int (nI m))]) hx hb dX5_copy_164 hl (by decide) rfl (fun ls hl => ?_)
                              have loop166 : ∀ (nL c : Nat), c ≤ m → m < c + nL → ∀ (H : Heap) (locs : List Loc), va_P D vwCl [(m0, .inr (5, [.int (nI 0), .int tm, .ref m1, .ref m2, .ref m3, .int M.db, .int M.rm, .int (nI M.D), .int (nI M.P), .ref m4, .ref m5, .ref m6, .ref m7, .int (nI at1), .int rdb, .int rrm, .int (nI rD), .int (nI rP), .ref m8, .ref m9, .ref m10, .ref m11, .ref m12, .int (nI mt), .ref m13, .ref m14, .ref m15])), (m1, .inl (cI, 4, .inl so)), (m2, .inl (cI, 4, .inl lg)), (m3, .inl (cI, 240, .inl (va_cpy mc mc (60 * k1 + i1) (60 * o1 + j1) c)))] H → va_D A [(m0, .inr (5, [.int (nI 0), .int tm, .ref m1, .ref m2, .ref m3, .int M.db, .int M.rm, .int (nI M.D), .int (nI M.P), .ref m4, .ref m5, .ref m6, .ref m7, .int (nI at1), .int rdb, .int rrm, .int (nI rD), .int (nI rP), .ref m8, .ref m9, .ref m10, .ref m11, .ref m12, .int (nI mt), .ref m13, .ref m14, .ref m15])), (m1, .inl (cI, 4, .inl so)), (m2, .inl (cI, 4, .inl lg)), (m3, .inl (cI, 240, .inl (va_cpy mc mc (60 * k1 + i1) (60 * o1 + j1) c)))] → va_S A sX.heap H locs → ∀ ls : Array Slot, lv_has ls 10 [(0, .ref m0), (1, .int (nI k1)), (2, .int (nI i1)), (3, .int (nI o1)), (4, .int (nI j1)), (5, .int (nI m)), (6, .int (nI 1)), (7, .int (nI 0)), (8, .int (nI c))] → W pX l eX ({ frames := 2, cells := 0, slots := 0, locals := 42 }) sX mX ([.ref m0, .int k, .int i, .int o, .int j, .int n] : List Value).toArray bX tX cX H locs 0 0 (MQ bX (QI (S := Unit) D (fun r _ => r = (copyM mc so lg k i o j n).1) (fun _ => wMo m0 m1 m2 m3 m4 m5 m6 m7 m8 m9 m10 m11 m12 m13 m14 m15 ((copyM mc so lg k i o j n).2.1) tm at1 rdb rrm rD rP mt M ++ wMs cI m1 m2 m3 so lg ((copyM mc so lg k i o j n).2.2)) A) ([.ref m0, .int k, .int i, .int o, .int j, .int n] : List Value).toArray sX 0 0 A) (F0 mX 166 ls []) := by
                                intro nL
                                induction nL with
                                | zero => intro c  h1 h2; exact absurd h2 (by omega)
                                | succ nL ih =>
                                  intro c  h_le h_n  H locs hP hD hS ls hl
                                  refine lv_iload hx hb dX5_copy_166 (lv_at hl 8 rfl) ?_
                                  refine lv_iload hx hb dX5_copy_168 (lv_at hl 5 rfl) ?_
                                  refine zk_icmp_ge (tgt := 227) hx hb dX5_copy_170 (by decide) (by omega) (by omega) (fun c_34 => ?_) (fun c_34 => ?_)
                                  · refine lv_iload hx hb dX5_copy_227 (lv_at hl 5 rfl) ?_
                                    have e_c : c = m := by omega
                                    rw [e_c] at hP hD
                                    have e_t : copyM mc so lg k i o j n = (n, nI 0, va_cpy mc mc (60 * k1 + i1) (60 * o1 + j1) m) := by simp [copyM, hasM, c_1, g_k1, c_2, g_o1, c_3, c_6, c_7, c_a, c_b, c_c, g_m, g_i, g_j, c_33, (Nat.not_lt.mpr c_33), c_34, (Nat.not_lt.mpr c_34)]
                                    exact zk_retI hx hb hr hS (()) (by rw [e_t]; exact e_m.symm) (by rw [e_t]; exact hP) (by rw [e_t]; exact hD) dX5_copy_229 hlocks
                                  · refine lv_iload hx hb dX5_copy_173 (lv_at hl 7 rfl) ?_
                                    refine lv_if_eq (tgt := 188) hx hb dX5_copy_175 (by decide) (fun c_35 => ?_) (fun c_35 => ?_)
                                    · refine lv_iload hx hb dX5_copy_188 (lv_at hl 8 rfl) ?_
                                      refine lv_istore (lv' := [(9, .int (nI c)), (0, .ref m0), (1, .int (nI k1)), (2, .int (nI i1)), (3, .int (nI o1)), (4, .int (nI j1)), (5, .int (nI m)), (6, .int (nI 1)), (7, .int (nI 0)), (8, .int (nI c))]) hx hb dX5_copy_190 hl (by decide) rfl (fun ls hl => ?_)
                                      refine lv_aload_n hx hb dX5_copy_192 rfl (lv_at hl 1 rfl) ?_
                                      refine va_get (D := D) (ci := 5) (v := .ref m3) (C := RX5) (T := TX5) (N := 27) hx hb hts inX5 hown hK.1 hP 0 rfl rfl 4 (by decide) f_16 (fun _ h9 => h9) rfl dX5_copy_193 ?_
                                      refine lv_bipush (v := nI 60) hx hb dX5_copy_196 (by decide) ?_
                                      refine lv_iload_n hx hb dX5_copy_198 rfl (lv_at hl 4 rfl) ?_
                                      refine zk_imulN hx hb dX5_copy_199 ?_
                                      refine lv_iload hx hb dX5_copy_200 (lv_at hl 5 rfl) ?_
                                      refine zk_iaddN hx hb dX5_copy_202 ?_
                                      refine lv_iload hx hb dX5_copy_203 (lv_at hl 0 rfl) ?_
                                      refine zk_iaddN hx hb dX5_copy_205 ?_
                                      refine lv_aload_n hx hb dX5_copy_206 rfl (lv_at hl 1 rfl) ?_
                                      refine va_get (D := D) (ci := 5) (v := .ref m3) (C := RX5) (T := TX5) (N := 27) hx hb hts inX5 hown hK.1 hP 0 rfl rfl 4 (by decide) f_16 (fun _ h9 => h9) rfl dX5_copy_207 ?_
                                      refine lv_bipush (v := nI 60) hx hb dX5_copy_210 (by decide) ?_
                                      refine lv_iload_n hx hb dX5_copy_212 rfl (lv_at hl 2 rfl) ?_
                                      refine zk_imulN hx hb dX5_copy_213 ?_
                                      refine lv_iload_n hx hb dX5_copy_214 rfl (lv_at hl 3 rfl) ?_
                                      refine zk_iaddN hx hb dX5_copy_215 ?_
                                      refine lv_iload hx hb dX5_copy_216 (lv_at hl 0 rfl) ?_
                                      refine zk_iaddN hx hb dX5_copy_218 ?_
                                      refine zk_iald hx hb hK hP 3 rfl (by omega) (by decide) dX5_copy_219 ?_
                                      refine zk_iast (x := (va_cpy mc mc (60 * k1 + i1) (60 * o1 + j1) c) (60 * k1 + i1 + c)) hx hb hK hP hD hS 3 rfl (by omega) (by decide) dX5_copy_220 (fun H locs hP hD hS => ?_)
                                      have hP : va_P D vwCl [(m0, .inr (5, [.int (nI 0), .int tm, .ref m1, .ref m2, .ref m3, .int M.db, .int M.rm, .int (nI M.D), .int (nI M.P), .ref m4, .ref m5, .ref m6, .ref m7, .int (nI at1), .int rdb, .int rrm, .int (nI rD), .int (nI rP), .ref m8, .ref m9, .ref m10, .ref m11, .ref m12, .int (nI mt), .ref m13, .ref m14, .ref m15])), (m1, .inl (cI, 4, .inl so)), (m2, .inl (cI, 4, .inl lg)), (m3, .inl (cI, 240, .inl (upd (va_cpy mc mc (60 * k1 + i1) (60 * o1 + j1) c) (60 * o1 + j1 + c) ((va_cpy mc mc (60 * k1 + i1) (60 * o1 + j1) c) (60 * k1 + i1 + c)))))] H := hP
                                      have hD : va_D A [(m0, .inr (5, [.int (nI 0), .int tm, .ref m1, .ref m2, .ref m3, .int M.db, .int M.rm, .int (nI M.D), .int (nI M.P), .ref m4, .ref m5, .ref m6, .ref m7, .int (nI at1), .int rdb, .int rrm, .int (nI rD), .int (nI rP), .ref m8, .ref m9, .ref m10, .ref m11, .ref m12, .int (nI mt), .ref m13, .ref m14, .ref m15])), (m1, .inl (cI, 4, .inl so)), (m2, .inl (cI, 4, .inl lg)), (m3, .inl (cI, 240, .inl (upd (va_cpy mc mc (60 * k1 + i1) (60 * o1 + j1) c) (60 * o1 + j1 + c) ((va_cpy mc mc (60 * k1 + i1) (60 * o1 + j1) c) (60 * k1 + i1 + c)))))] := hD
                                      refine lv_iinc (v := nI (c + 1)) (lv' := [(8, .int (nI (c + 1))), (9, .int (nI c)), (0, .ref m0), (1, .int (nI k1)), (2, .int (nI i1)), (3, .int (nI o1)), (4, .int (nI j1)), (5, .int (nI m)), (6, .int (nI 1)), (7, .int (nI 0))]) hx hb dX5_copy_221 hl (k := 9) rfl (by rw [show (Int32.ofInt 1) = nI 1 from by decide, nI_add]) (by decide) rfl (fun ls hl => ?_)
                                      refine lv_goto (tgt := 166) hx hb dX5_copy_224 (by decide) ?_
                                      rw [show 60 * o1 + j1 + c = (60 * o1 + j1) + c from rfl, cpyRU mc hk1 ho1 hi1 hj1 c_up (by omega), cpyU] at hP hD
                                      exact ih (c + 1)  (by omega) (by omega)  _ _ hP hD hS ls (lv_sub hl [2, 3, 4, 5, 6, 7, 8, 9, 0] rfl)
                                    · exact (by exact absurd k01.2.2.1 c_35)
                              rw [← cpy0 mc (60 * k1 + i1) (60 * o1 + j1)] at hP hD
                              exact loop166 (m + 1) 0  (by omega) (by omega)  _ _ hP hD hS ls (lv_sub hl [3, 4, 5, 6, 7, 8, 2, 1, 0] rfl)
                            · have c_dn := c_33
                              refine lv_iconst (v := nI 1) hx hb dX5_copy_156 (by decide) ?_
                              refine lv_goto (tgt := 161) hx hb dX5_copy_157 (by decide) ?_
                              refine lv_istore (lv' := [(7, .int (nI 1)), (6, .int (nI 1)), (0, .ref m0), (1, .int (nI k1)), (2, .int (nI i1)), (3, .int (nI o1)), (4, .int (nI j1)), (5, .int (nI m))]) hx hb dX5_copy_161 hl (by decide) rfl (fun ls hl => ?_)
                              refine lv_iconst (v := nI 0) hx hb dX5_copy_163 (by decide) ?_
                              refine lv_istore (lv' := [(8, .int (nI 0)), (7, .int (nI 1)), (6, .int (nI 1)), (0, .ref m0), (1, .int (nI k1)), (2, .int (nI i1)), (3, .int (nI o1)), (4, .int (nI j1)), (5, .int (nI m))]) hx hb dX5_copy_164 hl (by decide) rfl (fun ls hl => ?_)
                              have loop166 : ∀ (nL c : Nat), c ≤ m → m < c + nL → ∀ (H : Heap) (locs : List Loc), va_P D vwCl [(m0, .inr (5, [.int (nI 0), .int tm, .ref m1, .ref m2, .ref m3, .int M.db, .int M.rm, .int (nI M.D), .int (nI M.P), .ref m4, .ref m5, .ref m6, .ref m7, .int (nI at1), .int rdb, .int rrm, .int (nI rD), .int (nI rP), .ref m8, .ref m9, .ref m10, .ref m11, .ref m12, .int (nI mt), .ref m13, .ref m14, .ref m15])), (m1, .inl (cI, 4, .inl so)), (m2, .inl (cI, 4, .inl lg)), (m3, .inl (cI, 240, .inl (va_cpy mc mc (60 * k1 + i1 + m - c) (60 * o1 + j1 + m - c) c)))] H → va_D A [(m0, .inr (5, [.int (nI 0), .int tm, .ref m1, .ref m2, .ref m3, .int M.db, .int M.rm, .int (nI M.D), .int (nI M.P), .ref m4, .ref m5, .ref m6, .ref m7, .int (nI at1), .int rdb, .int rrm, .int (nI rD), .int (nI rP), .ref m8, .ref m9, .ref m10, .ref m11, .ref m12, .int (nI mt), .ref m13, .ref m14, .ref m15])), (m1, .inl (cI, 4, .inl so)), (m2, .inl (cI, 4, .inl lg)), (m3, .inl (cI, 240, .inl (va_cpy mc mc (60 * k1 + i1 + m - c) (60 * o1 + j1 + m - c) c)))] → va_S A sX.heap H locs → ∀ ls : Array Slot, lv_has ls 10 [(0, .ref m0), (1, .int (nI k1)), (2, .int (nI i1)), (3, .int (nI o1)), (4, .int (nI j1)), (5, .int (nI m)), (6, .int (nI 1)), (7, .int (nI 1)), (8, .int (nI c))] → W pX l eX ({ frames := 2, cells := 0, slots := 0, locals := 42 }) sX mX ([.ref m0, .int k, .int i, .int o, .int j, .int n] : List Value).toArray bX tX cX H locs 0 0 (MQ bX (QI (S := Unit) D (fun r _ => r = (copyM mc so lg k i o j n).1) (fun _ => wMo m0 m1 m2 m3 m4 m5 m6 m7 m8 m9 m10 m11 m12 m13 m14 m15 ((copyM mc so lg k i o j n).2.1) tm at1 rdb rrm rD rP mt M ++ wMs cI m1 m2 m3 so lg ((copyM mc so lg k i o j n).2.2)) A) ([.ref m0, .int k, .int i, .int o, .int j, .int n] : List Value).toArray sX 0 0 A) (F0 mX 166 ls []) := by
                                intro nL
                                induction nL with
                                | zero => intro c  h1 h2; exact absurd h2 (by omega)
                                | succ nL ih =>
                                  intro c  h_le h_n  H locs hP hD hS ls hl
                                  refine lv_iload hx hb dX5_copy_166 (lv_at hl 8 rfl) ?_
                                  refine lv_iload hx hb dX5_copy_168 (lv_at hl 5 rfl) ?_
                                  refine zk_icmp_ge (tgt := 227) hx hb dX5_copy_170 (by decide) (by omega) (by omega) (fun c_36 => ?_) (fun c_36 => ?_)
                                  · refine lv_iload hx hb dX5_copy_227 (lv_at hl 5 rfl) ?_
                                    have e_c : c = m := by omega
                                    rw [e_c] at hP hD
                                    rw [show 60 * k1 + i1 + m - m = 60 * k1 + i1 by omega, show 60 * o1 + j1 + m - m = 60 * o1 + j1 by omega] at hP hD
                                    have e_t : copyM mc so lg k i o j n = (n, nI 0, va_cpy mc mc (60 * k1 + i1) (60 * o1 + j1) m) := by simp [copyM, hasM, c_1, g_k1, c_2, g_o1, c_3, c_6, c_7, c_a, c_b, c_c, g_m, g_i, g_j, c_33, (Nat.not_le.mpr c_33), c_36, (Nat.not_lt.mpr c_36)]
                                    exact zk_retI hx hb hr hS (()) (by rw [e_t]; exact e_m.symm) (by rw [e_t]; exact hP) (by rw [e_t]; exact hD) dX5_copy_229 hlocks
                                  · refine lv_iload hx hb dX5_copy_173 (lv_at hl 7 rfl) ?_
                                    refine lv_if_eq (tgt := 188) hx hb dX5_copy_175 (by decide) (fun c_37 => ?_) (fun c_37 => ?_)
                                    · exact (by exact absurd c_37 k01.1)
                                    · refine lv_iload hx hb dX5_copy_178 (lv_at hl 5 rfl) ?_
                                      refine lv_iconst (v := nI 1) hx hb dX5_copy_180 (by decide) ?_
                                      refine zk_isubN hx hb (by omega) dX5_copy_181 ?_
                                      refine lv_iload hx hb dX5_copy_182 (lv_at hl 8 rfl) ?_
                                      refine zk_isubN hx hb (by omega) dX5_copy_184 ?_
                                      refine lv_goto (tgt := 190) hx hb dX5_copy_185 (by decide) ?_
                                      refine lv_istore (lv' := [(9, .int (nI (m - 1 - c))), (0, .ref m0), (1, .int (nI k1)), (2, .int (nI i1)), (3, .int (nI o1)), (4, .int (nI j1)), (5, .int (nI m)), (6, .int (nI 1)), (7, .int (nI 1)), (8, .int (nI c))]) hx hb dX5_copy_190 hl (by decide) rfl (fun ls hl => ?_)
                                      refine lv_aload_n hx hb dX5_copy_192 rfl (lv_at hl 1 rfl) ?_
                                      refine va_get (D := D) (ci := 5) (v := .ref m3) (C := RX5) (T := TX5) (N := 27) hx hb hts inX5 hown hK.1 hP 0 rfl rfl 4 (by decide) f_16 (fun _ h9 => h9) rfl dX5_copy_193 ?_
                                      refine lv_bipush (v := nI 60) hx hb dX5_copy_196 (by decide) ?_
                                      refine lv_iload_n hx hb dX5_copy_198 rfl (lv_at hl 4 rfl) ?_
                                      refine zk_imulN hx hb dX5_copy_199 ?_
                                      refine lv_iload hx hb dX5_copy_200 (lv_at hl 5 rfl) ?_
                                      refine zk_iaddN hx hb dX5_copy_202 ?_
                                      refine lv_iload hx hb dX5_copy_203 (lv_at hl 0 rfl) ?_
                                      refine zk_iaddN hx hb dX5_copy_205 ?_
                                      refine lv_aload_n hx hb dX5_copy_206 rfl (lv_at hl 1 rfl) ?_
                                      refine va_get (D := D) (ci := 5) (v := .ref m3) (C := RX5) (T := TX5) (N := 27) hx hb hts inX5 hown hK.1 hP 0 rfl rfl 4 (by decide) f_16 (fun _ h9 => h9) rfl dX5_copy_207 ?_
                                      refine lv_bipush (v := nI 60) hx hb dX5_copy_210 (by decide) ?_
                                      refine lv_iload_n hx hb dX5_copy_212 rfl (lv_at hl 2 rfl) ?_
                                      refine zk_imulN hx hb dX5_copy_213 ?_
                                      refine lv_iload_n hx hb dX5_copy_214 rfl (lv_at hl 3 rfl) ?_
                                      refine zk_iaddN hx hb dX5_copy_215 ?_
                                      refine lv_iload hx hb dX5_copy_216 (lv_at hl 0 rfl) ?_
                                      refine zk_iaddN hx hb dX5_copy_218 ?_
                                      refine zk_iald hx hb hK hP 3 rfl (by omega) (by decide) dX5_copy_219 ?_
                                      refine zk_iast (x := (va_cpy mc mc (60 * k1 + i1 + m - c) (60 * o1 + j1 + m - c) c) (60 * k1 + i1 + (m - 1 - c))) hx hb hK hP hD hS 3 rfl (by omega) (by decide) dX5_copy_220 (fun H locs hP hD hS => ?_)
                                      have hP : va_P D vwCl [(m0, .inr (5, [.int (nI 0), .int tm, .ref m1, .ref m2, .ref m3, .int M.db, .int M.rm, .int (nI M.D), .int (nI M.P), .ref m4, .ref m5, .ref m6, .ref m7, .int (nI at1), .int rdb, .int rrm, .int (nI rD), .int (nI rP), .ref m8, .ref m9, .ref m10, .ref m11, .ref m12, .int (nI mt), .ref m13, .ref m14, .ref m15])), (m1, .inl (cI, 4, .inl so)), (m2, .inl (cI, 4, .inl lg)), (m3, .inl (cI, 240, .inl (upd (va_cpy mc mc (60 * k1 + i1 + m - c) (60 * o1 + j1 + m - c) c) (60 * o1 + j1 + (m - 1 - c)) ((va_cpy mc mc (60 * k1 + i1 + m - c) (60 * o1 + j1 + m - c) c) (60 * k1 + i1 + (m - 1 - c))))))] H := hP
                                      have hD : va_D A [(m0, .inr (5, [.int (nI 0), .int tm, .ref m1, .ref m2, .ref m3, .int M.db, .int M.rm, .int (nI M.D), .int (nI M.P), .ref m4, .ref m5, .ref m6, .ref m7, .int (nI at1), .int rdb, .int rrm, .int (nI rD), .int (nI rP), .ref m8, .ref m9, .ref m10, .ref m11, .ref m12, .int (nI mt), .ref m13, .ref m14, .ref m15])), (m1, .inl (cI, 4, .inl so)), (m2, .inl (cI, 4, .inl lg)), (m3, .inl (cI, 240, .inl (upd (va_cpy mc mc (60 * k1 + i1 + m - c) (60 * o1 + j1 + m - c) c) (60 * o1 + j1 + (m - 1 - c)) ((va_cpy mc mc (60 * k1 + i1 + m - c) (60 * o1 + j1 + m - c) c) (60 * k1 + i1 + (m - 1 - c))))))] := hD
                                      refine lv_iinc (v := nI (c + 1)) (lv' := [(8, .int (nI (c + 1))), (9, .int (nI (m - 1 - c))), (0, .ref m0), (1, .int (nI k1)), (2, .int (nI i1)), (3, .int (nI o1)), (4, .int (nI j1)), (5, .int (nI m)), (6, .int (nI 1)), (7, .int (nI 1))]) hx hb dX5_copy_221 hl (k := 9) rfl (by rw [show (Int32.ofInt 1) = nI 1 from by decide, nI_add]) (by decide) rfl (fun ls hl => ?_)
                                      refine lv_goto (tgt := 166) hx hb dX5_copy_224 (by decide) ?_
                                      rw [cpyRD mc hk1 ho1 hi1 hj1 c_dn (by omega), cpyD mc _ _ _ _ (by omega)] at hP hD
                                      exact ih (c + 1)  (by omega) (by omega)  _ _ hP hD hS ls (lv_sub hl [2, 3, 4, 5, 6, 7, 8, 9, 0] rfl)
                              rw [← cpy0 mc (60 * k1 + i1 + m - 0) (60 * o1 + j1 + m - 0)] at hP hD
                              exact loop166 (m + 1) 0  (by omega) (by omega)  _ _ hP hD hS ls (lv_sub hl [3, 4, 5, 6, 7, 8, 2, 1, 0] rfl)
                          · have c_32 := Int32.not_le.mp c_32
                            refine lv_aload_n hx hb dX5_copy_144 rfl (lv_at hl 1 rfl) ?_
                            refine lv_iconst (v := nI 3) hx hb dX5_copy_145 (by decide) ?_
                            refine zk_effVi (As := [.int (nI 3)]) (rest := []) (S := Unit) (fun r _ => r = (-10) - (nI 3)) (fun _ => wMo m0 m1 m2 m3 m4 m5 m6 m7 m8 m9 m10 m11 m12 m13 m14 m15 (nI 3) tm at1 rdb rrm rD rP mt M) ⟨hx, hb, hml, hown, hts⟩ hK hP hD hS hA [0] [1, 2, 3] (wc := [(m0, .inr (5, [.int (nI 0), .int tm, .ref m1, .ref m2, .ref m3, .int M.db, .int M.rm, .int (nI M.D), .int (nI M.P), .ref m4, .ref m5, .ref m6, .ref m7, .int (nI at1), .int rdb, .int rrm, .int (nI rD), .int (nI rP), .ref m8, .ref m9, .ref m10, .ref m11, .ref m12, .int (nI mt), .ref m13, .ref m14, .ref m15]))]) (wr := [(m1, .inl (cI, 4, .inl so)), (m2, .inl (cI, 4, .inl lg)), (m3, .inl (cI, 240, .inl mc))]) rfl rfl (by decide) (by decide) (by decide) [3, 0, 1, 2] (fun (_ : Unit) => [(m0, .inr (5, [.int (nI 3), .int tm, .ref m1, .ref m2, .ref m3, .int M.db, .int M.rm, .int (nI M.D), .int (nI M.P), .ref m4, .ref m5, .ref m6, .ref m7, .int (nI at1), .int rdb, .int rrm, .int (nI rD), .int (nI rP), .ref m8, .ref m9, .ref m10, .ref m11, .ref m12, .int (nI mt), .ref m13, .ref m14, .ref m15])), (m1, .inl (cI, 4, .inl so)), (m2, .inl (cI, 4, .inl lg)), (m3, .inl (cI, 240, .inl mc))]) (fun _ => rfl) (by decide) (m_fails l D cI H.size m0 m1 m2 m3 m4 m5 m6 m7 m8 m9 m10 m11 m12 m13 m14 m15 (nI 0) tm at1 rdb rrm rD rP mt M (nI 3) ) (cwV 1 hts gX5_copy_X5_fails rfl rfl rfl hdX5_fails ⟨Nat.le_of_ble_eq_true rfl, Nat.le_of_ble_eq_true rfl⟩) rfl rfl rfl hl.1 rfl (Nat.le_of_ble_eq_true rfl) dX5_copy_146 ⟨Nat.le_of_ble_eq_true rfl, Nat.le_of_ble_eq_true rfl⟩ (fun r_38 _ H locs hw_39 hP hD hS => ?_)
                            have e_r_38 : r_38 = (-13) := hw_39.trans (by decide)
                            rw [e_r_38]
                            have e_t : copyM mc so lg k i o j n = ((-13), (nI 3), mc) := by simp [copyM, hasM, plN, c_1, g_k1, c_2, g_o1, c_3, c_6, c_7, c_8, (Int32.not_lt.mpr c_8), c_12, (Int32.not_lt.mpr c_12), c_16, (Int32.not_lt.mpr c_16), c_20, (Int32.not_lt.mpr c_20), c_24, (Int32.not_lt.mpr c_24), c_28, c_29, (Int32.not_lt.mpr c_29), c_32, (Int32.not_le.mpr c_32)]
                            exact zk_retI hx hb hr hS (()) (by rw [e_t]) (by rw [e_t]; exact hP) (by rw [e_t]; exact hD) dX5_copy_149 hlocks
          · refine lv_aload_n hx hb dX5_copy_64 rfl (lv_at hl 0 rfl) ?_
            refine lv_iconst (v := nI 2) hx hb dX5_copy_65 (by decide) ?_
            refine zk_effVi (As := [.int (nI 2)]) (rest := []) (S := Unit) (fun r _ => r = (-10) - (nI 2)) (fun _ => wMo m0 m1 m2 m3 m4 m5 m6 m7 m8 m9 m10 m11 m12 m13 m14 m15 (nI 2) tm at1 rdb rrm rD rP mt M) ⟨hx, hb, hml, hown, hts⟩ hK hP hD hS hA [0] [1, 2, 3] (wc := [(m0, .inr (5, [.int (nI 0), .int tm, .ref m1, .ref m2, .ref m3, .int M.db, .int M.rm, .int (nI M.D), .int (nI M.P), .ref m4, .ref m5, .ref m6, .ref m7, .int (nI at1), .int rdb, .int rrm, .int (nI rD), .int (nI rP), .ref m8, .ref m9, .ref m10, .ref m11, .ref m12, .int (nI mt), .ref m13, .ref m14, .ref m15]))]) (wr := [(m1, .inl (cI, 4, .inl so)), (m2, .inl (cI, 4, .inl lg)), (m3, .inl (cI, 240, .inl mc))]) rfl rfl (by decide) (by decide) (by decide) [3, 0, 1, 2] (fun (_ : Unit) => [(m0, .inr (5, [.int (nI 2), .int tm, .ref m1, .ref m2, .ref m3, .int M.db, .int M.rm, .int (nI M.D), .int (nI M.P), .ref m4, .ref m5, .ref m6, .ref m7, .int (nI at1), .int rdb, .int rrm, .int (nI rD), .int (nI rP), .ref m8, .ref m9, .ref m10, .ref m11, .ref m12, .int (nI mt), .ref m13, .ref m14, .ref m15])), (m1, .inl (cI, 4, .inl so)), (m2, .inl (cI, 4, .inl lg)), (m3, .inl (cI, 240, .inl mc))]) (fun _ => rfl) (by decide) (m_fails l D cI H.size m0 m1 m2 m3 m4 m5 m6 m7 m8 m9 m10 m11 m12 m13 m14 m15 (nI 0) tm at1 rdb rrm rD rP mt M (nI 2) ) (cwV 1 hts gX5_copy_X5_fails rfl rfl rfl hdX5_fails ⟨Nat.le_of_ble_eq_true rfl, Nat.le_of_ble_eq_true rfl⟩) rfl rfl rfl hl.1 rfl (Nat.le_of_ble_eq_true rfl) dX5_copy_66 ⟨Nat.le_of_ble_eq_true rfl, Nat.le_of_ble_eq_true rfl⟩ (fun r_40 _ H locs hw_41 hP hD hS => ?_)
            have e_r_40 : r_40 = (-12) := hw_41.trans (by decide)
            rw [e_r_40]
            have e_t : copyM mc so lg k i o j n = ((-12), (nI 2), mc) := by simp [copyM, hasM, plN, c_1, g_k1, c_2, g_o1, c_3, c_6, c_7]
            exact zk_retI hx hb hr hS (()) (by rw [e_t]) (by rw [e_t]; exact hP) (by rw [e_t]; exact hD) dX5_copy_69 hlocks
        · refine lv_aload_n hx hb dX5_copy_43 rfl (lv_at hl 0 rfl) ?_
          refine lv_iconst (v := nI 1) hx hb dX5_copy_44 (by decide) ?_
          refine zk_effVi (As := [.int (nI 1)]) (rest := []) (S := Unit) (fun r _ => r = (-10) - (nI 1)) (fun _ => wMo m0 m1 m2 m3 m4 m5 m6 m7 m8 m9 m10 m11 m12 m13 m14 m15 (nI 1) tm at1 rdb rrm rD rP mt M) ⟨hx, hb, hml, hown, hts⟩ hK hP hD hS hA [0] [1, 2, 3] (wc := [(m0, .inr (5, [.int (nI 0), .int tm, .ref m1, .ref m2, .ref m3, .int M.db, .int M.rm, .int (nI M.D), .int (nI M.P), .ref m4, .ref m5, .ref m6, .ref m7, .int (nI at1), .int rdb, .int rrm, .int (nI rD), .int (nI rP), .ref m8, .ref m9, .ref m10, .ref m11, .ref m12, .int (nI mt), .ref m13, .ref m14, .ref m15]))]) (wr := [(m1, .inl (cI, 4, .inl so)), (m2, .inl (cI, 4, .inl lg)), (m3, .inl (cI, 240, .inl mc))]) rfl rfl (by decide) (by decide) (by decide) [3, 0, 1, 2] (fun (_ : Unit) => [(m0, .inr (5, [.int (nI 1), .int tm, .ref m1, .ref m2, .ref m3, .int M.db, .int M.rm, .int (nI M.D), .int (nI M.P), .ref m4, .ref m5, .ref m6, .ref m7, .int (nI at1), .int rdb, .int rrm, .int (nI rD), .int (nI rP), .ref m8, .ref m9, .ref m10, .ref m11, .ref m12, .int (nI mt), .ref m13, .ref m14, .ref m15])), (m1, .inl (cI, 4, .inl so)), (m2, .inl (cI, 4, .inl lg)), (m3, .inl (cI, 240, .inl mc))]) (fun _ => rfl) (by decide) (m_fails l D cI H.size m0 m1 m2 m3 m4 m5 m6 m7 m8 m9 m10 m11 m12 m13 m14 m15 (nI 0) tm at1 rdb rrm rD rP mt M (nI 1) ) (cwV 1 hts gX5_copy_X5_fails rfl rfl rfl hdX5_fails ⟨Nat.le_of_ble_eq_true rfl, Nat.le_of_ble_eq_true rfl⟩) rfl rfl rfl hl.1 rfl (Nat.le_of_ble_eq_true rfl) dX5_copy_45 ⟨Nat.le_of_ble_eq_true rfl, Nat.le_of_ble_eq_true rfl⟩ (fun r_42 _ H locs hw_43 hP hD hS => ?_)
          have e_r_42 : r_42 = (-11) := hw_43.trans (by decide)
          rw [e_r_42]
          have e_t : copyM mc so lg k i o j n = ((-11), (nI 1), mc) := by simp [copyM, hasM, plN, c_1, g_k1, c_2, g_o1, c_3, c_6]
          exact zk_retI hx hb hr hS (()) (by rw [e_t]) (by rw [e_t]; exact hP) (by rw [e_t]; exact hD) dX5_copy_48 hlocks
    · refine lv_iconst (v := (-1)) hx hb dX5_copy_19 (by decide) ?_
      have e_t : copyM mc so lg k i o j n = ((-1), nI 0, mc) := by simp [copyM, hasM, plN, c_1, g_k1, c_2]
      exact zk_retI hx hb hr hS (()) (by rw [e_t]) (by rw [e_t]; exact hP) (by rw [e_t]; exact hD) dX5_copy_20 hlocks
set_option maxHeartbeats 4000000 in
set_option maxRecDepth 100000 in
theorem mx_plan (l : Launch) (D : va_G) (cI : ClassId) (sz : Nat) (m0 : Nat) (m1 : Nat) (m2 : Nat) (m3 : Nat) (m4 : Nat) (m5 : Nat) (m6 : Nat) (m7 : Nat) (m8 : Nat) (m9 : Nat) (m10 : Nat) (m11 : Nat) (m12 : Nat) (m13 : Nat) (m14 : Nat) (m15 : Nat) (fm : Int32) (tm : Int32) (at1 : Nat) (rdb : Int32) (rrm : Int32) (rD : Nat) (rP : Nat) (mt : Nat) (M : YS) (so : Nat → Int32) (lg : Nat → Int32) (mc : Nat → Int32) (k : Int32) (lane : Int32) (i : Int32) (n : Int32) (w : Int32) (hg : GdY M) (hDP : M.D = 0 ↔ M.P = 0) (hsz : okS lg) : Met l yX5_plan wsX5_plan ({ frames := 8, cells := 0, slots := 0, locals := 190 }) (PQ D cI [.ref m0, .int k, .int lane, .int i, .int n, .int w] ((wMo m0 m1 m2 m3 m4 m5 m6 m7 m8 m9 m10 m11 m12 m13 m14 m15 fm tm at1 rdb rrm rD rP mt M ++ wMa cI m4 m5 m6 m7 m12 M) ++ wMs cI m1 m2 m3 so lg mc) sz) (QI (S := Nat → Int32) D (fun r _ => r = (planM M mc so lg k lane i n w).1) (fun u => (wMo m0 m1 m2 m3 m4 m5 m6 m7 m8 m9 m10 m11 m12 m13 m14 m15 ((planM M mc so lg k lane i n w).2) tm at1 rdb rrm rD rP mt (M.sPret u) ++ wMa cI m4 m5 m6 m7 m12 (M.sPret u)) ++ wMs cI m1 m2 m3 so lg mc) (va_A ((wMo m0 m1 m2 m3 m4 m5 m6 m7 m8 m9 m10 m11 m12 m13 m14 m15 fm tm at1 rdb rrm rD rP mt M ++ wMa cI m4 m5 m6 m7 m12 M) ++ wMs cI m1 m2 m3 so lg mc) sz)) 0 0 (va_A ((wMo m0 m1 m2 m3 m4 m5 m6 m7 m8 m9 m10 m11 m12 m13 m14 m15 fm tm at1 rdb rrm rD rP mt M ++ wMa cI m4 m5 m6 m7 m12 M) ++ wMs cI m1 m2 m3 so lg mc) sz) := by
  refine zk_Q (QI (S := Nat → Int32) D (fun r _ => r = (planM M mc so lg k lane i n w).1) (fun u => (wMo m0 m1 m2 m3 m4 m5 m6 m7 m8 m9 m10 m11 m12 m13 m14 m15 ((planM M mc so lg k lane i n w).2) tm at1 rdb rrm rD rP mt (M.sPret u) ++ wMa cI m4 m5 m6 m7 m12 (M.sPret u)) ++ wMs cI m1 m2 m3 so lg mc)) (cc := cX5_plan) (maxL := 8) (ret := (some .int)) (by decide) rfl (Nat.le_of_ble_eq_true rfl) ?_
  intro pX eX sX mX bX tX cX hx hb hr hlocks hml hown hmn hts hP hK A hA hD hS ls hl
  have hl : lv_has ls 8 [(0, .ref m0), (1, .int k), (2, .int lane), (3, .int i), (4, .int n), (5, .int w)] := hl
  have hP : va_P D vwCl [(m0, .inr (5, [.int fm, .int tm, .ref m1, .ref m2, .ref m3, .int M.db, .int M.rm, .int (nI M.D), .int (nI M.P), .ref m4, .ref m5, .ref m6, .ref m7, .int (nI at1), .int rdb, .int rrm, .int (nI rD), .int (nI rP), .ref m8, .ref m9, .ref m10, .ref m11, .ref m12, .int (nI mt), .ref m13, .ref m14, .ref m15])), (m4, .inl (cI, 5, .inl M.hard)), (m5, .inl (cI, 4, .inl M.kind)), (m6, .inl (cI, 4, .inl M.wit)), (m7, .inl (cI, 4, .inl M.pat)), (m12, .inl (cI, 4, .inl M.pret)), (m1, .inl (cI, 4, .inl so)), (m2, .inl (cI, 4, .inl lg)), (m3, .inl (cI, 240, .inl mc))] sX.heap := hP
  have hD : va_D A [(m0, .inr (5, [.int fm, .int tm, .ref m1, .ref m2, .ref m3, .int M.db, .int M.rm, .int (nI M.D), .int (nI M.P), .ref m4, .ref m5, .ref m6, .ref m7, .int (nI at1), .int rdb, .int rrm, .int (nI rD), .int (nI rP), .ref m8, .ref m9, .ref m10, .ref m11, .ref m12, .int (nI mt), .ref m13, .ref m14, .ref m15])), (m4, .inl (cI, 5, .inl M.hard)), (m5, .inl (cI, 4, .inl M.kind)), (m6, .inl (cI, 4, .inl M.wit)), (m7, .inl (cI, 4, .inl M.pat)), (m12, .inl (cI, 4, .inl M.pret)), (m1, .inl (cI, 4, .inl so)), (m2, .inl (cI, 4, .inl lg)), (m3, .inl (cI, 240, .inl mc))] := hD
  have f_55 := hts (.fieldLink RX5 55 "DunceSeeModel" "fault" "I") (by decide +kernel)
  have f_68 := hts (.fieldLink RX5 68 "DunceSeeModel" "days" "I") (by decide +kernel)
  have f_65 := hts (.fieldLink RX5 65 "DunceSeeModel" "pupils" "I") (by decide +kernel)
  have f_43 := hts (.fieldLink RX5 43 "DunceSeeModel" "pretends" "[I") (by decide +kernel)
  have f_16 := hts (.fieldLink RX5 16 "DunceSeeModel" "cells" "[I") (by decide +kernel)
  have inX5 : ∀ w ∈ wsX50, w ∈ wsX5_plan := fun w h => List.mem_cons_of_mem _ (List.mem_append_right _ h)
  have hD5 : M.D ≤ 5 := hg.1.1
  have hP4 : M.P ≤ 4 := hg.1.2
  refine lv_aload_n hx hb dX5_plan_0 rfl (lv_at hl 0 rfl) ?_
  refine lv_iconst (v := nI 0) hx hb dX5_plan_1 (by decide) ?_
  refine va_put (D := D) (ci := 5) (v := .int (nI 0)) (ty := .int) (C := RX5) (T := TX5) (N := 27) hx hb hts inX5 tyX5 tyX5_ok nmX5 hown hK.1 hP hD hS 0 rfl rfl 0 (by decide) f_55 (fun _ h9 => h9) rfl (by decide +kernel) rfl rfl (Nat.le_of_ble_eq_true rfl) dX5_plan_2 (fun H locs hP hD hS => ?_)
  have hP : va_P D vwCl [(m0, .inr (5, [.int (nI 0), .int tm, .ref m1, .ref m2, .ref m3, .int M.db, .int M.rm, .int (nI M.D), .int (nI M.P), .ref m4, .ref m5, .ref m6, .ref m7, .int (nI at1), .int rdb, .int rrm, .int (nI rD), .int (nI rP), .ref m8, .ref m9, .ref m10, .ref m11, .ref m12, .int (nI mt), .ref m13, .ref m14, .ref m15])), (m4, .inl (cI, 5, .inl M.hard)), (m5, .inl (cI, 4, .inl M.kind)), (m6, .inl (cI, 4, .inl M.wit)), (m7, .inl (cI, 4, .inl M.pat)), (m12, .inl (cI, 4, .inl M.pret)), (m1, .inl (cI, 4, .inl so)), (m2, .inl (cI, 4, .inl lg)), (m3, .inl (cI, 240, .inl mc))] H := hP
  have hD : va_D A [(m0, .inr (5, [.int (nI 0), .int tm, .ref m1, .ref m2, .ref m3, .int M.db, .int M.rm, .int (nI M.D), .int (nI M.P), .ref m4, .ref m5, .ref m6, .ref m7, .int (nI at1), .int rdb, .int rrm, .int (nI rD), .int (nI rP), .ref m8, .ref m9, .ref m10, .ref m11, .ref m12, .int (nI mt), .ref m13, .ref m14, .ref m15])), (m4, .inl (cI, 5, .inl M.hard)), (m5, .inl (cI, 4, .inl M.kind)), (m6, .inl (cI, 4, .inl M.wit)), (m7, .inl (cI, 4, .inl M.pat)), (m12, .inl (cI, 4, .inl M.pret)), (m1, .inl (cI, 4, .inl so)), (m2, .inl (cI, 4, .inl lg)), (m3, .inl (cI, 240, .inl mc))] := hD
  refine lv_iload_n hx hb dX5_plan_5 rfl (lv_at hl 1 rfl) ?_
  refine zk_callSi (As := [.int k]) (rest := []) (bI (isP 4 k)) ⟨hx, hb, hml, hown, hts⟩ hK hP [] rfl (m_isSheet l D cI k ) (va_cwS 1 hts gX5_plan_X5_isSheet rfl rfl rfl hdX5_isSheet ⟨Nat.le_of_ble_eq_true rfl, Nat.le_of_ble_eq_true rfl⟩) rfl hl.1 rfl (Nat.le_of_ble_eq_true rfl) dX5_plan_6 ⟨Nat.le_of_ble_eq_true rfl, Nat.le_of_ble_eq_true rfl⟩ ?_
  refine zk_ifneB (tgt := 14) hx hb dX5_plan_9 (by decide) (fun c_1 => ?_) (fun c_1 => ?_)
  · obtain ⟨h, hh, e_h, g_h⟩ := isP_of (by omega) c_1
    rw [e_h] at hl
    refine lv_iload_n hx hb dX5_plan_14 rfl (lv_at hl 2 rfl) ?_
    refine zk_callSi (As := [.int lane]) (rest := []) (bI (isP 3 lane)) ⟨hx, hb, hml, hown, hts⟩ hK hP [] rfl (m_isSort l D cI lane ) (va_cwS 1 hts gX5_plan_X5_isSort rfl rfl rfl hdX5_isSort ⟨Nat.le_of_ble_eq_true rfl, Nat.le_of_ble_eq_true rfl⟩) rfl hl.1 rfl (Nat.le_of_ble_eq_true rfl) dX5_plan_15 ⟨Nat.le_of_ble_eq_true rfl, Nat.le_of_ble_eq_true rfl⟩ ?_
    refine zk_ifeqB (tgt := 55) hx hb dX5_plan_18 (by decide) (fun c_2 => ?_) (fun c_2 => ?_)
    · refine lv_bipush (v := (-2)) hx hb dX5_plan_55 (by decide) ?_
      have e_t : planM M mc so lg k lane i n w = ((-2), nI 0) := by simp [planM, c_1, g_h, c_2]
      exact zk_retI hx hb hr hS (M.pret) (by rw [e_t]) (by rw [e_t]; exact hP) (by rw [e_t]; exact hD) dX5_plan_57 hlocks
    · refine lv_iload hx hb dX5_plan_21 (lv_at hl 5 rfl) ?_
      refine lv_iconst (v := nI 0) hx hb dX5_plan_23 (by decide) ?_
      refine lv_iconst (v := nI 3) hx hb dX5_plan_24 (by decide) ?_
      refine zk_callSi (As := [.int w, .int (nI 0), .int (nI 3)]) (rest := []) (bI (wiB w (nI 0) (nI 3))) ⟨hx, hb, hml, hown, hts⟩ hK hP [] rfl (m_within l D cI w (nI 0) (nI 3) ) (va_cwS 3 hts gX5_plan_X5_within rfl rfl rfl hdX5_within ⟨Nat.le_of_ble_eq_true rfl, Nat.le_of_ble_eq_true rfl⟩) rfl hl.1 rfl (Nat.le_of_ble_eq_true rfl) dX5_plan_25 ⟨Nat.le_of_ble_eq_true rfl, Nat.le_of_ble_eq_true rfl⟩ ?_
      refine zk_ifneB (tgt := 58) hx hb dX5_plan_28 (by decide) (fun c_3 => ?_) (fun c_3 => ?_)
      · have c_l : isPl w = true := by rw [isPl_w]; simp [c_3]
        refine lv_aload_n hx hb dX5_plan_58 rfl (lv_at hl 0 rfl) ?_
        refine lv_iload_n hx hb dX5_plan_59 rfl (lv_at hl 1 rfl) ?_
        refine lv_iload_n hx hb dX5_plan_60 rfl (lv_at hl 2 rfl) ?_
        refine lv_iload_n hx hb dX5_plan_61 rfl (lv_at hl 3 rfl) ?_
        refine lv_iload hx hb dX5_plan_62 (lv_at hl 4 rfl) ?_
        refine zk_callVi (As := [.int (nI h), .int lane, .int i, .int n]) (rest := []) (fCelM so lg h lane i n) ⟨hx, hb, hml, hown, hts⟩ hK hP [0, 6, 7, 8] rfl (m_against l D cI m0 m1 m2 m3 m4 m5 m6 m7 m8 m9 m10 m11 m12 m13 m14 m15 (nI 0) tm at1 rdb rrm rD rP mt M so lg mc h lane i n hh) (cwV 4 hts gX5_plan_X5_against rfl rfl rfl hdX5_against ⟨Nat.le_of_ble_eq_true rfl, Nat.le_of_ble_eq_true rfl⟩) rfl rfl rfl hl.1 rfl (Nat.le_of_ble_eq_true rfl) dX5_plan_64 ⟨Nat.le_of_ble_eq_true rfl, Nat.le_of_ble_eq_true rfl⟩ ?_
        refine lv_istore (lv' := [(6, .int (fCelM so lg h lane i n)), (0, .ref m0), (1, .int (nI h)), (2, .int lane), (3, .int i), (4, .int n), (5, .int w)]) hx hb dX5_plan_67 hl (by decide) rfl (fun ls hl => ?_)
        refine lv_iload hx hb dX5_plan_69 (lv_at hl 0 rfl) ?_
        refine lv_if_eq (tgt := 81) hx hb dX5_plan_71 (by decide) (fun c_4 => ?_) (fun c_4 => ?_)
        · refine lv_aload_n hx hb dX5_plan_81 rfl (lv_at hl 1 rfl) ?_
          refine va_get (D := D) (ci := 5) (v := .int (nI M.D)) (C := RX5) (T := TX5) (N := 27) hx hb hts inX5 hown hK.1 hP 0 rfl rfl 7 (by decide) f_68 (fun _ h9 => h9) rfl dX5_plan_82 ?_
          refine lv_if_ne (tgt := 91) hx hb dX5_plan_85 (by decide) (fun c_5 => ?_) (fun c_5 => ?_)
          · have c_s : 0 < M.P := by have := ne0N c_5; omega
            refine lv_iload hx hb dX5_plan_91 (lv_at hl 5 rfl) ?_
            refine lv_aload_n hx hb dX5_plan_93 rfl (lv_at hl 1 rfl) ?_
            refine va_get (D := D) (ci := 5) (v := .int (nI M.P)) (C := RX5) (T := TX5) (N := 27) hx hb hts inX5 hown hK.1 hP 0 rfl rfl 8 (by decide) f_65 (fun _ h9 => h9) rfl dX5_plan_94 ?_
            refine lv_icmp_eq (tgt := 103) hx hb dX5_plan_97 (by decide) (fun c_6 => ?_) (fun c_6 => ?_)
            · have h_f := fCelM_0 c_4
              obtain ⟨i1, hi1, e_i, g_i⟩ := plN_of hsz hh (m := M.P) (by omega) c_6 h_f.2.2
              rw [e_i, c_6] at hl
              have c_n : fCelM so lg h lane i (nI M.P) = 0 := by rw [← c_6]; exact c_4
              refine lv_iconst (v := nI 0) hx hb dX5_plan_103 (by decide) ?_
              refine lv_istore (lv' := [(7, .int (nI 0)), (6, .int (fCelM so lg h lane (nI i1) (nI M.P))), (0, .ref m0), (1, .int (nI h)), (2, .int lane), (3, .int (nI i1)), (4, .int (nI M.P)), (5, .int w)]) hx hb dX5_plan_104 hl (by decide) rfl (fun ls hl => ?_)
              have loop106 : ∀ (nL p : Nat), p ≤ M.P → M.P < p + nL → (∀ q, q < p → plB M (rowM mc h i1) q = true) → ∀ (H : Heap) (locs : List Loc), va_P D vwCl [(m0, .inr (5, [.int (nI 0), .int tm, .ref m1, .ref m2, .ref m3, .int M.db, .int M.rm, .int (nI M.D), .int (nI M.P), .ref m4, .ref m5, .ref m6, .ref m7, .int (nI at1), .int rdb, .int rrm, .int (nI rD), .int (nI rP), .ref m8, .ref m9, .ref m10, .ref m11, .ref m12, .int (nI mt), .ref m13, .ref m14, .ref m15])), (m4, .inl (cI, 5, .inl M.hard)), (m5, .inl (cI, 4, .inl M.kind)), (m6, .inl (cI, 4, .inl M.wit)), (m7, .inl (cI, 4, .inl M.pat)), (m12, .inl (cI, 4, .inl (tab p (rowM mc h i1) M.pret))), (m1, .inl (cI, 4, .inl so)), (m2, .inl (cI, 4, .inl lg)), (m3, .inl (cI, 240, .inl mc))] H → va_D A [(m0, .inr (5, [.int (nI 0), .int tm, .ref m1, .ref m2, .ref m3, .int M.db, .int M.rm, .int (nI M.D), .int (nI M.P), .ref m4, .ref m5, .ref m6, .ref m7, .int (nI at1), .int rdb, .int rrm, .int (nI rD), .int (nI rP), .ref m8, .ref m9, .ref m10, .ref m11, .ref m12, .int (nI mt), .ref m13, .ref m14, .ref m15])), (m4, .inl (cI, 5, .inl M.hard)), (m5, .inl (cI, 4, .inl M.kind)), (m6, .inl (cI, 4, .inl M.wit)), (m7, .inl (cI, 4, .inl M.pat)), (m12, .inl (cI, 4, .inl (tab p (rowM mc h i1) M.pret))), (m1, .inl (cI, 4, .inl so)), (m2, .inl (cI, 4, .inl lg)), (m3, .inl (cI, 240, .inl mc))] → va_S A sX.heap H locs → ∀ ls : Array Slot, lv_has ls 8 [(0, .ref m0), (1, .int (nI h)), (2, .int lane), (3, .int (nI i1)), (4, .int (nI M.P)), (5, .int w), (6, .int (fCelM so lg h lane (nI i1) (nI M.P))), (7, .int (nI p))] → W pX l eX ({ frames := 8, cells := 0, slots := 0, locals := 190 }) sX mX ([.ref m0, .int k, .int lane, .int i, .int n, .int w] : List Value).toArray bX tX cX H locs 0 0 (MQ bX (QI (S := Nat → Int32) D (fun r _ => r = (planM M mc so lg k lane i n w).1) (fun u => (wMo m0 m1 m2 m3 m4 m5 m6 m7 m8 m9 m10 m11 m12 m13 m14 m15 ((planM M mc so lg k lane i n w).2) tm at1 rdb rrm rD rP mt (M.sPret u) ++ wMa cI m4 m5 m6 m7 m12 (M.sPret u)) ++ wMs cI m1 m2 m3 so lg mc) A) ([.ref m0, .int k, .int lane, .int i, .int n, .int w] : List Value).toArray sX 0 0 A) (F0 mX 106 ls []) := by
                intro nL
                induction nL with
                | zero => intro p  h1 h2; exact absurd h2 (by omega)
                | succ nL ih =>
                  intro p  h_le h_n hall H locs hP hD hS ls hl
                  refine lv_iload hx hb dX5_plan_106 (lv_at hl 7 rfl) ?_
                  refine lv_iload hx hb dX5_plan_108 (lv_at hl 4 rfl) ?_
                  refine zk_icmp_ge (tgt := 165) hx hb dX5_plan_110 (by decide) (by omega) (by omega) (fun c_7 => ?_) (fun c_7 => ?_)
                  · have e_p : p = M.P := by omega
                    rw [e_p] at hP hD
                    have c_t : allB M.P (plB M (rowM mc h i1)) = true := allB_iff.mpr (fun q h9 => hall q (by omega))
                    refine lv_aload_n hx hb dX5_plan_165 rfl (lv_at hl 0 rfl) ?_
                    refine lv_iload hx hb dX5_plan_166 (lv_at hl 5 rfl) ?_
                    refine zk_effVi (As := [.int w]) (rest := []) (S := Unit) (fun r _ => r = ofPlF (M.sPret (tab M.P (rowM mc h i1) M.pret)) w) (fun _ => wMo m0 m1 m2 m3 m4 m5 m6 m7 m8 m9 m10 m11 m12 m13 m14 m15 (nI 0) tm at1 rdb rrm rD rP mt (M.sPret (tab M.P (rowM mc h i1) M.pret)) ++ wMa cI m4 m5 m6 m7 m12 (M.sPret (tab M.P (rowM mc h i1) M.pret))) ⟨hx, hb, hml, hown, hts⟩ hK hP hD hS hA [0, 1, 2, 3, 4, 5] [6, 7, 8] (wc := [(m0, .inr (5, [.int (nI 0), .int tm, .ref m1, .ref m2, .ref m3, .int M.db, .int M.rm, .int (nI M.D), .int (nI M.P), .ref m4, .ref m5, .ref m6, .ref m7, .int (nI at1), .int rdb, .int rrm, .int (nI rD), .int (nI rP), .ref m8, .ref m9, .ref m10, .ref m11, .ref m12, .int (nI mt), .ref m13, .ref m14, .ref m15])), (m4, .inl (cI, 5, .inl M.hard)), (m5, .inl (cI, 4, .inl M.kind)), (m6, .inl (cI, 4, .inl M.wit)), (m7, .inl (cI, 4, .inl M.pat)), (m12, .inl (cI, 4, .inl (tab M.P (rowM mc h i1) M.pret)))]) (wr := [(m1, .inl (cI, 4, .inl so)), (m2, .inl (cI, 4, .inl lg)), (m3, .inl (cI, 240, .inl mc))]) rfl rfl (by decide) (by decide) (by decide) [3, 4, 5, 6, 7, 8, 0, 1, 2] (fun (_ : Unit) => [(m0, .inr (5, [.int (nI 0), .int tm, .ref m1, .ref m2, .ref m3, .int ((M.sPret (tab M.P (rowM mc h i1) M.pret)).db), .int ((M.sPret (tab M.P (rowM mc h i1) M.pret)).rm), .int (nI ((M.sPret (tab M.P (rowM mc h i1) M.pret)).D)), .int (nI ((M.sPret (tab M.P (rowM mc h i1) M.pret)).P)), .ref m4, .ref m5, .ref m6, .ref m7, .int (nI at1), .int rdb, .int rrm, .int (nI rD), .int (nI rP), .ref m8, .ref m9, .ref m10, .ref m11, .ref m12, .int (nI mt), .ref m13, .ref m14, .ref m15])), (m4, .inl (cI, 5, .inl ((M.sPret (tab M.P (rowM mc h i1) M.pret)).hard))), (m5, .inl (cI, 4, .inl ((M.sPret (tab M.P (rowM mc h i1) M.pret)).kind))), (m6, .inl (cI, 4, .inl ((M.sPret (tab M.P (rowM mc h i1) M.pret)).wit))), (m7, .inl (cI, 4, .inl ((M.sPret (tab M.P (rowM mc h i1) M.pret)).pat))), (m12, .inl (cI, 4, .inl ((M.sPret (tab M.P (rowM mc h i1) M.pret)).pret))), (m1, .inl (cI, 4, .inl so)), (m2, .inl (cI, 4, .inl lg)), (m3, .inl (cI, 240, .inl mc))]) (fun _ => rfl) (by decide) (m_tellPlan l D cI H.size m0 m1 m2 m3 m4 m5 m6 m7 m8 m9 m10 m11 m12 m13 m14 m15 (nI 0) tm at1 rdb rrm rD rP mt (M.sPret (tab M.P (rowM mc h i1) M.pret)) w hg c_l) (cwV 1 hts gX5_plan_X5_tellPlan rfl rfl rfl hdX5_tellPlan ⟨Nat.le_of_ble_eq_true rfl, Nat.le_of_ble_eq_true rfl⟩) rfl rfl rfl hl.1 rfl (Nat.le_of_ble_eq_true rfl) dX5_plan_168 ⟨Nat.le_of_ble_eq_true rfl, Nat.le_of_ble_eq_true rfl⟩ (fun r_8 _ H locs hw_9 hP hD hS => ?_)
                    have e_r_8 : r_8 = ofPlF (M.sPret (tab M.P (rowM mc h i1) M.pret)) w := hw_9
                    rw [e_r_8]
                    have e_t : planM M mc so lg k lane i n w = (ofPlF (M.sPret (tab M.P (rowM mc h i1) M.pret)) w, (nI 0)) := by simp [planM, c_1, g_h, c_2, c_l, c_4, c_s, c_6, g_i, c_n, c_7, (Nat.not_lt.mpr c_7), c_t]
                    exact zk_retI hx hb hr hS ((M.sPret (tab M.P (rowM mc h i1) M.pret)).pret) (by rw [e_t]) (by rw [e_t]; exact hP) (by rw [e_t]; exact hD) dX5_plan_171 hlocks
                  · refine lv_aload_n hx hb dX5_plan_113 rfl (lv_at hl 0 rfl) ?_
                    refine va_get (D := D) (ci := 5) (v := .ref m12) (C := RX5) (T := TX5) (N := 27) hx hb hts inX5 hown hK.1 hP 0 rfl rfl 22 (by decide) f_43 (fun _ h9 => h9) rfl dX5_plan_114 ?_
                    refine lv_iload hx hb dX5_plan_117 (lv_at hl 7 rfl) ?_
                    refine lv_aload_n hx hb dX5_plan_119 rfl (lv_at hl 0 rfl) ?_
                    refine va_get (D := D) (ci := 5) (v := .ref m3) (C := RX5) (T := TX5) (N := 27) hx hb hts inX5 hown hK.1 hP 0 rfl rfl 4 (by decide) f_16 (fun _ h9 => h9) rfl dX5_plan_120 ?_
                    refine lv_bipush (v := nI 60) hx hb dX5_plan_123 (by decide) ?_
                    refine lv_iload_n hx hb dX5_plan_125 rfl (lv_at hl 1 rfl) ?_
                    refine zk_imulN hx hb dX5_plan_126 ?_
                    refine lv_iload_n hx hb dX5_plan_127 rfl (lv_at hl 3 rfl) ?_
                    refine zk_iaddN hx hb dX5_plan_128 ?_
                    refine lv_iload hx hb dX5_plan_129 (lv_at hl 7 rfl) ?_
                    refine zk_iaddN hx hb dX5_plan_131 ?_
                    refine zk_iald hx hb hK hP 8 rfl (by omega) (by decide) dX5_plan_132 ?_
                    refine zk_iast (x := mc (60 * h + i1 + p)) hx hb hK hP hD hS 5 rfl (by omega) (by decide) dX5_plan_133 (fun H locs hP hD hS => ?_)
                    have hP : va_P D vwCl [(m0, .inr (5, [.int (nI 0), .int tm, .ref m1, .ref m2, .ref m3, .int M.db, .int M.rm, .int (nI M.D), .int (nI M.P), .ref m4, .ref m5, .ref m6, .ref m7, .int (nI at1), .int rdb, .int rrm, .int (nI rD), .int (nI rP), .ref m8, .ref m9, .ref m10, .ref m11, .ref m12, .int (nI mt), .ref m13, .ref m14, .ref m15])), (m4, .inl (cI, 5, .inl M.hard)), (m5, .inl (cI, 4, .inl M.kind)), (m6, .inl (cI, 4, .inl M.wit)), (m7, .inl (cI, 4, .inl M.pat)), (m12, .inl (cI, 4, .inl (upd (tab p (rowM mc h i1) M.pret) p (mc (60 * h + i1 + p))))), (m1, .inl (cI, 4, .inl so)), (m2, .inl (cI, 4, .inl lg)), (m3, .inl (cI, 240, .inl mc))] H := hP
                    have hD : va_D A [(m0, .inr (5, [.int (nI 0), .int tm, .ref m1, .ref m2, .ref m3, .int M.db, .int M.rm, .int (nI M.D), .int (nI M.P), .ref m4, .ref m5, .ref m6, .ref m7, .int (nI at1), .int rdb, .int rrm, .int (nI rD), .int (nI rP), .ref m8, .ref m9, .ref m10, .ref m11, .ref m12, .int (nI mt), .ref m13, .ref m14, .ref m15])), (m4, .inl (cI, 5, .inl M.hard)), (m5, .inl (cI, 4, .inl M.kind)), (m6, .inl (cI, 4, .inl M.wit)), (m7, .inl (cI, 4, .inl M.pat)), (m12, .inl (cI, 4, .inl (upd (tab p (rowM mc h i1) M.pret) p (mc (60 * h + i1 + p))))), (m1, .inl (cI, 4, .inl so)), (m2, .inl (cI, 4, .inl lg)), (m3, .inl (cI, 240, .inl mc))] := hD
                    rw [show upd (tab p (rowM mc h i1) M.pret) p (mc (60 * h + i1 + p)) = tab (p + 1) (rowM mc h i1) M.pret from tab_s p (rowM mc h i1) _] at hP hD
                    have hP : va_P D vwCl [(m0, .inr (5, [.int (nI 0), .int tm, .ref m1, .ref m2, .ref m3, .int M.db, .int M.rm, .int (nI M.D), .int (nI M.P), .ref m4, .ref m5, .ref m6, .ref m7, .int (nI at1), .int rdb, .int rrm, .int (nI rD), .int (nI rP), .ref m8, .ref m9, .ref m10, .ref m11, .ref m12, .int (nI mt), .ref m13, .ref m14, .ref m15])), (m4, .inl (cI, 5, .inl M.hard)), (m5, .inl (cI, 4, .inl M.kind)), (m6, .inl (cI, 4, .inl M.wit)), (m7, .inl (cI, 4, .inl M.pat)), (m12, .inl (cI, 4, .inl (tab (p + 1) (rowM mc h i1) M.pret))), (m1, .inl (cI, 4, .inl so)), (m2, .inl (cI, 4, .inl lg)), (m3, .inl (cI, 240, .inl mc))] H := hP
                    have hD : va_D A [(m0, .inr (5, [.int (nI 0), .int tm, .ref m1, .ref m2, .ref m3, .int M.db, .int M.rm, .int (nI M.D), .int (nI M.P), .ref m4, .ref m5, .ref m6, .ref m7, .int (nI at1), .int rdb, .int rrm, .int (nI rD), .int (nI rP), .ref m8, .ref m9, .ref m10, .ref m11, .ref m12, .int (nI mt), .ref m13, .ref m14, .ref m15])), (m4, .inl (cI, 5, .inl M.hard)), (m5, .inl (cI, 4, .inl M.kind)), (m6, .inl (cI, 4, .inl M.wit)), (m7, .inl (cI, 4, .inl M.pat)), (m12, .inl (cI, 4, .inl (tab (p + 1) (rowM mc h i1) M.pret))), (m1, .inl (cI, 4, .inl so)), (m2, .inl (cI, 4, .inl lg)), (m3, .inl (cI, 240, .inl mc))] := hD
                    refine lv_aload_n hx hb dX5_plan_134 rfl (lv_at hl 0 rfl) ?_
                    refine va_get (D := D) (ci := 5) (v := .ref m12) (C := RX5) (T := TX5) (N := 27) hx hb hts inX5 hown hK.1 hP 0 rfl rfl 22 (by decide) f_43 (fun _ h9 => h9) rfl dX5_plan_135 ?_
                    refine lv_iload hx hb dX5_plan_138 (lv_at hl 7 rfl) ?_
                    refine zk_iald hx hb hK hP 5 rfl (by omega) (by decide) dX5_plan_140 ?_
                    refine zk_top (y := (rowM mc h i1) p) (tab_lt (by omega) _ _) ?_
                    refine lv_iconst (v := nI 0) hx hb dX5_plan_141 (by decide) ?_
                    refine lv_iconst (v := nI 1) hx hb dX5_plan_142 (by decide) ?_
                    refine lv_aload_n hx hb dX5_plan_143 rfl (lv_at hl 0 rfl) ?_
                    refine va_get (D := D) (ci := 5) (v := .int (nI M.D)) (C := RX5) (T := TX5) (N := 27) hx hb hts inX5 hown hK.1 hP 0 rfl rfl 7 (by decide) f_68 (fun _ h9 => h9) rfl dX5_plan_144 ?_
                    refine lv_ishl hx hb dX5_plan_147 ?_
                    refine lv_iconst (v := nI 1) hx hb dX5_plan_148 (by decide) ?_
                    refine lv_isub hx hb dX5_plan_149 ?_
                    refine zk_top (y := nI (aD M.D)) (aD_eq _ hD5) ?_
                    refine zk_callSi (As := [.int ((rowM mc h i1) p), .int (nI 0), .int (nI (aD M.D))]) (rest := []) (bI (wiB ((rowM mc h i1) p) (nI 0) (nI (aD M.D)))) ⟨hx, hb, hml, hown, hts⟩ hK hP [] rfl (m_within l D cI ((rowM mc h i1) p) (nI 0) (nI (aD M.D)) ) (va_cwS 3 hts gX5_plan_X5_within rfl rfl rfl hdX5_within ⟨Nat.le_of_ble_eq_true rfl, Nat.le_of_ble_eq_true rfl⟩) rfl hl.1 rfl (Nat.le_of_ble_eq_true rfl) dX5_plan_150 ⟨Nat.le_of_ble_eq_true rfl, Nat.le_of_ble_eq_true rfl⟩ ?_
                    refine zk_ifneB (tgt := 159) hx hb dX5_plan_153 (by decide) (fun c_10 => ?_) (fun c_10 => ?_)
                    · refine lv_iinc (v := nI (p + 1)) (lv' := [(7, .int (nI (p + 1))), (0, .ref m0), (1, .int (nI h)), (2, .int lane), (3, .int (nI i1)), (4, .int (nI M.P)), (5, .int w), (6, .int (fCelM so lg h lane (nI i1) (nI M.P)))]) hx hb dX5_plan_159 hl (k := 7) rfl (by rw [show (Int32.ofInt 1) = nI 1 from by decide, nI_add]) (by decide) rfl (fun ls hl => ?_)
                      refine lv_goto (tgt := 106) hx hb dX5_plan_162 (by decide) ?_
                      exact ih (p + 1)  (by omega) (by omega) (fun q h9 => by by_cases e : q = p; { subst e; unfold plB; rw [← wiB0]; exact c_10 }; { exact hall q (by omega) }) _ _ hP hD hS ls (lv_sub hl [1, 2, 3, 4, 5, 6, 7, 0] rfl)
                    · have c_f : allB M.P (plB M (rowM mc h i1)) = false := allB_f (k := p) (by omega) (by unfold plB; rw [← wiB0]; exact c_10)
                      refine lv_bipush (v := (-2)) hx hb dX5_plan_156 (by decide) ?_
                      have e_t : planM M mc so lg k lane i n w = ((-2), nI 0) := by simp [planM, c_1, g_h, c_2, c_l, c_4, c_s, c_6, g_i, c_n, c_7, (Nat.not_le.mpr c_7), c_f]
                      exact zk_retI hx hb hr hS (tab (p + 1) (rowM mc h i1) M.pret) (by rw [e_t]) (by rw [e_t]; exact hP) (by rw [e_t]; exact hD) dX5_plan_158 hlocks
              rw [← tab_0 (rowM mc h i1) M.pret] at hP hD
              exact loop106 (M.P + 1) 0  (by omega) (by omega) (fun q h9 => by omega) _ _ hP hD hS ls (lv_sub hl [2, 3, 4, 5, 6, 7, 1, 0] rfl)
            · refine lv_bipush (v := (-2)) hx hb dX5_plan_100 (by decide) ?_
              have e_t : planM M mc so lg k lane i n w = ((-2), nI 0) := by simp [planM, c_1, g_h, c_2, c_l, c_4, c_s, c_6]
              exact zk_retI hx hb hr hS (M.pret) (by rw [e_t]) (by rw [e_t]; exact hP) (by rw [e_t]; exact hD) dX5_plan_102 hlocks
          · have c_s : ¬ 0 < M.P := by have := hDP.mp (eq0N (by omega) c_5); omega
            refine lv_bipush (v := (-3)) hx hb dX5_plan_88 (by decide) ?_
            have e_t : planM M mc so lg k lane i n w = ((-3), nI 0) := by simp [planM, c_1, g_h, c_2, c_l, c_4, c_s]
            exact zk_retI hx hb hr hS (M.pret) (by rw [e_t]) (by rw [e_t]; exact hP) (by rw [e_t]; exact hD) dX5_plan_90 hlocks
        · refine lv_aload_n hx hb dX5_plan_74 rfl (lv_at hl 1 rfl) ?_
          refine lv_iload hx hb dX5_plan_75 (lv_at hl 0 rfl) ?_
          refine zk_effVi (As := [.int (fCelM so lg h lane i n)]) (rest := []) (S := Unit) (fun r _ => r = (-10) - (fCelM so lg h lane i n)) (fun _ => wMo m0 m1 m2 m3 m4 m5 m6 m7 m8 m9 m10 m11 m12 m13 m14 m15 (fCelM so lg h lane i n) tm at1 rdb rrm rD rP mt M) ⟨hx, hb, hml, hown, hts⟩ hK hP hD hS hA [0] [1, 2, 3, 4, 5, 6, 7, 8] (wc := [(m0, .inr (5, [.int (nI 0), .int tm, .ref m1, .ref m2, .ref m3, .int M.db, .int M.rm, .int (nI M.D), .int (nI M.P), .ref m4, .ref m5, .ref m6, .ref m7, .int (nI at1), .int rdb, .int rrm, .int (nI rD), .int (nI rP), .ref m8, .ref m9, .ref m10, .ref m11, .ref m12, .int (nI mt), .ref m13, .ref m14, .ref m15]))]) (wr := [(m4, .inl (cI, 5, .inl M.hard)), (m5, .inl (cI, 4, .inl M.kind)), (m6, .inl (cI, 4, .inl M.wit)), (m7, .inl (cI, 4, .inl M.pat)), (m12, .inl (cI, 4, .inl M.pret)), (m1, .inl (cI, 4, .inl so)), (m2, .inl (cI, 4, .inl lg)), (m3, .inl (cI, 240, .inl mc))]) rfl rfl (by decide) (by decide) (by decide) [8, 0, 1, 2, 3, 4, 5, 6, 7] (fun (_ : Unit) => [(m0, .inr (5, [.int (fCelM so lg h lane i n), .int tm, .ref m1, .ref m2, .ref m3, .int M.db, .int M.rm, .int (nI M.D), .int (nI M.P), .ref m4, .ref m5, .ref m6, .ref m7, .int (nI at1), .int rdb, .int rrm, .int (nI rD), .int (nI rP), .ref m8, .ref m9, .ref m10, .ref m11, .ref m12, .int (nI mt), .ref m13, .ref m14, .ref m15])), (m4, .inl (cI, 5, .inl M.hard)), (m5, .inl (cI, 4, .inl M.kind)), (m6, .inl (cI, 4, .inl M.wit)), (m7, .inl (cI, 4, .inl M.pat)), (m12, .inl (cI, 4, .inl M.pret)), (m1, .inl (cI, 4, .inl so)), (m2, .inl (cI, 4, .inl lg)), (m3, .inl (cI, 240, .inl mc))]) (fun _ => rfl) (by decide) (m_fails l D cI H.size m0 m1 m2 m3 m4 m5 m6 m7 m8 m9 m10 m11 m12 m13 m14 m15 (nI 0) tm at1 rdb rrm rD rP mt M (fCelM so lg h lane i n) ) (cwV 1 hts gX5_plan_X5_fails rfl rfl rfl hdX5_fails ⟨Nat.le_of_ble_eq_true rfl, Nat.le_of_ble_eq_true rfl⟩) rfl rfl rfl hl.1 rfl (Nat.le_of_ble_eq_true rfl) dX5_plan_77 ⟨Nat.le_of_ble_eq_true rfl, Nat.le_of_ble_eq_true rfl⟩ (fun r_11 _ H locs hw_12 hP hD hS => ?_)
          have e_r_11 : r_11 = (-10) - (fCelM so lg h lane i n) := hw_12
          rw [e_r_11]
          have e_t : planM M mc so lg k lane i n w = ((-10) - (fCelM so lg h lane i n), (fCelM so lg h lane i n)) := by simp [planM, c_1, g_h, c_2, c_l, c_4]
          exact zk_retI hx hb hr hS (M.pret) (by rw [e_t]) (by rw [e_t]; exact hP) (by rw [e_t]; exact hD) dX5_plan_80 hlocks
      · refine lv_iload hx hb dX5_plan_31 (lv_at hl 5 rfl) ?_
        refine lv_bipush (v := nI 10) hx hb dX5_plan_33 (by decide) ?_
        refine lv_bipush (v := nI 13) hx hb dX5_plan_35 (by decide) ?_
        refine zk_callSi (As := [.int w, .int (nI 10), .int (nI 13)]) (rest := []) (bI (wiB w (nI 10) (nI 13))) ⟨hx, hb, hml, hown, hts⟩ hK hP [] rfl (m_within l D cI w (nI 10) (nI 13) ) (va_cwS 3 hts gX5_plan_X5_within rfl rfl rfl hdX5_within ⟨Nat.le_of_ble_eq_true rfl, Nat.le_of_ble_eq_true rfl⟩) rfl hl.1 rfl (Nat.le_of_ble_eq_true rfl) dX5_plan_37 ⟨Nat.le_of_ble_eq_true rfl, Nat.le_of_ble_eq_true rfl⟩ ?_
        refine zk_ifneB (tgt := 58) hx hb dX5_plan_40 (by decide) (fun c_13 => ?_) (fun c_13 => ?_)
        · have c_l : isPl w = true := by rw [isPl_w]; simp [c_3, c_13]
          refine lv_aload_n hx hb dX5_plan_58 rfl (lv_at hl 0 rfl) ?_
          refine lv_iload_n hx hb dX5_plan_59 rfl (lv_at hl 1 rfl) ?_
          refine lv_iload_n hx hb dX5_plan_60 rfl (lv_at hl 2 rfl) ?_
          refine lv_iload_n hx hb dX5_plan_61 rfl (lv_at hl 3 rfl) ?_
          refine lv_iload hx hb dX5_plan_62 (lv_at hl 4 rfl) ?_
          refine zk_callVi (As := [.int (nI h), .int lane, .int i, .int n]) (rest := []) (fCelM so lg h lane i n) ⟨hx, hb, hml, hown, hts⟩ hK hP [0, 6, 7, 8] rfl (m_against l D cI m0 m1 m2 m3 m4 m5 m6 m7 m8 m9 m10 m11 m12 m13 m14 m15 (nI 0) tm at1 rdb rrm rD rP mt M so lg mc h lane i n hh) (cwV 4 hts gX5_plan_X5_against rfl rfl rfl hdX5_against ⟨Nat.le_of_ble_eq_true rfl, Nat.le_of_ble_eq_true rfl⟩) rfl rfl rfl hl.1 rfl (Nat.le_of_ble_eq_true rfl) dX5_plan_64 ⟨Nat.le_of_ble_eq_true rfl, Nat.le_of_ble_eq_true rfl⟩ ?_
          refine lv_istore (lv' := [(6, .int (fCelM so lg h lane i n)), (0, .ref m0), (1, .int (nI h)), (2, .int lane), (3, .int i), (4, .int n), (5, .int w)]) hx hb dX5_plan_67 hl (by decide) rfl (fun ls hl => ?_)
          refine lv_iload hx hb dX5_plan_69 (lv_at hl 0 rfl) ?_
          refine lv_if_eq (tgt := 81) hx hb dX5_plan_71 (by decide) (fun c_14 => ?_) (fun c_14 => ?_)
          · refine lv_aload_n hx hb dX5_plan_81 rfl (lv_at hl 1 rfl) ?_
            refine va_get (D := D) (ci := 5) (v := .int (nI M.D)) (C := RX5) (T := TX5) (N := 27) hx hb hts inX5 hown hK.1 hP 0 rfl rfl 7 (by decide) f_68 (fun _ h9 => h9) rfl dX5_plan_82 ?_
            refine lv_if_ne (tgt := 91) hx hb dX5_plan_85 (by decide) (fun c_15 => ?_) (fun c_15 => ?_)
            · have c_s : 0 < M.P := by have := ne0N c_15; omega
              refine lv_iload hx hb dX5_plan_91 (lv_at hl 5 rfl) ?_
              refine lv_aload_n hx hb dX5_plan_93 rfl (lv_at hl 1 rfl) ?_
              refine va_get (D := D) (ci := 5) (v := .int (nI M.P)) (C := RX5) (T := TX5) (N := 27) hx hb hts inX5 hown hK.1 hP 0 rfl rfl 8 (by decide) f_65 (fun _ h9 => h9) rfl dX5_plan_94 ?_
              refine lv_icmp_eq (tgt := 103) hx hb dX5_plan_97 (by decide) (fun c_16 => ?_) (fun c_16 => ?_)
              · have h_f := fCelM_0 c_14
                obtain ⟨i1, hi1, e_i, g_i⟩ := plN_of hsz hh (m := M.P) (by omega) c_16 h_f.2.2
                rw [e_i, c_16] at hl
                have c_n : fCelM so lg h lane i (nI M.P) = 0 := by rw [← c_16]; exact c_14
                refine lv_iconst (v := nI 0) hx hb dX5_plan_103 (by decide) ?_
                refine lv_istore (lv' := [(7, .int (nI 0)), (6, .int (fCelM so lg h lane (nI i1) (nI M.P))), (0, .ref m0), (1, .int (nI h)), (2, .int lane), (3, .int (nI i1)), (4, .int (nI M.P)), (5, .int w)]) hx hb dX5_plan_104 hl (by decide) rfl (fun ls hl => ?_)
                have loop106 : ∀ (nL p : Nat), p ≤ M.P → M.P < p + nL → (∀ q, q < p → plB M (rowM mc h i1) q = true) → ∀ (H : Heap) (locs : List Loc), va_P D vwCl [(m0, .inr (5, [.int (nI 0), .int tm, .ref m1, .ref m2, .ref m3, .int M.db, .int M.rm, .int (nI M.D), .int (nI M.P), .ref m4, .ref m5, .ref m6, .ref m7, .int (nI at1), .int rdb, .int rrm, .int (nI rD), .int (nI rP), .ref m8, .ref m9, .ref m10, .ref m11, .ref m12, .int (nI mt), .ref m13, .ref m14, .ref m15])), (m4, .inl (cI, 5, .inl M.hard)), (m5, .inl (cI, 4, .inl M.kind)), (m6, .inl (cI, 4, .inl M.wit)), (m7, .inl (cI, 4, .inl M.pat)), (m12, .inl (cI, 4, .inl (tab p (rowM mc h i1) M.pret))), (m1, .inl (cI, 4, .inl so)), (m2, .inl (cI, 4, .inl lg)), (m3, .inl (cI, 240, .inl mc))] H → va_D A [(m0, .inr (5, [.int (nI 0), .int tm, .ref m1, .ref m2, .ref m3, .int M.db, .int M.rm, .int (nI M.D), .int (nI M.P), .ref m4, .ref m5, .ref m6, .ref m7, .int (nI at1), .int rdb, .int rrm, .int (nI rD), .int (nI rP), .ref m8, .ref m9, .ref m10, .ref m11, .ref m12, .int (nI mt), .ref m13, .ref m14, .ref m15])), (m4, .inl (cI, 5, .inl M.hard)), (m5, .inl (cI, 4, .inl M.kind)), (m6, .inl (cI, 4, .inl M.wit)), (m7, .inl (cI, 4, .inl M.pat)), (m12, .inl (cI, 4, .inl (tab p (rowM mc h i1) M.pret))), (m1, .inl (cI, 4, .inl so)), (m2, .inl (cI, 4, .inl lg)), (m3, .inl (cI, 240, .inl mc))] → va_S A sX.heap H locs → ∀ ls : Array Slot, lv_has ls 8 [(0, .ref m0), (1, .int (nI h)), (2, .int lane), (3, .int (nI i1)), (4, .int (nI M.P)), (5, .int w), (6, .int (fCelM so lg h lane (nI i1) (nI M.P))), (7, .int (nI p))] → W pX l eX ({ frames := 8, cells := 0, slots := 0, locals := 190 }) sX mX ([.ref m0, .int k, .int lane, .int i, .int n, .int w] : List Value).toArray bX tX cX H locs 0 0 (MQ bX (QI (S := Nat → Int32) D (fun r _ => r = (planM M mc so lg k lane i n w).1) (fun u => (wMo m0 m1 m2 m3 m4 m5 m6 m7 m8 m9 m10 m11 m12 m13 m14 m15 ((planM M mc so lg k lane i n w).2) tm at1 rdb rrm rD rP mt (M.sPret u) ++ wMa cI m4 m5 m6 m7 m12 (M.sPret u)) ++ wMs cI m1 m2 m3 so lg mc) A) ([.ref m0, .int k, .int lane, .int i, .int n, .int w] : List Value).toArray sX 0 0 A) (F0 mX 106 ls []) := by
                  intro nL
                  induction nL with
                  | zero => intro p  h1 h2; exact absurd h2 (by omega)
                  | succ nL ih =>
                    intro p  h_le h_n hall H locs hP hD hS ls hl
                    refine lv_iload hx hb dX5_plan_106 (lv_at hl 7 rfl) ?_
                    refine lv_iload hx hb dX5_plan_108 (lv_at hl 4 rfl) ?_
                    refine zk_icmp_ge (tgt := 165) hx hb dX5_plan_110 (by decide) (by omega) (by omega) (fun c_17 => ?_) (fun c_17 => ?_)
                    · have e_p : p = M.P := by omega
                      rw [e_p] at hP hD
                      have c_t : allB M.P (plB M (rowM mc h i1)) = true := allB_iff.mpr (fun q h9 => hall q (by omega))
                      refine lv_aload_n hx hb dX5_plan_165 rfl (lv_at hl 0 rfl) ?_
                      refine lv_iload hx hb dX5_plan_166 (lv_at hl 5 rfl) ?_
                      refine zk_effVi (As := [.int w]) (rest := []) (S := Unit) (fun r _ => r = ofPlF (M.sPret (tab M.P (rowM mc h i1) M.pret)) w) (fun _ => wMo m0 m1 m2 m3 m4 m5 m6 m7 m8 m9 m10 m11 m12 m13 m14 m15 (nI 0) tm at1 rdb rrm rD rP mt (M.sPret (tab M.P (rowM mc h i1) M.pret)) ++ wMa cI m4 m5 m6 m7 m12 (M.sPret (tab M.P (rowM mc h i1) M.pret))) ⟨hx, hb, hml, hown, hts⟩ hK hP hD hS hA [0, 1, 2, 3, 4, 5] [6, 7, 8] (wc := [(m0, .inr (5, [.int (nI 0), .int tm, .ref m1, .ref m2, .ref m3, .int M.db, .int M.rm, .int (nI M.D), .int (nI M.P), .ref m4, .ref m5, .ref m6, .ref m7, .int (nI at1), .int rdb, .int rrm, .int (nI rD), .int (nI rP), .ref m8, .ref m9, .ref m10, .ref m11, .ref m12, .int (nI mt), .ref m13, .ref m14, .ref m15])), (m4, .inl (cI, 5, .inl M.hard)), (m5, .inl (cI, 4, .inl M.kind)), (m6, .inl (cI, 4, .inl M.wit)), (m7, .inl (cI, 4, .inl M.pat)), (m12, .inl (cI, 4, .inl (tab M.P (rowM mc h i1) M.pret)))]) (wr := [(m1, .inl (cI, 4, .inl so)), (m2, .inl (cI, 4, .inl lg)), (m3, .inl (cI, 240, .inl mc))]) rfl rfl (by decide) (by decide) (by decide) [3, 4, 5, 6, 7, 8, 0, 1, 2] (fun (_ : Unit) => [(m0, .inr (5, [.int (nI 0), .int tm, .ref m1, .ref m2, .ref m3, .int ((M.sPret (tab M.P (rowM mc h i1) M.pret)).db), .int ((M.sPret (tab M.P (rowM mc h i1) M.pret)).rm), .int (nI ((M.sPret (tab M.P (rowM mc h i1) M.pret)).D)), .int (nI ((M.sPret (tab M.P (rowM mc h i1) M.pret)).P)), .ref m4, .ref m5, .ref m6, .ref m7, .int (nI at1), .int rdb, .int rrm, .int (nI rD), .int (nI rP), .ref m8, .ref m9, .ref m10, .ref m11, .ref m12, .int (nI mt), .ref m13, .ref m14, .ref m15])), (m4, .inl (cI, 5, .inl ((M.sPret (tab M.P (rowM mc h i1) M.pret)).hard))), (m5, .inl (cI, 4, .inl ((M.sPret (tab M.P (rowM mc h i1) M.pret)).kind))), (m6, .inl (cI, 4, .inl ((M.sPret (tab M.P (rowM mc h i1) M.pret)).wit))), (m7, .inl (cI, 4, .inl ((M.sPret (tab M.P (rowM mc h i1) M.pret)).pat))), (m12, .inl (cI, 4, .inl ((M.sPret (tab M.P (rowM mc h i1) M.pret)).pret))), (m1, .inl (cI, 4, .inl so)), (m2, .inl (cI, 4, .inl lg)), (m3, .inl (cI, 240, .inl mc))]) (fun _ => rfl) (by decide) (m_tellPlan l D cI H.size m0 m1 m2 m3 m4 m5 m6 m7 m8 m9 m10 m11 m12 m13 m14 m15 (nI 0) tm at1 rdb rrm rD rP mt (M.sPret (tab M.P (rowM mc h i1) M.pret)) w hg c_l) (cwV 1 hts gX5_plan_X5_tellPlan rfl rfl rfl hdX5_tellPlan ⟨Nat.le_of_ble_eq_true rfl, Nat.le_of_ble_eq_true rfl⟩) rfl rfl rfl hl.1 rfl (Nat.le_of_ble_eq_true rfl) dX5_plan_168 ⟨Nat.le_of_ble_eq_true rfl, Nat.le_of_ble_eq_true rfl⟩ (fun r_18 _ H locs hw_19 hP hD hS => ?_)
                      have e_r_18 : r_18 = ofPlF (M.sPret (tab M.P (rowM mc h i1) M.pret)) w := hw_19
                      rw [e_r_18]
                      have e_t : planM M mc so lg k lane i n w = (ofPlF (M.sPret (tab M.P (rowM mc h i1) M.pret)) w, (nI 0)) := by simp [planM, c_1, g_h, c_2, c_l, c_14, c_s, c_16, g_i, c_n, c_17, (Nat.not_lt.mpr c_17), c_t]
                      exact zk_retI hx hb hr hS ((M.sPret (tab M.P (rowM mc h i1) M.pret)).pret) (by rw [e_t]) (by rw [e_t]; exact hP) (by rw [e_t]; exact hD) dX5_plan_171 hlocks
                    · refine lv_aload_n hx hb dX5_plan_113 rfl (lv_at hl 0 rfl) ?_
                      refine va_get (D := D) (ci := 5) (v := .ref m12) (C := RX5) (T := TX5) (N := 27) hx hb hts inX5 hown hK.1 hP 0 rfl rfl 22 (by decide) f_43 (fun _ h9 => h9) rfl dX5_plan_114 ?_
                      refine lv_iload hx hb dX5_plan_117 (lv_at hl 7 rfl) ?_
                      refine lv_aload_n hx hb dX5_plan_119 rfl (lv_at hl 0 rfl) ?_
                      refine va_get (D := D) (ci := 5) (v := .ref m3) (C := RX5) (T := TX5) (N := 27) hx hb hts inX5 hown hK.1 hP 0 rfl rfl 4 (by decide) f_16 (fun _ h9 => h9) rfl dX5_plan_120 ?_
                      refine lv_bipush (v := nI 60) hx hb dX5_plan_123 (by decide) ?_
                      refine lv_iload_n hx hb dX5_plan_125 rfl (lv_at hl 1 rfl) ?_
                      refine zk_imulN hx hb dX5_plan_126 ?_
                      refine lv_iload_n hx hb dX5_plan_127 rfl (lv_at hl 3 rfl) ?_
                      refine zk_iaddN hx hb dX5_plan_128 ?_
                      refine lv_iload hx hb dX5_plan_129 (lv_at hl 7 rfl) ?_
                      refine zk_iaddN hx hb dX5_plan_131 ?_
                      refine zk_iald hx hb hK hP 8 rfl (by omega) (by decide) dX5_plan_132 ?_
                      refine zk_iast (x := mc (60 * h + i1 + p)) hx hb hK hP hD hS 5 rfl (by omega) (by decide) dX5_plan_133 (fun H locs hP hD hS => ?_)
                      have hP : va_P D vwCl [(m0, .inr (5, [.int (nI 0), .int tm, .ref m1, .ref m2, .ref m3, .int M.db, .int M.rm, .int (nI M.D), .int (nI M.P), .ref m4, .ref m5, .ref m6, .ref m7, .int (nI at1), .int rdb, .int rrm, .int (nI rD), .int (nI rP), .ref m8, .ref m9, .ref m10, .ref m11, .ref m12, .int (nI mt), .ref m13, .ref m14, .ref m15])), (m4, .inl (cI, 5, .inl M.hard)), (m5, .inl (cI, 4, .inl M.kind)), (m6, .inl (cI, 4, .inl M.wit)), (m7, .inl (cI, 4, .inl M.pat)), (m12, .inl (cI, 4, .inl (upd (tab p (rowM mc h i1) M.pret) p (mc (60 * h + i1 + p))))), (m1, .inl (cI, 4, .inl so)), (m2, .inl (cI, 4, .inl lg)), (m3, .inl (cI, 240, .inl mc))] H := hP
                      have hD : va_D A [(m0, .inr (5, [.int (nI 0), .int tm, .ref m1, .ref m2, .ref m3, .int M.db, .int M.rm, .int (nI M.D), .int (nI M.P), .ref m4, .ref m5, .ref m6, .ref m7, .int (nI at1), .int rdb, .int rrm, .int (nI rD), .int (nI rP), .ref m8, .ref m9, .ref m10, .ref m11, .ref m12, .int (nI mt), .ref m13, .ref m14, .ref m15])), (m4, .inl (cI, 5, .inl M.hard)), (m5, .inl (cI, 4, .inl M.kind)), (m6, .inl (cI, 4, .inl M.wit)), (m7, .inl (cI, 4, .inl M.pat)), (m12, .inl (cI, 4, .inl (upd (tab p (rowM mc h i1) M.pret) p (mc (60 * h + i1 + p))))), (m1, .inl (cI, 4, .inl so)), (m2, .inl (cI, 4, .inl lg)), (m3, .inl (cI, 240, .inl mc))] := hD
                      rw [show upd (tab p (rowM mc h i1) M.pret) p (mc (60 * h + i1 + p)) = tab (p + 1) (rowM mc h i1) M.pret from tab_s p (rowM mc h i1) _] at hP hD
                      have hP : va_P D vwCl [(m0, .inr (5, [.int (nI 0), .int tm, .ref m1, .ref m2, .ref m3, .int M.db, .int M.rm, .int (nI M.D), .int (nI M.P), .ref m4, .ref m5, .ref m6, .ref m7, .int (nI at1), .int rdb, .int rrm, .int (nI rD), .int (nI rP), .ref m8, .ref m9, .ref m10, .ref m11, .ref m12, .int (nI mt), .ref m13, .ref m14, .ref m15])), (m4, .inl (cI, 5, .inl M.hard)), (m5, .inl (cI, 4, .inl M.kind)), (m6, .inl (cI, 4, .inl M.wit)), (m7, .inl (cI, 4, .inl M.pat)), (m12, .inl (cI, 4, .inl (tab (p + 1) (rowM mc h i1) M.pret))), (m1, .inl (cI, 4, .inl so)), (m2, .inl (cI, 4, .inl lg)), (m3, .inl (cI, 240, .inl mc))] H := hP
                      have hD : va_D A [(m0, .inr (5, [.int (nI 0), .int tm, .ref m1, .ref m2, .ref m3, .int M.db, .int M.rm, .int (nI M.D), .int (nI M.P), .ref m4, .ref m5, .ref m6, .ref m7, .int (nI at1), .int rdb, .int rrm, .int (nI rD), .int (nI rP), .ref m8, .ref m9, .ref m10, .ref m11, .ref m12, .int (nI mt), .ref m13, .ref m14, .ref m15])), (m4, .inl (cI, 5, .inl M.hard)), (m5, .inl (cI, 4, .inl M.kind)), (m6, .inl (cI, 4, .inl M.wit)), (m7, .inl (cI, 4, .inl M.pat)), (m12, .inl (cI, 4, .inl (tab (p + 1) (rowM mc h i1) M.pret))), (m1, .inl (cI, 4, .inl so)), (m2, .inl (cI, 4, .inl lg)), (m3, .inl (cI, 240, .inl mc))] := hD
                      refine lv_aload_n hx hb dX5_plan_134 rfl (lv_at hl 0 rfl) ?_
                      refine va_get (D := D) (ci := 5) (v := .ref m12) (C := RX5) (T := TX5) (N := 27) hx hb hts inX5 hown hK.1 hP 0 rfl rfl 22 (by decide) f_43 (fun _ h9 => h9) rfl dX5_plan_135 ?_
                      refine lv_iload hx hb dX5_plan_138 (lv_at hl 7 rfl) ?_
                      refine zk_iald hx hb hK hP 5 rfl (by omega) (by decide) dX5_plan_140 ?_
                      refine zk_top (y := (rowM mc h i1) p) (tab_lt (by omega) _ _) ?_
                      refine lv_iconst (v := nI 0) hx hb dX5_plan_141 (by decide) ?_
                      refine lv_iconst (v := nI 1) hx hb dX5_plan_142 (by decide) ?_
                      refine lv_aload_n hx hb dX5_plan_143 rfl (lv_at hl 0 rfl) ?_
                      refine va_get (D := D) (ci := 5) (v := .int (nI M.D)) (C := RX5) (T := TX5) (N := 27) hx hb hts inX5 hown hK.1 hP 0 rfl rfl 7 (by decide) f_68 (fun _ h9 => h9) rfl dX5_plan_144 ?_
                      refine lv_ishl hx hb dX5_plan_147 ?_
                      refine lv_iconst (v := nI 1) hx hb dX5_plan_148 (by decide) ?_
                      refine lv_isub hx hb dX5_plan_149 ?_
                      refine zk_top (y := nI (aD M.D)) (aD_eq _ hD5) ?_
                      refine zk_callSi (As := [.int ((rowM mc h i1) p), .int (nI 0), .int (nI (aD M.D))]) (rest := []) (bI (wiB ((rowM mc h i1) p) (nI 0) (nI (aD M.D)))) ⟨hx, hb, hml, hown, hts⟩ hK hP [] rfl (m_within l D cI ((rowM mc h i1) p) (nI 0) (nI (aD M.D)) ) (va_cwS 3 hts gX5_plan_X5_within rfl rfl rfl hdX5_within ⟨Nat.le_of_ble_eq_true rfl, Nat.le_of_ble_eq_true rfl⟩) rfl hl.1 rfl (Nat.le_of_ble_eq_true rfl) dX5_plan_150 ⟨Nat.le_of_ble_eq_true rfl, Nat.le_of_ble_eq_true rfl⟩ ?_
                      refine zk_ifneB (tgt := 159) hx hb dX5_plan_153 (by decide) (fun c_20 => ?_) (fun c_20 => ?_)
                      · refine lv_iinc (v := nI (p + 1)) (lv' := [(7, .int (nI (p + 1))), (0, .ref m0), (1, .int (nI h)), (2, .int lane), (3, .int (nI i1)), (4, .int (nI M.P)), (5, .int w), (6, .int (fCelM so lg h lane (nI i1) (nI M.P)))]) hx hb dX5_plan_159 hl (k := 7) rfl (by rw [show (Int32.ofInt 1) = nI 1 from by decide, nI_add]) (by decide) rfl (fun ls hl => ?_)
                        refine lv_goto (tgt := 106) hx hb dX5_plan_162 (by decide) ?_
                        exact ih (p + 1)  (by omega) (by omega) (fun q h9 => by by_cases e : q = p; { subst e; unfold plB; rw [← wiB0]; exact c_20 }; { exact hall q (by omega) }) _ _ hP hD hS ls (lv_sub hl [1, 2, 3, 4, 5, 6, 7, 0] rfl)
                      · have c_f : allB M.P (plB M (rowM mc h i1)) = false := allB_f (k := p) (by omega) (by unfold plB; rw [← wiB0]; exact c_20)
                        refine lv_bipush (v := (-2)) hx hb dX5_plan_156 (by decide) ?_
                        have e_t : planM M mc so lg k lane i n w = ((-2), nI 0) := by simp [planM, c_1, g_h, c_2, c_l, c_14, c_s, c_16, g_i, c_n, c_17, (Nat.not_le.mpr c_17), c_f]
                        exact zk_retI hx hb hr hS (tab (p + 1) (rowM mc h i1) M.pret) (by rw [e_t]) (by rw [e_t]; exact hP) (by rw [e_t]; exact hD) dX5_plan_158 hlocks
                rw [← tab_0 (rowM mc h i1) M.pret] at hP hD
                exact loop106 (M.P + 1) 0  (by omega) (by omega) (fun q h9 => by omega) _ _ hP hD hS ls (lv_sub hl [2, 3, 4, 5, 6, 7, 1, 0] rfl)
              · refine lv_bipush (v := (-2)) hx hb dX5_plan_100 (by decide) ?_
                have e_t : planM M mc so lg k lane i n w = ((-2), nI 0) := by simp [planM, c_1, g_h, c_2, c_l, c_14, c_s, c_16]
                exact zk_retI hx hb hr hS (M.pret) (by rw [e_t]) (by rw [e_t]; exact hP) (by rw [e_t]; exact hD) dX5_plan_102 hlocks
            · have c_s : ¬ 0 < M.P := by have := hDP.mp (eq0N (by omega) c_15); omega
              refine lv_bipush (v := (-3)) hx hb dX5_plan_88 (by decide) ?_
              have e_t : planM M mc so lg k lane i n w = ((-3), nI 0) := by simp [planM, c_1, g_h, c_2, c_l, c_14, c_s]
              exact zk_retI hx hb hr hS (M.pret) (by rw [e_t]) (by rw [e_t]; exact hP) (by rw [e_t]; exact hD) dX5_plan_90 hlocks
          · refine lv_aload_n hx hb dX5_plan_74 rfl (lv_at hl 1 rfl) ?_
            refine lv_iload hx hb dX5_plan_75 (lv_at hl 0 rfl) ?_
            refine zk_effVi (As := [.int (fCelM so lg h lane i n)]) (rest := []) (S := Unit) (fun r _ => r = (-10) - (fCelM so lg h lane i n)) (fun _ => wMo m0 m1 m2 m3 m4 m5 m6 m7 m8 m9 m10 m11 m12 m13 m14 m15 (fCelM so lg h lane i n) tm at1 rdb rrm rD rP mt M) ⟨hx, hb, hml, hown, hts⟩ hK hP hD hS hA [0] [1, 2, 3, 4, 5, 6, 7, 8] (wc := [(m0, .inr (5, [.int (nI 0), .int tm, .ref m1, .ref m2, .ref m3, .int M.db, .int M.rm, .int (nI M.D), .int (nI M.P), .ref m4, .ref m5, .ref m6, .ref m7, .int (nI at1), .int rdb, .int rrm, .int (nI rD), .int (nI rP), .ref m8, .ref m9, .ref m10, .ref m11, .ref m12, .int (nI mt), .ref m13, .ref m14, .ref m15]))]) (wr := [(m4, .inl (cI, 5, .inl M.hard)), (m5, .inl (cI, 4, .inl M.kind)), (m6, .inl (cI, 4, .inl M.wit)), (m7, .inl (cI, 4, .inl M.pat)), (m12, .inl (cI, 4, .inl M.pret)), (m1, .inl (cI, 4, .inl so)), (m2, .inl (cI, 4, .inl lg)), (m3, .inl (cI, 240, .inl mc))]) rfl rfl (by decide) (by decide) (by decide) [8, 0, 1, 2, 3, 4, 5, 6, 7] (fun (_ : Unit) => [(m0, .inr (5, [.int (fCelM so lg h lane i n), .int tm, .ref m1, .ref m2, .ref m3, .int M.db, .int M.rm, .int (nI M.D), .int (nI M.P), .ref m4, .ref m5, .ref m6, .ref m7, .int (nI at1), .int rdb, .int rrm, .int (nI rD), .int (nI rP), .ref m8, .ref m9, .ref m10, .ref m11, .ref m12, .int (nI mt), .ref m13, .ref m14, .ref m15])), (m4, .inl (cI, 5, .inl M.hard)), (m5, .inl (cI, 4, .inl M.kind)), (m6, .inl (cI, 4, .inl M.wit)), (m7, .inl (cI, 4, .inl M.pat)), (m12, .inl (cI, 4, .inl M.pret)), (m1, .inl (cI, 4, .inl so)), (m2, .inl (cI, 4, .inl lg)), (m3, .inl (cI, 240, .inl mc))]) (fun _ => rfl) (by decide) (m_fails l D cI H.size m0 m1 m2 m3 m4 m5 m6 m7 m8 m9 m10 m11 m12 m13 m14 m15 (nI 0) tm at1 rdb rrm rD rP mt M (fCelM so lg h lane i n) ) (cwV 1 hts gX5_plan_X5_fails rfl rfl rfl hdX5_fails ⟨Nat.le_of_ble_eq_true rfl, Nat.le_of_ble_eq_true rfl⟩) rfl rfl rfl hl.1 rfl (Nat.le_of_ble_eq_true rfl) dX5_plan_77 ⟨Nat.le_of_ble_eq_true rfl, Nat.le_of_ble_eq_true rfl⟩ (fun r_21 _ H locs hw_22 hP hD hS => ?_)
            have e_r_21 : r_21 = (-10) - (fCelM so lg h lane i n) := hw_22
            rw [e_r_21]
            have e_t : planM M mc so lg k lane i n w = ((-10) - (fCelM so lg h lane i n), (fCelM so lg h lane i n)) := by simp [planM, c_1, g_h, c_2, c_l, c_14]
            exact zk_retI hx hb hr hS (M.pret) (by rw [e_t]) (by rw [e_t]; exact hP) (by rw [e_t]; exact hD) dX5_plan_80 hlocks
        · refine lv_iload hx hb dX5_plan_43 (lv_at hl 5 rfl) ?_
          refine lv_bipush (v := nI 20) hx hb dX5_plan_45 (by decide) ?_
          refine lv_bipush (v := nI 24) hx hb dX5_plan_47 (by decide) ?_
          refine zk_callSi (As := [.int w, .int (nI 20), .int (nI 24)]) (rest := []) (bI (wiB w (nI 20) (nI 24))) ⟨hx, hb, hml, hown, hts⟩ hK hP [] rfl (m_within l D cI w (nI 20) (nI 24) ) (va_cwS 3 hts gX5_plan_X5_within rfl rfl rfl hdX5_within ⟨Nat.le_of_ble_eq_true rfl, Nat.le_of_ble_eq_true rfl⟩) rfl hl.1 rfl (Nat.le_of_ble_eq_true rfl) dX5_plan_49 ⟨Nat.le_of_ble_eq_true rfl, Nat.le_of_ble_eq_true rfl⟩ ?_
          refine zk_ifneB (tgt := 58) hx hb dX5_plan_52 (by decide) (fun c_23 => ?_) (fun c_23 => ?_)
          · have c_l : isPl w = true := by rw [isPl_w]; simp [c_3, c_13, c_23]
            refine lv_aload_n hx hb dX5_plan_58 rfl (lv_at hl 0 rfl) ?_
            refine lv_iload_n hx hb dX5_plan_59 rfl (lv_at hl 1 rfl) ?_
            refine lv_iload_n hx hb dX5_plan_60 rfl (lv_at hl 2 rfl) ?_
            refine lv_iload_n hx hb dX5_plan_61 rfl (lv_at hl 3 rfl) ?_
            refine lv_iload hx hb dX5_plan_62 (lv_at hl 4 rfl) ?_
            refine zk_callVi (As := [.int (nI h), .int lane, .int i, .int n]) (rest := []) (fCelM so lg h lane i n) ⟨hx, hb, hml, hown, hts⟩ hK hP [0, 6, 7, 8] rfl (m_against l D cI m0 m1 m2 m3 m4 m5 m6 m7 m8 m9 m10 m11 m12 m13 m14 m15 (nI 0) tm at1 rdb rrm rD rP mt M so lg mc h lane i n hh) (cwV 4 hts gX5_plan_X5_against rfl rfl rfl hdX5_against ⟨Nat.le_of_ble_eq_true rfl, Nat.le_of_ble_eq_true rfl⟩) rfl rfl rfl hl.1 rfl (Nat.le_of_ble_eq_true rfl) dX5_plan_64 ⟨Nat.le_of_ble_eq_true rfl, Nat.le_of_ble_eq_true rfl⟩ ?_
            refine lv_istore (lv' := [(6, .int (fCelM so lg h lane i n)), (0, .ref m0), (1, .int (nI h)), (2, .int lane), (3, .int i), (4, .int n), (5, .int w)]) hx hb dX5_plan_67 hl (by decide) rfl (fun ls hl => ?_)
            refine lv_iload hx hb dX5_plan_69 (lv_at hl 0 rfl) ?_
            refine lv_if_eq (tgt := 81) hx hb dX5_plan_71 (by decide) (fun c_24 => ?_) (fun c_24 => ?_)
            · refine lv_aload_n hx hb dX5_plan_81 rfl (lv_at hl 1 rfl) ?_
              refine va_get (D := D) (ci := 5) (v := .int (nI M.D)) (C := RX5) (T := TX5) (N := 27) hx hb hts inX5 hown hK.1 hP 0 rfl rfl 7 (by decide) f_68 (fun _ h9 => h9) rfl dX5_plan_82 ?_
              refine lv_if_ne (tgt := 91) hx hb dX5_plan_85 (by decide) (fun c_25 => ?_) (fun c_25 => ?_)
              · have c_s : 0 < M.P := by have := ne0N c_25; omega
                refine lv_iload hx hb dX5_plan_91 (lv_at hl 5 rfl) ?_
                refine lv_aload_n hx hb dX5_plan_93 rfl (lv_at hl 1 rfl) ?_
                refine va_get (D := D) (ci := 5) (v := .int (nI M.P)) (C := RX5) (T := TX5) (N := 27) hx hb hts inX5 hown hK.1 hP 0 rfl rfl 8 (by decide) f_65 (fun _ h9 => h9) rfl dX5_plan_94 ?_
                refine lv_icmp_eq (tgt := 103) hx hb dX5_plan_97 (by decide) (fun c_26 => ?_) (fun c_26 => ?_)
                · have h_f := fCelM_0 c_24
                  obtain ⟨i1, hi1, e_i, g_i⟩ := plN_of hsz hh (m := M.P) (by omega) c_26 h_f.2.2
                  rw [e_i, c_26] at hl
                  have c_n : fCelM so lg h lane i (nI M.P) = 0 := by rw [← c_26]; exact c_24
                  refine lv_iconst (v := nI 0) hx hb dX5_plan_103 (by decide) ?_
                  refine lv_istore (lv' := [(7, .int (nI 0)), (6, .int (fCelM so lg h lane (nI i1) (nI M.P))), (0, .ref m0), (1, .int (nI h)), (2, .int lane), (3, .int (nI i1)), (4, .int (nI M.P)), (5, .int w)]) hx hb dX5_plan_104 hl (by decide) rfl (fun ls hl => ?_)
                  have loop106 : ∀ (nL p : Nat), p ≤ M.P → M.P < p + nL → (∀ q, q < p → plB M (rowM mc h i1) q = true) → ∀ (H : Heap) (locs : List Loc), va_P D vwCl [(m0, .inr (5, [.int (nI 0), .int tm, .ref m1, .ref m2, .ref m3, .int M.db, .int M.rm, .int (nI M.D), .int (nI M.P), .ref m4, .ref m5, .ref m6, .ref m7, .int (nI at1), .int rdb, .int rrm, .int (nI rD), .int (nI rP), .ref m8, .ref m9, .ref m10, .ref m11, .ref m12, .int (nI mt), .ref m13, .ref m14, .ref m15])), (m4, .inl (cI, 5, .inl M.hard)), (m5, .inl (cI, 4, .inl M.kind)), (m6, .inl (cI, 4, .inl M.wit)), (m7, .inl (cI, 4, .inl M.pat)), (m12, .inl (cI, 4, .inl (tab p (rowM mc h i1) M.pret))), (m1, .inl (cI, 4, .inl so)), (m2, .inl (cI, 4, .inl lg)), (m3, .inl (cI, 240, .inl mc))] H → va_D A [(m0, .inr (5, [.int (nI 0), .int tm, .ref m1, .ref m2, .ref m3, .int M.db, .int M.rm, .int (nI M.D), .int (nI M.P), .ref m4, .ref m5, .ref m6, .ref m7, .int (nI at1), .int rdb, .int rrm, .int (nI rD), .int (nI rP), .ref m8, .ref m9, .ref m10, .ref m11, .ref m12, .int (nI mt), .ref m13, .ref m14, .ref m15])), (m4, .inl (cI, 5, .inl M.hard)), (m5, .inl (cI, 4, .inl M.kind)), (m6, .inl (cI, 4, .inl M.wit)), (m7, .inl (cI, 4, .inl M.pat)), (m12, .inl (cI, 4, .inl (tab p (rowM mc h i1) M.pret))), (m1, .inl (cI, 4, .inl so)), (m2, .inl (cI, 4, .inl lg)), (m3, .inl (cI, 240, .inl mc))] → va_S A sX.heap H locs → ∀ ls : Array Slot, lv_has ls 8 [(0, .ref m0), (1, .int (nI h)), (2, .int lane), (3, .int (nI i1)), (4, .int (nI M.P)), (5, .int w), (6, .int (fCelM so lg h lane (nI i1) (nI M.P))), (7, .int (nI p))] → W pX l eX ({ frames := 8, cells := 0, slots := 0, locals := 190 }) sX mX ([.ref m0, .int k, .int lane, .int i, .int n, .int w] : List Value).toArray bX tX cX H locs 0 0 (MQ bX (QI (S := Nat → Int32) D (fun r _ => r = (planM M mc so lg k lane i n w).1) (fun u => (wMo m0 m1 m2 m3 m4 m5 m6 m7 m8 m9 m10 m11 m12 m13 m14 m15 ((planM M mc so lg k lane i n w).2) tm at1 rdb rrm rD rP mt (M.sPret u) ++ wMa cI m4 m5 m6 m7 m12 (M.sPret u)) ++ wMs cI m1 m2 m3 so lg mc) A) ([.ref m0, .int k, .int lane, .int i, .int n, .int w] : List Value).toArray sX 0 0 A) (F0 mX 106 ls []) := by
                    intro nL
                    induction nL with
                    | zero => intro p  h1 h2; exact absurd h2 (by omega)
                    | succ nL ih =>
                      intro p  h_le h_n hall H locs hP hD hS ls hl
                      refine lv_iload hx hb dX5_plan_106 (lv_at hl 7 rfl) ?_
                      refine lv_iload hx hb dX5_plan_108 (lv_at hl 4 rfl) ?_
                      refine zk_icmp_ge (tgt := 165) hx hb dX5_plan_110 (by decide) (by omega) (by omega) (fun c_27 => ?_) (fun c_27 => ?_)
                      · have e_p : p = M.P := by omega
                        rw [e_p] at hP hD
                        have c_t : allB M.P (plB M (rowM mc h i1)) = true := allB_iff.mpr (fun q h9 => hall q (by omega))
                        refine lv_aload_n hx hb dX5_plan_165 rfl (lv_at hl 0 rfl) ?_
                        refine lv_iload hx hb dX5_plan_166 (lv_at hl 5 rfl) ?_
                        refine zk_effVi (As := [.int w]) (rest := []) (S := Unit) (fun r _ => r = ofPlF (M.sPret (tab M.P (rowM mc h i1) M.pret)) w) (fun _ => wMo m0 m1 m2 m3 m4 m5 m6 m7 m8 m9 m10 m11 m12 m13 m14 m15 (nI 0) tm at1 rdb rrm rD rP mt (M.sPret (tab M.P (rowM mc h i1) M.pret)) ++ wMa cI m4 m5 m6 m7 m12 (M.sPret (tab M.P (rowM mc h i1) M.pret))) ⟨hx, hb, hml, hown, hts⟩ hK hP hD hS hA [0, 1, 2, 3, 4, 5] [6, 7, 8] (wc := [(m0, .inr (5, [.int (nI 0), .int tm, .ref m1, .ref m2, .ref m3, .int M.db, .int M.rm, .int (nI M.D), .int (nI M.P), .ref m4, .ref m5, .ref m6, .ref m7, .int (nI at1), .int rdb, .int rrm, .int (nI rD), .int (nI rP), .ref m8, .ref m9, .ref m10, .ref m11, .ref m12, .int (nI mt), .ref m13, .ref m14, .ref m15])), (m4, .inl (cI, 5, .inl M.hard)), (m5, .inl (cI, 4, .inl M.kind)), (m6, .inl (cI, 4, .inl M.wit)), (m7, .inl (cI, 4, .inl M.pat)), (m12, .inl (cI, 4, .inl (tab M.P (rowM mc h i1) M.pret)))]) (wr := [(m1, .inl (cI, 4, .inl so)), (m2, .inl (cI, 4, .inl lg)), (m3, .inl (cI, 240, .inl mc))]) rfl rfl (by decide) (by decide) (by decide) [3, 4, 5, 6, 7, 8, 0, 1, 2] (fun (_ : Unit) => [(m0, .inr (5, [.int (nI 0), .int tm, .ref m1, .ref m2, .ref m3, .int ((M.sPret (tab M.P (rowM mc h i1) M.pret)).db), .int ((M.sPret (tab M.P (rowM mc h i1) M.pret)).rm), .int (nI ((M.sPret (tab M.P (rowM mc h i1) M.pret)).D)), .int (nI ((M.sPret (tab M.P (rowM mc h i1) M.pret)).P)), .ref m4, .ref m5, .ref m6, .ref m7, .int (nI at1), .int rdb, .int rrm, .int (nI rD), .int (nI rP), .ref m8, .ref m9, .ref m10, .ref m11, .ref m12, .int (nI mt), .ref m13, .ref m14, .ref m15])), (m4, .inl (cI, 5, .inl ((M.sPret (tab M.P (rowM mc h i1) M.pret)).hard))), (m5, .inl (cI, 4, .inl ((M.sPret (tab M.P (rowM mc h i1) M.pret)).kind))), (m6, .inl (cI, 4, .inl ((M.sPret (tab M.P (rowM mc h i1) M.pret)).wit))), (m7, .inl (cI, 4, .inl ((M.sPret (tab M.P (rowM mc h i1) M.pret)).pat))), (m12, .inl (cI, 4, .inl ((M.sPret (tab M.P (rowM mc h i1) M.pret)).pret))), (m1, .inl (cI, 4, .inl so)), (m2, .inl (cI, 4, .inl lg)), (m3, .inl (cI, 240, .inl mc))]) (fun _ => rfl) (by decide) (m_tellPlan l D cI H.size m0 m1 m2 m3 m4 m5 m6 m7 m8 m9 m10 m11 m12 m13 m14 m15 (nI 0) tm at1 rdb rrm rD rP mt (M.sPret (tab M.P (rowM mc h i1) M.pret)) w hg c_l) (cwV 1 hts gX5_plan_X5_tellPlan rfl rfl rfl hdX5_tellPlan ⟨Nat.le_of_ble_eq_true rfl, Nat.le_of_ble_eq_true rfl⟩) rfl rfl rfl hl.1 rfl (Nat.le_of_ble_eq_true rfl) dX5_plan_168 ⟨Nat.le_of_ble_eq_true rfl, Nat.le_of_ble_eq_true rfl⟩ (fun r_28 _ H locs hw_29 hP hD hS => ?_)
                        have e_r_28 : r_28 = ofPlF (M.sPret (tab M.P (rowM mc h i1) M.pret)) w := hw_29
                        rw [e_r_28]
                        have e_t : planM M mc so lg k lane i n w = (ofPlF (M.sPret (tab M.P (rowM mc h i1) M.pret)) w, (nI 0)) := by simp [planM, c_1, g_h, c_2, c_l, c_24, c_s, c_26, g_i, c_n, c_27, (Nat.not_lt.mpr c_27), c_t]
                        exact zk_retI hx hb hr hS ((M.sPret (tab M.P (rowM mc h i1) M.pret)).pret) (by rw [e_t]) (by rw [e_t]; exact hP) (by rw [e_t]; exact hD) dX5_plan_171 hlocks
                      · refine lv_aload_n hx hb dX5_plan_113 rfl (lv_at hl 0 rfl) ?_
                        refine va_get (D := D) (ci := 5) (v := .ref m12) (C := RX5) (T := TX5) (N := 27) hx hb hts inX5 hown hK.1 hP 0 rfl rfl 22 (by decide) f_43 (fun _ h9 => h9) rfl dX5_plan_114 ?_
                        refine lv_iload hx hb dX5_plan_117 (lv_at hl 7 rfl) ?_
                        refine lv_aload_n hx hb dX5_plan_119 rfl (lv_at hl 0 rfl) ?_
                        refine va_get (D := D) (ci := 5) (v := .ref m3) (C := RX5) (T := TX5) (N := 27) hx hb hts inX5 hown hK.1 hP 0 rfl rfl 4 (by decide) f_16 (fun _ h9 => h9) rfl dX5_plan_120 ?_
                        refine lv_bipush (v := nI 60) hx hb dX5_plan_123 (by decide) ?_
                        refine lv_iload_n hx hb dX5_plan_125 rfl (lv_at hl 1 rfl) ?_
                        refine zk_imulN hx hb dX5_plan_126 ?_
                        refine lv_iload_n hx hb dX5_plan_127 rfl (lv_at hl 3 rfl) ?_
                        refine zk_iaddN hx hb dX5_plan_128 ?_
                        refine lv_iload hx hb dX5_plan_129 (lv_at hl 7 rfl) ?_
                        refine zk_iaddN hx hb dX5_plan_131 ?_
                        refine zk_iald hx hb hK hP 8 rfl (by omega) (by decide) dX5_plan_132 ?_
                        refine zk_iast (x := mc (60 * h + i1 + p)) hx hb hK hP hD hS 5 rfl (by omega) (by decide) dX5_plan_133 (fun H locs hP hD hS => ?_)
                        have hP : va_P D vwCl [(m0, .inr (5, [.int (nI 0), .int tm, .ref m1, .ref m2, .ref m3, .int M.db, .int M.rm, .int (nI M.D), .int (nI M.P), .ref m4, .ref m5, .ref m6, .ref m7, .int (nI at1), .int rdb, .int rrm, .int (nI rD), .int (nI rP), .ref m8, .ref m9, .ref m10, .ref m11, .ref m12, .int (nI mt), .ref m13, .ref m14, .ref m15])), (m4, .inl (cI, 5, .inl M.hard)), (m5, .inl (cI, 4, .inl M.kind)), (m6, .inl (cI, 4, .inl M.wit)), (m7, .inl (cI, 4, .inl M.pat)), (m12, .inl (cI, 4, .inl (upd (tab p (rowM mc h i1) M.pret) p (mc (60 * h + i1 + p))))), (m1, .inl (cI, 4, .inl so)), (m2, .inl (cI, 4, .inl lg)), (m3, .inl (cI, 240, .inl mc))] H := hP
                        have hD : va_D A [(m0, .inr (5, [.int (nI 0), .int tm, .ref m1, .ref m2, .ref m3, .int M.db, .int M.rm, .int (nI M.D), .int (nI M.P), .ref m4, .ref m5, .ref m6, .ref m7, .int (nI at1), .int rdb, .int rrm, .int (nI rD), .int (nI rP), .ref m8, .ref m9, .ref m10, .ref m11, .ref m12, .int (nI mt), .ref m13, .ref m14, .ref m15])), (m4, .inl (cI, 5, .inl M.hard)), (m5, .inl (cI, 4, .inl M.kind)), (m6, .inl (cI, 4, .inl M.wit)), (m7, .inl (cI, 4, .inl M.pat)), (m12, .inl (cI, 4, .inl (upd (tab p (rowM mc h i1) M.pret) p (mc (60 * h + i1 + p))))), (m1, .inl (cI, 4, .inl so)), (m2, .inl (cI, 4, .inl lg)), (m3, .inl (cI, 240, .inl mc))] := hD
                        rw [show upd (tab p (rowM mc h i1) M.pret) p (mc (60 * h + i1 + p)) = tab (p + 1) (rowM mc h i1) M.pret from tab_s p (rowM mc h i1) _] at hP hD
                        have hP : va_P D vwCl [(m0, .inr (5, [.int (nI 0), .int tm, .ref m1, .ref m2, .ref m3, .int M.db, .int M.rm, .int (nI M.D), .int (nI M.P), .ref m4, .ref m5, .ref m6, .ref m7, .int (nI at1), .int rdb, .int rrm, .int (nI rD), .int (nI rP), .ref m8, .ref m9, .ref m10, .ref m11, .ref m12, .int (nI mt), .ref m13, .ref m14, .ref m15])), (m4, .inl (cI, 5, .inl M.hard)), (m5, .inl (cI, 4, .inl M.kind)), (m6, .inl (cI, 4, .inl M.wit)), (m7, .inl (cI, 4, .inl M.pat)), (m12, .inl (cI, 4, .inl (tab (p + 1) (rowM mc h i1) M.pret))), (m1, .inl (cI, 4, .inl so)), (m2, .inl (cI, 4, .inl lg)), (m3, .inl (cI, 240, .inl mc))] H := hP
                        have hD : va_D A [(m0, .inr (5, [.int (nI 0), .int tm, .ref m1, .ref m2, .ref m3, .int M.db, .int M.rm, .int (nI M.D), .int (nI M.P), .ref m4, .ref m5, .ref m6, .ref m7, .int (nI at1), .int rdb, .int rrm, .int (nI rD), .int (nI rP), .ref m8, .ref m9, .ref m10, .ref m11, .ref m12, .int (nI mt), .ref m13, .ref m14, .ref m15])), (m4, .inl (cI, 5, .inl M.hard)), (m5, .inl (cI, 4, .inl M.kind)), (m6, .inl (cI, 4, .inl M.wit)), (m7, .inl (cI, 4, .inl M.pat)), (m12, .inl (cI, 4, .inl (tab (p + 1) (rowM mc h i1) M.pret))), (m1, .inl (cI, 4, .inl so)), (m2, .inl (cI, 4, .inl lg)), (m3, .inl (cI, 240, .inl mc))] := hD
                        refine lv_aload_n hx hb dX5_plan_134 rfl (lv_at hl 0 rfl) ?_
                        refine va_get (D := D) (ci := 5) (v := .ref m12) (C := RX5) (T := TX5) (N := 27) hx hb hts inX5 hown hK.1 hP 0 rfl rfl 22 (by decide) f_43 (fun _ h9 => h9) rfl dX5_plan_135 ?_
                        refine lv_iload hx hb dX5_plan_138 (lv_at hl 7 rfl) ?_
                        refine zk_iald hx hb hK hP 5 rfl (by omega) (by decide) dX5_plan_140 ?_
                        refine zk_top (y := (rowM mc h i1) p) (tab_lt (by omega) _ _) ?_
                        refine lv_iconst (v := nI 0) hx hb dX5_plan_141 (by decide) ?_
                        refine lv_iconst (v := nI 1) hx hb dX5_plan_142 (by decide) ?_
                        refine lv_aload_n hx hb dX5_plan_143 rfl (lv_at hl 0 rfl) ?_
                        refine va_get (D := D) (ci := 5) (v := .int (nI M.D)) (C := RX5) (T := TX5) (N := 27) hx hb hts inX5 hown hK.1 hP 0 rfl rfl 7 (by decide) f_68 (fun _ h9 => h9) rfl dX5_plan_144 ?_
                        refine lv_ishl hx hb dX5_plan_147 ?_
                        refine lv_iconst (v := nI 1) hx hb dX5_plan_148 (by decide) ?_
                        refine lv_isub hx hb dX5_plan_149 ?_
                        refine zk_top (y := nI (aD M.D)) (aD_eq _ hD5) ?_
                        refine zk_callSi (As := [.int ((rowM mc h i1) p), .int (nI 0), .int (nI (aD M.D))]) (rest := []) (bI (wiB ((rowM mc h i1) p) (nI 0) (nI (aD M.D)))) ⟨hx, hb, hml, hown, hts⟩ hK hP [] rfl (m_within l D cI ((rowM mc h i1) p) (nI 0) (nI (aD M.D)) ) (va_cwS 3 hts gX5_plan_X5_within rfl rfl rfl hdX5_within ⟨Nat.le_of_ble_eq_true rfl, Nat.le_of_ble_eq_true rfl⟩) rfl hl.1 rfl (Nat.le_of_ble_eq_true rfl) dX5_plan_150 ⟨Nat.le_of_ble_eq_true rfl, Nat.le_of_ble_eq_true rfl⟩ ?_
                        refine zk_ifneB (tgt := 159) hx hb dX5_plan_153 (by decide) (fun c_30 => ?_) (fun c_30 => ?_)
                        · refine lv_iinc (v := nI (p + 1)) (lv' := [(7, .int (nI (p + 1))), (0, .ref m0), (1, .int (nI h)), (2, .int lane), (3, .int (nI i1)), (4, .int (nI M.P)), (5, .int w), (6, .int (fCelM so lg h lane (nI i1) (nI M.P)))]) hx hb dX5_plan_159 hl (k := 7) rfl (by rw [show (Int32.ofInt 1) = nI 1 from by decide, nI_add]) (by decide) rfl (fun ls hl => ?_)
                          refine lv_goto (tgt := 106) hx hb dX5_plan_162 (by decide) ?_
                          exact ih (p + 1)  (by omega) (by omega) (fun q h9 => by by_cases e : q = p; { subst e; unfold plB; rw [← wiB0]; exact c_30 }; { exact hall q (by omega) }) _ _ hP hD hS ls (lv_sub hl [1, 2, 3, 4, 5, 6, 7, 0] rfl)
                        · have c_f : allB M.P (plB M (rowM mc h i1)) = false := allB_f (k := p) (by omega) (by unfold plB; rw [← wiB0]; exact c_30)
                          refine lv_bipush (v := (-2)) hx hb dX5_plan_156 (by decide) ?_
                          have e_t : planM M mc so lg k lane i n w = ((-2), nI 0) := by simp [planM, c_1, g_h, c_2, c_l, c_24, c_s, c_26, g_i, c_n, c_27, (Nat.not_le.mpr c_27), c_f]
                          exact zk_retI hx hb hr hS (tab (p + 1) (rowM mc h i1) M.pret) (by rw [e_t]) (by rw [e_t]; exact hP) (by rw [e_t]; exact hD) dX5_plan_158 hlocks
                  rw [← tab_0 (rowM mc h i1) M.pret] at hP hD
                  exact loop106 (M.P + 1) 0  (by omega) (by omega) (fun q h9 => by omega) _ _ hP hD hS ls (lv_sub hl [2, 3, 4, 5, 6, 7, 1, 0] rfl)
                · refine lv_bipush (v := (-2)) hx hb dX5_plan_100 (by decide) ?_
                  have e_t : planM M mc so lg k lane i n w = ((-2), nI 0) := by simp [planM, c_1, g_h, c_2, c_l, c_24, c_s, c_26]
                  exact zk_retI hx hb hr hS (M.pret) (by rw [e_t]) (by rw [e_t]; exact hP) (by rw [e_t]; exact hD) dX5_plan_102 hlocks
              · have c_s : ¬ 0 < M.P := by have := hDP.mp (eq0N (by omega) c_25); omega
                refine lv_bipush (v := (-3)) hx hb dX5_plan_88 (by decide) ?_
                have e_t : planM M mc so lg k lane i n w = ((-3), nI 0) := by simp [planM, c_1, g_h, c_2, c_l, c_24, c_s]
                exact zk_retI hx hb hr hS (M.pret) (by rw [e_t]) (by rw [e_t]; exact hP) (by rw [e_t]; exact hD) dX5_plan_90 hlocks
            · refine lv_aload_n hx hb dX5_plan_74 rfl (lv_at hl 1 rfl) ?_
              refine lv_iload hx hb dX5_plan_75 (lv_at hl 0 rfl) ?_
              refine zk_effVi (As := [.int (fCelM so lg h lane i n)]) (rest := []) (S := Unit) (fun r _ => r = (-10) - (fCelM so lg h lane i n)) (fun _ => wMo m0 m1 m2 m3 m4 m5 m6 m7 m8 m9 m10 m11 m12 m13 m14 m15 (fCelM so lg h lane i n) tm at1 rdb rrm rD rP mt M) ⟨hx, hb, hml, hown, hts⟩ hK hP hD hS hA [0] [1, 2, 3, 4, 5, 6, 7, 8] (wc := [(m0, .inr (5, [.int (nI 0), .int tm, .ref m1, .ref m2, .ref m3, .int M.db, .int M.rm, .int (nI M.D), .int (nI M.P), .ref m4, .ref m5, .ref m6, .ref m7, .int (nI at1), .int rdb, .int rrm, .int (nI rD), .int (nI rP), .ref m8, .ref m9, .ref m10, .ref m11, .ref m12, .int (nI mt), .ref m13, .ref m14, .ref m15]))]) (wr := [(m4, .inl (cI, 5, .inl M.hard)), (m5, .inl (cI, 4, .inl M.kind)), (m6, .inl (cI, 4, .inl M.wit)), (m7, .inl (cI, 4, .inl M.pat)), (m12, .inl (cI, 4, .inl M.pret)), (m1, .inl (cI, 4, .inl so)), (m2, .inl (cI, 4, .inl lg)), (m3, .inl (cI, 240, .inl mc))]) rfl rfl (by decide) (by decide) (by decide) [8, 0, 1, 2, 3, 4, 5, 6, 7] (fun (_ : Unit) => [(m0, .inr (5, [.int (fCelM so lg h lane i n), .int tm, .ref m1, .ref m2, .ref m3, .int M.db, .int M.rm, .int (nI M.D), .int (nI M.P), .ref m4, .ref m5, .ref m6, .ref m7, .int (nI at1), .int rdb, .int rrm, .int (nI rD), .int (nI rP), .ref m8, .ref m9, .ref m10, .ref m11, .ref m12, .int (nI mt), .ref m13, .ref m14, .ref m15])), (m4, .inl (cI, 5, .inl M.hard)), (m5, .inl (cI, 4, .inl M.kind)), (m6, .inl (cI, 4, .inl M.wit)), (m7, .inl (cI, 4, .inl M.pat)), (m12, .inl (cI, 4, .inl M.pret)), (m1, .inl (cI, 4, .inl so)), (m2, .inl (cI, 4, .inl lg)), (m3, .inl (cI, 240, .inl mc))]) (fun _ => rfl) (by decide) (m_fails l D cI H.size m0 m1 m2 m3 m4 m5 m6 m7 m8 m9 m10 m11 m12 m13 m14 m15 (nI 0) tm at1 rdb rrm rD rP mt M (fCelM so lg h lane i n) ) (cwV 1 hts gX5_plan_X5_fails rfl rfl rfl hdX5_fails ⟨Nat.le_of_ble_eq_true rfl, Nat.le_of_ble_eq_true rfl⟩) rfl rfl rfl hl.1 rfl (Nat.le_of_ble_eq_true rfl) dX5_plan_77 ⟨Nat.le_of_ble_eq_true rfl, Nat.le_of_ble_eq_true rfl⟩ (fun r_31 _ H locs hw_32 hP hD hS => ?_)
              have e_r_31 : r_31 = (-10) - (fCelM so lg h lane i n) := hw_32
              rw [e_r_31]
              have e_t : planM M mc so lg k lane i n w = ((-10) - (fCelM so lg h lane i n), (fCelM so lg h lane i n)) := by simp [planM, c_1, g_h, c_2, c_l, c_24]
              exact zk_retI hx hb hr hS (M.pret) (by rw [e_t]) (by rw [e_t]; exact hP) (by rw [e_t]; exact hD) dX5_plan_80 hlocks
          · have c_l : isPl w = false := by rw [isPl_w]; simp [c_3, c_13, c_23]
            refine lv_bipush (v := (-2)) hx hb dX5_plan_55 (by decide) ?_
            have e_t : planM M mc so lg k lane i n w = ((-2), nI 0) := by simp [planM, c_1, g_h, c_2, c_l]
            exact zk_retI hx hb hr hS (M.pret) (by rw [e_t]) (by rw [e_t]; exact hP) (by rw [e_t]; exact hD) dX5_plan_57 hlocks
  · refine lv_iconst (v := (-1)) hx hb dX5_plan_12 (by decide) ?_
    have e_t : planM M mc so lg k lane i n w = ((-1), nI 0) := by simp [planM, c_1]
    exact zk_retI hx hb hr hS (M.pret) (by rw [e_t]) (by rw [e_t]; exact hP) (by rw [e_t]; exact hD) dX5_plan_13 hlocks
