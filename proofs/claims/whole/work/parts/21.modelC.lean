theorem lgc0 {b : Nat} (hb : b < 1000) : lg_cmp (lN b) 0 = 0 ↔ b = 0 := by
  have h1 : (0 : Int64) = lN 0 := by decide
  rw [h1]
  constructor
  · intro h
    rcases Nat.eq_zero_or_pos b with q | q
    · exact q
    · have h2 : lN 0 < lN b := (lN_lt (by omega) (by omega)).mpr q
      have h3 : lg_cmp (lN b) (lN 0) = 1 := by simp [lg_cmp, h2]
      rw [h3] at h
      exact absurd h (by decide)
  · intro h
    subst h
    decide
theorem lgcs (x : Int64) : lg_cmp x x = 0 := by
  have h : ¬ x < x := Int64.lt_irrefl
  simp [lg_cmp, h]
def leastF (u d : Nat) (w : Int32) : Int64 := if w = 0 then lN (u / Nat.gcd d u) else lN (d / Nat.gcd d u)
theorem lshl2 : ∀ n, n ≤ 4 → (1 : Int64) <<< ((nI n).toInt64 &&& 63) = lN (2 ^ n) := by decide +kernel
def hasM (so : Nat → Int32) (k : Nat) : Bool := decide (¬ so k = (-9))
def fRowM (so : Nat → Int32) (k : Nat) (lane : Int32) : Int32 := if hasM so k then (if so k = lane then nI 0 else nI 2) else nI 1
def fCelM (so lg : Nat → Int32) (k : Nat) (lane i n : Int32) : Int32 := if fRowM so k lane = 0 then (if 0 ≤ n then (if plN i n (lg k) then nI 0 else nI 3) else nI 4) else fRowM so k lane
theorem fRowM_0 {ln : Nat → Int32} {k : Nat} {lane : Int32} (h : fRowM ln k lane = 0) : hasM ln k = true ∧ ln k = lane := by
  unfold fRowM at h
  split at h
  · rename_i h1
    split at h
    · rename_i h2; exact ⟨h1, h2⟩
    · exact absurd h (by decide)
  · exact absurd h (by decide)
theorem fCelM_0 {ln sz0 : Nat → Int32} {k : Nat} {lane i n : Int32} (h : fCelM ln sz0 k lane i n = 0) : fRowM ln k lane = 0 ∧ 0 ≤ n ∧ plN i n (sz0 k) = true := by
  unfold fCelM at h
  split at h
  · rename_i h1
    split at h
    · rename_i h2
      split at h
      · rename_i h3; exact ⟨h1, h2, h3⟩
      · exact absurd h (by decide)
    · exact absurd h (by decide)
  · rename_i h1; exact absurd h h1
def sheetM (mc so lg : Nat → Int32) (k lane n : Int32) : Int32 × Int32 × SH := if isP 4 k then (if isP 3 lane && decide (n ≤ nI 60) then (if 0 ≤ n then (nI 1, nI 0, fillR mc (60 * k.toNatClampNeg) (60 * k.toNatClampNeg + 60) (nI 0), upd so k.toNatClampNeg lane, upd lg k.toNatClampNeg n) else ((-14), nI 4, mc, so, lg)) else ((-2), nI 0, mc, so, lg)) else ((-1), nI 0, mc, so, lg)
def loseM (so : Nat → Int32) (k : Int32) : Int32 × (Nat → Int32) := if isP 4 k then (bI (hasM so k.toNatClampNeg), upd so k.toNatClampNeg (-9)) else ((-1), so)
def putM (mc so lg : Nat → Int32) (k i v : Int32) : Int32 × Int32 × (Nat → Int32) := if isP 4 k then (if hasM so k.toNatClampNeg then (if pl1 i (lg k.toNatClampNeg) then (nI 1, nI 0, upd mc (60 * k.toNatClampNeg + i.toNatClampNeg) (cutL v (so k.toNatClampNeg))) else ((-13), nI 3, mc)) else ((-11), nI 1, mc)) else ((-1), nI 0, mc)
def cellM (mc so lg : Nat → Int32) (k i lane : Int32) : Int64 × Int32 := if isP 4 k && isP 3 lane then (if fRowM so k.toNatClampNeg lane = 0 then (if pl1 i (lg k.toNatClampNeg) then ((mc (60 * k.toNatClampNeg + i.toNatClampNeg)).toInt64, nI 0) else ((-9223372036854775808), nI 3)) else ((-9223372036854775808), fRowM so k.toNatClampNeg lane)) else ((-9223372036854775808), nI 0)
theorem wi_pl {i : Int32} {lg : Nat → Int32} (h : okS lg) {k : Nat} (hk : k < 4) : wiB i (nI 0) (lg k - nI 1) = pl1 i (lg k) := by
  obtain ⟨z, hz, e⟩ := h k hk
  rw [e]
  unfold wiB pl1
  rw [nI_0]
  congr 1
  refine decide_eq_decide.mpr ?_
  rcases Nat.eq_zero_or_pos z with q | q
  · subst q
    rw [Int32.le_iff_toInt_le, Int32.lt_iff_toInt_lt, show (nI 0 - nI 1).toInt = -1 from by decide, show (nI 0).toInt = 0 from by decide]
    omega
  · rw [pk_sub (by omega), lt_le_succ (by omega), show z - 1 + 1 = z by omega]
theorem pl01 {w : Int32} (h : isPl w = true) (h1 : w < nI 10) : w = nI 0 ∨ w = nI 1 ∨ w = nI 2 ∨ w = nI 3 := by
  unfold isPl at h
  rw [Bool.or_eq_true, Bool.or_eq_true, Bool.and_eq_true, Bool.and_eq_true, Bool.and_eq_true, decide_eq_true_eq, decide_eq_true_eq, decide_eq_true_eq, decide_eq_true_eq, decide_eq_true_eq, decide_eq_true_eq] at h
  rw [Int32.lt_iff_toInt_lt, show (nI 10).toInt = 10 from by decide] at h1
  rcases h with h | h | h
  · obtain ⟨j, hj, e, _⟩ := le_of (n := 3) (by omega) h.1 h.2
    rcases (show j = 0 ∨ j = 1 ∨ j = 2 ∨ j = 3 by omega) with q | q | q | q <;> subst q <;> simp [e]
  · have h2 := h.1
    rw [Int32.le_iff_toInt_le, show (nI 10).toInt = 10 from by decide] at h2
    omega
  · have h2 := h.1
    rw [Int32.le_iff_toInt_le, show (nI 20).toInt = 20 from by decide] at h2
    omega
theorem w4 : ∀ a, a < 4 → ∀ b, b < 4 → (nI a = nI b ↔ a = b) ∧ (nI 2 ≤ nI a ↔ 2 ≤ a) := by decide +kernel
theorem ofPl0 {Y : YS} {w : Int32} (h : w < nI 10) (a : Nat) (ha : a < 4) (e : w = nI a) : ofPlF Y w = if a = 0 then bish Y else if a = 1 then fstB Y.P (rsB Y) 0 else if a = 2 then sumF (fun p => hrB Y p Y.D) Y.P else nI (msk Y.D (crB Y)) := by
  have h2 : w < nI 20 := Int32.lt_trans h (by decide)
  unfold ofPlF
  rw [if_neg (Int32.not_le.mpr h2), if_neg (Int32.not_le.mpr h)]
  subst e
  simp only [(w4 a ha 0 (by omega)).1, (w4 a ha 1 (by omega)).1, (w4 a ha 2 (by omega)).1]
abbrev wMr (cI : ClassId) (m13 m14 m15 : Nat) (mw mn : Nat → Nat) (mh : Nat → Int32) : va_W := [(m13, .inl (cI, 8, .inl (fun q9 => nI (mw q9)))), (m14, .inl (cI, 8, .inl (fun q9 => nI (mn q9)))), (m15, .inl (cI, 8, .inl mh))]
theorem gcdS {a b : Nat} : Nat.gcd b (a % b) = Nat.gcd a b := by
  rw [Nat.gcd_comm b (a % b), ← Nat.gcd_rec b a, Nat.gcd_comm]
theorem hdX5_isAtRest : yX5_isAtRest.cls = RX5 ∧ yX5_isAtRest.cls ≠ "java/lang/invoke/MethodHandle" ∧ yX5_isAtRest.cls ≠ "java/lang/invoke/VarHandle" ∧ (parseMethodDescriptor yX5_isAtRest.desc).map (fun d => d.parameters.length) = some 1 := by decide +kernel
theorem hdX5_firstRestless : yX5_firstRestless.cls = RX5 ∧ yX5_firstRestless.cls ≠ "java/lang/invoke/MethodHandle" ∧ yX5_firstRestless.cls ≠ "java/lang/invoke/VarHandle" ∧ (parseMethodDescriptor yX5_firstRestless.desc).map (fun d => d.parameters.length) = some 0 := by decide +kernel
theorem hdX5_areSo : yX5_areSo.cls = RX5 ∧ yX5_areSo.cls ≠ "java/lang/invoke/MethodHandle" ∧ yX5_areSo.cls ≠ "java/lang/invoke/VarHandle" ∧ (parseMethodDescriptor yX5_areSo.desc).map (fun d => d.parameters.length) = some 0 := by decide +kernel
set_option maxHeartbeats 4000000 in
set_option maxRecDepth 100000 in
theorem m_isAtRest (l : Launch) (D : va_G) (cI : ClassId) (sz : Nat) (m0 : Nat) (m1 : Nat) (m2 : Nat) (m3 : Nat) (m4 : Nat) (m5 : Nat) (m6 : Nat) (m7 : Nat) (m8 : Nat) (m9 : Nat) (m10 : Nat) (m11 : Nat) (m12 : Nat) (m13 : Nat) (m14 : Nat) (m15 : Nat) (fm : Int32) (tm : Int32) (at1 : Nat) (rdb : Int32) (rrm : Int32) (rD : Nat) (rP : Nat) (mt : Nat) (M : YS) (p : Nat) (hg : GdY M) (hp : p < M.P) : Met l yX5_isAtRest wsX5_isAtRest ({ frames := 5, cells := 0, slots := 0, locals := 120 }) (PQ D cI [.ref m0, .int (nI p)] (wMo m0 m1 m2 m3 m4 m5 m6 m7 m8 m9 m10 m11 m12 m13 m14 m15 fm tm at1 rdb rrm rD rP mt M ++ wMa cI m4 m5 m6 m7 m12 M) sz) (QI (S := Unit) D (fun r _ => r = bI (rstB M p)) (fun _ => wMo m0 m1 m2 m3 m4 m5 m6 m7 m8 m9 m10 m11 m12 m13 m14 m15 fm tm at1 rdb rrm rD rP mt M ++ wMa cI m4 m5 m6 m7 m12 M) (va_A (wMo m0 m1 m2 m3 m4 m5 m6 m7 m8 m9 m10 m11 m12 m13 m14 m15 fm tm at1 rdb rrm rD rP mt M ++ wMa cI m4 m5 m6 m7 m12 M) sz)) 0 0 (va_A (wMo m0 m1 m2 m3 m4 m5 m6 m7 m8 m9 m10 m11 m12 m13 m14 m15 fm tm at1 rdb rrm rD rP mt M ++ wMa cI m4 m5 m6 m7 m12 M) sz) := by
  refine zk_Q (QI (S := Unit) D (fun r _ => r = bI (rstB M p)) (fun _ => wMo m0 m1 m2 m3 m4 m5 m6 m7 m8 m9 m10 m11 m12 m13 m14 m15 fm tm at1 rdb rrm rD rP mt M ++ wMa cI m4 m5 m6 m7 m12 M)) (cc := cX5_isAtRest) (maxL := 6) (ret := (some .boolean)) (by decide) rfl (Nat.le_of_ble_eq_true rfl) ?_
  intro pX eX sX mX bX tX cX hx hb hr hlocks hml hown hmn hts hP hK A hA hD hS ls hl
  have hl : lv_has ls 6 [(0, .ref m0), (1, .int (nI p))] := hl
  have hP : va_P D vwCl [(m0, .inr (5, [.int fm, .int tm, .ref m1, .ref m2, .ref m3, .int M.db, .int M.rm, .int (nI M.D), .int (nI M.P), .ref m4, .ref m5, .ref m6, .ref m7, .int (nI at1), .int rdb, .int rrm, .int (nI rD), .int (nI rP), .ref m8, .ref m9, .ref m10, .ref m11, .ref m12, .int (nI mt), .ref m13, .ref m14, .ref m15])), (m4, .inl (cI, 5, .inl M.hard)), (m5, .inl (cI, 4, .inl M.kind)), (m6, .inl (cI, 4, .inl M.wit)), (m7, .inl (cI, 4, .inl M.pat)), (m12, .inl (cI, 4, .inl M.pret))] sX.heap := hP
  have hD : va_D A [(m0, .inr (5, [.int fm, .int tm, .ref m1, .ref m2, .ref m3, .int M.db, .int M.rm, .int (nI M.D), .int (nI M.P), .ref m4, .ref m5, .ref m6, .ref m7, .int (nI at1), .int rdb, .int rrm, .int (nI rD), .int (nI rP), .ref m8, .ref m9, .ref m10, .ref m11, .ref m12, .int (nI mt), .ref m13, .ref m14, .ref m15])), (m4, .inl (cI, 5, .inl M.hard)), (m5, .inl (cI, 4, .inl M.kind)), (m6, .inl (cI, 4, .inl M.wit)), (m7, .inl (cI, 4, .inl M.pat)), (m12, .inl (cI, 4, .inl M.pret))] := hD
  have f_43 := hts (.fieldLink RX5 43 "DunceSeeModel" "pretends" "[I") (by decide +kernel)
  have f_68 := hts (.fieldLink RX5 68 "DunceSeeModel" "days" "I") (by decide +kernel)
  have inX5 : ∀ w ∈ wsX50, w ∈ wsX5_isAtRest := fun w h => List.mem_cons_of_mem _ (List.mem_append_right _ h)
  have hD5 : M.D ≤ 5 := hg.1.1
  have hP4 : M.P ≤ 4 := hg.1.2
  have h32 := aD_lt hD5
  refine lv_aload_n hx hb dX5_isAtRest_0 rfl (lv_at hl 0 rfl) ?_
  refine va_get (D := D) (ci := 5) (v := .ref m12) (C := RX5) (T := TX5) (N := 27) hx hb hts inX5 hown hK.1 hP 0 rfl rfl 22 (by decide) f_43 (fun _ h9 => h9) rfl dX5_isAtRest_1 ?_
  refine lv_iload_n hx hb dX5_isAtRest_4 rfl (lv_at hl 1 rfl) ?_
  refine zk_iald hx hb hK hP 5 rfl (by omega) (by decide) dX5_isAtRest_5 ?_
  refine lv_istore_n (lv' := [(2, .int (M.pret p)), (0, .ref m0), (1, .int (nI p))]) hx hb dX5_isAtRest_6 rfl hl (by decide) rfl (fun ls hl => ?_)
  refine lv_aload_n hx hb dX5_isAtRest_7 rfl (lv_at hl 1 rfl) ?_
  refine lv_iload_n hx hb dX5_isAtRest_8 rfl (lv_at hl 2 rfl) ?_
  refine lv_aload_n hx hb dX5_isAtRest_9 rfl (lv_at hl 1 rfl) ?_
  refine va_get (D := D) (ci := 5) (v := .int (nI M.D)) (C := RX5) (T := TX5) (N := 27) hx hb hts inX5 hown hK.1 hP 0 rfl rfl 7 (by decide) f_68 (fun _ h9 => h9) rfl dX5_isAtRest_10 ?_
  refine zk_callVi (As := [.int (nI p), .int (nI M.D)]) (rest := []) (hrB M p M.D) ⟨hx, hb, hml, hown, hts⟩ hK hP [0, 1, 2, 3, 4, 5] rfl (m_hoursBehind l D cI m0 m1 m2 m3 m4 m5 m6 m7 m8 m9 m10 m11 m12 m13 m14 m15 fm tm at1 rdb rrm rD rP mt M p M.D hg hp (Nat.le_refl _)) (cwV 2 hts gX5_isAtRest_X5_hoursBehind rfl rfl rfl hdX5_hoursBehind ⟨Nat.le_of_ble_eq_true rfl, Nat.le_of_ble_eq_true rfl⟩) rfl rfl rfl hl.1 rfl (Nat.le_of_ble_eq_true rfl) dX5_isAtRest_13 ⟨Nat.le_of_ble_eq_true rfl, Nat.le_of_ble_eq_true rfl⟩ ?_
  refine lv_istore_n (lv' := [(3, .int (hrB M p M.D)), (2, .int (M.pret p)), (0, .ref m0), (1, .int (nI p))]) hx hb dX5_isAtRest_16 rfl hl (by decide) rfl (fun ls hl => ?_)
  refine lv_iconst (v := nI 1) hx hb dX5_isAtRest_17 (by decide) ?_
  refine lv_istore (lv' := [(4, .int (nI 1)), (3, .int (hrB M p M.D)), (2, .int (M.pret p)), (0, .ref m0), (1, .int (nI p))]) hx hb dX5_isAtRest_18 hl (by decide) rfl (fun ls hl => ?_)
  refine lv_iconst (v := nI 0) hx hb dX5_isAtRest_20 (by decide) ?_
  refine lv_istore (lv' := [(5, .int (nI 0)), (4, .int (nI 1)), (3, .int (hrB M p M.D)), (2, .int (M.pret p)), (0, .ref m0), (1, .int (nI p))]) hx hb dX5_isAtRest_21 hl (by decide) rfl (fun ls hl => ?_)
  have loop23 : ∀ (nL k : Nat) (pt : Nat → Int32), k ≤ (aD M.D + 1) → (aD M.D + 1) < k + nL → (∀ v, upd pt p v = upd M.pret p v) → ∀ (H : Heap) (locs : List Loc), va_P D vwCl [(m0, .inr (5, [.int fm, .int tm, .ref m1, .ref m2, .ref m3, .int M.db, .int M.rm, .int (nI M.D), .int (nI M.P), .ref m4, .ref m5, .ref m6, .ref m7, .int (nI at1), .int rdb, .int rrm, .int (nI rD), .int (nI rP), .ref m8, .ref m9, .ref m10, .ref m11, .ref m12, .int (nI mt), .ref m13, .ref m14, .ref m15])), (m4, .inl (cI, 5, .inl M.hard)), (m5, .inl (cI, 4, .inl M.kind)), (m6, .inl (cI, 4, .inl M.wit)), (m7, .inl (cI, 4, .inl M.pat)), (m12, .inl (cI, 4, .inl pt))] H → va_D A [(m0, .inr (5, [.int fm, .int tm, .ref m1, .ref m2, .ref m3, .int M.db, .int M.rm, .int (nI M.D), .int (nI M.P), .ref m4, .ref m5, .ref m6, .ref m7, .int (nI at1), .int rdb, .int rrm, .int (nI rD), .int (nI rP), .ref m8, .ref m9, .ref m10, .ref m11, .ref m12, .int (nI mt), .ref m13, .ref m14, .ref m15])), (m4, .inl (cI, 5, .inl M.hard)), (m5, .inl (cI, 4, .inl M.kind)), (m6, .inl (cI, 4, .inl M.wit)), (m7, .inl (cI, 4, .inl M.pat)), (m12, .inl (cI, 4, .inl pt))] → va_S A sX.heap H locs → ∀ ls : Array Slot, lv_has ls 6 [(0, .ref m0), (1, .int (nI p)), (2, .int (M.pret p)), (3, .int (hrB M p M.D)), (4, .int (bI (allB k (fun s => decide (hrB (M.sPret (upd M.pret p (nI s))) p M.D ≤ hrB M p M.D))))), (5, .int (nI k))] → W pX l eX ({ frames := 5, cells := 0, slots := 0, locals := 120 }) sX mX ([.ref m0, .int (nI p)] : List Value).toArray bX tX cX H locs 0 0 (MQ bX (QI (S := Unit) D (fun r _ => r = bI (rstB M p)) (fun _ => wMo m0 m1 m2 m3 m4 m5 m6 m7 m8 m9 m10 m11 m12 m13 m14 m15 fm tm at1 rdb rrm rD rP mt M ++ wMa cI m4 m5 m6 m7 m12 M) A) ([.ref m0, .int (nI p)] : List Value).toArray sX 0 0 A) (F0 mX 23 ls []) := by
    intro nL
    induction nL with
    | zero => intro k pt h1 h2; exact absurd h2 (by omega)
    | succ nL ih =>
      intro k pt h_le h_n hw H locs hP hD hS ls hl
      refine lv_iload hx hb dX5_isAtRest_23 (lv_at hl 5 rfl) ?_
      refine lv_iconst (v := nI 1) hx hb dX5_isAtRest_25 (by decide) ?_
      refine lv_aload_n hx hb dX5_isAtRest_26 rfl (lv_at hl 0 rfl) ?_
      refine va_get (D := D) (ci := 5) (v := .int (nI M.D)) (C := RX5) (T := TX5) (N := 27) hx hb hts inX5 hown hK.1 hP 0 rfl rfl 7 (by decide) f_68 (fun _ h9 => h9) rfl dX5_isAtRest_27 ?_
      refine lv_ishl hx hb dX5_isAtRest_30 ?_
      refine zk_top (y := nI (aD M.D + 1)) (shlA hD5) ?_
      refine zk_icmp_ge (tgt := 73) hx hb dX5_isAtRest_31 (by decide) (by omega) (by omega) (fun c_1 => ?_) (fun c_1 => ?_)
      · refine lv_aload_n hx hb dX5_isAtRest_73 rfl (lv_at hl 0 rfl) ?_
        refine va_get (D := D) (ci := 5) (v := .ref m12) (C := RX5) (T := TX5) (N := 27) hx hb hts inX5 hown hK.1 hP 0 rfl rfl 22 (by decide) f_43 (fun _ h9 => h9) rfl dX5_isAtRest_74 ?_
        refine lv_iload_n hx hb dX5_isAtRest_77 rfl (lv_at hl 1 rfl) ?_
        refine lv_iload_n hx hb dX5_isAtRest_78 rfl (lv_at hl 2 rfl) ?_
        refine zk_iast (x := M.pret p) hx hb hK hP hD hS 5 rfl (by omega) (by decide) dX5_isAtRest_79 (fun H locs hP hD hS => ?_)
        have hP : va_P D vwCl [(m0, .inr (5, [.int fm, .int tm, .ref m1, .ref m2, .ref m3, .int M.db, .int M.rm, .int (nI M.D), .int (nI M.P), .ref m4, .ref m5, .ref m6, .ref m7, .int (nI at1), .int rdb, .int rrm, .int (nI rD), .int (nI rP), .ref m8, .ref m9, .ref m10, .ref m11, .ref m12, .int (nI mt), .ref m13, .ref m14, .ref m15])), (m4, .inl (cI, 5, .inl M.hard)), (m5, .inl (cI, 4, .inl M.kind)), (m6, .inl (cI, 4, .inl M.wit)), (m7, .inl (cI, 4, .inl M.pat)), (m12, .inl (cI, 4, .inl (upd pt p (M.pret p))))] H := hP
        have hD : va_D A [(m0, .inr (5, [.int fm, .int tm, .ref m1, .ref m2, .ref m3, .int M.db, .int M.rm, .int (nI M.D), .int (nI M.P), .ref m4, .ref m5, .ref m6, .ref m7, .int (nI at1), .int rdb, .int rrm, .int (nI rD), .int (nI rP), .ref m8, .ref m9, .ref m10, .ref m11, .ref m12, .int (nI mt), .ref m13, .ref m14, .ref m15])), (m4, .inl (cI, 5, .inl M.hard)), (m5, .inl (cI, 4, .inl M.kind)), (m6, .inl (cI, 4, .inl M.wit)), (m7, .inl (cI, 4, .inl M.pat)), (m12, .inl (cI, 4, .inl (upd pt p (M.pret p))))] := hD
        rw [hw (M.pret p), upd_same] at hP hD
        have hP : va_P D vwCl [(m0, .inr (5, [.int fm, .int tm, .ref m1, .ref m2, .ref m3, .int M.db, .int M.rm, .int (nI M.D), .int (nI M.P), .ref m4, .ref m5, .ref m6, .ref m7, .int (nI at1), .int rdb, .int rrm, .int (nI rD), .int (nI rP), .ref m8, .ref m9, .ref m10, .ref m11, .ref m12, .int (nI mt), .ref m13, .ref m14, .ref m15])), (m4, .inl (cI, 5, .inl M.hard)), (m5, .inl (cI, 4, .inl M.kind)), (m6, .inl (cI, 4, .inl M.wit)), (m7, .inl (cI, 4, .inl M.pat)), (m12, .inl (cI, 4, .inl M.pret))] H := hP
        have hD : va_D A [(m0, .inr (5, [.int fm, .int tm, .ref m1, .ref m2, .ref m3, .int M.db, .int M.rm, .int (nI M.D), .int (nI M.P), .ref m4, .ref m5, .ref m6, .ref m7, .int (nI at1), .int rdb, .int rrm, .int (nI rD), .int (nI rP), .ref m8, .ref m9, .ref m10, .ref m11, .ref m12, .int (nI mt), .ref m13, .ref m14, .ref m15])), (m4, .inl (cI, 5, .inl M.hard)), (m5, .inl (cI, 4, .inl M.kind)), (m6, .inl (cI, 4, .inl M.wit)), (m7, .inl (cI, 4, .inl M.pat)), (m12, .inl (cI, 4, .inl M.pret))] := hD
        refine lv_iload hx hb dX5_isAtRest_80 (lv_at hl 4 rfl) ?_
        exact zk_retB hx hb hr (bI_nar _) hS (()) (by rw [show k = aD M.D + 1 by omega]; rfl) hP hD dX5_isAtRest_82 hlocks
      · refine lv_aload_n hx hb dX5_isAtRest_34 rfl (lv_at hl 0 rfl) ?_
        refine va_get (D := D) (ci := 5) (v := .ref m12) (C := RX5) (T := TX5) (N := 27) hx hb hts inX5 hown hK.1 hP 0 rfl rfl 22 (by decide) f_43 (fun _ h9 => h9) rfl dX5_isAtRest_35 ?_
        refine lv_iload_n hx hb dX5_isAtRest_38 rfl (lv_at hl 1 rfl) ?_
        refine lv_iload hx hb dX5_isAtRest_39 (lv_at hl 5 rfl) ?_
        refine zk_iast (x := nI k) hx hb hK hP hD hS 5 rfl (by omega) (by decide) dX5_isAtRest_41 (fun H locs hP hD hS => ?_)
        have hP : va_P D vwCl [(m0, .inr (5, [.int fm, .int tm, .ref m1, .ref m2, .ref m3, .int M.db, .int M.rm, .int (nI M.D), .int (nI M.P), .ref m4, .ref m5, .ref m6, .ref m7, .int (nI at1), .int rdb, .int rrm, .int (nI rD), .int (nI rP), .ref m8, .ref m9, .ref m10, .ref m11, .ref m12, .int (nI mt), .ref m13, .ref m14, .ref m15])), (m4, .inl (cI, 5, .inl M.hard)), (m5, .inl (cI, 4, .inl M.kind)), (m6, .inl (cI, 4, .inl M.wit)), (m7, .inl (cI, 4, .inl M.pat)), (m12, .inl (cI, 4, .inl (upd pt p (nI k))))] H := hP
        have hD : va_D A [(m0, .inr (5, [.int fm, .int tm, .ref m1, .ref m2, .ref m3, .int M.db, .int M.rm, .int (nI M.D), .int (nI M.P), .ref m4, .ref m5, .ref m6, .ref m7, .int (nI at1), .int rdb, .int rrm, .int (nI rD), .int (nI rP), .ref m8, .ref m9, .ref m10, .ref m11, .ref m12, .int (nI mt), .ref m13, .ref m14, .ref m15])), (m4, .inl (cI, 5, .inl M.hard)), (m5, .inl (cI, 4, .inl M.kind)), (m6, .inl (cI, 4, .inl M.wit)), (m7, .inl (cI, 4, .inl M.pat)), (m12, .inl (cI, 4, .inl (upd pt p (nI k))))] := hD
        rw [hw (nI k)] at hP hD
        have hP : va_P D vwCl [(m0, .inr (5, [.int fm, .int tm, .ref m1, .ref m2, .ref m3, .int M.db, .int M.rm, .int (nI M.D), .int (nI M.P), .ref m4, .ref m5, .ref m6, .ref m7, .int (nI at1), .int rdb, .int rrm, .int (nI rD), .int (nI rP), .ref m8, .ref m9, .ref m10, .ref m11, .ref m12, .int (nI mt), .ref m13, .ref m14, .ref m15])), (m4, .inl (cI, 5, .inl M.hard)), (m5, .inl (cI, 4, .inl M.kind)), (m6, .inl (cI, 4, .inl M.wit)), (m7, .inl (cI, 4, .inl M.pat)), (m12, .inl (cI, 4, .inl (upd M.pret p (nI k))))] H := hP
        have hD : va_D A [(m0, .inr (5, [.int fm, .int tm, .ref m1, .ref m2, .ref m3, .int M.db, .int M.rm, .int (nI M.D), .int (nI M.P), .ref m4, .ref m5, .ref m6, .ref m7, .int (nI at1), .int rdb, .int rrm, .int (nI rD), .int (nI rP), .ref m8, .ref m9, .ref m10, .ref m11, .ref m12, .int (nI mt), .ref m13, .ref m14, .ref m15])), (m4, .inl (cI, 5, .inl M.hard)), (m5, .inl (cI, 4, .inl M.kind)), (m6, .inl (cI, 4, .inl M.wit)), (m7, .inl (cI, 4, .inl M.pat)), (m12, .inl (cI, 4, .inl (upd M.pret p (nI k))))] := hD
        refine lv_iload hx hb dX5_isAtRest_42 (lv_at hl 4 rfl) ?_
        refine zk_ifeqB (tgt := 64) hx hb dX5_isAtRest_44 (by decide) (fun c_2 => ?_) (fun c_2 => ?_)
        · refine lv_iconst (v := nI 0) hx hb dX5_isAtRest_64 (by decide) ?_
          refine lv_istore (lv' := [(4, .int (nI 0)), (0, .ref m0), (1, .int (nI p)), (2, .int (M.pret p)), (3, .int (hrB M p M.D)), (5, .int (nI k))]) hx hb dX5_isAtRest_65 hl (by decide) rfl (fun ls hl => ?_)
          refine lv_iinc (v := nI (k + 1)) (lv' := [(5, .int (nI (k + 1))), (4, .int (nI 0)), (0, .ref m0), (1, .int (nI p)), (2, .int (M.pret p)), (3, .int (hrB M p M.D))]) hx hb dX5_isAtRest_67 hl (k := 5) rfl (by rw [show (Int32.ofInt 1) = nI 1 from by decide, nI_add]) (by decide) rfl (fun ls hl => ?_)
          refine lv_goto (tgt := 23) hx hb dX5_isAtRest_70 (by decide) ?_
          have hl := lv_sub hl [2, 3, 4, 5, 1, 0] rfl
          have e_4 : nI 0 = bI (allB (k + 1) (fun s => decide (hrB (M.sPret (upd M.pret p (nI s))) p M.D ≤ hrB M p M.D))) := by show nI 0 = bI (allB k (fun s => decide (hrB (M.sPret (upd M.pret p (nI s))) p M.D ≤ hrB M p M.D)) && decide (hrB (M.sPret (upd M.pret p (nI k))) p M.D ≤ hrB M p M.D)); rw [c_2]; rfl
          rw [e_4] at hl
          exact ih (k + 1) (upd M.pret p (nI k)) (by omega) (by omega) (fun v => upd_upd _ _ _ _) _ _ hP hD hS ls hl
        · refine lv_aload_n hx hb dX5_isAtRest_47 rfl (lv_at hl 0 rfl) ?_
          refine lv_iload_n hx hb dX5_isAtRest_48 rfl (lv_at hl 1 rfl) ?_
          refine lv_aload_n hx hb dX5_isAtRest_49 rfl (lv_at hl 0 rfl) ?_
          refine va_get (D := D) (ci := 5) (v := .int (nI M.D)) (C := RX5) (T := TX5) (N := 27) hx hb hts inX5 hown hK.1 hP 0 rfl rfl 7 (by decide) f_68 (fun _ h9 => h9) rfl dX5_isAtRest_50 ?_
          refine zk_callVi (As := [.int (nI p), .int (nI M.D)]) (rest := []) (hrB (M.sPret (upd M.pret p (nI k))) p M.D) ⟨hx, hb, hml, hown, hts⟩ hK hP [0, 1, 2, 3, 4, 5] rfl (m_hoursBehind l D cI m0 m1 m2 m3 m4 m5 m6 m7 m8 m9 m10 m11 m12 m13 m14 m15 fm tm at1 rdb rrm rD rP mt (M.sPret (upd M.pret p (nI k))) p M.D hg hp (Nat.le_refl _)) (cwV 2 hts gX5_isAtRest_X5_hoursBehind rfl rfl rfl hdX5_hoursBehind ⟨Nat.le_of_ble_eq_true rfl, Nat.le_of_ble_eq_true rfl⟩) rfl rfl rfl hl.1 rfl (Nat.le_of_ble_eq_true rfl) dX5_isAtRest_53 ⟨Nat.le_of_ble_eq_true rfl, Nat.le_of_ble_eq_true rfl⟩ ?_
          refine lv_iload_n hx hb dX5_isAtRest_56 rfl (lv_at hl 3 rfl) ?_
          refine lv_icmp_gt (tgt := 64) hx hb dX5_isAtRest_57 (by decide) (fun c_3 => ?_) (fun c_3 => ?_)
          · refine lv_iconst (v := nI 0) hx hb dX5_isAtRest_64 (by decide) ?_
            refine lv_istore (lv' := [(4, .int (nI 0)), (0, .ref m0), (1, .int (nI p)), (2, .int (M.pret p)), (3, .int (hrB M p M.D)), (5, .int (nI k))]) hx hb dX5_isAtRest_65 hl (by decide) rfl (fun ls hl => ?_)
            refine lv_iinc (v := nI (k + 1)) (lv' := [(5, .int (nI (k + 1))), (4, .int (nI 0)), (0, .ref m0), (1, .int (nI p)), (2, .int (M.pret p)), (3, .int (hrB M p M.D))]) hx hb dX5_isAtRest_67 hl (k := 5) rfl (by rw [show (Int32.ofInt 1) = nI 1 from by decide, nI_add]) (by decide) rfl (fun ls hl => ?_)
            refine lv_goto (tgt := 23) hx hb dX5_isAtRest_70 (by decide) ?_
            have hl := lv_sub hl [2, 3, 4, 5, 1, 0] rfl
            have e_4 : nI 0 = bI (allB (k + 1) (fun s => decide (hrB (M.sPret (upd M.pret p (nI s))) p M.D ≤ hrB M p M.D))) := by show nI 0 = bI (allB k (fun s => decide (hrB (M.sPret (upd M.pret p (nI s))) p M.D ≤ hrB M p M.D)) && decide (hrB (M.sPret (upd M.pret p (nI k))) p M.D ≤ hrB M p M.D)); rw [c_2, decide_eq_false (Int32.not_le.mpr c_3)]; rfl
            rw [e_4] at hl
            exact ih (k + 1) (upd M.pret p (nI k)) (by omega) (by omega) (fun v => upd_upd _ _ _ _) _ _ hP hD hS ls hl
          · have c_3 := Int32.not_lt.mp c_3
            refine lv_iconst (v := nI 1) hx hb dX5_isAtRest_60 (by decide) ?_
            refine lv_goto (tgt := 65) hx hb dX5_isAtRest_61 (by decide) ?_
            refine lv_istore (lv' := [(4, .int (nI 1)), (0, .ref m0), (1, .int (nI p)), (2, .int (M.pret p)), (3, .int (hrB M p M.D)), (5, .int (nI k))]) hx hb dX5_isAtRest_65 hl (by decide) rfl (fun ls hl => ?_)
            refine lv_iinc (v := nI (k + 1)) (lv' := [(5, .int (nI (k + 1))), (4, .int (nI 1)), (0, .ref m0), (1, .int (nI p)), (2, .int (M.pret p)), (3, .int (hrB M p M.D))]) hx hb dX5_isAtRest_67 hl (k := 5) rfl (by rw [show (Int32.ofInt 1) = nI 1 from by decide, nI_add]) (by decide) rfl (fun ls hl => ?_)
            refine lv_goto (tgt := 23) hx hb dX5_isAtRest_70 (by decide) ?_
            have hl := lv_sub hl [2, 3, 4, 5, 1, 0] rfl
            have e_4 : nI 1 = bI (allB (k + 1) (fun s => decide (hrB (M.sPret (upd M.pret p (nI s))) p M.D ≤ hrB M p M.D))) := by show nI 1 = bI (allB k (fun s => decide (hrB (M.sPret (upd M.pret p (nI s))) p M.D ≤ hrB M p M.D)) && decide (hrB (M.sPret (upd M.pret p (nI k))) p M.D ≤ hrB M p M.D)); rw [c_2, decide_eq_true c_3]; rfl
            rw [e_4] at hl
            exact ih (k + 1) (upd M.pret p (nI k)) (by omega) (by omega) (fun v => upd_upd _ _ _ _) _ _ hP hD hS ls hl
  have hl := lv_sub hl [4, 5, 3, 2, 1, 0] rfl
  have e_4 : nI 1 = bI (allB 0 (fun s => decide (hrB (M.sPret (upd M.pret p (nI s))) p M.D ≤ hrB M p M.D))) := rfl
  have hl : lv_has ls 6 [(0, .ref m0), (1, .int (nI p)), (2, .int (M.pret p)), (3, .int (hrB M p M.D)), (4, .int (bI (allB 0 (fun s => decide (hrB (M.sPret (upd M.pret p (nI s))) p M.D ≤ hrB M p M.D))))), (5, .int (nI 0))] := by
    first | exact hl | (rw [← e_4]; exact hl) | (simp only [e_4] at hl ⊢; exact hl)
  exact loop23 (((aD M.D + 1)) + 1) 0 M.pret (by omega) (by omega) (fun _ => rfl) _ _ hP hD hS ls hl
set_option maxHeartbeats 4000000 in
set_option maxRecDepth 100000 in
theorem m_firstRestless (l : Launch) (D : va_G) (cI : ClassId) (sz : Nat) (m0 : Nat) (m1 : Nat) (m2 : Nat) (m3 : Nat) (m4 : Nat) (m5 : Nat) (m6 : Nat) (m7 : Nat) (m8 : Nat) (m9 : Nat) (m10 : Nat) (m11 : Nat) (m12 : Nat) (m13 : Nat) (m14 : Nat) (m15 : Nat) (fm : Int32) (tm : Int32) (at1 : Nat) (rdb : Int32) (rrm : Int32) (rD : Nat) (rP : Nat) (mt : Nat) (M : YS) (hg : GdY M) : Met l yX5_firstRestless wsX5_firstRestless ({ frames := 6, cells := 0, slots := 0, locals := 145 }) (PQ D cI [.ref m0] (wMo m0 m1 m2 m3 m4 m5 m6 m7 m8 m9 m10 m11 m12 m13 m14 m15 fm tm at1 rdb rrm rD rP mt M ++ wMa cI m4 m5 m6 m7 m12 M) sz) (QI (S := Unit) D (fun r _ => r = fstB M.P (rsB M) 0) (fun _ => wMo m0 m1 m2 m3 m4 m5 m6 m7 m8 m9 m10 m11 m12 m13 m14 m15 fm tm at1 rdb rrm rD rP mt M ++ wMa cI m4 m5 m6 m7 m12 M) (va_A (wMo m0 m1 m2 m3 m4 m5 m6 m7 m8 m9 m10 m11 m12 m13 m14 m15 fm tm at1 rdb rrm rD rP mt M ++ wMa cI m4 m5 m6 m7 m12 M) sz)) 0 0 (va_A (wMo m0 m1 m2 m3 m4 m5 m6 m7 m8 m9 m10 m11 m12 m13 m14 m15 fm tm at1 rdb rrm rD rP mt M ++ wMa cI m4 m5 m6 m7 m12 M) sz) := by
  refine zk_Q (QI (S := Unit) D (fun r _ => r = fstB M.P (rsB M) 0) (fun _ => wMo m0 m1 m2 m3 m4 m5 m6 m7 m8 m9 m10 m11 m12 m13 m14 m15 fm tm at1 rdb rrm rD rP mt M ++ wMa cI m4 m5 m6 m7 m12 M)) (cc := cX5_firstRestless) (maxL := 2) (ret := (some .int)) (by decide) rfl (Nat.le_of_ble_eq_true rfl) ?_
  intro pX eX sX mX bX tX cX hx hb hr hlocks hml hown hmn hts hP hK A hA hD hS ls hl
  have hl : lv_has ls 2 [(0, .ref m0)] := hl
  have hP : va_P D vwCl [(m0, .inr (5, [.int fm, .int tm, .ref m1, .ref m2, .ref m3, .int M.db, .int M.rm, .int (nI M.D), .int (nI M.P), .ref m4, .ref m5, .ref m6, .ref m7, .int (nI at1), .int rdb, .int rrm, .int (nI rD), .int (nI rP), .ref m8, .ref m9, .ref m10, .ref m11, .ref m12, .int (nI mt), .ref m13, .ref m14, .ref m15])), (m4, .inl (cI, 5, .inl M.hard)), (m5, .inl (cI, 4, .inl M.kind)), (m6, .inl (cI, 4, .inl M.wit)), (m7, .inl (cI, 4, .inl M.pat)), (m12, .inl (cI, 4, .inl M.pret))] sX.heap := hP
  have hD : va_D A [(m0, .inr (5, [.int fm, .int tm, .ref m1, .ref m2, .ref m3, .int M.db, .int M.rm, .int (nI M.D), .int (nI M.P), .ref m4, .ref m5, .ref m6, .ref m7, .int (nI at1), .int rdb, .int rrm, .int (nI rD), .int (nI rP), .ref m8, .ref m9, .ref m10, .ref m11, .ref m12, .int (nI mt), .ref m13, .ref m14, .ref m15])), (m4, .inl (cI, 5, .inl M.hard)), (m5, .inl (cI, 4, .inl M.kind)), (m6, .inl (cI, 4, .inl M.wit)), (m7, .inl (cI, 4, .inl M.pat)), (m12, .inl (cI, 4, .inl M.pret))] := hD
  have f_65 := hts (.fieldLink RX5 65 "DunceSeeModel" "pupils" "I") (by decide +kernel)
  have inX5 : ∀ w ∈ wsX50, w ∈ wsX5_firstRestless := fun w h => List.mem_cons_of_mem _ (List.mem_append_right _ h)
  have hD5 : M.D ≤ 5 := hg.1.1
  have hP4 : M.P ≤ 4 := hg.1.2
  refine lv_iconst (v := nI 0) hx hb dX5_firstRestless_0 (by decide) ?_
  refine lv_istore_n (lv' := [(1, .int (nI 0)), (0, .ref m0)]) hx hb dX5_firstRestless_1 rfl hl (by decide) rfl (fun ls hl => ?_)
  have loop2 : ∀ (nL k : Nat), k ≤ M.P → M.P < k + nL → (∀ i, i < k → rsB M i = false) → ∀ (H : Heap) (locs : List Loc), va_P D vwCl [(m0, .inr (5, [.int fm, .int tm, .ref m1, .ref m2, .ref m3, .int M.db, .int M.rm, .int (nI M.D), .int (nI M.P), .ref m4, .ref m5, .ref m6, .ref m7, .int (nI at1), .int rdb, .int rrm, .int (nI rD), .int (nI rP), .ref m8, .ref m9, .ref m10, .ref m11, .ref m12, .int (nI mt), .ref m13, .ref m14, .ref m15])), (m4, .inl (cI, 5, .inl M.hard)), (m5, .inl (cI, 4, .inl M.kind)), (m6, .inl (cI, 4, .inl M.wit)), (m7, .inl (cI, 4, .inl M.pat)), (m12, .inl (cI, 4, .inl M.pret))] H → va_D A [(m0, .inr (5, [.int fm, .int tm, .ref m1, .ref m2, .ref m3, .int M.db, .int M.rm, .int (nI M.D), .int (nI M.P), .ref m4, .ref m5, .ref m6, .ref m7, .int (nI at1), .int rdb, .int rrm, .int (nI rD), .int (nI rP), .ref m8, .ref m9, .ref m10, .ref m11, .ref m12, .int (nI mt), .ref m13, .ref m14, .ref m15])), (m4, .inl (cI, 5, .inl M.hard)), (m5, .inl (cI, 4, .inl M.kind)), (m6, .inl (cI, 4, .inl M.wit)), (m7, .inl (cI, 4, .inl M.pat)), (m12, .inl (cI, 4, .inl M.pret))] → va_S A sX.heap H locs → ∀ ls : Array Slot, lv_has ls 2 [(0, .ref m0), (1, .int (nI k))] → W pX l eX ({ frames := 6, cells := 0, slots := 0, locals := 145 }) sX mX ([.ref m0] : List Value).toArray bX tX cX H locs 0 0 (MQ bX (QI (S := Unit) D (fun r _ => r = fstB M.P (rsB M) 0) (fun _ => wMo m0 m1 m2 m3 m4 m5 m6 m7 m8 m9 m10 m11 m12 m13 m14 m15 fm tm at1 rdb rrm rD rP mt M ++ wMa cI m4 m5 m6 m7 m12 M) A) ([.ref m0] : List Value).toArray sX 0 0 A) (F0 mX 2 ls []) := by
    intro nL
    induction nL with
    | zero => intro k  h1 h2; exact absurd h2 (by omega)
    | succ nL ih =>
      intro k  h_le h_n hno H locs hP hD hS ls hl
      refine lv_iload_n hx hb dX5_firstRestless_2 rfl (lv_at hl 1 rfl) ?_
      refine lv_aload_n hx hb dX5_firstRestless_3 rfl (lv_at hl 0 rfl) ?_
      refine va_get (D := D) (ci := 5) (v := .int (nI M.P)) (C := RX5) (T := TX5) (N := 27) hx hb hts inX5 hown hK.1 hP 0 rfl rfl 8 (by decide) f_65 (fun _ h9 => h9) rfl dX5_firstRestless_4 ?_
      refine zk_icmp_ge (tgt := 26) hx hb dX5_firstRestless_7 (by decide) (by omega) (by omega) (fun c_1 => ?_) (fun c_1 => ?_)
      · refine lv_bipush (v := (-9)) hx hb dX5_firstRestless_26 (by decide) ?_
        exact zk_retI hx hb hr hS (()) ((fstB_no _ 0 (fun i _ h => hno i (by omega))).symm) hP hD dX5_firstRestless_28 hlocks
      · refine lv_aload_n hx hb dX5_firstRestless_10 rfl (lv_at hl 0 rfl) ?_
        refine lv_iload_n hx hb dX5_firstRestless_11 rfl (lv_at hl 1 rfl) ?_
        refine zk_effVi (As := [.int (nI k)]) (rest := []) (S := Unit) (fun r _ => r = bI (rstB M k)) (fun _ => wMo m0 m1 m2 m3 m4 m5 m6 m7 m8 m9 m10 m11 m12 m13 m14 m15 fm tm at1 rdb rrm rD rP mt M ++ wMa cI m4 m5 m6 m7 m12 M) ⟨hx, hb, hml, hown, hts⟩ hK hP hD hS hA [0, 1, 2, 3, 4, 5] [] (wc := [(m0, .inr (5, [.int fm, .int tm, .ref m1, .ref m2, .ref m3, .int M.db, .int M.rm, .int (nI M.D), .int (nI M.P), .ref m4, .ref m5, .ref m6, .ref m7, .int (nI at1), .int rdb, .int rrm, .int (nI rD), .int (nI rP), .ref m8, .ref m9, .ref m10, .ref m11, .ref m12, .int (nI mt), .ref m13, .ref m14, .ref m15])), (m4, .inl (cI, 5, .inl M.hard)), (m5, .inl (cI, 4, .inl M.kind)), (m6, .inl (cI, 4, .inl M.wit)), (m7, .inl (cI, 4, .inl M.pat)), (m12, .inl (cI, 4, .inl M.pret))]) (wr := []) rfl rfl (by decide) (by decide) (by decide) [0, 1, 2, 3, 4, 5] (fun (_ : Unit) => [(m0, .inr (5, [.int fm, .int tm, .ref m1, .ref m2, .ref m3, .int M.db, .int M.rm, .int (nI M.D), .int (nI M.P), .ref m4, .ref m5, .ref m6, .ref m7, .int (nI at1), .int rdb, .int rrm, .int (nI rD), .int (nI rP), .ref m8, .ref m9, .ref m10, .ref m11, .ref m12, .int (nI mt), .ref m13, .ref m14, .ref m15])), (m4, .inl (cI, 5, .inl M.hard)), (m5, .inl (cI, 4, .inl M.kind)), (m6, .inl (cI, 4, .inl M.wit)), (m7, .inl (cI, 4, .inl M.pat)), (m12, .inl (cI, 4, .inl M.pret))]) (fun _ => rfl) (by decide) (m_isAtRest l D cI H.size m0 m1 m2 m3 m4 m5 m6 m7 m8 m9 m10 m11 m12 m13 m14 m15 fm tm at1 rdb rrm rD rP mt M k hg (by omega)) (cwV 1 hts gX5_firstRestless_X5_isAtRest rfl rfl rfl hdX5_isAtRest ⟨Nat.le_of_ble_eq_true rfl, Nat.le_of_ble_eq_true rfl⟩) rfl rfl rfl hl.1 rfl (Nat.le_of_ble_eq_true rfl) dX5_firstRestless_12 ⟨Nat.le_of_ble_eq_true rfl, Nat.le_of_ble_eq_true rfl⟩ (fun r_2 _ H locs hw_3 hP hD hS => ?_)
        have e_r_2 : r_2 = bI (!(rsB M k)) := hw_3.trans (congrArg bI (rst_rs hg (by omega)))
        rw [e_r_2]
        refine zk_ifneB (tgt := 20) hx hb dX5_firstRestless_15 (by decide) (fun c_4 => ?_) (fun c_4 => ?_)
        · refine lv_iinc (v := nI (k + 1)) (lv' := [(1, .int (nI (k + 1))), (0, .ref m0)]) hx hb dX5_firstRestless_20 hl (k := 1) rfl (by rw [show (Int32.ofInt 1) = nI 1 from by decide, nI_add]) (by decide) rfl (fun ls hl => ?_)
          refine lv_goto (tgt := 2) hx hb dX5_firstRestless_23 (by decide) ?_
          exact ih (k + 1)  (by omega) (by omega) (fun i h => by by_cases e : i = k; { subst e; simpa using c_4 }; { exact hno i (by omega) }) _ _ hP hD hS ls (lv_sub hl [1, 0] rfl)
        · refine lv_iload_n hx hb dX5_firstRestless_18 rfl (lv_at hl 1 rfl) ?_
          exact zk_retI hx hb hr hS (()) ((fstB_at _ 0 k (by omega) (by omega) (fun i _ h => hno i h) (by simpa using c_4)).symm) hP hD dX5_firstRestless_19 hlocks
  exact loop2 (M.P + 1) 0  (by omega) (by omega) (fun i h => by omega) _ _ hP hD hS ls (lv_sub hl [1, 0] rfl)
set_option maxHeartbeats 4000000 in
set_option maxRecDepth 100000 in
theorem m_tellPlan (l : Launch) (D : va_G) (cI : ClassId) (sz : Nat) (m0 : Nat) (m1 : Nat) (m2 : Nat) (m3 : Nat) (m4 : Nat) (m5 : Nat) (m6 : Nat) (m7 : Nat) (m8 : Nat) (m9 : Nat) (m10 : Nat) (m11 : Nat) (m12 : Nat) (m13 : Nat) (m14 : Nat) (m15 : Nat) (fm : Int32) (tm : Int32) (at1 : Nat) (rdb : Int32) (rrm : Int32) (rD : Nat) (rP : Nat) (mt : Nat) (M : YS) (w : Int32) (hg : GdY M) (hw0 : isPl w = true) : Met l yX5_tellPlan wsX5_tellPlan ({ frames := 7, cells := 0, slots := 0, locals := 166 }) (PQ D cI [.ref m0, .int w] (wMo m0 m1 m2 m3 m4 m5 m6 m7 m8 m9 m10 m11 m12 m13 m14 m15 fm tm at1 rdb rrm rD rP mt M ++ wMa cI m4 m5 m6 m7 m12 M) sz) (QI (S := Unit) D (fun r _ => r = ofPlF M w) (fun _ => wMo m0 m1 m2 m3 m4 m5 m6 m7 m8 m9 m10 m11 m12 m13 m14 m15 fm tm at1 rdb rrm rD rP mt M ++ wMa cI m4 m5 m6 m7 m12 M) (va_A (wMo m0 m1 m2 m3 m4 m5 m6 m7 m8 m9 m10 m11 m12 m13 m14 m15 fm tm at1 rdb rrm rD rP mt M ++ wMa cI m4 m5 m6 m7 m12 M) sz)) 0 0 (va_A (wMo m0 m1 m2 m3 m4 m5 m6 m7 m8 m9 m10 m11 m12 m13 m14 m15 fm tm at1 rdb rrm rD rP mt M ++ wMa cI m4 m5 m6 m7 m12 M) sz) := by
  refine zk_Q (QI (S := Unit) D (fun r _ => r = ofPlF M w) (fun _ => wMo m0 m1 m2 m3 m4 m5 m6 m7 m8 m9 m10 m11 m12 m13 m14 m15 fm tm at1 rdb rrm rD rP mt M ++ wMa cI m4 m5 m6 m7 m12 M)) (cc := cX5_tellPlan) (maxL := 5) (ret := (some .int)) (by decide) rfl (Nat.le_of_ble_eq_true rfl) ?_
  intro pX eX sX mX bX tX cX hx hb hr hlocks hml hown hmn hts hP hK A hA hD hS ls hl
  have hl : lv_has ls 5 [(0, .ref m0), (1, .int w)] := hl
  have hP : va_P D vwCl [(m0, .inr (5, [.int fm, .int tm, .ref m1, .ref m2, .ref m3, .int M.db, .int M.rm, .int (nI M.D), .int (nI M.P), .ref m4, .ref m5, .ref m6, .ref m7, .int (nI at1), .int rdb, .int rrm, .int (nI rD), .int (nI rP), .ref m8, .ref m9, .ref m10, .ref m11, .ref m12, .int (nI mt), .ref m13, .ref m14, .ref m15])), (m4, .inl (cI, 5, .inl M.hard)), (m5, .inl (cI, 4, .inl M.kind)), (m6, .inl (cI, 4, .inl M.wit)), (m7, .inl (cI, 4, .inl M.pat)), (m12, .inl (cI, 4, .inl M.pret))] sX.heap := hP
  have hD : va_D A [(m0, .inr (5, [.int fm, .int tm, .ref m1, .ref m2, .ref m3, .int M.db, .int M.rm, .int (nI M.D), .int (nI M.P), .ref m4, .ref m5, .ref m6, .ref m7, .int (nI at1), .int rdb, .int rrm, .int (nI rD), .int (nI rP), .ref m8, .ref m9, .ref m10, .ref m11, .ref m12, .int (nI mt), .ref m13, .ref m14, .ref m15])), (m4, .inl (cI, 5, .inl M.hard)), (m5, .inl (cI, 4, .inl M.kind)), (m6, .inl (cI, 4, .inl M.wit)), (m7, .inl (cI, 4, .inl M.pat)), (m12, .inl (cI, 4, .inl M.pret))] := hD
  have f_65 := hts (.fieldLink RX5 65 "DunceSeeModel" "pupils" "I") (by decide +kernel)
  have f_68 := hts (.fieldLink RX5 68 "DunceSeeModel" "days" "I") (by decide +kernel)
  have f_104 := hts (.fieldLink RX5 104 "DunceSeeModel" "room" "I") (by decide +kernel)
  have inX5 : ∀ w ∈ wsX50, w ∈ wsX5_tellPlan := fun w h => List.mem_cons_of_mem _ (List.mem_append_right _ h)
  have hD5 : M.D ≤ 5 := hg.1.1
  have hP4 : M.P ≤ 4 := hg.1.2
  refine lv_iload_n hx hb dX5_tellPlan_0 rfl (lv_at hl 1 rfl) ?_
  refine lv_bipush (v := nI 20) hx hb dX5_tellPlan_1 (by decide) ?_
  refine lv_icmp_lt (tgt := 31) hx hb dX5_tellPlan_3 (by decide) (fun c_1 => ?_) (fun c_1 => ?_)
  · refine lv_iload_n hx hb dX5_tellPlan_31 rfl (lv_at hl 1 rfl) ?_
    refine lv_bipush (v := nI 10) hx hb dX5_tellPlan_32 (by decide) ?_
    refine lv_icmp_lt (tgt := 66) hx hb dX5_tellPlan_34 (by decide) (fun c_2 => ?_) (fun c_2 => ?_)
    · refine lv_iload_n hx hb dX5_tellPlan_66 rfl (lv_at hl 1 rfl) ?_
      refine lv_iconst (v := nI 2) hx hb dX5_tellPlan_67 (by decide) ?_
      refine lv_icmp_ge (tgt := 87) hx hb dX5_tellPlan_68 (by decide) (fun c_3 => ?_) (fun c_3 => ?_)
      · refine lv_iconst (v := nI 0) hx hb dX5_tellPlan_87 (by decide) ?_
        refine lv_istore_n (lv' := [(2, .int (nI 0)), (0, .ref m0), (1, .int w)]) hx hb dX5_tellPlan_88 rfl hl (by decide) rfl (fun ls hl => ?_)
        refine lv_iconst (v := nI 0) hx hb dX5_tellPlan_89 (by decide) ?_
        refine lv_istore_n (lv' := [(3, .int (nI 0)), (2, .int (nI 0)), (0, .ref m0), (1, .int w)]) hx hb dX5_tellPlan_90 rfl hl (by decide) rfl (fun ls hl => ?_)
        have loop91 : ∀ (nL k : Nat), k ≤ M.P → M.P < k + nL → ∀ ls : Array Slot, lv_has ls 5 [(0, .ref m0), (1, .int w), (2, .int (sumF (fun p => hrB M p M.D) k)), (3, .int (nI k))] → W pX l eX ({ frames := 7, cells := 0, slots := 0, locals := 166 }) sX mX ([.ref m0, .int w] : List Value).toArray bX tX cX sX.heap [] 0 0 (MQ bX (QI (S := Unit) D (fun r _ => r = ofPlF M w) (fun _ => wMo m0 m1 m2 m3 m4 m5 m6 m7 m8 m9 m10 m11 m12 m13 m14 m15 fm tm at1 rdb rrm rD rP mt M ++ wMa cI m4 m5 m6 m7 m12 M) A) ([.ref m0, .int w] : List Value).toArray sX 0 0 A) (F0 mX 91 ls []) := by
          intro nL
          induction nL with
          | zero => intro k  h1 h2; exact absurd h2 (by omega)
          | succ nL ih =>
            intro k  h_le h_n   ls hl
            refine lv_iload_n hx hb dX5_tellPlan_91 rfl (lv_at hl 3 rfl) ?_
            refine lv_aload_n hx hb dX5_tellPlan_92 rfl (lv_at hl 0 rfl) ?_
            refine va_get (D := D) (ci := 5) (v := .int (nI M.P)) (C := RX5) (T := TX5) (N := 27) hx hb hts inX5 hown hK.1 hP 0 rfl rfl 8 (by decide) f_65 (fun _ h9 => h9) rfl dX5_tellPlan_93 ?_
            refine zk_icmp_ge (tgt := 117) hx hb dX5_tellPlan_96 (by decide) (by omega) (by omega) (fun c_4 => ?_) (fun c_4 => ?_)
            · have e_k : k = M.P := by omega
              rw [e_k] at hl
              refine lv_iconst (v := nI 0) hx hb dX5_tellPlan_117 (by decide) ?_
              refine lv_istore_n (lv' := [(3, .int (nI 0)), (0, .ref m0), (1, .int w), (2, .int (sumF (fun p => hrB M p M.D) M.P))]) hx hb dX5_tellPlan_118 rfl hl (by decide) rfl (fun ls hl => ?_)
              refine lv_iconst (v := nI 0) hx hb dX5_tellPlan_119 (by decide) ?_
              refine lv_istore (lv' := [(4, .int (nI 0)), (3, .int (nI 0)), (0, .ref m0), (1, .int w), (2, .int (sumF (fun p => hrB M p M.D) M.P))]) hx hb dX5_tellPlan_120 hl (by decide) rfl (fun ls hl => ?_)
              have loop122 : ∀ (nL k : Nat), k ≤ M.D → M.D < k + nL → ∀ ls : Array Slot, lv_has ls 5 [(0, .ref m0), (1, .int w), (2, .int (sumF (fun p => hrB M p M.D) M.P)), (3, .int (nI (msk k (crB M)))), (4, .int (nI k))] → W pX l eX ({ frames := 7, cells := 0, slots := 0, locals := 166 }) sX mX ([.ref m0, .int w] : List Value).toArray bX tX cX sX.heap [] 0 0 (MQ bX (QI (S := Unit) D (fun r _ => r = ofPlF M w) (fun _ => wMo m0 m1 m2 m3 m4 m5 m6 m7 m8 m9 m10 m11 m12 m13 m14 m15 fm tm at1 rdb rrm rD rP mt M ++ wMa cI m4 m5 m6 m7 m12 M) A) ([.ref m0, .int w] : List Value).toArray sX 0 0 A) (F0 mX 122 ls []) := by
                intro nL
                induction nL with
                | zero => intro k  h1 h2; exact absurd h2 (by omega)
                | succ nL ih =>
                  intro k  h_le h_n   ls hl
                  have ihd := ih
                  refine lv_iload hx hb dX5_tellPlan_122 (lv_at hl 4 rfl) ?_
                  refine lv_aload_n hx hb dX5_tellPlan_124 rfl (lv_at hl 0 rfl) ?_
                  refine va_get (D := D) (ci := 5) (v := .int (nI M.D)) (C := RX5) (T := TX5) (N := 27) hx hb hts inX5 hown hK.1 hP 0 rfl rfl 7 (by decide) f_68 (fun _ h9 => h9) rfl dX5_tellPlan_125 ?_
                  refine zk_icmp_ge (tgt := 164) hx hb dX5_tellPlan_128 (by decide) (by omega) (by omega) (fun c_5 => ?_) (fun c_5 => ?_)
                  · have e_k2 : k = M.D := by omega
                    rw [e_k2] at hl
                    refine lv_iload_n hx hb dX5_tellPlan_164 rfl (lv_at hl 1 rfl) ?_
                    refine lv_iconst (v := nI 2) hx hb dX5_tellPlan_165 (by decide) ?_
                    refine lv_icmp_ne (tgt := 173) hx hb dX5_tellPlan_166 (by decide) (fun c_6 => ?_) (fun c_6 => ?_)
                    · refine lv_iload_n hx hb dX5_tellPlan_173 rfl (lv_at hl 3 rfl) ?_
                      exact zk_retI hx hb hr hS (()) (by rw [ofPl0 c_2 3 (by omega) (by rcases pl01 hw0 c_2 with q | q | q | q; { rw [q] at c_3; exact absurd c_3 (by decide) }; { rw [q] at c_3; exact absurd c_3 (by decide) }; { exact absurd q c_6 }; { exact q })]; rfl) hP hD dX5_tellPlan_174 hlocks
                    · refine lv_iload_n hx hb dX5_tellPlan_169 rfl (lv_at hl 2 rfl) ?_
                      refine lv_goto (tgt := 174) hx hb dX5_tellPlan_170 (by decide) ?_
                      exact zk_retI hx hb hr hS (()) (by rw [ofPl0 c_2 2 (by omega) c_6]; rfl) hP hD dX5_tellPlan_174 hlocks
                  · refine lv_iload_n hx hb dX5_tellPlan_131 rfl (lv_at hl 3 rfl) ?_
                    refine lv_aload_n hx hb dX5_tellPlan_132 rfl (lv_at hl 0 rfl) ?_
                    refine lv_iload hx hb dX5_tellPlan_133 (lv_at hl 4 rfl) ?_
                    refine zk_callVi (As := [.int (nI k)]) (rest := [.int (nI (msk k (crB M)))]) (nI (msk M.P (wd M k))) ⟨hx, hb, hml, hown, hts⟩ hK hP [0, 1, 2, 3, 4, 5] rfl (m_wouldsOn l D cI m0 m1 m2 m3 m4 m5 m6 m7 m8 m9 m10 m11 m12 m13 m14 m15 fm tm at1 rdb rrm rD rP mt M k (hg.1) (by omega)) (cwV 1 hts gX5_tellPlan_X5_wouldsOn rfl rfl rfl hdX5_wouldsOn ⟨Nat.le_of_ble_eq_true rfl, Nat.le_of_ble_eq_true rfl⟩) rfl rfl rfl hl.1 rfl (Nat.le_of_ble_eq_true rfl) dX5_tellPlan_135 ⟨Nat.le_of_ble_eq_true rfl, Nat.le_of_ble_eq_true rfl⟩ ?_
                    refine zk_callSi (As := [.int (nI (msk M.P (wd M k)))]) (rest := [.int (nI (msk k (crB M)))]) (nI (pop (msk M.P (wd M k)))) ⟨hx, hb, hml, hown, hts⟩ hK hP [] rfl (m_size l D cI (msk M.P (wd M k)) (msk32 hP4)) (va_cwS 1 hts gX5_tellPlan_X5_size rfl rfl rfl hdX5_size ⟨Nat.le_of_ble_eq_true rfl, Nat.le_of_ble_eq_true rfl⟩) rfl hl.1 rfl (Nat.le_of_ble_eq_true rfl) dX5_tellPlan_138 ⟨Nat.le_of_ble_eq_true rfl, Nat.le_of_ble_eq_true rfl⟩ ?_
                    refine zk_top (y := nI (cnt M.P (wd M k))) (by rw [pop_msk (by omega)]) ?_
                    refine lv_aload_n hx hb dX5_tellPlan_141 rfl (lv_at hl 0 rfl) ?_
                    refine va_get (D := D) (ci := 5) (v := .int M.rm) (C := RX5) (T := TX5) (N := 27) hx hb hts inX5 hown hK.1 hP 0 rfl rfl 6 (by decide) f_104 (fun _ h9 => h9) rfl dX5_tellPlan_142 ?_
                    refine lv_icmp_le (tgt := 155) hx hb dX5_tellPlan_145 (by decide) (fun c_7 => ?_) (fun c_7 => ?_)
                    · refine lv_iconst (v := nI 0) hx hb dX5_tellPlan_155 (by decide) ?_
                      refine lv_ior hx hb dX5_tellPlan_156 ?_
                      refine lv_istore_n (lv' := [(3, .int ((nI (msk k (crB M))) ||| (nI 0))), (0, .ref m0), (1, .int w), (2, .int (sumF (fun p => hrB M p M.D) M.P)), (4, .int (nI k))]) hx hb dX5_tellPlan_157 rfl hl (by decide) rfl (fun ls hl => ?_)
                      refine lv_iinc (v := nI (k + 1)) (lv' := [(4, .int (nI (k + 1))), (3, .int ((nI (msk k (crB M))) ||| (nI 0))), (0, .ref m0), (1, .int w), (2, .int (sumF (fun p => hrB M p M.D) M.P))]) hx hb dX5_tellPlan_158 hl (k := 4) rfl (by rw [show (Int32.ofInt 1) = nI 1 from by decide, nI_add]) (by decide) rfl (fun ls hl => ?_)
                      refine lv_goto (tgt := 122) hx hb dX5_tellPlan_161 (by decide) ?_
                      have hl := lv_sub hl [2, 3, 4, 1, 0] rfl
                      have e_3 : (nI (msk k (crB M))) ||| (nI 0) = nI (msk (k + 1) (crB M)) := (or0 k (by omega) _ (msk_lt k _)).trans (msk_no (show crB M k = false from decide_eq_false (Int32.not_lt.mpr c_7)))
                      rw [e_3] at hl
                      exact ihd (k + 1)  (by omega) (by omega)   ls hl
                    · have c_7 := Int32.not_le.mp c_7
                      refine lv_iconst (v := nI 1) hx hb dX5_tellPlan_148 (by decide) ?_
                      refine lv_iload hx hb dX5_tellPlan_149 (lv_at hl 4 rfl) ?_
                      refine lv_ishl hx hb dX5_tellPlan_151 ?_
                      refine lv_goto (tgt := 156) hx hb dX5_tellPlan_152 (by decide) ?_
                      refine lv_ior hx hb dX5_tellPlan_156 ?_
                      refine lv_istore_n (lv' := [(3, .int ((nI (msk k (crB M))) ||| ((nI 1) <<< ((nI k) &&& 31)))), (0, .ref m0), (1, .int w), (2, .int (sumF (fun p => hrB M p M.D) M.P)), (4, .int (nI k))]) hx hb dX5_tellPlan_157 rfl hl (by decide) rfl (fun ls hl => ?_)
                      refine lv_iinc (v := nI (k + 1)) (lv' := [(4, .int (nI (k + 1))), (3, .int ((nI (msk k (crB M))) ||| ((nI 1) <<< ((nI k) &&& 31)))), (0, .ref m0), (1, .int w), (2, .int (sumF (fun p => hrB M p M.D) M.P))]) hx hb dX5_tellPlan_158 hl (k := 4) rfl (by rw [show (Int32.ofInt 1) = nI 1 from by decide, nI_add]) (by decide) rfl (fun ls hl => ?_)
                      refine lv_goto (tgt := 122) hx hb dX5_tellPlan_161 (by decide) ?_
                      have hl := lv_sub hl [2, 3, 4, 1, 0] rfl
                      have e_3 : (nI (msk k (crB M))) ||| ((nI 1) <<< ((nI k) &&& 31)) = nI (msk (k + 1) (crB M)) := msk_or (by omega) (show crB M k = true from decide_eq_true c_7)
                      rw [e_3] at hl
                      exact ihd (k + 1)  (by omega) (by omega)   ls hl
              have hl := lv_sub hl [2, 3, 4, 1, 0] rfl
              have e_3 : nI 0 = nI (msk 0 (crB M)) := by rfl
              have hl : lv_has ls 5 [(0, .ref m0), (1, .int w), (2, .int (sumF (fun p => hrB M p M.D) M.P)), (3, .int (nI (msk 0 (crB M)))), (4, .int (nI 0))] := by
                first | exact hl | (rw [← e_3]; exact hl) | (simp only [e_3] at hl ⊢; exact hl)
              exact loop122 (M.D + 1) 0  (by omega) (by omega)   ls hl
            · refine lv_iload_n hx hb dX5_tellPlan_99 rfl (lv_at hl 2 rfl) ?_
              refine lv_aload_n hx hb dX5_tellPlan_100 rfl (lv_at hl 0 rfl) ?_
              refine lv_iload_n hx hb dX5_tellPlan_101 rfl (lv_at hl 3 rfl) ?_
              refine lv_aload_n hx hb dX5_tellPlan_102 rfl (lv_at hl 0 rfl) ?_
              refine va_get (D := D) (ci := 5) (v := .int (nI M.D)) (C := RX5) (T := TX5) (N := 27) hx hb hts inX5 hown hK.1 hP 0 rfl rfl 7 (by decide) f_68 (fun _ h9 => h9) rfl dX5_tellPlan_103 ?_
              refine zk_callVi (As := [.int (nI k), .int (nI M.D)]) (rest := [.int (sumF (fun p => hrB M p M.D) k)]) (hrB M k M.D) ⟨hx, hb, hml, hown, hts⟩ hK hP [0, 1, 2, 3, 4, 5] rfl (m_hoursBehind l D cI m0 m1 m2 m3 m4 m5 m6 m7 m8 m9 m10 m11 m12 m13 m14 m15 fm tm at1 rdb rrm rD rP mt M k M.D hg (by omega) (Nat.le_refl _)) (cwV 2 hts gX5_tellPlan_X5_hoursBehind rfl rfl rfl hdX5_hoursBehind ⟨Nat.le_of_ble_eq_true rfl, Nat.le_of_ble_eq_true rfl⟩) rfl rfl rfl hl.1 rfl (Nat.le_of_ble_eq_true rfl) dX5_tellPlan_106 ⟨Nat.le_of_ble_eq_true rfl, Nat.le_of_ble_eq_true rfl⟩ ?_
              refine lv_iadd hx hb dX5_tellPlan_109 ?_
              refine lv_istore_n (lv' := [(2, .int ((sumF (fun p => hrB M p M.D) k) + (hrB M k M.D))), (0, .ref m0), (1, .int w), (3, .int (nI k))]) hx hb dX5_tellPlan_110 rfl hl (by decide) rfl (fun ls hl => ?_)
              refine lv_iinc (v := nI (k + 1)) (lv' := [(3, .int (nI (k + 1))), (2, .int ((sumF (fun p => hrB M p M.D) k) + (hrB M k M.D))), (0, .ref m0), (1, .int w)]) hx hb dX5_tellPlan_111 hl (k := 3) rfl (by rw [show (Int32.ofInt 1) = nI 1 from by decide, nI_add]) (by decide) rfl (fun ls hl => ?_)
              refine lv_goto (tgt := 91) hx hb dX5_tellPlan_114 (by decide) ?_
              have hl := lv_sub hl [2, 3, 1, 0] rfl
              have e_2 : (sumF (fun p => hrB M p M.D) k) + (hrB M k M.D) = sumF (fun p => hrB M p M.D) (k + 1) := rfl
              rw [e_2] at hl
              exact ih (k + 1)  (by omega) (by omega)   ls hl
        have hl := lv_sub hl [2, 3, 1, 0] rfl
        have e_2 : nI 0 = sumF (fun p => hrB M p M.D) 0 := rfl
        have hl : lv_has ls 5 [(0, .ref m0), (1, .int w), (2, .int (sumF (fun p => hrB M p M.D) 0)), (3, .int (nI 0))] := by
          first | exact hl | (rw [← e_2]; exact hl) | (simp only [e_2] at hl ⊢; exact hl)
        exact loop91 (M.P + 1) 0  (by omega) (by omega)   ls hl
      · have c_3 := Int32.not_le.mp c_3
        refine lv_iload_n hx hb dX5_tellPlan_71 rfl (lv_at hl 1 rfl) ?_
        refine lv_if_ne (tgt := 82) hx hb dX5_tellPlan_72 (by decide) (fun c_8 => ?_) (fun c_8 => ?_)
        · refine lv_aload_n hx hb dX5_tellPlan_82 rfl (lv_at hl 0 rfl) ?_
          refine zk_effVi (As := []) (rest := []) (S := Unit) (fun r _ => r = fstB M.P (rsB M) 0) (fun _ => wMo m0 m1 m2 m3 m4 m5 m6 m7 m8 m9 m10 m11 m12 m13 m14 m15 fm tm at1 rdb rrm rD rP mt M ++ wMa cI m4 m5 m6 m7 m12 M) ⟨hx, hb, hml, hown, hts⟩ hK hP hD hS hA [0, 1, 2, 3, 4, 5] [] (wc := [(m0, .inr (5, [.int fm, .int tm, .ref m1, .ref m2, .ref m3, .int M.db, .int M.rm, .int (nI M.D), .int (nI M.P), .ref m4, .ref m5, .ref m6, .ref m7, .int (nI at1), .int rdb, .int rrm, .int (nI rD), .int (nI rP), .ref m8, .ref m9, .ref m10, .ref m11, .ref m12, .int (nI mt), .ref m13, .ref m14, .ref m15])), (m4, .inl (cI, 5, .inl M.hard)), (m5, .inl (cI, 4, .inl M.kind)), (m6, .inl (cI, 4, .inl M.wit)), (m7, .inl (cI, 4, .inl M.pat)), (m12, .inl (cI, 4, .inl M.pret))]) (wr := []) rfl rfl (by decide) (by decide) (by decide) [0, 1, 2, 3, 4, 5] (fun (_ : Unit) => [(m0, .inr (5, [.int fm, .int tm, .ref m1, .ref m2, .ref m3, .int M.db, .int M.rm, .int (nI M.D), .int (nI M.P), .ref m4, .ref m5, .ref m6, .ref m7, .int (nI at1), .int rdb, .int rrm, .int (nI rD), .int (nI rP), .ref m8, .ref m9, .ref m10, .ref m11, .ref m12, .int (nI mt), .ref m13, .ref m14, .ref m15])), (m4, .inl (cI, 5, .inl M.hard)), (m5, .inl (cI, 4, .inl M.kind)), (m6, .inl (cI, 4, .inl M.wit)), (m7, .inl (cI, 4, .inl M.pat)), (m12, .inl (cI, 4, .inl M.pret))]) (fun _ => rfl) (by decide) (m_firstRestless l D cI sX.heap.size m0 m1 m2 m3 m4 m5 m6 m7 m8 m9 m10 m11 m12 m13 m14 m15 fm tm at1 rdb rrm rD rP mt M hg) (cwV 0 hts gX5_tellPlan_X5_firstRestless rfl rfl rfl hdX5_firstRestless ⟨Nat.le_of_ble_eq_true rfl, Nat.le_of_ble_eq_true rfl⟩) rfl rfl rfl hl.1 rfl (Nat.le_of_ble_eq_true rfl) dX5_tellPlan_83 ⟨Nat.le_of_ble_eq_true rfl, Nat.le_of_ble_eq_true rfl⟩ (fun r_9 _ H locs hw_10 hP hD hS => ?_)
          have e_r_9 : r_9 = fstB M.P (rsB M) 0 := hw_10
          rw [e_r_9]
          exact zk_retI hx hb hr hS (()) ((ofPl0 c_2 1 (by omega) (by rcases pl01 hw0 c_2 with q | q | q | q; { exact absurd (q.trans nI_0) c_8 }; { exact q }; { rw [q] at c_3; exact absurd c_3 (by decide) }; { rw [q] at c_3; exact absurd c_3 (by decide) })).symm) hP hD dX5_tellPlan_86 hlocks
        · refine lv_aload_n hx hb dX5_tellPlan_75 rfl (lv_at hl 0 rfl) ?_
          refine zk_callVi (As := []) (rest := []) (bish M) ⟨hx, hb, hml, hown, hts⟩ hK hP [0, 1, 2, 3, 4, 5] rfl (m_bishopNow l D cI m0 m1 m2 m3 m4 m5 m6 m7 m8 m9 m10 m11 m12 m13 m14 m15 fm tm at1 rdb rrm rD rP mt M hg) (cwV 0 hts gX5_tellPlan_X5_bishopNow rfl rfl rfl hdX5_bishopNow ⟨Nat.le_of_ble_eq_true rfl, Nat.le_of_ble_eq_true rfl⟩) rfl rfl rfl hl.1 rfl (Nat.le_of_ble_eq_true rfl) dX5_tellPlan_76 ⟨Nat.le_of_ble_eq_true rfl, Nat.le_of_ble_eq_true rfl⟩ ?_
          refine lv_goto (tgt := 86) hx hb dX5_tellPlan_79 (by decide) ?_
          exact zk_retI hx hb hr hS (()) ((ofPl0 c_2 0 (by omega) (c_8.trans nI_0.symm)).symm) hP hD dX5_tellPlan_86 hlocks
    · have c_2 := Int32.not_lt.mp c_2
      refine lv_aload_n hx hb dX5_tellPlan_37 rfl (lv_at hl 0 rfl) ?_
      refine lv_iload_n hx hb dX5_tellPlan_38 rfl (lv_at hl 1 rfl) ?_
      refine lv_bipush (v := nI 10) hx hb dX5_tellPlan_39 (by decide) ?_
      refine lv_isub hx hb dX5_tellPlan_41 ?_
      refine zk_callVi (As := [.int (w - (nI 10))]) (rest := []) (bI (isP M.P (w - (nI 10)))) ⟨hx, hb, hml, hown, hts⟩ hK hP [0, 1, 2, 3, 4, 5] rfl (m_isPupil l D cI m0 m1 m2 m3 m4 m5 m6 m7 m8 m9 m10 m11 m12 m13 m14 m15 fm tm at1 rdb rrm rD rP mt M (w - (nI 10)) ) (cwV 1 hts gX5_tellPlan_X5_isPupil rfl rfl rfl hdX5_isPupil ⟨Nat.le_of_ble_eq_true rfl, Nat.le_of_ble_eq_true rfl⟩) rfl rfl rfl hl.1 rfl (Nat.le_of_ble_eq_true rfl) dX5_tellPlan_42 ⟨Nat.le_of_ble_eq_true rfl, Nat.le_of_ble_eq_true rfl⟩ ?_
      refine zk_ifeqB (tgt := 63) hx hb dX5_tellPlan_45 (by decide) (fun c_11 => ?_) (fun c_11 => ?_)
      · refine lv_bipush (v := (-9)) hx hb dX5_tellPlan_63 (by decide) ?_
        exact zk_retI hx hb hr hS (()) (by unfold ofPlF; rw [if_neg (Int32.not_le.mpr c_1), if_pos c_2, c_11]; rfl) hP hD dX5_tellPlan_65 hlocks
      · obtain ⟨j, hj, e_j, g_j⟩ := isP_of (by omega) c_11
        refine lv_aload_n hx hb dX5_tellPlan_48 rfl (lv_at hl 0 rfl) ?_
        refine lv_iload_n hx hb dX5_tellPlan_49 rfl (lv_at hl 1 rfl) ?_
        refine lv_bipush (v := nI 10) hx hb dX5_tellPlan_50 (by decide) ?_
        refine lv_isub hx hb dX5_tellPlan_52 ?_
        refine zk_top (y := nI j) e_j ?_
        refine lv_aload_n hx hb dX5_tellPlan_53 rfl (lv_at hl 0 rfl) ?_
        refine va_get (D := D) (ci := 5) (v := .int (nI M.D)) (C := RX5) (T := TX5) (N := 27) hx hb hts inX5 hown hK.1 hP 0 rfl rfl 7 (by decide) f_68 (fun _ h9 => h9) rfl dX5_tellPlan_54 ?_
        refine zk_callVi (As := [.int (nI j), .int (nI M.D)]) (rest := []) (hrB M j M.D) ⟨hx, hb, hml, hown, hts⟩ hK hP [0, 1, 2, 3, 4, 5] rfl (m_hoursBehind l D cI m0 m1 m2 m3 m4 m5 m6 m7 m8 m9 m10 m11 m12 m13 m14 m15 fm tm at1 rdb rrm rD rP mt M j M.D hg hj (Nat.le_refl _)) (cwV 2 hts gX5_tellPlan_X5_hoursBehind rfl rfl rfl hdX5_hoursBehind ⟨Nat.le_of_ble_eq_true rfl, Nat.le_of_ble_eq_true rfl⟩) rfl rfl rfl hl.1 rfl (Nat.le_of_ble_eq_true rfl) dX5_tellPlan_57 ⟨Nat.le_of_ble_eq_true rfl, Nat.le_of_ble_eq_true rfl⟩ ?_
        refine lv_goto (tgt := 65) hx hb dX5_tellPlan_60 (by decide) ?_
        exact zk_retI hx hb hr hS (()) (by unfold ofPlF; rw [if_neg (Int32.not_le.mpr c_1), if_pos c_2, c_11, g_j]; rfl) hP hD dX5_tellPlan_65 hlocks
  · have c_1 := Int32.not_lt.mp c_1
    refine lv_aload_n hx hb dX5_tellPlan_6 rfl (lv_at hl 0 rfl) ?_
    refine lv_iload_n hx hb dX5_tellPlan_7 rfl (lv_at hl 1 rfl) ?_
    refine lv_bipush (v := nI 20) hx hb dX5_tellPlan_8 (by decide) ?_
    refine lv_isub hx hb dX5_tellPlan_10 ?_
    refine zk_callVi (As := [.int (w - (nI 20))]) (rest := []) (bI (isP M.D (w - (nI 20)))) ⟨hx, hb, hml, hown, hts⟩ hK hP [0, 1, 2, 3, 4, 5] rfl (m_isDay l D cI m0 m1 m2 m3 m4 m5 m6 m7 m8 m9 m10 m11 m12 m13 m14 m15 fm tm at1 rdb rrm rD rP mt M (w - (nI 20)) ) (cwV 1 hts gX5_tellPlan_X5_isDay rfl rfl rfl hdX5_isDay ⟨Nat.le_of_ble_eq_true rfl, Nat.le_of_ble_eq_true rfl⟩) rfl rfl rfl hl.1 rfl (Nat.le_of_ble_eq_true rfl) dX5_tellPlan_11 ⟨Nat.le_of_ble_eq_true rfl, Nat.le_of_ble_eq_true rfl⟩ ?_
    refine zk_ifeqB (tgt := 28) hx hb dX5_tellPlan_14 (by decide) (fun c_12 => ?_) (fun c_12 => ?_)
    · refine lv_bipush (v := (-9)) hx hb dX5_tellPlan_28 (by decide) ?_
      exact zk_retI hx hb hr hS (()) (by unfold ofPlF; rw [if_pos c_1, c_12]; rfl) hP hD dX5_tellPlan_30 hlocks
    · obtain ⟨j, hj, e_j, g_j⟩ := isP_of (by omega) c_12
      refine lv_aload_n hx hb dX5_tellPlan_17 rfl (lv_at hl 0 rfl) ?_
      refine lv_iload_n hx hb dX5_tellPlan_18 rfl (lv_at hl 1 rfl) ?_
      refine lv_bipush (v := nI 20) hx hb dX5_tellPlan_19 (by decide) ?_
      refine lv_isub hx hb dX5_tellPlan_21 ?_
      refine zk_top (y := nI j) e_j ?_
      refine zk_callVi (As := [.int (nI j)]) (rest := []) (nI (msk M.P (std M j))) ⟨hx, hb, hml, hown, hts⟩ hK hP [0, 1, 2, 3, 4, 5] rfl (m_standsOn l D cI m0 m1 m2 m3 m4 m5 m6 m7 m8 m9 m10 m11 m12 m13 m14 m15 fm tm at1 rdb rrm rD rP mt M j hg (by omega)) (cwV 1 hts gX5_tellPlan_X5_standsOn rfl rfl rfl hdX5_standsOn ⟨Nat.le_of_ble_eq_true rfl, Nat.le_of_ble_eq_true rfl⟩) rfl rfl rfl hl.1 rfl (Nat.le_of_ble_eq_true rfl) dX5_tellPlan_22 ⟨Nat.le_of_ble_eq_true rfl, Nat.le_of_ble_eq_true rfl⟩ ?_
      refine lv_goto (tgt := 30) hx hb dX5_tellPlan_25 (by decide) ?_
      exact zk_retI hx hb hr hS (()) (by unfold ofPlF; rw [if_pos c_1, c_12, g_j]; rfl) hP hD dX5_tellPlan_30 hlocks
set_option maxHeartbeats 4000000 in
set_option maxRecDepth 100000 in
theorem mx_reading (l : Launch) (D : va_G) (cI : ClassId) (sz : Nat) (m0 : Nat) (m1 : Nat) (m2 : Nat) (m3 : Nat) (m4 : Nat) (m5 : Nat) (m6 : Nat) (m7 : Nat) (m8 : Nat) (m9 : Nat) (m10 : Nat) (m11 : Nat) (m12 : Nat) (m13 : Nat) (m14 : Nat) (m15 : Nat) (fm : Int32) (tm : Int32) (at1 : Nat) (rdb : Int32) (rrm : Int32) (rD : Nat) (rP : Nat) (mt : Nat) (M : YS) (mw : Nat → Nat) (mn : Nat → Nat) (mh : Nat → Int32) (p : Int32) (t : Int32) (v : Int32) (hok : OkY M) (hct : mt ≤ 8) : Met l yX5_reading wsX5_reading ({ frames := 1, cells := 0, slots := 0, locals := 22 }) (PQ D cI [.ref m0, .int p, .int t, .int v] ((wMo m0 m1 m2 m3 m4 m5 m6 m7 m8 m9 m10 m11 m12 m13 m14 m15 fm tm at1 rdb rrm rD rP mt M ++ wMa cI m4 m5 m6 m7 m12 M) ++ wMr cI m13 m14 m15 mw mn mh) sz) (QI (S := Unit) D (fun r _ => r = (readingF M mt mw mn mh p t v).1) (fun _ => (wMo m0 m1 m2 m3 m4 m5 m6 m7 m8 m9 m10 m11 m12 m13 m14 m15 fm tm at1 rdb rrm rD rP ((readingF M mt mw mn mh p t v).2.1) M ++ wMa cI m4 m5 m6 m7 m12 M) ++ wMr cI m13 m14 m15 ((readingF M mt mw mn mh p t v).2.2.1) ((readingF M mt mw mn mh p t v).2.2.2.1) ((readingF M mt mw mn mh p t v).2.2.2.2)) (va_A ((wMo m0 m1 m2 m3 m4 m5 m6 m7 m8 m9 m10 m11 m12 m13 m14 m15 fm tm at1 rdb rrm rD rP mt M ++ wMa cI m4 m5 m6 m7 m12 M) ++ wMr cI m13 m14 m15 mw mn mh) sz)) 0 0 (va_A ((wMo m0 m1 m2 m3 m4 m5 m6 m7 m8 m9 m10 m11 m12 m13 m14 m15 fm tm at1 rdb rrm rD rP mt M ++ wMa cI m4 m5 m6 m7 m12 M) ++ wMr cI m13 m14 m15 mw mn mh) sz) := by
  refine zk_Q (QI (S := Unit) D (fun r _ => r = (readingF M mt mw mn mh p t v).1) (fun _ => (wMo m0 m1 m2 m3 m4 m5 m6 m7 m8 m9 m10 m11 m12 m13 m14 m15 fm tm at1 rdb rrm rD rP ((readingF M mt mw mn mh p t v).2.1) M ++ wMa cI m4 m5 m6 m7 m12 M) ++ wMr cI m13 m14 m15 ((readingF M mt mw mn mh p t v).2.2.1) ((readingF M mt mw mn mh p t v).2.2.2.1) ((readingF M mt mw mn mh p t v).2.2.2.2))) (cc := cX5_reading) (maxL := 4) (ret := (some .int)) (by decide) rfl (Nat.le_of_ble_eq_true rfl) ?_
  intro pX eX sX mX bX tX cX hx hb hr hlocks hml hown hmn hts hP hK A hA hD hS ls hl
  have hl : lv_has ls 4 [(0, .ref m0), (1, .int p), (2, .int t), (3, .int v)] := hl
  have hP : va_P D vwCl [(m0, .inr (5, [.int fm, .int tm, .ref m1, .ref m2, .ref m3, .int M.db, .int M.rm, .int (nI M.D), .int (nI M.P), .ref m4, .ref m5, .ref m6, .ref m7, .int (nI at1), .int rdb, .int rrm, .int (nI rD), .int (nI rP), .ref m8, .ref m9, .ref m10, .ref m11, .ref m12, .int (nI mt), .ref m13, .ref m14, .ref m15])), (m4, .inl (cI, 5, .inl M.hard)), (m5, .inl (cI, 4, .inl M.kind)), (m6, .inl (cI, 4, .inl M.wit)), (m7, .inl (cI, 4, .inl M.pat)), (m12, .inl (cI, 4, .inl M.pret)), (m13, .inl (cI, 8, .inl (fun q9 => nI (mw q9)))), (m14, .inl (cI, 8, .inl (fun q9 => nI (mn q9)))), (m15, .inl (cI, 8, .inl mh))] sX.heap := hP
  have hD : va_D A [(m0, .inr (5, [.int fm, .int tm, .ref m1, .ref m2, .ref m3, .int M.db, .int M.rm, .int (nI M.D), .int (nI M.P), .ref m4, .ref m5, .ref m6, .ref m7, .int (nI at1), .int rdb, .int rrm, .int (nI rD), .int (nI rP), .ref m8, .ref m9, .ref m10, .ref m11, .ref m12, .int (nI mt), .ref m13, .ref m14, .ref m15])), (m4, .inl (cI, 5, .inl M.hard)), (m5, .inl (cI, 4, .inl M.kind)), (m6, .inl (cI, 4, .inl M.wit)), (m7, .inl (cI, 4, .inl M.pat)), (m12, .inl (cI, 4, .inl M.pret)), (m13, .inl (cI, 8, .inl (fun q9 => nI (mw q9)))), (m14, .inl (cI, 8, .inl (fun q9 => nI (mn q9)))), (m15, .inl (cI, 8, .inl mh))] := hD
  have f_68 := hts (.fieldLink RX5 68 "DunceSeeModel" "days" "I") (by decide +kernel)
  have f_113 := hts (.fieldLink RX5 113 "DunceSeeModel" "readings" "I") (by decide +kernel)
  have f_46 := hts (.fieldLink RX5 46 "DunceSeeModel" "readWho" "[I") (by decide +kernel)
  have f_49 := hts (.fieldLink RX5 49 "DunceSeeModel" "readWhen" "[I") (by decide +kernel)
  have f_52 := hts (.fieldLink RX5 52 "DunceSeeModel" "readHours" "[I") (by decide +kernel)
  have inX5 : ∀ w ∈ wsX50, w ∈ wsX5_reading := fun w h => List.mem_cons_of_mem _ (List.mem_append_right _ h)
  have hD5 : M.D ≤ 5 := hok.1
  have hP4 : M.P ≤ 4 := hok.2
  refine lv_aload_n hx hb dX5_reading_0 rfl (lv_at hl 0 rfl) ?_
  refine lv_iload_n hx hb dX5_reading_1 rfl (lv_at hl 1 rfl) ?_
  refine zk_callVi (As := [.int p]) (rest := []) (bI (isP M.P p)) ⟨hx, hb, hml, hown, hts⟩ hK hP [0, 1, 2, 3, 4, 5] rfl (m_isPupil l D cI m0 m1 m2 m3 m4 m5 m6 m7 m8 m9 m10 m11 m12 m13 m14 m15 fm tm at1 rdb rrm rD rP mt M p ) (cwV 1 hts gX5_reading_X5_isPupil rfl rfl rfl hdX5_isPupil ⟨Nat.le_of_ble_eq_true rfl, Nat.le_of_ble_eq_true rfl⟩) rfl rfl rfl hl.1 rfl (Nat.le_of_ble_eq_true rfl) dX5_reading_2 ⟨Nat.le_of_ble_eq_true rfl, Nat.le_of_ble_eq_true rfl⟩ ?_
  refine zk_ifneB (tgt := 10) hx hb dX5_reading_5 (by decide) (fun c_1 => ?_) (fun c_1 => ?_)
  · obtain ⟨j, hj, e_j, g_j⟩ := isP_of (by omega) c_1
    rw [e_j] at hl
    refine lv_iload_n hx hb dX5_reading_10 rfl (lv_at hl 2 rfl) ?_
    refine lv_iconst (v := nI 0) hx hb dX5_reading_11 (by decide) ?_
    refine lv_aload_n hx hb dX5_reading_12 rfl (lv_at hl 0 rfl) ?_
    refine va_get (D := D) (ci := 5) (v := .int (nI M.D)) (C := RX5) (T := TX5) (N := 27) hx hb hts inX5 hown hK.1 hP 0 rfl rfl 7 (by decide) f_68 (fun _ h9 => h9) rfl dX5_reading_13 ?_
    refine zk_callSi (As := [.int t, .int (nI 0), .int (nI M.D)]) (rest := []) (bI (wiB t (nI 0) (nI M.D))) ⟨hx, hb, hml, hown, hts⟩ hK hP [] rfl (m_within l D cI t (nI 0) (nI M.D) ) (va_cwS 3 hts gX5_reading_X5_within rfl rfl rfl hdX5_within ⟨Nat.le_of_ble_eq_true rfl, Nat.le_of_ble_eq_true rfl⟩) rfl hl.1 rfl (Nat.le_of_ble_eq_true rfl) dX5_reading_16 ⟨Nat.le_of_ble_eq_true rfl, Nat.le_of_ble_eq_true rfl⟩ ?_
    refine zk_ifeqB (tgt := 32) hx hb dX5_reading_19 (by decide) (fun c_2 => ?_) (fun c_2 => ?_)
    · have c_t : (decide (0 ≤ t) && decide (t ≤ nI M.D)) = false := by rw [← wiB0]; exact c_2
      refine lv_bipush (v := (-2)) hx hb dX5_reading_32 (by decide) ?_
      have e_t : readingF M mt mw mn mh p t v = ((-2), mt, mw, mn, mh) := by simp [readingF, c_1, g_j, c_t]
      exact zk_retI hx hb hr hS (()) (by rw [e_t]) (by rw [e_t]; exact hP) (by rw [e_t]; exact hD) dX5_reading_34 hlocks
    · have c_t : (decide (0 ≤ t) && decide (t ≤ nI M.D)) = true := by rw [← wiB0]; exact c_2
      have h_t := c_t
      rw [Bool.and_eq_true, decide_eq_true_eq, decide_eq_true_eq] at h_t
      obtain ⟨i, h_i, e_i, g_i⟩ := le_of (by omega) h_t.1 h_t.2
      rw [e_i] at hl
      refine lv_iload_n hx hb dX5_reading_22 rfl (lv_at hl 3 rfl) ?_
      refine lv_iconst (v := nI 0) hx hb dX5_reading_23 (by decide) ?_
      refine lv_bipush (v := nI 99) hx hb dX5_reading_24 (by decide) ?_
      refine zk_callSi (As := [.int v, .int (nI 0), .int (nI 99)]) (rest := []) (bI (wiB v (nI 0) (nI 99))) ⟨hx, hb, hml, hown, hts⟩ hK hP [] rfl (m_within l D cI v (nI 0) (nI 99) ) (va_cwS 3 hts gX5_reading_X5_within rfl rfl rfl hdX5_within ⟨Nat.le_of_ble_eq_true rfl, Nat.le_of_ble_eq_true rfl⟩) rfl hl.1 rfl (Nat.le_of_ble_eq_true rfl) dX5_reading_26 ⟨Nat.le_of_ble_eq_true rfl, Nat.le_of_ble_eq_true rfl⟩ ?_
      refine zk_ifneB (tgt := 35) hx hb dX5_reading_29 (by decide) (fun c_3 => ?_) (fun c_3 => ?_)
      · have c_v : (decide (0 ≤ v) && decide (v ≤ nI 99)) = true := by rw [← wiB0]; exact c_3
        refine lv_aload_n hx hb dX5_reading_35 rfl (lv_at hl 0 rfl) ?_
        refine va_get (D := D) (ci := 5) (v := .int (nI mt)) (C := RX5) (T := TX5) (N := 27) hx hb hts inX5 hown hK.1 hP 0 rfl rfl 23 (by decide) f_113 (fun _ h9 => h9) rfl dX5_reading_36 ?_
        refine lv_bipush (v := nI 8) hx hb dX5_reading_39 (by decide) ?_
        refine zk_icmp_ne (tgt := 47) hx hb dX5_reading_41 (by decide) (by omega) (by omega) (fun c_4 => ?_) (fun c_4 => ?_)
        · have c_8 : mt < 8 := by omega
          refine lv_aload_n hx hb dX5_reading_47 rfl (lv_at hl 0 rfl) ?_
          refine va_get (D := D) (ci := 5) (v := .ref m13) (C := RX5) (T := TX5) (N := 27) hx hb hts inX5 hown hK.1 hP 0 rfl rfl 24 (by decide) f_46 (fun _ h9 => h9) rfl dX5_reading_48 ?_
          refine lv_aload_n hx hb dX5_reading_51 rfl (lv_at hl 0 rfl) ?_
          refine va_get (D := D) (ci := 5) (v := .int (nI mt)) (C := RX5) (T := TX5) (N := 27) hx hb hts inX5 hown hK.1 hP 0 rfl rfl 23 (by decide) f_113 (fun _ h9 => h9) rfl dX5_reading_52 ?_
          refine lv_iload_n hx hb dX5_reading_55 rfl (lv_at hl 1 rfl) ?_
          refine zk_iast (x := nI j) hx hb hK hP hD hS 6 rfl (by omega) (by decide) dX5_reading_56 (fun H locs hP hD hS => ?_)
          have hP : va_P D vwCl [(m0, .inr (5, [.int fm, .int tm, .ref m1, .ref m2, .ref m3, .int M.db, .int M.rm, .int (nI M.D), .int (nI M.P), .ref m4, .ref m5, .ref m6, .ref m7, .int (nI at1), .int rdb, .int rrm, .int (nI rD), .int (nI rP), .ref m8, .ref m9, .ref m10, .ref m11, .ref m12, .int (nI mt), .ref m13, .ref m14, .ref m15])), (m4, .inl (cI, 5, .inl M.hard)), (m5, .inl (cI, 4, .inl M.kind)), (m6, .inl (cI, 4, .inl M.wit)), (m7, .inl (cI, 4, .inl M.pat)), (m12, .inl (cI, 4, .inl M.pret)), (m13, .inl (cI, 8, .inl (upd (fun q9 => nI (mw q9)) mt (nI j)))), (m14, .inl (cI, 8, .inl (fun q9 => nI (mn q9)))), (m15, .inl (cI, 8, .inl mh))] H := hP
          have hD : va_D A [(m0, .inr (5, [.int fm, .int tm, .ref m1, .ref m2, .ref m3, .int M.db, .int M.rm, .int (nI M.D), .int (nI M.P), .ref m4, .ref m5, .ref m6, .ref m7, .int (nI at1), .int rdb, .int rrm, .int (nI rD), .int (nI rP), .ref m8, .ref m9, .ref m10, .ref m11, .ref m12, .int (nI mt), .ref m13, .ref m14, .ref m15])), (m4, .inl (cI, 5, .inl M.hard)), (m5, .inl (cI, 4, .inl M.kind)), (m6, .inl (cI, 4, .inl M.wit)), (m7, .inl (cI, 4, .inl M.pat)), (m12, .inl (cI, 4, .inl M.pret)), (m13, .inl (cI, 8, .inl (upd (fun q9 => nI (mw q9)) mt (nI j)))), (m14, .inl (cI, 8, .inl (fun q9 => nI (mn q9)))), (m15, .inl (cI, 8, .inl mh))] := hD
          rw [updN_e] at hP hD
          refine lv_aload_n hx hb dX5_reading_57 rfl (lv_at hl 0 rfl) ?_
          refine va_get (D := D) (ci := 5) (v := .ref m14) (C := RX5) (T := TX5) (N := 27) hx hb hts inX5 hown hK.1 hP 0 rfl rfl 25 (by decide) f_49 (fun _ h9 => h9) rfl dX5_reading_58 ?_
          refine lv_aload_n hx hb dX5_reading_61 rfl (lv_at hl 0 rfl) ?_
          refine va_get (D := D) (ci := 5) (v := .int (nI mt)) (C := RX5) (T := TX5) (N := 27) hx hb hts inX5 hown hK.1 hP 0 rfl rfl 23 (by decide) f_113 (fun _ h9 => h9) rfl dX5_reading_62 ?_
          refine lv_iload_n hx hb dX5_reading_65 rfl (lv_at hl 2 rfl) ?_
          refine zk_iast (x := nI i) hx hb hK hP hD hS 7 rfl (by omega) (by decide) dX5_reading_66 (fun H locs hP hD hS => ?_)
          have hP : va_P D vwCl [(m0, .inr (5, [.int fm, .int tm, .ref m1, .ref m2, .ref m3, .int M.db, .int M.rm, .int (nI M.D), .int (nI M.P), .ref m4, .ref m5, .ref m6, .ref m7, .int (nI at1), .int rdb, .int rrm, .int (nI rD), .int (nI rP), .ref m8, .ref m9, .ref m10, .ref m11, .ref m12, .int (nI mt), .ref m13, .ref m14, .ref m15])), (m4, .inl (cI, 5, .inl M.hard)), (m5, .inl (cI, 4, .inl M.kind)), (m6, .inl (cI, 4, .inl M.wit)), (m7, .inl (cI, 4, .inl M.pat)), (m12, .inl (cI, 4, .inl M.pret)), (m13, .inl (cI, 8, .inl (fun q9 => nI (updN mw mt j q9)))), (m14, .inl (cI, 8, .inl (upd (fun q9 => nI (mn q9)) mt (nI i)))), (m15, .inl (cI, 8, .inl mh))] H := hP
          have hD : va_D A [(m0, .inr (5, [.int fm, .int tm, .ref m1, .ref m2, .ref m3, .int M.db, .int M.rm, .int (nI M.D), .int (nI M.P), .ref m4, .ref m5, .ref m6, .ref m7, .int (nI at1), .int rdb, .int rrm, .int (nI rD), .int (nI rP), .ref m8, .ref m9, .ref m10, .ref m11, .ref m12, .int (nI mt), .ref m13, .ref m14, .ref m15])), (m4, .inl (cI, 5, .inl M.hard)), (m5, .inl (cI, 4, .inl M.kind)), (m6, .inl (cI, 4, .inl M.wit)), (m7, .inl (cI, 4, .inl M.pat)), (m12, .inl (cI, 4, .inl M.pret)), (m13, .inl (cI, 8, .inl (fun q9 => nI (updN mw mt j q9)))), (m14, .inl (cI, 8, .inl (upd (fun q9 => nI (mn q9)) mt (nI i)))), (m15, .inl (cI, 8, .inl mh))] := hD
          rw [updN_e] at hP hD
          refine lv_aload_n hx hb dX5_reading_67 rfl (lv_at hl 0 rfl) ?_
          refine va_get (D := D) (ci := 5) (v := .ref m15) (C := RX5) (T := TX5) (N := 27) hx hb hts inX5 hown hK.1 hP 0 rfl rfl 26 (by decide) f_52 (fun _ h9 => h9) rfl dX5_reading_68 ?_
          refine lv_aload_n hx hb dX5_reading_71 rfl (lv_at hl 0 rfl) ?_
          refine va_get (D := D) (ci := 5) (v := .int (nI mt)) (C := RX5) (T := TX5) (N := 27) hx hb hts inX5 hown hK.1 hP 0 rfl rfl 23 (by decide) f_113 (fun _ h9 => h9) rfl dX5_reading_72 ?_
          refine lv_iload_n hx hb dX5_reading_75 rfl (lv_at hl 3 rfl) ?_
          refine zk_iast (x := v) hx hb hK hP hD hS 8 rfl (by omega) (by decide) dX5_reading_76 (fun H locs hP hD hS => ?_)
          have hP : va_P D vwCl [(m0, .inr (5, [.int fm, .int tm, .ref m1, .ref m2, .ref m3, .int M.db, .int M.rm, .int (nI M.D), .int (nI M.P), .ref m4, .ref m5, .ref m6, .ref m7, .int (nI at1), .int rdb, .int rrm, .int (nI rD), .int (nI rP), .ref m8, .ref m9, .ref m10, .ref m11, .ref m12, .int (nI mt), .ref m13, .ref m14, .ref m15])), (m4, .inl (cI, 5, .inl M.hard)), (m5, .inl (cI, 4, .inl M.kind)), (m6, .inl (cI, 4, .inl M.wit)), (m7, .inl (cI, 4, .inl M.pat)), (m12, .inl (cI, 4, .inl M.pret)), (m13, .inl (cI, 8, .inl (fun q9 => nI (updN mw mt j q9)))), (m14, .inl (cI, 8, .inl (fun q9 => nI (updN mn mt i q9)))), (m15, .inl (cI, 8, .inl (upd mh mt v)))] H := hP
          have hD : va_D A [(m0, .inr (5, [.int fm, .int tm, .ref m1, .ref m2, .ref m3, .int M.db, .int M.rm, .int (nI M.D), .int (nI M.P), .ref m4, .ref m5, .ref m6, .ref m7, .int (nI at1), .int rdb, .int rrm, .int (nI rD), .int (nI rP), .ref m8, .ref m9, .ref m10, .ref m11, .ref m12, .int (nI mt), .ref m13, .ref m14, .ref m15])), (m4, .inl (cI, 5, .inl M.hard)), (m5, .inl (cI, 4, .inl M.kind)), (m6, .inl (cI, 4, .inl M.wit)), (m7, .inl (cI, 4, .inl M.pat)), (m12, .inl (cI, 4, .inl M.pret)), (m13, .inl (cI, 8, .inl (fun q9 => nI (updN mw mt j q9)))), (m14, .inl (cI, 8, .inl (fun q9 => nI (updN mn mt i q9)))), (m15, .inl (cI, 8, .inl (upd mh mt v)))] := hD
          refine lv_aload_n hx hb dX5_reading_77 rfl (lv_at hl 0 rfl) ?_
          refine lv_dup hx hb dX5_reading_78 rfl ?_
          refine va_get (D := D) (ci := 5) (v := .int (nI mt)) (C := RX5) (T := TX5) (N := 27) hx hb hts inX5 hown hK.1 hP 0 rfl rfl 23 (by decide) f_113 (fun _ h9 => h9) rfl dX5_reading_79 ?_
          refine lv_iconst (v := nI 1) hx hb dX5_reading_82 (by decide) ?_
          refine zk_iaddN hx hb dX5_reading_83 ?_
          refine va_put (D := D) (ci := 5) (v := .int (nI (mt + 1))) (ty := .int) (C := RX5) (T := TX5) (N := 27) hx hb hts inX5 tyX5 tyX5_ok nmX5 hown hK.1 hP hD hS 0 rfl rfl 23 (by decide) f_113 (fun _ h9 => h9) rfl (by decide +kernel) rfl rfl (Nat.le_of_ble_eq_true rfl) dX5_reading_84 (fun H locs hP hD hS => ?_)
          have hP : va_P D vwCl [(m0, .inr (5, [.int fm, .int tm, .ref m1, .ref m2, .ref m3, .int M.db, .int M.rm, .int (nI M.D), .int (nI M.P), .ref m4, .ref m5, .ref m6, .ref m7, .int (nI at1), .int rdb, .int rrm, .int (nI rD), .int (nI rP), .ref m8, .ref m9, .ref m10, .ref m11, .ref m12, .int (nI (mt + 1)), .ref m13, .ref m14, .ref m15])), (m4, .inl (cI, 5, .inl M.hard)), (m5, .inl (cI, 4, .inl M.kind)), (m6, .inl (cI, 4, .inl M.wit)), (m7, .inl (cI, 4, .inl M.pat)), (m12, .inl (cI, 4, .inl M.pret)), (m13, .inl (cI, 8, .inl (fun q9 => nI (updN mw mt j q9)))), (m14, .inl (cI, 8, .inl (fun q9 => nI (updN mn mt i q9)))), (m15, .inl (cI, 8, .inl (upd mh mt v)))] H := hP
          have hD : va_D A [(m0, .inr (5, [.int fm, .int tm, .ref m1, .ref m2, .ref m3, .int M.db, .int M.rm, .int (nI M.D), .int (nI M.P), .ref m4, .ref m5, .ref m6, .ref m7, .int (nI at1), .int rdb, .int rrm, .int (nI rD), .int (nI rP), .ref m8, .ref m9, .ref m10, .ref m11, .ref m12, .int (nI (mt + 1)), .ref m13, .ref m14, .ref m15])), (m4, .inl (cI, 5, .inl M.hard)), (m5, .inl (cI, 4, .inl M.kind)), (m6, .inl (cI, 4, .inl M.wit)), (m7, .inl (cI, 4, .inl M.pat)), (m12, .inl (cI, 4, .inl M.pret)), (m13, .inl (cI, 8, .inl (fun q9 => nI (updN mw mt j q9)))), (m14, .inl (cI, 8, .inl (fun q9 => nI (updN mn mt i q9)))), (m15, .inl (cI, 8, .inl (upd mh mt v)))] := hD
          refine lv_aload_n hx hb dX5_reading_87 rfl (lv_at hl 0 rfl) ?_
          refine va_get (D := D) (ci := 5) (v := .int (nI (mt + 1))) (C := RX5) (T := TX5) (N := 27) hx hb hts inX5 hown hK.1 hP 0 rfl rfl 23 (by decide) f_113 (fun _ h9 => h9) rfl dX5_reading_88 ?_
          refine lv_iconst (v := nI 1) hx hb dX5_reading_91 (by decide) ?_
          refine zk_isubN hx hb (by omega) dX5_reading_92 ?_
          have e_t : readingF M mt mw mn mh p t v = (nI mt, mt + 1, updN mw mt j, updN mn mt i, upd mh mt v) := by simp [readingF, c_1, g_j, c_t, g_i, c_v, c_4, c_8]
          exact zk_retI hx hb hr hS (()) (by rw [e_t]; rfl) (by rw [e_t]; exact hP) (by rw [e_t]; exact hD) dX5_reading_93 hlocks
        · have c_8 : ¬ mt < 8 := by omega
          refine lv_bipush (v := (-4)) hx hb dX5_reading_44 (by decide) ?_
          have e_t : readingF M mt mw mn mh p t v = ((-4), mt, mw, mn, mh) := by simp [readingF, c_1, g_j, c_t, g_i, c_v, c_4, c_8]
          exact zk_retI hx hb hr hS (()) (by rw [e_t]) (by rw [e_t]; exact hP) (by rw [e_t]; exact hD) dX5_reading_46 hlocks
      · have c_v : (decide (0 ≤ v) && decide (v ≤ nI 99)) = false := by rw [← wiB0]; exact c_3
        refine lv_bipush (v := (-2)) hx hb dX5_reading_32 (by decide) ?_
        have e_t : readingF M mt mw mn mh p t v = ((-2), mt, mw, mn, mh) := by simp [readingF, c_1, g_j, c_t, g_i, c_v]
        exact zk_retI hx hb hr hS (()) (by rw [e_t]) (by rw [e_t]; exact hP) (by rw [e_t]; exact hD) dX5_reading_34 hlocks
  · refine lv_iconst (v := (-1)) hx hb dX5_reading_8 (by decide) ?_
    have e_t : readingF M mt mw mn mh p t v = ((-1), mt, mw, mn, mh) := by simp [readingF, c_1]
    exact zk_retI hx hb hr hS (()) (by rw [e_t]) (by rw [e_t]; exact hP) (by rw [e_t]; exact hD) dX5_reading_9 hlocks
set_option maxHeartbeats 4000000 in
set_option maxRecDepth 100000 in
theorem mx_back (l : Launch) (D : va_G) (cI : ClassId) (sz : Nat) (m0 : Nat) (m1 : Nat) (m2 : Nat) (m3 : Nat) (m4 : Nat) (m5 : Nat) (m6 : Nat) (m7 : Nat) (m8 : Nat) (m9 : Nat) (m10 : Nat) (m11 : Nat) (m12 : Nat) (m13 : Nat) (m14 : Nat) (m15 : Nat) (fm : Int32) (tm : Int32) (at1 : Nat) (rdb : Int32) (rrm : Int32) (rD : Nat) (rP : Nat) (mt : Nat) (M : YS) (k : Int32) (hct : mt ≤ 8) : Met l yX5_back wsX5_back ({ frames := 1, cells := 0, slots := 0, locals := 22 }) (PQ D cI [.ref m0, .int k] (wMo m0 m1 m2 m3 m4 m5 m6 m7 m8 m9 m10 m11 m12 m13 m14 m15 fm tm at1 rdb rrm rD rP mt M) sz) (QI (S := Unit) D (fun r _ => r = (backF mt k).1) (fun _ => wMo m0 m1 m2 m3 m4 m5 m6 m7 m8 m9 m10 m11 m12 m13 m14 m15 fm tm at1 rdb rrm rD rP ((backF mt k).2) M) (va_A (wMo m0 m1 m2 m3 m4 m5 m6 m7 m8 m9 m10 m11 m12 m13 m14 m15 fm tm at1 rdb rrm rD rP mt M) sz)) 0 0 (va_A (wMo m0 m1 m2 m3 m4 m5 m6 m7 m8 m9 m10 m11 m12 m13 m14 m15 fm tm at1 rdb rrm rD rP mt M) sz) := by
  refine zk_Q (QI (S := Unit) D (fun r _ => r = (backF mt k).1) (fun _ => wMo m0 m1 m2 m3 m4 m5 m6 m7 m8 m9 m10 m11 m12 m13 m14 m15 fm tm at1 rdb rrm rD rP ((backF mt k).2) M)) (cc := cX5_back) (maxL := 2) (ret := (some .int)) (by decide) rfl (Nat.le_of_ble_eq_true rfl) ?_
  intro pX eX sX mX bX tX cX hx hb hr hlocks hml hown hmn hts hP hK A hA hD hS ls hl
  have hl : lv_has ls 2 [(0, .ref m0), (1, .int k)] := hl
  have hP : va_P D vwCl [(m0, .inr (5, [.int fm, .int tm, .ref m1, .ref m2, .ref m3, .int M.db, .int M.rm, .int (nI M.D), .int (nI M.P), .ref m4, .ref m5, .ref m6, .ref m7, .int (nI at1), .int rdb, .int rrm, .int (nI rD), .int (nI rP), .ref m8, .ref m9, .ref m10, .ref m11, .ref m12, .int (nI mt), .ref m13, .ref m14, .ref m15]))] sX.heap := hP
  have hD : va_D A [(m0, .inr (5, [.int fm, .int tm, .ref m1, .ref m2, .ref m3, .int M.db, .int M.rm, .int (nI M.D), .int (nI M.P), .ref m4, .ref m5, .ref m6, .ref m7, .int (nI at1), .int rdb, .int rrm, .int (nI rD), .int (nI rP), .ref m8, .ref m9, .ref m10, .ref m11, .ref m12, .int (nI mt), .ref m13, .ref m14, .ref m15]))] := hD
  have f_113 := hts (.fieldLink RX5 113 "DunceSeeModel" "readings" "I") (by decide +kernel)
  have inX5 : ∀ w ∈ wsX50, w ∈ wsX5_back := fun w h => List.mem_cons_of_mem _ (List.mem_append_right _ h)
  refine lv_iload_n hx hb dX5_back_0 rfl (lv_at hl 1 rfl) ?_
  refine lv_iconst (v := nI 0) hx hb dX5_back_1 (by decide) ?_
  refine lv_aload_n hx hb dX5_back_2 rfl (lv_at hl 0 rfl) ?_
  refine va_get (D := D) (ci := 5) (v := .int (nI mt)) (C := RX5) (T := TX5) (N := 27) hx hb hts inX5 hown hK.1 hP 0 rfl rfl 23 (by decide) f_113 (fun _ h9 => h9) rfl dX5_back_3 ?_
  refine zk_callSi (As := [.int k, .int (nI 0), .int (nI mt)]) (rest := []) (bI (wiB k (nI 0) (nI mt))) ⟨hx, hb, hml, hown, hts⟩ hK hP [] rfl (m_within l D cI k (nI 0) (nI mt) ) (va_cwS 3 hts gX5_back_X5_within rfl rfl rfl hdX5_within ⟨Nat.le_of_ble_eq_true rfl, Nat.le_of_ble_eq_true rfl⟩) rfl hl.1 rfl (Nat.le_of_ble_eq_true rfl) dX5_back_6 ⟨Nat.le_of_ble_eq_true rfl, Nat.le_of_ble_eq_true rfl⟩ ?_
  refine zk_ifneB (tgt := 15) hx hb dX5_back_9 (by decide) (fun c_1 => ?_) (fun c_1 => ?_)
  · have c_k : (decide (0 ≤ k) && decide (k ≤ nI mt)) = true := by rw [← wiB0]; exact c_1
    have h_k := c_k
    rw [Bool.and_eq_true, decide_eq_true_eq, decide_eq_true_eq] at h_k
    obtain ⟨i, h_i, e_i, g_i⟩ := le_of (by omega) h_k.1 h_k.2
    rw [e_i] at hl
    refine lv_aload_n hx hb dX5_back_15 rfl (lv_at hl 0 rfl) ?_
    refine lv_dup hx hb dX5_back_16 rfl ?_
    refine va_get (D := D) (ci := 5) (v := .int (nI mt)) (C := RX5) (T := TX5) (N := 27) hx hb hts inX5 hown hK.1 hP 0 rfl rfl 23 (by decide) f_113 (fun _ h9 => h9) rfl dX5_back_17 ?_
    refine lv_iload_n hx hb dX5_back_20 rfl (lv_at hl 1 rfl) ?_
    refine zk_isubN hx hb (by omega) dX5_back_21 ?_
    refine va_put (D := D) (ci := 5) (v := .int (nI (mt - i))) (ty := .int) (C := RX5) (T := TX5) (N := 27) hx hb hts inX5 tyX5 tyX5_ok nmX5 hown hK.1 hP hD hS 0 rfl rfl 23 (by decide) f_113 (fun _ h9 => h9) rfl (by decide +kernel) rfl rfl (Nat.le_of_ble_eq_true rfl) dX5_back_22 (fun H locs hP hD hS => ?_)
    have hP : va_P D vwCl [(m0, .inr (5, [.int fm, .int tm, .ref m1, .ref m2, .ref m3, .int M.db, .int M.rm, .int (nI M.D), .int (nI M.P), .ref m4, .ref m5, .ref m6, .ref m7, .int (nI at1), .int rdb, .int rrm, .int (nI rD), .int (nI rP), .ref m8, .ref m9, .ref m10, .ref m11, .ref m12, .int (nI (mt - i)), .ref m13, .ref m14, .ref m15]))] H := hP
    have hD : va_D A [(m0, .inr (5, [.int fm, .int tm, .ref m1, .ref m2, .ref m3, .int M.db, .int M.rm, .int (nI M.D), .int (nI M.P), .ref m4, .ref m5, .ref m6, .ref m7, .int (nI at1), .int rdb, .int rrm, .int (nI rD), .int (nI rP), .ref m8, .ref m9, .ref m10, .ref m11, .ref m12, .int (nI (mt - i)), .ref m13, .ref m14, .ref m15]))] := hD
    refine lv_aload_n hx hb dX5_back_25 rfl (lv_at hl 0 rfl) ?_
    refine va_get (D := D) (ci := 5) (v := .int (nI (mt - i))) (C := RX5) (T := TX5) (N := 27) hx hb hts inX5 hown hK.1 hP 0 rfl rfl 23 (by decide) f_113 (fun _ h9 => h9) rfl dX5_back_26 ?_
    have e_t : backF mt k = (nI (mt - i), mt - i) := by simp [backF, c_k, g_i]
    exact zk_retI hx hb hr hS (()) (by rw [e_t]) (by rw [e_t]; exact hP) (by rw [e_t]; exact hD) dX5_back_29 hlocks
  · have c_k : (decide (0 ≤ k) && decide (k ≤ nI mt)) = false := by rw [← wiB0]; exact c_1
    refine lv_bipush (v := (-2)) hx hb dX5_back_12 (by decide) ?_
    have e_t : backF mt k = ((-2), mt) := by simp [backF, c_k]
    exact zk_retI hx hb hr hS (()) (by rw [e_t]) (by rw [e_t]; exact hP) (by rw [e_t]; exact hD) dX5_back_14 hlocks
set_option maxHeartbeats 4000000 in
set_option maxRecDepth 100000 in
theorem m_areSo (l : Launch) (D : va_G) (cI : ClassId) (sz : Nat) (m0 : Nat) (m1 : Nat) (m2 : Nat) (m3 : Nat) (m4 : Nat) (m5 : Nat) (m6 : Nat) (m7 : Nat) (m8 : Nat) (m9 : Nat) (m10 : Nat) (m11 : Nat) (m12 : Nat) (m13 : Nat) (m14 : Nat) (m15 : Nat) (fm : Int32) (tm : Int32) (at1 : Nat) (rdb : Int32) (rrm : Int32) (rD : Nat) (rP : Nat) (mt : Nat) (M : YS) (mw : Nat → Nat) (mn : Nat → Nat) (mh : Nat → Int32) (hg : GdY M) (hct : mt ≤ 8) (hrd : ∀ r, r < mt → mw r < M.P ∧ mn r ≤ M.D) : Met l yX5_areSo wsX5_areSo ({ frames := 5, cells := 0, slots := 0, locals := 120 }) (PQ D cI [.ref m0] ((wMo m0 m1 m2 m3 m4 m5 m6 m7 m8 m9 m10 m11 m12 m13 m14 m15 fm tm at1 rdb rrm rD rP mt M ++ wMa cI m4 m5 m6 m7 m12 M) ++ wMr cI m13 m14 m15 mw mn mh) sz) (QI (S := Unit) D (fun r _ => r = bI (soY M.np mt mw mn mh)) (fun _ => (wMo m0 m1 m2 m3 m4 m5 m6 m7 m8 m9 m10 m11 m12 m13 m14 m15 fm tm at1 rdb rrm rD rP mt M.np ++ wMa cI m4 m5 m6 m7 m12 M.np) ++ wMr cI m13 m14 m15 mw mn mh) (va_A ((wMo m0 m1 m2 m3 m4 m5 m6 m7 m8 m9 m10 m11 m12 m13 m14 m15 fm tm at1 rdb rrm rD rP mt M ++ wMa cI m4 m5 m6 m7 m12 M) ++ wMr cI m13 m14 m15 mw mn mh) sz)) 0 0 (va_A ((wMo m0 m1 m2 m3 m4 m5 m6 m7 m8 m9 m10 m11 m12 m13 m14 m15 fm tm at1 rdb rrm rD rP mt M ++ wMa cI m4 m5 m6 m7 m12 M) ++ wMr cI m13 m14 m15 mw mn mh) sz) := by
  refine zk_Q (QI (S := Unit) D (fun r _ => r = bI (soY M.np mt mw mn mh)) (fun _ => (wMo m0 m1 m2 m3 m4 m5 m6 m7 m8 m9 m10 m11 m12 m13 m14 m15 fm tm at1 rdb rrm rD rP mt M.np ++ wMa cI m4 m5 m6 m7 m12 M.np) ++ wMr cI m13 m14 m15 mw mn mh)) (cc := cX5_areSo) (maxL := 2) (ret := (some .boolean)) (by decide) rfl (Nat.le_of_ble_eq_true rfl) ?_
  intro pX eX sX mX bX tX cX hx hb hr hlocks hml hown hmn hts hP hK A hA hD hS ls hl
  have hl : lv_has ls 2 [(0, .ref m0)] := hl
  have hP : va_P D vwCl [(m0, .inr (5, [.int fm, .int tm, .ref m1, .ref m2, .ref m3, .int M.db, .int M.rm, .int (nI M.D), .int (nI M.P), .ref m4, .ref m5, .ref m6, .ref m7, .int (nI at1), .int rdb, .int rrm, .int (nI rD), .int (nI rP), .ref m8, .ref m9, .ref m10, .ref m11, .ref m12, .int (nI mt), .ref m13, .ref m14, .ref m15])), (m4, .inl (cI, 5, .inl M.hard)), (m5, .inl (cI, 4, .inl M.kind)), (m6, .inl (cI, 4, .inl M.wit)), (m7, .inl (cI, 4, .inl M.pat)), (m12, .inl (cI, 4, .inl M.pret)), (m13, .inl (cI, 8, .inl (fun q9 => nI (mw q9)))), (m14, .inl (cI, 8, .inl (fun q9 => nI (mn q9)))), (m15, .inl (cI, 8, .inl mh))] sX.heap := hP
  have hD : va_D A [(m0, .inr (5, [.int fm, .int tm, .ref m1, .ref m2, .ref m3, .int M.db, .int M.rm, .int (nI M.D), .int (nI M.P), .ref m4, .ref m5, .ref m6, .ref m7, .int (nI at1), .int rdb, .int rrm, .int (nI rD), .int (nI rP), .ref m8, .ref m9, .ref m10, .ref m11, .ref m12, .int (nI mt), .ref m13, .ref m14, .ref m15])), (m4, .inl (cI, 5, .inl M.hard)), (m5, .inl (cI, 4, .inl M.kind)), (m6, .inl (cI, 4, .inl M.wit)), (m7, .inl (cI, 4, .inl M.pat)), (m12, .inl (cI, 4, .inl M.pret)), (m13, .inl (cI, 8, .inl (fun q9 => nI (mw q9)))), (m14, .inl (cI, 8, .inl (fun q9 => nI (mn q9)))), (m15, .inl (cI, 8, .inl mh))] := hD
  have f_113 := hts (.fieldLink RX5 113 "DunceSeeModel" "readings" "I") (by decide +kernel)
  have f_46 := hts (.fieldLink RX5 46 "DunceSeeModel" "readWho" "[I") (by decide +kernel)
  have f_49 := hts (.fieldLink RX5 49 "DunceSeeModel" "readWhen" "[I") (by decide +kernel)
  have f_52 := hts (.fieldLink RX5 52 "DunceSeeModel" "readHours" "[I") (by decide +kernel)
  have inX5 : ∀ w ∈ wsX50, w ∈ wsX5_areSo := fun w h => List.mem_cons_of_mem _ (List.mem_append_right _ h)
  have hD5 : M.D ≤ 5 := hg.1.1
  have hP4 : M.P ≤ 4 := hg.1.2
  refine lv_aload_n hx hb dX5_areSo_0 rfl (lv_at hl 0 rfl) ?_
  refine zk_effVv (As := []) (rest := []) (S := Unit) (fun _ => True) (fun _ => wMo m0 m1 m2 m3 m4 m5 m6 m7 m8 m9 m10 m11 m12 m13 m14 m15 fm tm at1 rdb rrm rD rP mt M.np ++ wMa cI m4 m5 m6 m7 m12 M.np) ⟨hx, hb, hml, hown, hts⟩ hK hP hD hS hA [0, 1, 2, 3, 4, 5] [6, 7, 8] (wc := [(m0, .inr (5, [.int fm, .int tm, .ref m1, .ref m2, .ref m3, .int M.db, .int M.rm, .int (nI M.D), .int (nI M.P), .ref m4, .ref m5, .ref m6, .ref m7, .int (nI at1), .int rdb, .int rrm, .int (nI rD), .int (nI rP), .ref m8, .ref m9, .ref m10, .ref m11, .ref m12, .int (nI mt), .ref m13, .ref m14, .ref m15])), (m4, .inl (cI, 5, .inl M.hard)), (m5, .inl (cI, 4, .inl M.kind)), (m6, .inl (cI, 4, .inl M.wit)), (m7, .inl (cI, 4, .inl M.pat)), (m12, .inl (cI, 4, .inl M.pret))]) (wr := [(m13, .inl (cI, 8, .inl (fun q9 => nI (mw q9)))), (m14, .inl (cI, 8, .inl (fun q9 => nI (mn q9)))), (m15, .inl (cI, 8, .inl mh))]) rfl rfl (by decide) (by decide) (by decide) [3, 4, 5, 6, 7, 8, 0, 1, 2] (fun (_ : Unit) => [(m0, .inr (5, [.int fm, .int tm, .ref m1, .ref m2, .ref m3, .int M.np.db, .int M.np.rm, .int (nI M.np.D), .int (nI M.np.P), .ref m4, .ref m5, .ref m6, .ref m7, .int (nI at1), .int rdb, .int rrm, .int (nI rD), .int (nI rP), .ref m8, .ref m9, .ref m10, .ref m11, .ref m12, .int (nI mt), .ref m13, .ref m14, .ref m15])), (m4, .inl (cI, 5, .inl M.np.hard)), (m5, .inl (cI, 4, .inl M.np.kind)), (m6, .inl (cI, 4, .inl M.np.wit)), (m7, .inl (cI, 4, .inl M.np.pat)), (m12, .inl (cI, 4, .inl M.np.pret)), (m13, .inl (cI, 8, .inl (fun q9 => nI (mw q9)))), (m14, .inl (cI, 8, .inl (fun q9 => nI (mn q9)))), (m15, .inl (cI, 8, .inl mh))]) (fun _ => rfl) (by decide) (m_nobody l D cI sX.heap.size m0 m1 m2 m3 m4 m5 m6 m7 m8 m9 m10 m11 m12 m13 m14 m15 fm tm at1 rdb rrm rD rP mt M ) (cwV 0 hts gX5_areSo_X5_nobody rfl rfl rfl hdX5_nobody ⟨Nat.le_of_ble_eq_true rfl, Nat.le_of_ble_eq_true rfl⟩) rfl rfl rfl hl.1 rfl (Nat.le_of_ble_eq_true rfl) dX5_areSo_1 ⟨Nat.le_of_ble_eq_true rfl, Nat.le_of_ble_eq_true rfl⟩ (fun _ H locs hw_2 hP hD hS => ?_)
  refine lv_iconst (v := nI 0) hx hb dX5_areSo_4 (by decide) ?_
  refine lv_istore_n (lv' := [(1, .int (nI 0)), (0, .ref m0)]) hx hb dX5_areSo_5 rfl hl (by decide) rfl (fun ls hl => ?_)
  have loop6 : ∀ (nL k : Nat), k ≤ mt → mt < k + nL → (∀ i, i < k → (fun r => decide (hrB M.np (mw r) (mn r) = mh r)) i = true) → ∀ ls : Array Slot, lv_has ls 2 [(0, .ref m0), (1, .int (nI k))] → W pX l eX ({ frames := 5, cells := 0, slots := 0, locals := 120 }) sX mX ([.ref m0] : List Value).toArray bX tX cX H locs 0 0 (MQ bX (QI (S := Unit) D (fun r _ => r = bI (soY M.np mt mw mn mh)) (fun _ => (wMo m0 m1 m2 m3 m4 m5 m6 m7 m8 m9 m10 m11 m12 m13 m14 m15 fm tm at1 rdb rrm rD rP mt M.np ++ wMa cI m4 m5 m6 m7 m12 M.np) ++ wMr cI m13 m14 m15 mw mn mh) A) ([.ref m0] : List Value).toArray sX 0 0 A) (F0 mX 6 ls []) := by
    intro nL
    induction nL with
    | zero => intro k  h1 h2; exact absurd h2 (by omega)
    | succ nL ih =>
      intro k  h_le h_n hall  ls hl
      refine lv_iload_n hx hb dX5_areSo_6 rfl (lv_at hl 1 rfl) ?_
      refine lv_aload_n hx hb dX5_areSo_7 rfl (lv_at hl 0 rfl) ?_
      refine va_get (D := D) (ci := 5) (v := .int (nI mt)) (C := RX5) (T := TX5) (N := 27) hx hb hts inX5 hown hK.1 hP 0 rfl rfl 23 (by decide) f_113 (fun _ h9 => h9) rfl dX5_areSo_8 ?_
      refine zk_icmp_ge (tgt := 47) hx hb dX5_areSo_11 (by decide) (by omega) (by omega) (fun c_3 => ?_) (fun c_3 => ?_)
      · refine lv_iconst (v := nI 1) hx hb dX5_areSo_47 (by decide) ?_
        exact zk_retB hx hb hr nI_nar1 hS (()) (by unfold soY; rw [allB_iff.mpr (fun i h => hall i (by omega))]; rfl) hP hD dX5_areSo_48 hlocks
      · refine lv_aload_n hx hb dX5_areSo_14 rfl (lv_at hl 0 rfl) ?_
        refine lv_aload_n hx hb dX5_areSo_15 rfl (lv_at hl 0 rfl) ?_
        refine va_get (D := D) (ci := 5) (v := .ref m13) (C := RX5) (T := TX5) (N := 27) hx hb hts inX5 hown hK.1 hP 0 rfl rfl 24 (by decide) f_46 (fun _ h9 => h9) rfl dX5_areSo_16 ?_
        refine lv_iload_n hx hb dX5_areSo_19 rfl (lv_at hl 1 rfl) ?_
        refine zk_iald hx hb hK hP 6 rfl (by omega) (by decide) dX5_areSo_20 ?_
        refine zk_top (y := nI (mw k)) rfl ?_
        refine lv_aload_n hx hb dX5_areSo_21 rfl (lv_at hl 0 rfl) ?_
        refine va_get (D := D) (ci := 5) (v := .ref m14) (C := RX5) (T := TX5) (N := 27) hx hb hts inX5 hown hK.1 hP 0 rfl rfl 25 (by decide) f_49 (fun _ h9 => h9) rfl dX5_areSo_22 ?_
        refine lv_iload_n hx hb dX5_areSo_25 rfl (lv_at hl 1 rfl) ?_
        refine zk_iald hx hb hK hP 7 rfl (by omega) (by decide) dX5_areSo_26 ?_
        refine zk_top (y := nI (mn k)) rfl ?_
        refine zk_callVi (As := [.int (nI (mw k)), .int (nI (mn k))]) (rest := []) (hrB M.np (mw k) (mn k)) ⟨hx, hb, hml, hown, hts⟩ hK hP [0, 1, 2, 3, 4, 5] rfl (m_hoursBehind l D cI m0 m1 m2 m3 m4 m5 m6 m7 m8 m9 m10 m11 m12 m13 m14 m15 fm tm at1 rdb rrm rD rP mt M.np (mw k) (mn k) hg ((hrd k (by omega)).1) ((hrd k (by omega)).2)) (cwV 2 hts gX5_areSo_X5_hoursBehind rfl rfl rfl hdX5_hoursBehind ⟨Nat.le_of_ble_eq_true rfl, Nat.le_of_ble_eq_true rfl⟩) rfl rfl rfl hl.1 rfl (Nat.le_of_ble_eq_true rfl) dX5_areSo_27 ⟨Nat.le_of_ble_eq_true rfl, Nat.le_of_ble_eq_true rfl⟩ ?_
        refine lv_aload_n hx hb dX5_areSo_30 rfl (lv_at hl 0 rfl) ?_
        refine va_get (D := D) (ci := 5) (v := .ref m15) (C := RX5) (T := TX5) (N := 27) hx hb hts inX5 hown hK.1 hP 0 rfl rfl 26 (by decide) f_52 (fun _ h9 => h9) rfl dX5_areSo_31 ?_
        refine lv_iload_n hx hb dX5_areSo_34 rfl (lv_at hl 1 rfl) ?_
        refine zk_iald hx hb hK hP 8 rfl (by omega) (by decide) dX5_areSo_35 ?_
        refine lv_icmp_eq (tgt := 41) hx hb dX5_areSo_36 (by decide) (fun c_4 => ?_) (fun c_4 => ?_)
        · refine lv_iinc (v := nI (k + 1)) (lv' := [(1, .int (nI (k + 1))), (0, .ref m0)]) hx hb dX5_areSo_41 hl (k := 1) rfl (by rw [show (Int32.ofInt 1) = nI 1 from by decide, nI_add]) (by decide) rfl (fun ls hl => ?_)
          refine lv_goto (tgt := 6) hx hb dX5_areSo_44 (by decide) ?_
          exact ih (k + 1)  (by omega) (by omega) (fun i h => by by_cases e : i = k; { subst e; exact decide_eq_true c_4 }; { exact hall i (by omega) })  ls (lv_sub hl [1, 0] rfl)
        · refine lv_iconst (v := nI 0) hx hb dX5_areSo_39 (by decide) ?_
          exact zk_retB hx hb hr nI_nar0 hS (()) (by unfold soY; rw [allB_f (k := k) (by omega) (decide_eq_false c_4)]; rfl) hP hD dX5_areSo_40 hlocks
  exact loop6 (mt + 1) 0  (by omega) (by omega) (fun i h => by omega)  ls (lv_sub hl [1, 0] rfl)
set_option maxHeartbeats 4000000 in
set_option maxRecDepth 100000 in
theorem mx_wits (l : Launch) (D : va_G) (cI : ClassId) (sz : Nat) (m0 : Nat) (m1 : Nat) (m2 : Nat) (m3 : Nat) (m4 : Nat) (m5 : Nat) (m6 : Nat) (m7 : Nat) (m8 : Nat) (m9 : Nat) (m10 : Nat) (m11 : Nat) (m12 : Nat) (m13 : Nat) (m14 : Nat) (m15 : Nat) (fm : Int32) (tm : Int32) (at1 : Nat) (rdb : Int32) (rrm : Int32) (rD : Nat) (rP : Nat) (mt : Nat) (M : YS) (mw : Nat → Nat) (mn : Nat → Nat) (mh : Nat → Int32) (p : Int32) (hg : GdY M) (hct : mt ≤ 8) (hrd : ∀ r, r < mt → mw r < M.P ∧ mn r ≤ M.D) : Met l yX5_wits wsX5_wits ({ frames := 6, cells := 0, slots := 0, locals := 141 }) (PQ D cI [.ref m0, .int p] ((wMo m0 m1 m2 m3 m4 m5 m6 m7 m8 m9 m10 m11 m12 m13 m14 m15 fm tm at1 rdb rrm rD rP mt M ++ wMa cI m4 m5 m6 m7 m12 M) ++ wMr cI m13 m14 m15 mw mn mh) sz) (QI (S := Nat → Int32) D (fun r _ => r = witsF M mt mw mn mh p) (fun u => (wMo m0 m1 m2 m3 m4 m5 m6 m7 m8 m9 m10 m11 m12 m13 m14 m15 fm tm at1 rdb rrm rD rP mt (M.sPret u) ++ wMa cI m4 m5 m6 m7 m12 (M.sPret u)) ++ wMr cI m13 m14 m15 mw mn mh) (va_A ((wMo m0 m1 m2 m3 m4 m5 m6 m7 m8 m9 m10 m11 m12 m13 m14 m15 fm tm at1 rdb rrm rD rP mt M ++ wMa cI m4 m5 m6 m7 m12 M) ++ wMr cI m13 m14 m15 mw mn mh) sz)) 0 0 (va_A ((wMo m0 m1 m2 m3 m4 m5 m6 m7 m8 m9 m10 m11 m12 m13 m14 m15 fm tm at1 rdb rrm rD rP mt M ++ wMa cI m4 m5 m6 m7 m12 M) ++ wMr cI m13 m14 m15 mw mn mh) sz) := by
  refine zk_Q (QI (S := Nat → Int32) D (fun r _ => r = witsF M mt mw mn mh p) (fun u => (wMo m0 m1 m2 m3 m4 m5 m6 m7 m8 m9 m10 m11 m12 m13 m14 m15 fm tm at1 rdb rrm rD rP mt (M.sPret u) ++ wMa cI m4 m5 m6 m7 m12 (M.sPret u)) ++ wMr cI m13 m14 m15 mw mn mh)) (cc := cX5_wits) (maxL := 5) (ret := (some .int)) (by decide) rfl (Nat.le_of_ble_eq_true rfl) ?_
  intro pX eX sX mX bX tX cX hx hb hr hlocks hml hown hmn hts hP hK A hA hD hS ls hl
  have hl : lv_has ls 5 [(0, .ref m0), (1, .int p)] := hl
  have hP : va_P D vwCl [(m0, .inr (5, [.int fm, .int tm, .ref m1, .ref m2, .ref m3, .int M.db, .int M.rm, .int (nI M.D), .int (nI M.P), .ref m4, .ref m5, .ref m6, .ref m7, .int (nI at1), .int rdb, .int rrm, .int (nI rD), .int (nI rP), .ref m8, .ref m9, .ref m10, .ref m11, .ref m12, .int (nI mt), .ref m13, .ref m14, .ref m15])), (m4, .inl (cI, 5, .inl M.hard)), (m5, .inl (cI, 4, .inl M.kind)), (m6, .inl (cI, 4, .inl M.wit)), (m7, .inl (cI, 4, .inl M.pat)), (m12, .inl (cI, 4, .inl M.pret)), (m13, .inl (cI, 8, .inl (fun q9 => nI (mw q9)))), (m14, .inl (cI, 8, .inl (fun q9 => nI (mn q9)))), (m15, .inl (cI, 8, .inl mh))] sX.heap := hP
  have hD : va_D A [(m0, .inr (5, [.int fm, .int tm, .ref m1, .ref m2, .ref m3, .int M.db, .int M.rm, .int (nI M.D), .int (nI M.P), .ref m4, .ref m5, .ref m6, .ref m7, .int (nI at1), .int rdb, .int rrm, .int (nI rD), .int (nI rP), .ref m8, .ref m9, .ref m10, .ref m11, .ref m12, .int (nI mt), .ref m13, .ref m14, .ref m15])), (m4, .inl (cI, 5, .inl M.hard)), (m5, .inl (cI, 4, .inl M.kind)), (m6, .inl (cI, 4, .inl M.wit)), (m7, .inl (cI, 4, .inl M.pat)), (m12, .inl (cI, 4, .inl M.pret)), (m13, .inl (cI, 8, .inl (fun q9 => nI (mw q9)))), (m14, .inl (cI, 8, .inl (fun q9 => nI (mn q9)))), (m15, .inl (cI, 8, .inl mh))] := hD
  have f_25 := hts (.fieldLink RX5 25 "DunceSeeModel" "wit" "[I") (by decide +kernel)
  have inX5 : ∀ w ∈ wsX50, w ∈ wsX5_wits := fun w h => List.mem_cons_of_mem _ (List.mem_append_right _ h)
  have hD5 : M.D ≤ 5 := hg.1.1
  have hP4 : M.P ≤ 4 := hg.1.2
  refine lv_aload_n hx hb dX5_wits_0 rfl (lv_at hl 0 rfl) ?_
  refine lv_iload_n hx hb dX5_wits_1 rfl (lv_at hl 1 rfl) ?_
  refine zk_callVi (As := [.int p]) (rest := []) (bI (isP M.P p)) ⟨hx, hb, hml, hown, hts⟩ hK hP [0, 1, 2, 3, 4, 5] rfl (m_isPupil l D cI m0 m1 m2 m3 m4 m5 m6 m7 m8 m9 m10 m11 m12 m13 m14 m15 fm tm at1 rdb rrm rD rP mt M p ) (cwV 1 hts gX5_wits_X5_isPupil rfl rfl rfl hdX5_isPupil ⟨Nat.le_of_ble_eq_true rfl, Nat.le_of_ble_eq_true rfl⟩) rfl rfl rfl hl.1 rfl (Nat.le_of_ble_eq_true rfl) dX5_wits_2 ⟨Nat.le_of_ble_eq_true rfl, Nat.le_of_ble_eq_true rfl⟩ ?_
  refine zk_ifneB (tgt := 10) hx hb dX5_wits_5 (by decide) (fun c_1 => ?_) (fun c_1 => ?_)
  · obtain ⟨j, hj, e_j, g_j⟩ := isP_of (by omega) c_1
    rw [e_j] at hl
    refine lv_aload_n hx hb dX5_wits_10 rfl (lv_at hl 0 rfl) ?_
    refine va_get (D := D) (ci := 5) (v := .ref m6) (C := RX5) (T := TX5) (N := 27) hx hb hts inX5 hown hK.1 hP 0 rfl rfl 11 (by decide) f_25 (fun _ h9 => h9) rfl dX5_wits_11 ?_
    refine lv_iload_n hx hb dX5_wits_14 rfl (lv_at hl 1 rfl) ?_
    refine zk_iald hx hb hK hP 3 rfl (by omega) (by decide) dX5_wits_15 ?_
    refine lv_istore_n (lv' := [(2, .int (M.wit j)), (0, .ref m0), (1, .int (nI j))]) hx hb dX5_wits_16 rfl hl (by decide) rfl (fun ls hl => ?_)
    refine lv_iconst (v := nI 0) hx hb dX5_wits_17 (by decide) ?_
    refine lv_istore_n (lv' := [(3, .int (nI 0)), (2, .int (M.wit j)), (0, .ref m0), (1, .int (nI j))]) hx hb dX5_wits_18 rfl hl (by decide) rfl (fun ls hl => ?_)
    refine lv_iconst (v := nI 0) hx hb dX5_wits_19 (by decide) ?_
    refine lv_istore (lv' := [(4, .int (nI 0)), (3, .int (nI 0)), (2, .int (M.wit j)), (0, .ref m0), (1, .int (nI j))]) hx hb dX5_wits_20 hl (by decide) rfl (fun ls hl => ?_)
    have loop22 : ∀ (nL k : Nat) (wt : Nat → Int32) (pt : Nat → Int32), k ≤ 10 → 10 < k + nL → (∀ v, upd wt j v = upd M.wit j v) → ∀ (H : Heap) (locs : List Loc), va_P D vwCl [(m0, .inr (5, [.int fm, .int tm, .ref m1, .ref m2, .ref m3, .int M.db, .int M.rm, .int (nI M.D), .int (nI M.P), .ref m4, .ref m5, .ref m6, .ref m7, .int (nI at1), .int rdb, .int rrm, .int (nI rD), .int (nI rP), .ref m8, .ref m9, .ref m10, .ref m11, .ref m12, .int (nI mt), .ref m13, .ref m14, .ref m15])), (m4, .inl (cI, 5, .inl M.hard)), (m5, .inl (cI, 4, .inl M.kind)), (m6, .inl (cI, 4, .inl wt)), (m7, .inl (cI, 4, .inl M.pat)), (m12, .inl (cI, 4, .inl pt)), (m13, .inl (cI, 8, .inl (fun q9 => nI (mw q9)))), (m14, .inl (cI, 8, .inl (fun q9 => nI (mn q9)))), (m15, .inl (cI, 8, .inl mh))] H → va_D A [(m0, .inr (5, [.int fm, .int tm, .ref m1, .ref m2, .ref m3, .int M.db, .int M.rm, .int (nI M.D), .int (nI M.P), .ref m4, .ref m5, .ref m6, .ref m7, .int (nI at1), .int rdb, .int rrm, .int (nI rD), .int (nI rP), .ref m8, .ref m9, .ref m10, .ref m11, .ref m12, .int (nI mt), .ref m13, .ref m14, .ref m15])), (m4, .inl (cI, 5, .inl M.hard)), (m5, .inl (cI, 4, .inl M.kind)), (m6, .inl (cI, 4, .inl wt)), (m7, .inl (cI, 4, .inl M.pat)), (m12, .inl (cI, 4, .inl pt)), (m13, .inl (cI, 8, .inl (fun q9 => nI (mw q9)))), (m14, .inl (cI, 8, .inl (fun q9 => nI (mn q9)))), (m15, .inl (cI, 8, .inl mh))] → va_S A sX.heap H locs → ∀ ls : Array Slot, lv_has ls 5 [(0, .ref m0), (1, .int (nI j)), (2, .int (M.wit j)), (3, .int (nI (msk k (fun v => soY (M.np.sWit (upd M.wit j (nI v))) mt mw mn mh)))), (4, .int (nI k))] → W pX l eX ({ frames := 6, cells := 0, slots := 0, locals := 141 }) sX mX ([.ref m0, .int p] : List Value).toArray bX tX cX H locs 0 0 (MQ bX (QI (S := Nat → Int32) D (fun r _ => r = witsF M mt mw mn mh p) (fun u => (wMo m0 m1 m2 m3 m4 m5 m6 m7 m8 m9 m10 m11 m12 m13 m14 m15 fm tm at1 rdb rrm rD rP mt (M.sPret u) ++ wMa cI m4 m5 m6 m7 m12 (M.sPret u)) ++ wMr cI m13 m14 m15 mw mn mh) A) ([.ref m0, .int p] : List Value).toArray sX 0 0 A) (F0 mX 22 ls []) := by
      intro nL
      induction nL with
      | zero => intro k wt pt h1 h2; exact absurd h2 (by omega)
      | succ nL ih =>
        intro k wt pt h_le h_n hw H locs hP hD hS ls hl
        refine lv_iload hx hb dX5_wits_22 (lv_at hl 4 rfl) ?_
        refine lv_bipush (v := nI 9) hx hb dX5_wits_24 (by decide) ?_
        refine zk_icmp_gt (tgt := 61) hx hb dX5_wits_26 (by decide) (by omega) (by omega) (fun c_2 => ?_) (fun c_2 => ?_)
        · refine lv_aload_n hx hb dX5_wits_61 rfl (lv_at hl 0 rfl) ?_
          refine va_get (D := D) (ci := 5) (v := .ref m6) (C := RX5) (T := TX5) (N := 27) hx hb hts inX5 hown hK.1 hP 0 rfl rfl 11 (by decide) f_25 (fun _ h9 => h9) rfl dX5_wits_62 ?_
          refine lv_iload_n hx hb dX5_wits_65 rfl (lv_at hl 1 rfl) ?_
          refine lv_iload_n hx hb dX5_wits_66 rfl (lv_at hl 2 rfl) ?_
          refine zk_iast (x := M.wit j) hx hb hK hP hD hS 3 rfl (by omega) (by decide) dX5_wits_67 (fun H locs hP hD hS => ?_)
          have hP : va_P D vwCl [(m0, .inr (5, [.int fm, .int tm, .ref m1, .ref m2, .ref m3, .int M.db, .int M.rm, .int (nI M.D), .int (nI M.P), .ref m4, .ref m5, .ref m6, .ref m7, .int (nI at1), .int rdb, .int rrm, .int (nI rD), .int (nI rP), .ref m8, .ref m9, .ref m10, .ref m11, .ref m12, .int (nI mt), .ref m13, .ref m14, .ref m15])), (m4, .inl (cI, 5, .inl M.hard)), (m5, .inl (cI, 4, .inl M.kind)), (m6, .inl (cI, 4, .inl (upd wt j (M.wit j)))), (m7, .inl (cI, 4, .inl M.pat)), (m12, .inl (cI, 4, .inl pt)), (m13, .inl (cI, 8, .inl (fun q9 => nI (mw q9)))), (m14, .inl (cI, 8, .inl (fun q9 => nI (mn q9)))), (m15, .inl (cI, 8, .inl mh))] H := hP
          have hD : va_D A [(m0, .inr (5, [.int fm, .int tm, .ref m1, .ref m2, .ref m3, .int M.db, .int M.rm, .int (nI M.D), .int (nI M.P), .ref m4, .ref m5, .ref m6, .ref m7, .int (nI at1), .int rdb, .int rrm, .int (nI rD), .int (nI rP), .ref m8, .ref m9, .ref m10, .ref m11, .ref m12, .int (nI mt), .ref m13, .ref m14, .ref m15])), (m4, .inl (cI, 5, .inl M.hard)), (m5, .inl (cI, 4, .inl M.kind)), (m6, .inl (cI, 4, .inl (upd wt j (M.wit j)))), (m7, .inl (cI, 4, .inl M.pat)), (m12, .inl (cI, 4, .inl pt)), (m13, .inl (cI, 8, .inl (fun q9 => nI (mw q9)))), (m14, .inl (cI, 8, .inl (fun q9 => nI (mn q9)))), (m15, .inl (cI, 8, .inl mh))] := hD
          rw [hw (M.wit j), upd_same] at hP hD
          have hP : va_P D vwCl [(m0, .inr (5, [.int fm, .int tm, .ref m1, .ref m2, .ref m3, .int M.db, .int M.rm, .int (nI M.D), .int (nI M.P), .ref m4, .ref m5, .ref m6, .ref m7, .int (nI at1), .int rdb, .int rrm, .int (nI rD), .int (nI rP), .ref m8, .ref m9, .ref m10, .ref m11, .ref m12, .int (nI mt), .ref m13, .ref m14, .ref m15])), (m4, .inl (cI, 5, .inl M.hard)), (m5, .inl (cI, 4, .inl M.kind)), (m6, .inl (cI, 4, .inl M.wit)), (m7, .inl (cI, 4, .inl M.pat)), (m12, .inl (cI, 4, .inl pt)), (m13, .inl (cI, 8, .inl (fun q9 => nI (mw q9)))), (m14, .inl (cI, 8, .inl (fun q9 => nI (mn q9)))), (m15, .inl (cI, 8, .inl mh))] H := hP
          have hD : va_D A [(m0, .inr (5, [.int fm, .int tm, .ref m1, .ref m2, .ref m3, .int M.db, .int M.rm, .int (nI M.D), .int (nI M.P), .ref m4, .ref m5, .ref m6, .ref m7, .int (nI at1), .int rdb, .int rrm, .int (nI rD), .int (nI rP), .ref m8, .ref m9, .ref m10, .ref m11, .ref m12, .int (nI mt), .ref m13, .ref m14, .ref m15])), (m4, .inl (cI, 5, .inl M.hard)), (m5, .inl (cI, 4, .inl M.kind)), (m6, .inl (cI, 4, .inl M.wit)), (m7, .inl (cI, 4, .inl M.pat)), (m12, .inl (cI, 4, .inl pt)), (m13, .inl (cI, 8, .inl (fun q9 => nI (mw q9)))), (m14, .inl (cI, 8, .inl (fun q9 => nI (mn q9)))), (m15, .inl (cI, 8, .inl mh))] := hD
          refine lv_iload_n hx hb dX5_wits_68 rfl (lv_at hl 3 rfl) ?_
          exact zk_retI hx hb hr hS (pt) (by unfold witsF; rw [c_1, g_j, show k = 10 by omega]; rfl) hP hD dX5_wits_69 hlocks
        · refine lv_aload_n hx hb dX5_wits_29 rfl (lv_at hl 0 rfl) ?_
          refine va_get (D := D) (ci := 5) (v := .ref m6) (C := RX5) (T := TX5) (N := 27) hx hb hts inX5 hown hK.1 hP 0 rfl rfl 11 (by decide) f_25 (fun _ h9 => h9) rfl dX5_wits_30 ?_
          refine lv_iload_n hx hb dX5_wits_33 rfl (lv_at hl 1 rfl) ?_
          refine lv_iload hx hb dX5_wits_34 (lv_at hl 4 rfl) ?_
          refine zk_iast (x := nI k) hx hb hK hP hD hS 3 rfl (by omega) (by decide) dX5_wits_36 (fun H locs hP hD hS => ?_)
          have hP : va_P D vwCl [(m0, .inr (5, [.int fm, .int tm, .ref m1, .ref m2, .ref m3, .int M.db, .int M.rm, .int (nI M.D), .int (nI M.P), .ref m4, .ref m5, .ref m6, .ref m7, .int (nI at1), .int rdb, .int rrm, .int (nI rD), .int (nI rP), .ref m8, .ref m9, .ref m10, .ref m11, .ref m12, .int (nI mt), .ref m13, .ref m14, .ref m15])), (m4, .inl (cI, 5, .inl M.hard)), (m5, .inl (cI, 4, .inl M.kind)), (m6, .inl (cI, 4, .inl (upd wt j (nI k)))), (m7, .inl (cI, 4, .inl M.pat)), (m12, .inl (cI, 4, .inl pt)), (m13, .inl (cI, 8, .inl (fun q9 => nI (mw q9)))), (m14, .inl (cI, 8, .inl (fun q9 => nI (mn q9)))), (m15, .inl (cI, 8, .inl mh))] H := hP
          have hD : va_D A [(m0, .inr (5, [.int fm, .int tm, .ref m1, .ref m2, .ref m3, .int M.db, .int M.rm, .int (nI M.D), .int (nI M.P), .ref m4, .ref m5, .ref m6, .ref m7, .int (nI at1), .int rdb, .int rrm, .int (nI rD), .int (nI rP), .ref m8, .ref m9, .ref m10, .ref m11, .ref m12, .int (nI mt), .ref m13, .ref m14, .ref m15])), (m4, .inl (cI, 5, .inl M.hard)), (m5, .inl (cI, 4, .inl M.kind)), (m6, .inl (cI, 4, .inl (upd wt j (nI k)))), (m7, .inl (cI, 4, .inl M.pat)), (m12, .inl (cI, 4, .inl pt)), (m13, .inl (cI, 8, .inl (fun q9 => nI (mw q9)))), (m14, .inl (cI, 8, .inl (fun q9 => nI (mn q9)))), (m15, .inl (cI, 8, .inl mh))] := hD
          rw [hw (nI k)] at hP hD
          have hP : va_P D vwCl [(m0, .inr (5, [.int fm, .int tm, .ref m1, .ref m2, .ref m3, .int M.db, .int M.rm, .int (nI M.D), .int (nI M.P), .ref m4, .ref m5, .ref m6, .ref m7, .int (nI at1), .int rdb, .int rrm, .int (nI rD), .int (nI rP), .ref m8, .ref m9, .ref m10, .ref m11, .ref m12, .int (nI mt), .ref m13, .ref m14, .ref m15])), (m4, .inl (cI, 5, .inl M.hard)), (m5, .inl (cI, 4, .inl M.kind)), (m6, .inl (cI, 4, .inl (upd M.wit j (nI k)))), (m7, .inl (cI, 4, .inl M.pat)), (m12, .inl (cI, 4, .inl pt)), (m13, .inl (cI, 8, .inl (fun q9 => nI (mw q9)))), (m14, .inl (cI, 8, .inl (fun q9 => nI (mn q9)))), (m15, .inl (cI, 8, .inl mh))] H := hP
          have hD : va_D A [(m0, .inr (5, [.int fm, .int tm, .ref m1, .ref m2, .ref m3, .int M.db, .int M.rm, .int (nI M.D), .int (nI M.P), .ref m4, .ref m5, .ref m6, .ref m7, .int (nI at1), .int rdb, .int rrm, .int (nI rD), .int (nI rP), .ref m8, .ref m9, .ref m10, .ref m11, .ref m12, .int (nI mt), .ref m13, .ref m14, .ref m15])), (m4, .inl (cI, 5, .inl M.hard)), (m5, .inl (cI, 4, .inl M.kind)), (m6, .inl (cI, 4, .inl (upd M.wit j (nI k)))), (m7, .inl (cI, 4, .inl M.pat)), (m12, .inl (cI, 4, .inl pt)), (m13, .inl (cI, 8, .inl (fun q9 => nI (mw q9)))), (m14, .inl (cI, 8, .inl (fun q9 => nI (mn q9)))), (m15, .inl (cI, 8, .inl mh))] := hD
          refine lv_iload_n hx hb dX5_wits_37 rfl (lv_at hl 3 rfl) ?_
          refine lv_aload_n hx hb dX5_wits_38 rfl (lv_at hl 0 rfl) ?_
          refine zk_effVi (As := []) (rest := [.int (nI (msk k (fun v => soY (M.np.sWit (upd M.wit j (nI v))) mt mw mn mh)))]) (S := Unit) (fun r _ => r = bI (soY ((M.sPret pt).sWit (upd M.wit j (nI k))).np mt mw mn mh)) (fun _ => (wMo m0 m1 m2 m3 m4 m5 m6 m7 m8 m9 m10 m11 m12 m13 m14 m15 fm tm at1 rdb rrm rD rP mt ((M.sPret pt).sWit (upd M.wit j (nI k))).np ++ wMa cI m4 m5 m6 m7 m12 ((M.sPret pt).sWit (upd M.wit j (nI k))).np) ++ wMr cI m13 m14 m15 mw mn mh) ⟨hx, hb, hml, hown, hts⟩ hK hP hD hS hA [0, 1, 2, 3, 4, 5, 6, 7, 8] [] (wc := [(m0, .inr (5, [.int fm, .int tm, .ref m1, .ref m2, .ref m3, .int M.db, .int M.rm, .int (nI M.D), .int (nI M.P), .ref m4, .ref m5, .ref m6, .ref m7, .int (nI at1), .int rdb, .int rrm, .int (nI rD), .int (nI rP), .ref m8, .ref m9, .ref m10, .ref m11, .ref m12, .int (nI mt), .ref m13, .ref m14, .ref m15])), (m4, .inl (cI, 5, .inl M.hard)), (m5, .inl (cI, 4, .inl M.kind)), (m6, .inl (cI, 4, .inl (upd M.wit j (nI k)))), (m7, .inl (cI, 4, .inl M.pat)), (m12, .inl (cI, 4, .inl pt)), (m13, .inl (cI, 8, .inl (fun q9 => nI (mw q9)))), (m14, .inl (cI, 8, .inl (fun q9 => nI (mn q9)))), (m15, .inl (cI, 8, .inl mh))]) (wr := []) rfl rfl (by decide) (by decide) (by decide) [0, 1, 2, 3, 4, 5, 6, 7, 8] (fun (_ : Unit) => [(m0, .inr (5, [.int fm, .int tm, .ref m1, .ref m2, .ref m3, .int (((M.sPret pt).sWit (upd M.wit j (nI k))).np.db), .int (((M.sPret pt).sWit (upd M.wit j (nI k))).np.rm), .int (nI (((M.sPret pt).sWit (upd M.wit j (nI k))).np.D)), .int (nI (((M.sPret pt).sWit (upd M.wit j (nI k))).np.P)), .ref m4, .ref m5, .ref m6, .ref m7, .int (nI at1), .int rdb, .int rrm, .int (nI rD), .int (nI rP), .ref m8, .ref m9, .ref m10, .ref m11, .ref m12, .int (nI mt), .ref m13, .ref m14, .ref m15])), (m4, .inl (cI, 5, .inl (((M.sPret pt).sWit (upd M.wit j (nI k))).np.hard))), (m5, .inl (cI, 4, .inl (((M.sPret pt).sWit (upd M.wit j (nI k))).np.kind))), (m6, .inl (cI, 4, .inl (((M.sPret pt).sWit (upd M.wit j (nI k))).np.wit))), (m7, .inl (cI, 4, .inl (((M.sPret pt).sWit (upd M.wit j (nI k))).np.pat))), (m12, .inl (cI, 4, .inl (((M.sPret pt).sWit (upd M.wit j (nI k))).np.pret))), (m13, .inl (cI, 8, .inl (fun q9 => nI (mw q9)))), (m14, .inl (cI, 8, .inl (fun q9 => nI (mn q9)))), (m15, .inl (cI, 8, .inl mh))]) (fun _ => rfl) (by decide) (m_areSo l D cI H.size m0 m1 m2 m3 m4 m5 m6 m7 m8 m9 m10 m11 m12 m13 m14 m15 fm tm at1 rdb rrm rD rP mt ((M.sPret pt).sWit (upd M.wit j (nI k))) mw mn mh hg hct hrd) (cwV 0 hts gX5_wits_X5_areSo rfl rfl rfl hdX5_areSo ⟨Nat.le_of_ble_eq_true rfl, Nat.le_of_ble_eq_true rfl⟩) rfl rfl rfl hl.1 rfl (Nat.le_of_ble_eq_true rfl) dX5_wits_39 ⟨Nat.le_of_ble_eq_true rfl, Nat.le_of_ble_eq_true rfl⟩ (fun r_3 _ H locs hw_4 hP hD hS => ?_)
          have e_r_3 : r_3 = bI ((fun v => soY (M.np.sWit (upd M.wit j (nI v))) mt mw mn mh) k) := hw_4
          rw [e_r_3]
          refine zk_ifeqB (tgt := 52) hx hb dX5_wits_42 (by decide) (fun c_5 => ?_) (fun c_5 => ?_)
          · refine lv_iconst (v := nI 0) hx hb dX5_wits_52 (by decide) ?_
            refine lv_ior hx hb dX5_wits_53 ?_
            refine lv_istore_n (lv' := [(3, .int ((nI (msk k (fun v => soY (M.np.sWit (upd M.wit j (nI v))) mt mw mn mh))) ||| (nI 0))), (0, .ref m0), (1, .int (nI j)), (2, .int (M.wit j)), (4, .int (nI k))]) hx hb dX5_wits_54 rfl hl (by decide) rfl (fun ls hl => ?_)
            refine lv_iinc (v := nI (k + 1)) (lv' := [(4, .int (nI (k + 1))), (3, .int ((nI (msk k (fun v => soY (M.np.sWit (upd M.wit j (nI v))) mt mw mn mh))) ||| (nI 0))), (0, .ref m0), (1, .int (nI j)), (2, .int (M.wit j))]) hx hb dX5_wits_55 hl (k := 4) rfl (by rw [show (Int32.ofInt 1) = nI 1 from by decide, nI_add]) (by decide) rfl (fun ls hl => ?_)
            refine lv_goto (tgt := 22) hx hb dX5_wits_58 (by decide) ?_
            have hl := lv_sub hl [2, 3, 4, 1, 0] rfl
            have e_3 : (nI (msk k (fun v => soY (M.np.sWit (upd M.wit j (nI v))) mt mw mn mh))) ||| (nI 0) = nI (msk (k + 1) (fun v => soY (M.np.sWit (upd M.wit j (nI v))) mt mw mn mh)) := (or0 k (by omega) _ (msk_lt k _)).trans (msk_no c_5)
            rw [e_3] at hl
            exact ih (k + 1) (upd M.wit j (nI k)) (fun _ => nI 0) (by omega) (by omega) (fun v => upd_upd _ _ _ _) _ _ hP hD hS ls hl
          · refine lv_iconst (v := nI 1) hx hb dX5_wits_45 (by decide) ?_
            refine lv_iload hx hb dX5_wits_46 (lv_at hl 4 rfl) ?_
            refine lv_ishl hx hb dX5_wits_48 ?_
            refine lv_goto (tgt := 53) hx hb dX5_wits_49 (by decide) ?_
            refine lv_ior hx hb dX5_wits_53 ?_
            refine lv_istore_n (lv' := [(3, .int ((nI (msk k (fun v => soY (M.np.sWit (upd M.wit j (nI v))) mt mw mn mh))) ||| ((nI 1) <<< ((nI k) &&& 31)))), (0, .ref m0), (1, .int (nI j)), (2, .int (M.wit j)), (4, .int (nI k))]) hx hb dX5_wits_54 rfl hl (by decide) rfl (fun ls hl => ?_)
            refine lv_iinc (v := nI (k + 1)) (lv' := [(4, .int (nI (k + 1))), (3, .int ((nI (msk k (fun v => soY (M.np.sWit (upd M.wit j (nI v))) mt mw mn mh))) ||| ((nI 1) <<< ((nI k) &&& 31)))), (0, .ref m0), (1, .int (nI j)), (2, .int (M.wit j))]) hx hb dX5_wits_55 hl (k := 4) rfl (by rw [show (Int32.ofInt 1) = nI 1 from by decide, nI_add]) (by decide) rfl (fun ls hl => ?_)
            refine lv_goto (tgt := 22) hx hb dX5_wits_58 (by decide) ?_
            have hl := lv_sub hl [2, 3, 4, 1, 0] rfl
            have e_3 : (nI (msk k (fun v => soY (M.np.sWit (upd M.wit j (nI v))) mt mw mn mh))) ||| ((nI 1) <<< ((nI k) &&& 31)) = nI (msk (k + 1) (fun v => soY (M.np.sWit (upd M.wit j (nI v))) mt mw mn mh)) := msk_or (by omega) c_5
            rw [e_3] at hl
            exact ih (k + 1) (upd M.wit j (nI k)) (fun _ => nI 0) (by omega) (by omega) (fun v => upd_upd _ _ _ _) _ _ hP hD hS ls hl
    have hl := lv_sub hl [3, 4, 2, 1, 0] rfl
    have e_3 : nI 0 = nI (msk 0 (fun v => soY (M.np.sWit (upd M.wit j (nI v))) mt mw mn mh)) := by rfl
    have hl : lv_has ls 5 [(0, .ref m0), (1, .int (nI j)), (2, .int (M.wit j)), (3, .int (nI (msk 0 (fun v => soY (M.np.sWit (upd M.wit j (nI v))) mt mw mn mh)))), (4, .int (nI 0))] := by
      first | exact hl | (rw [← e_3]; exact hl) | (simp only [e_3] at hl ⊢; exact hl)
    exact loop22 (10 + 1) 0 M.wit M.pret (by omega) (by omega) (fun _ => rfl) _ _ hP hD hS ls hl
  · refine lv_iconst (v := (-1)) hx hb dX5_wits_8 (by decide) ?_
    exact zk_retI hx hb hr hS (M.pret) (by unfold witsF; rw [c_1]; rfl) hP hD dX5_wits_9 hlocks
set_option maxHeartbeats 4000000 in
set_option maxRecDepth 100000 in
theorem mx_kinds (l : Launch) (D : va_G) (cI : ClassId) (sz : Nat) (m0 : Nat) (m1 : Nat) (m2 : Nat) (m3 : Nat) (m4 : Nat) (m5 : Nat) (m6 : Nat) (m7 : Nat) (m8 : Nat) (m9 : Nat) (m10 : Nat) (m11 : Nat) (m12 : Nat) (m13 : Nat) (m14 : Nat) (m15 : Nat) (fm : Int32) (tm : Int32) (at1 : Nat) (rdb : Int32) (rrm : Int32) (rD : Nat) (rP : Nat) (mt : Nat) (M : YS) (mw : Nat → Nat) (mn : Nat → Nat) (mh : Nat → Int32) (p : Int32) (hg : GdY M) (hct : mt ≤ 8) (hrd : ∀ r, r < mt → mw r < M.P ∧ mn r ≤ M.D) : Met l yX5_kinds wsX5_kinds ({ frames := 6, cells := 0, slots := 0, locals := 141 }) (PQ D cI [.ref m0, .int p] ((wMo m0 m1 m2 m3 m4 m5 m6 m7 m8 m9 m10 m11 m12 m13 m14 m15 fm tm at1 rdb rrm rD rP mt M ++ wMa cI m4 m5 m6 m7 m12 M) ++ wMr cI m13 m14 m15 mw mn mh) sz) (QI (S := Nat → Int32) D (fun r _ => r = kindsF M mt mw mn mh p) (fun u => (wMo m0 m1 m2 m3 m4 m5 m6 m7 m8 m9 m10 m11 m12 m13 m14 m15 fm tm at1 rdb rrm rD rP mt (M.sPret u) ++ wMa cI m4 m5 m6 m7 m12 (M.sPret u)) ++ wMr cI m13 m14 m15 mw mn mh) (va_A ((wMo m0 m1 m2 m3 m4 m5 m6 m7 m8 m9 m10 m11 m12 m13 m14 m15 fm tm at1 rdb rrm rD rP mt M ++ wMa cI m4 m5 m6 m7 m12 M) ++ wMr cI m13 m14 m15 mw mn mh) sz)) 0 0 (va_A ((wMo m0 m1 m2 m3 m4 m5 m6 m7 m8 m9 m10 m11 m12 m13 m14 m15 fm tm at1 rdb rrm rD rP mt M ++ wMa cI m4 m5 m6 m7 m12 M) ++ wMr cI m13 m14 m15 mw mn mh) sz) := by
  refine zk_Q (QI (S := Nat → Int32) D (fun r _ => r = kindsF M mt mw mn mh p) (fun u => (wMo m0 m1 m2 m3 m4 m5 m6 m7 m8 m9 m10 m11 m12 m13 m14 m15 fm tm at1 rdb rrm rD rP mt (M.sPret u) ++ wMa cI m4 m5 m6 m7 m12 (M.sPret u)) ++ wMr cI m13 m14 m15 mw mn mh)) (cc := cX5_kinds) (maxL := 5) (ret := (some .int)) (by decide) rfl (Nat.le_of_ble_eq_true rfl) ?_
  intro pX eX sX mX bX tX cX hx hb hr hlocks hml hown hmn hts hP hK A hA hD hS ls hl
  have hl : lv_has ls 5 [(0, .ref m0), (1, .int p)] := hl
  have hP : va_P D vwCl [(m0, .inr (5, [.int fm, .int tm, .ref m1, .ref m2, .ref m3, .int M.db, .int M.rm, .int (nI M.D), .int (nI M.P), .ref m4, .ref m5, .ref m6, .ref m7, .int (nI at1), .int rdb, .int rrm, .int (nI rD), .int (nI rP), .ref m8, .ref m9, .ref m10, .ref m11, .ref m12, .int (nI mt), .ref m13, .ref m14, .ref m15])), (m4, .inl (cI, 5, .inl M.hard)), (m5, .inl (cI, 4, .inl M.kind)), (m6, .inl (cI, 4, .inl M.wit)), (m7, .inl (cI, 4, .inl M.pat)), (m12, .inl (cI, 4, .inl M.pret)), (m13, .inl (cI, 8, .inl (fun q9 => nI (mw q9)))), (m14, .inl (cI, 8, .inl (fun q9 => nI (mn q9)))), (m15, .inl (cI, 8, .inl mh))] sX.heap := hP
  have hD : va_D A [(m0, .inr (5, [.int fm, .int tm, .ref m1, .ref m2, .ref m3, .int M.db, .int M.rm, .int (nI M.D), .int (nI M.P), .ref m4, .ref m5, .ref m6, .ref m7, .int (nI at1), .int rdb, .int rrm, .int (nI rD), .int (nI rP), .ref m8, .ref m9, .ref m10, .ref m11, .ref m12, .int (nI mt), .ref m13, .ref m14, .ref m15])), (m4, .inl (cI, 5, .inl M.hard)), (m5, .inl (cI, 4, .inl M.kind)), (m6, .inl (cI, 4, .inl M.wit)), (m7, .inl (cI, 4, .inl M.pat)), (m12, .inl (cI, 4, .inl M.pret)), (m13, .inl (cI, 8, .inl (fun q9 => nI (mw q9)))), (m14, .inl (cI, 8, .inl (fun q9 => nI (mn q9)))), (m15, .inl (cI, 8, .inl mh))] := hD
  have f_22 := hts (.fieldLink RX5 22 "DunceSeeModel" "kind" "[I") (by decide +kernel)
  have inX5 : ∀ w ∈ wsX50, w ∈ wsX5_kinds := fun w h => List.mem_cons_of_mem _ (List.mem_append_right _ h)
  have hD5 : M.D ≤ 5 := hg.1.1
  have hP4 : M.P ≤ 4 := hg.1.2
  refine lv_aload_n hx hb dX5_kinds_0 rfl (lv_at hl 0 rfl) ?_
  refine lv_iload_n hx hb dX5_kinds_1 rfl (lv_at hl 1 rfl) ?_
  refine zk_callVi (As := [.int p]) (rest := []) (bI (isP M.P p)) ⟨hx, hb, hml, hown, hts⟩ hK hP [0, 1, 2, 3, 4, 5] rfl (m_isPupil l D cI m0 m1 m2 m3 m4 m5 m6 m7 m8 m9 m10 m11 m12 m13 m14 m15 fm tm at1 rdb rrm rD rP mt M p ) (cwV 1 hts gX5_kinds_X5_isPupil rfl rfl rfl hdX5_isPupil ⟨Nat.le_of_ble_eq_true rfl, Nat.le_of_ble_eq_true rfl⟩) rfl rfl rfl hl.1 rfl (Nat.le_of_ble_eq_true rfl) dX5_kinds_2 ⟨Nat.le_of_ble_eq_true rfl, Nat.le_of_ble_eq_true rfl⟩ ?_
  refine zk_ifneB (tgt := 10) hx hb dX5_kinds_5 (by decide) (fun c_1 => ?_) (fun c_1 => ?_)
  · obtain ⟨j, hj, e_j, g_j⟩ := isP_of (by omega) c_1
    rw [e_j] at hl
    refine lv_aload_n hx hb dX5_kinds_10 rfl (lv_at hl 0 rfl) ?_
    refine va_get (D := D) (ci := 5) (v := .ref m5) (C := RX5) (T := TX5) (N := 27) hx hb hts inX5 hown hK.1 hP 0 rfl rfl 10 (by decide) f_22 (fun _ h9 => h9) rfl dX5_kinds_11 ?_
    refine lv_iload_n hx hb dX5_kinds_14 rfl (lv_at hl 1 rfl) ?_
    refine zk_iald hx hb hK hP 2 rfl (by omega) (by decide) dX5_kinds_15 ?_
    refine lv_istore_n (lv' := [(2, .int (M.kind j)), (0, .ref m0), (1, .int (nI j))]) hx hb dX5_kinds_16 rfl hl (by decide) rfl (fun ls hl => ?_)
    refine lv_iconst (v := nI 0) hx hb dX5_kinds_17 (by decide) ?_
    refine lv_istore_n (lv' := [(3, .int (nI 0)), (2, .int (M.kind j)), (0, .ref m0), (1, .int (nI j))]) hx hb dX5_kinds_18 rfl hl (by decide) rfl (fun ls hl => ?_)
    refine lv_iconst (v := nI 0) hx hb dX5_kinds_19 (by decide) ?_
    refine lv_istore (lv' := [(4, .int (nI 0)), (3, .int (nI 0)), (2, .int (M.kind j)), (0, .ref m0), (1, .int (nI j))]) hx hb dX5_kinds_20 hl (by decide) rfl (fun ls hl => ?_)
    have loop22 : ∀ (nL k : Nat) (wt : Nat → Int32) (pt : Nat → Int32), k ≤ 3 → 3 < k + nL → (∀ v, upd wt j v = upd M.kind j v) → ∀ (H : Heap) (locs : List Loc), va_P D vwCl [(m0, .inr (5, [.int fm, .int tm, .ref m1, .ref m2, .ref m3, .int M.db, .int M.rm, .int (nI M.D), .int (nI M.P), .ref m4, .ref m5, .ref m6, .ref m7, .int (nI at1), .int rdb, .int rrm, .int (nI rD), .int (nI rP), .ref m8, .ref m9, .ref m10, .ref m11, .ref m12, .int (nI mt), .ref m13, .ref m14, .ref m15])), (m4, .inl (cI, 5, .inl M.hard)), (m5, .inl (cI, 4, .inl wt)), (m6, .inl (cI, 4, .inl M.wit)), (m7, .inl (cI, 4, .inl M.pat)), (m12, .inl (cI, 4, .inl pt)), (m13, .inl (cI, 8, .inl (fun q9 => nI (mw q9)))), (m14, .inl (cI, 8, .inl (fun q9 => nI (mn q9)))), (m15, .inl (cI, 8, .inl mh))] H → va_D A [(m0, .inr (5, [.int fm, .int tm, .ref m1, .ref m2, .ref m3, .int M.db, .int M.rm, .int (nI M.D), .int (nI M.P), .ref m4, .ref m5, .ref m6, .ref m7, .int (nI at1), .int rdb, .int rrm, .int (nI rD), .int (nI rP), .ref m8, .ref m9, .ref m10, .ref m11, .ref m12, .int (nI mt), .ref m13, .ref m14, .ref m15])), (m4, .inl (cI, 5, .inl M.hard)), (m5, .inl (cI, 4, .inl wt)), (m6, .inl (cI, 4, .inl M.wit)), (m7, .inl (cI, 4, .inl M.pat)), (m12, .inl (cI, 4, .inl pt)), (m13, .inl (cI, 8, .inl (fun q9 => nI (mw q9)))), (m14, .inl (cI, 8, .inl (fun q9 => nI (mn q9)))), (m15, .inl (cI, 8, .inl mh))] → va_S A sX.heap H locs → ∀ ls : Array Slot, lv_has ls 5 [(0, .ref m0), (1, .int (nI j)), (2, .int (M.kind j)), (3, .int (nI (msk k (fun v => soY (M.np.sKind (upd M.kind j (nI v))) mt mw mn mh)))), (4, .int (nI k))] → W pX l eX ({ frames := 6, cells := 0, slots := 0, locals := 141 }) sX mX ([.ref m0, .int p] : List Value).toArray bX tX cX H locs 0 0 (MQ bX (QI (S := Nat → Int32) D (fun r _ => r = kindsF M mt mw mn mh p) (fun u => (wMo m0 m1 m2 m3 m4 m5 m6 m7 m8 m9 m10 m11 m12 m13 m14 m15 fm tm at1 rdb rrm rD rP mt (M.sPret u) ++ wMa cI m4 m5 m6 m7 m12 (M.sPret u)) ++ wMr cI m13 m14 m15 mw mn mh) A) ([.ref m0, .int p] : List Value).toArray sX 0 0 A) (F0 mX 22 ls []) := by
      intro nL
      induction nL with
      | zero => intro k wt pt h1 h2; exact absurd h2 (by omega)
      | succ nL ih =>
        intro k wt pt h_le h_n hw H locs hP hD hS ls hl
        refine lv_iload hx hb dX5_kinds_22 (lv_at hl 4 rfl) ?_
        refine lv_iconst (v := nI 3) hx hb dX5_kinds_24 (by decide) ?_
        refine zk_icmp_ge (tgt := 60) hx hb dX5_kinds_25 (by decide) (by omega) (by omega) (fun c_2 => ?_) (fun c_2 => ?_)
        · refine lv_aload_n hx hb dX5_kinds_60 rfl (lv_at hl 0 rfl) ?_
          refine va_get (D := D) (ci := 5) (v := .ref m5) (C := RX5) (T := TX5) (N := 27) hx hb hts inX5 hown hK.1 hP 0 rfl rfl 10 (by decide) f_22 (fun _ h9 => h9) rfl dX5_kinds_61 ?_
          refine lv_iload_n hx hb dX5_kinds_64 rfl (lv_at hl 1 rfl) ?_
          refine lv_iload_n hx hb dX5_kinds_65 rfl (lv_at hl 2 rfl) ?_
          refine zk_iast (x := M.kind j) hx hb hK hP hD hS 2 rfl (by omega) (by decide) dX5_kinds_66 (fun H locs hP hD hS => ?_)
          have hP : va_P D vwCl [(m0, .inr (5, [.int fm, .int tm, .ref m1, .ref m2, .ref m3, .int M.db, .int M.rm, .int (nI M.D), .int (nI M.P), .ref m4, .ref m5, .ref m6, .ref m7, .int (nI at1), .int rdb, .int rrm, .int (nI rD), .int (nI rP), .ref m8, .ref m9, .ref m10, .ref m11, .ref m12, .int (nI mt), .ref m13, .ref m14, .ref m15])), (m4, .inl (cI, 5, .inl M.hard)), (m5, .inl (cI, 4, .inl (upd wt j (M.kind j)))), (m6, .inl (cI, 4, .inl M.wit)), (m7, .inl (cI, 4, .inl M.pat)), (m12, .inl (cI, 4, .inl pt)), (m13, .inl (cI, 8, .inl (fun q9 => nI (mw q9)))), (m14, .inl (cI, 8, .inl (fun q9 => nI (mn q9)))), (m15, .inl (cI, 8, .inl mh))] H := hP
          have hD : va_D A [(m0, .inr (5, [.int fm, .int tm, .ref m1, .ref m2, .ref m3, .int M.db, .int M.rm, .int (nI M.D), .int (nI M.P), .ref m4, .ref m5, .ref m6, .ref m7, .int (nI at1), .int rdb, .int rrm, .int (nI rD), .int (nI rP), .ref m8, .ref m9, .ref m10, .ref m11, .ref m12, .int (nI mt), .ref m13, .ref m14, .ref m15])), (m4, .inl (cI, 5, .inl M.hard)), (m5, .inl (cI, 4, .inl (upd wt j (M.kind j)))), (m6, .inl (cI, 4, .inl M.wit)), (m7, .inl (cI, 4, .inl M.pat)), (m12, .inl (cI, 4, .inl pt)), (m13, .inl (cI, 8, .inl (fun q9 => nI (mw q9)))), (m14, .inl (cI, 8, .inl (fun q9 => nI (mn q9)))), (m15, .inl (cI, 8, .inl mh))] := hD
          rw [hw (M.kind j), upd_same] at hP hD
          have hP : va_P D vwCl [(m0, .inr (5, [.int fm, .int tm, .ref m1, .ref m2, .ref m3, .int M.db, .int M.rm, .int (nI M.D), .int (nI M.P), .ref m4, .ref m5, .ref m6, .ref m7, .int (nI at1), .int rdb, .int rrm, .int (nI rD), .int (nI rP), .ref m8, .ref m9, .ref m10, .ref m11, .ref m12, .int (nI mt), .ref m13, .ref m14, .ref m15])), (m4, .inl (cI, 5, .inl M.hard)), (m5, .inl (cI, 4, .inl M.kind)), (m6, .inl (cI, 4, .inl M.wit)), (m7, .inl (cI, 4, .inl M.pat)), (m12, .inl (cI, 4, .inl pt)), (m13, .inl (cI, 8, .inl (fun q9 => nI (mw q9)))), (m14, .inl (cI, 8, .inl (fun q9 => nI (mn q9)))), (m15, .inl (cI, 8, .inl mh))] H := hP
          have hD : va_D A [(m0, .inr (5, [.int fm, .int tm, .ref m1, .ref m2, .ref m3, .int M.db, .int M.rm, .int (nI M.D), .int (nI M.P), .ref m4, .ref m5, .ref m6, .ref m7, .int (nI at1), .int rdb, .int rrm, .int (nI rD), .int (nI rP), .ref m8, .ref m9, .ref m10, .ref m11, .ref m12, .int (nI mt), .ref m13, .ref m14, .ref m15])), (m4, .inl (cI, 5, .inl M.hard)), (m5, .inl (cI, 4, .inl M.kind)), (m6, .inl (cI, 4, .inl M.wit)), (m7, .inl (cI, 4, .inl M.pat)), (m12, .inl (cI, 4, .inl pt)), (m13, .inl (cI, 8, .inl (fun q9 => nI (mw q9)))), (m14, .inl (cI, 8, .inl (fun q9 => nI (mn q9)))), (m15, .inl (cI, 8, .inl mh))] := hD
          refine lv_iload_n hx hb dX5_kinds_67 rfl (lv_at hl 3 rfl) ?_
          exact zk_retI hx hb hr hS (pt) (by unfold kindsF; rw [c_1, g_j, show k = 3 by omega]; rfl) hP hD dX5_kinds_68 hlocks
        · refine lv_aload_n hx hb dX5_kinds_28 rfl (lv_at hl 0 rfl) ?_
          refine va_get (D := D) (ci := 5) (v := .ref m5) (C := RX5) (T := TX5) (N := 27) hx hb hts inX5 hown hK.1 hP 0 rfl rfl 10 (by decide) f_22 (fun _ h9 => h9) rfl dX5_kinds_29 ?_
          refine lv_iload_n hx hb dX5_kinds_32 rfl (lv_at hl 1 rfl) ?_
          refine lv_iload hx hb dX5_kinds_33 (lv_at hl 4 rfl) ?_
          refine zk_iast (x := nI k) hx hb hK hP hD hS 2 rfl (by omega) (by decide) dX5_kinds_35 (fun H locs hP hD hS => ?_)
          have hP : va_P D vwCl [(m0, .inr (5, [.int fm, .int tm, .ref m1, .ref m2, .ref m3, .int M.db, .int M.rm, .int (nI M.D), .int (nI M.P), .ref m4, .ref m5, .ref m6, .ref m7, .int (nI at1), .int rdb, .int rrm, .int (nI rD), .int (nI rP), .ref m8, .ref m9, .ref m10, .ref m11, .ref m12, .int (nI mt), .ref m13, .ref m14, .ref m15])), (m4, .inl (cI, 5, .inl M.hard)), (m5, .inl (cI, 4, .inl (upd wt j (nI k)))), (m6, .inl (cI, 4, .inl M.wit)), (m7, .inl (cI, 4, .inl M.pat)), (m12, .inl (cI, 4, .inl pt)), (m13, .inl (cI, 8, .inl (fun q9 => nI (mw q9)))), (m14, .inl (cI, 8, .inl (fun q9 => nI (mn q9)))), (m15, .inl (cI, 8, .inl mh))] H := hP
          have hD : va_D A [(m0, .inr (5, [.int fm, .int tm, .ref m1, .ref m2, .ref m3, .int M.db, .int M.rm, .int (nI M.D), .int (nI M.P), .ref m4, .ref m5, .ref m6, .ref m7, .int (nI at1), .int rdb, .int rrm, .int (nI rD), .int (nI rP), .ref m8, .ref m9, .ref m10, .ref m11, .ref m12, .int (nI mt), .ref m13, .ref m14, .ref m15])), (m4, .inl (cI, 5, .inl M.hard)), (m5, .inl (cI, 4, .inl (upd wt j (nI k)))), (m6, .inl (cI, 4, .inl M.wit)), (m7, .inl (cI, 4, .inl M.pat)), (m12, .inl (cI, 4, .inl pt)), (m13, .inl (cI, 8, .inl (fun q9 => nI (mw q9)))), (m14, .inl (cI, 8, .inl (fun q9 => nI (mn q9)))), (m15, .inl (cI, 8, .inl mh))] := hD
          rw [hw (nI k)] at hP hD
          have hP : va_P D vwCl [(m0, .inr (5, [.int fm, .int tm, .ref m1, .ref m2, .ref m3, .int M.db, .int M.rm, .int (nI M.D), .int (nI M.P), .ref m4, .ref m5, .ref m6, .ref m7, .int (nI at1), .int rdb, .int rrm, .int (nI rD), .int (nI rP), .ref m8, .ref m9, .ref m10, .ref m11, .ref m12, .int (nI mt), .ref m13, .ref m14, .ref m15])), (m4, .inl (cI, 5, .inl M.hard)), (m5, .inl (cI, 4, .inl (upd M.kind j (nI k)))), (m6, .inl (cI, 4, .inl M.wit)), (m7, .inl (cI, 4, .inl M.pat)), (m12, .inl (cI, 4, .inl pt)), (m13, .inl (cI, 8, .inl (fun q9 => nI (mw q9)))), (m14, .inl (cI, 8, .inl (fun q9 => nI (mn q9)))), (m15, .inl (cI, 8, .inl mh))] H := hP
          have hD : va_D A [(m0, .inr (5, [.int fm, .int tm, .ref m1, .ref m2, .ref m3, .int M.db, .int M.rm, .int (nI M.D), .int (nI M.P), .ref m4, .ref m5, .ref m6, .ref m7, .int (nI at1), .int rdb, .int rrm, .int (nI rD), .int (nI rP), .ref m8, .ref m9, .ref m10, .ref m11, .ref m12, .int (nI mt), .ref m13, .ref m14, .ref m15])), (m4, .inl (cI, 5, .inl M.hard)), (m5, .inl (cI, 4, .inl (upd M.kind j (nI k)))), (m6, .inl (cI, 4, .inl M.wit)), (m7, .inl (cI, 4, .inl M.pat)), (m12, .inl (cI, 4, .inl pt)), (m13, .inl (cI, 8, .inl (fun q9 => nI (mw q9)))), (m14, .inl (cI, 8, .inl (fun q9 => nI (mn q9)))), (m15, .inl (cI, 8, .inl mh))] := hD
          refine lv_iload_n hx hb dX5_kinds_36 rfl (lv_at hl 3 rfl) ?_
          refine lv_aload_n hx hb dX5_kinds_37 rfl (lv_at hl 0 rfl) ?_
          refine zk_effVi (As := []) (rest := [.int (nI (msk k (fun v => soY (M.np.sKind (upd M.kind j (nI v))) mt mw mn mh)))]) (S := Unit) (fun r _ => r = bI (soY ((M.sPret pt).sKind (upd M.kind j (nI k))).np mt mw mn mh)) (fun _ => (wMo m0 m1 m2 m3 m4 m5 m6 m7 m8 m9 m10 m11 m12 m13 m14 m15 fm tm at1 rdb rrm rD rP mt ((M.sPret pt).sKind (upd M.kind j (nI k))).np ++ wMa cI m4 m5 m6 m7 m12 ((M.sPret pt).sKind (upd M.kind j (nI k))).np) ++ wMr cI m13 m14 m15 mw mn mh) ⟨hx, hb, hml, hown, hts⟩ hK hP hD hS hA [0, 1, 2, 3, 4, 5, 6, 7, 8] [] (wc := [(m0, .inr (5, [.int fm, .int tm, .ref m1, .ref m2, .ref m3, .int M.db, .int M.rm, .int (nI M.D), .int (nI M.P), .ref m4, .ref m5, .ref m6, .ref m7, .int (nI at1), .int rdb, .int rrm, .int (nI rD), .int (nI rP), .ref m8, .ref m9, .ref m10, .ref m11, .ref m12, .int (nI mt), .ref m13, .ref m14, .ref m15])), (m4, .inl (cI, 5, .inl M.hard)), (m5, .inl (cI, 4, .inl (upd M.kind j (nI k)))), (m6, .inl (cI, 4, .inl M.wit)), (m7, .inl (cI, 4, .inl M.pat)), (m12, .inl (cI, 4, .inl pt)), (m13, .inl (cI, 8, .inl (fun q9 => nI (mw q9)))), (m14, .inl (cI, 8, .inl (fun q9 => nI (mn q9)))), (m15, .inl (cI, 8, .inl mh))]) (wr := []) rfl rfl (by decide) (by decide) (by decide) [0, 1, 2, 3, 4, 5, 6, 7, 8] (fun (_ : Unit) => [(m0, .inr (5, [.int fm, .int tm, .ref m1, .ref m2, .ref m3, .int (((M.sPret pt).sKind (upd M.kind j (nI k))).np.db), .int (((M.sPret pt).sKind (upd M.kind j (nI k))).np.rm), .int (nI (((M.sPret pt).sKind (upd M.kind j (nI k))).np.D)), .int (nI (((M.sPret pt).sKind (upd M.kind j (nI k))).np.P)), .ref m4, .ref m5, .ref m6, .ref m7, .int (nI at1), .int rdb, .int rrm, .int (nI rD), .int (nI rP), .ref m8, .ref m9, .ref m10, .ref m11, .ref m12, .int (nI mt), .ref m13, .ref m14, .ref m15])), (m4, .inl (cI, 5, .inl (((M.sPret pt).sKind (upd M.kind j (nI k))).np.hard))), (m5, .inl (cI, 4, .inl (((M.sPret pt).sKind (upd M.kind j (nI k))).np.kind))), (m6, .inl (cI, 4, .inl (((M.sPret pt).sKind (upd M.kind j (nI k))).np.wit))), (m7, .inl (cI, 4, .inl (((M.sPret pt).sKind (upd M.kind j (nI k))).np.pat))), (m12, .inl (cI, 4, .inl (((M.sPret pt).sKind (upd M.kind j (nI k))).np.pret))), (m13, .inl (cI, 8, .inl (fun q9 => nI (mw q9)))), (m14, .inl (cI, 8, .inl (fun q9 => nI (mn q9)))), (m15, .inl (cI, 8, .inl mh))]) (fun _ => rfl) (by decide) (m_areSo l D cI H.size m0 m1 m2 m3 m4 m5 m6 m7 m8 m9 m10 m11 m12 m13 m14 m15 fm tm at1 rdb rrm rD rP mt ((M.sPret pt).sKind (upd M.kind j (nI k))) mw mn mh (GdY_kind (Y := M.sPret pt) hg (by omega)) hct hrd) (cwV 0 hts gX5_kinds_X5_areSo rfl rfl rfl hdX5_areSo ⟨Nat.le_of_ble_eq_true rfl, Nat.le_of_ble_eq_true rfl⟩) rfl rfl rfl hl.1 rfl (Nat.le_of_ble_eq_true rfl) dX5_kinds_38 ⟨Nat.le_of_ble_eq_true rfl, Nat.le_of_ble_eq_true rfl⟩ (fun r_3 _ H locs hw_4 hP hD hS => ?_)
          have e_r_3 : r_3 = bI ((fun v => soY (M.np.sKind (upd M.kind j (nI v))) mt mw mn mh) k) := hw_4
          rw [e_r_3]
          refine zk_ifeqB (tgt := 51) hx hb dX5_kinds_41 (by decide) (fun c_5 => ?_) (fun c_5 => ?_)
          · refine lv_iconst (v := nI 0) hx hb dX5_kinds_51 (by decide) ?_
            refine lv_ior hx hb dX5_kinds_52 ?_
            refine lv_istore_n (lv' := [(3, .int ((nI (msk k (fun v => soY (M.np.sKind (upd M.kind j (nI v))) mt mw mn mh))) ||| (nI 0))), (0, .ref m0), (1, .int (nI j)), (2, .int (M.kind j)), (4, .int (nI k))]) hx hb dX5_kinds_53 rfl hl (by decide) rfl (fun ls hl => ?_)
            refine lv_iinc (v := nI (k + 1)) (lv' := [(4, .int (nI (k + 1))), (3, .int ((nI (msk k (fun v => soY (M.np.sKind (upd M.kind j (nI v))) mt mw mn mh))) ||| (nI 0))), (0, .ref m0), (1, .int (nI j)), (2, .int (M.kind j))]) hx hb dX5_kinds_54 hl (k := 4) rfl (by rw [show (Int32.ofInt 1) = nI 1 from by decide, nI_add]) (by decide) rfl (fun ls hl => ?_)
            refine lv_goto (tgt := 22) hx hb dX5_kinds_57 (by decide) ?_
            have hl := lv_sub hl [2, 3, 4, 1, 0] rfl
            have e_3 : (nI (msk k (fun v => soY (M.np.sKind (upd M.kind j (nI v))) mt mw mn mh))) ||| (nI 0) = nI (msk (k + 1) (fun v => soY (M.np.sKind (upd M.kind j (nI v))) mt mw mn mh)) := (or0 k (by omega) _ (msk_lt k _)).trans (msk_no c_5)
            rw [e_3] at hl
            exact ih (k + 1) (upd M.kind j (nI k)) (fun _ => nI 0) (by omega) (by omega) (fun v => upd_upd _ _ _ _) _ _ hP hD hS ls hl
          · refine lv_iconst (v := nI 1) hx hb dX5_kinds_44 (by decide) ?_
            refine lv_iload hx hb dX5_kinds_45 (lv_at hl 4 rfl) ?_
            refine lv_ishl hx hb dX5_kinds_47 ?_
            refine lv_goto (tgt := 52) hx hb dX5_kinds_48 (by decide) ?_
            refine lv_ior hx hb dX5_kinds_52 ?_
            refine lv_istore_n (lv' := [(3, .int ((nI (msk k (fun v => soY (M.np.sKind (upd M.kind j (nI v))) mt mw mn mh))) ||| ((nI 1) <<< ((nI k) &&& 31)))), (0, .ref m0), (1, .int (nI j)), (2, .int (M.kind j)), (4, .int (nI k))]) hx hb dX5_kinds_53 rfl hl (by decide) rfl (fun ls hl => ?_)
            refine lv_iinc (v := nI (k + 1)) (lv' := [(4, .int (nI (k + 1))), (3, .int ((nI (msk k (fun v => soY (M.np.sKind (upd M.kind j (nI v))) mt mw mn mh))) ||| ((nI 1) <<< ((nI k) &&& 31)))), (0, .ref m0), (1, .int (nI j)), (2, .int (M.kind j))]) hx hb dX5_kinds_54 hl (k := 4) rfl (by rw [show (Int32.ofInt 1) = nI 1 from by decide, nI_add]) (by decide) rfl (fun ls hl => ?_)
            refine lv_goto (tgt := 22) hx hb dX5_kinds_57 (by decide) ?_
            have hl := lv_sub hl [2, 3, 4, 1, 0] rfl
            have e_3 : (nI (msk k (fun v => soY (M.np.sKind (upd M.kind j (nI v))) mt mw mn mh))) ||| ((nI 1) <<< ((nI k) &&& 31)) = nI (msk (k + 1) (fun v => soY (M.np.sKind (upd M.kind j (nI v))) mt mw mn mh)) := msk_or (by omega) c_5
            rw [e_3] at hl
            exact ih (k + 1) (upd M.kind j (nI k)) (fun _ => nI 0) (by omega) (by omega) (fun v => upd_upd _ _ _ _) _ _ hP hD hS ls hl
    have hl := lv_sub hl [3, 4, 2, 1, 0] rfl
    have e_3 : nI 0 = nI (msk 0 (fun v => soY (M.np.sKind (upd M.kind j (nI v))) mt mw mn mh)) := by rfl
    have hl : lv_has ls 5 [(0, .ref m0), (1, .int (nI j)), (2, .int (M.kind j)), (3, .int (nI (msk 0 (fun v => soY (M.np.sKind (upd M.kind j (nI v))) mt mw mn mh)))), (4, .int (nI 0))] := by
      first | exact hl | (rw [← e_3]; exact hl) | (simp only [e_3] at hl ⊢; exact hl)
    exact loop22 (3 + 1) 0 M.kind M.pret (by omega) (by omega) (fun _ => rfl) _ _ hP hD hS ls hl
  · refine lv_iconst (v := (-1)) hx hb dX5_kinds_8 (by decide) ?_
    exact zk_retI hx hb hr hS (M.pret) (by unfold kindsF; rw [c_1]; rfl) hP hD dX5_kinds_9 hlocks
set_option maxHeartbeats 4000000 in
set_option maxRecDepth 100000 in
theorem mx_hards (l : Launch) (D : va_G) (cI : ClassId) (sz : Nat) (m0 : Nat) (m1 : Nat) (m2 : Nat) (m3 : Nat) (m4 : Nat) (m5 : Nat) (m6 : Nat) (m7 : Nat) (m8 : Nat) (m9 : Nat) (m10 : Nat) (m11 : Nat) (m12 : Nat) (m13 : Nat) (m14 : Nat) (m15 : Nat) (fm : Int32) (tm : Int32) (at1 : Nat) (rdb : Int32) (rrm : Int32) (rD : Nat) (rP : Nat) (mt : Nat) (M : YS) (mw : Nat → Nat) (mn : Nat → Nat) (mh : Nat → Int32) (p : Int32) (hg : GdY M) (hct : mt ≤ 8) (hrd : ∀ r, r < mt → mw r < M.P ∧ mn r ≤ M.D) : Met l yX5_hards wsX5_hards ({ frames := 6, cells := 0, slots := 0, locals := 141 }) (PQ D cI [.ref m0, .int p] ((wMo m0 m1 m2 m3 m4 m5 m6 m7 m8 m9 m10 m11 m12 m13 m14 m15 fm tm at1 rdb rrm rD rP mt M ++ wMa cI m4 m5 m6 m7 m12 M) ++ wMr cI m13 m14 m15 mw mn mh) sz) (QI (S := Nat → Int32) D (fun r _ => r = hardsF M mt mw mn mh p) (fun u => (wMo m0 m1 m2 m3 m4 m5 m6 m7 m8 m9 m10 m11 m12 m13 m14 m15 fm tm at1 rdb rrm rD rP mt (M.sPret u) ++ wMa cI m4 m5 m6 m7 m12 (M.sPret u)) ++ wMr cI m13 m14 m15 mw mn mh) (va_A ((wMo m0 m1 m2 m3 m4 m5 m6 m7 m8 m9 m10 m11 m12 m13 m14 m15 fm tm at1 rdb rrm rD rP mt M ++ wMa cI m4 m5 m6 m7 m12 M) ++ wMr cI m13 m14 m15 mw mn mh) sz)) 0 0 (va_A ((wMo m0 m1 m2 m3 m4 m5 m6 m7 m8 m9 m10 m11 m12 m13 m14 m15 fm tm at1 rdb rrm rD rP mt M ++ wMa cI m4 m5 m6 m7 m12 M) ++ wMr cI m13 m14 m15 mw mn mh) sz) := by
  refine zk_Q (QI (S := Nat → Int32) D (fun r _ => r = hardsF M mt mw mn mh p) (fun u => (wMo m0 m1 m2 m3 m4 m5 m6 m7 m8 m9 m10 m11 m12 m13 m14 m15 fm tm at1 rdb rrm rD rP mt (M.sPret u) ++ wMa cI m4 m5 m6 m7 m12 (M.sPret u)) ++ wMr cI m13 m14 m15 mw mn mh)) (cc := cX5_hards) (maxL := 5) (ret := (some .int)) (by decide) rfl (Nat.le_of_ble_eq_true rfl) ?_
  intro pX eX sX mX bX tX cX hx hb hr hlocks hml hown hmn hts hP hK A hA hD hS ls hl
  have hl : lv_has ls 5 [(0, .ref m0), (1, .int p)] := hl
  have hP : va_P D vwCl [(m0, .inr (5, [.int fm, .int tm, .ref m1, .ref m2, .ref m3, .int M.db, .int M.rm, .int (nI M.D), .int (nI M.P), .ref m4, .ref m5, .ref m6, .ref m7, .int (nI at1), .int rdb, .int rrm, .int (nI rD), .int (nI rP), .ref m8, .ref m9, .ref m10, .ref m11, .ref m12, .int (nI mt), .ref m13, .ref m14, .ref m15])), (m4, .inl (cI, 5, .inl M.hard)), (m5, .inl (cI, 4, .inl M.kind)), (m6, .inl (cI, 4, .inl M.wit)), (m7, .inl (cI, 4, .inl M.pat)), (m12, .inl (cI, 4, .inl M.pret)), (m13, .inl (cI, 8, .inl (fun q9 => nI (mw q9)))), (m14, .inl (cI, 8, .inl (fun q9 => nI (mn q9)))), (m15, .inl (cI, 8, .inl mh))] sX.heap := hP
  have hD : va_D A [(m0, .inr (5, [.int fm, .int tm, .ref m1, .ref m2, .ref m3, .int M.db, .int M.rm, .int (nI M.D), .int (nI M.P), .ref m4, .ref m5, .ref m6, .ref m7, .int (nI at1), .int rdb, .int rrm, .int (nI rD), .int (nI rP), .ref m8, .ref m9, .ref m10, .ref m11, .ref m12, .int (nI mt), .ref m13, .ref m14, .ref m15])), (m4, .inl (cI, 5, .inl M.hard)), (m5, .inl (cI, 4, .inl M.kind)), (m6, .inl (cI, 4, .inl M.wit)), (m7, .inl (cI, 4, .inl M.pat)), (m12, .inl (cI, 4, .inl M.pret)), (m13, .inl (cI, 8, .inl (fun q9 => nI (mw q9)))), (m14, .inl (cI, 8, .inl (fun q9 => nI (mn q9)))), (m15, .inl (cI, 8, .inl mh))] := hD
  have f_19 := hts (.fieldLink RX5 19 "DunceSeeModel" "hardOf" "[I") (by decide +kernel)
  have inX5 : ∀ w ∈ wsX50, w ∈ wsX5_hards := fun w h => List.mem_cons_of_mem _ (List.mem_append_right _ h)
  have hD5 : M.D ≤ 5 := hg.1.1
  have hP4 : M.P ≤ 4 := hg.1.2
  refine lv_aload_n hx hb dX5_hards_0 rfl (lv_at hl 0 rfl) ?_
  refine lv_iload_n hx hb dX5_hards_1 rfl (lv_at hl 1 rfl) ?_
  refine zk_callVi (As := [.int p]) (rest := []) (bI (isP M.D p)) ⟨hx, hb, hml, hown, hts⟩ hK hP [0, 1, 2, 3, 4, 5] rfl (m_isDay l D cI m0 m1 m2 m3 m4 m5 m6 m7 m8 m9 m10 m11 m12 m13 m14 m15 fm tm at1 rdb rrm rD rP mt M p ) (cwV 1 hts gX5_hards_X5_isDay rfl rfl rfl hdX5_isDay ⟨Nat.le_of_ble_eq_true rfl, Nat.le_of_ble_eq_true rfl⟩) rfl rfl rfl hl.1 rfl (Nat.le_of_ble_eq_true rfl) dX5_hards_2 ⟨Nat.le_of_ble_eq_true rfl, Nat.le_of_ble_eq_true rfl⟩ ?_
  refine zk_ifneB (tgt := 10) hx hb dX5_hards_5 (by decide) (fun c_1 => ?_) (fun c_1 => ?_)
  · obtain ⟨j, hj, e_j, g_j⟩ := isP_of (by omega) c_1
    rw [e_j] at hl
    refine lv_aload_n hx hb dX5_hards_10 rfl (lv_at hl 0 rfl) ?_
    refine va_get (D := D) (ci := 5) (v := .ref m4) (C := RX5) (T := TX5) (N := 27) hx hb hts inX5 hown hK.1 hP 0 rfl rfl 9 (by decide) f_19 (fun _ h9 => h9) rfl dX5_hards_11 ?_
    refine lv_iload_n hx hb dX5_hards_14 rfl (lv_at hl 1 rfl) ?_
    refine zk_iald hx hb hK hP 1 rfl (by omega) (by decide) dX5_hards_15 ?_
    refine lv_istore_n (lv' := [(2, .int (M.hard j)), (0, .ref m0), (1, .int (nI j))]) hx hb dX5_hards_16 rfl hl (by decide) rfl (fun ls hl => ?_)
    refine lv_iconst (v := nI 0) hx hb dX5_hards_17 (by decide) ?_
    refine lv_istore_n (lv' := [(3, .int (nI 0)), (2, .int (M.hard j)), (0, .ref m0), (1, .int (nI j))]) hx hb dX5_hards_18 rfl hl (by decide) rfl (fun ls hl => ?_)
    refine lv_iconst (v := nI 0) hx hb dX5_hards_19 (by decide) ?_
    refine lv_istore (lv' := [(4, .int (nI 0)), (3, .int (nI 0)), (2, .int (M.hard j)), (0, .ref m0), (1, .int (nI j))]) hx hb dX5_hards_20 hl (by decide) rfl (fun ls hl => ?_)
    have loop22 : ∀ (nL k : Nat) (wt : Nat → Int32) (pt : Nat → Int32), k ≤ 10 → 10 < k + nL → (∀ v, upd wt j v = upd M.hard j v) → ∀ (H : Heap) (locs : List Loc), va_P D vwCl [(m0, .inr (5, [.int fm, .int tm, .ref m1, .ref m2, .ref m3, .int M.db, .int M.rm, .int (nI M.D), .int (nI M.P), .ref m4, .ref m5, .ref m6, .ref m7, .int (nI at1), .int rdb, .int rrm, .int (nI rD), .int (nI rP), .ref m8, .ref m9, .ref m10, .ref m11, .ref m12, .int (nI mt), .ref m13, .ref m14, .ref m15])), (m4, .inl (cI, 5, .inl wt)), (m5, .inl (cI, 4, .inl M.kind)), (m6, .inl (cI, 4, .inl M.wit)), (m7, .inl (cI, 4, .inl M.pat)), (m12, .inl (cI, 4, .inl pt)), (m13, .inl (cI, 8, .inl (fun q9 => nI (mw q9)))), (m14, .inl (cI, 8, .inl (fun q9 => nI (mn q9)))), (m15, .inl (cI, 8, .inl mh))] H → va_D A [(m0, .inr (5, [.int fm, .int tm, .ref m1, .ref m2, .ref m3, .int M.db, .int M.rm, .int (nI M.D), .int (nI M.P), .ref m4, .ref m5, .ref m6, .ref m7, .int (nI at1), .int rdb, .int rrm, .int (nI rD), .int (nI rP), .ref m8, .ref m9, .ref m10, .ref m11, .ref m12, .int (nI mt), .ref m13, .ref m14, .ref m15])), (m4, .inl (cI, 5, .inl wt)), (m5, .inl (cI, 4, .inl M.kind)), (m6, .inl (cI, 4, .inl M.wit)), (m7, .inl (cI, 4, .inl M.pat)), (m12, .inl (cI, 4, .inl pt)), (m13, .inl (cI, 8, .inl (fun q9 => nI (mw q9)))), (m14, .inl (cI, 8, .inl (fun q9 => nI (mn q9)))), (m15, .inl (cI, 8, .inl mh))] → va_S A sX.heap H locs → ∀ ls : Array Slot, lv_has ls 5 [(0, .ref m0), (1, .int (nI j)), (2, .int (M.hard j)), (3, .int (nI (msk k (fun v => soY (M.np.sHard (upd M.hard j (nI v))) mt mw mn mh)))), (4, .int (nI k))] → W pX l eX ({ frames := 6, cells := 0, slots := 0, locals := 141 }) sX mX ([.ref m0, .int p] : List Value).toArray bX tX cX H locs 0 0 (MQ bX (QI (S := Nat → Int32) D (fun r _ => r = hardsF M mt mw mn mh p) (fun u => (wMo m0 m1 m2 m3 m4 m5 m6 m7 m8 m9 m10 m11 m12 m13 m14 m15 fm tm at1 rdb rrm rD rP mt (M.sPret u) ++ wMa cI m4 m5 m6 m7 m12 (M.sPret u)) ++ wMr cI m13 m14 m15 mw mn mh) A) ([.ref m0, .int p] : List Value).toArray sX 0 0 A) (F0 mX 22 ls []) := by
      intro nL
      induction nL with
      | zero => intro k wt pt h1 h2; exact absurd h2 (by omega)
      | succ nL ih =>
        intro k wt pt h_le h_n hw H locs hP hD hS ls hl
        refine lv_iload hx hb dX5_hards_22 (lv_at hl 4 rfl) ?_
        refine lv_bipush (v := nI 9) hx hb dX5_hards_24 (by decide) ?_
        refine zk_icmp_gt (tgt := 61) hx hb dX5_hards_26 (by decide) (by omega) (by omega) (fun c_2 => ?_) (fun c_2 => ?_)
        · refine lv_aload_n hx hb dX5_hards_61 rfl (lv_at hl 0 rfl) ?_
          refine va_get (D := D) (ci := 5) (v := .ref m4) (C := RX5) (T := TX5) (N := 27) hx hb hts inX5 hown hK.1 hP 0 rfl rfl 9 (by decide) f_19 (fun _ h9 => h9) rfl dX5_hards_62 ?_
          refine lv_iload_n hx hb dX5_hards_65 rfl (lv_at hl 1 rfl) ?_
          refine lv_iload_n hx hb dX5_hards_66 rfl (lv_at hl 2 rfl) ?_
          refine zk_iast (x := M.hard j) hx hb hK hP hD hS 1 rfl (by omega) (by decide) dX5_hards_67 (fun H locs hP hD hS => ?_)
          have hP : va_P D vwCl [(m0, .inr (5, [.int fm, .int tm, .ref m1, .ref m2, .ref m3, .int M.db, .int M.rm, .int (nI M.D), .int (nI M.P), .ref m4, .ref m5, .ref m6, .ref m7, .int (nI at1), .int rdb, .int rrm, .int (nI rD), .int (nI rP), .ref m8, .ref m9, .ref m10, .ref m11, .ref m12, .int (nI mt), .ref m13, .ref m14, .ref m15])), (m4, .inl (cI, 5, .inl (upd wt j (M.hard j)))), (m5, .inl (cI, 4, .inl M.kind)), (m6, .inl (cI, 4, .inl M.wit)), (m7, .inl (cI, 4, .inl M.pat)), (m12, .inl (cI, 4, .inl pt)), (m13, .inl (cI, 8, .inl (fun q9 => nI (mw q9)))), (m14, .inl (cI, 8, .inl (fun q9 => nI (mn q9)))), (m15, .inl (cI, 8, .inl mh))] H := hP
          have hD : va_D A [(m0, .inr (5, [.int fm, .int tm, .ref m1, .ref m2, .ref m3, .int M.db, .int M.rm, .int (nI M.D), .int (nI M.P), .ref m4, .ref m5, .ref m6, .ref m7, .int (nI at1), .int rdb, .int rrm, .int (nI rD), .int (nI rP), .ref m8, .ref m9, .ref m10, .ref m11, .ref m12, .int (nI mt), .ref m13, .ref m14, .ref m15])), (m4, .inl (cI, 5, .inl (upd wt j (M.hard j)))), (m5, .inl (cI, 4, .inl M.kind)), (m6, .inl (cI, 4, .inl M.wit)), (m7, .inl (cI, 4, .inl M.pat)), (m12, .inl (cI, 4, .inl pt)), (m13, .inl (cI, 8, .inl (fun q9 => nI (mw q9)))), (m14, .inl (cI, 8, .inl (fun q9 => nI (mn q9)))), (m15, .inl (cI, 8, .inl mh))] := hD
          rw [hw (M.hard j), upd_same] at hP hD
          have hP : va_P D vwCl [(m0, .inr (5, [.int fm, .int tm, .ref m1, .ref m2, .ref m3, .int M.db, .int M.rm, .int (nI M.D), .int (nI M.P), .ref m4, .ref m5, .ref m6, .ref m7, .int (nI at1), .int rdb, .int rrm, .int (nI rD), .int (nI rP), .ref m8, .ref m9, .ref m10, .ref m11, .ref m12, .int (nI mt), .ref m13, .ref m14, .ref m15])), (m4, .inl (cI, 5, .inl M.hard)), (m5, .inl (cI, 4, .inl M.kind)), (m6, .inl (cI, 4, .inl M.wit)), (m7, .inl (cI, 4, .inl M.pat)), (m12, .inl (cI, 4, .inl pt)), (m13, .inl (cI, 8, .inl (fun q9 => nI (mw q9)))), (m14, .inl (cI, 8, .inl (fun q9 => nI (mn q9)))), (m15, .inl (cI, 8, .inl mh))] H := hP
          have hD : va_D A [(m0, .inr (5, [.int fm, .int tm, .ref m1, .ref m2, .ref m3, .int M.db, .int M.rm, .int (nI M.D), .int (nI M.P), .ref m4, .ref m5, .ref m6, .ref m7, .int (nI at1), .int rdb, .int rrm, .int (nI rD), .int (nI rP), .ref m8, .ref m9, .ref m10, .ref m11, .ref m12, .int (nI mt), .ref m13, .ref m14, .ref m15])), (m4, .inl (cI, 5, .inl M.hard)), (m5, .inl (cI, 4, .inl M.kind)), (m6, .inl (cI, 4, .inl M.wit)), (m7, .inl (cI, 4, .inl M.pat)), (m12, .inl (cI, 4, .inl pt)), (m13, .inl (cI, 8, .inl (fun q9 => nI (mw q9)))), (m14, .inl (cI, 8, .inl (fun q9 => nI (mn q9)))), (m15, .inl (cI, 8, .inl mh))] := hD
          refine lv_iload_n hx hb dX5_hards_68 rfl (lv_at hl 3 rfl) ?_
          exact zk_retI hx hb hr hS (pt) (by unfold hardsF; rw [c_1, g_j, show k = 10 by omega]; rfl) hP hD dX5_hards_69 hlocks
        · refine lv_aload_n hx hb dX5_hards_29 rfl (lv_at hl 0 rfl) ?_
          refine va_get (D := D) (ci := 5) (v := .ref m4) (C := RX5) (T := TX5) (N := 27) hx hb hts inX5 hown hK.1 hP 0 rfl rfl 9 (by decide) f_19 (fun _ h9 => h9) rfl dX5_hards_30 ?_
          refine lv_iload_n hx hb dX5_hards_33 rfl (lv_at hl 1 rfl) ?_
          refine lv_iload hx hb dX5_hards_34 (lv_at hl 4 rfl) ?_
          refine zk_iast (x := nI k) hx hb hK hP hD hS 1 rfl (by omega) (by decide) dX5_hards_36 (fun H locs hP hD hS => ?_)
          have hP : va_P D vwCl [(m0, .inr (5, [.int fm, .int tm, .ref m1, .ref m2, .ref m3, .int M.db, .int M.rm, .int (nI M.D), .int (nI M.P), .ref m4, .ref m5, .ref m6, .ref m7, .int (nI at1), .int rdb, .int rrm, .int (nI rD), .int (nI rP), .ref m8, .ref m9, .ref m10, .ref m11, .ref m12, .int (nI mt), .ref m13, .ref m14, .ref m15])), (m4, .inl (cI, 5, .inl (upd wt j (nI k)))), (m5, .inl (cI, 4, .inl M.kind)), (m6, .inl (cI, 4, .inl M.wit)), (m7, .inl (cI, 4, .inl M.pat)), (m12, .inl (cI, 4, .inl pt)), (m13, .inl (cI, 8, .inl (fun q9 => nI (mw q9)))), (m14, .inl (cI, 8, .inl (fun q9 => nI (mn q9)))), (m15, .inl (cI, 8, .inl mh))] H := hP
          have hD : va_D A [(m0, .inr (5, [.int fm, .int tm, .ref m1, .ref m2, .ref m3, .int M.db, .int M.rm, .int (nI M.D), .int (nI M.P), .ref m4, .ref m5, .ref m6, .ref m7, .int (nI at1), .int rdb, .int rrm, .int (nI rD), .int (nI rP), .ref m8, .ref m9, .ref m10, .ref m11, .ref m12, .int (nI mt), .ref m13, .ref m14, .ref m15])), (m4, .inl (cI, 5, .inl (upd wt j (nI k)))), (m5, .inl (cI, 4, .inl M.kind)), (m6, .inl (cI, 4, .inl M.wit)), (m7, .inl (cI, 4, .inl M.pat)), (m12, .inl (cI, 4, .inl pt)), (m13, .inl (cI, 8, .inl (fun q9 => nI (mw q9)))), (m14, .inl (cI, 8, .inl (fun q9 => nI (mn q9)))), (m15, .inl (cI, 8, .inl mh))] := hD
          rw [hw (nI k)] at hP hD
          have hP : va_P D vwCl [(m0, .inr (5, [.int fm, .int tm, .ref m1, .ref m2, .ref m3, .int M.db, .int M.rm, .int (nI M.D), .int (nI M.P), .ref m4, .ref m5, .ref m6, .ref m7, .int (nI at1), .int rdb, .int rrm, .int (nI rD), .int (nI rP), .ref m8, .ref m9, .ref m10, .ref m11, .ref m12, .int (nI mt), .ref m13, .ref m14, .ref m15])), (m4, .inl (cI, 5, .inl (upd M.hard j (nI k)))), (m5, .inl (cI, 4, .inl M.kind)), (m6, .inl (cI, 4, .inl M.wit)), (m7, .inl (cI, 4, .inl M.pat)), (m12, .inl (cI, 4, .inl pt)), (m13, .inl (cI, 8, .inl (fun q9 => nI (mw q9)))), (m14, .inl (cI, 8, .inl (fun q9 => nI (mn q9)))), (m15, .inl (cI, 8, .inl mh))] H := hP
          have hD : va_D A [(m0, .inr (5, [.int fm, .int tm, .ref m1, .ref m2, .ref m3, .int M.db, .int M.rm, .int (nI M.D), .int (nI M.P), .ref m4, .ref m5, .ref m6, .ref m7, .int (nI at1), .int rdb, .int rrm, .int (nI rD), .int (nI rP), .ref m8, .ref m9, .ref m10, .ref m11, .ref m12, .int (nI mt), .ref m13, .ref m14, .ref m15])), (m4, .inl (cI, 5, .inl (upd M.hard j (nI k)))), (m5, .inl (cI, 4, .inl M.kind)), (m6, .inl (cI, 4, .inl M.wit)), (m7, .inl (cI, 4, .inl M.pat)), (m12, .inl (cI, 4, .inl pt)), (m13, .inl (cI, 8, .inl (fun q9 => nI (mw q9)))), (m14, .inl (cI, 8, .inl (fun q9 => nI (mn q9)))), (m15, .inl (cI, 8, .inl mh))] := hD
          refine lv_iload_n hx hb dX5_hards_37 rfl (lv_at hl 3 rfl) ?_
          refine lv_aload_n hx hb dX5_hards_38 rfl (lv_at hl 0 rfl) ?_
          refine zk_effVi (As := []) (rest := [.int (nI (msk k (fun v => soY (M.np.sHard (upd M.hard j (nI v))) mt mw mn mh)))]) (S := Unit) (fun r _ => r = bI (soY ((M.sPret pt).sHard (upd M.hard j (nI k))).np mt mw mn mh)) (fun _ => (wMo m0 m1 m2 m3 m4 m5 m6 m7 m8 m9 m10 m11 m12 m13 m14 m15 fm tm at1 rdb rrm rD rP mt ((M.sPret pt).sHard (upd M.hard j (nI k))).np ++ wMa cI m4 m5 m6 m7 m12 ((M.sPret pt).sHard (upd M.hard j (nI k))).np) ++ wMr cI m13 m14 m15 mw mn mh) ⟨hx, hb, hml, hown, hts⟩ hK hP hD hS hA [0, 1, 2, 3, 4, 5, 6, 7, 8] [] (wc := [(m0, .inr (5, [.int fm, .int tm, .ref m1, .ref m2, .ref m3, .int M.db, .int M.rm, .int (nI M.D), .int (nI M.P), .ref m4, .ref m5, .ref m6, .ref m7, .int (nI at1), .int rdb, .int rrm, .int (nI rD), .int (nI rP), .ref m8, .ref m9, .ref m10, .ref m11, .ref m12, .int (nI mt), .ref m13, .ref m14, .ref m15])), (m4, .inl (cI, 5, .inl (upd M.hard j (nI k)))), (m5, .inl (cI, 4, .inl M.kind)), (m6, .inl (cI, 4, .inl M.wit)), (m7, .inl (cI, 4, .inl M.pat)), (m12, .inl (cI, 4, .inl pt)), (m13, .inl (cI, 8, .inl (fun q9 => nI (mw q9)))), (m14, .inl (cI, 8, .inl (fun q9 => nI (mn q9)))), (m15, .inl (cI, 8, .inl mh))]) (wr := []) rfl rfl (by decide) (by decide) (by decide) [0, 1, 2, 3, 4, 5, 6, 7, 8] (fun (_ : Unit) => [(m0, .inr (5, [.int fm, .int tm, .ref m1, .ref m2, .ref m3, .int (((M.sPret pt).sHard (upd M.hard j (nI k))).np.db), .int (((M.sPret pt).sHard (upd M.hard j (nI k))).np.rm), .int (nI (((M.sPret pt).sHard (upd M.hard j (nI k))).np.D)), .int (nI (((M.sPret pt).sHard (upd M.hard j (nI k))).np.P)), .ref m4, .ref m5, .ref m6, .ref m7, .int (nI at1), .int rdb, .int rrm, .int (nI rD), .int (nI rP), .ref m8, .ref m9, .ref m10, .ref m11, .ref m12, .int (nI mt), .ref m13, .ref m14, .ref m15])), (m4, .inl (cI, 5, .inl (((M.sPret pt).sHard (upd M.hard j (nI k))).np.hard))), (m5, .inl (cI, 4, .inl (((M.sPret pt).sHard (upd M.hard j (nI k))).np.kind))), (m6, .inl (cI, 4, .inl (((M.sPret pt).sHard (upd M.hard j (nI k))).np.wit))), (m7, .inl (cI, 4, .inl (((M.sPret pt).sHard (upd M.hard j (nI k))).np.pat))), (m12, .inl (cI, 4, .inl (((M.sPret pt).sHard (upd M.hard j (nI k))).np.pret))), (m13, .inl (cI, 8, .inl (fun q9 => nI (mw q9)))), (m14, .inl (cI, 8, .inl (fun q9 => nI (mn q9)))), (m15, .inl (cI, 8, .inl mh))]) (fun _ => rfl) (by decide) (m_areSo l D cI H.size m0 m1 m2 m3 m4 m5 m6 m7 m8 m9 m10 m11 m12 m13 m14 m15 fm tm at1 rdb rrm rD rP mt ((M.sPret pt).sHard (upd M.hard j (nI k))) mw mn mh hg hct hrd) (cwV 0 hts gX5_hards_X5_areSo rfl rfl rfl hdX5_areSo ⟨Nat.le_of_ble_eq_true rfl, Nat.le_of_ble_eq_true rfl⟩) rfl rfl rfl hl.1 rfl (Nat.le_of_ble_eq_true rfl) dX5_hards_39 ⟨Nat.le_of_ble_eq_true rfl, Nat.le_of_ble_eq_true rfl⟩ (fun r_3 _ H locs hw_4 hP hD hS => ?_)
          have e_r_3 : r_3 = bI ((fun v => soY (M.np.sHard (upd M.hard j (nI v))) mt mw mn mh) k) := hw_4
          rw [e_r_3]
          refine zk_ifeqB (tgt := 52) hx hb dX5_hards_42 (by decide) (fun c_5 => ?_) (fun c_5 => ?_)
          · refine lv_iconst (v := nI 0) hx hb dX5_hards_52 (by decide) ?_
            refine lv_ior hx hb dX5_hards_53 ?_
            refine lv_istore_n (lv' := [(3, .int ((nI (msk k (fun v => soY (M.np.sHard (upd M.hard j (nI v))) mt mw mn mh))) ||| (nI 0))), (0, .ref m0), (1, .int (nI j)), (2, .int (M.hard j)), (4, .int (nI k))]) hx hb dX5_hards_54 rfl hl (by decide) rfl (fun ls hl => ?_)
            refine lv_iinc (v := nI (k + 1)) (lv' := [(4, .int (nI (k + 1))), (3, .int ((nI (msk k (fun v => soY (M.np.sHard (upd M.hard j (nI v))) mt mw mn mh))) ||| (nI 0))), (0, .ref m0), (1, .int (nI j)), (2, .int (M.hard j))]) hx hb dX5_hards_55 hl (k := 4) rfl (by rw [show (Int32.ofInt 1) = nI 1 from by decide, nI_add]) (by decide) rfl (fun ls hl => ?_)
            refine lv_goto (tgt := 22) hx hb dX5_hards_58 (by decide) ?_
            have hl := lv_sub hl [2, 3, 4, 1, 0] rfl
            have e_3 : (nI (msk k (fun v => soY (M.np.sHard (upd M.hard j (nI v))) mt mw mn mh))) ||| (nI 0) = nI (msk (k + 1) (fun v => soY (M.np.sHard (upd M.hard j (nI v))) mt mw mn mh)) := (or0 k (by omega) _ (msk_lt k _)).trans (msk_no c_5)
            rw [e_3] at hl
            exact ih (k + 1) (upd M.hard j (nI k)) (fun _ => nI 0) (by omega) (by omega) (fun v => upd_upd _ _ _ _) _ _ hP hD hS ls hl
          · refine lv_iconst (v := nI 1) hx hb dX5_hards_45 (by decide) ?_
            refine lv_iload hx hb dX5_hards_46 (lv_at hl 4 rfl) ?_
            refine lv_ishl hx hb dX5_hards_48 ?_
            refine lv_goto (tgt := 53) hx hb dX5_hards_49 (by decide) ?_
            refine lv_ior hx hb dX5_hards_53 ?_
            refine lv_istore_n (lv' := [(3, .int ((nI (msk k (fun v => soY (M.np.sHard (upd M.hard j (nI v))) mt mw mn mh))) ||| ((nI 1) <<< ((nI k) &&& 31)))), (0, .ref m0), (1, .int (nI j)), (2, .int (M.hard j)), (4, .int (nI k))]) hx hb dX5_hards_54 rfl hl (by decide) rfl (fun ls hl => ?_)
            refine lv_iinc (v := nI (k + 1)) (lv' := [(4, .int (nI (k + 1))), (3, .int ((nI (msk k (fun v => soY (M.np.sHard (upd M.hard j (nI v))) mt mw mn mh))) ||| ((nI 1) <<< ((nI k) &&& 31)))), (0, .ref m0), (1, .int (nI j)), (2, .int (M.hard j))]) hx hb dX5_hards_55 hl (k := 4) rfl (by rw [show (Int32.ofInt 1) = nI 1 from by decide, nI_add]) (by decide) rfl (fun ls hl => ?_)
            refine lv_goto (tgt := 22) hx hb dX5_hards_58 (by decide) ?_
            have hl := lv_sub hl [2, 3, 4, 1, 0] rfl
            have e_3 : (nI (msk k (fun v => soY (M.np.sHard (upd M.hard j (nI v))) mt mw mn mh))) ||| ((nI 1) <<< ((nI k) &&& 31)) = nI (msk (k + 1) (fun v => soY (M.np.sHard (upd M.hard j (nI v))) mt mw mn mh)) := msk_or (by omega) c_5
            rw [e_3] at hl
            exact ih (k + 1) (upd M.hard j (nI k)) (fun _ => nI 0) (by omega) (by omega) (fun v => upd_upd _ _ _ _) _ _ hP hD hS ls hl
    have hl := lv_sub hl [3, 4, 2, 1, 0] rfl
    have e_3 : nI 0 = nI (msk 0 (fun v => soY (M.np.sHard (upd M.hard j (nI v))) mt mw mn mh)) := by rfl
    have hl : lv_has ls 5 [(0, .ref m0), (1, .int (nI j)), (2, .int (M.hard j)), (3, .int (nI (msk 0 (fun v => soY (M.np.sHard (upd M.hard j (nI v))) mt mw mn mh)))), (4, .int (nI 0))] := by
      first | exact hl | (rw [← e_3]; exact hl) | (simp only [e_3] at hl ⊢; exact hl)
    exact loop22 (10 + 1) 0 M.hard M.pret (by omega) (by omega) (fun _ => rfl) _ _ hP hD hS ls hl
  · refine lv_iconst (v := (-1)) hx hb dX5_hards_8 (by decide) ?_
    exact zk_retI hx hb hr hS (M.pret) (by unfold hardsF; rw [c_1]; rfl) hP hD dX5_hards_9 hlocks
set_option maxHeartbeats 4000000 in
set_option maxRecDepth 100000 in
theorem m_least (l : Launch) (D : va_G) (cI : ClassId) (u : Nat) (d : Nat) (w : Int32) (hu : u ≤ 16) (hd0 : 0 < d) (hd : d ≤ 16) : Met l yX5_inLeastTerms wsX5_inLeastTerms ({ frames := 0, cells := 0, slots := 0, locals := 0 }) (PS D cI [.long (lN u), .long (lN d), .int w] ([])) (vp_Sl (fun r => r = leastF u d w)) 0 0 (fun _ => False) := by
  refine zk_S (cc := cX5_inLeastTerms) (maxL := 11) (ret := (some .long)) (by decide) rfl (Nat.le_of_ble_eq_true rfl) ?_
  intro pX eX sX mX bX tX cX hx hb hr hlocks hml hown hts hP hK ls hl
  have hl : lv_has ls 11 [(0, .long (lN u)), (2, .long (lN d)), (4, .int w)] := hl
  have hP : va_P D vwCl [] sX.heap := hP
  skip
  refine lv_lload_n hx hb dX5_inLeastTerms_0 rfl (lv_at hl 0 rfl) ?_
  refine lv_lstore (lv' := [(5, .long (lN u)), (0, .long (lN u)), (2, .long (lN d)), (4, .int w)]) hx hb dX5_inLeastTerms_1 hl (by decide) rfl (fun ls hl => ?_)
  refine lv_lload_n hx hb dX5_inLeastTerms_3 rfl (lv_at hl 2 rfl) ?_
  refine lv_lstore (lv' := [(7, .long (lN d)), (5, .long (lN u)), (0, .long (lN u)), (2, .long (lN d)), (4, .int w)]) hx hb dX5_inLeastTerms_4 hl (by decide) rfl (fun ls hl => ?_)
  have loop6 : ∀ (nL k : Nat) (a : Nat) (b : Nat), k ≤ 17 → 17 < k + nL → (b + k ≤ 16) → (a ≤ 16) → (Nat.gcd a b = Nat.gcd u d) → (b = 0 → 0 < a) → ∀ ls : Array Slot, lv_has ls 11 [(0, .long (lN u)), (2, .long (lN d)), (4, .int w), (5, .long (lN a)), (7, .long (lN b))] → W pX l eX ({ frames := 0, cells := 0, slots := 0, locals := 0 }) sX mX ([.long (lN u), .long (lN d), .int w] : List Value).toArray bX tX cX sX.heap [] 0 0 (MQ bX (vp_Sl (fun r => r = leastF u d w)) ([.long (lN u), .long (lN d), .int w] : List Value).toArray sX 0 0 (fun _ => False)) (F0 mX 6 ls []) := by
    intro nL
    induction nL with
    | zero => intro k a b h1 h2; exact absurd h2 (by omega)
    | succ nL ih =>
      intro k a b h_le h_n hab ha hgc hpos  ls hl
      refine lv_lload hx hb dX5_inLeastTerms_6 (lv_at hl 4 rfl) ?_
      refine lv_lconst (v := 0) hx hb dX5_inLeastTerms_8 (by decide) ?_
      refine W.lcmp hx hb dX5_inLeastTerms_9 ?_
      refine lv_if_eq (tgt := 31) hx hb dX5_inLeastTerms_10 (by decide) (fun c_1 => ?_) (fun c_1 => ?_)
      · have h_b : b = 0 := (lgc0 (by omega)).mp c_1
        have h_g : Nat.gcd d u = a := by rw [Nat.gcd_comm, ← hgc, h_b, Nat.gcd_zero_right]
        have h_a := hpos h_b
        refine lv_iload hx hb dX5_inLeastTerms_31 (lv_at hl 2 rfl) ?_
        refine lv_if_ne (tgt := 43) hx hb dX5_inLeastTerms_33 (by decide) (fun c_2 => ?_) (fun c_2 => ?_)
        · refine lv_lload_n hx hb dX5_inLeastTerms_43 rfl (lv_at hl 1 rfl) ?_
          refine lv_lload hx hb dX5_inLeastTerms_44 (lv_at hl 3 rfl) ?_
          refine lv_ldiv hx hb dX5_inLeastTerms_46 (by intro q; have := (lN_eq (a := a) (b := 0) (by omega) (by omega)).mp (q.trans (show (0 : Int64) = lN 0 from by decide)); omega) ?_
          refine zk_topl (y := lN (d / a)) (pk_lDiv (by omega) (by omega) (by omega)) ?_
          exact zk_retSL hx hb hr (by unfold leastF; rw [if_neg c_2, h_g]) dX5_inLeastTerms_47 hlocks
        · refine lv_lload_n hx hb dX5_inLeastTerms_36 rfl (lv_at hl 0 rfl) ?_
          refine lv_lload hx hb dX5_inLeastTerms_37 (lv_at hl 3 rfl) ?_
          refine lv_ldiv hx hb dX5_inLeastTerms_39 (by intro q; have := (lN_eq (a := a) (b := 0) (by omega) (by omega)).mp (q.trans (show (0 : Int64) = lN 0 from by decide)); omega) ?_
          refine zk_topl (y := lN (u / a)) (pk_lDiv (by omega) (by omega) (by omega)) ?_
          refine lv_goto (tgt := 47) hx hb dX5_inLeastTerms_40 (by decide) ?_
          exact zk_retSL hx hb hr (by unfold leastF; rw [if_pos c_2, h_g]) dX5_inLeastTerms_47 hlocks
      · have h_b : ¬ b = 0 := fun q => c_1 ((lgc0 (by omega)).mpr q)
        have h_m := Nat.mod_lt a (show b > 0 by omega)
        refine lv_lload hx hb dX5_inLeastTerms_13 (lv_at hl 3 rfl) ?_
        refine lv_lload hx hb dX5_inLeastTerms_15 (lv_at hl 4 rfl) ?_
        refine lv_lrem hx hb dX5_inLeastTerms_17 (by intro q; exact h_b ((lN_eq (by omega) (by omega)).mp (q.trans (show (0 : Int64) = lN 0 from by decide)))) ?_
        refine zk_topl (y := lN (a % b)) (pk_lRem (by omega) (by omega) (by omega)) ?_
        refine lv_lstore (lv' := [(9, .long (lN (a % b))), (0, .long (lN u)), (2, .long (lN d)), (4, .int w), (5, .long (lN a)), (7, .long (lN b))]) hx hb dX5_inLeastTerms_18 hl (by decide) rfl (fun ls hl => ?_)
        refine lv_lload hx hb dX5_inLeastTerms_20 (lv_at hl 5 rfl) ?_
        refine lv_lstore (lv' := [(5, .long (lN b)), (9, .long (lN (a % b))), (0, .long (lN u)), (2, .long (lN d)), (4, .int w), (7, .long (lN b))]) hx hb dX5_inLeastTerms_22 hl (by decide) rfl (fun ls hl => ?_)
        refine lv_lload hx hb dX5_inLeastTerms_24 (lv_at hl 1 rfl) ?_
        refine lv_lstore (lv' := [(7, .long (lN (a % b))), (5, .long (lN b)), (9, .long (lN (a % b))), (0, .long (lN u)), (2, .long (lN d)), (4, .int w)]) hx hb dX5_inLeastTerms_26 hl (by decide) rfl (fun ls hl => ?_)
        refine lv_goto (tgt := 6) hx hb dX5_inLeastTerms_28 (by decide) ?_
        exact ih (k + 1) b (a % b) (by omega) (by omega) (by omega) (by omega) (gcdS.trans hgc) (by omega)  ls (lv_sub hl [3, 4, 5, 1, 0] rfl)
  exact loop6 (17 + 1) 0 u d (by omega) (by omega) (by omega) (hu) (rfl) (by omega)  ls (lv_sub hl [2, 3, 4, 1, 0] rfl)
