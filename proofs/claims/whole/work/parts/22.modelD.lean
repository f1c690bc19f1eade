abbrev wMs (cI : ClassId) (m1 m2 m3 : Nat) (so lg mc : Nat → Int32) : va_W := [(m1, .inl (cI, 4, .inl so)), (m2, .inl (cI, 4, .inl lg)), (m3, .inl (cI, 240, .inl mc))]
theorem hdX5_inLeastTerms : yX5_inLeastTerms.cls ≠ "java/lang/invoke/MethodHandle" ∧ yX5_inLeastTerms.cls ≠ "java/lang/invoke/VarHandle" ∧ (parseMethodDescriptor yX5_inLeastTerms.desc).map (fun d => d.parameters.length) = some 3 := by decide +kernel
theorem hdX5_isSheet : yX5_isSheet.cls ≠ "java/lang/invoke/MethodHandle" ∧ yX5_isSheet.cls ≠ "java/lang/invoke/VarHandle" ∧ (parseMethodDescriptor yX5_isSheet.desc).map (fun d => d.parameters.length) = some 1 := by decide +kernel
theorem hdX5_isSort : yX5_isSort.cls ≠ "java/lang/invoke/MethodHandle" ∧ yX5_isSort.cls ≠ "java/lang/invoke/VarHandle" ∧ (parseMethodDescriptor yX5_isSort.desc).map (fun d => d.parameters.length) = some 1 := by decide +kernel
theorem hdX5_lost : yX5_lost.cls = RX5 ∧ yX5_lost.cls ≠ "java/lang/invoke/MethodHandle" ∧ yX5_lost.cls ≠ "java/lang/invoke/VarHandle" ∧ (parseMethodDescriptor yX5_lost.desc).map (fun d => d.parameters.length) = some 1 := by decide +kernel
set_option maxHeartbeats 4000000 in
set_option maxRecDepth 100000 in
theorem mx_odds (l : Launch) (D : va_G) (cI : ClassId) (sz : Nat) (m0 : Nat) (m1 : Nat) (m2 : Nat) (m3 : Nat) (m4 : Nat) (m5 : Nat) (m6 : Nat) (m7 : Nat) (m8 : Nat) (m9 : Nat) (m10 : Nat) (m11 : Nat) (m12 : Nat) (m13 : Nat) (m14 : Nat) (m15 : Nat) (fm : Int32) (tm : Int32) (at1 : Nat) (rdb : Int32) (rrm : Int32) (rD : Nat) (rP : Nat) (mt : Nat) (M : YS) (p : Int32) (w : Int32) (hg : GdY M) : Met l yX5_odds wsX5_odds ({ frames := 6, cells := 0, slots := 0, locals := 144 }) (PQ D cI [.ref m0, .int p, .int w] (wMo m0 m1 m2 m3 m4 m5 m6 m7 m8 m9 m10 m11 m12 m13 m14 m15 fm tm at1 rdb rrm rD rP mt M ++ wMa cI m4 m5 m6 m7 m12 M) sz) (QL (S := Nat → Int32) D (fun r _ => r = oddsF M p w) (fun u => wMo m0 m1 m2 m3 m4 m5 m6 m7 m8 m9 m10 m11 m12 m13 m14 m15 fm tm at1 rdb rrm rD rP mt (M.sPret u) ++ wMa cI m4 m5 m6 m7 m12 (M.sPret u)) (va_A (wMo m0 m1 m2 m3 m4 m5 m6 m7 m8 m9 m10 m11 m12 m13 m14 m15 fm tm at1 rdb rrm rD rP mt M ++ wMa cI m4 m5 m6 m7 m12 M) sz)) 0 0 (va_A (wMo m0 m1 m2 m3 m4 m5 m6 m7 m8 m9 m10 m11 m12 m13 m14 m15 fm tm at1 rdb rrm rD rP mt M ++ wMa cI m4 m5 m6 m7 m12 M) sz) := by
  refine zk_Q (QL (S := Nat → Int32) D (fun r _ => r = oddsF M p w) (fun u => wMo m0 m1 m2 m3 m4 m5 m6 m7 m8 m9 m10 m11 m12 m13 m14 m15 fm tm at1 rdb rrm rD rP mt (M.sPret u) ++ wMa cI m4 m5 m6 m7 m12 (M.sPret u))) (cc := cX5_odds) (maxL := 6) (ret := (some .long)) (by decide) rfl (Nat.le_of_ble_eq_true rfl) ?_
  intro pX eX sX mX bX tX cX hx hb hr hlocks hml hown hmn hts hP hK A hA hD hS ls hl
  have hl : lv_has ls 6 [(0, .ref m0), (1, .int p), (2, .int w)] := hl
  have hP : va_P D vwCl [(m0, .inr (5, [.int fm, .int tm, .ref m1, .ref m2, .ref m3, .int M.db, .int M.rm, .int (nI M.D), .int (nI M.P), .ref m4, .ref m5, .ref m6, .ref m7, .int (nI at1), .int rdb, .int rrm, .int (nI rD), .int (nI rP), .ref m8, .ref m9, .ref m10, .ref m11, .ref m12, .int (nI mt), .ref m13, .ref m14, .ref m15])), (m4, .inl (cI, 5, .inl M.hard)), (m5, .inl (cI, 4, .inl M.kind)), (m6, .inl (cI, 4, .inl M.wit)), (m7, .inl (cI, 4, .inl M.pat)), (m12, .inl (cI, 4, .inl M.pret))] sX.heap := hP
  have hD : va_D A [(m0, .inr (5, [.int fm, .int tm, .ref m1, .ref m2, .ref m3, .int M.db, .int M.rm, .int (nI M.D), .int (nI M.P), .ref m4, .ref m5, .ref m6, .ref m7, .int (nI at1), .int rdb, .int rrm, .int (nI rD), .int (nI rP), .ref m8, .ref m9, .ref m10, .ref m11, .ref m12, .int (nI mt), .ref m13, .ref m14, .ref m15])), (m4, .inl (cI, 5, .inl M.hard)), (m5, .inl (cI, 4, .inl M.kind)), (m6, .inl (cI, 4, .inl M.wit)), (m7, .inl (cI, 4, .inl M.pat)), (m12, .inl (cI, 4, .inl M.pret))] := hD
  have k_59 := hts (.constantLong RX5 59 (-9223372036854775808)) (by decide +kernel)
  have f_65 := hts (.fieldLink RX5 65 "DunceSeeModel" "pupils" "I") (by decide +kernel)
  have f_43 := hts (.fieldLink RX5 43 "DunceSeeModel" "pretends" "[I") (by decide +kernel)
  have f_68 := hts (.fieldLink RX5 68 "DunceSeeModel" "days" "I") (by decide +kernel)
  have inX5 : ∀ w ∈ wsX50, w ∈ wsX5_odds := fun w h => List.mem_cons_of_mem _ (List.mem_append_right _ h)
  have hD5 : M.D ≤ 5 := hg.1.1
  have hP4 : M.P ≤ 4 := hg.1.2
  have h16 := pow16 hP4
  have h1p := Nat.two_pow_pos M.P
  refine lv_aload_n hx hb dX5_odds_0 rfl (lv_at hl 0 rfl) ?_
  refine lv_iload_n hx hb dX5_odds_1 rfl (lv_at hl 1 rfl) ?_
  refine zk_callVi (As := [.int p]) (rest := []) (bI (isP M.P p)) ⟨hx, hb, hml, hown, hts⟩ hK hP [0, 1, 2, 3, 4, 5] rfl (m_isPupil l D cI m0 m1 m2 m3 m4 m5 m6 m7 m8 m9 m10 m11 m12 m13 m14 m15 fm tm at1 rdb rrm rD rP mt M p ) (cwV 1 hts gX5_odds_X5_isPupil rfl rfl rfl hdX5_isPupil ⟨Nat.le_of_ble_eq_true rfl, Nat.le_of_ble_eq_true rfl⟩) rfl rfl rfl hl.1 rfl (Nat.le_of_ble_eq_true rfl) dX5_odds_2 ⟨Nat.le_of_ble_eq_true rfl, Nat.le_of_ble_eq_true rfl⟩ ?_
  refine zk_ifeqB (tgt := 17) hx hb dX5_odds_5 (by decide) (fun c_1 => ?_) (fun c_1 => ?_)
  · refine lv_ldc2 (v := (-9223372036854775808)) hx hb hown k_59 dX5_odds_17 ?_
    exact zk_retL hx hb hr hS (M.pret) (by unfold oddsF; simp [c_1]) hP hD dX5_odds_20 hlocks
  · obtain ⟨j, hj, e_j, g_j⟩ := isP_of (by omega) c_1
    rw [e_j] at hl
    refine lv_iload_n hx hb dX5_odds_8 rfl (lv_at hl 2 rfl) ?_
    refine lv_iconst (v := nI 0) hx hb dX5_odds_9 (by decide) ?_
    refine lv_iconst (v := nI 1) hx hb dX5_odds_10 (by decide) ?_
    refine zk_callSi (As := [.int w, .int (nI 0), .int (nI 1)]) (rest := []) (bI (wiB w (nI 0) (nI 1))) ⟨hx, hb, hml, hown, hts⟩ hK hP [] rfl (m_within l D cI w (nI 0) (nI 1) ) (va_cwS 3 hts gX5_odds_X5_within rfl rfl rfl hdX5_within ⟨Nat.le_of_ble_eq_true rfl, Nat.le_of_ble_eq_true rfl⟩) rfl hl.1 rfl (Nat.le_of_ble_eq_true rfl) dX5_odds_11 ⟨Nat.le_of_ble_eq_true rfl, Nat.le_of_ble_eq_true rfl⟩ ?_
    refine zk_ifneB (tgt := 21) hx hb dX5_odds_14 (by decide) (fun c_2 => ?_) (fun c_2 => ?_)
    · have c_w : (decide (0 ≤ w) && decide (w ≤ nI 1)) = true := by rw [← wiB0]; exact c_2
      refine lv_iconst (v := nI 0) hx hb dX5_odds_21 (by decide) ?_
      refine lv_istore_n (lv' := [(3, .int (nI 0)), (0, .ref m0), (1, .int (nI j)), (2, .int w)]) hx hb dX5_odds_22 rfl hl (by decide) rfl (fun ls hl => ?_)
      refine lv_iconst (v := nI 0) hx hb dX5_odds_23 (by decide) ?_
      refine lv_istore (lv' := [(4, .int (nI 0)), (3, .int (nI 0)), (0, .ref m0), (1, .int (nI j)), (2, .int w)]) hx hb dX5_odds_24 hl (by decide) rfl (fun ls hl => ?_)
      have loop26 : ∀ (nL k : Nat) (pt : Nat → Int32), k ≤ (2 ^ M.P) → (2 ^ M.P) < k + nL → ∀ (H : Heap) (locs : List Loc), va_P D vwCl [(m0, .inr (5, [.int fm, .int tm, .ref m1, .ref m2, .ref m3, .int M.db, .int M.rm, .int (nI M.D), .int (nI M.P), .ref m4, .ref m5, .ref m6, .ref m7, .int (nI at1), .int rdb, .int rrm, .int (nI rD), .int (nI rP), .ref m8, .ref m9, .ref m10, .ref m11, .ref m12, .int (nI mt), .ref m13, .ref m14, .ref m15])), (m4, .inl (cI, 5, .inl M.hard)), (m5, .inl (cI, 4, .inl M.kind)), (m6, .inl (cI, 4, .inl M.wit)), (m7, .inl (cI, 4, .inl M.pat)), (m12, .inl (cI, 4, .inl pt))] H → va_D A [(m0, .inr (5, [.int fm, .int tm, .ref m1, .ref m2, .ref m3, .int M.db, .int M.rm, .int (nI M.D), .int (nI M.P), .ref m4, .ref m5, .ref m6, .ref m7, .int (nI at1), .int rdb, .int rrm, .int (nI rD), .int (nI rP), .ref m8, .ref m9, .ref m10, .ref m11, .ref m12, .int (nI mt), .ref m13, .ref m14, .ref m15])), (m4, .inl (cI, 5, .inl M.hard)), (m5, .inl (cI, 4, .inl M.kind)), (m6, .inl (cI, 4, .inl M.wit)), (m7, .inl (cI, 4, .inl M.pat)), (m12, .inl (cI, 4, .inl pt))] → va_S A sX.heap H locs → ∀ ls : Array Slot, lv_has ls 6 [(0, .ref m0), (1, .int (nI j)), (2, .int w), (3, .int (nI (cnt k (odB M j)))), (4, .int (nI k))] → W pX l eX ({ frames := 6, cells := 0, slots := 0, locals := 144 }) sX mX ([.ref m0, .int p, .int w] : List Value).toArray bX tX cX H locs 0 0 (MQ bX (QL (S := Nat → Int32) D (fun r _ => r = oddsF M p w) (fun u => wMo m0 m1 m2 m3 m4 m5 m6 m7 m8 m9 m10 m11 m12 m13 m14 m15 fm tm at1 rdb rrm rD rP mt (M.sPret u) ++ wMa cI m4 m5 m6 m7 m12 (M.sPret u)) A) ([.ref m0, .int p, .int w] : List Value).toArray sX 0 0 A) (F0 mX 26 ls []) := by
        intro nL
        induction nL with
        | zero => intro k pt h1 h2; exact absurd h2 (by omega)
        | succ nL ih =>
          intro k pt h_le h_n  H locs hP hD hS ls hl
          have ihk := ih
          refine lv_iload hx hb dX5_odds_26 (lv_at hl 4 rfl) ?_
          refine lv_iconst (v := nI 1) hx hb dX5_odds_28 (by decide) ?_
          refine lv_aload_n hx hb dX5_odds_29 rfl (lv_at hl 0 rfl) ?_
          refine va_get (D := D) (ci := 5) (v := .int (nI M.P)) (C := RX5) (T := TX5) (N := 27) hx hb hts inX5 hown hK.1 hP 0 rfl rfl 8 (by decide) f_65 (fun _ h9 => h9) rfl dX5_odds_30 ?_
          refine lv_ishl hx hb dX5_odds_33 ?_
          refine zk_top (y := nI (2 ^ M.P)) (shl2 _ hP4) ?_
          refine zk_icmp_ge (tgt := 107) hx hb dX5_odds_34 (by decide) (by omega) (by omega) (fun c_3 => ?_) (fun c_3 => ?_)
          · have e_k : k = 2 ^ M.P := by omega
            rw [e_k] at hl
            refine lv_iload_n hx hb dX5_odds_107 rfl (lv_at hl 3 rfl) ?_
            refine lv_i2l (v := lN (cnt (2 ^ M.P) (odB M j))) hx hb dX5_odds_108 (nI_l (by have := cnt_le (2 ^ M.P) (odB M j); omega)) ?_
            refine lv_lconst (v := 1) hx hb dX5_odds_109 (by decide) ?_
            refine lv_aload_n hx hb dX5_odds_110 rfl (lv_at hl 0 rfl) ?_
            refine va_get (D := D) (ci := 5) (v := .int (nI M.P)) (C := RX5) (T := TX5) (N := 27) hx hb hts inX5 hown hK.1 hP 0 rfl rfl 8 (by decide) f_65 (fun _ h9 => h9) rfl dX5_odds_111 ?_
            refine lv_lshl (v := lN (2 ^ M.P)) hx hb dX5_odds_114 (lshl2 _ hP4) ?_
            refine lv_iload_n hx hb dX5_odds_115 rfl (lv_at hl 2 rfl) ?_
            refine zk_callSl (As := [.long (lN (cnt (2 ^ M.P) (odB M j))), .long (lN (2 ^ M.P)), .int w]) (rest := []) (leastF (cnt (2 ^ M.P) (odB M j)) (2 ^ M.P) w) ⟨hx, hb, hml, hown, hts⟩ hK hP [] rfl (m_least l D cI (cnt (2 ^ M.P) (odB M j)) (2 ^ M.P) w (by have := cnt_le (2 ^ M.P) (odB M j); omega) h1p h16) (va_cwS 3 hts gX5_odds_X5_inLeastTerms rfl rfl rfl hdX5_inLeastTerms ⟨Nat.le_of_ble_eq_true rfl, Nat.le_of_ble_eq_true rfl⟩) rfl hl.1 rfl (Nat.le_of_ble_eq_true rfl) dX5_odds_116 ⟨Nat.le_of_ble_eq_true rfl, Nat.le_of_ble_eq_true rfl⟩ ?_
            exact zk_retL hx hb hr hS (pt) (by unfold oddsF leastF; rw [c_1, c_w, g_j, if_pos (show (true && true) = true from rfl)]) hP hD dX5_odds_119 hlocks
          · refine lv_iconst (v := nI 0) hx hb dX5_odds_37 (by decide) ?_
            refine lv_istore (lv' := [(5, .int (nI 0)), (0, .ref m0), (1, .int (nI j)), (2, .int w), (3, .int (nI (cnt k (odB M j)))), (4, .int (nI k))]) hx hb dX5_odds_38 hl (by decide) rfl (fun ls hl => ?_)
            have loop40 : ∀ (nL q : Nat), q ≤ M.P → M.P < q + nL → ∀ (H : Heap) (locs : List Loc), va_P D vwCl [(m0, .inr (5, [.int fm, .int tm, .ref m1, .ref m2, .ref m3, .int M.db, .int M.rm, .int (nI M.D), .int (nI M.P), .ref m4, .ref m5, .ref m6, .ref m7, .int (nI at1), .int rdb, .int rrm, .int (nI rD), .int (nI rP), .ref m8, .ref m9, .ref m10, .ref m11, .ref m12, .int (nI mt), .ref m13, .ref m14, .ref m15])), (m4, .inl (cI, 5, .inl M.hard)), (m5, .inl (cI, 4, .inl M.kind)), (m6, .inl (cI, 4, .inl M.wit)), (m7, .inl (cI, 4, .inl M.pat)), (m12, .inl (cI, 4, .inl (tab q (fun p => if hbit (nI k) p then nI (aD M.D) else nI 0) pt)))] H → va_D A [(m0, .inr (5, [.int fm, .int tm, .ref m1, .ref m2, .ref m3, .int M.db, .int M.rm, .int (nI M.D), .int (nI M.P), .ref m4, .ref m5, .ref m6, .ref m7, .int (nI at1), .int rdb, .int rrm, .int (nI rD), .int (nI rP), .ref m8, .ref m9, .ref m10, .ref m11, .ref m12, .int (nI mt), .ref m13, .ref m14, .ref m15])), (m4, .inl (cI, 5, .inl M.hard)), (m5, .inl (cI, 4, .inl M.kind)), (m6, .inl (cI, 4, .inl M.wit)), (m7, .inl (cI, 4, .inl M.pat)), (m12, .inl (cI, 4, .inl (tab q (fun p => if hbit (nI k) p then nI (aD M.D) else nI 0) pt)))] → va_S A sX.heap H locs → ∀ ls : Array Slot, lv_has ls 6 [(0, .ref m0), (1, .int (nI j)), (2, .int w), (3, .int (nI (cnt k (odB M j)))), (4, .int (nI k)), (5, .int (nI q))] → W pX l eX ({ frames := 6, cells := 0, slots := 0, locals := 144 }) sX mX ([.ref m0, .int p, .int w] : List Value).toArray bX tX cX H locs 0 0 (MQ bX (QL (S := Nat → Int32) D (fun r _ => r = oddsF M p w) (fun u => wMo m0 m1 m2 m3 m4 m5 m6 m7 m8 m9 m10 m11 m12 m13 m14 m15 fm tm at1 rdb rrm rD rP mt (M.sPret u) ++ wMa cI m4 m5 m6 m7 m12 (M.sPret u)) A) ([.ref m0, .int p, .int w] : List Value).toArray sX 0 0 A) (F0 mX 40 ls []) := by
              intro nL
              induction nL with
              | zero => intro q  h1 h2; exact absurd h2 (by omega)
              | succ nL ih =>
                intro q  h_le h_n  H locs hP hD hS ls hl
                have ihq := ih
                refine lv_iload hx hb dX5_odds_40 (lv_at hl 5 rfl) ?_
                refine lv_aload_n hx hb dX5_odds_42 rfl (lv_at hl 0 rfl) ?_
                refine va_get (D := D) (ci := 5) (v := .int (nI M.P)) (C := RX5) (T := TX5) (N := 27) hx hb hts inX5 hown hK.1 hP 0 rfl rfl 8 (by decide) f_65 (fun _ h9 => h9) rfl dX5_odds_43 ?_
                refine zk_icmp_ge (tgt := 85) hx hb dX5_odds_46 (by decide) (by omega) (by omega) (fun c_4 => ?_) (fun c_4 => ?_)
                · have e_q : q = M.P := by omega
                  rw [e_q] at hP hD
                  refine lv_iload_n hx hb dX5_odds_85 rfl (lv_at hl 3 rfl) ?_
                  refine lv_aload_n hx hb dX5_odds_86 rfl (lv_at hl 0 rfl) ?_
                  refine zk_callVi (As := []) (rest := [.int (nI (cnt k (odB M j)))]) (bish (M.sPret (tab M.P (fun p => if hbit (nI k) p then nI (aD M.D) else nI 0) pt))) ⟨hx, hb, hml, hown, hts⟩ hK hP [0, 1, 2, 3, 4, 5] rfl (m_bishopNow l D cI m0 m1 m2 m3 m4 m5 m6 m7 m8 m9 m10 m11 m12 m13 m14 m15 fm tm at1 rdb rrm rD rP mt (M.sPret (tab M.P (fun p => if hbit (nI k) p then nI (aD M.D) else nI 0) pt)) hg) (cwV 0 hts gX5_odds_X5_bishopNow rfl rfl rfl hdX5_bishopNow ⟨Nat.le_of_ble_eq_true rfl, Nat.le_of_ble_eq_true rfl⟩) rfl rfl rfl hl.1 rfl (Nat.le_of_ble_eq_true rfl) dX5_odds_87 ⟨Nat.le_of_ble_eq_true rfl, Nat.le_of_ble_eq_true rfl⟩ ?_
                  refine zk_top (y := bish (M.po k)) (bish_c (Y := M.sPret (tab M.P (fun p => if hbit (nI k) p then nI (aD M.D) else nI 0) pt)) (Z := M.po k) ⟨rfl, rfl, rfl, rfl, fun _ _ => rfl, fun p hp => ⟨rfl, rfl, rfl, tab_lt (k := M.P) (j := p) hp (fun p => if hbit (nI k) p then nI (aD M.D) else nI 0) pt⟩⟩) ?_
                  refine lv_iload_n hx hb dX5_odds_90 rfl (lv_at hl 1 rfl) ?_
                  refine lv_icmp_ne (tgt := 98) hx hb dX5_odds_91 (by decide) (fun c_5 => ?_) (fun c_5 => ?_)
                  · refine lv_iconst (v := nI 0) hx hb dX5_odds_98 (by decide) ?_
                    refine zk_iaddN hx hb dX5_odds_99 ?_
                    refine lv_istore_n (lv' := [(3, .int (nI (cnt k (odB M j) + 0))), (0, .ref m0), (1, .int (nI j)), (2, .int w), (4, .int (nI k)), (5, .int (nI q))]) hx hb dX5_odds_100 rfl hl (by decide) rfl (fun ls hl => ?_)
                    refine lv_iinc (v := nI (k + 1)) (lv' := [(4, .int (nI (k + 1))), (3, .int (nI (cnt k (odB M j) + 0))), (0, .ref m0), (1, .int (nI j)), (2, .int w), (5, .int (nI q))]) hx hb dX5_odds_101 hl (k := 4) rfl (by rw [show (Int32.ofInt 1) = nI 1 from by decide, nI_add]) (by decide) rfl (fun ls hl => ?_)
                    refine lv_goto (tgt := 26) hx hb dX5_odds_104 (by decide) ?_
                    have hl := lv_sub hl [2, 3, 4, 1, 0] rfl
                    have e_3 : nI (cnt k (odB M j) + 0) = nI (cnt (k + 1) (odB M j)) := cnt_no (decide_eq_false c_5)
                    rw [e_3] at hl
                    exact ihk (k + 1) (tab M.P (fun p => if hbit (nI k) p then nI (aD M.D) else nI 0) pt) (by omega) (by omega)  _ _ hP hD hS ls hl
                  · refine lv_iconst (v := nI 1) hx hb dX5_odds_94 (by decide) ?_
                    refine lv_goto (tgt := 99) hx hb dX5_odds_95 (by decide) ?_
                    refine zk_iaddN hx hb dX5_odds_99 ?_
                    refine lv_istore_n (lv' := [(3, .int (nI (cnt k (odB M j) + 1))), (0, .ref m0), (1, .int (nI j)), (2, .int w), (4, .int (nI k)), (5, .int (nI q))]) hx hb dX5_odds_100 rfl hl (by decide) rfl (fun ls hl => ?_)
                    refine lv_iinc (v := nI (k + 1)) (lv' := [(4, .int (nI (k + 1))), (3, .int (nI (cnt k (odB M j) + 1))), (0, .ref m0), (1, .int (nI j)), (2, .int w), (5, .int (nI q))]) hx hb dX5_odds_101 hl (k := 4) rfl (by rw [show (Int32.ofInt 1) = nI 1 from by decide, nI_add]) (by decide) rfl (fun ls hl => ?_)
                    refine lv_goto (tgt := 26) hx hb dX5_odds_104 (by decide) ?_
                    have hl := lv_sub hl [2, 3, 4, 1, 0] rfl
                    have e_3 : nI (cnt k (odB M j) + 1) = nI (cnt (k + 1) (odB M j)) := cnt_in (decide_eq_true c_5)
                    rw [e_3] at hl
                    exact ihk (k + 1) (tab M.P (fun p => if hbit (nI k) p then nI (aD M.D) else nI 0) pt) (by omega) (by omega)  _ _ hP hD hS ls hl
                · refine lv_aload_n hx hb dX5_odds_49 rfl (lv_at hl 0 rfl) ?_
                  refine va_get (D := D) (ci := 5) (v := .ref m12) (C := RX5) (T := TX5) (N := 27) hx hb hts inX5 hown hK.1 hP 0 rfl rfl 22 (by decide) f_43 (fun _ h9 => h9) rfl dX5_odds_50 ?_
                  refine lv_iload hx hb dX5_odds_53 (lv_at hl 5 rfl) ?_
                  refine lv_iload hx hb dX5_odds_55 (lv_at hl 4 rfl) ?_
                  refine lv_iload hx hb dX5_odds_57 (lv_at hl 5 rfl) ?_
                  refine lv_ishr hx hb dX5_odds_59 ?_
                  refine lv_iconst (v := nI 1) hx hb dX5_odds_60 (by decide) ?_
                  refine lv_iand hx hb dX5_odds_61 ?_
                  refine lv_iconst (v := nI 1) hx hb dX5_odds_62 (by decide) ?_
                  refine lv_icmp_ne (tgt := 77) hx hb dX5_odds_63 (by decide) (fun c_6 => ?_) (fun c_6 => ?_)
                  · refine lv_iconst (v := nI 0) hx hb dX5_odds_77 (by decide) ?_
                    refine zk_iast (x := nI 0) hx hb hK hP hD hS 5 rfl (by omega) (by decide) dX5_odds_78 (fun H locs hP hD hS => ?_)
                    have hP : va_P D vwCl [(m0, .inr (5, [.int fm, .int tm, .ref m1, .ref m2, .ref m3, .int M.db, .int M.rm, .int (nI M.D), .int (nI M.P), .ref m4, .ref m5, .ref m6, .ref m7, .int (nI at1), .int rdb, .int rrm, .int (nI rD), .int (nI rP), .ref m8, .ref m9, .ref m10, .ref m11, .ref m12, .int (nI mt), .ref m13, .ref m14, .ref m15])), (m4, .inl (cI, 5, .inl M.hard)), (m5, .inl (cI, 4, .inl M.kind)), (m6, .inl (cI, 4, .inl M.wit)), (m7, .inl (cI, 4, .inl M.pat)), (m12, .inl (cI, 4, .inl (upd (tab q (fun p => if hbit (nI k) p then nI (aD M.D) else nI 0) pt) q (nI 0))))] H := hP
                    have hD : va_D A [(m0, .inr (5, [.int fm, .int tm, .ref m1, .ref m2, .ref m3, .int M.db, .int M.rm, .int (nI M.D), .int (nI M.P), .ref m4, .ref m5, .ref m6, .ref m7, .int (nI at1), .int rdb, .int rrm, .int (nI rD), .int (nI rP), .ref m8, .ref m9, .ref m10, .ref m11, .ref m12, .int (nI mt), .ref m13, .ref m14, .ref m15])), (m4, .inl (cI, 5, .inl M.hard)), (m5, .inl (cI, 4, .inl M.kind)), (m6, .inl (cI, 4, .inl M.wit)), (m7, .inl (cI, 4, .inl M.pat)), (m12, .inl (cI, 4, .inl (upd (tab q (fun p => if hbit (nI k) p then nI (aD M.D) else nI 0) pt) q (nI 0))))] := hD
                    refine lv_iinc (v := nI (q + 1)) (lv' := [(5, .int (nI (q + 1))), (0, .ref m0), (1, .int (nI j)), (2, .int w), (3, .int (nI (cnt k (odB M j)))), (4, .int (nI k))]) hx hb dX5_odds_79 hl (k := 5) rfl (by rw [show (Int32.ofInt 1) = nI 1 from by decide, nI_add]) (by decide) rfl (fun ls hl => ?_)
                    refine lv_goto (tgt := 40) hx hb dX5_odds_82 (by decide) ?_
                    have e_v : upd (tab q (fun p => if hbit (nI k) p then nI (aD M.D) else nI 0) pt) q (nI 0) = tab (q + 1) (fun p => if hbit (nI k) p then nI (aD M.D) else nI 0) pt := by rw [← tab_s q (fun p => if hbit (nI k) p then nI (aD M.D) else nI 0) pt]; simp [hbit_n1 c_6]
                    rw [e_v] at hP hD
                    exact ihq (q + 1)  (by omega) (by omega)  _ _ hP hD hS ls (lv_sub hl [1, 2, 3, 4, 5, 0] rfl)
                  · refine lv_iconst (v := nI 1) hx hb dX5_odds_66 (by decide) ?_
                    refine lv_aload_n hx hb dX5_odds_67 rfl (lv_at hl 0 rfl) ?_
                    refine va_get (D := D) (ci := 5) (v := .int (nI M.D)) (C := RX5) (T := TX5) (N := 27) hx hb hts inX5 hown hK.1 hP 0 rfl rfl 7 (by decide) f_68 (fun _ h9 => h9) rfl dX5_odds_68 ?_
                    refine lv_ishl hx hb dX5_odds_71 ?_
                    refine lv_iconst (v := nI 1) hx hb dX5_odds_72 (by decide) ?_
                    refine lv_isub hx hb dX5_odds_73 ?_
                    refine zk_top (y := nI (aD M.D)) (aD_eq _ hD5) ?_
                    refine lv_goto (tgt := 78) hx hb dX5_odds_74 (by decide) ?_
                    refine zk_iast (x := nI (aD M.D)) hx hb hK hP hD hS 5 rfl (by omega) (by decide) dX5_odds_78 (fun H locs hP hD hS => ?_)
                    have hP : va_P D vwCl [(m0, .inr (5, [.int fm, .int tm, .ref m1, .ref m2, .ref m3, .int M.db, .int M.rm, .int (nI M.D), .int (nI M.P), .ref m4, .ref m5, .ref m6, .ref m7, .int (nI at1), .int rdb, .int rrm, .int (nI rD), .int (nI rP), .ref m8, .ref m9, .ref m10, .ref m11, .ref m12, .int (nI mt), .ref m13, .ref m14, .ref m15])), (m4, .inl (cI, 5, .inl M.hard)), (m5, .inl (cI, 4, .inl M.kind)), (m6, .inl (cI, 4, .inl M.wit)), (m7, .inl (cI, 4, .inl M.pat)), (m12, .inl (cI, 4, .inl (upd (tab q (fun p => if hbit (nI k) p then nI (aD M.D) else nI 0) pt) q (nI (aD M.D)))))] H := hP
                    have hD : va_D A [(m0, .inr (5, [.int fm, .int tm, .ref m1, .ref m2, .ref m3, .int M.db, .int M.rm, .int (nI M.D), .int (nI M.P), .ref m4, .ref m5, .ref m6, .ref m7, .int (nI at1), .int rdb, .int rrm, .int (nI rD), .int (nI rP), .ref m8, .ref m9, .ref m10, .ref m11, .ref m12, .int (nI mt), .ref m13, .ref m14, .ref m15])), (m4, .inl (cI, 5, .inl M.hard)), (m5, .inl (cI, 4, .inl M.kind)), (m6, .inl (cI, 4, .inl M.wit)), (m7, .inl (cI, 4, .inl M.pat)), (m12, .inl (cI, 4, .inl (upd (tab q (fun p => if hbit (nI k) p then nI (aD M.D) else nI 0) pt) q (nI (aD M.D)))))] := hD
                    refine lv_iinc (v := nI (q + 1)) (lv' := [(5, .int (nI (q + 1))), (0, .ref m0), (1, .int (nI j)), (2, .int w), (3, .int (nI (cnt k (odB M j)))), (4, .int (nI k))]) hx hb dX5_odds_79 hl (k := 5) rfl (by rw [show (Int32.ofInt 1) = nI 1 from by decide, nI_add]) (by decide) rfl (fun ls hl => ?_)
                    refine lv_goto (tgt := 40) hx hb dX5_odds_82 (by decide) ?_
                    have e_v : upd (tab q (fun p => if hbit (nI k) p then nI (aD M.D) else nI 0) pt) q (nI (aD M.D)) = tab (q + 1) (fun p => if hbit (nI k) p then nI (aD M.D) else nI 0) pt := by rw [← tab_s q (fun p => if hbit (nI k) p then nI (aD M.D) else nI 0) pt]; simp [hbit_1 c_6]
                    rw [e_v] at hP hD
                    exact ihq (q + 1)  (by omega) (by omega)  _ _ hP hD hS ls (lv_sub hl [1, 2, 3, 4, 5, 0] rfl)
            rw [← tab_0 (fun p => if hbit (nI k) p then nI (aD M.D) else nI 0) pt] at hP hD
            exact loop40 (M.P + 1) 0  (by omega) (by omega)  _ _ hP hD hS ls (lv_sub hl [1, 2, 3, 4, 5, 0] rfl)
      have hl := lv_sub hl [2, 3, 4, 1, 0] rfl
      have e_3 : nI 0 = nI (cnt 0 (odB M j)) := by rfl
      have hl : lv_has ls 6 [(0, .ref m0), (1, .int (nI j)), (2, .int w), (3, .int (nI (cnt 0 (odB M j)))), (4, .int (nI 0))] := by
        first | exact hl | (rw [← e_3]; exact hl) | (simp only [e_3] at hl ⊢; exact hl)
      exact loop26 (((2 ^ M.P)) + 1) 0 M.pret (by omega) (by omega)  _ _ hP hD hS ls hl
    · have c_w : (decide (0 ≤ w) && decide (w ≤ nI 1)) = false := by rw [← wiB0]; exact c_2
      refine lv_ldc2 (v := (-9223372036854775808)) hx hb hown k_59 dX5_odds_17 ?_
      exact zk_retL hx hb hr hS (M.pret) (by unfold oddsF; simp [c_1, g_j, c_w]) hP hD dX5_odds_20 hlocks
set_option maxHeartbeats 4000000 in
set_option maxRecDepth 100000 in
theorem m_against (l : Launch) (D : va_G) (cI : ClassId) (m0 : Nat) (m1 : Nat) (m2 : Nat) (m3 : Nat) (m4 : Nat) (m5 : Nat) (m6 : Nat) (m7 : Nat) (m8 : Nat) (m9 : Nat) (m10 : Nat) (m11 : Nat) (m12 : Nat) (m13 : Nat) (m14 : Nat) (m15 : Nat) (fm : Int32) (tm : Int32) (at1 : Nat) (rdb : Int32) (rrm : Int32) (rD : Nat) (rP : Nat) (mt : Nat) (M : YS) (so : Nat → Int32) (lg : Nat → Int32) (mc : Nat → Int32) (k : Nat) (lane : Int32) (i : Int32) (n : Int32) (hk : k < 4) : Met l yX5_against wsX5_against ({ frames := 0, cells := 0, slots := 0, locals := 0 }) (PS D cI [.ref m0, .int (nI k), .int lane, .int i, .int n] (wMo m0 m1 m2 m3 m4 m5 m6 m7 m8 m9 m10 m11 m12 m13 m14 m15 fm tm at1 rdb rrm rD rP mt M ++ wMs cI m1 m2 m3 so lg mc)) (vp_Si (fun r => r = fCelM so lg k lane i n)) 0 0 (fun _ => False) := by
  refine zk_S (cc := cX5_against) (maxL := 5) (ret := (some .int)) (by decide) rfl (Nat.le_of_ble_eq_true rfl) ?_
  intro pX eX sX mX bX tX cX hx hb hr hlocks hml hown hts hP hK ls hl
  have hl : lv_has ls 5 [(0, .ref m0), (1, .int (nI k)), (2, .int lane), (3, .int i), (4, .int n)] := hl
  have hP : va_P D vwCl [(m0, .inr (5, [.int fm, .int tm, .ref m1, .ref m2, .ref m3, .int M.db, .int M.rm, .int (nI M.D), .int (nI M.P), .ref m4, .ref m5, .ref m6, .ref m7, .int (nI at1), .int rdb, .int rrm, .int (nI rD), .int (nI rP), .ref m8, .ref m9, .ref m10, .ref m11, .ref m12, .int (nI mt), .ref m13, .ref m14, .ref m15])), (m1, .inl (cI, 4, .inl so)), (m2, .inl (cI, 4, .inl lg)), (m3, .inl (cI, 240, .inl mc))] sX.heap := hP
  have f_9 := hts (.fieldLink RX5 9 "DunceSeeModel" "sorts" "[I") (by decide +kernel)
  have f_13 := hts (.fieldLink RX5 13 "DunceSeeModel" "sheetLong" "[I") (by decide +kernel)
  have inX5 : ∀ w ∈ wsX50, w ∈ wsX5_against := fun w h => List.mem_cons_of_mem _ (List.mem_append_right _ h)
  refine lv_aload_n hx hb dX5_against_0 rfl (lv_at hl 0 rfl) ?_
  refine va_get (D := D) (ci := 5) (v := .ref m1) (C := RX5) (T := TX5) (N := 27) hx hb hts inX5 hown hK.1 hP 0 rfl rfl 2 (by decide) f_9 (fun _ h9 => h9) rfl dX5_against_1 ?_
  refine lv_iload_n hx hb dX5_against_4 rfl (lv_at hl 1 rfl) ?_
  refine zk_iald hx hb hK hP 1 rfl (by omega) (by decide) dX5_against_5 ?_
  refine lv_bipush (v := (-9)) hx hb dX5_against_6 (by decide) ?_
  refine lv_icmp_eq (tgt := 23) hx hb dX5_against_8 (by decide) (fun c_1 => ?_) (fun c_1 => ?_)
  · refine lv_aload_n hx hb dX5_against_23 rfl (lv_at hl 0 rfl) ?_
    refine va_get (D := D) (ci := 5) (v := .ref m1) (C := RX5) (T := TX5) (N := 27) hx hb hts inX5 hown hK.1 hP 0 rfl rfl 2 (by decide) f_9 (fun _ h9 => h9) rfl dX5_against_24 ?_
    refine lv_iload_n hx hb dX5_against_27 rfl (lv_at hl 1 rfl) ?_
    refine zk_iald hx hb hK hP 1 rfl (by omega) (by decide) dX5_against_28 ?_
    refine lv_bipush (v := (-9)) hx hb dX5_against_29 (by decide) ?_
    refine lv_icmp_ne (tgt := 36) hx hb dX5_against_31 (by decide) (fun c_2 => ?_) (fun c_2 => ?_)
    · exact (by exact absurd c_1 c_2)
    · refine lv_iconst (v := nI 1) hx hb dX5_against_34 (by decide) ?_
      exact zk_retS hx hb hr (by simp [fCelM, fRowM, hasM, show ¬ nI 2 = (0 : Int32) from by decide, show ¬ nI 1 = (0 : Int32) from by decide, c_1, c_2]) dX5_against_35 hlocks
  · refine lv_aload_n hx hb dX5_against_11 rfl (lv_at hl 0 rfl) ?_
    refine va_get (D := D) (ci := 5) (v := .ref m1) (C := RX5) (T := TX5) (N := 27) hx hb hts inX5 hown hK.1 hP 0 rfl rfl 2 (by decide) f_9 (fun _ h9 => h9) rfl dX5_against_12 ?_
    refine lv_iload_n hx hb dX5_against_15 rfl (lv_at hl 1 rfl) ?_
    refine zk_iald hx hb hK hP 1 rfl (by omega) (by decide) dX5_against_16 ?_
    refine lv_iload_n hx hb dX5_against_17 rfl (lv_at hl 2 rfl) ?_
    refine lv_icmp_eq (tgt := 23) hx hb dX5_against_18 (by decide) (fun c_3 => ?_) (fun c_3 => ?_)
    · have c_r : fRowM so k lane = 0 := by unfold fRowM hasM; rw [decide_eq_true c_1, if_pos rfl, if_pos c_3]; exact nI_0
      refine lv_aload_n hx hb dX5_against_23 rfl (lv_at hl 0 rfl) ?_
      refine va_get (D := D) (ci := 5) (v := .ref m1) (C := RX5) (T := TX5) (N := 27) hx hb hts inX5 hown hK.1 hP 0 rfl rfl 2 (by decide) f_9 (fun _ h9 => h9) rfl dX5_against_24 ?_
      refine lv_iload_n hx hb dX5_against_27 rfl (lv_at hl 1 rfl) ?_
      refine zk_iald hx hb hK hP 1 rfl (by omega) (by decide) dX5_against_28 ?_
      refine lv_bipush (v := (-9)) hx hb dX5_against_29 (by decide) ?_
      refine lv_icmp_ne (tgt := 36) hx hb dX5_against_31 (by decide) (fun c_4 => ?_) (fun c_4 => ?_)
      · refine lv_iload hx hb dX5_against_36 (lv_at hl 4 rfl) ?_
        refine lv_if_ge (tgt := 43) hx hb dX5_against_38 (by decide) (fun c_5 => ?_) (fun c_5 => ?_)
        · refine lv_iload_n hx hb dX5_against_43 rfl (lv_at hl 3 rfl) ?_
          refine lv_if_lt (tgt := 70) hx hb dX5_against_44 (by decide) (fun c_6 => ?_) (fun c_6 => ?_)
          · refine lv_iconst (v := nI 3) hx hb dX5_against_70 (by decide) ?_
            refine lv_goto (tgt := 75) hx hb dX5_against_71 (by decide) ?_
            exact zk_retS hx hb hr (by simp [fCelM, plN, c_r, c_4, c_5, (Int32.not_lt.mpr c_5), c_6, (Int32.not_le.mpr c_6)]) dX5_against_75 hlocks
          · have c_6 := Int32.not_lt.mp c_6
            refine lv_iload_n hx hb dX5_against_47 rfl (lv_at hl 3 rfl) ?_
            refine lv_aload_n hx hb dX5_against_48 rfl (lv_at hl 0 rfl) ?_
            refine va_get (D := D) (ci := 5) (v := .ref m2) (C := RX5) (T := TX5) (N := 27) hx hb hts inX5 hown hK.1 hP 0 rfl rfl 3 (by decide) f_13 (fun _ h9 => h9) rfl dX5_against_49 ?_
            refine lv_iload_n hx hb dX5_against_52 rfl (lv_at hl 1 rfl) ?_
            refine zk_iald hx hb hK hP 2 rfl (by omega) (by decide) dX5_against_53 ?_
            refine lv_icmp_gt (tgt := 70) hx hb dX5_against_54 (by decide) (fun c_7 => ?_) (fun c_7 => ?_)
            · refine lv_iconst (v := nI 3) hx hb dX5_against_70 (by decide) ?_
              refine lv_goto (tgt := 75) hx hb dX5_against_71 (by decide) ?_
              exact zk_retS hx hb hr (by simp [fCelM, plN, c_r, c_4, c_5, (Int32.not_lt.mpr c_5), c_6, (Int32.not_lt.mpr c_6), c_7, (Int32.not_le.mpr c_7)]) dX5_against_75 hlocks
            · have c_7 := Int32.not_lt.mp c_7
              refine lv_iload hx hb dX5_against_57 (lv_at hl 4 rfl) ?_
              refine lv_aload_n hx hb dX5_against_59 rfl (lv_at hl 0 rfl) ?_
              refine va_get (D := D) (ci := 5) (v := .ref m2) (C := RX5) (T := TX5) (N := 27) hx hb hts inX5 hown hK.1 hP 0 rfl rfl 3 (by decide) f_13 (fun _ h9 => h9) rfl dX5_against_60 ?_
              refine lv_iload_n hx hb dX5_against_63 rfl (lv_at hl 1 rfl) ?_
              refine zk_iald hx hb hK hP 2 rfl (by omega) (by decide) dX5_against_64 ?_
              refine lv_iload_n hx hb dX5_against_65 rfl (lv_at hl 3 rfl) ?_
              refine lv_isub hx hb dX5_against_66 ?_
              refine lv_icmp_le (tgt := 74) hx hb dX5_against_67 (by decide) (fun c_8 => ?_) (fun c_8 => ?_)
              · refine lv_iconst (v := nI 0) hx hb dX5_against_74 (by decide) ?_
                exact zk_retS hx hb hr (by simp [fCelM, plN, c_r, c_4, c_5, (Int32.not_lt.mpr c_5), c_6, (Int32.not_lt.mpr c_6), c_7, (Int32.not_lt.mpr c_7), c_8, (Int32.not_lt.mpr c_8)]) dX5_against_75 hlocks
              · have c_8 := Int32.not_le.mp c_8
                refine lv_iconst (v := nI 3) hx hb dX5_against_70 (by decide) ?_
                refine lv_goto (tgt := 75) hx hb dX5_against_71 (by decide) ?_
                exact zk_retS hx hb hr (by simp [fCelM, plN, c_r, c_4, c_5, (Int32.not_lt.mpr c_5), c_6, (Int32.not_lt.mpr c_6), c_7, (Int32.not_lt.mpr c_7), c_8, (Int32.not_le.mpr c_8)]) dX5_against_75 hlocks
        · have c_5 := Int32.not_le.mp c_5
          refine lv_iconst (v := nI 4) hx hb dX5_against_41 (by decide) ?_
          exact zk_retS hx hb hr (by simp [fCelM, plN, c_r, c_4, c_5, (Int32.not_le.mpr c_5)]) dX5_against_42 hlocks
      · exact (by exact absurd c_4 c_1)
    · refine lv_iconst (v := nI 2) hx hb dX5_against_21 (by decide) ?_
      exact zk_retS hx hb hr (by simp [fCelM, fRowM, hasM, show ¬ nI 2 = (0 : Int32) from by decide, show ¬ nI 1 = (0 : Int32) from by decide, c_1, c_3]) dX5_against_22 hlocks
set_option maxHeartbeats 4000000 in
set_option maxRecDepth 100000 in
theorem mx_sheet (l : Launch) (D : va_G) (cI : ClassId) (sz : Nat) (m0 : Nat) (m1 : Nat) (m2 : Nat) (m3 : Nat) (m4 : Nat) (m5 : Nat) (m6 : Nat) (m7 : Nat) (m8 : Nat) (m9 : Nat) (m10 : Nat) (m11 : Nat) (m12 : Nat) (m13 : Nat) (m14 : Nat) (m15 : Nat) (fm : Int32) (tm : Int32) (at1 : Nat) (rdb : Int32) (rrm : Int32) (rD : Nat) (rP : Nat) (mt : Nat) (M : YS) (so : Nat → Int32) (lg : Nat → Int32) (mc : Nat → Int32) (k : Int32) (lane : Int32) (n : Int32)  : Met l yX5_sheet wsX5_sheet ({ frames := 2, cells := 0, slots := 0, locals := 42 }) (PQ D cI [.ref m0, .int k, .int lane, .int n] (wMo m0 m1 m2 m3 m4 m5 m6 m7 m8 m9 m10 m11 m12 m13 m14 m15 fm tm at1 rdb rrm rD rP mt M ++ wMs cI m1 m2 m3 so lg mc) sz) (QI (S := Unit) D (fun r _ => r = (sheetM mc so lg k lane n).1) (fun _ => wMo m0 m1 m2 m3 m4 m5 m6 m7 m8 m9 m10 m11 m12 m13 m14 m15 ((sheetM mc so lg k lane n).2.1) tm at1 rdb rrm rD rP mt M ++ wMs cI m1 m2 m3 ((sheetM mc so lg k lane n).2.2.2.1) ((sheetM mc so lg k lane n).2.2.2.2) ((sheetM mc so lg k lane n).2.2.1)) (va_A (wMo m0 m1 m2 m3 m4 m5 m6 m7 m8 m9 m10 m11 m12 m13 m14 m15 fm tm at1 rdb rrm rD rP mt M ++ wMs cI m1 m2 m3 so lg mc) sz)) 0 0 (va_A (wMo m0 m1 m2 m3 m4 m5 m6 m7 m8 m9 m10 m11 m12 m13 m14 m15 fm tm at1 rdb rrm rD rP mt M ++ wMs cI m1 m2 m3 so lg mc) sz) := by
  refine zk_Q (QI (S := Unit) D (fun r _ => r = (sheetM mc so lg k lane n).1) (fun _ => wMo m0 m1 m2 m3 m4 m5 m6 m7 m8 m9 m10 m11 m12 m13 m14 m15 ((sheetM mc so lg k lane n).2.1) tm at1 rdb rrm rD rP mt M ++ wMs cI m1 m2 m3 ((sheetM mc so lg k lane n).2.2.2.1) ((sheetM mc so lg k lane n).2.2.2.2) ((sheetM mc so lg k lane n).2.2.1))) (cc := cX5_sheet) (maxL := 5) (ret := (some .int)) (by decide) rfl (Nat.le_of_ble_eq_true rfl) ?_
  intro pX eX sX mX bX tX cX hx hb hr hlocks hml hown hmn hts hP hK A hA hD hS ls hl
  have hl : lv_has ls 5 [(0, .ref m0), (1, .int k), (2, .int lane), (3, .int n)] := hl
  have hP : va_P D vwCl [(m0, .inr (5, [.int fm, .int tm, .ref m1, .ref m2, .ref m3, .int M.db, .int M.rm, .int (nI M.D), .int (nI M.P), .ref m4, .ref m5, .ref m6, .ref m7, .int (nI at1), .int rdb, .int rrm, .int (nI rD), .int (nI rP), .ref m8, .ref m9, .ref m10, .ref m11, .ref m12, .int (nI mt), .ref m13, .ref m14, .ref m15])), (m1, .inl (cI, 4, .inl so)), (m2, .inl (cI, 4, .inl lg)), (m3, .inl (cI, 240, .inl mc))] sX.heap := hP
  have hD : va_D A [(m0, .inr (5, [.int fm, .int tm, .ref m1, .ref m2, .ref m3, .int M.db, .int M.rm, .int (nI M.D), .int (nI M.P), .ref m4, .ref m5, .ref m6, .ref m7, .int (nI at1), .int rdb, .int rrm, .int (nI rD), .int (nI rP), .ref m8, .ref m9, .ref m10, .ref m11, .ref m12, .int (nI mt), .ref m13, .ref m14, .ref m15])), (m1, .inl (cI, 4, .inl so)), (m2, .inl (cI, 4, .inl lg)), (m3, .inl (cI, 240, .inl mc))] := hD
  have f_55 := hts (.fieldLink RX5 55 "DunceSeeModel" "fault" "I") (by decide +kernel)
  have f_9 := hts (.fieldLink RX5 9 "DunceSeeModel" "sorts" "[I") (by decide +kernel)
  have f_13 := hts (.fieldLink RX5 13 "DunceSeeModel" "sheetLong" "[I") (by decide +kernel)
  have f_16 := hts (.fieldLink RX5 16 "DunceSeeModel" "cells" "[I") (by decide +kernel)
  have inX5 : ∀ w ∈ wsX50, w ∈ wsX5_sheet := fun w h => List.mem_cons_of_mem _ (List.mem_append_right _ h)
  refine lv_aload_n hx hb dX5_sheet_0 rfl (lv_at hl 0 rfl) ?_
  refine lv_iconst (v := nI 0) hx hb dX5_sheet_1 (by decide) ?_
  refine va_put (D := D) (ci := 5) (v := .int (nI 0)) (ty := .int) (C := RX5) (T := TX5) (N := 27) hx hb hts inX5 tyX5 tyX5_ok nmX5 hown hK.1 hP hD hS 0 rfl rfl 0 (by decide) f_55 (fun _ h9 => h9) rfl (by decide +kernel) rfl rfl (Nat.le_of_ble_eq_true rfl) dX5_sheet_2 (fun H locs hP hD hS => ?_)
  have hP : va_P D vwCl [(m0, .inr (5, [.int (nI 0), .int tm, .ref m1, .ref m2, .ref m3, .int M.db, .int M.rm, .int (nI M.D), .int (nI M.P), .ref m4, .ref m5, .ref m6, .ref m7, .int (nI at1), .int rdb, .int rrm, .int (nI rD), .int (nI rP), .ref m8, .ref m9, .ref m10, .ref m11, .ref m12, .int (nI mt), .ref m13, .ref m14, .ref m15])), (m1, .inl (cI, 4, .inl so)), (m2, .inl (cI, 4, .inl lg)), (m3, .inl (cI, 240, .inl mc))] H := hP
  have hD : va_D A [(m0, .inr (5, [.int (nI 0), .int tm, .ref m1, .ref m2, .ref m3, .int M.db, .int M.rm, .int (nI M.D), .int (nI M.P), .ref m4, .ref m5, .ref m6, .ref m7, .int (nI at1), .int rdb, .int rrm, .int (nI rD), .int (nI rP), .ref m8, .ref m9, .ref m10, .ref m11, .ref m12, .int (nI mt), .ref m13, .ref m14, .ref m15])), (m1, .inl (cI, 4, .inl so)), (m2, .inl (cI, 4, .inl lg)), (m3, .inl (cI, 240, .inl mc))] := hD
  refine lv_iload_n hx hb dX5_sheet_5 rfl (lv_at hl 1 rfl) ?_
  refine zk_callSi (As := [.int k]) (rest := []) (bI (isP 4 k)) ⟨hx, hb, hml, hown, hts⟩ hK hP [] rfl (m_isSheet l D cI k ) (va_cwS 1 hts gX5_sheet_X5_isSheet rfl rfl rfl hdX5_isSheet ⟨Nat.le_of_ble_eq_true rfl, Nat.le_of_ble_eq_true rfl⟩) rfl hl.1 rfl (Nat.le_of_ble_eq_true rfl) dX5_sheet_6 ⟨Nat.le_of_ble_eq_true rfl, Nat.le_of_ble_eq_true rfl⟩ ?_
  refine zk_ifneB (tgt := 14) hx hb dX5_sheet_9 (by decide) (fun c_1 => ?_) (fun c_1 => ?_)
  · obtain ⟨j, hj, e_j, g_j⟩ := isP_of (by omega) c_1
    rw [e_j] at hl
    refine lv_iload_n hx hb dX5_sheet_14 rfl (lv_at hl 2 rfl) ?_
    refine zk_callSi (As := [.int lane]) (rest := []) (bI (isP 3 lane)) ⟨hx, hb, hml, hown, hts⟩ hK hP [] rfl (m_isSort l D cI lane ) (va_cwS 1 hts gX5_sheet_X5_isSort rfl rfl rfl hdX5_isSort ⟨Nat.le_of_ble_eq_true rfl, Nat.le_of_ble_eq_true rfl⟩) rfl hl.1 rfl (Nat.le_of_ble_eq_true rfl) dX5_sheet_15 ⟨Nat.le_of_ble_eq_true rfl, Nat.le_of_ble_eq_true rfl⟩ ?_
    refine zk_ifeqB (tgt := 27) hx hb dX5_sheet_18 (by decide) (fun c_2 => ?_) (fun c_2 => ?_)
    · refine lv_bipush (v := (-2)) hx hb dX5_sheet_27 (by decide) ?_
      have e_t : sheetM mc so lg k lane n = ((-2), nI 0, mc, so, lg) := by simp [sheetM, c_1, g_j, c_2]
      exact zk_retI hx hb hr hS (()) (by rw [e_t]) (by rw [e_t]; exact hP) (by rw [e_t]; exact hD) dX5_sheet_29 hlocks
    · refine lv_iload_n hx hb dX5_sheet_21 rfl (lv_at hl 3 rfl) ?_
      refine lv_bipush (v := nI 60) hx hb dX5_sheet_22 (by decide) ?_
      refine lv_icmp_le (tgt := 30) hx hb dX5_sheet_24 (by decide) (fun c_3 => ?_) (fun c_3 => ?_)
      · refine lv_iload_n hx hb dX5_sheet_30 rfl (lv_at hl 3 rfl) ?_
        refine lv_if_ge (tgt := 40) hx hb dX5_sheet_31 (by decide) (fun c_4 => ?_) (fun c_4 => ?_)
        · refine lv_aload_n hx hb dX5_sheet_40 rfl (lv_at hl 0 rfl) ?_
          refine va_get (D := D) (ci := 5) (v := .ref m1) (C := RX5) (T := TX5) (N := 27) hx hb hts inX5 hown hK.1 hP 0 rfl rfl 2 (by decide) f_9 (fun _ h9 => h9) rfl dX5_sheet_41 ?_
          refine lv_iload_n hx hb dX5_sheet_44 rfl (lv_at hl 1 rfl) ?_
          refine lv_iload_n hx hb dX5_sheet_45 rfl (lv_at hl 2 rfl) ?_
          refine zk_iast (x := lane) hx hb hK hP hD hS 1 rfl (by omega) (by decide) dX5_sheet_46 (fun H locs hP hD hS => ?_)
          have hP : va_P D vwCl [(m0, .inr (5, [.int (nI 0), .int tm, .ref m1, .ref m2, .ref m3, .int M.db, .int M.rm, .int (nI M.D), .int (nI M.P), .ref m4, .ref m5, .ref m6, .ref m7, .int (nI at1), .int rdb, .int rrm, .int (nI rD), .int (nI rP), .ref m8, .ref m9, .ref m10, .ref m11, .ref m12, .int (nI mt), .ref m13, .ref m14, .ref m15])), (m1, .inl (cI, 4, .inl (upd so j lane))), (m2, .inl (cI, 4, .inl lg)), (m3, .inl (cI, 240, .inl mc))] H := hP
          have hD : va_D A [(m0, .inr (5, [.int (nI 0), .int tm, .ref m1, .ref m2, .ref m3, .int M.db, .int M.rm, .int (nI M.D), .int (nI M.P), .ref m4, .ref m5, .ref m6, .ref m7, .int (nI at1), .int rdb, .int rrm, .int (nI rD), .int (nI rP), .ref m8, .ref m9, .ref m10, .ref m11, .ref m12, .int (nI mt), .ref m13, .ref m14, .ref m15])), (m1, .inl (cI, 4, .inl (upd so j lane))), (m2, .inl (cI, 4, .inl lg)), (m3, .inl (cI, 240, .inl mc))] := hD
          refine lv_aload_n hx hb dX5_sheet_47 rfl (lv_at hl 0 rfl) ?_
          refine va_get (D := D) (ci := 5) (v := .ref m2) (C := RX5) (T := TX5) (N := 27) hx hb hts inX5 hown hK.1 hP 0 rfl rfl 3 (by decide) f_13 (fun _ h9 => h9) rfl dX5_sheet_48 ?_
          refine lv_iload_n hx hb dX5_sheet_51 rfl (lv_at hl 1 rfl) ?_
          refine lv_iload_n hx hb dX5_sheet_52 rfl (lv_at hl 3 rfl) ?_
          refine zk_iast (x := n) hx hb hK hP hD hS 2 rfl (by omega) (by decide) dX5_sheet_53 (fun H locs hP hD hS => ?_)
          have hP : va_P D vwCl [(m0, .inr (5, [.int (nI 0), .int tm, .ref m1, .ref m2, .ref m3, .int M.db, .int M.rm, .int (nI M.D), .int (nI M.P), .ref m4, .ref m5, .ref m6, .ref m7, .int (nI at1), .int rdb, .int rrm, .int (nI rD), .int (nI rP), .ref m8, .ref m9, .ref m10, .ref m11, .ref m12, .int (nI mt), .ref m13, .ref m14, .ref m15])), (m1, .inl (cI, 4, .inl (upd so j lane))), (m2, .inl (cI, 4, .inl (upd lg j n))), (m3, .inl (cI, 240, .inl mc))] H := hP
          have hD : va_D A [(m0, .inr (5, [.int (nI 0), .int tm, .ref m1, .ref m2, .ref m3, .int M.db, .int M.rm, .int (nI M.D), .int (nI M.P), .ref m4, .ref m5, .ref m6, .ref m7, .int (nI at1), .int rdb, .int rrm, .int (nI rD), .int (nI rP), .ref m8, .ref m9, .ref m10, .ref m11, .ref m12, .int (nI mt), .ref m13, .ref m14, .ref m15])), (m1, .inl (cI, 4, .inl (upd so j lane))), (m2, .inl (cI, 4, .inl (upd lg j n))), (m3, .inl (cI, 240, .inl mc))] := hD
          refine lv_iconst (v := nI 0) hx hb dX5_sheet_54 (by decide) ?_
          refine lv_istore (lv' := [(4, .int (nI 0)), (0, .ref m0), (1, .int (nI j)), (2, .int lane), (3, .int n)]) hx hb dX5_sheet_55 hl (by decide) rfl (fun ls hl => ?_)
          have loop57 : ∀ (nL c : Nat), c ≤ 60 → 60 < c + nL → ∀ (H : Heap) (locs : List Loc), va_P D vwCl [(m0, .inr (5, [.int (nI 0), .int tm, .ref m1, .ref m2, .ref m3, .int M.db, .int M.rm, .int (nI M.D), .int (nI M.P), .ref m4, .ref m5, .ref m6, .ref m7, .int (nI at1), .int rdb, .int rrm, .int (nI rD), .int (nI rP), .ref m8, .ref m9, .ref m10, .ref m11, .ref m12, .int (nI mt), .ref m13, .ref m14, .ref m15])), (m1, .inl (cI, 4, .inl (upd so j lane))), (m2, .inl (cI, 4, .inl (upd lg j n))), (m3, .inl (cI, 240, .inl (fillR mc (60 * j) (60 * j + c) (nI 0))))] H → va_D A [(m0, .inr (5, [.int (nI 0), .int tm, .ref m1, .ref m2, .ref m3, .int M.db, .int M.rm, .int (nI M.D), .int (nI M.P), .ref m4, .ref m5, .ref m6, .ref m7, .int (nI at1), .int rdb, .int rrm, .int (nI rD), .int (nI rP), .ref m8, .ref m9, .ref m10, .ref m11, .ref m12, .int (nI mt), .ref m13, .ref m14, .ref m15])), (m1, .inl (cI, 4, .inl (upd so j lane))), (m2, .inl (cI, 4, .inl (upd lg j n))), (m3, .inl (cI, 240, .inl (fillR mc (60 * j) (60 * j + c) (nI 0))))] → va_S A sX.heap H locs → ∀ ls : Array Slot, lv_has ls 5 [(0, .ref m0), (1, .int (nI j)), (2, .int lane), (3, .int n), (4, .int (nI c))] → W pX l eX ({ frames := 2, cells := 0, slots := 0, locals := 42 }) sX mX ([.ref m0, .int k, .int lane, .int n] : List Value).toArray bX tX cX H locs 0 0 (MQ bX (QI (S := Unit) D (fun r _ => r = (sheetM mc so lg k lane n).1) (fun _ => wMo m0 m1 m2 m3 m4 m5 m6 m7 m8 m9 m10 m11 m12 m13 m14 m15 ((sheetM mc so lg k lane n).2.1) tm at1 rdb rrm rD rP mt M ++ wMs cI m1 m2 m3 ((sheetM mc so lg k lane n).2.2.2.1) ((sheetM mc so lg k lane n).2.2.2.2) ((sheetM mc so lg k lane n).2.2.1)) A) ([.ref m0, .int k, .int lane, .int n] : List Value).toArray sX 0 0 A) (F0 mX 57 ls []) := by
            intro nL
            induction nL with
            | zero => intro c  h1 h2; exact absurd h2 (by omega)
            | succ nL ih =>
              intro c  h_le h_n  H locs hP hD hS ls hl
              refine lv_iload hx hb dX5_sheet_57 (lv_at hl 4 rfl) ?_
              refine lv_bipush (v := nI 60) hx hb dX5_sheet_59 (by decide) ?_
              refine zk_icmp_ge (tgt := 83) hx hb dX5_sheet_61 (by decide) (by omega) (by omega) (fun c_5 => ?_) (fun c_5 => ?_)
              · refine lv_iconst (v := nI 1) hx hb dX5_sheet_83 (by decide) ?_
                have e_c : c = 60 := by omega
                rw [e_c] at hP hD
                have e_t : sheetM mc so lg k lane n = (nI 1, nI 0, fillR mc (60 * j) (60 * j + 60) (nI 0), upd so j lane, upd lg j n) := by simp [sheetM, c_1, g_j, c_2, c_3, (Int32.not_lt.mpr c_3), c_4, (Int32.not_lt.mpr c_4), c_5, (Nat.not_lt.mpr c_5)]
                exact zk_retI hx hb hr hS (()) (by rw [e_t]) (by rw [e_t]; exact hP) (by rw [e_t]; exact hD) dX5_sheet_84 hlocks
              · refine lv_aload_n hx hb dX5_sheet_64 rfl (lv_at hl 0 rfl) ?_
                refine va_get (D := D) (ci := 5) (v := .ref m3) (C := RX5) (T := TX5) (N := 27) hx hb hts inX5 hown hK.1 hP 0 rfl rfl 4 (by decide) f_16 (fun _ h9 => h9) rfl dX5_sheet_65 ?_
                refine lv_bipush (v := nI 60) hx hb dX5_sheet_68 (by decide) ?_
                refine lv_iload_n hx hb dX5_sheet_70 rfl (lv_at hl 1 rfl) ?_
                refine zk_imulN hx hb dX5_sheet_71 ?_
                refine lv_iload hx hb dX5_sheet_72 (lv_at hl 4 rfl) ?_
                refine zk_iaddN hx hb dX5_sheet_74 ?_
                refine lv_iconst (v := nI 0) hx hb dX5_sheet_75 (by decide) ?_
                refine zk_iast (x := nI 0) hx hb hK hP hD hS 3 rfl (by omega) (by decide) dX5_sheet_76 (fun H locs hP hD hS => ?_)
                have hP : va_P D vwCl [(m0, .inr (5, [.int (nI 0), .int tm, .ref m1, .ref m2, .ref m3, .int M.db, .int M.rm, .int (nI M.D), .int (nI M.P), .ref m4, .ref m5, .ref m6, .ref m7, .int (nI at1), .int rdb, .int rrm, .int (nI rD), .int (nI rP), .ref m8, .ref m9, .ref m10, .ref m11, .ref m12, .int (nI mt), .ref m13, .ref m14, .ref m15])), (m1, .inl (cI, 4, .inl (upd so j lane))), (m2, .inl (cI, 4, .inl (upd lg j n))), (m3, .inl (cI, 240, .inl (upd (fillR mc (60 * j) (60 * j + c) (nI 0)) (60 * j + c) (nI 0))))] H := hP
                have hD : va_D A [(m0, .inr (5, [.int (nI 0), .int tm, .ref m1, .ref m2, .ref m3, .int M.db, .int M.rm, .int (nI M.D), .int (nI M.P), .ref m4, .ref m5, .ref m6, .ref m7, .int (nI at1), .int rdb, .int rrm, .int (nI rD), .int (nI rP), .ref m8, .ref m9, .ref m10, .ref m11, .ref m12, .int (nI mt), .ref m13, .ref m14, .ref m15])), (m1, .inl (cI, 4, .inl (upd so j lane))), (m2, .inl (cI, 4, .inl (upd lg j n))), (m3, .inl (cI, 240, .inl (upd (fillR mc (60 * j) (60 * j + c) (nI 0)) (60 * j + c) (nI 0))))] := hD
                refine lv_iinc (v := nI (c + 1)) (lv' := [(4, .int (nI (c + 1))), (0, .ref m0), (1, .int (nI j)), (2, .int lane), (3, .int n)]) hx hb dX5_sheet_77 hl (k := 4) rfl (by rw [show (Int32.ofInt 1) = nI 1 from by decide, nI_add]) (by decide) rfl (fun ls hl => ?_)
                refine lv_goto (tgt := 57) hx hb dX5_sheet_80 (by decide) ?_
                rw [fillR_s mc (show 60 * j ≤ 60 * j + c by omega) (nI 0)] at hP hD
                exact ih (c + 1)  (by omega) (by omega)  _ _ hP hD hS ls (lv_sub hl [1, 2, 3, 4, 0] rfl)
          rw [← fillR_0 mc (60 * j) (nI 0)] at hP hD
          exact loop57 (60 + 1) 0  (by omega) (by omega)  _ _ hP hD hS ls (lv_sub hl [1, 2, 3, 4, 0] rfl)
        · have c_4 := Int32.not_le.mp c_4
          refine lv_aload_n hx hb dX5_sheet_34 rfl (lv_at hl 0 rfl) ?_
          refine lv_iconst (v := nI 4) hx hb dX5_sheet_35 (by decide) ?_
          refine zk_effVi (As := [.int (nI 4)]) (rest := []) (S := Unit) (fun r _ => r = (-10) - (nI 4)) (fun _ => wMo m0 m1 m2 m3 m4 m5 m6 m7 m8 m9 m10 m11 m12 m13 m14 m15 (nI 4) tm at1 rdb rrm rD rP mt M) ⟨hx, hb, hml, hown, hts⟩ hK hP hD hS hA [0] [1, 2, 3] (wc := [(m0, .inr (5, [.int (nI 0), .int tm, .ref m1, .ref m2, .ref m3, .int M.db, .int M.rm, .int (nI M.D), .int (nI M.P), .ref m4, .ref m5, .ref m6, .ref m7, .int (nI at1), .int rdb, .int rrm, .int (nI rD), .int (nI rP), .ref m8, .ref m9, .ref m10, .ref m11, .ref m12, .int (nI mt), .ref m13, .ref m14, .ref m15]))]) (wr := [(m1, .inl (cI, 4, .inl so)), (m2, .inl (cI, 4, .inl lg)), (m3, .inl (cI, 240, .inl mc))]) rfl rfl (by decide) (by decide) (by decide) [3, 0, 1, 2] (fun (_ : Unit) => [(m0, .inr (5, [.int (nI 4), .int tm, .ref m1, .ref m2, .ref m3, .int M.db, .int M.rm, .int (nI M.D), .int (nI M.P), .ref m4, .ref m5, .ref m6, .ref m7, .int (nI at1), .int rdb, .int rrm, .int (nI rD), .int (nI rP), .ref m8, .ref m9, .ref m10, .ref m11, .ref m12, .int (nI mt), .ref m13, .ref m14, .ref m15])), (m1, .inl (cI, 4, .inl so)), (m2, .inl (cI, 4, .inl lg)), (m3, .inl (cI, 240, .inl mc))]) (fun _ => rfl) (by decide) (m_fails l D cI H.size m0 m1 m2 m3 m4 m5 m6 m7 m8 m9 m10 m11 m12 m13 m14 m15 (nI 0) tm at1 rdb rrm rD rP mt M (nI 4) ) (cwV 1 hts gX5_sheet_X5_fails rfl rfl rfl hdX5_fails ⟨Nat.le_of_ble_eq_true rfl, Nat.le_of_ble_eq_true rfl⟩) rfl rfl rfl hl.1 rfl (Nat.le_of_ble_eq_true rfl) dX5_sheet_36 ⟨Nat.le_of_ble_eq_true rfl, Nat.le_of_ble_eq_true rfl⟩ (fun r_6 _ H locs hw_7 hP hD hS => ?_)
          have e_r_6 : r_6 = (-14) := hw_7.trans (by decide)
          rw [e_r_6]
          have e_t : sheetM mc so lg k lane n = ((-14), (nI 4), mc, so, lg) := by simp [sheetM, c_1, g_j, c_2, c_3, (Int32.not_lt.mpr c_3), c_4, (Int32.not_le.mpr c_4)]
          exact zk_retI hx hb hr hS (()) (by rw [e_t]) (by rw [e_t]; exact hP) (by rw [e_t]; exact hD) dX5_sheet_39 hlocks
      · have c_3 := Int32.not_le.mp c_3
        refine lv_bipush (v := (-2)) hx hb dX5_sheet_27 (by decide) ?_
        have e_t : sheetM mc so lg k lane n = ((-2), nI 0, mc, so, lg) := by simp [sheetM, c_1, g_j, c_2, c_3, (Int32.not_le.mpr c_3)]
        exact zk_retI hx hb hr hS (()) (by rw [e_t]) (by rw [e_t]; exact hP) (by rw [e_t]; exact hD) dX5_sheet_29 hlocks
  · refine lv_iconst (v := (-1)) hx hb dX5_sheet_12 (by decide) ?_
    have e_t : sheetM mc so lg k lane n = ((-1), nI 0, mc, so, lg) := by simp [sheetM, c_1]
    exact zk_retI hx hb hr hS (()) (by rw [e_t]) (by rw [e_t]; exact hP) (by rw [e_t]; exact hD) dX5_sheet_13 hlocks
set_option maxHeartbeats 4000000 in
set_option maxRecDepth 100000 in
theorem mx_lose (l : Launch) (D : va_G) (cI : ClassId) (sz : Nat) (m0 : Nat) (m1 : Nat) (m2 : Nat) (m3 : Nat) (m4 : Nat) (m5 : Nat) (m6 : Nat) (m7 : Nat) (m8 : Nat) (m9 : Nat) (m10 : Nat) (m11 : Nat) (m12 : Nat) (m13 : Nat) (m14 : Nat) (m15 : Nat) (fm : Int32) (tm : Int32) (at1 : Nat) (rdb : Int32) (rrm : Int32) (rD : Nat) (rP : Nat) (mt : Nat) (M : YS) (so : Nat → Int32) (lg : Nat → Int32) (mc : Nat → Int32) (k : Int32)  : Met l yX5_lose wsX5_lose ({ frames := 2, cells := 0, slots := 0, locals := 42 }) (PQ D cI [.ref m0, .int k] (wMo m0 m1 m2 m3 m4 m5 m6 m7 m8 m9 m10 m11 m12 m13 m14 m15 fm tm at1 rdb rrm rD rP mt M ++ wMs cI m1 m2 m3 so lg mc) sz) (QI (S := Unit) D (fun r _ => r = (loseM so k).1) (fun _ => wMo m0 m1 m2 m3 m4 m5 m6 m7 m8 m9 m10 m11 m12 m13 m14 m15 fm tm at1 rdb rrm rD rP mt M ++ wMs cI m1 m2 m3 ((loseM so k).2) lg mc) (va_A (wMo m0 m1 m2 m3 m4 m5 m6 m7 m8 m9 m10 m11 m12 m13 m14 m15 fm tm at1 rdb rrm rD rP mt M ++ wMs cI m1 m2 m3 so lg mc) sz)) 0 0 (va_A (wMo m0 m1 m2 m3 m4 m5 m6 m7 m8 m9 m10 m11 m12 m13 m14 m15 fm tm at1 rdb rrm rD rP mt M ++ wMs cI m1 m2 m3 so lg mc) sz) := by
  refine zk_Q (QI (S := Unit) D (fun r _ => r = (loseM so k).1) (fun _ => wMo m0 m1 m2 m3 m4 m5 m6 m7 m8 m9 m10 m11 m12 m13 m14 m15 fm tm at1 rdb rrm rD rP mt M ++ wMs cI m1 m2 m3 ((loseM so k).2) lg mc)) (cc := cX5_lose) (maxL := 3) (ret := (some .int)) (by decide) rfl (Nat.le_of_ble_eq_true rfl) ?_
  intro pX eX sX mX bX tX cX hx hb hr hlocks hml hown hmn hts hP hK A hA hD hS ls hl
  have hl : lv_has ls 3 [(0, .ref m0), (1, .int k)] := hl
  have hP : va_P D vwCl [(m0, .inr (5, [.int fm, .int tm, .ref m1, .ref m2, .ref m3, .int M.db, .int M.rm, .int (nI M.D), .int (nI M.P), .ref m4, .ref m5, .ref m6, .ref m7, .int (nI at1), .int rdb, .int rrm, .int (nI rD), .int (nI rP), .ref m8, .ref m9, .ref m10, .ref m11, .ref m12, .int (nI mt), .ref m13, .ref m14, .ref m15])), (m1, .inl (cI, 4, .inl so)), (m2, .inl (cI, 4, .inl lg)), (m3, .inl (cI, 240, .inl mc))] sX.heap := hP
  have hD : va_D A [(m0, .inr (5, [.int fm, .int tm, .ref m1, .ref m2, .ref m3, .int M.db, .int M.rm, .int (nI M.D), .int (nI M.P), .ref m4, .ref m5, .ref m6, .ref m7, .int (nI at1), .int rdb, .int rrm, .int (nI rD), .int (nI rP), .ref m8, .ref m9, .ref m10, .ref m11, .ref m12, .int (nI mt), .ref m13, .ref m14, .ref m15])), (m1, .inl (cI, 4, .inl so)), (m2, .inl (cI, 4, .inl lg)), (m3, .inl (cI, 240, .inl mc))] := hD
  have f_9 := hts (.fieldLink RX5 9 "DunceSeeModel" "sorts" "[I") (by decide +kernel)
  have inX5 : ∀ w ∈ wsX50, w ∈ wsX5_lose := fun w h => List.mem_cons_of_mem _ (List.mem_append_right _ h)
  refine lv_iload_n hx hb dX5_lose_0 rfl (lv_at hl 1 rfl) ?_
  refine zk_callSi (As := [.int k]) (rest := []) (bI (isP 4 k)) ⟨hx, hb, hml, hown, hts⟩ hK hP [] rfl (m_isSheet l D cI k ) (va_cwS 1 hts gX5_lose_X5_isSheet rfl rfl rfl hdX5_isSheet ⟨Nat.le_of_ble_eq_true rfl, Nat.le_of_ble_eq_true rfl⟩) rfl hl.1 rfl (Nat.le_of_ble_eq_true rfl) dX5_lose_1 ⟨Nat.le_of_ble_eq_true rfl, Nat.le_of_ble_eq_true rfl⟩ ?_
  refine zk_ifneB (tgt := 9) hx hb dX5_lose_4 (by decide) (fun c_1 => ?_) (fun c_1 => ?_)
  · obtain ⟨j, hj, e_j, g_j⟩ := isP_of (by omega) c_1
    rw [e_j] at hl
    refine lv_aload_n hx hb dX5_lose_9 rfl (lv_at hl 0 rfl) ?_
    refine va_get (D := D) (ci := 5) (v := .ref m1) (C := RX5) (T := TX5) (N := 27) hx hb hts inX5 hown hK.1 hP 0 rfl rfl 2 (by decide) f_9 (fun _ h9 => h9) rfl dX5_lose_10 ?_
    refine lv_iload_n hx hb dX5_lose_13 rfl (lv_at hl 1 rfl) ?_
    refine zk_iald hx hb hK hP 1 rfl (by omega) (by decide) dX5_lose_14 ?_
    refine lv_bipush (v := (-9)) hx hb dX5_lose_15 (by decide) ?_
    refine lv_icmp_ne (tgt := 24) hx hb dX5_lose_17 (by decide) (fun c_2 => ?_) (fun c_2 => ?_)
    · refine lv_iconst (v := nI 1) hx hb dX5_lose_24 (by decide) ?_
      refine lv_istore_n (lv' := [(2, .int (nI 1)), (0, .ref m0), (1, .int (nI j))]) hx hb dX5_lose_25 rfl hl (by decide) rfl (fun ls hl => ?_)
      refine lv_aload_n hx hb dX5_lose_26 rfl (lv_at hl 1 rfl) ?_
      refine va_get (D := D) (ci := 5) (v := .ref m1) (C := RX5) (T := TX5) (N := 27) hx hb hts inX5 hown hK.1 hP 0 rfl rfl 2 (by decide) f_9 (fun _ h9 => h9) rfl dX5_lose_27 ?_
      refine lv_iload_n hx hb dX5_lose_30 rfl (lv_at hl 2 rfl) ?_
      refine lv_bipush (v := (-9)) hx hb dX5_lose_31 (by decide) ?_
      refine zk_iast (x := (-9)) hx hb hK hP hD hS 1 rfl (by omega) (by decide) dX5_lose_33 (fun H locs hP hD hS => ?_)
      have hP : va_P D vwCl [(m0, .inr (5, [.int fm, .int tm, .ref m1, .ref m2, .ref m3, .int M.db, .int M.rm, .int (nI M.D), .int (nI M.P), .ref m4, .ref m5, .ref m6, .ref m7, .int (nI at1), .int rdb, .int rrm, .int (nI rD), .int (nI rP), .ref m8, .ref m9, .ref m10, .ref m11, .ref m12, .int (nI mt), .ref m13, .ref m14, .ref m15])), (m1, .inl (cI, 4, .inl (upd so j (-9)))), (m2, .inl (cI, 4, .inl lg)), (m3, .inl (cI, 240, .inl mc))] H := hP
      have hD : va_D A [(m0, .inr (5, [.int fm, .int tm, .ref m1, .ref m2, .ref m3, .int M.db, .int M.rm, .int (nI M.D), .int (nI M.P), .ref m4, .ref m5, .ref m6, .ref m7, .int (nI at1), .int rdb, .int rrm, .int (nI rD), .int (nI rP), .ref m8, .ref m9, .ref m10, .ref m11, .ref m12, .int (nI mt), .ref m13, .ref m14, .ref m15])), (m1, .inl (cI, 4, .inl (upd so j (-9)))), (m2, .inl (cI, 4, .inl lg)), (m3, .inl (cI, 240, .inl mc))] := hD
      refine lv_iload_n hx hb dX5_lose_34 rfl (lv_at hl 0 rfl) ?_
      have e_t : loseM so k = (nI 1, upd so j (-9)) := by simp [loseM, hasM, nI_bI0, nI_bI1, c_1, g_j, c_2]
      exact zk_retI hx hb hr hS (()) (by rw [e_t]) (by rw [e_t]; exact hP) (by rw [e_t]; exact hD) dX5_lose_35 hlocks
    · refine lv_iconst (v := nI 0) hx hb dX5_lose_20 (by decide) ?_
      refine lv_goto (tgt := 25) hx hb dX5_lose_21 (by decide) ?_
      refine lv_istore_n (lv' := [(2, .int (nI 0)), (0, .ref m0), (1, .int (nI j))]) hx hb dX5_lose_25 rfl hl (by decide) rfl (fun ls hl => ?_)
      refine lv_aload_n hx hb dX5_lose_26 rfl (lv_at hl 1 rfl) ?_
      refine va_get (D := D) (ci := 5) (v := .ref m1) (C := RX5) (T := TX5) (N := 27) hx hb hts inX5 hown hK.1 hP 0 rfl rfl 2 (by decide) f_9 (fun _ h9 => h9) rfl dX5_lose_27 ?_
      refine lv_iload_n hx hb dX5_lose_30 rfl (lv_at hl 2 rfl) ?_
      refine lv_bipush (v := (-9)) hx hb dX5_lose_31 (by decide) ?_
      refine zk_iast (x := (-9)) hx hb hK hP hD hS 1 rfl (by omega) (by decide) dX5_lose_33 (fun H locs hP hD hS => ?_)
      have hP : va_P D vwCl [(m0, .inr (5, [.int fm, .int tm, .ref m1, .ref m2, .ref m3, .int M.db, .int M.rm, .int (nI M.D), .int (nI M.P), .ref m4, .ref m5, .ref m6, .ref m7, .int (nI at1), .int rdb, .int rrm, .int (nI rD), .int (nI rP), .ref m8, .ref m9, .ref m10, .ref m11, .ref m12, .int (nI mt), .ref m13, .ref m14, .ref m15])), (m1, .inl (cI, 4, .inl (upd so j (-9)))), (m2, .inl (cI, 4, .inl lg)), (m3, .inl (cI, 240, .inl mc))] H := hP
      have hD : va_D A [(m0, .inr (5, [.int fm, .int tm, .ref m1, .ref m2, .ref m3, .int M.db, .int M.rm, .int (nI M.D), .int (nI M.P), .ref m4, .ref m5, .ref m6, .ref m7, .int (nI at1), .int rdb, .int rrm, .int (nI rD), .int (nI rP), .ref m8, .ref m9, .ref m10, .ref m11, .ref m12, .int (nI mt), .ref m13, .ref m14, .ref m15])), (m1, .inl (cI, 4, .inl (upd so j (-9)))), (m2, .inl (cI, 4, .inl lg)), (m3, .inl (cI, 240, .inl mc))] := hD
      refine lv_iload_n hx hb dX5_lose_34 rfl (lv_at hl 0 rfl) ?_
      have e_t : loseM so k = (nI 0, upd so j (-9)) := by simp [loseM, hasM, nI_bI0, nI_bI1, c_1, g_j, c_2]
      exact zk_retI hx hb hr hS (()) (by rw [e_t]) (by rw [e_t]; exact hP) (by rw [e_t]; exact hD) dX5_lose_35 hlocks
  · refine lv_iconst (v := (-1)) hx hb dX5_lose_7 (by decide) ?_
    have e_t : loseM so k = ((-1), so) := by simp [loseM, hasM, nI_bI0, nI_bI1, c_1]
    exact zk_retI hx hb hr hS (()) (by rw [e_t]) (by rw [e_t]; exact hP) (by rw [e_t]; exact hD) dX5_lose_8 hlocks
set_option maxHeartbeats 4000000 in
set_option maxRecDepth 100000 in
theorem mx_put (l : Launch) (D : va_G) (cI : ClassId) (sz : Nat) (m0 : Nat) (m1 : Nat) (m2 : Nat) (m3 : Nat) (m4 : Nat) (m5 : Nat) (m6 : Nat) (m7 : Nat) (m8 : Nat) (m9 : Nat) (m10 : Nat) (m11 : Nat) (m12 : Nat) (m13 : Nat) (m14 : Nat) (m15 : Nat) (fm : Int32) (tm : Int32) (at1 : Nat) (rdb : Int32) (rrm : Int32) (rD : Nat) (rP : Nat) (mt : Nat) (M : YS) (so : Nat → Int32) (lg : Nat → Int32) (mc : Nat → Int32) (k : Int32) (i : Int32) (v : Int32) (hsz : okS lg) : Met l yX5_put wsX5_put ({ frames := 2, cells := 0, slots := 0, locals := 42 }) (PQ D cI [.ref m0, .int k, .int i, .int v] (wMo m0 m1 m2 m3 m4 m5 m6 m7 m8 m9 m10 m11 m12 m13 m14 m15 fm tm at1 rdb rrm rD rP mt M ++ wMs cI m1 m2 m3 so lg mc) sz) (QI (S := Unit) D (fun r _ => r = (putM mc so lg k i v).1) (fun _ => wMo m0 m1 m2 m3 m4 m5 m6 m7 m8 m9 m10 m11 m12 m13 m14 m15 ((putM mc so lg k i v).2.1) tm at1 rdb rrm rD rP mt M ++ wMs cI m1 m2 m3 so lg ((putM mc so lg k i v).2.2)) (va_A (wMo m0 m1 m2 m3 m4 m5 m6 m7 m8 m9 m10 m11 m12 m13 m14 m15 fm tm at1 rdb rrm rD rP mt M ++ wMs cI m1 m2 m3 so lg mc) sz)) 0 0 (va_A (wMo m0 m1 m2 m3 m4 m5 m6 m7 m8 m9 m10 m11 m12 m13 m14 m15 fm tm at1 rdb rrm rD rP mt M ++ wMs cI m1 m2 m3 so lg mc) sz) := by
  refine zk_Q (QI (S := Unit) D (fun r _ => r = (putM mc so lg k i v).1) (fun _ => wMo m0 m1 m2 m3 m4 m5 m6 m7 m8 m9 m10 m11 m12 m13 m14 m15 ((putM mc so lg k i v).2.1) tm at1 rdb rrm rD rP mt M ++ wMs cI m1 m2 m3 so lg ((putM mc so lg k i v).2.2))) (cc := cX5_put) (maxL := 4) (ret := (some .int)) (by decide) rfl (Nat.le_of_ble_eq_true rfl) ?_
  intro pX eX sX mX bX tX cX hx hb hr hlocks hml hown hmn hts hP hK A hA hD hS ls hl
  have hl : lv_has ls 4 [(0, .ref m0), (1, .int k), (2, .int i), (3, .int v)] := hl
  have hP : va_P D vwCl [(m0, .inr (5, [.int fm, .int tm, .ref m1, .ref m2, .ref m3, .int M.db, .int M.rm, .int (nI M.D), .int (nI M.P), .ref m4, .ref m5, .ref m6, .ref m7, .int (nI at1), .int rdb, .int rrm, .int (nI rD), .int (nI rP), .ref m8, .ref m9, .ref m10, .ref m11, .ref m12, .int (nI mt), .ref m13, .ref m14, .ref m15])), (m1, .inl (cI, 4, .inl so)), (m2, .inl (cI, 4, .inl lg)), (m3, .inl (cI, 240, .inl mc))] sX.heap := hP
  have hD : va_D A [(m0, .inr (5, [.int fm, .int tm, .ref m1, .ref m2, .ref m3, .int M.db, .int M.rm, .int (nI M.D), .int (nI M.P), .ref m4, .ref m5, .ref m6, .ref m7, .int (nI at1), .int rdb, .int rrm, .int (nI rD), .int (nI rP), .ref m8, .ref m9, .ref m10, .ref m11, .ref m12, .int (nI mt), .ref m13, .ref m14, .ref m15])), (m1, .inl (cI, 4, .inl so)), (m2, .inl (cI, 4, .inl lg)), (m3, .inl (cI, 240, .inl mc))] := hD
  have f_55 := hts (.fieldLink RX5 55 "DunceSeeModel" "fault" "I") (by decide +kernel)
  have f_9 := hts (.fieldLink RX5 9 "DunceSeeModel" "sorts" "[I") (by decide +kernel)
  have f_13 := hts (.fieldLink RX5 13 "DunceSeeModel" "sheetLong" "[I") (by decide +kernel)
  have f_16 := hts (.fieldLink RX5 16 "DunceSeeModel" "cells" "[I") (by decide +kernel)
  have inX5 : ∀ w ∈ wsX50, w ∈ wsX5_put := fun w h => List.mem_cons_of_mem _ (List.mem_append_right _ h)
  refine lv_aload_n hx hb dX5_put_0 rfl (lv_at hl 0 rfl) ?_
  refine lv_iconst (v := nI 0) hx hb dX5_put_1 (by decide) ?_
  refine va_put (D := D) (ci := 5) (v := .int (nI 0)) (ty := .int) (C := RX5) (T := TX5) (N := 27) hx hb hts inX5 tyX5 tyX5_ok nmX5 hown hK.1 hP hD hS 0 rfl rfl 0 (by decide) f_55 (fun _ h9 => h9) rfl (by decide +kernel) rfl rfl (Nat.le_of_ble_eq_true rfl) dX5_put_2 (fun H locs hP hD hS => ?_)
  have hP : va_P D vwCl [(m0, .inr (5, [.int (nI 0), .int tm, .ref m1, .ref m2, .ref m3, .int M.db, .int M.rm, .int (nI M.D), .int (nI M.P), .ref m4, .ref m5, .ref m6, .ref m7, .int (nI at1), .int rdb, .int rrm, .int (nI rD), .int (nI rP), .ref m8, .ref m9, .ref m10, .ref m11, .ref m12, .int (nI mt), .ref m13, .ref m14, .ref m15])), (m1, .inl (cI, 4, .inl so)), (m2, .inl (cI, 4, .inl lg)), (m3, .inl (cI, 240, .inl mc))] H := hP
  have hD : va_D A [(m0, .inr (5, [.int (nI 0), .int tm, .ref m1, .ref m2, .ref m3, .int M.db, .int M.rm, .int (nI M.D), .int (nI M.P), .ref m4, .ref m5, .ref m6, .ref m7, .int (nI at1), .int rdb, .int rrm, .int (nI rD), .int (nI rP), .ref m8, .ref m9, .ref m10, .ref m11, .ref m12, .int (nI mt), .ref m13, .ref m14, .ref m15])), (m1, .inl (cI, 4, .inl so)), (m2, .inl (cI, 4, .inl lg)), (m3, .inl (cI, 240, .inl mc))] := hD
  refine lv_iload_n hx hb dX5_put_5 rfl (lv_at hl 1 rfl) ?_
  refine zk_callSi (As := [.int k]) (rest := []) (bI (isP 4 k)) ⟨hx, hb, hml, hown, hts⟩ hK hP [] rfl (m_isSheet l D cI k ) (va_cwS 1 hts gX5_put_X5_isSheet rfl rfl rfl hdX5_isSheet ⟨Nat.le_of_ble_eq_true rfl, Nat.le_of_ble_eq_true rfl⟩) rfl hl.1 rfl (Nat.le_of_ble_eq_true rfl) dX5_put_6 ⟨Nat.le_of_ble_eq_true rfl, Nat.le_of_ble_eq_true rfl⟩ ?_
  refine zk_ifneB (tgt := 14) hx hb dX5_put_9 (by decide) (fun c_1 => ?_) (fun c_1 => ?_)
  · obtain ⟨j, hj, e_j, g_j⟩ := isP_of (by omega) c_1
    rw [e_j] at hl
    refine lv_aload_n hx hb dX5_put_14 rfl (lv_at hl 0 rfl) ?_
    refine va_get (D := D) (ci := 5) (v := .ref m1) (C := RX5) (T := TX5) (N := 27) hx hb hts inX5 hown hK.1 hP 0 rfl rfl 2 (by decide) f_9 (fun _ h9 => h9) rfl dX5_put_15 ?_
    refine lv_iload_n hx hb dX5_put_18 rfl (lv_at hl 1 rfl) ?_
    refine zk_iald hx hb hK hP 1 rfl (by omega) (by decide) dX5_put_19 ?_
    refine lv_bipush (v := (-9)) hx hb dX5_put_20 (by decide) ?_
    refine lv_icmp_ne (tgt := 31) hx hb dX5_put_22 (by decide) (fun c_2 => ?_) (fun c_2 => ?_)
    · refine lv_iload_n hx hb dX5_put_31 rfl (lv_at hl 2 rfl) ?_
      refine lv_iconst (v := nI 0) hx hb dX5_put_32 (by decide) ?_
      refine lv_aload_n hx hb dX5_put_33 rfl (lv_at hl 0 rfl) ?_
      refine va_get (D := D) (ci := 5) (v := .ref m2) (C := RX5) (T := TX5) (N := 27) hx hb hts inX5 hown hK.1 hP 0 rfl rfl 3 (by decide) f_13 (fun _ h9 => h9) rfl dX5_put_34 ?_
      refine lv_iload_n hx hb dX5_put_37 rfl (lv_at hl 1 rfl) ?_
      refine zk_iald hx hb hK hP 2 rfl (by omega) (by decide) dX5_put_38 ?_
      refine lv_iconst (v := nI 1) hx hb dX5_put_39 (by decide) ?_
      refine lv_isub hx hb dX5_put_40 ?_
      refine zk_callSi (As := [.int i, .int (nI 0), .int ((lg j) - (nI 1))]) (rest := []) (bI (wiB i (nI 0) ((lg j) - (nI 1)))) ⟨hx, hb, hml, hown, hts⟩ hK hP [] rfl (m_within l D cI i (nI 0) ((lg j) - (nI 1)) ) (va_cwS 3 hts gX5_put_X5_within rfl rfl rfl hdX5_within ⟨Nat.le_of_ble_eq_true rfl, Nat.le_of_ble_eq_true rfl⟩) rfl hl.1 rfl (Nat.le_of_ble_eq_true rfl) dX5_put_41 ⟨Nat.le_of_ble_eq_true rfl, Nat.le_of_ble_eq_true rfl⟩ ?_
      refine zk_ifneB (tgt := 53) hx hb dX5_put_44 (by decide) (fun c_3 => ?_) (fun c_3 => ?_)
      · have c_p : pl1 i (lg j) = true := (wi_pl hsz hj).symm.trans c_3
        obtain ⟨m, hm, e_m, g_m⟩ := pl1_of hsz hj c_p
        rw [e_m] at hl
        refine lv_aload_n hx hb dX5_put_53 rfl (lv_at hl 0 rfl) ?_
        refine va_get (D := D) (ci := 5) (v := .ref m3) (C := RX5) (T := TX5) (N := 27) hx hb hts inX5 hown hK.1 hP 0 rfl rfl 4 (by decide) f_16 (fun _ h9 => h9) rfl dX5_put_54 ?_
        refine lv_bipush (v := nI 60) hx hb dX5_put_57 (by decide) ?_
        refine lv_iload_n hx hb dX5_put_59 rfl (lv_at hl 1 rfl) ?_
        refine zk_imulN hx hb dX5_put_60 ?_
        refine lv_iload_n hx hb dX5_put_61 rfl (lv_at hl 2 rfl) ?_
        refine zk_iaddN hx hb dX5_put_62 ?_
        refine lv_aload_n hx hb dX5_put_63 rfl (lv_at hl 0 rfl) ?_
        refine va_get (D := D) (ci := 5) (v := .ref m1) (C := RX5) (T := TX5) (N := 27) hx hb hts inX5 hown hK.1 hP 0 rfl rfl 2 (by decide) f_9 (fun _ h9 => h9) rfl dX5_put_64 ?_
        refine lv_iload_n hx hb dX5_put_67 rfl (lv_at hl 1 rfl) ?_
        refine zk_iald hx hb hK hP 1 rfl (by omega) (by decide) dX5_put_68 ?_
        refine lv_if_ne (tgt := 77) hx hb dX5_put_69 (by decide) (fun c_4 => ?_) (fun c_4 => ?_)
        · refine lv_aload_n hx hb dX5_put_77 rfl (lv_at hl 0 rfl) ?_
          refine va_get (D := D) (ci := 5) (v := .ref m1) (C := RX5) (T := TX5) (N := 27) hx hb hts inX5 hown hK.1 hP 0 rfl rfl 2 (by decide) f_9 (fun _ h9 => h9) rfl dX5_put_78 ?_
          refine lv_iload_n hx hb dX5_put_81 rfl (lv_at hl 1 rfl) ?_
          refine zk_iald hx hb hK hP 1 rfl (by omega) (by decide) dX5_put_82 ?_
          refine lv_iconst (v := nI 1) hx hb dX5_put_83 (by decide) ?_
          refine lv_icmp_ne (tgt := 92) hx hb dX5_put_84 (by decide) (fun c_5 => ?_) (fun c_5 => ?_)
          · refine lv_iload_n hx hb dX5_put_92 rfl (lv_at hl 3 rfl) ?_
            refine zk_iast (x := v) hx hb hK hP hD hS 3 rfl (by omega) (by decide) dX5_put_93 (fun H locs hP hD hS => ?_)
            have hP : va_P D vwCl [(m0, .inr (5, [.int (nI 0), .int tm, .ref m1, .ref m2, .ref m3, .int M.db, .int M.rm, .int (nI M.D), .int (nI M.P), .ref m4, .ref m5, .ref m6, .ref m7, .int (nI at1), .int rdb, .int rrm, .int (nI rD), .int (nI rP), .ref m8, .ref m9, .ref m10, .ref m11, .ref m12, .int (nI mt), .ref m13, .ref m14, .ref m15])), (m1, .inl (cI, 4, .inl so)), (m2, .inl (cI, 4, .inl lg)), (m3, .inl (cI, 240, .inl (upd mc (60 * j + m) v)))] H := hP
            have hD : va_D A [(m0, .inr (5, [.int (nI 0), .int tm, .ref m1, .ref m2, .ref m3, .int M.db, .int M.rm, .int (nI M.D), .int (nI M.P), .ref m4, .ref m5, .ref m6, .ref m7, .int (nI at1), .int rdb, .int rrm, .int (nI rD), .int (nI rP), .ref m8, .ref m9, .ref m10, .ref m11, .ref m12, .int (nI mt), .ref m13, .ref m14, .ref m15])), (m1, .inl (cI, 4, .inl so)), (m2, .inl (cI, 4, .inl lg)), (m3, .inl (cI, 240, .inl (upd mc (60 * j + m) v)))] := hD
            refine lv_iconst (v := nI 1) hx hb dX5_put_94 (by decide) ?_
            have e_t : putM mc so lg k i v = (nI 1, nI 0, upd mc (60 * j + m) v) := by simp [putM, hasM, cutL, nI_0, show ¬ nI 1 = (-9 : Int32) from by decide, show ¬ nI 1 = (0 : Int32) from by decide, show ¬ (0 : Int32) = (-9 : Int32) from by decide, c_1, g_j, c_2, c_p, g_m, c_4, c_5]
            exact zk_retI hx hb hr hS (()) (by rw [e_t]) (by rw [e_t]; exact hP) (by rw [e_t]; exact hD) dX5_put_95 hlocks
          · refine lv_iload_n hx hb dX5_put_87 rfl (lv_at hl 3 rfl) ?_
            refine lv_i2s (v := v.toInt16.toInt32) hx hb dX5_put_88 rfl ?_
            refine lv_goto (tgt := 93) hx hb dX5_put_89 (by decide) ?_
            refine zk_iast (x := v.toInt16.toInt32) hx hb hK hP hD hS 3 rfl (by omega) (by decide) dX5_put_93 (fun H locs hP hD hS => ?_)
            have hP : va_P D vwCl [(m0, .inr (5, [.int (nI 0), .int tm, .ref m1, .ref m2, .ref m3, .int M.db, .int M.rm, .int (nI M.D), .int (nI M.P), .ref m4, .ref m5, .ref m6, .ref m7, .int (nI at1), .int rdb, .int rrm, .int (nI rD), .int (nI rP), .ref m8, .ref m9, .ref m10, .ref m11, .ref m12, .int (nI mt), .ref m13, .ref m14, .ref m15])), (m1, .inl (cI, 4, .inl so)), (m2, .inl (cI, 4, .inl lg)), (m3, .inl (cI, 240, .inl (upd mc (60 * j + m) v.toInt16.toInt32)))] H := hP
            have hD : va_D A [(m0, .inr (5, [.int (nI 0), .int tm, .ref m1, .ref m2, .ref m3, .int M.db, .int M.rm, .int (nI M.D), .int (nI M.P), .ref m4, .ref m5, .ref m6, .ref m7, .int (nI at1), .int rdb, .int rrm, .int (nI rD), .int (nI rP), .ref m8, .ref m9, .ref m10, .ref m11, .ref m12, .int (nI mt), .ref m13, .ref m14, .ref m15])), (m1, .inl (cI, 4, .inl so)), (m2, .inl (cI, 4, .inl lg)), (m3, .inl (cI, 240, .inl (upd mc (60 * j + m) v.toInt16.toInt32)))] := hD
            refine lv_iconst (v := nI 1) hx hb dX5_put_94 (by decide) ?_
            have e_t : putM mc so lg k i v = (nI 1, nI 0, upd mc (60 * j + m) v.toInt16.toInt32) := by simp [putM, hasM, cutL, nI_0, show ¬ nI 1 = (-9 : Int32) from by decide, show ¬ nI 1 = (0 : Int32) from by decide, show ¬ (0 : Int32) = (-9 : Int32) from by decide, c_1, g_j, c_2, c_p, g_m, c_4, c_5]
            exact zk_retI hx hb hr hS (()) (by rw [e_t]) (by rw [e_t]; exact hP) (by rw [e_t]; exact hD) dX5_put_95 hlocks
        · refine lv_iload_n hx hb dX5_put_72 rfl (lv_at hl 3 rfl) ?_
          refine lv_i2b (v := v.toInt8.toInt32) hx hb dX5_put_73 rfl ?_
          refine lv_goto (tgt := 93) hx hb dX5_put_74 (by decide) ?_
          refine zk_iast (x := v.toInt8.toInt32) hx hb hK hP hD hS 3 rfl (by omega) (by decide) dX5_put_93 (fun H locs hP hD hS => ?_)
          have hP : va_P D vwCl [(m0, .inr (5, [.int (nI 0), .int tm, .ref m1, .ref m2, .ref m3, .int M.db, .int M.rm, .int (nI M.D), .int (nI M.P), .ref m4, .ref m5, .ref m6, .ref m7, .int (nI at1), .int rdb, .int rrm, .int (nI rD), .int (nI rP), .ref m8, .ref m9, .ref m10, .ref m11, .ref m12, .int (nI mt), .ref m13, .ref m14, .ref m15])), (m1, .inl (cI, 4, .inl so)), (m2, .inl (cI, 4, .inl lg)), (m3, .inl (cI, 240, .inl (upd mc (60 * j + m) v.toInt8.toInt32)))] H := hP
          have hD : va_D A [(m0, .inr (5, [.int (nI 0), .int tm, .ref m1, .ref m2, .ref m3, .int M.db, .int M.rm, .int (nI M.D), .int (nI M.P), .ref m4, .ref m5, .ref m6, .ref m7, .int (nI at1), .int rdb, .int rrm, .int (nI rD), .int (nI rP), .ref m8, .ref m9, .ref m10, .ref m11, .ref m12, .int (nI mt), .ref m13, .ref m14, .ref m15])), (m1, .inl (cI, 4, .inl so)), (m2, .inl (cI, 4, .inl lg)), (m3, .inl (cI, 240, .inl (upd mc (60 * j + m) v.toInt8.toInt32)))] := hD
          refine lv_iconst (v := nI 1) hx hb dX5_put_94 (by decide) ?_
          have e_t : putM mc so lg k i v = (nI 1, nI 0, upd mc (60 * j + m) v.toInt8.toInt32) := by simp [putM, hasM, cutL, nI_0, show ¬ nI 1 = (-9 : Int32) from by decide, show ¬ nI 1 = (0 : Int32) from by decide, show ¬ (0 : Int32) = (-9 : Int32) from by decide, c_1, g_j, c_2, c_p, g_m, c_4]
          exact zk_retI hx hb hr hS (()) (by rw [e_t]) (by rw [e_t]; exact hP) (by rw [e_t]; exact hD) dX5_put_95 hlocks
      · have c_p : pl1 i (lg j) = false := (wi_pl hsz hj).symm.trans c_3
        refine lv_aload_n hx hb dX5_put_47 rfl (lv_at hl 0 rfl) ?_
        refine lv_iconst (v := nI 3) hx hb dX5_put_48 (by decide) ?_
        refine zk_effVi (As := [.int (nI 3)]) (rest := []) (S := Unit) (fun r _ => r = (-10) - (nI 3)) (fun _ => wMo m0 m1 m2 m3 m4 m5 m6 m7 m8 m9 m10 m11 m12 m13 m14 m15 (nI 3) tm at1 rdb rrm rD rP mt M) ⟨hx, hb, hml, hown, hts⟩ hK hP hD hS hA [0] [1, 2, 3] (wc := [(m0, .inr (5, [.int (nI 0), .int tm, .ref m1, .ref m2, .ref m3, .int M.db, .int M.rm, .int (nI M.D), .int (nI M.P), .ref m4, .ref m5, .ref m6, .ref m7, .int (nI at1), .int rdb, .int rrm, .int (nI rD), .int (nI rP), .ref m8, .ref m9, .ref m10, .ref m11, .ref m12, .int (nI mt), .ref m13, .ref m14, .ref m15]))]) (wr := [(m1, .inl (cI, 4, .inl so)), (m2, .inl (cI, 4, .inl lg)), (m3, .inl (cI, 240, .inl mc))]) rfl rfl (by decide) (by decide) (by decide) [3, 0, 1, 2] (fun (_ : Unit) => [(m0, .inr (5, [.int (nI 3), .int tm, .ref m1, .ref m2, .ref m3, .int M.db, .int M.rm, .int (nI M.D), .int (nI M.P), .ref m4, .ref m5, .ref m6, .ref m7, .int (nI at1), .int rdb, .int rrm, .int (nI rD), .int (nI rP), .ref m8, .ref m9, .ref m10, .ref m11, .ref m12, .int (nI mt), .ref m13, .ref m14, .ref m15])), (m1, .inl (cI, 4, .inl so)), (m2, .inl (cI, 4, .inl lg)), (m3, .inl (cI, 240, .inl mc))]) (fun _ => rfl) (by decide) (m_fails l D cI H.size m0 m1 m2 m3 m4 m5 m6 m7 m8 m9 m10 m11 m12 m13 m14 m15 (nI 0) tm at1 rdb rrm rD rP mt M (nI 3) ) (cwV 1 hts gX5_put_X5_fails rfl rfl rfl hdX5_fails ⟨Nat.le_of_ble_eq_true rfl, Nat.le_of_ble_eq_true rfl⟩) rfl rfl rfl hl.1 rfl (Nat.le_of_ble_eq_true rfl) dX5_put_49 ⟨Nat.le_of_ble_eq_true rfl, Nat.le_of_ble_eq_true rfl⟩ (fun r_6 _ H locs hw_7 hP hD hS => ?_)
        have e_r_6 : r_6 = (-13) := hw_7.trans (by decide)
        rw [e_r_6]
        have e_t : putM mc so lg k i v = ((-13), (nI 3), mc) := by simp [putM, hasM, cutL, nI_0, show ¬ nI 1 = (-9 : Int32) from by decide, show ¬ nI 1 = (0 : Int32) from by decide, show ¬ (0 : Int32) = (-9 : Int32) from by decide, c_1, g_j, c_2, c_p]
        exact zk_retI hx hb hr hS (()) (by rw [e_t]) (by rw [e_t]; exact hP) (by rw [e_t]; exact hD) dX5_put_52 hlocks
    · refine lv_aload_n hx hb dX5_put_25 rfl (lv_at hl 0 rfl) ?_
      refine lv_iconst (v := nI 1) hx hb dX5_put_26 (by decide) ?_
      refine zk_effVi (As := [.int (nI 1)]) (rest := []) (S := Unit) (fun r _ => r = (-10) - (nI 1)) (fun _ => wMo m0 m1 m2 m3 m4 m5 m6 m7 m8 m9 m10 m11 m12 m13 m14 m15 (nI 1) tm at1 rdb rrm rD rP mt M) ⟨hx, hb, hml, hown, hts⟩ hK hP hD hS hA [0] [1, 2, 3] (wc := [(m0, .inr (5, [.int (nI 0), .int tm, .ref m1, .ref m2, .ref m3, .int M.db, .int M.rm, .int (nI M.D), .int (nI M.P), .ref m4, .ref m5, .ref m6, .ref m7, .int (nI at1), .int rdb, .int rrm, .int (nI rD), .int (nI rP), .ref m8, .ref m9, .ref m10, .ref m11, .ref m12, .int (nI mt), .ref m13, .ref m14, .ref m15]))]) (wr := [(m1, .inl (cI, 4, .inl so)), (m2, .inl (cI, 4, .inl lg)), (m3, .inl (cI, 240, .inl mc))]) rfl rfl (by decide) (by decide) (by decide) [3, 0, 1, 2] (fun (_ : Unit) => [(m0, .inr (5, [.int (nI 1), .int tm, .ref m1, .ref m2, .ref m3, .int M.db, .int M.rm, .int (nI M.D), .int (nI M.P), .ref m4, .ref m5, .ref m6, .ref m7, .int (nI at1), .int rdb, .int rrm, .int (nI rD), .int (nI rP), .ref m8, .ref m9, .ref m10, .ref m11, .ref m12, .int (nI mt), .ref m13, .ref m14, .ref m15])), (m1, .inl (cI, 4, .inl so)), (m2, .inl (cI, 4, .inl lg)), (m3, .inl (cI, 240, .inl mc))]) (fun _ => rfl) (by decide) (m_fails l D cI H.size m0 m1 m2 m3 m4 m5 m6 m7 m8 m9 m10 m11 m12 m13 m14 m15 (nI 0) tm at1 rdb rrm rD rP mt M (nI 1) ) (cwV 1 hts gX5_put_X5_fails rfl rfl rfl hdX5_fails ⟨Nat.le_of_ble_eq_true rfl, Nat.le_of_ble_eq_true rfl⟩) rfl rfl rfl hl.1 rfl (Nat.le_of_ble_eq_true rfl) dX5_put_27 ⟨Nat.le_of_ble_eq_true rfl, Nat.le_of_ble_eq_true rfl⟩ (fun r_8 _ H locs hw_9 hP hD hS => ?_)
      have e_r_8 : r_8 = (-11) := hw_9.trans (by decide)
      rw [e_r_8]
      have e_t : putM mc so lg k i v = ((-11), (nI 1), mc) := by simp [putM, hasM, cutL, nI_0, show ¬ nI 1 = (-9 : Int32) from by decide, show ¬ nI 1 = (0 : Int32) from by decide, show ¬ (0 : Int32) = (-9 : Int32) from by decide, c_1, g_j, c_2]
      exact zk_retI hx hb hr hS (()) (by rw [e_t]) (by rw [e_t]; exact hP) (by rw [e_t]; exact hD) dX5_put_30 hlocks
  · refine lv_iconst (v := (-1)) hx hb dX5_put_12 (by decide) ?_
    have e_t : putM mc so lg k i v = ((-1), nI 0, mc) := by simp [putM, hasM, cutL, nI_0, show ¬ nI 1 = (-9 : Int32) from by decide, show ¬ nI 1 = (0 : Int32) from by decide, show ¬ (0 : Int32) = (-9 : Int32) from by decide, c_1]
    exact zk_retI hx hb hr hS (()) (by rw [e_t]) (by rw [e_t]; exact hP) (by rw [e_t]; exact hD) dX5_put_13 hlocks
set_option maxHeartbeats 4000000 in
set_option maxRecDepth 100000 in
theorem mx_cell (l : Launch) (D : va_G) (cI : ClassId) (sz : Nat) (m0 : Nat) (m1 : Nat) (m2 : Nat) (m3 : Nat) (m4 : Nat) (m5 : Nat) (m6 : Nat) (m7 : Nat) (m8 : Nat) (m9 : Nat) (m10 : Nat) (m11 : Nat) (m12 : Nat) (m13 : Nat) (m14 : Nat) (m15 : Nat) (fm : Int32) (tm : Int32) (at1 : Nat) (rdb : Int32) (rrm : Int32) (rD : Nat) (rP : Nat) (mt : Nat) (M : YS) (so : Nat → Int32) (lg : Nat → Int32) (mc : Nat → Int32) (k : Int32) (i : Int32) (lane : Int32) (hsz : okS lg) : Met l yX5_cell wsX5_cell ({ frames := 2, cells := 0, slots := 0, locals := 42 }) (PQ D cI [.ref m0, .int k, .int i, .int lane] (wMo m0 m1 m2 m3 m4 m5 m6 m7 m8 m9 m10 m11 m12 m13 m14 m15 fm tm at1 rdb rrm rD rP mt M ++ wMs cI m1 m2 m3 so lg mc) sz) (QL (S := Unit) D (fun r _ => r = (cellM mc so lg k i lane).1) (fun _ => wMo m0 m1 m2 m3 m4 m5 m6 m7 m8 m9 m10 m11 m12 m13 m14 m15 ((cellM mc so lg k i lane).2) tm at1 rdb rrm rD rP mt M ++ wMs cI m1 m2 m3 so lg mc) (va_A (wMo m0 m1 m2 m3 m4 m5 m6 m7 m8 m9 m10 m11 m12 m13 m14 m15 fm tm at1 rdb rrm rD rP mt M ++ wMs cI m1 m2 m3 so lg mc) sz)) 0 0 (va_A (wMo m0 m1 m2 m3 m4 m5 m6 m7 m8 m9 m10 m11 m12 m13 m14 m15 fm tm at1 rdb rrm rD rP mt M ++ wMs cI m1 m2 m3 so lg mc) sz) := by
  refine zk_Q (QL (S := Unit) D (fun r _ => r = (cellM mc so lg k i lane).1) (fun _ => wMo m0 m1 m2 m3 m4 m5 m6 m7 m8 m9 m10 m11 m12 m13 m14 m15 ((cellM mc so lg k i lane).2) tm at1 rdb rrm rD rP mt M ++ wMs cI m1 m2 m3 so lg mc)) (cc := cX5_cell) (maxL := 4) (ret := (some .long)) (by decide) rfl (Nat.le_of_ble_eq_true rfl) ?_
  intro pX eX sX mX bX tX cX hx hb hr hlocks hml hown hmn hts hP hK A hA hD hS ls hl
  have hl : lv_has ls 4 [(0, .ref m0), (1, .int k), (2, .int i), (3, .int lane)] := hl
  have hP : va_P D vwCl [(m0, .inr (5, [.int fm, .int tm, .ref m1, .ref m2, .ref m3, .int M.db, .int M.rm, .int (nI M.D), .int (nI M.P), .ref m4, .ref m5, .ref m6, .ref m7, .int (nI at1), .int rdb, .int rrm, .int (nI rD), .int (nI rP), .ref m8, .ref m9, .ref m10, .ref m11, .ref m12, .int (nI mt), .ref m13, .ref m14, .ref m15])), (m1, .inl (cI, 4, .inl so)), (m2, .inl (cI, 4, .inl lg)), (m3, .inl (cI, 240, .inl mc))] sX.heap := hP
  have hD : va_D A [(m0, .inr (5, [.int fm, .int tm, .ref m1, .ref m2, .ref m3, .int M.db, .int M.rm, .int (nI M.D), .int (nI M.P), .ref m4, .ref m5, .ref m6, .ref m7, .int (nI at1), .int rdb, .int rrm, .int (nI rD), .int (nI rP), .ref m8, .ref m9, .ref m10, .ref m11, .ref m12, .int (nI mt), .ref m13, .ref m14, .ref m15])), (m1, .inl (cI, 4, .inl so)), (m2, .inl (cI, 4, .inl lg)), (m3, .inl (cI, 240, .inl mc))] := hD
  have f_55 := hts (.fieldLink RX5 55 "DunceSeeModel" "fault" "I") (by decide +kernel)
  have k_59 := hts (.constantLong RX5 59 (-9223372036854775808)) (by decide +kernel)
  have f_9 := hts (.fieldLink RX5 9 "DunceSeeModel" "sorts" "[I") (by decide +kernel)
  have f_13 := hts (.fieldLink RX5 13 "DunceSeeModel" "sheetLong" "[I") (by decide +kernel)
  have f_16 := hts (.fieldLink RX5 16 "DunceSeeModel" "cells" "[I") (by decide +kernel)
  have inX5 : ∀ w ∈ wsX50, w ∈ wsX5_cell := fun w h => List.mem_cons_of_mem _ (List.mem_append_right _ h)
  refine lv_aload_n hx hb dX5_cell_0 rfl (lv_at hl 0 rfl) ?_
  refine lv_iconst (v := nI 0) hx hb dX5_cell_1 (by decide) ?_
  refine va_put (D := D) (ci := 5) (v := .int (nI 0)) (ty := .int) (C := RX5) (T := TX5) (N := 27) hx hb hts inX5 tyX5 tyX5_ok nmX5 hown hK.1 hP hD hS 0 rfl rfl 0 (by decide) f_55 (fun _ h9 => h9) rfl (by decide +kernel) rfl rfl (Nat.le_of_ble_eq_true rfl) dX5_cell_2 (fun H locs hP hD hS => ?_)
  have hP : va_P D vwCl [(m0, .inr (5, [.int (nI 0), .int tm, .ref m1, .ref m2, .ref m3, .int M.db, .int M.rm, .int (nI M.D), .int (nI M.P), .ref m4, .ref m5, .ref m6, .ref m7, .int (nI at1), .int rdb, .int rrm, .int (nI rD), .int (nI rP), .ref m8, .ref m9, .ref m10, .ref m11, .ref m12, .int (nI mt), .ref m13, .ref m14, .ref m15])), (m1, .inl (cI, 4, .inl so)), (m2, .inl (cI, 4, .inl lg)), (m3, .inl (cI, 240, .inl mc))] H := hP
  have hD : va_D A [(m0, .inr (5, [.int (nI 0), .int tm, .ref m1, .ref m2, .ref m3, .int M.db, .int M.rm, .int (nI M.D), .int (nI M.P), .ref m4, .ref m5, .ref m6, .ref m7, .int (nI at1), .int rdb, .int rrm, .int (nI rD), .int (nI rP), .ref m8, .ref m9, .ref m10, .ref m11, .ref m12, .int (nI mt), .ref m13, .ref m14, .ref m15])), (m1, .inl (cI, 4, .inl so)), (m2, .inl (cI, 4, .inl lg)), (m3, .inl (cI, 240, .inl mc))] := hD
  refine lv_iload_n hx hb dX5_cell_5 rfl (lv_at hl 1 rfl) ?_
  refine zk_callSi (As := [.int k]) (rest := []) (bI (isP 4 k)) ⟨hx, hb, hml, hown, hts⟩ hK hP [] rfl (m_isSheet l D cI k ) (va_cwS 1 hts gX5_cell_X5_isSheet rfl rfl rfl hdX5_isSheet ⟨Nat.le_of_ble_eq_true rfl, Nat.le_of_ble_eq_true rfl⟩) rfl hl.1 rfl (Nat.le_of_ble_eq_true rfl) dX5_cell_6 ⟨Nat.le_of_ble_eq_true rfl, Nat.le_of_ble_eq_true rfl⟩ ?_
  refine zk_ifeqB (tgt := 19) hx hb dX5_cell_9 (by decide) (fun c_1 => ?_) (fun c_1 => ?_)
  · refine lv_ldc2 (v := (-9223372036854775808)) hx hb hown k_59 dX5_cell_19 ?_
    have e_t : cellM mc so lg k i lane = ((-9223372036854775808), nI 0) := by simp [cellM, fRowM, hasM, show ¬ nI 2 = (0 : Int32) from by decide, show ¬ nI 1 = (0 : Int32) from by decide, c_1]
    exact zk_retL hx hb hr hS (()) (by rw [e_t]) (by rw [e_t]; exact hP) (by rw [e_t]; exact hD) dX5_cell_22 hlocks
  · obtain ⟨j, hj, e_j, g_j⟩ := isP_of (by omega) c_1
    rw [e_j] at hl
    refine lv_iload_n hx hb dX5_cell_12 rfl (lv_at hl 3 rfl) ?_
    refine zk_callSi (As := [.int lane]) (rest := []) (bI (isP 3 lane)) ⟨hx, hb, hml, hown, hts⟩ hK hP [] rfl (m_isSort l D cI lane ) (va_cwS 1 hts gX5_cell_X5_isSort rfl rfl rfl hdX5_isSort ⟨Nat.le_of_ble_eq_true rfl, Nat.le_of_ble_eq_true rfl⟩) rfl hl.1 rfl (Nat.le_of_ble_eq_true rfl) dX5_cell_13 ⟨Nat.le_of_ble_eq_true rfl, Nat.le_of_ble_eq_true rfl⟩ ?_
    refine zk_ifneB (tgt := 23) hx hb dX5_cell_16 (by decide) (fun c_2 => ?_) (fun c_2 => ?_)
    · refine lv_aload_n hx hb dX5_cell_23 rfl (lv_at hl 0 rfl) ?_
      refine va_get (D := D) (ci := 5) (v := .ref m1) (C := RX5) (T := TX5) (N := 27) hx hb hts inX5 hown hK.1 hP 0 rfl rfl 2 (by decide) f_9 (fun _ h9 => h9) rfl dX5_cell_24 ?_
      refine lv_iload_n hx hb dX5_cell_27 rfl (lv_at hl 1 rfl) ?_
      refine zk_iald hx hb hK hP 1 rfl (by omega) (by decide) dX5_cell_28 ?_
      refine lv_bipush (v := (-9)) hx hb dX5_cell_29 (by decide) ?_
      refine lv_icmp_eq (tgt := 50) hx hb dX5_cell_31 (by decide) (fun c_3 => ?_) (fun c_3 => ?_)
      · refine lv_aload_n hx hb dX5_cell_50 rfl (lv_at hl 0 rfl) ?_
        refine va_get (D := D) (ci := 5) (v := .ref m1) (C := RX5) (T := TX5) (N := 27) hx hb hts inX5 hown hK.1 hP 0 rfl rfl 2 (by decide) f_9 (fun _ h9 => h9) rfl dX5_cell_51 ?_
        refine lv_iload_n hx hb dX5_cell_54 rfl (lv_at hl 1 rfl) ?_
        refine zk_iald hx hb hK hP 1 rfl (by omega) (by decide) dX5_cell_55 ?_
        refine lv_bipush (v := (-9)) hx hb dX5_cell_56 (by decide) ?_
        refine lv_icmp_ne (tgt := 67) hx hb dX5_cell_58 (by decide) (fun c_4 => ?_) (fun c_4 => ?_)
        · exact (by exact absurd c_3 c_4)
        · refine lv_aload_n hx hb dX5_cell_61 rfl (lv_at hl 0 rfl) ?_
          refine lv_iconst (v := nI 1) hx hb dX5_cell_62 (by decide) ?_
          refine zk_effVl (As := [.int (nI 1)]) (rest := []) (S := Unit) (fun r _ => r = (-9223372036854775808)) (fun _ => wMo m0 m1 m2 m3 m4 m5 m6 m7 m8 m9 m10 m11 m12 m13 m14 m15 (nI 1) tm at1 rdb rrm rD rP mt M) ⟨hx, hb, hml, hown, hts⟩ hK hP hD hS hA [0] [1, 2, 3] (wc := [(m0, .inr (5, [.int (nI 0), .int tm, .ref m1, .ref m2, .ref m3, .int M.db, .int M.rm, .int (nI M.D), .int (nI M.P), .ref m4, .ref m5, .ref m6, .ref m7, .int (nI at1), .int rdb, .int rrm, .int (nI rD), .int (nI rP), .ref m8, .ref m9, .ref m10, .ref m11, .ref m12, .int (nI mt), .ref m13, .ref m14, .ref m15]))]) (wr := [(m1, .inl (cI, 4, .inl so)), (m2, .inl (cI, 4, .inl lg)), (m3, .inl (cI, 240, .inl mc))]) rfl rfl (by decide) (by decide) (by decide) [3, 0, 1, 2] (fun (_ : Unit) => [(m0, .inr (5, [.int (nI 1), .int tm, .ref m1, .ref m2, .ref m3, .int M.db, .int M.rm, .int (nI M.D), .int (nI M.P), .ref m4, .ref m5, .ref m6, .ref m7, .int (nI at1), .int rdb, .int rrm, .int (nI rD), .int (nI rP), .ref m8, .ref m9, .ref m10, .ref m11, .ref m12, .int (nI mt), .ref m13, .ref m14, .ref m15])), (m1, .inl (cI, 4, .inl so)), (m2, .inl (cI, 4, .inl lg)), (m3, .inl (cI, 240, .inl mc))]) (fun _ => rfl) (by decide) (m_lost l D cI H.size m0 m1 m2 m3 m4 m5 m6 m7 m8 m9 m10 m11 m12 m13 m14 m15 (nI 0) tm at1 rdb rrm rD rP mt M (nI 1) ) (cwV 1 hts gX5_cell_X5_lost rfl rfl rfl hdX5_lost ⟨Nat.le_of_ble_eq_true rfl, Nat.le_of_ble_eq_true rfl⟩) rfl rfl rfl hl.1 rfl (Nat.le_of_ble_eq_true rfl) dX5_cell_63 ⟨Nat.le_of_ble_eq_true rfl, Nat.le_of_ble_eq_true rfl⟩ (fun r_5 _ H locs hw_6 hP hD hS => ?_)
          have e_r_5 : r_5 = (-9223372036854775808) := hw_6
          rw [e_r_5]
          have e_t : cellM mc so lg k i lane = ((-9223372036854775808), (nI 1)) := by simp [cellM, fRowM, hasM, show ¬ nI 2 = (0 : Int32) from by decide, show ¬ nI 1 = (0 : Int32) from by decide, c_1, g_j, c_2, c_3, c_4]
          exact zk_retL hx hb hr hS (()) (by rw [e_t]) (by rw [e_t]; exact hP) (by rw [e_t]; exact hD) dX5_cell_66 hlocks
      · refine lv_aload_n hx hb dX5_cell_34 rfl (lv_at hl 0 rfl) ?_
        refine va_get (D := D) (ci := 5) (v := .ref m1) (C := RX5) (T := TX5) (N := 27) hx hb hts inX5 hown hK.1 hP 0 rfl rfl 2 (by decide) f_9 (fun _ h9 => h9) rfl dX5_cell_35 ?_
        refine lv_iload_n hx hb dX5_cell_38 rfl (lv_at hl 1 rfl) ?_
        refine zk_iald hx hb hK hP 1 rfl (by omega) (by decide) dX5_cell_39 ?_
        refine lv_iload_n hx hb dX5_cell_40 rfl (lv_at hl 3 rfl) ?_
        refine lv_icmp_eq (tgt := 50) hx hb dX5_cell_41 (by decide) (fun c_7 => ?_) (fun c_7 => ?_)
        · have c_z := c_3
          have c_r : fRowM so j lane = 0 := by unfold fRowM hasM; rw [decide_eq_true c_z, if_pos rfl, if_pos c_7]; exact nI_0
          refine lv_aload_n hx hb dX5_cell_50 rfl (lv_at hl 0 rfl) ?_
          refine va_get (D := D) (ci := 5) (v := .ref m1) (C := RX5) (T := TX5) (N := 27) hx hb hts inX5 hown hK.1 hP 0 rfl rfl 2 (by decide) f_9 (fun _ h9 => h9) rfl dX5_cell_51 ?_
          refine lv_iload_n hx hb dX5_cell_54 rfl (lv_at hl 1 rfl) ?_
          refine zk_iald hx hb hK hP 1 rfl (by omega) (by decide) dX5_cell_55 ?_
          refine lv_bipush (v := (-9)) hx hb dX5_cell_56 (by decide) ?_
          refine lv_icmp_ne (tgt := 67) hx hb dX5_cell_58 (by decide) (fun c_8 => ?_) (fun c_8 => ?_)
          · refine lv_iload_n hx hb dX5_cell_67 rfl (lv_at hl 2 rfl) ?_
            refine lv_iconst (v := nI 0) hx hb dX5_cell_68 (by decide) ?_
            refine lv_aload_n hx hb dX5_cell_69 rfl (lv_at hl 0 rfl) ?_
            refine va_get (D := D) (ci := 5) (v := .ref m2) (C := RX5) (T := TX5) (N := 27) hx hb hts inX5 hown hK.1 hP 0 rfl rfl 3 (by decide) f_13 (fun _ h9 => h9) rfl dX5_cell_70 ?_
            refine lv_iload_n hx hb dX5_cell_73 rfl (lv_at hl 1 rfl) ?_
            refine zk_iald hx hb hK hP 2 rfl (by omega) (by decide) dX5_cell_74 ?_
            refine lv_iconst (v := nI 1) hx hb dX5_cell_75 (by decide) ?_
            refine lv_isub hx hb dX5_cell_76 ?_
            refine zk_callSi (As := [.int i, .int (nI 0), .int ((lg j) - (nI 1))]) (rest := []) (bI (wiB i (nI 0) ((lg j) - (nI 1)))) ⟨hx, hb, hml, hown, hts⟩ hK hP [] rfl (m_within l D cI i (nI 0) ((lg j) - (nI 1)) ) (va_cwS 3 hts gX5_cell_X5_within rfl rfl rfl hdX5_within ⟨Nat.le_of_ble_eq_true rfl, Nat.le_of_ble_eq_true rfl⟩) rfl hl.1 rfl (Nat.le_of_ble_eq_true rfl) dX5_cell_77 ⟨Nat.le_of_ble_eq_true rfl, Nat.le_of_ble_eq_true rfl⟩ ?_
            refine zk_ifneB (tgt := 89) hx hb dX5_cell_80 (by decide) (fun c_9 => ?_) (fun c_9 => ?_)
            · have c_p : pl1 i (lg j) = true := (wi_pl hsz hj).symm.trans c_9
              obtain ⟨m, hm, e_m, g_m⟩ := pl1_of hsz hj c_p
              rw [e_m] at hl
              refine lv_aload_n hx hb dX5_cell_89 rfl (lv_at hl 0 rfl) ?_
              refine va_get (D := D) (ci := 5) (v := .ref m3) (C := RX5) (T := TX5) (N := 27) hx hb hts inX5 hown hK.1 hP 0 rfl rfl 4 (by decide) f_16 (fun _ h9 => h9) rfl dX5_cell_90 ?_
              refine lv_bipush (v := nI 60) hx hb dX5_cell_93 (by decide) ?_
              refine lv_iload_n hx hb dX5_cell_95 rfl (lv_at hl 1 rfl) ?_
              refine zk_imulN hx hb dX5_cell_96 ?_
              refine lv_iload_n hx hb dX5_cell_97 rfl (lv_at hl 2 rfl) ?_
              refine zk_iaddN hx hb dX5_cell_98 ?_
              refine zk_iald hx hb hK hP 3 rfl (by omega) (by decide) dX5_cell_99 ?_
              refine lv_i2l (v := (mc (60 * j + m)).toInt64) hx hb dX5_cell_100 rfl ?_
              have e_t : cellM mc so lg k i lane = ((mc (60 * j + m)).toInt64, nI 0) := by simp [cellM, c_1, c_2, g_j, c_r, c_8, c_p, g_m]
              exact zk_retL hx hb hr hS (()) (by rw [e_t]) (by rw [e_t]; exact hP) (by rw [e_t]; exact hD) dX5_cell_101 hlocks
            · have c_p : pl1 i (lg j) = false := (wi_pl hsz hj).symm.trans c_9
              refine lv_aload_n hx hb dX5_cell_83 rfl (lv_at hl 0 rfl) ?_
              refine lv_iconst (v := nI 3) hx hb dX5_cell_84 (by decide) ?_
              refine zk_effVl (As := [.int (nI 3)]) (rest := []) (S := Unit) (fun r _ => r = (-9223372036854775808)) (fun _ => wMo m0 m1 m2 m3 m4 m5 m6 m7 m8 m9 m10 m11 m12 m13 m14 m15 (nI 3) tm at1 rdb rrm rD rP mt M) ⟨hx, hb, hml, hown, hts⟩ hK hP hD hS hA [0] [1, 2, 3] (wc := [(m0, .inr (5, [.int (nI 0), .int tm, .ref m1, .ref m2, .ref m3, .int M.db, .int M.rm, .int (nI M.D), .int (nI M.P), .ref m4, .ref m5, .ref m6, .ref m7, .int (nI at1), .int rdb, .int rrm, .int (nI rD), .int (nI rP), .ref m8, .ref m9, .ref m10, .ref m11, .ref m12, .int (nI mt), .ref m13, .ref m14, .ref m15]))]) (wr := [(m1, .inl (cI, 4, .inl so)), (m2, .inl (cI, 4, .inl lg)), (m3, .inl (cI, 240, .inl mc))]) rfl rfl (by decide) (by decide) (by decide) [3, 0, 1, 2] (fun (_ : Unit) => [(m0, .inr (5, [.int (nI 3), .int tm, .ref m1, .ref m2, .ref m3, .int M.db, .int M.rm, .int (nI M.D), .int (nI M.P), .ref m4, .ref m5, .ref m6, .ref m7, .int (nI at1), .int rdb, .int rrm, .int (nI rD), .int (nI rP), .ref m8, .ref m9, .ref m10, .ref m11, .ref m12, .int (nI mt), .ref m13, .ref m14, .ref m15])), (m1, .inl (cI, 4, .inl so)), (m2, .inl (cI, 4, .inl lg)), (m3, .inl (cI, 240, .inl mc))]) (fun _ => rfl) (by decide) (m_lost l D cI H.size m0 m1 m2 m3 m4 m5 m6 m7 m8 m9 m10 m11 m12 m13 m14 m15 (nI 0) tm at1 rdb rrm rD rP mt M (nI 3) ) (cwV 1 hts gX5_cell_X5_lost rfl rfl rfl hdX5_lost ⟨Nat.le_of_ble_eq_true rfl, Nat.le_of_ble_eq_true rfl⟩) rfl rfl rfl hl.1 rfl (Nat.le_of_ble_eq_true rfl) dX5_cell_85 ⟨Nat.le_of_ble_eq_true rfl, Nat.le_of_ble_eq_true rfl⟩ (fun r_10 _ H locs hw_11 hP hD hS => ?_)
              have e_r_10 : r_10 = (-9223372036854775808) := hw_11
              rw [e_r_10]
              have e_t : cellM mc so lg k i lane = ((-9223372036854775808), (nI 3)) := by simp [cellM, c_1, c_2, g_j, c_r, c_8, c_p]
              exact zk_retL hx hb hr hS (()) (by rw [e_t]) (by rw [e_t]; exact hP) (by rw [e_t]; exact hD) dX5_cell_88 hlocks
          · exact (by exact absurd c_8 c_z)
        · refine lv_aload_n hx hb dX5_cell_44 rfl (lv_at hl 0 rfl) ?_
          refine lv_iconst (v := nI 2) hx hb dX5_cell_45 (by decide) ?_
          refine zk_effVl (As := [.int (nI 2)]) (rest := []) (S := Unit) (fun r _ => r = (-9223372036854775808)) (fun _ => wMo m0 m1 m2 m3 m4 m5 m6 m7 m8 m9 m10 m11 m12 m13 m14 m15 (nI 2) tm at1 rdb rrm rD rP mt M) ⟨hx, hb, hml, hown, hts⟩ hK hP hD hS hA [0] [1, 2, 3] (wc := [(m0, .inr (5, [.int (nI 0), .int tm, .ref m1, .ref m2, .ref m3, .int M.db, .int M.rm, .int (nI M.D), .int (nI M.P), .ref m4, .ref m5, .ref m6, .ref m7, .int (nI at1), .int rdb, .int rrm, .int (nI rD), .int (nI rP), .ref m8, .ref m9, .ref m10, .ref m11, .ref m12, .int (nI mt), .ref m13, .ref m14, .ref m15]))]) (wr := [(m1, .inl (cI, 4, .inl so)), (m2, .inl (cI, 4, .inl lg)), (m3, .inl (cI, 240, .inl mc))]) rfl rfl (by decide) (by decide) (by decide) [3, 0, 1, 2] (fun (_ : Unit) => [(m0, .inr (5, [.int (nI 2), .int tm, .ref m1, .ref m2, .ref m3, .int M.db, .int M.rm, .int (nI M.D), .int (nI M.P), .ref m4, .ref m5, .ref m6, .ref m7, .int (nI at1), .int rdb, .int rrm, .int (nI rD), .int (nI rP), .ref m8, .ref m9, .ref m10, .ref m11, .ref m12, .int (nI mt), .ref m13, .ref m14, .ref m15])), (m1, .inl (cI, 4, .inl so)), (m2, .inl (cI, 4, .inl lg)), (m3, .inl (cI, 240, .inl mc))]) (fun _ => rfl) (by decide) (m_lost l D cI H.size m0 m1 m2 m3 m4 m5 m6 m7 m8 m9 m10 m11 m12 m13 m14 m15 (nI 0) tm at1 rdb rrm rD rP mt M (nI 2) ) (cwV 1 hts gX5_cell_X5_lost rfl rfl rfl hdX5_lost ⟨Nat.le_of_ble_eq_true rfl, Nat.le_of_ble_eq_true rfl⟩) rfl rfl rfl hl.1 rfl (Nat.le_of_ble_eq_true rfl) dX5_cell_46 ⟨Nat.le_of_ble_eq_true rfl, Nat.le_of_ble_eq_true rfl⟩ (fun r_12 _ H locs hw_13 hP hD hS => ?_)
          have e_r_12 : r_12 = (-9223372036854775808) := hw_13
          rw [e_r_12]
          have e_t : cellM mc so lg k i lane = ((-9223372036854775808), (nI 2)) := by simp [cellM, fRowM, hasM, show ¬ nI 2 = (0 : Int32) from by decide, show ¬ nI 1 = (0 : Int32) from by decide, c_1, g_j, c_2, c_3, c_7]
          exact zk_retL hx hb hr hS (()) (by rw [e_t]) (by rw [e_t]; exact hP) (by rw [e_t]; exact hD) dX5_cell_49 hlocks
    · refine lv_ldc2 (v := (-9223372036854775808)) hx hb hown k_59 dX5_cell_19 ?_
      have e_t : cellM mc so lg k i lane = ((-9223372036854775808), nI 0) := by simp [cellM, fRowM, hasM, show ¬ nI 2 = (0 : Int32) from by decide, show ¬ nI 1 = (0 : Int32) from by decide, c_1, g_j, c_2]
      exact zk_retL hx hb hr hS (()) (by rw [e_t]) (by rw [e_t]; exact hP) (by rw [e_t]; exact hD) dX5_cell_22 hlocks
