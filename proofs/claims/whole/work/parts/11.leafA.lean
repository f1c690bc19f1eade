theorem hdJ7_rangeCheck_23922 : yJ7_rangeCheck_23922.cls ≠ "java/lang/invoke/MethodHandle" ∧ yJ7_rangeCheck_23922.cls ≠ "java/lang/invoke/VarHandle" ∧ (parseMethodDescriptor yJ7_rangeCheck_23922.desc).map (fun d => d.parameters.length) = some 3 := by decide +kernel
theorem hdJ7_fill_53178 : yJ7_fill_53178.cls ≠ "java/lang/invoke/MethodHandle" ∧ yJ7_fill_53178.cls ≠ "java/lang/invoke/VarHandle" ∧ (parseMethodDescriptor yJ7_fill_53178.desc).map (fun d => d.parameters.length) = some 2 := by decide +kernel
theorem hdX3_hasRow : yX3_hasRow.cls = RX3 ∧ yX3_hasRow.cls ≠ "java/lang/invoke/MethodHandle" ∧ yX3_hasRow.cls ≠ "java/lang/invoke/VarHandle" ∧ (parseMethodDescriptor yX3_hasRow.desc).map (fun d => d.parameters.length) = some 1 := by decide +kernel
theorem hdX3_faultOfRow : yX3_faultOfRow.cls = RX3 ∧ yX3_faultOfRow.cls ≠ "java/lang/invoke/MethodHandle" ∧ yX3_faultOfRow.cls ≠ "java/lang/invoke/VarHandle" ∧ (parseMethodDescriptor yX3_faultOfRow.desc).map (fun d => d.parameters.length) = some 2 := by decide +kernel
theorem hdX3_hasPlaces : yX3_hasPlaces.cls = RX3 ∧ yX3_hasPlaces.cls ≠ "java/lang/invoke/MethodHandle" ∧ yX3_hasPlaces.cls ≠ "java/lang/invoke/VarHandle" ∧ (parseMethodDescriptor yX3_hasPlaces.desc).map (fun d => d.parameters.length) = some 3 := by decide +kernel
theorem hdJ7_fill_fda19 : yJ7_fill_fda19.cls ≠ "java/lang/invoke/MethodHandle" ∧ yJ7_fill_fda19.cls ≠ "java/lang/invoke/VarHandle" ∧ (parseMethodDescriptor yJ7_fill_fda19.desc).map (fun d => d.parameters.length) = some 4 := by decide +kernel
theorem hdX3_cut : yX3_cut.cls ≠ "java/lang/invoke/MethodHandle" ∧ yX3_cut.cls ≠ "java/lang/invoke/VarHandle" ∧ (parseMethodDescriptor yX3_cut.desc).map (fun d => d.parameters.length) = some 2 := by decide +kernel
set_option maxHeartbeats 4000000 in
set_option maxRecDepth 100000 in
theorem c_fill (l : Launch) (D : va_G) (cI : ClassId) (sz : Nat) (a : Nat) (n : Nat) (f : Nat → Int32) (v : Int32) (hn : n < 1000) : Met l yJ7_fill_53178 wsJ7_fill_53178 ({ frames := 0, cells := 0, slots := 0, locals := 0 }) (PQ D cI [.ref a, .int v] ([(a, .inl (cI, n, .inl f))]) sz) (QV (S := Unit) D (fun _ => True) (fun _ => [(a, .inl (cI, n, .inl (fun _ => v)))]) (va_A ([(a, .inl (cI, n, .inl f))]) sz)) 0 0 (va_A ([(a, .inl (cI, n, .inl f))]) sz) := by
  refine zk_Q (QV (S := Unit) D (fun _ => True) (fun _ => [(a, .inl (cI, n, .inl (fun _ => v)))])) (cc := cJ7_fill_53178) (maxL := 4) (ret := none) (by decide) rfl (Nat.le_of_ble_eq_true rfl) ?_
  intro pX eX sX mX bX tX cX hx hb hr hlocks hml hown hmn hts hP hK A hA hD hS ls hl
  have hl : lv_has ls 4 [(0, .ref a), (1, .int v)] := hl
  have hP : va_P D vwCl [(a, .inl (cI, n, .inl f))] sX.heap := hP
  have hD : va_D A [(a, .inl (cI, n, .inl f))] := hD
  skip
  refine lv_iconst (v := nI 0) hx hb dJ7_fill_53178_0 (by decide) ?_
  refine lv_istore_n (lv' := [(2, .int (nI 0)), (0, .ref a), (1, .int v)]) hx hb dJ7_fill_53178_1 rfl hl (by decide) rfl (fun ls hl => ?_)
  refine lv_aload_n hx hb dJ7_fill_53178_2 rfl (lv_at hl 1 rfl) ?_
  refine va_alen (v := nI n) hx hb hK.1 hP 0 0 rfl rfl rfl dJ7_fill_53178_3 ?_
  refine lv_istore_n (lv' := [(3, .int (nI n)), (2, .int (nI 0)), (0, .ref a), (1, .int v)]) hx hb dJ7_fill_53178_4 rfl hl (by decide) rfl (fun ls hl => ?_)
  have loop5 : ∀ (nL k : Nat), k ≤ n → n < k + nL → ∀ (H : Heap) (locs : List Loc), va_P D vwCl [(a, .inl (cI, n, .inl (tab k (fun _ => v) f)))] H → va_D A [(a, .inl (cI, n, .inl (tab k (fun _ => v) f)))] → va_S A sX.heap H locs → ∀ ls : Array Slot, lv_has ls 4 [(0, .ref a), (1, .int v), (2, .int (nI k)), (3, .int (nI n))] → W pX l eX ({ frames := 0, cells := 0, slots := 0, locals := 0 }) sX mX ([.ref a, .int v] : List Value).toArray bX tX cX H locs 0 0 (MQ bX (QV (S := Unit) D (fun _ => True) (fun _ => [(a, .inl (cI, n, .inl (fun _ => v)))]) A) ([.ref a, .int v] : List Value).toArray sX 0 0 A) (F0 mX 5 ls []) := by
    intro nL
    induction nL with
    | zero => intro k  h1 h2; exact absurd h2 (by omega)
    | succ nL ih =>
      intro k  h_le h_n  H locs hP hD hS ls hl
      refine lv_iload_n hx hb dJ7_fill_53178_5 rfl (lv_at hl 2 rfl) ?_
      refine lv_iload_n hx hb dJ7_fill_53178_6 rfl (lv_at hl 3 rfl) ?_
      refine zk_icmp_ge (tgt := 20) hx hb dJ7_fill_53178_7 (by decide) (by omega) (by omega) (fun c_1 => ?_) (fun c_1 => ?_)
      · have e_k : k = n := by omega
        subst e_k
        have hP := zk_arr (g := fun _ => v) hP (k := 0) rfl (fun j hj => tab_lt hj _ _)
        have hD := zk_arrD (g := fun _ => v) hD (k := 0) rfl
        exact zk_retV hx hb hr hS (()) (trivial) hP hD dJ7_fill_53178_20 hlocks
      · refine lv_aload_n hx hb dJ7_fill_53178_10 rfl (lv_at hl 0 rfl) ?_
        refine lv_iload_n hx hb dJ7_fill_53178_11 rfl (lv_at hl 2 rfl) ?_
        refine lv_iload_n hx hb dJ7_fill_53178_12 rfl (lv_at hl 1 rfl) ?_
        refine zk_iast (x := v) hx hb hK hP hD hS 0 rfl (by omega) (by omega) dJ7_fill_53178_13 (fun H locs hP hD hS => ?_)
        have hP : va_P D vwCl [(a, .inl (cI, n, .inl (upd (tab k (fun _ => v) f) k v)))] H := hP
        have hD : va_D A [(a, .inl (cI, n, .inl (upd (tab k (fun _ => v) f) k v)))] := hD
        refine lv_iinc (v := nI (k + 1)) (lv' := [(2, .int (nI (k + 1))), (0, .ref a), (1, .int v), (3, .int (nI n))]) hx hb dJ7_fill_53178_14 hl (k := 2) rfl (by rw [show (Int32.ofInt 1) = nI 1 from by decide, nI_add]) (by decide) rfl (fun ls hl => ?_)
        refine lv_goto (tgt := 5) hx hb dJ7_fill_53178_17 (by decide) ?_
        rw [tab_s k (fun _ => v) f] at hP hD
        exact ih (k + 1)  (by omega) (by omega)  _ _ hP hD hS ls (lv_sub hl [1, 2, 0, 3] rfl)
  rw [← tab_0 (fun _ => v) f] at hP hD
  exact loop5 (n + 1) 0  (by omega) (by omega)  _ _ hP hD hS ls (lv_sub hl [2, 3, 1, 0] rfl)
set_option maxHeartbeats 4000000 in
set_option maxRecDepth 100000 in
theorem c_rangeCheck (l : Launch) (D : va_G) (cI : ClassId) (n : Nat) (i : Nat) (j : Nat) (hij : i ≤ j) (hjn : j ≤ n) (hn : n < 1000) : Met l yJ7_rangeCheck_23922 wsJ7_rangeCheck_23922 ({ frames := 0, cells := 0, slots := 0, locals := 0 }) (PS D cI [.int (nI n), .int (nI i), .int (nI j)] ([])) (va_Sv (fun _ => True)) 0 0 (fun _ => False) := by
  refine zk_S (cc := cJ7_rangeCheck_23922) (maxL := 3) (ret := none) (by decide) rfl (Nat.le_of_ble_eq_true rfl) ?_
  intro pX eX sX mX bX tX cX hx hb hr hlocks hml hown hts hP hK ls hl
  have hl : lv_has ls 3 [(0, .int (nI n)), (1, .int (nI i)), (2, .int (nI j))] := hl
  have hP : va_P D vwCl [] sX.heap := hP
  skip
  refine lv_iload_n hx hb dJ7_rangeCheck_23922_0 rfl (lv_at hl 1 rfl) ?_
  refine lv_iload_n hx hb dJ7_rangeCheck_23922_1 rfl (lv_at hl 2 rfl) ?_
  refine zk_icmp_le (tgt := 46) hx hb dJ7_rangeCheck_23922_2 (by decide) (by omega) (by omega) (fun c_1 => ?_) (fun c_1 => ?_)
  · refine lv_iload_n hx hb dJ7_rangeCheck_23922_46 rfl (lv_at hl 1 rfl) ?_
    refine lv_if_ge (tgt := 59) hx hb dJ7_rangeCheck_23922_47 (by decide) (fun c_2 => ?_) (fun c_2 => ?_)
    · refine lv_iload_n hx hb dJ7_rangeCheck_23922_59 rfl (lv_at hl 2 rfl) ?_
      refine lv_iload_n hx hb dJ7_rangeCheck_23922_60 rfl (lv_at hl 0 rfl) ?_
      refine zk_icmp_le (tgt := 73) hx hb dJ7_rangeCheck_23922_61 (by decide) (by omega) (by omega) (fun c_3 => ?_) (fun c_3 => ?_)
      · exact zk_retSV hx hb hr dJ7_rangeCheck_23922_73 hlocks
      · exact (by exfalso; omega)
    · exact (by exact absurd (nI_pos' (n := i) (by omega)) c_2)
  · exact (by exfalso; omega)
/-- places i to j hold v -/
def fillR (f : Nat → Int32) (i j : Nat) (v : Int32) : Nat → Int32 := fun q => if i ≤ q ∧ q < j then v else f q
theorem fillR_0 (f : Nat → Int32) (i : Nat) (v : Int32) : fillR f i i v = f := by
  funext q
  unfold fillR
  rw [if_neg (by omega)]
theorem fillR_s (f : Nat → Int32) {i k : Nat} (h : i ≤ k) (v : Int32) : upd (fillR f i k v) k v = fillR f i (k + 1) v := by
  funext q
  unfold upd fillR
  by_cases e : q = k
  · subst e; rw [if_pos rfl, if_pos (by omega)]
  · rw [if_neg e]
    by_cases h2 : i ≤ q ∧ q < k
    · rw [if_pos h2, if_pos (by omega)]
    · rw [if_neg h2, if_neg (by omega)]
set_option maxHeartbeats 4000000 in
set_option maxRecDepth 100000 in
theorem c_fillR (l : Launch) (D : va_G) (cI : ClassId) (sz : Nat) (a : Nat) (n : Nat) (f : Nat → Int32) (i : Nat) (j : Nat) (v : Int32) (hij : i ≤ j) (hjn : j ≤ n) (hn : n < 1000) : Met l yJ7_fill_fda19 wsJ7_fill_fda19 ({ frames := 1, cells := 0, slots := 0, locals := 22 }) (PQ D cI [.ref a, .int (nI i), .int (nI j), .int v] ([(a, .inl (cI, n, .inl f))]) sz) (QV (S := Unit) D (fun _ => True) (fun _ => [(a, .inl (cI, n, .inl (fillR f i j v)))]) (va_A ([(a, .inl (cI, n, .inl f))]) sz)) 0 0 (va_A ([(a, .inl (cI, n, .inl f))]) sz) := by
  refine zk_Q (QV (S := Unit) D (fun _ => True) (fun _ => [(a, .inl (cI, n, .inl (fillR f i j v)))])) (cc := cJ7_fill_fda19) (maxL := 5) (ret := none) (by decide) rfl (Nat.le_of_ble_eq_true rfl) ?_
  intro pX eX sX mX bX tX cX hx hb hr hlocks hml hown hmn hts hP hK A hA hD hS ls hl
  have hl : lv_has ls 5 [(0, .ref a), (1, .int (nI i)), (2, .int (nI j)), (3, .int v)] := hl
  have hP : va_P D vwCl [(a, .inl (cI, n, .inl f))] sX.heap := hP
  have hD : va_D A [(a, .inl (cI, n, .inl f))] := hD
  skip
  refine lv_aload_n hx hb dJ7_fill_fda19_0 rfl (lv_at hl 0 rfl) ?_
  refine va_alen (v := nI n) hx hb hK.1 hP 0 0 rfl rfl rfl dJ7_fill_fda19_1 ?_
  refine lv_iload_n hx hb dJ7_fill_fda19_2 rfl (lv_at hl 1 rfl) ?_
  refine lv_iload_n hx hb dJ7_fill_fda19_3 rfl (lv_at hl 2 rfl) ?_
  refine zk_callSv (As := [.int (nI n), .int (nI i), .int (nI j)]) (rest := []) ⟨hx, hb, hml, hown, hts⟩ hK hP [] rfl (c_rangeCheck l D cI n i j hij hjn hn) (va_cwS 3 hts gJ7_fill_fda19_J7_rangeCheck_23922 rfl rfl rfl hdJ7_rangeCheck_23922 ⟨Nat.le_of_ble_eq_true rfl, Nat.le_of_ble_eq_true rfl⟩) rfl hl.1 rfl (Nat.le_of_ble_eq_true rfl) dJ7_fill_fda19_4 ⟨Nat.le_of_ble_eq_true rfl, Nat.le_of_ble_eq_true rfl⟩ ?_
  refine lv_iload_n hx hb dJ7_fill_fda19_7 rfl (lv_at hl 1 rfl) ?_
  refine lv_istore (lv' := [(4, .int (nI i)), (0, .ref a), (1, .int (nI i)), (2, .int (nI j)), (3, .int v)]) hx hb dJ7_fill_fda19_8 hl (by decide) rfl (fun ls hl => ?_)
  have loop10 : ∀ (nL k : Nat), k ≤ j → j < k + nL → (i ≤ k) → ∀ (H : Heap) (locs : List Loc), va_P D vwCl [(a, .inl (cI, n, .inl (fillR f i k v)))] H → va_D A [(a, .inl (cI, n, .inl (fillR f i k v)))] → va_S A sX.heap H locs → ∀ ls : Array Slot, lv_has ls 5 [(0, .ref a), (1, .int (nI i)), (2, .int (nI j)), (3, .int v), (4, .int (nI k))] → W pX l eX ({ frames := 1, cells := 0, slots := 0, locals := 22 }) sX mX ([.ref a, .int (nI i), .int (nI j), .int v] : List Value).toArray bX tX cX H locs 0 0 (MQ bX (QV (S := Unit) D (fun _ => True) (fun _ => [(a, .inl (cI, n, .inl (fillR f i j v)))]) A) ([.ref a, .int (nI i), .int (nI j), .int v] : List Value).toArray sX 0 0 A) (F0 mX 10 ls []) := by
    intro nL
    induction nL with
    | zero => intro k  h1 h2; exact absurd h2 (by omega)
    | succ nL ih =>
      intro k  h_le h_n hik H locs hP hD hS ls hl
      refine lv_iload hx hb dJ7_fill_fda19_10 (lv_at hl 4 rfl) ?_
      refine lv_iload_n hx hb dJ7_fill_fda19_12 rfl (lv_at hl 2 rfl) ?_
      refine zk_icmp_ge (tgt := 27) hx hb dJ7_fill_fda19_13 (by decide) (by omega) (by omega) (fun c_1 => ?_) (fun c_1 => ?_)
      · have e_k : k = j := by omega
        subst e_k
        exact zk_retV hx hb hr hS (()) (trivial) hP hD dJ7_fill_fda19_27 hlocks
      · refine lv_aload_n hx hb dJ7_fill_fda19_16 rfl (lv_at hl 0 rfl) ?_
        refine lv_iload hx hb dJ7_fill_fda19_17 (lv_at hl 4 rfl) ?_
        refine lv_iload_n hx hb dJ7_fill_fda19_19 rfl (lv_at hl 3 rfl) ?_
        refine zk_iast (x := v) hx hb hK hP hD hS 0 rfl (by omega) (by omega) dJ7_fill_fda19_20 (fun H locs hP hD hS => ?_)
        have hP : va_P D vwCl [(a, .inl (cI, n, .inl (upd (fillR f i k v) k v)))] H := hP
        have hD : va_D A [(a, .inl (cI, n, .inl (upd (fillR f i k v) k v)))] := hD
        refine lv_iinc (v := nI (k + 1)) (lv' := [(4, .int (nI (k + 1))), (0, .ref a), (1, .int (nI i)), (2, .int (nI j)), (3, .int v)]) hx hb dJ7_fill_fda19_21 hl (k := 4) rfl (by rw [show (Int32.ofInt 1) = nI 1 from by decide, nI_add]) (by decide) rfl (fun ls hl => ?_)
        refine lv_goto (tgt := 10) hx hb dJ7_fill_fda19_24 (by decide) ?_
        rw [fillR_s f hik v] at hP hD
        exact ih (k + 1)  (by omega) (by omega) (by omega) _ _ hP hD hS ls (lv_sub hl [1, 2, 3, 4, 0] rfl)
  rw [← fillR_0 f i v] at hP hD
  exact loop10 (j + 1) i  (hij) (by omega) (Nat.le_refl i) _ _ hP hD hS ls (lv_sub hl [1, 2, 3, 4, 0] rfl)
theorem cpy_all {f g : Nat → Int32} {n : Nat} (hn : n < 1000) : ∀ j, j < n → va_cpy f g (nI 0).toNatClampNeg (nI 0).toNatClampNeg (nI n).toNatClampNeg j = f j := by
  intro j hj
  rw [nI_clamp (by omega), nI_clamp (by omega), pk_cpy_in (by omega) (by omega)]
  congr 1
  omega
set_option maxHeartbeats 4000000 in
set_option maxRecDepth 100000 in
theorem c_become (l : Launch) (D : va_G) (cI : ClassId) (sz : Nat) (a0 : Nat) (a1 : Nat) (a2 : Nat) (a3 : Nat) (a4 : Nat) (a5 : Nat) (a6 : Nat) (Y : YS) (st : Nat → Int32) (b0 : Nat) (b1 : Nat) (b2 : Nat) (b3 : Nat) (b4 : Nat) (b5 : Nat) (b6 : Nat) (Z : YS) (zt : Nat → Int32)  : Met l yX2_become wsX2_become ({ frames := 1, cells := 0, slots := 0, locals := 60 }) (PQ D cI [.ref a0, .ref b0] (wRoll cI a0 a1 a2 a3 a4 a5 a6 Y st ++ wRoll cI b0 b1 b2 b3 b4 b5 b6 Z zt) sz) (QV (S := Unit) D (fun _ => True) (fun _ => wRoll cI a0 a1 a2 a3 a4 a5 a6 (Z.sPret (fun _ => nI 0)) st ++ wRoll cI b0 b1 b2 b3 b4 b5 b6 Z zt) (va_A (wRoll cI a0 a1 a2 a3 a4 a5 a6 Y st ++ wRoll cI b0 b1 b2 b3 b4 b5 b6 Z zt) sz)) 0 0 (va_A (wRoll cI a0 a1 a2 a3 a4 a5 a6 Y st ++ wRoll cI b0 b1 b2 b3 b4 b5 b6 Z zt) sz) := by
  refine zk_Q (QV (S := Unit) D (fun _ => True) (fun _ => wRoll cI a0 a1 a2 a3 a4 a5 a6 (Z.sPret (fun _ => nI 0)) st ++ wRoll cI b0 b1 b2 b3 b4 b5 b6 Z zt)) (cc := cX2_become) (maxL := 2) (ret := none) (by decide) rfl (Nat.le_of_ble_eq_true rfl) ?_
  intro pX eX sX mX bX tX cX hx hb hr hlocks hml hown hmn hts hP hK A hA hD hS ls hl
  have hl : lv_has ls 2 [(0, .ref a0), (1, .ref b0)] := hl
  have hP : va_P D vwCl [(a0, .inr (2, [.int (nI Y.D), .int (nI Y.P), .int Y.db, .int Y.rm, .ref a1, .ref a2, .ref a3, .ref a4, .ref a5, .ref a6])), (a1, .inl (cI, 5, .inl Y.hard)), (a2, .inl (cI, 4, .inl Y.kind)), (a3, .inl (cI, 4, .inl Y.wit)), (a4, .inl (cI, 4, .inl Y.pat)), (a5, .inl (cI, 4, .inl Y.pret)), (a6, .inl (cI, 5, .inl st)), (b0, .inr (2, [.int (nI Z.D), .int (nI Z.P), .int Z.db, .int Z.rm, .ref b1, .ref b2, .ref b3, .ref b4, .ref b5, .ref b6])), (b1, .inl (cI, 5, .inl Z.hard)), (b2, .inl (cI, 4, .inl Z.kind)), (b3, .inl (cI, 4, .inl Z.wit)), (b4, .inl (cI, 4, .inl Z.pat)), (b5, .inl (cI, 4, .inl Z.pret)), (b6, .inl (cI, 5, .inl zt))] sX.heap := hP
  have hD : va_D A [(a0, .inr (2, [.int (nI Y.D), .int (nI Y.P), .int Y.db, .int Y.rm, .ref a1, .ref a2, .ref a3, .ref a4, .ref a5, .ref a6])), (a1, .inl (cI, 5, .inl Y.hard)), (a2, .inl (cI, 4, .inl Y.kind)), (a3, .inl (cI, 4, .inl Y.wit)), (a4, .inl (cI, 4, .inl Y.pat)), (a5, .inl (cI, 4, .inl Y.pret)), (a6, .inl (cI, 5, .inl st)), (b0, .inr (2, [.int (nI Z.D), .int (nI Z.P), .int Z.db, .int Z.rm, .ref b1, .ref b2, .ref b3, .ref b4, .ref b5, .ref b6])), (b1, .inl (cI, 5, .inl Z.hard)), (b2, .inl (cI, 4, .inl Z.kind)), (b3, .inl (cI, 4, .inl Z.wit)), (b4, .inl (cI, 4, .inl Z.pat)), (b5, .inl (cI, 4, .inl Z.pret)), (b6, .inl (cI, 5, .inl zt))] := hD
  have f_30 := hts (.fieldLink RX2 30 "DunceSee$Roll" "days" "I") (by decide +kernel)
  have f_34 := hts (.fieldLink RX2 34 "DunceSee$Roll" "pupils" "I") (by decide +kernel)
  have f_37 := hts (.fieldLink RX2 37 "DunceSee$Roll" "doubt" "I") (by decide +kernel)
  have f_40 := hts (.fieldLink RX2 40 "DunceSee$Roll" "room" "I") (by decide +kernel)
  have f_9 := hts (.fieldLink RX2 9 "DunceSee$Roll" "hardOf" "[I") (by decide +kernel)
  have ac_l43 := hts (.methodLink RX2 43 arraycopyName) (by decide +kernel)
  have ac_n := hts (.native arraycopyName) (by decide +kernel)
  have ac_s := hts (.static arraycopyName) (by decide +kernel)
  have ac_i := hts (.initialized "java/lang/System") (by decide +kernel)
  have f_15 := hts (.fieldLink RX2 15 "DunceSee$Roll" "kindOf" "[I") (by decide +kernel)
  have f_18 := hts (.fieldLink RX2 18 "DunceSee$Roll" "witOf" "[I") (by decide +kernel)
  have f_21 := hts (.fieldLink RX2 21 "DunceSee$Roll" "patienceOf" "[I") (by decide +kernel)
  have f_24 := hts (.fieldLink RX2 24 "DunceSee$Roll" "pretendsOf" "[I") (by decide +kernel)
  have inX2 : ∀ w ∈ wsX20, w ∈ wsX2_become := fun w h => List.mem_cons_of_mem _ (List.mem_append_right _ h)
  refine lv_aload_n hx hb dX2_become_0 rfl (lv_at hl 0 rfl) ?_
  refine lv_aload_n hx hb dX2_become_1 rfl (lv_at hl 1 rfl) ?_
  refine va_get (D := D) (ci := 2) (v := .int (nI Z.D)) (C := RX2) (T := TX2) (N := 10) hx hb hts inX2 hown hK.1 hP 7 rfl rfl 0 (by decide) f_30 (fun _ h9 => h9) rfl dX2_become_2 ?_
  refine va_put (D := D) (ci := 2) (v := .int (nI Z.D)) (ty := .int) (C := RX2) (T := TX2) (N := 10) hx hb hts inX2 tyX2 tyX2_ok nmX2 hown hK.1 hP hD hS 0 rfl rfl 0 (by decide) f_30 (fun _ h9 => h9) rfl (by decide +kernel) rfl rfl (Nat.le_of_ble_eq_true rfl) dX2_become_5 (fun H locs hP hD hS => ?_)
  have hP : va_P D vwCl [(a0, .inr (2, [.int (nI Z.D), .int (nI Y.P), .int Y.db, .int Y.rm, .ref a1, .ref a2, .ref a3, .ref a4, .ref a5, .ref a6])), (a1, .inl (cI, 5, .inl Y.hard)), (a2, .inl (cI, 4, .inl Y.kind)), (a3, .inl (cI, 4, .inl Y.wit)), (a4, .inl (cI, 4, .inl Y.pat)), (a5, .inl (cI, 4, .inl Y.pret)), (a6, .inl (cI, 5, .inl st)), (b0, .inr (2, [.int (nI Z.D), .int (nI Z.P), .int Z.db, .int Z.rm, .ref b1, .ref b2, .ref b3, .ref b4, .ref b5, .ref b6])), (b1, .inl (cI, 5, .inl Z.hard)), (b2, .inl (cI, 4, .inl Z.kind)), (b3, .inl (cI, 4, .inl Z.wit)), (b4, .inl (cI, 4, .inl Z.pat)), (b5, .inl (cI, 4, .inl Z.pret)), (b6, .inl (cI, 5, .inl zt))] H := hP
  have hD : va_D A [(a0, .inr (2, [.int (nI Z.D), .int (nI Y.P), .int Y.db, .int Y.rm, .ref a1, .ref a2, .ref a3, .ref a4, .ref a5, .ref a6])), (a1, .inl (cI, 5, .inl Y.hard)), (a2, .inl (cI, 4, .inl Y.kind)), (a3, .inl (cI, 4, .inl Y.wit)), (a4, .inl (cI, 4, .inl Y.pat)), (a5, .inl (cI, 4, .inl Y.pret)), (a6, .inl (cI, 5, .inl st)), (b0, .inr (2, [.int (nI Z.D), .int (nI Z.P), .int Z.db, .int Z.rm, .ref b1, .ref b2, .ref b3, .ref b4, .ref b5, .ref b6])), (b1, .inl (cI, 5, .inl Z.hard)), (b2, .inl (cI, 4, .inl Z.kind)), (b3, .inl (cI, 4, .inl Z.wit)), (b4, .inl (cI, 4, .inl Z.pat)), (b5, .inl (cI, 4, .inl Z.pret)), (b6, .inl (cI, 5, .inl zt))] := hD
  refine lv_aload_n hx hb dX2_become_8 rfl (lv_at hl 0 rfl) ?_
  refine lv_aload_n hx hb dX2_become_9 rfl (lv_at hl 1 rfl) ?_
  refine va_get (D := D) (ci := 2) (v := .int (nI Z.P)) (C := RX2) (T := TX2) (N := 10) hx hb hts inX2 hown hK.1 hP 7 rfl rfl 1 (by decide) f_34 (fun _ h9 => h9) rfl dX2_become_10 ?_
  refine va_put (D := D) (ci := 2) (v := .int (nI Z.P)) (ty := .int) (C := RX2) (T := TX2) (N := 10) hx hb hts inX2 tyX2 tyX2_ok nmX2 hown hK.1 hP hD hS 0 rfl rfl 1 (by decide) f_34 (fun _ h9 => h9) rfl (by decide +kernel) rfl rfl (Nat.le_of_ble_eq_true rfl) dX2_become_13 (fun H locs hP hD hS => ?_)
  have hP : va_P D vwCl [(a0, .inr (2, [.int (nI Z.D), .int (nI Z.P), .int Y.db, .int Y.rm, .ref a1, .ref a2, .ref a3, .ref a4, .ref a5, .ref a6])), (a1, .inl (cI, 5, .inl Y.hard)), (a2, .inl (cI, 4, .inl Y.kind)), (a3, .inl (cI, 4, .inl Y.wit)), (a4, .inl (cI, 4, .inl Y.pat)), (a5, .inl (cI, 4, .inl Y.pret)), (a6, .inl (cI, 5, .inl st)), (b0, .inr (2, [.int (nI Z.D), .int (nI Z.P), .int Z.db, .int Z.rm, .ref b1, .ref b2, .ref b3, .ref b4, .ref b5, .ref b6])), (b1, .inl (cI, 5, .inl Z.hard)), (b2, .inl (cI, 4, .inl Z.kind)), (b3, .inl (cI, 4, .inl Z.wit)), (b4, .inl (cI, 4, .inl Z.pat)), (b5, .inl (cI, 4, .inl Z.pret)), (b6, .inl (cI, 5, .inl zt))] H := hP
  have hD : va_D A [(a0, .inr (2, [.int (nI Z.D), .int (nI Z.P), .int Y.db, .int Y.rm, .ref a1, .ref a2, .ref a3, .ref a4, .ref a5, .ref a6])), (a1, .inl (cI, 5, .inl Y.hard)), (a2, .inl (cI, 4, .inl Y.kind)), (a3, .inl (cI, 4, .inl Y.wit)), (a4, .inl (cI, 4, .inl Y.pat)), (a5, .inl (cI, 4, .inl Y.pret)), (a6, .inl (cI, 5, .inl st)), (b0, .inr (2, [.int (nI Z.D), .int (nI Z.P), .int Z.db, .int Z.rm, .ref b1, .ref b2, .ref b3, .ref b4, .ref b5, .ref b6])), (b1, .inl (cI, 5, .inl Z.hard)), (b2, .inl (cI, 4, .inl Z.kind)), (b3, .inl (cI, 4, .inl Z.wit)), (b4, .inl (cI, 4, .inl Z.pat)), (b5, .inl (cI, 4, .inl Z.pret)), (b6, .inl (cI, 5, .inl zt))] := hD
  refine lv_aload_n hx hb dX2_become_16 rfl (lv_at hl 0 rfl) ?_
  refine lv_aload_n hx hb dX2_become_17 rfl (lv_at hl 1 rfl) ?_
  refine va_get (D := D) (ci := 2) (v := .int Z.db) (C := RX2) (T := TX2) (N := 10) hx hb hts inX2 hown hK.1 hP 7 rfl rfl 2 (by decide) f_37 (fun _ h9 => h9) rfl dX2_become_18 ?_
  refine va_put (D := D) (ci := 2) (v := .int Z.db) (ty := .int) (C := RX2) (T := TX2) (N := 10) hx hb hts inX2 tyX2 tyX2_ok nmX2 hown hK.1 hP hD hS 0 rfl rfl 2 (by decide) f_37 (fun _ h9 => h9) rfl (by decide +kernel) rfl rfl (Nat.le_of_ble_eq_true rfl) dX2_become_21 (fun H locs hP hD hS => ?_)
  have hP : va_P D vwCl [(a0, .inr (2, [.int (nI Z.D), .int (nI Z.P), .int Z.db, .int Y.rm, .ref a1, .ref a2, .ref a3, .ref a4, .ref a5, .ref a6])), (a1, .inl (cI, 5, .inl Y.hard)), (a2, .inl (cI, 4, .inl Y.kind)), (a3, .inl (cI, 4, .inl Y.wit)), (a4, .inl (cI, 4, .inl Y.pat)), (a5, .inl (cI, 4, .inl Y.pret)), (a6, .inl (cI, 5, .inl st)), (b0, .inr (2, [.int (nI Z.D), .int (nI Z.P), .int Z.db, .int Z.rm, .ref b1, .ref b2, .ref b3, .ref b4, .ref b5, .ref b6])), (b1, .inl (cI, 5, .inl Z.hard)), (b2, .inl (cI, 4, .inl Z.kind)), (b3, .inl (cI, 4, .inl Z.wit)), (b4, .inl (cI, 4, .inl Z.pat)), (b5, .inl (cI, 4, .inl Z.pret)), (b6, .inl (cI, 5, .inl zt))] H := hP
  have hD : va_D A [(a0, .inr (2, [.int (nI Z.D), .int (nI Z.P), .int Z.db, .int Y.rm, .ref a1, .ref a2, .ref a3, .ref a4, .ref a5, .ref a6])), (a1, .inl (cI, 5, .inl Y.hard)), (a2, .inl (cI, 4, .inl Y.kind)), (a3, .inl (cI, 4, .inl Y.wit)), (a4, .inl (cI, 4, .inl Y.pat)), (a5, .inl (cI, 4, .inl Y.pret)), (a6, .inl (cI, 5, .inl st)), (b0, .inr (2, [.int (nI Z.D), .int (nI Z.P), .int Z.db, .int Z.rm, .ref b1, .ref b2, .ref b3, .ref b4, .ref b5, .ref b6])), (b1, .inl (cI, 5, .inl Z.hard)), (b2, .inl (cI, 4, .inl Z.kind)), (b3, .inl (cI, 4, .inl Z.wit)), (b4, .inl (cI, 4, .inl Z.pat)), (b5, .inl (cI, 4, .inl Z.pret)), (b6, .inl (cI, 5, .inl zt))] := hD
  refine lv_aload_n hx hb dX2_become_24 rfl (lv_at hl 0 rfl) ?_
  refine lv_aload_n hx hb dX2_become_25 rfl (lv_at hl 1 rfl) ?_
  refine va_get (D := D) (ci := 2) (v := .int Z.rm) (C := RX2) (T := TX2) (N := 10) hx hb hts inX2 hown hK.1 hP 7 rfl rfl 3 (by decide) f_40 (fun _ h9 => h9) rfl dX2_become_26 ?_
  refine va_put (D := D) (ci := 2) (v := .int Z.rm) (ty := .int) (C := RX2) (T := TX2) (N := 10) hx hb hts inX2 tyX2 tyX2_ok nmX2 hown hK.1 hP hD hS 0 rfl rfl 3 (by decide) f_40 (fun _ h9 => h9) rfl (by decide +kernel) rfl rfl (Nat.le_of_ble_eq_true rfl) dX2_become_29 (fun H locs hP hD hS => ?_)
  have hP : va_P D vwCl [(a0, .inr (2, [.int (nI Z.D), .int (nI Z.P), .int Z.db, .int Z.rm, .ref a1, .ref a2, .ref a3, .ref a4, .ref a5, .ref a6])), (a1, .inl (cI, 5, .inl Y.hard)), (a2, .inl (cI, 4, .inl Y.kind)), (a3, .inl (cI, 4, .inl Y.wit)), (a4, .inl (cI, 4, .inl Y.pat)), (a5, .inl (cI, 4, .inl Y.pret)), (a6, .inl (cI, 5, .inl st)), (b0, .inr (2, [.int (nI Z.D), .int (nI Z.P), .int Z.db, .int Z.rm, .ref b1, .ref b2, .ref b3, .ref b4, .ref b5, .ref b6])), (b1, .inl (cI, 5, .inl Z.hard)), (b2, .inl (cI, 4, .inl Z.kind)), (b3, .inl (cI, 4, .inl Z.wit)), (b4, .inl (cI, 4, .inl Z.pat)), (b5, .inl (cI, 4, .inl Z.pret)), (b6, .inl (cI, 5, .inl zt))] H := hP
  have hD : va_D A [(a0, .inr (2, [.int (nI Z.D), .int (nI Z.P), .int Z.db, .int Z.rm, .ref a1, .ref a2, .ref a3, .ref a4, .ref a5, .ref a6])), (a1, .inl (cI, 5, .inl Y.hard)), (a2, .inl (cI, 4, .inl Y.kind)), (a3, .inl (cI, 4, .inl Y.wit)), (a4, .inl (cI, 4, .inl Y.pat)), (a5, .inl (cI, 4, .inl Y.pret)), (a6, .inl (cI, 5, .inl st)), (b0, .inr (2, [.int (nI Z.D), .int (nI Z.P), .int Z.db, .int Z.rm, .ref b1, .ref b2, .ref b3, .ref b4, .ref b5, .ref b6])), (b1, .inl (cI, 5, .inl Z.hard)), (b2, .inl (cI, 4, .inl Z.kind)), (b3, .inl (cI, 4, .inl Z.wit)), (b4, .inl (cI, 4, .inl Z.pat)), (b5, .inl (cI, 4, .inl Z.pret)), (b6, .inl (cI, 5, .inl zt))] := hD
  refine lv_aload_n hx hb dX2_become_32 rfl (lv_at hl 1 rfl) ?_
  refine va_get (D := D) (ci := 2) (v := .ref b1) (C := RX2) (T := TX2) (N := 10) hx hb hts inX2 hown hK.1 hP 7 rfl rfl 4 (by decide) f_9 (fun _ h9 => h9) rfl dX2_become_33 ?_
  refine lv_iconst (v := nI 0) hx hb dX2_become_36 (by decide) ?_
  refine lv_aload_n hx hb dX2_become_37 rfl (lv_at hl 0 rfl) ?_
  refine va_get (D := D) (ci := 2) (v := .ref a1) (C := RX2) (T := TX2) (N := 10) hx hb hts inX2 hown hK.1 hP 0 rfl rfl 4 (by decide) f_9 (fun _ h9 => h9) rfl dX2_become_38 ?_
  refine lv_iconst (v := nI 0) hx hb dX2_become_41 (by decide) ?_
  refine lv_iconst (v := nI 5) hx hb dX2_become_42 (by decide) ?_
  refine va_copyi (ty := .int) (f := Z.hard) (g := Y.hard) hx hb (by rw [hml]; exact hl.1.symm) hown ac_l43 ac_n ac_s ac_i hK.1 hP hD hS 8 1 0 0 rfl rfl rfl rfl rfl (by decide) (by decide) (by decide) (by decide) (by decide) (fun _ _ => rfl) (by decide) (by decide) dX2_become_43 (fun H locs hP hD hS => ?_)
  have hP : va_P D vwCl [(a0, .inr (2, [.int (nI Z.D), .int (nI Z.P), .int Z.db, .int Z.rm, .ref a1, .ref a2, .ref a3, .ref a4, .ref a5, .ref a6])), (a1, .inl (cI, 5, .inl (va_cpy Z.hard Y.hard (nI 0).toNatClampNeg (nI 0).toNatClampNeg (nI 5).toNatClampNeg))), (a2, .inl (cI, 4, .inl Y.kind)), (a3, .inl (cI, 4, .inl Y.wit)), (a4, .inl (cI, 4, .inl Y.pat)), (a5, .inl (cI, 4, .inl Y.pret)), (a6, .inl (cI, 5, .inl st)), (b0, .inr (2, [.int (nI Z.D), .int (nI Z.P), .int Z.db, .int Z.rm, .ref b1, .ref b2, .ref b3, .ref b4, .ref b5, .ref b6])), (b1, .inl (cI, 5, .inl Z.hard)), (b2, .inl (cI, 4, .inl Z.kind)), (b3, .inl (cI, 4, .inl Z.wit)), (b4, .inl (cI, 4, .inl Z.pat)), (b5, .inl (cI, 4, .inl Z.pret)), (b6, .inl (cI, 5, .inl zt))] H := hP
  have hD : va_D A [(a0, .inr (2, [.int (nI Z.D), .int (nI Z.P), .int Z.db, .int Z.rm, .ref a1, .ref a2, .ref a3, .ref a4, .ref a5, .ref a6])), (a1, .inl (cI, 5, .inl (va_cpy Z.hard Y.hard (nI 0).toNatClampNeg (nI 0).toNatClampNeg (nI 5).toNatClampNeg))), (a2, .inl (cI, 4, .inl Y.kind)), (a3, .inl (cI, 4, .inl Y.wit)), (a4, .inl (cI, 4, .inl Y.pat)), (a5, .inl (cI, 4, .inl Y.pret)), (a6, .inl (cI, 5, .inl st)), (b0, .inr (2, [.int (nI Z.D), .int (nI Z.P), .int Z.db, .int Z.rm, .ref b1, .ref b2, .ref b3, .ref b4, .ref b5, .ref b6])), (b1, .inl (cI, 5, .inl Z.hard)), (b2, .inl (cI, 4, .inl Z.kind)), (b3, .inl (cI, 4, .inl Z.wit)), (b4, .inl (cI, 4, .inl Z.pat)), (b5, .inl (cI, 4, .inl Z.pret)), (b6, .inl (cI, 5, .inl zt))] := hD
  have hP := zk_arr (g := Z.hard) hP (k := 1) rfl (cpy_all (n := 5) (by omega))
  have hD := zk_arrD (g := Z.hard) hD (k := 1) rfl
  have hP : va_P D vwCl [(a0, .inr (2, [.int (nI Z.D), .int (nI Z.P), .int Z.db, .int Z.rm, .ref a1, .ref a2, .ref a3, .ref a4, .ref a5, .ref a6])), (a1, .inl (cI, 5, .inl Z.hard)), (a2, .inl (cI, 4, .inl Y.kind)), (a3, .inl (cI, 4, .inl Y.wit)), (a4, .inl (cI, 4, .inl Y.pat)), (a5, .inl (cI, 4, .inl Y.pret)), (a6, .inl (cI, 5, .inl st)), (b0, .inr (2, [.int (nI Z.D), .int (nI Z.P), .int Z.db, .int Z.rm, .ref b1, .ref b2, .ref b3, .ref b4, .ref b5, .ref b6])), (b1, .inl (cI, 5, .inl Z.hard)), (b2, .inl (cI, 4, .inl Z.kind)), (b3, .inl (cI, 4, .inl Z.wit)), (b4, .inl (cI, 4, .inl Z.pat)), (b5, .inl (cI, 4, .inl Z.pret)), (b6, .inl (cI, 5, .inl zt))] H := hP
  have hD : va_D A [(a0, .inr (2, [.int (nI Z.D), .int (nI Z.P), .int Z.db, .int Z.rm, .ref a1, .ref a2, .ref a3, .ref a4, .ref a5, .ref a6])), (a1, .inl (cI, 5, .inl Z.hard)), (a2, .inl (cI, 4, .inl Y.kind)), (a3, .inl (cI, 4, .inl Y.wit)), (a4, .inl (cI, 4, .inl Y.pat)), (a5, .inl (cI, 4, .inl Y.pret)), (a6, .inl (cI, 5, .inl st)), (b0, .inr (2, [.int (nI Z.D), .int (nI Z.P), .int Z.db, .int Z.rm, .ref b1, .ref b2, .ref b3, .ref b4, .ref b5, .ref b6])), (b1, .inl (cI, 5, .inl Z.hard)), (b2, .inl (cI, 4, .inl Z.kind)), (b3, .inl (cI, 4, .inl Z.wit)), (b4, .inl (cI, 4, .inl Z.pat)), (b5, .inl (cI, 4, .inl Z.pret)), (b6, .inl (cI, 5, .inl zt))] := hD
  refine lv_aload_n hx hb dX2_become_46 rfl (lv_at hl 1 rfl) ?_
  refine va_get (D := D) (ci := 2) (v := .ref b2) (C := RX2) (T := TX2) (N := 10) hx hb hts inX2 hown hK.1 hP 7 rfl rfl 5 (by decide) f_15 (fun _ h9 => h9) rfl dX2_become_47 ?_
  refine lv_iconst (v := nI 0) hx hb dX2_become_50 (by decide) ?_
  refine lv_aload_n hx hb dX2_become_51 rfl (lv_at hl 0 rfl) ?_
  refine va_get (D := D) (ci := 2) (v := .ref a2) (C := RX2) (T := TX2) (N := 10) hx hb hts inX2 hown hK.1 hP 0 rfl rfl 5 (by decide) f_15 (fun _ h9 => h9) rfl dX2_become_52 ?_
  refine lv_iconst (v := nI 0) hx hb dX2_become_55 (by decide) ?_
  refine lv_iconst (v := nI 4) hx hb dX2_become_56 (by decide) ?_
  refine va_copyi (ty := .int) (f := Z.kind) (g := Y.kind) hx hb (by rw [hml]; exact hl.1.symm) hown ac_l43 ac_n ac_s ac_i hK.1 hP hD hS 9 2 0 0 rfl rfl rfl rfl rfl (by decide) (by decide) (by decide) (by decide) (by decide) (fun _ _ => rfl) (by decide) (by decide) dX2_become_57 (fun H locs hP hD hS => ?_)
  have hP : va_P D vwCl [(a0, .inr (2, [.int (nI Z.D), .int (nI Z.P), .int Z.db, .int Z.rm, .ref a1, .ref a2, .ref a3, .ref a4, .ref a5, .ref a6])), (a1, .inl (cI, 5, .inl Z.hard)), (a2, .inl (cI, 4, .inl (va_cpy Z.kind Y.kind (nI 0).toNatClampNeg (nI 0).toNatClampNeg (nI 4).toNatClampNeg))), (a3, .inl (cI, 4, .inl Y.wit)), (a4, .inl (cI, 4, .inl Y.pat)), (a5, .inl (cI, 4, .inl Y.pret)), (a6, .inl (cI, 5, .inl st)), (b0, .inr (2, [.int (nI Z.D), .int (nI Z.P), .int Z.db, .int Z.rm, .ref b1, .ref b2, .ref b3, .ref b4, .ref b5, .ref b6])), (b1, .inl (cI, 5, .inl Z.hard)), (b2, .inl (cI, 4, .inl Z.kind)), (b3, .inl (cI, 4, .inl Z.wit)), (b4, .inl (cI, 4, .inl Z.pat)), (b5, .inl (cI, 4, .inl Z.pret)), (b6, .inl (cI, 5, .inl zt))] H := hP
  have hD : va_D A [(a0, .inr (2, [.int (nI Z.D), .int (nI Z.P), .int Z.db, .int Z.rm, .ref a1, .ref a2, .ref a3, .ref a4, .ref a5, .ref a6])), (a1, .inl (cI, 5, .inl Z.hard)), (a2, .inl (cI, 4, .inl (va_cpy Z.kind Y.kind (nI 0).toNatClampNeg (nI 0).toNatClampNeg (nI 4).toNatClampNeg))), (a3, .inl (cI, 4, .inl Y.wit)), (a4, .inl (cI, 4, .inl Y.pat)), (a5, .inl (cI, 4, .inl Y.pret)), (a6, .inl (cI, 5, .inl st)), (b0, .inr (2, [.int (nI Z.D), .int (nI Z.P), .int Z.db, .int Z.rm, .ref b1, .ref b2, .ref b3, .ref b4, .ref b5, .ref b6])), (b1, .inl (cI, 5, .inl Z.hard)), (b2, .inl (cI, 4, .inl Z.kind)), (b3, .inl (cI, 4, .inl Z.wit)), (b4, .inl (cI, 4, .inl Z.pat)), (b5, .inl (cI, 4, .inl Z.pret)), (b6, .inl (cI, 5, .inl zt))] := hD
  have hP := zk_arr (g := Z.kind) hP (k := 2) rfl (cpy_all (n := 4) (by omega))
  have hD := zk_arrD (g := Z.kind) hD (k := 2) rfl
  have hP : va_P D vwCl [(a0, .inr (2, [.int (nI Z.D), .int (nI Z.P), .int Z.db, .int Z.rm, .ref a1, .ref a2, .ref a3, .ref a4, .ref a5, .ref a6])), (a1, .inl (cI, 5, .inl Z.hard)), (a2, .inl (cI, 4, .inl Z.kind)), (a3, .inl (cI, 4, .inl Y.wit)), (a4, .inl (cI, 4, .inl Y.pat)), (a5, .inl (cI, 4, .inl Y.pret)), (a6, .inl (cI, 5, .inl st)), (b0, .inr (2, [.int (nI Z.D), .int (nI Z.P), .int Z.db, .int Z.rm, .ref b1, .ref b2, .ref b3, .ref b4, .ref b5, .ref b6])), (b1, .inl (cI, 5, .inl Z.hard)), (b2, .inl (cI, 4, .inl Z.kind)), (b3, .inl (cI, 4, .inl Z.wit)), (b4, .inl (cI, 4, .inl Z.pat)), (b5, .inl (cI, 4, .inl Z.pret)), (b6, .inl (cI, 5, .inl zt))] H := hP
  have hD : va_D A [(a0, .inr (2, [.int (nI Z.D), .int (nI Z.P), .int Z.db, .int Z.rm, .ref a1, .ref a2, .ref a3, .ref a4, .ref a5, .ref a6])), (a1, .inl (cI, 5, .inl Z.hard)), (a2, .inl (cI, 4, .inl Z.kind)), (a3, .inl (cI, 4, .inl Y.wit)), (a4, .inl (cI, 4, .inl Y.pat)), (a5, .inl (cI, 4, .inl Y.pret)), (a6, .inl (cI, 5, .inl st)), (b0, .inr (2, [.int (nI Z.D), .int (nI Z.P), .int Z.db, .int Z.rm, .ref b1, .ref b2, .ref b3, .ref b4, .ref b5, .ref b6])), (b1, .inl (cI, 5, .inl Z.hard)), (b2, .inl (cI, 4, .inl Z.kind)), (b3, .inl (cI, 4, .inl Z.wit)), (b4, .inl (cI, 4, .inl Z.pat)), (b5, .inl (cI, 4, .inl Z.pret)), (b6, .inl (cI, 5, .inl zt))] := hD
  refine lv_aload_n hx hb dX2_become_60 rfl (lv_at hl 1 rfl) ?_
  refine va_get (D := D) (ci := 2) (v := .ref b3) (C := RX2) (T := TX2) (N := 10) hx hb hts inX2 hown hK.1 hP 7 rfl rfl 6 (by decide) f_18 (fun _ h9 => h9) rfl dX2_become_61 ?_
  refine lv_iconst (v := nI 0) hx hb dX2_become_64 (by decide) ?_
  refine lv_aload_n hx hb dX2_become_65 rfl (lv_at hl 0 rfl) ?_
  refine va_get (D := D) (ci := 2) (v := .ref a3) (C := RX2) (T := TX2) (N := 10) hx hb hts inX2 hown hK.1 hP 0 rfl rfl 6 (by decide) f_18 (fun _ h9 => h9) rfl dX2_become_66 ?_
  refine lv_iconst (v := nI 0) hx hb dX2_become_69 (by decide) ?_
  refine lv_iconst (v := nI 4) hx hb dX2_become_70 (by decide) ?_
  refine va_copyi (ty := .int) (f := Z.wit) (g := Y.wit) hx hb (by rw [hml]; exact hl.1.symm) hown ac_l43 ac_n ac_s ac_i hK.1 hP hD hS 10 3 0 0 rfl rfl rfl rfl rfl (by decide) (by decide) (by decide) (by decide) (by decide) (fun _ _ => rfl) (by decide) (by decide) dX2_become_71 (fun H locs hP hD hS => ?_)
  have hP : va_P D vwCl [(a0, .inr (2, [.int (nI Z.D), .int (nI Z.P), .int Z.db, .int Z.rm, .ref a1, .ref a2, .ref a3, .ref a4, .ref a5, .ref a6])), (a1, .inl (cI, 5, .inl Z.hard)), (a2, .inl (cI, 4, .inl Z.kind)), (a3, .inl (cI, 4, .inl (va_cpy Z.wit Y.wit (nI 0).toNatClampNeg (nI 0).toNatClampNeg (nI 4).toNatClampNeg))), (a4, .inl (cI, 4, .inl Y.pat)), (a5, .inl (cI, 4, .inl Y.pret)), (a6, .inl (cI, 5, .inl st)), (b0, .inr (2, [.int (nI Z.D), .int (nI Z.P), .int Z.db, .int Z.rm, .ref b1, .ref b2, .ref b3, .ref b4, .ref b5, .ref b6])), (b1, .inl (cI, 5, .inl Z.hard)), (b2, .inl (cI, 4, .inl Z.kind)), (b3, .inl (cI, 4, .inl Z.wit)), (b4, .inl (cI, 4, .inl Z.pat)), (b5, .inl (cI, 4, .inl Z.pret)), (b6, .inl (cI, 5, .inl zt))] H := hP
  have hD : va_D A [(a0, .inr (2, [.int (nI Z.D), .int (nI Z.P), .int Z.db, .int Z.rm, .ref a1, .ref a2, .ref a3, .ref a4, .ref a5, .ref a6])), (a1, .inl (cI, 5, .inl Z.hard)), (a2, .inl (cI, 4, .inl Z.kind)), (a3, .inl (cI, 4, .inl (va_cpy Z.wit Y.wit (nI 0).toNatClampNeg (nI 0).toNatClampNeg (nI 4).toNatClampNeg))), (a4, .inl (cI, 4, .inl Y.pat)), (a5, .inl (cI, 4, .inl Y.pret)), (a6, .inl (cI, 5, .inl st)), (b0, .inr (2, [.int (nI Z.D), .int (nI Z.P), .int Z.db, .int Z.rm, .ref b1, .ref b2, .ref b3, .ref b4, .ref b5, .ref b6])), (b1, .inl (cI, 5, .inl Z.hard)), (b2, .inl (cI, 4, .inl Z.kind)), (b3, .inl (cI, 4, .inl Z.wit)), (b4, .inl (cI, 4, .inl Z.pat)), (b5, .inl (cI, 4, .inl Z.pret)), (b6, .inl (cI, 5, .inl zt))] := hD
  have hP := zk_arr (g := Z.wit) hP (k := 3) rfl (cpy_all (n := 4) (by omega))
  have hD := zk_arrD (g := Z.wit) hD (k := 3) rfl
  have hP : va_P D vwCl [(a0, .inr (2, [.int (nI Z.D), .int (nI Z.P), .int Z.db, .int Z.rm, .ref a1, .ref a2, .ref a3, .ref a4, .ref a5, .ref a6])), (a1, .inl (cI, 5, .inl Z.hard)), (a2, .inl (cI, 4, .inl Z.kind)), (a3, .inl (cI, 4, .inl Z.wit)), (a4, .inl (cI, 4, .inl Y.pat)), (a5, .inl (cI, 4, .inl Y.pret)), (a6, .inl (cI, 5, .inl st)), (b0, .inr (2, [.int (nI Z.D), .int (nI Z.P), .int Z.db, .int Z.rm, .ref b1, .ref b2, .ref b3, .ref b4, .ref b5, .ref b6])), (b1, .inl (cI, 5, .inl Z.hard)), (b2, .inl (cI, 4, .inl Z.kind)), (b3, .inl (cI, 4, .inl Z.wit)), (b4, .inl (cI, 4, .inl Z.pat)), (b5, .inl (cI, 4, .inl Z.pret)), (b6, .inl (cI, 5, .inl zt))] H := hP
  have hD : va_D A [(a0, .inr (2, [.int (nI Z.D), .int (nI Z.P), .int Z.db, .int Z.rm, .ref a1, .ref a2, .ref a3, .ref a4, .ref a5, .ref a6])), (a1, .inl (cI, 5, .inl Z.hard)), (a2, .inl (cI, 4, .inl Z.kind)), (a3, .inl (cI, 4, .inl Z.wit)), (a4, .inl (cI, 4, .inl Y.pat)), (a5, .inl (cI, 4, .inl Y.pret)), (a6, .inl (cI, 5, .inl st)), (b0, .inr (2, [.int (nI Z.D), .int (nI Z.P), .int Z.db, .int Z.rm, .ref b1, .ref b2, .ref b3, .ref b4, .ref b5, .ref b6])), (b1, .inl (cI, 5, .inl Z.hard)), (b2, .inl (cI, 4, .inl Z.kind)), (b3, .inl (cI, 4, .inl Z.wit)), (b4, .inl (cI, 4, .inl Z.pat)), (b5, .inl (cI, 4, .inl Z.pret)), (b6, .inl (cI, 5, .inl zt))] := hD
  refine lv_aload_n hx hb dX2_become_74 rfl (lv_at hl 1 rfl) ?_
  refine va_get (D := D) (ci := 2) (v := .ref b4) (C := RX2) (T := TX2) (N := 10) hx hb hts inX2 hown hK.1 hP 7 rfl rfl 7 (by decide) f_21 (fun _ h9 => h9) rfl dX2_become_75 ?_
  refine lv_iconst (v := nI 0) hx hb dX2_become_78 (by decide) ?_
  refine lv_aload_n hx hb dX2_become_79 rfl (lv_at hl 0 rfl) ?_
  refine va_get (D := D) (ci := 2) (v := .ref a4) (C := RX2) (T := TX2) (N := 10) hx hb hts inX2 hown hK.1 hP 0 rfl rfl 7 (by decide) f_21 (fun _ h9 => h9) rfl dX2_become_80 ?_
  refine lv_iconst (v := nI 0) hx hb dX2_become_83 (by decide) ?_
  refine lv_iconst (v := nI 4) hx hb dX2_become_84 (by decide) ?_
  refine va_copyi (ty := .int) (f := Z.pat) (g := Y.pat) hx hb (by rw [hml]; exact hl.1.symm) hown ac_l43 ac_n ac_s ac_i hK.1 hP hD hS 11 4 0 0 rfl rfl rfl rfl rfl (by decide) (by decide) (by decide) (by decide) (by decide) (fun _ _ => rfl) (by decide) (by decide) dX2_become_85 (fun H locs hP hD hS => ?_)
  have hP : va_P D vwCl [(a0, .inr (2, [.int (nI Z.D), .int (nI Z.P), .int Z.db, .int Z.rm, .ref a1, .ref a2, .ref a3, .ref a4, .ref a5, .ref a6])), (a1, .inl (cI, 5, .inl Z.hard)), (a2, .inl (cI, 4, .inl Z.kind)), (a3, .inl (cI, 4, .inl Z.wit)), (a4, .inl (cI, 4, .inl (va_cpy Z.pat Y.pat (nI 0).toNatClampNeg (nI 0).toNatClampNeg (nI 4).toNatClampNeg))), (a5, .inl (cI, 4, .inl Y.pret)), (a6, .inl (cI, 5, .inl st)), (b0, .inr (2, [.int (nI Z.D), .int (nI Z.P), .int Z.db, .int Z.rm, .ref b1, .ref b2, .ref b3, .ref b4, .ref b5, .ref b6])), (b1, .inl (cI, 5, .inl Z.hard)), (b2, .inl (cI, 4, .inl Z.kind)), (b3, .inl (cI, 4, .inl Z.wit)), (b4, .inl (cI, 4, .inl Z.pat)), (b5, .inl (cI, 4, .inl Z.pret)), (b6, .inl (cI, 5, .inl zt))] H := hP
  have hD : va_D A [(a0, .inr (2, [.int (nI Z.D), .int (nI Z.P), .int Z.db, .int Z.rm, .ref a1, .ref a2, .ref a3, .ref a4, .ref a5, .ref a6])), (a1, .inl (cI, 5, .inl Z.hard)), (a2, .inl (cI, 4, .inl Z.kind)), (a3, .inl (cI, 4, .inl Z.wit)), (a4, .inl (cI, 4, .inl (va_cpy Z.pat Y.pat (nI 0).toNatClampNeg (nI 0).toNatClampNeg (nI 4).toNatClampNeg))), (a5, .inl (cI, 4, .inl Y.pret)), (a6, .inl (cI, 5, .inl st)), (b0, .inr (2, [.int (nI Z.D), .int (nI Z.P), .int Z.db, .int Z.rm, .ref b1, .ref b2, .ref b3, .ref b4, .ref b5, .ref b6])), (b1, .inl (cI, 5, .inl Z.hard)), (b2, .inl (cI, 4, .inl Z.kind)), (b3, .inl (cI, 4, .inl Z.wit)), (b4, .inl (cI, 4, .inl Z.pat)), (b5, .inl (cI, 4, .inl Z.pret)), (b6, .inl (cI, 5, .inl zt))] := hD
  have hP := zk_arr (g := Z.pat) hP (k := 4) rfl (cpy_all (n := 4) (by omega))
  have hD := zk_arrD (g := Z.pat) hD (k := 4) rfl
  have hP : va_P D vwCl [(a0, .inr (2, [.int (nI Z.D), .int (nI Z.P), .int Z.db, .int Z.rm, .ref a1, .ref a2, .ref a3, .ref a4, .ref a5, .ref a6])), (a1, .inl (cI, 5, .inl Z.hard)), (a2, .inl (cI, 4, .inl Z.kind)), (a3, .inl (cI, 4, .inl Z.wit)), (a4, .inl (cI, 4, .inl Z.pat)), (a5, .inl (cI, 4, .inl Y.pret)), (a6, .inl (cI, 5, .inl st)), (b0, .inr (2, [.int (nI Z.D), .int (nI Z.P), .int Z.db, .int Z.rm, .ref b1, .ref b2, .ref b3, .ref b4, .ref b5, .ref b6])), (b1, .inl (cI, 5, .inl Z.hard)), (b2, .inl (cI, 4, .inl Z.kind)), (b3, .inl (cI, 4, .inl Z.wit)), (b4, .inl (cI, 4, .inl Z.pat)), (b5, .inl (cI, 4, .inl Z.pret)), (b6, .inl (cI, 5, .inl zt))] H := hP
  have hD : va_D A [(a0, .inr (2, [.int (nI Z.D), .int (nI Z.P), .int Z.db, .int Z.rm, .ref a1, .ref a2, .ref a3, .ref a4, .ref a5, .ref a6])), (a1, .inl (cI, 5, .inl Z.hard)), (a2, .inl (cI, 4, .inl Z.kind)), (a3, .inl (cI, 4, .inl Z.wit)), (a4, .inl (cI, 4, .inl Z.pat)), (a5, .inl (cI, 4, .inl Y.pret)), (a6, .inl (cI, 5, .inl st)), (b0, .inr (2, [.int (nI Z.D), .int (nI Z.P), .int Z.db, .int Z.rm, .ref b1, .ref b2, .ref b3, .ref b4, .ref b5, .ref b6])), (b1, .inl (cI, 5, .inl Z.hard)), (b2, .inl (cI, 4, .inl Z.kind)), (b3, .inl (cI, 4, .inl Z.wit)), (b4, .inl (cI, 4, .inl Z.pat)), (b5, .inl (cI, 4, .inl Z.pret)), (b6, .inl (cI, 5, .inl zt))] := hD
  refine lv_aload_n hx hb dX2_become_88 rfl (lv_at hl 0 rfl) ?_
  refine va_get (D := D) (ci := 2) (v := .ref a5) (C := RX2) (T := TX2) (N := 10) hx hb hts inX2 hown hK.1 hP 0 rfl rfl 8 (by decide) f_24 (fun _ h9 => h9) rfl dX2_become_89 ?_
  refine lv_iconst (v := nI 0) hx hb dX2_become_92 (by decide) ?_
  refine zk_effSv (As := [.ref a5, .int (nI 0)]) (rest := []) (S := Unit) (fun _ => True) (fun _ => [(a5, .inl (cI, 4, .inl (fun _ => (nI 0))))]) ⟨hx, hb, hml, hown, hts⟩ hK hP hD hS hA [5] [0, 1, 2, 3, 4, 6, 7, 8, 9, 10, 11, 12, 13] (wc := [(a5, .inl (cI, 4, .inl Y.pret))]) (wr := [(a0, .inr (2, [.int (nI Z.D), .int (nI Z.P), .int Z.db, .int Z.rm, .ref a1, .ref a2, .ref a3, .ref a4, .ref a5, .ref a6])), (a1, .inl (cI, 5, .inl Z.hard)), (a2, .inl (cI, 4, .inl Z.kind)), (a3, .inl (cI, 4, .inl Z.wit)), (a4, .inl (cI, 4, .inl Z.pat)), (a6, .inl (cI, 5, .inl st)), (b0, .inr (2, [.int (nI Z.D), .int (nI Z.P), .int Z.db, .int Z.rm, .ref b1, .ref b2, .ref b3, .ref b4, .ref b5, .ref b6])), (b1, .inl (cI, 5, .inl Z.hard)), (b2, .inl (cI, 4, .inl Z.kind)), (b3, .inl (cI, 4, .inl Z.wit)), (b4, .inl (cI, 4, .inl Z.pat)), (b5, .inl (cI, 4, .inl Z.pret)), (b6, .inl (cI, 5, .inl zt))]) rfl rfl (by decide) (by decide) (by decide) [0, 1, 2, 3, 4, 13, 5, 6, 7, 8, 9, 10, 11, 12] (fun (_ : Unit) => [(a0, .inr (2, [.int (nI Z.D), .int (nI Z.P), .int Z.db, .int Z.rm, .ref a1, .ref a2, .ref a3, .ref a4, .ref a5, .ref a6])), (a1, .inl (cI, 5, .inl Z.hard)), (a2, .inl (cI, 4, .inl Z.kind)), (a3, .inl (cI, 4, .inl Z.wit)), (a4, .inl (cI, 4, .inl Z.pat)), (a5, .inl (cI, 4, .inl (fun _ => (nI 0)))), (a6, .inl (cI, 5, .inl st)), (b0, .inr (2, [.int (nI Z.D), .int (nI Z.P), .int Z.db, .int Z.rm, .ref b1, .ref b2, .ref b3, .ref b4, .ref b5, .ref b6])), (b1, .inl (cI, 5, .inl Z.hard)), (b2, .inl (cI, 4, .inl Z.kind)), (b3, .inl (cI, 4, .inl Z.wit)), (b4, .inl (cI, 4, .inl Z.pat)), (b5, .inl (cI, 4, .inl Z.pret)), (b6, .inl (cI, 5, .inl zt))]) (fun _ => rfl) (by decide) (c_fill l D cI H.size a5 4 Y.pret (nI 0) (by omega)) (va_cwS 2 hts gX2_become_J7_fill_53178 rfl rfl rfl hdJ7_fill_53178 ⟨Nat.le_of_ble_eq_true rfl, Nat.le_of_ble_eq_true rfl⟩) rfl hl.1 rfl (Nat.le_of_ble_eq_true rfl) dX2_become_93 ⟨Nat.le_of_ble_eq_true rfl, Nat.le_of_ble_eq_true rfl⟩ (fun _ H locs hw_2 hP hD hS => ?_)
  exact zk_retV hx hb hr hS (()) (trivial) hP hD dX2_become_96 hlocks
