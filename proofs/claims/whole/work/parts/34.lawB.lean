theorem sub6 {L i : Nat} (hL : L ≤ 384) (hi : i ≤ 390) (h : nI i ≤ nI L - nI 6) : i + 6 ≤ L := by
  by_cases q : 6 ≤ L
  · rw [pk_sub q] at h
    have := (nI_leI (by omega) (by omega)).mp h
    omega
  · have h0 := nI_pos' (n := i) (by omega)
    have h1 : ∀ L, L < 6 → ¬ (0 : Int32) ≤ nI L - nI 6 := by decide
    exact absurd (Int32.le_trans h0 h) (h1 L (by omega))
theorem zk_nx_in : ∀ w ∈ zk_nx, w ∈ lw_tbl := by decide +kernel
theorem zk_start {s : State} {A : Array Value} (hts : ∀ w ∈ lw_tbl, w.before A s = true) : zk_Nx s := fun w hw => by
  have h1 := zk_nx_ok w hw
  have h2 := hts w (zk_nx_in w hw)
  unfold zk_nxo at h1
  split at h1
  · exact va_Nw.of rfl h2
  · exact va_Nw.of rfl h2
  · cases h1
theorem Kx_start {s : State} {A : Array Value} (hts : ∀ w ∈ lw_tbl, w.before A s = true) : ∃ (D : va_G) (cI : ClassId), Kx D cI s := by
  obtain ⟨c0, i0, h_0⟩ := u_known (C := RX0) (T := TX0) (N := 2) (n := 2) hts inX0 (hts (.instantiable RX0 2) (by decide +kernel))
  obtain ⟨c1, i1, h_1⟩ := u_known (C := RX1) (T := TX1) (N := 4) (n := 4) hts inX1 (hts (.instantiable RX1 4) (by decide +kernel))
  obtain ⟨c2, i2, h_2⟩ := u_known (C := RX2) (T := TX2) (N := 10) (n := 10) hts inX2 (hts (.instantiable RX2 10) (by decide +kernel))
  obtain ⟨c3, i3, h_3⟩ := u_known (C := RX3) (T := TX3) (N := 3) (n := 3) hts inX3 (hts (.instantiable RX3 3) (by decide +kernel))
  obtain ⟨c4, i4, h_4⟩ := u_known (C := RX4) (T := TX4) (N := 7) (n := 7) hts inX4 (hts (.instantiable RX4 7) (by decide +kernel))
  obtain ⟨c5, i5, h_5⟩ := u_known (C := RX5) (T := TX5) (N := 27) (n := 27) hts inX5 (hts (.instantiable RX5 27) (by decide +kernel))
  obtain ⟨cA, kA, comp, h1, h2, h3⟩ := Cond.arrayClass_spec (hts (.arrayClass .int) (by decide +kernel))
  refine ⟨(fun k => if k = 0 then c0 else if k = 1 then c1 else if k = 2 then c2 else if k = 3 then c3 else if k = 4 then c4 else c5, fun k => if k = 0 then i0 else if k = 1 then i1 else if k = 2 then i2 else if k = 3 then i3 else if k = 4 then i4 else i5), cA, ⟨?_, ?_⟩, zk_start hts⟩
  · intro k q hq
    match k, hq with
    | 0, hq => cases hq; exact h_0
    | 1, hq => cases hq; exact h_1
    | 2, hq => cases hq; exact h_2
    | 3, hq => cases hq; exact h_3
    | 4, hq => cases hq; exact h_4
    | 5, hq => cases hq; exact h_5
    | k + 6, hq => simp [vwCl] at hq
  · intro k q hq
    match k, hq with
    | 0, hq => cases hq; exact ⟨fun n z => ⟨fun k h => (by cases h), kA, h2, comp, h3⟩, h1⟩
    | k + 1, hq => simp at hq
theorem hdX4_init : yX4_init.cls ≠ "java/lang/invoke/MethodHandle" ∧ yX4_init.cls ≠ "java/lang/invoke/VarHandle" ∧ (parseMethodDescriptor yX4_init.desc).map (fun d => d.parameters.length) = some 0 := by decide +kernel
theorem hdX5_init : yX5_init.cls ≠ "java/lang/invoke/MethodHandle" ∧ yX5_init.cls ≠ "java/lang/invoke/VarHandle" ∧ (parseMethodDescriptor yX5_init.desc).map (fun d => d.parameters.length) = some 0 := by decide +kernel
set_option maxHeartbeats 4000000 in
set_option maxRecDepth 100000 in
theorem law_loop {p : Program} {e : Env} {s : State} {m : MethodId} {below : List Frame} {meth : Method} {c : Code} (l : Launch) {b L : Nat} {xs : Nat → Int32} (hL : L ≤ 384) (C0 : lw_At p s m meth c b L xs) (D : va_G) (cI : ClassId) (hK : Kx D cI s) (x0 x1 x2 x3 x4 x5 x6 x7 x8 x9 x10 x11 x12 x13 x14 x15 x16 x17 x18 x19 x20 x21 x22 x23 x24 x25 x26 x27 x28 x29 x30 m0 m1 m2 m3 m4 m5 m6 m7 m8 m9 m10 m11 m12 m13 m14 m15 : Nat) : ∀ (n i : Nat) (T : YS) (ts : Nat → Int32) (Y : YS) (ys : Nat → Int32) (sE : Nat) (E : YS) (es : Nat → Int32) (ct : Nat) (wh : Nat → Nat) (wn : Nat → Nat) (hs : Nat → Int32) (cl : Nat → Int32) (ln : Nat → Int32) (sz0 : Nat → Int32) (tr : Int32) (fl : Int32) (fm : Int32) (tm : Int32) (at1 : Nat) (rdb : Int32) (rrm : Int32) (rD : Nat) (rP : Nat) (mt : Nat) (M : YS) (so : Nat → Int32) (lg : Nat → Int32) (mc : Nat → Int32) (rh : Nat → Int32) (rk : Nat → Int32) (rw : Nat → Int32) (rp : Nat → Int32) (mw : Nat → Nat) (mn : Nat → Nat) (mh : Nat → Int32), i ≤ L + 6 → L + 7 ≤ i + n → (RT T M) → (RR T ct wh wn hs mt mw mn mh) → (SR cl ln sz0 mc so lg) → (tr = tm) → (fl = fm) → ∀ (H : Heap) (locs : List Loc), va_P D vwCl (wL cI x0 x1 x2 x3 x4 x5 x6 x7 x8 x9 x10 x11 x12 x13 x14 x15 x16 x17 x18 x19 x20 x21 x22 x23 x24 x25 x26 x27 x28 x29 x30 m0 m1 m2 m3 m4 m5 m6 m7 m8 m9 m10 m11 m12 m13 m14 m15 T ts Y ys sE E es ct wh wn hs cl ln sz0 tr fl fm tm at1 rdb rrm rD rP mt M so lg mc rh rk rw rp mw mn mh) H → va_D (fun q : Nat => s.heap.size ≤ q) (wL cI x0 x1 x2 x3 x4 x5 x6 x7 x8 x9 x10 x11 x12 x13 x14 x15 x16 x17 x18 x19 x20 x21 x22 x23 x24 x25 x26 x27 x28 x29 x30 m0 m1 m2 m3 m4 m5 m6 m7 m8 m9 m10 m11 m12 m13 m14 m15 T ts Y ys sE E es ct wh wn hs cl ln sz0 tr fl fm tm at1 rdb rrm rD rP mt M so lg mc rh rk rw rp mw mn mh) → va_S (fun q : Nat => s.heap.size ≤ q) s.heap H locs → ∀ ls : Array Slot, lv_has ls 4 [(0, .ref b), (1, .ref x0), (2, .ref m0), (3, .int (nI i))] → W p l e room_1 s m #[Value.ref b] below meth c H locs 47 733 (lw_Z below #[Value.ref b] s) (F0 m 18 ls []) := by
  obtain ⟨hx, hb, hr, hml, hown, hts, hX, hbl, hlocks, hgv⟩ := id C0
  have hbA : ¬ (fun q : Nat => s.heap.size ≤ q) b := Nat.not_le.mpr hbl
  have hb : c.code = cL_law := hb
  intro n
  induction n with
  | zero => intro i T ts Y ys sE E es ct wh wn hs cl ln sz0 tr fl fm tm at1 rdb rrm rD rP mt M so lg mc rh rk rw rp mw mn mh h1 h2; exact absurd h2 (by omega)
  | succ n ih =>
      intro i T ts Y ys sE E es ct wh wn hs cl ln sz0 tr fl fm tm at1 rdb rrm rD rP mt M so lg mc rh rk rw rp mw mn mh h1 h2 ht hrr hsr etr efl H locs hP hD hS ls hl
      have kk : i + 6 ≤ L → (∀ (T : YS) (ts : Nat → Int32) (Y : YS) (ys : Nat → Int32) (sE : Nat) (E : YS) (es : Nat → Int32) (ct : Nat) (wh : Nat → Nat) (wn : Nat → Nat) (hs : Nat → Int32) (cl : Nat → Int32) (ln : Nat → Int32) (sz0 : Nat → Int32) (tr : Int32) (fl : Int32) (fm : Int32) (tm : Int32) (at1 : Nat) (rdb : Int32) (rrm : Int32) (rD : Nat) (rP : Nat) (mt : Nat) (M : YS) (so : Nat → Int32) (lg : Nat → Int32) (mc : Nat → Int32) (rh : Nat → Int32) (rk : Nat → Int32) (rw : Nat → Int32) (rp : Nat → Int32) (mw : Nat → Nat) (mn : Nat → Nat) (mh : Nat → Int32), (RT T M) → (RR T ct wh wn hs mt mw mn mh) → (SR cl ln sz0 mc so lg) → (tr = tm) → (fl = fm) → ∀ (H : Heap) (locs : List Loc), va_P D vwCl (wL cI x0 x1 x2 x3 x4 x5 x6 x7 x8 x9 x10 x11 x12 x13 x14 x15 x16 x17 x18 x19 x20 x21 x22 x23 x24 x25 x26 x27 x28 x29 x30 m0 m1 m2 m3 m4 m5 m6 m7 m8 m9 m10 m11 m12 m13 m14 m15 T ts Y ys sE E es ct wh wn hs cl ln sz0 tr fl fm tm at1 rdb rrm rD rP mt M so lg mc rh rk rw rp mw mn mh) H → va_D (fun q : Nat => s.heap.size ≤ q) (wL cI x0 x1 x2 x3 x4 x5 x6 x7 x8 x9 x10 x11 x12 x13 x14 x15 x16 x17 x18 x19 x20 x21 x22 x23 x24 x25 x26 x27 x28 x29 x30 m0 m1 m2 m3 m4 m5 m6 m7 m8 m9 m10 m11 m12 m13 m14 m15 T ts Y ys sE E es ct wh wn hs cl ln sz0 tr fl fm tm at1 rdb rrm rD rP mt M so lg mc rh rk rw rp mw mn mh) → va_S (fun q : Nat => s.heap.size ≤ q) s.heap H locs → ∀ ls : Array Slot, lv_has ls 4 [(0, .ref b), (1, .ref x0), (2, .ref m0), (3, .int (nI i))] → W p l e room_1 s m #[Value.ref b] below meth c H locs 47 733 (lw_Z below #[Value.ref b] s) (F0 m 1116 ls [])) := by
        intro hi6 T ts Y ys sE E es ct wh wn hs cl ln sz0 tr fl fm tm at1 rdb rrm rD rP mt M so lg mc rh rk rw rp mw mn mh ht hrr hsr etr efl H locs hP hD hS ls hl
        refine lv_iinc (v := nI (i + 6)) (lv' := [(3, .int (nI (i + 6))), (0, .ref b), (1, .ref x0), (2, .ref m0)]) hx hb dL_law_1116 hl (k := 3) rfl (by rw [show (Int32.ofInt 6) = nI 6 from by decide, nI_add]) (by decide) rfl (fun ls hl => ?_)
        refine lv_goto (tgt := 18) hx hb dL_law_1119 (by decide) ?_
        exact ih (i + 6) T ts Y ys sE E es ct wh wn hs cl ln sz0 tr fl fm tm at1 rdb rrm rD rP mt M so lg mc rh rk rw rp mw mn mh (by omega) (by omega) ht hrr hsr etr efl H locs hP hD hS ls (lv_sub hl [1, 2, 3, 0] rfl)
      refine lv_iload_n hx hb dL_law_18 rfl (lv_at hl 3 rfl) ?_
      refine lv_aload_n hx hb dL_law_19 rfl (lv_at hl 0 rfl) ?_
      refine va_slen hx hb hX hbl hbA hS dL_law_20 ?_
      refine zk_top (y := nI L) rfl ?_
      refine lv_bipush (v := nI 6) hx hb dL_law_21 (by decide) ?_
      refine lv_isub hx hb dL_law_23 ?_
      refine lv_icmp_gt (tgt := 1122) hx hb dL_law_24 (by decide) (fun c_1 => ?_) (fun c_1 => ?_)
      · refine lv_iconst (v := 1) hx hb dL_law_1122 (by decide) ?_
        refine va_forget (fun q hq => hS.2.2 q hq) ?_
        exact lw_ret hx hb hr hlocks dL_law_1123
      · have c_1 := Int32.not_lt.mp c_1
        have hi6 : i + 6 ≤ L := sub6 hL (by omega) c_1
        refine lv_aload_n hx hb dL_law_27 rfl (lv_at hl 0 rfl) ?_
        refine lv_iload_n hx hb dL_law_28 rfl (lv_at hl 3 rfl) ?_
        refine va_sld hx hb hX hbl hbA hS (vp_in_nI (n := i) (by omega) (by omega)) dL_law_29 ?_
        refine zk_top (y := xs i) (by rw [nI_clamp (by omega)]) ?_
        refine lv_bipush (v := nI 31) hx hb dL_law_30 (by decide) ?_
        refine lv_iand hx hb dL_law_32 ?_
        by_cases c_2 : (xs i) &&& (nI 31) = nI 0
        · refine lv_tableIn (tgt := 168) hx hb dL_law_33 (by rw [c_2]; decide) (by rw [c_2]; decide) (by rw [c_2]; try rfl) (by decide) ?_
          exact lo_see l hL C0 D cI hK x0 x1 x2 x3 x4 x5 x6 x7 x8 x9 x10 x11 x12 x13 x14 x15 x16 x17 x18 x19 x20 x21 x22 x23 x24 x25 x26 x27 x28 x29 x30 m0 m1 m2 m3 m4 m5 m6 m7 m8 m9 m10 m11 m12 m13 m14 m15 i hi6 T ts Y ys sE E es ct wh wn hs cl ln sz0 tr fl fm tm at1 rdb rrm rD rP mt M so lg mc rh rk rw rp mw mn mh ht hrr hsr etr efl H locs hP hD hS ls hl (kk hi6)
        by_cases c_3 : (xs i) &&& (nI 31) = nI 1
        · refine lv_tableIn (tgt := 221) hx hb dL_law_33 (by rw [c_3]; decide) (by rw [c_3]; decide) (by rw [c_3]; try rfl) (by decide) ?_
          exact lo_ofPupil l hL C0 D cI hK x0 x1 x2 x3 x4 x5 x6 x7 x8 x9 x10 x11 x12 x13 x14 x15 x16 x17 x18 x19 x20 x21 x22 x23 x24 x25 x26 x27 x28 x29 x30 m0 m1 m2 m3 m4 m5 m6 m7 m8 m9 m10 m11 m12 m13 m14 m15 i hi6 T ts Y ys sE E es ct wh wn hs cl ln sz0 tr fl fm tm at1 rdb rrm rD rP mt M so lg mc rh rk rw rp mw mn mh ht hrr hsr etr efl H locs hP hD hS ls hl (kk hi6)
        by_cases c_4 : (xs i) &&& (nI 31) = nI 2
        · refine lv_tableIn (tgt := 254) hx hb dL_law_33 (by rw [c_4]; decide) (by rw [c_4]; decide) (by rw [c_4]; try rfl) (by decide) ?_
          exact lo_hard l hL C0 D cI hK x0 x1 x2 x3 x4 x5 x6 x7 x8 x9 x10 x11 x12 x13 x14 x15 x16 x17 x18 x19 x20 x21 x22 x23 x24 x25 x26 x27 x28 x29 x30 m0 m1 m2 m3 m4 m5 m6 m7 m8 m9 m10 m11 m12 m13 m14 m15 i hi6 T ts Y ys sE E es ct wh wn hs cl ln sz0 tr fl fm tm at1 rdb rrm rD rP mt M so lg mc rh rk rw rp mw mn mh ht hrr hsr etr efl H locs hP hD hS ls hl (kk hi6)
        by_cases c_5 : (xs i) &&& (nI 31) = nI 3
        · refine lv_tableIn (tgt := 277) hx hb dL_law_33 (by rw [c_5]; decide) (by rw [c_5]; decide) (by rw [c_5]; try rfl) (by decide) ?_
          exact lo_ask l hL C0 D cI hK x0 x1 x2 x3 x4 x5 x6 x7 x8 x9 x10 x11 x12 x13 x14 x15 x16 x17 x18 x19 x20 x21 x22 x23 x24 x25 x26 x27 x28 x29 x30 m0 m1 m2 m3 m4 m5 m6 m7 m8 m9 m10 m11 m12 m13 m14 m15 i hi6 T ts Y ys sE E es ct wh wn hs cl ln sz0 tr fl fm tm at1 rdb rrm rD rP mt M so lg mc rh rk rw rp mw mn mh ht hrr hsr etr efl H locs hP hD hS ls hl (kk hi6)
        by_cases c_6 : (xs i) &&& (nI 31) = nI 4
        · refine lv_tableIn (tgt := 310) hx hb dL_law_33 (by rw [c_6]; decide) (by rw [c_6]; decide) (by rw [c_6]; try rfl) (by decide) ?_
          exact lo_teach l hL C0 D cI hK x0 x1 x2 x3 x4 x5 x6 x7 x8 x9 x10 x11 x12 x13 x14 x15 x16 x17 x18 x19 x20 x21 x22 x23 x24 x25 x26 x27 x28 x29 x30 m0 m1 m2 m3 m4 m5 m6 m7 m8 m9 m10 m11 m12 m13 m14 m15 i hi6 T ts Y ys sE E es ct wh wn hs cl ln sz0 tr fl fm tm at1 rdb rrm rD rP mt M so lg mc rh rk rw rp mw mn mh ht hrr hsr etr efl H locs hP hD hS ls hl (kk hi6)
        by_cases c_7 : (xs i) &&& (nI 31) = nI 5
        · refine lv_tableIn (tgt := 343) hx hb dL_law_33 (by rw [c_7]; decide) (by rw [c_7]; decide) (by rw [c_7]; try rfl) (by decide) ?_
          exact lo_doubt l hL C0 D cI hK x0 x1 x2 x3 x4 x5 x6 x7 x8 x9 x10 x11 x12 x13 x14 x15 x16 x17 x18 x19 x20 x21 x22 x23 x24 x25 x26 x27 x28 x29 x30 m0 m1 m2 m3 m4 m5 m6 m7 m8 m9 m10 m11 m12 m13 m14 m15 i hi6 T ts Y ys sE E es ct wh wn hs cl ln sz0 tr fl fm tm at1 rdb rrm rD rP mt M so lg mc rh rk rw rp mw mn mh ht hrr hsr etr efl H locs hP hD hS ls hl (kk hi6)
        by_cases c_8 : (xs i) &&& (nI 31) = nI 6
        · refine lv_tableIn (tgt := 366) hx hb dL_law_33 (by rw [c_8]; decide) (by rw [c_8]; decide) (by rw [c_8]; try rfl) (by decide) ?_
          exact lo_build l hL C0 D cI hK x0 x1 x2 x3 x4 x5 x6 x7 x8 x9 x10 x11 x12 x13 x14 x15 x16 x17 x18 x19 x20 x21 x22 x23 x24 x25 x26 x27 x28 x29 x30 m0 m1 m2 m3 m4 m5 m6 m7 m8 m9 m10 m11 m12 m13 m14 m15 i hi6 T ts Y ys sE E es ct wh wn hs cl ln sz0 tr fl fm tm at1 rdb rrm rD rP mt M so lg mc rh rk rw rp mw mn mh ht hrr hsr etr efl H locs hP hD hS ls hl (kk hi6)
        by_cases c_9 : (xs i) &&& (nI 31) = nI 7
        · refine lv_tableIn (tgt := 389) hx hb dL_law_33 (by rw [c_9]; decide) (by rw [c_9]; decide) (by rw [c_9]; try rfl) (by decide) ?_
          by_cases q_b : xs (i + 3) = 0
          · exact lo_would_false l hL C0 D cI hK x0 x1 x2 x3 x4 x5 x6 x7 x8 x9 x10 x11 x12 x13 x14 x15 x16 x17 x18 x19 x20 x21 x22 x23 x24 x25 x26 x27 x28 x29 x30 m0 m1 m2 m3 m4 m5 m6 m7 m8 m9 m10 m11 m12 m13 m14 m15 i hi6 T ts Y ys sE E es ct wh wn hs cl ln sz0 tr fl fm tm at1 rdb rrm rD rP mt M so lg mc rh rk rw rp mw mn mh ht hrr hsr etr efl H locs hP hD hS ls hl q_b (kk hi6)
          · exact lo_would_true l hL C0 D cI hK x0 x1 x2 x3 x4 x5 x6 x7 x8 x9 x10 x11 x12 x13 x14 x15 x16 x17 x18 x19 x20 x21 x22 x23 x24 x25 x26 x27 x28 x29 x30 m0 m1 m2 m3 m4 m5 m6 m7 m8 m9 m10 m11 m12 m13 m14 m15 i hi6 T ts Y ys sE E es ct wh wn hs cl ln sz0 tr fl fm tm at1 rdb rrm rD rP mt M so lg mc rh rk rw rp mw mn mh ht hrr hsr etr efl H locs hP hD hS ls hl q_b (kk hi6)
        by_cases c_10 : (xs i) &&& (nI 31) = nI 8
        · refine lv_tableIn (tgt := 448) hx hb dL_law_33 (by rw [c_10]; decide) (by rw [c_10]; decide) (by rw [c_10]; try rfl) (by decide) ?_
          exact lo_stand l hL C0 D cI hK x0 x1 x2 x3 x4 x5 x6 x7 x8 x9 x10 x11 x12 x13 x14 x15 x16 x17 x18 x19 x20 x21 x22 x23 x24 x25 x26 x27 x28 x29 x30 m0 m1 m2 m3 m4 m5 m6 m7 m8 m9 m10 m11 m12 m13 m14 m15 i hi6 T ts Y ys sE E es ct wh wn hs cl ln sz0 tr fl fm tm at1 rdb rrm rD rP mt M so lg mc rh rk rw rp mw mn mh ht hrr hsr etr efl H locs hP hD hS ls hl (kk hi6)
        by_cases c_11 : (xs i) &&& (nI 31) = nI 9
        · refine lv_tableIn (tgt := 471) hx hb dL_law_33 (by rw [c_11]; decide) (by rw [c_11]; decide) (by rw [c_11]; try rfl) (by decide) ?_
          exact lo_bishop l hL C0 D cI hK x0 x1 x2 x3 x4 x5 x6 x7 x8 x9 x10 x11 x12 x13 x14 x15 x16 x17 x18 x19 x20 x21 x22 x23 x24 x25 x26 x27 x28 x29 x30 m0 m1 m2 m3 m4 m5 m6 m7 m8 m9 m10 m11 m12 m13 m14 m15 i hi6 T ts Y ys sE E es ct wh wn hs cl ln sz0 tr fl fm tm at1 rdb rrm rD rP mt M so lg mc rh rk rw rp mw mn mh ht hrr hsr etr efl H locs hP hD hS ls hl (kk hi6)
        by_cases c_12 : (xs i) &&& (nI 31) = nI 10
        · refine lv_tableIn (tgt := 484) hx hb dL_law_33 (by rw [c_12]; decide) (by rw [c_12]; decide) (by rw [c_12]; try rfl) (by decide) ?_
          exact lo_plan l hL C0 D cI hK x0 x1 x2 x3 x4 x5 x6 x7 x8 x9 x10 x11 x12 x13 x14 x15 x16 x17 x18 x19 x20 x21 x22 x23 x24 x25 x26 x27 x28 x29 x30 m0 m1 m2 m3 m4 m5 m6 m7 m8 m9 m10 m11 m12 m13 m14 m15 i hi6 T ts Y ys sE E es ct wh wn hs cl ln sz0 tr fl fm tm at1 rdb rrm rD rP mt M so lg mc rh rk rw rp mw mn mh ht hrr hsr etr efl H locs hP hD hS ls hl (kk hi6)
        by_cases c_13 : (xs i) &&& (nI 31) = nI 11
        · refine lv_tableIn (tgt := 547) hx hb dL_law_33 (by rw [c_13]; decide) (by rw [c_13]; decide) (by rw [c_13]; try rfl) (by decide) ?_
          exact lo_best l hL C0 D cI hK x0 x1 x2 x3 x4 x5 x6 x7 x8 x9 x10 x11 x12 x13 x14 x15 x16 x17 x18 x19 x20 x21 x22 x23 x24 x25 x26 x27 x28 x29 x30 m0 m1 m2 m3 m4 m5 m6 m7 m8 m9 m10 m11 m12 m13 m14 m15 i hi6 T ts Y ys sE E es ct wh wn hs cl ln sz0 tr fl fm tm at1 rdb rrm rD rP mt M so lg mc rh rk rw rp mw mn mh ht hrr hsr etr efl H locs hP hD hS ls hl (kk hi6)
        by_cases c_14 : (xs i) &&& (nI 31) = nI 12
        · refine lv_tableIn (tgt := 570) hx hb dL_law_33 (by rw [c_14]; decide) (by rw [c_14]; decide) (by rw [c_14]; try rfl) (by decide) ?_
          exact lo_choose l hL C0 D cI hK x0 x1 x2 x3 x4 x5 x6 x7 x8 x9 x10 x11 x12 x13 x14 x15 x16 x17 x18 x19 x20 x21 x22 x23 x24 x25 x26 x27 x28 x29 x30 m0 m1 m2 m3 m4 m5 m6 m7 m8 m9 m10 m11 m12 m13 m14 m15 i hi6 T ts Y ys sE E es ct wh wn hs cl ln sz0 tr fl fm tm at1 rdb rrm rD rP mt M so lg mc rh rk rw rp mw mn mh ht hrr hsr etr efl H locs hP hD hS ls hl (kk hi6)
        by_cases c_15 : (xs i) &&& (nI 31) = nI 13
        · refine lv_tableIn (tgt := 603) hx hb dL_law_33 (by rw [c_15]; decide) (by rw [c_15]; decide) (by rw [c_15]; try rfl) (by decide) ?_
          exact lo_reading l hL C0 D cI hK x0 x1 x2 x3 x4 x5 x6 x7 x8 x9 x10 x11 x12 x13 x14 x15 x16 x17 x18 x19 x20 x21 x22 x23 x24 x25 x26 x27 x28 x29 x30 m0 m1 m2 m3 m4 m5 m6 m7 m8 m9 m10 m11 m12 m13 m14 m15 i hi6 T ts Y ys sE E es ct wh wn hs cl ln sz0 tr fl fm tm at1 rdb rrm rD rP mt M so lg mc rh rk rw rp mw mn mh ht hrr hsr etr efl H locs hP hD hS ls hl (kk hi6)
        by_cases c_16 : (xs i) &&& (nI 31) = nI 14
        · refine lv_tableIn (tgt := 646) hx hb dL_law_33 (by rw [c_16]; decide) (by rw [c_16]; decide) (by rw [c_16]; try rfl) (by decide) ?_
          exact lo_back l hL C0 D cI hK x0 x1 x2 x3 x4 x5 x6 x7 x8 x9 x10 x11 x12 x13 x14 x15 x16 x17 x18 x19 x20 x21 x22 x23 x24 x25 x26 x27 x28 x29 x30 m0 m1 m2 m3 m4 m5 m6 m7 m8 m9 m10 m11 m12 m13 m14 m15 i hi6 T ts Y ys sE E es ct wh wn hs cl ln sz0 tr fl fm tm at1 rdb rrm rD rP mt M so lg mc rh rk rw rp mw mn mh ht hrr hsr etr efl H locs hP hD hS ls hl (kk hi6)
        by_cases c_17 : (xs i) &&& (nI 31) = nI 15
        · refine lv_tableIn (tgt := 669) hx hb dL_law_33 (by rw [c_17]; decide) (by rw [c_17]; decide) (by rw [c_17]; try rfl) (by decide) ?_
          exact lo_wits l hL C0 D cI hK x0 x1 x2 x3 x4 x5 x6 x7 x8 x9 x10 x11 x12 x13 x14 x15 x16 x17 x18 x19 x20 x21 x22 x23 x24 x25 x26 x27 x28 x29 x30 m0 m1 m2 m3 m4 m5 m6 m7 m8 m9 m10 m11 m12 m13 m14 m15 i hi6 T ts Y ys sE E es ct wh wn hs cl ln sz0 tr fl fm tm at1 rdb rrm rD rP mt M so lg mc rh rk rw rp mw mn mh ht hrr hsr etr efl H locs hP hD hS ls hl (kk hi6)
        by_cases c_18 : (xs i) &&& (nI 31) = nI 16
        · refine lv_tableIn (tgt := 692) hx hb dL_law_33 (by rw [c_18]; decide) (by rw [c_18]; decide) (by rw [c_18]; try rfl) (by decide) ?_
          exact lo_kinds l hL C0 D cI hK x0 x1 x2 x3 x4 x5 x6 x7 x8 x9 x10 x11 x12 x13 x14 x15 x16 x17 x18 x19 x20 x21 x22 x23 x24 x25 x26 x27 x28 x29 x30 m0 m1 m2 m3 m4 m5 m6 m7 m8 m9 m10 m11 m12 m13 m14 m15 i hi6 T ts Y ys sE E es ct wh wn hs cl ln sz0 tr fl fm tm at1 rdb rrm rD rP mt M so lg mc rh rk rw rp mw mn mh ht hrr hsr etr efl H locs hP hD hS ls hl (kk hi6)
        by_cases c_19 : (xs i) &&& (nI 31) = nI 17
        · refine lv_tableIn (tgt := 715) hx hb dL_law_33 (by rw [c_19]; decide) (by rw [c_19]; decide) (by rw [c_19]; try rfl) (by decide) ?_
          exact lo_hards l hL C0 D cI hK x0 x1 x2 x3 x4 x5 x6 x7 x8 x9 x10 x11 x12 x13 x14 x15 x16 x17 x18 x19 x20 x21 x22 x23 x24 x25 x26 x27 x28 x29 x30 m0 m1 m2 m3 m4 m5 m6 m7 m8 m9 m10 m11 m12 m13 m14 m15 i hi6 T ts Y ys sE E es ct wh wn hs cl ln sz0 tr fl fm tm at1 rdb rrm rD rP mt M so lg mc rh rk rw rp mw mn mh ht hrr hsr etr efl H locs hP hD hS ls hl (kk hi6)
        by_cases c_20 : (xs i) &&& (nI 31) = nI 18
        · refine lv_tableIn (tgt := 738) hx hb dL_law_33 (by rw [c_20]; decide) (by rw [c_20]; decide) (by rw [c_20]; try rfl) (by decide) ?_
          exact lo_odds l hL C0 D cI hK x0 x1 x2 x3 x4 x5 x6 x7 x8 x9 x10 x11 x12 x13 x14 x15 x16 x17 x18 x19 x20 x21 x22 x23 x24 x25 x26 x27 x28 x29 x30 m0 m1 m2 m3 m4 m5 m6 m7 m8 m9 m10 m11 m12 m13 m14 m15 i hi6 T ts Y ys sE E es ct wh wn hs cl ln sz0 tr fl fm tm at1 rdb rrm rD rP mt M so lg mc rh rk rw rp mw mn mh ht hrr hsr etr efl H locs hP hD hS ls hl (kk hi6)
        by_cases c_21 : (xs i) &&& (nI 31) = nI 19
        · refine lv_tableIn (tgt := 772) hx hb dL_law_33 (by rw [c_21]; decide) (by rw [c_21]; decide) (by rw [c_21]; try rfl) (by decide) ?_
          exact lo_sheet l hL C0 D cI hK x0 x1 x2 x3 x4 x5 x6 x7 x8 x9 x10 x11 x12 x13 x14 x15 x16 x17 x18 x19 x20 x21 x22 x23 x24 x25 x26 x27 x28 x29 x30 m0 m1 m2 m3 m4 m5 m6 m7 m8 m9 m10 m11 m12 m13 m14 m15 i hi6 T ts Y ys sE E es ct wh wn hs cl ln sz0 tr fl fm tm at1 rdb rrm rD rP mt M so lg mc rh rk rw rp mw mn mh ht hrr hsr etr efl H locs hP hD hS ls hl (kk hi6)
        by_cases c_22 : (xs i) &&& (nI 31) = nI 20
        · refine lv_tableIn (tgt := 815) hx hb dL_law_33 (by rw [c_22]; decide) (by rw [c_22]; decide) (by rw [c_22]; try rfl) (by decide) ?_
          exact lo_lose l hL C0 D cI hK x0 x1 x2 x3 x4 x5 x6 x7 x8 x9 x10 x11 x12 x13 x14 x15 x16 x17 x18 x19 x20 x21 x22 x23 x24 x25 x26 x27 x28 x29 x30 m0 m1 m2 m3 m4 m5 m6 m7 m8 m9 m10 m11 m12 m13 m14 m15 i hi6 T ts Y ys sE E es ct wh wn hs cl ln sz0 tr fl fm tm at1 rdb rrm rD rP mt M so lg mc rh rk rw rp mw mn mh ht hrr hsr etr efl H locs hP hD hS ls hl (kk hi6)
        by_cases c_23 : (xs i) &&& (nI 31) = nI 21
        · refine lv_tableIn (tgt := 838) hx hb dL_law_33 (by rw [c_23]; decide) (by rw [c_23]; decide) (by rw [c_23]; try rfl) (by decide) ?_
          exact lo_put l hL C0 D cI hK x0 x1 x2 x3 x4 x5 x6 x7 x8 x9 x10 x11 x12 x13 x14 x15 x16 x17 x18 x19 x20 x21 x22 x23 x24 x25 x26 x27 x28 x29 x30 m0 m1 m2 m3 m4 m5 m6 m7 m8 m9 m10 m11 m12 m13 m14 m15 i hi6 T ts Y ys sE E es ct wh wn hs cl ln sz0 tr fl fm tm at1 rdb rrm rD rP mt M so lg mc rh rk rw rp mw mn mh ht hrr hsr etr efl H locs hP hD hS ls hl (kk hi6)
        by_cases c_24 : (xs i) &&& (nI 31) = nI 22
        · refine lv_tableIn (tgt := 881) hx hb dL_law_33 (by rw [c_24]; decide) (by rw [c_24]; decide) (by rw [c_24]; try rfl) (by decide) ?_
          exact lo_cell l hL C0 D cI hK x0 x1 x2 x3 x4 x5 x6 x7 x8 x9 x10 x11 x12 x13 x14 x15 x16 x17 x18 x19 x20 x21 x22 x23 x24 x25 x26 x27 x28 x29 x30 m0 m1 m2 m3 m4 m5 m6 m7 m8 m9 m10 m11 m12 m13 m14 m15 i hi6 T ts Y ys sE E es ct wh wn hs cl ln sz0 tr fl fm tm at1 rdb rrm rD rP mt M so lg mc rh rk rw rp mw mn mh ht hrr hsr etr efl H locs hP hD hS ls hl (kk hi6)
        by_cases c_25 : (xs i) &&& (nI 31) = nI 23
        · refine lv_tableIn (tgt := 925) hx hb dL_law_33 (by rw [c_25]; decide) (by rw [c_25]; decide) (by rw [c_25]; try rfl) (by decide) ?_
          exact lo_copy l hL C0 D cI hK x0 x1 x2 x3 x4 x5 x6 x7 x8 x9 x10 x11 x12 x13 x14 x15 x16 x17 x18 x19 x20 x21 x22 x23 x24 x25 x26 x27 x28 x29 x30 m0 m1 m2 m3 m4 m5 m6 m7 m8 m9 m10 m11 m12 m13 m14 m15 i hi6 T ts Y ys sE E es ct wh wn hs cl ln sz0 tr fl fm tm at1 rdb rrm rD rP mt M so lg mc rh rk rw rp mw mn mh ht hrr hsr etr efl H locs hP hD hS ls hl (kk hi6)
        by_cases c_26 : (xs i) &&& (nI 31) = nI 24
        · refine lv_tableIn (tgt := 988) hx hb dL_law_33 (by rw [c_26]; decide) (by rw [c_26]; decide) (by rw [c_26]; try rfl) (by decide) ?_
          exact lo_tell l hL C0 D cI hK x0 x1 x2 x3 x4 x5 x6 x7 x8 x9 x10 x11 x12 x13 x14 x15 x16 x17 x18 x19 x20 x21 x22 x23 x24 x25 x26 x27 x28 x29 x30 m0 m1 m2 m3 m4 m5 m6 m7 m8 m9 m10 m11 m12 m13 m14 m15 i hi6 T ts Y ys sE E es ct wh wn hs cl ln sz0 tr fl fm tm at1 rdb rrm rD rP mt M so lg mc rh rk rw rp mw mn mh ht hrr hsr etr efl H locs hP hD hS ls hl (kk hi6)
        by_cases c_27 : (xs i) &&& (nI 31) = nI 25
        · refine lv_tableIn (tgt := 1011) hx hb dL_law_33 (by rw [c_27]; decide) (by rw [c_27]; decide) (by rw [c_27]; try rfl) (by decide) ?_
          exact lo_cap l hL C0 D cI hK x0 x1 x2 x3 x4 x5 x6 x7 x8 x9 x10 x11 x12 x13 x14 x15 x16 x17 x18 x19 x20 x21 x22 x23 x24 x25 x26 x27 x28 x29 x30 m0 m1 m2 m3 m4 m5 m6 m7 m8 m9 m10 m11 m12 m13 m14 m15 i hi6 T ts Y ys sE E es ct wh wn hs cl ln sz0 tr fl fm tm at1 rdb rrm rD rP mt M so lg mc rh rk rw rp mw mn mh ht hrr hsr etr efl H locs hP hD hS ls hl (kk hi6)
        by_cases c_28 : (xs i) &&& (nI 31) = nI 26
        · refine lv_tableIn (tgt := 1034) hx hb dL_law_33 (by rw [c_28]; decide) (by rw [c_28]; decide) (by rw [c_28]; try rfl) (by decide) ?_
          exact lo_as l hL C0 D cI hK x0 x1 x2 x3 x4 x5 x6 x7 x8 x9 x10 x11 x12 x13 x14 x15 x16 x17 x18 x19 x20 x21 x22 x23 x24 x25 x26 x27 x28 x29 x30 m0 m1 m2 m3 m4 m5 m6 m7 m8 m9 m10 m11 m12 m13 m14 m15 i hi6 T ts Y ys sE E es ct wh wn hs cl ln sz0 tr fl fm tm at1 rdb rrm rD rP mt M so lg mc rh rk rw rp mw mn mh ht hrr hsr etr efl H locs hP hD hS ls hl (kk hi6)
        by_cases c_29 : (xs i) &&& (nI 31) = nI 27
        · refine lv_tableIn (tgt := 1067) hx hb dL_law_33 (by rw [c_29]; decide) (by rw [c_29]; decide) (by rw [c_29]; try rfl) (by decide) ?_
          exact lo_trace l hL C0 D cI hK x0 x1 x2 x3 x4 x5 x6 x7 x8 x9 x10 x11 x12 x13 x14 x15 x16 x17 x18 x19 x20 x21 x22 x23 x24 x25 x26 x27 x28 x29 x30 m0 m1 m2 m3 m4 m5 m6 m7 m8 m9 m10 m11 m12 m13 m14 m15 i hi6 T ts Y ys sE E es ct wh wn hs cl ln sz0 tr fl fm tm at1 rdb rrm rD rP mt M so lg mc rh rk rw rp mw mn mh ht hrr hsr etr efl H locs hP hD hS ls hl (kk hi6)
        by_cases c_30 : (xs i) &&& (nI 31) = nI 28
        · refine lv_tableIn (tgt := 1080) hx hb dL_law_33 (by rw [c_30]; decide) (by rw [c_30]; decide) (by rw [c_30]; try rfl) (by decide) ?_
          exact lo_fault l hL C0 D cI hK x0 x1 x2 x3 x4 x5 x6 x7 x8 x9 x10 x11 x12 x13 x14 x15 x16 x17 x18 x19 x20 x21 x22 x23 x24 x25 x26 x27 x28 x29 x30 m0 m1 m2 m3 m4 m5 m6 m7 m8 m9 m10 m11 m12 m13 m14 m15 i hi6 T ts Y ys sE E es ct wh wn hs cl ln sz0 tr fl fm tm at1 rdb rrm rD rP mt M so lg mc rh rk rw rp mw mn mh ht hrr hsr etr efl H locs hP hD hS ls hl (kk hi6)
        by_cases c_31 : (xs i) &&& (nI 31) = nI 29
        · refine lv_tableIn (tgt := 1093) hx hb dL_law_33 (by rw [c_31]; decide) (by rw [c_31]; decide) (by rw [c_31]; try rfl) (by decide) ?_
          exact lo_many l hL C0 D cI hK x0 x1 x2 x3 x4 x5 x6 x7 x8 x9 x10 x11 x12 x13 x14 x15 x16 x17 x18 x19 x20 x21 x22 x23 x24 x25 x26 x27 x28 x29 x30 m0 m1 m2 m3 m4 m5 m6 m7 m8 m9 m10 m11 m12 m13 m14 m15 i hi6 T ts Y ys sE E es ct wh wn hs cl ln sz0 tr fl fm tm at1 rdb rrm rD rP mt M so lg mc rh rk rw rp mw mn mh ht hrr hsr etr efl H locs hP hD hS ls hl (kk hi6)
        refine lv_tableOut (tgt := 1116) hx hb dL_law_33 (by have := lv_neT c_2 (show (nI 0).toInt = 0 from by decide); have := lv_neT c_3 (show (nI 1).toInt = 1 from by decide); have := lv_neT c_4 (show (nI 2).toInt = 2 from by decide); have := lv_neT c_5 (show (nI 3).toInt = 3 from by decide); have := lv_neT c_6 (show (nI 4).toInt = 4 from by decide); have := lv_neT c_7 (show (nI 5).toInt = 5 from by decide); have := lv_neT c_8 (show (nI 6).toInt = 6 from by decide); have := lv_neT c_9 (show (nI 7).toInt = 7 from by decide); have := lv_neT c_10 (show (nI 8).toInt = 8 from by decide); have := lv_neT c_11 (show (nI 9).toInt = 9 from by decide); have := lv_neT c_12 (show (nI 10).toInt = 10 from by decide); have := lv_neT c_13 (show (nI 11).toInt = 11 from by decide); have := lv_neT c_14 (show (nI 12).toInt = 12 from by decide); have := lv_neT c_15 (show (nI 13).toInt = 13 from by decide); have := lv_neT c_16 (show (nI 14).toInt = 14 from by decide); have := lv_neT c_17 (show (nI 15).toInt = 15 from by decide); have := lv_neT c_18 (show (nI 16).toInt = 16 from by decide); have := lv_neT c_19 (show (nI 17).toInt = 17 from by decide); have := lv_neT c_20 (show (nI 18).toInt = 18 from by decide); have := lv_neT c_21 (show (nI 19).toInt = 19 from by decide); have := lv_neT c_22 (show (nI 20).toInt = 20 from by decide); have := lv_neT c_23 (show (nI 21).toInt = 21 from by decide); have := lv_neT c_24 (show (nI 22).toInt = 22 from by decide); have := lv_neT c_25 (show (nI 23).toInt = 23 from by decide); have := lv_neT c_26 (show (nI 24).toInt = 24 from by decide); have := lv_neT c_27 (show (nI 25).toInt = 25 from by decide); have := lv_neT c_28 (show (nI 26).toInt = 26 from by decide); have := lv_neT c_29 (show (nI 27).toInt = 27 from by decide); have := lv_neT c_30 (show (nI 28).toInt = 28 from by decide); have := lv_neT c_31 (show (nI 29).toInt = 29 from by decide); omega) (by decide) ?_
        exact (kk hi6) T ts Y ys sE E es ct wh wn hs cl ln sz0 tr fl fm tm at1 rdb rrm rD rP mt M so lg mc rh rk rw rp mw mn mh ht hrr hsr etr efl H locs hP hD hS ls hl
