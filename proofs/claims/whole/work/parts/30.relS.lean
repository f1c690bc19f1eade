/-- the sheets -/
def SR (cl ln sz0 mc so lg : Nat → Int32) : Prop := okS sz0 ∧ okS lg ∧ ∀ k, k < 4 → (ln k = (-1) ∧ so k = (-9)) ∨ (isP 3 (ln k) = true ∧ so k = ln k ∧ lg k = sz0 k ∧ ∀ i, i < 60 → nI i < sz0 k → cl (k * 60 + i) = mc (60 * k + i))
theorem isP_n1 {x : Int32} (h : isP 3 x = true) : ¬ x = (-1) ∧ ¬ x = (-9) := by
  obtain ⟨j, hj, e, _⟩ := isP_of (n := 3) (by omega) h
  subst e
  have h0 := nI_pos' (n := j) (by omega)
  exact ⟨fun q => by rw [q] at h0; exact absurd h0 (by decide), fun q => by rw [q] at h0; exact absurd h0 (by decide)⟩
section SRs
variable {cl ln sz0 mc so lg : Nat → Int32}
theorem SR.has (h : SR cl ln sz0 mc so lg) {k : Nat} (hk : k < 4) : hasR ln k = hasM so k := by
  unfold hasR hasM
  rcases h.2.2 k hk with ⟨h1, h2⟩ | ⟨h1, h2, _⟩
  · rw [h1, h2]; decide
  · have h3 := isP_n1 h1
    rw [h2, decide_eq_true h3.1, decide_eq_true h3.2]
theorem SR.at (h : SR cl ln sz0 mc so lg) {k : Nat} (hk : k < 4) (h1 : hasM so k = true) : isP 3 (ln k) = true ∧ so k = ln k ∧ lg k = sz0 k ∧ ∀ i, i < 60 → nI i < sz0 k → cl (k * 60 + i) = mc (60 * k + i) := by
  rcases h.2.2 k hk with ⟨_, h2⟩ | h2
  · unfold hasM at h1
    rw [h2] at h1
    exact absurd h1 (by decide)
  · exact h2
theorem SR.row (h : SR cl ln sz0 mc so lg) {k : Nat} (hk : k < 4) (lane : Int32) : fRow ln k lane = fRowM so k lane := by
  unfold fRow fRowM
  rw [h.has hk]
  rcases q : hasM so k with _ | _
  · simp
  · rw [(h.at hk q).2.1]
theorem SR.cel (h : SR cl ln sz0 mc so lg) {k : Nat} (hk : k < 4) (lane i n : Int32) : fCel ln sz0 k lane i n = fCelM so lg k lane i n := by
  unfold fCel fCelM
  rw [h.row hk]
  by_cases q : fRowM so k lane = 0
  · rw [if_pos q, if_pos q, (h.at hk (fRowM_0 q).1).2.2.1]
  · rw [if_neg q, if_neg q]
theorem okS_u {z0 : Nat → Int32} (h : okS z0) {k z : Nat} (hz : z ≤ 60) : okS (upd z0 k (nI z)) := fun q hq => by
  by_cases e : q = k
  · subst e; exact ⟨z, hz, upd_s _ _ _⟩
  · rw [upd_n _ e]; exact h q hq
theorem r_sheet (h : SR cl ln sz0 mc so lg) (k lane n : Int32) : (sheetF cl ln sz0 k lane n).1 = (sheetM mc so lg k lane n).1 ∧ (sheetF cl ln sz0 k lane n).2.1 = (sheetM mc so lg k lane n).2.1 ∧ SR (sheetF cl ln sz0 k lane n).2.2.1 (sheetF cl ln sz0 k lane n).2.2.2.1 (sheetF cl ln sz0 k lane n).2.2.2.2 (sheetM mc so lg k lane n).2.2.1 (sheetM mc so lg k lane n).2.2.2.1 (sheetM mc so lg k lane n).2.2.2.2 := by
  unfold sheetF sheetM
  rcases q : isP 4 k with _ | _
  · exact ⟨rfl, rfl, h⟩
  · obtain ⟨j, hj, e, g⟩ := isP_of (n := 4) (by omega) q
    rw [if_pos rfl, if_pos rfl, g]
    rcases q2 : (isP 3 lane && decide (n ≤ nI 60)) with _ | _
    · exact ⟨rfl, rfl, h⟩
    · rw [if_pos rfl, if_pos rfl]
      by_cases q3 : 0 ≤ n
      · rw [if_pos q3, if_pos q3]
        rw [Bool.and_eq_true, decide_eq_true_eq] at q2
        obtain ⟨z, hz, e2, g2⟩ := le_of (n := 60) (by omega) q3 q2.2
        rw [e2, nI_clamp (by omega)]
        refine ⟨rfl, rfl, okS_u h.1 hz, okS_u h.2.1 hz, fun k1 hk1 => ?_⟩
        show (upd ln j lane k1 = (-1) ∧ upd so j lane k1 = (-9)) ∨ (isP 3 (upd ln j lane k1) = true ∧ upd so j lane k1 = upd ln j lane k1 ∧ upd lg j (nI z) k1 = upd sz0 j (nI z) k1 ∧ ∀ i, i < 60 → nI i < upd sz0 j (nI z) k1 → fillR cl (j * 60) (j * 60 + z) (nI 0) (k1 * 60 + i) = fillR mc (60 * j) (60 * j + 60) (nI 0) (60 * k1 + i))
        by_cases ek : k1 = j
        · subst ek
          right
          rw [upd_s, upd_s, upd_s, upd_s]
          refine ⟨q2.1, rfl, rfl, fun i hi hl => ?_⟩
          have hl2 := (nI_ltI (by omega) (by omega)).mp hl
          unfold fillR
          rw [if_pos (by omega), if_pos (by omega)]
        · rw [upd_n _ ek, upd_n _ ek, upd_n _ ek, upd_n _ ek]
          rcases h.2.2 k1 hk1 with h2 | ⟨h2, h3, h4, h5⟩
          · exact Or.inl h2
          · refine Or.inr ⟨h2, h3, h4, fun i hi hl => ?_⟩
            unfold fillR
            rw [if_neg (by omega), if_neg (by omega)]
            exact h5 i hi hl
      · rw [if_neg q3, if_neg q3]
        exact ⟨rfl, rfl, h⟩
theorem r_lose (h : SR cl ln sz0 mc so lg) (k : Int32) : (loseF ln sz0 k).1 = (loseM so k).1 ∧ SR cl (loseF ln sz0 k).2.1 (loseF ln sz0 k).2.2 mc (loseM so k).2 lg := by
  unfold loseF loseM
  rcases q : isP 4 k with _ | _
  · exact ⟨rfl, h⟩
  · obtain ⟨j, hj, e, g⟩ := isP_of (n := 4) (by omega) q
    rw [if_pos rfl, if_pos rfl, g, h.has hj]
    refine ⟨rfl, okS_u h.1 (by omega), h.2.1, fun k1 hk1 => ?_⟩
    show (upd ln j (-1) k1 = (-1) ∧ upd so j (-9) k1 = (-9)) ∨ (isP 3 (upd ln j (-1) k1) = true ∧ upd so j (-9) k1 = upd ln j (-1) k1 ∧ lg k1 = upd sz0 j (nI 0) k1 ∧ ∀ i, i < 60 → nI i < upd sz0 j (nI 0) k1 → cl (k1 * 60 + i) = mc (60 * k1 + i))
    by_cases ek : k1 = j
    · subst ek
      left
      rw [upd_s, upd_s]
      exact ⟨rfl, rfl⟩
    · rw [upd_n _ ek, upd_n _ ek, upd_n _ ek]
      exact h.2.2 k1 hk1
theorem pl1_lt {i z : Int32} {j : Nat} (h : pl1 i z = true) (e : i = nI j) : nI j < z := by
  unfold pl1 at h
  rw [Bool.and_eq_true, decide_eq_true_eq, decide_eq_true_eq] at h
  rw [← e]
  exact h.2
theorem r_put (h : SR cl ln sz0 mc so lg) (k i v : Int32) : (putF cl ln sz0 k i v).1 = (putM mc so lg k i v).1 ∧ (putF cl ln sz0 k i v).2.1 = (putM mc so lg k i v).2.1 ∧ SR (putF cl ln sz0 k i v).2.2 ln sz0 (putM mc so lg k i v).2.2 so lg := by
  unfold putF putM
  rcases q : isP 4 k with _ | _
  · exact ⟨rfl, rfl, h⟩
  · obtain ⟨j, hj, e, g⟩ := isP_of (n := 4) (by omega) q
    rw [if_pos rfl, if_pos rfl, g, h.has hj]
    rcases q2 : hasM so j with _ | _
    · exact ⟨rfl, rfl, h⟩
    · have h2 := h.at hj q2
      rw [if_pos rfl, if_pos rfl, h2.2.2.1, h2.2.1]
      rcases q3 : pl1 i (sz0 j) with _ | _
      · exact ⟨rfl, rfl, h⟩
      · obtain ⟨i1, hi1, e2, g2⟩ := pl1_of h.1 hj q3
        rw [if_pos rfl, if_pos rfl, g2]
        refine ⟨rfl, rfl, h.1, h.2.1, fun k1 hk1 => ?_⟩
        rcases h.2.2 k1 hk1 with h3 | ⟨h3, h4, h5, h6⟩
        · exact Or.inl h3
        · refine Or.inr ⟨h3, h4, h5, fun i2 hi2 hl => ?_⟩
          show upd cl (j * 60 + i1) (cutL v (ln j)) (k1 * 60 + i2) = upd mc (60 * j + i1) (cutL v (ln j)) (60 * k1 + i2)
          unfold upd
          by_cases ek : k1 * 60 + i2 = j * 60 + i1
          · rw [if_pos ek, if_pos (by omega)]
          · rw [if_neg ek, if_neg (by omega)]
            exact h6 i2 hi2 hl
theorem r_cell (h : SR cl ln sz0 mc so lg) (k i lane : Int32) : cellF cl ln sz0 k i lane = cellM mc so lg k i lane := by
  unfold cellF cellM
  rcases q : (isP 4 k && isP 3 lane) with _ | _
  · simp
  · have q0 := q
    rw [Bool.and_eq_true] at q0
    obtain ⟨j, hj, e, g⟩ := isP_of (n := 4) (by omega) q0.1
    rw [if_pos rfl, if_pos rfl, g, h.row hj]
    by_cases q2 : fRowM so j lane = 0
    · have h2 := h.at hj (fRowM_0 q2).1
      rw [if_pos q2, if_pos q2, h2.2.2.1, q2]
      rcases q3 : pl1 i (sz0 j) with _ | _
      · simp
      · obtain ⟨i1, hi1, e2, g2⟩ := pl1_of h.1 hj q3
        rw [if_pos rfl, if_pos rfl, g2, h2.2.2.2 i1 hi1 (pl1_lt q3 e2), nI_0]
    · rw [if_neg q2, if_neg q2]
theorem plN_at {i n z : Int32} {j m q : Nat} {z1 : Nat} (hz : z = nI z1) (hz6 : z1 ≤ 60) (hm : m < 2 ^ 31) (h : plN i n z = true) (e : i = nI j) (en : n = nI m) (hj : j + m ≤ 60) (hq : q < m) : nI (j + q) < z := by
  unfold plN at h
  rw [Bool.and_eq_true, Bool.and_eq_true, decide_eq_true_eq, decide_eq_true_eq, decide_eq_true_eq, hz, e, en] at h
  have h2 := (nI_leI (by omega) (by omega)).mp h.2.1
  have h3 := h.2.2
  rw [pk_sub h2] at h3
  have h4 := (nI_leI hm (by omega)).mp h3
  rw [hz]
  exact nI_lt (by omega) (by omega)
theorem r_copy (h : SR cl ln sz0 mc so lg) (k i o j n : Int32) : (copyF cl ln sz0 k i o j n).1 = (copyM mc so lg k i o j n).1 ∧ (copyF cl ln sz0 k i o j n).2.1 = (copyM mc so lg k i o j n).2.1 ∧ SR (copyF cl ln sz0 k i o j n).2.2 ln sz0 (copyM mc so lg k i o j n).2.2 so lg := by
  unfold copyF copyM
  rcases q : (isP 4 k && isP 4 o) with _ | _
  · exact ⟨rfl, rfl, h⟩
  · have q0 := q
    rw [Bool.and_eq_true] at q0
    obtain ⟨k1, hk1, ek, gk⟩ := isP_of (n := 4) (by omega) q0.1
    obtain ⟨o1, ho1, eo, go⟩ := isP_of (n := 4) (by omega) q0.2
    rw [if_pos rfl, if_pos rfl, gk, go, h.has hk1, h.has ho1]
    rcases q2 : (hasM so k1 && hasM so o1) with _ | _
    · exact ⟨rfl, rfl, h⟩
    · have q3 := q2
      rw [Bool.and_eq_true] at q3
      have hk := h.at hk1 q3.1
      have ho := h.at ho1 q3.2
      rw [if_pos rfl, if_pos rfl, hk.2.1, ho.2.1, hk.2.2.1, ho.2.2.1]
      by_cases q4 : ln k1 = ln o1
      · rw [if_pos q4, if_pos q4]
        rcases q5 : (decide (0 ≤ n) && (plN i n (sz0 k1) && plN j n (sz0 o1))) with _ | _
        · exact ⟨rfl, rfl, h⟩
        · rw [if_pos rfl, if_pos rfl]
          rw [Bool.and_eq_true, Bool.and_eq_true, decide_eq_true_eq] at q5
          obtain ⟨m, hm, em, gm⟩ := nat_of q5.1
          obtain ⟨i1, hi1, ei, gi⟩ := plN_of h.1 hk1 hm em q5.2.1
          obtain ⟨j1, hj1, ej, gj⟩ := plN_of h.1 ho1 hm em q5.2.2
          rw [gi, gj, gm]
          refine ⟨rfl, rfl, h.1, h.2.1, fun k2 hk2 => ?_⟩
          rcases h.2.2 k2 hk2 with h3 | ⟨h3, h4, h5, h6⟩
          · exact Or.inl h3
          · refine Or.inr ⟨h3, h4, h5, fun i2 hi2 hl => ?_⟩
            show va_cpy cl cl (k1 * 60 + i1) (o1 * 60 + j1) m (k2 * 60 + i2) = va_cpy mc mc (60 * k1 + i1) (60 * o1 + j1) m (60 * k2 + i2)
            unfold va_cpy
            by_cases ec : o1 * 60 + j1 ≤ k2 * 60 + i2 ∧ k2 * 60 + i2 < o1 * 60 + j1 + m
            · rw [if_pos ec, if_pos (by omega)]
              obtain ⟨z1, hz1, ez⟩ := h.1 k1 hk1
              have h7 := hk.2.2.2 (i1 + (k2 * 60 + i2 - (o1 * 60 + j1))) (by omega) (plN_at ez hz1 hm q5.2.1 ei em hi1 (by omega))
              rw [show k1 * 60 + i1 + (k2 * 60 + i2 - (o1 * 60 + j1)) = k1 * 60 + (i1 + (k2 * 60 + i2 - (o1 * 60 + j1))) by omega, show 60 * k1 + i1 + (60 * k2 + i2 - (60 * o1 + j1)) = 60 * k1 + (i1 + (k2 * 60 + i2 - (o1 * 60 + j1))) by omega]
              exact h7
            · rw [if_neg ec, if_neg (by omega)]
              exact h6 i2 hi2 hl
      · rw [if_neg q4, if_neg q4]
        exact ⟨rfl, rfl, h⟩
/-- the row that a call names is the same on both sides -/
theorem SR.rows (h : SR cl ln sz0 mc so lg) {k : Nat} (hk : k < 4) {lane i n : Int32} (hf : fCelM so lg k lane i n = 0) {i1 m : Nat} (hm : m < 2 ^ 31) (ei : i = nI i1) (em : n = nI m) (hi : i1 + m ≤ 60) : ∀ q, q < m → rowC cl k i1 q = rowM mc k i1 q := fun q hq => by
  have h2 := h.at hk (fRowM_0 (fCelM_0 hf).1).1
  have h3 := (fCelM_0 hf).2.2
  rw [h2.2.2.1] at h3
  obtain ⟨z1, hz1, ez⟩ := h.1 k hk
  have h7 := h2.2.2.2 (i1 + q) (by omega) (plN_at ez hz1 hm h3 ei em hi hq)
  show cl (k * 60 + (i1 + q)) = mc (60 * k + i1 + q)
  rw [h7, Nat.add_assoc]
end SRs
theorem ofPl_c {Y Z : YS} (h : EqY Y Z) (hok : OkY Y) (w : Int32) : ofPlF Y w = ofPlF Z w := by
  have hd : Y.D = Z.D := h.1
  have hp : Y.P = Z.P := h.2.1
  unfold ofPlF
  rw [← hd, ← hp]
  by_cases q1 : nI 20 ≤ w
  · rw [if_pos q1, if_pos q1]
    rcases q2 : isP Y.D (w - nI 20) with _ | _
    · simp
    · obtain ⟨j, hj, e, g⟩ := isP_of (by have := hok.1; omega) q2
      rw [if_pos rfl, if_pos rfl, g, msk_congr (fun p h9 => std_c h hj h9)]
  · rw [if_neg q1, if_neg q1]
    by_cases q3 : nI 10 ≤ w
    · rw [if_pos q3, if_pos q3]
      rcases q2 : isP Y.P (w - nI 10) with _ | _
      · simp
      · obtain ⟨j, hj, e, g⟩ := isP_of (by have := hok.2; omega) q2
        rw [if_pos rfl, if_pos rfl, g, hb_c h hj (Nat.le_refl _)]
    · rw [if_neg q3, if_neg q3, bish_c h, sumF_congr (fun p h9 => hb_c h h9 (Nat.le_refl _)), msk_congr (b := crB Y) (c := crB Z) (fun d h9 => ?_), fstB_congr (b := rsB Y) (c := rsB Z) _ _ (fun p _ h9 => ?_)]
      · have h9 : p < Y.P := by omega
        unfold rsB
        have hu : EqY (Y.sPret (upd Y.pret p (nI (aD Y.D)))) (Z.sPret (upd Z.pret p (nI (aD Z.D)))) := by
          refine ⟨h.1, h.2.1, h.2.2.1, h.2.2.2.1, h.2.2.2.2.1, fun q hq => ⟨(h.2.2.2.2.2 q hq).1, (h.2.2.2.2.2 q hq).2.1, (h.2.2.2.2.2 q hq).2.2.1, ?_⟩⟩
          show upd Y.pret p (nI (aD Y.D)) q = upd Z.pret p (nI (aD Z.D)) q
          rw [hd]
          unfold upd
          split
          · rfl
          · exact (h.2.2.2.2.2 q hq).2.2.2
        rw [← hd, hb_c h h9 (Nat.le_refl _), hrs_c h h9, cnt_congr (fun d h8 => std_c hu h8 h9), hd]
      · unfold crB
        rw [show Y.rm = Z.rm from h.2.2.2.1, hp, cnt_congr (n := Z.P) (fun p h8 => wd_c h h9 (by rw [hp]; exact h8))]
