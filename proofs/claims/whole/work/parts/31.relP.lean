section RPs
variable {T M E : YS} {cl ln sz0 mc so lg : Nat → Int32} {ct mt : Nat} {wh wn mw mn : Nat → Nat} {hs mh : Nat → Int32}
theorem r_plan (ht : RT T M) (h : SR cl ln sz0 mc so lg) (k lane i n w : Int32) : planF T cl ln sz0 k lane i n w = planM M mc so lg k lane i n w := by
  unfold planF planM
  rcases q : isP 4 k with _ | _
  · simp
  · obtain ⟨j, hj, e, g⟩ := isP_of (n := 4) (by omega) q
    rw [if_pos rfl, if_pos rfl, g]
    rcases q2 : (isP 3 lane && isPl w) with _ | _
    · simp
    · rw [if_pos rfl, if_pos rfl, h.cel hj]
      by_cases q3 : fCelM so lg j lane i n = 0
      · rw [if_pos q3, if_pos q3, ← ht.p]
        by_cases q4 : 0 < T.P
        · rw [if_pos q4, if_pos q4]
          by_cases q5 : n = nI T.P
          · rw [if_pos q5, if_pos q5]
            have hP4 := ht.ok.2
            obtain ⟨i1, hi1, ei, gi⟩ := plN_of h.2.1 hj (m := T.P) (by omega) q5 (fCelM_0 q3).2.2
            rw [gi]
            have hrow := h.rows hj q3 (m := T.P) (by omega) ei q5 hi1
            have hall : allB T.P (plB T (rowC cl j i1)) = allB T.P (plB M (rowM mc j i1)) := allB_congr (fun p hp => by
              unfold plB
              rw [hrow p hp, ht.d])
            rw [hall]
            rcases q6 : allB T.P (plB M (rowM mc j i1)) with _ | _
            · simp
            · rw [if_pos rfl, if_pos rfl]
              congr 1
              refine ofPl_c (ht.pre (f := tab T.P (rowC cl j i1) (fun _ => nI 0)) (g := tab T.P (rowM mc j i1) M.pret) (fun p hp => ?_)) ⟨ht.ok.1, ht.ok.2⟩ w
              rw [tab_lt hp, tab_lt hp]
              exact hrow p hp
          · rw [if_neg q5, if_neg q5]
        · rw [if_neg q4, if_neg q4]
      · rw [if_neg q3, if_neg q3]
theorem rn_c {f g : Nat → Int32} {n : Nat} (h : ∀ q, q < n → f q = g q) : ∀ k, k ≤ n → rnF E f k = rnF E g k := by
  intro k
  induction k with
  | zero => intro _; rfl
  | succ k ih =>
    intro hk
    show (tk (rnF E f k).1 (rnF E f k).2 (f k)).2 = (tk (rnF E g k).1 (rnF E g k).2 (g k)).2
    rw [ih (by omega), h k (by omega)]
theorem ff_c {f g : Nat → Int32} {n : Nat} (h : ∀ q, q < n → f q = g q) : ffF E f n = ffF E g n := by
  have hb : ∀ k, k < n → rnB E f k = rnB E g k := fun k hk => by
    unfold rnB
    rw [rn_c h k (by omega), h k hk]
  unfold ffF
  rw [allB_congr hb, rn_c h n (Nat.le_refl _), fstB_congr (b := fun k => !rnB E f k) (c := fun k => !rnB E g k) n 0 (fun k _ hk => by show (!rnB E f k) = (!rnB E g k); rw [hb k (by omega)])]
theorem RT_of {Y M2 : YS} (hg : GdY Y) (hD : 0 < Y.D) (hP : 0 < Y.P) (he : EqY Y.np M2.np) : RT Y.np M2 := by
  have d : Y.D = M2.D := he.1
  have p : Y.P = M2.P := he.2.1
  refine ⟨rfl, he, ⟨⟨by have := hg.1.1; show M2.D ≤ 5; omega, by have := hg.1.2; show M2.P ≤ 4; omega⟩, ?_, fun q hq => ?_⟩, by omega⟩
  · obtain ⟨r, h1, h2⟩ := hg.2.1
    exact ⟨r, h1, (show Y.rm = M2.rm from he.2.2.2.1).symm.trans h2⟩
  · have hq : q < Y.P := by omega
    have h6 := he.2.2.2.2.2 q hq
    have k1 : Y.kind q = M2.kind q := h6.1
    have k2 : Y.pat q = M2.pat q := h6.2.2.1
    rw [← k1, ← k2]
    exact hg.2.2 q hq
theorem r_see (ht : RT T M) (hr : RR T ct wh wn hs mt mw mn mh) (h : SR cl ln sz0 mc so lg) (k lane i n : Int32) {M2 : YS} {mt2 : Nat} (ha : (seeM E so lg mc k lane i n).2.2 = true → EqY (rnF E (rowM mc k.toNatClampNeg i.toNatClampNeg) n.toNatClampNeg).2.np M2.np ∧ mt2 = 0) (hb : (seeM E so lg mc k lane i n).2.2 = false → M2 = M ∧ mt2 = mt) : (seeF T E ct cl ln sz0 k lane i n).1 = (seeM E so lg mc k lane i n).1 ∧ (seeF T E ct cl ln sz0 k lane i n).2.1 = (seeM E so lg mc k lane i n).2.1 ∧ RT (seeF T E ct cl ln sz0 k lane i n).2.2.1 M2 ∧ RR (seeF T E ct cl ln sz0 k lane i n).2.2.1 (seeF T E ct cl ln sz0 k lane i n).2.2.2 wh wn hs mt2 mw mn mh := by
  have hf : ∀ {a b : Int32} {F1 F2 : Int32 × Int32 × YS × Nat} {G : Int32 × Int32 × Bool}, F1 = (a, b, T, ct) → G = (a, b, false) → (G.2.2 = false → M2 = M ∧ mt2 = mt) → F1.1 = G.1 ∧ F1.2.1 = G.2.1 ∧ RT F1.2.2.1 M2 ∧ RR F1.2.2.1 F1.2.2.2 wh wn hs mt2 mw mn mh := by
    intro a b F1 F2 G e1 e2 h1
    subst e1 e2
    obtain ⟨e3, e4⟩ := h1 rfl
    subst e3 e4
    exact ⟨rfl, rfl, ht, hr⟩
  by_cases q : isP 4 k = true
  · obtain ⟨j, hj, e, g⟩ := isP_of (n := 4) (by omega) q
    by_cases q2 : isP 3 lane = true
    · by_cases q3 : fCelM so lg j lane i n = 0
      · have q3' : fCel ln sz0 j lane i n = 0 := by rw [h.cel hj]; exact q3
        obtain ⟨m, hm, em, gm⟩ := nat_of (fCelM_0 q3).2.1
        obtain ⟨i1, hi1, ei, gi⟩ := plN_of h.2.1 hj hm em (fCelM_0 q3).2.2
        have hrow := h.rows hj q3 hm ei em hi1
        have hff : ffF E (rowC cl j i1) m = ffF E (rowM mc j i1) m := ff_c hrow
        have hrn : rnF E (rowC cl j i1) m = rnF E (rowM mc j i1) m := rn_c hrow m (Nat.le_refl _)
        by_cases q4 : ffF E (rowM mc j i1) m = (-9)
        · have e1 : seeF T E ct cl ln sz0 k lane i n = (nI (rnF E (rowM mc j i1) m).2.P, nI 0, (rnF E (rowM mc j i1) m).2.np, 0) := by
            unfold seeF
            rw [if_pos q, if_pos q2, g, if_pos q3', gi, gm, hff, if_pos q4, hrn]
          have e2 : seeM E so lg mc k lane i n = (nI (rnF E (rowM mc j i1) m).2.P, nI 0, true) := by
            unfold seeM
            rw [if_pos q, if_pos q2, g, if_pos q3, gi, gm, if_pos q4]
          rw [e2] at ha
          obtain ⟨h1, h2⟩ := ha rfl
          rw [g, gi, gm] at h1
          obtain ⟨g1, g2, g3⟩ := ff_g (by omega) q4
          rw [e1, e2]
          subst h2
          exact ⟨rfl, rfl, RT_of g1 g2 g3 h1, rfl, by show 0 ≤ 8; omega, fun r hr => absurd hr (by show ¬ r < 0; omega)⟩
        · refine hf (F2 := (0, 0, T, ct)) (a := (-100) - ffF E (rowM mc j i1) m) (b := nI 0) ?_ ?_ hb
          · unfold seeF
            rw [if_pos q, if_pos q2, g, if_pos q3', gi, gm, hff, if_neg q4]
          · unfold seeM
            rw [if_pos q, if_pos q2, g, if_pos q3, gi, gm, if_neg q4]
      · refine hf (F2 := (0, 0, T, ct)) (a := (-10) - fCelM so lg j lane i n) (b := fCelM so lg j lane i n) ?_ ?_ hb
        · unfold seeF
          rw [if_pos q, if_pos q2, g, h.cel hj, if_neg q3]
        · unfold seeM
          rw [if_pos q, if_pos q2, g, if_neg q3]
    · refine hf (F2 := (0, 0, T, ct)) (a := (-2)) (b := nI 0) ?_ ?_ hb
      · unfold seeF
        rw [if_pos q, if_neg q2]
      · unfold seeM
        rw [if_pos q, if_neg q2]
  · refine hf (F2 := (0, 0, T, ct)) (a := (-1)) (b := nI 0) ?_ ?_ hb
    · unfold seeF
      rw [if_neg q]
    · unfold seeM
      rw [if_neg q]
/-- a change of what the model pretends changes nothing -/
theorem RT.gar (h : RT T M) (u : Nat → Int32) : RT T (M.sPret u) := ⟨h.1, h.2.1, h.2.2.1, h.2.2.2⟩
end RPs
