/-! the class and the model, held side by side -/
def RT (T M : YS) : Prop := T.pret = (fun _ => nI 0) ∧ EqY T.np M.np ∧ GdY M ∧ (M.D = 0 ↔ M.P = 0)
section RTs
variable {T M : YS}
theorem RT.self (h : RT T M) : T.np = T := by
  unfold YS.np
  rw [← h.1]
theorem RT.d (h : RT T M) : T.D = M.D := h.2.1.1
theorem RT.p (h : RT T M) : T.P = M.P := h.2.1.2.1
theorem RT.b (h : RT T M) : T.db = M.db := h.2.1.2.2.1
theorem RT.r (h : RT T M) : T.rm = M.rm := h.2.1.2.2.2.1
theorem RT.hd (h : RT T M) {d : Nat} (hd : d < T.D) : T.hard d = M.hard d := h.2.1.2.2.2.2.1 d hd
theorem RT.kd (h : RT T M) {p : Nat} (hp : p < T.P) : T.kind p = M.kind p := (h.2.1.2.2.2.2.2 p hp).1
theorem RT.wt (h : RT T M) {p : Nat} (hp : p < T.P) : T.wit p = M.wit p := (h.2.1.2.2.2.2.2 p hp).2.1
theorem RT.pt (h : RT T M) {p : Nat} (hp : p < T.P) : T.pat p = M.pat p := (h.2.1.2.2.2.2.2 p hp).2.2.1
theorem RT.ok (h : RT T M) : OkY T := ⟨by have := h.2.2.1.1.1; have := h.d; omega, by have := h.2.2.1.1.2; have := h.p; omega⟩
theorem RT.P9 (h : RT T M) : T.P < 1000 := by have := h.ok.2; omega
theorem RT.D9 (h : RT T M) : T.D < 1000 := by have := h.ok.1; omega
theorem RT.pre (h : RT T M) {f g : Nat → Int32} (hf : ∀ p, p < T.P → f p = g p) : EqY (T.sPret f) (M.sPret g) :=
  ⟨h.d, h.p, h.b, h.r, fun d hd => h.hd hd, fun p hp => ⟨h.kd hp, h.wt hp, h.pt hp, hf p hp⟩⟩
theorem EqY.uH {Y Z : YS} (h : EqY Y Z) (i : Nat) (v : Int32) : EqY (Y.sHard (upd Y.hard i v)) (Z.sHard (upd Z.hard i v)) := by
  obtain ⟨h1, h2, h3, h4, h5, h6⟩ := h
  refine ⟨h1, h2, h3, h4, fun d hd => ?_, h6⟩
  show upd Y.hard i v d = upd Z.hard i v d
  unfold upd
  split
  · rfl
  · exact h5 d hd
theorem EqY.uW {Y Z : YS} (h : EqY Y Z) (i : Nat) (v : Int32) : EqY (Y.sWit (upd Y.wit i v)) (Z.sWit (upd Z.wit i v)) := by
  obtain ⟨h1, h2, h3, h4, h5, h6⟩ := h
  refine ⟨h1, h2, h3, h4, h5, fun p hp => ⟨(h6 p hp).1, ?_, (h6 p hp).2.2⟩⟩
  show upd Y.wit i v p = upd Z.wit i v p
  unfold upd
  split
  · rfl
  · exact (h6 p hp).2.1
theorem EqY.uK {Y Z : YS} (h : EqY Y Z) (i : Nat) (v : Int32) : EqY (Y.sKind (upd Y.kind i v)) (Z.sKind (upd Z.kind i v)) := by
  obtain ⟨h1, h2, h3, h4, h5, h6⟩ := h
  refine ⟨h1, h2, h3, h4, h5, fun p hp => ⟨?_, (h6 p hp).2⟩⟩
  show upd Y.kind i v p = upd Z.kind i v p
  unfold upd
  split
  · rfl
  · exact (h6 p hp).1
theorem r_ofPupil (h : RT T M) (p w : Int32) : ofPupilF T p w = ofPupilF M p w := by
  unfold ofPupilF
  rw [← h.p]
  rcases q : isP T.P p with _ | _
  · simp
  · obtain ⟨j, hj, e, g⟩ := isP_of h.P9 q
    rw [g, show hrs T j = hrs M j from by unfold hrs; rw [h.kd hj, h.pt hj], h.kd hj, h.wt hj, h.pt hj]
theorem r_hard (h : RT T M) (d : Int32) : hardF T d = hardF M d := by
  unfold hardF
  rw [← h.d]
  rcases q : isP T.D d with _ | _
  · simp
  · obtain ⟨j, hj, e, g⟩ := isP_of h.D9 q
    rw [g, h.hd hj]
theorem r_would (h : RT T M) (p d : Int32) (b : Bool) : wouldF T p d b = wouldF M p d b := by
  unfold wouldF
  rw [← h.d, ← h.p]
  rcases q : isP T.P p with _ | _
  · simp
  · rcases q2 : isP T.D d with _ | _
    · simp
    · obtain ⟨j, hj, e, g⟩ := isP_of h.P9 q
      obtain ⟨i, hi, e2, g2⟩ := isP_of h.D9 q2
      rw [g, g2, h.wt hj, h.hd hi, h.b]
theorem r_stand (h : RT T M) (d : Int32) : standF T d = standF M.np d := by
  have h2 := h.2.1
  rw [h.self] at h2
  unfold standF
  show (if isP T.D d = true then _ else _) = (if isP M.D d = true then nI (msk M.P (std M.np d.toNatClampNeg)) else (-1))
  rw [← h.d, ← h.p]
  rcases q : isP T.D d with _ | _
  · simp
  · obtain ⟨i, hi, e2, g2⟩ := isP_of h.D9 q
    rw [g2, if_pos rfl, if_pos rfl, msk_congr (fun p hp => std_c h2 hi hp)]
theorem r_bishop (h : RT T M) : bishopF T = bishopF M.np := by
  have h2 := h.2.1
  rw [h.self] at h2
  unfold bishopF
  show _ = (if 0 < M.P then bish M.np else (-3))
  rw [← h.p, bish_c h2]
theorem r_many (h : RT T M) (ct : Nat) (w : Int32) : manyF T ct w = manyF M ct w := by
  unfold manyF
  rw [h.p, h.d, h.b, h.r]
theorem r_tell (h : RT T M) (tr p : Int32) : tellF T tr p = tellF M tr p := by
  unfold tellF
  rw [← h.p]
  rcases q : isP T.P p with _ | _
  · simp
  · obtain ⟨j, hj, e, g⟩ := isP_of h.P9 q
    rw [g, h.kd hj, h.pt hj]
theorem r_cap (h : RT T M) (tr p : Int32) : capF T tr p = capF M tr p := by
  unfold capF
  rw [← h.p]
  rcases q : isP T.P p with _ | _
  · simp
  · obtain ⟨j, hj, e, g⟩ := isP_of h.P9 q
    rw [g, h.kd hj]
theorem r_as (h : RT T M) (p k : Int32) : asF T p k = asF M p k := by
  unfold asF
  rw [← h.p]
  rcases q : isP T.P p with _ | _
  · simp
  · obtain ⟨j, hj, e, g⟩ := isP_of h.P9 q
    rw [g, h.kd hj]
theorem r_ask (h : RT T M) (p v : Int32) : (askF T p v).1 = (askF M p v).1 ∧ RT (askF T p v).2 (askF M p v).2 ∧ (askF T p v).2.D = T.D ∧ (askF T p v).2.P = T.P := by
  unfold askF
  rw [← h.d]
  rcases q : isP T.D p with _ | _
  · exact ⟨rfl, h, rfl, rfl⟩
  · obtain ⟨j, hj, e, g⟩ := isP_of h.D9 q
    rw [g, if_pos rfl, if_pos rfl]
    rcases q2 : isP 10 v with _ | _
    · exact ⟨rfl, h, rfl, rfl⟩
    · refine ⟨h.hd hj, ⟨h.1, ?_, h.2.2.1, h.2.2.2⟩, rfl, rfl⟩
      exact EqY.uH h.2.1 j v
theorem r_teach (h : RT T M) (p v : Int32) : (teachF T p v).1 = (teachF M p v).1 ∧ RT (teachF T p v).2 (teachF M p v).2 ∧ (teachF T p v).2.D = T.D ∧ (teachF T p v).2.P = T.P := by
  unfold teachF
  rw [← h.p]
  rcases q : isP T.P p with _ | _
  · exact ⟨rfl, h, rfl, rfl⟩
  · obtain ⟨j, hj, e, g⟩ := isP_of h.P9 q
    rw [g, if_pos rfl, if_pos rfl]
    rcases q2 : isP 10 v with _ | _
    · exact ⟨rfl, h, rfl, rfl⟩
    · refine ⟨h.wt hj, ⟨h.1, ?_, h.2.2.1, h.2.2.2⟩, rfl, rfl⟩
      exact EqY.uW h.2.1 j v
theorem r_doubt (h : RT T M) (v : Int32) : (doubtF T v).1 = (doubtF M v).1 ∧ RT (doubtF T v).2 (doubtF M v).2 ∧ (doubtF T v).2.D = T.D ∧ (doubtF T v).2.P = T.P := by
  unfold doubtF
  rw [← h.p]
  rcases q2 : isP 10 v with _ | _
  · exact ⟨rfl, h, rfl, rfl⟩
  · rw [if_pos rfl, if_pos rfl]
    by_cases q : 0 < T.P
    · rw [if_pos q, if_pos q]
      exact ⟨h.b, ⟨h.1, ⟨h.d, h.p, rfl, h.r, h.2.1.2.2.2.2⟩, h.2.2.1, h.2.2.2⟩, rfl, rfl⟩
    · rw [if_neg q, if_neg q]
      exact ⟨rfl, h, rfl, rfl⟩
theorem r_build (h : RT T M) (v : Int32) : (buildF T v).1 = (buildF M v).1 ∧ RT (buildF T v).2 (buildF M v).2 ∧ (buildF T v).2.D = T.D ∧ (buildF T v).2.P = T.P := by
  unfold buildF
  rw [← h.p]
  rcases q2 : (decide (nI 1 ≤ v) && decide (v ≤ nI 4)) with _ | _
  · exact ⟨rfl, h, rfl, rfl⟩
  · rw [if_pos rfl, if_pos rfl]
    by_cases q : 0 < T.P
    · rw [if_pos q, if_pos q]
      have h3 : ∃ r : Nat, r ≤ 4 ∧ v = nI r := by
        rw [Bool.and_eq_true, decide_eq_true_eq, decide_eq_true_eq] at q2
        obtain ⟨m, hm, e, _⟩ := nat_of (n := v) (Int32.le_trans (nI_pos' (n := 1) (by omega)) q2.1)
        rw [e] at q2
        exact ⟨m, (nI_leI hm (by omega)).mp q2.2, e⟩
      exact ⟨h.r, ⟨h.1, ⟨h.d, h.p, h.b, rfl, h.2.1.2.2.2.2⟩, ⟨h.2.2.1.1, h3, h.2.2.1.2.2⟩, h.2.2.2⟩, rfl, rfl⟩
    · rw [if_neg q, if_neg q]
      exact ⟨rfl, h, rfl, rfl⟩
theorem r_choose (h : RT T M) (p d : Int32) : chooseF T p d = chooseF M p d := by
  unfold chooseF
  rw [← h.d, ← h.p, fstB_congr 10 0 (fun v _ _ => ?_)]
  unfold chB
  rw [bish_c (EqY.uH h.2.1 d.toNatClampNeg (nI v))]
theorem bsF_congr {f g : Nat → Bool} (n : Nat) (h : ∀ i, f i = g i) : bsF f n = bsF g n := by
  rw [show f = g from funext h]
theorem r_best (h : RT T M) (p : Int32) : bestF T p = bestF M p := by
  unfold bestF
  rw [← h.d, ← h.p, bsF_congr _ (fun v => ?_)]
  unfold beB
  rw [bish_c (h.pre (f := upd (fun _ => nI 0) p.toNatClampNeg (nI v)) (g := upd (fun _ => nI 0) p.toNatClampNeg (nI v)) (fun _ _ => rfl))]
theorem r_odds (h : RT T M) (p w : Int32) : oddsF T p w = oddsF M p w := by
  have e : odB T p.toNatClampNeg = odB M p.toNatClampNeg := by
    funext k
    unfold odB
    rw [bish_c (h.pre (f := fun p => if hbit (nI k) p then nI (aD T.D) else nI 0) (g := fun p => if hbit (nI k) p then nI (aD M.D) else nI 0) (fun p _ => by rw [h.d]))]
  unfold oddsF
  rw [← h.p, e]
end RTs
/-- the readings -/
def RR (T : YS) (ct : Nat) (wh wn : Nat → Nat) (hs : Nat → Int32) (mt : Nat) (mw mn : Nat → Nat) (mh : Nat → Int32) : Prop := ct = mt ∧ ct ≤ 8 ∧ ∀ r, r < ct → wh r = mw r ∧ wn r = mn r ∧ hs r = mh r ∧ wh r < T.P ∧ wn r ≤ T.D
section RRs
variable {T M : YS} {ct mt : Nat} {wh wn mw mn : Nat → Nat} {hs mh : Nat → Int32}
theorem RR.in (h : RR T ct wh wn hs mt mw mn mh) : ∀ r, r < ct → wh r < T.P ∧ wn r ≤ T.D := fun r hr => ⟨(h.2.2 r hr).2.2.2.1, (h.2.2 r hr).2.2.2.2⟩
theorem RR.inM (h : RR T ct wh wn hs mt mw mn mh) (ht : RT T M) : ∀ r, r < mt → mw r < M.P ∧ mn r ≤ M.D := fun r hr => by
  have h2 := h.2.2 r (by rw [h.1]; exact hr)
  have := ht.p
  have := ht.d
  rw [← h2.1, ← h2.2.1]
  omega
theorem RR.to {T2 : YS} (h : RR T ct wh wn hs mt mw mn mh) (hD : T2.D = T.D) (hP : T2.P = T.P) : RR T2 ct wh wn hs mt mw mn mh := ⟨h.1, h.2.1, fun r hr => by rw [hD, hP]; exact h.2.2 r hr⟩
theorem so_r (h : RR T ct wh wn hs mt mw mn mh) (Z : YS) : soY Z ct wh wn hs = soY Z mt mw mn mh := by
  unfold soY
  rw [← h.1]
  refine allB_congr (fun r hr => ?_)
  have h2 := h.2.2 r hr
  rw [h2.1, h2.2.1, h2.2.2.1]
theorem r_wits (ht : RT T M) (h : RR T ct wh wn hs mt mw mn mh) (p : Int32) : witsF T ct wh wn hs p = witsF M mt mw mn mh p := by
  unfold witsF
  rw [← ht.p, msk_congr (fun v _ => ?_)]
  rw [← so_r h]
  exact soY_c (EqY.uW ht.2.1 p.toNatClampNeg (nI v)) h.in
theorem r_kinds (ht : RT T M) (h : RR T ct wh wn hs mt mw mn mh) (p : Int32) : kindsF T ct wh wn hs p = kindsF M mt mw mn mh p := by
  unfold kindsF
  rw [← ht.p, msk_congr (fun v _ => ?_)]
  rw [← so_r h]
  exact soY_c (EqY.uK ht.2.1 p.toNatClampNeg (nI v)) h.in
theorem r_hards (ht : RT T M) (h : RR T ct wh wn hs mt mw mn mh) (p : Int32) : hardsF T ct wh wn hs p = hardsF M mt mw mn mh p := by
  unfold hardsF
  rw [← ht.d, msk_congr (fun v _ => ?_)]
  rw [← so_r h]
  exact soY_c (EqY.uH ht.2.1 p.toNatClampNeg (nI v)) h.in
theorem r_back (h : RR T ct wh wn hs mt mw mn mh) (k : Int32) : (backF ct k).1 = (backF mt k).1 ∧ RR T (backF ct k).2 wh wn hs (backF mt k).2 mw mn mh := by
  obtain ⟨h1, h2, h3⟩ := h
  subst h1
  refine ⟨rfl, rfl, ?_⟩
  have h4 : (backF ct k).2 ≤ ct := by
    unfold backF
    split
    · exact Nat.sub_le _ _
    · exact Nat.le_refl _
  exact ⟨by omega, fun r hr => h3 r (by omega)⟩
theorem r_reading (ht : RT T M) (h : RR T ct wh wn hs mt mw mn mh) (p t v : Int32) : (readingF T ct wh wn hs p t v).1 = (readingF M mt mw mn mh p t v).1 ∧ RR T (readingF T ct wh wn hs p t v).2.1 (readingF T ct wh wn hs p t v).2.2.1 (readingF T ct wh wn hs p t v).2.2.2.1 (readingF T ct wh wn hs p t v).2.2.2.2 (readingF M mt mw mn mh p t v).2.1 (readingF M mt mw mn mh p t v).2.2.1 (readingF M mt mw mn mh p t v).2.2.2.1 (readingF M mt mw mn mh p t v).2.2.2.2 := by
  have hh := h
  obtain ⟨h1, h2, h3⟩ := h
  subst h1
  unfold readingF
  rw [← ht.p, ← ht.d]
  rcases q : isP T.P p with _ | _
  · exact ⟨rfl, hh⟩
  · obtain ⟨j, hj, e, g⟩ := isP_of ht.P9 q
    rw [if_pos rfl, if_pos rfl]
    rcases q2 : ((decide (0 ≤ t) && decide (t ≤ nI T.D)) && (decide (0 ≤ v) && decide (v ≤ nI 99))) with _ | _
    · exact ⟨rfl, hh⟩
    · rw [if_pos rfl, if_pos rfl]
      by_cases q3 : ct < 8
      · rw [if_pos q3, if_pos q3]
        rw [Bool.and_eq_true, Bool.and_eq_true, decide_eq_true_eq, decide_eq_true_eq] at q2
        obtain ⟨i, hi, e2, g2⟩ := le_of (n := T.D) (by have := ht.D9; omega) q2.1.1 q2.1.2
        rw [g, g2]
        refine ⟨rfl, rfl, show ct + 1 ≤ 8 by omega, fun r hr => ?_⟩
        have hr : r < ct + 1 := hr
        show updN wh ct j r = updN mw ct j r ∧ updN wn ct i r = updN mn ct i r ∧ upd hs ct v r = upd mh ct v r ∧ updN wh ct j r < T.P ∧ updN wn ct i r ≤ T.D
        unfold updN upd
        by_cases er : r = ct
        · rw [if_pos er, if_pos er, if_pos er, if_pos er, if_pos er, if_pos er]
          exact ⟨rfl, rfl, rfl, hj, hi⟩
        · rw [if_neg er, if_neg er, if_neg er, if_neg er, if_neg er, if_neg er]
          exact h3 r (by omega)
      · rw [if_neg q3, if_neg q3]
        exact ⟨rfl, hh⟩
end RRs
