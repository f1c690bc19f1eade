/-- the reader has taken k codes and stands at s with Y -/
def CL (E : YS) (f : Nat → Int32) (k s : Nat) (Y : YS) : Prop := allB k (rnB E f) = true ∧ rnF E f k = (s, Y)
theorem CL_0 (E : YS) (f : Nat → Int32) : CL E f 0 0 E.zero := ⟨rfl, rfl⟩
theorem CL_s {E : YS} {f : Nat → Int32} {k s s' : Nat} {Y Y' : YS} (h : CL E f k s Y) (t : tk s Y (f k) = (true, s', Y')) : CL E f (k + 1) s' Y' := by
  have t2 : tk (rnF E f k).1 (rnF E f k).2 (f k) = (true, s', Y') := by rw [h.2]; exact t
  constructor
  · show (allB k (rnB E f) && rnB E f k) = true
    rw [h.1, show rnB E f k = true from by unfold rnB; rw [t2]]; rfl
  · show (tk (rnF E f k).1 (rnF E f k).2 (f k)).2 = (s', Y')
    rw [t2]
theorem CL_f {E : YS} {f : Nat → Int32} {k s n : Nat} {Y : YS} (h : CL E f k s Y) (hn : k ≤ n) (h9 : k = n → ¬ s = 9) (t : k < n → (tk s Y (f k)).1 = false) : ffF E f n = nI k := by
  unfold ffF
  by_cases e : k = n
  · subst e
    rw [if_pos h.1, h.2, if_neg (h9 rfl)]
  · have hk : k < n := by omega
    have hb : rnB E f k = false := by unfold rnB; rw [h.2]; exact t hk
    rw [allB_f hk hb, if_neg (by decide)]
    refine fstB_at n 0 k (Nat.zero_le _) (by omega) (fun i _ hi => ?_) ?_
    · rw [allB_iff.mp h.1 i hi]; rfl
    · show (!rnB E f k) = true
      rw [hb]; rfl
theorem CL_9 {E : YS} {f : Nat → Int32} {n : Nat} {Y : YS} (h : CL E f n 9 Y) : ffF E f n = (-9) := by
  unfold ffF
  rw [if_pos h.1, h.2, if_pos rfl]
abbrev fc (mc : Nat → Int32) (a : Nat) : Nat → Int32 := fun q => mc (a + q)
theorem sgC_nt {mc : Nat → Int32} {p e : Nat} {c : Int32} (h : sgC mc p e c = false) (hp : p < e) : decide (mc p = c) = false := decide_eq_false (sgC_f h hp)
theorem okC_nt {mc : Nat → Int32} {p e : Nat} (h : okC mc p e 0 9 = false) (hp : p < e) : dg (mc p) = false := by
  unfold okC at h
  rw [decide_eq_true hp, Bool.true_and] at h
  exact h
theorem okC_ty {mc : Nat → Int32} {p e a b : Nat} (h : okC mc p e a b = true) : p < e ∧ wiB (mc p) (nI (48 + a)) (nI (48 + b)) = true := by
  unfold okC at h
  rw [Bool.and_eq_true, decide_eq_true_eq] at h
  exact h
section
variable {E : YS} {mc : Nat → Int32} {a n : Nat} {Y : YS}
theorem L0f (h : sgC mc a (a + n) (nI 99) = false) : ffF E (fc mc a) n = nI 0 :=
  CL_f (CL_0 E _) (Nat.zero_le _) (fun _ => by decide) (fun hn => by
    show decide (mc a = nI 99) = false
    exact sgC_nt h (by omega))
theorem L0t (h : sgC mc a (a + n) (nI 99) = true) : CL E (fc mc a) 1 1 E.zero := by
  have h2 := sgC_t h
  refine CL_s (CL_0 E _) ?_
  show (decide (mc a = nI 99), (if decide (mc a = nI 99) = true then 1 else 0), _) = _
  rw [decide_eq_true h2.2]; rfl
theorem L1f (hc : CL E (fc mc a) 1 1 Y) (h1 : 1 ≤ n) (h : okC mc (a + 1) (a + n) 0 9 = false) : ffF E (fc mc a) n = nI 1 :=
  CL_f hc h1 (fun _ => by decide) (fun hn => by
    show dg (mc (a + 1)) = false
    exact okC_nt h (by omega))
theorem L1t (hc : CL E (fc mc a) 1 1 Y) (h : okC mc (a + 1) (a + n) 0 9 = true) : CL E (fc mc a) 2 2 (Y.sDb (mc (a + 1) - nI 48)) := by
  have h2 : dg (mc (a + 1)) = true := (okC_ty h).2
  refine CL_s hc ?_
  show (dg (mc (a + 1)), (if dg (mc (a + 1)) = true then 2 else 1), _) = _
  rw [h2]; rfl
theorem L2f (hc : CL E (fc mc a) 2 2 Y) (h1 : 2 ≤ n) (h : okC mc (a + 2) (a + n) 1 4 = false) : ffF E (fc mc a) n = nI 2 :=
  CL_f hc h1 (fun _ => by decide) (fun hn => by
    unfold okC at h
    rw [decide_eq_true (by omega), Bool.true_and] at h
    exact h)
theorem L2t (hc : CL E (fc mc a) 2 2 Y) (h : okC mc (a + 2) (a + n) 1 4 = true) : CL E (fc mc a) 3 3 (Y.sRm (mc (a + 2) - nI 48)) := by
  have h2 : (decide (nI 49 ≤ mc (a + 2)) && decide (mc (a + 2) ≤ nI 52)) = true := (okC_ty h).2
  refine CL_s hc ?_
  show ((decide (nI 49 ≤ mc (a + 2)) && decide (mc (a + 2) ≤ nI 52)), (if (decide (nI 49 ≤ mc (a + 2)) && decide (mc (a + 2) ≤ nI 52)) = true then 3 else 2), _) = _
  rw [h2]; rfl
theorem L3f (hc : CL E (fc mc a) 3 3 Y) (h1 : 3 ≤ n) (h : sgC mc (a + 3) (a + n) (nI 44) = false) : ffF E (fc mc a) n = nI 3 :=
  CL_f hc h1 (fun _ => by decide) (fun hn => by
    show decide (mc (a + 3) = nI 44) = false
    exact sgC_nt h (by omega))
theorem L3t (hc : CL E (fc mc a) 3 3 Y) (h : sgC mc (a + 3) (a + n) (nI 44) = true) : CL E (fc mc a) 4 4 Y := by
  have h2 := sgC_t h
  refine CL_s hc ?_
  show (decide (mc (a + 3) = nI 44), (if decide (mc (a + 3) = nI 44) = true then 4 else 3), _) = _
  rw [decide_eq_true h2.2]; rfl
theorem dys_le (p e : Nat) : dysM mc p e ≤ 5 ∧ (∀ q, q < dysM mc p e → okC mc (p + q) e 0 9 = true) ∧ (dysM mc p e = 5 ∨ okC mc (p + dysM mc p e) e 0 9 = false) := by
  have h : ∀ (n k : Nat) (f : Nat → Bool), k ≤ lead n f k ∧ lead n f k ≤ k + n ∧ (∀ q, k ≤ q → q < lead n f k → f q = true) ∧ (lead n f k = k + n ∨ f (lead n f k) = false) := by
    intro n
    induction n with
    | zero => intro k f; exact ⟨Nat.le_refl _, Nat.le_refl _, fun q h1 h2 => absurd h2 (by show ¬ q < k; omega), Or.inl rfl⟩
    | succ n ih =>
      intro k f
      unfold lead
      rcases hf : f k with _ | _
      · rw [if_neg (by decide)]
        exact ⟨Nat.le_refl _, by omega, fun q h1 h2 => by omega, Or.inr hf⟩
      · rw [if_pos rfl]
        obtain ⟨h1, h2, h3, h4⟩ := ih (k + 1) f
        refine ⟨by omega, by omega, fun q h5 h6 => ?_, ?_⟩
        · by_cases e : q = k
          · subst e; exact hf
          · exact h3 q (by omega) h6
        · rcases h4 with h4 | h4
          · left; omega
          · right; exact h4
  obtain ⟨h1, h2, h3, h4⟩ := h 5 0 (fun q => okC mc (p + q) e 0 9)
  exact ⟨by unfold dysM; omega, fun q hq => h3 q (Nat.zero_le _) hq, by
    rcases h4 with h4 | h4
    · left; unfold dysM; omega
    · right; exact h4⟩
/-- what the days' digits do to the told -/
theorem LDs (hc : CL E (fc mc a) 4 4 Y) (h0 : Y.D = 0) {m : Nat} (hm : m ≤ 5) (h : ∀ q, q < m → okC mc (a + 4 + q) (a + n) 0 9 = true) : ∀ j, j ≤ m → 0 < j → CL E (fc mc a) (4 + j) 5 (j, Y.P, Y.db, Y.rm, tab j (fun q => mc (a + 4 + q) - nI 48) Y.hard, Y.kind, Y.wit, Y.pat, Y.pret) := by
  intro j
  induction j with
  | zero => intro _ h; omega
  | succ j ih =>
    intro hj _
    have h2 : dg (mc (a + (4 + j))) = true := by
      have := (okC_ty (h j (by omega))).2
      rw [Nat.add_assoc] at this
      exact this
    by_cases e : j = 0
    · subst e
      refine CL_s hc ?_
      show tkD 4 Y (mc (a + (4 + 0))) = _
      unfold tkD
      rw [h2, decide_eq_true (by omega), Bool.and_self, if_pos rfl]
      unfold YS.addD
      rw [h0, ← tab_s, tab_0]
    · refine CL_s (ih (by omega) (by omega)) ?_
      have h3 : ¬ mc (a + (4 + j)) = nI 59 := by
        intro q
        rw [q] at h2
        exact absurd h2 (by decide)
      show (if mc (a + (4 + j)) = nI 59 then _ else tkD 5 (j, _) (mc (a + (4 + j)))) = _
      rw [if_neg h3]
      unfold tkD
      rw [h2, decide_eq_true (show YS.D (j, Y.P, Y.db, Y.rm, tab j (fun q => mc (a + 4 + q) - nI 48) Y.hard, Y.kind, Y.wit, Y.pat, Y.pret) < 5 from by show j < 5; omega), Bool.and_self, if_pos rfl]
      unfold YS.addD
      rw [← tab_s, ← Nat.add_assoc]
theorem LDf (hc : CL E (fc mc a) 4 4 Y) (h1 : 4 ≤ n) (h : okC mc (a + 4) (a + n) 0 9 = false) : ffF E (fc mc a) n = nI 4 :=
  CL_f hc h1 (fun _ => by decide) (fun hn => by
    show (tkD 4 Y (mc (a + 4))).1 = false
    unfold tkD
    rw [okC_nt h (by omega)]; rfl)
theorem LSf {k k0 : Nat} (hc : CL E (fc mc a) k0 (if k = 0 then 5 else 9) Y) (h1 : k0 ≤ n) (h : sgC mc (a + k0) (a + n) (nI 59) = false) (hd : k = 0 → Y.D = 5 ∨ okC mc (a + k0) (a + n) 0 9 = false) (hk : ¬ k = 0 → k0 < n) : ffF E (fc mc a) n = nI k0 := by
  by_cases e : k = 0
  · rw [if_pos e] at hc
    refine CL_f hc h1 (fun _ => by decide) (fun hn => ?_)
    show (if mc (a + k0) = nI 59 then _ else tkD 5 Y (mc (a + k0))).1 = false
    rw [if_neg (sgC_f h (by omega))]
    unfold tkD
    rcases hd e with h2 | h2
    · rw [decide_eq_false (by omega), Bool.and_false]; rfl
    · rw [okC_nt h2 (by omega)]; rfl
  · rw [if_neg e] at hc
    refine CL_f hc h1 (fun q => absurd (hk e) (by omega)) (fun hn => ?_)
    show (decide (mc (a + k0) = nI 59) && decide (Y.P < 4)) = false
    rw [decide_eq_false (sgC_f h (by omega))]; rfl
theorem LSt {k k0 : Nat} (hc : CL E (fc mc a) k0 (if k = 0 then 5 else 9) Y) (hP : Y.P < 4) (h : sgC mc (a + k0) (a + n) (nI 59) = true) : CL E (fc mc a) (k0 + 1) 6 Y := by
  have h2 := sgC_t h
  refine CL_s hc ?_
  by_cases e : k = 0
  · rw [if_pos e]
    show (if mc (a + k0) = nI 59 then _ else _) = _
    rw [if_pos h2.2]
  · rw [if_neg e]
    show (decide (mc (a + k0) = nI 59) && decide (Y.P < 4), (if (decide (mc (a + k0) = nI 59) && decide (Y.P < 4)) = true then 6 else 9), _) = _
    rw [decide_eq_true h2.2, decide_eq_true hP]; rfl
theorem kL0 : kL 0 = (-9) := by decide
theorem LPf {k1 : Nat} (hc : CL E (fc mc a) k1 6 Y) (hP : Y.P < 4) (h1 : k1 ≤ n) (h : kL (kcM mc (a + k1) (a + n)) = (-9)) : ffF E (fc mc a) n = nI k1 :=
  CL_f hc h1 (fun _ => by decide) (fun hn => by
    unfold kcM at h
    rw [if_pos (by omega)] at h
    show (if Y.P < 4 then tkP 6 Y (mc (a + k1)) else _).1 = false
    rw [if_pos hP]
    show decide (¬ kL (mc (a + k1)) = (-9)) = false
    exact decide_eq_false (fun q => q h))
theorem LPt {k1 : Nat} (hc : CL E (fc mc a) k1 6 Y) (hP : Y.P < 4) (h : ¬ kL (kcM mc (a + k1) (a + n)) = (-9)) : k1 < n ∧ CL E (fc mc a) (k1 + 1) 7 (Y.sKind (upd Y.kind Y.P (kL (kcM mc (a + k1) (a + n))))) := by
  have hk : a + k1 < a + n := by
    by_cases q : a + k1 < a + n
    · exact q
    · unfold kcM at h
      rw [if_neg q] at h
      exact absurd kL0 h
  have e : kcM mc (a + k1) (a + n) = mc (a + k1) := by unfold kcM; rw [if_pos hk]
  rw [e] at h ⊢
  refine ⟨by omega, CL_s hc ?_⟩
  show (if Y.P < 4 then tkP 6 Y (mc (a + k1)) else _) = _
  rw [if_pos hP]
  show (decide (¬ kL (mc (a + k1)) = (-9)), (if decide (¬ kL (mc (a + k1)) = (-9)) = true then 7 else 6), _) = _
  rw [decide_eq_true h]; rfl
theorem LWf {k2 : Nat} {s : Nat} (hs : s = 7 ∨ s = 8) (hc : CL E (fc mc a) k2 s Y) (h1 : k2 ≤ n) (h : okC mc (a + k2) (a + n) 0 9 = false) : ffF E (fc mc a) n = nI k2 :=
  CL_f hc h1 (fun _ => by omega) (fun hn => by
    have h2 := okC_nt h (by omega)
    rcases hs with e | e
    · subst e
      show (if Y.P < 4 then tkP 7 Y (mc (a + k2)) else _).1 = false
      split
      · unfold tkP
        rw [h2, if_neg (by decide)]; rfl
      · rfl
    · subst e
      show (if Y.P < 4 then tkP 8 Y (mc (a + k2)) else _).1 = false
      split
      · unfold tkP
        rw [h2, if_neg (by decide)]; rfl
      · rfl)
theorem LWt {k2 : Nat} (hc : CL E (fc mc a) k2 7 Y) (hP : Y.P < 4) (h : okC mc (a + k2) (a + n) 0 9 = true) : CL E (fc mc a) (k2 + 1) 8 (Y.sWit (upd Y.wit Y.P (mc (a + k2) - nI 48))) := by
  have h2 : dg (mc (a + k2)) = true := (okC_ty h).2
  refine CL_s hc ?_
  show (if Y.P < 4 then tkP 7 Y (mc (a + k2)) else _) = _
  rw [if_pos hP]
  show (if dg (mc (a + k2)) = true then _ else _) = _
  rw [if_pos h2]; rfl
theorem LTt {k2 : Nat} (hc : CL E (fc mc a) k2 8 Y) (hP : Y.P < 4) (h : okC mc (a + k2) (a + n) 0 9 = true) : CL E (fc mc a) (k2 + 1) 9 (Y.addP (mc (a + k2) - nI 48)) := by
  have h2 : dg (mc (a + k2)) = true := (okC_ty h).2
  refine CL_s hc ?_
  show (if Y.P < 4 then tkP 8 Y (mc (a + k2)) else _) = _
  rw [if_pos hP]
  show (if dg (mc (a + k2)) = true then _ else _) = _
  rw [if_pos h2]; rfl
theorem LEf {k0 : Nat} (hc : CL E (fc mc a) k0 9 Y) (hP : Y.P = 4) (h1 : k0 < n) : ffF E (fc mc a) n = nI k0 :=
  CL_f hc (by omega) (fun _ => by omega) (fun hn => by
    show (decide (mc (a + k0) = nI 59) && decide (Y.P < 4)) = false
    rw [decide_eq_false (show ¬ Y.P < 4 by omega), Bool.and_false])
end
/-- what the model has read is what the reader has -/
def EqR (Y : YS) (db rm : Int32) (D P : Nat) (rh rk rw rp : Nat → Int32) : Prop := db = Y.db ∧ rm = Y.rm ∧ D = Y.D ∧ P = Y.P ∧ (∀ q, q < Y.D → rh q = Y.hard q) ∧ ∀ q, q < Y.P → rk q = Y.kind q ∧ rw q = Y.wit q ∧ rp q = Y.pat q
theorem EqR_p {Y : YS} {db rm : Int32} {D P : Nat} {rh rk rw rp : Nat → Int32} (h : EqR Y db rm D P rh rk rw rp) (K W V : Int32) : EqR (((Y.sKind (upd Y.kind Y.P K)).sWit (upd Y.wit Y.P W)).addP V) db rm D (P + 1) rh (upd rk P K) (upd rw P W) (upd rp P V) := by
  obtain ⟨h1, h2, h3, h4, h5, h6⟩ := h
  refine ⟨h1, h2, h3, by show P + 1 = Y.P + 1; omega, h5, fun q hq => ?_⟩
  subst h4
  show upd rk Y.P K q = upd Y.kind Y.P K q ∧ upd rw Y.P W q = upd Y.wit Y.P W q ∧ upd rp Y.P V q = upd Y.pat Y.P V q
  have hq : q < Y.P + 1 := hq
  by_cases e : q = Y.P
  · subst e; simp [upd_s]
  · rw [upd_n _ e, upd_n _ e, upd_n _ e, upd_n _ e, upd_n _ e, upd_n _ e]
    exact h6 q (by omega)
def rsP (E : YS) (f : Nat → Int32) (a n : Nat) (r : Int32) (u : Nat × Int32 × Int32 × Nat × Nat × (Nat → Int32) × (Nat → Int32) × (Nat → Int32) × (Nat → Int32)) : Prop :=
  (ffF E f n = (-9) ∧ r = bI true ∧ EqR (rnF E f n).2 u.2.1 u.2.2.1 u.2.2.2.1 u.2.2.2.2.1 u.2.2.2.2.2.1 u.2.2.2.2.2.2.1 u.2.2.2.2.2.2.2.1 u.2.2.2.2.2.2.2.2) ∨ (∃ k, k ≤ n ∧ ffF E f n = nI k ∧ r = bI false ∧ u.1 = a + k)
/-- a see that is read is a good one -/
def GS (s : Nat) (Y : YS) : Prop := (3 ≤ s → ∃ r : Nat, r ≤ 4 ∧ Y.rm = nI r) ∧ (5 ≤ s → 0 < Y.D) ∧ (s = 9 → 0 < Y.P) ∧ (∀ p, p < Y.P → (Y.kind p = nI 0 ∨ Y.kind p = nI 1 ∨ Y.kind p = nI 2) ∧ ∃ v : Nat, v ≤ 9 ∧ Y.pat p = nI v) ∧ ((s = 7 ∨ s = 8) → (Y.kind Y.P = nI 0 ∨ Y.kind Y.P = nI 1 ∨ Y.kind Y.P = nI 2))
theorem dg_v {c : Int32} (h : dg c = true) : ∃ v : Nat, v ≤ 9 ∧ c - nI 48 = nI v := by
  obtain ⟨v, _, h2, e⟩ := wi_v (a := 0) (b := 9) (by omega) (by omega) (show wiB c (nI (48 + 0)) (nI (48 + 9)) = true from h)
  exact ⟨v, h2, by rw [e, dg48 h2]⟩
theorem kL_v (c : Int32) (h : ¬ kL c = (-9)) : kL c = nI 0 ∨ kL c = nI 1 ∨ kL c = nI 2 := by
  unfold kL at h ⊢
  split
  · right; left; rfl
  · split
    · left; rfl
    · split
      · right; right; rfl
      · rename_i h1 h2 h3
        rw [if_neg h1, if_neg h2, if_neg h3] at h
        exact absurd rfl h
theorem tkD_g {s : Nat} {Y : YS} {c : Int32} (h : GS s Y) (hs : s = 4 ∨ s = 5) (t : (tkD s Y c).1 = true) : GS (tkD s Y c).2.1 (tkD s Y c).2.2 := by
  have hs3 : 3 ≤ s := by rcases hs with e | e <;> subst e <;> decide
  obtain ⟨h1, h2, h3, h4, h5⟩ := h
  unfold tkD at t ⊢
  split
  · show GS 5 (Y.addD (c - nI 48))
    exact ⟨fun _ => h1 hs3, fun _ => Nat.succ_pos _, fun q => absurd q (by decide), h4, fun q => absurd q (by decide)⟩
  · rename_i q
    rw [if_neg q] at t
    cases t
theorem tk_g {s : Nat} {Y : YS} {c : Int32} (hs : s ≤ 9) (h : GS s Y) (t : (tk s Y c).1 = true) : GS (tk s Y c).2.1 (tk s Y c).2.2 := by
  have hh := h
  obtain ⟨h1, h2, h3, h4, h5⟩ := h
  have z : ∀ {q r : Nat} {p : Prop}, q = r → ¬ q = r → p := fun a b => absurd a b
  have hc : s = 0 ∨ s = 1 ∨ s = 2 ∨ s = 3 ∨ s = 4 ∨ s = 5 ∨ s = 6 ∨ s = 7 ∨ s = 8 ∨ s = 9 := by omega
  rcases hc with e | e | e | e | e | e | e | e | e | e <;> subst e
  · have t : decide (c = nI 99) = true := t
    show GS (if decide (c = nI 99) = true then 1 else 0) Y
    rw [t]
    exact ⟨fun q => absurd q (by decide), fun q => absurd q (by decide), fun q => absurd q (by decide), h4, fun q => absurd q (by decide)⟩
  · have t : dg c = true := t
    show GS (if dg c = true then 2 else 1) (Y.sDb (c - nI 48))
    rw [t]
    exact ⟨fun q => absurd q (by decide), fun q => absurd q (by decide), fun q => absurd q (by decide), h4, fun q => absurd q (by decide)⟩
  · have t : (decide (nI 49 ≤ c) && decide (c ≤ nI 52)) = true := t
    show GS (if (decide (nI 49 ≤ c) && decide (c ≤ nI 52)) = true then 3 else 2) (Y.sRm (c - nI 48))
    obtain ⟨v, _, v2, ev⟩ := wi_v (a := 1) (b := 4) (by omega) (by omega) (show wiB c (nI (48 + 1)) (nI (48 + 4)) = true from t)
    rw [t]
    exact ⟨fun _ => ⟨v, v2, by show c - nI 48 = nI v; rw [ev, dg48 (by omega)]⟩, fun q => absurd q (by decide), fun q => absurd q (by decide), h4, fun q => absurd q (by decide)⟩
  · have t : decide (c = nI 44) = true := t
    show GS (if decide (c = nI 44) = true then 4 else 3) Y
    rw [t]
    exact ⟨fun _ => h1 (by omega), fun q => absurd q (by decide), fun q => absurd q (by decide), h4, fun q => absurd q (by decide)⟩
  · exact tkD_g hh (Or.inl rfl) t
  · have t : (if c = nI 59 then (true, 6, Y) else tkD 5 Y c).1 = true := t
    show GS (if c = nI 59 then (true, 6, Y) else tkD 5 Y c).2.1 (if c = nI 59 then (true, 6, Y) else tkD 5 Y c).2.2
    by_cases e : c = nI 59
    · rw [if_pos e]
      show GS 6 Y
      exact ⟨fun _ => h1 (by omega), fun _ => h2 (by omega), fun q => absurd q (by decide), h4, fun q => absurd q (by decide)⟩
    · rw [if_neg e] at t ⊢
      exact tkD_g hh (Or.inr rfl) t
  · have t : (if Y.P < 4 then tkP 6 Y c else (false, 6, Y)).1 = true := t
    show GS (if Y.P < 4 then tkP 6 Y c else (false, 6, Y)).2.1 (if Y.P < 4 then tkP 6 Y c else (false, 6, Y)).2.2
    by_cases e : Y.P < 4
    · rw [if_pos e] at t ⊢
      have t : decide (¬ kL c = (-9)) = true := t
      show GS (if decide (¬ kL c = (-9)) = true then 7 else 6) (Y.sKind (upd Y.kind Y.P (kL c)))
      rw [t]
      refine ⟨fun _ => h1 (by omega), fun _ => h2 (by omega), fun q => absurd q (by decide), fun p hp => ?_, fun _ => ?_⟩
      · have hp : p < Y.P := hp
        show (upd Y.kind Y.P (kL c) p = nI 0 ∨ upd Y.kind Y.P (kL c) p = nI 1 ∨ upd Y.kind Y.P (kL c) p = nI 2) ∧ _
        rw [upd_n _ (by omega)]
        exact h4 p hp
      · show upd Y.kind Y.P (kL c) Y.P = nI 0 ∨ upd Y.kind Y.P (kL c) Y.P = nI 1 ∨ upd Y.kind Y.P (kL c) Y.P = nI 2
        rw [upd_s]
        exact kL_v c (of_decide_eq_true t)
    · rw [if_neg e] at t
      cases t
  · have t : (if Y.P < 4 then tkP 7 Y c else (false, 7, Y)).1 = true := t
    show GS (if Y.P < 4 then tkP 7 Y c else (false, 7, Y)).2.1 (if Y.P < 4 then tkP 7 Y c else (false, 7, Y)).2.2
    by_cases e : Y.P < 4
    · rw [if_pos e] at t ⊢
      have t : (if dg c = true then (true, 8, Y.sWit (upd Y.wit Y.P (c - nI 48))) else (false, 7, Y)).1 = true := t
      show GS (if dg c = true then (true, 8, Y.sWit (upd Y.wit Y.P (c - nI 48))) else (false, 7, Y)).2.1 (if dg c = true then (true, 8, Y.sWit (upd Y.wit Y.P (c - nI 48))) else (false, 7, Y)).2.2
      by_cases q : dg c = true
      · rw [if_pos q]
        show GS 8 (Y.sWit (upd Y.wit Y.P (c - nI 48)))
        exact ⟨fun _ => h1 (by omega), fun _ => h2 (by omega), fun q => absurd q (by decide), h4, fun _ => h5 (Or.inl rfl)⟩
      · rw [if_neg q] at t
        cases t
    · rw [if_neg e] at t
      cases t
  · have t : (if Y.P < 4 then tkP 8 Y c else (false, 8, Y)).1 = true := t
    show GS (if Y.P < 4 then tkP 8 Y c else (false, 8, Y)).2.1 (if Y.P < 4 then tkP 8 Y c else (false, 8, Y)).2.2
    by_cases e : Y.P < 4
    · rw [if_pos e] at t ⊢
      have t : (if dg c = true then (true, 9, Y.addP (c - nI 48)) else (false, 8, Y)).1 = true := t
      show GS (if dg c = true then (true, 9, Y.addP (c - nI 48)) else (false, 8, Y)).2.1 (if dg c = true then (true, 9, Y.addP (c - nI 48)) else (false, 8, Y)).2.2
      by_cases q : dg c = true
      · rw [if_pos q]
        show GS 9 (Y.addP (c - nI 48))
        refine ⟨fun _ => h1 (by omega), fun _ => h2 (by omega), fun _ => Nat.succ_pos _, fun p hp => ?_, fun q => absurd q (by decide)⟩
        have hp : p < Y.P + 1 := hp
        by_cases ep : p = Y.P
        · subst ep
          refine ⟨h5 (Or.inr rfl), ?_⟩
          show ∃ v : Nat, v ≤ 9 ∧ upd Y.pat Y.P (c - nI 48) Y.P = nI v
          rw [upd_s]
          exact dg_v q
        · refine ⟨(h4 p (by omega)).1, ?_⟩
          show ∃ v : Nat, v ≤ 9 ∧ upd Y.pat Y.P (c - nI 48) p = nI v
          rw [upd_n _ ep]
          exact (h4 p (by omega)).2
      · rw [if_neg q] at t
        cases t
    · rw [if_neg e] at t
      cases t
  · have t : (decide (c = nI 59) && decide (Y.P < 4)) = true := t
    show GS (if (decide (c = nI 59) && decide (Y.P < 4)) = true then 6 else 9) Y
    rw [t]
    exact ⟨fun _ => h1 (by omega), fun _ => h2 (by omega), fun q => absurd q (by decide), h4, fun q => absurd q (by decide)⟩
theorem rn_g {E : YS} {f : Nat → Int32} (k : Nat) (h : allB k (rnB E f) = true) : GS (rnF E f k).1 (rnF E f k).2 := by
  induction k with
  | zero => exact ⟨fun q => absurd q (by show ¬ 3 ≤ 0; decide), fun q => absurd q (by show ¬ 5 ≤ 0; decide), fun q => absurd q (by show ¬ 0 = 9; decide), fun p hp => absurd hp (by show ¬ p < 0; omega), fun q => absurd q (by show ¬ (0 = 7 ∨ 0 = 8); decide)⟩
  | succ k ih =>
    have h2 : (allB k (rnB E f) && rnB E f k) = true := h
    rw [Bool.and_eq_true] at h2
    exact tk_g (rn_ok E f k).1 (ih h2.1) h2.2
theorem ff_g {E : YS} {f : Nat → Int32} {n : Nat} (hn : n < 1000) (h : ffF E f n = (-9)) : GdY (rnF E f n).2 ∧ 0 < (rnF E f n).2.D ∧ 0 < (rnF E f n).2.P := by
  unfold ffF at h
  rcases ha : allB n (rnB E f) with _ | _
  · rw [ha, if_neg (by decide)] at h
    exfalso
    by_cases q : ∃ i, i < n ∧ rnB E f i = false
    · have hex : ∃ i, i < n ∧ rnB E f i = false ∧ ∀ j, j < i → rnB E f j = true := by
        obtain ⟨i, hi⟩ := q
        induction i using Nat.strongRecOn with
        | _ i ih =>
          by_cases q2 : ∃ j, j < i ∧ rnB E f j = false
          · obtain ⟨j, hj, hj2⟩ := q2
            exact ih j hj ⟨by omega, hj2⟩
          · refine ⟨i, hi.1, hi.2, fun j hj => ?_⟩
            rcases q3 : rnB E f j with _ | _
            · exact absurd ⟨j, hj, q3⟩ q2
            · rfl
      obtain ⟨i, hi, hb, hj⟩ := hex
      rw [fstB_at n 0 i (Nat.zero_le _) (by omega) (fun j _ h9 => by rw [hj j h9]; rfl) (by rw [hb]; rfl)] at h
      exact nI_n9 (by omega) h
    · have : allB n (rnB E f) = true := allB_iff.mpr (fun i hi => by
        rcases q3 : rnB E f i with _ | _
        · exact absurd ⟨i, hi, q3⟩ q
        · rfl)
      rw [ha] at this
      cases this
  · rw [ha, if_pos rfl] at h
    have h9 : (rnF E f n).1 = 9 := by
      by_cases q : (rnF E f n).1 = 9
      · exact q
      · rw [if_neg q] at h
        exact absurd h (nI_n9 hn)
    obtain ⟨h1, h2, h3, h4, _⟩ := rn_g n ha
    exact ⟨⟨(rn_ok E f n).2, h1 (by omega), h4⟩, h2 (by omega), h3 h9⟩
