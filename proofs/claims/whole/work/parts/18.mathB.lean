/-! the order of those who would stand; picking one after the other; being at rest -/
theorem snr_iff {Y : YS} {a b : Nat} : snr Y a b = true ↔ (Y.wit a).toInt < (Y.wit b).toInt ∨ ((Y.wit a).toInt = (Y.wit b).toInt ∧ a < b) := by
  unfold snr
  rw [Bool.or_eq_true, Bool.and_eq_true, decide_eq_true_eq, decide_eq_true_eq, decide_eq_true_eq, Int32.lt_iff_toInt_lt, Int32.toInt_inj]
theorem snr_trans {Y : YS} {a b c : Nat} (h1 : snr Y a b = true) (h2 : snr Y b c = true) : snr Y a c = true := by
  rw [snr_iff] at *
  omega
theorem snr_irr {Y : YS} {a : Nat} : snr Y a a = false := by
  cases h : snr Y a a with
  | false => rfl
  | true => rw [snr_iff] at h; omega
theorem snr_tri {Y : YS} {a b : Nat} (h : a ≠ b) : snr Y a b = true ∨ snr Y b a = true := by
  rw [snr_iff, snr_iff]
  omega
theorem snr_asym {Y : YS} {a b : Nat} (h : snr Y a b = true) : snr Y b a = false := by
  cases h2 : snr Y b a with
  | false => rfl
  | true => rw [snr_iff] at *; omega
theorem cnt_le1 {n : Nat} {f : Nat → Bool} (h : ∀ i j, i < n → j < n → f i = true → f j = true → i = j) : cnt n f ≤ 1 := by
  induction n with
  | zero => exact Nat.zero_le _
  | succ n ih =>
    rw [cnt_s]
    cases hf : f n with
    | false => simpa using ih (fun i j hi hj => h i j (by omega) (by omega))
    | true =>
      have h0 : cnt n f = cnt n (fun _ => false) := cnt_congr (fun i hi => by
        cases hi2 : f i with
        | false => rfl
        | true => exact absurd (h i n (by omega) (by omega) hi2 hf) (by omega))
      have h1 : ∀ m, cnt m (fun _ => false) = 0 := by
        intro m
        induction m with
        | zero => rfl
        | succ m ih2 => rw [cnt_s, ih2]; rfl
      rw [h0, h1]
      exact Nat.le_refl 1
theorem cnt_or {n : Nat} {f g h : Nat → Bool} (e : ∀ i, i < n → f i = true → g i = true ∨ h i = true) : cnt n f ≤ cnt n g + cnt n h := by
  induction n with
  | zero => exact Nat.zero_le _
  | succ n ih =>
    have h1 := ih (fun i hi => e i (by omega))
    have h2 := e n (by omega)
    rw [cnt_s, cnt_s, cnt_s]
    cases hf : f n with
    | false => simp; omega
    | true =>
      rcases h2 hf with h3 | h3
      · rw [h3]; simp; omega
      · rw [h3]; simp; omega
theorem bef_lt {Y : YS} {d a b : Nat} (ha : a < Y.P) (hw : wd Y d a = true) (h : snr Y a b = true) : bef Y d a < bef Y d b := by
  unfold bef
  refine cnt_lt (fun i _ hi => ?_) ha ?_ ?_
  · rw [Bool.and_eq_true] at hi ⊢
    exact ⟨snr_trans hi.1 h, hi.2⟩
  · rw [snr_irr]; rfl
  · rw [h, hw]; rfl
/-- those who stand, if there were room for k -/
def stdk (Y : YS) (d k p : Nat) : Bool := wd Y d p && decide (bef Y d p < k)
theorem stdk_cnt (Y : YS) (d k : Nat) : cnt Y.P (stdk Y d k) ≤ k := by
  induction k with
  | zero =>
    have : cnt Y.P (stdk Y d 0) = cnt Y.P (fun _ => false) := cnt_congr (fun i _ => by simp [stdk])
    rw [this]
    have h1 : ∀ m, cnt m (fun _ => false) = 0 := by
      intro m
      induction m with
      | zero => rfl
      | succ m ih2 => rw [cnt_s, ih2]; rfl
    rw [h1]
    exact Nat.le_refl 0
  | succ k ih =>
    have h1 : cnt Y.P (stdk Y d (k + 1)) ≤ cnt Y.P (stdk Y d k) + cnt Y.P (fun p => wd Y d p && decide (bef Y d p = k)) := cnt_or (fun i _ hi => by
      unfold stdk at hi ⊢
      rw [Bool.and_eq_true, decide_eq_true_eq] at hi
      rw [hi.1]
      by_cases e : bef Y d i < k
      · exact Or.inl (by simp [e])
      · exact Or.inr (by simp; omega))
    have h2 : cnt Y.P (fun p => wd Y d p && decide (bef Y d p = k)) ≤ 1 := cnt_le1 (fun i j hi hj h3 h4 => by
      simp only [Bool.and_eq_true, decide_eq_true_eq] at h3 h4
      by_cases e : i = j
      · exact e
      · rcases snr_tri (Y := Y) e with h5 | h5
        · have := bef_lt hi h3.1 h5; omega
        · have := bef_lt hj h4.1 h5; omega)
    omega
/-- the first of n who is so, by wit and number -/
def btr (Y : YS) (n : Nat) (o : Option Nat) : Bool := match o with
  | none => true
  | some q => decide (Y.wit n < Y.wit q)
def pkF (Y : YS) (c : Nat → Bool) : Nat → Option Nat
  | 0 => none
  | n + 1 => if c n && btr Y n (pkF Y c n) then some n else pkF Y c n
theorem pkF_none {Y : YS} {c : Nat → Bool} {n : Nat} (h : pkF Y c n = none) : ∀ p, p < n → c p = false := by
  induction n with
  | zero => intro p hp; omega
  | succ n ih =>
    intro p hp
    unfold pkF at h
    split at h
    · cases h
    · rename_i h1
      by_cases e : p = n
      · subst e
        rw [h] at h1
        cases h2 : c p with
        | false => rfl
        | true => exact absurd (by simp [h2, btr]) h1
      · exact ih h p (by omega)
theorem pkF_some {Y : YS} {c : Nat → Bool} {n q : Nat} (h : pkF Y c n = some q) : q < n ∧ c q = true ∧ ∀ p, p < n → c p = true → p = q ∨ snr Y q p = true := by
  induction n generalizing q with
  | zero => cases h
  | succ n ih =>
    unfold pkF at h
    split at h
    · rename_i h1
      cases h
      rw [Bool.and_eq_true] at h1
      refine ⟨by omega, h1.1, fun p hp hc => ?_⟩
      by_cases e : p = n
      · exact Or.inl e
      · cases hk : pkF Y c n with
        | none => rw [pkF_none hk p (by omega)] at hc; cases hc
        | some r =>
          rw [hk] at h1
          have h2 := of_decide_eq_true h1.2
          have h3 : snr Y n r = true := snr_iff.mpr (Or.inl (Int32.lt_iff_toInt_lt.mp h2))
          rcases (ih hk).2.2 p (by omega) hc with h4 | h4
          · subst h4; exact Or.inr h3
          · exact Or.inr (snr_trans h3 h4)
    · rename_i h1
      obtain ⟨h2, h3, h4⟩ := ih h
      refine ⟨by omega, h3, fun p hp hc => ?_⟩
      by_cases e : p = n
      · subst e
        rw [h] at h1
        have h5 : ¬ Y.wit p < Y.wit q := fun z => h1 (by simp [hc, z, btr])
        rw [Int32.lt_iff_toInt_lt] at h5
        exact Or.inr (snr_iff.mpr (by omega))
      · exact h4 p (by omega) hc
/-- who has not yet been picked, behind k picks -/
def lft (Y : YS) (d k p : Nat) : Bool := wd Y d p && !(stdk Y d k p)
theorem pick_none {Y : YS} {d k : Nat} (h : pkF Y (lft Y d k) Y.P = none) : ∀ p, p < Y.P → stdk Y d (k + 1) p = stdk Y d k p := by
  intro p hp
  have h1 := pkF_none h p hp
  unfold lft at h1
  unfold stdk at *
  cases hw : wd Y d p with
  | false => rfl
  | true =>
    rw [hw] at h1
    have h2 : bef Y d p < k := by simpa using h1
    simp [h2, Nat.lt_succ_of_lt h2]
theorem pick_some {Y : YS} {d k q : Nat} (h : pkF Y (lft Y d k) Y.P = some q) : q < Y.P ∧ stdk Y d k q = false ∧ ∀ p, p < Y.P → stdk Y d (k + 1) p = (stdk Y d k p || decide (p = q)) := by
  obtain ⟨h1, h2, h3⟩ := pkF_some h
  unfold lft at h2
  rw [Bool.and_eq_true] at h2
  have hq0 : stdk Y d k q = false := by simpa using h2.2
  have hge : k ≤ bef Y d q := by
    unfold stdk at hq0
    rw [h2.1] at hq0
    simpa using hq0
  have hle : bef Y d q ≤ k := by
    refine Nat.le_trans ?_ (stdk_cnt Y d k)
    unfold bef
    refine cnt_mono (fun i hi h4 => ?_)
    rw [Bool.and_eq_true] at h4
    cases h5 : stdk Y d k i with
    | true => rfl
    | false =>
      rcases h3 i hi (by unfold lft; rw [h4.2, h5]; rfl) with h6 | h6
      · subst h6; rw [snr_irr] at h4; cases h4.1
      · rw [snr_asym h6] at h4; cases h4.1
  refine ⟨h1, hq0, fun p hp => ?_⟩
  by_cases e : p = q
  · subst e
    unfold stdk
    rw [h2.1]
    simp
    omega
  · have e2 : decide (p = q) = false := decide_eq_false e
    rw [e2, Bool.or_false]
    cases hw : wd Y d p with
    | false => unfold stdk; rw [hw]; rfl
    | true =>
      cases h5 : stdk Y d k p with
      | true =>
        unfold stdk at h5 ⊢
        rw [hw] at h5 ⊢
        have : bef Y d p < k := by simpa using h5
        simp; omega
      | false =>
        rcases h3 p hp (by unfold lft; rw [hw, h5]; rfl) with h6 | h6
        · exact absurd h6 e
        · have := bef_lt h1 h2.1 h6
          unfold stdk
          rw [hw]
          simp; omega
theorem std_stdk {Y : YS} {d r : Nat} (hr : Y.rm = nI r) (hr4 : r ≤ 4) (hP : Y.P ≤ 4) (p : Nat) : std Y d p = stdk Y d r p := by
  unfold std stdk
  have hb := cnt_le Y.P (fun q => snr Y q p && wd Y d q)
  rw [hr]
  congr 1
  have : bef Y d p ≤ 4 := by unfold bef; omega
  by_cases e : bef Y d p < r
  · rw [decide_eq_true (nI_lt e (by omega)), decide_eq_true e]
  · rw [decide_eq_false (nI_nlt (by omega) (by omega)), decide_eq_false e]
/-- a bit told as 1 -/
theorem bit01 (x : Int32) : x &&& nI 1 = 0 ∨ x &&& nI 1 = nI 1 := by
  rw [pk_and x (m := nI 1) 1 (by decide)]
  rcases Nat.mod_two_eq_zero_or_one x.toBitVec.toNat with h | h
  · left; rw [show (2 : Nat) ^ 1 = 2 from rfl, h]; exact nI_0
  · right; rw [show (2 : Nat) ^ 1 = 2 from rfl, h]
theorem hbit_1 {x : Int32} {n : Nat} (h : (x >>> (nI n &&& 31)) &&& nI 1 = nI 1) : hbit x n = true := by
  unfold hbit
  rw [h]
  decide
theorem hbit_n1 {x : Int32} {n : Nat} (h : ¬ (x >>> (nI n &&& 31)) &&& nI 1 = nI 1) : hbit x n = false := by
  unfold hbit
  rcases bit01 (x >>> (nI n &&& 31)) with h1 | h1
  · rw [h1]; rfl
  · exact absurd h1 h
theorem hbit_z {x : Int32} {n : Nat} (h : (x >>> (nI n &&& 31)) &&& nI 1 = 0) : hbit x n = false := by
  unfold hbit
  rw [h]; rfl
theorem hbit_nz {x : Int32} {n : Nat} (h : ¬ (x >>> (nI n &&& 31)) &&& nI 1 = 0) : hbit x n = true := by
  unfold hbit
  exact decide_eq_true h
/-- a see as the texts make it: kinds, patience, room in their bounds -/
def GdY (Y : YS) : Prop := OkY Y ∧ (∃ r : Nat, r ≤ 4 ∧ Y.rm = nI r) ∧ ∀ p, p < Y.P → (Y.kind p = nI 0 ∨ Y.kind p = nI 1 ∨ Y.kind p = nI 2) ∧ ∃ a : Nat, a ≤ 9 ∧ Y.pat p = nI a
theorem hrs_nat {Y : YS} (h : GdY Y) {p : Nat} (hp : p < Y.P) : ∃ a : Nat, a ≤ 9 ∧ hrs Y p = nI a := by
  obtain ⟨hk, a, ha, he⟩ := h.2.2 p hp
  unfold hrs
  rw [he]
  have h1 : ∀ a, a ≤ 9 → ∃ b : Nat, b ≤ 9 ∧ (if nI a - nI 1 < nI 0 then nI 0 else nI a - nI 1) = nI b := by
    intro a ha
    rcases Nat.eq_zero_or_pos a with e | e
    · subst e; exact ⟨0, by omega, by decide⟩
    · refine ⟨a - 1, by omega, ?_⟩
      rw [pk_sub (by omega), if_neg (nI_nlt (by omega) (by omega))]
  have h2 : nI a / nI 2 = nI (a / 2) := pk_div (by omega) (by omega) (by omega)
  split
  · exact h1 a ha
  · split
    · exact ⟨a / 2, by omega, h2⟩
    · exact ⟨a, ha, rfl⟩
theorem mul_s (c : Nat) (h : Int32) : nI c * h + h = nI (c + 1) * h := by
  rw [nI_succ, Int32.add_mul, Int32.one_mul]
/-- to pretend on all days is best -/
theorem aD_bit : ∀ D, D ≤ 5 → ∀ d, d < D → hbit (nI (aD D)) d = true := by decide +kernel
theorem bef_own {Y : YS} {d p : Nat} (x y : Int32) : bef (Y.sPret (upd Y.pret p x)) d p = bef (Y.sPret (upd Y.pret p y)) d p := by
  unfold bef
  refine cnt_congr (fun q _ => ?_)
  by_cases e : q = p
  · subst e
    have h1 : ∀ z, snr (Y.sPret (upd Y.pret q z)) q q = false := fun z => snr_irr
    simp only [h1, Bool.false_and]
  · have h1 : ∀ z, wd (Y.sPret (upd Y.pret p z)) d q = wd Y d q := fun z => by
      unfold wd
      show wdB _ _ _ (hbit (upd Y.pret p z q) d) = _
      rw [upd_n _ e]
    have h2 : ∀ z, snr (Y.sPret (upd Y.pret p z)) q p = snr Y q p := fun z => rfl
    simp only [h1, h2]
theorem std_best {Y : YS} {d p : Nat} (hD : Y.D ≤ 5) (hd : d < Y.D) (x : Int32) (h : std (Y.sPret (upd Y.pret p x)) d p = true) : std (Y.sPret (upd Y.pret p (nI (aD Y.D)))) d p = true := by
  unfold std at h ⊢
  rw [Bool.and_eq_true] at h ⊢
  refine ⟨?_, ?_⟩
  · have h1 := h.1
    unfold wd at h1 ⊢
    have h2 : hbit ((Y.sPret (upd Y.pret p (nI (aD Y.D)))).pret p) d = true := by
      show hbit (upd Y.pret p (nI (aD Y.D)) p) d = true
      rw [upd_s]
      exact aD_bit _ hD d hd
    rw [h2]
    unfold wdB at h1 ⊢
    rw [Bool.or_eq_true] at h1 ⊢
    rcases h1 with h3 | h3
    · exact Or.inl h3
    · rw [Bool.and_eq_true] at h3; exact Or.inr (by rw [Bool.true_and]; exact h3.2)
  · rw [bef_own (nI (aD Y.D)) x]
    exact h.2
def rstB (Y : YS) (p : Nat) : Bool := allB (aD Y.D + 1) (fun s => decide (hrB (Y.sPret (upd Y.pret p (nI s))) p Y.D ≤ hrB Y p Y.D))
theorem rst_rs {Y : YS} (h : GdY Y) {p : Nat} (hp : p < Y.P) : rstB Y p = !(rsB Y p) := by
  obtain ⟨a, ha, he⟩ := hrs_nat h hp
  have hD := h.1.1
  have hv : ∀ x : Int32, hrB (Y.sPret (upd Y.pret p x)) p Y.D = nI (cnt Y.D (fun d => std (Y.sPret (upd Y.pret p x)) d p) * a) := fun x => by
    unfold hrB
    rw [show hrs (Y.sPret (upd Y.pret p x)) p = hrs Y p from rfl, he, pk_mul]
  have hle : ∀ x : Int32, cnt Y.D (fun d => std (Y.sPret (upd Y.pret p x)) d p) ≤ cnt Y.D (fun d => std (Y.sPret (upd Y.pret p (nI (aD Y.D)))) d p) := fun x => cnt_mono (fun d hd h1 => std_best hD hd x h1)
  have hb : ∀ x : Int32, cnt Y.D (fun d => std (Y.sPret (upd Y.pret p x)) d p) * a ≤ 45 := fun x => by
    have := cnt_le Y.D (fun d => std (Y.sPret (upd Y.pret p x)) d p)
    exact Nat.le_trans (Nat.mul_le_mul (show _ ≤ 5 by omega) ha) (by omega)
  have hA : rsB Y p = decide (hrB Y p Y.D < hrB (Y.sPret (upd Y.pret p (nI (aD Y.D)))) p Y.D) := rfl
  rw [hA]
  cases e : decide (hrB Y p Y.D < hrB (Y.sPret (upd Y.pret p (nI (aD Y.D)))) p Y.D) with
  | true =>
    have e := of_decide_eq_true e
    exact allB_f (k := aD Y.D) (by omega) (decide_eq_false (Int32.not_le.mpr e))
  | false =>
    have e := Int32.not_lt.mp (of_decide_eq_false e)
    refine allB_iff.mpr (fun s _ => decide_eq_true (Int32.le_trans ?_ e))
    rw [hv, hv]
    exact nI_le (Nat.mul_le_mul_right a (hle _)) (by have := hb (nI (aD Y.D)); omega)
/-- ranges told by two ends -/
def wiB (v a b : Int32) : Bool := decide (a ≤ v) && decide (v ≤ b)
theorem lt_le_succ {v : Int32} {n : Nat} (hn : n < 1000) : v ≤ nI n ↔ v < nI (n + 1) := by
  rw [Int32.le_iff_toInt_le, Int32.lt_iff_toInt_lt, nI_toInt (by omega), nI_toInt (by omega)]
  omega
theorem wiB_isP {n : Nat} (hn : n < 1000) (v : Int32) : wiB v (nI 0) (nI n) = isP (n + 1) v := by
  unfold wiB isP
  rw [nI_0]
  congr 1
  exact decide_eq_decide.mpr (lt_le_succ hn)
