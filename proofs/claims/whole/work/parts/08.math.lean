/-! numbers, sets as bits, the see's own words: would, stands, hours, bishop -/
/-- days, pupils, doubt, room, hard, kind, wit, patience, pretends -/
abbrev YS : Type := Nat × Nat × Int32 × Int32 × (Nat → Int32) × (Nat → Int32) × (Nat → Int32) × (Nat → Int32) × (Nat → Int32)
abbrev YS.D (Y : YS) : Nat := Y.1
abbrev YS.P (Y : YS) : Nat := Y.2.1
abbrev YS.db (Y : YS) : Int32 := Y.2.2.1
abbrev YS.rm (Y : YS) : Int32 := Y.2.2.2.1
abbrev YS.hard (Y : YS) : Nat → Int32 := Y.2.2.2.2.1
abbrev YS.kind (Y : YS) : Nat → Int32 := Y.2.2.2.2.2.1
abbrev YS.wit (Y : YS) : Nat → Int32 := Y.2.2.2.2.2.2.1
abbrev YS.pat (Y : YS) : Nat → Int32 := Y.2.2.2.2.2.2.2.1
abbrev YS.pret (Y : YS) : Nat → Int32 := Y.2.2.2.2.2.2.2.2
abbrev YS.sHard (Y : YS) (f : Nat → Int32) : YS := (Y.D, Y.P, Y.db, Y.rm, f, Y.kind, Y.wit, Y.pat, Y.pret)
abbrev YS.sKind (Y : YS) (f : Nat → Int32) : YS := (Y.D, Y.P, Y.db, Y.rm, Y.hard, f, Y.wit, Y.pat, Y.pret)
abbrev YS.sWit (Y : YS) (f : Nat → Int32) : YS := (Y.D, Y.P, Y.db, Y.rm, Y.hard, Y.kind, f, Y.pat, Y.pret)
abbrev YS.sPret (Y : YS) (f : Nat → Int32) : YS := (Y.D, Y.P, Y.db, Y.rm, Y.hard, Y.kind, Y.wit, Y.pat, f)
abbrev YS.sDb (Y : YS) (v : Int32) : YS := (Y.D, Y.P, v, Y.rm, Y.hard, Y.kind, Y.wit, Y.pat, Y.pret)
abbrev YS.sRm (Y : YS) (v : Int32) : YS := (Y.D, Y.P, Y.db, v, Y.hard, Y.kind, Y.wit, Y.pat, Y.pret)
def OkY (Y : YS) : Prop := Y.D ≤ 5 ∧ Y.P ≤ 4
def cnt : Nat → (Nat → Bool) → Nat
  | 0, _ => 0
  | n + 1, b => cnt n b + (if b n then 1 else 0)
def msk : Nat → (Nat → Bool) → Nat
  | 0, _ => 0
  | n + 1, b => msk n b + (if b n then 2 ^ n else 0)
theorem cnt_s (n : Nat) (b : Nat → Bool) : cnt (n + 1) b = cnt n b + (if b n then 1 else 0) := rfl
theorem msk_s (n : Nat) (b : Nat → Bool) : msk (n + 1) b = msk n b + (if b n then 2 ^ n else 0) := rfl
theorem cnt_le (n : Nat) (b : Nat → Bool) : cnt n b ≤ n := by
  induction n with
  | zero => exact Nat.le_refl 0
  | succ n ih => rw [cnt_s]; split <;> omega
theorem msk_lt (n : Nat) (b : Nat → Bool) : msk n b < 2 ^ n := by
  induction n with
  | zero => exact Nat.one_pos
  | succ n ih => rw [msk_s, Nat.pow_succ]; split <;> omega
theorem cnt_congr {n : Nat} {b c : Nat → Bool} (h : ∀ i, i < n → b i = c i) : cnt n b = cnt n c := by
  induction n with
  | zero => rfl
  | succ n ih => rw [cnt_s, cnt_s, ih (fun i hi => h i (by omega)), h n (by omega)]
theorem msk_congr {n : Nat} {b c : Nat → Bool} (h : ∀ i, i < n → b i = c i) : msk n b = msk n c := by
  induction n with
  | zero => rfl
  | succ n ih => rw [msk_s, msk_s, ih (fun i hi => h i (by omega)), h n (by omega)]
theorem cnt_mono {n : Nat} {b c : Nat → Bool} (h : ∀ i, i < n → b i = true → c i = true) : cnt n b ≤ cnt n c := by
  induction n with
  | zero => exact Nat.le_refl 0
  | succ n ih =>
    have h1 := ih (fun i hi => h i (by omega))
    have h2 := h n (by omega)
    rw [cnt_s, cnt_s]
    cases hb : b n with
    | false => simp; split <;> omega
    | true => rw [h2 hb]; simp; omega
theorem cnt_lt {n : Nat} {b c : Nat → Bool} (h : ∀ i, i < n → b i = true → c i = true) {p : Nat} (hp : p < n) (h1 : b p = false) (h2 : c p = true) : cnt n b < cnt n c := by
  induction n with
  | zero => omega
  | succ n ih =>
    have h0 := h n (by omega)
    rw [cnt_s, cnt_s]
    by_cases hpn : p = n
    · subst hpn
      have := cnt_mono (n := p) (b := b) (c := c) (fun i hi => h i (by omega))
      rw [h1, h2]; simp; omega
    · have := ih (fun i hi => h i (by omega)) (by omega)
      cases hb : b n with
      | false => simp; split <;> omega
      | true => rw [h0 hb]; simp; omega
theorem msk_bit {n : Nat} (b : Nat → Bool) (p : Nat) : (msk n b).testBit p = (decide (p < n) && b p) := by
  induction n with
  | zero => simp [msk]
  | succ n ih =>
    rw [msk_s]
    have hl := msk_lt n b
    cases hb : b n with
    | false =>
      simp only [Bool.false_eq_true, if_false, Nat.add_zero]
      rw [ih]
      by_cases h1 : p < n
      · simp [h1, Nat.lt_succ_of_lt h1]
      · by_cases h2 : p = n
        · subst h2; simp [hb]
        · have : ¬ p < n + 1 := by omega
          simp [h1, this]
    | true =>
      simp only [if_true]
      rw [Nat.add_comm]
      by_cases h2 : p = n
      · subst h2
        rw [Nat.testBit_two_pow_add_eq, Nat.testBit_lt_two_pow hl]
        simp [hb]
      · by_cases h1 : p < n
        · rw [Nat.testBit_two_pow_add_gt h1, ih]
          simp [h1, Nat.lt_succ_of_lt h1]
        · have h3 : ¬ p < n + 1 := by omega
          rw [Nat.testBit_lt_two_pow (Nat.lt_of_lt_of_le (show 2 ^ n + msk n b < 2 ^ (n + 1) by rw [Nat.pow_succ]; omega) (Nat.pow_le_pow_right (by omega) (by omega)))]
          simp [h3]
theorem or_bit : ∀ n, n < 10 → ∀ x, x < 2 ^ n → nI x ||| (nI 1 <<< (nI n &&& 31)) = nI (x + 2 ^ n) := by decide +kernel
theorem msk_or {n : Nat} (hn : n < 10) {b : Nat → Bool} (h : b n = true) : nI (msk n b) ||| (nI 1 <<< (nI n &&& 31)) = nI (msk (n + 1) b) := by
  rw [or_bit n hn _ (msk_lt n b), msk_s, h]; rfl
theorem msk_no {n : Nat} {b : Nat → Bool} (h : b n = false) : nI (msk n b) = nI (msk (n + 1) b) := by
  rw [msk_s, h]; rfl
theorem cnt_in {n : Nat} {b : Nat → Bool} (h : b n = true) : nI (cnt n b + 1) = nI (cnt (n + 1) b) := by
  rw [cnt_s, h]; rfl
theorem cnt_no {n : Nat} {b : Nat → Bool} (h : b n = false) : nI (cnt n b) = nI (cnt (n + 1) b) := by
  rw [cnt_s, h]; rfl
/-- whether number n is in the set x -/
def hbit (x : Int32) (n : Nat) : Bool := decide (¬ ((x >>> (nI n &&& 31)) &&& nI 1 = 0))
theorem hbit_nat : ∀ x, x < 32 → ∀ n, n < 5 → hbit (nI x) n = x.testBit n := by decide +kernel
theorem hbit_msk {n p : Nat} (hn : n ≤ 5) (hp : p < 5) (b : Nat → Bool) : hbit (nI (msk n b)) p = (decide (p < n) && b p) := by
  rw [hbit_nat _ (Nat.lt_of_lt_of_le (msk_lt n b) (Nat.pow_le_pow_right (by omega) hn)) p hp, msk_bit]
theorem hbit_mskI {n p : Nat} (hn : n ≤ 5) (hp : p < n) (b : Nat → Bool) : hbit (nI (msk n b)) p = b p := by
  rw [hbit_msk hn (by omega)]; simp [hp]
theorem hbit_0 (n : Nat) (h : n < 5) : hbit 0 n = false := by
  have := hbit_nat 0 (by omega) n h
  rw [nI_0] at this
  rw [this]; simp
def pop (x : Nat) : Nat := cnt 5 x.testBit
theorem pop_msk {n : Nat} (hn : n ≤ 5) (b : Nat → Bool) : pop (msk n b) = cnt n b := by
  have h1 : cnt 5 (msk n b).testBit = cnt 5 (fun p => decide (p < n) && b p) := cnt_congr (fun i _ => msk_bit b i)
  have h2 : ∀ k, cnt (n + k) (fun p => decide (p < n) && b p) = cnt n b := by
    intro k
    induction k with
    | zero => exact cnt_congr (fun i hi => by simp [show i < n from hi])
    | succ k ih =>
      rw [show n + (k + 1) = (n + k) + 1 from rfl, cnt_s, ih]
      have : ¬ n + k < n := by omega
      simp [this]
  unfold pop
  rw [h1]
  have h3 := h2 (5 - n)
  rw [show n + (5 - n) = 5 by omega] at h3
  exact h3
/-- a row of which the first k hold g, the others f -/
def tab (k : Nat) (g f : Nat → Int32) : Nat → Int32 := fun j => if j < k then g j else f j
theorem tab_0 (g f : Nat → Int32) : tab 0 g f = f := by funext j; simp [tab]
theorem tab_s (k : Nat) (g f : Nat → Int32) : upd (tab k g f) k (g k) = tab (k + 1) g f := by
  funext j
  unfold upd tab
  by_cases h : j = k
  · subst h; simp
  · by_cases h2 : j < k
    · simp [h, h2, Nat.lt_succ_of_lt h2]
    · have : ¬ j < k + 1 := by omega
      simp [h, h2, this]
theorem tab_lt {k j : Nat} (h : j < k) (g f : Nat → Int32) : tab k g f j = g j := by simp [tab, h]
theorem upd_s (f : Nat → Int32) (k : Nat) (v : Int32) : upd f k v k = v := by simp [upd]
theorem upd_n (f : Nat → Int32) {k j : Nat} (h : j ≠ k) (v : Int32) : upd f k v j = f j := by simp [upd, h]
theorem upd_back (f : Nat → Int32) (k : Nat) (v : Int32) : upd (upd f k v) k (f k) = f := by
  funext j
  unfold upd
  by_cases h : j = k
  · subst h; simp
  · simp [h]
theorem upd_upd (f : Nat → Int32) (k : Nat) (v w : Int32) : upd (upd f k v) k w = upd f k w := by
  funext j
  unfold upd
  by_cases h : j = k <;> simp [h]
def sumF (g : Nat → Int32) : Nat → Int32
  | 0 => nI 0
  | n + 1 => sumF g n + g n
/-- who has the most, above 0: of several the least; and how much -/
def bstF (g : Nat → Int32) : Nat → Int32 × Int32
  | 0 => ((-9), nI 0)
  | n + 1 => if (bstF g n).2 < g n then (nI n, g n) else bstF g n
theorem sumF_congr {g h : Nat → Int32} {n : Nat} (e : ∀ i, i < n → g i = h i) : sumF g n = sumF h n := by
  induction n with
  | zero => rfl
  | succ n ih => unfold sumF; rw [ih (fun i hi => e i (by omega)), e n (by omega)]
theorem bstF_congr {g h : Nat → Int32} {n : Nat} (e : ∀ i, i < n → g i = h i) : bstF g n = bstF h n := by
  induction n with
  | zero => rfl
  | succ n ih => unfold bstF; rw [ih (fun i hi => e i (by omega)), e n (by omega)]
/-- all of the first n are so -/
def allB : Nat → (Nat → Bool) → Bool
  | 0, _ => true
  | n + 1, b => allB n b && b n
theorem allB_iff {n : Nat} {b : Nat → Bool} : allB n b = true ↔ ∀ i, i < n → b i = true := by
  induction n with
  | zero => simp [allB]
  | succ n ih =>
    unfold allB
    rw [Bool.and_eq_true, ih]
    constructor
    · intro h i hi
      by_cases e : i = n
      · subst e; exact h.2
      · exact h.1 i (by omega)
    · intro h
      exact ⟨fun i hi => h i (by omega), h n (by omega)⟩
theorem allB_f {n : Nat} {b : Nat → Bool} {k : Nat} (hk : k < n) (h : b k = false) : allB n b = false := by
  cases e : allB n b with
  | false => rfl
  | true => rw [allB_iff.mp e k hk] at h; cases h
theorem allB_congr {n : Nat} {b c : Nat → Bool} (h : ∀ i, i < n → b i = c i) : allB n b = allB n c := by
  induction n with
  | zero => rfl
  | succ n ih => unfold allB; rw [ih (fun i hi => h i (by omega)), h n (by omega)]
/-- the first of n that is so, or the answer none -/
def fstB : Nat → (Nat → Bool) → Nat → Int32
  | 0, _, _ => (-9)
  | n + 1, b, k => if b k then nI k else fstB n b (k + 1)
theorem fstB_at {b : Nat → Bool} : ∀ (n k0 k : Nat), k0 ≤ k → k < k0 + n → (∀ i, k0 ≤ i → i < k → b i = false) → b k = true → fstB n b k0 = nI k := by
  intro n
  induction n with
  | zero => intro k0 k h1 h2; omega
  | succ n ih =>
    intro k0 k h1 h2 h3 h4
    unfold fstB
    by_cases e : k = k0
    · subst e; rw [h4]; rfl
    · rw [h3 k0 (Nat.le_refl _) (by omega)]
      exact ih (k0 + 1) k (by omega) (by omega) (fun i h5 h6 => h3 i (by omega) h6) h4
theorem fstB_no {b : Nat → Bool} : ∀ (n k0 : Nat), (∀ i, k0 ≤ i → i < k0 + n → b i = false) → fstB n b k0 = (-9) := by
  intro n
  induction n with
  | zero => intro k0 _; rfl
  | succ n ih =>
    intro k0 h
    unfold fstB
    rw [h k0 (Nat.le_refl _) (by omega)]
    exact ih (k0 + 1) (fun i h5 h6 => h i (by omega) (by omega))
theorem fstB_congr {b c : Nat → Bool} : ∀ (n k0 : Nat), (∀ i, k0 ≤ i → i < k0 + n → b i = c i) → fstB n b k0 = fstB n c k0 := by
  intro n
  induction n with
  | zero => intro k0 _; rfl
  | succ n ih =>
    intro k0 h
    unfold fstB
    rw [h k0 (Nat.le_refl _) (by omega), ih (k0 + 1) (fun i h5 h6 => h i (by omega) (by omega))]
/-! the see -/
def wdB (w h db : Int32) (pr : Bool) : Bool := decide (w - h < 0) || (pr && decide (w - h < db))
def wd (Y : YS) (d p : Nat) : Bool := wdB (Y.wit p) (Y.hard d) Y.db (hbit (Y.pret p) d)
def snr (Y : YS) (q p : Nat) : Bool := decide (Y.wit q < Y.wit p) || (decide (Y.wit q = Y.wit p) && decide (q < p))
def bef (Y : YS) (d p : Nat) : Nat := cnt Y.P (fun q => snr Y q p && wd Y d q)
def std (Y : YS) (d p : Nat) : Bool := wd Y d p && decide (nI (bef Y d p) < Y.rm)
def hrs (Y : YS) (p : Nat) : Int32 := if Y.kind p = nI 1 then (if Y.pat p - nI 1 < nI 0 then nI 0 else Y.pat p - nI 1) else if Y.kind p = nI 2 then Y.pat p / nI 2 else Y.pat p
def hbS (Y : YS) (st : Nat → Int32) (p t : Nat) : Int32 := nI (cnt t (fun d => hbit (st d) p)) * hrs Y p
/-- all days, as a set -/
def aD (D : Nat) : Nat := 2 ^ D - 1
theorem aD_eq : ∀ D, D ≤ 5 → nI 1 <<< (nI D &&& 31) - nI 1 = nI (aD D) := by decide +kernel
theorem aD_lt {D : Nat} (h : D ≤ 5) : aD D < 32 := by
  have : 2 ^ D ≤ 2 ^ 5 := Nat.pow_le_pow_right (by omega) h
  unfold aD; omega
/-- there is room for all who would -/
theorem std_all {Y : YS} {d : Nat} (h : ¬ Y.rm < nI (cnt Y.P (wd Y d))) (hP : Y.P ≤ 4) : msk Y.P (wd Y d) = msk Y.P (std Y d) := by
  refine msk_congr (fun p hp => ?_)
  unfold std
  cases hw : wd Y d p with
  | false => rfl
  | true =>
    have h1 : bef Y d p < cnt Y.P (wd Y d) := by
      unfold bef
      refine cnt_lt (fun i _ hi => ?_) hp ?_ hw
      · rw [Bool.and_eq_true] at hi; exact hi.2
      · simp [snr, Int32.lt_irrefl]
    have h2 := cnt_le Y.P (wd Y d)
    have h3 : nI (bef Y d p) < nI (cnt Y.P (wd Y d)) := nI_lt h1 (by omega)
    have h4 : nI (cnt Y.P (wd Y d)) ≤ Y.rm := Int32.not_lt.mp h
    have h5 : nI (bef Y d p) < Y.rm := Int32.lt_of_lt_of_le h3 h4
    simp [h5]
