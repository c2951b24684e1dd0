/-! words of the paper, as numbers -/
/-- the kind of a cell, with what is cut -/
def kdk (K : Nat → Nat) (cut c : Nat) : Nat := if cut / 2 ^ c % 2 = 1 then 0 else K c
/-- patterns: width, height, drop, boys; kinds of cells, homes, kinds of boys -/
abbrev PT : Type := Nat × Nat × Nat × Nat × (Nat → Nat) × (Nat → Nat) × (Nat → Nat)
def pw (p : PT) : Nat := p.1
def ph (p : PT) : Nat := p.2.1
def pd (p : PT) : Nat := p.2.2.1
def pb (p : PT) : Nat := p.2.2.2.1
def pK (p : PT) : Nat → Nat := p.2.2.2.2.1
def pH (p : PT) : Nat → Nat := p.2.2.2.2.2.1
def pX (p : PT) : Nat → Nat := p.2.2.2.2.2.2
/-- the cell beside one, with a drop of dd -/
def nbc (w h dd c y : Nat) : Nat :=
  if y = 0 then (if c % w = 0 then (c / w + h - dd) % h * w + (w - 1) else c - 1)
  else if y = 1 then (if c % w = w - 1 then (c / w + dd) % h * w else c + 1)
  else if y = 2 then (if c / w = 0 then h - 1 else c / w - 1) * w + c % w
  else (if c / w = h - 1 then 0 else c / w + 1) * w + c % w
/-- by how many sheets one is further on, and 1 -/
def shn (w h c y : Nat) : Nat :=
  if y = 0 then (if c % w = 0 then 0 else 1)
  else if y = 1 then (if c % w = w - 1 then 2 else 1)
  else if y = 2 then (if c / w = 0 then 0 else 1)
  else (if c / w = h - 1 then 2 else 1)
/-- a step of a place: cell + 20 * width + 140 * height -/
def stp (w h dd p y : Nat) : Option Nat :=
  let t := (if y < 2 then p / 20 % 7 else p / 140) + shn w h (p % 20) y
  if 1 ≤ t ∧ t ≤ 7 then some (nbc w h dd (p % 20) y + 20 * (if y < 2 then t - 1 else p / 20 % 7) + 140 * (if y < 2 then p / 140 else t - 1)) else none
/-- can a boy of kind x be at a cell of kind k -/
def cbe (x k : Nat) : Bool := x == 1 || (k != 1 && (x != 2 || k != 2))
/-- the drop that a boy of kind x goes by -/
def pdx (p : PT) (x : Nat) : Nat := if x = 3 then 0 else pd p
def pon (p : PT) (cut b pl y : Nat) : Option Nat := match stp (pw p) (ph p) (pdx p (pX p b)) pl y with
  | none => none
  | some q => if cbe (pX p b) (kdk (pK p) cut (q % 20)) = true then some q else none
def oI : Option Nat → Int32
  | none => -1
  | some q => nI q
def hear (w h dd c q : Nat) : Bool := c == q || (nbc w h dd c 0 == q || (nbc w h dd c 1 == q || (nbc w h dd c 2 == q || nbc w h dd c 3 == q)))
/-- bits of those below n that f holds of -/
def bset (f : Nat → Bool) : Nat → Nat
  | 0 => 0
  | n + 1 => if f n = true then bset f n ||| 2 ^ n else bset f n
/-- how many below n f holds of -/
def bcnt (f : Nat → Bool) : Nat → Nat
  | 0 => 0
  | n + 1 => bcnt f n + (if f n = true then 1 else 0)
theorem bset_t {f : Nat → Bool} {n : Nat} (h : f n = true) : bset f n ||| 1 * 2 ^ n = bset f (n + 1) := by simp [bset, h]
theorem bset_f {f : Nat → Bool} {n : Nat} (h : f n = false) : bset f n = bset f (n + 1) := by simp [bset, h]
theorem bset_lt (f : Nat → Bool) : ∀ n, bset f n < 2 ^ n
  | 0 => by simp [bset]
  | n + 1 => by
    have ih := bset_lt f n
    have h1 : (2 : Nat) ^ n < 2 ^ (n + 1) := Nat.pow_lt_pow_right (by decide) (by omega)
    unfold bset
    split
    · exact Nat.or_lt_two_pow (by omega) h1
    · omega
theorem bset_bit (f : Nat → Bool) : ∀ n i, (bset f n).testBit i = (decide (i < n) && f i)
  | 0, i => by simp [bset]
  | n + 1, i => by
    have ih := bset_bit f n i
    unfold bset
    by_cases h : f n = true
    · rw [if_pos h, Nat.testBit_or, ih, Nat.testBit_two_pow]
      by_cases hi : i = n
      · subst hi; simp [h]
      · have h2 : ¬ n = i := fun e => hi e.symm
        by_cases h3 : i < n
        · simp [h3, h2, show i < n + 1 by omega]
        · simp [h3, h2, show ¬ i < n + 1 by omega]
    · rw [if_neg h, ih]
      by_cases hi : i = n
      · subst hi; simp [h]
      · by_cases h3 : i < n
        · simp [h3, show i < n + 1 by omega]
        · simp [h3, show ¬ i < n + 1 by omega]
theorem bset_congr {f g : Nat → Bool} : ∀ {n : Nat}, (∀ i, i < n → f i = g i) → bset f n = bset g n
  | 0, _ => rfl
  | n + 1, h => by
    have ih : bset f n = bset g n := bset_congr (fun i hi => h i (by omega))
    simp only [bset, h n (by omega), ih]
theorem bcnt_congr {f g : Nat → Bool} : ∀ {n : Nat}, (∀ i, i < n → f i = g i) → bcnt f n = bcnt g n
  | 0, _ => rfl
  | n + 1, h => by
    have ih : bcnt f n = bcnt g n := bcnt_congr (fun i hi => h i (by omega))
    simp only [bcnt, h n (by omega), ih]
theorem bcnt_le (f : Nat → Bool) : ∀ n, bcnt f n ≤ n
  | 0 => Nat.le_refl _
  | n + 1 => by have := bcnt_le f n; unfold bcnt; split <;> omega
theorem nI_m1 {q : Nat} (h : q < 2 ^ 31) : ¬ nI q = -1 := by
  intro e
  have := congrArg Int32.toInt e
  rw [nI_toInt h] at this
  have h2 : ((-1 : Int32)).toInt = -1 := by decide
  omega
theorem nI_m9 {q : Nat} (h : q < 2 ^ 31) : ¬ nI q = -9 := by
  intro e
  have := congrArg Int32.toInt e
  rw [nI_toInt h] at this
  have h2 : ((-9 : Int32)).toInt = -9 := by decide
  omega
/-- what holds of a pattern -/
def PV (p : PT) : Prop := 2 ≤ pw p ∧ pw p ≤ 5 ∧ 2 ≤ ph p ∧ ph p ≤ 4 ∧ pd p < ph p ∧ pb p ≤ 5 ∧ (∀ c, c < pw p * ph p → pK p c ≤ 3) ∧ (∀ b, b < pb p → pH p b < pw p * ph p ∧ pX p b ≤ 3)
theorem PV.n20 {p : PT} (h : PV p) : pw p * ph p ≤ 20 := by
  have h1 := h.2.1
  have h2 := h.2.2.2.1
  exact Nat.le_trans (Nat.mul_le_mul h1 h2) (by decide)
theorem PV.n4 {p : PT} (h : PV p) : 4 ≤ pw p * ph p := Nat.le_trans (by decide : 4 ≤ 2 * 2) (Nat.mul_le_mul h.1 h.2.2.1)
def SV (p : PT) (P : Nat → Nat) (cut : Nat) : Prop := (∀ b, b < pb p → P b < 980 ∧ P b % 20 < pw p * ph p) ∧ cut < 2 ^ 20
theorem kdk_le {p : PT} (h : PV p) {c cut : Nat} (hc : c < pw p * ph p) : kdk (pK p) cut c ≤ 3 := by
  unfold kdk; split
  · omega
  · exact h.2.2.2.2.2.2.1 c hc
/-- all small numbers, by trying them -/
def tryN (n : Nat) (f : Nat → Bool) : Bool := (List.range n).all f
theorem tryN_at {n : Nat} {f : Nat → Bool} (h : tryN n f = true) {i : Nat} (hi : i < n) : f i = true := List.all_eq_true.mp h i (List.mem_range.mpr hi)
theorem nbc_try : tryN 6 (fun w => tryN 5 fun h => tryN 5 fun dd => tryN 20 fun c => tryN 4 fun y => !(decide (2 ≤ w) && decide (2 ≤ h) && decide (dd < h) && decide (c < w * h)) || decide (nbc w h dd c y < w * h)) = true := by decide +kernel
theorem nbc_lt {p : PT} (hp : PV p) {dd c y : Nat} (hd : dd < ph p) (hc : c < pw p * ph p) (hy : y < 4) : nbc (pw p) (ph p) dd c y < pw p * ph p := by
  have := hp.n20
  obtain ⟨h1, h2, h3, h4, h5, -⟩ := hp
  have h := tryN_at (tryN_at (tryN_at (tryN_at (tryN_at nbc_try (i := pw p) (by omega)) (i := ph p) (by omega)) (i := dd) (by omega)) (i := c) (by omega)) hy
  simpa [h1, h3, hd, hc] using h
theorem pdx_lt {p : PT} (hp : PV p) (x : Nat) : pdx p x < ph p := by
  obtain ⟨h1, h2, h3, h4, h5, -⟩ := hp
  unfold pdx; split <;> omega
theorem shn_le (w h c y : Nat) : shn w h c y ≤ 2 := by
  unfold shn; split
  · split <;> omega
  · split
    · split <;> omega
    · split
      · split <;> omega
      · split <;> omega
theorem stp_ok {p : PT} (hp : PV p) {dd pl y q : Nat} (hd : dd < ph p) (hc : pl % 20 < pw p * ph p) (h98 : pl < 980) (hy : y < 4) (h : stp (pw p) (ph p) dd pl y = some q) : q < 980 ∧ q % 20 < pw p * ph p ∧ q % 20 = nbc (pw p) (ph p) dd (pl % 20) y := by
  have hn := nbc_lt hp hd hc hy
  have h20 := hp.n20
  unfold stp at h
  by_cases hy2 : y < 2
  · simp only [hy2, if_true] at h
    by_cases ht : 1 ≤ pl / 20 % 7 + shn (pw p) (ph p) (pl % 20) y ∧ pl / 20 % 7 + shn (pw p) (ph p) (pl % 20) y ≤ 7
    · rw [if_pos ht] at h
      obtain rfl := Option.some.inj h
      generalize nbc (pw p) (ph p) dd (pl % 20) y = nb at *
      omega
    · rw [if_neg ht] at h; cases h
  · simp only [hy2, if_false] at h
    by_cases ht : 1 ≤ pl / 140 + shn (pw p) (ph p) (pl % 20) y ∧ pl / 140 + shn (pw p) (ph p) (pl % 20) y ≤ 7
    · rw [if_pos ht] at h
      obtain rfl := Option.some.inj h
      generalize nbc (pw p) (ph p) dd (pl % 20) y = nb at *
      omega
    · rw [if_neg ht] at h; cases h
