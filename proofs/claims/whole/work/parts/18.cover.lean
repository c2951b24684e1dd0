/-! the fewest cells at which to call: a table over sets of boys -/
theorem bit_add {S k i : Nat} (hS : S < 2 ^ k) : (S + 2 ^ k).testBit i = if i < k then S.testBit i else decide (i = k) := by
  rw [show S + 2 ^ k = 2 ^ k * 1 + S by omega, Nat.testBit_two_pow_mul_add _ hS]
  by_cases h : i < k
  · rw [if_pos h, if_pos h]
  · rw [if_neg h, if_neg h]
    by_cases e : i = k
    · subst e; simp
    · have : i - k ≠ 0 := by omega
      obtain ⟨m, hm⟩ := Nat.exists_eq_succ_of_ne_zero this
      rw [hm]; simp [e, Nat.testBit_succ]
theorem bit_big {S k i : Nat} (hS : S < 2 ^ k) (h : k ≤ i) : S.testBit i = false := Nat.testBit_lt_two_pow (Nat.lt_of_lt_of_le hS (Nat.pow_le_pow_right (by decide) h))
theorem bcnt_flip {f g : Nat → Bool} {k : Nat} (hf : f k = false) (hg : g k = true) (ho : ∀ i, i ≠ k → f i = g i) : ∀ n, k < n → bcnt g n = bcnt f n + 1
  | n + 1, h => by
    rw [bcnt_s, bcnt_s]
    by_cases e : n = k
    · subst e
      rw [hf, hg, bcnt_congr (f := g) (g := f) (fun i hi => (ho i (by omega)).symm)]
      rfl
    · rw [bcnt_flip hf hg ho n (by omega), ho n e]; omega
theorem popc_add {S k : Nat} (hS : S < 2 ^ k) (hk : k < 20) : popc (S + 2 ^ k) = popc S + 1 := by
  unfold popc
  refine bcnt_flip (k := k) (bit_big hS (Nat.le_refl _)) (by rw [bit_add hS]; simp) (fun i hi => ?_) 20 hk
  rw [bit_add hS]
  by_cases h : i < k
  · rw [if_pos h]
  · rw [if_neg h, bit_big hS (by omega)]; simp [hi]
def key (S : Nat) : Nat := popc S * 2 ^ 20 + S
def INF : Nat := 1073741824
theorem key_lt {S : Nat} (h : S < 2 ^ 20) : key S < 2 ^ 25 := by
  have : popc S ≤ 20 := bcnt_le _ 20
  unfold key; omega
theorem key_mod {S : Nat} (h : S < 2 ^ 20) : key S &&& 1048575 = S := by
  have := Nat.and_two_pow_sub_one_eq_mod (key S) 20
  have e : (2 : Nat) ^ 20 - 1 = 1048575 := by decide
  rw [e] at this
  rw [this]; unfold key; omega
theorem key_add {S k : Nat} (hS : S < 2 ^ k) (hk : k < 20) : key (S + 2 ^ k) = key S + (2 ^ 20 + 2 ^ k) := by
  unfold key; rw [popc_add hS hk]; omega
/-- who is home or hears at a set of cells below k -/
def unr (hm : Nat) (hr : Nat → Nat) : Nat → Nat → Nat
  | 0, _ => hm
  | k + 1, S => unr hm hr k S ||| (if S.testBit k = true then hr k else 0)
theorem unr_congr {hm : Nat} {hr : Nat → Nat} {S S' : Nat} : ∀ {k : Nat}, (∀ i, i < k → S.testBit i = S'.testBit i) → unr hm hr k S = unr hm hr k S'
  | 0, _ => rfl
  | k + 1, h => by
    have ih : unr hm hr k S = unr hm hr k S' := unr_congr (fun i hi => h i (by omega))
    simp only [unr, ih, h k (by omega)]
theorem unr_s0 {hm : Nat} {hr : Nat → Nat} {k S : Nat} (hS : S < 2 ^ k) : unr hm hr (k + 1) S = unr hm hr k S := by
  simp [unr, bit_big hS (Nat.le_refl _)]
theorem unr_s1 {hm : Nat} {hr : Nat → Nat} {k S : Nat} (hS : S < 2 ^ k) : unr hm hr (k + 1) (S + 2 ^ k) = unr hm hr k S ||| hr k := by
  have e : unr hm hr k (S + 2 ^ k) = unr hm hr k S := unr_congr (fun i hi => by rw [bit_add hS, if_pos hi])
  simp only [unr, e]
  rw [bit_add hS]; simp
theorem unr_lt {hm : Nat} {hr : Nat → Nat} (h1 : hm < 32) (h2 : ∀ c, hr c < 32) : ∀ (k S : Nat), unr hm hr k S < 32
  | 0, _ => h1
  | k + 1, S => by
    unfold unr
    refine Nat.or_lt_two_pow (n := 5) (unr_lt h1 h2 k S) ?_
    split
    · exact h2 k
    · decide
theorem unr_bit {hm : Nat} {hr : Nat → Nat} {S b : Nat} : ∀ {k : Nat}, (unr hm hr k S).testBit b = true ↔ (hm.testBit b = true ∨ ∃ c, c < k ∧ S.testBit c = true ∧ (hr c).testBit b = true)
  | 0 => by simp [unr]
  | k + 1 => by
    have ih := unr_bit (hm := hm) (hr := hr) (S := S) (b := b) (k := k)
    unfold unr
    rw [Nat.testBit_or, Bool.or_eq_true, ih]
    constructor
    · rintro ((h | ⟨c, h1, h2, h3⟩) | h)
      · exact Or.inl h
      · exact Or.inr ⟨c, by omega, h2, h3⟩
      · by_cases hk : S.testBit k = true
        · rw [if_pos hk] at h; exact Or.inr ⟨k, by omega, hk, h⟩
        · rw [if_neg hk] at h; simp at h
    · rintro (h | ⟨c, h1, h2, h3⟩)
      · exact Or.inl (Or.inl h)
      · by_cases e : c = k
        · subst e; right; rw [if_pos h2]; exact h3
        · exact Or.inl (Or.inr ⟨c, by omega, h2, h3⟩)
def DPI (hm : Nat) (hr : Nat → Nat) (k : Nat) (B : Nat → Nat) : Prop := ∀ t, t < 32 → (∀ S, S < 2 ^ k → unr hm hr k S = t → B t ≤ key S) ∧ (B t = INF ∨ ∃ S, S < 2 ^ k ∧ unr hm hr k S = t ∧ B t = key S)
def DPJ (hm : Nat) (hr : Nat → Nat) (k i : Nat) (D : Nat → Nat) : Prop := ∀ t, t < 32 → (∀ S, S < 2 ^ k → unr hm hr k S = t → D t ≤ key S) ∧ (∀ S, S < 2 ^ k → unr hm hr k S < i → unr hm hr k S ||| hr k = t → D t ≤ key S + (2 ^ 20 + 2 ^ k)) ∧ (D t = INF ∨ ∃ S, S < 2 ^ (k + 1) ∧ unr hm hr (k + 1) S = t ∧ D t = key S)
theorem pow_s {k S : Nat} (h : S < 2 ^ k) : S < 2 ^ (k + 1) := Nat.lt_of_lt_of_le h (Nat.pow_le_pow_right (by decide) (by omega))
theorem DPJ_0 {hm : Nat} {hr : Nat → Nat} {k : Nat} {B : Nat → Nat} (h : DPI hm hr k B) : DPJ hm hr k 0 B := by
  intro t ht
  obtain ⟨h1, h2⟩ := h t ht
  refine ⟨h1, fun S _ h => absurd h (Nat.not_lt_zero _), ?_⟩
  rcases h2 with h2 | ⟨S, a, b, c⟩
  · exact Or.inl h2
  · exact Or.inr ⟨S, pow_s a, by rw [unr_s0 a]; exact b, c⟩
theorem DPJ_end {hm : Nat} {hr : Nat → Nat} {k : Nat} {D : Nat → Nat} (g1 : hm < 32) (g2 : ∀ c, hr c < 32) (hk : k < 20) (h : DPJ hm hr k 32 D) : DPI hm hr (k + 1) D := by
  intro t ht
  obtain ⟨h1, h2, h3⟩ := h t ht
  refine ⟨fun S hS e => ?_, h3⟩
  rcases Nat.lt_or_ge S (2 ^ k) with g | g
  · exact h1 S g (by rw [← unr_s0 g]; exact e)
  · obtain ⟨S0, rfl⟩ : ∃ S0, S = S0 + 2 ^ k := ⟨S - 2 ^ k, by omega⟩
    have hS0 : S0 < 2 ^ k := by rw [Nat.pow_succ] at hS; omega
    rw [unr_s1 hS0] at e
    rw [key_add hS0 hk]
    exact h2 S0 hS0 (unr_lt g1 g2 k S0) e
theorem DPJ_skip {hm : Nat} {hr : Nat → Nat} {k i : Nat} {D : Nat → Nat} (hk : k < 20) (h : DPJ hm hr k i D) (hi : i < 32) (e : D i = INF) : DPJ hm hr k (i + 1) D := by
  intro t ht
  obtain ⟨h1, h2, h3⟩ := h t ht
  refine ⟨h1, fun S hS hu ht => ?_, h3⟩
  rcases Nat.lt_or_ge (unr hm hr k S) i with g | g
  · exact h2 S hS g ht
  · exfalso
    have := (h i hi).1 S hS (by omega)
    have h20 : S < 2 ^ 20 := Nat.lt_of_lt_of_le hS (Nat.pow_le_pow_right (by decide) (by omega))
    have := key_lt h20
    rw [e] at *
    unfold INF at *
    omega
def adD (D : Nat → Nat) (w v : Nat) : Nat → Nat := fun t => if t = w then min (D t) v else D t
theorem DPJ_step {hm : Nat} {hr : Nat → Nat} {k i : Nat} {D : Nat → Nat} (hk : k < 20) (h : DPJ hm hr k i D) (hi : i < 32) (e : D i ≠ INF) : DPJ hm hr k (i + 1) (adD D (i ||| hr k) (D i + (2 ^ 20 + 2 ^ k))) := by
  intro t ht
  obtain ⟨h1, h2, h3⟩ := h t ht
  have hle : adD D (i ||| hr k) (D i + (2 ^ 20 + 2 ^ k)) t ≤ D t := by unfold adD; split <;> omega
  refine ⟨fun S hS he => Nat.le_trans hle (h1 S hS he), fun S hS hu he => ?_, ?_⟩
  · rcases Nat.lt_or_ge (unr hm hr k S) i with g | g
    · exact Nat.le_trans hle (h2 S hS g he)
    · have e2 : unr hm hr k S = i := by omega
      have h4 := (h i hi).1 S hS e2
      rw [e2] at he
      unfold adD
      rw [if_pos he.symm]
      omega
  · unfold adD
    by_cases hw : t = i ||| hr k
    · rw [if_pos hw]
      rcases Nat.lt_or_ge (D i + (2 ^ 20 + 2 ^ k)) (D t) with g | g
      · rw [Nat.min_eq_right (by omega)]
        rcases (h i hi).2.2 with h5 | ⟨S, a, b, c⟩
        · exact absurd h5 e
        · rcases Nat.lt_or_ge S (2 ^ k) with gs | gs
          · refine Or.inr ⟨S + 2 ^ k, by rw [Nat.pow_succ]; omega, ?_, by rw [key_add gs hk, c]⟩
            rw [unr_s1 gs, ← unr_s0 gs, b]; exact hw.symm
          · exfalso
            obtain ⟨S0, rfl⟩ : ∃ S0, S = S0 + 2 ^ k := ⟨S - 2 ^ k, by omega⟩
            have hS0 : S0 < 2 ^ k := by rw [Nat.pow_succ] at a; omega
            rw [unr_s1 hS0] at b
            have : i ||| hr k = i := by rw [← b, Nat.or_assoc, Nat.or_self]
            rw [this] at hw
            subst hw
            omega
      · rw [Nat.min_eq_left (by omega)]; exact h3
    · rw [if_neg hw]; exact h3
theorem DPJ_lt {hm : Nat} {hr : Nat → Nat} {k i : Nat} {D : Nat → Nat} (hk : k < 20) (h : DPJ hm hr k i D) {t : Nat} (ht : t < 32) : D t = INF ∨ D t < 2 ^ 25 := by
  rcases (h t ht).2.2 with g | ⟨S, a, b, c⟩
  · exact Or.inl g
  · right; rw [c]; exact key_lt (Nat.lt_of_lt_of_le a (Nat.pow_le_pow_right (by decide) (by omega)))
theorem DPI_lt {hm : Nat} {hr : Nat → Nat} {k : Nat} {D : Nat → Nat} (hk : k ≤ 20) (h : DPI hm hr k D) {t : Nat} (ht : t < 32) : D t = INF ∨ D t < 2 ^ 25 := by
  rcases (h t ht).2 with g | ⟨S, a, b, c⟩
  · exact Or.inl g
  · right; rw [c]; exact key_lt (Nat.lt_of_lt_of_le a (Nat.pow_le_pow_right (by decide) hk))
theorem DPI_0 {hm : Nat} {hr : Nat → Nat} (h1 : hm < 32) : DPI hm hr 0 (fun t => if t = hm then 0 else INF) := by
  intro t ht
  refine ⟨fun S hS e => ?_, ?_⟩
  · obtain rfl : S = 0 := by simpa using hS
    have e : hm = t := e
    simp [e]
  · by_cases h : t = hm
    · exact Or.inr ⟨0, by decide, h.symm, by simp [h, key, popc, bcnt]⟩
    · exact Or.inl (by simp [h])
/-- the best set of cells: few, then least -/
def cvB (hm : Nat) (hr : Nat → Nat) (n all S : Nat) : Prop := S < 2 ^ n ∧ unr hm hr n S = all ∧ ∀ S', S' < 2 ^ n → unr hm hr n S' = all → key S ≤ key S'
theorem cvB_of {hm : Nat} {hr : Nat → Nat} {n all : Nat} {B : Nat → Nat} (hn : n ≤ 20) (h : DPI hm hr n B) (ha : all < 32) (hex : ∃ S, S < 2 ^ n ∧ unr hm hr n S = all) : ∃ S, cvB hm hr n all S ∧ B all = key S := by
  obtain ⟨h1, h2⟩ := h all ha
  rcases h2 with h2 | ⟨S, a, b, c⟩
  · exfalso
    obtain ⟨S, hS, e⟩ := hex
    have := h1 S hS e
    have := key_lt (Nat.lt_of_lt_of_le hS (Nat.pow_le_pow_right (by decide) hn))
    unfold INF at h2
    omega
  · exact ⟨S, ⟨a, b, fun S' hS' e => by rw [← c]; exact h1 S' hS' e⟩, c⟩
theorem cvB_uniq {hm : Nat} {hr : Nat → Nat} {n all S S' : Nat} (hn : n ≤ 20) (h : cvB hm hr n all S) (h' : cvB hm hr n all S') : S = S' := by
  have a := h.2.2 S' h'.1 h'.2.1
  have b := h'.2.2 S h.1 h.2.1
  have e : key S = key S' := by omega
  have c1 := key_mod (Nat.lt_of_lt_of_le h.1 (Nat.pow_le_pow_right (by decide) hn))
  have c2 := key_mod (Nat.lt_of_lt_of_le h'.1 (Nat.pow_le_pow_right (by decide) hn))
  rw [← c1, e, c2]
