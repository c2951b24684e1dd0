/-- a shape with a pattern in its cells 3 .. 9 -/
def shP (sh : zsh) (n : Nat) : Prop := sh 3 = (3, 3, [0, 0, 0, 0, 0, 6, 7, 8, 9, 10, 11]) ∧ sh 7 = (0, 80, []) ∧ sh 8 = (0, 80, []) ∧ sh 9 = (0, 80, []) ∧ 10 ≤ n
theorem shP_k : shP zk 86 := ⟨rfl, rfl, rfl, rfl, by decide⟩
def setw (mu : zmu) (c y : Nat) (pl st : Nat) (s : Int32) : zmu := u2 (u2 (u2 mu 7 (c * 4 + y) (nI pl)) 8 (c * 4 + y) (nI st)) 9 (c * 4 + y) s
theorem setw_3 {mu : zmu} {c y pl st j : Nat} {s : Int32} : setw mu c y pl st s 3 j = mu 3 j := rfl
def rwo (h r m : Nat) : Nat := if r + m < h then r + m else r + m - h
theorem lay_try : tryN 6 (fun w => tryN 5 fun h => tryN 5 fun dd => tryN 4 fun r => tryN 5 fun x => !(decide (2 ≤ w) && decide (2 ≤ h) && decide (dd < h) && decide (r < h) && decide (x < w)) ||
  (decide (r * w + x < w * h) && decide (r * w + x < 20) && (nbc w h dd (r * w + x) 0 == if 0 < x then r * w + x - 1 else rwo h r (h - dd) * w + w - 1) && (shn w h (r * w + x) 0 == if 0 < x then 1 else 0) && (nbc w h 0 (r * w + x) 0 == if 0 < x then r * w + x - 1 else r * w + x + w - 1)
   && (nbc w h dd (r * w + x) 1 == if x < w - 1 then r * w + x + 1 else rwo h r dd * w) && (shn w h (r * w + x) 1 == if x < w - 1 then 1 else 2) && (nbc w h 0 (r * w + x) 1 == if x < w - 1 then r * w + x + 1 else r * w)
   && (nbc w h dd (r * w + x) 2 == rwo h r (h - 1) * w + x) && (nbc w h dd (r * w + x) 3 == rwo h r 1 * w + x) && (shn w h (r * w + x) 2 == if r = 0 then 0 else 1) && (shn w h (r * w + x) 3 == if r = h - 1 then 2 else 1))) = true := by decide +kernel
theorem lay_at {w h dd r x : Nat} (h1 : 2 ≤ w) (h2 : w ≤ 5) (h3 : 2 ≤ h) (h4 : h ≤ 4) (hd : dd < h) (hr : r < h) (hx : x < w) :
  r * w + x < w * h ∧ r * w + x < 20 ∧ (nbc w h dd (r * w + x) 0 = if 0 < x then r * w + x - 1 else rwo h r (h - dd) * w + w - 1) ∧ (shn w h (r * w + x) 0 = if 0 < x then 1 else 0) ∧ (nbc w h 0 (r * w + x) 0 = if 0 < x then r * w + x - 1 else r * w + x + w - 1)
   ∧ (nbc w h dd (r * w + x) 1 = if x < w - 1 then r * w + x + 1 else rwo h r dd * w) ∧ (shn w h (r * w + x) 1 = if x < w - 1 then 1 else 2) ∧ (nbc w h 0 (r * w + x) 1 = if x < w - 1 then r * w + x + 1 else r * w)
   ∧ (nbc w h dd (r * w + x) 2 = rwo h r (h - 1) * w + x) ∧ (nbc w h dd (r * w + x) 3 = rwo h r 1 * w + x) ∧ (shn w h (r * w + x) 2 = if r = 0 then 0 else 1) ∧ (shn w h (r * w + x) 3 = if r = h - 1 then 2 else 1) := by
  have := tryN_at (tryN_at (tryN_at (tryN_at (tryN_at lay_try (i := w) (by omega)) (i := h) (by omega)) (i := dd) (by omega)) (i := r) (by omega)) (i := x) (by omega)
  simp only [h1, h3, hd, hr, hx, decide_true, Bool.and_true, Bool.not_true, Bool.false_or, Bool.and_eq_true, decide_eq_true_eq, beq_iff_eq] at this
  obtain ⟨⟨⟨⟨⟨⟨⟨⟨⟨⟨⟨a1, a2⟩, a3⟩, a4⟩, a5⟩, a6⟩, a7⟩, a8⟩, a9⟩, a10⟩, a11⟩, a12⟩ := this
  exact ⟨a1, a2, a3, a4, a5, a6, a7, a8, a9, a10, a11, a12⟩
/-- the row of a cell, and of one way, set -/
def layR (w h dd c : Nat) (mu : zmu) : zmu := setw (setw mu c 0 (nbc w h dd c 0) (nbc w h 0 c 0) (nI (shn w h c 0) - 1)) c 1 (nbc w h dd c 1) (nbc w h 0 c 1) (nI (shn w h c 1) - 1)
def layC (w h dd c : Nat) (mu : zmu) : zmu := setw (setw mu c 2 (nbc w h dd c 2) (nbc w h dd c 2) (nI (shn w h c 2) - 1)) c 3 (nbc w h dd c 3) (nbc w h dd c 3) (nI (shn w h c 3) - 1)
/-- all cells below k laid -/
def layK (w h dd k : Nat) (mu : zmu) : zmu := fun a j => if (a = 7 ∨ a = 8 ∨ a = 9) ∧ j < k * 4 then (if a = 7 then nI (nbc w h dd (j / 4) (j % 4)) else if a = 8 then nI (nbc w h 0 (j / 4) (j % 4)) else nI (shn w h (j / 4) (j % 4)) - 1) else mu a j
theorem nbc_v (w h dd c : Nat) : nbc w h dd c 2 = nbc w h 0 c 2 ∧ nbc w h dd c 3 = nbc w h 0 c 3 := ⟨rfl, rfl⟩
theorem layK_s (w h dd k : Nat) (mu : zmu) : layC w h dd k (layR w h dd k (layK w h dd k mu)) = layK w h dd (k + 1) mu := by
  funext a j
  unfold layC layR setw u2 layK
  by_cases h7 : a = 7
  · subst h7
    simp only [show ¬ (7 : Nat) = 8 by decide, show ¬ (7 : Nat) = 9 by decide, if_true, if_false, true_or, true_and]
    by_cases j3 : j = k * 4 + 3
    · subst j3; simp [show ¬ k * 4 + 3 < k * 4 by omega, show k * 4 + 3 < (k + 1) * 4 by omega, show (k * 4 + 3) / 4 = k by omega, show (k * 4 + 3) % 4 = 3 by omega]
    · by_cases j2 : j = k * 4 + 2
      · subst j2; simp [show k * 4 + 2 < (k + 1) * 4 by omega, show (k * 4 + 2) / 4 = k by omega, show (k * 4 + 2) % 4 = 2 by omega]
      · by_cases j1 : j = k * 4 + 1
        · subst j1; simp [show k * 4 + 1 < (k + 1) * 4 by omega, show (k * 4 + 1) / 4 = k by omega, show (k * 4 + 1) % 4 = 1 by omega]
        · by_cases j0 : j = k * 4 + 0
          · subst j0; simp [show k * 4 < (k + 1) * 4 by omega, show (k * 4) / 4 = k by omega, show (k * 4) % 4 = 0 by omega]
          · simp only [j3, j2, j1, j0, if_false]
            by_cases jl : j < k * 4
            · simp [jl, show j < (k + 1) * 4 by omega]
            · simp [jl, show ¬ j < (k + 1) * 4 by omega]
  · by_cases h8 : a = 8
    · subst h8
      simp only [show ¬ (8 : Nat) = 7 by decide, show ¬ (8 : Nat) = 9 by decide, if_true, if_false, true_or, or_true, true_and]
      by_cases j3 : j = k * 4 + 3
      · subst j3; simp [show k * 4 + 3 < (k + 1) * 4 by omega, show (k * 4 + 3) / 4 = k by omega, show (k * 4 + 3) % 4 = 3 by omega, (nbc_v w h dd k).2]
      · by_cases j2 : j = k * 4 + 2
        · subst j2; simp [show k * 4 + 2 < (k + 1) * 4 by omega, show (k * 4 + 2) / 4 = k by omega, show (k * 4 + 2) % 4 = 2 by omega, (nbc_v w h dd k).1]
        · by_cases j1 : j = k * 4 + 1
          · subst j1; simp [show k * 4 + 1 < (k + 1) * 4 by omega, show (k * 4 + 1) / 4 = k by omega, show (k * 4 + 1) % 4 = 1 by omega]
          · by_cases j0 : j = k * 4 + 0
            · subst j0; simp [show k * 4 < (k + 1) * 4 by omega, show (k * 4) / 4 = k by omega, show (k * 4) % 4 = 0 by omega]
            · simp only [j3, j2, j1, j0, if_false]
              by_cases jl : j < k * 4
              · simp [jl, show j < (k + 1) * 4 by omega]
              · simp [jl, show ¬ j < (k + 1) * 4 by omega]
    · by_cases h9 : a = 9
      · subst h9
        simp only [show ¬ (9 : Nat) = 7 by decide, show ¬ (9 : Nat) = 8 by decide, if_true, if_false, or_true, true_and]
        by_cases j3 : j = k * 4 + 3
        · subst j3; simp [show k * 4 + 3 < (k + 1) * 4 by omega, show (k * 4 + 3) / 4 = k by omega, show (k * 4 + 3) % 4 = 3 by omega]
        · by_cases j2 : j = k * 4 + 2
          · subst j2; simp [show k * 4 + 2 < (k + 1) * 4 by omega, show (k * 4 + 2) / 4 = k by omega, show (k * 4 + 2) % 4 = 2 by omega]
          · by_cases j1 : j = k * 4 + 1
            · subst j1; simp [show k * 4 + 1 < (k + 1) * 4 by omega, show (k * 4 + 1) / 4 = k by omega, show (k * 4 + 1) % 4 = 1 by omega]
            · by_cases j0 : j = k * 4 + 0
              · subst j0; simp [show k * 4 < (k + 1) * 4 by omega, show (k * 4) / 4 = k by omega, show (k * 4) % 4 = 0 by omega]
              · simp only [j3, j2, j1, j0, if_false]
                by_cases jl : j < k * 4
                · simp [jl, show j < (k + 1) * 4 by omega]
                · simp [jl, show ¬ j < (k + 1) * 4 by omega]
      · simp [h7, h8, h9]
theorem layK_3 {w h dd k j : Nat} {mu : zmu} : layK w h dd k mu 3 j = mu 3 j := by simp [layK]
theorem layK_0 {w h dd : Nat} {mu : zmu} : layK w h dd 0 mu = mu := by funext a j; simp [layK]
theorem mulA {r w x y : Nat} (e : x = y) : nI x = nI y := by rw [e]
theorem z_eqLg {X : zX} {M : zM} {d k q pc : Nat} {L L' S : List Value} {n : Nat} {sh : zsh} {mu mu' : zmu} {nu : znu} {Q : zQ} (kk : zJ X M d k q pc L S n (zEg sh mu nu) Q) (e : L = L') (e2 : mu = mu') : zJ X M d k q pc L' S n (zEg sh mu' nu) Q := e ▸ e2 ▸ kk
