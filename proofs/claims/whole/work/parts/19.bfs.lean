/-! going out from a place, step by step: how many were found, which, and in which round (0: not) -/
abbrev BS : Type := Nat × (Nat → Nat) × (Nat → Nat)
def bput (st : BS) (q v : Nat) : BS := (st.1 + 1, (fun j => if j = st.1 then q else st.2.1 j), (fun x => if x = q then v else st.2.2 x))
def bway (nb : Nat → Nat → Option Nat) (pl rd : Nat) (st : BS) (y : Nat) : BS := match nb pl y with
  | none => st
  | some q => if st.2.2 q = 0 then bput st q (rd + 1) else st
def bwys (nb : Nat → Nat → Option Nat) (pl rd : Nat) (st : BS) : Nat → BS
  | 0 => st
  | y + 1 => bway nb pl rd (bwys nb pl rd st y) y
def bnode (nb : Nat → Nat → Option Nat) (st : BS) (k : Nat) : BS := if k < st.1 then bwys nb (st.2.1 k) (st.2.2 (st.2.1 k)) st 4 else st
def BB (nb : Nat → Nat → Option Nat) (s : Nat) : Nat → BS
  | 0 => (1, (fun _ => s), (fun q => if q = s then 1 else 0))
  | k + 1 => bnode nb (BB nb s k) k
/-- what holds of all that was found, M being the largest round -/
def BI (vp : Nat → Prop) (M : Nat) (st : BS) : Prop := 1 ≤ st.1 ∧ (∀ j, j < st.1 → vp (st.2.1 j) ∧ st.2.2 (st.2.1 j) ≠ 0 ∧ st.2.2 (st.2.1 j) ≤ M ∧ st.2.2 (st.2.1 j) ≤ j + 1) ∧ (∀ q, st.2.2 q ≠ 0 → ∃ j, j < st.1 ∧ st.2.1 j = q) ∧ st.1 = bcnt (fun q => decide (st.2.2 q ≠ 0)) 980 ∧ (∀ j j', j ≤ j' → j' < st.1 → st.2.2 (st.2.1 j) ≤ st.2.2 (st.2.1 j'))
theorem BI_lt {vp : Nat → Prop} {M : Nat} {st : BS} (h : BI vp M st) (hv : ∀ q, vp q → q < 980) {q : Nat} (hq : q < 980) (h0 : st.2.2 q = 0) : st.1 < 980 := by
  have h1 : bcnt (fun x => decide (x = q ∨ st.2.2 x ≠ 0)) 980 = bcnt (fun x => decide (st.2.2 x ≠ 0)) 980 + 1 := by
    refine bcnt_flip (k := q) (by simp [h0]) (by simp) (fun i hi => by simp [hi]) 980 hq
  have h2 := bcnt_le (fun x => decide (x = q ∨ st.2.2 x ≠ 0)) 980
  have h3 := h.2.2.2.1
  omega
theorem BI_le {vp : Nat → Prop} {M : Nat} {st : BS} (h : BI vp M st) : st.1 ≤ 980 := by rw [h.2.2.2.1]; exact bcnt_le _ _
theorem BI_put {vp : Nat → Prop} {M : Nat} {st : BS} (h : BI vp M st) (hv : ∀ q, vp q → q < 980) {q rd : Nat} (hq : vp q) (h0 : st.2.2 q = 0) (hM : M = rd + 1) (hr : ∀ j, j < st.1 → st.2.2 (st.2.1 j) ≤ rd + 1) (hj : rd + 1 ≤ st.1 + 1) : BI vp M (bput st q (rd + 1)) := by
  obtain ⟨h1, h2, h3, h4, h5⟩ := h
  have ho : ∀ j, j < st.1 → st.2.1 j ≠ q := fun j hj e => (h2 j hj).2.1 (by rw [e]; exact h0)
  have hf : ∀ j, j < st.1 → (bput st q (rd + 1)).2.1 j = st.2.1 j := fun j hj => by simp [bput]; omega
  have hfl : (bput st q (rd + 1)).2.1 st.1 = q := by simp [bput]
  have hrr : ∀ j, j < st.1 → (bput st q (rd + 1)).2.2 (st.2.1 j) = st.2.2 (st.2.1 j) := fun j hj => by simp [bput, ho j hj]
  have hrl : (bput st q (rd + 1)).2.2 q = rd + 1 := by simp [bput]
  have hc : (bput st q (rd + 1)).1 = st.1 + 1 := rfl
  refine ⟨by rw [hc]; omega, fun j hj => ?_, fun x hx => ?_, ?_, fun j j' hjj hj' => ?_⟩
  · rw [hc] at hj
    by_cases e : j = st.1
    · subst e; rw [hfl, hrl]; exact ⟨hq, by omega, by omega, by omega⟩
    · rw [hf j (by omega), hrr j (by omega)]; exact h2 j (by omega)
  · by_cases e : x = q
    · exact ⟨st.1, by rw [hc]; omega, by rw [hfl, e]⟩
    · have : (bput st q (rd + 1)).2.2 x = st.2.2 x := by simp [bput, e]
      rw [this] at hx
      obtain ⟨j, hj, ej⟩ := h3 x hx
      exact ⟨j, by rw [hc]; omega, by rw [hf j hj]; exact ej⟩
  · rw [hc, h4]
    refine (bcnt_flip (k := q) (by simp [h0]) (by simp [hrl]) (fun i hi => by simp [bput, hi]) 980 (hv q hq)).symm
  · rw [hc] at hj'
    by_cases e' : j' = st.1
    · subst e'
      rw [hfl, hrl]
      by_cases e : j = st.1
      · subst e; rw [hfl, hrl]; exact Nat.le_refl _
      · rw [hf j (by omega), hrr j (by omega)]; exact hr j (by omega)
    · rw [hf j (by omega), hrr j (by omega), hf j' (by omega), hrr j' (by omega)]; exact h5 j j' hjj (by omega)
/-- places keep their index and their round -/
def bext (a b : BS) : Prop := a.1 ≤ b.1 ∧ (∀ j, j < a.1 → b.2.1 j = a.2.1 j) ∧ (∀ q, a.2.2 q ≠ 0 → b.2.2 q = a.2.2 q)
theorem bext_rf (a : BS) : bext a a := ⟨Nat.le_refl _, fun _ _ => rfl, fun _ _ => rfl⟩
theorem bext_tr {a b c : BS} (h : bext a b) (g : bext b c) : bext a c := ⟨Nat.le_trans h.1 g.1, fun j hj => (g.2.1 j (Nat.lt_of_lt_of_le hj h.1)).trans (h.2.1 j hj), fun q hq => (g.2.2 q (by rw [h.2.2 q hq]; exact hq)).trans (h.2.2 q hq)⟩
theorem bext_put {st : BS} {q v : Nat} (h0 : st.2.2 q = 0) : bext st (bput st q v) := by
  refine ⟨Nat.le_succ _, fun j hj => ?_, fun x hx => ?_⟩
  · show (if j = st.1 then q else st.2.1 j) = st.2.1 j
    rw [if_neg (by omega)]
  · show (if x = q then v else st.2.2 x) = st.2.2 x
    rw [if_neg (fun e => hx (by rw [e]; exact h0))]
theorem bext_way {nb : Nat → Nat → Option Nat} {pl rd y : Nat} {st : BS} : bext st (bway nb pl rd st y) := by
  unfold bway
  split
  · exact bext_rf _
  · split
    · exact bext_put (by assumption)
    · exact bext_rf _
theorem bext_wys {nb : Nat → Nat → Option Nat} {pl rd : Nat} {st : BS} : ∀ y, bext st (bwys nb pl rd st y)
  | 0 => bext_rf _
  | y + 1 => bext_tr (bext_wys y) bext_way
/-- within a node: rounds go up to rd + 1 -/
theorem BI_wys {nb : Nat → Nat → Option Nat} {vp : Nat → Prop} (hv : ∀ q, vp q → q < 980) (hnb : ∀ pl y q, vp pl → y < 4 → nb pl y = some q → vp q) {st : BS} {k : Nat} (hk : k < st.1) (h : BI vp (st.2.2 (st.2.1 k) + 1) st) : ∀ y, y ≤ 4 → BI vp (st.2.2 (st.2.1 k) + 1) (bwys nb (st.2.1 k) (st.2.2 (st.2.1 k)) st y)
  | 0, _ => h
  | y + 1, hy => by
    have ih := BI_wys hv hnb hk h y (by omega)
    have hx := bext_wys (nb := nb) (pl := st.2.1 k) (rd := st.2.2 (st.2.1 k)) (st := st) y
    have hkk := h.2.1 k hk
    show BI vp _ (bway nb (st.2.1 k) (st.2.2 (st.2.1 k)) (bwys nb (st.2.1 k) (st.2.2 (st.2.1 k)) st y) y)
    unfold bway
    cases hq : nb (st.2.1 k) y with
    | none => exact ih
    | some q =>
      simp only
      by_cases h0 : (bwys nb (st.2.1 k) (st.2.2 (st.2.1 k)) st y).2.2 q = 0
      · rw [if_pos h0]
        refine BI_put ih hv (hnb _ _ _ hkk.1 (by omega) hq) h0 rfl (fun j hj => (ih.2.1 j hj).2.2.1) ?_
        have := hkk.2.2.2
        have := hx.1
        omega
      · rw [if_neg h0]; exact ih
theorem BI_mono {vp : Nat → Prop} {M M' : Nat} {st : BS} (h : BI vp M st) (hM : M ≤ M') : BI vp M' st := ⟨h.1, fun j hj => ⟨(h.2.1 j hj).1, (h.2.1 j hj).2.1, Nat.le_trans (h.2.1 j hj).2.2.1 hM, (h.2.1 j hj).2.2.2⟩, h.2.2.1, h.2.2.2.1, h.2.2.2.2⟩
theorem BI_0 {vp : Nat → Prop} {s : Nat} (hs : vp s) (hv : ∀ q, vp q → q < 980) (nb : Nat → Nat → Option Nat) : BI vp 1 (BB nb s 0) := by
  have h1 : bcnt (fun q => decide ((if q = s then 1 else 0) ≠ 0)) 980 = bcnt (fun _ => false) 980 + 1 := bcnt_flip (k := s) rfl (by simp) (fun i hi => by simp [hi]) 980 (hv s hs)
  have h2 : ∀ n, bcnt (fun _ => false) n = 0 := fun n => by induction n with | zero => rfl | succ n ih => rw [bcnt_s, ih]; rfl
  refine ⟨Nat.le_refl _, fun j hj => ?_, fun q hq => ?_, ?_, fun j j' _ hj => ?_⟩
  · exact ⟨hs, by simp [BB], by simp [BB], by simp [BB]⟩
  · refine ⟨0, Nat.one_pos, ?_⟩
    by_cases e : q = s
    · exact e.symm
    · exact absurd (by simp [BB, e]) hq
  · show 1 = _
    rw [show (fun q => decide ((BB nb s 0).2.2 q ≠ 0)) = (fun q => decide ((if q = s then 1 else 0) ≠ 0)) from rfl, h1, h2]
  · exact Nat.le_refl _
/-- the largest round when k nodes are done -/
def bmx (st : BS) (k : Nat) : Nat := if k = 0 then 1 else st.2.2 (st.2.1 (k - 1)) + 1
theorem BI_node {nb : Nat → Nat → Option Nat} {vp : Nat → Prop} (hv : ∀ q, vp q → q < 980) (hnb : ∀ pl y q, vp pl → y < 4 → nb pl y = some q → vp q) {st : BS} {k : Nat} (hk : k < st.1) (h : BI vp (bmx st k) st) : BI vp (bmx (bnode nb st k) (k + 1)) (bnode nb st k) := by
  have hx := bext_wys (nb := nb) (pl := st.2.1 k) (rd := st.2.2 (st.2.1 k)) (st := st) 4
  have e0 : bnode nb st k = bwys nb (st.2.1 k) (st.2.2 (st.2.1 k)) st 4 := by unfold bnode; rw [if_pos hk]
  have e1 : bmx (bnode nb st k) (k + 1) = st.2.2 (st.2.1 k) + 1 := by
    unfold bmx
    rw [if_neg (by omega), Nat.add_sub_cancel, e0, hx.2.1 k hk, hx.2.2 _ (h.2.1 k hk).2.1]
  rw [e1, e0]
  refine BI_wys hv hnb hk (BI_mono h ?_) 4 (Nat.le_refl _)
  unfold bmx
  split
  · have := (h.2.1 k hk).2.1; omega
  · have := h.2.2.2.2 (k - 1) k (by omega) hk; omega
theorem BB_ext {nb : Nat → Nat → Option Nat} {s k : Nat} : bext (BB nb s k) (BB nb s (k + 1)) := by
  show bext _ (bnode nb (BB nb s k) k)
  unfold bnode
  split
  · exact bext_wys 4
  · exact bext_rf _
theorem BB_exts {nb : Nat → Nat → Option Nat} {s k : Nat} : ∀ m, bext (BB nb s k) (BB nb s (k + m))
  | 0 => bext_rf _
  | m + 1 => bext_tr (BB_exts m) BB_ext
/-- k nodes are done, and all of them were there -/
theorem BB_I {nb : Nat → Nat → Option Nat} {vp : Nat → Prop} {s : Nat} (hs : vp s) (hv : ∀ q, vp q → q < 980) (hnb : ∀ pl y q, vp pl → y < 4 → nb pl y = some q → vp q) : ∀ k, (∀ j, j < k → j < (BB nb s j).1) → BI vp (bmx (BB nb s k) k) (BB nb s k)
  | 0, _ => BI_0 hs hv nb
  | k + 1, h => BI_node hv hnb (h k (by omega)) (BB_I hs hv hnb k (fun j hj => h j (by omega)))
/-- where the class stops -/
def BSt (nb : Nat → Nat → Option Nat) (s most k : Nat) : Prop := k ≤ 980 ∧ (∀ j, j < k → j < (BB nb s j).1 ∧ (BB nb s j).2.2 ((BB nb s j).2.1 j) ≤ most) ∧ ((BB nb s k).1 ≤ k ∨ (k < (BB nb s k).1 ∧ most < (BB nb s k).2.2 ((BB nb s k).2.1 k)))
theorem BB_stay {nb : Nat → Nat → Option Nat} {s k : Nat} (h : (BB nb s k).1 ≤ k) : ∀ m, BB nb s (k + m) = BB nb s k
  | 0 => rfl
  | m + 1 => by
    have ih := BB_stay h m
    show bnode nb (BB nb s (k + m)) (k + m) = _
    rw [ih]
    unfold bnode
    rw [if_neg (by omega)]
/-- the round of a place at the end: 0 if it isn't come to -/
def rfn (nb : Nat → Nat → Option Nat) (s q : Nat) : Nat := (BB nb s 980).2.2 q
/-- rounds of what comes later are larger -/
theorem BB_late {nb : Nat → Nat → Option Nat} {vp : Nat → Prop} {s : Nat} (hs : vp s) (hv : ∀ q, vp q → q < 980) (hnb : ∀ pl y q, vp pl → y < 4 → nb pl y = some q → vp q) {k : Nat} (hk : ∀ j, j < k → j < (BB nb s j).1) (hkk : k < (BB nb s k).1) {q : Nat} (h0 : (BB nb s k).2.2 q = 0) : ∀ m, (BB nb s (k + m)).2.2 q = 0 ∨ (BB nb s k).2.2 ((BB nb s k).2.1 k) < (BB nb s (k + m)).2.2 q
  | 0 => Or.inl h0
  | m + 1 => by
    have ih := BB_late hs hv hnb hk hkk h0 m
    rcases ih with ih | ih
    · show (bnode nb (BB nb s (k + m)) (k + m)).2.2 q = 0 ∨ _ < (bnode nb (BB nb s (k + m)) (k + m)).2.2 q
      unfold bnode
      by_cases hkm : k + m < (BB nb s (k + m)).1
      · rw [if_pos hkm]
        have hall : ∀ j, j < k + m → j < (BB nb s j).1 := by
          intro j hj
          rcases Nat.lt_or_ge j (BB nb s j).1 with g | g
          · exact g
          · exfalso
            have e := BB_stay g (k + m - j)
            rw [show j + (k + m - j) = k + m by omega] at e
            rw [e] at hkm; omega
        have hI := BB_I hs hv hnb (k + m) hall
        have hx := BB_exts (nb := nb) (s := s) (k := k) m
        have hmon := hI.2.2.2.2 k (k + m) (by omega) hkm
        rw [hx.2.1 k hkk] at hmon
        have hk0 := (BB_I hs hv hnb k hk).2.1 k hkk
        rw [hx.2.2 _ hk0.2.1] at hmon
        generalize hst : BB nb s (k + m) = st at *
        have key : ∀ y, (bwys nb (st.2.1 (k + m)) (st.2.2 (st.2.1 (k + m))) st y).2.2 q = 0 ∨ st.2.2 (st.2.1 (k + m)) < (bwys nb (st.2.1 (k + m)) (st.2.2 (st.2.1 (k + m))) st y).2.2 q := by
          intro y
          induction y with
          | zero => exact Or.inl ih
          | succ y ihy =>
            show (bway nb _ _ (bwys nb (st.2.1 (k + m)) (st.2.2 (st.2.1 (k + m))) st y) y).2.2 q = 0 ∨ _ < (bway nb _ _ (bwys nb (st.2.1 (k + m)) (st.2.2 (st.2.1 (k + m))) st y) y).2.2 q
            unfold bway
            cases hq : nb (st.2.1 (k + m)) y with
            | none => exact ihy
            | some q' =>
              simp only
              by_cases h0' : (bwys nb (st.2.1 (k + m)) (st.2.2 (st.2.1 (k + m))) st y).2.2 q' = 0
              · rw [if_pos h0']
                by_cases e : q = q'
                · right; simp [bput, e]
                · have : (bput (bwys nb (st.2.1 (k + m)) (st.2.2 (st.2.1 (k + m))) st y) q' (st.2.2 (st.2.1 (k + m)) + 1)).2.2 q = (bwys nb (st.2.1 (k + m)) (st.2.2 (st.2.1 (k + m))) st y).2.2 q := by simp [bput, e]
                  rw [this]; exact ihy
              · rw [if_neg h0']; exact ihy
        rcases key 4 with g | g
        · exact Or.inl g
        · right; omega
      · rw [if_neg hkm]; exact Or.inl ih
    · right
      have := (BB_ext (nb := nb) (s := s) (k := k + m)).2.2 q (by omega)
      show _ < (BB nb s (k + m + 1)).2.2 q
      rw [this]; exact ih
/-- who is found at the stop: those of the first rounds -/
theorem BSt_in {nb : Nat → Nat → Option Nat} {vp : Nat → Prop} {s most k : Nat} (hs : vp s) (hv : ∀ q, vp q → q < 980) (hnb : ∀ pl y q, vp pl → y < 4 → nb pl y = some q → vp q) (h : BSt nb s most k) (q : Nat) : (∃ j, j < (BB nb s k).1 ∧ (BB nb s k).2.1 j = q) ↔ (rfn nb s q ≠ 0 ∧ rfn nb s q ≤ most + 1) := by
  obtain ⟨h1, h2, h3⟩ := h
  have hI := BB_I hs hv hnb k (fun j hj => (h2 j hj).1)
  have hx := BB_exts (nb := nb) (s := s) (k := k) (980 - k)
  rw [show k + (980 - k) = 980 by omega] at hx
  have hmx : bmx (BB nb s k) k ≤ most + 1 := by
    unfold bmx
    split
    · omega
    · rename_i hk0
      have e := h2 (k - 1) (by omega)
      have hy := BB_exts (nb := nb) (s := s) (k := k - 1) 1
      rw [show k - 1 + 1 = k by omega] at hy
      rw [hy.2.1 (k - 1) e.1]
      have hI1 := BB_I hs hv hnb (k - 1) (fun j hj => (h2 j (by omega)).1)
      rw [hy.2.2 _ (hI1.2.1 (k - 1) e.1).2.1]
      omega
  constructor
  · rintro ⟨j, hj, rfl⟩
    have g := hI.2.1 j hj
    unfold rfn
    rw [hx.2.2 _ g.2.1]
    exact ⟨g.2.1, by have := g.2.2.1; omega⟩
  · rintro ⟨g1, g2⟩
    rcases Nat.eq_zero_or_pos ((BB nb s k).2.2 q) with h0 | h0
    · exfalso
      rcases h3 with h3 | h3
      · have e := BB_stay h3 (980 - k)
        rw [show k + (980 - k) = 980 by omega] at e
        unfold rfn at g1
        rw [e] at g1
        exact g1 h0
      · have := BB_late hs hv hnb (fun j hj => (h2 j hj).1) h3.1 h0 (980 - k)
        rw [show k + (980 - k) = 980 by omega] at this
        unfold rfn at g1 g2
        rcases this with e | e
        · exact g1 e
        · omega
    · exact hI.2.2.1 q (by omega)
/-- with no limit the stop is the end -/
theorem BSt_end {nb : Nat → Nat → Option Nat} {vp : Nat → Prop} {s k : Nat} (hs : vp s) (hv : ∀ q, vp q → q < 980) (hnb : ∀ pl y q, vp pl → y < 4 → nb pl y = some q → vp q) (h : BSt nb s 980 k) : BB nb s k = BB nb s 980 := by
  obtain ⟨h1, h2, h3⟩ := h
  rcases h3 with h3 | h3
  · have e := BB_stay h3 (980 - k)
    rw [show k + (980 - k) = 980 by omega] at e
    exact e.symm
  · exfalso
    have hI := BB_I hs hv hnb k (fun j hj => (h2 j hj).1)
    have := (hI.2.1 k h3.1).2.2.2
    have := BI_le hI
    omega
