/-- the abstract state: pattern, now, acts, what is kept, what is seen, the text, the seed -/
abbrev SG : Type := Nat × (Nat → Bool × Nat) × (Nat → Bool × Nat) × (Nat → Nat)
abbrev AS : Type := PT × SC × (Nat × (Nat → SC)) × (Nat → Option SC) × SG × (Nat × (Nat → Nat)) × Int64
def aP (A : AS) : PT := A.1
def aN (A : AS) : SC := A.2.1
def aA (A : AS) : Nat × (Nat → SC) := A.2.2.1
def aK (A : AS) : Nat → Option SC := A.2.2.2.1
def aS (A : AS) : SG := A.2.2.2.2.1
def aT (A : AS) : Nat × (Nat → Nat) := A.2.2.2.2.2.1
def aD (A : AS) : Int64 := A.2.2.2.2.2.2
def AV (A : AS) : Prop := PV (aP A) ∧ SVs (aP A) (aN A) ∧ ((aA A).1 ≤ 14 ∧ ∀ i, i < (aA A).1 → SVs (aP A) ((aA A).2 i)) ∧ (∀ k, k < 2 → ∀ s, aK A k = some s → SVs (aP A) s) ∧ SEV (aS A).2.1 (aS A).2.2.1 (aS A).2.2.2 (aS A).1 ∧ ((aT A).1 ≤ 48 ∧ ∀ i, i < 48 → (aT A).2 i < 256)
/-- the acts in the class's ring -/
def RG (p : PT) (a : Nat × (Nat → SC)) (mu : zmu) : Prop := ∃ nx, nx < 14 ∧ mu 14 1 = nI nx ∧ mu 14 2 = nI a.1 ∧ ∀ i, i < a.1 → SFs p (a.2 i) (16 + 2 * ((nx + 14 - a.1 + i) % 14)) mu
def KP (p : PT) (k : Nat → Option SC) (mu : zmu) : Prop := ∀ i, i < 2 → match k i with
  | none => mu 45 i = 0
  | some s => mu 45 i = 1 ∧ SFs p s (62 + 2 * i) mu
def CR (A : AS) (mu : zmu) (nu : znu) : Prop := PFc (aP A) mu ∧ SFs (aP A) (aN A) 10 mu ∧ RG (aP A) (aA A) mu ∧ KP (aP A) (aK A) mu ∧ SEc (aS A).2.1 (aS A).2.2.1 (aS A).2.2.2 (aS A).1 mu ∧ TFc (aT A).2 (aT A).1 mu ∧ SRH mu ∧ nu 0 = aD A
/-- the class leaves the reference's cells alone -/
def FrC (mu : zmu) (nu : znu) (mu1 : zmu) (nu1 : znu) : Prop := (∀ a, 66 ≤ a → mu1 a = mu a) ∧ nu1 66 = nu 66
theorem FrC_rf {mu : zmu} {nu : znu} : FrC mu nu mu nu := ⟨fun _ _ => rfl, rfl⟩
theorem FrC_tr {m1 m2 m3 : zmu} {n1 n2 n3 : znu} (h : FrC m1 n1 m2 n2) (g : FrC m2 n2 m3 n3) : FrC m1 n1 m3 n3 := ⟨fun a ha => (g.1 a ha).trans (h.1 a ha), g.2.trans h.2⟩
/-- cells whose contents the state doesn't rest on -/
def scr (a : Nat) : Prop := a = 12 ∨ a = 13 ∨ a = 46 ∨ a = 47 ∨ a = 48 ∨ a = 49 ∨ a = 51 ∨ a = 57 ∨ a = 58 ∨ a = 60 ∨ a = 61
theorem RG_eq {p : PT} {a : Nat × (Nat → SC)} {mu mu1 : zmu} (h : RG p a mu) (e : ∀ x, 14 ≤ x → x < 44 → mu1 x = mu x) : RG p a mu1 := by
  obtain ⟨nx, h1, h2, h3, h4⟩ := h
  refine ⟨nx, h1, by rw [e 14 (by decide) (by decide)]; exact h2, by rw [e 14 (by decide) (by decide)]; exact h3, fun i hi => ?_⟩
  have hm := Nat.mod_lt (nx + 14 - a.1 + i) (show 0 < 14 by decide)
  exact SFc_eq (h4 i hi) (e _ (by omega) (by omega)) (e _ (by omega) (by omega))
theorem KP_eq {p : PT} {k : Nat → Option SC} {mu mu1 : zmu} (h : KP p k mu) (e : ∀ x, x = 45 ∨ (62 ≤ x ∧ x < 66) → mu1 x = mu x) : KP p k mu1 := by
  intro i hi
  have g := h i hi
  cases hk : k i with
  | none => rw [hk] at g; simp only at g ⊢; rw [e 45 (Or.inl rfl)]; exact g
  | some s =>
    rw [hk] at g; simp only at g ⊢
    exact ⟨by rw [e 45 (Or.inl rfl)]; exact g.1, SFc_eq g.2 (e _ (Or.inr (by omega))) (e _ (Or.inr (by omega)))⟩
theorem SEc_eq {Sx Sy : Nat → Bool × Nat} {Sk : Nat → Nat} {cnt : Nat} {mu mu1 : zmu} (h : SEc Sx Sy Sk cnt mu) (e : ∀ x, 52 ≤ x → x ≤ 55 → mu1 x = mu x) : SEc Sx Sy Sk cnt mu1 := by
  unfold SEc at *
  rw [e 52 (by decide) (by decide), e 53 (by decide) (by decide), e 54 (by decide) (by decide), e 55 (by decide) (by decide)]; exact h
theorem SRH_eq {mu mu1 : zmu} (h : SRH mu) (e : ∀ x, 46 ≤ x → x ≤ 48 → mu1 x = mu x) : SRH mu1 := by
  unfold SRH at *
  rw [e 46 (by decide) (by decide), e 47 (by decide) (by decide), e 48 (by decide) (by decide)]; exact h
theorem CR_scr {A : AS} {mu mu1 : zmu} {nu nu1 : znu} (h : CR A mu nu) (e : ∀ a, a < 66 → ¬ scr a → mu1 a = mu a) (hs : SRH mu1) (hn : nu1 0 = nu 0) : CR A mu1 nu1 := by
  obtain ⟨h1, h2, h3, h4, h5, h6, h7, h8⟩ := h
  refine ⟨PFc_eq h1 (fun x g1 g2 => e x (by omega) (by unfold scr; omega)), SFc_eq h2 (e 10 (by decide) (by unfold scr; omega)) (e 11 (by decide) (by unfold scr; omega)), RG_eq h3 (fun x g1 g2 => e x (by omega) (by unfold scr; omega)), KP_eq h4 (fun x g => e x (by omega) (by unfold scr; omega)), SEc_eq h5 (fun x g1 g2 => e x (by omega) (by unfold scr; omega)), TFc_eq h6 (e 1 (by decide) (by unfold scr; omega)) (e 2 (by decide) (by unfold scr; omega)), hs, by rw [hn]; exact h8⟩
/-- the now scene, changed -/
def setN (A : AS) (s : SC) : AS := (A.1, s, A.2.2)
def setA (A : AS) (a : Nat × (Nat → SC)) : AS := (A.1, A.2.1, a, A.2.2.2)
def setK (A : AS) (k : Nat → Option SC) : AS := (A.1, A.2.1, A.2.2.1, k, A.2.2.2.2)
def setS (A : AS) (g : SG) : AS := (A.1, A.2.1, A.2.2.1, A.2.2.2.1, g, A.2.2.2.2.2)
def setT (A : AS) (t : Nat × (Nat → Nat)) : AS := (A.1, A.2.1, A.2.2.1, A.2.2.2.1, A.2.2.2.2.1, t, A.2.2.2.2.2.2)
def setD (A : AS) (v : Int64) : AS := (A.1, A.2.1, A.2.2.1, A.2.2.2.1, A.2.2.2.2.1, A.2.2.2.2.2.1, v)
theorem CR_now {A : AS} {mu mu1 : zmu} {nu : znu} {s : SC} (h : CR A mu nu) (ho : only 10 mu mu1) (hs : SFs (aP A) s 10 mu1) : CR (setN A s) mu1 nu := by
  obtain ⟨h1, h2, h3, h4, h5, h6, h7, h8⟩ := h
  have e : ∀ x, x ≠ 10 → x ≠ 11 → mu1 x = mu x := fun x a b => ho x a b
  exact ⟨PFc_eq h1 (fun x g1 g2 => e x (by omega) (by omega)), hs, RG_eq h3 (fun x g1 g2 => e x (by omega) (by omega)), KP_eq h4 (fun x g => e x (by omega) (by omega)), SEc_eq h5 (fun x g1 g2 => e x (by omega) (by omega)), TFc_eq h6 (e 1 (by decide) (by decide)) (e 2 (by decide) (by decide)), SRH_eq h7 (fun x g1 g2 => e x (by omega) (by omega)), h8⟩
/-- one act more -/
def pushA (a : Nat × (Nat → SC)) (s : SC) : Nat × (Nat → SC) := if a.1 < 14 then (a.1 + 1, fun i => if i = a.1 then s else a.2 i) else (14, fun i => if i = 13 then s else a.2 (i + 1))
theorem RG_rem {p : PT} (hp : PV p) {a : Nat × (Nat → SC)} {mu : zmu} {nx : Nat} {s : SC} (ha : a.1 ≤ 14) (h1 : nx < 14) (h4 : ∀ i, i < a.1 → SFs p (a.2 i) (16 + 2 * ((nx + 14 - a.1 + i) % 14)) mu) (hs : SFs p s 10 mu) : RG p (pushA a s) (remM mu nx a.1 10) := by
  have hm : ∀ x, x ≠ 14 → remM mu nx a.1 10 x = bec mu (16 + 2 * nx) 10 x := fun x hx => by unfold remM; rw [u2_rowa hx, u2_rowa hx]
  have hnew : SFs p s (16 + 2 * nx) (remM mu nx a.1 10) := SFc_eq (SFs_bec hp hs (sAt_act nx h1) sAt10 (by omega)) (hm _ (by omega)) (hm _ (by omega))
  have hold : ∀ (s' : SC) (k : Nat), k < 14 → k ≠ nx → SFs p s' (16 + 2 * k) mu → SFs p s' (16 + 2 * k) (remM mu nx a.1 10) := fun s' k hk hne g => SFc_eq (SFs_o g (bec_only (a := 16 + 2 * nx) (b := 10)) (by omega) (by omega) (by omega)) (hm _ (by omega)) (hm _ (by omega))
  have e1 : remM mu nx a.1 10 14 1 = nI (if nx + 1 < 14 then nx + 1 else 0) := by unfold remM; rw [u2_k (by decide), u2_s]
  have e2 : remM mu nx a.1 10 14 2 = nI (min (a.1 + 1) 14) := by unfold remM; rw [u2_s]
  unfold pushA
  by_cases h14 : a.1 < 14
  · rw [if_pos h14]
    refine ⟨_, by split <;> omega, e1, by rw [e2, Nat.min_eq_left (by omega)], fun i hi => ?_⟩
    have hi : i < a.1 + 1 := hi
    have ek : ((if nx + 1 < 14 then nx + 1 else 0) + 14 - (a.1 + 1) + i) % 14 = (nx + 14 - a.1 + i) % 14 := by split <;> omega
    show SFs p (if i = a.1 then s else a.2 i) (16 + 2 * (((if nx + 1 < 14 then nx + 1 else 0) + 14 - (a.1 + 1) + i) % 14)) _
    rw [ek]
    by_cases hia : i = a.1
    · rw [if_pos hia, show (nx + 14 - a.1 + i) % 14 = nx by omega]; exact hnew
    · rw [if_neg hia]; exact hold _ _ (Nat.mod_lt _ (by decide)) (by omega) (h4 i (by omega))
  · rw [if_neg h14]
    have h14 : a.1 = 14 := by omega
    refine ⟨_, by split <;> omega, e1, by rw [e2, h14]; rfl, fun i hi => ?_⟩
    have hi : i < 14 := hi
    have ek : ((if nx + 1 < 14 then nx + 1 else 0) + 14 - 14 + i) % 14 = (nx + 1 + i) % 14 := by split <;> omega
    show SFs p (if i = 13 then s else a.2 (i + 1)) (16 + 2 * (((if nx + 1 < 14 then nx + 1 else 0) + 14 - 14 + i) % 14)) _
    rw [ek]
    by_cases hia : i = 13
    · rw [if_pos hia, show (nx + 1 + i) % 14 = nx by omega]; exact hnew
    · rw [if_neg hia]
      have g := h4 (i + 1) (by omega)
      rw [h14, show (nx + 14 - 14 + (i + 1)) % 14 = (nx + 1 + i) % 14 by omega] at g
      exact hold _ _ (Nat.mod_lt _ (by decide)) (by omega) g
theorem CR_rem {A : AS} {mu : zmu} {nu : znu} {nx : Nat} (hA : AV A) (h : CR A mu nu) (h1 : nx < 14) (h4 : ∀ i, i < (aA A).1 → SFs (aP A) ((aA A).2 i) (16 + 2 * ((nx + 14 - (aA A).1 + i) % 14)) mu) : CR (setA A (pushA (aA A) (aN A))) (remM mu nx (aA A).1 10) nu ∧ ∀ x, (x < 14 ∨ 44 ≤ x) → remM mu nx (aA A).1 10 x = mu x := by
  have ho : ∀ x, (x < 14 ∨ 44 ≤ x) → remM mu nx (aA A).1 10 x = mu x := fun x hx => by unfold remM; rw [u2_rowa (by omega), u2_rowa (by omega), bec_o (by omega) (by omega)]
  obtain ⟨g1, g2, g3, g4, g5, g6, g7, g8⟩ := h
  refine ⟨⟨PFc_eq g1 (fun x a b => ho x (by omega)), SFc_eq g2 (ho 10 (by decide)) (ho 11 (by decide)), RG_rem hA.1 hA.2.2.1.1 h1 h4 g2, KP_eq g4 (fun x a => ho x (by omega)), SEc_eq g5 (fun x a b => ho x (by omega)), TFc_eq g6 (ho 1 (by decide)) (ho 2 (by decide)), SRH_eq g7 (fun x a b => ho x (by omega)), g8⟩, ho⟩
theorem AV_push {A : AS} (hA : AV A) : AV (setA A (pushA (aA A) (aN A))) := by
  obtain ⟨h1, h2, h3, h4, h5, h6⟩ := hA
  refine ⟨h1, h2, ?_, h4, h5, h6⟩
  show (pushA (aA A) (aN A)).1 ≤ 14 ∧ ∀ i, i < (pushA (aA A) (aN A)).1 → SVs (aP A) ((pushA (aA A) (aN A)).2 i)
  unfold pushA
  by_cases h : (aA A).1 < 14
  · rw [if_pos h]
    refine ⟨by show (aA A).1 + 1 ≤ 14; omega, fun i hi => ?_⟩
    have hi : i < (aA A).1 + 1 := hi
    show SVs (aP A) (if i = (aA A).1 then aN A else (aA A).2 i)
    split
    · exact h2
    · exact h3.2 i (by omega)
  · rw [if_neg h]
    refine ⟨Nat.le_refl _, fun i hi => ?_⟩
    have hi : i < 14 := hi
    show SVs (aP A) (if i = 13 then aN A else (aA A).2 (i + 1))
    split
    · exact h2
    · exact h3.2 (i + 1) (by omega)
theorem AV_now {A : AS} {s : SC} (hA : AV A) (hs : SVs (aP A) s) : AV (setN A s) := ⟨hA.1, hs, hA.2.2⟩
/-- the last act undone -/
def popA (A : AS) : AS := setA (setN A ((aA A).2 ((aA A).1 - 1))) ((aA A).1 - 1, (aA A).2)
theorem CR_pop {A : AS} {mu : zmu} {nu : znu} {nx : Nat} (hA : AV A) (h : CR A mu nu) (h1 : nx < 14) (h2 : mu 14 1 = nI nx) (h4 : ∀ i, i < (aA A).1 → SFs (aP A) ((aA A).2 i) (16 + 2 * ((nx + 14 - (aA A).1 + i) % 14)) mu) (h0 : (aA A).1 ≠ 0) : CR (popA A) (tbM mu nx (aA A).1 10) nu ∧ (∀ x, (x < 10 ∨ 15 ≤ x) → tbM mu nx (aA A).1 10 x = mu x) ∧ tbM mu nx (aA A).1 10 14 2 = nI ((aA A).1 - 1) := by
  have h14 := hA.2.2.1.1
  have hpv := prv_lt h1
  have em : tbM mu nx (aA A).1 10 = bec (u2 (u2 mu 14 2 (nI ((aA A).1 - 1))) 14 1 (nI (prv nx))) 10 (16 + 2 * prv nx) := by unfold tbM; rw [if_neg h0]
  have eo : ∀ x, x ≠ 14 → u2 (u2 mu 14 2 (nI ((aA A).1 - 1))) 14 1 (nI (prv nx)) x = mu x := fun x hx => by rw [u2_rowa hx, u2_rowa hx]
  have ho : ∀ x, (x < 10 ∨ 15 ≤ x) → tbM mu nx (aA A).1 10 x = mu x := fun x hx => by rw [em, bec_o (by omega) (by omega), eo x (by omega)]
  have e14 : tbM mu nx (aA A).1 10 14 = u2 (u2 mu 14 2 (nI ((aA A).1 - 1))) 14 1 (nI (prv nx)) 14 := by rw [em, bec_o (by decide) (by decide)]
  have hlast := h4 ((aA A).1 - 1) (by omega)
  have eidx : (nx + 14 - (aA A).1 + ((aA A).1 - 1)) % 14 = prv nx := by unfold prv; split <;> omega
  rw [eidx] at hlast
  have hnew : SFs (aP A) ((aA A).2 ((aA A).1 - 1)) 10 (tbM mu nx (aA A).1 10) := by
    rw [em]
    exact SFs_bec hA.1 (SFc_eq hlast (eo _ (by omega)) (eo _ (by omega))) sAt10 (sAt_act _ hpv) (by omega)
  obtain ⟨g1, g2, g3, g4, g5, g6, g7, g8⟩ := h
  refine ⟨⟨PFc_eq g1 (fun x a b => ho x (by omega)), hnew, ?_, KP_eq g4 (fun x a => ho x (by omega)), SEc_eq g5 (fun x a b => ho x (by omega)), TFc_eq g6 (ho 1 (by decide)) (ho 2 (by decide)), SRH_eq g7 (fun x a b => ho x (by omega)), g8⟩, ho, by rw [e14, u2_k (by decide), u2_s]⟩
  refine ⟨prv nx, hpv, by rw [e14, u2_s], by rw [e14, u2_k (by decide), u2_s]; rfl, fun i hi => ?_⟩
  have hi : i < (aA A).1 - 1 := hi
  have ek : (prv nx + 14 - ((aA A).1 - 1) + i) % 14 = (nx + 14 - (aA A).1 + i) % 14 := by unfold prv; split <;> omega
  show SFs (aP A) ((aA A).2 i) (16 + 2 * ((prv nx + 14 - ((aA A).1 - 1) + i) % 14)) _
  rw [ek]
  exact SFc_eq (h4 i (by omega)) (ho _ (by omega)) (ho _ (by omega))
theorem AV_pop {A : AS} (hA : AV A) (h0 : (aA A).1 ≠ 0) : AV (popA A) := by
  obtain ⟨h1, h2, h3, h4, h5, h6⟩ := hA
  exact ⟨h1, h3.2 _ (by omega), ⟨by show (aA A).1 - 1 ≤ 14; omega, fun i hi => h3.2 i (by have : i < (aA A).1 - 1 := hi; omega)⟩, h4, h5, h6⟩
/-- a doing of three figures: does it hold, and what comes of it -/
def dos (p : PT) (s : SC) (f a c : Nat) : Bool × SC :=
  if f = 1 then (if a < pb p ∧ c < 4 then ((pon p s.2 a (s.1 a) c).isSome, goS p s a c) else (false, s))
  else if f = 2 then (if a * 10 + c < pw p * ph p then (true, brS' p s (a * 10 + c)) else (false, s))
  else if f = 3 then (if a * 10 + c < pw p * ph p ∧ kdk (pK p) s.2 (a * 10 + c) = 1 then (true, cuS s (a * 10 + c)) else (false, s))
  else if f = 4 then (decide (a = 0 ∧ c < pb p ∧ s.1 c = 480 + pH p c), s)
  else (false, s)
theorem dos_V {p : PT} (hp : PV p) {s : SC} (h : SVs p s) (f a c : Nat) : SVs p (dos p s f a c).2 := by
  have h20 := hp.n20
  unfold dos
  split
  · split
    · rename_i g; exact SVs_go hp h g.1 g.2
    · exact h
  · split
    · split
      · exact SVs_br hp h _
      · exact h
    · split
      · split
        · rename_i g; exact SVs_cu h (by omega)
        · exact h
      · split <;> exact h
set_option maxRecDepth 4000 in
theorem q_holds {X : zX} {mu : zmu} {nu : znu} {p : PT} {s : SC} (hp : PV p) (hP : PFc p mu) (hS : SFs p s 12 mu) (hV : SVs p s) {f a c : Nat} (hf : f < 10) (ha : a < 10) (hc : c < 10) (d : Nat) : zJ X M_X8_holds (d + 5) 0 0 0 [.ref 0, .int (nI f), .int (nI a), .int (nI c), zu] [] 86 (zEE (mu) (nu)) (zlift (Qs p (dos p s f a c).2 12 (some (.int (b2i (dos p s f a c).1))) mu nu)) := by
  have h20 := hp.n20
  have h5 := hp.2.2.2.2.2.1
  refine z_iload_n dX8_holds_0 rfl ?_
  refine z_bipush (v := nI 10) dX8_holds_1 rfl ?_
  refine zn_imul dX8_holds_3 ?_
  refine z_iload_n dX8_holds_4 rfl ?_
  refine zn_iadd dX8_holds_5 ?_
  refine z_istore4 dX8_holds_6 rfl ?_
  refine z_iload_n dX8_holds_8 rfl ?_
  obtain rfl | rfl | rfl | rfl | h9 : f = 1 ∨ f = 2 ∨ f = 3 ∨ f = 4 ∨ (f = 0 ∨ 4 < f) := by omega
  · refine z_tableIn (off := 31) (tgt := 40) dX8_holds_9 (by decide) (by decide) rfl (by decide) ?_
    refine z_aload_n dX8_holds_40 rfl ?_
    refine y_getR dX8_holds_41 lf_X8_19 rfl rfl ?_
    refine z_iload_n dX8_holds_44 rfl ?_
    refine y_callV1x (M' := M_X3_hasBoy) dX8_holds_45 lm_X8_139 cv_X3_hasBoy rfl (Nat.le_of_ble_eq_true rfl) (Nat.le_of_ble_eq_true rfl) rfl (c_hasBoy hp hP (nI a) _) ?_
    refine zb_if_eq (tgt := 74) dX8_holds_48 (by decide) (fun hc48 => ?_) (fun hc48 => ?_)
    · refine z_iconst (v := nI 0) dX8_holds_74 rfl ?_
      exact y_zreturn dX8_holds_75 rfl (by first | exact Or.inl rfl | exact Or.inr rfl | assumption) (by have g : ¬ a < pb p := of_decide_eq_false ((inr_nI (by omega) (by omega)).symm.trans hc48); refine ⟨?_, rfl, ?_, only_rf⟩; rw [b2i_f]; simp [dos, g]; simp [dos, g]; exact hS)
    · have g1 : a < pb p := of_decide_eq_true ((inr_nI (by omega) (by omega)).symm.trans hc48)
      refine z_iload_n dX8_holds_51 rfl ?_
      refine y_callS1x (M' := M_X8_isWay) dX8_holds_52 lm_X8_132 cs_X8_isWay (Nat.le_of_ble_eq_true rfl) (Nat.le_of_ble_eq_true rfl) rfl (c_isWay (nI c) _) ?_
      refine zb_if_eq (tgt := 74) dX8_holds_55 (by decide) (fun hc55 => ?_) (fun hc55 => ?_)
      · refine z_iconst (v := nI 0) dX8_holds_74 rfl ?_
        exact y_zreturn dX8_holds_75 rfl (by first | exact Or.inl rfl | exact Or.inr rfl | assumption) (by have g : ¬ c < 4 := of_decide_eq_false ((inr_nI (by omega) (by omega)).symm.trans hc55); refine ⟨?_, rfl, ?_, only_rf⟩; rw [b2i_f]; simp [dos, g]; simp [dos, g]; exact hS)
      · have g2 : c < 4 := of_decide_eq_true ((inr_nI (by omega) (by omega)).symm.trans hc55)
        have ed : dos p s 1 a c = ((pon p s.2 a (s.1 a) c).isSome, goS p s a c) := by simp [dos, g1, g2]
        rw [ed]
        refine z_aload_n dX8_holds_58 rfl ?_
        refine y_getR dX8_holds_59 lf_X8_32 rfl rfl ?_
        refine z_iload_n dX8_holds_62 rfl ?_
        refine z_iload_n dX8_holds_63 rfl ?_
        refine y_callV2 (M' := M_X4_goes) dX8_holds_64 lm_X8_172 cv_X4_goes rfl (Nat.le_of_ble_eq_true rfl) (Nat.le_of_ble_eq_true rfl) rfl (q_goes hp hP sAt12 hS hV g1 g2 _) (fun r mu1 nu1 hq => ?_)
        obtain ⟨rfl, rfl, hS2, ho⟩ := hq
        refine zb_if_eq (tgt := 74) dX8_holds_67 (by decide) (fun hc67 => ?_) (fun hc67 => ?_)
        · refine z_iconst (v := nI 0) dX8_holds_74 rfl ?_
          exact y_zreturn dX8_holds_75 rfl (by first | exact Or.inl rfl | exact Or.inr rfl | assumption) ⟨by rw [hc67]; rfl, rfl, hS2, ho⟩
        · refine z_iconst (v := nI 1) dX8_holds_70 rfl ?_
          refine z_goto (tgt := 75) dX8_holds_71 (by decide) ?_
          exact y_zreturn dX8_holds_75 rfl (by first | exact Or.inl rfl | exact Or.inr rfl | assumption) ⟨by rw [hc67]; rfl, rfl, hS2, ho⟩
  · refine z_tableIn (off := 67) (tgt := 76) dX8_holds_9 (by decide) (by decide) rfl (by decide) ?_
    refine z_aload_n dX8_holds_76 rfl ?_
    refine y_getR dX8_holds_77 lf_X8_19 rfl rfl ?_
    refine z_iload dX8_holds_80 rfl ?_
    refine y_callV1x (M' := M_X3_hasCell) dX8_holds_82 lm_X8_126 cv_X3_hasCell rfl (Nat.le_of_ble_eq_true rfl) (Nat.le_of_ble_eq_true rfl) rfl (c_hasCell hp hP (nI (a * 10 + c)) _) ?_
    refine zb_if_ne (tgt := 90) dX8_holds_85 (by decide) (fun hc85 => ?_) (fun hc85 => ?_)
    · have g1 : a * 10 + c < pw p * ph p := of_decide_eq_true ((inr_nI (by omega) (by omega)).symm.trans hc85)
      have ed : dos p s 2 a c = (true, brS' p s (a * 10 + c)) := by simp [dos, g1]
      rw [ed]
      refine z_aload_n dX8_holds_90 rfl ?_
      refine y_getR dX8_holds_91 lf_X8_32 rfl rfl ?_
      refine z_iload dX8_holds_94 rfl ?_
      refine y_callV1 (M' := M_X4_bringHome) dX8_holds_96 lm_X8_176 cv_X4_bringHome rfl (Nat.le_of_ble_eq_true rfl) (Nat.le_of_ble_eq_true rfl) rfl (q_bring hp hP sAt12 hS hV g1 _) (fun r mu1 nu1 hq => ?_)
      obtain ⟨rfl, rfl, hS2, ho⟩ := hq
      refine z_pop dX8_holds_99 rfl ?_
      refine z_iconst (v := nI 1) dX8_holds_100 rfl ?_
      exact y_zreturn dX8_holds_101 rfl (by first | exact Or.inl rfl | exact Or.inr rfl | assumption) ⟨rfl, rfl, hS2, ho⟩
    · refine z_iconst (v := nI 0) dX8_holds_88 rfl ?_
      exact y_zreturn dX8_holds_89 rfl (by first | exact Or.inl rfl | exact Or.inr rfl | assumption) (by have g : ¬ a * 10 + c < pw p * ph p := of_decide_eq_false ((inr_nI (by omega) (by omega)).symm.trans hc85); refine ⟨?_, rfl, ?_, only_rf⟩; rw [b2i_f]; simp [dos, g]; simp [dos, g]; exact hS)
  · refine z_tableIn (off := 93) (tgt := 102) dX8_holds_9 (by decide) (by decide) rfl (by decide) ?_
    refine z_aload_n dX8_holds_102 rfl ?_
    refine y_getR dX8_holds_103 lf_X8_19 rfl rfl ?_
    refine z_iload dX8_holds_106 rfl ?_
    refine y_callV1x (M' := M_X3_hasCell) dX8_holds_108 lm_X8_126 cv_X3_hasCell rfl (Nat.le_of_ble_eq_true rfl) (Nat.le_of_ble_eq_true rfl) rfl (c_hasCell hp hP (nI (a * 10 + c)) _) ?_
    refine zb_if_eq (tgt := 127) dX8_holds_111 (by decide) (fun hc111 => ?_) (fun hc111 => ?_)
    · refine z_iconst (v := nI 0) dX8_holds_127 rfl ?_
      exact y_zreturn dX8_holds_128 rfl (by first | exact Or.inl rfl | exact Or.inr rfl | assumption) (by have g : ¬ a * 10 + c < pw p * ph p := of_decide_eq_false ((inr_nI (by omega) (by omega)).symm.trans hc111); refine ⟨?_, rfl, ?_, only_rf⟩; rw [b2i_f]; simp [dos, g]; simp [dos, g]; exact hS)
    · have g1 : a * 10 + c < pw p * ph p := of_decide_eq_true ((inr_nI (by omega) (by omega)).symm.trans hc111)
      have q1 := kdk_le hp (cut := s.2) g1
      refine z_aload_n dX8_holds_114 rfl ?_
      refine y_getR dX8_holds_115 lf_X8_32 rfl rfl ?_
      refine z_iload dX8_holds_118 rfl ?_
      refine y_callV1x (M' := M_X4_kindAt) dX8_holds_120 lm_X8_129 cv_X4_kindAt rfl (Nat.le_of_ble_eq_true rfl) (Nat.le_of_ble_eq_true rfl) rfl (c_kindAt hp hP sAt12 g1 hS.2 hV.2 _) ?_
      refine z_iconst (v := nI 1) dX8_holds_123 rfl ?_
      refine zn_icmp_eq (tgt := 129) dX8_holds_124 (by decide) (by omega) (by omega) (fun hc124 => ?_) (fun hc124 => ?_)
      · have ed : dos p s 3 a c = (true, cuS s (a * 10 + c)) := by simp [dos, g1, hc124]
        rw [ed]
        refine z_aload_n dX8_holds_129 rfl ?_
        refine y_getR dX8_holds_130 lf_X8_32 rfl rfl ?_
        refine z_iload dX8_holds_133 rfl ?_
        refine y_callV1 (M' := M_X4_cutAway) dX8_holds_135 lm_X8_179 cv_X4_cutAway rfl (Nat.le_of_ble_eq_true rfl) (Nat.le_of_ble_eq_true rfl) rfl (q_cut sAt12 hS (by omega) _) (fun r mu1 nu1 hq => ?_)
        obtain ⟨rfl, rfl, hS2, ho⟩ := hq
        refine z_iconst (v := nI 1) dX8_holds_138 rfl ?_
        exact y_zreturn dX8_holds_139 rfl (by first | exact Or.inl rfl | exact Or.inr rfl | assumption) ⟨rfl, rfl, hS2, ho⟩
      · refine z_iconst (v := nI 0) dX8_holds_127 rfl ?_
        exact y_zreturn dX8_holds_128 rfl (by first | exact Or.inl rfl | exact Or.inr rfl | assumption) (by refine ⟨?_, rfl, ?_, only_rf⟩; rw [b2i_f]; simp [dos, g1, hc124]; simp [dos, g1, hc124]; exact hS)
  · refine z_tableIn (off := 131) (tgt := 140) dX8_holds_9 (by decide) (by decide) rfl (by decide) ?_
    refine z_iload_n dX8_holds_140 rfl ?_
    refine zn_if_ne (tgt := 170) dX8_holds_141 (by decide) (by omega) (fun hc141 => ?_) (fun hc141 => ?_)
    · refine z_iconst (v := nI 0) dX8_holds_170 rfl ?_
      exact y_zreturn dX8_holds_171 rfl (by first | exact Or.inl rfl | exact Or.inr rfl | assumption) (by refine ⟨?_, rfl, hS, only_rf⟩; rw [b2i_f]; simp [dos]; intro h; exact absurd h hc141)
    · subst hc141
      refine z_aload_n dX8_holds_144 rfl ?_
      refine y_getR dX8_holds_145 lf_X8_19 rfl rfl ?_
      refine z_iload_n dX8_holds_148 rfl ?_
      refine y_callV1x (M' := M_X3_hasBoy) dX8_holds_149 lm_X8_139 cv_X3_hasBoy rfl (Nat.le_of_ble_eq_true rfl) (Nat.le_of_ble_eq_true rfl) rfl (c_hasBoy hp hP (nI c) _) ?_
      refine zb_if_eq (tgt := 170) dX8_holds_152 (by decide) (fun hc152 => ?_) (fun hc152 => ?_)
      · refine z_iconst (v := nI 0) dX8_holds_170 rfl ?_
        exact y_zreturn dX8_holds_171 rfl (by first | exact Or.inl rfl | exact Or.inr rfl | assumption) (by have g : ¬ c < pb p := of_decide_eq_false ((inr_nI (by omega) (by omega)).symm.trans hc152); refine ⟨?_, rfl, hS, only_rf⟩; rw [b2i_f]; simp [dos, g])
      · have g1 : c < pb p := of_decide_eq_true ((inr_nI (by omega) (by omega)).symm.trans hc152)
        refine z_aload_n dX8_holds_155 rfl ?_
        refine y_getR dX8_holds_156 lf_X8_32 rfl rfl ?_
        refine z_iload_n dX8_holds_159 rfl ?_
        refine y_callV1x (M' := M_X4_isHome) dX8_holds_160 lm_X8_290 cv_X4_isHome rfl (Nat.le_of_ble_eq_true rfl) (Nat.le_of_ble_eq_true rfl) rfl (c_isHome hp hP sAt12 hS hV g1 _) ?_
        refine zb_if_eq (tgt := 170) dX8_holds_163 (by decide) (fun hc163 => ?_) (fun hc163 => ?_)
        · refine z_iconst (v := nI 0) dX8_holds_170 rfl ?_
          exact y_zreturn dX8_holds_171 rfl (by first | exact Or.inl rfl | exact Or.inr rfl | assumption) (by refine ⟨?_, rfl, hS, only_rf⟩; rw [b2i_f]; simp at hc163; simp [dos, g1, hc163])
        · refine z_iconst (v := nI 1) dX8_holds_166 rfl ?_
          refine z_goto (tgt := 171) dX8_holds_167 (by decide) ?_
          exact y_zreturn dX8_holds_171 rfl (by first | exact Or.inl rfl | exact Or.inr rfl | assumption) (by refine ⟨?_, rfl, hS, only_rf⟩; rw [b2i_t]; simp at hc163; simp [dos, g1, hc163])
  · refine z_tableOut (tgt := 172) dX8_holds_9 (by rw [nI_toInt (by omega)]; omega) (by decide) ?_
    have ed : dos p s f a c = (false, s) := by unfold dos; rw [if_neg (by omega), if_neg (by omega), if_neg (by omega), if_neg (by omega)]
    rw [ed]
    refine z_iconst (v := nI 0) dX8_holds_172 rfl ?_
    exact y_zreturn dX8_holds_173 rfl (by first | exact Or.inl rfl | exact Or.inr rfl | assumption) ⟨rfl, rfl, hS, only_rf⟩
def hpn (p : PT) (s : SC) (x : Nat) : SC := if x < 20 then (dos p s 1 (x / 4) (x % 4)).2 else (dos p s 2 ((x - 20) / 10) ((x - 20) % 10)).2
set_option maxRecDepth 4000 in
theorem q_happens {X : zX} {mu : zmu} {nu : znu} {p : PT} {s : SC} (hp : PV p) (hP : PFc p mu) (hS : SFs p s 12 mu) (hV : SVs p s) {x : Nat} (hx : x < 40) (d : Nat) : zJ X M_X8_happens (d + 5) 0 0 0 [.ref 0, .int (nI x), zu] [] 86 (zEE (mu) (nu)) (zlift (Qs p (hpn p s x) 12 none mu nu)) := by
  have h20 := hp.n20
  have h5 := hp.2.2.2.2.2.1
  refine z_iload_n dX8_happens_0 rfl ?_
  refine z_bipush (v := nI 20) dX8_happens_1 rfl ?_
  refine zn_icmp_ge (tgt := 36) dX8_happens_3 (by decide) (by omega) (by omega) (fun hc3 => ?_) (fun hc3 => ?_)
  · have ed : hpn p s x = if x - 20 < pw p * ph p then brS' p s (x - 20) else s := by unfold hpn dos; rw [if_neg (by omega), if_neg (by decide), if_pos rfl, show (x - 20) / 10 * 10 + (x - 20) % 10 = x - 20 by omega]; split <;> rfl
    refine z_aload_n dX8_happens_36 rfl ?_
    refine y_getR dX8_happens_37 lf_X8_19 rfl rfl ?_
    refine z_iload_n dX8_happens_40 rfl ?_
    refine z_bipush (v := nI 20) dX8_happens_41 rfl ?_
    refine zn_isub dX8_happens_43 (by omega) ?_
    refine y_callV1x (M' := M_X3_hasCell) dX8_happens_44 lm_X8_126 cv_X3_hasCell rfl (Nat.le_of_ble_eq_true rfl) (Nat.le_of_ble_eq_true rfl) rfl (c_hasCell hp hP (nI (x - 20)) _) ?_
    refine zb_if_eq (tgt := 62) dX8_happens_47 (by decide) (fun hc47 => ?_) (fun hc47 => ?_)
    · exact y_return dX8_happens_62 rfl (by have g : ¬ x - 20 < pw p * ph p := of_decide_eq_false ((inr_nI (by omega) (by omega)).symm.trans hc47); rw [ed, if_neg g]; exact ⟨rfl, rfl, hS, only_rf⟩)
    · have g1 : x - 20 < pw p * ph p := of_decide_eq_true ((inr_nI (by omega) (by omega)).symm.trans hc47)
      rw [ed, if_pos g1]
      refine z_aload_n dX8_happens_50 rfl ?_
      refine y_getR dX8_happens_51 lf_X8_32 rfl rfl ?_
      refine z_iload_n dX8_happens_54 rfl ?_
      refine z_bipush (v := nI 20) dX8_happens_55 rfl ?_
      refine zn_isub dX8_happens_57 (by omega) ?_
      refine y_callV1 (M' := M_X4_bringHome) dX8_happens_58 lm_X8_176 cv_X4_bringHome rfl (Nat.le_of_ble_eq_true rfl) (Nat.le_of_ble_eq_true rfl) rfl (q_bring hp hP sAt12 hS hV g1 _) (fun r mu1 nu1 hq => ?_)
      obtain ⟨rfl, rfl, hS2, ho⟩ := hq
      refine z_pop dX8_happens_61 rfl ?_
      exact y_return dX8_happens_62 rfl ⟨rfl, rfl, hS2, ho⟩
  · have ed : hpn p s x = if x / 4 < pb p then goS p s (x / 4) (x % 4) else s := by unfold hpn dos; rw [if_pos hc3, if_pos rfl]; by_cases g : x / 4 < pb p; (rw [if_pos ⟨g, by omega⟩, if_pos g]); (rw [if_neg (fun e => g e.1), if_neg g])
    refine z_iload_n dX8_happens_6 rfl ?_
    refine z_iconst (v := nI 4) dX8_happens_7 rfl ?_
    refine zn_idiv dX8_happens_8 (by omega) (by omega) (by omega) ?_
    refine z_istore2 dX8_happens_9 rfl ?_
    refine z_aload_n dX8_happens_10 rfl ?_
    refine y_getR dX8_happens_11 lf_X8_19 rfl rfl ?_
    refine z_iload_n dX8_happens_14 rfl ?_
    refine y_callV1x (M' := M_X3_hasBoy) dX8_happens_15 lm_X8_139 cv_X3_hasBoy rfl (Nat.le_of_ble_eq_true rfl) (Nat.le_of_ble_eq_true rfl) rfl (c_hasBoy hp hP (nI (x / 4)) _) ?_
    refine zb_if_eq (tgt := 33) dX8_happens_18 (by decide) (fun hc18 => ?_) (fun hc18 => ?_)
    · refine z_goto (tgt := 62) dX8_happens_33 (by decide) ?_
      exact y_return dX8_happens_62 rfl (by have g : ¬ x / 4 < pb p := of_decide_eq_false ((inr_nI (by omega) (by omega)).symm.trans hc18); rw [ed, if_neg g]; exact ⟨rfl, rfl, hS, only_rf⟩)
    · have g1 : x / 4 < pb p := of_decide_eq_true ((inr_nI (by omega) (by omega)).symm.trans hc18)
      rw [ed, if_pos g1]
      refine z_aload_n dX8_happens_21 rfl ?_
      refine y_getR dX8_happens_22 lf_X8_32 rfl rfl ?_
      refine z_iload_n dX8_happens_25 rfl ?_
      refine z_iload_n dX8_happens_26 rfl ?_
      refine z_iconst (v := nI 4) dX8_happens_27 rfl ?_
      refine zn_irem dX8_happens_28 (by omega) (by omega) (by omega) ?_
      refine y_callV2 (M' := M_X4_goes) dX8_happens_29 lm_X8_172 cv_X4_goes rfl (Nat.le_of_ble_eq_true rfl) (Nat.le_of_ble_eq_true rfl) rfl (q_goes hp hP sAt12 hS hV g1 (y := x % 4) (by omega) _) (fun r mu1 nu1 hq => ?_)
      obtain ⟨rfl, rfl, hS2, ho⟩ := hq
      refine z_pop dX8_happens_32 rfl ?_
      refine z_goto (tgt := 62) dX8_happens_33 (by decide) ?_
      exact y_return dX8_happens_62 rfl ⟨rfl, rfl, hS2, ho⟩
