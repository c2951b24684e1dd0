theorem AV_text {A : AS} {t : Nat × (Nat → Nat)} (hA : AV A) (h1 : t.1 ≤ 48) (h2 : ∀ i, i < 48 → t.2 i < 256) : AV (setT A t) := ⟨hA.1, hA.2.1, hA.2.2.1, hA.2.2.2.1, hA.2.2.2.2.1, h1, h2⟩
theorem V_write {A : AS} (hA : AV A) (x : Int32) : AV (f_write A x).2 := by
  unfold f_write
  split
  · rename_i g
    obtain ⟨t, ht, rfl⟩ := inr_t g (by decide)
    split
    · refine AV_text hA (by show (aT A).1 + 1 ≤ 48; omega) (fun i hi => ?_)
      show (if i = (aT A).1 then ix (nI t) else (aT A).2 i) < 256
      rw [ix_nI (by omega)]
      split
      · exact ht
      · exact hA.2.2.2.2.2.2 i hi
    · exact hA
  · exact hA
theorem V_wipe {A : AS} (hA : AV A) : AV (f_wipe A).2 := AV_text hA (Nat.zero_le _) hA.2.2.2.2.2.2
theorem V_paper {A : AS} (hA : AV A) : AV (f_paper A).2 := by
  unfold f_paper
  split
  · rename_i g
    have hp := patOf_V ((flt_pap hA.2.2.2.2.2.1).mp g)
    have h20 := hp.n20
    refine ⟨hp, ⟨fun b hb => ?_, by show 0 < 2 ^ 20; decide⟩, ⟨Nat.zero_le _, fun i hi => absurd hi (Nat.not_lt_zero _)⟩, fun k _ s e => (by cases e), hA.2.2.2.2.1, hA.2.2.2.2.2⟩
    have := (hp.2.2.2.2.2.2.2 b hb).1
    show 480 + pH (patOf (aT A).2 (aT A).1) b < 980 ∧ (480 + pH (patOf (aT A).2 (aT A).1) b) % 20 < _
    refine ⟨by omega, ?_⟩
    have e : (480 + pH (patOf (aT A).2 (aT A).1) b) % 20 = pH (patOf (aT A).2 (aT A).1) b := by omega
    rw [e]; exact this
  · exact hA
theorem V_psh {A : AS} (hA : AV A) {s : SC} (h : SVs (aP A) s) : AV (pshN A s) := AV_now (AV_push hA) h
theorem V_step {A : AS} (hA : AV A) (x y : Int32) : AV (f_step A x y).2 := by
  have h5 := hA.b
  unfold f_step
  split
  · rename_i g
    obtain ⟨b, hb, rfl⟩ := inr_t g (by omega)
    split
    · rename_i g2
      obtain ⟨w, hw, rfl⟩ := inr_t g2 (by decide)
      split
      · exact hA
      · rw [ix_nI (by omega), ix_nI (by omega)]
        exact V_psh hA (SVs_go hA.1 hA.2.1 hb hw)
    · exact hA
  · exact hA
theorem V_call {A : AS} (hA : AV A) (x : Int32) : AV (f_call A x).2 := by
  unfold f_call
  split
  · exact V_psh hA (SVs_br hA.1 hA.2.1 _)
  · exact hA
theorem V_cut {A : AS} (hA : AV A) (x : Int32) : AV (f_cut A x).2 := by
  have h20 := hA.n
  unfold f_cut
  split
  · rename_i g
    obtain ⟨c, hc, rfl⟩ := inr_t g (by omega)
    split
    · rw [ix_nI (by omega)]
      exact V_psh hA (SVs_cu hA.2.1 (by omega))
    · exact hA
  · exact hA
theorem V_undo {A : AS} (hA : AV A) : AV (f_undo A).2 := by
  unfold f_undo
  split
  · exact hA
  · rename_i g; exact AV_pop hA g
theorem V_see {A : AS} (hA : AV A) (x y k : Int32) : AV (f_see A x y k).2 := by
  unfold f_see
  split
  · rename_i g
    simp only [okS, Bool.and_eq_true] at g
    obtain ⟨g1, g2, g3⟩ := g
    obtain ⟨t, ht, rfl⟩ := inr_t g3 (by decide)
    split
    · refine ⟨hA.1, hA.2.1, hA.2.2.1, hA.2.2.2.1, ⟨by show (aS A).1 + 1 ≤ 6; omega, fun i hi => ?_⟩, hA.2.2.2.2.2⟩
      have hi : i < (aS A).1 + 1 := hi
      show sV (if i = (aS A).1 then iS x else (aS A).2.1 i) ∧ sV (if i = (aS A).1 then iS y else (aS A).2.2.1 i) ∧ (if i = (aS A).1 then ix (nI t) else (aS A).2.2.2 i) ≤ 3
      rw [ix_nI (by omega)]
      by_cases hg : i = (aS A).1
      · rw [if_pos hg, if_pos hg, if_pos hg]; exact ⟨(iS_ok (of_decide_eq_true g1)).2, (iS_ok (of_decide_eq_true g2)).2, by omega⟩
      · rw [if_neg hg, if_neg hg, if_neg hg]; exact hA.2.2.2.2.1.2 i (by omega)
    · exact hA
  · exact hA
theorem V_unsee {A : AS} (hA : AV A) : AV (f_unsee A).2 := ⟨hA.1, hA.2.1, hA.2.2.1, hA.2.2.2.1, ⟨Nat.zero_le _, fun i hi => absurd hi (Nat.not_lt_zero _)⟩, hA.2.2.2.2.2⟩
theorem V_seed {A : AS} (hA : AV A) (v : Int64) : AV (setD A v) := hA
theorem V_nights {A : AS} (hA : AV A) (x : Int32) : AV (f_nights A x).2 := by
  unfold f_nights; split
  · exact hA
  · exact hA
theorem V_keep {A : AS} (hA : AV A) (x : Int32) : AV (f_keep A x).2 := by
  unfold f_keep
  split
  · refine ⟨hA.1, hA.2.1, hA.2.2.1, fun k hk s e => ?_, hA.2.2.2.2⟩
    have e : kpS A (ix x) k = some s := e
    unfold kpS at e
    by_cases h : k = ix x
    · rw [if_pos h] at e; cases e; exact hA.2.1
    · rw [if_neg h] at e; exact hA.2.2.2.1 k hk s e
  · exact hA
theorem V_goOn {A : AS} (hA : AV A) (x : Int32) : AV (f_goOn A x).2 := by
  unfold f_goOn
  split
  · rename_i g
    obtain ⟨b, hb, rfl⟩ := inr_t g (by decide)
    split
    · exact hA
    · rename_i s e
      rw [ix_nI (by omega)] at e
      exact ⟨hA.1, hA.2.2.2.1 b hb s e, ⟨Nat.zero_le _, fun i hi => absurd hi (Nat.not_lt_zero _)⟩, hA.2.2.2⟩
  · exact hA
