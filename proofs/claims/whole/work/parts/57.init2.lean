def shI : Nat → Nat × Nat × List Nat := fun a => if a = 3 then (3, 3, [0, 0, 0, 0, 0, 6, 7, 8, 9, 10, 11]) else if a = 7 ∨ a = 8 ∨ a = 9 then (0, 80, []) else (9, 0, [])
def z80 : zE := .inl (0, 80, .inl (fun _ => 0))
def HP (h : zH) : zH := va_up (va_up (va_up (va_up h 7 z80) 8 z80) 9 z80) 3 (.inr (3, [.int (nI 2), .int (nI 2), .int 0, .int 0, .int 0, .ref 4, .ref 5, .ref 6, .ref 7, .ref 8, .ref 9]))
theorem HP_o {h : zH} {a : Nat} (h1 : a ≠ 3) (h2 : ¬ (a = 7 ∨ a = 8 ∨ a = 9)) : HP h a = h a := by
  unfold HP
  rw [va_up_ne _ _ h1, va_up_ne _ _ (by omega), va_up_ne _ _ (by omega), va_up_ne _ _ (by omega)]
theorem shI_o {a : Nat} (h1 : a ≠ 3) (h2 : ¬ (a = 7 ∨ a = 8 ∨ a = 9)) : shI a = (9, 0, []) := by unfold shI; rw [if_neg h1, if_neg h2]
theorem HP_is (h : zH) : zEh (shI, HP h) muB nuI = HP h := by
  funext a
  by_cases h1 : a = 3
  · subst h1; rfl
  · by_cases h2 : a = 7 ∨ a = 8 ∨ a = 9
    · rcases h2 with rfl | rfl | rfl <;> rfl
    · show zEd muB nuI a (HP h a) (shI a) = HP h a
      rw [shI_o h1 h2]; rfl
theorem HP_end {h : zH} (hE : ∀ a, 3 < a → h a = EI a) : zEh (shI, HP h) muI nuI = va_up h 3 (EI 3) := by
  funext a
  by_cases h1 : a = 3
  · subst h1; rfl
  · rw [va_up_ne _ _ h1]
    by_cases h2 : a = 7 ∨ a = 8 ∨ a = 9
    · rw [hE a (by omega)]
      rcases h2 with rfl | rfl | rfl <;> rfl
    · show zEd muI nuI a (HP h a) (shI a) = h a
      rw [shI_o h1 h2]
      show HP h a = h a
      exact HP_o h1 h2
set_option maxRecDepth 8000 in
theorem n_X3 {X : zX} {h : zH} (hE : ∀ a, 3 < a → h a = EI a) (d : Nat) : zJ X M_X3_init (d + 3) 6 270 0 [.ref 3] [] 4 (va_up h 3 (.inr (3, [.int 0, .int 0, .int 0, .int 0, .int 0, .null, .null, .null, .null, .null, .null]))) (zno 10 (va_up h 3 (EI 3))) := by
  refine z_aload_n dX3_init_0 rfl ?_
  refine z_objInit dX3_init_1 lm_X3_3 im_objinit co_objinit (Nat.le_of_ble_eq_true rfl) (by omega) ?_
  refine z_aload_n dX3_init_4 rfl ?_
  refine z_iconst (v := nI 2) dX3_init_5 rfl ?_
  refine i_putI dX3_init_6 lp_X3_9 (by decide) (by decide) (by decide) ?_
  refine z_aload_n dX3_init_9 rfl ?_
  refine z_iconst (v := nI 2) dX3_init_10 rfl ?_
  refine i_putI dX3_init_11 lp_X3_15 (by decide) (by decide) (by decide) ?_
  refine z_aload_n dX3_init_14 rfl ?_
  refine z_bipush (v := nI 20) dX3_init_15 rfl ?_
  refine i_newa (k := 5) (q := 250) (N := 20) (n := 4) dX3_init_17 (by decide) (by decide) ((va_up_ne _ _ (by decide)).trans ((hE 4 (by decide)).trans (EI_a rfl (by decide)))) ?_
  refine i_putF dX3_init_19 lp_X3_18 rfl (by decide) (by decide) (fun _ _ => ⟨rfl, rfl⟩) (by decide) ?_
  refine z_aload_n dX3_init_22 rfl ?_
  refine z_iconst (v := nI 5) dX3_init_23 rfl ?_
  refine i_newa (k := 4) (q := 245) (N := 5) (n := 5) dX3_init_24 (by decide) (by decide) ((va_up_ne _ _ (by decide)).trans ((hE 5 (by decide)).trans (EI_a rfl (by decide)))) ?_
  refine i_putF dX3_init_26 lp_X3_22 rfl (by decide) (by decide) (fun _ _ => ⟨rfl, rfl⟩) (by decide) ?_
  refine z_aload_n dX3_init_29 rfl ?_
  refine z_iconst (v := nI 5) dX3_init_30 rfl ?_
  refine i_newa (k := 3) (q := 240) (N := 5) (n := 6) dX3_init_31 (by decide) (by decide) ((va_up_ne _ _ (by decide)).trans ((hE 6 (by decide)).trans (EI_a rfl (by decide)))) ?_
  refine i_putF dX3_init_33 lp_X3_25 rfl (by decide) (by decide) (fun _ _ => ⟨rfl, rfl⟩) (by decide) ?_
  refine z_aload_n dX3_init_36 rfl ?_
  refine z_bipush (v := nI 80) dX3_init_37 rfl ?_
  refine i_newb (k := 2) (q := 160) (N := 80) (n := 7) (a := 3) dX3_init_39 (by decide) (by decide) (by decide) ?_
  refine i_putF dX3_init_41 lp_X3_28 rfl (by decide) (by decide) (fun _ _ => ⟨rfl, rfl⟩) (by decide) ?_
  refine z_aload_n dX3_init_44 rfl ?_
  refine z_bipush (v := nI 80) dX3_init_45 rfl ?_
  refine i_newb (k := 1) (q := 80) (N := 80) (n := 8) (a := 3) dX3_init_47 (by decide) (by decide) (by decide) ?_
  refine i_putF dX3_init_49 lp_X3_31 rfl (by decide) (by decide) (fun _ _ => ⟨rfl, rfl⟩) (by decide) ?_
  refine z_aload_n dX3_init_52 rfl ?_
  refine z_bipush (v := nI 80) dX3_init_53 rfl ?_
  refine i_newb (k := 0) (q := 0) (N := 80) (n := 9) (a := 3) dX3_init_55 (by decide) (by decide) (by decide) ?_
  refine i_putF dX3_init_57 lp_X3_34 rfl (by decide) (by decide) (fun _ _ => ⟨rfl, rfl⟩) (by decide) ?_
  refine z_aload_n dX3_init_60 rfl ?_
  show zJ X M_X3_init (d + 3) 0 0 61 [.ref 3] [.ref 3] 10 (HP h) _
  have hJ : zJ X M_X3_layOut (d + 2) 0 0 0 [.ref 3, zu, zu] [] 10 (HP h) (zlh (shI, HP h) 10 (zex none muI nuI)) := by
    have k := gh_layOut (X := X) (sh := (shI, HP h)) (n := 10) (mu := muB) (nu := nuI) ⟨rfl, rfl, rfl, rfl, by decide⟩ (w := 2) (h := 2) (dd := 0) (by decide) (by decide) (by decide) (by decide) (by decide) rfl rfl rfl d
    rw [HP_is] at k
    exact k
  obtain ⟨c1, c2, c3, T, N, c4⟩ := cv_X3_layOut
  refine zCallV (M' := M_X3_layOut) (As := []) (k1 := 0) (q1 := 0) (k := 0) (q := 0) (fs := [.int (nI 2), .int (nI 2), .int 0, .int 0, .int 0, .ref 4, .ref 5, .ref 6, .ref 7, .ref 8, .ref 9]) dX3_init_61 lm_X3_37 c1 c2 (va_up_self _ _ _) (by decide) c4 (by decide) c3 rfl (Nat.le_of_ble_eq_true rfl) (Nat.le_of_ble_eq_true rfl) rfl hJ ?_
  rintro r n' h' ⟨rfl, mu', nu', rfl, rfl, rfl, rfl⟩
  exact i_ret dX3_init_64 rfl rfl (HP_end hE)
theorem i_callS {X : zX} {M : zM} {d k q pc jdx : Nat} {L S : List Value} {n : Nat} {g : zH} {Q : zQ} (hd : decode M.2.1 pc = .ok (.invokespecial jdx, 3)) (hlk : Cond.methodLink M.1.cls jdx yX4_init ∈ zU) (ha : sAt n) (hn : n < 86 ∧ n ≠ 66) (hst : (S.map fun v => v.category).sum ≤ 8) (hg : g n = EI n) (hE : ∀ b, n < b → g b = EI b) (kk : zJ X M (d + 2) k q (pc + 3) L S (n + 2) g Q) : zJ X M (d + 2) (1 + k) (5 + q) pc L (.ref 3 :: .ref n :: S) (n + 1) (va_up g n (.inr (4, [.null, .null, .int 0]))) Q := by
  refine zCallI (M' := M_X4_init) (As := [.ref 3]) (k1 := 1) (q1 := 5) hd hlk im_X4_init rfl rfl (by omega) cal_X4_init rfl hst (Nat.le_of_ble_eq_true rfl) rfl (n_X4 ha hn hE d) ?_
  rintro r n' h' ⟨rfl, rfl, rfl⟩
  rw [up_id hg]; exact kk
def yA (i : Nat) : zE := .inl (2, 14, .inr (.inr (.inr (.inr (fun j => if j < i then some (16 + 2 * j) else none)))))
def oA : zE := .inr (0, [.ref 15, .int 0, .int 0])
theorem yA_14 : EI 15 = yA 14 := by
  unfold EI
  rw [zEE_refs (a := 15) (n := 14) (t := [16, 18, 20, 22, 24, 26, 28, 30, 32, 34, 36, 38, 40, 42]) rfl]
  refine congrArg (fun f => (Sum.inl (2, 14, .inr (.inr (.inr (.inr f)))) : zE)) (funext fun j => ?_)
  by_cases h : j < 14
  · rw [if_pos h]
    have : ∀ j, j < 14 → ([16, 18, 20, 22, 24, 26, 28, 30, 32, 34, 36, 38, 40, 42] : List Nat)[j]? = some (16 + 2 * j) := by decide
    exact this j h
  · rw [if_neg h]
    exact List.getElem?_eq_none (by show 14 ≤ j; omega)
theorem EI_s {a : Nat} (ha : sAt a) : ∃ vs, EI a = .inr (4, vs) := ⟨_, zEE_obj ha.1⟩
set_option maxRecDepth 4000 in
theorem n_X0_l {X : zX} {h : zH} (hE : ∀ a, 14 < a → h a = EI a) (d : Nat) : ∀ m i, i + m = 14 → zJ X M_X0_init (d + 3) (2 * m) (8 * m) 15 [.ref 14, .ref 3, .int (nI i)] [] (16 + 2 * i) (va_up (va_up h 15 (yA i)) 14 oA) (zno 44 (va_up h 14 (EI 14))) := by
  intro m
  induction m with
  | zero =>
    intro i hi
    obtain rfl : i = 14 := by omega
    refine z_iload_n dX0_init_15 rfl ?_
    refine z_bipush (v := nI 14) dX0_init_16 rfl ?_
    refine zn_icmp_ge (tgt := 41) dX0_init_18 (by decide) (by omega) (by omega) (fun hc18 => ?_) (fun hc18 => absurd hc18 (Nat.lt_irrefl _))
    exact i_ret dX0_init_41 rfl rfl (by rw [up_id (show h 15 = yA 14 from (hE 15 (by decide)).trans yA_14)]; rfl)
  | succ m ih =>
    intro i hi
    have hs := sAt_act i (by omega)
    obtain ⟨vs, hvs⟩ := EI_s hs
    refine z_eqR (k := (1 + 2 * m) + 1) (q := (5 + 8 * m) + 3) ?_ (by omega) (by omega)
    refine z_iload_n dX0_init_15 rfl ?_
    refine z_bipush (v := nI 14) dX0_init_16 rfl ?_
    refine zn_icmp_ge (tgt := 41) dX0_init_18 (by decide) (by omega) (by omega) (fun hc18 => by omega) (fun hc18 => ?_)
    refine z_aload_n dX0_init_21 rfl ?_
    refine i_getR (fs := [.ref 15, .int 0, .int 0]) dX0_init_22 lf_X0_11 (by omega) (by decide) rfl ?_
    refine z_iload_n dX0_init_25 rfl ?_
    refine z_new (k := 1 + 2 * m) (q := 5 + 8 * m) dX0_init_26 lc_X0_9 (by omega) ?_
    refine z_dup dX0_init_29 rfl ?_
    refine z_aload_n dX0_init_30 rfl ?_
    have hg : ∀ b, 15 < b → va_up (va_up h 15 (yA i)) 14 oA b = EI b := fun b hb => (va_up_ne _ _ (by omega)).trans ((va_up_ne _ _ (by omega)).trans (hE b (by omega)))
    refine i_callS dX0_init_31 lm_X0_17 hs (by omega) (Nat.le_of_ble_eq_true rfl) (hg _ (by omega)) (fun b hb => hg b (by omega)) ?_
    refine z_aast (f := fun j => if j < i then some (16 + 2 * j) else none) (N := 14) (vs := vs) dX0_init_34 ((va_up_ne _ _ (by decide)).trans (va_up_self _ _ _)) (by omega) (by decide) ((hg _ (by omega)).trans hvs) (by omega) (by omega) (vp_in_nI (by omega) (by omega)) ?_
    have eh : va_up (va_up (va_up h 15 (yA i)) 14 oA) 15 (.inl (2, 14, .inr (.inr (.inr (.inr (va_up (fun j => if j < i then some (16 + 2 * j) else none) (nI i).toNatClampNeg (some (16 + 2 * i)))))))) = va_up (va_up h 15 (yA (i + 1))) 14 oA := by
      rw [up_cm (by decide), up_up]
      rw [nI_clamp (by omega)]
      refine congrArg (fun f => va_up (va_up h 15 (Sum.inl (2, 14, .inr (.inr (.inr (.inr f)))) : zE)) 14 oA) (funext fun j => ?_)
      unfold va_up
      by_cases h1 : j = i
      · rw [if_pos h1, if_pos (by omega), h1]
      · rw [if_neg h1]
        show (if j < i then some (16 + 2 * j) else none) = _
        by_cases h2 : j < i
        · rw [if_pos h2, if_pos (by omega)]
        · rw [if_neg h2, if_neg (by omega)]
    refine z_eqh (h := va_up (va_up h 15 (yA (i + 1))) 14 oA) ?_ eh.symm
    refine zn_iinc2 dX0_init_35 rfl ?_
    refine z_goto (tgt := 15) dX0_init_38 (by decide) ?_
    have k := ih (i + 1) (by omega)
    rw [show 16 + 2 * (i + 1) = 16 + 2 * i + 2 by omega] at k
    exact k
theorem n_X0 {X : zX} {h : zH} (hE : ∀ a, 14 < a → h a = EI a) (d : Nat) : zJ X M_X0_init (d + 3) 29 126 0 [.ref 14, .ref 3, zu] [] 15 (va_up h 14 (.inr (0, [.null, .int 0, .int 0]))) (zno 44 (va_up h 14 (EI 14))) := by
  refine z_aload_n dX0_init_0 rfl ?_
  refine z_objInit dX0_init_1 lm_X0_3 im_objinit co_objinit (Nat.le_of_ble_eq_true rfl) (by omega) ?_
  refine z_aload_n dX0_init_4 rfl ?_
  refine z_bipush (v := nI 14) dX0_init_5 rfl ?_
  refine i_newq (k := 28) (q := 112) (N := 14) (n := 15) (a := 14) dX0_init_7 lcl_X0_9 (by decide) (by decide) (by decide) ?_
  refine i_putF dX0_init_10 lp_X0_11 rfl (by decide) (by decide) (fun _ _ => ⟨rfl, rfl⟩) (by decide) ?_
  refine z_iconst (v := nI 0) dX0_init_13 rfl ?_
  refine z_istore2 dX0_init_14 rfl ?_
  exact n_X0_l hE d 14 0 (by omega)
