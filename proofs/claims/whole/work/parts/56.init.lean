/-! the constructors -/
def muB : zmu := fun a j => if a = 3 then (if j < 2 then nI 2 else 0) else if a = 66 then (if j = 4 ∨ j = 5 then nI 2 else 0) else 0
def muI : zmu := layK 2 2 0 (2 * 2) (u2 muB 3 3 (nI (2 * 2)))
def nuI : znu := fun _ => 0
def EI : zH := zEE muI nuI
theorem muI_0 {a : Nat} (h : a ≠ 3 ∧ a ≠ 7 ∧ a ≠ 8 ∧ a ≠ 9 ∧ a ≠ 66) : muI a = fun _ => 0 := by
  funext j
  unfold muI layK
  rw [if_neg (by omega), u2_a h.1]
  unfold muB
  rw [if_neg h.1, if_neg h.2.2.2.2]
theorem EI_a {n N : Nat} {t : List Nat} (hk : zk n = (0, N, t)) (h : n ≠ 3 ∧ n ≠ 7 ∧ n ≠ 8 ∧ n ≠ 9 ∧ n ≠ 66) : EI n = .inl (0, N, .inl (fun _ => 0)) := by
  unfold EI; rw [zEE_int hk, muI_0 h]
theorem EI_z {n N : Nat} {t : List Nat} (hk : zk n = (1, N, t)) (h : n ≠ 3 ∧ n ≠ 7 ∧ n ≠ 8 ∧ n ≠ 9 ∧ n ≠ 66) : EI n = .inl (1, N, .inl (fun _ => 0)) := by
  unfold EI; rw [zEE_bool hk, muI_0 h]
theorem up_id {h : zH} {a : Nat} {x : zE} (e : h a = x) : va_up h a x = h := by
  funext b; unfold va_up; split
  · rename_i g; rw [g, e]
  · rfl
theorem up_up {h : zH} {a : Nat} {x y : zE} : va_up (va_up h a x) a y = va_up h a y := by
  funext b; unfold va_up; split <;> rfl
theorem up_cm {h : zH} {a b : Nat} {x y : zE} (e : a ≠ b) : va_up (va_up h a x) b y = va_up (va_up h b y) a x := by
  funext c; unfold va_up
  by_cases h1 : c = b
  · have h2 : ¬ c = a := by omega
    rw [if_pos h1, if_neg h2, if_pos h1]
  · rw [if_neg h1, if_neg h1]
theorem nI_nn {N : Nat} (h : N < 2 ^ 31) : ¬ nI N < 0 := by
  rw [Int32.lt_iff_toInt_lt, nI_toInt h, z32]; omega
theorem z_eqR {X : zX} {M : zM} {d k q k' q' pc : Nat} {L S : List Value} {n : Nat} {h : zH} {Q : zQ} (kk : zJ X M d k q pc L S n h Q) (e1 : k = k') (e2 : q = q') : zJ X M d k' q' pc L S n h Q := e1 ▸ e2 ▸ kk
theorem z_eqh {X : zX} {M : zM} {d k q pc : Nat} {L S : List Value} {n : Nat} {h h' : zH} {Q : zQ} (kk : zJ X M d k q pc L S n h Q) (e1 : h = h') : zJ X M d k q pc L S n h' Q := e1 ▸ kk
def zno (m : Nat) (g : zH) : zQ := fun r n' h' => r = none ∧ n' = m ∧ h' = g
theorem i_newa {X : zX} {M : zM} {d k q pc : Nat} {L S : List Value} {n : Nat} {h : zH} {Q : zQ} {N : Nat} (hd : decode M.2.1 pc = .ok (.newarray .int, 2)) (hN : N ≤ 1000) (hn : n < 1000) (hh : h n = .inl (0, N, .inl (fun _ => 0))) (kk : zJ X M d k q (pc + 2) L (.ref n :: S) (n + 1) h Q) : zJ X M d (k + 1) (q + N) pc L (.int (nI N) :: S) n h Q := by
  refine z_newa hd ac_int (nI_nn (by omega)) (nI_clamp (by omega)) (by omega) (by omega) ?_
  rw [up_id hh]; exact kk
theorem i_newz {X : zX} {M : zM} {d k q pc : Nat} {L S : List Value} {n : Nat} {h : zH} {Q : zQ} {N : Nat} (hd : decode M.2.1 pc = .ok (.newarray .boolean, 2)) (hN : N ≤ 1000) (hn : n < 1000) (hh : h n = .inl (1, N, .inl (fun _ => 0))) (kk : zJ X M d k q (pc + 2) L (.ref n :: S) (n + 1) h Q) : zJ X M d (k + 1) (q + N) pc L (.int (nI N) :: S) n h Q := by
  refine z_newz hd ac_boolean (nI_nn (by omega)) (nI_clamp (by omega)) (by omega) (by omega) ?_
  rw [up_id hh]; exact kk
theorem i_newb {X : zX} {M : zM} {d k q pc : Nat} {L S : List Value} {n a : Nat} {h : zH} {x : zE} {Q : zQ} {N : Nat} (hd : decode M.2.1 pc = .ok (.newarray .int, 2)) (hN : N ≤ 1000) (hn : n < 1000) (hna : a ≠ n) (kk : zJ X M d k q (pc + 2) L (.ref n :: S) (n + 1) (va_up (va_up h n (.inl (0, N, .inl (fun _ => 0)))) a x) Q) : zJ X M d (k + 1) (q + N) pc L (.int (nI N) :: S) n (va_up h a x) Q := by
  refine z_newa hd ac_int (nI_nn (by omega)) (nI_clamp (by omega)) (by omega) (by omega) ?_
  rw [up_cm hna]; exact kk
theorem i_newq {X : zX} {M : zM} {d k q pc : Nat} {L S : List Value} {n a idx : Nat} {h : zH} {x : zE} {Q : zQ} {N : Nat} (hd : decode M.2.1 pc = .ok (.anewarray idx, 3)) (hlk : Cond.classLink M.1.cls idx "PaperTrellis$Scene" ∈ zU) (hN : N ≤ 1000) (hn : n < 1000) (hna : a ≠ n) (kk : zJ X M d k q (pc + 3) L (.ref n :: S) (n + 1) (va_up (va_up h n (.inl (2, N, .inr (.inr (.inr (.inr (fun _ => none))))))) a x) Q) : zJ X M d (k + 1) (q + N) pc L (.int (nI N) :: S) n (va_up h a x) Q := by
  refine z_newq hd hlk (nI_nn (by omega)) (nI_clamp (by omega)) (by omega) (by omega) ?_
  rw [up_cm hna]; exact kk
theorem i_putF {X : zX} {M : zM} {d k q pc : Nat} {L S : List Value} {n a idx ci j r : Nat} {h : zH} {fs : List Value} {ty : FieldType} {Q : zQ} (hd : decode M.2.1 pc = .ok (.putfield idx, 3)) (hl : zpf M.1.cls idx ci j true ty) (hin : M.1.name = "<init>") (han : a < n) (ham : a < 1000) (hv : ∀ (b0 : Nat) (cs : Nat → Nat), narrow ty (ztr b0 cs (.ref r)) = ztr b0 cs (.ref r) ∧ fits ty (ztr b0 cs (.ref r)) = true) (hlen : j < fs.length) (kk : zJ X M d k q (pc + 3) L S n (va_up h a (.inr (ci, fs.set j (.ref r)))) Q) : zJ X M d k q pc L (.ref r :: .ref a :: S) n (va_up h a (.inr (ci, fs))) Q := by
  refine z_putF hd hl hin (va_up_self _ _ _) han (by omega) hv hlen ?_
  rw [up_up]; exact kk
theorem i_putI {X : zX} {M : zM} {d k q pc : Nat} {L S : List Value} {n a idx ci j : Nat} {h : zH} {fs : List Value} {v : Int32} {Q : zQ} (hd : decode M.2.1 pc = .ok (.putfield idx, 3)) (hl : zpf M.1.cls idx ci j false .int) (han : a < n) (ham : a < 1000) (hlen : j < fs.length) (kk : zJ X M d k q (pc + 3) L S n (va_up h a (.inr (ci, fs.set j (.int v)))) Q) : zJ X M d k q pc L (.int v :: .ref a :: S) n (va_up h a (.inr (ci, fs))) Q := by
  refine z_putf hd hl (va_up_self _ _ _) han (by omega) (fun _ _ => ⟨rfl, rfl⟩) hlen ?_
  rw [up_up]; exact kk
theorem i_getR {X : zX} {M : zM} {d k q pc : Nat} {L S : List Value} {n a idx ci j r : Nat} {h : zH} {fs : List Value} {Q : zQ} (hd : decode M.2.1 pc = .ok (.getfield idx, 3)) (hl : zfl M.1.cls idx ci j) (han : a < n) (ham : a < 1000) (hv : fs[j]? = some (.ref r)) (kk : zJ X M d k q (pc + 3) L (.ref r :: S) n (va_up h a (.inr (ci, fs))) Q) : zJ X M d k q pc L (.ref a :: S) n (va_up h a (.inr (ci, fs))) Q := z_getf hd hl (va_up_self _ _ _) han (by omega) hv kk
theorem i_ret {X : zX} {M : zM} {d q pc : Nat} {L : List Value} {n m : Nat} {h g : zH} (hd : decode M.2.1 pc = .ok (.return_, 1)) (hr : M.2.2.2 = none) (e1 : n = m) (e2 : h = g) : zJ X M d 0 q pc L [] n h (zno m g) := z_return (k := 0) (S := []) hd hr ⟨rfl, e1, e2⟩
/-- a new object that becomes what it is to be: the heap is what it was -/
theorem i_make {X : zX} {M : zM} {d k q k1 q1 pc pcc N idx jdx ci m : Nat} {L S Lc : List Value} {n : Nat} {g : zH} {Q : zQ} {M' : zM} {fs : List Value} (hd0 : decode M.2.1 pc = .ok (.new idx, 3)) (hc0 : zcls M.1.cls idx ci N fs) (hn : n < 1000) (hd1 : decode M.2.1 (pc + 3) = .ok (.dup, 1)) (hd : decode M.2.1 (pc + 4) = .ok (.invokespecial jdx, 3)) (hlk : Cond.methodLink M.1.cls jdx M'.1 ∈ zU ∨ ∃ host, (M.1.cls, jdx, M'.1, host) ∈ zN) (hw1 : Cond.instanceMethod M'.1 ∈ zU) (hw2 : M'.1.name = "<init>") (hrt : M'.2.2.2 = none) (hc : zcal M' 0) (hst : ((Value.ref n :: S).map fun v => v.category).sum ≤ 8) (hlen : (zflat [.ref n]).length ≤ M'.2.2.1) (hLc : zargs M'.2.2.1 [.ref n] = Lc) (hg : g n = EI n) (hp : pcc = pc + 7)
    (hJ : zJ X M' d k1 q1 0 Lc [] (n + 1) (va_up g n (.inr (ci, fs))) (zno m (va_up g n (EI n)))) (kk : zJ X M (d + 1) k q pcc L (.ref n :: S) m g Q) : zJ X M (d + 1) (k1 + k + 1) (q1 + q + N) pc L S n g Q := by
  subst hp
  refine z_new hd0 hc0 (by omega) ?_
  refine z_dup hd1 rfl ?_
  have hk : ∀ r n' h', zno m (va_up g n (EI n)) r n' h' → zJ X M (d + 1) k q (pc + 3 + 1 + 3) L (r.toList ++ .ref n :: S) n' h' Q := by
    rintro r n' h' ⟨rfl, rfl, rfl⟩
    rw [up_id hg]; exact kk
  rcases hlk with hlk | ⟨host, hlk⟩
  · exact zCallI (As := []) hd hlk hw1 hw2 hrt (by omega) hc rfl hst hlen hLc hJ hk
  · exact zCallIN (As := []) hd hlk hw1 hw2 hrt (by omega) hc rfl hst hlen hLc hJ hk
set_option maxRecDepth 8000 in
theorem n_X7 {X : zX} {h : zH} (hE : ∀ a, 1 < a → h a = EI a) (d : Nat) : zJ X M_X7_init (d + 1) 1 48 0 [.ref 1] [] 2 (va_up h 1 (.inr (7, [.null, .int 0]))) (zno 3 (va_up h 1 (EI 1))) := by
  refine z_aload_n dX7_init_0 rfl ?_
  refine z_objInit dX7_init_1 lm_X7_3 im_objinit co_objinit (Nat.le_of_ble_eq_true rfl) (by omega) ?_
  refine z_aload_n dX7_init_4 rfl ?_
  refine z_bipush (v := nI 48) dX7_init_5 rfl ?_
  refine i_newa (k := 0) (q := 0) (N := 48) (n := 2) dX7_init_7 (by decide) (by decide) ((va_up_ne _ _ (by decide)).trans ((hE 2 (by decide)).trans (EI_a rfl (by decide)))) ?_
  refine i_putF dX7_init_9 lp_X7_9 rfl (by decide) (by decide) (fun _ _ => ⟨rfl, rfl⟩) (by decide) ?_
  exact i_ret dX7_init_12 rfl rfl (congrArg (va_up h 1) rfl)
set_option maxRecDepth 8000 in
theorem n_X5 {X : zX} {h : zH} (hE : ∀ a, 46 < a → h a = EI a) (d : Nat) : zJ X M_X5_init (d + 1) 3 1965 0 [.ref 46] [] 47 (va_up h 46 (.inr (5, [.null, .null, .int 0, .null]))) (zno 50 (va_up h 46 (EI 46))) := by
  refine z_aload_n dX5_init_0 rfl ?_
  refine z_objInit dX5_init_1 lm_X5_3 im_objinit co_objinit (Nat.le_of_ble_eq_true rfl) (by omega) ?_
  refine z_aload_n dX5_init_4 rfl ?_
  refine z_sipush (v := nI 980) dX5_init_5 rfl ?_
  refine i_newa (k := 2) (q := 985) (N := 980) (n := 47) dX5_init_8 (by decide) (by decide) ((va_up_ne _ _ (by decide)).trans ((hE 47 (by decide)).trans (EI_a rfl (by decide)))) ?_
  refine i_putF dX5_init_10 lp_X5_9 rfl (by decide) (by decide) (fun _ _ => ⟨rfl, rfl⟩) (by decide) ?_
  refine z_aload_n dX5_init_13 rfl ?_
  refine z_sipush (v := nI 980) dX5_init_14 rfl ?_
  refine i_newa (k := 1) (q := 5) (N := 980) (n := 48) dX5_init_17 (by decide) (by decide) ((va_up_ne _ _ (by decide)).trans ((hE 48 (by decide)).trans (EI_a rfl (by decide)))) ?_
  refine i_putF dX5_init_19 lp_X5_15 rfl (by decide) (by decide) (fun _ _ => ⟨rfl, rfl⟩) (by decide) ?_
  refine z_aload_n dX5_init_22 rfl ?_
  refine z_iconst (v := nI 5) dX5_init_23 rfl ?_
  refine i_newa (k := 0) (q := 0) (N := 5) (n := 49) dX5_init_24 (by decide) (by decide) ((va_up_ne _ _ (by decide)).trans ((hE 49 (by decide)).trans (EI_a rfl (by decide)))) ?_
  refine i_putF dX5_init_26 lp_X5_18 rfl (by decide) (by decide) (fun _ _ => ⟨rfl, rfl⟩) (by decide) ?_
  exact i_ret dX5_init_29 rfl rfl (congrArg (va_up h 46) rfl)
set_option maxRecDepth 8000 in
theorem n_X1 {X : zX} {h : zH} (hE : ∀ a, 50 < a → h a = EI a) (d : Nat) : zJ X M_X1_init (d + 1) 1 32 0 [.ref 50] [] 51 (va_up h 50 (.inr (1, [.null]))) (zno 52 (va_up h 50 (EI 50))) := by
  refine z_aload_n dX1_init_0 rfl ?_
  refine z_objInit dX1_init_1 lm_X1_3 im_objinit co_objinit (Nat.le_of_ble_eq_true rfl) (by omega) ?_
  refine z_aload_n dX1_init_4 rfl ?_
  refine z_bipush (v := nI 32) dX1_init_5 rfl ?_
  refine i_newa (k := 0) (q := 0) (N := 32) (n := 51) dX1_init_7 (by decide) (by decide) ((va_up_ne _ _ (by decide)).trans ((hE 51 (by decide)).trans (EI_a rfl (by decide)))) ?_
  refine i_putF dX1_init_9 lp_X1_11 rfl (by decide) (by decide) (fun _ _ => ⟨rfl, rfl⟩) (by decide) ?_
  exact i_ret dX1_init_12 rfl rfl (congrArg (va_up h 50) rfl)
set_option maxRecDepth 8000 in
theorem n_X6 {X : zX} {h : zH} (hE : ∀ a, 52 < a → h a = EI a) (d : Nat) : zJ X M_X6_init (d + 1) 3 18 0 [.ref 52] [] 53 (va_up h 52 (.inr (6, [.null, .null, .null, .int 0]))) (zno 56 (va_up h 52 (EI 52))) := by
  refine z_aload_n dX6_init_0 rfl ?_
  refine z_objInit dX6_init_1 lm_X6_3 im_objinit co_objinit (Nat.le_of_ble_eq_true rfl) (by omega) ?_
  refine z_aload_n dX6_init_4 rfl ?_
  refine z_bipush (v := nI 6) dX6_init_5 rfl ?_
  refine i_newa (k := 2) (q := 12) (N := 6) (n := 53) dX6_init_7 (by decide) (by decide) ((va_up_ne _ _ (by decide)).trans ((hE 53 (by decide)).trans (EI_a rfl (by decide)))) ?_
  refine i_putF dX6_init_9 lp_X6_9 rfl (by decide) (by decide) (fun _ _ => ⟨rfl, rfl⟩) (by decide) ?_
  refine z_aload_n dX6_init_12 rfl ?_
  refine z_bipush (v := nI 6) dX6_init_13 rfl ?_
  refine i_newa (k := 1) (q := 6) (N := 6) (n := 54) dX6_init_15 (by decide) (by decide) ((va_up_ne _ _ (by decide)).trans ((hE 54 (by decide)).trans (EI_a rfl (by decide)))) ?_
  refine i_putF dX6_init_17 lp_X6_15 rfl (by decide) (by decide) (fun _ _ => ⟨rfl, rfl⟩) (by decide) ?_
  refine z_aload_n dX6_init_20 rfl ?_
  refine z_bipush (v := nI 6) dX6_init_21 rfl ?_
  refine i_newa (k := 0) (q := 0) (N := 6) (n := 55) dX6_init_23 (by decide) (by decide) ((va_up_ne _ _ (by decide)).trans ((hE 55 (by decide)).trans (EI_a rfl (by decide)))) ?_
  refine i_putF dX6_init_25 lp_X6_18 rfl (by decide) (by decide) (fun _ _ => ⟨rfl, rfl⟩) (by decide) ?_
  exact i_ret dX6_init_28 rfl rfl (congrArg (va_up h 52) rfl)
set_option maxRecDepth 8000 in
theorem n_X2 {X : zX} {h : zH} (hE : ∀ a, 56 < a → h a = EI a) (d : Nat) : zJ X M_X2_init (d + 1) 2 8 0 [.ref 56] [] 57 (va_up h 56 (.inr (2, [.null, .null]))) (zno 59 (va_up h 56 (EI 56))) := by
  refine z_aload_n dX2_init_0 rfl ?_
  refine z_objInit dX2_init_1 lm_X2_3 im_objinit co_objinit (Nat.le_of_ble_eq_true rfl) (by omega) ?_
  refine z_aload_n dX2_init_4 rfl ?_
  refine z_iconst (v := nI 4) dX2_init_5 rfl ?_
  refine i_newa (k := 1) (q := 4) (N := 4) (n := 57) dX2_init_6 (by decide) (by decide) ((va_up_ne _ _ (by decide)).trans ((hE 57 (by decide)).trans (EI_a rfl (by decide)))) ?_
  refine i_putF dX2_init_8 lp_X2_9 rfl (by decide) (by decide) (fun _ _ => ⟨rfl, rfl⟩) (by decide) ?_
  refine z_aload_n dX2_init_11 rfl ?_
  refine z_iconst (v := nI 4) dX2_init_12 rfl ?_
  refine i_newa (k := 0) (q := 0) (N := 4) (n := 58) dX2_init_13 (by decide) (by decide) ((va_up_ne _ _ (by decide)).trans ((hE 58 (by decide)).trans (EI_a rfl (by decide)))) ?_
  refine i_putF dX2_init_15 lp_X2_15 rfl (by decide) (by decide) (fun _ _ => ⟨rfl, rfl⟩) (by decide) ?_
  exact i_ret dX2_init_18 rfl rfl (congrArg (va_up h 56) rfl)
set_option maxRecDepth 8000 in
theorem n_X2b {X : zX} {h : zH} (hE : ∀ a, 59 < a → h a = EI a) (d : Nat) : zJ X M_X2_init (d + 1) 2 8 0 [.ref 59] [] 60 (va_up h 59 (.inr (2, [.null, .null]))) (zno 62 (va_up h 59 (EI 59))) := by
  refine z_aload_n dX2_init_0 rfl ?_
  refine z_objInit dX2_init_1 lm_X2_3 im_objinit co_objinit (Nat.le_of_ble_eq_true rfl) (by omega) ?_
  refine z_aload_n dX2_init_4 rfl ?_
  refine z_iconst (v := nI 4) dX2_init_5 rfl ?_
  refine i_newa (k := 1) (q := 4) (N := 4) (n := 60) dX2_init_6 (by decide) (by decide) ((va_up_ne _ _ (by decide)).trans ((hE 60 (by decide)).trans (EI_a rfl (by decide)))) ?_
  refine i_putF dX2_init_8 lp_X2_9 rfl (by decide) (by decide) (fun _ _ => ⟨rfl, rfl⟩) (by decide) ?_
  refine z_aload_n dX2_init_11 rfl ?_
  refine z_iconst (v := nI 4) dX2_init_12 rfl ?_
  refine i_newa (k := 0) (q := 0) (N := 4) (n := 61) dX2_init_13 (by decide) (by decide) ((va_up_ne _ _ (by decide)).trans ((hE 61 (by decide)).trans (EI_a rfl (by decide)))) ?_
  refine i_putF dX2_init_15 lp_X2_15 rfl (by decide) (by decide) (fun _ _ => ⟨rfl, rfl⟩) (by decide) ?_
  exact i_ret dX2_init_18 rfl rfl (congrArg (va_up h 59) rfl)
theorem n_X4 {X : zX} {h : zH} {a : Nat} (ha : sAt a) (ha2 : a < 86 ∧ a ≠ 66) (hE : ∀ b, a < b → h b = EI b) (d : Nat) : zJ X M_X4_init (d + 1) 1 5 0 [.ref a, .ref 3] [] (a + 1) (va_up h a (.inr (4, [.null, .null, .int 0]))) (zno (a + 2) (va_up h a (EI a))) := by
  have h10 := sAt_big ha
  have e0 : EI a = .inr (4, [.ref 3, .ref (a + 1), .int 0]) := by
    unfold EI; rw [zEE_obj ha.1]
    show Sum.inr (4, [Value.ref 3, Value.ref (a + 3 - 2), Value.int (muI a 2)]) = _
    rw [muI_0 (by omega), show a + 3 - 2 = a + 1 by omega]
  have e1 : EI (a + 1) = .inl (0, 5, .inl (fun _ => 0)) := EI_a ha.2 (by have := zk_lt ha.2 (by omega); refine ⟨by omega, by omega, by omega, by omega, fun e => ?_⟩; have h2 := ha.2; rw [e] at h2; exact absurd h2 (by decide))
  refine z_aload_n dX4_init_0 rfl ?_
  refine z_objInit dX4_init_1 lm_X4_3 im_objinit co_objinit (Nat.le_of_ble_eq_true rfl) (by omega) ?_
  refine z_aload_n dX4_init_4 rfl ?_
  refine z_iconst (v := nI 5) dX4_init_5 rfl ?_
  refine i_newa (k := 0) (q := 0) dX4_init_6 (by decide) (by omega) ((va_up_ne _ _ (by omega)).trans ((hE (a + 1) (by omega)).trans e1)) ?_
  refine i_putF dX4_init_8 lp_X4_9 rfl (by omega) (by omega) (fun _ _ => ⟨rfl, rfl⟩) (by decide) ?_
  refine z_aload_n dX4_init_11 rfl ?_
  refine z_aload_n dX4_init_12 rfl ?_
  refine i_putF dX4_init_13 lp_X4_15 rfl (by omega) (by omega) (fun _ _ => ⟨rfl, rfl⟩) (by simp) ?_
  exact i_ret dX4_init_16 rfl rfl (by rw [e0]; rfl)
