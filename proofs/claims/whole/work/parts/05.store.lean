/-- fewer locals known -/
def zsub : List Value → List Value → Prop
  | [], [] => True
  | a :: L, b :: L' => (a = zu ∨ a = b) ∧ zsub L L'
  | _, _ => False
theorem zsub_len : ∀ {L L' : List Value}, zsub L L' → L.length = L'.length
  | [], [], _ => rfl
  | _ :: _, _ :: _, h => congrArg (· + 1) (zsub_len h.2)
  | [], _ :: _, h => h.elim
  | _ :: _, [], h => h.elim
theorem zsub_at : ∀ {L L' : List Value}, zsub L L' → ∀ (i : Nat) (v : Value), L[i]? = some v → v ≠ zu → L'[i]? = some v
  | a :: L, b :: L', h, 0, v, e, hv => by
    simp only [List.getElem?_cons_zero, Option.some.injEq] at e ⊢
    rcases h.1 with h1 | h1
    · exact absurd (e.symm.trans h1) hv
    · exact h1 ▸ e
  | a :: L, b :: L', h, i + 1, v, e, hv => by
    simp only [List.getElem?_cons_succ] at e ⊢
    exact zsub_at h.2 i v e hv
  | [], _, _, i, v, e, _ => by simp at e
  | _ :: _, [], h, _, _, _, _ => h.elim
theorem z_sub {X : zX} {M : zM} {d k q pc : Nat} {L L' S : List Value} {n : Nat} {h : zH} {Q : zQ} (kk : zJ X M d k q pc L S n h Q) (hs : zsub L L') : zJ X M d k q pc L' S n h Q := by
  intro D cy b0 cs l p e R s m args below meth c Qw H locs cells slots ls mc ms hF hS hL h1 h2 h3 h4 hf
  exact kk D cy b0 cs l p e R s m args below meth c Qw H locs cells slots ls mc ms hF hS ⟨(zsub_len hs).trans hL.1, hL.2.1, hL.2.2.1, fun i v e hv => hL.2.2.2 i v (zsub_at hs i v e hv) hv⟩ h1 h2 h3 h4 hf
theorem z_post {X : zX} {M : zM} {d k q pc : Nat} {L S : List Value} {n : Nat} {h : zH} {Q Q' : zQ} (kk : zJ X M d k q pc L S n h Q) (hq : ∀ r n' h', Q r n' h' → Q' r n' h') : zJ X M d k q pc L S n h Q' := by
  intro D cy b0 cs l p e R s m args below meth c Qw H locs cells slots ls mc ms hF hS hL h1 h2 h3 h4 hf
  exact kk D cy b0 cs l p e R s m args below meth c Qw H locs cells slots ls mc ms hF hS hL h1 h2 h3 h4 (fun r n' h' H' locs' slots' pc' ls' hq' => hf r n' h' H' locs' slots' pc' ls' (hq r n' h' hq'))
theorem z_depth {X : zX} {M : zM} {d d' k q pc : Nat} {L S : List Value} {n : Nat} {h : zH} {Q : zQ} (kk : zJ X M d k q pc L S n h Q) (hd : d ≤ d') : zJ X M d' k q pc L S n h Q := by
  intro D cy b0 cs l p e R s m args below meth c Qw H locs cells slots ls mc ms hF hS hL h1 h2 h3 h4 hf
  obtain ⟨f1, f2, f3, f4, f5, f6, f7, f8, f9, f10, f11⟩ := hF
  exact kk D cy b0 cs l p e R s m args below meth c Qw H locs cells slots ls mc ms ⟨f1, f2, f3, f4, f5, f6, f7, f8, f9, Nat.le_trans hd f10, Nat.le_trans (Nat.mul_le_mul_left 64 hd) f11⟩ hS hL h1 h2 h3 h4 hf
def zasc (b0 : Nat) (cs : Nat → Nat) (L : List Value) : List (Nat × Value) := (L.zipIdx.filter (fun q => decide (q.1 ≠ zu))).map (fun q => (q.2, ztr b0 cs q.1))
theorem zasc_mem {b0 : Nat} {cs : Nat → Nat} {L : List Value} {i : Nat} {v : Value} (h : L[i]? = some v) (hv : v ≠ zu) : (i, ztr b0 cs v) ∈ zasc b0 cs L :=
  List.mem_map.mpr ⟨(v, i), List.mem_filter.mpr ⟨List.mem_zipIdx_iff_getElem?.mpr h, decide_eq_true hv⟩, rfl⟩
theorem zL.has {b0 : Nat} {cs : Nat → Nat} {ls : Array Slot} {nL : Nat} {L : List Value} (hL : zL b0 cs ls nL L) : lv_has ls nL (zasc b0 cs L) := by
  refine ⟨hL.2.1, hL.2.2.1, fun q hq => ?_⟩
  obtain ⟨⟨v, i⟩, hm, rfl⟩ := List.mem_map.mp hq
  obtain ⟨h1, h2⟩ := List.mem_filter.mp hm
  exact hL.2.2.2 i v (List.mem_zipIdx_iff_getElem?.mp h1) (of_decide_eq_true h2)
theorem zL.st1 {b0 : Nat} {cs : Nat → Nat} {ls ls' : Array Slot} {nL i : Nat} {L : List Value} {v : Value} (hL : zL b0 cs ls nL L) (hi : i < L.length) (hk : ∀ j w, j + 1 = i → L[j]? = some w → w.category = 1)
    (h' : lv_has ls' nL ((i, ztr b0 cs v) :: (zasc b0 cs L).filter (fun q => !(q.1 == i) && !(q.1 + 1 == i && q.2.category == 2)))) : zL b0 cs ls' nL (L.set i v) := by
  refine ⟨by rw [List.length_set]; exact hL.1, h'.1, h'.2.1, fun j w hj hw => ?_⟩
  by_cases hji : j = i
  · subst hji
    rw [List.getElem?_set_self hi] at hj
    cases hj
    exact h'.2.2 _ List.mem_cons_self
  · rw [List.getElem?_set_ne (Ne.symm hji)] at hj
    refine h'.2.2 (j, ztr b0 cs w) (List.mem_cons_of_mem _ (List.mem_filter.mpr ⟨zasc_mem hj hw, ?_⟩))
    by_cases hj1 : j + 1 = i
    · have := hk j w hj1 hj
      simp [hji, ztr_cat, this]
    · simp [hji, hj1]
theorem zL.st2 {b0 : Nat} {cs : Nat → Nat} {ls ls' : Array Slot} {nL i : Nat} {L : List Value} {v : Value} (hL : zL b0 cs ls nL L) (hi : i + 1 < L.length) (hk : ∀ j w, j + 1 = i → L[j]? = some w → w.category = 1)
    (h' : lv_has ls' nL ((i, ztr b0 cs v) :: (zasc b0 cs L).filter (fun q => !(q.1 == i) && (!(q.1 == i + 1) && !(q.1 + 1 == i && q.2.category == 2))))) : zL b0 cs ls' nL ((L.set i v).set (i + 1) zu) := by
  refine ⟨by rw [List.length_set, List.length_set]; exact hL.1, h'.1, h'.2.1, fun j w hj hw => ?_⟩
  by_cases hj2 : j = i + 1
  · subst hj2
    rw [List.getElem?_set_self (by rw [List.length_set]; exact hi)] at hj
    cases hj
    exact absurd rfl hw
  rw [List.getElem?_set_ne (Ne.symm hj2)] at hj
  by_cases hji : j = i
  · subst hji
    rw [List.getElem?_set_self (by omega)] at hj
    cases hj
    exact h'.2.2 _ List.mem_cons_self
  · rw [List.getElem?_set_ne (Ne.symm hji)] at hj
    refine h'.2.2 (j, ztr b0 cs w) (List.mem_cons_of_mem _ (List.mem_filter.mpr ⟨zasc_mem hj hw, ?_⟩))
    by_cases hj1 : j + 1 = i
    · have := hk j w hj1 hj
      simp [hji, hj2, ztr_cat, this]
    · simp [hji, hj1, hj2]
theorem z_istore0 {X : zX} {M : zM} {d k q pc : Nat} {L S : List Value} {n : Nat} {h : zH} {Q : zQ} {x : Value} {v : Int32} (hd : decode M.2.1 pc = .ok (.istore_n 0, 1)) (kk : zJ X M d k q (pc + 1) (.int v :: L) S n h Q) : zJ X M d k q pc (x :: L) (.int v :: S) n h Q := by
  intro D cy b0 cs l p e R s m args below meth c Qw H locs cells slots ls mc ms hF hS hL h1 h2 h3 h4 hf
  refine lv_istore_n hF.1 hF.2.1 hd rfl hL.has (show 0 < M.2.2.1 by rw [← hL.1]; simp) rfl (fun ls1 hl => ?_)
  have hk0 : ∀ (j : Nat) (w : Value), j + 1 = 0 → (x :: L)[j]? = some w → w.category = 1 := fun j w e _ => by omega
  have hL1 := hL.st1 (i := 0) (v := .int v) (by simp) hk0 hl
  exact kk D cy b0 cs l p e R s m args below meth c Qw H locs cells slots ls1 mc ms hF hS hL1 h1 h2 h3 h4 hf
theorem z_istore1 {X : zX} {M : zM} {d k q pc : Nat} {L S : List Value} {n : Nat} {h : zH} {Q : zQ} {x0 x : Value} {v : Int32} (hd : decode M.2.1 pc = .ok (.istore_n 1, 1)) (hc : x0.category = 1) (kk : zJ X M d k q (pc + 1) (x0 :: .int v :: L) S n h Q) : zJ X M d k q pc (x0 :: x :: L) (.int v :: S) n h Q := by
  intro D cy b0 cs l p e R s m args below meth c Qw H locs cells slots ls mc ms hF hS hL h1 h2 h3 h4 hf
  refine lv_istore_n hF.1 hF.2.1 hd rfl hL.has (show 1 < M.2.2.1 by rw [← hL.1]; simp) rfl (fun ls1 hl => ?_)
  have hk0 : ∀ (j : Nat) (w : Value), j + 1 = 1 → (x0 :: x :: L)[j]? = some w → w.category = 1 := by
    intro j w e1 e2
    obtain rfl : j = 0 := by omega
    cases e2
    exact hc
  have hL1 := hL.st1 (i := 1) (v := .int v) (by simp) hk0 hl
  exact kk D cy b0 cs l p e R s m args below meth c Qw H locs cells slots ls1 mc ms hF hS hL1 h1 h2 h3 h4 hf
theorem z_istore2 {X : zX} {M : zM} {d k q pc : Nat} {L S : List Value} {n : Nat} {h : zH} {Q : zQ} {x0 x1 x : Value} {v : Int32} (hd : decode M.2.1 pc = .ok (.istore_n 2, 1)) (hc : x1.category = 1) (kk : zJ X M d k q (pc + 1) (x0 :: x1 :: .int v :: L) S n h Q) : zJ X M d k q pc (x0 :: x1 :: x :: L) (.int v :: S) n h Q := by
  intro D cy b0 cs l p e R s m args below meth c Qw H locs cells slots ls mc ms hF hS hL h1 h2 h3 h4 hf
  refine lv_istore_n hF.1 hF.2.1 hd rfl hL.has (show 2 < M.2.2.1 by rw [← hL.1]; simp) rfl (fun ls1 hl => ?_)
  have hk0 : ∀ (j : Nat) (w : Value), j + 1 = 2 → (x0 :: x1 :: x :: L)[j]? = some w → w.category = 1 := by
    intro j w e1 e2
    obtain rfl : j = 1 := by omega
    cases e2
    exact hc
  have hL1 := hL.st1 (i := 2) (v := .int v) (by simp) hk0 hl
  exact kk D cy b0 cs l p e R s m args below meth c Qw H locs cells slots ls1 mc ms hF hS hL1 h1 h2 h3 h4 hf
theorem z_istore3 {X : zX} {M : zM} {d k q pc : Nat} {L S : List Value} {n : Nat} {h : zH} {Q : zQ} {x0 x1 x2 x : Value} {v : Int32} (hd : decode M.2.1 pc = .ok (.istore_n 3, 1)) (hc : x2.category = 1) (kk : zJ X M d k q (pc + 1) (x0 :: x1 :: x2 :: .int v :: L) S n h Q) : zJ X M d k q pc (x0 :: x1 :: x2 :: x :: L) (.int v :: S) n h Q := by
  intro D cy b0 cs l p e R s m args below meth c Qw H locs cells slots ls mc ms hF hS hL h1 h2 h3 h4 hf
  refine lv_istore_n hF.1 hF.2.1 hd rfl hL.has (show 3 < M.2.2.1 by rw [← hL.1]; simp) rfl (fun ls1 hl => ?_)
  have hk0 : ∀ (j : Nat) (w : Value), j + 1 = 3 → (x0 :: x1 :: x2 :: x :: L)[j]? = some w → w.category = 1 := by
    intro j w e1 e2
    obtain rfl : j = 2 := by omega
    cases e2
    exact hc
  have hL1 := hL.st1 (i := 3) (v := .int v) (by simp) hk0 hl
  exact kk D cy b0 cs l p e R s m args below meth c Qw H locs cells slots ls1 mc ms hF hS hL1 h1 h2 h3 h4 hf
theorem z_istore4 {X : zX} {M : zM} {d k q pc : Nat} {L S : List Value} {n : Nat} {h : zH} {Q : zQ} {x0 x1 x2 x3 x : Value} {v : Int32} (hd : decode M.2.1 pc = .ok (.istore 4, 2)) (hc : x3.category = 1) (kk : zJ X M d k q (pc + 2) (x0 :: x1 :: x2 :: x3 :: .int v :: L) S n h Q) : zJ X M d k q pc (x0 :: x1 :: x2 :: x3 :: x :: L) (.int v :: S) n h Q := by
  intro D cy b0 cs l p e R s m args below meth c Qw H locs cells slots ls mc ms hF hS hL h1 h2 h3 h4 hf
  refine lv_istore hF.1 hF.2.1 hd hL.has (show 4 < M.2.2.1 by rw [← hL.1]; simp) rfl (fun ls1 hl => ?_)
  have hk0 : ∀ (j : Nat) (w : Value), j + 1 = 4 → (x0 :: x1 :: x2 :: x3 :: x :: L)[j]? = some w → w.category = 1 := by
    intro j w e1 e2
    obtain rfl : j = 3 := by omega
    cases e2
    exact hc
  have hL1 := hL.st1 (i := 4) (v := .int v) (by simp) hk0 hl
  exact kk D cy b0 cs l p e R s m args below meth c Qw H locs cells slots ls1 mc ms hF hS hL1 h1 h2 h3 h4 hf
theorem z_istore5 {X : zX} {M : zM} {d k q pc : Nat} {L S : List Value} {n : Nat} {h : zH} {Q : zQ} {x0 x1 x2 x3 x4 x : Value} {v : Int32} (hd : decode M.2.1 pc = .ok (.istore 5, 2)) (hc : x4.category = 1) (kk : zJ X M d k q (pc + 2) (x0 :: x1 :: x2 :: x3 :: x4 :: .int v :: L) S n h Q) : zJ X M d k q pc (x0 :: x1 :: x2 :: x3 :: x4 :: x :: L) (.int v :: S) n h Q := by
  intro D cy b0 cs l p e R s m args below meth c Qw H locs cells slots ls mc ms hF hS hL h1 h2 h3 h4 hf
  refine lv_istore hF.1 hF.2.1 hd hL.has (show 5 < M.2.2.1 by rw [← hL.1]; simp) rfl (fun ls1 hl => ?_)
  have hk0 : ∀ (j : Nat) (w : Value), j + 1 = 5 → (x0 :: x1 :: x2 :: x3 :: x4 :: x :: L)[j]? = some w → w.category = 1 := by
    intro j w e1 e2
    obtain rfl : j = 4 := by omega
    cases e2
    exact hc
  have hL1 := hL.st1 (i := 5) (v := .int v) (by simp) hk0 hl
  exact kk D cy b0 cs l p e R s m args below meth c Qw H locs cells slots ls1 mc ms hF hS hL1 h1 h2 h3 h4 hf
theorem z_istore6 {X : zX} {M : zM} {d k q pc : Nat} {L S : List Value} {n : Nat} {h : zH} {Q : zQ} {x0 x1 x2 x3 x4 x5 x : Value} {v : Int32} (hd : decode M.2.1 pc = .ok (.istore 6, 2)) (hc : x5.category = 1) (kk : zJ X M d k q (pc + 2) (x0 :: x1 :: x2 :: x3 :: x4 :: x5 :: .int v :: L) S n h Q) : zJ X M d k q pc (x0 :: x1 :: x2 :: x3 :: x4 :: x5 :: x :: L) (.int v :: S) n h Q := by
  intro D cy b0 cs l p e R s m args below meth c Qw H locs cells slots ls mc ms hF hS hL h1 h2 h3 h4 hf
  refine lv_istore hF.1 hF.2.1 hd hL.has (show 6 < M.2.2.1 by rw [← hL.1]; simp) rfl (fun ls1 hl => ?_)
  have hk0 : ∀ (j : Nat) (w : Value), j + 1 = 6 → (x0 :: x1 :: x2 :: x3 :: x4 :: x5 :: x :: L)[j]? = some w → w.category = 1 := by
    intro j w e1 e2
    obtain rfl : j = 5 := by omega
    cases e2
    exact hc
  have hL1 := hL.st1 (i := 6) (v := .int v) (by simp) hk0 hl
  exact kk D cy b0 cs l p e R s m args below meth c Qw H locs cells slots ls1 mc ms hF hS hL1 h1 h2 h3 h4 hf
theorem z_istore7 {X : zX} {M : zM} {d k q pc : Nat} {L S : List Value} {n : Nat} {h : zH} {Q : zQ} {x0 x1 x2 x3 x4 x5 x6 x : Value} {v : Int32} (hd : decode M.2.1 pc = .ok (.istore 7, 2)) (hc : x6.category = 1) (kk : zJ X M d k q (pc + 2) (x0 :: x1 :: x2 :: x3 :: x4 :: x5 :: x6 :: .int v :: L) S n h Q) : zJ X M d k q pc (x0 :: x1 :: x2 :: x3 :: x4 :: x5 :: x6 :: x :: L) (.int v :: S) n h Q := by
  intro D cy b0 cs l p e R s m args below meth c Qw H locs cells slots ls mc ms hF hS hL h1 h2 h3 h4 hf
  refine lv_istore hF.1 hF.2.1 hd hL.has (show 7 < M.2.2.1 by rw [← hL.1]; simp) rfl (fun ls1 hl => ?_)
  have hk0 : ∀ (j : Nat) (w : Value), j + 1 = 7 → (x0 :: x1 :: x2 :: x3 :: x4 :: x5 :: x6 :: x :: L)[j]? = some w → w.category = 1 := by
    intro j w e1 e2
    obtain rfl : j = 6 := by omega
    cases e2
    exact hc
  have hL1 := hL.st1 (i := 7) (v := .int v) (by simp) hk0 hl
  exact kk D cy b0 cs l p e R s m args below meth c Qw H locs cells slots ls1 mc ms hF hS hL1 h1 h2 h3 h4 hf
theorem z_istore8 {X : zX} {M : zM} {d k q pc : Nat} {L S : List Value} {n : Nat} {h : zH} {Q : zQ} {x0 x1 x2 x3 x4 x5 x6 x7 x : Value} {v : Int32} (hd : decode M.2.1 pc = .ok (.istore 8, 2)) (hc : x7.category = 1) (kk : zJ X M d k q (pc + 2) (x0 :: x1 :: x2 :: x3 :: x4 :: x5 :: x6 :: x7 :: .int v :: L) S n h Q) : zJ X M d k q pc (x0 :: x1 :: x2 :: x3 :: x4 :: x5 :: x6 :: x7 :: x :: L) (.int v :: S) n h Q := by
  intro D cy b0 cs l p e R s m args below meth c Qw H locs cells slots ls mc ms hF hS hL h1 h2 h3 h4 hf
  refine lv_istore hF.1 hF.2.1 hd hL.has (show 8 < M.2.2.1 by rw [← hL.1]; simp) rfl (fun ls1 hl => ?_)
  have hk0 : ∀ (j : Nat) (w : Value), j + 1 = 8 → (x0 :: x1 :: x2 :: x3 :: x4 :: x5 :: x6 :: x7 :: x :: L)[j]? = some w → w.category = 1 := by
    intro j w e1 e2
    obtain rfl : j = 7 := by omega
    cases e2
    exact hc
  have hL1 := hL.st1 (i := 8) (v := .int v) (by simp) hk0 hl
  exact kk D cy b0 cs l p e R s m args below meth c Qw H locs cells slots ls1 mc ms hF hS hL1 h1 h2 h3 h4 hf
theorem z_istore9 {X : zX} {M : zM} {d k q pc : Nat} {L S : List Value} {n : Nat} {h : zH} {Q : zQ} {x0 x1 x2 x3 x4 x5 x6 x7 x8 x : Value} {v : Int32} (hd : decode M.2.1 pc = .ok (.istore 9, 2)) (hc : x8.category = 1) (kk : zJ X M d k q (pc + 2) (x0 :: x1 :: x2 :: x3 :: x4 :: x5 :: x6 :: x7 :: x8 :: .int v :: L) S n h Q) : zJ X M d k q pc (x0 :: x1 :: x2 :: x3 :: x4 :: x5 :: x6 :: x7 :: x8 :: x :: L) (.int v :: S) n h Q := by
  intro D cy b0 cs l p e R s m args below meth c Qw H locs cells slots ls mc ms hF hS hL h1 h2 h3 h4 hf
  refine lv_istore hF.1 hF.2.1 hd hL.has (show 9 < M.2.2.1 by rw [← hL.1]; simp) rfl (fun ls1 hl => ?_)
  have hk0 : ∀ (j : Nat) (w : Value), j + 1 = 9 → (x0 :: x1 :: x2 :: x3 :: x4 :: x5 :: x6 :: x7 :: x8 :: x :: L)[j]? = some w → w.category = 1 := by
    intro j w e1 e2
    obtain rfl : j = 8 := by omega
    cases e2
    exact hc
  have hL1 := hL.st1 (i := 9) (v := .int v) (by simp) hk0 hl
  exact kk D cy b0 cs l p e R s m args below meth c Qw H locs cells slots ls1 mc ms hF hS hL1 h1 h2 h3 h4 hf
theorem z_istore10 {X : zX} {M : zM} {d k q pc : Nat} {L S : List Value} {n : Nat} {h : zH} {Q : zQ} {x0 x1 x2 x3 x4 x5 x6 x7 x8 x9 x : Value} {v : Int32} (hd : decode M.2.1 pc = .ok (.istore 10, 2)) (hc : x9.category = 1) (kk : zJ X M d k q (pc + 2) (x0 :: x1 :: x2 :: x3 :: x4 :: x5 :: x6 :: x7 :: x8 :: x9 :: .int v :: L) S n h Q) : zJ X M d k q pc (x0 :: x1 :: x2 :: x3 :: x4 :: x5 :: x6 :: x7 :: x8 :: x9 :: x :: L) (.int v :: S) n h Q := by
  intro D cy b0 cs l p e R s m args below meth c Qw H locs cells slots ls mc ms hF hS hL h1 h2 h3 h4 hf
  refine lv_istore hF.1 hF.2.1 hd hL.has (show 10 < M.2.2.1 by rw [← hL.1]; simp) rfl (fun ls1 hl => ?_)
  have hk0 : ∀ (j : Nat) (w : Value), j + 1 = 10 → (x0 :: x1 :: x2 :: x3 :: x4 :: x5 :: x6 :: x7 :: x8 :: x9 :: x :: L)[j]? = some w → w.category = 1 := by
    intro j w e1 e2
    obtain rfl : j = 9 := by omega
    cases e2
    exact hc
  have hL1 := hL.st1 (i := 10) (v := .int v) (by simp) hk0 hl
  exact kk D cy b0 cs l p e R s m args below meth c Qw H locs cells slots ls1 mc ms hF hS hL1 h1 h2 h3 h4 hf
theorem z_istore11 {X : zX} {M : zM} {d k q pc : Nat} {L S : List Value} {n : Nat} {h : zH} {Q : zQ} {x0 x1 x2 x3 x4 x5 x6 x7 x8 x9 x10 x : Value} {v : Int32} (hd : decode M.2.1 pc = .ok (.istore 11, 2)) (hc : x10.category = 1) (kk : zJ X M d k q (pc + 2) (x0 :: x1 :: x2 :: x3 :: x4 :: x5 :: x6 :: x7 :: x8 :: x9 :: x10 :: .int v :: L) S n h Q) : zJ X M d k q pc (x0 :: x1 :: x2 :: x3 :: x4 :: x5 :: x6 :: x7 :: x8 :: x9 :: x10 :: x :: L) (.int v :: S) n h Q := by
  intro D cy b0 cs l p e R s m args below meth c Qw H locs cells slots ls mc ms hF hS hL h1 h2 h3 h4 hf
  refine lv_istore hF.1 hF.2.1 hd hL.has (show 11 < M.2.2.1 by rw [← hL.1]; simp) rfl (fun ls1 hl => ?_)
  have hk0 : ∀ (j : Nat) (w : Value), j + 1 = 11 → (x0 :: x1 :: x2 :: x3 :: x4 :: x5 :: x6 :: x7 :: x8 :: x9 :: x10 :: x :: L)[j]? = some w → w.category = 1 := by
    intro j w e1 e2
    obtain rfl : j = 10 := by omega
    cases e2
    exact hc
  have hL1 := hL.st1 (i := 11) (v := .int v) (by simp) hk0 hl
  exact kk D cy b0 cs l p e R s m args below meth c Qw H locs cells slots ls1 mc ms hF hS hL1 h1 h2 h3 h4 hf
theorem z_astore0 {X : zX} {M : zM} {d k q pc : Nat} {L S : List Value} {n : Nat} {h : zH} {Q : zQ} {x : Value} {v : Nat} (hd : decode M.2.1 pc = .ok (.astore_n 0, 1)) (kk : zJ X M d k q (pc + 1) (.ref v :: L) S n h Q) : zJ X M d k q pc (x :: L) (.ref v :: S) n h Q := by
  intro D cy b0 cs l p e R s m args below meth c Qw H locs cells slots ls mc ms hF hS hL h1 h2 h3 h4 hf
  refine lv_astore_n hF.1 hF.2.1 hd rfl hL.has (show 0 < M.2.2.1 by rw [← hL.1]; simp) rfl (fun ls1 hl => ?_)
  have hk0 : ∀ (j : Nat) (w : Value), j + 1 = 0 → (x :: L)[j]? = some w → w.category = 1 := fun j w e _ => by omega
  have hL1 := hL.st1 (i := 0) (v := .ref v) (by simp) hk0 hl
  exact kk D cy b0 cs l p e R s m args below meth c Qw H locs cells slots ls1 mc ms hF hS hL1 h1 h2 h3 h4 hf
theorem z_astore1 {X : zX} {M : zM} {d k q pc : Nat} {L S : List Value} {n : Nat} {h : zH} {Q : zQ} {x0 x : Value} {v : Nat} (hd : decode M.2.1 pc = .ok (.astore_n 1, 1)) (hc : x0.category = 1) (kk : zJ X M d k q (pc + 1) (x0 :: .ref v :: L) S n h Q) : zJ X M d k q pc (x0 :: x :: L) (.ref v :: S) n h Q := by
  intro D cy b0 cs l p e R s m args below meth c Qw H locs cells slots ls mc ms hF hS hL h1 h2 h3 h4 hf
  refine lv_astore_n hF.1 hF.2.1 hd rfl hL.has (show 1 < M.2.2.1 by rw [← hL.1]; simp) rfl (fun ls1 hl => ?_)
  have hk0 : ∀ (j : Nat) (w : Value), j + 1 = 1 → (x0 :: x :: L)[j]? = some w → w.category = 1 := by
    intro j w e1 e2
    obtain rfl : j = 0 := by omega
    cases e2
    exact hc
  have hL1 := hL.st1 (i := 1) (v := .ref v) (by simp) hk0 hl
  exact kk D cy b0 cs l p e R s m args below meth c Qw H locs cells slots ls1 mc ms hF hS hL1 h1 h2 h3 h4 hf
theorem z_astore2 {X : zX} {M : zM} {d k q pc : Nat} {L S : List Value} {n : Nat} {h : zH} {Q : zQ} {x0 x1 x : Value} {v : Nat} (hd : decode M.2.1 pc = .ok (.astore_n 2, 1)) (hc : x1.category = 1) (kk : zJ X M d k q (pc + 1) (x0 :: x1 :: .ref v :: L) S n h Q) : zJ X M d k q pc (x0 :: x1 :: x :: L) (.ref v :: S) n h Q := by
  intro D cy b0 cs l p e R s m args below meth c Qw H locs cells slots ls mc ms hF hS hL h1 h2 h3 h4 hf
  refine lv_astore_n hF.1 hF.2.1 hd rfl hL.has (show 2 < M.2.2.1 by rw [← hL.1]; simp) rfl (fun ls1 hl => ?_)
  have hk0 : ∀ (j : Nat) (w : Value), j + 1 = 2 → (x0 :: x1 :: x :: L)[j]? = some w → w.category = 1 := by
    intro j w e1 e2
    obtain rfl : j = 1 := by omega
    cases e2
    exact hc
  have hL1 := hL.st1 (i := 2) (v := .ref v) (by simp) hk0 hl
  exact kk D cy b0 cs l p e R s m args below meth c Qw H locs cells slots ls1 mc ms hF hS hL1 h1 h2 h3 h4 hf
theorem z_astore3 {X : zX} {M : zM} {d k q pc : Nat} {L S : List Value} {n : Nat} {h : zH} {Q : zQ} {x0 x1 x2 x : Value} {v : Nat} (hd : decode M.2.1 pc = .ok (.astore_n 3, 1)) (hc : x2.category = 1) (kk : zJ X M d k q (pc + 1) (x0 :: x1 :: x2 :: .ref v :: L) S n h Q) : zJ X M d k q pc (x0 :: x1 :: x2 :: x :: L) (.ref v :: S) n h Q := by
  intro D cy b0 cs l p e R s m args below meth c Qw H locs cells slots ls mc ms hF hS hL h1 h2 h3 h4 hf
  refine lv_astore_n hF.1 hF.2.1 hd rfl hL.has (show 3 < M.2.2.1 by rw [← hL.1]; simp) rfl (fun ls1 hl => ?_)
  have hk0 : ∀ (j : Nat) (w : Value), j + 1 = 3 → (x0 :: x1 :: x2 :: x :: L)[j]? = some w → w.category = 1 := by
    intro j w e1 e2
    obtain rfl : j = 2 := by omega
    cases e2
    exact hc
  have hL1 := hL.st1 (i := 3) (v := .ref v) (by simp) hk0 hl
  exact kk D cy b0 cs l p e R s m args below meth c Qw H locs cells slots ls1 mc ms hF hS hL1 h1 h2 h3 h4 hf
theorem z_astore4 {X : zX} {M : zM} {d k q pc : Nat} {L S : List Value} {n : Nat} {h : zH} {Q : zQ} {x0 x1 x2 x3 x : Value} {v : Nat} (hd : decode M.2.1 pc = .ok (.astore 4, 2)) (hc : x3.category = 1) (kk : zJ X M d k q (pc + 2) (x0 :: x1 :: x2 :: x3 :: .ref v :: L) S n h Q) : zJ X M d k q pc (x0 :: x1 :: x2 :: x3 :: x :: L) (.ref v :: S) n h Q := by
  intro D cy b0 cs l p e R s m args below meth c Qw H locs cells slots ls mc ms hF hS hL h1 h2 h3 h4 hf
  refine lv_astore hF.1 hF.2.1 hd hL.has (show 4 < M.2.2.1 by rw [← hL.1]; simp) rfl (fun ls1 hl => ?_)
  have hk0 : ∀ (j : Nat) (w : Value), j + 1 = 4 → (x0 :: x1 :: x2 :: x3 :: x :: L)[j]? = some w → w.category = 1 := by
    intro j w e1 e2
    obtain rfl : j = 3 := by omega
    cases e2
    exact hc
  have hL1 := hL.st1 (i := 4) (v := .ref v) (by simp) hk0 hl
  exact kk D cy b0 cs l p e R s m args below meth c Qw H locs cells slots ls1 mc ms hF hS hL1 h1 h2 h3 h4 hf
theorem z_lstore0 {X : zX} {M : zM} {d k q pc : Nat} {L S : List Value} {n : Nat} {h : zH} {Q : zQ} {x y : Value} {v : Int64} (hd : decode M.2.1 pc = .ok (.lstore_n 0, 1)) (kk : zJ X M d k q (pc + 1) (.long v :: zu :: L) S n h Q) : zJ X M d k q pc (x :: y :: L) (.long v :: S) n h Q := by
  intro D cy b0 cs l p e R s m args below meth c Qw H locs cells slots ls mc ms hF hS hL h1 h2 h3 h4 hf
  refine lv_lstore_n hF.1 hF.2.1 hd rfl hL.has (show 0 + 1 < M.2.2.1 by rw [← hL.1]; simp) rfl (fun ls1 hl => ?_)
  have hk0 : ∀ (j : Nat) (w : Value), j + 1 = 0 → (x :: y :: L)[j]? = some w → w.category = 1 := fun j w e _ => by omega
  have hL1 := hL.st2 (i := 0) (v := .long v) (by simp) hk0 hl
  exact kk D cy b0 cs l p e R s m args below meth c Qw H locs cells slots ls1 mc ms hF hS hL1 h1 h2 h3 h4 hf
theorem z_lstore1 {X : zX} {M : zM} {d k q pc : Nat} {L S : List Value} {n : Nat} {h : zH} {Q : zQ} {x0 x y : Value} {v : Int64} (hd : decode M.2.1 pc = .ok (.lstore_n 1, 1)) (hc : x0.category = 1) (kk : zJ X M d k q (pc + 1) (x0 :: .long v :: zu :: L) S n h Q) : zJ X M d k q pc (x0 :: x :: y :: L) (.long v :: S) n h Q := by
  intro D cy b0 cs l p e R s m args below meth c Qw H locs cells slots ls mc ms hF hS hL h1 h2 h3 h4 hf
  refine lv_lstore_n hF.1 hF.2.1 hd rfl hL.has (show 1 + 1 < M.2.2.1 by rw [← hL.1]; simp) rfl (fun ls1 hl => ?_)
  have hk0 : ∀ (j : Nat) (w : Value), j + 1 = 1 → (x0 :: x :: y :: L)[j]? = some w → w.category = 1 := by
    intro j w e1 e2
    obtain rfl : j = 0 := by omega
    cases e2
    exact hc
  have hL1 := hL.st2 (i := 1) (v := .long v) (by simp) hk0 hl
  exact kk D cy b0 cs l p e R s m args below meth c Qw H locs cells slots ls1 mc ms hF hS hL1 h1 h2 h3 h4 hf
theorem z_lstore2 {X : zX} {M : zM} {d k q pc : Nat} {L S : List Value} {n : Nat} {h : zH} {Q : zQ} {x0 x1 x y : Value} {v : Int64} (hd : decode M.2.1 pc = .ok (.lstore_n 2, 1)) (hc : x1.category = 1) (kk : zJ X M d k q (pc + 1) (x0 :: x1 :: .long v :: zu :: L) S n h Q) : zJ X M d k q pc (x0 :: x1 :: x :: y :: L) (.long v :: S) n h Q := by
  intro D cy b0 cs l p e R s m args below meth c Qw H locs cells slots ls mc ms hF hS hL h1 h2 h3 h4 hf
  refine lv_lstore_n hF.1 hF.2.1 hd rfl hL.has (show 2 + 1 < M.2.2.1 by rw [← hL.1]; simp) rfl (fun ls1 hl => ?_)
  have hk0 : ∀ (j : Nat) (w : Value), j + 1 = 2 → (x0 :: x1 :: x :: y :: L)[j]? = some w → w.category = 1 := by
    intro j w e1 e2
    obtain rfl : j = 1 := by omega
    cases e2
    exact hc
  have hL1 := hL.st2 (i := 2) (v := .long v) (by simp) hk0 hl
  exact kk D cy b0 cs l p e R s m args below meth c Qw H locs cells slots ls1 mc ms hF hS hL1 h1 h2 h3 h4 hf
theorem z_lstore3 {X : zX} {M : zM} {d k q pc : Nat} {L S : List Value} {n : Nat} {h : zH} {Q : zQ} {x0 x1 x2 x y : Value} {v : Int64} (hd : decode M.2.1 pc = .ok (.lstore_n 3, 1)) (hc : x2.category = 1) (kk : zJ X M d k q (pc + 1) (x0 :: x1 :: x2 :: .long v :: zu :: L) S n h Q) : zJ X M d k q pc (x0 :: x1 :: x2 :: x :: y :: L) (.long v :: S) n h Q := by
  intro D cy b0 cs l p e R s m args below meth c Qw H locs cells slots ls mc ms hF hS hL h1 h2 h3 h4 hf
  refine lv_lstore_n hF.1 hF.2.1 hd rfl hL.has (show 3 + 1 < M.2.2.1 by rw [← hL.1]; simp) rfl (fun ls1 hl => ?_)
  have hk0 : ∀ (j : Nat) (w : Value), j + 1 = 3 → (x0 :: x1 :: x2 :: x :: y :: L)[j]? = some w → w.category = 1 := by
    intro j w e1 e2
    obtain rfl : j = 2 := by omega
    cases e2
    exact hc
  have hL1 := hL.st2 (i := 3) (v := .long v) (by simp) hk0 hl
  exact kk D cy b0 cs l p e R s m args below meth c Qw H locs cells slots ls1 mc ms hF hS hL1 h1 h2 h3 h4 hf
theorem z_lstore4 {X : zX} {M : zM} {d k q pc : Nat} {L S : List Value} {n : Nat} {h : zH} {Q : zQ} {x0 x1 x2 x3 x y : Value} {v : Int64} (hd : decode M.2.1 pc = .ok (.lstore 4, 2)) (hc : x3.category = 1) (kk : zJ X M d k q (pc + 2) (x0 :: x1 :: x2 :: x3 :: .long v :: zu :: L) S n h Q) : zJ X M d k q pc (x0 :: x1 :: x2 :: x3 :: x :: y :: L) (.long v :: S) n h Q := by
  intro D cy b0 cs l p e R s m args below meth c Qw H locs cells slots ls mc ms hF hS hL h1 h2 h3 h4 hf
  refine lv_lstore hF.1 hF.2.1 hd hL.has (show 4 + 1 < M.2.2.1 by rw [← hL.1]; simp) rfl (fun ls1 hl => ?_)
  have hk0 : ∀ (j : Nat) (w : Value), j + 1 = 4 → (x0 :: x1 :: x2 :: x3 :: x :: y :: L)[j]? = some w → w.category = 1 := by
    intro j w e1 e2
    obtain rfl : j = 3 := by omega
    cases e2
    exact hc
  have hL1 := hL.st2 (i := 4) (v := .long v) (by simp) hk0 hl
  exact kk D cy b0 cs l p e R s m args below meth c Qw H locs cells slots ls1 mc ms hF hS hL1 h1 h2 h3 h4 hf
theorem z_lstore5 {X : zX} {M : zM} {d k q pc : Nat} {L S : List Value} {n : Nat} {h : zH} {Q : zQ} {x0 x1 x2 x3 x4 x y : Value} {v : Int64} (hd : decode M.2.1 pc = .ok (.lstore 5, 2)) (hc : x4.category = 1) (kk : zJ X M d k q (pc + 2) (x0 :: x1 :: x2 :: x3 :: x4 :: .long v :: zu :: L) S n h Q) : zJ X M d k q pc (x0 :: x1 :: x2 :: x3 :: x4 :: x :: y :: L) (.long v :: S) n h Q := by
  intro D cy b0 cs l p e R s m args below meth c Qw H locs cells slots ls mc ms hF hS hL h1 h2 h3 h4 hf
  refine lv_lstore hF.1 hF.2.1 hd hL.has (show 5 + 1 < M.2.2.1 by rw [← hL.1]; simp) rfl (fun ls1 hl => ?_)
  have hk0 : ∀ (j : Nat) (w : Value), j + 1 = 5 → (x0 :: x1 :: x2 :: x3 :: x4 :: x :: y :: L)[j]? = some w → w.category = 1 := by
    intro j w e1 e2
    obtain rfl : j = 4 := by omega
    cases e2
    exact hc
  have hL1 := hL.st2 (i := 5) (v := .long v) (by simp) hk0 hl
  exact kk D cy b0 cs l p e R s m args below meth c Qw H locs cells slots ls1 mc ms hF hS hL1 h1 h2 h3 h4 hf
theorem z_lstore6 {X : zX} {M : zM} {d k q pc : Nat} {L S : List Value} {n : Nat} {h : zH} {Q : zQ} {x0 x1 x2 x3 x4 x5 x y : Value} {v : Int64} (hd : decode M.2.1 pc = .ok (.lstore 6, 2)) (hc : x5.category = 1) (kk : zJ X M d k q (pc + 2) (x0 :: x1 :: x2 :: x3 :: x4 :: x5 :: .long v :: zu :: L) S n h Q) : zJ X M d k q pc (x0 :: x1 :: x2 :: x3 :: x4 :: x5 :: x :: y :: L) (.long v :: S) n h Q := by
  intro D cy b0 cs l p e R s m args below meth c Qw H locs cells slots ls mc ms hF hS hL h1 h2 h3 h4 hf
  refine lv_lstore hF.1 hF.2.1 hd hL.has (show 6 + 1 < M.2.2.1 by rw [← hL.1]; simp) rfl (fun ls1 hl => ?_)
  have hk0 : ∀ (j : Nat) (w : Value), j + 1 = 6 → (x0 :: x1 :: x2 :: x3 :: x4 :: x5 :: x :: y :: L)[j]? = some w → w.category = 1 := by
    intro j w e1 e2
    obtain rfl : j = 5 := by omega
    cases e2
    exact hc
  have hL1 := hL.st2 (i := 6) (v := .long v) (by simp) hk0 hl
  exact kk D cy b0 cs l p e R s m args below meth c Qw H locs cells slots ls1 mc ms hF hS hL1 h1 h2 h3 h4 hf
theorem z_lstore7 {X : zX} {M : zM} {d k q pc : Nat} {L S : List Value} {n : Nat} {h : zH} {Q : zQ} {x0 x1 x2 x3 x4 x5 x6 x y : Value} {v : Int64} (hd : decode M.2.1 pc = .ok (.lstore 7, 2)) (hc : x6.category = 1) (kk : zJ X M d k q (pc + 2) (x0 :: x1 :: x2 :: x3 :: x4 :: x5 :: x6 :: .long v :: zu :: L) S n h Q) : zJ X M d k q pc (x0 :: x1 :: x2 :: x3 :: x4 :: x5 :: x6 :: x :: y :: L) (.long v :: S) n h Q := by
  intro D cy b0 cs l p e R s m args below meth c Qw H locs cells slots ls mc ms hF hS hL h1 h2 h3 h4 hf
  refine lv_lstore hF.1 hF.2.1 hd hL.has (show 7 + 1 < M.2.2.1 by rw [← hL.1]; simp) rfl (fun ls1 hl => ?_)
  have hk0 : ∀ (j : Nat) (w : Value), j + 1 = 7 → (x0 :: x1 :: x2 :: x3 :: x4 :: x5 :: x6 :: x :: y :: L)[j]? = some w → w.category = 1 := by
    intro j w e1 e2
    obtain rfl : j = 6 := by omega
    cases e2
    exact hc
  have hL1 := hL.st2 (i := 7) (v := .long v) (by simp) hk0 hl
  exact kk D cy b0 cs l p e R s m args below meth c Qw H locs cells slots ls1 mc ms hF hS hL1 h1 h2 h3 h4 hf
theorem z_iinc0 {X : zX} {M : zM} {d k q pc : Nat} {L S : List Value} {n : Nat} {h : zH} {Q : zQ} {x v : Int32} {z : Int} (hd : decode M.2.1 pc = .ok (.iinc 0 z, 3)) (hv : x + Int32.ofInt z = v) (kk : zJ X M d k q (pc + 3) (.int v :: L) S n h Q) : zJ X M d k q pc (.int x :: L) S n h Q := by
  intro D cy b0 cs l p e R s m args below meth c Qw H locs cells slots ls mc ms hF hS hL h1 h2 h3 h4 hf
  obtain ⟨kx, hkx⟩ := List.getElem?_of_mem (zasc_mem (b0 := b0) (cs := cs) (L := .int x :: L) (i := 0) (v := .int x) rfl (by intro z; cases z))
  refine lv_iinc hF.1 hF.2.1 hd hL.has hkx hv (show 0 < M.2.2.1 by rw [← hL.1]; simp) rfl (fun ls1 hl => ?_)
  have hk0 : ∀ (j : Nat) (w : Value), j + 1 = 0 → (.int x :: L)[j]? = some w → w.category = 1 := fun j w e _ => by omega
  have hL1 := hL.st1 (i := 0) (v := .int v) (by simp) hk0 hl
  exact kk D cy b0 cs l p e R s m args below meth c Qw H locs cells slots ls1 mc ms hF hS hL1 h1 h2 h3 h4 hf
theorem z_iinc1 {X : zX} {M : zM} {d k q pc : Nat} {L S : List Value} {n : Nat} {h : zH} {Q : zQ} {x0  : Value} {x v : Int32} {z : Int} (hd : decode M.2.1 pc = .ok (.iinc 1 z, 3)) (hc : x0.category = 1) (hv : x + Int32.ofInt z = v) (kk : zJ X M d k q (pc + 3) (x0 :: .int v :: L) S n h Q) : zJ X M d k q pc (x0 :: .int x :: L) S n h Q := by
  intro D cy b0 cs l p e R s m args below meth c Qw H locs cells slots ls mc ms hF hS hL h1 h2 h3 h4 hf
  obtain ⟨kx, hkx⟩ := List.getElem?_of_mem (zasc_mem (b0 := b0) (cs := cs) (L := x0 :: .int x :: L) (i := 1) (v := .int x) rfl (by intro z; cases z))
  refine lv_iinc hF.1 hF.2.1 hd hL.has hkx hv (show 1 < M.2.2.1 by rw [← hL.1]; simp) rfl (fun ls1 hl => ?_)
  have hk0 : ∀ (j : Nat) (w : Value), j + 1 = 1 → (x0 :: .int x :: L)[j]? = some w → w.category = 1 := by
    intro j w e1 e2
    obtain rfl : j = 0 := by omega
    cases e2
    exact hc
  have hL1 := hL.st1 (i := 1) (v := .int v) (by simp) hk0 hl
  exact kk D cy b0 cs l p e R s m args below meth c Qw H locs cells slots ls1 mc ms hF hS hL1 h1 h2 h3 h4 hf
theorem z_iinc2 {X : zX} {M : zM} {d k q pc : Nat} {L S : List Value} {n : Nat} {h : zH} {Q : zQ} {x0 x1  : Value} {x v : Int32} {z : Int} (hd : decode M.2.1 pc = .ok (.iinc 2 z, 3)) (hc : x1.category = 1) (hv : x + Int32.ofInt z = v) (kk : zJ X M d k q (pc + 3) (x0 :: x1 :: .int v :: L) S n h Q) : zJ X M d k q pc (x0 :: x1 :: .int x :: L) S n h Q := by
  intro D cy b0 cs l p e R s m args below meth c Qw H locs cells slots ls mc ms hF hS hL h1 h2 h3 h4 hf
  obtain ⟨kx, hkx⟩ := List.getElem?_of_mem (zasc_mem (b0 := b0) (cs := cs) (L := x0 :: x1 :: .int x :: L) (i := 2) (v := .int x) rfl (by intro z; cases z))
  refine lv_iinc hF.1 hF.2.1 hd hL.has hkx hv (show 2 < M.2.2.1 by rw [← hL.1]; simp) rfl (fun ls1 hl => ?_)
  have hk0 : ∀ (j : Nat) (w : Value), j + 1 = 2 → (x0 :: x1 :: .int x :: L)[j]? = some w → w.category = 1 := by
    intro j w e1 e2
    obtain rfl : j = 1 := by omega
    cases e2
    exact hc
  have hL1 := hL.st1 (i := 2) (v := .int v) (by simp) hk0 hl
  exact kk D cy b0 cs l p e R s m args below meth c Qw H locs cells slots ls1 mc ms hF hS hL1 h1 h2 h3 h4 hf
theorem z_iinc3 {X : zX} {M : zM} {d k q pc : Nat} {L S : List Value} {n : Nat} {h : zH} {Q : zQ} {x0 x1 x2  : Value} {x v : Int32} {z : Int} (hd : decode M.2.1 pc = .ok (.iinc 3 z, 3)) (hc : x2.category = 1) (hv : x + Int32.ofInt z = v) (kk : zJ X M d k q (pc + 3) (x0 :: x1 :: x2 :: .int v :: L) S n h Q) : zJ X M d k q pc (x0 :: x1 :: x2 :: .int x :: L) S n h Q := by
  intro D cy b0 cs l p e R s m args below meth c Qw H locs cells slots ls mc ms hF hS hL h1 h2 h3 h4 hf
  obtain ⟨kx, hkx⟩ := List.getElem?_of_mem (zasc_mem (b0 := b0) (cs := cs) (L := x0 :: x1 :: x2 :: .int x :: L) (i := 3) (v := .int x) rfl (by intro z; cases z))
  refine lv_iinc hF.1 hF.2.1 hd hL.has hkx hv (show 3 < M.2.2.1 by rw [← hL.1]; simp) rfl (fun ls1 hl => ?_)
  have hk0 : ∀ (j : Nat) (w : Value), j + 1 = 3 → (x0 :: x1 :: x2 :: .int x :: L)[j]? = some w → w.category = 1 := by
    intro j w e1 e2
    obtain rfl : j = 2 := by omega
    cases e2
    exact hc
  have hL1 := hL.st1 (i := 3) (v := .int v) (by simp) hk0 hl
  exact kk D cy b0 cs l p e R s m args below meth c Qw H locs cells slots ls1 mc ms hF hS hL1 h1 h2 h3 h4 hf
theorem z_iinc4 {X : zX} {M : zM} {d k q pc : Nat} {L S : List Value} {n : Nat} {h : zH} {Q : zQ} {x0 x1 x2 x3  : Value} {x v : Int32} {z : Int} (hd : decode M.2.1 pc = .ok (.iinc 4 z, 3)) (hc : x3.category = 1) (hv : x + Int32.ofInt z = v) (kk : zJ X M d k q (pc + 3) (x0 :: x1 :: x2 :: x3 :: .int v :: L) S n h Q) : zJ X M d k q pc (x0 :: x1 :: x2 :: x3 :: .int x :: L) S n h Q := by
  intro D cy b0 cs l p e R s m args below meth c Qw H locs cells slots ls mc ms hF hS hL h1 h2 h3 h4 hf
  obtain ⟨kx, hkx⟩ := List.getElem?_of_mem (zasc_mem (b0 := b0) (cs := cs) (L := x0 :: x1 :: x2 :: x3 :: .int x :: L) (i := 4) (v := .int x) rfl (by intro z; cases z))
  refine lv_iinc hF.1 hF.2.1 hd hL.has hkx hv (show 4 < M.2.2.1 by rw [← hL.1]; simp) rfl (fun ls1 hl => ?_)
  have hk0 : ∀ (j : Nat) (w : Value), j + 1 = 4 → (x0 :: x1 :: x2 :: x3 :: .int x :: L)[j]? = some w → w.category = 1 := by
    intro j w e1 e2
    obtain rfl : j = 3 := by omega
    cases e2
    exact hc
  have hL1 := hL.st1 (i := 4) (v := .int v) (by simp) hk0 hl
  exact kk D cy b0 cs l p e R s m args below meth c Qw H locs cells slots ls1 mc ms hF hS hL1 h1 h2 h3 h4 hf
theorem z_iinc5 {X : zX} {M : zM} {d k q pc : Nat} {L S : List Value} {n : Nat} {h : zH} {Q : zQ} {x0 x1 x2 x3 x4  : Value} {x v : Int32} {z : Int} (hd : decode M.2.1 pc = .ok (.iinc 5 z, 3)) (hc : x4.category = 1) (hv : x + Int32.ofInt z = v) (kk : zJ X M d k q (pc + 3) (x0 :: x1 :: x2 :: x3 :: x4 :: .int v :: L) S n h Q) : zJ X M d k q pc (x0 :: x1 :: x2 :: x3 :: x4 :: .int x :: L) S n h Q := by
  intro D cy b0 cs l p e R s m args below meth c Qw H locs cells slots ls mc ms hF hS hL h1 h2 h3 h4 hf
  obtain ⟨kx, hkx⟩ := List.getElem?_of_mem (zasc_mem (b0 := b0) (cs := cs) (L := x0 :: x1 :: x2 :: x3 :: x4 :: .int x :: L) (i := 5) (v := .int x) rfl (by intro z; cases z))
  refine lv_iinc hF.1 hF.2.1 hd hL.has hkx hv (show 5 < M.2.2.1 by rw [← hL.1]; simp) rfl (fun ls1 hl => ?_)
  have hk0 : ∀ (j : Nat) (w : Value), j + 1 = 5 → (x0 :: x1 :: x2 :: x3 :: x4 :: .int x :: L)[j]? = some w → w.category = 1 := by
    intro j w e1 e2
    obtain rfl : j = 4 := by omega
    cases e2
    exact hc
  have hL1 := hL.st1 (i := 5) (v := .int v) (by simp) hk0 hl
  exact kk D cy b0 cs l p e R s m args below meth c Qw H locs cells slots ls1 mc ms hF hS hL1 h1 h2 h3 h4 hf
theorem z_iinc6 {X : zX} {M : zM} {d k q pc : Nat} {L S : List Value} {n : Nat} {h : zH} {Q : zQ} {x0 x1 x2 x3 x4 x5  : Value} {x v : Int32} {z : Int} (hd : decode M.2.1 pc = .ok (.iinc 6 z, 3)) (hc : x5.category = 1) (hv : x + Int32.ofInt z = v) (kk : zJ X M d k q (pc + 3) (x0 :: x1 :: x2 :: x3 :: x4 :: x5 :: .int v :: L) S n h Q) : zJ X M d k q pc (x0 :: x1 :: x2 :: x3 :: x4 :: x5 :: .int x :: L) S n h Q := by
  intro D cy b0 cs l p e R s m args below meth c Qw H locs cells slots ls mc ms hF hS hL h1 h2 h3 h4 hf
  obtain ⟨kx, hkx⟩ := List.getElem?_of_mem (zasc_mem (b0 := b0) (cs := cs) (L := x0 :: x1 :: x2 :: x3 :: x4 :: x5 :: .int x :: L) (i := 6) (v := .int x) rfl (by intro z; cases z))
  refine lv_iinc hF.1 hF.2.1 hd hL.has hkx hv (show 6 < M.2.2.1 by rw [← hL.1]; simp) rfl (fun ls1 hl => ?_)
  have hk0 : ∀ (j : Nat) (w : Value), j + 1 = 6 → (x0 :: x1 :: x2 :: x3 :: x4 :: x5 :: .int x :: L)[j]? = some w → w.category = 1 := by
    intro j w e1 e2
    obtain rfl : j = 5 := by omega
    cases e2
    exact hc
  have hL1 := hL.st1 (i := 6) (v := .int v) (by simp) hk0 hl
  exact kk D cy b0 cs l p e R s m args below meth c Qw H locs cells slots ls1 mc ms hF hS hL1 h1 h2 h3 h4 hf
theorem z_iinc7 {X : zX} {M : zM} {d k q pc : Nat} {L S : List Value} {n : Nat} {h : zH} {Q : zQ} {x0 x1 x2 x3 x4 x5 x6  : Value} {x v : Int32} {z : Int} (hd : decode M.2.1 pc = .ok (.iinc 7 z, 3)) (hc : x6.category = 1) (hv : x + Int32.ofInt z = v) (kk : zJ X M d k q (pc + 3) (x0 :: x1 :: x2 :: x3 :: x4 :: x5 :: x6 :: .int v :: L) S n h Q) : zJ X M d k q pc (x0 :: x1 :: x2 :: x3 :: x4 :: x5 :: x6 :: .int x :: L) S n h Q := by
  intro D cy b0 cs l p e R s m args below meth c Qw H locs cells slots ls mc ms hF hS hL h1 h2 h3 h4 hf
  obtain ⟨kx, hkx⟩ := List.getElem?_of_mem (zasc_mem (b0 := b0) (cs := cs) (L := x0 :: x1 :: x2 :: x3 :: x4 :: x5 :: x6 :: .int x :: L) (i := 7) (v := .int x) rfl (by intro z; cases z))
  refine lv_iinc hF.1 hF.2.1 hd hL.has hkx hv (show 7 < M.2.2.1 by rw [← hL.1]; simp) rfl (fun ls1 hl => ?_)
  have hk0 : ∀ (j : Nat) (w : Value), j + 1 = 7 → (x0 :: x1 :: x2 :: x3 :: x4 :: x5 :: x6 :: .int x :: L)[j]? = some w → w.category = 1 := by
    intro j w e1 e2
    obtain rfl : j = 6 := by omega
    cases e2
    exact hc
  have hL1 := hL.st1 (i := 7) (v := .int v) (by simp) hk0 hl
  exact kk D cy b0 cs l p e R s m args below meth c Qw H locs cells slots ls1 mc ms hF hS hL1 h1 h2 h3 h4 hf
theorem z_iinc8 {X : zX} {M : zM} {d k q pc : Nat} {L S : List Value} {n : Nat} {h : zH} {Q : zQ} {x0 x1 x2 x3 x4 x5 x6 x7  : Value} {x v : Int32} {z : Int} (hd : decode M.2.1 pc = .ok (.iinc 8 z, 3)) (hc : x7.category = 1) (hv : x + Int32.ofInt z = v) (kk : zJ X M d k q (pc + 3) (x0 :: x1 :: x2 :: x3 :: x4 :: x5 :: x6 :: x7 :: .int v :: L) S n h Q) : zJ X M d k q pc (x0 :: x1 :: x2 :: x3 :: x4 :: x5 :: x6 :: x7 :: .int x :: L) S n h Q := by
  intro D cy b0 cs l p e R s m args below meth c Qw H locs cells slots ls mc ms hF hS hL h1 h2 h3 h4 hf
  obtain ⟨kx, hkx⟩ := List.getElem?_of_mem (zasc_mem (b0 := b0) (cs := cs) (L := x0 :: x1 :: x2 :: x3 :: x4 :: x5 :: x6 :: x7 :: .int x :: L) (i := 8) (v := .int x) rfl (by intro z; cases z))
  refine lv_iinc hF.1 hF.2.1 hd hL.has hkx hv (show 8 < M.2.2.1 by rw [← hL.1]; simp) rfl (fun ls1 hl => ?_)
  have hk0 : ∀ (j : Nat) (w : Value), j + 1 = 8 → (x0 :: x1 :: x2 :: x3 :: x4 :: x5 :: x6 :: x7 :: .int x :: L)[j]? = some w → w.category = 1 := by
    intro j w e1 e2
    obtain rfl : j = 7 := by omega
    cases e2
    exact hc
  have hL1 := hL.st1 (i := 8) (v := .int v) (by simp) hk0 hl
  exact kk D cy b0 cs l p e R s m args below meth c Qw H locs cells slots ls1 mc ms hF hS hL1 h1 h2 h3 h4 hf
theorem z_iinc9 {X : zX} {M : zM} {d k q pc : Nat} {L S : List Value} {n : Nat} {h : zH} {Q : zQ} {x0 x1 x2 x3 x4 x5 x6 x7 x8  : Value} {x v : Int32} {z : Int} (hd : decode M.2.1 pc = .ok (.iinc 9 z, 3)) (hc : x8.category = 1) (hv : x + Int32.ofInt z = v) (kk : zJ X M d k q (pc + 3) (x0 :: x1 :: x2 :: x3 :: x4 :: x5 :: x6 :: x7 :: x8 :: .int v :: L) S n h Q) : zJ X M d k q pc (x0 :: x1 :: x2 :: x3 :: x4 :: x5 :: x6 :: x7 :: x8 :: .int x :: L) S n h Q := by
  intro D cy b0 cs l p e R s m args below meth c Qw H locs cells slots ls mc ms hF hS hL h1 h2 h3 h4 hf
  obtain ⟨kx, hkx⟩ := List.getElem?_of_mem (zasc_mem (b0 := b0) (cs := cs) (L := x0 :: x1 :: x2 :: x3 :: x4 :: x5 :: x6 :: x7 :: x8 :: .int x :: L) (i := 9) (v := .int x) rfl (by intro z; cases z))
  refine lv_iinc hF.1 hF.2.1 hd hL.has hkx hv (show 9 < M.2.2.1 by rw [← hL.1]; simp) rfl (fun ls1 hl => ?_)
  have hk0 : ∀ (j : Nat) (w : Value), j + 1 = 9 → (x0 :: x1 :: x2 :: x3 :: x4 :: x5 :: x6 :: x7 :: x8 :: .int x :: L)[j]? = some w → w.category = 1 := by
    intro j w e1 e2
    obtain rfl : j = 8 := by omega
    cases e2
    exact hc
  have hL1 := hL.st1 (i := 9) (v := .int v) (by simp) hk0 hl
  exact kk D cy b0 cs l p e R s m args below meth c Qw H locs cells slots ls1 mc ms hF hS hL1 h1 h2 h3 h4 hf
theorem z_iinc10 {X : zX} {M : zM} {d k q pc : Nat} {L S : List Value} {n : Nat} {h : zH} {Q : zQ} {x0 x1 x2 x3 x4 x5 x6 x7 x8 x9  : Value} {x v : Int32} {z : Int} (hd : decode M.2.1 pc = .ok (.iinc 10 z, 3)) (hc : x9.category = 1) (hv : x + Int32.ofInt z = v) (kk : zJ X M d k q (pc + 3) (x0 :: x1 :: x2 :: x3 :: x4 :: x5 :: x6 :: x7 :: x8 :: x9 :: .int v :: L) S n h Q) : zJ X M d k q pc (x0 :: x1 :: x2 :: x3 :: x4 :: x5 :: x6 :: x7 :: x8 :: x9 :: .int x :: L) S n h Q := by
  intro D cy b0 cs l p e R s m args below meth c Qw H locs cells slots ls mc ms hF hS hL h1 h2 h3 h4 hf
  obtain ⟨kx, hkx⟩ := List.getElem?_of_mem (zasc_mem (b0 := b0) (cs := cs) (L := x0 :: x1 :: x2 :: x3 :: x4 :: x5 :: x6 :: x7 :: x8 :: x9 :: .int x :: L) (i := 10) (v := .int x) rfl (by intro z; cases z))
  refine lv_iinc hF.1 hF.2.1 hd hL.has hkx hv (show 10 < M.2.2.1 by rw [← hL.1]; simp) rfl (fun ls1 hl => ?_)
  have hk0 : ∀ (j : Nat) (w : Value), j + 1 = 10 → (x0 :: x1 :: x2 :: x3 :: x4 :: x5 :: x6 :: x7 :: x8 :: x9 :: .int x :: L)[j]? = some w → w.category = 1 := by
    intro j w e1 e2
    obtain rfl : j = 9 := by omega
    cases e2
    exact hc
  have hL1 := hL.st1 (i := 10) (v := .int v) (by simp) hk0 hl
  exact kk D cy b0 cs l p e R s m args below meth c Qw H locs cells slots ls1 mc ms hF hS hL1 h1 h2 h3 h4 hf
theorem z_iinc11 {X : zX} {M : zM} {d k q pc : Nat} {L S : List Value} {n : Nat} {h : zH} {Q : zQ} {x0 x1 x2 x3 x4 x5 x6 x7 x8 x9 x10  : Value} {x v : Int32} {z : Int} (hd : decode M.2.1 pc = .ok (.iinc 11 z, 3)) (hc : x10.category = 1) (hv : x + Int32.ofInt z = v) (kk : zJ X M d k q (pc + 3) (x0 :: x1 :: x2 :: x3 :: x4 :: x5 :: x6 :: x7 :: x8 :: x9 :: x10 :: .int v :: L) S n h Q) : zJ X M d k q pc (x0 :: x1 :: x2 :: x3 :: x4 :: x5 :: x6 :: x7 :: x8 :: x9 :: x10 :: .int x :: L) S n h Q := by
  intro D cy b0 cs l p e R s m args below meth c Qw H locs cells slots ls mc ms hF hS hL h1 h2 h3 h4 hf
  obtain ⟨kx, hkx⟩ := List.getElem?_of_mem (zasc_mem (b0 := b0) (cs := cs) (L := x0 :: x1 :: x2 :: x3 :: x4 :: x5 :: x6 :: x7 :: x8 :: x9 :: x10 :: .int x :: L) (i := 11) (v := .int x) rfl (by intro z; cases z))
  refine lv_iinc hF.1 hF.2.1 hd hL.has hkx hv (show 11 < M.2.2.1 by rw [← hL.1]; simp) rfl (fun ls1 hl => ?_)
  have hk0 : ∀ (j : Nat) (w : Value), j + 1 = 11 → (x0 :: x1 :: x2 :: x3 :: x4 :: x5 :: x6 :: x7 :: x8 :: x9 :: x10 :: .int x :: L)[j]? = some w → w.category = 1 := by
    intro j w e1 e2
    obtain rfl : j = 10 := by omega
    cases e2
    exact hc
  have hL1 := hL.st1 (i := 11) (v := .int v) (by simp) hk0 hl
  exact kk D cy b0 cs l p e R s m args below meth c Qw H locs cells slots ls1 mc ms hF hS hL1 h1 h2 h3 h4 hf
theorem z_tableIn {X : zX} {M : zM} {d k q pc : Nat} {L S : List Value} {n : Nat} {h : zH} {Q : zQ} {x : Int32} {dflt lo hi off : Int} {offs : Array Int} {len tgt : Nat} (hd : decode M.2.1 pc = .ok (.tableswitch dflt lo hi offs, len)) (g1 : ¬ x.toInt < lo) (g2 : ¬ hi < x.toInt) (ho : offs[(x.toInt - lo).toNat]? = some off) (ht : (pc : Int) + off = (tgt : Int)) (kk : zJ X M d k q tgt L S n h Q) : zJ X M d k q pc L (.int x :: S) n h Q := by
  intro D cy b0 cs l p e R s m args below meth c Qw H locs cells slots ls mc ms hF hS hL h1 h2 h3 h4 hf
  exact lv_tableIn hF.1 hF.2.1 hd g1 g2 ho ht (kk D cy b0 cs l p e R s m args below meth c Qw H locs cells slots ls mc ms hF hS hL h1 h2 h3 h4 hf)
theorem z_tableOut {X : zX} {M : zM} {d k q pc : Nat} {L S : List Value} {n : Nat} {h : zH} {Q : zQ} {x : Int32} {dflt lo hi : Int} {offs : Array Int} {len tgt : Nat} (hd : decode M.2.1 pc = .ok (.tableswitch dflt lo hi offs, len)) (g1 : x.toInt < lo ∨ hi < x.toInt) (ht : (pc : Int) + dflt = (tgt : Int)) (kk : zJ X M d k q tgt L S n h Q) : zJ X M d k q pc L (.int x :: S) n h Q := by
  intro D cy b0 cs l p e R s m args below meth c Qw H locs cells slots ls mc ms hF hS hL h1 h2 h3 h4 hf
  exact lv_tableOut hF.1 hF.2.1 hd g1 ht (kk D cy b0 cs l p e R s m args below meth c Qw H locs cells slots ls mc ms hF hS hL h1 h2 h3 h4 hf)
theorem z_lookup {X : zX} {M : zM} {d k q pc : Nat} {L S : List Value} {n : Nat} {h : zH} {Q : zQ} {x : Int32} {dflt off : Int} {ps : Array (Int × Int)} {len tgt : Nat} (hd : decode M.2.1 pc = .ok (.lookupswitch dflt ps, len)) (hp : (ps.toList.zip (ps.toList.drop 1)).all (fun (a, next) => a.1 < next.1) = true) (ho : Op.lookupswitch.offset ps.toList dflt x.toInt = off) (ht : (pc : Int) + off = (tgt : Int)) (kk : zJ X M d k q tgt L S n h Q) : zJ X M d k q pc L (.int x :: S) n h Q := by
  intro D cy b0 cs l p e R s m args below meth c Qw H locs cells slots ls mc ms hF hS hL h1 h2 h3 h4 hf
  exact lv_lookup hF.1 hF.2.1 hd hp ho ht (kk D cy b0 cs l p e R s m args below meth c Qw H locs cells slots ls mc ms hF hS hL h1 h2 h3 h4 hf)
theorem z_ireturn {X : zX} {M : zM} {d k q pc : Nat} {L S : List Value} {n : Nat} {h : zH} {Q : zQ} {v : Int32} {ty : FieldType} (hd : decode M.2.1 pc = .ok (.ireturn, 1)) (hr : M.2.2.2 = some ty) (hn : narrow ty (.int v) = .int v) (hq : Q (some (.int v)) n h) : zJ X M d 0 q pc L [.int v] n h Q := by
  intro D cy b0 cs l p e R s m args below meth c Qw H locs cells slots ls mc ms hF hS hL h1 h2 h3 h4 hf
  obtain rfl : mc = cells := by omega
  exact hf (some (.int v)) n h H locs slots pc ls hq hS (by omega) (Or.inr (Or.inl ⟨v, ty, rfl, hr, hn, hd⟩))
theorem z_lreturn {X : zX} {M : zM} {d k q pc : Nat} {L S : List Value} {n : Nat} {h : zH} {Q : zQ} {v : Int64} (hd : decode M.2.1 pc = .ok (.lreturn, 1)) (hr : M.2.2.2 = some .long) (hq : Q (some (.long v)) n h) : zJ X M d 0 q pc L [.long v] n h Q := by
  intro D cy b0 cs l p e R s m args below meth c Qw H locs cells slots ls mc ms hF hS hL h1 h2 h3 h4 hf
  obtain rfl : mc = cells := by omega
  exact hf (some (.long v)) n h H locs slots pc ls hq hS (by omega) (Or.inr (Or.inr ⟨v, rfl, hr, hd⟩))
theorem z_return {X : zX} {M : zM} {d k q pc : Nat} {L S : List Value} {n : Nat} {h : zH} {Q : zQ} (hd : decode M.2.1 pc = .ok (.return_, 1)) (hr : M.2.2.2 = none) (hq : Q none n h) : zJ X M d 0 q pc L [] n h Q := by
  intro D cy b0 cs l p e R s m args below meth c Qw H locs cells slots ls mc ms hF hS hL h1 h2 h3 h4 hf
  obtain rfl : mc = cells := by omega
  exact hf none n h H locs slots pc ls hq hS (by omega) (Or.inl ⟨rfl, hr, hd⟩)
theorem z_ldc {X : zX} {M : zM} {d k q pc : Nat} {L S : List Value} {n : Nat} {h : zH} {Q : zQ} {idx : Nat} {v : Int32} (hd : decode M.2.1 pc = .ok (.ldc idx, 2)) (hc : Cond.constant M.1.cls idx v ∈ zU) (kk : zJ X M d k q (pc + 2) L (.int v :: S) n h Q) : zJ X M d k q pc L S n h Q := by
  intro D cy b0 cs l p e R s m args below meth c Qw H locs cells slots ls mc ms hF hS hL h1 h2 h3 h4 hf
  exact lv_ldc hF.1 hF.2.1 hF.2.2.2.2.1 (hF.2.2.2.2.2.1 _ hc) hd (kk D cy b0 cs l p e R s m args below meth c Qw H locs cells slots ls mc ms hF hS hL h1 h2 h3 h4 hf)
theorem z_ldcw {X : zX} {M : zM} {d k q pc : Nat} {L S : List Value} {n : Nat} {h : zH} {Q : zQ} {idx : Nat} {v : Int32} (hd : decode M.2.1 pc = .ok (.ldc_w idx, 3)) (hc : Cond.constant M.1.cls idx v ∈ zU) (kk : zJ X M d k q (pc + 3) L (.int v :: S) n h Q) : zJ X M d k q pc L S n h Q := by
  intro D cy b0 cs l p e R s m args below meth c Qw H locs cells slots ls mc ms hF hS hL h1 h2 h3 h4 hf
  exact lv_ldcw hF.1 hF.2.1 hF.2.2.2.2.1 (hF.2.2.2.2.2.1 _ hc) hd (kk D cy b0 cs l p e R s m args below meth c Qw H locs cells slots ls mc ms hF hS hL h1 h2 h3 h4 hf)
theorem z_ldc2 {X : zX} {M : zM} {d k q pc : Nat} {L S : List Value} {n : Nat} {h : zH} {Q : zQ} {idx : Nat} {v : Int64} (hd : decode M.2.1 pc = .ok (.ldc2_w idx, 3)) (hc : Cond.constantLong M.1.cls idx v ∈ zU) (kk : zJ X M d k q (pc + 3) L (.long v :: S) n h Q) : zJ X M d k q pc L S n h Q := by
  intro D cy b0 cs l p e R s m args below meth c Qw H locs cells slots ls mc ms hF hS hL h1 h2 h3 h4 hf
  exact lv_ldc2 hF.1 hF.2.1 hF.2.2.2.2.1 (hF.2.2.2.2.2.1 _ hc) hd (kk D cy b0 cs l p e R s m args below meth c Qw H locs cells slots ls mc ms hF hS hL h1 h2 h3 h4 hf)
