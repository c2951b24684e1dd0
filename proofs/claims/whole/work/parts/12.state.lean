abbrev zmu : Type := Nat → Nat → Int32
abbrev znu : Type := Nat → Int64
abbrev zq : Type := Option Value → zmu → znu → Prop
def zks : List (Nat × Nat × List Nat) := [(3, 8, [3, 5, 12, 14, 16, 46, 47, 48, 52, 54, 58, 61, 1]), (3, 7, [4, 0]), (0, 48, []), (3, 3, [0, 0, 0, 0, 0, 6, 7, 8, 9, 10, 11]), (0, 20, []), (0, 5, []), (0, 5, []), (0, 80, []), (0, 80, []), (0, 80, []), (3, 4, [5, 13, 0]), (0, 5, []), (3, 4, [5, 15, 0]), (0, 5, []), (3, 0, [17, 0, 0]), (2, 14, [16, 18, 20, 22, 24, 26, 28, 30, 32, 34, 36, 38, 40, 42]), (3, 4, [5, 19, 0]), (0, 5, []), (3, 4, [5, 21, 0]), (0, 5, []), (3, 4, [5, 23, 0]), (0, 5, []), (3, 4, [5, 25, 0]), (0, 5, []), (3, 4, [5, 27, 0]), (0, 5, []), (3, 4, [5, 29, 0]), (0, 5, []), (3, 4, [5, 31, 0]), (0, 5, []), (3, 4, [5, 33, 0]), (0, 5, []), (3, 4, [5, 35, 0]), (0, 5, []), (3, 4, [5, 37, 0]), (0, 5, []), (3, 4, [5, 39, 0]), (0, 5, []), (3, 4, [5, 41, 0]), (0, 5, []), (3, 4, [5, 43, 0]), (0, 5, []), (3, 4, [5, 45, 0]), (0, 5, []), (2, 2, [62, 64]), (1, 2, []), (3, 5, [49, 50, 0, 51]), (0, 980, []), (0, 980, []), (0, 5, []), (3, 1, [53]), (0, 32, []), (3, 6, [55, 56, 57, 0]), (0, 6, []), (0, 6, []), (0, 6, []), (3, 2, [59, 60]), (0, 4, []), (0, 4, []), (3, 2, [62, 63]), (0, 4, []), (0, 4, []), (3, 4, [5, 65, 0]), (0, 5, []), (3, 4, [5, 67, 0]), (0, 5, []), (3, 9, [0, 69, 0, 0, 0, 0, 0, 70, 0, 71, 72, 0, 0, 0, 73, 0, 74, 75, 76, 77, 0, 78, 79, 0, 80, 81, 82, 1, 83, 84, 85, 0, 0, 0, 86, 87]), (0, 48, []), (0, 20, []), (0, 5, []), (0, 5, []), (0, 20, []), (0, 10, []), (0, 16, []), (0, 16, []), (0, 224, []), (0, 32, []), (1, 2, []), (0, 6, []), (0, 6, []), (0, 6, []), (0, 3, []), (0, 980, []), (0, 980, []), (0, 32, []), (0, 32, [])]
def zk (a : Nat) : Nat × Nat × List Nat := zks.getD a (0, 0, [])
def zfv (mu : zmu) (nu : znu) (a : Nat) (q : Nat × Nat) : Value := if q.1 = 0 then .int (mu a q.2) else if q.1 = 1 then .long (nu a) else .ref (q.1 - 2)
def zEc (mu : zmu) (nu : znu) (a : Nat) : Nat × Nat × List Nat → zE
  | (0, n, _) => .inl (0, n, .inl (mu a))
  | (1, n, _) => .inl (1, n, .inl (mu a))
  | (2, n, rs) => .inl (2, n, .inr (.inr (.inr (.inr (fun i => rs[i]?)))))
  | (_, ci, t) => .inr (ci, t.zipIdx.map (zfv mu nu a))
def zEE (mu : zmu) (nu : znu) : zH := fun a => zEc mu nu a (zk a)
def zlift (Q : zq) : zQ := fun r n h => n = 86 ∧ ∃ mu nu, h = zEE mu nu ∧ Q r mu nu
def zex (r : Option Value) (mu : zmu) (nu : znu) : zq := fun r' mu' nu' => r' = r ∧ mu' = mu ∧ nu' = nu
def u2 (mu : zmu) (a k : Nat) (v : Int32) : zmu := fun b j => if b = a then (if j = k then v else mu b j) else mu b j
def uR (mu : zmu) (a : Nat) (f : Nat → Int32) : zmu := fun b j => if b = a then f j else mu b j
theorem u2_s {mu : zmu} {a k : Nat} {v : Int32} : u2 mu a k v a k = v := by simp [u2]
theorem u2_k {mu : zmu} {a k j : Nat} {v : Int32} (h : j ≠ k) : u2 mu a k v a j = mu a j := by simp [u2, h]
theorem u2_a {mu : zmu} {a k b j : Nat} {v : Int32} (h : b ≠ a) : u2 mu a k v b j = mu b j := by simp [u2, h]
theorem u2_row {mu : zmu} {a k : Nat} {v : Int32} : u2 mu a k v a = upd (mu a) k v := by funext j; simp [u2, upd]
theorem u2_rowa {mu : zmu} {a k b : Nat} {v : Int32} (h : b ≠ a) : u2 mu a k v b = mu b := by funext j; simp [u2, h]
theorem uR_s {mu : zmu} {a : Nat} {f : Nat → Int32} : uR mu a f a = f := by funext j; simp [uR]
theorem uR_a {mu : zmu} {a b : Nat} {f : Nat → Int32} (h : b ≠ a) : uR mu a f b = mu b := by funext j; simp [uR, h]
theorem zEc_mu {mu mu' : zmu} {nu nu' : znu} {a : Nat} (h1 : mu a = mu' a) (h2 : nu a = nu' a) (c : Nat × Nat × List Nat) : zEc mu nu a c = zEc mu' nu' a c := by
  have hf : zfv mu nu a = zfv mu' nu' a := by funext q; simp [zfv, h1, h2]
  unfold zEc
  split <;> simp [h1, hf]
theorem zEE_up {mu mu' : zmu} {nu nu' : znu} {a : Nat} {e : zE} (h1 : ∀ b, b ≠ a → mu b = mu' b) (h2 : ∀ b, b ≠ a → nu b = nu' b) (he : e = zEE mu' nu' a) : va_up (zEE mu nu) a e = zEE mu' nu' := by
  funext b
  by_cases hb : b = a
  · subst hb; simp [va_up, he]
  · simp only [va_up, if_neg hb]; exact zEc_mu (h1 b hb) (h2 b hb) _
theorem zEE_obj {mu : zmu} {nu : znu} {a ci : Nat} {t : List Nat} (hk : zk a = (3, ci, t)) : zEE mu nu a = .inr (ci, t.zipIdx.map (zfv mu nu a)) := by simp only [zEE, hk, zEc]
theorem zEE_int {mu : zmu} {nu : znu} {a n : Nat} {t : List Nat} (hk : zk a = (0, n, t)) : zEE mu nu a = .inl (0, n, .inl (mu a)) := by simp only [zEE, hk, zEc]
theorem zEE_bool {mu : zmu} {nu : znu} {a n : Nat} {t : List Nat} (hk : zk a = (1, n, t)) : zEE mu nu a = .inl (1, n, .inl (mu a)) := by simp only [zEE, hk, zEc]
theorem zEE_refs {mu : zmu} {nu : znu} {a n : Nat} {t : List Nat} (hk : zk a = (2, n, t)) : zEE mu nu a = .inl (2, n, .inr (.inr (.inr (.inr (fun i => t[i]?))))) := by simp only [zEE, hk, zEc]
theorem zk_lt {a x y : Nat} {t : List Nat} (hk : zk a = (x, y, t)) (hy : 0 < x + y) : a < 86 := by
  rcases Nat.lt_or_ge a 86 with h | h
  · exact h
  · have : zk a = (0, 0, []) := by
      unfold zk
      rw [List.getD_eq_getElem?_getD, List.getElem?_eq_none (show zks.length ≤ a from h)]; rfl
    rw [this] at hk; cases hk; omega
theorem zlt_mil {a : Nat} (h : a < 86) : a < 1000000 := by omega
theorem y_getI {X : zX} {M : zM} {d pc : Nat} {L S : List Value} {mu : zmu} {nu : znu} {Q : zq} {idx ci j a : Nat} {t : List Nat} (hd : decode M.2.1 pc = .ok (.getfield idx, 3)) (hl : zfl M.1.cls idx ci j) (hk : zk a = (3, ci, t)) (ht : t[j]? = some 0) (kk : zJ X M d 0 0 (pc + 3) L (.int (mu a j) :: S) 86 (zEE mu nu) (zlift Q)) : zJ X M d 0 0 pc L (.ref a :: S) 86 (zEE mu nu) (zlift Q) := by
  have hlt := zk_lt hk (by omega)
  exact z_getf hd hl (zEE_obj hk) hlt (zlt_mil hlt) (by simp [List.getElem?_map, List.getElem?_zipIdx, ht, zfv]) kk
theorem y_getR {X : zX} {M : zM} {d pc : Nat} {L S : List Value} {mu : zmu} {nu : znu} {Q : zq} {idx ci j a r : Nat} {t : List Nat} (hd : decode M.2.1 pc = .ok (.getfield idx, 3)) (hl : zfl M.1.cls idx ci j) (hk : zk a = (3, ci, t)) (ht : t[j]? = some (r + 2)) (kk : zJ X M d 0 0 (pc + 3) L (.ref r :: S) 86 (zEE mu nu) (zlift Q)) : zJ X M d 0 0 pc L (.ref a :: S) 86 (zEE mu nu) (zlift Q) := by
  have hlt := zk_lt hk (by omega)
  exact z_getf hd hl (zEE_obj hk) hlt (zlt_mil hlt) (by simp [List.getElem?_map, List.getElem?_zipIdx, ht, zfv]) kk
theorem y_getJ {X : zX} {M : zM} {d pc : Nat} {L S : List Value} {mu : zmu} {nu : znu} {Q : zq} {idx ci j a : Nat} {t : List Nat} (hd : decode M.2.1 pc = .ok (.getfield idx, 3)) (hl : zfl M.1.cls idx ci j) (hk : zk a = (3, ci, t)) (ht : t[j]? = some 1) (kk : zJ X M d 0 0 (pc + 3) L (.long (nu a) :: S) 86 (zEE mu nu) (zlift Q)) : zJ X M d 0 0 pc L (.ref a :: S) 86 (zEE mu nu) (zlift Q) := by
  have hlt := zk_lt hk (by omega)
  exact z_getf hd hl (zEE_obj hk) hlt (zlt_mil hlt) (by simp [List.getElem?_map, List.getElem?_zipIdx, ht, zfv]) kk
theorem zput_list {mu : zmu} {nu : znu} {a j : Nat} {t : List Nat} {v : Int32} (ht : t[j]? = some 0) : (t.zipIdx.map (zfv mu nu a)).set j (.int v) = t.zipIdx.map (zfv (u2 mu a j v) nu a) := by
  apply List.ext_getElem?
  intro i
  by_cases hi : i = j
  · subst hi
    have hl : i < t.length := (List.getElem?_eq_some_iff.mp ht).1
    rw [List.getElem?_set_self (by simp [hl])]
    simp [List.getElem?_map, List.getElem?_zipIdx, ht, zfv, u2_s]
  · rw [List.getElem?_set_ne (Ne.symm hi)]
    simp only [List.getElem?_map, List.getElem?_zipIdx]
    cases t[i]? with
    | none => rfl
    | some x => simp [zfv, u2, hi]
theorem y_putI {X : zX} {M : zM} {d pc : Nat} {L S : List Value} {mu : zmu} {nu : znu} {Q : zq} {idx ci j a : Nat} {t : List Nat} {v : Int32} (hd : decode M.2.1 pc = .ok (.putfield idx, 3)) (hl : zpf M.1.cls idx ci j false .int) (hk : zk a = (3, ci, t)) (ht : t[j]? = some 0) (kk : zJ X M d 0 0 (pc + 3) L S 86 (zEE (u2 mu a j v) nu) (zlift Q)) : zJ X M d 0 0 pc L (.int v :: .ref a :: S) 86 (zEE mu nu) (zlift Q) := by
  have hlt := zk_lt hk (by omega)
  refine z_putf hd hl (zEE_obj hk) hlt (zlt_mil hlt) (fun _ _ => ⟨rfl, rfl⟩) (by simpa using (List.getElem?_eq_some_iff.mp ht).1) ?_
  rw [zEE_up (mu' := u2 mu a j v) (nu' := nu) (fun b hb => (u2_rowa hb).symm) (fun _ _ => rfl) (by rw [zEE_obj hk, zput_list ht])]
  exact kk
theorem y_putJ {X : zX} {M : zM} {d pc : Nat} {L S : List Value} {mu : zmu} {nu : znu} {Q : zq} {idx ci j a : Nat} {t : List Nat} {v : Int64} (hd : decode M.2.1 pc = .ok (.putfield idx, 3)) (hl : zpf M.1.cls idx ci j false .long) (hk : zk a = (3, ci, t)) (ht : t[j]? = some 1) (h1 : ∀ i, i ≠ j → t[i]? ≠ some 1) (kk : zJ X M d 0 0 (pc + 3) L S 86 (zEE mu (va_up nu a v)) (zlift Q)) : zJ X M d 0 0 pc L (.long v :: .ref a :: S) 86 (zEE mu nu) (zlift Q) := by
  have hlt := zk_lt hk (by omega)
  refine z_putf hd hl (zEE_obj hk) hlt (zlt_mil hlt) (fun _ _ => ⟨rfl, rfl⟩) (by simpa using (List.getElem?_eq_some_iff.mp ht).1) ?_
  have e1 : (t.zipIdx.map (zfv mu nu a)).set j (.long v) = t.zipIdx.map (zfv mu (va_up nu a v) a) := by
    apply List.ext_getElem?
    intro i
    by_cases hi : i = j
    · subst hi
      have hl : i < t.length := (List.getElem?_eq_some_iff.mp ht).1
      rw [List.getElem?_set_self (by simp [hl])]
      simp [List.getElem?_map, List.getElem?_zipIdx, ht, zfv, va_up]
    · rw [List.getElem?_set_ne (Ne.symm hi)]
      simp only [List.getElem?_map, List.getElem?_zipIdx]
      cases hx : t[i]? with
      | none => rfl
      | some x =>
        have : x ≠ 1 := fun e => h1 i hi (by rw [hx, e])
        simp [zfv, this]
  rw [zEE_up (mu' := mu) (nu' := va_up nu a v) (fun _ _ => rfl) (fun b hb => by simp [va_up, hb]) (by rw [zEE_obj hk, e1])]
  exact kk
theorem y_iald {X : zX} {M : zM} {d pc : Nat} {L S : List Value} {mu : zmu} {nu : znu} {Q : zq} {a N : Nat} {t : List Nat} {i : Nat} (hd : decode M.2.1 pc = .ok (.iaload, 1)) (hk : zk a = (0, N, t)) (hN : N < 1000) (hi : i < N) (kk : zJ X M d 0 0 (pc + 1) L (.int (mu a i) :: S) 86 (zEE mu nu) (zlift Q)) : zJ X M d 0 0 pc L (.int (nI i) :: .ref a :: S) 86 (zEE mu nu) (zlift Q) := by
  have hlt := zk_lt hk (by omega)
  refine z_iald hd (zEE_int hk) hlt (zlt_mil hlt) (vp_in_nI hi (by omega)) ?_
  rw [nI_clamp (by omega)]
  exact kk
theorem y_zald {X : zX} {M : zM} {d pc : Nat} {L S : List Value} {mu : zmu} {nu : znu} {Q : zq} {a N : Nat} {t : List Nat} {i : Nat} (hd : decode M.2.1 pc = .ok (.baload, 1)) (hk : zk a = (1, N, t)) (hN : N < 1000) (hi : i < N) (kk : zJ X M d 0 0 (pc + 1) L (.int (mu a i) :: S) 86 (zEE mu nu) (zlift Q)) : zJ X M d 0 0 pc L (.int (nI i) :: .ref a :: S) 86 (zEE mu nu) (zlift Q) := by
  have hlt := zk_lt hk (by omega)
  refine z_zald hd (zEE_bool hk) hlt (zlt_mil hlt) (vp_in_nI hi (by omega)) ?_
  rw [nI_clamp (by omega)]
  exact kk
theorem y_iast {X : zX} {M : zM} {d pc : Nat} {L S : List Value} {mu : zmu} {nu : znu} {Q : zq} {a N : Nat} {t : List Nat} {i : Nat} {v : Int32} (hd : decode M.2.1 pc = .ok (.iastore, 1)) (hk : zk a = (0, N, t)) (hN : N < 1000) (hi : i < N) (kk : zJ X M d 0 0 (pc + 1) L S 86 (zEE (u2 mu a i v) nu) (zlift Q)) : zJ X M d 0 0 pc L (.int v :: .int (nI i) :: .ref a :: S) 86 (zEE mu nu) (zlift Q) := by
  have hlt := zk_lt hk (by omega)
  refine z_iast hd (zEE_int hk) hlt (zlt_mil hlt) (vp_in_nI hi (by omega)) ?_
  rw [nI_clamp (by omega), zEE_up (mu' := u2 mu a i v) (nu' := nu) (fun b hb => (u2_rowa hb).symm) (fun _ _ => rfl) (by rw [zEE_int hk, u2_row])]
  exact kk
theorem y_zast {X : zX} {M : zM} {d pc : Nat} {L S : List Value} {mu : zmu} {nu : znu} {Q : zq} {a N : Nat} {t : List Nat} {i : Nat} {v : Int32} (hd : decode M.2.1 pc = .ok (.bastore, 1)) (hk : zk a = (1, N, t)) (hN : N < 1000) (hi : i < N) (hv : v = 0 ∨ v = 1) (kk : zJ X M d 0 0 (pc + 1) L S 86 (zEE (u2 mu a i v) nu) (zlift Q)) : zJ X M d 0 0 pc L (.int v :: .int (nI i) :: .ref a :: S) 86 (zEE mu nu) (zlift Q) := by
  have hlt := zk_lt hk (by omega)
  refine z_zast hd (zEE_bool hk) hlt (zlt_mil hlt) (vp_in_nI hi (by omega)) (by rcases hv with rfl | rfl <;> decide) ?_
  rw [nI_clamp (by omega), zEE_up (mu' := u2 mu a i v) (nu' := nu) (fun b hb => (u2_rowa hb).symm) (fun _ _ => rfl) (by rw [zEE_bool hk, u2_row])]
  exact kk
theorem y_aald {X : zX} {M : zM} {d pc : Nat} {L S : List Value} {mu : zmu} {nu : znu} {Q : zq} {a N r : Nat} {t : List Nat} {i : Nat} (hd : decode M.2.1 pc = .ok (.aaload, 1)) (hk : zk a = (2, N, t)) (hN : N < 1000) (hi : i < N) (hr : t[i]? = some r) (hrm : r < 86) (kk : zJ X M d 0 0 (pc + 1) L (.ref r :: S) 86 (zEE mu nu) (zlift Q)) : zJ X M d 0 0 pc L (.int (nI i) :: .ref a :: S) 86 (zEE mu nu) (zlift Q) := by
  have hlt := zk_lt hk (by omega)
  refine z_aald hd (zEE_refs hk) hlt (zlt_mil hlt) (vp_in_nI hi (by omega)) (r := r) ?_ (zlt_mil hrm) kk
  rw [nI_clamp (by omega)]; exact hr
theorem y_copy {X : zX} {M : zM} {d pc : Nat} {L S : List Value} {mu : zmu} {nu : znu} {Q : zq} {idx a0 a1 N0 N1 : Nat} {t0 t1 : List Nat} {nn : Nat} (hd : decode M.2.1 pc = .ok (.invokestatic idx, 3)) (hlk : Cond.methodLink M.1.cls idx arraycopyName ∈ zU) (hk0 : zk a0 = (0, N0, t0)) (hk1 : zk a1 = (0, N1, t1)) (h0 : nn ≤ N0) (h1 : nn ≤ N1) (hN : N0 < 1000) (hp0 : 0 < N0) (hp1 : 0 < N1) (hdp : 1 ≤ d) (hst : (S.map fun v => v.category).sum ≤ 8) (kk : zJ X M d 0 0 (pc + 3) L S 86 (zEE (uR mu a1 (va_cpy (mu a0) (mu a1) 0 0 nn)) nu) (zlift Q)) : zJ X M d 0 0 pc L (.int (nI nn) :: .int (nI 0) :: .ref a1 :: .int (nI 0) :: .ref a0 :: S) 86 (zEE mu nu) (zlift Q) := by
  have hlt0 := zk_lt hk0 (by omega)
  have hlt1 := zk_lt hk1 (by omega)
  have hc0 : (nI 0).toNatClampNeg = 0 := nI_clamp (by omega)
  have hcn : (nI nn).toNatClampNeg = nn := nI_clamp (by omega)
  refine z_copy hd hlk na_arraycopy st_arraycopy ini_RJ10 (zEE_int hk0) (zEE_int hk1) hlt0 hlt1 (zlt_mil hlt0) (zlt_mil hlt1) (nI_pos (by omega)) (nI_pos (by omega)) (nI_pos (by omega)) (by rw [hc0, hcn]; omega) (by rw [hc0, hcn]; omega) hdp hst ?_
  rw [hc0, hcn, zEE_up (mu' := uR mu a1 (va_cpy (mu a0) (mu a1) 0 0 nn)) (nu' := nu) (fun b hb => (uR_a hb).symm) (fun _ _ => rfl) (by rw [zEE_int hk1, uR_s])]
  exact kk
theorem y_ireturn {X : zX} {M : zM} {d pc : Nat} {L : List Value} {mu : zmu} {nu : znu} {Q : zq} {v : Int32} (hd : decode M.2.1 pc = .ok (.ireturn, 1)) (hr : M.2.2.2 = some .int) (hq : Q (some (.int v)) mu nu) : zJ X M d 0 0 pc L [.int v] 86 (zEE mu nu) (zlift Q) := z_ireturn (k := 0) (S := []) hd hr rfl ⟨rfl, mu, nu, rfl, hq⟩
theorem y_zreturn {X : zX} {M : zM} {d pc : Nat} {L : List Value} {mu : zmu} {nu : znu} {Q : zq} {v : Int32} (hd : decode M.2.1 pc = .ok (.ireturn, 1)) (hr : M.2.2.2 = some .boolean) (hv : v = 0 ∨ v = 1) (hq : Q (some (.int v)) mu nu) : zJ X M d 0 0 pc L [.int v] 86 (zEE mu nu) (zlift Q) := z_ireturn (k := 0) (S := []) hd hr (by rcases hv with rfl | rfl <;> decide) ⟨rfl, mu, nu, rfl, hq⟩
theorem y_lreturn {X : zX} {M : zM} {d pc : Nat} {L : List Value} {mu : zmu} {nu : znu} {Q : zq} {v : Int64} (hd : decode M.2.1 pc = .ok (.lreturn, 1)) (hr : M.2.2.2 = some .long) (hq : Q (some (.long v)) mu nu) : zJ X M d 0 0 pc L [.long v] 86 (zEE mu nu) (zlift Q) := z_lreturn (k := 0) (S := []) hd hr ⟨rfl, mu, nu, rfl, hq⟩
theorem y_return {X : zX} {M : zM} {d pc : Nat} {L : List Value} {mu : zmu} {nu : znu} {Q : zq} (hd : decode M.2.1 pc = .ok (.return_, 1)) (hr : M.2.2.2 = none) (hq : Q none mu nu) : zJ X M d 0 0 pc L [] 86 (zEE mu nu) (zlift Q) := z_return (k := 0) (S := []) hd hr ⟨rfl, mu, nu, rfl, hq⟩
def zcv (M : zM) (na ci : Nat) : Prop := Cond.instanceMethod M.1 ∈ zU ∧ Cond.selects M.1.cls M.1 M.1 ∈ zU ∧ zcal M na ∧ ∃ T N, vwCl[ci]? = some (M.1.cls, T, N)
def zcs (M : zM) (na : Nat) : Prop := Cond.static M.1 ∈ zU ∧ zcal M na
theorem zlift_k {Q Q' : zq} {P : zQ} (kk : ∀ r mu' nu', Q' r mu' nu' → P r 86 (zEE mu' nu')) : ∀ r n' h', zlift Q' r n' h' → P r n' h' := by
  rintro r n' h' ⟨rfl, mu', nu', rfl, hq⟩
  exact kk r mu' nu' hq
theorem y_callV0 {X : zX} {M : zM} {d pc : Nat} {L S : List Value} {mu : zmu} {nu : znu} {Q : zq} {Q' : zq} {M' : zM} {idx ci a : Nat} {t : List Nat} {Lc : List Value} (hd : decode M.2.1 pc = .ok (.invokevirtual idx, 3)) (hlk : Cond.methodLink M.1.cls idx M'.1 ∈ zU) (hc : zcv M' 0 ci) (hk : zk a = (3, ci, t)) (hst : (S.map fun v => v.category).sum ≤ 8) (hlen : (zflat [.ref a]).length ≤ M'.2.2.1) (hLc : zargs M'.2.2.1 [.ref a] = Lc) (hJ : zJ X M' d 0 0 0 Lc [] 86 (zEE mu nu) (zlift Q')) (kk : ∀ r mu' nu', Q' r mu' nu' → zJ X M (d + 1) 0 0 (pc + 3) L (r.toList ++ S) 86 (zEE mu' nu') (zlift Q)) : zJ X M (d + 1) 0 0 pc L (.ref a :: S) 86 (zEE mu nu) (zlift Q) := by
  have hlt := zk_lt hk (by omega)
  obtain ⟨c1, c2, c3, T, N, c4⟩ := hc
  exact zCallV (As := []) (k1 := 0) (q1 := 0) (k := 0) (q := 0) hd hlk c1 c2 (zEE_obj hk) hlt c4 (zlt_mil hlt) c3 rfl hst hlen hLc hJ (zlift_k (Q := Q) (P := fun r n' h' => zJ X M (d + 1) 0 0 (pc + 3) L (r.toList ++ S) n' h' (zlift Q)) kk)
theorem y_callV0x {X : zX} {M : zM} {d pc : Nat} {L S : List Value} {mu : zmu} {nu : znu} {Q : zq} {rr : Option Value} {mu1 : zmu} {nu1 : znu} {M' : zM} {idx ci a : Nat} {t : List Nat} {Lc : List Value} (hd : decode M.2.1 pc = .ok (.invokevirtual idx, 3)) (hlk : Cond.methodLink M.1.cls idx M'.1 ∈ zU) (hc : zcv M' 0 ci) (hk : zk a = (3, ci, t)) (hst : (S.map fun v => v.category).sum ≤ 8) (hlen : (zflat [.ref a]).length ≤ M'.2.2.1) (hLc : zargs M'.2.2.1 [.ref a] = Lc) (hJ : zJ X M' d 0 0 0 Lc [] 86 (zEE mu nu) (zlift (zex rr mu1 nu1))) (kk : zJ X M (d + 1) 0 0 (pc + 3) L (rr.toList ++ S) 86 (zEE mu1 nu1) (zlift Q)) : zJ X M (d + 1) 0 0 pc L (.ref a :: S) 86 (zEE mu nu) (zlift Q) :=
  y_callV0 hd hlk hc hk hst hlen hLc hJ (by rintro r mu' nu' ⟨rfl, rfl, rfl⟩; exact kk)
theorem y_callV1 {X : zX} {M : zM} {d pc : Nat} {L S : List Value} {mu : zmu} {nu : znu} {Q : zq} {Q' : zq} {M' : zM} {idx ci a : Nat} {t : List Nat} {v1 : Value} {Lc : List Value} (hd : decode M.2.1 pc = .ok (.invokevirtual idx, 3)) (hlk : Cond.methodLink M.1.cls idx M'.1 ∈ zU) (hc : zcv M' 1 ci) (hk : zk a = (3, ci, t)) (hst : (S.map fun v => v.category).sum ≤ 8) (hlen : (zflat [.ref a, v1]).length ≤ M'.2.2.1) (hLc : zargs M'.2.2.1 [.ref a, v1] = Lc) (hJ : zJ X M' d 0 0 0 Lc [] 86 (zEE mu nu) (zlift Q')) (kk : ∀ r mu' nu', Q' r mu' nu' → zJ X M (d + 1) 0 0 (pc + 3) L (r.toList ++ S) 86 (zEE mu' nu') (zlift Q)) : zJ X M (d + 1) 0 0 pc L (v1 :: .ref a :: S) 86 (zEE mu nu) (zlift Q) := by
  have hlt := zk_lt hk (by omega)
  obtain ⟨c1, c2, c3, T, N, c4⟩ := hc
  exact zCallV (As := [v1]) (k1 := 0) (q1 := 0) (k := 0) (q := 0) hd hlk c1 c2 (zEE_obj hk) hlt c4 (zlt_mil hlt) c3 rfl hst hlen hLc hJ (zlift_k (Q := Q) (P := fun r n' h' => zJ X M (d + 1) 0 0 (pc + 3) L (r.toList ++ S) n' h' (zlift Q)) kk)
theorem y_callV1x {X : zX} {M : zM} {d pc : Nat} {L S : List Value} {mu : zmu} {nu : znu} {Q : zq} {rr : Option Value} {mu1 : zmu} {nu1 : znu} {M' : zM} {idx ci a : Nat} {t : List Nat} {v1 : Value} {Lc : List Value} (hd : decode M.2.1 pc = .ok (.invokevirtual idx, 3)) (hlk : Cond.methodLink M.1.cls idx M'.1 ∈ zU) (hc : zcv M' 1 ci) (hk : zk a = (3, ci, t)) (hst : (S.map fun v => v.category).sum ≤ 8) (hlen : (zflat [.ref a, v1]).length ≤ M'.2.2.1) (hLc : zargs M'.2.2.1 [.ref a, v1] = Lc) (hJ : zJ X M' d 0 0 0 Lc [] 86 (zEE mu nu) (zlift (zex rr mu1 nu1))) (kk : zJ X M (d + 1) 0 0 (pc + 3) L (rr.toList ++ S) 86 (zEE mu1 nu1) (zlift Q)) : zJ X M (d + 1) 0 0 pc L (v1 :: .ref a :: S) 86 (zEE mu nu) (zlift Q) :=
  y_callV1 hd hlk hc hk hst hlen hLc hJ (by rintro r mu' nu' ⟨rfl, rfl, rfl⟩; exact kk)
theorem y_callS1 {X : zX} {M : zM} {d pc : Nat} {L S : List Value} {mu : zmu} {nu : znu} {Q : zq} {Q' : zq} {M' : zM} {idx : Nat} {v1 : Value} {Lc : List Value} (hd : decode M.2.1 pc = .ok (.invokestatic idx, 3)) (hlk : Cond.methodLink M.1.cls idx M'.1 ∈ zU) (hc : zcs M' 1) (hst : (S.map fun v => v.category).sum ≤ 8) (hlen : (zflat [v1]).length ≤ M'.2.2.1) (hLc : zargs M'.2.2.1 [v1] = Lc) (hJ : zJ X M' d 0 0 0 Lc [] 86 (zEE mu nu) (zlift Q')) (kk : ∀ r mu' nu', Q' r mu' nu' → zJ X M (d + 1) 0 0 (pc + 3) L (r.toList ++ S) 86 (zEE mu' nu') (zlift Q)) : zJ X M (d + 1) 0 0 pc L (v1 :: S) 86 (zEE mu nu) (zlift Q) :=
  zCallS (As := [v1]) (k1 := 0) (q1 := 0) (k := 0) (q := 0) hd hlk hc.1 hc.2 rfl hst hlen hLc hJ (zlift_k (Q := Q) (P := fun r n' h' => zJ X M (d + 1) 0 0 (pc + 3) L (r.toList ++ S) n' h' (zlift Q)) kk)
theorem y_callS1x {X : zX} {M : zM} {d pc : Nat} {L S : List Value} {mu : zmu} {nu : znu} {Q : zq} {rr : Option Value} {mu1 : zmu} {nu1 : znu} {M' : zM} {idx : Nat} {v1 : Value} {Lc : List Value} (hd : decode M.2.1 pc = .ok (.invokestatic idx, 3)) (hlk : Cond.methodLink M.1.cls idx M'.1 ∈ zU) (hc : zcs M' 1) (hst : (S.map fun v => v.category).sum ≤ 8) (hlen : (zflat [v1]).length ≤ M'.2.2.1) (hLc : zargs M'.2.2.1 [v1] = Lc) (hJ : zJ X M' d 0 0 0 Lc [] 86 (zEE mu nu) (zlift (zex rr mu1 nu1))) (kk : zJ X M (d + 1) 0 0 (pc + 3) L (rr.toList ++ S) 86 (zEE mu1 nu1) (zlift Q)) : zJ X M (d + 1) 0 0 pc L (v1 :: S) 86 (zEE mu nu) (zlift Q) :=
  y_callS1 hd hlk hc hst hlen hLc hJ (by rintro r mu' nu' ⟨rfl, rfl, rfl⟩; exact kk)
theorem y_callSN1x {X : zX} {M : zM} {d pc : Nat} {L S : List Value} {mu : zmu} {nu : znu} {Q : zq} {rr : Option Value} {mu1 : zmu} {nu1 : znu} {M' : zM} {idx : Nat} {host : String} {v1 : Value} {Lc : List Value} (hd : decode M.2.1 pc = .ok (.invokestatic idx, 3)) (hlk : (M.1.cls, idx, M'.1, host) ∈ zN) (hc : zcs M' 1) (hst : (S.map fun v => v.category).sum ≤ 8) (hlen : (zflat [v1]).length ≤ M'.2.2.1) (hLc : zargs M'.2.2.1 [v1] = Lc) (hJ : zJ X M' d 0 0 0 Lc [] 86 (zEE mu nu) (zlift (zex rr mu1 nu1))) (kk : zJ X M (d + 1) 0 0 (pc + 3) L (rr.toList ++ S) 86 (zEE mu1 nu1) (zlift Q)) : zJ X M (d + 1) 0 0 pc L (v1 :: S) 86 (zEE mu nu) (zlift Q) :=
  zCallSN (As := [v1]) (k1 := 0) (q1 := 0) (k := 0) (q := 0) hd hlk hc.1 hc.2 rfl hst hlen hLc hJ (zlift_k (Q := Q) (P := fun r n' h' => zJ X M (d + 1) 0 0 (pc + 3) L (r.toList ++ S) n' h' (zlift Q)) (by rintro r mu' nu' ⟨rfl, rfl, rfl⟩; exact kk))
theorem y_callV2 {X : zX} {M : zM} {d pc : Nat} {L S : List Value} {mu : zmu} {nu : znu} {Q : zq} {Q' : zq} {M' : zM} {idx ci a : Nat} {t : List Nat} {v1 v2 : Value} {Lc : List Value} (hd : decode M.2.1 pc = .ok (.invokevirtual idx, 3)) (hlk : Cond.methodLink M.1.cls idx M'.1 ∈ zU) (hc : zcv M' 2 ci) (hk : zk a = (3, ci, t)) (hst : (S.map fun v => v.category).sum ≤ 8) (hlen : (zflat [.ref a, v1, v2]).length ≤ M'.2.2.1) (hLc : zargs M'.2.2.1 [.ref a, v1, v2] = Lc) (hJ : zJ X M' d 0 0 0 Lc [] 86 (zEE mu nu) (zlift Q')) (kk : ∀ r mu' nu', Q' r mu' nu' → zJ X M (d + 1) 0 0 (pc + 3) L (r.toList ++ S) 86 (zEE mu' nu') (zlift Q)) : zJ X M (d + 1) 0 0 pc L (v2 :: v1 :: .ref a :: S) 86 (zEE mu nu) (zlift Q) := by
  have hlt := zk_lt hk (by omega)
  obtain ⟨c1, c2, c3, T, N, c4⟩ := hc
  exact zCallV (As := [v1, v2]) (k1 := 0) (q1 := 0) (k := 0) (q := 0) hd hlk c1 c2 (zEE_obj hk) hlt c4 (zlt_mil hlt) c3 rfl hst hlen hLc hJ (zlift_k (Q := Q) (P := fun r n' h' => zJ X M (d + 1) 0 0 (pc + 3) L (r.toList ++ S) n' h' (zlift Q)) kk)
theorem y_callV2x {X : zX} {M : zM} {d pc : Nat} {L S : List Value} {mu : zmu} {nu : znu} {Q : zq} {rr : Option Value} {mu1 : zmu} {nu1 : znu} {M' : zM} {idx ci a : Nat} {t : List Nat} {v1 v2 : Value} {Lc : List Value} (hd : decode M.2.1 pc = .ok (.invokevirtual idx, 3)) (hlk : Cond.methodLink M.1.cls idx M'.1 ∈ zU) (hc : zcv M' 2 ci) (hk : zk a = (3, ci, t)) (hst : (S.map fun v => v.category).sum ≤ 8) (hlen : (zflat [.ref a, v1, v2]).length ≤ M'.2.2.1) (hLc : zargs M'.2.2.1 [.ref a, v1, v2] = Lc) (hJ : zJ X M' d 0 0 0 Lc [] 86 (zEE mu nu) (zlift (zex rr mu1 nu1))) (kk : zJ X M (d + 1) 0 0 (pc + 3) L (rr.toList ++ S) 86 (zEE mu1 nu1) (zlift Q)) : zJ X M (d + 1) 0 0 pc L (v2 :: v1 :: .ref a :: S) 86 (zEE mu nu) (zlift Q) :=
  y_callV2 hd hlk hc hk hst hlen hLc hJ (by rintro r mu' nu' ⟨rfl, rfl, rfl⟩; exact kk)
theorem y_callS2 {X : zX} {M : zM} {d pc : Nat} {L S : List Value} {mu : zmu} {nu : znu} {Q : zq} {Q' : zq} {M' : zM} {idx : Nat} {v1 v2 : Value} {Lc : List Value} (hd : decode M.2.1 pc = .ok (.invokestatic idx, 3)) (hlk : Cond.methodLink M.1.cls idx M'.1 ∈ zU) (hc : zcs M' 2) (hst : (S.map fun v => v.category).sum ≤ 8) (hlen : (zflat [v1, v2]).length ≤ M'.2.2.1) (hLc : zargs M'.2.2.1 [v1, v2] = Lc) (hJ : zJ X M' d 0 0 0 Lc [] 86 (zEE mu nu) (zlift Q')) (kk : ∀ r mu' nu', Q' r mu' nu' → zJ X M (d + 1) 0 0 (pc + 3) L (r.toList ++ S) 86 (zEE mu' nu') (zlift Q)) : zJ X M (d + 1) 0 0 pc L (v2 :: v1 :: S) 86 (zEE mu nu) (zlift Q) :=
  zCallS (As := [v1, v2]) (k1 := 0) (q1 := 0) (k := 0) (q := 0) hd hlk hc.1 hc.2 rfl hst hlen hLc hJ (zlift_k (Q := Q) (P := fun r n' h' => zJ X M (d + 1) 0 0 (pc + 3) L (r.toList ++ S) n' h' (zlift Q)) kk)
theorem y_callS2x {X : zX} {M : zM} {d pc : Nat} {L S : List Value} {mu : zmu} {nu : znu} {Q : zq} {rr : Option Value} {mu1 : zmu} {nu1 : znu} {M' : zM} {idx : Nat} {v1 v2 : Value} {Lc : List Value} (hd : decode M.2.1 pc = .ok (.invokestatic idx, 3)) (hlk : Cond.methodLink M.1.cls idx M'.1 ∈ zU) (hc : zcs M' 2) (hst : (S.map fun v => v.category).sum ≤ 8) (hlen : (zflat [v1, v2]).length ≤ M'.2.2.1) (hLc : zargs M'.2.2.1 [v1, v2] = Lc) (hJ : zJ X M' d 0 0 0 Lc [] 86 (zEE mu nu) (zlift (zex rr mu1 nu1))) (kk : zJ X M (d + 1) 0 0 (pc + 3) L (rr.toList ++ S) 86 (zEE mu1 nu1) (zlift Q)) : zJ X M (d + 1) 0 0 pc L (v2 :: v1 :: S) 86 (zEE mu nu) (zlift Q) :=
  y_callS2 hd hlk hc hst hlen hLc hJ (by rintro r mu' nu' ⟨rfl, rfl, rfl⟩; exact kk)
theorem y_callSN2x {X : zX} {M : zM} {d pc : Nat} {L S : List Value} {mu : zmu} {nu : znu} {Q : zq} {rr : Option Value} {mu1 : zmu} {nu1 : znu} {M' : zM} {idx : Nat} {host : String} {v1 v2 : Value} {Lc : List Value} (hd : decode M.2.1 pc = .ok (.invokestatic idx, 3)) (hlk : (M.1.cls, idx, M'.1, host) ∈ zN) (hc : zcs M' 2) (hst : (S.map fun v => v.category).sum ≤ 8) (hlen : (zflat [v1, v2]).length ≤ M'.2.2.1) (hLc : zargs M'.2.2.1 [v1, v2] = Lc) (hJ : zJ X M' d 0 0 0 Lc [] 86 (zEE mu nu) (zlift (zex rr mu1 nu1))) (kk : zJ X M (d + 1) 0 0 (pc + 3) L (rr.toList ++ S) 86 (zEE mu1 nu1) (zlift Q)) : zJ X M (d + 1) 0 0 pc L (v2 :: v1 :: S) 86 (zEE mu nu) (zlift Q) :=
  zCallSN (As := [v1, v2]) (k1 := 0) (q1 := 0) (k := 0) (q := 0) hd hlk hc.1 hc.2 rfl hst hlen hLc hJ (zlift_k (Q := Q) (P := fun r n' h' => zJ X M (d + 1) 0 0 (pc + 3) L (r.toList ++ S) n' h' (zlift Q)) (by rintro r mu' nu' ⟨rfl, rfl, rfl⟩; exact kk))
theorem y_callV3 {X : zX} {M : zM} {d pc : Nat} {L S : List Value} {mu : zmu} {nu : znu} {Q : zq} {Q' : zq} {M' : zM} {idx ci a : Nat} {t : List Nat} {v1 v2 v3 : Value} {Lc : List Value} (hd : decode M.2.1 pc = .ok (.invokevirtual idx, 3)) (hlk : Cond.methodLink M.1.cls idx M'.1 ∈ zU) (hc : zcv M' 3 ci) (hk : zk a = (3, ci, t)) (hst : (S.map fun v => v.category).sum ≤ 8) (hlen : (zflat [.ref a, v1, v2, v3]).length ≤ M'.2.2.1) (hLc : zargs M'.2.2.1 [.ref a, v1, v2, v3] = Lc) (hJ : zJ X M' d 0 0 0 Lc [] 86 (zEE mu nu) (zlift Q')) (kk : ∀ r mu' nu', Q' r mu' nu' → zJ X M (d + 1) 0 0 (pc + 3) L (r.toList ++ S) 86 (zEE mu' nu') (zlift Q)) : zJ X M (d + 1) 0 0 pc L (v3 :: v2 :: v1 :: .ref a :: S) 86 (zEE mu nu) (zlift Q) := by
  have hlt := zk_lt hk (by omega)
  obtain ⟨c1, c2, c3, T, N, c4⟩ := hc
  exact zCallV (As := [v1, v2, v3]) (k1 := 0) (q1 := 0) (k := 0) (q := 0) hd hlk c1 c2 (zEE_obj hk) hlt c4 (zlt_mil hlt) c3 rfl hst hlen hLc hJ (zlift_k (Q := Q) (P := fun r n' h' => zJ X M (d + 1) 0 0 (pc + 3) L (r.toList ++ S) n' h' (zlift Q)) kk)
theorem y_callV3x {X : zX} {M : zM} {d pc : Nat} {L S : List Value} {mu : zmu} {nu : znu} {Q : zq} {rr : Option Value} {mu1 : zmu} {nu1 : znu} {M' : zM} {idx ci a : Nat} {t : List Nat} {v1 v2 v3 : Value} {Lc : List Value} (hd : decode M.2.1 pc = .ok (.invokevirtual idx, 3)) (hlk : Cond.methodLink M.1.cls idx M'.1 ∈ zU) (hc : zcv M' 3 ci) (hk : zk a = (3, ci, t)) (hst : (S.map fun v => v.category).sum ≤ 8) (hlen : (zflat [.ref a, v1, v2, v3]).length ≤ M'.2.2.1) (hLc : zargs M'.2.2.1 [.ref a, v1, v2, v3] = Lc) (hJ : zJ X M' d 0 0 0 Lc [] 86 (zEE mu nu) (zlift (zex rr mu1 nu1))) (kk : zJ X M (d + 1) 0 0 (pc + 3) L (rr.toList ++ S) 86 (zEE mu1 nu1) (zlift Q)) : zJ X M (d + 1) 0 0 pc L (v3 :: v2 :: v1 :: .ref a :: S) 86 (zEE mu nu) (zlift Q) :=
  y_callV3 hd hlk hc hk hst hlen hLc hJ (by rintro r mu' nu' ⟨rfl, rfl, rfl⟩; exact kk)
theorem y_callS3 {X : zX} {M : zM} {d pc : Nat} {L S : List Value} {mu : zmu} {nu : znu} {Q : zq} {Q' : zq} {M' : zM} {idx : Nat} {v1 v2 v3 : Value} {Lc : List Value} (hd : decode M.2.1 pc = .ok (.invokestatic idx, 3)) (hlk : Cond.methodLink M.1.cls idx M'.1 ∈ zU) (hc : zcs M' 3) (hst : (S.map fun v => v.category).sum ≤ 8) (hlen : (zflat [v1, v2, v3]).length ≤ M'.2.2.1) (hLc : zargs M'.2.2.1 [v1, v2, v3] = Lc) (hJ : zJ X M' d 0 0 0 Lc [] 86 (zEE mu nu) (zlift Q')) (kk : ∀ r mu' nu', Q' r mu' nu' → zJ X M (d + 1) 0 0 (pc + 3) L (r.toList ++ S) 86 (zEE mu' nu') (zlift Q)) : zJ X M (d + 1) 0 0 pc L (v3 :: v2 :: v1 :: S) 86 (zEE mu nu) (zlift Q) :=
  zCallS (As := [v1, v2, v3]) (k1 := 0) (q1 := 0) (k := 0) (q := 0) hd hlk hc.1 hc.2 rfl hst hlen hLc hJ (zlift_k (Q := Q) (P := fun r n' h' => zJ X M (d + 1) 0 0 (pc + 3) L (r.toList ++ S) n' h' (zlift Q)) kk)
theorem y_callS3x {X : zX} {M : zM} {d pc : Nat} {L S : List Value} {mu : zmu} {nu : znu} {Q : zq} {rr : Option Value} {mu1 : zmu} {nu1 : znu} {M' : zM} {idx : Nat} {v1 v2 v3 : Value} {Lc : List Value} (hd : decode M.2.1 pc = .ok (.invokestatic idx, 3)) (hlk : Cond.methodLink M.1.cls idx M'.1 ∈ zU) (hc : zcs M' 3) (hst : (S.map fun v => v.category).sum ≤ 8) (hlen : (zflat [v1, v2, v3]).length ≤ M'.2.2.1) (hLc : zargs M'.2.2.1 [v1, v2, v3] = Lc) (hJ : zJ X M' d 0 0 0 Lc [] 86 (zEE mu nu) (zlift (zex rr mu1 nu1))) (kk : zJ X M (d + 1) 0 0 (pc + 3) L (rr.toList ++ S) 86 (zEE mu1 nu1) (zlift Q)) : zJ X M (d + 1) 0 0 pc L (v3 :: v2 :: v1 :: S) 86 (zEE mu nu) (zlift Q) :=
  y_callS3 hd hlk hc hst hlen hLc hJ (by rintro r mu' nu' ⟨rfl, rfl, rfl⟩; exact kk)
theorem y_callSN3x {X : zX} {M : zM} {d pc : Nat} {L S : List Value} {mu : zmu} {nu : znu} {Q : zq} {rr : Option Value} {mu1 : zmu} {nu1 : znu} {M' : zM} {idx : Nat} {host : String} {v1 v2 v3 : Value} {Lc : List Value} (hd : decode M.2.1 pc = .ok (.invokestatic idx, 3)) (hlk : (M.1.cls, idx, M'.1, host) ∈ zN) (hc : zcs M' 3) (hst : (S.map fun v => v.category).sum ≤ 8) (hlen : (zflat [v1, v2, v3]).length ≤ M'.2.2.1) (hLc : zargs M'.2.2.1 [v1, v2, v3] = Lc) (hJ : zJ X M' d 0 0 0 Lc [] 86 (zEE mu nu) (zlift (zex rr mu1 nu1))) (kk : zJ X M (d + 1) 0 0 (pc + 3) L (rr.toList ++ S) 86 (zEE mu1 nu1) (zlift Q)) : zJ X M (d + 1) 0 0 pc L (v3 :: v2 :: v1 :: S) 86 (zEE mu nu) (zlift Q) :=
  zCallSN (As := [v1, v2, v3]) (k1 := 0) (q1 := 0) (k := 0) (q := 0) hd hlk hc.1 hc.2 rfl hst hlen hLc hJ (zlift_k (Q := Q) (P := fun r n' h' => zJ X M (d + 1) 0 0 (pc + 3) L (r.toList ++ S) n' h' (zlift Q)) (by rintro r mu' nu' ⟨rfl, rfl, rfl⟩; exact kk))
theorem y_callV4 {X : zX} {M : zM} {d pc : Nat} {L S : List Value} {mu : zmu} {nu : znu} {Q : zq} {Q' : zq} {M' : zM} {idx ci a : Nat} {t : List Nat} {v1 v2 v3 v4 : Value} {Lc : List Value} (hd : decode M.2.1 pc = .ok (.invokevirtual idx, 3)) (hlk : Cond.methodLink M.1.cls idx M'.1 ∈ zU) (hc : zcv M' 4 ci) (hk : zk a = (3, ci, t)) (hst : (S.map fun v => v.category).sum ≤ 8) (hlen : (zflat [.ref a, v1, v2, v3, v4]).length ≤ M'.2.2.1) (hLc : zargs M'.2.2.1 [.ref a, v1, v2, v3, v4] = Lc) (hJ : zJ X M' d 0 0 0 Lc [] 86 (zEE mu nu) (zlift Q')) (kk : ∀ r mu' nu', Q' r mu' nu' → zJ X M (d + 1) 0 0 (pc + 3) L (r.toList ++ S) 86 (zEE mu' nu') (zlift Q)) : zJ X M (d + 1) 0 0 pc L (v4 :: v3 :: v2 :: v1 :: .ref a :: S) 86 (zEE mu nu) (zlift Q) := by
  have hlt := zk_lt hk (by omega)
  obtain ⟨c1, c2, c3, T, N, c4⟩ := hc
  exact zCallV (As := [v1, v2, v3, v4]) (k1 := 0) (q1 := 0) (k := 0) (q := 0) hd hlk c1 c2 (zEE_obj hk) hlt c4 (zlt_mil hlt) c3 rfl hst hlen hLc hJ (zlift_k (Q := Q) (P := fun r n' h' => zJ X M (d + 1) 0 0 (pc + 3) L (r.toList ++ S) n' h' (zlift Q)) kk)
theorem y_callV4x {X : zX} {M : zM} {d pc : Nat} {L S : List Value} {mu : zmu} {nu : znu} {Q : zq} {rr : Option Value} {mu1 : zmu} {nu1 : znu} {M' : zM} {idx ci a : Nat} {t : List Nat} {v1 v2 v3 v4 : Value} {Lc : List Value} (hd : decode M.2.1 pc = .ok (.invokevirtual idx, 3)) (hlk : Cond.methodLink M.1.cls idx M'.1 ∈ zU) (hc : zcv M' 4 ci) (hk : zk a = (3, ci, t)) (hst : (S.map fun v => v.category).sum ≤ 8) (hlen : (zflat [.ref a, v1, v2, v3, v4]).length ≤ M'.2.2.1) (hLc : zargs M'.2.2.1 [.ref a, v1, v2, v3, v4] = Lc) (hJ : zJ X M' d 0 0 0 Lc [] 86 (zEE mu nu) (zlift (zex rr mu1 nu1))) (kk : zJ X M (d + 1) 0 0 (pc + 3) L (rr.toList ++ S) 86 (zEE mu1 nu1) (zlift Q)) : zJ X M (d + 1) 0 0 pc L (v4 :: v3 :: v2 :: v1 :: .ref a :: S) 86 (zEE mu nu) (zlift Q) :=
  y_callV4 hd hlk hc hk hst hlen hLc hJ (by rintro r mu' nu' ⟨rfl, rfl, rfl⟩; exact kk)
theorem y_callS4 {X : zX} {M : zM} {d pc : Nat} {L S : List Value} {mu : zmu} {nu : znu} {Q : zq} {Q' : zq} {M' : zM} {idx : Nat} {v1 v2 v3 v4 : Value} {Lc : List Value} (hd : decode M.2.1 pc = .ok (.invokestatic idx, 3)) (hlk : Cond.methodLink M.1.cls idx M'.1 ∈ zU) (hc : zcs M' 4) (hst : (S.map fun v => v.category).sum ≤ 8) (hlen : (zflat [v1, v2, v3, v4]).length ≤ M'.2.2.1) (hLc : zargs M'.2.2.1 [v1, v2, v3, v4] = Lc) (hJ : zJ X M' d 0 0 0 Lc [] 86 (zEE mu nu) (zlift Q')) (kk : ∀ r mu' nu', Q' r mu' nu' → zJ X M (d + 1) 0 0 (pc + 3) L (r.toList ++ S) 86 (zEE mu' nu') (zlift Q)) : zJ X M (d + 1) 0 0 pc L (v4 :: v3 :: v2 :: v1 :: S) 86 (zEE mu nu) (zlift Q) :=
  zCallS (As := [v1, v2, v3, v4]) (k1 := 0) (q1 := 0) (k := 0) (q := 0) hd hlk hc.1 hc.2 rfl hst hlen hLc hJ (zlift_k (Q := Q) (P := fun r n' h' => zJ X M (d + 1) 0 0 (pc + 3) L (r.toList ++ S) n' h' (zlift Q)) kk)
theorem y_callS4x {X : zX} {M : zM} {d pc : Nat} {L S : List Value} {mu : zmu} {nu : znu} {Q : zq} {rr : Option Value} {mu1 : zmu} {nu1 : znu} {M' : zM} {idx : Nat} {v1 v2 v3 v4 : Value} {Lc : List Value} (hd : decode M.2.1 pc = .ok (.invokestatic idx, 3)) (hlk : Cond.methodLink M.1.cls idx M'.1 ∈ zU) (hc : zcs M' 4) (hst : (S.map fun v => v.category).sum ≤ 8) (hlen : (zflat [v1, v2, v3, v4]).length ≤ M'.2.2.1) (hLc : zargs M'.2.2.1 [v1, v2, v3, v4] = Lc) (hJ : zJ X M' d 0 0 0 Lc [] 86 (zEE mu nu) (zlift (zex rr mu1 nu1))) (kk : zJ X M (d + 1) 0 0 (pc + 3) L (rr.toList ++ S) 86 (zEE mu1 nu1) (zlift Q)) : zJ X M (d + 1) 0 0 pc L (v4 :: v3 :: v2 :: v1 :: S) 86 (zEE mu nu) (zlift Q) :=
  y_callS4 hd hlk hc hst hlen hLc hJ (by rintro r mu' nu' ⟨rfl, rfl, rfl⟩; exact kk)
theorem y_callSN4x {X : zX} {M : zM} {d pc : Nat} {L S : List Value} {mu : zmu} {nu : znu} {Q : zq} {rr : Option Value} {mu1 : zmu} {nu1 : znu} {M' : zM} {idx : Nat} {host : String} {v1 v2 v3 v4 : Value} {Lc : List Value} (hd : decode M.2.1 pc = .ok (.invokestatic idx, 3)) (hlk : (M.1.cls, idx, M'.1, host) ∈ zN) (hc : zcs M' 4) (hst : (S.map fun v => v.category).sum ≤ 8) (hlen : (zflat [v1, v2, v3, v4]).length ≤ M'.2.2.1) (hLc : zargs M'.2.2.1 [v1, v2, v3, v4] = Lc) (hJ : zJ X M' d 0 0 0 Lc [] 86 (zEE mu nu) (zlift (zex rr mu1 nu1))) (kk : zJ X M (d + 1) 0 0 (pc + 3) L (rr.toList ++ S) 86 (zEE mu1 nu1) (zlift Q)) : zJ X M (d + 1) 0 0 pc L (v4 :: v3 :: v2 :: v1 :: S) 86 (zEE mu nu) (zlift Q) :=
  zCallSN (As := [v1, v2, v3, v4]) (k1 := 0) (q1 := 0) (k := 0) (q := 0) hd hlk hc.1 hc.2 rfl hst hlen hLc hJ (zlift_k (Q := Q) (P := fun r n' h' => zJ X M (d + 1) 0 0 (pc + 3) L (r.toList ++ S) n' h' (zlift Q)) (by rintro r mu' nu' ⟨rfl, rfl, rfl⟩; exact kk))
theorem y_callV5 {X : zX} {M : zM} {d pc : Nat} {L S : List Value} {mu : zmu} {nu : znu} {Q : zq} {Q' : zq} {M' : zM} {idx ci a : Nat} {t : List Nat} {v1 v2 v3 v4 v5 : Value} {Lc : List Value} (hd : decode M.2.1 pc = .ok (.invokevirtual idx, 3)) (hlk : Cond.methodLink M.1.cls idx M'.1 ∈ zU) (hc : zcv M' 5 ci) (hk : zk a = (3, ci, t)) (hst : (S.map fun v => v.category).sum ≤ 8) (hlen : (zflat [.ref a, v1, v2, v3, v4, v5]).length ≤ M'.2.2.1) (hLc : zargs M'.2.2.1 [.ref a, v1, v2, v3, v4, v5] = Lc) (hJ : zJ X M' d 0 0 0 Lc [] 86 (zEE mu nu) (zlift Q')) (kk : ∀ r mu' nu', Q' r mu' nu' → zJ X M (d + 1) 0 0 (pc + 3) L (r.toList ++ S) 86 (zEE mu' nu') (zlift Q)) : zJ X M (d + 1) 0 0 pc L (v5 :: v4 :: v3 :: v2 :: v1 :: .ref a :: S) 86 (zEE mu nu) (zlift Q) := by
  have hlt := zk_lt hk (by omega)
  obtain ⟨c1, c2, c3, T, N, c4⟩ := hc
  exact zCallV (As := [v1, v2, v3, v4, v5]) (k1 := 0) (q1 := 0) (k := 0) (q := 0) hd hlk c1 c2 (zEE_obj hk) hlt c4 (zlt_mil hlt) c3 rfl hst hlen hLc hJ (zlift_k (Q := Q) (P := fun r n' h' => zJ X M (d + 1) 0 0 (pc + 3) L (r.toList ++ S) n' h' (zlift Q)) kk)
theorem y_callV5x {X : zX} {M : zM} {d pc : Nat} {L S : List Value} {mu : zmu} {nu : znu} {Q : zq} {rr : Option Value} {mu1 : zmu} {nu1 : znu} {M' : zM} {idx ci a : Nat} {t : List Nat} {v1 v2 v3 v4 v5 : Value} {Lc : List Value} (hd : decode M.2.1 pc = .ok (.invokevirtual idx, 3)) (hlk : Cond.methodLink M.1.cls idx M'.1 ∈ zU) (hc : zcv M' 5 ci) (hk : zk a = (3, ci, t)) (hst : (S.map fun v => v.category).sum ≤ 8) (hlen : (zflat [.ref a, v1, v2, v3, v4, v5]).length ≤ M'.2.2.1) (hLc : zargs M'.2.2.1 [.ref a, v1, v2, v3, v4, v5] = Lc) (hJ : zJ X M' d 0 0 0 Lc [] 86 (zEE mu nu) (zlift (zex rr mu1 nu1))) (kk : zJ X M (d + 1) 0 0 (pc + 3) L (rr.toList ++ S) 86 (zEE mu1 nu1) (zlift Q)) : zJ X M (d + 1) 0 0 pc L (v5 :: v4 :: v3 :: v2 :: v1 :: .ref a :: S) 86 (zEE mu nu) (zlift Q) :=
  y_callV5 hd hlk hc hk hst hlen hLc hJ (by rintro r mu' nu' ⟨rfl, rfl, rfl⟩; exact kk)
theorem y_callS5 {X : zX} {M : zM} {d pc : Nat} {L S : List Value} {mu : zmu} {nu : znu} {Q : zq} {Q' : zq} {M' : zM} {idx : Nat} {v1 v2 v3 v4 v5 : Value} {Lc : List Value} (hd : decode M.2.1 pc = .ok (.invokestatic idx, 3)) (hlk : Cond.methodLink M.1.cls idx M'.1 ∈ zU) (hc : zcs M' 5) (hst : (S.map fun v => v.category).sum ≤ 8) (hlen : (zflat [v1, v2, v3, v4, v5]).length ≤ M'.2.2.1) (hLc : zargs M'.2.2.1 [v1, v2, v3, v4, v5] = Lc) (hJ : zJ X M' d 0 0 0 Lc [] 86 (zEE mu nu) (zlift Q')) (kk : ∀ r mu' nu', Q' r mu' nu' → zJ X M (d + 1) 0 0 (pc + 3) L (r.toList ++ S) 86 (zEE mu' nu') (zlift Q)) : zJ X M (d + 1) 0 0 pc L (v5 :: v4 :: v3 :: v2 :: v1 :: S) 86 (zEE mu nu) (zlift Q) :=
  zCallS (As := [v1, v2, v3, v4, v5]) (k1 := 0) (q1 := 0) (k := 0) (q := 0) hd hlk hc.1 hc.2 rfl hst hlen hLc hJ (zlift_k (Q := Q) (P := fun r n' h' => zJ X M (d + 1) 0 0 (pc + 3) L (r.toList ++ S) n' h' (zlift Q)) kk)
theorem y_callS5x {X : zX} {M : zM} {d pc : Nat} {L S : List Value} {mu : zmu} {nu : znu} {Q : zq} {rr : Option Value} {mu1 : zmu} {nu1 : znu} {M' : zM} {idx : Nat} {v1 v2 v3 v4 v5 : Value} {Lc : List Value} (hd : decode M.2.1 pc = .ok (.invokestatic idx, 3)) (hlk : Cond.methodLink M.1.cls idx M'.1 ∈ zU) (hc : zcs M' 5) (hst : (S.map fun v => v.category).sum ≤ 8) (hlen : (zflat [v1, v2, v3, v4, v5]).length ≤ M'.2.2.1) (hLc : zargs M'.2.2.1 [v1, v2, v3, v4, v5] = Lc) (hJ : zJ X M' d 0 0 0 Lc [] 86 (zEE mu nu) (zlift (zex rr mu1 nu1))) (kk : zJ X M (d + 1) 0 0 (pc + 3) L (rr.toList ++ S) 86 (zEE mu1 nu1) (zlift Q)) : zJ X M (d + 1) 0 0 pc L (v5 :: v4 :: v3 :: v2 :: v1 :: S) 86 (zEE mu nu) (zlift Q) :=
  y_callS5 hd hlk hc hst hlen hLc hJ (by rintro r mu' nu' ⟨rfl, rfl, rfl⟩; exact kk)
theorem y_callSN5x {X : zX} {M : zM} {d pc : Nat} {L S : List Value} {mu : zmu} {nu : znu} {Q : zq} {rr : Option Value} {mu1 : zmu} {nu1 : znu} {M' : zM} {idx : Nat} {host : String} {v1 v2 v3 v4 v5 : Value} {Lc : List Value} (hd : decode M.2.1 pc = .ok (.invokestatic idx, 3)) (hlk : (M.1.cls, idx, M'.1, host) ∈ zN) (hc : zcs M' 5) (hst : (S.map fun v => v.category).sum ≤ 8) (hlen : (zflat [v1, v2, v3, v4, v5]).length ≤ M'.2.2.1) (hLc : zargs M'.2.2.1 [v1, v2, v3, v4, v5] = Lc) (hJ : zJ X M' d 0 0 0 Lc [] 86 (zEE mu nu) (zlift (zex rr mu1 nu1))) (kk : zJ X M (d + 1) 0 0 (pc + 3) L (rr.toList ++ S) 86 (zEE mu1 nu1) (zlift Q)) : zJ X M (d + 1) 0 0 pc L (v5 :: v4 :: v3 :: v2 :: v1 :: S) 86 (zEE mu nu) (zlift Q) :=
  zCallSN (As := [v1, v2, v3, v4, v5]) (k1 := 0) (q1 := 0) (k := 0) (q := 0) hd hlk hc.1 hc.2 rfl hst hlen hLc hJ (zlift_k (Q := Q) (P := fun r n' h' => zJ X M (d + 1) 0 0 (pc + 3) L (r.toList ++ S) n' h' (zlift Q)) (by rintro r mu' nu' ⟨rfl, rfl, rfl⟩; exact kk))
theorem cv_X3_layOut : zcv M_X3_layOut 0 3 := ⟨im_X3_layOut, sl_X3_layOut, cal_X3_layOut, TX3, _, rfl⟩
theorem cv_X3_layRow : zcv M_X3_layRow 2 3 := ⟨im_X3_layRow, sl_X3_layRow, cal_X3_layRow, TX3, _, rfl⟩
theorem cv_X3_lay : zcv M_X3_lay 5 3 := ⟨im_X3_lay, sl_X3_lay, cal_X3_lay, TX3, _, rfl⟩
theorem cv_X3_rowOn : zcv M_X3_rowOn 2 3 := ⟨im_X3_rowOn, sl_X3_rowOn, cal_X3_rowOn, TX3, _, rfl⟩
theorem cv_X3_layColumn : zcv M_X3_layColumn 2 3 := ⟨im_X3_layColumn, sl_X3_layColumn, cal_X3_layColumn, TX3, _, rfl⟩
theorem cv_X8_write : zcv M_X8_write 1 8 := ⟨im_X8_write, sl_X8_write, cal_X8_write, TX8, _, rfl⟩
theorem cv_X7_add : zcv M_X7_add 1 7 := ⟨im_X7_add, sl_X7_add, cal_X7_add, TX7, _, rfl⟩
theorem cv_X8_wipe : zcv M_X8_wipe 0 8 := ⟨im_X8_wipe, sl_X8_wipe, cal_X8_wipe, TX8, _, rfl⟩
theorem cv_X8_fault : zcv M_X8_fault 0 8 := ⟨im_X8_fault, sl_X8_fault, cal_X8_fault, TX8, _, rfl⟩
theorem cv_X7_firstFault : zcv M_X7_firstFault 0 7 := ⟨im_X7_firstFault, sl_X7_firstFault, cal_X7_firstFault, TX7, _, rfl⟩
theorem cv_X7_fits : zcv M_X7_fits 1 7 := ⟨im_X7_fits, sl_X7_fits, cal_X7_fits, TX7, _, rfl⟩
theorem cv_X7_cells : zcv M_X7_cells 0 7 := ⟨im_X7_cells, sl_X7_cells, cal_X7_cells, TX7, _, rfl⟩
theorem cs_X7_kindOf : zcs M_X7_kindOf 1 := ⟨st_X7_kindOf, cal_X7_kindOf⟩
theorem cv_X7_fitsInBoy : zcv M_X7_fitsInBoy 2 7 := ⟨im_X7_fitsInBoy, sl_X7_fitsInBoy, cal_X7_fitsInBoy, TX7, _, rfl⟩
theorem cv_X7_hasFreeCell : zcv M_X7_hasFreeCell 0 7 := ⟨im_X7_hasFreeCell, sl_X7_hasFreeCell, cal_X7_hasFreeCell, TX7, _, rfl⟩
theorem cv_X7_isFreeCell : zcv M_X7_isFreeCell 1 7 := ⟨im_X7_isFreeCell, sl_X7_isFreeCell, cal_X7_isFreeCell, TX7, _, rfl⟩
theorem cv_X7_isWhole : zcv M_X7_isWhole 0 7 := ⟨im_X7_isWhole, sl_X7_isWhole, cal_X7_isWhole, TX7, _, rfl⟩
theorem cv_X8_paper : zcv M_X8_paper 0 8 := ⟨im_X8_paper, sl_X8_paper, cal_X8_paper, TX8, _, rfl⟩
theorem cv_X3_readFrom : zcv M_X3_readFrom 1 3 := ⟨im_X3_readFrom, sl_X3_readFrom, cal_X3_readFrom, TX3, _, rfl⟩
theorem cv_X7_figure : zcv M_X7_figure 1 7 := ⟨im_X7_figure, sl_X7_figure, cal_X7_figure, TX7, _, rfl⟩
theorem cv_X7_boys : zcv M_X7_boys 0 7 := ⟨im_X7_boys, sl_X7_boys, cal_X7_boys, TX7, _, rfl⟩
theorem cv_X7_kindOfCell : zcv M_X7_kindOfCell 1 7 := ⟨im_X7_kindOfCell, sl_X7_kindOfCell, cal_X7_kindOfCell, TX7, _, rfl⟩
theorem cv_X7_homeOfBoy : zcv M_X7_homeOfBoy 1 7 := ⟨im_X7_homeOfBoy, sl_X7_homeOfBoy, cal_X7_homeOfBoy, TX7, _, rfl⟩
theorem cv_X7_kindOfBoy : zcv M_X7_kindOfBoy 1 7 := ⟨im_X7_kindOfBoy, sl_X7_kindOfBoy, cal_X7_kindOfBoy, TX7, _, rfl⟩
theorem cv_X4_begin : zcv M_X4_begin 0 4 := ⟨im_X4_begin, sl_X4_begin, cal_X4_begin, TX4, _, rfl⟩
theorem cv_X4_homePlace : zcv M_X4_homePlace 1 4 := ⟨im_X4_homePlace, sl_X4_homePlace, cal_X4_homePlace, TX4, _, rfl⟩
theorem cv_X0_forgetAll : zcv M_X0_forgetAll 0 0 := ⟨im_X0_forgetAll, sl_X0_forgetAll, cal_X0_forgetAll, TX0, _, rfl⟩
theorem cv_X8_about : zcv M_X8_about 1 8 := ⟨im_X8_about, sl_X8_about, cal_X8_about, TX8, _, rfl⟩
theorem cv_X4_cellsOfKind : zcv M_X4_cellsOfKind 1 4 := ⟨im_X4_cellsOfKind, sl_X4_cellsOfKind, cal_X4_cellsOfKind, TX4, _, rfl⟩
theorem cv_X4_kindAt : zcv M_X4_kindAt 1 4 := ⟨im_X4_kindAt, sl_X4_kindAt, cal_X4_kindAt, TX4, _, rfl⟩
theorem cv_X4_whoIsHome : zcv M_X4_whoIsHome 0 4 := ⟨im_X4_whoIsHome, sl_X4_whoIsHome, cal_X4_whoIsHome, TX4, _, rfl⟩
theorem cv_X4_isHome : zcv M_X4_isHome 1 4 := ⟨im_X4_isHome, sl_X4_isHome, cal_X4_isHome, TX4, _, rfl⟩
theorem cv_X8_cell : zcv M_X8_cell 1 8 := ⟨im_X8_cell, sl_X8_cell, cal_X8_cell, TX8, _, rfl⟩
theorem cv_X3_hasCell : zcv M_X3_hasCell 1 3 := ⟨im_X3_hasCell, sl_X3_hasCell, cal_X3_hasCell, TX3, _, rfl⟩
theorem cv_X8_beside : zcv M_X8_beside 3 8 := ⟨im_X8_beside, sl_X8_beside, cal_X8_beside, TX8, _, rfl⟩
theorem cs_X8_isWay : zcs M_X8_isWay 1 := ⟨st_X8_isWay, cal_X8_isWay⟩
theorem cv_X3_cellBeside : zcv M_X3_cellBeside 3 3 := ⟨im_X3_cellBeside, sl_X3_cellBeside, cal_X3_cellBeside, TX3, _, rfl⟩
theorem cv_X8_boy : zcv M_X8_boy 2 8 := ⟨im_X8_boy, sl_X8_boy, cal_X8_boy, TX8, _, rfl⟩
theorem cv_X3_hasBoy : zcv M_X3_hasBoy 1 3 := ⟨im_X3_hasBoy, sl_X3_hasBoy, cal_X3_hasBoy, TX3, _, rfl⟩
theorem cs_X8_cellOf : zcs M_X8_cellOf 1 := ⟨st_X8_cellOf, cal_X8_cellOf⟩
theorem cs_X8_widthOf : zcs M_X8_widthOf 1 := ⟨st_X8_widthOf, cal_X8_widthOf⟩
theorem cs_X8_heightOf : zcs M_X8_heightOf 1 := ⟨st_X8_heightOf, cal_X8_heightOf⟩
theorem cv_X4_waysOpen : zcv M_X4_waysOpen 1 4 := ⟨im_X4_waysOpen, sl_X4_waysOpen, cal_X4_waysOpen, TX4, _, rfl⟩
theorem cv_X4_placeOn : zcv M_X4_placeOn 3 4 := ⟨im_X4_placeOn, sl_X4_placeOn, cal_X4_placeOn, TX4, _, rfl⟩
theorem cv_X3_goesStraight : zcv M_X3_goesStraight 1 3 := ⟨im_X3_goesStraight, sl_X3_goesStraight, cal_X3_goesStraight, TX3, _, rfl⟩
theorem cv_X3_placeBeside : zcv M_X3_placeBeside 3 3 := ⟨im_X3_placeBeside, sl_X3_placeBeside, cal_X3_placeBeside, TX3, _, rfl⟩
theorem cv_X4_canBe : zcv M_X4_canBe 2 4 := ⟨im_X4_canBe, sl_X4_canBe, cal_X4_canBe, TX4, _, rfl⟩
theorem cv_X8_step : zcv M_X8_step 2 8 := ⟨im_X8_step, sl_X8_step, cal_X8_step, TX8, _, rfl⟩
theorem cv_X0_remember : zcv M_X0_remember 1 0 := ⟨im_X0_remember, sl_X0_remember, cal_X0_remember, TX0, _, rfl⟩
theorem cv_X4_become : zcv M_X4_become 1 4 := ⟨im_X4_become, sl_X4_become, cal_X4_become, TX4, _, rfl⟩
theorem cv_X4_goes : zcv M_X4_goes 2 4 := ⟨im_X4_goes, sl_X4_goes, cal_X4_goes, TX4, _, rfl⟩
theorem cv_X8_call : zcv M_X8_call 1 8 := ⟨im_X8_call, sl_X8_call, cal_X8_call, TX8, _, rfl⟩
theorem cv_X4_bringHome : zcv M_X4_bringHome 1 4 := ⟨im_X4_bringHome, sl_X4_bringHome, cal_X4_bringHome, TX4, _, rfl⟩
theorem cv_X4_doesHear : zcv M_X4_doesHear 2 4 := ⟨im_X4_doesHear, sl_X4_doesHear, cal_X4_doesHear, TX4, _, rfl⟩
theorem cv_X8_cut : zcv M_X8_cut 1 8 := ⟨im_X8_cut, sl_X8_cut, cal_X8_cut, TX8, _, rfl⟩
theorem cv_X4_cutAway : zcv M_X4_cutAway 1 4 := ⟨im_X4_cutAway, sl_X4_cutAway, cal_X4_cutAway, TX4, _, rfl⟩
theorem cs_J6_bitCount_0f7a4 : zcs M_J6_bitCount_0f7a4 1 := ⟨st_J6_bitCount_0f7a4, cal_J6_bitCount_0f7a4⟩
theorem cv_X8_undo : zcv M_X8_undo 0 8 := ⟨im_X8_undo, sl_X8_undo, cal_X8_undo, TX8, _, rfl⟩
theorem cv_X0_takeBack : zcv M_X0_takeBack 1 0 := ⟨im_X0_takeBack, sl_X0_takeBack, cal_X0_takeBack, TX0, _, rfl⟩
theorem cv_X8_far : zcv M_X8_far 1 8 := ⟨im_X8_far, sl_X8_far, cal_X8_far, TX8, _, rfl⟩
theorem cv_X5_stepsHome : zcv M_X5_stepsHome 2 5 := ⟨im_X5_stepsHome, sl_X5_stepsHome, cal_X5_stepsHome, TX5, _, rfl⟩
theorem cv_X5_spread : zcv M_X5_spread 3 5 := ⟨im_X5_spread, sl_X5_spread, cal_X5_spread, TX5, _, rfl⟩
theorem cv_X5_clear : zcv M_X5_clear 0 5 := ⟨im_X5_clear, sl_X5_clear, cal_X5_clear, TX5, _, rfl⟩
theorem cv_X5_put : zcv M_X5_put 2 5 := ⟨im_X5_put, sl_X5_put, cal_X5_put, TX5, _, rfl⟩
theorem cv_X8_reach : zcv M_X8_reach 2 8 := ⟨im_X8_reach, sl_X8_reach, cal_X8_reach, TX8, _, rfl⟩
theorem cv_X5_cellsWithin : zcv M_X5_cellsWithin 3 5 := ⟨im_X5_cellsWithin, sl_X5_cellsWithin, cal_X5_cellsWithin, TX5, _, rfl⟩
theorem cv_X8_again : zcv M_X8_again 2 8 := ⟨im_X8_again, sl_X8_again, cal_X8_again, TX8, _, rfl⟩
theorem cv_X8_stepsRound : zcv M_X8_stepsRound 2 8 := ⟨im_X8_stepsRound, sl_X8_stepsRound, cal_X8_stepsRound, TX8, _, rfl⟩
theorem cv_X8_alike : zcv M_X8_alike 1 8 := ⟨im_X8_alike, sl_X8_alike, cal_X8_alike, TX8, _, rfl⟩
theorem cv_X8_looksLike : zcv M_X8_looksLike 2 8 := ⟨im_X8_looksLike, sl_X8_looksLike, cal_X8_looksLike, TX8, _, rfl⟩
theorem cv_X8_calls : zcv M_X8_calls 1 8 := ⟨im_X8_calls, sl_X8_calls, cal_X8_calls, TX8, _, rfl⟩
theorem cv_X1_cellsToCall : zcv M_X1_cellsToCall 1 1 := ⟨im_X1_cellsToCall, sl_X1_cellsToCall, cal_X1_cellsToCall, TX1, _, rfl⟩
theorem cv_X1_hearers : zcv M_X1_hearers 2 1 := ⟨im_X1_hearers, sl_X1_hearers, cal_X1_hearers, TX1, _, rfl⟩
theorem cv_X1_addCell : zcv M_X1_addCell 2 1 := ⟨im_X1_addCell, sl_X1_addCell, cal_X1_addCell, TX1, _, rfl⟩
theorem cv_X8_match : zcv M_X8_match 1 8 := ⟨im_X8_match, sl_X8_match, cal_X8_match, TX8, _, rfl⟩
theorem cv_X8_unlikeRows : zcv M_X8_unlikeRows 1 8 := ⟨im_X8_unlikeRows, sl_X8_unlikeRows, cal_X8_unlikeRows, TX8, _, rfl⟩
theorem cv_X8_judge : zcv M_X8_judge 2 8 := ⟨im_X8_judge, sl_X8_judge, cal_X8_judge, TX8, _, rfl⟩
theorem cv_X8_holds : zcv M_X8_holds 3 8 := ⟨im_X8_holds, sl_X8_holds, cal_X8_holds, TX8, _, rfl⟩
theorem cv_X8_share : zcv M_X8_share 2 8 := ⟨im_X8_share, sl_X8_share, cal_X8_share, TX8, _, rfl⟩
theorem cv_X5_sixtiethsShared : zcv M_X5_sixtiethsShared 2 5 := ⟨im_X5_sixtiethsShared, sl_X5_sixtiethsShared, cal_X5_sixtiethsShared, TX5, _, rfl⟩
theorem cs_X8_told : zcs M_X8_told 3 := ⟨st_X8_told, cal_X8_told⟩
theorem cs_X8_commonDivisor : zcs M_X8_commonDivisor 2 := ⟨st_X8_commonDivisor, cal_X8_commonDivisor⟩
theorem cv_X8_see : zcv M_X8_see 3 8 := ⟨im_X8_see, sl_X8_see, cal_X8_see, TX8, _, rfl⟩
theorem cs_X8_inSight : zcs M_X8_inSight 1 := ⟨st_X8_inSight, cal_X8_inSight⟩
theorem cv_X6_add : zcv M_X6_add 3 6 := ⟨im_X6_add, sl_X6_add, cal_X6_add, TX6, _, rfl⟩
theorem cv_X8_unsee : zcv M_X8_unsee 0 8 := ⟨im_X8_unsee, sl_X8_unsee, cal_X8_unsee, TX8, _, rfl⟩
theorem cv_X8_stands : zcv M_X8_stands 0 8 := ⟨im_X8_stands, sl_X8_stands, cal_X8_stands, TX8, _, rfl⟩
theorem cv_X6_isSoFrom : zcv M_X6_isSoFrom 2 6 := ⟨im_X6_isSoFrom, sl_X6_isSoFrom, cal_X6_isSoFrom, TX6, _, rfl⟩
theorem cs_X6_cellOff : zcs M_X6_cellOff 5 := ⟨st_X6_cellOff, cal_X6_cellOff⟩
theorem cv_X8_rests : zcv M_X8_rests 3 8 := ⟨im_X8_rests, sl_X8_rests, cal_X8_rests, TX8, _, rfl⟩
theorem cv_X2_lookAt : zcv M_X2_lookAt 2 2 := ⟨im_X2_lookAt, sl_X2_lookAt, cal_X2_lookAt, TX2, _, rfl⟩
theorem cv_X8_countOfRests : zcv M_X8_countOfRests 0 8 := ⟨im_X8_countOfRests, sl_X8_countOfRests, cal_X8_countOfRests, TX8, _, rfl⟩
theorem cv_X8_isRest : zcv M_X8_isRest 2 8 := ⟨im_X8_isRest, sl_X8_isRest, cal_X8_isRest, TX8, _, rfl⟩
theorem cv_X2_worth : zcv M_X2_worth 3 2 := ⟨im_X2_worth, sl_X2_worth, cal_X2_worth, TX2, _, rfl⟩
theorem cv_X8_firstRest : zcv M_X8_firstRest 0 8 := ⟨im_X8_firstRest, sl_X8_firstRest, cal_X8_firstRest, TX8, _, rfl⟩
theorem cv_X8_strays : zcv M_X8_strays 3 8 := ⟨im_X8_strays, sl_X8_strays, cal_X8_strays, TX8, _, rfl⟩
theorem cs_X8_walksHome : zcs M_X8_walksHome 4 := ⟨st_X8_walksHome, cal_X8_walksHome⟩
theorem cv_X8_seed : zcv M_X8_seed 1 8 := ⟨im_X8_seed, sl_X8_seed, cal_X8_seed, TX8, _, rfl⟩
theorem cv_X8_nights : zcv M_X8_nights 1 8 := ⟨im_X8_nights, sl_X8_nights, cal_X8_nights, TX8, _, rfl⟩
theorem cv_X8_happens : zcv M_X8_happens 1 8 := ⟨im_X8_happens, sl_X8_happens, cal_X8_happens, TX8, _, rfl⟩
theorem cv_X4_countNotHome : zcv M_X4_countNotHome 0 4 := ⟨im_X4_countNotHome, sl_X4_countNotHome, cal_X4_countNotHome, TX4, _, rfl⟩
theorem cv_X8_keep : zcv M_X8_keep 1 8 := ⟨im_X8_keep, sl_X8_keep, cal_X8_keep, TX8, _, rfl⟩
theorem cv_X8_goOn : zcv M_X8_goOn 1 8 := ⟨im_X8_goOn, sl_X8_goOn, cal_X8_goOn, TX8, _, rfl⟩
theorem cv_X9_write : zcv M_X9_write 1 9 := ⟨im_X9_write, sl_X9_write, cal_X9_write, TX9, _, rfl⟩
theorem cs_X9_in : zcs M_X9_in 3 := ⟨st_X9_in, cal_X9_in⟩
theorem cv_X9_wipe : zcv M_X9_wipe 0 9 := ⟨im_X9_wipe, sl_X9_wipe, cal_X9_wipe, TX9, _, rfl⟩
theorem cv_X9_fault : zcv M_X9_fault 0 9 := ⟨im_X9_fault, sl_X9_fault, cal_X9_fault, TX9, _, rfl⟩
theorem cv_X9_readPaper : zcv M_X9_readPaper 0 9 := ⟨im_X9_readPaper, sl_X9_readPaper, cal_X9_readPaper, TX9, _, rfl⟩
theorem cv_X9_readPattern : zcv M_X9_readPattern 0 9 := ⟨im_X9_readPattern, sl_X9_readPattern, cal_X9_readPattern, TX9, _, rfl⟩
theorem cv_X9_from : zcv M_X9_from 3 9 := ⟨im_X9_from, sl_X9_from, cal_X9_from, TX9, _, rfl⟩
theorem cv_X9_readKind : zcv M_X9_readKind 0 9 := ⟨im_X9_readKind, sl_X9_readKind, cal_X9_readKind, TX9, _, rfl⟩
theorem cv_X9_readOneBoy : zcv M_X9_readOneBoy 0 9 := ⟨im_X9_readOneBoy, sl_X9_readOneBoy, cal_X9_readOneBoy, TX9, _, rfl⟩
theorem cv_X9_hasRoom : zcv M_X9_hasRoom 0 9 := ⟨im_X9_hasRoom, sl_X9_hasRoom, cal_X9_hasRoom, TX9, _, rfl⟩
theorem cv_X9_paper : zcv M_X9_paper 0 9 := ⟨im_X9_paper, sl_X9_paper, cal_X9_paper, TX9, _, rfl⟩
theorem cv_X9_about : zcv M_X9_about 1 9 := ⟨im_X9_about, sl_X9_about, cal_X9_about, TX9, _, rfl⟩
theorem cv_X9_cellsOf : zcv M_X9_cellsOf 1 9 := ⟨im_X9_cellsOf, sl_X9_cellsOf, cal_X9_cellsOf, TX9, _, rfl⟩
theorem cv_X9_kindOf : zcv M_X9_kindOf 2 9 := ⟨im_X9_kindOf, sl_X9_kindOf, cal_X9_kindOf, TX9, _, rfl⟩
theorem cs_X9_has : zcs M_X9_has 2 := ⟨st_X9_has, cal_X9_has⟩
theorem cv_X9_homes : zcv M_X9_homes 1 9 := ⟨im_X9_homes, sl_X9_homes, cal_X9_homes, TX9, _, rfl⟩
theorem cv_X9_isHome : zcv M_X9_isHome 2 9 := ⟨im_X9_isHome, sl_X9_isHome, cal_X9_isHome, TX9, _, rfl⟩
theorem cv_X9_cell : zcv M_X9_cell 1 9 := ⟨im_X9_cell, sl_X9_cell, cal_X9_cell, TX9, _, rfl⟩
theorem cv_X9_noCell : zcv M_X9_noCell 1 9 := ⟨im_X9_noCell, sl_X9_noCell, cal_X9_noCell, TX9, _, rfl⟩
theorem cv_X9_beside : zcv M_X9_beside 3 9 := ⟨im_X9_beside, sl_X9_beside, cal_X9_beside, TX9, _, rfl⟩
theorem cs_X9_noWay : zcs M_X9_noWay 1 := ⟨st_X9_noWay, cal_X9_noWay⟩
theorem cv_X9_cellBeside : zcv M_X9_cellBeside 3 9 := ⟨im_X9_cellBeside, sl_X9_cellBeside, cal_X9_cellBeside, TX9, _, rfl⟩
theorem cv_X9_goWay : zcv M_X9_goWay 2 9 := ⟨im_X9_goWay, sl_X9_goWay, cal_X9_goWay, TX9, _, rfl⟩
theorem cv_X9_boy : zcv M_X9_boy 2 9 := ⟨im_X9_boy, sl_X9_boy, cal_X9_boy, TX9, _, rfl⟩
theorem cv_X9_noBoy : zcv M_X9_noBoy 1 9 := ⟨im_X9_noBoy, sl_X9_noBoy, cal_X9_noBoy, TX9, _, rfl⟩
theorem cv_X9_waysOf : zcv M_X9_waysOf 1 9 := ⟨im_X9_waysOf, sl_X9_waysOf, cal_X9_waysOf, TX9, _, rfl⟩
theorem cv_X9_canGo : zcv M_X9_canGo 3 9 := ⟨im_X9_canGo, sl_X9_canGo, cal_X9_canGo, TX9, _, rfl⟩
theorem cv_X9_stand : zcv M_X9_stand 2 9 := ⟨im_X9_stand, sl_X9_stand, cal_X9_stand, TX9, _, rfl⟩
theorem cv_X9_isThere : zcv M_X9_isThere 0 9 := ⟨im_X9_isThere, sl_X9_isThere, cal_X9_isThere, TX9, _, rfl⟩
theorem cv_X9_canBe : zcv M_X9_canBe 3 9 := ⟨im_X9_canBe, sl_X9_canBe, cal_X9_canBe, TX9, _, rfl⟩
theorem cv_X9_step : zcv M_X9_step 2 9 := ⟨im_X9_step, sl_X9_step, cal_X9_step, TX9, _, rfl⟩
theorem cv_X9_note : zcv M_X9_note 0 9 := ⟨im_X9_note, sl_X9_note, cal_X9_note, TX9, _, rfl⟩
theorem cv_X9_goStep : zcv M_X9_goStep 3 9 := ⟨im_X9_goStep, sl_X9_goStep, cal_X9_goStep, TX9, _, rfl⟩
theorem cv_X9_call : zcv M_X9_call 1 9 := ⟨im_X9_call, sl_X9_call, cal_X9_call, TX9, _, rfl⟩
theorem cv_X9_away : zcv M_X9_away 1 9 := ⟨im_X9_away, sl_X9_away, cal_X9_away, TX9, _, rfl⟩
theorem cs_X9_many : zcs M_X9_many 1 := ⟨st_X9_many, cal_X9_many⟩
theorem cv_X9_goCall : zcv M_X9_goCall 2 9 := ⟨im_X9_goCall, sl_X9_goCall, cal_X9_goCall, TX9, _, rfl⟩
theorem cv_X9_hears : zcv M_X9_hears 3 9 := ⟨im_X9_hears, sl_X9_hears, cal_X9_hears, TX9, _, rfl⟩
theorem cv_X9_cut : zcv M_X9_cut 1 9 := ⟨im_X9_cut, sl_X9_cut, cal_X9_cut, TX9, _, rfl⟩
theorem cv_X9_undo : zcv M_X9_undo 0 9 := ⟨im_X9_undo, sl_X9_undo, cal_X9_undo, TX9, _, rfl⟩
theorem cv_X9_far : zcv M_X9_far 1 9 := ⟨im_X9_far, sl_X9_far, cal_X9_far, TX9, _, rfl⟩
theorem cv_X9_layFar : zcv M_X9_layFar 1 9 := ⟨im_X9_layFar, sl_X9_layFar, cal_X9_layFar, TX9, _, rfl⟩
theorem cv_X9_spotNumber : zcv M_X9_spotNumber 0 9 := ⟨im_X9_spotNumber, sl_X9_spotNumber, cal_X9_spotNumber, TX9, _, rfl⟩
theorem cv_X9_reach : zcv M_X9_reach 2 9 := ⟨im_X9_reach, sl_X9_reach, cal_X9_reach, TX9, _, rfl⟩
theorem cv_X9_reachOf : zcv M_X9_reachOf 2 9 := ⟨im_X9_reachOf, sl_X9_reachOf, cal_X9_reachOf, TX9, _, rfl⟩
theorem cv_X9_again : zcv M_X9_again 2 9 := ⟨im_X9_again, sl_X9_again, cal_X9_again, TX9, _, rfl⟩
theorem cv_X9_alike : zcv M_X9_alike 1 9 := ⟨im_X9_alike, sl_X9_alike, cal_X9_alike, TX9, _, rfl⟩
theorem cv_X9_areAlike : zcv M_X9_areAlike 2 9 := ⟨im_X9_areAlike, sl_X9_areAlike, cal_X9_areAlike, TX9, _, rfl⟩
theorem cv_X9_calls : zcv M_X9_calls 1 9 := ⟨im_X9_calls, sl_X9_calls, cal_X9_calls, TX9, _, rfl⟩
theorem cv_X9_fewest : zcv M_X9_fewest 0 9 := ⟨im_X9_fewest, sl_X9_fewest, cal_X9_fewest, TX9, _, rfl⟩
theorem cs_X9_nextOf : zcs M_X9_nextOf 1 := ⟨st_X9_nextOf, cal_X9_nextOf⟩
theorem cv_X9_match : zcv M_X9_match 1 9 := ⟨im_X9_match, sl_X9_match, cal_X9_match, TX9, _, rfl⟩
theorem cv_X9_unlikeBy : zcv M_X9_unlikeBy 1 9 := ⟨im_X9_unlikeBy, sl_X9_unlikeBy, cal_X9_unlikeBy, TX9, _, rfl⟩
theorem cv_X9_judge : zcv M_X9_judge 2 9 := ⟨im_X9_judge, sl_X9_judge, cal_X9_judge, TX9, _, rfl⟩
theorem cs_X9_longPower : zcs M_X9_longPower 2 := ⟨st_X9_longPower, cal_X9_longPower⟩
theorem cv_X9_begin : zcv M_X9_begin 0 9 := ⟨im_X9_begin, sl_X9_begin, cal_X9_begin, TX9, _, rfl⟩
theorem cv_X9_does : zcv M_X9_does 1 9 := ⟨im_X9_does, sl_X9_does, cal_X9_does, TX9, _, rfl⟩
theorem cv_X9_share : zcv M_X9_share 2 9 := ⟨im_X9_share, sl_X9_share, cal_X9_share, TX9, _, rfl⟩
theorem cs_X9_ways : zcs M_X9_ways 1 := ⟨st_X9_ways, cal_X9_ways⟩
theorem cs_X9_fraction : zcs M_X9_fraction 3 := ⟨st_X9_fraction, cal_X9_fraction⟩
theorem cs_X9_divisor : zcs M_X9_divisor 2 := ⟨st_X9_divisor, cal_X9_divisor⟩
theorem cv_X9_see : zcv M_X9_see 3 9 := ⟨im_X9_see, sl_X9_see, cal_X9_see, TX9, _, rfl⟩
theorem cv_X9_unsee : zcv M_X9_unsee 0 9 := ⟨im_X9_unsee, sl_X9_unsee, cal_X9_unsee, TX9, _, rfl⟩
theorem cv_X9_stands : zcv M_X9_stands 0 9 := ⟨im_X9_stands, sl_X9_stands, cal_X9_stands, TX9, _, rfl⟩
theorem cv_X9_cellFrom : zcv M_X9_cellFrom 3 9 := ⟨im_X9_cellFrom, sl_X9_cellFrom, cal_X9_cellFrom, TX9, _, rfl⟩
theorem cv_X9_rests : zcv M_X9_rests 3 9 := ⟨im_X9_rests, sl_X9_rests, cal_X9_rests, TX9, _, rfl⟩
theorem cv_X9_layGains : zcv M_X9_layGains 3 9 := ⟨im_X9_layGains, sl_X9_layGains, cal_X9_layGains, TX9, _, rfl⟩
theorem cv_X9_strays : zcv M_X9_strays 3 9 := ⟨im_X9_strays, sl_X9_strays, cal_X9_strays, TX9, _, rfl⟩
theorem cs_X9_power : zcs M_X9_power 2 := ⟨st_X9_power, cal_X9_power⟩
theorem cv_X9_seed : zcv M_X9_seed 1 9 := ⟨im_X9_seed, sl_X9_seed, cal_X9_seed, TX9, _, rfl⟩
theorem cv_X9_nights : zcv M_X9_nights 1 9 := ⟨im_X9_nights, sl_X9_nights, cal_X9_nights, TX9, _, rfl⟩
theorem cv_X9_keep : zcv M_X9_keep 1 9 := ⟨im_X9_keep, sl_X9_keep, cal_X9_keep, TX9, _, rfl⟩
theorem cv_X9_goOn : zcv M_X9_goOn 1 9 := ⟨im_X9_goOn, sl_X9_goOn, cal_X9_goOn, TX9, _, rfl⟩
