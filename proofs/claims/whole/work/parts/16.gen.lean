abbrev zsh : Type := Nat → Nat × Nat × List Nat
def zEg (sh : zsh) (mu : zmu) (nu : znu) : zH := fun a => zEc mu nu a (sh a)
def zlg (sh : zsh) (n : Nat) (Q : zq) : zQ := fun r n' h => n' = n ∧ ∃ mu nu, h = zEg sh mu nu ∧ Q r mu nu
theorem zEg_k (mu : zmu) (nu : znu) : zEg zk mu nu = zEE mu nu := rfl
theorem zlg_k (Q : zq) : zlg zk 86 Q = zlift Q := rfl
theorem zEg_up {sh : zsh} {mu mu' : zmu} {nu nu' : znu} {a : Nat} {e : zE} (h1 : ∀ b, b ≠ a → mu b = mu' b) (h2 : ∀ b, b ≠ a → nu b = nu' b) (he : e = zEg sh mu' nu' a) : va_up (zEg sh mu nu) a e = zEg sh mu' nu' := by
  funext b
  by_cases hb : b = a
  · subst hb; simp [va_up, he]
  · simp only [va_up, if_neg hb]; exact zEc_mu (h1 b hb) (h2 b hb) _
theorem zEg_obj {sh : zsh} {mu : zmu} {nu : znu} {a ci : Nat} {t : List Nat} (hk : sh a = (3, ci, t)) : zEg sh mu nu a = .inr (ci, t.zipIdx.map (zfv mu nu a)) := by simp only [zEg, hk, zEc]
theorem zEg_int {sh : zsh} {mu : zmu} {nu : znu} {a n : Nat} {t : List Nat} (hk : sh a = (0, n, t)) : zEg sh mu nu a = .inl (0, n, .inl (mu a)) := by simp only [zEg, hk, zEc]
theorem w_getI {X : zX} {M : zM} {d pc : Nat} {L S : List Value} {n : Nat} {sh : zsh} {mu : zmu} {nu : znu} {Q : zq} {idx ci j a : Nat} {t : List Nat} {v : Int32} (hd : decode M.2.1 pc = .ok (.getfield idx, 3)) (hl : zfl M.1.cls idx ci j) (hk : sh a = (3, ci, t)) (han : a < n) (ham : a < 86) (ht : t[j]? = some 0) (hv : mu a j = v) (kk : zJ X M d 0 0 (pc + 3) L (.int v :: S) n (zEg sh mu nu) (zlg sh n Q)) : zJ X M d 0 0 pc L (.ref a :: S) n (zEg sh mu nu) (zlg sh n Q) := by
  subst hv
  exact z_getf hd hl (zEg_obj hk) han (zlt_mil ham) (by simp [List.getElem?_map, List.getElem?_zipIdx, ht, zfv]) kk
theorem w_getR {X : zX} {M : zM} {d pc : Nat} {L S : List Value} {n : Nat} {sh : zsh} {mu : zmu} {nu : znu} {Q : zq} {idx ci j a r : Nat} {t : List Nat} (hd : decode M.2.1 pc = .ok (.getfield idx, 3)) (hl : zfl M.1.cls idx ci j) (hk : sh a = (3, ci, t)) (han : a < n) (ham : a < 86) (ht : t[j]? = some (r + 2)) (kk : zJ X M d 0 0 (pc + 3) L (.ref r :: S) n (zEg sh mu nu) (zlg sh n Q)) : zJ X M d 0 0 pc L (.ref a :: S) n (zEg sh mu nu) (zlg sh n Q) := by
  exact z_getf hd hl (zEg_obj hk) han (zlt_mil ham) (by simp [List.getElem?_map, List.getElem?_zipIdx, ht, zfv]) kk
theorem w_putI {X : zX} {M : zM} {d pc : Nat} {L S : List Value} {n : Nat} {sh : zsh} {mu : zmu} {nu : znu} {Q : zq} {idx ci j a : Nat} {t : List Nat} {v : Int32} (hd : decode M.2.1 pc = .ok (.putfield idx, 3)) (hl : zpf M.1.cls idx ci j false .int) (hk : sh a = (3, ci, t)) (han : a < n) (ham : a < 86) (ht : t[j]? = some 0) (kk : zJ X M d 0 0 (pc + 3) L S n (zEg sh (u2 mu a j v) nu) (zlg sh n Q)) : zJ X M d 0 0 pc L (.int v :: .ref a :: S) n (zEg sh mu nu) (zlg sh n Q) := by
  refine z_putf hd hl (zEg_obj hk) han (zlt_mil ham) (fun _ _ => ⟨rfl, rfl⟩) (by simpa using (List.getElem?_eq_some_iff.mp ht).1) ?_
  rw [zEg_up (mu' := u2 mu a j v) (nu' := nu) (fun b hb => (u2_rowa hb).symm) (fun _ _ => rfl) (by rw [zEg_obj hk, zput_list ht])]
  exact kk
theorem w_iast {X : zX} {M : zM} {d pc : Nat} {L S : List Value} {n : Nat} {sh : zsh} {mu : zmu} {nu : znu} {Q : zq} {a N : Nat} {t : List Nat} {i : Nat} {v : Int32} (hd : decode M.2.1 pc = .ok (.iastore, 1)) (hk : sh a = (0, N, t)) (han : a < n) (ham : a < 86) (hN : N < 1000) (hi : i < N) (kk : zJ X M d 0 0 (pc + 1) L S n (zEg sh (u2 mu a i v) nu) (zlg sh n Q)) : zJ X M d 0 0 pc L (.int v :: .int (nI i) :: .ref a :: S) n (zEg sh mu nu) (zlg sh n Q) := by
  refine z_iast hd (zEg_int hk) han (zlt_mil ham) (vp_in_nI hi (by omega)) ?_
  rw [nI_clamp (by omega), zEg_up (mu' := u2 mu a i v) (nu' := nu) (fun b hb => (u2_rowa hb).symm) (fun _ _ => rfl) (by rw [zEg_int hk, u2_row])]
  exact kk
theorem w_ireturn {X : zX} {M : zM} {d pc : Nat} {L : List Value} {n : Nat} {sh : zsh} {mu : zmu} {nu : znu} {Q : zq} {v : Int32} (hd : decode M.2.1 pc = .ok (.ireturn, 1)) (hr : M.2.2.2 = some .int) (hq : Q (some (.int v)) mu nu) : zJ X M d 0 0 pc L [.int v] n (zEg sh mu nu) (zlg sh n Q) := z_ireturn (k := 0) (S := []) hd hr rfl ⟨rfl, mu, nu, rfl, hq⟩
theorem w_return {X : zX} {M : zM} {d pc : Nat} {L : List Value} {n : Nat} {sh : zsh} {mu : zmu} {nu : znu} {Q : zq} (hd : decode M.2.1 pc = .ok (.return_, 1)) (hr : M.2.2.2 = none) (hq : Q none mu nu) : zJ X M d 0 0 pc L [] n (zEg sh mu nu) (zlg sh n Q) := z_return (k := 0) (S := []) hd hr ⟨rfl, mu, nu, rfl, hq⟩
theorem w_callV0x {X : zX} {M : zM} {d pc : Nat} {L S : List Value} {n : Nat} {sh : zsh} {mu : zmu} {nu : znu} {Q : zq} {rr : Option Value} {mu1 : zmu} {nu1 : znu} {M' : zM} {idx ci a : Nat} {t : List Nat} {Lc : List Value} (hd : decode M.2.1 pc = .ok (.invokevirtual idx, 3)) (hlk : Cond.methodLink M.1.cls idx M'.1 ∈ zU) (hc : zcv M' 0 ci) (hk : sh a = (3, ci, t)) (han : a < n) (ham : a < 86) (hst : (S.map fun v => v.category).sum ≤ 8) (hlen : (zflat [.ref a]).length ≤ M'.2.2.1) (hLc : zargs M'.2.2.1 [.ref a] = Lc) (hJ : zJ X M' d 0 0 0 Lc [] n (zEg sh mu nu) (zlg sh n (zex rr mu1 nu1))) (kk : zJ X M (d + 1) 0 0 (pc + 3) L (rr.toList ++ S) n (zEg sh mu1 nu1) (zlg sh n Q)) : zJ X M (d + 1) 0 0 pc L (.ref a :: S) n (zEg sh mu nu) (zlg sh n Q) := by
  obtain ⟨c1, c2, c3, T, N, c4⟩ := hc
  refine zCallV (As := []) (k1 := 0) (q1 := 0) (k := 0) (q := 0) hd hlk c1 c2 (zEg_obj hk) han c4 (zlt_mil ham) c3 rfl hst hlen hLc hJ ?_
  rintro r n' h' ⟨rfl, mu', nu', rfl, rfl, rfl, rfl⟩
  exact kk
theorem w_callV1x {X : zX} {M : zM} {d pc : Nat} {L S : List Value} {n : Nat} {sh : zsh} {mu : zmu} {nu : znu} {Q : zq} {rr : Option Value} {mu1 : zmu} {nu1 : znu} {M' : zM} {idx ci a : Nat} {t : List Nat} {v1 : Value} {Lc : List Value} (hd : decode M.2.1 pc = .ok (.invokevirtual idx, 3)) (hlk : Cond.methodLink M.1.cls idx M'.1 ∈ zU) (hc : zcv M' 1 ci) (hk : sh a = (3, ci, t)) (han : a < n) (ham : a < 86) (hst : (S.map fun v => v.category).sum ≤ 8) (hlen : (zflat [.ref a, v1]).length ≤ M'.2.2.1) (hLc : zargs M'.2.2.1 [.ref a, v1] = Lc) (hJ : zJ X M' d 0 0 0 Lc [] n (zEg sh mu nu) (zlg sh n (zex rr mu1 nu1))) (kk : zJ X M (d + 1) 0 0 (pc + 3) L (rr.toList ++ S) n (zEg sh mu1 nu1) (zlg sh n Q)) : zJ X M (d + 1) 0 0 pc L (v1 :: .ref a :: S) n (zEg sh mu nu) (zlg sh n Q) := by
  obtain ⟨c1, c2, c3, T, N, c4⟩ := hc
  refine zCallV (As := [v1]) (k1 := 0) (q1 := 0) (k := 0) (q := 0) hd hlk c1 c2 (zEg_obj hk) han c4 (zlt_mil ham) c3 rfl hst hlen hLc hJ ?_
  rintro r n' h' ⟨rfl, mu', nu', rfl, rfl, rfl, rfl⟩
  exact kk
theorem w_callV2x {X : zX} {M : zM} {d pc : Nat} {L S : List Value} {n : Nat} {sh : zsh} {mu : zmu} {nu : znu} {Q : zq} {rr : Option Value} {mu1 : zmu} {nu1 : znu} {M' : zM} {idx ci a : Nat} {t : List Nat} {v1 v2 : Value} {Lc : List Value} (hd : decode M.2.1 pc = .ok (.invokevirtual idx, 3)) (hlk : Cond.methodLink M.1.cls idx M'.1 ∈ zU) (hc : zcv M' 2 ci) (hk : sh a = (3, ci, t)) (han : a < n) (ham : a < 86) (hst : (S.map fun v => v.category).sum ≤ 8) (hlen : (zflat [.ref a, v1, v2]).length ≤ M'.2.2.1) (hLc : zargs M'.2.2.1 [.ref a, v1, v2] = Lc) (hJ : zJ X M' d 0 0 0 Lc [] n (zEg sh mu nu) (zlg sh n (zex rr mu1 nu1))) (kk : zJ X M (d + 1) 0 0 (pc + 3) L (rr.toList ++ S) n (zEg sh mu1 nu1) (zlg sh n Q)) : zJ X M (d + 1) 0 0 pc L (v2 :: v1 :: .ref a :: S) n (zEg sh mu nu) (zlg sh n Q) := by
  obtain ⟨c1, c2, c3, T, N, c4⟩ := hc
  refine zCallV (As := [v1, v2]) (k1 := 0) (q1 := 0) (k := 0) (q := 0) hd hlk c1 c2 (zEg_obj hk) han c4 (zlt_mil ham) c3 rfl hst hlen hLc hJ ?_
  rintro r n' h' ⟨rfl, mu', nu', rfl, rfl, rfl, rfl⟩
  exact kk
theorem w_callV3x {X : zX} {M : zM} {d pc : Nat} {L S : List Value} {n : Nat} {sh : zsh} {mu : zmu} {nu : znu} {Q : zq} {rr : Option Value} {mu1 : zmu} {nu1 : znu} {M' : zM} {idx ci a : Nat} {t : List Nat} {v1 v2 v3 : Value} {Lc : List Value} (hd : decode M.2.1 pc = .ok (.invokevirtual idx, 3)) (hlk : Cond.methodLink M.1.cls idx M'.1 ∈ zU) (hc : zcv M' 3 ci) (hk : sh a = (3, ci, t)) (han : a < n) (ham : a < 86) (hst : (S.map fun v => v.category).sum ≤ 8) (hlen : (zflat [.ref a, v1, v2, v3]).length ≤ M'.2.2.1) (hLc : zargs M'.2.2.1 [.ref a, v1, v2, v3] = Lc) (hJ : zJ X M' d 0 0 0 Lc [] n (zEg sh mu nu) (zlg sh n (zex rr mu1 nu1))) (kk : zJ X M (d + 1) 0 0 (pc + 3) L (rr.toList ++ S) n (zEg sh mu1 nu1) (zlg sh n Q)) : zJ X M (d + 1) 0 0 pc L (v3 :: v2 :: v1 :: .ref a :: S) n (zEg sh mu nu) (zlg sh n Q) := by
  obtain ⟨c1, c2, c3, T, N, c4⟩ := hc
  refine zCallV (As := [v1, v2, v3]) (k1 := 0) (q1 := 0) (k := 0) (q := 0) hd hlk c1 c2 (zEg_obj hk) han c4 (zlt_mil ham) c3 rfl hst hlen hLc hJ ?_
  rintro r n' h' ⟨rfl, mu', nu', rfl, rfl, rfl, rfl⟩
  exact kk
theorem w_callV4x {X : zX} {M : zM} {d pc : Nat} {L S : List Value} {n : Nat} {sh : zsh} {mu : zmu} {nu : znu} {Q : zq} {rr : Option Value} {mu1 : zmu} {nu1 : znu} {M' : zM} {idx ci a : Nat} {t : List Nat} {v1 v2 v3 v4 : Value} {Lc : List Value} (hd : decode M.2.1 pc = .ok (.invokevirtual idx, 3)) (hlk : Cond.methodLink M.1.cls idx M'.1 ∈ zU) (hc : zcv M' 4 ci) (hk : sh a = (3, ci, t)) (han : a < n) (ham : a < 86) (hst : (S.map fun v => v.category).sum ≤ 8) (hlen : (zflat [.ref a, v1, v2, v3, v4]).length ≤ M'.2.2.1) (hLc : zargs M'.2.2.1 [.ref a, v1, v2, v3, v4] = Lc) (hJ : zJ X M' d 0 0 0 Lc [] n (zEg sh mu nu) (zlg sh n (zex rr mu1 nu1))) (kk : zJ X M (d + 1) 0 0 (pc + 3) L (rr.toList ++ S) n (zEg sh mu1 nu1) (zlg sh n Q)) : zJ X M (d + 1) 0 0 pc L (v4 :: v3 :: v2 :: v1 :: .ref a :: S) n (zEg sh mu nu) (zlg sh n Q) := by
  obtain ⟨c1, c2, c3, T, N, c4⟩ := hc
  refine zCallV (As := [v1, v2, v3, v4]) (k1 := 0) (q1 := 0) (k := 0) (q := 0) hd hlk c1 c2 (zEg_obj hk) han c4 (zlt_mil ham) c3 rfl hst hlen hLc hJ ?_
  rintro r n' h' ⟨rfl, mu', nu', rfl, rfl, rfl, rfl⟩
  exact kk
theorem w_callV5x {X : zX} {M : zM} {d pc : Nat} {L S : List Value} {n : Nat} {sh : zsh} {mu : zmu} {nu : znu} {Q : zq} {rr : Option Value} {mu1 : zmu} {nu1 : znu} {M' : zM} {idx ci a : Nat} {t : List Nat} {v1 v2 v3 v4 v5 : Value} {Lc : List Value} (hd : decode M.2.1 pc = .ok (.invokevirtual idx, 3)) (hlk : Cond.methodLink M.1.cls idx M'.1 ∈ zU) (hc : zcv M' 5 ci) (hk : sh a = (3, ci, t)) (han : a < n) (ham : a < 86) (hst : (S.map fun v => v.category).sum ≤ 8) (hlen : (zflat [.ref a, v1, v2, v3, v4, v5]).length ≤ M'.2.2.1) (hLc : zargs M'.2.2.1 [.ref a, v1, v2, v3, v4, v5] = Lc) (hJ : zJ X M' d 0 0 0 Lc [] n (zEg sh mu nu) (zlg sh n (zex rr mu1 nu1))) (kk : zJ X M (d + 1) 0 0 (pc + 3) L (rr.toList ++ S) n (zEg sh mu1 nu1) (zlg sh n Q)) : zJ X M (d + 1) 0 0 pc L (v5 :: v4 :: v3 :: v2 :: v1 :: .ref a :: S) n (zEg sh mu nu) (zlg sh n Q) := by
  obtain ⟨c1, c2, c3, T, N, c4⟩ := hc
  refine zCallV (As := [v1, v2, v3, v4, v5]) (k1 := 0) (q1 := 0) (k := 0) (q := 0) hd hlk c1 c2 (zEg_obj hk) han c4 (zlt_mil ham) c3 rfl hst hlen hLc hJ ?_
  rintro r n' h' ⟨rfl, mu', nu', rfl, rfl, rfl, rfl⟩
  exact kk
