/-! the heap while it is being made: some cells by the picture, the others as they are -/
abbrev zs2 : Type := (Nat → Nat × Nat × List Nat) × zH
def zEd (mu : zmu) (nu : znu) (a : Nat) (e : zE) (c : Nat × Nat × List Nat) : zE := if c.1 = 9 then e else zEc mu nu a c
def zEh (sh : zs2) (mu : zmu) (nu : znu) : zH := fun a => zEd mu nu a (sh.2 a) (sh.1 a)
def zlh (sh : zs2) (n : Nat) (Q : zq) : zQ := fun r n' h => n' = n ∧ ∃ mu nu, h = zEh sh mu nu ∧ Q r mu nu
theorem zEh_up {sh : zs2} {mu mu' : zmu} {nu nu' : znu} {a : Nat} {e : zE} (h1 : ∀ b, b ≠ a → mu b = mu' b) (h2 : ∀ b, b ≠ a → nu b = nu' b) (he : e = zEh sh mu' nu' a) : va_up (zEh sh mu nu) a e = zEh sh mu' nu' := by
  funext b
  by_cases hb : b = a
  · subst hb; simp [va_up, he]
  · simp only [va_up, if_neg hb]
    show zEd mu nu b _ _ = zEd mu' nu' b _ _
    unfold zEd
    split
    · rfl
    · exact zEc_mu (h1 b hb) (h2 b hb) _
theorem zEh_obj {sh : zs2} {mu : zmu} {nu : znu} {a ci : Nat} {t : List Nat} (hk : sh.1 a = (3, ci, t)) : zEh sh mu nu a = .inr (ci, t.zipIdx.map (zfv mu nu a)) := by simp [zEh, zEd, hk, zEc]
theorem zEh_int {sh : zs2} {mu : zmu} {nu : znu} {a n : Nat} {t : List Nat} (hk : sh.1 a = (0, n, t)) : zEh sh mu nu a = .inl (0, n, .inl (mu a)) := by simp [zEh, zEd, hk, zEc]
theorem v_getI {X : zX} {M : zM} {d pc : Nat} {L S : List Value} {n : Nat} {sh : zs2} {mu : zmu} {nu : znu} {Q : zq} {idx ci j a : Nat} {t : List Nat} {v : Int32} (hd : decode M.2.1 pc = .ok (.getfield idx, 3)) (hl : zfl M.1.cls idx ci j) (hk : sh.1 a = (3, ci, t)) (han : a < n) (ham : a < 86) (ht : t[j]? = some 0) (hv : mu a j = v) (kk : zJ X M d 0 0 (pc + 3) L (.int v :: S) n (zEh sh mu nu) (zlh sh n Q)) : zJ X M d 0 0 pc L (.ref a :: S) n (zEh sh mu nu) (zlh sh n Q) := by
  subst hv
  exact z_getf hd hl (zEh_obj hk) han (zlt_mil ham) (by simp [List.getElem?_map, List.getElem?_zipIdx, ht, zfv]) kk
theorem v_getR {X : zX} {M : zM} {d pc : Nat} {L S : List Value} {n : Nat} {sh : zs2} {mu : zmu} {nu : znu} {Q : zq} {idx ci j a r : Nat} {t : List Nat} (hd : decode M.2.1 pc = .ok (.getfield idx, 3)) (hl : zfl M.1.cls idx ci j) (hk : sh.1 a = (3, ci, t)) (han : a < n) (ham : a < 86) (ht : t[j]? = some (r + 2)) (kk : zJ X M d 0 0 (pc + 3) L (.ref r :: S) n (zEh sh mu nu) (zlh sh n Q)) : zJ X M d 0 0 pc L (.ref a :: S) n (zEh sh mu nu) (zlh sh n Q) := by
  exact z_getf hd hl (zEh_obj hk) han (zlt_mil ham) (by simp [List.getElem?_map, List.getElem?_zipIdx, ht, zfv]) kk
theorem v_putI {X : zX} {M : zM} {d pc : Nat} {L S : List Value} {n : Nat} {sh : zs2} {mu : zmu} {nu : znu} {Q : zq} {idx ci j a : Nat} {t : List Nat} {v : Int32} (hd : decode M.2.1 pc = .ok (.putfield idx, 3)) (hl : zpf M.1.cls idx ci j false .int) (hk : sh.1 a = (3, ci, t)) (han : a < n) (ham : a < 86) (ht : t[j]? = some 0) (kk : zJ X M d 0 0 (pc + 3) L S n (zEh sh (u2 mu a j v) nu) (zlh sh n Q)) : zJ X M d 0 0 pc L (.int v :: .ref a :: S) n (zEh sh mu nu) (zlh sh n Q) := by
  refine z_putf hd hl (zEh_obj hk) han (zlt_mil ham) (fun _ _ => ⟨rfl, rfl⟩) (by simpa using (List.getElem?_eq_some_iff.mp ht).1) ?_
  rw [zEh_up (mu' := u2 mu a j v) (nu' := nu) (fun b hb => (u2_rowa hb).symm) (fun _ _ => rfl) (by rw [zEh_obj hk, zput_list ht])]
  exact kk
theorem v_iast {X : zX} {M : zM} {d pc : Nat} {L S : List Value} {n : Nat} {sh : zs2} {mu : zmu} {nu : znu} {Q : zq} {a N : Nat} {t : List Nat} {i : Nat} {v : Int32} (hd : decode M.2.1 pc = .ok (.iastore, 1)) (hk : sh.1 a = (0, N, t)) (han : a < n) (ham : a < 86) (hN : N < 1000) (hi : i < N) (kk : zJ X M d 0 0 (pc + 1) L S n (zEh sh (u2 mu a i v) nu) (zlh sh n Q)) : zJ X M d 0 0 pc L (.int v :: .int (nI i) :: .ref a :: S) n (zEh sh mu nu) (zlh sh n Q) := by
  refine z_iast hd (zEh_int hk) han (zlt_mil ham) (vp_in_nI hi (by omega)) ?_
  rw [nI_clamp (by omega), zEh_up (mu' := u2 mu a i v) (nu' := nu) (fun b hb => (u2_rowa hb).symm) (fun _ _ => rfl) (by rw [zEh_int hk, u2_row])]
  exact kk
theorem v_ireturn {X : zX} {M : zM} {d pc : Nat} {L : List Value} {n : Nat} {sh : zs2} {mu : zmu} {nu : znu} {Q : zq} {v : Int32} (hd : decode M.2.1 pc = .ok (.ireturn, 1)) (hr : M.2.2.2 = some .int) (hq : Q (some (.int v)) mu nu) : zJ X M d 0 0 pc L [.int v] n (zEh sh mu nu) (zlh sh n Q) := z_ireturn (k := 0) (S := []) hd hr rfl ⟨rfl, mu, nu, rfl, hq⟩
theorem v_return {X : zX} {M : zM} {d pc : Nat} {L : List Value} {n : Nat} {sh : zs2} {mu : zmu} {nu : znu} {Q : zq} (hd : decode M.2.1 pc = .ok (.return_, 1)) (hr : M.2.2.2 = none) (hq : Q none mu nu) : zJ X M d 0 0 pc L [] n (zEh sh mu nu) (zlh sh n Q) := z_return (k := 0) (S := []) hd hr ⟨rfl, mu, nu, rfl, hq⟩
theorem v_callV0x {X : zX} {M : zM} {d pc : Nat} {L S : List Value} {n : Nat} {sh : zs2} {mu : zmu} {nu : znu} {Q : zq} {rr : Option Value} {mu1 : zmu} {nu1 : znu} {M' : zM} {idx ci a : Nat} {t : List Nat} {Lc : List Value} (hd : decode M.2.1 pc = .ok (.invokevirtual idx, 3)) (hlk : Cond.methodLink M.1.cls idx M'.1 ∈ zU) (hc : zcv M' 0 ci) (hk : sh.1 a = (3, ci, t)) (han : a < n) (ham : a < 86) (hst : (S.map fun v => v.category).sum ≤ 8) (hlen : (zflat [.ref a]).length ≤ M'.2.2.1) (hLc : zargs M'.2.2.1 [.ref a] = Lc) (hJ : zJ X M' d 0 0 0 Lc [] n (zEh sh mu nu) (zlh sh n (zex rr mu1 nu1))) (kk : zJ X M (d + 1) 0 0 (pc + 3) L (rr.toList ++ S) n (zEh sh mu1 nu1) (zlh sh n Q)) : zJ X M (d + 1) 0 0 pc L (.ref a :: S) n (zEh sh mu nu) (zlh sh n Q) := by
  obtain ⟨c1, c2, c3, T, N, c4⟩ := hc
  refine zCallV (As := []) (k1 := 0) (q1 := 0) (k := 0) (q := 0) hd hlk c1 c2 (zEh_obj hk) han c4 (zlt_mil ham) c3 rfl hst hlen hLc hJ ?_
  rintro r n' h' ⟨rfl, mu', nu', rfl, rfl, rfl, rfl⟩
  exact kk
theorem v_callV1x {X : zX} {M : zM} {d pc : Nat} {L S : List Value} {n : Nat} {sh : zs2} {mu : zmu} {nu : znu} {Q : zq} {rr : Option Value} {mu1 : zmu} {nu1 : znu} {M' : zM} {idx ci a : Nat} {t : List Nat} {v1 : Value} {Lc : List Value} (hd : decode M.2.1 pc = .ok (.invokevirtual idx, 3)) (hlk : Cond.methodLink M.1.cls idx M'.1 ∈ zU) (hc : zcv M' 1 ci) (hk : sh.1 a = (3, ci, t)) (han : a < n) (ham : a < 86) (hst : (S.map fun v => v.category).sum ≤ 8) (hlen : (zflat [.ref a, v1]).length ≤ M'.2.2.1) (hLc : zargs M'.2.2.1 [.ref a, v1] = Lc) (hJ : zJ X M' d 0 0 0 Lc [] n (zEh sh mu nu) (zlh sh n (zex rr mu1 nu1))) (kk : zJ X M (d + 1) 0 0 (pc + 3) L (rr.toList ++ S) n (zEh sh mu1 nu1) (zlh sh n Q)) : zJ X M (d + 1) 0 0 pc L (v1 :: .ref a :: S) n (zEh sh mu nu) (zlh sh n Q) := by
  obtain ⟨c1, c2, c3, T, N, c4⟩ := hc
  refine zCallV (As := [v1]) (k1 := 0) (q1 := 0) (k := 0) (q := 0) hd hlk c1 c2 (zEh_obj hk) han c4 (zlt_mil ham) c3 rfl hst hlen hLc hJ ?_
  rintro r n' h' ⟨rfl, mu', nu', rfl, rfl, rfl, rfl⟩
  exact kk
theorem v_callV2x {X : zX} {M : zM} {d pc : Nat} {L S : List Value} {n : Nat} {sh : zs2} {mu : zmu} {nu : znu} {Q : zq} {rr : Option Value} {mu1 : zmu} {nu1 : znu} {M' : zM} {idx ci a : Nat} {t : List Nat} {v1 v2 : Value} {Lc : List Value} (hd : decode M.2.1 pc = .ok (.invokevirtual idx, 3)) (hlk : Cond.methodLink M.1.cls idx M'.1 ∈ zU) (hc : zcv M' 2 ci) (hk : sh.1 a = (3, ci, t)) (han : a < n) (ham : a < 86) (hst : (S.map fun v => v.category).sum ≤ 8) (hlen : (zflat [.ref a, v1, v2]).length ≤ M'.2.2.1) (hLc : zargs M'.2.2.1 [.ref a, v1, v2] = Lc) (hJ : zJ X M' d 0 0 0 Lc [] n (zEh sh mu nu) (zlh sh n (zex rr mu1 nu1))) (kk : zJ X M (d + 1) 0 0 (pc + 3) L (rr.toList ++ S) n (zEh sh mu1 nu1) (zlh sh n Q)) : zJ X M (d + 1) 0 0 pc L (v2 :: v1 :: .ref a :: S) n (zEh sh mu nu) (zlh sh n Q) := by
  obtain ⟨c1, c2, c3, T, N, c4⟩ := hc
  refine zCallV (As := [v1, v2]) (k1 := 0) (q1 := 0) (k := 0) (q := 0) hd hlk c1 c2 (zEh_obj hk) han c4 (zlt_mil ham) c3 rfl hst hlen hLc hJ ?_
  rintro r n' h' ⟨rfl, mu', nu', rfl, rfl, rfl, rfl⟩
  exact kk
theorem v_callV3x {X : zX} {M : zM} {d pc : Nat} {L S : List Value} {n : Nat} {sh : zs2} {mu : zmu} {nu : znu} {Q : zq} {rr : Option Value} {mu1 : zmu} {nu1 : znu} {M' : zM} {idx ci a : Nat} {t : List Nat} {v1 v2 v3 : Value} {Lc : List Value} (hd : decode M.2.1 pc = .ok (.invokevirtual idx, 3)) (hlk : Cond.methodLink M.1.cls idx M'.1 ∈ zU) (hc : zcv M' 3 ci) (hk : sh.1 a = (3, ci, t)) (han : a < n) (ham : a < 86) (hst : (S.map fun v => v.category).sum ≤ 8) (hlen : (zflat [.ref a, v1, v2, v3]).length ≤ M'.2.2.1) (hLc : zargs M'.2.2.1 [.ref a, v1, v2, v3] = Lc) (hJ : zJ X M' d 0 0 0 Lc [] n (zEh sh mu nu) (zlh sh n (zex rr mu1 nu1))) (kk : zJ X M (d + 1) 0 0 (pc + 3) L (rr.toList ++ S) n (zEh sh mu1 nu1) (zlh sh n Q)) : zJ X M (d + 1) 0 0 pc L (v3 :: v2 :: v1 :: .ref a :: S) n (zEh sh mu nu) (zlh sh n Q) := by
  obtain ⟨c1, c2, c3, T, N, c4⟩ := hc
  refine zCallV (As := [v1, v2, v3]) (k1 := 0) (q1 := 0) (k := 0) (q := 0) hd hlk c1 c2 (zEh_obj hk) han c4 (zlt_mil ham) c3 rfl hst hlen hLc hJ ?_
  rintro r n' h' ⟨rfl, mu', nu', rfl, rfl, rfl, rfl⟩
  exact kk
theorem v_callV4x {X : zX} {M : zM} {d pc : Nat} {L S : List Value} {n : Nat} {sh : zs2} {mu : zmu} {nu : znu} {Q : zq} {rr : Option Value} {mu1 : zmu} {nu1 : znu} {M' : zM} {idx ci a : Nat} {t : List Nat} {v1 v2 v3 v4 : Value} {Lc : List Value} (hd : decode M.2.1 pc = .ok (.invokevirtual idx, 3)) (hlk : Cond.methodLink M.1.cls idx M'.1 ∈ zU) (hc : zcv M' 4 ci) (hk : sh.1 a = (3, ci, t)) (han : a < n) (ham : a < 86) (hst : (S.map fun v => v.category).sum ≤ 8) (hlen : (zflat [.ref a, v1, v2, v3, v4]).length ≤ M'.2.2.1) (hLc : zargs M'.2.2.1 [.ref a, v1, v2, v3, v4] = Lc) (hJ : zJ X M' d 0 0 0 Lc [] n (zEh sh mu nu) (zlh sh n (zex rr mu1 nu1))) (kk : zJ X M (d + 1) 0 0 (pc + 3) L (rr.toList ++ S) n (zEh sh mu1 nu1) (zlh sh n Q)) : zJ X M (d + 1) 0 0 pc L (v4 :: v3 :: v2 :: v1 :: .ref a :: S) n (zEh sh mu nu) (zlh sh n Q) := by
  obtain ⟨c1, c2, c3, T, N, c4⟩ := hc
  refine zCallV (As := [v1, v2, v3, v4]) (k1 := 0) (q1 := 0) (k := 0) (q := 0) hd hlk c1 c2 (zEh_obj hk) han c4 (zlt_mil ham) c3 rfl hst hlen hLc hJ ?_
  rintro r n' h' ⟨rfl, mu', nu', rfl, rfl, rfl, rfl⟩
  exact kk
theorem v_callV5x {X : zX} {M : zM} {d pc : Nat} {L S : List Value} {n : Nat} {sh : zs2} {mu : zmu} {nu : znu} {Q : zq} {rr : Option Value} {mu1 : zmu} {nu1 : znu} {M' : zM} {idx ci a : Nat} {t : List Nat} {v1 v2 v3 v4 v5 : Value} {Lc : List Value} (hd : decode M.2.1 pc = .ok (.invokevirtual idx, 3)) (hlk : Cond.methodLink M.1.cls idx M'.1 ∈ zU) (hc : zcv M' 5 ci) (hk : sh.1 a = (3, ci, t)) (han : a < n) (ham : a < 86) (hst : (S.map fun v => v.category).sum ≤ 8) (hlen : (zflat [.ref a, v1, v2, v3, v4, v5]).length ≤ M'.2.2.1) (hLc : zargs M'.2.2.1 [.ref a, v1, v2, v3, v4, v5] = Lc) (hJ : zJ X M' d 0 0 0 Lc [] n (zEh sh mu nu) (zlh sh n (zex rr mu1 nu1))) (kk : zJ X M (d + 1) 0 0 (pc + 3) L (rr.toList ++ S) n (zEh sh mu1 nu1) (zlh sh n Q)) : zJ X M (d + 1) 0 0 pc L (v5 :: v4 :: v3 :: v2 :: v1 :: .ref a :: S) n (zEh sh mu nu) (zlh sh n Q) := by
  obtain ⟨c1, c2, c3, T, N, c4⟩ := hc
  refine zCallV (As := [v1, v2, v3, v4, v5]) (k1 := 0) (q1 := 0) (k := 0) (q := 0) hd hlk c1 c2 (zEh_obj hk) han c4 (zlt_mil ham) c3 rfl hst hlen hLc hJ ?_
  rintro r n' h' ⟨rfl, mu', nu', rfl, rfl, rfl, rfl⟩
  exact kk
def shQ (sh : zs2) (n : Nat) : Prop := sh.1 3 = (3, 3, [0, 0, 0, 0, 0, 6, 7, 8, 9, 10, 11]) ∧ sh.1 7 = (0, 80, []) ∧ sh.1 8 = (0, 80, []) ∧ sh.1 9 = (0, 80, []) ∧ 10 ≤ n
theorem z_eqLh {X : zX} {M : zM} {d k q pc : Nat} {L L' S : List Value} {n : Nat} {sh : zs2} {mu mu' : zmu} {nu : znu} {Q : zQ} (kk : zJ X M d k q pc L S n (zEh sh mu nu) Q) (e : L = L') (e2 : mu = mu') : zJ X M d k q pc L' S n (zEh sh mu' nu) Q := e ▸ e2 ▸ kk
set_option maxRecDepth 4000 in
theorem gh_lay {X : zX} {sh : zs2} {n : Nat} {mu : zmu} {nu : znu} (hs : shQ sh n) {c y pl st : Nat} {s : Int32} (hc : c < 20) (hy : y < 4) (d : Nat) : zJ X M_X3_lay d 0 0 0 [.ref 3, .int (nI c), .int (nI y), .int (nI pl), .int (nI st), .int s, zu] [] n (zEh sh (mu) nu) (zlh sh n (zex none (setw mu c y pl st s) nu)) := by
  have h10 := hs.2.2.2.2
  refine z_iload_n dX3_lay_0 rfl ?_
  refine z_iconst (v := nI 4) dX3_lay_1 rfl ?_
  refine zn_imul dX3_lay_2 ?_
  refine z_iload_n dX3_lay_3 rfl ?_
  refine zn_iadd dX3_lay_4 ?_
  refine z_istore6 dX3_lay_5 rfl ?_
  refine z_iload dX3_lay_7 rfl ?_
  refine zn_if_lt (tgt := 19) dX3_lay_9 (by decide) (by omega) ?_
  refine z_iload dX3_lay_12 rfl ?_
  refine z_bipush (v := nI 80) dX3_lay_14 rfl ?_
  refine zn_icmp_lt (tgt := 20) dX3_lay_16 (by decide) (by omega) (by omega) (fun hc16 => ?_) (fun hc16 => by omega)
  refine z_aload_n dX3_lay_20 rfl ?_
  refine v_getR dX3_lay_21 lf_X3_28 hs.1 (by omega) (by decide) rfl ?_
  refine z_iload dX3_lay_24 rfl ?_
  refine z_iload_n dX3_lay_26 rfl ?_
  refine v_iast dX3_lay_27 hs.2.1 (by omega) (by decide) (by decide) (by omega) ?_
  refine z_aload_n dX3_lay_28 rfl ?_
  refine v_getR dX3_lay_29 lf_X3_31 hs.1 (by omega) (by decide) rfl ?_
  refine z_iload dX3_lay_32 rfl ?_
  refine z_iload dX3_lay_34 rfl ?_
  refine v_iast dX3_lay_36 hs.2.2.1 (by omega) (by decide) (by decide) (by omega) ?_
  refine z_aload_n dX3_lay_37 rfl ?_
  refine v_getR dX3_lay_38 lf_X3_34 hs.1 (by omega) (by decide) rfl ?_
  refine z_iload dX3_lay_41 rfl ?_
  refine z_iload dX3_lay_43 rfl ?_
  refine v_iast dX3_lay_45 hs.2.2.2.1 (by omega) (by decide) (by decide) (by omega) ?_
  exact v_return dX3_lay_46 rfl ⟨rfl, rfl, rfl⟩
set_option maxRecDepth 4000 in
theorem gh_rowOn {X : zX} {sh : zs2} {n : Nat} {mu : zmu} {nu : znu} (hs : shQ sh n) {h r m : Nat} (hh : mu 3 1 = nI h) (h1 : h < 1000) (hr : r < 1000) (hm : m < 1000) (d : Nat) : zJ X M_X3_rowOn d 0 0 0 [.ref 3, .int (nI r), .int (nI m), zu] [] n (zEh sh (mu) nu) (zlh sh n (zex (some (.int (nI (if r + m < h then r + m else r + m - h)))) (mu) nu)) := by
  have h10 := hs.2.2.2.2
  refine z_iload_n dX3_rowOn_0 rfl ?_
  refine z_iload_n dX3_rowOn_1 rfl ?_
  refine zn_iadd dX3_rowOn_2 ?_
  refine z_istore3 dX3_rowOn_3 rfl ?_
  refine z_iload_n dX3_rowOn_4 rfl ?_
  refine z_aload_n dX3_rowOn_5 rfl ?_
  refine v_getI dX3_rowOn_6 lf_X3_15 hs.1 (by omega) (by decide) rfl hh ?_
  refine zn_icmp_lt (tgt := 21) dX3_rowOn_9 (by decide) (by omega) (by omega) (fun hc9 => ?_) (fun hc9 => ?_)
  · refine z_iload_n dX3_rowOn_21 rfl ?_
    exact v_ireturn dX3_rowOn_22 rfl ⟨by rw [if_pos hc9], rfl, rfl⟩
  · refine z_iload_n dX3_rowOn_12 rfl ?_
    refine z_aload_n dX3_rowOn_13 rfl ?_
    refine v_getI dX3_rowOn_14 lf_X3_15 hs.1 (by omega) (by decide) rfl hh ?_
    refine zn_isub dX3_rowOn_17 (by omega) ?_
    refine z_goto (tgt := 22) dX3_rowOn_18 (by decide) ?_
    exact v_ireturn dX3_rowOn_22 rfl ⟨by rw [if_neg (by omega)], rfl, rfl⟩
set_option maxRecDepth 4000 in
theorem gh_layRow2 {X : zX} {sh : zs2} {n : Nat} {mu : zmu} {nu : znu} (hs : shQ sh n) {w h dd r x : Nat} (g1 : 2 ≤ w) (g2 : w ≤ 5) (g3 : 2 ≤ h) (g4 : h ≤ 4) (gd : dd < h) (hr : r < h) (hx : x < w) (hw : mu 3 0 = nI w) (hh : mu 3 1 = nI h) (hdr : mu 3 2 = nI dd) (d : Nat) : zJ X M_X3_layRow (d + 1) 0 0 70 [.ref 3, .int (nI r), .int (nI x), .int (nI (r * w + x))] [] n (zEh sh (mu) nu) (zlh sh n (zex none (setw mu (r * w + x) 1 (nbc w h dd (r * w + x) 1) (nbc w h 0 (r * w + x) 1) (nI (shn w h (r * w + x) 1) - 1)) nu)) := by
  have h10 := hs.2.2.2.2
  obtain ⟨a1, a2, a3, a4, a5, a6, a7, a8, a9, a10, a11, a12⟩ := lay_at g1 g2 g3 g4 gd hr hx
  have b1 : rwo h r (h - dd) < 20 := by unfold rwo; split <;> omega
  have b2 : r * w ≤ 20 := by omega
  have b3 : rwo h r (h - dd) * w ≤ 20 * 5 := Nat.mul_le_mul (by omega) g2
  refine z_iload_n dX3_layRow_70 rfl ?_
  refine z_aload_n dX3_layRow_71 rfl ?_
  refine v_getI dX3_layRow_72 lf_X3_9 hs.1 (by omega) (by decide) rfl hw ?_
  refine z_iconst (v := nI 1) dX3_layRow_75 rfl ?_
  refine zn_isub dX3_layRow_76 (by omega) ?_
  refine zn_icmp_ge (tgt := 96) dX3_layRow_77 (by decide) (by omega) (by omega) (fun hc77 => ?_) (fun hc77 => ?_)
  · rw [if_neg (by omega)] at a6 a7 a8
    refine z_aload_n dX3_layRow_96 rfl ?_
    refine z_iload_n dX3_layRow_97 rfl ?_
    refine z_iconst (v := nI 1) dX3_layRow_98 rfl ?_
    refine z_aload_n dX3_layRow_99 rfl ?_
    refine z_iload_n dX3_layRow_100 rfl ?_
    refine z_aload_n dX3_layRow_101 rfl ?_
    refine v_getI dX3_layRow_102 lf_X3_46 hs.1 (by omega) (by decide) rfl hdr ?_
    refine v_callV2x (M' := M_X3_rowOn) dX3_layRow_105 lm_X3_84 cv_X3_rowOn hs.1 (by omega) (by decide) (Nat.le_of_ble_eq_true rfl) (Nat.le_of_ble_eq_true rfl) rfl (gh_rowOn hs hh (by omega) (by omega) (by omega) d) ?_
    refine z_aload_n dX3_layRow_108 rfl ?_
    refine v_getI dX3_layRow_109 lf_X3_9 hs.1 (by omega) (by decide) rfl hw ?_
    refine zn_imul dX3_layRow_112 ?_
    refine z_iload_n dX3_layRow_113 rfl ?_
    refine z_aload_n dX3_layRow_114 rfl ?_
    refine v_getI dX3_layRow_115 lf_X3_9 hs.1 (by omega) (by decide) rfl hw ?_
    refine zn_imul dX3_layRow_118 ?_
    refine z_iconst (v := nI 1) dX3_layRow_119 rfl ?_
    have e0 : nI (shn w h (r * w + x) 1) - 1 = nI 1 := by rw [a7]; rfl
    rw [a6, a8, e0]
    refine v_callV5x (M' := M_X3_lay) dX3_layRow_120 lm_X3_80 cv_X3_lay hs.1 (by omega) (by decide) (Nat.le_of_ble_eq_true rfl) (Nat.le_of_ble_eq_true rfl) rfl (gh_lay (y := 1) hs a2 (by decide) d) ?_
    exact v_return dX3_layRow_123 rfl ⟨rfl, rfl, rfl⟩
  · rw [if_pos hc77] at a6 a7 a8
    refine z_aload_n dX3_layRow_80 rfl ?_
    refine z_iload_n dX3_layRow_81 rfl ?_
    refine z_iconst (v := nI 1) dX3_layRow_82 rfl ?_
    refine z_iload_n dX3_layRow_83 rfl ?_
    refine z_iconst (v := nI 1) dX3_layRow_84 rfl ?_
    refine zn_iadd dX3_layRow_85 ?_
    refine z_iload_n dX3_layRow_86 rfl ?_
    refine z_iconst (v := nI 1) dX3_layRow_87 rfl ?_
    refine zn_iadd dX3_layRow_88 ?_
    refine z_iconst (v := nI 0) dX3_layRow_89 rfl ?_
    have e0 : nI (shn w h (r * w + x) 1) - 1 = nI 0 := by rw [a7]; rfl
    rw [a6, a8, e0]
    refine v_callV5x (M' := M_X3_lay) dX3_layRow_90 lm_X3_80 cv_X3_lay hs.1 (by omega) (by decide) (Nat.le_of_ble_eq_true rfl) (Nat.le_of_ble_eq_true rfl) rfl (gh_lay (y := 1) hs a2 (by decide) d) ?_
    refine z_goto (tgt := 123) dX3_layRow_93 (by decide) ?_
    exact v_return dX3_layRow_123 rfl ⟨rfl, rfl, rfl⟩
set_option maxRecDepth 4000 in
theorem gh_layRow {X : zX} {sh : zs2} {n : Nat} {mu : zmu} {nu : znu} (hs : shQ sh n) {w h dd r x : Nat} (g1 : 2 ≤ w) (g2 : w ≤ 5) (g3 : 2 ≤ h) (g4 : h ≤ 4) (gd : dd < h) (hr : r < h) (hx : x < w) (hw : mu 3 0 = nI w) (hh : mu 3 1 = nI h) (hdr : mu 3 2 = nI dd) (d : Nat) : zJ X M_X3_layRow (d + 1) 0 0 0 [.ref 3, .int (nI r), .int (nI x), zu] [] n (zEh sh (mu) nu) (zlh sh n (zex none (layR w h dd (r * w + x) mu) nu)) := by
  have h10 := hs.2.2.2.2
  obtain ⟨a1, a2, a3, a4, a5, a6, a7, a8, a9, a10, a11, a12⟩ := lay_at g1 g2 g3 g4 gd hr hx
  have b1 : rwo h r (h - dd) < 20 := by unfold rwo; split <;> omega
  have b2 : r * w ≤ 20 := by omega
  have b3 : rwo h r (h - dd) * w ≤ 20 * 5 := Nat.mul_le_mul (by omega) g2
  have k2 := gh_layRow2 (X := X) (nu := nu) (mu := setw mu (r * w + x) 0 (nbc w h dd (r * w + x) 0) (nbc w h 0 (r * w + x) 0) (nI (shn w h (r * w + x) 0) - 1)) hs g1 g2 g3 g4 gd hr hx hw hh hdr d
  refine z_iload_n dX3_layRow_0 rfl ?_
  refine z_aload_n dX3_layRow_1 rfl ?_
  refine v_getI dX3_layRow_2 lf_X3_9 hs.1 (by omega) (by decide) rfl hw ?_
  refine zn_imul dX3_layRow_5 ?_
  refine z_iload_n dX3_layRow_6 rfl ?_
  refine zn_iadd dX3_layRow_7 ?_
  refine z_istore3 dX3_layRow_8 rfl ?_
  refine z_iload_n dX3_layRow_9 rfl ?_
  refine zn_if_le (tgt := 29) dX3_layRow_10 (by decide) (by omega) (fun hc10 => ?_) (fun hc10 => ?_)
  · rw [if_neg (by omega)] at a3 a4 a5
    refine z_aload_n dX3_layRow_29 rfl ?_
    refine z_iload_n dX3_layRow_30 rfl ?_
    refine z_iconst (v := nI 0) dX3_layRow_31 rfl ?_
    refine z_aload_n dX3_layRow_32 rfl ?_
    refine z_iload_n dX3_layRow_33 rfl ?_
    refine z_aload_n dX3_layRow_34 rfl ?_
    refine v_getI dX3_layRow_35 lf_X3_15 hs.1 (by omega) (by decide) rfl hh ?_
    refine z_aload_n dX3_layRow_38 rfl ?_
    refine v_getI dX3_layRow_39 lf_X3_46 hs.1 (by omega) (by decide) rfl hdr ?_
    refine zn_isub dX3_layRow_42 (by omega) ?_
    refine v_callV2x (M' := M_X3_rowOn) dX3_layRow_43 lm_X3_84 cv_X3_rowOn hs.1 (by omega) (by decide) (Nat.le_of_ble_eq_true rfl) (Nat.le_of_ble_eq_true rfl) rfl (gh_rowOn hs hh (by omega) (by omega) (by omega) d) ?_
    refine z_aload_n dX3_layRow_46 rfl ?_
    refine v_getI dX3_layRow_47 lf_X3_9 hs.1 (by omega) (by decide) rfl hw ?_
    refine zn_imul dX3_layRow_50 ?_
    refine z_aload_n dX3_layRow_51 rfl ?_
    refine v_getI dX3_layRow_52 lf_X3_9 hs.1 (by omega) (by decide) rfl hw ?_
    refine zn_iadd dX3_layRow_55 ?_
    refine z_iconst (v := nI 1) dX3_layRow_56 rfl ?_
    refine zn_isub dX3_layRow_57 (by omega) ?_
    refine z_iload_n dX3_layRow_58 rfl ?_
    refine z_aload_n dX3_layRow_59 rfl ?_
    refine v_getI dX3_layRow_60 lf_X3_9 hs.1 (by omega) (by decide) rfl hw ?_
    refine zn_iadd dX3_layRow_63 ?_
    refine z_iconst (v := nI 1) dX3_layRow_64 rfl ?_
    refine zn_isub dX3_layRow_65 (by omega) ?_
    refine z_iconst (v := -1) dX3_layRow_66 rfl ?_
    have e0 : nI (shn w h (r * w + x) 0) - 1 = -1 := by rw [a4]; rfl
    refine v_callV5x (M' := M_X3_lay) dX3_layRow_67 lm_X3_80 cv_X3_lay hs.1 (by omega) (by decide) (Nat.le_of_ble_eq_true rfl) (Nat.le_of_ble_eq_true rfl) rfl (gh_lay (y := 0) hs a2 (by decide) d) ?_
    exact z_eqLh k2 rfl (by rw [a3, a5, e0] <;> rfl)
  · rw [if_pos (by omega)] at a3 a4 a5
    refine z_aload_n dX3_layRow_13 rfl ?_
    refine z_iload_n dX3_layRow_14 rfl ?_
    refine z_iconst (v := nI 0) dX3_layRow_15 rfl ?_
    refine z_iload_n dX3_layRow_16 rfl ?_
    refine z_iconst (v := nI 1) dX3_layRow_17 rfl ?_
    refine zn_isub dX3_layRow_18 (by omega) ?_
    refine z_iload_n dX3_layRow_19 rfl ?_
    refine z_iconst (v := nI 1) dX3_layRow_20 rfl ?_
    refine zn_isub dX3_layRow_21 (by omega) ?_
    refine z_iconst (v := nI 0) dX3_layRow_22 rfl ?_
    have e0 : nI (shn w h (r * w + x) 0) - 1 = nI 0 := by rw [a4]; rfl
    refine v_callV5x (M' := M_X3_lay) dX3_layRow_23 lm_X3_80 cv_X3_lay hs.1 (by omega) (by decide) (Nat.le_of_ble_eq_true rfl) (Nat.le_of_ble_eq_true rfl) rfl (gh_lay (y := 0) hs a2 (by decide) d) ?_
    refine z_goto (tgt := 70) dX3_layRow_26 (by decide) ?_
    exact z_eqLh k2 rfl (by rw [a3, a5, e0] <;> rfl)
set_option maxRecDepth 4000 in
theorem gh_layColumn2 {X : zX} {sh : zs2} {n : Nat} {mu : zmu} {nu : znu} (hs : shQ sh n) {w h dd r x : Nat} (g1 : 2 ≤ w) (g2 : w ≤ 5) (g3 : 2 ≤ h) (g4 : h ≤ 4) (gd : dd < h) (hr : r < h) (hx : x < w) (hw : mu 3 0 = nI w) (hh : mu 3 1 = nI h) (hdr : mu 3 2 = nI dd) (d : Nat) : zJ X M_X3_layColumn (d + 1) 0 0 63 [.ref 3, .int (nI r), .int (nI x), .int (nI (r * w + x)), .int (nI (nbc w h dd (r * w + x) 2)), .int (nI (nbc w h dd (r * w + x) 3))] [] n (zEh sh (mu) nu) (zlh sh n (zex none (setw mu (r * w + x) 3 (nbc w h dd (r * w + x) 3) (nbc w h dd (r * w + x) 3) (nI (shn w h (r * w + x) 3) - 1)) nu)) := by
  have h10 := hs.2.2.2.2
  obtain ⟨a1, a2, a3, a4, a5, a6, a7, a8, a9, a10, a11, a12⟩ := lay_at g1 g2 g3 g4 gd hr hx
  have b1 : rwo h r (h - dd) < 20 := by unfold rwo; split <;> omega
  have b2 : r * w ≤ 20 := by omega
  have b3 : rwo h r (h - dd) * w ≤ 20 * 5 := Nat.mul_le_mul (by omega) g2
  refine z_aload_n dX3_layColumn_63 rfl ?_
  refine z_iload_n dX3_layColumn_64 rfl ?_
  refine z_iconst (v := nI 3) dX3_layColumn_65 rfl ?_
  refine z_iload dX3_layColumn_66 rfl ?_
  refine z_iload dX3_layColumn_68 rfl ?_
  refine z_iload_n dX3_layColumn_70 rfl ?_
  refine z_aload_n dX3_layColumn_71 rfl ?_
  refine v_getI dX3_layColumn_72 lf_X3_15 hs.1 (by omega) (by decide) rfl hh ?_
  refine z_iconst (v := nI 1) dX3_layColumn_75 rfl ?_
  refine zn_isub dX3_layColumn_76 (by omega) ?_
  refine zn_icmp_ne (tgt := 84) dX3_layColumn_77 (by decide) (by omega) (by omega) (fun hc77 => ?_) (fun hc77 => ?_)
  · rw [if_neg hc77] at a12
    refine z_iconst (v := nI 0) dX3_layColumn_84 rfl ?_
    have e0 : nI (shn w h (r * w + x) 3) - 1 = nI (shn w h (r * w + x) 3 - 1) := by rw [a12]; rfl
    rw [e0]
    rw [a12]
    refine v_callV5x (M' := M_X3_lay) dX3_layColumn_85 lm_X3_80 cv_X3_lay hs.1 (by omega) (by decide) (Nat.le_of_ble_eq_true rfl) (Nat.le_of_ble_eq_true rfl) rfl (gh_lay (y := 3) hs a2 (by decide) d) ?_
    exact v_return dX3_layColumn_88 rfl ⟨rfl, rfl, rfl⟩
  · rw [if_pos hc77] at a12
    refine z_iconst (v := nI 1) dX3_layColumn_80 rfl ?_
    refine z_goto (tgt := 85) dX3_layColumn_81 (by decide) ?_
    have e0 : nI (shn w h (r * w + x) 3) - 1 = nI (shn w h (r * w + x) 3 - 1) := by rw [a12]; rfl
    rw [e0]
    rw [a12]
    refine v_callV5x (M' := M_X3_lay) dX3_layColumn_85 lm_X3_80 cv_X3_lay hs.1 (by omega) (by decide) (Nat.le_of_ble_eq_true rfl) (Nat.le_of_ble_eq_true rfl) rfl (gh_lay (y := 3) hs a2 (by decide) d) ?_
    exact v_return dX3_layColumn_88 rfl ⟨rfl, rfl, rfl⟩
set_option maxRecDepth 4000 in
theorem gh_layColumn {X : zX} {sh : zs2} {n : Nat} {mu : zmu} {nu : znu} (hs : shQ sh n) {w h dd r x : Nat} (g1 : 2 ≤ w) (g2 : w ≤ 5) (g3 : 2 ≤ h) (g4 : h ≤ 4) (gd : dd < h) (hr : r < h) (hx : x < w) (hw : mu 3 0 = nI w) (hh : mu 3 1 = nI h) (hdr : mu 3 2 = nI dd) (d : Nat) : zJ X M_X3_layColumn (d + 1) 0 0 0 [.ref 3, .int (nI r), .int (nI x), zu, zu, zu] [] n (zEh sh (mu) nu) (zlh sh n (zex none (layC w h dd (r * w + x) mu) nu)) := by
  have h10 := hs.2.2.2.2
  obtain ⟨a1, a2, a3, a4, a5, a6, a7, a8, a9, a10, a11, a12⟩ := lay_at g1 g2 g3 g4 gd hr hx
  have b1 : rwo h r (h - dd) < 20 := by unfold rwo; split <;> omega
  have b2 : r * w ≤ 20 := by omega
  have b3 : rwo h r (h - dd) * w ≤ 20 * 5 := Nat.mul_le_mul (by omega) g2
  have k2 := gh_layColumn2 (X := X) (nu := nu) (mu := setw mu (r * w + x) 2 (nbc w h dd (r * w + x) 2) (nbc w h dd (r * w + x) 2) (nI (shn w h (r * w + x) 2) - 1)) hs g1 g2 g3 g4 gd hr hx hw hh hdr d
  refine z_iload_n dX3_layColumn_0 rfl ?_
  refine z_aload_n dX3_layColumn_1 rfl ?_
  refine v_getI dX3_layColumn_2 lf_X3_9 hs.1 (by omega) (by decide) rfl hw ?_
  refine zn_imul dX3_layColumn_5 ?_
  refine z_iload_n dX3_layColumn_6 rfl ?_
  refine zn_iadd dX3_layColumn_7 ?_
  refine z_istore3 dX3_layColumn_8 rfl ?_
  refine z_aload_n dX3_layColumn_9 rfl ?_
  refine z_iload_n dX3_layColumn_10 rfl ?_
  refine z_aload_n dX3_layColumn_11 rfl ?_
  refine v_getI dX3_layColumn_12 lf_X3_15 hs.1 (by omega) (by decide) rfl hh ?_
  refine z_iconst (v := nI 1) dX3_layColumn_15 rfl ?_
  refine zn_isub dX3_layColumn_16 (by omega) ?_
  refine v_callV2x (M' := M_X3_rowOn) dX3_layColumn_17 lm_X3_84 cv_X3_rowOn hs.1 (by omega) (by decide) (Nat.le_of_ble_eq_true rfl) (Nat.le_of_ble_eq_true rfl) rfl (gh_rowOn hs hh (by omega) (by omega) (by omega) d) ?_
  refine z_aload_n dX3_layColumn_20 rfl ?_
  refine v_getI dX3_layColumn_21 lf_X3_9 hs.1 (by omega) (by decide) rfl hw ?_
  refine zn_imul dX3_layColumn_24 ?_
  refine z_iload_n dX3_layColumn_25 rfl ?_
  refine zn_iadd dX3_layColumn_26 ?_
  refine z_istore4 dX3_layColumn_27 rfl ?_
  refine z_aload_n dX3_layColumn_29 rfl ?_
  refine z_iload_n dX3_layColumn_30 rfl ?_
  refine z_iconst (v := nI 1) dX3_layColumn_31 rfl ?_
  refine v_callV2x (M' := M_X3_rowOn) dX3_layColumn_32 lm_X3_84 cv_X3_rowOn hs.1 (by omega) (by decide) (Nat.le_of_ble_eq_true rfl) (Nat.le_of_ble_eq_true rfl) rfl (gh_rowOn hs hh (by omega) (by omega) (by omega) d) ?_
  refine z_aload_n dX3_layColumn_35 rfl ?_
  refine v_getI dX3_layColumn_36 lf_X3_9 hs.1 (by omega) (by decide) rfl hw ?_
  refine zn_imul dX3_layColumn_39 ?_
  refine z_iload_n dX3_layColumn_40 rfl ?_
  refine zn_iadd dX3_layColumn_41 ?_
  refine z_istore5 dX3_layColumn_42 rfl ?_
  refine z_aload_n dX3_layColumn_44 rfl ?_
  refine z_iload_n dX3_layColumn_45 rfl ?_
  refine z_iconst (v := nI 2) dX3_layColumn_46 rfl ?_
  refine z_iload dX3_layColumn_47 rfl ?_
  refine z_iload dX3_layColumn_49 rfl ?_
  refine z_iload_n dX3_layColumn_51 rfl ?_
  refine zn_if_ne (tgt := 59) dX3_layColumn_52 (by decide) (by omega) (fun hc52 => ?_) (fun hc52 => ?_)
  · rw [if_neg hc52] at a11
    have e0 : nI (shn w h (r * w + x) 2) - 1 = nI 0 := by rw [a11]; rfl
    refine z_iconst (v := nI 0) dX3_layColumn_59 rfl ?_
    refine v_callV5x (M' := M_X3_lay) dX3_layColumn_60 lm_X3_80 cv_X3_lay hs.1 (by omega) (by decide) (Nat.le_of_ble_eq_true rfl) (Nat.le_of_ble_eq_true rfl) rfl (gh_lay (y := 2) hs a2 (by decide) d) ?_
    exact z_eqLh k2 (by rw [a9, a10] <;> rfl) (by rw [a9, e0] <;> rfl)
  · rw [if_pos hc52] at a11
    have e0 : nI (shn w h (r * w + x) 2) - 1 = -1 := by rw [a11]; rfl
    refine z_iconst (v := -1) dX3_layColumn_55 rfl ?_
    refine z_goto (tgt := 60) dX3_layColumn_56 (by decide) ?_
    refine v_callV5x (M' := M_X3_lay) dX3_layColumn_60 lm_X3_80 cv_X3_lay hs.1 (by omega) (by decide) (Nat.le_of_ble_eq_true rfl) (Nat.le_of_ble_eq_true rfl) rfl (gh_lay (y := 2) hs a2 (by decide) d) ?_
    exact z_eqLh k2 (by rw [a9, a10] <;> rfl) (by rw [a9, e0] <;> rfl)
set_option maxRecDepth 4000 in
theorem gh_layIn {X : zX} {sh : zs2} {n : Nat} {mu : zmu} {nu : znu} (hs : shQ sh n) {w h dd : Nat} (g1 : 2 ≤ w) (g2 : w ≤ 5) (g3 : 2 ≤ h) (g4 : h ≤ 4) (gd : dd < h) (hw : mu 3 0 = nI w) (hh : mu 3 1 = nI h) (hdr : mu 3 2 = nI dd) {r : Nat} (hr : r < h) (d : Nat) {Q : zq} (kk : zJ X M_X3_layOut (d + 2) 0 0 56 [.ref 3, .int (nI r), .int (nI w)] [] n (zEh sh (layK w h dd (r * w + w) mu) nu) (zlh sh n Q)) : ∀ m x, x + m = w → zJ X M_X3_layOut (d + 2) 0 0 30 [.ref 3, .int (nI r), .int (nI x)] [] n (zEh sh (layK w h dd (r * w + x) mu) nu) (zlh sh n Q) := by
  have h10 := hs.2.2.2.2
  intro m
  induction m with
  | zero =>
    intro x hx
    obtain rfl : x = w := by omega
    refine z_iload_n dX3_layOut_30 rfl ?_
    refine z_aload_n dX3_layOut_31 rfl ?_
    refine v_getI dX3_layOut_32 lf_X3_9 hs.1 (by omega) (by decide) rfl (layK_3.trans hw) ?_
    refine zn_icmp_ge (tgt := 56) dX3_layOut_35 (by decide) (by omega) (by omega) (fun hc35 => ?_) (fun hc35 => by omega)
    exact kk
  | succ m ih =>
    intro x hx
    refine z_iload_n dX3_layOut_30 rfl ?_
    refine z_aload_n dX3_layOut_31 rfl ?_
    refine v_getI dX3_layOut_32 lf_X3_9 hs.1 (by omega) (by decide) rfl (layK_3.trans hw) ?_
    refine zn_icmp_ge (tgt := 56) dX3_layOut_35 (by decide) (by omega) (by omega) (fun hc35 => by omega) (fun hc35 => ?_)
    refine z_aload_n dX3_layOut_38 rfl ?_
    refine z_iload_n dX3_layOut_39 rfl ?_
    refine z_iload_n dX3_layOut_40 rfl ?_
    refine v_callV2x (M' := M_X3_layRow) dX3_layOut_41 lm_X3_73 cv_X3_layRow hs.1 (by omega) (by decide) (Nat.le_of_ble_eq_true rfl) (Nat.le_of_ble_eq_true rfl) rfl (gh_layRow hs g1 g2 g3 g4 gd hr (by omega) (by rw [layK_3]; exact hw) (by rw [layK_3]; exact hh) (by rw [layK_3]; exact hdr) d) ?_
    refine z_aload_n dX3_layOut_44 rfl ?_
    refine z_iload_n dX3_layOut_45 rfl ?_
    refine z_iload_n dX3_layOut_46 rfl ?_
    refine v_callV2x (M' := M_X3_layColumn) dX3_layOut_47 lm_X3_77 cv_X3_layColumn hs.1 (by omega) (by decide) (Nat.le_of_ble_eq_true rfl) (Nat.le_of_ble_eq_true rfl) rfl (gh_layColumn hs g1 g2 g3 g4 gd hr (by omega) (layR_3.trans (layK_3.trans hw)) (layR_3.trans (layK_3.trans hh)) (layR_3.trans (layK_3.trans hdr)) d) ?_
    rw [layK_s]
    refine zn_iinc2 dX3_layOut_50 rfl ?_
    refine z_goto (tgt := 30) dX3_layOut_53 (by decide) ?_
    exact ih (x + 1) (by omega)
set_option maxRecDepth 4000 in
theorem gh_layAll {X : zX} {sh : zs2} {n : Nat} {mu : zmu} {nu : znu} (hs : shQ sh n) {w h dd : Nat} (g1 : 2 ≤ w) (g2 : w ≤ 5) (g3 : 2 ≤ h) (g4 : h ≤ 4) (gd : dd < h) (hw : mu 3 0 = nI w) (hh : mu 3 1 = nI h) (hdr : mu 3 2 = nI dd) (d : Nat) : ∀ m r, r + m = h → zJ X M_X3_layOut (d + 2) 0 0 20 [.ref 3, .int (nI r), zu] [] n (zEh sh (layK w h dd (r * w) mu) nu) (zlh sh n (zex none (layK w h dd (h * w) mu) nu)) := by
  have h10 := hs.2.2.2.2
  intro m
  induction m with
  | zero =>
    intro r hr
    obtain rfl : r = h := by omega
    refine z_iload_n dX3_layOut_20 rfl ?_
    refine z_aload_n dX3_layOut_21 rfl ?_
    refine v_getI dX3_layOut_22 lf_X3_15 hs.1 (by omega) (by decide) rfl (layK_3.trans hh) ?_
    refine zn_icmp_ge (tgt := 62) dX3_layOut_25 (by decide) (by omega) (by omega) (fun hc25 => ?_) (fun hc25 => by omega)
    exact v_return dX3_layOut_62 rfl ⟨rfl, rfl, rfl⟩
  | succ m ih =>
    intro r hr
    have k1 := ih (r + 1) (by omega)
    rw [Nat.succ_mul] at k1
    have kx : zJ X M_X3_layOut (d + 2) 0 0 56 [.ref 3, .int (nI r), .int (nI w)] [] n (zEh sh (layK w h dd (r * w + w) mu) nu) (zlh sh n (zex none (layK w h dd (h * w) mu) nu)) := by
      refine zn_iinc1 dX3_layOut_56 rfl ?_
      refine z_goto (tgt := 20) dX3_layOut_59 (by decide) ?_
      exact z_sub k1 ⟨Or.inr rfl, Or.inr rfl, Or.inl rfl, trivial⟩
    refine z_iload_n dX3_layOut_20 rfl ?_
    refine z_aload_n dX3_layOut_21 rfl ?_
    refine v_getI dX3_layOut_22 lf_X3_15 hs.1 (by omega) (by decide) rfl (layK_3.trans hh) ?_
    refine zn_icmp_ge (tgt := 62) dX3_layOut_25 (by decide) (by omega) (by omega) (fun hc25 => by omega) (fun hc25 => ?_)
    refine z_iconst (v := nI 0) dX3_layOut_28 rfl ?_
    refine z_istore2 dX3_layOut_29 rfl ?_
    exact gh_layIn hs g1 g2 g3 g4 gd hw hh hdr (by omega) d kx w 0 (by omega)
set_option maxRecDepth 4000 in
theorem gh_layOut {X : zX} {sh : zs2} {n : Nat} {mu : zmu} {nu : znu} (hs : shQ sh n) {w h dd : Nat} (g1 : 2 ≤ w) (g2 : w ≤ 5) (g3 : 2 ≤ h) (g4 : h ≤ 4) (gd : dd < h) (hw : mu 3 0 = nI w) (hh : mu 3 1 = nI h) (hdr : mu 3 2 = nI dd) (d : Nat) : zJ X M_X3_layOut (d + 2) 0 0 0 [.ref 3, zu, zu] [] n (zEh sh (mu) nu) (zlh sh n (zex none (layK w h dd (h * w) (u2 mu 3 3 (nI (w * h)))) nu)) := by
  have h10 := hs.2.2.2.2
  have h20 : w * h ≤ 20 := Nat.le_trans (Nat.mul_le_mul g2 g4) (by decide)
  refine z_aload_n dX3_layOut_0 rfl ?_
  refine z_aload_n dX3_layOut_1 rfl ?_
  refine v_getI dX3_layOut_2 lf_X3_9 hs.1 (by omega) (by decide) rfl hw ?_
  refine z_aload_n dX3_layOut_5 rfl ?_
  refine v_getI dX3_layOut_6 lf_X3_15 hs.1 (by omega) (by decide) rfl hh ?_
  refine zn_imul dX3_layOut_9 ?_
  refine z_bipush (v := nI 20) dX3_layOut_10 rfl ?_
  refine z_min dX3_layOut_12 lm_X3_53 st_J9_min_7cf53 ini_RJ9 co_J9_min_7cf53 (Nat.le_of_ble_eq_true rfl) (by omega) ?_
  rw [if_neg (nI_nlt (by omega) (by omega))]
  refine v_putI dX3_layOut_15 lp_X3_61 hs.1 (by omega) (by decide) rfl ?_
  refine z_iconst (v := nI 0) dX3_layOut_18 rfl ?_
  refine z_istore1 dX3_layOut_19 rfl ?_
  have k1 := gh_layAll (X := X) (nu := nu) (mu := u2 mu 3 3 (nI (w * h))) hs g1 g2 g3 g4 gd hw hh hdr d h 0 (by omega); rw [Nat.zero_mul, layK_0] at k1; exact k1
