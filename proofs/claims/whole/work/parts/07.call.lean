def zflat (av : List Value) : List Value := av.flatMap fun v => if v.category = 2 then [v, zu] else [v]
def zargs (nL : Nat) (av : List Value) : List Value := zflat av ++ List.replicate (nL - (zflat av).length) zu
theorem zflat_len (b0 : Nat) (cs : Nat → Nat) : ∀ av : List Value, (lg_sl (av.map (ztr b0 cs))).length = (zflat av).length
  | [] => rfl
  | v :: av => by
    have ih := zflat_len b0 cs av
    unfold lg_sl zflat at *
    simp only [List.map_cons, List.flatMap_cons, List.length_append, ztr_cat] at *
    rw [ih]
    by_cases hv : v.category = 2 <;> simp [hv]
theorem zflat_at (b0 : Nat) (cs : Nat → Nat) : ∀ (av : List Value) (i0 i : Nat) (v : Value), (zflat av)[i]? = some v → v ≠ zu → (i0 + i, ztr b0 cs v) ∈ lv_args i0 (av.map (ztr b0 cs))
  | [], _, i, v, h, _ => by simp [zflat] at h
  | w :: av, i0, i, v, h, hv => by
    unfold zflat at h
    rw [List.flatMap_cons] at h
    rw [List.map_cons]
    unfold lv_args
    rw [ztr_cat]
    by_cases hw : w.category = 2
    · rw [if_pos hw] at h ⊢
      match i, h with
      | 0, h => simp at h; subst h; exact List.mem_cons_self
      | 1, h => simp at h; exact absurd h.symm hv
      | i + 2, h =>
        refine List.mem_cons_of_mem _ ?_
        have h : (zflat av)[i]? = some v := by simpa [zflat] using h
        have := zflat_at b0 cs av (i0 + 2) i v h hv
        rwa [show i0 + 2 + i = i0 + (i + 2) by omega] at this
    · rw [if_neg hw] at h ⊢
      match i, h with
      | 0, h => simp at h; subst h; exact List.mem_cons_self
      | i + 1, h =>
        refine List.mem_cons_of_mem _ ?_
        have h : (zflat av)[i]? = some v := by simpa [zflat] using h
        have := zflat_at b0 cs av (i0 + 1) i v h hv
        rwa [show i0 + 1 + i = i0 + (i + 1) by omega] at this
theorem zargs_L {b0 : Nat} {cs : Nat → Nat} {nL : Nat} {av : List Value} (hlen : (zflat av).length ≤ nL) : zL b0 cs ((lg_sl (av.map (ztr b0 cs)) ++ List.replicate (nL - (lg_sl (av.map (ztr b0 cs))).length) Slot.unset).toArray) nL (zargs nL av) := by
  have hl := lv_entry (av.map (ztr b0 cs)) (n := nL) (by rw [zflat_len]; exact hlen)
  refine ⟨by simp [zargs]; omega, hl.1, hl.2.1, fun i v hi hv => ?_⟩
  by_cases hil : i < (zflat av).length
  · unfold zargs at hi
    rw [List.getElem?_append_left hil] at hi
    have := hl.2.2 _ (zflat_at b0 cs av 0 i v hi hv)
    simpa using this
  · unfold zargs at hi
    rw [List.getElem?_append_right (by omega)] at hi
    have := List.eq_of_mem_replicate (List.mem_of_getElem? hi)
    exact absurd this hv
def zPc (X : zX) (D : va_G) (cy : Nat → ClassId) (b0 : Nat) (cs : Nat → Nat) (av : List Value) (n : Nat) (h : zH) : Array Value → State → Prop := va_Pc (av.map (ztr b0 cs)) (fun U => U.heap.size = b0 + n ∧ va_P D vwCl (zWl cy b0 cs n h) U.heap ∧ zG X D cy b0 cs U)
def zQc (D : va_G) (cy : Nat → ClassId) (b0 : Nat) (cs : Nat → Nat) (k : Nat) (Q : zQ) : Array Value → State → Outcome → State → Prop := fun _ st o t => (∃ r n' h', o = .returned r ∧ r.map (ztr b0 cs) = r ∧ Q r n' h' ∧ t.heap.size = b0 + n' ∧ va_P D vwCl (zWl cy b0 cs n' h') t.heap ∧ t.heap.size = st.heap.size + k) ∧ va_F (fun q => b0 ≤ q) st t
abbrev zrm (d k q : Nat) : Room := { frames := d, cells := k, slots := q, locals := 64 * d }
abbrev zws (M : zM) : List Cond := Cond.code M.1 M.2.1 M.2.2.1 M.2.2.2 :: zU
theorem zMet {X : zX} {M : zM} {d k q : Nat} {av Lc : List Value} {n : Nat} {h : zH} {Q : zQ} (hp : plainName M.1.cls = true) (hlen : (zflat av).length ≤ M.2.2.1) (hLc : zargs M.2.2.1 av = Lc) (hJ : zJ X M d k q 0 Lc [] n h Q) (D : va_G) (cy : Nat → ClassId) (b0 : Nat) (cs : Nat → Nat) (l : Launch) :
    Met l M.1 (zws M) (zrm d k q) (zPc X D cy b0 cs av n h) (zQc D cy b0 cs k Q) k q (fun q => b0 ≤ q) := by
  subst hLc
  refine Met.ofW (cc := M.2.1) (maxL := M.2.2.1) (ret := M.2.2.2) hp rfl ?_
  intro p e s m args below meth c s₁ B hml hv
  obtain ⟨rfl, hsz, hP, hG⟩ := hv
  have hts := atoms_spec (ws := zws M) B.pre
  have hown : s.vm.findClass M.1.cls = some m.cls := findClass_of_methodNamed B.named
  have hnm : meth.name = M.1.name := (name_of_methodNamed B.named B.method).1
  rw [lg_entry_eq]
  refine hJ D cy b0 cs l p e _ s m _ below meth c _ s.heap [] 0 0 _ k q ⟨B.exec, B.bytes, hml, B.returns, hown, fun w hw => hts w (List.mem_cons_of_mem _ hw), B.notSynchronized, fun h => hnm.trans h, hG, Nat.le_refl _, Nat.le_refl _⟩ ⟨hsz, hP, rfl, va_S.rf⟩ (zargs_L hlen) (Nat.zero_add _) (Nat.le_of_eq (Nat.zero_add _)) (Nat.le_refl _) (Nat.le_refl _) ?_
  intro r n' h' H' locs' slots' pc' ls' hq hS' hsl hend
  refine W.widen (Nat.le_refl _) hsl ?_
  rcases hend with ⟨rfl, hr, hd⟩ | ⟨v, ty, rfl, hr, hn, hd⟩ | ⟨v, rfl, hr, hd⟩
  · exact W.vret B.exec B.bytes (B.returns.trans hr) (fun t ht _ => ⟨⟨none, n', h', rfl, rfl, hq, by rw [ht]; exact hS'.1, by rw [ht]; exact hS'.2.1, by rw [ht]; exact hS'.2.2.1⟩, hS'.2.2.2.F ht⟩) (fun q hq => hS'.2.2.2.2.2 q hq) hd
  · exact W.zret B.exec B.bytes (B.returns.trans hr) hn (fun t ht _ => ⟨⟨some (.int v), n', h', rfl, rfl, hq, by rw [ht]; exact hS'.1, by rw [ht]; exact hS'.2.1, by rw [ht]; exact hS'.2.2.1⟩, hS'.2.2.2.F ht⟩) (fun q hq => hS'.2.2.2.2.2 q hq) hd
  · exact W.lret B.exec B.bytes (B.returns.trans hr) (fun t ht _ => ⟨⟨some (.long v), n', h', rfl, rfl, hq, by rw [ht]; exact hS'.1, by rw [ht]; exact hS'.2.1, by rw [ht]; exact hS'.2.2.1⟩, hS'.2.2.2.F ht⟩) (fun q hq => hS'.2.2.2.2.2 q hq) hd
theorem zG.moved {X : zX} {D : va_G} {cy : Nat → ClassId} {b0 : Nat} {cs : Nat → Nat} {s U : State} {H : Heap} {locs : List Loc} (hG : zG X D cy b0 cs s) (hS : va_S (fun q => b0 ≤ q) s.heap H locs) (hU : U.heap = H) (hW : s.WarmedH U.vm) : zG X D cy b0 cs U := by
  obtain ⟨g1, g2, g3, g4, g5, g6, g7, g8, g9, g10⟩ := hG
  have hk : ∀ a : Nat, a < s.heap.size → ¬ (fun q => b0 ≤ q) a → U.heap[a]? = s.heap[a]? := fun a ha hb => by rw [hU]; exact hS.2.1 a ha hb
  have hv := hW.alike
  exact ⟨g1.moved hv, fun q hq => va_Nw.warmM hW (g2 q hq), g3.moved hv, (g4.kept (hk _ (Nat.lt_of_lt_of_le g5 g6) (Nat.not_le.mpr g5))).moved hv, g5, by rw [hU]; exact Nat.le_trans g6 hS.1, (g7.kept hk).moved hv, (g8.kept hk).moved hv, (g9.kept hk).moved hv, (g10.kept hk).moved hv⟩
theorem zPc_blind {X : zX} {D : va_G} {cy : Nat → ClassId} {b0 : Nat} {cs : Nat → Nat} {av : List Value} {n : Nat} {h : zH} : FrameBlind (zPc X D cy b0 cs av n h) := by
  intro a U g mk hq
  obtain ⟨q1, q2, q3, q4⟩ := hq
  exact ⟨q1, q2, q3, q4.moved (H := U.heap) (locs := []) va_S.rf rfl (State.WarmedH.refl U)⟩
/-- behind a call -/
theorem zback {D : va_G} {cy : Nat → ClassId} {b0 : Nat} {cs : Nat → Nat} {s : State} {n : Nat} {h : zH} {H : Heap} {locs : List Loc} {cells slots : Nat} {p : Program} {l : Launch} {e : Env} {R : Room} {m : MethodId} {args : Array Value} {below : List Frame} {meth : Method} {c : Code} {Qw : State → Prop} {pc k1 q1 : Nat} {ls : Array Slot} {st0 rest : List Value} {Q' : zQ} {a : Array Value}
    (hS : zS D cy b0 cs s n h H locs cells) (hr : va_Run p l e R s m args below meth c H locs cells slots k1 q1 (F0 m pc ls st0) rest (zQc D cy b0 cs k1 Q' a) (fun q => b0 ≤ q))
    (kk : ∀ r n' h' H1 locs1, Q' r n' h' → r.map (ztr b0 cs) = r → zS D cy b0 cs s n' h' H1 locs1 (cells + k1) → W p l e R s m args below meth c H1 locs1 (cells + k1) (slots + q1) Qw (F0 m (pc + 3) ls (r.toList ++ rest))) : W p l e R s m args below meth c H locs cells slots Qw (F0 m pc ls st0) := by
  intro T hT X
  obtain ⟨v, st₀, t, T', L, h0, X', hL, e1, e2, ⟨⟨r, n', h', hv, hrr, hq, z1, z2, z3⟩, hz, hk⟩, st⟩ := hr T hT X
  obtain rfl : v = r := by simpa using hv
  rw [h0] at hz hk z3
  obtain ⟨hs1, hs2, hs3, hs4⟩ := hS
  obtain ⟨t2, a1, b1⟩ := kk v n' h' T'.heap (locs ++ L) hq hrr ⟨by rw [e1]; exact z1, by rw [e1]; exact z2, by rw [e1]; omega, ⟨Nat.le_trans hs4.1 (by rw [e1]; exact hz), fun q g1 g2 => by
      rw [e1, hk q (Nat.lt_of_lt_of_le g1 hs4.1) g2]; exact hs4.2.1 q g1 g2, fun q hq => by
      rcases List.mem_append.mp hq with h | h
      · exact hs4.2.2 q h
      · exact hL q h⟩⟩ T' rfl X'
  exact ⟨t2, st t2 a1, b1⟩
theorem zsum {b0 : Nat} {cs : Nat → Nat} (S : List Value) : ((S.map (ztr b0 cs)).map fun v => v.category) = S.map fun v => v.category := by
  rw [List.map_map]; exact List.map_congr_left (fun v _ => ztr_cat v)
theorem zrest {b0 : Nat} {cs : Nat → Nat} {r : Option Value} {S : List Value} (hr : r.map (ztr b0 cs) = r) : (r.toList ++ S).map (ztr b0 cs) = r.toList ++ S.map (ztr b0 cs) := by
  cases r with
  | none => rfl
  | some v =>
    simp only [Option.map_some, Option.some.injEq] at hr
    simp [hr]
/-- a callee's own facts -/
def zcal (M : zM) (na : Nat) : Prop := Cond.code M.1 M.2.1 M.2.2.1 M.2.2.2 ∈ zU ∧ Cond.initialized M.1.cls ∈ zU ∧ plainName M.1.cls = true ∧ M.1.cls ≠ "java/lang/invoke/MethodHandle" ∧ M.1.cls ≠ "java/lang/invoke/VarHandle" ∧ (parseMethodDescriptor M.1.desc).map (fun d => d.parameters.length) = some na ∧ M.2.2.1 ≤ 40
theorem zgood {M M' : zM} {na : Nat} (hc : zcal M' na) : GoodIn zU (zws M') := fun w hw => by
  rcases List.mem_cons.mp hw with rfl | hw
  · exact ⟨hc.1, good_of_word (zU_good hc.1)⟩
  · exact ⟨hw, good_of_word (zU_good hw)⟩
theorem zCallV {X : zX} {M : zM} {d k q pc : Nat} {L S : List Value} {n : Nat} {h : zH} {Q : zQ} {M' : zM} {idx na k1 q1 : Nat} {a : Nat} {As Lc : List Value} {Q' : zQ} (hd : decode M.2.1 pc = .ok (.invokevirtual idx, 3)) (hlk : Cond.methodLink M.1.cls idx M'.1 ∈ zU) (hw1 : Cond.instanceMethod M'.1 ∈ zU) (hw2 : Cond.selects M'.1.cls M'.1 M'.1 ∈ zU) {ci : Nat} {fs : List Value} {T : u_T} {N : Nat} (ha : h a = .inr (ci, fs)) (han : a < n) (hci : vwCl[ci]? = some (M'.1.cls, T, N)) (ham : a < 1000000) (hc : zcal M' na) (hna : As.length = na) (hst : (S.map fun v => v.category).sum ≤ 8) (hlen : (zflat (.ref a :: As)).length ≤ M'.2.2.1) (hLc : zargs M'.2.2.1 (.ref a :: As) = Lc)
    (hJ : zJ X M' d k1 q1 0 Lc [] n h Q') (kk : ∀ r n' h', Q' r n' h' → zJ X M (d + 1) k q (pc + 3) L (r.toList ++ S) n' h' Q) : zJ X M (d + 1) (k1 + k) (q1 + q) pc L (As.reverse ++ .ref a :: S) n h Q := by
  intro D cy b0 cs l p e R s m args below meth c Qw H locs cells slots ls mc ms hF hS hL h1 h2 h3 h4 hf
  obtain ⟨f1, f2, f3, f4, f5, f6, f7, f8, f9, f10, f11⟩ := id hF
  have hM := zMet hc.2.2.1 hlen hLc hJ D cy b0 cs l
  have hst' : ((S.map (ztr b0 cs)).map fun v => v.category).sum ≤ 8 := by rw [zsum]; exact hst
  have hR : (zrm d k1 q1).frames + 1 ≤ R.frames ∧ 8 + (M'.2.2.1 + 11) + (zrm d k1 q1).locals ≤ R.locals := ⟨f10, by have := hc.2.2.2.2.2.2; show 8 + (M'.2.2.1 + 11) + 64 * d ≤ _; omega⟩
  have hpre : ∀ U : State, U.heap = H → s.WarmedH U.vm → zPc X D cy b0 cs (.ref a :: As) n h (((.ref a :: As).map (ztr b0 cs))).toArray U := fun U hU hW => ⟨rfl, by rw [hU]; exact hS.1, by rw [hU]; exact hS.2.1, f9.moved hS.2.2.2 hU hW⟩
  rw [List.map_append, List.map_reverse]
  rw [List.map_cons] at hpre ⊢
  rw [ztr_ref ham] at hpre ⊢
  have hw := zWl_at (cy := cy) (b0 := b0) (cs := cs) (h := h) han
  rw [ha] at hw
  have cw : CallW R s args M.1.cls M'.1.cls idx M'.1 M'.2.1 M'.2.2.1 M'.2.2.2 (zws M') (zrm d k1 q1) k1 q1 na := ⟨callB_of na f6 (zgood (M := M) hc) rfl rfl rfl (f6 _ hc.2.1) (f6 _ hlk) ⟨hc.2.2.2.1, hc.2.2.2.2.1, hc.2.2.2.2.2.1⟩ hR, f6 _ hw1, f6 _ hw2⟩
  refine zback hS (va_runV (As := As.map (ztr b0 cs)) (rest := S.map (ztr b0 cs)) (C := M'.1.cls) (b := b0 + a) ⟨f1, f2, f3, f5, f6⟩ hM cw ⟨zPc_blind, va_recv f9.1 hS.2.1 hci hw, hpre⟩ rfl (by rw [List.length_map]; exact hna) hL.2.1 rfl (lv_room hst') hd ⟨by omega, by omega⟩) ?_
  intro r n' h' H1 locs1 hq hr hS1
  rw [← zrest hr]
  exact kk r n' h' hq D cy b0 cs l p e R s m args below meth c Qw H1 locs1 (cells + k1) (slots + q1) ls mc ms hF hS1 hL (by omega) (by omega) h3 h4 hf
theorem zCallS {X : zX} {M : zM} {d k q pc : Nat} {L S : List Value} {n : Nat} {h : zH} {Q : zQ} {M' : zM} {idx na k1 q1 : Nat} {As Lc : List Value} {Q' : zQ} (hd : decode M.2.1 pc = .ok (.invokestatic idx, 3)) (hlk : Cond.methodLink M.1.cls idx M'.1 ∈ zU) (hw1 : Cond.static M'.1 ∈ zU) (hc : zcal M' na) (hna : As.length = na) (hst : (S.map fun v => v.category).sum ≤ 8) (hlen : (zflat As).length ≤ M'.2.2.1) (hLc : zargs M'.2.2.1 As = Lc)
    (hJ : zJ X M' d k1 q1 0 Lc [] n h Q') (kk : ∀ r n' h', Q' r n' h' → zJ X M (d + 1) k q (pc + 3) L (r.toList ++ S) n' h' Q) : zJ X M (d + 1) (k1 + k) (q1 + q) pc L (As.reverse ++ S) n h Q := by
  intro D cy b0 cs l p e R s m args below meth c Qw H locs cells slots ls mc ms hF hS hL h1 h2 h3 h4 hf
  obtain ⟨f1, f2, f3, f4, f5, f6, f7, f8, f9, f10, f11⟩ := id hF
  have hM := zMet hc.2.2.1 hlen hLc hJ D cy b0 cs l
  have hst' : ((S.map (ztr b0 cs)).map fun v => v.category).sum ≤ 8 := by rw [zsum]; exact hst
  have hR : (zrm d k1 q1).frames + 1 ≤ R.frames ∧ 8 + (M'.2.2.1 + 11) + (zrm d k1 q1).locals ≤ R.locals := ⟨f10, by have := hc.2.2.2.2.2.2; show 8 + (M'.2.2.1 + 11) + 64 * d ≤ _; omega⟩
  have hpre : ∀ U : State, U.heap = H → s.WarmedH U.vm → zPc X D cy b0 cs As n h ((As.map (ztr b0 cs))).toArray U := fun U hU hW => ⟨rfl, by rw [hU]; exact hS.1, by rw [hU]; exact hS.2.1, f9.moved hS.2.2.2 hU hW⟩
  rw [List.map_append, List.map_reverse]
  have cw : CallB R s args M.1.cls idx M'.1 M'.2.1 M'.2.2.1 M'.2.2.2 (zws M') (zrm d k1 q1) k1 q1 na ∧ (Cond.static M'.1).before args s = true := ⟨callB_of na f6 (zgood (M := M) hc) rfl rfl rfl (f6 _ hc.2.1) (f6 _ hlk) ⟨hc.2.2.2.1, hc.2.2.2.2.1, hc.2.2.2.2.2.1⟩ hR, f6 _ hw1⟩
  refine zback hS (va_runS (As := As.map (ztr b0 cs)) (rest := S.map (ztr b0 cs)) ⟨f1, f2, f3, f5, f6⟩ hM cw ⟨zPc_blind, hpre⟩ rfl (by rw [List.length_map]; exact hna) hL.2.1 rfl (lv_room hst') hd ⟨by omega, by omega⟩) ?_
  intro r n' h' H1 locs1 hq hr hS1
  rw [← zrest hr]
  exact kk r n' h' hq D cy b0 cs l p e R s m args below meth c Qw H1 locs1 (cells + k1) (slots + q1) ls mc ms hF hS1 hL (by omega) (by omega) h3 h4 hf
theorem zCallI {X : zX} {M : zM} {d k q pc : Nat} {L S : List Value} {n : Nat} {h : zH} {Q : zQ} {M' : zM} {idx na k1 q1 : Nat} {a : Nat} {As Lc : List Value} {Q' : zQ} (hd : decode M.2.1 pc = .ok (.invokespecial idx, 3)) (hlk : Cond.methodLink M.1.cls idx M'.1 ∈ zU) (hw1 : Cond.instanceMethod M'.1 ∈ zU) (hw2 : M'.1.name = "<init>") (hrt : M'.2.2.2 = none) (ham : a < 1000000) (hc : zcal M' na) (hna : As.length = na) (hst : (S.map fun v => v.category).sum ≤ 8) (hlen : (zflat (.ref a :: As)).length ≤ M'.2.2.1) (hLc : zargs M'.2.2.1 (.ref a :: As) = Lc)
    (hJ : zJ X M' d k1 q1 0 Lc [] n h Q') (kk : ∀ r n' h', Q' r n' h' → zJ X M (d + 1) k q (pc + 3) L (r.toList ++ S) n' h' Q) : zJ X M (d + 1) (k1 + k) (q1 + q) pc L (As.reverse ++ .ref a :: S) n h Q := by
  intro D cy b0 cs l p e R s m args below meth c Qw H locs cells slots ls mc ms hF hS hL h1 h2 h3 h4 hf
  obtain ⟨f1, f2, f3, f4, f5, f6, f7, f8, f9, f10, f11⟩ := id hF
  have hM := zMet hc.2.2.1 hlen hLc hJ D cy b0 cs l
  have hst' : ((S.map (ztr b0 cs)).map fun v => v.category).sum ≤ 8 := by rw [zsum]; exact hst
  have hR : (zrm d k1 q1).frames + 1 ≤ R.frames ∧ 8 + (M'.2.2.1 + 11) + (zrm d k1 q1).locals ≤ R.locals := ⟨f10, by have := hc.2.2.2.2.2.2; show 8 + (M'.2.2.1 + 11) + 64 * d ≤ _; omega⟩
  have hpre : ∀ U : State, U.heap = H → s.WarmedH U.vm → zPc X D cy b0 cs (.ref a :: As) n h (((.ref a :: As).map (ztr b0 cs))).toArray U := fun U hU hW => ⟨rfl, by rw [hU]; exact hS.1, by rw [hU]; exact hS.2.1, f9.moved hS.2.2.2 hU hW⟩
  rw [List.map_append, List.map_reverse]
  rw [List.map_cons] at hpre ⊢
  rw [ztr_ref ham] at hpre ⊢
  have cw : CallB R s args M.1.cls idx M'.1 M'.2.1 M'.2.2.1 M'.2.2.2 (zws M') (zrm d k1 q1) k1 q1 na ∧ M'.1.name = "<init>" ∧ (Cond.instanceMethod M'.1).before args s = true := ⟨callB_of na f6 (zgood (M := M) hc) rfl rfl rfl (f6 _ hc.2.1) (f6 _ hlk) ⟨hc.2.2.2.1, hc.2.2.2.2.1, hc.2.2.2.2.2.1⟩ hR, hw2, f6 _ hw1⟩
  rw [hrt] at cw
  refine zback hS (va_runI (As := As.map (ztr b0 cs)) (rest := S.map (ztr b0 cs)) (b := b0 + a) ⟨f1, f2, f3, f5, f6⟩ hM cw ⟨zPc_blind, hpre⟩ rfl (by rw [List.length_map]; exact hna) hL.2.1 rfl (lv_room hst') hd ⟨by omega, by omega⟩) ?_
  intro r n' h' H1 locs1 hq hr hS1
  rw [← zrest hr]
  exact kk r n' h' hq D cy b0 cs l p e R s m args below meth c Qw H1 locs1 (cells + k1) (slots + q1) ls mc ms hF hS1 hL (by omega) (by omega) h3 h4 hf
theorem zCallSN {X : zX} {M : zM} {d k q pc : Nat} {L S : List Value} {n : Nat} {h : zH} {Q : zQ} {M' : zM} {idx na k1 q1 : Nat} {As Lc : List Value} {Q' : zQ} (hd : decode M.2.1 pc = .ok (.invokestatic idx, 3)) {host : String} (hlk : (M.1.cls, idx, M'.1, host) ∈ zN) (hw1 : Cond.static M'.1 ∈ zU) (hc : zcal M' na) (hna : As.length = na) (hst : (S.map fun v => v.category).sum ≤ 8) (hlen : (zflat As).length ≤ M'.2.2.1) (hLc : zargs M'.2.2.1 As = Lc)
    (hJ : zJ X M' d k1 q1 0 Lc [] n h Q') (kk : ∀ r n' h', Q' r n' h' → zJ X M (d + 1) k q (pc + 3) L (r.toList ++ S) n' h' Q) : zJ X M (d + 1) (k1 + k) (q1 + q) pc L (As.reverse ++ S) n h Q := by
  intro D cy b0 cs l p e R s m args below meth c Qw H locs cells slots ls mc ms hF hS hL h1 h2 h3 h4 hf
  obtain ⟨f1, f2, f3, f4, f5, f6, f7, f8, f9, f10, f11⟩ := id hF
  have hM := zMet hc.2.2.1 hlen hLc hJ D cy b0 cs l
  have hst' : ((S.map (ztr b0 cs)).map fun v => v.category).sum ≤ 8 := by rw [zsum]; exact hst
  have hR : (zrm d k1 q1).frames + 1 ≤ R.frames ∧ 8 + (M'.2.2.1 + 11) + (zrm d k1 q1).locals ≤ R.locals := ⟨f10, by have := hc.2.2.2.2.2.2; show 8 + (M'.2.2.1 + 11) + 64 * d ≤ _; omega⟩
  have hpre : ∀ U : State, U.heap = H → s.WarmedH U.vm → zPc X D cy b0 cs As n h ((As.map (ztr b0 cs))).toArray U := fun U hU hW => ⟨rfl, by rw [hU]; exact hS.1, by rw [hU]; exact hS.2.1, f9.moved hS.2.2.2 hU hW⟩
  rw [List.map_append, List.map_reverse]
  have cw := va_cnB (R := R) (args := args) (mc := k1) (ms := q1) (rm := zrm d k1 q1) na f6 (zgood (M := M) hc) rfl rfl rfl (f9.2.1 _ hlk) (f6 _ hc.2.1) ⟨hc.2.2.2.1, hc.2.2.2.2.1, hc.2.2.2.2.2.1⟩ hR
  refine zback hS (va_runSN (As := As.map (ztr b0 cs)) (rest := S.map (ztr b0 cs)) ⟨f1, f2, f3, f5, f6⟩ hM ⟨cw, f6 _ hw1, trivial⟩ ⟨zPc_blind, hpre⟩ rfl (by rw [List.length_map]; exact hna) hL.2.1 rfl (lv_room hst') hd ⟨by omega, by omega⟩) ?_
  intro r n' h' H1 locs1 hq hr hS1
  rw [← zrest hr]
  exact kk r n' h' hq D cy b0 cs l p e R s m args below meth c Qw H1 locs1 (cells + k1) (slots + q1) ls mc ms hF hS1 hL (by omega) (by omega) h3 h4 hf
theorem zCallIN {X : zX} {M : zM} {d k q pc : Nat} {L S : List Value} {n : Nat} {h : zH} {Q : zQ} {M' : zM} {idx na k1 q1 : Nat} {a : Nat} {As Lc : List Value} {Q' : zQ} (hd : decode M.2.1 pc = .ok (.invokespecial idx, 3)) {host : String} (hlk : (M.1.cls, idx, M'.1, host) ∈ zN) (hw1 : Cond.instanceMethod M'.1 ∈ zU) (hw2 : M'.1.name = "<init>") (hrt : M'.2.2.2 = none) (ham : a < 1000000) (hc : zcal M' na) (hna : As.length = na) (hst : (S.map fun v => v.category).sum ≤ 8) (hlen : (zflat (.ref a :: As)).length ≤ M'.2.2.1) (hLc : zargs M'.2.2.1 (.ref a :: As) = Lc)
    (hJ : zJ X M' d k1 q1 0 Lc [] n h Q') (kk : ∀ r n' h', Q' r n' h' → zJ X M (d + 1) k q (pc + 3) L (r.toList ++ S) n' h' Q) : zJ X M (d + 1) (k1 + k) (q1 + q) pc L (As.reverse ++ .ref a :: S) n h Q := by
  intro D cy b0 cs l p e R s m args below meth c Qw H locs cells slots ls mc ms hF hS hL h1 h2 h3 h4 hf
  obtain ⟨f1, f2, f3, f4, f5, f6, f7, f8, f9, f10, f11⟩ := id hF
  have hM := zMet hc.2.2.1 hlen hLc hJ D cy b0 cs l
  have hst' : ((S.map (ztr b0 cs)).map fun v => v.category).sum ≤ 8 := by rw [zsum]; exact hst
  have hR : (zrm d k1 q1).frames + 1 ≤ R.frames ∧ 8 + (M'.2.2.1 + 11) + (zrm d k1 q1).locals ≤ R.locals := ⟨f10, by have := hc.2.2.2.2.2.2; show 8 + (M'.2.2.1 + 11) + 64 * d ≤ _; omega⟩
  have hpre : ∀ U : State, U.heap = H → s.WarmedH U.vm → zPc X D cy b0 cs (.ref a :: As) n h (((.ref a :: As).map (ztr b0 cs))).toArray U := fun U hU hW => ⟨rfl, by rw [hU]; exact hS.1, by rw [hU]; exact hS.2.1, f9.moved hS.2.2.2 hU hW⟩
  rw [List.map_append, List.map_reverse]
  rw [List.map_cons] at hpre ⊢
  rw [ztr_ref ham] at hpre ⊢
  have cw := va_cnB (R := R) (args := args) (mc := k1) (ms := q1) (rm := zrm d k1 q1) na f6 (zgood (M := M) hc) rfl rfl rfl (f9.2.1 _ hlk) (f6 _ hc.2.1) ⟨hc.2.2.2.1, hc.2.2.2.2.1, hc.2.2.2.2.2.1⟩ hR
  rw [hrt] at cw
  refine zback hS (va_runIN (As := As.map (ztr b0 cs)) (rest := S.map (ztr b0 cs)) (b := b0 + a) ⟨f1, f2, f3, f5, f6⟩ hM ⟨cw, hw2, f6 _ hw1⟩ ⟨zPc_blind, hpre⟩ rfl (by rw [List.length_map]; exact hna) hL.2.1 rfl (lv_room hst') hd ⟨by omega, by omega⟩) ?_
  intro r n' h' H1 locs1 hq hr hS1
  rw [← zrest hr]
  exact kk r n' h' hq D cy b0 cs l p e R s m args below meth c Qw H1 locs1 (cells + k1) (slots + q1) ls mc ms hF hS1 hL (by omega) (by omega) h3 h4 hf
theorem z_objInit {X : zX} {M : zM} {d k q pc : Nat} {L S : List Value} {n : Nat} {h : zH} {Q : zQ} {idx a : Nat} (hd : decode M.2.1 pc = .ok (.invokespecial idx, 3)) (hlk : Cond.methodLink M.1.cls idx Lib.objectInit ∈ zU) (hw1 : Cond.instanceMethod Lib.objectInit ∈ zU) (hw2 : Cond.code Lib.objectInit ⟨#[0xb1]⟩ 1 none ∈ zU) (hst : (S.map fun v => v.category).sum ≤ 8) (hdp : 1 ≤ d) (kk : zJ X M d k q (pc + 3) L S n h Q) : zJ X M d k q pc L (.ref a :: S) n h Q := by
  intro D cy b0 cs l p e R s m args below meth c Qw H locs cells slots ls mc ms hF hS hL h1 h2 h3 h4 hf
  obtain ⟨f1, f2, f3, f4, f5, f6, f7, f8, f9, f10, f11⟩ := id hF
  have hst' : ((S.map (ztr b0 cs)).map fun v => v.category).sum ≤ 8 := by rw [zsum]; exact hst
  refine W.objInit f1 f2 f5 (f6 _ hlk) (f6 _ hw1) (f6 _ hw2) rfl (hL.2.1.trans f3.symm) rfl hd (by omega) ?_ (kk D cy b0 cs l p e R s m args below meth c Qw H locs cells slots ls mc ms hF hS hL h1 h2 h3 h4 hf)
  show 2 * 0 + _ + 12 ≤ _
  omega
theorem z_min {X : zX} {M : zM} {d k q pc : Nat} {L S : List Value} {n : Nat} {h : zH} {Q : zQ} {idx : Nat} {x y : Int32} (hd : decode M.2.1 pc = .ok (.invokestatic idx, 3)) (hlk : Cond.methodLink M.1.cls idx Lib.Math.min.name ∈ zU) (hw1 : Cond.static Lib.Math.min.name ∈ zU) (hw2 : Cond.initialized "java/lang/Math" ∈ zU) (hw3 : Cond.code Lib.Math.min.name Lib.Math.min.code 2 (some .int) ∈ zU) (hst : (S.map fun v => v.category).sum ≤ 8) (hdp : 1 ≤ d) (kk : zJ X M d k q (pc + 3) L (.int (if y < x then y else x) :: S) n h Q) : zJ X M d k q pc L (.int y :: .int x :: S) n h Q := by
  intro D cy b0 cs l p e R s m args below meth c Qw H locs cells slots ls mc ms hF hS hL h1 h2 h3 h4 hf
  obtain ⟨f1, f2, f3, f4, f5, f6, f7, f8, f9, f10, f11⟩ := id hF
  have hst' : ((S.map (ztr b0 cs)).map fun v => v.category).sum ≤ 8 := by rw [zsum]; exact hst
  have kk := kk D cy b0 cs l p e R s m args below meth c Qw H locs cells slots ls mc ms hF hS hL h1 h2 h3 h4 hf
  exact va_mmin f1 f2 (f3.trans hL.2.1.symm) f5 (f6 _ hlk) (f6 _ hw1) (f6 _ hw2) (f6 _ hw3) (by omega) (by omega) (by omega) (by omega) hd kk
theorem z_abs {X : zX} {M : zM} {d k q pc : Nat} {L S : List Value} {n : Nat} {h : zH} {Q : zQ} {idx : Nat} {x : Int32} (hd : decode M.2.1 pc = .ok (.invokestatic idx, 3)) (hlk : Cond.methodLink M.1.cls idx Lib.Math.abs.name ∈ zU) (hw1 : Cond.static Lib.Math.abs.name ∈ zU) (hw2 : Cond.initialized "java/lang/Math" ∈ zU) (hw3 : Cond.code Lib.Math.abs.name Lib.Math.abs.code 1 (some .int) ∈ zU) (hst : (S.map fun v => v.category).sum ≤ 8) (hdp : 1 ≤ d) (kk : zJ X M d k q (pc + 3) L (.int (if 0 ≤ x then x else 0 - x) :: S) n h Q) : zJ X M d k q pc L (.int x :: S) n h Q := by
  intro D cy b0 cs l p e R s m args below meth c Qw H locs cells slots ls mc ms hF hS hL h1 h2 h3 h4 hf
  obtain ⟨f1, f2, f3, f4, f5, f6, f7, f8, f9, f10, f11⟩ := id hF
  have hst' : ((S.map (ztr b0 cs)).map fun v => v.category).sum ≤ 8 := by rw [zsum]; exact hst
  have kk := kk D cy b0 cs l p e R s m args below meth c Qw H locs cells slots ls mc ms hF hS hL h1 h2 h3 h4 hf
  exact va_mabs f1 f2 (f3.trans hL.2.1.symm) f5 (f6 _ hlk) (f6 _ hw1) (f6 _ hw2) (f6 _ hw3) (by omega) (by omega) (by omega) (by omega) hd kk
