def M_law : zM := (yL_law, cL_law, 4, some .boolean)
theorem zK_of {s : State} {args : Array Value} (hts : ∀ w ∈ lw_tbl, w.before args s = true) : ∃ (D : va_G) (cy : Nat → ClassId), va_K D vwCl (ztys cy) s := by
  have htU : ∀ w ∈ zU, w.before args s = true := fun w hw => hts w (List.mem_filter.mp hw).1
  obtain ⟨c0, iS0, hKn0⟩ := u_known (C := RX0) (T := TX0) (N := 3) (n := 3) htU iX0 (hts (.instantiable RX0 3) (by decide +kernel))
  obtain ⟨c1, iS1, hKn1⟩ := u_known (C := RX1) (T := TX1) (N := 1) (n := 1) htU iX1 (hts (.instantiable RX1 1) (by decide +kernel))
  obtain ⟨c2, iS2, hKn2⟩ := u_known (C := RX2) (T := TX2) (N := 2) (n := 2) htU iX2 (hts (.instantiable RX2 2) (by decide +kernel))
  obtain ⟨c3, iS3, hKn3⟩ := u_known (C := RX3) (T := TX3) (N := 11) (n := 11) htU iX3 (hts (.instantiable RX3 11) (by decide +kernel))
  obtain ⟨c4, iS4, hKn4⟩ := u_known (C := RX4) (T := TX4) (N := 3) (n := 3) htU iX4 (hts (.instantiable RX4 3) (by decide +kernel))
  obtain ⟨c5, iS5, hKn5⟩ := u_known (C := RX5) (T := TX5) (N := 4) (n := 4) htU iX5 (hts (.instantiable RX5 4) (by decide +kernel))
  obtain ⟨c6, iS6, hKn6⟩ := u_known (C := RX6) (T := TX6) (N := 4) (n := 4) htU iX6 (hts (.instantiable RX6 4) (by decide +kernel))
  obtain ⟨c7, iS7, hKn7⟩ := u_known (C := RX7) (T := TX7) (N := 2) (n := 2) htU iX7 (hts (.instantiable RX7 2) (by decide +kernel))
  obtain ⟨c8, iS8, hKn8⟩ := u_known (C := RX8) (T := TX8) (N := 13) (n := 13) htU iX8 (hts (.instantiable RX8 13) (by decide +kernel))
  obtain ⟨c9, iS9, hKn9⟩ := u_known (C := RX9) (T := TX9) (N := 36) (n := 36) htU iX9 (hts (.instantiable RX9 36) (by decide +kernel))
  obtain ⟨cI, kI, compI, hcI, hkI, hkindI⟩ := Cond.arrayClass_spec (hts (.arrayClass .int) (by decide +kernel))
  obtain ⟨cZ, kZ, compZ, hcZ, hkZ, hkindZ⟩ := Cond.arrayClass_spec (hts (.arrayClass .boolean) (by decide +kernel))
  obtain ⟨comp, cQ, kQ, h1, h2, h3, h4, h5⟩ := Cond.arrayOver_spec (hts (.arrayOver (.object "PaperTrellis$Scene")) (by decide +kernel))
  refine ⟨(fun k => match k with | 0 => c0 | 1 => c1 | 2 => c2 | 3 => c3 | 4 => c4 | 5 => c5 | 6 => c6 | 7 => c7 | 8 => c8 | _ => c9, fun k => match k with | 0 => iS0 | 1 => iS1 | 2 => iS2 | 3 => iS3 | 4 => iS4 | 5 => iS5 | 6 => iS6 | 7 => iS7 | 8 => iS8 | _ => iS9), fun k => match k with | 0 => cI | 1 => cZ | _ => cQ, ?_, ?_⟩
  · intro k q hq
    match k, hq with
    | 0, hq => cases hq; exact hKn0
    | 1, hq => cases hq; exact hKn1
    | 2, hq => cases hq; exact hKn2
    | 3, hq => cases hq; exact hKn3
    | 4, hq => cases hq; exact hKn4
    | 5, hq => cases hq; exact hKn5
    | 6, hq => cases hq; exact hKn6
    | 7, hq => cases hq; exact hKn7
    | 8, hq => cases hq; exact hKn8
    | 9, hq => cases hq; exact hKn9
    | k + 10, hq => simp at hq
  · intro k q hq
    match k, hq with
    | 0, hq => cases hq; exact ⟨fun N z => ⟨fun k h => (by cases h), kI, hkI, compI, hkindI⟩, hcI⟩
    | 1, hq => cases hq; exact ⟨fun N z => ⟨fun k h => (by cases h), kZ, hkZ, compZ, hkindZ⟩, hcZ⟩
    | 2, hq => cases hq; exact ⟨fun N z => ⟨fun k h => (by cases h), kQ, h3, comp, h4⟩, kQ, comp, h3, h4, h1, h5⟩
    | k + 3, hq => simp [ztys] at hq
theorem zN_in : ∀ q ∈ zN, Cond.methodLinkNest q.1 q.2.1 q.2.2.1 q.2.2.2 ∈ lw_tbl := by decide +kernel
theorem zstart {p : Program} {e : Env} {s : State} {m : MethodId} {below : List Frame} {meth : Method} {c : Code} (l : Launch) {b SL : Nat} {xs : Nat → Int32} (C0 : lw_At p s m meth c b SL xs) {k q : Nat} (hk : k ≤ 600000) (hq : q ≤ 7302250) {h0 : zH} {Q : zQ} (hQ : ∀ r n h, Q r n h → r = some (.int 1)) (hJ : zJ (SL, xs) M_law 1000 k q 0 [.ref 1000000, zu, zu, zu] [] 0 h0 Q) :
    W p l e room_1 s m #[Value.ref b] below meth c s.heap [] 0 0 (lw_Z below #[Value.ref b] s) (entryFrame m ([Value.ref b] : List Value).toArray 4) := by
  obtain ⟨hx, hb, hr, hml, hown, hts, hX, hbl, hlocks, hgv⟩ := id C0
  obtain ⟨D, cy, hK⟩ := zK_of hts
  have hfl := flat_of_before _ hgv
  have hA : ∀ a : Nat, a < s.heap.size → ¬ (fun q => s.heap.size ≤ q) a := fun a ha => Nat.not_le.mpr ha
  obtain ⟨tT, eT, hT⟩ := va_Tof (args := #[Value.ref b]) (s := s) (tm := .static "PaperTrellis" "THOUSANDS" "[J") (ty := .long) (N := 5) (f := zThou) (A := fun q => s.heap.size ≤ q) (by decide) (hfl _ (by decide +kernel)) (va_eqt (hfl _ (by decide +kernel)))
    (fun j hj => by
      match j, hj with
      | 0, _ => exact va_eqtl (z := 1) (hfl _ (by decide +kernel))
      | 1, _ => exact va_eqtl (z := 1000) (hfl _ (by decide +kernel))
      | 2, _ => exact va_eqtl (z := 1000000) (hfl _ (by decide +kernel))
      | 3, _ => exact va_eqtl (z := 1000000000) (hfl _ (by decide +kernel))
      | 4, _ => exact va_eqtl (z := 1000000000000) (hfl _ (by decide +kernel))) hA
  obtain ⟨tP, eP, hP⟩ := va_Tof (args := #[Value.ref b]) (s := s) (tm := .static "PaperTrellis" "POWERS_OF_FOUR" "[I") (ty := .int) (N := 6) (f := zPow) (A := fun q => s.heap.size ≤ q) (by decide) (hfl _ (by decide +kernel)) (va_eqt (hfl _ (by decide +kernel)))
    (fun j hj => by
      match j, hj with
      | 0, _ => exact va_eqt (z := 1) (hfl _ (by decide +kernel))
      | 1, _ => exact va_eqt (z := 4) (hfl _ (by decide +kernel))
      | 2, _ => exact va_eqt (z := 16) (hfl _ (by decide +kernel))
      | 3, _ => exact va_eqt (z := 64) (hfl _ (by decide +kernel))
      | 4, _ => exact va_eqt (z := 256) (hfl _ (by decide +kernel))
      | 5, _ => exact va_eqt (z := 1024) (hfl _ (by decide +kernel))) hA
  have hini := hts (.initialized "PaperTrellis") (by decide +kernel)
  have hZT := va_Zref (hts (.laysStatic "PaperTrellis" "THOUSANDS" "[J") (by decide +kernel)) hini eT hA
  have hZP := va_Zref (hts (.laysStatic "PaperTrellis" "POWERS_OF_FOUR" "[I") (by decide +kernel)) hini eP hA
  have hG : zG (SL, xs) D cy s.heap.size (fun k => match k with | 0 => b | 1 => tT | _ => tP) s :=
    ⟨hK, fun q hq => va_Nw.of rfl (hts _ (zN_in q hq)), va_AO.of (hts _ (by decide +kernel)), hX, hbl, Nat.le_refl _, hZT, hT, hZP, hP⟩
  rw [lg_entry_eq]
  refine hJ D cy s.heap.size (fun k => match k with | 0 => b | 1 => tT | _ => tP) l p e room_1 s m _ below meth c _ s.heap [] 0 0 _ k q ⟨hx, hb, hml, hr, hown, fun w hw => hts w (List.mem_filter.mp hw).1, hlocks, fun h => absurd h (by decide), hG, by decide, by decide⟩ ⟨rfl, fun k q h => by simp [zWl] at h, rfl, va_S.rf⟩ (zargs_L (av := [.ref 1000000]) (by decide)) (Nat.zero_add _) (Nat.le_of_eq (Nat.zero_add _)) hk hq ?_
  intro r n' h' H' locs' slots' pc' ls' hq' hS' hsl hend
  obtain rfl := hQ r n' h' hq'
  rcases hend with ⟨h, -, -⟩ | ⟨v, ty, h, -, -, hd⟩ | ⟨v, h, -, -⟩
  · cases h
  · refine va_forget (fun q hq => hS'.2.2.2.2.2 q hq) ?_
    refine W.widen hk (Nat.le_trans hsl hq) ?_
    exact lw_ret hx hb hr hlocks hd
  · cases h
