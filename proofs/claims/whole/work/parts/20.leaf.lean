/-- the kind of a cell, with what is cut -/
def kdk (K : Nat → Nat) (cut c : Nat) : Nat := if cut / 2 ^ c % 2 = 1 then 0 else K c
/-- a scene's two cells -/
def sAt (a : Nat) : Prop := zk a = (3, 4, [5, a + 3, 0]) ∧ zk (a + 1) = (0, 5, [])
theorem c_cellOf {X : zX} {mu : zmu} {nu : znu} (p : Nat) (hp : p < 2 ^ 31) (d : Nat) : zJ X M_X8_cellOf d 0 0 0 [.int (nI p)] [] 86 (zEE mu nu) (zlift (zex (some (.int (nI (p % 20)))) mu nu)) := by
  refine z_iload_n dX8_cellOf_0 rfl ?_
  refine z_bipush (v := nI 20) dX8_cellOf_1 rfl ?_
  refine zn_irem dX8_cellOf_3 (by omega) (by omega) (by omega) ?_
  exact y_ireturn dX8_cellOf_4 rfl ⟨rfl, rfl, rfl⟩
theorem c_widthOf {X : zX} {mu : zmu} {nu : znu} (p : Nat) (hp : p < 2 ^ 31) (d : Nat) : zJ X M_X8_widthOf d 0 0 0 [.int (nI p)] [] 86 (zEE mu nu) (zlift (zex (some (.int (nI (p / 20 % 7)))) mu nu)) := by
  refine z_iload_n dX8_widthOf_0 rfl ?_
  refine z_bipush (v := nI 20) dX8_widthOf_1 rfl ?_
  refine zn_idiv dX8_widthOf_3 (by omega) (by omega) (by omega) ?_
  refine z_bipush (v := nI 7) dX8_widthOf_4 rfl ?_
  refine zn_irem dX8_widthOf_6 (by omega) (by omega) (by omega) ?_
  exact y_ireturn dX8_widthOf_7 rfl ⟨rfl, rfl, rfl⟩
theorem c_heightOf {X : zX} {mu : zmu} {nu : znu} (p : Nat) (hp : p < 2 ^ 31) (d : Nat) : zJ X M_X8_heightOf d 0 0 0 [.int (nI p)] [] 86 (zEE mu nu) (zlift (zex (some (.int (nI (p / 140)))) mu nu)) := by
  refine z_iload_n dX8_heightOf_0 rfl ?_
  refine z_sipush (v := nI 140) dX8_heightOf_1 rfl ?_
  refine zn_idiv dX8_heightOf_4 (by omega) (by omega) (by omega) ?_
  exact y_ireturn dX8_heightOf_5 rfl ⟨rfl, rfl, rfl⟩
theorem c_kindAt {X : zX} {mu : zmu} {nu : znu} {a c cut : Nat} {K : Nat → Nat} (ha : sAt a) (hc : c < 20) (hK : mu 4 c = nI (K c)) (hcut : mu a 2 = nI cut) (hcl : cut < 2 ^ 31) (d : Nat) : zJ X M_X4_kindAt d 0 0 0 [.ref a, .int (nI c)] [] 86 (zEE mu nu) (zlift (zex (some (.int (nI (kdk K cut c)))) mu nu)) := by
  have hm : cut / 2 ^ c % 2 < 2 := Nat.mod_lt _ (by decide)
  refine z_aload_n dX4_kindAt_0 rfl ?_
  refine y_getIe dX4_kindAt_1 lf_X4_19 ha.1 rfl hcut ?_
  refine z_iload_n dX4_kindAt_4 rfl ?_
  refine zn_ishr dX4_kindAt_5 (by omega) (by omega) ?_
  refine z_iconst (v := nI 1) dX4_kindAt_6 rfl ?_
  refine zn_iand dX4_kindAt_7 ?_
  rw [Nat.and_one_is_mod]
  refine zn_if_eq (tgt := 15) dX4_kindAt_8 (by decide) (by omega) (fun hc8 => ?_) (fun hc8 => ?_)
  · refine z_aload_n dX4_kindAt_15 rfl ?_
    refine y_getR dX4_kindAt_16 lf_X4_15 ha.1 rfl ?_
    refine y_getR dX4_kindAt_19 lf_X4_38 rfl rfl ?_
    refine z_iload_n dX4_kindAt_22 rfl ?_
    refine y_ialde dX4_kindAt_23 (by first | rfl | assumption) (by decide) (by omega) hK ?_
    exact y_ireturn dX4_kindAt_24 rfl ⟨by simp [kdk]; omega, rfl, rfl⟩
  · refine z_iconst (v := nI 0) dX4_kindAt_11 rfl ?_
    refine z_goto (tgt := 24) dX4_kindAt_12 (by decide) ?_
    exact y_ireturn dX4_kindAt_24 rfl ⟨by simp [kdk]; omega, rfl, rfl⟩
