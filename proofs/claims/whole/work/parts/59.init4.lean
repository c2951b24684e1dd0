set_option maxRecDepth 8000 in
set_option maxHeartbeats 4000000 in
theorem n_X9 {X : zX} {h : zH} (hE : ∀ a, 66 < a → h a = EI a) (d : Nat) : zJ X M_X9_init (d + 1) 19 2443 0 [.ref 66] [] 67 (va_up h 66 (.inr (9, [.int 0, .null, .int 0, .int 0, .int 0, .int 0, .int 0, .null, .int 0, .null, .null, .int 0, .int 0, .int 0, .null, .int 0, .null, .null, .null, .null, .int 0, .null, .null, .int 0, .null, .null, .null, .long 0, .null, .null, .null, .int 0, .int 0, .int 0, .null, .null]))) (zno 86 (va_up h 66 (EI 66))) := by
  refine z_aload_n dX9_init_0 rfl ?_
  refine z_objInit dX9_init_1 lm_X9_1 im_objinit co_objinit (Nat.le_of_ble_eq_true rfl) (by omega) ?_
  refine z_aload_n dX9_init_4 rfl ?_
  refine z_bipush (v := nI 48) dX9_init_5 rfl ?_
  refine i_newa (k := 18) (q := 2395) (N := 48) (n := 67) dX9_init_7 (by decide) (by decide) ((va_up_ne _ _ (by decide)).trans ((hE 67 (by decide)).trans (EI_a rfl (by decide)))) ?_
  refine i_putF dX9_init_9 lp_X9_7 rfl (by decide) (by decide) (fun _ _ => ⟨rfl, rfl⟩) (by decide) ?_
  refine z_aload_n dX9_init_12 rfl ?_
  refine z_iconst (v := nI 2) dX9_init_13 rfl ?_
  refine i_putI dX9_init_14 lp_X9_13 (by decide) (by decide) (by decide) ?_
  refine z_aload_n dX9_init_17 rfl ?_
  refine z_iconst (v := nI 2) dX9_init_18 rfl ?_
  refine i_putI dX9_init_19 lp_X9_17 (by decide) (by decide) (by decide) ?_
  refine z_aload_n dX9_init_22 rfl ?_
  refine z_bipush (v := nI 20) dX9_init_23 rfl ?_
  refine i_newa (k := 17) (q := 2375) (N := 20) (n := 68) dX9_init_25 (by decide) (by decide) ((va_up_ne _ _ (by decide)).trans ((hE 68 (by decide)).trans (EI_a rfl (by decide)))) ?_
  refine i_putF dX9_init_27 lp_X9_20 rfl (by decide) (by decide) (fun _ _ => ⟨rfl, rfl⟩) (by decide) ?_
  refine z_aload_n dX9_init_30 rfl ?_
  refine z_iconst (v := nI 5) dX9_init_31 rfl ?_
  refine i_newa (k := 16) (q := 2370) (N := 5) (n := 69) dX9_init_32 (by decide) (by decide) ((va_up_ne _ _ (by decide)).trans ((hE 69 (by decide)).trans (EI_a rfl (by decide)))) ?_
  refine i_putF dX9_init_34 lp_X9_23 rfl (by decide) (by decide) (fun _ _ => ⟨rfl, rfl⟩) (by decide) ?_
  refine z_aload_n dX9_init_37 rfl ?_
  refine z_iconst (v := nI 5) dX9_init_38 rfl ?_
  refine i_newa (k := 15) (q := 2365) (N := 5) (n := 70) dX9_init_39 (by decide) (by decide) ((va_up_ne _ _ (by decide)).trans ((hE 70 (by decide)).trans (EI_a rfl (by decide)))) ?_
  refine i_putF dX9_init_41 lp_X9_26 rfl (by decide) (by decide) (fun _ _ => ⟨rfl, rfl⟩) (by decide) ?_
  refine z_aload_n dX9_init_44 rfl ?_
  refine z_bipush (v := nI 20) dX9_init_45 rfl ?_
  refine i_newa (k := 14) (q := 2345) (N := 20) (n := 71) dX9_init_47 (by decide) (by decide) ((va_up_ne _ _ (by decide)).trans ((hE 71 (by decide)).trans (EI_a rfl (by decide)))) ?_
  refine i_putF dX9_init_49 lp_X9_29 rfl (by decide) (by decide) (fun _ _ => ⟨rfl, rfl⟩) (by decide) ?_
  refine z_aload_n dX9_init_52 rfl ?_
  refine z_bipush (v := nI 10) dX9_init_53 rfl ?_
  refine i_newa (k := 13) (q := 2335) (N := 10) (n := 72) dX9_init_55 (by decide) (by decide) ((va_up_ne _ _ (by decide)).trans ((hE 72 (by decide)).trans (EI_a rfl (by decide)))) ?_
  refine i_putF dX9_init_57 lp_X9_32 rfl (by decide) (by decide) (fun _ _ => ⟨rfl, rfl⟩) (by decide) ?_
  refine z_aload_n dX9_init_60 rfl ?_
  refine z_bipush (v := nI 16) dX9_init_61 rfl ?_
  refine i_newa (k := 12) (q := 2319) (N := 16) (n := 73) dX9_init_63 (by decide) (by decide) ((va_up_ne _ _ (by decide)).trans ((hE 73 (by decide)).trans (EI_a rfl (by decide)))) ?_
  refine i_putF dX9_init_65 lp_X9_35 rfl (by decide) (by decide) (fun _ _ => ⟨rfl, rfl⟩) (by decide) ?_
  refine z_aload_n dX9_init_68 rfl ?_
  refine z_bipush (v := nI 16) dX9_init_69 rfl ?_
  refine i_newa (k := 11) (q := 2303) (N := 16) (n := 74) dX9_init_71 (by decide) (by decide) ((va_up_ne _ _ (by decide)).trans ((hE 74 (by decide)).trans (EI_a rfl (by decide)))) ?_
  refine i_putF dX9_init_73 lp_X9_38 rfl (by decide) (by decide) (fun _ _ => ⟨rfl, rfl⟩) (by decide) ?_
  refine z_aload_n dX9_init_76 rfl ?_
  refine z_sipush (v := nI 224) dX9_init_77 rfl ?_
  refine i_newa (k := 10) (q := 2079) (N := 224) (n := 75) dX9_init_80 (by decide) (by decide) ((va_up_ne _ _ (by decide)).trans ((hE 75 (by decide)).trans (EI_a rfl (by decide)))) ?_
  refine i_putF dX9_init_82 lp_X9_41 rfl (by decide) (by decide) (fun _ _ => ⟨rfl, rfl⟩) (by decide) ?_
  refine z_aload_n dX9_init_85 rfl ?_
  refine z_bipush (v := nI 32) dX9_init_86 rfl ?_
  refine i_newa (k := 9) (q := 2047) (N := 32) (n := 76) dX9_init_88 (by decide) (by decide) ((va_up_ne _ _ (by decide)).trans ((hE 76 (by decide)).trans (EI_a rfl (by decide)))) ?_
  refine i_putF dX9_init_90 lp_X9_44 rfl (by decide) (by decide) (fun _ _ => ⟨rfl, rfl⟩) (by decide) ?_
  refine z_aload_n dX9_init_93 rfl ?_
  refine z_iconst (v := nI 2) dX9_init_94 rfl ?_
  refine i_newz (k := 8) (q := 2045) (N := 2) (n := 77) dX9_init_95 (by decide) (by decide) ((va_up_ne _ _ (by decide)).trans ((hE 77 (by decide)).trans (EI_z rfl (by decide)))) ?_
  refine i_putF dX9_init_97 lp_X9_47 rfl (by decide) (by decide) (fun _ _ => ⟨rfl, rfl⟩) (by decide) ?_
  refine z_aload_n dX9_init_100 rfl ?_
  refine z_bipush (v := nI 6) dX9_init_101 rfl ?_
  refine i_newa (k := 7) (q := 2039) (N := 6) (n := 78) dX9_init_103 (by decide) (by decide) ((va_up_ne _ _ (by decide)).trans ((hE 78 (by decide)).trans (EI_a rfl (by decide)))) ?_
  refine i_putF dX9_init_105 lp_X9_51 rfl (by decide) (by decide) (fun _ _ => ⟨rfl, rfl⟩) (by decide) ?_
  refine z_aload_n dX9_init_108 rfl ?_
  refine z_bipush (v := nI 6) dX9_init_109 rfl ?_
  refine i_newa (k := 6) (q := 2033) (N := 6) (n := 79) dX9_init_111 (by decide) (by decide) ((va_up_ne _ _ (by decide)).trans ((hE 79 (by decide)).trans (EI_a rfl (by decide)))) ?_
  refine i_putF dX9_init_113 lp_X9_54 rfl (by decide) (by decide) (fun _ _ => ⟨rfl, rfl⟩) (by decide) ?_
  refine z_aload_n dX9_init_116 rfl ?_
  refine z_bipush (v := nI 6) dX9_init_117 rfl ?_
  refine i_newa (k := 5) (q := 2027) (N := 6) (n := 80) dX9_init_119 (by decide) (by decide) ((va_up_ne _ _ (by decide)).trans ((hE 80 (by decide)).trans (EI_a rfl (by decide)))) ?_
  refine i_putF dX9_init_121 lp_X9_57 rfl (by decide) (by decide) (fun _ _ => ⟨rfl, rfl⟩) (by decide) ?_
  refine z_aload_n dX9_init_124 rfl ?_
  refine z_iconst (v := nI 3) dX9_init_125 rfl ?_
  refine i_newa (k := 4) (q := 2024) (N := 3) (n := 81) dX9_init_126 (by decide) (by decide) ((va_up_ne _ _ (by decide)).trans ((hE 81 (by decide)).trans (EI_a rfl (by decide)))) ?_
  refine i_putF dX9_init_128 lp_X9_60 rfl (by decide) (by decide) (fun _ _ => ⟨rfl, rfl⟩) (by decide) ?_
  refine z_aload_n dX9_init_131 rfl ?_
  refine z_sipush (v := nI 980) dX9_init_132 rfl ?_
  refine i_newa (k := 3) (q := 1044) (N := 980) (n := 82) dX9_init_135 (by decide) (by decide) ((va_up_ne _ _ (by decide)).trans ((hE 82 (by decide)).trans (EI_a rfl (by decide)))) ?_
  refine i_putF dX9_init_137 lp_X9_63 rfl (by decide) (by decide) (fun _ _ => ⟨rfl, rfl⟩) (by decide) ?_
  refine z_aload_n dX9_init_140 rfl ?_
  refine z_sipush (v := nI 980) dX9_init_141 rfl ?_
  refine i_newa (k := 2) (q := 64) (N := 980) (n := 83) dX9_init_144 (by decide) (by decide) ((va_up_ne _ _ (by decide)).trans ((hE 83 (by decide)).trans (EI_a rfl (by decide)))) ?_
  refine i_putF dX9_init_146 lp_X9_66 rfl (by decide) (by decide) (fun _ _ => ⟨rfl, rfl⟩) (by decide) ?_
  refine z_aload_n dX9_init_149 rfl ?_
  refine z_bipush (v := nI 32) dX9_init_150 rfl ?_
  refine i_newa (k := 1) (q := 32) (N := 32) (n := 84) dX9_init_152 (by decide) (by decide) ((va_up_ne _ _ (by decide)).trans ((hE 84 (by decide)).trans (EI_a rfl (by decide)))) ?_
  refine i_putF dX9_init_154 lp_X9_69 rfl (by decide) (by decide) (fun _ _ => ⟨rfl, rfl⟩) (by decide) ?_
  refine z_aload_n dX9_init_157 rfl ?_
  refine z_bipush (v := nI 32) dX9_init_158 rfl ?_
  refine i_newa (k := 0) (q := 0) (N := 32) (n := 85) dX9_init_160 (by decide) (by decide) ((va_up_ne _ _ (by decide)).trans ((hE 85 (by decide)).trans (EI_a rfl (by decide)))) ?_
  refine i_putF dX9_init_162 lp_X9_72 rfl (by decide) (by decide) (fun _ _ => ⟨rfl, rfl⟩) (by decide) ?_
  refine z_aload_n dX9_init_165 rfl ?_
  refine i_getR dX9_init_166 lf_X9_35 (by decide) (by decide) rfl ?_
  refine z_bipush (v := nI 15) dX9_init_169 rfl ?_
  refine z_iconst (v := nI 0) dX9_init_171 rfl ?_
  refine z_iast (N := 16) (f := fun _ => 0) dX9_init_172 ((va_up_ne _ _ (by decide)).trans ((hE 73 (by decide)).trans (EI_a rfl (by decide)))) (by decide) (by decide) (vp_in_nI (by decide) (by decide)) ?_
  refine z_eqh (h := va_up h 66 (EI 66)) ?_ ?_
  · exact i_ret dX9_init_173 rfl rfl rfl
  · rw [up_id (h := va_up h 66 _) (a := 73)]
    · exact congrArg (va_up h 66) rfl
    · refine (va_up_ne _ _ (by decide)).trans ((hE 73 (by decide)).trans ((EI_a (N := 16) rfl (by decide)).trans ?_))
      refine congrArg (fun f => (Sum.inl (0, 16, .inl f) : zE)) (funext fun j => ?_)
      unfold upd; split <;> rfl
