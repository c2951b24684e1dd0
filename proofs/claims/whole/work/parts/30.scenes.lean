abbrev SC : Type := (Nat → Nat) × Nat
def upP (P : Nat → Nat) (b q : Nat) : Nat → Nat := fun x => if x = b then q else P x
/-- a boy goes, if it can -/
def goS (p : PT) (s : SC) (b y : Nat) : SC := match pon p s.2 b (s.1 b) y with
  | none => s
  | some q => (upP s.1 b q, s.2)
def brS' (p : PT) (s : SC) (q : Nat) : SC := (brg p s.1 q, s.2)
def cuS (s : SC) (c : Nat) : SC := (s.1, s.2 ||| 2 ^ c)
def SVs (p : PT) (s : SC) : Prop := SV p s.1 s.2
def SFs (p : PT) (s : SC) (a : Nat) (mu : zmu) : Prop := SFc p s.1 s.2 a mu
theorem SVs_go {p : PT} (hp : PV p) {s : SC} (h : SVs p s) {b y : Nat} (hb : b < pb p) (hy : y < 4) : SVs p (goS p s b y) := by
  unfold goS
  cases hq : pon p s.2 b (s.1 b) y with
  | none => exact h
  | some q =>
    have g := pon_ok hp hb (h.1 b hb).2 (h.1 b hb).1 hy hq
    refine ⟨fun x hx => ?_, h.2⟩
    show upP s.1 b q x < 980 ∧ upP s.1 b q x % 20 < _
    unfold upP
    by_cases e : x = b
    · rw [if_pos e]; exact ⟨g.1, g.2.1⟩
    · rw [if_neg e]; exact h.1 x hx
theorem SVs_br {p : PT} (hp : PV p) {s : SC} (h : SVs p s) (q : Nat) : SVs p (brS' p s q) := by
  have := brV hp (P := s.1) (cut := s.2) h (fun b => hrb p s.1 q b = true)
  exact this
theorem or_lt20 {cut c : Nat} (h : cut < 2 ^ 20) (hc : c < 20) : cut ||| 2 ^ c < 2 ^ 20 := Nat.or_lt_two_pow h (Nat.pow_lt_pow_right (by decide) hc)
theorem SVs_cu {p : PT} {s : SC} (h : SVs p s) {c : Nat} (hc : c < 20) : SVs p (cuS s c) := ⟨h.1, or_lt20 h.2 hc⟩
/-- nothing changed but a scene -/
def only (a : Nat) (mu mu1 : zmu) : Prop := ∀ x, x ≠ a → x ≠ a + 1 → mu1 x = mu x
theorem only_rf {a : Nat} {mu : zmu} : only a mu mu := fun _ _ _ => rfl
theorem only_tr {a : Nat} {m1 m2 m3 : zmu} (h : only a m1 m2) (g : only a m2 m3) : only a m1 m3 := fun x h1 h2 => (g x h1 h2).trans (h x h1 h2)
theorem only_u2 {a b k : Nat} {v : Int32} {mu : zmu} (h : b = a ∨ b = a + 1) : only a mu (u2 mu b k v) := fun x h1 h2 => u2_rowa (by omega)
theorem only_uR {a b : Nat} {f : Nat → Int32} {mu : zmu} (h : b = a ∨ b = a + 1) : only a mu (uR mu b f) := fun x h1 h2 => uR_a (by omega)
theorem only_P {p : PT} {a : Nat} {mu mu1 : zmu} (h : PFc p mu) (ho : only a mu mu1) (ha : 10 ≤ a) : PFc p mu1 := PFc_eq h (fun x h1 h2 => ho x (by omega) (by omega))
def Qs (p : PT) (s : SC) (a : Nat) (r : Option Value) (mu : zmu) (nu : znu) : zq := fun r1 mu1 nu1 => r1 = r ∧ nu1 = nu ∧ SFs p s a mu1 ∧ only a mu mu1
set_option maxRecDepth 4000 in
theorem q_goes {X : zX} {mu : zmu} {nu : znu} {p : PT} {s : SC} {a b y : Nat} (hp : PV p) (hP : PFc p mu) (ha : sAt a) (hS : SFs p s a mu) (hV : SVs p s) (hb : b < pb p) (hy : y < 4) (d : Nat) : zJ X M_X4_goes (d + 3) 0 0 0 [.ref a, .int (nI b), .int (nI y), zu] [] 86 (zEE (mu) nu) (zlift (Qs p (goS p s b y) a (some (.int (b2i (pon p s.2 b (s.1 b) y).isSome))) mu nu)) := by
  refine z_post (c_goes hp hP ha hS hV hb hy d) ?_
  rintro r n1 h1 ⟨rfl, mu1, nu1, rfl, rfl, rfl, rfl⟩
  refine ⟨rfl, _, _, rfl, rfl, rfl, ?_, ?_⟩
  · unfold goS
    cases hq : pon p s.2 b (s.1 b) y with
    | none => exact hS
    | some q =>
      show SFs p (upP s.1 b q, s.2) a (u2 mu (a + 1) b (nI q))
      refine ⟨fun x hx => ?_, by rw [u2_a (by omega)]; exact hS.2⟩
      show _ = nI (upP s.1 b q x)
      unfold upP
      by_cases e : x = b
      · subst e; rw [u2_s, if_pos rfl]
      · rw [u2_k e, if_neg e]; exact hS.1 x hx
  · cases hq : pon p s.2 b (s.1 b) y with
    | none => exact only_rf
    | some q => exact only_u2 (Or.inr rfl)
set_option maxRecDepth 4000 in
theorem q_bring {X : zX} {mu : zmu} {nu : znu} {p : PT} {s : SC} {a q : Nat} (hp : PV p) (hP : PFc p mu) (ha : sAt a) (hS : SFs p s a mu) (hV : SVs p s) (hq : q < pw p * ph p) (d : Nat) : zJ X M_X4_bringHome (d + 2) 0 0 0 [.ref a, .int (nI q), zu, zu] [] 86 (zEE (mu) nu) (zlift (Qs p (brS' p s q) a (some (.int (nI (bcnt (brf p s.1 q) (pb p))))) mu nu)) := by
  refine z_post (c_bringHome hp hP ha hS hV hq d) ?_
  rintro r n1 h1 ⟨rfl, mu1, nu1, rfl, rfl, rfl, rfl⟩
  refine ⟨rfl, _, _, rfl, rfl, rfl, ⟨fun x hx => ?_, by rw [uR_a (by omega)]; exact hS.2⟩, only_uR (Or.inr rfl)⟩
  rw [uR_s]
  show _ = nI (brg p s.1 q x)
  unfold brr brg brf
  by_cases e : hrb p s.1 q x = true
  · rw [if_pos e]
    by_cases e2 : hmf p s.1 x = true
    · rw [if_neg (by simp [e2])]
      rw [hS.1 x hx]
      have : s.1 x = 480 + pH p x := by simpa [hmf] using e2
      rw [this]
    · rw [if_pos ⟨hx, by simp [e, e2]⟩]
  · rw [if_neg e, if_neg (by simp [e])]; exact hS.1 x hx
set_option maxRecDepth 4000 in
theorem q_cut {X : zX} {mu : zmu} {nu : znu} {p : PT} {s : SC} {a c : Nat} (ha : sAt a) (hS : SFs p s a mu) (hc : c < 20) (d : Nat) : zJ X M_X4_cutAway d 0 0 0 [.ref a, .int (nI c)] [] 86 (zEE (mu) nu) (zlift (Qs p (cuS s c) a none mu nu)) := by
  refine z_post (c_cutAway ha hS.2 hc d) ?_
  rintro r n1 h1 ⟨rfl, mu1, nu1, rfl, rfl, rfl, rfl⟩
  exact ⟨rfl, _, _, rfl, rfl, rfl, ⟨fun x hx => by rw [u2_a (by omega)]; exact hS.1 x hx, u2_s⟩, only_u2 (Or.inl rfl)⟩
theorem SFs_bec {p : PT} (hp : PV p) {s : SC} {a b : Nat} {mu : zmu} (h : SFs p s b mu) (hab : sAt a) (hbb : sAt b) (hne : a ≠ b) : SFs p s a (bec mu a b) := by
  have h5 := hp.2.2.2.2.2.1
  refine ⟨fun x hx => ?_, ?_⟩
  · unfold bec
    rw [uR_s]
    rw [pk_cpy_in (by omega) (by omega)]
    simpa using h.1 x hx
  · unfold bec
    rw [uR_a (by omega), u2_s]; exact h.2
theorem bec_only {a b : Nat} {mu : zmu} : only a mu (bec mu a b) := fun _ h1 h2 => bec_o h1 h2
theorem SFs_o {p : PT} {s : SC} {a b : Nat} {mu mu1 : zmu} (h : SFs p s b mu) (ho : only a mu mu1) (h1 : b ≠ a) (h2 : b ≠ a + 1) (h3 : b + 1 ≠ a) : SFs p s b mu1 := SFc_eq h (ho b h1 h2) (ho (b + 1) h3 (by omega))
/-- ints from 0 on -/
def inr (x : Int32) (n : Nat) : Bool := decide (0 ≤ x ∧ x < nI n)
theorem inr_t {x : Int32} {n : Nat} (h : inr x n = true) (hn : n < 2 ^ 31) : ∃ b, b < n ∧ x = nI b := by
  have h := of_decide_eq_true h
  obtain ⟨j, hj, rfl⟩ := nI_of (Int32.not_lt.mpr h.1)
  exact ⟨j, (nI_ltI hj hn).mp h.2, rfl⟩
theorem inr_nI {b n : Nat} (hb : b < 2 ^ 31) (hn : n < 2 ^ 31) : inr (nI b) n = decide (b < n) := by
  unfold inr
  simp [nI_ltI hb hn, nI_pos' hb]
theorem inr_f {x : Int32} {n : Nat} (h : inr x n = false) (h0 : ¬ x < 0) : nI n ≤ x := by
  have h := of_decide_eq_false h
  exact Int32.not_lt.mp (fun e => h ⟨Int32.not_lt.mp h0, e⟩)
def wsum (f : Nat → Nat) : Nat → Nat
  | 0 => 0
  | i + 1 => wsum f i + f i
def nxt (p : PT) (cut b pl y : Nat) : Nat := match pon p cut b pl y with
  | none => pl
  | some q => q
/-- of all rows of n ways from a place on: how many end at home -/
def wkh (p : PT) (cut b : Nat) : Nat → Nat → Nat
  | 0, pl => if pl = 480 + pH p b then 1 else 0
  | n + 1, pl => wsum (fun y => wkh p cut b n (nxt p cut b pl y)) 4
theorem wkh_le (p : PT) (cut b : Nat) : ∀ n pl, wkh p cut b n pl ≤ 4 ^ n
  | 0, pl => by unfold wkh; split <;> decide
  | n + 1, pl => by
    have ih := wkh_le p cut b n
    unfold wkh
    have h0 := ih (nxt p cut b pl 0)
    have h1 := ih (nxt p cut b pl 1)
    have h2 := ih (nxt p cut b pl 2)
    have h3 := ih (nxt p cut b pl 3)
    simp only [wsum]
    rw [Nat.pow_succ]
    omega
theorem nxt_ok {p : PT} (hp : PV p) {cut b pl y : Nat} (hb : b < pb p) (h : vpl p pl) (hy : y < 4) : vpl p (nxt p cut b pl y) := by
  unfold nxt
  cases hq : pon p cut b pl y with
  | none => exact h
  | some q => exact ⟨(pon_ok hp hb h.2 h.1 hy hq).1, (pon_ok hp hb h.2 h.1 hy hq).2.1⟩
set_option maxRecDepth 4000 in
theorem c_walksHome {X : zX} {mu : zmu} {nu : znu} {p : PT} {s : SC} {b : Nat} (hp : PV p) (hP : PFc p mu) (hS : SFs p s 10 mu) (hV : SVs p s) (hb : b < pb p) (d : Nat) : ∀ n, n ≤ 5 → ∀ pl, vpl p pl → zJ X M_X8_walksHome (n + d + 3) 0 0 0 [.ref 10, .int (nI b), .int (nI pl), .int (nI n), zu, zu, zu] [] 86 (zEE (mu) nu) (zlift (zex (some (.int (nI (wkh p s.2 b n pl)))) (mu) nu)) := by
  have h20 := hp.n20
  have hHb := (hp.2.2.2.2.2.2.2 b hb).1
  intro n
  induction n with
  | zero =>
    intro _ pl hpl
    have h98 := hpl.1
    refine z_iload_n dX8_walksHome_0 rfl ?_
    refine zn_if_gt (tgt := 19) dX8_walksHome_1 (by decide) (by omega) (fun hc1 => by omega) (fun hc1 => ?_)
    refine z_iload_n dX8_walksHome_4 rfl ?_
    refine z_aload_n dX8_walksHome_5 rfl ?_
    refine z_iload_n dX8_walksHome_6 rfl ?_
    refine y_callV1x (M' := M_X4_homePlace) dX8_walksHome_7 lm_X8_300 cv_X4_homePlace rfl (Nat.le_of_ble_eq_true rfl) (Nat.le_of_ble_eq_true rfl) rfl (c_homePlace hp hP sAt10 hb (0 + d + 2)) ?_
    refine zn_icmp_ne (tgt := 17) dX8_walksHome_10 (by decide) (by omega) (by omega) (fun hc10 => ?_) (fun hc10 => ?_)
    · refine z_iconst (v := nI 0) dX8_walksHome_17 rfl ?_
      exact y_ireturn dX8_walksHome_18 rfl ⟨by unfold wkh; rw [if_neg hc10], rfl, rfl⟩
    · refine z_iconst (v := nI 1) dX8_walksHome_13 rfl ?_
      refine z_goto (tgt := 18) dX8_walksHome_14 (by decide) ?_
      exact y_ireturn dX8_walksHome_18 rfl ⟨by unfold wkh; rw [if_pos hc10], rfl, rfl⟩
  | succ n ih =>
    intro h5 pl hpl
    have h98 := hpl.1
    have hw : ∀ m i, i + m = 4 → zJ X M_X8_walksHome (n + 1 + d + 3) 0 0 25 [.ref 10, .int (nI b), .int (nI pl), .int (nI (n + 1)), .int (nI (wsum (fun y => wkh p s.2 b n (nxt p s.2 b pl y)) i)), .int (nI i), zu] [] 86 (zEE (mu) nu) (zlift (zex (some (.int (nI (wkh p s.2 b (n + 1) pl)))) (mu) nu)) := by
      intro m
      induction m with
      | zero =>
        intro i hi
        obtain rfl : i = 4 := by omega
        refine z_iload dX8_walksHome_25 rfl ?_
        refine z_iconst (v := nI 4) dX8_walksHome_27 rfl ?_
        refine zn_icmp_ge (tgt := 72) dX8_walksHome_28 (by decide) (by omega) (by omega) (fun hc28 => ?_) (fun hc28 => by omega)
        refine z_iload dX8_walksHome_72 rfl ?_
        exact y_ireturn dX8_walksHome_74 rfl ⟨rfl, rfl, rfl⟩
      | succ m ihm =>
        intro i hi
        have hnx := nxt_ok hp (cut := s.2) hb hpl (y := i) (by omega)
        have hst : nxt p s.2 b pl i = match pon p s.2 b pl i with | none => pl | some q => q := rfl
        refine z_iload dX8_walksHome_25 rfl ?_
        refine z_iconst (v := nI 4) dX8_walksHome_27 rfl ?_
        refine zn_icmp_ge (tgt := 72) dX8_walksHome_28 (by decide) (by omega) (by omega) (fun hc28 => by omega) (fun hc28 => ?_)
        refine z_aload_n dX8_walksHome_31 rfl ?_
        refine z_iload_n dX8_walksHome_32 rfl ?_
        refine z_iload_n dX8_walksHome_33 rfl ?_
        refine z_iload dX8_walksHome_34 rfl ?_
        refine y_callV3x (M' := M_X4_placeOn) dX8_walksHome_36 lm_X8_164 cv_X4_placeOn rfl (Nat.le_of_ble_eq_true rfl) (Nat.le_of_ble_eq_true rfl) rfl (c_placeOn hp hP sAt10 hb hpl.1 hpl.2 (y := i) (by omega) hS.2 hV.2 (n + 1 + d)) ?_
        cases hpo : pon p s.2 b pl i with
        | none =>
          rw [hpo] at hst
          simp only at hst
          refine z_istore6 dX8_walksHome_39 rfl ?_
          refine z_iload dX8_walksHome_41 rfl ?_
          refine z_aload_n dX8_walksHome_43 rfl ?_
          refine z_iload_n dX8_walksHome_44 rfl ?_
          refine z_iload dX8_walksHome_45 rfl ?_
          refine z_iconst (v := -1) dX8_walksHome_47 rfl ?_
          refine z_icmp_ne (tgt := 55) dX8_walksHome_48 (by decide) (fun hc48 => by exact absurd rfl hc48) (fun hc48 => ?_)
          refine z_iload_n dX8_walksHome_51 rfl ?_
          refine z_goto (tgt := 57) dX8_walksHome_52 (by decide) ?_
          refine z_iload_n dX8_walksHome_57 rfl ?_
          refine z_iconst (v := nI 1) dX8_walksHome_58 rfl ?_
          refine zn_isub dX8_walksHome_59 (by omega) ?_
          rw [show n + 1 - 1 = n by omega]
          refine y_callS4x (M' := M_X8_walksHome) dX8_walksHome_60 lm_X8_255 cs_X8_walksHome (Nat.le_of_ble_eq_true rfl) (Nat.le_of_ble_eq_true rfl) rfl (z_depth (ih (by omega) pl hpl) (by omega)) ?_
          refine zn_iadd dX8_walksHome_63 ?_
          refine z_istore4 dX8_walksHome_64 rfl ?_
          refine zn_iinc5 dX8_walksHome_66 rfl ?_
          refine z_goto (tgt := 25) dX8_walksHome_69 (by decide) ?_
          have k := ihm (i + 1) (by omega)
          rw [show wsum (fun y => wkh p s.2 b n (nxt p s.2 b pl y)) (i + 1) = wsum (fun y => wkh p s.2 b n (nxt p s.2 b pl y)) i + wkh p s.2 b n pl by show _ + wkh p s.2 b n (nxt p s.2 b pl i) = _; rw [hst]] at k
          exact z_sub k ⟨Or.inr rfl, Or.inr rfl, Or.inr rfl, Or.inr rfl, Or.inr rfl, Or.inr rfl, Or.inl rfl, trivial⟩
        | some q =>
          rw [hpo] at hst
          simp only at hst
          rw [hst] at hnx
          have hq98 := hnx.1
          rw [show oI (some q) = nI q from rfl]
          refine z_istore6 dX8_walksHome_39 rfl ?_
          refine z_iload dX8_walksHome_41 rfl ?_
          refine z_aload_n dX8_walksHome_43 rfl ?_
          refine z_iload_n dX8_walksHome_44 rfl ?_
          refine z_iload dX8_walksHome_45 rfl ?_
          refine z_iconst (v := -1) dX8_walksHome_47 rfl ?_
          refine z_icmp_ne (tgt := 55) dX8_walksHome_48 (by decide) (fun hc48 => ?_) (fun hc48 => by exact absurd hc48 (nI_m1 (by omega)))
          refine z_iload dX8_walksHome_55 rfl ?_
          refine z_iload_n dX8_walksHome_57 rfl ?_
          refine z_iconst (v := nI 1) dX8_walksHome_58 rfl ?_
          refine zn_isub dX8_walksHome_59 (by omega) ?_
          rw [show n + 1 - 1 = n by omega]
          refine y_callS4x (M' := M_X8_walksHome) dX8_walksHome_60 lm_X8_255 cs_X8_walksHome (Nat.le_of_ble_eq_true rfl) (Nat.le_of_ble_eq_true rfl) rfl (z_depth (ih (by omega) q hnx) (by omega)) ?_
          refine zn_iadd dX8_walksHome_63 ?_
          refine z_istore4 dX8_walksHome_64 rfl ?_
          refine zn_iinc5 dX8_walksHome_66 rfl ?_
          refine z_goto (tgt := 25) dX8_walksHome_69 (by decide) ?_
          have k := ihm (i + 1) (by omega)
          rw [show wsum (fun y => wkh p s.2 b n (nxt p s.2 b pl y)) (i + 1) = wsum (fun y => wkh p s.2 b n (nxt p s.2 b pl y)) i + wkh p s.2 b n q by show _ + wkh p s.2 b n (nxt p s.2 b pl i) = _; rw [hst]] at k
          exact z_sub k ⟨Or.inr rfl, Or.inr rfl, Or.inr rfl, Or.inr rfl, Or.inr rfl, Or.inr rfl, Or.inl rfl, trivial⟩
    refine z_iload_n dX8_walksHome_0 rfl ?_
    refine zn_if_gt (tgt := 19) dX8_walksHome_1 (by decide) (by omega) (fun hc1 => ?_) (fun hc1 => by omega)
    refine z_iconst (v := nI 0) dX8_walksHome_19 rfl ?_
    refine z_istore4 dX8_walksHome_20 rfl ?_
    refine z_iconst (v := nI 0) dX8_walksHome_22 rfl ?_
    refine z_istore5 dX8_walksHome_23 rfl ?_
    exact hw 4 0 (by omega)
