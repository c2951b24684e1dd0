theorem iX0 : ∀ w ∈ wsX00, w ∈ zU := by decide +kernel
theorem iX1 : ∀ w ∈ wsX10, w ∈ zU := by decide +kernel
theorem iX2 : ∀ w ∈ wsX20, w ∈ zU := by decide +kernel
theorem iX3 : ∀ w ∈ wsX30, w ∈ zU := by decide +kernel
theorem iX4 : ∀ w ∈ wsX40, w ∈ zU := by decide +kernel
theorem iX5 : ∀ w ∈ wsX50, w ∈ zU := by decide +kernel
theorem iX6 : ∀ w ∈ wsX60, w ∈ zU := by decide +kernel
theorem iX7 : ∀ w ∈ wsX70, w ∈ zU := by decide +kernel
theorem iX8 : ∀ w ∈ wsX80, w ∈ zU := by decide +kernel
theorem iX9 : ∀ w ∈ wsX90, w ∈ zU := by decide +kernel
theorem zKin : ∀ (ci : Nat) (C : String) (T : u_T) (N : Nat), vwCl[ci]? = some (C, T, N) → ∀ w ∈ u_ws C T N, w ∈ zU
  | 0, _, _, _, e => by cases e; exact iX0
  | 1, _, _, _, e => by cases e; exact iX1
  | 2, _, _, _, e => by cases e; exact iX2
  | 3, _, _, _, e => by cases e; exact iX3
  | 4, _, _, _, e => by cases e; exact iX4
  | 5, _, _, _, e => by cases e; exact iX5
  | 6, _, _, _, e => by cases e; exact iX6
  | 7, _, _, _, e => by cases e; exact iX7
  | 8, _, _, _, e => by cases e; exact iX8
  | 9, _, _, _, e => by cases e; exact iX9
  | i + 10, _, _, _, e => by simp at e
theorem zKty : ∀ (ci : Nat) (C : String) (T : u_T) (N : Nat), vwCl[ci]? = some (C, T, N) → ∃ ty0 : Nat → FieldType, (∀ k, k < N → parseFieldDescriptor (T k).2.2.1 = some (ty0 k)) ∧ (∀ a, a < N → ∀ b, b < N → a ≠ b → (T a).2.1 ≠ (T b).2.1)
  | 0, _, _, _, e => by cases e; exact ⟨tyX0, tyX0_ok, nmX0⟩
  | 1, _, _, _, e => by cases e; exact ⟨tyX1, tyX1_ok, nmX1⟩
  | 2, _, _, _, e => by cases e; exact ⟨tyX2, tyX2_ok, nmX2⟩
  | 3, _, _, _, e => by cases e; exact ⟨tyX3, tyX3_ok, nmX3⟩
  | 4, _, _, _, e => by cases e; exact ⟨tyX4, tyX4_ok, nmX4⟩
  | 5, _, _, _, e => by cases e; exact ⟨tyX5, tyX5_ok, nmX5⟩
  | 6, _, _, _, e => by cases e; exact ⟨tyX6, tyX6_ok, nmX6⟩
  | 7, _, _, _, e => by cases e; exact ⟨tyX7, tyX7_ok, nmX7⟩
  | 8, _, _, _, e => by cases e; exact ⟨tyX8, tyX8_ok, nmX8⟩
  | 9, _, _, _, e => by cases e; exact ⟨tyX9, tyX9_ok, nmX9⟩
  | i + 10, _, _, _, e => by simp at e
def zfl (own : String) (idx ci j : Nat) : Prop := ∃ (C : String) (T : u_T) (N : Nat), vwCl[ci]? = some (C, T, N) ∧ j < N ∧ Cond.fieldLink own idx (T j).1 (T j).2.1 (T j).2.2.1 ∈ zU
def zpf (own : String) (idx ci j : Nat) (fin : Bool) (ty : FieldType) : Prop := ∃ (C : String) (T : u_T) (N : Nat), vwCl[ci]? = some (C, T, N) ∧ j < N ∧ Cond.fieldLink own idx (T j).1 (T j).2.1 (T j).2.2.1 ∈ zU ∧ (T j).2.2.2 = fin ∧ parseFieldDescriptor (T j).2.2.1 = some ty ∧ (fin = true → (T j).1 = own)
def zcls (own : String) (idx ci N : Nat) (fs : List Value) : Prop := ∃ (C : String) (T : u_T) (ty : Nat → FieldType), vwCl[ci]? = some (C, T, N) ∧ Cond.classLink own idx C ∈ zU ∧ Cond.instantiable C N ∈ zU ∧ Cond.initialized C ∈ zU ∧ (∀ k, k < N → parseFieldDescriptor (T k).2.2.1 = some (ty k)) ∧ (∀ j, j < N → defaultValue (ty j) = vp_V fs j) ∧ (∀ (b0 : Nat) (cs : Nat → Nat), fs.map (ztr b0 cs) = fs)
theorem zS.rf {D : va_G} {cy : Nat → ClassId} {b0 : Nat} {cs : Nat → Nat} {s : State} {n : Nat} {h : zH} {H : Heap} {locs : List Loc} {cells : Nat} (hS : zS D cy b0 cs s n h H locs cells) : va_S (fun q => b0 ≤ q) H H locs := ⟨Nat.le_refl _, fun _ _ _ => rfl, hS.2.2.2.2.2⟩
theorem zS.go {D : va_G} {cy : Nat → ClassId} {b0 : Nat} {cs : Nat → Nat} {s : State} {n : Nat} {h h1 : zH} {H H1 : Heap} {locs locs1 : List Loc} {cells slots : Nat} {p : Program} {l : Launch} {e : Env} {R : Room} {m : MethodId} {args : Array Value} {below : List Frame} {meth : Method} {c : Code} {Qw : State → Prop} {g : JFrame}
    (hS : zS D cy b0 cs s n h H locs cells) (hP1 : va_P D vwCl (zWl cy b0 cs n h1) H1) (hS1 : va_S (fun q => b0 ≤ q) H H1 locs1) (kk : zS D cy b0 cs s n h1 H1 locs1 cells → W p l e R s m args below meth c H1 locs1 cells slots Qw g) : W p l e R s m args below meth c H1 locs1 cells slots Qw g := by
  intro T hT X
  have hz := X.heapSize
  rw [hT] at hz
  have h0 := hS1.1
  have e1 : H1.size = H.size := by have := hS.2.2.1; omega
  refine kk ⟨e1.trans hS.1, hP1, e1.trans hS.2.2.1, ?_⟩ T hT X
  have hb := hS.2.2.2
  exact ⟨Nat.le_trans hb.1 h0, fun x g1 g2 => (hS1.2.1 x (Nat.lt_of_lt_of_le g1 hb.1) g2).trans (hb.2.1 x g1 g2), hS1.2.2⟩
theorem z_getf {X : zX} {M : zM} {d k q pc : Nat} {L S : List Value} {n : Nat} {h : zH} {Q : zQ} {idx ci j a : Nat} {fs : List Value} {v : Value} (hd : decode M.2.1 pc = .ok (.getfield idx, 3)) (hl : zfl M.1.cls idx ci j) (ha : h a = .inr (ci, fs)) (han : a < n) (ham : a < 1000000) (hv : fs[j]? = some v) (kk : zJ X M d k q (pc + 3) L (v :: S) n h Q) : zJ X M d k q pc L (.ref a :: S) n h Q := by
  intro D cy b0 cs l p e R s m args below meth c Qw H locs cells slots ls mc ms hF hS hL h1 h2 h3 h4 hf
  obtain ⟨C, T, N, hc, hj, hlink⟩ := hl
  have hw := zWl_at (cy := cy) (b0 := b0) (cs := cs) (h := h) han
  rw [ha] at hw
  rw [List.map_cons, ztr_ref ham]
  exact va_get hF.1 hF.2.1 hF.2.2.2.2.2.1 (zKin ci C T N hc) hF.2.2.2.2.1 hF.2.2.2.2.2.2.2.2.1.1 hS.2.1 a hw hc j hj (hF.2.2.2.2.2.1 _ hlink) (fun _ z => z) (v := ztr b0 cs v) (by rw [List.getElem?_map, hv]; rfl) hd (kk D cy b0 cs l p e R s m args below meth c Qw H locs cells slots ls mc ms hF hS hL h1 h2 h3 h4 hf)
theorem z_putf {X : zX} {M : zM} {d k q pc : Nat} {L S : List Value} {n : Nat} {h : zH} {Q : zQ} {idx ci j a : Nat} {fs : List Value} {v : Value} {ty : FieldType} (hd : decode M.2.1 pc = .ok (.putfield idx, 3)) (hl : zpf M.1.cls idx ci j false ty) (ha : h a = .inr (ci, fs)) (han : a < n) (ham : a < 1000000) (hv : ∀ (b0 : Nat) (cs : Nat → Nat), narrow ty (ztr b0 cs v) = ztr b0 cs v ∧ fits ty (ztr b0 cs v) = true) (hlen : j < fs.length) (kk : zJ X M d k q (pc + 3) L S n (va_up h a (.inr (ci, fs.set j v))) Q) : zJ X M d k q pc L (v :: .ref a :: S) n h Q := by
  intro D cy b0 cs l p e R s m args below meth c Qw H locs cells slots ls mc ms hF hS hL h1 h2 h3 h4 hf
  obtain ⟨C, T, N, hc, hj, hlink, hfin, hty, -⟩ := hl
  obtain ⟨ty0, ht0, hnm⟩ := zKty ci C T N hc
  have hw := zWl_at (cy := cy) (b0 := b0) (cs := cs) (h := h) han
  rw [ha] at hw
  rw [List.map_cons, List.map_cons, ztr_ref ham]
  refine va_put hF.1 hF.2.1 hF.2.2.2.2.2.1 (zKin ci C T N hc) ty0 ht0 hnm hF.2.2.2.2.1 hF.2.2.2.2.2.2.2.2.1.1 hS.2.1 zWl_D hS.rf a hw hc j hj (hF.2.2.2.2.2.1 _ hlink) (fun _ z => z) hfin hty (hv b0 cs).1 (hv b0 cs).2 (by rw [List.length_map]; exact hlen) hd (fun H1 locs1 hP1 _ hS1 => ?_)
  rw [show (Sum.inr (ci, (fs.map (ztr b0 cs)).set j (ztr b0 cs v)) : va_E) = ztE cy b0 cs (.inr (ci, fs.set j v)) by simp [ztE, List.map_set], zWl_set] at hP1
  exact hS.go hP1 hS1 (fun hS1 => kk D cy b0 cs l p e R s m args below meth c Qw H1 locs1 cells slots ls mc ms hF hS1 hL h1 h2 h3 h4 hf)
theorem z_putF {X : zX} {M : zM} {d k q pc : Nat} {L S : List Value} {n : Nat} {h : zH} {Q : zQ} {idx ci j a : Nat} {fs : List Value} {v : Value} {ty : FieldType} (hd : decode M.2.1 pc = .ok (.putfield idx, 3)) (hl : zpf M.1.cls idx ci j true ty) (hin : M.1.name = "<init>") (ha : h a = .inr (ci, fs)) (han : a < n) (ham : a < 1000000) (hv : ∀ (b0 : Nat) (cs : Nat → Nat), narrow ty (ztr b0 cs v) = ztr b0 cs v ∧ fits ty (ztr b0 cs v) = true) (hlen : j < fs.length) (kk : zJ X M d k q (pc + 3) L S n (va_up h a (.inr (ci, fs.set j v))) Q) : zJ X M d k q pc L (v :: .ref a :: S) n h Q := by
  intro D cy b0 cs l p e R s m args below meth c Qw H locs cells slots ls mc ms hF hS hL h1 h2 h3 h4 hf
  obtain ⟨C, T, N, hc, hj, hlink, hfin, hty, hown⟩ := hl
  obtain ⟨ty0, ht0, hnm⟩ := zKty ci C T N hc
  have hw := zWl_at (cy := cy) (b0 := b0) (cs := cs) (h := h) han
  rw [ha] at hw
  rw [List.map_cons, List.map_cons, ztr_ref ham]
  refine va_putF hF.1 hF.2.1 hF.2.2.2.2.2.1 (zKin ci C T N hc) ty0 ht0 hnm hF.2.2.2.2.1 hF.2.2.2.2.2.2.2.2.1.1 hS.2.1 zWl_D hS.rf a hw hc j hj (hF.2.2.2.2.2.1 _ hlink) (fun _ z => z) hfin (hF.2.2.2.2.2.2.2.1 hin) (hown rfl) hty (hv b0 cs).1 (hv b0 cs).2 (by rw [List.length_map]; exact hlen) hd (fun H1 locs1 hP1 _ hS1 => ?_)
  rw [show (Sum.inr (ci, (fs.map (ztr b0 cs)).set j (ztr b0 cs v)) : va_E) = ztE cy b0 cs (.inr (ci, fs.set j v)) by simp [ztE, List.map_set], zWl_set] at hP1
  exact hS.go hP1 hS1 (fun hS1 => kk D cy b0 cs l p e R s m args below meth c Qw H1 locs1 cells slots ls mc ms hF hS1 hL h1 h2 h3 h4 hf)
theorem z_iald {X : zX} {M : zM} {d k q pc : Nat} {L S : List Value} {n : Nat} {h : zH} {Q : zQ} {a N : Nat} {f : Nat → Int32} {i : Int32} (hd : decode M.2.1 pc = .ok (.iaload, 1)) (ha : h a = .inl (0, N, .inl f)) (han : a < n) (ham : a < 1000000) (hi : vp_in i N) (kk : zJ X M d k q (pc + 1) L (.int (f i.toNatClampNeg) :: S) n h Q) : zJ X M d k q pc L (.int i :: .ref a :: S) n h Q := by
  intro D cy b0 cs l p e R s m args below meth c Qw H locs cells slots ls mc ms hF hS hL h1 h2 h3 h4 hf
  have hw := zWl_at (cy := cy) (b0 := b0) (cs := cs) (h := h) han
  rw [ha] at hw
  rw [List.map_cons, List.map_cons, ztr_ref ham]
  exact va_iald hF.1 hF.2.1 hF.2.2.2.2.2.2.2.2.1.1 hS.2.1 a 0 hw rfl hi hd (kk D cy b0 cs l p e R s m args below meth c Qw H locs cells slots ls mc ms hF hS hL h1 h2 h3 h4 hf)
theorem z_zald {X : zX} {M : zM} {d k q pc : Nat} {L S : List Value} {n : Nat} {h : zH} {Q : zQ} {a N : Nat} {f : Nat → Int32} {i : Int32} (hd : decode M.2.1 pc = .ok (.baload, 1)) (ha : h a = .inl (1, N, .inl f)) (han : a < n) (ham : a < 1000000) (hi : vp_in i N) (kk : zJ X M d k q (pc + 1) L (.int (f i.toNatClampNeg) :: S) n h Q) : zJ X M d k q pc L (.int i :: .ref a :: S) n h Q := by
  intro D cy b0 cs l p e R s m args below meth c Qw H locs cells slots ls mc ms hF hS hL h1 h2 h3 h4 hf
  have hw := zWl_at (cy := cy) (b0 := b0) (cs := cs) (h := h) han
  rw [ha] at hw
  rw [List.map_cons, List.map_cons, ztr_ref ham]
  exact va_zald hF.1 hF.2.1 hF.2.2.2.2.2.2.2.2.1.1 hS.2.1 a 1 hw rfl hi hd (kk D cy b0 cs l p e R s m args below meth c Qw H locs cells slots ls mc ms hF hS hL h1 h2 h3 h4 hf)
theorem z_iast {X : zX} {M : zM} {d k q pc : Nat} {L S : List Value} {n : Nat} {h : zH} {Q : zQ} {a N : Nat} {f : Nat → Int32} {i x : Int32} (hd : decode M.2.1 pc = .ok (.iastore, 1)) (ha : h a = .inl (0, N, .inl f)) (han : a < n) (ham : a < 1000000) (hi : vp_in i N) (kk : zJ X M d k q (pc + 1) L S n (va_up h a (.inl (0, N, .inl (upd f i.toNatClampNeg x)))) Q) : zJ X M d k q pc L (.int x :: .int i :: .ref a :: S) n h Q := by
  intro D cy b0 cs l p e R s m args below meth c Qw H locs cells slots ls mc ms hF hS hL h1 h2 h3 h4 hf
  have hw := zWl_at (cy := cy) (b0 := b0) (cs := cs) (h := h) han
  rw [ha] at hw
  rw [List.map_cons, List.map_cons, List.map_cons, ztr_ref ham]
  refine va_iast hF.1 hF.2.1 hF.2.2.2.2.2.2.2.2.1.1 hS.2.1 zWl_D hS.rf a 0 hw rfl hi hd (fun H1 locs1 hP1 _ hS1 => ?_)
  have hP1 : va_P D vwCl ((zWl cy b0 cs n h).set a (b0 + a, ztE cy b0 cs (.inl (0, N, .inl (upd f i.toNatClampNeg x))))) H1 := hP1
  rw [zWl_set] at hP1
  exact hS.go hP1 hS1 (fun hS1 => kk D cy b0 cs l p e R s m args below meth c Qw H1 locs1 cells slots ls mc ms hF hS1 hL h1 h2 h3 h4 hf)
theorem z_zast {X : zX} {M : zM} {d k q pc : Nat} {L S : List Value} {n : Nat} {h : zH} {Q : zQ} {a N : Nat} {f : Nat → Int32} {i x : Int32} (hd : decode M.2.1 pc = .ok (.bastore, 1)) (ha : h a = .inl (1, N, .inl f)) (han : a < n) (ham : a < 1000000) (hi : vp_in i N) (hx : vp_nar .boolean x = x) (kk : zJ X M d k q (pc + 1) L S n (va_up h a (.inl (1, N, .inl (upd f i.toNatClampNeg x)))) Q) : zJ X M d k q pc L (.int x :: .int i :: .ref a :: S) n h Q := by
  intro D cy b0 cs l p e R s m args below meth c Qw H locs cells slots ls mc ms hF hS hL h1 h2 h3 h4 hf
  have hw := zWl_at (cy := cy) (b0 := b0) (cs := cs) (h := h) han
  rw [ha] at hw
  rw [List.map_cons, List.map_cons, List.map_cons, ztr_ref ham]
  refine va_zast hF.1 hF.2.1 hF.2.2.2.2.2.2.2.2.1.1 hS.2.1 zWl_D hS.rf a 1 hw rfl hi hd (fun H1 locs1 hP1 _ hS1 => ?_)
  rw [hx] at hP1
  have hP1 : va_P D vwCl ((zWl cy b0 cs n h).set a (b0 + a, ztE cy b0 cs (.inl (1, N, .inl (upd f i.toNatClampNeg x))))) H1 := hP1
  rw [zWl_set] at hP1
  exact hS.go hP1 hS1 (fun hS1 => kk D cy b0 cs l p e R s m args below meth c Qw H1 locs1 cells slots ls mc ms hF hS1 hL h1 h2 h3 h4 hf)
theorem z_aald {X : zX} {M : zM} {d k q pc : Nat} {L S : List Value} {n : Nat} {h : zH} {Q : zQ} {a N r : Nat} {f : Nat → Option Nat} {i : Int32} (hd : decode M.2.1 pc = .ok (.aaload, 1)) (ha : h a = .inl (2, N, .inr (.inr (.inr (.inr f))))) (han : a < n) (ham : a < 1000000) (hi : vp_in i N) (hr : f i.toNatClampNeg = some r) (hrm : r < 1000000) (kk : zJ X M d k q (pc + 1) L (.ref r :: S) n h Q) : zJ X M d k q pc L (.int i :: .ref a :: S) n h Q := by
  intro D cy b0 cs l p e R s m args below meth c Qw H locs cells slots ls mc ms hF hS hL h1 h2 h3 h4 hf
  have hw := zWl_at (cy := cy) (b0 := b0) (cs := cs) (h := h) han
  rw [ha] at hw
  rw [List.map_cons, List.map_cons, ztr_ref ham]
  refine va_aldq hF.1 hF.2.1 hF.2.2.2.2.2.2.2.2.1.1 hS.2.1 a 2 hw rfl hi hd ?_
  rw [hr]
  have kk := kk D cy b0 cs l p e R s m args below meth c Qw H locs cells slots ls mc ms hF hS hL h1 h2 h3 h4 hf
  rw [List.map_cons, ztr_ref hrm] at kk
  exact kk
theorem z_aast {X : zX} {M : zM} {d k q pc : Nat} {L S : List Value} {n : Nat} {h : zH} {Q : zQ} {a N v : Nat} {f : Nat → Option Nat} {i : Int32} {vs : List Value} (hd : decode M.2.1 pc = .ok (.aastore, 1)) (ha : h a = .inl (2, N, .inr (.inr (.inr (.inr f))))) (han : a < n) (ham : a < 1000000) (hv : h v = .inr (4, vs)) (hvn : v < n) (hvm : v < 1000000) (hi : vp_in i N) (kk : zJ X M d k q (pc + 1) L S n (va_up h a (.inl (2, N, .inr (.inr (.inr (.inr (va_up f i.toNatClampNeg (some v)))))))) Q) : zJ X M d k q pc L (.ref v :: .int i :: .ref a :: S) n h Q := by
  intro D cy b0 cs l p e R s m args below meth c Qw H locs cells slots ls mc ms hF hS hL h1 h2 h3 h4 hf
  have hw := zWl_at (cy := cy) (b0 := b0) (cs := cs) (h := h) han
  have hw2 := zWl_at (cy := cy) (b0 := b0) (cs := cs) (h := h) hvn
  rw [ha] at hw
  rw [hv] at hw2
  rw [List.map_cons, List.map_cons, List.map_cons, ztr_ref ham, ztr_ref hvm]
  refine va_astq hF.1 hF.2.1 hF.2.2.2.2.2.2.2.2.1.1 hS.2.1 zWl_D hS.rf a 2 v 4 (r := (RX4, TX4, 3)) hw rfl hw2 rfl hi hd (fun H1 locs1 hP1 _ hS1 => ?_)
  have e1 : (Sum.inl (cy 2, N, .inr (.inr (.inr (.inr (va_up (fun k => (f k).map (fun a => b0 + a)) i.toNatClampNeg (some (b0 + v))))))) : va_E) = ztE cy b0 cs (.inl (2, N, .inr (.inr (.inr (.inr (va_up f i.toNatClampNeg (some v))))))) := by
    simp only [ztE]
    congr 7
    funext k
    by_cases hk : k = i.toNatClampNeg <;> simp [va_up, hk]
  have hP1 : va_P D vwCl ((zWl cy b0 cs n h).set a (b0 + a, .inl (cy 2, N, .inr (.inr (.inr (.inr (va_up (fun k => (f k).map (fun a => b0 + a)) i.toNatClampNeg (some (b0 + v))))))))) H1 := hP1
  rw [e1, zWl_set] at hP1
  exact hS.go hP1 hS1 (fun hS1 => kk D cy b0 cs l p e R s m args below meth c Qw H1 locs1 cells slots ls mc ms hF hS1 hL h1 h2 h3 h4 hf)
/-- a new cell is the next one -/
theorem zS.new {D : va_G} {cy : Nat → ClassId} {b0 : Nat} {cs : Nat → Nat} {s : State} {n q0 : Nat} {h : zH} {e0 : zE} {H H1 : Heap} {locs : List Loc} {cells slots : Nat} {p : Program} {l : Launch} {e : Env} {R : Room} {m : MethodId} {args : Array Value} {below : List Frame} {meth : Method} {c : Code} {Qw : State → Prop} {pc : Nat} {ls : Array Slot} {st : List Value}
    (hS : zS D cy b0 cs s n h H locs cells) (hP1 : va_P D vwCl (zWl cy b0 cs n h ++ [(q0, ztE cy b0 cs e0)]) H1) (hD1 : va_D (fun q => b0 ≤ q) (zWl cy b0 cs n h ++ [(q0, ztE cy b0 cs e0)])) (hS1 : va_S (fun q => b0 ≤ q) H H1 locs) (kk : zS D cy b0 cs s (n + 1) (va_up h n e0) H1 locs (cells + 1) → W p l e R s m args below meth c H1 locs (cells + 1) slots Qw (F0 m pc ls (.ref (b0 + n) :: st))) : W p l e R s m args below meth c H1 locs (cells + 1) slots Qw (F0 m pc ls (.ref q0 :: st)) := by
  intro T hT X
  have hz := X.heapSize
  rw [hT] at hz
  have h0 := hS1.1
  have hlast : (zWl cy b0 cs n h ++ [(q0, ztE cy b0 cs e0)])[n]? = some (q0, ztE cy b0 cs e0) := by
    rw [List.getElem?_append_right (by rw [zWl_len]; exact Nat.le_refl _), zWl_len, Nat.sub_self]; rfl
  have hq1 : q0 < H1.size := (hP1 n _ hlast).lt
  have hq2 : b0 ≤ q0 := hD1.2 n _ hlast
  have hq3 : b0 + n ≤ q0 := by
    rcases Nat.lt_or_ge q0 (b0 + n) with hlt | hge
    · exfalso
      have hk : (zWl cy b0 cs n h ++ [(q0, ztE cy b0 cs e0)])[q0 - b0]? = some (b0 + (q0 - b0), ztE cy b0 cs (h (q0 - b0))) := by
        rw [List.getElem?_append_left (by rw [zWl_len]; omega)]
        exact zWl_at (by omega)
      have := hD1.1 _ _ _ _ hk hlast (show b0 + (q0 - b0) = q0 by omega)
      omega
    · exact hge
  have hs1 := hS.1
  have hs2 := hS.2.2.1
  obtain rfl : q0 = b0 + n := by omega
  rw [zWl_push] at hP1
  have hb := hS.2.2.2
  refine kk ⟨by omega, hP1, by omega, ⟨Nat.le_trans hb.1 h0, fun x g1 g2 => (hS1.2.1 x (Nat.lt_of_lt_of_le g1 hb.1) g2).trans (hb.2.1 x g1 g2), hS1.2.2⟩⟩ T hT X
theorem z_new {X : zX} {M : zM} {d k q pc : Nat} {L S : List Value} {n : Nat} {h : zH} {Q : zQ} {idx ci N : Nat} {fs : List Value} (hd : decode M.2.1 pc = .ok (.new idx, 3)) (hc : zcls M.1.cls idx ci N fs) (hn : n < 1000000) (kk : zJ X M d k q (pc + 3) L (.ref n :: S) (n + 1) (va_up h n (.inr (ci, fs))) Q) : zJ X M d (k + 1) (q + N) pc L S n h Q := by
  intro D cy b0 cs l p e R s m args below meth c Qw H locs cells slots ls mc ms hF hS hL h1 h2 h3 h4 hf
  obtain ⟨C, T, ty, hcl, hlk, hin, hini, hty, hdf, hfs⟩ := hc
  have hb0 : b0 ≤ H.size := by have := hS.1; omega
  refine va_new hF.1 hF.2.1 hF.2.2.2.2.2.1 (zKin ci C T N hcl) ty hty hF.2.2.2.2.1 (hF.2.2.2.2.2.1 _ hlk) (hF.2.2.2.2.2.1 _ hin) (hF.2.2.2.2.2.1 _ hini) hF.2.2.2.2.2.2.2.2.1.1 hS.2.1 zWl_D hS.rf (fun q g => Nat.le_trans hb0 g) hcl (fs := fs) hdf (by omega) (by omega) hd (fun q0 H1 hP1 hD1 hS1 => ?_)
  have he : (Sum.inr (ci, fs) : va_E) = ztE cy b0 cs (.inr (ci, fs)) := by simp [ztE, hfs]
  rw [he] at hP1 hD1
  refine hS.new hP1 hD1 hS1 (fun hS1 => ?_)
  have kk := kk D cy b0 cs l p e R s m args below meth c Qw H1 locs (cells + 1) (slots + N) ls mc ms hF hS1 hL (by omega) (by omega) h3 h4 hf
  rw [List.map_cons, ztr_ref hn] at kk
  exact kk
theorem z_newa {X : zX} {M : zM} {d k q pc : Nat} {L S : List Value} {n : Nat} {h : zH} {Q : zQ} {z : Int32} {N : Nat} (hd : decode M.2.1 pc = .ok (.newarray .int, 2)) (hw : Cond.arrayClass .int ∈ zU) (hz : ¬ z < 0) (hN : z.toNatClampNeg = N) (hb : N ≤ 100000) (hn : n < 1000000) (kk : zJ X M d k q (pc + 2) L (.ref n :: S) (n + 1) (va_up h n (.inl (0, N, .inl (fun _ => 0)))) Q) : zJ X M d (k + 1) (q + N) pc L (.int z :: S) n h Q := by
  intro D cy b0 cs l p e R s m args below meth c Qw H locs cells slots ls mc ms hF hS hL h1 h2 h3 h4 hf
  have hb0 : b0 ≤ H.size := by have := hS.1; omega
  refine va_newa hF.1 hF.2.1 (atype := .int) (ty := .int) (hF.2.2.2.2.2.1 _ hw) rfl hF.2.2.2.2.2.2.2.2.1.1 hS.2.1 zWl_D hS.rf (fun q g => Nat.le_trans hb0 g) (a0 := (N, .inl (fun _ => 0))) (fun _ => rfl) hz hN (by show N * 4 ≤ _; omega) (by omega) (by omega) hd (fun q0 cA H1 hK1 hP1 hD1 hS1 => ?_)
  obtain rfl : cA = cy 0 := Option.some.inj ((hK1.2 3 (cA, .int) rfl).2.symm.trans (hK1.2 0 (cy 0, .int) rfl).2)
  refine hS.new (e0 := .inl (0, N, .inl (fun _ => 0))) hP1 hD1 hS1 (fun hS1 => ?_)
  have kk := kk D cy b0 cs l p e R s m args below meth c Qw H1 locs (cells + 1) (slots + N) ls mc ms hF hS1 hL (by omega) (by omega) h3 h4 hf
  rw [List.map_cons, ztr_ref hn] at kk
  exact kk
theorem z_newz {X : zX} {M : zM} {d k q pc : Nat} {L S : List Value} {n : Nat} {h : zH} {Q : zQ} {z : Int32} {N : Nat} (hd : decode M.2.1 pc = .ok (.newarray .boolean, 2)) (hw : Cond.arrayClass .boolean ∈ zU) (hz : ¬ z < 0) (hN : z.toNatClampNeg = N) (hb : N ≤ 100000) (hn : n < 1000000) (kk : zJ X M d k q (pc + 2) L (.ref n :: S) (n + 1) (va_up h n (.inl (1, N, .inl (fun _ => 0)))) Q) : zJ X M d (k + 1) (q + N) pc L (.int z :: S) n h Q := by
  intro D cy b0 cs l p e R s m args below meth c Qw H locs cells slots ls mc ms hF hS hL h1 h2 h3 h4 hf
  have hb0 : b0 ≤ H.size := by have := hS.1; omega
  refine va_newa hF.1 hF.2.1 (atype := .boolean) (ty := .boolean) (hF.2.2.2.2.2.1 _ hw) rfl hF.2.2.2.2.2.2.2.2.1.1 hS.2.1 zWl_D hS.rf (fun q g => Nat.le_trans hb0 g) (a0 := (N, .inl (fun _ => 0))) (fun _ => rfl) hz hN (by show N * 1 ≤ _; omega) (by omega) (by omega) hd (fun q0 cA H1 hK1 hP1 hD1 hS1 => ?_)
  obtain rfl : cA = cy 1 := Option.some.inj ((hK1.2 3 (cA, .boolean) rfl).2.symm.trans (hK1.2 1 (cy 1, .boolean) rfl).2)
  refine hS.new (e0 := .inl (1, N, .inl (fun _ => 0))) hP1 hD1 hS1 (fun hS1 => ?_)
  have kk := kk D cy b0 cs l p e R s m args below meth c Qw H1 locs (cells + 1) (slots + N) ls mc ms hF hS1 hL (by omega) (by omega) h3 h4 hf
  rw [List.map_cons, ztr_ref hn] at kk
  exact kk
theorem z_newq {X : zX} {M : zM} {d k q pc : Nat} {L S : List Value} {n : Nat} {h : zH} {Q : zQ} {idx : Nat} {z : Int32} {N : Nat} (hd : decode M.2.1 pc = .ok (.anewarray idx, 3)) (hlk : Cond.classLink M.1.cls idx "PaperTrellis$Scene" ∈ zU) (hz : ¬ z < 0) (hN : z.toNatClampNeg = N) (hb : N ≤ 100000) (hn : n < 1000000) (kk : zJ X M d k q (pc + 3) L (.ref n :: S) (n + 1) (va_up h n (.inl (2, N, .inr (.inr (.inr (.inr (fun _ => none))))))) Q) : zJ X M d (k + 1) (q + N) pc L (.int z :: S) n h Q := by
  intro D cy b0 cs l p e R s m args below meth c Qw H locs cells slots ls mc ms hF hS hL h1 h2 h3 h4 hf
  have hb0 : b0 ≤ H.size := by have := hS.1; omega
  refine va_newq hF.1 hF.2.1 hF.2.2.2.2.1 (hF.2.2.2.2.2.1 _ hlk) hF.2.2.2.2.2.2.2.2.1.2.2.1 hF.2.2.2.2.2.2.2.2.1.1 hS.2.1 zWl_D hS.rf (fun q g => Nat.le_trans hb0 g) hz hN (by omega) (by omega) (by omega) hd (fun q0 cA H1 hK1 hP1 hD1 hS1 => ?_)
  obtain ⟨_, _, -, -, -, e1⟩ := (hK1.2 3 (cA, .object "PaperTrellis$Scene") rfl).2
  obtain ⟨_, _, -, -, -, e2⟩ := (hK1.2 2 (cy 2, .object "PaperTrellis$Scene") rfl).2
  obtain rfl : cA = cy 2 := Option.some.inj (e1.symm.trans e2)
  refine hS.new (e0 := .inl (2, N, .inr (.inr (.inr (.inr (fun _ => none)))))) hP1 hD1 hS1 (fun hS1 => ?_)
  have kk := kk D cy b0 cs l p e R s m args below meth c Qw H1 locs (cells + 1) (slots + N) ls mc ms hF hS1 hL (by omega) (by omega) h3 h4 hf
  rw [List.map_cons, ztr_ref hn] at kk
  exact kk
theorem z_sld {X : zX} {M : zM} {d k q pc : Nat} {L S : List Value} {n : Nat} {h : zH} {Q : zQ} {i : Int32} (hd : decode M.2.1 pc = .ok (.iaload, 1)) (hi : vp_in i X.1) (kk : zJ X M d k q (pc + 1) L (.int (X.2 i.toNatClampNeg) :: S) n h Q) : zJ X M d k q pc L (.int i :: .ref 1000000 :: S) n h Q := by
  intro D cy b0 cs l p e R s m args below meth c Qw H locs cells slots ls mc ms hF hS hL h1 h2 h3 h4 hf
  obtain ⟨-, -, -, hX, hx0, hb, -⟩ := hF.2.2.2.2.2.2.2.2.1
  exact va_sld hF.1 hF.2.1 hX (Nat.lt_of_lt_of_le hx0 hb) (Nat.not_le.mpr hx0) hS.2.2.2 hi hd (kk D cy b0 cs l p e R s m args below meth c Qw H locs cells slots ls mc ms hF hS hL h1 h2 h3 h4 hf)
theorem z_slen {X : zX} {M : zM} {d k q pc : Nat} {L S : List Value} {n : Nat} {h : zH} {Q : zQ} (hd : decode M.2.1 pc = .ok (.arraylength, 1)) (kk : zJ X M d k q (pc + 1) L (.int (Int32.ofNat X.1) :: S) n h Q) : zJ X M d k q pc L (.ref 1000000 :: S) n h Q := by
  intro D cy b0 cs l p e R s m args below meth c Qw H locs cells slots ls mc ms hF hS hL h1 h2 h3 h4 hf
  obtain ⟨-, -, -, hX, hx0, hb, -⟩ := hF.2.2.2.2.2.2.2.2.1
  exact va_slen hF.1 hF.2.1 hX (Nat.lt_of_lt_of_le hx0 hb) (Nat.not_le.mpr hx0) hS.2.2.2 hd (kk D cy b0 cs l p e R s m args below meth c Qw H locs cells slots ls mc ms hF hS hL h1 h2 h3 h4 hf)
theorem z_getT {X : zX} {M : zM} {d k q pc : Nat} {L S : List Value} {n : Nat} {h : zH} {Q : zQ} {idx : Nat} (hd : decode M.2.1 pc = .ok (.getstatic idx, 3)) (hl : Cond.fieldLink M.1.cls idx "PaperTrellis" "THOUSANDS" "[J" ∈ zU) (kk : zJ X M d k q (pc + 3) L (.ref 1000001 :: S) n h Q) : zJ X M d k q pc L S n h Q := by
  intro D cy b0 cs l p e R s m args below meth c Qw H locs cells slots ls mc ms hF hS hL h1 h2 h3 h4 hf
  obtain ⟨-, -, -, -, -, -, hZ, -⟩ := hF.2.2.2.2.2.2.2.2.1
  exact va_gets hF.1 hF.2.1 hZ hS.2.2.2 hF.2.2.2.2.1 (hF.2.2.2.2.2.1 _ hl) (fun _ z => z) hd (kk D cy b0 cs l p e R s m args below meth c Qw H locs cells slots ls mc ms hF hS hL h1 h2 h3 h4 hf)
theorem z_getP {X : zX} {M : zM} {d k q pc : Nat} {L S : List Value} {n : Nat} {h : zH} {Q : zQ} {idx : Nat} (hd : decode M.2.1 pc = .ok (.getstatic idx, 3)) (hl : Cond.fieldLink M.1.cls idx "PaperTrellis" "POWERS_OF_FOUR" "[I" ∈ zU) (kk : zJ X M d k q (pc + 3) L (.ref 1000002 :: S) n h Q) : zJ X M d k q pc L S n h Q := by
  intro D cy b0 cs l p e R s m args below meth c Qw H locs cells slots ls mc ms hF hS hL h1 h2 h3 h4 hf
  obtain ⟨-, -, -, -, -, -, -, -, hZ, -⟩ := hF.2.2.2.2.2.2.2.2.1
  exact va_gets hF.1 hF.2.1 hZ hS.2.2.2 hF.2.2.2.2.1 (hF.2.2.2.2.2.1 _ hl) (fun _ z => z) hd (kk D cy b0 cs l p e R s m args below meth c Qw H locs cells slots ls mc ms hF hS hL h1 h2 h3 h4 hf)
theorem z_laldT {X : zX} {M : zM} {d k q pc : Nat} {L S : List Value} {n : Nat} {h : zH} {Q : zQ} {i : Int32} (hd : decode M.2.1 pc = .ok (.laload, 1)) (hi : vp_in i 5) (kk : zJ X M d k q (pc + 1) L (zThou i.toNatClampNeg :: S) n h Q) : zJ X M d k q pc L (.int i :: .ref 1000001 :: S) n h Q := by
  intro D cy b0 cs l p e R s m args below meth c Qw H locs cells slots ls mc ms hF hS hL h1 h2 h3 h4 hf
  obtain ⟨-, -, -, -, -, -, -, hT, -⟩ := hF.2.2.2.2.2.2.2.2.1
  exact va_tl hF.1 hF.2.1 hT hS.2.2.2 hi rfl hd (kk D cy b0 cs l p e R s m args below meth c Qw H locs cells slots ls mc ms hF hS hL h1 h2 h3 h4 hf)
theorem z_ialdP {X : zX} {M : zM} {d k q pc : Nat} {L S : List Value} {n : Nat} {h : zH} {Q : zQ} {i : Int32} (hd : decode M.2.1 pc = .ok (.iaload, 1)) (hi : vp_in i 6) (kk : zJ X M d k q (pc + 1) L (zPow i.toNatClampNeg :: S) n h Q) : zJ X M d k q pc L (.int i :: .ref 1000002 :: S) n h Q := by
  intro D cy b0 cs l p e R s m args below meth c Qw H locs cells slots ls mc ms hF hS hL h1 h2 h3 h4 hf
  obtain ⟨-, -, -, -, -, -, -, -, -, hT⟩ := hF.2.2.2.2.2.2.2.2.1
  exact va_ti hF.1 hF.2.1 hT hS.2.2.2 hi rfl hd (kk D cy b0 cs l p e R s m args below meth c Qw H locs cells slots ls mc ms hF hS hL h1 h2 h3 h4 hf)
theorem z_copy {X : zX} {M : zM} {d k q pc : Nat} {L S : List Value} {n : Nat} {h : zH} {Q : zQ} {idx a0 a1 N0 N1 : Nat} {f g : Nat → Int32} {sp dp z : Int32} (hd : decode M.2.1 pc = .ok (.invokestatic idx, 3)) (hlk : Cond.methodLink M.1.cls idx arraycopyName ∈ zU) (hn1 : Cond.native arraycopyName ∈ zU) (hn2 : Cond.static arraycopyName ∈ zU) (hn3 : Cond.initialized "java/lang/System" ∈ zU) (ha0 : h a0 = .inl (0, N0, .inl f)) (ha1 : h a1 = .inl (0, N1, .inl g)) (ha0n : a0 < n) (ha1n : a1 < n) (ha0m : a0 < 1000000) (ha1m : a1 < 1000000)
    (g1 : ¬ sp < 0) (g2 : ¬ dp < 0) (g3 : ¬ z < 0) (g4 : sp.toNatClampNeg + z.toNatClampNeg ≤ N0) (g5 : dp.toNatClampNeg + z.toNatClampNeg ≤ N1) (hdp : 1 ≤ d) (hst : (S.map fun v => v.category).sum ≤ 8) (kk : zJ X M d k q (pc + 3) L S n (va_up h a1 (.inl (0, N1, .inl (va_cpy f g sp.toNatClampNeg dp.toNatClampNeg z.toNatClampNeg)))) Q) : zJ X M d k q pc L (.int z :: .int dp :: .ref a1 :: .int sp :: .ref a0 :: S) n h Q := by
  intro D cy b0 cs l p e R s m args below meth c Qw H locs cells slots ls mc ms hF hS hL h1 h2 h3 h4 hf
  have hw0 := zWl_at (cy := cy) (b0 := b0) (cs := cs) (h := h) ha0n
  have hw1 := zWl_at (cy := cy) (b0 := b0) (cs := cs) (h := h) ha1n
  rw [ha0] at hw0
  rw [ha1] at hw1
  obtain ⟨f1, f2, f3, f4, f5, f6, f7, f8, f9, f10, f11⟩ := id hF
  simp only [List.map_cons, ztr_ref ha0m, ztr_ref ha1m]
  refine va_copyi f1 f2 (f3.trans hL.2.1.symm) f5 (f6 _ hlk) (f6 _ hn1) (f6 _ hn2) (f6 _ hn3) f9.1 hS.2.1 zWl_D hS.rf a0 a1 0 0 hw0 hw1 rfl rfl rfl g1 g2 g3 g4 g5 (fun _ _ => rfl) (by omega) ?_ hd (fun H1 locs1 hP1 _ hS1 => ?_)
  · have : ((S.map (ztr b0 cs)).map fun v => v.category) = S.map fun v => v.category := by
      rw [List.map_map]; exact List.map_congr_left (fun v _ => ztr_cat v)
    rw [this]
    have h64 : nativeFrameWords "java/lang/System" "arraycopy" 5 + 11 ≤ 56 := by decide +kernel
    omega
  have hP1 : va_P D vwCl ((zWl cy b0 cs n h).set a1 (b0 + a1, ztE cy b0 cs (.inl (0, N1, .inl (va_cpy f g sp.toNatClampNeg dp.toNatClampNeg z.toNatClampNeg))))) H1 := hP1
  rw [zWl_set] at hP1
  exact hS.go hP1 hS1 (fun hS1 => kk D cy b0 cs l p e R s m args below meth c Qw H1 locs1 cells slots ls mc ms hF hS1 hL h1 h2 h3 h4 hf)
