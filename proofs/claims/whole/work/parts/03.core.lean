/-! the machine under one picture: the heap from b0 on is cells 0 .. n-1, in the order in which they were made -/
abbrev zM : Type := MethodName × ByteArray × Nat × Option FieldType
abbrev zE : Type := (Nat × vp_A) ⊕ (Nat × List Value)
abbrev zH : Type := Nat → zE
abbrev zX : Type := Nat × (Nat → Int32)
def zU : List Cond := lw_tbl.filter goodWord
theorem zin {w : Cond} (i : Nat) (h : lw_tbl[i]? = some w) (g : goodWord w = true) : w ∈ zU := List.mem_filter.mpr ⟨List.mem_of_getElem? h, g⟩
theorem zU_good {w : Cond} (h : w ∈ zU) : goodWord w = true := (List.mem_filter.mp h).2
theorem zU_goodIn (c : Cond) : ∀ {w : Cond}, w ∈ zU → w ∈ c :: zU ∧ ((w.onTables && w.keeps) = true ∨ ∃ ty, w = .arrayClass ty) := fun h => ⟨List.mem_cons_of_mem _ h, good_of_word (zU_good h)⟩
abbrev zu : Value := .retAddr 0
def ztr (b0 : Nat) (cs : Nat → Nat) : Value → Value
  | .ref a => .ref (if a < 1000000 then b0 + a else cs (a - 1000000))
  | v => v
theorem ztr_ref {b0 : Nat} {cs : Nat → Nat} {a : Nat} (h : a < 1000000) : ztr b0 cs (.ref a) = .ref (b0 + a) := by simp [ztr, h]
theorem ztr_cat {b0 : Nat} {cs : Nat → Nat} (v : Value) : (ztr b0 cs v).category = v.category := by cases v <;> rfl
def ztE (cy : Nat → ClassId) (b0 : Nat) (cs : Nat → Nat) : zE → va_E
  | .inl (t, n, .inl f) => .inl (cy t, n, .inl f)
  | .inl (t, n, .inr (.inr (.inr (.inr f)))) => .inl (cy t, n, .inr (.inr (.inr (.inr (fun k => (f k).map (fun a => b0 + a))))))
  | .inl (t, x) => .inl (cy t, x)
  | .inr (ci, fs) => .inr (ci, fs.map (ztr b0 cs))
def zWl (cy : Nat → ClassId) (b0 : Nat) (cs : Nat → Nat) (n : Nat) (h : zH) : va_W := (List.range n).map fun i => (b0 + i, ztE cy b0 cs (h i))
theorem zWl_at {cy : Nat → ClassId} {b0 : Nat} {cs : Nat → Nat} {n : Nat} {h : zH} {i : Nat} (hi : i < n) : (zWl cy b0 cs n h)[i]? = some (b0 + i, ztE cy b0 cs (h i)) := by
  simp [zWl, hi]
theorem zWl_of {cy : Nat → ClassId} {b0 : Nat} {cs : Nat → Nat} {n : Nat} {h : zH} {k : Nat} {q : Nat × va_E} (hq : (zWl cy b0 cs n h)[k]? = some q) : k < n ∧ q = (b0 + k, ztE cy b0 cs (h k)) := by
  by_cases hk : k < n
  · rw [zWl_at hk] at hq
    exact ⟨hk, (Option.some.inj hq).symm⟩
  · simp [zWl, hk] at hq
theorem zWl_len {cy : Nat → ClassId} {b0 : Nat} {cs : Nat → Nat} {n : Nat} {h : zH} : (zWl cy b0 cs n h).length = n := by simp [zWl]
theorem zWl_D {cy : Nat → ClassId} {b0 : Nat} {cs : Nat → Nat} {n : Nat} {h : zH} : va_D (fun q => b0 ≤ q) (zWl cy b0 cs n h) := by
  refine ⟨fun i j x y hi hj hxy => ?_, fun k x hk => ?_⟩
  · obtain ⟨-, rfl⟩ := zWl_of hi
    obtain ⟨-, rfl⟩ := zWl_of hj
    have : b0 + i = b0 + j := hxy
    omega
  · obtain ⟨-, rfl⟩ := zWl_of hk
    exact Nat.le_add_right _ _
theorem zWl_set {cy : Nat → ClassId} {b0 : Nat} {cs : Nat → Nat} {n : Nat} {h : zH} {i : Nat} (e : zE) : (zWl cy b0 cs n h).set i (b0 + i, ztE cy b0 cs e) = zWl cy b0 cs n (va_up h i e) := by
  apply List.ext_getElem?
  intro k
  by_cases hk : k < n
  · rw [zWl_at hk]
    by_cases hi : k = i
    · subst hi
      rw [List.getElem?_set_self (by rw [zWl_len]; exact hk)]
      simp [va_up]
    · rw [List.getElem?_set_ne (Ne.symm hi), zWl_at hk]
      simp [va_up, hi]
  · rw [List.getElem?_eq_none (by rw [List.length_set, zWl_len]; omega), List.getElem?_eq_none (by rw [zWl_len]; omega)]
theorem zWl_push {cy : Nat → ClassId} {b0 : Nat} {cs : Nat → Nat} {n : Nat} {h : zH} (e : zE) : zWl cy b0 cs n h ++ [(b0 + n, ztE cy b0 cs e)] = zWl cy b0 cs (n + 1) (va_up h n e) := by
  apply List.ext_getElem?
  intro k
  by_cases hk : k < n
  · rw [List.getElem?_append_left (by rw [zWl_len]; exact hk), zWl_at hk, zWl_at (by omega)]
    have : k ≠ n := by omega
    simp [va_up, this]
  · by_cases hk2 : k = n
    · subst hk2
      rw [List.getElem?_append_right (by rw [zWl_len]; exact Nat.le_refl _), zWl_len, Nat.sub_self, zWl_at (by omega)]
      simp [va_up]
    · rw [List.getElem?_eq_none (by rw [List.length_append, zWl_len]; simp; omega), List.getElem?_eq_none (by rw [zWl_len]; omega)]
def ztys (cy : Nat → ClassId) : List (ClassId × FieldType) := [(cy 0, .int), (cy 1, .boolean), (cy 2, .object "PaperTrellis$Scene")]
def zThou (k : Nat) : Value := .long (Int64.ofNat (1000 ^ k))
def zPow (k : Nat) : Value := .int (Int32.ofNat (4 ^ k))
def zN : List (String × Nat × MethodName × String) := [("PaperTrellis", 11, ⟨"PaperTrellis$Text", "<init>", "()V"⟩, "PaperTrellis"), ("PaperTrellis", 52, ⟨"PaperTrellis$Search", "<init>", "()V"⟩, "PaperTrellis"), ("PaperTrellis", 59, ⟨"PaperTrellis$Cover", "<init>", "()V"⟩, "PaperTrellis"), ("PaperTrellis", 66, ⟨"PaperTrellis$Sight", "<init>", "()V"⟩, "PaperTrellis"), ("PaperTrellis", 73, ⟨"PaperTrellis$Goings", "<init>", "()V"⟩, "PaperTrellis"), ("PaperTrellis$Pattern", 87, ⟨"PaperTrellis", "cellOf", "(I)I"⟩, "PaperTrellis"), ("PaperTrellis$Pattern", 90, ⟨"PaperTrellis", "widthOf", "(I)I"⟩, "PaperTrellis"), ("PaperTrellis$Pattern", 93, ⟨"PaperTrellis", "heightOf", "(I)I"⟩, "PaperTrellis"), ("PaperTrellis$Scene", 58, ⟨"PaperTrellis", "cellOf", "(I)I"⟩, "PaperTrellis"), ("PaperTrellis$Search", 49, ⟨"PaperTrellis", "cellOf", "(I)I"⟩, "PaperTrellis"), ("PaperTrellis$Goings", 27, ⟨"PaperTrellis", "cellOf", "(I)I"⟩, "PaperTrellis")]
/-- what holds at every frame's start: the tables, the constants below b0 -/
def zG (X : zX) (D : va_G) (cy : Nat → ClassId) (b0 : Nat) (cs : Nat → Nat) (U : State) : Prop :=
  va_K D vwCl (ztys cy) U ∧ (∀ q ∈ zN, va_Nw (.methodLinkNest q.1 q.2.1 q.2.2.1 q.2.2.2) U) ∧ va_AO "PaperTrellis$Scene" U ∧ va_X (cs 0) X.1 X.2 U U.heap ∧ cs 0 < b0 ∧ b0 ≤ U.heap.size ∧
  va_Z "PaperTrellis" "THOUSANDS" "[J" (.ref (cs 1)) (fun q => b0 ≤ q) U U.heap ∧ va_T .long (cs 1) 5 zThou (fun q => b0 ≤ q) U U.heap ∧ va_Z "PaperTrellis" "POWERS_OF_FOUR" "[I" (.ref (cs 2)) (fun q => b0 ≤ q) U U.heap ∧ va_T .int (cs 2) 6 zPow (fun q => b0 ≤ q) U U.heap
def zF (X : zX) (M : zM) (D : va_G) (cy : Nat → ClassId) (b0 : Nat) (cs : Nat → Nat) (p : Program) (R : Room) (s : State) (m : MethodId) (args : Array Value) (meth : Method) (c : Code) (d : Nat) : Prop :=
  p.tables.exec = Jvm.exec ∧ c.code = M.2.1 ∧ c.maxLocals = M.2.2.1 ∧ meth.sig.returnType = M.2.2.2 ∧ s.vm.findClass M.1.cls = some m.cls ∧ (∀ w ∈ zU, w.before args s = true) ∧ meth.locks = false ∧ (M.1.name = "<init>" → meth.name = "<init>") ∧ zG X D cy b0 cs s ∧ d ≤ R.frames ∧ 64 * d ≤ R.locals
def zS (D : va_G) (cy : Nat → ClassId) (b0 : Nat) (cs : Nat → Nat) (s : State) (n : Nat) (h : zH) (H : Heap) (locs : List Loc) (cells : Nat) : Prop :=
  H.size = b0 + n ∧ va_P D vwCl (zWl cy b0 cs n h) H ∧ H.size = s.heap.size + cells ∧ va_S (fun q => b0 ≤ q) s.heap H locs
def zL (b0 : Nat) (cs : Nat → Nat) (ls : Array Slot) (nL : Nat) (L : List Value) : Prop := L.length = nL ∧ ls.size = nL ∧ lv_wf ls ∧ ∀ (i : Nat) (v : Value), L[i]? = some v → v ≠ zu → ls[i]? = some (.val (ztr b0 cs v))
def zend (M : zM) (pc : Nat) (r : Option Value) : Prop :=
  (r = none ∧ M.2.2.2 = none ∧ decode M.2.1 pc = .ok (.return_, 1)) ∨ (∃ v ty, r = some (.int v) ∧ M.2.2.2 = some ty ∧ narrow ty (.int v) = .int v ∧ decode M.2.1 pc = .ok (.ireturn, 1)) ∨ (∃ v, r = some (.long v) ∧ M.2.2.2 = some .long ∧ decode M.2.1 pc = .ok (.lreturn, 1))
abbrev zQ : Type := Option Value → Nat → zH → Prop
/-- THE JUDGEMENT: method M at pc, with locals L, operands S, heap (n, h), room for d frames, k cells, q slots more, comes to its end with Q -/
def zJ (X : zX) (M : zM) (d k q pc : Nat) (L S : List Value) (n : Nat) (h : zH) (Q : zQ) : Prop :=
  ∀ (D : va_G) (cy : Nat → ClassId) (b0 : Nat) (cs : Nat → Nat) (l : Launch) (p : Program) (e : Env) (R : Room) (s : State) (m : MethodId) (args : Array Value) (below : List Frame) (meth : Method) (c : Code) (Qw : State → Prop) (H : Heap) (locs : List Loc) (cells slots : Nat) (ls : Array Slot) (mc ms : Nat),
    zF X M D cy b0 cs p R s m args meth c d → zS D cy b0 cs s n h H locs cells → zL b0 cs ls M.2.2.1 L → cells + k = mc → slots + q ≤ ms → mc ≤ R.cells → ms ≤ R.slots →
    (∀ (r : Option Value) (n' : Nat) (h' : zH) (H' : Heap) (locs' : List Loc) (slots' pc' : Nat) (ls' : Array Slot), Q r n' h' → zS D cy b0 cs s n' h' H' locs' mc → slots' ≤ ms → zend M pc' r → W p l e R s m args below meth c H' locs' mc slots' Qw (F0 m pc' ls' r.toList)) →
    W p l e R s m args below meth c H locs cells slots Qw (F0 m pc ls (S.map (ztr b0 cs)))
