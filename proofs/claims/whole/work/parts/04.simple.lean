theorem z_iadd {X : zX} {M : zM} {d k q pc : Nat} {L S : List Value} {n : Nat} {h : zH} {Q : zQ} {x y : Int32} (hd : decode M.2.1 pc = .ok (.iadd, 1))  (kk : zJ X M d k q (pc + 1) L (.int (x + y) :: S) n h Q) : zJ X M d k q pc L (.int y :: .int x :: S) n h Q := by
  intro D cy b0 cs l p e R s m args below meth c Qw H locs cells slots ls mc ms hF hS hL h1 h2 h3 h4 hf
  exact lv_iadd hF.1 hF.2.1 hd  (kk D cy b0 cs l p e R s m args below meth c Qw H locs cells slots ls mc ms hF hS hL h1 h2 h3 h4 hf)
theorem z_isub {X : zX} {M : zM} {d k q pc : Nat} {L S : List Value} {n : Nat} {h : zH} {Q : zQ} {x y : Int32} (hd : decode M.2.1 pc = .ok (.isub, 1))  (kk : zJ X M d k q (pc + 1) L (.int (x - y) :: S) n h Q) : zJ X M d k q pc L (.int y :: .int x :: S) n h Q := by
  intro D cy b0 cs l p e R s m args below meth c Qw H locs cells slots ls mc ms hF hS hL h1 h2 h3 h4 hf
  exact lv_isub hF.1 hF.2.1 hd  (kk D cy b0 cs l p e R s m args below meth c Qw H locs cells slots ls mc ms hF hS hL h1 h2 h3 h4 hf)
theorem z_imul {X : zX} {M : zM} {d k q pc : Nat} {L S : List Value} {n : Nat} {h : zH} {Q : zQ} {x y : Int32} (hd : decode M.2.1 pc = .ok (.imul, 1))  (kk : zJ X M d k q (pc + 1) L (.int (x * y) :: S) n h Q) : zJ X M d k q pc L (.int y :: .int x :: S) n h Q := by
  intro D cy b0 cs l p e R s m args below meth c Qw H locs cells slots ls mc ms hF hS hL h1 h2 h3 h4 hf
  exact lv_imul hF.1 hF.2.1 hd  (kk D cy b0 cs l p e R s m args below meth c Qw H locs cells slots ls mc ms hF hS hL h1 h2 h3 h4 hf)
theorem z_iand {X : zX} {M : zM} {d k q pc : Nat} {L S : List Value} {n : Nat} {h : zH} {Q : zQ} {x y : Int32} (hd : decode M.2.1 pc = .ok (.iand, 1))  (kk : zJ X M d k q (pc + 1) L (.int (x &&& y) :: S) n h Q) : zJ X M d k q pc L (.int y :: .int x :: S) n h Q := by
  intro D cy b0 cs l p e R s m args below meth c Qw H locs cells slots ls mc ms hF hS hL h1 h2 h3 h4 hf
  exact lv_iand hF.1 hF.2.1 hd  (kk D cy b0 cs l p e R s m args below meth c Qw H locs cells slots ls mc ms hF hS hL h1 h2 h3 h4 hf)
theorem z_ior {X : zX} {M : zM} {d k q pc : Nat} {L S : List Value} {n : Nat} {h : zH} {Q : zQ} {x y : Int32} (hd : decode M.2.1 pc = .ok (.ior, 1))  (kk : zJ X M d k q (pc + 1) L (.int (x ||| y) :: S) n h Q) : zJ X M d k q pc L (.int y :: .int x :: S) n h Q := by
  intro D cy b0 cs l p e R s m args below meth c Qw H locs cells slots ls mc ms hF hS hL h1 h2 h3 h4 hf
  exact lv_ior hF.1 hF.2.1 hd  (kk D cy b0 cs l p e R s m args below meth c Qw H locs cells slots ls mc ms hF hS hL h1 h2 h3 h4 hf)
theorem z_ixor {X : zX} {M : zM} {d k q pc : Nat} {L S : List Value} {n : Nat} {h : zH} {Q : zQ} {x y : Int32} (hd : decode M.2.1 pc = .ok (.ixor, 1))  (kk : zJ X M d k q (pc + 1) L (.int (x ^^^ y) :: S) n h Q) : zJ X M d k q pc L (.int y :: .int x :: S) n h Q := by
  intro D cy b0 cs l p e R s m args below meth c Qw H locs cells slots ls mc ms hF hS hL h1 h2 h3 h4 hf
  exact lv_ixor hF.1 hF.2.1 hd  (kk D cy b0 cs l p e R s m args below meth c Qw H locs cells slots ls mc ms hF hS hL h1 h2 h3 h4 hf)
theorem z_ishl {X : zX} {M : zM} {d k q pc : Nat} {L S : List Value} {n : Nat} {h : zH} {Q : zQ} {x y : Int32} (hd : decode M.2.1 pc = .ok (.ishl, 1))  (kk : zJ X M d k q (pc + 1) L (.int (x <<< (y &&& 31)) :: S) n h Q) : zJ X M d k q pc L (.int y :: .int x :: S) n h Q := by
  intro D cy b0 cs l p e R s m args below meth c Qw H locs cells slots ls mc ms hF hS hL h1 h2 h3 h4 hf
  exact lv_ishl hF.1 hF.2.1 hd  (kk D cy b0 cs l p e R s m args below meth c Qw H locs cells slots ls mc ms hF hS hL h1 h2 h3 h4 hf)
theorem z_ishr {X : zX} {M : zM} {d k q pc : Nat} {L S : List Value} {n : Nat} {h : zH} {Q : zQ} {x y : Int32} (hd : decode M.2.1 pc = .ok (.ishr, 1))  (kk : zJ X M d k q (pc + 1) L (.int (x >>> (y &&& 31)) :: S) n h Q) : zJ X M d k q pc L (.int y :: .int x :: S) n h Q := by
  intro D cy b0 cs l p e R s m args below meth c Qw H locs cells slots ls mc ms hF hS hL h1 h2 h3 h4 hf
  exact lv_ishr hF.1 hF.2.1 hd  (kk D cy b0 cs l p e R s m args below meth c Qw H locs cells slots ls mc ms hF hS hL h1 h2 h3 h4 hf)
theorem z_idiv {X : zX} {M : zM} {d k q pc : Nat} {L S : List Value} {n : Nat} {h : zH} {Q : zQ} {x y : Int32} (hd : decode M.2.1 pc = .ok (.idiv, 1)) (hne : ¬ y = 0) (kk : zJ X M d k q (pc + 1) L (.int (x / y) :: S) n h Q) : zJ X M d k q pc L (.int y :: .int x :: S) n h Q := by
  intro D cy b0 cs l p e R s m args below meth c Qw H locs cells slots ls mc ms hF hS hL h1 h2 h3 h4 hf
  exact lv_idiv hF.1 hF.2.1 hd hne (kk D cy b0 cs l p e R s m args below meth c Qw H locs cells slots ls mc ms hF hS hL h1 h2 h3 h4 hf)
theorem z_irem {X : zX} {M : zM} {d k q pc : Nat} {L S : List Value} {n : Nat} {h : zH} {Q : zQ} {x y : Int32} (hd : decode M.2.1 pc = .ok (.irem, 1)) (hne : ¬ y = 0) (kk : zJ X M d k q (pc + 1) L (.int (x - x / y * y) :: S) n h Q) : zJ X M d k q pc L (.int y :: .int x :: S) n h Q := by
  intro D cy b0 cs l p e R s m args below meth c Qw H locs cells slots ls mc ms hF hS hL h1 h2 h3 h4 hf
  exact lv_irem hF.1 hF.2.1 hd hne (kk D cy b0 cs l p e R s m args below meth c Qw H locs cells slots ls mc ms hF hS hL h1 h2 h3 h4 hf)
theorem z_ladd {X : zX} {M : zM} {d k q pc : Nat} {L S : List Value} {n : Nat} {h : zH} {Q : zQ} {x y : Int64} (hd : decode M.2.1 pc = .ok (.ladd, 1))  (kk : zJ X M d k q (pc + 1) L (.long (x + y) :: S) n h Q) : zJ X M d k q pc L (.long y :: .long x :: S) n h Q := by
  intro D cy b0 cs l p e R s m args below meth c Qw H locs cells slots ls mc ms hF hS hL h1 h2 h3 h4 hf
  exact lv_ladd hF.1 hF.2.1 hd  (kk D cy b0 cs l p e R s m args below meth c Qw H locs cells slots ls mc ms hF hS hL h1 h2 h3 h4 hf)
theorem z_lsub {X : zX} {M : zM} {d k q pc : Nat} {L S : List Value} {n : Nat} {h : zH} {Q : zQ} {x y : Int64} (hd : decode M.2.1 pc = .ok (.lsub, 1))  (kk : zJ X M d k q (pc + 1) L (.long (x - y) :: S) n h Q) : zJ X M d k q pc L (.long y :: .long x :: S) n h Q := by
  intro D cy b0 cs l p e R s m args below meth c Qw H locs cells slots ls mc ms hF hS hL h1 h2 h3 h4 hf
  exact lv_lsub hF.1 hF.2.1 hd  (kk D cy b0 cs l p e R s m args below meth c Qw H locs cells slots ls mc ms hF hS hL h1 h2 h3 h4 hf)
theorem z_lmul {X : zX} {M : zM} {d k q pc : Nat} {L S : List Value} {n : Nat} {h : zH} {Q : zQ} {x y : Int64} (hd : decode M.2.1 pc = .ok (.lmul, 1))  (kk : zJ X M d k q (pc + 1) L (.long (x * y) :: S) n h Q) : zJ X M d k q pc L (.long y :: .long x :: S) n h Q := by
  intro D cy b0 cs l p e R s m args below meth c Qw H locs cells slots ls mc ms hF hS hL h1 h2 h3 h4 hf
  exact lv_lmul hF.1 hF.2.1 hd  (kk D cy b0 cs l p e R s m args below meth c Qw H locs cells slots ls mc ms hF hS hL h1 h2 h3 h4 hf)
theorem z_land {X : zX} {M : zM} {d k q pc : Nat} {L S : List Value} {n : Nat} {h : zH} {Q : zQ} {x y : Int64} (hd : decode M.2.1 pc = .ok (.land, 1))  (kk : zJ X M d k q (pc + 1) L (.long (x &&& y) :: S) n h Q) : zJ X M d k q pc L (.long y :: .long x :: S) n h Q := by
  intro D cy b0 cs l p e R s m args below meth c Qw H locs cells slots ls mc ms hF hS hL h1 h2 h3 h4 hf
  exact lv_land hF.1 hF.2.1 hd  (kk D cy b0 cs l p e R s m args below meth c Qw H locs cells slots ls mc ms hF hS hL h1 h2 h3 h4 hf)
theorem z_lor {X : zX} {M : zM} {d k q pc : Nat} {L S : List Value} {n : Nat} {h : zH} {Q : zQ} {x y : Int64} (hd : decode M.2.1 pc = .ok (.lor, 1))  (kk : zJ X M d k q (pc + 1) L (.long (x ||| y) :: S) n h Q) : zJ X M d k q pc L (.long y :: .long x :: S) n h Q := by
  intro D cy b0 cs l p e R s m args below meth c Qw H locs cells slots ls mc ms hF hS hL h1 h2 h3 h4 hf
  exact lv_lor hF.1 hF.2.1 hd  (kk D cy b0 cs l p e R s m args below meth c Qw H locs cells slots ls mc ms hF hS hL h1 h2 h3 h4 hf)
theorem z_ldiv {X : zX} {M : zM} {d k q pc : Nat} {L S : List Value} {n : Nat} {h : zH} {Q : zQ} {x y : Int64} (hd : decode M.2.1 pc = .ok (.ldiv, 1)) (hne : ¬ y = 0) (kk : zJ X M d k q (pc + 1) L (.long (x / y) :: S) n h Q) : zJ X M d k q pc L (.long y :: .long x :: S) n h Q := by
  intro D cy b0 cs l p e R s m args below meth c Qw H locs cells slots ls mc ms hF hS hL h1 h2 h3 h4 hf
  exact lv_ldiv hF.1 hF.2.1 hd hne (kk D cy b0 cs l p e R s m args below meth c Qw H locs cells slots ls mc ms hF hS hL h1 h2 h3 h4 hf)
theorem z_lrem {X : zX} {M : zM} {d k q pc : Nat} {L S : List Value} {n : Nat} {h : zH} {Q : zQ} {x y : Int64} (hd : decode M.2.1 pc = .ok (.lrem, 1)) (hne : ¬ y = 0) (kk : zJ X M d k q (pc + 1) L (.long (x - x / y * y) :: S) n h Q) : zJ X M d k q pc L (.long y :: .long x :: S) n h Q := by
  intro D cy b0 cs l p e R s m args below meth c Qw H locs cells slots ls mc ms hF hS hL h1 h2 h3 h4 hf
  exact lv_lrem hF.1 hF.2.1 hd hne (kk D cy b0 cs l p e R s m args below meth c Qw H locs cells slots ls mc ms hF hS hL h1 h2 h3 h4 hf)
theorem z_ineg {X : zX} {M : zM} {d k q pc : Nat} {L S : List Value} {n : Nat} {h : zH} {Q : zQ} {x : Int32} (hd : decode M.2.1 pc = .ok (.ineg, 1))  (kk : zJ X M d k q (pc + 1) L (.int (-x) :: S) n h Q) : zJ X M d k q pc L (.int x :: S) n h Q := by
  intro D cy b0 cs l p e R s m args below meth c Qw H locs cells slots ls mc ms hF hS hL h1 h2 h3 h4 hf
  exact lv_ineg hF.1 hF.2.1 hd  (kk D cy b0 cs l p e R s m args below meth c Qw H locs cells slots ls mc ms hF hS hL h1 h2 h3 h4 hf)
theorem z_i2l {X : zX} {M : zM} {d k q pc : Nat} {L S : List Value} {n : Nat} {h : zH} {Q : zQ} {x : Int32} (hd : decode M.2.1 pc = .ok (.i2l, 1))  (kk : zJ X M d k q (pc + 1) L (.long x.toInt64 :: S) n h Q) : zJ X M d k q pc L (.int x :: S) n h Q := by
  intro D cy b0 cs l p e R s m args below meth c Qw H locs cells slots ls mc ms hF hS hL h1 h2 h3 h4 hf
  exact lv_i2l hF.1 hF.2.1 hd rfl (kk D cy b0 cs l p e R s m args below meth c Qw H locs cells slots ls mc ms hF hS hL h1 h2 h3 h4 hf)
theorem z_l2i {X : zX} {M : zM} {d k q pc : Nat} {L S : List Value} {n : Nat} {h : zH} {Q : zQ} {x : Int64} (hd : decode M.2.1 pc = .ok (.l2i, 1))  (kk : zJ X M d k q (pc + 1) L (.int x.toInt32 :: S) n h Q) : zJ X M d k q pc L (.long x :: S) n h Q := by
  intro D cy b0 cs l p e R s m args below meth c Qw H locs cells slots ls mc ms hF hS hL h1 h2 h3 h4 hf
  exact lv_l2i hF.1 hF.2.1 hd rfl (kk D cy b0 cs l p e R s m args below meth c Qw H locs cells slots ls mc ms hF hS hL h1 h2 h3 h4 hf)
theorem z_iushr {X : zX} {M : zM} {d k q pc : Nat} {L S : List Value} {n : Nat} {h : zH} {Q : zQ} {x y : Int32} (hd : decode M.2.1 pc = .ok (.iushr, 1))  (kk : zJ X M d k q (pc + 1) L (.int (x.toUInt32 >>> (y.toUInt32 &&& Int32.toUInt32 31)).toInt32 :: S) n h Q) : zJ X M d k q pc L (.int y :: .int x :: S) n h Q := by
  intro D cy b0 cs l p e R s m args below meth c Qw H locs cells slots ls mc ms hF hS hL h1 h2 h3 h4 hf
  exact lv_iushr hF.1 hF.2.1 hd rfl (kk D cy b0 cs l p e R s m args below meth c Qw H locs cells slots ls mc ms hF hS hL h1 h2 h3 h4 hf)
theorem z_lushr {X : zX} {M : zM} {d k q pc : Nat} {L S : List Value} {n : Nat} {h : zH} {Q : zQ} {x : Int64} {y : Int32} (hd : decode M.2.1 pc = .ok (.lushr, 1))  (kk : zJ X M d k q (pc + 1) L (.long (x.toUInt64 >>> (y.toInt64.toUInt64 &&& Int64.toUInt64 63)).toInt64 :: S) n h Q) : zJ X M d k q pc L (.int y :: .long x :: S) n h Q := by
  intro D cy b0 cs l p e R s m args below meth c Qw H locs cells slots ls mc ms hF hS hL h1 h2 h3 h4 hf
  exact lv_lushr hF.1 hF.2.1 hd rfl (kk D cy b0 cs l p e R s m args below meth c Qw H locs cells slots ls mc ms hF hS hL h1 h2 h3 h4 hf)
theorem z_lshl {X : zX} {M : zM} {d k q pc : Nat} {L S : List Value} {n : Nat} {h : zH} {Q : zQ} {x : Int64} {y : Int32} (hd : decode M.2.1 pc = .ok (.lshl, 1))  (kk : zJ X M d k q (pc + 1) L (.long (x <<< (y.toInt64 &&& 63)) :: S) n h Q) : zJ X M d k q pc L (.int y :: .long x :: S) n h Q := by
  intro D cy b0 cs l p e R s m args below meth c Qw H locs cells slots ls mc ms hF hS hL h1 h2 h3 h4 hf
  exact lv_lshl hF.1 hF.2.1 hd rfl (kk D cy b0 cs l p e R s m args below meth c Qw H locs cells slots ls mc ms hF hS hL h1 h2 h3 h4 hf)
theorem z_lcmp {X : zX} {M : zM} {d k q pc : Nat} {L S : List Value} {n : Nat} {h : zH} {Q : zQ} {x y : Int64} (hd : decode M.2.1 pc = .ok (.lcmp, 1))  (kk : zJ X M d k q (pc + 1) L (.int (lg_cmp x y) :: S) n h Q) : zJ X M d k q pc L (.long y :: .long x :: S) n h Q := by
  intro D cy b0 cs l p e R s m args below meth c Qw H locs cells slots ls mc ms hF hS hL h1 h2 h3 h4 hf
  exact W.lcmp hF.1 hF.2.1 hd  (kk D cy b0 cs l p e R s m args below meth c Qw H locs cells slots ls mc ms hF hS hL h1 h2 h3 h4 hf)
theorem z_iconst {X : zX} {M : zM} {d k q pc : Nat} {L S : List Value} {n : Nat} {h : zH} {Q : zQ} {z : Int} {v : Int32} (hd : decode M.2.1 pc = .ok (.iconst z, 1)) (hv : Int32.ofInt z = v) (kk : zJ X M d k q (pc + 1) L (.int v :: S) n h Q) : zJ X M d k q pc L S n h Q := by
  intro D cy b0 cs l p e R s m args below meth c Qw H locs cells slots ls mc ms hF hS hL h1 h2 h3 h4 hf
  exact lv_iconst hF.1 hF.2.1 hd hv (kk D cy b0 cs l p e R s m args below meth c Qw H locs cells slots ls mc ms hF hS hL h1 h2 h3 h4 hf)
theorem z_bipush {X : zX} {M : zM} {d k q pc : Nat} {L S : List Value} {n : Nat} {h : zH} {Q : zQ} {z : Int} {v : Int32} (hd : decode M.2.1 pc = .ok (.bipush z, 2)) (hv : (Int8.ofInt z).toInt32 = v) (kk : zJ X M d k q (pc + 2) L (.int v :: S) n h Q) : zJ X M d k q pc L S n h Q := by
  intro D cy b0 cs l p e R s m args below meth c Qw H locs cells slots ls mc ms hF hS hL h1 h2 h3 h4 hf
  exact lv_bipush hF.1 hF.2.1 hd hv (kk D cy b0 cs l p e R s m args below meth c Qw H locs cells slots ls mc ms hF hS hL h1 h2 h3 h4 hf)
theorem z_sipush {X : zX} {M : zM} {d k q pc : Nat} {L S : List Value} {n : Nat} {h : zH} {Q : zQ} {z : Int} {v : Int32} (hd : decode M.2.1 pc = .ok (.sipush z, 3)) (hv : (Int16.ofInt z).toInt32 = v) (kk : zJ X M d k q (pc + 3) L (.int v :: S) n h Q) : zJ X M d k q pc L S n h Q := by
  intro D cy b0 cs l p e R s m args below meth c Qw H locs cells slots ls mc ms hF hS hL h1 h2 h3 h4 hf
  exact lv_sipush hF.1 hF.2.1 hd hv (kk D cy b0 cs l p e R s m args below meth c Qw H locs cells slots ls mc ms hF hS hL h1 h2 h3 h4 hf)
theorem z_lconst {X : zX} {M : zM} {d k q pc : Nat} {L S : List Value} {n : Nat} {h : zH} {Q : zQ} {z : Fin 2} {v : Int64} (hd : decode M.2.1 pc = .ok (.lconst z, 1)) (hv : Int64.ofNat (z : Nat) = v) (kk : zJ X M d k q (pc + 1) L (.long v :: S) n h Q) : zJ X M d k q pc L S n h Q := by
  intro D cy b0 cs l p e R s m args below meth c Qw H locs cells slots ls mc ms hF hS hL h1 h2 h3 h4 hf
  exact lv_lconst hF.1 hF.2.1 hd hv (kk D cy b0 cs l p e R s m args below meth c Qw H locs cells slots ls mc ms hF hS hL h1 h2 h3 h4 hf)
theorem z_dup {X : zX} {M : zM} {d k q pc : Nat} {L S : List Value} {n : Nat} {h : zH} {Q : zQ} {va : Value} (hd : decode M.2.1 pc = .ok (.dup, 1)) (hva : va.category = 1) (kk : zJ X M d k q (pc + 1) L (va :: va :: S) n h Q) : zJ X M d k q pc L (va :: S) n h Q := by
  intro D cy b0 cs l p e R s m args below meth c Qw H locs cells slots ls mc ms hF hS hL h1 h2 h3 h4 hf
  exact lv_dup hF.1 hF.2.1 hd (by rw [ztr_cat]; exact hva) (kk D cy b0 cs l p e R s m args below meth c Qw H locs cells slots ls mc ms hF hS hL h1 h2 h3 h4 hf)
theorem z_pop {X : zX} {M : zM} {d k q pc : Nat} {L S : List Value} {n : Nat} {h : zH} {Q : zQ} {va : Value} (hd : decode M.2.1 pc = .ok (.pop, 1)) (hva : va.category = 1) (kk : zJ X M d k q (pc + 1) L S n h Q) : zJ X M d k q pc L (va :: S) n h Q := by
  intro D cy b0 cs l p e R s m args below meth c Qw H locs cells slots ls mc ms hF hS hL h1 h2 h3 h4 hf
  exact lv_pop hF.1 hF.2.1 hd (by rw [ztr_cat]; exact hva) (kk D cy b0 cs l p e R s m args below meth c Qw H locs cells slots ls mc ms hF hS hL h1 h2 h3 h4 hf)
theorem z_dup2 {X : zX} {M : zM} {d k q pc : Nat} {L S : List Value} {n : Nat} {h : zH} {Q : zQ} {va vb : Value} (hd : decode M.2.1 pc = .ok (.dup2, 1)) (hva : va.category = 1) (hvb : vb.category = 1) (kk : zJ X M d k q (pc + 1) L (va :: vb :: va :: vb :: S) n h Q) : zJ X M d k q pc L (va :: vb :: S) n h Q := by
  intro D cy b0 cs l p e R s m args below meth c Qw H locs cells slots ls mc ms hF hS hL h1 h2 h3 h4 hf
  exact lv_dup2_11 hF.1 hF.2.1 hd (by rw [ztr_cat]; exact hva) (by rw [ztr_cat]; exact hvb) (kk D cy b0 cs l p e R s m args below meth c Qw H locs cells slots ls mc ms hF hS hL h1 h2 h3 h4 hf)
theorem z_if_eq {X : zX} {M : zM} {d k q pc : Nat} {L S : List Value} {n : Nat} {h : zH} {Q : zQ} {x : Int32} {off : Int} {tgt : Nat} (hd : decode M.2.1 pc = .ok (.ifCond .eq off, 3)) (ht : (pc : Int) + off = (tgt : Int)) (kt : x = 0 → zJ X M d k q tgt L S n h Q) (kf : ¬ (x = 0) → zJ X M d k q (pc + 3) L S n h Q) : zJ X M d k q pc L (.int x :: S) n h Q := by
  intro D cy b0 cs l p e R s m args below meth c Qw H locs cells slots ls mc ms hF hS hL h1 h2 h3 h4 hf
  exact lv_if_eq hF.1 hF.2.1 hd ht (fun hc => kt hc D cy b0 cs l p e R s m args below meth c Qw H locs cells slots ls mc ms hF hS hL h1 h2 h3 h4 hf) (fun hc => kf hc D cy b0 cs l p e R s m args below meth c Qw H locs cells slots ls mc ms hF hS hL h1 h2 h3 h4 hf)
theorem z_icmp_eq {X : zX} {M : zM} {d k q pc : Nat} {L S : List Value} {n : Nat} {h : zH} {Q : zQ} {x y : Int32} {off : Int} {tgt : Nat} (hd : decode M.2.1 pc = .ok (.if_icmp .eq off, 3)) (ht : (pc : Int) + off = (tgt : Int)) (kt : x = y → zJ X M d k q tgt L S n h Q) (kf : ¬ (x = y) → zJ X M d k q (pc + 3) L S n h Q) : zJ X M d k q pc L (.int y :: .int x :: S) n h Q := by
  intro D cy b0 cs l p e R s m args below meth c Qw H locs cells slots ls mc ms hF hS hL h1 h2 h3 h4 hf
  exact lv_icmp_eq hF.1 hF.2.1 hd ht (fun hc => kt hc D cy b0 cs l p e R s m args below meth c Qw H locs cells slots ls mc ms hF hS hL h1 h2 h3 h4 hf) (fun hc => kf hc D cy b0 cs l p e R s m args below meth c Qw H locs cells slots ls mc ms hF hS hL h1 h2 h3 h4 hf)
theorem z_if_ne {X : zX} {M : zM} {d k q pc : Nat} {L S : List Value} {n : Nat} {h : zH} {Q : zQ} {x : Int32} {off : Int} {tgt : Nat} (hd : decode M.2.1 pc = .ok (.ifCond .ne off, 3)) (ht : (pc : Int) + off = (tgt : Int)) (kt : ¬ x = 0 → zJ X M d k q tgt L S n h Q) (kf : x = 0 → zJ X M d k q (pc + 3) L S n h Q) : zJ X M d k q pc L (.int x :: S) n h Q := by
  intro D cy b0 cs l p e R s m args below meth c Qw H locs cells slots ls mc ms hF hS hL h1 h2 h3 h4 hf
  exact lv_if_ne hF.1 hF.2.1 hd ht (fun hc => kt hc D cy b0 cs l p e R s m args below meth c Qw H locs cells slots ls mc ms hF hS hL h1 h2 h3 h4 hf) (fun hc => kf hc D cy b0 cs l p e R s m args below meth c Qw H locs cells slots ls mc ms hF hS hL h1 h2 h3 h4 hf)
theorem z_icmp_ne {X : zX} {M : zM} {d k q pc : Nat} {L S : List Value} {n : Nat} {h : zH} {Q : zQ} {x y : Int32} {off : Int} {tgt : Nat} (hd : decode M.2.1 pc = .ok (.if_icmp .ne off, 3)) (ht : (pc : Int) + off = (tgt : Int)) (kt : ¬ x = y → zJ X M d k q tgt L S n h Q) (kf : x = y → zJ X M d k q (pc + 3) L S n h Q) : zJ X M d k q pc L (.int y :: .int x :: S) n h Q := by
  intro D cy b0 cs l p e R s m args below meth c Qw H locs cells slots ls mc ms hF hS hL h1 h2 h3 h4 hf
  exact lv_icmp_ne hF.1 hF.2.1 hd ht (fun hc => kt hc D cy b0 cs l p e R s m args below meth c Qw H locs cells slots ls mc ms hF hS hL h1 h2 h3 h4 hf) (fun hc => kf hc D cy b0 cs l p e R s m args below meth c Qw H locs cells slots ls mc ms hF hS hL h1 h2 h3 h4 hf)
theorem z_if_lt {X : zX} {M : zM} {d k q pc : Nat} {L S : List Value} {n : Nat} {h : zH} {Q : zQ} {x : Int32} {off : Int} {tgt : Nat} (hd : decode M.2.1 pc = .ok (.ifCond .lt off, 3)) (ht : (pc : Int) + off = (tgt : Int)) (kt : x < 0 → zJ X M d k q tgt L S n h Q) (kf : ¬ (x < 0) → zJ X M d k q (pc + 3) L S n h Q) : zJ X M d k q pc L (.int x :: S) n h Q := by
  intro D cy b0 cs l p e R s m args below meth c Qw H locs cells slots ls mc ms hF hS hL h1 h2 h3 h4 hf
  exact lv_if_lt hF.1 hF.2.1 hd ht (fun hc => kt hc D cy b0 cs l p e R s m args below meth c Qw H locs cells slots ls mc ms hF hS hL h1 h2 h3 h4 hf) (fun hc => kf hc D cy b0 cs l p e R s m args below meth c Qw H locs cells slots ls mc ms hF hS hL h1 h2 h3 h4 hf)
theorem z_icmp_lt {X : zX} {M : zM} {d k q pc : Nat} {L S : List Value} {n : Nat} {h : zH} {Q : zQ} {x y : Int32} {off : Int} {tgt : Nat} (hd : decode M.2.1 pc = .ok (.if_icmp .lt off, 3)) (ht : (pc : Int) + off = (tgt : Int)) (kt : x < y → zJ X M d k q tgt L S n h Q) (kf : ¬ (x < y) → zJ X M d k q (pc + 3) L S n h Q) : zJ X M d k q pc L (.int y :: .int x :: S) n h Q := by
  intro D cy b0 cs l p e R s m args below meth c Qw H locs cells slots ls mc ms hF hS hL h1 h2 h3 h4 hf
  exact lv_icmp_lt hF.1 hF.2.1 hd ht (fun hc => kt hc D cy b0 cs l p e R s m args below meth c Qw H locs cells slots ls mc ms hF hS hL h1 h2 h3 h4 hf) (fun hc => kf hc D cy b0 cs l p e R s m args below meth c Qw H locs cells slots ls mc ms hF hS hL h1 h2 h3 h4 hf)
theorem z_if_ge {X : zX} {M : zM} {d k q pc : Nat} {L S : List Value} {n : Nat} {h : zH} {Q : zQ} {x : Int32} {off : Int} {tgt : Nat} (hd : decode M.2.1 pc = .ok (.ifCond .ge off, 3)) (ht : (pc : Int) + off = (tgt : Int)) (kt : 0 ≤ x → zJ X M d k q tgt L S n h Q) (kf : ¬ (0 ≤ x) → zJ X M d k q (pc + 3) L S n h Q) : zJ X M d k q pc L (.int x :: S) n h Q := by
  intro D cy b0 cs l p e R s m args below meth c Qw H locs cells slots ls mc ms hF hS hL h1 h2 h3 h4 hf
  exact lv_if_ge hF.1 hF.2.1 hd ht (fun hc => kt hc D cy b0 cs l p e R s m args below meth c Qw H locs cells slots ls mc ms hF hS hL h1 h2 h3 h4 hf) (fun hc => kf hc D cy b0 cs l p e R s m args below meth c Qw H locs cells slots ls mc ms hF hS hL h1 h2 h3 h4 hf)
theorem z_icmp_ge {X : zX} {M : zM} {d k q pc : Nat} {L S : List Value} {n : Nat} {h : zH} {Q : zQ} {x y : Int32} {off : Int} {tgt : Nat} (hd : decode M.2.1 pc = .ok (.if_icmp .ge off, 3)) (ht : (pc : Int) + off = (tgt : Int)) (kt : y ≤ x → zJ X M d k q tgt L S n h Q) (kf : ¬ (y ≤ x) → zJ X M d k q (pc + 3) L S n h Q) : zJ X M d k q pc L (.int y :: .int x :: S) n h Q := by
  intro D cy b0 cs l p e R s m args below meth c Qw H locs cells slots ls mc ms hF hS hL h1 h2 h3 h4 hf
  exact lv_icmp_ge hF.1 hF.2.1 hd ht (fun hc => kt hc D cy b0 cs l p e R s m args below meth c Qw H locs cells slots ls mc ms hF hS hL h1 h2 h3 h4 hf) (fun hc => kf hc D cy b0 cs l p e R s m args below meth c Qw H locs cells slots ls mc ms hF hS hL h1 h2 h3 h4 hf)
theorem z_if_gt {X : zX} {M : zM} {d k q pc : Nat} {L S : List Value} {n : Nat} {h : zH} {Q : zQ} {x : Int32} {off : Int} {tgt : Nat} (hd : decode M.2.1 pc = .ok (.ifCond .gt off, 3)) (ht : (pc : Int) + off = (tgt : Int)) (kt : 0 < x → zJ X M d k q tgt L S n h Q) (kf : ¬ (0 < x) → zJ X M d k q (pc + 3) L S n h Q) : zJ X M d k q pc L (.int x :: S) n h Q := by
  intro D cy b0 cs l p e R s m args below meth c Qw H locs cells slots ls mc ms hF hS hL h1 h2 h3 h4 hf
  exact lv_if_gt hF.1 hF.2.1 hd ht (fun hc => kt hc D cy b0 cs l p e R s m args below meth c Qw H locs cells slots ls mc ms hF hS hL h1 h2 h3 h4 hf) (fun hc => kf hc D cy b0 cs l p e R s m args below meth c Qw H locs cells slots ls mc ms hF hS hL h1 h2 h3 h4 hf)
theorem z_icmp_gt {X : zX} {M : zM} {d k q pc : Nat} {L S : List Value} {n : Nat} {h : zH} {Q : zQ} {x y : Int32} {off : Int} {tgt : Nat} (hd : decode M.2.1 pc = .ok (.if_icmp .gt off, 3)) (ht : (pc : Int) + off = (tgt : Int)) (kt : y < x → zJ X M d k q tgt L S n h Q) (kf : ¬ (y < x) → zJ X M d k q (pc + 3) L S n h Q) : zJ X M d k q pc L (.int y :: .int x :: S) n h Q := by
  intro D cy b0 cs l p e R s m args below meth c Qw H locs cells slots ls mc ms hF hS hL h1 h2 h3 h4 hf
  exact lv_icmp_gt hF.1 hF.2.1 hd ht (fun hc => kt hc D cy b0 cs l p e R s m args below meth c Qw H locs cells slots ls mc ms hF hS hL h1 h2 h3 h4 hf) (fun hc => kf hc D cy b0 cs l p e R s m args below meth c Qw H locs cells slots ls mc ms hF hS hL h1 h2 h3 h4 hf)
theorem z_if_le {X : zX} {M : zM} {d k q pc : Nat} {L S : List Value} {n : Nat} {h : zH} {Q : zQ} {x : Int32} {off : Int} {tgt : Nat} (hd : decode M.2.1 pc = .ok (.ifCond .le off, 3)) (ht : (pc : Int) + off = (tgt : Int)) (kt : x ≤ 0 → zJ X M d k q tgt L S n h Q) (kf : ¬ (x ≤ 0) → zJ X M d k q (pc + 3) L S n h Q) : zJ X M d k q pc L (.int x :: S) n h Q := by
  intro D cy b0 cs l p e R s m args below meth c Qw H locs cells slots ls mc ms hF hS hL h1 h2 h3 h4 hf
  exact lv_if_le hF.1 hF.2.1 hd ht (fun hc => kt hc D cy b0 cs l p e R s m args below meth c Qw H locs cells slots ls mc ms hF hS hL h1 h2 h3 h4 hf) (fun hc => kf hc D cy b0 cs l p e R s m args below meth c Qw H locs cells slots ls mc ms hF hS hL h1 h2 h3 h4 hf)
theorem z_icmp_le {X : zX} {M : zM} {d k q pc : Nat} {L S : List Value} {n : Nat} {h : zH} {Q : zQ} {x y : Int32} {off : Int} {tgt : Nat} (hd : decode M.2.1 pc = .ok (.if_icmp .le off, 3)) (ht : (pc : Int) + off = (tgt : Int)) (kt : x ≤ y → zJ X M d k q tgt L S n h Q) (kf : ¬ (x ≤ y) → zJ X M d k q (pc + 3) L S n h Q) : zJ X M d k q pc L (.int y :: .int x :: S) n h Q := by
  intro D cy b0 cs l p e R s m args below meth c Qw H locs cells slots ls mc ms hF hS hL h1 h2 h3 h4 hf
  exact lv_icmp_le hF.1 hF.2.1 hd ht (fun hc => kt hc D cy b0 cs l p e R s m args below meth c Qw H locs cells slots ls mc ms hF hS hL h1 h2 h3 h4 hf) (fun hc => kf hc D cy b0 cs l p e R s m args below meth c Qw H locs cells slots ls mc ms hF hS hL h1 h2 h3 h4 hf)
theorem z_goto {X : zX} {M : zM} {d k q pc : Nat} {L S : List Value} {n : Nat} {h : zH} {Q : zQ} {off : Int} {tgt : Nat} (hd : decode M.2.1 pc = .ok (.goto off, 3)) (ht : (pc : Int) + off = (tgt : Int)) (kk : zJ X M d k q tgt L S n h Q) : zJ X M d k q pc L S n h Q := by
  intro D cy b0 cs l p e R s m args below meth c Qw H locs cells slots ls mc ms hF hS hL h1 h2 h3 h4 hf
  exact lv_goto hF.1 hF.2.1 hd ht (kk D cy b0 cs l p e R s m args below meth c Qw H locs cells slots ls mc ms hF hS hL h1 h2 h3 h4 hf)
theorem z_iload {X : zX} {M : zM} {d k q pc : Nat} {L S : List Value} {n : Nat} {h : zH} {Q : zQ} {i : Nat} {x : Int32} (hd : decode M.2.1 pc = .ok (.iload i, 2)) (hx : L[i]? = some (.int x)) (kk : zJ X M d k q (pc + 2) L (.int x :: S) n h Q) : zJ X M d k q pc L S n h Q := by
  intro D cy b0 cs l p e R s m args below meth c Qw H locs cells slots ls mc ms hF hS hL h1 h2 h3 h4 hf
  exact lv_iload hF.1 hF.2.1 hd (hL.2.2.2 i _ hx (by intro z; cases z)) (kk D cy b0 cs l p e R s m args below meth c Qw H locs cells slots ls mc ms hF hS hL h1 h2 h3 h4 hf)
theorem z_iload_n {X : zX} {M : zM} {d k q pc : Nat} {L S : List Value} {n : Nat} {h : zH} {Q : zQ} {i : Fin 4} {x : Int32} (hd : decode M.2.1 pc = .ok (.iload_n i, 1)) (hx : L[(i : Nat)]? = some (.int x)) (kk : zJ X M d k q (pc + 1) L (.int x :: S) n h Q) : zJ X M d k q pc L S n h Q := by
  intro D cy b0 cs l p e R s m args below meth c Qw H locs cells slots ls mc ms hF hS hL h1 h2 h3 h4 hf
  exact lv_iload_n hF.1 hF.2.1 hd rfl (hL.2.2.2 i _ hx (by intro z; cases z)) (kk D cy b0 cs l p e R s m args below meth c Qw H locs cells slots ls mc ms hF hS hL h1 h2 h3 h4 hf)
theorem z_lload {X : zX} {M : zM} {d k q pc : Nat} {L S : List Value} {n : Nat} {h : zH} {Q : zQ} {i : Nat} {x : Int64} (hd : decode M.2.1 pc = .ok (.lload i, 2)) (hx : L[i]? = some (.long x)) (kk : zJ X M d k q (pc + 2) L (.long x :: S) n h Q) : zJ X M d k q pc L S n h Q := by
  intro D cy b0 cs l p e R s m args below meth c Qw H locs cells slots ls mc ms hF hS hL h1 h2 h3 h4 hf
  exact lv_lload hF.1 hF.2.1 hd (hL.2.2.2 i _ hx (by intro z; cases z)) (kk D cy b0 cs l p e R s m args below meth c Qw H locs cells slots ls mc ms hF hS hL h1 h2 h3 h4 hf)
theorem z_lload_n {X : zX} {M : zM} {d k q pc : Nat} {L S : List Value} {n : Nat} {h : zH} {Q : zQ} {i : Fin 4} {x : Int64} (hd : decode M.2.1 pc = .ok (.lload_n i, 1)) (hx : L[(i : Nat)]? = some (.long x)) (kk : zJ X M d k q (pc + 1) L (.long x :: S) n h Q) : zJ X M d k q pc L S n h Q := by
  intro D cy b0 cs l p e R s m args below meth c Qw H locs cells slots ls mc ms hF hS hL h1 h2 h3 h4 hf
  exact lv_lload_n hF.1 hF.2.1 hd rfl (hL.2.2.2 i _ hx (by intro z; cases z)) (kk D cy b0 cs l p e R s m args below meth c Qw H locs cells slots ls mc ms hF hS hL h1 h2 h3 h4 hf)
theorem z_aload {X : zX} {M : zM} {d k q pc : Nat} {L S : List Value} {n : Nat} {h : zH} {Q : zQ} {i x : Nat} (hd : decode M.2.1 pc = .ok (.aload i, 2)) (hx : L[i]? = some (.ref x)) (kk : zJ X M d k q (pc + 2) L (.ref x :: S) n h Q) : zJ X M d k q pc L S n h Q := by
  intro D cy b0 cs l p e R s m args below meth c Qw H locs cells slots ls mc ms hF hS hL h1 h2 h3 h4 hf
  exact lv_aload hF.1 hF.2.1 hd (hL.2.2.2 i _ hx (by intro z; cases z)) (kk D cy b0 cs l p e R s m args below meth c Qw H locs cells slots ls mc ms hF hS hL h1 h2 h3 h4 hf)
theorem z_aload_n {X : zX} {M : zM} {d k q pc : Nat} {L S : List Value} {n : Nat} {h : zH} {Q : zQ} {i : Fin 4} {x : Nat} (hd : decode M.2.1 pc = .ok (.aload_n i, 1)) (hx : L[(i : Nat)]? = some (.ref x)) (kk : zJ X M d k q (pc + 1) L (.ref x :: S) n h Q) : zJ X M d k q pc L S n h Q := by
  intro D cy b0 cs l p e R s m args below meth c Qw H locs cells slots ls mc ms hF hS hL h1 h2 h3 h4 hf
  exact lv_aload_n hF.1 hF.2.1 hd rfl (hL.2.2.2 i _ hx (by intro z; cases z)) (kk D cy b0 cs l p e R s m args below meth c Qw H locs cells slots ls mc ms hF hS hL h1 h2 h3 h4 hf)
