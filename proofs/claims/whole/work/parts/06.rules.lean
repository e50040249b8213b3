section EVR
variable {X : Cx} {M : Mi} {Q : Option Value → Hs → Prop} {kc ks : Nat} {S : Hs} {pc : Nat} {L st : List Value}
theorem ev_iconst {n : Int} {v : Int32} (hd : decode (mB M) pc = .ok (.iconst n, 1)) (hv : Int32.ofInt n = v) (k : Ev X M Q kc ks S (pc + 1) L (.int v :: st)) : Ev X M Q kc ks S pc L (st) := by
  intro p e R s m args below meth c H locs ls Qm hC hI hL hR
  exact lv_iconst hC.1 hC.2.1 hd hv (k p e R s m args below meth c H locs ls Qm hC hI hL hR)
theorem ev_bipush {n : Int} {v : Int32} (hd : decode (mB M) pc = .ok (.bipush n, 2)) (hv : (Int8.ofInt n).toInt32 = v) (k : Ev X M Q kc ks S (pc + 2) L (.int v :: st)) : Ev X M Q kc ks S pc L (st) := by
  intro p e R s m args below meth c H locs ls Qm hC hI hL hR
  exact lv_bipush hC.1 hC.2.1 hd hv (k p e R s m args below meth c H locs ls Qm hC hI hL hR)
theorem ev_sipush {n : Int} {v : Int32} (hd : decode (mB M) pc = .ok (.sipush n, 3)) (hv : (Int16.ofInt n).toInt32 = v) (k : Ev X M Q kc ks S (pc + 3) L (.int v :: st)) : Ev X M Q kc ks S pc L (st) := by
  intro p e R s m args below meth c H locs ls Qm hC hI hL hR
  exact lv_sipush hC.1 hC.2.1 hd hv (k p e R s m args below meth c H locs ls Qm hC hI hL hR)
theorem ev_lconst {n : Fin 2} {v : Int64} (hd : decode (mB M) pc = .ok (.lconst n, 1)) (hv : Int64.ofNat (n : Nat) = v) (k : Ev X M Q kc ks S (pc + 1) L (.long v :: st)) : Ev X M Q kc ks S pc L (st) := by
  intro p e R s m args below meth c H locs ls Qm hC hI hL hR
  exact lv_lconst hC.1 hC.2.1 hd hv (k p e R s m args below meth c H locs ls Qm hC hI hL hR)
theorem ev_iload_n {n : Fin 4} {x : Int32} (hd : decode (mB M) pc = .ok (.iload_n n, 1)) (hl : L[(n : Nat)]? = some (.int x)) (k : Ev X M Q kc ks S (pc + 1) L (.int x :: st)) : Ev X M Q kc ks S pc L (st) := by
  intro p e R s m args below meth c H locs ls Qm hC hI hL hR
  exact lv_iload_n hC.1 hC.2.1 hd rfl (hL.get hl rfl) (k p e R s m args below meth c H locs ls Qm hC hI hL hR)
theorem ev_iload {i : Nat} {x : Int32} (hd : decode (mB M) pc = .ok (.iload i, 2)) (hl : L[i]? = some (.int x)) (k : Ev X M Q kc ks S (pc + 2) L (.int x :: st)) : Ev X M Q kc ks S pc L (st) := by
  intro p e R s m args below meth c H locs ls Qm hC hI hL hR
  exact lv_iload hC.1 hC.2.1 hd (hL.get hl rfl) (k p e R s m args below meth c H locs ls Qm hC hI hL hR)
theorem ev_lload_n {n : Fin 4} {x : Int64} (hd : decode (mB M) pc = .ok (.lload_n n, 1)) (hl : L[(n : Nat)]? = some (.long x)) (k : Ev X M Q kc ks S (pc + 1) L (.long x :: st)) : Ev X M Q kc ks S pc L (st) := by
  intro p e R s m args below meth c H locs ls Qm hC hI hL hR
  exact lv_lload_n hC.1 hC.2.1 hd rfl (hL.get hl rfl) (k p e R s m args below meth c H locs ls Qm hC hI hL hR)
theorem ev_lload {i : Nat} {x : Int64} (hd : decode (mB M) pc = .ok (.lload i, 2)) (hl : L[i]? = some (.long x)) (k : Ev X M Q kc ks S (pc + 2) L (.long x :: st)) : Ev X M Q kc ks S pc L (st) := by
  intro p e R s m args below meth c H locs ls Qm hC hI hL hR
  exact lv_lload hC.1 hC.2.1 hd (hL.get hl rfl) (k p e R s m args below meth c H locs ls Qm hC hI hL hR)
theorem ev_aload_n {n : Fin 4} {x : Nat} (hd : decode (mB M) pc = .ok (.aload_n n, 1)) (hl : L[(n : Nat)]? = some (.ref x)) (k : Ev X M Q kc ks S (pc + 1) L (.ref x :: st)) : Ev X M Q kc ks S pc L (st) := by
  intro p e R s m args below meth c H locs ls Qm hC hI hL hR
  exact lv_aload_n hC.1 hC.2.1 hd rfl (hL.get hl rfl) (k p e R s m args below meth c H locs ls Qm hC hI hL hR)
theorem ev_aload {i : Nat} {x : Nat} (hd : decode (mB M) pc = .ok (.aload i, 2)) (hl : L[i]? = some (.ref x)) (k : Ev X M Q kc ks S (pc + 2) L (.ref x :: st)) : Ev X M Q kc ks S pc L (st) := by
  intro p e R s m args below meth c H locs ls Qm hC hI hL hR
  exact lv_aload hC.1 hC.2.1 hd (hL.get hl rfl) (k p e R s m args below meth c H locs ls Qm hC hI hL hR)
theorem ev_istore_n {n : Fin 4} {x : Int32} {L' : List Value} (hd : decode (mB M) pc = .ok (.istore_n n, 1)) (hi : (n : Nat) < mL M) (hL' : am_st1 L (n : Nat) (.int x) = L') (k : Ev X M Q kc ks S (pc + 1) L' st) : Ev X M Q kc ks S pc L (.int x :: st) := by
  intro p e R s m args below meth c H locs ls Qm hC hI hL hR
  exact lv_istore_n hC.1 hC.2.1 hd rfl hL.2 hi rfl (fun ls2 h2 => k p e R s m args below meth c H locs ls2 Qm hC hI (am_L.st1 hL.1 hL' h2) hR)
theorem ev_istore {i : Nat} {x : Int32} {L' : List Value} (hd : decode (mB M) pc = .ok (.istore i, 2)) (hi : i < mL M) (hL' : am_st1 L i (.int x) = L') (k : Ev X M Q kc ks S (pc + 2) L' st) : Ev X M Q kc ks S pc L (.int x :: st) := by
  intro p e R s m args below meth c H locs ls Qm hC hI hL hR
  exact lv_istore hC.1 hC.2.1 hd hL.2 hi rfl (fun ls2 h2 => k p e R s m args below meth c H locs ls2 Qm hC hI (am_L.st1 hL.1 hL' h2) hR)
theorem ev_astore_n {n : Fin 4} {x : Nat} {L' : List Value} (hd : decode (mB M) pc = .ok (.astore_n n, 1)) (hi : (n : Nat) < mL M) (hL' : am_st1 L (n : Nat) (.ref x) = L') (k : Ev X M Q kc ks S (pc + 1) L' st) : Ev X M Q kc ks S pc L (.ref x :: st) := by
  intro p e R s m args below meth c H locs ls Qm hC hI hL hR
  exact lv_astore_n hC.1 hC.2.1 hd rfl hL.2 hi rfl (fun ls2 h2 => k p e R s m args below meth c H locs ls2 Qm hC hI (am_L.st1 hL.1 hL' h2) hR)
theorem ev_astore {i : Nat} {x : Nat} {L' : List Value} (hd : decode (mB M) pc = .ok (.astore i, 2)) (hi : i < mL M) (hL' : am_st1 L i (.ref x) = L') (k : Ev X M Q kc ks S (pc + 2) L' st) : Ev X M Q kc ks S pc L (.ref x :: st) := by
  intro p e R s m args below meth c H locs ls Qm hC hI hL hR
  exact lv_astore hC.1 hC.2.1 hd hL.2 hi rfl (fun ls2 h2 => k p e R s m args below meth c H locs ls2 Qm hC hI (am_L.st1 hL.1 hL' h2) hR)
theorem ev_lstore_n {n : Fin 4} {x : Int64} {L' : List Value} (hd : decode (mB M) pc = .ok (.lstore_n n, 1)) (hi : (n : Nat) + 1 < mL M) (hL' : am_st2 L (n : Nat) (.long x) = L') (k : Ev X M Q kc ks S (pc + 1) L' st) : Ev X M Q kc ks S pc L (.long x :: st) := by
  intro p e R s m args below meth c H locs ls Qm hC hI hL hR
  exact lv_lstore_n hC.1 hC.2.1 hd rfl hL.2 hi rfl (fun ls2 h2 => k p e R s m args below meth c H locs ls2 Qm hC hI (am_L.st2 hL.1 hL' h2) hR)
theorem ev_lstore {i : Nat} {x : Int64} {L' : List Value} (hd : decode (mB M) pc = .ok (.lstore i, 2)) (hi : i + 1 < mL M) (hL' : am_st2 L i (.long x) = L') (k : Ev X M Q kc ks S (pc + 2) L' st) : Ev X M Q kc ks S pc L (.long x :: st) := by
  intro p e R s m args below meth c H locs ls Qm hC hI hL hR
  exact lv_lstore hC.1 hC.2.1 hd hL.2 hi rfl (fun ls2 h2 => k p e R s m args below meth c H locs ls2 Qm hC hI (am_L.st2 hL.1 hL' h2) hR)
theorem ev_iinc {i : Nat} {n : Int} {x v : Int32} {L' : List Value} (hd : decode (mB M) pc = .ok (.iinc i n, 3)) (hl : L[i]? = some (.int x)) (hv : x + Int32.ofInt n = v) (hL' : am_st1 L i (.int v) = L') (k : Ev X M Q kc ks S (pc + 3) L' st) : Ev X M Q kc ks S pc L st := by
  intro p e R s m args below meth c H locs ls Qm hC hI hL hR
  obtain ⟨j, hj⟩ := List.getElem?_of_mem ((am_al_mem L 0 i (.int x)).mpr ⟨i, by omega, hl, rfl⟩)
  exact lv_iinc hC.1 hC.2.1 hd hL.2 hj hv (hL.lt hl) rfl (fun ls2 h2 => k p e R s m args below meth c H locs ls2 Qm hC hI (am_L.st1 hL.1 hL' h2) hR)
theorem ev_iadd {x y : Int32} (hd : decode (mB M) pc = .ok (.iadd, 1)) (k : Ev X M Q kc ks S (pc + 1) L (.int (x + y) :: st)) : Ev X M Q kc ks S pc L (.int y :: .int x :: st) := by
  intro p e R s m args below meth c H locs ls Qm hC hI hL hR
  exact lv_iadd hC.1 hC.2.1 hd  (k p e R s m args below meth c H locs ls Qm hC hI hL hR)
theorem ev_isub {x y : Int32} (hd : decode (mB M) pc = .ok (.isub, 1)) (k : Ev X M Q kc ks S (pc + 1) L (.int (x - y) :: st)) : Ev X M Q kc ks S pc L (.int y :: .int x :: st) := by
  intro p e R s m args below meth c H locs ls Qm hC hI hL hR
  exact lv_isub hC.1 hC.2.1 hd  (k p e R s m args below meth c H locs ls Qm hC hI hL hR)
theorem ev_imul {x y : Int32} (hd : decode (mB M) pc = .ok (.imul, 1)) (k : Ev X M Q kc ks S (pc + 1) L (.int (x * y) :: st)) : Ev X M Q kc ks S pc L (.int y :: .int x :: st) := by
  intro p e R s m args below meth c H locs ls Qm hC hI hL hR
  exact lv_imul hC.1 hC.2.1 hd  (k p e R s m args below meth c H locs ls Qm hC hI hL hR)
theorem ev_iand {x y : Int32} (hd : decode (mB M) pc = .ok (.iand, 1)) (k : Ev X M Q kc ks S (pc + 1) L (.int (x &&& y) :: st)) : Ev X M Q kc ks S pc L (.int y :: .int x :: st) := by
  intro p e R s m args below meth c H locs ls Qm hC hI hL hR
  exact lv_iand hC.1 hC.2.1 hd  (k p e R s m args below meth c H locs ls Qm hC hI hL hR)
theorem ev_ior {x y : Int32} (hd : decode (mB M) pc = .ok (.ior, 1)) (k : Ev X M Q kc ks S (pc + 1) L (.int (x ||| y) :: st)) : Ev X M Q kc ks S pc L (.int y :: .int x :: st) := by
  intro p e R s m args below meth c H locs ls Qm hC hI hL hR
  exact lv_ior hC.1 hC.2.1 hd  (k p e R s m args below meth c H locs ls Qm hC hI hL hR)
theorem ev_ixor {x y : Int32} (hd : decode (mB M) pc = .ok (.ixor, 1)) (k : Ev X M Q kc ks S (pc + 1) L (.int (x ^^^ y) :: st)) : Ev X M Q kc ks S pc L (.int y :: .int x :: st) := by
  intro p e R s m args below meth c H locs ls Qm hC hI hL hR
  exact lv_ixor hC.1 hC.2.1 hd  (k p e R s m args below meth c H locs ls Qm hC hI hL hR)
theorem ev_ishl {x y : Int32} (hd : decode (mB M) pc = .ok (.ishl, 1)) (k : Ev X M Q kc ks S (pc + 1) L (.int (x <<< (y &&& 31)) :: st)) : Ev X M Q kc ks S pc L (.int y :: .int x :: st) := by
  intro p e R s m args below meth c H locs ls Qm hC hI hL hR
  exact lv_ishl hC.1 hC.2.1 hd  (k p e R s m args below meth c H locs ls Qm hC hI hL hR)
theorem ev_ishr {x y : Int32} (hd : decode (mB M) pc = .ok (.ishr, 1)) (k : Ev X M Q kc ks S (pc + 1) L (.int (x >>> (y &&& 31)) :: st)) : Ev X M Q kc ks S pc L (.int y :: .int x :: st) := by
  intro p e R s m args below meth c H locs ls Qm hC hI hL hR
  exact lv_ishr hC.1 hC.2.1 hd  (k p e R s m args below meth c H locs ls Qm hC hI hL hR)
theorem ev_idiv {x y : Int32} (hd : decode (mB M) pc = .ok (.idiv, 1)) (hne : ¬ y = 0) (k : Ev X M Q kc ks S (pc + 1) L (.int (x / y) :: st)) : Ev X M Q kc ks S pc L (.int y :: .int x :: st) := by
  intro p e R s m args below meth c H locs ls Qm hC hI hL hR
  exact lv_idiv hC.1 hC.2.1 hd hne (k p e R s m args below meth c H locs ls Qm hC hI hL hR)
theorem ev_irem {x y : Int32} (hd : decode (mB M) pc = .ok (.irem, 1)) (hne : ¬ y = 0) (k : Ev X M Q kc ks S (pc + 1) L (.int (x - x / y * y) :: st)) : Ev X M Q kc ks S pc L (.int y :: .int x :: st) := by
  intro p e R s m args below meth c H locs ls Qm hC hI hL hR
  exact lv_irem hC.1 hC.2.1 hd hne (k p e R s m args below meth c H locs ls Qm hC hI hL hR)
theorem ev_ladd {x y : Int64} (hd : decode (mB M) pc = .ok (.ladd, 1)) (k : Ev X M Q kc ks S (pc + 1) L (.long (x + y) :: st)) : Ev X M Q kc ks S pc L (.long y :: .long x :: st) := by
  intro p e R s m args below meth c H locs ls Qm hC hI hL hR
  exact lv_ladd hC.1 hC.2.1 hd  (k p e R s m args below meth c H locs ls Qm hC hI hL hR)
theorem ev_lsub {x y : Int64} (hd : decode (mB M) pc = .ok (.lsub, 1)) (k : Ev X M Q kc ks S (pc + 1) L (.long (x - y) :: st)) : Ev X M Q kc ks S pc L (.long y :: .long x :: st) := by
  intro p e R s m args below meth c H locs ls Qm hC hI hL hR
  exact lv_lsub hC.1 hC.2.1 hd  (k p e R s m args below meth c H locs ls Qm hC hI hL hR)
theorem ev_lmul {x y : Int64} (hd : decode (mB M) pc = .ok (.lmul, 1)) (k : Ev X M Q kc ks S (pc + 1) L (.long (x * y) :: st)) : Ev X M Q kc ks S pc L (.long y :: .long x :: st) := by
  intro p e R s m args below meth c H locs ls Qm hC hI hL hR
  exact lv_lmul hC.1 hC.2.1 hd  (k p e R s m args below meth c H locs ls Qm hC hI hL hR)
theorem ev_land {x y : Int64} (hd : decode (mB M) pc = .ok (.land, 1)) (k : Ev X M Q kc ks S (pc + 1) L (.long (x &&& y) :: st)) : Ev X M Q kc ks S pc L (.long y :: .long x :: st) := by
  intro p e R s m args below meth c H locs ls Qm hC hI hL hR
  exact lv_land hC.1 hC.2.1 hd  (k p e R s m args below meth c H locs ls Qm hC hI hL hR)
theorem ev_lor {x y : Int64} (hd : decode (mB M) pc = .ok (.lor, 1)) (k : Ev X M Q kc ks S (pc + 1) L (.long (x ||| y) :: st)) : Ev X M Q kc ks S pc L (.long y :: .long x :: st) := by
  intro p e R s m args below meth c H locs ls Qm hC hI hL hR
  exact lv_lor hC.1 hC.2.1 hd  (k p e R s m args below meth c H locs ls Qm hC hI hL hR)
theorem ev_ldiv {x y : Int64} (hd : decode (mB M) pc = .ok (.ldiv, 1)) (hne : ¬ y = 0) (k : Ev X M Q kc ks S (pc + 1) L (.long (x / y) :: st)) : Ev X M Q kc ks S pc L (.long y :: .long x :: st) := by
  intro p e R s m args below meth c H locs ls Qm hC hI hL hR
  exact lv_ldiv hC.1 hC.2.1 hd hne (k p e R s m args below meth c H locs ls Qm hC hI hL hR)
theorem ev_lrem {x y : Int64} (hd : decode (mB M) pc = .ok (.lrem, 1)) (hne : ¬ y = 0) (k : Ev X M Q kc ks S (pc + 1) L (.long (x - x / y * y) :: st)) : Ev X M Q kc ks S pc L (.long y :: .long x :: st) := by
  intro p e R s m args below meth c H locs ls Qm hC hI hL hR
  exact lv_lrem hC.1 hC.2.1 hd hne (k p e R s m args below meth c H locs ls Qm hC hI hL hR)
theorem ev_lcmp {x y : Int64} (hd : decode (mB M) pc = .ok (.lcmp, 1)) (k : Ev X M Q kc ks S (pc + 1) L (.int (lg_cmp x y) :: st)) : Ev X M Q kc ks S pc L (.long y :: .long x :: st) := by
  intro p e R s m args below meth c H locs ls Qm hC hI hL hR
  exact W.lcmp hC.1 hC.2.1 hd  (k p e R s m args below meth c H locs ls Qm hC hI hL hR)
theorem ev_iushr {x y v : Int32} (hd : decode (mB M) pc = .ok (.iushr, 1)) (hv : (x.toUInt32 >>> (y.toUInt32 &&& Int32.toUInt32 31)).toInt32 = v) (k : Ev X M Q kc ks S (pc + 1) L (.int v :: st)) : Ev X M Q kc ks S pc L (.int y :: .int x :: st) := by
  intro p e R s m args below meth c H locs ls Qm hC hI hL hR
  exact lv_iushr hC.1 hC.2.1 hd hv (k p e R s m args below meth c H locs ls Qm hC hI hL hR)
theorem ev_lushr {x v : Int64} {y : Int32} (hd : decode (mB M) pc = .ok (.lushr, 1)) (hv : (x.toUInt64 >>> (y.toInt64.toUInt64 &&& Int64.toUInt64 63)).toInt64 = v) (k : Ev X M Q kc ks S (pc + 1) L (.long v :: st)) : Ev X M Q kc ks S pc L (.int y :: .long x :: st) := by
  intro p e R s m args below meth c H locs ls Qm hC hI hL hR
  exact lv_lushr hC.1 hC.2.1 hd hv (k p e R s m args below meth c H locs ls Qm hC hI hL hR)
theorem ev_lshl {x v : Int64} {y : Int32} (hd : decode (mB M) pc = .ok (.lshl, 1)) (hv : x <<< (y.toInt64 &&& 63) = v) (k : Ev X M Q kc ks S (pc + 1) L (.long v :: st)) : Ev X M Q kc ks S pc L (.int y :: .long x :: st) := by
  intro p e R s m args below meth c H locs ls Qm hC hI hL hR
  exact lv_lshl hC.1 hC.2.1 hd hv (k p e R s m args below meth c H locs ls Qm hC hI hL hR)
theorem ev_i2l {x : Int32} (hd : decode (mB M) pc = .ok (.i2l, 1)) (k : Ev X M Q kc ks S (pc + 1) L (.long x.toInt64 :: st)) : Ev X M Q kc ks S pc L (.int x :: st) := by
  intro p e R s m args below meth c H locs ls Qm hC hI hL hR
  exact lv_i2l hC.1 hC.2.1 hd rfl (k p e R s m args below meth c H locs ls Qm hC hI hL hR)
theorem ev_l2i {x : Int64} (hd : decode (mB M) pc = .ok (.l2i, 1)) (k : Ev X M Q kc ks S (pc + 1) L (.int x.toInt32 :: st)) : Ev X M Q kc ks S pc L (.long x :: st) := by
  intro p e R s m args below meth c H locs ls Qm hC hI hL hR
  exact lv_l2i hC.1 hC.2.1 hd rfl (k p e R s m args below meth c H locs ls Qm hC hI hL hR)
theorem ev_i2b {x : Int32} (hd : decode (mB M) pc = .ok (.i2b, 1)) (k : Ev X M Q kc ks S (pc + 1) L (.int x.toInt8.toInt32 :: st)) : Ev X M Q kc ks S pc L (.int x :: st) := by
  intro p e R s m args below meth c H locs ls Qm hC hI hL hR
  exact lv_i2b hC.1 hC.2.1 hd rfl (k p e R s m args below meth c H locs ls Qm hC hI hL hR)
theorem ev_dup {va : Value} (hd : decode (mB M) pc = .ok (.dup, 1)) (hva : va.category = 1) (k : Ev X M Q kc ks S (pc + 1) L (va :: va :: st)) : Ev X M Q kc ks S pc L (va :: st) := by
  intro p e R s m args below meth c H locs ls Qm hC hI hL hR
  exact lv_dup hC.1 hC.2.1 hd hva (k p e R s m args below meth c H locs ls Qm hC hI hL hR)
theorem ev_pop {va : Value} (hd : decode (mB M) pc = .ok (.pop, 1)) (hva : va.category = 1) (k : Ev X M Q kc ks S (pc + 1) L (st)) : Ev X M Q kc ks S pc L (va :: st) := by
  intro p e R s m args below meth c H locs ls Qm hC hI hL hR
  exact lv_pop hC.1 hC.2.1 hd hva (k p e R s m args below meth c H locs ls Qm hC hI hL hR)
theorem ev_dup_x1 {va vb : Value} (hd : decode (mB M) pc = .ok (.dup_x1, 1)) (hva : va.category = 1) (hvb : vb.category = 1) (k : Ev X M Q kc ks S (pc + 1) L (va :: vb :: va :: st)) : Ev X M Q kc ks S pc L (va :: vb :: st) := by
  intro p e R s m args below meth c H locs ls Qm hC hI hL hR
  exact lv_dup_x1 hC.1 hC.2.1 hd hva hvb (k p e R s m args below meth c H locs ls Qm hC hI hL hR)
theorem ev_dup2 {va vb : Value} (hd : decode (mB M) pc = .ok (.dup2, 1)) (hva : va.category = 1) (hvb : vb.category = 1) (k : Ev X M Q kc ks S (pc + 1) L (va :: vb :: va :: vb :: st)) : Ev X M Q kc ks S pc L (va :: vb :: st) := by
  intro p e R s m args below meth c H locs ls Qm hC hI hL hR
  exact lv_dup2_11 hC.1 hC.2.1 hd hva hvb (k p e R s m args below meth c H locs ls Qm hC hI hL hR)
theorem ev_if_eq {x : Int32} {off : Int} (tgt : Nat) (hd : decode (mB M) pc = .ok (.ifCond .eq off, 3)) (ht : (pc : Int) + off = (tgt : Int)) (kt : x = 0 → Ev X M Q kc ks S tgt L st) (kf : ¬ x = 0 → Ev X M Q kc ks S (pc + 3) L st) : Ev X M Q kc ks S pc L (.int x :: st) := by
  intro p e R s m args below meth c H locs ls Qm hC hI hL hR
  exact lv_if_eq hC.1 hC.2.1 hd ht (fun q => kt q p e R s m args below meth c H locs ls Qm hC hI hL hR) (fun q => kf q p e R s m args below meth c H locs ls Qm hC hI hL hR)
theorem ev_icmp_eq {x y : Int32} {off : Int} (tgt : Nat) (hd : decode (mB M) pc = .ok (.if_icmp .eq off, 3)) (ht : (pc : Int) + off = (tgt : Int)) (kt : x = y → Ev X M Q kc ks S tgt L st) (kf : ¬ x = y → Ev X M Q kc ks S (pc + 3) L st) : Ev X M Q kc ks S pc L (.int y :: .int x :: st) := by
  intro p e R s m args below meth c H locs ls Qm hC hI hL hR
  exact lv_icmp_eq hC.1 hC.2.1 hd ht (fun q => kt q p e R s m args below meth c H locs ls Qm hC hI hL hR) (fun q => kf q p e R s m args below meth c H locs ls Qm hC hI hL hR)
theorem ev_if_ne {x : Int32} {off : Int} (tgt : Nat) (hd : decode (mB M) pc = .ok (.ifCond .ne off, 3)) (ht : (pc : Int) + off = (tgt : Int)) (kt : ¬ x = 0 → Ev X M Q kc ks S tgt L st) (kf : x = 0 → Ev X M Q kc ks S (pc + 3) L st) : Ev X M Q kc ks S pc L (.int x :: st) := by
  intro p e R s m args below meth c H locs ls Qm hC hI hL hR
  exact lv_if_ne hC.1 hC.2.1 hd ht (fun q => kt q p e R s m args below meth c H locs ls Qm hC hI hL hR) (fun q => kf q p e R s m args below meth c H locs ls Qm hC hI hL hR)
theorem ev_icmp_ne {x y : Int32} {off : Int} (tgt : Nat) (hd : decode (mB M) pc = .ok (.if_icmp .ne off, 3)) (ht : (pc : Int) + off = (tgt : Int)) (kt : ¬ x = y → Ev X M Q kc ks S tgt L st) (kf : x = y → Ev X M Q kc ks S (pc + 3) L st) : Ev X M Q kc ks S pc L (.int y :: .int x :: st) := by
  intro p e R s m args below meth c H locs ls Qm hC hI hL hR
  exact lv_icmp_ne hC.1 hC.2.1 hd ht (fun q => kt q p e R s m args below meth c H locs ls Qm hC hI hL hR) (fun q => kf q p e R s m args below meth c H locs ls Qm hC hI hL hR)
theorem ev_if_lt {x : Int32} {off : Int} (tgt : Nat) (hd : decode (mB M) pc = .ok (.ifCond .lt off, 3)) (ht : (pc : Int) + off = (tgt : Int)) (kt : x < 0 → Ev X M Q kc ks S tgt L st) (kf : ¬ x < 0 → Ev X M Q kc ks S (pc + 3) L st) : Ev X M Q kc ks S pc L (.int x :: st) := by
  intro p e R s m args below meth c H locs ls Qm hC hI hL hR
  exact lv_if_lt hC.1 hC.2.1 hd ht (fun q => kt q p e R s m args below meth c H locs ls Qm hC hI hL hR) (fun q => kf q p e R s m args below meth c H locs ls Qm hC hI hL hR)
theorem ev_icmp_lt {x y : Int32} {off : Int} (tgt : Nat) (hd : decode (mB M) pc = .ok (.if_icmp .lt off, 3)) (ht : (pc : Int) + off = (tgt : Int)) (kt : x < y → Ev X M Q kc ks S tgt L st) (kf : ¬ x < y → Ev X M Q kc ks S (pc + 3) L st) : Ev X M Q kc ks S pc L (.int y :: .int x :: st) := by
  intro p e R s m args below meth c H locs ls Qm hC hI hL hR
  exact lv_icmp_lt hC.1 hC.2.1 hd ht (fun q => kt q p e R s m args below meth c H locs ls Qm hC hI hL hR) (fun q => kf q p e R s m args below meth c H locs ls Qm hC hI hL hR)
theorem ev_if_ge {x : Int32} {off : Int} (tgt : Nat) (hd : decode (mB M) pc = .ok (.ifCond .ge off, 3)) (ht : (pc : Int) + off = (tgt : Int)) (kt : 0 ≤ x → Ev X M Q kc ks S tgt L st) (kf : ¬ 0 ≤ x → Ev X M Q kc ks S (pc + 3) L st) : Ev X M Q kc ks S pc L (.int x :: st) := by
  intro p e R s m args below meth c H locs ls Qm hC hI hL hR
  exact lv_if_ge hC.1 hC.2.1 hd ht (fun q => kt q p e R s m args below meth c H locs ls Qm hC hI hL hR) (fun q => kf q p e R s m args below meth c H locs ls Qm hC hI hL hR)
theorem ev_icmp_ge {x y : Int32} {off : Int} (tgt : Nat) (hd : decode (mB M) pc = .ok (.if_icmp .ge off, 3)) (ht : (pc : Int) + off = (tgt : Int)) (kt : y ≤ x → Ev X M Q kc ks S tgt L st) (kf : ¬ y ≤ x → Ev X M Q kc ks S (pc + 3) L st) : Ev X M Q kc ks S pc L (.int y :: .int x :: st) := by
  intro p e R s m args below meth c H locs ls Qm hC hI hL hR
  exact lv_icmp_ge hC.1 hC.2.1 hd ht (fun q => kt q p e R s m args below meth c H locs ls Qm hC hI hL hR) (fun q => kf q p e R s m args below meth c H locs ls Qm hC hI hL hR)
theorem ev_if_gt {x : Int32} {off : Int} (tgt : Nat) (hd : decode (mB M) pc = .ok (.ifCond .gt off, 3)) (ht : (pc : Int) + off = (tgt : Int)) (kt : 0 < x → Ev X M Q kc ks S tgt L st) (kf : ¬ 0 < x → Ev X M Q kc ks S (pc + 3) L st) : Ev X M Q kc ks S pc L (.int x :: st) := by
  intro p e R s m args below meth c H locs ls Qm hC hI hL hR
  exact lv_if_gt hC.1 hC.2.1 hd ht (fun q => kt q p e R s m args below meth c H locs ls Qm hC hI hL hR) (fun q => kf q p e R s m args below meth c H locs ls Qm hC hI hL hR)
theorem ev_icmp_gt {x y : Int32} {off : Int} (tgt : Nat) (hd : decode (mB M) pc = .ok (.if_icmp .gt off, 3)) (ht : (pc : Int) + off = (tgt : Int)) (kt : y < x → Ev X M Q kc ks S tgt L st) (kf : ¬ y < x → Ev X M Q kc ks S (pc + 3) L st) : Ev X M Q kc ks S pc L (.int y :: .int x :: st) := by
  intro p e R s m args below meth c H locs ls Qm hC hI hL hR
  exact lv_icmp_gt hC.1 hC.2.1 hd ht (fun q => kt q p e R s m args below meth c H locs ls Qm hC hI hL hR) (fun q => kf q p e R s m args below meth c H locs ls Qm hC hI hL hR)
theorem ev_if_le {x : Int32} {off : Int} (tgt : Nat) (hd : decode (mB M) pc = .ok (.ifCond .le off, 3)) (ht : (pc : Int) + off = (tgt : Int)) (kt : x ≤ 0 → Ev X M Q kc ks S tgt L st) (kf : ¬ x ≤ 0 → Ev X M Q kc ks S (pc + 3) L st) : Ev X M Q kc ks S pc L (.int x :: st) := by
  intro p e R s m args below meth c H locs ls Qm hC hI hL hR
  exact lv_if_le hC.1 hC.2.1 hd ht (fun q => kt q p e R s m args below meth c H locs ls Qm hC hI hL hR) (fun q => kf q p e R s m args below meth c H locs ls Qm hC hI hL hR)
theorem ev_icmp_le {x y : Int32} {off : Int} (tgt : Nat) (hd : decode (mB M) pc = .ok (.if_icmp .le off, 3)) (ht : (pc : Int) + off = (tgt : Int)) (kt : x ≤ y → Ev X M Q kc ks S tgt L st) (kf : ¬ x ≤ y → Ev X M Q kc ks S (pc + 3) L st) : Ev X M Q kc ks S pc L (.int y :: .int x :: st) := by
  intro p e R s m args below meth c H locs ls Qm hC hI hL hR
  exact lv_icmp_le hC.1 hC.2.1 hd ht (fun q => kt q p e R s m args below meth c H locs ls Qm hC hI hL hR) (fun q => kf q p e R s m args below meth c H locs ls Qm hC hI hL hR)
theorem ev_goto {off : Int} (tgt : Nat) (hd : decode (mB M) pc = .ok (.goto off, 3)) (ht : (pc : Int) + off = (tgt : Int)) (k : Ev X M Q kc ks S tgt L st) : Ev X M Q kc ks S pc L st := by
  intro p e R s m args below meth c H locs ls Qm hC hI hL hR
  exact lv_goto hC.1 hC.2.1 hd ht (k p e R s m args below meth c H locs ls Qm hC hI hL hR)
theorem ev_tableIn {dflt lo hi : Int} {offs : Array Int} {len : Nat} {x : Int32} {off : Int} (tgt : Nat) (hd : decode (mB M) pc = .ok (.tableswitch dflt lo hi offs, len)) (h1 : ¬ x.toInt < lo) (h2 : ¬ hi < x.toInt) (ho : offs[(x.toInt - lo).toNat]? = some off) (ht : (pc : Int) + off = (tgt : Int)) (k : Ev X M Q kc ks S tgt L st) : Ev X M Q kc ks S pc L (.int x :: st) := by
  intro p e R s m args below meth c H locs ls Qm hC hI hL hR
  exact lv_tableIn hC.1 hC.2.1 hd h1 h2 ho ht (k p e R s m args below meth c H locs ls Qm hC hI hL hR)
theorem ev_tableOut {dflt lo hi : Int} {offs : Array Int} {len : Nat} {x : Int32} (tgt : Nat) (hd : decode (mB M) pc = .ok (.tableswitch dflt lo hi offs, len)) (h : x.toInt < lo ∨ hi < x.toInt) (ht : (pc : Int) + dflt = (tgt : Int)) (k : Ev X M Q kc ks S tgt L st) : Ev X M Q kc ks S pc L (.int x :: st) := by
  intro p e R s m args below meth c H locs ls Qm hC hI hL hR
  exact lv_tableOut hC.1 hC.2.1 hd h ht (k p e R s m args below meth c H locs ls Qm hC hI hL hR)
theorem ev_lookup {dflt : Int} {ps : Array (Int × Int)} {len : Nat} {x : Int32} {off : Int} (tgt : Nat) (hd : decode (mB M) pc = .ok (.lookupswitch dflt ps, len)) (hp : (ps.toList.zip (ps.toList.drop 1)).all (fun (a, next) => a.1 < next.1) = true) (ho : Op.lookupswitch.offset ps.toList dflt x.toInt = off) (ht : (pc : Int) + off = (tgt : Int)) (k : Ev X M Q kc ks S tgt L st) : Ev X M Q kc ks S pc L (.int x :: st) := by
  intro p e R s m args below meth c H locs ls Qm hC hI hL hR
  exact lv_lookup hC.1 hC.2.1 hd hp ho ht (k p e R s m args below meth c H locs ls Qm hC hI hL hR)
theorem ev_ldc {idx : Nat} {v : Int32} (hd : decode (mB M) pc = .ok (.ldc idx, 2)) (hw : Jvm.Cond.constant (mO M) idx v ∈ am_T) (k : Ev X M Q kc ks S (pc + 2) L (.int v :: st)) : Ev X M Q kc ks S pc L st := by
  intro p e R s m args below meth c H locs ls Qm hC hI hL hR
  exact lv_ldc hC.1 hC.2.1 hC.2.2.2.1 (hC.2.2.2.2.1 _ hw) hd (k p e R s m args below meth c H locs ls Qm hC hI hL hR)
theorem ev_ldc_w {idx : Nat} {v : Int32} (hd : decode (mB M) pc = .ok (.ldc_w idx, 3)) (hw : Jvm.Cond.constant (mO M) idx v ∈ am_T) (k : Ev X M Q kc ks S (pc + 3) L (.int v :: st)) : Ev X M Q kc ks S pc L st := by
  intro p e R s m args below meth c H locs ls Qm hC hI hL hR
  exact lv_ldcw hC.1 hC.2.1 hC.2.2.2.1 (hC.2.2.2.2.1 _ hw) hd (k p e R s m args below meth c H locs ls Qm hC hI hL hR)
theorem ev_ldc2_w {idx : Nat} {v : Int64} (hd : decode (mB M) pc = .ok (.ldc2_w idx, 3)) (hw : Jvm.Cond.constantLong (mO M) idx v ∈ am_T) (k : Ev X M Q kc ks S (pc + 3) L (.long v :: st)) : Ev X M Q kc ks S pc L st := by
  intro p e R s m args below meth c H locs ls Qm hC hI hL hR
  exact lv_ldc2 hC.1 hC.2.1 hC.2.2.2.1 (hC.2.2.2.2.1 _ hw) hd (k p e R s m args below meth c H locs ls Qm hC hI hL hR)
theorem ev_iret {v : Int32} {ty : FieldType} (hd : decode (mB M) pc = .ok (.ireturn, 1)) (hr : mR M = some ty) (hn : narrow ty (.int v) = .int v) (hc : kc ≤ mC M) (hs : ks ≤ mS M) (hQ : Q (some (.int v)) S) : Ev X M Q kc ks S pc L [.int v] := by
  intro p e R s m args below meth c H locs ls Qm hC hI hL hR
  exact W.widen hc hs (hR (some (.int v)) S H locs pc ls hQ hI (Or.inr (Or.inl ⟨v, ty, rfl, hr, hn, hd⟩)))
theorem ev_lret {v : Int64} (hd : decode (mB M) pc = .ok (.lreturn, 1)) (hr : mR M = some .long) (hc : kc ≤ mC M) (hs : ks ≤ mS M) (hQ : Q (some (.long v)) S) : Ev X M Q kc ks S pc L [.long v] := by
  intro p e R s m args below meth c H locs ls Qm hC hI hL hR
  exact W.widen hc hs (hR (some (.long v)) S H locs pc ls hQ hI (Or.inr (Or.inr ⟨v, rfl, hr, hd⟩)))
theorem ev_ret (hd : decode (mB M) pc = .ok (.return_, 1)) (hr : mR M = none) (hc : kc ≤ mC M) (hs : ks ≤ mS M) (hQ : Q none S) : Ev X M Q kc ks S pc L [] := by
  intro p e R s m args below meth c H locs ls Qm hC hI hL hR
  exact W.widen hc hs (hR none S H locs pc ls hQ hI (Or.inl ⟨rfl, hr, hd⟩))
end EVR
