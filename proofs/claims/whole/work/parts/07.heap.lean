/-! ===== the heap's instructions ===== -/
theorem am_O.P1 {X : Cx} {h : Hp} {H : Heap} {a : Nat} {o : Ob} (hO : am_O X h H) (ho : h a = some o) : va_P (xG X) am_cls [(a, am_E (xc X) o)] H := by
  intro k q hq
  match k, hq with
  | 0, hq => cases hq; exact (hO a o ho).2
  | k + 1, hq => simp at hq
theorem am_O.up {X : Cx} {h : Hp} {H H' : Heap} {a : Nat} {o : Ob} (hO : am_O X h H) (ha : xlo X ≤ a) (e : ∀ q : Nat, q ≠ a → H'[q]? = H[q]?) (ho : va_at (xG X) am_cls (a, am_E (xc X) o) H') : am_O X (hup h a o) H' := by
  intro q x hq
  by_cases h1 : q = a
  · subst h1
    rw [up_s] at hq
    cases hq
    exact ⟨ha, ho⟩
  · rw [up_n h1] at hq
    exact ⟨(hO q x hq).1, (hO q x hq).2.kept (e q h1)⟩
theorem am_O.new {X : Cx} {h : Hp} {H H' : Heap} {a : Nat} {o : Ob} (hO : am_O X h H) (ha : a = H.size) (hlo : xlo X ≤ a) (e : ∀ q : Nat, q < a → H'[q]? = H[q]?) (ho : va_at (xG X) am_cls (a, am_E (xc X) o) H') : am_O X (hup h a o) H' := by
  intro q x hq
  by_cases h1 : q = a
  · subst h1
    rw [up_s] at hq
    cases hq
    exact ⟨hlo, ho⟩
  · rw [up_n h1] at hq
    have hl := (hO q x hq).2.lt
    exact ⟨(hO q x hq).1, (hO q x hq).2.kept (e q (by show q < a; rw [ha]; exact hl))⟩
theorem am_I.up {X : Cx} {s : State} {S : Hs} {H H' : Heap} {locs L : List Loc} {a : Nat} {o : Ob} (hI : am_I X s S H locs) (ha : xlo X ≤ a) (z : H'.size = H.size) (e : ∀ q : Nat, q ≠ a → H'[q]? = H[q]?) (hL : ∀ l ∈ L, l.base = a) (ho : va_at (xG X) am_cls (a, am_E (xc X) o) H') : am_I X s (hup S.1 a o, S.2) H' (locs ++ L) := by
  obtain ⟨h1, h2, h3, h4, h5, h6⟩ := hI
  refine ⟨z.trans h1, h2.up ha e ho, fun l hl => ?_, by rw [z]; exact h4, h5, fun q hq => ?_⟩
  · rcases List.mem_append.mp hl with h | h
    · exact h3 l h
    · rw [hL l h]; exact ha
  · rw [e q (by intro q2; subst q2; exact absurd hq (Nat.not_lt.mpr ha))]
    exact h6 q hq
theorem am_I.new {X : Cx} {s : State} {S : Hs} {H H' : Heap} {locs : List Loc} {o : Ob} (hI : am_I X s S H locs) (z : H'.size = H.size + 1) (e : ∀ q : Nat, q < H.size → H'[q]? = H[q]?) (ho : va_at (xG X) am_cls (H.size, am_E (xc X) o) H') : am_I X s (hup S.1 S.2 o, S.2 + 1) H' locs := by
  obtain ⟨h1, h2, h3, h4, h5, h6⟩ := hI
  rw [h1] at z e ho
  have hlo : xlo X ≤ S.2 := by omega
  refine ⟨z, h2.new (by omega) hlo e ho, h3, by omega, h5, fun q hq => ?_⟩
  rw [e q (by omega)]
  exact h6 q hq
theorem am_at_o {X : Cx} {H : Heap} {a ci : Nat} {fs : List Value} {C : String} {T : u_T} {N : Nat} (hc : am_cls[ci]? = some (C, T, N)) (h : va_at (xG X) am_cls (a, .inr (ci, fs)) H) : t_OB a ((xG X).1 ci) N ((xG X).2 ci) H (vp_V fs) := by
  obtain ⟨r, h1, h2⟩ := h
  have hr : r = (C, T, N) := Option.some.inj (h1.symm.trans hc)
  subst hr
  exact h2
theorem am_ar {X : Cx} {U : State} (h : am_K X U) {t : Nat} (ht : t < 7) : ArrOfT U (xc X t) (am_ty t) ∧ va_RA U (xc X t) (am_ty t) := by
  match t, ht with
  | 0, _ => exact h.1.2 0 _ rfl
  | 1, _ => exact h.1.2 1 _ rfl
  | 2, _ => exact h.1.2 2 _ rfl
  | 3, _ => exact h.1.2 3 _ rfl
  | 4, _ => exact h.1.2 4 _ rfl
  | 5, _ => exact h.1.2 5 _ rfl
  | 6, _ => exact h.1.2 6 _ rfl
theorem am_idx {i : Int32} {n N : Nat} (hi : i.toInt = (n : Int)) (hn : n < N) : ¬ (i < 0 ∨ N ≤ i.toNatClampNeg) ∧ i.toNatClampNeg = n := by
  have h1 : i.toNatClampNeg = n := by show i.toInt.toNat = n; rw [hi]; rfl
  refine ⟨?_, h1⟩
  rintro (h | h)
  · have := Int32.lt_iff_toInt_lt.mp h
    rw [hi] at this
    simp at this
    omega
  · omega
section EVH
variable {X : Cx} {M : Mi} {Q : Option Value → Hs → Prop} {kc ks : Nat} {Hh : Hp} {Zz : Nat} {pc : Nat} {L st : List Value}
theorem ev_get {idx ci N k : Nat} {C ref : String} {T : u_T} {a : Nat} {fs : List Value} {v : Value} (hd : decode (mB M) pc = .ok (.getfield idx, 3)) (hc : am_cls[ci]? = some (C, T, N)) (hin : ∀ w ∈ u_ws C T N, w ∈ am_T) (hk : k < N) (hlink : Cond.fieldLink (mO M) idx ref (T k).2.1 (T k).2.2.1 ∈ am_T) (hsame : ref = (T k).1 ∨ Cond.sameField ref (T k).1 (T k).2.1 (T k).2.2.1 ∈ am_T) (ho : Hh a = some (.inl (ci, fs))) (hv : fs[k]? = some v) (kk : Ev X M Q kc ks (Hh, Zz) (pc + 3) L (v :: st)) : Ev X M Q kc ks (Hh, Zz) pc L (.ref a :: st) := by
  intro p e R s m args below meth c H locs ls Qm hC hI hL hR
  have hts := hC.2.2.2.2.1
  refine va_get (D := xG X) (cl := am_cls) (tys := am_tys (xc X)) hC.1 hC.2.1 hts hin hC.2.2.2.1 hC.2.2.2.2.2.1.1 (hI.2.1.P1 ho) 0 rfl hc k hk (hts _ hlink) ?_ hv hd (kk p e R s m args below meth c H locs ls Qm hC hI hL hR)
  intro x hx
  rcases hsame with h | h
  · rw [h]; exact hx
  · exact u_same (hts _ h) x hx
theorem ev_put {idx ci N k : Nat} {C ref : String} {T : u_T} {ty0 : Nat → FieldType} {a : Nat} {fs fs' : List Value} {v : Value} (hd : decode (mB M) pc = .ok (.putfield idx, 3)) (hc : am_cls[ci]? = some (C, T, N)) (hin : ∀ w ∈ u_ws C T N, w ∈ am_T) (hty : ∀ k, k < N → parseFieldDescriptor (T k).2.2.1 = some (ty0 k)) (hnm : ∀ a, a < N → ∀ b, b < N → a ≠ b → (T a).2.1 ≠ (T b).2.1) (hk : k < N) (hlink : Cond.fieldLink (mO M) idx ref (T k).2.1 (T k).2.2.1 ∈ am_T) (hsame : ref = (T k).1 ∨ Cond.sameField ref (T k).1 (T k).2.1 (T k).2.2.1 ∈ am_T) (hfin : (T k).2.2.2 = false) (hn : narrow (ty0 k) v = v) (hfit : fits (ty0 k) v = true) (ho : Hh a = some (.inl (ci, fs))) (hl : k < fs.length) (hfs : fs.set k v = fs') (kk : Ev X M Q kc ks (hup Hh a (.inl (ci, fs')), Zz) (pc + 3) L st) : Ev X M Q kc ks (Hh, Zz) pc L (v :: .ref a :: st) := by
  intro p e R s m args below meth c H locs ls Qm hC hI hL hR
  subst hfs
  have hts := hC.2.2.2.2.1
  have hK := hC.2.2.2.2.2.1.1
  have hap := va_apart (own := mO M) hts hin ty0 hty hnm hK hc
  obtain ⟨hlo, hat⟩ := hI.2.1 a _ ho
  obtain ⟨cell, q1, q2, q3, q4⟩ := am_at_o hc hat
  obtain ⟨hS, hfc, kC, hkC, hkind⟩ := hK.1 ci _ hc
  obtain ⟨cf, kf, fi, f, hi, hsl⟩ := hS k hk
  have hlay := hts _ (hin _ (u_in_lay hk))
  unfold u_lay at hlay
  rw [if_neg (by rw [hfin]; decide)] at hlay
  have hst := (u_facts hfc hkC (u_lays hts hin hk) hi).1
  have h6 := u_store hfc hkC hkind hlay hi (hty k hk) hn hfit
  have hsame2 : s.fieldFound? ref (T k).2.1 (T k).2.2.1 = some (cf, kf, fi, f) := by
    rcases hsame with h | h
    · rw [h]; exact hi
    · exact u_same (hts _ h) _ hi
  refine W.putK hC.1 hC.2.1 (f := f) ⟨hC.2.2.2.1, hts _ hlink, ⟨_, _, _, hsame2⟩, hst⟩ (by rw [q2]; exact h6) q1 q3 (by rw [hsl]; exact k2_hasslot (q4 k hk)) rfl rfl hd fun H' e1 e2 e3 => ?_
  rw [hsl] at e1 ⊢
  refine kk p e R s m args below meth c H' _ ls Qm hC (hI.up hlo e2 e3 (by intro l hl; simp at hl; rw [hl]) ?_) hL hR
  exact ⟨_, hc, t_OB.to (V := updV (vp_V fs) k v) ⟨_, e1, q2, q3, t_set q4 hap hk v⟩ (fun j _ => vp_updV_set hl v j)⟩
theorem ev_putF {idx ci N k : Nat} {C : String} {T : u_T} {ty0 : Nat → FieldType} {a : Nat} {fs fs' : List Value} {v : Value} (hd : decode (mB M) pc = .ok (.putfield idx, 3)) (hc : am_cls[ci]? = some (C, T, N)) (hin : ∀ w ∈ u_ws C T N, w ∈ am_T) (hty : ∀ k, k < N → parseFieldDescriptor (T k).2.2.1 = some (ty0 k)) (hnm : ∀ a, a < N → ∀ b, b < N → a ≠ b → (T a).2.1 ≠ (T b).2.1) (hk : k < N) (hlink : Cond.fieldLink (mO M) idx (T k).1 (T k).2.1 (T k).2.2.1 ∈ am_T) (hfin : (T k).2.2.2 = true) (hinit : mN M = "<init>") (hdecl : (T k).1 = mO M) (hn : narrow (ty0 k) v = v) (hfit : fits (ty0 k) v = true) (ho : Hh a = some (.inl (ci, fs))) (hl : k < fs.length) (hfs : fs.set k v = fs') (kk : Ev X M Q kc ks (hup Hh a (.inl (ci, fs')), Zz) (pc + 3) L st) : Ev X M Q kc ks (Hh, Zz) pc L (v :: .ref a :: st) := by
  intro p e R s m args below meth c H locs ls Qm hC hI hL hR
  subst hfs
  have hts := hC.2.2.2.2.1
  have hK := hC.2.2.2.2.2.1.1
  have hown := hC.2.2.2.1
  have hap := va_apart (own := mO M) hts hin ty0 hty hnm hK hc
  obtain ⟨hlo, hat⟩ := hI.2.1 a _ ho
  obtain ⟨cell, q1, q2, q3, q4⟩ := am_at_o hc hat
  obtain ⟨hS, hfc, kC, hkC, hkind⟩ := hK.1 ci _ hc
  obtain ⟨cf, kf, fi, f, hi, hsl⟩ := hS k hk
  have hlay := hts _ (hin _ (u_in_lay hk))
  unfold u_lay at hlay
  rw [if_pos hfin] at hlay
  have hst := (u_facts hfc hkC (u_lays hts hin hk) hi).1
  have hcf : m.cls = cf := by
    obtain ⟨_, _, c', _, _, _, -, -, hf', -, -, -, hown2, -⟩ := Cond.laysFinal_spec hlay
    have e1 : c' = cf := by have := hi.symm.trans hf'; simp at this; exact this.1.symm
    rw [hdecl] at hown2
    rw [← e1]; exact Option.some.inj (hown.symm.trans hown2)
  have h6 := u_fits hfc hkC hkind (Or.inr hlay) hi (hty k hk) hn hfit
  refine W.putFinK hC.1 hC.2.1 hown (hts _ hlink) hi hst hcf (hC.2.2.2.2.2.2.2.1.trans hinit) (by rw [q2]; exact h6) q1 q3 (by rw [hsl]; exact k2_hasslot (q4 k hk)) rfl rfl hd fun H' e1 e2 e3 => ?_
  rw [hsl] at e1 ⊢
  refine kk p e R s m args below meth c H' _ ls Qm hC (hI.up hlo e2 e3 (by intro l hl; simp at hl; rw [hl]) ?_) hL hR
  exact ⟨_, hc, t_OB.to (V := updV (vp_V fs) k v) ⟨_, e1, q2, q3, t_set q4 hap hk v⟩ (fun j _ => vp_updV_set hl v j)⟩
theorem ev_new {idx ci N : Nat} {C : String} {T : u_T} {ty0 : Nat → FieldType} {fs : List Value} (hd : decode (mB M) pc = .ok (.new idx, 3)) (hc : am_cls[ci]? = some (C, T, N)) (hin : ∀ w ∈ u_ws C T N, w ∈ am_T) (hty : ∀ k, k < N → parseFieldDescriptor (T k).2.2.1 = some (ty0 k)) (hcl : Cond.classLink (mO M) idx C ∈ am_T) (hinst : Cond.instantiable C N ∈ am_T) (hini : Cond.initialized C ∈ am_T) (hfs : ∀ j, j < N → defaultValue (ty0 j) = vp_V fs j) (hcells : kc + 1 ≤ mC M) (hslots : ks + N ≤ mS M) (kk : Ev X M Q (kc + 1) (ks + N) (hup Hh Zz (.inl (ci, fs)), Zz + 1) (pc + 3) L (.ref Zz :: st)) : Ev X M Q kc ks (Hh, Zz) pc L st := by
  intro p e R s m args below meth c H locs ls Qm hC hI hL hR
  have hts := hC.2.2.2.2.1
  have hK := hC.2.2.2.2.2.1.1
  have hRR := hC.2.2.2.2.2.2.2.2.2
  have hKn := hK.1 ci _ hc
  refine W.newcK hC.1 hC.2.1 hC.2.2.2.1 (hts _ hcl) (hts _ hinst) (hts _ hini) rfl hd (by rw [hRR]; exact hcells) (by rw [hRR]; exact hslots) hKn.2.1 rfl fun H1 kC hkC e1 z1 o1 => ?_
  have hz : H.size = Zz := hI.1
  refine W.eq (g2 := F0 m (pc + 3) ls (.ref Zz :: st)) (by rw [← hz]) (kk p e R s m args below meth c H1 _ ls Qm hC (hI.new z1 o1 ?_) hL hR)
  exact ⟨_, hc, (u_born ty0 hts hin hKn hkC e1 hty).to hfs⟩
theorem am_rep0 (N : Nat) (j : Nat) : (List.replicate N (0 : Int32)).getD j 0 = 0 := by
  rw [List.getD_eq_getElem?_getD, List.getElem?_replicate]; split <;> rfl
theorem am_rep0l (N : Nat) (j : Nat) : (List.replicate N (0 : Int64)).getD j 0 = 0 := by
  rw [List.getD_eq_getElem?_getD, List.getElem?_replicate]; split <;> rfl
theorem am_rep0q (N : Nat) (j : Nat) : (List.replicate N (none : Option Nat)).getD j none = none := by
  rw [List.getD_eq_getElem?_getD, List.getElem?_replicate]; split <;> rfl
/-- new int[], byte[], boolean[] (t is 0, 1, 2) -/
theorem ev_newi {at_ : ArrayType} {t N : Nat} {n : Int32} (hd : decode (mB M) pc = .ok (.newarray at_, 2)) (ht : t < 3) (hty : newarray.typeOf at_ = am_ty t) (hw : Cond.arrayClass (newarray.typeOf at_) ∈ am_T) (hi : n.toInt = (N : Int)) (hsm : N * componentBytes (newarray.typeOf at_) ≤ 536870912) (hcells : kc + 1 ≤ mC M) (hslots : ks + N ≤ mS M) (kk : Ev X M Q (kc + 1) (ks + N) (hup Hh Zz (.inr (t, .inl (List.replicate N 0))), Zz + 1) (pc + 2) L (.ref Zz :: st)) : Ev X M Q kc ks (Hh, Zz) pc L (.int n :: st) := by
  intro p e R s m args below meth c H locs ls Qm hC hI hL hR
  have hts := hC.2.2.2.2.1
  have hRR := hC.2.2.2.2.2.2.2.2.2
  obtain ⟨h0, h1⟩ := am_idx (N := N + 1) hi (by omega)
  refine va_newaK hC.1 hC.2.1 (hts _ hw) rfl hd rfl (fun q => h0 (Or.inl q)) h1 hsm (by rw [hRR]; exact hcells) (by rw [hRR]; exact hslots) rfl fun H1 cA e1 z1 o1 hAr hNm => ?_
  have hz : H.size = Zz := hI.1
  refine W.eq (g2 := F0 m (pc + 2) ls (.ref Zz :: st)) (by rw [← hz]) (kk p e R s m args below meth c H1 _ ls Qm hC (hI.new z1 o1 ?_) hL hR)
  have hRA := (am_ar hC.2.2.2.2.2.1 (t := t) (by omega)).2
  have hcA : cA = xc X t := by
    rw [hty] at hNm
    match t, ht, hRA, hNm with
    | 0, _, hRA, hNm => exact Option.some.inj (hNm.symm.trans hRA)
    | 1, _, hRA, hNm => exact Option.some.inj (hNm.symm.trans hRA)
    | 2, _, hRA, hNm => exact Option.some.inj (hNm.symm.trans hRA)
  show H1[H.size]? = some (vp_cell _ _)
  rw [e1, hcA, hty, vp_cell_i]
  have hdv : defaultValue (am_ty t) = .int 0 := by
    match t, ht with
    | 0, _ => rfl
    | 1, _ => rfl
    | 2, _ => rfl
  rw [hdv, List.length_replicate]
  congr 2
  funext j
  rw [am_rep0]
theorem ev_newl {N : Nat} {n : Int32} (hd : decode (mB M) pc = .ok (.newarray .long, 2)) (hw : Cond.arrayClass (newarray.typeOf .long) ∈ am_T) (hi : n.toInt = (N : Int)) (hsm : N * componentBytes (newarray.typeOf .long) ≤ 536870912) (hcells : kc + 1 ≤ mC M) (hslots : ks + N ≤ mS M) (kk : Ev X M Q (kc + 1) (ks + N) (hup Hh Zz (.inr (3, .inr (.inl (List.replicate N 0)))), Zz + 1) (pc + 2) L (.ref Zz :: st)) : Ev X M Q kc ks (Hh, Zz) pc L (.int n :: st) := by
  intro p e R s m args below meth c H locs ls Qm hC hI hL hR
  have hts := hC.2.2.2.2.1
  have hRR := hC.2.2.2.2.2.2.2.2.2
  obtain ⟨h0, h1⟩ := am_idx (N := N + 1) hi (by omega)
  refine va_newaK hC.1 hC.2.1 (hts _ hw) rfl hd rfl (fun q => h0 (Or.inl q)) h1 hsm (by rw [hRR]; exact hcells) (by rw [hRR]; exact hslots) rfl fun H1 cA e1 z1 o1 hAr hNm => ?_
  have hz : H.size = Zz := hI.1
  refine W.eq (g2 := F0 m (pc + 2) ls (.ref Zz :: st)) (by rw [← hz]) (kk p e R s m args below meth c H1 _ ls Qm hC (hI.new z1 o1 ?_) hL hR)
  have hRA := (am_ar hC.2.2.2.2.2.1 (t := 3) (by omega)).2
  have hcA : cA = xc X 3 := Option.some.inj (hNm.symm.trans hRA)
  show H1[H.size]? = some (vp_cell _ _)
  rw [e1, hcA, vp_cell_l, List.length_replicate]
  show some (arrV _ _ fun _ => Value.long 0) = _
  congr 2
  funext j
  rw [am_rep0l]
theorem ev_newq {idx t N : Nat} {C : String} {n : Int32} (hd : decode (mB M) pc = .ok (.anewarray idx, 3)) (ht : t < 7) (hty : am_ty t = .object C) (hw : Cond.classLink (mO M) idx C ∈ am_T) (hov : C ∈ am_over) (hi : n.toInt = (N : Int)) (hsm : N * 4 ≤ 536870912) (hcells : kc + 1 ≤ mC M) (hslots : ks + N ≤ mS M) (kk : Ev X M Q (kc + 1) (ks + N) (hup Hh Zz (.inr (t, .inr (.inr (List.replicate N none)))), Zz + 1) (pc + 3) L (.ref Zz :: st)) : Ev X M Q kc ks (Hh, Zz) pc L (.int n :: st) := by
  intro p e R s m args below meth c H locs ls Qm hC hI hL hR
  have hts := hC.2.2.2.2.1
  have hRR := hC.2.2.2.2.2.2.2.2.2
  obtain ⟨h0, h1⟩ := am_idx (N := N + 1) hi (by omega)
  refine W.anew hC.1 hC.2.1 hC.2.2.2.1 (hts _ hw) (va_AO.use (hC.2.2.2.2.2.1.2.2.2 C hov)) rfl hd rfl (fun q => h0 (Or.inl q)) (by rw [h1]; exact hsm) (by rw [hRR]; exact hcells) (by rw [hRR, h1]; exact hslots) fun cA kA comp f1 f2 f3 f4 => ?_
  rw [h1]
  have hz : H.size = Zz := hI.1
  refine W.eq (g2 := F0 m (pc + 3) ls (.ref Zz :: st)) (by rw [← hz]) (kk p e R s m args below meth c (H.push ({ cls := cA, slots := Array.replicate N .null, vm := .none } : Cell)) _ ls Qm hC (hI.new (by rw [Array.size_push]) (fun q hq => by rw [Array.getElem?_push, if_neg (Nat.ne_of_lt hq)]) ?_) hL hR)
  have hRA := (am_ar hC.2.2.2.2.2.1 ht).2
  rw [hty] at hRA
  obtain ⟨kA2, comp2, g1, g2, g3, g4⟩ := hRA
  have hcA : cA = xc X t := Option.some.inj (f1.symm.trans g4)
  show (H.push _)[H.size]? = some (vp_cell _ _)
  rw [Array.getElem?_push_size, hcA, vp_cell_q, List.length_replicate, arrV_new]
  congr 2
  funext j
  rw [am_rep0q]
  rfl
theorem ev_iald {i : Int32} {a n : Nat} {xs : List Int32} {x : Int32} (hd : decode (mB M) pc = .ok (.iaload, 1)) (ho : Hh a = some (.inr (0, .inl xs))) (hi : i.toInt = (n : Int)) (hx : xs[n]? = some x) (kk : Ev X M Q kc ks (Hh, Zz) (pc + 1) L (.int x :: st)) : Ev X M Q kc ks (Hh, Zz) pc L (.int i :: .ref a :: st) := by
  intro p e R s m args below meth c H locs ls Qm hC hI hL hR
  obtain ⟨h0, h1⟩ := am_idx hi (List.getElem?_eq_some_iff.mp hx).1
  have e1 : xs.getD i.toNatClampNeg 0 = x := by rw [h1, List.getD_eq_getElem?_getD, hx]; rfl
  refine va_iald (D := xG X) (cl := am_cls) (tys := am_tys (xc X)) hC.1 hC.2.1 hC.2.2.2.2.2.1.1 (hI.2.1.P1 ho) 0 0 rfl rfl h0 hd ?_
  rw [e1]
  exact kk p e R s m args below meth c H locs ls Qm hC hI hL hR
theorem ev_bald {i : Int32} {a n : Nat} {xs : List Int32} {x : Int32} (hd : decode (mB M) pc = .ok (.baload, 1)) (ho : Hh a = some (.inr (1, .inl xs))) (hi : i.toInt = (n : Int)) (hx : xs[n]? = some x) (kk : Ev X M Q kc ks (Hh, Zz) (pc + 1) L (.int x :: st)) : Ev X M Q kc ks (Hh, Zz) pc L (.int i :: .ref a :: st) := by
  intro p e R s m args below meth c H locs ls Qm hC hI hL hR
  obtain ⟨h0, h1⟩ := am_idx hi (List.getElem?_eq_some_iff.mp hx).1
  have e1 : xs.getD i.toNatClampNeg 0 = x := by rw [h1, List.getD_eq_getElem?_getD, hx]; rfl
  refine va_bald (D := xG X) (cl := am_cls) (tys := am_tys (xc X)) hC.1 hC.2.1 hC.2.2.2.2.2.1.1 (hI.2.1.P1 ho) 0 1 rfl rfl h0 hd ?_
  rw [e1]
  exact kk p e R s m args below meth c H locs ls Qm hC hI hL hR
theorem ev_zald {i : Int32} {a n : Nat} {xs : List Int32} {x : Int32} (hd : decode (mB M) pc = .ok (.baload, 1)) (ho : Hh a = some (.inr (2, .inl xs))) (hi : i.toInt = (n : Int)) (hx : xs[n]? = some x) (kk : Ev X M Q kc ks (Hh, Zz) (pc + 1) L (.int x :: st)) : Ev X M Q kc ks (Hh, Zz) pc L (.int i :: .ref a :: st) := by
  intro p e R s m args below meth c H locs ls Qm hC hI hL hR
  obtain ⟨h0, h1⟩ := am_idx hi (List.getElem?_eq_some_iff.mp hx).1
  have e1 : xs.getD i.toNatClampNeg 0 = x := by rw [h1, List.getD_eq_getElem?_getD, hx]; rfl
  refine va_zald (D := xG X) (cl := am_cls) (tys := am_tys (xc X)) hC.1 hC.2.1 hC.2.2.2.2.2.1.1 (hI.2.1.P1 ho) 0 2 rfl rfl h0 hd ?_
  rw [e1]
  exact kk p e R s m args below meth c H locs ls Qm hC hI hL hR
theorem ev_lald {i : Int32} {a n : Nat} {xs : List Int64} {x : Int64} (hd : decode (mB M) pc = .ok (.laload, 1)) (ho : Hh a = some (.inr (3, .inr (.inl xs)))) (hi : i.toInt = (n : Int)) (hx : xs[n]? = some x) (kk : Ev X M Q kc ks (Hh, Zz) (pc + 1) L (.long x :: st)) : Ev X M Q kc ks (Hh, Zz) pc L (.int i :: .ref a :: st) := by
  intro p e R s m args below meth c H locs ls Qm hC hI hL hR
  obtain ⟨h0, h1⟩ := am_idx hi (List.getElem?_eq_some_iff.mp hx).1
  have e1 : xs.getD i.toNatClampNeg 0 = x := by rw [h1, List.getD_eq_getElem?_getD, hx]; rfl
  refine va_lald (D := xG X) (cl := am_cls) (tys := am_tys (xc X)) hC.1 hC.2.1 hC.2.2.2.2.2.1.1 (hI.2.1.P1 ho) 0 3 rfl rfl h0 hd ?_
  rw [e1]
  exact kk p e R s m args below meth c H locs ls Qm hC hI hL hR
theorem ev_aald {i : Int32} {a n r : Nat} {rs : List (Option Nat)} {t : Nat} {C : String} (hd : decode (mB M) pc = .ok (.aaload, 1)) (ht : (am_tys (xc X))[t]? = some (xc X t, .object C)) (ho : Hh a = some (.inr (t, .inr (.inr rs)))) (hi : i.toInt = (n : Int)) (hx : rs[n]? = some (some r)) (kk : Ev X M Q kc ks (Hh, Zz) (pc + 1) L (.ref r :: st)) : Ev X M Q kc ks (Hh, Zz) pc L (.int i :: .ref a :: st) := by
  intro p e R s m args below meth c H locs ls Qm hC hI hL hR
  obtain ⟨h0, h1⟩ := am_idx hi (List.getElem?_eq_some_iff.mp hx).1
  have e1 : rs.getD i.toNatClampNeg none = some r := by rw [h1, List.getD_eq_getElem?_getD, hx]; rfl
  refine va_aldq (D := xG X) (cl := am_cls) (tys := am_tys (xc X)) hC.1 hC.2.1 hC.2.2.2.2.2.1.1 (hI.2.1.P1 ho) 0 t rfl ht h0 hd ?_
  rw [e1]
  exact kk p e R s m args below meth c H locs ls Qm hC hI hL hR
theorem am_set_i (xs : List Int32) (n : Nat) (x : Int32) (hn : n < xs.length) (cA : ClassId) : arrV cA xs.length (updV (fun j => .int (xs.getD j 0)) n (.int x)) = arrV cA (xs.set n x).length (fun j => .int ((xs.set n x).getD j 0)) := by
  rw [List.length_set]
  congr 1
  funext j
  simp only [updV, List.getD_eq_getElem?_getD, List.getElem?_set]
  by_cases h : j = n
  · subst h
    simp [hn]
  · simp [h, Ne.symm h]
theorem am_set_l (xs : List Int64) (n : Nat) (x : Int64) (hn : n < xs.length) (cA : ClassId) : arrV cA xs.length (updV (fun j => .long (xs.getD j 0)) n (.long x)) = arrV cA (xs.set n x).length (fun j => .long ((xs.set n x).getD j 0)) := by
  rw [List.length_set]
  congr 1
  funext j
  simp only [updV, List.getD_eq_getElem?_getD, List.getElem?_set]
  by_cases h : j = n
  · subst h
    simp [hn]
  · simp [h, Ne.symm h]
theorem am_set_q (xs : List (Option Nat)) (n : Nat) (x : Nat) (hn : n < xs.length) (cA : ClassId) : arrV cA xs.length (updV (fun j => va_rf (xs.getD j none)) n (.ref x)) = arrV cA (xs.set n (some x)).length (fun j => va_rf ((xs.set n (some x)).getD j none)) := by
  rw [List.length_set]
  congr 1
  funext j
  simp only [updV, List.getD_eq_getElem?_getD, List.getElem?_set]
  by_cases h : j = n
  · subst h
    simp [hn, va_rf]
  · simp [h, Ne.symm h]
theorem ev_iast {i x : Int32} {a n : Nat} {xs : List Int32} (hd : decode (mB M) pc = .ok (.iastore, 1)) (ho : Hh a = some (.inr (0, .inl xs))) (hi : i.toInt = (n : Int)) (hn : n < xs.length) (kk : Ev X M Q kc ks (hup Hh a (.inr (0, .inl (xs.set n x))), Zz) (pc + 1) L st) : Ev X M Q kc ks (Hh, Zz) pc L (.int x :: .int i :: .ref a :: st) := by
  intro p e R s m args below meth c H locs ls Qm hC hI hL hR
  obtain ⟨h0, h1⟩ := am_idx hi hn
  obtain ⟨hlo, hat⟩ := hI.2.1 a _ ho
  refine W.iast hC.1 hC.2.1 hat ((am_ar hC.2.2.2.2.2.1 (t := 0) (by omega)).1 xs.length (fun j => .int (xs.getD j 0))) (fun q => by cases q) (by show ¬ (i < 0 ∨ (arrV _ _ _).slots.size ≤ _); rw [arrV_size]; exact h0) rfl rfl hd fun H1 e1 z oq => ?_
  refine kk p e R s m args below meth c H1 _ ls Qm hC (hI.up hlo z oq (by intro l hl; simp at hl; rw [hl]) ?_) hL hR
  have e2 : H1[a]? = some (arrV (xc X 0) (xs.set n x).length (fun j => .int ((xs.set n x).getD j 0))) := by
    rw [e1, h1, ← am_set_i xs n x hn]
    exact congrArg some (arrV_store _ _ _ _ _)
  exact e2
theorem ev_bast {i x y : Int32} {a n : Nat} {xs : List Int32} (hd : decode (mB M) pc = .ok (.bastore, 1)) (ho : Hh a = some (.inr (1, .inl xs))) (hi : i.toInt = (n : Int)) (hn : n < xs.length) (hy : narrow .byte (.int x) = .int y) (kk : Ev X M Q kc ks (hup Hh a (.inr (1, .inl (xs.set n y))), Zz) (pc + 1) L st) : Ev X M Q kc ks (Hh, Zz) pc L (.int x :: .int i :: .ref a :: st) := by
  intro p e R s m args below meth c H locs ls Qm hC hI hL hR
  obtain ⟨h0, h1⟩ := am_idx hi hn
  obtain ⟨hlo, hat⟩ := hI.2.1 a _ ho
  refine W.bast hC.1 hC.2.1 hat ((am_ar hC.2.2.2.2.2.1 (t := 1) (by omega)).1 xs.length (fun j => .int (xs.getD j 0))) (fun q => by cases q) (by show ¬ (i < 0 ∨ (arrV _ _ _).slots.size ≤ _); rw [arrV_size]; exact h0) rfl rfl hd fun H1 e1 z oq => ?_
  refine kk p e R s m args below meth c H1 _ ls Qm hC (hI.up hlo z oq (by intro l hl; simp at hl; rw [hl]) ?_) hL hR
  have e2 : H1[a]? = some (arrV (xc X 1) (xs.set n y).length (fun j => .int ((xs.set n y).getD j 0))) := by
    rw [e1, h1, hy, ← am_set_i xs n y hn]
    exact congrArg some (arrV_store _ _ _ _ _)
  exact e2
theorem ev_zast {i x y : Int32} {a n : Nat} {xs : List Int32} (hd : decode (mB M) pc = .ok (.bastore, 1)) (ho : Hh a = some (.inr (2, .inl xs))) (hi : i.toInt = (n : Int)) (hn : n < xs.length) (hy : narrow .boolean (.int x) = .int y) (kk : Ev X M Q kc ks (hup Hh a (.inr (2, .inl (xs.set n y))), Zz) (pc + 1) L st) : Ev X M Q kc ks (Hh, Zz) pc L (.int x :: .int i :: .ref a :: st) := by
  intro p e R s m args below meth c H locs ls Qm hC hI hL hR
  obtain ⟨h0, h1⟩ := am_idx hi hn
  obtain ⟨hlo, hat⟩ := hI.2.1 a _ ho
  refine W.zast hC.1 hC.2.1 hat ((am_ar hC.2.2.2.2.2.1 (t := 2) (by omega)).1 xs.length (fun j => .int (xs.getD j 0))) (fun q => by cases q) (by show ¬ (i < 0 ∨ (arrV _ _ _).slots.size ≤ _); rw [arrV_size]; exact h0) rfl rfl hd fun H1 e1 z oq => ?_
  refine kk p e R s m args below meth c H1 _ ls Qm hC (hI.up hlo z oq (by intro l hl; simp at hl; rw [hl]) ?_) hL hR
  have e2 : H1[a]? = some (arrV (xc X 2) (xs.set n y).length (fun j => .int ((xs.set n y).getD j 0))) := by
    rw [e1, h1, hy, ← am_set_i xs n y hn]
    exact congrArg some (arrV_store _ _ _ _ _)
  exact e2
theorem ev_last {i : Int32} {x : Int64} {a n : Nat} {xs : List Int64} (hd : decode (mB M) pc = .ok (.lastore, 1)) (ho : Hh a = some (.inr (3, .inr (.inl xs)))) (hi : i.toInt = (n : Int)) (hn : n < xs.length) (kk : Ev X M Q kc ks (hup Hh a (.inr (3, .inr (.inl (xs.set n x)))), Zz) (pc + 1) L st) : Ev X M Q kc ks (Hh, Zz) pc L (.long x :: .int i :: .ref a :: st) := by
  intro p e R s m args below meth c H locs ls Qm hC hI hL hR
  obtain ⟨h0, h1⟩ := am_idx hi hn
  obtain ⟨hlo, hat⟩ := hI.2.1 a _ ho
  refine W.last hC.1 hC.2.1 hat ((am_ar hC.2.2.2.2.2.1 (t := 3) (by omega)).1 xs.length (fun j => .long (xs.getD j 0))) (fun q => by cases q) (by show ¬ (i < 0 ∨ (arrV _ _ _).slots.size ≤ _); rw [arrV_size]; exact h0) rfl rfl hd fun H1 e1 z oq => ?_
  refine kk p e R s m args below meth c H1 _ ls Qm hC (hI.up hlo z oq (by intro l hl; simp at hl; rw [hl]) ?_) hL hR
  have e2 : H1[a]? = some (arrV (xc X 3) (xs.set n x).length (fun j => .long ((xs.set n x).getD j 0))) := by
    rw [e1, h1, ← am_set_l xs n x hn]
    exact congrArg some (arrV_store _ _ _ _ _)
  exact e2
/-- the class of the cell v may stand in the array a -/
theorem ev_aast {i : Int32} {a n v t ci : Nat} {rs : List (Option Nat)} {fs : List Value} {C C2 : String} {T2 : u_T} {N2 : Nat} (hd : decode (mB M) pc = .ok (.aastore, 1)) (ht : t < 7) (hty : am_ty t = .object C) (ho : Hh a = some (.inr (t, .inr (.inr rs)))) (hv : Hh v = some (.inl (ci, fs))) (hc : am_cls[ci]? = some (C2, T2, N2)) (hcast : C2 = C ∨ (C2, C) ∈ am_cast) (hi : i.toInt = (n : Int)) (hn : n < rs.length) (kk : Ev X M Q kc ks (hup Hh a (.inr (t, .inr (.inr (rs.set n (some v))))), Zz) (pc + 1) L st) : Ev X M Q kc ks (Hh, Zz) pc L (.ref v :: .int i :: .ref a :: st) := by
  intro p e R s m args below meth c H locs ls Qm hC hI hL hR
  obtain ⟨h0, h1⟩ := am_idx hi hn
  obtain ⟨hlo, hat⟩ := hI.2.1 a _ ho
  have hKK := hC.2.2.2.2.2.1
  obtain ⟨cellV, g1, g2, g3, -⟩ := am_at_o hc (hI.2.1 v _ hv).2
  have hcls := (hKK.1.1 ci _ hc).2
  have hRA := (am_ar hKK ht).2
  rw [hty] at hRA
  obtain ⟨kA, comp, k1, k2, k3, -⟩ := hRA
  obtain ⟨kC, hkC, -⟩ := hcls.2
  have hasg : s.vm.assignable cellV.cls comp = true ∧ ∃ kcomp, s.vm.classes[comp]? = some kcomp := by
    rcases hcast with h | h
    · subst h
      have hcomp : comp = (xG X).1 ci := Option.some.inj (k3.symm.trans hcls.1)
      subst hcomp
      exact ⟨by rw [g2]; exact va_assign hcls, kC, hkC⟩
    · refine ⟨vb_asgC (hKK.2.2.1 _ h) comp _ k3 (by rw [g2]; exact hcls.1), ?_⟩
      have hC7 : C = RX7 := by
        simp only [am_cast, List.mem_cons, Prod.mk.injEq, List.not_mem_nil, or_false] at h
        rcases h with h | h | h | h | h <;> exact h.2
      subst hC7
      obtain ⟨h71, k7, h72, -⟩ := (hKK.1.1 7 _ rfl).2
      cases k3.symm.trans h71
      exact ⟨k7, h72⟩
  obtain ⟨hasg, kcomp, hkcomp⟩ := hasg
  refine W.aast hC.1 hC.2.1 hat (fun q h => by cases h) (fun h => by cases h) k1 k2 rfl hkcomp ⟨fun q => h0 (Or.inl q), by show _ < (arrV _ _ _).slots.size; rw [arrV_size, h1]; exact hn⟩ g1 (fun q h => by rw [g3] at h; cases h) (by rw [g2]; exact hkC) hasg rfl rfl hd fun H1 e1 z oq => ?_
  refine kk p e R s m args below meth c H1 _ ls Qm hC (hI.up hlo z oq (by intro l hl; simp at hl; rw [hl]) ?_) hL hR
  have e2 : H1[a]? = some (arrV (xc X t) (rs.set n (some v)).length (fun j => va_rf ((rs.set n (some v)).getD j none))) := by
    rw [e1, h1, ← am_set_q rs n v hn]
    exact congrArg some (arrV_store _ _ _ _ _)
  exact e2
def am_len (o : Ob) : Nat := match o with
  | .inl _ => 0
  | .inr (_, .inl xs) => xs.length
  | .inr (_, .inr (.inl xs)) => xs.length
  | .inr (_, .inr (.inr xs)) => xs.length
theorem ev_alen {a t : Nat} {o : List Int32 ⊕ (List Int64 ⊕ List (Option Nat))} (hd : decode (mB M) pc = .ok (.arraylength, 1)) (ht : t < 7) (ho : Hh a = some (.inr (t, o))) (kk : Ev X M Q kc ks (Hh, Zz) (pc + 1) L (.int (nI (am_len (.inr (t, o)))) :: st)) : Ev X M Q kc ks (Hh, Zz) pc L (.ref a :: st) := by
  intro p e R s m args below meth c H locs ls Qm hC hI hL hR
  have h7 : (am_tys (xc X))[t]? = some (xc X t, am_ty t) := by
    match t, ht with
    | 0, _ => rfl
    | 1, _ => rfl
    | 2, _ => rfl
    | 3, _ => rfl
    | 4, _ => rfl
    | 5, _ => rfl
    | 6, _ => rfl
  have kk2 := kk p e R s m args below meth c H locs ls Qm hC hI hL hR
  match o, ho, kk2 with
  | .inl xs, ho, kk2 => exact va_alen (D := xG X) (cl := am_cls) (tys := am_tys (xc X)) hC.1 hC.2.1 hC.2.2.2.2.2.1.1 (hI.2.1.P1 ho) 0 t rfl h7 rfl hd kk2
  | .inr (.inl xs), ho, kk2 => exact va_alen (D := xG X) (cl := am_cls) (tys := am_tys (xc X)) hC.1 hC.2.1 hC.2.2.2.2.2.1.1 (hI.2.1.P1 ho) 0 t rfl h7 rfl hd kk2
  | .inr (.inr xs), ho, kk2 => exact va_alen (D := xG X) (cl := am_cls) (tys := am_tys (xc X)) hC.1 hC.2.1 hC.2.2.2.2.2.1.1 (hI.2.1.P1 ho) 0 t rfl h7 rfl hd kk2
theorem ev_slen (hd : decode (mB M) pc = .ok (.arraylength, 1)) (kk : Ev X M Q kc ks (Hh, Zz) (pc + 1) L (.int (nI (xL X)) :: st)) : Ev X M Q kc ks (Hh, Zz) pc L (.ref (xb X) :: st) := by
  intro p e R s m args below meth c H locs ls Qm hC hI hL hR
  obtain ⟨⟨scr, h1, h2, h3, h4, h5⟩, hlt⟩ := hC.2.2.2.2.2.2.1
  exact W.alen (n := Int32.ofNat (xL X)) hC.1 hC.2.1 (by rw [hI.2.2.2.2.2 _ hlt]; exact h1) h2 (by rw [h4] <;> rfl) rfl rfl hd (kk p e R s m args below meth c H locs ls Qm hC hI hL hR)
theorem ev_sld {i : Int32} {n : Nat} (hd : decode (mB M) pc = .ok (.iaload, 1)) (hi : i.toInt = (n : Int)) (hn : n < xL X) (kk : Ev X M Q kc ks (Hh, Zz) (pc + 1) L (.int (xs X n) :: st)) : Ev X M Q kc ks (Hh, Zz) pc L (.int i :: .ref (xb X) :: st) := by
  intro p e R s m args below meth c H locs ls Qm hC hI hL hR
  obtain ⟨⟨scr, h1, h2, h3, h4, h5⟩, hlt⟩ := hC.2.2.2.2.2.2.1
  obtain ⟨h0, e1⟩ := am_idx hi hn
  exact W.iald (v := .int (xs X n)) hC.1 hC.2.1 (by rw [hI.2.2.2.2.2 _ hlt]; exact h1) h2 h3 (by rw [h4]; exact h0) (by rw [e1]; exact h5 _ hn) rfl rfl hd (kk p e R s m args below meth c H locs ls Qm hC hI hL hR)
end EVH
