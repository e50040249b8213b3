/-! ===== calls by contract ===== -/
theorem am_good {ws : List Cond} (h : ∀ w ∈ ws, w ∈ am_T) : GoodIn am_T ws := fun w hw => ⟨h w hw, good_of_word (am_in (h w hw)).2⟩
theorem am_wsT {y : MethodName} {b : ByteArray} {n : Nat} {r : Option FieldType} (h : Cond.code y b n r ∈ am_T) : ∀ w ∈ am_ws y b n r, w ∈ am_T := fun w hw => by
  rcases List.mem_cons.mp hw with e | e
  · rw [e]; exact h
  · exact e
theorem am_blind {X : Cx} {av : List Value} {S : Hs} : FrameBlind (am_Pc X av S) := fun _ U _ _ h => ⟨h.1, h.2.1, h.2.2.1, am_K.calling h.2.2.2.1, h.2.2.2.2.1, va_X.moved (Vm.Alike.refl U.vm) h.2.2.2.2.2.1, h.2.2.2.2.2.2⟩
theorem am_pre {X : Cx} {s : State} {S : Hs} {H : Heap} {locs : List Loc} (hI : am_I X s S H locs) (hK : am_K X s) (hX : am_X X s) (av : List Value) (U : State) (hU : U.heap = H) (hW : s.WarmedH U.vm) : am_Pc X av S av.toArray U := by
  refine ⟨rfl, by rw [hU]; exact hI.1, by rw [hU]; exact hI.2.1, am_K.warm hW hK, ?_, ?_, hX.2⟩
  · rw [← hI.1]; exact Nat.le_trans hI.2.2.2.2.1 hI.2.2.2.1
  · rw [hU]
    exact (va_X.moved hW.alike hX.1).kept (hI.2.2.2.2.2 _ hX.2)
theorem am_recv {X : Cx} {s : State} {h : Hp} {H : Heap} (hK : am_K X s) (hO : am_O X h H) {a ci N : Nat} {fs : List Value} {C : String} {T : u_T} (hc : am_cls[ci]? = some (C, T, N)) (ho : h a = some (.inl (ci, fs))) : ∃ cellB : Cell, H[a]? = some cellB ∧ cellB.vm.isStatics = false ∧ s.vm.findClass C = some cellB.cls := by
  obtain ⟨cell, g1, g2, g3, -⟩ := am_at_o hc (hO a _ ho).2
  exact ⟨cell, g1, by rw [g3]; rfl, by rw [g2]; exact (hK.1.1 ci _ hc).2.1⟩
section EVC
variable {X : Cx} {M : Mi} {Q Qc' : Option Value → Hs → Prop} {kc ks : Nat} {S : Hs} {pc : Nat} {L st st0 As : List Value}
theorem am_goon {p : Program} {e : Env} {R : Room} {s : State} {m : MethodId} {args : Array Value} {below : List Frame} {meth : Method} {c : Code} {H : Heap} {locs : List Loc} {ls : Array Slot} {Qm : State → Prop} {k n : Nat} {a : Array Value} (hr : va_Run p (xl X) e R s m args below meth c H locs kc ks k n (F0 m pc ls st0) st (am_Qc X Qc' a) (fun q => xlo X ≤ q)) (hI : am_I X s S H locs)
    (kk : ∀ (r : Option Value) (S' : Hs) (H1 : Heap) (locs1 : List Loc), Qc' r S' → am_I X s S' H1 locs1 → W p (xl X) e R s m args below meth c H1 locs1 (kc + k) (ks + n) Qm (F0 m (pc + 3) ls (r.toList ++ st))) : W p (xl X) e R s m args below meth c H locs kc ks Qm (F0 m pc ls st0) := by
  intro T hT Z
  obtain ⟨v, st₀, t, T', Lx, h0, Z', hLx, e1, e2, ⟨r, S', hv, hQ, hz, hO, hle, hlow⟩, stp⟩ := hr T hT Z
  cases hv
  obtain ⟨i1, i2, i3, i4, i5, i6⟩ := hI
  obtain ⟨t2, a1, b1⟩ := kk v S' T'.heap (locs ++ Lx) hQ ⟨by rw [e1]; exact hz, by rw [e1]; exact hO, fun l hl => by
      rcases List.mem_append.mp hl with h | h
      · exact i3 l h
      · exact hLx l h, by rw [e1]; rw [h0] at hle; exact Nat.le_trans i4 hle, i5, fun q hq => by rw [e1, hlow q hq, h0]; exact i6 q hq⟩ T' rfl Z'
  exact ⟨t2, stp t2 a1, b1⟩
theorem am_room {D D2 maxL : Nat} (hD : D + 1 ≤ D2) (hm : maxL ≤ 15) {k n k2 n2 : Nat} : (am_rm D k n).frames + 1 ≤ (am_rm D2 k2 n2).frames ∧ 8 + (maxL + 11) + (am_rm D k n).locals ≤ (am_rm D2 k2 n2).locals := ⟨hD, by show 8 + (maxL + 11) + 34 * D ≤ 34 * D2; omega⟩
/-- invokevirtual of a method of the receiver's own class -/
theorem ev_callV {idx ci N D k n nA maxL : Nat} {T : u_T} {y : MethodName} {b : ByteArray} {rt : Option FieldType} {a : Nat} {fs : List Value} (hd : decode (mB M) pc = .ok (.invokevirtual idx, 3)) (w1 : Cond.methodLink (mO M) idx y ∈ am_T) (w2 : Cond.instanceMethod y ∈ am_T) (w3 : Cond.selects y.cls y y ∈ am_T) (w4 : Cond.initialized y.cls ∈ am_T) (w5 : Cond.code y b maxL rt ∈ am_T) (hn : y.cls ≠ "java/lang/invoke/MethodHandle" ∧ y.cls ≠ "java/lang/invoke/VarHandle" ∧ (parseMethodDescriptor y.desc).map (fun d => d.parameters.length) = some nA) (hc : am_cls[ci]? = some (y.cls, T, N)) (hm : maxL ≤ 15) (ho : S.1 a = some (.inl (ci, fs))) (hD : D + 1 ≤ mD M) (hst : st0 = As.reverse ++ .ref a :: st) (hAs : As.length = nA) (hcat : (st.map fun v => v.category).sum ≤ 8) (hk : kc + k ≤ mC M) (hs : ks + n ≤ mS M)
    (hM : Ct X D (y, b, maxL, rt) (.ref a :: As) S k n Qc') (kk : ∀ (r : Option Value) (S' : Hs), Qc' r S' → Ev X M Q (kc + k) (ks + n) S' (pc + 3) L (r.toList ++ st)) : Ev X M Q kc ks S pc L st0 := by
  intro p e R s m args below meth c H locs ls Qm hC hI hL hR
  have hts := hC.2.2.2.2.1
  have hRR := hC.2.2.2.2.2.2.2.2.2
  subst hRR
  have hG : GoodIn am_T (wsV (mO M) idx y.cls y (am_ws y b maxL rt)) := am_good fun w hw => by
    rcases List.mem_append.mp hw with h | h
    · simp only [List.mem_cons, List.not_mem_nil, or_false] at h
      rcases h with h | h | h | h
      · rw [h]; exact w1
      · rw [h]; exact w2
      · rw [h]; exact w3
      · rw [h]; exact w4
    · exact am_wsT w5 w h
  refine am_goon (va_runV (n := nA) (As := As) (rest := st) (C := y.cls) ⟨hC.1, hC.2.1, hC.2.2.1, hC.2.2.2.1, hts⟩ hM (cwV nA hts hG rfl rfl rfl ⟨rfl, hn⟩ (am_room hD hm)) ⟨am_blind, am_recv hC.2.2.2.2.2.1 hI.2.1 hc ho, am_pre hI hC.2.2.2.2.2.1 hC.2.2.2.2.2.2.1 _⟩ rfl hAs hL.2.1 hst (lv_room hcat) hd ⟨hk, hs⟩) hI fun r S' H1 locs1 hQ hI1 => ?_
  exact kk r S' hQ p e _ s m args below meth c H1 locs1 ls Qm hC hI1 hL hR
/-- invokestatic -/
theorem ev_callS {idx D k n nA maxL : Nat} {y : MethodName} {b : ByteArray} {rt : Option FieldType} (hd : decode (mB M) pc = .ok (.invokestatic idx, 3)) (w1 : Cond.methodLink (mO M) idx y ∈ am_T) (w2 : Cond.static y ∈ am_T) (w4 : Cond.initialized y.cls ∈ am_T) (w5 : Cond.code y b maxL rt ∈ am_T) (hn : y.cls ≠ "java/lang/invoke/MethodHandle" ∧ y.cls ≠ "java/lang/invoke/VarHandle" ∧ (parseMethodDescriptor y.desc).map (fun d => d.parameters.length) = some nA) (hm : maxL ≤ 15) (hD : D + 1 ≤ mD M) (hst : st0 = As.reverse ++ st) (hAs : As.length = nA) (hcat : (st.map fun v => v.category).sum ≤ 8) (hk : kc + k ≤ mC M) (hs : ks + n ≤ mS M)
    (hM : Ct X D (y, b, maxL, rt) As S k n Qc') (kk : ∀ (r : Option Value) (S' : Hs), Qc' r S' → Ev X M Q (kc + k) (ks + n) S' (pc + 3) L (r.toList ++ st)) : Ev X M Q kc ks S pc L st0 := by
  intro p e R s m args below meth c H locs ls Qm hC hI hL hR
  have hts := hC.2.2.2.2.1
  have hRR := hC.2.2.2.2.2.2.2.2.2
  subst hRR
  have hG : GoodIn am_T (va_wsS (mO M) idx y (am_ws y b maxL rt)) := am_good fun w hw => by
    rcases List.mem_append.mp hw with h | h
    · simp only [List.mem_cons, List.not_mem_nil, or_false] at h
      rcases h with h | h | h
      · rw [h]; exact w1
      · rw [h]; exact w2
      · rw [h]; exact w4
    · exact am_wsT w5 w h
  refine am_goon (va_runS (n := nA) (As := As) (rest := st) ⟨hC.1, hC.2.1, hC.2.2.1, hC.2.2.2.1, hts⟩ hM (va_cwS nA hts hG rfl rfl rfl hn (am_room hD hm)) ⟨am_blind, am_pre hI hC.2.2.2.2.2.1 hC.2.2.2.2.2.2.1 _⟩ rfl hAs hL.2.1 hst (lv_room hcat) hd ⟨hk, hs⟩) hI fun r S' H1 locs1 hQ hI1 => ?_
  exact kk r S' hQ p e _ s m args below meth c H1 locs1 ls Qm hC hI1 hL hR
/-- a constructor, by its ordinary link -/
theorem ev_callI {idx D k n nA maxL a : Nat} {y : MethodName} {b : ByteArray} (hd : decode (mB M) pc = .ok (.invokespecial idx, 3)) (w1 : Cond.methodLink (mO M) idx y ∈ am_T) (w2 : Cond.instanceMethod y ∈ am_T) (w4 : Cond.initialized y.cls ∈ am_T) (w5 : Cond.code y b maxL none ∈ am_T) (hini : y.name = "<init>") (hn : y.cls ≠ "java/lang/invoke/MethodHandle" ∧ y.cls ≠ "java/lang/invoke/VarHandle" ∧ (parseMethodDescriptor y.desc).map (fun d => d.parameters.length) = some nA) (hm : maxL ≤ 15) (hD : D + 1 ≤ mD M) (hst : st0 = As.reverse ++ .ref a :: st) (hAs : As.length = nA) (hcat : (st.map fun v => v.category).sum ≤ 8) (hk : kc + k ≤ mC M) (hs : ks + n ≤ mS M)
    (hM : Ct X D (y, b, maxL, none) (.ref a :: As) S k n Qc') (kk : ∀ (r : Option Value) (S' : Hs), Qc' r S' → Ev X M Q (kc + k) (ks + n) S' (pc + 3) L (r.toList ++ st)) : Ev X M Q kc ks S pc L st0 := by
  intro p e R s m args below meth c H locs ls Qm hC hI hL hR
  have hts := hC.2.2.2.2.1
  have hRR := hC.2.2.2.2.2.2.2.2.2
  subst hRR
  refine am_goon (va_runI (n := nA) (As := As) (rest := st) ⟨hC.1, hC.2.1, hC.2.2.1, hC.2.2.2.1, hts⟩ hM (cwI nA hts (am_good (am_wsT w5)) rfl rfl rfl (hts _ w4) (hts _ w1) (hts _ w2) hini hn (am_room hD hm)) ⟨am_blind, am_pre hI hC.2.2.2.2.2.1 hC.2.2.2.2.2.2.1 _⟩ rfl hAs hL.2.1 hst (lv_room hcat) hd ⟨hk, hs⟩) hI fun r S' H1 locs1 hQ hI1 => ?_
  exact kk r S' hQ p e _ s m args below meth c H1 locs1 ls Qm hC hI1 hL hR
/-- a private constructor of a nest mate -/
theorem ev_callN {idx D k n nA maxL a : Nat} {host : String} {y : MethodName} {b : ByteArray} (hd : decode (mB M) pc = .ok (.invokespecial idx, 3)) (w1 : (mO M, idx, y, host) ∈ am_nest) (w2 : Cond.instanceMethod y ∈ am_T) (w4 : Cond.initialized y.cls ∈ am_T) (w5 : Cond.code y b maxL none ∈ am_T) (hini : y.name = "<init>") (hn : y.cls ≠ "java/lang/invoke/MethodHandle" ∧ y.cls ≠ "java/lang/invoke/VarHandle" ∧ (parseMethodDescriptor y.desc).map (fun d => d.parameters.length) = some nA) (hm : maxL ≤ 15) (hD : D + 1 ≤ mD M) (hst : st0 = As.reverse ++ .ref a :: st) (hAs : As.length = nA) (hcat : (st.map fun v => v.category).sum ≤ 8) (hk : kc + k ≤ mC M) (hs : ks + n ≤ mS M)
    (hM : Ct X D (y, b, maxL, none) (.ref a :: As) S k n Qc') (kk : ∀ (r : Option Value) (S' : Hs), Qc' r S' → Ev X M Q (kc + k) (ks + n) S' (pc + 3) L (r.toList ++ st)) : Ev X M Q kc ks S pc L st0 := by
  intro p e R s m args below meth c H locs ls Qm hC hI hL hR
  have hts := hC.2.2.2.2.1
  have hRR := hC.2.2.2.2.2.2.2.2.2
  subst hRR
  refine am_goon (va_runIN (n := nA) (As := As) (rest := st) (host := host) ⟨hC.1, hC.2.1, hC.2.2.1, hC.2.2.2.1, hts⟩ hM ⟨va_cnB nA hts (am_good (am_wsT w5)) rfl rfl rfl (hC.2.2.2.2.2.1.2.1 _ w1) (hts _ w4) hn (am_room hD hm), hini, hts _ w2⟩ ⟨am_blind, am_pre hI hC.2.2.2.2.2.1 hC.2.2.2.2.2.2.1 _⟩ rfl hAs hL.2.1 hst (lv_room hcat) hd ⟨hk, hs⟩) hI fun r S' H1 locs1 hQ hI1 => ?_
  exact kk r S' hQ p e _ s m args below meth c H1 locs1 ls Qm hC hI1 hL hR
/-- super.m(..) -/
theorem ev_callU {idx D k n nA maxL a ci N : Nat} {C : String} {T : u_T} {fs : List Value} {y : MethodName} {b : ByteArray} {rt : Option FieldType} (hd : decode (mB M) pc = .ok (.invokespecial idx, 3)) (w1 : Cond.methodLink (mO M) idx y ∈ am_T) (w6 : Cond.sameMethod y.cls y.cls y.name y.desc ∈ am_T) (w7 : Cond.superclass (mO M) y.cls ∈ am_T) (w2 : Cond.instanceMethod y ∈ am_T) (w4 : Cond.initialized y.cls ∈ am_T) (w5 : Cond.code y b maxL rt ∈ am_T) (hn : y.name ≠ "<init>" ∧ (parseMethodDescriptor y.desc).map (fun d => d.parameters.length) = some nA) (hc : am_cls[ci]? = some (C, T, N)) (hm : maxL ≤ 15) (ho : S.1 a = some (.inl (ci, fs))) (hD : D + 1 ≤ mD M) (hst : st0 = As.reverse ++ .ref a :: st) (hAs : As.length = nA) (hcat : (st.map fun v => v.category).sum ≤ 8) (hk : kc + k ≤ mC M) (hs : ks + n ≤ mS M)
    (hM : Ct X D (y, b, maxL, rt) (.ref a :: As) S k n Qc') (kk : ∀ (r : Option Value) (S' : Hs), Qc' r S' → Ev X M Q (kc + k) (ks + n) S' (pc + 3) L (r.toList ++ st)) : Ev X M Q kc ks S pc L st0 := by
  intro p e R s m args below meth c H locs ls Qm hC hI hL hR
  have hts := hC.2.2.2.2.1
  have hRR := hC.2.2.2.2.2.2.2.2.2
  subst hRR
  have hG : GoodIn am_T (va_wsSU (mO M) idx y (am_ws y b maxL rt)) := am_good fun w hw => by
    rcases List.mem_append.mp hw with h | h
    · simp only [List.mem_cons, List.not_mem_nil, or_false] at h
      rcases h with h | h | h | h | h
      · rw [h]; exact w1
      · rw [h]; exact w6
      · rw [h]; exact w7
      · rw [h]; exact w2
      · rw [h]; exact w4
    · exact am_wsT w5 w h
  refine am_goon (va_runSU (n := nA) (As := As) (rest := st) (C := C) (hC.2.2.2.2.2.1.1.1 ci _ hc).2 ⟨hC.1, hC.2.1, hC.2.2.1, hC.2.2.2.1, hts⟩ hM (va_cwSU nA hts hG rfl rfl rfl hn (am_room hD hm)) ⟨am_blind, am_recv hC.2.2.2.2.2.1 hI.2.1 hc ho, am_pre hI hC.2.2.2.2.2.1 hC.2.2.2.2.2.2.1 _⟩ rfl hAs hL.2.1 hst (lv_room hcat) hd ⟨hk, hs⟩) hI fun r S' H1 locs1 hQ hI1 => ?_
  exact kk r S' hQ p e _ s m args below meth c H1 locs1 ls Qm hC hI1 hL hR
/-- invokevirtual of a method that the receiver's class overrides -/
theorem ev_callO {idx ci N D k n nA maxL m0 : Nat} {T : u_T} {C owner : String} {x y : MethodName} {b b0 : ByteArray} {rt r0 : Option FieldType} {a : Nat} {fs : List Value} (hd : decode (mB M) pc = .ok (.invokevirtual idx, 3)) (w1 : Cond.methodLink (mO M) idx x ∈ am_T) (w6 : Cond.sameMethod x.cls owner x.name x.desc ∈ am_T) (w7 : Cond.instanceMethod ⟨owner, x.name, x.desc⟩ ∈ am_T) (w3 : Cond.selects C x y ∈ am_T) (w2 : Cond.instanceMethod y ∈ am_T) (w4 : Cond.initialized y.cls ∈ am_T) (w5 : Cond.code y b maxL rt ∈ am_T) (w8 : Cond.code ⟨owner, x.name, x.desc⟩ b0 m0 r0 ∈ am_T) (hn : owner ≠ "java/lang/invoke/MethodHandle" ∧ owner ≠ "java/lang/invoke/VarHandle" ∧ (parseMethodDescriptor x.desc).map (fun d => d.parameters.length) = some nA) (hc : am_cls[ci]? = some (C, T, N)) (hm : maxL ≤ 15) (ho : S.1 a = some (.inl (ci, fs))) (hD : D + 1 ≤ mD M) (hst : st0 = As.reverse ++ .ref a :: st) (hAs : As.length = nA) (hcat : (st.map fun v => v.category).sum ≤ 8) (hk : kc + k ≤ mC M) (hs : ks + n ≤ mS M)
    (hM : Ct X D (y, b, maxL, rt) (.ref a :: As) S k n Qc') (kk : ∀ (r : Option Value) (S' : Hs), Qc' r S' → Ev X M Q (kc + k) (ks + n) S' (pc + 3) L (r.toList ++ st)) : Ev X M Q kc ks S pc L st0 := by
  intro p e R s m args below meth c H locs ls Qm hC hI hL hR
  have hts := hC.2.2.2.2.1
  have hRR := hC.2.2.2.2.2.2.2.2.2
  subst hRR
  have hG : GoodIn am_T (va_wsO (mO M) idx C owner x y (am_ws y b maxL rt)) := am_good fun w hw => by
    rcases List.mem_append.mp hw with h | h
    · simp only [List.mem_cons, List.not_mem_nil, or_false] at h
      rcases h with h | h | h | h | h | h
      · rw [h]; exact w1
      · rw [h]; exact w6
      · rw [h]; exact w7
      · rw [h]; exact w3
      · rw [h]; exact w2
      · rw [h]; exact w4
    · exact am_wsT w5 w h
  refine am_goon (va_runU (n := nA) (As := As) (rest := st) (C := C) ⟨hC.1, hC.2.1, hC.2.2.1, hC.2.2.2.1, hts⟩ hM (va_cwO nA hts hG rfl rfl rfl w8 hn (am_room hD hm)) ⟨am_blind, am_recv hC.2.2.2.2.2.1 hI.2.1 hc ho, am_pre hI hC.2.2.2.2.2.1 hC.2.2.2.2.2.2.1 _⟩ rfl hAs hL.2.1 hst (lv_room hcat) hd ⟨hk, hs⟩) hI fun r S' H1 locs1 hQ hI1 => ?_
  exact kk r S' hQ p e _ s m args below meth c H1 locs1 ls Qm hC hI1 hL hR
/-- Object.<init> -/
theorem ev_objInit {idx a : Nat} (hd : decode (mB M) pc = .ok (.invokespecial idx, 3)) (w1 : Cond.methodLink (mO M) idx Lib.objectInit ∈ am_T) (w2 : Cond.instanceMethod Lib.objectInit ∈ am_T) (w3 : Cond.code Lib.objectInit ⟨#[0xb1]⟩ 1 none ∈ am_T) (hD : 1 ≤ mD M) (hcat : (st.map fun v => v.category).sum ≤ 8) (kk : Ev X M Q kc ks S (pc + 3) L st) : Ev X M Q kc ks S pc L (.ref a :: st) := by
  intro p e R s m args below meth c H locs ls Qm hC hI hL hR
  have hts := hC.2.2.2.2.1
  have hRR := hC.2.2.2.2.2.2.2.2.2
  refine W.objInit hC.1 hC.2.1 hC.2.2.2.1 (hts _ w1) (hts _ w2) (hts _ w3) rfl (hL.2.1.trans hC.2.2.1.symm) rfl hd (by rw [hRR]; exact hD) (by rw [hRR]; show 2 * 0 + _ + 12 ≤ 34 * mD M; omega) ?_
  exact kk p e R s m args below meth c H locs ls Qm hC hI hL hR
theorem ev_mmax {idx : Nat} {x y : Int32} (hd : decode (mB M) pc = .ok (.invokestatic idx, 3)) (w1 : Cond.methodLink (mO M) idx Lib.Math.max.name ∈ am_T) (hD : 1 ≤ mD M) (hcat : (st.map fun v => v.category).sum ≤ 8) (hk : kc ≤ mC M) (hs : ks ≤ mS M) (kk : Ev X M Q kc ks S (pc + 3) L (.int (if x < y then y else x) :: st)) : Ev X M Q kc ks S pc L (.int y :: .int x :: st) := by
  intro p e R s m args below meth c H locs ls Qm hC hI hL hR
  have hts := hC.2.2.2.2.1
  have hRR := hC.2.2.2.2.2.2.2.2.2
  exact va_mmax hC.1 hC.2.1 (hC.2.2.1.trans hL.2.1.symm) hC.2.2.2.1 (hts _ w1) (hts _ tw_585) (hts _ tw_14) (hts _ tw_586) (by rw [hRR]; exact hD) (by rw [hRR]; show _ + 13 ≤ 34 * mD M; omega) (by rw [hRR]; exact hk) (by rw [hRR]; exact hs) hd (kk p e R s m args below meth c H locs ls Qm hC hI hL hR)
theorem ev_mmin {idx : Nat} {x y : Int32} (hd : decode (mB M) pc = .ok (.invokestatic idx, 3)) (w1 : Cond.methodLink (mO M) idx Lib.Math.min.name ∈ am_T) (hD : 1 ≤ mD M) (hcat : (st.map fun v => v.category).sum ≤ 8) (hk : kc ≤ mC M) (hs : ks ≤ mS M) (kk : Ev X M Q kc ks S (pc + 3) L (.int (if y < x then y else x) :: st)) : Ev X M Q kc ks S pc L (.int y :: .int x :: st) := by
  intro p e R s m args below meth c H locs ls Qm hC hI hL hR
  have hts := hC.2.2.2.2.1
  have hRR := hC.2.2.2.2.2.2.2.2.2
  exact va_mmin hC.1 hC.2.1 (hC.2.2.1.trans hL.2.1.symm) hC.2.2.2.1 (hts _ w1) (hts _ tw_403) (hts _ tw_14) (hts _ tw_404) (by rw [hRR]; exact hD) (by rw [hRR]; show _ + 13 ≤ 34 * mD M; omega) (by rw [hRR]; exact hk) (by rw [hRR]; exact hs) hd (kk p e R s m args below meth c H locs ls Qm hC hI hL hR)
end EVC
/-- a method's contract out of its walk -/
theorem ct_of_ev {X : Cx} {D nL k n : Nat} {y : MethodName} {b : ByteArray} {rt : Option FieldType} {av L : List Value} {S : Hs} {Q : Option Value → Hs → Prop} (hpl : plainName y.cls = true) (hsl : (lg_sl av).length ≤ nL) (hen : am_en nL av = L) (h : Ev X (y.cls, b, nL, y.name, rt, D, k, n) Q 0 0 S 0 L []) : Ct X D (y, b, nL, rt) av S k n Q := by
  refine Met.ofW (cc := b) (maxL := nL) (ret := rt) hpl rfl ?_
  intro p e s m args below meth c s₁ B hml hv
  obtain ⟨rfl, hsz, hO, hK, hlo, hX⟩ := hv
  have hts := atoms_spec (ws := am_ws y b nL rt) B.pre
  rw [lg_entry_eq]
  refine h p e _ s m _ below meth c s.heap [] _ _ ⟨B.exec, B.bytes, hml, findClass_of_methodNamed B.named, fun w hw => hts w (List.mem_cons_of_mem _ hw), hK, hX, (name_of_methodNamed B.named B.method).1, B.returns, rfl⟩ ⟨hsz, hO, fun l hl => by simp at hl, Nat.le_refl _, by rw [hsz]; exact hlo, fun _ _ => rfl⟩ ⟨by rw [← hen]; exact am_en_len _ _, lv_has_mono (lv_entry av hsl) (fun q hq => am_en_mem nL av 0 q.1 q.2 (by rw [hen]; exact hq))⟩ ?_
  intro r S' H' locs' pc' ls' hQ hI hR
  rcases hR with ⟨rfl, hr, hd⟩ | ⟨v, ty, rfl, hr, hn, hd⟩ | ⟨v, rfl, hr, hd⟩
  · exact W.vret B.exec B.bytes (B.returns.trans hr) (fun t ht hW => ⟨none, S', rfl, hQ, by rw [ht]; exact hI.1, by rw [ht]; exact hI.2.1, by rw [ht]; exact hI.2.2.2.1, fun q hq => by rw [ht]; exact hI.2.2.2.2.2 q hq⟩) hI.2.2.1 hd
  · exact W.zret B.exec B.bytes (B.returns.trans hr) hn (fun t ht hW => ⟨_, S', rfl, hQ, by rw [ht]; exact hI.1, by rw [ht]; exact hI.2.1, by rw [ht]; exact hI.2.2.2.1, fun q hq => by rw [ht]; exact hI.2.2.2.2.2 q hq⟩) hI.2.2.1 hd
  · exact W.lret B.exec B.bytes (B.returns.trans hr) (fun t ht hW => ⟨_, S', rfl, hQ, by rw [ht]; exact hI.1, by rw [ht]; exact hI.2.1, by rw [ht]; exact hI.2.2.2.1, fun q hq => by rw [ht]; exact hI.2.2.2.2.2 q hq⟩) hI.2.2.1 hd
