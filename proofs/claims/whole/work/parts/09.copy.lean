/-! ===== System.arraycopy ===== -/
def am_cp {α : Type} (d : α) (xs ys : List α) (sp dp n : Nat) : List α := (List.range ys.length).map (fun j => if dp ≤ j ∧ j < dp + n then xs.getD (sp + (j - dp)) d else ys.getD j d)
theorem am_cp_len {α : Type} (d : α) (xs ys : List α) (sp dp n : Nat) : (am_cp d xs ys sp dp n).length = ys.length := by simp [am_cp]
theorem am_cp_get {α : Type} {d : α} {xs ys : List α} {sp dp n j : Nat} (h : j < ys.length) : (am_cp d xs ys sp dp n)[j]? = some (if dp ≤ j ∧ j < dp + n then xs.getD (sp + (j - dp)) d else ys.getD j d) := by
  simp [am_cp, h]
theorem am_cp_getD {α : Type} (d : α) (xs ys : List α) (sp dp n j : Nat) (h5 : dp + n ≤ ys.length) : (am_cp d xs ys sp dp n).getD j d = va_cpy (fun i => xs.getD i d) (fun i => ys.getD i d) sp dp n j := by
  by_cases h : j < ys.length
  · rw [List.getD_eq_getElem?_getD, am_cp_get h]
    rfl
  · have h1 : ¬ (dp ≤ j ∧ j < dp + n) := by omega
    simp only [va_cpy, if_neg h1]
    rw [List.getD_eq_getElem?_getD, List.getElem?_eq_none (by rw [am_cp_len]; omega), List.getD_eq_getElem?_getD, List.getElem?_eq_none (by omega)]
theorem am_cp_all {α : Type} (d : α) (xs ys : List α) {n : Nat} (h1 : xs.length = n) (h2 : ys.length = n) : am_cp d xs ys 0 0 n = xs := by
  apply List.ext_getElem?
  intro j
  by_cases h : j < n
  · rw [am_cp_get (by omega), if_pos ⟨Nat.zero_le _, by omega⟩]
    simp [List.getD_eq_getElem?_getD, h1, h]
  · rw [List.getElem?_eq_none (by rw [am_cp_len]; omega), List.getElem?_eq_none (by omega)]
section EVP
variable {X : Cx} {M : Mi} {Q : Option Value → Hs → Prop} {kc ks : Nat} {S : Hs} {Hh : Hp} {Zz : Nat} {pc : Nat} {L st : List Value}
theorem am_copy {p : Program} {e : Env} {R : Room} {s : State} {m : MethodId} {args : Array Value} {below : List Frame} {meth : Method} {c : Code} {H : Heap} {locs : List Loc} {ls : Array Slot} {Qm : State → Prop} {idx a0 a t n0 n1 sp dp n : Nat} {α : Type} {mk : α → Value} {f g : Nat → α} {i j k : Int32} {o : Ob} (hd : decode (mB M) pc = .ok (.invokestatic idx, 3)) (w1 : Cond.methodLink (mO M) idx arraycopyName ∈ am_T) (hD : 1 ≤ mD M) (hcat : (st.map fun v => v.category).sum ≤ 8) (ht : t < 7) (hprim : refKind (am_ty t) = false)
    (h0 : H[a0]? = some (arrV (xc X t) n0 (fun j => mk (f j)))) (h1 : H[a]? = some (arrV (xc X t) n1 (fun j => mk (g j)))) (hi : i.toInt = (sp : Int)) (hj : j.toInt = (dp : Int)) (hk : k.toInt = (n : Int)) (hs : sp + n ≤ n0) (he : dp + n ≤ n1) (hlo : xlo X ≤ a) (hfit : ∀ x : α, fits (am_ty t) (mk x) = true) (hmk : ∀ (vm : Vm) (T : State) (dC : ClassId) (x : α), (T.setVm vm).takes dC (mk x)) (hout : va_at (xG X) am_cls (a, am_E (xc X) o) #[] ∨ ∀ H' : Heap, H'[a]? = some (arrV (xc X t) n1 (fun j => mk (va_cpy f g sp dp n j))) → va_at (xG X) am_cls (a, am_E (xc X) o) H')
    (hC : am_C X M p R s m args meth c) (hI : am_I X s S H locs) (hL : am_L (mL M) L ls) (kk : ∀ (H1 : Heap) (locs1 : List Loc), am_I X s (hup S.1 a o, S.2) H1 locs1 → W p (xl X) e R s m args below meth c H1 locs1 kc ks Qm (F0 m (pc + 3) ls st)) : W p (xl X) e R s m args below meth c H locs kc ks Qm (F0 m pc ls (.int k :: .int j :: .ref a :: .int i :: .ref a0 :: st)) := by
  have hts := hC.2.2.2.2.1
  have hRR := hC.2.2.2.2.2.2.2.2.2
  have z1 : i.toNatClampNeg = sp := by show i.toInt.toNat = sp; rw [hi]; rfl
  have z2 : j.toNatClampNeg = dp := by show j.toInt.toNat = dp; rw [hj]; rfl
  have z3 : k.toNatClampNeg = n := by show k.toInt.toNat = n; rw [hk]; rfl
  have nn : ∀ (z : Int32) (w : Nat), z.toInt = (w : Int) → ¬ z < 0 := fun z w hz q => by
    have := Int32.lt_iff_toInt_lt.mp q
    rw [hz] at this
    simp at this
    omega
  intro T hT Z
  obtain ⟨-, k0, hk0, cm0, hkk0⟩ := (am_ar hC.2.2.2.2.2.1 ht).1 n0 (fun j => mk (f j))
  obtain ⟨-, k1, hk1, cm1, hkk1⟩ := (am_ar hC.2.2.2.2.2.1 ht).1 n1 (fun j => mk (g j))
  obtain ⟨vm', Z', step⟩ := Z.arraycopy hC.1 hC.2.2.2.1 (hts _ w1) (hts _ tw_441) (hts _ tw_440) (hts _ tw_15) (src := a0) (dst := a) (srcPos := i) (destPos := j) (n := k) (by rw [hT]; exact h0) (by rw [hT]; exact h1)
    (fun _ h => by cases h) (fun _ h => by cases h) (fun h => by cases h) (fun h => by cases h) hk0 hk1 hkk0 hkk1 (by simp [hprim]) (nn i sp hi) (nn j dp hj) (nn k n hk)
    (by rw [hi, hk, arrV_size]; omega)
    (by rw [hj, hk, arrV_size]; omega)
    (fun vm₁ _ q hq => by
      rw [z3] at hq
      have e : (arrV (xc X t) n0 (fun j => mk (f j))).slots.getD (i.toNatClampNeg + q) .null = mk (f (i.toNatClampNeg + q)) := by
        rw [Array.getD_eq_getD_getElem?, arrV_read _ _ (by omega)]
        rfl
      rw [e]
      exact ⟨hfit _, hmk _ _ _ _⟩)
    (g := F0 m pc ls (.int k :: .int j :: .ref a :: .int i :: .ref a0 :: st)) rfl (hL.2.1.trans hC.2.2.1.symm) (rest := st) rfl (by rw [hC.2.1]; exact hd) (by rw [hRR]; exact hD) (by
      rw [hRR]
      have : nativeFrameWords "java/lang/System" "arraycopy" 5 = 7 := by decide +kernel
      rw [this]
      show 2 * 0 + _ + _ ≤ 34 * mD M
      omega)
  have e1 : copied (arrV (xc X t) n0 (fun j => mk (f j))) (arrV (xc X t) n1 (fun j => mk (g j))) i j k = arrV (xc X t) n1 (fun q => mk (va_cpy f g sp dp n q)) := by
    have := va_copied mk (xc X t) (xc X t) (n0 := n0) (n1 := n1) (sp := sp) (dp := dp) (n := n) f g hs
    unfold copied
    rw [z1, z2, z3]
    exact this
  rw [e1] at Z' step
  have hl : a < H.size := (Array.getElem?_eq_some_iff.mp h1).1
  have hheap : ((T.setVm vm').setCell a (arrV (xc X t) n1 (fun q => mk (va_cpy f g sp dp n q)))).heap = H.setIfInBounds a (arrV (xc X t) n1 (fun q => mk (va_cpy f g sp dp n q))) := by rw [← hT]; rfl
  have hset : (H.setIfInBounds a (arrV (xc X t) n1 (fun q => mk (va_cpy f g sp dp n q))))[a]? = some (arrV (xc X t) n1 (fun q => mk (va_cpy f g sp dp n q))) := by simp [Array.getElem?_setIfInBounds, hl]
  obtain ⟨t2, a1, b1⟩ := kk _ _ (hI.up (o := o) hlo (by simp) (fun q hq => by simp [Array.getElem?_setIfInBounds, Ne.symm hq]) (by
      intro l hl
      obtain ⟨z, -, hz⟩ := List.mem_map.mp hl
      rw [← hz]) (by
      rcases hout with h | h
      · exact absurd h.lt (by simp)
      · exact h _ hset)) _ hheap Z'
  exact ⟨t2, step t2 a1, b1⟩
theorem ev_copyi {idx a0 a sp dp n : Nat} {xs ys : List Int32} {i j k : Int32} (hd : decode (mB M) pc = .ok (.invokestatic idx, 3)) (w1 : Cond.methodLink (mO M) idx arraycopyName ∈ am_T) (hD : 1 ≤ mD M) (hcat : (st.map fun v => v.category).sum ≤ 8) (h0 : Hh a0 = some (.inr (0, .inl xs))) (h1 : Hh a = some (.inr (0, .inl ys))) (hi : i.toInt = (sp : Int)) (hj : j.toInt = (dp : Int)) (hk : k.toInt = (n : Int)) (hs : sp + n ≤ xs.length) (he : dp + n ≤ ys.length) (kk : Ev X M Q kc ks (hup Hh a (.inr (0, .inl (am_cp 0 xs ys sp dp n))), Zz) (pc + 3) L st) : Ev X M Q kc ks (Hh, Zz) pc L (.int k :: .int j :: .ref a :: .int i :: .ref a0 :: st) := by
  intro p e R s m args below meth c H locs ls Qm hC hI hL hR
  refine am_copy (t := 0) (mk := Value.int) (f := fun j => xs.getD j 0) (g := fun j => ys.getD j 0) (o := .inr (0, .inl (am_cp 0 xs ys sp dp n))) hd w1 hD hcat (by omega) rfl (hI.2.1 a0 _ h0).2 (hI.2.1 a _ h1).2 hi hj hk hs he (hI.2.1 a _ h1).1 (fun _ => rfl) (fun _ _ _ _ => trivial) (Or.inr fun H' hH => ?_) hC hI hL fun H1 locs1 hI1 => kk p e R s m args below meth c H1 locs1 ls Qm hC hI1 hL hR
  have e2 : H'[a]? = some (arrV (xc X 0) (am_cp 0 xs ys sp dp n).length (fun j => .int ((am_cp 0 xs ys sp dp n).getD j 0))) := by
    rw [hH, am_cp_len]
    congr 2
    funext q
    rw [am_cp_getD 0 xs ys sp dp n q he]
  exact e2
theorem ev_copyl {idx a0 a sp dp n : Nat} {xs ys : List Int64} {i j k : Int32} (hd : decode (mB M) pc = .ok (.invokestatic idx, 3)) (w1 : Cond.methodLink (mO M) idx arraycopyName ∈ am_T) (hD : 1 ≤ mD M) (hcat : (st.map fun v => v.category).sum ≤ 8) (h0 : Hh a0 = some (.inr (3, .inr (.inl xs)))) (h1 : Hh a = some (.inr (3, .inr (.inl ys)))) (hi : i.toInt = (sp : Int)) (hj : j.toInt = (dp : Int)) (hk : k.toInt = (n : Int)) (hs : sp + n ≤ xs.length) (he : dp + n ≤ ys.length) (kk : Ev X M Q kc ks (hup Hh a (.inr (3, .inr (.inl (am_cp 0 xs ys sp dp n)))), Zz) (pc + 3) L st) : Ev X M Q kc ks (Hh, Zz) pc L (.int k :: .int j :: .ref a :: .int i :: .ref a0 :: st) := by
  intro p e R s m args below meth c H locs ls Qm hC hI hL hR
  refine am_copy (t := 3) (mk := Value.long) (f := fun j => xs.getD j 0) (g := fun j => ys.getD j 0) (o := .inr (3, .inr (.inl (am_cp 0 xs ys sp dp n)))) hd w1 hD hcat (by omega) rfl (hI.2.1 a0 _ h0).2 (hI.2.1 a _ h1).2 hi hj hk hs he (hI.2.1 a _ h1).1 (fun _ => rfl) (fun _ _ _ _ => trivial) (Or.inr fun H' hH => ?_) hC hI hL fun H1 locs1 hI1 => kk p e R s m args below meth c H1 locs1 ls Qm hC hI1 hL hR
  have e2 : H'[a]? = some (arrV (xc X 3) (am_cp 0 xs ys sp dp n).length (fun j => .long ((am_cp 0 xs ys sp dp n).getD j 0))) := by
    rw [hH, am_cp_len]
    congr 2
    funext q
    rw [am_cp_getD 0 xs ys sp dp n q he]
  exact e2
end EVP
