/-! ===== the machine seen from far: heaps as functions from addresses to objects; Ev: from here the method comes to its end, with Q; Ct: a method's contract ===== -/
abbrev Ob : Type := (Nat × List Value) ⊕ (Nat × (List Int32 ⊕ (List Int64 ⊕ List (Option Nat))))
abbrev Hp : Type := Nat → Option Ob
abbrev Hs : Type := Hp × Nat
abbrev Cx : Type := Launch × va_G × (Nat → ClassId) × Nat × Nat × Nat × (Nat → Int32)
abbrev xl (X : Cx) : Launch := X.1
abbrev xG (X : Cx) : va_G := X.2.1
abbrev xc (X : Cx) : Nat → ClassId := X.2.2.1
abbrev xlo (X : Cx) : Nat := X.2.2.2.1
abbrev xb (X : Cx) : Nat := X.2.2.2.2.1
abbrev xL (X : Cx) : Nat := X.2.2.2.2.2.1
abbrev xs (X : Cx) : Nat → Int32 := X.2.2.2.2.2.2
def am_cls : List vw_C := [(RX0, TX0, 7), (RX1, TX1, 1), (RX2, TX2, 1), (RX3, TX3, 1), (RX4, TX4, 1), (RX5, TX5, 14), (RX6, TX6, 3), (RX7, TX7, 1), (RX8, TX8, 10), (RX9, TX9, 6), (RX10, TX10, 1), (RX11, TX11, 11), (RX12, TX12, 37)]
def am_ty : Nat → FieldType := fun t => match t with
  | 0 => .int
  | 1 => .byte
  | 2 => .boolean
  | 3 => .long
  | 4 => .object RX8
  | 5 => .object RX6
  | _ => .object RX7
def am_tys (cA : Nat → ClassId) : List (ClassId × FieldType) := [(cA 0, .int), (cA 1, .byte), (cA 2, .boolean), (cA 3, .long), (cA 4, .object RX8), (cA 5, .object RX6), (cA 6, .object RX7)]
def am_E (cA : Nat → ClassId) (o : Ob) : va_E := match o with
  | .inl f => .inr f
  | .inr (t, .inl xs) => .inl (cA t, xs.length, .inl (fun j => xs.getD j 0))
  | .inr (t, .inr (.inl xs)) => .inl (cA t, xs.length, .inr (.inl (fun j => xs.getD j 0)))
  | .inr (t, .inr (.inr xs)) => .inl (cA t, xs.length, .inr (.inr (.inr (.inr (fun j => xs.getD j none)))))
def am_O (X : Cx) (h : Hp) (H : Heap) : Prop := ∀ (a : Nat) (o : Ob), h a = some o → xlo X ≤ a ∧ va_at (xG X) am_cls (a, am_E (xc X) o) H
def am_nest : List (String × Nat × MethodName × String) := [("DawnTales", 9, yX9_init, "DawnTales"), ("DawnTales$Stand", 11, yX8_init, "DawnTales"), ("DawnTales", 39, yX5_init, "DawnTales"), ("DawnTales$Rows", 29, yX8_init, "DawnTales"), ("DawnTales", 53, yX7_init, "DawnTales"), ("DawnTales", 56, yX1_init, "DawnTales"), ("DawnTales$BorrowedKind", 1, yX7_init, "DawnTales"), ("DawnTales", 59, yX4_init, "DawnTales"), ("DawnTales$RingKind", 1, yX7_init, "DawnTales"), ("DawnTales", 62, yX10_init, "DawnTales"), ("DawnTales$TrueKind", 1, yX1_init, "DawnTales"), ("DawnTales", 65, yX2_init, "DawnTales"), ("DawnTales$EndlessKind", 1, yX4_init, "DawnTales"), ("DawnTales", 68, yX3_init, "DawnTales"), ("DawnTales$JokeKind", 1, yX7_init, "DawnTales")]
def am_cast : List (String × String) := [(RX1, RX7), (RX4, RX7), (RX10, RX7), (RX2, RX7), (RX3, RX7)]
def am_over : List String := [RX8, RX6, RX7]
/-- what the class tables say, the same in every state of the run -/
def am_K (X : Cx) (U : State) : Prop := va_K (xG X) am_cls (am_tys (xc X)) U ∧ (∀ q ∈ am_nest, va_Nw (.methodLinkNest q.1 q.2.1 q.2.2.1 q.2.2.2) U) ∧ (∀ q ∈ am_cast, va_Nw (.castable q.1 q.2) U) ∧ ∀ C ∈ am_over, va_AO C U
def am_X (X : Cx) (U : State) : Prop := va_X (xb X) (xL X) (xs X) U U.heap ∧ xb X < xlo X
theorem am_K.warm {X : Cx} {s U : State} (hW : s.WarmedH U.vm) (h : am_K X s) : am_K X U := ⟨va_K.moved hW.alike h.1, fun q hq => va_Nw.warmM hW (h.2.1 q hq), fun q hq => va_Nw.warmC hW (h.2.2.1 q hq), fun C hC => va_AO.moved hW.alike (h.2.2.2 C hC)⟩
theorem am_K.calling {X : Cx} {U : State} {g : JFrame} {mk : MethodId} {a : Array Value} (h : am_K X U) : am_K X (U.calling g mk a) := ⟨va_K.moved (u := U) (U := U.calling g mk a) (Vm.Alike.refl U.vm) h.1, fun q hq => va_Nw.same (u := U) (U := U.calling g mk a) rfl rfl (h.2.1 q hq), fun q hq => va_Nw.same (u := U) (U := U.calling g mk a) rfl rfl (h.2.2.1 q hq), fun C hC => va_AO.moved (u := U) (U := U.calling g mk a) (Vm.Alike.refl U.vm) (h.2.2.2 C hC)⟩
abbrev Mt : Type := MethodName × ByteArray × Nat × Option FieldType
def am_ws (y : MethodName) (b : ByteArray) (n : Nat) (r : Option FieldType) : List Cond := Cond.code y b n r :: am_T
def am_Pc (X : Cx) (av : List Value) (S : Hs) : Array Value → State → Prop := va_Pc av (fun U => U.heap.size = S.2 ∧ am_O X S.1 U.heap ∧ am_K X U ∧ xlo X ≤ S.2 ∧ am_X X U)
def am_Qc (X : Cx) (Q : Option Value → Hs → Prop) : Array Value → State → Outcome → State → Prop := fun _ st oc t => ∃ (r : Option Value) (S' : Hs), oc = .returned r ∧ Q r S' ∧ t.heap.size = S'.2 ∧ am_O X S'.1 t.heap ∧ st.heap.size ≤ t.heap.size ∧ ∀ q : Nat, q < xlo X → t.heap[q]? = st.heap[q]?
def am_rm (D k n : Nat) : Room := { frames := D, cells := k, slots := n, locals := 34 * D }
/-- the contract of a method: from the heap S it returns, with Q; it makes at most k cells of n slots -/
def Ct (X : Cx) (D : Nat) (M : Mt) (av : List Value) (S : Hs) (k n : Nat) (Q : Option Value → Hs → Prop) : Prop := Met (xl X) M.1 (am_ws M.1 M.2.1 M.2.2.1 M.2.2.2) (am_rm D k n) (am_Pc X av S) (am_Qc X Q) k n (fun q => xlo X ≤ q)
def am_I (X : Cx) (s : State) (S : Hs) (H : Heap) (locs : List Loc) : Prop := H.size = S.2 ∧ am_O X S.1 H ∧ (∀ l ∈ locs, xlo X ≤ l.base) ∧ s.heap.size ≤ H.size ∧ xlo X ≤ s.heap.size ∧ ∀ q : Nat, q < xlo X → H[q]? = s.heap[q]?
def am_rt : Value → Bool
  | .retAddr _ => true
  | _ => false
/-- the locals that hold something, with their numbers; retAddr stands for 'nothing known' -/
def am_al : Nat → List Value → List (Nat × Value)
  | _, [] => []
  | i, v :: l => if am_rt v then am_al (i + 1) l else (i, v) :: am_al (i + 1) l
def am_L (n : Nat) (L : List Value) (ls : Array Slot) : Prop := L.length = n ∧ lv_has ls n (am_al 0 L)
abbrev Mi : Type := String × ByteArray × Nat × String × Option FieldType × Nat × Nat × Nat
abbrev mO (M : Mi) : String := M.1
abbrev mB (M : Mi) : ByteArray := M.2.1
abbrev mL (M : Mi) : Nat := M.2.2.1
abbrev mN (M : Mi) : String := M.2.2.2.1
abbrev mR (M : Mi) : Option FieldType := M.2.2.2.2.1
abbrev mD (M : Mi) : Nat := M.2.2.2.2.2.1
abbrev mC (M : Mi) : Nat := M.2.2.2.2.2.2.1
abbrev mS (M : Mi) : Nat := M.2.2.2.2.2.2.2
def am_C (X : Cx) (M : Mi) (p : Program) (R : Room) (s : State) (m : MethodId) (args : Array Value) (meth : Method) (c : Code) : Prop :=
  p.tables.exec = Jvm.exec ∧ c.code = mB M ∧ c.maxLocals = mL M ∧ s.vm.findClass (mO M) = some m.cls ∧ (∀ w ∈ am_T, w.before args s = true) ∧ am_K X s ∧ am_X X s ∧ meth.name = mN M ∧ meth.sig.returnType = mR M ∧ R = am_rm (mD M) (mC M) (mS M)
def am_R (M : Mi) (pc : Nat) (r : Option Value) : Prop :=
  (r = none ∧ mR M = none ∧ decode (mB M) pc = .ok (.return_, 1)) ∨ (∃ (v : Int32) (ty : FieldType), r = some (.int v) ∧ mR M = some ty ∧ narrow ty (.int v) = .int v ∧ decode (mB M) pc = .ok (.ireturn, 1)) ∨ (∃ v : Int64, r = some (.long v) ∧ mR M = some .long ∧ decode (mB M) pc = .ok (.lreturn, 1))
/-- from the frame (pc, L, st) over the heap S the method comes to its end, with Q -/
def Ev (X : Cx) (M : Mi) (Q : Option Value → Hs → Prop) (kc ks : Nat) (S : Hs) (pc : Nat) (L st : List Value) : Prop :=
  ∀ (p : Program) (e : Env) (R : Room) (s : State) (m : MethodId) (args : Array Value) (below : List Frame) (meth : Method) (c : Code) (H : Heap) (locs : List Loc) (ls : Array Slot) (Qm : State → Prop),
    am_C X M p R s m args meth c → am_I X s S H locs → am_L (mL M) L ls →
    (∀ (r : Option Value) (S' : Hs) (H' : Heap) (locs' : List Loc) (pc' : Nat) (ls' : Array Slot), Q r S' → am_I X s S' H' locs' → am_R M pc' r → W p (xl X) e R s m args below meth c H' locs' (mC M) (mS M) Qm (F0 m pc' ls' r.toList)) →
    W p (xl X) e R s m args below meth c H locs kc ks Qm (F0 m pc ls st)
def hup (h : Hp) (a : Nat) (o : Ob) : Hp := fun q => if q = a then some o else h q
theorem up_s (h : Hp) (a : Nat) (o : Ob) : hup h a o a = some o := if_pos rfl
theorem up_n {h : Hp} {a q : Nat} {o : Ob} (hq : q ≠ a) : hup h a o q = h q := if_neg hq
def am_st1 : List Value → Nat → Value → List Value
  | [], _, _ => []
  | _ :: l, 0, v => v :: l
  | a :: l, 1, v => (if a.category = 2 then .retAddr 0 else a) :: am_st1 l 0 v
  | a :: l, i + 2, v => a :: am_st1 l (i + 1) v
def am_st2 : List Value → Nat → Value → List Value
  | [], _, _ => []
  | [_], 0, _ => [.retAddr 0]
  | _ :: _ :: l, 0, v => v :: .retAddr 0 :: l
  | a :: l, 1, v => (if a.category = 2 then .retAddr 0 else a) :: am_st2 l 0 v
  | a :: l, i + 2, v => a :: am_st2 l (i + 1) v
/-- a method's locals at its entry -/
def am_en : Nat → List Value → List Value
  | 0, _ => []
  | n + 1, [] => .retAddr 0 :: am_en n []
  | n + 1, v :: vs => if v.category = 2 then v :: (match n with
    | 0 => []
    | k + 1 => .retAddr 0 :: am_en k vs) else v :: am_en n vs
theorem am_al_mem : ∀ (L : List Value) (k i : Nat) (v : Value), (i, v) ∈ am_al k L ↔ ∃ j : Nat, i = k + j ∧ L[j]? = some v ∧ am_rt v = false := by
  intro L
  induction L with
  | nil => intro k i v; simp [am_al]
  | cons a L ih =>
    intro k i v
    unfold am_al
    by_cases ha : am_rt a = true
    · rw [if_pos ha, ih]
      constructor
      · rintro ⟨j, h1, h2, h3⟩
        exact ⟨j + 1, by omega, by simpa using h2, h3⟩
      · rintro ⟨j, h1, h2, h3⟩
        cases j with
        | zero => simp at h2; subst h2; rw [ha] at h3; cases h3
        | succ j => exact ⟨j, by omega, by simpa using h2, h3⟩
    · rw [if_neg ha, List.mem_cons, ih]
      constructor
      · rintro (h | ⟨j, h1, h2, h3⟩)
        · cases h; exact ⟨0, rfl, rfl, by simpa using ha⟩
        · exact ⟨j + 1, by omega, by simpa using h2, h3⟩
      · rintro ⟨j, h1, h2, h3⟩
        cases j with
        | zero => simp at h2; subst h2; left; simp at h1; rw [h1]
        | succ j => right; exact ⟨j, by omega, by simpa using h2, h3⟩
theorem am_L.get {n : Nat} {L : List Value} {ls : Array Slot} (h : am_L n L ls) {i : Nat} {v : Value} (hv : L[i]? = some v) (hr : am_rt v = false) : ls[i]? = some (.val v) :=
  h.2.2.2 (i, v) ((am_al_mem L 0 i v).mpr ⟨i, by omega, hv, hr⟩)
theorem am_L.lt {n : Nat} {L : List Value} {ls : Array Slot} (h : am_L n L ls) {i : Nat} {v : Value} (hv : L[i]? = some v) : i < n := by
  rw [← h.1]; exact (List.getElem?_eq_some_iff.mp hv).1
theorem am_st1_len : ∀ (L : List Value) (i : Nat) (v : Value), (am_st1 L i v).length = L.length := by
  intro L
  induction L with
  | nil => intro i v; cases i <;> rfl
  | cons a L ih =>
    intro i v
    match i with
    | 0 => rfl
    | 1 => simp [am_st1, ih]
    | i + 2 => simp [am_st1, ih]
theorem am_st1_get : ∀ (L : List Value) (i : Nat) (v : Value) (j : Nat) (w : Value), (am_st1 L i v)[j]? = some w → am_rt w = false → (j = i ∧ w = v) ∨ (j ≠ i ∧ L[j]? = some w ∧ ¬ (j + 1 = i ∧ w.category = 2)) := by
  intro L
  induction L with
  | nil => intro i v j w h; cases i <;> simp [am_st1] at h
  | cons a L ih =>
    intro i v j w h hr
    match i, j with
    | 0, 0 => simp [am_st1] at h; left; exact ⟨rfl, h.symm⟩
    | 0, j + 1 => simp [am_st1] at h; right; exact ⟨by omega, by simpa using h, by omega⟩
    | 1, 0 =>
      simp only [am_st1, List.getElem?_cons_zero, Option.some.injEq] at h
      by_cases hc : a.category = 2
      · rw [if_pos hc] at h; subst h; cases hr
      · rw [if_neg hc] at h; subst h; right; exact ⟨by omega, rfl, fun q => hc q.2⟩
    | 1, j + 1 =>
      simp only [am_st1, List.getElem?_cons_succ] at h
      rcases ih 0 v j w h hr with ⟨h1, h2⟩ | ⟨h1, h2, h3⟩
      · left; exact ⟨by omega, h2⟩
      · right; exact ⟨by omega, by simpa using h2, by omega⟩
    | i + 2, 0 =>
      simp only [am_st1, List.getElem?_cons_zero, Option.some.injEq] at h
      subst h; right; exact ⟨by omega, rfl, by omega⟩
    | i + 2, j + 1 =>
      simp only [am_st1, List.getElem?_cons_succ] at h
      rcases ih (i + 1) v j w h hr with ⟨h1, h2⟩ | ⟨h1, h2, h3⟩
      · left; exact ⟨by omega, h2⟩
      · right; exact ⟨by omega, by simpa using h2, fun q => h3 ⟨by omega, q.2⟩⟩
theorem am_st2_len : ∀ (L : List Value) (i : Nat) (v : Value), (am_st2 L i v).length = L.length := by
  intro L
  induction L with
  | nil => intro i v; cases i <;> rfl
  | cons a L ih =>
    intro i v
    match i, L with
    | 0, [] => rfl
    | 0, b :: L => rfl
    | 1, L => simp [am_st2, ih]
    | i + 2, L => simp [am_st2, ih]
theorem am_st2_get : ∀ (L : List Value) (i : Nat) (v : Value) (j : Nat) (w : Value), (am_st2 L i v)[j]? = some w → am_rt w = false → (j = i ∧ w = v) ∨ (j ≠ i ∧ j ≠ i + 1 ∧ L[j]? = some w ∧ ¬ (j + 1 = i ∧ w.category = 2)) := by
  intro L
  induction L with
  | nil => intro i v j w h; cases i <;> simp [am_st2] at h
  | cons a L ih =>
    intro i v j w h hr
    match i, L, j, ih, h with
    | 0, [], 0, _, h => simp [am_st2] at h; subst h; cases hr
    | 0, [], j + 1, _, h => simp [am_st2] at h
    | 0, b :: L, 0, _, h => simp [am_st2] at h; left; exact ⟨rfl, h.symm⟩
    | 0, b :: L, 1, _, h => simp [am_st2] at h; subst h; cases hr
    | 0, b :: L, j + 2, _, h => simp [am_st2] at h; right; exact ⟨by omega, by omega, by simpa using h, by omega⟩
    | 1, L, 0, _, h =>
      simp only [am_st2, List.getElem?_cons_zero, Option.some.injEq] at h
      by_cases hc : a.category = 2
      · rw [if_pos hc] at h; subst h; cases hr
      · rw [if_neg hc] at h; subst h; right; exact ⟨by omega, by omega, rfl, fun q => hc q.2⟩
    | 1, L, j + 1, ih, h =>
      simp only [am_st2, List.getElem?_cons_succ] at h
      rcases ih 0 v j w h hr with ⟨h1, h2⟩ | ⟨h1, h2, h3, h4⟩
      · left; exact ⟨by omega, h2⟩
      · right; exact ⟨by omega, by omega, by simpa using h3, by omega⟩
    | i + 2, L, 0, _, h =>
      simp only [am_st2, List.getElem?_cons_zero, Option.some.injEq] at h
      subst h; right; exact ⟨by omega, by omega, rfl, by omega⟩
    | i + 2, L, j + 1, ih, h =>
      simp only [am_st2, List.getElem?_cons_succ] at h
      rcases ih (i + 1) v j w h hr with ⟨h1, h2⟩ | ⟨h1, h2, h3, h4⟩
      · left; exact ⟨by omega, h2⟩
      · right; exact ⟨by omega, by omega, by simpa using h3, fun q => h4 ⟨by omega, q.2⟩⟩
theorem lv_has_mono {ls : Array Slot} {n : Nat} {l l' : List (Nat × Value)} (h : lv_has ls n l) (hs : ∀ q ∈ l', q ∈ l) : lv_has ls n l' := ⟨h.1, h.2.1, fun q hq => h.2.2 q (hs q hq)⟩
theorem am_L.st1 {n : Nat} {L L' : List Value} {ls : Array Slot} {i : Nat} {v : Value} (hl : L.length = n) (hL' : am_st1 L i v = L') (h : lv_has ls n ((i, v) :: (am_al 0 L).filter (fun q => !(q.1 == i) && !(q.1 + 1 == i && q.2.category == 2)))) : am_L n L' ls := by
  subst hL'
  refine ⟨by rw [am_st1_len, hl], lv_has_mono h fun q hq => ?_⟩
  obtain ⟨j, w⟩ := q
  obtain ⟨k, h1, h2, h3⟩ := (am_al_mem _ 0 j w).mp hq
  have hk : k = j := by omega
  subst hk
  rcases am_st1_get L i v k w h2 h3 with ⟨e1, e2⟩ | ⟨e1, e2, e3⟩
  · rw [e1, e2]; exact List.mem_cons_self
  · refine List.mem_cons_of_mem _ (List.mem_filter.mpr ⟨(am_al_mem _ 0 k w).mpr ⟨k, by omega, e2, h3⟩, ?_⟩)
    simp only [Bool.and_eq_true, Bool.not_eq_true', beq_eq_false_iff_ne, ne_eq, Bool.and_eq_false_iff]
    refine ⟨e1, ?_⟩
    by_cases hc : w.category = 2
    · left; exact fun q => e3 ⟨q, hc⟩
    · right; exact hc
theorem am_L.st2 {n : Nat} {L L' : List Value} {ls : Array Slot} {i : Nat} {v : Value} (hl : L.length = n) (hL' : am_st2 L i v = L') (h : lv_has ls n ((i, v) :: (am_al 0 L).filter (fun q => !(q.1 == i) && (!(q.1 == i + 1) && !(q.1 + 1 == i && q.2.category == 2))))) : am_L n L' ls := by
  subst hL'
  refine ⟨by rw [am_st2_len, hl], lv_has_mono h fun q hq => ?_⟩
  obtain ⟨j, w⟩ := q
  obtain ⟨k, h1, h2, h3⟩ := (am_al_mem _ 0 j w).mp hq
  have hk : k = j := by omega
  subst hk
  rcases am_st2_get L i v k w h2 h3 with ⟨e1, e2⟩ | ⟨e1, e1', e2, e3⟩
  · rw [e1, e2]; exact List.mem_cons_self
  · refine List.mem_cons_of_mem _ (List.mem_filter.mpr ⟨(am_al_mem _ 0 k w).mpr ⟨k, by omega, e2, h3⟩, ?_⟩)
    simp only [Bool.and_eq_true, Bool.not_eq_true', beq_eq_false_iff_ne, ne_eq, Bool.and_eq_false_iff]
    refine ⟨e1, e1', ?_⟩
    by_cases hc : w.category = 2
    · left; exact fun q => e3 ⟨q, hc⟩
    · right; exact hc
theorem am_en_len : ∀ (n : Nat) (vs : List Value), (am_en n vs).length = n
  | 0, _ => by simp [am_en]
  | n + 1, [] => by simp [am_en, am_en_len n []]
  | n + 1, v :: vs => by
    unfold am_en
    by_cases hc : v.category = 2
    · rw [if_pos hc]
      match n with
      | 0 => rfl
      | k + 1 => simp [am_en_len k vs]
    · rw [if_neg hc]
      simp [am_en_len n vs]
theorem am_en_mem : ∀ (n : Nat) (vs : List Value) (b i : Nat) (v : Value), (i, v) ∈ am_al b (am_en n vs) → (i, v) ∈ lv_args b vs
  | 0, _, b, i, v, h => by simp [am_en, am_al] at h
  | n + 1, [], b, i, v, h => by
    have h2 : (i, v) ∈ am_al (b + 1) (am_en n []) := by simpa [am_en, am_al, am_rt] using h
    have := am_en_mem n [] (b + 1) i v h2
    simp [lv_args] at this
  | n + 1, w :: vs, b, i, v, h => by
    unfold am_en at h
    unfold lv_args
    by_cases hc : w.category = 2
    · rw [if_pos hc] at h
      rw [if_pos hc]
      match n, h with
      | 0, h =>
        simp only [am_al] at h
        by_cases hr : am_rt w = true
        · rw [if_pos hr] at h; cases h
        · rw [if_neg hr] at h
          simp at h
          exact List.mem_cons.mpr (Or.inl (by rw [h.1, h.2]))
      | k + 1, h =>
        simp only [am_al] at h
        by_cases hr : am_rt w = true
        · rw [if_pos hr, if_pos (show am_rt (.retAddr 0) = true from rfl)] at h
          exact List.mem_cons_of_mem _ (am_en_mem k vs (b + 2) i v h)
        · rw [if_neg hr, if_pos (show am_rt (.retAddr 0) = true from rfl)] at h
          rcases List.mem_cons.mp h with h | h
          · exact List.mem_cons.mpr (Or.inl h)
          · exact List.mem_cons_of_mem _ (am_en_mem k vs (b + 2) i v h)
    · rw [if_neg hc] at h
      rw [if_neg hc]
      simp only [am_al] at h
      by_cases hr : am_rt w = true
      · rw [if_pos hr] at h
        exact List.mem_cons_of_mem _ (am_en_mem n vs (b + 1) i v h)
      · rw [if_neg hr] at h
        rcases List.mem_cons.mp h with h | h
        · exact List.mem_cons.mpr (Or.inl h)
        · exact List.mem_cons_of_mem _ (am_en_mem n vs (b + 1) i v h)
