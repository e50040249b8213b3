/-! ===== DawnTales: orders, surely, on, by ===== -/
/-- of the first so many: how many keep P, and the first one's C -/
def orF (P : Nat → Bool) (C : Nat → Nat) : Nat → Nat × Nat
  | 0 => (0, 0)
  | k + 1 => if P k = true then ((orF P C k).1 + 1, if (orF P C k).1 = 0 then C k else (orF P C k).2) else orF P C k
theorem orF_le (P : Nat → Bool) (C : Nat → Nat) : ∀ k : Nat, (orF P C k).1 ≤ k
  | 0 => Nat.le_refl _
  | k + 1 => by
    have := orF_le P C k
    simp only [orF]
    split
    · dsimp only; omega
    · omega
/-- what all of the first so many that keep P have -/
def suF (P : Nat → Bool) (M : Nat → Nat) : Nat → Option Nat
  | 0 => none
  | k + 1 => if P k = true then (match suF P M k with
    | none => some (M k)
    | some b => some (b &&& M k)) else suF P M k
theorem suF_lt (P : Nat → Bool) (M : Nat → Nat) (h : ∀ k, M k < 64) : ∀ k b : Nat, suF P M k = some b → b < 64
  | 0, b, e => by cases e
  | k + 1, b, e => by
    have ih := suF_lt P M h k
    simp only [suF] at e
    split at e
    · split at e
      · cases e; exact h k
      · next b' eb =>
        cases e
        exact Nat.lt_of_le_of_lt Nat.and_le_left (ih b' eb)
    · exact ih b e
/-- the i-th order of all the tales -/
def fW (B : Bk) (k : Nat) : List Nat := rW B ((preW (bT B) (bT B)).length + k)
def fN (B : Bk) : Nat := nW B - (preW (bT B) (bT B)).length
theorem fN_le (B : Bk) : (preW (bT B) (bT B)).length ≤ nW B := by unfold nW allW; rw [List.length_append]; omega
def orP (B : Bk) (wn op : List Nat) (n k : Nat) : Bool := asH (outW B (fW B k)) wn op n 0
def suP (B : Bk) (wn op : List Nat) (n e k : Nat) : Bool := decide (e ≤ (outW B (fW B k)).length) && asH (outW B (fW B k)) wn op n 0
def aOrd (B : Bk) (wn op : List Nat) (n : Nat) (x : Int32) : Int32 := if x.toInt = 0 then nI (orF (orP B wn op n) (fun k => cod (fW B k)) (fN B)).1 else nI (orF (orP B wn op n) (fun k => cod (fW B k)) (fN B)).2
def aSure (B : Bk) (wn op : List Nat) (n e : Nat) : Int32 := oI (suF (suP B wn op n e) (fun k => gN (outW B (fW B k)) (e - 1)) (fN B))
section ORD
variable {X : Cx} {h : Hp} {z d n m : Nat} {cs : List Nat} {B : Bk} {N : Tl} {P : List Tl} {I J : Im} {wn op : List Nat} {tr : Int64}
theorem c_D_orders_bad {x : Int32} (hx : ¬ (x.toInt = 0 ∨ x.toInt = 1)) : Ct X 6 mt_X11_orders [.ref d, .int x] (h, z) 0 0 (QP (.int (-1)) (h, z)) := by
  refine mk_X11_orders (Nat.le_of_ble_eq_true rfl) (L := [.ref d, .int x, .retAddr 0, .retAddr 0, .retAddr 0]) rfl ?_
  refine ev_iload_n (pc := 0) dX11_orders_0 rfl ?_
  refine iv_X11_204 (pc := 1) rfl dX11_orders_1 (Nat.le_of_ble_eq_true rfl) (Nat.le_of_ble_eq_true rfl) (Nat.le_of_ble_eq_true rfl) (Nat.le_of_ble_eq_true rfl) (c_isPairPart x) (kp ?_)
  rw [decide_eq_false hx]
  refine ev_if_ne (pc := 4) 9 dX11_orders_4 (by decide) (fun c_4 => ?_) (fun c_4 => ?_)
  · exact absurd rfl c_4
  · (try simp (disch := omega) only [i32_lti, i32_lei, i32_eqi, nI_toInt, i32z] at c_4)
    refine ev_iconst (pc := 7) (v := (-1)) dX11_orders_7 kc_m1 ?_
    refine ev_iret (pc := 8) dX11_orders_8 rfl rfl (Nat.le_of_ble_eq_true rfl) (Nat.le_of_ble_eq_true rfl) ?_
    exact ⟨rfl, rfl⟩
theorem c_D_orders (p : pC h d cs B N P I J wn op n tr) (b9 : wB m B) (hm : m < 99) {x : Int32} (hx : x.toInt = 0 ∨ x.toInt = 1) : Ct X 6 mt_X11_orders [.ref d, .int x] (h, z) 0 0 (Qi (fun r S' => r = aOrd B wn op n x ∧ S'.2 = z ∧ hfr h S'.1 d 174 ∧ pC S'.1 d cs B N P I J wn op n tr)) := by
  obtain ⟨po, -, pb, -, -, -, ⟨kn, pr⟩, ph, -⟩ := id p
  have pd := po
  unfold pDO at po
  have l19 := nW_le b9
  have lf := fN_le B
  obtain ⟨s_, fu_, lb_, os_, nx_, pr1, -⟩ := id pr
  unfold pRO at pr1
  refine mk_X11_orders (Nat.le_of_ble_eq_true rfl) (L := [.ref d, .int x, .retAddr 0, .retAddr 0, .retAddr 0]) rfl ?_
  have loop : ∀ (h1 : Hp) (lb osz nx : Int32), hfr h h1 (d + 58) 11 → pC h1 d cs B N P I J wn op n tr → pRO h1 (d + 58) (nW B) (preW (bT B) (bT B)).length true lb osz nx → pRow h1 (d + 58) (allW (bT B) (bT B)) → pOut h1 (d + 58) (allW (bT B) (bT B)) (outW B) → ∀ (c k : Nat), k + c = fN B → Ev X (mi_X11_orders 6 0 0) (Qi (fun r S' => r = aOrd B wn op n x ∧ S'.2 = z ∧ hfr h S'.1 d 174 ∧ pC S'.1 d cs B N P I J wn op n tr)) 0 0 (h1, z) 33 [.ref d, .int x, .int (nI (orF (orP B wn op n) (fun k => cod (fW B k)) k).1), .int (nI (orF (orP B wn op n) (fun k => cod (fW B k)) k).2), .int (nI ((preW (bT B) (bT B)).length + k))] [] := by
    intro h1 lb osz nx f1 p1 o1 w1 u1 c
    have o1' := o1
    unfold pRO at o1'
    have pd1 := p1.1
    have pd1' := pd1
    unfold pDO at pd1'
    have ph1 := p1.2.2.2.2.2.2.2.1
    induction c with
    | zero =>
      intro k hk
      have ek : k = fN B := by omega
      subst ek
      unfold fN at hk
      refine ev_iload (pc := 33) dX11_orders_33 rfl ?_
      refine ev_aload_n (pc := 35) dX11_orders_35 rfl ?_
      refine gf_X11_40 (pc := 36) rfl dX11_orders_36 (by (try dsimp only); (repeat (first | rw [up_s] | rw [up_n (by omega)])) <;> first | rfl | assumption) ?_
      refine gf_X11_250 (pc := 39) rfl dX11_orders_39 (by (try dsimp only); (repeat (first | rw [up_s] | rw [up_n (by omega)])) <;> first | rfl | assumption) ?_
      refine ev_icmp_ge (pc := 42) 81 dX11_orders_42 (by decide) (fun c_42 => ?_) (fun c_42 => ?_)
      · (try simp (disch := omega) only [i32_lti, i32_lei, i32_eqi, nI_toInt, i32z] at c_42)
        refine ev_iload_n (pc := 81) dX11_orders_81 rfl ?_
        refine ev_if_ne (pc := 82) 89 dX11_orders_82 (by decide) (fun c_82 => ?_) (fun c_82 => ?_)
        · (try simp (disch := omega) only [i32_lti, i32_lei, i32_eqi, nI_toInt, i32z] at c_82)
          refine ev_iload_n (pc := 89) dX11_orders_89 rfl ?_
          refine ev_iret (pc := 90) dX11_orders_90 rfl rfl (Nat.le_of_ble_eq_true rfl) (Nat.le_of_ble_eq_true rfl) ?_
          exact ⟨_, rfl, by unfold aOrd; first | (rw [if_pos c_82]) | (rw [if_neg c_82]), rfl, (fun q a => f1 q (by omega)), p1⟩
        · (try simp (disch := omega) only [i32_lti, i32_lei, i32_eqi, nI_toInt, i32z] at c_82)
          refine ev_iload_n (pc := 85) dX11_orders_85 rfl ?_
          refine ev_goto (pc := 86) 90 dX11_orders_86 (by decide) ?_
          refine ev_iret (pc := 90) dX11_orders_90 rfl rfl (Nat.le_of_ble_eq_true rfl) (Nat.le_of_ble_eq_true rfl) ?_
          exact ⟨_, rfl, by unfold aOrd; first | (rw [if_pos c_82]) | (rw [if_neg c_82]), rfl, (fun q a => f1 q (by omega)), p1⟩
      · exfalso; unfold fN at c_42; (try simp (disch := omega) only [i32_lti, i32_lei, i32_eqi, nI_toInt, i32z] at c_42); omega
    | succ c ih =>
      intro k hk
      unfold fN at hk
      have hi : (preW (bT B) (bT B)).length + k < (allW (bT B) (bT B)).length := by show _ < nW B; omega
      have hle := orF_le (orP B wn op n) (fun k => cod (fW B k)) k
      have es : orF (orP B wn op n) (fun k => cod (fW B k)) (k + 1) = if orP B wn op n k = true then ((orF (orP B wn op n) (fun k => cod (fW B k)) k).1 + 1, if (orF (orP B wn op n) (fun k => cod (fW B k)) k).1 = 0 then cod (fW B k) else (orF (orP B wn op n) (fun k => cod (fW B k)) k).2) else orF (orP B wn op n) (fun k => cod (fW B k)) k := rfl
      have hih := ih (k + 1) (by unfold fN; omega)
      refine ev_iload (pc := 33) dX11_orders_33 rfl ?_
      refine ev_aload_n (pc := 35) dX11_orders_35 rfl ?_
      refine gf_X11_40 (pc := 36) rfl dX11_orders_36 (by (try dsimp only); (repeat (first | rw [up_s] | rw [up_n (by omega)])) <;> first | rfl | assumption) ?_
      refine gf_X11_250 (pc := 39) rfl dX11_orders_39 (by (try dsimp only); (repeat (first | rw [up_s] | rw [up_n (by omega)])) <;> first | rfl | assumption) ?_
      refine ev_icmp_ge (pc := 42) 81 dX11_orders_42 (by decide) (fun c_42 => ?_) (fun c_42 => ?_)
      · exfalso; (try simp (disch := omega) only [i32_lti, i32_lei, i32_eqi, nI_toInt, i32z] at c_42); omega
      · (try simp (disch := omega) only [i32_lti, i32_lei, i32_eqi, nI_toInt, i32z] at c_42)
        refine ev_aload_n (pc := 45) dX11_orders_45 rfl ?_
        refine ev_iload (pc := 46) dX11_orders_46 rfl ?_
        refine iv_X11_253 (pc := 48) rfl dX11_orders_48 (by (try dsimp only); (repeat (first | rw [up_s] | rw [up_n (by omega)])) <;> first | rfl | assumption) (Nat.le_of_ble_eq_true rfl) (Nat.le_of_ble_eq_true rfl) (Nat.le_of_ble_eq_true rfl) (Nat.le_of_ble_eq_true rfl) (c_isAsHeard pd1 ph1 o1 u1 hi (by omega)) (kp ?_)
        refine ev_if_eq (pc := 51) 75 dX11_orders_51 (by decide) (fun c_51 => ?_) (fun c_51 => ?_)
        · simp only [b2i_e0, Bool.not_eq_false] at c_51
          rw [es, if_neg (by rw [show orP B wn op n k = false from c_51]; decide)] at hih
          refine ev_iinc (pc := 75) (L' := [_, _, _, _, _]) dX11_orders_75 rfl (nI_1 _) rfl ?_
          refine ev_goto (pc := 78) 33 dX11_orders_78 (by decide) ?_
          first | exact hih | (dsimp only at hih; rw [if_pos (by omega)] at hih; exact hih) | (dsimp only at hih; rw [if_neg (by omega)] at hih; exact hih)
        · simp only [b2i_e0, Bool.not_eq_false] at c_51
          rw [es, if_pos (show orP B wn op n k = true from c_51)] at hih
          refine ev_iload_n (pc := 54) dX11_orders_54 rfl ?_
          refine ev_if_ne (pc := 55) 70 dX11_orders_55 (by decide) (fun c_55 => ?_) (fun c_55 => ?_)
          · (try simp (disch := omega) only [i32_lti, i32_lei, i32_eqi, nI_toInt, i32z] at c_55)
            refine ev_iload_n (pc := 70) dX11_orders_70 rfl ?_
            refine ev_istore_n (pc := 71) (L' := [_, _, _, _, _]) dX11_orders_71 (Nat.le_of_ble_eq_true rfl) rfl ?_
            refine ev_iinc (pc := 72) (L' := [_, _, _, _, _]) dX11_orders_72 rfl (nI_1 _) rfl ?_
            refine ev_iinc (pc := 75) (L' := [_, _, _, _, _]) dX11_orders_75 rfl (nI_1 _) rfl ?_
            refine ev_goto (pc := 78) 33 dX11_orders_78 (by decide) ?_
            first | exact hih | (dsimp only at hih; rw [if_pos (by omega)] at hih; exact hih) | (dsimp only at hih; rw [if_neg (by omega)] at hih; exact hih)
          · (try simp (disch := omega) only [i32_lti, i32_lei, i32_eqi, nI_toInt, i32z] at c_55)
            refine ev_aload_n (pc := 58) dX11_orders_58 rfl ?_
            refine gf_X11_40 (pc := 59) rfl dX11_orders_59 (by (try dsimp only); (repeat (first | rw [up_s] | rw [up_n (by omega)])) <;> first | rfl | assumption) ?_
            refine ev_iload (pc := 62) dX11_orders_62 rfl ?_
            refine iv_X11_216 (pc := 64) rfl dX11_orders_64 (by (try dsimp only); (repeat (first | rw [up_s] | rw [up_n (by omega)])) <;> first | rfl | assumption) (Nat.le_of_ble_eq_true rfl) (Nat.le_of_ble_eq_true rfl) (Nat.le_of_ble_eq_true rfl) (Nat.le_of_ble_eq_true rfl) (c_rowAt o1 w1 (gW_get hi)) (kp ?_)
            refine ev_goto (pc := 67) 71 dX11_orders_67 (by decide) ?_
            refine ev_istore_n (pc := 71) (L' := [_, _, _, _, _]) dX11_orders_71 (Nat.le_of_ble_eq_true rfl) rfl ?_
            refine ev_iinc (pc := 72) (L' := [_, _, _, _, _]) dX11_orders_72 rfl (nI_1 _) rfl ?_
            refine ev_iinc (pc := 75) (L' := [_, _, _, _, _]) dX11_orders_75 rfl (nI_1 _) rfl ?_
            refine ev_goto (pc := 78) 33 dX11_orders_78 (by decide) ?_
            first | exact hih | (dsimp only at hih; rw [if_pos (by omega)] at hih; exact hih) | (dsimp only at hih; rw [if_neg (by omega)] at hih; exact hih)
  refine ev_iload_n (pc := 0) dX11_orders_0 rfl ?_
  refine iv_X11_204 (pc := 1) rfl dX11_orders_1 (Nat.le_of_ble_eq_true rfl) (Nat.le_of_ble_eq_true rfl) (Nat.le_of_ble_eq_true rfl) (Nat.le_of_ble_eq_true rfl) (c_isPairPart x) (kp ?_)
  rw [decide_eq_true hx]
  refine ev_if_ne (pc := 4) 9 dX11_orders_4 (by decide) (fun c_4 => ?_) (fun c_4 => ?_)
  · (try simp (disch := omega) only [i32_lti, i32_lei, i32_eqi, nI_toInt, i32z] at c_4)
    refine ev_aload_n (pc := 9) dX11_orders_9 rfl ?_
    refine gf_X11_40 (pc := 10) rfl dX11_orders_10 (by (try dsimp only); (repeat (first | rw [up_s] | rw [up_n (by omega)])) <;> first | rfl | assumption) ?_
    refine ev_aload_n (pc := 13) dX11_orders_13 rfl ?_
    refine gf_X11_19 (pc := 14) rfl dX11_orders_14 (by (try dsimp only); (repeat (first | rw [up_s] | rw [up_n (by omega)])) <;> first | rfl | assumption) ?_
    refine iv_X11_207 (pc := 17) rfl dX11_orders_17 (by (try dsimp only); (repeat (first | rw [up_s] | rw [up_n (by omega)])) <;> first | rfl | assumption) (Nat.le_of_ble_eq_true rfl) (Nat.le_of_ble_eq_true rfl) (Nat.le_of_ble_eq_true rfl) (Nat.le_of_ble_eq_true rfl) (c_know pr b9 (by omega) pb (by omega)) (kv (fun S' hS => ?_))
    obtain ⟨h1, z'⟩ := S'
    obtain ⟨rfl, f1, r1⟩ := hS
    have po1 := (f1 d (by omega)).trans po
    have fin := p.rw (fun q a => f1 q (by omega)) r1
    obtain ⟨lb, osz, nx, o1, w1, u1⟩ := r1.k b9 (by omega)
    have o1' := o1
    unfold pRO at o1'
    refine ev_iconst (pc := 20) (v := nI 0) dX11_orders_20 kc_0 ?_
    refine ev_istore_n (pc := 21) (L' := [_, _, _, _, _]) dX11_orders_21 (Nat.le_of_ble_eq_true rfl) rfl ?_
    refine ev_iconst (pc := 22) (v := nI 0) dX11_orders_22 kc_0 ?_
    refine ev_istore_n (pc := 23) (L' := [_, _, _, _, _]) dX11_orders_23 (Nat.le_of_ble_eq_true rfl) rfl ?_
    refine ev_aload_n (pc := 24) dX11_orders_24 rfl ?_
    refine gf_X11_40 (pc := 25) rfl dX11_orders_25 (by (try dsimp only); (repeat (first | rw [up_s] | rw [up_n (by omega)])) <;> first | rfl | assumption) ?_
    refine gf_X11_247 (pc := 28) rfl dX11_orders_28 (by (try dsimp only); (repeat (first | rw [up_s] | rw [up_n (by omega)])) <;> first | rfl | assumption) ?_
    refine ev_istore (pc := 31) (L' := [_, _, _, _, _]) dX11_orders_31 (Nat.le_of_ble_eq_true rfl) rfl ?_
    exact loop h1 lb osz nx f1 fin o1 w1 u1 (fN B) 0 (by omega)
  · exact absurd c_4 (by decide)
theorem c_D_surely_bad {e : Int32} (hx : ¬ (1 ≤ e.toInt ∧ e.toInt ≤ 30)) : Ct X 6 mt_X11_surely [.ref d, .int e] (h, z) 0 0 (QP (.int (-1)) (h, z)) := by
  refine mk_X11_surely (Nat.le_of_ble_eq_true rfl) (L := [.ref d, .int e, .retAddr 0, .retAddr 0, .retAddr 0]) rfl ?_
  refine ev_iload_n (pc := 0) dX11_surely_0 rfl ?_
  refine iv_X11_225 (pc := 1) rfl dX11_surely_1 (Nat.le_of_ble_eq_true rfl) (Nat.le_of_ble_eq_true rfl) (Nat.le_of_ble_eq_true rfl) (Nat.le_of_ble_eq_true rfl) (c_isDawn e) (kp ?_)
  rw [decide_eq_false hx]
  refine ev_if_ne (pc := 4) 9 dX11_surely_4 (by decide) (fun c_4 => ?_) (fun c_4 => ?_)
  · exact absurd rfl c_4
  · (try simp (disch := omega) only [i32_lti, i32_lei, i32_eqi, nI_toInt, i32z] at c_4)
    refine ev_iconst (pc := 7) (v := (-1)) dX11_surely_7 kc_m1 ?_
    refine ev_iret (pc := 8) dX11_surely_8 rfl rfl (Nat.le_of_ble_eq_true rfl) (Nat.le_of_ble_eq_true rfl) ?_
    exact ⟨rfl, rfl⟩
theorem c_D_surely (p : pC h d cs B N P I J wn op n tr) (b9 : wB m B) (hm : m < 99) {e : Nat} (h1e : 1 ≤ e) (he : e ≤ 30) : Ct X 6 mt_X11_surely [.ref d, .int (nI e)] (h, z) 0 0 (Qi (fun r S' => r = aSure B wn op n e ∧ S'.2 = z ∧ hfr h S'.1 d 174 ∧ pC S'.1 d cs B N P I J wn op n tr)) := by
  obtain ⟨po, -, pb, -, -, -, ⟨kn, pr⟩, ph, -⟩ := id p
  have pd := po
  unfold pDO at po
  have l19 := nW_le b9
  have lf := fN_le B
  obtain ⟨s_, fu_, lb_, os_, nx_, pr1, -⟩ := id pr
  unfold pRO at pr1
  refine mk_X11_surely (Nat.le_of_ble_eq_true rfl) (L := [.ref d, .int (nI e), .retAddr 0, .retAddr 0, .retAddr 0]) rfl ?_
  have loop : ∀ (h1 : Hp) (lb osz nx : Int32), hfr h h1 (d + 58) 11 → pC h1 d cs B N P I J wn op n tr → pRO h1 (d + 58) (nW B) (preW (bT B) (bT B)).length true lb osz nx → pOut h1 (d + 58) (allW (bT B) (bT B)) (outW B) → ∀ (c k : Nat) (v : Value), k + c = fN B → (∀ (j b : Nat), j ≤ k → suF (suP B wn op n e) (fun k => gN (outW B (fW B k)) (e - 1)) j = some b → b < 64) → Ev X (mi_X11_surely 6 0 0) (Qi (fun r S' => r = aSure B wn op n e ∧ S'.2 = z ∧ hfr h S'.1 d 174 ∧ pC S'.1 d cs B N P I J wn op n tr)) 0 0 (h1, z) 31 [.ref d, .int (nI e), .int (oI (suF (suP B wn op n e) (fun k => gN (outW B (fW B k)) (e - 1)) k)), .int (nI ((preW (bT B) (bT B)).length + k)), v] [] := by
    intro h1 lb osz nx f1 p1 o1 u1 c
    have o1' := o1
    unfold pRO at o1'
    have pd1 := p1.1
    have pd1' := pd1
    unfold pDO at pd1'
    have ph1 := p1.2.2.2.2.2.2.2.1
    induction c with
    | zero =>
      intro k v hk hlt
      have ek : k = fN B := by omega
      subst ek
      unfold fN at hk
      refine ev_iload_n (pc := 31) dX11_surely_31 rfl ?_
      refine ev_aload_n (pc := 32) dX11_surely_32 rfl ?_
      refine gf_X11_40 (pc := 33) rfl dX11_surely_33 (by (try dsimp only); (repeat (first | rw [up_s] | rw [up_n (by omega)])) <;> first | rfl | assumption) ?_
      refine gf_X11_250 (pc := 36) rfl dX11_surely_36 (by (try dsimp only); (repeat (first | rw [up_s] | rw [up_n (by omega)])) <;> first | rfl | assumption) ?_
      refine ev_icmp_ge (pc := 39) 95 dX11_surely_39 (by decide) (fun c_39 => ?_) (fun c_39 => ?_)
      · (try simp (disch := omega) only [i32_lti, i32_lei, i32_eqi, nI_toInt, i32z] at c_39)
        refine ev_iload_n (pc := 95) dX11_surely_95 rfl ?_
        refine ev_iret (pc := 96) dX11_surely_96 rfl rfl (Nat.le_of_ble_eq_true rfl) (Nat.le_of_ble_eq_true rfl) ?_
        exact ⟨_, rfl, rfl, rfl, (fun q a => f1 q (by omega)), p1⟩
      · exfalso; unfold fN at c_39; (try simp (disch := omega) only [i32_lti, i32_lei, i32_eqi, nI_toInt, i32z] at c_39); omega
    | succ c ih =>
      intro k v hk hlt
      unfold fN at hk
      have hi : (preW (bT B) (bT B)).length + k < (allW (bT B) (bT B)).length := by show _ < nW B; omega
      have hM : gN (outW B (fW B k)) (e - 1) < 64 := gN_lt (u1.ok hi).2 (by omega) _
      have hl30 := (u1.ok hi).1
      have es : suF (suP B wn op n e) (fun k => gN (outW B (fW B k)) (e - 1)) (k + 1) = if suP B wn op n e k = true then (match suF (suP B wn op n e) (fun k => gN (outW B (fW B k)) (e - 1)) k with | none => some (gN (outW B (fW B k)) (e - 1)) | some b => some (b &&& gN (outW B (fW B k)) (e - 1))) else suF (suP B wn op n e) (fun k => gN (outW B (fW B k)) (e - 1)) k := rfl
      have hlt2 : ∀ (j b : Nat), j ≤ k + 1 → suF (suP B wn op n e) (fun k => gN (outW B (fW B k)) (e - 1)) j = some b → b < 64 := by
        intro j b hj hb
        by_cases hjk : j ≤ k
        · exact hlt j b hjk hb
        · have : j = k + 1 := by omega
          subst this
          rw [es] at hb
          split at hb
          · split at hb
            · cases hb; exact hM
            · next b' eb => cases hb; exact Nat.lt_of_le_of_lt Nat.and_le_left (hlt k b' (Nat.le_refl _) eb)
          · exact hlt k b (Nat.le_refl _) hb
      have hsp : (e ≤ (outW B (fW B k)).length → suP B wn op n e k = asH (outW B (fW B k)) wn op n 0) ∧ (¬ e ≤ (outW B (fW B k)).length → suP B wn op n e k = false) := by
        unfold suP
        exact ⟨fun q => by rw [decide_eq_true q, Bool.true_and], fun q => by rw [decide_eq_false q, Bool.false_and]⟩
      have hih := fun v => ih (k + 1) v (by unfold fN; omega) hlt2
      rw [es] at hih
      refine ev_iload_n (pc := 31) dX11_surely_31 rfl ?_
      refine ev_aload_n (pc := 32) dX11_surely_32 rfl ?_
      refine gf_X11_40 (pc := 33) rfl dX11_surely_33 (by (try dsimp only); (repeat (first | rw [up_s] | rw [up_n (by omega)])) <;> first | rfl | assumption) ?_
      refine gf_X11_250 (pc := 36) rfl dX11_surely_36 (by (try dsimp only); (repeat (first | rw [up_s] | rw [up_n (by omega)])) <;> first | rfl | assumption) ?_
      refine ev_icmp_ge (pc := 39) 95 dX11_surely_39 (by decide) (fun c_39 => ?_) (fun c_39 => ?_)
      · exfalso; (try simp (disch := omega) only [i32_lti, i32_lei, i32_eqi, nI_toInt, i32z] at c_39); omega
      · (try simp (disch := omega) only [i32_lti, i32_lei, i32_eqi, nI_toInt, i32z] at c_39)
        refine ev_aload_n (pc := 42) dX11_surely_42 rfl ?_
        refine gf_X11_40 (pc := 43) rfl dX11_surely_43 (by (try dsimp only); (repeat (first | rw [up_s] | rw [up_n (by omega)])) <;> first | rfl | assumption) ?_
        refine ev_iload_n (pc := 46) dX11_surely_46 rfl ?_
        refine iv_X11_213 (pc := 47) rfl dX11_surely_47 (by (try dsimp only); (repeat (first | rw [up_s] | rw [up_n (by omega)])) <;> first | rfl | assumption) (Nat.le_of_ble_eq_true rfl) (Nat.le_of_ble_eq_true rfl) (Nat.le_of_ble_eq_true rfl) (Nat.le_of_ble_eq_true rfl) (c_savedBy o1 u1 (gW_get hi) (by omega)) (kp ?_)
        refine ev_iload_n (pc := 50) dX11_surely_50 rfl ?_
        refine ev_icmp_lt (pc := 51) 89 dX11_surely_51 (by decide) (fun c_51 => ?_) (fun c_51 => ?_)
        · (try simp (disch := omega) only [i32_lti, i32_lei, i32_eqi, nI_toInt, i32z] at c_51)
          rw [if_neg (by rw [hsp.2 (by change ((outW B (fW B k)).length : Int) < e at c_51; omega)]; decide)] at hih
          refine ev_iinc (pc := 89) (L' := [_, _, _, _, _]) dX11_surely_89 rfl (nI_1 _) rfl ?_
          refine ev_goto (pc := 92) 31 dX11_surely_92 (by decide) ?_
          exact hih _
        · (try simp (disch := omega) only [i32_lti, i32_lei, i32_eqi, nI_toInt, i32z] at c_51)
          refine ev_aload_n (pc := 54) dX11_surely_54 rfl ?_
          refine ev_iload_n (pc := 55) dX11_surely_55 rfl ?_
          refine iv_X11_253 (pc := 56) rfl dX11_surely_56 (by (try dsimp only); (repeat (first | rw [up_s] | rw [up_n (by omega)])) <;> first | rfl | assumption) (Nat.le_of_ble_eq_true rfl) (Nat.le_of_ble_eq_true rfl) (Nat.le_of_ble_eq_true rfl) (Nat.le_of_ble_eq_true rfl) (c_isAsHeard pd1 ph1 o1 u1 hi (by omega)) (kp ?_)
          refine ev_if_eq (pc := 59) 89 dX11_surely_59 (by decide) (fun c_59 => ?_) (fun c_59 => ?_)
          · simp only [b2i_e0, Bool.not_eq_false] at c_59
            rw [if_neg (by rw [hsp.1 (by change ¬ ((outW B (fW B k)).length : Int) < e at c_51; omega), show asH (outW B (fW B k)) wn op n 0 = false from c_59]; decide)] at hih
            refine ev_iinc (pc := 89) (L' := [_, _, _, _, _]) dX11_surely_89 rfl (nI_1 _) rfl ?_
            refine ev_goto (pc := 92) 31 dX11_surely_92 (by decide) ?_
            exact hih _
          · simp only [b2i_e0, Bool.not_eq_false] at c_59
            rw [if_pos (by rw [hsp.1 (by change ¬ ((outW B (fW B k)).length : Int) < e at c_51; omega), show asH (outW B (fW B k)) wn op n 0 = true from c_59])] at hih
            cases ek : suF (suP B wn op n e) (fun k => gN (outW B (fW B k)) (e - 1)) k with
            | none =>
              rw [ek] at hih
              show Ev X _ _ _ _ _ _ [.ref d, .int (nI e), .int (-9), .int (nI ((preW (bT B) (bT B)).length + k)), v] []
              refine ev_aload_n (pc := 62) dX11_surely_62 rfl ?_
              refine gf_X11_40 (pc := 63) rfl dX11_surely_63 (by (try dsimp only); (repeat (first | rw [up_s] | rw [up_n (by omega)])) <;> first | rfl | assumption) ?_
              refine ev_iload_n (pc := 66) dX11_surely_66 rfl ?_
              refine ev_iload_n (pc := 67) dX11_surely_67 rfl ?_
              refine iv_X11_256 (pc := 68) rfl dX11_surely_68 (by (try dsimp only); (repeat (first | rw [up_s] | rw [up_n (by omega)])) <;> first | rfl | assumption) (Nat.le_of_ble_eq_true rfl) (Nat.le_of_ble_eq_true rfl) (Nat.le_of_ble_eq_true rfl) (Nat.le_of_ble_eq_true rfl) (c_rOpenAt o1 u1 (gW_get hi) (by omega) h1e he) (kp ?_)
              refine ev_istore (pc := 71) (L' := [_, _, _, _, _]) dX11_surely_71 (Nat.le_of_ble_eq_true rfl) rfl ?_
              refine ev_iload_n (pc := 73) dX11_surely_73 rfl ?_
              refine ev_bipush (pc := 74) (v := (-9)) dX11_surely_74 kb_m9 ?_
              refine ev_icmp_ne (pc := 76) 84 dX11_surely_76 (by decide) (fun c_76 => ?_) (fun c_76 => ?_)
              · exact absurd rfl c_76
              · (try simp (disch := omega) only [i32_lti, i32_lei, i32_eqi, nI_toInt, i32z] at c_76)
                refine ev_iload (pc := 79) dX11_surely_79 rfl ?_
                refine ev_goto (pc := 81) 88 dX11_surely_81 (by decide) ?_
                refine ev_istore_n (pc := 88) (L' := [_, _, _, _, _]) dX11_surely_88 (Nat.le_of_ble_eq_true rfl) rfl ?_
                refine ev_iinc (pc := 89) (L' := [_, _, _, _, _]) dX11_surely_89 rfl (nI_1 _) rfl ?_
                refine ev_goto (pc := 92) 31 dX11_surely_92 (by decide) ?_
                exact hih _
            | some b =>
              have hb64 := hlt k b (Nat.le_refl _) ek
              rw [ek] at hih
              show Ev X _ _ _ _ _ _ [.ref d, .int (nI e), .int (nI b), .int (nI ((preW (bT B) (bT B)).length + k)), v] []
              refine ev_aload_n (pc := 62) dX11_surely_62 rfl ?_
              refine gf_X11_40 (pc := 63) rfl dX11_surely_63 (by (try dsimp only); (repeat (first | rw [up_s] | rw [up_n (by omega)])) <;> first | rfl | assumption) ?_
              refine ev_iload_n (pc := 66) dX11_surely_66 rfl ?_
              refine ev_iload_n (pc := 67) dX11_surely_67 rfl ?_
              refine iv_X11_256 (pc := 68) rfl dX11_surely_68 (by (try dsimp only); (repeat (first | rw [up_s] | rw [up_n (by omega)])) <;> first | rfl | assumption) (Nat.le_of_ble_eq_true rfl) (Nat.le_of_ble_eq_true rfl) (Nat.le_of_ble_eq_true rfl) (Nat.le_of_ble_eq_true rfl) (c_rOpenAt o1 u1 (gW_get hi) (by omega) h1e he) (kp ?_)
              refine ev_istore (pc := 71) (L' := [_, _, _, _, _]) dX11_surely_71 (Nat.le_of_ble_eq_true rfl) rfl ?_
              refine ev_iload_n (pc := 73) dX11_surely_73 rfl ?_
              refine ev_bipush (pc := 74) (v := (-9)) dX11_surely_74 kb_m9 ?_
              refine ev_icmp_ne (pc := 76) 84 dX11_surely_76 (by decide) (fun c_76 => ?_) (fun c_76 => ?_)
              · (try simp (disch := omega) only [i32_lti, i32_lei, i32_eqi, nI_toInt, i32z] at c_76)
                refine ev_iload_n (pc := 84) dX11_surely_84 rfl ?_
                refine ev_iload (pc := 85) dX11_surely_85 rfl ?_
                refine ev_iand (pc := 87) dX11_surely_87 ?_
                rw [show nI b &&& nI (gN (outW B (gW (allW (bT B) (bT B)) ((preW (bT B) (bT B)).length + k))) (e - 1)) = nI (b &&& gN (outW B (fW B k)) (e - 1)) from bt_and _ hb64 _ hM]
                refine ev_istore_n (pc := 88) (L' := [_, _, _, _, _]) dX11_surely_88 (Nat.le_of_ble_eq_true rfl) rfl ?_
                refine ev_iinc (pc := 89) (L' := [_, _, _, _, _]) dX11_surely_89 rfl (nI_1 _) rfl ?_
                refine ev_goto (pc := 92) 31 dX11_surely_92 (by decide) ?_
                exact hih _
              · exfalso; (try simp (disch := omega) only [i32_lti, i32_lei, i32_eqi, nI_toInt, i32z] at c_76); rw [show (-9 : Int32).toInt = -9 from rfl] at c_76; omega
            skip
  refine ev_iload_n (pc := 0) dX11_surely_0 rfl ?_
  refine iv_X11_225 (pc := 1) rfl dX11_surely_1 (Nat.le_of_ble_eq_true rfl) (Nat.le_of_ble_eq_true rfl) (Nat.le_of_ble_eq_true rfl) (Nat.le_of_ble_eq_true rfl) (c_isDawn (nI e)) (kp ?_)
  rw [decide_eq_true (by rw [nI_toInt (by omega)]; omega)]
  refine ev_if_ne (pc := 4) 9 dX11_surely_4 (by decide) (fun c_4 => ?_) (fun c_4 => ?_)
  · (try simp (disch := omega) only [i32_lti, i32_lei, i32_eqi, nI_toInt, i32z] at c_4)
    refine ev_aload_n (pc := 9) dX11_surely_9 rfl ?_
    refine gf_X11_40 (pc := 10) rfl dX11_surely_10 (by (try dsimp only); (repeat (first | rw [up_s] | rw [up_n (by omega)])) <;> first | rfl | assumption) ?_
    refine ev_aload_n (pc := 13) dX11_surely_13 rfl ?_
    refine gf_X11_19 (pc := 14) rfl dX11_surely_14 (by (try dsimp only); (repeat (first | rw [up_s] | rw [up_n (by omega)])) <;> first | rfl | assumption) ?_
    refine iv_X11_207 (pc := 17) rfl dX11_surely_17 (by (try dsimp only); (repeat (first | rw [up_s] | rw [up_n (by omega)])) <;> first | rfl | assumption) (Nat.le_of_ble_eq_true rfl) (Nat.le_of_ble_eq_true rfl) (Nat.le_of_ble_eq_true rfl) (Nat.le_of_ble_eq_true rfl) (c_know pr b9 (by omega) pb (by omega)) (kv (fun S' hS => ?_))
    obtain ⟨h1, z'⟩ := S'
    obtain ⟨rfl, f1, r1⟩ := hS
    have po1 := (f1 d (by omega)).trans po
    have fin := p.rw (fun q a => f1 q (by omega)) r1
    obtain ⟨lb, osz, nx, o1, w1, u1⟩ := r1.k b9 (by omega)
    have o1' := o1
    unfold pRO at o1'
    refine ev_bipush (pc := 20) (v := (-9)) dX11_surely_20 kb_m9 ?_
    refine ev_istore_n (pc := 22) (L' := [_, _, _, _, _]) dX11_surely_22 (Nat.le_of_ble_eq_true rfl) rfl ?_
    refine ev_aload_n (pc := 23) dX11_surely_23 rfl ?_
    refine gf_X11_40 (pc := 24) rfl dX11_surely_24 (by (try dsimp only); (repeat (first | rw [up_s] | rw [up_n (by omega)])) <;> first | rfl | assumption) ?_
    refine gf_X11_247 (pc := 27) rfl dX11_surely_27 (by (try dsimp only); (repeat (first | rw [up_s] | rw [up_n (by omega)])) <;> first | rfl | assumption) ?_
    refine ev_istore_n (pc := 30) (L' := [_, _, _, _, _]) dX11_surely_30 (Nat.le_of_ble_eq_true rfl) rfl ?_
    exact loop h1 lb osz nx f1 fin o1 u1 (fN B) 0 _ (by omega) (fun j b hj hb => by rw [show j = 0 by omega] at hb; cases hb)
  · exact absurd c_4 (by decide)
end ORD
