/-! ===== DawnTales: its calls (rows) ===== -/
def sN (B : Bk) (i : Nat) : Nat := (outW B (rW B i)).length
def bestI (B : Bk) : Nat := bIx (fun i => (outW B (rW B i)).length) (nW B)
def fewI (B : Bk) (d : Nat) : Option Nat := fiX (fun i => decide (d ≤ (outW B (rW B i)).length)) (nW B) 0
def minI (B : Bk) (d : Nat) : Option Nat := (miX (fun i => decide (d ≤ (outW B (rW B i)).length)) (fun i => moN (outW B (rW B i)) d) (nW B)).1
def allI (B : Bk) (d : Nat) : Bool × Nat := alX (fun i => decide (d ≤ (outW B (rW B i)).length)) (fun i => mk (rW B i)) (nW B)
def aBest (B : Bk) (x : Int32) : Int32 := if x.toInt = 0 then nI (bestN B) else nI (cod (rW B (bestI B)))
def aFew (B : Bk) (d : Nat) (x : Int32) : Int32 := match fewI B d with
  | none => -9
  | some i => if x.toInt = 0 then nI (popN (mk (rW B i))) else nI (cod (rW B i))
def aMind (B : Bk) (d : Nat) (x : Int32) : Int32 := match minI B d with
  | none => -9
  | some i => if x.toInt = 0 then nI (moN (outW B (rW B i)) d) else nI (cod (rW B i))
def aBars (B : Bk) (d : Nat) : Int32 := oI (fiX (fun t => (if (allI B d).1 = true then (allI B d).2 else 0).testBit t) 6 0)
theorem fiX_lt (P : Nat → Bool) : ∀ (n i j : Nat), fiX P n i = some j → i ≤ j ∧ j < i + n
  | 0, i, j, h => by cases h
  | n + 1, i, j, h => by
    simp only [fiX] at h
    split at h
    · cases h; omega
    · have := fiX_lt P n (i + 1) j h; omega
theorem nW_le {m : Nat} {B : Bk} (b : wB m B) : nW B ≤ 1957 := allW_len (bT B) (by have := b.1; omega)
theorem nW_pos (B : Bk) : 0 < nW B := allW_pos _ _
theorem pRows.k {h : Hp} {r m : Nat} {B : Bk} (p : pRows h r B true) (b : wB m B) (hm : m < 100) : ∃ lb osz nx : Int32, pRO h r (nW B) (preW (bT B) (bT B)).length true lb osz nx ∧ pRow h r (allW (bT B) (bT B)) ∧ pOut h r (allW (bT B) (bT B)) (outW B) := by
  obtain ⟨size, full, lb, osz, nx, p1, -, -, -, -, k1, -⟩ := p
  obtain ⟨rfl, rfl, q, t⟩ := k1 rfl
  exact ⟨lb, osz, nx, p1, q, t.out b hm (fun w hw => (allW_mem hw).2.2) (Nat.le_refl _)⟩
section ASK
variable {X : Cx} {h : Hp} {z d n m : Nat} {cs : List Nat} {B : Bk} {N : Tl} {P : List Tl} {I J : Im} {wn op : List Nat} {tr : Int64}
theorem c_D_best_bad {x : Int32} (hx : ¬ (x.toInt = 0 ∨ x.toInt = 1)) : Ct X 6 mt_X11_best [.ref d, .int x] (h, z) 0 0 (QP (.int (-1)) (h, z)) := by
  refine mk_X11_best (Nat.le_of_ble_eq_true rfl) (L := [.ref d, .int x, .retAddr 0]) rfl ?_
  refine ev_iload_n (pc := 0) dX11_best_0 rfl ?_
  refine iv_X11_204 (pc := 1) rfl dX11_best_1 (Nat.le_of_ble_eq_true rfl) (Nat.le_of_ble_eq_true rfl) (Nat.le_of_ble_eq_true rfl) (Nat.le_of_ble_eq_true rfl) (c_isPairPart x) (kp ?_)
  rw [decide_eq_false hx]
  refine ev_if_ne (pc := 4) 9 dX11_best_4 (by decide) (fun c_4 => ?_) (fun c_4 => ?_)
  · exact absurd rfl c_4
  · (try simp (disch := omega) only [i32_lti, i32_lei, i32_eqi, nI_toInt, i32z] at c_4)
    refine ev_iconst (pc := 7) (v := (-1)) dX11_best_7 kc_m1 ?_
    refine ev_iret (pc := 8) dX11_best_8 rfl rfl (Nat.le_of_ble_eq_true rfl) (Nat.le_of_ble_eq_true rfl) ?_
    exact ⟨rfl, rfl⟩
theorem c_D_best (p : pC h d cs B N P I J wn op n tr) (b9 : wB m B) (hm : m < 99) {x : Int32} (hx : x.toInt = 0 ∨ x.toInt = 1) : Ct X 6 mt_X11_best [.ref d, .int x] (h, z) 0 0 (Qi (fun r S' => r = aBest B x ∧ S'.2 = z ∧ hfr h S'.1 d 174 ∧ pC S'.1 d cs B N P I J wn op n tr)) := by
  obtain ⟨po, -, pb, -, -, -, ⟨kn, pr⟩, -⟩ := id p
  unfold pDO at po
  have l19 := nW_le b9
  have l0 := nW_pos B
  have hbi : bestI B < nW B := bIx_lt _ _ l0
  obtain ⟨s_, fu_, lb_, os_, nx_, pr1, -⟩ := id pr
  unfold pRO at pr1
  refine mk_X11_best (Nat.le_of_ble_eq_true rfl) (L := [.ref d, .int x, .retAddr 0]) rfl ?_
  refine ev_iload_n (pc := 0) dX11_best_0 rfl ?_
  refine iv_X11_204 (pc := 1) rfl dX11_best_1 (Nat.le_of_ble_eq_true rfl) (Nat.le_of_ble_eq_true rfl) (Nat.le_of_ble_eq_true rfl) (Nat.le_of_ble_eq_true rfl) (c_isPairPart x) (kp ?_)
  rw [decide_eq_true hx]
  refine ev_if_ne (pc := 4) 9 dX11_best_4 (by decide) (fun c_4 => ?_) (fun c_4 => ?_)
  · (try simp (disch := omega) only [i32_lti, i32_lei, i32_eqi, nI_toInt, i32z] at c_4)
    refine ev_aload_n (pc := 9) dX11_best_9 rfl ?_
    refine gf_X11_40 (pc := 10) rfl dX11_best_10 (by (try dsimp only); (repeat (first | rw [up_s] | rw [up_n (by omega)])) <;> first | rfl | assumption) ?_
    refine ev_aload_n (pc := 13) dX11_best_13 rfl ?_
    refine gf_X11_19 (pc := 14) rfl dX11_best_14 (by (try dsimp only); (repeat (first | rw [up_s] | rw [up_n (by omega)])) <;> first | rfl | assumption) ?_
    refine iv_X11_207 (pc := 17) rfl dX11_best_17 (by (try dsimp only); (repeat (first | rw [up_s] | rw [up_n (by omega)])) <;> first | rfl | assumption) (Nat.le_of_ble_eq_true rfl) (Nat.le_of_ble_eq_true rfl) (Nat.le_of_ble_eq_true rfl) (Nat.le_of_ble_eq_true rfl) (c_know pr b9 (by omega) pb (by omega)) (kv (fun S' hS => ?_))
    obtain ⟨h1, z'⟩ := S'
    obtain ⟨rfl, f1, r1⟩ := hS
    have po1 := (f1 d (by omega)).trans po
    have fin := p.rw (fun q a => f1 q (by omega)) r1
    obtain ⟨lb, osz, nx, o1, w1, u1⟩ := r1.k b9 (by omega)
    have o1' := o1
    unfold pRO at o1'
    refine ev_aload_n (pc := 20) dX11_best_20 rfl ?_
    refine gf_X11_40 (pc := 21) rfl dX11_best_21 (by (try dsimp only); (repeat (first | rw [up_s] | rw [up_n (by omega)])) <;> first | rfl | assumption) ?_
    refine iv_X11_210 (pc := 24) rfl dX11_best_24 (by (try dsimp only); (repeat (first | rw [up_s] | rw [up_n (by omega)])) <;> first | rfl | assumption) (Nat.le_of_ble_eq_true rfl) (Nat.le_of_ble_eq_true rfl) (Nat.le_of_ble_eq_true rfl) (Nat.le_of_ble_eq_true rfl) (c_bestPlace o1 u1 rfl l0 l19) (kp ?_)
    refine ev_istore_n (pc := 27) (L' := [_, _, _]) dX11_best_27 (Nat.le_of_ble_eq_true rfl) rfl ?_
    refine ev_iload_n (pc := 28) dX11_best_28 rfl ?_
    refine ev_if_ne (pc := 29) 43 dX11_best_29 (by decide) (fun c_29 => ?_) (fun c_29 => ?_)
    · (try simp (disch := omega) only [i32_lti, i32_lei, i32_eqi, nI_toInt, i32z] at c_29)
      refine ev_aload_n (pc := 43) dX11_best_43 rfl ?_
      refine gf_X11_40 (pc := 44) rfl dX11_best_44 (by (try dsimp only); (repeat (first | rw [up_s] | rw [up_n (by omega)])) <;> first | rfl | assumption) ?_
      refine ev_iload_n (pc := 47) dX11_best_47 rfl ?_
      refine iv_X11_216 (pc := 48) rfl dX11_best_48 (by (try dsimp only); (repeat (first | rw [up_s] | rw [up_n (by omega)])) <;> first | rfl | assumption) (Nat.le_of_ble_eq_true rfl) (Nat.le_of_ble_eq_true rfl) (Nat.le_of_ble_eq_true rfl) (Nat.le_of_ble_eq_true rfl) (c_rowAt o1 w1 (gW_get hbi)) (kp ?_)
      refine ev_iret (pc := 51) dX11_best_51 rfl rfl (Nat.le_of_ble_eq_true rfl) (Nat.le_of_ble_eq_true rfl) ?_
      exact ⟨_, rfl, by unfold aBest; first | (rw [if_pos c_29]; rfl) | (rw [if_neg c_29]; rfl), rfl, (fun q a => f1 q (by omega)), fin⟩
    · (try simp (disch := omega) only [i32_lti, i32_lei, i32_eqi, nI_toInt, i32z] at c_29)
      refine ev_aload_n (pc := 32) dX11_best_32 rfl ?_
      refine gf_X11_40 (pc := 33) rfl dX11_best_33 (by (try dsimp only); (repeat (first | rw [up_s] | rw [up_n (by omega)])) <;> first | rfl | assumption) ?_
      refine ev_iload_n (pc := 36) dX11_best_36 rfl ?_
      refine iv_X11_213 (pc := 37) rfl dX11_best_37 (by (try dsimp only); (repeat (first | rw [up_s] | rw [up_n (by omega)])) <;> first | rfl | assumption) (Nat.le_of_ble_eq_true rfl) (Nat.le_of_ble_eq_true rfl) (Nat.le_of_ble_eq_true rfl) (Nat.le_of_ble_eq_true rfl) (c_savedBy o1 u1 (gW_get hbi) (by unfold bestI at hbi; exact Nat.lt_of_lt_of_le hbi l19)) (kp ?_)
      refine ev_goto (pc := 40) 51 dX11_best_40 (by decide) ?_
      refine ev_iret (pc := 51) dX11_best_51 rfl rfl (Nat.le_of_ble_eq_true rfl) (Nat.le_of_ble_eq_true rfl) ?_
      exact ⟨_, rfl, by unfold aBest; first | (rw [if_pos c_29]; rfl) | (rw [if_neg c_29]; rfl), rfl, (fun q a => f1 q (by omega)), fin⟩
  · exact absurd c_4 (by decide)
theorem c_D_fewest_bad {e x : Int32} (hx : ¬ ((0 ≤ e.toInt ∧ e.toInt ≤ 30) ∧ (x.toInt = 0 ∨ x.toInt = 1))) : Ct X 6 mt_X11_fewest [.ref d, .int e, .int x] (h, z) 0 0 (QP (.int (-1)) (h, z)) := by
  refine mk_X11_fewest (Nat.le_of_ble_eq_true rfl) (L := [.ref d, .int e, .int x, .retAddr 0]) rfl ?_
  refine ev_iload_n (pc := 0) dX11_fewest_0 rfl ?_
  refine ev_if_lt (pc := 1) 17 dX11_fewest_1 (by decide) (fun c_1 => ?_) (fun c_1 => ?_)
  · (try simp (disch := omega) only [i32_lti, i32_lei, i32_eqi, nI_toInt, i32z] at c_1)
    refine ev_iconst (pc := 17) (v := (-1)) dX11_fewest_17 kc_m1 ?_
    refine ev_iret (pc := 18) dX11_fewest_18 rfl rfl (Nat.le_of_ble_eq_true rfl) (Nat.le_of_ble_eq_true rfl) ?_
    exact ⟨rfl, rfl⟩
  · (try simp (disch := omega) only [i32_lti, i32_lei, i32_eqi, nI_toInt, i32z] at c_1)
    refine ev_iload_n (pc := 4) dX11_fewest_4 rfl ?_
    refine ev_bipush (pc := 5) (v := nI 30) dX11_fewest_5 kb_30 ?_
    refine ev_icmp_gt (pc := 7) 17 dX11_fewest_7 (by decide) (fun c_7 => ?_) (fun c_7 => ?_)
    · (try simp (disch := omega) only [i32_lti, i32_lei, i32_eqi, nI_toInt, i32z] at c_7)
      refine ev_iconst (pc := 17) (v := (-1)) dX11_fewest_17 kc_m1 ?_
      refine ev_iret (pc := 18) dX11_fewest_18 rfl rfl (Nat.le_of_ble_eq_true rfl) (Nat.le_of_ble_eq_true rfl) ?_
      exact ⟨rfl, rfl⟩
    · (try simp (disch := omega) only [i32_lti, i32_lei, i32_eqi, nI_toInt, i32z] at c_7)
      refine ev_iload_n (pc := 10) dX11_fewest_10 rfl ?_
      refine iv_X11_204 (pc := 11) rfl dX11_fewest_11 (Nat.le_of_ble_eq_true rfl) (Nat.le_of_ble_eq_true rfl) (Nat.le_of_ble_eq_true rfl) (Nat.le_of_ble_eq_true rfl) (c_isPairPart x) (kp ?_)
      rw [decide_eq_false (by omega)]
      refine ev_if_ne (pc := 14) 19 dX11_fewest_14 (by decide) (fun c_14 => ?_) (fun c_14 => ?_)
      · exact absurd rfl c_14
      · (try simp (disch := omega) only [i32_lti, i32_lei, i32_eqi, nI_toInt, i32z] at c_14)
        refine ev_iconst (pc := 17) (v := (-1)) dX11_fewest_17 kc_m1 ?_
        refine ev_iret (pc := 18) dX11_fewest_18 rfl rfl (Nat.le_of_ble_eq_true rfl) (Nat.le_of_ble_eq_true rfl) ?_
        exact ⟨rfl, rfl⟩
theorem c_D_fewest (p : pC h d cs B N P I J wn op n tr) (b9 : wB m B) (hm : m < 99) {e : Nat} (he : e ≤ 30) {x : Int32} (hx : x.toInt = 0 ∨ x.toInt = 1) : Ct X 6 mt_X11_fewest [.ref d, .int (nI e), .int x] (h, z) 0 0 (Qi (fun r S' => r = aFew B e x ∧ S'.2 = z ∧ hfr h S'.1 d 174 ∧ pC S'.1 d cs B N P I J wn op n tr)) := by
  obtain ⟨po, -, pb, -, -, -, ⟨kn, pr⟩, -⟩ := id p
  unfold pDO at po
  have l19 := nW_le b9
  have l0 := nW_pos B
  obtain ⟨s_, fu_, lb_, os_, nx_, pr1, -⟩ := id pr
  unfold pRO at pr1
  refine mk_X11_fewest (Nat.le_of_ble_eq_true rfl) (L := [.ref d, .int (nI e), .int x, .retAddr 0]) rfl ?_
  cases ef : fewI B e with
  | none =>
    have ea : aFew B e x = -9 := by unfold aFew; rw [ef]
    rw [ea]
    unfold fewI at ef
    refine ev_iload_n (pc := 0) dX11_fewest_0 rfl ?_
    refine ev_if_lt (pc := 1) 17 dX11_fewest_1 (by decide) (fun c_1 => ?_) (fun c_1 => ?_)
    · exfalso; (try simp (disch := omega) only [i32_lti, i32_lei, i32_eqi, nI_toInt, i32z] at c_1); omega
    · (try simp (disch := omega) only [i32_lti, i32_lei, i32_eqi, nI_toInt, i32z] at c_1)
      refine ev_iload_n (pc := 4) dX11_fewest_4 rfl ?_
      refine ev_bipush (pc := 5) (v := nI 30) dX11_fewest_5 kb_30 ?_
      refine ev_icmp_gt (pc := 7) 17 dX11_fewest_7 (by decide) (fun c_7 => ?_) (fun c_7 => ?_)
      · exfalso; (try simp (disch := omega) only [i32_lti, i32_lei, i32_eqi, nI_toInt, i32z] at c_7); omega
      · (try simp (disch := omega) only [i32_lti, i32_lei, i32_eqi, nI_toInt, i32z] at c_7)
        refine ev_iload_n (pc := 10) dX11_fewest_10 rfl ?_
        refine iv_X11_204 (pc := 11) rfl dX11_fewest_11 (Nat.le_of_ble_eq_true rfl) (Nat.le_of_ble_eq_true rfl) (Nat.le_of_ble_eq_true rfl) (Nat.le_of_ble_eq_true rfl) (c_isPairPart x) (kp ?_)
        rw [decide_eq_true hx]
        refine ev_if_ne (pc := 14) 19 dX11_fewest_14 (by decide) (fun c_14 => ?_) (fun c_14 => ?_)
        · (try simp (disch := omega) only [i32_lti, i32_lei, i32_eqi, nI_toInt, i32z] at c_14)
          refine ev_aload_n (pc := 19) dX11_fewest_19 rfl ?_
          refine gf_X11_40 (pc := 20) rfl dX11_fewest_20 (by (try dsimp only); (repeat (first | rw [up_s] | rw [up_n (by omega)])) <;> first | rfl | assumption) ?_
          refine ev_aload_n (pc := 23) dX11_fewest_23 rfl ?_
          refine gf_X11_19 (pc := 24) rfl dX11_fewest_24 (by (try dsimp only); (repeat (first | rw [up_s] | rw [up_n (by omega)])) <;> first | rfl | assumption) ?_
          refine iv_X11_207 (pc := 27) rfl dX11_fewest_27 (by (try dsimp only); (repeat (first | rw [up_s] | rw [up_n (by omega)])) <;> first | rfl | assumption) (Nat.le_of_ble_eq_true rfl) (Nat.le_of_ble_eq_true rfl) (Nat.le_of_ble_eq_true rfl) (Nat.le_of_ble_eq_true rfl) (c_know pr b9 (by omega) pb (by omega)) (kv (fun S' hS => ?_))
          obtain ⟨h1, z'⟩ := S'
          obtain ⟨rfl, f1, r1⟩ := hS
          have po1 := (f1 d (by omega)).trans po
          have fin := p.rw (fun q a => f1 q (by omega)) r1
          obtain ⟨lb, osz, nx, o1, w1, u1⟩ := r1.k b9 (by omega)
          have o1' := o1
          unfold pRO at o1'
          refine ev_aload_n (pc := 30) dX11_fewest_30 rfl ?_
          refine gf_X11_40 (pc := 31) rfl dX11_fewest_31 (by (try dsimp only); (repeat (first | rw [up_s] | rw [up_n (by omega)])) <;> first | rfl | assumption) ?_
          refine ev_iload_n (pc := 34) dX11_fewest_34 rfl ?_
          refine iv_X11_219 (pc := 35) rfl dX11_fewest_35 (by (try dsimp only); (repeat (first | rw [up_s] | rw [up_n (by omega)])) <;> first | rfl | assumption) (Nat.le_of_ble_eq_true rfl) (Nat.le_of_ble_eq_true rfl) (Nat.le_of_ble_eq_true rfl) (Nat.le_of_ble_eq_true rfl) (c_fewestPlace o1 u1 rfl l19 he) (kp ?_)
          rw [show fiX (fun i => decide (e ≤ (outW B (gW (allW (bT B) (bT B)) i)).length)) (nW B) 0 = none from ef]
          refine ev_istore_n (pc := 38) (L' := [_, _, _, _]) dX11_fewest_38 (Nat.le_of_ble_eq_true rfl) rfl ?_
          refine ev_iload_n (pc := 39) dX11_fewest_39 rfl ?_
          refine ev_if_ge (pc := 40) 46 dX11_fewest_40 (by decide) (fun c_40 => ?_) (fun c_40 => ?_)
          · exact absurd c_40 (by decide)
          · (try simp (disch := omega) only [i32_lti, i32_lei, i32_eqi, nI_toInt, i32z] at c_40)
            refine ev_bipush (pc := 43) (v := (-9)) dX11_fewest_43 kb_m9 ?_
            refine ev_iret (pc := 45) dX11_fewest_45 rfl rfl (Nat.le_of_ble_eq_true rfl) (Nat.le_of_ble_eq_true rfl) ?_
            exact ⟨_, rfl, rfl, rfl, (fun q a => f1 q (by omega)), fin⟩
        · exact absurd c_14 (by decide)
  | some j =>
    have ea : aFew B e x = if x.toInt = 0 then nI (popN (mk (rW B j))) else nI (cod (rW B j)) := by unfold aFew; rw [ef]
    rw [ea]
    unfold fewI at ef
    have hj : j < nW B := by have := fiX_lt _ _ _ _ ef; omega
    refine ev_iload_n (pc := 0) dX11_fewest_0 rfl ?_
    refine ev_if_lt (pc := 1) 17 dX11_fewest_1 (by decide) (fun c_1 => ?_) (fun c_1 => ?_)
    · exfalso; (try simp (disch := omega) only [i32_lti, i32_lei, i32_eqi, nI_toInt, i32z] at c_1); omega
    · (try simp (disch := omega) only [i32_lti, i32_lei, i32_eqi, nI_toInt, i32z] at c_1)
      refine ev_iload_n (pc := 4) dX11_fewest_4 rfl ?_
      refine ev_bipush (pc := 5) (v := nI 30) dX11_fewest_5 kb_30 ?_
      refine ev_icmp_gt (pc := 7) 17 dX11_fewest_7 (by decide) (fun c_7 => ?_) (fun c_7 => ?_)
      · exfalso; (try simp (disch := omega) only [i32_lti, i32_lei, i32_eqi, nI_toInt, i32z] at c_7); omega
      · (try simp (disch := omega) only [i32_lti, i32_lei, i32_eqi, nI_toInt, i32z] at c_7)
        refine ev_iload_n (pc := 10) dX11_fewest_10 rfl ?_
        refine iv_X11_204 (pc := 11) rfl dX11_fewest_11 (Nat.le_of_ble_eq_true rfl) (Nat.le_of_ble_eq_true rfl) (Nat.le_of_ble_eq_true rfl) (Nat.le_of_ble_eq_true rfl) (c_isPairPart x) (kp ?_)
        rw [decide_eq_true hx]
        refine ev_if_ne (pc := 14) 19 dX11_fewest_14 (by decide) (fun c_14 => ?_) (fun c_14 => ?_)
        · (try simp (disch := omega) only [i32_lti, i32_lei, i32_eqi, nI_toInt, i32z] at c_14)
          refine ev_aload_n (pc := 19) dX11_fewest_19 rfl ?_
          refine gf_X11_40 (pc := 20) rfl dX11_fewest_20 (by (try dsimp only); (repeat (first | rw [up_s] | rw [up_n (by omega)])) <;> first | rfl | assumption) ?_
          refine ev_aload_n (pc := 23) dX11_fewest_23 rfl ?_
          refine gf_X11_19 (pc := 24) rfl dX11_fewest_24 (by (try dsimp only); (repeat (first | rw [up_s] | rw [up_n (by omega)])) <;> first | rfl | assumption) ?_
          refine iv_X11_207 (pc := 27) rfl dX11_fewest_27 (by (try dsimp only); (repeat (first | rw [up_s] | rw [up_n (by omega)])) <;> first | rfl | assumption) (Nat.le_of_ble_eq_true rfl) (Nat.le_of_ble_eq_true rfl) (Nat.le_of_ble_eq_true rfl) (Nat.le_of_ble_eq_true rfl) (c_know pr b9 (by omega) pb (by omega)) (kv (fun S' hS => ?_))
          obtain ⟨h1, z'⟩ := S'
          obtain ⟨rfl, f1, r1⟩ := hS
          have po1 := (f1 d (by omega)).trans po
          have fin := p.rw (fun q a => f1 q (by omega)) r1
          obtain ⟨lb, osz, nx, o1, w1, u1⟩ := r1.k b9 (by omega)
          have o1' := o1
          unfold pRO at o1'
          refine ev_aload_n (pc := 30) dX11_fewest_30 rfl ?_
          refine gf_X11_40 (pc := 31) rfl dX11_fewest_31 (by (try dsimp only); (repeat (first | rw [up_s] | rw [up_n (by omega)])) <;> first | rfl | assumption) ?_
          refine ev_iload_n (pc := 34) dX11_fewest_34 rfl ?_
          refine iv_X11_219 (pc := 35) rfl dX11_fewest_35 (by (try dsimp only); (repeat (first | rw [up_s] | rw [up_n (by omega)])) <;> first | rfl | assumption) (Nat.le_of_ble_eq_true rfl) (Nat.le_of_ble_eq_true rfl) (Nat.le_of_ble_eq_true rfl) (Nat.le_of_ble_eq_true rfl) (c_fewestPlace o1 u1 rfl l19 he) (kp ?_)
          rw [show fiX (fun i => decide (e ≤ (outW B (gW (allW (bT B) (bT B)) i)).length)) (nW B) 0 = some j from ef]
          show Ev X _ _ _ _ _ _ _ [.int (nI j)]
          refine ev_istore_n (pc := 38) (L' := [_, _, _, _]) dX11_fewest_38 (Nat.le_of_ble_eq_true rfl) rfl ?_
          refine ev_iload_n (pc := 39) dX11_fewest_39 rfl ?_
          refine ev_if_ge (pc := 40) 46 dX11_fewest_40 (by decide) (fun c_40 => ?_) (fun c_40 => ?_)
          · (try simp (disch := omega) only [i32_lti, i32_lei, i32_eqi, nI_toInt, i32z] at c_40)
            refine ev_iload_n (pc := 46) dX11_fewest_46 rfl ?_
            refine ev_if_ne (pc := 47) 61 dX11_fewest_47 (by decide) (fun c_47 => ?_) (fun c_47 => ?_)
            · (try simp (disch := omega) only [i32_lti, i32_lei, i32_eqi, nI_toInt, i32z] at c_47)
              refine ev_aload_n (pc := 61) dX11_fewest_61 rfl ?_
              refine gf_X11_40 (pc := 62) rfl dX11_fewest_62 (by (try dsimp only); (repeat (first | rw [up_s] | rw [up_n (by omega)])) <;> first | rfl | assumption) ?_
              refine ev_iload_n (pc := 65) dX11_fewest_65 rfl ?_
              refine iv_X11_216 (pc := 66) rfl dX11_fewest_66 (by (try dsimp only); (repeat (first | rw [up_s] | rw [up_n (by omega)])) <;> first | rfl | assumption) (Nat.le_of_ble_eq_true rfl) (Nat.le_of_ble_eq_true rfl) (Nat.le_of_ble_eq_true rfl) (Nat.le_of_ble_eq_true rfl) (c_rowAt o1 w1 (gW_get hj)) (kp ?_)
              refine ev_iret (pc := 69) dX11_fewest_69 rfl rfl (Nat.le_of_ble_eq_true rfl) (Nat.le_of_ble_eq_true rfl) ?_
              exact ⟨_, rfl, by first | (rw [if_pos c_47]; rfl) | (rw [if_neg c_47]; rfl), rfl, (fun q a => f1 q (by omega)), fin⟩
            · (try simp (disch := omega) only [i32_lti, i32_lei, i32_eqi, nI_toInt, i32z] at c_47)
              refine ev_aload_n (pc := 50) dX11_fewest_50 rfl ?_
              refine gf_X11_40 (pc := 51) rfl dX11_fewest_51 (by (try dsimp only); (repeat (first | rw [up_s] | rw [up_n (by omega)])) <;> first | rfl | assumption) ?_
              refine ev_iload_n (pc := 54) dX11_fewest_54 rfl ?_
              refine iv_X11_222 (pc := 55) rfl dX11_fewest_55 (by (try dsimp only); (repeat (first | rw [up_s] | rw [up_n (by omega)])) <;> first | rfl | assumption) (Nat.le_of_ble_eq_true rfl) (Nat.le_of_ble_eq_true rfl) (Nat.le_of_ble_eq_true rfl) (Nat.le_of_ble_eq_true rfl) (c_sizeAt o1 w1 hj) (kp ?_)
              refine ev_goto (pc := 58) 69 dX11_fewest_58 (by decide) ?_
              refine ev_iret (pc := 69) dX11_fewest_69 rfl rfl (Nat.le_of_ble_eq_true rfl) (Nat.le_of_ble_eq_true rfl) ?_
              exact ⟨_, rfl, by first | (rw [if_pos c_47]; rfl) | (rw [if_neg c_47]; rfl), rfl, (fun q a => f1 q (by omega)), fin⟩
          · exfalso; (try simp (disch := omega) only [i32_lti, i32_lei, i32_eqi, nI_toInt, i32z] at c_40); omega
        · exact absurd c_14 (by decide)
theorem c_D_mind_bad {e x : Int32} (hx : ¬ ((1 ≤ e.toInt ∧ e.toInt ≤ 30) ∧ (x.toInt = 0 ∨ x.toInt = 1))) : Ct X 6 mt_X11_mind [.ref d, .int e, .int x] (h, z) 0 0 (QP (.int (-1)) (h, z)) := by
  refine mk_X11_mind (Nat.le_of_ble_eq_true rfl) (L := [.ref d, .int e, .int x, .retAddr 0]) rfl ?_
  refine ev_iload_n (pc := 0) dX11_mind_0 rfl ?_
  refine iv_X11_225 (pc := 1) rfl dX11_mind_1 (Nat.le_of_ble_eq_true rfl) (Nat.le_of_ble_eq_true rfl) (Nat.le_of_ble_eq_true rfl) (Nat.le_of_ble_eq_true rfl) (c_isDawn e) (kp ?_)
  refine ev_if_eq (pc := 4) 14 dX11_mind_4 (by decide) (fun c_4 => ?_) (fun c_4 => ?_)
  · simp only [b2i_e0, Bool.not_eq_false] at c_4
    refine ev_iconst (pc := 14) (v := (-1)) dX11_mind_14 kc_m1 ?_
    refine ev_iret (pc := 15) dX11_mind_15 rfl rfl (Nat.le_of_ble_eq_true rfl) (Nat.le_of_ble_eq_true rfl) ?_
    exact ⟨rfl, rfl⟩
  · simp only [b2i_e0, Bool.not_eq_false] at c_4
    rw [decide_eq_true_eq] at c_4
    refine ev_iload_n (pc := 7) dX11_mind_7 rfl ?_
    refine iv_X11_204 (pc := 8) rfl dX11_mind_8 (Nat.le_of_ble_eq_true rfl) (Nat.le_of_ble_eq_true rfl) (Nat.le_of_ble_eq_true rfl) (Nat.le_of_ble_eq_true rfl) (c_isPairPart x) (kp ?_)
    rw [decide_eq_false (by omega)]
    refine ev_if_ne (pc := 11) 16 dX11_mind_11 (by decide) (fun c_11 => ?_) (fun c_11 => ?_)
    · exact absurd rfl c_11
    · (try simp (disch := omega) only [i32_lti, i32_lei, i32_eqi, nI_toInt, i32z] at c_11)
      refine ev_iconst (pc := 14) (v := (-1)) dX11_mind_14 kc_m1 ?_
      refine ev_iret (pc := 15) dX11_mind_15 rfl rfl (Nat.le_of_ble_eq_true rfl) (Nat.le_of_ble_eq_true rfl) ?_
      exact ⟨rfl, rfl⟩
theorem c_D_mind (p : pC h d cs B N P I J wn op n tr) (b9 : wB m B) (hm : m < 99) {e : Nat} (h1e : 1 ≤ e) (he : e ≤ 30) {x : Int32} (hx : x.toInt = 0 ∨ x.toInt = 1) : Ct X 6 mt_X11_mind [.ref d, .int (nI e), .int x] (h, z) 0 0 (Qi (fun r S' => r = aMind B e x ∧ S'.2 = z ∧ hfr h S'.1 d 174 ∧ pC S'.1 d cs B N P I J wn op n tr)) := by
  obtain ⟨po, -, pb, -, -, -, ⟨kn, pr⟩, -⟩ := id p
  unfold pDO at po
  have l19 := nW_le b9
  have l0 := nW_pos B
  obtain ⟨s_, fu_, lb_, os_, nx_, pr1, -⟩ := id pr
  unfold pRO at pr1
  refine mk_X11_mind (Nat.le_of_ble_eq_true rfl) (L := [.ref d, .int (nI e), .int x, .retAddr 0]) rfl ?_
  cases ef : minI B e with
  | none =>
    have ea : aMind B e x = -9 := by unfold aMind; rw [ef]
    rw [ea]
    unfold minI at ef
    refine ev_iload_n (pc := 0) dX11_mind_0 rfl ?_
    refine iv_X11_225 (pc := 1) rfl dX11_mind_1 (Nat.le_of_ble_eq_true rfl) (Nat.le_of_ble_eq_true rfl) (Nat.le_of_ble_eq_true rfl) (Nat.le_of_ble_eq_true rfl) (c_isDawn (nI e)) (kp ?_)
    rw [decide_eq_true (by rw [nI_toInt (by omega)]; omega)]
    refine ev_if_eq (pc := 4) 14 dX11_mind_4 (by decide) (fun c_4 => ?_) (fun c_4 => ?_)
    · exact absurd c_4 (by decide)
    · (try simp (disch := omega) only [i32_lti, i32_lei, i32_eqi, nI_toInt, i32z] at c_4)
      refine ev_iload_n (pc := 7) dX11_mind_7 rfl ?_
      refine iv_X11_204 (pc := 8) rfl dX11_mind_8 (Nat.le_of_ble_eq_true rfl) (Nat.le_of_ble_eq_true rfl) (Nat.le_of_ble_eq_true rfl) (Nat.le_of_ble_eq_true rfl) (c_isPairPart x) (kp ?_)
      rw [decide_eq_true hx]
      refine ev_if_ne (pc := 11) 16 dX11_mind_11 (by decide) (fun c_11 => ?_) (fun c_11 => ?_)
      · (try simp (disch := omega) only [i32_lti, i32_lei, i32_eqi, nI_toInt, i32z] at c_11)
        refine ev_aload_n (pc := 16) dX11_mind_16 rfl ?_
        refine gf_X11_40 (pc := 17) rfl dX11_mind_17 (by (try dsimp only); (repeat (first | rw [up_s] | rw [up_n (by omega)])) <;> first | rfl | assumption) ?_
        refine ev_aload_n (pc := 20) dX11_mind_20 rfl ?_
        refine gf_X11_19 (pc := 21) rfl dX11_mind_21 (by (try dsimp only); (repeat (first | rw [up_s] | rw [up_n (by omega)])) <;> first | rfl | assumption) ?_
        refine iv_X11_207 (pc := 24) rfl dX11_mind_24 (by (try dsimp only); (repeat (first | rw [up_s] | rw [up_n (by omega)])) <;> first | rfl | assumption) (Nat.le_of_ble_eq_true rfl) (Nat.le_of_ble_eq_true rfl) (Nat.le_of_ble_eq_true rfl) (Nat.le_of_ble_eq_true rfl) (c_know pr b9 (by omega) pb (by omega)) (kv (fun S' hS => ?_))
        obtain ⟨h1, z'⟩ := S'
        obtain ⟨rfl, f1, r1⟩ := hS
        have po1 := (f1 d (by omega)).trans po
        have fin := p.rw (fun q a => f1 q (by omega)) r1
        obtain ⟨lb, osz, nx, o1, w1, u1⟩ := r1.k b9 (by omega)
        have o1' := o1
        unfold pRO at o1'
        refine ev_aload_n (pc := 27) dX11_mind_27 rfl ?_
        refine gf_X11_40 (pc := 28) rfl dX11_mind_28 (by (try dsimp only); (repeat (first | rw [up_s] | rw [up_n (by omega)])) <;> first | rfl | assumption) ?_
        refine ev_iload_n (pc := 31) dX11_mind_31 rfl ?_
        refine iv_X11_228 (pc := 32) rfl dX11_mind_32 (by (try dsimp only); (repeat (first | rw [up_s] | rw [up_n (by omega)])) <;> first | rfl | assumption) (Nat.le_of_ble_eq_true rfl) (Nat.le_of_ble_eq_true rfl) (Nat.le_of_ble_eq_true rfl) (Nat.le_of_ble_eq_true rfl) (c_mindPlace o1 u1 rfl l19 he) (kp ?_)
        rw [show (miX (fun i => decide (e ≤ (outW B (gW (allW (bT B) (bT B)) i)).length)) (fun i => moN (outW B (gW (allW (bT B) (bT B)) i)) e) (nW B)).1 = none from ef]
        refine ev_istore_n (pc := 35) (L' := [_, _, _, _]) dX11_mind_35 (Nat.le_of_ble_eq_true rfl) rfl ?_
        refine ev_iload_n (pc := 36) dX11_mind_36 rfl ?_
        refine ev_if_ge (pc := 37) 43 dX11_mind_37 (by decide) (fun c_37 => ?_) (fun c_37 => ?_)
        · exact absurd c_37 (by decide)
        · (try simp (disch := omega) only [i32_lti, i32_lei, i32_eqi, nI_toInt, i32z] at c_37)
          refine ev_bipush (pc := 40) (v := (-9)) dX11_mind_40 kb_m9 ?_
          refine ev_iret (pc := 42) dX11_mind_42 rfl rfl (Nat.le_of_ble_eq_true rfl) (Nat.le_of_ble_eq_true rfl) ?_
          exact ⟨_, rfl, rfl, rfl, (fun q a => f1 q (by omega)), fin⟩
      · exact absurd c_11 (by decide)
  | some j =>
    have ea : aMind B e x = if x.toInt = 0 then nI (moN (outW B (rW B j)) e) else nI (cod (rW B j)) := by unfold aMind; rw [ef]
    rw [ea]
    unfold minI at ef
    have hj : j < nW B := miX_lt _ _ _ _ ef
    refine ev_iload_n (pc := 0) dX11_mind_0 rfl ?_
    refine iv_X11_225 (pc := 1) rfl dX11_mind_1 (Nat.le_of_ble_eq_true rfl) (Nat.le_of_ble_eq_true rfl) (Nat.le_of_ble_eq_true rfl) (Nat.le_of_ble_eq_true rfl) (c_isDawn (nI e)) (kp ?_)
    rw [decide_eq_true (by rw [nI_toInt (by omega)]; omega)]
    refine ev_if_eq (pc := 4) 14 dX11_mind_4 (by decide) (fun c_4 => ?_) (fun c_4 => ?_)
    · exact absurd c_4 (by decide)
    · (try simp (disch := omega) only [i32_lti, i32_lei, i32_eqi, nI_toInt, i32z] at c_4)
      refine ev_iload_n (pc := 7) dX11_mind_7 rfl ?_
      refine iv_X11_204 (pc := 8) rfl dX11_mind_8 (Nat.le_of_ble_eq_true rfl) (Nat.le_of_ble_eq_true rfl) (Nat.le_of_ble_eq_true rfl) (Nat.le_of_ble_eq_true rfl) (c_isPairPart x) (kp ?_)
      rw [decide_eq_true hx]
      refine ev_if_ne (pc := 11) 16 dX11_mind_11 (by decide) (fun c_11 => ?_) (fun c_11 => ?_)
      · (try simp (disch := omega) only [i32_lti, i32_lei, i32_eqi, nI_toInt, i32z] at c_11)
        refine ev_aload_n (pc := 16) dX11_mind_16 rfl ?_
        refine gf_X11_40 (pc := 17) rfl dX11_mind_17 (by (try dsimp only); (repeat (first | rw [up_s] | rw [up_n (by omega)])) <;> first | rfl | assumption) ?_
        refine ev_aload_n (pc := 20) dX11_mind_20 rfl ?_
        refine gf_X11_19 (pc := 21) rfl dX11_mind_21 (by (try dsimp only); (repeat (first | rw [up_s] | rw [up_n (by omega)])) <;> first | rfl | assumption) ?_
        refine iv_X11_207 (pc := 24) rfl dX11_mind_24 (by (try dsimp only); (repeat (first | rw [up_s] | rw [up_n (by omega)])) <;> first | rfl | assumption) (Nat.le_of_ble_eq_true rfl) (Nat.le_of_ble_eq_true rfl) (Nat.le_of_ble_eq_true rfl) (Nat.le_of_ble_eq_true rfl) (c_know pr b9 (by omega) pb (by omega)) (kv (fun S' hS => ?_))
        obtain ⟨h1, z'⟩ := S'
        obtain ⟨rfl, f1, r1⟩ := hS
        have po1 := (f1 d (by omega)).trans po
        have fin := p.rw (fun q a => f1 q (by omega)) r1
        obtain ⟨lb, osz, nx, o1, w1, u1⟩ := r1.k b9 (by omega)
        have o1' := o1
        unfold pRO at o1'
        refine ev_aload_n (pc := 27) dX11_mind_27 rfl ?_
        refine gf_X11_40 (pc := 28) rfl dX11_mind_28 (by (try dsimp only); (repeat (first | rw [up_s] | rw [up_n (by omega)])) <;> first | rfl | assumption) ?_
        refine ev_iload_n (pc := 31) dX11_mind_31 rfl ?_
        refine iv_X11_228 (pc := 32) rfl dX11_mind_32 (by (try dsimp only); (repeat (first | rw [up_s] | rw [up_n (by omega)])) <;> first | rfl | assumption) (Nat.le_of_ble_eq_true rfl) (Nat.le_of_ble_eq_true rfl) (Nat.le_of_ble_eq_true rfl) (Nat.le_of_ble_eq_true rfl) (c_mindPlace o1 u1 rfl l19 he) (kp ?_)
        rw [show (miX (fun i => decide (e ≤ (outW B (gW (allW (bT B) (bT B)) i)).length)) (fun i => moN (outW B (gW (allW (bT B) (bT B)) i)) e) (nW B)).1 = some j from ef]
        show Ev X _ _ _ _ _ _ _ [.int (nI j)]
        refine ev_istore_n (pc := 35) (L' := [_, _, _, _]) dX11_mind_35 (Nat.le_of_ble_eq_true rfl) rfl ?_
        refine ev_iload_n (pc := 36) dX11_mind_36 rfl ?_
        refine ev_if_ge (pc := 37) 43 dX11_mind_37 (by decide) (fun c_37 => ?_) (fun c_37 => ?_)
        · (try simp (disch := omega) only [i32_lti, i32_lei, i32_eqi, nI_toInt, i32z] at c_37)
          refine ev_iload_n (pc := 43) dX11_mind_43 rfl ?_
          refine ev_if_ne (pc := 44) 59 dX11_mind_44 (by decide) (fun c_44 => ?_) (fun c_44 => ?_)
          · (try simp (disch := omega) only [i32_lti, i32_lei, i32_eqi, nI_toInt, i32z] at c_44)
            refine ev_aload_n (pc := 59) dX11_mind_59 rfl ?_
            refine gf_X11_40 (pc := 60) rfl dX11_mind_60 (by (try dsimp only); (repeat (first | rw [up_s] | rw [up_n (by omega)])) <;> first | rfl | assumption) ?_
            refine ev_iload_n (pc := 63) dX11_mind_63 rfl ?_
            refine iv_X11_216 (pc := 64) rfl dX11_mind_64 (by (try dsimp only); (repeat (first | rw [up_s] | rw [up_n (by omega)])) <;> first | rfl | assumption) (Nat.le_of_ble_eq_true rfl) (Nat.le_of_ble_eq_true rfl) (Nat.le_of_ble_eq_true rfl) (Nat.le_of_ble_eq_true rfl) (c_rowAt o1 w1 (gW_get hj)) (kp ?_)
            refine ev_iret (pc := 67) dX11_mind_67 rfl rfl (Nat.le_of_ble_eq_true rfl) (Nat.le_of_ble_eq_true rfl) ?_
            exact ⟨_, rfl, by first | (rw [if_pos c_44]; rfl) | (rw [if_neg c_44]; rfl), rfl, (fun q a => f1 q (by omega)), fin⟩
          · (try simp (disch := omega) only [i32_lti, i32_lei, i32_eqi, nI_toInt, i32z] at c_44)
            refine ev_aload_n (pc := 47) dX11_mind_47 rfl ?_
            refine gf_X11_40 (pc := 48) rfl dX11_mind_48 (by (try dsimp only); (repeat (first | rw [up_s] | rw [up_n (by omega)])) <;> first | rfl | assumption) ?_
            refine ev_iload_n (pc := 51) dX11_mind_51 rfl ?_
            refine ev_iload_n (pc := 52) dX11_mind_52 rfl ?_
            refine iv_X11_231 (pc := 53) rfl dX11_mind_53 (by (try dsimp only); (repeat (first | rw [up_s] | rw [up_n (by omega)])) <;> first | rfl | assumption) (Nat.le_of_ble_eq_true rfl) (Nat.le_of_ble_eq_true rfl) (Nat.le_of_ble_eq_true rfl) (Nat.le_of_ble_eq_true rfl) (c_mostOpen o1 u1 hj (by omega) he) (kp ?_)
            refine ev_goto (pc := 56) 67 dX11_mind_56 (by decide) ?_
            refine ev_iret (pc := 67) dX11_mind_67 rfl rfl (Nat.le_of_ble_eq_true rfl) (Nat.le_of_ble_eq_true rfl) ?_
            exact ⟨_, rfl, by first | (rw [if_pos c_44]; rfl) | (rw [if_neg c_44]; rfl), rfl, (fun q a => f1 q (by omega)), fin⟩
        · exfalso; (try simp (disch := omega) only [i32_lti, i32_lei, i32_eqi, nI_toInt, i32z] at c_37); omega
      · exact absurd c_11 (by decide)
theorem c_D_bars_bad {e : Int32} (hx : ¬ (1 ≤ e.toInt ∧ e.toInt ≤ 30)) : Ct X 6 mt_X11_bars [.ref d, .int e] (h, z) 0 0 (QP (.int (-1)) (h, z)) := by
  refine mk_X11_bars (Nat.le_of_ble_eq_true rfl) (L := [.ref d, .int e]) rfl ?_
  refine ev_iload_n (pc := 0) dX11_bars_0 rfl ?_
  refine iv_X11_225 (pc := 1) rfl dX11_bars_1 (Nat.le_of_ble_eq_true rfl) (Nat.le_of_ble_eq_true rfl) (Nat.le_of_ble_eq_true rfl) (Nat.le_of_ble_eq_true rfl) (c_isDawn e) (kp ?_)
  rw [decide_eq_false hx]
  refine ev_if_ne (pc := 4) 9 dX11_bars_4 (by decide) (fun c_4 => ?_) (fun c_4 => ?_)
  · exact absurd rfl c_4
  · (try simp (disch := omega) only [i32_lti, i32_lei, i32_eqi, nI_toInt, i32z] at c_4)
    refine ev_iconst (pc := 7) (v := (-1)) dX11_bars_7 kc_m1 ?_
    refine ev_iret (pc := 8) dX11_bars_8 rfl rfl (Nat.le_of_ble_eq_true rfl) (Nat.le_of_ble_eq_true rfl) ?_
    exact ⟨rfl, rfl⟩
theorem c_D_bars (p : pC h d cs B N P I J wn op n tr) (b9 : wB m B) (hm : m < 99) {e : Nat} (h1e : 1 ≤ e) (he : e ≤ 30) : Ct X 6 mt_X11_bars [.ref d, .int (nI e)] (h, z) 0 0 (Qi (fun r S' => r = aBars B e ∧ S'.2 = z ∧ hfr h S'.1 d 174 ∧ pC S'.1 d cs B N P I J wn op n tr)) := by
  obtain ⟨po, -, pb, -, -, -, ⟨kn, pr⟩, -⟩ := id p
  unfold pDO at po
  have l19 := nW_le b9
  obtain ⟨s_, fu_, lb_, os_, nx_, pr1, -⟩ := id pr
  unfold pRO at pr1
  have h64 : (if (allI B e).1 = true then (allI B e).2 else 0) < 64 := by
    have := alX_lt (fun i => decide (e ≤ (outW B (rW B i)).length)) (fun i => mk (rW B i)) (nW B)
    unfold allI
    split <;> omega
  refine mk_X11_bars (Nat.le_of_ble_eq_true rfl) (L := [.ref d, .int (nI e)]) rfl ?_
  refine ev_iload_n (pc := 0) dX11_bars_0 rfl ?_
  refine iv_X11_225 (pc := 1) rfl dX11_bars_1 (Nat.le_of_ble_eq_true rfl) (Nat.le_of_ble_eq_true rfl) (Nat.le_of_ble_eq_true rfl) (Nat.le_of_ble_eq_true rfl) (c_isDawn (nI e)) (kp ?_)
  rw [decide_eq_true (by rw [nI_toInt (by omega)]; omega)]
  refine ev_if_ne (pc := 4) 9 dX11_bars_4 (by decide) (fun c_4 => ?_) (fun c_4 => ?_)
  · (try simp (disch := omega) only [i32_lti, i32_lei, i32_eqi, nI_toInt, i32z] at c_4)
    refine ev_aload_n (pc := 9) dX11_bars_9 rfl ?_
    refine gf_X11_40 (pc := 10) rfl dX11_bars_10 (by (try dsimp only); (repeat (first | rw [up_s] | rw [up_n (by omega)])) <;> first | rfl | assumption) ?_
    refine ev_aload_n (pc := 13) dX11_bars_13 rfl ?_
    refine gf_X11_19 (pc := 14) rfl dX11_bars_14 (by (try dsimp only); (repeat (first | rw [up_s] | rw [up_n (by omega)])) <;> first | rfl | assumption) ?_
    refine iv_X11_207 (pc := 17) rfl dX11_bars_17 (by (try dsimp only); (repeat (first | rw [up_s] | rw [up_n (by omega)])) <;> first | rfl | assumption) (Nat.le_of_ble_eq_true rfl) (Nat.le_of_ble_eq_true rfl) (Nat.le_of_ble_eq_true rfl) (Nat.le_of_ble_eq_true rfl) (c_know pr b9 (by omega) pb (by omega)) (kv (fun S' hS => ?_))
    obtain ⟨h1, z'⟩ := S'
    obtain ⟨rfl, f1, r1⟩ := hS
    have po1 := (f1 d (by omega)).trans po
    have fin := p.rw (fun q a => f1 q (by omega)) r1
    obtain ⟨lb, osz, nx, o1, w1, u1⟩ := r1.k b9 (by omega)
    have o1' := o1
    unfold pRO at o1'
    refine ev_aload_n (pc := 20) dX11_bars_20 rfl ?_
    refine gf_X11_40 (pc := 21) rfl dX11_bars_21 (by (try dsimp only); (repeat (first | rw [up_s] | rw [up_n (by omega)])) <;> first | rfl | assumption) ?_
    refine ev_iload_n (pc := 24) dX11_bars_24 rfl ?_
    refine iv_X11_235 (pc := 25) rfl dX11_bars_25 (by (try dsimp only); (repeat (first | rw [up_s] | rw [up_n (by omega)])) <;> first | rfl | assumption) (Nat.le_of_ble_eq_true rfl) (Nat.le_of_ble_eq_true rfl) (Nat.le_of_ble_eq_true rfl) (Nat.le_of_ble_eq_true rfl) (c_inAll o1 w1 u1 rfl l19 he) (kp ?_)
    refine iv_X11_238 (pc := 28) rfl dX11_bars_28 (Nat.le_of_ble_eq_true rfl) (Nat.le_of_ble_eq_true rfl) (Nat.le_of_ble_eq_true rfl) (Nat.le_of_ble_eq_true rfl) (c_firstOf h64) (kp ?_)
    refine ev_iret (pc := 31) dX11_bars_31 rfl rfl (Nat.le_of_ble_eq_true rfl) (Nat.le_of_ble_eq_true rfl) ?_
    exact ⟨_, rfl, rfl, rfl, (fun q a => f1 q (by omega)), fin⟩
  · exact absurd c_4 (by decide)
theorem c_D_longer (p : pC h d cs B N P I J wn op n tr) (b9 : wB m B) (hm : m < 99) : Ct X 6 mt_X11_longer [.ref d] (h, z) 0 0 (Qi (fun r S' => r = nI (bestN (bLong B 8)) - nI (bestN B) ∧ S'.2 = z ∧ hfr h S'.1 d 174 ∧ pC S'.1 d cs B N P I J wn op n tr)) := by
  obtain ⟨po, -, pb, -, -, -, ⟨kn, pr⟩, -⟩ := id p
  unfold pDO at po
  have l19 := nW_le b9
  have l0 := nW_pos B
  have hbi : bestI B < nW B := bIx_lt _ _ l0
  obtain ⟨s_, fu_, lb_, os_, nx_, pr1, -⟩ := id pr
  unfold pRO at pr1
  refine mk_X11_longer (Nat.le_of_ble_eq_true rfl) (L := [.ref d, .retAddr 0]) rfl ?_
  refine ev_aload_n (pc := 0) dX11_longer_0 rfl ?_
  refine gf_X11_40 (pc := 1) rfl dX11_longer_1 (by (try dsimp only); (repeat (first | rw [up_s] | rw [up_n (by omega)])) <;> first | rfl | assumption) ?_
  refine ev_aload_n (pc := 4) dX11_longer_4 rfl ?_
  refine gf_X11_19 (pc := 5) rfl dX11_longer_5 (by (try dsimp only); (repeat (first | rw [up_s] | rw [up_n (by omega)])) <;> first | rfl | assumption) ?_
  refine iv_X11_241 (pc := 8) rfl dX11_longer_8 (by (try dsimp only); (repeat (first | rw [up_s] | rw [up_n (by omega)])) <;> first | rfl | assumption) (Nat.le_of_ble_eq_true rfl) (Nat.le_of_ble_eq_true rfl) (Nat.le_of_ble_eq_true rfl) (Nat.le_of_ble_eq_true rfl) (c_bestIfLonger pr b9 hm pb (by omega)) (ki (fun r S' hS => ?_))
  obtain ⟨h1, z'⟩ := S'
  obtain ⟨rfl, rfl, f1, kn1, r1⟩ := hS
  have po1 := (f1 d (by omega)).trans po
  have p1 := p.rw (fun q a => f1 q (by omega)) r1
  obtain ⟨s1_, fu1_, lb1_, os1_, nx1_, pr11, -⟩ := id r1
  unfold pRO at pr11
  refine ev_istore_n (pc := 11) (L' := [_, _]) dX11_longer_11 (Nat.le_of_ble_eq_true rfl) rfl ?_
  refine ev_aload_n (pc := 12) dX11_longer_12 rfl ?_
  refine gf_X11_40 (pc := 13) rfl dX11_longer_13 (by (try dsimp only); (repeat (first | rw [up_s] | rw [up_n (by omega)])) <;> first | rfl | assumption) ?_
  refine ev_aload_n (pc := 16) dX11_longer_16 rfl ?_
  refine gf_X11_19 (pc := 17) rfl dX11_longer_17 (by (try dsimp only); (repeat (first | rw [up_s] | rw [up_n (by omega)])) <;> first | rfl | assumption) ?_
  refine iv_X11_207 (pc := 20) rfl dX11_longer_20 (by (try dsimp only); (repeat (first | rw [up_s] | rw [up_n (by omega)])) <;> first | rfl | assumption) (Nat.le_of_ble_eq_true rfl) (Nat.le_of_ble_eq_true rfl) (Nat.le_of_ble_eq_true rfl) (Nat.le_of_ble_eq_true rfl) (c_know r1 b9 (by omega) (pb.fr (fun q a b => f1 q (by omega))) (by omega)) (kv (fun S' hS => ?_))
  obtain ⟨h2, z'⟩ := S'
  obtain ⟨rfl, f2, r2⟩ := hS
  have po2 := (f2 d (by omega)).trans po1
  have fin := p1.rw (fun q a => f2 q (by omega)) r2
  obtain ⟨lb, osz, nx, o1, w1, u1⟩ := r2.k b9 (by omega)
  have o1' := o1
  unfold pRO at o1'
  refine ev_iload_n (pc := 23) dX11_longer_23 rfl ?_
  refine ev_aload_n (pc := 24) dX11_longer_24 rfl ?_
  refine gf_X11_40 (pc := 25) rfl dX11_longer_25 (by (try dsimp only); (repeat (first | rw [up_s] | rw [up_n (by omega)])) <;> first | rfl | assumption) ?_
  refine ev_aload_n (pc := 28) dX11_longer_28 rfl ?_
  refine gf_X11_40 (pc := 29) rfl dX11_longer_29 (by (try dsimp only); (repeat (first | rw [up_s] | rw [up_n (by omega)])) <;> first | rfl | assumption) ?_
  refine iv_X11_210 (pc := 32) rfl dX11_longer_32 (by (try dsimp only); (repeat (first | rw [up_s] | rw [up_n (by omega)])) <;> first | rfl | assumption) (Nat.le_of_ble_eq_true rfl) (Nat.le_of_ble_eq_true rfl) (Nat.le_of_ble_eq_true rfl) (Nat.le_of_ble_eq_true rfl) (c_bestPlace o1 u1 rfl l0 l19) (kp ?_)
  refine iv_X11_213 (pc := 35) rfl dX11_longer_35 (by (try dsimp only); (repeat (first | rw [up_s] | rw [up_n (by omega)])) <;> first | rfl | assumption) (Nat.le_of_ble_eq_true rfl) (Nat.le_of_ble_eq_true rfl) (Nat.le_of_ble_eq_true rfl) (Nat.le_of_ble_eq_true rfl) (c_savedBy o1 u1 (gW_get hbi) (by unfold bestI at hbi; exact Nat.lt_of_lt_of_le hbi l19)) (kp ?_)
  refine ev_isub (pc := 38) dX11_longer_38 ?_
  refine ev_iret (pc := 39) dX11_longer_39 rfl rfl (Nat.le_of_ble_eq_true rfl) (Nat.le_of_ble_eq_true rfl) ?_
  exact ⟨_, rfl, rfl, rfl, (fun q a => (f2 q (by omega)).trans (f1 q (by omega))), fin⟩
end ASK
