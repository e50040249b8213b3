/-! ===== the model: its calls one by one ===== -/
theorem tls {P : List Tl} (h : 0 < P.length) (N : Tl) : P[P.length - 1]? = some (P.getLast?.getD N) := by
  rw [List.getLast?_eq_getElem?, List.getElem?_eq_getElem (by omega)]; rfl
theorem uOk.drop {f : Nat → Int32} {P : List Tl} (u : uOk f P) : uOk f P.dropLast := by
  intro i T hT
  refine u i T ?_
  rw [List.getElem?_dropLast] at hT
  split at hT
  · exact hT
  · cases hT
theorem endN_ext {T : Tl} {n : Nat} (h : ∀ t : Nat, (tB T).testBit t = true → t < n) : ∀ c : Nat, endN T (n + c) = endN T n
  | 0 => rfl
  | c + 1 => by
    show endN T (n + c) ||| (if (tB T).testBit (n + c) = true ∧ gN (tF T) (n + c) = 0 then 1 <<< (n + c) else 0) = _
    rw [if_neg (fun q => absurd (h _ q.1) (by omega)), endN_ext h c, Nat.or_zero]
theorem plc {O : List Nat} (hn : O.Nodup) (t : Nat) : ∃ j : Nat, (∀ i : Nat, i < O.length → (gN O i = t ↔ i = j)) ∧ (if j < O.length then nI j else -9) = (if t ∈ O then nI (O.idxOf t) else -9) := by
  by_cases ht : t ∈ O
  · obtain ⟨j, hj1, hj2⟩ := List.getElem_of_mem ht
    have e := hn.idxOf_getElem j hj1
    refine ⟨j, ?_, by rw [if_pos ht, if_pos hj1, ← hj2, e]⟩
    intro i hi
    constructor
    · intro q
      rw [gN_eq hi] at q
      have e2 := hn.idxOf_getElem i hi
      rw [q, ← hj2, e] at e2
      exact e2.symm
    · intro q
      subst q
      rw [gN_eq hi, hj2]
  · refine ⟨O.length, ?_, by rw [if_neg ht, if_neg (by omega)]⟩
    intro i hi
    constructor
    · intro q; exact absurd (q ▸ gN_mem hi) ht
    · intro q; omega
section MONE
variable {X : Cx} {h : Hp} {z m n mx : Nat} {cs : List Nat} {B : Bk} {N : Tl} {P : List Tl} {I J : Im} {wn op : List Nat} {tr : Int64}
theorem c_M_undo (p : pM h m cs B N P I J wn op n tr) : Ct X 0 mt_X12_undo [.ref m] (h, z) 0 0 (Qi (fun r S' => r = (if 0 < P.length then nI (P.length - 1) else -2) ∧ S'.2 = z ∧ hfr h S'.1 m 17 ∧ pM S'.1 m cs B (P.getLast?.getD N) P.dropLast I J wn op n tr)) := by
  obtain ⟨⟨at_, bg, tk, td, rt, rn, rm, rd, mn, bd, br, po⟩, px, pr, pb, pn, pq, ⟨pu, pl⟩, por, ph, pk⟩ := id p
  unfold pMO at po
  unfold pRw at pn
  obtain ⟨f, u1, u2⟩ := pu
  refine mk_X12_undo (Nat.le_of_ble_eq_true rfl) (L := [.ref m, .retAddr 0]) rfl ?_
  by_cases hP : 0 < P.length
  · rw [if_pos hP]
    have hT := tls hP N
    generalize P.getLast?.getD N = T at hT
    obtain ⟨y1, y2⟩ := u2 _ _ hT
    have hdl : P.dropLast.length = P.length - 1 := List.length_dropLast
    have loop : ∀ (c k : Nat), k + c = 28 → ∀ (h1 : Hp) (g : Nat → Int32), (∀ q : Nat, q ≠ m → q ≠ m + 8 → h1 q = h q) → pMO h1 m (nI cs.length) at_ bg tk td rt rn rm rd (nI (bT B)) (nI (bK B)) (nI (bM B)) (nI (bD B)) (nI 0) (nI (tS N)) (nI (P.length - 1)) mn bd br (nI n) tr → h1 (m + 8) = some (.inr (0, .inl (ar 28 g))) → (∀ j : Nat, j < k → g j = eT T j) → Ev X (mi_X12_undo 0 0 0) (Qi (fun r S' => r = nI (P.length - 1) ∧ S'.2 = z ∧ hfr h S'.1 m 17 ∧ pM S'.1 m cs B T P.dropLast I J wn op n tr)) 0 0 (h1, z) 22 [.ref m, .int (nI k)] [] := by
      intro c
      induction c with
      | zero =>
        intro k hk h1 g f1 o1 a1 hg
        unfold pMO at o1
        have w1 := (f1 (m + 10) (by omega) (by omega)).trans u1
        refine ev_iload_n (pc := 22) dX12_undo_22 rfl ?_
        refine ev_bipush (pc := 23) (v := nI 28) dX12_undo_23 kb_28 ?_
        refine ev_icmp_ge (pc := 25) 54 dX12_undo_25 (by decide) (fun c_25 => ?_) (fun c_25 => ?_)
        · (try simp (disch := omega) only [i32_lti, i32_lei, i32_eqi, nI_toInt, i32z] at c_25)
          refine ev_aload_n (pc := 54) dX12_undo_54 rfl ?_
          refine ev_aload_n (pc := 55) dX12_undo_55 rfl ?_
          refine gf_X12_37 (pc := 56) rfl dX12_undo_56 (by (try dsimp only); (repeat (first | rw [up_s] | rw [up_n (by omega)])) <;> first | rfl | assumption) ?_
          refine ev_bipush (pc := 59) (v := nI 29) dX12_undo_59 kb_29 ?_
          refine ev_aload_n (pc := 61) dX12_undo_61 rfl ?_
          refine gf_X12_155 (pc := 62) rfl dX12_undo_62 (by (try dsimp only); (repeat (first | rw [up_s] | rw [up_n (by omega)])) <;> first | rfl | assumption) ?_
          refine ev_imul (pc := 65) dX12_undo_65 ?_
          rw [pk_mul]
          refine ev_bipush (pc := 66) (v := nI 28) dX12_undo_66 kb_28 ?_
          refine ev_iadd (pc := 68) dX12_undo_68 ?_
          (try rw [nI_add])
          refine ev_iald (pc := 69) dX12_undo_69 (by (try dsimp only); (repeat (first | rw [up_s] | rw [up_n (by omega)])) <;> first | rfl | assumption) (nI_toInt (by omega)) (xg (by omega) y2) ?_
          refine pf_X12_152 (pc := 70) rfl dX12_undo_70 (by (try dsimp only); (repeat (first | rw [up_s] | rw [up_n (by omega)])) <;> first | rfl | assumption) ?_
          refine ev_aload_n (pc := 73) dX12_undo_73 rfl ?_
          refine gf_X12_155 (pc := 74) rfl dX12_undo_74 (by (try dsimp only); (repeat (first | rw [up_s] | rw [up_n (by omega)])) <;> first | rfl | assumption) ?_
          refine ev_iret (pc := 77) dX12_undo_77 rfl rfl (Nat.le_of_ble_eq_true rfl) (Nat.le_of_ble_eq_true rfl) ?_
          refine ⟨_, rfl, rfl, rfl, (by intro q a; (try dsimp only); rw [up_n (by omega)]; exact f1 q (by omega) (by omega)), p.st (by intro q a b c; (try dsimp only); rw [up_n (by omega)]; exact f1 q a b) ⟨at_, bg, tk, td, rt, rn, rm, rd, mn, bd, br, (by unfold pMO; rw [hdl]; exact (by (try dsimp only); (repeat (first | rw [up_s] | rw [up_n (by omega)])) <;> first | rfl | assumption))⟩ ?_ ⟨f, (by (try dsimp only); rw [up_n (by omega)]; exact w1), u2.drop⟩ (by omega)⟩
          have ea : ar 28 g = ar 28 (eT T) := ar_ext (fun j hj => hg j (by omega))
          rw [ea] at a1
          exact (up_n (by omega)).trans a1
        · exfalso; (try simp (disch := omega) only [i32_lti, i32_lei, i32_eqi, nI_toInt, i32z] at c_25); omega
      | succ c ih =>
        intro k hk h1 g f1 o1 a1 hg
        have o1' := o1
        unfold pMO at o1
        have w1 := (f1 (m + 10) (by omega) (by omega)).trans u1
        refine ev_iload_n (pc := 22) dX12_undo_22 rfl ?_
        refine ev_bipush (pc := 23) (v := nI 28) dX12_undo_23 kb_28 ?_
        refine ev_icmp_ge (pc := 25) 54 dX12_undo_25 (by decide) (fun c_25 => ?_) (fun c_25 => ?_)
        · exfalso; (try simp (disch := omega) only [i32_lti, i32_lei, i32_eqi, nI_toInt, i32z] at c_25); omega
        · (try simp (disch := omega) only [i32_lti, i32_lei, i32_eqi, nI_toInt, i32z] at c_25)
          refine ev_aload_n (pc := 28) dX12_undo_28 rfl ?_
          refine gf_X12_31 (pc := 29) rfl dX12_undo_29 (by (try dsimp only); (repeat (first | rw [up_s] | rw [up_n (by omega)])) <;> first | rfl | assumption) ?_
          refine ev_iload_n (pc := 32) dX12_undo_32 rfl ?_
          refine ev_aload_n (pc := 33) dX12_undo_33 rfl ?_
          refine gf_X12_37 (pc := 34) rfl dX12_undo_34 (by (try dsimp only); (repeat (first | rw [up_s] | rw [up_n (by omega)])) <;> first | rfl | assumption) ?_
          refine ev_bipush (pc := 37) (v := nI 29) dX12_undo_37 kb_29 ?_
          refine ev_aload_n (pc := 39) dX12_undo_39 rfl ?_
          refine gf_X12_155 (pc := 40) rfl dX12_undo_40 (by (try dsimp only); (repeat (first | rw [up_s] | rw [up_n (by omega)])) <;> first | rfl | assumption) ?_
          refine ev_imul (pc := 43) dX12_undo_43 ?_
          rw [pk_mul]
          refine ev_iload_n (pc := 44) dX12_undo_44 rfl ?_
          refine ev_iadd (pc := 45) dX12_undo_45 ?_
          (try rw [nI_add])
          refine ev_iald (pc := 46) dX12_undo_46 (by (try dsimp only); (repeat (first | rw [up_s] | rw [up_n (by omega)])) <;> first | rfl | assumption) (nI_toInt (by omega)) (xg (by omega) (y1 k (by omega))) ?_
          refine ev_iast (pc := 47) dX12_undo_47 (by (try dsimp only); (repeat (first | rw [up_s] | rw [up_n (by omega)])) <;> first | rfl | assumption) (nI_toInt (by omega)) (by rw [ar_len]; omega) ?_
          rw [ar_set (by omega)]
          refine ev_iinc (pc := 48) (L' := [_, _]) dX12_undo_48 rfl (nI_1 _) rfl ?_
          refine ev_goto (pc := 51) 22 dX12_undo_51 (by decide) ?_
          refine ih (k + 1) (by omega) _ (ru g k (eT T k)) (by intro q e1 e2; (try dsimp only); rw [up_n (by omega)]; exact f1 q e1 e2) (by unfold pMO; exact (by (try dsimp only); (repeat (first | rw [up_s] | rw [up_n (by omega)])) <;> first | rfl | assumption)) (by (try dsimp only); (repeat (first | rw [up_s] | rw [up_n (by omega)])) <;> first | rfl | assumption) ?_
          intro j hj
          by_cases q : j = k
          · subst q; rw [ru_s]
          · rw [ru_n q]; exact hg j (by omega)
    refine ev_aload_n (pc := 0) dX12_undo_0 rfl ?_
    refine gf_X12_155 (pc := 1) rfl dX12_undo_1 (by (try dsimp only); (repeat (first | rw [up_s] | rw [up_n (by omega)])) <;> first | rfl | assumption) ?_
    refine ev_if_ne (pc := 4) 10 dX12_undo_4 (by decide) (fun c_4 => ?_) (fun c_4 => ?_)
    · (try simp (disch := omega) only [i32_lti, i32_lei, i32_eqi, nI_toInt, i32z] at c_4)
      refine ev_aload_n (pc := 10) dX12_undo_10 rfl ?_
      refine ev_dup (pc := 11) dX12_undo_11 rfl ?_
      refine gf_X12_155 (pc := 12) rfl dX12_undo_12 (by (try dsimp only); (repeat (first | rw [up_s] | rw [up_n (by omega)])) <;> first | rfl | assumption) ?_
      refine ev_iconst (pc := 15) (v := nI 1) dX12_undo_15 kc_1 ?_
      refine ev_isub (pc := 16) dX12_undo_16 ?_
      rw [nI_sub1 hP]
      refine pf_X12_155 (pc := 17) rfl dX12_undo_17 (by (try dsimp only); (repeat (first | rw [up_s] | rw [up_n (by omega)])) <;> first | rfl | assumption) ?_
      refine ev_iconst (pc := 20) (v := nI 0) dX12_undo_20 kc_0 ?_
      refine ev_istore_n (pc := 21) (L' := [_, _]) dX12_undo_21 (Nat.le_of_ble_eq_true rfl) rfl ?_
      exact loop 28 0 rfl _ (eT N) (by intro q e1 e2; (try dsimp only); rw [up_n (by omega)]) (by unfold pMO; exact (by (try dsimp only); (repeat (first | rw [up_s] | rw [up_n (by omega)])) <;> first | rfl | assumption)) (by (try dsimp only); (repeat (first | rw [up_s] | rw [up_n (by omega)])) <;> first | rfl | assumption) (fun j hj => by omega)
    · exfalso; (try simp (disch := omega) only [i32_lti, i32_lei, i32_eqi, nI_toInt, i32z] at c_4); omega
  · rw [if_neg hP]
    have eP : P = [] := by cases P with
      | nil => rfl
      | cons a l => exact absurd (by simp) hP
    subst eP
    refine ev_aload_n (pc := 0) dX12_undo_0 rfl ?_
    refine gf_X12_155 (pc := 1) rfl dX12_undo_1 (by (try dsimp only); (repeat (first | rw [up_s] | rw [up_n (by omega)])) <;> first | rfl | assumption) ?_
    refine ev_if_ne (pc := 4) 10 dX12_undo_4 (by decide) (fun c_4 => ?_) (fun c_4 => ?_)
    · exfalso; (try simp (disch := omega) only [i32_lti, i32_lei, i32_eqi, nI_toInt, i32z] at c_4); simp at c_4
    · (try simp (disch := omega) only [i32_lti, i32_lei, i32_eqi, nI_toInt, i32z] at c_4)
      refine ev_bipush (pc := 7) (v := (-2)) dX12_undo_7 kb_m2 ?_
      refine ev_iret (pc := 9) dX12_undo_9 rfl rfl (Nat.le_of_ble_eq_true rfl) (Nat.le_of_ble_eq_true rfl) ?_
      exact ⟨_, rfl, rfl, rfl, fun q a => rfl, p⟩
theorem c_M_hours_bad {x : Int32} (hx : ¬ (0 ≤ x.toInt ∧ x.toInt ≤ 200)) : Ct X 1 mt_X12_hours [.ref m, .int x] (h, z) 0 0 (QP (.int (-1)) (h, z)) := by
  refine mk_X12_hours (Nat.le_of_ble_eq_true rfl) (L := [.ref m, .int x]) rfl ?_
  refine ev_iload_n (pc := 0) dX12_hours_0 rfl ?_
  refine ev_i2l (pc := 1) dX12_hours_1 ?_
  refine ev_lconst (pc := 2) (v := 0) dX12_hours_2 kl_0 ?_
  refine ev_ldc2_w (pc := 3) dX12_hours_3 tw_1031 ?_
  refine iv_X12_63 (pc := 6) rfl dX12_hours_6 (Nat.le_of_ble_eq_true rfl) (Nat.le_of_ble_eq_true rfl) (Nat.le_of_ble_eq_true rfl) (Nat.le_of_ble_eq_true rfl) (c_in _ _ _) (kp ?_)
  rw [decide_eq_false (by rw [Int32.toInt_toInt64]; exact hx)]
  refine ev_if_eq (pc := 9) 20 dX12_hours_9 (by decide) (fun c_9 => ?_) (fun c_9 => ?_)
  · (try simp (disch := omega) only [i32_lti, i32_lei, i32_eqi, nI_toInt, i32z] at c_9)
    refine ev_iconst (pc := 20) (v := (-1)) dX12_hours_20 kc_m1 ?_
    refine ev_iret (pc := 21) dX12_hours_21 rfl rfl (Nat.le_of_ble_eq_true rfl) (Nat.le_of_ble_eq_true rfl) ?_
    exact ⟨rfl, rfl⟩
  · exact absurd rfl c_9
theorem c_M_hours (p : pM h m cs B N P I J wn op n tr) (b9 : wB mx B) {k : Nat} (hk : k ≤ 200) : Ct X 1 mt_X12_hours [.ref m, .int (nI k)] (h, z) 0 0 (QP (.int (nI (hoN B k))) (h, z)) := by
  obtain ⟨⟨at_, bg, tk, td, rt, rn, rm, rd, mn, bd, br, po⟩, px, pr, pb, -⟩ := id p
  refine mk_X12_hours (Nat.le_of_ble_eq_true rfl) (L := [.ref m, .int (nI k)]) rfl ?_
  refine ev_iload_n (pc := 0) dX12_hours_0 rfl ?_
  refine ev_i2l (pc := 1) dX12_hours_1 ?_
  refine ev_lconst (pc := 2) (v := 0) dX12_hours_2 kl_0 ?_
  refine ev_ldc2_w (pc := 3) dX12_hours_3 tw_1031 ?_
  refine iv_X12_63 (pc := 6) rfl dX12_hours_6 (Nat.le_of_ble_eq_true rfl) (Nat.le_of_ble_eq_true rfl) (Nat.le_of_ble_eq_true rfl) (Nat.le_of_ble_eq_true rfl) (c_in _ _ _) (kp ?_)
  rw [decide_eq_true (by rw [Int32.toInt_toInt64, nI_toInt (by omega)]; exact ⟨Int.natCast_nonneg _, by show (k : Int) ≤ 200; omega⟩)]
  refine ev_if_eq (pc := 9) 20 dX12_hours_9 (by decide) (fun c_9 => ?_) (fun c_9 => ?_)
  · exact absurd c_9 (by decide)
  · (try simp (disch := omega) only [i32_lti, i32_lei, i32_eqi, nI_toInt, i32z] at c_9)
    refine ev_aload_n (pc := 12) dX12_hours_12 rfl ?_
    refine ev_iload_n (pc := 13) dX12_hours_13 rfl ?_
    refine iv_X12_164 (pc := 14) rfl dX12_hours_14 (by (try dsimp only); (repeat (first | rw [up_s] | rw [up_n (by omega)])) <;> first | rfl | assumption) (Nat.le_of_ble_eq_true rfl) (Nat.le_of_ble_eq_true rfl) (Nat.le_of_ble_eq_true rfl) (Nat.le_of_ble_eq_true rfl) (c_mHoursOf po pb b9.2.1 b9.2.2.1 (by omega)) (kp ?_)
    refine ev_goto (pc := 17) 21 dX12_hours_17 (by decide) ?_
    refine ev_iret (pc := 21) dX12_hours_21 rfl rfl (Nat.le_of_ble_eq_true rfl) (Nat.le_of_ble_eq_true rfl) ?_
    exact ⟨rfl, rfl⟩
theorem c_M_type_bad {c : Int32} (hc : ¬ (0 ≤ c.toInt ∧ c.toInt ≤ 255)) : Ct X 1 mt_X12_type [.ref m, .int c] (h, z) 0 0 (QP (.int (-1)) (h, z)) := by
  refine mk_X12_type (Nat.le_of_ble_eq_true rfl) (L := [.ref m, .int c]) rfl ?_
  refine ev_iload_n (pc := 0) dX12_type_0 rfl ?_
  refine ev_i2l (pc := 1) dX12_type_1 ?_
  refine ev_lconst (pc := 2) (v := 0) dX12_type_2 kl_0 ?_
  refine ev_ldc2_w (pc := 3) dX12_type_3 tw_968 ?_
  refine iv_X12_63 (pc := 6) rfl dX12_type_6 (Nat.le_of_ble_eq_true rfl) (Nat.le_of_ble_eq_true rfl) (Nat.le_of_ble_eq_true rfl) (Nat.le_of_ble_eq_true rfl) (c_in _ _ _) (kp ?_)
  rw [decide_eq_false (by rw [Int32.toInt_toInt64]; exact hc)]
  refine ev_if_ne (pc := 9) 14 dX12_type_9 (by decide) (fun c_9 => ?_) (fun c_9 => ?_)
  · exact absurd rfl c_9
  · (try simp (disch := omega) only [i32_lti, i32_lei, i32_eqi, nI_toInt, i32z] at c_9)
    refine ev_iconst (pc := 12) (v := (-1)) dX12_type_12 kc_m1 ?_
    refine ev_iret (pc := 13) dX12_type_13 rfl rfl (Nat.le_of_ble_eq_true rfl) (Nat.le_of_ble_eq_true rfl) ?_
    exact ⟨rfl, rfl⟩
theorem pM.tx {cs' : List Nat} {h' : Hp} (p : pM h m cs B N P I J wn op n tr) (e : ∀ q : Nat, q ≠ m → q ≠ m + 1 → h' q = h q) (o : pMo h' m cs' B N P n tr) (x : mTx h' m cs') : pM h' m cs' B N P I J wn op n tr := by
  obtain ⟨-, px, pr, pb, pn, pq, ⟨pu, pl⟩, por, ph, pk⟩ := p
  exact ⟨o, x, pr.fr (fun q a b => e q (by omega) (by omega)), pb.fr (fun q a b => e q (by omega) (by omega)), (e _ (by omega) (by omega)).trans pn, pq.fr (e _ (by omega) (by omega)), ⟨pu.fr (e _ (by omega) (by omega)), pl⟩, por.fr (fun q a b => e q (by omega) (by omega)), ph.fr (fun q a b => e q (by omega) (by omega)), pk.fr (e _ (by omega) (by omega))⟩
theorem c_M_type (p : pM h m cs B N P I J wn op n tr) {c : Nat} (hc : c < 256) : Ct X 1 mt_X12_type [.ref m, .int (nI c)] (h, z) 0 0 (Qi (fun r S' => r = (if cs.length < 150 then nI (cs.length + 1) else -3) ∧ S'.2 = z ∧ hfr h S'.1 m 17 ∧ pM S'.1 m (if cs.length < 150 then cs ++ [c] else cs) B N P I J wn op n tr)) := by
  obtain ⟨⟨at_, bg, tk, td, rt, rn, rm, rd, mn, bd, br, po⟩, ⟨f, x1, x2, x3, x4⟩, -⟩ := id p
  unfold pMO at po
  refine mk_X12_type (Nat.le_of_ble_eq_true rfl) (L := [.ref m, .int (nI c)]) rfl ?_
  refine ev_iload_n (pc := 0) dX12_type_0 rfl ?_
  refine ev_i2l (pc := 1) dX12_type_1 ?_
  refine ev_lconst (pc := 2) (v := 0) dX12_type_2 kl_0 ?_
  refine ev_ldc2_w (pc := 3) dX12_type_3 tw_968 ?_
  refine iv_X12_63 (pc := 6) rfl dX12_type_6 (Nat.le_of_ble_eq_true rfl) (Nat.le_of_ble_eq_true rfl) (Nat.le_of_ble_eq_true rfl) (Nat.le_of_ble_eq_true rfl) (c_in _ _ _) (kp ?_)
  rw [decide_eq_true (by rw [Int32.toInt_toInt64, nI_toInt (by omega)]; exact ⟨Int.natCast_nonneg _, by show (c : Int) ≤ 255; omega⟩)]
  refine ev_if_ne (pc := 9) 14 dX12_type_9 (by decide) (fun c_9 => ?_) (fun c_9 => ?_)
  · (try simp (disch := omega) only [i32_lti, i32_lei, i32_eqi, nI_toInt, i32z] at c_9)
    refine ev_aload_n (pc := 14) dX12_type_14 rfl ?_
    refine gf_X12_67 (pc := 15) rfl dX12_type_15 (by (try dsimp only); (repeat (first | rw [up_s] | rw [up_n (by omega)])) <;> first | rfl | assumption) ?_
    refine ev_sipush (pc := 18) (v := nI 150) dX12_type_18 ks_150 ?_
    refine ev_icmp_ne (pc := 21) 27 dX12_type_21 (by decide) (fun c_21 => ?_) (fun c_21 => ?_)
    · (try simp (disch := omega) only [i32_lti, i32_lei, i32_eqi, nI_toInt, i32z] at c_21)
      refine ev_aload_n (pc := 27) dX12_type_27 rfl ?_
      refine gf_X12_7 (pc := 28) rfl dX12_type_28 (by (try dsimp only); (repeat (first | rw [up_s] | rw [up_n (by omega)])) <;> first | rfl | assumption) ?_
      refine ev_aload_n (pc := 31) dX12_type_31 rfl ?_
      refine gf_X12_67 (pc := 32) rfl dX12_type_32 (by (try dsimp only); (repeat (first | rw [up_s] | rw [up_n (by omega)])) <;> first | rfl | assumption) ?_
      refine ev_iload_n (pc := 35) dX12_type_35 rfl ?_
      refine ev_iast (pc := 36) dX12_type_36 (by (try dsimp only); (repeat (first | rw [up_s] | rw [up_n (by omega)])) <;> first | rfl | assumption) (nI_toInt (by omega)) (by rw [ar_len]; omega) ?_
      rw [ar_set (by omega)]
      refine ev_aload_n (pc := 37) dX12_type_37 rfl ?_
      refine ev_dup (pc := 38) dX12_type_38 rfl ?_
      refine gf_X12_67 (pc := 39) rfl dX12_type_39 (by (try dsimp only); (repeat (first | rw [up_s] | rw [up_n (by omega)])) <;> first | rfl | assumption) ?_
      refine ev_iconst (pc := 42) (v := nI 1) dX12_type_42 kc_1 ?_
      refine ev_iadd (pc := 43) dX12_type_43 ?_
      (try rw [nI_add])
      refine pf_X12_67 (pc := 44) rfl dX12_type_44 (by (try dsimp only); (repeat (first | rw [up_s] | rw [up_n (by omega)])) <;> first | rfl | assumption) ?_
      refine ev_aload_n (pc := 47) dX12_type_47 rfl ?_
      refine gf_X12_67 (pc := 48) rfl dX12_type_48 (by (try dsimp only); (repeat (first | rw [up_s] | rw [up_n (by omega)])) <;> first | rfl | assumption) ?_
      refine ev_iret (pc := 51) dX12_type_51 rfl rfl (Nat.le_of_ble_eq_true rfl) (Nat.le_of_ble_eq_true rfl) ?_
      refine ⟨_, rfl, by rw [if_pos (by omega)], rfl, (by intro q hq; first | rfl | ((try dsimp only); (repeat (first | rw [up_n (by omega)])))), ?_⟩
      rw [if_pos (by omega)]
      refine p.tx (by intro q e1 e2; (try dsimp only); rw [up_n (by omega), up_n (by omega)]) ⟨at_, bg, tk, td, rt, rn, rm, rd, mn, bd, br, (by unfold pMO; rw [List.length_append]; exact (by (try dsimp only); (repeat (first | rw [up_s] | rw [up_n (by omega)])) <;> first | rfl | assumption))⟩ ⟨ru f cs.length (nI c), (by (try dsimp only); (repeat (first | rw [up_s] | rw [up_n (by omega)])) <;> first | rfl | assumption), ?_, by rw [List.length_append, List.length_singleton]; omega, ?_⟩
      · intro j hj
        rw [List.length_append, List.length_singleton] at hj
        rw [gN_app hj]
        by_cases q : j = cs.length
        · subst q; rw [ru_s, if_pos rfl]
        · rw [ru_n q, if_neg q]; exact x2 j (by omega)
      · intro j hj
        rw [List.length_append, List.length_singleton] at hj
        rw [gN_app hj]
        by_cases q : j = cs.length
        · rw [if_pos q]; exact hc
        · rw [if_neg q]; exact x4 j (by omega)
    · (try simp (disch := omega) only [i32_lti, i32_lei, i32_eqi, nI_toInt, i32z] at c_21)
      refine ev_bipush (pc := 24) (v := (-3)) dX12_type_24 kb_m3 ?_
      refine ev_iret (pc := 26) dX12_type_26 rfl rfl (Nat.le_of_ble_eq_true rfl) (Nat.le_of_ble_eq_true rfl) ?_
      exact ⟨_, rfl, by rw [if_neg (by omega)], rfl, fun q a => rfl, by rw [if_neg (by omega)]; exact p⟩
  · exact absurd c_9 (by decide)
theorem c_M_clear (p : pM h m cs B N P I J wn op n tr) : Ct X 0 mt_X12_clear [.ref m] (h, z) 0 0 (Qi (fun r S' => r = nI cs.length ∧ S'.2 = z ∧ hfr h S'.1 m 17 ∧ pM S'.1 m [] B N P I J wn op n tr)) := by
  obtain ⟨⟨at_, bg, tk, td, rt, rn, rm, rd, mn, bd, br, po⟩, ⟨f, x1, x2, x3, x4⟩, -⟩ := id p
  unfold pMO at po
  refine mk_X12_clear (Nat.le_of_ble_eq_true rfl) (L := [.ref m, .retAddr 0]) rfl ?_
  refine ev_aload_n (pc := 0) dX12_clear_0 rfl ?_
  refine gf_X12_67 (pc := 1) rfl dX12_clear_1 (by (try dsimp only); (repeat (first | rw [up_s] | rw [up_n (by omega)])) <;> first | rfl | assumption) ?_
  refine ev_istore_n (pc := 4) (L' := [_, _]) dX12_clear_4 (Nat.le_of_ble_eq_true rfl) rfl ?_
  refine ev_aload_n (pc := 5) dX12_clear_5 rfl ?_
  refine ev_iconst (pc := 6) (v := nI 0) dX12_clear_6 kc_0 ?_
  refine pf_X12_67 (pc := 7) rfl dX12_clear_7 (by (try dsimp only); (repeat (first | rw [up_s] | rw [up_n (by omega)])) <;> first | rfl | assumption) ?_
  refine ev_iload_n (pc := 10) dX12_clear_10 rfl ?_
  refine ev_iret (pc := 11) dX12_clear_11 rfl rfl (Nat.le_of_ble_eq_true rfl) (Nat.le_of_ble_eq_true rfl) ?_
  exact ⟨_, rfl, rfl, rfl, (by intro q hq; first | rfl | ((try dsimp only); (repeat (first | rw [up_n (by omega)])))), p.tx (by intro q e1 e2; (try dsimp only); rw [up_n (by omega)]) ⟨at_, bg, tk, td, rt, rn, rm, rd, mn, bd, br, (by unfold pMO; exact (by (try dsimp only); (repeat (first | rw [up_s] | rw [up_n (by omega)])) <;> first | rfl | assumption))⟩ ⟨f, (by (try dsimp only); (repeat (first | rw [up_s] | rw [up_n (by omega)])) <;> first | rfl | assumption), fun j hj => (nomatch hj), by simp, fun j hj => (nomatch hj)⟩⟩
theorem c_M_count (p : pM h m cs B N P I J wn op n tr) (x : Int32) : Ct X 0 mt_X12_count [.ref m, .int x] (h, z) 0 0 (QP (.int (aCount cs B P n x)) (h, z)) := by
  obtain ⟨⟨at_, bg, tk, td, rt, rn, rm, rd, mn, bd, br, po⟩, -⟩ := id p
  unfold pMO at po
  refine mk_X12_count (Nat.le_of_ble_eq_true rfl) (L := [.ref m, .int x]) rfl ?_
  unfold aCount
  refine ev_iload_n (pc := 0) dX12_count_0 rfl ?_
  by_cases s1_0 : (x).toInt = 0
  · refine ev_tableIn (pc := 1) 44 dX12_count_1 (by omega) (by omega) (by rw [s1_0]; rfl) (by decide) ?_
    refine ev_aload_n (pc := 44) dX12_count_44 rfl ?_
    refine gf_X12_137 (pc := 45) rfl dX12_count_45 (by (try dsimp only); (repeat (first | rw [up_s] | rw [up_n (by omega)])) <;> first | rfl | assumption) ?_
    refine ev_iret (pc := 48) dX12_count_48 rfl rfl (Nat.le_of_ble_eq_true rfl) (Nat.le_of_ble_eq_true rfl) ?_
    exact ⟨by (repeat (first | rw [if_pos (by omega)] | rw [if_neg (by omega)])), rfl⟩
  by_cases s1_1 : (x).toInt = 1
  · refine ev_tableIn (pc := 1) 49 dX12_count_1 (by omega) (by omega) (by rw [s1_1]; rfl) (by decide) ?_
    refine ev_aload_n (pc := 49) dX12_count_49 rfl ?_
    refine gf_X12_140 (pc := 50) rfl dX12_count_50 (by (try dsimp only); (repeat (first | rw [up_s] | rw [up_n (by omega)])) <;> first | rfl | assumption) ?_
    refine ev_iret (pc := 53) dX12_count_53 rfl rfl (Nat.le_of_ble_eq_true rfl) (Nat.le_of_ble_eq_true rfl) ?_
    exact ⟨by (repeat (first | rw [if_pos (by omega)] | rw [if_neg (by omega)])), rfl⟩
  by_cases s1_2 : (x).toInt = 2
  · refine ev_tableIn (pc := 1) 54 dX12_count_1 (by omega) (by omega) (by rw [s1_2]; rfl) (by decide) ?_
    refine ev_aload_n (pc := 54) dX12_count_54 rfl ?_
    refine gf_X12_143 (pc := 55) rfl dX12_count_55 (by (try dsimp only); (repeat (first | rw [up_s] | rw [up_n (by omega)])) <;> first | rfl | assumption) ?_
    refine ev_iret (pc := 58) dX12_count_58 rfl rfl (Nat.le_of_ble_eq_true rfl) (Nat.le_of_ble_eq_true rfl) ?_
    exact ⟨by (repeat (first | rw [if_pos (by omega)] | rw [if_neg (by omega)])), rfl⟩
  by_cases s1_3 : (x).toInt = 3
  · refine ev_tableIn (pc := 1) 59 dX12_count_1 (by omega) (by omega) (by rw [s1_3]; rfl) (by decide) ?_
    refine ev_aload_n (pc := 59) dX12_count_59 rfl ?_
    refine gf_X12_146 (pc := 60) rfl dX12_count_60 (by (try dsimp only); (repeat (first | rw [up_s] | rw [up_n (by omega)])) <;> first | rfl | assumption) ?_
    refine ev_iret (pc := 63) dX12_count_63 rfl rfl (Nat.le_of_ble_eq_true rfl) (Nat.le_of_ble_eq_true rfl) ?_
    exact ⟨by (repeat (first | rw [if_pos (by omega)] | rw [if_neg (by omega)])), rfl⟩
  by_cases s1_4 : (x).toInt = 4
  · refine ev_tableIn (pc := 1) 64 dX12_count_1 (by omega) (by omega) (by rw [s1_4]; rfl) (by decide) ?_
    refine ev_aload_n (pc := 64) dX12_count_64 rfl ?_
    refine gf_X12_158 (pc := 65) rfl dX12_count_65 (by (try dsimp only); (repeat (first | rw [up_s] | rw [up_n (by omega)])) <;> first | rfl | assumption) ?_
    refine ev_iret (pc := 68) dX12_count_68 rfl rfl (Nat.le_of_ble_eq_true rfl) (Nat.le_of_ble_eq_true rfl) ?_
    exact ⟨by (repeat (first | rw [if_pos (by omega)] | rw [if_neg (by omega)])), rfl⟩
  by_cases s1_5 : (x).toInt = 5
  · refine ev_tableIn (pc := 1) 69 dX12_count_1 (by omega) (by omega) (by rw [s1_5]; rfl) (by decide) ?_
    refine ev_aload_n (pc := 69) dX12_count_69 rfl ?_
    refine gf_X12_155 (pc := 70) rfl dX12_count_70 (by (try dsimp only); (repeat (first | rw [up_s] | rw [up_n (by omega)])) <;> first | rfl | assumption) ?_
    refine ev_iret (pc := 73) dX12_count_73 rfl rfl (Nat.le_of_ble_eq_true rfl) (Nat.le_of_ble_eq_true rfl) ?_
    exact ⟨by (repeat (first | rw [if_pos (by omega)] | rw [if_neg (by omega)])), rfl⟩
  by_cases s1_6 : (x).toInt = 6
  · refine ev_tableIn (pc := 1) 74 dX12_count_1 (by omega) (by omega) (by rw [s1_6]; rfl) (by decide) ?_
    refine ev_aload_n (pc := 74) dX12_count_74 rfl ?_
    refine gf_X12_67 (pc := 75) rfl dX12_count_75 (by (try dsimp only); (repeat (first | rw [up_s] | rw [up_n (by omega)])) <;> first | rfl | assumption) ?_
    refine ev_iret (pc := 78) dX12_count_78 rfl rfl (Nat.le_of_ble_eq_true rfl) (Nat.le_of_ble_eq_true rfl) ?_
    exact ⟨by (repeat (first | rw [if_pos (by omega)] | rw [if_neg (by omega)])), rfl⟩
  refine ev_tableOut (pc := 1) 79 dX12_count_1 (by omega) (by decide) ?_
  refine ev_iconst (pc := 79) (v := (-1)) dX12_count_79 kc_m1 ?_
  refine ev_iret (pc := 80) dX12_count_80 rfl rfl (Nat.le_of_ble_eq_true rfl) (Nat.le_of_ble_eq_true rfl) ?_
  exact ⟨by (repeat (first | rw [if_pos (by omega)] | rw [if_neg (by omega)])), rfl⟩
theorem c_M_trace (p : pM h m cs B N P I J wn op n tr) : Ct X 0 mt_X12_trace [.ref m] (h, z) 0 0 (QP (.long tr) (h, z)) := by
  obtain ⟨⟨at_, bg, tk, td, rt, rn, rm, rd, mn, bd, br, po⟩, -⟩ := id p
  unfold pMO at po
  refine mk_X12_trace (Nat.le_of_ble_eq_true rfl) (L := [.ref m]) rfl ?_
  refine ev_aload_n (pc := 0) dX12_trace_0 rfl ?_
  refine gf_X12_245 (pc := 1) rfl dX12_trace_1 (by (try dsimp only); (repeat (first | rw [up_s] | rw [up_n (by omega)])) <;> first | rfl | assumption) ?_
  refine ev_lret (pc := 4) dX12_trace_4 rfl (Nat.le_of_ble_eq_true rfl) (Nat.le_of_ble_eq_true rfl) ?_
  exact ⟨rfl, rfl⟩
theorem c_M_heard_bad {x y : Int32} (hx : ¬ ((1 ≤ x.toInt ∧ x.toInt ≤ 30) ∧ 0 ≤ y.toInt ∧ y.toInt ≤ 6)) : Ct X 1 mt_X12_heard [.ref m, .int x, .int y] (h, z) 0 0 (QP (.int (-1)) (h, z)) := by
  refine mk_X12_heard (Nat.le_of_ble_eq_true rfl) (L := [.ref m, .int x, .int y]) rfl ?_
  refine ev_iload_n (pc := 0) dX12_heard_0 rfl ?_
  refine ev_i2l (pc := 1) dX12_heard_1 ?_
  refine ev_lconst (pc := 2) (v := 1) dX12_heard_2 kl_1 ?_
  refine ev_ldc2_w (pc := 3) dX12_heard_3 tw_1126 ?_
  refine iv_X12_63 (pc := 6) rfl dX12_heard_6 (Nat.le_of_ble_eq_true rfl) (Nat.le_of_ble_eq_true rfl) (Nat.le_of_ble_eq_true rfl) (Nat.le_of_ble_eq_true rfl) (c_in _ _ _) (kp ?_)
  refine ev_if_eq (pc := 9) 24 dX12_heard_9 (by decide) (fun c_9 => ?_) (fun c_9 => ?_)
  · simp only [b2i_e0, Bool.not_eq_false] at c_9
    refine ev_iconst (pc := 24) (v := (-1)) dX12_heard_24 kc_m1 ?_
    refine ev_iret (pc := 25) dX12_heard_25 rfl rfl (Nat.le_of_ble_eq_true rfl) (Nat.le_of_ble_eq_true rfl) ?_
    exact ⟨rfl, rfl⟩
  · simp only [b2i_e0, Bool.not_eq_false] at c_9
    rw [decide_eq_true_eq, Int32.toInt_toInt64] at c_9
    refine ev_iload_n (pc := 12) dX12_heard_12 rfl ?_
    refine ev_i2l (pc := 13) dX12_heard_13 ?_
    refine ev_lconst (pc := 14) (v := 0) dX12_heard_14 kl_0 ?_
    refine ev_ldc2_w (pc := 15) dX12_heard_15 tw_1143 ?_
    refine iv_X12_63 (pc := 18) rfl dX12_heard_18 (Nat.le_of_ble_eq_true rfl) (Nat.le_of_ble_eq_true rfl) (Nat.le_of_ble_eq_true rfl) (Nat.le_of_ble_eq_true rfl) (c_in _ _ _) (kp ?_)
    rw [decide_eq_false (by rw [Int32.toInt_toInt64]; intro q; exact hx ⟨c_9, q⟩)]
    refine ev_if_ne (pc := 21) 26 dX12_heard_21 (by decide) (fun c_21 => ?_) (fun c_21 => ?_)
    · exact absurd rfl c_21
    · (try simp (disch := omega) only [i32_lti, i32_lei, i32_eqi, nI_toInt, i32z] at c_21)
      refine ev_iconst (pc := 24) (v := (-1)) dX12_heard_24 kc_m1 ?_
      refine ev_iret (pc := 25) dX12_heard_25 rfl rfl (Nat.le_of_ble_eq_true rfl) (Nat.le_of_ble_eq_true rfl) ?_
      exact ⟨rfl, rfl⟩
theorem in_t {x : Nat} {a b : Nat} (hx : x < 2 ^ 31) (h : a ≤ x ∧ x ≤ b) (lo hi : Int64) (e1 : lo.toInt = a) (e2 : hi.toInt = b) : decide (lo.toInt ≤ (nI x).toInt64.toInt ∧ (nI x).toInt64.toInt ≤ hi.toInt) = true := by
  rw [Int32.toInt_toInt64, nI_toInt hx, e1, e2]
  exact decide_eq_true (by omega)
theorem pM.hd {wn' op' : List Nat} {n' : Nat} {h' : Hp} (p : pM h m cs B N P I J wn op n tr) (e : ∀ q : Nat, q ≠ m → (q < m + 14 ∨ m + 16 ≤ q) → h' q = h q) (o : pMo h' m cs B N P n' tr) (x : mHd h' m wn' op' n') : pM h' m cs B N P I J wn' op' n' tr := by
  obtain ⟨-, px, pr, pb, pn, pq, ⟨pu, pl⟩, por, ph, pk⟩ := p
  exact ⟨o, px.fr (e _ (by omega) (by omega)), pr.fr (fun q a b => e q (by omega) (by omega)), pb.fr (fun q a b => e q (by omega) (by omega)), (e _ (by omega) (by omega)).trans pn, pq.fr (e _ (by omega) (by omega)), ⟨pu.fr (e _ (by omega) (by omega)), pl⟩, por.fr (fun q a b => e q (by omega) (by omega)), x, pk.fr (e _ (by omega) (by omega))⟩
theorem c_M_heard_full (p : pM h m cs B N P I J wn op n tr) {x y : Nat} (hx : 1 ≤ x ∧ x ≤ 30) (hy : y ≤ 6) (hn : n = 6) : Ct X 1 mt_X12_heard [.ref m, .int (nI x), .int (nI y)] (h, z) 0 0 (QP (.int (-3)) (h, z)) := by
  obtain ⟨⟨at_, bg, tk, td, rt, rn, rm, rd, mn, bd, br, po⟩, -⟩ := id p
  unfold pMO at po
  subst hn
  refine mk_X12_heard (Nat.le_of_ble_eq_true rfl) (L := [.ref m, .int (nI x), .int (nI y)]) rfl ?_
  refine ev_iload_n (pc := 0) dX12_heard_0 rfl ?_
  refine ev_i2l (pc := 1) dX12_heard_1 ?_
  refine ev_lconst (pc := 2) (v := 1) dX12_heard_2 kl_1 ?_
  refine ev_ldc2_w (pc := 3) dX12_heard_3 tw_1126 ?_
  refine iv_X12_63 (pc := 6) rfl dX12_heard_6 (Nat.le_of_ble_eq_true rfl) (Nat.le_of_ble_eq_true rfl) (Nat.le_of_ble_eq_true rfl) (Nat.le_of_ble_eq_true rfl) (c_in _ _ _) (kp ?_)
  rw [in_t (a := 1) (b := 30) (by omega) hx _ _ rfl rfl]
  refine ev_if_eq (pc := 9) 24 dX12_heard_9 (by decide) (fun c_9 => ?_) (fun c_9 => ?_)
  · exact absurd c_9 (by decide)
  · (try simp (disch := omega) only [i32_lti, i32_lei, i32_eqi, nI_toInt, i32z] at c_9)
    refine ev_iload_n (pc := 12) dX12_heard_12 rfl ?_
    refine ev_i2l (pc := 13) dX12_heard_13 ?_
    refine ev_lconst (pc := 14) (v := 0) dX12_heard_14 kl_0 ?_
    refine ev_ldc2_w (pc := 15) dX12_heard_15 tw_1143 ?_
    refine iv_X12_63 (pc := 18) rfl dX12_heard_18 (Nat.le_of_ble_eq_true rfl) (Nat.le_of_ble_eq_true rfl) (Nat.le_of_ble_eq_true rfl) (Nat.le_of_ble_eq_true rfl) (c_in _ _ _) (kp ?_)
    rw [in_t (a := 0) (b := 6) (by omega) (by omega) _ _ rfl rfl]
    refine ev_if_ne (pc := 21) 26 dX12_heard_21 (by decide) (fun c_21 => ?_) (fun c_21 => ?_)
    · (try simp (disch := omega) only [i32_lti, i32_lei, i32_eqi, nI_toInt, i32z] at c_21)
      refine ev_aload_n (pc := 26) dX12_heard_26 rfl ?_
      refine gf_X12_158 (pc := 27) rfl dX12_heard_27 (by (try dsimp only); (repeat (first | rw [up_s] | rw [up_n (by omega)])) <;> first | rfl | assumption) ?_
      refine ev_bipush (pc := 30) (v := nI 6) dX12_heard_30 kb_6 ?_
      refine ev_icmp_ne (pc := 32) 38 dX12_heard_32 (by decide) (fun c_32 => ?_) (fun c_32 => ?_)
      · exact absurd rfl c_32
      · (try simp (disch := omega) only [i32_lti, i32_lei, i32_eqi, nI_toInt, i32z] at c_32)
        refine ev_bipush (pc := 35) (v := (-3)) dX12_heard_35 kb_m3 ?_
        refine ev_iret (pc := 37) dX12_heard_37 rfl rfl (Nat.le_of_ble_eq_true rfl) (Nat.le_of_ble_eq_true rfl) ?_
        exact ⟨rfl, rfl⟩
    · exact absurd c_21 (by decide)
theorem c_M_heard (p : pM h m cs B N P I J wn op n tr) {x y : Nat} (hx : 1 ≤ x ∧ x ≤ 30) (hy : y ≤ 6) (hn : n < 6) : Ct X 1 mt_X12_heard [.ref m, .int (nI x), .int (nI y)] (h, z) 0 0 (Qi (fun r S' => r = nI (n + 1) ∧ S'.2 = z ∧ hfr h S'.1 m 17 ∧ pM S'.1 m cs B N P I J (wn.set n x) (op.set n y) (n + 1) tr)) := by
  obtain ⟨⟨at_, bg, tk, td, rt, rn, rm, rd, mn, bd, br, po⟩, px, pr, pb, pn, pq, ⟨pu, pl⟩, por, ⟨f, g, h1, h2, h3, l1, l2, h6, h7⟩, pk⟩ := id p
  unfold pMO at po
  refine mk_X12_heard (Nat.le_of_ble_eq_true rfl) (L := [.ref m, .int (nI x), .int (nI y)]) rfl ?_
  refine ev_iload_n (pc := 0) dX12_heard_0 rfl ?_
  refine ev_i2l (pc := 1) dX12_heard_1 ?_
  refine ev_lconst (pc := 2) (v := 1) dX12_heard_2 kl_1 ?_
  refine ev_ldc2_w (pc := 3) dX12_heard_3 tw_1126 ?_
  refine iv_X12_63 (pc := 6) rfl dX12_heard_6 (Nat.le_of_ble_eq_true rfl) (Nat.le_of_ble_eq_true rfl) (Nat.le_of_ble_eq_true rfl) (Nat.le_of_ble_eq_true rfl) (c_in _ _ _) (kp ?_)
  rw [in_t (a := 1) (b := 30) (by omega) hx _ _ rfl rfl]
  refine ev_if_eq (pc := 9) 24 dX12_heard_9 (by decide) (fun c_9 => ?_) (fun c_9 => ?_)
  · exact absurd c_9 (by decide)
  · (try simp (disch := omega) only [i32_lti, i32_lei, i32_eqi, nI_toInt, i32z] at c_9)
    refine ev_iload_n (pc := 12) dX12_heard_12 rfl ?_
    refine ev_i2l (pc := 13) dX12_heard_13 ?_
    refine ev_lconst (pc := 14) (v := 0) dX12_heard_14 kl_0 ?_
    refine ev_ldc2_w (pc := 15) dX12_heard_15 tw_1143 ?_
    refine iv_X12_63 (pc := 18) rfl dX12_heard_18 (Nat.le_of_ble_eq_true rfl) (Nat.le_of_ble_eq_true rfl) (Nat.le_of_ble_eq_true rfl) (Nat.le_of_ble_eq_true rfl) (c_in _ _ _) (kp ?_)
    rw [in_t (a := 0) (b := 6) (by omega) (by omega) _ _ rfl rfl]
    refine ev_if_ne (pc := 21) 26 dX12_heard_21 (by decide) (fun c_21 => ?_) (fun c_21 => ?_)
    · (try simp (disch := omega) only [i32_lti, i32_lei, i32_eqi, nI_toInt, i32z] at c_21)
      refine ev_aload_n (pc := 26) dX12_heard_26 rfl ?_
      refine gf_X12_158 (pc := 27) rfl dX12_heard_27 (by (try dsimp only); (repeat (first | rw [up_s] | rw [up_n (by omega)])) <;> first | rfl | assumption) ?_
      refine ev_bipush (pc := 30) (v := nI 6) dX12_heard_30 kb_6 ?_
      refine ev_icmp_ne (pc := 32) 38 dX12_heard_32 (by decide) (fun c_32 => ?_) (fun c_32 => ?_)
      · (try simp (disch := omega) only [i32_lti, i32_lei, i32_eqi, nI_toInt, i32z] at c_32)
        refine ev_aload_n (pc := 38) dX12_heard_38 rfl ?_
        refine gf_X12_49 (pc := 39) rfl dX12_heard_39 (by (try dsimp only); (repeat (first | rw [up_s] | rw [up_n (by omega)])) <;> first | rfl | assumption) ?_
        refine ev_aload_n (pc := 42) dX12_heard_42 rfl ?_
        refine gf_X12_158 (pc := 43) rfl dX12_heard_43 (by (try dsimp only); (repeat (first | rw [up_s] | rw [up_n (by omega)])) <;> first | rfl | assumption) ?_
        refine ev_iload_n (pc := 46) dX12_heard_46 rfl ?_
        refine ev_iast (pc := 47) dX12_heard_47 (by (try dsimp only); (repeat (first | rw [up_s] | rw [up_n (by omega)])) <;> first | rfl | assumption) (nI_toInt (by omega)) (by rw [ar_len]; omega) ?_
        rw [ar_set (by omega)]
        refine ev_aload_n (pc := 48) dX12_heard_48 rfl ?_
        refine gf_X12_52 (pc := 49) rfl dX12_heard_49 (by (try dsimp only); (repeat (first | rw [up_s] | rw [up_n (by omega)])) <;> first | rfl | assumption) ?_
        refine ev_aload_n (pc := 52) dX12_heard_52 rfl ?_
        refine gf_X12_158 (pc := 53) rfl dX12_heard_53 (by (try dsimp only); (repeat (first | rw [up_s] | rw [up_n (by omega)])) <;> first | rfl | assumption) ?_
        refine ev_iload_n (pc := 56) dX12_heard_56 rfl ?_
        refine ev_iast (pc := 57) dX12_heard_57 (by (try dsimp only); (repeat (first | rw [up_s] | rw [up_n (by omega)])) <;> first | rfl | assumption) (nI_toInt (by omega)) (by rw [ar_len]; omega) ?_
        rw [ar_set (by omega)]
        refine ev_aload_n (pc := 58) dX12_heard_58 rfl ?_
        refine ev_dup (pc := 59) dX12_heard_59 rfl ?_
        refine gf_X12_158 (pc := 60) rfl dX12_heard_60 (by (try dsimp only); (repeat (first | rw [up_s] | rw [up_n (by omega)])) <;> first | rfl | assumption) ?_
        refine ev_iconst (pc := 63) (v := nI 1) dX12_heard_63 kc_1 ?_
        refine ev_iadd (pc := 64) dX12_heard_64 ?_
        (try rw [nI_add])
        refine pf_X12_158 (pc := 65) rfl dX12_heard_65 (by (try dsimp only); (repeat (first | rw [up_s] | rw [up_n (by omega)])) <;> first | rfl | assumption) ?_
        refine ev_aload_n (pc := 68) dX12_heard_68 rfl ?_
        refine gf_X12_158 (pc := 69) rfl dX12_heard_69 (by (try dsimp only); (repeat (first | rw [up_s] | rw [up_n (by omega)])) <;> first | rfl | assumption) ?_
        refine ev_iret (pc := 72) dX12_heard_72 rfl rfl (Nat.le_of_ble_eq_true rfl) (Nat.le_of_ble_eq_true rfl) ?_
        refine ⟨_, rfl, rfl, rfl, (by intro q hq; first | rfl | ((try dsimp only); (repeat (first | rw [up_n (by omega)])))), ?_⟩
        refine p.hd (by intro q e1 e2; (try dsimp only); (repeat (first | rw [up_n (by omega)]))) ⟨at_, bg, tk, td, rt, rn, rm, rd, mn, bd, br, (by unfold pMO; exact (by (try dsimp only); (repeat (first | rw [up_s] | rw [up_n (by omega)])) <;> first | rfl | assumption))⟩ ⟨ru f n (nI x), ru g n (nI y), (by (try dsimp only); (repeat (first | rw [up_s] | rw [up_n (by omega)])) <;> first | rfl | assumption), (by (try dsimp only); (repeat (first | rw [up_s] | rw [up_n (by omega)])) <;> first | rfl | assumption), ?_, (List.length_set ..).trans l1, (List.length_set ..).trans l2, by omega, ?_⟩
        · intro k hk
          rw [gN_set (by omega), gN_set (by omega)]
          by_cases q : k = n
          · subst q; rw [ru_s, ru_s, if_pos rfl, if_pos rfl]; exact ⟨rfl, rfl⟩
          · rw [ru_n q, ru_n q, if_neg q, if_neg q]; exact h3 k hk
        · intro k hk
          rw [gN_set (by omega), gN_set (by omega)]
          by_cases q : k = n
          · rw [if_pos q, if_pos q]; exact ⟨hx.1, hx.2, hy⟩
          · rw [if_neg q, if_neg q]; exact h7 k (by omega)
      · exfalso; (try simp (disch := omega) only [i32_lti, i32_lei, i32_eqi, nI_toInt, i32z] at c_32); omega
    · exact absurd c_21 (by decide)
theorem c_M_forget (p : pM h m cs B N P I J wn op n tr) : Ct X 0 mt_X12_forget [.ref m] (h, z) 0 0 (Qi (fun r S' => r = nI n ∧ S'.2 = z ∧ hfr h S'.1 m 17 ∧ pM S'.1 m cs B N P I J wn op 0 tr)) := by
  obtain ⟨⟨at_, bg, tk, td, rt, rn, rm, rd, mn, bd, br, po⟩, px, pr, pb, pn, pq, ⟨pu, pl⟩, por, ⟨f, g, h1, h2, h3, l1, l2, h6, h7⟩, pk⟩ := id p
  unfold pMO at po
  refine mk_X12_forget (Nat.le_of_ble_eq_true rfl) (L := [.ref m, .retAddr 0]) rfl ?_
  refine ev_aload_n (pc := 0) dX12_forget_0 rfl ?_
  refine gf_X12_158 (pc := 1) rfl dX12_forget_1 (by (try dsimp only); (repeat (first | rw [up_s] | rw [up_n (by omega)])) <;> first | rfl | assumption) ?_
  refine ev_istore_n (pc := 4) (L' := [_, _]) dX12_forget_4 (Nat.le_of_ble_eq_true rfl) rfl ?_
  refine ev_aload_n (pc := 5) dX12_forget_5 rfl ?_
  refine ev_iconst (pc := 6) (v := nI 0) dX12_forget_6 kc_0 ?_
  refine pf_X12_158 (pc := 7) rfl dX12_forget_7 (by (try dsimp only); (repeat (first | rw [up_s] | rw [up_n (by omega)])) <;> first | rfl | assumption) ?_
  refine ev_iload_n (pc := 10) dX12_forget_10 rfl ?_
  refine ev_iret (pc := 11) dX12_forget_11 rfl rfl (Nat.le_of_ble_eq_true rfl) (Nat.le_of_ble_eq_true rfl) ?_
  exact ⟨_, rfl, rfl, rfl, (by intro q hq; first | rfl | ((try dsimp only); (repeat (first | rw [up_n (by omega)])))), p.hd (by intro q e1 e2; (try dsimp only); rw [up_n (by omega)]) ⟨at_, bg, tk, td, rt, rn, rm, rd, mn, bd, br, (by unfold pMO; exact (by (try dsimp only); (repeat (first | rw [up_s] | rw [up_n (by omega)])) <;> first | rfl | assumption))⟩ ⟨f, g, (by (try dsimp only); (repeat (first | rw [up_s] | rw [up_n (by omega)])) <;> first | rfl | assumption), (by (try dsimp only); (repeat (first | rw [up_s] | rw [up_n (by omega)])) <;> first | rfl | assumption), h3, l1, l2, by omega, fun k hk => by omega⟩⟩
end MONE
