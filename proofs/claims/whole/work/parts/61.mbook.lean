/-! ===== the model: its object, its book ===== -/
def pMO (h : Hp) (m : Nat) (sz at_ bg tk td rt rn rm rd tl nt me de lo sa un mn bd br he : Int32) (tr : Int64) : Prop := h m = some (.inl (12, [.ref (m + 1), .int sz, .int at_, .int bg, .int tk, .int td, .int rt, .int rn, .int rm, .int rd, .ref (m + 2), .ref (m + 3), .ref (m + 4), .int tl, .int nt, .int me, .int de, .ref (m + 5), .ref (m + 6), .ref (m + 7), .int lo, .ref (m + 8), .ref (m + 9), .int sa, .ref (m + 10), .int un, .ref (m + 11), .int mn, .ref (m + 12), .ref (m + 13), .int bd, .int br, .int he, .ref (m + 14), .ref (m + 15), .long tr, .ref (m + 16)]))
def mBk (h : Hp) (m : Nat) (B : Bk) (lo : Int32) : Prop := ∃ fp fw fh : Nat → Int32, h (m + 5) = some (.inr (0, .inl (ar 6 fp))) ∧ h (m + 6) = some (.inr (0, .inl (ar 6 fw))) ∧ h (m + 7) = some (.inr (0, .inl (ar 8 fh))) ∧ (∀ t : Nat, t < bT B → fp t = nI (gN (bP B) t) ∧ fw t = nI (gN (bW B) t)) ∧ ∀ k : Nat, k < bK B → fh k + lo = nI (gN (bH B) k)
theorem mBk.fr {h h' : Hp} {m : Nat} {B : Bk} {lo : Int32} (p : mBk h m B lo) (e : ∀ q : Nat, m + 5 ≤ q → q < m + 8 → h' q = h q) : mBk h' m B lo := by
  obtain ⟨fp, fw, fh, p1, p2, p3, p4⟩ := p
  exact ⟨fp, fw, fh, (e _ (by omega) (by omega)).trans p1, (e _ (by omega) (by omega)).trans p2, (e _ (by omega) (by omega)).trans p3, p4⟩
def mayM (B : Bk) (T : Tl) (k : Nat) : Bool := !(tB T).testBit k && (decide ((tO T).length < bD B) && (decide (gN (bW B) k = 9) || decide ((tO T).getLast? = some (gN (bW B) k))))
theorem mayN_M (B : Bk) (T : Tl) (k : Nat) : mayN B T k = ((tV T && decide (0 < tH T)) && mayM B T k) := by
  unfold mayN mayM
  rw [Bool.and_assoc]
theorem dawnOk_le {B : Bk} {T : Tl} (w : wT T) (h : dawnOk B T = true) {k : Nat} (hk : k < (tO T).length) : tN T - gN (tA T) (gN (tO T) k) < bM B := by
  unfold dawnOk forgT at h
  simp only [Bool.and_eq_true, decide_eq_true_eq, Bool.not_eq_true', decide_eq_false_iff_not] at h
  have hp := w.2.2.2.2.2.2.2.2.2
  by_cases h0 : k = 0
  · subst h0; omega
  · have := List.pairwise_iff_getElem.mp hp 0 k (by omega) hk (by omega)
    rw [← gN_eq, ← gN_eq] at this
    omega
section MBOOK
variable {X : Cx} {h : Hp} {z a : Nat} {T : Tl} {B : Bk} {m : Nat} {sz at_ bg tk td rt rn rm rd tl nt me de lo sa un mn bd br he : Int32} {tr : Int64}
theorem c_mIsTale (po : pMO h m sz at_ bg tk td rt rn rm rd (nI (bT B)) (nI (bK B)) (nI (bM B)) (nI (bD B)) lo sa un mn bd br he tr) (h6 : bT B ≤ 6) (t : Int32) : Ct X 1 mt_X12_isTale [.ref m, .int t] (h, z) 0 0 (QP (.int (b2i (iTn (bT B) t))) (h, z)) := by
  unfold pMO at po
  have e1 : ((nI (bT B) - nI 1).toInt64).toInt = (bT B : Int) - 1 := by
    rw [Int32.toInt_toInt64]
    by_cases h0 : bT B = 0
    · rw [h0]; rfl
    · rw [nI_sub1 (by omega), nI_toInt (by omega)]; omega
  refine mk_X12_isTale (Nat.le_of_ble_eq_true rfl) (L := [.ref m, .int t]) rfl ?_
  refine ev_iload_n (pc := 0) dX12_isTale_0 rfl ?_
  refine ev_i2l (pc := 1) dX12_isTale_1 ?_
  refine ev_lconst (pc := 2) (v := 0) dX12_isTale_2 kl_0 ?_
  refine ev_aload_n (pc := 3) dX12_isTale_3 rfl ?_
  refine gf_X12_137 (pc := 4) rfl dX12_isTale_4 (by (try dsimp only); (repeat (first | rw [up_s] | rw [up_n (by omega)])) <;> first | rfl | assumption) ?_
  refine ev_iconst (pc := 7) (v := nI 1) dX12_isTale_7 kc_1 ?_
  refine ev_isub (pc := 8) dX12_isTale_8 ?_
  refine ev_i2l (pc := 9) dX12_isTale_9 ?_
  refine iv_X12_63 (pc := 10) rfl dX12_isTale_10 (Nat.le_of_ble_eq_true rfl) (Nat.le_of_ble_eq_true rfl) (Nat.le_of_ble_eq_true rfl) (Nat.le_of_ble_eq_true rfl) (c_in _ _ _) (kp ?_)
  refine ev_iret (pc := 13) dX12_isTale_13 rfl (b2i_z _) (Nat.le_of_ble_eq_true rfl) (Nat.le_of_ble_eq_true rfl) ?_
  refine ⟨?_, rfl⟩
  rw [e1, Int32.toInt_toInt64, show (0 : Int64).toInt = 0 from rfl]
  unfold iTn
  congr 4
  apply propext
  omega
theorem c_mHoursOf (po : pMO h m sz at_ bg tk td rt rn rm rd (nI (bT B)) (nI (bK B)) (nI (bM B)) (nI (bD B)) lo sa un mn bd br he tr) (pb : mBk h m B lo) (h1 : 1 ≤ bK B) (h8 : bK B ≤ 8) {i : Nat} (hi : i < 2 ^ 31) : Ct X 0 mt_X12_hoursOf [.ref m, .int (nI i)] (h, z) 0 0 (QP (.int (nI (hoN B i))) (h, z)) := by
  unfold pMO at po
  obtain ⟨fp, fw, fh, p1, p2, p3, p4, p5⟩ := pb
  have hm : i % bK B < bK B := Nat.mod_lt _ (by omega)
  refine mk_X12_hoursOf (Nat.le_of_ble_eq_true rfl) (L := [.ref m, .int (nI i)]) rfl ?_
  refine ev_aload_n (pc := 0) dX12_hoursOf_0 rfl ?_
  refine gf_X12_28 (pc := 1) rfl dX12_hoursOf_1 (by (try dsimp only); (repeat (first | rw [up_s] | rw [up_n (by omega)])) <;> first | rfl | assumption) ?_
  refine ev_iload_n (pc := 4) dX12_hoursOf_4 rfl ?_
  refine ev_aload_n (pc := 5) dX12_hoursOf_5 rfl ?_
  refine gf_X12_140 (pc := 6) rfl dX12_hoursOf_6 (by (try dsimp only); (repeat (first | rw [up_s] | rw [up_n (by omega)])) <;> first | rfl | assumption) ?_
  refine ev_irem (pc := 9) dX12_hoursOf_9 (fun q => by rw [nI_e0 (by omega)] at q; omega) ?_
  rw [pk_rem hi (by omega) (by omega)]
  refine ev_iald (pc := 10) dX12_hoursOf_10 (by (try dsimp only); (repeat (first | rw [up_s] | rw [up_n (by omega)])) <;> first | rfl | assumption) (nI_toInt (by omega)) (ar_get (by omega)) ?_
  refine ev_aload_n (pc := 11) dX12_hoursOf_11 rfl ?_
  refine gf_X12_161 (pc := 12) rfl dX12_hoursOf_12 (by (try dsimp only); (repeat (first | rw [up_s] | rw [up_n (by omega)])) <;> first | rfl | assumption) ?_
  refine ev_iadd (pc := 15) dX12_hoursOf_15 ?_
  rw [p5 _ hm]
  refine ev_iret (pc := 16) dX12_hoursOf_16 rfl rfl (Nat.le_of_ble_eq_true rfl) (Nat.le_of_ble_eq_true rfl) ?_
  exact ⟨rfl, rfl⟩
theorem c_mMayBegin (po : pMO h m sz at_ bg tk td rt rn rm rd (nI (bT B)) (nI (bK B)) (nI (bM B)) (nI (bD B)) lo sa un mn bd br he tr) (pb : mBk h m B lo) (pr : pRw h a T) (w : wT T) (h6 : bT B ≤ 6) (hd : bD B < 100) (hw : ∀ i : Nat, i < bT B → gN (bW B) i < 10) {k : Nat} (hk : k < bT B) : Ct X 1 mt_X12_mayBegin [.ref m, .ref a, .int (nI k)] (h, z) 0 0 (QP (.int (b2i (mayM B T k))) (h, z)) := by
  unfold pMO at po
  have pr' := pr
  unfold pRw at pr'
  obtain ⟨fp, fw, fh, p1, p2, p3, p4, p5⟩ := pb
  obtain ⟨w1, w2, w3, w4, w5, w6, w7, w8, -⟩ := id w
  have hwk := hw k hk
  have hin := inn_eq (T := T) (w := gN (bW B) k) (by omega) (fun t ht => (w2 t ht).1)
  have ew := (p4 k hk).2
  refine mk_X12_mayBegin (Nat.le_of_ble_eq_true rfl) (L := [.ref m, .ref a, .int (nI k)]) rfl ?_
  unfold mayM
  refine ev_aload_n (pc := 0) dX12_mayBegin_0 rfl ?_
  refine ev_bipush (pc := 1) (v := nI 16) dX12_mayBegin_1 kb_16 ?_
  refine ev_iload_n (pc := 3) dX12_mayBegin_3 rfl ?_
  refine ev_iadd (pc := 4) dX12_mayBegin_4 ?_
  rw [nI_add]
  refine ev_iald (pc := 5) dX12_mayBegin_5 (by (try dsimp only); (repeat (first | rw [up_s] | rw [up_n (by omega)])) <;> first | rfl | assumption) (nI_toInt (by omega)) (x_B (by omega)) ?_
  refine ev_if_ne (pc := 6) 47 dX12_mayBegin_6 (by decide) (fun c_6 => ?_) (fun c_6 => ?_)
  · simp only [b2i_e0, Bool.not_eq_false] at c_6
    refine ev_iconst (pc := 47) (v := nI 0) dX12_mayBegin_47 kc_0 ?_
    refine ev_iret (pc := 48) dX12_mayBegin_48 rfl rfl (Nat.le_of_ble_eq_true rfl) (Nat.le_of_ble_eq_true rfl) ?_
    first
    | exact qb0 (by rw [c_6]; rfl)
    | exact qb0 (by rw [decide_eq_false (show ¬ (tO T).length < bD B by omega)]; simp)
    | exact qb1 (by rw [c_6, decide_eq_true (show (tO T).length < bD B by omega), decide_eq_true (show gN (bW B) k = 9 by omega)]; rfl)
    | exact qb1 (by rw [c_6, decide_eq_true (show (tO T).length < bD B by omega), decide_eq_true c_40]; simp)
    | exact qb0 (by rw [decide_eq_false (show ¬ gN (bW B) k = 9 by omega), decide_eq_false c_40]; simp)
  · simp only [b2i_e0, Bool.not_eq_false] at c_6
    refine ev_aload_n (pc := 9) dX12_mayBegin_9 rfl ?_
    refine ev_iconst (pc := 10) (v := nI 2) dX12_mayBegin_10 kc_2 ?_
    refine ev_iald (pc := 11) dX12_mayBegin_11 (by (try dsimp only); (repeat (first | rw [up_s] | rw [up_n (by omega)])) <;> first | rfl | assumption) (nI_toInt (by omega)) (x_2 T) ?_
    refine ev_aload_n (pc := 12) dX12_mayBegin_12 rfl ?_
    refine gf_X12_146 (pc := 13) rfl dX12_mayBegin_13 (by (try dsimp only); (repeat (first | rw [up_s] | rw [up_n (by omega)])) <;> first | rfl | assumption) ?_
    refine ev_icmp_ge (pc := 16) 47 dX12_mayBegin_16 (by decide) (fun c_16 => ?_) (fun c_16 => ?_)
    · (try simp (disch := omega) only [i32_lti, i32_lei, i32_eqi, nI_toInt, i32z] at c_16)
      refine ev_iconst (pc := 47) (v := nI 0) dX12_mayBegin_47 kc_0 ?_
      refine ev_iret (pc := 48) dX12_mayBegin_48 rfl rfl (Nat.le_of_ble_eq_true rfl) (Nat.le_of_ble_eq_true rfl) ?_
      first
      | exact qb0 (by rw [c_6]; rfl)
      | exact qb0 (by rw [decide_eq_false (show ¬ (tO T).length < bD B by omega)]; simp)
      | exact qb1 (by rw [c_6, decide_eq_true (show (tO T).length < bD B by omega), decide_eq_true (show gN (bW B) k = 9 by omega)]; rfl)
      | exact qb1 (by rw [c_6, decide_eq_true (show (tO T).length < bD B by omega), decide_eq_true c_40]; simp)
      | exact qb0 (by rw [decide_eq_false (show ¬ gN (bW B) k = 9 by omega), decide_eq_false c_40]; simp)
    · (try simp (disch := omega) only [i32_lti, i32_lei, i32_eqi, nI_toInt, i32z] at c_16)
      refine ev_aload_n (pc := 19) dX12_mayBegin_19 rfl ?_
      refine gf_X12_25 (pc := 20) rfl dX12_mayBegin_20 (by (try dsimp only); (repeat (first | rw [up_s] | rw [up_n (by omega)])) <;> first | rfl | assumption) ?_
      refine ev_iload_n (pc := 23) dX12_mayBegin_23 rfl ?_
      refine ev_iald (pc := 24) dX12_mayBegin_24 (by (try dsimp only); (repeat (first | rw [up_s] | rw [up_n (by omega)])) <;> first | rfl | assumption) (nI_toInt (by omega)) (xg (by omega) ew) ?_
      refine ev_bipush (pc := 25) (v := nI 9) dX12_mayBegin_25 kb_9 ?_
      refine ev_icmp_eq (pc := 27) 43 dX12_mayBegin_27 (by decide) (fun c_27 => ?_) (fun c_27 => ?_)
      · (try simp (disch := omega) only [i32_lti, i32_lei, i32_eqi, nI_toInt, i32z] at c_27)
        refine ev_iconst (pc := 43) (v := nI 1) dX12_mayBegin_43 kc_1 ?_
        refine ev_goto (pc := 44) 48 dX12_mayBegin_44 (by decide) ?_
        refine ev_iret (pc := 48) dX12_mayBegin_48 rfl rfl (Nat.le_of_ble_eq_true rfl) (Nat.le_of_ble_eq_true rfl) ?_
        first
        | exact qb0 (by rw [c_6]; rfl)
        | exact qb0 (by rw [decide_eq_false (show ¬ (tO T).length < bD B by omega)]; simp)
        | exact qb1 (by rw [c_6, decide_eq_true (show (tO T).length < bD B by omega), decide_eq_true (show gN (bW B) k = 9 by omega)]; rfl)
        | exact qb1 (by rw [c_6, decide_eq_true (show (tO T).length < bD B by omega), decide_eq_true c_40]; simp)
        | exact qb0 (by rw [decide_eq_false (show ¬ gN (bW B) k = 9 by omega), decide_eq_false c_40]; simp)
      · (try simp (disch := omega) only [i32_lti, i32_lei, i32_eqi, nI_toInt, i32z] at c_27)
        refine ev_aload_n (pc := 30) dX12_mayBegin_30 rfl ?_
        refine gf_X12_25 (pc := 31) rfl dX12_mayBegin_31 (by (try dsimp only); (repeat (first | rw [up_s] | rw [up_n (by omega)])) <;> first | rfl | assumption) ?_
        refine ev_iload_n (pc := 34) dX12_mayBegin_34 rfl ?_
        refine ev_iald (pc := 35) dX12_mayBegin_35 (by (try dsimp only); (repeat (first | rw [up_s] | rw [up_n (by omega)])) <;> first | rfl | assumption) (nI_toInt (by omega)) (xg (by omega) ew) ?_
        refine ev_aload_n (pc := 36) dX12_mayBegin_36 rfl ?_
        refine iv_X12_168 (pc := 37) rfl dX12_mayBegin_37 (Nat.le_of_ble_eq_true rfl) (Nat.le_of_ble_eq_true rfl) (Nat.le_of_ble_eq_true rfl) (Nat.le_of_ble_eq_true rfl) (c_inner pr w4) (kp ?_)
        refine ev_icmp_ne (pc := 40) 47 dX12_mayBegin_40 (by decide) (fun c_40 => ?_) (fun c_40 => ?_)
        · rw [hin] at c_40
          refine ev_iconst (pc := 47) (v := nI 0) dX12_mayBegin_47 kc_0 ?_
          refine ev_iret (pc := 48) dX12_mayBegin_48 rfl rfl (Nat.le_of_ble_eq_true rfl) (Nat.le_of_ble_eq_true rfl) ?_
          first
          | exact qb0 (by rw [c_6]; rfl)
          | exact qb0 (by rw [decide_eq_false (show ¬ (tO T).length < bD B by omega)]; simp)
          | exact qb1 (by rw [c_6, decide_eq_true (show (tO T).length < bD B by omega), decide_eq_true (show gN (bW B) k = 9 by omega)]; rfl)
          | exact qb1 (by rw [c_6, decide_eq_true (show (tO T).length < bD B by omega), decide_eq_true c_40]; simp)
          | exact qb0 (by rw [decide_eq_false (show ¬ gN (bW B) k = 9 by omega), decide_eq_false c_40]; simp)
        · rw [hin] at c_40
          refine ev_iconst (pc := 43) (v := nI 1) dX12_mayBegin_43 kc_1 ?_
          refine ev_goto (pc := 44) 48 dX12_mayBegin_44 (by decide) ?_
          refine ev_iret (pc := 48) dX12_mayBegin_48 rfl rfl (Nat.le_of_ble_eq_true rfl) (Nat.le_of_ble_eq_true rfl) ?_
          first
          | exact qb0 (by rw [c_6]; rfl)
          | exact qb0 (by rw [decide_eq_false (show ¬ (tO T).length < bD B by omega)]; simp)
          | exact qb1 (by rw [c_6, decide_eq_true (show (tO T).length < bD B by omega), decide_eq_true (show gN (bW B) k = 9 by omega)]; rfl)
          | exact qb1 (by rw [c_6, decide_eq_true (show (tO T).length < bD B by omega), decide_eq_true c_40]; simp)
          | exact qb0 (by rw [decide_eq_false (show ¬ gN (bW B) k = 9 by omega), decide_eq_false c_40]; simp)
/-- dawns, at the array a -/
theorem c_mDawns (po : pMO h m sz at_ bg tk td rt rn rm rd (nI (bT B)) (nI (bK B)) (nI (bM B)) (nI (bD B)) lo sa un mn bd br he tr) (pb : mBk h m B lo) (pr : pRw h a T) (w : wT T) (hv : tV T = true) (da : a = m + 8 ∨ a = m + 9) (h1 : 1 ≤ bK B) (h8 : bK B ≤ 8) (hM : bM B < 100) : Ct X 1 mt_X12_dawns [.ref m, .ref a] (h, z) 0 0 (Qi (fun v S' => v = b2i (dawnOk B T) ∧ S'.2 = z ∧ hfr h S'.1 a 1 ∧ pRw S'.1 a (dawnT B T))) := by
  have po' := po
  unfold pMO at po
  unfold pRw at pr
  obtain ⟨w1, w2, w3, w4, w5, w6, w7, w8, -⟩ := id w
  refine mk_X12_dawns (Nat.le_of_ble_eq_true rfl) (L := [.ref m, .ref a, .retAddr 0, .retAddr 0]) rfl ?_
  have fin : Ev X (mi_X12_dawns 1 0 0) (Qi (fun v S' => v = b2i (dawnOk B T) ∧ S'.2 = z ∧ hfr h S'.1 a 1 ∧ pRw S'.1 a (dawnT B T))) 0 0 (h, z) 58 [.ref m, .ref a, .int (b2i (dawnOk B T)), .int (nI (tO T).length)] [] := by
    cases hd : dawnOk B T with
    | false =>
      have e : dawnT B T = (tN T, tH T, tS T, false, tB T, tO T, tF T, tA T) := by unfold dawnT; rw [if_neg (by rw [hd]; decide)]
      refine ev_aload_n (pc := 58) dX12_dawns_58 rfl ?_
      refine ev_iconst (pc := 59) (v := nI 3) dX12_dawns_59 kc_3 ?_
      refine ev_iload_n (pc := 60) dX12_dawns_60 rfl ?_
      refine ev_if_eq (pc := 61) 68 dX12_dawns_61 (by decide) (fun c_61 => ?_) (fun c_61 => ?_)
      · (try simp (disch := omega) only [i32_lti, i32_lei, i32_eqi, nI_toInt, i32z] at c_61)
        refine ev_iconst (pc := 68) (v := nI 0) dX12_dawns_68 kc_0 ?_
        refine ev_iast (pc := 69) dX12_dawns_69 (by (try dsimp only); (repeat (first | rw [up_s] | rw [up_n (by omega)])) <;> first | rfl | assumption) (nI_toInt (by omega)) (by rw [ar_len]; omega) ?_
        rw [ar_set (by omega)]
        refine ev_iload_n (pc := 70) dX12_dawns_70 rfl ?_
        refine ev_if_eq (pc := 71) 91 dX12_dawns_71 (by decide) (fun c_71 => ?_) (fun c_71 => ?_)
        · (try simp (disch := omega) only [i32_lti, i32_lei, i32_eqi, nI_toInt, i32z] at c_71)
          refine ev_iload_n (pc := 91) dX12_dawns_91 rfl ?_
          refine ev_iret (pc := 92) dX12_dawns_92 rfl rfl (Nat.le_of_ble_eq_true rfl) (Nat.le_of_ble_eq_true rfl) ?_
          refine ⟨_, rfl, rfl, rfl, (by intro q hq; first | rfl | ((try dsimp only); (repeat (first | rw [up_n (by omega)])))), (up_s _ _ _).trans (congrArg (fun l => (some (.inr (0, .inl l)) : Option Ob)) (ar_ext ?_))⟩
          intro j hj
          rw [e]
          by_cases q : j = 3
          · subst q; rfl
          · rw [ru_n q]; unfold eT; rw [if_neg q, if_neg q]
        · exact absurd rfl c_71
      · exact absurd rfl c_61
    | true =>
      have e : dawnT B T = (tN T + 1, hoN B (tN T + 1), tS T + 1, tV T, tB T, tO T, tF T, tA T) := by unfold dawnT; rw [if_pos hd]
      refine ev_aload_n (pc := 58) dX12_dawns_58 rfl ?_
      refine ev_iconst (pc := 59) (v := nI 3) dX12_dawns_59 kc_3 ?_
      refine ev_iload_n (pc := 60) dX12_dawns_60 rfl ?_
      refine ev_if_eq (pc := 61) 68 dX12_dawns_61 (by decide) (fun c_61 => ?_) (fun c_61 => ?_)
      · exact absurd c_61 (by decide)
      · (try simp (disch := omega) only [i32_lti, i32_lei, i32_eqi, nI_toInt, i32z] at c_61)
        refine ev_iconst (pc := 64) (v := nI 1) dX12_dawns_64 kc_1 ?_
        refine ev_goto (pc := 65) 69 dX12_dawns_65 (by decide) ?_
        refine ev_iast (pc := 69) dX12_dawns_69 (by (try dsimp only); (repeat (first | rw [up_s] | rw [up_n (by omega)])) <;> first | rfl | assumption) (nI_toInt (by omega)) (by rw [ar_len]; omega) ?_
        rw [ar_set (by omega)]
        refine ev_iload_n (pc := 70) dX12_dawns_70 rfl ?_
        refine ev_if_eq (pc := 71) 91 dX12_dawns_71 (by decide) (fun c_71 => ?_) (fun c_71 => ?_)
        · exact absurd c_71 (by decide)
        · (try simp (disch := omega) only [i32_lti, i32_lei, i32_eqi, nI_toInt, i32z] at c_71)
          refine ev_aload_n (pc := 74) dX12_dawns_74 rfl ?_
          refine ev_iconst (pc := 75) (v := nI 0) dX12_dawns_75 kc_0 ?_
          refine ev_dup2 (pc := 76) dX12_dawns_76 rfl rfl ?_
          refine ev_iald (pc := 77) dX12_dawns_77 (by (try dsimp only); (repeat (first | rw [up_s] | rw [up_n (by omega)])) <;> first | rfl | assumption) (nI_toInt (by omega)) (xg (by omega) ((ru_n (by omega)).trans (show eT T 0 = nI (tN T) from rfl))) ?_
          refine ev_iconst (pc := 78) (v := nI 1) dX12_dawns_78 kc_1 ?_
          refine ev_iadd (pc := 79) dX12_dawns_79 ?_
          rw [nI_add]
          refine ev_iast (pc := 80) dX12_dawns_80 (by (try dsimp only); (repeat (first | rw [up_s] | rw [up_n (by omega)])) <;> first | rfl | assumption) (nI_toInt (by omega)) (by rw [ar_len]; omega) ?_
          rw [ar_set (by omega)]
          refine ev_aload_n (pc := 81) dX12_dawns_81 rfl ?_
          refine ev_iconst (pc := 82) (v := nI 1) dX12_dawns_82 kc_1 ?_
          refine ev_aload_n (pc := 83) dX12_dawns_83 rfl ?_
          refine ev_aload_n (pc := 84) dX12_dawns_84 rfl ?_
          refine ev_iconst (pc := 85) (v := nI 0) dX12_dawns_85 kc_0 ?_
          refine ev_iald (pc := 86) dX12_dawns_86 (by (try dsimp only); (repeat (first | rw [up_s] | rw [up_n (by omega)])) <;> first | rfl | assumption) (nI_toInt (by omega)) (xg (by omega) ru_s) ?_
          refine iv_X12_164 (pc := 87) rfl dX12_dawns_87 (by (try dsimp only); (repeat (first | rw [up_s] | rw [up_n (by omega)])) <;> first | rfl | assumption) (Nat.le_of_ble_eq_true rfl) (Nat.le_of_ble_eq_true rfl) (Nat.le_of_ble_eq_true rfl) (Nat.le_of_ble_eq_true rfl) (c_mHoursOf (by unfold pMO; exact (by (try dsimp only); (repeat (first | rw [up_s] | rw [up_n (by omega)])) <;> first | rfl | assumption)) (pb.fr (fun q a1 b1 => by (try dsimp only); rw [up_n (by omega), up_n (by omega)])) h1 h8 (by omega)) (kp ?_)
          refine ev_iast (pc := 90) dX12_dawns_90 (by (try dsimp only); (repeat (first | rw [up_s] | rw [up_n (by omega)])) <;> first | rfl | assumption) (nI_toInt (by omega)) (by rw [ar_len]; omega) ?_
          rw [ar_set (by omega)]
          refine ev_iload_n (pc := 91) dX12_dawns_91 rfl ?_
          refine ev_iret (pc := 92) dX12_dawns_92 rfl rfl (Nat.le_of_ble_eq_true rfl) (Nat.le_of_ble_eq_true rfl) ?_
          refine ⟨_, rfl, rfl, rfl, (by intro q hq; first | rfl | ((try dsimp only); (repeat (first | rw [up_n (by omega)])))), (up_s _ _ _).trans (congrArg (fun l => (some (.inr (0, .inl l)) : Option Ob)) (ar_ext ?_))⟩
          intro j hj
          rw [e]
          by_cases q : j < 4
          · have : j = 0 ∨ j = 1 ∨ j = 2 ∨ j = 3 := by omega
            rcases this with q | q | q | q <;> subst q
            · rfl
            · rfl
            · rfl
            · show nI 1 = b2i (tV T)
              rw [hv]; rfl
          · rw [ru_n (by omega), ru_n (by omega), ru_n (by omega)]
            unfold eT
            rw [if_neg (by omega), if_neg (by omega), if_neg (by omega), if_neg (by omega), if_neg (show ¬ j = 0 by omega), if_neg (show ¬ j = 1 by omega)]
  have loop : ∀ (c j : Nat), j + c = (tO T).length → 1 ≤ j → Ev X (mi_X12_dawns 1 0 0) (Qi (fun v S' => v = b2i (dawnOk B T) ∧ S'.2 = z ∧ hfr h S'.1 a 1 ∧ pRw S'.1 a (dawnT B T))) 0 0 (h, z) 14 [.ref m, .ref a, .int (b2i (dawnOk B T)), .int (nI j)] [] := by
    intro c
    induction c with
    | zero =>
      intro j hj h1j
      have ej : j = (tO T).length := by omega
      subst ej
      refine ev_iload_n (pc := 14) dX12_dawns_14 rfl ?_
      refine ev_aload_n (pc := 15) dX12_dawns_15 rfl ?_
      refine ev_iconst (pc := 16) (v := nI 2) dX12_dawns_16 kc_2 ?_
      refine ev_iald (pc := 17) dX12_dawns_17 (by (try dsimp only); (repeat (first | rw [up_s] | rw [up_n (by omega)])) <;> first | rfl | assumption) (nI_toInt (by omega)) (x_2 T) ?_
      refine ev_icmp_ge (pc := 18) 58 dX12_dawns_18 (by decide) (fun c_18 => ?_) (fun c_18 => ?_)
      · (try simp (disch := omega) only [i32_lti, i32_lei, i32_eqi, nI_toInt, i32z] at c_18)
        exact fin
      · exfalso; (try simp (disch := omega) only [i32_lti, i32_lei, i32_eqi, nI_toInt, i32z] at c_18); omega
    | succ c ih =>
      intro j hj h1j
      obtain ⟨t6, tb, -, tle⟩ := w2 _ (gN_mem (l := tO T) (i := j) (by omega))
      have hih := ih (j + 1) (by omega) (by omega)
      cases hd : dawnOk B T with
      | false =>
        rw [hd] at hih
        refine ev_iload_n (pc := 14) dX12_dawns_14 rfl ?_
        refine ev_aload_n (pc := 15) dX12_dawns_15 rfl ?_
        refine ev_iconst (pc := 16) (v := nI 2) dX12_dawns_16 kc_2 ?_
        refine ev_iald (pc := 17) dX12_dawns_17 (by (try dsimp only); (repeat (first | rw [up_s] | rw [up_n (by omega)])) <;> first | rfl | assumption) (nI_toInt (by omega)) (x_2 T) ?_
        refine ev_icmp_ge (pc := 18) 58 dX12_dawns_18 (by decide) (fun c_18 => ?_) (fun c_18 => ?_)
        · exfalso; (try simp (disch := omega) only [i32_lti, i32_lei, i32_eqi, nI_toInt, i32z] at c_18); omega
        · (try simp (disch := omega) only [i32_lti, i32_lei, i32_eqi, nI_toInt, i32z] at c_18)
          refine ev_iload_n (pc := 21) dX12_dawns_21 rfl ?_
          refine ev_if_eq (pc := 22) 50 dX12_dawns_22 (by decide) (fun c_22 => ?_) (fun c_22 => ?_)
          · (try simp (disch := omega) only [i32_lti, i32_lei, i32_eqi, nI_toInt, i32z] at c_22)
            refine ev_iconst (pc := 50) (v := nI 0) dX12_dawns_50 kc_0 ?_
            refine ev_istore_n (pc := 51) (L' := [_, _, _, _]) dX12_dawns_51 (Nat.le_of_ble_eq_true rfl) rfl ?_
            refine ev_iinc (pc := 52) (L' := [_, _, _, _]) dX12_dawns_52 rfl (nI_1 _) rfl ?_
            refine ev_goto (pc := 55) 14 dX12_dawns_55 (by decide) ?_
            exact hih
          · exact absurd rfl c_22
      | true =>
        have hlt := dawnOk_le w hd (k := j) (by omega)
        rw [hd] at hih
        refine ev_iload_n (pc := 14) dX12_dawns_14 rfl ?_
        refine ev_aload_n (pc := 15) dX12_dawns_15 rfl ?_
        refine ev_iconst (pc := 16) (v := nI 2) dX12_dawns_16 kc_2 ?_
        refine ev_iald (pc := 17) dX12_dawns_17 (by (try dsimp only); (repeat (first | rw [up_s] | rw [up_n (by omega)])) <;> first | rfl | assumption) (nI_toInt (by omega)) (x_2 T) ?_
        refine ev_icmp_ge (pc := 18) 58 dX12_dawns_18 (by decide) (fun c_18 => ?_) (fun c_18 => ?_)
        · exfalso; (try simp (disch := omega) only [i32_lti, i32_lei, i32_eqi, nI_toInt, i32z] at c_18); omega
        · (try simp (disch := omega) only [i32_lti, i32_lei, i32_eqi, nI_toInt, i32z] at c_18)
          refine ev_iload_n (pc := 21) dX12_dawns_21 rfl ?_
          refine ev_if_eq (pc := 22) 50 dX12_dawns_22 (by decide) (fun c_22 => ?_) (fun c_22 => ?_)
          · exact absurd c_22 (by decide)
          · (try simp (disch := omega) only [i32_lti, i32_lei, i32_eqi, nI_toInt, i32z] at c_22)
            refine ev_aload_n (pc := 25) dX12_dawns_25 rfl ?_
            refine ev_iconst (pc := 26) (v := nI 0) dX12_dawns_26 kc_0 ?_
            refine ev_iald (pc := 27) dX12_dawns_27 (by (try dsimp only); (repeat (first | rw [up_s] | rw [up_n (by omega)])) <;> first | rfl | assumption) (nI_toInt (by omega)) (x_0 T) ?_
            refine ev_aload_n (pc := 28) dX12_dawns_28 rfl ?_
            refine ev_bipush (pc := 29) (v := nI 22) dX12_dawns_29 kb_22 ?_
            refine ev_aload_n (pc := 31) dX12_dawns_31 rfl ?_
            refine ev_iconst (pc := 32) (v := nI 4) dX12_dawns_32 kc_4 ?_
            refine ev_iload_n (pc := 33) dX12_dawns_33 rfl ?_
            refine ev_iadd (pc := 34) dX12_dawns_34 ?_
            rw [nI_add]
            refine ev_iald (pc := 35) dX12_dawns_35 (by (try dsimp only); (repeat (first | rw [up_s] | rw [up_n (by omega)])) <;> first | rfl | assumption) (nI_toInt (by omega)) (x_O w4 (by omega)) ?_
            refine ev_iadd (pc := 36) dX12_dawns_36 ?_
            rw [nI_add]
            refine ev_iald (pc := 37) dX12_dawns_37 (by (try dsimp only); (repeat (first | rw [up_s] | rw [up_n (by omega)])) <;> first | rfl | assumption) (nI_toInt (by omega)) (x_A t6 tb) ?_
            refine ev_isub (pc := 38) dX12_dawns_38 ?_
            rw [nI_sub tle]
            refine ev_aload_n (pc := 39) dX12_dawns_39 rfl ?_
            refine gf_X12_143 (pc := 40) rfl dX12_dawns_40 (by (try dsimp only); (repeat (first | rw [up_s] | rw [up_n (by omega)])) <;> first | rfl | assumption) ?_
            refine ev_icmp_ge (pc := 43) 50 dX12_dawns_43 (by decide) (fun c_43 => ?_) (fun c_43 => ?_)
            · exfalso; (try simp (disch := omega) only [i32_lti, i32_lei, i32_eqi, nI_toInt, i32z] at c_43); omega
            · (try simp (disch := omega) only [i32_lti, i32_lei, i32_eqi, nI_toInt, i32z] at c_43)
              refine ev_iconst (pc := 46) (v := nI 1) dX12_dawns_46 kc_1 ?_
              refine ev_goto (pc := 47) 51 dX12_dawns_47 (by decide) ?_
              refine ev_istore_n (pc := 51) (L' := [_, _, _, _]) dX12_dawns_51 (Nat.le_of_ble_eq_true rfl) rfl ?_
              refine ev_iinc (pc := 52) (L' := [_, _, _, _]) dX12_dawns_52 rfl (nI_1 _) rfl ?_
              refine ev_goto (pc := 55) 14 dX12_dawns_55 (by decide) ?_
              exact hih
  have start : ∀ (b : Bool), b = decide (0 < (tO T).length) → Ev X (mi_X12_dawns 1 0 0) (Qi (fun v S' => v = b2i (dawnOk B T) ∧ S'.2 = z ∧ hfr h S'.1 a 1 ∧ pRw S'.1 a (dawnT B T))) 0 0 (h, z) 14 [.ref m, .ref a, .int (b2i b), .int (nI 0)] [] := by
    intro b hb
    by_cases h0 : 0 < (tO T).length
    · rw [decide_eq_true h0] at hb
      subst hb
      obtain ⟨t6, tb, -, tle⟩ := w2 _ (gN_mem (l := tO T) (i := 0) h0)
      have hlp := loop ((tO T).length - 1) 1 (by omega) (by omega)
      have ed : dawnOk B T = !decide (bM B ≤ tN T - gN (tA T) (gN (tO T) 0)) := by unfold dawnOk forgT; rw [decide_eq_true h0, Bool.true_and]
      refine ev_iload_n (pc := 14) dX12_dawns_14 rfl ?_
      refine ev_aload_n (pc := 15) dX12_dawns_15 rfl ?_
      refine ev_iconst (pc := 16) (v := nI 2) dX12_dawns_16 kc_2 ?_
      refine ev_iald (pc := 17) dX12_dawns_17 (by (try dsimp only); (repeat (first | rw [up_s] | rw [up_n (by omega)])) <;> first | rfl | assumption) (nI_toInt (by omega)) (x_2 T) ?_
      refine ev_icmp_ge (pc := 18) 58 dX12_dawns_18 (by decide) (fun c_18 => ?_) (fun c_18 => ?_)
      · exfalso; (try simp (disch := omega) only [i32_lti, i32_lei, i32_eqi, nI_toInt, i32z] at c_18); omega
      · (try simp (disch := omega) only [i32_lti, i32_lei, i32_eqi, nI_toInt, i32z] at c_18)
        refine ev_iload_n (pc := 21) dX12_dawns_21 rfl ?_
        refine ev_if_eq (pc := 22) 50 dX12_dawns_22 (by decide) (fun c_22 => ?_) (fun c_22 => ?_)
        · exact absurd c_22 (by decide)
        · (try simp (disch := omega) only [i32_lti, i32_lei, i32_eqi, nI_toInt, i32z] at c_22)
          refine ev_aload_n (pc := 25) dX12_dawns_25 rfl ?_
          refine ev_iconst (pc := 26) (v := nI 0) dX12_dawns_26 kc_0 ?_
          refine ev_iald (pc := 27) dX12_dawns_27 (by (try dsimp only); (repeat (first | rw [up_s] | rw [up_n (by omega)])) <;> first | rfl | assumption) (nI_toInt (by omega)) (x_0 T) ?_
          refine ev_aload_n (pc := 28) dX12_dawns_28 rfl ?_
          refine ev_bipush (pc := 29) (v := nI 22) dX12_dawns_29 kb_22 ?_
          refine ev_aload_n (pc := 31) dX12_dawns_31 rfl ?_
          refine ev_iconst (pc := 32) (v := nI 4) dX12_dawns_32 kc_4 ?_
          refine ev_iload_n (pc := 33) dX12_dawns_33 rfl ?_
          refine ev_iadd (pc := 34) dX12_dawns_34 ?_
          rw [nI_add]
          refine ev_iald (pc := 35) dX12_dawns_35 (by (try dsimp only); (repeat (first | rw [up_s] | rw [up_n (by omega)])) <;> first | rfl | assumption) (nI_toInt (by omega)) (x_O w4 (by omega)) ?_
          refine ev_iadd (pc := 36) dX12_dawns_36 ?_
          rw [nI_add]
          refine ev_iald (pc := 37) dX12_dawns_37 (by (try dsimp only); (repeat (first | rw [up_s] | rw [up_n (by omega)])) <;> first | rfl | assumption) (nI_toInt (by omega)) (x_A t6 tb) ?_
          refine ev_isub (pc := 38) dX12_dawns_38 ?_
          rw [nI_sub tle]
          refine ev_aload_n (pc := 39) dX12_dawns_39 rfl ?_
          refine gf_X12_143 (pc := 40) rfl dX12_dawns_40 (by (try dsimp only); (repeat (first | rw [up_s] | rw [up_n (by omega)])) <;> first | rfl | assumption) ?_
          refine ev_icmp_ge (pc := 43) 50 dX12_dawns_43 (by decide) (fun c_43 => ?_) (fun c_43 => ?_)
          · (try simp (disch := omega) only [i32_lti, i32_lei, i32_eqi, nI_toInt, i32z] at c_43)
            have ed2 : dawnOk B T = false := by rw [ed, decide_eq_true (by omega)]; rfl
            refine ev_iconst (pc := 50) (v := nI 0) dX12_dawns_50 kc_0 ?_
            refine ev_istore_n (pc := 51) (L' := [_, _, _, _]) dX12_dawns_51 (Nat.le_of_ble_eq_true rfl) rfl ?_
            refine ev_iinc (pc := 52) (L' := [_, _, _, _]) dX12_dawns_52 rfl (nI_1 _) rfl ?_
            refine ev_goto (pc := 55) 14 dX12_dawns_55 (by decide) ?_
            rw [ed2] at hlp; rw [ed2]; exact hlp
          · (try simp (disch := omega) only [i32_lti, i32_lei, i32_eqi, nI_toInt, i32z] at c_43)
            have ed2 : dawnOk B T = true := by rw [ed, decide_eq_false (by omega)]; rfl
            refine ev_iconst (pc := 46) (v := nI 1) dX12_dawns_46 kc_1 ?_
            refine ev_goto (pc := 47) 51 dX12_dawns_47 (by decide) ?_
            refine ev_istore_n (pc := 51) (L' := [_, _, _, _]) dX12_dawns_51 (Nat.le_of_ble_eq_true rfl) rfl ?_
            refine ev_iinc (pc := 52) (L' := [_, _, _, _]) dX12_dawns_52 rfl (nI_1 _) rfl ?_
            refine ev_goto (pc := 55) 14 dX12_dawns_55 (by decide) ?_
            rw [ed2] at hlp; rw [ed2]; exact hlp
    · rw [decide_eq_false h0] at hb
      subst hb
      have ed : dawnOk B T = false := by unfold dawnOk; rw [decide_eq_false h0, Bool.false_and]
      have e0 : (tO T).length = 0 := by omega
      rw [ed, e0] at fin
      refine ev_iload_n (pc := 14) dX12_dawns_14 rfl ?_
      refine ev_aload_n (pc := 15) dX12_dawns_15 rfl ?_
      refine ev_iconst (pc := 16) (v := nI 2) dX12_dawns_16 kc_2 ?_
      refine ev_iald (pc := 17) dX12_dawns_17 (by (try dsimp only); (repeat (first | rw [up_s] | rw [up_n (by omega)])) <;> first | rfl | assumption) (nI_toInt (by omega)) (x_2 T) ?_
      refine ev_icmp_ge (pc := 18) 58 dX12_dawns_18 (by decide) (fun c_18 => ?_) (fun c_18 => ?_)
      · (try simp (disch := omega) only [i32_lti, i32_lei, i32_eqi, nI_toInt, i32z] at c_18)
        rw [ed]; exact fin
      · exfalso; (try simp (disch := omega) only [i32_lti, i32_lei, i32_eqi, nI_toInt, i32z] at c_18); omega
  refine ev_aload_n (pc := 0) dX12_dawns_0 rfl ?_
  refine ev_iconst (pc := 1) (v := nI 2) dX12_dawns_1 kc_2 ?_
  refine ev_iald (pc := 2) dX12_dawns_2 (by (try dsimp only); (repeat (first | rw [up_s] | rw [up_n (by omega)])) <;> first | rfl | assumption) (nI_toInt (by omega)) (x_2 T) ?_
  refine ev_if_le (pc := 3) 10 dX12_dawns_3 (by decide) (fun c_3 => ?_) (fun c_3 => ?_)
  · (try simp (disch := omega) only [i32_lti, i32_lei, i32_eqi, nI_toInt, i32z] at c_3)
    have st := start false (by rw [decide_eq_false (by omega)])
    refine ev_iconst (pc := 10) (v := nI 0) dX12_dawns_10 kc_0 ?_
    refine ev_istore_n (pc := 11) (L' := [_, _, _, _]) dX12_dawns_11 (Nat.le_of_ble_eq_true rfl) rfl ?_
    refine ev_iconst (pc := 12) (v := nI 0) dX12_dawns_12 kc_0 ?_
    refine ev_istore_n (pc := 13) (L' := [_, _, _, _]) dX12_dawns_13 (Nat.le_of_ble_eq_true rfl) rfl ?_
    exact st
  · (try simp (disch := omega) only [i32_lti, i32_lei, i32_eqi, nI_toInt, i32z] at c_3)
    have st := start true (by rw [decide_eq_true (by omega)])
    refine ev_iconst (pc := 6) (v := nI 1) dX12_dawns_6 kc_1 ?_
    refine ev_goto (pc := 7) 11 dX12_dawns_7 (by decide) ?_
    refine ev_istore_n (pc := 11) (L' := [_, _, _, _]) dX12_dawns_11 (Nat.le_of_ble_eq_true rfl) rfl ?_
    refine ev_iconst (pc := 12) (v := nI 0) dX12_dawns_12 kc_0 ?_
    refine ev_istore_n (pc := 13) (L' := [_, _, _, _]) dX12_dawns_13 (Nat.le_of_ble_eq_true rfl) rfl ?_
    exact st
end MBOOK
