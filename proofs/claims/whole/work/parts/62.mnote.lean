/-! ===== the model: begun anew; what is undone ===== -/
def uOk (f : Nat → Int32) (P : List Tl) : Prop := ∀ (i : Nat) (T : Tl), P[i]? = some T → (∀ j : Nat, j < 28 → f (29 * i + j) = eT T j) ∧ f (29 * i + 28) = nI (tS T)
def pUn (h : Hp) (m : Nat) (P : List Tl) : Prop := ∃ f : Nat → Int32, h (m + 10) = some (.inr (0, .inl (ar 290 f))) ∧ uOk f P
theorem eT_len0 {T : Tl} (h : tO T = []) {k : Nat} (hk : k < 6) : eT T (4 + k) = -9 := by rw [eT_O _ hk, h, if_neg (by simp)]
theorem remP_len {P : List Tl} {N : Tl} (h : P.length ≤ 10) : (remP P N).length ≤ 10 := by
  unfold remP
  rw [List.length_append, List.length_singleton]
  split
  · omega
  · rw [List.length_tail]; omega
section MNOTE
variable {X : Cx} {h : Hp} {z a : Nat} {T N : Tl} {P : List Tl} {B : Bk} {m : Nat} {sz at_ bg tk td rt rn rm rd tl nt me de lo sa un mn bd br he : Int32} {tr : Int64}
theorem c_mAnew {f : Nat → Int32} (po : pMO h m sz at_ bg tk td rt rn rm rd (nI (bT B)) (nI (bK B)) (nI (bM B)) (nI (bD B)) lo sa un mn bd br he tr) (pb : mBk h m B lo) (h6 : bT B ≤ 6) (h1 : 1 ≤ bK B) (h8 : bK B ≤ 8) (pr : h (m + 9) = some (.inr (0, .inl (ar 28 f)))) : Ct X 1 mt_X12_beginsAnew [.ref m] (h, z) 0 0 (Qv (fun S' => S'.2 = z ∧ hfr h S'.1 (m + 9) 1 ∧ pRw S'.1 (m + 9) (startT B))) := by
  have po' := po
  unfold pMO at po
  obtain ⟨fp, fw, fh, p1, p2, p3, p4, p5⟩ := id pb
  have s1 : eT (startT B) 1 = nI (hoN B 0) := rfl
  have sO : ∀ k : Nat, k < 6 → eT (startT B) (4 + k) = -9 := fun k hk => eT_len0 rfl hk
  have sF : ∀ k : Nat, k < 6 → eT (startT B) (10 + k) = if k < bT B then nI (gN (bP B) k) else 0 := by
    intro k hk
    rw [eT_F _ hk]
    show nI (gN (lfB B) k) = _
    unfold lfB
    rw [gN_map hk]
    split <;> rfl
  have sB : ∀ k : Nat, k < 6 → eT (startT B) (16 + k) = 0 := by
    intro k hk
    rw [eT_B _ hk]
    show b2i ((0 : Nat).testBit k) = 0
    rw [Nat.zero_testBit]; rfl
  have sA : ∀ k : Nat, eT (startT B) (22 + k) = -9 := by
    intro k
    rw [eT_A]
    show (if (0 : Nat).testBit k = true then _ else _) = _
    rw [Nat.zero_testBit, if_neg (by decide)]
  refine mk_X12_beginsAnew (Nat.le_of_ble_eq_true rfl) (L := [.ref m, .retAddr 0]) rfl ?_
  have loop : ∀ (c t : Nat), t + c = 6 → ∀ (h1 : Hp) (g : Nat → Int32), hfr h h1 (m + 9) 1 → h1 (m + 9) = some (.inr (0, .inl (ar 28 g))) → (∀ j : Nat, j < 28 → (j < 4 ∨ (j - 4) % 6 < t) → g j = eT (startT B) j) → Ev X (mi_X12_beginsAnew 1 0 0) (Qv (fun S' => S'.2 = z ∧ hfr h S'.1 (m + 9) 1 ∧ pRw S'.1 (m + 9) (startT B))) 0 0 (h1, z) 34 [.ref m, .int (nI t)] [] := by
    intro c
    induction c with
    | zero =>
      intro t ht h1 g f1 a1 hg
      refine ev_iload_n (pc := 34) dX12_beginsAnew_34 rfl ?_
      refine ev_bipush (pc := 35) (v := nI 6) dX12_beginsAnew_35 kb_6 ?_
      refine ev_icmp_ge (pc := 37) 104 dX12_beginsAnew_37 (by decide) (fun c_37 => ?_) (fun c_37 => ?_)
      · (try simp (disch := omega) only [i32_lti, i32_lei, i32_eqi, nI_toInt, i32z] at c_37)
        refine ev_ret (pc := 104) dX12_beginsAnew_104 rfl (Nat.le_of_ble_eq_true rfl) (Nat.le_of_ble_eq_true rfl) ?_
        exact ⟨rfl, rfl, f1, a1.trans (congrArg (fun l => (some (.inr (0, .inl l)) : Option Ob)) (ar_ext (fun j hj => hg j hj (by omega))))⟩
      · exfalso; (try simp (disch := omega) only [i32_lti, i32_lei, i32_eqi, nI_toInt, i32z] at c_37); omega
    | succ c ih =>
      intro t ht h1 g f1 a1 hg
      have po1 := (f1 m (by omega)).trans po
      have q1 := (f1 (m + 5) (by omega)).trans p1
      have key : ∀ x : Int32, x = eT (startT B) (10 + t) → ∀ j : Nat, j < 28 → (j < 4 ∨ (j - 4) % 6 < t + 1) → ru (ru (ru (ru g (4 + t) (-9)) (10 + t) x) (16 + t) (nI 0)) (22 + t) (-9) j = eT (startT B) j := by
        intro x hx j hj hc
        by_cases j1 : j = 22 + t
        · subst j1; rw [ru_s, sA]
        rw [ru_n j1]
        by_cases j2 : j = 16 + t
        · subst j2; rw [ru_s, sB _ (by omega)]; rfl
        rw [ru_n j2]
        by_cases j3 : j = 10 + t
        · subst j3; rw [ru_s, hx]
        rw [ru_n j3]
        by_cases j4 : j = 4 + t
        · subst j4; rw [ru_s, sO _ (by omega)]
        rw [ru_n j4]
        exact hg j hj (by omega)
      refine ev_iload_n (pc := 34) dX12_beginsAnew_34 rfl ?_
      refine ev_bipush (pc := 35) (v := nI 6) dX12_beginsAnew_35 kb_6 ?_
      refine ev_icmp_ge (pc := 37) 104 dX12_beginsAnew_37 (by decide) (fun c_37 => ?_) (fun c_37 => ?_)
      · exfalso; (try simp (disch := omega) only [i32_lti, i32_lei, i32_eqi, nI_toInt, i32z] at c_37); omega
      · (try simp (disch := omega) only [i32_lti, i32_lei, i32_eqi, nI_toInt, i32z] at c_37)
        refine ev_aload_n (pc := 40) dX12_beginsAnew_40 rfl ?_
        refine gf_X12_34 (pc := 41) rfl dX12_beginsAnew_41 (by (try dsimp only); (repeat (first | rw [up_s] | rw [up_n (by omega)])) <;> first | rfl | assumption) ?_
        refine ev_iconst (pc := 44) (v := nI 4) dX12_beginsAnew_44 kc_4 ?_
        refine ev_iload_n (pc := 45) dX12_beginsAnew_45 rfl ?_
        refine ev_iadd (pc := 46) dX12_beginsAnew_46 ?_
        rw [nI_add]
        refine ev_bipush (pc := 47) (v := (-9)) dX12_beginsAnew_47 kb_m9 ?_
        refine ev_iast (pc := 49) dX12_beginsAnew_49 (by (try dsimp only); (repeat (first | rw [up_s] | rw [up_n (by omega)])) <;> first | rfl | assumption) (nI_toInt (by omega)) (by rw [ar_len]; omega) ?_
        rw [ar_set (by omega)]
        refine ev_aload_n (pc := 50) dX12_beginsAnew_50 rfl ?_
        refine gf_X12_34 (pc := 51) rfl dX12_beginsAnew_51 (by (try dsimp only); (repeat (first | rw [up_s] | rw [up_n (by omega)])) <;> first | rfl | assumption) ?_
        refine ev_bipush (pc := 54) (v := nI 10) dX12_beginsAnew_54 kb_10 ?_
        refine ev_iload_n (pc := 56) dX12_beginsAnew_56 rfl ?_
        refine ev_iadd (pc := 57) dX12_beginsAnew_57 ?_
        rw [nI_add]
        refine ev_iload_n (pc := 58) dX12_beginsAnew_58 rfl ?_
        refine ev_aload_n (pc := 59) dX12_beginsAnew_59 rfl ?_
        refine gf_X12_137 (pc := 60) rfl dX12_beginsAnew_60 (by (try dsimp only); (repeat (first | rw [up_s] | rw [up_n (by omega)])) <;> first | rfl | assumption) ?_
        refine ev_icmp_ge (pc := 63) 75 dX12_beginsAnew_63 (by decide) (fun c_63 => ?_) (fun c_63 => ?_)
        · (try simp (disch := omega) only [i32_lti, i32_lei, i32_eqi, nI_toInt, i32z] at c_63)
          have hk := key 0 (by rw [sF t (by omega), if_neg (by omega)])
          refine ev_iconst (pc := 75) (v := nI 0) dX12_beginsAnew_75 kc_0 ?_
          refine ev_iast (pc := 76) dX12_beginsAnew_76 (by (try dsimp only); (repeat (first | rw [up_s] | rw [up_n (by omega)])) <;> first | rfl | assumption) (nI_toInt (by omega)) (by rw [ar_len]; omega) ?_
          rw [ar_set (by omega)]
          refine ev_aload_n (pc := 77) dX12_beginsAnew_77 rfl ?_
          refine gf_X12_34 (pc := 78) rfl dX12_beginsAnew_78 (by (try dsimp only); (repeat (first | rw [up_s] | rw [up_n (by omega)])) <;> first | rfl | assumption) ?_
          refine ev_bipush (pc := 81) (v := nI 16) dX12_beginsAnew_81 kb_16 ?_
          refine ev_iload_n (pc := 83) dX12_beginsAnew_83 rfl ?_
          refine ev_iadd (pc := 84) dX12_beginsAnew_84 ?_
          (try rw [nI_add])
          refine ev_iconst (pc := 85) (v := nI 0) dX12_beginsAnew_85 kc_0 ?_
          refine ev_iast (pc := 86) dX12_beginsAnew_86 (by (try dsimp only); (repeat (first | rw [up_s] | rw [up_n (by omega)])) <;> first | rfl | assumption) (nI_toInt (by omega)) (by rw [ar_len]; omega) ?_
          rw [ar_set (by omega)]
          refine ev_aload_n (pc := 87) dX12_beginsAnew_87 rfl ?_
          refine gf_X12_34 (pc := 88) rfl dX12_beginsAnew_88 (by (try dsimp only); (repeat (first | rw [up_s] | rw [up_n (by omega)])) <;> first | rfl | assumption) ?_
          refine ev_bipush (pc := 91) (v := nI 22) dX12_beginsAnew_91 kb_22 ?_
          refine ev_iload_n (pc := 93) dX12_beginsAnew_93 rfl ?_
          refine ev_iadd (pc := 94) dX12_beginsAnew_94 ?_
          rw [nI_add]
          refine ev_bipush (pc := 95) (v := (-9)) dX12_beginsAnew_95 kb_m9 ?_
          refine ev_iast (pc := 97) dX12_beginsAnew_97 (by (try dsimp only); (repeat (first | rw [up_s] | rw [up_n (by omega)])) <;> first | rfl | assumption) (nI_toInt (by omega)) (by rw [ar_len]; omega) ?_
          rw [ar_set (by omega)]
          refine ev_iinc (pc := 98) (L' := [_, _]) dX12_beginsAnew_98 rfl (nI_1 _) rfl ?_
          refine ev_goto (pc := 101) 34 dX12_beginsAnew_101 (by decide) ?_
          exact ih (t + 1) (by omega) _ _ (by intro q hq; (try dsimp only); (repeat (first | rw [up_n (by omega)])); exact f1 q hq) (up_s _ _ _) hk
        · (try simp (disch := omega) only [i32_lti, i32_lei, i32_eqi, nI_toInt, i32z] at c_63)
          have hk := key (nI (gN (bP B) t)) (by rw [sF t (by omega), if_pos (by omega)])
          refine ev_aload_n (pc := 66) dX12_beginsAnew_66 rfl ?_
          refine gf_X12_22 (pc := 67) rfl dX12_beginsAnew_67 (by (try dsimp only); (repeat (first | rw [up_s] | rw [up_n (by omega)])) <;> first | rfl | assumption) ?_
          refine ev_iload_n (pc := 70) dX12_beginsAnew_70 rfl ?_
          refine ev_iald (pc := 71) dX12_beginsAnew_71 (by (try dsimp only); (repeat (first | rw [up_s] | rw [up_n (by omega)])) <;> first | rfl | assumption) (nI_toInt (by omega)) (xg (by omega) (p4 t (by omega)).1) ?_
          refine ev_goto (pc := 72) 76 dX12_beginsAnew_72 (by decide) ?_
          refine ev_iast (pc := 76) dX12_beginsAnew_76 (by (try dsimp only); (repeat (first | rw [up_s] | rw [up_n (by omega)])) <;> first | rfl | assumption) (nI_toInt (by omega)) (by rw [ar_len]; omega) ?_
          rw [ar_set (by omega)]
          refine ev_aload_n (pc := 77) dX12_beginsAnew_77 rfl ?_
          refine gf_X12_34 (pc := 78) rfl dX12_beginsAnew_78 (by (try dsimp only); (repeat (first | rw [up_s] | rw [up_n (by omega)])) <;> first | rfl | assumption) ?_
          refine ev_bipush (pc := 81) (v := nI 16) dX12_beginsAnew_81 kb_16 ?_
          refine ev_iload_n (pc := 83) dX12_beginsAnew_83 rfl ?_
          refine ev_iadd (pc := 84) dX12_beginsAnew_84 ?_
          (try rw [nI_add])
          refine ev_iconst (pc := 85) (v := nI 0) dX12_beginsAnew_85 kc_0 ?_
          refine ev_iast (pc := 86) dX12_beginsAnew_86 (by (try dsimp only); (repeat (first | rw [up_s] | rw [up_n (by omega)])) <;> first | rfl | assumption) (nI_toInt (by omega)) (by rw [ar_len]; omega) ?_
          rw [ar_set (by omega)]
          refine ev_aload_n (pc := 87) dX12_beginsAnew_87 rfl ?_
          refine gf_X12_34 (pc := 88) rfl dX12_beginsAnew_88 (by (try dsimp only); (repeat (first | rw [up_s] | rw [up_n (by omega)])) <;> first | rfl | assumption) ?_
          refine ev_bipush (pc := 91) (v := nI 22) dX12_beginsAnew_91 kb_22 ?_
          refine ev_iload_n (pc := 93) dX12_beginsAnew_93 rfl ?_
          refine ev_iadd (pc := 94) dX12_beginsAnew_94 ?_
          rw [nI_add]
          refine ev_bipush (pc := 95) (v := (-9)) dX12_beginsAnew_95 kb_m9 ?_
          refine ev_iast (pc := 97) dX12_beginsAnew_97 (by (try dsimp only); (repeat (first | rw [up_s] | rw [up_n (by omega)])) <;> first | rfl | assumption) (nI_toInt (by omega)) (by rw [ar_len]; omega) ?_
          rw [ar_set (by omega)]
          refine ev_iinc (pc := 98) (L' := [_, _]) dX12_beginsAnew_98 rfl (nI_1 _) rfl ?_
          refine ev_goto (pc := 101) 34 dX12_beginsAnew_101 (by decide) ?_
          exact ih (t + 1) (by omega) _ _ (by intro q hq; (try dsimp only); (repeat (first | rw [up_n (by omega)])); exact f1 q hq) (up_s _ _ _) hk
  refine ev_aload_n (pc := 0) dX12_beginsAnew_0 rfl ?_
  refine gf_X12_34 (pc := 1) rfl dX12_beginsAnew_1 (by (try dsimp only); (repeat (first | rw [up_s] | rw [up_n (by omega)])) <;> first | rfl | assumption) ?_
  refine ev_iconst (pc := 4) (v := nI 0) dX12_beginsAnew_4 kc_0 ?_
  refine ev_iconst (pc := 5) (v := nI 0) dX12_beginsAnew_5 kc_0 ?_
  refine ev_iast (pc := 6) dX12_beginsAnew_6 (by (try dsimp only); (repeat (first | rw [up_s] | rw [up_n (by omega)])) <;> first | rfl | assumption) (nI_toInt (by omega)) (by rw [ar_len]; omega) ?_
  rw [ar_set (by omega)]
  refine ev_aload_n (pc := 7) dX12_beginsAnew_7 rfl ?_
  refine gf_X12_34 (pc := 8) rfl dX12_beginsAnew_8 (by (try dsimp only); (repeat (first | rw [up_s] | rw [up_n (by omega)])) <;> first | rfl | assumption) ?_
  refine ev_iconst (pc := 11) (v := nI 1) dX12_beginsAnew_11 kc_1 ?_
  refine ev_aload_n (pc := 12) dX12_beginsAnew_12 rfl ?_
  refine ev_iconst (pc := 13) (v := nI 0) dX12_beginsAnew_13 kc_0 ?_
  refine iv_X12_164 (pc := 14) rfl dX12_beginsAnew_14 (by (try dsimp only); (repeat (first | rw [up_s] | rw [up_n (by omega)])) <;> first | rfl | assumption) (Nat.le_of_ble_eq_true rfl) (Nat.le_of_ble_eq_true rfl) (Nat.le_of_ble_eq_true rfl) (Nat.le_of_ble_eq_true rfl) (c_mHoursOf (B := B) (lo := lo) (by unfold pMO; exact (by (try dsimp only); (repeat (first | rw [up_s] | rw [up_n (by omega)])) <;> first | rfl | assumption)) (pb.fr (fun q a1 b1 => by (try dsimp only); rw [up_n (by omega)])) h1 h8 (by omega)) (kp ?_)
  refine ev_iast (pc := 17) dX12_beginsAnew_17 (by (try dsimp only); (repeat (first | rw [up_s] | rw [up_n (by omega)])) <;> first | rfl | assumption) (nI_toInt (by omega)) (by rw [ar_len]; omega) ?_
  rw [ar_set (by omega)]
  refine ev_aload_n (pc := 18) dX12_beginsAnew_18 rfl ?_
  refine gf_X12_34 (pc := 19) rfl dX12_beginsAnew_19 (by (try dsimp only); (repeat (first | rw [up_s] | rw [up_n (by omega)])) <;> first | rfl | assumption) ?_
  refine ev_iconst (pc := 22) (v := nI 2) dX12_beginsAnew_22 kc_2 ?_
  refine ev_iconst (pc := 23) (v := nI 0) dX12_beginsAnew_23 kc_0 ?_
  refine ev_iast (pc := 24) dX12_beginsAnew_24 (by (try dsimp only); (repeat (first | rw [up_s] | rw [up_n (by omega)])) <;> first | rfl | assumption) (nI_toInt (by omega)) (by rw [ar_len]; omega) ?_
  rw [ar_set (by omega)]
  refine ev_aload_n (pc := 25) dX12_beginsAnew_25 rfl ?_
  refine gf_X12_34 (pc := 26) rfl dX12_beginsAnew_26 (by (try dsimp only); (repeat (first | rw [up_s] | rw [up_n (by omega)])) <;> first | rfl | assumption) ?_
  refine ev_iconst (pc := 29) (v := nI 3) dX12_beginsAnew_29 kc_3 ?_
  refine ev_iconst (pc := 30) (v := nI 1) dX12_beginsAnew_30 kc_1 ?_
  refine ev_iast (pc := 31) dX12_beginsAnew_31 (by (try dsimp only); (repeat (first | rw [up_s] | rw [up_n (by omega)])) <;> first | rfl | assumption) (nI_toInt (by omega)) (by rw [ar_len]; omega) ?_
  rw [ar_set (by omega)]
  refine ev_iconst (pc := 32) (v := nI 0) dX12_beginsAnew_32 kc_0 ?_
  refine ev_istore_n (pc := 33) (L' := [_, _]) dX12_beginsAnew_33 (Nat.le_of_ble_eq_true rfl) rfl ?_
  refine loop 6 0 rfl _ _ (by intro q hq; (try dsimp only); (repeat (first | rw [up_n (by omega)]))) (up_s _ _ _) ?_
  intro j hj hc
  have : j = 0 ∨ j = 1 ∨ j = 2 ∨ j = 3 := by omega
  rcases this with q | q | q | q <;> subst q
  · rw [ru_n (by omega), ru_n (by omega), ru_n (by omega), ru_s]; rfl
  · rw [ru_n (by omega), ru_n (by omega), ru_s, s1]
  · rw [ru_n (by omega), ru_s]; rfl
  · rw [ru_s]; rfl
theorem c_mHas (po : pMO h m sz at_ bg tk td rt rn rm rd tl nt me de lo sa un mn bd br he tr) (pn : pRw h (m + 8) T) (hH : tH T < 100) : Ct X 0 mt_X12_has [.ref m] (h, z) 0 0 (QP (.int (b2i (tV T && decide (0 < tH T)))) (h, z)) := by
  unfold pMO at po
  unfold pRw at pn
  refine mk_X12_has (Nat.le_of_ble_eq_true rfl) (L := [.ref m]) rfl ?_
  refine ev_aload_n (pc := 0) dX12_has_0 rfl ?_
  refine gf_X12_31 (pc := 1) rfl dX12_has_1 (by (try dsimp only); (repeat (first | rw [up_s] | rw [up_n (by omega)])) <;> first | rfl | assumption) ?_
  refine ev_iconst (pc := 4) (v := nI 3) dX12_has_4 kc_3 ?_
  refine ev_iald (pc := 5) dX12_has_5 (by (try dsimp only); (repeat (first | rw [up_s] | rw [up_n (by omega)])) <;> first | rfl | assumption) (nI_toInt (by omega)) (x_3 T) ?_
  refine ev_iconst (pc := 6) (v := nI 1) dX12_has_6 kc_1 ?_
  refine ev_icmp_ne (pc := 7) 23 dX12_has_7 (by decide) (fun c_7 => ?_) (fun c_7 => ?_)
  · (try simp (disch := omega) only [i32_eqi, b2i_toInt, nI_toInt] at c_7)
    refine ev_iconst (pc := 23) (v := nI 0) dX12_has_23 kc_0 ?_
    refine ev_iret (pc := 24) dX12_has_24 rfl rfl (Nat.le_of_ble_eq_true rfl) (Nat.le_of_ble_eq_true rfl) ?_
    refine ⟨?_, rfl⟩
    cases hv : tV T with
    | false => rw [hv] at c_7; first | rfl | exact absurd c_7 (by decide)
    | true => rw [hv] at c_7; first | exact absurd rfl c_7 | (rw [decide_eq_true (by omega)]; rfl) | (rw [decide_eq_false (by omega)]; rfl)
  · (try simp (disch := omega) only [i32_eqi, b2i_toInt, nI_toInt] at c_7)
    refine ev_aload_n (pc := 10) dX12_has_10 rfl ?_
    refine gf_X12_31 (pc := 11) rfl dX12_has_11 (by (try dsimp only); (repeat (first | rw [up_s] | rw [up_n (by omega)])) <;> first | rfl | assumption) ?_
    refine ev_iconst (pc := 14) (v := nI 1) dX12_has_14 kc_1 ?_
    refine ev_iald (pc := 15) dX12_has_15 (by (try dsimp only); (repeat (first | rw [up_s] | rw [up_n (by omega)])) <;> first | rfl | assumption) (nI_toInt (by omega)) (x_1 T) ?_
    refine ev_if_le (pc := 16) 23 dX12_has_16 (by decide) (fun c_16 => ?_) (fun c_16 => ?_)
    · (try simp (disch := omega) only [i32_lti, i32_lei, i32_eqi, nI_toInt, i32z] at c_16)
      refine ev_iconst (pc := 23) (v := nI 0) dX12_has_23 kc_0 ?_
      refine ev_iret (pc := 24) dX12_has_24 rfl rfl (Nat.le_of_ble_eq_true rfl) (Nat.le_of_ble_eq_true rfl) ?_
      refine ⟨?_, rfl⟩
      cases hv : tV T with
      | false => rw [hv] at c_7; first | rfl | exact absurd c_7 (by decide)
      | true => rw [hv] at c_7; first | exact absurd rfl c_7 | (rw [decide_eq_true (by omega)]; rfl) | (rw [decide_eq_false (by omega)]; rfl)
    · (try simp (disch := omega) only [i32_lti, i32_lei, i32_eqi, nI_toInt, i32z] at c_16)
      refine ev_iconst (pc := 19) (v := nI 1) dX12_has_19 kc_1 ?_
      refine ev_goto (pc := 20) 24 dX12_has_20 (by decide) ?_
      refine ev_iret (pc := 24) dX12_has_24 rfl rfl (Nat.le_of_ble_eq_true rfl) (Nat.le_of_ble_eq_true rfl) ?_
      refine ⟨?_, rfl⟩
      cases hv : tV T with
      | false => rw [hv] at c_7; first | rfl | exact absurd c_7 (by decide)
      | true => rw [hv] at c_7; first | exact absurd rfl c_7 | (rw [decide_eq_true (by omega)]; rfl) | (rw [decide_eq_false (by omega)]; rfl)
/-- the telling is noted down, to be undone -/
theorem c_mNotes (po : pMO h m sz at_ bg tk td rt rn rm rd tl nt me de lo (nI (tS N)) (nI P.length) mn bd br he tr) (pn : pRw h (m + 8) N) (pu : pUn h m P) (h10 : P.length ≤ 10) : Ct X 0 mt_X12_notes [.ref m] (h, z) 0 0 (Qv (fun S' => S'.2 = z ∧ (∀ q : Nat, q ≠ m → q ≠ m + 10 → S'.1 q = h q) ∧ pMO S'.1 m sz at_ bg tk td rt rn rm rd tl nt me de lo (nI (tS N)) (nI (remP P N).length) mn bd br he tr ∧ pUn S'.1 m (remP P N))) := by
  unfold pMO at po
  unfold pRw at pn
  obtain ⟨f, u1, u2⟩ := pu
  refine mk_X12_notes (Nat.le_of_ble_eq_true rfl) (L := [.ref m, .retAddr 0]) rfl ?_
  have store : ∀ (P0 : List Tl), P0.length ≤ 9 → P0 ++ [N] = remP P N → ∀ (c k : Nat), k + c = 28 → ∀ (h1 : Hp) (g : Nat → Int32), (∀ q : Nat, q ≠ m → q ≠ m + 10 → h1 q = h q) → pMO h1 m sz at_ bg tk td rt rn rm rd tl nt me de lo (nI (tS N)) (nI P0.length) mn bd br he tr → h1 (m + 10) = some (.inr (0, .inl (ar 290 g))) → uOk g P0 → (∀ j : Nat, j < k → g (29 * P0.length + j) = eT N j) → Ev X (mi_X12_notes 0 0 0) (Qv (fun S' => S'.2 = z ∧ (∀ q : Nat, q ≠ m → q ≠ m + 10 → S'.1 q = h q) ∧ pMO S'.1 m sz at_ bg tk td rt rn rm rd tl nt me de lo (nI (tS N)) (nI (remP P N).length) mn bd br he tr ∧ pUn S'.1 m (remP P N))) 0 0 (h1, z) 48 [.ref m, .int (nI k)] [] := by
    intro P0 h9 er c
    induction c with
    | zero =>
      intro k hk h1 g f1 o1 a1 hu hg
      unfold pMO at o1
      have el : (remP P N).length = P0.length + 1 := by rw [← er]; simp
      refine ev_iload_n (pc := 48) dX12_notes_48 rfl ?_
      refine ev_bipush (pc := 49) (v := nI 28) dX12_notes_49 kb_28 ?_
      refine ev_icmp_ge (pc := 51) 80 dX12_notes_51 (by decide) (fun c_51 => ?_) (fun c_51 => ?_)
      · (try simp (disch := omega) only [i32_lti, i32_lei, i32_eqi, nI_toInt, i32z] at c_51)
        refine ev_aload_n (pc := 80) dX12_notes_80 rfl ?_
        refine gf_X12_37 (pc := 81) rfl dX12_notes_81 (by (try dsimp only); (repeat (first | rw [up_s] | rw [up_n (by omega)])) <;> first | rfl | assumption) ?_
        refine ev_bipush (pc := 84) (v := nI 29) dX12_notes_84 kb_29 ?_
        refine ev_aload_n (pc := 86) dX12_notes_86 rfl ?_
        refine gf_X12_155 (pc := 87) rfl dX12_notes_87 (by (try dsimp only); (repeat (first | rw [up_s] | rw [up_n (by omega)])) <;> first | rfl | assumption) ?_
        refine ev_imul (pc := 90) dX12_notes_90 ?_
        rw [pk_mul]
        refine ev_bipush (pc := 91) (v := nI 28) dX12_notes_91 kb_28 ?_
        refine ev_iadd (pc := 93) dX12_notes_93 ?_
        rw [nI_add]
        refine ev_aload_n (pc := 94) dX12_notes_94 rfl ?_
        refine gf_X12_152 (pc := 95) rfl dX12_notes_95 (by (try dsimp only); (repeat (first | rw [up_s] | rw [up_n (by omega)])) <;> first | rfl | assumption) ?_
        refine ev_iast (pc := 98) dX12_notes_98 (by (try dsimp only); (repeat (first | rw [up_s] | rw [up_n (by omega)])) <;> first | rfl | assumption) (nI_toInt (by omega)) (by rw [ar_len]; omega) ?_
        rw [ar_set (by omega)]
        refine ev_aload_n (pc := 99) dX12_notes_99 rfl ?_
        refine ev_dup (pc := 100) dX12_notes_100 rfl ?_
        refine gf_X12_155 (pc := 101) rfl dX12_notes_101 (by (try dsimp only); (repeat (first | rw [up_s] | rw [up_n (by omega)])) <;> first | rfl | assumption) ?_
        refine ev_iconst (pc := 104) (v := nI 1) dX12_notes_104 kc_1 ?_
        refine ev_iadd (pc := 105) dX12_notes_105 ?_
        rw [nI_add, ← el]
        refine pf_X12_155 (pc := 106) rfl dX12_notes_106 (by (try dsimp only); (repeat (first | rw [up_s] | rw [up_n (by omega)])) <;> first | rfl | assumption) ?_
        refine ev_ret (pc := 109) dX12_notes_109 rfl (Nat.le_of_ble_eq_true rfl) (Nat.le_of_ble_eq_true rfl) ?_
        refine ⟨rfl, rfl, (by intro q e1 e2; (try dsimp only); (repeat (first | rw [up_n (by omega)])); exact f1 q e1 e2), (by unfold pMO; exact (by (try dsimp only); (repeat (first | rw [up_s] | rw [up_n (by omega)])) <;> first | rfl | assumption)), _, (by (try dsimp only); (repeat (first | rw [up_s] | rw [up_n (by omega)])) <;> first | rfl | assumption), ?_⟩
        rw [← er]
        intro i T2 hT
        rw [List.getElem?_append] at hT
        by_cases hi : i < P0.length
        · rw [if_pos hi] at hT
          obtain ⟨y1, y2⟩ := hu i T2 hT
          exact ⟨fun j hj => by rw [ru_n (by omega)]; exact y1 j hj, by rw [ru_n (by omega)]; exact y2⟩
        · rw [if_neg hi] at hT
          have hi2 : i = P0.length := by
            rcases Nat.lt_or_ge (i - P0.length) 1 with q | q
            · omega
            · rw [List.getElem?_eq_none (by simp; omega)] at hT; cases hT
          subst hi2
          rw [Nat.sub_self] at hT
          cases hT
          exact ⟨fun j hj => by rw [ru_n (by omega)]; exact hg j (by omega), by rw [ru_s]⟩
      · exfalso; (try simp (disch := omega) only [i32_lti, i32_lei, i32_eqi, nI_toInt, i32z] at c_51); omega
    | succ c ih =>
      intro k hk h1 g f1 o1 a1 hu hg
      have o1' := o1
      unfold pMO at o1
      have pn1 := (f1 (m + 8) (by omega) (by omega)).trans pn
      refine ev_iload_n (pc := 48) dX12_notes_48 rfl ?_
      refine ev_bipush (pc := 49) (v := nI 28) dX12_notes_49 kb_28 ?_
      refine ev_icmp_ge (pc := 51) 80 dX12_notes_51 (by decide) (fun c_51 => ?_) (fun c_51 => ?_)
      · exfalso; (try simp (disch := omega) only [i32_lti, i32_lei, i32_eqi, nI_toInt, i32z] at c_51); omega
      · (try simp (disch := omega) only [i32_lti, i32_lei, i32_eqi, nI_toInt, i32z] at c_51)
        refine ev_aload_n (pc := 54) dX12_notes_54 rfl ?_
        refine gf_X12_37 (pc := 55) rfl dX12_notes_55 (by (try dsimp only); (repeat (first | rw [up_s] | rw [up_n (by omega)])) <;> first | rfl | assumption) ?_
        refine ev_bipush (pc := 58) (v := nI 29) dX12_notes_58 kb_29 ?_
        refine ev_aload_n (pc := 60) dX12_notes_60 rfl ?_
        refine gf_X12_155 (pc := 61) rfl dX12_notes_61 (by (try dsimp only); (repeat (first | rw [up_s] | rw [up_n (by omega)])) <;> first | rfl | assumption) ?_
        refine ev_imul (pc := 64) dX12_notes_64 ?_
        rw [pk_mul]
        refine ev_iload_n (pc := 65) dX12_notes_65 rfl ?_
        refine ev_iadd (pc := 66) dX12_notes_66 ?_
        rw [nI_add]
        refine ev_aload_n (pc := 67) dX12_notes_67 rfl ?_
        refine gf_X12_31 (pc := 68) rfl dX12_notes_68 (by (try dsimp only); (repeat (first | rw [up_s] | rw [up_n (by omega)])) <;> first | rfl | assumption) ?_
        refine ev_iload_n (pc := 71) dX12_notes_71 rfl ?_
        refine ev_iald (pc := 72) dX12_notes_72 (by (try dsimp only); (repeat (first | rw [up_s] | rw [up_n (by omega)])) <;> first | rfl | assumption) (nI_toInt (by omega)) (ar_get (by omega)) ?_
        refine ev_iast (pc := 73) dX12_notes_73 (by (try dsimp only); (repeat (first | rw [up_s] | rw [up_n (by omega)])) <;> first | rfl | assumption) (nI_toInt (by omega)) (by rw [ar_len]; omega) ?_
        rw [ar_set (by omega)]
        refine ev_iinc (pc := 74) (L' := [_, _]) dX12_notes_74 rfl (nI_1 _) rfl ?_
        refine ev_goto (pc := 77) 48 dX12_notes_77 (by decide) ?_
        refine ih (k + 1) (by omega) _ (ru g (29 * P0.length + k) (eT N k)) (by intro q e1 e2; (try dsimp only); (repeat (first | rw [up_n (by omega)])); exact f1 q e1 e2) (by unfold pMO; exact (by (try dsimp only); (repeat (first | rw [up_s] | rw [up_n (by omega)])) <;> first | rfl | assumption)) (by (try dsimp only); (repeat (first | rw [up_s] | rw [up_n (by omega)])) <;> first | rfl | assumption) ?_ ?_
        · intro i T2 hT
          have hi : i < P0.length := by
            rcases Nat.lt_or_ge i P0.length with q | q
            · exact q
            · rw [List.getElem?_eq_none q] at hT; cases hT
          obtain ⟨y1, y2⟩ := hu i T2 hT
          exact ⟨fun j hj => by rw [ru_n (by omega)]; exact y1 j hj, by rw [ru_n (by omega)]; exact y2⟩
        · intro j hj
          by_cases hjk : j = k
          · subst hjk; rw [ru_s]
          · rw [ru_n (by omega)]; exact hg j (by omega)
  by_cases hP : P.length = 10
  · have er : P.tail ++ [N] = remP P N := by unfold remP; rw [if_neg (by omega)]
    have ht : P.tail.length = 9 := by rw [List.length_tail]; omega
    have shift : ∀ (c k : Nat), k + c = 290 → 29 ≤ k → ∀ (h1 : Hp) (g : Nat → Int32), (∀ q : Nat, q ≠ m → q ≠ m + 10 → h1 q = h q) → pMO h1 m sz at_ bg tk td rt rn rm rd tl nt me de lo (nI (tS N)) (nI P.length) mn bd br he tr → h1 (m + 10) = some (.inr (0, .inl (ar 290 g))) → (∀ x : Nat, x + 29 < k → g x = f (x + 29)) → (∀ x : Nat, k ≤ x + 29 → g x = f x) → Ev X (mi_X12_notes 0 0 0) (Qv (fun S' => S'.2 = z ∧ (∀ q : Nat, q ≠ m → q ≠ m + 10 → S'.1 q = h q) ∧ pMO S'.1 m sz at_ bg tk td rt rn rm rd tl nt me de lo (nI (tS N)) (nI (remP P N).length) mn bd br he tr ∧ pUn S'.1 m (remP P N))) 0 0 (h1, z) 12 [.ref m, .int (nI k)] [] := by
      intro c
      induction c with
      | zero =>
        intro k hk h29 h1 g f1 o1 a1 g1 g2
        unfold pMO at o1
        refine ev_iload_n (pc := 12) dX12_notes_12 rfl ?_
        refine ev_sipush (pc := 13) (v := nI 290) dX12_notes_13 ks_290 ?_
        refine ev_icmp_ge (pc := 16) 40 dX12_notes_16 (by decide) (fun c_16 => ?_) (fun c_16 => ?_)
        · (try simp (disch := omega) only [i32_lti, i32_lei, i32_eqi, nI_toInt, i32z] at c_16)
          refine ev_aload_n (pc := 40) dX12_notes_40 rfl ?_
          refine ev_bipush (pc := 41) (v := nI 9) dX12_notes_41 kb_9 ?_
          refine pf_X12_155 (pc := 43) rfl dX12_notes_43 (by (try dsimp only); (repeat (first | rw [up_s] | rw [up_n (by omega)])) <;> first | rfl | assumption) ?_
          refine ev_iconst (pc := 46) (v := nI 0) dX12_notes_46 kc_0 ?_
          refine ev_istore_n (pc := 47) (L' := [_, _]) dX12_notes_47 (Nat.le_of_ble_eq_true rfl) rfl ?_
          refine store P.tail (by omega) er 28 0 rfl _ g (by intro q e1 e2; (try dsimp only); (repeat (first | rw [up_n (by omega)])); exact f1 q e1 e2) (by unfold pMO; rw [ht]; exact (by (try dsimp only); (repeat (first | rw [up_s] | rw [up_n (by omega)])) <;> first | rfl | assumption)) (by (try dsimp only); (repeat (first | rw [up_s] | rw [up_n (by omega)])) <;> first | rfl | assumption) ?_ (fun j hj => by omega)
          intro i T2 hT
          have hT2 : P[i + 1]? = some T2 := by rw [← List.getElem?_tail]; exact hT
          have hi : i + 1 < 10 := by
            rcases Nat.lt_or_ge (i + 1) P.length with q | q
            · omega
            · rw [List.getElem?_eq_none q] at hT2; cases hT2
          obtain ⟨y1, y2⟩ := u2 (i + 1) T2 hT2
          refine ⟨fun j hj => ?_, ?_⟩
          · rw [g1 _ (by omega), ← y1 j hj]; congr 1; omega
          · rw [g1 _ (by omega), ← y2]; congr 1
        · exfalso; (try simp (disch := omega) only [i32_lti, i32_lei, i32_eqi, nI_toInt, i32z] at c_16); omega
      | succ c ih =>
        intro k hk h29 h1 g f1 o1 a1 g1 g2
        have o1' := o1
        unfold pMO at o1
        refine ev_iload_n (pc := 12) dX12_notes_12 rfl ?_
        refine ev_sipush (pc := 13) (v := nI 290) dX12_notes_13 ks_290 ?_
        refine ev_icmp_ge (pc := 16) 40 dX12_notes_16 (by decide) (fun c_16 => ?_) (fun c_16 => ?_)
        · exfalso; (try simp (disch := omega) only [i32_lti, i32_lei, i32_eqi, nI_toInt, i32z] at c_16); omega
        · (try simp (disch := omega) only [i32_lti, i32_lei, i32_eqi, nI_toInt, i32z] at c_16)
          refine ev_aload_n (pc := 19) dX12_notes_19 rfl ?_
          refine gf_X12_37 (pc := 20) rfl dX12_notes_20 (by (try dsimp only); (repeat (first | rw [up_s] | rw [up_n (by omega)])) <;> first | rfl | assumption) ?_
          refine ev_iload_n (pc := 23) dX12_notes_23 rfl ?_
          refine ev_bipush (pc := 24) (v := nI 29) dX12_notes_24 kb_29 ?_
          refine ev_isub (pc := 26) dX12_notes_26 ?_
          rw [nI_sub h29]
          refine ev_aload_n (pc := 27) dX12_notes_27 rfl ?_
          refine gf_X12_37 (pc := 28) rfl dX12_notes_28 (by (try dsimp only); (repeat (first | rw [up_s] | rw [up_n (by omega)])) <;> first | rfl | assumption) ?_
          refine ev_iload_n (pc := 31) dX12_notes_31 rfl ?_
          refine ev_iald (pc := 32) dX12_notes_32 (by (try dsimp only); (repeat (first | rw [up_s] | rw [up_n (by omega)])) <;> first | rfl | assumption) (nI_toInt (by omega)) (ar_get (by omega)) ?_
          refine ev_iast (pc := 33) dX12_notes_33 (by (try dsimp only); (repeat (first | rw [up_s] | rw [up_n (by omega)])) <;> first | rfl | assumption) (nI_toInt (by omega)) (by rw [ar_len]; omega) ?_
          rw [ar_set (by omega)]
          refine ev_iinc (pc := 34) (L' := [_, _]) dX12_notes_34 rfl (nI_1 _) rfl ?_
          refine ev_goto (pc := 37) 12 dX12_notes_37 (by decide) ?_
          refine ih (k + 1) (by omega) (by omega) _ (ru g (k - 29) (g k)) (by intro q e1 e2; (try dsimp only); (repeat (first | rw [up_n (by omega)])); exact f1 q e1 e2) (by unfold pMO; exact (by (try dsimp only); (repeat (first | rw [up_s] | rw [up_n (by omega)])) <;> first | rfl | assumption)) (by (try dsimp only); (repeat (first | rw [up_s] | rw [up_n (by omega)])) <;> first | rfl | assumption) ?_ ?_
          · intro x hx
            by_cases hq : x = k - 29
            · subst hq; rw [ru_s, g2 k (by omega)]; congr 1; omega
            · rw [ru_n hq]; exact g1 x (by omega)
          · intro x hx
            rw [ru_n (by omega)]; exact g2 x (by omega)
    refine ev_aload_n (pc := 0) dX12_notes_0 rfl ?_
    refine gf_X12_155 (pc := 1) rfl dX12_notes_1 (by (try dsimp only); (repeat (first | rw [up_s] | rw [up_n (by omega)])) <;> first | rfl | assumption) ?_
    refine ev_bipush (pc := 4) (v := nI 10) dX12_notes_4 kb_10 ?_
    refine ev_icmp_ne (pc := 6) 46 dX12_notes_6 (by decide) (fun c_6 => ?_) (fun c_6 => ?_)
    · exfalso; (try simp (disch := omega) only [i32_lti, i32_lei, i32_eqi, nI_toInt, i32z] at c_6); omega
    · (try simp (disch := omega) only [i32_lti, i32_lei, i32_eqi, nI_toInt, i32z] at c_6)
      refine ev_bipush (pc := 9) (v := nI 29) dX12_notes_9 kb_29 ?_
      refine ev_istore_n (pc := 11) (L' := [_, _]) dX12_notes_11 (Nat.le_of_ble_eq_true rfl) rfl ?_
      exact shift 261 29 rfl (by omega) h f (fun _ _ _ => rfl) (by unfold pMO; exact po) u1 (fun x hx => by omega) (fun x _ => rfl)
  · have er : P ++ [N] = remP P N := by unfold remP; rw [if_pos (by omega)]
    refine ev_aload_n (pc := 0) dX12_notes_0 rfl ?_
    refine gf_X12_155 (pc := 1) rfl dX12_notes_1 (by (try dsimp only); (repeat (first | rw [up_s] | rw [up_n (by omega)])) <;> first | rfl | assumption) ?_
    refine ev_bipush (pc := 4) (v := nI 10) dX12_notes_4 kb_10 ?_
    refine ev_icmp_ne (pc := 6) 46 dX12_notes_6 (by decide) (fun c_6 => ?_) (fun c_6 => ?_)
    · (try simp (disch := omega) only [i32_lti, i32_lei, i32_eqi, nI_toInt, i32z] at c_6)
      refine ev_iconst (pc := 46) (v := nI 0) dX12_notes_46 kc_0 ?_
      refine ev_istore_n (pc := 47) (L' := [_, _]) dX12_notes_47 (Nat.le_of_ble_eq_true rfl) rfl ?_
      exact store P (by omega) er 28 0 rfl h f (fun _ _ _ => rfl) (by unfold pMO; exact po) u1 u2 (fun j hj => by omega)
    · exfalso; (try simp (disch := omega) only [i32_lti, i32_lei, i32_eqi, nI_toInt, i32z] at c_6); omega
end MNOTE
