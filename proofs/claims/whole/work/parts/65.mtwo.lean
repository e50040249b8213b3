/-! ===== the model: tale, now, images, kinds, odds ===== -/
theorem uOk.congr {f g : Nat → Int32} {P : List Tl} (u : uOk f P) (h : P.length ≤ 10) (e : ∀ x : Nat, x < 290 → g x = f x) : uOk g P := by
  intro i T hT
  have hi : i < P.length := by
    rcases Nat.lt_or_ge i P.length with q | q
    · exact q
    · rw [List.getElem?_eq_none q] at hT; cases hT
  obtain ⟨y1, y2⟩ := u i T hT
  exact ⟨fun j hj => (e _ (by omega)).trans (y1 j hj), (e _ (by omega)).trans y2⟩
theorem kO.fr {f g : Nat → Int32} {o : Nat} {I : Im} (k : kO f o I) (e : ∀ x : Nat, o ≤ x → x < o + 321 → g x = f x) : kO g o I := by
  cases I with
  | none => exact (e _ (by omega) (by omega)).trans k
  | some S =>
    obtain ⟨k1, k2, k3, k4, k5, k6⟩ := k
    exact ⟨(e _ (by omega) (by omega)).trans k1, (e _ (by omega) (by omega)).trans k2, (e _ (by omega) (by omega)).trans k3, fun j hj => (e _ (by omega) (by omega)).trans (k4 j hj), k5, k6.congr k5 (fun x hx => e _ (by omega) (by omega))⟩
theorem lN_tI {n : Nat} (h : n < 2 ^ 63) : (lN n).toInt = n := lg_ofNat_toInt h
theorem l_rem {a b : Nat} (ha : a < 2 ^ 63) (hb : b < 2 ^ 63) (h0 : 0 < b) : lN a - lN a / lN b * lN b = lN (a % b) := by
  apply Int64.toInt_inj.mp
  have hm : a % b < b := Nat.mod_lt _ h0
  rw [Jvm.Kit.i64_rem, lN_tI ha, lN_tI hb, lN_tI (by omega)]
  rfl
theorem l_div {a b : Nat} (ha : a < 2 ^ 63) (hb : b < 2 ^ 63) : lN a / lN b = lN (a / b) := by
  apply Int64.toInt_inj.mp
  have hm : a / b ≤ a := Nat.div_le_self _ _
  rw [Jvm.Kit.i64_div (by rw [lN_tI ha]; omega), lN_tI ha, lN_tI hb, lN_tI (by omega)]
  rfl
theorem lN_sub10 : ∀ x, x ≤ 10 → (10 : Int64) - lN x = lN (10 - x) := by decide +kernel
theorem odds_eq : ∀ x, x ≤ 10 → ∀ n, n ≤ 9 → (10 - x) ^ n / Nat.gcd (10 ^ n) ((10 - x) ^ n) = odN x n true ∧ 10 ^ n / Nat.gcd (10 ^ n) ((10 - x) ^ n) = odN x n false := by decide +kernel
section MTWO
variable {X : Cx} {h : Hp} {z m n mx : Nat} {cs : List Nat} {B : Bk} {N : Tl} {P : List Tl} {I J : Im} {wn op : List Nat} {tr : Int64}
theorem c_M_odds_bad {x y w : Int32} (hx : ¬ ((0 ≤ x.toInt ∧ x.toInt ≤ 10) ∧ (0 ≤ y.toInt ∧ y.toInt ≤ 9) ∧ (w.toInt = 0 ∨ w.toInt = 1))) : Ct X 1 mt_X12_odds [.ref m, .int x, .int y, .int w] (h, z) 0 0 (QP (.long (-1)) (h, z)) := by
  refine mk_X12_odds (Nat.le_of_ble_eq_true rfl) (L := [.ref m, .int x, .int y, .int w, .retAddr 0, .retAddr 0, .retAddr 0, .retAddr 0, .retAddr 0, .retAddr 0, .retAddr 0, .retAddr 0, .retAddr 0, .retAddr 0]) rfl ?_
  refine ev_iload_n (pc := 0) dX12_odds_0 rfl ?_
  refine ev_i2l (pc := 1) dX12_odds_1 ?_
  refine ev_lconst (pc := 2) (v := 0) dX12_odds_2 kl_0 ?_
  refine ev_ldc2_w (pc := 3) dX12_odds_3 tw_1164 ?_
  refine iv_X12_63 (pc := 6) rfl dX12_odds_6 (Nat.le_of_ble_eq_true rfl) (Nat.le_of_ble_eq_true rfl) (Nat.le_of_ble_eq_true rfl) (Nat.le_of_ble_eq_true rfl) (c_in _ _ _) (kp ?_)
  refine ev_if_eq (pc := 9) 34 dX12_odds_9 (by decide) (fun c_9 => ?_) (fun c_9 => ?_)
  · simp only [b2i_e0, Bool.not_eq_false] at c_9
    refine ev_ldc2_w (pc := 34) dX12_odds_34 tw_1165 ?_
    refine ev_lret (pc := 37) dX12_odds_37 rfl (Nat.le_of_ble_eq_true rfl) (Nat.le_of_ble_eq_true rfl) ?_
    exact ⟨rfl, rfl⟩
  · simp only [b2i_e0, Bool.not_eq_false] at c_9
    rw [decide_eq_true_eq, Int32.toInt_toInt64] at c_9
    replace c_9 : 0 ≤ x.toInt ∧ x.toInt ≤ 10 := c_9
    refine ev_iload_n (pc := 12) dX12_odds_12 rfl ?_
    refine ev_i2l (pc := 13) dX12_odds_13 ?_
    refine ev_lconst (pc := 14) (v := 0) dX12_odds_14 kl_0 ?_
    refine ev_ldc2_w (pc := 15) dX12_odds_15 tw_1018 ?_
    refine iv_X12_63 (pc := 18) rfl dX12_odds_18 (Nat.le_of_ble_eq_true rfl) (Nat.le_of_ble_eq_true rfl) (Nat.le_of_ble_eq_true rfl) (Nat.le_of_ble_eq_true rfl) (c_in _ _ _) (kp ?_)
    refine ev_if_eq (pc := 21) 34 dX12_odds_21 (by decide) (fun c_21 => ?_) (fun c_21 => ?_)
    · simp only [b2i_e0, Bool.not_eq_false] at c_21
      refine ev_ldc2_w (pc := 34) dX12_odds_34 tw_1165 ?_
      refine ev_lret (pc := 37) dX12_odds_37 rfl (Nat.le_of_ble_eq_true rfl) (Nat.le_of_ble_eq_true rfl) ?_
      exact ⟨rfl, rfl⟩
    · simp only [b2i_e0, Bool.not_eq_false] at c_21
      rw [decide_eq_true_eq, Int32.toInt_toInt64] at c_21
      replace c_21 : 0 ≤ y.toInt ∧ y.toInt ≤ 9 := c_21
      refine ev_iload_n (pc := 24) dX12_odds_24 rfl ?_
      refine ev_i2l (pc := 25) dX12_odds_25 ?_
      refine ev_lconst (pc := 26) (v := 0) dX12_odds_26 kl_0 ?_
      refine ev_lconst (pc := 27) (v := 1) dX12_odds_27 kl_1 ?_
      refine iv_X12_63 (pc := 28) rfl dX12_odds_28 (Nat.le_of_ble_eq_true rfl) (Nat.le_of_ble_eq_true rfl) (Nat.le_of_ble_eq_true rfl) (Nat.le_of_ble_eq_true rfl) (c_in _ _ _) (kp ?_)
      rw [decide_eq_false (by rw [Int32.toInt_toInt64]; show ¬ (0 ≤ w.toInt ∧ w.toInt ≤ 1); omega)]
      refine ev_if_ne (pc := 31) 38 dX12_odds_31 (by decide) (fun c_31 => ?_) (fun c_31 => ?_)
      · exact absurd rfl c_31
      · (try simp (disch := omega) only [i32_lti, i32_lei, i32_eqi, nI_toInt, i32z] at c_31)
        refine ev_ldc2_w (pc := 34) dX12_odds_34 tw_1165 ?_
        refine ev_lret (pc := 37) dX12_odds_37 rfl (Nat.le_of_ble_eq_true rfl) (Nat.le_of_ble_eq_true rfl) ?_
        exact ⟨rfl, rfl⟩
theorem c_M_odds {x y : Nat} {w : Int32} (hx : x ≤ 10) (hy : y ≤ 9) (hw : w.toInt = 0 ∨ w.toInt = 1) : Ct X 1 mt_X12_odds [.ref m, .int (nI x), .int (nI y), .int w] (h, z) 0 0 (QP (.long (lN (odN x y (decide (w.toInt = 0))))) (h, z)) := by
  obtain ⟨q1, q2⟩ := odds_eq x hx y hy
  have hA : (10 - x) ^ y ≤ 10 ^ 9 := Nat.le_trans (Nat.pow_le_pow_left (Nat.sub_le _ _) _) (Nat.pow_le_pow_right (by omega) hy)
  have hB : 10 ^ y ≤ 10 ^ 9 := Nat.pow_le_pow_right (by omega) hy
  have hB0 : 0 < 10 ^ y := Nat.pow_pos (by omega)
  have hG : Nat.gcd (10 ^ y) ((10 - x) ^ y) ≤ 10 ^ y := Nat.gcd_le_left _ hB0
  have hG0 : 0 < Nat.gcd (10 ^ y) ((10 - x) ^ y) := Nat.gcd_pos_of_pos_left _ hB0
  refine mk_X12_odds (Nat.le_of_ble_eq_true rfl) (L := [.ref m, .int (nI x), .int (nI y), .int w, .retAddr 0, .retAddr 0, .retAddr 0, .retAddr 0, .retAddr 0, .retAddr 0, .retAddr 0, .retAddr 0, .retAddr 0, .retAddr 0]) rfl ?_
  have loop2 : ∀ (b a : Nat) (v12 : Value), a ≤ 10 ^ 9 → b ≤ 10 ^ 9 → Nat.gcd b a = Nat.gcd (10 ^ y) ((10 - x) ^ y) → Ev X (mi_X12_odds 1 0 0) (QP (.long (lN (odN x y (decide (w.toInt = 0))))) (h, z)) 0 0 (h, z) 86 [.ref m, .int (nI x), .int (nI y), .int w, .long (lN ((10 - x) ^ y)), .retAddr 0, .long (lN (10 ^ y)), .retAddr 0, .long (lN a), .retAddr 0, .long (lN b), .retAddr 0, v12, .retAddr 0] [] := by
    intro b
    induction b using Nat.strongRecOn with
    | ind b ih =>
      intro a v12 ha hb hg
      by_cases h0 : b = 0
      · subst h0
        rw [Nat.gcd_zero_left] at hg
        subst hg
        refine ev_lload (pc := 86) dX12_odds_86 rfl ?_
        refine ev_lconst (pc := 88) (v := 0) dX12_odds_88 kl_0 ?_
        refine ev_lcmp (pc := 89) dX12_odds_89 ?_
        refine ev_if_le (pc := 90) 111 dX12_odds_90 (by decide) (fun c_90 => ?_) (fun c_90 => ?_)
        · (try simp (disch := omega) only [i32_lti, i32_lei, i32_eqi, nI_toInt, i32z] at c_90)
          rw [lgc_le] at c_90
          refine ev_iload_n (pc := 111) dX12_odds_111 rfl ?_
          refine ev_if_ne (pc := 112) 123 dX12_odds_112 (by decide) (fun c_112 => ?_) (fun c_112 => ?_)
          · (try simp (disch := omega) only [i32_lti, i32_lei, i32_eqi, nI_toInt, i32z] at c_112)
            refine ev_lload (pc := 123) dX12_odds_123 rfl ?_
            refine ev_lload (pc := 125) dX12_odds_125 rfl ?_
            refine ev_ldiv (pc := 127) dX12_odds_127 (fun q => by have q9 := congrArg Int64.toInt q; rw [lN_tI (by omega)] at q9; have q8 : ((Nat.gcd (10 ^ y) ((10 - x) ^ y) : Nat) : Int) = 0 := q9; omega) ?_
            rw [l_div (by omega) (by omega), q2]
            refine ev_lret (pc := 128) dX12_odds_128 rfl (Nat.le_of_ble_eq_true rfl) (Nat.le_of_ble_eq_true rfl) ?_
            first | exact ⟨by rw [decide_eq_true c_112], rfl⟩ | exact ⟨by rw [decide_eq_false c_112], rfl⟩
          · (try simp (disch := omega) only [i32_lti, i32_lei, i32_eqi, nI_toInt, i32z] at c_112)
            refine ev_lload (pc := 115) dX12_odds_115 rfl ?_
            refine ev_lload (pc := 117) dX12_odds_117 rfl ?_
            refine ev_ldiv (pc := 119) dX12_odds_119 (fun q => by have q9 := congrArg Int64.toInt q; rw [lN_tI (by omega)] at q9; have q8 : ((Nat.gcd (10 ^ y) ((10 - x) ^ y) : Nat) : Int) = 0 := q9; omega) ?_
            rw [l_div (by omega) (by omega), q1]
            refine ev_goto (pc := 120) 128 dX12_odds_120 (by decide) ?_
            refine ev_lret (pc := 128) dX12_odds_128 rfl (Nat.le_of_ble_eq_true rfl) (Nat.le_of_ble_eq_true rfl) ?_
            first | exact ⟨by rw [decide_eq_true c_112], rfl⟩ | exact ⟨by rw [decide_eq_false c_112], rfl⟩
        · exfalso; (try simp (disch := omega) only [i32_lti, i32_lei, i32_eqi, nI_toInt, i32z] at c_90); rw [lgc_le] at c_90; exact c_90 (by decide)
      · have hm : a % b < b := Nat.mod_lt _ (by omega)
        refine ev_lload (pc := 86) dX12_odds_86 rfl ?_
        refine ev_lconst (pc := 88) (v := 0) dX12_odds_88 kl_0 ?_
        refine ev_lcmp (pc := 89) dX12_odds_89 ?_
        refine ev_if_le (pc := 90) 111 dX12_odds_90 (by decide) (fun c_90 => ?_) (fun c_90 => ?_)
        · exfalso; (try simp (disch := omega) only [i32_lti, i32_lei, i32_eqi, nI_toInt, i32z] at c_90); rw [lgc_le, lN_tI (by omega)] at c_90; have q8 : (b : Int) ≤ 0 := c_90; omega
        · (try simp (disch := omega) only [i32_lti, i32_lei, i32_eqi, nI_toInt, i32z] at c_90)
          refine ev_lload (pc := 93) dX12_odds_93 rfl ?_
          refine ev_lload (pc := 95) dX12_odds_95 rfl ?_
          refine ev_lrem (pc := 97) dX12_odds_97 (fun q => by have q9 := congrArg Int64.toInt q; rw [lN_tI (by omega)] at q9; have q8 : (b : Int) = 0 := q9; omega) ?_
          rw [l_rem (by omega) (by omega) (by omega)]
          refine ev_lstore (pc := 98) (L' := [_, _, _, _, _, _, _, _, _, _, _, _, _, _]) dX12_odds_98 (Nat.le_of_ble_eq_true rfl) rfl ?_
          refine ev_lload (pc := 100) dX12_odds_100 rfl ?_
          refine ev_lstore (pc := 102) (L' := [_, _, _, _, _, _, _, _, _, _, _, _, _, _]) dX12_odds_102 (Nat.le_of_ble_eq_true rfl) rfl ?_
          refine ev_lload (pc := 104) dX12_odds_104 rfl ?_
          refine ev_lstore (pc := 106) (L' := [_, _, _, _, _, _, _, _, _, _, _, _, _, _]) dX12_odds_106 (Nat.le_of_ble_eq_true rfl) rfl ?_
          refine ev_goto (pc := 108) 86 dX12_odds_108 (by decide) ?_
          exact ih (a % b) hm b _ hb (by omega) (by rw [← hg, Nat.gcd_rec b a])
  have loop1 : ∀ (c j : Nat) (v8 v9 : Value), j + c = y → Ev X (mi_X12_odds 1 0 0) (QP (.long (lN (odN x y (decide (w.toInt = 0))))) (h, z)) 0 0 (h, z) 47 [.ref m, .int (nI x), .int (nI y), .int w, .long (lN ((10 - x) ^ j)), .retAddr 0, .long (lN (10 ^ j)), .retAddr 0, .int (nI j), v8, v9, .retAddr 0, .retAddr 0, .retAddr 0] [] := by
    intro c
    induction c with
    | zero =>
      intro j v8 v9 hj
      have ej : j = y := by omega
      subst ej
      refine ev_iload (pc := 47) dX12_odds_47 rfl ?_
      refine ev_iload_n (pc := 49) dX12_odds_49 rfl ?_
      refine ev_icmp_ge (pc := 50) 78 dX12_odds_50 (by decide) (fun c_50 => ?_) (fun c_50 => ?_)
      · (try simp (disch := omega) only [i32_lti, i32_lei, i32_eqi, nI_toInt, i32z] at c_50)
        refine ev_lload (pc := 78) dX12_odds_78 rfl ?_
        refine ev_lstore (pc := 80) (L' := [_, _, _, _, _, _, _, _, _, _, _, _, _, _]) dX12_odds_80 (Nat.le_of_ble_eq_true rfl) rfl ?_
        refine ev_lload (pc := 82) dX12_odds_82 rfl ?_
        refine ev_lstore (pc := 84) (L' := [_, _, _, _, _, _, _, _, _, _, _, _, _, _]) dX12_odds_84 (Nat.le_of_ble_eq_true rfl) rfl ?_
        exact loop2 _ _ _ hA hB rfl
      · exfalso; (try simp (disch := omega) only [i32_lti, i32_lei, i32_eqi, nI_toInt, i32z] at c_50); omega
    | succ c ih =>
      intro j v8 v9 hj
      refine ev_iload (pc := 47) dX12_odds_47 rfl ?_
      refine ev_iload_n (pc := 49) dX12_odds_49 rfl ?_
      refine ev_icmp_ge (pc := 50) 78 dX12_odds_50 (by decide) (fun c_50 => ?_) (fun c_50 => ?_)
      · exfalso; (try simp (disch := omega) only [i32_lti, i32_lei, i32_eqi, nI_toInt, i32z] at c_50); omega
      · (try simp (disch := omega) only [i32_lti, i32_lei, i32_eqi, nI_toInt, i32z] at c_50)
        refine ev_lload (pc := 53) dX12_odds_53 rfl ?_
        refine ev_ldc2_w (pc := 55) dX12_odds_55 tw_1164 ?_
        refine ev_iload_n (pc := 58) dX12_odds_58 rfl ?_
        refine ev_i2l (pc := 59) dX12_odds_59 ?_
        rw [nI_l (by omega)]
        refine ev_lsub (pc := 60) dX12_odds_60 ?_
        rw [lN_sub10 x hx]
        refine ev_lmul (pc := 61) dX12_odds_61 ?_
        rw [lN_mul, ← Nat.pow_succ]
        refine ev_lstore (pc := 62) (L' := [_, _, _, _, _, _, _, _, _, _, _, _, _, _]) dX12_odds_62 (Nat.le_of_ble_eq_true rfl) rfl ?_
        refine ev_lload (pc := 64) dX12_odds_64 rfl ?_
        refine ev_ldc2_w (pc := 66) dX12_odds_66 tw_1164 ?_
        refine ev_lmul (pc := 69) dX12_odds_69 ?_
        rw [show (10 : Int64) = lN 10 from rfl, lN_mul, ← Nat.pow_succ]
        refine ev_lstore (pc := 70) (L' := [_, _, _, _, _, _, _, _, _, _, _, _, _, _]) dX12_odds_70 (Nat.le_of_ble_eq_true rfl) rfl ?_
        refine ev_iinc (pc := 72) (L' := [_, _, _, _, _, _, _, _, _, _, _, _, _, _]) dX12_odds_72 rfl (nI_1 _) rfl ?_
        refine ev_goto (pc := 75) 47 dX12_odds_75 (by decide) ?_
        exact ih (j + 1) _ _ (by omega)
  refine ev_iload_n (pc := 0) dX12_odds_0 rfl ?_
  refine ev_i2l (pc := 1) dX12_odds_1 ?_
  refine ev_lconst (pc := 2) (v := 0) dX12_odds_2 kl_0 ?_
  refine ev_ldc2_w (pc := 3) dX12_odds_3 tw_1164 ?_
  refine iv_X12_63 (pc := 6) rfl dX12_odds_6 (Nat.le_of_ble_eq_true rfl) (Nat.le_of_ble_eq_true rfl) (Nat.le_of_ble_eq_true rfl) (Nat.le_of_ble_eq_true rfl) (c_in _ _ _) (kp ?_)
  rw [in_t (a := 0) (b := 10) (by omega) (by omega) _ _ rfl rfl]
  refine ev_if_eq (pc := 9) 34 dX12_odds_9 (by decide) (fun c_9 => ?_) (fun c_9 => ?_)
  · exact absurd c_9 (by decide)
  · (try simp (disch := omega) only [i32_lti, i32_lei, i32_eqi, nI_toInt, i32z] at c_9)
    refine ev_iload_n (pc := 12) dX12_odds_12 rfl ?_
    refine ev_i2l (pc := 13) dX12_odds_13 ?_
    refine ev_lconst (pc := 14) (v := 0) dX12_odds_14 kl_0 ?_
    refine ev_ldc2_w (pc := 15) dX12_odds_15 tw_1018 ?_
    refine iv_X12_63 (pc := 18) rfl dX12_odds_18 (Nat.le_of_ble_eq_true rfl) (Nat.le_of_ble_eq_true rfl) (Nat.le_of_ble_eq_true rfl) (Nat.le_of_ble_eq_true rfl) (c_in _ _ _) (kp ?_)
    rw [in_t (a := 0) (b := 9) (by omega) (by omega) _ _ rfl rfl]
    refine ev_if_eq (pc := 21) 34 dX12_odds_21 (by decide) (fun c_21 => ?_) (fun c_21 => ?_)
    · exact absurd c_21 (by decide)
    · (try simp (disch := omega) only [i32_lti, i32_lei, i32_eqi, nI_toInt, i32z] at c_21)
      refine ev_iload_n (pc := 24) dX12_odds_24 rfl ?_
      refine ev_i2l (pc := 25) dX12_odds_25 ?_
      refine ev_lconst (pc := 26) (v := 0) dX12_odds_26 kl_0 ?_
      refine ev_lconst (pc := 27) (v := 1) dX12_odds_27 kl_1 ?_
      refine iv_X12_63 (pc := 28) rfl dX12_odds_28 (Nat.le_of_ble_eq_true rfl) (Nat.le_of_ble_eq_true rfl) (Nat.le_of_ble_eq_true rfl) (Nat.le_of_ble_eq_true rfl) (c_in _ _ _) (kp ?_)
      rw [show decide ((0 : Int64).toInt ≤ w.toInt64.toInt ∧ w.toInt64.toInt ≤ (1 : Int64).toInt) = true from decide_eq_true (by rw [Int32.toInt_toInt64]; show 0 ≤ w.toInt ∧ w.toInt ≤ 1; omega)]
      refine ev_if_ne (pc := 31) 38 dX12_odds_31 (by decide) (fun c_31 => ?_) (fun c_31 => ?_)
      · (try simp (disch := omega) only [i32_lti, i32_lei, i32_eqi, nI_toInt, i32z] at c_31)
        refine ev_lconst (pc := 38) (v := 1) dX12_odds_38 kl_1 ?_
        refine ev_lstore (pc := 39) (L' := [_, _, _, _, _, _, _, _, _, _, _, _, _, _]) dX12_odds_39 (Nat.le_of_ble_eq_true rfl) rfl ?_
        refine ev_lconst (pc := 41) (v := 1) dX12_odds_41 kl_1 ?_
        refine ev_lstore (pc := 42) (L' := [_, _, _, _, _, _, _, _, _, _, _, _, _, _]) dX12_odds_42 (Nat.le_of_ble_eq_true rfl) rfl ?_
        refine ev_iconst (pc := 44) (v := nI 0) dX12_odds_44 kc_0 ?_
        refine ev_istore (pc := 45) (L' := [_, _, _, _, _, _, _, _, _, _, _, _, _, _]) dX12_odds_45 (Nat.le_of_ble_eq_true rfl) rfl ?_
        exact loop1 y 0 _ _ (by omega)
      · exact absurd c_31 (by decide)
theorem c_M_tale_bad (p : pM h m cs B N P I J wn op n tr) (b9 : wB mx B) {t x : Int32} (ht : iTn (bT B) t = false) : Ct X 2 mt_X12_tale [.ref m, .int t, .int x] (h, z) 0 0 (QP (.int (-1)) (h, z)) := by
  obtain ⟨⟨at_, bg, tk, td, rt, rn, rm, rd, mn, bd, br, po⟩, -⟩ := id p
  refine mk_X12_tale (Nat.le_of_ble_eq_true rfl) (L := [.ref m, .int t, .int x, .retAddr 0, .retAddr 0]) rfl ?_
  refine ev_aload_n (pc := 0) dX12_tale_0 rfl ?_
  refine ev_iload_n (pc := 1) dX12_tale_1 rfl ?_
  refine iv_X12_176 (pc := 2) rfl dX12_tale_2 (by (try dsimp only); (repeat (first | rw [up_s] | rw [up_n (by omega)])) <;> first | rfl | assumption) (Nat.le_of_ble_eq_true rfl) (Nat.le_of_ble_eq_true rfl) (Nat.le_of_ble_eq_true rfl) (Nat.le_of_ble_eq_true rfl) (c_mIsTale po b9.1 t) (kp ?_)
  rw [ht]
  refine ev_if_ne (pc := 5) 10 dX12_tale_5 (by decide) (fun c_5 => ?_) (fun c_5 => ?_)
  · exact absurd rfl c_5
  · (try simp (disch := omega) only [i32_lti, i32_lei, i32_eqi, nI_toInt, i32z] at c_5)
    refine ev_iconst (pc := 8) (v := (-1)) dX12_tale_8 kc_m1 ?_
    refine ev_iret (pc := 9) dX12_tale_9 rfl rfl (Nat.le_of_ble_eq_true rfl) (Nat.le_of_ble_eq_true rfl) ?_
    exact ⟨rfl, rfl⟩
theorem c_M_tale (p : pM h m cs B N P I J wn op n tr) (b9 : wB mx B) (w : wT N) {k : Nat} (hk : k < bT B) (x : Int32) : Ct X 2 mt_X12_tale [.ref m, .int (nI k), .int x] (h, z) 0 0 (QP (.int (aTale B N k x)) (h, z)) := by
  obtain ⟨⟨at_, bg, tk, td, rt, rn, rm, rd, mn, bd, br, po⟩, px, pr, ⟨fp, fw, fh, b1, b2, b3, b4, b5⟩, pn, -⟩ := id p
  have po' := po
  unfold pMO at po'
  unfold pRw at pn
  have h6 := b9.1
  have hl6 := w.2.2.2.1
  obtain ⟨j, hj1, hj2⟩ := plc w.1 k
  refine mk_X12_tale (Nat.le_of_ble_eq_true rfl) (L := [.ref m, .int (nI k), .int x, .retAddr 0, .retAddr 0]) rfl ?_
  have loop : ∀ (c i : Nat), i + c = (tO N).length → Ev X (mi_X12_tale 2 0 0) (QP (.int (aTale B N k x)) (h, z)) 0 0 (h, z) 16 [.ref m, .int (nI k), .int x, .int (if j < i then nI j else -9), .int (nI i)] [] := by
    intro c
    induction c with
    | zero =>
      intro i hi
      have ei : i = (tO N).length := by omega
      subst ei
      rw [hj2]
      unfold aTale
      refine ev_iload (pc := 16) dX12_tale_16 rfl ?_
      refine ev_aload_n (pc := 18) dX12_tale_18 rfl ?_
      refine gf_X12_31 (pc := 19) rfl dX12_tale_19 (by (try dsimp only); (repeat (first | rw [up_s] | rw [up_n (by omega)])) <;> first | rfl | assumption) ?_
      refine ev_iconst (pc := 22) (v := nI 2) dX12_tale_22 kc_2 ?_
      refine ev_iald (pc := 23) dX12_tale_23 (by (try dsimp only); (repeat (first | rw [up_s] | rw [up_n (by omega)])) <;> first | rfl | assumption) (nI_toInt (by omega)) (x_2 _) ?_
      refine ev_icmp_ge (pc := 24) 53 dX12_tale_24 (by decide) (fun c_24 => ?_) (fun c_24 => ?_)
      · (try simp (disch := omega) only [i32_lti, i32_lei, i32_eqi, nI_toInt, i32z] at c_24)
        refine ev_iload_n (pc := 53) dX12_tale_53 rfl ?_
        by_cases s54_0 : (x).toInt = 0
        · refine ev_tableIn (pc := 54) 92 dX12_tale_54 (by omega) (by omega) (by rw [s54_0]; rfl) (by decide) ?_
          refine ev_aload_n (pc := 92) dX12_tale_92 rfl ?_
          refine gf_X12_22 (pc := 93) rfl dX12_tale_93 (by (try dsimp only); (repeat (first | rw [up_s] | rw [up_n (by omega)])) <;> first | rfl | assumption) ?_
          refine ev_iload_n (pc := 96) dX12_tale_96 rfl ?_
          refine ev_iald (pc := 97) dX12_tale_97 (by (try dsimp only); (repeat (first | rw [up_s] | rw [up_n (by omega)])) <;> first | rfl | assumption) (nI_toInt (by omega)) (xg (by omega) (b4 k hk).1) ?_
          refine ev_iret (pc := 98) dX12_tale_98 rfl rfl (Nat.le_of_ble_eq_true rfl) (Nat.le_of_ble_eq_true rfl) ?_
          exact ⟨by (repeat (first | rw [if_pos ‹x.toInt = _›] | rw [if_neg ‹¬ x.toInt = 0›] | rw [if_neg ‹¬ x.toInt = 1›] | rw [if_neg ‹¬ x.toInt = 2›] | rw [if_neg ‹¬ x.toInt = 3›] | rw [if_neg ‹¬ x.toInt = 4›] | rw [if_neg ‹¬ x.toInt = 5›])), rfl⟩
        by_cases s54_1 : (x).toInt = 1
        · refine ev_tableIn (pc := 54) 99 dX12_tale_54 (by omega) (by omega) (by rw [s54_1]; rfl) (by decide) ?_
          refine ev_aload_n (pc := 99) dX12_tale_99 rfl ?_
          refine gf_X12_25 (pc := 100) rfl dX12_tale_100 (by (try dsimp only); (repeat (first | rw [up_s] | rw [up_n (by omega)])) <;> first | rfl | assumption) ?_
          refine ev_iload_n (pc := 103) dX12_tale_103 rfl ?_
          refine ev_iald (pc := 104) dX12_tale_104 (by (try dsimp only); (repeat (first | rw [up_s] | rw [up_n (by omega)])) <;> first | rfl | assumption) (nI_toInt (by omega)) (xg (by omega) (b4 k hk).2) ?_
          refine ev_iret (pc := 105) dX12_tale_105 rfl rfl (Nat.le_of_ble_eq_true rfl) (Nat.le_of_ble_eq_true rfl) ?_
          exact ⟨by (repeat (first | rw [if_pos ‹x.toInt = _›] | rw [if_neg ‹¬ x.toInt = 0›] | rw [if_neg ‹¬ x.toInt = 1›] | rw [if_neg ‹¬ x.toInt = 2›] | rw [if_neg ‹¬ x.toInt = 3›] | rw [if_neg ‹¬ x.toInt = 4›] | rw [if_neg ‹¬ x.toInt = 5›])), rfl⟩
        by_cases s54_2 : (x).toInt = 2
        · refine ev_tableIn (pc := 54) 106 dX12_tale_54 (by omega) (by omega) (by rw [s54_2]; rfl) (by decide) ?_
          refine ev_aload_n (pc := 106) dX12_tale_106 rfl ?_
          refine gf_X12_31 (pc := 107) rfl dX12_tale_107 (by (try dsimp only); (repeat (first | rw [up_s] | rw [up_n (by omega)])) <;> first | rfl | assumption) ?_
          refine ev_bipush (pc := 110) (v := nI 10) dX12_tale_110 kb_10 ?_
          refine ev_iload_n (pc := 112) dX12_tale_112 rfl ?_
          refine ev_iadd (pc := 113) dX12_tale_113 ?_
          (try rw [nI_add])
          refine ev_iald (pc := 114) dX12_tale_114 (by (try dsimp only); (repeat (first | rw [up_s] | rw [up_n (by omega)])) <;> first | rfl | assumption) (nI_toInt (by omega)) (x_F (by omega)) ?_
          refine ev_iret (pc := 115) dX12_tale_115 rfl rfl (Nat.le_of_ble_eq_true rfl) (Nat.le_of_ble_eq_true rfl) ?_
          exact ⟨by (repeat (first | rw [if_pos ‹x.toInt = _›] | rw [if_neg ‹¬ x.toInt = 0›] | rw [if_neg ‹¬ x.toInt = 1›] | rw [if_neg ‹¬ x.toInt = 2›] | rw [if_neg ‹¬ x.toInt = 3›] | rw [if_neg ‹¬ x.toInt = 4›] | rw [if_neg ‹¬ x.toInt = 5›])), rfl⟩
        by_cases s54_3 : (x).toInt = 3
        · refine ev_tableIn (pc := 54) 116 dX12_tale_54 (by omega) (by omega) (by rw [s54_3]; rfl) (by decide) ?_
          refine ev_aload_n (pc := 116) dX12_tale_116 rfl ?_
          refine gf_X12_31 (pc := 117) rfl dX12_tale_117 (by (try dsimp only); (repeat (first | rw [up_s] | rw [up_n (by omega)])) <;> first | rfl | assumption) ?_
          refine ev_bipush (pc := 120) (v := nI 16) dX12_tale_120 kb_16 ?_
          refine ev_iload_n (pc := 122) dX12_tale_122 rfl ?_
          refine ev_iadd (pc := 123) dX12_tale_123 ?_
          (try rw [nI_add])
          refine ev_iald (pc := 124) dX12_tale_124 (by (try dsimp only); (repeat (first | rw [up_s] | rw [up_n (by omega)])) <;> first | rfl | assumption) (nI_toInt (by omega)) (x_B (by omega)) ?_
          refine ev_iret (pc := 125) dX12_tale_125 rfl rfl (Nat.le_of_ble_eq_true rfl) (Nat.le_of_ble_eq_true rfl) ?_
          exact ⟨by (repeat (first | rw [if_pos ‹x.toInt = _›] | rw [if_neg ‹¬ x.toInt = 0›] | rw [if_neg ‹¬ x.toInt = 1›] | rw [if_neg ‹¬ x.toInt = 2›] | rw [if_neg ‹¬ x.toInt = 3›] | rw [if_neg ‹¬ x.toInt = 4›] | rw [if_neg ‹¬ x.toInt = 5›])), rfl⟩
        by_cases s54_4 : (x).toInt = 4
        · refine ev_tableIn (pc := 54) 126 dX12_tale_54 (by omega) (by omega) (by rw [s54_4]; rfl) (by decide) ?_
          refine ev_iload_n (pc := 126) dX12_tale_126 rfl ?_
          refine ev_iret (pc := 127) dX12_tale_127 rfl rfl (Nat.le_of_ble_eq_true rfl) (Nat.le_of_ble_eq_true rfl) ?_
          exact ⟨by (repeat (first | rw [if_pos ‹x.toInt = _›] | rw [if_neg ‹¬ x.toInt = 0›] | rw [if_neg ‹¬ x.toInt = 1›] | rw [if_neg ‹¬ x.toInt = 2›] | rw [if_neg ‹¬ x.toInt = 3›] | rw [if_neg ‹¬ x.toInt = 4›] | rw [if_neg ‹¬ x.toInt = 5›])), rfl⟩
        by_cases s54_5 : (x).toInt = 5
        · refine ev_tableIn (pc := 54) 128 dX12_tale_54 (by omega) (by omega) (by rw [s54_5]; rfl) (by decide) ?_
          refine ev_aload_n (pc := 128) dX12_tale_128 rfl ?_
          refine gf_X12_31 (pc := 129) rfl dX12_tale_129 (by (try dsimp only); (repeat (first | rw [up_s] | rw [up_n (by omega)])) <;> first | rfl | assumption) ?_
          refine ev_bipush (pc := 132) (v := nI 22) dX12_tale_132 kb_22 ?_
          refine ev_iload_n (pc := 134) dX12_tale_134 rfl ?_
          refine ev_iadd (pc := 135) dX12_tale_135 ?_
          (try rw [nI_add])
          refine ev_iald (pc := 136) dX12_tale_136 (by (try dsimp only); (repeat (first | rw [up_s] | rw [up_n (by omega)])) <;> first | rfl | assumption) (nI_toInt (by omega)) (ar_get (by omega)) ?_
          rw [eT_A]
          refine ev_iret (pc := 137) dX12_tale_137 rfl rfl (Nat.le_of_ble_eq_true rfl) (Nat.le_of_ble_eq_true rfl) ?_
          exact ⟨by (repeat (first | rw [if_pos ‹x.toInt = _›] | rw [if_neg ‹¬ x.toInt = 0›] | rw [if_neg ‹¬ x.toInt = 1›] | rw [if_neg ‹¬ x.toInt = 2›] | rw [if_neg ‹¬ x.toInt = 3›] | rw [if_neg ‹¬ x.toInt = 4›] | rw [if_neg ‹¬ x.toInt = 5›])), rfl⟩
        refine ev_tableOut (pc := 54) 138 dX12_tale_54 (by omega) (by decide) ?_
        refine ev_iconst (pc := 138) (v := (-1)) dX12_tale_138 kc_m1 ?_
        refine ev_iret (pc := 139) dX12_tale_139 rfl rfl (Nat.le_of_ble_eq_true rfl) (Nat.le_of_ble_eq_true rfl) ?_
        exact ⟨by (repeat (first | rw [if_pos ‹x.toInt = _›] | rw [if_neg ‹¬ x.toInt = 0›] | rw [if_neg ‹¬ x.toInt = 1›] | rw [if_neg ‹¬ x.toInt = 2›] | rw [if_neg ‹¬ x.toInt = 3›] | rw [if_neg ‹¬ x.toInt = 4›] | rw [if_neg ‹¬ x.toInt = 5›])), rfl⟩
      · exfalso; (try simp (disch := omega) only [i32_lti, i32_lei, i32_eqi, nI_toInt, i32z] at c_24); omega
    | succ c ih =>
      intro i hi
      have hO6 := (w.2.1 _ (gN_mem (l := tO N) (i := i) (by omega))).1
      have hij := hj1 i (by omega)
      have q := ih (i + 1) (by omega)
      refine ev_iload (pc := 16) dX12_tale_16 rfl ?_
      refine ev_aload_n (pc := 18) dX12_tale_18 rfl ?_
      refine gf_X12_31 (pc := 19) rfl dX12_tale_19 (by (try dsimp only); (repeat (first | rw [up_s] | rw [up_n (by omega)])) <;> first | rfl | assumption) ?_
      refine ev_iconst (pc := 22) (v := nI 2) dX12_tale_22 kc_2 ?_
      refine ev_iald (pc := 23) dX12_tale_23 (by (try dsimp only); (repeat (first | rw [up_s] | rw [up_n (by omega)])) <;> first | rfl | assumption) (nI_toInt (by omega)) (x_2 _) ?_
      refine ev_icmp_ge (pc := 24) 53 dX12_tale_24 (by decide) (fun c_24 => ?_) (fun c_24 => ?_)
      · exfalso; (try simp (disch := omega) only [i32_lti, i32_lei, i32_eqi, nI_toInt, i32z] at c_24); omega
      · (try simp (disch := omega) only [i32_lti, i32_lei, i32_eqi, nI_toInt, i32z] at c_24)
        refine ev_aload_n (pc := 27) dX12_tale_27 rfl ?_
        refine gf_X12_31 (pc := 28) rfl dX12_tale_28 (by (try dsimp only); (repeat (first | rw [up_s] | rw [up_n (by omega)])) <;> first | rfl | assumption) ?_
        refine ev_iconst (pc := 31) (v := nI 4) dX12_tale_31 kc_4 ?_
        refine ev_iload (pc := 32) dX12_tale_32 rfl ?_
        refine ev_iadd (pc := 34) dX12_tale_34 ?_
        (try rw [nI_add])
        refine ev_iald (pc := 35) dX12_tale_35 (by (try dsimp only); (repeat (first | rw [up_s] | rw [up_n (by omega)])) <;> first | rfl | assumption) (nI_toInt (by omega)) (x_O hl6 (by omega)) ?_
        refine ev_iload_n (pc := 36) dX12_tale_36 rfl ?_
        refine ev_icmp_ne (pc := 37) 45 dX12_tale_37 (by decide) (fun c_37 => ?_) (fun c_37 => ?_)
        · (try simp (disch := omega) only [i32_lti, i32_lei, i32_eqi, nI_toInt, i32z] at c_37)
          rw [show (if j < i + 1 then nI j else -9) = (if j < i then nI j else -9) by by_cases hji : j < i; rw [if_pos hji, if_pos (by omega)]; rw [if_neg hji, if_neg (by omega)]] at q
          refine ev_iload_n (pc := 45) dX12_tale_45 rfl ?_
          refine ev_istore_n (pc := 46) (L' := [_, _, _, _, _]) dX12_tale_46 (Nat.le_of_ble_eq_true rfl) rfl ?_
          refine ev_iinc (pc := 47) (L' := [_, _, _, _, _]) dX12_tale_47 rfl (nI_1 _) rfl ?_
          refine ev_goto (pc := 50) 16 dX12_tale_50 (by decide) ?_
          exact q
        · (try simp (disch := omega) only [i32_lti, i32_lei, i32_eqi, nI_toInt, i32z] at c_37)
          rw [if_pos (by omega), show j = i by omega] at q
          refine ev_iload (pc := 40) dX12_tale_40 rfl ?_
          refine ev_goto (pc := 42) 46 dX12_tale_42 (by decide) ?_
          refine ev_istore_n (pc := 46) (L' := [_, _, _, _, _]) dX12_tale_46 (Nat.le_of_ble_eq_true rfl) rfl ?_
          refine ev_iinc (pc := 47) (L' := [_, _, _, _, _]) dX12_tale_47 rfl (nI_1 _) rfl ?_
          refine ev_goto (pc := 50) 16 dX12_tale_50 (by decide) ?_
          exact q
  refine ev_aload_n (pc := 0) dX12_tale_0 rfl ?_
  refine ev_iload_n (pc := 1) dX12_tale_1 rfl ?_
  refine iv_X12_176 (pc := 2) rfl dX12_tale_2 (by (try dsimp only); (repeat (first | rw [up_s] | rw [up_n (by omega)])) <;> first | rfl | assumption) (Nat.le_of_ble_eq_true rfl) (Nat.le_of_ble_eq_true rfl) (Nat.le_of_ble_eq_true rfl) (Nat.le_of_ble_eq_true rfl) (c_mIsTale po b9.1 (nI k)) (kp ?_)
  rw [iTn_nI (by omega), decide_eq_true hk]
  refine ev_if_ne (pc := 5) 10 dX12_tale_5 (by decide) (fun c_5 => ?_) (fun c_5 => ?_)
  · (try simp (disch := omega) only [i32_lti, i32_lei, i32_eqi, nI_toInt, i32z] at c_5)
    refine ev_bipush (pc := 10) (v := (-9)) dX12_tale_10 kb_m9 ?_
    refine ev_istore_n (pc := 12) (L' := [_, _, _, _, _]) dX12_tale_12 (Nat.le_of_ble_eq_true rfl) rfl ?_
    refine ev_iconst (pc := 13) (v := nI 0) dX12_tale_13 kc_0 ?_
    refine ev_istore (pc := 14) (L' := [_, _, _, _, _]) dX12_tale_14 (Nat.le_of_ble_eq_true rfl) rfl ?_
    have q := loop (tO N).length 0 (by omega); rw [if_neg (by omega)] at q; exact q
  · exact absurd c_5 (by decide)
end MTWO
