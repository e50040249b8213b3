/-! ===== the model: fewest, mind, bars ===== -/
theorem miX_2 (P : Nat → Bool) (M : Nat → Nat) : ∀ n : Nat, (∀ j, (miX P M n).1 = some j → (miX P M n).2 = M j ∧ j < n) ∧ ((miX P M n).1 = none → (miX P M n).2 = 7)
  | 0 => ⟨fun j h => (by cases h), fun _ => rfl⟩
  | n + 1 => by
    obtain ⟨i1, i2⟩ := miX_2 P M n
    simp only [miX]
    split
    · exact ⟨fun j h => (by cases h; exact ⟨rfl, by omega⟩), fun h => (by cases h)⟩
    · exact ⟨fun j h => ⟨(i1 j h).1, by have := (i1 j h).2; omega⟩, i2⟩
theorem alX_bits (P : Nat → Bool) (M : Nat → Nat) (b : Nat) : ∀ n : Nat, (∀ i : Nat, i < n → ∀ t : Nat, (M i).testBit t = true → t < b) → (alX P M n).1 = true → ∀ t : Nat, (alX P M n).2.testBit t = true → t < b
  | 0, _, h, t, _ => by cases h
  | n + 1, hM, h, t, ht => by
    simp only [alX] at h ht
    split at ht
    · rw [Nat.testBit_and, Bool.and_eq_true] at ht
      exact hM n (by omega) t ht.2
    · next q =>
      rw [if_neg q] at h
      exact alX_bits P M b n (fun i hi => hM i (by omega)) h t ht
section MFEW
variable {X : Cx} {h : Hp} {z m n mx : Nat} {cs : List Nat} {B : Bk} {N : Tl} {P : List Tl} {I J : Im} {wn op : List Nat} {tr : Int64}
theorem c_M_fewest_bad {e x : Int32} (hx : ¬ ((0 ≤ e.toInt ∧ e.toInt ≤ 30) ∧ (x.toInt = 0 ∨ x.toInt = 1))) : Ct X 4 mt_X12_fewest [.ref m, .int e, .int x] (h, z) 0 0 (QP (.int (-1)) (h, z)) := by
  refine mk_X12_fewest (Nat.le_of_ble_eq_true rfl) (L := [.ref m, .int e, .int x, .retAddr 0, .retAddr 0]) rfl ?_
  refine ev_iload_n (pc := 0) dX12_fewest_0 rfl ?_
  refine ev_i2l (pc := 1) dX12_fewest_1 ?_
  refine ev_lconst (pc := 2) (v := 0) dX12_fewest_2 kl_0 ?_
  refine ev_ldc2_w (pc := 3) dX12_fewest_3 tw_1126 ?_
  refine iv_X12_63 (pc := 6) rfl dX12_fewest_6 (Nat.le_of_ble_eq_true rfl) (Nat.le_of_ble_eq_true rfl) (Nat.le_of_ble_eq_true rfl) (Nat.le_of_ble_eq_true rfl) (c_in _ _ _) (kp ?_)
  refine ev_if_eq (pc := 9) 22 dX12_fewest_9 (by decide) (fun c_9 => ?_) (fun c_9 => ?_)
  · simp only [b2i_e0, Bool.not_eq_false] at c_9
    refine ev_iconst (pc := 22) (v := (-1)) dX12_fewest_22 kc_m1 ?_
    refine ev_iret (pc := 23) dX12_fewest_23 rfl rfl (Nat.le_of_ble_eq_true rfl) (Nat.le_of_ble_eq_true rfl) ?_
    exact ⟨rfl, rfl⟩
  · simp only [b2i_e0, Bool.not_eq_false] at c_9
    rw [decide_eq_true_eq, Int32.toInt_toInt64] at c_9
    replace c_9 : 0 ≤ e.toInt ∧ e.toInt ≤ 30 := c_9
    refine ev_iload_n (pc := 12) dX12_fewest_12 rfl ?_
    refine ev_i2l (pc := 13) dX12_fewest_13 ?_
    refine ev_lconst (pc := 14) (v := 0) dX12_fewest_14 kl_0 ?_
    refine ev_lconst (pc := 15) (v := 1) dX12_fewest_15 kl_1 ?_
    refine iv_X12_63 (pc := 16) rfl dX12_fewest_16 (Nat.le_of_ble_eq_true rfl) (Nat.le_of_ble_eq_true rfl) (Nat.le_of_ble_eq_true rfl) (Nat.le_of_ble_eq_true rfl) (c_in _ _ _) (kp ?_)
    rw [in_f (x := x) (b := 1) (by omega) _ _ rfl rfl]
    refine ev_if_ne (pc := 19) 24 dX12_fewest_19 (by decide) (fun c_19 => ?_) (fun c_19 => ?_)
    · exact absurd rfl c_19
    · (try simp (disch := omega) only [i32_lti, i32_lei, i32_eqi, nI_toInt, i32z] at c_19)
      refine ev_iconst (pc := 22) (v := (-1)) dX12_fewest_22 kc_m1 ?_
      refine ev_iret (pc := 23) dX12_fewest_23 rfl rfl (Nat.le_of_ble_eq_true rfl) (Nat.le_of_ble_eq_true rfl) ?_
      exact ⟨rfl, rfl⟩
theorem c_M_mind_bad {e x : Int32} (hx : ¬ ((1 ≤ e.toInt ∧ e.toInt ≤ 30) ∧ (x.toInt = 0 ∨ x.toInt = 1))) : Ct X 4 mt_X12_mind [.ref m, .int e, .int x] (h, z) 0 0 (QP (.int (-1)) (h, z)) := by
  refine mk_X12_mind (Nat.le_of_ble_eq_true rfl) (L := [.ref m, .int e, .int x, .retAddr 0, .retAddr 0, .retAddr 0, .retAddr 0, .retAddr 0, .retAddr 0, .retAddr 0]) rfl ?_
  refine ev_iload_n (pc := 0) dX12_mind_0 rfl ?_
  refine ev_i2l (pc := 1) dX12_mind_1 ?_
  refine ev_lconst (pc := 2) (v := 1) dX12_mind_2 kl_1 ?_
  refine ev_ldc2_w (pc := 3) dX12_mind_3 tw_1126 ?_
  refine iv_X12_63 (pc := 6) rfl dX12_mind_6 (Nat.le_of_ble_eq_true rfl) (Nat.le_of_ble_eq_true rfl) (Nat.le_of_ble_eq_true rfl) (Nat.le_of_ble_eq_true rfl) (c_in _ _ _) (kp ?_)
  refine ev_if_eq (pc := 9) 22 dX12_mind_9 (by decide) (fun c_9 => ?_) (fun c_9 => ?_)
  · simp only [b2i_e0, Bool.not_eq_false] at c_9
    refine ev_iconst (pc := 22) (v := (-1)) dX12_mind_22 kc_m1 ?_
    refine ev_iret (pc := 23) dX12_mind_23 rfl rfl (Nat.le_of_ble_eq_true rfl) (Nat.le_of_ble_eq_true rfl) ?_
    exact ⟨rfl, rfl⟩
  · simp only [b2i_e0, Bool.not_eq_false] at c_9
    rw [decide_eq_true_eq, Int32.toInt_toInt64] at c_9
    replace c_9 : 1 ≤ e.toInt ∧ e.toInt ≤ 30 := c_9
    refine ev_iload_n (pc := 12) dX12_mind_12 rfl ?_
    refine ev_i2l (pc := 13) dX12_mind_13 ?_
    refine ev_lconst (pc := 14) (v := 0) dX12_mind_14 kl_0 ?_
    refine ev_lconst (pc := 15) (v := 1) dX12_mind_15 kl_1 ?_
    refine iv_X12_63 (pc := 16) rfl dX12_mind_16 (Nat.le_of_ble_eq_true rfl) (Nat.le_of_ble_eq_true rfl) (Nat.le_of_ble_eq_true rfl) (Nat.le_of_ble_eq_true rfl) (c_in _ _ _) (kp ?_)
    rw [in_f (x := x) (b := 1) (by omega) _ _ rfl rfl]
    refine ev_if_ne (pc := 19) 24 dX12_mind_19 (by decide) (fun c_19 => ?_) (fun c_19 => ?_)
    · exact absurd rfl c_19
    · (try simp (disch := omega) only [i32_lti, i32_lei, i32_eqi, nI_toInt, i32z] at c_19)
      refine ev_iconst (pc := 22) (v := (-1)) dX12_mind_22 kc_m1 ?_
      refine ev_iret (pc := 23) dX12_mind_23 rfl rfl (Nat.le_of_ble_eq_true rfl) (Nat.le_of_ble_eq_true rfl) ?_
      exact ⟨rfl, rfl⟩
theorem c_M_bars_bad {e : Int32} (hx : ¬ (1 ≤ e.toInt ∧ e.toInt ≤ 30)) : Ct X 4 mt_X12_bars [.ref m, .int e] (h, z) 0 0 (QP (.int (-1)) (h, z)) := by
  refine mk_X12_bars (Nat.le_of_ble_eq_true rfl) (L := [.ref m, .int e, .retAddr 0, .retAddr 0, .retAddr 0, .retAddr 0, .retAddr 0, .retAddr 0]) rfl ?_
  refine ev_iload_n (pc := 0) dX12_bars_0 rfl ?_
  refine ev_i2l (pc := 1) dX12_bars_1 ?_
  refine ev_lconst (pc := 2) (v := 1) dX12_bars_2 kl_1 ?_
  refine ev_ldc2_w (pc := 3) dX12_bars_3 tw_1126 ?_
  refine iv_X12_63 (pc := 6) rfl dX12_bars_6 (Nat.le_of_ble_eq_true rfl) (Nat.le_of_ble_eq_true rfl) (Nat.le_of_ble_eq_true rfl) (Nat.le_of_ble_eq_true rfl) (c_in _ _ _) (kp ?_)
  rw [decide_eq_false (by rw [Int32.toInt_toInt64]; exact hx)]
  refine ev_if_ne (pc := 9) 14 dX12_bars_9 (by decide) (fun c_9 => ?_) (fun c_9 => ?_)
  · exact absurd rfl c_9
  · (try simp (disch := omega) only [i32_lti, i32_lei, i32_eqi, nI_toInt, i32z] at c_9)
    refine ev_iconst (pc := 12) (v := (-1)) dX12_bars_12 kc_m1 ?_
    refine ev_iret (pc := 13) dX12_bars_13 rfl rfl (Nat.le_of_ble_eq_true rfl) (Nat.le_of_ble_eq_true rfl) ?_
    exact ⟨rfl, rfl⟩
theorem c_M_fewest (p : pM h m cs B N P I J wn op n tr) (b9 : wB mx B) (hmx : mx ≤ 10) {e : Nat} (he30 : e ≤ 30) {x : Int32} (hx : x.toInt = 0 ∨ x.toInt = 1) : Ct X 4 mt_X12_fewest [.ref m, .int (nI e), .int x] (h, z) 0 0 (Qi (fun r S' => r = aFew B e x ∧ S'.2 = z ∧ hfr h S'.1 m 17 ∧ pM S'.1 m cs B N P I J wn op n tr)) := by
  obtain ⟨⟨at_, bg, tk, td, rt, rn, rm, rd, mn, bd, br, po⟩, px, pr, pb, pn, pq, pu, por, ph, pk⟩ := id p
  have h6 := b9.1
  have hpos := nW_pos B
  have po' := po
  unfold pMO at po'
  refine mk_X12_fewest (Nat.le_of_ble_eq_true rfl) (L := [.ref m, .int (nI e), .int x, .retAddr 0, .retAddr 0]) rfl ?_
  have step : ∀ c i : Nat, fiX (fun i => decide (e ≤ (outW B (rW B i)).length)) (c + 1) i = if decide (e ≤ (outW B (rW B i)).length) = true then some i else fiX (fun i => decide (e ≤ (outW B (rW B i)).length)) c (i + 1) := fun _ _ => rfl
  have outer : ∀ (e9 k : Nat) (h1 : Hp) (vm : Value) (mn2 : Int32), k + e9 = bT B + 1 → fewI B e = fiX (fun i => decide (e ≤ (outW B (rW B i)).length)) (nW B - (offN B k)) (offN B k) → mFs h h1 m → pMO h1 m (nI cs.length) at_ bg tk td rt rn rm rd (nI (bT B)) (nI (bK B)) (nI (bM B)) (nI (bD B)) (nI 0) (nI (tS N)) (nI P.length) (mn2) bd br (nI n) tr → mRo h1 m → mOr h1 m → Ev X (mi_X12_fewest 4 0 0) (Qi (fun r S' => r = aFew B e x ∧ S'.2 = z ∧ hfr h S'.1 m 17 ∧ pM S'.1 m cs B N P I J wn op n tr)) 0 0 (h1, z) 26 [.ref m, .int (nI e), .int x, .int (nI k), vm] [] := by
    intro e9
    induction e9 with
    | zero =>
      intro k h1  vm mn2 hk iv f1 o1 r1 q1
      have o1' := o1
      unfold pMO at o1'
      have ek : k = bT B + 1 := by omega
      subst ek
      (try rw [offN_all] at iv)
      (try rw [offN_all])
      have ea : aFew B e x = -9 := by unfold aFew; rw [iv, Nat.sub_self]; rfl
      refine ev_iload_n (pc := 26) dX12_fewest_26 rfl ?_
      refine ev_aload_n (pc := 27) dX12_fewest_27 rfl ?_
      refine gf_X12_137 (pc := 28) rfl dX12_fewest_28 (by (try dsimp only); (repeat (first | rw [up_s] | rw [up_n (by omega)])) <;> first | rfl | assumption) ?_
      refine ev_icmp_gt (pc := 31) 82 dX12_fewest_31 (by decide) (fun c_31 => ?_) (fun c_31 => ?_)
      · (try simp (disch := omega) only [i32_lti, i32_lei, i32_eqi, nI_toInt, i32z] at c_31)
        refine ev_bipush (pc := 82) (v := (-9)) dX12_fewest_82 kb_m9 ?_
        refine ev_iret (pc := 84) dX12_fewest_84 rfl rfl (Nat.le_of_ble_eq_true rfl) (Nat.le_of_ble_eq_true rfl) ?_
        exact ⟨_, rfl, ea.symm, rfl, (fun q a => f1 q (by omega) (by omega) (by omega)), p.fs f1 ⟨at_, bg, tk, td, rt, rn, rm, rd, _, bd, br, o1⟩ r1 q1⟩
      · exfalso; (try simp (disch := omega) only [i32_lti, i32_lei, i32_eqi, nI_toInt, i32z] at c_31); omega
    | succ e9 ihE =>
      intro k h1  vm mn2 hk iv f1 o1 r1 q1
      have hkn : k ≤ bT B := by omega
      have inner : ∀ (c i : Nat) (w : List Nat) (h2 : Hp) , i + c = (lev (bT B) k).length → (lev (bT B) k)[i]? = some w → fewI B e = fiX (fun i => decide (e ≤ (outW B (rW B i)).length)) (nW B - (offN B k + i)) (offN B k + i) → mFs h h2 m → pMO h2 m (nI cs.length) at_ bg tk td rt rn rm rd (nI (bT B)) (nI (bK B)) (nI (bM B)) (nI (bD B)) (nI 0) (nI (tS N)) (nI P.length) (nI k) bd br (nI n) tr → mRo h2 m → mOr h2 m → mOd h2 m w → Ev X (mi_X12_fewest 4 0 0) (Qi (fun r S' => r = aFew B e x ∧ S'.2 = z ∧ hfr h S'.1 m 17 ∧ pM S'.1 m cs B N P I J wn op n tr)) 0 0 (h2, z) 41 [.ref m, .int (nI e), .int x, .int (nI k), .int (nI 1)] [] := by
        intro c
        induction c with
        | zero =>
          intro i w h2  hc hi iv
          rw [List.getElem?_eq_none (by omega)] at hi
          cases hi
        | succ c ihC =>
          intro i w h2  hc hi iv f2 o2 r2 q2 d2
          obtain ⟨eW, hI, hl, hnd, hwn, hil⟩ := rW_lev hkn hi
          have hnx := lev_next (bT B) k hkn i w hi
          have h30 := (out30 b9 (by omega) hwn).1
          have o2k : pMO h2 m (nI cs.length) at_ bg tk td rt rn rm rd (nI (bT B)) (nI (bK B)) (nI (bM B)) (nI (bD B)) (nI 0) (nI (tS N)) (nI P.length) (nI w.length) bd br (nI n) tr := by rw [hl]; exact o2
          have o2' := o2k
          unfold pMO at o2'
          obtain ⟨fo, d21, d22⟩ := id d2
          obtain ⟨oa, ob, oc, q21, q22, q23⟩ := id q2
          have pb2 : mBk h2 m B (nI 0) := pb.fr (fun q a b => f2 q (by omega) (by omega) (by omega))
          have next : ∀ (h3 : Hp) , fewI B e = fiX (fun i => decide (e ≤ (outW B (rW B i)).length)) (nW B - (offN B k + i + 1)) (offN B k + i + 1) → mFs h h3 m → pMO h3 m (nI cs.length) at_ bg tk td rt rn rm rd (nI (bT B)) (nI (bK B)) (nI (bM B)) (nI (bD B)) (nI 0) (nI (tS N)) (nI P.length) (nI w.length) bd br (nI n) tr → mRo h3 m → mOr h3 m → mOd h3 m w → Ev X (mi_X12_fewest 4 0 0) (Qi (fun r S' => r = aFew B e x ∧ S'.2 = z ∧ hfr h S'.1 m 17 ∧ pM S'.1 m cs B N P I J wn op n tr)) 0 0 (h3, z) 67 [.ref m, .int (nI e), .int x, .int (nI k), .int (nI 1)] [] := by
            intro h3  iv f3 o3k r3 q3 d3
            have o3' := o3k
            unfold pMO at o3'
            obtain ⟨oa, ob, oc, q31, q32, q33⟩ := id q3
            cases e9 : nxL (bT B) w.length w with
            | none =>
              have hend : (lev (bT B) k)[i + 1]? = none := by rw [hnx, ← hl]; exact e9
              have hlen : (lev (bT B) k).length = i + 1 := by have := List.getElem?_eq_none_iff.mp hend; omega
              have eo : offN B (k + 1) = offN B k + i + 1 := by rw [offN_s]; omega
              (try rw [← eo])
              refine ev_aload_n (pc := 67) dX12_fewest_67 rfl ?_
              refine iv_X12_225 (pc := 68) rfl dX12_fewest_68 (by (try dsimp only); (repeat (first | rw [up_s] | rw [up_n (by omega)])) <;> first | rfl | assumption) (Nat.le_of_ble_eq_true rfl) (Nat.le_of_ble_eq_true rfl) (Nat.le_of_ble_eq_true rfl) (Nat.le_of_ble_eq_true rfl) (c_mTurns o3k h6 d3 (by omega) hnd hwn) (ki (fun r S' hS => ?_))
              obtain ⟨h4, z'⟩ := S'
              obtain ⟨rfl, rfl, f4, ⟨fo4, d4⟩, -⟩ := hS
              rw [e9]
              have o4 := (f4 m (by omega)).trans o3'
              refine ev_istore (pc := 71) (L' := [_, _, _, _, _]) dX12_fewest_71 (Nat.le_of_ble_eq_true rfl) rfl ?_
              refine ev_goto (pc := 73) 41 dX12_fewest_73 (by decide) ?_
              refine ev_iload (pc := 41) dX12_fewest_41 rfl ?_
              refine ev_if_eq (pc := 43) 76 dX12_fewest_43 (by decide) (fun c_43 => ?_) (fun c_43 => ?_)
              · (try simp (disch := omega) only [i32_lti, i32_lei, i32_eqi, nI_toInt, i32z] at c_43)
                refine ev_iinc (pc := 76) (L' := [_, _, _, _, _]) dX12_fewest_76 rfl (nI_1 _) rfl ?_
                refine ev_goto (pc := 79) 26 dX12_fewest_79 (by decide) ?_
                exact ihE (k + 1) h4  _ _ (by omega) (by (try rw [eo]); exact iv) (fun q a b c => (f4 q (by omega)).trans (f3 q a b c)) (by unfold pMO; exact o4) (r3.fr (f4 _ (by omega))) ⟨fo4, ob, oc, d4, (f4 _ (by omega)).trans q32, (f4 _ (by omega)).trans q33⟩
              · exact absurd rfl c_43
            | some w' =>
              have hi2 : (lev (bT B) k)[i + 1]? = some w' := by rw [hnx, ← hl]; exact e9
              rw [hl] at o3'
              refine ev_aload_n (pc := 67) dX12_fewest_67 rfl ?_
              refine iv_X12_225 (pc := 68) rfl dX12_fewest_68 (by (try dsimp only); (repeat (first | rw [up_s] | rw [up_n (by omega)])) <;> first | rfl | assumption) (Nat.le_of_ble_eq_true rfl) (Nat.le_of_ble_eq_true rfl) (Nat.le_of_ble_eq_true rfl) (Nat.le_of_ble_eq_true rfl) (c_mTurns o3k h6 d3 (by omega) hnd hwn) (ki (fun r S' hS => ?_))
              obtain ⟨h4, z'⟩ := S'
              obtain ⟨rfl, rfl, f4, -, d4⟩ := hS
              rw [e9]
              have o4 := (f4 m (by omega)).trans o3'
              have d4 := d4 w' e9
              refine ev_istore (pc := 71) (L' := [_, _, _, _, _]) dX12_fewest_71 (Nat.le_of_ble_eq_true rfl) rfl ?_
              refine ev_goto (pc := 73) 41 dX12_fewest_73 (by decide) ?_
              exact ihC (i + 1) w' h4  (by omega) hi2 iv (fun q a b c => (f4 q (by omega)).trans (f3 q a b c)) o4 (r3.fr (f4 _ (by omega))) ⟨d4.choose, ob, oc, d4.choose_spec.1, (f4 _ (by omega)).trans q32, (f4 _ (by omega)).trans q33⟩ d4
          have es := step (nW B - (offN B k + i) - 1) (offN B k + i)
          rw [show nW B - (offN B k + i) - 1 + 1 = nW B - (offN B k + i) by omega] at es
          refine ev_iload (pc := 41) dX12_fewest_41 rfl ?_
          refine ev_if_eq (pc := 43) 76 dX12_fewest_43 (by decide) (fun c_43 => ?_) (fun c_43 => ?_)
          · exact absurd c_43 (by decide)
          · (try simp (disch := omega) only [i32_lti, i32_lei, i32_eqi, nI_toInt, i32z] at c_43)
            refine ev_aload_n (pc := 46) dX12_fewest_46 rfl ?_
            refine iv_X12_203 (pc := 47) rfl dX12_fewest_47 (by (try dsimp only); (repeat (first | rw [up_s] | rw [up_n (by omega)])) <;> first | rfl | assumption) (Nat.le_of_ble_eq_true rfl) (Nat.le_of_ble_eq_true rfl) (Nat.le_of_ble_eq_true rfl) (Nat.le_of_ble_eq_true rfl) (c_mSaves (w := w) o2k pb2 b9 hmx d21 d22 hwn (by omega) r2 ⟨ob, oc, q22, q23⟩) (ki (fun r S' hS => ?_))
            obtain ⟨h3, z'⟩ := S'
            obtain ⟨rfl, rfl, f3, r3, g3, k3, y1, y2, y3⟩ := hS
            have o3k : pMO h3 m (nI cs.length) at_ bg tk td rt rn rm rd (nI (bT B)) (nI (bK B)) (nI (bM B)) (nI (bD B)) (nI 0) (nI (tS N)) (nI P.length) (nI w.length) bd br (nI n) tr := (f3 m (by omega) (by omega) (by omega)).trans o2k
            have o3' := o3k
            unfold pMO at o3'
            have d3 : mOd h3 m w := ⟨fo, (f3 _ (by omega) (by omega) (by omega)).trans d21, d22⟩
            have d31 := (f3 (m + 11) (by omega) (by omega) (by omega)).trans d21
            have f13 : mFs h h3 m := fun q a b c => (f3 q b (by omega) (by omega)).trans (f2 q a b c)
            have nx := fun  iv => next h3  iv f13 o3k r3 ⟨fo, g3, k3, (f3 _ (by omega) (by omega) (by omega)).trans d21, y1, y2⟩ d3
            refine ev_iload_n (pc := 50) dX12_fewest_50 rfl ?_
            refine ev_icmp_lt (pc := 51) 67 dX12_fewest_51 (by decide) (fun c_51 => ?_) (fun c_51 => ?_)
            · (try simp (disch := omega) only [i32_lti, i32_lei, i32_eqi, nI_toInt, i32z] at c_51)
              have hno : decide (e ≤ (outW B (rW B (offN B k + i))).length) = false := by rw [eW]; exact decide_eq_false (by omega)
              rw [hno, if_neg (by decide)] at es
              exact nx (iv.trans (es.trans (by rw [show nW B - (offN B k + i + 1) = nW B - (offN B k + i) - 1 by omega])))
            · (try simp (disch := omega) only [i32_lti, i32_lei, i32_eqi, nI_toInt, i32z] at c_51)
              have hyes : decide (e ≤ (outW B (rW B (offN B k + i))).length) = true := by rw [eW]; exact decide_eq_true (by omega)
              rw [hyes, if_pos rfl] at es
              have ea : aFew B e x = if x.toInt = 0 then nI k else nI (cod w) := by
                unfold aFew
                rw [iv.trans es]
                dsimp only
                rw [eW, popN_mk hnd (fun t ht => by have := hwn t ht; omega), hl]
              refine ev_iload_n (pc := 54) dX12_fewest_54 rfl ?_
              refine ev_if_ne (pc := 55) 62 dX12_fewest_55 (by decide) (fun c_55 => ?_) (fun c_55 => ?_)
              · (try simp (disch := omega) only [i32_lti, i32_lei, i32_eqi, nI_toInt, i32z] at c_55)
                refine ev_aload_n (pc := 62) dX12_fewest_62 rfl ?_
                refine iv_X12_222 (pc := 63) rfl dX12_fewest_63 (by (try dsimp only); (repeat (first | rw [up_s] | rw [up_n (by omega)])) <;> first | rfl | assumption) (Nat.le_of_ble_eq_true rfl) (Nat.le_of_ble_eq_true rfl) (Nat.le_of_ble_eq_true rfl) (Nat.le_of_ble_eq_true rfl) (c_mCode o3k d3 (fun x hx => by have := hwn x hx; omega) (by omega)) (kp ?_)
                refine ev_iret (pc := 66) dX12_fewest_66 rfl rfl (Nat.le_of_ble_eq_true rfl) (Nat.le_of_ble_eq_true rfl) ?_
                first
                | exact ⟨_, rfl, by rw [ea, if_pos c_55], rfl, (fun q a => f13 q (by omega) (by omega) (by omega)), p.fs f13 ⟨at_, bg, tk, td, rt, rn, rm, rd, _, bd, br, o3k⟩ r3 ⟨fo, g3, k3, d31, y1, y2⟩⟩
                | exact ⟨_, rfl, by rw [ea, if_neg c_55], rfl, (fun q a => f13 q (by omega) (by omega) (by omega)), p.fs f13 ⟨at_, bg, tk, td, rt, rn, rm, rd, _, bd, br, o3k⟩ r3 ⟨fo, g3, k3, d31, y1, y2⟩⟩
              · (try simp (disch := omega) only [i32_lti, i32_lei, i32_eqi, nI_toInt, i32z] at c_55)
                refine ev_iload_n (pc := 58) dX12_fewest_58 rfl ?_
                refine ev_goto (pc := 59) 66 dX12_fewest_59 (by decide) ?_
                refine ev_iret (pc := 66) dX12_fewest_66 rfl rfl (Nat.le_of_ble_eq_true rfl) (Nat.le_of_ble_eq_true rfl) ?_
                first
                | exact ⟨_, rfl, by rw [ea, if_pos c_55], rfl, (fun q a => f13 q (by omega) (by omega) (by omega)), p.fs f13 ⟨at_, bg, tk, td, rt, rn, rm, rd, _, bd, br, o3k⟩ r3 ⟨fo, g3, k3, d31, y1, y2⟩⟩
                | exact ⟨_, rfl, by rw [ea, if_neg c_55], rfl, (fun q a => f13 q (by omega) (by omega) (by omega)), p.fs f13 ⟨at_, bg, tk, td, rt, rn, rm, rd, _, bd, br, o3k⟩ r3 ⟨fo, g3, k3, d31, y1, y2⟩⟩
      have o1' := o1
      unfold pMO at o1'
      have hh := lev_head (bT B) k hkn
      have hlp : 0 < (lev (bT B) k).length := by
        rcases Nat.eq_zero_or_pos (lev (bT B) k).length with q | q
        · rw [List.getElem?_eq_none (by omega)] at hh; cases hh
        · exact q
      obtain ⟨oa, ob, oc, q11, q12, q13⟩ := id q1
      refine ev_iload_n (pc := 26) dX12_fewest_26 rfl ?_
      refine ev_aload_n (pc := 27) dX12_fewest_27 rfl ?_
      refine gf_X12_137 (pc := 28) rfl dX12_fewest_28 (by (try dsimp only); (repeat (first | rw [up_s] | rw [up_n (by omega)])) <;> first | rfl | assumption) ?_
      refine ev_icmp_gt (pc := 31) 82 dX12_fewest_31 (by decide) (fun c_31 => ?_) (fun c_31 => ?_)
      · exfalso; (try simp (disch := omega) only [i32_lti, i32_lei, i32_eqi, nI_toInt, i32z] at c_31); omega
      · (try simp (disch := omega) only [i32_lti, i32_lei, i32_eqi, nI_toInt, i32z] at c_31)
        refine ev_aload_n (pc := 34) dX12_fewest_34 rfl ?_
        refine ev_iload_n (pc := 35) dX12_fewest_35 rfl ?_
        refine iv_X12_219 (pc := 36) rfl dX12_fewest_36 (by (try dsimp only); (repeat (first | rw [up_s] | rw [up_n (by omega)])) <;> first | rfl | assumption) (Nat.le_of_ble_eq_true rfl) (Nat.le_of_ble_eq_true rfl) (Nat.le_of_ble_eq_true rfl) (Nat.le_of_ble_eq_true rfl) (c_mStarts (n := bT B) o1 h6 hkn ⟨oa, q11⟩) (ki (fun r S' hS => ?_))
        obtain ⟨h2, z'⟩ := S'
        obtain ⟨rfl, rfl, f2, o2, d2⟩ := hS
        refine ev_istore (pc := 39) (L' := [_, _, _, _, _]) dX12_fewest_39 (Nat.le_of_ble_eq_true rfl) rfl ?_
        exact inner (lev (bT B) k).length 0 (rf (bT B) k []) h2  (by omega) hh iv (fun q a b c => (f2 q a (by omega)).trans (f1 q a b c)) o2 (r1.fr (f2 _ (by omega) (by omega))) ⟨d2.choose, ob, oc, d2.choose_spec.1, (f2 _ (by omega) (by omega)).trans q12, (f2 _ (by omega) (by omega)).trans q13⟩ d2
  refine ev_iload_n (pc := 0) dX12_fewest_0 rfl ?_
  refine ev_i2l (pc := 1) dX12_fewest_1 ?_
  refine ev_lconst (pc := 2) (v := 0) dX12_fewest_2 kl_0 ?_
  refine ev_ldc2_w (pc := 3) dX12_fewest_3 tw_1126 ?_
  refine iv_X12_63 (pc := 6) rfl dX12_fewest_6 (Nat.le_of_ble_eq_true rfl) (Nat.le_of_ble_eq_true rfl) (Nat.le_of_ble_eq_true rfl) (Nat.le_of_ble_eq_true rfl) (c_in _ _ _) (kp ?_)
  rw [in_t (a := 0) (b := 30) (by omega) (by omega) _ _ rfl rfl]
  refine ev_if_eq (pc := 9) 22 dX12_fewest_9 (by decide) (fun c_9 => ?_) (fun c_9 => ?_)
  · exact absurd c_9 (by decide)
  · (try simp (disch := omega) only [i32_lti, i32_lei, i32_eqi, nI_toInt, i32z] at c_9)
    refine ev_iload_n (pc := 12) dX12_fewest_12 rfl ?_
    refine ev_i2l (pc := 13) dX12_fewest_13 ?_
    refine ev_lconst (pc := 14) (v := 0) dX12_fewest_14 kl_0 ?_
    refine ev_lconst (pc := 15) (v := 1) dX12_fewest_15 kl_1 ?_
    refine iv_X12_63 (pc := 16) rfl dX12_fewest_16 (Nat.le_of_ble_eq_true rfl) (Nat.le_of_ble_eq_true rfl) (Nat.le_of_ble_eq_true rfl) (Nat.le_of_ble_eq_true rfl) (c_in _ _ _) (kp ?_)
    rw [show decide ((0 : Int64).toInt ≤ x.toInt64.toInt ∧ x.toInt64.toInt ≤ (1 : Int64).toInt) = true from decide_eq_true (by rw [Int32.toInt_toInt64]; show 0 ≤ x.toInt ∧ x.toInt ≤ 1; omega)]
    refine ev_if_ne (pc := 19) 24 dX12_fewest_19 (by decide) (fun c_19 => ?_) (fun c_19 => ?_)
    · (try simp (disch := omega) only [i32_lti, i32_lei, i32_eqi, nI_toInt, i32z] at c_19)
      refine ev_iconst (pc := 24) (v := nI 0) dX12_fewest_24 kc_0 ?_
      refine ev_istore_n (pc := 25) (L' := [_, _, _, _, _]) dX12_fewest_25 (Nat.le_of_ble_eq_true rfl) rfl ?_
      exact outer (bT B + 1) 0 h _ _ (by omega) rfl (fun _ _ _ _ => rfl) po pq por
    · exact absurd c_19 (by decide)
def leI (B : Bk) (e i : Nat) : Int32 := match (miX (fun i => decide (e ≤ (outW B (rW B i)).length)) (fun i => moN (outW B (rW B i)) e) i).1 with
  | none => -9
  | some j => nI (moN (outW B (rW B j)) e)
def foI (B : Bk) (e i : Nat) : Int32 := match (miX (fun i => decide (e ≤ (outW B (rW B i)).length)) (fun i => moN (outW B (rW B i)) e) i).1 with
  | none => -9
  | some j => nI (cod (rW B j))
theorem miI_step (B : Bk) (e i : Nat) : (¬ e ≤ (outW B (rW B i)).length → leI B e (i + 1) = leI B e i ∧ foI B e (i + 1) = foI B e i) ∧ (e ≤ (outW B (rW B i)).length → (leI B e i = -9 ∨ (moN (outW B (rW B i)) e : Int) < (leI B e i).toInt) → leI B e (i + 1) = nI (moN (outW B (rW B i)) e) ∧ foI B e (i + 1) = nI (cod (rW B i))) ∧ (e ≤ (outW B (rW B i)).length → ¬ leI B e i = -9 → ¬ (moN (outW B (rW B i)) e : Int) < (leI B e i).toInt → leI B e (i + 1) = leI B e i ∧ foI B e (i + 1) = foI B e i) := by
  have es : miX (fun i => decide (e ≤ (outW B (rW B i)).length)) (fun i => moN (outW B (rW B i)) e) (i + 1) = if decide (e ≤ (outW B (rW B i)).length) = true ∧ moN (outW B (rW B i)) e < (miX (fun i => decide (e ≤ (outW B (rW B i)).length)) (fun i => moN (outW B (rW B i)) e) i).2 then (some i, moN (outW B (rW B i)) e) else miX (fun i => decide (e ≤ (outW B (rW B i)).length)) (fun i => moN (outW B (rW B i)) e) i := rfl
  obtain ⟨m1, m2⟩ := miX_2 (fun i => decide (e ≤ (outW B (rW B i)).length)) (fun i => moN (outW B (rW B i)) e) i
  have m6 := moN_le (outW B (rW B i)) e
  refine ⟨fun hn => ?_, fun hy hc => ?_, fun hy h1 h2 => ?_⟩
  · rw [if_neg (fun q => hn (of_decide_eq_true q.1))] at es
    unfold leI foI
    rw [es]
    exact ⟨rfl, rfl⟩
  · have hlt : moN (outW B (rW B i)) e < (miX (fun i => decide (e ≤ (outW B (rW B i)).length)) (fun i => moN (outW B (rW B i)) e) i).2 := by
      cases ec : (miX (fun i => decide (e ≤ (outW B (rW B i)).length)) (fun i => moN (outW B (rW B i)) e) i).1 with
      | none => rw [m2 ec]; omega
      | some j =>
        have m6' := moN_le (outW B (rW B j)) e
        rw [(m1 j ec).1]
        have el : leI B e i = nI (moN (outW B (rW B j)) e) := by unfold leI; rw [ec]
        rw [el] at hc
        rcases hc with q | q
        · have q2 := congrArg Int32.toInt q
          rw [nI_toInt (by omega)] at q2
          have q3 : ((moN (outW B (rW B j)) e : Nat) : Int) = -9 := q2
          omega
        · rw [nI_toInt (by omega)] at q
          omega
    rw [if_pos ⟨decide_eq_true hy, hlt⟩] at es
    unfold leI foI
    rw [es]
    exact ⟨rfl, rfl⟩
  · have hge : ¬ moN (outW B (rW B i)) e < (miX (fun i => decide (e ≤ (outW B (rW B i)).length)) (fun i => moN (outW B (rW B i)) e) i).2 := by
      cases ec : (miX (fun i => decide (e ≤ (outW B (rW B i)).length)) (fun i => moN (outW B (rW B i)) e) i).1 with
      | none => exact absurd (by unfold leI; rw [ec]) h1
      | some j =>
        have m6' := moN_le (outW B (rW B j)) e
        rw [(m1 j ec).1]
        have el : leI B e i = nI (moN (outW B (rW B j)) e) := by unfold leI; rw [ec]
        rw [el, nI_toInt (by omega)] at h2
        omega
    rw [if_neg (fun q => hge q.2)] at es
    unfold leI foI
    rw [es]
    exact ⟨rfl, rfl⟩
theorem c_M_mind (p : pM h m cs B N P I J wn op n tr) (b9 : wB mx B) (hmx : mx ≤ 10) {e : Nat} (h1e : 1 ≤ e) (he30 : e ≤ 30) {x : Int32} (hx : x.toInt = 0 ∨ x.toInt = 1) : Ct X 4 mt_X12_mind [.ref m, .int (nI e), .int x] (h, z) 0 0 (Qi (fun r S' => r = aMind B e x ∧ S'.2 = z ∧ hfr h S'.1 m 17 ∧ pM S'.1 m cs B N P I J wn op n tr)) := by
  obtain ⟨⟨at_, bg, tk, td, rt, rn, rm, rd, mn, bd, br, po⟩, px, pr, pb, pn, pq, pu, por, ph, pk⟩ := id p
  have h6 := b9.1
  have hpos := nW_pos B
  have po' := po
  unfold pMO at po'
  refine mk_X12_mind (Nat.le_of_ble_eq_true rfl) (L := [.ref m, .int (nI e), .int x, .retAddr 0, .retAddr 0, .retAddr 0, .retAddr 0, .retAddr 0, .retAddr 0, .retAddr 0]) rfl ?_
  have outer : ∀ (e9 k : Nat) (h1 : Hp) (v7 v8 v9 : Value) (vm : Value) (mn2 : Int32), k + e9 = bT B + 1 → True → mFs h h1 m → pMO h1 m (nI cs.length) at_ bg tk td rt rn rm rd (nI (bT B)) (nI (bK B)) (nI (bM B)) (nI (bD B)) (nI 0) (nI (tS N)) (nI P.length) (mn2) bd br (nI n) tr → mRo h1 m → mOr h1 m → Ev X (mi_X12_mind 4 0 0) (Qi (fun r S' => r = aMind B e x ∧ S'.2 = z ∧ hfr h S'.1 m 17 ∧ pM S'.1 m cs B N P I J wn op n tr)) 0 0 (h1, z) 34 [.ref m, .int (nI e), .int x, .int (leI B e (offN B k)), .int (foI B e (offN B k)), .int (nI k), vm, v7, v8, v9] [] := by
    intro e9
    induction e9 with
    | zero =>
      intro k h1 v7 v8 v9 vm mn2 hk iv f1 o1 r1 q1
      have o1' := o1
      unfold pMO at o1'
      have ek : k = bT B + 1 := by omega
      subst ek
      (try rw [offN_all] at iv)
      (try rw [offN_all])
      have ea : aMind B e x = if x.toInt = 0 then leI B e (nW B) else foI B e (nW B) := by
        unfold aMind minI leI foI
        cases (miX (fun i => decide (e ≤ (outW B (rW B i)).length)) (fun i => moN (outW B (rW B i)) e) (nW B)).1 with
        | none => dsimp only; split <;> rfl
        | some j => rfl
      refine ev_iload (pc := 34) dX12_mind_34 rfl ?_
      refine ev_aload_n (pc := 36) dX12_mind_36 rfl ?_
      refine gf_X12_137 (pc := 37) rfl dX12_mind_37 (by (try dsimp only); (repeat (first | rw [up_s] | rw [up_n (by omega)])) <;> first | rfl | assumption) ?_
      refine ev_icmp_gt (pc := 40) 161 dX12_mind_40 (by decide) (fun c_40 => ?_) (fun c_40 => ?_)
      · (try simp (disch := omega) only [i32_lti, i32_lei, i32_eqi, nI_toInt, i32z] at c_40)
        refine ev_iload_n (pc := 161) dX12_mind_161 rfl ?_
        refine ev_if_ne (pc := 162) 169 dX12_mind_162 (by decide) (fun c_162 => ?_) (fun c_162 => ?_)
        · (try simp (disch := omega) only [i32_lti, i32_lei, i32_eqi, nI_toInt, i32z] at c_162)
          refine ev_iload (pc := 169) dX12_mind_169 rfl ?_
          refine ev_iret (pc := 171) dX12_mind_171 rfl rfl (Nat.le_of_ble_eq_true rfl) (Nat.le_of_ble_eq_true rfl) ?_
          first | exact ⟨_, rfl, by rw [ea, if_pos c_162], rfl, (fun q a => f1 q (by omega) (by omega) (by omega)), p.fs f1 ⟨at_, bg, tk, td, rt, rn, rm, rd, _, bd, br, o1⟩ r1 q1⟩ | exact ⟨_, rfl, by rw [ea, if_neg c_162], rfl, (fun q a => f1 q (by omega) (by omega) (by omega)), p.fs f1 ⟨at_, bg, tk, td, rt, rn, rm, rd, _, bd, br, o1⟩ r1 q1⟩
        · (try simp (disch := omega) only [i32_lti, i32_lei, i32_eqi, nI_toInt, i32z] at c_162)
          refine ev_iload_n (pc := 165) dX12_mind_165 rfl ?_
          refine ev_goto (pc := 166) 171 dX12_mind_166 (by decide) ?_
          refine ev_iret (pc := 171) dX12_mind_171 rfl rfl (Nat.le_of_ble_eq_true rfl) (Nat.le_of_ble_eq_true rfl) ?_
          first | exact ⟨_, rfl, by rw [ea, if_pos c_162], rfl, (fun q a => f1 q (by omega) (by omega) (by omega)), p.fs f1 ⟨at_, bg, tk, td, rt, rn, rm, rd, _, bd, br, o1⟩ r1 q1⟩ | exact ⟨_, rfl, by rw [ea, if_neg c_162], rfl, (fun q a => f1 q (by omega) (by omega) (by omega)), p.fs f1 ⟨at_, bg, tk, td, rt, rn, rm, rd, _, bd, br, o1⟩ r1 q1⟩
      · exfalso; (try simp (disch := omega) only [i32_lti, i32_lei, i32_eqi, nI_toInt, i32z] at c_40); omega
    | succ e9 ihE =>
      intro k h1 v7 v8 v9 vm mn2 hk iv f1 o1 r1 q1
      have hkn : k ≤ bT B := by omega
      have inner : ∀ (c i : Nat) (w : List Nat) (h2 : Hp) (v7 v8 v9 : Value) , i + c = (lev (bT B) k).length → (lev (bT B) k)[i]? = some w → True → mFs h h2 m → pMO h2 m (nI cs.length) at_ bg tk td rt rn rm rd (nI (bT B)) (nI (bK B)) (nI (bM B)) (nI (bD B)) (nI 0) (nI (tS N)) (nI P.length) (nI k) bd br (nI n) tr → mRo h2 m → mOr h2 m → mOd h2 m w → Ev X (mi_X12_mind 4 0 0) (Qi (fun r S' => r = aMind B e x ∧ S'.2 = z ∧ hfr h S'.1 m 17 ∧ pM S'.1 m cs B N P I J wn op n tr)) 0 0 (h2, z) 51 [.ref m, .int (nI e), .int x, .int (leI B e (offN B k + i)), .int (foI B e (offN B k + i)), .int (nI k), .int (nI 1), v7, v8, v9] [] := by
        intro c
        induction c with
        | zero =>
          intro i w h2 v7 v8 v9 hc hi iv
          rw [List.getElem?_eq_none (by omega)] at hi
          cases hi
        | succ c ihC =>
          intro i w h2 v7 v8 v9 hc hi iv f2 o2 r2 q2 d2
          obtain ⟨eW, hI, hl, hnd, hwn, hil⟩ := rW_lev hkn hi
          have hnx := lev_next (bT B) k hkn i w hi
          have h30 := (out30 b9 (by omega) hwn).1
          have o2k : pMO h2 m (nI cs.length) at_ bg tk td rt rn rm rd (nI (bT B)) (nI (bK B)) (nI (bM B)) (nI (bD B)) (nI 0) (nI (tS N)) (nI P.length) (nI w.length) bd br (nI n) tr := by rw [hl]; exact o2
          have o2' := o2k
          unfold pMO at o2'
          obtain ⟨fo, d21, d22⟩ := id d2
          obtain ⟨oa, ob, oc, q21, q22, q23⟩ := id q2
          have pb2 : mBk h2 m B (nI 0) := pb.fr (fun q a b => f2 q (by omega) (by omega) (by omega))
          have next : ∀ (h3 : Hp) (v7 v8 v9 : Value) , True → mFs h h3 m → pMO h3 m (nI cs.length) at_ bg tk td rt rn rm rd (nI (bT B)) (nI (bK B)) (nI (bM B)) (nI (bD B)) (nI 0) (nI (tS N)) (nI P.length) (nI w.length) bd br (nI n) tr → mRo h3 m → mOr h3 m → mOd h3 m w → Ev X (mi_X12_mind 4 0 0) (Qi (fun r S' => r = aMind B e x ∧ S'.2 = z ∧ hfr h S'.1 m 17 ∧ pM S'.1 m cs B N P I J wn op n tr)) 0 0 (h3, z) 146 [.ref m, .int (nI e), .int x, .int (leI B e (offN B k + i + 1)), .int (foI B e (offN B k + i + 1)), .int (nI k), .int (nI 1), v7, v8, v9] [] := by
            intro h3 v7 v8 v9 iv f3 o3k r3 q3 d3
            have o3' := o3k
            unfold pMO at o3'
            obtain ⟨oa, ob, oc, q31, q32, q33⟩ := id q3
            cases e9 : nxL (bT B) w.length w with
            | none =>
              have hend : (lev (bT B) k)[i + 1]? = none := by rw [hnx, ← hl]; exact e9
              have hlen : (lev (bT B) k).length = i + 1 := by have := List.getElem?_eq_none_iff.mp hend; omega
              have eo : offN B (k + 1) = offN B k + i + 1 := by rw [offN_s]; omega
              (try rw [← eo])
              refine ev_aload_n (pc := 146) dX12_mind_146 rfl ?_
              refine iv_X12_225 (pc := 147) rfl dX12_mind_147 (by (try dsimp only); (repeat (first | rw [up_s] | rw [up_n (by omega)])) <;> first | rfl | assumption) (Nat.le_of_ble_eq_true rfl) (Nat.le_of_ble_eq_true rfl) (Nat.le_of_ble_eq_true rfl) (Nat.le_of_ble_eq_true rfl) (c_mTurns o3k h6 d3 (by omega) hnd hwn) (ki (fun r S' hS => ?_))
              obtain ⟨h4, z'⟩ := S'
              obtain ⟨rfl, rfl, f4, ⟨fo4, d4⟩, -⟩ := hS
              rw [e9]
              have o4 := (f4 m (by omega)).trans o3'
              refine ev_istore (pc := 150) (L' := [_, _, _, _, _, _, _, _, _, _]) dX12_mind_150 (Nat.le_of_ble_eq_true rfl) rfl ?_
              refine ev_goto (pc := 152) 51 dX12_mind_152 (by decide) ?_
              refine ev_iload (pc := 51) dX12_mind_51 rfl ?_
              refine ev_if_eq (pc := 53) 155 dX12_mind_53 (by decide) (fun c_53 => ?_) (fun c_53 => ?_)
              · (try simp (disch := omega) only [i32_lti, i32_lei, i32_eqi, nI_toInt, i32z] at c_53)
                refine ev_iinc (pc := 155) (L' := [_, _, _, _, _, _, _, _, _, _]) dX12_mind_155 rfl (nI_1 _) rfl ?_
                refine ev_goto (pc := 158) 34 dX12_mind_158 (by decide) ?_
                exact ihE (k + 1) h4 _ _ _ _ _ (by omega) (by (try rw [eo]); exact iv) (fun q a b c => (f4 q (by omega)).trans (f3 q a b c)) (by unfold pMO; exact o4) (r3.fr (f4 _ (by omega))) ⟨fo4, ob, oc, d4, (f4 _ (by omega)).trans q32, (f4 _ (by omega)).trans q33⟩
              · exact absurd rfl c_53
            | some w' =>
              have hi2 : (lev (bT B) k)[i + 1]? = some w' := by rw [hnx, ← hl]; exact e9
              rw [hl] at o3'
              refine ev_aload_n (pc := 146) dX12_mind_146 rfl ?_
              refine iv_X12_225 (pc := 147) rfl dX12_mind_147 (by (try dsimp only); (repeat (first | rw [up_s] | rw [up_n (by omega)])) <;> first | rfl | assumption) (Nat.le_of_ble_eq_true rfl) (Nat.le_of_ble_eq_true rfl) (Nat.le_of_ble_eq_true rfl) (Nat.le_of_ble_eq_true rfl) (c_mTurns o3k h6 d3 (by omega) hnd hwn) (ki (fun r S' hS => ?_))
              obtain ⟨h4, z'⟩ := S'
              obtain ⟨rfl, rfl, f4, -, d4⟩ := hS
              rw [e9]
              have o4 := (f4 m (by omega)).trans o3'
              have d4 := d4 w' e9
              refine ev_istore (pc := 150) (L' := [_, _, _, _, _, _, _, _, _, _]) dX12_mind_150 (Nat.le_of_ble_eq_true rfl) rfl ?_
              refine ev_goto (pc := 152) 51 dX12_mind_152 (by decide) ?_
              exact ihC (i + 1) w' h4 _ _ _ (by omega) hi2 iv (fun q a b c => (f4 q (by omega)).trans (f3 q a b c)) o4 (r3.fr (f4 _ (by omega))) ⟨d4.choose, ob, oc, d4.choose_spec.1, (f4 _ (by omega)).trans q32, (f4 _ (by omega)).trans q33⟩ d4
          obtain ⟨ms1, ms2, ms3⟩ := miI_step B e (offN B k + i)
          rw [eW] at ms1 ms2 ms3
          have m6 := moN_le (outW B w) e
          have notIs : ∀ (h3 : Hp), ¬ e ≤ (outW B w).length → mFs h h3 m → pMO h3 m (nI cs.length) at_ bg tk td rt rn rm rd (nI (bT B)) (nI (bK B)) (nI (bM B)) (nI (bD B)) (nI 0) (nI (tS N)) (nI P.length) (nI w.length) bd br (nI n) tr → mRo h3 m → mOr h3 m → mOd h3 m w → Ev X (mi_X12_mind 4 0 0) (Qi (fun r S' => r = aMind B e x ∧ S'.2 = z ∧ hfr h S'.1 m 17 ∧ pM S'.1 m cs B N P I J wn op n tr)) 0 0 (h3, z) 77 [.ref m, .int (nI e), .int x, .int (leI B e (offN B k + i)), .int (foI B e (offN B k + i)), .int (nI k), .int (nI 1), .int (nI 0), .int (nI 0), .int (nI 0)] [] := by
            intro h3 hn f3 o3 r3 q3 d3
            obtain ⟨kl, kf⟩ := ms1 hn
            have nx := next h3 (.int (nI 0)) (.int (nI 0)) (.int (nI 0)) trivial f3 o3 r3 q3 d3
            rw [kl, kf] at nx
            refine ev_iload (pc := 77) dX12_mind_77 rfl ?_
            refine ev_iload_n (pc := 79) dX12_mind_79 rfl ?_
            refine ev_icmp_ge (pc := 80) 120 dX12_mind_80 (by decide) (fun c_80 => ?_) (fun c_80 => ?_)
            · (try simp (disch := omega) only [i32_lti, i32_lei, i32_eqi, nI_toInt, i32z] at c_80)
              refine ev_iload (pc := 120) dX12_mind_120 rfl ?_
              refine ev_if_eq (pc := 122) 146 dX12_mind_122 (by decide) (fun c_122 => ?_) (fun c_122 => ?_)
              · (try simp (disch := omega) only [i32_lti, i32_lei, i32_eqi, nI_toInt, i32z] at c_122)
                exact nx
              · exact absurd rfl c_122
            · (try simp (disch := omega) only [i32_lti, i32_lei, i32_eqi, nI_toInt, i32z] at c_80)
              refine ev_iload (pc := 83) dX12_mind_83 rfl ?_
              refine ev_if_eq (pc := 85) 120 dX12_mind_85 (by decide) (fun c_85 => ?_) (fun c_85 => ?_)
              · (try simp (disch := omega) only [i32_lti, i32_lei, i32_eqi, nI_toInt, i32z] at c_85)
                refine ev_iload (pc := 120) dX12_mind_120 rfl ?_
                refine ev_if_eq (pc := 122) 146 dX12_mind_122 (by decide) (fun c_122 => ?_) (fun c_122 => ?_)
                · (try simp (disch := omega) only [i32_lti, i32_lei, i32_eqi, nI_toInt, i32z] at c_122)
                  exact nx
                · exact absurd rfl c_122
              · exact absurd rfl c_85
          have mid : ∀ (h3 : Hp), e ≤ (outW B w).length → mFs h h3 m → pMO h3 m (nI cs.length) at_ bg tk td rt rn rm rd (nI (bT B)) (nI (bK B)) (nI (bM B)) (nI (bD B)) (nI 0) (nI (tS N)) (nI P.length) (nI w.length) bd br (nI n) tr → mRo h3 m → mOr h3 m → mOd h3 m w → (∃ g3 : Nat → Int32, h3 (m + 12) = some (.inr (0, .inl (ar 30 g3))) ∧ ∀ j : Nat, j < e → g3 j = nI (popN (gN (outW B w) j))) → Ev X (mi_X12_mind 4 0 0) (Qi (fun r S' => r = aMind B e x ∧ S'.2 = z ∧ hfr h S'.1 m 17 ∧ pM S'.1 m cs B N P I J wn op n tr)) 0 0 (h3, z) 77 [.ref m, .int (nI e), .int x, .int (leI B e (offN B k + i)), .int (foI B e (offN B k + i)), .int (nI k), .int (nI 1), .int (nI 1), .int (nI 0), .int (nI 0)] [] := by
            intro h3 hy f3 o3 r3 q3 d3 g3
            obtain ⟨g3, y1, y3⟩ := g3
            have o3' := o3
            unfold pMO at o3'
            have loop : ∀ (c j : Nat), j + c = e → Ev X (mi_X12_mind 4 0 0) (Qi (fun r S' => r = aMind B e x ∧ S'.2 = z ∧ hfr h S'.1 m 17 ∧ pM S'.1 m cs B N P I J wn op n tr)) 0 0 (h3, z) 77 [.ref m, .int (nI e), .int x, .int (leI B e (offN B k + i)), .int (foI B e (offN B k + i)), .int (nI k), .int (nI 1), .int (nI 1), .int (nI (moN (outW B w) j)), .int (nI j)] [] := by
              intro c
              induction c with
              | zero =>
                intro j hj
                have ej : j = e := by omega
                subst ej
                have nx := next h3 (.int (nI 1)) (.int (nI (moN (outW B w) j))) (.int (nI j)) trivial f3 o3 r3 q3 d3
                refine ev_iload (pc := 77) dX12_mind_77 rfl ?_
                refine ev_iload_n (pc := 79) dX12_mind_79 rfl ?_
                refine ev_icmp_ge (pc := 80) 120 dX12_mind_80 (by decide) (fun c_80 => ?_) (fun c_80 => ?_)
                · (try simp (disch := omega) only [i32_lti, i32_lei, i32_eqi, nI_toInt, i32z] at c_80)
                  refine ev_iload (pc := 120) dX12_mind_120 rfl ?_
                  refine ev_if_eq (pc := 122) 146 dX12_mind_122 (by decide) (fun c_122 => ?_) (fun c_122 => ?_)
                  · exact absurd c_122 (by decide)
                  · (try simp (disch := omega) only [i32_lti, i32_lei, i32_eqi, nI_toInt, i32z] at c_122)
                    refine ev_iload_n (pc := 125) dX12_mind_125 rfl ?_
                    refine ev_bipush (pc := 126) (v := (-9)) dX12_mind_126 kb_m9 ?_
                    refine ev_icmp_eq (pc := 128) 137 dX12_mind_128 (by decide) (fun c_128 => ?_) (fun c_128 => ?_)
                    · skip
                      obtain ⟨kl, kf⟩ := ms2 hy (Or.inl c_128)
                      refine ev_iload (pc := 137) dX12_mind_137 rfl ?_
                      refine ev_istore_n (pc := 139) (L' := [_, _, _, _, _, _, _, _, _, _]) dX12_mind_139 (Nat.le_of_ble_eq_true rfl) rfl ?_
                      refine ev_aload_n (pc := 140) dX12_mind_140 rfl ?_
                      refine iv_X12_222 (pc := 141) rfl dX12_mind_141 (by (try dsimp only); (repeat (first | rw [up_s] | rw [up_n (by omega)])) <;> first | rfl | assumption) (Nat.le_of_ble_eq_true rfl) (Nat.le_of_ble_eq_true rfl) (Nat.le_of_ble_eq_true rfl) (Nat.le_of_ble_eq_true rfl) (c_mCode o3 d3 (fun x hx => by have := hwn x hx; omega) (by omega)) (kp ?_)
                      refine ev_istore (pc := 144) (L' := [_, _, _, _, _, _, _, _, _, _]) dX12_mind_144 (Nat.le_of_ble_eq_true rfl) rfl ?_
                      rw [kl, kf] at nx; exact nx
                    · skip
                      refine ev_iload (pc := 131) dX12_mind_131 rfl ?_
                      refine ev_iload_n (pc := 133) dX12_mind_133 rfl ?_
                      refine ev_icmp_ge (pc := 134) 146 dX12_mind_134 (by decide) (fun c_134 => ?_) (fun c_134 => ?_)
                      · (try simp (disch := omega) only [i32_lti, i32_lei, i32_eqi, nI_toInt, i32z] at c_134)
                        obtain ⟨kl, kf⟩ := ms3 hy c_128 (by omega)
                        rw [kl, kf] at nx; exact nx
                      · (try simp (disch := omega) only [i32_lti, i32_lei, i32_eqi, nI_toInt, i32z] at c_134)
                        obtain ⟨kl, kf⟩ := ms2 hy (Or.inr (by omega))
                        refine ev_iload (pc := 137) dX12_mind_137 rfl ?_
                        refine ev_istore_n (pc := 139) (L' := [_, _, _, _, _, _, _, _, _, _]) dX12_mind_139 (Nat.le_of_ble_eq_true rfl) rfl ?_
                        refine ev_aload_n (pc := 140) dX12_mind_140 rfl ?_
                        refine iv_X12_222 (pc := 141) rfl dX12_mind_141 (by (try dsimp only); (repeat (first | rw [up_s] | rw [up_n (by omega)])) <;> first | rfl | assumption) (Nat.le_of_ble_eq_true rfl) (Nat.le_of_ble_eq_true rfl) (Nat.le_of_ble_eq_true rfl) (Nat.le_of_ble_eq_true rfl) (c_mCode o3 d3 (fun x hx => by have := hwn x hx; omega) (by omega)) (kp ?_)
                        refine ev_istore (pc := 144) (L' := [_, _, _, _, _, _, _, _, _, _]) dX12_mind_144 (Nat.le_of_ble_eq_true rfl) rfl ?_
                        rw [kl, kf] at nx; exact nx
                · exfalso; (try simp (disch := omega) only [i32_lti, i32_lei, i32_eqi, nI_toInt, i32z] at c_80); omega
              | succ c ih =>
                intro j hj
                have mj := moN_le (outW B w) j
                have pj := popN_le (gN (outW B w) j)
                have em : moN (outW B w) (j + 1) = max (moN (outW B w) j) (popN (gN (outW B w) j)) := rfl
                have q := ih (j + 1) (by omega)
                rw [em] at q
                refine ev_iload (pc := 77) dX12_mind_77 rfl ?_
                refine ev_iload_n (pc := 79) dX12_mind_79 rfl ?_
                refine ev_icmp_ge (pc := 80) 120 dX12_mind_80 (by decide) (fun c_80 => ?_) (fun c_80 => ?_)
                · exfalso; (try simp (disch := omega) only [i32_lti, i32_lei, i32_eqi, nI_toInt, i32z] at c_80); omega
                · (try simp (disch := omega) only [i32_lti, i32_lei, i32_eqi, nI_toInt, i32z] at c_80)
                  refine ev_iload (pc := 83) dX12_mind_83 rfl ?_
                  refine ev_if_eq (pc := 85) 120 dX12_mind_85 (by decide) (fun c_85 => ?_) (fun c_85 => ?_)
                  · exact absurd c_85 (by decide)
                  · (try simp (disch := omega) only [i32_lti, i32_lei, i32_eqi, nI_toInt, i32z] at c_85)
                    refine ev_aload_n (pc := 88) dX12_mind_88 rfl ?_
                    refine gf_X12_43 (pc := 89) rfl dX12_mind_89 (by (try dsimp only); (repeat (first | rw [up_s] | rw [up_n (by omega)])) <;> first | rfl | assumption) ?_
                    refine ev_iload (pc := 92) dX12_mind_92 rfl ?_
                    refine ev_iald (pc := 94) dX12_mind_94 (by (try dsimp only); (repeat (first | rw [up_s] | rw [up_n (by omega)])) <;> first | rfl | assumption) (nI_toInt (by omega)) (xg (by omega) (y3 j (by omega))) ?_
                    refine ev_iload (pc := 95) dX12_mind_95 rfl ?_
                    refine ev_icmp_le (pc := 97) 110 dX12_mind_97 (by decide) (fun c_97 => ?_) (fun c_97 => ?_)
                    · (try simp (disch := omega) only [i32_lti, i32_lei, i32_eqi, nI_toInt, i32z] at c_97)
                      rw [show max (moN (outW B w) j) (popN (gN (outW B w) j)) = moN (outW B w) j by omega] at q
                      refine ev_iload (pc := 110) dX12_mind_110 rfl ?_
                      refine ev_istore (pc := 112) (L' := [_, _, _, _, _, _, _, _, _, _]) dX12_mind_112 (Nat.le_of_ble_eq_true rfl) rfl ?_
                      refine ev_iinc (pc := 114) (L' := [_, _, _, _, _, _, _, _, _, _]) dX12_mind_114 rfl (nI_1 _) rfl ?_
                      refine ev_goto (pc := 117) 77 dX12_mind_117 (by decide) ?_
                      exact q
                    · (try simp (disch := omega) only [i32_lti, i32_lei, i32_eqi, nI_toInt, i32z] at c_97)
                      rw [show max (moN (outW B w) j) (popN (gN (outW B w) j)) = popN (gN (outW B w) j) by omega] at q
                      refine ev_aload_n (pc := 100) dX12_mind_100 rfl ?_
                      refine gf_X12_43 (pc := 101) rfl dX12_mind_101 (by (try dsimp only); (repeat (first | rw [up_s] | rw [up_n (by omega)])) <;> first | rfl | assumption) ?_
                      refine ev_iload (pc := 104) dX12_mind_104 rfl ?_
                      refine ev_iald (pc := 106) dX12_mind_106 (by (try dsimp only); (repeat (first | rw [up_s] | rw [up_n (by omega)])) <;> first | rfl | assumption) (nI_toInt (by omega)) (xg (by omega) (y3 j (by omega))) ?_
                      refine ev_goto (pc := 107) 112 dX12_mind_107 (by decide) ?_
                      refine ev_istore (pc := 112) (L' := [_, _, _, _, _, _, _, _, _, _]) dX12_mind_112 (Nat.le_of_ble_eq_true rfl) rfl ?_
                      refine ev_iinc (pc := 114) (L' := [_, _, _, _, _, _, _, _, _, _]) dX12_mind_114 rfl (nI_1 _) rfl ?_
                      refine ev_goto (pc := 117) 77 dX12_mind_117 (by decide) ?_
                      exact q
            exact loop e 0 (by omega)
          refine ev_iload (pc := 51) dX12_mind_51 rfl ?_
          refine ev_if_eq (pc := 53) 155 dX12_mind_53 (by decide) (fun c_53 => ?_) (fun c_53 => ?_)
          · exact absurd c_53 (by decide)
          · (try simp (disch := omega) only [i32_lti, i32_lei, i32_eqi, nI_toInt, i32z] at c_53)
            refine ev_aload_n (pc := 56) dX12_mind_56 rfl ?_
            refine iv_X12_203 (pc := 57) rfl dX12_mind_57 (by (try dsimp only); (repeat (first | rw [up_s] | rw [up_n (by omega)])) <;> first | rfl | assumption) (Nat.le_of_ble_eq_true rfl) (Nat.le_of_ble_eq_true rfl) (Nat.le_of_ble_eq_true rfl) (Nat.le_of_ble_eq_true rfl) (c_mSaves (w := w) o2k pb2 b9 hmx d21 d22 hwn (by omega) r2 ⟨ob, oc, q22, q23⟩) (ki (fun r S' hS => ?_))
            obtain ⟨h3, z'⟩ := S'
            obtain ⟨rfl, rfl, f3, r3, g3, k3, y1, y2, y3⟩ := hS
            have o3k : pMO h3 m (nI cs.length) at_ bg tk td rt rn rm rd (nI (bT B)) (nI (bK B)) (nI (bM B)) (nI (bD B)) (nI 0) (nI (tS N)) (nI P.length) (nI w.length) bd br (nI n) tr := (f3 m (by omega) (by omega) (by omega)).trans o2k
            have o3' := o3k
            unfold pMO at o3'
            have d3 : mOd h3 m w := ⟨fo, (f3 _ (by omega) (by omega) (by omega)).trans d21, d22⟩
            have d31 := (f3 (m + 11) (by omega) (by omega) (by omega)).trans d21
            have f13 : mFs h h3 m := fun q a b c => (f3 q b (by omega) (by omega)).trans (f2 q a b c)
            have nx := fun v7 v8 v9 iv => next h3 v7 v8 v9 iv f13 o3k r3 ⟨fo, g3, k3, (f3 _ (by omega) (by omega) (by omega)).trans d21, y1, y2⟩ d3
            refine ev_iload_n (pc := 60) dX12_mind_60 rfl ?_
            refine ev_icmp_lt (pc := 61) 68 dX12_mind_61 (by decide) (fun c_61 => ?_) (fun c_61 => ?_)
            · (try simp (disch := omega) only [i32_lti, i32_lei, i32_eqi, nI_toInt, i32z] at c_61)
              obtain ⟨kl, kf⟩ := ms1 (by omega)
              refine ev_iconst (pc := 68) (v := nI 0) dX12_mind_68 kc_0 ?_
              refine ev_istore (pc := 69) (L' := [_, _, _, _, _, _, _, _, _, _]) dX12_mind_69 (Nat.le_of_ble_eq_true rfl) rfl ?_
              refine ev_iconst (pc := 71) (v := nI 0) dX12_mind_71 kc_0 ?_
              refine ev_istore (pc := 72) (L' := [_, _, _, _, _, _, _, _, _, _]) dX12_mind_72 (Nat.le_of_ble_eq_true rfl) rfl ?_
              refine ev_iconst (pc := 74) (v := nI 0) dX12_mind_74 kc_0 ?_
              refine ev_istore (pc := 75) (L' := [_, _, _, _, _, _, _, _, _, _]) dX12_mind_75 (Nat.le_of_ble_eq_true rfl) rfl ?_
              first
              | exact mid h3 (by omega) f13 o3k r3 ⟨fo, g3, k3, d31, y1, y2⟩ d3 ⟨g3, y1, fun j hj => (y3 j (by omega)).1⟩
              | exact notIs h3 (by omega) f13 o3k r3 ⟨fo, g3, k3, d31, y1, y2⟩ d3
            · (try simp (disch := omega) only [i32_lti, i32_lei, i32_eqi, nI_toInt, i32z] at c_61)
              refine ev_iconst (pc := 64) (v := nI 1) dX12_mind_64 kc_1 ?_
              refine ev_goto (pc := 65) 69 dX12_mind_65 (by decide) ?_
              refine ev_istore (pc := 69) (L' := [_, _, _, _, _, _, _, _, _, _]) dX12_mind_69 (Nat.le_of_ble_eq_true rfl) rfl ?_
              refine ev_iconst (pc := 71) (v := nI 0) dX12_mind_71 kc_0 ?_
              refine ev_istore (pc := 72) (L' := [_, _, _, _, _, _, _, _, _, _]) dX12_mind_72 (Nat.le_of_ble_eq_true rfl) rfl ?_
              refine ev_iconst (pc := 74) (v := nI 0) dX12_mind_74 kc_0 ?_
              refine ev_istore (pc := 75) (L' := [_, _, _, _, _, _, _, _, _, _]) dX12_mind_75 (Nat.le_of_ble_eq_true rfl) rfl ?_
              first
              | exact mid h3 (by omega) f13 o3k r3 ⟨fo, g3, k3, d31, y1, y2⟩ d3 ⟨g3, y1, fun j hj => (y3 j (by omega)).1⟩
              | exact notIs h3 (by omega) f13 o3k r3 ⟨fo, g3, k3, d31, y1, y2⟩ d3
      have o1' := o1
      unfold pMO at o1'
      have hh := lev_head (bT B) k hkn
      have hlp : 0 < (lev (bT B) k).length := by
        rcases Nat.eq_zero_or_pos (lev (bT B) k).length with q | q
        · rw [List.getElem?_eq_none (by omega)] at hh; cases hh
        · exact q
      obtain ⟨oa, ob, oc, q11, q12, q13⟩ := id q1
      refine ev_iload (pc := 34) dX12_mind_34 rfl ?_
      refine ev_aload_n (pc := 36) dX12_mind_36 rfl ?_
      refine gf_X12_137 (pc := 37) rfl dX12_mind_37 (by (try dsimp only); (repeat (first | rw [up_s] | rw [up_n (by omega)])) <;> first | rfl | assumption) ?_
      refine ev_icmp_gt (pc := 40) 161 dX12_mind_40 (by decide) (fun c_40 => ?_) (fun c_40 => ?_)
      · exfalso; (try simp (disch := omega) only [i32_lti, i32_lei, i32_eqi, nI_toInt, i32z] at c_40); omega
      · (try simp (disch := omega) only [i32_lti, i32_lei, i32_eqi, nI_toInt, i32z] at c_40)
        refine ev_aload_n (pc := 43) dX12_mind_43 rfl ?_
        refine ev_iload (pc := 44) dX12_mind_44 rfl ?_
        refine iv_X12_219 (pc := 46) rfl dX12_mind_46 (by (try dsimp only); (repeat (first | rw [up_s] | rw [up_n (by omega)])) <;> first | rfl | assumption) (Nat.le_of_ble_eq_true rfl) (Nat.le_of_ble_eq_true rfl) (Nat.le_of_ble_eq_true rfl) (Nat.le_of_ble_eq_true rfl) (c_mStarts (n := bT B) o1 h6 hkn ⟨oa, q11⟩) (ki (fun r S' hS => ?_))
        obtain ⟨h2, z'⟩ := S'
        obtain ⟨rfl, rfl, f2, o2, d2⟩ := hS
        refine ev_istore (pc := 49) (L' := [_, _, _, _, _, _, _, _, _, _]) dX12_mind_49 (Nat.le_of_ble_eq_true rfl) rfl ?_
        exact inner (lev (bT B) k).length 0 (rf (bT B) k []) h2 _ _ _ (by omega) hh iv (fun q a b c => (f2 q a (by omega)).trans (f1 q a b c)) o2 (r1.fr (f2 _ (by omega) (by omega))) ⟨d2.choose, ob, oc, d2.choose_spec.1, (f2 _ (by omega) (by omega)).trans q12, (f2 _ (by omega) (by omega)).trans q13⟩ d2
  refine ev_iload_n (pc := 0) dX12_mind_0 rfl ?_
  refine ev_i2l (pc := 1) dX12_mind_1 ?_
  refine ev_lconst (pc := 2) (v := 1) dX12_mind_2 kl_1 ?_
  refine ev_ldc2_w (pc := 3) dX12_mind_3 tw_1126 ?_
  refine iv_X12_63 (pc := 6) rfl dX12_mind_6 (Nat.le_of_ble_eq_true rfl) (Nat.le_of_ble_eq_true rfl) (Nat.le_of_ble_eq_true rfl) (Nat.le_of_ble_eq_true rfl) (c_in _ _ _) (kp ?_)
  rw [in_t (a := 1) (b := 30) (by omega) (by omega) _ _ rfl rfl]
  refine ev_if_eq (pc := 9) 22 dX12_mind_9 (by decide) (fun c_9 => ?_) (fun c_9 => ?_)
  · exact absurd c_9 (by decide)
  · (try simp (disch := omega) only [i32_lti, i32_lei, i32_eqi, nI_toInt, i32z] at c_9)
    refine ev_iload_n (pc := 12) dX12_mind_12 rfl ?_
    refine ev_i2l (pc := 13) dX12_mind_13 ?_
    refine ev_lconst (pc := 14) (v := 0) dX12_mind_14 kl_0 ?_
    refine ev_lconst (pc := 15) (v := 1) dX12_mind_15 kl_1 ?_
    refine iv_X12_63 (pc := 16) rfl dX12_mind_16 (Nat.le_of_ble_eq_true rfl) (Nat.le_of_ble_eq_true rfl) (Nat.le_of_ble_eq_true rfl) (Nat.le_of_ble_eq_true rfl) (c_in _ _ _) (kp ?_)
    rw [show decide ((0 : Int64).toInt ≤ x.toInt64.toInt ∧ x.toInt64.toInt ≤ (1 : Int64).toInt) = true from decide_eq_true (by rw [Int32.toInt_toInt64]; show 0 ≤ x.toInt ∧ x.toInt ≤ 1; omega)]
    refine ev_if_ne (pc := 19) 24 dX12_mind_19 (by decide) (fun c_19 => ?_) (fun c_19 => ?_)
    · (try simp (disch := omega) only [i32_lti, i32_lei, i32_eqi, nI_toInt, i32z] at c_19)
      refine ev_bipush (pc := 24) (v := (-9)) dX12_mind_24 kb_m9 ?_
      refine ev_istore_n (pc := 26) (L' := [_, _, _, _, _, _, _, _, _, _]) dX12_mind_26 (Nat.le_of_ble_eq_true rfl) rfl ?_
      refine ev_bipush (pc := 27) (v := (-9)) dX12_mind_27 kb_m9 ?_
      refine ev_istore (pc := 29) (L' := [_, _, _, _, _, _, _, _, _, _]) dX12_mind_29 (Nat.le_of_ble_eq_true rfl) rfl ?_
      refine ev_iconst (pc := 31) (v := nI 0) dX12_mind_31 kc_0 ?_
      refine ev_istore (pc := 32) (L' := [_, _, _, _, _, _, _, _, _, _]) dX12_mind_32 (Nat.le_of_ble_eq_true rfl) rfl ?_
      exact outer (bT B + 1) 0 h _ _ _ _ _ (by omega) trivial (fun _ _ _ _ => rfl) po pq por
    · exact absurd c_19 (by decide)
end MFEW
