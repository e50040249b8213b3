/-! ===== the model: bars, orders, surely ===== -/
theorem alX_63 (P : Nat → Bool) (M : Nat → Nat) : ∀ n : Nat, (alX P M n).1 = false → (alX P M n).2 = 63
  | 0, _ => rfl
  | n + 1, h => by
    simp only [alX] at h ⊢
    split at h
    · cases h
    · next q => rw [if_neg q]; exact alX_63 P M n h
theorem fiX_none (P : Nat → Bool) : ∀ (n i : Nat), (∀ j : Nat, i ≤ j → j < i + n → P j = false) → fiX P n i = none
  | 0, i, h => rfl
  | n + 1, i, h => by
    simp only [fiX]
    rw [h i (Nat.le_refl _) (by omega), if_neg (by decide)]
    exact fiX_none P n (i + 1) (fun j h1 h2 => h j (by omega) (by omega))
theorem m1_and : ∀ m, m < 64 → (-1 : Int32) &&& nI m = nI m := by decide +kernel
theorem n63_and : ∀ m, m < 64 → 63 &&& m = m := by decide +kernel
def alV (B : Bk) (e i : Nat) : Int32 := if (alX (fun i => decide (e ≤ (outW B (rW B i)).length)) (fun i => mk (rW B i)) i).1 = true then nI (alX (fun i => decide (e ≤ (outW B (rW B i)).length)) (fun i => mk (rW B i)) i).2 else -1
theorem fN_lev (B : Bk) : fN B = (lev (bT B) (bT B)).length := by
  have := offN_s B (bT B)
  rw [offN_all] at this
  unfold fN
  show nW B - offN B (bT B) = _
  omega
theorem fW_mem (B : Bk) (k : Nat) : ∀ t ∈ fW B k, t < bT B := by
  intro t ht
  unfold fW rW at ht
  by_cases hi : (preW (bT B) (bT B)).length + k < (allW (bT B) (bT B)).length
  · exact (allW_mem (List.mem_of_getElem? (gW_get hi))).2.2 t ht
  · have e : gW (allW (bT B) (bT B)) ((preW (bT B) (bT B)).length + k) = [] := by
      unfold gW
      rw [List.getD_eq_getElem?_getD, List.getElem?_eq_none (by omega)]
      rfl
    rw [e] at ht
    cases ht
section MBARS
variable {X : Cx} {h : Hp} {z m n mx : Nat} {cs : List Nat} {B : Bk} {N : Tl} {P : List Tl} {I J : Im} {wn op : List Nat} {tr : Int64}
theorem c_M_bars (p : pM h m cs B N P I J wn op n tr) (b9 : wB mx B) (hmx : mx ≤ 10) {e : Nat} (h1e : 1 ≤ e) (he30 : e ≤ 30) : Ct X 4 mt_X12_bars [.ref m, .int (nI e)] (h, z) 0 0 (Qi (fun r S' => r = aBars B e ∧ S'.2 = z ∧ hfr h S'.1 m 17 ∧ pM S'.1 m cs B N P I J wn op n tr)) := by
  obtain ⟨⟨at_, bg, tk, td, rt, rn, rm, rd, mn, bd, br, po⟩, px, pr, pb, pn, pq, pu, por, ph, pk⟩ := id p
  have h6 := b9.1
  have hpos := nW_pos B
  have po' := po
  unfold pMO at po'
  refine mk_X12_bars (Nat.le_of_ble_eq_true rfl) (L := [.ref m, .int (nI e), .retAddr 0, .retAddr 0, .retAddr 0, .retAddr 0, .retAddr 0, .retAddr 0]) rfl ?_
  have tail : ∀ (h1 : Hp) (mn2 : Int32) (v5 v6 v7 : Value), mFs h h1 m → pMO h1 m (nI cs.length) at_ bg tk td rt rn rm rd (nI (bT B)) (nI (bK B)) (nI (bM B)) (nI (bD B)) (nI 0) (nI (tS N)) (nI P.length) (mn2) bd br (nI n) tr → mRo h1 m → mOr h1 m → Ev X (mi_X12_bars 4 0 0) (Qi (fun r S' => r = aBars B e ∧ S'.2 = z ∧ hfr h S'.1 m 17 ∧ pM S'.1 m cs B N P I J wn op n tr)) 0 0 (h1, z) 111 [.ref m, .int (nI e), .int (alV B e (nW B)), .int (b2i (alX (fun i => decide (e ≤ (outW B (rW B i)).length)) (fun i => mk (rW B i)) (nW B)).1), .int (nI 0), v5, v6, v7] [] := by
    intro h1 mn2 v5 v6 v7 f1 o1 r1 q1
    have o1' := o1
    unfold pMO at o1'
    have a64 := alX_lt (fun i => decide (e ≤ (outW B (rW B i)).length)) (fun i => mk (rW B i)) (nW B)
    have abits := alX_bits (fun i => decide (e ≤ (outW B (rW B i)).length)) (fun i => mk (rW B i)) (bT B) (nW B) (by
      intro i hi t ht
      rw [mk_bit] at ht
      have hm := of_decide_eq_true ht
      exact (allW_mem (List.mem_of_getElem? (gW_get (W := allW (bT B) (bT B)) hi))).2.2 t hm)
    have ea : aBars B e = oI (fiX (fun t => (if (alX (fun i => decide (e ≤ (outW B (rW B i)).length)) (fun i => mk (rW B i)) (nW B)).1 = true then (alX (fun i => decide (e ≤ (outW B (rW B i)).length)) (fun i => mk (rW B i)) (nW B)).2 else 0).testBit t) 6 0) := rfl
    unfold alV
    generalize alX (fun i => decide (e ≤ (outW B (rW B i)).length)) (fun i => mk (rW B i)) (nW B) = a at a64 abits ea ⊢
    obtain ⟨a1, a2⟩ := a
    dsimp only at a64 abits ea ⊢
    cases a1 with
    | false =>
      rw [if_neg (by decide)] at ea
      have e0 : fiX (fun t => (0 : Nat).testBit t) 6 0 = none := fiX_none _ 6 0 (fun j _ _ => Nat.zero_testBit j)
      rw [e0] at ea
      refine ev_iload (pc := 111) dX12_bars_111 rfl ?_
      refine ev_aload_n (pc := 113) dX12_bars_113 rfl ?_
      refine gf_X12_137 (pc := 114) rfl dX12_bars_114 (by (try dsimp only); (repeat (first | rw [up_s] | rw [up_n (by omega)])) <;> first | rfl | assumption) ?_
      refine ev_icmp_ge (pc := 117) 143 dX12_bars_117 (by decide) (fun c_117 => ?_) (fun c_117 => ?_)
      · (try simp (disch := omega) only [i32_lti, i32_lei, i32_eqi, nI_toInt, i32z] at c_117)
        refine ev_bipush (pc := 143) (v := (-9)) dX12_bars_143 kb_m9 ?_
        refine ev_iret (pc := 145) dX12_bars_145 rfl rfl (Nat.le_of_ble_eq_true rfl) (Nat.le_of_ble_eq_true rfl) ?_
        exact ⟨_, rfl, ea.symm, rfl, (fun q a => f1 q (by omega) (by omega) (by omega)), p.fs f1 ⟨at_, bg, tk, td, rt, rn, rm, rd, _, bd, br, o1⟩ r1 q1⟩
      · (try simp (disch := omega) only [i32_lti, i32_lei, i32_eqi, nI_toInt, i32z] at c_117)
        refine ev_iload_n (pc := 120) dX12_bars_120 rfl ?_
        refine ev_if_eq (pc := 121) 143 dX12_bars_121 (by decide) (fun c_121 => ?_) (fun c_121 => ?_)
        · (try simp (disch := omega) only [i32_lti, i32_lei, i32_eqi, nI_toInt, i32z] at c_121)
          refine ev_bipush (pc := 143) (v := (-9)) dX12_bars_143 kb_m9 ?_
          refine ev_iret (pc := 145) dX12_bars_145 rfl rfl (Nat.le_of_ble_eq_true rfl) (Nat.le_of_ble_eq_true rfl) ?_
          exact ⟨_, rfl, ea.symm, rfl, (fun q a => f1 q (by omega) (by omega) (by omega)), p.fs f1 ⟨at_, bg, tk, td, rt, rn, rm, rd, _, bd, br, o1⟩ r1 q1⟩
        · exact absurd rfl c_121
    | true =>
      rw [if_pos rfl] at ea ⊢
      have loop : ∀ (c t : Nat), t + c = bT B → aBars B e = oI (fiX (fun t => a2.testBit t) (6 - t) t) → Ev X (mi_X12_bars 4 0 0) (Qi (fun r S' => r = aBars B e ∧ S'.2 = z ∧ hfr h S'.1 m 17 ∧ pM S'.1 m cs B N P I J wn op n tr)) 0 0 (h1, z) 111 [.ref m, .int (nI e), .int (nI a2), .int (b2i true), .int (nI t), v5, v6, v7] [] := by
        intro c
        induction c with
        | zero =>
          intro t ht et
          have e0 : fiX (fun t => a2.testBit t) (6 - t) t = none := fiX_none _ _ _ (fun j h1 h2 => by
            cases hb : a2.testBit j with
            | false => rfl
            | true => have := abits rfl j hb; omega)
          rw [e0] at et
          refine ev_iload (pc := 111) dX12_bars_111 rfl ?_
          refine ev_aload_n (pc := 113) dX12_bars_113 rfl ?_
          refine gf_X12_137 (pc := 114) rfl dX12_bars_114 (by (try dsimp only); (repeat (first | rw [up_s] | rw [up_n (by omega)])) <;> first | rfl | assumption) ?_
          refine ev_icmp_ge (pc := 117) 143 dX12_bars_117 (by decide) (fun c_117 => ?_) (fun c_117 => ?_)
          · (try simp (disch := omega) only [i32_lti, i32_lei, i32_eqi, nI_toInt, i32z] at c_117)
            refine ev_bipush (pc := 143) (v := (-9)) dX12_bars_143 kb_m9 ?_
            refine ev_iret (pc := 145) dX12_bars_145 rfl rfl (Nat.le_of_ble_eq_true rfl) (Nat.le_of_ble_eq_true rfl) ?_
            exact ⟨_, rfl, et.symm, rfl, (fun q a => f1 q (by omega) (by omega) (by omega)), p.fs f1 ⟨at_, bg, tk, td, rt, rn, rm, rd, _, bd, br, o1⟩ r1 q1⟩
          · exfalso; (try simp (disch := omega) only [i32_lti, i32_lei, i32_eqi, nI_toInt, i32z] at c_117); omega
        | succ c ih =>
          intro t ht et
          have es : fiX (fun t => a2.testBit t) (6 - t) t = if a2.testBit t = true then some t else fiX (fun t => a2.testBit t) (6 - (t + 1)) (t + 1) := by
            rw [show 6 - t = (6 - (t + 1)) + 1 by omega]
            rfl
          rw [es] at et
          cases hb : a2.testBit t with
          | true =>
            rw [hb, if_pos rfl] at et
            refine ev_iload (pc := 111) dX12_bars_111 rfl ?_
            refine ev_aload_n (pc := 113) dX12_bars_113 rfl ?_
            refine gf_X12_137 (pc := 114) rfl dX12_bars_114 (by (try dsimp only); (repeat (first | rw [up_s] | rw [up_n (by omega)])) <;> first | rfl | assumption) ?_
            refine ev_icmp_ge (pc := 117) 143 dX12_bars_117 (by decide) (fun c_117 => ?_) (fun c_117 => ?_)
            · exfalso; (try simp (disch := omega) only [i32_lti, i32_lei, i32_eqi, nI_toInt, i32z] at c_117); omega
            · (try simp (disch := omega) only [i32_lti, i32_lei, i32_eqi, nI_toInt, i32z] at c_117)
              refine ev_iload_n (pc := 120) dX12_bars_120 rfl ?_
              refine ev_if_eq (pc := 121) 143 dX12_bars_121 (by decide) (fun c_121 => ?_) (fun c_121 => ?_)
              · exact absurd c_121 (by decide)
              · (try simp (disch := omega) only [i32_lti, i32_lei, i32_eqi, nI_toInt, i32z] at c_121)
                refine ev_iload_n (pc := 124) dX12_bars_124 rfl ?_
                refine ev_iload (pc := 125) dX12_bars_125 rfl ?_
                refine ev_ishr (pc := 127) dX12_bars_127 ?_
                refine ev_iconst (pc := 128) (v := nI 1) dX12_bars_128 kc_1 ?_
                refine ev_iand (pc := 129) dX12_bars_129 ?_
                rw [bt_tst _ a64 _ (by omega), hb, b2i_t]
                refine ev_iconst (pc := 130) (v := nI 1) dX12_bars_130 kc_1 ?_
                refine ev_icmp_ne (pc := 131) 137 dX12_bars_131 (by decide) (fun c_131 => ?_) (fun c_131 => ?_)
                · exact absurd rfl c_131
                · (try simp (disch := omega) only [i32_lti, i32_lei, i32_eqi, nI_toInt, i32z] at c_131)
                  refine ev_iload (pc := 134) dX12_bars_134 rfl ?_
                  refine ev_iret (pc := 136) dX12_bars_136 rfl rfl (Nat.le_of_ble_eq_true rfl) (Nat.le_of_ble_eq_true rfl) ?_
                  exact ⟨_, rfl, et.symm, rfl, (fun q a => f1 q (by omega) (by omega) (by omega)), p.fs f1 ⟨at_, bg, tk, td, rt, rn, rm, rd, _, bd, br, o1⟩ r1 q1⟩
          | false =>
            rw [hb, if_neg (by decide)] at et
            refine ev_iload (pc := 111) dX12_bars_111 rfl ?_
            refine ev_aload_n (pc := 113) dX12_bars_113 rfl ?_
            refine gf_X12_137 (pc := 114) rfl dX12_bars_114 (by (try dsimp only); (repeat (first | rw [up_s] | rw [up_n (by omega)])) <;> first | rfl | assumption) ?_
            refine ev_icmp_ge (pc := 117) 143 dX12_bars_117 (by decide) (fun c_117 => ?_) (fun c_117 => ?_)
            · exfalso; (try simp (disch := omega) only [i32_lti, i32_lei, i32_eqi, nI_toInt, i32z] at c_117); omega
            · (try simp (disch := omega) only [i32_lti, i32_lei, i32_eqi, nI_toInt, i32z] at c_117)
              refine ev_iload_n (pc := 120) dX12_bars_120 rfl ?_
              refine ev_if_eq (pc := 121) 143 dX12_bars_121 (by decide) (fun c_121 => ?_) (fun c_121 => ?_)
              · exact absurd c_121 (by decide)
              · (try simp (disch := omega) only [i32_lti, i32_lei, i32_eqi, nI_toInt, i32z] at c_121)
                refine ev_iload_n (pc := 124) dX12_bars_124 rfl ?_
                refine ev_iload (pc := 125) dX12_bars_125 rfl ?_
                refine ev_ishr (pc := 127) dX12_bars_127 ?_
                refine ev_iconst (pc := 128) (v := nI 1) dX12_bars_128 kc_1 ?_
                refine ev_iand (pc := 129) dX12_bars_129 ?_
                rw [bt_tst _ a64 _ (by omega), hb, b2i_f]
                refine ev_iconst (pc := 130) (v := nI 1) dX12_bars_130 kc_1 ?_
                refine ev_icmp_ne (pc := 131) 137 dX12_bars_131 (by decide) (fun c_131 => ?_) (fun c_131 => ?_)
                · (try simp (disch := omega) only [i32_lti, i32_lei, i32_eqi, nI_toInt, i32z] at c_131)
                  refine ev_iinc (pc := 137) (L' := [_, _, _, _, _, _, _, _]) dX12_bars_137 rfl (nI_1 _) rfl ?_
                  refine ev_goto (pc := 140) 111 dX12_bars_140 (by decide) ?_
                  exact ih (t + 1) (by omega) et
                · exact absurd c_131 (by decide)
      exact loop (bT B) 0 (by omega) ea
  have outer : ∀ (e9 k : Nat) (h1 : Hp) (v6 v7 : Value) (vm : Value) (mn2 : Int32), k + e9 = bT B + 1 → True → mFs h h1 m → pMO h1 m (nI cs.length) at_ bg tk td rt rn rm rd (nI (bT B)) (nI (bK B)) (nI (bM B)) (nI (bD B)) (nI 0) (nI (tS N)) (nI P.length) (mn2) bd br (nI n) tr → mRo h1 m → mOr h1 m → Ev X (mi_X12_bars 4 0 0) (Qi (fun r S' => r = aBars B e ∧ S'.2 = z ∧ hfr h S'.1 m 17 ∧ pM S'.1 m cs B N P I J wn op n tr)) 0 0 (h1, z) 21 [.ref m, .int (nI e), .int (alV B e (offN B k)), .int (b2i (alX (fun i => decide (e ≤ (outW B (rW B i)).length)) (fun i => mk (rW B i)) (offN B k)).1), .int (nI k), vm, v6, v7] [] := by
    intro e9
    induction e9 with
    | zero =>
      intro k h1 v6 v7 vm mn2 hk iv f1 o1 r1 q1
      have o1' := o1
      unfold pMO at o1'
      have ek : k = bT B + 1 := by omega
      subst ek
      (try rw [offN_all] at iv)
      (try rw [offN_all])
      refine ev_iload (pc := 21) dX12_bars_21 rfl ?_
      refine ev_aload_n (pc := 23) dX12_bars_23 rfl ?_
      refine gf_X12_137 (pc := 24) rfl dX12_bars_24 (by (try dsimp only); (repeat (first | rw [up_s] | rw [up_n (by omega)])) <;> first | rfl | assumption) ?_
      refine ev_icmp_gt (pc := 27) 108 dX12_bars_27 (by decide) (fun c_27 => ?_) (fun c_27 => ?_)
      · (try simp (disch := omega) only [i32_lti, i32_lei, i32_eqi, nI_toInt, i32z] at c_27)
        refine ev_iconst (pc := 108) (v := nI 0) dX12_bars_108 kc_0 ?_
        refine ev_istore (pc := 109) (L' := [_, _, _, _, _, _, _, _]) dX12_bars_109 (Nat.le_of_ble_eq_true rfl) rfl ?_
        exact tail h1 _ _ _ _ f1 o1 r1 q1
      · exfalso; (try simp (disch := omega) only [i32_lti, i32_lei, i32_eqi, nI_toInt, i32z] at c_27); omega
    | succ e9 ihE =>
      intro k h1 v6 v7 vm mn2 hk iv f1 o1 r1 q1
      have hkn : k ≤ bT B := by omega
      have inner : ∀ (c i : Nat) (w : List Nat) (h2 : Hp) (v6 v7 : Value) , i + c = (lev (bT B) k).length → (lev (bT B) k)[i]? = some w → True → mFs h h2 m → pMO h2 m (nI cs.length) at_ bg tk td rt rn rm rd (nI (bT B)) (nI (bK B)) (nI (bM B)) (nI (bD B)) (nI 0) (nI (tS N)) (nI P.length) (nI k) bd br (nI n) tr → mRo h2 m → mOr h2 m → mOd h2 m w → Ev X (mi_X12_bars 4 0 0) (Qi (fun r S' => r = aBars B e ∧ S'.2 = z ∧ hfr h S'.1 m 17 ∧ pM S'.1 m cs B N P I J wn op n tr)) 0 0 (h2, z) 38 [.ref m, .int (nI e), .int (alV B e (offN B k + i)), .int (b2i (alX (fun i => decide (e ≤ (outW B (rW B i)).length)) (fun i => mk (rW B i)) (offN B k + i)).1), .int (nI k), .int (nI 1), v6, v7] [] := by
        intro c
        induction c with
        | zero =>
          intro i w h2 v6 v7 hc hi iv
          rw [List.getElem?_eq_none (by omega)] at hi
          cases hi
        | succ c ihC =>
          intro i w h2 v6 v7 hc hi iv f2 o2 r2 q2 d2
          obtain ⟨eW, hI, hl, hnd, hwn, hil⟩ := rW_lev hkn hi
          have hnx := lev_next (bT B) k hkn i w hi
          have h30 := (out30 b9 (by omega) hwn).1
          have o2k : pMO h2 m (nI cs.length) at_ bg tk td rt rn rm rd (nI (bT B)) (nI (bK B)) (nI (bM B)) (nI (bD B)) (nI 0) (nI (tS N)) (nI P.length) (nI w.length) bd br (nI n) tr := by rw [hl]; exact o2
          have o2' := o2k
          unfold pMO at o2'
          obtain ⟨fo, d21, d22⟩ := id d2
          obtain ⟨oa, ob, oc, q21, q22, q23⟩ := id q2
          have pb2 : mBk h2 m B (nI 0) := pb.fr (fun q a b => f2 q (by omega) (by omega) (by omega))
          have next : ∀ (h3 : Hp) (v6 v7 : Value) , True → mFs h h3 m → pMO h3 m (nI cs.length) at_ bg tk td rt rn rm rd (nI (bT B)) (nI (bK B)) (nI (bM B)) (nI (bD B)) (nI 0) (nI (tS N)) (nI P.length) (nI w.length) bd br (nI n) tr → mRo h3 m → mOr h3 m → mOd h3 m w → Ev X (mi_X12_bars 4 0 0) (Qi (fun r S' => r = aBars B e ∧ S'.2 = z ∧ hfr h S'.1 m 17 ∧ pM S'.1 m cs B N P I J wn op n tr)) 0 0 (h3, z) 93 [.ref m, .int (nI e), .int (alV B e (offN B k + i + 1)), .int (b2i (alX (fun i => decide (e ≤ (outW B (rW B i)).length)) (fun i => mk (rW B i)) (offN B k + i + 1)).1), .int (nI k), .int (nI 1), v6, v7] [] := by
            intro h3 v6 v7 iv f3 o3k r3 q3 d3
            have o3' := o3k
            unfold pMO at o3'
            obtain ⟨oa, ob, oc, q31, q32, q33⟩ := id q3
            cases e9 : nxL (bT B) w.length w with
            | none =>
              have hend : (lev (bT B) k)[i + 1]? = none := by rw [hnx, ← hl]; exact e9
              have hlen : (lev (bT B) k).length = i + 1 := by have := List.getElem?_eq_none_iff.mp hend; omega
              have eo : offN B (k + 1) = offN B k + i + 1 := by rw [offN_s]; omega
              (try rw [← eo])
              refine ev_aload_n (pc := 93) dX12_bars_93 rfl ?_
              refine iv_X12_225 (pc := 94) rfl dX12_bars_94 (by (try dsimp only); (repeat (first | rw [up_s] | rw [up_n (by omega)])) <;> first | rfl | assumption) (Nat.le_of_ble_eq_true rfl) (Nat.le_of_ble_eq_true rfl) (Nat.le_of_ble_eq_true rfl) (Nat.le_of_ble_eq_true rfl) (c_mTurns o3k h6 d3 (by omega) hnd hwn) (ki (fun r S' hS => ?_))
              obtain ⟨h4, z'⟩ := S'
              obtain ⟨rfl, rfl, f4, ⟨fo4, d4⟩, -⟩ := hS
              rw [e9]
              have o4 := (f4 m (by omega)).trans o3'
              refine ev_istore (pc := 97) (L' := [_, _, _, _, _, _, _, _]) dX12_bars_97 (Nat.le_of_ble_eq_true rfl) rfl ?_
              refine ev_goto (pc := 99) 38 dX12_bars_99 (by decide) ?_
              refine ev_iload (pc := 38) dX12_bars_38 rfl ?_
              refine ev_if_eq (pc := 40) 102 dX12_bars_40 (by decide) (fun c_40 => ?_) (fun c_40 => ?_)
              · (try simp (disch := omega) only [i32_lti, i32_lei, i32_eqi, nI_toInt, i32z] at c_40)
                refine ev_iinc (pc := 102) (L' := [_, _, _, _, _, _, _, _]) dX12_bars_102 rfl (nI_1 _) rfl ?_
                refine ev_goto (pc := 105) 21 dX12_bars_105 (by decide) ?_
                exact ihE (k + 1) h4 _ _ _ _ (by omega) (by (try rw [eo]); exact iv) (fun q a b c => (f4 q (by omega)).trans (f3 q a b c)) (by unfold pMO; exact o4) (r3.fr (f4 _ (by omega))) ⟨fo4, ob, oc, d4, (f4 _ (by omega)).trans q32, (f4 _ (by omega)).trans q33⟩
              · exact absurd rfl c_40
            | some w' =>
              have hi2 : (lev (bT B) k)[i + 1]? = some w' := by rw [hnx, ← hl]; exact e9
              rw [hl] at o3'
              refine ev_aload_n (pc := 93) dX12_bars_93 rfl ?_
              refine iv_X12_225 (pc := 94) rfl dX12_bars_94 (by (try dsimp only); (repeat (first | rw [up_s] | rw [up_n (by omega)])) <;> first | rfl | assumption) (Nat.le_of_ble_eq_true rfl) (Nat.le_of_ble_eq_true rfl) (Nat.le_of_ble_eq_true rfl) (Nat.le_of_ble_eq_true rfl) (c_mTurns o3k h6 d3 (by omega) hnd hwn) (ki (fun r S' hS => ?_))
              obtain ⟨h4, z'⟩ := S'
              obtain ⟨rfl, rfl, f4, -, d4⟩ := hS
              rw [e9]
              have o4 := (f4 m (by omega)).trans o3'
              have d4 := d4 w' e9
              refine ev_istore (pc := 97) (L' := [_, _, _, _, _, _, _, _]) dX12_bars_97 (Nat.le_of_ble_eq_true rfl) rfl ?_
              refine ev_goto (pc := 99) 38 dX12_bars_99 (by decide) ?_
              exact ihC (i + 1) w' h4 _ _ (by omega) hi2 iv (fun q a b c => (f4 q (by omega)).trans (f3 q a b c)) o4 (r3.fr (f4 _ (by omega))) ⟨d4.choose, ob, oc, d4.choose_spec.1, (f4 _ (by omega)).trans q32, (f4 _ (by omega)).trans q33⟩ d4
          have es : alX (fun i => decide (e ≤ (outW B (rW B i)).length)) (fun i => mk (rW B i)) (offN B k + i + 1) = if decide (e ≤ (outW B (rW B (offN B k + i))).length) = true then (true, (alX (fun i => decide (e ≤ (outW B (rW B i)).length)) (fun i => mk (rW B i)) (offN B k + i)).2 &&& mk (rW B (offN B k + i))) else alX (fun i => decide (e ≤ (outW B (rW B i)).length)) (fun i => mk (rW B i)) (offN B k + i) := rfl
          rw [eW] at es
          have w6 : ∀ t ∈ w, t < 6 := fun t ht => by have := hwn t ht; omega
          have mw := mk_lt w6
          have a64 := alX_lt (fun i => decide (e ≤ (outW B (rW B i)).length)) (fun i => mk (rW B i)) (offN B k + i)
          have a63 := alX_63 (fun i => decide (e ≤ (outW B (rW B i)).length)) (fun i => mk (rW B i)) (offN B k + i)
          have eall : e ≤ (outW B w).length → alV B e (offN B k + i) &&& nI (mk w) = alV B e (offN B k + i + 1) ∧ (alX (fun i => decide (e ≤ (outW B (rW B i)).length)) (fun i => mk (rW B i)) (offN B k + i + 1)).1 = true := by
            intro hq
            rw [if_pos (decide_eq_true hq)] at es
            unfold alV
            rw [es]
            refine ⟨?_, rfl⟩
            rw [if_pos rfl]
            by_cases hc : (alX (fun i => decide (e ≤ (outW B (rW B i)).length)) (fun i => mk (rW B i)) (offN B k + i)).1 = true
            · rw [if_pos hc, bt_and _ a64 _ mw]
            · rw [if_neg hc, m1_and _ mw, a63 (by simpa using hc), n63_and _ mw]
          have setL : ∀ (h3 : Hp), mFs h h3 m → pMO h3 m (nI cs.length) at_ bg tk td rt rn rm rd (nI (bT B)) (nI (bK B)) (nI (bM B)) (nI (bD B)) (nI 0) (nI (tS N)) (nI P.length) (nI w.length) bd br (nI n) tr → mRo h3 m → mOr h3 m → mOd h3 m w → e ≤ (outW B w).length → Ev X (mi_X12_bars 4 0 0) (Qi (fun r S' => r = aBars B e ∧ S'.2 = z ∧ hfr h S'.1 m 17 ∧ pM S'.1 m cs B N P I J wn op n tr)) 0 0 (h3, z) 59 [.ref m, .int (nI e), .int (alV B e (offN B k + i)), .int (nI 1), .int (nI k), .int (nI 1), .int (nI 0), .int (nI 0)] [] := by
            intro h3 f3 o3 r3 q3 d3 hq
            have o3' := o3
            unfold pMO at o3'
            obtain ⟨fo, d31, d32⟩ := id d3
            obtain ⟨ea1, ea2⟩ := eall hq
            have loop : ∀ (c j : Nat), j + c = w.length → Ev X (mi_X12_bars 4 0 0) (Qi (fun r S' => r = aBars B e ∧ S'.2 = z ∧ hfr h S'.1 m 17 ∧ pM S'.1 m cs B N P I J wn op n tr)) 0 0 (h3, z) 59 [.ref m, .int (nI e), .int (alV B e (offN B k + i)), .int (nI 1), .int (nI k), .int (nI 1), .int (nI (mk (w.take j))), .int (nI j)] [] := by
              intro c
              induction c with
              | zero =>
                intro j hj
                have ej : j = w.length := by omega
                subst ej
                rw [List.take_length]
                have nx := next h3 (.int (nI (mk w))) (.int (nI w.length)) trivial f3 o3 r3 q3 d3
                rw [ea2] at nx
                refine ev_iload (pc := 59) dX12_bars_59 rfl ?_
                refine ev_aload_n (pc := 61) dX12_bars_61 rfl ?_
                refine gf_X12_199 (pc := 62) rfl dX12_bars_62 (by (try dsimp only); (repeat (first | rw [up_s] | rw [up_n (by omega)])) <;> first | rfl | assumption) ?_
                refine ev_icmp_ge (pc := 65) 88 dX12_bars_65 (by decide) (fun c_65 => ?_) (fun c_65 => ?_)
                · (try simp (disch := omega) only [i32_lti, i32_lei, i32_eqi, nI_toInt, i32z] at c_65)
                  refine ev_iload_n (pc := 88) dX12_bars_88 rfl ?_
                  refine ev_iload (pc := 89) dX12_bars_89 rfl ?_
                  refine ev_iand (pc := 91) dX12_bars_91 ?_
                  rw [ea1]
                  refine ev_istore_n (pc := 92) (L' := [_, _, _, _, _, _, _, _]) dX12_bars_92 (Nat.le_of_ble_eq_true rfl) rfl ?_
                  exact nx
                · exfalso; (try simp (disch := omega) only [i32_lti, i32_lei, i32_eqi, nI_toInt, i32z] at c_65); omega
              | succ c ih =>
                intro j hj
                have hj6 := w6 _ (gN_mem (l := w) (i := j) (by omega))
                have hm64 : mk (w.take j) < 64 := mk_lt (fun x hx => w6 x (List.mem_of_mem_take hx))
                have ts := take_s (l := w) (j := j) (by omega)
                refine ev_iload (pc := 59) dX12_bars_59 rfl ?_
                refine ev_aload_n (pc := 61) dX12_bars_61 rfl ?_
                refine gf_X12_199 (pc := 62) rfl dX12_bars_62 (by (try dsimp only); (repeat (first | rw [up_s] | rw [up_n (by omega)])) <;> first | rfl | assumption) ?_
                refine ev_icmp_ge (pc := 65) 88 dX12_bars_65 (by decide) (fun c_65 => ?_) (fun c_65 => ?_)
                · exfalso; (try simp (disch := omega) only [i32_lti, i32_lei, i32_eqi, nI_toInt, i32z] at c_65); omega
                · (try simp (disch := omega) only [i32_lti, i32_lei, i32_eqi, nI_toInt, i32z] at c_65)
                  refine ev_iload (pc := 68) dX12_bars_68 rfl ?_
                  refine ev_iconst (pc := 70) (v := nI 1) dX12_bars_70 kc_1 ?_
                  refine ev_aload_n (pc := 71) dX12_bars_71 rfl ?_
                  refine gf_X12_40 (pc := 72) rfl dX12_bars_72 (by (try dsimp only); (repeat (first | rw [up_s] | rw [up_n (by omega)])) <;> first | rfl | assumption) ?_
                  refine ev_iload (pc := 75) dX12_bars_75 rfl ?_
                  refine ev_iald (pc := 77) dX12_bars_77 (by (try dsimp only); (repeat (first | rw [up_s] | rw [up_n (by omega)])) <;> first | rfl | assumption) (nI_toInt (by omega)) (xg (by omega) (d32 j (by omega))) ?_
                  refine ev_ishl (pc := 78) dX12_bars_78 ?_
                  rw [bt_shl _ hj6]
                  refine ev_ior (pc := 79) dX12_bars_79 ?_
                  rw [bt_or _ hm64 _ (bt_shl64 _ hj6), ← ts]
                  refine ev_istore (pc := 80) (L' := [_, _, _, _, _, _, _, _]) dX12_bars_80 (Nat.le_of_ble_eq_true rfl) rfl ?_
                  refine ev_iinc (pc := 82) (L' := [_, _, _, _, _, _, _, _]) dX12_bars_82 rfl (nI_1 _) rfl ?_
                  refine ev_goto (pc := 85) 59 dX12_bars_85 (by decide) ?_
                  exact ih (j + 1) (by omega)
            exact loop w.length 0 (by omega)
          refine ev_iload (pc := 38) dX12_bars_38 rfl ?_
          refine ev_if_eq (pc := 40) 102 dX12_bars_40 (by decide) (fun c_40 => ?_) (fun c_40 => ?_)
          · exact absurd c_40 (by decide)
          · (try simp (disch := omega) only [i32_lti, i32_lei, i32_eqi, nI_toInt, i32z] at c_40)
            refine ev_aload_n (pc := 43) dX12_bars_43 rfl ?_
            refine iv_X12_203 (pc := 44) rfl dX12_bars_44 (by (try dsimp only); (repeat (first | rw [up_s] | rw [up_n (by omega)])) <;> first | rfl | assumption) (Nat.le_of_ble_eq_true rfl) (Nat.le_of_ble_eq_true rfl) (Nat.le_of_ble_eq_true rfl) (Nat.le_of_ble_eq_true rfl) (c_mSaves (w := w) o2k pb2 b9 hmx d21 d22 hwn (by omega) r2 ⟨ob, oc, q22, q23⟩) (ki (fun r S' hS => ?_))
            obtain ⟨h3, z'⟩ := S'
            obtain ⟨rfl, rfl, f3, r3, g3, k3, y1, y2, y3⟩ := hS
            have o3k : pMO h3 m (nI cs.length) at_ bg tk td rt rn rm rd (nI (bT B)) (nI (bK B)) (nI (bM B)) (nI (bD B)) (nI 0) (nI (tS N)) (nI P.length) (nI w.length) bd br (nI n) tr := (f3 m (by omega) (by omega) (by omega)).trans o2k
            have o3' := o3k
            unfold pMO at o3'
            have d3 : mOd h3 m w := ⟨fo, (f3 _ (by omega) (by omega) (by omega)).trans d21, d22⟩
            have d31 := (f3 (m + 11) (by omega) (by omega) (by omega)).trans d21
            have f13 : mFs h h3 m := fun q a b c => (f3 q b (by omega) (by omega)).trans (f2 q a b c)
            have nx := fun v6 v7 iv => next h3 v6 v7 iv f13 o3k r3 ⟨fo, g3, k3, (f3 _ (by omega) (by omega) (by omega)).trans d21, y1, y2⟩ d3
            refine ev_iload_n (pc := 47) dX12_bars_47 rfl ?_
            refine ev_icmp_lt (pc := 48) 93 dX12_bars_48 (by decide) (fun c_48 => ?_) (fun c_48 => ?_)
            · (try simp (disch := omega) only [i32_lti, i32_lei, i32_eqi, nI_toInt, i32z] at c_48)
              rw [if_neg (by rw [decide_eq_false (by omega)]; decide)] at es
              have nx2 := nx v6 v7 trivial
              unfold alV at nx2
              rw [es] at nx2
              exact nx2
            · (try simp (disch := omega) only [i32_lti, i32_lei, i32_eqi, nI_toInt, i32z] at c_48)
              rw [if_pos (decide_eq_true (by omega))] at es
              refine ev_iconst (pc := 51) (v := nI 1) dX12_bars_51 kc_1 ?_
              refine ev_istore_n (pc := 52) (L' := [_, _, _, _, _, _, _, _]) dX12_bars_52 (Nat.le_of_ble_eq_true rfl) rfl ?_
              refine ev_iconst (pc := 53) (v := nI 0) dX12_bars_53 kc_0 ?_
              refine ev_istore (pc := 54) (L' := [_, _, _, _, _, _, _, _]) dX12_bars_54 (Nat.le_of_ble_eq_true rfl) rfl ?_
              refine ev_iconst (pc := 56) (v := nI 0) dX12_bars_56 kc_0 ?_
              refine ev_istore (pc := 57) (L' := [_, _, _, _, _, _, _, _]) dX12_bars_57 (Nat.le_of_ble_eq_true rfl) rfl ?_
              exact setL h3 f13 o3k r3 ⟨fo, g3, k3, d31, y1, y2⟩ d3 (by omega)
      have o1' := o1
      unfold pMO at o1'
      have hh := lev_head (bT B) k hkn
      have hlp : 0 < (lev (bT B) k).length := by
        rcases Nat.eq_zero_or_pos (lev (bT B) k).length with q | q
        · rw [List.getElem?_eq_none (by omega)] at hh; cases hh
        · exact q
      obtain ⟨oa, ob, oc, q11, q12, q13⟩ := id q1
      refine ev_iload (pc := 21) dX12_bars_21 rfl ?_
      refine ev_aload_n (pc := 23) dX12_bars_23 rfl ?_
      refine gf_X12_137 (pc := 24) rfl dX12_bars_24 (by (try dsimp only); (repeat (first | rw [up_s] | rw [up_n (by omega)])) <;> first | rfl | assumption) ?_
      refine ev_icmp_gt (pc := 27) 108 dX12_bars_27 (by decide) (fun c_27 => ?_) (fun c_27 => ?_)
      · exfalso; (try simp (disch := omega) only [i32_lti, i32_lei, i32_eqi, nI_toInt, i32z] at c_27); omega
      · (try simp (disch := omega) only [i32_lti, i32_lei, i32_eqi, nI_toInt, i32z] at c_27)
        refine ev_aload_n (pc := 30) dX12_bars_30 rfl ?_
        refine ev_iload (pc := 31) dX12_bars_31 rfl ?_
        refine iv_X12_219 (pc := 33) rfl dX12_bars_33 (by (try dsimp only); (repeat (first | rw [up_s] | rw [up_n (by omega)])) <;> first | rfl | assumption) (Nat.le_of_ble_eq_true rfl) (Nat.le_of_ble_eq_true rfl) (Nat.le_of_ble_eq_true rfl) (Nat.le_of_ble_eq_true rfl) (c_mStarts (n := bT B) o1 h6 hkn ⟨oa, q11⟩) (ki (fun r S' hS => ?_))
        obtain ⟨h2, z'⟩ := S'
        obtain ⟨rfl, rfl, f2, o2, d2⟩ := hS
        refine ev_istore (pc := 36) (L' := [_, _, _, _, _, _, _, _]) dX12_bars_36 (Nat.le_of_ble_eq_true rfl) rfl ?_
        exact inner (lev (bT B) k).length 0 (rf (bT B) k []) h2 _ _ (by omega) hh iv (fun q a b c => (f2 q a (by omega)).trans (f1 q a b c)) o2 (r1.fr (f2 _ (by omega) (by omega))) ⟨d2.choose, ob, oc, d2.choose_spec.1, (f2 _ (by omega) (by omega)).trans q12, (f2 _ (by omega) (by omega)).trans q13⟩ d2
  refine ev_iload_n (pc := 0) dX12_bars_0 rfl ?_
  refine ev_i2l (pc := 1) dX12_bars_1 ?_
  refine ev_lconst (pc := 2) (v := 1) dX12_bars_2 kl_1 ?_
  refine ev_ldc2_w (pc := 3) dX12_bars_3 tw_1126 ?_
  refine iv_X12_63 (pc := 6) rfl dX12_bars_6 (Nat.le_of_ble_eq_true rfl) (Nat.le_of_ble_eq_true rfl) (Nat.le_of_ble_eq_true rfl) (Nat.le_of_ble_eq_true rfl) (c_in _ _ _) (kp ?_)
  rw [in_t (a := 1) (b := 30) (by omega) (by omega) _ _ rfl rfl]
  refine ev_if_ne (pc := 9) 14 dX12_bars_9 (by decide) (fun c_9 => ?_) (fun c_9 => ?_)
  · (try simp (disch := omega) only [i32_lti, i32_lei, i32_eqi, nI_toInt, i32z] at c_9)
    refine ev_iconst (pc := 14) (v := (-1)) dX12_bars_14 kc_m1 ?_
    refine ev_istore_n (pc := 15) (L' := [_, _, _, _, _, _, _, _]) dX12_bars_15 (Nat.le_of_ble_eq_true rfl) rfl ?_
    refine ev_iconst (pc := 16) (v := nI 0) dX12_bars_16 kc_0 ?_
    refine ev_istore_n (pc := 17) (L' := [_, _, _, _, _, _, _, _]) dX12_bars_17 (Nat.le_of_ble_eq_true rfl) rfl ?_
    refine ev_iconst (pc := 18) (v := nI 0) dX12_bars_18 kc_0 ?_
    refine ev_istore (pc := 19) (L' := [_, _, _, _, _, _, _, _]) dX12_bars_19 (Nat.le_of_ble_eq_true rfl) rfl ?_
    exact outer (bT B + 1) 0 h _ _ _ _ (by omega) trivial (fun _ _ _ _ => rfl) po pq por
  · exact absurd c_9 (by decide)
theorem c_mIsHeard {ms : List Nat} {mn2 : Int32} {bd br at_ bg tk td rt rn rm rd : Int32} (po : pMO h m (nI cs.length) at_ bg tk td rt rn rm rd (nI (bT B)) (nI (bK B)) (nI (bM B)) (nI (bD B)) (nI 0) (nI (tS N)) (nI P.length) (mn2) bd br (nI n) tr) (ph : mHd h m wn op n) (oo : mOut h m ms) (h30 : ms.length ≤ 30) (h64 : ∀ x ∈ ms, x < 64) : Ct X 0 mt_X12_isHeard [.ref m, .int (nI ms.length)] (h, z) 0 0 (QP (.int (b2i (asH ms wn op n 0))) (h, z)) := by
  unfold pMO at po
  obtain ⟨f, g, h1, h2, h3, l1, l2, h6, h7⟩ := ph
  obtain ⟨go, so, y1, y2, y3⟩ := oo
  refine mk_X12_isHeard (Nat.le_of_ble_eq_true rfl) (L := [.ref m, .int (nI ms.length), .retAddr 0, .retAddr 0]) rfl ?_
  have loopF : ∀ (c k : Nat), k + c = n → Ev X (mi_X12_isHeard 0 0 0) (QP (.int (b2i false)) (h, z)) 0 0 (h, z) 4 [.ref m, .int (nI ms.length), .int (nI 0), .int (nI k)] [] := by
    intro c
    induction c with
    | zero =>
      intro k hk
      refine ev_iload_n (pc := 4) dX12_isHeard_4 rfl ?_
      refine ev_aload_n (pc := 5) dX12_isHeard_5 rfl ?_
      refine gf_X12_158 (pc := 6) rfl dX12_isHeard_6 (by (try dsimp only); (repeat (first | rw [up_s] | rw [up_n (by omega)])) <;> first | rfl | assumption) ?_
      refine ev_icmp_ge (pc := 9) 60 dX12_isHeard_9 (by decide) (fun c_9 => ?_) (fun c_9 => ?_)
      · (try simp (disch := omega) only [i32_lti, i32_lei, i32_eqi, nI_toInt, i32z] at c_9)
        refine ev_iload_n (pc := 60) dX12_isHeard_60 rfl ?_
        refine ev_iret (pc := 61) dX12_isHeard_61 rfl rfl (Nat.le_of_ble_eq_true rfl) (Nat.le_of_ble_eq_true rfl) ?_
        exact ⟨rfl, rfl⟩
      · exfalso; (try simp (disch := omega) only [i32_lti, i32_lei, i32_eqi, nI_toInt, i32z] at c_9); omega
    | succ c ih =>
      intro k hk
      refine ev_iload_n (pc := 4) dX12_isHeard_4 rfl ?_
      refine ev_aload_n (pc := 5) dX12_isHeard_5 rfl ?_
      refine gf_X12_158 (pc := 6) rfl dX12_isHeard_6 (by (try dsimp only); (repeat (first | rw [up_s] | rw [up_n (by omega)])) <;> first | rfl | assumption) ?_
      refine ev_icmp_ge (pc := 9) 60 dX12_isHeard_9 (by decide) (fun c_9 => ?_) (fun c_9 => ?_)
      · exfalso; (try simp (disch := omega) only [i32_lti, i32_lei, i32_eqi, nI_toInt, i32z] at c_9); omega
      · (try simp (disch := omega) only [i32_lti, i32_lei, i32_eqi, nI_toInt, i32z] at c_9)
        refine ev_iload_n (pc := 12) dX12_isHeard_12 rfl ?_
        refine ev_if_eq (pc := 13) 52 dX12_isHeard_13 (by decide) (fun c_13 => ?_) (fun c_13 => ?_)
        · (try simp (disch := omega) only [i32_lti, i32_lei, i32_eqi, nI_toInt, i32z] at c_13)
          refine ev_iconst (pc := 52) (v := nI 0) dX12_isHeard_52 kc_0 ?_
          refine ev_istore_n (pc := 53) (L' := [_, _, _, _]) dX12_isHeard_53 (Nat.le_of_ble_eq_true rfl) rfl ?_
          refine ev_iinc (pc := 54) (L' := [_, _, _, _]) dX12_isHeard_54 rfl (nI_1 _) rfl ?_
          refine ev_goto (pc := 57) 4 dX12_isHeard_57 (by decide) ?_
          exact ih (k + 1) (by omega)
        · exact absurd rfl c_13
  have loopT : ∀ (c k : Nat), k + c = n → Ev X (mi_X12_isHeard 0 0 0) (QP (.int (b2i (asH ms wn op c k))) (h, z)) 0 0 (h, z) 4 [.ref m, .int (nI ms.length), .int (nI 1), .int (nI k)] [] := by
    intro c
    induction c with
    | zero =>
      intro k hk
      refine ev_iload_n (pc := 4) dX12_isHeard_4 rfl ?_
      refine ev_aload_n (pc := 5) dX12_isHeard_5 rfl ?_
      refine gf_X12_158 (pc := 6) rfl dX12_isHeard_6 (by (try dsimp only); (repeat (first | rw [up_s] | rw [up_n (by omega)])) <;> first | rfl | assumption) ?_
      refine ev_icmp_ge (pc := 9) 60 dX12_isHeard_9 (by decide) (fun c_9 => ?_) (fun c_9 => ?_)
      · (try simp (disch := omega) only [i32_lti, i32_lei, i32_eqi, nI_toInt, i32z] at c_9)
        refine ev_iload_n (pc := 60) dX12_isHeard_60 rfl ?_
        refine ev_iret (pc := 61) dX12_isHeard_61 rfl rfl (Nat.le_of_ble_eq_true rfl) (Nat.le_of_ble_eq_true rfl) ?_
        exact ⟨rfl, rfl⟩
      · exfalso; (try simp (disch := omega) only [i32_lti, i32_lei, i32_eqi, nI_toInt, i32z] at c_9); omega
    | succ c ih =>
      intro k hk
      obtain ⟨g1, g2, g3⟩ := h7 k (by omega)
      obtain ⟨u1, u2⟩ := h3 k (by omega)
      have hp6 := popN_le (gN ms (gN wn k - 1))
      have es : asH ms wn op (c + 1) k = if gN wn k ≤ ms.length ∧ popN (gN ms (gN wn k - 1)) = gN op k then asH ms wn op c (k + 1) else false := rfl
      have qF := loopF c (k + 1) (by omega)
      have qT := ih (k + 1) (by omega)
      rw [es]
      refine ev_iload_n (pc := 4) dX12_isHeard_4 rfl ?_
      refine ev_aload_n (pc := 5) dX12_isHeard_5 rfl ?_
      refine gf_X12_158 (pc := 6) rfl dX12_isHeard_6 (by (try dsimp only); (repeat (first | rw [up_s] | rw [up_n (by omega)])) <;> first | rfl | assumption) ?_
      refine ev_icmp_ge (pc := 9) 60 dX12_isHeard_9 (by decide) (fun c_9 => ?_) (fun c_9 => ?_)
      · exfalso; (try simp (disch := omega) only [i32_lti, i32_lei, i32_eqi, nI_toInt, i32z] at c_9); omega
      · (try simp (disch := omega) only [i32_lti, i32_lei, i32_eqi, nI_toInt, i32z] at c_9)
        refine ev_iload_n (pc := 12) dX12_isHeard_12 rfl ?_
        refine ev_if_eq (pc := 13) 52 dX12_isHeard_13 (by decide) (fun c_13 => ?_) (fun c_13 => ?_)
        · exact absurd c_13 (by decide)
        · (try simp (disch := omega) only [i32_lti, i32_lei, i32_eqi, nI_toInt, i32z] at c_13)
          refine ev_aload_n (pc := 16) dX12_isHeard_16 rfl ?_
          refine gf_X12_49 (pc := 17) rfl dX12_isHeard_17 (by (try dsimp only); (repeat (first | rw [up_s] | rw [up_n (by omega)])) <;> first | rfl | assumption) ?_
          refine ev_iload_n (pc := 20) dX12_isHeard_20 rfl ?_
          refine ev_iald (pc := 21) dX12_isHeard_21 (by (try dsimp only); (repeat (first | rw [up_s] | rw [up_n (by omega)])) <;> first | rfl | assumption) (nI_toInt (by omega)) (xg (by omega) u1) ?_
          refine ev_iload_n (pc := 22) dX12_isHeard_22 rfl ?_
          refine ev_icmp_gt (pc := 23) 52 dX12_isHeard_23 (by decide) (fun c_23 => ?_) (fun c_23 => ?_)
          · (try simp (disch := omega) only [i32_lti, i32_lei, i32_eqi, nI_toInt, i32z] at c_23)
            refine ev_iconst (pc := 52) (v := nI 0) dX12_isHeard_52 kc_0 ?_
            refine ev_istore_n (pc := 53) (L' := [_, _, _, _]) dX12_isHeard_53 (Nat.le_of_ble_eq_true rfl) rfl ?_
            refine ev_iinc (pc := 54) (L' := [_, _, _, _]) dX12_isHeard_54 rfl (nI_1 _) rfl ?_
            refine ev_goto (pc := 57) 4 dX12_isHeard_57 (by decide) ?_
            first
            | (rw [if_pos ⟨by omega, by omega⟩]; exact qT)
            | (rw [if_neg (by omega)]; exact qF)
          · (try simp (disch := omega) only [i32_lti, i32_lei, i32_eqi, nI_toInt, i32z] at c_23)
            refine ev_aload_n (pc := 26) dX12_isHeard_26 rfl ?_
            refine gf_X12_43 (pc := 27) rfl dX12_isHeard_27 (by (try dsimp only); (repeat (first | rw [up_s] | rw [up_n (by omega)])) <;> first | rfl | assumption) ?_
            refine ev_aload_n (pc := 30) dX12_isHeard_30 rfl ?_
            refine gf_X12_49 (pc := 31) rfl dX12_isHeard_31 (by (try dsimp only); (repeat (first | rw [up_s] | rw [up_n (by omega)])) <;> first | rfl | assumption) ?_
            refine ev_iload_n (pc := 34) dX12_isHeard_34 rfl ?_
            refine ev_iald (pc := 35) dX12_isHeard_35 (by (try dsimp only); (repeat (first | rw [up_s] | rw [up_n (by omega)])) <;> first | rfl | assumption) (nI_toInt (by omega)) (xg (by omega) u1) ?_
            refine ev_iconst (pc := 36) (v := nI 1) dX12_isHeard_36 kc_1 ?_
            refine ev_isub (pc := 37) dX12_isHeard_37 ?_
            rw [nI_sub1 (by omega)]
            refine ev_iald (pc := 38) dX12_isHeard_38 (by (try dsimp only); (repeat (first | rw [up_s] | rw [up_n (by omega)])) <;> first | rfl | assumption) (nI_toInt (by omega)) (xg (by omega) (y3 _ (by omega)).1) ?_
            refine ev_aload_n (pc := 39) dX12_isHeard_39 rfl ?_
            refine gf_X12_52 (pc := 40) rfl dX12_isHeard_40 (by (try dsimp only); (repeat (first | rw [up_s] | rw [up_n (by omega)])) <;> first | rfl | assumption) ?_
            refine ev_iload_n (pc := 43) dX12_isHeard_43 rfl ?_
            refine ev_iald (pc := 44) dX12_isHeard_44 (by (try dsimp only); (repeat (first | rw [up_s] | rw [up_n (by omega)])) <;> first | rfl | assumption) (nI_toInt (by omega)) (xg (by omega) u2) ?_
            refine ev_icmp_ne (pc := 45) 52 dX12_isHeard_45 (by decide) (fun c_45 => ?_) (fun c_45 => ?_)
            · (try simp (disch := omega) only [i32_lti, i32_lei, i32_eqi, nI_toInt, i32z] at c_45)
              refine ev_iconst (pc := 52) (v := nI 0) dX12_isHeard_52 kc_0 ?_
              refine ev_istore_n (pc := 53) (L' := [_, _, _, _]) dX12_isHeard_53 (Nat.le_of_ble_eq_true rfl) rfl ?_
              refine ev_iinc (pc := 54) (L' := [_, _, _, _]) dX12_isHeard_54 rfl (nI_1 _) rfl ?_
              refine ev_goto (pc := 57) 4 dX12_isHeard_57 (by decide) ?_
              first
              | (rw [if_pos ⟨by omega, by omega⟩]; exact qT)
              | (rw [if_neg (by omega)]; exact qF)
            · (try simp (disch := omega) only [i32_lti, i32_lei, i32_eqi, nI_toInt, i32z] at c_45)
              refine ev_iconst (pc := 48) (v := nI 1) dX12_isHeard_48 kc_1 ?_
              refine ev_goto (pc := 49) 53 dX12_isHeard_49 (by decide) ?_
              refine ev_istore_n (pc := 53) (L' := [_, _, _, _]) dX12_isHeard_53 (Nat.le_of_ble_eq_true rfl) rfl ?_
              refine ev_iinc (pc := 54) (L' := [_, _, _, _]) dX12_isHeard_54 rfl (nI_1 _) rfl ?_
              refine ev_goto (pc := 57) 4 dX12_isHeard_57 (by decide) ?_
              first
              | (rw [if_pos ⟨by omega, by omega⟩]; exact qT)
              | (rw [if_neg (by omega)]; exact qF)
  refine ev_iconst (pc := 0) (v := nI 1) dX12_isHeard_0 kc_1 ?_
  refine ev_istore_n (pc := 1) (L' := [_, _, _, _]) dX12_isHeard_1 (Nat.le_of_ble_eq_true rfl) rfl ?_
  refine ev_iconst (pc := 2) (v := nI 0) dX12_isHeard_2 kc_0 ?_
  refine ev_istore_n (pc := 3) (L' := [_, _, _, _]) dX12_isHeard_3 (Nat.le_of_ble_eq_true rfl) rfl ?_
  exact loopT n 0 (by omega)
theorem c_M_orders_bad {x : Int32} (hx : ¬ (x.toInt = 0 ∨ x.toInt = 1)) : Ct X 4 mt_X12_orders [.ref m, .int x] (h, z) 0 0 (QP (.int (-1)) (h, z)) := by
  refine mk_X12_orders (Nat.le_of_ble_eq_true rfl) (L := [.ref m, .int x, .retAddr 0, .retAddr 0, .retAddr 0, .retAddr 0]) rfl ?_
  refine ev_iload_n (pc := 0) dX12_orders_0 rfl ?_
  refine ev_i2l (pc := 1) dX12_orders_1 ?_
  refine ev_lconst (pc := 2) (v := 0) dX12_orders_2 kl_0 ?_
  refine ev_lconst (pc := 3) (v := 1) dX12_orders_3 kl_1 ?_
  refine iv_X12_63 (pc := 4) rfl dX12_orders_4 (Nat.le_of_ble_eq_true rfl) (Nat.le_of_ble_eq_true rfl) (Nat.le_of_ble_eq_true rfl) (Nat.le_of_ble_eq_true rfl) (c_in _ _ _) (kp ?_)
  rw [in_f (x := x) (b := 1) (by omega) _ _ rfl rfl]
  refine ev_if_ne (pc := 7) 12 dX12_orders_7 (by decide) (fun c_7 => ?_) (fun c_7 => ?_)
  · exact absurd rfl c_7
  · (try simp (disch := omega) only [i32_lti, i32_lei, i32_eqi, nI_toInt, i32z] at c_7)
    refine ev_iconst (pc := 10) (v := (-1)) dX12_orders_10 kc_m1 ?_
    refine ev_iret (pc := 11) dX12_orders_11 rfl rfl (Nat.le_of_ble_eq_true rfl) (Nat.le_of_ble_eq_true rfl) ?_
    exact ⟨rfl, rfl⟩
theorem c_M_surely_bad {e : Int32} (hx : ¬ (1 ≤ e.toInt ∧ e.toInt ≤ 30)) : Ct X 4 mt_X12_surely [.ref m, .int e] (h, z) 0 0 (QP (.int (-1)) (h, z)) := by
  refine mk_X12_surely (Nat.le_of_ble_eq_true rfl) (L := [.ref m, .int e, .retAddr 0, .retAddr 0, .retAddr 0, .retAddr 0]) rfl ?_
  refine ev_iload_n (pc := 0) dX12_surely_0 rfl ?_
  refine ev_i2l (pc := 1) dX12_surely_1 ?_
  refine ev_lconst (pc := 2) (v := 1) dX12_surely_2 kl_1 ?_
  refine ev_ldc2_w (pc := 3) dX12_surely_3 tw_1126 ?_
  refine iv_X12_63 (pc := 6) rfl dX12_surely_6 (Nat.le_of_ble_eq_true rfl) (Nat.le_of_ble_eq_true rfl) (Nat.le_of_ble_eq_true rfl) (Nat.le_of_ble_eq_true rfl) (c_in _ _ _) (kp ?_)
  rw [decide_eq_false (by rw [Int32.toInt_toInt64]; exact hx)]
  refine ev_if_ne (pc := 9) 14 dX12_surely_9 (by decide) (fun c_9 => ?_) (fun c_9 => ?_)
  · exact absurd rfl c_9
  · (try simp (disch := omega) only [i32_lti, i32_lei, i32_eqi, nI_toInt, i32z] at c_9)
    refine ev_iconst (pc := 12) (v := (-1)) dX12_surely_12 kc_m1 ?_
    refine ev_iret (pc := 13) dX12_surely_13 rfl rfl (Nat.le_of_ble_eq_true rfl) (Nat.le_of_ble_eq_true rfl) ?_
    exact ⟨rfl, rfl⟩
theorem c_M_orders (p : pM h m cs B N P I J wn op n tr) (b9 : wB mx B) (hmx : mx ≤ 10) {x : Int32} (hx : x.toInt = 0 ∨ x.toInt = 1) : Ct X 4 mt_X12_orders [.ref m, .int x] (h, z) 0 0 (Qi (fun r S' => r = aOrd B wn op n x ∧ S'.2 = z ∧ hfr h S'.1 m 17 ∧ pM S'.1 m cs B N P I J wn op n tr)) := by
  obtain ⟨⟨at_, bg, tk, td, rt, rn, rm, rd, mn, bd, br, po⟩, px, pr, pb, pn, pq, pu, por, ph, pk⟩ := id p
  have h6 := b9.1
  have hpos := nW_pos B
  have po' := po
  unfold pMO at po'
  have l19 := nW_le b9
  have lf := fN_le B
  refine mk_X12_orders (Nat.le_of_ble_eq_true rfl) (L := [.ref m, .int x, .retAddr 0, .retAddr 0, .retAddr 0, .retAddr 0]) rfl ?_
  have last : ∀ (h1 : Hp) (v5 : Value) (mn2 : Int32), True → mFs h h1 m → pMO h1 m (nI cs.length) at_ bg tk td rt rn rm rd (nI (bT B)) (nI (bK B)) (nI (bM B)) (nI (bD B)) (nI 0) (nI (tS N)) (nI P.length) (mn2) bd br (nI n) tr → mRo h1 m → mOr h1 m → Ev X (mi_X12_orders 4 0 0) (Qi (fun r S' => r = aOrd B wn op n x ∧ S'.2 = z ∧ hfr h S'.1 m 17 ∧ pM S'.1 m cs B N P I J wn op n tr)) 0 0 (h1, z) 26 [.ref m, .int x, .int (nI (orF (orP B wn op n) (fun k => cod (fW B k)) (fN B)).1), .int (nI (orF (orP B wn op n) (fun k => cod (fW B k)) (fN B)).2), .int (nI 0), v5] [] := by
    intro h1 v5 mn2 iv f1 o1 r1 q1
    have o1' := o1
    unfold pMO at o1'
    have ea : aOrd B wn op n x = if x.toInt = 0 then nI (orF (orP B wn op n) (fun k => cod (fW B k)) (fN B)).1 else nI (orF (orP B wn op n) (fun k => cod (fW B k)) (fN B)).2 := rfl
    refine ev_iload (pc := 26) dX12_orders_26 rfl ?_
    refine ev_if_eq (pc := 28) 81 dX12_orders_28 (by decide) (fun c_28 => ?_) (fun c_28 => ?_)
    · (try simp (disch := omega) only [i32_lti, i32_lei, i32_eqi, nI_toInt, i32z] at c_28)
      refine ev_iload_n (pc := 81) dX12_orders_81 rfl ?_
      refine ev_if_ne (pc := 82) 89 dX12_orders_82 (by decide) (fun c_82 => ?_) (fun c_82 => ?_)
      · (try simp (disch := omega) only [i32_lti, i32_lei, i32_eqi, nI_toInt, i32z] at c_82)
        refine ev_iload_n (pc := 89) dX12_orders_89 rfl ?_
        refine ev_iret (pc := 90) dX12_orders_90 rfl rfl (Nat.le_of_ble_eq_true rfl) (Nat.le_of_ble_eq_true rfl) ?_
        first | exact ⟨_, rfl, by rw [ea, if_pos c_82], rfl, (fun q a => f1 q (by omega) (by omega) (by omega)), p.fs f1 ⟨at_, bg, tk, td, rt, rn, rm, rd, _, bd, br, o1⟩ r1 q1⟩ | exact ⟨_, rfl, by rw [ea, if_neg c_82], rfl, (fun q a => f1 q (by omega) (by omega) (by omega)), p.fs f1 ⟨at_, bg, tk, td, rt, rn, rm, rd, _, bd, br, o1⟩ r1 q1⟩
      · (try simp (disch := omega) only [i32_lti, i32_lei, i32_eqi, nI_toInt, i32z] at c_82)
        refine ev_iload_n (pc := 85) dX12_orders_85 rfl ?_
        refine ev_goto (pc := 86) 90 dX12_orders_86 (by decide) ?_
        refine ev_iret (pc := 90) dX12_orders_90 rfl rfl (Nat.le_of_ble_eq_true rfl) (Nat.le_of_ble_eq_true rfl) ?_
        first | exact ⟨_, rfl, by rw [ea, if_pos c_82], rfl, (fun q a => f1 q (by omega) (by omega) (by omega)), p.fs f1 ⟨at_, bg, tk, td, rt, rn, rm, rd, _, bd, br, o1⟩ r1 q1⟩ | exact ⟨_, rfl, by rw [ea, if_neg c_82], rfl, (fun q a => f1 q (by omega) (by omega) (by omega)), p.fs f1 ⟨at_, bg, tk, td, rt, rn, rm, rd, _, bd, br, o1⟩ r1 q1⟩
    · exact absurd rfl c_28
  have inner : ∀ (c i : Nat) (w : List Nat) (h2 : Hp) (v5 : Value) , i + c = (lev (bT B) (bT B)).length → (lev (bT B) (bT B))[i]? = some w → True → mFs h h2 m → pMO h2 m (nI cs.length) at_ bg tk td rt rn rm rd (nI (bT B)) (nI (bK B)) (nI (bM B)) (nI (bD B)) (nI 0) (nI (tS N)) (nI P.length) (nI (bT B)) bd br (nI n) tr → mRo h2 m → mOr h2 m → mOd h2 m w → Ev X (mi_X12_orders 4 0 0) (Qi (fun r S' => r = aOrd B wn op n x ∧ S'.2 = z ∧ hfr h S'.1 m 17 ∧ pM S'.1 m cs B N P I J wn op n tr)) 0 0 (h2, z) 26 [.ref m, .int x, .int (nI (orF (orP B wn op n) (fun k => cod (fW B k)) i).1), .int (nI (orF (orP B wn op n) (fun k => cod (fW B k)) i).2), .int (nI 1), v5] [] := by
    intro c
    induction c with
    | zero =>
      intro i w h2 v5 hc hi iv
      rw [List.getElem?_eq_none (by omega)] at hi
      cases hi
    | succ c ihC =>
      intro i w h2 v5 hc hi iv f2 o2 r2 q2 d2
      obtain ⟨eW, hI, hl, hnd, hwn, hil⟩ := rW_lev (Nat.le_refl _) hi
      have eF : fW B i = w := eW
      have hnx := lev_next (bT B) (bT B) (Nat.le_refl _) i w hi
      have h30 := (out30 b9 (by omega) hwn).1
      have h64 := (out30 b9 (by omega) hwn).2
      have o2k : pMO h2 m (nI cs.length) at_ bg tk td rt rn rm rd (nI (bT B)) (nI (bK B)) (nI (bM B)) (nI (bD B)) (nI 0) (nI (tS N)) (nI P.length) (nI w.length) bd br (nI n) tr := by rw [hl]; exact o2
      have o2' := o2k
      unfold pMO at o2'
      obtain ⟨fo, d21, d22⟩ := id d2
      obtain ⟨oa, ob, oc, q21, q22, q23⟩ := id q2
      have pb2 : mBk h2 m B (nI 0) := pb.fr (fun q a b => f2 q (by omega) (by omega) (by omega))
      have next : ∀ (h3 : Hp) (v5 : Value) , True → mFs h h3 m → pMO h3 m (nI cs.length) at_ bg tk td rt rn rm rd (nI (bT B)) (nI (bK B)) (nI (bM B)) (nI (bD B)) (nI 0) (nI (tS N)) (nI P.length) (nI w.length) bd br (nI n) tr → mRo h3 m → mOr h3 m → mOd h3 m w → Ev X (mi_X12_orders 4 0 0) (Qi (fun r S' => r = aOrd B wn op n x ∧ S'.2 = z ∧ hfr h S'.1 m 17 ∧ pM S'.1 m cs B N P I J wn op n tr)) 0 0 (h3, z) 72 [.ref m, .int x, .int (nI (orF (orP B wn op n) (fun k => cod (fW B k)) (i + 1)).1), .int (nI (orF (orP B wn op n) (fun k => cod (fW B k)) (i + 1)).2), .int (nI 1), v5] [] := by
        intro h3 v5 iv f3 o3k r3 q3 d3
        have o3' := o3k
        unfold pMO at o3'
        obtain ⟨oa, ob, oc, q31, q32, q33⟩ := id q3
        cases e9 : nxL (bT B) w.length w with
        | none =>
          have e10 := e9
          rw [hl] at e10
          have hend : (lev (bT B) (bT B))[i + 1]? = none := by rw [hnx]; exact e10
          have hlen : (lev (bT B) (bT B)).length = i + 1 := by have := List.getElem?_eq_none_iff.mp hend; omega
          have eo : fN B = i + 1 := by rw [fN_lev]; exact hlen
          (try rw [← eo])
          refine ev_aload_n (pc := 72) dX12_orders_72 rfl ?_
          refine iv_X12_225 (pc := 73) rfl dX12_orders_73 (by (try dsimp only); (repeat (first | rw [up_s] | rw [up_n (by omega)])) <;> first | rfl | assumption) (Nat.le_of_ble_eq_true rfl) (Nat.le_of_ble_eq_true rfl) (Nat.le_of_ble_eq_true rfl) (Nat.le_of_ble_eq_true rfl) (c_mTurns o3k h6 d3 (by omega) hnd hwn) (ki (fun r S' hS => ?_))
          obtain ⟨h4, z'⟩ := S'
          obtain ⟨rfl, rfl, f4, ⟨fo4, d4⟩, -⟩ := hS
          rw [e9]
          have o4 := (f4 m (by omega)).trans o3'
          refine ev_istore (pc := 76) (L' := [_, _, _, _, _, _]) dX12_orders_76 (Nat.le_of_ble_eq_true rfl) rfl ?_
          refine ev_goto (pc := 78) 26 dX12_orders_78 (by decide) ?_
          exact last h4 _ _ (by (try rw [eo]); exact iv) (fun q a b c => (f4 q (by omega)).trans (f3 q a b c)) (by unfold pMO; exact o4) (r3.fr (f4 _ (by omega))) ⟨fo4, ob, oc, d4, (f4 _ (by omega)).trans q32, (f4 _ (by omega)).trans q33⟩
        | some w' =>
          have e10 := e9
          rw [hl] at e10
          have hi2 : (lev (bT B) (bT B))[i + 1]? = some w' := by rw [hnx]; exact e10
          rw [hl] at o3'
          refine ev_aload_n (pc := 72) dX12_orders_72 rfl ?_
          refine iv_X12_225 (pc := 73) rfl dX12_orders_73 (by (try dsimp only); (repeat (first | rw [up_s] | rw [up_n (by omega)])) <;> first | rfl | assumption) (Nat.le_of_ble_eq_true rfl) (Nat.le_of_ble_eq_true rfl) (Nat.le_of_ble_eq_true rfl) (Nat.le_of_ble_eq_true rfl) (c_mTurns o3k h6 d3 (by omega) hnd hwn) (ki (fun r S' hS => ?_))
          obtain ⟨h4, z'⟩ := S'
          obtain ⟨rfl, rfl, f4, -, d4⟩ := hS
          rw [e9]
          have o4 := (f4 m (by omega)).trans o3'
          have d4 := d4 w' e9
          refine ev_istore (pc := 76) (L' := [_, _, _, _, _, _]) dX12_orders_76 (Nat.le_of_ble_eq_true rfl) rfl ?_
          refine ev_goto (pc := 78) 26 dX12_orders_78 (by decide) ?_
          exact ihC (i + 1) w' h4 _ (by omega) hi2 iv (fun q a b c => (f4 q (by omega)).trans (f3 q a b c)) o4 (r3.fr (f4 _ (by omega))) ⟨d4.choose, ob, oc, d4.choose_spec.1, (f4 _ (by omega)).trans q32, (f4 _ (by omega)).trans q33⟩ d4
      have es : orF (orP B wn op n) (fun k => cod (fW B k)) (i + 1) = if orP B wn op n i = true then ((orF (orP B wn op n) (fun k => cod (fW B k)) i).1 + 1, if (orF (orP B wn op n) (fun k => cod (fW B k)) i).1 = 0 then cod (fW B i) else (orF (orP B wn op n) (fun k => cod (fW B k)) i).2) else orF (orP B wn op n) (fun k => cod (fW B k)) i := rfl
      have hle := orF_le (orP B wn op n) (fun k => cod (fW B k)) i
      have hil2 : i < 1957 := by omega
      refine ev_iload (pc := 26) dX12_orders_26 rfl ?_
      refine ev_if_eq (pc := 28) 81 dX12_orders_28 (by decide) (fun c_28 => ?_) (fun c_28 => ?_)
      · exact absurd c_28 (by decide)
      · (try simp (disch := omega) only [i32_lti, i32_lei, i32_eqi, nI_toInt, i32z] at c_28)
        refine ev_aload_n (pc := 31) dX12_orders_31 rfl ?_
        refine ev_aload_n (pc := 32) dX12_orders_32 rfl ?_
        refine iv_X12_203 (pc := 33) rfl dX12_orders_33 (by (try dsimp only); (repeat (first | rw [up_s] | rw [up_n (by omega)])) <;> first | rfl | assumption) (Nat.le_of_ble_eq_true rfl) (Nat.le_of_ble_eq_true rfl) (Nat.le_of_ble_eq_true rfl) (Nat.le_of_ble_eq_true rfl) (c_mSaves (w := w) o2k pb2 b9 hmx d21 d22 hwn (by omega) r2 ⟨ob, oc, q22, q23⟩) (ki (fun r S' hS => ?_))
        obtain ⟨h3, z'⟩ := S'
        obtain ⟨rfl, rfl, f3, r3, g3, k3, y1, y2, y3⟩ := hS
        have o3k : pMO h3 m (nI cs.length) at_ bg tk td rt rn rm rd (nI (bT B)) (nI (bK B)) (nI (bM B)) (nI (bD B)) (nI 0) (nI (tS N)) (nI P.length) (nI w.length) bd br (nI n) tr := (f3 m (by omega) (by omega) (by omega)).trans o2k
        have o3' := o3k
        unfold pMO at o3'
        have d3 : mOd h3 m w := ⟨fo, (f3 _ (by omega) (by omega) (by omega)).trans d21, d22⟩
        have d31 := (f3 (m + 11) (by omega) (by omega) (by omega)).trans d21
        have f13 : mFs h h3 m := fun q a b c => (f3 q b (by omega) (by omega)).trans (f2 q a b c)
        have ph3 : mHd h3 m wn op n := ph.fr (fun q a b => f13 q (by omega) (by omega) (by omega))
        have nx := fun v5 iv => next h3 v5 iv f13 o3k r3 ⟨fo, g3, k3, d31, y1, y2⟩ d3
        refine iv_X12_235 (pc := 36) rfl dX12_orders_36 (by (try dsimp only); (repeat (first | rw [up_s] | rw [up_n (by omega)])) <;> first | rfl | assumption) (Nat.le_of_ble_eq_true rfl) (Nat.le_of_ble_eq_true rfl) (Nat.le_of_ble_eq_true rfl) (Nat.le_of_ble_eq_true rfl) (c_mIsHeard o3k ph3 ⟨g3, k3, y1, y2, y3⟩ h30 h64) (kp ?_)
        refine ev_istore (pc := 39) (L' := [_, _, _, _, _, _]) dX12_orders_39 (Nat.le_of_ble_eq_true rfl) rfl ?_
        refine ev_iload (pc := 41) dX12_orders_41 rfl ?_
        refine ev_if_eq (pc := 43) 57 dX12_orders_43 (by decide) (fun c_43 => ?_) (fun c_43 => ?_)
        · simp only [b2i_e0, Bool.not_eq_false] at c_43
          rw [if_neg (by rw [show orP B wn op n i = false by unfold orP; rw [eF]; exact c_43]; decide)] at es
          have nx2 := nx (.int (b2i (asH (outW B w) wn op n 0)))
          rw [es] at nx2
          refine ev_iload_n (pc := 57) dX12_orders_57 rfl ?_
          refine ev_istore_n (pc := 58) (L' := [_, _, _, _, _, _]) dX12_orders_58 (Nat.le_of_ble_eq_true rfl) rfl ?_
          refine ev_iload_n (pc := 59) dX12_orders_59 rfl ?_
          refine ev_iload (pc := 60) dX12_orders_60 rfl ?_
          refine ev_if_eq (pc := 62) 69 dX12_orders_62 (by decide) (fun c_62 => ?_) (fun c_62 => ?_)
          · simp only [b2i_e0, Bool.not_eq_false] at c_62
            refine ev_iconst (pc := 69) (v := nI 0) dX12_orders_69 kc_0 ?_
            refine ev_iadd (pc := 70) dX12_orders_70 ?_
            (try rw [nI_add])
            refine ev_istore_n (pc := 71) (L' := [_, _, _, _, _, _]) dX12_orders_71 (Nat.le_of_ble_eq_true rfl) rfl ?_
            first
            | exact absurd (c_62.symm.trans c_43) (by decide)
            | exact nx2 trivial
          · simp only [b2i_e0, Bool.not_eq_false] at c_62
            refine ev_iconst (pc := 65) (v := nI 1) dX12_orders_65 kc_1 ?_
            refine ev_goto (pc := 66) 70 dX12_orders_66 (by decide) ?_
            refine ev_iadd (pc := 70) dX12_orders_70 ?_
            (try rw [nI_add])
            refine ev_istore_n (pc := 71) (L' := [_, _, _, _, _, _]) dX12_orders_71 (Nat.le_of_ble_eq_true rfl) rfl ?_
            first
            | exact absurd (c_62.symm.trans c_43) (by decide)
            | exact nx2 trivial
        · simp only [b2i_e0, Bool.not_eq_false] at c_43
          rw [if_pos (show orP B wn op n i = true by unfold orP; rw [eF]; exact c_43)] at es
          have nx2 := nx (.int (b2i (asH (outW B w) wn op n 0)))
          rw [es] at nx2
          dsimp only at nx2
          refine ev_iload_n (pc := 46) dX12_orders_46 rfl ?_
          refine ev_if_ne (pc := 47) 57 dX12_orders_47 (by decide) (fun c_47 => ?_) (fun c_47 => ?_)
          · (try simp (disch := omega) only [i32_lti, i32_lei, i32_eqi, nI_toInt, i32z] at c_47)
            rw [if_neg (by omega)] at nx2
            refine ev_iload_n (pc := 57) dX12_orders_57 rfl ?_
            refine ev_istore_n (pc := 58) (L' := [_, _, _, _, _, _]) dX12_orders_58 (Nat.le_of_ble_eq_true rfl) rfl ?_
            refine ev_iload_n (pc := 59) dX12_orders_59 rfl ?_
            refine ev_iload (pc := 60) dX12_orders_60 rfl ?_
            refine ev_if_eq (pc := 62) 69 dX12_orders_62 (by decide) (fun c_62 => ?_) (fun c_62 => ?_)
            · simp only [b2i_e0, Bool.not_eq_false] at c_62
              refine ev_iconst (pc := 69) (v := nI 0) dX12_orders_69 kc_0 ?_
              refine ev_iadd (pc := 70) dX12_orders_70 ?_
              (try rw [nI_add])
              refine ev_istore_n (pc := 71) (L' := [_, _, _, _, _, _]) dX12_orders_71 (Nat.le_of_ble_eq_true rfl) rfl ?_
              first
              | exact absurd (c_62.symm.trans c_43) (by decide)
              | exact nx2 trivial
            · simp only [b2i_e0, Bool.not_eq_false] at c_62
              refine ev_iconst (pc := 65) (v := nI 1) dX12_orders_65 kc_1 ?_
              refine ev_goto (pc := 66) 70 dX12_orders_66 (by decide) ?_
              refine ev_iadd (pc := 70) dX12_orders_70 ?_
              (try rw [nI_add])
              refine ev_istore_n (pc := 71) (L' := [_, _, _, _, _, _]) dX12_orders_71 (Nat.le_of_ble_eq_true rfl) rfl ?_
              first
              | exact absurd (c_62.symm.trans c_43) (by decide)
              | exact nx2 trivial
          · (try simp (disch := omega) only [i32_lti, i32_lei, i32_eqi, nI_toInt, i32z] at c_47)
            rw [if_pos (by omega), eF] at nx2
            refine ev_aload_n (pc := 50) dX12_orders_50 rfl ?_
            refine iv_X12_222 (pc := 51) rfl dX12_orders_51 (by (try dsimp only); (repeat (first | rw [up_s] | rw [up_n (by omega)])) <;> first | rfl | assumption) (Nat.le_of_ble_eq_true rfl) (Nat.le_of_ble_eq_true rfl) (Nat.le_of_ble_eq_true rfl) (Nat.le_of_ble_eq_true rfl) (c_mCode o3k d3 (fun x hx => by have := hwn x hx; omega) (by omega)) (kp ?_)
            refine ev_goto (pc := 54) 58 dX12_orders_54 (by decide) ?_
            refine ev_istore_n (pc := 58) (L' := [_, _, _, _, _, _]) dX12_orders_58 (Nat.le_of_ble_eq_true rfl) rfl ?_
            refine ev_iload_n (pc := 59) dX12_orders_59 rfl ?_
            refine ev_iload (pc := 60) dX12_orders_60 rfl ?_
            refine ev_if_eq (pc := 62) 69 dX12_orders_62 (by decide) (fun c_62 => ?_) (fun c_62 => ?_)
            · simp only [b2i_e0, Bool.not_eq_false] at c_62
              refine ev_iconst (pc := 69) (v := nI 0) dX12_orders_69 kc_0 ?_
              refine ev_iadd (pc := 70) dX12_orders_70 ?_
              (try rw [nI_add])
              refine ev_istore_n (pc := 71) (L' := [_, _, _, _, _, _]) dX12_orders_71 (Nat.le_of_ble_eq_true rfl) rfl ?_
              first
              | exact absurd (c_62.symm.trans c_43) (by decide)
              | exact nx2 trivial
            · simp only [b2i_e0, Bool.not_eq_false] at c_62
              refine ev_iconst (pc := 65) (v := nI 1) dX12_orders_65 kc_1 ?_
              refine ev_goto (pc := 66) 70 dX12_orders_66 (by decide) ?_
              refine ev_iadd (pc := 70) dX12_orders_70 ?_
              (try rw [nI_add])
              refine ev_istore_n (pc := 71) (L' := [_, _, _, _, _, _]) dX12_orders_71 (Nat.le_of_ble_eq_true rfl) rfl ?_
              first
              | exact absurd (c_62.symm.trans c_43) (by decide)
              | exact nx2 trivial
  obtain ⟨oa, ob, oc, q11, q12, q13⟩ := id por
  have hh := lev_head (bT B) (bT B) (Nat.le_refl _)
  refine ev_iload_n (pc := 0) dX12_orders_0 rfl ?_
  refine ev_i2l (pc := 1) dX12_orders_1 ?_
  refine ev_lconst (pc := 2) (v := 0) dX12_orders_2 kl_0 ?_
  refine ev_lconst (pc := 3) (v := 1) dX12_orders_3 kl_1 ?_
  refine iv_X12_63 (pc := 4) rfl dX12_orders_4 (Nat.le_of_ble_eq_true rfl) (Nat.le_of_ble_eq_true rfl) (Nat.le_of_ble_eq_true rfl) (Nat.le_of_ble_eq_true rfl) (c_in _ _ _) (kp ?_)
  rw [show decide ((0 : Int64).toInt ≤ x.toInt64.toInt ∧ x.toInt64.toInt ≤ (1 : Int64).toInt) = true from decide_eq_true (by rw [Int32.toInt_toInt64]; show 0 ≤ x.toInt ∧ x.toInt ≤ 1; omega)]
  refine ev_if_ne (pc := 7) 12 dX12_orders_7 (by decide) (fun c_7 => ?_) (fun c_7 => ?_)
  · (try simp (disch := omega) only [i32_lti, i32_lei, i32_eqi, nI_toInt, i32z] at c_7)
    refine ev_iconst (pc := 12) (v := nI 0) dX12_orders_12 kc_0 ?_
    refine ev_istore_n (pc := 13) (L' := [_, _, _, _, _, _]) dX12_orders_13 (Nat.le_of_ble_eq_true rfl) rfl ?_
    refine ev_iconst (pc := 14) (v := nI 0) dX12_orders_14 kc_0 ?_
    refine ev_istore_n (pc := 15) (L' := [_, _, _, _, _, _]) dX12_orders_15 (Nat.le_of_ble_eq_true rfl) rfl ?_
    refine ev_aload_n (pc := 16) dX12_orders_16 rfl ?_
    refine ev_aload_n (pc := 17) dX12_orders_17 rfl ?_
    refine gf_X12_137 (pc := 18) rfl dX12_orders_18 (by (try dsimp only); (repeat (first | rw [up_s] | rw [up_n (by omega)])) <;> first | rfl | assumption) ?_
    refine iv_X12_219 (pc := 21) rfl dX12_orders_21 (by (try dsimp only); (repeat (first | rw [up_s] | rw [up_n (by omega)])) <;> first | rfl | assumption) (Nat.le_of_ble_eq_true rfl) (Nat.le_of_ble_eq_true rfl) (Nat.le_of_ble_eq_true rfl) (Nat.le_of_ble_eq_true rfl) (c_mStarts (n := bT B) po h6 (Nat.le_refl _) ⟨oa, q11⟩) (ki (fun r S' hS => ?_))
    obtain ⟨h2, z'⟩ := S'
    obtain ⟨rfl, rfl, f2, o2, d2⟩ := hS
    refine ev_istore (pc := 24) (L' := [_, _, _, _, _, _]) dX12_orders_24 (Nat.le_of_ble_eq_true rfl) rfl ?_
    exact inner (lev (bT B) (bT B)).length 0 (rf (bT B) (bT B) []) h2 _ (by omega) hh trivial (fun q a b c => f2 q a (by omega)) o2 (pq.fr (f2 _ (by omega) (by omega))) ⟨d2.choose, ob, oc, d2.choose_spec.1, (f2 _ (by omega) (by omega)).trans q12, (f2 _ (by omega) (by omega)).trans q13⟩ d2
  · exact absurd c_7 (by decide)
theorem c_M_surely (p : pM h m cs B N P I J wn op n tr) (b9 : wB mx B) (hmx : mx ≤ 10) {e : Nat} (h1e : 1 ≤ e) (he30 : e ≤ 30) : Ct X 4 mt_X12_surely [.ref m, .int (nI e)] (h, z) 0 0 (Qi (fun r S' => r = aSure B wn op n e ∧ S'.2 = z ∧ hfr h S'.1 m 17 ∧ pM S'.1 m cs B N P I J wn op n tr)) := by
  obtain ⟨⟨at_, bg, tk, td, rt, rn, rm, rd, mn, bd, br, po⟩, px, pr, pb, pn, pq, pu, por, ph, pk⟩ := id p
  have h6 := b9.1
  have hpos := nW_pos B
  have po' := po
  unfold pMO at po'
  refine mk_X12_surely (Nat.le_of_ble_eq_true rfl) (L := [.ref m, .int (nI e), .retAddr 0, .retAddr 0, .retAddr 0, .retAddr 0]) rfl ?_
  have last : ∀ (h1 : Hp) (v4 v5 : Value) (mn2 : Int32), True → mFs h h1 m → pMO h1 m (nI cs.length) at_ bg tk td rt rn rm rd (nI (bT B)) (nI (bK B)) (nI (bM B)) (nI (bD B)) (nI 0) (nI (tS N)) (nI P.length) (mn2) bd br (nI n) tr → mRo h1 m → mOr h1 m → Ev X (mi_X12_surely 4 0 0) (Qi (fun r S' => r = aSure B wn op n e ∧ S'.2 = z ∧ hfr h S'.1 m 17 ∧ pM S'.1 m cs B N P I J wn op n tr)) 0 0 (h1, z) 26 [.ref m, .int (nI e), .int (oI (suF (suP B wn op n e) (fun k => gN (outW B (fW B k)) (e - 1)) (fN B))), .int (nI 0), v4, v5] [] := by
    intro h1 v4 v5 mn2 iv f1 o1 r1 q1
    have o1' := o1
    unfold pMO at o1'
    refine ev_iload_n (pc := 26) dX12_surely_26 rfl ?_
    refine ev_if_eq (pc := 27) 103 dX12_surely_27 (by decide) (fun c_27 => ?_) (fun c_27 => ?_)
    · (try simp (disch := omega) only [i32_lti, i32_lei, i32_eqi, nI_toInt, i32z] at c_27)
      refine ev_iload_n (pc := 103) dX12_surely_103 rfl ?_
      refine ev_iret (pc := 104) dX12_surely_104 rfl rfl (Nat.le_of_ble_eq_true rfl) (Nat.le_of_ble_eq_true rfl) ?_
      exact ⟨_, rfl, rfl, rfl, (fun q a => f1 q (by omega) (by omega) (by omega)), p.fs f1 ⟨at_, bg, tk, td, rt, rn, rm, rd, _, bd, br, o1⟩ r1 q1⟩
    · exact absurd rfl c_27
  have inner : ∀ (c i : Nat) (w : List Nat) (h2 : Hp) (v4 v5 : Value) , i + c = (lev (bT B) (bT B)).length → (lev (bT B) (bT B))[i]? = some w → True → mFs h h2 m → pMO h2 m (nI cs.length) at_ bg tk td rt rn rm rd (nI (bT B)) (nI (bK B)) (nI (bM B)) (nI (bD B)) (nI 0) (nI (tS N)) (nI P.length) (nI (bT B)) bd br (nI n) tr → mRo h2 m → mOr h2 m → mOd h2 m w → Ev X (mi_X12_surely 4 0 0) (Qi (fun r S' => r = aSure B wn op n e ∧ S'.2 = z ∧ hfr h S'.1 m 17 ∧ pM S'.1 m cs B N P I J wn op n tr)) 0 0 (h2, z) 26 [.ref m, .int (nI e), .int (oI (suF (suP B wn op n e) (fun k => gN (outW B (fW B k)) (e - 1)) i)), .int (nI 1), v4, v5] [] := by
    intro c
    induction c with
    | zero =>
      intro i w h2 v4 v5 hc hi iv
      rw [List.getElem?_eq_none (by omega)] at hi
      cases hi
    | succ c ihC =>
      intro i w h2 v4 v5 hc hi iv f2 o2 r2 q2 d2
      obtain ⟨eW, hI, hl, hnd, hwn, hil⟩ := rW_lev (Nat.le_refl _) hi
      have eF : fW B i = w := eW
      have hnx := lev_next (bT B) (bT B) (Nat.le_refl _) i w hi
      have h30 := (out30 b9 (by omega) hwn).1
      have h64 := (out30 b9 (by omega) hwn).2
      have o2k : pMO h2 m (nI cs.length) at_ bg tk td rt rn rm rd (nI (bT B)) (nI (bK B)) (nI (bM B)) (nI (bD B)) (nI 0) (nI (tS N)) (nI P.length) (nI w.length) bd br (nI n) tr := by rw [hl]; exact o2
      have o2' := o2k
      unfold pMO at o2'
      obtain ⟨fo, d21, d22⟩ := id d2
      obtain ⟨oa, ob, oc, q21, q22, q23⟩ := id q2
      have pb2 : mBk h2 m B (nI 0) := pb.fr (fun q a b => f2 q (by omega) (by omega) (by omega))
      have next : ∀ (h3 : Hp) (v4 v5 : Value) , True → mFs h h3 m → pMO h3 m (nI cs.length) at_ bg tk td rt rn rm rd (nI (bT B)) (nI (bK B)) (nI (bM B)) (nI (bD B)) (nI 0) (nI (tS N)) (nI P.length) (nI w.length) bd br (nI n) tr → mRo h3 m → mOr h3 m → mOd h3 m w → Ev X (mi_X12_surely 4 0 0) (Qi (fun r S' => r = aSure B wn op n e ∧ S'.2 = z ∧ hfr h S'.1 m 17 ∧ pM S'.1 m cs B N P I J wn op n tr)) 0 0 (h3, z) 95 [.ref m, .int (nI e), .int (oI (suF (suP B wn op n e) (fun k => gN (outW B (fW B k)) (e - 1)) (i + 1))), .int (nI 1), v4, v5] [] := by
        intro h3 v4 v5 iv f3 o3k r3 q3 d3
        have o3' := o3k
        unfold pMO at o3'
        obtain ⟨oa, ob, oc, q31, q32, q33⟩ := id q3
        cases e9 : nxL (bT B) w.length w with
        | none =>
          have e10 := e9
          rw [hl] at e10
          have hend : (lev (bT B) (bT B))[i + 1]? = none := by rw [hnx]; exact e10
          have hlen : (lev (bT B) (bT B)).length = i + 1 := by have := List.getElem?_eq_none_iff.mp hend; omega
          have eo : fN B = i + 1 := by rw [fN_lev]; exact hlen
          (try rw [← eo])
          refine ev_aload_n (pc := 95) dX12_surely_95 rfl ?_
          refine iv_X12_225 (pc := 96) rfl dX12_surely_96 (by (try dsimp only); (repeat (first | rw [up_s] | rw [up_n (by omega)])) <;> first | rfl | assumption) (Nat.le_of_ble_eq_true rfl) (Nat.le_of_ble_eq_true rfl) (Nat.le_of_ble_eq_true rfl) (Nat.le_of_ble_eq_true rfl) (c_mTurns o3k h6 d3 (by omega) hnd hwn) (ki (fun r S' hS => ?_))
          obtain ⟨h4, z'⟩ := S'
          obtain ⟨rfl, rfl, f4, ⟨fo4, d4⟩, -⟩ := hS
          rw [e9]
          have o4 := (f4 m (by omega)).trans o3'
          refine ev_istore_n (pc := 99) (L' := [_, _, _, _, _, _]) dX12_surely_99 (Nat.le_of_ble_eq_true rfl) rfl ?_
          refine ev_goto (pc := 100) 26 dX12_surely_100 (by decide) ?_
          exact last h4 _ _ _ (by (try rw [eo]); exact iv) (fun q a b c => (f4 q (by omega)).trans (f3 q a b c)) (by unfold pMO; exact o4) (r3.fr (f4 _ (by omega))) ⟨fo4, ob, oc, d4, (f4 _ (by omega)).trans q32, (f4 _ (by omega)).trans q33⟩
        | some w' =>
          have e10 := e9
          rw [hl] at e10
          have hi2 : (lev (bT B) (bT B))[i + 1]? = some w' := by rw [hnx]; exact e10
          rw [hl] at o3'
          refine ev_aload_n (pc := 95) dX12_surely_95 rfl ?_
          refine iv_X12_225 (pc := 96) rfl dX12_surely_96 (by (try dsimp only); (repeat (first | rw [up_s] | rw [up_n (by omega)])) <;> first | rfl | assumption) (Nat.le_of_ble_eq_true rfl) (Nat.le_of_ble_eq_true rfl) (Nat.le_of_ble_eq_true rfl) (Nat.le_of_ble_eq_true rfl) (c_mTurns o3k h6 d3 (by omega) hnd hwn) (ki (fun r S' hS => ?_))
          obtain ⟨h4, z'⟩ := S'
          obtain ⟨rfl, rfl, f4, -, d4⟩ := hS
          rw [e9]
          have o4 := (f4 m (by omega)).trans o3'
          have d4 := d4 w' e9
          refine ev_istore_n (pc := 99) (L' := [_, _, _, _, _, _]) dX12_surely_99 (Nat.le_of_ble_eq_true rfl) rfl ?_
          refine ev_goto (pc := 100) 26 dX12_surely_100 (by decide) ?_
          exact ihC (i + 1) w' h4 _ _ (by omega) hi2 iv (fun q a b c => (f4 q (by omega)).trans (f3 q a b c)) o4 (r3.fr (f4 _ (by omega))) ⟨d4.choose, ob, oc, d4.choose_spec.1, (f4 _ (by omega)).trans q32, (f4 _ (by omega)).trans q33⟩ d4
      have es : suF (suP B wn op n e) (fun k => gN (outW B (fW B k)) (e - 1)) (i + 1) = if suP B wn op n e i = true then (match suF (suP B wn op n e) (fun k => gN (outW B (fW B k)) (e - 1)) i with | none => some (gN (outW B (fW B i)) (e - 1)) | some b => some (b &&& gN (outW B (fW B i)) (e - 1))) else suF (suP B wn op n e) (fun k => gN (outW B (fW B k)) (e - 1)) i := rfl
      rw [eF] at es
      have hM : gN (outW B w) (e - 1) < 64 := gN_lt h64 (by omega) _
      have no : ∀ (h3 : Hp) (v4 : Value), mFs h h3 m → pMO h3 m (nI cs.length) at_ bg tk td rt rn rm rd (nI (bT B)) (nI (bK B)) (nI (bM B)) (nI (bD B)) (nI 0) (nI (tS N)) (nI P.length) (nI w.length) bd br (nI n) tr → mRo h3 m → mOr h3 m → mOd h3 m w → suP B wn op n e i = false → Ev X (mi_X12_surely 4 0 0) (Qi (fun r S' => r = aSure B wn op n e ∧ S'.2 = z ∧ hfr h S'.1 m 17 ∧ pM S'.1 m cs B N P I J wn op n tr)) 0 0 (h3, z) 58 [.ref m, .int (nI e), .int (oI (suF (suP B wn op n e) (fun k => gN (outW B (fW B k)) (e - 1)) i)), .int (nI 1), v4, .int (nI 0)] [] := by
        intro h3 v4 f3 o3 r3 q3 d3 hs
        have nx := next h3 v4 (.int (nI 0)) trivial f3 o3 r3 q3 d3
        rw [es, if_neg (by rw [hs]; decide)] at nx
        refine ev_iload (pc := 58) dX12_surely_58 rfl ?_
        refine ev_if_ne (pc := 60) 67 dX12_surely_60 (by decide) (fun c_60 => ?_) (fun c_60 => ?_)
        · exact absurd rfl c_60
        · (try simp (disch := omega) only [i32_lti, i32_lei, i32_eqi, nI_toInt, i32z] at c_60)
          refine ev_iload_n (pc := 63) dX12_surely_63 rfl ?_
          refine ev_goto (pc := 64) 94 dX12_surely_64 (by decide) ?_
          refine ev_istore_n (pc := 94) (L' := [_, _, _, _, _, _]) dX12_surely_94 (Nat.le_of_ble_eq_true rfl) rfl ?_
          exact nx
      have yes : ∀ (h3 : Hp) (v4 : Value), mFs h h3 m → pMO h3 m (nI cs.length) at_ bg tk td rt rn rm rd (nI (bT B)) (nI (bK B)) (nI (bM B)) (nI (bD B)) (nI 0) (nI (tS N)) (nI P.length) (nI w.length) bd br (nI n) tr → mRo h3 m → mOr h3 m → mOd h3 m w → (∃ k3 : Nat → Int32, h3 (m + 13) = some (.inr (0, .inl (ar 30 k3))) ∧ k3 (e - 1) = nI (gN (outW B w) (e - 1))) → suP B wn op n e i = true → Ev X (mi_X12_surely 4 0 0) (Qi (fun r S' => r = aSure B wn op n e ∧ S'.2 = z ∧ hfr h S'.1 m 17 ∧ pM S'.1 m cs B N P I J wn op n tr)) 0 0 (h3, z) 58 [.ref m, .int (nI e), .int (oI (suF (suP B wn op n e) (fun k => gN (outW B (fW B k)) (e - 1)) i)), .int (nI 1), v4, .int (nI 1)] [] := by
        intro h3 v4 f3 o3 r3 q3 d3 k3 hs
        obtain ⟨k3, y2, y3⟩ := k3
        have o3' := o3
        unfold pMO at o3'
        have nx := next h3 v4 (.int (nI 1)) trivial f3 o3 r3 q3 d3
        rw [es, if_pos hs] at nx
        cases eb : suF (suP B wn op n e) (fun k => gN (outW B (fW B k)) (e - 1)) i with
        | none =>
          rw [eb] at nx
          show Ev X _ _ _ _ _ _ [.ref m, .int (nI e), .int (-9), .int (nI 1), v4, .int (nI 1)] []
          refine ev_iload (pc := 58) dX12_surely_58 rfl ?_
          refine ev_if_ne (pc := 60) 67 dX12_surely_60 (by decide) (fun c_60 => ?_) (fun c_60 => ?_)
          · (try simp (disch := omega) only [i32_lti, i32_lei, i32_eqi, nI_toInt, i32z] at c_60)
            refine ev_iload_n (pc := 67) dX12_surely_67 rfl ?_
            refine ev_bipush (pc := 68) (v := (-9)) dX12_surely_68 kb_m9 ?_
            refine ev_icmp_ne (pc := 70) 84 dX12_surely_70 (by decide) (fun c_70 => ?_) (fun c_70 => ?_)
            · exact absurd rfl c_70
            · (try simp (disch := omega) only [i32_lti, i32_lei, i32_eqi, nI_toInt, i32z] at c_70)
              refine ev_aload_n (pc := 73) dX12_surely_73 rfl ?_
              refine gf_X12_46 (pc := 74) rfl dX12_surely_74 (by (try dsimp only); (repeat (first | rw [up_s] | rw [up_n (by omega)])) <;> first | rfl | assumption) ?_
              refine ev_iload_n (pc := 77) dX12_surely_77 rfl ?_
              refine ev_iconst (pc := 78) (v := nI 1) dX12_surely_78 kc_1 ?_
              refine ev_isub (pc := 79) dX12_surely_79 ?_
              rw [nI_sub1 (by omega)]
              refine ev_iald (pc := 80) dX12_surely_80 (by (try dsimp only); (repeat (first | rw [up_s] | rw [up_n (by omega)])) <;> first | rfl | assumption) (nI_toInt (by omega)) (xg (by omega) y3) ?_
              refine ev_goto (pc := 81) 94 dX12_surely_81 (by decide) ?_
              refine ev_istore_n (pc := 94) (L' := [_, _, _, _, _, _]) dX12_surely_94 (Nat.le_of_ble_eq_true rfl) rfl ?_
              exact nx
          · exact absurd c_60 (by decide)
        | some b =>
          have hb64 : b < 64 := suF_lt _ _ (fun k => gN_lt (out30 b9 (by omega) (fW_mem B k)).2 (by omega) _) i b eb
          rw [eb] at nx
          show Ev X _ _ _ _ _ _ [.ref m, .int (nI e), .int (nI b), .int (nI 1), v4, .int (nI 1)] []
          refine ev_iload (pc := 58) dX12_surely_58 rfl ?_
          refine ev_if_ne (pc := 60) 67 dX12_surely_60 (by decide) (fun c_60 => ?_) (fun c_60 => ?_)
          · (try simp (disch := omega) only [i32_lti, i32_lei, i32_eqi, nI_toInt, i32z] at c_60)
            refine ev_iload_n (pc := 67) dX12_surely_67 rfl ?_
            refine ev_bipush (pc := 68) (v := (-9)) dX12_surely_68 kb_m9 ?_
            refine ev_icmp_ne (pc := 70) 84 dX12_surely_70 (by decide) (fun c_70 => ?_) (fun c_70 => ?_)
            · (try simp (disch := omega) only [i32_lti, i32_lei, i32_eqi, nI_toInt, i32z] at c_70)
              refine ev_iload_n (pc := 84) dX12_surely_84 rfl ?_
              refine ev_aload_n (pc := 85) dX12_surely_85 rfl ?_
              refine gf_X12_46 (pc := 86) rfl dX12_surely_86 (by (try dsimp only); (repeat (first | rw [up_s] | rw [up_n (by omega)])) <;> first | rfl | assumption) ?_
              refine ev_iload_n (pc := 89) dX12_surely_89 rfl ?_
              refine ev_iconst (pc := 90) (v := nI 1) dX12_surely_90 kc_1 ?_
              refine ev_isub (pc := 91) dX12_surely_91 ?_
              rw [nI_sub1 (by omega)]
              refine ev_iald (pc := 92) dX12_surely_92 (by (try dsimp only); (repeat (first | rw [up_s] | rw [up_n (by omega)])) <;> first | rfl | assumption) (nI_toInt (by omega)) (xg (by omega) y3) ?_
              refine ev_iand (pc := 93) dX12_surely_93 ?_
              rw [bt_and _ hb64 _ hM]
              refine ev_istore_n (pc := 94) (L' := [_, _, _, _, _, _]) dX12_surely_94 (Nat.le_of_ble_eq_true rfl) rfl ?_
              exact nx
            · exfalso; have q9 := congrArg Int32.toInt (show nI b = -9 by first | exact c_70 | exact Decidable.not_not.mp c_70); rw [nI_toInt (by omega)] at q9; have q8 : ((b : Nat) : Int) = -9 := q9; omega
          · exact absurd c_60 (by decide)
      refine ev_iload_n (pc := 26) dX12_surely_26 rfl ?_
      refine ev_if_eq (pc := 27) 103 dX12_surely_27 (by decide) (fun c_27 => ?_) (fun c_27 => ?_)
      · exact absurd c_27 (by decide)
      · (try simp (disch := omega) only [i32_lti, i32_lei, i32_eqi, nI_toInt, i32z] at c_27)
        refine ev_aload_n (pc := 30) dX12_surely_30 rfl ?_
        refine iv_X12_203 (pc := 31) rfl dX12_surely_31 (by (try dsimp only); (repeat (first | rw [up_s] | rw [up_n (by omega)])) <;> first | rfl | assumption) (Nat.le_of_ble_eq_true rfl) (Nat.le_of_ble_eq_true rfl) (Nat.le_of_ble_eq_true rfl) (Nat.le_of_ble_eq_true rfl) (c_mSaves (w := w) o2k pb2 b9 hmx d21 d22 hwn (by omega) r2 ⟨ob, oc, q22, q23⟩) (ki (fun r S' hS => ?_))
        obtain ⟨h3, z'⟩ := S'
        obtain ⟨rfl, rfl, f3, r3, g3, k3, y1, y2, y3⟩ := hS
        have o3k : pMO h3 m (nI cs.length) at_ bg tk td rt rn rm rd (nI (bT B)) (nI (bK B)) (nI (bM B)) (nI (bD B)) (nI 0) (nI (tS N)) (nI P.length) (nI w.length) bd br (nI n) tr := (f3 m (by omega) (by omega) (by omega)).trans o2k
        have o3' := o3k
        unfold pMO at o3'
        have d3 : mOd h3 m w := ⟨fo, (f3 _ (by omega) (by omega) (by omega)).trans d21, d22⟩
        have d31 := (f3 (m + 11) (by omega) (by omega) (by omega)).trans d21
        have f13 : mFs h h3 m := fun q a b c => (f3 q b (by omega) (by omega)).trans (f2 q a b c)
        have ph3 : mHd h3 m wn op n := ph.fr (fun q a b => f13 q (by omega) (by omega) (by omega))
        have nx := fun v4 v5 iv => next h3 v4 v5 iv f13 o3k r3 ⟨fo, g3, k3, d31, y1, y2⟩ d3
        refine ev_istore (pc := 34) (L' := [_, _, _, _, _, _]) dX12_surely_34 (Nat.le_of_ble_eq_true rfl) rfl ?_
        refine ev_iload (pc := 36) dX12_surely_36 rfl ?_
        refine ev_iload_n (pc := 38) dX12_surely_38 rfl ?_
        refine ev_icmp_lt (pc := 39) 55 dX12_surely_39 (by decide) (fun c_39 => ?_) (fun c_39 => ?_)
        · (try simp (disch := omega) only [i32_lti, i32_lei, i32_eqi, nI_toInt, i32z] at c_39)
          refine ev_iconst (pc := 55) (v := nI 0) dX12_surely_55 kc_0 ?_
          refine ev_istore (pc := 56) (L' := [_, _, _, _, _, _]) dX12_surely_56 (Nat.le_of_ble_eq_true rfl) rfl ?_
          first
          | exact yes h3 _ f13 o3k r3 ⟨fo, g3, k3, d31, y1, y2⟩ d3 ⟨k3, y2, (y3 (e - 1) (by omega)).2⟩ (by unfold suP; rw [eF, decide_eq_true (show e ≤ (outW B w).length by omega), c_48]; rfl)
          | exact no h3 _ f13 o3k r3 ⟨fo, g3, k3, d31, y1, y2⟩ d3 (by unfold suP; rw [eF, c_48, Bool.and_false])
          | exact no h3 _ f13 o3k r3 ⟨fo, g3, k3, d31, y1, y2⟩ d3 (by unfold suP; rw [eF, decide_eq_false (show ¬ e ≤ (outW B w).length by omega), Bool.false_and])
        · (try simp (disch := omega) only [i32_lti, i32_lei, i32_eqi, nI_toInt, i32z] at c_39)
          refine ev_aload_n (pc := 42) dX12_surely_42 rfl ?_
          refine ev_iload (pc := 43) dX12_surely_43 rfl ?_
          refine iv_X12_235 (pc := 45) rfl dX12_surely_45 (by (try dsimp only); (repeat (first | rw [up_s] | rw [up_n (by omega)])) <;> first | rfl | assumption) (Nat.le_of_ble_eq_true rfl) (Nat.le_of_ble_eq_true rfl) (Nat.le_of_ble_eq_true rfl) (Nat.le_of_ble_eq_true rfl) (c_mIsHeard o3k ph3 ⟨g3, k3, y1, y2, y3⟩ h30 h64) (kp ?_)
          refine ev_if_eq (pc := 48) 55 dX12_surely_48 (by decide) (fun c_48 => ?_) (fun c_48 => ?_)
          · simp only [b2i_e0, Bool.not_eq_false] at c_48
            refine ev_iconst (pc := 55) (v := nI 0) dX12_surely_55 kc_0 ?_
            refine ev_istore (pc := 56) (L' := [_, _, _, _, _, _]) dX12_surely_56 (Nat.le_of_ble_eq_true rfl) rfl ?_
            first
            | exact yes h3 _ f13 o3k r3 ⟨fo, g3, k3, d31, y1, y2⟩ d3 ⟨k3, y2, (y3 (e - 1) (by omega)).2⟩ (by unfold suP; rw [eF, decide_eq_true (show e ≤ (outW B w).length by omega), c_48]; rfl)
            | exact no h3 _ f13 o3k r3 ⟨fo, g3, k3, d31, y1, y2⟩ d3 (by unfold suP; rw [eF, c_48, Bool.and_false])
            | exact no h3 _ f13 o3k r3 ⟨fo, g3, k3, d31, y1, y2⟩ d3 (by unfold suP; rw [eF, decide_eq_false (show ¬ e ≤ (outW B w).length by omega), Bool.false_and])
          · simp only [b2i_e0, Bool.not_eq_false] at c_48
            refine ev_iconst (pc := 51) (v := nI 1) dX12_surely_51 kc_1 ?_
            refine ev_goto (pc := 52) 56 dX12_surely_52 (by decide) ?_
            refine ev_istore (pc := 56) (L' := [_, _, _, _, _, _]) dX12_surely_56 (Nat.le_of_ble_eq_true rfl) rfl ?_
            first
            | exact yes h3 _ f13 o3k r3 ⟨fo, g3, k3, d31, y1, y2⟩ d3 ⟨k3, y2, (y3 (e - 1) (by omega)).2⟩ (by unfold suP; rw [eF, decide_eq_true (show e ≤ (outW B w).length by omega), c_48]; rfl)
            | exact no h3 _ f13 o3k r3 ⟨fo, g3, k3, d31, y1, y2⟩ d3 (by unfold suP; rw [eF, c_48, Bool.and_false])
            | exact no h3 _ f13 o3k r3 ⟨fo, g3, k3, d31, y1, y2⟩ d3 (by unfold suP; rw [eF, decide_eq_false (show ¬ e ≤ (outW B w).length by omega), Bool.false_and])
  obtain ⟨oa, ob, oc, q11, q12, q13⟩ := id por
  have hh := lev_head (bT B) (bT B) (Nat.le_refl _)
  refine ev_iload_n (pc := 0) dX12_surely_0 rfl ?_
  refine ev_i2l (pc := 1) dX12_surely_1 ?_
  refine ev_lconst (pc := 2) (v := 1) dX12_surely_2 kl_1 ?_
  refine ev_ldc2_w (pc := 3) dX12_surely_3 tw_1126 ?_
  refine iv_X12_63 (pc := 6) rfl dX12_surely_6 (Nat.le_of_ble_eq_true rfl) (Nat.le_of_ble_eq_true rfl) (Nat.le_of_ble_eq_true rfl) (Nat.le_of_ble_eq_true rfl) (c_in _ _ _) (kp ?_)
  rw [in_t (a := 1) (b := 30) (by omega) (by omega) _ _ rfl rfl]
  refine ev_if_ne (pc := 9) 14 dX12_surely_9 (by decide) (fun c_9 => ?_) (fun c_9 => ?_)
  · (try simp (disch := omega) only [i32_lti, i32_lei, i32_eqi, nI_toInt, i32z] at c_9)
    refine ev_bipush (pc := 14) (v := (-9)) dX12_surely_14 kb_m9 ?_
    refine ev_istore_n (pc := 16) (L' := [_, _, _, _, _, _]) dX12_surely_16 (Nat.le_of_ble_eq_true rfl) rfl ?_
    refine ev_aload_n (pc := 17) dX12_surely_17 rfl ?_
    refine ev_aload_n (pc := 18) dX12_surely_18 rfl ?_
    refine gf_X12_137 (pc := 19) rfl dX12_surely_19 (by (try dsimp only); (repeat (first | rw [up_s] | rw [up_n (by omega)])) <;> first | rfl | assumption) ?_
    refine iv_X12_219 (pc := 22) rfl dX12_surely_22 (by (try dsimp only); (repeat (first | rw [up_s] | rw [up_n (by omega)])) <;> first | rfl | assumption) (Nat.le_of_ble_eq_true rfl) (Nat.le_of_ble_eq_true rfl) (Nat.le_of_ble_eq_true rfl) (Nat.le_of_ble_eq_true rfl) (c_mStarts (n := bT B) po h6 (Nat.le_refl _) ⟨oa, q11⟩) (ki (fun r S' hS => ?_))
    obtain ⟨h2, z'⟩ := S'
    obtain ⟨rfl, rfl, f2, o2, d2⟩ := hS
    refine ev_istore_n (pc := 25) (L' := [_, _, _, _, _, _]) dX12_surely_25 (Nat.le_of_ble_eq_true rfl) rfl ?_
    exact inner (lev (bT B) (bT B)).length 0 (rf (bT B) (bT B) []) h2 _ _ (by omega) hh trivial (fun q a b c => f2 q a (by omega)) o2 (pq.fr (f2 _ (by omega) (by omega))) ⟨d2.choose, ob, oc, d2.choose_spec.1, (f2 _ (by omega) (by omega)).trans q12, (f2 _ (by omega) (by omega)).trans q13⟩ d2
  · exact absurd c_9 (by decide)
end MBARS
