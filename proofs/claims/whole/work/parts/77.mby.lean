/-! ===== the model: by ===== -/
theorem sprD_lt {n f : Nat} (hn : n ≤ 6) {w : List Nat} (h : sprD n 6 f [] = some w) : f < 1000000 ∧ f = cod w ∧ w.length ≤ 6 ∧ ∀ t ∈ w, t < n := by
  obtain ⟨y1, y2, y3, y4⟩ := sprD_ok 6 f [] (fun t ht => (nomatch ht)) List.nodup_nil w h
  have hc := cod_lt6 (fun t ht => by have := y1 t ht; omega) y3
  have e : cod ([] : List Nat) = 0 := rfl
  rw [e, List.length_nil] at y4
  exact ⟨by omega, by omega, y3, y1⟩
theorem cod_take {w : List Nat} {k : Nat} (h : k < w.length) : cod (w.take (k + 1)) = cod (w.take k) * 10 + gN w k + 1 := by
  rw [List.take_succ, List.getElem?_eq_getElem h, gN_eq h]
  exact cod_app _ _
section MBY
variable {X : Cx} {h : Hp} {z n mx : Nat} {cs : List Nat} {B : Bk} {N : Tl} {P : List Tl} {I J : Im} {wn op : List Nat}
theorem c_M_by {m : Nat} {tr : Int64} (p : pM h m cs B N P I J wn op n tr) (b9 : wB mx B) (hmx : mx ≤ 10) (f : Int32) : Ct X 4 mt_X12_by [.ref m, .int f] (h, z) 0 0 (Qi (fun r S' => r = aBy B f ∧ S'.2 = z ∧ hfr h S'.1 m 17 ∧ pM S'.1 m cs B N P I J wn op n tr)) := by
  obtain ⟨⟨at_, bg, tk, td, rt, rn, rm, rd, mn, bd, br, po⟩, px, pr, pb, pn, pq, pu, ⟨fo, go, so, od, og, os⟩, ph, pk⟩ := id p
  have po' := po
  unfold pMO at po'
  have h6 := b9.1
  refine mk_X12_by (Nat.le_of_ble_eq_true rfl) (L := [.ref m, .int f, .retAddr 0, .retAddr 0, .retAddr 0, .retAddr 0]) rfl ?_
  by_cases hf : f.toInt < 0
  · have ea : aBy B f = -1 := if_pos hf
    rw [ea]
    refine ev_iload_n (pc := 0) dX12_by_0 rfl ?_
    refine ev_istore_n (pc := 1) (L' := [_, _, _, _, _, _]) dX12_by_1 (Nat.le_of_ble_eq_true rfl) rfl ?_
    refine ev_aload_n (pc := 2) dX12_by_2 rfl ?_
    refine ev_iconst (pc := 3) (v := nI 0) dX12_by_3 kc_0 ?_
    refine pf_X12_199 (pc := 4) rfl dX12_by_4 (by (try dsimp only); (repeat (first | rw [up_s] | rw [up_n (by omega)])) <;> first | rfl | assumption) ?_
    refine ev_iconst (pc := 7) (v := nI 0) dX12_by_7 kc_0 ?_
    refine ev_istore_n (pc := 8) (L' := [_, _, _, _, _, _]) dX12_by_8 (Nat.le_of_ble_eq_true rfl) rfl ?_
    refine ev_iload_n (pc := 9) dX12_by_9 rfl ?_
    refine ev_if_lt (pc := 10) 23 dX12_by_10 (by decide) (fun c_10 => ?_) (fun c_10 => ?_)
    · (try simp (disch := omega) only [i32_lti, i32_lei, i32_eqi, nI_toInt, i32z] at c_10)
      refine ev_iconst (pc := 23) (v := nI 0) dX12_by_23 kc_0 ?_
      refine ev_istore (pc := 24) (L' := [_, _, _, _, _, _]) dX12_by_24 (Nat.le_of_ble_eq_true rfl) rfl ?_
      refine ev_iload_n (pc := 26) dX12_by_26 rfl ?_
      refine ev_if_le (pc := 27) 102 dX12_by_27 (by decide) (fun c_27 => ?_) (fun c_27 => ?_)
      · (try simp (disch := omega) only [i32_lti, i32_lei, i32_eqi, nI_toInt, i32z] at c_27)
        refine ev_iload (pc := 102) dX12_by_102 rfl ?_
        refine ev_if_ne (pc := 104) 109 dX12_by_104 (by decide) (fun c_104 => ?_) (fun c_104 => ?_)
        · exact absurd rfl c_104
        · (try simp (disch := omega) only [i32_lti, i32_lei, i32_eqi, nI_toInt, i32z] at c_104)
          refine ev_iconst (pc := 107) (v := (-1)) dX12_by_107 kc_m1 ?_
          refine ev_iret (pc := 108) dX12_by_108 rfl rfl (Nat.le_of_ble_eq_true rfl) (Nat.le_of_ble_eq_true rfl) ?_
          exact ⟨_, rfl, rfl, rfl, (by intro q hq; first | rfl | ((try dsimp only); (repeat (first | rw [up_n (by omega)])))), p.sc (by intro q a b c; (try dsimp only); rw [up_n (by omega)]) ⟨at_, bg, tk, td, rt, rn, rm, rd, _, bd, br, (by unfold pMO; exact (by (try dsimp only); (repeat (first | rw [up_s] | rw [up_n (by omega)])) <;> first | rfl | assumption))⟩ (pq.fr (by (try dsimp only); rw [up_n (by omega)])) ⟨fo, go, so, (by (try dsimp only); (repeat (first | rw [up_s] | rw [up_n (by omega)])) <;> first | rfl | assumption), (by (try dsimp only); (repeat (first | rw [up_s] | rw [up_n (by omega)])) <;> first | rfl | assumption), (by (try dsimp only); (repeat (first | rw [up_s] | rw [up_n (by omega)])) <;> first | rfl | assumption)⟩⟩
      · exfalso; (try simp (disch := omega) only [i32_lti, i32_lei, i32_eqi, nI_toInt, i32z] at c_27); omega
    · exfalso; (try simp (disch := omega) only [i32_lti, i32_lei, i32_eqi, nI_toInt, i32z] at c_10); omega
  have ef : f = nI f.toInt.toNat := i32_nat (by omega)
  have hf31 : f.toInt.toNat < 2 ^ 31 := by have := f.toInt_lt; omega
  have ea : aBy B f = match sprD (bT B) 6 f.toInt.toNat [] with | none => -1 | some w => nI (outW B w).length := if_neg hf
  rw [ea, ef]
  generalize f.toInt.toNat = fn at hf31 ef ea
  have en : (nI fn).toInt.toNat = fn := by rw [nI_toInt hf31]; omega
  rw [en]
  have bad : sprD (bT B) 6 fn [] = none → ∀ (h1 : Hp) (k : Nat) (v2 v3 v5 : Value), (∀ q : Nat, q ≠ m → h1 q = h q) → pMO h1 m (nI cs.length) at_ bg tk td rt rn rm rd (nI (bT B)) (nI (bK B)) (nI (bM B)) (nI (bD B)) (nI 0) (nI (tS N)) (nI P.length) (nI k) bd br (nI n) tr → Ev X (mi_X12_by 4 0 0) (Qi (fun r S' => r = (match sprD (bT B) 6 fn [] with | none => -1 | some w => nI (outW B w).length) ∧ S'.2 = z ∧ hfr h S'.1 m 17 ∧ pM S'.1 m cs B N P I J wn op n tr)) 0 0 (h1, z) 102 [.ref m, .int (nI fn), v2, v3, .int (nI 0), v5] [] := by
    intro es h1 k v2 v3 v5 f1 o1
    rw [es]
    refine ev_iload (pc := 102) dX12_by_102 rfl ?_
    refine ev_if_ne (pc := 104) 109 dX12_by_104 (by decide) (fun c_104 => ?_) (fun c_104 => ?_)
    · exact absurd rfl c_104
    · (try simp (disch := omega) only [i32_lti, i32_lei, i32_eqi, nI_toInt, i32z] at c_104)
      refine ev_iconst (pc := 107) (v := (-1)) dX12_by_107 kc_m1 ?_
      refine ev_iret (pc := 108) dX12_by_108 rfl rfl (Nat.le_of_ble_eq_true rfl) (Nat.le_of_ble_eq_true rfl) ?_
      exact ⟨_, rfl, rfl, rfl, (fun q a => f1 q (by omega)), p.sc (fun q a b c => f1 q a) ⟨at_, bg, tk, td, rt, rn, rm, rd, _, bd, br, o1⟩ (pq.fr (f1 _ (by omega))) ⟨fo, go, so, (f1 _ (by omega)).trans od, (f1 _ (by omega)).trans og, (f1 _ (by omega)).trans os⟩⟩
  have good : ∀ w : List Nat, sprD (bT B) 6 fn [] = some w → ∀ (h1 : Hp) (v2 v3 v5 : Value), (∀ q : Nat, q ≠ m → h1 q = h q) → pMO h1 m (nI cs.length) at_ bg tk td rt rn rm rd (nI (bT B)) (nI (bK B)) (nI (bM B)) (nI (bD B)) (nI 0) (nI (tS N)) (nI P.length) (nI w.length) bd br (nI n) tr → Ev X (mi_X12_by 4 0 0) (Qi (fun r S' => r = (match sprD (bT B) 6 fn [] with | none => -1 | some w => nI (outW B w).length) ∧ S'.2 = z ∧ hfr h S'.1 m 17 ∧ pM S'.1 m cs B N P I J wn op n tr)) 0 0 (h1, z) 102 [.ref m, .int (nI fn), v2, v3, .int (nI 1), v5] [] := by
    intro w es h1 v2 v3 v5 f1 o1
    obtain ⟨e1, e2, e3, e4⟩ := sprD_lt h6 es
    rw [es]
    have o1' := o1
    unfold pMO at o1'
    have fill : ∀ (k : Nat) (h2 : Hp) (v2 v3 v4 : Value) (g : Nat → Int32), k ≤ w.length → (∀ q : Nat, q ≠ m → q ≠ m + 11 → h2 q = h q) → h2 m = h1 m → h2 (m + 11) = some (.inr (0, .inl (ar 6 g))) → (∀ j : Nat, k ≤ j → j < w.length → g j = nI (gN w j)) → Ev X (mi_X12_by 4 0 0) (Qi (fun r S' => r = nI (outW B w).length ∧ S'.2 = z ∧ hfr h S'.1 m 17 ∧ pM S'.1 m cs B N P I J wn op n tr)) 0 0 (h2, z) 119 [.ref m, .int (nI fn), .int (nI (cod (w.take k))), v3, v4, .int (iM k)] [] := by
      intro k
      induction k with
      | zero =>
        intro h2 v2 v3 v4 g hk f2 m2 od2 hg
        have o2 := m2.trans o1'
        have od3 : mOd h2 m w := ⟨g, od2, fun j hj => hg j (by omega) hj⟩
        show Ev X _ _ _ _ _ _ [.ref m, .int (nI fn), .int (nI (cod (w.take 0))), v3, v4, .int (-1)] []
        refine ev_iload (pc := 119) dX12_by_119 rfl ?_
        refine ev_if_lt (pc := 121) 148 dX12_by_121 (by decide) (fun c_121 => ?_) (fun c_121 => ?_)
        · (try simp (disch := omega) only [i32_lti, i32_lei, i32_eqi, nI_toInt, i32z] at c_121)
          refine ev_aload_n (pc := 148) dX12_by_148 rfl ?_
          refine iv_X12_203 (pc := 149) rfl dX12_by_149 (by (try dsimp only); (repeat (first | rw [up_s] | rw [up_n (by omega)])) <;> first | rfl | assumption) (Nat.le_of_ble_eq_true rfl) (Nat.le_of_ble_eq_true rfl) (Nat.le_of_ble_eq_true rfl) (Nat.le_of_ble_eq_true rfl) (c_mSaves (w := w) (lo := nI 0) (by unfold pMO; exact o2) (pb.fr (fun q a b => f2 q (by omega) (by omega))) b9 hmx od2 (fun j hj => hg j (by omega) hj) e4 e3 (pq.fr (f2 _ (by omega) (by omega))) ⟨go, so, (f2 _ (by omega) (by omega)).trans og, (f2 _ (by omega) (by omega)).trans os⟩) (ki (fun r S' hS => ?_))
          obtain ⟨h3, z'⟩ := S'
          obtain ⟨rfl, rfl, f3, ro3, g3, k3, y1, y2, -⟩ := hS
          refine ev_iret (pc := 152) dX12_by_152 rfl rfl (Nat.le_of_ble_eq_true rfl) (Nat.le_of_ble_eq_true rfl) ?_
          exact ⟨_, rfl, rfl, rfl, (fun q a => (f3 q (by omega) (by omega) (by omega)).trans (f2 q (by omega) (by omega))), p.sc (fun q a b c => (f3 q b (by omega) (by omega)).trans (f2 q a (by omega))) ⟨at_, bg, tk, td, rt, rn, rm, rd, _, bd, br, (f3 m (by omega) (by omega) (by omega)).trans (m2.trans o1)⟩ ro3 ⟨g, g3, k3, (f3 _ (by omega) (by omega) (by omega)).trans od2, y1, y2⟩⟩
        · exfalso; revert c_121; decide
      | succ k ih =>
        intro h2 v2 v3 v4 g hk f2 m2 od2 hg
        have o2 := m2.trans o1'
        have ec := cod_take (w := w) (k := k) (by omega)
        have hg6 := e4 _ (gN_mem (l := w) (i := k) (by omega))
        have hc6 := cod_lt6 (w := w.take (k + 1)) (fun t ht => by have := e4 t (List.mem_of_mem_take ht); omega) (by rw [List.length_take]; omega)
        have d1 : cod (w.take (k + 1)) % 10 - 1 = gN w k := by omega
        have d2 : cod (w.take (k + 1)) / 10 = cod (w.take k) := by omega
        show Ev X _ _ _ _ _ _ [.ref m, .int (nI fn), .int (nI (cod (w.take (k + 1)))), v3, v4, .int (nI k)] []
        refine ev_iload (pc := 119) dX12_by_119 rfl ?_
        refine ev_if_lt (pc := 121) 148 dX12_by_121 (by decide) (fun c_121 => ?_) (fun c_121 => ?_)
        · exfalso; (try simp (disch := omega) only [i32_lti, i32_lei, i32_eqi, nI_toInt, i32z] at c_121); omega
        · (try simp (disch := omega) only [i32_lti, i32_lei, i32_eqi, nI_toInt, i32z] at c_121)
          refine ev_aload_n (pc := 124) dX12_by_124 rfl ?_
          refine gf_X12_40 (pc := 125) rfl dX12_by_125 (by (try dsimp only); (repeat (first | rw [up_s] | rw [up_n (by omega)])) <;> first | rfl | assumption) ?_
          refine ev_iload (pc := 128) dX12_by_128 rfl ?_
          refine ev_iload_n (pc := 130) dX12_by_130 rfl ?_
          refine ev_bipush (pc := 131) (v := nI 10) dX12_by_131 kb_10 ?_
          refine ev_irem (pc := 133) dX12_by_133 (by decide) ?_
          rw [pk_rem (by omega) (by omega) (by omega)]
          refine ev_iconst (pc := 134) (v := nI 1) dX12_by_134 kc_1 ?_
          refine ev_isub (pc := 135) dX12_by_135 ?_
          rw [nI_sub1 (by omega), d1]
          refine ev_iast (pc := 136) dX12_by_136 (by (try dsimp only); (repeat (first | rw [up_s] | rw [up_n (by omega)])) <;> first | rfl | assumption) (nI_toInt (by omega)) (by rw [ar_len]; omega) ?_
          rw [ar_set (by omega)]
          refine ev_iload_n (pc := 137) dX12_by_137 rfl ?_
          refine ev_bipush (pc := 138) (v := nI 10) dX12_by_138 kb_10 ?_
          refine ev_idiv (pc := 140) dX12_by_140 (by decide) ?_
          rw [pk_div (by omega) (by omega) (by omega), d2]
          refine ev_istore_n (pc := 141) (L' := [_, _, _, _, _, _]) dX12_by_141 (Nat.le_of_ble_eq_true rfl) rfl ?_
          refine ev_iinc (pc := 142) (L' := [_, _, _, _, _, _]) dX12_by_142 rfl (iM_i k) rfl ?_
          refine ev_goto (pc := 145) 119 dX12_by_145 (by decide) ?_
          refine ih _ (.int (nI 0)) v3 _ (ru g k (nI (gN w k))) (by omega) (by intro q a b; (try dsimp only); rw [up_n (by omega)]; exact f2 q a b) (by (try dsimp only); rw [up_n (by omega)]; exact m2) (by (try dsimp only); (repeat (first | rw [up_s] | rw [up_n (by omega)])) <;> first | rfl | assumption) ?_
          intro j hj1 hj2
          by_cases q : j = k
          · subst q; rw [ru_s]
          · rw [ru_n q]; exact hg j (by omega) hj2
    refine ev_iload (pc := 102) dX12_by_102 rfl ?_
    refine ev_if_ne (pc := 104) 109 dX12_by_104 (by decide) (fun c_104 => ?_) (fun c_104 => ?_)
    · (try simp (disch := omega) only [i32_lti, i32_lei, i32_eqi, nI_toInt, i32z] at c_104)
      refine ev_iload_n (pc := 109) dX12_by_109 rfl ?_
      refine ev_istore_n (pc := 110) (L' := [_, _, _, _, _, _]) dX12_by_110 (Nat.le_of_ble_eq_true rfl) rfl ?_
      refine ev_aload_n (pc := 111) dX12_by_111 rfl ?_
      refine gf_X12_199 (pc := 112) rfl dX12_by_112 (by (try dsimp only); (repeat (first | rw [up_s] | rw [up_n (by omega)])) <;> first | rfl | assumption) ?_
      refine ev_iconst (pc := 115) (v := nI 1) dX12_by_115 kc_1 ?_
      refine ev_isub (pc := 116) dX12_by_116 ?_
      rw [iM_s]
      refine ev_istore (pc := 117) (L' := [_, _, _, _, _, _]) dX12_by_117 (Nat.le_of_ble_eq_true rfl) rfl ?_
      have q := fill w.length h1 (.int (nI fn)) v3 (.int (nI 1)) fo (Nat.le_refl _) (fun q a b => f1 q a) rfl ((f1 _ (by omega)).trans od) (fun j hj1 hj2 => by omega); rw [List.take_length, ← e2] at q; exact q
    · exact absurd c_104 (by decide)
  have badL : ∀ (h1 : Hp) (rest k : Nat) (v3 v5 : Value), (∀ q : Nat, q ≠ m → h1 q = h q) → pMO h1 m (nI cs.length) at_ bg tk td rt rn rm rd (nI (bT B)) (nI (bK B)) (nI (bM B)) (nI (bD B)) (nI 0) (nI (tS N)) (nI P.length) (nI k) bd br (nI n) tr → sprD (bT B) 6 fn [] = none → Ev X (mi_X12_by 4 0 0) (Qi (fun r S' => r = (match sprD (bT B) 6 fn [] with | none => -1 | some w => nI (outW B w).length) ∧ S'.2 = z ∧ hfr h S'.1 m 17 ∧ pM S'.1 m cs B N P I J wn op n tr)) 0 0 (h1, z) 26 [.ref m, .int (nI fn), .int (nI rest), v3, .int (nI 0), v5] [] := by
    intro h1 rest k v3 v5 f1 o1 es
    refine ev_iload_n (pc := 26) dX12_by_26 rfl ?_
    refine ev_if_le (pc := 27) 102 dX12_by_27 (by decide) (fun c_27 => ?_) (fun c_27 => ?_)
    · (try simp (disch := omega) only [i32_lti, i32_lei, i32_eqi, nI_toInt, i32z] at c_27)
      exact bad es h1 k _ _ _ f1 o1
    · (try simp (disch := omega) only [i32_lti, i32_lei, i32_eqi, nI_toInt, i32z] at c_27)
      refine ev_iload (pc := 30) dX12_by_30 rfl ?_
      refine ev_if_eq (pc := 32) 102 dX12_by_32 (by decide) (fun c_32 => ?_) (fun c_32 => ?_)
      · (try simp (disch := omega) only [i32_lti, i32_lei, i32_eqi, nI_toInt, i32z] at c_32)
        exact bad es h1 k _ _ _ f1 o1
      · exact absurd rfl c_32
  by_cases hM : fn < 1000000
  · have loop : ∀ (k : Nat) (v : List Nat) (rest : Nat) (v5 : Value) (h1 : Hp), v.length + k = 6 → rest < 10 ^ k → sprD (bT B) 6 fn [] = sprD (bT B) k rest v → (∀ t ∈ v, t < bT B) → v.Nodup → (∀ q : Nat, q ≠ m → h1 q = h q) → pMO h1 m (nI cs.length) at_ bg tk td rt rn rm rd (nI (bT B)) (nI (bK B)) (nI (bM B)) (nI (bD B)) (nI 0) (nI (tS N)) (nI P.length) (nI v.length) bd br (nI n) tr → Ev X (mi_X12_by 4 0 0) (Qi (fun r S' => r = (match sprD (bT B) 6 fn [] with | none => -1 | some w => nI (outW B w).length) ∧ S'.2 = z ∧ hfr h S'.1 m 17 ∧ pM S'.1 m cs B N P I J wn op n tr)) 0 0 (h1, z) 26 [.ref m, .int (nI fn), .int (nI rest), .int (nI (mk v)), .int (nI 1), v5] [] := by
      intro k
      have zero : ∀ (v : List Nat) (v5 : Value) (h1 : Hp), sprD (bT B) 6 fn [] = some v → (∀ q : Nat, q ≠ m → h1 q = h q) → pMO h1 m (nI cs.length) at_ bg tk td rt rn rm rd (nI (bT B)) (nI (bK B)) (nI (bM B)) (nI (bD B)) (nI 0) (nI (tS N)) (nI P.length) (nI v.length) bd br (nI n) tr → Ev X (mi_X12_by 4 0 0) (Qi (fun r S' => r = (match sprD (bT B) 6 fn [] with | none => -1 | some w => nI (outW B w).length) ∧ S'.2 = z ∧ hfr h S'.1 m 17 ∧ pM S'.1 m cs B N P I J wn op n tr)) 0 0 (h1, z) 26 [.ref m, .int (nI fn), .int (nI 0), .int (nI (mk v)), .int (nI 1), v5] [] := by
        intro v v5 h1 es f1 o1
        refine ev_iload_n (pc := 26) dX12_by_26 rfl ?_
        refine ev_if_le (pc := 27) 102 dX12_by_27 (by decide) (fun c_27 => ?_) (fun c_27 => ?_)
        · (try simp (disch := omega) only [i32_lti, i32_lei, i32_eqi, nI_toInt, i32z] at c_27)
          exact good v es h1 _ _ _ f1 o1
        · exfalso; (try simp (disch := omega) only [i32_lti, i32_lei, i32_eqi, nI_toInt, i32z] at c_27); omega
      induction k with
      | zero =>
        intro v rest v5 h1 hk hr es hv hd f1 o1
        have e0 : rest = 0 := by have : rest < 1 := hr; omega
        subst e0
        exact zero v v5 h1 es f1 o1
      | succ k ih =>
        intro v rest v5 h1 hk hr es hv hd f1 o1
        have e9 : sprD (bT B) (k + 1) rest v = if rest = 0 then some v else if rest % 10 = 0 ∨ bT B < rest % 10 ∨ (rest % 10 - 1) ∈ v then none else sprD (bT B) k (rest / 10) ((rest % 10 - 1) :: v) := rfl
        rw [e9] at es
        have hr9 : rest < 1000000 := Nat.lt_of_lt_of_le hr (Nat.le_trans (Nat.pow_le_pow_right (by omega) (show k + 1 ≤ 6 by omega)) (by decide))
        by_cases h0 : rest = 0
        · subst h0
          rw [if_pos rfl] at es
          exact zero v v5 h1 es f1 o1
        · rw [if_neg h0] at es
          have o1' := o1
          unfold pMO at o1'
          have hv6 : ∀ t ∈ v, t < 6 := fun t ht => by have := hv t ht; omega
          have h64 := mk_lt hv6
          have l1 : v.length ≤ 5 := by omega
          by_cases hc : rest % 10 = 0 ∨ bT B < rest % 10 ∨ (rest % 10 - 1) ∈ v
          · rw [if_pos hc] at es
            by_cases hc0 : rest % 10 = 0 ∨ bT B < rest % 10
            · have hno : iTn (bT B) (nI (rest % 10) - nI 1) = false := by
                unfold iTn
                apply decide_eq_false
                intro q
                rcases hc0 with y | y
                · rw [y] at q
                  have q1 : (0 : Int) ≤ -1 := q.1
                  omega
                · rw [nI_sub1 (by omega), nI_toInt (by omega)] at q; omega
              refine ev_iload_n (pc := 26) dX12_by_26 rfl ?_
              refine ev_if_le (pc := 27) 102 dX12_by_27 (by decide) (fun c_27 => ?_) (fun c_27 => ?_)
              · exfalso; (try simp (disch := omega) only [i32_lti, i32_lei, i32_eqi, nI_toInt, i32z] at c_27); omega
              · (try simp (disch := omega) only [i32_lti, i32_lei, i32_eqi, nI_toInt, i32z] at c_27)
                refine ev_iload (pc := 30) dX12_by_30 rfl ?_
                refine ev_if_eq (pc := 32) 102 dX12_by_32 (by decide) (fun c_32 => ?_) (fun c_32 => ?_)
                · exact absurd c_32 (by decide)
                · (try simp (disch := omega) only [i32_lti, i32_lei, i32_eqi, nI_toInt, i32z] at c_32)
                  refine ev_iload_n (pc := 35) dX12_by_35 rfl ?_
                  refine ev_bipush (pc := 36) (v := nI 10) dX12_by_36 kb_10 ?_
                  refine ev_irem (pc := 38) dX12_by_38 (by decide) ?_
                  rw [pk_rem (by omega) (by omega) (by omega)]
                  refine ev_iconst (pc := 39) (v := nI 1) dX12_by_39 kc_1 ?_
                  refine ev_isub (pc := 40) dX12_by_40 ?_
                  refine ev_istore (pc := 41) (L' := [_, _, _, _, _, _]) dX12_by_41 (Nat.le_of_ble_eq_true rfl) rfl ?_
                  refine ev_aload_n (pc := 43) dX12_by_43 rfl ?_
                  refine ev_iload (pc := 44) dX12_by_44 rfl ?_
                  refine iv_X12_176 (pc := 46) rfl dX12_by_46 (by (try dsimp only); (repeat (first | rw [up_s] | rw [up_n (by omega)])) <;> first | rfl | assumption) (Nat.le_of_ble_eq_true rfl) (Nat.le_of_ble_eq_true rfl) (Nat.le_of_ble_eq_true rfl) (Nat.le_of_ble_eq_true rfl) (c_mIsTale o1 h6 _) (kp ?_)
                  rw [hno]
                  refine ev_if_eq (pc := 49) 65 dX12_by_49 (by decide) (fun c_49 => ?_) (fun c_49 => ?_)
                  · (try simp (disch := omega) only [i32_lti, i32_lei, i32_eqi, nI_toInt, i32z] at c_49)
                    refine ev_iconst (pc := 65) (v := nI 0) dX12_by_65 kc_0 ?_
                    refine ev_istore (pc := 66) (L' := [_, _, _, _, _, _]) dX12_by_66 (Nat.le_of_ble_eq_true rfl) rfl ?_
                    refine ev_iload_n (pc := 68) dX12_by_68 rfl ?_
                    refine ev_iload (pc := 69) dX12_by_69 rfl ?_
                    refine ev_if_eq (pc := 71) 81 dX12_by_71 (by decide) (fun c_71 => ?_) (fun c_71 => ?_)
                    · (try simp (disch := omega) only [i32_lti, i32_lei, i32_eqi, nI_toInt, i32z] at c_71)
                      refine ev_iconst (pc := 81) (v := nI 0) dX12_by_81 kc_0 ?_
                      refine ev_ior (pc := 82) dX12_by_82 ?_
                      refine ev_istore_n (pc := 83) (L' := [_, _, _, _, _, _]) dX12_by_83 (Nat.le_of_ble_eq_true rfl) rfl ?_
                      refine ev_aload_n (pc := 84) dX12_by_84 rfl ?_
                      refine ev_dup (pc := 85) dX12_by_85 rfl ?_
                      refine gf_X12_199 (pc := 86) rfl dX12_by_86 (by (try dsimp only); (repeat (first | rw [up_s] | rw [up_n (by omega)])) <;> first | rfl | assumption) ?_
                      refine ev_iconst (pc := 89) (v := nI 1) dX12_by_89 kc_1 ?_
                      refine ev_iadd (pc := 90) dX12_by_90 ?_
                      (try rw [nI_add])
                      refine pf_X12_199 (pc := 91) rfl dX12_by_91 (by (try dsimp only); (repeat (first | rw [up_s] | rw [up_n (by omega)])) <;> first | rfl | assumption) ?_
                      refine ev_iload_n (pc := 94) dX12_by_94 rfl ?_
                      refine ev_bipush (pc := 95) (v := nI 10) dX12_by_95 kb_10 ?_
                      refine ev_idiv (pc := 97) dX12_by_97 (by decide) ?_
                      rw [pk_div (by omega) (by omega) (by omega)]
                      refine ev_istore_n (pc := 98) (L' := [_, _, _, _, _, _]) dX12_by_98 (Nat.le_of_ble_eq_true rfl) rfl ?_
                      refine ev_goto (pc := 99) 26 dX12_by_99 (by decide) ?_
                      exact badL _ (rest / 10) (v.length + 1) _ _ (by intro q a; (try dsimp only); rw [up_n (by omega)]; exact f1 q a) (by unfold pMO; exact (by (try dsimp only); (repeat (first | rw [up_s] | rw [up_n (by omega)])) <;> first | rfl | assumption)) es
                    · exact absurd rfl c_71
                  · exact absurd rfl c_49
            · have hm : (rest % 10 - 1) ∈ v := by
                rcases hc with y | y | y
                · exact absurd (Or.inl y) hc0
                · exact absurd (Or.inr y) hc0
                · exact y
              have hb : (mk v).testBit (rest % 10 - 1) = true := by rw [mk_bit]; exact decide_eq_true hm
              have ht6 := hv _ hm
              refine ev_iload_n (pc := 26) dX12_by_26 rfl ?_
              refine ev_if_le (pc := 27) 102 dX12_by_27 (by decide) (fun c_27 => ?_) (fun c_27 => ?_)
              · exfalso; (try simp (disch := omega) only [i32_lti, i32_lei, i32_eqi, nI_toInt, i32z] at c_27); omega
              · (try simp (disch := omega) only [i32_lti, i32_lei, i32_eqi, nI_toInt, i32z] at c_27)
                refine ev_iload (pc := 30) dX12_by_30 rfl ?_
                refine ev_if_eq (pc := 32) 102 dX12_by_32 (by decide) (fun c_32 => ?_) (fun c_32 => ?_)
                · exact absurd c_32 (by decide)
                · (try simp (disch := omega) only [i32_lti, i32_lei, i32_eqi, nI_toInt, i32z] at c_32)
                  refine ev_iload_n (pc := 35) dX12_by_35 rfl ?_
                  refine ev_bipush (pc := 36) (v := nI 10) dX12_by_36 kb_10 ?_
                  refine ev_irem (pc := 38) dX12_by_38 (by decide) ?_
                  rw [pk_rem (by omega) (by omega) (by omega)]
                  refine ev_iconst (pc := 39) (v := nI 1) dX12_by_39 kc_1 ?_
                  refine ev_isub (pc := 40) dX12_by_40 ?_
                  rw [nI_sub1 (by omega)]
                  refine ev_istore (pc := 41) (L' := [_, _, _, _, _, _]) dX12_by_41 (Nat.le_of_ble_eq_true rfl) rfl ?_
                  refine ev_aload_n (pc := 43) dX12_by_43 rfl ?_
                  refine ev_iload (pc := 44) dX12_by_44 rfl ?_
                  refine iv_X12_176 (pc := 46) rfl dX12_by_46 (by (try dsimp only); (repeat (first | rw [up_s] | rw [up_n (by omega)])) <;> first | rfl | assumption) (Nat.le_of_ble_eq_true rfl) (Nat.le_of_ble_eq_true rfl) (Nat.le_of_ble_eq_true rfl) (Nat.le_of_ble_eq_true rfl) (c_mIsTale o1 h6 _) (kp ?_)
                  rw [iTn_nI (by omega), decide_eq_true ht6]
                  refine ev_if_eq (pc := 49) 65 dX12_by_49 (by decide) (fun c_49 => ?_) (fun c_49 => ?_)
                  · exact absurd c_49 (by decide)
                  · (try simp (disch := omega) only [i32_lti, i32_lei, i32_eqi, nI_toInt, i32z] at c_49)
                    refine ev_iload_n (pc := 52) dX12_by_52 rfl ?_
                    refine ev_iload (pc := 53) dX12_by_53 rfl ?_
                    refine ev_ishr (pc := 55) dX12_by_55 ?_
                    refine ev_iconst (pc := 56) (v := nI 1) dX12_by_56 kc_1 ?_
                    refine ev_iand (pc := 57) dX12_by_57 ?_
                    rw [bt_tst _ h64 _ (by omega), hb, b2i_t]
                    refine ev_if_ne (pc := 58) 65 dX12_by_58 (by decide) (fun c_58 => ?_) (fun c_58 => ?_)
                    · (try simp (disch := omega) only [i32_lti, i32_lei, i32_eqi, nI_toInt, i32z] at c_58)
                      refine ev_iconst (pc := 65) (v := nI 0) dX12_by_65 kc_0 ?_
                      refine ev_istore (pc := 66) (L' := [_, _, _, _, _, _]) dX12_by_66 (Nat.le_of_ble_eq_true rfl) rfl ?_
                      refine ev_iload_n (pc := 68) dX12_by_68 rfl ?_
                      refine ev_iload (pc := 69) dX12_by_69 rfl ?_
                      refine ev_if_eq (pc := 71) 81 dX12_by_71 (by decide) (fun c_71 => ?_) (fun c_71 => ?_)
                      · (try simp (disch := omega) only [i32_lti, i32_lei, i32_eqi, nI_toInt, i32z] at c_71)
                        refine ev_iconst (pc := 81) (v := nI 0) dX12_by_81 kc_0 ?_
                        refine ev_ior (pc := 82) dX12_by_82 ?_
                        refine ev_istore_n (pc := 83) (L' := [_, _, _, _, _, _]) dX12_by_83 (Nat.le_of_ble_eq_true rfl) rfl ?_
                        refine ev_aload_n (pc := 84) dX12_by_84 rfl ?_
                        refine ev_dup (pc := 85) dX12_by_85 rfl ?_
                        refine gf_X12_199 (pc := 86) rfl dX12_by_86 (by (try dsimp only); (repeat (first | rw [up_s] | rw [up_n (by omega)])) <;> first | rfl | assumption) ?_
                        refine ev_iconst (pc := 89) (v := nI 1) dX12_by_89 kc_1 ?_
                        refine ev_iadd (pc := 90) dX12_by_90 ?_
                        (try rw [nI_add])
                        refine pf_X12_199 (pc := 91) rfl dX12_by_91 (by (try dsimp only); (repeat (first | rw [up_s] | rw [up_n (by omega)])) <;> first | rfl | assumption) ?_
                        refine ev_iload_n (pc := 94) dX12_by_94 rfl ?_
                        refine ev_bipush (pc := 95) (v := nI 10) dX12_by_95 kb_10 ?_
                        refine ev_idiv (pc := 97) dX12_by_97 (by decide) ?_
                        rw [pk_div (by omega) (by omega) (by omega)]
                        refine ev_istore_n (pc := 98) (L' := [_, _, _, _, _, _]) dX12_by_98 (Nat.le_of_ble_eq_true rfl) rfl ?_
                        refine ev_goto (pc := 99) 26 dX12_by_99 (by decide) ?_
                        exact badL _ (rest / 10) (v.length + 1) _ _ (by intro q a; (try dsimp only); rw [up_n (by omega)]; exact f1 q a) (by unfold pMO; exact (by (try dsimp only); (repeat (first | rw [up_s] | rw [up_n (by omega)])) <;> first | rfl | assumption)) es
                      · exact absurd rfl c_71
                    · exact absurd c_58 (by decide)
          · rw [if_neg hc] at es
            have hc0 : ¬ rest % 10 = 0 := fun q => hc (Or.inl q)
            have hc1 : ¬ bT B < rest % 10 := fun q => hc (Or.inr (Or.inl q))
            have hm : (rest % 10 - 1) ∉ v := fun q => hc (Or.inr (Or.inr q))
            have hb : (mk v).testBit (rest % 10 - 1) = false := by rw [mk_bit]; exact decide_eq_false hm
            have em : mk v ||| 1 <<< (rest % 10 - 1) = mk ((rest % 10 - 1) :: v) := Nat.or_comm ..
            have hih := fun v5 h2 => ih ((rest % 10 - 1) :: v) (rest / 10) v5 h2 (by rw [List.length_cons]; omega) (by rw [Nat.pow_succ] at hr; omega) es (fun t ht => by rcases List.mem_cons.mp ht with q | q; omega; exact hv t q) (List.nodup_cons.mpr ⟨hm, hd⟩)
            rw [List.length_cons] at hih
            refine ev_iload_n (pc := 26) dX12_by_26 rfl ?_
            refine ev_if_le (pc := 27) 102 dX12_by_27 (by decide) (fun c_27 => ?_) (fun c_27 => ?_)
            · exfalso; (try simp (disch := omega) only [i32_lti, i32_lei, i32_eqi, nI_toInt, i32z] at c_27); omega
            · (try simp (disch := omega) only [i32_lti, i32_lei, i32_eqi, nI_toInt, i32z] at c_27)
              refine ev_iload (pc := 30) dX12_by_30 rfl ?_
              refine ev_if_eq (pc := 32) 102 dX12_by_32 (by decide) (fun c_32 => ?_) (fun c_32 => ?_)
              · exact absurd c_32 (by decide)
              · (try simp (disch := omega) only [i32_lti, i32_lei, i32_eqi, nI_toInt, i32z] at c_32)
                refine ev_iload_n (pc := 35) dX12_by_35 rfl ?_
                refine ev_bipush (pc := 36) (v := nI 10) dX12_by_36 kb_10 ?_
                refine ev_irem (pc := 38) dX12_by_38 (by decide) ?_
                rw [pk_rem (by omega) (by omega) (by omega)]
                refine ev_iconst (pc := 39) (v := nI 1) dX12_by_39 kc_1 ?_
                refine ev_isub (pc := 40) dX12_by_40 ?_
                rw [nI_sub1 (by omega)]
                refine ev_istore (pc := 41) (L' := [_, _, _, _, _, _]) dX12_by_41 (Nat.le_of_ble_eq_true rfl) rfl ?_
                refine ev_aload_n (pc := 43) dX12_by_43 rfl ?_
                refine ev_iload (pc := 44) dX12_by_44 rfl ?_
                refine iv_X12_176 (pc := 46) rfl dX12_by_46 (by (try dsimp only); (repeat (first | rw [up_s] | rw [up_n (by omega)])) <;> first | rfl | assumption) (Nat.le_of_ble_eq_true rfl) (Nat.le_of_ble_eq_true rfl) (Nat.le_of_ble_eq_true rfl) (Nat.le_of_ble_eq_true rfl) (c_mIsTale o1 h6 _) (kp ?_)
                rw [iTn_nI (by omega), decide_eq_true (show rest % 10 - 1 < bT B by omega)]
                refine ev_if_eq (pc := 49) 65 dX12_by_49 (by decide) (fun c_49 => ?_) (fun c_49 => ?_)
                · exact absurd c_49 (by decide)
                · (try simp (disch := omega) only [i32_lti, i32_lei, i32_eqi, nI_toInt, i32z] at c_49)
                  refine ev_iload_n (pc := 52) dX12_by_52 rfl ?_
                  refine ev_iload (pc := 53) dX12_by_53 rfl ?_
                  refine ev_ishr (pc := 55) dX12_by_55 ?_
                  refine ev_iconst (pc := 56) (v := nI 1) dX12_by_56 kc_1 ?_
                  refine ev_iand (pc := 57) dX12_by_57 ?_
                  rw [bt_tst _ h64 _ (by omega), hb, b2i_f]
                  refine ev_if_ne (pc := 58) 65 dX12_by_58 (by decide) (fun c_58 => ?_) (fun c_58 => ?_)
                  · exact absurd rfl c_58
                  · (try simp (disch := omega) only [i32_lti, i32_lei, i32_eqi, nI_toInt, i32z] at c_58)
                    refine ev_iconst (pc := 61) (v := nI 1) dX12_by_61 kc_1 ?_
                    refine ev_goto (pc := 62) 66 dX12_by_62 (by decide) ?_
                    refine ev_istore (pc := 66) (L' := [_, _, _, _, _, _]) dX12_by_66 (Nat.le_of_ble_eq_true rfl) rfl ?_
                    refine ev_iload_n (pc := 68) dX12_by_68 rfl ?_
                    refine ev_iload (pc := 69) dX12_by_69 rfl ?_
                    refine ev_if_eq (pc := 71) 81 dX12_by_71 (by decide) (fun c_71 => ?_) (fun c_71 => ?_)
                    · exact absurd c_71 (by decide)
                    · (try simp (disch := omega) only [i32_lti, i32_lei, i32_eqi, nI_toInt, i32z] at c_71)
                      refine ev_iconst (pc := 74) (v := nI 1) dX12_by_74 kc_1 ?_
                      refine ev_iload (pc := 75) dX12_by_75 rfl ?_
                      refine ev_ishl (pc := 77) dX12_by_77 ?_
                      rw [bt_shl _ (by omega)]
                      refine ev_goto (pc := 78) 82 dX12_by_78 (by decide) ?_
                      refine ev_ior (pc := 82) dX12_by_82 ?_
                      rw [bt_or _ h64 _ (bt_shl64 _ (by omega)), em]
                      refine ev_istore_n (pc := 83) (L' := [_, _, _, _, _, _]) dX12_by_83 (Nat.le_of_ble_eq_true rfl) rfl ?_
                      refine ev_aload_n (pc := 84) dX12_by_84 rfl ?_
                      refine ev_dup (pc := 85) dX12_by_85 rfl ?_
                      refine gf_X12_199 (pc := 86) rfl dX12_by_86 (by (try dsimp only); (repeat (first | rw [up_s] | rw [up_n (by omega)])) <;> first | rfl | assumption) ?_
                      refine ev_iconst (pc := 89) (v := nI 1) dX12_by_89 kc_1 ?_
                      refine ev_iadd (pc := 90) dX12_by_90 ?_
                      (try rw [nI_add])
                      refine pf_X12_199 (pc := 91) rfl dX12_by_91 (by (try dsimp only); (repeat (first | rw [up_s] | rw [up_n (by omega)])) <;> first | rfl | assumption) ?_
                      refine ev_iload_n (pc := 94) dX12_by_94 rfl ?_
                      refine ev_bipush (pc := 95) (v := nI 10) dX12_by_95 kb_10 ?_
                      refine ev_idiv (pc := 97) dX12_by_97 (by decide) ?_
                      rw [pk_div (by omega) (by omega) (by omega)]
                      refine ev_istore_n (pc := 98) (L' := [_, _, _, _, _, _]) dX12_by_98 (Nat.le_of_ble_eq_true rfl) rfl ?_
                      refine ev_goto (pc := 99) 26 dX12_by_99 (by decide) ?_
                      exact hih _ _ (by intro q a; (try dsimp only); rw [up_n (by omega)]; exact f1 q a) (by unfold pMO; exact (by (try dsimp only); (repeat (first | rw [up_s] | rw [up_n (by omega)])) <;> first | rfl | assumption))
    refine ev_iload_n (pc := 0) dX12_by_0 rfl ?_
    refine ev_istore_n (pc := 1) (L' := [_, _, _, _, _, _]) dX12_by_1 (Nat.le_of_ble_eq_true rfl) rfl ?_
    refine ev_aload_n (pc := 2) dX12_by_2 rfl ?_
    refine ev_iconst (pc := 3) (v := nI 0) dX12_by_3 kc_0 ?_
    refine pf_X12_199 (pc := 4) rfl dX12_by_4 (by (try dsimp only); (repeat (first | rw [up_s] | rw [up_n (by omega)])) <;> first | rfl | assumption) ?_
    refine ev_iconst (pc := 7) (v := nI 0) dX12_by_7 kc_0 ?_
    refine ev_istore_n (pc := 8) (L' := [_, _, _, _, _, _]) dX12_by_8 (Nat.le_of_ble_eq_true rfl) rfl ?_
    refine ev_iload_n (pc := 9) dX12_by_9 rfl ?_
    refine ev_if_lt (pc := 10) 23 dX12_by_10 (by decide) (fun c_10 => ?_) (fun c_10 => ?_)
    · exfalso; (try simp (disch := omega) only [i32_lti, i32_lei, i32_eqi, nI_toInt, i32z] at c_10); omega
    · (try simp (disch := omega) only [i32_lti, i32_lei, i32_eqi, nI_toInt, i32z] at c_10)
      refine ev_iload_n (pc := 13) dX12_by_13 rfl ?_
      refine ev_ldc (pc := 14) dX12_by_14 tw_1089 ?_
      refine ev_icmp_ge (pc := 16) 23 dX12_by_16 (by decide) (fun c_16 => ?_) (fun c_16 => ?_)
      · exfalso; (try simp (disch := omega) only [i32_lti, i32_lei, i32_eqi, nI_toInt, i32z] at c_16); rw [show (1000000 : Int32).toInt = 1000000 from rfl] at c_16; (try rw [nI_toInt hf31] at c_16); omega
      · (try simp (disch := omega) only [i32_lti, i32_lei, i32_eqi, nI_toInt, i32z] at c_16)
        refine ev_iconst (pc := 19) (v := nI 1) dX12_by_19 kc_1 ?_
        refine ev_goto (pc := 20) 24 dX12_by_20 (by decide) ?_
        refine ev_istore (pc := 24) (L' := [_, _, _, _, _, _]) dX12_by_24 (Nat.le_of_ble_eq_true rfl) rfl ?_
        exact loop 6 [] fn _ _ rfl hM rfl (fun t ht => (nomatch ht)) List.nodup_nil (by intro q a; (try dsimp only); rw [up_n (by omega)]) (by unfold pMO; exact (by (try dsimp only); (repeat (first | rw [up_s] | rw [up_n (by omega)])) <;> first | rfl | assumption))
  · have es : sprD (bT B) 6 fn [] = none := by
      cases e : sprD (bT B) 6 fn [] with
      | none => rfl
      | some w => have := (sprD_lt h6 e).1; omega
    refine ev_iload_n (pc := 0) dX12_by_0 rfl ?_
    refine ev_istore_n (pc := 1) (L' := [_, _, _, _, _, _]) dX12_by_1 (Nat.le_of_ble_eq_true rfl) rfl ?_
    refine ev_aload_n (pc := 2) dX12_by_2 rfl ?_
    refine ev_iconst (pc := 3) (v := nI 0) dX12_by_3 kc_0 ?_
    refine pf_X12_199 (pc := 4) rfl dX12_by_4 (by (try dsimp only); (repeat (first | rw [up_s] | rw [up_n (by omega)])) <;> first | rfl | assumption) ?_
    refine ev_iconst (pc := 7) (v := nI 0) dX12_by_7 kc_0 ?_
    refine ev_istore_n (pc := 8) (L' := [_, _, _, _, _, _]) dX12_by_8 (Nat.le_of_ble_eq_true rfl) rfl ?_
    refine ev_iload_n (pc := 9) dX12_by_9 rfl ?_
    refine ev_if_lt (pc := 10) 23 dX12_by_10 (by decide) (fun c_10 => ?_) (fun c_10 => ?_)
    · exfalso; (try simp (disch := omega) only [i32_lti, i32_lei, i32_eqi, nI_toInt, i32z] at c_10); omega
    · (try simp (disch := omega) only [i32_lti, i32_lei, i32_eqi, nI_toInt, i32z] at c_10)
      refine ev_iload_n (pc := 13) dX12_by_13 rfl ?_
      refine ev_ldc (pc := 14) dX12_by_14 tw_1089 ?_
      refine ev_icmp_ge (pc := 16) 23 dX12_by_16 (by decide) (fun c_16 => ?_) (fun c_16 => ?_)
      · (try simp (disch := omega) only [i32_lti, i32_lei, i32_eqi, nI_toInt, i32z] at c_16)
        refine ev_iconst (pc := 23) (v := nI 0) dX12_by_23 kc_0 ?_
        refine ev_istore (pc := 24) (L' := [_, _, _, _, _, _]) dX12_by_24 (Nat.le_of_ble_eq_true rfl) rfl ?_
        refine ev_iload_n (pc := 26) dX12_by_26 rfl ?_
        refine ev_if_le (pc := 27) 102 dX12_by_27 (by decide) (fun c_27 => ?_) (fun c_27 => ?_)
        · (try simp (disch := omega) only [i32_lti, i32_lei, i32_eqi, nI_toInt, i32z] at c_27)
          exact bad es _ 0 _ _ _ (by intro q a; (try dsimp only); rw [up_n (by omega)]) (by unfold pMO; exact (by (try dsimp only); (repeat (first | rw [up_s] | rw [up_n (by omega)])) <;> first | rfl | assumption))
        · (try simp (disch := omega) only [i32_lti, i32_lei, i32_eqi, nI_toInt, i32z] at c_27)
          refine ev_iload (pc := 30) dX12_by_30 rfl ?_
          refine ev_if_eq (pc := 32) 102 dX12_by_32 (by decide) (fun c_32 => ?_) (fun c_32 => ?_)
          · (try simp (disch := omega) only [i32_lti, i32_lei, i32_eqi, nI_toInt, i32z] at c_32)
            exact bad es _ 0 _ _ _ (by intro q a; (try dsimp only); rw [up_n (by omega)]) (by unfold pMO; exact (by (try dsimp only); (repeat (first | rw [up_s] | rw [up_n (by omega)])) <;> first | rfl | assumption))
          · exact absurd rfl c_32
      · exfalso; (try simp (disch := omega) only [i32_lti, i32_lei, i32_eqi, nI_toInt, i32z] at c_16); rw [show (1000000 : Int32).toInt = 1000000 from rfl] at c_16; (try rw [nI_toInt hf31] at c_16); omega
end MBY
