/-! ===== the model: what was read is taken ===== -/
section MTAKE
variable {X : Cx} {h : Hp} {z : Nat} {A : Ab} {B : Bk} {m : Nat} {sz at_ bg tk td rt rn rm rd tl nt me de lo sa un mn bd br he : Int32} {tr : Int64}
theorem c_mTakes {f5 f6 f7 f8 f9 fk : Nat → Int32} (po : pMO h m sz at_ bg tk td (nI (aP A).length) (nI (aH A).length) (nI (aM A)) (nI (aD A)) tl nt me de (nI 0) sa un mn bd br he tr) (w : wA A) (g1 : (aW A).length = (aP A).length) (ab : mAb h m A) (bq : bIs B (aSet A)) (b9 : wB 9 B) (a5 : h (m + 5) = some (.inr (0, .inl (ar 6 f5)))) (a6 : h (m + 6) = some (.inr (0, .inl (ar 6 f6)))) (a7 : h (m + 7) = some (.inr (0, .inl (ar 8 f7)))) (a8 : h (m + 8) = some (.inr (0, .inl (ar 28 f8)))) (a9 : h (m + 9) = some (.inr (0, .inl (ar 28 f9)))) (a16 : h (m + 16) = some (.inr (0, .inl (ar 642 fk)))) : Ct X 2 mt_X12_takes [.ref m] (h, z) 0 0 (Qv (fun S' => S'.2 = z ∧ (∀ q : Nat, q ≠ m → (q < m + 5 ∨ (m + 10 ≤ q ∧ q ≠ m + 16)) → S'.1 q = h q) ∧ pMO S'.1 m sz at_ bg tk td (nI (aP A).length) (nI (aH A).length) (nI (aM A)) (nI (aD A)) (nI (bT B)) (nI (bK B)) (nI (bM B)) (nI (bD B)) (nI 0) (nI 0) (nI 0) mn bd br (nI 0) tr ∧ mBk S'.1 m B (nI 0) ∧ pRw S'.1 (m + 8) (startT B) ∧ mRo S'.1 m ∧ ∃ g : Nat → Int32, S'.1 (m + 16) = some (.inr (0, .inl (ar 642 g))) ∧ g 0 = 0 ∧ g 321 = 0)) := by
  unfold pMO at po
  obtain ⟨w1, w2, w3, w4⟩ := id w
  obtain ⟨fr, gr, kr, r1, r2, r3, r4, r5, r6⟩ := id ab
  obtain ⟨e1, e2, e3, e4, e5, e6, e7, e8⟩ := bq
  have hT : bT B = (aP A).length := e1
  have h6 := b9.1
  have hK0 : (aH A).length = 0 → bK B = 1 := fun q => by rw [e2]; show (if (aH A).length = 0 then [5] else aH A).length = 1; rw [if_pos q]; rfl
  have hK1 : (aH A).length ≠ 0 → bK B = (aH A).length := fun q => by rw [e2]; show (if (aH A).length = 0 then [5] else aH A).length = _; rw [if_neg q]
  have hM0 : aM A = 0 → bM B = 3 := fun q => by rw [e3]; show (if aM A = 0 then 3 else aM A) = 3; rw [if_pos q]
  have hM1 : aM A ≠ 0 → bM B = aM A := fun q => by rw [e3]; show (if aM A = 0 then 3 else aM A) = _; rw [if_neg q]
  have hD0 : aD A = 0 → bD B = 6 := fun q => by rw [e4]; show (if aD A = 0 then 6 else aD A) = 6; rw [if_pos q]
  have hD1 : aD A ≠ 0 → bD B = aD A := fun q => by rw [e4]; show (if aD A = 0 then 6 else aD A) = _; rw [if_neg q]
  have hP : ∀ t : Nat, t < bT B → gN (bP B) t = gN (aP A) t ∧ gN (bW B) t = gN (aW A) t := fun t ht => ⟨e6 t (by show t < (aP A).length; omega), e7 t (by show t < (aP A).length; omega)⟩
  have hH : ∀ k : Nat, k < bK B → gN (bH B) k = if (aH A).length = 0 then 5 else gN (aH A) k := by
    intro k hk
    have hk2 : k < (aH (aSet A)).length := by omega
    have hh : aH (aSet A) = if (aH A).length = 0 then [5] else aH A := rfl
    rw [e8 k hk2, hh]
    by_cases q : (aH A).length = 0
    · rw [if_pos q, if_pos q]
      have : k = 0 := by have := hK0 q; omega
      subst this; rfl
    · rw [if_neg q, if_neg q]
  have k8 := b9.2.2.1
  refine mk_X12_takes (Nat.le_of_ble_eq_true rfl) (L := [.ref m, .retAddr 0]) rfl ?_
  have loopN : ∀ (c k : Nat), k + c = 28 → ∀ (h1 : Hp) (g : Nat → Int32), (∀ q : Nat, q ≠ m → (q < m + 5 ∨ m + 10 ≤ q) → h1 q = h q) → pMO h1 m sz at_ bg tk td (nI (aP A).length) (nI (aH A).length) (nI (aM A)) (nI (aD A)) (nI (bT B)) (nI (bK B)) (nI (bM B)) (nI (bD B)) (nI 0) sa un mn bd br he tr → mBk h1 m B (nI 0) → pRw h1 (m + 9) (startT B) → h1 (m + 8) = some (.inr (0, .inl (ar 28 g))) → (∀ j : Nat, j < k → g j = eT (startT B) j) → Ev X (mi_X12_takes 2 0 0) (Qv (fun S' => S'.2 = z ∧ (∀ q : Nat, q ≠ m → (q < m + 5 ∨ (m + 10 ≤ q ∧ q ≠ m + 16)) → S'.1 q = h q) ∧ pMO S'.1 m sz at_ bg tk td (nI (aP A).length) (nI (aH A).length) (nI (aM A)) (nI (aD A)) (nI (bT B)) (nI (bK B)) (nI (bM B)) (nI (bD B)) (nI 0) (nI 0) (nI 0) mn bd br (nI 0) tr ∧ mBk S'.1 m B (nI 0) ∧ pRw S'.1 (m + 8) (startT B) ∧ mRo S'.1 m ∧ ∃ g : Nat → Int32, S'.1 (m + 16) = some (.inr (0, .inl (ar 642 g))) ∧ g 0 = 0 ∧ g 321 = 0)) 0 0 (h1, z) 151 [.ref m, .int (nI k)] [] := by
    intro c
    induction c with
    | zero =>
      intro k hk h1 g f1 o1 b1 p9 p8 hg
      unfold pMO at o1
      have y16 := (f1 (m + 16) (by omega) (by omega)).trans a16
      have eg : ar 28 g = ar 28 (eT (startT B)) := ar_ext (fun j hj => hg j (by omega))
      rw [eg] at p8
      refine ev_iload_n (pc := 151) dX12_takes_151 rfl ?_
      refine ev_bipush (pc := 152) (v := nI 28) dX12_takes_152 kb_28 ?_
      refine ev_icmp_ge (pc := 154) 175 dX12_takes_154 (by decide) (fun c_154 => ?_) (fun c_154 => ?_)
      · (try simp (disch := omega) only [i32_lti, i32_lei, i32_eqi, nI_toInt, i32z] at c_154)
        refine ev_aload_n (pc := 175) dX12_takes_175 rfl ?_
        refine ev_iconst (pc := 176) (v := nI 0) dX12_takes_176 kc_0 ?_
        refine pf_X12_152 (pc := 177) rfl dX12_takes_177 (by (try dsimp only); (repeat (first | rw [up_s] | rw [up_n (by omega)])) <;> first | rfl | assumption) ?_
        refine ev_aload_n (pc := 180) dX12_takes_180 rfl ?_
        refine ev_iconst (pc := 181) (v := nI 0) dX12_takes_181 kc_0 ?_
        refine pf_X12_155 (pc := 182) rfl dX12_takes_182 (by (try dsimp only); (repeat (first | rw [up_s] | rw [up_n (by omega)])) <;> first | rfl | assumption) ?_
        refine ev_aload_n (pc := 185) dX12_takes_185 rfl ?_
        refine ev_iconst (pc := 186) (v := nI 0) dX12_takes_186 kc_0 ?_
        refine pf_X12_158 (pc := 187) rfl dX12_takes_187 (by (try dsimp only); (repeat (first | rw [up_s] | rw [up_n (by omega)])) <;> first | rfl | assumption) ?_
        refine ev_aload_n (pc := 190) dX12_takes_190 rfl ?_
        refine gf_X12_55 (pc := 191) rfl dX12_takes_191 (by (try dsimp only); (repeat (first | rw [up_s] | rw [up_n (by omega)])) <;> first | rfl | assumption) ?_
        refine ev_iconst (pc := 194) (v := nI 0) dX12_takes_194 kc_0 ?_
        refine ev_iconst (pc := 195) (v := nI 0) dX12_takes_195 kc_0 ?_
        refine ev_iast (pc := 196) dX12_takes_196 (by (try dsimp only); (repeat (first | rw [up_s] | rw [up_n (by omega)])) <;> first | rfl | assumption) (nI_toInt (by omega)) (by rw [ar_len]; omega) ?_
        rw [ar_set (by omega)]
        refine ev_aload_n (pc := 197) dX12_takes_197 rfl ?_
        refine gf_X12_55 (pc := 198) rfl dX12_takes_198 (by (try dsimp only); (repeat (first | rw [up_s] | rw [up_n (by omega)])) <;> first | rfl | assumption) ?_
        refine ev_sipush (pc := 201) (v := nI 321) dX12_takes_201 ks_321 ?_
        refine ev_iconst (pc := 204) (v := nI 0) dX12_takes_204 kc_0 ?_
        refine ev_iast (pc := 205) dX12_takes_205 (by (try dsimp only); (repeat (first | rw [up_s] | rw [up_n (by omega)])) <;> first | rfl | assumption) (nI_toInt (by omega)) (by rw [ar_len]; omega) ?_
        rw [ar_set (by omega)]
        refine ev_ret (pc := 206) dX12_takes_206 rfl (Nat.le_of_ble_eq_true rfl) (Nat.le_of_ble_eq_true rfl) ?_
        exact ⟨rfl, rfl, (by intro q a b; (try dsimp only); (repeat (first | rw [up_n (by omega)])); exact f1 q a (by omega)), (by unfold pMO; exact (by (try dsimp only); (repeat (first | rw [up_s] | rw [up_n (by omega)])) <;> first | rfl | assumption)), b1.fr (fun q a b => by (try dsimp only); (repeat (first | rw [up_n (by omega)]))), (by unfold pRw; exact (by (try dsimp only); (repeat (first | rw [up_s] | rw [up_n (by omega)])) <;> first | rfl | assumption)), ⟨eT (startT B), (by unfold pRw at p9; exact (by (try dsimp only); (repeat (first | rw [up_s] | rw [up_n (by omega)])) <;> first | rfl | assumption))⟩, _, (by (try dsimp only); (repeat (first | rw [up_s] | rw [up_n (by omega)])) <;> first | rfl | assumption), (by rw [ru_n (by omega), ru_s]; rfl), ru_s⟩
      · exfalso; (try simp (disch := omega) only [i32_lti, i32_lei, i32_eqi, nI_toInt, i32z] at c_154); omega
    | succ c ih =>
      intro k hk h1 g f1 o1 b1 p9 p8 hg
      have o1' := o1
      unfold pMO at o1'
      have p9' := p9
      unfold pRw at p9'
      refine ev_iload_n (pc := 151) dX12_takes_151 rfl ?_
      refine ev_bipush (pc := 152) (v := nI 28) dX12_takes_152 kb_28 ?_
      refine ev_icmp_ge (pc := 154) 175 dX12_takes_154 (by decide) (fun c_154 => ?_) (fun c_154 => ?_)
      · exfalso; (try simp (disch := omega) only [i32_lti, i32_lei, i32_eqi, nI_toInt, i32z] at c_154); omega
      · (try simp (disch := omega) only [i32_lti, i32_lei, i32_eqi, nI_toInt, i32z] at c_154)
        refine ev_aload_n (pc := 157) dX12_takes_157 rfl ?_
        refine gf_X12_31 (pc := 158) rfl dX12_takes_158 (by (try dsimp only); (repeat (first | rw [up_s] | rw [up_n (by omega)])) <;> first | rfl | assumption) ?_
        refine ev_iload_n (pc := 161) dX12_takes_161 rfl ?_
        refine ev_aload_n (pc := 162) dX12_takes_162 rfl ?_
        refine gf_X12_34 (pc := 163) rfl dX12_takes_163 (by (try dsimp only); (repeat (first | rw [up_s] | rw [up_n (by omega)])) <;> first | rfl | assumption) ?_
        refine ev_iload_n (pc := 166) dX12_takes_166 rfl ?_
        refine ev_iald (pc := 167) dX12_takes_167 (by (try dsimp only); (repeat (first | rw [up_s] | rw [up_n (by omega)])) <;> first | rfl | assumption) (nI_toInt (by omega)) (ar_get (by omega)) ?_
        refine ev_iast (pc := 168) dX12_takes_168 (by (try dsimp only); (repeat (first | rw [up_s] | rw [up_n (by omega)])) <;> first | rfl | assumption) (nI_toInt (by omega)) (by rw [ar_len]; omega) ?_
        rw [ar_set (by omega)]
        refine ev_iinc (pc := 169) (L' := [_, _]) dX12_takes_169 rfl (nI_1 _) rfl ?_
        refine ev_goto (pc := 172) 151 dX12_takes_172 (by decide) ?_
        refine ih (k + 1) (by omega) _ (ru g k (eT (startT B) k)) (by intro q a b; (try dsimp only); rw [up_n (by omega)]; exact f1 q a b) (by unfold pMO; exact (by (try dsimp only); (repeat (first | rw [up_s] | rw [up_n (by omega)])) <;> first | rfl | assumption)) (b1.fr (fun q a b => by (try dsimp only); rw [up_n (by omega)])) (show _ = _ from (up_n (by omega)).trans p9) (by (try dsimp only); (repeat (first | rw [up_s] | rw [up_n (by omega)])) <;> first | rfl | assumption) ?_
        intro j hj
        by_cases q : j = k
        · subst q; rw [ru_s]
        · rw [ru_n q]; exact hg j (by omega)
  have loopH : ∀ (c k : Nat), k + c = bK B → ∀ (h1 : Hp) (g : Nat → Int32), (∀ q : Nat, q ≠ m → (q < m + 5 ∨ m + 8 ≤ q) → h1 q = h q) → pMO h1 m sz at_ bg tk td (nI (aP A).length) (nI (aH A).length) (nI (aM A)) (nI (aD A)) (nI (bT B)) (nI (bK B)) (nI (bM B)) (nI (bD B)) (nI 0) sa un mn bd br he tr → (∃ fp fw : Nat → Int32, h1 (m + 5) = some (.inr (0, .inl (ar 6 fp))) ∧ h1 (m + 6) = some (.inr (0, .inl (ar 6 fw))) ∧ ∀ t : Nat, t < bT B → fp t = nI (gN (bP B) t) ∧ fw t = nI (gN (bW B) t)) → h1 (m + 7) = some (.inr (0, .inl (ar 8 g))) → (∀ j : Nat, j < k → g j = nI (gN (bH B) j)) → Ev X (mi_X12_takes 2 0 0) (Qv (fun S' => S'.2 = z ∧ (∀ q : Nat, q ≠ m → (q < m + 5 ∨ (m + 10 ≤ q ∧ q ≠ m + 16)) → S'.1 q = h q) ∧ pMO S'.1 m sz at_ bg tk td (nI (aP A).length) (nI (aH A).length) (nI (aM A)) (nI (aD A)) (nI (bT B)) (nI (bK B)) (nI (bM B)) (nI (bD B)) (nI 0) (nI 0) (nI 0) mn bd br (nI 0) tr ∧ mBk S'.1 m B (nI 0) ∧ pRw S'.1 (m + 8) (startT B) ∧ mRo S'.1 m ∧ ∃ g : Nat → Int32, S'.1 (m + 16) = some (.inr (0, .inl (ar 642 g))) ∧ g 0 = 0 ∧ g 321 = 0)) 0 0 (h1, z) 108 [.ref m, .int (nI k)] [] := by
    intro c
    induction c with
    | zero =>
      intro k hk h1 g f1 o1 pw p7 hg
      have ek : k = bK B := by omega
      subst ek
      obtain ⟨fp, fw, p5, p6, p56⟩ := pw
      have b1 : mBk h1 m B (nI 0) := ⟨fp, fw, g, p5, p6, p7, p56, fun j hj => by rw [hg j hj, nI_add, Nat.add_zero]⟩
      have o1' := o1
      unfold pMO at o1'
      have y8 := (f1 (m + 8) (by omega) (by omega)).trans a8
      have y9 := (f1 (m + 9) (by omega) (by omega)).trans a9
      refine ev_iload_n (pc := 108) dX12_takes_108 rfl ?_
      refine ev_aload_n (pc := 109) dX12_takes_109 rfl ?_
      refine gf_X12_140 (pc := 110) rfl dX12_takes_110 (by (try dsimp only); (repeat (first | rw [up_s] | rw [up_n (by omega)])) <;> first | rfl | assumption) ?_
      refine ev_icmp_ge (pc := 113) 145 dX12_takes_113 (by decide) (fun c_113 => ?_) (fun c_113 => ?_)
      · (try simp (disch := omega) only [i32_lti, i32_lei, i32_eqi, nI_toInt, i32z] at c_113)
        refine ev_aload_n (pc := 145) dX12_takes_145 rfl ?_
        refine iv_X12_149 (pc := 146) rfl dX12_takes_146 (by (try dsimp only); (repeat (first | rw [up_s] | rw [up_n (by omega)])) <;> first | rfl | assumption) (Nat.le_of_ble_eq_true rfl) (Nat.le_of_ble_eq_true rfl) (Nat.le_of_ble_eq_true rfl) (Nat.le_of_ble_eq_true rfl) (c_mAnew o1 b1 h6 b9.2.1 k8 y9) (kv (fun S' hS => ?_))
        obtain ⟨h2, z'⟩ := S'
        obtain ⟨rfl, f2, p9⟩ := hS
        refine ev_iconst (pc := 149) (v := nI 0) dX12_takes_149 kc_0 ?_
        refine ev_istore_n (pc := 150) (L' := [_, _]) dX12_takes_150 (Nat.le_of_ble_eq_true rfl) rfl ?_
        exact loopN 28 0 rfl h2 f8 (fun q a b => (f2 q (by omega)).trans (f1 q a (by omega))) ((f2 m (by omega)).trans o1) (b1.fr (fun q a b => f2 q (by omega))) p9 ((f2 _ (by omega)).trans y8) (fun j hj => by omega)
      · exfalso; (try simp (disch := omega) only [i32_lti, i32_lei, i32_eqi, nI_toInt, i32z] at c_113); omega
    | succ c ih =>
      intro k hk h1 g f1 o1 pw p7 hg
      have o1' := o1
      unfold pMO at o1'
      have y4 := (f1 (m + 4) (by omega) (by omega)).trans r3
      obtain ⟨fp, fw, p5, p6, p56⟩ := pw
      have hkH := hH k (by omega)
      refine ev_iload_n (pc := 108) dX12_takes_108 rfl ?_
      refine ev_aload_n (pc := 109) dX12_takes_109 rfl ?_
      refine gf_X12_140 (pc := 110) rfl dX12_takes_110 (by (try dsimp only); (repeat (first | rw [up_s] | rw [up_n (by omega)])) <;> first | rfl | assumption) ?_
      refine ev_icmp_ge (pc := 113) 145 dX12_takes_113 (by decide) (fun c_113 => ?_) (fun c_113 => ?_)
      · exfalso; (try simp (disch := omega) only [i32_lti, i32_lei, i32_eqi, nI_toInt, i32z] at c_113); omega
      · (try simp (disch := omega) only [i32_lti, i32_lei, i32_eqi, nI_toInt, i32z] at c_113)
        refine ev_aload_n (pc := 116) dX12_takes_116 rfl ?_
        refine gf_X12_28 (pc := 117) rfl dX12_takes_117 (by (try dsimp only); (repeat (first | rw [up_s] | rw [up_n (by omega)])) <;> first | rfl | assumption) ?_
        refine ev_iload_n (pc := 120) dX12_takes_120 rfl ?_
        refine ev_aload_n (pc := 121) dX12_takes_121 rfl ?_
        refine gf_X12_114 (pc := 122) rfl dX12_takes_122 (by (try dsimp only); (repeat (first | rw [up_s] | rw [up_n (by omega)])) <;> first | rfl | assumption) ?_
        refine ev_if_ne (pc := 125) 132 dX12_takes_125 (by decide) (fun c_125 => ?_) (fun c_125 => ?_)
        · (try simp (disch := omega) only [i32_lti, i32_lei, i32_eqi, nI_toInt, i32z] at c_125)
          have hx := r6 k (by have := hK1 (by omega); omega)
          have ev : kr k = nI (gN (bH B) k) := by rw [hkH, if_neg (by omega)]; exact hx
          refine ev_aload_n (pc := 132) dX12_takes_132 rfl ?_
          refine gf_X12_19 (pc := 133) rfl dX12_takes_133 (by (try dsimp only); (repeat (first | rw [up_s] | rw [up_n (by omega)])) <;> first | rfl | assumption) ?_
          refine ev_iload_n (pc := 136) dX12_takes_136 rfl ?_
          refine ev_iald (pc := 137) dX12_takes_137 (by (try dsimp only); (repeat (first | rw [up_s] | rw [up_n (by omega)])) <;> first | rfl | assumption) (nI_toInt (by omega)) (xg (by omega) ev) ?_
          refine ev_iast (pc := 138) dX12_takes_138 (by (try dsimp only); (repeat (first | rw [up_s] | rw [up_n (by omega)])) <;> first | rfl | assumption) (nI_toInt (by omega)) (by rw [ar_len]; omega) ?_
          rw [ar_set (by omega)]
          first | rw [ev] | skip
          refine ev_iinc (pc := 139) (L' := [_, _]) dX12_takes_139 rfl (nI_1 _) rfl ?_
          refine ev_goto (pc := 142) 108 dX12_takes_142 (by decide) ?_
          refine ih (k + 1) (by omega) _ (ru g k (nI (gN (bH B) k))) (by intro q a b; (try dsimp only); rw [up_n (by omega)]; exact f1 q a b) (by unfold pMO; exact (by (try dsimp only); (repeat (first | rw [up_s] | rw [up_n (by omega)])) <;> first | rfl | assumption)) ⟨fp, fw, (by (try dsimp only); (repeat (first | rw [up_s] | rw [up_n (by omega)])) <;> first | rfl | assumption), (by (try dsimp only); (repeat (first | rw [up_s] | rw [up_n (by omega)])) <;> first | rfl | assumption), p56⟩ (by (try dsimp only); (repeat (first | rw [up_s] | rw [up_n (by omega)])) <;> first | rfl | assumption) ?_
          intro j hj
          by_cases q : j = k
          · subst q; rw [ru_s]
          · rw [ru_n q]; exact hg j (by omega)
        · (try simp (disch := omega) only [i32_lti, i32_lei, i32_eqi, nI_toInt, i32z] at c_125)
          have ev : (nI 5 : Int32) = nI (gN (bH B) k) := by rw [hkH, if_pos (by omega)]
          refine ev_iconst (pc := 128) (v := nI 5) dX12_takes_128 kc_5 ?_
          refine ev_goto (pc := 129) 138 dX12_takes_129 (by decide) ?_
          refine ev_iast (pc := 138) dX12_takes_138 (by (try dsimp only); (repeat (first | rw [up_s] | rw [up_n (by omega)])) <;> first | rfl | assumption) (nI_toInt (by omega)) (by rw [ar_len]; omega) ?_
          rw [ar_set (by omega)]
          first | rw [ev] | skip
          refine ev_iinc (pc := 139) (L' := [_, _]) dX12_takes_139 rfl (nI_1 _) rfl ?_
          refine ev_goto (pc := 142) 108 dX12_takes_142 (by decide) ?_
          refine ih (k + 1) (by omega) _ (ru g k (nI (gN (bH B) k))) (by intro q a b; (try dsimp only); rw [up_n (by omega)]; exact f1 q a b) (by unfold pMO; exact (by (try dsimp only); (repeat (first | rw [up_s] | rw [up_n (by omega)])) <;> first | rfl | assumption)) ⟨fp, fw, (by (try dsimp only); (repeat (first | rw [up_s] | rw [up_n (by omega)])) <;> first | rfl | assumption), (by (try dsimp only); (repeat (first | rw [up_s] | rw [up_n (by omega)])) <;> first | rfl | assumption), p56⟩ (by (try dsimp only); (repeat (first | rw [up_s] | rw [up_n (by omega)])) <;> first | rfl | assumption) ?_
          intro j hj
          by_cases q : j = k
          · subst q; rw [ru_s]
          · rw [ru_n q]; exact hg j (by omega)
  have loopT : ∀ (c k : Nat), k + c = bT B → ∀ (h1 : Hp) (g g' : Nat → Int32), (∀ q : Nat, q ≠ m → (q < m + 5 ∨ m + 7 ≤ q) → h1 q = h q) → pMO h1 m sz at_ bg tk td (nI (aP A).length) (nI (aH A).length) (nI (aM A)) (nI (aD A)) (nI (bT B)) (nI (bK B)) (nI (bM B)) (nI (bD B)) (nI 0) sa un mn bd br he tr → h1 (m + 5) = some (.inr (0, .inl (ar 6 g))) → h1 (m + 6) = some (.inr (0, .inl (ar 6 g'))) → (∀ j : Nat, j < k → g j = nI (gN (bP B) j) ∧ g' j = nI (gN (bW B) j)) → Ev X (mi_X12_takes 2 0 0) (Qv (fun S' => S'.2 = z ∧ (∀ q : Nat, q ≠ m → (q < m + 5 ∨ (m + 10 ≤ q ∧ q ≠ m + 16)) → S'.1 q = h q) ∧ pMO S'.1 m sz at_ bg tk td (nI (aP A).length) (nI (aH A).length) (nI (aM A)) (nI (aD A)) (nI (bT B)) (nI (bK B)) (nI (bM B)) (nI (bD B)) (nI 0) (nI 0) (nI 0) mn bd br (nI 0) tr ∧ mBk S'.1 m B (nI 0) ∧ pRw S'.1 (m + 8) (startT B) ∧ mRo S'.1 m ∧ ∃ g : Nat → Int32, S'.1 (m + 16) = some (.inr (0, .inl (ar 642 g))) ∧ g 0 = 0 ∧ g 321 = 0)) 0 0 (h1, z) 68 [.ref m, .int (nI k)] [] := by
    intro c
    induction c with
    | zero =>
      intro k hk h1 g g' f1 o1 p5 p6 hg
      have o1' := o1
      unfold pMO at o1'
      have y7 := (f1 (m + 7) (by omega) (by omega)).trans a7
      refine ev_iload_n (pc := 68) dX12_takes_68 rfl ?_
      refine ev_aload_n (pc := 69) dX12_takes_69 rfl ?_
      refine gf_X12_137 (pc := 70) rfl dX12_takes_70 (by (try dsimp only); (repeat (first | rw [up_s] | rw [up_n (by omega)])) <;> first | rfl | assumption) ?_
      refine ev_icmp_ge (pc := 73) 106 dX12_takes_73 (by decide) (fun c_73 => ?_) (fun c_73 => ?_)
      · (try simp (disch := omega) only [i32_lti, i32_lei, i32_eqi, nI_toInt, i32z] at c_73)
        refine ev_iconst (pc := 106) (v := nI 0) dX12_takes_106 kc_0 ?_
        refine ev_istore_n (pc := 107) (L' := [_, _]) dX12_takes_107 (Nat.le_of_ble_eq_true rfl) rfl ?_
        exact loopH (bK B) 0 (by omega) h1 f7 (fun q a b => f1 q a (by omega)) o1 ⟨g, g', p5, p6, fun t ht => hg t (by omega)⟩ y7 (fun j hj => by omega)
      · exfalso; (try simp (disch := omega) only [i32_lti, i32_lei, i32_eqi, nI_toInt, i32z] at c_73); omega
    | succ c ih =>
      intro k hk h1 g g' f1 o1 p5 p6 hg
      have o1' := o1
      unfold pMO at o1'
      have y2 := (f1 (m + 2) (by omega) (by omega)).trans r1
      have y3 := (f1 (m + 3) (by omega) (by omega)).trans r2
      obtain ⟨hk1, hk2⟩ := hP k (by omega)
      have v1 : fr k = nI (gN (bP B) k) := by rw [hk1]; exact r4 k (by omega)
      have v2 : gr k = nI (gN (bW B) k) := by rw [hk2]; exact r5 k (by omega)
      refine ev_iload_n (pc := 68) dX12_takes_68 rfl ?_
      refine ev_aload_n (pc := 69) dX12_takes_69 rfl ?_
      refine gf_X12_137 (pc := 70) rfl dX12_takes_70 (by (try dsimp only); (repeat (first | rw [up_s] | rw [up_n (by omega)])) <;> first | rfl | assumption) ?_
      refine ev_icmp_ge (pc := 73) 106 dX12_takes_73 (by decide) (fun c_73 => ?_) (fun c_73 => ?_)
      · exfalso; (try simp (disch := omega) only [i32_lti, i32_lei, i32_eqi, nI_toInt, i32z] at c_73); omega
      · (try simp (disch := omega) only [i32_lti, i32_lei, i32_eqi, nI_toInt, i32z] at c_73)
        refine ev_aload_n (pc := 76) dX12_takes_76 rfl ?_
        refine gf_X12_22 (pc := 77) rfl dX12_takes_77 (by (try dsimp only); (repeat (first | rw [up_s] | rw [up_n (by omega)])) <;> first | rfl | assumption) ?_
        refine ev_iload_n (pc := 80) dX12_takes_80 rfl ?_
        refine ev_aload_n (pc := 81) dX12_takes_81 rfl ?_
        refine gf_X12_13 (pc := 82) rfl dX12_takes_82 (by (try dsimp only); (repeat (first | rw [up_s] | rw [up_n (by omega)])) <;> first | rfl | assumption) ?_
        refine ev_iload_n (pc := 85) dX12_takes_85 rfl ?_
        refine ev_iald (pc := 86) dX12_takes_86 (by (try dsimp only); (repeat (first | rw [up_s] | rw [up_n (by omega)])) <;> first | rfl | assumption) (nI_toInt (by omega)) (xg (by omega) v1) ?_
        refine ev_iast (pc := 87) dX12_takes_87 (by (try dsimp only); (repeat (first | rw [up_s] | rw [up_n (by omega)])) <;> first | rfl | assumption) (nI_toInt (by omega)) (by rw [ar_len]; omega) ?_
        rw [ar_set (by omega)]
        refine ev_aload_n (pc := 88) dX12_takes_88 rfl ?_
        refine gf_X12_25 (pc := 89) rfl dX12_takes_89 (by (try dsimp only); (repeat (first | rw [up_s] | rw [up_n (by omega)])) <;> first | rfl | assumption) ?_
        refine ev_iload_n (pc := 92) dX12_takes_92 rfl ?_
        refine ev_aload_n (pc := 93) dX12_takes_93 rfl ?_
        refine gf_X12_16 (pc := 94) rfl dX12_takes_94 (by (try dsimp only); (repeat (first | rw [up_s] | rw [up_n (by omega)])) <;> first | rfl | assumption) ?_
        refine ev_iload_n (pc := 97) dX12_takes_97 rfl ?_
        refine ev_iald (pc := 98) dX12_takes_98 (by (try dsimp only); (repeat (first | rw [up_s] | rw [up_n (by omega)])) <;> first | rfl | assumption) (nI_toInt (by omega)) (xg (by omega) v2) ?_
        refine ev_iast (pc := 99) dX12_takes_99 (by (try dsimp only); (repeat (first | rw [up_s] | rw [up_n (by omega)])) <;> first | rfl | assumption) (nI_toInt (by omega)) (by rw [ar_len]; omega) ?_
        rw [ar_set (by omega)]
        refine ev_iinc (pc := 100) (L' := [_, _]) dX12_takes_100 rfl (nI_1 _) rfl ?_
        refine ev_goto (pc := 103) 68 dX12_takes_103 (by decide) ?_
        refine ih (k + 1) (by omega) _ (ru g k (nI (gN (bP B) k))) (ru g' k (nI (gN (bW B) k))) (by intro q a b; (try dsimp only); rw [up_n (by omega), up_n (by omega)]; exact f1 q a b) (by unfold pMO; exact (by (try dsimp only); (repeat (first | rw [up_s] | rw [up_n (by omega)])) <;> first | rfl | assumption)) (by (try dsimp only); (repeat (first | rw [up_s] | rw [up_n (by omega)])) <;> first | rfl | assumption) (by (try dsimp only); (repeat (first | rw [up_s] | rw [up_n (by omega)])) <;> first | rfl | assumption) ?_
        intro j hj
        by_cases q : j = k
        · subst q; rw [ru_s, ru_s]; exact ⟨rfl, rfl⟩
        · rw [ru_n q, ru_n q]; exact hg j (by omega)
  refine ev_aload_n (pc := 0) dX12_takes_0 rfl ?_
  refine ev_aload_n (pc := 1) dX12_takes_1 rfl ?_
  refine gf_X12_107 (pc := 2) rfl dX12_takes_2 (by (try dsimp only); (repeat (first | rw [up_s] | rw [up_n (by omega)])) <;> first | rfl | assumption) ?_
  refine pf_X12_137 (pc := 5) rfl dX12_takes_5 (by (try dsimp only); (repeat (first | rw [up_s] | rw [up_n (by omega)])) <;> first | rfl | assumption) ?_
  refine ev_aload_n (pc := 8) dX12_takes_8 rfl ?_
  refine ev_aload_n (pc := 9) dX12_takes_9 rfl ?_
  refine gf_X12_114 (pc := 10) rfl dX12_takes_10 (by (try dsimp only); (repeat (first | rw [up_s] | rw [up_n (by omega)])) <;> first | rfl | assumption) ?_
  refine ev_if_ne (pc := 13) 20 dX12_takes_13 (by decide) (fun c_13 => ?_) (fun c_13 => ?_)
  · (try simp (disch := omega) only [i32_lti, i32_lei, i32_eqi, nI_toInt, i32z] at c_13)
    have ek := hK1 (by omega)
    refine ev_aload_n (pc := 20) dX12_takes_20 rfl ?_
    refine gf_X12_114 (pc := 21) rfl dX12_takes_21 (by (try dsimp only); (repeat (first | rw [up_s] | rw [up_n (by omega)])) <;> first | rfl | assumption) ?_
    refine pf_X12_140 (pc := 24) rfl dX12_takes_24 (by (try dsimp only); (repeat (first | rw [up_s] | rw [up_n (by omega)])) <;> first | rfl | assumption) ?_
    refine ev_aload_n (pc := 27) dX12_takes_27 rfl ?_
    refine ev_aload_n (pc := 28) dX12_takes_28 rfl ?_
    refine gf_X12_125 (pc := 29) rfl dX12_takes_29 (by (try dsimp only); (repeat (first | rw [up_s] | rw [up_n (by omega)])) <;> first | rfl | assumption) ?_
    refine ev_if_ne (pc := 32) 39 dX12_takes_32 (by decide) (fun c_32 => ?_) (fun c_32 => ?_)
    · (try simp (disch := omega) only [i32_lti, i32_lei, i32_eqi, nI_toInt, i32z] at c_32)
      have em := hM1 (by omega)
      refine ev_aload_n (pc := 39) dX12_takes_39 rfl ?_
      refine gf_X12_125 (pc := 40) rfl dX12_takes_40 (by (try dsimp only); (repeat (first | rw [up_s] | rw [up_n (by omega)])) <;> first | rfl | assumption) ?_
      refine pf_X12_143 (pc := 43) rfl dX12_takes_43 (by (try dsimp only); (repeat (first | rw [up_s] | rw [up_n (by omega)])) <;> first | rfl | assumption) ?_
      refine ev_aload_n (pc := 46) dX12_takes_46 rfl ?_
      refine ev_aload_n (pc := 47) dX12_takes_47 rfl ?_
      refine gf_X12_128 (pc := 48) rfl dX12_takes_48 (by (try dsimp only); (repeat (first | rw [up_s] | rw [up_n (by omega)])) <;> first | rfl | assumption) ?_
      refine ev_if_ne (pc := 51) 59 dX12_takes_51 (by decide) (fun c_51 => ?_) (fun c_51 => ?_)
      · (try simp (disch := omega) only [i32_lti, i32_lei, i32_eqi, nI_toInt, i32z] at c_51)
        have ed := hD1 (by omega)
        refine ev_aload_n (pc := 59) dX12_takes_59 rfl ?_
        refine gf_X12_128 (pc := 60) rfl dX12_takes_60 (by (try dsimp only); (repeat (first | rw [up_s] | rw [up_n (by omega)])) <;> first | rfl | assumption) ?_
        refine pf_X12_146 (pc := 63) rfl dX12_takes_63 (by (try dsimp only); (repeat (first | rw [up_s] | rw [up_n (by omega)])) <;> first | rfl | assumption) ?_
        refine ev_iconst (pc := 66) (v := nI 0) dX12_takes_66 kc_0 ?_
        refine ev_istore_n (pc := 67) (L' := [_, _]) dX12_takes_67 (Nat.le_of_ble_eq_true rfl) rfl ?_
        exact loopT (bT B) 0 (by omega) _ f5 f6 (by intro q a b; (try dsimp only); (repeat (first | rw [up_n (by omega)]))) (by unfold pMO; rw [ek, em, ed, hT]; exact (by (try dsimp only); (repeat (first | rw [up_s] | rw [up_n (by omega)])) <;> first | rfl | assumption)) (by (try dsimp only); (repeat (first | rw [up_s] | rw [up_n (by omega)])) <;> first | rfl | assumption) (by (try dsimp only); (repeat (first | rw [up_s] | rw [up_n (by omega)])) <;> first | rfl | assumption) (fun j hj => by omega)
      · (try simp (disch := omega) only [i32_lti, i32_lei, i32_eqi, nI_toInt, i32z] at c_51)
        have ed := hD0 (by omega)
        refine ev_bipush (pc := 54) (v := nI 6) dX12_takes_54 kb_6 ?_
        refine ev_goto (pc := 56) 63 dX12_takes_56 (by decide) ?_
        refine pf_X12_146 (pc := 63) rfl dX12_takes_63 (by (try dsimp only); (repeat (first | rw [up_s] | rw [up_n (by omega)])) <;> first | rfl | assumption) ?_
        refine ev_iconst (pc := 66) (v := nI 0) dX12_takes_66 kc_0 ?_
        refine ev_istore_n (pc := 67) (L' := [_, _]) dX12_takes_67 (Nat.le_of_ble_eq_true rfl) rfl ?_
        exact loopT (bT B) 0 (by omega) _ f5 f6 (by intro q a b; (try dsimp only); (repeat (first | rw [up_n (by omega)]))) (by unfold pMO; rw [ek, em, ed, hT]; exact (by (try dsimp only); (repeat (first | rw [up_s] | rw [up_n (by omega)])) <;> first | rfl | assumption)) (by (try dsimp only); (repeat (first | rw [up_s] | rw [up_n (by omega)])) <;> first | rfl | assumption) (by (try dsimp only); (repeat (first | rw [up_s] | rw [up_n (by omega)])) <;> first | rfl | assumption) (fun j hj => by omega)
    · (try simp (disch := omega) only [i32_lti, i32_lei, i32_eqi, nI_toInt, i32z] at c_32)
      have em := hM0 (by omega)
      refine ev_iconst (pc := 35) (v := nI 3) dX12_takes_35 kc_3 ?_
      refine ev_goto (pc := 36) 43 dX12_takes_36 (by decide) ?_
      refine pf_X12_143 (pc := 43) rfl dX12_takes_43 (by (try dsimp only); (repeat (first | rw [up_s] | rw [up_n (by omega)])) <;> first | rfl | assumption) ?_
      refine ev_aload_n (pc := 46) dX12_takes_46 rfl ?_
      refine ev_aload_n (pc := 47) dX12_takes_47 rfl ?_
      refine gf_X12_128 (pc := 48) rfl dX12_takes_48 (by (try dsimp only); (repeat (first | rw [up_s] | rw [up_n (by omega)])) <;> first | rfl | assumption) ?_
      refine ev_if_ne (pc := 51) 59 dX12_takes_51 (by decide) (fun c_51 => ?_) (fun c_51 => ?_)
      · (try simp (disch := omega) only [i32_lti, i32_lei, i32_eqi, nI_toInt, i32z] at c_51)
        have ed := hD1 (by omega)
        refine ev_aload_n (pc := 59) dX12_takes_59 rfl ?_
        refine gf_X12_128 (pc := 60) rfl dX12_takes_60 (by (try dsimp only); (repeat (first | rw [up_s] | rw [up_n (by omega)])) <;> first | rfl | assumption) ?_
        refine pf_X12_146 (pc := 63) rfl dX12_takes_63 (by (try dsimp only); (repeat (first | rw [up_s] | rw [up_n (by omega)])) <;> first | rfl | assumption) ?_
        refine ev_iconst (pc := 66) (v := nI 0) dX12_takes_66 kc_0 ?_
        refine ev_istore_n (pc := 67) (L' := [_, _]) dX12_takes_67 (Nat.le_of_ble_eq_true rfl) rfl ?_
        exact loopT (bT B) 0 (by omega) _ f5 f6 (by intro q a b; (try dsimp only); (repeat (first | rw [up_n (by omega)]))) (by unfold pMO; rw [ek, em, ed, hT]; exact (by (try dsimp only); (repeat (first | rw [up_s] | rw [up_n (by omega)])) <;> first | rfl | assumption)) (by (try dsimp only); (repeat (first | rw [up_s] | rw [up_n (by omega)])) <;> first | rfl | assumption) (by (try dsimp only); (repeat (first | rw [up_s] | rw [up_n (by omega)])) <;> first | rfl | assumption) (fun j hj => by omega)
      · (try simp (disch := omega) only [i32_lti, i32_lei, i32_eqi, nI_toInt, i32z] at c_51)
        have ed := hD0 (by omega)
        refine ev_bipush (pc := 54) (v := nI 6) dX12_takes_54 kb_6 ?_
        refine ev_goto (pc := 56) 63 dX12_takes_56 (by decide) ?_
        refine pf_X12_146 (pc := 63) rfl dX12_takes_63 (by (try dsimp only); (repeat (first | rw [up_s] | rw [up_n (by omega)])) <;> first | rfl | assumption) ?_
        refine ev_iconst (pc := 66) (v := nI 0) dX12_takes_66 kc_0 ?_
        refine ev_istore_n (pc := 67) (L' := [_, _]) dX12_takes_67 (Nat.le_of_ble_eq_true rfl) rfl ?_
        exact loopT (bT B) 0 (by omega) _ f5 f6 (by intro q a b; (try dsimp only); (repeat (first | rw [up_n (by omega)]))) (by unfold pMO; rw [ek, em, ed, hT]; exact (by (try dsimp only); (repeat (first | rw [up_s] | rw [up_n (by omega)])) <;> first | rfl | assumption)) (by (try dsimp only); (repeat (first | rw [up_s] | rw [up_n (by omega)])) <;> first | rfl | assumption) (by (try dsimp only); (repeat (first | rw [up_s] | rw [up_n (by omega)])) <;> first | rfl | assumption) (fun j hj => by omega)
  · (try simp (disch := omega) only [i32_lti, i32_lei, i32_eqi, nI_toInt, i32z] at c_13)
    have ek := hK0 (by omega)
    refine ev_iconst (pc := 16) (v := nI 1) dX12_takes_16 kc_1 ?_
    refine ev_goto (pc := 17) 24 dX12_takes_17 (by decide) ?_
    refine pf_X12_140 (pc := 24) rfl dX12_takes_24 (by (try dsimp only); (repeat (first | rw [up_s] | rw [up_n (by omega)])) <;> first | rfl | assumption) ?_
    refine ev_aload_n (pc := 27) dX12_takes_27 rfl ?_
    refine ev_aload_n (pc := 28) dX12_takes_28 rfl ?_
    refine gf_X12_125 (pc := 29) rfl dX12_takes_29 (by (try dsimp only); (repeat (first | rw [up_s] | rw [up_n (by omega)])) <;> first | rfl | assumption) ?_
    refine ev_if_ne (pc := 32) 39 dX12_takes_32 (by decide) (fun c_32 => ?_) (fun c_32 => ?_)
    · (try simp (disch := omega) only [i32_lti, i32_lei, i32_eqi, nI_toInt, i32z] at c_32)
      have em := hM1 (by omega)
      refine ev_aload_n (pc := 39) dX12_takes_39 rfl ?_
      refine gf_X12_125 (pc := 40) rfl dX12_takes_40 (by (try dsimp only); (repeat (first | rw [up_s] | rw [up_n (by omega)])) <;> first | rfl | assumption) ?_
      refine pf_X12_143 (pc := 43) rfl dX12_takes_43 (by (try dsimp only); (repeat (first | rw [up_s] | rw [up_n (by omega)])) <;> first | rfl | assumption) ?_
      refine ev_aload_n (pc := 46) dX12_takes_46 rfl ?_
      refine ev_aload_n (pc := 47) dX12_takes_47 rfl ?_
      refine gf_X12_128 (pc := 48) rfl dX12_takes_48 (by (try dsimp only); (repeat (first | rw [up_s] | rw [up_n (by omega)])) <;> first | rfl | assumption) ?_
      refine ev_if_ne (pc := 51) 59 dX12_takes_51 (by decide) (fun c_51 => ?_) (fun c_51 => ?_)
      · (try simp (disch := omega) only [i32_lti, i32_lei, i32_eqi, nI_toInt, i32z] at c_51)
        have ed := hD1 (by omega)
        refine ev_aload_n (pc := 59) dX12_takes_59 rfl ?_
        refine gf_X12_128 (pc := 60) rfl dX12_takes_60 (by (try dsimp only); (repeat (first | rw [up_s] | rw [up_n (by omega)])) <;> first | rfl | assumption) ?_
        refine pf_X12_146 (pc := 63) rfl dX12_takes_63 (by (try dsimp only); (repeat (first | rw [up_s] | rw [up_n (by omega)])) <;> first | rfl | assumption) ?_
        refine ev_iconst (pc := 66) (v := nI 0) dX12_takes_66 kc_0 ?_
        refine ev_istore_n (pc := 67) (L' := [_, _]) dX12_takes_67 (Nat.le_of_ble_eq_true rfl) rfl ?_
        exact loopT (bT B) 0 (by omega) _ f5 f6 (by intro q a b; (try dsimp only); (repeat (first | rw [up_n (by omega)]))) (by unfold pMO; rw [ek, em, ed, hT]; exact (by (try dsimp only); (repeat (first | rw [up_s] | rw [up_n (by omega)])) <;> first | rfl | assumption)) (by (try dsimp only); (repeat (first | rw [up_s] | rw [up_n (by omega)])) <;> first | rfl | assumption) (by (try dsimp only); (repeat (first | rw [up_s] | rw [up_n (by omega)])) <;> first | rfl | assumption) (fun j hj => by omega)
      · (try simp (disch := omega) only [i32_lti, i32_lei, i32_eqi, nI_toInt, i32z] at c_51)
        have ed := hD0 (by omega)
        refine ev_bipush (pc := 54) (v := nI 6) dX12_takes_54 kb_6 ?_
        refine ev_goto (pc := 56) 63 dX12_takes_56 (by decide) ?_
        refine pf_X12_146 (pc := 63) rfl dX12_takes_63 (by (try dsimp only); (repeat (first | rw [up_s] | rw [up_n (by omega)])) <;> first | rfl | assumption) ?_
        refine ev_iconst (pc := 66) (v := nI 0) dX12_takes_66 kc_0 ?_
        refine ev_istore_n (pc := 67) (L' := [_, _]) dX12_takes_67 (Nat.le_of_ble_eq_true rfl) rfl ?_
        exact loopT (bT B) 0 (by omega) _ f5 f6 (by intro q a b; (try dsimp only); (repeat (first | rw [up_n (by omega)]))) (by unfold pMO; rw [ek, em, ed, hT]; exact (by (try dsimp only); (repeat (first | rw [up_s] | rw [up_n (by omega)])) <;> first | rfl | assumption)) (by (try dsimp only); (repeat (first | rw [up_s] | rw [up_n (by omega)])) <;> first | rfl | assumption) (by (try dsimp only); (repeat (first | rw [up_s] | rw [up_n (by omega)])) <;> first | rfl | assumption) (fun j hj => by omega)
    · (try simp (disch := omega) only [i32_lti, i32_lei, i32_eqi, nI_toInt, i32z] at c_32)
      have em := hM0 (by omega)
      refine ev_iconst (pc := 35) (v := nI 3) dX12_takes_35 kc_3 ?_
      refine ev_goto (pc := 36) 43 dX12_takes_36 (by decide) ?_
      refine pf_X12_143 (pc := 43) rfl dX12_takes_43 (by (try dsimp only); (repeat (first | rw [up_s] | rw [up_n (by omega)])) <;> first | rfl | assumption) ?_
      refine ev_aload_n (pc := 46) dX12_takes_46 rfl ?_
      refine ev_aload_n (pc := 47) dX12_takes_47 rfl ?_
      refine gf_X12_128 (pc := 48) rfl dX12_takes_48 (by (try dsimp only); (repeat (first | rw [up_s] | rw [up_n (by omega)])) <;> first | rfl | assumption) ?_
      refine ev_if_ne (pc := 51) 59 dX12_takes_51 (by decide) (fun c_51 => ?_) (fun c_51 => ?_)
      · (try simp (disch := omega) only [i32_lti, i32_lei, i32_eqi, nI_toInt, i32z] at c_51)
        have ed := hD1 (by omega)
        refine ev_aload_n (pc := 59) dX12_takes_59 rfl ?_
        refine gf_X12_128 (pc := 60) rfl dX12_takes_60 (by (try dsimp only); (repeat (first | rw [up_s] | rw [up_n (by omega)])) <;> first | rfl | assumption) ?_
        refine pf_X12_146 (pc := 63) rfl dX12_takes_63 (by (try dsimp only); (repeat (first | rw [up_s] | rw [up_n (by omega)])) <;> first | rfl | assumption) ?_
        refine ev_iconst (pc := 66) (v := nI 0) dX12_takes_66 kc_0 ?_
        refine ev_istore_n (pc := 67) (L' := [_, _]) dX12_takes_67 (Nat.le_of_ble_eq_true rfl) rfl ?_
        exact loopT (bT B) 0 (by omega) _ f5 f6 (by intro q a b; (try dsimp only); (repeat (first | rw [up_n (by omega)]))) (by unfold pMO; rw [ek, em, ed, hT]; exact (by (try dsimp only); (repeat (first | rw [up_s] | rw [up_n (by omega)])) <;> first | rfl | assumption)) (by (try dsimp only); (repeat (first | rw [up_s] | rw [up_n (by omega)])) <;> first | rfl | assumption) (by (try dsimp only); (repeat (first | rw [up_s] | rw [up_n (by omega)])) <;> first | rfl | assumption) (fun j hj => by omega)
      · (try simp (disch := omega) only [i32_lti, i32_lei, i32_eqi, nI_toInt, i32z] at c_51)
        have ed := hD0 (by omega)
        refine ev_bipush (pc := 54) (v := nI 6) dX12_takes_54 kb_6 ?_
        refine ev_goto (pc := 56) 63 dX12_takes_56 (by decide) ?_
        refine pf_X12_146 (pc := 63) rfl dX12_takes_63 (by (try dsimp only); (repeat (first | rw [up_s] | rw [up_n (by omega)])) <;> first | rfl | assumption) ?_
        refine ev_iconst (pc := 66) (v := nI 0) dX12_takes_66 kc_0 ?_
        refine ev_istore_n (pc := 67) (L' := [_, _]) dX12_takes_67 (Nat.le_of_ble_eq_true rfl) rfl ?_
        exact loopT (bT B) 0 (by omega) _ f5 f6 (by intro q a b; (try dsimp only); (repeat (first | rw [up_n (by omega)]))) (by unfold pMO; rw [ek, em, ed, hT]; exact (by (try dsimp only); (repeat (first | rw [up_s] | rw [up_n (by omega)])) <;> first | rfl | assumption)) (by (try dsimp only); (repeat (first | rw [up_s] | rw [up_n (by omega)])) <;> first | rfl | assumption) (by (try dsimp only); (repeat (first | rw [up_s] | rw [up_n (by omega)])) <;> first | rfl | assumption) (fun j hj => by omega)
end MTAKE
