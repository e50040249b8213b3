/-! ===== the model: tokens ===== -/
def mTk (t : Tk) : Nat := if t.1 = 1 then (if t.2.1 = 116 ∨ t.2.1 = 110 ∨ t.2.1 = 109 ∨ t.2.1 = 100 then 1 else 4) else t.1
def mAb (h : Hp) (m : Nat) (A : Ab) : Prop := ∃ f g k : Nat → Int32, h (m + 2) = some (.inr (0, .inl (ar 6 f))) ∧ h (m + 3) = some (.inr (0, .inl (ar 6 g))) ∧ h (m + 4) = some (.inr (0, .inl (ar 8 k))) ∧ (∀ t : Nat, t < (aP A).length → f t = nI (gN (aP A) t)) ∧ (∀ t : Nat, t < (aW A).length → g t = nI (gN (aW A) t)) ∧ ∀ t : Nat, t < (aH A).length → k t = nI (gN (aH A) t)
theorem mAb.fr {h h' : Hp} {m : Nat} {A : Ab} (p : mAb h m A) (e : ∀ q : Nat, m + 2 ≤ q → q < m + 5 → h' q = h q) : mAb h' m A := by
  obtain ⟨f, g, k, p1, p2, p3, p4⟩ := p
  exact ⟨f, g, k, (e _ (by omega) (by omega)).trans p1, (e _ (by omega) (by omega)).trans p2, (e _ (by omega) (by omega)).trans p3, p4⟩
theorem rend_gt {p : Nat → Bool} {cs : List Nat} {b : Nat} (hb : b < cs.length) (h : p (gN cs b) = true) : b + 1 ≤ rend p cs b := by
  have h1 := rend_ge p cs b
  rcases Nat.lt_or_ge b (rend p cs b) with q | q
  · omega
  · have e : rend p cs b = b := by omega
    have h2 := rend_out (p := p) (cs := cs) (b := b) (by omega)
    rw [e, h] at h2
    cases h2
/-- the number as the model reads it -/
def mNu (ds : List Nat) : Nat := ds.foldl (fun n d => if 99 < n then n else 10 * n + d - 48) 0
theorem mNu_s (l : List Nat) (d : Nat) : mNu (l ++ [d]) = if 99 < mNu l then mNu l else 10 * mNu l + d - 48 := by unfold mNu; rw [List.foldl_append]; rfl
theorem mNu_V (l : List Nat) : (∀ d ∈ l, 48 ≤ d ∧ d ≤ 57) → mNu l < 1100 ∧ (mNu l ≤ 99 → numV l = mNu l) ∧ (99 < mNu l → numV l = 100) := by
  rcases List.eq_nil_or_concat l with h | ⟨l', d, h⟩
  · intro _; subst h; exact ⟨by decide, fun _ => rfl, fun q => absurd q (by decide)⟩
  · intro hd
    rw [List.concat_eq_append] at h
    have ih := mNu_V l' (fun x hx => hd x (by rw [h]; exact List.mem_append_left _ hx))
    have hdd := hd d (by rw [h]; simp)
    rw [h, mNu_s, numV_s]
    obtain ⟨i1, i2, i3⟩ := ih
    by_cases hq : 99 < mNu l'
    · rw [if_pos hq, i3 hq]
      exact ⟨i1, fun q => by omega, fun q => by omega⟩
    · rw [if_neg hq, i2 (by omega)]
      exact ⟨by omega, fun q => by omega, fun q => by omega⟩
termination_by l.length
decreasing_by rw [h]; simp
section MTOK
variable {X : Cx} {h : Hp} {z b i : Nat} {cs : List Nat} {m : Nat} {sz at_ bg tk td rt rn rm rd tl nt me de lo sa un mn bd br he : Int32} {tr : Int64}
theorem c_mReadLetters (po : pMO h m (nI cs.length) (nI b) (nI b) tk td rt rn rm rd tl nt me de lo sa un mn bd br he tr) (px : mTx h m cs) (hb : b < cs.length) : Ct X 2 mt_X12_readLetters [.ref m] (h, z) 0 0 (Qv (fun S' => S'.2 = z ∧ (∀ q : Nat, q ≠ m → S'.1 q = h q) ∧ pMO S'.1 m (nI cs.length) (nI (rend isL cs b)) (nI b) (nI (if rend isL cs b = b + 1 ∧ (gN cs b = 116 ∨ gN cs b = 110 ∨ gN cs b = 109 ∨ gN cs b = 100) then 1 else 4)) (nI (gN cs b)) rt rn rm rd tl nt me de lo sa un mn bd br he tr)) := by
  unfold pMO at po
  obtain ⟨f, x1, x2, x3, x4⟩ := px
  have hr := rend_le (p := isL) (cs := cs) (b := b) (by omega)
  have hge := rend_ge isL cs b
  have hb256 := x4 b hb
  refine mk_X12_readLetters (Nat.le_of_ble_eq_true rfl) (L := [.ref m]) rfl ?_
  have loop : ∀ (n e : Nat), e + n = rend isL cs b → b ≤ e → ∀ h1 : Hp, (∀ q : Nat, q ≠ m → h1 q = h q) → pMO h1 m (nI cs.length) (nI e) (nI b) tk (nI (gN cs b)) rt rn rm rd tl nt me de lo sa un mn bd br he tr → Ev X (mi_X12_readLetters 2 0 0) (Qv (fun S' => S'.2 = z ∧ (∀ q : Nat, q ≠ m → S'.1 q = h q) ∧ pMO S'.1 m (nI cs.length) (nI (rend isL cs b)) (nI b) (nI (if rend isL cs b = b + 1 ∧ (gN cs b = 116 ∨ gN cs b = 110 ∨ gN cs b = 109 ∨ gN cs b = 100) then 1 else 4)) (nI (gN cs b)) rt rn rm rd tl nt me de lo sa un mn bd br he tr)) 0 0 (h1, z) 13 [.ref m] [] := by
    intro n
    induction n with
    | zero =>
      intro e hee hbe h1 f1 o1
      have ee : e = rend isL cs b := by omega
      subst ee
      unfold pMO at o1
      have y1 := (f1 (m + 1) (by omega)).trans x1
      have fin : Ev X (mi_X12_readLetters 2 0 0) (Qv (fun S' => S'.2 = z ∧ (∀ q : Nat, q ≠ m → S'.1 q = h q) ∧ pMO S'.1 m (nI cs.length) (nI (rend isL cs b)) (nI b) (nI (if rend isL cs b = b + 1 ∧ (gN cs b = 116 ∨ gN cs b = 110 ∨ gN cs b = 109 ∨ gN cs b = 100) then 1 else 4)) (nI (gN cs b)) rt rn rm rd tl nt me de lo sa un mn bd br he tr)) 0 0 (h1, z) 52 [.ref m] [] := by
        refine ev_aload_n (pc := 52) dX12_readLetters_52 rfl ?_
        refine ev_aload_n (pc := 53) dX12_readLetters_53 rfl ?_
        refine gf_X12_79 (pc := 54) rfl dX12_readLetters_54 (by (try dsimp only); (repeat (first | rw [up_s] | rw [up_n (by omega)])) <;> first | rfl | assumption) ?_
        refine ev_aload_n (pc := 57) dX12_readLetters_57 rfl ?_
        refine gf_X12_89 (pc := 58) rfl dX12_readLetters_58 (by (try dsimp only); (repeat (first | rw [up_s] | rw [up_n (by omega)])) <;> first | rfl | assumption) ?_
        refine ev_isub (pc := 61) dX12_readLetters_61 ?_
        rw [nI_sub hge]
        refine ev_iconst (pc := 62) (v := nI 1) dX12_readLetters_62 kc_1 ?_
        refine ev_icmp_ne (pc := 63) 106 dX12_readLetters_63 (by decide) (fun c_63 => ?_) (fun c_63 => ?_)
        · (try simp (disch := omega) only [i32_lti, i32_lei, i32_eqi, nI_toInt, i32z] at c_63)
          refine ev_iconst (pc := 106) (v := nI 4) dX12_readLetters_106 kc_4 ?_
          refine pf_X12_92 (pc := 107) rfl dX12_readLetters_107 (by (try dsimp only); (repeat (first | rw [up_s] | rw [up_n (by omega)])) <;> first | rfl | assumption) ?_
          refine ev_ret (pc := 110) dX12_readLetters_110 rfl (Nat.le_of_ble_eq_true rfl) (Nat.le_of_ble_eq_true rfl) ?_
          first
          | (rw [if_pos ⟨by omega, by omega⟩]; exact ⟨rfl, rfl, (by intro q hq; (try dsimp only); rw [up_n (by omega)]; exact f1 q hq), (by unfold pMO; exact (by (try dsimp only); (repeat (first | rw [up_s] | rw [up_n (by omega)])) <;> first | rfl | assumption))⟩)
          | (rw [if_neg (by omega)]; exact ⟨rfl, rfl, (by intro q hq; (try dsimp only); rw [up_n (by omega)]; exact f1 q hq), (by unfold pMO; exact (by (try dsimp only); (repeat (first | rw [up_s] | rw [up_n (by omega)])) <;> first | rfl | assumption))⟩)
        · (try simp (disch := omega) only [i32_lti, i32_lei, i32_eqi, nI_toInt, i32z] at c_63)
          refine ev_aload_n (pc := 66) dX12_readLetters_66 rfl ?_
          refine gf_X12_82 (pc := 67) rfl dX12_readLetters_67 (by (try dsimp only); (repeat (first | rw [up_s] | rw [up_n (by omega)])) <;> first | rfl | assumption) ?_
          refine ev_bipush (pc := 70) (v := nI 116) dX12_readLetters_70 kb_116 ?_
          refine ev_icmp_eq (pc := 72) 102 dX12_readLetters_72 (by decide) (fun c_72 => ?_) (fun c_72 => ?_)
          · (try simp (disch := omega) only [i32_lti, i32_lei, i32_eqi, nI_toInt, i32z] at c_72)
            refine ev_iconst (pc := 102) (v := nI 1) dX12_readLetters_102 kc_1 ?_
            refine ev_goto (pc := 103) 107 dX12_readLetters_103 (by decide) ?_
            refine pf_X12_92 (pc := 107) rfl dX12_readLetters_107 (by (try dsimp only); (repeat (first | rw [up_s] | rw [up_n (by omega)])) <;> first | rfl | assumption) ?_
            refine ev_ret (pc := 110) dX12_readLetters_110 rfl (Nat.le_of_ble_eq_true rfl) (Nat.le_of_ble_eq_true rfl) ?_
            first
            | (rw [if_pos ⟨by omega, by omega⟩]; exact ⟨rfl, rfl, (by intro q hq; (try dsimp only); rw [up_n (by omega)]; exact f1 q hq), (by unfold pMO; exact (by (try dsimp only); (repeat (first | rw [up_s] | rw [up_n (by omega)])) <;> first | rfl | assumption))⟩)
            | (rw [if_neg (by omega)]; exact ⟨rfl, rfl, (by intro q hq; (try dsimp only); rw [up_n (by omega)]; exact f1 q hq), (by unfold pMO; exact (by (try dsimp only); (repeat (first | rw [up_s] | rw [up_n (by omega)])) <;> first | rfl | assumption))⟩)
          · (try simp (disch := omega) only [i32_lti, i32_lei, i32_eqi, nI_toInt, i32z] at c_72)
            refine ev_aload_n (pc := 75) dX12_readLetters_75 rfl ?_
            refine gf_X12_82 (pc := 76) rfl dX12_readLetters_76 (by (try dsimp only); (repeat (first | rw [up_s] | rw [up_n (by omega)])) <;> first | rfl | assumption) ?_
            refine ev_bipush (pc := 79) (v := nI 110) dX12_readLetters_79 kb_110 ?_
            refine ev_icmp_eq (pc := 81) 102 dX12_readLetters_81 (by decide) (fun c_81 => ?_) (fun c_81 => ?_)
            · (try simp (disch := omega) only [i32_lti, i32_lei, i32_eqi, nI_toInt, i32z] at c_81)
              refine ev_iconst (pc := 102) (v := nI 1) dX12_readLetters_102 kc_1 ?_
              refine ev_goto (pc := 103) 107 dX12_readLetters_103 (by decide) ?_
              refine pf_X12_92 (pc := 107) rfl dX12_readLetters_107 (by (try dsimp only); (repeat (first | rw [up_s] | rw [up_n (by omega)])) <;> first | rfl | assumption) ?_
              refine ev_ret (pc := 110) dX12_readLetters_110 rfl (Nat.le_of_ble_eq_true rfl) (Nat.le_of_ble_eq_true rfl) ?_
              first
              | (rw [if_pos ⟨by omega, by omega⟩]; exact ⟨rfl, rfl, (by intro q hq; (try dsimp only); rw [up_n (by omega)]; exact f1 q hq), (by unfold pMO; exact (by (try dsimp only); (repeat (first | rw [up_s] | rw [up_n (by omega)])) <;> first | rfl | assumption))⟩)
              | (rw [if_neg (by omega)]; exact ⟨rfl, rfl, (by intro q hq; (try dsimp only); rw [up_n (by omega)]; exact f1 q hq), (by unfold pMO; exact (by (try dsimp only); (repeat (first | rw [up_s] | rw [up_n (by omega)])) <;> first | rfl | assumption))⟩)
            · (try simp (disch := omega) only [i32_lti, i32_lei, i32_eqi, nI_toInt, i32z] at c_81)
              refine ev_aload_n (pc := 84) dX12_readLetters_84 rfl ?_
              refine gf_X12_82 (pc := 85) rfl dX12_readLetters_85 (by (try dsimp only); (repeat (first | rw [up_s] | rw [up_n (by omega)])) <;> first | rfl | assumption) ?_
              refine ev_bipush (pc := 88) (v := nI 109) dX12_readLetters_88 kb_109 ?_
              refine ev_icmp_eq (pc := 90) 102 dX12_readLetters_90 (by decide) (fun c_90 => ?_) (fun c_90 => ?_)
              · (try simp (disch := omega) only [i32_lti, i32_lei, i32_eqi, nI_toInt, i32z] at c_90)
                refine ev_iconst (pc := 102) (v := nI 1) dX12_readLetters_102 kc_1 ?_
                refine ev_goto (pc := 103) 107 dX12_readLetters_103 (by decide) ?_
                refine pf_X12_92 (pc := 107) rfl dX12_readLetters_107 (by (try dsimp only); (repeat (first | rw [up_s] | rw [up_n (by omega)])) <;> first | rfl | assumption) ?_
                refine ev_ret (pc := 110) dX12_readLetters_110 rfl (Nat.le_of_ble_eq_true rfl) (Nat.le_of_ble_eq_true rfl) ?_
                first
                | (rw [if_pos ⟨by omega, by omega⟩]; exact ⟨rfl, rfl, (by intro q hq; (try dsimp only); rw [up_n (by omega)]; exact f1 q hq), (by unfold pMO; exact (by (try dsimp only); (repeat (first | rw [up_s] | rw [up_n (by omega)])) <;> first | rfl | assumption))⟩)
                | (rw [if_neg (by omega)]; exact ⟨rfl, rfl, (by intro q hq; (try dsimp only); rw [up_n (by omega)]; exact f1 q hq), (by unfold pMO; exact (by (try dsimp only); (repeat (first | rw [up_s] | rw [up_n (by omega)])) <;> first | rfl | assumption))⟩)
              · (try simp (disch := omega) only [i32_lti, i32_lei, i32_eqi, nI_toInt, i32z] at c_90)
                refine ev_aload_n (pc := 93) dX12_readLetters_93 rfl ?_
                refine gf_X12_82 (pc := 94) rfl dX12_readLetters_94 (by (try dsimp only); (repeat (first | rw [up_s] | rw [up_n (by omega)])) <;> first | rfl | assumption) ?_
                refine ev_bipush (pc := 97) (v := nI 100) dX12_readLetters_97 kb_100 ?_
                refine ev_icmp_ne (pc := 99) 106 dX12_readLetters_99 (by decide) (fun c_99 => ?_) (fun c_99 => ?_)
                · (try simp (disch := omega) only [i32_lti, i32_lei, i32_eqi, nI_toInt, i32z] at c_99)
                  refine ev_iconst (pc := 106) (v := nI 4) dX12_readLetters_106 kc_4 ?_
                  refine pf_X12_92 (pc := 107) rfl dX12_readLetters_107 (by (try dsimp only); (repeat (first | rw [up_s] | rw [up_n (by omega)])) <;> first | rfl | assumption) ?_
                  refine ev_ret (pc := 110) dX12_readLetters_110 rfl (Nat.le_of_ble_eq_true rfl) (Nat.le_of_ble_eq_true rfl) ?_
                  first
                  | (rw [if_pos ⟨by omega, by omega⟩]; exact ⟨rfl, rfl, (by intro q hq; (try dsimp only); rw [up_n (by omega)]; exact f1 q hq), (by unfold pMO; exact (by (try dsimp only); (repeat (first | rw [up_s] | rw [up_n (by omega)])) <;> first | rfl | assumption))⟩)
                  | (rw [if_neg (by omega)]; exact ⟨rfl, rfl, (by intro q hq; (try dsimp only); rw [up_n (by omega)]; exact f1 q hq), (by unfold pMO; exact (by (try dsimp only); (repeat (first | rw [up_s] | rw [up_n (by omega)])) <;> first | rfl | assumption))⟩)
                · (try simp (disch := omega) only [i32_lti, i32_lei, i32_eqi, nI_toInt, i32z] at c_99)
                  refine ev_iconst (pc := 102) (v := nI 1) dX12_readLetters_102 kc_1 ?_
                  refine ev_goto (pc := 103) 107 dX12_readLetters_103 (by decide) ?_
                  refine pf_X12_92 (pc := 107) rfl dX12_readLetters_107 (by (try dsimp only); (repeat (first | rw [up_s] | rw [up_n (by omega)])) <;> first | rfl | assumption) ?_
                  refine ev_ret (pc := 110) dX12_readLetters_110 rfl (Nat.le_of_ble_eq_true rfl) (Nat.le_of_ble_eq_true rfl) ?_
                  first
                  | (rw [if_pos ⟨by omega, by omega⟩]; exact ⟨rfl, rfl, (by intro q hq; (try dsimp only); rw [up_n (by omega)]; exact f1 q hq), (by unfold pMO; exact (by (try dsimp only); (repeat (first | rw [up_s] | rw [up_n (by omega)])) <;> first | rfl | assumption))⟩)
                  | (rw [if_neg (by omega)]; exact ⟨rfl, rfl, (by intro q hq; (try dsimp only); rw [up_n (by omega)]; exact f1 q hq), (by unfold pMO; exact (by (try dsimp only); (repeat (first | rw [up_s] | rw [up_n (by omega)])) <;> first | rfl | assumption))⟩)
      refine ev_aload_n (pc := 13) dX12_readLetters_13 rfl ?_
      refine gf_X12_79 (pc := 14) rfl dX12_readLetters_14 (by (try dsimp only); (repeat (first | rw [up_s] | rw [up_n (by omega)])) <;> first | rfl | assumption) ?_
      refine ev_aload_n (pc := 17) dX12_readLetters_17 rfl ?_
      refine gf_X12_67 (pc := 18) rfl dX12_readLetters_18 (by (try dsimp only); (repeat (first | rw [up_s] | rw [up_n (by omega)])) <;> first | rfl | assumption) ?_
      refine ev_icmp_ge (pc := 21) 52 dX12_readLetters_21 (by decide) (fun c_21 => ?_) (fun c_21 => ?_)
      · (try simp (disch := omega) only [i32_lti, i32_lei, i32_eqi, nI_toInt, i32z] at c_21)
        exact fin
      · (try simp (disch := omega) only [i32_lti, i32_lei, i32_eqi, nI_toInt, i32z] at c_21)
        refine ev_aload_n (pc := 24) dX12_readLetters_24 rfl ?_
        refine gf_X12_7 (pc := 25) rfl dX12_readLetters_25 (by (try dsimp only); (repeat (first | rw [up_s] | rw [up_n (by omega)])) <;> first | rfl | assumption) ?_
        refine ev_aload_n (pc := 28) dX12_readLetters_28 rfl ?_
        refine gf_X12_79 (pc := 29) rfl dX12_readLetters_29 (by (try dsimp only); (repeat (first | rw [up_s] | rw [up_n (by omega)])) <;> first | rfl | assumption) ?_
        refine ev_iald (pc := 32) dX12_readLetters_32 (by (try dsimp only); (repeat (first | rw [up_s] | rw [up_n (by omega)])) <;> first | rfl | assumption) (nI_toInt (by omega)) (xg (by omega) (x2 _ (by omega))) ?_
        refine iv_X12_85 (pc := 33) rfl dX12_readLetters_33 (Nat.le_of_ble_eq_true rfl) (Nat.le_of_ble_eq_true rfl) (Nat.le_of_ble_eq_true rfl) (Nat.le_of_ble_eq_true rfl) (c_isLetter2 (by have := x4 (rend isL cs b) (by omega); omega)) (kp ?_)
        refine ev_if_eq (pc := 36) 52 dX12_readLetters_36 (by decide) (fun c_36 => ?_) (fun c_36 => ?_)
        · simp only [b2i_e0, Bool.not_eq_false] at c_36
          exact fin
        · exfalso; rw [rend_out (p := isL) (cs := cs) (b := b) (by omega)] at c_36; exact c_36 rfl
    | succ n ih =>
      intro e hee hbe h1 f1 o1
      unfold pMO at o1
      have hin := rend_in (p := isL) (cs := cs) (b := b) (j := e) hbe (by omega)
      have y1 := (f1 (m + 1) (by omega)).trans x1
      have h256 := x4 e hin.1
      refine ev_aload_n (pc := 13) dX12_readLetters_13 rfl ?_
      refine gf_X12_79 (pc := 14) rfl dX12_readLetters_14 (by (try dsimp only); (repeat (first | rw [up_s] | rw [up_n (by omega)])) <;> first | rfl | assumption) ?_
      refine ev_aload_n (pc := 17) dX12_readLetters_17 rfl ?_
      refine gf_X12_67 (pc := 18) rfl dX12_readLetters_18 (by (try dsimp only); (repeat (first | rw [up_s] | rw [up_n (by omega)])) <;> first | rfl | assumption) ?_
      refine ev_icmp_ge (pc := 21) 52 dX12_readLetters_21 (by decide) (fun c_21 => ?_) (fun c_21 => ?_)
      · exfalso; (try simp (disch := omega) only [i32_lti, i32_lei, i32_eqi, nI_toInt, i32z] at c_21); omega
      · (try simp (disch := omega) only [i32_lti, i32_lei, i32_eqi, nI_toInt, i32z] at c_21)
        refine ev_aload_n (pc := 24) dX12_readLetters_24 rfl ?_
        refine gf_X12_7 (pc := 25) rfl dX12_readLetters_25 (by (try dsimp only); (repeat (first | rw [up_s] | rw [up_n (by omega)])) <;> first | rfl | assumption) ?_
        refine ev_aload_n (pc := 28) dX12_readLetters_28 rfl ?_
        refine gf_X12_79 (pc := 29) rfl dX12_readLetters_29 (by (try dsimp only); (repeat (first | rw [up_s] | rw [up_n (by omega)])) <;> first | rfl | assumption) ?_
        refine ev_iald (pc := 32) dX12_readLetters_32 (by (try dsimp only); (repeat (first | rw [up_s] | rw [up_n (by omega)])) <;> first | rfl | assumption) (nI_toInt (by omega)) (xg (by omega) (x2 _ hin.1)) ?_
        refine iv_X12_85 (pc := 33) rfl dX12_readLetters_33 (Nat.le_of_ble_eq_true rfl) (Nat.le_of_ble_eq_true rfl) (Nat.le_of_ble_eq_true rfl) (Nat.le_of_ble_eq_true rfl) (c_isLetter2 (by omega)) (kp ?_)
        refine ev_if_eq (pc := 36) 52 dX12_readLetters_36 (by decide) (fun c_36 => ?_) (fun c_36 => ?_)
        · exfalso; rw [hin.2] at c_36; cases c_36
        · simp only [b2i_e0, Bool.not_eq_false] at c_36
          refine ev_aload_n (pc := 39) dX12_readLetters_39 rfl ?_
          refine ev_dup (pc := 40) dX12_readLetters_40 rfl ?_
          refine gf_X12_79 (pc := 41) rfl dX12_readLetters_41 (by (try dsimp only); (repeat (first | rw [up_s] | rw [up_n (by omega)])) <;> first | rfl | assumption) ?_
          refine ev_iconst (pc := 44) (v := nI 1) dX12_readLetters_44 kc_1 ?_
          refine ev_iadd (pc := 45) dX12_readLetters_45 ?_
          (try rw [nI_add])
          refine pf_X12_79 (pc := 46) rfl dX12_readLetters_46 (by (try dsimp only); (repeat (first | rw [up_s] | rw [up_n (by omega)])) <;> first | rfl | assumption) ?_
          refine ev_goto (pc := 49) 13 dX12_readLetters_49 (by decide) ?_
          exact ih (e + 1) (by omega) (by omega) _ (by intro q hq; (try dsimp only); rw [up_n (by omega)]; exact f1 q hq) (by unfold pMO; exact (by (try dsimp only); (repeat (first | rw [up_s] | rw [up_n (by omega)])) <;> first | rfl | assumption))
  refine ev_aload_n (pc := 0) dX12_readLetters_0 rfl ?_
  refine ev_aload_n (pc := 1) dX12_readLetters_1 rfl ?_
  refine gf_X12_7 (pc := 2) rfl dX12_readLetters_2 (by (try dsimp only); (repeat (first | rw [up_s] | rw [up_n (by omega)])) <;> first | rfl | assumption) ?_
  refine ev_aload_n (pc := 5) dX12_readLetters_5 rfl ?_
  refine gf_X12_79 (pc := 6) rfl dX12_readLetters_6 (by (try dsimp only); (repeat (first | rw [up_s] | rw [up_n (by omega)])) <;> first | rfl | assumption) ?_
  refine ev_iald (pc := 9) dX12_readLetters_9 (by (try dsimp only); (repeat (first | rw [up_s] | rw [up_n (by omega)])) <;> first | rfl | assumption) (nI_toInt (by omega)) (xg (by omega) (x2 _ hb)) ?_
  refine pf_X12_82 (pc := 10) rfl dX12_readLetters_10 (by (try dsimp only); (repeat (first | rw [up_s] | rw [up_n (by omega)])) <;> first | rfl | assumption) ?_
  exact loop (rend isL cs b - b) b (by omega) (by omega) _ (by intro q hq; (try dsimp only); rw [up_n (by omega)]) (by unfold pMO; exact (by (try dsimp only); (repeat (first | rw [up_s] | rw [up_n (by omega)])) <;> first | rfl | assumption))
theorem c_mReadNumber (po : pMO h m (nI cs.length) (nI b) (nI b) tk td rt rn rm rd tl nt me de lo sa un mn bd br he tr) (px : mTx h m cs) (hb : b < cs.length) : Ct X 2 mt_X12_readNumber [.ref m] (h, z) 0 0 (Qv (fun S' => S'.2 = z ∧ (∀ q : Nat, q ≠ m → S'.1 q = h q) ∧ pMO S'.1 m (nI cs.length) (nI (rend isD cs b)) (nI b) (nI (if 99 < numV (sub cs b (rend isD cs b)) ∨ (gN cs b = 48 ∧ b + 1 < rend isD cs b) then 4 else 2)) (nI (mNu (sub cs b (rend isD cs b)))) rt rn rm rd tl nt me de lo sa un mn bd br he tr)) := by
  unfold pMO at po
  obtain ⟨f, x1, x2, x3, x4⟩ := px
  have hr := rend_le (p := isD) (cs := cs) (b := b) (by omega)
  have hge := rend_ge isD cs b
  have hb256 := x4 b hb
  have hdig : ∀ e : Nat, e ≤ rend isD cs b → ∀ d ∈ sub cs b e, 48 ≤ d ∧ d ≤ 57 := by
    intro e hee d hd
    obtain ⟨j, hj1, hj2⟩ := List.getElem_of_mem hd
    have hlen : (sub cs b e).length ≤ e - b := by unfold sub; rw [List.length_take]; omega
    have hin := rend_in (p := isD) (cs := cs) (b := b) (j := b + j) (by omega) (by omega)
    have e1 : d = gN cs (b + j) := by
      rw [← hj2, ← gN_eq hj1]
      unfold sub
      simp only [gN, List.getD_eq_getElem?_getD, List.getElem?_take, List.getElem?_drop]
      rw [if_pos (by omega)]
    rw [e1]
    have := hin.2
    simpa [isD] using this
  refine mk_X12_readNumber (Nat.le_of_ble_eq_true rfl) (L := [.ref m, .retAddr 0]) rfl ?_
  have loop : ∀ (n e : Nat), e + n = rend isD cs b → b ≤ e → ∀ h1 : Hp, (∀ q : Nat, q ≠ m → h1 q = h q) → pMO h1 m (nI cs.length) (nI e) (nI b) tk td rt rn rm rd tl nt me de lo sa un mn bd br he tr → Ev X (mi_X12_readNumber 2 0 0) (Qv (fun S' => S'.2 = z ∧ (∀ q : Nat, q ≠ m → S'.1 q = h q) ∧ pMO S'.1 m (nI cs.length) (nI (rend isD cs b)) (nI b) (nI (if 99 < numV (sub cs b (rend isD cs b)) ∨ (gN cs b = 48 ∧ b + 1 < rend isD cs b) then 4 else 2)) (nI (mNu (sub cs b (rend isD cs b)))) rt rn rm rd tl nt me de lo sa un mn bd br he tr)) 0 0 (h1, z) 2 [.ref m, .int (nI (mNu (sub cs b e)))] [] := by
    intro n
    induction n with
    | zero =>
      intro e hee hbe h1 f1 o1
      have ee : e = rend isD cs b := by omega
      subst ee
      unfold pMO at o1
      have y1 := (f1 (m + 1) (by omega)).trans x1
      obtain ⟨v1, v2, v3⟩ := mNu_V _ (hdig (rend isD cs b) (by omega))
      have fin : Ev X (mi_X12_readNumber 2 0 0) (Qv (fun S' => S'.2 = z ∧ (∀ q : Nat, q ≠ m → S'.1 q = h q) ∧ pMO S'.1 m (nI cs.length) (nI (rend isD cs b)) (nI b) (nI (if 99 < numV (sub cs b (rend isD cs b)) ∨ (gN cs b = 48 ∧ b + 1 < rend isD cs b) then 4 else 2)) (nI (mNu (sub cs b (rend isD cs b)))) rt rn rm rd tl nt me de lo sa un mn bd br he tr)) 0 0 (h1, z) 69 [.ref m, .int (nI (mNu (sub cs b (rend isD cs b))))] [] := by
        refine ev_aload_n (pc := 69) dX12_readNumber_69 rfl ?_
        refine ev_iload_n (pc := 70) dX12_readNumber_70 rfl ?_
        refine ev_bipush (pc := 71) (v := nI 99) dX12_readNumber_71 kb_99 ?_
        refine ev_icmp_gt (pc := 73) 103 dX12_readNumber_73 (by decide) (fun c_73 => ?_) (fun c_73 => ?_)
        · (try simp (disch := omega) only [i32_lti, i32_lei, i32_eqi, nI_toInt, i32z] at c_73)
          refine ev_iconst (pc := 103) (v := nI 4) dX12_readNumber_103 kc_4 ?_
          refine ev_goto (pc := 104) 108 dX12_readNumber_104 (by decide) ?_
          refine pf_X12_92 (pc := 108) rfl dX12_readNumber_108 (by (try dsimp only); (repeat (first | rw [up_s] | rw [up_n (by omega)])) <;> first | rfl | assumption) ?_
          refine ev_aload_n (pc := 111) dX12_readNumber_111 rfl ?_
          refine ev_iload_n (pc := 112) dX12_readNumber_112 rfl ?_
          refine pf_X12_82 (pc := 113) rfl dX12_readNumber_113 (by (try dsimp only); (repeat (first | rw [up_s] | rw [up_n (by omega)])) <;> first | rfl | assumption) ?_
          refine ev_ret (pc := 116) dX12_readNumber_116 rfl (Nat.le_of_ble_eq_true rfl) (Nat.le_of_ble_eq_true rfl) ?_
          first
          | (rw [if_pos (by omega)]; exact ⟨rfl, rfl, (by intro q hq; (try dsimp only); rw [up_n (by omega), up_n (by omega)]; exact f1 q hq), (by unfold pMO; exact (by (try dsimp only); (repeat (first | rw [up_s] | rw [up_n (by omega)])) <;> first | rfl | assumption))⟩)
          | (rw [if_neg (by omega)]; exact ⟨rfl, rfl, (by intro q hq; (try dsimp only); rw [up_n (by omega), up_n (by omega)]; exact f1 q hq), (by unfold pMO; exact (by (try dsimp only); (repeat (first | rw [up_s] | rw [up_n (by omega)])) <;> first | rfl | assumption))⟩)
        · (try simp (disch := omega) only [i32_lti, i32_lei, i32_eqi, nI_toInt, i32z] at c_73)
          refine ev_aload_n (pc := 76) dX12_readNumber_76 rfl ?_
          refine gf_X12_79 (pc := 77) rfl dX12_readNumber_77 (by (try dsimp only); (repeat (first | rw [up_s] | rw [up_n (by omega)])) <;> first | rfl | assumption) ?_
          refine ev_aload_n (pc := 80) dX12_readNumber_80 rfl ?_
          refine gf_X12_89 (pc := 81) rfl dX12_readNumber_81 (by (try dsimp only); (repeat (first | rw [up_s] | rw [up_n (by omega)])) <;> first | rfl | assumption) ?_
          refine ev_isub (pc := 84) dX12_readNumber_84 ?_
          rw [nI_sub hge]
          refine ev_iconst (pc := 85) (v := nI 1) dX12_readNumber_85 kc_1 ?_
          refine ev_icmp_le (pc := 86) 107 dX12_readNumber_86 (by decide) (fun c_86 => ?_) (fun c_86 => ?_)
          · (try simp (disch := omega) only [i32_lti, i32_lei, i32_eqi, nI_toInt, i32z] at c_86)
            refine ev_iconst (pc := 107) (v := nI 2) dX12_readNumber_107 kc_2 ?_
            refine pf_X12_92 (pc := 108) rfl dX12_readNumber_108 (by (try dsimp only); (repeat (first | rw [up_s] | rw [up_n (by omega)])) <;> first | rfl | assumption) ?_
            refine ev_aload_n (pc := 111) dX12_readNumber_111 rfl ?_
            refine ev_iload_n (pc := 112) dX12_readNumber_112 rfl ?_
            refine pf_X12_82 (pc := 113) rfl dX12_readNumber_113 (by (try dsimp only); (repeat (first | rw [up_s] | rw [up_n (by omega)])) <;> first | rfl | assumption) ?_
            refine ev_ret (pc := 116) dX12_readNumber_116 rfl (Nat.le_of_ble_eq_true rfl) (Nat.le_of_ble_eq_true rfl) ?_
            first
            | (rw [if_pos (by omega)]; exact ⟨rfl, rfl, (by intro q hq; (try dsimp only); rw [up_n (by omega), up_n (by omega)]; exact f1 q hq), (by unfold pMO; exact (by (try dsimp only); (repeat (first | rw [up_s] | rw [up_n (by omega)])) <;> first | rfl | assumption))⟩)
            | (rw [if_neg (by omega)]; exact ⟨rfl, rfl, (by intro q hq; (try dsimp only); rw [up_n (by omega), up_n (by omega)]; exact f1 q hq), (by unfold pMO; exact (by (try dsimp only); (repeat (first | rw [up_s] | rw [up_n (by omega)])) <;> first | rfl | assumption))⟩)
          · (try simp (disch := omega) only [i32_lti, i32_lei, i32_eqi, nI_toInt, i32z] at c_86)
            refine ev_aload_n (pc := 89) dX12_readNumber_89 rfl ?_
            refine gf_X12_7 (pc := 90) rfl dX12_readNumber_90 (by (try dsimp only); (repeat (first | rw [up_s] | rw [up_n (by omega)])) <;> first | rfl | assumption) ?_
            refine ev_aload_n (pc := 93) dX12_readNumber_93 rfl ?_
            refine gf_X12_89 (pc := 94) rfl dX12_readNumber_94 (by (try dsimp only); (repeat (first | rw [up_s] | rw [up_n (by omega)])) <;> first | rfl | assumption) ?_
            refine ev_iald (pc := 97) dX12_readNumber_97 (by (try dsimp only); (repeat (first | rw [up_s] | rw [up_n (by omega)])) <;> first | rfl | assumption) (nI_toInt (by omega)) (xg (by omega) (x2 _ hb)) ?_
            refine ev_bipush (pc := 98) (v := nI 48) dX12_readNumber_98 kb_48 ?_
            refine ev_icmp_ne (pc := 100) 107 dX12_readNumber_100 (by decide) (fun c_100 => ?_) (fun c_100 => ?_)
            · (try simp (disch := omega) only [i32_lti, i32_lei, i32_eqi, nI_toInt, i32z] at c_100)
              refine ev_iconst (pc := 107) (v := nI 2) dX12_readNumber_107 kc_2 ?_
              refine pf_X12_92 (pc := 108) rfl dX12_readNumber_108 (by (try dsimp only); (repeat (first | rw [up_s] | rw [up_n (by omega)])) <;> first | rfl | assumption) ?_
              refine ev_aload_n (pc := 111) dX12_readNumber_111 rfl ?_
              refine ev_iload_n (pc := 112) dX12_readNumber_112 rfl ?_
              refine pf_X12_82 (pc := 113) rfl dX12_readNumber_113 (by (try dsimp only); (repeat (first | rw [up_s] | rw [up_n (by omega)])) <;> first | rfl | assumption) ?_
              refine ev_ret (pc := 116) dX12_readNumber_116 rfl (Nat.le_of_ble_eq_true rfl) (Nat.le_of_ble_eq_true rfl) ?_
              first
              | (rw [if_pos (by omega)]; exact ⟨rfl, rfl, (by intro q hq; (try dsimp only); rw [up_n (by omega), up_n (by omega)]; exact f1 q hq), (by unfold pMO; exact (by (try dsimp only); (repeat (first | rw [up_s] | rw [up_n (by omega)])) <;> first | rfl | assumption))⟩)
              | (rw [if_neg (by omega)]; exact ⟨rfl, rfl, (by intro q hq; (try dsimp only); rw [up_n (by omega), up_n (by omega)]; exact f1 q hq), (by unfold pMO; exact (by (try dsimp only); (repeat (first | rw [up_s] | rw [up_n (by omega)])) <;> first | rfl | assumption))⟩)
            · (try simp (disch := omega) only [i32_lti, i32_lei, i32_eqi, nI_toInt, i32z] at c_100)
              refine ev_iconst (pc := 103) (v := nI 4) dX12_readNumber_103 kc_4 ?_
              refine ev_goto (pc := 104) 108 dX12_readNumber_104 (by decide) ?_
              refine pf_X12_92 (pc := 108) rfl dX12_readNumber_108 (by (try dsimp only); (repeat (first | rw [up_s] | rw [up_n (by omega)])) <;> first | rfl | assumption) ?_
              refine ev_aload_n (pc := 111) dX12_readNumber_111 rfl ?_
              refine ev_iload_n (pc := 112) dX12_readNumber_112 rfl ?_
              refine pf_X12_82 (pc := 113) rfl dX12_readNumber_113 (by (try dsimp only); (repeat (first | rw [up_s] | rw [up_n (by omega)])) <;> first | rfl | assumption) ?_
              refine ev_ret (pc := 116) dX12_readNumber_116 rfl (Nat.le_of_ble_eq_true rfl) (Nat.le_of_ble_eq_true rfl) ?_
              first
              | (rw [if_pos (by omega)]; exact ⟨rfl, rfl, (by intro q hq; (try dsimp only); rw [up_n (by omega), up_n (by omega)]; exact f1 q hq), (by unfold pMO; exact (by (try dsimp only); (repeat (first | rw [up_s] | rw [up_n (by omega)])) <;> first | rfl | assumption))⟩)
              | (rw [if_neg (by omega)]; exact ⟨rfl, rfl, (by intro q hq; (try dsimp only); rw [up_n (by omega), up_n (by omega)]; exact f1 q hq), (by unfold pMO; exact (by (try dsimp only); (repeat (first | rw [up_s] | rw [up_n (by omega)])) <;> first | rfl | assumption))⟩)
      refine ev_aload_n (pc := 2) dX12_readNumber_2 rfl ?_
      refine gf_X12_79 (pc := 3) rfl dX12_readNumber_3 (by (try dsimp only); (repeat (first | rw [up_s] | rw [up_n (by omega)])) <;> first | rfl | assumption) ?_
      refine ev_aload_n (pc := 6) dX12_readNumber_6 rfl ?_
      refine gf_X12_67 (pc := 7) rfl dX12_readNumber_7 (by (try dsimp only); (repeat (first | rw [up_s] | rw [up_n (by omega)])) <;> first | rfl | assumption) ?_
      refine ev_icmp_ge (pc := 10) 69 dX12_readNumber_10 (by decide) (fun c_10 => ?_) (fun c_10 => ?_)
      · (try simp (disch := omega) only [i32_lti, i32_lei, i32_eqi, nI_toInt, i32z] at c_10)
        exact fin
      · (try simp (disch := omega) only [i32_lti, i32_lei, i32_eqi, nI_toInt, i32z] at c_10)
        refine ev_aload_n (pc := 13) dX12_readNumber_13 rfl ?_
        refine gf_X12_7 (pc := 14) rfl dX12_readNumber_14 (by (try dsimp only); (repeat (first | rw [up_s] | rw [up_n (by omega)])) <;> first | rfl | assumption) ?_
        refine ev_aload_n (pc := 17) dX12_readNumber_17 rfl ?_
        refine gf_X12_79 (pc := 18) rfl dX12_readNumber_18 (by (try dsimp only); (repeat (first | rw [up_s] | rw [up_n (by omega)])) <;> first | rfl | assumption) ?_
        refine ev_iald (pc := 21) dX12_readNumber_21 (by (try dsimp only); (repeat (first | rw [up_s] | rw [up_n (by omega)])) <;> first | rfl | assumption) (nI_toInt (by omega)) (xg (by omega) (x2 _ (by omega))) ?_
        refine iv_X12_95 (pc := 22) rfl dX12_readNumber_22 (Nat.le_of_ble_eq_true rfl) (Nat.le_of_ble_eq_true rfl) (Nat.le_of_ble_eq_true rfl) (Nat.le_of_ble_eq_true rfl) (c_isFigure2 (by have := x4 (rend isD cs b) (by omega); omega)) (kp ?_)
        refine ev_if_eq (pc := 25) 69 dX12_readNumber_25 (by decide) (fun c_25 => ?_) (fun c_25 => ?_)
        · simp only [b2i_e0, Bool.not_eq_false] at c_25
          exact fin
        · exfalso; rw [rend_out (p := isD) (cs := cs) (b := b) (by omega)] at c_25; exact c_25 rfl
    | succ n ih =>
      intro e hee hbe h1 f1 o1
      unfold pMO at o1
      have hin := rend_in (p := isD) (cs := cs) (b := b) (j := e) hbe (by omega)
      have y1 := (f1 (m + 1) (by omega)).trans x1
      have h256 := x4 e hin.1
      have hd : 48 ≤ gN cs e ∧ gN cs e ≤ 57 := by have := hin.2; simpa [isD] using this
      obtain ⟨v1, -⟩ := mNu_V _ (hdig e (by omega))
      have es := mNu_s (sub cs b e) (gN cs e)
      rw [← sub_s hbe hin.1] at es
      have hih := fun h2 => ih (e + 1) (by omega) (by omega) h2
      rw [es] at hih
      refine ev_aload_n (pc := 2) dX12_readNumber_2 rfl ?_
      refine gf_X12_79 (pc := 3) rfl dX12_readNumber_3 (by (try dsimp only); (repeat (first | rw [up_s] | rw [up_n (by omega)])) <;> first | rfl | assumption) ?_
      refine ev_aload_n (pc := 6) dX12_readNumber_6 rfl ?_
      refine gf_X12_67 (pc := 7) rfl dX12_readNumber_7 (by (try dsimp only); (repeat (first | rw [up_s] | rw [up_n (by omega)])) <;> first | rfl | assumption) ?_
      refine ev_icmp_ge (pc := 10) 69 dX12_readNumber_10 (by decide) (fun c_10 => ?_) (fun c_10 => ?_)
      · exfalso; (try simp (disch := omega) only [i32_lti, i32_lei, i32_eqi, nI_toInt, i32z] at c_10); omega
      · (try simp (disch := omega) only [i32_lti, i32_lei, i32_eqi, nI_toInt, i32z] at c_10)
        refine ev_aload_n (pc := 13) dX12_readNumber_13 rfl ?_
        refine gf_X12_7 (pc := 14) rfl dX12_readNumber_14 (by (try dsimp only); (repeat (first | rw [up_s] | rw [up_n (by omega)])) <;> first | rfl | assumption) ?_
        refine ev_aload_n (pc := 17) dX12_readNumber_17 rfl ?_
        refine gf_X12_79 (pc := 18) rfl dX12_readNumber_18 (by (try dsimp only); (repeat (first | rw [up_s] | rw [up_n (by omega)])) <;> first | rfl | assumption) ?_
        refine ev_iald (pc := 21) dX12_readNumber_21 (by (try dsimp only); (repeat (first | rw [up_s] | rw [up_n (by omega)])) <;> first | rfl | assumption) (nI_toInt (by omega)) (xg (by omega) (x2 _ hin.1)) ?_
        refine iv_X12_95 (pc := 22) rfl dX12_readNumber_22 (Nat.le_of_ble_eq_true rfl) (Nat.le_of_ble_eq_true rfl) (Nat.le_of_ble_eq_true rfl) (Nat.le_of_ble_eq_true rfl) (c_isFigure2 (by omega)) (kp ?_)
        refine ev_if_eq (pc := 25) 69 dX12_readNumber_25 (by decide) (fun c_25 => ?_) (fun c_25 => ?_)
        · exfalso; rw [hin.2] at c_25; cases c_25
        · simp only [b2i_e0, Bool.not_eq_false] at c_25
          refine ev_iload_n (pc := 28) dX12_readNumber_28 rfl ?_
          refine ev_bipush (pc := 29) (v := nI 99) dX12_readNumber_29 kb_99 ?_
          refine ev_icmp_le (pc := 31) 38 dX12_readNumber_31 (by decide) (fun c_31 => ?_) (fun c_31 => ?_)
          · (try simp (disch := omega) only [i32_lti, i32_lei, i32_eqi, nI_toInt, i32z] at c_31)
            rw [if_neg (show ¬ 99 < mNu (sub cs b e) by omega)] at hih
            refine ev_bipush (pc := 38) (v := nI 10) dX12_readNumber_38 kb_10 ?_
            refine ev_iload_n (pc := 40) dX12_readNumber_40 rfl ?_
            refine ev_imul (pc := 41) dX12_readNumber_41 ?_
            rw [pk_mul]
            refine ev_aload_n (pc := 42) dX12_readNumber_42 rfl ?_
            refine gf_X12_7 (pc := 43) rfl dX12_readNumber_43 (by (try dsimp only); (repeat (first | rw [up_s] | rw [up_n (by omega)])) <;> first | rfl | assumption) ?_
            refine ev_aload_n (pc := 46) dX12_readNumber_46 rfl ?_
            refine gf_X12_79 (pc := 47) rfl dX12_readNumber_47 (by (try dsimp only); (repeat (first | rw [up_s] | rw [up_n (by omega)])) <;> first | rfl | assumption) ?_
            refine ev_iald (pc := 50) dX12_readNumber_50 (by (try dsimp only); (repeat (first | rw [up_s] | rw [up_n (by omega)])) <;> first | rfl | assumption) (nI_toInt (by omega)) (xg (by omega) (x2 _ hin.1)) ?_
            refine ev_iadd (pc := 51) dX12_readNumber_51 ?_
            (try rw [nI_add])
            refine ev_bipush (pc := 52) (v := nI 48) dX12_readNumber_52 kb_48 ?_
            refine ev_isub (pc := 54) dX12_readNumber_54 ?_
            rw [nI_sub (by omega)]
            refine ev_istore_n (pc := 55) (L' := [_, _]) dX12_readNumber_55 (Nat.le_of_ble_eq_true rfl) rfl ?_
            refine ev_aload_n (pc := 56) dX12_readNumber_56 rfl ?_
            refine ev_dup (pc := 57) dX12_readNumber_57 rfl ?_
            refine gf_X12_79 (pc := 58) rfl dX12_readNumber_58 (by (try dsimp only); (repeat (first | rw [up_s] | rw [up_n (by omega)])) <;> first | rfl | assumption) ?_
            refine ev_iconst (pc := 61) (v := nI 1) dX12_readNumber_61 kc_1 ?_
            refine ev_iadd (pc := 62) dX12_readNumber_62 ?_
            (try rw [nI_add])
            refine pf_X12_79 (pc := 63) rfl dX12_readNumber_63 (by (try dsimp only); (repeat (first | rw [up_s] | rw [up_n (by omega)])) <;> first | rfl | assumption) ?_
            refine ev_goto (pc := 66) 2 dX12_readNumber_66 (by decide) ?_
            exact hih _ (by intro q hq; (try dsimp only); rw [up_n (by omega)]; exact f1 q hq) (by unfold pMO; exact (by (try dsimp only); (repeat (first | rw [up_s] | rw [up_n (by omega)])) <;> first | rfl | assumption))
          · (try simp (disch := omega) only [i32_lti, i32_lei, i32_eqi, nI_toInt, i32z] at c_31)
            rw [if_pos (show 99 < mNu (sub cs b e) by omega)] at hih
            refine ev_iload_n (pc := 34) dX12_readNumber_34 rfl ?_
            refine ev_goto (pc := 35) 55 dX12_readNumber_35 (by decide) ?_
            refine ev_istore_n (pc := 55) (L' := [_, _]) dX12_readNumber_55 (Nat.le_of_ble_eq_true rfl) rfl ?_
            refine ev_aload_n (pc := 56) dX12_readNumber_56 rfl ?_
            refine ev_dup (pc := 57) dX12_readNumber_57 rfl ?_
            refine gf_X12_79 (pc := 58) rfl dX12_readNumber_58 (by (try dsimp only); (repeat (first | rw [up_s] | rw [up_n (by omega)])) <;> first | rfl | assumption) ?_
            refine ev_iconst (pc := 61) (v := nI 1) dX12_readNumber_61 kc_1 ?_
            refine ev_iadd (pc := 62) dX12_readNumber_62 ?_
            (try rw [nI_add])
            refine pf_X12_79 (pc := 63) rfl dX12_readNumber_63 (by (try dsimp only); (repeat (first | rw [up_s] | rw [up_n (by omega)])) <;> first | rfl | assumption) ?_
            refine ev_goto (pc := 66) 2 dX12_readNumber_66 (by decide) ?_
            exact hih _ (by intro q hq; (try dsimp only); rw [up_n (by omega)]; exact f1 q hq) (by unfold pMO; exact (by (try dsimp only); (repeat (first | rw [up_s] | rw [up_n (by omega)])) <;> first | rfl | assumption))
  refine ev_iconst (pc := 0) (v := nI 0) dX12_readNumber_0 kc_0 ?_
  refine ev_istore_n (pc := 1) (L' := [_, _]) dX12_readNumber_1 (Nat.le_of_ble_eq_true rfl) rfl ?_
  have q := loop (rend isD cs b - b) b (by omega) (by omega) h (fun _ _ => rfl) (by unfold pMO; exact po); rw [show sub cs b b = [] by unfold sub; rw [Nat.sub_self]; rfl] at q; exact q
theorem c_mReads (po : pMO h m (nI cs.length) (nI i) bg tk td rt rn rm rd tl nt me de lo sa un mn bd br he tr) (px : mTx h m cs) (hi : i ≤ cs.length) : Ct X 3 mt_X12_reads [.ref m] (h, z) 0 0 (Qv (fun S' => S'.2 = z ∧ (∀ q : Nat, q ≠ m → S'.1 q = h q) ∧ ∃ at2 td2 : Int32, pMO S'.1 m (nI cs.length) (at2) (nI (nxt cs i).2.2.1) (nI (mTk (nxt cs i))) (td2) rt rn rm rd tl nt me de lo sa un mn bd br he tr ∧ (mTk (nxt cs i) ≠ 4 → at2 = nI (nxt cs i).2.2.2) ∧ (mTk (nxt cs i) = 1 ∨ mTk (nxt cs i) = 2 → td2 = nI (nxt cs i).2.1))) := by
  unfold pMO at po
  obtain ⟨f, x1, x2, x3, x4⟩ := id px
  have hr := rend_le (p := isB) (cs := cs) (b := i) hi
  have hge := rend_ge isB cs i
  refine mk_X12_reads (Nat.le_of_ble_eq_true rfl) (L := [.ref m]) rfl ?_
  have loop : ∀ (n e : Nat), e + n = rend isB cs i → i ≤ e → ∀ h1 : Hp, (∀ q : Nat, q ≠ m → h1 q = h q) → pMO h1 m (nI cs.length) (nI e) bg tk td rt rn rm rd tl nt me de lo sa un mn bd br he tr → Ev X (mi_X12_reads 3 0 0) (Qv (fun S' => S'.2 = z ∧ (∀ q : Nat, q ≠ m → S'.1 q = h q) ∧ ∃ at2 td2 : Int32, pMO S'.1 m (nI cs.length) (at2) (nI (nxt cs i).2.2.1) (nI (mTk (nxt cs i))) (td2) rt rn rm rd tl nt me de lo sa un mn bd br he tr ∧ (mTk (nxt cs i) ≠ 4 → at2 = nI (nxt cs i).2.2.2) ∧ (mTk (nxt cs i) = 1 ∨ mTk (nxt cs i) = 2 → td2 = nI (nxt cs i).2.1))) 0 0 (h1, z) 0 [.ref m] [] := by
    intro n
    induction n with
    | zero =>
      intro e hee hbe h1 f1 o1
      have ee : e = rend isB cs i := by omega
      have y1 := (f1 (m + 1) (by omega)).trans x1
      unfold pMO at o1
      by_cases hq : cs.length ≤ e
      · have en : nxt cs i = (0, 0, e, e) := by unfold nxt; rw [ee] at hq ⊢; rw [if_pos hq]
        rw [en]
        refine ev_aload_n (pc := 0) dX12_reads_0 rfl ?_
        refine gf_X12_79 (pc := 1) rfl dX12_reads_1 (by (try dsimp only); (repeat (first | rw [up_s] | rw [up_n (by omega)])) <;> first | rfl | assumption) ?_
        refine ev_aload_n (pc := 4) dX12_reads_4 rfl ?_
        refine gf_X12_67 (pc := 5) rfl dX12_reads_5 (by (try dsimp only); (repeat (first | rw [up_s] | rw [up_n (by omega)])) <;> first | rfl | assumption) ?_
        refine ev_icmp_ge (pc := 8) 38 dX12_reads_8 (by decide) (fun c_8 => ?_) (fun c_8 => ?_)
        · (try simp (disch := omega) only [i32_lti, i32_lei, i32_eqi, nI_toInt, i32z] at c_8)
          refine ev_aload_n (pc := 38) dX12_reads_38 rfl ?_
          refine ev_aload_n (pc := 39) dX12_reads_39 rfl ?_
          refine gf_X12_79 (pc := 40) rfl dX12_reads_40 (by (try dsimp only); (repeat (first | rw [up_s] | rw [up_n (by omega)])) <;> first | rfl | assumption) ?_
          refine pf_X12_89 (pc := 43) rfl dX12_reads_43 (by (try dsimp only); (repeat (first | rw [up_s] | rw [up_n (by omega)])) <;> first | rfl | assumption) ?_
          refine ev_aload_n (pc := 46) dX12_reads_46 rfl ?_
          refine gf_X12_79 (pc := 47) rfl dX12_reads_47 (by (try dsimp only); (repeat (first | rw [up_s] | rw [up_n (by omega)])) <;> first | rfl | assumption) ?_
          refine ev_aload_n (pc := 50) dX12_reads_50 rfl ?_
          refine gf_X12_67 (pc := 51) rfl dX12_reads_51 (by (try dsimp only); (repeat (first | rw [up_s] | rw [up_n (by omega)])) <;> first | rfl | assumption) ?_
          refine ev_icmp_ne (pc := 54) 65 dX12_reads_54 (by decide) (fun c_54 => ?_) (fun c_54 => ?_)
          · exfalso; (try simp (disch := omega) only [i32_lti, i32_lei, i32_eqi, nI_toInt, i32z] at c_54); omega
          · (try simp (disch := omega) only [i32_lti, i32_lei, i32_eqi, nI_toInt, i32z] at c_54)
            refine ev_aload_n (pc := 57) dX12_reads_57 rfl ?_
            refine ev_iconst (pc := 58) (v := nI 0) dX12_reads_58 kc_0 ?_
            refine pf_X12_92 (pc := 59) rfl dX12_reads_59 (by (try dsimp only); (repeat (first | rw [up_s] | rw [up_n (by omega)])) <;> first | rfl | assumption) ?_
            refine ev_goto (pc := 62) 154 dX12_reads_62 (by decide) ?_
            refine ev_ret (pc := 154) dX12_reads_154 rfl (Nat.le_of_ble_eq_true rfl) (Nat.le_of_ble_eq_true rfl) ?_
            exact ⟨rfl, rfl, (by intro q hq; (try dsimp only); rw [up_n (by omega), up_n (by omega)]; exact f1 q hq), nI e, td, (by unfold pMO; exact (by (try dsimp only); (repeat (first | rw [up_s] | rw [up_n (by omega)])) <;> first | rfl | assumption)), fun _ => rfl, fun q => by rcases q with q | q <;> cases q⟩
        · exfalso; (try simp (disch := omega) only [i32_lti, i32_lei, i32_eqi, nI_toInt, i32z] at c_8); omega
      · have h256 := x4 e (by omega)
        have hnb : gN cs e ≠ 32 := by
          have h9 := rend_out (p := isB) (cs := cs) (b := i) (by omega)
          rw [← ee] at h9
          simpa [isB] using h9
        have px1 : mTx h1 m cs := px.fr (f1 _ (by omega))
        cases hL : isL (gN cs e) with
        | true =>
          have en : nxt cs i = (1, (if rend isL cs e = e + 1 then gN cs e else 0), e, rend isL cs e) := by unfold nxt; rw [← ee]; dsimp only; rw [if_neg hq, if_pos hL]
          have ek : (if rend isL cs e = e + 1 ∧ (gN cs e = 116 ∨ gN cs e = 110 ∨ gN cs e = 109 ∨ gN cs e = 100) then 1 else 4) = mTk (nxt cs i) := by
            rw [en]
            unfold mTk
            dsimp only
            rw [if_pos rfl]
            by_cases hr1 : rend isL cs e = e + 1
            · rw [if_pos hr1]
              by_cases h4 : gN cs e = 116 ∨ gN cs e = 110 ∨ gN cs e = 109 ∨ gN cs e = 100
              · rw [if_pos ⟨hr1, h4⟩, if_pos h4]
              · rw [if_neg (fun q => h4 q.2), if_neg h4]
            · rw [if_neg (fun q => hr1 q.1), if_neg hr1, if_neg (by omega)]
          have ev : mTk (nxt cs i) = 1 ∨ mTk (nxt cs i) = 2 → nI (gN cs e) = nI (nxt cs i).2.1 := by
            rw [← ek, en]
            intro q
            by_cases hr1 : rend isL cs e = e + 1
            · dsimp only; rw [if_pos hr1]
            · rw [if_neg (fun q => hr1 q.1)] at q; rcases q with q | q <;> cases q
          refine ev_aload_n (pc := 0) dX12_reads_0 rfl ?_
          refine gf_X12_79 (pc := 1) rfl dX12_reads_1 (by (try dsimp only); (repeat (first | rw [up_s] | rw [up_n (by omega)])) <;> first | rfl | assumption) ?_
          refine ev_aload_n (pc := 4) dX12_reads_4 rfl ?_
          refine gf_X12_67 (pc := 5) rfl dX12_reads_5 (by (try dsimp only); (repeat (first | rw [up_s] | rw [up_n (by omega)])) <;> first | rfl | assumption) ?_
          refine ev_icmp_ge (pc := 8) 38 dX12_reads_8 (by decide) (fun c_8 => ?_) (fun c_8 => ?_)
          · exfalso; (try simp (disch := omega) only [i32_lti, i32_lei, i32_eqi, nI_toInt, i32z] at c_8); omega
          · (try simp (disch := omega) only [i32_lti, i32_lei, i32_eqi, nI_toInt, i32z] at c_8)
            refine ev_aload_n (pc := 11) dX12_reads_11 rfl ?_
            refine gf_X12_7 (pc := 12) rfl dX12_reads_12 (by (try dsimp only); (repeat (first | rw [up_s] | rw [up_n (by omega)])) <;> first | rfl | assumption) ?_
            refine ev_aload_n (pc := 15) dX12_reads_15 rfl ?_
            refine gf_X12_79 (pc := 16) rfl dX12_reads_16 (by (try dsimp only); (repeat (first | rw [up_s] | rw [up_n (by omega)])) <;> first | rfl | assumption) ?_
            refine ev_iald (pc := 19) dX12_reads_19 (by (try dsimp only); (repeat (first | rw [up_s] | rw [up_n (by omega)])) <;> first | rfl | assumption) (nI_toInt (by omega)) (xg (by omega) (x2 _ (by omega))) ?_
            refine ev_bipush (pc := 20) (v := nI 32) dX12_reads_20 kb_32 ?_
            refine ev_icmp_ne (pc := 22) 38 dX12_reads_22 (by decide) (fun c_22 => ?_) (fun c_22 => ?_)
            · (try simp (disch := omega) only [i32_lti, i32_lei, i32_eqi, nI_toInt, i32z] at c_22)
              refine ev_aload_n (pc := 38) dX12_reads_38 rfl ?_
              refine ev_aload_n (pc := 39) dX12_reads_39 rfl ?_
              refine gf_X12_79 (pc := 40) rfl dX12_reads_40 (by (try dsimp only); (repeat (first | rw [up_s] | rw [up_n (by omega)])) <;> first | rfl | assumption) ?_
              refine pf_X12_89 (pc := 43) rfl dX12_reads_43 (by (try dsimp only); (repeat (first | rw [up_s] | rw [up_n (by omega)])) <;> first | rfl | assumption) ?_
              refine ev_aload_n (pc := 46) dX12_reads_46 rfl ?_
              refine gf_X12_79 (pc := 47) rfl dX12_reads_47 (by (try dsimp only); (repeat (first | rw [up_s] | rw [up_n (by omega)])) <;> first | rfl | assumption) ?_
              refine ev_aload_n (pc := 50) dX12_reads_50 rfl ?_
              refine gf_X12_67 (pc := 51) rfl dX12_reads_51 (by (try dsimp only); (repeat (first | rw [up_s] | rw [up_n (by omega)])) <;> first | rfl | assumption) ?_
              refine ev_icmp_ne (pc := 54) 65 dX12_reads_54 (by decide) (fun c_54 => ?_) (fun c_54 => ?_)
              · (try simp (disch := omega) only [i32_lti, i32_lei, i32_eqi, nI_toInt, i32z] at c_54)
                refine ev_aload_n (pc := 65) dX12_reads_65 rfl ?_
                refine gf_X12_7 (pc := 66) rfl dX12_reads_66 (by (try dsimp only); (repeat (first | rw [up_s] | rw [up_n (by omega)])) <;> first | rfl | assumption) ?_
                refine ev_aload_n (pc := 69) dX12_reads_69 rfl ?_
                refine gf_X12_79 (pc := 70) rfl dX12_reads_70 (by (try dsimp only); (repeat (first | rw [up_s] | rw [up_n (by omega)])) <;> first | rfl | assumption) ?_
                refine ev_iald (pc := 73) dX12_reads_73 (by (try dsimp only); (repeat (first | rw [up_s] | rw [up_n (by omega)])) <;> first | rfl | assumption) (nI_toInt (by omega)) (xg (by omega) (x2 _ (by omega))) ?_
                refine iv_X12_85 (pc := 74) rfl dX12_reads_74 (Nat.le_of_ble_eq_true rfl) (Nat.le_of_ble_eq_true rfl) (Nat.le_of_ble_eq_true rfl) (Nat.le_of_ble_eq_true rfl) (c_isLetter2 (by omega)) (kp ?_)
                rw [hL]
                refine ev_if_eq (pc := 77) 87 dX12_reads_77 (by decide) (fun c_77 => ?_) (fun c_77 => ?_)
                · exact absurd c_77 (by decide)
                · (try simp (disch := omega) only [i32_lti, i32_lei, i32_eqi, nI_toInt, i32z] at c_77)
                  refine ev_aload_n (pc := 80) dX12_reads_80 rfl ?_
                  refine iv_X12_98 (pc := 81) rfl dX12_reads_81 (by (try dsimp only); (repeat (first | rw [up_s] | rw [up_n (by omega)])) <;> first | rfl | assumption) (Nat.le_of_ble_eq_true rfl) (Nat.le_of_ble_eq_true rfl) (Nat.le_of_ble_eq_true rfl) (Nat.le_of_ble_eq_true rfl) (c_mReadLetters (b := e) (by unfold pMO; exact (by (try dsimp only); (repeat (first | rw [up_s] | rw [up_n (by omega)])) <;> first | rfl | assumption)) (px1.fr (by (try dsimp only); rw [up_n (by omega)])) (by omega)) (kv (fun S' hS => ?_))
                  obtain ⟨h2, z'⟩ := S'
                  obtain ⟨rfl, f2, o2⟩ := hS
                  rw [ek] at o2
                  refine ev_goto (pc := 84) 154 dX12_reads_84 (by decide) ?_
                  refine ev_ret (pc := 154) dX12_reads_154 rfl (Nat.le_of_ble_eq_true rfl) (Nat.le_of_ble_eq_true rfl) ?_
                  exact ⟨rfl, rfl, (by intro q hq; refine (f2 q hq).trans ?_; (try dsimp only); rw [up_n (by omega)]; exact f1 q hq), _, _, (by rw [show (nxt cs i).2.2.1 = e by rw [en]]; exact o2), fun _ => by rw [en], ev⟩
              · exfalso; (try simp (disch := omega) only [i32_lti, i32_lei, i32_eqi, nI_toInt, i32z] at c_54); omega
            · exfalso; (try simp (disch := omega) only [i32_lti, i32_lei, i32_eqi, nI_toInt, i32z] at c_22); omega
        | false =>
          cases hD : isD (gN cs e) with
          | true =>
            have en : nxt cs i = ((if 99 < numV (sub cs e (rend isD cs e)) ∨ (gN cs e = 48 ∧ e + 1 < rend isD cs e) then 4 else 2), numV (sub cs e (rend isD cs e)), e, rend isD cs e) := by unfold nxt; rw [← ee]; dsimp only; rw [if_neg hq, if_neg (by rw [hL]; decide), if_pos hD]
            have ek : (if 99 < numV (sub cs e (rend isD cs e)) ∨ (gN cs e = 48 ∧ e + 1 < rend isD cs e) then 4 else 2) = mTk (nxt cs i) := by
              rw [en]
              unfold mTk
              dsimp only
              by_cases hc : 99 < numV (sub cs e (rend isD cs e)) ∨ (gN cs e = 48 ∧ e + 1 < rend isD cs e)
              · rw [if_pos hc, if_neg (by decide)]
              · rw [if_neg hc, if_neg (by decide)]
            have hdg : ∀ d ∈ sub cs e (rend isD cs e), 48 ≤ d ∧ d ≤ 57 := by
              intro d hd
              obtain ⟨j, hj1, hj2⟩ := List.getElem_of_mem hd
              have hlen : (sub cs e (rend isD cs e)).length ≤ rend isD cs e - e := by unfold sub; rw [List.length_take]; omega
              have hin := rend_in (p := isD) (cs := cs) (b := e) (j := e + j) (by omega) (by omega)
              have e1 : d = gN cs (e + j) := by
                rw [← hj2, ← gN_eq hj1]
                unfold sub
                simp only [gN, List.getD_eq_getElem?_getD, List.getElem?_take, List.getElem?_drop]
                rw [if_pos (by omega)]
              rw [e1]
              have := hin.2
              simpa [isD] using this
            obtain ⟨v1, v2, v3⟩ := mNu_V _ hdg
            have ev : mTk (nxt cs i) = 1 ∨ mTk (nxt cs i) = 2 → nI (mNu (sub cs e (rend isD cs e))) = nI (nxt cs i).2.1 := by
              rw [← ek, en]
              intro q
              dsimp only
              by_cases hc : 99 < numV (sub cs e (rend isD cs e)) ∨ (gN cs e = 48 ∧ e + 1 < rend isD cs e)
              · rw [if_pos hc] at q; rcases q with q | q <;> cases q
              · rw [v2 (by omega)]
            refine ev_aload_n (pc := 0) dX12_reads_0 rfl ?_
            refine gf_X12_79 (pc := 1) rfl dX12_reads_1 (by (try dsimp only); (repeat (first | rw [up_s] | rw [up_n (by omega)])) <;> first | rfl | assumption) ?_
            refine ev_aload_n (pc := 4) dX12_reads_4 rfl ?_
            refine gf_X12_67 (pc := 5) rfl dX12_reads_5 (by (try dsimp only); (repeat (first | rw [up_s] | rw [up_n (by omega)])) <;> first | rfl | assumption) ?_
            refine ev_icmp_ge (pc := 8) 38 dX12_reads_8 (by decide) (fun c_8 => ?_) (fun c_8 => ?_)
            · exfalso; (try simp (disch := omega) only [i32_lti, i32_lei, i32_eqi, nI_toInt, i32z] at c_8); omega
            · (try simp (disch := omega) only [i32_lti, i32_lei, i32_eqi, nI_toInt, i32z] at c_8)
              refine ev_aload_n (pc := 11) dX12_reads_11 rfl ?_
              refine gf_X12_7 (pc := 12) rfl dX12_reads_12 (by (try dsimp only); (repeat (first | rw [up_s] | rw [up_n (by omega)])) <;> first | rfl | assumption) ?_
              refine ev_aload_n (pc := 15) dX12_reads_15 rfl ?_
              refine gf_X12_79 (pc := 16) rfl dX12_reads_16 (by (try dsimp only); (repeat (first | rw [up_s] | rw [up_n (by omega)])) <;> first | rfl | assumption) ?_
              refine ev_iald (pc := 19) dX12_reads_19 (by (try dsimp only); (repeat (first | rw [up_s] | rw [up_n (by omega)])) <;> first | rfl | assumption) (nI_toInt (by omega)) (xg (by omega) (x2 _ (by omega))) ?_
              refine ev_bipush (pc := 20) (v := nI 32) dX12_reads_20 kb_32 ?_
              refine ev_icmp_ne (pc := 22) 38 dX12_reads_22 (by decide) (fun c_22 => ?_) (fun c_22 => ?_)
              · (try simp (disch := omega) only [i32_lti, i32_lei, i32_eqi, nI_toInt, i32z] at c_22)
                refine ev_aload_n (pc := 38) dX12_reads_38 rfl ?_
                refine ev_aload_n (pc := 39) dX12_reads_39 rfl ?_
                refine gf_X12_79 (pc := 40) rfl dX12_reads_40 (by (try dsimp only); (repeat (first | rw [up_s] | rw [up_n (by omega)])) <;> first | rfl | assumption) ?_
                refine pf_X12_89 (pc := 43) rfl dX12_reads_43 (by (try dsimp only); (repeat (first | rw [up_s] | rw [up_n (by omega)])) <;> first | rfl | assumption) ?_
                refine ev_aload_n (pc := 46) dX12_reads_46 rfl ?_
                refine gf_X12_79 (pc := 47) rfl dX12_reads_47 (by (try dsimp only); (repeat (first | rw [up_s] | rw [up_n (by omega)])) <;> first | rfl | assumption) ?_
                refine ev_aload_n (pc := 50) dX12_reads_50 rfl ?_
                refine gf_X12_67 (pc := 51) rfl dX12_reads_51 (by (try dsimp only); (repeat (first | rw [up_s] | rw [up_n (by omega)])) <;> first | rfl | assumption) ?_
                refine ev_icmp_ne (pc := 54) 65 dX12_reads_54 (by decide) (fun c_54 => ?_) (fun c_54 => ?_)
                · (try simp (disch := omega) only [i32_lti, i32_lei, i32_eqi, nI_toInt, i32z] at c_54)
                  refine ev_aload_n (pc := 65) dX12_reads_65 rfl ?_
                  refine gf_X12_7 (pc := 66) rfl dX12_reads_66 (by (try dsimp only); (repeat (first | rw [up_s] | rw [up_n (by omega)])) <;> first | rfl | assumption) ?_
                  refine ev_aload_n (pc := 69) dX12_reads_69 rfl ?_
                  refine gf_X12_79 (pc := 70) rfl dX12_reads_70 (by (try dsimp only); (repeat (first | rw [up_s] | rw [up_n (by omega)])) <;> first | rfl | assumption) ?_
                  refine ev_iald (pc := 73) dX12_reads_73 (by (try dsimp only); (repeat (first | rw [up_s] | rw [up_n (by omega)])) <;> first | rfl | assumption) (nI_toInt (by omega)) (xg (by omega) (x2 _ (by omega))) ?_
                  refine iv_X12_85 (pc := 74) rfl dX12_reads_74 (Nat.le_of_ble_eq_true rfl) (Nat.le_of_ble_eq_true rfl) (Nat.le_of_ble_eq_true rfl) (Nat.le_of_ble_eq_true rfl) (c_isLetter2 (by omega)) (kp ?_)
                  rw [hL]
                  refine ev_if_eq (pc := 77) 87 dX12_reads_77 (by decide) (fun c_77 => ?_) (fun c_77 => ?_)
                  · (try simp (disch := omega) only [i32_lti, i32_lei, i32_eqi, nI_toInt, i32z] at c_77)
                    refine ev_aload_n (pc := 87) dX12_reads_87 rfl ?_
                    refine gf_X12_7 (pc := 88) rfl dX12_reads_88 (by (try dsimp only); (repeat (first | rw [up_s] | rw [up_n (by omega)])) <;> first | rfl | assumption) ?_
                    refine ev_aload_n (pc := 91) dX12_reads_91 rfl ?_
                    refine gf_X12_79 (pc := 92) rfl dX12_reads_92 (by (try dsimp only); (repeat (first | rw [up_s] | rw [up_n (by omega)])) <;> first | rfl | assumption) ?_
                    refine ev_iald (pc := 95) dX12_reads_95 (by (try dsimp only); (repeat (first | rw [up_s] | rw [up_n (by omega)])) <;> first | rfl | assumption) (nI_toInt (by omega)) (xg (by omega) (x2 _ (by omega))) ?_
                    refine iv_X12_95 (pc := 96) rfl dX12_reads_96 (Nat.le_of_ble_eq_true rfl) (Nat.le_of_ble_eq_true rfl) (Nat.le_of_ble_eq_true rfl) (Nat.le_of_ble_eq_true rfl) (c_isFigure2 (by omega)) (kp ?_)
                    rw [hD]
                    refine ev_if_eq (pc := 99) 109 dX12_reads_99 (by decide) (fun c_99 => ?_) (fun c_99 => ?_)
                    · exact absurd c_99 (by decide)
                    · (try simp (disch := omega) only [i32_lti, i32_lei, i32_eqi, nI_toInt, i32z] at c_99)
                      refine ev_aload_n (pc := 102) dX12_reads_102 rfl ?_
                      refine iv_X12_101 (pc := 103) rfl dX12_reads_103 (by (try dsimp only); (repeat (first | rw [up_s] | rw [up_n (by omega)])) <;> first | rfl | assumption) (Nat.le_of_ble_eq_true rfl) (Nat.le_of_ble_eq_true rfl) (Nat.le_of_ble_eq_true rfl) (Nat.le_of_ble_eq_true rfl) (c_mReadNumber (b := e) (by unfold pMO; exact (by (try dsimp only); (repeat (first | rw [up_s] | rw [up_n (by omega)])) <;> first | rfl | assumption)) (px1.fr (by (try dsimp only); rw [up_n (by omega)])) (by omega)) (kv (fun S' hS => ?_))
                      obtain ⟨h2, z'⟩ := S'
                      obtain ⟨rfl, f2, o2⟩ := hS
                      rw [ek] at o2
                      refine ev_goto (pc := 106) 154 dX12_reads_106 (by decide) ?_
                      refine ev_ret (pc := 154) dX12_reads_154 rfl (Nat.le_of_ble_eq_true rfl) (Nat.le_of_ble_eq_true rfl) ?_
                      exact ⟨rfl, rfl, (by intro q hq; refine (f2 q hq).trans ?_; (try dsimp only); rw [up_n (by omega)]; exact f1 q hq), _, _, (by rw [show (nxt cs i).2.2.1 = e by rw [en]]; exact o2), fun _ => by rw [en], ev⟩
                  · exact absurd rfl c_77
                · exfalso; (try simp (disch := omega) only [i32_lti, i32_lei, i32_eqi, nI_toInt, i32z] at c_54); omega
              · exfalso; (try simp (disch := omega) only [i32_lti, i32_lei, i32_eqi, nI_toInt, i32z] at c_22); omega
          | false =>
            have en : nxt cs i = if gN cs e = 59 then (3, 0, e, e + 1) else (4, 0, e, e + 1) := by unfold nxt; rw [← ee]; dsimp only; rw [if_neg hq, if_neg (by rw [hL]; decide), if_neg (by rw [hD]; decide)]
            by_cases h59 : gN cs e = 59
            · rw [if_pos h59] at en
              rw [en]
              refine ev_aload_n (pc := 0) dX12_reads_0 rfl ?_
              refine gf_X12_79 (pc := 1) rfl dX12_reads_1 (by (try dsimp only); (repeat (first | rw [up_s] | rw [up_n (by omega)])) <;> first | rfl | assumption) ?_
              refine ev_aload_n (pc := 4) dX12_reads_4 rfl ?_
              refine gf_X12_67 (pc := 5) rfl dX12_reads_5 (by (try dsimp only); (repeat (first | rw [up_s] | rw [up_n (by omega)])) <;> first | rfl | assumption) ?_
              refine ev_icmp_ge (pc := 8) 38 dX12_reads_8 (by decide) (fun c_8 => ?_) (fun c_8 => ?_)
              · exfalso; (try simp (disch := omega) only [i32_lti, i32_lei, i32_eqi, nI_toInt, i32z] at c_8); omega
              · (try simp (disch := omega) only [i32_lti, i32_lei, i32_eqi, nI_toInt, i32z] at c_8)
                refine ev_aload_n (pc := 11) dX12_reads_11 rfl ?_
                refine gf_X12_7 (pc := 12) rfl dX12_reads_12 (by (try dsimp only); (repeat (first | rw [up_s] | rw [up_n (by omega)])) <;> first | rfl | assumption) ?_
                refine ev_aload_n (pc := 15) dX12_reads_15 rfl ?_
                refine gf_X12_79 (pc := 16) rfl dX12_reads_16 (by (try dsimp only); (repeat (first | rw [up_s] | rw [up_n (by omega)])) <;> first | rfl | assumption) ?_
                refine ev_iald (pc := 19) dX12_reads_19 (by (try dsimp only); (repeat (first | rw [up_s] | rw [up_n (by omega)])) <;> first | rfl | assumption) (nI_toInt (by omega)) (xg (by omega) (x2 _ (by omega))) ?_
                refine ev_bipush (pc := 20) (v := nI 32) dX12_reads_20 kb_32 ?_
                refine ev_icmp_ne (pc := 22) 38 dX12_reads_22 (by decide) (fun c_22 => ?_) (fun c_22 => ?_)
                · (try simp (disch := omega) only [i32_lti, i32_lei, i32_eqi, nI_toInt, i32z] at c_22)
                  refine ev_aload_n (pc := 38) dX12_reads_38 rfl ?_
                  refine ev_aload_n (pc := 39) dX12_reads_39 rfl ?_
                  refine gf_X12_79 (pc := 40) rfl dX12_reads_40 (by (try dsimp only); (repeat (first | rw [up_s] | rw [up_n (by omega)])) <;> first | rfl | assumption) ?_
                  refine pf_X12_89 (pc := 43) rfl dX12_reads_43 (by (try dsimp only); (repeat (first | rw [up_s] | rw [up_n (by omega)])) <;> first | rfl | assumption) ?_
                  refine ev_aload_n (pc := 46) dX12_reads_46 rfl ?_
                  refine gf_X12_79 (pc := 47) rfl dX12_reads_47 (by (try dsimp only); (repeat (first | rw [up_s] | rw [up_n (by omega)])) <;> first | rfl | assumption) ?_
                  refine ev_aload_n (pc := 50) dX12_reads_50 rfl ?_
                  refine gf_X12_67 (pc := 51) rfl dX12_reads_51 (by (try dsimp only); (repeat (first | rw [up_s] | rw [up_n (by omega)])) <;> first | rfl | assumption) ?_
                  refine ev_icmp_ne (pc := 54) 65 dX12_reads_54 (by decide) (fun c_54 => ?_) (fun c_54 => ?_)
                  · (try simp (disch := omega) only [i32_lti, i32_lei, i32_eqi, nI_toInt, i32z] at c_54)
                    refine ev_aload_n (pc := 65) dX12_reads_65 rfl ?_
                    refine gf_X12_7 (pc := 66) rfl dX12_reads_66 (by (try dsimp only); (repeat (first | rw [up_s] | rw [up_n (by omega)])) <;> first | rfl | assumption) ?_
                    refine ev_aload_n (pc := 69) dX12_reads_69 rfl ?_
                    refine gf_X12_79 (pc := 70) rfl dX12_reads_70 (by (try dsimp only); (repeat (first | rw [up_s] | rw [up_n (by omega)])) <;> first | rfl | assumption) ?_
                    refine ev_iald (pc := 73) dX12_reads_73 (by (try dsimp only); (repeat (first | rw [up_s] | rw [up_n (by omega)])) <;> first | rfl | assumption) (nI_toInt (by omega)) (xg (by omega) (x2 _ (by omega))) ?_
                    refine iv_X12_85 (pc := 74) rfl dX12_reads_74 (Nat.le_of_ble_eq_true rfl) (Nat.le_of_ble_eq_true rfl) (Nat.le_of_ble_eq_true rfl) (Nat.le_of_ble_eq_true rfl) (c_isLetter2 (by omega)) (kp ?_)
                    rw [hL]
                    refine ev_if_eq (pc := 77) 87 dX12_reads_77 (by decide) (fun c_77 => ?_) (fun c_77 => ?_)
                    · (try simp (disch := omega) only [i32_lti, i32_lei, i32_eqi, nI_toInt, i32z] at c_77)
                      refine ev_aload_n (pc := 87) dX12_reads_87 rfl ?_
                      refine gf_X12_7 (pc := 88) rfl dX12_reads_88 (by (try dsimp only); (repeat (first | rw [up_s] | rw [up_n (by omega)])) <;> first | rfl | assumption) ?_
                      refine ev_aload_n (pc := 91) dX12_reads_91 rfl ?_
                      refine gf_X12_79 (pc := 92) rfl dX12_reads_92 (by (try dsimp only); (repeat (first | rw [up_s] | rw [up_n (by omega)])) <;> first | rfl | assumption) ?_
                      refine ev_iald (pc := 95) dX12_reads_95 (by (try dsimp only); (repeat (first | rw [up_s] | rw [up_n (by omega)])) <;> first | rfl | assumption) (nI_toInt (by omega)) (xg (by omega) (x2 _ (by omega))) ?_
                      refine iv_X12_95 (pc := 96) rfl dX12_reads_96 (Nat.le_of_ble_eq_true rfl) (Nat.le_of_ble_eq_true rfl) (Nat.le_of_ble_eq_true rfl) (Nat.le_of_ble_eq_true rfl) (c_isFigure2 (by omega)) (kp ?_)
                      rw [hD]
                      refine ev_if_eq (pc := 99) 109 dX12_reads_99 (by decide) (fun c_99 => ?_) (fun c_99 => ?_)
                      · (try simp (disch := omega) only [i32_lti, i32_lei, i32_eqi, nI_toInt, i32z] at c_99)
                        refine ev_aload_n (pc := 109) dX12_reads_109 rfl ?_
                        refine ev_aload_n (pc := 110) dX12_reads_110 rfl ?_
                        refine gf_X12_7 (pc := 111) rfl dX12_reads_111 (by (try dsimp only); (repeat (first | rw [up_s] | rw [up_n (by omega)])) <;> first | rfl | assumption) ?_
                        refine ev_aload_n (pc := 114) dX12_reads_114 rfl ?_
                        refine gf_X12_79 (pc := 115) rfl dX12_reads_115 (by (try dsimp only); (repeat (first | rw [up_s] | rw [up_n (by omega)])) <;> first | rfl | assumption) ?_
                        refine ev_iald (pc := 118) dX12_reads_118 (by (try dsimp only); (repeat (first | rw [up_s] | rw [up_n (by omega)])) <;> first | rfl | assumption) (nI_toInt (by omega)) (xg (by omega) (x2 _ (by omega))) ?_
                        refine ev_bipush (pc := 119) (v := nI 59) dX12_reads_119 kb_59 ?_
                        refine ev_icmp_ne (pc := 121) 128 dX12_reads_121 (by decide) (fun c_121 => ?_) (fun c_121 => ?_)
                        · exfalso; (try simp (disch := omega) only [i32_lti, i32_lei, i32_eqi, nI_toInt, i32z] at c_121); omega
                        · (try simp (disch := omega) only [i32_lti, i32_lei, i32_eqi, nI_toInt, i32z] at c_121)
                          refine ev_iconst (pc := 124) (v := nI 3) dX12_reads_124 kc_3 ?_
                          refine ev_goto (pc := 125) 129 dX12_reads_125 (by decide) ?_
                          refine pf_X12_92 (pc := 129) rfl dX12_reads_129 (by (try dsimp only); (repeat (first | rw [up_s] | rw [up_n (by omega)])) <;> first | rfl | assumption) ?_
                          refine ev_aload_n (pc := 132) dX12_reads_132 rfl ?_
                          refine ev_dup (pc := 133) dX12_reads_133 rfl ?_
                          refine gf_X12_79 (pc := 134) rfl dX12_reads_134 (by (try dsimp only); (repeat (first | rw [up_s] | rw [up_n (by omega)])) <;> first | rfl | assumption) ?_
                          refine ev_aload_n (pc := 137) dX12_reads_137 rfl ?_
                          refine gf_X12_92 (pc := 138) rfl dX12_reads_138 (by (try dsimp only); (repeat (first | rw [up_s] | rw [up_n (by omega)])) <;> first | rfl | assumption) ?_
                          refine ev_iconst (pc := 141) (v := nI 3) dX12_reads_141 kc_3 ?_
                          refine ev_icmp_ne (pc := 142) 149 dX12_reads_142 (by decide) (fun c_142 => ?_) (fun c_142 => ?_)
                          · exact absurd rfl c_142
                          · (try simp (disch := omega) only [i32_lti, i32_lei, i32_eqi, nI_toInt, i32z] at c_142)
                            refine ev_iconst (pc := 145) (v := nI 1) dX12_reads_145 kc_1 ?_
                            refine ev_goto (pc := 146) 150 dX12_reads_146 (by decide) ?_
                            refine ev_iadd (pc := 150) dX12_reads_150 ?_
                            (try rw [nI_add])
                            refine pf_X12_79 (pc := 151) rfl dX12_reads_151 (by (try dsimp only); (repeat (first | rw [up_s] | rw [up_n (by omega)])) <;> first | rfl | assumption) ?_
                            refine ev_ret (pc := 154) dX12_reads_154 rfl (Nat.le_of_ble_eq_true rfl) (Nat.le_of_ble_eq_true rfl) ?_
                            exact ⟨rfl, rfl, (by intro q hq; (try dsimp only); rw [up_n (by omega), up_n (by omega), up_n (by omega)]; exact f1 q hq), _, _, (by unfold pMO; exact (by (try dsimp only); (repeat (first | rw [up_s] | rw [up_n (by omega)])) <;> first | rfl | assumption)), fun _ => rfl, fun q => by rcases q with q | q <;> cases q⟩
                      · exact absurd rfl c_99
                    · exact absurd rfl c_77
                  · exfalso; (try simp (disch := omega) only [i32_lti, i32_lei, i32_eqi, nI_toInt, i32z] at c_54); omega
                · exfalso; (try simp (disch := omega) only [i32_lti, i32_lei, i32_eqi, nI_toInt, i32z] at c_22); omega
            · rw [if_neg h59] at en
              rw [en]
              refine ev_aload_n (pc := 0) dX12_reads_0 rfl ?_
              refine gf_X12_79 (pc := 1) rfl dX12_reads_1 (by (try dsimp only); (repeat (first | rw [up_s] | rw [up_n (by omega)])) <;> first | rfl | assumption) ?_
              refine ev_aload_n (pc := 4) dX12_reads_4 rfl ?_
              refine gf_X12_67 (pc := 5) rfl dX12_reads_5 (by (try dsimp only); (repeat (first | rw [up_s] | rw [up_n (by omega)])) <;> first | rfl | assumption) ?_
              refine ev_icmp_ge (pc := 8) 38 dX12_reads_8 (by decide) (fun c_8 => ?_) (fun c_8 => ?_)
              · exfalso; (try simp (disch := omega) only [i32_lti, i32_lei, i32_eqi, nI_toInt, i32z] at c_8); omega
              · (try simp (disch := omega) only [i32_lti, i32_lei, i32_eqi, nI_toInt, i32z] at c_8)
                refine ev_aload_n (pc := 11) dX12_reads_11 rfl ?_
                refine gf_X12_7 (pc := 12) rfl dX12_reads_12 (by (try dsimp only); (repeat (first | rw [up_s] | rw [up_n (by omega)])) <;> first | rfl | assumption) ?_
                refine ev_aload_n (pc := 15) dX12_reads_15 rfl ?_
                refine gf_X12_79 (pc := 16) rfl dX12_reads_16 (by (try dsimp only); (repeat (first | rw [up_s] | rw [up_n (by omega)])) <;> first | rfl | assumption) ?_
                refine ev_iald (pc := 19) dX12_reads_19 (by (try dsimp only); (repeat (first | rw [up_s] | rw [up_n (by omega)])) <;> first | rfl | assumption) (nI_toInt (by omega)) (xg (by omega) (x2 _ (by omega))) ?_
                refine ev_bipush (pc := 20) (v := nI 32) dX12_reads_20 kb_32 ?_
                refine ev_icmp_ne (pc := 22) 38 dX12_reads_22 (by decide) (fun c_22 => ?_) (fun c_22 => ?_)
                · (try simp (disch := omega) only [i32_lti, i32_lei, i32_eqi, nI_toInt, i32z] at c_22)
                  refine ev_aload_n (pc := 38) dX12_reads_38 rfl ?_
                  refine ev_aload_n (pc := 39) dX12_reads_39 rfl ?_
                  refine gf_X12_79 (pc := 40) rfl dX12_reads_40 (by (try dsimp only); (repeat (first | rw [up_s] | rw [up_n (by omega)])) <;> first | rfl | assumption) ?_
                  refine pf_X12_89 (pc := 43) rfl dX12_reads_43 (by (try dsimp only); (repeat (first | rw [up_s] | rw [up_n (by omega)])) <;> first | rfl | assumption) ?_
                  refine ev_aload_n (pc := 46) dX12_reads_46 rfl ?_
                  refine gf_X12_79 (pc := 47) rfl dX12_reads_47 (by (try dsimp only); (repeat (first | rw [up_s] | rw [up_n (by omega)])) <;> first | rfl | assumption) ?_
                  refine ev_aload_n (pc := 50) dX12_reads_50 rfl ?_
                  refine gf_X12_67 (pc := 51) rfl dX12_reads_51 (by (try dsimp only); (repeat (first | rw [up_s] | rw [up_n (by omega)])) <;> first | rfl | assumption) ?_
                  refine ev_icmp_ne (pc := 54) 65 dX12_reads_54 (by decide) (fun c_54 => ?_) (fun c_54 => ?_)
                  · (try simp (disch := omega) only [i32_lti, i32_lei, i32_eqi, nI_toInt, i32z] at c_54)
                    refine ev_aload_n (pc := 65) dX12_reads_65 rfl ?_
                    refine gf_X12_7 (pc := 66) rfl dX12_reads_66 (by (try dsimp only); (repeat (first | rw [up_s] | rw [up_n (by omega)])) <;> first | rfl | assumption) ?_
                    refine ev_aload_n (pc := 69) dX12_reads_69 rfl ?_
                    refine gf_X12_79 (pc := 70) rfl dX12_reads_70 (by (try dsimp only); (repeat (first | rw [up_s] | rw [up_n (by omega)])) <;> first | rfl | assumption) ?_
                    refine ev_iald (pc := 73) dX12_reads_73 (by (try dsimp only); (repeat (first | rw [up_s] | rw [up_n (by omega)])) <;> first | rfl | assumption) (nI_toInt (by omega)) (xg (by omega) (x2 _ (by omega))) ?_
                    refine iv_X12_85 (pc := 74) rfl dX12_reads_74 (Nat.le_of_ble_eq_true rfl) (Nat.le_of_ble_eq_true rfl) (Nat.le_of_ble_eq_true rfl) (Nat.le_of_ble_eq_true rfl) (c_isLetter2 (by omega)) (kp ?_)
                    rw [hL]
                    refine ev_if_eq (pc := 77) 87 dX12_reads_77 (by decide) (fun c_77 => ?_) (fun c_77 => ?_)
                    · (try simp (disch := omega) only [i32_lti, i32_lei, i32_eqi, nI_toInt, i32z] at c_77)
                      refine ev_aload_n (pc := 87) dX12_reads_87 rfl ?_
                      refine gf_X12_7 (pc := 88) rfl dX12_reads_88 (by (try dsimp only); (repeat (first | rw [up_s] | rw [up_n (by omega)])) <;> first | rfl | assumption) ?_
                      refine ev_aload_n (pc := 91) dX12_reads_91 rfl ?_
                      refine gf_X12_79 (pc := 92) rfl dX12_reads_92 (by (try dsimp only); (repeat (first | rw [up_s] | rw [up_n (by omega)])) <;> first | rfl | assumption) ?_
                      refine ev_iald (pc := 95) dX12_reads_95 (by (try dsimp only); (repeat (first | rw [up_s] | rw [up_n (by omega)])) <;> first | rfl | assumption) (nI_toInt (by omega)) (xg (by omega) (x2 _ (by omega))) ?_
                      refine iv_X12_95 (pc := 96) rfl dX12_reads_96 (Nat.le_of_ble_eq_true rfl) (Nat.le_of_ble_eq_true rfl) (Nat.le_of_ble_eq_true rfl) (Nat.le_of_ble_eq_true rfl) (c_isFigure2 (by omega)) (kp ?_)
                      rw [hD]
                      refine ev_if_eq (pc := 99) 109 dX12_reads_99 (by decide) (fun c_99 => ?_) (fun c_99 => ?_)
                      · (try simp (disch := omega) only [i32_lti, i32_lei, i32_eqi, nI_toInt, i32z] at c_99)
                        refine ev_aload_n (pc := 109) dX12_reads_109 rfl ?_
                        refine ev_aload_n (pc := 110) dX12_reads_110 rfl ?_
                        refine gf_X12_7 (pc := 111) rfl dX12_reads_111 (by (try dsimp only); (repeat (first | rw [up_s] | rw [up_n (by omega)])) <;> first | rfl | assumption) ?_
                        refine ev_aload_n (pc := 114) dX12_reads_114 rfl ?_
                        refine gf_X12_79 (pc := 115) rfl dX12_reads_115 (by (try dsimp only); (repeat (first | rw [up_s] | rw [up_n (by omega)])) <;> first | rfl | assumption) ?_
                        refine ev_iald (pc := 118) dX12_reads_118 (by (try dsimp only); (repeat (first | rw [up_s] | rw [up_n (by omega)])) <;> first | rfl | assumption) (nI_toInt (by omega)) (xg (by omega) (x2 _ (by omega))) ?_
                        refine ev_bipush (pc := 119) (v := nI 59) dX12_reads_119 kb_59 ?_
                        refine ev_icmp_ne (pc := 121) 128 dX12_reads_121 (by decide) (fun c_121 => ?_) (fun c_121 => ?_)
                        · (try simp (disch := omega) only [i32_lti, i32_lei, i32_eqi, nI_toInt, i32z] at c_121)
                          refine ev_iconst (pc := 128) (v := nI 4) dX12_reads_128 kc_4 ?_
                          refine pf_X12_92 (pc := 129) rfl dX12_reads_129 (by (try dsimp only); (repeat (first | rw [up_s] | rw [up_n (by omega)])) <;> first | rfl | assumption) ?_
                          refine ev_aload_n (pc := 132) dX12_reads_132 rfl ?_
                          refine ev_dup (pc := 133) dX12_reads_133 rfl ?_
                          refine gf_X12_79 (pc := 134) rfl dX12_reads_134 (by (try dsimp only); (repeat (first | rw [up_s] | rw [up_n (by omega)])) <;> first | rfl | assumption) ?_
                          refine ev_aload_n (pc := 137) dX12_reads_137 rfl ?_
                          refine gf_X12_92 (pc := 138) rfl dX12_reads_138 (by (try dsimp only); (repeat (first | rw [up_s] | rw [up_n (by omega)])) <;> first | rfl | assumption) ?_
                          refine ev_iconst (pc := 141) (v := nI 3) dX12_reads_141 kc_3 ?_
                          refine ev_icmp_ne (pc := 142) 149 dX12_reads_142 (by decide) (fun c_142 => ?_) (fun c_142 => ?_)
                          · (try simp (disch := omega) only [i32_lti, i32_lei, i32_eqi, nI_toInt, i32z] at c_142)
                            refine ev_iconst (pc := 149) (v := nI 0) dX12_reads_149 kc_0 ?_
                            refine ev_iadd (pc := 150) dX12_reads_150 ?_
                            (try rw [nI_add])
                            refine pf_X12_79 (pc := 151) rfl dX12_reads_151 (by (try dsimp only); (repeat (first | rw [up_s] | rw [up_n (by omega)])) <;> first | rfl | assumption) ?_
                            refine ev_ret (pc := 154) dX12_reads_154 rfl (Nat.le_of_ble_eq_true rfl) (Nat.le_of_ble_eq_true rfl) ?_
                            exact ⟨rfl, rfl, (by intro q hq; (try dsimp only); rw [up_n (by omega), up_n (by omega), up_n (by omega)]; exact f1 q hq), _, _, (by unfold pMO; exact (by (try dsimp only); (repeat (first | rw [up_s] | rw [up_n (by omega)])) <;> first | rfl | assumption)), fun q => absurd rfl q, fun q => by rcases q with q | q <;> cases q⟩
                          · exact absurd c_142 (by decide)
                        · exfalso; (try simp (disch := omega) only [i32_lti, i32_lei, i32_eqi, nI_toInt, i32z] at c_121); omega
                      · exact absurd rfl c_99
                    · exact absurd rfl c_77
                  · exfalso; (try simp (disch := omega) only [i32_lti, i32_lei, i32_eqi, nI_toInt, i32z] at c_54); omega
                · exfalso; (try simp (disch := omega) only [i32_lti, i32_lei, i32_eqi, nI_toInt, i32z] at c_22); omega
    | succ n ih =>
      intro e hee hbe h1 f1 o1
      unfold pMO at o1
      have hin := rend_in (p := isB) (cs := cs) (b := i) (j := e) hbe (by omega)
      have y1 := (f1 (m + 1) (by omega)).trans x1
      have h32 : gN cs e = 32 := by have := hin.2; simpa [isB] using this
      refine ev_aload_n (pc := 0) dX12_reads_0 rfl ?_
      refine gf_X12_79 (pc := 1) rfl dX12_reads_1 (by (try dsimp only); (repeat (first | rw [up_s] | rw [up_n (by omega)])) <;> first | rfl | assumption) ?_
      refine ev_aload_n (pc := 4) dX12_reads_4 rfl ?_
      refine gf_X12_67 (pc := 5) rfl dX12_reads_5 (by (try dsimp only); (repeat (first | rw [up_s] | rw [up_n (by omega)])) <;> first | rfl | assumption) ?_
      refine ev_icmp_ge (pc := 8) 38 dX12_reads_8 (by decide) (fun c_8 => ?_) (fun c_8 => ?_)
      · exfalso; (try simp (disch := omega) only [i32_lti, i32_lei, i32_eqi, nI_toInt, i32z] at c_8); omega
      · (try simp (disch := omega) only [i32_lti, i32_lei, i32_eqi, nI_toInt, i32z] at c_8)
        refine ev_aload_n (pc := 11) dX12_reads_11 rfl ?_
        refine gf_X12_7 (pc := 12) rfl dX12_reads_12 (by (try dsimp only); (repeat (first | rw [up_s] | rw [up_n (by omega)])) <;> first | rfl | assumption) ?_
        refine ev_aload_n (pc := 15) dX12_reads_15 rfl ?_
        refine gf_X12_79 (pc := 16) rfl dX12_reads_16 (by (try dsimp only); (repeat (first | rw [up_s] | rw [up_n (by omega)])) <;> first | rfl | assumption) ?_
        refine ev_iald (pc := 19) dX12_reads_19 (by (try dsimp only); (repeat (first | rw [up_s] | rw [up_n (by omega)])) <;> first | rfl | assumption) (nI_toInt (by omega)) (xg (by omega) (x2 _ hin.1)) ?_
        refine ev_bipush (pc := 20) (v := nI 32) dX12_reads_20 kb_32 ?_
        refine ev_icmp_ne (pc := 22) 38 dX12_reads_22 (by decide) (fun c_22 => ?_) (fun c_22 => ?_)
        · exfalso; (try simp (disch := omega) only [i32_lti, i32_lei, i32_eqi, nI_toInt, i32z] at c_22); omega
        · (try simp (disch := omega) only [i32_lti, i32_lei, i32_eqi, nI_toInt, i32z] at c_22)
          refine ev_aload_n (pc := 25) dX12_reads_25 rfl ?_
          refine ev_dup (pc := 26) dX12_reads_26 rfl ?_
          refine gf_X12_79 (pc := 27) rfl dX12_reads_27 (by (try dsimp only); (repeat (first | rw [up_s] | rw [up_n (by omega)])) <;> first | rfl | assumption) ?_
          refine ev_iconst (pc := 30) (v := nI 1) dX12_reads_30 kc_1 ?_
          refine ev_iadd (pc := 31) dX12_reads_31 ?_
          (try rw [nI_add])
          refine pf_X12_79 (pc := 32) rfl dX12_reads_32 (by (try dsimp only); (repeat (first | rw [up_s] | rw [up_n (by omega)])) <;> first | rfl | assumption) ?_
          refine ev_goto (pc := 35) 0 dX12_reads_35 (by decide) ?_
          exact ih (e + 1) (by omega) (by omega) _ (by intro q hq; (try dsimp only); rw [up_n (by omega)]; exact f1 q hq) (by unfold pMO; exact (by (try dsimp only); (repeat (first | rw [up_s] | rw [up_n (by omega)])) <;> first | rfl | assumption))
  exact loop (rend isB cs i - i) i (by omega) (by omega) h (fun _ _ => rfl) (by unfold pMO; exact po)
end MTOK
