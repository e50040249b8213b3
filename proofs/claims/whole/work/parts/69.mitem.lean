/-! ===== the model: an item ===== -/
def mSt (h : Hp) (m : Nat) (cs : List Nat) (t : Tk) (A : Ab) (tl nt me de lo sa un mn bd br he : Int32) (tr : Int64) : Prop := ∃ at_ td : Int32, pMO h m (nI cs.length) at_ (nI t.2.2.1) (nI (mTk t)) td (nI (aP A).length) (nI (aH A).length) (nI (aM A)) (nI (aD A)) tl nt me de lo sa un mn bd br he tr ∧ (mTk t ≠ 4 → at_ = nI t.2.2.2) ∧ (mTk t = 1 ∨ mTk t = 2 → td = nI t.2.1) ∧ t.2.2.2 ≤ cs.length ∧ t.1 < 5 ∧ t.2.1 < 1000 ∧ mAb h m A
def mFr (h h' : Hp) (m : Nat) : Prop := ∀ q : Nat, q ≠ m → (q < m + 2 ∨ m + 5 ≤ q) → h' q = h q
theorem mTk_2 {t : Tk} : mTk t = 2 ↔ t.1 = 2 := by
  unfold mTk
  split
  · split <;> omega
  · exact Iff.rfl
theorem mTk_3 {t : Tk} : mTk t = 3 ↔ t.1 = 3 := by
  unfold mTk
  split
  · split <;> omega
  · exact Iff.rfl
theorem mTk_0 {t : Tk} : mTk t = 0 ↔ t.1 = 0 := by
  unfold mTk
  split
  · split <;> omega
  · exact Iff.rfl
theorem mTk_1 {t : Tk} : mTk t = 1 ↔ t.1 = 1 ∧ (t.2.1 = 116 ∨ t.2.1 = 110 ∨ t.2.1 = 109 ∨ t.2.1 = 100) := by
  unfold mTk
  split
  · next h =>
    split
    · next h2 => exact ⟨fun _ => ⟨h, h2⟩, fun _ => rfl⟩
    · next h2 => exact ⟨fun q => (by cases q), fun q => absurd q.2 h2⟩
  · next h => exact ⟨fun q => absurd q h, fun q => absurd q.1 h⟩
theorem mTk_lt {t : Tk} (h : t.1 < 5) : mTk t < 5 := by
  unfold mTk
  split
  · split <;> omega
  · exact h
theorem dAnd {a b : Prop} [Decidable a] [Decidable b] : (decide a && decide b) = decide (a ∧ b) := by
  by_cases ha : a <;> by_cases hb : b <;> simp [ha, hb]
section MITEM
variable {X : Cx} {h : Hp} {z m : Nat} {cs : List Nat} {t : Tk} {A : Ab} {tl nt me de lo sa un mn bd br he : Int32} {tr : Int64}
theorem c_mNext (S : mSt h m cs t A tl nt me de lo sa un mn bd br he tr) (px : mTx h m cs) (h4 : mTk t ≠ 4) : Ct X 3 mt_X12_reads [.ref m] (h, z) 0 0 (Qv (fun S' => S'.2 = z ∧ (∀ q : Nat, q ≠ m → S'.1 q = h q) ∧ mSt S'.1 m cs (nxt cs t.2.2.2) A tl nt me de lo sa un mn bd br he tr)) := by
  obtain ⟨at_, td, po, s1, s2, s3, s4, s5, ab⟩ := S
  rw [s1 h4] at po
  refine (c_mReads po px s3).mono ?_
  intro r S' hS
  obtain ⟨hr, hz, f, at2, td2, o, q1, q2⟩ := hS
  have n1 := nxt_af s3
  have n2 := nxt_v px.choose_spec.2.2.2 t.2.2.2
  exact ⟨hr, hz, f, at2, td2, o, q1, q2, n1.1, n1.2, n2, ab.fr (fun q a b => f q (by omega))⟩
theorem c_mNumber (S : mSt h m cs t A tl nt me de lo sa un mn bd br he tr) (px : mTx h m cs) (h4 : mTk t ≠ 4) {a b : Nat} (ha : a < 2 ^ 31) (hb : b < 2 ^ 31) : Ct X 4 mt_X12_number [.ref m, .int (nI a), .int (nI b)] (h, z) 0 0 (Qi (fun r S' => r = b2i (num (nxt cs t.2.2.2) a b) ∧ S'.2 = z ∧ (∀ q : Nat, q ≠ m → S'.1 q = h q) ∧ mSt S'.1 m cs (nxt cs t.2.2.2) A tl nt me de lo sa un mn bd br he tr)) := by
  obtain ⟨at0, td0, po0, -⟩ := id S
  unfold pMO at po0
  refine mk_X12_number (Nat.le_of_ble_eq_true rfl) (L := [.ref m, .int (nI a), .int (nI b)]) rfl ?_
  refine ev_aload_n (pc := 0) dX12_number_0 rfl ?_
  refine iv_X12_104 (pc := 1) rfl dX12_number_1 (by (try dsimp only); (repeat (first | rw [up_s] | rw [up_n (by omega)])) <;> first | rfl | assumption) (Nat.le_of_ble_eq_true rfl) (Nat.le_of_ble_eq_true rfl) (Nat.le_of_ble_eq_true rfl) (Nat.le_of_ble_eq_true rfl) (c_mNext S px h4) (kv (fun S' hS => ?_))
  obtain ⟨h1, z'⟩ := S'
  obtain ⟨rfl, f1, S1⟩ := hS
  obtain ⟨at_, td, po, s1, s2, s3, s4, s5, ab⟩ := id S1
  have hk5 := mTk_lt s4
  have hk2 := mTk_2 (t := nxt cs t.2.2.2)
  unfold pMO at po
  refine ev_aload_n (pc := 4) dX12_number_4 rfl ?_
  refine gf_X12_92 (pc := 5) rfl dX12_number_5 (by (try dsimp only); (repeat (first | rw [up_s] | rw [up_n (by omega)])) <;> first | rfl | assumption) ?_
  refine ev_iconst (pc := 8) (v := nI 2) dX12_number_8 kc_2 ?_
  refine ev_icmp_ne (pc := 9) 31 dX12_number_9 (by decide) (fun c_9 => ?_) (fun c_9 => ?_)
  · refine ev_iconst (pc := 31) (v := nI 0) dX12_number_31 kc_0 ?_
    refine ev_iret (pc := 32) dX12_number_32 rfl rfl (Nat.le_of_ble_eq_true rfl) (Nat.le_of_ble_eq_true rfl) ?_
    (try simp (disch := omega) only [i32_lti, i32_lei, i32_eqi, nI_toInt, i32z] at c_9)
    exact ⟨_, rfl, by rw [show num (nxt cs t.2.2.2) a b = false by unfold num; exact decide_eq_false (fun q => by have := hk2.mpr q.1; omega)]; rfl, rfl, f1, S1⟩
  · (try simp (disch := omega) only [i32_lti, i32_lei, i32_eqi, nI_toInt, i32z] at c_9)
    rw [s2 (Or.inr (by omega))] at po
    have htd := s2 (Or.inr (by omega))
    have hnn : num (nxt cs t.2.2.2) a b = decide (a ≤ (nxt cs t.2.2.2).2.1 ∧ (nxt cs t.2.2.2).2.1 ≤ b) := by
      unfold num
      have e2 := hk2.mp (by omega)
      apply decide_eq_decide.mpr
      exact ⟨fun q => q.2, fun q => ⟨e2, q⟩⟩
    refine ev_aload_n (pc := 12) dX12_number_12 rfl ?_
    refine gf_X12_82 (pc := 13) rfl dX12_number_13 (by (try dsimp only); (repeat (first | rw [up_s] | rw [up_n (by omega)])) <;> first | rfl | assumption) ?_
    refine ev_i2l (pc := 16) dX12_number_16 ?_
    refine ev_iload_n (pc := 17) dX12_number_17 rfl ?_
    refine ev_i2l (pc := 18) dX12_number_18 ?_
    refine ev_iload_n (pc := 19) dX12_number_19 rfl ?_
    refine ev_i2l (pc := 20) dX12_number_20 ?_
    refine iv_X12_63 (pc := 21) rfl dX12_number_21 (Nat.le_of_ble_eq_true rfl) (Nat.le_of_ble_eq_true rfl) (Nat.le_of_ble_eq_true rfl) (Nat.le_of_ble_eq_true rfl) (c_in _ _ _) (kp ?_)
    rw [show decide ((nI a).toInt64.toInt ≤ (nI (nxt cs t.2.2.2).2.1).toInt64.toInt ∧ (nI (nxt cs t.2.2.2).2.1).toInt64.toInt ≤ (nI b).toInt64.toInt) = num (nxt cs t.2.2.2) a b by rw [hnn, Int32.toInt_toInt64, Int32.toInt_toInt64, Int32.toInt_toInt64, nI_toInt ha, nI_toInt hb, nI_toInt (by omega)]; apply decide_eq_decide.mpr; omega]
    refine ev_if_eq (pc := 24) 31 dX12_number_24 (by decide) (fun c_24 => ?_) (fun c_24 => ?_)
    · simp only [b2i_e0, Bool.not_eq_false] at c_24
      refine ev_iconst (pc := 31) (v := nI 0) dX12_number_31 kc_0 ?_
      refine ev_iret (pc := 32) dX12_number_32 rfl rfl (Nat.le_of_ble_eq_true rfl) (Nat.le_of_ble_eq_true rfl) ?_
      exact ⟨_, rfl, by rw [c_24]; rfl, rfl, f1, S1⟩
    · simp only [b2i_e0, Bool.not_eq_false] at c_24
      refine ev_iconst (pc := 27) (v := nI 1) dX12_number_27 kc_1 ?_
      refine ev_goto (pc := 28) 32 dX12_number_28 (by decide) ?_
      refine ev_iret (pc := 32) dX12_number_32 rfl rfl (Nat.le_of_ble_eq_true rfl) (Nat.le_of_ble_eq_true rfl) ?_
      exact ⟨_, rfl, by rw [c_24]; rfl, rfl, f1, S1⟩
theorem mSt.ab (S : mSt h m cs t A tl nt me de lo sa un mn bd br he tr) : mAb h m A := by
  obtain ⟨at_, td, po, s1, s2, s3, s4, s5, ab⟩ := S
  exact ab
theorem c_mReadTale (S : mSt h m cs t A tl nt me de lo sa un mn bd br he tr) (px : mTx h m cs) (h4 : mTk t ≠ 4) (w : wA A) (g1 : (aW A).length = (aP A).length) : Ct X 5 mt_X12_readTale [.ref m] (h, z) 0 0 (Qi (fun r S' => r = b2i ((pTale cs t A).2.2 && decide ((pTale cs t A).1.1 = 3)) ∧ S'.2 = z ∧ mFr h S'.1 m ∧ mSt S'.1 m cs (pTale cs t A).1 (pTale cs t A).2.1 tl nt me de lo sa un mn bd br he tr)) := by
  obtain ⟨w1, w2, w3, w4⟩ := id w
  obtain ⟨at_, td, po, s1, s2, s3, s4, s5, ab⟩ := id S
  unfold pMO at po
  refine mk_X12_readTale (Nat.le_of_ble_eq_true rfl) (L := [.ref m]) rfl ?_
  by_cases h6 : 6 ≤ (aP A).length
  · have e : pTale cs t A = (t, A, false) := by unfold pTale; rw [if_pos h6]
    rw [e]
    refine ev_aload_n (pc := 0) dX12_readTale_0 rfl ?_
    refine gf_X12_107 (pc := 1) rfl dX12_readTale_1 (by (try dsimp only); (repeat (first | rw [up_s] | rw [up_n (by omega)])) <;> first | rfl | assumption) ?_
    refine ev_bipush (pc := 4) (v := nI 6) dX12_readTale_4 kb_6 ?_
    refine ev_icmp_eq (pc := 6) 19 dX12_readTale_6 (by decide) (fun c_6 => ?_) (fun c_6 => ?_)
    · (try simp (disch := omega) only [i32_lti, i32_lei, i32_eqi, nI_toInt, i32z] at c_6)
      refine ev_iconst (pc := 19) (v := nI 0) dX12_readTale_19 kc_0 ?_
      refine ev_iret (pc := 20) dX12_readTale_20 rfl rfl (Nat.le_of_ble_eq_true rfl) (Nat.le_of_ble_eq_true rfl) ?_
      exact ⟨_, rfl, rfl, rfl, fun _ _ _ => rfl, S⟩
    · exfalso; (try simp (disch := omega) only [i32_lti, i32_lei, i32_eqi, nI_toInt, i32z] at c_6); omega
  by_cases hn : num (nxt cs t.2.2.2) 1 9 = false
  · have e : pTale cs t A = (nxt cs t.2.2.2, A, false) := by unfold pTale; rw [if_neg h6, if_pos hn]
    rw [e]
    refine ev_aload_n (pc := 0) dX12_readTale_0 rfl ?_
    refine gf_X12_107 (pc := 1) rfl dX12_readTale_1 (by (try dsimp only); (repeat (first | rw [up_s] | rw [up_n (by omega)])) <;> first | rfl | assumption) ?_
    refine ev_bipush (pc := 4) (v := nI 6) dX12_readTale_4 kb_6 ?_
    refine ev_icmp_eq (pc := 6) 19 dX12_readTale_6 (by decide) (fun c_6 => ?_) (fun c_6 => ?_)
    · exfalso; (try simp (disch := omega) only [i32_lti, i32_lei, i32_eqi, nI_toInt, i32z] at c_6); omega
    · (try simp (disch := omega) only [i32_lti, i32_lei, i32_eqi, nI_toInt, i32z] at c_6)
      refine ev_aload_n (pc := 9) dX12_readTale_9 rfl ?_
      refine ev_iconst (pc := 10) (v := nI 1) dX12_readTale_10 kc_1 ?_
      refine ev_bipush (pc := 11) (v := nI 9) dX12_readTale_11 kb_9 ?_
      refine iv_X12_110 (pc := 13) rfl dX12_readTale_13 (by (try dsimp only); (repeat (first | rw [up_s] | rw [up_n (by omega)])) <;> first | rfl | assumption) (Nat.le_of_ble_eq_true rfl) (Nat.le_of_ble_eq_true rfl) (Nat.le_of_ble_eq_true rfl) (Nat.le_of_ble_eq_true rfl) (c_mNumber S px h4 (by omega) (by omega)) (ki (fun r S' hS => ?_))
      obtain ⟨h1, z'⟩ := S'
      obtain ⟨rfl, rfl, f1, S1⟩ := hS
      rw [hn]
      refine ev_if_ne (pc := 16) 21 dX12_readTale_16 (by decide) (fun c_16 => ?_) (fun c_16 => ?_)
      · exact absurd rfl c_16
      · (try simp (disch := omega) only [i32_lti, i32_lei, i32_eqi, nI_toInt, i32z] at c_16)
        refine ev_iconst (pc := 19) (v := nI 0) dX12_readTale_19 kc_0 ?_
        refine ev_iret (pc := 20) dX12_readTale_20 rfl rfl (Nat.le_of_ble_eq_true rfl) (Nat.le_of_ble_eq_true rfl) ?_
        exact ⟨_, rfl, rfl, rfl, fun q a b => f1 q a, S1⟩
  have hn2 : num (nxt cs t.2.2.2) 1 9 = true := by simpa using hn
  have hv := num_v hn2
  have k2 : mTk (nxt cs t.2.2.2) ≠ 4 := by have := mTk_2.mpr hv.1; omega
  have kk2 := mTk_2.mpr hv.1
  generalize ht1 : nxt cs t.2.2.2 = t1 at *
  have ed : pTale cs t A = (if (nxt cs t1.2.2.2).1 = 2 ∧ ((nxt cs t1.2.2.2).2.1 < (aP A).length ∨ (nxt cs t1.2.2.2).2.1 = 9) then (nxt cs (nxt cs t1.2.2.2).2.2.2, (aP A ++ [t1.2.1], aW A ++ [(nxt cs t1.2.2.2).2.1], aH A, aM A, aD A), true) else (nxt cs t1.2.2.2, A, false)) := by
    unfold pTale
    rw [if_neg h6, ht1, if_neg (by rw [hn2]; decide)]
  generalize ht2 : nxt cs t1.2.2.2 = t2 at *
  have hk2 := mTk_2 (t := t2)
  have fin : ∀ h1 : Hp, mFr h h1 m → mSt h1 m cs t2 A tl nt me de lo sa un mn bd br he tr → (∃ f : Nat → Int32, h1 (m + 2) = some (.inr (0, .inl (ar 6 f))) ∧ (∀ i : Nat, i < (aP A).length → f i = nI (gN (aP A) i)) ∧ f (aP A).length = nI t1.2.1) → Ev X (mi_X12_readTale 5 0 0) (Qi (fun r S' => r = b2i ((pTale cs t A).2.2 && decide ((pTale cs t A).1.1 = 3)) ∧ S'.2 = z ∧ mFr h S'.1 m ∧ mSt S'.1 m cs (pTale cs t A).1 (pTale cs t A).2.1 tl nt me de lo sa un mn bd br he tr)) 0 0 (h1, z) 38 [.ref m] [] := by
    intro h1 f1 S1 hf
    have px1 : mTx h1 m cs := px.fr (f1 _ (by omega) (by omega))
    obtain ⟨at_, td, po, s1, s2, s3, s4, s5, ab⟩ := id S1
    have hk5 := mTk_lt s4
    by_cases hc : t2.1 = 2 ∧ (t2.2.1 < (aP A).length ∨ t2.2.1 = 9)
    · rw [if_pos hc] at ed
      have kt := hk2.mpr hc.1
      have po2 := po
      rw [s2 (Or.inr kt), kt] at po2
      unfold pMO at po2
      obtain ⟨f, u1, u2, u3⟩ := hf
      obtain ⟨f0, g, k, b1, b2, b3, b4, b5, b6⟩ := id ab
      have el : (aP A ++ [t1.2.1]).length = (aP A).length + 1 := by simp
      rw [ed]
      refine ev_aload_n (pc := 38) dX12_readTale_38 rfl ?_
      refine gf_X12_92 (pc := 39) rfl dX12_readTale_39 (by (try dsimp only); (repeat (first | rw [up_s] | rw [up_n (by omega)])) <;> first | rfl | assumption) ?_
      refine ev_iconst (pc := 42) (v := nI 2) dX12_readTale_42 kc_2 ?_
      refine ev_icmp_ne (pc := 43) 66 dX12_readTale_43 (by decide) (fun c_43 => ?_) (fun c_43 => ?_)
      · exact absurd rfl c_43
      · (try simp (disch := omega) only [i32_lti, i32_lei, i32_eqi, nI_toInt, i32z] at c_43)
        refine ev_aload_n (pc := 46) dX12_readTale_46 rfl ?_
        refine gf_X12_82 (pc := 47) rfl dX12_readTale_47 (by (try dsimp only); (repeat (first | rw [up_s] | rw [up_n (by omega)])) <;> first | rfl | assumption) ?_
        refine ev_bipush (pc := 50) (v := nI 9) dX12_readTale_50 kb_9 ?_
        refine ev_icmp_eq (pc := 52) 68 dX12_readTale_52 (by decide) (fun c_52 => ?_) (fun c_52 => ?_)
        · (try simp (disch := omega) only [i32_lti, i32_lei, i32_eqi, nI_toInt, i32z] at c_52)
          skip
          refine ev_aload_n (pc := 68) dX12_readTale_68 rfl ?_
          refine gf_X12_16 (pc := 69) rfl dX12_readTale_69 (by (try dsimp only); (repeat (first | rw [up_s] | rw [up_n (by omega)])) <;> first | rfl | assumption) ?_
          refine ev_aload_n (pc := 72) dX12_readTale_72 rfl ?_
          refine gf_X12_107 (pc := 73) rfl dX12_readTale_73 (by (try dsimp only); (repeat (first | rw [up_s] | rw [up_n (by omega)])) <;> first | rfl | assumption) ?_
          refine ev_aload_n (pc := 76) dX12_readTale_76 rfl ?_
          refine gf_X12_82 (pc := 77) rfl dX12_readTale_77 (by (try dsimp only); (repeat (first | rw [up_s] | rw [up_n (by omega)])) <;> first | rfl | assumption) ?_
          refine ev_iast (pc := 80) dX12_readTale_80 (by (try dsimp only); (repeat (first | rw [up_s] | rw [up_n (by omega)])) <;> first | rfl | assumption) (nI_toInt (by omega)) (by rw [ar_len]; omega) ?_
          rw [ar_set (by omega)]
          refine ev_aload_n (pc := 81) dX12_readTale_81 rfl ?_
          refine ev_dup (pc := 82) dX12_readTale_82 rfl ?_
          refine gf_X12_107 (pc := 83) rfl dX12_readTale_83 (by (try dsimp only); (repeat (first | rw [up_s] | rw [up_n (by omega)])) <;> first | rfl | assumption) ?_
          refine ev_iconst (pc := 86) (v := nI 1) dX12_readTale_86 kc_1 ?_
          refine ev_iadd (pc := 87) dX12_readTale_87 ?_
          (try rw [nI_add])
          refine pf_X12_107 (pc := 88) rfl dX12_readTale_88 (by (try dsimp only); (repeat (first | rw [up_s] | rw [up_n (by omega)])) <;> first | rfl | assumption) ?_
          refine ev_aload_n (pc := 91) dX12_readTale_91 rfl ?_
          refine iv_X12_104 (pc := 92) rfl dX12_readTale_92 (by (try dsimp only); (repeat (first | rw [up_s] | rw [up_n (by omega)])) <;> first | rfl | assumption) (Nat.le_of_ble_eq_true rfl) (Nat.le_of_ble_eq_true rfl) (Nat.le_of_ble_eq_true rfl) (Nat.le_of_ble_eq_true rfl) (c_mNext (t := t2) (A := (aP A ++ [t1.2.1], aW A ++ [t2.2.1], aH A, aM A, aD A)) (tl := tl) (nt := nt) (me := me) (de := de) (lo := lo) (sa := sa) (un := un) (mn := mn) (bd := bd) (br := br) (he := he) (tr := tr) ⟨at_, nI t2.2.1, (by unfold pMO; dsimp only [aP, aH, aM, aD] at el ⊢; rw [el, kt]; exact (by (try dsimp only); (repeat (first | rw [up_s] | rw [up_n (by omega)])) <;> first | rfl | assumption)), s1, fun _ => rfl, s3, s4, s5, f, ru g (aP A).length (nI t2.2.1), k, (by (try dsimp only); (repeat (first | rw [up_s] | rw [up_n (by omega)])) <;> first | rfl | assumption), (by (try dsimp only); (repeat (first | rw [up_s] | rw [up_n (by omega)])) <;> first | rfl | assumption), (by (try dsimp only); (repeat (first | rw [up_s] | rw [up_n (by omega)])) <;> first | rfl | assumption), (by intro i hi; rw [gN_app (by rw [← el]; exact hi)]; by_cases q : i = (aP A).length; rw [if_pos q, q]; exact u3; rw [if_neg q]; exact u2 i (by have : i < (aP A ++ [t1.2.1]).length := hi; omega)), (by intro i hi; have hi2 : i < (aW A).length + 1 := (by have : i < (aW A ++ [t2.2.1]).length := hi; rw [List.length_append] at this; exact this); rw [gN_app hi2, g1]; by_cases q : i = (aP A).length; rw [if_pos q, q, ru_s]; rw [if_neg q, ru_n q]; exact b5 i (by omega)), b6⟩ (px1.fr (by (try dsimp only); rw [up_n (by omega), up_n (by omega)])) (by omega)) (kv (fun S' hS => ?_))
          obtain ⟨h3, z'⟩ := S'
          obtain ⟨rfl, f3, S3⟩ := hS
          obtain ⟨at3, td3, po3, r1, r2, r3, r4, r5, ab3⟩ := id S3
          unfold pMO at po3
          have q3 := mTk_3 (t := nxt cs t2.2.2.2)
          have q5 := mTk_lt r4
          refine ev_aload_n (pc := 95) dX12_readTale_95 rfl ?_
          refine gf_X12_92 (pc := 96) rfl dX12_readTale_96 (by (try dsimp only); (repeat (first | rw [up_s] | rw [up_n (by omega)])) <;> first | rfl | assumption) ?_
          refine ev_iconst (pc := 99) (v := nI 3) dX12_readTale_99 kc_3 ?_
          refine ev_icmp_ne (pc := 100) 107 dX12_readTale_100 (by decide) (fun c_100 => ?_) (fun c_100 => ?_)
          · (try simp (disch := omega) only [i32_lti, i32_lei, i32_eqi, nI_toInt, i32z] at c_100)
            refine ev_iconst (pc := 107) (v := nI 0) dX12_readTale_107 kc_0 ?_
            refine ev_iret (pc := 108) dX12_readTale_108 rfl rfl (Nat.le_of_ble_eq_true rfl) (Nat.le_of_ble_eq_true rfl) ?_
            first
            | exact ⟨_, rfl, by rw [Bool.true_and, decide_eq_true (q3.mp (by omega))]; rfl, rfl, (by intro q a b; refine (f3 q a).trans ?_; (try dsimp only); rw [up_n (by omega), up_n (by omega)]; exact f1 q a b), S3⟩
            | exact ⟨_, rfl, by rw [Bool.true_and, decide_eq_false (fun q => by have := q3.mpr q; omega)]; rfl, rfl, (by intro q a b; refine (f3 q a).trans ?_; (try dsimp only); rw [up_n (by omega), up_n (by omega)]; exact f1 q a b), S3⟩
          · (try simp (disch := omega) only [i32_lti, i32_lei, i32_eqi, nI_toInt, i32z] at c_100)
            refine ev_iconst (pc := 103) (v := nI 1) dX12_readTale_103 kc_1 ?_
            refine ev_goto (pc := 104) 108 dX12_readTale_104 (by decide) ?_
            refine ev_iret (pc := 108) dX12_readTale_108 rfl rfl (Nat.le_of_ble_eq_true rfl) (Nat.le_of_ble_eq_true rfl) ?_
            first
            | exact ⟨_, rfl, by rw [Bool.true_and, decide_eq_true (q3.mp (by omega))]; rfl, rfl, (by intro q a b; refine (f3 q a).trans ?_; (try dsimp only); rw [up_n (by omega), up_n (by omega)]; exact f1 q a b), S3⟩
            | exact ⟨_, rfl, by rw [Bool.true_and, decide_eq_false (fun q => by have := q3.mpr q; omega)]; rfl, rfl, (by intro q a b; refine (f3 q a).trans ?_; (try dsimp only); rw [up_n (by omega), up_n (by omega)]; exact f1 q a b), S3⟩
        · (try simp (disch := omega) only [i32_lti, i32_lei, i32_eqi, nI_toInt, i32z] at c_52)
          refine ev_aload_n (pc := 55) dX12_readTale_55 rfl ?_
          refine gf_X12_82 (pc := 56) rfl dX12_readTale_56 (by (try dsimp only); (repeat (first | rw [up_s] | rw [up_n (by omega)])) <;> first | rfl | assumption) ?_
          refine ev_aload_n (pc := 59) dX12_readTale_59 rfl ?_
          refine gf_X12_107 (pc := 60) rfl dX12_readTale_60 (by (try dsimp only); (repeat (first | rw [up_s] | rw [up_n (by omega)])) <;> first | rfl | assumption) ?_
          refine ev_icmp_lt (pc := 63) 68 dX12_readTale_63 (by decide) (fun c_63 => ?_) (fun c_63 => ?_)
          · (try simp (disch := omega) only [i32_lti, i32_lei, i32_eqi, nI_toInt, i32z] at c_63)
            refine ev_aload_n (pc := 68) dX12_readTale_68 rfl ?_
            refine gf_X12_16 (pc := 69) rfl dX12_readTale_69 (by (try dsimp only); (repeat (first | rw [up_s] | rw [up_n (by omega)])) <;> first | rfl | assumption) ?_
            refine ev_aload_n (pc := 72) dX12_readTale_72 rfl ?_
            refine gf_X12_107 (pc := 73) rfl dX12_readTale_73 (by (try dsimp only); (repeat (first | rw [up_s] | rw [up_n (by omega)])) <;> first | rfl | assumption) ?_
            refine ev_aload_n (pc := 76) dX12_readTale_76 rfl ?_
            refine gf_X12_82 (pc := 77) rfl dX12_readTale_77 (by (try dsimp only); (repeat (first | rw [up_s] | rw [up_n (by omega)])) <;> first | rfl | assumption) ?_
            refine ev_iast (pc := 80) dX12_readTale_80 (by (try dsimp only); (repeat (first | rw [up_s] | rw [up_n (by omega)])) <;> first | rfl | assumption) (nI_toInt (by omega)) (by rw [ar_len]; omega) ?_
            rw [ar_set (by omega)]
            refine ev_aload_n (pc := 81) dX12_readTale_81 rfl ?_
            refine ev_dup (pc := 82) dX12_readTale_82 rfl ?_
            refine gf_X12_107 (pc := 83) rfl dX12_readTale_83 (by (try dsimp only); (repeat (first | rw [up_s] | rw [up_n (by omega)])) <;> first | rfl | assumption) ?_
            refine ev_iconst (pc := 86) (v := nI 1) dX12_readTale_86 kc_1 ?_
            refine ev_iadd (pc := 87) dX12_readTale_87 ?_
            (try rw [nI_add])
            refine pf_X12_107 (pc := 88) rfl dX12_readTale_88 (by (try dsimp only); (repeat (first | rw [up_s] | rw [up_n (by omega)])) <;> first | rfl | assumption) ?_
            refine ev_aload_n (pc := 91) dX12_readTale_91 rfl ?_
            refine iv_X12_104 (pc := 92) rfl dX12_readTale_92 (by (try dsimp only); (repeat (first | rw [up_s] | rw [up_n (by omega)])) <;> first | rfl | assumption) (Nat.le_of_ble_eq_true rfl) (Nat.le_of_ble_eq_true rfl) (Nat.le_of_ble_eq_true rfl) (Nat.le_of_ble_eq_true rfl) (c_mNext (t := t2) (A := (aP A ++ [t1.2.1], aW A ++ [t2.2.1], aH A, aM A, aD A)) (tl := tl) (nt := nt) (me := me) (de := de) (lo := lo) (sa := sa) (un := un) (mn := mn) (bd := bd) (br := br) (he := he) (tr := tr) ⟨at_, nI t2.2.1, (by unfold pMO; dsimp only [aP, aH, aM, aD] at el ⊢; rw [el, kt]; exact (by (try dsimp only); (repeat (first | rw [up_s] | rw [up_n (by omega)])) <;> first | rfl | assumption)), s1, fun _ => rfl, s3, s4, s5, f, ru g (aP A).length (nI t2.2.1), k, (by (try dsimp only); (repeat (first | rw [up_s] | rw [up_n (by omega)])) <;> first | rfl | assumption), (by (try dsimp only); (repeat (first | rw [up_s] | rw [up_n (by omega)])) <;> first | rfl | assumption), (by (try dsimp only); (repeat (first | rw [up_s] | rw [up_n (by omega)])) <;> first | rfl | assumption), (by intro i hi; rw [gN_app (by rw [← el]; exact hi)]; by_cases q : i = (aP A).length; rw [if_pos q, q]; exact u3; rw [if_neg q]; exact u2 i (by have : i < (aP A ++ [t1.2.1]).length := hi; omega)), (by intro i hi; have hi2 : i < (aW A).length + 1 := (by have : i < (aW A ++ [t2.2.1]).length := hi; rw [List.length_append] at this; exact this); rw [gN_app hi2, g1]; by_cases q : i = (aP A).length; rw [if_pos q, q, ru_s]; rw [if_neg q, ru_n q]; exact b5 i (by omega)), b6⟩ (px1.fr (by (try dsimp only); rw [up_n (by omega), up_n (by omega)])) (by omega)) (kv (fun S' hS => ?_))
            obtain ⟨h3, z'⟩ := S'
            obtain ⟨rfl, f3, S3⟩ := hS
            obtain ⟨at3, td3, po3, r1, r2, r3, r4, r5, ab3⟩ := id S3
            unfold pMO at po3
            have q3 := mTk_3 (t := nxt cs t2.2.2.2)
            have q5 := mTk_lt r4
            refine ev_aload_n (pc := 95) dX12_readTale_95 rfl ?_
            refine gf_X12_92 (pc := 96) rfl dX12_readTale_96 (by (try dsimp only); (repeat (first | rw [up_s] | rw [up_n (by omega)])) <;> first | rfl | assumption) ?_
            refine ev_iconst (pc := 99) (v := nI 3) dX12_readTale_99 kc_3 ?_
            refine ev_icmp_ne (pc := 100) 107 dX12_readTale_100 (by decide) (fun c_100 => ?_) (fun c_100 => ?_)
            · (try simp (disch := omega) only [i32_lti, i32_lei, i32_eqi, nI_toInt, i32z] at c_100)
              refine ev_iconst (pc := 107) (v := nI 0) dX12_readTale_107 kc_0 ?_
              refine ev_iret (pc := 108) dX12_readTale_108 rfl rfl (Nat.le_of_ble_eq_true rfl) (Nat.le_of_ble_eq_true rfl) ?_
              first
              | exact ⟨_, rfl, by rw [Bool.true_and, decide_eq_true (q3.mp (by omega))]; rfl, rfl, (by intro q a b; refine (f3 q a).trans ?_; (try dsimp only); rw [up_n (by omega), up_n (by omega)]; exact f1 q a b), S3⟩
              | exact ⟨_, rfl, by rw [Bool.true_and, decide_eq_false (fun q => by have := q3.mpr q; omega)]; rfl, rfl, (by intro q a b; refine (f3 q a).trans ?_; (try dsimp only); rw [up_n (by omega), up_n (by omega)]; exact f1 q a b), S3⟩
            · (try simp (disch := omega) only [i32_lti, i32_lei, i32_eqi, nI_toInt, i32z] at c_100)
              refine ev_iconst (pc := 103) (v := nI 1) dX12_readTale_103 kc_1 ?_
              refine ev_goto (pc := 104) 108 dX12_readTale_104 (by decide) ?_
              refine ev_iret (pc := 108) dX12_readTale_108 rfl rfl (Nat.le_of_ble_eq_true rfl) (Nat.le_of_ble_eq_true rfl) ?_
              first
              | exact ⟨_, rfl, by rw [Bool.true_and, decide_eq_true (q3.mp (by omega))]; rfl, rfl, (by intro q a b; refine (f3 q a).trans ?_; (try dsimp only); rw [up_n (by omega), up_n (by omega)]; exact f1 q a b), S3⟩
              | exact ⟨_, rfl, by rw [Bool.true_and, decide_eq_false (fun q => by have := q3.mpr q; omega)]; rfl, rfl, (by intro q a b; refine (f3 q a).trans ?_; (try dsimp only); rw [up_n (by omega), up_n (by omega)]; exact f1 q a b), S3⟩
          · (try simp (disch := omega) only [i32_lti, i32_lei, i32_eqi, nI_toInt, i32z] at c_63)
            refine ev_iconst (pc := 66) (v := nI 0) dX12_readTale_66 kc_0 ?_
            refine ev_iret (pc := 67) dX12_readTale_67 rfl rfl (Nat.le_of_ble_eq_true rfl) (Nat.le_of_ble_eq_true rfl) ?_
            exfalso; omega
    · rw [if_neg hc] at ed
      rw [ed]
      have po2 := po
      unfold pMO at po2
      refine ev_aload_n (pc := 38) dX12_readTale_38 rfl ?_
      refine gf_X12_92 (pc := 39) rfl dX12_readTale_39 (by (try dsimp only); (repeat (first | rw [up_s] | rw [up_n (by omega)])) <;> first | rfl | assumption) ?_
      refine ev_iconst (pc := 42) (v := nI 2) dX12_readTale_42 kc_2 ?_
      refine ev_icmp_ne (pc := 43) 66 dX12_readTale_43 (by decide) (fun c_43 => ?_) (fun c_43 => ?_)
      · (try simp (disch := omega) only [i32_lti, i32_lei, i32_eqi, nI_toInt, i32z] at c_43)
        refine ev_iconst (pc := 66) (v := nI 0) dX12_readTale_66 kc_0 ?_
        refine ev_iret (pc := 67) dX12_readTale_67 rfl rfl (Nat.le_of_ble_eq_true rfl) (Nat.le_of_ble_eq_true rfl) ?_
        exact ⟨_, rfl, rfl, rfl, f1, S1⟩
      · (try simp (disch := omega) only [i32_lti, i32_lei, i32_eqi, nI_toInt, i32z] at c_43)
        have htd := s2 (Or.inr (by omega))
        have e2 := hk2.mp (by omega)
        subst htd
        refine ev_aload_n (pc := 46) dX12_readTale_46 rfl ?_
        refine gf_X12_82 (pc := 47) rfl dX12_readTale_47 (by (try dsimp only); (repeat (first | rw [up_s] | rw [up_n (by omega)])) <;> first | rfl | assumption) ?_
        refine ev_bipush (pc := 50) (v := nI 9) dX12_readTale_50 kb_9 ?_
        refine ev_icmp_eq (pc := 52) 68 dX12_readTale_52 (by decide) (fun c_52 => ?_) (fun c_52 => ?_)
        · exfalso; (try simp (disch := omega) only [i32_lti, i32_lei, i32_eqi, nI_toInt, i32z] at c_52); omega
        · (try simp (disch := omega) only [i32_lti, i32_lei, i32_eqi, nI_toInt, i32z] at c_52)
          refine ev_aload_n (pc := 55) dX12_readTale_55 rfl ?_
          refine gf_X12_82 (pc := 56) rfl dX12_readTale_56 (by (try dsimp only); (repeat (first | rw [up_s] | rw [up_n (by omega)])) <;> first | rfl | assumption) ?_
          refine ev_aload_n (pc := 59) dX12_readTale_59 rfl ?_
          refine gf_X12_107 (pc := 60) rfl dX12_readTale_60 (by (try dsimp only); (repeat (first | rw [up_s] | rw [up_n (by omega)])) <;> first | rfl | assumption) ?_
          refine ev_icmp_lt (pc := 63) 68 dX12_readTale_63 (by decide) (fun c_63 => ?_) (fun c_63 => ?_)
          · exfalso; (try simp (disch := omega) only [i32_lti, i32_lei, i32_eqi, nI_toInt, i32z] at c_63); omega
          · (try simp (disch := omega) only [i32_lti, i32_lei, i32_eqi, nI_toInt, i32z] at c_63)
            refine ev_iconst (pc := 66) (v := nI 0) dX12_readTale_66 kc_0 ?_
            refine ev_iret (pc := 67) dX12_readTale_67 rfl rfl (Nat.le_of_ble_eq_true rfl) (Nat.le_of_ble_eq_true rfl) ?_
            exact ⟨_, rfl, rfl, rfl, f1, S1⟩
  refine ev_aload_n (pc := 0) dX12_readTale_0 rfl ?_
  refine gf_X12_107 (pc := 1) rfl dX12_readTale_1 (by (try dsimp only); (repeat (first | rw [up_s] | rw [up_n (by omega)])) <;> first | rfl | assumption) ?_
  refine ev_bipush (pc := 4) (v := nI 6) dX12_readTale_4 kb_6 ?_
  refine ev_icmp_eq (pc := 6) 19 dX12_readTale_6 (by decide) (fun c_6 => ?_) (fun c_6 => ?_)
  · exfalso; (try simp (disch := omega) only [i32_lti, i32_lei, i32_eqi, nI_toInt, i32z] at c_6); omega
  · (try simp (disch := omega) only [i32_lti, i32_lei, i32_eqi, nI_toInt, i32z] at c_6)
    refine ev_aload_n (pc := 9) dX12_readTale_9 rfl ?_
    refine ev_iconst (pc := 10) (v := nI 1) dX12_readTale_10 kc_1 ?_
    refine ev_bipush (pc := 11) (v := nI 9) dX12_readTale_11 kb_9 ?_
    refine iv_X12_110 (pc := 13) rfl dX12_readTale_13 (by (try dsimp only); (repeat (first | rw [up_s] | rw [up_n (by omega)])) <;> first | rfl | assumption) (Nat.le_of_ble_eq_true rfl) (Nat.le_of_ble_eq_true rfl) (Nat.le_of_ble_eq_true rfl) (Nat.le_of_ble_eq_true rfl) (c_mNumber S px h4 (by omega) (by omega)) (ki (fun r S' hS => ?_))
    obtain ⟨h1, z'⟩ := S'
    obtain ⟨rfl, rfl, f1, S1⟩ := hS
    rw [ht1] at S1 ⊢
    rw [hn2]
    obtain ⟨at1, td1, po1, r1, r2, r3, r4, r5, f0, g, k, b1, b2, b3, b4, b5, b6⟩ := id S1
    have hr2 := r2 (Or.inr kk2)
    subst hr2
    unfold pMO at po1
    refine ev_if_ne (pc := 16) 21 dX12_readTale_16 (by decide) (fun c_16 => ?_) (fun c_16 => ?_)
    · (try simp (disch := omega) only [i32_lti, i32_lei, i32_eqi, nI_toInt, i32z] at c_16)
      refine ev_aload_n (pc := 21) dX12_readTale_21 rfl ?_
      refine gf_X12_13 (pc := 22) rfl dX12_readTale_22 (by (try dsimp only); (repeat (first | rw [up_s] | rw [up_n (by omega)])) <;> first | rfl | assumption) ?_
      refine ev_aload_n (pc := 25) dX12_readTale_25 rfl ?_
      refine gf_X12_107 (pc := 26) rfl dX12_readTale_26 (by (try dsimp only); (repeat (first | rw [up_s] | rw [up_n (by omega)])) <;> first | rfl | assumption) ?_
      refine ev_aload_n (pc := 29) dX12_readTale_29 rfl ?_
      refine gf_X12_82 (pc := 30) rfl dX12_readTale_30 (by (try dsimp only); (repeat (first | rw [up_s] | rw [up_n (by omega)])) <;> first | rfl | assumption) ?_
      refine ev_iast (pc := 33) dX12_readTale_33 (by (try dsimp only); (repeat (first | rw [up_s] | rw [up_n (by omega)])) <;> first | rfl | assumption) (nI_toInt (by omega)) (by rw [ar_len]; omega) ?_
      rw [ar_set (by omega)]
      refine ev_aload_n (pc := 34) dX12_readTale_34 rfl ?_
      refine iv_X12_104 (pc := 35) rfl dX12_readTale_35 (by (try dsimp only); (repeat (first | rw [up_s] | rw [up_n (by omega)])) <;> first | rfl | assumption) (Nat.le_of_ble_eq_true rfl) (Nat.le_of_ble_eq_true rfl) (Nat.le_of_ble_eq_true rfl) (Nat.le_of_ble_eq_true rfl) (c_mNext (t := t1) (A := A) (tl := tl) (nt := nt) (me := me) (de := de) (lo := lo) (sa := sa) (un := un) (mn := mn) (bd := bd) (br := br) (he := he) (tr := tr) ⟨at1, _, (by unfold pMO; exact (by (try dsimp only); (repeat (first | rw [up_s] | rw [up_n (by omega)])) <;> first | rfl | assumption)), r1, r2, r3, r4, r5, ru f0 (aP A).length (nI t1.2.1), g, k, (by (try dsimp only); (repeat (first | rw [up_s] | rw [up_n (by omega)])) <;> first | rfl | assumption), (by (try dsimp only); (repeat (first | rw [up_s] | rw [up_n (by omega)])) <;> first | rfl | assumption), (by (try dsimp only); (repeat (first | rw [up_s] | rw [up_n (by omega)])) <;> first | rfl | assumption), (by intro i hi; rw [ru_n (by omega)]; exact b4 i hi), b5, b6⟩ (px.fr (by (try dsimp only); rw [up_n (by omega)]; exact f1 _ (by omega))) k2) (kv (fun S' hS => ?_))
      obtain ⟨h2, z'⟩ := S'
      obtain ⟨rfl, f2, S2⟩ := hS
      rw [ht2] at S2
      exact fin h2 (by intro q a b; refine (f2 q a).trans ?_; (try dsimp only); rw [up_n (by omega)]; exact f1 q a) S2 ⟨ru f0 (aP A).length (nI t1.2.1), (by refine (f2 _ (by omega)).trans ?_; exact (by (try dsimp only); (repeat (first | rw [up_s] | rw [up_n (by omega)])) <;> first | rfl | assumption)), (by intro i hi; rw [ru_n (by omega)]; exact b4 i hi), ru_s⟩
    · exact absurd c_16 (by decide)
theorem c_mReadNights (S : mSt h m cs t A tl nt me de lo sa un mn bd br he tr) (px : mTx h m cs) (h4 : mTk t ≠ 4) (w : wA A) : Ct X 5 mt_X12_readNights [.ref m] (h, z) 0 0 (Qi (fun r S' => r = b2i ((pNights cs t A).2.2 && decide ((pNights cs t A).1.1 = 3)) ∧ S'.2 = z ∧ mFr h S'.1 m ∧ mSt S'.1 m cs (pNights cs t A).1 (pNights cs t A).2.1 tl nt me de lo sa un mn bd br he tr)) := by
  obtain ⟨w1, w2, w3, w4⟩ := id w
  obtain ⟨at_, td, po, s1, s2, s3, s4, s5, ab⟩ := id S
  unfold pMO at po
  refine mk_X12_readNights (Nat.le_of_ble_eq_true rfl) (L := [.ref m]) rfl ?_
  by_cases h0 : 0 < (aH A).length
  · have e : pNights cs t A = (t, A, false) := by unfold pNights; rw [if_pos h0]
    rw [e]
    refine ev_aload_n (pc := 0) dX12_readNights_0 rfl ?_
    refine gf_X12_114 (pc := 1) rfl dX12_readNights_1 (by (try dsimp only); (repeat (first | rw [up_s] | rw [up_n (by omega)])) <;> first | rfl | assumption) ?_
    refine ev_if_gt (pc := 4) 17 dX12_readNights_4 (by decide) (fun c_4 => ?_) (fun c_4 => ?_)
    · (try simp (disch := omega) only [i32_lti, i32_lei, i32_eqi, nI_toInt, i32z] at c_4)
      refine ev_iconst (pc := 17) (v := nI 0) dX12_readNights_17 kc_0 ?_
      refine ev_iret (pc := 18) dX12_readNights_18 rfl rfl (Nat.le_of_ble_eq_true rfl) (Nat.le_of_ble_eq_true rfl) ?_
      exact ⟨_, rfl, rfl, rfl, fun _ _ _ => rfl, S⟩
    · exfalso; (try simp (disch := omega) only [i32_lti, i32_lei, i32_eqi, nI_toInt, i32z] at c_4); omega
  have ed : pNights cs t A = ((pNl cs 8 (nxt cs t.2.2.2) A).1, (pNl cs 8 (nxt cs t.2.2.2) A).2, decide (0 < (aH (pNl cs 8 (nxt cs t.2.2.2) A).2).length)) := by unfold pNights; rw [if_neg h0]
  by_cases hn : num (nxt cs t.2.2.2) 1 9 = false
  · have e : pNl cs 8 (nxt cs t.2.2.2) A = (nxt cs t.2.2.2, A) := by unfold pNl; rw [if_neg (by rw [hn]; decide)]
    rw [ed, e]
    refine ev_aload_n (pc := 0) dX12_readNights_0 rfl ?_
    refine gf_X12_114 (pc := 1) rfl dX12_readNights_1 (by (try dsimp only); (repeat (first | rw [up_s] | rw [up_n (by omega)])) <;> first | rfl | assumption) ?_
    refine ev_if_gt (pc := 4) 17 dX12_readNights_4 (by decide) (fun c_4 => ?_) (fun c_4 => ?_)
    · exfalso; (try simp (disch := omega) only [i32_lti, i32_lei, i32_eqi, nI_toInt, i32z] at c_4); omega
    · (try simp (disch := omega) only [i32_lti, i32_lei, i32_eqi, nI_toInt, i32z] at c_4)
      refine ev_aload_n (pc := 7) dX12_readNights_7 rfl ?_
      refine ev_iconst (pc := 8) (v := nI 1) dX12_readNights_8 kc_1 ?_
      refine ev_bipush (pc := 9) (v := nI 9) dX12_readNights_9 kb_9 ?_
      refine iv_X12_110 (pc := 11) rfl dX12_readNights_11 (by (try dsimp only); (repeat (first | rw [up_s] | rw [up_n (by omega)])) <;> first | rfl | assumption) (Nat.le_of_ble_eq_true rfl) (Nat.le_of_ble_eq_true rfl) (Nat.le_of_ble_eq_true rfl) (Nat.le_of_ble_eq_true rfl) (c_mNumber S px h4 (by omega) (by omega)) (ki (fun r S' hS => ?_))
      obtain ⟨h1, z'⟩ := S'
      obtain ⟨rfl, rfl, f1, S1⟩ := hS
      rw [hn]
      refine ev_if_ne (pc := 14) 19 dX12_readNights_14 (by decide) (fun c_14 => ?_) (fun c_14 => ?_)
      · exact absurd rfl c_14
      · (try simp (disch := omega) only [i32_lti, i32_lei, i32_eqi, nI_toInt, i32z] at c_14)
        refine ev_iconst (pc := 17) (v := nI 0) dX12_readNights_17 kc_0 ?_
        refine ev_iret (pc := 18) dX12_readNights_18 rfl rfl (Nat.le_of_ble_eq_true rfl) (Nat.le_of_ble_eq_true rfl) ?_
        exact ⟨_, rfl, by rw [decide_eq_false h0]; rfl, rfl, fun q a b => f1 q a, S1⟩
  have hn2 : num (nxt cs t.2.2.2) 1 9 = true := by simpa using hn
  have loop : ∀ (n : Nat) (t1 : Tk) (A1 : Ab) (h1 : Hp), (aH A1).length + n = 8 → pNl cs 8 (nxt cs t.2.2.2) A = pNl cs n t1 A1 → mFr h h1 m → mSt h1 m cs t1 A1 tl nt me de lo sa un mn bd br he tr → (num t1 1 9 = true ∨ 0 < (aH A1).length) → Ev X (mi_X12_readNights 5 0 0) (Qi (fun r S' => r = b2i ((pNights cs t A).2.2 && decide ((pNights cs t A).1.1 = 3)) ∧ S'.2 = z ∧ mFr h S'.1 m ∧ mSt S'.1 m cs (pNights cs t A).1 (pNights cs t A).2.1 tl nt me de lo sa un mn bd br he tr)) 0 0 (h1, z) 19 [.ref m] [] := by
    intro n
    induction n with
    | zero =>
      intro t1 A1 h1 hl he1 f1 S1 hd
      have e : pNl cs 0 t1 A1 = (t1, A1) := rfl
      rw [ed, he1, e]
      obtain ⟨at1, td1, po1, r1, r2, r3, r4, r5, ab1⟩ := id S1
      unfold pMO at po1
      have k2 := mTk_2 (t := t1)
      have k3 := mTk_3 (t := t1)
      have k5 := mTk_lt r4
      refine ev_aload_n (pc := 19) dX12_readNights_19 rfl ?_
      refine gf_X12_92 (pc := 20) rfl dX12_readNights_20 (by (try dsimp only); (repeat (first | rw [up_s] | rw [up_n (by omega)])) <;> first | rfl | assumption) ?_
      refine ev_iconst (pc := 23) (v := nI 2) dX12_readNights_23 kc_2 ?_
      refine ev_icmp_ne (pc := 24) 83 dX12_readNights_24 (by decide) (fun c_24 => ?_) (fun c_24 => ?_)
      · (try simp (disch := omega) only [i32_lti, i32_lei, i32_eqi, nI_toInt, i32z] at c_24)
        refine ev_aload_n (pc := 83) dX12_readNights_83 rfl ?_
        refine gf_X12_92 (pc := 84) rfl dX12_readNights_84 (by (try dsimp only); (repeat (first | rw [up_s] | rw [up_n (by omega)])) <;> first | rfl | assumption) ?_
        refine ev_iconst (pc := 87) (v := nI 3) dX12_readNights_87 kc_3 ?_
        refine ev_icmp_ne (pc := 88) 95 dX12_readNights_88 (by decide) (fun c_88 => ?_) (fun c_88 => ?_)
        · (try simp (disch := omega) only [i32_lti, i32_lei, i32_eqi, nI_toInt, i32z] at c_88)
          refine ev_iconst (pc := 95) (v := nI 0) dX12_readNights_95 kc_0 ?_
          refine ev_iret (pc := 96) dX12_readNights_96 rfl rfl (Nat.le_of_ble_eq_true rfl) (Nat.le_of_ble_eq_true rfl) ?_
          first
          | exact ⟨_, rfl, by rw [decide_eq_true (show 0 < (aH A1).length by omega), decide_eq_true (k3.mp (by omega))]; rfl, rfl, f1, S1⟩
          | exact ⟨_, rfl, by rw [decide_eq_false (show ¬ t1.1 = 3 by omega), Bool.and_false]; rfl, rfl, f1, S1⟩
        · (try simp (disch := omega) only [i32_lti, i32_lei, i32_eqi, nI_toInt, i32z] at c_88)
          refine ev_iconst (pc := 91) (v := nI 1) dX12_readNights_91 kc_1 ?_
          refine ev_goto (pc := 92) 96 dX12_readNights_92 (by decide) ?_
          refine ev_iret (pc := 96) dX12_readNights_96 rfl rfl (Nat.le_of_ble_eq_true rfl) (Nat.le_of_ble_eq_true rfl) ?_
          first
          | exact ⟨_, rfl, by rw [decide_eq_true (show 0 < (aH A1).length by omega), decide_eq_true (k3.mp (by omega))]; rfl, rfl, f1, S1⟩
          | exact ⟨_, rfl, by rw [decide_eq_false (show ¬ t1.1 = 3 by omega), Bool.and_false]; rfl, rfl, f1, S1⟩
      · (try simp (disch := omega) only [i32_lti, i32_lei, i32_eqi, nI_toInt, i32z] at c_24)
        refine ev_aload_n (pc := 27) dX12_readNights_27 rfl ?_
        refine gf_X12_114 (pc := 28) rfl dX12_readNights_28 (by (try dsimp only); (repeat (first | rw [up_s] | rw [up_n (by omega)])) <;> first | rfl | assumption) ?_
        refine ev_bipush (pc := 31) (v := nI 8) dX12_readNights_31 kb_8 ?_
        refine ev_icmp_eq (pc := 33) 51 dX12_readNights_33 (by decide) (fun c_33 => ?_) (fun c_33 => ?_)
        · (try simp (disch := omega) only [i32_lti, i32_lei, i32_eqi, nI_toInt, i32z] at c_33)
          refine ev_iconst (pc := 51) (v := nI 0) dX12_readNights_51 kc_0 ?_
          refine ev_iret (pc := 52) dX12_readNights_52 rfl rfl (Nat.le_of_ble_eq_true rfl) (Nat.le_of_ble_eq_true rfl) ?_
          exact ⟨_, rfl, by rw [decide_eq_false (show ¬ t1.1 = 3 by omega), Bool.and_false]; rfl, rfl, f1, S1⟩
        · exfalso; (try simp (disch := omega) only [i32_lti, i32_lei, i32_eqi, nI_toInt, i32z] at c_33); omega
    | succ n ih =>
      intro t1 A1 h1 hl he1 f1 S1 hd
      obtain ⟨at1, td1, po1, r1, r2, r3, r4, r5, f0, g, k, b1, b2, b3, b4, b5, b6⟩ := id S1
      have k2 := mTk_2 (t := t1)
      have k3 := mTk_3 (t := t1)
      have k5 := mTk_lt r4
      have px1 : mTx h1 m cs := px.fr (f1 _ (by omega) (by omega))
      cases hb : num t1 1 9 with
      | false =>
        have e : pNl cs (n + 1) t1 A1 = (t1, A1) := by unfold pNl; rw [if_neg (by rw [hb]; decide)]
        have hpos : 0 < (aH A1).length := by
          rcases hd with q | q
          · rw [hb] at q; cases q
          · exact q
        rw [ed, he1, e]
        unfold pMO at po1
        refine ev_aload_n (pc := 19) dX12_readNights_19 rfl ?_
        refine gf_X12_92 (pc := 20) rfl dX12_readNights_20 (by (try dsimp only); (repeat (first | rw [up_s] | rw [up_n (by omega)])) <;> first | rfl | assumption) ?_
        refine ev_iconst (pc := 23) (v := nI 2) dX12_readNights_23 kc_2 ?_
        refine ev_icmp_ne (pc := 24) 83 dX12_readNights_24 (by decide) (fun c_24 => ?_) (fun c_24 => ?_)
        · (try simp (disch := omega) only [i32_lti, i32_lei, i32_eqi, nI_toInt, i32z] at c_24)
          refine ev_aload_n (pc := 83) dX12_readNights_83 rfl ?_
          refine gf_X12_92 (pc := 84) rfl dX12_readNights_84 (by (try dsimp only); (repeat (first | rw [up_s] | rw [up_n (by omega)])) <;> first | rfl | assumption) ?_
          refine ev_iconst (pc := 87) (v := nI 3) dX12_readNights_87 kc_3 ?_
          refine ev_icmp_ne (pc := 88) 95 dX12_readNights_88 (by decide) (fun c_88 => ?_) (fun c_88 => ?_)
          · (try simp (disch := omega) only [i32_lti, i32_lei, i32_eqi, nI_toInt, i32z] at c_88)
            refine ev_iconst (pc := 95) (v := nI 0) dX12_readNights_95 kc_0 ?_
            refine ev_iret (pc := 96) dX12_readNights_96 rfl rfl (Nat.le_of_ble_eq_true rfl) (Nat.le_of_ble_eq_true rfl) ?_
            first
            | exact ⟨_, rfl, by rw [decide_eq_true (show 0 < (aH A1).length by omega), decide_eq_true (k3.mp (by omega))]; rfl, rfl, f1, S1⟩
            | exact ⟨_, rfl, by rw [decide_eq_false (show ¬ t1.1 = 3 by omega), Bool.and_false]; rfl, rfl, f1, S1⟩
          · (try simp (disch := omega) only [i32_lti, i32_lei, i32_eqi, nI_toInt, i32z] at c_88)
            refine ev_iconst (pc := 91) (v := nI 1) dX12_readNights_91 kc_1 ?_
            refine ev_goto (pc := 92) 96 dX12_readNights_92 (by decide) ?_
            refine ev_iret (pc := 96) dX12_readNights_96 rfl rfl (Nat.le_of_ble_eq_true rfl) (Nat.le_of_ble_eq_true rfl) ?_
            first
            | exact ⟨_, rfl, by rw [decide_eq_true (show 0 < (aH A1).length by omega), decide_eq_true (k3.mp (by omega))]; rfl, rfl, f1, S1⟩
            | exact ⟨_, rfl, by rw [decide_eq_false (show ¬ t1.1 = 3 by omega), Bool.and_false]; rfl, rfl, f1, S1⟩
        · (try simp (disch := omega) only [i32_lti, i32_lei, i32_eqi, nI_toInt, i32z] at c_24)
          have htd := r2 (Or.inr (by omega))
          subst htd
          have e2 := k2.mp (by omega)
          refine ev_aload_n (pc := 27) dX12_readNights_27 rfl ?_
          refine gf_X12_114 (pc := 28) rfl dX12_readNights_28 (by (try dsimp only); (repeat (first | rw [up_s] | rw [up_n (by omega)])) <;> first | rfl | assumption) ?_
          refine ev_bipush (pc := 31) (v := nI 8) dX12_readNights_31 kb_8 ?_
          refine ev_icmp_eq (pc := 33) 51 dX12_readNights_33 (by decide) (fun c_33 => ?_) (fun c_33 => ?_)
          · exfalso; (try simp (disch := omega) only [i32_lti, i32_lei, i32_eqi, nI_toInt, i32z] at c_33); omega
          · (try simp (disch := omega) only [i32_lti, i32_lei, i32_eqi, nI_toInt, i32z] at c_33)
            refine ev_aload_n (pc := 36) dX12_readNights_36 rfl ?_
            refine gf_X12_82 (pc := 37) rfl dX12_readNights_37 (by (try dsimp only); (repeat (first | rw [up_s] | rw [up_n (by omega)])) <;> first | rfl | assumption) ?_
            refine ev_i2l (pc := 40) dX12_readNights_40 ?_
            refine ev_lconst (pc := 41) (v := 1) dX12_readNights_41 kl_1 ?_
            refine ev_ldc2_w (pc := 42) dX12_readNights_42 tw_1018 ?_
            refine iv_X12_63 (pc := 45) rfl dX12_readNights_45 (Nat.le_of_ble_eq_true rfl) (Nat.le_of_ble_eq_true rfl) (Nat.le_of_ble_eq_true rfl) (Nat.le_of_ble_eq_true rfl) (c_in _ _ _) (kp ?_)
            rw [show decide ((1 : Int64).toInt ≤ (nI t1.2.1).toInt64.toInt ∧ (nI t1.2.1).toInt64.toInt ≤ (9 : Int64).toInt) = false by rw [← hb]; unfold num; rw [Int32.toInt_toInt64, nI_toInt (by omega)]; apply decide_eq_decide.mpr; exact ⟨fun q => ⟨e2, by have q1 : (1 : Int) ≤ (t1.2.1 : Int) := q.1; omega, by have q1 : (t1.2.1 : Int) ≤ 9 := q.2; omega⟩, fun q => ⟨by show (1 : Int) ≤ (t1.2.1 : Int); omega, by show (t1.2.1 : Int) ≤ 9; omega⟩⟩]
            refine ev_if_ne (pc := 48) 53 dX12_readNights_48 (by decide) (fun c_48 => ?_) (fun c_48 => ?_)
            · exact absurd rfl c_48
            · (try simp (disch := omega) only [i32_lti, i32_lei, i32_eqi, nI_toInt, i32z] at c_48)
              refine ev_iconst (pc := 51) (v := nI 0) dX12_readNights_51 kc_0 ?_
              refine ev_iret (pc := 52) dX12_readNights_52 rfl rfl (Nat.le_of_ble_eq_true rfl) (Nat.le_of_ble_eq_true rfl) ?_
              exact ⟨_, rfl, by rw [decide_eq_false (show ¬ t1.1 = 3 by omega), Bool.and_false]; rfl, rfl, f1, S1⟩
      | true =>
        have hv := num_v hb
        have kt := k2.mpr hv.1
        have htd := r2 (Or.inr kt)
        subst htd
        have e : pNl cs (n + 1) t1 A1 = pNl cs n (nxt cs t1.2.2.2) (aP A1, aW A1, aH A1 ++ [t1.2.1], aM A1, aD A1) := by
          show (if num t1 1 9 = true then _ else _) = _
          rw [if_pos hb]
        have el : (aH A1 ++ [t1.2.1]).length = (aH A1).length + 1 := by simp
        unfold pMO at po1
        refine ev_aload_n (pc := 19) dX12_readNights_19 rfl ?_
        refine gf_X12_92 (pc := 20) rfl dX12_readNights_20 (by (try dsimp only); (repeat (first | rw [up_s] | rw [up_n (by omega)])) <;> first | rfl | assumption) ?_
        refine ev_iconst (pc := 23) (v := nI 2) dX12_readNights_23 kc_2 ?_
        refine ev_icmp_ne (pc := 24) 83 dX12_readNights_24 (by decide) (fun c_24 => ?_) (fun c_24 => ?_)
        · exfalso; (try simp (disch := omega) only [i32_lti, i32_lei, i32_eqi, nI_toInt, i32z] at c_24); omega
        · (try simp (disch := omega) only [i32_lti, i32_lei, i32_eqi, nI_toInt, i32z] at c_24)
          refine ev_aload_n (pc := 27) dX12_readNights_27 rfl ?_
          refine gf_X12_114 (pc := 28) rfl dX12_readNights_28 (by (try dsimp only); (repeat (first | rw [up_s] | rw [up_n (by omega)])) <;> first | rfl | assumption) ?_
          refine ev_bipush (pc := 31) (v := nI 8) dX12_readNights_31 kb_8 ?_
          refine ev_icmp_eq (pc := 33) 51 dX12_readNights_33 (by decide) (fun c_33 => ?_) (fun c_33 => ?_)
          · exfalso; (try simp (disch := omega) only [i32_lti, i32_lei, i32_eqi, nI_toInt, i32z] at c_33); omega
          · (try simp (disch := omega) only [i32_lti, i32_lei, i32_eqi, nI_toInt, i32z] at c_33)
            refine ev_aload_n (pc := 36) dX12_readNights_36 rfl ?_
            refine gf_X12_82 (pc := 37) rfl dX12_readNights_37 (by (try dsimp only); (repeat (first | rw [up_s] | rw [up_n (by omega)])) <;> first | rfl | assumption) ?_
            refine ev_i2l (pc := 40) dX12_readNights_40 ?_
            refine ev_lconst (pc := 41) (v := 1) dX12_readNights_41 kl_1 ?_
            refine ev_ldc2_w (pc := 42) dX12_readNights_42 tw_1018 ?_
            refine iv_X12_63 (pc := 45) rfl dX12_readNights_45 (Nat.le_of_ble_eq_true rfl) (Nat.le_of_ble_eq_true rfl) (Nat.le_of_ble_eq_true rfl) (Nat.le_of_ble_eq_true rfl) (c_in _ _ _) (kp ?_)
            rw [show decide ((1 : Int64).toInt ≤ (nI t1.2.1).toInt64.toInt ∧ (nI t1.2.1).toInt64.toInt ≤ (9 : Int64).toInt) = true by rw [Int32.toInt_toInt64, nI_toInt (by omega)]; apply decide_eq_true; exact ⟨by show (1 : Int) ≤ (t1.2.1 : Int); omega, by show (t1.2.1 : Int) ≤ 9; omega⟩]
            refine ev_if_ne (pc := 48) 53 dX12_readNights_48 (by decide) (fun c_48 => ?_) (fun c_48 => ?_)
            · (try simp (disch := omega) only [i32_lti, i32_lei, i32_eqi, nI_toInt, i32z] at c_48)
              refine ev_aload_n (pc := 53) dX12_readNights_53 rfl ?_
              refine gf_X12_19 (pc := 54) rfl dX12_readNights_54 (by (try dsimp only); (repeat (first | rw [up_s] | rw [up_n (by omega)])) <;> first | rfl | assumption) ?_
              refine ev_aload_n (pc := 57) dX12_readNights_57 rfl ?_
              refine gf_X12_114 (pc := 58) rfl dX12_readNights_58 (by (try dsimp only); (repeat (first | rw [up_s] | rw [up_n (by omega)])) <;> first | rfl | assumption) ?_
              refine ev_aload_n (pc := 61) dX12_readNights_61 rfl ?_
              refine gf_X12_82 (pc := 62) rfl dX12_readNights_62 (by (try dsimp only); (repeat (first | rw [up_s] | rw [up_n (by omega)])) <;> first | rfl | assumption) ?_
              refine ev_iast (pc := 65) dX12_readNights_65 (by (try dsimp only); (repeat (first | rw [up_s] | rw [up_n (by omega)])) <;> first | rfl | assumption) (nI_toInt (by omega)) (by rw [ar_len]; omega) ?_
              rw [ar_set (by omega)]
              refine ev_aload_n (pc := 66) dX12_readNights_66 rfl ?_
              refine ev_dup (pc := 67) dX12_readNights_67 rfl ?_
              refine gf_X12_114 (pc := 68) rfl dX12_readNights_68 (by (try dsimp only); (repeat (first | rw [up_s] | rw [up_n (by omega)])) <;> first | rfl | assumption) ?_
              refine ev_iconst (pc := 71) (v := nI 1) dX12_readNights_71 kc_1 ?_
              refine ev_iadd (pc := 72) dX12_readNights_72 ?_
              (try rw [nI_add])
              refine pf_X12_114 (pc := 73) rfl dX12_readNights_73 (by (try dsimp only); (repeat (first | rw [up_s] | rw [up_n (by omega)])) <;> first | rfl | assumption) ?_
              refine ev_aload_n (pc := 76) dX12_readNights_76 rfl ?_
              refine iv_X12_104 (pc := 77) rfl dX12_readNights_77 (by (try dsimp only); (repeat (first | rw [up_s] | rw [up_n (by omega)])) <;> first | rfl | assumption) (Nat.le_of_ble_eq_true rfl) (Nat.le_of_ble_eq_true rfl) (Nat.le_of_ble_eq_true rfl) (Nat.le_of_ble_eq_true rfl) (c_mNext (t := t1) (A := (aP A1, aW A1, aH A1 ++ [t1.2.1], aM A1, aD A1)) (tl := tl) (nt := nt) (me := me) (de := de) (lo := lo) (sa := sa) (un := un) (mn := mn) (bd := bd) (br := br) (he := he) (tr := tr) ⟨at1, nI t1.2.1, (by unfold pMO; dsimp only [aP, aH, aM, aD] at el ⊢; rw [el]; exact (by (try dsimp only); (repeat (first | rw [up_s] | rw [up_n (by omega)])) <;> first | rfl | assumption)), r1, fun _ => rfl, r3, r4, r5, f0, g, ru k (aH A1).length (nI t1.2.1), (by (try dsimp only); (repeat (first | rw [up_s] | rw [up_n (by omega)])) <;> first | rfl | assumption), (by (try dsimp only); (repeat (first | rw [up_s] | rw [up_n (by omega)])) <;> first | rfl | assumption), (by (try dsimp only); (repeat (first | rw [up_s] | rw [up_n (by omega)])) <;> first | rfl | assumption), b4, b5, (by intro i hi; have hi2 : i < (aH A1).length + 1 := (by rw [← el]; exact hi); rw [gN_app hi2]; by_cases q : i = (aH A1).length; rw [if_pos q, q, ru_s]; rw [if_neg q, ru_n q]; exact b6 i (by omega))⟩ (px1.fr (by (try dsimp only); rw [up_n (by omega), up_n (by omega)])) (by omega)) (kv (fun S' hS => ?_))
              obtain ⟨h3, z'⟩ := S'
              obtain ⟨rfl, f3, S3⟩ := hS
              refine ev_goto (pc := 80) 19 dX12_readNights_80 (by decide) ?_
              exact ih _ _ h3 (by rw [show (aH (aP A1, aW A1, aH A1 ++ [t1.2.1], aM A1, aD A1)).length = (aH A1).length + 1 from el]; omega) (he1.trans e) (by intro q a b; refine (f3 q a).trans ?_; (try dsimp only); rw [up_n (by omega), up_n (by omega)]; exact f1 q a b) S3 (Or.inr (by rw [show (aH (aP A1, aW A1, aH A1 ++ [t1.2.1], aM A1, aD A1)).length = (aH A1).length + 1 from el]; omega))
            · exact absurd c_48 (by decide)
  refine ev_aload_n (pc := 0) dX12_readNights_0 rfl ?_
  refine gf_X12_114 (pc := 1) rfl dX12_readNights_1 (by (try dsimp only); (repeat (first | rw [up_s] | rw [up_n (by omega)])) <;> first | rfl | assumption) ?_
  refine ev_if_gt (pc := 4) 17 dX12_readNights_4 (by decide) (fun c_4 => ?_) (fun c_4 => ?_)
  · exfalso; (try simp (disch := omega) only [i32_lti, i32_lei, i32_eqi, nI_toInt, i32z] at c_4); omega
  · (try simp (disch := omega) only [i32_lti, i32_lei, i32_eqi, nI_toInt, i32z] at c_4)
    refine ev_aload_n (pc := 7) dX12_readNights_7 rfl ?_
    refine ev_iconst (pc := 8) (v := nI 1) dX12_readNights_8 kc_1 ?_
    refine ev_bipush (pc := 9) (v := nI 9) dX12_readNights_9 kb_9 ?_
    refine iv_X12_110 (pc := 11) rfl dX12_readNights_11 (by (try dsimp only); (repeat (first | rw [up_s] | rw [up_n (by omega)])) <;> first | rfl | assumption) (Nat.le_of_ble_eq_true rfl) (Nat.le_of_ble_eq_true rfl) (Nat.le_of_ble_eq_true rfl) (Nat.le_of_ble_eq_true rfl) (c_mNumber S px h4 (by omega) (by omega)) (ki (fun r S' hS => ?_))
    obtain ⟨h1, z'⟩ := S'
    obtain ⟨rfl, rfl, f1, S1⟩ := hS
    rw [hn2]
    refine ev_if_ne (pc := 14) 19 dX12_readNights_14 (by decide) (fun c_14 => ?_) (fun c_14 => ?_)
    · (try simp (disch := omega) only [i32_lti, i32_lei, i32_eqi, nI_toInt, i32z] at c_14)
      exact loop 8 _ A h1 (by omega) rfl (fun q a b => f1 q a) S1 (Or.inl hn2)
    · exact absurd c_14 (by decide)
theorem c_mReadItem (S : mSt h m cs t A tl nt me de lo sa un mn bd br he tr) (px : mTx h m cs) (w : wA A) (g1 : (aW A).length = (aP A).length) : Ct X 6 mt_X12_readItem [.ref m] (h, z) 0 0 (Qi (fun r S' => r = b2i (pItem cs t A).2.2 ∧ S'.2 = z ∧ mFr h S'.1 m ∧ mSt S'.1 m cs (pItem cs t A).1 (pItem cs t A).2.1 tl nt me de lo sa un mn bd br he tr)) := by
  obtain ⟨w1, w2, w3, w4⟩ := id w
  obtain ⟨at_, td, po, s1, s2, s3, s4, s5, ab⟩ := id S
  have k1 := mTk_1 (t := t)
  have k5 := mTk_lt s4
  unfold pMO at po
  refine mk_X12_readItem (Nat.le_of_ble_eq_true rfl) (L := [.ref m, .retAddr 0]) rfl ?_
  by_cases h1 : mTk t = 1
  · obtain ⟨e1, ev⟩ := k1.mp h1
    have htd := s2 (Or.inl h1)
    subst htd
    have ei : pItem cs t A = ((pWhat cs t A).1, (pWhat cs t A).2.1, (pWhat cs t A).2.2 && decide ((pWhat cs t A).1.1 = 3)) := by unfold pItem; rw [if_neg (by omega)]
    rw [ei]
    have tail : ∀ (t1 : Tk) (A1 : Ab) (h1 : Hp) (at1 td1 : Int32) (rm1 rd1 : Nat), mFr h h1 m → mTx h1 m cs → mSt h1 m cs t1 A1 tl nt me de lo sa un mn bd br he tr → mTk t1 = 2 → pWhat cs t A = (nxt cs t1.2.2.2, A1, true) → Ev X (mi_X12_readItem 6 0 0) (Qi (fun r S' => r = b2i ((pWhat cs t A).2.2 && decide ((pWhat cs t A).1.1 = 3)) ∧ S'.2 = z ∧ mFr h S'.1 m ∧ mSt S'.1 m cs (pWhat cs t A).1 (pWhat cs t A).2.1 tl nt me de lo sa un mn bd br he tr)) 0 0 (h1, z) 100 [.ref m, .int (nI t.2.1)] [] := by
      intro t1 A1 h1 at1 td1 rm1 rd1 f1 px1 S1 kt ew
      rw [ew]
      obtain ⟨at1, td1, po1, r1, r2, r3, r4, r5, ab1⟩ := id S1
      unfold pMO at po1
      refine ev_aload_n (pc := 100) dX12_readItem_100 rfl ?_
      refine iv_X12_104 (pc := 101) rfl dX12_readItem_101 (by (try dsimp only); (repeat (first | rw [up_s] | rw [up_n (by omega)])) <;> first | rfl | assumption) (Nat.le_of_ble_eq_true rfl) (Nat.le_of_ble_eq_true rfl) (Nat.le_of_ble_eq_true rfl) (Nat.le_of_ble_eq_true rfl) (c_mNext S1 px1 (by omega)) (kv (fun S' hS => ?_))
      obtain ⟨h3, z'⟩ := S'
      obtain ⟨rfl, f3, S3⟩ := hS
      obtain ⟨at3, td3, po3, u1, u2, u3, u4, u5, ab3⟩ := id S3
      unfold pMO at po3
      have q3 := mTk_3 (t := nxt cs t1.2.2.2)
      have q5 := mTk_lt u4
      refine ev_aload_n (pc := 104) dX12_readItem_104 rfl ?_
      refine gf_X12_92 (pc := 105) rfl dX12_readItem_105 (by (try dsimp only); (repeat (first | rw [up_s] | rw [up_n (by omega)])) <;> first | rfl | assumption) ?_
      refine ev_iconst (pc := 108) (v := nI 3) dX12_readItem_108 kc_3 ?_
      refine ev_icmp_ne (pc := 109) 116 dX12_readItem_109 (by decide) (fun c_109 => ?_) (fun c_109 => ?_)
      · (try simp (disch := omega) only [i32_lti, i32_lei, i32_eqi, nI_toInt, i32z] at c_109)
        refine ev_iconst (pc := 116) (v := nI 0) dX12_readItem_116 kc_0 ?_
        refine ev_iret (pc := 117) dX12_readItem_117 rfl rfl (Nat.le_of_ble_eq_true rfl) (Nat.le_of_ble_eq_true rfl) ?_
        first
        | exact ⟨_, rfl, by rw [Bool.true_and, decide_eq_true (q3.mp (by omega))]; rfl, rfl, (fun q a b => (f3 q a).trans (f1 q a b)), S3⟩
        | exact ⟨_, rfl, by rw [Bool.true_and, decide_eq_false (fun q => by have := q3.mpr q; omega)]; rfl, rfl, (fun q a b => (f3 q a).trans (f1 q a b)), S3⟩
      · (try simp (disch := omega) only [i32_lti, i32_lei, i32_eqi, nI_toInt, i32z] at c_109)
        refine ev_iconst (pc := 112) (v := nI 1) dX12_readItem_112 kc_1 ?_
        refine ev_goto (pc := 113) 117 dX12_readItem_113 (by decide) ?_
        refine ev_iret (pc := 117) dX12_readItem_117 rfl rfl (Nat.le_of_ble_eq_true rfl) (Nat.le_of_ble_eq_true rfl) ?_
        first
        | exact ⟨_, rfl, by rw [Bool.true_and, decide_eq_true (q3.mp (by omega))]; rfl, rfl, (fun q a b => (f3 q a).trans (f1 q a b)), S3⟩
        | exact ⟨_, rfl, by rw [Bool.true_and, decide_eq_false (fun q => by have := q3.mpr q; omega)]; rfl, rfl, (fun q a b => (f3 q a).trans (f1 q a b)), S3⟩
    by_cases c1 : t.2.1 = 116
    · have ew : pWhat cs t A = pTale cs t A := by unfold pWhat; rw [if_pos c1]
      rw [ew]
      refine ev_aload_n (pc := 0) dX12_readItem_0 rfl ?_
      refine gf_X12_82 (pc := 1) rfl dX12_readItem_1 (by (try dsimp only); (repeat (first | rw [up_s] | rw [up_n (by omega)])) <;> first | rfl | assumption) ?_
      refine ev_istore_n (pc := 4) (L' := [_, _]) dX12_readItem_4 (Nat.le_of_ble_eq_true rfl) rfl ?_
      refine ev_aload_n (pc := 5) dX12_readItem_5 rfl ?_
      refine gf_X12_92 (pc := 6) rfl dX12_readItem_6 (by (try dsimp only); (repeat (first | rw [up_s] | rw [up_n (by omega)])) <;> first | rfl | assumption) ?_
      refine ev_iconst (pc := 9) (v := nI 1) dX12_readItem_9 kc_1 ?_
      refine ev_icmp_eq (pc := 10) 15 dX12_readItem_10 (by decide) (fun c_10 => ?_) (fun c_10 => ?_)
      · (try simp (disch := omega) only [i32_lti, i32_lei, i32_eqi, nI_toInt, i32z] at c_10)
        refine ev_iload_n (pc := 15) dX12_readItem_15 rfl ?_
        refine ev_bipush (pc := 16) (v := nI 116) dX12_readItem_16 kb_116 ?_
        refine ev_icmp_ne (pc := 18) 26 dX12_readItem_18 (by decide) (fun c_18 => ?_) (fun c_18 => ?_)
        · exfalso; (try simp (disch := omega) only [i32_lti, i32_lei, i32_eqi, nI_toInt, i32z] at c_18); omega
        · (try simp (disch := omega) only [i32_lti, i32_lei, i32_eqi, nI_toInt, i32z] at c_18)
          refine ev_aload_n (pc := 21) dX12_readItem_21 rfl ?_
          refine iv_X12_119 (pc := 22) rfl dX12_readItem_22 (by (try dsimp only); (repeat (first | rw [up_s] | rw [up_n (by omega)])) <;> first | rfl | assumption) (Nat.le_of_ble_eq_true rfl) (Nat.le_of_ble_eq_true rfl) (Nat.le_of_ble_eq_true rfl) (Nat.le_of_ble_eq_true rfl) (c_mReadTale S px (by omega) w g1) (ki (fun r S' hS => ?_))
          obtain ⟨h2, z'⟩ := S'
          obtain ⟨rfl, rfl, f2, S2⟩ := hS
          refine ev_iret (pc := 25) dX12_readItem_25 rfl (b2i_z _) (Nat.le_of_ble_eq_true rfl) (Nat.le_of_ble_eq_true rfl) ?_
          exact ⟨_, rfl, rfl, rfl, f2, S2⟩
      · exfalso; (try simp (disch := omega) only [i32_lti, i32_lei, i32_eqi, nI_toInt, i32z] at c_10); omega
    by_cases c2 : t.2.1 = 110
    · have ew : pWhat cs t A = pNights cs t A := by unfold pWhat; rw [if_neg c1, if_pos c2]
      rw [ew]
      refine ev_aload_n (pc := 0) dX12_readItem_0 rfl ?_
      refine gf_X12_82 (pc := 1) rfl dX12_readItem_1 (by (try dsimp only); (repeat (first | rw [up_s] | rw [up_n (by omega)])) <;> first | rfl | assumption) ?_
      refine ev_istore_n (pc := 4) (L' := [_, _]) dX12_readItem_4 (Nat.le_of_ble_eq_true rfl) rfl ?_
      refine ev_aload_n (pc := 5) dX12_readItem_5 rfl ?_
      refine gf_X12_92 (pc := 6) rfl dX12_readItem_6 (by (try dsimp only); (repeat (first | rw [up_s] | rw [up_n (by omega)])) <;> first | rfl | assumption) ?_
      refine ev_iconst (pc := 9) (v := nI 1) dX12_readItem_9 kc_1 ?_
      refine ev_icmp_eq (pc := 10) 15 dX12_readItem_10 (by decide) (fun c_10 => ?_) (fun c_10 => ?_)
      · (try simp (disch := omega) only [i32_lti, i32_lei, i32_eqi, nI_toInt, i32z] at c_10)
        refine ev_iload_n (pc := 15) dX12_readItem_15 rfl ?_
        refine ev_bipush (pc := 16) (v := nI 116) dX12_readItem_16 kb_116 ?_
        refine ev_icmp_ne (pc := 18) 26 dX12_readItem_18 (by decide) (fun c_18 => ?_) (fun c_18 => ?_)
        · (try simp (disch := omega) only [i32_lti, i32_lei, i32_eqi, nI_toInt, i32z] at c_18)
          refine ev_iload_n (pc := 26) dX12_readItem_26 rfl ?_
          refine ev_bipush (pc := 27) (v := nI 110) dX12_readItem_27 kb_110 ?_
          refine ev_icmp_ne (pc := 29) 37 dX12_readItem_29 (by decide) (fun c_29 => ?_) (fun c_29 => ?_)
          · exfalso; (try simp (disch := omega) only [i32_lti, i32_lei, i32_eqi, nI_toInt, i32z] at c_29); omega
          · (try simp (disch := omega) only [i32_lti, i32_lei, i32_eqi, nI_toInt, i32z] at c_29)
            refine ev_aload_n (pc := 32) dX12_readItem_32 rfl ?_
            refine iv_X12_123 (pc := 33) rfl dX12_readItem_33 (by (try dsimp only); (repeat (first | rw [up_s] | rw [up_n (by omega)])) <;> first | rfl | assumption) (Nat.le_of_ble_eq_true rfl) (Nat.le_of_ble_eq_true rfl) (Nat.le_of_ble_eq_true rfl) (Nat.le_of_ble_eq_true rfl) (c_mReadNights S px (by omega) w) (ki (fun r S' hS => ?_))
            obtain ⟨h2, z'⟩ := S'
            obtain ⟨rfl, rfl, f2, S2⟩ := hS
            refine ev_iret (pc := 36) dX12_readItem_36 rfl (b2i_z _) (Nat.le_of_ble_eq_true rfl) (Nat.le_of_ble_eq_true rfl) ?_
            exact ⟨_, rfl, rfl, rfl, f2, S2⟩
        · exfalso; (try simp (disch := omega) only [i32_lti, i32_lei, i32_eqi, nI_toInt, i32z] at c_18); omega
      · exfalso; (try simp (disch := omega) only [i32_lti, i32_lei, i32_eqi, nI_toInt, i32z] at c_10); omega
    by_cases c3 : t.2.1 = 109
    · have ew : pWhat cs t A = pMem cs t A := by unfold pWhat; rw [if_neg c1, if_neg c2, if_pos c3]
      by_cases h0 : 0 < aM A
      · have e : pMem cs t A = (t, A, false) := by unfold pMem; rw [if_pos h0]
        rw [ew, e]
        refine ev_aload_n (pc := 0) dX12_readItem_0 rfl ?_
        refine gf_X12_82 (pc := 1) rfl dX12_readItem_1 (by (try dsimp only); (repeat (first | rw [up_s] | rw [up_n (by omega)])) <;> first | rfl | assumption) ?_
        refine ev_istore_n (pc := 4) (L' := [_, _]) dX12_readItem_4 (Nat.le_of_ble_eq_true rfl) rfl ?_
        refine ev_aload_n (pc := 5) dX12_readItem_5 rfl ?_
        refine gf_X12_92 (pc := 6) rfl dX12_readItem_6 (by (try dsimp only); (repeat (first | rw [up_s] | rw [up_n (by omega)])) <;> first | rfl | assumption) ?_
        refine ev_iconst (pc := 9) (v := nI 1) dX12_readItem_9 kc_1 ?_
        refine ev_icmp_eq (pc := 10) 15 dX12_readItem_10 (by decide) (fun c_10 => ?_) (fun c_10 => ?_)
        · (try simp (disch := omega) only [i32_lti, i32_lei, i32_eqi, nI_toInt, i32z] at c_10)
          refine ev_iload_n (pc := 15) dX12_readItem_15 rfl ?_
          refine ev_bipush (pc := 16) (v := nI 116) dX12_readItem_16 kb_116 ?_
          refine ev_icmp_ne (pc := 18) 26 dX12_readItem_18 (by decide) (fun c_18 => ?_) (fun c_18 => ?_)
          · (try simp (disch := omega) only [i32_lti, i32_lei, i32_eqi, nI_toInt, i32z] at c_18)
            refine ev_iload_n (pc := 26) dX12_readItem_26 rfl ?_
            refine ev_bipush (pc := 27) (v := nI 110) dX12_readItem_27 kb_110 ?_
            refine ev_icmp_ne (pc := 29) 37 dX12_readItem_29 (by decide) (fun c_29 => ?_) (fun c_29 => ?_)
            · (try simp (disch := omega) only [i32_lti, i32_lei, i32_eqi, nI_toInt, i32z] at c_29)
              refine ev_iload_n (pc := 37) dX12_readItem_37 rfl ?_
              refine ev_bipush (pc := 38) (v := nI 109) dX12_readItem_38 kb_109 ?_
              refine ev_icmp_ne (pc := 40) 73 dX12_readItem_40 (by decide) (fun c_40 => ?_) (fun c_40 => ?_)
              · exfalso; (try simp (disch := omega) only [i32_lti, i32_lei, i32_eqi, nI_toInt, i32z] at c_40); omega
              · (try simp (disch := omega) only [i32_lti, i32_lei, i32_eqi, nI_toInt, i32z] at c_40)
                refine ev_aload_n (pc := 43) dX12_readItem_43 rfl ?_
                refine gf_X12_125 (pc := 44) rfl dX12_readItem_44 (by (try dsimp only); (repeat (first | rw [up_s] | rw [up_n (by omega)])) <;> first | rfl | assumption) ?_
                refine ev_if_gt (pc := 47) 60 dX12_readItem_47 (by decide) (fun c_47 => ?_) (fun c_47 => ?_)
                · (try simp (disch := omega) only [i32_lti, i32_lei, i32_eqi, nI_toInt, i32z] at c_47)
                  refine ev_iconst (pc := 60) (v := nI 0) dX12_readItem_60 kc_0 ?_
                  refine ev_iret (pc := 61) dX12_readItem_61 rfl rfl (Nat.le_of_ble_eq_true rfl) (Nat.le_of_ble_eq_true rfl) ?_
                  exact ⟨_, rfl, rfl, rfl, fun _ _ _ => rfl, S⟩
                · exfalso; (try simp (disch := omega) only [i32_lti, i32_lei, i32_eqi, nI_toInt, i32z] at c_47); omega
            · exfalso; (try simp (disch := omega) only [i32_lti, i32_lei, i32_eqi, nI_toInt, i32z] at c_29); omega
          · exfalso; (try simp (disch := omega) only [i32_lti, i32_lei, i32_eqi, nI_toInt, i32z] at c_18); omega
        · exfalso; (try simp (disch := omega) only [i32_lti, i32_lei, i32_eqi, nI_toInt, i32z] at c_10); omega
      · cases hn : num (nxt cs t.2.2.2) 1 9 with
        | false =>
          have e : pMem cs t A = (nxt cs t.2.2.2, A, false) := by unfold pMem; rw [if_neg h0, if_neg (by rw [hn]; decide)]
          rw [ew, e]
          refine ev_aload_n (pc := 0) dX12_readItem_0 rfl ?_
          refine gf_X12_82 (pc := 1) rfl dX12_readItem_1 (by (try dsimp only); (repeat (first | rw [up_s] | rw [up_n (by omega)])) <;> first | rfl | assumption) ?_
          refine ev_istore_n (pc := 4) (L' := [_, _]) dX12_readItem_4 (Nat.le_of_ble_eq_true rfl) rfl ?_
          refine ev_aload_n (pc := 5) dX12_readItem_5 rfl ?_
          refine gf_X12_92 (pc := 6) rfl dX12_readItem_6 (by (try dsimp only); (repeat (first | rw [up_s] | rw [up_n (by omega)])) <;> first | rfl | assumption) ?_
          refine ev_iconst (pc := 9) (v := nI 1) dX12_readItem_9 kc_1 ?_
          refine ev_icmp_eq (pc := 10) 15 dX12_readItem_10 (by decide) (fun c_10 => ?_) (fun c_10 => ?_)
          · (try simp (disch := omega) only [i32_lti, i32_lei, i32_eqi, nI_toInt, i32z] at c_10)
            refine ev_iload_n (pc := 15) dX12_readItem_15 rfl ?_
            refine ev_bipush (pc := 16) (v := nI 116) dX12_readItem_16 kb_116 ?_
            refine ev_icmp_ne (pc := 18) 26 dX12_readItem_18 (by decide) (fun c_18 => ?_) (fun c_18 => ?_)
            · (try simp (disch := omega) only [i32_lti, i32_lei, i32_eqi, nI_toInt, i32z] at c_18)
              refine ev_iload_n (pc := 26) dX12_readItem_26 rfl ?_
              refine ev_bipush (pc := 27) (v := nI 110) dX12_readItem_27 kb_110 ?_
              refine ev_icmp_ne (pc := 29) 37 dX12_readItem_29 (by decide) (fun c_29 => ?_) (fun c_29 => ?_)
              · (try simp (disch := omega) only [i32_lti, i32_lei, i32_eqi, nI_toInt, i32z] at c_29)
                refine ev_iload_n (pc := 37) dX12_readItem_37 rfl ?_
                refine ev_bipush (pc := 38) (v := nI 109) dX12_readItem_38 kb_109 ?_
                refine ev_icmp_ne (pc := 40) 73 dX12_readItem_40 (by decide) (fun c_40 => ?_) (fun c_40 => ?_)
                · exfalso; (try simp (disch := omega) only [i32_lti, i32_lei, i32_eqi, nI_toInt, i32z] at c_40); omega
                · (try simp (disch := omega) only [i32_lti, i32_lei, i32_eqi, nI_toInt, i32z] at c_40)
                  refine ev_aload_n (pc := 43) dX12_readItem_43 rfl ?_
                  refine gf_X12_125 (pc := 44) rfl dX12_readItem_44 (by (try dsimp only); (repeat (first | rw [up_s] | rw [up_n (by omega)])) <;> first | rfl | assumption) ?_
                  refine ev_if_gt (pc := 47) 60 dX12_readItem_47 (by decide) (fun c_47 => ?_) (fun c_47 => ?_)
                  · exfalso; (try simp (disch := omega) only [i32_lti, i32_lei, i32_eqi, nI_toInt, i32z] at c_47); omega
                  · (try simp (disch := omega) only [i32_lti, i32_lei, i32_eqi, nI_toInt, i32z] at c_47)
                    refine ev_aload_n (pc := 50) dX12_readItem_50 rfl ?_
                    refine ev_iconst (pc := 51) (v := nI 1) dX12_readItem_51 kc_1 ?_
                    refine ev_bipush (pc := 52) (v := nI 9) dX12_readItem_52 kb_9 ?_
                    refine iv_X12_110 (pc := 54) rfl dX12_readItem_54 (by (try dsimp only); (repeat (first | rw [up_s] | rw [up_n (by omega)])) <;> first | rfl | assumption) (Nat.le_of_ble_eq_true rfl) (Nat.le_of_ble_eq_true rfl) (Nat.le_of_ble_eq_true rfl) (Nat.le_of_ble_eq_true rfl) (c_mNumber S px (by omega) (by omega) (by omega)) (ki (fun r S' hS => ?_))
                    obtain ⟨h2, z'⟩ := S'
                    obtain ⟨rfl, rfl, f2, S2⟩ := hS
                    rw [hn]
                    refine ev_if_ne (pc := 57) 62 dX12_readItem_57 (by decide) (fun c_57 => ?_) (fun c_57 => ?_)
                    · exact absurd rfl c_57
                    · (try simp (disch := omega) only [i32_lti, i32_lei, i32_eqi, nI_toInt, i32z] at c_57)
                      refine ev_iconst (pc := 60) (v := nI 0) dX12_readItem_60 kc_0 ?_
                      refine ev_iret (pc := 61) dX12_readItem_61 rfl rfl (Nat.le_of_ble_eq_true rfl) (Nat.le_of_ble_eq_true rfl) ?_
                      exact ⟨_, rfl, rfl, rfl, fun q a b => f2 q a, S2⟩
              · exfalso; (try simp (disch := omega) only [i32_lti, i32_lei, i32_eqi, nI_toInt, i32z] at c_29); omega
            · exfalso; (try simp (disch := omega) only [i32_lti, i32_lei, i32_eqi, nI_toInt, i32z] at c_18); omega
          · exfalso; (try simp (disch := omega) only [i32_lti, i32_lei, i32_eqi, nI_toInt, i32z] at c_10); omega
        | true =>
          have hv := num_v hn
          have e : pMem cs t A = (nxt cs (nxt cs t.2.2.2).2.2.2, (aP A, aW A, aH A, (nxt cs t.2.2.2).2.1, aD A), true) := by unfold pMem; rw [if_neg h0, if_pos hn]
          have kt := mTk_2.mpr hv.1
          have ew2 := ew.trans e
          refine ev_aload_n (pc := 0) dX12_readItem_0 rfl ?_
          refine gf_X12_82 (pc := 1) rfl dX12_readItem_1 (by (try dsimp only); (repeat (first | rw [up_s] | rw [up_n (by omega)])) <;> first | rfl | assumption) ?_
          refine ev_istore_n (pc := 4) (L' := [_, _]) dX12_readItem_4 (Nat.le_of_ble_eq_true rfl) rfl ?_
          refine ev_aload_n (pc := 5) dX12_readItem_5 rfl ?_
          refine gf_X12_92 (pc := 6) rfl dX12_readItem_6 (by (try dsimp only); (repeat (first | rw [up_s] | rw [up_n (by omega)])) <;> first | rfl | assumption) ?_
          refine ev_iconst (pc := 9) (v := nI 1) dX12_readItem_9 kc_1 ?_
          refine ev_icmp_eq (pc := 10) 15 dX12_readItem_10 (by decide) (fun c_10 => ?_) (fun c_10 => ?_)
          · (try simp (disch := omega) only [i32_lti, i32_lei, i32_eqi, nI_toInt, i32z] at c_10)
            refine ev_iload_n (pc := 15) dX12_readItem_15 rfl ?_
            refine ev_bipush (pc := 16) (v := nI 116) dX12_readItem_16 kb_116 ?_
            refine ev_icmp_ne (pc := 18) 26 dX12_readItem_18 (by decide) (fun c_18 => ?_) (fun c_18 => ?_)
            · (try simp (disch := omega) only [i32_lti, i32_lei, i32_eqi, nI_toInt, i32z] at c_18)
              refine ev_iload_n (pc := 26) dX12_readItem_26 rfl ?_
              refine ev_bipush (pc := 27) (v := nI 110) dX12_readItem_27 kb_110 ?_
              refine ev_icmp_ne (pc := 29) 37 dX12_readItem_29 (by decide) (fun c_29 => ?_) (fun c_29 => ?_)
              · (try simp (disch := omega) only [i32_lti, i32_lei, i32_eqi, nI_toInt, i32z] at c_29)
                refine ev_iload_n (pc := 37) dX12_readItem_37 rfl ?_
                refine ev_bipush (pc := 38) (v := nI 109) dX12_readItem_38 kb_109 ?_
                refine ev_icmp_ne (pc := 40) 73 dX12_readItem_40 (by decide) (fun c_40 => ?_) (fun c_40 => ?_)
                · exfalso; (try simp (disch := omega) only [i32_lti, i32_lei, i32_eqi, nI_toInt, i32z] at c_40); omega
                · (try simp (disch := omega) only [i32_lti, i32_lei, i32_eqi, nI_toInt, i32z] at c_40)
                  refine ev_aload_n (pc := 43) dX12_readItem_43 rfl ?_
                  refine gf_X12_125 (pc := 44) rfl dX12_readItem_44 (by (try dsimp only); (repeat (first | rw [up_s] | rw [up_n (by omega)])) <;> first | rfl | assumption) ?_
                  refine ev_if_gt (pc := 47) 60 dX12_readItem_47 (by decide) (fun c_47 => ?_) (fun c_47 => ?_)
                  · exfalso; (try simp (disch := omega) only [i32_lti, i32_lei, i32_eqi, nI_toInt, i32z] at c_47); omega
                  · (try simp (disch := omega) only [i32_lti, i32_lei, i32_eqi, nI_toInt, i32z] at c_47)
                    refine ev_aload_n (pc := 50) dX12_readItem_50 rfl ?_
                    refine ev_iconst (pc := 51) (v := nI 1) dX12_readItem_51 kc_1 ?_
                    refine ev_bipush (pc := 52) (v := nI 9) dX12_readItem_52 kb_9 ?_
                    refine iv_X12_110 (pc := 54) rfl dX12_readItem_54 (by (try dsimp only); (repeat (first | rw [up_s] | rw [up_n (by omega)])) <;> first | rfl | assumption) (Nat.le_of_ble_eq_true rfl) (Nat.le_of_ble_eq_true rfl) (Nat.le_of_ble_eq_true rfl) (Nat.le_of_ble_eq_true rfl) (c_mNumber S px (by omega) (by omega) (by omega)) (ki (fun r S' hS => ?_))
                    obtain ⟨h2, z'⟩ := S'
                    obtain ⟨rfl, rfl, f2, S2⟩ := hS
                    rw [hn]
                    obtain ⟨at2, td2, po2, u1, u2, u3, u4, u5, ab2⟩ := id S2
                    have hu2 := u2 (Or.inr kt)
                    subst hu2
                    unfold pMO at po2
                    refine ev_if_ne (pc := 57) 62 dX12_readItem_57 (by decide) (fun c_57 => ?_) (fun c_57 => ?_)
                    · (try simp (disch := omega) only [i32_lti, i32_lei, i32_eqi, nI_toInt, i32z] at c_57)
                      refine ev_aload_n (pc := 62) dX12_readItem_62 rfl ?_
                      refine ev_aload_n (pc := 63) dX12_readItem_63 rfl ?_
                      refine gf_X12_82 (pc := 64) rfl dX12_readItem_64 (by (try dsimp only); (repeat (first | rw [up_s] | rw [up_n (by omega)])) <;> first | rfl | assumption) ?_
                      refine pf_X12_125 (pc := 67) rfl dX12_readItem_67 (by (try dsimp only); (repeat (first | rw [up_s] | rw [up_n (by omega)])) <;> first | rfl | assumption) ?_
                      refine ev_goto (pc := 70) 100 dX12_readItem_70 (by decide) ?_
                      exact tail (nxt cs t.2.2.2) (aP A, aW A, aH A, (nxt cs t.2.2.2).2.1, aD A) _ 0 0 0 0 (by intro q a b; (try dsimp only); rw [up_n (by omega)]; exact f2 q a) (px.fr (by (try dsimp only); rw [up_n (by omega)]; exact f2 _ (by omega))) ⟨at2, _, (by unfold pMO; exact (by (try dsimp only); (repeat (first | rw [up_s] | rw [up_n (by omega)])) <;> first | rfl | assumption)), u1, fun _ => rfl, u3, u4, u5, ab2.fr (fun q a b => by (try dsimp only); rw [up_n (by omega)])⟩ kt ew2
                    · exact absurd c_57 (by decide)
              · exfalso; (try simp (disch := omega) only [i32_lti, i32_lei, i32_eqi, nI_toInt, i32z] at c_29); omega
            · exfalso; (try simp (disch := omega) only [i32_lti, i32_lei, i32_eqi, nI_toInt, i32z] at c_18); omega
          · exfalso; (try simp (disch := omega) only [i32_lti, i32_lei, i32_eqi, nI_toInt, i32z] at c_10); omega
    · have c4 : t.2.1 = 100 := by omega
      have ew : pWhat cs t A = pDep cs t A := by unfold pWhat; rw [if_neg c1, if_neg c2, if_neg c3, if_pos c4]
      by_cases h0 : 0 < aD A
      · have e : pDep cs t A = (t, A, false) := by unfold pDep; rw [if_pos h0]
        rw [ew, e]
        refine ev_aload_n (pc := 0) dX12_readItem_0 rfl ?_
        refine gf_X12_82 (pc := 1) rfl dX12_readItem_1 (by (try dsimp only); (repeat (first | rw [up_s] | rw [up_n (by omega)])) <;> first | rfl | assumption) ?_
        refine ev_istore_n (pc := 4) (L' := [_, _]) dX12_readItem_4 (Nat.le_of_ble_eq_true rfl) rfl ?_
        refine ev_aload_n (pc := 5) dX12_readItem_5 rfl ?_
        refine gf_X12_92 (pc := 6) rfl dX12_readItem_6 (by (try dsimp only); (repeat (first | rw [up_s] | rw [up_n (by omega)])) <;> first | rfl | assumption) ?_
        refine ev_iconst (pc := 9) (v := nI 1) dX12_readItem_9 kc_1 ?_
        refine ev_icmp_eq (pc := 10) 15 dX12_readItem_10 (by decide) (fun c_10 => ?_) (fun c_10 => ?_)
        · (try simp (disch := omega) only [i32_lti, i32_lei, i32_eqi, nI_toInt, i32z] at c_10)
          refine ev_iload_n (pc := 15) dX12_readItem_15 rfl ?_
          refine ev_bipush (pc := 16) (v := nI 116) dX12_readItem_16 kb_116 ?_
          refine ev_icmp_ne (pc := 18) 26 dX12_readItem_18 (by decide) (fun c_18 => ?_) (fun c_18 => ?_)
          · (try simp (disch := omega) only [i32_lti, i32_lei, i32_eqi, nI_toInt, i32z] at c_18)
            refine ev_iload_n (pc := 26) dX12_readItem_26 rfl ?_
            refine ev_bipush (pc := 27) (v := nI 110) dX12_readItem_27 kb_110 ?_
            refine ev_icmp_ne (pc := 29) 37 dX12_readItem_29 (by decide) (fun c_29 => ?_) (fun c_29 => ?_)
            · (try simp (disch := omega) only [i32_lti, i32_lei, i32_eqi, nI_toInt, i32z] at c_29)
              refine ev_iload_n (pc := 37) dX12_readItem_37 rfl ?_
              refine ev_bipush (pc := 38) (v := nI 109) dX12_readItem_38 kb_109 ?_
              refine ev_icmp_ne (pc := 40) 73 dX12_readItem_40 (by decide) (fun c_40 => ?_) (fun c_40 => ?_)
              · (try simp (disch := omega) only [i32_lti, i32_lei, i32_eqi, nI_toInt, i32z] at c_40)
                refine ev_aload_n (pc := 73) dX12_readItem_73 rfl ?_
                refine gf_X12_128 (pc := 74) rfl dX12_readItem_74 (by (try dsimp only); (repeat (first | rw [up_s] | rw [up_n (by omega)])) <;> first | rfl | assumption) ?_
                refine ev_if_gt (pc := 77) 90 dX12_readItem_77 (by decide) (fun c_77 => ?_) (fun c_77 => ?_)
                · (try simp (disch := omega) only [i32_lti, i32_lei, i32_eqi, nI_toInt, i32z] at c_77)
                  refine ev_iconst (pc := 90) (v := nI 0) dX12_readItem_90 kc_0 ?_
                  refine ev_iret (pc := 91) dX12_readItem_91 rfl rfl (Nat.le_of_ble_eq_true rfl) (Nat.le_of_ble_eq_true rfl) ?_
                  exact ⟨_, rfl, rfl, rfl, fun _ _ _ => rfl, S⟩
                · exfalso; (try simp (disch := omega) only [i32_lti, i32_lei, i32_eqi, nI_toInt, i32z] at c_77); omega
              · exfalso; (try simp (disch := omega) only [i32_lti, i32_lei, i32_eqi, nI_toInt, i32z] at c_40); omega
            · exfalso; (try simp (disch := omega) only [i32_lti, i32_lei, i32_eqi, nI_toInt, i32z] at c_29); omega
          · exfalso; (try simp (disch := omega) only [i32_lti, i32_lei, i32_eqi, nI_toInt, i32z] at c_18); omega
        · exfalso; (try simp (disch := omega) only [i32_lti, i32_lei, i32_eqi, nI_toInt, i32z] at c_10); omega
      · cases hn : num (nxt cs t.2.2.2) 1 6 with
        | false =>
          have e : pDep cs t A = (nxt cs t.2.2.2, A, false) := by unfold pDep; rw [if_neg h0, if_neg (by rw [hn]; decide)]
          rw [ew, e]
          refine ev_aload_n (pc := 0) dX12_readItem_0 rfl ?_
          refine gf_X12_82 (pc := 1) rfl dX12_readItem_1 (by (try dsimp only); (repeat (first | rw [up_s] | rw [up_n (by omega)])) <;> first | rfl | assumption) ?_
          refine ev_istore_n (pc := 4) (L' := [_, _]) dX12_readItem_4 (Nat.le_of_ble_eq_true rfl) rfl ?_
          refine ev_aload_n (pc := 5) dX12_readItem_5 rfl ?_
          refine gf_X12_92 (pc := 6) rfl dX12_readItem_6 (by (try dsimp only); (repeat (first | rw [up_s] | rw [up_n (by omega)])) <;> first | rfl | assumption) ?_
          refine ev_iconst (pc := 9) (v := nI 1) dX12_readItem_9 kc_1 ?_
          refine ev_icmp_eq (pc := 10) 15 dX12_readItem_10 (by decide) (fun c_10 => ?_) (fun c_10 => ?_)
          · (try simp (disch := omega) only [i32_lti, i32_lei, i32_eqi, nI_toInt, i32z] at c_10)
            refine ev_iload_n (pc := 15) dX12_readItem_15 rfl ?_
            refine ev_bipush (pc := 16) (v := nI 116) dX12_readItem_16 kb_116 ?_
            refine ev_icmp_ne (pc := 18) 26 dX12_readItem_18 (by decide) (fun c_18 => ?_) (fun c_18 => ?_)
            · (try simp (disch := omega) only [i32_lti, i32_lei, i32_eqi, nI_toInt, i32z] at c_18)
              refine ev_iload_n (pc := 26) dX12_readItem_26 rfl ?_
              refine ev_bipush (pc := 27) (v := nI 110) dX12_readItem_27 kb_110 ?_
              refine ev_icmp_ne (pc := 29) 37 dX12_readItem_29 (by decide) (fun c_29 => ?_) (fun c_29 => ?_)
              · (try simp (disch := omega) only [i32_lti, i32_lei, i32_eqi, nI_toInt, i32z] at c_29)
                refine ev_iload_n (pc := 37) dX12_readItem_37 rfl ?_
                refine ev_bipush (pc := 38) (v := nI 109) dX12_readItem_38 kb_109 ?_
                refine ev_icmp_ne (pc := 40) 73 dX12_readItem_40 (by decide) (fun c_40 => ?_) (fun c_40 => ?_)
                · (try simp (disch := omega) only [i32_lti, i32_lei, i32_eqi, nI_toInt, i32z] at c_40)
                  refine ev_aload_n (pc := 73) dX12_readItem_73 rfl ?_
                  refine gf_X12_128 (pc := 74) rfl dX12_readItem_74 (by (try dsimp only); (repeat (first | rw [up_s] | rw [up_n (by omega)])) <;> first | rfl | assumption) ?_
                  refine ev_if_gt (pc := 77) 90 dX12_readItem_77 (by decide) (fun c_77 => ?_) (fun c_77 => ?_)
                  · exfalso; (try simp (disch := omega) only [i32_lti, i32_lei, i32_eqi, nI_toInt, i32z] at c_77); omega
                  · (try simp (disch := omega) only [i32_lti, i32_lei, i32_eqi, nI_toInt, i32z] at c_77)
                    refine ev_aload_n (pc := 80) dX12_readItem_80 rfl ?_
                    refine ev_iconst (pc := 81) (v := nI 1) dX12_readItem_81 kc_1 ?_
                    refine ev_bipush (pc := 82) (v := nI 6) dX12_readItem_82 kb_6 ?_
                    refine iv_X12_110 (pc := 84) rfl dX12_readItem_84 (by (try dsimp only); (repeat (first | rw [up_s] | rw [up_n (by omega)])) <;> first | rfl | assumption) (Nat.le_of_ble_eq_true rfl) (Nat.le_of_ble_eq_true rfl) (Nat.le_of_ble_eq_true rfl) (Nat.le_of_ble_eq_true rfl) (c_mNumber S px (by omega) (by omega) (by omega)) (ki (fun r S' hS => ?_))
                    obtain ⟨h2, z'⟩ := S'
                    obtain ⟨rfl, rfl, f2, S2⟩ := hS
                    rw [hn]
                    refine ev_if_ne (pc := 87) 92 dX12_readItem_87 (by decide) (fun c_87 => ?_) (fun c_87 => ?_)
                    · exact absurd rfl c_87
                    · (try simp (disch := omega) only [i32_lti, i32_lei, i32_eqi, nI_toInt, i32z] at c_87)
                      refine ev_iconst (pc := 90) (v := nI 0) dX12_readItem_90 kc_0 ?_
                      refine ev_iret (pc := 91) dX12_readItem_91 rfl rfl (Nat.le_of_ble_eq_true rfl) (Nat.le_of_ble_eq_true rfl) ?_
                      exact ⟨_, rfl, rfl, rfl, fun q a b => f2 q a, S2⟩
                · exfalso; (try simp (disch := omega) only [i32_lti, i32_lei, i32_eqi, nI_toInt, i32z] at c_40); omega
              · exfalso; (try simp (disch := omega) only [i32_lti, i32_lei, i32_eqi, nI_toInt, i32z] at c_29); omega
            · exfalso; (try simp (disch := omega) only [i32_lti, i32_lei, i32_eqi, nI_toInt, i32z] at c_18); omega
          · exfalso; (try simp (disch := omega) only [i32_lti, i32_lei, i32_eqi, nI_toInt, i32z] at c_10); omega
        | true =>
          have hv := num_v hn
          have e : pDep cs t A = (nxt cs (nxt cs t.2.2.2).2.2.2, (aP A, aW A, aH A, aM A, (nxt cs t.2.2.2).2.1), true) := by unfold pDep; rw [if_neg h0, if_pos hn]
          have kt := mTk_2.mpr hv.1
          have ew2 := ew.trans e
          refine ev_aload_n (pc := 0) dX12_readItem_0 rfl ?_
          refine gf_X12_82 (pc := 1) rfl dX12_readItem_1 (by (try dsimp only); (repeat (first | rw [up_s] | rw [up_n (by omega)])) <;> first | rfl | assumption) ?_
          refine ev_istore_n (pc := 4) (L' := [_, _]) dX12_readItem_4 (Nat.le_of_ble_eq_true rfl) rfl ?_
          refine ev_aload_n (pc := 5) dX12_readItem_5 rfl ?_
          refine gf_X12_92 (pc := 6) rfl dX12_readItem_6 (by (try dsimp only); (repeat (first | rw [up_s] | rw [up_n (by omega)])) <;> first | rfl | assumption) ?_
          refine ev_iconst (pc := 9) (v := nI 1) dX12_readItem_9 kc_1 ?_
          refine ev_icmp_eq (pc := 10) 15 dX12_readItem_10 (by decide) (fun c_10 => ?_) (fun c_10 => ?_)
          · (try simp (disch := omega) only [i32_lti, i32_lei, i32_eqi, nI_toInt, i32z] at c_10)
            refine ev_iload_n (pc := 15) dX12_readItem_15 rfl ?_
            refine ev_bipush (pc := 16) (v := nI 116) dX12_readItem_16 kb_116 ?_
            refine ev_icmp_ne (pc := 18) 26 dX12_readItem_18 (by decide) (fun c_18 => ?_) (fun c_18 => ?_)
            · (try simp (disch := omega) only [i32_lti, i32_lei, i32_eqi, nI_toInt, i32z] at c_18)
              refine ev_iload_n (pc := 26) dX12_readItem_26 rfl ?_
              refine ev_bipush (pc := 27) (v := nI 110) dX12_readItem_27 kb_110 ?_
              refine ev_icmp_ne (pc := 29) 37 dX12_readItem_29 (by decide) (fun c_29 => ?_) (fun c_29 => ?_)
              · (try simp (disch := omega) only [i32_lti, i32_lei, i32_eqi, nI_toInt, i32z] at c_29)
                refine ev_iload_n (pc := 37) dX12_readItem_37 rfl ?_
                refine ev_bipush (pc := 38) (v := nI 109) dX12_readItem_38 kb_109 ?_
                refine ev_icmp_ne (pc := 40) 73 dX12_readItem_40 (by decide) (fun c_40 => ?_) (fun c_40 => ?_)
                · (try simp (disch := omega) only [i32_lti, i32_lei, i32_eqi, nI_toInt, i32z] at c_40)
                  refine ev_aload_n (pc := 73) dX12_readItem_73 rfl ?_
                  refine gf_X12_128 (pc := 74) rfl dX12_readItem_74 (by (try dsimp only); (repeat (first | rw [up_s] | rw [up_n (by omega)])) <;> first | rfl | assumption) ?_
                  refine ev_if_gt (pc := 77) 90 dX12_readItem_77 (by decide) (fun c_77 => ?_) (fun c_77 => ?_)
                  · exfalso; (try simp (disch := omega) only [i32_lti, i32_lei, i32_eqi, nI_toInt, i32z] at c_77); omega
                  · (try simp (disch := omega) only [i32_lti, i32_lei, i32_eqi, nI_toInt, i32z] at c_77)
                    refine ev_aload_n (pc := 80) dX12_readItem_80 rfl ?_
                    refine ev_iconst (pc := 81) (v := nI 1) dX12_readItem_81 kc_1 ?_
                    refine ev_bipush (pc := 82) (v := nI 6) dX12_readItem_82 kb_6 ?_
                    refine iv_X12_110 (pc := 84) rfl dX12_readItem_84 (by (try dsimp only); (repeat (first | rw [up_s] | rw [up_n (by omega)])) <;> first | rfl | assumption) (Nat.le_of_ble_eq_true rfl) (Nat.le_of_ble_eq_true rfl) (Nat.le_of_ble_eq_true rfl) (Nat.le_of_ble_eq_true rfl) (c_mNumber S px (by omega) (by omega) (by omega)) (ki (fun r S' hS => ?_))
                    obtain ⟨h2, z'⟩ := S'
                    obtain ⟨rfl, rfl, f2, S2⟩ := hS
                    rw [hn]
                    obtain ⟨at2, td2, po2, u1, u2, u3, u4, u5, ab2⟩ := id S2
                    have hu2 := u2 (Or.inr kt)
                    subst hu2
                    unfold pMO at po2
                    refine ev_if_ne (pc := 87) 92 dX12_readItem_87 (by decide) (fun c_87 => ?_) (fun c_87 => ?_)
                    · (try simp (disch := omega) only [i32_lti, i32_lei, i32_eqi, nI_toInt, i32z] at c_87)
                      refine ev_aload_n (pc := 92) dX12_readItem_92 rfl ?_
                      refine ev_aload_n (pc := 93) dX12_readItem_93 rfl ?_
                      refine gf_X12_82 (pc := 94) rfl dX12_readItem_94 (by (try dsimp only); (repeat (first | rw [up_s] | rw [up_n (by omega)])) <;> first | rfl | assumption) ?_
                      refine pf_X12_128 (pc := 97) rfl dX12_readItem_97 (by (try dsimp only); (repeat (first | rw [up_s] | rw [up_n (by omega)])) <;> first | rfl | assumption) ?_
                      exact tail (nxt cs t.2.2.2) (aP A, aW A, aH A, aM A, (nxt cs t.2.2.2).2.1) _ 0 0 0 0 (by intro q a b; (try dsimp only); rw [up_n (by omega)]; exact f2 q a) (px.fr (by (try dsimp only); rw [up_n (by omega)]; exact f2 _ (by omega))) ⟨at2, _, (by unfold pMO; exact (by (try dsimp only); (repeat (first | rw [up_s] | rw [up_n (by omega)])) <;> first | rfl | assumption)), u1, fun _ => rfl, u3, u4, u5, ab2.fr (fun q a b => by (try dsimp only); rw [up_n (by omega)])⟩ kt ew2
                    · exact absurd c_87 (by decide)
                · exfalso; (try simp (disch := omega) only [i32_lti, i32_lei, i32_eqi, nI_toInt, i32z] at c_40); omega
              · exfalso; (try simp (disch := omega) only [i32_lti, i32_lei, i32_eqi, nI_toInt, i32z] at c_29); omega
            · exfalso; (try simp (disch := omega) only [i32_lti, i32_lei, i32_eqi, nI_toInt, i32z] at c_18); omega
          · exfalso; (try simp (disch := omega) only [i32_lti, i32_lei, i32_eqi, nI_toInt, i32z] at c_10); omega
  · have ei : pItem cs t A = (t, A, false) ∨ ∃ A2, pItem cs t A = (t, A2, false) ∧ A2 = A := by
      by_cases e1 : t.1 = 1
      · right
        have hne : ¬ (t.2.1 = 116 ∨ t.2.1 = 110 ∨ t.2.1 = 109 ∨ t.2.1 = 100) := fun q => h1 (k1.mpr ⟨e1, q⟩)
        refine ⟨A, ?_, rfl⟩
        unfold pItem
        rw [if_neg (by omega)]
        have ew : pWhat cs t A = (t, A, false) := by unfold pWhat; rw [if_neg (by omega), if_neg (by omega), if_neg (by omega), if_neg (by omega)]
        rw [ew, Bool.false_and]
      · left
        unfold pItem
        rw [if_pos e1]
    have ei2 : pItem cs t A = (t, A, false) := by
      rcases ei with q | ⟨A2, q, rfl⟩
      · exact q
      · exact q
    rw [ei2]
    refine ev_aload_n (pc := 0) dX12_readItem_0 rfl ?_
    refine gf_X12_82 (pc := 1) rfl dX12_readItem_1 (by (try dsimp only); (repeat (first | rw [up_s] | rw [up_n (by omega)])) <;> first | rfl | assumption) ?_
    refine ev_istore_n (pc := 4) (L' := [_, _]) dX12_readItem_4 (Nat.le_of_ble_eq_true rfl) rfl ?_
    refine ev_aload_n (pc := 5) dX12_readItem_5 rfl ?_
    refine gf_X12_92 (pc := 6) rfl dX12_readItem_6 (by (try dsimp only); (repeat (first | rw [up_s] | rw [up_n (by omega)])) <;> first | rfl | assumption) ?_
    refine ev_iconst (pc := 9) (v := nI 1) dX12_readItem_9 kc_1 ?_
    refine ev_icmp_eq (pc := 10) 15 dX12_readItem_10 (by decide) (fun c_10 => ?_) (fun c_10 => ?_)
    · exfalso; (try simp (disch := omega) only [i32_lti, i32_lei, i32_eqi, nI_toInt, i32z] at c_10); omega
    · (try simp (disch := omega) only [i32_lti, i32_lei, i32_eqi, nI_toInt, i32z] at c_10)
      refine ev_iconst (pc := 13) (v := nI 0) dX12_readItem_13 kc_0 ?_
      refine ev_iret (pc := 14) dX12_readItem_14 rfl rfl (Nat.le_of_ble_eq_true rfl) (Nat.le_of_ble_eq_true rfl) ?_
      exact ⟨_, rfl, rfl, rfl, fun _ _ _ => rfl, S⟩
end MITEM
