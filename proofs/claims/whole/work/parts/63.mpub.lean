/-! ===== the model: all of it; telling ===== -/
def kO (f : Nat → Int32) (o : Nat) (I : Im) : Prop := match I with
  | none => f o = 0
  | some S => f o = nI 1 ∧ f (o + 1) = nI (tS S.1) ∧ f (o + 2) = nI S.2.length ∧ (∀ j : Nat, j < 28 → f (o + 3 + j) = eT S.1 j) ∧ S.2.length ≤ 10 ∧ uOk (fun x => f (o + 31 + x)) S.2
def pKp (h : Hp) (m : Nat) (I J : Im) : Prop := ∃ f : Nat → Int32, h (m + 16) = some (.inr (0, .inl (ar 642 f))) ∧ kO f 0 I ∧ kO f 321 J
def mTx (h : Hp) (m : Nat) (cs : List Nat) : Prop := ∃ f : Nat → Int32, h (m + 1) = some (.inr (0, .inl (ar 150 f))) ∧ (∀ j : Nat, j < cs.length → f j = nI (gN cs j)) ∧ cs.length ≤ 150 ∧ ∀ j : Nat, j < cs.length → gN cs j < 256
def mRd (h : Hp) (m : Nat) : Prop := ∃ f g k : Nat → Int32, h (m + 2) = some (.inr (0, .inl (ar 6 f))) ∧ h (m + 3) = some (.inr (0, .inl (ar 6 g))) ∧ h (m + 4) = some (.inr (0, .inl (ar 8 k)))
def mRo (h : Hp) (m : Nat) : Prop := ∃ f : Nat → Int32, h (m + 9) = some (.inr (0, .inl (ar 28 f)))
def mOr (h : Hp) (m : Nat) : Prop := ∃ f g k : Nat → Int32, h (m + 11) = some (.inr (0, .inl (ar 6 f))) ∧ h (m + 12) = some (.inr (0, .inl (ar 30 g))) ∧ h (m + 13) = some (.inr (0, .inl (ar 30 k)))
def mHd (h : Hp) (m : Nat) (wn op : List Nat) (n : Nat) : Prop := ∃ f g : Nat → Int32, h (m + 14) = some (.inr (0, .inl (ar 6 f))) ∧ h (m + 15) = some (.inr (0, .inl (ar 6 g))) ∧ (∀ k : Nat, k < 6 → f k = nI (gN wn k) ∧ g k = nI (gN op k)) ∧ wn.length = 6 ∧ op.length = 6 ∧ n ≤ 6 ∧ ∀ k : Nat, k < n → 1 ≤ gN wn k ∧ gN wn k ≤ 30 ∧ gN op k ≤ 6
def pMo (h : Hp) (m : Nat) (cs : List Nat) (B : Bk) (N : Tl) (P : List Tl) (n : Nat) (tr : Int64) : Prop := ∃ at_ bg tk td rt rn rm rd mn bd br : Int32, pMO h m (nI cs.length) at_ bg tk td rt rn rm rd (nI (bT B)) (nI (bK B)) (nI (bM B)) (nI (bD B)) (nI 0) (nI (tS N)) (nI P.length) mn bd br (nI n) tr
/-- a DawnTalesModel at m (cells m .. m+16) -/
def pM (h : Hp) (m : Nat) (cs : List Nat) (B : Bk) (N : Tl) (P : List Tl) (I J : Im) (wn op : List Nat) (n : Nat) (tr : Int64) : Prop := pMo h m cs B N P n tr ∧ mTx h m cs ∧ mRd h m ∧ mBk h m B (nI 0) ∧ pRw h (m + 8) N ∧ mRo h m ∧ (pUn h m P ∧ P.length ≤ 10) ∧ mOr h m ∧ mHd h m wn op n ∧ pKp h m I J
section PM
variable {h h' : Hp} {m n : Nat} {cs : List Nat} {B : Bk} {N : Tl} {P : List Tl} {I J : Im} {wn op : List Nat} {tr : Int64}
theorem mTx.fr (p : mTx h m cs) (e : h' (m + 1) = h (m + 1)) : mTx h' m cs := by
  obtain ⟨f, p1, p2⟩ := p
  exact ⟨f, e.trans p1, p2⟩
theorem mRd.fr (p : mRd h m) (e : ∀ q : Nat, m + 2 ≤ q → q < m + 5 → h' q = h q) : mRd h' m := by
  obtain ⟨f, g, k, p1, p2, p3⟩ := p
  exact ⟨f, g, k, (e _ (by omega) (by omega)).trans p1, (e _ (by omega) (by omega)).trans p2, (e _ (by omega) (by omega)).trans p3⟩
theorem mRo.fr (p : mRo h m) (e : h' (m + 9) = h (m + 9)) : mRo h' m := by
  obtain ⟨f, p1⟩ := p
  exact ⟨f, e.trans p1⟩
theorem pUn.fr (p : pUn h m P) (e : h' (m + 10) = h (m + 10)) : pUn h' m P := by
  obtain ⟨f, p1, p2⟩ := p
  exact ⟨f, e.trans p1, p2⟩
theorem mOr.fr (p : mOr h m) (e : ∀ q : Nat, m + 11 ≤ q → q < m + 14 → h' q = h q) : mOr h' m := by
  obtain ⟨f, g, k, p1, p2, p3⟩ := p
  exact ⟨f, g, k, (e _ (by omega) (by omega)).trans p1, (e _ (by omega) (by omega)).trans p2, (e _ (by omega) (by omega)).trans p3⟩
theorem mHd.fr (p : mHd h m wn op n) (e : ∀ q : Nat, m + 14 ≤ q → q < m + 16 → h' q = h q) : mHd h' m wn op n := by
  obtain ⟨f, g, p1, p2, p3⟩ := p
  exact ⟨f, g, (e _ (by omega) (by omega)).trans p1, (e _ (by omega) (by omega)).trans p2, p3⟩
theorem pKp.fr (p : pKp h m I J) (e : h' (m + 16) = h (m + 16)) : pKp h' m I J := by
  obtain ⟨f, p1, p2⟩ := p
  exact ⟨f, e.trans p1, p2⟩
theorem pM.fr (p : pM h m cs B N P I J wn op n tr) (e : ∀ q : Nat, m ≤ q → q < m + 17 → h' q = h q) : pM h' m cs B N P I J wn op n tr := by
  obtain ⟨⟨at_, bg, tk, td, rt, rn, rm, rd, mn, bd, br, po⟩, px, pr, pb, pn, pq, ⟨pu, pl⟩, por, ph, pk⟩ := p
  exact ⟨⟨at_, bg, tk, td, rt, rn, rm, rd, mn, bd, br, (e m (by omega) (by omega)).trans po⟩, px.fr (e _ (by omega) (by omega)), pr.fr (fun q a b => e q (by omega) (by omega)), pb.fr (fun q a b => e q (by omega) (by omega)), (e _ (by omega) (by omega)).trans pn, pq.fr (e _ (by omega) (by omega)), ⟨pu.fr (e _ (by omega) (by omega)), pl⟩, por.fr (fun q a b => e q (by omega) (by omega)), ph.fr (fun q a b => e q (by omega) (by omega)), pk.fr (e _ (by omega) (by omega))⟩
/-- the telling, and what is undone, change -/
theorem pM.st {N' : Tl} {P' : List Tl} (p : pM h m cs B N P I J wn op n tr) (e : ∀ q : Nat, q ≠ m → q ≠ m + 8 → q ≠ m + 10 → h' q = h q) (o : pMo h' m cs B N' P' n tr) (a : pRw h' (m + 8) N') (u : pUn h' m P') (l : P'.length ≤ 10) : pM h' m cs B N' P' I J wn op n tr := by
  obtain ⟨-, px, pr, pb, pn, pq, pu, por, ph, pk⟩ := p
  exact ⟨o, px.fr (e _ (by omega) (by omega) (by omega)), pr.fr (fun q a b => e q (by omega) (by omega) (by omega)), pb.fr (fun q a b => e q (by omega) (by omega) (by omega)), a, pq.fr (e _ (by omega) (by omega) (by omega)), ⟨u, l⟩, por.fr (fun q a b => e q (by omega) (by omega) (by omega)), ph.fr (fun q a b => e q (by omega) (by omega) (by omega)), pk.fr (e _ (by omega) (by omega) (by omega))⟩
end PM
section MPUB
variable {X : Cx} {h : Hp} {z m n mx : Nat} {cs : List Nat} {B : Bk} {N : Tl} {P : List Tl} {I J : Im} {wn op : List Nat} {tr : Int64}
theorem c_M_begins_bad (p : pM h m cs B N P I J wn op n tr) (b9 : wB mx B) {t : Int32} (ht : iTn (bT B) t = false) : Ct X 3 mt_X12_begins [.ref m, .int t] (h, z) 0 0 (QP (.int (-1)) (h, z)) := by
  obtain ⟨⟨at_, bg, tk, td, rt, rn, rm, rd, mn, bd, br, po⟩, px, pr, pb, pn, pq, ⟨pu, pl⟩, por, ph, pk⟩ := id p
  refine mk_X12_begins (Nat.le_of_ble_eq_true rfl) (L := [.ref m, .int t]) rfl ?_
  refine ev_aload_n (pc := 0) dX12_begins_0 rfl ?_
  refine ev_iload_n (pc := 1) dX12_begins_1 rfl ?_
  refine iv_X12_176 (pc := 2) rfl dX12_begins_2 (by (try dsimp only); (repeat (first | rw [up_s] | rw [up_n (by omega)])) <;> first | rfl | assumption) (Nat.le_of_ble_eq_true rfl) (Nat.le_of_ble_eq_true rfl) (Nat.le_of_ble_eq_true rfl) (Nat.le_of_ble_eq_true rfl) (c_mIsTale po b9.1 t) (kp ?_)
  rw [ht]
  refine ev_if_ne (pc := 5) 10 dX12_begins_5 (by decide) (fun c_5 => ?_) (fun c_5 => ?_)
  · exact absurd rfl c_5
  · (try simp (disch := omega) only [i32_lti, i32_lei, i32_eqi, nI_toInt, i32z] at c_5)
    refine ev_iconst (pc := 8) (v := (-1)) dX12_begins_8 kc_m1 ?_
    refine ev_iret (pc := 9) dX12_begins_9 rfl rfl (Nat.le_of_ble_eq_true rfl) (Nat.le_of_ble_eq_true rfl) ?_
    exact ⟨rfl, rfl⟩
theorem c_M_begins_no (p : pM h m cs B N P I J wn op n tr) (b9 : wB mx B) (w : wT N) {k : Nat} (hk : k < bT B) (hn : mayN B N k = false) : Ct X 3 mt_X12_begins [.ref m, .int (nI k)] (h, z) 0 0 (QP (.int (-2)) (h, z)) := by
  obtain ⟨⟨at_, bg, tk, td, rt, rn, rm, rd, mn, bd, br, po⟩, px, pr, pb, pn, pq, ⟨pu, pl⟩, por, ph, pk⟩ := id p
  have po' := po
  unfold pMO at po'
  have h6 := b9.1
  rw [mayN_M] at hn
  refine mk_X12_begins (Nat.le_of_ble_eq_true rfl) (L := [.ref m, .int (nI k)]) rfl ?_
  refine ev_aload_n (pc := 0) dX12_begins_0 rfl ?_
  refine ev_iload_n (pc := 1) dX12_begins_1 rfl ?_
  refine iv_X12_176 (pc := 2) rfl dX12_begins_2 (by (try dsimp only); (repeat (first | rw [up_s] | rw [up_n (by omega)])) <;> first | rfl | assumption) (Nat.le_of_ble_eq_true rfl) (Nat.le_of_ble_eq_true rfl) (Nat.le_of_ble_eq_true rfl) (Nat.le_of_ble_eq_true rfl) (c_mIsTale po b9.1 (nI k)) (kp ?_)
  rw [iTn_nI (by omega), decide_eq_true hk]
  refine ev_if_ne (pc := 5) 10 dX12_begins_5 (by decide) (fun c_5 => ?_) (fun c_5 => ?_)
  · (try simp (disch := omega) only [i32_lti, i32_lei, i32_eqi, nI_toInt, i32z] at c_5)
    refine ev_aload_n (pc := 10) dX12_begins_10 rfl ?_
    refine iv_X12_181 (pc := 11) rfl dX12_begins_11 (by (try dsimp only); (repeat (first | rw [up_s] | rw [up_n (by omega)])) <;> first | rfl | assumption) (Nat.le_of_ble_eq_true rfl) (Nat.le_of_ble_eq_true rfl) (Nat.le_of_ble_eq_true rfl) (Nat.le_of_ble_eq_true rfl) (c_mHas po pn w.2.2.2.2.2.1) (kp ?_)
    refine ev_if_eq (pc := 14) 29 dX12_begins_14 (by decide) (fun c_14 => ?_) (fun c_14 => ?_)
    · simp only [b2i_e0, Bool.not_eq_false] at c_14
      refine ev_bipush (pc := 29) (v := (-2)) dX12_begins_29 kb_m2 ?_
      refine ev_iret (pc := 31) dX12_begins_31 rfl rfl (Nat.le_of_ble_eq_true rfl) (Nat.le_of_ble_eq_true rfl) ?_
      exact ⟨rfl, rfl⟩
    · simp only [b2i_e0, Bool.not_eq_false] at c_14
      rw [c_14, Bool.true_and] at hn
      refine ev_aload_n (pc := 17) dX12_begins_17 rfl ?_
      refine ev_aload_n (pc := 18) dX12_begins_18 rfl ?_
      refine gf_X12_31 (pc := 19) rfl dX12_begins_19 (by (try dsimp only); (repeat (first | rw [up_s] | rw [up_n (by omega)])) <;> first | rfl | assumption) ?_
      refine ev_iload_n (pc := 22) dX12_begins_22 rfl ?_
      refine iv_X12_184 (pc := 23) rfl dX12_begins_23 (by (try dsimp only); (repeat (first | rw [up_s] | rw [up_n (by omega)])) <;> first | rfl | assumption) (Nat.le_of_ble_eq_true rfl) (Nat.le_of_ble_eq_true rfl) (Nat.le_of_ble_eq_true rfl) (Nat.le_of_ble_eq_true rfl) (c_mMayBegin po pb pn w b9.1 b9.2.2.2.2.1 b9.w hk) (kp ?_)
      rw [hn]
      refine ev_if_ne (pc := 26) 32 dX12_begins_26 (by decide) (fun c_26 => ?_) (fun c_26 => ?_)
      · exact absurd rfl c_26
      · (try simp (disch := omega) only [i32_lti, i32_lei, i32_eqi, nI_toInt, i32z] at c_26)
        refine ev_bipush (pc := 29) (v := (-2)) dX12_begins_29 kb_m2 ?_
        refine ev_iret (pc := 31) dX12_begins_31 rfl rfl (Nat.le_of_ble_eq_true rfl) (Nat.le_of_ble_eq_true rfl) ?_
        exact ⟨rfl, rfl⟩
  · exact absurd c_5 (by decide)
theorem c_M_begins (p : pM h m cs B N P I J wn op n tr) (b9 : wB mx B) (g : gT B mx N) {k : Nat} (hk : k < bT B) (hn : mayN B N k = true) : Ct X 3 mt_X12_begins [.ref m, .int (nI k)] (h, z) 0 0 (Qi (fun r S' => r = nI (tH (tBeg N k)) ∧ S'.2 = z ∧ hfr h S'.1 m 17 ∧ pM S'.1 m cs B (tBeg N k) (remP P N) I J wn op n tr)) := by
  obtain ⟨⟨at_, bg, tk, td, rt, rn, rm, rd, mn, bd, br, po⟩, px, pr, pb, pn, pq, ⟨pu, pl⟩, por, ph, pk⟩ := id p
  have po' := po
  unfold pMO at po'
  have h6 := b9.1
  obtain ⟨u1, u2, u3, u4, u5⟩ := mayN_t hn
  rw [mayN_M, Bool.and_eq_true] at hn
  refine mk_X12_begins (Nat.le_of_ble_eq_true rfl) (L := [.ref m, .int (nI k)]) rfl ?_
  refine ev_aload_n (pc := 0) dX12_begins_0 rfl ?_
  refine ev_iload_n (pc := 1) dX12_begins_1 rfl ?_
  refine iv_X12_176 (pc := 2) rfl dX12_begins_2 (by (try dsimp only); (repeat (first | rw [up_s] | rw [up_n (by omega)])) <;> first | rfl | assumption) (Nat.le_of_ble_eq_true rfl) (Nat.le_of_ble_eq_true rfl) (Nat.le_of_ble_eq_true rfl) (Nat.le_of_ble_eq_true rfl) (c_mIsTale po b9.1 (nI k)) (kp ?_)
  rw [iTn_nI (by omega), decide_eq_true hk]
  refine ev_if_ne (pc := 5) 10 dX12_begins_5 (by decide) (fun c_5 => ?_) (fun c_5 => ?_)
  · (try simp (disch := omega) only [i32_lti, i32_lei, i32_eqi, nI_toInt, i32z] at c_5)
    refine ev_aload_n (pc := 10) dX12_begins_10 rfl ?_
    refine iv_X12_181 (pc := 11) rfl dX12_begins_11 (by (try dsimp only); (repeat (first | rw [up_s] | rw [up_n (by omega)])) <;> first | rfl | assumption) (Nat.le_of_ble_eq_true rfl) (Nat.le_of_ble_eq_true rfl) (Nat.le_of_ble_eq_true rfl) (Nat.le_of_ble_eq_true rfl) (c_mHas po pn g.1.2.2.2.2.2.1) (kp ?_)
    rw [hn.1]
    refine ev_if_eq (pc := 14) 29 dX12_begins_14 (by decide) (fun c_14 => ?_) (fun c_14 => ?_)
    · exact absurd c_14 (by decide)
    · (try simp (disch := omega) only [i32_lti, i32_lei, i32_eqi, nI_toInt, i32z] at c_14)
      refine ev_aload_n (pc := 17) dX12_begins_17 rfl ?_
      refine ev_aload_n (pc := 18) dX12_begins_18 rfl ?_
      refine gf_X12_31 (pc := 19) rfl dX12_begins_19 (by (try dsimp only); (repeat (first | rw [up_s] | rw [up_n (by omega)])) <;> first | rfl | assumption) ?_
      refine ev_iload_n (pc := 22) dX12_begins_22 rfl ?_
      refine iv_X12_184 (pc := 23) rfl dX12_begins_23 (by (try dsimp only); (repeat (first | rw [up_s] | rw [up_n (by omega)])) <;> first | rfl | assumption) (Nat.le_of_ble_eq_true rfl) (Nat.le_of_ble_eq_true rfl) (Nat.le_of_ble_eq_true rfl) (Nat.le_of_ble_eq_true rfl) (c_mMayBegin po pb pn g.1 b9.1 b9.2.2.2.2.1 b9.w hk) (kp ?_)
      rw [hn.2]
      refine ev_if_ne (pc := 26) 32 dX12_begins_26 (by decide) (fun c_26 => ?_) (fun c_26 => ?_)
      · (try simp (disch := omega) only [i32_lti, i32_lei, i32_eqi, nI_toInt, i32z] at c_26)
        refine ev_aload_n (pc := 32) dX12_begins_32 rfl ?_
        refine iv_X12_188 (pc := 33) rfl dX12_begins_33 (by (try dsimp only); (repeat (first | rw [up_s] | rw [up_n (by omega)])) <;> first | rfl | assumption) (Nat.le_of_ble_eq_true rfl) (Nat.le_of_ble_eq_true rfl) (Nat.le_of_ble_eq_true rfl) (Nat.le_of_ble_eq_true rfl) (c_mNotes po pn pu pl) (kv (fun S' hS => ?_))
        obtain ⟨h1, z'⟩ := S'
        obtain ⟨rfl, f1, o1, pu1⟩ := hS
        have o1' := o1
        unfold pMO at o1'
        have pn1 : pRw h1 (m + 8) N := (f1 _ (by omega) (by omega)).trans pn
        refine ev_aload_n (pc := 36) dX12_begins_36 rfl ?_
        refine gf_X12_31 (pc := 37) rfl dX12_begins_37 (by (try dsimp only); (repeat (first | rw [up_s] | rw [up_n (by omega)])) <;> first | rfl | assumption) ?_
        refine ev_iload_n (pc := 40) dX12_begins_40 rfl ?_
        refine iv_X12_191 (pc := 41) rfl dX12_begins_41 (Nat.le_of_ble_eq_true rfl) (Nat.le_of_ble_eq_true rfl) (Nat.le_of_ble_eq_true rfl) (Nat.le_of_ble_eq_true rfl) (c_goesIn pn1 g.1 (by omega) u3 u2 (g.2.1 k hk u3)) (kv (fun S' hS => ?_))
        obtain ⟨h2, z'⟩ := S'
        obtain ⟨rfl, f2, pn2⟩ := hS
        have o2 := (f2 m (by omega)).trans o1'
        have pn2' := pn2
        unfold pRw at pn2'
        refine ev_aload_n (pc := 44) dX12_begins_44 rfl ?_
        refine gf_X12_31 (pc := 45) rfl dX12_begins_45 (by (try dsimp only); (repeat (first | rw [up_s] | rw [up_n (by omega)])) <;> first | rfl | assumption) ?_
        refine ev_iconst (pc := 48) (v := nI 1) dX12_begins_48 kc_1 ?_
        refine ev_iald (pc := 49) dX12_begins_49 (by (try dsimp only); (repeat (first | rw [up_s] | rw [up_n (by omega)])) <;> first | rfl | assumption) (nI_toInt (by omega)) (x_1 _) ?_
        refine ev_iret (pc := 50) dX12_begins_50 rfl rfl (Nat.le_of_ble_eq_true rfl) (Nat.le_of_ble_eq_true rfl) ?_
        exact ⟨_, rfl, rfl, rfl, (fun q a => (f2 q (by omega)).trans (f1 q (by omega) (by omega))), p.st (fun q a b c => (f2 q (by omega)).trans (f1 q a c)) ⟨at_, bg, tk, td, rt, rn, rm, rd, mn, bd, br, o2⟩ pn2 (pu1.fr (f2 _ (by omega))) (remP_len pl)⟩
      · exact absurd c_26 (by decide)
  · exact absurd c_5 (by decide)
theorem c_M_tells_no (p : pM h m cs B N P I J wn op n tr) (w : wT N) (hn : ¬ ((tV N && decide (0 < tH N)) = true ∧ 0 < (tO N).length)) : Ct X 2 mt_X12_tells [.ref m] (h, z) 0 0 (QP (.int (-2)) (h, z)) := by
  obtain ⟨⟨at_, bg, tk, td, rt, rn, rm, rd, mn, bd, br, po⟩, px, pr, pb, pn, pq, ⟨pu, pl⟩, por, ph, pk⟩ := id p
  have po' := po
  unfold pMO at po'
  have pn' := pn
  unfold pRw at pn'
  have hl := w.2.2.2.1
  refine mk_X12_tells (Nat.le_of_ble_eq_true rfl) (L := [.ref m]) rfl ?_
  refine ev_aload_n (pc := 0) dX12_tells_0 rfl ?_
  refine iv_X12_181 (pc := 1) rfl dX12_tells_1 (by (try dsimp only); (repeat (first | rw [up_s] | rw [up_n (by omega)])) <;> first | rfl | assumption) (Nat.le_of_ble_eq_true rfl) (Nat.le_of_ble_eq_true rfl) (Nat.le_of_ble_eq_true rfl) (Nat.le_of_ble_eq_true rfl) (c_mHas po pn w.2.2.2.2.2.1) (kp ?_)
  refine ev_if_eq (pc := 4) 16 dX12_tells_4 (by decide) (fun c_4 => ?_) (fun c_4 => ?_)
  · simp only [b2i_e0, Bool.not_eq_false] at c_4
    refine ev_bipush (pc := 16) (v := (-2)) dX12_tells_16 kb_m2 ?_
    refine ev_iret (pc := 18) dX12_tells_18 rfl rfl (Nat.le_of_ble_eq_true rfl) (Nat.le_of_ble_eq_true rfl) ?_
    exact ⟨rfl, rfl⟩
  · simp only [b2i_e0, Bool.not_eq_false] at c_4
    refine ev_aload_n (pc := 7) dX12_tells_7 rfl ?_
    refine gf_X12_31 (pc := 8) rfl dX12_tells_8 (by (try dsimp only); (repeat (first | rw [up_s] | rw [up_n (by omega)])) <;> first | rfl | assumption) ?_
    refine ev_iconst (pc := 11) (v := nI 2) dX12_tells_11 kc_2 ?_
    refine ev_iald (pc := 12) dX12_tells_12 (by (try dsimp only); (repeat (first | rw [up_s] | rw [up_n (by omega)])) <;> first | rfl | assumption) (nI_toInt (by omega)) (x_2 _) ?_
    refine ev_if_ne (pc := 13) 19 dX12_tells_13 (by decide) (fun c_13 => ?_) (fun c_13 => ?_)
    · exfalso; (try simp (disch := omega) only [i32_lti, i32_lei, i32_eqi, nI_toInt, i32z] at c_13); exact hn ⟨c_4, by omega⟩
    · (try simp (disch := omega) only [i32_lti, i32_lei, i32_eqi, nI_toInt, i32z] at c_13)
      refine ev_bipush (pc := 16) (v := (-2)) dX12_tells_16 kb_m2 ?_
      refine ev_iret (pc := 18) dX12_tells_18 rfl rfl (Nat.le_of_ble_eq_true rfl) (Nat.le_of_ble_eq_true rfl) ?_
      exact ⟨rfl, rfl⟩
theorem c_M_tells (p : pM h m cs B N P I J wn op n tr) (w : wT N) (h1 : (tV N && decide (0 < tH N)) = true) (h2 : 0 < (tO N).length) : Ct X 2 mt_X12_tells [.ref m] (h, z) 0 0 (Qi (fun r S' => r = nI (tH (tlT N)) ∧ S'.2 = z ∧ hfr h S'.1 m 17 ∧ pM S'.1 m cs B (tlT N) (remP P N) I J wn op n tr)) := by
  obtain ⟨⟨at_, bg, tk, td, rt, rn, rm, rd, mn, bd, br, po⟩, px, pr, pb, pn, pq, ⟨pu, pl⟩, por, ph, pk⟩ := id p
  have po' := po
  unfold pMO at po'
  have pn' := pn
  unfold pRw at pn'
  have hl := w.2.2.2.1
  have hv : tV N = true ∧ 0 < tH N := by simpa using h1
  have ⟨t, ht⟩ : ∃ t, (tO N).getLast? = some t := by
    cases e : (tO N).getLast? with
    | none => rw [List.getLast?_eq_none_iff] at e; rw [e] at h2; cases h2
    | some t => exact ⟨t, rfl⟩
  have et : tlT N = tPart N t 1 := by unfold tlT; rw [ht]
  rw [et]
  refine mk_X12_tells (Nat.le_of_ble_eq_true rfl) (L := [.ref m]) rfl ?_
  refine ev_aload_n (pc := 0) dX12_tells_0 rfl ?_
  refine iv_X12_181 (pc := 1) rfl dX12_tells_1 (by (try dsimp only); (repeat (first | rw [up_s] | rw [up_n (by omega)])) <;> first | rfl | assumption) (Nat.le_of_ble_eq_true rfl) (Nat.le_of_ble_eq_true rfl) (Nat.le_of_ble_eq_true rfl) (Nat.le_of_ble_eq_true rfl) (c_mHas po pn w.2.2.2.2.2.1) (kp ?_)
  rw [h1]
  refine ev_if_eq (pc := 4) 16 dX12_tells_4 (by decide) (fun c_4 => ?_) (fun c_4 => ?_)
  · exact absurd c_4 (by decide)
  · (try simp (disch := omega) only [i32_lti, i32_lei, i32_eqi, nI_toInt, i32z] at c_4)
    refine ev_aload_n (pc := 7) dX12_tells_7 rfl ?_
    refine gf_X12_31 (pc := 8) rfl dX12_tells_8 (by (try dsimp only); (repeat (first | rw [up_s] | rw [up_n (by omega)])) <;> first | rfl | assumption) ?_
    refine ev_iconst (pc := 11) (v := nI 2) dX12_tells_11 kc_2 ?_
    refine ev_iald (pc := 12) dX12_tells_12 (by (try dsimp only); (repeat (first | rw [up_s] | rw [up_n (by omega)])) <;> first | rfl | assumption) (nI_toInt (by omega)) (x_2 _) ?_
    refine ev_if_ne (pc := 13) 19 dX12_tells_13 (by decide) (fun c_13 => ?_) (fun c_13 => ?_)
    · (try simp (disch := omega) only [i32_lti, i32_lei, i32_eqi, nI_toInt, i32z] at c_13)
      refine ev_aload_n (pc := 19) dX12_tells_19 rfl ?_
      refine iv_X12_188 (pc := 20) rfl dX12_tells_20 (by (try dsimp only); (repeat (first | rw [up_s] | rw [up_n (by omega)])) <;> first | rfl | assumption) (Nat.le_of_ble_eq_true rfl) (Nat.le_of_ble_eq_true rfl) (Nat.le_of_ble_eq_true rfl) (Nat.le_of_ble_eq_true rfl) (c_mNotes po pn pu pl) (kv (fun S' hS => ?_))
      obtain ⟨h1, z'⟩ := S'
      obtain ⟨rfl, f1, o1, pu1⟩ := hS
      have o1' := o1
      unfold pMO at o1'
      have pn1 : pRw h1 (m + 8) N := (f1 _ (by omega) (by omega)).trans pn
      refine ev_aload_n (pc := 23) dX12_tells_23 rfl ?_
      refine gf_X12_31 (pc := 24) rfl dX12_tells_24 (by (try dsimp only); (repeat (first | rw [up_s] | rw [up_n (by omega)])) <;> first | rfl | assumption) ?_
      refine iv_X12_172 (pc := 27) rfl dX12_tells_27 (Nat.le_of_ble_eq_true rfl) (Nat.le_of_ble_eq_true rfl) (Nat.le_of_ble_eq_true rfl) (Nat.le_of_ble_eq_true rfl) (c_goesOn pn1 w ht hv.2) (kv (fun S' hS => ?_))
      obtain ⟨h2, z'⟩ := S'
      obtain ⟨rfl, f2, pn2⟩ := hS
      have o2 := (f2 m (by omega)).trans o1'
      have pn2' := pn2
      unfold pRw at pn2'
      refine ev_aload_n (pc := 30) dX12_tells_30 rfl ?_
      refine gf_X12_31 (pc := 31) rfl dX12_tells_31 (by (try dsimp only); (repeat (first | rw [up_s] | rw [up_n (by omega)])) <;> first | rfl | assumption) ?_
      refine ev_iconst (pc := 34) (v := nI 1) dX12_tells_34 kc_1 ?_
      refine ev_iald (pc := 35) dX12_tells_35 (by (try dsimp only); (repeat (first | rw [up_s] | rw [up_n (by omega)])) <;> first | rfl | assumption) (nI_toInt (by omega)) (x_1 _) ?_
      refine ev_iret (pc := 36) dX12_tells_36 rfl rfl (Nat.le_of_ble_eq_true rfl) (Nat.le_of_ble_eq_true rfl) ?_
      exact ⟨_, rfl, rfl, rfl, (fun q a => (f2 q (by omega)).trans (f1 q (by omega) (by omega))), p.st (fun q a b c => (f2 q (by omega)).trans (f1 q a c)) ⟨at_, bg, tk, td, rt, rn, rm, rd, mn, bd, br, o2⟩ pn2 (pu1.fr (f2 _ (by omega))) (remP_len pl)⟩
    · exfalso; (try simp (disch := omega) only [i32_lti, i32_lei, i32_eqi, nI_toInt, i32z] at c_13); omega
theorem ru_1 {T : Tl} {x : Nat} : ar 28 (ru (eT T) 1 (nI x)) = ar 28 (eT (tN T, x, tS T, tV T, tB T, tO T, tF T, tA T)) := by
  apply ar_ext
  intro j hj
  by_cases q : j = 1
  · subst q; rfl
  · rw [ru_n q]; unfold eT; rw [if_neg q, if_neg q]
theorem c_M_silent_no (p : pM h m cs B N P I J wn op n tr) (w : wT N) (hn : (tV N && decide (0 < tH N)) = false) : Ct X 1 mt_X12_silent [.ref m] (h, z) 0 0 (QP (.int (-2)) (h, z)) := by
  obtain ⟨⟨at_, bg, tk, td, rt, rn, rm, rd, mn, bd, br, po⟩, px, pr, pb, pn, pq, ⟨pu, pl⟩, por, ph, pk⟩ := id p
  refine mk_X12_silent (Nat.le_of_ble_eq_true rfl) (L := [.ref m]) rfl ?_
  refine ev_aload_n (pc := 0) dX12_silent_0 rfl ?_
  refine iv_X12_181 (pc := 1) rfl dX12_silent_1 (by (try dsimp only); (repeat (first | rw [up_s] | rw [up_n (by omega)])) <;> first | rfl | assumption) (Nat.le_of_ble_eq_true rfl) (Nat.le_of_ble_eq_true rfl) (Nat.le_of_ble_eq_true rfl) (Nat.le_of_ble_eq_true rfl) (c_mHas po pn w.2.2.2.2.2.1) (kp ?_)
  rw [hn]
  refine ev_if_ne (pc := 4) 10 dX12_silent_4 (by decide) (fun c_4 => ?_) (fun c_4 => ?_)
  · exact absurd rfl c_4
  · (try simp (disch := omega) only [i32_lti, i32_lei, i32_eqi, nI_toInt, i32z] at c_4)
    refine ev_bipush (pc := 7) (v := (-2)) dX12_silent_7 kb_m2 ?_
    refine ev_iret (pc := 9) dX12_silent_9 rfl rfl (Nat.le_of_ble_eq_true rfl) (Nat.le_of_ble_eq_true rfl) ?_
    exact ⟨rfl, rfl⟩
theorem c_M_silent (p : pM h m cs B N P I J wn op n tr) (w : wT N) (h1 : (tV N && decide (0 < tH N)) = true) : Ct X 1 mt_X12_silent [.ref m] (h, z) 0 0 (Qi (fun r S' => r = nI (tH (siT N)) ∧ S'.2 = z ∧ hfr h S'.1 m 17 ∧ pM S'.1 m cs B (siT N) (remP P N) I J wn op n tr)) := by
  obtain ⟨⟨at_, bg, tk, td, rt, rn, rm, rd, mn, bd, br, po⟩, px, pr, pb, pn, pq, ⟨pu, pl⟩, por, ph, pk⟩ := id p
  have hv : tV N = true ∧ 0 < tH N := by simpa using h1
  refine mk_X12_silent (Nat.le_of_ble_eq_true rfl) (L := [.ref m]) rfl ?_
  refine ev_aload_n (pc := 0) dX12_silent_0 rfl ?_
  refine iv_X12_181 (pc := 1) rfl dX12_silent_1 (by (try dsimp only); (repeat (first | rw [up_s] | rw [up_n (by omega)])) <;> first | rfl | assumption) (Nat.le_of_ble_eq_true rfl) (Nat.le_of_ble_eq_true rfl) (Nat.le_of_ble_eq_true rfl) (Nat.le_of_ble_eq_true rfl) (c_mHas po pn w.2.2.2.2.2.1) (kp ?_)
  rw [h1]
  refine ev_if_ne (pc := 4) 10 dX12_silent_4 (by decide) (fun c_4 => ?_) (fun c_4 => ?_)
  · (try simp (disch := omega) only [i32_lti, i32_lei, i32_eqi, nI_toInt, i32z] at c_4)
    refine ev_aload_n (pc := 10) dX12_silent_10 rfl ?_
    refine iv_X12_188 (pc := 11) rfl dX12_silent_11 (by (try dsimp only); (repeat (first | rw [up_s] | rw [up_n (by omega)])) <;> first | rfl | assumption) (Nat.le_of_ble_eq_true rfl) (Nat.le_of_ble_eq_true rfl) (Nat.le_of_ble_eq_true rfl) (Nat.le_of_ble_eq_true rfl) (c_mNotes po pn pu pl) (kv (fun S' hS => ?_))
    obtain ⟨h1, z'⟩ := S'
    obtain ⟨rfl, f1, o1, pu1⟩ := hS
    have o1' := o1
    unfold pMO at o1'
    have pn1 : h1 (m + 8) = some (.inr (0, .inl (ar 28 (eT N)))) := (f1 _ (by omega) (by omega)).trans pn
    refine ev_aload_n (pc := 14) dX12_silent_14 rfl ?_
    refine gf_X12_31 (pc := 15) rfl dX12_silent_15 (by (try dsimp only); (repeat (first | rw [up_s] | rw [up_n (by omega)])) <;> first | rfl | assumption) ?_
    refine ev_iconst (pc := 18) (v := nI 1) dX12_silent_18 kc_1 ?_
    refine ev_dup2 (pc := 19) dX12_silent_19 rfl rfl ?_
    refine ev_iald (pc := 20) dX12_silent_20 (by (try dsimp only); (repeat (first | rw [up_s] | rw [up_n (by omega)])) <;> first | rfl | assumption) (nI_toInt (by omega)) (x_1 _) ?_
    refine ev_iconst (pc := 21) (v := nI 1) dX12_silent_21 kc_1 ?_
    refine ev_isub (pc := 22) dX12_silent_22 ?_
    rw [nI_sub1 hv.2]
    refine ev_iast (pc := 23) dX12_silent_23 (by (try dsimp only); (repeat (first | rw [up_s] | rw [up_n (by omega)])) <;> first | rfl | assumption) (nI_toInt (by omega)) (by rw [ar_len]; omega) ?_
    rw [ar_set (by omega)]
    refine ev_aload_n (pc := 24) dX12_silent_24 rfl ?_
    refine gf_X12_31 (pc := 25) rfl dX12_silent_25 (by (try dsimp only); (repeat (first | rw [up_s] | rw [up_n (by omega)])) <;> first | rfl | assumption) ?_
    refine ev_iconst (pc := 28) (v := nI 1) dX12_silent_28 kc_1 ?_
    refine ev_iald (pc := 29) dX12_silent_29 (by (try dsimp only); (repeat (first | rw [up_s] | rw [up_n (by omega)])) <;> first | rfl | assumption) (nI_toInt (by omega)) (xg (by omega) ru_s) ?_
    refine ev_iret (pc := 30) dX12_silent_30 rfl rfl (Nat.le_of_ble_eq_true rfl) (Nat.le_of_ble_eq_true rfl) ?_
    exact ⟨_, rfl, rfl, rfl, (by intro q a; (try dsimp only); rw [up_n (by omega)]; exact f1 q (by omega) (by omega)), p.st (by intro q a b c; (try dsimp only); rw [up_n (by omega)]; exact f1 q a c) ⟨at_, bg, tk, td, rt, rn, rm, rd, mn, bd, br, (by unfold pMO; exact (by (try dsimp only); (repeat (first | rw [up_s] | rw [up_n (by omega)])) <;> first | rfl | assumption))⟩ ((up_s _ _ _).trans (congrArg (fun l => (some (.inr (0, .inl l)) : Option Ob)) ru_1)) (pu1.fr (by (try dsimp only); rw [up_n (by omega)])) (remP_len pl)⟩
  · exact absurd c_4 (by decide)
theorem c_M_dawn_no (p : pM h m cs B N P I J wn op n tr) (w : wT N) (h99 : tN N ≤ 99) (hn : (tV N && (decide (tH N = 0) && decide (tN N < 99))) = false) : Ct X 2 mt_X12_dawn [.ref m] (h, z) 0 0 (QP (.int (-2)) (h, z)) := by
  obtain ⟨⟨at_, bg, tk, td, rt, rn, rm, rd, mn, bd, br, po⟩, px, pr, pb, pn, pq, ⟨pu, pl⟩, por, ph, pk⟩ := id p
  unfold pMO at po
  unfold pRw at pn
  have hH := w.2.2.2.2.2.1
  refine mk_X12_dawn (Nat.le_of_ble_eq_true rfl) (L := [.ref m, .retAddr 0]) rfl ?_
  refine ev_aload_n (pc := 0) dX12_dawn_0 rfl ?_
  refine gf_X12_31 (pc := 1) rfl dX12_dawn_1 (by (try dsimp only); (repeat (first | rw [up_s] | rw [up_n (by omega)])) <;> first | rfl | assumption) ?_
  refine ev_iconst (pc := 4) (v := nI 3) dX12_dawn_4 kc_3 ?_
  refine ev_iald (pc := 5) dX12_dawn_5 (by (try dsimp only); (repeat (first | rw [up_s] | rw [up_n (by omega)])) <;> first | rfl | assumption) (nI_toInt (by omega)) (x_3 _) ?_
  refine ev_if_eq (pc := 6) 29 dX12_dawn_6 (by decide) (fun c_6 => ?_) (fun c_6 => ?_)
  · simp only [b2i_e0, Bool.not_eq_false] at c_6
    refine ev_bipush (pc := 29) (v := (-2)) dX12_dawn_29 kb_m2 ?_
    refine ev_iret (pc := 31) dX12_dawn_31 rfl rfl (Nat.le_of_ble_eq_true rfl) (Nat.le_of_ble_eq_true rfl) ?_
    exact ⟨rfl, rfl⟩
  · simp only [b2i_e0, Bool.not_eq_false] at c_6
    refine ev_aload_n (pc := 9) dX12_dawn_9 rfl ?_
    refine gf_X12_31 (pc := 10) rfl dX12_dawn_10 (by (try dsimp only); (repeat (first | rw [up_s] | rw [up_n (by omega)])) <;> first | rfl | assumption) ?_
    refine ev_iconst (pc := 13) (v := nI 1) dX12_dawn_13 kc_1 ?_
    refine ev_iald (pc := 14) dX12_dawn_14 (by (try dsimp only); (repeat (first | rw [up_s] | rw [up_n (by omega)])) <;> first | rfl | assumption) (nI_toInt (by omega)) (x_1 _) ?_
    refine ev_if_gt (pc := 15) 29 dX12_dawn_15 (by decide) (fun c_15 => ?_) (fun c_15 => ?_)
    · (try simp (disch := omega) only [i32_lti, i32_lei, i32_eqi, nI_toInt, i32z] at c_15)
      refine ev_bipush (pc := 29) (v := (-2)) dX12_dawn_29 kb_m2 ?_
      refine ev_iret (pc := 31) dX12_dawn_31 rfl rfl (Nat.le_of_ble_eq_true rfl) (Nat.le_of_ble_eq_true rfl) ?_
      exact ⟨rfl, rfl⟩
    · (try simp (disch := omega) only [i32_lti, i32_lei, i32_eqi, nI_toInt, i32z] at c_15)
      refine ev_aload_n (pc := 18) dX12_dawn_18 rfl ?_
      refine gf_X12_31 (pc := 19) rfl dX12_dawn_19 (by (try dsimp only); (repeat (first | rw [up_s] | rw [up_n (by omega)])) <;> first | rfl | assumption) ?_
      refine ev_iconst (pc := 22) (v := nI 0) dX12_dawn_22 kc_0 ?_
      refine ev_iald (pc := 23) dX12_dawn_23 (by (try dsimp only); (repeat (first | rw [up_s] | rw [up_n (by omega)])) <;> first | rfl | assumption) (nI_toInt (by omega)) (x_0 _) ?_
      refine ev_bipush (pc := 24) (v := nI 99) dX12_dawn_24 kb_99 ?_
      refine ev_icmp_ne (pc := 26) 32 dX12_dawn_26 (by decide) (fun c_26 => ?_) (fun c_26 => ?_)
      · exfalso; (try simp (disch := omega) only [i32_lti, i32_lei, i32_eqi, nI_toInt, i32z] at c_26); rw [c_6, decide_eq_true (show tH N = 0 by omega), decide_eq_true (show tN N < 99 by omega)] at hn; cases hn
      · (try simp (disch := omega) only [i32_lti, i32_lei, i32_eqi, nI_toInt, i32z] at c_26)
        refine ev_bipush (pc := 29) (v := (-2)) dX12_dawn_29 kb_m2 ?_
        refine ev_iret (pc := 31) dX12_dawn_31 rfl rfl (Nat.le_of_ble_eq_true rfl) (Nat.le_of_ble_eq_true rfl) ?_
        exact ⟨rfl, rfl⟩
theorem c_M_dawn (p : pM h m cs B N P I J wn op n tr) (b9 : wB mx B) (w : wT N) (h1 : (tV N && (decide (tH N = 0) && decide (tN N < 99))) = true) : Ct X 2 mt_X12_dawn [.ref m] (h, z) 0 0 (Qi (fun r S' => r = b2i (dawnOk B N) ∧ S'.2 = z ∧ hfr h S'.1 m 17 ∧ pM S'.1 m cs B (dawnT B N) (remP P N) I J wn op n tr)) := by
  obtain ⟨⟨at_, bg, tk, td, rt, rn, rm, rd, mn, bd, br, po⟩, px, pr, pb, pn, pq, ⟨pu, pl⟩, por, ph, pk⟩ := id p
  have po' := po
  unfold pMO at po'
  have pn' := pn
  unfold pRw at pn'
  simp only [Bool.and_eq_true, decide_eq_true_eq] at h1
  obtain ⟨hv, hH, hN⟩ := h1
  have es : nI (tS N) + b2i (dawnOk B N) = nI (tS (dawnT B N)) := by
    unfold dawnT
    cases hd : dawnOk B N with
    | false => rw [if_neg (by decide)]; show nI (tS N) + nI 0 = nI (tS N); rw [nI_add, Nat.add_zero]
    | true => rw [if_pos rfl]; show nI (tS N) + nI 1 = nI (tS N + 1); rw [nI_add]
  refine mk_X12_dawn (Nat.le_of_ble_eq_true rfl) (L := [.ref m, .retAddr 0]) rfl ?_
  refine ev_aload_n (pc := 0) dX12_dawn_0 rfl ?_
  refine gf_X12_31 (pc := 1) rfl dX12_dawn_1 (by (try dsimp only); (repeat (first | rw [up_s] | rw [up_n (by omega)])) <;> first | rfl | assumption) ?_
  refine ev_iconst (pc := 4) (v := nI 3) dX12_dawn_4 kc_3 ?_
  refine ev_iald (pc := 5) dX12_dawn_5 (by (try dsimp only); (repeat (first | rw [up_s] | rw [up_n (by omega)])) <;> first | rfl | assumption) (nI_toInt (by omega)) (x_3 _) ?_
  refine ev_if_eq (pc := 6) 29 dX12_dawn_6 (by decide) (fun c_6 => ?_) (fun c_6 => ?_)
  · rw [hv] at c_6; cases c_6
  · simp only [b2i_e0, Bool.not_eq_false] at c_6
    refine ev_aload_n (pc := 9) dX12_dawn_9 rfl ?_
    refine gf_X12_31 (pc := 10) rfl dX12_dawn_10 (by (try dsimp only); (repeat (first | rw [up_s] | rw [up_n (by omega)])) <;> first | rfl | assumption) ?_
    refine ev_iconst (pc := 13) (v := nI 1) dX12_dawn_13 kc_1 ?_
    refine ev_iald (pc := 14) dX12_dawn_14 (by (try dsimp only); (repeat (first | rw [up_s] | rw [up_n (by omega)])) <;> first | rfl | assumption) (nI_toInt (by omega)) (x_1 _) ?_
    refine ev_if_gt (pc := 15) 29 dX12_dawn_15 (by decide) (fun c_15 => ?_) (fun c_15 => ?_)
    · exfalso; (try simp (disch := omega) only [i32_lti, i32_lei, i32_eqi, nI_toInt, i32z] at c_15); omega
    · (try simp (disch := omega) only [i32_lti, i32_lei, i32_eqi, nI_toInt, i32z] at c_15)
      refine ev_aload_n (pc := 18) dX12_dawn_18 rfl ?_
      refine gf_X12_31 (pc := 19) rfl dX12_dawn_19 (by (try dsimp only); (repeat (first | rw [up_s] | rw [up_n (by omega)])) <;> first | rfl | assumption) ?_
      refine ev_iconst (pc := 22) (v := nI 0) dX12_dawn_22 kc_0 ?_
      refine ev_iald (pc := 23) dX12_dawn_23 (by (try dsimp only); (repeat (first | rw [up_s] | rw [up_n (by omega)])) <;> first | rfl | assumption) (nI_toInt (by omega)) (x_0 _) ?_
      refine ev_bipush (pc := 24) (v := nI 99) dX12_dawn_24 kb_99 ?_
      refine ev_icmp_ne (pc := 26) 32 dX12_dawn_26 (by decide) (fun c_26 => ?_) (fun c_26 => ?_)
      · (try simp (disch := omega) only [i32_lti, i32_lei, i32_eqi, nI_toInt, i32z] at c_26)
        refine ev_aload_n (pc := 32) dX12_dawn_32 rfl ?_
        refine iv_X12_188 (pc := 33) rfl dX12_dawn_33 (by (try dsimp only); (repeat (first | rw [up_s] | rw [up_n (by omega)])) <;> first | rfl | assumption) (Nat.le_of_ble_eq_true rfl) (Nat.le_of_ble_eq_true rfl) (Nat.le_of_ble_eq_true rfl) (Nat.le_of_ble_eq_true rfl) (c_mNotes po pn pu pl) (kv (fun S' hS => ?_))
        obtain ⟨h1, z'⟩ := S'
        obtain ⟨rfl, f1, o1, pu1⟩ := hS
        have o1' := o1
        unfold pMO at o1'
        have pn1 : pRw h1 (m + 8) N := (f1 _ (by omega) (by omega)).trans pn
        have pb1 := pb.fr (h' := h1) (fun q a b => f1 q (by omega) (by omega))
        refine ev_aload_n (pc := 36) dX12_dawn_36 rfl ?_
        refine ev_aload_n (pc := 37) dX12_dawn_37 rfl ?_
        refine gf_X12_31 (pc := 38) rfl dX12_dawn_38 (by (try dsimp only); (repeat (first | rw [up_s] | rw [up_n (by omega)])) <;> first | rfl | assumption) ?_
        refine iv_X12_195 (pc := 41) rfl dX12_dawn_41 (by (try dsimp only); (repeat (first | rw [up_s] | rw [up_n (by omega)])) <;> first | rfl | assumption) (Nat.le_of_ble_eq_true rfl) (Nat.le_of_ble_eq_true rfl) (Nat.le_of_ble_eq_true rfl) (Nat.le_of_ble_eq_true rfl) (c_mDawns o1 pb1 pn1 w hv (Or.inl rfl) b9.2.1 b9.2.2.1 b9.2.2.2.1) (ki (fun r S' hS => ?_))
        obtain ⟨h2, z'⟩ := S'
        obtain ⟨rfl, rfl, f2, pn2⟩ := hS
        have o2 := (f2 m (by omega)).trans o1'
        refine ev_istore_n (pc := 44) (L' := [_, _]) dX12_dawn_44 (Nat.le_of_ble_eq_true rfl) rfl ?_
        refine ev_aload_n (pc := 45) dX12_dawn_45 rfl ?_
        refine ev_dup (pc := 46) dX12_dawn_46 rfl ?_
        refine gf_X12_152 (pc := 47) rfl dX12_dawn_47 (by (try dsimp only); (repeat (first | rw [up_s] | rw [up_n (by omega)])) <;> first | rfl | assumption) ?_
        refine ev_iload_n (pc := 50) dX12_dawn_50 rfl ?_
        refine ev_if_eq (pc := 51) 58 dX12_dawn_51 (by decide) (fun c_51 => ?_) (fun c_51 => ?_)
        · simp only [b2i_e0, Bool.not_eq_false] at c_51
          refine ev_iconst (pc := 58) (v := nI 0) dX12_dawn_58 kc_0 ?_
          refine ev_iadd (pc := 59) dX12_dawn_59 ?_
          (first | rw [show nI (tS N) + nI 1 = nI (tS (dawnT B N)) by rw [← es, c_51]; rfl] | rw [show nI (tS N) + nI 0 = nI (tS (dawnT B N)) by rw [← es, c_51]; rfl])
          refine pf_X12_152 (pc := 60) rfl dX12_dawn_60 (by (try dsimp only); (repeat (first | rw [up_s] | rw [up_n (by omega)])) <;> first | rfl | assumption) ?_
          refine ev_iload_n (pc := 63) dX12_dawn_63 rfl ?_
          refine ev_if_eq (pc := 64) 71 dX12_dawn_64 (by decide) (fun c_64 => ?_) (fun c_64 => ?_)
          · simp only [b2i_e0, Bool.not_eq_false] at c_64
            refine ev_iconst (pc := 71) (v := nI 0) dX12_dawn_71 kc_0 ?_
            refine ev_iret (pc := 72) dX12_dawn_72 rfl rfl (Nat.le_of_ble_eq_true rfl) (Nat.le_of_ble_eq_true rfl) ?_
            first | exact absurd (c_64.symm.trans c_51) (by decide) | exact ⟨_, rfl, by rw [c_64]; rfl, rfl, (by intro q a; (try dsimp only); rw [up_n (by omega)]; exact (f2 q (by omega)).trans (f1 q (by omega) (by omega))), p.st (by intro q a b c; (try dsimp only); rw [up_n (by omega)]; exact (f2 q (by omega)).trans (f1 q a c)) ⟨at_, bg, tk, td, rt, rn, rm, rd, mn, bd, br, (by unfold pMO; exact (by (try dsimp only); (repeat (first | rw [up_s] | rw [up_n (by omega)])) <;> first | rfl | assumption))⟩ (show _ = _ from (up_n (by omega)).trans pn2) (pu1.fr (by (try dsimp only); rw [up_n (by omega)]; exact f2 _ (by omega))) (remP_len pl)⟩
          · simp only [b2i_e0, Bool.not_eq_false] at c_64
            refine ev_iconst (pc := 67) (v := nI 1) dX12_dawn_67 kc_1 ?_
            refine ev_goto (pc := 68) 72 dX12_dawn_68 (by decide) ?_
            refine ev_iret (pc := 72) dX12_dawn_72 rfl rfl (Nat.le_of_ble_eq_true rfl) (Nat.le_of_ble_eq_true rfl) ?_
            first | exact absurd (c_64.symm.trans c_51) (by decide) | exact ⟨_, rfl, by rw [c_64]; rfl, rfl, (by intro q a; (try dsimp only); rw [up_n (by omega)]; exact (f2 q (by omega)).trans (f1 q (by omega) (by omega))), p.st (by intro q a b c; (try dsimp only); rw [up_n (by omega)]; exact (f2 q (by omega)).trans (f1 q a c)) ⟨at_, bg, tk, td, rt, rn, rm, rd, mn, bd, br, (by unfold pMO; exact (by (try dsimp only); (repeat (first | rw [up_s] | rw [up_n (by omega)])) <;> first | rfl | assumption))⟩ (show _ = _ from (up_n (by omega)).trans pn2) (pu1.fr (by (try dsimp only); rw [up_n (by omega)]; exact f2 _ (by omega))) (remP_len pl)⟩
        · simp only [b2i_e0, Bool.not_eq_false] at c_51
          refine ev_iconst (pc := 54) (v := nI 1) dX12_dawn_54 kc_1 ?_
          refine ev_goto (pc := 55) 59 dX12_dawn_55 (by decide) ?_
          refine ev_iadd (pc := 59) dX12_dawn_59 ?_
          (first | rw [show nI (tS N) + nI 1 = nI (tS (dawnT B N)) by rw [← es, c_51]; rfl] | rw [show nI (tS N) + nI 0 = nI (tS (dawnT B N)) by rw [← es, c_51]; rfl])
          refine pf_X12_152 (pc := 60) rfl dX12_dawn_60 (by (try dsimp only); (repeat (first | rw [up_s] | rw [up_n (by omega)])) <;> first | rfl | assumption) ?_
          refine ev_iload_n (pc := 63) dX12_dawn_63 rfl ?_
          refine ev_if_eq (pc := 64) 71 dX12_dawn_64 (by decide) (fun c_64 => ?_) (fun c_64 => ?_)
          · simp only [b2i_e0, Bool.not_eq_false] at c_64
            refine ev_iconst (pc := 71) (v := nI 0) dX12_dawn_71 kc_0 ?_
            refine ev_iret (pc := 72) dX12_dawn_72 rfl rfl (Nat.le_of_ble_eq_true rfl) (Nat.le_of_ble_eq_true rfl) ?_
            first | exact absurd (c_64.symm.trans c_51) (by decide) | exact ⟨_, rfl, by rw [c_64]; rfl, rfl, (by intro q a; (try dsimp only); rw [up_n (by omega)]; exact (f2 q (by omega)).trans (f1 q (by omega) (by omega))), p.st (by intro q a b c; (try dsimp only); rw [up_n (by omega)]; exact (f2 q (by omega)).trans (f1 q a c)) ⟨at_, bg, tk, td, rt, rn, rm, rd, mn, bd, br, (by unfold pMO; exact (by (try dsimp only); (repeat (first | rw [up_s] | rw [up_n (by omega)])) <;> first | rfl | assumption))⟩ (show _ = _ from (up_n (by omega)).trans pn2) (pu1.fr (by (try dsimp only); rw [up_n (by omega)]; exact f2 _ (by omega))) (remP_len pl)⟩
          · simp only [b2i_e0, Bool.not_eq_false] at c_64
            refine ev_iconst (pc := 67) (v := nI 1) dX12_dawn_67 kc_1 ?_
            refine ev_goto (pc := 68) 72 dX12_dawn_68 (by decide) ?_
            refine ev_iret (pc := 72) dX12_dawn_72 rfl rfl (Nat.le_of_ble_eq_true rfl) (Nat.le_of_ble_eq_true rfl) ?_
            first | exact absurd (c_64.symm.trans c_51) (by decide) | exact ⟨_, rfl, by rw [c_64]; rfl, rfl, (by intro q a; (try dsimp only); rw [up_n (by omega)]; exact (f2 q (by omega)).trans (f1 q (by omega) (by omega))), p.st (by intro q a b c; (try dsimp only); rw [up_n (by omega)]; exact (f2 q (by omega)).trans (f1 q a c)) ⟨at_, bg, tk, td, rt, rn, rm, rd, mn, bd, br, (by unfold pMO; exact (by (try dsimp only); (repeat (first | rw [up_s] | rw [up_n (by omega)])) <;> first | rfl | assumption))⟩ (show _ = _ from (up_n (by omega)).trans pn2) (pu1.fr (by (try dsimp only); rw [up_n (by omega)]; exact f2 _ (by omega))) (remP_len pl)⟩
      · exfalso; (try simp (disch := omega) only [i32_lti, i32_lei, i32_eqi, nI_toInt, i32z] at c_26); omega
end MPUB
