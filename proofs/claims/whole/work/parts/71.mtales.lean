/-! ===== the model: tales; made ===== -/
theorem nxt_ge (cs : List Nat) (i : Nat) : i ≤ (nxt cs i).2.2.2 := by
  have h1 := rend_ge isB cs i
  have h2 := rend_ge isL cs (rend isB cs i)
  have h3 := rend_ge isD cs (rend isB cs i)
  unfold nxt
  dsimp only
  split
  · exact h1
  · split
    · exact Nat.le_trans h1 h2
    · split
      · exact Nat.le_trans h1 h3
      · split
        · exact Nat.le_succ_of_le h1
        · exact Nat.le_succ_of_le h1
theorem nxt_gt {cs : List Nat} {i : Nat} (h : (nxt cs i).1 ≠ 0) : i + 1 ≤ (nxt cs i).2.2.2 := by
  have h1 := rend_ge isB cs i
  unfold nxt at h ⊢
  dsimp only at h ⊢
  split
  · next hq => rw [if_pos hq] at h; exact absurd rfl h
  · next hq =>
    split
    · next hL => exact Nat.le_trans (Nat.succ_le_succ h1) (rend_gt (by omega) hL)
    · split
      · next hD => exact Nat.le_trans (Nat.succ_le_succ h1) (rend_gt (by omega) hD)
      · split
        · exact Nat.succ_le_succ h1
        · exact Nat.succ_le_succ h1
theorem pNl_ge (cs : List Nat) : ∀ (n : Nat) (t : Tk) (A : Ab), t.2.2.2 ≤ (pNl cs n t A).1.2.2.2
  | 0, t, A => Nat.le_refl _
  | n + 1, t, A => by
    unfold pNl
    split
    · exact Nat.le_trans (nxt_ge cs _) (pNl_ge cs n _ _)
    · exact Nat.le_refl _
theorem pItem_ge (cs : List Nat) (t : Tk) (A : Ab) : t.2.2.2 ≤ (pItem cs t A).1.2.2.2 := by
  have h1 := nxt_ge cs t.2.2.2
  have h2 := nxt_ge cs (nxt cs t.2.2.2).2.2.2
  have h3 := nxt_ge cs (nxt cs (nxt cs t.2.2.2).2.2.2).2.2.2
  unfold pItem
  split
  · exact Nat.le_refl _
  · show t.2.2.2 ≤ (pWhat cs t A).1.2.2.2
    unfold pWhat
    split
    · unfold pTale
      split
      · exact Nat.le_refl _
      · split
        · exact h1
        · split
          · show t.2.2.2 ≤ (nxt cs (nxt cs (nxt cs t.2.2.2).2.2.2).2.2.2).2.2.2
            omega
          · show t.2.2.2 ≤ (nxt cs (nxt cs t.2.2.2).2.2.2).2.2.2
            omega
    · split
      · unfold pNights
        split
        · exact Nat.le_refl _
        · exact Nat.le_trans h1 (pNl_ge cs 8 _ A)
      · split
        · unfold pMem
          split
          · exact Nat.le_refl _
          · split
            · exact Nat.le_trans h1 h2
            · exact h1
        · split
          · unfold pDep
            split
            · exact Nat.le_refl _
            · split
              · exact Nat.le_trans h1 h2
              · exact h1
          · exact Nat.le_refl _
theorem pItem_3 {cs : List Nat} {t : Tk} {A : Ab} (h : (pItem cs t A).2.2 = true) : (pItem cs t A).1.1 = 3 := by
  unfold pItem at h ⊢
  split
  · next hq => rw [if_pos hq] at h; cases h
  · next hq =>
    rw [if_neg hq] at h
    simp only [Bool.and_eq_true, decide_eq_true_eq] at h
    exact h.2
theorem bIs_new : bIs bNew (aSet ([], [], [], 0, 0)) := by
  refine ⟨rfl, rfl, rfl, rfl, rfl, fun t ht => (nomatch ht), fun t ht => (nomatch ht), ?_⟩
  intro k hk
  have : k < 1 := hk
  have : k = 0 := by omega
  subst this
  rfl
section MTALES
variable {X : Cx} {h : Hp} {z m n : Nat} {cs : List Nat} {B : Bk} {N : Tl} {P : List Tl} {I J : Im} {wn op : List Nat} {tr : Int64}
theorem mk_M {h' : Hp} {B2 : Bk} {at_ bg tk td rt rn rm rd mn bd br : Int32} (p : pM h m cs B N P I J wn op n tr) (e : ∀ q : Nat, m < q → q < m + 17 → (q < m + 2 ∨ (m + 10 ≤ q ∧ q ≠ m + 16)) → h' q = h q) (o : pMO h' m (nI 0) at_ bg tk td rt rn rm rd (nI (bT B2)) (nI (bK B2)) (nI (bM B2)) (nI (bD B2)) (nI 0) (nI 0) (nI 0) mn bd br (nI 0) tr) (rr : mRd h' m) (bb : mBk h' m B2 (nI 0)) (nn : pRw h' (m + 8) (startT B2)) (ro : mRo h' m) (kk : ∃ g : Nat → Int32, h' (m + 16) = some (.inr (0, .inl (ar 642 g))) ∧ g 0 = 0 ∧ g 321 = 0) : pM h' m [] B2 (startT B2) [] none none wn op 0 tr := by
  obtain ⟨-, ⟨f, x1, -⟩, -, -, -, -, ⟨⟨u, u1, -⟩, -⟩, por, ⟨f2, g2, h1, h2, h3, l1, l2, -, -⟩, -⟩ := p
  obtain ⟨g, k1, k2, k3⟩ := kk
  exact ⟨⟨at_, bg, tk, td, rt, rn, rm, rd, mn, bd, br, o⟩, ⟨f, (e _ (by omega) (by omega) (by omega)).trans x1, fun j hj => (nomatch hj), Nat.zero_le _, fun j hj => (nomatch hj)⟩, rr, bb, nn, ro, ⟨⟨u, (e _ (by omega) (by omega) (by omega)).trans u1, fun i T hT => (nomatch hT)⟩, Nat.zero_le _⟩, por.fr (fun q a b => e q (by omega) (by omega) (by omega)), ⟨f2, g2, (e _ (by omega) (by omega) (by omega)).trans h1, (e _ (by omega) (by omega) (by omega)).trans h2, h3, l1, l2, by omega, fun k hk => by omega⟩, g, k1, k2, k3⟩
theorem c_M_tales2 (p : pM h m cs B N P I J wn op n tr) {Q : Option Value → Hs → Prop} (Q0 : (rdA cs).2.2 = none → ∀ h' : Hp, hfr h h' m 17 → pM h' m cs B N P I J wn op n tr → Q (some (.int (-10 - nI (rdA cs).1.2.2.1))) (h', z)) (Q1 : ∀ k : Nat, (rdA cs).2.2 = some k → ∃ B2 : Bk, bIs B2 (aSet (rdA cs).2.1) ∧ ∀ h' : Hp, hfr h h' m 17 → pM h' m [] B2 (startT B2) [] none none wn op 0 tr → Q (some (.int (nI k))) (h', z)) : Ct X 7 mt_X12_tales [.ref m] (h, z) 0 0 Q := by
  obtain ⟨⟨at_, bg, tk, td, rt, rn, rm, rd, mn, bd, br, po⟩, px, ⟨ra, rb, rc, ra1, rb1, rc1⟩, ⟨fp, fw, fh, b1, b2, b3, b4, b5⟩, pn, ⟨fr, pq⟩, ⟨pu, pl⟩, por, ph, ⟨fk, pk, -⟩⟩ := id p
  unfold pMO at po
  have l150 := px.choose_spec.2.2.1
  refine mk_X12_tales (Nat.le_of_ble_eq_true rfl) (L := [.ref m, .retAddr 0]) rfl ?_
  have loop : ∀ (c k : Nat) (t1 : Tk) (A1 : Ab) (h1 : Hp), k + c = 150 → rdA cs = pAll cs c k t1 A1 → mFr h h1 m → mSt h1 m cs t1 A1 (nI (bT B)) (nI (bK B)) (nI (bM B)) (nI (bD B)) (nI 0) (nI (tS N)) (nI P.length) mn bd br (nI n) tr → wA A1 → gA A1 → (t1.1 ≠ 0 → k + 1 ≤ t1.2.2.2) → Ev X (mi_X12_tales 7 0 0) Q 0 0 (h1, z) 31 [.ref m, .int (nI k)] [] := by
    have fin : ∀ (k : Nat) (t1 : Tk) (A1 : Ab) (h1 : Hp), rdA cs = (t1, A1, some k) → mFr h h1 m → mSt h1 m cs t1 A1 (nI (bT B)) (nI (bK B)) (nI (bM B)) (nI (bD B)) (nI 0) (nI (tS N)) (nI P.length) mn bd br (nI n) tr → wA A1 → gA A1 → mTk t1 = 0 → Ev X (mi_X12_tales 7 0 0) Q 0 0 (h1, z) 31 [.ref m, .int (nI k)] [] := by
      intro k t1 A1 h1 er f1 S1 w1 g1 k0
      obtain ⟨at1, td1, po1, r1, r2, r3, r4, r5, ab1⟩ := S1
      unfold pMO at po1
      have ek : (rdA cs).2.2 = some k := by rw [er]
      obtain ⟨B2, bq, hQ⟩ := Q1 k ek
      have eA : (rdA cs).2.1 = A1 := by rw [er]
      rw [eA] at bq
      have b9 := wB_is bq w1 g1
      refine ev_aload_n (pc := 31) dX12_tales_31 rfl ?_
      refine gf_X12_92 (pc := 32) rfl dX12_tales_32 (by (try dsimp only); (repeat (first | rw [up_s] | rw [up_n (by omega)])) <;> first | rfl | assumption) ?_
      refine ev_if_eq (pc := 35) 63 dX12_tales_35 (by decide) (fun c_35 => ?_) (fun c_35 => ?_)
      · (try simp (disch := omega) only [i32_lti, i32_lei, i32_eqi, nI_toInt, i32z] at c_35)
        refine ev_aload_n (pc := 63) dX12_tales_63 rfl ?_
        refine ev_iconst (pc := 64) (v := nI 0) dX12_tales_64 kc_0 ?_
        refine pf_X12_67 (pc := 65) rfl dX12_tales_65 (by (try dsimp only); (repeat (first | rw [up_s] | rw [up_n (by omega)])) <;> first | rfl | assumption) ?_
        refine ev_aload_n (pc := 68) dX12_tales_68 rfl ?_
        refine iv_X12_134 (pc := 69) rfl dX12_tales_69 (by (try dsimp only); (repeat (first | rw [up_s] | rw [up_n (by omega)])) <;> first | rfl | assumption) (Nat.le_of_ble_eq_true rfl) (Nat.le_of_ble_eq_true rfl) (Nat.le_of_ble_eq_true rfl) (Nat.le_of_ble_eq_true rfl) (c_mTakes (A := A1) (B := B2) (f5 := fp) (f6 := fw) (f7 := fh) (f8 := eT N) (f9 := fr) (fk := fk) (by unfold pMO; exact (by (try dsimp only); (repeat (first | rw [up_s] | rw [up_n (by omega)])) <;> first | rfl | assumption)) w1 g1.1 (ab1.fr (fun q a b => by (try dsimp only); rw [up_n (by omega)])) bq b9 (by (try dsimp only); rw [up_n (by omega)]; exact (f1 _ (by omega) (by omega)).trans b1) (by (try dsimp only); rw [up_n (by omega)]; exact (f1 _ (by omega) (by omega)).trans b2) (by (try dsimp only); rw [up_n (by omega)]; exact (f1 _ (by omega) (by omega)).trans b3) (by (try dsimp only); rw [up_n (by omega)]; exact (f1 _ (by omega) (by omega)).trans pn) (by (try dsimp only); rw [up_n (by omega)]; exact (f1 _ (by omega) (by omega)).trans pq) (by (try dsimp only); rw [up_n (by omega)]; exact (f1 _ (by omega) (by omega)).trans pk)) (kv (fun S' hS => ?_))
        obtain ⟨h2, z'⟩ := S'
        obtain ⟨rfl, f2, o2, bb, nn, ro, kk⟩ := hS
        obtain ⟨gf, gg, gk, gf1, gg1, gk1, -⟩ := ab1
        have rr : mRd h2 m := ⟨gf, gg, gk, (f2 _ (by omega) (by omega)).trans ((up_n (by omega)).trans gf1), (f2 _ (by omega) (by omega)).trans ((up_n (by omega)).trans gg1), (f2 _ (by omega) (by omega)).trans ((up_n (by omega)).trans gk1)⟩
        have ff : ∀ q : Nat, (q < m + 17 → m < q → (q < m + 2 ∨ (m + 10 ≤ q ∧ q ≠ m + 16))) → q ≠ m → h2 q = h q := fun q a b => if c9 : q < m + 5 ∨ (m + 10 ≤ q ∧ q ≠ m + 16) then (f2 q b c9).trans ((up_n (by omega)).trans (f1 q b (by omega))) else absurd (by omega : q < m + 5 ∨ (m + 10 ≤ q ∧ q ≠ m + 16)) c9
        refine ev_iload_n (pc := 72) dX12_tales_72 rfl ?_
        refine ev_iret (pc := 73) dX12_tales_73 rfl rfl (Nat.le_of_ble_eq_true rfl) (Nat.le_of_ble_eq_true rfl) ?_
        exact hQ h2 (fun q a => ff q (by omega) (by omega)) (mk_M p (fun q a b c => ff q (fun _ _ => c) (by omega)) o2 rr bb nn ro kk)
      · exfalso; (try simp (disch := omega) only [i32_lti, i32_lei, i32_eqi, nI_toInt, i32z] at c_35); omega
    intro c
    induction c with
    | zero =>
      intro k t1 A1 h1 hk er f1 S1 w1 g1 hp
      have h0 : t1.1 = 0 := by
        obtain ⟨at1, td1, po1, r1, r2, r3, r4, r5, ab1⟩ := S1
        rcases Nat.eq_zero_or_pos t1.1 with q | q
        · exact q
        · have := hp (by omega); omega
      exact fin k t1 A1 h1 er f1 S1 w1 g1 (mTk_0.mpr h0)
    | succ c ih =>
      intro k t1 A1 h1 hk er f1 S1 w1 g1 hp
      by_cases h0 : t1.1 = 0
      · exact fin k t1 A1 h1 (by rw [er]; unfold pAll; rw [if_pos h0]) f1 S1 w1 g1 (mTk_0.mpr h0)
      · obtain ⟨at1, td1, po1, r1, r2, r3, r4, r5, ab1⟩ := id S1
        have hk5 := mTk_lt r4
        have hk0 : mTk t1 ≠ 0 := fun q => h0 (mTk_0.mp q)
        have px1 : mTx h1 m cs := px.fr (f1 _ (by omega) (by omega))
        unfold pMO at po1
        have hge := pItem_ge cs t1 A1
        cases hb : (pItem cs t1 A1).2.2 with
        | false =>
          have er2 : rdA cs = ((pItem cs t1 A1).1, (pItem cs t1 A1).2.1, none) := by rw [er]; unfold pAll; rw [if_neg h0, if_neg (by rw [hb]; decide)]
          have hq := Q0 (by rw [er2])
          have e9 : (rdA cs).1 = (pItem cs t1 A1).1 := by rw [er2]
          rw [e9] at hq
          refine ev_aload_n (pc := 31) dX12_tales_31 rfl ?_
          refine gf_X12_92 (pc := 32) rfl dX12_tales_32 (by (try dsimp only); (repeat (first | rw [up_s] | rw [up_n (by omega)])) <;> first | rfl | assumption) ?_
          refine ev_if_eq (pc := 35) 63 dX12_tales_35 (by decide) (fun c_35 => ?_) (fun c_35 => ?_)
          · exfalso; (try simp (disch := omega) only [i32_lti, i32_lei, i32_eqi, nI_toInt, i32z] at c_35); omega
          · (try simp (disch := omega) only [i32_lti, i32_lei, i32_eqi, nI_toInt, i32z] at c_35)
            refine ev_aload_n (pc := 38) dX12_tales_38 rfl ?_
            refine iv_X12_131 (pc := 39) rfl dX12_tales_39 (by (try dsimp only); (repeat (first | rw [up_s] | rw [up_n (by omega)])) <;> first | rfl | assumption) (Nat.le_of_ble_eq_true rfl) (Nat.le_of_ble_eq_true rfl) (Nat.le_of_ble_eq_true rfl) (Nat.le_of_ble_eq_true rfl) (c_mReadItem S1 px1 w1 g1.1) (ki (fun r S' hS => ?_))
            obtain ⟨h2, z'⟩ := S'
            obtain ⟨rfl, rfl, f2, S2⟩ := hS
            rw [hb]
            obtain ⟨at3, td3, po3, u1, u2, u3, u4, u5, ⟨gf, gg, gk, gf1, gg1, gk1, -⟩⟩ := id S2
            have po3' := po3
            unfold pMO at po3'
            have f12 : mFr h h2 m := fun q a b => (f2 q a b).trans (f1 q a b)
            refine ev_if_ne (pc := 42) 53 dX12_tales_42 (by decide) (fun c_42 => ?_) (fun c_42 => ?_)
            · exact absurd rfl c_42
            · (try simp (disch := omega) only [i32_lti, i32_lei, i32_eqi, nI_toInt, i32z] at c_42)
              refine ev_bipush (pc := 45) (v := (-10)) dX12_tales_45 kb_m10 ?_
              refine ev_aload_n (pc := 47) dX12_tales_47 rfl ?_
              refine gf_X12_89 (pc := 48) rfl dX12_tales_48 (by (try dsimp only); (repeat (first | rw [up_s] | rw [up_n (by omega)])) <;> first | rfl | assumption) ?_
              refine ev_isub (pc := 51) dX12_tales_51 ?_
              refine ev_iret (pc := 52) dX12_tales_52 rfl rfl (Nat.le_of_ble_eq_true rfl) (Nat.le_of_ble_eq_true rfl) ?_
              exact hq h2 (fun q a => f12 q (by omega) (by omega)) ⟨⟨_, _, _, _, _, _, _, _, _, _, _, po3⟩, px.fr (f12 _ (by omega) (by omega)), ⟨gf, gg, gk, gf1, gg1, gk1⟩, ⟨fp, fw, fh, (f12 _ (by omega) (by omega)).trans b1, (f12 _ (by omega) (by omega)).trans b2, (f12 _ (by omega) (by omega)).trans b3, b4, b5⟩, (f12 _ (by omega) (by omega)).trans pn, ⟨fr, (f12 _ (by omega) (by omega)).trans pq⟩, ⟨pu.fr (f12 _ (by omega) (by omega)), pl⟩, por.fr (fun q a b => f12 q (by omega) (by omega)), ph.fr (fun q a b => f12 q (by omega) (by omega)), p.2.2.2.2.2.2.2.2.2.fr (f12 _ (by omega) (by omega))⟩
        | true =>
          have er2 : rdA cs = pAll cs c (k + 1) (nxt cs (pItem cs t1 A1).1.2.2.2) (pItem cs t1 A1).2.1 := by
            rw [er]
            show (if t1.1 = 0 then _ else if (pItem cs t1 A1).2.2 = true then _ else _) = _
            rw [if_neg h0, if_pos hb]
          have h3 := pItem_3 hb
          refine ev_aload_n (pc := 31) dX12_tales_31 rfl ?_
          refine gf_X12_92 (pc := 32) rfl dX12_tales_32 (by (try dsimp only); (repeat (first | rw [up_s] | rw [up_n (by omega)])) <;> first | rfl | assumption) ?_
          refine ev_if_eq (pc := 35) 63 dX12_tales_35 (by decide) (fun c_35 => ?_) (fun c_35 => ?_)
          · exfalso; (try simp (disch := omega) only [i32_lti, i32_lei, i32_eqi, nI_toInt, i32z] at c_35); omega
          · (try simp (disch := omega) only [i32_lti, i32_lei, i32_eqi, nI_toInt, i32z] at c_35)
            refine ev_aload_n (pc := 38) dX12_tales_38 rfl ?_
            refine iv_X12_131 (pc := 39) rfl dX12_tales_39 (by (try dsimp only); (repeat (first | rw [up_s] | rw [up_n (by omega)])) <;> first | rfl | assumption) (Nat.le_of_ble_eq_true rfl) (Nat.le_of_ble_eq_true rfl) (Nat.le_of_ble_eq_true rfl) (Nat.le_of_ble_eq_true rfl) (c_mReadItem S1 px1 w1 g1.1) (ki (fun r S' hS => ?_))
            obtain ⟨h2, z'⟩ := S'
            obtain ⟨rfl, rfl, f2, S2⟩ := hS
            rw [hb]
            obtain ⟨at3, td3, po3, u1, u2, u3, u4, u5, -⟩ := id S2
            unfold pMO at po3
            have f12 : mFr h h2 m := fun q a b => (f2 q a b).trans (f1 q a b)
            refine ev_if_ne (pc := 42) 53 dX12_tales_42 (by decide) (fun c_42 => ?_) (fun c_42 => ?_)
            · (try simp (disch := omega) only [i32_lti, i32_lei, i32_eqi, nI_toInt, i32z] at c_42)
              refine ev_iinc (pc := 53) (L' := [_, _]) dX12_tales_53 rfl (nI_1 _) rfl ?_
              refine ev_aload_n (pc := 56) dX12_tales_56 rfl ?_
              refine iv_X12_104 (pc := 57) rfl dX12_tales_57 (by (try dsimp only); (repeat (first | rw [up_s] | rw [up_n (by omega)])) <;> first | rfl | assumption) (Nat.le_of_ble_eq_true rfl) (Nat.le_of_ble_eq_true rfl) (Nat.le_of_ble_eq_true rfl) (Nat.le_of_ble_eq_true rfl) (c_mNext S2 (px.fr (f12 _ (by omega) (by omega))) (by have := mTk_3.mpr h3; omega)) (kv (fun S' hS => ?_))
              obtain ⟨h3, z'⟩ := S'
              obtain ⟨rfl, f3, S3⟩ := hS
              refine ev_goto (pc := 60) 31 dX12_tales_60 (by decide) ?_
              exact ih (k + 1) _ _ h3 (by omega) er2 (fun q a b => (f3 q a).trans (f12 q a b)) S3 (wA_item w1) (gA_item w1 g1) (fun q => by have := nxt_gt q; have := hp h0; omega)
            · exact absurd c_42 (by decide)
  refine ev_aload_n (pc := 0) dX12_tales_0 rfl ?_
  refine ev_iconst (pc := 1) (v := nI 0) dX12_tales_1 kc_0 ?_
  refine pf_X12_79 (pc := 2) rfl dX12_tales_2 (by (try dsimp only); (repeat (first | rw [up_s] | rw [up_n (by omega)])) <;> first | rfl | assumption) ?_
  refine ev_aload_n (pc := 5) dX12_tales_5 rfl ?_
  refine ev_iconst (pc := 6) (v := nI 0) dX12_tales_6 kc_0 ?_
  refine pf_X12_107 (pc := 7) rfl dX12_tales_7 (by (try dsimp only); (repeat (first | rw [up_s] | rw [up_n (by omega)])) <;> first | rfl | assumption) ?_
  refine ev_aload_n (pc := 10) dX12_tales_10 rfl ?_
  refine ev_iconst (pc := 11) (v := nI 0) dX12_tales_11 kc_0 ?_
  refine pf_X12_114 (pc := 12) rfl dX12_tales_12 (by (try dsimp only); (repeat (first | rw [up_s] | rw [up_n (by omega)])) <;> first | rfl | assumption) ?_
  refine ev_aload_n (pc := 15) dX12_tales_15 rfl ?_
  refine ev_iconst (pc := 16) (v := nI 0) dX12_tales_16 kc_0 ?_
  refine pf_X12_125 (pc := 17) rfl dX12_tales_17 (by (try dsimp only); (repeat (first | rw [up_s] | rw [up_n (by omega)])) <;> first | rfl | assumption) ?_
  refine ev_aload_n (pc := 20) dX12_tales_20 rfl ?_
  refine ev_iconst (pc := 21) (v := nI 0) dX12_tales_21 kc_0 ?_
  refine pf_X12_128 (pc := 22) rfl dX12_tales_22 (by (try dsimp only); (repeat (first | rw [up_s] | rw [up_n (by omega)])) <;> first | rfl | assumption) ?_
  refine ev_iconst (pc := 25) (v := nI 0) dX12_tales_25 kc_0 ?_
  refine ev_istore_n (pc := 26) (L' := [_, _]) dX12_tales_26 (Nat.le_of_ble_eq_true rfl) rfl ?_
  refine ev_aload_n (pc := 27) dX12_tales_27 rfl ?_
  refine iv_X12_104 (pc := 28) rfl dX12_tales_28 (by (try dsimp only); (repeat (first | rw [up_s] | rw [up_n (by omega)])) <;> first | rfl | assumption) (Nat.le_of_ble_eq_true rfl) (Nat.le_of_ble_eq_true rfl) (Nat.le_of_ble_eq_true rfl) (Nat.le_of_ble_eq_true rfl) (c_mReads (i := 0) (cs := cs) (by unfold pMO; exact (by (try dsimp only); (repeat (first | rw [up_s] | rw [up_n (by omega)])) <;> first | rfl | assumption)) (px.fr (by (try dsimp only); (repeat (first | rw [up_n (by omega)])))) (Nat.zero_le _)) (kv (fun S' hS => ?_))
  obtain ⟨h1, z'⟩ := S'
  obtain ⟨rfl, f1, at2, td2, o2, q1, q2⟩ := hS
  have n1 := nxt_af (cs := cs) (i := 0) (Nat.zero_le _)
  have n2 := nxt_v px.choose_spec.2.2.2 0
  have ff : ∀ q : Nat, q ≠ m → h1 q = h q := by intro q a; refine (f1 q a).trans ?_; (try dsimp only); (repeat (first | rw [up_n (by omega)]))
  exact loop 150 0 (nxt cs 0) ([], [], [], 0, 0) h1 rfl rfl (fun q a b => ff q a) ⟨at2, td2, o2, q1, q2, n1.1, n1.2, n2, ra, rb, rc, (ff _ (by omega)).trans ra1, (ff _ (by omega)).trans rb1, (ff _ (by omega)).trans rc1, fun t ht => (nomatch ht), fun t ht => (nomatch ht), fun t ht => (nomatch ht)⟩ ⟨Nat.zero_le _, Nat.zero_le _, by decide, by decide⟩ ⟨rfl, fun t ht => (nomatch ht), fun k hk => (nomatch hk)⟩ (fun q => nxt_gt q)
theorem c_mPlain (po : pMO h m 0 0 0 0 0 0 0 0 0 0 0 0 0 0 0 0 0 0 0 0 0) (ha : ∀ k : Nat, k < 16 → h (m + 1 + k) = some (.inr (0, .inl (ar (gN [150, 6, 6, 8, 6, 6, 8, 28, 28, 290, 6, 30, 30, 6, 6, 642] k) (fun _ => 0))))) : Ct X 3 mt_X12_plain [.ref m] (h, z) 0 0 (Qv (fun S' => S'.2 = z ∧ hfr h S'.1 m 17 ∧ pM S'.1 m [] bNew (startT bNew) [] none none (List.replicate 6 0) (List.replicate 6 0) 0 0)) := by
  unfold pMO at po
  have a1 : h (m + 1) = some (.inr (0, .inl (ar 150 (fun _ => 0)))) := ha 0 (by omega)
  have a2 : h (m + 2) = some (.inr (0, .inl (ar 6 (fun _ => 0)))) := ha 1 (by omega)
  have a3 : h (m + 3) = some (.inr (0, .inl (ar 6 (fun _ => 0)))) := ha 2 (by omega)
  have a4 : h (m + 4) = some (.inr (0, .inl (ar 8 (fun _ => 0)))) := ha 3 (by omega)
  have a5 : h (m + 5) = some (.inr (0, .inl (ar 6 (fun _ => 0)))) := ha 4 (by omega)
  have a6 : h (m + 6) = some (.inr (0, .inl (ar 6 (fun _ => 0)))) := ha 5 (by omega)
  have a7 : h (m + 7) = some (.inr (0, .inl (ar 8 (fun _ => 0)))) := ha 6 (by omega)
  have a8 : h (m + 8) = some (.inr (0, .inl (ar 28 (fun _ => 0)))) := ha 7 (by omega)
  have a9 : h (m + 9) = some (.inr (0, .inl (ar 28 (fun _ => 0)))) := ha 8 (by omega)
  have a10 : h (m + 10) = some (.inr (0, .inl (ar 290 (fun _ => 0)))) := ha 9 (by omega)
  have a11 : h (m + 11) = some (.inr (0, .inl (ar 6 (fun _ => 0)))) := ha 10 (by omega)
  have a12 : h (m + 12) = some (.inr (0, .inl (ar 30 (fun _ => 0)))) := ha 11 (by omega)
  have a13 : h (m + 13) = some (.inr (0, .inl (ar 30 (fun _ => 0)))) := ha 12 (by omega)
  have a14 : h (m + 14) = some (.inr (0, .inl (ar 6 (fun _ => 0)))) := ha 13 (by omega)
  have a15 : h (m + 15) = some (.inr (0, .inl (ar 6 (fun _ => 0)))) := ha 14 (by omega)
  have a16 : h (m + 16) = some (.inr (0, .inl (ar 642 (fun _ => 0)))) := ha 15 (by omega)
  refine mk_X12_plain (Nat.le_of_ble_eq_true rfl) (L := [.ref m]) rfl ?_
  refine ev_aload_n (pc := 0) dX12_plain_0 rfl ?_
  refine ev_iconst (pc := 1) (v := nI 0) dX12_plain_1 kc_0 ?_
  refine pf_X12_107 (pc := 2) rfl dX12_plain_2 (by (try dsimp only); (repeat (first | rw [up_s] | rw [up_n (by omega)])) <;> first | rfl | assumption) ?_
  refine ev_aload_n (pc := 5) dX12_plain_5 rfl ?_
  refine ev_iconst (pc := 6) (v := nI 0) dX12_plain_6 kc_0 ?_
  refine pf_X12_114 (pc := 7) rfl dX12_plain_7 (by (try dsimp only); (repeat (first | rw [up_s] | rw [up_n (by omega)])) <;> first | rfl | assumption) ?_
  refine ev_aload_n (pc := 10) dX12_plain_10 rfl ?_
  refine ev_iconst (pc := 11) (v := nI 0) dX12_plain_11 kc_0 ?_
  refine pf_X12_125 (pc := 12) rfl dX12_plain_12 (by (try dsimp only); (repeat (first | rw [up_s] | rw [up_n (by omega)])) <;> first | rfl | assumption) ?_
  refine ev_aload_n (pc := 15) dX12_plain_15 rfl ?_
  refine ev_iconst (pc := 16) (v := nI 0) dX12_plain_16 kc_0 ?_
  refine pf_X12_128 (pc := 17) rfl dX12_plain_17 (by (try dsimp only); (repeat (first | rw [up_s] | rw [up_n (by omega)])) <;> first | rfl | assumption) ?_
  refine ev_aload_n (pc := 20) dX12_plain_20 rfl ?_
  refine iv_X12_134 (pc := 21) rfl dX12_plain_21 (by (try dsimp only); (repeat (first | rw [up_s] | rw [up_n (by omega)])) <;> first | rfl | assumption) (Nat.le_of_ble_eq_true rfl) (Nat.le_of_ble_eq_true rfl) (Nat.le_of_ble_eq_true rfl) (Nat.le_of_ble_eq_true rfl) (c_mTakes (A := ([], [], [], 0, 0)) (B := bNew) (f5 := fun _ => 0) (f6 := fun _ => 0) (f7 := fun _ => 0) (f8 := fun _ => 0) (f9 := fun _ => 0) (fk := fun _ => 0) (sz := 0) (at_ := 0) (bg := 0) (tk := 0) (td := 0) (tl := 0) (nt := 0) (me := 0) (de := 0) (sa := 0) (un := 0) (mn := 0) (bd := 0) (br := 0) (he := 0) (tr := 0) (by unfold pMO; exact (by (try dsimp only); (repeat (first | rw [up_s] | rw [up_n (by omega)])) <;> first | rfl | assumption)) ⟨Nat.zero_le _, Nat.zero_le _, by decide, by decide⟩ rfl ⟨_, _, _, (by (try dsimp only); (repeat (first | rw [up_s] | rw [up_n (by omega)])) <;> first | rfl | assumption), (by (try dsimp only); (repeat (first | rw [up_s] | rw [up_n (by omega)])) <;> first | rfl | assumption), (by (try dsimp only); (repeat (first | rw [up_s] | rw [up_n (by omega)])) <;> first | rfl | assumption), fun t ht => (nomatch ht), fun t ht => (nomatch ht), fun t ht => (nomatch ht)⟩ bIs_new wB_new (by (try dsimp only); (repeat (first | rw [up_s] | rw [up_n (by omega)])) <;> first | rfl | assumption) (by (try dsimp only); (repeat (first | rw [up_s] | rw [up_n (by omega)])) <;> first | rfl | assumption) (by (try dsimp only); (repeat (first | rw [up_s] | rw [up_n (by omega)])) <;> first | rfl | assumption) (by (try dsimp only); (repeat (first | rw [up_s] | rw [up_n (by omega)])) <;> first | rfl | assumption) (by (try dsimp only); (repeat (first | rw [up_s] | rw [up_n (by omega)])) <;> first | rfl | assumption) (by (try dsimp only); (repeat (first | rw [up_s] | rw [up_n (by omega)])) <;> first | rfl | assumption)) (kv (fun S' hS => ?_))
  obtain ⟨h2, z'⟩ := S'
  obtain ⟨rfl, f2, o2, bb, nn, ro, kk⟩ := hS
  have ff : ∀ q : Nat, q ≠ m → (q < m + 5 ∨ (m + 10 ≤ q ∧ q ≠ m + 16)) → h2 q = h q := by intro q a b; refine (f2 q a b).trans ?_; (try dsimp only); (repeat (first | rw [up_n (by omega)]))
  obtain ⟨g, k1, k2, k3⟩ := kk
  refine ev_ret (pc := 24) dX12_plain_24 rfl (Nat.le_of_ble_eq_true rfl) (Nat.le_of_ble_eq_true rfl) ?_
  refine ⟨rfl, rfl, (fun q a => ff q (by omega) (by omega)), ⟨_, _, _, _, _, _, _, _, _, _, _, o2⟩, ⟨_, (ff _ (by omega) (by omega)).trans a1, fun j hj => (nomatch hj), Nat.zero_le _, fun j hj => (nomatch hj)⟩, ⟨_, _, _, (ff _ (by omega) (by omega)).trans a2, (ff _ (by omega) (by omega)).trans a3, (ff _ (by omega) (by omega)).trans a4⟩, bb, nn, ro, ⟨⟨_, (ff _ (by omega) (by omega)).trans a10, fun i T hT => (nomatch hT)⟩, Nat.zero_le _⟩, ⟨_, _, _, (ff _ (by omega) (by omega)).trans a11, (ff _ (by omega) (by omega)).trans a12, (ff _ (by omega) (by omega)).trans a13⟩, ⟨_, _, (ff _ (by omega) (by omega)).trans a14, (ff _ (by omega) (by omega)).trans a15, ?_, rfl, rfl, by omega, fun k hk => by omega⟩, g, k1, k2, k3⟩
  intro k hk
  have e : gN (List.replicate 6 0) k = 0 := by
    simp only [gN, List.getD_eq_getElem?_getD, List.getElem?_replicate]
    split <;> rfl
  rw [e]
  exact ⟨rfl, rfl⟩
theorem c_Model_init (ho : h m = some (.inl (12, [.null, .int 0, .int 0, .int 0, .int 0, .int 0, .int 0, .int 0, .int 0, .int 0, .null, .null, .null, .int 0, .int 0, .int 0, .int 0, .null, .null, .null, .int 0, .null, .null, .int 0, .null, .int 0, .null, .int 0, .null, .null, .int 0, .int 0, .int 0, .null, .null, .long 0, .null]))) (hz : z = m + 1) : Ct X 4 mt_X12_init [.ref m] (h, z) 16 1256 (Qv (fun S' => S'.2 = m + 17 ∧ hfr h S'.1 m 17 ∧ pM S'.1 m [] bNew (startT bNew) [] none none (List.replicate 6 0) (List.replicate 6 0) 0 0)) := by
  subst hz
  refine mk_X12_init (Nat.le_of_ble_eq_true rfl) (L := [.ref m]) rfl ?_
  refine ev_aload_n (pc := 0) dX12_init_0 rfl ?_
  refine ev_objInit (pc := 1) dX12_init_1 tw_835 tw_24 tw_25 (Nat.le_of_ble_eq_true rfl) (Nat.le_of_ble_eq_true rfl) ?_
  refine ev_aload_n (pc := 4) dX12_init_4 rfl ?_
  refine ev_sipush (pc := 5) (v := nI 150) dX12_init_5 ks_150 ?_
  refine ev_newi (pc := 8) (t := 0) (N := 150) dX12_init_8 (Nat.le_of_ble_eq_true rfl) rfl tw_53 rfl (Nat.le_of_ble_eq_true rfl) (Nat.le_of_ble_eq_true rfl) (Nat.le_of_ble_eq_true rfl) ?_
  refine pf_X12_7 (pc := 10) rfl rfl dX12_init_10 (by (try dsimp only); (repeat (first | rw [up_s] | rw [up_n (by omega)])) <;> first | rfl | assumption) ?_
  refine ev_aload_n (pc := 13) dX12_init_13 rfl ?_
  refine ev_bipush (pc := 14) (v := nI 6) dX12_init_14 kb_6 ?_
  refine ev_newi (pc := 16) (t := 0) (N := 6) dX12_init_16 (Nat.le_of_ble_eq_true rfl) rfl tw_53 rfl (Nat.le_of_ble_eq_true rfl) (Nat.le_of_ble_eq_true rfl) (Nat.le_of_ble_eq_true rfl) ?_
  refine pf_X12_13 (pc := 18) rfl rfl dX12_init_18 (by (try dsimp only); (repeat (first | rw [up_s] | rw [up_n (by omega)])) <;> first | rfl | assumption) ?_
  refine ev_aload_n (pc := 21) dX12_init_21 rfl ?_
  refine ev_bipush (pc := 22) (v := nI 6) dX12_init_22 kb_6 ?_
  refine ev_newi (pc := 24) (t := 0) (N := 6) dX12_init_24 (Nat.le_of_ble_eq_true rfl) rfl tw_53 rfl (Nat.le_of_ble_eq_true rfl) (Nat.le_of_ble_eq_true rfl) (Nat.le_of_ble_eq_true rfl) ?_
  refine pf_X12_16 (pc := 26) rfl rfl dX12_init_26 (by (try dsimp only); (repeat (first | rw [up_s] | rw [up_n (by omega)])) <;> first | rfl | assumption) ?_
  refine ev_aload_n (pc := 29) dX12_init_29 rfl ?_
  refine ev_bipush (pc := 30) (v := nI 8) dX12_init_30 kb_8 ?_
  refine ev_newi (pc := 32) (t := 0) (N := 8) dX12_init_32 (Nat.le_of_ble_eq_true rfl) rfl tw_53 rfl (Nat.le_of_ble_eq_true rfl) (Nat.le_of_ble_eq_true rfl) (Nat.le_of_ble_eq_true rfl) ?_
  refine pf_X12_19 (pc := 34) rfl rfl dX12_init_34 (by (try dsimp only); (repeat (first | rw [up_s] | rw [up_n (by omega)])) <;> first | rfl | assumption) ?_
  refine ev_aload_n (pc := 37) dX12_init_37 rfl ?_
  refine ev_bipush (pc := 38) (v := nI 6) dX12_init_38 kb_6 ?_
  refine ev_newi (pc := 40) (t := 0) (N := 6) dX12_init_40 (Nat.le_of_ble_eq_true rfl) rfl tw_53 rfl (Nat.le_of_ble_eq_true rfl) (Nat.le_of_ble_eq_true rfl) (Nat.le_of_ble_eq_true rfl) ?_
  refine pf_X12_22 (pc := 42) rfl rfl dX12_init_42 (by (try dsimp only); (repeat (first | rw [up_s] | rw [up_n (by omega)])) <;> first | rfl | assumption) ?_
  refine ev_aload_n (pc := 45) dX12_init_45 rfl ?_
  refine ev_bipush (pc := 46) (v := nI 6) dX12_init_46 kb_6 ?_
  refine ev_newi (pc := 48) (t := 0) (N := 6) dX12_init_48 (Nat.le_of_ble_eq_true rfl) rfl tw_53 rfl (Nat.le_of_ble_eq_true rfl) (Nat.le_of_ble_eq_true rfl) (Nat.le_of_ble_eq_true rfl) ?_
  refine pf_X12_25 (pc := 50) rfl rfl dX12_init_50 (by (try dsimp only); (repeat (first | rw [up_s] | rw [up_n (by omega)])) <;> first | rfl | assumption) ?_
  refine ev_aload_n (pc := 53) dX12_init_53 rfl ?_
  refine ev_bipush (pc := 54) (v := nI 8) dX12_init_54 kb_8 ?_
  refine ev_newi (pc := 56) (t := 0) (N := 8) dX12_init_56 (Nat.le_of_ble_eq_true rfl) rfl tw_53 rfl (Nat.le_of_ble_eq_true rfl) (Nat.le_of_ble_eq_true rfl) (Nat.le_of_ble_eq_true rfl) ?_
  refine pf_X12_28 (pc := 58) rfl rfl dX12_init_58 (by (try dsimp only); (repeat (first | rw [up_s] | rw [up_n (by omega)])) <;> first | rfl | assumption) ?_
  refine ev_aload_n (pc := 61) dX12_init_61 rfl ?_
  refine ev_bipush (pc := 62) (v := nI 28) dX12_init_62 kb_28 ?_
  refine ev_newi (pc := 64) (t := 0) (N := 28) dX12_init_64 (Nat.le_of_ble_eq_true rfl) rfl tw_53 rfl (Nat.le_of_ble_eq_true rfl) (Nat.le_of_ble_eq_true rfl) (Nat.le_of_ble_eq_true rfl) ?_
  refine pf_X12_31 (pc := 66) rfl rfl dX12_init_66 (by (try dsimp only); (repeat (first | rw [up_s] | rw [up_n (by omega)])) <;> first | rfl | assumption) ?_
  refine ev_aload_n (pc := 69) dX12_init_69 rfl ?_
  refine ev_bipush (pc := 70) (v := nI 28) dX12_init_70 kb_28 ?_
  refine ev_newi (pc := 72) (t := 0) (N := 28) dX12_init_72 (Nat.le_of_ble_eq_true rfl) rfl tw_53 rfl (Nat.le_of_ble_eq_true rfl) (Nat.le_of_ble_eq_true rfl) (Nat.le_of_ble_eq_true rfl) ?_
  refine pf_X12_34 (pc := 74) rfl rfl dX12_init_74 (by (try dsimp only); (repeat (first | rw [up_s] | rw [up_n (by omega)])) <;> first | rfl | assumption) ?_
  refine ev_aload_n (pc := 77) dX12_init_77 rfl ?_
  refine ev_sipush (pc := 78) (v := nI 290) dX12_init_78 ks_290 ?_
  refine ev_newi (pc := 81) (t := 0) (N := 290) dX12_init_81 (Nat.le_of_ble_eq_true rfl) rfl tw_53 rfl (Nat.le_of_ble_eq_true rfl) (Nat.le_of_ble_eq_true rfl) (Nat.le_of_ble_eq_true rfl) ?_
  refine pf_X12_37 (pc := 83) rfl rfl dX12_init_83 (by (try dsimp only); (repeat (first | rw [up_s] | rw [up_n (by omega)])) <;> first | rfl | assumption) ?_
  refine ev_aload_n (pc := 86) dX12_init_86 rfl ?_
  refine ev_bipush (pc := 87) (v := nI 6) dX12_init_87 kb_6 ?_
  refine ev_newi (pc := 89) (t := 0) (N := 6) dX12_init_89 (Nat.le_of_ble_eq_true rfl) rfl tw_53 rfl (Nat.le_of_ble_eq_true rfl) (Nat.le_of_ble_eq_true rfl) (Nat.le_of_ble_eq_true rfl) ?_
  refine pf_X12_40 (pc := 91) rfl rfl dX12_init_91 (by (try dsimp only); (repeat (first | rw [up_s] | rw [up_n (by omega)])) <;> first | rfl | assumption) ?_
  refine ev_aload_n (pc := 94) dX12_init_94 rfl ?_
  refine ev_bipush (pc := 95) (v := nI 30) dX12_init_95 kb_30 ?_
  refine ev_newi (pc := 97) (t := 0) (N := 30) dX12_init_97 (Nat.le_of_ble_eq_true rfl) rfl tw_53 rfl (Nat.le_of_ble_eq_true rfl) (Nat.le_of_ble_eq_true rfl) (Nat.le_of_ble_eq_true rfl) ?_
  refine pf_X12_43 (pc := 99) rfl rfl dX12_init_99 (by (try dsimp only); (repeat (first | rw [up_s] | rw [up_n (by omega)])) <;> first | rfl | assumption) ?_
  refine ev_aload_n (pc := 102) dX12_init_102 rfl ?_
  refine ev_bipush (pc := 103) (v := nI 30) dX12_init_103 kb_30 ?_
  refine ev_newi (pc := 105) (t := 0) (N := 30) dX12_init_105 (Nat.le_of_ble_eq_true rfl) rfl tw_53 rfl (Nat.le_of_ble_eq_true rfl) (Nat.le_of_ble_eq_true rfl) (Nat.le_of_ble_eq_true rfl) ?_
  refine pf_X12_46 (pc := 107) rfl rfl dX12_init_107 (by (try dsimp only); (repeat (first | rw [up_s] | rw [up_n (by omega)])) <;> first | rfl | assumption) ?_
  refine ev_aload_n (pc := 110) dX12_init_110 rfl ?_
  refine ev_bipush (pc := 111) (v := nI 6) dX12_init_111 kb_6 ?_
  refine ev_newi (pc := 113) (t := 0) (N := 6) dX12_init_113 (Nat.le_of_ble_eq_true rfl) rfl tw_53 rfl (Nat.le_of_ble_eq_true rfl) (Nat.le_of_ble_eq_true rfl) (Nat.le_of_ble_eq_true rfl) ?_
  refine pf_X12_49 (pc := 115) rfl rfl dX12_init_115 (by (try dsimp only); (repeat (first | rw [up_s] | rw [up_n (by omega)])) <;> first | rfl | assumption) ?_
  refine ev_aload_n (pc := 118) dX12_init_118 rfl ?_
  refine ev_bipush (pc := 119) (v := nI 6) dX12_init_119 kb_6 ?_
  refine ev_newi (pc := 121) (t := 0) (N := 6) dX12_init_121 (Nat.le_of_ble_eq_true rfl) rfl tw_53 rfl (Nat.le_of_ble_eq_true rfl) (Nat.le_of_ble_eq_true rfl) (Nat.le_of_ble_eq_true rfl) ?_
  refine pf_X12_52 (pc := 123) rfl rfl dX12_init_123 (by (try dsimp only); (repeat (first | rw [up_s] | rw [up_n (by omega)])) <;> first | rfl | assumption) ?_
  refine ev_aload_n (pc := 126) dX12_init_126 rfl ?_
  refine ev_sipush (pc := 127) (v := nI 642) dX12_init_127 ks_642 ?_
  refine ev_newi (pc := 130) (t := 0) (N := 642) dX12_init_130 (Nat.le_of_ble_eq_true rfl) rfl tw_53 rfl (Nat.le_of_ble_eq_true rfl) (Nat.le_of_ble_eq_true rfl) (Nat.le_of_ble_eq_true rfl) ?_
  refine pf_X12_55 (pc := 132) rfl rfl dX12_init_132 (by (try dsimp only); (repeat (first | rw [up_s] | rw [up_n (by omega)])) <;> first | rfl | assumption) ?_
  refine ev_aload_n (pc := 135) dX12_init_135 rfl ?_
  refine iv_X12_58 (pc := 136) rfl dX12_init_136 (by (try dsimp only); (repeat (first | rw [up_s] | rw [up_n (by omega)])) <;> first | rfl | assumption) (Nat.le_of_ble_eq_true rfl) (Nat.le_of_ble_eq_true rfl) (Nat.le_of_ble_eq_true rfl) (Nat.le_of_ble_eq_true rfl) (c_mPlain (by unfold pMO; exact (by (try dsimp only); (repeat (first | rw [up_s] | rw [up_n (by omega)])) <;> first | rfl | assumption)) (by intro k hk; have hk16 : k = 0 ∨ k = 1 ∨ k = 2 ∨ k = 3 ∨ k = 4 ∨ k = 5 ∨ k = 6 ∨ k = 7 ∨ k = 8 ∨ k = 9 ∨ k = 10 ∨ k = 11 ∨ k = 12 ∨ k = 13 ∨ k = 14 ∨ k = 15 := (by omega); rcases hk16 with q | q | q | q | q | q | q | q | q | q | q | q | q | q | q | q <;> subst q <;> (rw [← ar_rep]; exact (by (try dsimp only); (repeat (first | rw [up_s] | rw [up_n (by omega)])) <;> first | rfl | assumption)))) (kv (fun S' hS => ?_))
  obtain ⟨h2, z'⟩ := S'
  obtain ⟨rfl, f2, p2⟩ := hS
  refine ev_ret (pc := 139) dX12_init_139 rfl (Nat.le_of_ble_eq_true rfl) (Nat.le_of_ble_eq_true rfl) ?_
  exact ⟨rfl, rfl, (by intro q a; refine (f2 q a).trans ?_; (try dsimp only); (repeat (first | rw [up_n (by omega)]))), p2⟩
end MTALES
