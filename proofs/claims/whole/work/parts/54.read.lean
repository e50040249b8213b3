/-! ===== DawnTales: a text is read ===== -/
def gA (A : Ab) : Prop := (aW A).length = (aP A).length ∧ (∀ t : Nat, t < (aP A).length → 1 ≤ gN (aP A) t ∧ gN (aP A) t ≤ 9 ∧ gN (aW A) t ≤ 9) ∧ ∀ k : Nat, k < (aH A).length → gN (aH A) k ≤ 9
theorem gA_tale {cs : List Nat} {t : Tk} {A : Ab} (w : wA A) (g : gA A) : gA (pTale cs t A).2.1 := by
  unfold pTale
  split
  · exact g
  · split
    · exact g
    · split
      · next h1 h2 h3 =>
        obtain ⟨g1, g2, g3⟩ := g
        have hn := num_v (t := nxt cs t.2.2.2) (lo := 1) (hi := 9) (by simpa using h2)
        refine ⟨?_, ?_, g3⟩
        · show (aW A ++ [_]).length = (aP A ++ [_]).length
          rw [List.length_append, List.length_append, g1]; rfl
        · intro s hs
          have hs2 : s < (aP A).length + 1 := by
            have : s < (aP A ++ [(nxt cs t.2.2.2).2.1]).length := hs
            rw [List.length_append] at this; exact this
          show 1 ≤ gN (aP A ++ [_]) s ∧ gN (aP A ++ [_]) s ≤ 9 ∧ gN (aW A ++ [_]) s ≤ 9
          rw [gN_app hs2, gN_app (by omega), g1]
          by_cases hq : s = (aP A).length
          · rw [if_pos hq, if_pos hq]
            exact ⟨by omega, by omega, by omega⟩
          · rw [if_neg hq, if_neg hq]
            exact g2 s (by omega)
      · exact g
theorem gA_nl (cs : List Nat) : ∀ (n : Nat) (t : Tk) (A : Ab), gA A → gA (pNl cs n t A).2
  | 0, t, A, g => g
  | n + 1, t, A, g => by
    unfold pNl
    split
    · next h =>
      refine gA_nl cs n _ _ ?_
      obtain ⟨g1, g2, g3⟩ := g
      have hn := num_v h
      refine ⟨g1, g2, ?_⟩
      intro k hk
      have hk2 : k < (aH A).length + 1 := by
        have : k < (aH A ++ [t.2.1]).length := hk
        rw [List.length_append] at this; exact this
      show gN (aH A ++ [_]) k ≤ 9
      rw [gN_app hk2]
      by_cases hq : k = (aH A).length
      · rw [if_pos hq]; omega
      · rw [if_neg hq]; exact g3 k (by omega)
    · exact g
theorem gA_item {cs : List Nat} {t : Tk} {A : Ab} (w : wA A) (g : gA A) : gA (pItem cs t A).2.1 := by
  unfold pItem
  split
  · exact g
  · show gA (pWhat cs t A).2.1
    unfold pWhat
    split
    · exact gA_tale w g
    · split
      · unfold pNights
        split
        · exact g
        · exact gA_nl cs 8 _ A g
      · split
        · unfold pMem
          split
          · exact g
          · split
            · exact g
            · exact g
        · split
          · unfold pDep
            split
            · exact g
            · split
              · exact g
              · exact g
          · exact g
theorem gA_all (cs : List Nat) : ∀ (n k : Nat) (t : Tk) (A : Ab), wA A → gA A → wA (pAll cs n k t A).2.1 ∧ gA (pAll cs n k t A).2.1
  | 0, k, t, A, w, g => ⟨w, g⟩
  | n + 1, k, t, A, w, g => by
    unfold pAll
    split
    · exact ⟨w, g⟩
    · split
      · exact gA_all cs n _ _ _ (wA_item w) (gA_item w g)
      · exact ⟨wA_item w, gA_item w g⟩
theorem wB_is {B : Bk} {A : Ab} (q : bIs B (aSet A)) (w : wA A) (g : gA A) : wB 9 B := by
  obtain ⟨q1, q2, q3, q4, q5, q6, q7, q8⟩ := q
  obtain ⟨w1, w2, w3, w4⟩ := w
  obtain ⟨g1, g2, g3⟩ := g
  have e1 : aP (aSet A) = aP A := rfl
  have e2 : aW (aSet A) = aW A := rfl
  have e3 : aH (aSet A) = if (aH A).length = 0 then [5] else aH A := rfl
  have e4 : aM (aSet A) = if aM A = 0 then 3 else aM A := rfl
  have e5 : aD (aSet A) = if aD A = 0 then 6 else aD A := rfl
  rw [e1] at q1 q6
  rw [e1, e2] at q7
  rw [e3] at q2 q8
  rw [e4] at q3
  rw [e5] at q4
  have hl : 1 ≤ (if (aH A).length = 0 then [5] else aH A).length ∧ (if (aH A).length = 0 then [5] else aH A).length ≤ 8 := by
    split
    · exact ⟨by simp, by simp⟩
    · exact ⟨by omega, w2⟩
  refine ⟨by omega, by omega, by omega, by rw [q3]; split <;> omega, by rw [q4]; split <;> omega, ?_, ?_⟩
  · intro t ht
    rw [q1] at ht
    rw [q6 t ht, q7 t ht]
    obtain ⟨a, b, c⟩ := g2 t ht
    exact ⟨a, by omega, by omega⟩
  · intro k hk
    rw [q8 k (by omega)]
    by_cases h0 : (aH A).length = 0
    · rw [if_pos h0] at q2 ⊢
      have : k = 0 := by
        have : bK B = 1 := q2
        omega
      subst this
      show 5 ≤ 9
      omega
    · rw [if_neg h0] at q2 ⊢
      exact g3 k (by omega)
def rdA (cs : List Nat) : Tk × Ab × Option Nat := pAll cs 150 0 (nxt cs 0) ([], [], [], 0, 0)
theorem rdA_ok (cs : List Nat) : wA (rdA cs).2.1 ∧ gA (rdA cs).2.1 := gA_all cs _ _ _ _ ⟨Nat.zero_le _, Nat.zero_le _, by decide, by decide⟩ ⟨rfl, fun t ht => (nomatch ht), fun k hk => (nomatch hk)⟩
section RDT
variable {X : Cx} {h : Hp} {z d n m : Nat} {cs : List Nat} {B : Bk} {N : Tl} {P : List Tl} {I J : Im} {wn op : List Nat} {tr : Int64}
theorem pTok.tx {h : Hp} {x : Nat} {cs : List Nat} {t : Tk} (p : pTok h x cs t) : pTx h x cs := by
  obtain ⟨va, p1, p2, -, -, p3, -⟩ := p
  exact ⟨_, _, _, va, p1, p3, p2⟩
theorem c_D_tales_no (p : pC h d cs B N P I J wn op n tr) (e : (rdA cs).2.2 = none) : Ct X 6 mt_X11_tales [.ref d] (h, z) 0 0 (Qi (fun r S' => r = -10 - nI (rdA cs).1.2.2.1 ∧ S'.2 = z ∧ hfr h S'.1 d 174 ∧ pC S'.1 d cs B N P I J wn op n tr)) := by
  obtain ⟨po, px, pb, ⟨B2, pd⟩, ps, pia, ⟨kn, pr⟩, ph, pka, pkd, pi, pj⟩ := id p
  unfold pDO at po
  obtain ⟨i0, af, tk, va, x1, x2, px1⟩ := id px
  have hx := px1.1
  refine mk_X11_tales (Nat.le_of_ble_eq_true rfl) (L := [.ref d, .retAddr 0]) rfl ?_
  refine ev_aload_n (pc := 0) dX11_tales_0 rfl ?_
  refine gf_X11_10 (pc := 1) rfl dX11_tales_1 (by (try dsimp only); (repeat (first | rw [up_s] | rw [up_n (by omega)])) <;> first | rfl | assumption) ?_
  refine ev_aload_n (pc := 4) dX11_tales_4 rfl ?_
  refine gf_X11_23 (pc := 5) rfl dX11_tales_5 (by (try dsimp only); (repeat (first | rw [up_s] | rw [up_n (by omega)])) <;> first | rfl | assumption) ?_
  refine iv_X11_88 (pc := 8) rfl dX11_tales_8 (by (try dsimp only); (repeat (first | rw [up_s] | rw [up_n (by omega)])) <;> first | rfl | assumption) (Nat.le_of_ble_eq_true rfl) (Nat.le_of_ble_eq_true rfl) (Nat.le_of_ble_eq_true rfl) (Nat.le_of_ble_eq_true rfl) (c_readInto px1 x1 x2 pd (by omega)) (ki (fun r S' hS => ?_))
  obtain ⟨h1, z'⟩ := S'
  obtain ⟨rfl, rfl, f1, t1, ⟨B3, q3⟩, -⟩ := hS
  rw [show (pAll cs 150 0 (nxt cs 0) ([], [], [], 0, 0)).2.2 = none from e]
  obtain ⟨va1, y1, y2, y3⟩ := id t1
  have hx1 := y2.1
  have po1 := (f1 d (by omega) (by omega)).trans po
  refine ev_istore_n (pc := 11) (L' := [_, _]) dX11_tales_11 (Nat.le_of_ble_eq_true rfl) rfl ?_
  refine ev_iload_n (pc := 12) dX11_tales_12 rfl ?_
  refine ev_if_ge (pc := 13) 27 dX11_tales_13 (by decide) (fun c_13 => ?_) (fun c_13 => ?_)
  · exact absurd c_13 (by decide)
  · (try simp (disch := omega) only [i32_lti, i32_lei, i32_eqi, nI_toInt, i32z] at c_13)
    refine ev_bipush (pc := 16) (v := (-10)) dX11_tales_16 kb_m10 ?_
    refine ev_aload_n (pc := 18) dX11_tales_18 rfl ?_
    refine gf_X11_10 (pc := 19) rfl dX11_tales_19 (by (try dsimp only); (repeat (first | rw [up_s] | rw [up_n (by omega)])) <;> first | rfl | assumption) ?_
    refine gf_X11_92 (pc := 22) rfl dX11_tales_22 (by (try dsimp only); (repeat (first | rw [up_s] | rw [up_n (by omega)])) <;> first | rfl | assumption) ?_
    refine ev_isub (pc := 25) dX11_tales_25 ?_
    refine ev_iret (pc := 26) dX11_tales_26 rfl rfl (Nat.le_of_ble_eq_true rfl) (Nat.le_of_ble_eq_true rfl) ?_
    exact ⟨_, rfl, rfl, rfl, fun q a => f1 q (by omega) (by omega), po1, t1.tx, pb.fr (fun q a b => f1 q (by omega) (by omega)), ⟨B3, q3⟩, ps.fr (fun q a b => f1 q (by omega) (by omega)), (f1 _ (by omega) (by omega)).trans pia, ⟨kn, pr.fr (fun q a b => f1 q (by omega) (by omega))⟩, ph.fr (f1 _ (by omega) (by omega)) (f1 _ (by omega) (by omega)), (f1 _ (by omega) (by omega)).trans pka, pkd.fr (fun q a b => f1 q (by omega) (by omega)), pi.fr (fun q a b => f1 q (by omega) (by omega)), pj.fr (fun q a b => f1 q (by omega) (by omega))⟩
theorem c_D_tales (p : pC h d cs B N P I J wn op n tr) {k : Nat} (e : (rdA cs).2.2 = some k) : Ct X 6 mt_X11_tales [.ref d] (h, z) 0 0 (Qi (fun r S' => r = nI k ∧ S'.2 = z ∧ hfr h S'.1 d 174 ∧ ∃ B2 : Bk, bIs B2 (aSet (rdA cs).2.1) ∧ pC S'.1 d [] B2 (startT B2) [] none none wn op 0 tr)) := by
  obtain ⟨po, px, pb, ⟨B2, pd⟩, ps, pia, ⟨kn, pr⟩, ph, pka, pkd, pi, pj⟩ := id p
  unfold pDO at po
  obtain ⟨i0, af, tk, va, x1, x2, px1⟩ := id px
  have hx := px1.1
  have hk : k ≤ 150 := by have := pAll_le cs _ _ _ _ _ e; omega
  have ok := rdA_ok cs
  refine mk_X11_tales (Nat.le_of_ble_eq_true rfl) (L := [.ref d, .retAddr 0]) rfl ?_
  refine ev_aload_n (pc := 0) dX11_tales_0 rfl ?_
  refine gf_X11_10 (pc := 1) rfl dX11_tales_1 (by (try dsimp only); (repeat (first | rw [up_s] | rw [up_n (by omega)])) <;> first | rfl | assumption) ?_
  refine ev_aload_n (pc := 4) dX11_tales_4 rfl ?_
  refine gf_X11_23 (pc := 5) rfl dX11_tales_5 (by (try dsimp only); (repeat (first | rw [up_s] | rw [up_n (by omega)])) <;> first | rfl | assumption) ?_
  refine iv_X11_88 (pc := 8) rfl dX11_tales_8 (by (try dsimp only); (repeat (first | rw [up_s] | rw [up_n (by omega)])) <;> first | rfl | assumption) (Nat.le_of_ble_eq_true rfl) (Nat.le_of_ble_eq_true rfl) (Nat.le_of_ble_eq_true rfl) (Nat.le_of_ble_eq_true rfl) (c_readInto px1 x1 x2 pd (by omega)) (ki (fun r S' hS => ?_))
  obtain ⟨h1, z'⟩ := S'
  obtain ⟨rfl, rfl, f1, t1, -, q3⟩ := hS
  rw [show (pAll cs 150 0 (nxt cs 0) ([], [], [], 0, 0)).2.2 = some k from e]
  obtain ⟨B3, q3, s3⟩ := q3 k e
  have b9 : wB 9 B3 := wB_is s3 ok.1 ok.2
  obtain ⟨va1, y1, y2, y3⟩ := id t1
  have hx1 := y2.1
  have po1 := (f1 d (by omega) (by omega)).trans po
  have pb1 := pb.fr (fun q a b => f1 q (by omega) (by omega))
  have hb1 := pb1.1
  show Ev X _ _ _ _ _ _ _ [.int (nI k)]
  refine ev_istore_n (pc := 11) (L' := [_, _]) dX11_tales_11 (Nat.le_of_ble_eq_true rfl) rfl ?_
  refine ev_iload_n (pc := 12) dX11_tales_12 rfl ?_
  refine ev_if_ge (pc := 13) 27 dX11_tales_13 (by decide) (fun c_13 => ?_) (fun c_13 => ?_)
  · (try simp (disch := omega) only [i32_lti, i32_lei, i32_eqi, nI_toInt, i32z] at c_13)
    refine ev_aload_n (pc := 27) dX11_tales_27 rfl ?_
    refine gf_X11_19 (pc := 28) rfl dX11_tales_28 (by (try dsimp only); (repeat (first | rw [up_s] | rw [up_n (by omega)])) <;> first | rfl | assumption) ?_
    refine ev_aload_n (pc := 31) dX11_tales_31 rfl ?_
    refine gf_X11_23 (pc := 32) rfl dX11_tales_32 (by (try dsimp only); (repeat (first | rw [up_s] | rw [up_n (by omega)])) <;> first | rfl | assumption) ?_
    refine iv_X11_95 (pc := 35) rfl dX11_tales_35 (by (try dsimp only); (repeat (first | rw [up_s] | rw [up_n (by omega)])) <;> first | rfl | assumption) (Nat.le_of_ble_eq_true rfl) (Nat.le_of_ble_eq_true rfl) (Nat.le_of_ble_eq_true rfl) (Nat.le_of_ble_eq_true rfl) (c_copyFrom pb1 q3 (by omega)) (kv (fun S' hS => ?_))
    obtain ⟨h2, z'⟩ := S'
    obtain ⟨rfl, f2, b2⟩ := hS
    have po2 := (f2 d (by omega)).trans po1
    have y22 := y2.fr (fun q a b => f2 q (by omega))
    have hx2 := y22.1
    refine ev_aload_n (pc := 38) dX11_tales_38 rfl ?_
    refine gf_X11_10 (pc := 39) rfl dX11_tales_39 (by (try dsimp only); (repeat (first | rw [up_s] | rw [up_n (by omega)])) <;> first | rfl | assumption) ?_
    refine iv_X11_84 (pc := 42) rfl dX11_tales_42 (by (try dsimp only); (repeat (first | rw [up_s] | rw [up_n (by omega)])) <;> first | rfl | assumption) (Nat.le_of_ble_eq_true rfl) (Nat.le_of_ble_eq_true rfl) (Nat.le_of_ble_eq_true rfl) (Nat.le_of_ble_eq_true rfl) (c_empty y22) (ki (fun r S' hS => ?_))
    obtain ⟨h3, z'⟩ := S'
    obtain ⟨rfl, rfl, f3, t3⟩ := hS
    have po3 := (f3 d (by omega)).trans po2
    have f03 : ∀ q : Nat, (q = d ∨ d + 11 ≤ q ∨ q < d) → h3 q = h q := fun q a => (f3 q (by omega)).trans ((f2 q (by omega)).trans (f1 q (by omega) (by omega)))
    have b3 := b2.fr (fun q a b => f3 q (by omega))
    refine ev_pop (pc := 45) dX11_tales_45 rfl ?_
    refine ev_aload_n (pc := 46) dX11_tales_46 rfl ?_
    refine iv_X11_73 (pc := 47) rfl dX11_tales_47 (by (try dsimp only); (repeat (first | rw [up_s] | rw [up_n (by omega)])) <;> first | rfl | assumption) (Nat.le_of_ble_eq_true rfl) (Nat.le_of_ble_eq_true rfl) (Nat.le_of_ble_eq_true rfl) (Nat.le_of_ble_eq_true rfl) (c_startAnew po3 (ps.raw.fr (fun q a b => f03 q (by omega))) b3 b9 (pr.fr (fun q a b => f03 q (by omega)))) (kv (fun S' hS => ?_))
    obtain ⟨h4, z'⟩ := S'
    obtain ⟨rfl, f4, d4, s4, r4⟩ := hS
    refine ev_iload_n (pc := 50) dX11_tales_50 rfl ?_
    refine ev_iret (pc := 51) dX11_tales_51 rfl rfl (Nat.le_of_ble_eq_true rfl) (Nat.le_of_ble_eq_true rfl) ?_
    exact ⟨_, rfl, rfl, rfl, (fun q a => (f4 q (by omega)).trans (f03 q (by omega))), B3, s3, d4, ⟨_, _, _, _, y1, y3.2.2.1, t3.fr (fun q a b => f4 q (by omega))⟩, b3.fr (fun q a b => f4 q (by omega)), ⟨B3, q3.fr (fun q a b => (f4 q (by omega)).trans ((f3 q (by omega)).trans (f2 q (by omega))))⟩, s4, (f4 _ (by omega)).trans ((f03 _ (by omega)).trans pia), ⟨false, r4⟩, ⟨(f4 _ (by omega)).trans ((f03 _ (by omega)).trans ph.1), ph.2.1, (f4 _ (by omega)).trans ((f03 _ (by omega)).trans ph.2.2.1), ph.2.2.2.1, by omega, fun k hk => by omega⟩, (f4 _ (by omega)).trans ((f03 _ (by omega)).trans pka), pkd.fr (fun q a b => (f4 q (by omega)).trans (f03 q (by omega))), pi.raw.fr (fun q a b => (f4 q (by omega)).trans (f03 q (by omega))), pj.raw.fr (fun q a b => (f4 q (by omega)).trans (f03 q (by omega)))⟩
  · exfalso; (try simp (disch := omega) only [i32_lti, i32_lei, i32_eqi, nI_toInt, i32z] at c_13); omega
end RDT
