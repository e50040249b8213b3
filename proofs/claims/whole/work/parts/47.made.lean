/-! ===== DawnTales: all of it; made ===== -/
abbrev Im : Type := Option (Tl × List Tl)
def pIm (h : Hp) (s : Nat) (I : Im) : Prop := match I with
  | none => rStand h s
  | some S => pStand h s S.1 S.2
theorem pIm.raw {h : Hp} {s : Nat} {I : Im} (p : pIm h s I) : rStand h s := by
  cases I with
  | none => exact p
  | some S => exact pStand.raw p
theorem rStand.fr {h h' : Hp} {s : Nat} (p : rStand h s) (e : ∀ q : Nat, s ≤ q → q < s + 46 → h' q = h q) : rStand h' s := by
  obtain ⟨ix, k, p1, p2, p3, p4, p5⟩ := p
  exact ⟨ix, k, p1, (e _ (by omega) (by omega)).trans p2, (e _ (by omega) (by omega)).trans p3, p4.fr (fun q a b => e q (by omega) (by omega)), fun j hj => (p5 j hj).fr (fun q a b => e q (by omega) (by omega))⟩
theorem pIm.fr {h h' : Hp} {s : Nat} {I : Im} (p : pIm h s I) (e : ∀ q : Nat, s ≤ q → q < s + 46 → h' q = h q) : pIm h' s I := by
  cases I with
  | none => exact rStand.fr p e
  | some S => exact pStand.fr p e
def kI (I J : Im) : Nat := (if I.isSome then 1 else 0) + (if J.isSome then 2 else 0)
def pKd (h : Hp) (d : Nat) (tr : Int64) : Prop := ∃ v0 v1 v2 v3 v4 v5 : Int64, h (d + 76) = some (.inl (7, [.long v0])) ∧ h (d + 77) = some (.inl (1, [.long v1])) ∧ h (d + 78) = some (.inl (4, [.long v2])) ∧ h (d + 79) = some (.inl (10, [.long v3])) ∧ h (d + 80) = some (.inl (2, [.long v4])) ∧ h (d + 81) = some (.inl (3, [.long v5])) ∧ v0 + v1 + v2 + v3 + v4 + v5 = tr
theorem pKd.fr {h h' : Hp} {d : Nat} {tr : Int64} (p : pKd h d tr) (e : ∀ q : Nat, d + 76 ≤ q → q < d + 82 → h' q = h q) : pKd h' d tr := by
  obtain ⟨v0, v1, v2, v3, v4, v5, p0, p1, p2, p3, p4, p5, p6⟩ := p
  exact ⟨v0, v1, v2, v3, v4, v5, (e _ (by omega) (by omega)).trans p0, (e _ (by omega) (by omega)).trans p1, (e _ (by omega) (by omega)).trans p2, (e _ (by omega) (by omega)).trans p3, (e _ (by omega) (by omega)).trans p4, (e _ (by omega) (by omega)).trans p5, p6⟩
def pKa (h : Hp) (d : Nat) : Prop := h (d + 75) = some (.inr (6, .inr (.inr [some (d + 76), some (d + 77), some (d + 78), some (d + 79), some (d + 80), some (d + 81)])))
def pIa (h : Hp) (d : Nat) : Prop := h (d + 57) = some (.inr (5, .inr (.inr [some (d + 82), some (d + 128)])))
def pTx (h : Hp) (x : Nat) (cs : List Nat) : Prop := ∃ i0 af tk va : Nat, va < 1000 ∧ tk < 5 ∧ pText h x cs i0 af tk va
theorem pTx.fr {h h' : Hp} {x : Nat} {cs : List Nat} (p : pTx h x cs) (e : ∀ q : Nat, x ≤ q → q < x + 2 → h' q = h q) : pTx h' x cs := by
  obtain ⟨i0, af, tk, va, p1, p2, p3⟩ := p
  exact ⟨i0, af, tk, va, p1, p2, p3.fr e⟩
theorem pHeard.fr {h h' : Hp} {d n : Nat} {wn op : List Nat} (p : pHeard h d wn op n) (e1 : h' (d + 73) = h (d + 73)) (e2 : h' (d + 74) = h (d + 74)) : pHeard h' d wn op n := by
  obtain ⟨p1, p2, p3, p4⟩ := p
  exact ⟨e1.trans p1, p2, e2.trans p3, p4⟩
/-- a DawnTales at d (cells d .. d+173): the text typed, the book, the telling now, those before it, two images, what was heard, the trace -/
def pC (h : Hp) (d : Nat) (cs : List Nat) (B : Bk) (N : Tl) (P : List Tl) (I J : Im) (wn op : List Nat) (n : Nat) (tr : Int64) : Prop := pDO h d (nI (kI I J)) (nI n) ∧ pTx h (d + 1) cs ∧ pBook h (d + 3) B ∧ (∃ B2 : Bk, pBook h (d + 7) B2) ∧ pStand h (d + 11) N P ∧ pIa h d ∧ (∃ kn : Bool, pRows h (d + 58) B kn) ∧ pHeard h d wn op n ∧ pKa h d ∧ pKd h d tr ∧ pIm h (d + 82) I ∧ pIm h (d + 128) J
section INIT
variable {X : Cx} {h : Hp} {z d : Nat}
theorem bestN_new : bestN (bLong bNew 8) = 0 := by decide +kernel
theorem wB_new : wB 9 bNew := by
  refine ⟨by decide, by decide, by decide, by decide, by decide, fun t ht => ?_, fun k hk => ?_⟩
  · exact absurd ht (by show ¬ t < 0; omega)
  · have : k = 0 := by have : k < 1 := hk; omega
    subst this
    decide
theorem c_DawnTales_init (ha : h d = some (.inl (11, [.null, .null, .null, .null, .null, .int 0, .null, .null, .null, .int 0, .null]))) (hz : z = d + 1) : Ct X 5 mt_X11_init [.ref d] (h, z) 173 13019 (Qv (fun S' => S'.2 = d + 174 ∧ hfr h S'.1 d 174 ∧ pC S'.1 d [] bNew (startT bNew) [] none none (List.replicate 6 0) (List.replicate 6 0) 0 0)) := by
  subst hz
  refine mk_X11_init (Nat.le_of_ble_eq_true rfl) (L := [.ref d, .retAddr 0]) rfl ?_
  have loop : ∀ (n i : Nat), 2 - i = n → i ≤ 2 → ∀ (h0 h1 : Hp) (rs : List (Option Nat)), (∀ q : Nat, (q < d ∨ d + 174 ≤ q) → h0 q = h q) → (∀ q : Nat, q ≠ d + 57 → (q < d + 82 ∨ d + 174 ≤ q) → h1 q = h0 q) → pDO h0 d 0 0 → pTx h0 (d + 1) [] → pBook h0 (d + 3) bNew → pBook h0 (d + 7) bNew → rStand h0 (d + 11) → pRows h0 (d + 58) bNew false → pHeard h0 d (List.replicate 6 0) (List.replicate 6 0) 0 → pKa h0 d → pKd h0 d 0 → h1 (d + 57) = some (.inr (5, .inr (.inr rs))) → rs.length = 2 → (∀ j : Nat, j < i → rs[j]? = some (some ((d + 82 + 46 * j)))) → (∀ j : Nat, j < i → rStand h1 ((d + 82 + 46 * j))) → ∀ (kc ks z1 : Nat), kc = 81 + 46 * i → ks = 12377 + 321 * i → z1 = d + 82 + 46 * i → Ev X (mi_X11_init 5 173 13019) (Qv (fun S' => S'.2 = d + 174 ∧ hfr h S'.1 d 174 ∧ pC S'.1 d [] bNew (startT bNew) [] none none (List.replicate 6 0) (List.replicate 6 0) 0 0)) kc ks (h1, z1) 154 [.ref d, .int (nI i)] [] := by
    intro n
    induction n with
    | zero =>
      intro i hn hi h0 h1 rs e0 e1 po p1 p2 p3 p4 p5 p6 p7 p8 a3 al ar a5 kc ks z1 ekc eks ez
      subst ez
      have hi2 : i = 2 := by omega
      subst hi2
      have po1 : pDO h1 d 0 0 := (e1 d (by omega) (by omega)).trans po
      have po1' := po1
      unfold pDO at po1'
      have ers : rs = [some (d + 82), some (d + 128)] := by
        apply List.ext_getElem?
        intro j
        by_cases hj : j < 2
        · rw [ar j hj]
          have h01 : j = 0 ∨ j = 1 := by omega
          rcases h01 with q | q <;> subst q <;> rfl
        · rw [List.getElem?_eq_none (by omega), List.getElem?_eq_none (by simp; omega)]
      subst ers
      have b1 := p4.fr (fun q a b => e1 q (by omega) (by omega))
      have b2 := p2.fr (fun q a b => e1 q (by omega) (by omega))
      have b3 := p5.fr (fun q a b => e1 q (by omega) (by omega))
      refine ev_iload_n (pc := 154) dX11_init_154 rfl ?_
      refine ev_aload_n (pc := 155) dX11_init_155 rfl ?_
      refine gf_X11_33 (pc := 156) rfl dX11_init_156 (by (try dsimp only); (repeat (first | rw [up_s] | rw [up_n (by omega)])) <;> first | rfl | assumption) ?_
      refine ev_alen (pc := 159) (t := 5) dX11_init_159 (Nat.le_of_ble_eq_true rfl) (by (try dsimp only); (repeat (first | rw [up_s] | rw [up_n (by omega)])) <;> first | rfl | assumption) ?_
      refine ev_icmp_ge (pc := 160) 182 dX11_init_160 (by decide) (fun c_160 => ?_) (fun c_160 => ?_)
      · (try simp (disch := omega) only [i32_lti, i32_lei, i32_eqi, nI_toInt, i32z] at c_160)
        refine ev_aload_n (pc := 182) dX11_init_182 rfl ?_
        refine iv_X11_73 (pc := 183) rfl dX11_init_183 (by (try dsimp only); (repeat (first | rw [up_s] | rw [up_n (by omega)])) <;> first | rfl | assumption) (Nat.le_of_ble_eq_true rfl) (Nat.le_of_ble_eq_true rfl) (by dsimp only [mC, mS]; omega) (by dsimp only [mC, mS]; omega) (c_startAnew po1 b1 b2 wB_new b3) (kv (fun S' hS => ?_))
        obtain ⟨h2, z'⟩ := S'
        obtain ⟨rfl, f2, d2, s2, r2⟩ := hS
        refine ev_ret (pc := 186) dX11_init_186 rfl (by dsimp only [mC, mS]; omega) (by dsimp only [mC, mS]; omega) ?_
        exact ⟨rfl, rfl, (by intro q hq; exact (f2 q (by omega)).trans ((e1 q (by omega) (by omega)).trans (e0 q hq))), d2, p1.fr (fun q a b => (f2 q (by omega)).trans (e1 q (by omega) (by omega))), p2.fr (fun q a b => (f2 q (by omega)).trans (e1 q (by omega) (by omega))), ⟨bNew, p3.fr (fun q a b => (f2 q (by omega)).trans (e1 q (by omega) (by omega)))⟩, s2, (f2 _ (by omega)).trans a3, ⟨false, r2⟩, p6.fr ((f2 _ (by omega)).trans (e1 _ (by omega) (by omega))) ((f2 _ (by omega)).trans (e1 _ (by omega) (by omega))), (f2 _ (by omega)).trans ((e1 _ (by omega) (by omega)).trans p7), p8.fr (fun q a b => (f2 q (by omega)).trans (e1 q (by omega) (by omega))), (a5 0 (by omega)).fr (fun q a b => f2 q (by omega)), (a5 1 (by omega)).fr (fun q a b => f2 q (by omega))⟩
      · exfalso; rw [show am_len (.inr (5, .inr (.inr [some (d + 82), some (d + 128)]))) = 2 from rfl] at c_160; (try simp (disch := omega) only [i32_lti, i32_lei, i32_eqi, nI_toInt, i32z] at c_160); omega
    | succ n ih =>
      intro i hn hi h0 h1 rs e0 e1 po p1 p2 p3 p4 p5 p6 p7 p8 a3 al ar a5 kc ks z1 ekc eks ez
      subst ez
      have po1 : pDO h1 d 0 0 := (e1 d (by omega) (by omega)).trans po
      unfold pDO at po1
      refine ev_iload_n (pc := 154) dX11_init_154 rfl ?_
      refine ev_aload_n (pc := 155) dX11_init_155 rfl ?_
      refine gf_X11_33 (pc := 156) rfl dX11_init_156 (by (try dsimp only); (repeat (first | rw [up_s] | rw [up_n (by omega)])) <;> first | rfl | assumption) ?_
      refine ev_alen (pc := 159) (t := 5) dX11_init_159 (Nat.le_of_ble_eq_true rfl) (by (try dsimp only); (repeat (first | rw [up_s] | rw [up_n (by omega)])) <;> first | rfl | assumption) ?_
      refine ev_icmp_ge (pc := 160) 182 dX11_init_160 (by decide) (fun c_160 => ?_) (fun c_160 => ?_)
      · exfalso; rw [show am_len (.inr (5, .inr (.inr rs))) = 2 from al] at c_160; (try simp (disch := omega) only [i32_lti, i32_lei, i32_eqi, nI_toInt, i32z] at c_160); omega
      · (try simp (disch := omega) only [i32_lti, i32_lei, i32_eqi, nI_toInt, i32z] at c_160)
        refine ev_aload_n (pc := 163) dX11_init_163 rfl ?_
        refine gf_X11_33 (pc := 164) rfl dX11_init_164 (by (try dsimp only); (repeat (first | rw [up_s] | rw [up_n (by omega)])) <;> first | rfl | assumption) ?_
        refine ev_iload_n (pc := 167) dX11_init_167 rfl ?_
        refine ev_new (pc := 168) (ci := 6) (fs := [.null, .null, .int 0]) dX11_init_168 rfl inT6 tyX6_ok tw_107 tw_108 tw_4 nd6 (by dsimp only [mC, mS]; omega) (by dsimp only [mC, mS]; omega) ?_
        refine ev_dup (pc := 171) dX11_init_171 rfl ?_
        refine iv_X11_28 (pc := 172) rfl dX11_init_172 (Nat.le_of_ble_eq_true rfl) (Nat.le_of_ble_eq_true rfl) (by dsimp only [mC, mS]; omega) (by dsimp only [mC, mS]; omega) (c_Stand_init (by (try dsimp only); (repeat (first | rw [up_s] | rw [up_n (by omega)])) <;> first | rfl | assumption) (by omega)) (kv (fun S' hS => ?_))
        obtain ⟨h', z'⟩ := S'
        obtain ⟨rfl, f2, r2⟩ := hS
        have g4 := (f2 (d + 57) (by omega)).trans ((up_n (by omega)).trans a3)
        obtain ⟨ix0, k0, -, e00, -⟩ := id r2
        have g2 : ∀ q : Nat, (q < d + 82 + 46 * i ∨ d + 82 + 46 * i + 46 ≤ q) → h' q = h1 q := fun q hq => (f2 q (by omega)).trans (up_n (by omega))
        refine ev_aast (pc := 175) (t := 5) (ci := 6) dX11_init_175 (Nat.le_of_ble_eq_true rfl) rfl g4 e00 rfl (Or.inl rfl) (nI_toInt (by omega)) (by omega) ?_
        refine ev_iinc (pc := 176) (L' := [_, _]) dX11_init_176 rfl (nI_1 _) rfl ?_
        refine ev_goto (pc := 179) 154 dX11_init_179 (by decide) ?_
        refine ih (i + 1) (by omega) (by omega) h0 _ (rs.set i (some (d + 82 + 46 * i))) e0 ?_ po p1 p2 p3 p4 p5 p6 p7 p8 (up_s _ _ _) ((List.length_set ..).trans al) ?_ ?_ _ _ _ ?_ ?_ ?_
        · intro q hq hq2
          show hup h' (d + 57) _ q = h0 q
          rw [up_n (by omega)]
          exact (g2 q (by omega)).trans (e1 q hq hq2)
        · intro j hj
          rw [List.getElem?_set]
          by_cases hq : i = j
          · rw [if_pos hq, if_pos (by omega), hq]
          · rw [if_neg hq]; exact ar j (by omega)
        · intro j hj
          by_cases hq : j = i
          · subst hq; exact r2.fr (fun q a b => up_n (by omega))
          · exact (a5 j (by omega)).fr (fun q a b => (up_n (by omega)).trans (g2 q (by omega)))
        · omega
        · omega
        · omega
  refine ev_aload_n (pc := 0) dX11_init_0 rfl ?_
  refine ev_objInit (pc := 1) dX11_init_1 tw_23 tw_24 tw_25 (Nat.le_of_ble_eq_true rfl) (Nat.le_of_ble_eq_true rfl) ?_
  refine ev_aload_n (pc := 4) dX11_init_4 rfl ?_
  refine ev_new (pc := 5) (ci := 9) (fs := [.null, .int 0, .int 0, .int 0, .int 0, .int 0]) dX11_init_5 rfl inT9 tyX9_ok tw_26 tw_27 tw_2 nd9 (Nat.le_of_ble_eq_true rfl) (Nat.le_of_ble_eq_true rfl) ?_
  refine ev_dup (pc := 8) dX11_init_8 rfl ?_
  refine iv_X11_9 (pc := 9) rfl dX11_init_9 (Nat.le_of_ble_eq_true rfl) (Nat.le_of_ble_eq_true rfl) (Nat.le_of_ble_eq_true rfl) (Nat.le_of_ble_eq_true rfl) (c_Text_init (by (try dsimp only); (repeat (first | rw [up_s] | rw [up_n (by omega)])) <;> first | rfl | assumption) (by omega)) (kv (fun S' hS => ?_))
  obtain ⟨h1, z'⟩ := S'
  obtain ⟨rfl, f1, t1⟩ := hS
  have g1 := (f1 d (by omega)).trans ((up_n (by omega)).trans ha)
  have m1 : ∀ q : Nat, (q < d ∨ d + 3 ≤ q) → h1 q = h q := fun q e => (f1 q (by omega)).trans (up_n (by omega))
  refine pf_X11_10 (pc := 12) rfl rfl dX11_init_12 (by (try dsimp only); (repeat (first | rw [up_s] | rw [up_n (by omega)])) <;> first | rfl | assumption) ?_
  refine ev_aload_n (pc := 15) dX11_init_15 rfl ?_
  refine ev_new (pc := 16) (ci := 0) (fs := [.int 0, .null, .null, .int 0, .null, .int 0, .int 0]) dX11_init_16 rfl inT0 tyX0_ok tw_54 tw_55 tw_3 nd0 (Nat.le_of_ble_eq_true rfl) (Nat.le_of_ble_eq_true rfl) ?_
  refine ev_dup (pc := 19) dX11_init_19 rfl ?_
  refine iv_X11_18 (pc := 20) rfl dX11_init_20 (Nat.le_of_ble_eq_true rfl) (Nat.le_of_ble_eq_true rfl) (Nat.le_of_ble_eq_true rfl) (Nat.le_of_ble_eq_true rfl) (c_Book_init (by (try dsimp only); (repeat (first | rw [up_s] | rw [up_n (by omega)])) <;> first | rfl | assumption) (by omega)) (kv (fun S' hS => ?_))
  obtain ⟨h2, z'⟩ := S'
  obtain ⟨rfl, f2, t2⟩ := hS
  have g2 : h2 d = some (.inl (11, [.ref (d + 1), .null, .null, .null, .null, .int 0, .null, .null, .null, .int 0, .null])) := (f2 d (by omega)).trans (by (try dsimp only); (repeat (first | rw [up_s] | rw [up_n (by omega)])) <;> first | rfl | assumption)
  have m2 : ∀ q : Nat, q ≠ d → (q < d + 3 ∨ d + 7 ≤ q) → h2 q = h1 q := fun q e e' => (f2 q (by omega)).trans ((up_n (by omega)).trans (up_n (by omega)))
  refine pf_X11_19 (pc := 23) rfl rfl dX11_init_23 (by (try dsimp only); (repeat (first | rw [up_s] | rw [up_n (by omega)])) <;> first | rfl | assumption) ?_
  refine ev_aload_n (pc := 26) dX11_init_26 rfl ?_
  refine ev_new (pc := 27) (ci := 0) (fs := [.int 0, .null, .null, .int 0, .null, .int 0, .int 0]) dX11_init_27 rfl inT0 tyX0_ok tw_54 tw_55 tw_3 nd0 (Nat.le_of_ble_eq_true rfl) (Nat.le_of_ble_eq_true rfl) ?_
  refine ev_dup (pc := 30) dX11_init_30 rfl ?_
  refine iv_X11_18 (pc := 31) rfl dX11_init_31 (Nat.le_of_ble_eq_true rfl) (Nat.le_of_ble_eq_true rfl) (Nat.le_of_ble_eq_true rfl) (Nat.le_of_ble_eq_true rfl) (c_Book_init (by (try dsimp only); (repeat (first | rw [up_s] | rw [up_n (by omega)])) <;> first | rfl | assumption) (by omega)) (kv (fun S' hS => ?_))
  obtain ⟨h3, z'⟩ := S'
  obtain ⟨rfl, f3, t3⟩ := hS
  have g3 : h3 d = some (.inl (11, [.ref (d + 1), .ref (d + 3), .null, .null, .null, .int 0, .null, .null, .null, .int 0, .null])) := (f3 d (by omega)).trans (by (try dsimp only); (repeat (first | rw [up_s] | rw [up_n (by omega)])) <;> first | rfl | assumption)
  have m3 : ∀ q : Nat, q ≠ d → (q < d + 7 ∨ d + 11 ≤ q) → h3 q = h2 q := fun q e e' => (f3 q (by omega)).trans ((up_n (by omega)).trans (up_n (by omega)))
  refine pf_X11_23 (pc := 34) rfl rfl dX11_init_34 (by (try dsimp only); (repeat (first | rw [up_s] | rw [up_n (by omega)])) <;> first | rfl | assumption) ?_
  refine ev_aload_n (pc := 37) dX11_init_37 rfl ?_
  refine ev_new (pc := 38) (ci := 6) (fs := [.null, .null, .int 0]) dX11_init_38 rfl inT6 tyX6_ok tw_107 tw_108 tw_4 nd6 (Nat.le_of_ble_eq_true rfl) (Nat.le_of_ble_eq_true rfl) ?_
  refine ev_dup (pc := 41) dX11_init_41 rfl ?_
  refine iv_X11_28 (pc := 42) rfl dX11_init_42 (Nat.le_of_ble_eq_true rfl) (Nat.le_of_ble_eq_true rfl) (Nat.le_of_ble_eq_true rfl) (Nat.le_of_ble_eq_true rfl) (c_Stand_init (by (try dsimp only); (repeat (first | rw [up_s] | rw [up_n (by omega)])) <;> first | rfl | assumption) (by omega)) (kv (fun S' hS => ?_))
  obtain ⟨h4, z'⟩ := S'
  obtain ⟨rfl, f4, t4⟩ := hS
  have g4 : h4 d = some (.inl (11, [.ref (d + 1), .ref (d + 3), .ref (d + 7), .null, .null, .int 0, .null, .null, .null, .int 0, .null])) := (f4 d (by omega)).trans (by (try dsimp only); (repeat (first | rw [up_s] | rw [up_n (by omega)])) <;> first | rfl | assumption)
  have m4 : ∀ q : Nat, q ≠ d → (q < d + 11 ∨ d + 57 ≤ q) → h4 q = h3 q := fun q e e' => (f4 q (by omega)).trans ((up_n (by omega)).trans (up_n (by omega)))
  refine pf_X11_29 (pc := 45) rfl rfl dX11_init_45 (by (try dsimp only); (repeat (first | rw [up_s] | rw [up_n (by omega)])) <;> first | rfl | assumption) ?_
  refine ev_aload_n (pc := 48) dX11_init_48 rfl ?_
  refine ev_iconst (pc := 49) (v := nI 2) dX11_init_49 kc_2 ?_
  refine ev_newq (pc := 50) (t := 5) (N := 2) dX11_init_50 (Nat.le_of_ble_eq_true rfl) rfl tw_107 (List.mem_of_getElem? (i := 1) rfl) rfl (Nat.le_of_ble_eq_true rfl) (Nat.le_of_ble_eq_true rfl) (Nat.le_of_ble_eq_true rfl) ?_
  refine pf_X11_33 (pc := 53) rfl rfl dX11_init_53 (by (try dsimp only); (repeat (first | rw [up_s] | rw [up_n (by omega)])) <;> first | rfl | assumption) ?_
  refine ev_aload_n (pc := 56) dX11_init_56 rfl ?_
  refine ev_new (pc := 57) (ci := 5) (fs := [.null, .null, .null, .null, .int 0, .int 0, .int 0, .int 0, .null, .null, .null, .int 0, .int 0, .null]) dX11_init_57 rfl inT5 tyX5_ok tw_173 tw_174 tw_6 nd5 (Nat.le_of_ble_eq_true rfl) (Nat.le_of_ble_eq_true rfl) ?_
  refine ev_dup (pc := 60) dX11_init_60 rfl ?_
  refine iv_X11_39 (pc := 61) rfl dX11_init_61 (Nat.le_of_ble_eq_true rfl) (Nat.le_of_ble_eq_true rfl) (Nat.le_of_ble_eq_true rfl) (Nat.le_of_ble_eq_true rfl) (c_Rows_init (by (try dsimp only); (repeat (first | rw [up_s] | rw [up_n (by omega)])) <;> first | rfl | assumption) (by omega)) (kv (fun S' hS => ?_))
  obtain ⟨h5, z'⟩ := S'
  obtain ⟨rfl, f5, size5, full5, osz5, nx5, t5⟩ := hS
  have t5' : pRows h5 (d + 58) bNew false := ⟨size5, full5, 0, osz5, nx5, t5.1, t5.2.1, t5.2.2.1, t5.2.2.2.1, t5.2.2.2.2, (fun q => by cases q), Or.inr (by rw [bestN_new]; rfl)⟩
  have g5 : h5 d = some (.inl (11, [.ref (d + 1), .ref (d + 3), .ref (d + 7), .ref (d + 11), .ref (d + 57), .int 0, .null, .null, .null, .int 0, .null])) := (f5 d (by omega)).trans (by (try dsimp only); (repeat (first | rw [up_s] | rw [up_n (by omega)])) <;> first | rfl | assumption)
  have g57 : h5 (d + 57) = some (.inr (5, .inr (.inr (List.replicate 2 none)))) := (f5 (d + 57) (by omega)).trans (by (try dsimp only); (repeat (first | rw [up_s] | rw [up_n (by omega)])) <;> first | rfl | assumption)
  have m5 : ∀ q : Nat, q ≠ d → (q < d + 57 ∨ d + 73 ≤ q) → h5 q = h4 q := fun q e e' => (f5 q (by omega)).trans ((up_n (by omega)).trans ((up_n (by omega)).trans ((up_n (by omega)).trans (up_n (by omega)))))
  refine pf_X11_40 (pc := 64) rfl rfl dX11_init_64 (by (try dsimp only); (repeat (first | rw [up_s] | rw [up_n (by omega)])) <;> first | rfl | assumption) ?_
  refine ev_aload_n (pc := 67) dX11_init_67 rfl ?_
  refine ev_bipush (pc := 68) (v := nI 6) dX11_init_68 kb_6 ?_
  refine ev_newi (pc := 70) (t := 0) (N := 6) dX11_init_70 (Nat.le_of_ble_eq_true rfl) rfl tw_53 rfl (Nat.le_of_ble_eq_true rfl) (Nat.le_of_ble_eq_true rfl) (Nat.le_of_ble_eq_true rfl) ?_
  refine pf_X11_44 (pc := 72) rfl rfl dX11_init_72 (by (try dsimp only); (repeat (first | rw [up_s] | rw [up_n (by omega)])) <;> first | rfl | assumption) ?_
  refine ev_aload_n (pc := 75) dX11_init_75 rfl ?_
  refine ev_bipush (pc := 76) (v := nI 6) dX11_init_76 kb_6 ?_
  refine ev_newi (pc := 78) (t := 0) (N := 6) dX11_init_78 (Nat.le_of_ble_eq_true rfl) rfl tw_53 rfl (Nat.le_of_ble_eq_true rfl) (Nat.le_of_ble_eq_true rfl) (Nat.le_of_ble_eq_true rfl) ?_
  refine pf_X11_48 (pc := 80) rfl rfl dX11_init_80 (by (try dsimp only); (repeat (first | rw [up_s] | rw [up_n (by omega)])) <;> first | rfl | assumption) ?_
  refine ev_aload_n (pc := 83) dX11_init_83 rfl ?_
  refine ev_bipush (pc := 84) (v := nI 6) dX11_init_84 kb_6 ?_
  refine ev_newq (pc := 86) (t := 6) (N := 6) dX11_init_86 (Nat.le_of_ble_eq_true rfl) rfl tw_231 (List.mem_of_getElem? (i := 2) rfl) rfl (Nat.le_of_ble_eq_true rfl) (Nat.le_of_ble_eq_true rfl) (Nat.le_of_ble_eq_true rfl) ?_
  refine ev_dup (pc := 89) dX11_init_89 rfl ?_
  refine ev_iconst (pc := 90) (v := nI 0) dX11_init_90 kc_0 ?_
  refine ev_new (pc := 91) (ci := 7) (fs := [.long 0]) dX11_init_91 rfl inT7 tyX7_ok tw_231 tw_233 tw_7 nd7 (Nat.le_of_ble_eq_true rfl) (Nat.le_of_ble_eq_true rfl) ?_
  refine ev_dup (pc := 94) dX11_init_94 rfl ?_
  refine iv_X11_53 (pc := 95) rfl dX11_init_95 (Nat.le_of_ble_eq_true rfl) (Nat.le_of_ble_eq_true rfl) (Nat.le_of_ble_eq_true rfl) (Nat.le_of_ble_eq_true rfl) (c_X7_init_r7 (by (try dsimp only); (repeat (first | rw [up_s] | rw [up_n (by omega)])) <;> first | rfl | assumption)) (kv (fun S' hS => ?_))
  obtain ⟨h', z'⟩ := S'
  obtain ⟨rfl, rfl⟩ := hS
  refine ev_aast (pc := 98) (t := 6) (ci := 7) dX11_init_98 (Nat.le_of_ble_eq_true rfl) rfl (by (try dsimp only); (repeat (first | rw [up_s] | rw [up_n (by omega)])) <;> first | rfl | assumption) (by (try dsimp only); (repeat (first | rw [up_s] | rw [up_n (by omega)])) <;> first | rfl | assumption) rfl (Or.inl rfl) (nI_toInt (by omega)) (by simp only [List.length_set, List.length_replicate]; omega) ?_
  refine ev_dup (pc := 99) dX11_init_99 rfl ?_
  refine ev_iconst (pc := 100) (v := nI 1) dX11_init_100 kc_1 ?_
  refine ev_new (pc := 101) (ci := 1) (fs := [.long 0]) dX11_init_101 rfl inT1 tyX1_ok tw_253 tw_254 tw_8 nd1 (Nat.le_of_ble_eq_true rfl) (Nat.le_of_ble_eq_true rfl) ?_
  refine ev_dup (pc := 104) dX11_init_104 rfl ?_
  refine iv_X11_56 (pc := 105) rfl dX11_init_105 (Nat.le_of_ble_eq_true rfl) (Nat.le_of_ble_eq_true rfl) (Nat.le_of_ble_eq_true rfl) (Nat.le_of_ble_eq_true rfl) (c_X1_init_r1 (by (try dsimp only); (repeat (first | rw [up_s] | rw [up_n (by omega)])) <;> first | rfl | assumption)) (kv (fun S' hS => ?_))
  obtain ⟨h', z'⟩ := S'
  obtain ⟨rfl, rfl⟩ := hS
  refine ev_aast (pc := 108) (t := 6) (ci := 1) dX11_init_108 (Nat.le_of_ble_eq_true rfl) rfl (by (try dsimp only); (repeat (first | rw [up_s] | rw [up_n (by omega)])) <;> first | rfl | assumption) (by (try dsimp only); (repeat (first | rw [up_s] | rw [up_n (by omega)])) <;> first | rfl | assumption) rfl (Or.inr (List.mem_of_getElem? (i := 0) rfl)) (nI_toInt (by omega)) (by simp only [List.length_set, List.length_replicate]; omega) ?_
  refine ev_dup (pc := 109) dX11_init_109 rfl ?_
  refine ev_iconst (pc := 110) (v := nI 2) dX11_init_110 kc_2 ?_
  refine ev_new (pc := 111) (ci := 4) (fs := [.long 0]) dX11_init_111 rfl inT4 tyX4_ok tw_261 tw_262 tw_9 nd4 (Nat.le_of_ble_eq_true rfl) (Nat.le_of_ble_eq_true rfl) ?_
  refine ev_dup (pc := 114) dX11_init_114 rfl ?_
  refine iv_X11_59 (pc := 115) rfl dX11_init_115 (Nat.le_of_ble_eq_true rfl) (Nat.le_of_ble_eq_true rfl) (Nat.le_of_ble_eq_true rfl) (Nat.le_of_ble_eq_true rfl) (c_X4_init_r4 (by (try dsimp only); (repeat (first | rw [up_s] | rw [up_n (by omega)])) <;> first | rfl | assumption)) (kv (fun S' hS => ?_))
  obtain ⟨h', z'⟩ := S'
  obtain ⟨rfl, rfl⟩ := hS
  refine ev_aast (pc := 118) (t := 6) (ci := 4) dX11_init_118 (Nat.le_of_ble_eq_true rfl) rfl (by (try dsimp only); (repeat (first | rw [up_s] | rw [up_n (by omega)])) <;> first | rfl | assumption) (by (try dsimp only); (repeat (first | rw [up_s] | rw [up_n (by omega)])) <;> first | rfl | assumption) rfl (Or.inr (List.mem_of_getElem? (i := 1) rfl)) (nI_toInt (by omega)) (by simp only [List.length_set, List.length_replicate]; omega) ?_
  refine ev_dup (pc := 119) dX11_init_119 rfl ?_
  refine ev_iconst (pc := 120) (v := nI 3) dX11_init_120 kc_3 ?_
  refine ev_new (pc := 121) (ci := 10) (fs := [.long 0]) dX11_init_121 rfl inT10 tyX10_ok tw_269 tw_270 tw_10 nd10 (Nat.le_of_ble_eq_true rfl) (Nat.le_of_ble_eq_true rfl) ?_
  refine ev_dup (pc := 124) dX11_init_124 rfl ?_
  refine iv_X11_62 (pc := 125) rfl dX11_init_125 (Nat.le_of_ble_eq_true rfl) (Nat.le_of_ble_eq_true rfl) (Nat.le_of_ble_eq_true rfl) (Nat.le_of_ble_eq_true rfl) (c_X10_init_r10 (by (try dsimp only); (repeat (first | rw [up_s] | rw [up_n (by omega)])) <;> first | rfl | assumption)) (kv (fun S' hS => ?_))
  obtain ⟨h', z'⟩ := S'
  obtain ⟨rfl, rfl⟩ := hS
  refine ev_aast (pc := 128) (t := 6) (ci := 10) dX11_init_128 (Nat.le_of_ble_eq_true rfl) rfl (by (try dsimp only); (repeat (first | rw [up_s] | rw [up_n (by omega)])) <;> first | rfl | assumption) (by (try dsimp only); (repeat (first | rw [up_s] | rw [up_n (by omega)])) <;> first | rfl | assumption) rfl (Or.inr (List.mem_of_getElem? (i := 2) rfl)) (nI_toInt (by omega)) (by simp only [List.length_set, List.length_replicate]; omega) ?_
  refine ev_dup (pc := 129) dX11_init_129 rfl ?_
  refine ev_iconst (pc := 130) (v := nI 4) dX11_init_130 kc_4 ?_
  refine ev_new (pc := 131) (ci := 2) (fs := [.long 0]) dX11_init_131 rfl inT2 tyX2_ok tw_277 tw_278 tw_11 nd2 (Nat.le_of_ble_eq_true rfl) (Nat.le_of_ble_eq_true rfl) ?_
  refine ev_dup (pc := 134) dX11_init_134 rfl ?_
  refine iv_X11_65 (pc := 135) rfl dX11_init_135 (Nat.le_of_ble_eq_true rfl) (Nat.le_of_ble_eq_true rfl) (Nat.le_of_ble_eq_true rfl) (Nat.le_of_ble_eq_true rfl) (c_X2_init_r2 (by (try dsimp only); (repeat (first | rw [up_s] | rw [up_n (by omega)])) <;> first | rfl | assumption)) (kv (fun S' hS => ?_))
  obtain ⟨h', z'⟩ := S'
  obtain ⟨rfl, rfl⟩ := hS
  refine ev_aast (pc := 138) (t := 6) (ci := 2) dX11_init_138 (Nat.le_of_ble_eq_true rfl) rfl (by (try dsimp only); (repeat (first | rw [up_s] | rw [up_n (by omega)])) <;> first | rfl | assumption) (by (try dsimp only); (repeat (first | rw [up_s] | rw [up_n (by omega)])) <;> first | rfl | assumption) rfl (Or.inr (List.mem_of_getElem? (i := 3) rfl)) (nI_toInt (by omega)) (by simp only [List.length_set, List.length_replicate]; omega) ?_
  refine ev_dup (pc := 139) dX11_init_139 rfl ?_
  refine ev_iconst (pc := 140) (v := nI 5) dX11_init_140 kc_5 ?_
  refine ev_new (pc := 141) (ci := 3) (fs := [.long 0]) dX11_init_141 rfl inT3 tyX3_ok tw_285 tw_286 tw_12 nd3 (Nat.le_of_ble_eq_true rfl) (Nat.le_of_ble_eq_true rfl) ?_
  refine ev_dup (pc := 144) dX11_init_144 rfl ?_
  refine iv_X11_68 (pc := 145) rfl dX11_init_145 (Nat.le_of_ble_eq_true rfl) (Nat.le_of_ble_eq_true rfl) (Nat.le_of_ble_eq_true rfl) (Nat.le_of_ble_eq_true rfl) (c_X3_init_r3 (by (try dsimp only); (repeat (first | rw [up_s] | rw [up_n (by omega)])) <;> first | rfl | assumption)) (kv (fun S' hS => ?_))
  obtain ⟨h', z'⟩ := S'
  obtain ⟨rfl, rfl⟩ := hS
  refine ev_aast (pc := 148) (t := 6) (ci := 3) dX11_init_148 (Nat.le_of_ble_eq_true rfl) rfl (by (try dsimp only); (repeat (first | rw [up_s] | rw [up_n (by omega)])) <;> first | rfl | assumption) (by (try dsimp only); (repeat (first | rw [up_s] | rw [up_n (by omega)])) <;> first | rfl | assumption) rfl (Or.inr (List.mem_of_getElem? (i := 4) rfl)) (nI_toInt (by omega)) (by simp only [List.length_set, List.length_replicate]; omega) ?_
  refine pf_X11_69 (pc := 149) rfl rfl dX11_init_149 (by (try dsimp only); (repeat (first | rw [up_s] | rw [up_n (by omega)])) <;> first | rfl | assumption) ?_
  refine ev_iconst (pc := 152) (v := nI 0) dX11_init_152 kc_0 ?_
  refine ev_istore_n (pc := 153) (L' := [_, _]) dX11_init_153 (Nat.le_of_ble_eq_true rfl) rfl ?_
  refine loop 2 0 rfl (by omega) _ _ (List.replicate 2 none) ?_ (fun q _ _ => rfl) ?_ ?_ ?_ ?_ ?_ ?_ ?_ ?_ ?_ ?_ rfl (fun j hj => by omega) (fun j hj => by omega) _ _ _ rfl rfl rfl
  · intro q hq
    (try dsimp only); (repeat (first | rw [up_n (by omega)]))
    exact (m5 q (by omega) (by omega)).trans ((m4 q (by omega) (by omega)).trans ((m3 q (by omega) (by omega)).trans ((m2 q (by omega) (by omega)).trans (m1 q (by omega)))))
  · unfold pDO; exact (by (try dsimp only); (repeat (first | rw [up_s] | rw [up_n (by omega)])) <;> first | rfl | assumption)
  · exact ⟨0, 0, 0, 0, by omega, by omega, t1.fr (fun q a b => by (try dsimp only); (repeat (first | rw [up_n (by omega)])); exact ((m5 q (by omega) (by omega)).trans ((m4 q (by omega) (by omega)).trans ((m3 q (by omega) (by omega)).trans (m2 q (by omega) (by omega))))))⟩
  · exact t2.fr (fun q a b => by (try dsimp only); (repeat (first | rw [up_n (by omega)])); exact ((m5 q (by omega) (by omega)).trans ((m4 q (by omega) (by omega)).trans (m3 q (by omega) (by omega)))))
  · exact t3.fr (fun q a b => by (try dsimp only); (repeat (first | rw [up_n (by omega)])); exact ((m5 q (by omega) (by omega)).trans (m4 q (by omega) (by omega))))
  · exact t4.fr (fun q a b => by (try dsimp only); (repeat (first | rw [up_n (by omega)])); exact (m5 q (by omega) (by omega)))
  · exact t5'.fr (fun q a b => by (try dsimp only); (repeat (first | rw [up_n (by omega)])))
  · exact ⟨(by rw [List.map_replicate]; exact (by (try dsimp only); (repeat (first | rw [up_s] | rw [up_n (by omega)])) <;> first | rfl | assumption)), rfl, (by rw [List.map_replicate]; exact (by (try dsimp only); (repeat (first | rw [up_s] | rw [up_n (by omega)])) <;> first | rfl | assumption)), rfl, by omega, fun k hk => by omega⟩
  · unfold pKa; exact (by (try dsimp only); (repeat (first | rw [up_s] | rw [up_n (by omega)])) <;> first | rfl | assumption)
  · exact ⟨0, 0, 0, 0, 0, 0, (by (try dsimp only); (repeat (first | rw [up_s] | rw [up_n (by omega)])) <;> first | rfl | assumption), (by (try dsimp only); (repeat (first | rw [up_s] | rw [up_n (by omega)])) <;> first | rfl | assumption), (by (try dsimp only); (repeat (first | rw [up_s] | rw [up_n (by omega)])) <;> first | rfl | assumption), (by (try dsimp only); (repeat (first | rw [up_s] | rw [up_n (by omega)])) <;> first | rfl | assumption), (by (try dsimp only); (repeat (first | rw [up_s] | rw [up_n (by omega)])) <;> first | rfl | assumption), (by (try dsimp only); (repeat (first | rw [up_s] | rw [up_n (by omega)])) <;> first | rfl | assumption), rfl⟩
  · (try dsimp only); (repeat (first | rw [up_n (by omega)])); exact g57
end INIT
