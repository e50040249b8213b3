/-! ===== the model: saves ===== -/
def mOut (h : Hp) (m : Nat) (ms : List Nat) : Prop := ∃ g k : Nat → Int32, h (m + 12) = some (.inr (0, .inl (ar 30 g))) ∧ h (m + 13) = some (.inr (0, .inl (ar 30 k))) ∧ ∀ j : Nat, j < ms.length → g j = nI (popN (gN ms j)) ∧ k j = nI (gN ms j)
theorem take_s {l : List Nat} {j : Nat} (h : j < l.length) : mk (l.take (j + 1)) = mk (l.take j) ||| 1 <<< gN l j := by
  rw [List.take_succ, List.getElem?_eq_getElem h, mk_app]
  rw [gN_eq h]
  show mk (l.take j) ||| mk [l[j]] = _
  rw [mk_one]
section MSAVES
variable {X : Cx} {h : Hp} {z n mx : Nat} {B : Bk} {w : List Nat} {m : Nat} {sz at_ bg tk td rt rn rm rd tl nt me de lo sa un mn bd br he : Int32} {tr : Int64}
theorem c_mSaves {fo : Nat → Int32} (po : pMO h m sz at_ bg tk td rt rn rm rd (nI (bT B)) (nI (bK B)) (nI (bM B)) (nI (bD B)) lo sa un (nI w.length) bd br he tr) (pb : mBk h m B lo) (b9 : wB mx B) (hmx : mx ≤ 10) (ord : h (m + 11) = some (.inr (0, .inl (ar 6 fo)))) (hfo : ∀ k : Nat, k < w.length → fo k = nI (gN w k)) (hw : ∀ t ∈ w, t < bT B) (hl : w.length ≤ 6) (ro : mRo h m) (oo : ∃ g k : Nat → Int32, h (m + 12) = some (.inr (0, .inl (ar 30 g))) ∧ h (m + 13) = some (.inr (0, .inl (ar 30 k)))) : Ct X 3 mt_X12_saves [.ref m] (h, z) 0 0 (Qi (fun r S' => r = nI (outW B w).length ∧ S'.2 = z ∧ (∀ q : Nat, q ≠ m + 9 → q ≠ m + 12 → q ≠ m + 13 → S'.1 q = h q) ∧ mRo S'.1 m ∧ mOut S'.1 m (outW B w))) := by
  have po' := po
  unfold pMO at po'
  have h6 := b9.1
  obtain ⟨fr, pq⟩ := ro
  obtain ⟨g0, s0, og, os⟩ := oo
  refine mk_X12_saves (Nat.le_of_ble_eq_true rfl) (L := [.ref m, .retAddr 0, .retAddr 0, .retAddr 0]) rfl ?_
  have night : ∀ (k : Nat) (g s : Nat → Int32) (c : Nat) (T : Tl) (i : Nat) (v3 : Value) (h1 : Hp), tH T = c → c ≤ 10 → tV T = true → wS B w (T, i) → (∀ q : Nat, q ≠ m + 9 → q ≠ m + 12 → q ≠ m + 13 → h1 q = h q) → h1 (m + 12) = some (.inr (0, .inl (ar 30 g))) → h1 (m + 13) = some (.inr (0, .inl (ar 30 s))) → pRw h1 (m + 9) T → (∀ (v3 : Value) (h2 : Hp), (∀ q : Nat, q ≠ m + 9 → q ≠ m + 12 → q ≠ m + 13 → h2 q = h q) → h2 (m + 12) = some (.inr (0, .inl (ar 30 g))) → h2 (m + 13) = some (.inr (0, .inl (ar 30 s))) → pRw h2 (m + 9) (nightW B w 10 (T, i)).1 → Ev X (mi_X12_saves 3 0 0) (Qi (fun r S' => r = nI (outW B w).length ∧ S'.2 = z ∧ (∀ q : Nat, q ≠ m + 9 → q ≠ m + 12 → q ≠ m + 13 → S'.1 q = h q) ∧ mRo S'.1 m ∧ mOut S'.1 m (outW B w))) 0 0 (h2, z) 147 [.ref m, .int (nI (nightW B w 10 (T, i)).2), .int (nI k), v3] []) → Ev X (mi_X12_saves 3 0 0) (Qi (fun r S' => r = nI (outW B w).length ∧ S'.2 = z ∧ (∀ q : Nat, q ≠ m + 9 → q ≠ m + 12 → q ≠ m + 13 → S'.1 q = h q) ∧ mRo S'.1 m ∧ mOut S'.1 m (outW B w))) 0 0 (h1, z) 24 [.ref m, .int (nI i), .int (nI k), v3] [] := by
    intro k g s c
    induction c with
    | zero =>
      intro T i v3 h1 hc h10 hv ws f1 gg ss p1 K
      have po1 := (f1 m (by omega) (by omega) (by omega)).trans po'
      have p1' := p1
      unfold pRw at p1'
      have hK := K v3 h1 f1 gg ss (by rw [night_0 (S := (T, i)) hc]; exact p1)
      rw [night_0 (S := (T, i)) hc] at hK
      refine ev_aload_n (pc := 24) dX12_saves_24 rfl ?_
      refine gf_X12_34 (pc := 25) rfl dX12_saves_25 (by (try dsimp only); (repeat (first | rw [up_s] | rw [up_n (by omega)])) <;> first | rfl | assumption) ?_
      refine ev_iconst (pc := 28) (v := nI 1) dX12_saves_28 kc_1 ?_
      refine ev_iald (pc := 29) dX12_saves_29 (by (try dsimp only); (repeat (first | rw [up_s] | rw [up_n (by omega)])) <;> first | rfl | assumption) (nI_toInt (by omega)) (x_1 T) ?_
      refine ev_if_le (pc := 30) 147 dX12_saves_30 (by decide) (fun c_30 => ?_) (fun c_30 => ?_)
      · (try simp (disch := omega) only [i32_lti, i32_lei, i32_eqi, nI_toInt, i32z] at c_30)
        exact hK
      · exfalso; (try simp (disch := omega) only [i32_lti, i32_lei, i32_eqi, nI_toInt, i32z] at c_30); omega
    | succ c ih =>
      intro T i v3 h1 hc h10 hv ws f1 gg ss p1 K
      have po1 := (f1 m (by omega) (by omega) (by omega)).trans po'
      have o1 : pMO h1 m sz at_ bg tk td rt rn rm rd (nI (bT B)) (nI (bK B)) (nI (bM B)) (nI (bD B)) lo sa un (nI w.length) bd br he tr := (f1 m (by omega) (by omega) (by omega)).trans po
      have ord1 := (f1 (m + 11) (by omega) (by omega) (by omega)).trans ord
      have pb1 : mBk h1 m B lo := pb.fr (fun q a b => f1 q (by omega) (by omega) (by omega))
      have p1' := p1
      unfold pRw at p1'
      have wt : wT T := ws.1
      have wf : wF B T := ws.2.1
      have wl : i ≤ w.length := ws.2.2
      have hl6 := wt.2.2.2.1
      have contT : begC B w (T, i) → Ev X (mi_X12_saves 3 0 0) (Qi (fun r S' => r = nI (outW B w).length ∧ S'.2 = z ∧ (∀ q : Nat, q ≠ m + 9 → q ≠ m + 12 → q ≠ m + 13 → S'.1 q = h q) ∧ mRo S'.1 m ∧ mOut S'.1 m (outW B w))) 0 0 (h1, z) 92 [.ref m, .int (nI i), .int (nI k), .int (nI 1)] [] := by
        intro hb
        have eq := night_beg (S := (T, i)) (by show 0 < tH T; omega) (by show tH T ≤ 10; omega) hb
        obtain ⟨b1, b2, b3⟩ := hb
        obtain ⟨-, -, u3, -, -⟩ := mayN_t b3
        have b1' : i < w.length := b1
        have ht := hw _ (gN_mem b1')
        have u3' : (tB T).testBit (gN w i) = false := u3
        have ws2 : wS B w (tBeg T (gN w i), i + 1) := ⟨wt.beg (by omega) u3', wf.beg, b1'⟩
        rw [eq] at K
        refine ev_iload_n (pc := 92) dX12_saves_92 rfl ?_
        refine ev_if_eq (pc := 93) 115 dX12_saves_93 (by decide) (fun c_93 => ?_) (fun c_93 => ?_)
        · exact absurd c_93 (by decide)
        · (try simp (disch := omega) only [i32_lti, i32_lei, i32_eqi, nI_toInt, i32z] at c_93)
          refine ev_aload_n (pc := 96) dX12_saves_96 rfl ?_
          refine gf_X12_34 (pc := 97) rfl dX12_saves_97 (by (try dsimp only); (repeat (first | rw [up_s] | rw [up_n (by omega)])) <;> first | rfl | assumption) ?_
          refine ev_aload_n (pc := 100) dX12_saves_100 rfl ?_
          refine gf_X12_40 (pc := 101) rfl dX12_saves_101 (by (try dsimp only); (repeat (first | rw [up_s] | rw [up_n (by omega)])) <;> first | rfl | assumption) ?_
          refine ev_iload_n (pc := 104) dX12_saves_104 rfl ?_
          refine ev_iald (pc := 105) dX12_saves_105 (by (try dsimp only); (repeat (first | rw [up_s] | rw [up_n (by omega)])) <;> first | rfl | assumption) (nI_toInt (by omega)) (xg (by omega) (hfo i b1')) ?_
          refine iv_X12_191 (pc := 106) rfl dX12_saves_106 (Nat.le_of_ble_eq_true rfl) (Nat.le_of_ble_eq_true rfl) (Nat.le_of_ble_eq_true rfl) (Nat.le_of_ble_eq_true rfl) (c_goesIn p1 wt (by omega) u3' (by omega) (wf _ ht u3')) (kv (fun S' hS => ?_))
          obtain ⟨h2, z'⟩ := S'
          obtain ⟨rfl, f2, p2⟩ := hS
          refine ev_iinc (pc := 109) (L' := [_, _, _, _]) dX12_saves_109 rfl (nI_1 _) rfl ?_
          refine ev_goto (pc := 112) 144 dX12_saves_112 (by decide) ?_
          refine ev_goto (pc := 144) 24 dX12_saves_144 (by decide) ?_
          exact ih (tBeg T (gN w i)) (i + 1) _ h2 (by show tH T - 1 = c; omega) (by omega) hv ws2 (fun q a b c => (f2 q (by omega)).trans (f1 q a b c)) ((f2 _ (by omega)).trans gg) ((f2 _ (by omega)).trans ss) p2 K
      have contF : ¬ begC B w (T, i) → Ev X (mi_X12_saves 3 0 0) (Qi (fun r S' => r = nI (outW B w).length ∧ S'.2 = z ∧ (∀ q : Nat, q ≠ m + 9 → q ≠ m + 12 → q ≠ m + 13 → S'.1 q = h q) ∧ mRo S'.1 m ∧ mOut S'.1 m (outW B w))) 0 0 (h1, z) 92 [.ref m, .int (nI i), .int (nI k), .int (nI 0)] [] := by
        intro hb
        have eq := night_go wt (by omega) (by omega) hb
        rw [eq] at K
        have ws2 : wS B w (goS T, i) := ⟨wt.goS, wf.goS wt, wl⟩
        cases e : (tO T).getLast? with
        | none =>
          have e0 : (tO T).length = 0 := by rw [List.getLast?_eq_none_iff.mp e]; rfl
          refine ev_iload_n (pc := 92) dX12_saves_92 rfl ?_
          refine ev_if_eq (pc := 93) 115 dX12_saves_93 (by decide) (fun c_93 => ?_) (fun c_93 => ?_)
          · (try simp (disch := omega) only [i32_lti, i32_lei, i32_eqi, nI_toInt, i32z] at c_93)
            refine ev_aload_n (pc := 115) dX12_saves_115 rfl ?_
            refine gf_X12_34 (pc := 116) rfl dX12_saves_116 (by (try dsimp only); (repeat (first | rw [up_s] | rw [up_n (by omega)])) <;> first | rfl | assumption) ?_
            refine ev_iconst (pc := 119) (v := nI 2) dX12_saves_119 kc_2 ?_
            refine ev_iald (pc := 120) dX12_saves_120 (by (try dsimp only); (repeat (first | rw [up_s] | rw [up_n (by omega)])) <;> first | rfl | assumption) (nI_toInt (by omega)) (x_2 T) ?_
            refine ev_if_le (pc := 121) 134 dX12_saves_121 (by decide) (fun c_121 => ?_) (fun c_121 => ?_)
            · (try simp (disch := omega) only [i32_lti, i32_lei, i32_eqi, nI_toInt, i32z] at c_121)
              refine ev_aload_n (pc := 134) dX12_saves_134 rfl ?_
              refine gf_X12_34 (pc := 135) rfl dX12_saves_135 (by (try dsimp only); (repeat (first | rw [up_s] | rw [up_n (by omega)])) <;> first | rfl | assumption) ?_
              refine ev_iconst (pc := 138) (v := nI 1) dX12_saves_138 kc_1 ?_
              refine ev_dup2 (pc := 139) dX12_saves_139 rfl rfl ?_
              refine ev_iald (pc := 140) dX12_saves_140 (by (try dsimp only); (repeat (first | rw [up_s] | rw [up_n (by omega)])) <;> first | rfl | assumption) (nI_toInt (by omega)) (x_1 T) ?_
              refine ev_iconst (pc := 141) (v := nI 1) dX12_saves_141 kc_1 ?_
              refine ev_isub (pc := 142) dX12_saves_142 ?_
              rw [nI_sub1 (by omega)]
              refine ev_iast (pc := 143) dX12_saves_143 (by (try dsimp only); (repeat (first | rw [up_s] | rw [up_n (by omega)])) <;> first | rfl | assumption) (nI_toInt (by omega)) (by rw [ar_len]; omega) ?_
              rw [ar_set (by omega)]
              refine ev_goto (pc := 144) 24 dX12_saves_144 (by decide) ?_
              exact ih (goS T) i _ _ (by rw [goS_H]; omega) (by omega) (by rw [goS_V]; exact hv) ws2 (by intro q a b c; (try dsimp only); rw [up_n (by omega)]; exact f1 q a b c) (by (try dsimp only); rw [up_n (by omega)]; exact gg) (by (try dsimp only); rw [up_n (by omega)]; exact ss) (by rw [goS_none e]; exact (up_s _ _ _).trans (congrArg (fun l => (some (.inr (0, .inl l)) : Option Ob)) ru_1)) K
            · exfalso; (try simp (disch := omega) only [i32_lti, i32_lei, i32_eqi, nI_toInt, i32z] at c_121); omega
          · exact absurd rfl c_93
        | some t =>
          have e0 := (gN_last e).1
          refine ev_iload_n (pc := 92) dX12_saves_92 rfl ?_
          refine ev_if_eq (pc := 93) 115 dX12_saves_93 (by decide) (fun c_93 => ?_) (fun c_93 => ?_)
          · (try simp (disch := omega) only [i32_lti, i32_lei, i32_eqi, nI_toInt, i32z] at c_93)
            refine ev_aload_n (pc := 115) dX12_saves_115 rfl ?_
            refine gf_X12_34 (pc := 116) rfl dX12_saves_116 (by (try dsimp only); (repeat (first | rw [up_s] | rw [up_n (by omega)])) <;> first | rfl | assumption) ?_
            refine ev_iconst (pc := 119) (v := nI 2) dX12_saves_119 kc_2 ?_
            refine ev_iald (pc := 120) dX12_saves_120 (by (try dsimp only); (repeat (first | rw [up_s] | rw [up_n (by omega)])) <;> first | rfl | assumption) (nI_toInt (by omega)) (x_2 T) ?_
            refine ev_if_le (pc := 121) 134 dX12_saves_121 (by decide) (fun c_121 => ?_) (fun c_121 => ?_)
            · exfalso; (try simp (disch := omega) only [i32_lti, i32_lei, i32_eqi, nI_toInt, i32z] at c_121); omega
            · (try simp (disch := omega) only [i32_lti, i32_lei, i32_eqi, nI_toInt, i32z] at c_121)
              refine ev_aload_n (pc := 124) dX12_saves_124 rfl ?_
              refine gf_X12_34 (pc := 125) rfl dX12_saves_125 (by (try dsimp only); (repeat (first | rw [up_s] | rw [up_n (by omega)])) <;> first | rfl | assumption) ?_
              refine iv_X12_172 (pc := 128) rfl dX12_saves_128 (Nat.le_of_ble_eq_true rfl) (Nat.le_of_ble_eq_true rfl) (Nat.le_of_ble_eq_true rfl) (Nat.le_of_ble_eq_true rfl) (c_goesOn p1 wt e (by omega)) (kv (fun S' hS => ?_))
              obtain ⟨h2, z'⟩ := S'
              obtain ⟨rfl, f2, p2⟩ := hS
              refine ev_goto (pc := 131) 144 dX12_saves_131 (by decide) ?_
              refine ev_goto (pc := 144) 24 dX12_saves_144 (by decide) ?_
              exact ih (goS T) i _ h2 (by rw [goS_H]; omega) (by omega) (by rw [goS_V]; exact hv) ws2 (fun q a b c => (f2 q (by omega)).trans (f1 q a b c)) ((f2 _ (by omega)).trans gg) ((f2 _ (by omega)).trans ss) (by rw [goS_some e]; exact p2) K
          · exact absurd rfl c_93
      have mN : ∀ t : Nat, mayN B T t = mayM B T t := by intro t; rw [mayN_M, hv, decide_eq_true (show 0 < tH T by omega)]; rfl
      cases e : (tO T).getLast? with
      | none =>
        have e0 : (tO T).length = 0 := by rw [List.getLast?_eq_none_iff.mp e]; rfl
        have pz : pauseT T = true := by unfold pauseT; rw [e]
        refine ev_aload_n (pc := 24) dX12_saves_24 rfl ?_
        refine gf_X12_34 (pc := 25) rfl dX12_saves_25 (by (try dsimp only); (repeat (first | rw [up_s] | rw [up_n (by omega)])) <;> first | rfl | assumption) ?_
        refine ev_iconst (pc := 28) (v := nI 1) dX12_saves_28 kc_1 ?_
        refine ev_iald (pc := 29) dX12_saves_29 (by (try dsimp only); (repeat (first | rw [up_s] | rw [up_n (by omega)])) <;> first | rfl | assumption) (nI_toInt (by omega)) (x_1 T) ?_
        refine ev_if_le (pc := 30) 147 dX12_saves_30 (by decide) (fun c_30 => ?_) (fun c_30 => ?_)
        · exfalso; (try simp (disch := omega) only [i32_lti, i32_lei, i32_eqi, nI_toInt, i32z] at c_30); omega
        · (try simp (disch := omega) only [i32_lti, i32_lei, i32_eqi, nI_toInt, i32z] at c_30)
          refine ev_iload_n (pc := 33) dX12_saves_33 rfl ?_
          refine ev_aload_n (pc := 34) dX12_saves_34 rfl ?_
          refine gf_X12_199 (pc := 35) rfl dX12_saves_35 (by (try dsimp only); (repeat (first | rw [up_s] | rw [up_n (by omega)])) <;> first | rfl | assumption) ?_
          refine ev_icmp_ge (pc := 38) 90 dX12_saves_38 (by decide) (fun c_38 => ?_) (fun c_38 => ?_)
          · (try simp (disch := omega) only [i32_lti, i32_lei, i32_eqi, nI_toInt, i32z] at c_38)
            refine ev_iconst (pc := 90) (v := nI 0) dX12_saves_90 kc_0 ?_
            refine ev_istore_n (pc := 91) (L' := [_, _, _, _]) dX12_saves_91 (Nat.le_of_ble_eq_true rfl) rfl ?_
            first
            | exact contT ⟨by show i < w.length; omega, pz, by rw [mN]; exact c_83⟩
            | exact contF (fun q => by have q1 := q.2.2; rw [mN] at q1; exact absurd (q1.symm.trans c_83) (by decide))
            | exact contF (fun q => by have q1 : i < w.length := q.1; omega)
          · (try simp (disch := omega) only [i32_lti, i32_lei, i32_eqi, nI_toInt, i32z] at c_38)
            refine ev_aload_n (pc := 41) dX12_saves_41 rfl ?_
            refine gf_X12_34 (pc := 42) rfl dX12_saves_42 (by (try dsimp only); (repeat (first | rw [up_s] | rw [up_n (by omega)])) <;> first | rfl | assumption) ?_
            refine ev_iconst (pc := 45) (v := nI 2) dX12_saves_45 kc_2 ?_
            refine ev_iald (pc := 46) dX12_saves_46 (by (try dsimp only); (repeat (first | rw [up_s] | rw [up_n (by omega)])) <;> first | rfl | assumption) (nI_toInt (by omega)) (x_2 T) ?_
            refine ev_if_eq (pc := 47) 69 dX12_saves_47 (by decide) (fun c_47 => ?_) (fun c_47 => ?_)
            · (try simp (disch := omega) only [i32_lti, i32_lei, i32_eqi, nI_toInt, i32z] at c_47)
              refine ev_aload_n (pc := 69) dX12_saves_69 rfl ?_
              refine ev_aload_n (pc := 70) dX12_saves_70 rfl ?_
              refine gf_X12_34 (pc := 71) rfl dX12_saves_71 (by (try dsimp only); (repeat (first | rw [up_s] | rw [up_n (by omega)])) <;> first | rfl | assumption) ?_
              refine ev_aload_n (pc := 74) dX12_saves_74 rfl ?_
              refine gf_X12_40 (pc := 75) rfl dX12_saves_75 (by (try dsimp only); (repeat (first | rw [up_s] | rw [up_n (by omega)])) <;> first | rfl | assumption) ?_
              refine ev_iload_n (pc := 78) dX12_saves_78 rfl ?_
              refine ev_iald (pc := 79) dX12_saves_79 (by (try dsimp only); (repeat (first | rw [up_s] | rw [up_n (by omega)])) <;> first | rfl | assumption) (nI_toInt (by omega)) (xg (by omega) (hfo i (by omega))) ?_
              refine iv_X12_184 (pc := 80) rfl dX12_saves_80 (by (try dsimp only); (repeat (first | rw [up_s] | rw [up_n (by omega)])) <;> first | rfl | assumption) (Nat.le_of_ble_eq_true rfl) (Nat.le_of_ble_eq_true rfl) (Nat.le_of_ble_eq_true rfl) (Nat.le_of_ble_eq_true rfl) (c_mMayBegin o1 pb1 p1 wt h6 b9.2.2.2.2.1 b9.w (hw _ (gN_mem (l := w) (i := i) (by omega)))) (kp ?_)
              refine ev_if_eq (pc := 83) 90 dX12_saves_83 (by decide) (fun c_83 => ?_) (fun c_83 => ?_)
              · simp only [b2i_e0, Bool.not_eq_false] at c_83
                refine ev_iconst (pc := 90) (v := nI 0) dX12_saves_90 kc_0 ?_
                refine ev_istore_n (pc := 91) (L' := [_, _, _, _]) dX12_saves_91 (Nat.le_of_ble_eq_true rfl) rfl ?_
                first
                | exact contT ⟨by show i < w.length; omega, pz, by rw [mN]; exact c_83⟩
                | exact contF (fun q => by have q1 := q.2.2; rw [mN] at q1; exact absurd (q1.symm.trans c_83) (by decide))
                | exact contF (fun q => by have q1 : i < w.length := q.1; omega)
              · simp only [b2i_e0, Bool.not_eq_false] at c_83
                refine ev_iconst (pc := 86) (v := nI 1) dX12_saves_86 kc_1 ?_
                refine ev_goto (pc := 87) 91 dX12_saves_87 (by decide) ?_
                refine ev_istore_n (pc := 91) (L' := [_, _, _, _]) dX12_saves_91 (Nat.le_of_ble_eq_true rfl) rfl ?_
                first
                | exact contT ⟨by show i < w.length; omega, pz, by rw [mN]; exact c_83⟩
                | exact contF (fun q => by have q1 := q.2.2; rw [mN] at q1; exact absurd (q1.symm.trans c_83) (by decide))
                | exact contF (fun q => by have q1 : i < w.length := q.1; omega)
            · exfalso; (try simp (disch := omega) only [i32_lti, i32_lei, i32_eqi, nI_toInt, i32z] at c_47); omega
      | some t =>
        have e0 := (gN_last e).1
        obtain ⟨t6, tb, tf, -⟩ := wt.2.1 t (wt.mem e)
        have e1 : inn T = nI t := by unfold inn; rw [e]
        have hF := wt.2.2.2.2.1 t
        have pz : pauseT T = decide (gN (tF T) t = 1) := by unfold pauseT; rw [e]
        refine ev_aload_n (pc := 24) dX12_saves_24 rfl ?_
        refine gf_X12_34 (pc := 25) rfl dX12_saves_25 (by (try dsimp only); (repeat (first | rw [up_s] | rw [up_n (by omega)])) <;> first | rfl | assumption) ?_
        refine ev_iconst (pc := 28) (v := nI 1) dX12_saves_28 kc_1 ?_
        refine ev_iald (pc := 29) dX12_saves_29 (by (try dsimp only); (repeat (first | rw [up_s] | rw [up_n (by omega)])) <;> first | rfl | assumption) (nI_toInt (by omega)) (x_1 T) ?_
        refine ev_if_le (pc := 30) 147 dX12_saves_30 (by decide) (fun c_30 => ?_) (fun c_30 => ?_)
        · exfalso; (try simp (disch := omega) only [i32_lti, i32_lei, i32_eqi, nI_toInt, i32z] at c_30); omega
        · (try simp (disch := omega) only [i32_lti, i32_lei, i32_eqi, nI_toInt, i32z] at c_30)
          refine ev_iload_n (pc := 33) dX12_saves_33 rfl ?_
          refine ev_aload_n (pc := 34) dX12_saves_34 rfl ?_
          refine gf_X12_199 (pc := 35) rfl dX12_saves_35 (by (try dsimp only); (repeat (first | rw [up_s] | rw [up_n (by omega)])) <;> first | rfl | assumption) ?_
          refine ev_icmp_ge (pc := 38) 90 dX12_saves_38 (by decide) (fun c_38 => ?_) (fun c_38 => ?_)
          · (try simp (disch := omega) only [i32_lti, i32_lei, i32_eqi, nI_toInt, i32z] at c_38)
            refine ev_iconst (pc := 90) (v := nI 0) dX12_saves_90 kc_0 ?_
            refine ev_istore_n (pc := 91) (L' := [_, _, _, _]) dX12_saves_91 (Nat.le_of_ble_eq_true rfl) rfl ?_
            first
            | exact contT ⟨by show i < w.length; omega, by rw [pz]; exact decide_eq_true (by omega), by rw [mN]; exact c_83⟩
            | exact contF (fun q => by have q1 := q.2.2; rw [mN] at q1; exact absurd (q1.symm.trans c_83) (by decide))
            | exact contF (fun q => by have q1 := q.2.1; rw [pz] at q1; have q2 := of_decide_eq_true q1; omega)
            | exact contF (fun q => by have q1 : i < w.length := q.1; omega)
          · (try simp (disch := omega) only [i32_lti, i32_lei, i32_eqi, nI_toInt, i32z] at c_38)
            refine ev_aload_n (pc := 41) dX12_saves_41 rfl ?_
            refine gf_X12_34 (pc := 42) rfl dX12_saves_42 (by (try dsimp only); (repeat (first | rw [up_s] | rw [up_n (by omega)])) <;> first | rfl | assumption) ?_
            refine ev_iconst (pc := 45) (v := nI 2) dX12_saves_45 kc_2 ?_
            refine ev_iald (pc := 46) dX12_saves_46 (by (try dsimp only); (repeat (first | rw [up_s] | rw [up_n (by omega)])) <;> first | rfl | assumption) (nI_toInt (by omega)) (x_2 T) ?_
            refine ev_if_eq (pc := 47) 69 dX12_saves_47 (by decide) (fun c_47 => ?_) (fun c_47 => ?_)
            · exfalso; (try simp (disch := omega) only [i32_lti, i32_lei, i32_eqi, nI_toInt, i32z] at c_47); omega
            · (try simp (disch := omega) only [i32_lti, i32_lei, i32_eqi, nI_toInt, i32z] at c_47)
              refine ev_aload_n (pc := 50) dX12_saves_50 rfl ?_
              refine gf_X12_34 (pc := 51) rfl dX12_saves_51 (by (try dsimp only); (repeat (first | rw [up_s] | rw [up_n (by omega)])) <;> first | rfl | assumption) ?_
              refine ev_bipush (pc := 54) (v := nI 10) dX12_saves_54 kb_10 ?_
              refine ev_aload_n (pc := 56) dX12_saves_56 rfl ?_
              refine gf_X12_34 (pc := 57) rfl dX12_saves_57 (by (try dsimp only); (repeat (first | rw [up_s] | rw [up_n (by omega)])) <;> first | rfl | assumption) ?_
              refine iv_X12_168 (pc := 60) rfl dX12_saves_60 (Nat.le_of_ble_eq_true rfl) (Nat.le_of_ble_eq_true rfl) (Nat.le_of_ble_eq_true rfl) (Nat.le_of_ble_eq_true rfl) (c_inner p1 hl6) (kp ?_)
              rw [e1]
              refine ev_iadd (pc := 63) dX12_saves_63 ?_
              (try rw [nI_add])
              refine ev_iald (pc := 64) dX12_saves_64 (by (try dsimp only); (repeat (first | rw [up_s] | rw [up_n (by omega)])) <;> first | rfl | assumption) (nI_toInt (by omega)) (x_F t6) ?_
              refine ev_iconst (pc := 65) (v := nI 1) dX12_saves_65 kc_1 ?_
              refine ev_icmp_ne (pc := 66) 90 dX12_saves_66 (by decide) (fun c_66 => ?_) (fun c_66 => ?_)
              · (try simp (disch := omega) only [i32_lti, i32_lei, i32_eqi, nI_toInt, i32z] at c_66)
                refine ev_iconst (pc := 90) (v := nI 0) dX12_saves_90 kc_0 ?_
                refine ev_istore_n (pc := 91) (L' := [_, _, _, _]) dX12_saves_91 (Nat.le_of_ble_eq_true rfl) rfl ?_
                first
                | exact contT ⟨by show i < w.length; omega, by rw [pz]; exact decide_eq_true (by omega), by rw [mN]; exact c_83⟩
                | exact contF (fun q => by have q1 := q.2.2; rw [mN] at q1; exact absurd (q1.symm.trans c_83) (by decide))
                | exact contF (fun q => by have q1 := q.2.1; rw [pz] at q1; have q2 := of_decide_eq_true q1; omega)
                | exact contF (fun q => by have q1 : i < w.length := q.1; omega)
              · (try simp (disch := omega) only [i32_lti, i32_lei, i32_eqi, nI_toInt, i32z] at c_66)
                refine ev_aload_n (pc := 69) dX12_saves_69 rfl ?_
                refine ev_aload_n (pc := 70) dX12_saves_70 rfl ?_
                refine gf_X12_34 (pc := 71) rfl dX12_saves_71 (by (try dsimp only); (repeat (first | rw [up_s] | rw [up_n (by omega)])) <;> first | rfl | assumption) ?_
                refine ev_aload_n (pc := 74) dX12_saves_74 rfl ?_
                refine gf_X12_40 (pc := 75) rfl dX12_saves_75 (by (try dsimp only); (repeat (first | rw [up_s] | rw [up_n (by omega)])) <;> first | rfl | assumption) ?_
                refine ev_iload_n (pc := 78) dX12_saves_78 rfl ?_
                refine ev_iald (pc := 79) dX12_saves_79 (by (try dsimp only); (repeat (first | rw [up_s] | rw [up_n (by omega)])) <;> first | rfl | assumption) (nI_toInt (by omega)) (xg (by omega) (hfo i (by omega))) ?_
                refine iv_X12_184 (pc := 80) rfl dX12_saves_80 (by (try dsimp only); (repeat (first | rw [up_s] | rw [up_n (by omega)])) <;> first | rfl | assumption) (Nat.le_of_ble_eq_true rfl) (Nat.le_of_ble_eq_true rfl) (Nat.le_of_ble_eq_true rfl) (Nat.le_of_ble_eq_true rfl) (c_mMayBegin o1 pb1 p1 wt h6 b9.2.2.2.2.1 b9.w (hw _ (gN_mem (l := w) (i := i) (by omega)))) (kp ?_)
                refine ev_if_eq (pc := 83) 90 dX12_saves_83 (by decide) (fun c_83 => ?_) (fun c_83 => ?_)
                · simp only [b2i_e0, Bool.not_eq_false] at c_83
                  refine ev_iconst (pc := 90) (v := nI 0) dX12_saves_90 kc_0 ?_
                  refine ev_istore_n (pc := 91) (L' := [_, _, _, _]) dX12_saves_91 (Nat.le_of_ble_eq_true rfl) rfl ?_
                  first
                  | exact contT ⟨by show i < w.length; omega, by rw [pz]; exact decide_eq_true (by omega), by rw [mN]; exact c_83⟩
                  | exact contF (fun q => by have q1 := q.2.2; rw [mN] at q1; exact absurd (q1.symm.trans c_83) (by decide))
                  | exact contF (fun q => by have q1 := q.2.1; rw [pz] at q1; have q2 := of_decide_eq_true q1; omega)
                  | exact contF (fun q => by have q1 : i < w.length := q.1; omega)
                · simp only [b2i_e0, Bool.not_eq_false] at c_83
                  refine ev_iconst (pc := 86) (v := nI 1) dX12_saves_86 kc_1 ?_
                  refine ev_goto (pc := 87) 91 dX12_saves_87 (by decide) ?_
                  refine ev_istore_n (pc := 91) (L' := [_, _, _, _]) dX12_saves_91 (Nat.le_of_ble_eq_true rfl) rfl ?_
                  first
                  | exact contT ⟨by show i < w.length; omega, by rw [pz]; exact decide_eq_true (by omega), by rw [mN]; exact c_83⟩
                  | exact contF (fun q => by have q1 := q.2.2; rw [mN] at q1; exact absurd (q1.symm.trans c_83) (by decide))
                  | exact contF (fun q => by have q1 := q.2.1; rw [pz] at q1; have q2 := of_decide_eq_true q1; omega)
                  | exact contF (fun q => by have q1 : i < w.length := q.1; omega)
  have fin : ∀ (k : Nat) (T : Tl) (i : Nat) (v3 : Value) (h1 : Hp) (g s : Nat → Int32), k = (outW B w).length → (k = 30 ∨ tV T = false) → k ≤ 30 → (∀ q : Nat, q ≠ m + 9 → q ≠ m + 12 → q ≠ m + 13 → h1 q = h q) → h1 (m + 12) = some (.inr (0, .inl (ar 30 g))) → h1 (m + 13) = some (.inr (0, .inl (ar 30 s))) → (∀ j : Nat, j < k → g j = nI (popN (gN (outW B w) j)) ∧ s j = nI (gN (outW B w) j)) → pRw h1 (m + 9) T → Ev X (mi_X12_saves 3 0 0) (Qi (fun r S' => r = nI (outW B w).length ∧ S'.2 = z ∧ (∀ q : Nat, q ≠ m + 9 → q ≠ m + 12 → q ≠ m + 13 → S'.1 q = h q) ∧ mRo S'.1 m ∧ mOut S'.1 m (outW B w))) 0 0 (h1, z) 8 [.ref m, .int (nI i), .int (nI k), v3] [] := by
    intro k T i v3 h1 g s hk hc h30 f1 gg ss ag p1
    have po1 := (f1 m (by omega) (by omega) (by omega)).trans po'
    have p1' := p1
    unfold pRw at p1'
    refine ev_iload_n (pc := 8) dX12_saves_8 rfl ?_
    refine ev_bipush (pc := 9) (v := nI 30) dX12_saves_9 kb_30 ?_
    refine ev_icmp_ge (pc := 11) 225 dX12_saves_11 (by decide) (fun c_11 => ?_) (fun c_11 => ?_)
    · (try simp (disch := omega) only [i32_lti, i32_lei, i32_eqi, nI_toInt, i32z] at c_11)
      refine ev_iload_n (pc := 225) dX12_saves_225 rfl ?_
      refine ev_iret (pc := 226) dX12_saves_226 rfl rfl (Nat.le_of_ble_eq_true rfl) (Nat.le_of_ble_eq_true rfl) ?_
      exact ⟨_, rfl, by rw [hk], rfl, f1, ⟨_, p1'⟩, g, s, gg, ss, fun j hj => ag j (by omega)⟩
    · (try simp (disch := omega) only [i32_lti, i32_lei, i32_eqi, nI_toInt, i32z] at c_11)
      refine ev_aload_n (pc := 14) dX12_saves_14 rfl ?_
      refine gf_X12_34 (pc := 15) rfl dX12_saves_15 (by (try dsimp only); (repeat (first | rw [up_s] | rw [up_n (by omega)])) <;> first | rfl | assumption) ?_
      refine ev_iconst (pc := 18) (v := nI 3) dX12_saves_18 kc_3 ?_
      refine ev_iald (pc := 19) dX12_saves_19 (by (try dsimp only); (repeat (first | rw [up_s] | rw [up_n (by omega)])) <;> first | rfl | assumption) (nI_toInt (by omega)) (x_3 T) ?_
      refine ev_iconst (pc := 20) (v := nI 1) dX12_saves_20 kc_1 ?_
      refine ev_icmp_ne (pc := 21) 225 dX12_saves_21 (by decide) (fun c_21 => ?_) (fun c_21 => ?_)
      · (try simp (disch := omega) only [i32_lti, i32_lei, i32_eqi, nI_toInt, i32z] at c_21)
        refine ev_iload_n (pc := 225) dX12_saves_225 rfl ?_
        refine ev_iret (pc := 226) dX12_saves_226 rfl rfl (Nat.le_of_ble_eq_true rfl) (Nat.le_of_ble_eq_true rfl) ?_
        exact ⟨_, rfl, by rw [hk], rfl, f1, ⟨_, p1'⟩, g, s, gg, ss, fun j hj => ag j (by omega)⟩
      · exfalso; rcases hc with q | q; (try simp (disch := omega) only [i32_lti, i32_lei, i32_eqi, nI_toInt, i32z] at c_11); omega; rw [q] at c_21; exact absurd c_21 (by decide)
  have loop : ∀ (c k : Nat) (T : Tl) (i : Nat) (v3 : Value) (h1 : Hp) (g s : Nat → Int32) (pre : List Nat), k + c = 30 → pre.length = k → outW B w = pre ++ (walkW B w c (T, i)).1 → tV T = true → wS B w (T, i) → tH T ≤ 10 → tN T + c < 999 → (∀ q : Nat, q ≠ m + 9 → q ≠ m + 12 → q ≠ m + 13 → h1 q = h q) → h1 (m + 12) = some (.inr (0, .inl (ar 30 g))) → h1 (m + 13) = some (.inr (0, .inl (ar 30 s))) → (∀ j : Nat, j < k → g j = nI (popN (gN pre j)) ∧ s j = nI (gN pre j)) → pRw h1 (m + 9) T → Ev X (mi_X12_saves 3 0 0) (Qi (fun r S' => r = nI (outW B w).length ∧ S'.2 = z ∧ (∀ q : Nat, q ≠ m + 9 → q ≠ m + 12 → q ≠ m + 13 → S'.1 q = h q) ∧ mRo S'.1 m ∧ mOut S'.1 m (outW B w))) 0 0 (h1, z) 8 [.ref m, .int (nI i), .int (nI k), v3] [] := by
    intro c
    induction c with
    | zero =>
      intro k T i v3 h1 g s pre hk hp eo hv ws h10 h99 f1 gg ss ag p1
      have e9 : outW B w = pre := by rw [eo]; exact List.append_nil _
      exact fin k T i v3 h1 g s (by rw [e9, hp]) (Or.inl (by omega)) (by omega) f1 gg ss (by rw [e9]; exact ag) p1
    | succ c ih =>
      intro k T i v3 h1 g s pre hk hp eo hv ws h10 h99 f1 gg ss ag p1
      have po1 := (f1 m (by omega) (by omega) (by omega)).trans po'
      have p1' := p1
      unfold pRw at p1'
      obtain ⟨ws2, nN⟩ := wS.night h6 hw 10 ws
      have nV := night_V (B := B) (w := w) 10 (T, i)
      have nH := night_H (B := B) (w := w) 10 (T, i) h10
      have ew : walkW B w (c + 1) (T, i) = if dawnOk B (nightW B w 10 (T, i)).1 = true then (mk (tO (nightW B w 10 (T, i)).1) :: (walkW B w c (dawnT B (nightW B w 10 (T, i)).1, (nightW B w 10 (T, i)).2)).1, (walkW B w c (dawnT B (nightW B w 10 (T, i)).1, (nightW B w 10 (T, i)).2)).2) else ([], (nightW B w 10 (T, i)).2) := rfl
      rw [ew] at eo
      have cont : ∀ (v3 : Value) (h2 : Hp), (∀ q : Nat, q ≠ m + 9 → q ≠ m + 12 → q ≠ m + 13 → h2 q = h q) → h2 (m + 12) = some (.inr (0, .inl (ar 30 g))) → h2 (m + 13) = some (.inr (0, .inl (ar 30 s))) → pRw h2 (m + 9) (nightW B w 10 (T, i)).1 → Ev X (mi_X12_saves 3 0 0) (Qi (fun r S' => r = nI (outW B w).length ∧ S'.2 = z ∧ (∀ q : Nat, q ≠ m + 9 → q ≠ m + 12 → q ≠ m + 13 → S'.1 q = h q) ∧ mRo S'.1 m ∧ mOut S'.1 m (outW B w))) 0 0 (h2, z) 147 [.ref m, .int (nI (nightW B w 10 (T, i)).2), .int (nI k), v3] [] := by
        generalize nightW B w 10 (T, i) = S2 at ws2 nN nV nH eo
        obtain ⟨T2, i2⟩ := S2
        dsimp only at nN nV nH eo
        have hv2 : tV T2 = true := by rw [nV]; exact hv
        have w2 : wT T2 := ws2.1
        have hl6 := w2.2.2.2.1
        intro v3 h2 f2 gg2 ss2 p2
        have po2 := (f2 m (by omega) (by omega) (by omega)).trans po'
        have p2' := p2
        unfold pRw at p2'
        have o6 : ∀ x ∈ tO T2, x < 6 := fun x hx => (w2.2.1 x hx).1
        have pop := popN_mk w2.1 o6
        have mask : ∀ (c2 j : Nat), j + c2 = (tO T2).length → ∀ (h3 : Hp) (s3 : Nat → Int32), (∀ q : Nat, q ≠ m + 9 → q ≠ m + 12 → q ≠ m + 13 → h3 q = h q) → h3 (m + 12) = some (.inr (0, .inl (ar 30 (ru g k (nI (tO T2).length))))) → h3 (m + 13) = some (.inr (0, .inl (ar 30 s3))) → s3 k = nI (mk ((tO T2).take j)) → (∀ x : Nat, x < k → s3 x = s x) → pRw h3 (m + 9) T2 → Ev X (mi_X12_saves 3 0 0) (Qi (fun r S' => r = nI (outW B w).length ∧ S'.2 = z ∧ (∀ q : Nat, q ≠ m + 9 → q ≠ m + 12 → q ≠ m + 13 → S'.1 q = h q) ∧ mRo S'.1 m ∧ mOut S'.1 m (outW B w))) 0 0 (h3, z) 168 [.ref m, .int (nI i2), .int (nI k), .int (nI j)] [] := by
          intro c2
          induction c2 with
          | zero =>
            intro j hj h3 s3 f3 gg3 ss3 sk sx p3
            have ej : j = (tO T2).length := by omega
            subst ej
            rw [List.take_length] at sk
            have po3 := (f3 m (by omega) (by omega) (by omega)).trans po'
            have o3 : pMO h3 m sz at_ bg tk td rt rn rm rd (nI (bT B)) (nI (bK B)) (nI (bM B)) (nI (bD B)) lo sa un (nI w.length) bd br he tr := (f3 m (by omega) (by omega) (by omega)).trans po
            have p3' := p3
            unfold pRw at p3'
            refine ev_iload_n (pc := 168) dX12_saves_168 rfl ?_
            refine ev_aload_n (pc := 169) dX12_saves_169 rfl ?_
            refine gf_X12_34 (pc := 170) rfl dX12_saves_170 (by (try dsimp only); (repeat (first | rw [up_s] | rw [up_n (by omega)])) <;> first | rfl | assumption) ?_
            refine ev_iconst (pc := 173) (v := nI 2) dX12_saves_173 kc_2 ?_
            refine ev_iald (pc := 174) dX12_saves_174 (by (try dsimp only); (repeat (first | rw [up_s] | rw [up_n (by omega)])) <;> first | rfl | assumption) (nI_toInt (by omega)) (x_2 T2) ?_
            refine ev_icmp_ge (pc := 175) 203 dX12_saves_175 (by decide) (fun c_175 => ?_) (fun c_175 => ?_)
            · (try simp (disch := omega) only [i32_lti, i32_lei, i32_eqi, nI_toInt, i32z] at c_175)
              refine ev_iload_n (pc := 203) dX12_saves_203 rfl ?_
              refine ev_aload_n (pc := 204) dX12_saves_204 rfl ?_
              refine ev_aload_n (pc := 205) dX12_saves_205 rfl ?_
              refine gf_X12_34 (pc := 206) rfl dX12_saves_206 (by (try dsimp only); (repeat (first | rw [up_s] | rw [up_n (by omega)])) <;> first | rfl | assumption) ?_
              refine iv_X12_195 (pc := 209) rfl dX12_saves_209 (by (try dsimp only); (repeat (first | rw [up_s] | rw [up_n (by omega)])) <;> first | rfl | assumption) (Nat.le_of_ble_eq_true rfl) (Nat.le_of_ble_eq_true rfl) (Nat.le_of_ble_eq_true rfl) (Nat.le_of_ble_eq_true rfl) (c_mDawns o3 (pb.fr (fun q a b => f3 q (by omega) (by omega) (by omega))) p3 w2 hv2 (Or.inr rfl) b9.2.1 b9.2.2.1 b9.2.2.2.1) (ki (fun r S' hS => ?_))
              obtain ⟨h4, z'⟩ := S'
              obtain ⟨rfl, rfl, f4, p4⟩ := hS
              refine ev_if_eq (pc := 212) 219 dX12_saves_212 (by decide) (fun c_212 => ?_) (fun c_212 => ?_)
              · simp only [b2i_e0, Bool.not_eq_false] at c_212
                rw [c_212, if_neg (by decide)] at eo
                have e9 : outW B w = pre := by rw [eo]; exact List.append_nil _
                refine ev_iconst (pc := 219) (v := nI 0) dX12_saves_219 kc_0 ?_
                refine ev_iadd (pc := 220) dX12_saves_220 ?_
                (try rw [nI_add])
                refine ev_istore_n (pc := 221) (L' := [_, _, _, _]) dX12_saves_221 (Nat.le_of_ble_eq_true rfl) rfl ?_
                refine ev_goto (pc := 222) 8 dX12_saves_222 (by decide) ?_
                first
                | exact ih (k + 1) (dawnT B T2) i2 _ h4 _ _ (pre ++ [mk (tO T2)]) (by omega) (by rw [List.length_append, hp]; rfl) e9 (by rw [dv]; exact hv2) (wS.dawn (T := T2) (k := i2) ws2 b9 (by omega) (by omega)) (Nat.le_trans (dawnT_H b9 (by omega)) hmx) (by omega) (fun q a b c => (f4 q (by omega)).trans (f3 q a b c)) ((f4 _ (by omega)).trans gg3) ((f4 _ (by omega)).trans ss3) (by intro j hj; rw [gN_app (by rw [hp]; omega), hp]; by_cases q : j = k; rw [if_pos q, q, ru_s, pop, sk]; exact ⟨rfl, rfl⟩; rw [if_neg q, ru_n q, sx j (by omega)]; exact ag j (by omega)) p4
                | exact fin k (dawnT B T2) i2 _ h4 _ _ (by rw [e9, hp]) (Or.inr (dawnT_no c_212)) (by omega) (fun q a b c => (f4 q (by omega)).trans (f3 q a b c)) ((f4 _ (by omega)).trans gg3) ((f4 _ (by omega)).trans ss3) (by intro j hj; rw [e9, ru_n (by omega), sx j hj]; exact ag j hj) p4
              · simp only [b2i_e0, Bool.not_eq_false] at c_212
                rw [c_212, if_pos rfl] at eo
                obtain ⟨dv, dn⟩ := dawnT_ok c_212
                have e9 : outW B w = (pre ++ [mk (tO T2)]) ++ (walkW B w c (dawnT B T2, i2)).1 := by rw [eo, List.append_assoc]; rfl
                refine ev_iconst (pc := 215) (v := nI 1) dX12_saves_215 kc_1 ?_
                refine ev_goto (pc := 216) 220 dX12_saves_216 (by decide) ?_
                refine ev_iadd (pc := 220) dX12_saves_220 ?_
                (try rw [nI_add])
                refine ev_istore_n (pc := 221) (L' := [_, _, _, _]) dX12_saves_221 (Nat.le_of_ble_eq_true rfl) rfl ?_
                refine ev_goto (pc := 222) 8 dX12_saves_222 (by decide) ?_
                first
                | exact ih (k + 1) (dawnT B T2) i2 _ h4 _ _ (pre ++ [mk (tO T2)]) (by omega) (by rw [List.length_append, hp]; rfl) e9 (by rw [dv]; exact hv2) (wS.dawn (T := T2) (k := i2) ws2 b9 (by omega) (by omega)) (Nat.le_trans (dawnT_H b9 (by omega)) hmx) (by omega) (fun q a b c => (f4 q (by omega)).trans (f3 q a b c)) ((f4 _ (by omega)).trans gg3) ((f4 _ (by omega)).trans ss3) (by intro j hj; rw [gN_app (by rw [hp]; omega), hp]; by_cases q : j = k; rw [if_pos q, q, ru_s, pop, sk]; exact ⟨rfl, rfl⟩; rw [if_neg q, ru_n q, sx j (by omega)]; exact ag j (by omega)) p4
                | exact fin k (dawnT B T2) i2 _ h4 _ _ (by rw [e9, hp]) (Or.inr (dawnT_no c_212)) (by omega) (fun q a b c => (f4 q (by omega)).trans (f3 q a b c)) ((f4 _ (by omega)).trans gg3) ((f4 _ (by omega)).trans ss3) (by intro j hj; rw [e9, ru_n (by omega), sx j hj]; exact ag j hj) p4
            · exfalso; (try simp (disch := omega) only [i32_lti, i32_lei, i32_eqi, nI_toInt, i32z] at c_175); omega
          | succ c2 ih2 =>
            intro j hj h3 s3 f3 gg3 ss3 sk sx p3
            have po3 := (f3 m (by omega) (by omega) (by omega)).trans po'
            have p3' := p3
            unfold pRw at p3'
            have hj6 := o6 _ (gN_mem (l := tO T2) (i := j) (by omega))
            have hm64 : mk ((tO T2).take j) < 64 := mk_lt (fun x hx => o6 x (List.mem_of_mem_take hx))
            have ts := take_s (l := tO T2) (j := j) (by omega)
            refine ev_iload_n (pc := 168) dX12_saves_168 rfl ?_
            refine ev_aload_n (pc := 169) dX12_saves_169 rfl ?_
            refine gf_X12_34 (pc := 170) rfl dX12_saves_170 (by (try dsimp only); (repeat (first | rw [up_s] | rw [up_n (by omega)])) <;> first | rfl | assumption) ?_
            refine ev_iconst (pc := 173) (v := nI 2) dX12_saves_173 kc_2 ?_
            refine ev_iald (pc := 174) dX12_saves_174 (by (try dsimp only); (repeat (first | rw [up_s] | rw [up_n (by omega)])) <;> first | rfl | assumption) (nI_toInt (by omega)) (x_2 T2) ?_
            refine ev_icmp_ge (pc := 175) 203 dX12_saves_175 (by decide) (fun c_175 => ?_) (fun c_175 => ?_)
            · exfalso; (try simp (disch := omega) only [i32_lti, i32_lei, i32_eqi, nI_toInt, i32z] at c_175); omega
            · (try simp (disch := omega) only [i32_lti, i32_lei, i32_eqi, nI_toInt, i32z] at c_175)
              refine ev_aload_n (pc := 178) dX12_saves_178 rfl ?_
              refine gf_X12_46 (pc := 179) rfl dX12_saves_179 (by (try dsimp only); (repeat (first | rw [up_s] | rw [up_n (by omega)])) <;> first | rfl | assumption) ?_
              refine ev_iload_n (pc := 182) dX12_saves_182 rfl ?_
              refine ev_dup2 (pc := 183) dX12_saves_183 rfl rfl ?_
              refine ev_iald (pc := 184) dX12_saves_184 (by (try dsimp only); (repeat (first | rw [up_s] | rw [up_n (by omega)])) <;> first | rfl | assumption) (nI_toInt (by omega)) (xg (by omega) sk) ?_
              refine ev_iconst (pc := 185) (v := nI 1) dX12_saves_185 kc_1 ?_
              refine ev_aload_n (pc := 186) dX12_saves_186 rfl ?_
              refine gf_X12_34 (pc := 187) rfl dX12_saves_187 (by (try dsimp only); (repeat (first | rw [up_s] | rw [up_n (by omega)])) <;> first | rfl | assumption) ?_
              refine ev_iconst (pc := 190) (v := nI 4) dX12_saves_190 kc_4 ?_
              refine ev_iload_n (pc := 191) dX12_saves_191 rfl ?_
              refine ev_iadd (pc := 192) dX12_saves_192 ?_
              (try rw [nI_add])
              refine ev_iald (pc := 193) dX12_saves_193 (by (try dsimp only); (repeat (first | rw [up_s] | rw [up_n (by omega)])) <;> first | rfl | assumption) (nI_toInt (by omega)) (x_O hl6 (by omega)) ?_
              refine ev_ishl (pc := 194) dX12_saves_194 ?_
              rw [bt_shl _ hj6]
              refine ev_ior (pc := 195) dX12_saves_195 ?_
              rw [bt_or _ hm64 _ (bt_shl64 _ hj6), ← ts]
              refine ev_iast (pc := 196) dX12_saves_196 (by (try dsimp only); (repeat (first | rw [up_s] | rw [up_n (by omega)])) <;> first | rfl | assumption) (nI_toInt (by omega)) (by rw [ar_len]; omega) ?_
              rw [ar_set (by omega)]
              refine ev_iinc (pc := 197) (L' := [_, _, _, _]) dX12_saves_197 rfl (nI_1 _) rfl ?_
              refine ev_goto (pc := 200) 168 dX12_saves_200 (by decide) ?_
              exact ih2 (j + 1) (by omega) _ _ (by intro q a b c; (try dsimp only); rw [up_n (by omega)]; exact f3 q a b c) (by (try dsimp only); rw [up_n (by omega)]; exact gg3) (up_s _ _ _) ru_s (fun x hx => (ru_n (by omega)).trans (sx x hx)) (show _ = _ from (up_n (by omega)).trans p3')
        refine ev_aload_n (pc := 147) dX12_saves_147 rfl ?_
        refine gf_X12_43 (pc := 148) rfl dX12_saves_148 (by (try dsimp only); (repeat (first | rw [up_s] | rw [up_n (by omega)])) <;> first | rfl | assumption) ?_
        refine ev_iload_n (pc := 151) dX12_saves_151 rfl ?_
        refine ev_aload_n (pc := 152) dX12_saves_152 rfl ?_
        refine gf_X12_34 (pc := 153) rfl dX12_saves_153 (by (try dsimp only); (repeat (first | rw [up_s] | rw [up_n (by omega)])) <;> first | rfl | assumption) ?_
        refine ev_iconst (pc := 156) (v := nI 2) dX12_saves_156 kc_2 ?_
        refine ev_iald (pc := 157) dX12_saves_157 (by (try dsimp only); (repeat (first | rw [up_s] | rw [up_n (by omega)])) <;> first | rfl | assumption) (nI_toInt (by omega)) (x_2 T2) ?_
        refine ev_iast (pc := 158) dX12_saves_158 (by (try dsimp only); (repeat (first | rw [up_s] | rw [up_n (by omega)])) <;> first | rfl | assumption) (nI_toInt (by omega)) (by rw [ar_len]; omega) ?_
        rw [ar_set (by omega)]
        refine ev_aload_n (pc := 159) dX12_saves_159 rfl ?_
        refine gf_X12_46 (pc := 160) rfl dX12_saves_160 (by (try dsimp only); (repeat (first | rw [up_s] | rw [up_n (by omega)])) <;> first | rfl | assumption) ?_
        refine ev_iload_n (pc := 163) dX12_saves_163 rfl ?_
        refine ev_iconst (pc := 164) (v := nI 0) dX12_saves_164 kc_0 ?_
        refine ev_iast (pc := 165) dX12_saves_165 (by (try dsimp only); (repeat (first | rw [up_s] | rw [up_n (by omega)])) <;> first | rfl | assumption) (nI_toInt (by omega)) (by rw [ar_len]; omega) ?_
        rw [ar_set (by omega)]
        refine ev_iconst (pc := 166) (v := nI 0) dX12_saves_166 kc_0 ?_
        refine ev_istore_n (pc := 167) (L' := [_, _, _, _]) dX12_saves_167 (Nat.le_of_ble_eq_true rfl) rfl ?_
        exact mask (tO T2).length 0 (by omega) _ _ (by intro q a b c; (try dsimp only); rw [up_n (by omega), up_n (by omega)]; exact f2 q a b c) (by (try dsimp only); (repeat (first | rw [up_s] | rw [up_n (by omega)])) <;> first | rfl | assumption) (up_s _ _ _) ru_s (fun x hx => ru_n (by omega)) (show _ = _ from (up_n (by omega)).trans ((up_n (by omega)).trans p2'))
      refine ev_iload_n (pc := 8) dX12_saves_8 rfl ?_
      refine ev_bipush (pc := 9) (v := nI 30) dX12_saves_9 kb_30 ?_
      refine ev_icmp_ge (pc := 11) 225 dX12_saves_11 (by decide) (fun c_11 => ?_) (fun c_11 => ?_)
      · exfalso; (try simp (disch := omega) only [i32_lti, i32_lei, i32_eqi, nI_toInt, i32z] at c_11); omega
      · (try simp (disch := omega) only [i32_lti, i32_lei, i32_eqi, nI_toInt, i32z] at c_11)
        refine ev_aload_n (pc := 14) dX12_saves_14 rfl ?_
        refine gf_X12_34 (pc := 15) rfl dX12_saves_15 (by (try dsimp only); (repeat (first | rw [up_s] | rw [up_n (by omega)])) <;> first | rfl | assumption) ?_
        refine ev_iconst (pc := 18) (v := nI 3) dX12_saves_18 kc_3 ?_
        refine ev_iald (pc := 19) dX12_saves_19 (by (try dsimp only); (repeat (first | rw [up_s] | rw [up_n (by omega)])) <;> first | rfl | assumption) (nI_toInt (by omega)) (x_3 T) ?_
        refine ev_iconst (pc := 20) (v := nI 1) dX12_saves_20 kc_1 ?_
        refine ev_icmp_ne (pc := 21) 225 dX12_saves_21 (by decide) (fun c_21 => ?_) (fun c_21 => ?_)
        · exfalso; rw [hv] at c_21; exact c_21 rfl
        · (try simp (disch := omega) only [i32_lti, i32_lei, i32_eqi, nI_toInt, i32z] at c_21)
          exact night k g s (tH T) T i v3 h1 rfl h10 hv ws f1 gg ss p1 cont
  refine ev_aload_n (pc := 0) dX12_saves_0 rfl ?_
  refine iv_X12_149 (pc := 1) rfl dX12_saves_1 (by (try dsimp only); (repeat (first | rw [up_s] | rw [up_n (by omega)])) <;> first | rfl | assumption) (Nat.le_of_ble_eq_true rfl) (Nat.le_of_ble_eq_true rfl) (Nat.le_of_ble_eq_true rfl) (Nat.le_of_ble_eq_true rfl) (c_mAnew po pb h6 b9.2.1 b9.2.2.1 pq) (kv (fun S' hS => ?_))
  obtain ⟨h1, z'⟩ := S'
  obtain ⟨rfl, f1, p1⟩ := hS
  refine ev_iconst (pc := 4) (v := nI 0) dX12_saves_4 kc_0 ?_
  refine ev_istore_n (pc := 5) (L' := [_, _, _, _]) dX12_saves_5 (Nat.le_of_ble_eq_true rfl) rfl ?_
  refine ev_iconst (pc := 6) (v := nI 0) dX12_saves_6 kc_0 ?_
  refine ev_istore_n (pc := 7) (L' := [_, _, _, _]) dX12_saves_7 (Nat.le_of_ble_eq_true rfl) rfl ?_
  exact loop 30 0 (startT B) 0 _ h1 g0 s0 [] rfl rfl rfl rfl ⟨wT.start b9 (by omega), wF.start b9, Nat.zero_le _⟩ (Nat.le_trans (b9.ho 0) hmx) (by show 0 + 30 < 999; omega) (fun q a b c => f1 q (by omega)) ((f1 _ (by omega)).trans og) ((f1 _ (by omega)).trans os) (fun j hj => by omega) p1
end MSAVES
