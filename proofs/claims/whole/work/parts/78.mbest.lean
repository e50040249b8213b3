/-! ===== the model: best, longer ===== -/
def offN (B : Bk) (k : Nat) : Nat := (preW (bT B) k).length
theorem preW_pre (n : Nat) : ∀ (c k : Nat), ∃ R : List (List Nat), preW n (k + c) = preW n k ++ R
  | 0, k => ⟨[], by simp⟩
  | c + 1, k => by
    obtain ⟨R, hR⟩ := preW_pre n c k
    exact ⟨R ++ lev n (k + c), by show preW n (k + c) ++ lev n (k + c) = _; rw [hR, List.append_assoc]⟩
theorem offN_s (B : Bk) (k : Nat) : offN B (k + 1) = offN B k + (lev (bT B) k).length := by
  show (preW (bT B) k ++ lev (bT B) k).length = _
  rw [List.length_append]
  rfl
theorem offN_all (B : Bk) : offN B (bT B + 1) = nW B := rfl
theorem rW_lev {B : Bk} {k i : Nat} {w : List Nat} (hk : k ≤ bT B) (h : (lev (bT B) k)[i]? = some w) : rW B (offN B k + i) = w ∧ offN B k + i < nW B ∧ w.length = k ∧ w.Nodup ∧ (∀ t ∈ w, t < bT B) ∧ i < (lev (bT B) k).length := by
  obtain ⟨l1, l2, l3⟩ := lev_mem (List.mem_of_getElem? h)
  obtain ⟨R, hR⟩ := preW_pre (bT B) (bT B - k) (k + 1)
  have ea : allW (bT B) (bT B) = preW (bT B) k ++ (lev (bT B) k ++ R) := by
    show preW (bT B) (bT B + 1) = _
    rw [show bT B + 1 = k + 1 + (bT B - k) by omega, hR, ← List.append_assoc]
    rfl
  have hi : i < (lev (bT B) k).length := by
    rcases Nat.lt_or_ge i (lev (bT B) k).length with q | q
    · exact q
    · rw [List.getElem?_eq_none q] at h; cases h
  have eg : (allW (bT B) (bT B))[offN B k + i]? = some w := by
    rw [ea]
    unfold offN
    rw [List.getElem?_append_right (by omega), Nat.add_sub_cancel_left, List.getElem?_append_left hi, h]
  refine ⟨?_, ?_, l1, l2, l3, hi⟩
  · unfold rW gW
    rw [List.getD_eq_getElem?_getD, eg]
    rfl
  · rcases Nat.lt_or_ge (offN B k + i) (nW B) with q | q
    · exact q
    · unfold nW at q; rw [List.getElem?_eq_none q] at eg; cases eg
/-- what the search leaves as it was -/
def mFs (h h1 : Hp) (m : Nat) : Prop := ∀ q : Nat, q ≠ m → q ≠ m + 9 → (q < m + 11 ∨ m + 14 ≤ q) → h1 q = h q
def bdI (B : Bk) (i : Nat) : Int32 := if i = 0 then -1 else nI (outW B (rW B (bIx (fun i => (outW B (rW B i)).length) i))).length
def brI (B : Bk) (i : Nat) : Int32 := if i = 0 then 0 else nI (cod (rW B (bIx (fun i => (outW B (rW B i)).length) i)))
theorem out30 {B : Bk} {mx : Nat} {w : List Nat} (b9 : wB mx B) (hmx : mx < 100) (hw : ∀ t ∈ w, t < bT B) : (outW B w).length ≤ 30 ∧ ∀ x ∈ outW B w, x < 64 := by
  have := walkW_ok b9 hmx hw 30 (startT B, 0) ⟨wT.start b9 hmx, wF.start b9, Nat.zero_le _⟩ (by show 0 + 30 < 1000; omega)
  exact ⟨this.1, this.2.1⟩
section MBEST
variable {X : Cx} {h : Hp} {z n mx : Nat} {B : Bk} {m : Nat} {sz at_ bg tk td rt rn rm rd tl nt me de lo sa un mn bd br he : Int32} {tr : Int64}
theorem c_mFinds (po : pMO h m sz at_ bg tk td rt rn rm rd (nI (bT B)) (nI (bK B)) (nI (bM B)) (nI (bD B)) lo sa un mn bd br he tr) (pb : mBk h m B lo) (b9 : wB mx B) (hmx : mx ≤ 10) (ro : mRo h m) (oo : mOr h m) : Ct X 4 mt_X12_finds [.ref m] (h, z) 0 0 (Qv (fun S' => S'.2 = z ∧ mFs h S'.1 m ∧ (∃ mn2 : Int32, pMO S'.1 m sz at_ bg tk td rt rn rm rd (nI (bT B)) (nI (bK B)) (nI (bM B)) (nI (bD B)) lo sa un (mn2) (nI (bestN B)) (nI (cod (rW B (bestI B)))) he tr) ∧ mRo S'.1 m ∧ mOr S'.1 m)) := by
  have po' := po
  unfold pMO at po'
  have h6 := b9.1
  have hpos := nW_pos B
  refine mk_X12_finds (Nat.le_of_ble_eq_true rfl) (L := [.ref m, .retAddr 0, .retAddr 0, .retAddr 0]) rfl ?_
  have outer : ∀ (e k : Nat) (h1 : Hp) (v2 v3 : Value) (mn2 : Int32), k + e = bT B + 1 → mFs h h1 m → pMO h1 m sz at_ bg tk td rt rn rm rd (nI (bT B)) (nI (bK B)) (nI (bM B)) (nI (bD B)) lo sa un (mn2) (bdI B (offN B k)) (brI B (offN B k)) he tr → mRo h1 m → mOr h1 m → Ev X (mi_X12_finds 4 0 0) (Qv (fun S' => S'.2 = z ∧ mFs h S'.1 m ∧ (∃ mn2 : Int32, pMO S'.1 m sz at_ bg tk td rt rn rm rd (nI (bT B)) (nI (bK B)) (nI (bM B)) (nI (bD B)) lo sa un (mn2) (nI (bestN B)) (nI (cod (rW B (bestI B)))) he tr) ∧ mRo S'.1 m ∧ mOr S'.1 m)) 0 0 (h1, z) 12 [.ref m, .int (nI k), v2, v3] [] := by
    intro e
    induction e with
    | zero =>
      intro k h1 v2 v3 mn2 hk f1 o1 r1 q1
      have o1' := o1
      unfold pMO at o1'
      have ek : k = bT B + 1 := by omega
      subst ek
      have ebd : bdI B (offN B (bT B + 1)) = nI (bestN B) := by rw [offN_all]; unfold bdI; rw [if_neg (by omega)]; rfl
      have ebr : brI B (offN B (bT B + 1)) = nI (cod (rW B (bestI B))) := by rw [offN_all]; unfold brI; rw [if_neg (by omega)]; rfl
      rw [ebd, ebr] at o1
      refine ev_iload_n (pc := 12) dX12_finds_12 rfl ?_
      refine ev_aload_n (pc := 13) dX12_finds_13 rfl ?_
      refine gf_X12_137 (pc := 14) rfl dX12_finds_14 (by (try dsimp only); (repeat (first | rw [up_s] | rw [up_n (by omega)])) <;> first | rfl | assumption) ?_
      refine ev_icmp_gt (pc := 17) 92 dX12_finds_17 (by decide) (fun c_17 => ?_) (fun c_17 => ?_)
      · (try simp (disch := omega) only [i32_lti, i32_lei, i32_eqi, nI_toInt, i32z] at c_17)
        refine ev_ret (pc := 92) dX12_finds_92 rfl (Nat.le_of_ble_eq_true rfl) (Nat.le_of_ble_eq_true rfl) ?_
        exact ⟨rfl, rfl, f1, ⟨mn2, o1⟩, r1, q1⟩
      · exfalso; (try simp (disch := omega) only [i32_lti, i32_lei, i32_eqi, nI_toInt, i32z] at c_17); omega
    | succ e ihE =>
      intro k h1 v2 v3 mn2 hk f1 o1 r1 q1
      have hkn : k ≤ bT B := by omega
      have inner : ∀ (c i : Nat) (w : List Nat) (h2 : Hp) (v3 : Value), i + c = (lev (bT B) k).length → (lev (bT B) k)[i]? = some w → mFs h h2 m → pMO h2 m sz at_ bg tk td rt rn rm rd (nI (bT B)) (nI (bK B)) (nI (bM B)) (nI (bD B)) lo sa un (nI k) (bdI B (offN B k + i)) (brI B (offN B k + i)) he tr → mRo h2 m → mOr h2 m → mOd h2 m w → Ev X (mi_X12_finds 4 0 0) (Qv (fun S' => S'.2 = z ∧ mFs h S'.1 m ∧ (∃ mn2 : Int32, pMO S'.1 m sz at_ bg tk td rt rn rm rd (nI (bT B)) (nI (bK B)) (nI (bM B)) (nI (bD B)) lo sa un (mn2) (nI (bestN B)) (nI (cod (rW B (bestI B)))) he tr) ∧ mRo S'.1 m ∧ mOr S'.1 m)) 0 0 (h2, z) 26 [.ref m, .int (nI k), .int (nI 1), v3] [] := by
        intro c
        induction c with
        | zero =>
          intro i w h2 v3 hc hi
          rw [List.getElem?_eq_none (by omega)] at hi
          cases hi
        | succ c ihC =>
          intro i w h2 v3 hc hi f2 o2 r2 q2 d2
          obtain ⟨eW, hI, hl, hnd, hwn, hil⟩ := rW_lev hkn hi
          have hnx := lev_next (bT B) k hkn i w hi
          have h30 := (out30 b9 (by omega) hwn).1
          have o2k : pMO h2 m sz at_ bg tk td rt rn rm rd (nI (bT B)) (nI (bK B)) (nI (bM B)) (nI (bD B)) lo sa un (nI w.length) (bdI B (offN B k + i)) (brI B (offN B k + i)) he tr := by rw [hl]; exact o2
          obtain ⟨fo, d21, d22⟩ := id d2
          obtain ⟨oa, ob, oc, q21, q22, q23⟩ := id q2
          have pb2 : mBk h2 m B lo := pb.fr (fun q a b => f2 q (by omega) (by omega) (by omega))
          have eS : bIx (fun i => (outW B (rW B i)).length) (offN B k + i + 1) = if (outW B (rW B (bIx (fun i => (outW B (rW B i)).length) (offN B k + i)))).length < (outW B (rW B (offN B k + i))).length then offN B k + i else bIx (fun i => (outW B (rW B i)).length) (offN B k + i) := rfl
          rw [eW] at eS
          have key : ∀ x : Int32, x = bdI B (offN B k + i) → (¬ ((outW B w).length : Int) ≤ x.toInt → bdI B (offN B k + i + 1) = nI (outW B w).length ∧ brI B (offN B k + i + 1) = nI (cod w)) ∧ (((outW B w).length : Int) ≤ x.toInt → bdI B (offN B k + i + 1) = bdI B (offN B k + i) ∧ brI B (offN B k + i + 1) = brI B (offN B k + i)) := by
            intro x hx
            subst hx
            have e1 : bdI B (offN B k + i + 1) = nI (outW B (rW B (bIx (fun i => (outW B (rW B i)).length) (offN B k + i + 1)))).length := if_neg (by omega)
            have e2 : brI B (offN B k + i + 1) = nI (cod (rW B (bIx (fun i => (outW B (rW B i)).length) (offN B k + i + 1)))) := if_neg (by omega)
            rw [eS] at e1 e2
            by_cases h0 : offN B k + i = 0
            · have e3 : bdI B (offN B k + i) = -1 := if_pos h0
              rw [h0] at eW e1 e2
              have e4 : rW B (bIx (fun i => (outW B (rW B i)).length) 0) = w := eW
              rw [e3]
              have e5 : (if (outW B (rW B (bIx (fun i => (outW B (rW B i)).length) 0))).length < (outW B w).length then 0 else bIx (fun i => (outW B (rW B i)).length) 0) = 0 := by rw [e4, if_neg (by omega)]; rfl
              rw [e5, eW] at e1 e2
              rw [h0]
              refine ⟨fun _ => ⟨e1, e2⟩, fun q => ?_⟩
              rw [show (-1 : Int32).toInt = -1 from rfl] at q
              omega
            · have e3 : bdI B (offN B k + i) = nI (outW B (rW B (bIx (fun i => (outW B (rW B i)).length) (offN B k + i)))).length := if_neg h0
              have e4 : brI B (offN B k + i) = nI (cod (rW B (bIx (fun i => (outW B (rW B i)).length) (offN B k + i)))) := if_neg h0
              have hb30 : (outW B (rW B (bIx (fun i => (outW B (rW B i)).length) (offN B k + i)))).length ≤ 30 := by
                have hlt := bIx_lt (fun i => (outW B (rW B i)).length) (offN B k + i) (by omega)
                have hg := gW_get (W := allW (bT B) (bT B)) (i := bIx (fun i => (outW B (rW B i)).length) (offN B k + i)) (by unfold nW at hI; omega)
                exact (out30 b9 (by omega) (allW_mem (List.mem_of_getElem? hg)).2.2).1
              rw [e3, nI_toInt (by omega)]
              constructor
              · intro q
                rw [if_pos (by omega), eW] at e1 e2
                exact ⟨e1, e2⟩
              · intro q
                rw [if_neg (by omega)] at e1 e2
                exact ⟨e1, e2.trans e4.symm⟩
          obtain ⟨kT, kF⟩ := key _ rfl
          have next : ∀ (h3 : Hp) (own : Value), mFs h h3 m → pMO h3 m sz at_ bg tk td rt rn rm rd (nI (bT B)) (nI (bK B)) (nI (bM B)) (nI (bD B)) lo sa un (nI k) (bdI B (offN B k + i + 1)) (brI B (offN B k + i + 1)) he tr → mRo h3 m → mOr h3 m → mOd h3 m w → Ev X (mi_X12_finds 4 0 0) (Qv (fun S' => S'.2 = z ∧ mFs h S'.1 m ∧ (∃ mn2 : Int32, pMO S'.1 m sz at_ bg tk td rt rn rm rd (nI (bT B)) (nI (bK B)) (nI (bM B)) (nI (bD B)) lo sa un (mn2) (nI (bestN B)) (nI (cod (rW B (bestI B)))) he tr) ∧ mRo S'.1 m ∧ mOr S'.1 m)) 0 0 (h3, z) 78 [.ref m, .int (nI k), .int (nI 1), own] [] := by
            intro h3 own f3 o3 r3 q3 d3
            have o3' := o3
            unfold pMO at o3'
            have o3k : pMO h3 m sz at_ bg tk td rt rn rm rd (nI (bT B)) (nI (bK B)) (nI (bM B)) (nI (bD B)) lo sa un (nI w.length) (bdI B (offN B k + i + 1)) (brI B (offN B k + i + 1)) he tr := by rw [hl]; exact o3
            obtain ⟨oa, ob, oc, q31, q32, q33⟩ := id q3
            cases e9 : nxL (bT B) w.length w with
            | none =>
              have hend : (lev (bT B) k)[i + 1]? = none := by rw [hnx, ← hl]; exact e9
              have hlen : (lev (bT B) k).length = i + 1 := by have := List.getElem?_eq_none_iff.mp hend; omega
              have eo : offN B (k + 1) = offN B k + i + 1 := by rw [offN_s]; omega
              refine ev_aload_n (pc := 78) dX12_finds_78 rfl ?_
              refine iv_X12_225 (pc := 79) rfl dX12_finds_79 (by (try dsimp only); (repeat (first | rw [up_s] | rw [up_n (by omega)])) <;> first | rfl | assumption) (Nat.le_of_ble_eq_true rfl) (Nat.le_of_ble_eq_true rfl) (Nat.le_of_ble_eq_true rfl) (Nat.le_of_ble_eq_true rfl) (c_mTurns o3k h6 d3 (by omega) hnd hwn) (ki (fun r S' hS => ?_))
              obtain ⟨h4, z'⟩ := S'
              obtain ⟨rfl, rfl, f4, ⟨fo4, d4⟩, -⟩ := hS
              rw [e9]
              have o4 := (f4 m (by omega)).trans o3'
              refine ev_istore_n (pc := 82) (L' := [_, _, _, _]) dX12_finds_82 (Nat.le_of_ble_eq_true rfl) rfl ?_
              refine ev_goto (pc := 83) 26 dX12_finds_83 (by decide) ?_
              refine ev_iload_n (pc := 26) dX12_finds_26 rfl ?_
              refine ev_if_eq (pc := 27) 86 dX12_finds_27 (by decide) (fun c_27 => ?_) (fun c_27 => ?_)
              · (try simp (disch := omega) only [i32_lti, i32_lei, i32_eqi, nI_toInt, i32z] at c_27)
                refine ev_iinc (pc := 86) (L' := [_, _, _, _]) dX12_finds_86 rfl (nI_1 _) rfl ?_
                refine ev_goto (pc := 89) 12 dX12_finds_89 (by decide) ?_
                exact ihE (k + 1) h4 _ _ (nI k) (by omega) (fun q a b c => (f4 q (by omega)).trans (f3 q a b c)) (by unfold pMO; rw [eo]; exact o4) (r3.fr (f4 _ (by omega))) ⟨fo4, ob, oc, d4, (f4 _ (by omega)).trans q32, (f4 _ (by omega)).trans q33⟩
              · exact absurd rfl c_27
            | some w' =>
              have hi2 : (lev (bT B) k)[i + 1]? = some w' := by rw [hnx, ← hl]; exact e9
              refine ev_aload_n (pc := 78) dX12_finds_78 rfl ?_
              refine iv_X12_225 (pc := 79) rfl dX12_finds_79 (by (try dsimp only); (repeat (first | rw [up_s] | rw [up_n (by omega)])) <;> first | rfl | assumption) (Nat.le_of_ble_eq_true rfl) (Nat.le_of_ble_eq_true rfl) (Nat.le_of_ble_eq_true rfl) (Nat.le_of_ble_eq_true rfl) (c_mTurns o3k h6 d3 (by omega) hnd hwn) (ki (fun r S' hS => ?_))
              obtain ⟨h4, z'⟩ := S'
              obtain ⟨rfl, rfl, f4, -, d4⟩ := hS
              rw [e9]
              have o4 := (f4 m (by omega)).trans o3'
              have d4 := d4 w' e9
              refine ev_istore_n (pc := 82) (L' := [_, _, _, _]) dX12_finds_82 (Nat.le_of_ble_eq_true rfl) rfl ?_
              refine ev_goto (pc := 83) 26 dX12_finds_83 (by decide) ?_
              exact ihC (i + 1) w' h4 _ (by omega) hi2 (fun q a b c => (f4 q (by omega)).trans (f3 q a b c)) o4 (r3.fr (f4 _ (by omega))) ⟨d4.choose, ob, oc, d4.choose_spec.1, (f4 _ (by omega)).trans q32, (f4 _ (by omega)).trans q33⟩ d4
          refine ev_iload_n (pc := 26) dX12_finds_26 rfl ?_
          refine ev_if_eq (pc := 27) 86 dX12_finds_27 (by decide) (fun c_27 => ?_) (fun c_27 => ?_)
          · exact absurd c_27 (by decide)
          · (try simp (disch := omega) only [i32_lti, i32_lei, i32_eqi, nI_toInt, i32z] at c_27)
            refine ev_aload_n (pc := 30) dX12_finds_30 rfl ?_
            refine iv_X12_203 (pc := 31) rfl dX12_finds_31 (by (try dsimp only); (repeat (first | rw [up_s] | rw [up_n (by omega)])) <;> first | rfl | assumption) (Nat.le_of_ble_eq_true rfl) (Nat.le_of_ble_eq_true rfl) (Nat.le_of_ble_eq_true rfl) (Nat.le_of_ble_eq_true rfl) (c_mSaves (w := w) o2k pb2 b9 hmx d21 d22 hwn (by omega) r2 ⟨ob, oc, q22, q23⟩) (ki (fun r S' hS => ?_))
            obtain ⟨h3, z'⟩ := S'
            obtain ⟨rfl, rfl, f3, r3, g3, k3, y1, y2, -⟩ := hS
            have o3 : pMO h3 m sz at_ bg tk td rt rn rm rd (nI (bT B)) (nI (bK B)) (nI (bM B)) (nI (bD B)) lo sa un (nI w.length) (bdI B (offN B k + i)) (brI B (offN B k + i)) he tr := (f3 m (by omega) (by omega) (by omega)).trans o2k
            have o3' := o3
            unfold pMO at o3'
            have d3 : mOd h3 m w := ⟨fo, (f3 _ (by omega) (by omega) (by omega)).trans d21, d22⟩
            have f13 : mFs h h3 m := fun q a b c => (f3 q b (by omega) (by omega)).trans (f2 q a b c)
            refine ev_istore_n (pc := 34) (L' := [_, _, _, _]) dX12_finds_34 (Nat.le_of_ble_eq_true rfl) rfl ?_
            refine ev_aload_n (pc := 35) dX12_finds_35 rfl ?_
            refine ev_iload_n (pc := 36) dX12_finds_36 rfl ?_
            refine ev_aload_n (pc := 37) dX12_finds_37 rfl ?_
            refine gf_X12_213 (pc := 38) rfl dX12_finds_38 (by (try dsimp only); (repeat (first | rw [up_s] | rw [up_n (by omega)])) <;> first | rfl | assumption) ?_
            refine ev_icmp_le (pc := 41) 51 dX12_finds_41 (by decide) (fun c_41 => ?_) (fun c_41 => ?_)
            · (try simp (disch := omega) only [i32_lti, i32_lei, i32_eqi, nI_toInt, i32z] at c_41)
              obtain ⟨kb, kr⟩ := kF c_41
              refine ev_aload_n (pc := 51) dX12_finds_51 rfl ?_
              refine gf_X12_216 (pc := 52) rfl dX12_finds_52 (by (try dsimp only); (repeat (first | rw [up_s] | rw [up_n (by omega)])) <;> first | rfl | assumption) ?_
              refine pf_X12_216 (pc := 55) rfl dX12_finds_55 (by (try dsimp only); (repeat (first | rw [up_s] | rw [up_n (by omega)])) <;> first | rfl | assumption) ?_
              refine ev_aload_n (pc := 58) dX12_finds_58 rfl ?_
              refine ev_iload_n (pc := 59) dX12_finds_59 rfl ?_
              refine ev_aload_n (pc := 60) dX12_finds_60 rfl ?_
              refine gf_X12_213 (pc := 61) rfl dX12_finds_61 (by (try dsimp only); (repeat (first | rw [up_s] | rw [up_n (by omega)])) <;> first | rfl | assumption) ?_
              refine ev_icmp_le (pc := 64) 71 dX12_finds_64 (by decide) (fun c_64 => ?_) (fun c_64 => ?_)
              · (try simp (disch := omega) only [i32_lti, i32_lei, i32_eqi, nI_toInt, i32z] at c_64)
                refine ev_aload_n (pc := 71) dX12_finds_71 rfl ?_
                refine gf_X12_213 (pc := 72) rfl dX12_finds_72 (by (try dsimp only); (repeat (first | rw [up_s] | rw [up_n (by omega)])) <;> first | rfl | assumption) ?_
                refine pf_X12_213 (pc := 75) rfl dX12_finds_75 (by (try dsimp only); (repeat (first | rw [up_s] | rw [up_n (by omega)])) <;> first | rfl | assumption) ?_
                first
                | exact absurd c_64 c_41
                | exact absurd c_41 c_64
                | exact next _ _ (by intro q a b c; (try dsimp only); rw [up_n (by omega), up_n (by omega)]; exact f13 q a b c) (by unfold pMO; rw [kb, kr, ← hl]; exact (by (try dsimp only); (repeat (first | rw [up_s] | rw [up_n (by omega)])) <;> first | rfl | assumption)) (r3.fr (by (try dsimp only); rw [up_n (by omega), up_n (by omega)])) ⟨fo, g3, k3, (by (try dsimp only); rw [up_n (by omega), up_n (by omega)]; exact (f3 _ (by omega) (by omega) (by omega)).trans d21), (by (try dsimp only); rw [up_n (by omega), up_n (by omega)]; exact y1), (by (try dsimp only); rw [up_n (by omega), up_n (by omega)]; exact y2)⟩ ⟨fo, (by (try dsimp only); rw [up_n (by omega), up_n (by omega)]; exact (f3 _ (by omega) (by omega) (by omega)).trans d21), d22⟩
              · (try simp (disch := omega) only [i32_lti, i32_lei, i32_eqi, nI_toInt, i32z] at c_64)
                refine ev_iload_n (pc := 67) dX12_finds_67 rfl ?_
                refine ev_goto (pc := 68) 75 dX12_finds_68 (by decide) ?_
                refine pf_X12_213 (pc := 75) rfl dX12_finds_75 (by (try dsimp only); (repeat (first | rw [up_s] | rw [up_n (by omega)])) <;> first | rfl | assumption) ?_
                first
                | exact absurd c_64 c_41
                | exact absurd c_41 c_64
                | exact next _ _ (by intro q a b c; (try dsimp only); rw [up_n (by omega), up_n (by omega)]; exact f13 q a b c) (by unfold pMO; rw [kb, kr, ← hl]; exact (by (try dsimp only); (repeat (first | rw [up_s] | rw [up_n (by omega)])) <;> first | rfl | assumption)) (r3.fr (by (try dsimp only); rw [up_n (by omega), up_n (by omega)])) ⟨fo, g3, k3, (by (try dsimp only); rw [up_n (by omega), up_n (by omega)]; exact (f3 _ (by omega) (by omega) (by omega)).trans d21), (by (try dsimp only); rw [up_n (by omega), up_n (by omega)]; exact y1), (by (try dsimp only); rw [up_n (by omega), up_n (by omega)]; exact y2)⟩ ⟨fo, (by (try dsimp only); rw [up_n (by omega), up_n (by omega)]; exact (f3 _ (by omega) (by omega) (by omega)).trans d21), d22⟩
            · (try simp (disch := omega) only [i32_lti, i32_lei, i32_eqi, nI_toInt, i32z] at c_41)
              obtain ⟨kb, kr⟩ := kT c_41
              refine ev_aload_n (pc := 44) dX12_finds_44 rfl ?_
              refine iv_X12_222 (pc := 45) rfl dX12_finds_45 (by (try dsimp only); (repeat (first | rw [up_s] | rw [up_n (by omega)])) <;> first | rfl | assumption) (Nat.le_of_ble_eq_true rfl) (Nat.le_of_ble_eq_true rfl) (Nat.le_of_ble_eq_true rfl) (Nat.le_of_ble_eq_true rfl) (c_mCode o3 d3 (fun x hx => by have := hwn x hx; omega) (by omega)) (kp ?_)
              refine ev_goto (pc := 48) 55 dX12_finds_48 (by decide) ?_
              refine pf_X12_216 (pc := 55) rfl dX12_finds_55 (by (try dsimp only); (repeat (first | rw [up_s] | rw [up_n (by omega)])) <;> first | rfl | assumption) ?_
              refine ev_aload_n (pc := 58) dX12_finds_58 rfl ?_
              refine ev_iload_n (pc := 59) dX12_finds_59 rfl ?_
              refine ev_aload_n (pc := 60) dX12_finds_60 rfl ?_
              refine gf_X12_213 (pc := 61) rfl dX12_finds_61 (by (try dsimp only); (repeat (first | rw [up_s] | rw [up_n (by omega)])) <;> first | rfl | assumption) ?_
              refine ev_icmp_le (pc := 64) 71 dX12_finds_64 (by decide) (fun c_64 => ?_) (fun c_64 => ?_)
              · (try simp (disch := omega) only [i32_lti, i32_lei, i32_eqi, nI_toInt, i32z] at c_64)
                refine ev_aload_n (pc := 71) dX12_finds_71 rfl ?_
                refine gf_X12_213 (pc := 72) rfl dX12_finds_72 (by (try dsimp only); (repeat (first | rw [up_s] | rw [up_n (by omega)])) <;> first | rfl | assumption) ?_
                refine pf_X12_213 (pc := 75) rfl dX12_finds_75 (by (try dsimp only); (repeat (first | rw [up_s] | rw [up_n (by omega)])) <;> first | rfl | assumption) ?_
                first
                | exact absurd c_64 c_41
                | exact absurd c_41 c_64
                | exact next _ _ (by intro q a b c; (try dsimp only); rw [up_n (by omega), up_n (by omega)]; exact f13 q a b c) (by unfold pMO; rw [kb, kr, ← hl]; exact (by (try dsimp only); (repeat (first | rw [up_s] | rw [up_n (by omega)])) <;> first | rfl | assumption)) (r3.fr (by (try dsimp only); rw [up_n (by omega), up_n (by omega)])) ⟨fo, g3, k3, (by (try dsimp only); rw [up_n (by omega), up_n (by omega)]; exact (f3 _ (by omega) (by omega) (by omega)).trans d21), (by (try dsimp only); rw [up_n (by omega), up_n (by omega)]; exact y1), (by (try dsimp only); rw [up_n (by omega), up_n (by omega)]; exact y2)⟩ ⟨fo, (by (try dsimp only); rw [up_n (by omega), up_n (by omega)]; exact (f3 _ (by omega) (by omega) (by omega)).trans d21), d22⟩
              · (try simp (disch := omega) only [i32_lti, i32_lei, i32_eqi, nI_toInt, i32z] at c_64)
                refine ev_iload_n (pc := 67) dX12_finds_67 rfl ?_
                refine ev_goto (pc := 68) 75 dX12_finds_68 (by decide) ?_
                refine pf_X12_213 (pc := 75) rfl dX12_finds_75 (by (try dsimp only); (repeat (first | rw [up_s] | rw [up_n (by omega)])) <;> first | rfl | assumption) ?_
                first
                | exact absurd c_64 c_41
                | exact absurd c_41 c_64
                | exact next _ _ (by intro q a b c; (try dsimp only); rw [up_n (by omega), up_n (by omega)]; exact f13 q a b c) (by unfold pMO; rw [kb, kr, ← hl]; exact (by (try dsimp only); (repeat (first | rw [up_s] | rw [up_n (by omega)])) <;> first | rfl | assumption)) (r3.fr (by (try dsimp only); rw [up_n (by omega), up_n (by omega)])) ⟨fo, g3, k3, (by (try dsimp only); rw [up_n (by omega), up_n (by omega)]; exact (f3 _ (by omega) (by omega) (by omega)).trans d21), (by (try dsimp only); rw [up_n (by omega), up_n (by omega)]; exact y1), (by (try dsimp only); rw [up_n (by omega), up_n (by omega)]; exact y2)⟩ ⟨fo, (by (try dsimp only); rw [up_n (by omega), up_n (by omega)]; exact (f3 _ (by omega) (by omega) (by omega)).trans d21), d22⟩
      have o1' := o1
      unfold pMO at o1'
      have hh := lev_head (bT B) k hkn
      have hlp : 0 < (lev (bT B) k).length := by
        rcases Nat.eq_zero_or_pos (lev (bT B) k).length with q | q
        · rw [List.getElem?_eq_none (by omega)] at hh; cases hh
        · exact q
      obtain ⟨oa, ob, oc, q11, q12, q13⟩ := id q1
      refine ev_iload_n (pc := 12) dX12_finds_12 rfl ?_
      refine ev_aload_n (pc := 13) dX12_finds_13 rfl ?_
      refine gf_X12_137 (pc := 14) rfl dX12_finds_14 (by (try dsimp only); (repeat (first | rw [up_s] | rw [up_n (by omega)])) <;> first | rfl | assumption) ?_
      refine ev_icmp_gt (pc := 17) 92 dX12_finds_17 (by decide) (fun c_17 => ?_) (fun c_17 => ?_)
      · exfalso; (try simp (disch := omega) only [i32_lti, i32_lei, i32_eqi, nI_toInt, i32z] at c_17); omega
      · (try simp (disch := omega) only [i32_lti, i32_lei, i32_eqi, nI_toInt, i32z] at c_17)
        refine ev_aload_n (pc := 20) dX12_finds_20 rfl ?_
        refine ev_iload_n (pc := 21) dX12_finds_21 rfl ?_
        refine iv_X12_219 (pc := 22) rfl dX12_finds_22 (by (try dsimp only); (repeat (first | rw [up_s] | rw [up_n (by omega)])) <;> first | rfl | assumption) (Nat.le_of_ble_eq_true rfl) (Nat.le_of_ble_eq_true rfl) (Nat.le_of_ble_eq_true rfl) (Nat.le_of_ble_eq_true rfl) (c_mStarts (n := bT B) o1 h6 hkn ⟨oa, q11⟩) (ki (fun r S' hS => ?_))
        obtain ⟨h2, z'⟩ := S'
        obtain ⟨rfl, rfl, f2, o2, d2⟩ := hS
        refine ev_istore_n (pc := 25) (L' := [_, _, _, _]) dX12_finds_25 (Nat.le_of_ble_eq_true rfl) rfl ?_
        exact inner (lev (bT B) k).length 0 (rf (bT B) k []) h2 _ (by omega) hh (fun q a b c => (f2 q a (by omega)).trans (f1 q a b c)) (by rw [Nat.add_zero]; exact o2) (r1.fr (f2 _ (by omega) (by omega))) ⟨d2.choose, ob, oc, d2.choose_spec.1, (f2 _ (by omega) (by omega)).trans q12, (f2 _ (by omega) (by omega)).trans q13⟩ d2
  refine ev_aload_n (pc := 0) dX12_finds_0 rfl ?_
  refine ev_iconst (pc := 1) (v := (-1)) dX12_finds_1 kc_m1 ?_
  refine pf_X12_213 (pc := 2) rfl dX12_finds_2 (by (try dsimp only); (repeat (first | rw [up_s] | rw [up_n (by omega)])) <;> first | rfl | assumption) ?_
  refine ev_aload_n (pc := 5) dX12_finds_5 rfl ?_
  refine ev_iconst (pc := 6) (v := nI 0) dX12_finds_6 kc_0 ?_
  refine pf_X12_216 (pc := 7) rfl dX12_finds_7 (by (try dsimp only); (repeat (first | rw [up_s] | rw [up_n (by omega)])) <;> first | rfl | assumption) ?_
  refine ev_iconst (pc := 10) (v := nI 0) dX12_finds_10 kc_0 ?_
  refine ev_istore_n (pc := 11) (L' := [_, _, _, _]) dX12_finds_11 (Nat.le_of_ble_eq_true rfl) rfl ?_
  exact outer (bT B + 1) 0 _ _ _ mn (by omega) (by intro q a b c; (try dsimp only); rw [up_n (by omega), up_n (by omega)]) (by unfold pMO; exact (by (try dsimp only); (repeat (first | rw [up_s] | rw [up_n (by omega)])) <;> first | rfl | assumption)) (ro.fr (by (try dsimp only); rw [up_n (by omega), up_n (by omega)])) (oo.fr (fun q a b => by (try dsimp only); rw [up_n (by omega), up_n (by omega)]))
end MBEST
section MBEST2
variable {X : Cx} {h : Hp} {z m n mx : Nat} {cs : List Nat} {B : Bk} {N : Tl} {P : List Tl} {I J : Im} {wn op : List Nat} {tr : Int64}
theorem pM.fs {h' : Hp} (p : pM h m cs B N P I J wn op n tr) (e : mFs h h' m) (o : pMo h' m cs B N P n tr) (ro : mRo h' m) (oo : mOr h' m) : pM h' m cs B N P I J wn op n tr := p.sc e o ro oo
theorem c_M_best_bad {x : Int32} (hx : ¬ (x.toInt = 0 ∨ x.toInt = 1)) : Ct X 5 mt_X12_best [.ref m, .int x] (h, z) 0 0 (QP (.int (-1)) (h, z)) := by
  refine mk_X12_best (Nat.le_of_ble_eq_true rfl) (L := [.ref m, .int x]) rfl ?_
  refine ev_iload_n (pc := 0) dX12_best_0 rfl ?_
  refine ev_i2l (pc := 1) dX12_best_1 ?_
  refine ev_lconst (pc := 2) (v := 0) dX12_best_2 kl_0 ?_
  refine ev_lconst (pc := 3) (v := 1) dX12_best_3 kl_1 ?_
  refine iv_X12_63 (pc := 4) rfl dX12_best_4 (Nat.le_of_ble_eq_true rfl) (Nat.le_of_ble_eq_true rfl) (Nat.le_of_ble_eq_true rfl) (Nat.le_of_ble_eq_true rfl) (c_in _ _ _) (kp ?_)
  rw [in_f (x := x) (b := 1) (by omega) _ _ rfl rfl]
  refine ev_if_ne (pc := 7) 12 dX12_best_7 (by decide) (fun c_7 => ?_) (fun c_7 => ?_)
  · exact absurd rfl c_7
  · (try simp (disch := omega) only [i32_lti, i32_lei, i32_eqi, nI_toInt, i32z] at c_7)
    refine ev_iconst (pc := 10) (v := (-1)) dX12_best_10 kc_m1 ?_
    refine ev_iret (pc := 11) dX12_best_11 rfl rfl (Nat.le_of_ble_eq_true rfl) (Nat.le_of_ble_eq_true rfl) ?_
    exact ⟨rfl, rfl⟩
theorem c_M_best (p : pM h m cs B N P I J wn op n tr) (b9 : wB mx B) (hmx : mx ≤ 10) {x : Int32} (hx : x.toInt = 0 ∨ x.toInt = 1) : Ct X 5 mt_X12_best [.ref m, .int x] (h, z) 0 0 (Qi (fun r S' => r = aBest B x ∧ S'.2 = z ∧ hfr h S'.1 m 17 ∧ pM S'.1 m cs B N P I J wn op n tr)) := by
  obtain ⟨⟨at_, bg, tk, td, rt, rn, rm, rd, mn, bd, br, po⟩, px, pr, pb, pn, pq, pu, por, ph, pk⟩ := id p
  refine mk_X12_best (Nat.le_of_ble_eq_true rfl) (L := [.ref m, .int x]) rfl ?_
  refine ev_iload_n (pc := 0) dX12_best_0 rfl ?_
  refine ev_i2l (pc := 1) dX12_best_1 ?_
  refine ev_lconst (pc := 2) (v := 0) dX12_best_2 kl_0 ?_
  refine ev_lconst (pc := 3) (v := 1) dX12_best_3 kl_1 ?_
  refine iv_X12_63 (pc := 4) rfl dX12_best_4 (Nat.le_of_ble_eq_true rfl) (Nat.le_of_ble_eq_true rfl) (Nat.le_of_ble_eq_true rfl) (Nat.le_of_ble_eq_true rfl) (c_in _ _ _) (kp ?_)
  rw [show decide ((0 : Int64).toInt ≤ x.toInt64.toInt ∧ x.toInt64.toInt ≤ (1 : Int64).toInt) = true from decide_eq_true (by rw [Int32.toInt_toInt64]; show 0 ≤ x.toInt ∧ x.toInt ≤ 1; omega)]
  refine ev_if_ne (pc := 7) 12 dX12_best_7 (by decide) (fun c_7 => ?_) (fun c_7 => ?_)
  · (try simp (disch := omega) only [i32_lti, i32_lei, i32_eqi, nI_toInt, i32z] at c_7)
    refine ev_aload_n (pc := 12) dX12_best_12 rfl ?_
    refine iv_X12_228 (pc := 13) rfl dX12_best_13 (by (try dsimp only); (repeat (first | rw [up_s] | rw [up_n (by omega)])) <;> first | rfl | assumption) (Nat.le_of_ble_eq_true rfl) (Nat.le_of_ble_eq_true rfl) (Nat.le_of_ble_eq_true rfl) (Nat.le_of_ble_eq_true rfl) (c_mFinds po pb b9 hmx pq por) (kv (fun S' hS => ?_))
    obtain ⟨h1, z'⟩ := S'
    obtain ⟨rfl, f1, ⟨mn2, o1⟩, r1, q1⟩ := hS
    have o1' := o1
    unfold pMO at o1'
    refine ev_iload_n (pc := 16) dX12_best_16 rfl ?_
    refine ev_if_ne (pc := 17) 27 dX12_best_17 (by decide) (fun c_17 => ?_) (fun c_17 => ?_)
    · (try simp (disch := omega) only [i32_lti, i32_lei, i32_eqi, nI_toInt, i32z] at c_17)
      refine ev_aload_n (pc := 27) dX12_best_27 rfl ?_
      refine gf_X12_216 (pc := 28) rfl dX12_best_28 (by (try dsimp only); (repeat (first | rw [up_s] | rw [up_n (by omega)])) <;> first | rfl | assumption) ?_
      refine ev_iret (pc := 31) dX12_best_31 rfl rfl (Nat.le_of_ble_eq_true rfl) (Nat.le_of_ble_eq_true rfl) ?_
      exact ⟨_, rfl, by unfold aBest; first | rw [if_pos c_17] | rw [if_neg c_17], rfl, (fun q a => f1 q (by omega) (by omega) (by omega)), p.fs f1 ⟨at_, bg, tk, td, rt, rn, rm, rd, mn2, _, _, o1⟩ r1 q1⟩
    · (try simp (disch := omega) only [i32_lti, i32_lei, i32_eqi, nI_toInt, i32z] at c_17)
      refine ev_aload_n (pc := 20) dX12_best_20 rfl ?_
      refine gf_X12_213 (pc := 21) rfl dX12_best_21 (by (try dsimp only); (repeat (first | rw [up_s] | rw [up_n (by omega)])) <;> first | rfl | assumption) ?_
      refine ev_goto (pc := 24) 31 dX12_best_24 (by decide) ?_
      refine ev_iret (pc := 31) dX12_best_31 rfl rfl (Nat.le_of_ble_eq_true rfl) (Nat.le_of_ble_eq_true rfl) ?_
      exact ⟨_, rfl, by unfold aBest; first | rw [if_pos c_17] | rw [if_neg c_17], rfl, (fun q a => f1 q (by omega) (by omega) (by omega)), p.fs f1 ⟨at_, bg, tk, td, rt, rn, rm, rd, mn2, _, _, o1⟩ r1 q1⟩
  · exact absurd c_7 (by decide)
theorem mBk.long {h : Hp} {m mx : Nat} {B : Bk} (p : mBk h m B (nI 0)) (b9 : wB mx B) (h8 : (bH B).length = 8) : mBk h m (bLong B 8) (nI 1) := by
  obtain ⟨fp, fw, fh, p1, p2, p3, p4, p5⟩ := p
  refine ⟨fp, fw, fh, p1, p2, p3, p4, ?_⟩
  intro k hk
  have hk8 : k < 8 := Nat.lt_of_lt_of_le hk b9.2.2.1
  have e := p5 k hk
  have e2 : gN (bH (bLong B 8)) k = gN (bH B) k + 1 := by
    show gN ((bH B).mapIdx (fun i x => if i < 8 then x + 1 else x)) k = _
    simp only [gN, List.getD_eq_getElem?_getD, List.getElem?_mapIdx]
    rw [List.getElem?_eq_getElem (by omega)]
    simp [hk8]
  rw [e2, ← nI_add, ← e]
  show fh k + nI 1 = fh k + nI 0 + nI 1
  rw [show (nI 0 : Int32) = 0 from rfl, Int32.add_zero]
theorem c_M_longer (p : pM h m cs B N P I J wn op n tr) (b9 : wB mx B) (hmx : mx ≤ 9) (h8 : (bH B).length = 8) : Ct X 5 mt_X12_longer [.ref m] (h, z) 0 0 (Qi (fun r S' => r = nI (bestN (bLong B 8)) - nI (bestN B) ∧ S'.2 = z ∧ hfr h S'.1 m 17 ∧ pM S'.1 m cs B N P I J wn op n tr)) := by
  obtain ⟨⟨at_, bg, tk, td, rt, rn, rm, rd, mn, bd, br, po⟩, px, pr, pb, pn, pq, pu, por, ph, pk⟩ := id p
  refine mk_X12_longer (Nat.le_of_ble_eq_true rfl) (L := [.ref m, .retAddr 0]) rfl ?_
  refine ev_aload_n (pc := 0) dX12_longer_0 rfl ?_
  refine iv_X12_228 (pc := 1) rfl dX12_longer_1 (by (try dsimp only); (repeat (first | rw [up_s] | rw [up_n (by omega)])) <;> first | rfl | assumption) (Nat.le_of_ble_eq_true rfl) (Nat.le_of_ble_eq_true rfl) (Nat.le_of_ble_eq_true rfl) (Nat.le_of_ble_eq_true rfl) (c_mFinds po pb b9 (by omega) pq por) (kv (fun S' hS => ?_))
  obtain ⟨h1, z'⟩ := S'
  obtain ⟨rfl, f1, ⟨mn2, o1⟩, r1, q1⟩ := hS
  have o1' := o1
  unfold pMO at o1'
  refine ev_aload_n (pc := 4) dX12_longer_4 rfl ?_
  refine gf_X12_213 (pc := 5) rfl dX12_longer_5 (by (try dsimp only); (repeat (first | rw [up_s] | rw [up_n (by omega)])) <;> first | rfl | assumption) ?_
  refine ev_istore_n (pc := 8) (L' := [_, _]) dX12_longer_8 (Nat.le_of_ble_eq_true rfl) rfl ?_
  refine ev_aload_n (pc := 9) dX12_longer_9 rfl ?_
  refine ev_iconst (pc := 10) (v := nI 1) dX12_longer_10 kc_1 ?_
  refine pf_X12_161 (pc := 11) rfl dX12_longer_11 (by (try dsimp only); (repeat (first | rw [up_s] | rw [up_n (by omega)])) <;> first | rfl | assumption) ?_
  refine ev_aload_n (pc := 14) dX12_longer_14 rfl ?_
  refine iv_X12_228 (pc := 15) rfl dX12_longer_15 (by (try dsimp only); (repeat (first | rw [up_s] | rw [up_n (by omega)])) <;> first | rfl | assumption) (Nat.le_of_ble_eq_true rfl) (Nat.le_of_ble_eq_true rfl) (Nat.le_of_ble_eq_true rfl) (Nat.le_of_ble_eq_true rfl) (c_mFinds (B := bLong B 8) (lo := nI 1) (sz := nI cs.length) (at_ := at_) (bg := bg) (tk := tk) (td := td) (rt := rt) (rn := rn) (rm := rm) (rd := rd) (sa := nI (tS N)) (un := nI P.length) (mn := mn2) (bd := nI (bestN B)) (br := nI (cod (rW B (bestI B)))) (he := nI n) (tr := tr) (by unfold pMO; exact (by (try dsimp only); (repeat (first | rw [up_s] | rw [up_n (by omega)])) <;> first | rfl | assumption)) ((pb.long b9 h8).fr (fun q a b => by (try dsimp only); rw [up_n (by omega)]; exact f1 q (by omega) (by omega) (by omega))) b9.long (by omega) (r1.fr (by (try dsimp only); rw [up_n (by omega)])) (q1.fr (fun q a b => by (try dsimp only); rw [up_n (by omega)]))) (kv (fun S' hS => ?_))
  obtain ⟨h2, z'⟩ := S'
  obtain ⟨rfl, f2, ⟨mn3, o2⟩, r2, q2⟩ := hS
  have o2' : h2 m = _ := o2
  unfold pMO at o2
  refine ev_aload_n (pc := 18) dX12_longer_18 rfl ?_
  refine ev_iconst (pc := 19) (v := nI 0) dX12_longer_19 kc_0 ?_
  refine pf_X12_161 (pc := 20) rfl dX12_longer_20 (by (try dsimp only); (repeat (first | rw [up_s] | rw [up_n (by omega)])) <;> first | rfl | assumption) ?_
  refine ev_aload_n (pc := 23) dX12_longer_23 rfl ?_
  refine gf_X12_213 (pc := 24) rfl dX12_longer_24 (by (try dsimp only); (repeat (first | rw [up_s] | rw [up_n (by omega)])) <;> first | rfl | assumption) ?_
  refine ev_iload_n (pc := 27) dX12_longer_27 rfl ?_
  refine ev_isub (pc := 28) dX12_longer_28 ?_
  refine ev_iret (pc := 29) dX12_longer_29 rfl rfl (Nat.le_of_ble_eq_true rfl) (Nat.le_of_ble_eq_true rfl) ?_
  exact ⟨_, rfl, rfl, rfl, (by intro q a; (try dsimp only); rw [up_n (by omega)]; refine (f2 q (by omega) (by omega) (by omega)).trans ?_; (try dsimp only); rw [up_n (by omega)]; exact f1 q (by omega) (by omega) (by omega)), p.fs (by intro q a b c; (try dsimp only); rw [up_n (by omega)]; refine (f2 q a b c).trans ?_; (try dsimp only); rw [up_n (by omega)]; exact f1 q a b c) ⟨at_, bg, tk, td, rt, rn, rm, rd, mn3, _, _, (by unfold pMO; exact (by (try dsimp only); (repeat (first | rw [up_s] | rw [up_n (by omega)])) <;> first | rfl | assumption))⟩ (r2.fr (by (try dsimp only); rw [up_n (by omega)])) (q2.fr (fun q a b => by (try dsimp only); rw [up_n (by omega)]))⟩
end MBEST2
