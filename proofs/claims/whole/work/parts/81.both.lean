/-! ===== the two together: pure ===== -/
def gQ (B : Bk) (k : Nat) (T : Tl) : Prop := gT B k T ∧ tH T ≤ 9
def gIm (B : Bk) (k : Nat) (I : Im) : Prop := match I with
  | none => True
  | some S => gQ B k S.1 ∧ ∀ T ∈ S.2, gQ B k T
def gC (B : Bk) (k : Nat) (N : Tl) (P : List Tl) (I J : Im) : Prop := wB 9 B ∧ gQ B k N ∧ (∀ T ∈ P, gQ B k T) ∧ gIm B k I ∧ gIm B k J
section GC
variable {B : Bk} {k : Nat} {N T : Tl} {P : List Tl} {I J : Im}
theorem gQ.up (g : gQ B k T) : gQ B (k + 1) T := ⟨⟨g.1.1, g.1.2.1, Nat.le_succ_of_le g.1.2.2.1, g.1.2.2.2⟩, g.2⟩
theorem gIm.up (g : gIm B k I) : gIm B (k + 1) I := by
  cases I with
  | none => exact trivial
  | some S => exact ⟨g.1.up, fun T hT => (g.2 T hT).up⟩
theorem gC.up (g : gC B k N P I J) : gC B (k + 1) N P I J := ⟨g.1, g.2.1.up, fun T hT => (g.2.2.1 T hT).up, g.2.2.2.1.up, g.2.2.2.2.up⟩
theorem remP_mem {x : Tl} (h : x ∈ remP P N) : x ∈ P ∨ x = N := by
  unfold remP at h
  rcases List.mem_append.mp h with q | q
  · left
    split at q
    · exact q
    · exact List.mem_of_mem_tail q
  · right; exact List.mem_singleton.mp q
theorem gC.rem {N' : Tl} (g : gC B k N P I J) (g' : gQ B (k + 1) N') : gC B (k + 1) N' (remP P N) I J := by
  refine ⟨g.1, g', ?_, g.2.2.2.1.up, g.2.2.2.2.up⟩
  intro T hT
  rcases remP_mem hT with q | q
  · exact (g.2.2.1 T q).up
  · rw [q]; exact g.2.1.up
theorem gC.undo (g : gC B k N P I J) : gC B (k + 1) (P.getLast?.getD N) P.dropLast I J := by
  refine ⟨g.1, ?_, fun T hT => (g.2.2.1 T (List.dropLast_subset _ hT)).up, g.2.2.2.1.up, g.2.2.2.2.up⟩
  cases e : P.getLast? with
  | none => exact g.2.1.up
  | some x => exact (g.2.2.1 x (List.mem_of_getLast? e)).up
theorem gC.keep0 (g : gC B k N P I J) : gC B (k + 1) N P (some (N, P)) J := ⟨g.1, g.2.1.up, fun T hT => (g.2.2.1 T hT).up, ⟨g.2.1.up, fun T hT => (g.2.2.1 T hT).up⟩, g.2.2.2.2.up⟩
theorem gC.keep1 (g : gC B k N P I J) : gC B (k + 1) N P I (some (N, P)) := ⟨g.1, g.2.1.up, fun T hT => (g.2.2.1 T hT).up, g.2.2.2.1.up, ⟨g.2.1.up, fun T hT => (g.2.2.1 T hT).up⟩⟩
theorem gC.back0 {N' : Tl} {P' : List Tl} (g : gC B k N P (some (N', P')) J) : gC B (k + 1) N' P' (some (N', P')) J := ⟨g.1, g.2.2.2.1.1.up, fun T hT => (g.2.2.2.1.2 T hT).up, ⟨g.2.2.2.1.1.up, fun T hT => (g.2.2.2.1.2 T hT).up⟩, g.2.2.2.2.up⟩
theorem gC.back1 {N' : Tl} {P' : List Tl} (g : gC B k N P I (some (N', P'))) : gC B (k + 1) N' P' I (some (N', P')) := ⟨g.1, g.2.2.2.2.1.up, fun T hT => (g.2.2.2.2.2 T hT).up, g.2.2.2.1.up, ⟨g.2.2.2.2.1.up, fun T hT => (g.2.2.2.2.2 T hT).up⟩⟩
theorem gQ.start (b : wB 9 B) (m : Nat) : gQ B m (startT B) := ⟨⟨wT.start b (by omega), wF.start b, Nat.zero_le _, fun t ht => by have q : (0 : Nat).testBit t = true := ht; rw [Nat.zero_testBit] at q; cases q⟩, b.ho 0⟩
theorem gC.new (b : wB 9 B) (m : Nat) : gC B m (startT B) [] none none := ⟨b, gQ.start b m, fun T hT => (nomatch hT), trivial, trivial⟩
theorem gQ.beg {t : Nat} (g : gQ B k T) (h6 : bT B ≤ 6) (ht : t < bT B) (hn : mayN B T t = true) : gQ B (k + 1) (tBeg T t) := by
  obtain ⟨⟨g1, g2, g3, g4⟩, g5⟩ := g
  obtain ⟨-, -, u3, -, -⟩ := mayN_t hn
  refine ⟨⟨g1.beg (by omega) u3, g2.beg, Nat.le_succ_of_le g3, ?_⟩, by show tH T - 1 ≤ 9; omega⟩
  intro x hx
  have q : (tB T ||| (1 <<< t)).testBit x = true := hx
  rw [Nat.testBit_or, Nat.one_shiftLeft, Nat.testBit_two_pow, Bool.or_eq_true] at q
  rcases q with q | q
  · exact g4 x q
  · have := of_decide_eq_true q; omega
theorem gQ.tl (g : gQ B k T) : gQ B (k + 1) (tlT T) := by
  cases e : (tO T).getLast? with
  | none => have : tlT T = T := by unfold tlT; rw [e]
            rw [this]; exact g.up
  | some t =>
    have et : tlT T = tPart T t 1 := by unfold tlT; rw [e]
    rw [et]
    obtain ⟨⟨g1, g2, g3, g4⟩, g5⟩ := g
    obtain ⟨l, hl⟩ := lastL e
    exact ⟨⟨g1.tail hl 1, g2.part (g1.2.1 t (g1.mem e)).2.1, Nat.le_succ_of_le g3, g4⟩, by show tH T - 1 ≤ 9; omega⟩
theorem gQ.si (g : gQ B k T) : gQ B (k + 1) (siT T) := by
  obtain ⟨⟨g1, g2, g3, g4⟩, g5⟩ := g
  obtain ⟨w1, w2, w3, w4, w5, w6, w7, w8, w9, w10⟩ := g1
  exact ⟨⟨⟨w1, w2, w3, w4, w5, by show tH T - 1 < 100; omega, w7, w8, w9, w10⟩, g2, Nat.le_succ_of_le g3, g4⟩, by show tH T - 1 ≤ 9; omega⟩
theorem gQ.dawn (b : wB 9 B) (hk : k ≤ 64) (g : gQ B k T) : gQ B (k + 1) (dawnT B T) := by
  obtain ⟨⟨g1, g2, g3, g4⟩, g5⟩ := g
  have hN := dawnT_N B T
  refine ⟨⟨g1.dawn b (by omega) (by omega), g2.dawn, by omega, ?_⟩, dawnT_H b g5⟩
  intro x hx
  have e : tB (dawnT B T) = tB T := by unfold dawnT; split <;> rfl
  rw [e] at hx
  exact g4 x hx
end GC
def lSt (h : Hp) (d m k : Nat) : Prop := ∃ (cs : List Nat) (B : Bk) (N : Tl) (P : List Tl) (I J : Im) (wn op : List Nat) (n : Nat) (tr : Int64), pC h d cs B N P I J wn op n tr ∧ pM h m cs B N P I J wn op n tr ∧ gC B k N P I J
theorem lgc_self (x : Int64) : lg_cmp x x = 0 := by
  unfold lg_cmp
  rw [if_neg (by simp [Int64.lt_irrefl]), if_pos rfl]
theorem pM.obj {h : Hp} {m n : Nat} {cs : List Nat} {B : Bk} {N : Tl} {P : List Tl} {I J : Im} {wn op : List Nat} {tr : Int64} (p : pM h m cs B N P I J wn op n tr) : ∃ fs : List Value, h m = some (.inl (12, fs)) := by
  obtain ⟨⟨at_, bg, tk, td, rt, rn, rm, rd, mn, bd, br, po⟩, -⟩ := p
  exact ⟨_, po⟩
theorem pC.obj {h : Hp} {d n : Nat} {cs : List Nat} {B : Bk} {N : Tl} {P : List Tl} {I J : Im} {wn op : List Nat} {tr : Int64} (p : pC h d cs B N P I J wn op n tr) : ∃ fs : List Value, h d = some (.inl (11, fs)) := ⟨_, p.1⟩
abbrev mi_L_law (nm : String) (D k n : Nat) : Mi := ("DawnTalesLaw", cL_law, 4, nm, some .boolean, D, k, n)
def QL : Option Value → Hs → Prop := fun r _ => r = some (.int 1)
