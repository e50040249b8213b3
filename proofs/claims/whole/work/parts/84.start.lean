/-! ===== the start: what the tables say ===== -/
section START
theorem am_arr {s : State} {args : Array Value} {ty : FieldType} (hne : ∀ C, ty ≠ .object C) (h : (Cond.arrayClass ty).before args s = true) : ∃ cA : ClassId, ArrOfT s cA ty ∧ va_RA s cA ty := by
  obtain ⟨cA, kA, comp, h1, h2, h3⟩ := Cond.arrayClass_spec h
  refine ⟨cA, fun n z => ⟨fun k h => (by cases h), kA, h2, comp, h3⟩, ?_⟩
  cases ty with
  | object C => exact absurd rfl (hne C)
  | _ => exact h1
theorem am_arrO {s : State} {args : Array Value} {C : String} (h : (Cond.arrayOver (.object C)).before args s = true) : ∃ cA : ClassId, ArrOfT s cA (.object C) ∧ va_RA s cA (.object C) := by
  obtain ⟨comp, cA, kA, f1, -, f2, f3, f4⟩ := Cond.arrayOver_spec h
  exact ⟨cA, fun n z => ⟨fun k h => (by cases h), kA, f2, comp, f3⟩, kA, comp, f2, f3, f1, f4⟩
theorem am_start {s : State} {args : Array Value} (hts : ∀ w ∈ lw_tbl, w.before args s = true) (X0 : Launch) (lo b L : Nat) (xs : Nat → Int32) : ∃ (D : va_G) (cA : Nat → ClassId), am_K (X0, D, cA, lo, b, L, xs) s := by
  have htT : ∀ w ∈ am_T, w.before args s = true := fun w hw => hts w (am_in hw).1
  have H : ∀ c : Nat, ∃ (cC : ClassId) (iS : Nat → Nat), ∀ q : vw_C, am_cls[c]? = some q → u_Kn s q.1 q.2.1 q.2.2 cC iS := by
    intro c
    match c with
    | 0 =>
      obtain ⟨cC, iS, hk⟩ := u_known (C := RX0) (T := TX0) (N := 7) (n := 7) htT inT0 (htT _ tw_55)
      exact ⟨cC, iS, fun q hq => by cases hq; exact hk⟩
    | 1 =>
      obtain ⟨cC, iS, hk⟩ := u_known (C := RX1) (T := TX1) (N := 1) (n := 1) htT inT1 (htT _ tw_254)
      exact ⟨cC, iS, fun q hq => by cases hq; exact hk⟩
    | 2 =>
      obtain ⟨cC, iS, hk⟩ := u_known (C := RX2) (T := TX2) (N := 1) (n := 1) htT inT2 (htT _ tw_278)
      exact ⟨cC, iS, fun q hq => by cases hq; exact hk⟩
    | 3 =>
      obtain ⟨cC, iS, hk⟩ := u_known (C := RX3) (T := TX3) (N := 1) (n := 1) htT inT3 (htT _ tw_286)
      exact ⟨cC, iS, fun q hq => by cases hq; exact hk⟩
    | 4 =>
      obtain ⟨cC, iS, hk⟩ := u_known (C := RX4) (T := TX4) (N := 1) (n := 1) htT inT4 (htT _ tw_262)
      exact ⟨cC, iS, fun q hq => by cases hq; exact hk⟩
    | 5 =>
      obtain ⟨cC, iS, hk⟩ := u_known (C := RX5) (T := TX5) (N := 14) (n := 14) htT inT5 (htT _ tw_174)
      exact ⟨cC, iS, fun q hq => by cases hq; exact hk⟩
    | 6 =>
      obtain ⟨cC, iS, hk⟩ := u_known (C := RX6) (T := TX6) (N := 3) (n := 3) htT inT6 (htT _ tw_108)
      exact ⟨cC, iS, fun q hq => by cases hq; exact hk⟩
    | 7 =>
      obtain ⟨cC, iS, hk⟩ := u_known (C := RX7) (T := TX7) (N := 1) (n := 1) htT inT7 (htT _ tw_233)
      exact ⟨cC, iS, fun q hq => by cases hq; exact hk⟩
    | 8 =>
      obtain ⟨cC, iS, hk⟩ := u_known (C := RX8) (T := TX8) (N := 10) (n := 10) htT inT8 (htT _ tw_114)
      exact ⟨cC, iS, fun q hq => by cases hq; exact hk⟩
    | 9 =>
      obtain ⟨cC, iS, hk⟩ := u_known (C := RX9) (T := TX9) (N := 6) (n := 6) htT inT9 (htT _ tw_27)
      exact ⟨cC, iS, fun q hq => by cases hq; exact hk⟩
    | 10 =>
      obtain ⟨cC, iS, hk⟩ := u_known (C := RX10) (T := TX10) (N := 1) (n := 1) htT inT10 (htT _ tw_270)
      exact ⟨cC, iS, fun q hq => by cases hq; exact hk⟩
    | 11 =>
      obtain ⟨cC, iS, hk⟩ := u_known (C := RX11) (T := TX11) (N := 11) (n := 11) htT inT11 (htT _ tw_19)
      exact ⟨cC, iS, fun q hq => by cases hq; exact hk⟩
    | 12 =>
      obtain ⟨cC, iS, hk⟩ := u_known (C := RX12) (T := TX12) (N := 37) (n := 37) htT inT12 (htT _ tw_831)
      exact ⟨cC, iS, fun q hq => by cases hq; exact hk⟩
    | c + 13 => exact ⟨default, fun _ => 0, fun q hq => by simp [am_cls] at hq⟩
  have A : ∀ t : Nat, ∃ cA : ClassId, t < 7 → ArrOfT s cA (am_ty t) ∧ va_RA s cA (am_ty t) := by
    intro t
    match t with
    | 0 => obtain ⟨cA, h⟩ := am_arr (ty := .int) (fun C q => by cases q) (htT _ tw_53); exact ⟨cA, fun _ => h⟩
    | 1 => obtain ⟨cA, h⟩ := am_arr (ty := .byte) (fun C q => by cases q) (htT _ tw_228); exact ⟨cA, fun _ => h⟩
    | 2 => obtain ⟨cA, h⟩ := am_arr (ty := .boolean) (fun C q => by cases q) (htT _ tw_230); exact ⟨cA, fun _ => h⟩
    | 3 => obtain ⟨cA, h⟩ := am_arr (ty := .long) (fun C q => by cases q) (htT _ tw_229); exact ⟨cA, fun _ => h⟩
    | 4 => obtain ⟨cA, h⟩ := am_arrO (C := RX8) (hts _ tw_159); exact ⟨cA, fun _ => h⟩
    | 5 => obtain ⟨cA, h⟩ := am_arrO (C := RX6) (hts _ tw_172); exact ⟨cA, fun _ => h⟩
    | 6 => obtain ⟨cA, h⟩ := am_arrO (C := RX7) (hts _ tw_232); exact ⟨cA, fun _ => h⟩
    | t + 7 => exact ⟨default, fun h => absurd h (by omega)⟩
  refine ⟨(fun c => Classical.choose (H c), fun c => Classical.choose (Classical.choose_spec (H c))), fun t => Classical.choose (A t), ⟨fun c q hq => Classical.choose_spec (Classical.choose_spec (H c)) q hq, ?_⟩, ?_, ?_, ?_⟩
  · intro k q hq
    match k, hq with
    | 0, hq => cases hq; exact Classical.choose_spec (A 0) (by omega)
    | 1, hq => cases hq; exact Classical.choose_spec (A 1) (by omega)
    | 2, hq => cases hq; exact Classical.choose_spec (A 2) (by omega)
    | 3, hq => cases hq; exact Classical.choose_spec (A 3) (by omega)
    | 4, hq => cases hq; exact Classical.choose_spec (A 4) (by omega)
    | 5, hq => cases hq; exact Classical.choose_spec (A 5) (by omega)
    | 6, hq => cases hq; exact Classical.choose_spec (A 6) (by omega)
    | k + 7, hq => simp [am_tys] at hq
  · intro q hq
    simp only [am_nest, List.mem_cons, List.not_mem_nil, or_false] at hq
    rcases hq with rfl | rfl | rfl | rfl | rfl | rfl | rfl | rfl | rfl | rfl | rfl | rfl | rfl | rfl | rfl
    · exact va_Nw.of rfl (hts _ tw_28)
    · exact va_Nw.of rfl (hts _ tw_115)
    · exact va_Nw.of rfl (hts _ tw_175)
    · exact va_Nw.of rfl (hts _ tw_180)
    · exact va_Nw.of rfl (hts _ tw_234)
    · exact va_Nw.of rfl (hts _ tw_255)
    · exact va_Nw.of rfl (hts _ tw_258)
    · exact va_Nw.of rfl (hts _ tw_263)
    · exact va_Nw.of rfl (hts _ tw_266)
    · exact va_Nw.of rfl (hts _ tw_271)
    · exact va_Nw.of rfl (hts _ tw_274)
    · exact va_Nw.of rfl (hts _ tw_279)
    · exact va_Nw.of rfl (hts _ tw_282)
    · exact va_Nw.of rfl (hts _ tw_287)
    · exact va_Nw.of rfl (hts _ tw_290)
  · intro q hq
    simp only [am_cast, List.mem_cons, List.not_mem_nil, or_false] at hq
    rcases hq with rfl | rfl | rfl | rfl | rfl
    · exact va_Nw.of rfl (hts _ tw_1195)
    · exact va_Nw.of rfl (hts _ tw_1196)
    · exact va_Nw.of rfl (hts _ tw_1197)
    · exact va_Nw.of rfl (hts _ tw_1198)
    · exact va_Nw.of rfl (hts _ tw_1199)
  · intro C hC
    simp only [am_over, List.mem_cons, List.not_mem_nil, or_false] at hC
    rcases hC with rfl | rfl | rfl
    · exact va_AO.of (hts _ tw_159)
    · exact va_AO.of (hts _ tw_172)
    · exact va_AO.of (hts _ tw_232)
end START
