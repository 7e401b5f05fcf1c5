/-! what holds at the law's entry -/
theorem gt_sub {w : Cond} (h : w ∈ gtbl) : w ∈ lw_tbl := (List.mem_filter.mp h).1
section LAW1
variable {s : State} {args : Array Value}
theorem ax_prim {ty : FieldType} (h : (Cond.arrayClass ty).before args s = true) : ∃ cA : ClassId, ArrOfT s cA ty ∧ s.vm.findClass ("[" ++ ty.toString) = some cA := by
  obtain ⟨c, k, comp, h1, h2, h3⟩ := Cond.arrayClass_spec h
  exact ⟨c, fun n z => ⟨fun q w => (by cases w), k, h2, comp, h3⟩, h1⟩
theorem ax_ref {C : String} (h : (Cond.arrayOver (.object C)).before args s = true) : ∃ cA : ClassId, ArrOfT s cA (.object C) ∧ va_RA s cA (.object C) := by
  obtain ⟨comp, c, k, h1, h2, h3, h4, h5⟩ := Cond.arrayOver_spec h
  exact ⟨c, fun n z => ⟨fun q w => (by cases w), k, h3, comp, h4⟩, k, comp, h3, h4, h1, h5⟩
theorem law_K (hts : ∀ w ∈ lw_tbl, w.before args s = true) : ∃ (dC : Nat → ClassId) (dI : Nat → Nat → Nat) (aC : Nat → ClassId), va_K (dC, dI) clsx (tysx aC) s := by
  have hg : ∀ w ∈ gtbl, w.before args s = true := fun w h => hts w (gt_sub h)
  obtain ⟨c0, i0, k0⟩ := u_known hg uw_D (hg _ is_D)
  obtain ⟨c1, i1, k1⟩ := u_known hg uw_F (hg _ is_F)
  obtain ⟨c2, i2, k2⟩ := u_known hg uw_N (hg _ is_N)
  obtain ⟨c3, i3, k3⟩ := u_known hg uw_P (hg _ is_P)
  obtain ⟨c4, i4, k4⟩ := u_known hg uw_C (hg _ is_C)
  obtain ⟨c5, i5, k5⟩ := u_known hg uw_A (hg _ is_A)
  obtain ⟨c6, i6, k6⟩ := u_known hg uw_M (hg _ is_M)
  obtain ⟨a0, x0, y0⟩ := ax_prim (hg _ ac_int)
  obtain ⟨a1, x1, y1⟩ := ax_prim (hg _ ac_boolean)
  obtain ⟨a2, x2, y2⟩ := ax_ref (hts _ ao_P)
  obtain ⟨a3, x3, y3⟩ := ax_ref (hts _ ao_C)
  obtain ⟨a4, x4, y4⟩ := ax_ref (hts _ ao_A)
  refine ⟨fun k => match k with | 0 => c0 | 1 => c1 | 2 => c2 | 3 => c3 | 4 => c4 | 5 => c5 | _ => c6, fun k => match k with | 0 => i0 | 1 => i1 | 2 => i2 | 3 => i3 | 4 => i4 | 5 => i5 | _ => i6, fun k => match k with | 0 => a0 | 1 => a1 | 2 => a2 | 3 => a3 | _ => a4, fun c q hq => ?_, fun k q hk => ?_⟩
  · match c, hq with
    | 0, hq => cases hq; exact k0
    | 1, hq => cases hq; exact k1
    | 2, hq => cases hq; exact k2
    | 3, hq => cases hq; exact k3
    | 4, hq => cases hq; exact k4
    | 5, hq => cases hq; exact k5
    | 6, hq => cases hq; exact k6
    | c + 7, hq => cases hq
  · match k, hk with
    | 0, hk => cases hk; exact ⟨x0, y0⟩
    | 1, hk => cases hk; exact ⟨x1, y1⟩
    | 2, hk => cases hk; exact ⟨x2, y2⟩
    | 3, hk => cases hk; exact ⟨x3, y3⟩
    | 4, hk => cases hk; exact ⟨x4, y4⟩
    | k + 5, hk => cases hk
theorem law_XI (hts : ∀ w ∈ lw_tbl, w.before args s = true) : XI s := ⟨⟨va_Nw.of rfl (hts _ nl_F_22), va_Nw.of rfl (hts _ nl_N_17)⟩, va_AO.of (hts _ ao_P), va_AO.of (hts _ ao_C), va_AO.of (hts _ ao_A)⟩
theorem law_XC (hts : ∀ w ∈ lw_tbl, w.before args s = true) (hgv : (Jvm.Cond.and given_1 narrow_1).before args s = true) : XC s.heap.size s := by
  have hs := flat_of_before _ hgv
  have hA : ∀ a : Nat, a < s.heap.size → ¬ fm_A s.heap.size 99 a := fun a h q => by have := q.1; omega
  obtain ⟨t1, e1, T1⟩ := va_Tof (args := args) (s := s) (tm := .static "DeltaPlayfield" "STEP_X" "[I") (ty := .int) (N := 5) (f := fun j => .int (sX j)) (A := fm_A s.heap.size 99) (by decide) (hs _ (by decide +kernel)) (va_eqt (z := 5) (hs _ (by decide +kernel))) (fun j hj => by
    match j, hj with
    | 0, _ => exact va_eqt (z := 1) (hs _ (by decide +kernel))
    | 1, _ => exact va_eqt (z := 0) (hs _ (by decide +kernel))
    | 2, _ => exact va_eqt (z := -1) (hs _ (by decide +kernel))
    | 3, _ => exact va_eqt (z := 0) (hs _ (by decide +kernel))
    | 4, _ => exact va_eqt (z := 0) (hs _ (by decide +kernel))) hA
  obtain ⟨t2, e2, T2⟩ := va_Tof (args := args) (s := s) (tm := .static "DeltaPlayfield" "STEP_Y" "[I") (ty := .int) (N := 5) (f := fun j => .int (sY j)) (A := fm_A s.heap.size 99) (by decide) (hs _ (by decide +kernel)) (va_eqt (z := 5) (hs _ (by decide +kernel))) (fun j hj => by
    match j, hj with
    | 0, _ => exact va_eqt (z := 0) (hs _ (by decide +kernel))
    | 1, _ => exact va_eqt (z := 1) (hs _ (by decide +kernel))
    | 2, _ => exact va_eqt (z := 0) (hs _ (by decide +kernel))
    | 3, _ => exact va_eqt (z := -1) (hs _ (by decide +kernel))
    | 4, _ => exact va_eqt (z := 0) (hs _ (by decide +kernel))) hA
  exact ⟨t1, t2, ⟨va_Zof (hts _ ls_STEP_X) (hts _ (gt_sub in_D)) e1 hA, T1⟩, ⟨va_Zof (hts _ ls_STEP_Y) (hts _ (gt_sub in_D)) e2 hA, T2⟩, va_Nw.of rfl (hts _ nl_F_30), va_Nw.of rfl (hts _ nl_F_33), va_Nw.of rfl (hts _ nl_F_22), va_Nw.of rfl (hts _ nl_F_26), va_Nw.of rfl (hts _ nl_A_82)⟩
end LAW1
