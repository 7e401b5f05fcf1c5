/-! the law's loop: what is known, what is kept -/
def lawC (p : Program) (s : State) (m : MethodId) (meth : Method) (c : Code) (b L : Nat) (xs : Nat → Int32) (dC : Nat → ClassId) (dI : Nat → Nat → Nat) (aC : Nat → ClassId) : Prop :=
  p.tables.exec = Jvm.exec ∧ c.code = code ∧ meth.sig.returnType = ret ∧ c.maxLocals = 4 ∧ s.vm.findClass R_L = some m.cls ∧ (∀ w ∈ lw_tbl, w.before #[Value.ref b] s = true) ∧ va_X b L xs s s.heap ∧ b < s.heap.size ∧ meth.locks = false ∧ va_K (dC, dI) clsx (tysx aC) s ∧ XC s.heap.size s ∧ L ≤ 2560
def lawI (s : State) (b : Nat) (dC : Nat → ClassId) (dI : Nat → Nat → Nat) (aC : Nat → ClassId) (k : Nat) (mu nu : fm_T) (H : Heap) (locs : List Loc) (ls : Array Slot) : Prop :=
  va_P (dC, dI) clsx (fm_w (LC aC s.heap.size) s.heap.size 99 mu) H ∧ va_P (dC, dI) clsx (fm_w (LM aC (s.heap.size + 99)) (s.heap.size + 99) 11 nu) H ∧ va_S (fun q => s.heap.size ≤ q) s.heap H locs ∧ lv_has ls 4 [(0, .ref b), (1, .ref (s.heap.size + 0)), (2, .ref (s.heap.size + 99 + 0)), (3, .int (nI (5 * k)))]
theorem XC_law {s : State} {H : Heap} {locs : List Loc} (hX : XC s.heap.size s) (hS : va_S (fun q => s.heap.size ≤ q) s.heap H locs) (U : State) (hU : U.heap = H) (hW : s.WarmedH U.vm) : XC s.heap.size U :=
  XC_of hX hW.alike (fun w hw hZ => by
    rcases hw with ⟨_, _, _, _, rfl⟩ | ⟨_, _, _, _, _, _, rfl⟩
    · exact va_Nw.warmM hW hZ
    · exact va_Nw.warmF hW hZ) (fun q h1 _ => by rw [hU]; exact hS.2.1 q h1 (fun z => by omega))
/-- a region stays where another is written -/
theorem rg_keep {D : va_G} {cl : List vw_C} {L : fm_L} {b1 N1 : Nat} {mu : fm_T} {H H1 : Heap} {A1 : Nat → Prop} (hP : va_P D cl (fm_w L b1 N1 mu) H) (hk : ∀ q : Nat, q < H.size → ¬ A1 q → H1[q]? = H[q]?) (hA : ∀ j, j < N1 → ¬ A1 (b1 + j)) : va_P D cl (fm_w L b1 N1 mu) H1 :=
  hP.kept (fun k q hq => by
    have hlt := (hP k q hq).lt
    obtain ⟨h, rfl⟩ := fk_lt hq
    exact hk _ hlt (hA k h))
section LAW2
variable {p : Program} {l : Launch} {e : Env} {R : Room} {s : State} {m : MethodId} {args : Array Value} {below : List Frame} {meth : Method} {c : Code} {H : Heap} {locs : List Loc} {cells slots : Nat} {Q : State → Prop}
variable {cc : ByteArray} {pc : Nat} {ls : Array Slot} {rest : List Value} {A : Nat → Prop} {H0 : Heap}
theorem lw_ld (hexec : p.tables.exec = Jvm.exec) (hb : c.code = cc) {b L : Nat} {xs : Nat → Int32} (hX : va_X b L xs s H0) (hbl : b < H0.size) (hbA : ¬ A b) (hS : va_S A H0 H locs) (j : Nat) (hj : j < L) (hL : L ≤ 2560) (hdg : decode cc pc = .ok (.iaload, 1)) (kk : W p l e R s m args below meth c H locs cells slots Q (F0 m (pc + 1) ls (.int (xs j) :: rest))) : W p l e R s m args below meth c H locs cells slots Q (F0 m pc ls (.int (nI j) :: .ref b :: rest)) := by
  refine va_sld hexec hb hX hbl hbA hS (vp_in_nI hj (by omega)) hdg ?_
  rw [nI_clamp (by omega)]
  exact kk
end LAW2
section LAW3
variable {k : Nat} {mu nu : fm_T}
theorem rel_his (h : Rel k mu nu) (hk : k < 512) : ∀ j, j < 3 → vp_in (nu 7 j) 512 := fun j hj => by
  have q := (h.1.2.2.2.1 j hj).1
  have hI := n_I h.2.2.2 j
  rw [hI.1]
  exact vp_in_nI (by omega) (by decide)
theorem rel_now (h : Rel k mu nu) (hk : k < 512) : vp_in (nu 0 2) 512 := by
  have q := h.1.1
  have hT := n_T h.2.2.2
  rw [hT.1]
  exact vp_in_nI (by omega) (by decide)
theorem rel_rep (h : Rel k mu nu) : ∀ i, i < (nu 0 11).toNatClampNeg → ¬ nu 10 (5 * i + 1) = 1 → vp_in (nu 10 (5 * i + 4) + nu 10 (5 * i + 3)) 513 ∧ (nu 10 (5 * i + 4)).toNatClampNeg ≤ (nu 10 (5 * i + 4) + nu 10 (5 * i + 3)).toNatClampNeg := fun i hi h1 => by
  have hp := h.1.2.2.2.2 i hi
  have hM := h.2.2.2
  have vM := n_pM hM i
  have vO := n_pO hM i
  rcases hp with ⟨p0, p1, p2, p3, p4⟩ | ⟨p0, -⟩
  · have hI := (n_I hM (pC nu i)).2
    rw [vM.1, vO.1, nI_add, nI_clamp (by omega), nI_clamp (by omega)]
    exact ⟨vp_in_nI (by omega) (by decide), by omega⟩
  · exact absurd p0 h1
end LAW3
