/-! rows for constructors: a new cell comes at the end of the heap, whose size the count of the new cells tells -/
def kA (h0 sz : Nat) : Nat → Prop := fun q => q = h0 ∨ sz ≤ q
theorem kA_m {a : Nat} {e : va_E} {k : Nat} {q : Nat × va_E} (h : ([(a, e)] : va_W)[k]? = some q) : q = (a, e) := by
  have hz : k < 1 := (List.getElem?_eq_some_iff.mp h).1
  rw [show k = 0 by omega] at h
  cases h
  rfl
theorem kA_o {A : Nat → Prop} {a : Nat} {e : va_E} (h : A a) : va_D A [(a, e)] := by
  refine ⟨fun i j p q hp hq _ => ?_, fun k q hq => ?_⟩
  · have h1 : i < 1 := (List.getElem?_eq_some_iff.mp hp).1
    have h2 : j < 1 := (List.getElem?_eq_some_iff.mp hq).1
    omega
  · rw [kA_m hq]
    exact h
theorem kA_1 {h0 sz : Nat} {e : va_E} : va_D (kA h0 sz) [(h0, e)] := kA_o (Or.inl rfl)
theorem fill_up (v : Nat → Int32) (z : Int32) (j : Nat) : upd (fun i => if i < j then v i else z) j (v j) = fun i => if i < j + 1 then v i else z := by
  funext i
  unfold upd
  by_cases h : i = j
  · subst h
    rw [if_pos rfl, if_pos (Nat.lt_succ_self _)]
  · rw [if_neg h]
    show (if i < j then v i else z) = _
    by_cases h2 : i < j
    · rw [if_pos h2, if_pos (by omega)]
    · rw [if_neg h2, if_neg (by omega)]
section KI
variable {p : Program} {l : Launch} {e : Env} {R : Room} {s : State} {m : MethodId} {args : Array Value} {below : List Frame} {meth : Method} {c : Code} {H : Heap} {locs : List Loc} {cells slots : Nat} {Q : State → Prop}
variable {cc : ByteArray} {pc : Nat} {ls : Array Slot} {rest : List Value} {D : va_G} {cl : List vw_C} {A : Nat → Prop} {tys : List (ClassId × FieldType)} {ws : va_W} {H0 : Heap}
theorem ki_sz {g : JFrame} (k : H.size ≤ s.heap.size + cells → W p l e R s m args below meth c H locs cells slots Q g) : W p l e R s m args below meth c H locs cells slots Q g :=
  fun T hT X => k (by rw [← hT]; exact X.same.2.2.1) T hT X
theorem ki_newa (hexec : p.tables.exec = Jvm.exec) (hb : c.code = cc) {atype : ArrayType} (harr : (Cond.arrayClass (newarray.typeOf atype)).before args s = true) {cA : ClassId} (hf : s.vm.findClass ("[" ++ (newarray.typeOf atype).toString) = some cA) (hP : va_P D cl ws H) (hD : va_D A ws) (hS : va_S A H0 H locs) {h : Nat} (hlo : h ≤ H.size) (hcnt : s.heap.size + cells = h) (hAh : A h)
    {n : Int32} {N' : Nat} {a0 : vp_A} (ha : vp_cell cA a0 = arrV cA N' (fun _ => defaultValue (newarray.typeOf atype))) (hn : ¬ n < 0) (hN : n.toNatClampNeg = N') (hbytes : N' * componentBytes (newarray.typeOf atype) ≤ 536870912) (hcells : cells + 1 ≤ R.cells) (hslots : slots + N' ≤ R.slots) (hdg : decode cc pc = .ok (.newarray atype, 2))
    (kk : ∀ H1 : Heap, va_P D cl (ws ++ [(h, .inl (cA, a0))]) H1 → va_D A (ws ++ [(h, .inl (cA, a0))]) → va_S A H0 H1 locs → W p l e R s m args below meth c H1 locs (cells + 1) (slots + N') Q (F0 m (pc + 2) ls (.ref h :: rest))) : W p l e R s m args below meth c H locs cells slots Q (F0 m pc ls (.int n :: rest)) := by
  refine ki_sz (fun hup => ?_)
  have hh : H.size = h := by omega
  refine va_newaK hexec hb harr rfl hdg rfl hn hN hbytes hcells hslots hh (fun H1 cA' e1 z1 o1 hAr hNm => ?_)
  cases hf.symm.trans hNm
  have hk : ∀ (k : Nat) (x : Nat × va_E), ws[k]? = some x → H1[x.1]? = H[x.1]? := fun k x hx => o1 x.1 (by have := (hP k x hx).lt; omega)
  have hz : H0.size ≤ h := by have := hS.1; omega
  refine kk H1 ((hP.kept hk).app (fun k x hx => ?_)) (hD.push hP hh.symm hAh) ⟨by omega, fun x h1 h2 => (o1 x (by omega)).trans (hS.2.1 x h1 h2), hS.2.2⟩
  have hz : k < 1 := (List.getElem?_eq_some_iff.mp hx).1
  rw [show k = 0 by omega] at hx
  cases hx
  show H1[h]? = some (vp_cell cA a0)
  rw [ha]
  exact e1
theorem ki_anew (hexec : p.tables.exec = Jvm.exec) (hb : c.code = cc) {own C : String} {index : Nat} (hown : s.vm.findClass own = some m.cls) (hclink : (Cond.classLink own index C).before args s = true) (hover : (Cond.arrayOver (.object C)).before args s = true) {cA : ClassId} (hf : s.vm.findClass ("[" ++ (FieldType.object C).toString) = some cA) (hP : va_P D cl ws H) (hD : va_D A ws) (hS : va_S A H0 H locs) {h : Nat} (hlo : h ≤ H.size) (hcnt : s.heap.size + cells = h) (hAh : A h)
    {n : Int32} {N' : Nat} (hn : ¬ n < 0) (hN : n.toNatClampNeg = N') (hbytes : N' * 4 ≤ 536870912) (hcells : cells + 1 ≤ R.cells) (hslots : slots + N' ≤ R.slots) (hdg : decode cc pc = .ok (.anewarray index, 3))
    (kk : ∀ H1 : Heap, va_P D cl (ws ++ [(h, .inl (cA, N', .inr (.inr (.inr (.inr (fun _ => none))))))]) H1 → va_D A (ws ++ [(h, .inl (cA, N', .inr (.inr (.inr (.inr (fun _ => none))))))]) → va_S A H0 H1 locs → W p l e R s m args below meth c H1 locs (cells + 1) (slots + N') Q (F0 m (pc + 3) ls (.ref h :: rest))) : W p l e R s m args below meth c H locs cells slots Q (F0 m pc ls (.int n :: rest)) := by
  refine ki_sz (fun hup => ?_)
  have hh : H.size = h := by omega
  subst hN
  refine W.anew hexec hb hown hclink hover rfl hdg rfl hn hbytes hcells hslots (fun cA' kA comp f1 f2 f3 f4 => ?_)
  cases hf.symm.trans f1
  generalize hH1 : H.push ({ cls := cA, slots := Array.replicate n.toNatClampNeg .null, vm := .none } : Cell) = H1
  have z1 : H1.size = H.size + 1 := by rw [← hH1, Array.size_push]
  have e1 : H1[H.size]? = some (arrV cA n.toNatClampNeg (fun _ => .null)) := by rw [← hH1, Array.getElem?_push_size, ← arrV_new]
  have o1 : ∀ q : Nat, q < H.size → H1[q]? = H[q]? := fun q hq => by rw [← hH1, Array.getElem?_push, if_neg (Nat.ne_of_lt hq)]
  have hk : ∀ (k : Nat) (x : Nat × va_E), ws[k]? = some x → H1[x.1]? = H[x.1]? := fun k x hx => o1 x.1 ((hP k x hx).lt)
  have hz : H0.size ≤ H.size := hS.1
  rw [hh]
  refine kk H1 ((hP.kept hk).app (fun k x hx => ?_)) (hD.push hP hh.symm hAh) ⟨by omega, fun x h1 h2 => (o1 x (by omega)).trans (hS.2.1 x h1 h2), hS.2.2⟩
  have hz : k < 1 := (List.getElem?_eq_some_iff.mp hx).1
  rw [show k = 0 by omega] at hx
  cases hx
  show H1[h]? = some (vp_cell _ _)
  rw [vp_cell_q, ← hh]
  exact e1
theorem ki_new (hexec : p.tables.exec = Jvm.exec) (hb : c.code = cc) {own C : String} {T : u_T} {N ci index : Nat} {Ts : List Cond} (hts : ∀ w ∈ Ts, w.before args s = true) (hin : ∀ w ∈ u_ws C T N, w ∈ Ts) (ty : Nat → FieldType) (hty : ∀ k, k < N → parseFieldDescriptor (T k).2.2.1 = some (ty k)) (hown : s.vm.findClass own = some m.cls) (hcl : (Cond.classLink own index C).before args s = true) (hinst : (Cond.instantiable C N).before args s = true) (hini : (Cond.initialized C).before args s = true)
    (hK : va_K D cl tys s) (hS : va_S A H0 H locs) {h : Nat} (hlo : h ≤ H.size) (hcnt : s.heap.size + cells = h) (hc : cl[ci]? = some (C, T, N)) {fs : List Value} (hfs : ∀ j, j < N → defaultValue (ty j) = vp_V fs j) (hcells : cells + 1 ≤ R.cells) (hslots : slots + N ≤ R.slots) (hdg : decode cc pc = .ok (.new index, 3))
    (kk : ∀ H1 : Heap, va_P D cl [(h, .inr (ci, fs))] H1 → (∀ q : Nat, q < h → H1[q]? = H[q]?) → H1.size = h + 1 → va_S A H0 H1 locs → W p l e R s m args below meth c H1 locs (cells + 1) (slots + N) Q (F0 m (pc + 3) ls (.ref h :: rest))) : W p l e R s m args below meth c H locs cells slots Q (F0 m pc ls rest) := by
  refine ki_sz (fun hup => ?_)
  have hh : H.size = h := by omega
  have hKn := hK.1 ci _ hc
  refine W.newcK hexec hb hown hcl hinst hini rfl hdg hcells hslots hKn.2.1 hh (fun H1 kC hkC e1 z1 o1 => ?_)
  have hz : H0.size ≤ h := by have := hS.1; omega
  refine kk H1 (fun k x hx => ?_) o1 z1 ⟨by omega, fun x h1 h2 => (o1 x (by omega)).trans (hS.2.1 x h1 h2), hS.2.2⟩
  have hz : k < 1 := (List.getElem?_eq_some_iff.mp hx).1
  rw [show k = 0 by omega] at hx
  cases hx
  exact ⟨_, hc, (u_born ty hts hin hKn hkC e1 hty).to hfs⟩
end KI
theorem va_P_one {D : va_G} {cl : List vw_C} {q : Nat × va_E} {H : Heap} (h : va_at D cl q H) : va_P D cl [q] H := by
  intro k x hx
  have hz : k < 1 := (List.getElem?_eq_some_iff.mp hx).1
  rw [show k = 0 by omega] at hx
  cases hx
  exact h
/-- links of nest mates that the constructors use -/
def XI (U : State) : Prop := (va_Nw (.methodLinkNest R_F 22 y_D_placeOf R_D) U ∧ va_Nw (.methodLinkNest R_N 17 y_P_init R_D) U) ∧ va_AO R_P U ∧ va_AO R_C U ∧ va_AO R_A U
theorem XI_bl (U : State) (g : JFrame) (mk : MethodId) (a : Array Value) (h : XI U) : XI (U.calling g mk a) := ⟨⟨va_Nw.same rfl rfl h.1.1, va_Nw.same rfl rfl h.1.2⟩, va_AO.moved (u := U) (Vm.Alike.refl U.vm) h.2.1, va_AO.moved (u := U) (Vm.Alike.refl U.vm) h.2.2.1, va_AO.moved (u := U) (Vm.Alike.refl U.vm) h.2.2.2⟩
theorem XI_mv {s U : State} (h : XI s) (hW : s.WarmedH U.vm) : XI U := ⟨⟨va_Nw.warmM hW h.1.1, va_Nw.warmM hW h.1.2⟩, va_AO.moved hW.alike h.2.1, va_AO.moved hW.alike h.2.2.1, va_AO.moved hW.alike h.2.2.2⟩
/-- a constructor's start looks at the heap and the tables alone -/
theorem ci_bl {av : List Value} {D : va_G} {tys : List (ClassId × FieldType)} {ws : va_W} {sz : Nat} : FrameBlind (va_Pc av (fun U => U.heap.size = sz ∧ va_P D clsx ws U.heap ∧ va_K D clsx tys U ∧ XI U)) :=
  fun a U g mk q => ⟨q.1, q.2.1, q.2.2.1, va_K.moved (u := U) (U := U.calling g mk a) (Vm.Alike.refl U.vm) q.2.2.2.1, XI_bl U g mk a q.2.2.2.2⟩
set_option maxHeartbeats 4000000 in
set_option maxRecDepth 100000 in
/-- placeOf, asked where no world stands yet -/
theorem c0_D_placeOf (l : Launch) (px py : Int32) : Met l y_D_placeOf w_D_placeOf { frames := 0, cells := 0, slots := 0, locals := 0 } (va_Pc [.int px, .int py] (fun _ => True)) (QcRead (f_D_placeOf px py)) 0 0 (fun _ => False) := by
  refine Met.ofW (cc := b_D_placeOf) (maxL := 2) (ret := (some .int)) (by decide) rfl ?_
  intro p e s m args below meth cd s₁ B hml hv
  obtain ⟨rfl, -⟩ := hv
  have hx := B.exec
  have hb := B.bytes
  have hl := lv_entry ([.int px, .int py]) (n := 2) (Nat.le_of_ble_eq_true rfl)
  rw [lg_entry_eq]
  generalize (lg_sl ([.int px, .int py]) ++ List.replicate (2 - (lg_sl ([.int px, .int py])).length) Slot.unset).toArray = ls at hl ⊢
  have hl : lv_has ls 2 [(0, .int px), (1, .int py)] := hl
  refine lv_iload_n hx hb d_D_placeOf_0 rfl (lv_at hl 0 rfl) ?_
  refine lv_bipush (v := 16) hx hb d_D_placeOf_1 (by decide) ?_
  refine lv_iload_n hx hb d_D_placeOf_3 rfl (lv_at hl 1 rfl) ?_
  refine lv_imul hx hb d_D_placeOf_4 ?_
  refine lv_iadd hx hb d_D_placeOf_5 ?_
  exact ro_iret hx hb B.returns B.notSynchronized (e_D_placeOf px py) d_D_placeOf_6
