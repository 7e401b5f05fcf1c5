/-! flat memory: a system's cells lie side by side from b on, N of them; what they hold is a table of ints, mu cell slot, and the layout L says what a cell is, given its row of the table. So a contract speaks of the table alone, and no list of cells is ever written down. -/
abbrev fm_T : Type := Nat → Nat → Int32
abbrev fm_L : Type := Nat → (Nat → Int32) → va_E
def fm_up (mu : fm_T) (k j : Nat) (x : Int32) : fm_T := va_up mu k (upd (mu k) j x)
theorem fm_up_val (mu : fm_T) (k j : Nat) (x : Int32) (k2 j2 : Nat) : fm_up mu k j x k2 j2 = if k2 = k ∧ j2 = j then x else mu k2 j2 := by
  unfold fm_up
  by_cases hk : k2 = k
  · subst hk
    rw [va_up_self]
    by_cases hj : j2 = j
    · subst hj
      rw [pk_us, if_pos ⟨rfl, rfl⟩]
    · rw [pk_un hj, if_neg (fun h => hj h.2)]
  · rw [va_up_ne _ _ hk, if_neg (fun h => hk h.1)]
theorem fm_up_same (mu : fm_T) (k j : Nat) (x : Int32) : fm_up mu k j x k j = x := by rw [fm_up_val, if_pos ⟨rfl, rfl⟩]
theorem fm_up_cell {mu : fm_T} {k j : Nat} {x : Int32} {k2 j2 : Nat} (h : k2 ≠ k) : fm_up mu k j x k2 j2 = mu k2 j2 := by rw [fm_up_val, if_neg (fun q => h q.1)]
theorem fm_up_slot {mu : fm_T} {k j : Nat} {x : Int32} {k2 j2 : Nat} (h : j2 ≠ j) : fm_up mu k j x k2 j2 = mu k2 j2 := by rw [fm_up_val, if_neg (fun q => h q.2)]
theorem fm_up_row (mu : fm_T) (k j : Nat) (x : Int32) : fm_up mu k j x k = upd (mu k) j x := va_up_self _ _ _
def fm_w (L : fm_L) (b N : Nat) (mu : fm_T) : va_W := (List.range N).map (fun k => (b + k, L k (mu k)))
theorem fm_len (L : fm_L) (b N : Nat) (mu : fm_T) : (fm_w L b N mu).length = N := by simp [fm_w]
theorem fm_at {L : fm_L} {b N : Nat} {mu : fm_T} {k : Nat} (hk : k < N) : (fm_w L b N mu)[k]? = some (b + k, L k (mu k)) := by
  simp [fm_w, List.getElem?_map, List.getElem?_range hk]
theorem fm_is {L : fm_L} {b N : Nat} {mu : fm_T} {k : Nat} {e : va_E} (hk : k < N) (hL : L k (mu k) = e) : (fm_w L b N mu)[k]? = some (b + k, e) := by rw [fm_at hk, hL]
theorem fm_set {L : fm_L} {b N : Nat} {mu : fm_T} {k : Nat} {r : Nat → Int32} (hk : k < N) : (fm_w L b N mu).set k (b + k, L k r) = fm_w L b N (va_up mu k r) := by
  apply List.ext_getElem?
  intro j
  by_cases hj : j = k
  · subst hj
    rw [List.getElem?_set_self (by rw [fm_len]; exact hk), fm_at hk, va_up_self]
  · rw [List.getElem?_set_ne (Ne.symm hj)]
    by_cases hn : j < N
    · rw [fm_at hn, fm_at hn, va_up_ne _ _ hj]
    · rw [List.getElem?_eq_none (by rw [fm_len]; omega), List.getElem?_eq_none (by rw [fm_len]; omega)]
def fm_A (b N : Nat) : Nat → Prop := fun q => b ≤ q ∧ q < b + N
theorem fm_A_in {b N k : Nat} (h : k < N) : fm_A b N (b + k) := ⟨Nat.le_add_right _ _, Nat.add_lt_add_left h _⟩
theorem fm_D {A : Nat → Prop} {L : fm_L} {b N : Nat} {mu : fm_T} (hA : ∀ q, fm_A b N q → A q) : va_D A (fm_w L b N mu) := by
  have key : ∀ (i : Nat) (p : Nat × va_E), (fm_w L b N mu)[i]? = some p → i < N ∧ p.1 = b + i := by
    intro i p h
    have hi : i < N := by
      have h1 := (List.getElem?_eq_some_iff.mp h).1
      rw [fm_len] at h1
      exact h1
    rw [fm_at hi] at h
    cases h
    exact ⟨hi, rfl⟩
  refine ⟨fun i j p q hp hq e => ?_, fun k q hk => ?_⟩
  · have e1 := (key i p hp).2
    have e2 := (key j q hq).2
    omega
  · obtain ⟨h1, e1⟩ := key k q hk
    rw [e1]
    exact hA _ (fm_A_in h1)
section FMR
variable {p : Program} {l : Launch} {e : Env} {R : Room} {s : State} {m : MethodId} {args : Array Value} {below : List Frame} {meth : Method} {c : Code} {H : Heap} {locs : List Loc} {cells slots : Nat} {Q : State → Prop}
variable {cc : ByteArray} {pc : Nat} {ls : Array Slot} {rest : List Value} {D : va_G} {cl : List vw_C} {A : Nat → Prop} {tys : List (ClassId × FieldType)} {H0 : Heap}
variable {L : fm_L} {b N : Nat} {mu : fm_T}
theorem fm_get (hexec : p.tables.exec = Jvm.exec) (hb : c.code = cc) {own ref C : String} {T : u_T} {n ci index : Nat} {Ts : List Cond} (hts : ∀ w ∈ Ts, w.before args s = true) (hin : ∀ w ∈ u_ws C T n, w ∈ Ts) (hown : s.vm.findClass own = some m.cls) (hK : va_K D cl tys s) (hP : va_P D cl (fm_w L b N mu) H) (k : Nat) (hk : k < N) {fs : List Value} (hL : L k (mu k) = .inr (ci, fs)) (hc : cl[ci]? = some (C, T, n)) (j : Nat) (hj : j < n) (hlink : (Cond.fieldLink own index ref (T j).2.1 (T j).2.2.1).before args s = true) (hsame : ∀ x, s.fieldFound? (T j).1 (T j).2.1 (T j).2.2.1 = some x → s.fieldFound? ref (T j).2.1 (T j).2.2.1 = some x) {v : Value} (hv : fs[j]? = some v) (hdg : decode cc pc = .ok (.getfield index, 3))
    (kk : W p l e R s m args below meth c H locs cells slots Q (F0 m (pc + 3) ls (v :: rest))) : W p l e R s m args below meth c H locs cells slots Q (F0 m pc ls (.ref (b + k) :: rest)) :=
  va_get hexec hb hts hin hown hK hP k (fm_is hk hL) hc j hj hlink hsame hv hdg kk
theorem fm_put (hexec : p.tables.exec = Jvm.exec) (hb : c.code = cc) {own ref C : String} {T : u_T} {n ci index : Nat} {Ts : List Cond} (hts : ∀ w ∈ Ts, w.before args s = true) (hin : ∀ w ∈ u_ws C T n, w ∈ Ts) (ty0 : Nat → FieldType) (hty : ∀ k, k < n → parseFieldDescriptor (T k).2.2.1 = some (ty0 k)) (hnm : ∀ a, a < n → ∀ b, b < n → a ≠ b → (T a).2.1 ≠ (T b).2.1) (hown : s.vm.findClass own = some m.cls) (hK : va_K D cl tys s) (hA : ∀ q, fm_A b N q → A q) (hP : va_P D cl (fm_w L b N mu) H) (hS : va_S A H0 H locs) (k : Nat) (hk : k < N) {fs : List Value} (hL : L k (mu k) = .inr (ci, fs)) (hc : cl[ci]? = some (C, T, n)) (j : Nat) (hj : j < n) (hlink : (Cond.fieldLink own index ref (T j).2.1 (T j).2.2.1).before args s = true) (hsame : ∀ x, s.fieldFound? (T j).1 (T j).2.1 (T j).2.2.1 = some x → s.fieldFound? ref (T j).2.1 (T j).2.2.1 = some x) (hfin : (T j).2.2.2 = false) {ty : FieldType} {v : Value} (hd : parseFieldDescriptor (T j).2.2.1 = some ty) (hn : narrow ty v = v) (hfit : fits ty v = true) (hl : j < fs.length) {x : Int32} (hL2 : L k (upd (mu k) j x) = .inr (ci, fs.set j v))
    (hdg : decode cc pc = .ok (.putfield index, 3)) (kk : ∀ (H1 : Heap) (locs1 : List Loc), va_P D cl (fm_w L b N (fm_up mu k j x)) H1 → va_S A H0 H1 locs1 → W p l e R s m args below meth c H1 locs1 cells slots Q (F0 m (pc + 3) ls rest)) : W p l e R s m args below meth c H locs cells slots Q (F0 m pc ls (v :: .ref (b + k) :: rest)) :=
  va_put hexec hb hts hin ty0 hty hnm hown hK hP (fm_D hA) hS k (fm_is hk hL) hc j hj hlink hsame hfin hd hn hfit hl hdg (fun H1 locs1 h1 _ h3 => kk H1 locs1 (by rw [← hL2, fm_set hk] at h1; exact h1) h3)
theorem fm_iald (hexec : p.tables.exec = Jvm.exec) (hb : c.code = cc) (hK : va_K D cl tys s) (hP : va_P D cl (fm_w L b N mu) H) (k : Nat) (hk : k < N) (t0 : Nat) {cA : ClassId} {n : Nat} {f : Nat → Int32} (hL : L k (mu k) = .inl (cA, n, .inl f)) (ht : tys[t0]? = some (cA, .int)) {i : Int32} (j : Nat) (hi : i = nI j) (hj : j < n) (hn : n < 2 ^ 31) (hdg : decode cc pc = .ok (.iaload, 1))
    (kk : W p l e R s m args below meth c H locs cells slots Q (F0 m (pc + 1) ls (.int (f j) :: rest))) : W p l e R s m args below meth c H locs cells slots Q (F0 m pc ls (.int i :: .ref (b + k) :: rest)) := by
  subst hi
  refine va_iald hexec hb hK hP k t0 (fm_is hk hL) ht (vp_in_nI hj hn) hdg ?_
  rw [nI_clamp (Nat.lt_trans hj hn)]
  exact kk
theorem fm_zald (hexec : p.tables.exec = Jvm.exec) (hb : c.code = cc) (hK : va_K D cl tys s) (hP : va_P D cl (fm_w L b N mu) H) (k : Nat) (hk : k < N) (t0 : Nat) {cA : ClassId} {n : Nat} {f : Nat → Int32} (hL : L k (mu k) = .inl (cA, n, .inl f)) (ht : tys[t0]? = some (cA, .boolean)) {i : Int32} (j : Nat) (hi : i = nI j) (hj : j < n) (hn : n < 2 ^ 31) (hdg : decode cc pc = .ok (.baload, 1))
    (kk : W p l e R s m args below meth c H locs cells slots Q (F0 m (pc + 1) ls (.int (f j) :: rest))) : W p l e R s m args below meth c H locs cells slots Q (F0 m pc ls (.int i :: .ref (b + k) :: rest)) := by
  subst hi
  refine va_zald hexec hb hK hP k t0 (fm_is hk hL) ht (vp_in_nI hj hn) hdg ?_
  rw [nI_clamp (Nat.lt_trans hj hn)]
  exact kk
theorem fm_iast (hexec : p.tables.exec = Jvm.exec) (hb : c.code = cc) (hK : va_K D cl tys s) (hA : ∀ q, fm_A b N q → A q) (hP : va_P D cl (fm_w L b N mu) H) (hS : va_S A H0 H locs) (k : Nat) (hk : k < N) (t0 : Nat) {cA : ClassId} {n : Nat} {f : Nat → Int32} (hL : L k (mu k) = .inl (cA, n, .inl f)) (ht : tys[t0]? = some (cA, .int)) {i x : Int32} (j : Nat) (hi : i = nI j) (hj : j < n) (hn : n < 2 ^ 31) (hL2 : L k (upd (mu k) j x) = .inl (cA, n, .inl (upd f j x))) (hdg : decode cc pc = .ok (.iastore, 1))
    (kk : ∀ (H1 : Heap) (locs1 : List Loc), va_P D cl (fm_w L b N (fm_up mu k j x)) H1 → va_S A H0 H1 locs1 → W p l e R s m args below meth c H1 locs1 cells slots Q (F0 m (pc + 1) ls rest)) : W p l e R s m args below meth c H locs cells slots Q (F0 m pc ls (.int x :: .int i :: .ref (b + k) :: rest)) := by
  subst hi
  refine va_iast hexec hb hK hP (fm_D hA) hS k t0 (fm_is hk hL) ht (vp_in_nI hj hn) hdg (fun H1 locs1 h1 _ h3 => ?_)
  rw [nI_clamp (Nat.lt_trans hj hn), ← hL2, fm_set hk] at h1
  exact kk H1 locs1 h1 h3
theorem fm_zast (hexec : p.tables.exec = Jvm.exec) (hb : c.code = cc) (hK : va_K D cl tys s) (hA : ∀ q, fm_A b N q → A q) (hP : va_P D cl (fm_w L b N mu) H) (hS : va_S A H0 H locs) (k : Nat) (hk : k < N) (t0 : Nat) {cA : ClassId} {n : Nat} {f : Nat → Int32} (hL : L k (mu k) = .inl (cA, n, .inl f)) (ht : tys[t0]? = some (cA, .boolean)) {i x : Int32} (j : Nat) (hi : i = nI j) (hj : j < n) (hn : n < 2 ^ 31) (hx : vp_nar .boolean x = x) (hL2 : L k (upd (mu k) j x) = .inl (cA, n, .inl (upd f j x))) (hdg : decode cc pc = .ok (.bastore, 1))
    (kk : ∀ (H1 : Heap) (locs1 : List Loc), va_P D cl (fm_w L b N (fm_up mu k j x)) H1 → va_S A H0 H1 locs1 → W p l e R s m args below meth c H1 locs1 cells slots Q (F0 m (pc + 1) ls rest)) : W p l e R s m args below meth c H locs cells slots Q (F0 m pc ls (.int x :: .int i :: .ref (b + k) :: rest)) := by
  subst hi
  refine va_zast hexec hb hK hP (fm_D hA) hS k t0 (fm_is hk hL) ht (vp_in_nI hj hn) hdg (fun H1 locs1 h1 _ h3 => ?_)
  rw [nI_clamp (Nat.lt_trans hj hn), hx, ← hL2, fm_set hk] at h1
  exact kk H1 locs1 h1 h3
theorem fm_aald (hexec : p.tables.exec = Jvm.exec) (hb : c.code = cc) (hK : va_K D cl tys s) (hP : va_P D cl (fm_w L b N mu) H) (k : Nat) (hk : k < N) (t0 : Nat) {cA : ClassId} {C : String} {n a : Nat} {f : Nat → Option Nat} (hL : L k (mu k) = .inl (cA, n, .inr (.inr (.inr (.inr f))))) (ht : tys[t0]? = some (cA, .object C)) {i : Int32} (j : Nat) (hi : i = nI j) (hj : j < n) (hn : n < 2 ^ 31) (hf : f j = some a) (hdg : decode cc pc = .ok (.aaload, 1))
    (kk : W p l e R s m args below meth c H locs cells slots Q (F0 m (pc + 1) ls (.ref a :: rest))) : W p l e R s m args below meth c H locs cells slots Q (F0 m pc ls (.int i :: .ref (b + k) :: rest)) := by
  subst hi
  refine va_aldq hexec hb hK hP k t0 (fm_is hk hL) ht (vp_in_nI hj hn) hdg ?_
  rw [nI_clamp (Nat.lt_trans hj hn), hf]
  exact kk
theorem fm_aast (hexec : p.tables.exec = Jvm.exec) (hb : c.code = cc) (hK : va_K D cl tys s) (hA : ∀ q, fm_A b N q → A q) (hP : va_P D cl (fm_w L b N mu) H) (hS : va_S A H0 H locs) (k : Nat) (hk : k < N) (t0 : Nat) (kv : Nat) (hkv : kv < N) {ci : Nat} {cA : ClassId} {r : vw_C} {n : Nat} {vs : List Value} {f : Nat → Option Nat} (hL : L k (mu k) = .inl (cA, n, .inr (.inr (.inr (.inr f))))) (ht : tys[t0]? = some (cA, .object r.1)) (hLv : L kv (mu kv) = .inr (ci, vs)) (hc : cl[ci]? = some r) {i x : Int32} (j : Nat) (hi : i = nI j) (hj : j < n) (hn : n < 2 ^ 31) (hL2 : L k (upd (mu k) j x) = .inl (cA, n, .inr (.inr (.inr (.inr (va_up f j (some (b + kv)))))))) (hdg : decode cc pc = .ok (.aastore, 1))
    (kk : ∀ (H1 : Heap) (locs1 : List Loc), va_P D cl (fm_w L b N (fm_up mu k j x)) H1 → va_S A H0 H1 locs1 → W p l e R s m args below meth c H1 locs1 cells slots Q (F0 m (pc + 1) ls rest)) : W p l e R s m args below meth c H locs cells slots Q (F0 m pc ls (.ref (b + kv) :: .int i :: .ref (b + k) :: rest)) := by
  subst hi
  refine va_astq hexec hb hK hP (fm_D hA) hS k t0 kv ci (fm_is hk hL) ht (fm_is hkv hLv) hc (vp_in_nI hj hn) hdg (fun H1 locs1 h1 _ h3 => ?_)
  rw [nI_clamp (Nat.lt_trans hj hn), ← hL2, fm_set hk] at h1
  exact kk H1 locs1 h1 h3
theorem fm_copy (hexec : p.tables.exec = Jvm.exec) (hb : c.code = cc) (hml : c.maxLocals = ls.size) {own : String} {index : Nat} (hown : s.vm.findClass own = some m.cls) (hlink : (Cond.methodLink own index arraycopyName).before args s = true) (hnat : (Cond.native arraycopyName).before args s = true) (hstat : (Cond.static arraycopyName).before args s = true) (hini : (Cond.initialized "java/lang/System").before args s = true)
    (hK : va_K D cl tys s) (hA : ∀ q, fm_A b N q → A q) (hP : va_P D cl (fm_w L b N mu) H) (hS : va_S A H0 H locs) (k0 k1 : Nat) (hk0 : k0 < N) (hk1 : k1 < N) (t0 : Nat) {cA : ClassId} {n0 n1 : Nat} (hL0 : L k0 (mu k0) = .inl (cA, n0, .inl (mu k0))) (hL1 : L k1 (mu k1) = .inl (cA, n1, .inl (mu k1))) (ht : tys[t0]? = some (cA, .int))
    {sp dp n : Int32} (js jd jn : Nat) (hs1 : sp = nI js) (hd1 : dp = nI jd) (hn1 : n = nI jn) (h4 : js + jn ≤ n0) (h5 : jd + jn ≤ n1) (hz : n0 < 2 ^ 31) (hz1 : n1 < 2 ^ 31) (hL2 : L k1 (va_cpy (mu k0) (mu k1) js jd jn) = .inl (cA, n1, .inl (va_cpy (mu k0) (mu k1) js jd jn)))
    (hframes : 1 ≤ R.frames) (hlocals : (rest.map fun v => v.category).sum + (nativeFrameWords "java/lang/System" "arraycopy" 5 + 11) ≤ R.locals) (hdg : decode cc pc = .ok (.invokestatic index, 3))
    (kk : ∀ (H1 : Heap) (locs1 : List Loc), va_P D cl (fm_w L b N (va_up mu k1 (va_cpy (mu k0) (mu k1) js jd jn))) H1 → va_S A H0 H1 locs1 → W p l e R s m args below meth c H1 locs1 cells slots Q (F0 m (pc + 3) ls rest)) : W p l e R s m args below meth c H locs cells slots Q (F0 m pc ls (.int n :: .int dp :: .ref (b + k1) :: .int sp :: .ref (b + k0) :: rest)) := by
  subst hs1 hd1 hn1
  have c1 : (nI js).toNatClampNeg = js := nI_clamp (by omega)
  have c2 : (nI jd).toNatClampNeg = jd := nI_clamp (by omega)
  have c3 : (nI jn).toNatClampNeg = jn := nI_clamp (by omega)
  refine va_copyi hexec hb hml hown hlink hnat hstat hini hK hP (fm_D hA) hS k0 k1 t0 t0 (fm_is hk0 hL0) (fm_is hk1 hL1) ht ht rfl (nI_pos (by omega)) (nI_pos (by omega)) (nI_pos (by omega)) (by rw [c1, c3]; exact h4) (by rw [c2, c3]; exact h5) (fun _ _ => rfl) hframes hlocals hdg (fun H1 locs1 h1 _ h3 => ?_)
  rw [c1, c2, c3, ← hL2, fm_set hk1] at h1
  exact kk H1 locs1 h1 h3
end FMR
/-! contracts over a flat memory: X is what else the method needs of the state (statics, links of nest mates): it speaks of the tables and of cells outside -/
def fm_C (D : va_G) (cl : List vw_C) (tys : List (ClassId × FieldType)) (L : fm_L) (b N : Nat) (X : State → Prop) (mu : fm_T) (U : State) : Prop := va_P D cl (fm_w L b N mu) U.heap ∧ va_K D cl tys U ∧ X U
def fm_B (D : va_G) (cl : List vw_C) (tys : List (ClassId × FieldType)) (L : fm_L) (b N : Nat) (mu : fm_T) (U : State) : Prop := va_P D cl (fm_w L b N mu) U.heap ∧ va_K D cl tys U
section FMC
variable {p : Program} {l : Launch} {e : Env} {R : Room} {s : State} {m : MethodId} {args : Array Value} {below : List Frame} {meth : Method} {c : Code} {H : Heap} {locs : List Loc} {cells slots : Nat} {Q : State → Prop}
variable {pc : Nat} {ls : Array Slot} {rest st0 : List Value} {a : Array Value} {A0 : Nat → Prop} {H0 : Heap}
variable {D : va_G} {cl : List vw_C} {tys : List (ClassId × FieldType)} {L : fm_L} {b N : Nat} {mu : fm_T} {X : State → Prop}
theorem fm_calli {post : Int32 → fm_T → Prop} (hr : va_Run p l e R s m args below meth c H locs cells slots 0 0 (F0 m pc ls st0) rest (va_Qi post (fm_B D cl tys L b N) (fm_A b N) a) (fm_A b N)) (hS : va_S A0 H0 H locs) (hA : ∀ q, fm_A b N q → A0 q)
    (kk : ∀ (r : Int32) (u : fm_T) (H1 : Heap) (locs1 : List Loc), post r u → va_P D cl (fm_w L b N u) H1 → va_S A0 H0 H1 locs1 → W p l e R s m args below meth c H1 locs1 cells slots Q (F0 m (pc + 3) ls (.int r :: rest))) : W p l e R s m args below meth c H locs cells slots Q (F0 m pc ls st0) :=
  va_calli hr hS (fun q _ h => hA q h) hA (fun r u t H1 locs1 ht _ hp hB _ _ hS1 => kk r u H1 locs1 hp (by rw [← ht]; exact hB.1) hS1)
theorem fm_callv {post : fm_T → Prop} (hr : va_Run p l e R s m args below meth c H locs cells slots 0 0 (F0 m pc ls st0) rest (va_Qv post (fm_B D cl tys L b N) (fm_A b N) a) (fm_A b N)) (hS : va_S A0 H0 H locs) (hA : ∀ q, fm_A b N q → A0 q)
    (kk : ∀ (u : fm_T) (H1 : Heap) (locs1 : List Loc), post u → va_P D cl (fm_w L b N u) H1 → va_S A0 H0 H1 locs1 → W p l e R s m args below meth c H1 locs1 cells slots Q (F0 m (pc + 3) ls rest)) : W p l e R s m args below meth c H locs cells slots Q (F0 m pc ls st0) :=
  va_callv hr hS (fun q _ h => hA q h) hA (fun u t H1 locs1 ht _ hp hB _ _ hS1 => kk u H1 locs1 hp (by rw [← ht]; exact hB.1) hS1)
theorem fm_callq {post : Option Nat → fm_T → Prop} (hr : va_Run p l e R s m args below meth c H locs cells slots 0 0 (F0 m pc ls st0) rest (va_Qq post (fm_B D cl tys L b N) (fm_A b N) a) (fm_A b N)) (hS : va_S A0 H0 H locs) (hA : ∀ q, fm_A b N q → A0 q)
    (kk : ∀ (r : Option Nat) (u : fm_T) (H1 : Heap) (locs1 : List Loc), post r u → va_P D cl (fm_w L b N u) H1 → va_S A0 H0 H1 locs1 → W p l e R s m args below meth c H1 locs1 cells slots Q (F0 m (pc + 3) ls (va_rf r :: rest))) : W p l e R s m args below meth c H locs cells slots Q (F0 m pc ls st0) :=
  va_callq hr hS (fun q _ h => hA q h) hA (fun r u t H1 locs1 ht _ hp hB _ _ hS1 => kk r u H1 locs1 hp (by rw [← ht]; exact hB.1) hS1)
theorem fm_blind {av : List Value} (hXb : ∀ (U : State) (g : JFrame) (mk : MethodId) (a : Array Value), X U → X (U.calling g mk a)) : FrameBlind (va_Pc av (fm_C D cl tys L b N X mu)) :=
  fun a U g mk h => ⟨h.1, h.2.1, va_K.moved (u := U) (U := U.calling g mk a) (Vm.Alike.refl U.vm) h.2.2.1, hXb U g mk a h.2.2.2⟩
theorem fm_preV {As : List Value} {C : String} {T : u_T} {n ci : Nat} {fs : List Value} (hXb : ∀ (U : State) (g : JFrame) (mk : MethodId) (a : Array Value), X U → X (U.calling g mk a)) (hX : ∀ U : State, U.heap = H → s.WarmedH U.vm → X U) (hK : va_K D cl tys s) (hP : va_P D cl (fm_w L b N mu) H) (k : Nat) (hk : k < N) (hL : L k (mu k) = .inr (ci, fs)) (hc : cl[ci]? = some (C, T, n)) : PreV s H C (b + k) (va_Pc (.ref (b + k) :: As) (fm_C D cl tys L b N X mu)) As :=
  ⟨fm_blind hXb, va_recv (q := (C, T, n)) hK hP hc (fm_is hk hL), fun U hU hW => ⟨rfl, by rw [hU]; exact hP, va_K.moved hW.alike hK, hX U hU hW⟩⟩
theorem fm_preS {As : List Value} (hXb : ∀ (U : State) (g : JFrame) (mk : MethodId) (a : Array Value), X U → X (U.calling g mk a)) (hX : ∀ U : State, U.heap = H → s.WarmedH U.vm → X U) (hK : va_K D cl tys s) (hP : va_P D cl (fm_w L b N mu) H) : PreS s H (va_Pc As (fm_C D cl tys L b N X mu)) As :=
  ⟨fm_blind hXb, fun U hU hW => ⟨rfl, by rw [hU]; exact hP, va_K.moved hW.alike hK, hX U hU hW⟩⟩
end FMC
