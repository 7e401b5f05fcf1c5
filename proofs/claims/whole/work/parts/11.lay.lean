/-! the layouts: the class's 99 cells, the reference's 11 -/
def pn (x : Int32) : Nat := x.toNatClampNeg % 24
theorem pn_lt (x : Int32) : pn x < 24 := Nat.mod_lt _ (by decide)
def lcA (aC : Nat → ClassId) (b k : Nat) (r : Nat → Int32) : va_E := match k with
  | 0 => .inr (0, [.ref (b + 1), .ref (b + 5), .ref (b + 79), .ref (b + 80), .int (r 4)])
  | 1 => .inr (1, [.ref (b + 2), .ref (b + 3), .ref (b + 4)])
  | 2 => .inl (aC 1, 256, .inl r)
  | 3 => .inl (aC 0, 8, .inl r)
  | 4 => .inl (aC 0, 8, .inl r)
  | 5 => .inr (2, [.ref (b + 6), .int (r 1)])
  | _ => .inl (aC 2, 24, .inr (.inr (.inr (.inr (fun j => some (b + (7 + 3 * pn (r j))))))))
def lcP (aC : Nat → ClassId) (b i q : Nat) (r : Nat → Int32) : va_E := match q with
  | 0 => .inr (3, [.int (r 0), .int (r 1), .int (r 2), .int (r 3), .int (r 4), .int (r 5), .ref (b + (8 + 3 * i)), .int (r 7), .ref (b + (9 + 3 * i))])
  | 1 => .inl (aC 0, 8, .inl r)
  | _ => .inl (aC 0, 4, .inl r)
def lcC (aC : Nat → ClassId) (b i q : Nat) (r : Nat → Int32) : va_E := match q with
  | 0 => .inr (4, [.ref (b + (82 + 6 * i)), .ref (b + (83 + 6 * i)), .int (r 2), .int (r 3), .int (r 4), .int (r 5)])
  | 1 => .inl (aC 0, 16, .inl r)
  | 2 => .inl (aC 0, 8, .inl r)
  | 3 => .inr (5, [.ref (b + (85 + 6 * i)), .ref (b + (86 + 6 * i)), .int (r 2), .int (r 3)])
  | 4 => .inl (aC 0, 16, .inl r)
  | _ => .inl (aC 0, 64, .inl r)
def LC (aC : Nat → ClassId) (b : Nat) : fm_L := fun k r =>
  if k < 7 then lcA aC b k r
  else if k < 79 then lcP aC b ((k - 7) / 3) ((k - 7) % 3) r
  else if k = 79 then .inl (aC 3, 3, .inr (.inr (.inr (.inr (fun j => some (b + (81 + 6 * j)))))))
  else if k = 80 then .inl (aC 4, 3, .inr (.inr (.inr (.inr (fun j => some (b + (84 + 6 * j)))))))
  else lcC aC b ((k - 81) / 6) ((k - 81) % 6) r
section LAYC
variable (aC : Nat → ClassId) (b : Nat) (r : Nat → Int32)
theorem lc_D : LC aC b 0 r = .inr (0, [.ref (b + 1), .ref (b + 5), .ref (b + 79), .ref (b + 80), .int (r 4)]) := by unfold LC; rw [if_pos (by decide)]; rfl
theorem lc_F : LC aC b 1 r = .inr (1, [.ref (b + 2), .ref (b + 3), .ref (b + 4)]) := by unfold LC; rw [if_pos (by decide)]; rfl
theorem lc_walls : LC aC b 2 r = .inl (aC 1, 256, .inl r) := by unfold LC; rw [if_pos (by decide)]; rfl
theorem lc_places : LC aC b 3 r = .inl (aC 0, 8, .inl r) := by unfold LC; rw [if_pos (by decide)]; rfl
theorem lc_dirs : LC aC b 4 r = .inl (aC 0, 8, .inl r) := by unfold LC; rw [if_pos (by decide)]; rfl
theorem lc_N : LC aC b 5 r = .inr (2, [.ref (b + 6), .int (r 1)]) := by unfold LC; rw [if_pos (by decide)]; rfl
theorem lc_packets : LC aC b 6 r = .inl (aC 2, 24, .inr (.inr (.inr (.inr (fun j => some (b + (7 + 3 * pn (r j)))))))) := by unfold LC; rw [if_pos (by decide)]; rfl
theorem lc_packets_up (j : Nat) (x : Int32) : LC aC b 6 (upd r j x) = .inl (aC 2, 24, .inr (.inr (.inr (.inr (va_up (fun j => some (b + (7 + 3 * pn (r j)))) j (some (b + (7 + 3 * pn x)))))))) := by
  rw [lc_packets]
  have e : (fun j' => some (b + (7 + 3 * pn (upd r j x j')))) = va_up (fun j => some (b + (7 + 3 * pn (r j)))) j (some (b + (7 + 3 * pn x))) := by
    funext j'
    unfold upd va_up
    by_cases h : j' = j
    · rw [if_pos h, if_pos h]
    · rw [if_neg h, if_neg h]
  rw [e]
theorem lc_P {i : Nat} (h : i < 24) : LC aC b (7 + 3 * i) r = .inr (3, [.int (r 0), .int (r 1), .int (r 2), .int (r 3), .int (r 4), .int (r 5), .ref (b + (8 + 3 * i)), .int (r 7), .ref (b + (9 + 3 * i))]) := by
  unfold LC
  rw [if_neg (by omega), if_pos (by omega), show (7 + 3 * i - 7) / 3 = i by omega, show (7 + 3 * i - 7) % 3 = 0 by omega]
  rfl
theorem lc_Ppl {i : Nat} (h : i < 24) : LC aC b (8 + 3 * i) r = .inl (aC 0, 8, .inl r) := by
  unfold LC
  rw [if_neg (by omega), if_pos (by omega), show (8 + 3 * i - 7) % 3 = 1 by omega]
  rfl
theorem lc_Pcm {i : Nat} (h : i < 24) : LC aC b (9 + 3 * i) r = .inl (aC 0, 4, .inl r) := by
  unfold LC
  rw [if_neg (by omega), if_pos (by omega), show (9 + 3 * i - 7) % 3 = 2 by omega]
  rfl
theorem lc_clients : LC aC b 79 r = .inl (aC 3, 3, .inr (.inr (.inr (.inr (fun j => some (b + (81 + 6 * j))))))) := by unfold LC; rw [if_neg (by decide), if_neg (by decide), if_pos rfl]
theorem lc_accounts : LC aC b 80 r = .inl (aC 4, 3, .inr (.inr (.inr (.inr (fun j => some (b + (84 + 6 * j))))))) := by unfold LC; rw [if_neg (by decide), if_neg (by decide), if_neg (by decide), if_pos rfl]
theorem lc_C {i : Nat} (h : i < 3) : LC aC b (81 + 6 * i) r = .inr (4, [.ref (b + (82 + 6 * i)), .ref (b + (83 + 6 * i)), .int (r 2), .int (r 3), .int (r 4), .int (r 5)]) := by
  unfold LC
  rw [if_neg (by omega), if_neg (by omega), if_neg (by omega), if_neg (by omega), show (81 + 6 * i - 81) / 6 = i by omega, show (81 + 6 * i - 81) % 6 = 0 by omega]
  rfl
theorem lc_Ccm {i : Nat} (h : i < 3) : LC aC b (82 + 6 * i) r = .inl (aC 0, 16, .inl r) := by
  unfold LC
  rw [if_neg (by omega), if_neg (by omega), if_neg (by omega), if_neg (by omega), show (82 + 6 * i - 81) % 6 = 1 by omega]
  rfl
theorem lc_Csh {i : Nat} (h : i < 3) : LC aC b (83 + 6 * i) r = .inl (aC 0, 8, .inl r) := by
  unfold LC
  rw [if_neg (by omega), if_neg (by omega), if_neg (by omega), if_neg (by omega), show (83 + 6 * i - 81) % 6 = 2 by omega]
  rfl
theorem lc_A {i : Nat} (h : i < 3) : LC aC b (84 + 6 * i) r = .inr (5, [.ref (b + (85 + 6 * i)), .ref (b + (86 + 6 * i)), .int (r 2), .int (r 3)]) := by
  unfold LC
  rw [if_neg (by omega), if_neg (by omega), if_neg (by omega), if_neg (by omega), show (84 + 6 * i - 81) / 6 = i by omega, show (84 + 6 * i - 81) % 6 = 3 by omega]
  rfl
theorem lc_Ahe {i : Nat} (h : i < 3) : LC aC b (85 + 6 * i) r = .inl (aC 0, 16, .inl r) := by
  unfold LC
  rw [if_neg (by omega), if_neg (by omega), if_neg (by omega), if_neg (by omega), show (85 + 6 * i - 81) % 6 = 4 by omega]
  rfl
theorem lc_Ato {i : Nat} (h : i < 3) : LC aC b (86 + 6 * i) r = .inl (aC 0, 64, .inl r) := by
  unfold LC
  rw [if_neg (by omega), if_neg (by omega), if_neg (by omega), if_neg (by omega), show (86 + 6 * i - 81) % 6 = 5 by omega]
  rfl
end LAYC
theorem lc_ltP {i : Nat} (h : i < 24) : 7 + 3 * i < 99 := by omega
theorem lc_ltPpl {i : Nat} (h : i < 24) : 8 + 3 * i < 99 := by omega
theorem lc_ltPcm {i : Nat} (h : i < 24) : 9 + 3 * i < 99 := by omega
theorem lc_ltC {i : Nat} (h : i < 3) : 81 + 6 * i < 99 := by omega
theorem lc_ltCcm {i : Nat} (h : i < 3) : 82 + 6 * i < 99 := by omega
theorem lc_ltCsh {i : Nat} (h : i < 3) : 83 + 6 * i < 99 := by omega
theorem lc_ltA {i : Nat} (h : i < 3) : 84 + 6 * i < 99 := by omega
theorem lc_ltAhe {i : Nat} (h : i < 3) : 85 + 6 * i < 99 := by omega
theorem lc_ltAto {i : Nat} (h : i < 3) : 86 + 6 * i < 99 := by omega
def LM (aC : Nat → ClassId) (b : Nat) : fm_L := fun k r => match k with
  | 0 => .inr (6, [.ref (b + 1), .ref (b + 2), .int (r 2), .ref (b + 3), .ref (b + 4), .ref (b + 5), .ref (b + 6), .ref (b + 7), .ref (b + 8), .ref (b + 9), .ref (b + 10), .int (r 11)])
  | 1 => .inl (aC 1, 256, .inl r)
  | 2 => .inl (aC 0, 8, .inl r)
  | 3 => .inl (aC 0, 4104, .inl r)
  | 4 => .inl (aC 0, 1539, .inl r)
  | 5 => .inl (aC 0, 1539, .inl r)
  | 6 => .inl (aC 1, 1539, .inl r)
  | 7 => .inl (aC 0, 3, .inl r)
  | 8 => .inl (aC 0, 3, .inl r)
  | 9 => .inl (aC 0, 3, .inl r)
  | _ => .inl (aC 0, 120, .inl r)
section LAYM
variable (aC : Nat → ClassId) (b : Nat) (r : Nat → Int32)
theorem lm_M : LM aC b 0 r = .inr (6, [.ref (b + 1), .ref (b + 2), .int (r 2), .ref (b + 3), .ref (b + 4), .ref (b + 5), .ref (b + 6), .ref (b + 7), .ref (b + 8), .ref (b + 9), .ref (b + 10), .int (r 11)]) := rfl
theorem lm_walls : LM aC b 1 r = .inl (aC 1, 256, .inl r) := rfl
theorem lm_direction : LM aC b 2 r = .inl (aC 0, 8, .inl r) := rfl
theorem lm_stood : LM aC b 3 r = .inl (aC 0, 4104, .inl r) := rfl
theorem lm_doneAt : LM aC b 4 r = .inl (aC 0, 1539, .inl r) := rfl
theorem lm_commands : LM aC b 5 r = .inl (aC 0, 1539, .inl r) := rfl
theorem lm_held : LM aC b 6 r = .inl (aC 1, 1539, .inl r) := rfl
theorem lm_issued : LM aC b 7 r = .inl (aC 0, 3, .inl r) := rfl
theorem lm_acked : LM aC b 8 r = .inl (aC 0, 3, .inl r) := rfl
theorem lm_newest : LM aC b 9 r = .inl (aC 0, 3, .inl r) := rfl
theorem lm_air : LM aC b 10 r = .inl (aC 0, 120, .inl r) := rfl
end LAYM
abbrev tysx (aC : Nat → ClassId) : List (ClassId × FieldType) := [(aC 0, .int), (aC 1, .boolean), (aC 2, .object R_P), (aC 3, .object R_C), (aC 4, .object R_A)]
/-! small rows -/
theorem vp_e {x : Int32} {n : Nat} (h : vp_in x n) : x = nI x.toNatClampNeg := by
  have h0 : ¬ x < 0 := fun q => h (Or.inl q)
  obtain ⟨j, hj, rfl⟩ := nI_of h0
  rw [nI_clamp hj]
theorem vp_l {x : Int32} {n : Nat} (h : vp_in x n) : x.toNatClampNeg < n := Nat.not_le.mp fun q => h (Or.inr q)
theorem lp_lt {j k : Nat} {K : Int32} (hK : K = nI k) (hj : j ≤ k) (hk : k < 2 ^ 31) (h : ¬ K ≤ nI j) : j < k := by
  rcases Nat.lt_or_eq_of_le hj with h1 | h1
  · exact h1
  · subst h1
    subst hK
    exact absurd (nI_le (Nat.le_refl _) hk) h
def fm_opt {α : Type} (o : Option Int32) (A : α) (B : Int32 → α) : α := match o with
  | none => A
  | some a => B a
theorem fm_opt_none {α : Type} {o : Option Int32} {A : α} {B : Int32 → α} (h : o = none) : fm_opt o A B = A := by rw [h]; rfl
theorem fm_opt_some {α : Type} {o : Option Int32} {A : α} {B : Int32 → α} {a : Int32} (h : o = some a) : fm_opt o A B = B a := by rw [h]; rfl
theorem sw_out (x : Int32) (h0 : ¬ x = 0) (h1 : ¬ x = 1) (h2 : ¬ x = 2) (h3 : ¬ x = 3) (h4 : ¬ x = 4) (h5 : ¬ x = 5) : x.toInt < 0 ∨ 5 < x.toInt := by
  by_cases h : x.toInt < 0 ∨ 5 < x.toInt
  · exact h
  · exfalso
    have e : x = Int32.ofInt x.toInt := (Int32.ofInt_toInt x).symm
    have hc : x.toInt = 0 ∨ x.toInt = 1 ∨ x.toInt = 2 ∨ x.toInt = 3 ∨ x.toInt = 4 ∨ x.toInt = 5 := by omega
    rcases hc with h | h | h | h | h | h <;> rw [h] at e
    · exact h0 e
    · exact h1 e
    · exact h2 e
    · exact h3 e
    · exact h4 e
    · exact h5 e
/-- what a walk knows of its surroundings -/
def cx (D : va_G) (tys : List (ClassId × FieldType)) (X : State → Prop) (ws : List Cond) (cc : ByteArray) (own : String) (nL : Nat) (ret : Option FieldType) (p : Program) (s : State) (m : MethodId) (args : Array Value) (meth : Method) (c : Code) : Prop :=
  p.tables.exec = Jvm.exec ∧ c.code = cc ∧ meth.sig.returnType = ret ∧ c.maxLocals = nL ∧ s.vm.findClass own = some m.cls ∧ (∀ w ∈ ws, w.before args s = true) ∧ meth.locks = false ∧ va_K D clsx tys s ∧ X s
section RET
variable {p : Program} {l : Launch} {e : Env} {R : Room} {s : State} {m : MethodId} {args : Array Value} {below : List Frame} {meth : Method} {c : Code} {H : Heap} {locs : List Loc} {cells slots : Nat} {Q : State → Prop}
variable {cc : ByteArray} {pc : Nat} {ls : Array Slot} {rest st0 : List Value} {a : Array Value} {D : va_G} {cl : List vw_C} {tys : List (ClassId × FieldType)} {L : fm_L} {b N : Nat} {mu : fm_T}
theorem lv_cv {x y : Int32} (h : x = y) (k : W p l e R s m args below meth c H locs cells slots Q (F0 m pc ls (.int y :: rest))) : W p l e R s m args below meth c H locs cells slots Q (F0 m pc ls (.int x :: rest)) := by rw [h]; exact k
theorem ro_call {r : Int32} (hr : va_Run p l e R s m args below meth c H locs cells slots 0 0 (F0 m pc ls st0) rest (QcRead r a) (fun _ => False)) (kk : W p l e R s m args below meth c H locs cells slots Q (F0 m (pc + 3) ls (.int r :: rest))) : W p l e R s m args below meth c H locs cells slots Q (F0 m pc ls st0) := by
  intro T hT X
  obtain ⟨v, st₀, t, T', L, h0, X', hL, e1, e2, ⟨hv, hh⟩, st⟩ := hr T hT X
  cases hv
  obtain ⟨t2, a1, b1⟩ := kk T' (by rw [e1, hh, h0]) (Stand.forget X' (fun q h => (hL q h).elim))
  exact ⟨t2, st t2 a1, b1⟩
theorem ro_iret {F v : Int32} (hx : p.tables.exec = Jvm.exec) (hb : c.code = cc) (hr : meth.sig.returnType = some .int) (hlocks : meth.locks = false) (h : F = v) (hdg : decode cc pc = .ok (.ireturn, 1)) : W p l e R s m args below meth c s.heap [] 0 0 (MQ below (QcRead F) args s 0 0 (fun _ => False)) (F0 m pc ls [.int v]) := by
  subst h
  exact W.iret hx hb hr (fun t ht _ => ⟨rfl, ht⟩) (fun q h => by cases h) hdg hlocks
theorem ro_zret {F v : Int32} (hx : p.tables.exec = Jvm.exec) (hb : c.code = cc) (hr : meth.sig.returnType = some .boolean) (hlocks : meth.locks = false) (hn : narrow .boolean (.int v) = .int v) (h : F = v) (hdg : decode cc pc = .ok (.ireturn, 1)) : W p l e R s m args below meth c s.heap [] 0 0 (MQ below (QcRead F) args s 0 0 (fun _ => False)) (F0 m pc ls [.int v]) := by
  subst h
  exact W.zret hx hb hr hn (fun t ht _ => ⟨rfl, ht⟩) (fun q h => by cases h) hdg hlocks
theorem rw_vret {F : fm_T} (hx : p.tables.exec = Jvm.exec) (hb : c.code = cc) (hr : meth.sig.returnType = none) (hlocks : meth.locks = false) (hK : va_K D cl tys s) (hP : va_P D cl (fm_w L b N mu) H) (hS : va_S (fm_A b N) s.heap H locs) (h : F = mu) (hdg : decode cc pc = .ok (.return_, 1)) : W p l e R s m args below meth c H locs 0 0 (MQ below (va_Qv (fun u => u = F) (fm_B D cl tys L b N) (fm_A b N)) args s 0 0 (fm_A b N)) (F0 m pc ls []) :=
  W.vret hx hb hr (fun t ht hW => ⟨⟨mu, rfl, h.symm, by rw [ht]; exact hP, va_K.moved hW.alike hK⟩, hS.F ht⟩) hS.2.2 hdg hlocks
theorem rw_iret {F : Int32 × fm_T} {v : Int32} (hx : p.tables.exec = Jvm.exec) (hb : c.code = cc) (hr : meth.sig.returnType = some .int) (hlocks : meth.locks = false) (hK : va_K D cl tys s) (hP : va_P D cl (fm_w L b N mu) H) (hS : va_S (fm_A b N) s.heap H locs) (h : F = (v, mu)) (hdg : decode cc pc = .ok (.ireturn, 1)) : W p l e R s m args below meth c H locs 0 0 (MQ below (va_Qi (fun r u => r = F.1 ∧ u = F.2) (fm_B D cl tys L b N) (fm_A b N)) args s 0 0 (fm_A b N)) (F0 m pc ls [.int v]) :=
  W.iret hx hb hr (fun t ht hW => ⟨⟨v, mu, rfl, ⟨by rw [h], by rw [h]⟩, by rw [ht]; exact hP, va_K.moved hW.alike hK⟩, hS.F ht⟩) hS.2.2 hdg hlocks
theorem rw_zret {F : Int32 × fm_T} {v : Int32} (hx : p.tables.exec = Jvm.exec) (hb : c.code = cc) (hr : meth.sig.returnType = some .boolean) (hlocks : meth.locks = false) (hK : va_K D cl tys s) (hP : va_P D cl (fm_w L b N mu) H) (hS : va_S (fm_A b N) s.heap H locs) (hn : narrow .boolean (.int v) = .int v) (h : F = (v, mu)) (hdg : decode cc pc = .ok (.ireturn, 1)) : W p l e R s m args below meth c H locs 0 0 (MQ below (va_Qi (fun r u => r = F.1 ∧ u = F.2) (fm_B D cl tys L b N) (fm_A b N)) args s 0 0 (fm_A b N)) (F0 m pc ls [.int v]) :=
  W.zret hx hb hr hn (fun t ht hW => ⟨⟨v, mu, rfl, ⟨by rw [h], by rw [h]⟩, by rw [ht]; exact hP, va_K.moved hW.alike hK⟩, hS.F ht⟩) hS.2.2 hdg hlocks
theorem rw_aretN {F : Option Int32 × fm_T} {C : String} (hx : p.tables.exec = Jvm.exec) (hb : c.code = cc) (hr : meth.sig.returnType = some (.object C)) (hlocks : meth.locks = false) (hK : va_K D cl tys s) (hP : va_P D cl (fm_w L b N mu) H) (hS : va_S (fm_A b N) s.heap H locs) (h : F = (none, mu)) (hdg : decode cc pc = .ok (.areturn, 1)) : W p l e R s m args below meth c H locs 0 0 (MQ below (va_Qq (fun r u => r = (F.1).map (fun i => b + (7 + 3 * pn i)) ∧ u = F.2) (fm_B D cl tys L b N) (fm_A b N)) args s 0 0 (fm_A b N)) (F0 m pc ls [.null]) :=
  W.aret hx hb hr (Or.inl ⟨_, rfl⟩) (Or.inl rfl) (fun t ht hW => ⟨⟨none, mu, rfl, ⟨by rw [h]; rfl, by rw [h]⟩, by rw [ht]; exact hP, va_K.moved hW.alike hK⟩, hS.F ht⟩) hS.2.2 hdg hlocks
theorem rw_aretS {F : Option Int32 × fm_T} {C : String} {x : Int32} (hx : p.tables.exec = Jvm.exec) (hb : c.code = cc) (hr : meth.sig.returnType = some (.object C)) (hlocks : meth.locks = false) (hK : va_K D cl tys s) (hP : va_P D cl (fm_w L b N mu) H) (hS : va_S (fm_A b N) s.heap H locs) (h : F = (some x, mu)) (hdg : decode cc pc = .ok (.areturn, 1)) : W p l e R s m args below meth c H locs 0 0 (MQ below (va_Qq (fun r u => r = (F.1).map (fun i => b + (7 + 3 * pn i)) ∧ u = F.2) (fm_B D cl tys L b N) (fm_A b N)) args s 0 0 (fm_A b N)) (F0 m pc ls [.ref (b + (7 + 3 * pn x))]) :=
  W.aret hx hb hr (Or.inl ⟨_, rfl⟩) (Or.inr ⟨_, rfl⟩) (fun t ht hW => ⟨⟨some (b + (7 + 3 * pn x)), mu, rfl, ⟨by rw [h]; rfl, by rw [h]⟩, by rw [ht]; exact hP, va_K.moved hW.alike hK⟩, hS.F ht⟩) hS.2.2 hdg hlocks
theorem rw_aretO {F : Int32 × fm_T} {C : String} {x : Int32} (hx : p.tables.exec = Jvm.exec) (hb : c.code = cc) (hr : meth.sig.returnType = some (.object C)) (hlocks : meth.locks = false) (hK : va_K D cl tys s) (hP : va_P D cl (fm_w L b N mu) H) (hS : va_S (fm_A b N) s.heap H locs) (h : F = (x, mu)) (hdg : decode cc pc = .ok (.areturn, 1)) : W p l e R s m args below meth c H locs 0 0 (MQ below (va_Qq (fun r u => r = some (b + (7 + 3 * pn F.1)) ∧ u = F.2) (fm_B D cl tys L b N) (fm_A b N)) args s 0 0 (fm_A b N)) (F0 m pc ls [.ref (b + (7 + 3 * pn x))]) :=
  W.aret hx hb hr (Or.inl ⟨_, rfl⟩) (Or.inr ⟨_, rfl⟩) (fun t ht hW => ⟨⟨some (b + (7 + 3 * pn x)), mu, rfl, ⟨by rw [h], by rw [h]⟩, by rw [ht]; exact hP, va_K.moved hW.alike hK⟩, hS.F ht⟩) hS.2.2 hdg hlocks
end RET
/-! words of a call -/
def kvB (y : MethodName) (C : String) (bytes : ByteArray) (maxL : Nat) (ret : Option FieldType) (n : Nat) : Prop := (Cond.code y bytes maxL ret ∈ gtbl ∧ Cond.instanceMethod y ∈ gtbl ∧ Cond.selects C y y ∈ gtbl ∧ Cond.initialized C ∈ gtbl) ∧ (y.cls = C ∧ y.cls ≠ "java/lang/invoke/MethodHandle" ∧ y.cls ≠ "java/lang/invoke/VarHandle" ∧ (parseMethodDescriptor y.desc).map (fun d => d.parameters.length) = some n)
def ksB (y : MethodName) (bytes : ByteArray) (maxL : Nat) (ret : Option FieldType) (n : Nat) : Prop := (Cond.code y bytes maxL ret ∈ gtbl ∧ Cond.static y ∈ gtbl ∧ Cond.initialized y.cls ∈ gtbl) ∧ (y.cls ≠ "java/lang/invoke/MethodHandle" ∧ y.cls ≠ "java/lang/invoke/VarHandle" ∧ (parseMethodDescriptor y.desc).map (fun d => d.parameters.length) = some n)
def kiB (y : MethodName) (bytes : ByteArray) (maxL : Nat) (n : Nat) : Prop := (Cond.code y bytes maxL none ∈ gtbl ∧ Cond.instanceMethod y ∈ gtbl ∧ Cond.initialized y.cls ∈ gtbl) ∧ (y.name = "<init>" ∧ y.cls ≠ "java/lang/invoke/MethodHandle" ∧ y.cls ≠ "java/lang/invoke/VarHandle" ∧ (parseMethodDescriptor y.desc).map (fun d => d.parameters.length) = some n)
section WDS
variable {R : Room} {s : State} {args : Array Value} {own C host : String} {index maxL n mc ms : Nat} {y : MethodName} {bytes : ByteArray} {ret : Option FieldType} {Ts : List Cond} {rm : Room}
theorem cw_V (hT : ∀ w ∈ gtbl, w ∈ Ts) (ht : ∀ w ∈ Ts, w.before args s = true) (k : kvB y C bytes maxL ret n) (hl : (.methodLink own index y : Cond) ∈ gtbl) (hR : rm.frames + 1 ≤ R.frames ∧ 8 + (maxL + 11) + rm.locals ≤ R.locals) (hrc : rm.cells = mc) (hrs : rm.slots = ms) : CallW R s args own C index y bytes maxL ret (.code y bytes maxL ret :: gtbl) rm mc ms n := by
  refine cwV n ht (gt_goodL hT _ (fun w hw => ?_)) rfl hrc hrs k.2 hR
  simp only [wsV, List.cons_append, List.nil_append, List.mem_cons] at hw
  rcases hw with rfl | rfl | rfl | rfl | rfl | h
  · exact hl
  · exact k.1.2.1
  · exact k.1.2.2.1
  · exact k.1.2.2.2
  · exact k.1.1
  · exact h
theorem cw_S (hT : ∀ w ∈ gtbl, w ∈ Ts) (ht : ∀ w ∈ Ts, w.before args s = true) (k : ksB y bytes maxL ret n) (hl : (.methodLink own index y : Cond) ∈ gtbl) (hR : rm.frames + 1 ≤ R.frames ∧ 8 + (maxL + 11) + rm.locals ≤ R.locals) (hrc : rm.cells = mc) (hrs : rm.slots = ms) : CallB R s args own index y bytes maxL ret (.code y bytes maxL ret :: gtbl) rm mc ms n ∧ (Cond.static y).before args s = true := by
  refine va_cwS n ht (gt_goodL hT _ (fun w hw => ?_)) rfl hrc hrs k.2 hR
  simp only [va_wsS, List.cons_append, List.nil_append, List.mem_cons] at hw
  rcases hw with rfl | rfl | rfl | rfl | h
  · exact hl
  · exact k.1.2.1
  · exact k.1.2.2
  · exact k.1.1
  · exact h
theorem cn_S (hT : ∀ w ∈ gtbl, w ∈ Ts) (ht : ∀ w ∈ Ts, w.before args s = true) (k : ksB y bytes maxL ret n) (hl : va_Nw (.methodLinkNest own index y host) s) (hR : rm.frames + 1 ≤ R.frames ∧ 8 + (maxL + 11) + rm.locals ≤ R.locals) (hrc : rm.cells = mc) (hrs : rm.slots = ms) : va_CN R s args own index y host bytes maxL ret (.code y bytes maxL ret :: gtbl) rm mc ms n ∧ (Cond.static y).before args s = true ∧ True :=
  ⟨va_cnB n ht (gt_good hT k.1.1) rfl hrc hrs hl (ht _ (hT _ k.1.2.2)) k.2 hR, ht _ (hT _ k.1.2.1), trivial⟩
theorem cw_I (hT : ∀ w ∈ gtbl, w ∈ Ts) (ht : ∀ w ∈ Ts, w.before args s = true) (k : kiB y bytes maxL n) (hl : (.methodLink own index y : Cond) ∈ gtbl) (hR : rm.frames + 1 ≤ R.frames ∧ 8 + (maxL + 11) + rm.locals ≤ R.locals) (hrc : rm.cells = mc) (hrs : rm.slots = ms) : CallB R s args own index y bytes maxL none (.code y bytes maxL none :: gtbl) rm mc ms n ∧ y.name = "<init>" ∧ (Cond.instanceMethod y).before args s = true :=
  cwI n ht (gt_good hT k.1.1) rfl hrc hrs (ht _ (hT _ k.1.2.2)) (ht _ (hT _ hl)) (ht _ (hT _ k.1.2.1)) k.2.1 k.2.2 hR
theorem cn_I (hT : ∀ w ∈ gtbl, w ∈ Ts) (ht : ∀ w ∈ Ts, w.before args s = true) (k : kiB y bytes maxL n) (hl : va_Nw (.methodLinkNest own index y host) s) (hR : rm.frames + 1 ≤ R.frames ∧ 8 + (maxL + 11) + rm.locals ≤ R.locals) (hrc : rm.cells = mc) (hrs : rm.slots = ms) : va_CN R s args own index y host bytes maxL none (.code y bytes maxL none :: gtbl) rm mc ms n ∧ y.name = "<init>" ∧ (Cond.instanceMethod y).before args s = true :=
  ⟨va_cnB n ht (gt_good hT k.1.1) rfl hrc hrs hl (ht _ (hT _ k.1.2.2)) k.2.2 hR, k.2.1, ht _ (hT _ k.1.2.1)⟩
end WDS
/-! what else the class's methods need of the state: two tables that nobody writes, six links of nest mates -/
def sX (j : Nat) : Int32 := match j with
  | 0 => 1
  | 2 => -1
  | _ => 0
def sY (j : Nat) : Int32 := match j with
  | 1 => 1
  | 3 => -1
  | _ => 0
def XC (b : Nat) (U : State) : Prop := ∃ t1 t2 : Nat, (va_Z R_D "STEP_X" "[I" (.ref t1) (fm_A b 99) U U.heap ∧ va_T .int t1 5 (fun j => .int (sX j)) (fm_A b 99) U U.heap) ∧ (va_Z R_D "STEP_Y" "[I" (.ref t2) (fm_A b 99) U U.heap ∧ va_T .int t2 5 (fun j => .int (sY j)) (fm_A b 99) U U.heap) ∧
  va_Nw (.fieldLinkNest R_F 30 R_D "STEP_X" "[I" R_D) U ∧ va_Nw (.fieldLinkNest R_F 33 R_D "STEP_Y" "[I" R_D) U ∧ va_Nw (.methodLinkNest R_F 22 y_D_placeOf R_D) U ∧ va_Nw (.methodLinkNest R_F 26 y_D_isSquare R_D) U ∧ va_Nw (.methodLinkNest R_A 82 y_D_distance R_D) U
theorem XC_of {b : Nat} {s U : State} (hX : XC b s) (hW : s.vm.Alike U.vm) (hN : ∀ w : Cond, (∃ a i y h, w = .methodLinkNest a i y h) ∨ (∃ a i c n d h, w = .fieldLinkNest a i c n d h) → va_Nw w s → va_Nw w U) (hq : ∀ q : Nat, q < s.heap.size → ¬ fm_A b 99 q → U.heap[q]? = s.heap[q]?) : XC b U := by
  obtain ⟨t1, t2, ⟨z1, a1⟩, ⟨z2, a2⟩, n1, n2, n3, n4, n5⟩ := hX
  exact ⟨t1, t2, ⟨(z1.moved hW).kept hq, (a1.moved hW).kept hq⟩, ⟨(z2.moved hW).kept hq, (a2.moved hW).kept hq⟩, hN _ (Or.inr ⟨_, _, _, _, _, _, rfl⟩) n1, hN _ (Or.inr ⟨_, _, _, _, _, _, rfl⟩) n2, hN _ (Or.inl ⟨_, _, _, _, rfl⟩) n3, hN _ (Or.inl ⟨_, _, _, _, rfl⟩) n4, hN _ (Or.inl ⟨_, _, _, _, rfl⟩) n5⟩
theorem XC_bl {b : Nat} (U : State) (g : JFrame) (mk : MethodId) (a : Array Value) (h : XC b U) : XC b (U.calling g mk a) :=
  XC_of h (Vm.Alike.refl U.vm) (fun w hw hZ => by
    rcases hw with ⟨_, _, _, _, rfl⟩ | ⟨_, _, _, _, _, _, rfl⟩ <;> exact va_Nw.same rfl rfl hZ) (fun _ _ _ => rfl)
theorem XC_mv {b : Nat} {s : State} {H : Heap} {locs : List Loc} (hX : XC b s) (hS : va_S (fm_A b 99) s.heap H locs) (U : State) (hU : U.heap = H) (hW : s.WarmedH U.vm) : XC b U :=
  XC_of hX hW.alike (fun w hw hZ => by
    rcases hw with ⟨_, _, _, _, rfl⟩ | ⟨_, _, _, _, _, _, rfl⟩
    · exact va_Nw.warmM hW hZ
    · exact va_Nw.warmF hW hZ) (fun q h1 h2 => by rw [hU]; exact hS.2.1 q h1 h2)
def XM (_ : State) : Prop := True
theorem XM_bl (U : State) (g : JFrame) (mk : MethodId) (a : Array Value) (_ : XM U) : XM (U.calling g mk a) := trivial
theorem XM_mv {b : Nat} {s : State} {H : Heap} {locs : List Loc} (_ : XM s) (_ : va_S (fm_A b 11) s.heap H locs) (U : State) (_ : U.heap = H) (_ : s.WarmedH U.vm) : XM U := trivial
