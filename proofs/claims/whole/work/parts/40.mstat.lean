/-! printed by wip/whole/gen: M_square M_client M_entity M_apart -/
def f_M_square (px : Int32) (py : Int32) : Int32 := (if px < 0 then 0 else (if 16 ≤ px then 0 else (if py < 0 then 0 else (if 16 ≤ py then 0 else 1))))
theorem e_M_square (px : Int32) (py : Int32) : f_M_square px py = (if px < 0 then 0 else (if 16 ≤ px then 0 else (if py < 0 then 0 else (if 16 ≤ py then 0 else 1)))) := rfl
set_option maxHeartbeats 4000000 in
set_option maxRecDepth 100000 in
theorem k_M_square (l : Launch) (dC : Nat → ClassId) (dI : Nat → Nat → Nat) (aC : Nat → ClassId) (b : Nat) {p : Program} {e : Env} {s : State} {m : MethodId} {args : Array Value} {below : List Frame} {meth : Method} {cd : Code} (hc : cx (dC, dI) (tysx aC) (XM) w_M_square b_M_square R_M 2 (some .boolean) p s m args meth cd) (mu : fm_T) (px : Int32) (py : Int32)  (ls : Array Slot) (F : Int32) (hP : va_P (dC, dI) clsx (fm_w (LM aC b) b 11 mu) s.heap) (hl : lv_has ls 2 [(0, .int px), (1, .int py)]) (hf : F = f_M_square px py) : W p l e { frames := 0, cells := 0, slots := 0, locals := 0 } s m args below meth cd s.heap [] 0 0 (MQ below (QcRead F) args s 0 0 (fun _ => False)) (F0 m 0 ls []) := by
  obtain ⟨hx, hb, hr, hml, hown, hts, hlocks, hK, hX⟩ := hc
  have hg : ∀ w ∈ gtbl, w.before args s = true := fun w h => hts w (List.mem_cons_of_mem _ h)
  have hS : va_S (fm_A b 11) s.heap s.heap [] := va_S.rf
  have hf := hf.trans (e_M_square px py)
  refine lv_iload_n hx hb d_M_square_0 rfl (lv_at hl 0 rfl) ?_
  refine lv_if_lt (tgt := 24) hx hb d_M_square_1 rfl (fun h1 => ?_) (fun h1 => ?_)
  · have hf := hf.trans (if_pos h1)
    refine lv_iconst (v := 0) hx hb d_M_square_24 (by decide) ?_
    exact ro_zret hx hb hr hlocks rfl hf d_M_square_25
  · have hf := hf.trans (if_neg h1)
    refine lv_iload_n hx hb d_M_square_4 rfl (lv_at hl 0 rfl) ?_
    refine lv_bipush (v := 16) hx hb d_M_square_5 (by decide) ?_
    refine lv_icmp_ge (tgt := 24) hx hb d_M_square_7 rfl (fun h7 => ?_) (fun h7 => ?_)
    · have hf := hf.trans (if_pos h7)
      refine lv_iconst (v := 0) hx hb d_M_square_24 (by decide) ?_
      exact ro_zret hx hb hr hlocks rfl hf d_M_square_25
    · have hf := hf.trans (if_neg h7)
      refine lv_iload_n hx hb d_M_square_10 rfl (lv_at hl 1 rfl) ?_
      refine lv_if_lt (tgt := 24) hx hb d_M_square_11 rfl (fun h11 => ?_) (fun h11 => ?_)
      · have hf := hf.trans (if_pos h11)
        refine lv_iconst (v := 0) hx hb d_M_square_24 (by decide) ?_
        exact ro_zret hx hb hr hlocks rfl hf d_M_square_25
      · have hf := hf.trans (if_neg h11)
        refine lv_iload_n hx hb d_M_square_14 rfl (lv_at hl 1 rfl) ?_
        refine lv_bipush (v := 16) hx hb d_M_square_15 (by decide) ?_
        refine lv_icmp_ge (tgt := 24) hx hb d_M_square_17 rfl (fun h17 => ?_) (fun h17 => ?_)
        · have hf := hf.trans (if_pos h17)
          refine lv_iconst (v := 0) hx hb d_M_square_24 (by decide) ?_
          exact ro_zret hx hb hr hlocks rfl hf d_M_square_25
        · have hf := hf.trans (if_neg h17)
          refine lv_iconst (v := 1) hx hb d_M_square_20 (by decide) ?_
          refine lv_goto (tgt := 25) hx hb d_M_square_21 rfl ?_
          exact ro_zret hx hb hr hlocks rfl hf d_M_square_25
set_option maxHeartbeats 4000000 in
set_option maxRecDepth 100000 in
theorem c_M_square (l : Launch) (dC : Nat → ClassId) (dI : Nat → Nat → Nat) (aC : Nat → ClassId) (b : Nat) (mu : fm_T) (px : Int32) (py : Int32)  : Met l y_M_square w_M_square { frames := 0, cells := 0, slots := 0, locals := 0 } (va_Pc [.int px, .int py] (fm_C (dC, dI) clsx (tysx aC) (LM aC b) b 11 (XM) mu)) (QcRead (f_M_square px py)) 0 0 (fun _ => False) := by
  refine Met.ofW (cc := b_M_square) (maxL := 2) (ret := (some .boolean)) (by decide) rfl ?_
  intro p e s m args below meth cd s₁ B hml hv
  obtain ⟨rfl, hP, hK, hX⟩ := hv
  have hl := lv_entry ([.int px, .int py]) (n := 2) (Nat.le_of_ble_eq_true rfl)
  rw [lg_entry_eq]
  generalize (lg_sl ([.int px, .int py]) ++ List.replicate (2 - (lg_sl ([.int px, .int py])).length) Slot.unset).toArray = ls at hl ⊢
  exact k_M_square l dC dI aC b ⟨B.exec, B.bytes, B.returns, hml, findClass_of_methodNamed B.named, atoms_spec (ws := w_M_square) B.pre, B.notSynchronized, hK, hX⟩ mu px py ls _ hP hl rfl
def f_M_client (cli : Int32) : Int32 := (if cli < 0 then 0 else (if 3 ≤ cli then 0 else 1))
theorem e_M_client (cli : Int32) : f_M_client cli = (if cli < 0 then 0 else (if 3 ≤ cli then 0 else 1)) := rfl
set_option maxHeartbeats 4000000 in
set_option maxRecDepth 100000 in
theorem k_M_client (l : Launch) (dC : Nat → ClassId) (dI : Nat → Nat → Nat) (aC : Nat → ClassId) (b : Nat) {p : Program} {e : Env} {s : State} {m : MethodId} {args : Array Value} {below : List Frame} {meth : Method} {cd : Code} (hc : cx (dC, dI) (tysx aC) (XM) w_M_client b_M_client R_M 1 (some .boolean) p s m args meth cd) (mu : fm_T) (cli : Int32)  (ls : Array Slot) (F : Int32) (hP : va_P (dC, dI) clsx (fm_w (LM aC b) b 11 mu) s.heap) (hl : lv_has ls 1 [(0, .int cli)]) (hf : F = f_M_client cli) : W p l e { frames := 0, cells := 0, slots := 0, locals := 0 } s m args below meth cd s.heap [] 0 0 (MQ below (QcRead F) args s 0 0 (fun _ => False)) (F0 m 0 ls []) := by
  obtain ⟨hx, hb, hr, hml, hown, hts, hlocks, hK, hX⟩ := hc
  have hg : ∀ w ∈ gtbl, w.before args s = true := fun w h => hts w (List.mem_cons_of_mem _ h)
  have hS : va_S (fm_A b 11) s.heap s.heap [] := va_S.rf
  have hf := hf.trans (e_M_client cli)
  refine lv_iload_n hx hb d_M_client_0 rfl (lv_at hl 0 rfl) ?_
  refine lv_if_lt (tgt := 13) hx hb d_M_client_1 rfl (fun h1 => ?_) (fun h1 => ?_)
  · have hf := hf.trans (if_pos h1)
    refine lv_iconst (v := 0) hx hb d_M_client_13 (by decide) ?_
    exact ro_zret hx hb hr hlocks rfl hf d_M_client_14
  · have hf := hf.trans (if_neg h1)
    refine lv_iload_n hx hb d_M_client_4 rfl (lv_at hl 0 rfl) ?_
    refine lv_iconst (v := 3) hx hb d_M_client_5 (by decide) ?_
    refine lv_icmp_ge (tgt := 13) hx hb d_M_client_6 rfl (fun h6 => ?_) (fun h6 => ?_)
    · have hf := hf.trans (if_pos h6)
      refine lv_iconst (v := 0) hx hb d_M_client_13 (by decide) ?_
      exact ro_zret hx hb hr hlocks rfl hf d_M_client_14
    · have hf := hf.trans (if_neg h6)
      refine lv_iconst (v := 1) hx hb d_M_client_9 (by decide) ?_
      refine lv_goto (tgt := 14) hx hb d_M_client_10 rfl ?_
      exact ro_zret hx hb hr hlocks rfl hf d_M_client_14
set_option maxHeartbeats 4000000 in
set_option maxRecDepth 100000 in
theorem c_M_client (l : Launch) (dC : Nat → ClassId) (dI : Nat → Nat → Nat) (aC : Nat → ClassId) (b : Nat) (mu : fm_T) (cli : Int32)  : Met l y_M_client w_M_client { frames := 0, cells := 0, slots := 0, locals := 0 } (va_Pc [.int cli] (fm_C (dC, dI) clsx (tysx aC) (LM aC b) b 11 (XM) mu)) (QcRead (f_M_client cli)) 0 0 (fun _ => False) := by
  refine Met.ofW (cc := b_M_client) (maxL := 1) (ret := (some .boolean)) (by decide) rfl ?_
  intro p e s m args below meth cd s₁ B hml hv
  obtain ⟨rfl, hP, hK, hX⟩ := hv
  have hl := lv_entry ([.int cli]) (n := 1) (Nat.le_of_ble_eq_true rfl)
  rw [lg_entry_eq]
  generalize (lg_sl ([.int cli]) ++ List.replicate (1 - (lg_sl ([.int cli])).length) Slot.unset).toArray = ls at hl ⊢
  exact k_M_client l dC dI aC b ⟨B.exec, B.bytes, B.returns, hml, findClass_of_methodNamed B.named, atoms_spec (ws := w_M_client) B.pre, B.notSynchronized, hK, hX⟩ mu cli ls _ hP hl rfl
def f_M_entity (en : Int32) : Int32 := (if en < 0 then 0 else (if 8 ≤ en then 0 else 1))
theorem e_M_entity (en : Int32) : f_M_entity en = (if en < 0 then 0 else (if 8 ≤ en then 0 else 1)) := rfl
set_option maxHeartbeats 4000000 in
set_option maxRecDepth 100000 in
theorem k_M_entity (l : Launch) (dC : Nat → ClassId) (dI : Nat → Nat → Nat) (aC : Nat → ClassId) (b : Nat) {p : Program} {e : Env} {s : State} {m : MethodId} {args : Array Value} {below : List Frame} {meth : Method} {cd : Code} (hc : cx (dC, dI) (tysx aC) (XM) w_M_entity b_M_entity R_M 1 (some .boolean) p s m args meth cd) (mu : fm_T) (en : Int32)  (ls : Array Slot) (F : Int32) (hP : va_P (dC, dI) clsx (fm_w (LM aC b) b 11 mu) s.heap) (hl : lv_has ls 1 [(0, .int en)]) (hf : F = f_M_entity en) : W p l e { frames := 0, cells := 0, slots := 0, locals := 0 } s m args below meth cd s.heap [] 0 0 (MQ below (QcRead F) args s 0 0 (fun _ => False)) (F0 m 0 ls []) := by
  obtain ⟨hx, hb, hr, hml, hown, hts, hlocks, hK, hX⟩ := hc
  have hg : ∀ w ∈ gtbl, w.before args s = true := fun w h => hts w (List.mem_cons_of_mem _ h)
  have hS : va_S (fm_A b 11) s.heap s.heap [] := va_S.rf
  have hf := hf.trans (e_M_entity en)
  refine lv_iload_n hx hb d_M_entity_0 rfl (lv_at hl 0 rfl) ?_
  refine lv_if_lt (tgt := 14) hx hb d_M_entity_1 rfl (fun h1 => ?_) (fun h1 => ?_)
  · have hf := hf.trans (if_pos h1)
    refine lv_iconst (v := 0) hx hb d_M_entity_14 (by decide) ?_
    exact ro_zret hx hb hr hlocks rfl hf d_M_entity_15
  · have hf := hf.trans (if_neg h1)
    refine lv_iload_n hx hb d_M_entity_4 rfl (lv_at hl 0 rfl) ?_
    refine lv_bipush (v := 8) hx hb d_M_entity_5 (by decide) ?_
    refine lv_icmp_ge (tgt := 14) hx hb d_M_entity_7 rfl (fun h7 => ?_) (fun h7 => ?_)
    · have hf := hf.trans (if_pos h7)
      refine lv_iconst (v := 0) hx hb d_M_entity_14 (by decide) ?_
      exact ro_zret hx hb hr hlocks rfl hf d_M_entity_15
    · have hf := hf.trans (if_neg h7)
      refine lv_iconst (v := 1) hx hb d_M_entity_10 (by decide) ?_
      refine lv_goto (tgt := 15) hx hb d_M_entity_11 rfl ?_
      exact ro_zret hx hb hr hlocks rfl hf d_M_entity_15
set_option maxHeartbeats 4000000 in
set_option maxRecDepth 100000 in
theorem c_M_entity (l : Launch) (dC : Nat → ClassId) (dI : Nat → Nat → Nat) (aC : Nat → ClassId) (b : Nat) (mu : fm_T) (en : Int32)  : Met l y_M_entity w_M_entity { frames := 0, cells := 0, slots := 0, locals := 0 } (va_Pc [.int en] (fm_C (dC, dI) clsx (tysx aC) (LM aC b) b 11 (XM) mu)) (QcRead (f_M_entity en)) 0 0 (fun _ => False) := by
  refine Met.ofW (cc := b_M_entity) (maxL := 1) (ret := (some .boolean)) (by decide) rfl ?_
  intro p e s m args below meth cd s₁ B hml hv
  obtain ⟨rfl, hP, hK, hX⟩ := hv
  have hl := lv_entry ([.int en]) (n := 1) (Nat.le_of_ble_eq_true rfl)
  rw [lg_entry_eq]
  generalize (lg_sl ([.int en]) ++ List.replicate (1 - (lg_sl ([.int en])).length) Slot.unset).toArray = ls at hl ⊢
  exact k_M_entity l dC dI aC b ⟨B.exec, B.bytes, B.returns, hml, findClass_of_methodNamed B.named, atoms_spec (ws := w_M_entity) B.pre, B.notSynchronized, hK, hX⟩ mu en ls _ hP hl rfl
def f_M_apart (pa : Int32) (pb : Int32) : Int32 := (if pb ≤ pa then pa - pb else pb - pa)
theorem e_M_apart (pa : Int32) (pb : Int32) : f_M_apart pa pb = (if pb ≤ pa then pa - pb else pb - pa) := rfl
set_option maxHeartbeats 4000000 in
set_option maxRecDepth 100000 in
theorem k_M_apart (l : Launch) (dC : Nat → ClassId) (dI : Nat → Nat → Nat) (aC : Nat → ClassId) (b : Nat) {p : Program} {e : Env} {s : State} {m : MethodId} {args : Array Value} {below : List Frame} {meth : Method} {cd : Code} (hc : cx (dC, dI) (tysx aC) (XM) w_M_apart b_M_apart R_M 2 (some .int) p s m args meth cd) (mu : fm_T) (pa : Int32) (pb : Int32)  (ls : Array Slot) (F : Int32) (hP : va_P (dC, dI) clsx (fm_w (LM aC b) b 11 mu) s.heap) (hl : lv_has ls 2 [(0, .int pa), (1, .int pb)]) (hf : F = f_M_apart pa pb) : W p l e { frames := 0, cells := 0, slots := 0, locals := 0 } s m args below meth cd s.heap [] 0 0 (MQ below (QcRead F) args s 0 0 (fun _ => False)) (F0 m 0 ls []) := by
  obtain ⟨hx, hb, hr, hml, hown, hts, hlocks, hK, hX⟩ := hc
  have hg : ∀ w ∈ gtbl, w.before args s = true := fun w h => hts w (List.mem_cons_of_mem _ h)
  have hS : va_S (fm_A b 11) s.heap s.heap [] := va_S.rf
  have hf := hf.trans (e_M_apart pa pb)
  refine lv_iload_n hx hb d_M_apart_0 rfl (lv_at hl 0 rfl) ?_
  refine lv_iload_n hx hb d_M_apart_1 rfl (lv_at hl 1 rfl) ?_
  refine lv_icmp_ge (tgt := 11) hx hb d_M_apart_2 rfl (fun h2 => ?_) (fun h2 => ?_)
  · have hf := hf.trans (if_pos h2)
    refine lv_iload_n hx hb d_M_apart_11 rfl (lv_at hl 0 rfl) ?_
    refine lv_iload_n hx hb d_M_apart_12 rfl (lv_at hl 1 rfl) ?_
    refine lv_isub hx hb d_M_apart_13 ?_
    exact ro_iret hx hb hr hlocks hf d_M_apart_14
  · have hf := hf.trans (if_neg h2)
    refine lv_iload_n hx hb d_M_apart_5 rfl (lv_at hl 1 rfl) ?_
    refine lv_iload_n hx hb d_M_apart_6 rfl (lv_at hl 0 rfl) ?_
    refine lv_isub hx hb d_M_apart_7 ?_
    refine lv_goto (tgt := 14) hx hb d_M_apart_8 rfl ?_
    exact ro_iret hx hb hr hlocks hf d_M_apart_14
set_option maxHeartbeats 4000000 in
set_option maxRecDepth 100000 in
theorem c_M_apart (l : Launch) (dC : Nat → ClassId) (dI : Nat → Nat → Nat) (aC : Nat → ClassId) (b : Nat) (mu : fm_T) (pa : Int32) (pb : Int32)  : Met l y_M_apart w_M_apart { frames := 0, cells := 0, slots := 0, locals := 0 } (va_Pc [.int pa, .int pb] (fm_C (dC, dI) clsx (tysx aC) (LM aC b) b 11 (XM) mu)) (QcRead (f_M_apart pa pb)) 0 0 (fun _ => False) := by
  refine Met.ofW (cc := b_M_apart) (maxL := 2) (ret := (some .int)) (by decide) rfl ?_
  intro p e s m args below meth cd s₁ B hml hv
  obtain ⟨rfl, hP, hK, hX⟩ := hv
  have hl := lv_entry ([.int pa, .int pb]) (n := 2) (Nat.le_of_ble_eq_true rfl)
  rw [lg_entry_eq]
  generalize (lg_sl ([.int pa, .int pb]) ++ List.replicate (2 - (lg_sl ([.int pa, .int pb])).length) Slot.unset).toArray = ls at hl ⊢
  exact k_M_apart l dC dI aC b ⟨B.exec, B.bytes, B.returns, hml, findClass_of_methodNamed B.named, atoms_spec (ws := w_M_apart) B.pre, B.notSynchronized, hK, hX⟩ mu pa pb ls _ hP hl rfl
