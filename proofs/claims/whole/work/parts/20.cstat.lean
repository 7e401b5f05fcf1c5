/-! printed by wip/whole/gen: D_isSquare D_placeOf D_isEntity D_isClient D_isDirection D_isCommand D_distance A_rowOf A_entitySize -/
def f_D_isSquare (px : Int32) (py : Int32) : Int32 := (if px < 0 then 0 else (if 16 ≤ px then 0 else (if py < 0 then 0 else (if 16 ≤ py then 0 else 1))))
theorem e_D_isSquare (px : Int32) (py : Int32) : f_D_isSquare px py = (if px < 0 then 0 else (if 16 ≤ px then 0 else (if py < 0 then 0 else (if 16 ≤ py then 0 else 1)))) := rfl
set_option maxHeartbeats 4000000 in
set_option maxRecDepth 100000 in
theorem k_D_isSquare (l : Launch) (dC : Nat → ClassId) (dI : Nat → Nat → Nat) (aC : Nat → ClassId) (b : Nat) {p : Program} {e : Env} {s : State} {m : MethodId} {args : Array Value} {below : List Frame} {meth : Method} {cd : Code} (hc : cx (dC, dI) (tysx aC) (XC b) w_D_isSquare b_D_isSquare R_D 2 (some .boolean) p s m args meth cd) (mu : fm_T) (px : Int32) (py : Int32)  (ls : Array Slot) (F : Int32) (hP : va_P (dC, dI) clsx (fm_w (LC aC b) b 99 mu) s.heap) (hl : lv_has ls 2 [(0, .int px), (1, .int py)]) (hf : F = f_D_isSquare px py) : W p l e { frames := 0, cells := 0, slots := 0, locals := 0 } s m args below meth cd s.heap [] 0 0 (MQ below (QcRead F) args s 0 0 (fun _ => False)) (F0 m 0 ls []) := by
  obtain ⟨hx, hb, hr, hml, hown, hts, hlocks, hK, hX⟩ := hc
  have hg : ∀ w ∈ gtbl, w.before args s = true := fun w h => hts w (List.mem_cons_of_mem _ h)
  have hS : va_S (fm_A b 99) s.heap s.heap [] := va_S.rf
  have hf := hf.trans (e_D_isSquare px py)
  refine lv_iload_n hx hb d_D_isSquare_0 rfl (lv_at hl 0 rfl) ?_
  refine lv_if_lt (tgt := 24) hx hb d_D_isSquare_1 rfl (fun h1 => ?_) (fun h1 => ?_)
  · have hf := hf.trans (if_pos h1)
    refine lv_iconst (v := 0) hx hb d_D_isSquare_24 (by decide) ?_
    exact ro_zret hx hb hr hlocks rfl hf d_D_isSquare_25
  · have hf := hf.trans (if_neg h1)
    refine lv_iload_n hx hb d_D_isSquare_4 rfl (lv_at hl 0 rfl) ?_
    refine lv_bipush (v := 16) hx hb d_D_isSquare_5 (by decide) ?_
    refine lv_icmp_ge (tgt := 24) hx hb d_D_isSquare_7 rfl (fun h7 => ?_) (fun h7 => ?_)
    · have hf := hf.trans (if_pos h7)
      refine lv_iconst (v := 0) hx hb d_D_isSquare_24 (by decide) ?_
      exact ro_zret hx hb hr hlocks rfl hf d_D_isSquare_25
    · have hf := hf.trans (if_neg h7)
      refine lv_iload_n hx hb d_D_isSquare_10 rfl (lv_at hl 1 rfl) ?_
      refine lv_if_lt (tgt := 24) hx hb d_D_isSquare_11 rfl (fun h11 => ?_) (fun h11 => ?_)
      · have hf := hf.trans (if_pos h11)
        refine lv_iconst (v := 0) hx hb d_D_isSquare_24 (by decide) ?_
        exact ro_zret hx hb hr hlocks rfl hf d_D_isSquare_25
      · have hf := hf.trans (if_neg h11)
        refine lv_iload_n hx hb d_D_isSquare_14 rfl (lv_at hl 1 rfl) ?_
        refine lv_bipush (v := 16) hx hb d_D_isSquare_15 (by decide) ?_
        refine lv_icmp_ge (tgt := 24) hx hb d_D_isSquare_17 rfl (fun h17 => ?_) (fun h17 => ?_)
        · have hf := hf.trans (if_pos h17)
          refine lv_iconst (v := 0) hx hb d_D_isSquare_24 (by decide) ?_
          exact ro_zret hx hb hr hlocks rfl hf d_D_isSquare_25
        · have hf := hf.trans (if_neg h17)
          refine lv_iconst (v := 1) hx hb d_D_isSquare_20 (by decide) ?_
          refine lv_goto (tgt := 25) hx hb d_D_isSquare_21 rfl ?_
          exact ro_zret hx hb hr hlocks rfl hf d_D_isSquare_25
set_option maxHeartbeats 4000000 in
set_option maxRecDepth 100000 in
theorem c_D_isSquare (l : Launch) (dC : Nat → ClassId) (dI : Nat → Nat → Nat) (aC : Nat → ClassId) (b : Nat) (mu : fm_T) (px : Int32) (py : Int32)  : Met l y_D_isSquare w_D_isSquare { frames := 0, cells := 0, slots := 0, locals := 0 } (va_Pc [.int px, .int py] (fm_C (dC, dI) clsx (tysx aC) (LC aC b) b 99 (XC b) mu)) (QcRead (f_D_isSquare px py)) 0 0 (fun _ => False) := by
  refine Met.ofW (cc := b_D_isSquare) (maxL := 2) (ret := (some .boolean)) (by decide) rfl ?_
  intro p e s m args below meth cd s₁ B hml hv
  obtain ⟨rfl, hP, hK, hX⟩ := hv
  have hl := lv_entry ([.int px, .int py]) (n := 2) (Nat.le_of_ble_eq_true rfl)
  rw [lg_entry_eq]
  generalize (lg_sl ([.int px, .int py]) ++ List.replicate (2 - (lg_sl ([.int px, .int py])).length) Slot.unset).toArray = ls at hl ⊢
  exact k_D_isSquare l dC dI aC b ⟨B.exec, B.bytes, B.returns, hml, findClass_of_methodNamed B.named, atoms_spec (ws := w_D_isSquare) B.pre, B.notSynchronized, hK, hX⟩ mu px py ls _ hP hl rfl
def f_D_placeOf (px : Int32) (py : Int32) : Int32 := px + (16 * py)
theorem e_D_placeOf (px : Int32) (py : Int32) : f_D_placeOf px py = px + (16 * py) := rfl
set_option maxHeartbeats 4000000 in
set_option maxRecDepth 100000 in
theorem k_D_placeOf (l : Launch) (dC : Nat → ClassId) (dI : Nat → Nat → Nat) (aC : Nat → ClassId) (b : Nat) {p : Program} {e : Env} {s : State} {m : MethodId} {args : Array Value} {below : List Frame} {meth : Method} {cd : Code} (hc : cx (dC, dI) (tysx aC) (XC b) w_D_placeOf b_D_placeOf R_D 2 (some .int) p s m args meth cd) (mu : fm_T) (px : Int32) (py : Int32)  (ls : Array Slot) (F : Int32) (hP : va_P (dC, dI) clsx (fm_w (LC aC b) b 99 mu) s.heap) (hl : lv_has ls 2 [(0, .int px), (1, .int py)]) (hf : F = f_D_placeOf px py) : W p l e { frames := 0, cells := 0, slots := 0, locals := 0 } s m args below meth cd s.heap [] 0 0 (MQ below (QcRead F) args s 0 0 (fun _ => False)) (F0 m 0 ls []) := by
  obtain ⟨hx, hb, hr, hml, hown, hts, hlocks, hK, hX⟩ := hc
  have hg : ∀ w ∈ gtbl, w.before args s = true := fun w h => hts w (List.mem_cons_of_mem _ h)
  have hS : va_S (fm_A b 99) s.heap s.heap [] := va_S.rf
  have hf := hf.trans (e_D_placeOf px py)
  refine lv_iload_n hx hb d_D_placeOf_0 rfl (lv_at hl 0 rfl) ?_
  refine lv_bipush (v := 16) hx hb d_D_placeOf_1 (by decide) ?_
  refine lv_iload_n hx hb d_D_placeOf_3 rfl (lv_at hl 1 rfl) ?_
  refine lv_imul hx hb d_D_placeOf_4 ?_
  refine lv_iadd hx hb d_D_placeOf_5 ?_
  exact ro_iret hx hb hr hlocks hf d_D_placeOf_6
set_option maxHeartbeats 4000000 in
set_option maxRecDepth 100000 in
theorem c_D_placeOf (l : Launch) (dC : Nat → ClassId) (dI : Nat → Nat → Nat) (aC : Nat → ClassId) (b : Nat) (mu : fm_T) (px : Int32) (py : Int32)  : Met l y_D_placeOf w_D_placeOf { frames := 0, cells := 0, slots := 0, locals := 0 } (va_Pc [.int px, .int py] (fm_C (dC, dI) clsx (tysx aC) (LC aC b) b 99 (XC b) mu)) (QcRead (f_D_placeOf px py)) 0 0 (fun _ => False) := by
  refine Met.ofW (cc := b_D_placeOf) (maxL := 2) (ret := (some .int)) (by decide) rfl ?_
  intro p e s m args below meth cd s₁ B hml hv
  obtain ⟨rfl, hP, hK, hX⟩ := hv
  have hl := lv_entry ([.int px, .int py]) (n := 2) (Nat.le_of_ble_eq_true rfl)
  rw [lg_entry_eq]
  generalize (lg_sl ([.int px, .int py]) ++ List.replicate (2 - (lg_sl ([.int px, .int py])).length) Slot.unset).toArray = ls at hl ⊢
  exact k_D_placeOf l dC dI aC b ⟨B.exec, B.bytes, B.returns, hml, findClass_of_methodNamed B.named, atoms_spec (ws := w_D_placeOf) B.pre, B.notSynchronized, hK, hX⟩ mu px py ls _ hP hl rfl
def f_D_isEntity (en : Int32) : Int32 := (if en < 0 then 0 else (if 8 ≤ en then 0 else 1))
theorem e_D_isEntity (en : Int32) : f_D_isEntity en = (if en < 0 then 0 else (if 8 ≤ en then 0 else 1)) := rfl
set_option maxHeartbeats 4000000 in
set_option maxRecDepth 100000 in
theorem k_D_isEntity (l : Launch) (dC : Nat → ClassId) (dI : Nat → Nat → Nat) (aC : Nat → ClassId) (b : Nat) {p : Program} {e : Env} {s : State} {m : MethodId} {args : Array Value} {below : List Frame} {meth : Method} {cd : Code} (hc : cx (dC, dI) (tysx aC) (XC b) w_D_isEntity b_D_isEntity R_D 1 (some .boolean) p s m args meth cd) (mu : fm_T) (en : Int32)  (ls : Array Slot) (F : Int32) (hP : va_P (dC, dI) clsx (fm_w (LC aC b) b 99 mu) s.heap) (hl : lv_has ls 1 [(0, .int en)]) (hf : F = f_D_isEntity en) : W p l e { frames := 0, cells := 0, slots := 0, locals := 0 } s m args below meth cd s.heap [] 0 0 (MQ below (QcRead F) args s 0 0 (fun _ => False)) (F0 m 0 ls []) := by
  obtain ⟨hx, hb, hr, hml, hown, hts, hlocks, hK, hX⟩ := hc
  have hg : ∀ w ∈ gtbl, w.before args s = true := fun w h => hts w (List.mem_cons_of_mem _ h)
  have hS : va_S (fm_A b 99) s.heap s.heap [] := va_S.rf
  have hf := hf.trans (e_D_isEntity en)
  refine lv_iload_n hx hb d_D_isEntity_0 rfl (lv_at hl 0 rfl) ?_
  refine lv_if_lt (tgt := 14) hx hb d_D_isEntity_1 rfl (fun h1 => ?_) (fun h1 => ?_)
  · have hf := hf.trans (if_pos h1)
    refine lv_iconst (v := 0) hx hb d_D_isEntity_14 (by decide) ?_
    exact ro_zret hx hb hr hlocks rfl hf d_D_isEntity_15
  · have hf := hf.trans (if_neg h1)
    refine lv_iload_n hx hb d_D_isEntity_4 rfl (lv_at hl 0 rfl) ?_
    refine lv_bipush (v := 8) hx hb d_D_isEntity_5 (by decide) ?_
    refine lv_icmp_ge (tgt := 14) hx hb d_D_isEntity_7 rfl (fun h7 => ?_) (fun h7 => ?_)
    · have hf := hf.trans (if_pos h7)
      refine lv_iconst (v := 0) hx hb d_D_isEntity_14 (by decide) ?_
      exact ro_zret hx hb hr hlocks rfl hf d_D_isEntity_15
    · have hf := hf.trans (if_neg h7)
      refine lv_iconst (v := 1) hx hb d_D_isEntity_10 (by decide) ?_
      refine lv_goto (tgt := 15) hx hb d_D_isEntity_11 rfl ?_
      exact ro_zret hx hb hr hlocks rfl hf d_D_isEntity_15
set_option maxHeartbeats 4000000 in
set_option maxRecDepth 100000 in
theorem c_D_isEntity (l : Launch) (dC : Nat → ClassId) (dI : Nat → Nat → Nat) (aC : Nat → ClassId) (b : Nat) (mu : fm_T) (en : Int32)  : Met l y_D_isEntity w_D_isEntity { frames := 0, cells := 0, slots := 0, locals := 0 } (va_Pc [.int en] (fm_C (dC, dI) clsx (tysx aC) (LC aC b) b 99 (XC b) mu)) (QcRead (f_D_isEntity en)) 0 0 (fun _ => False) := by
  refine Met.ofW (cc := b_D_isEntity) (maxL := 1) (ret := (some .boolean)) (by decide) rfl ?_
  intro p e s m args below meth cd s₁ B hml hv
  obtain ⟨rfl, hP, hK, hX⟩ := hv
  have hl := lv_entry ([.int en]) (n := 1) (Nat.le_of_ble_eq_true rfl)
  rw [lg_entry_eq]
  generalize (lg_sl ([.int en]) ++ List.replicate (1 - (lg_sl ([.int en])).length) Slot.unset).toArray = ls at hl ⊢
  exact k_D_isEntity l dC dI aC b ⟨B.exec, B.bytes, B.returns, hml, findClass_of_methodNamed B.named, atoms_spec (ws := w_D_isEntity) B.pre, B.notSynchronized, hK, hX⟩ mu en ls _ hP hl rfl
def f_D_isClient (cli : Int32) : Int32 := (if cli < 0 then 0 else (if 3 ≤ cli then 0 else 1))
theorem e_D_isClient (cli : Int32) : f_D_isClient cli = (if cli < 0 then 0 else (if 3 ≤ cli then 0 else 1)) := rfl
set_option maxHeartbeats 4000000 in
set_option maxRecDepth 100000 in
theorem k_D_isClient (l : Launch) (dC : Nat → ClassId) (dI : Nat → Nat → Nat) (aC : Nat → ClassId) (b : Nat) {p : Program} {e : Env} {s : State} {m : MethodId} {args : Array Value} {below : List Frame} {meth : Method} {cd : Code} (hc : cx (dC, dI) (tysx aC) (XC b) w_D_isClient b_D_isClient R_D 1 (some .boolean) p s m args meth cd) (mu : fm_T) (cli : Int32)  (ls : Array Slot) (F : Int32) (hP : va_P (dC, dI) clsx (fm_w (LC aC b) b 99 mu) s.heap) (hl : lv_has ls 1 [(0, .int cli)]) (hf : F = f_D_isClient cli) : W p l e { frames := 0, cells := 0, slots := 0, locals := 0 } s m args below meth cd s.heap [] 0 0 (MQ below (QcRead F) args s 0 0 (fun _ => False)) (F0 m 0 ls []) := by
  obtain ⟨hx, hb, hr, hml, hown, hts, hlocks, hK, hX⟩ := hc
  have hg : ∀ w ∈ gtbl, w.before args s = true := fun w h => hts w (List.mem_cons_of_mem _ h)
  have hS : va_S (fm_A b 99) s.heap s.heap [] := va_S.rf
  have hf := hf.trans (e_D_isClient cli)
  refine lv_iload_n hx hb d_D_isClient_0 rfl (lv_at hl 0 rfl) ?_
  refine lv_if_lt (tgt := 13) hx hb d_D_isClient_1 rfl (fun h1 => ?_) (fun h1 => ?_)
  · have hf := hf.trans (if_pos h1)
    refine lv_iconst (v := 0) hx hb d_D_isClient_13 (by decide) ?_
    exact ro_zret hx hb hr hlocks rfl hf d_D_isClient_14
  · have hf := hf.trans (if_neg h1)
    refine lv_iload_n hx hb d_D_isClient_4 rfl (lv_at hl 0 rfl) ?_
    refine lv_iconst (v := 3) hx hb d_D_isClient_5 (by decide) ?_
    refine lv_icmp_ge (tgt := 13) hx hb d_D_isClient_6 rfl (fun h6 => ?_) (fun h6 => ?_)
    · have hf := hf.trans (if_pos h6)
      refine lv_iconst (v := 0) hx hb d_D_isClient_13 (by decide) ?_
      exact ro_zret hx hb hr hlocks rfl hf d_D_isClient_14
    · have hf := hf.trans (if_neg h6)
      refine lv_iconst (v := 1) hx hb d_D_isClient_9 (by decide) ?_
      refine lv_goto (tgt := 14) hx hb d_D_isClient_10 rfl ?_
      exact ro_zret hx hb hr hlocks rfl hf d_D_isClient_14
set_option maxHeartbeats 4000000 in
set_option maxRecDepth 100000 in
theorem c_D_isClient (l : Launch) (dC : Nat → ClassId) (dI : Nat → Nat → Nat) (aC : Nat → ClassId) (b : Nat) (mu : fm_T) (cli : Int32)  : Met l y_D_isClient w_D_isClient { frames := 0, cells := 0, slots := 0, locals := 0 } (va_Pc [.int cli] (fm_C (dC, dI) clsx (tysx aC) (LC aC b) b 99 (XC b) mu)) (QcRead (f_D_isClient cli)) 0 0 (fun _ => False) := by
  refine Met.ofW (cc := b_D_isClient) (maxL := 1) (ret := (some .boolean)) (by decide) rfl ?_
  intro p e s m args below meth cd s₁ B hml hv
  obtain ⟨rfl, hP, hK, hX⟩ := hv
  have hl := lv_entry ([.int cli]) (n := 1) (Nat.le_of_ble_eq_true rfl)
  rw [lg_entry_eq]
  generalize (lg_sl ([.int cli]) ++ List.replicate (1 - (lg_sl ([.int cli])).length) Slot.unset).toArray = ls at hl ⊢
  exact k_D_isClient l dC dI aC b ⟨B.exec, B.bytes, B.returns, hml, findClass_of_methodNamed B.named, atoms_spec (ws := w_D_isClient) B.pre, B.notSynchronized, hK, hX⟩ mu cli ls _ hP hl rfl
def f_D_isDirection (dr : Int32) : Int32 := (if dr < 0 then 0 else (if 4 ≤ dr then 0 else 1))
theorem e_D_isDirection (dr : Int32) : f_D_isDirection dr = (if dr < 0 then 0 else (if 4 ≤ dr then 0 else 1)) := rfl
set_option maxHeartbeats 4000000 in
set_option maxRecDepth 100000 in
theorem k_D_isDirection (l : Launch) (dC : Nat → ClassId) (dI : Nat → Nat → Nat) (aC : Nat → ClassId) (b : Nat) {p : Program} {e : Env} {s : State} {m : MethodId} {args : Array Value} {below : List Frame} {meth : Method} {cd : Code} (hc : cx (dC, dI) (tysx aC) (XC b) w_D_isDirection b_D_isDirection R_D 1 (some .boolean) p s m args meth cd) (mu : fm_T) (dr : Int32)  (ls : Array Slot) (F : Int32) (hP : va_P (dC, dI) clsx (fm_w (LC aC b) b 99 mu) s.heap) (hl : lv_has ls 1 [(0, .int dr)]) (hf : F = f_D_isDirection dr) : W p l e { frames := 0, cells := 0, slots := 0, locals := 0 } s m args below meth cd s.heap [] 0 0 (MQ below (QcRead F) args s 0 0 (fun _ => False)) (F0 m 0 ls []) := by
  obtain ⟨hx, hb, hr, hml, hown, hts, hlocks, hK, hX⟩ := hc
  have hg : ∀ w ∈ gtbl, w.before args s = true := fun w h => hts w (List.mem_cons_of_mem _ h)
  have hS : va_S (fm_A b 99) s.heap s.heap [] := va_S.rf
  have hf := hf.trans (e_D_isDirection dr)
  refine lv_iload_n hx hb d_D_isDirection_0 rfl (lv_at hl 0 rfl) ?_
  refine lv_if_lt (tgt := 13) hx hb d_D_isDirection_1 rfl (fun h1 => ?_) (fun h1 => ?_)
  · have hf := hf.trans (if_pos h1)
    refine lv_iconst (v := 0) hx hb d_D_isDirection_13 (by decide) ?_
    exact ro_zret hx hb hr hlocks rfl hf d_D_isDirection_14
  · have hf := hf.trans (if_neg h1)
    refine lv_iload_n hx hb d_D_isDirection_4 rfl (lv_at hl 0 rfl) ?_
    refine lv_iconst (v := 4) hx hb d_D_isDirection_5 (by decide) ?_
    refine lv_icmp_ge (tgt := 13) hx hb d_D_isDirection_6 rfl (fun h6 => ?_) (fun h6 => ?_)
    · have hf := hf.trans (if_pos h6)
      refine lv_iconst (v := 0) hx hb d_D_isDirection_13 (by decide) ?_
      exact ro_zret hx hb hr hlocks rfl hf d_D_isDirection_14
    · have hf := hf.trans (if_neg h6)
      refine lv_iconst (v := 1) hx hb d_D_isDirection_9 (by decide) ?_
      refine lv_goto (tgt := 14) hx hb d_D_isDirection_10 rfl ?_
      exact ro_zret hx hb hr hlocks rfl hf d_D_isDirection_14
set_option maxHeartbeats 4000000 in
set_option maxRecDepth 100000 in
theorem c_D_isDirection (l : Launch) (dC : Nat → ClassId) (dI : Nat → Nat → Nat) (aC : Nat → ClassId) (b : Nat) (mu : fm_T) (dr : Int32)  : Met l y_D_isDirection w_D_isDirection { frames := 0, cells := 0, slots := 0, locals := 0 } (va_Pc [.int dr] (fm_C (dC, dI) clsx (tysx aC) (LC aC b) b 99 (XC b) mu)) (QcRead (f_D_isDirection dr)) 0 0 (fun _ => False) := by
  refine Met.ofW (cc := b_D_isDirection) (maxL := 1) (ret := (some .boolean)) (by decide) rfl ?_
  intro p e s m args below meth cd s₁ B hml hv
  obtain ⟨rfl, hP, hK, hX⟩ := hv
  have hl := lv_entry ([.int dr]) (n := 1) (Nat.le_of_ble_eq_true rfl)
  rw [lg_entry_eq]
  generalize (lg_sl ([.int dr]) ++ List.replicate (1 - (lg_sl ([.int dr])).length) Slot.unset).toArray = ls at hl ⊢
  exact k_D_isDirection l dC dI aC b ⟨B.exec, B.bytes, B.returns, hml, findClass_of_methodNamed B.named, atoms_spec (ws := w_D_isDirection) B.pre, B.notSynchronized, hK, hX⟩ mu dr ls _ hP hl rfl
def f_D_isCommand (cmd : Int32) : Int32 := (if (f_D_isDirection cmd) = 0 then (if cmd = 4 then 1 else 0) else 1)
theorem e_D_isCommand (cmd : Int32) : f_D_isCommand cmd = (if (f_D_isDirection cmd) = 0 then (if cmd = 4 then 1 else 0) else 1) := rfl
set_option maxHeartbeats 4000000 in
set_option maxRecDepth 100000 in
theorem k_D_isCommand (l : Launch) (dC : Nat → ClassId) (dI : Nat → Nat → Nat) (aC : Nat → ClassId) (b : Nat) {p : Program} {e : Env} {s : State} {m : MethodId} {args : Array Value} {below : List Frame} {meth : Method} {cd : Code} (hc : cx (dC, dI) (tysx aC) (XC b) w_D_isCommand b_D_isCommand R_D 1 (some .boolean) p s m args meth cd) (mu : fm_T) (cmd : Int32)  (ls : Array Slot) (F : Int32) (hP : va_P (dC, dI) clsx (fm_w (LC aC b) b 99 mu) s.heap) (hl : lv_has ls 1 [(0, .int cmd)]) (hf : F = f_D_isCommand cmd) : W p l e { frames := 1, cells := 0, slots := 0, locals := 20 } s m args below meth cd s.heap [] 0 0 (MQ below (QcRead F) args s 0 0 (fun _ => False)) (F0 m 0 ls []) := by
  obtain ⟨hx, hb, hr, hml, hown, hts, hlocks, hK, hX⟩ := hc
  have hg : ∀ w ∈ gtbl, w.before args s = true := fun w h => hts w (List.mem_cons_of_mem _ h)
  have hS : va_S (fm_A b 99) s.heap s.heap [] := va_S.rf
  have hf := hf.trans (e_D_isCommand cmd)
  refine lv_iload_n hx hb d_D_isCommand_0 rfl (lv_at hl 0 rfl) ?_
  refine ro_call (va_runS (As := [.int cmd]) (rest := []) ⟨hx, hb, hml, hown, hts⟩ (c_D_isDirection l dC dI aC b mu cmd) (cw_S (fun w h => List.mem_cons_of_mem _ h) hts ks_D_isDirection ml_D_75 ⟨Nat.le_of_ble_eq_true rfl, Nat.le_of_ble_eq_true rfl⟩ rfl rfl) (fm_preS XC_bl (XC_mv hX hS) hK hP) rfl rfl hl.1 rfl (lv_room (Nat.le_of_ble_eq_true rfl)) d_D_isCommand_1 ⟨Nat.zero_le _, Nat.zero_le _⟩) ?_
  refine lv_if_ne (tgt := 12) hx hb d_D_isCommand_4 rfl (fun h4 => ?_) (fun h4 => ?_)
  · have hf := hf.trans (if_neg h4)
    refine lv_iconst (v := 1) hx hb d_D_isCommand_12 (by decide) ?_
    refine lv_goto (tgt := 17) hx hb d_D_isCommand_13 rfl ?_
    exact ro_zret hx hb hr hlocks rfl hf d_D_isCommand_17
  · have hf := hf.trans (if_pos h4)
    refine lv_iload_n hx hb d_D_isCommand_7 rfl (lv_at hl 0 rfl) ?_
    refine lv_iconst (v := 4) hx hb d_D_isCommand_8 (by decide) ?_
    refine lv_icmp_ne (tgt := 16) hx hb d_D_isCommand_9 rfl (fun h9 => ?_) (fun h9 => ?_)
    · have hf := hf.trans (if_neg h9)
      refine lv_iconst (v := 0) hx hb d_D_isCommand_16 (by decide) ?_
      exact ro_zret hx hb hr hlocks rfl hf d_D_isCommand_17
    · have hf := hf.trans (if_pos h9)
      refine lv_iconst (v := 1) hx hb d_D_isCommand_12 (by decide) ?_
      refine lv_goto (tgt := 17) hx hb d_D_isCommand_13 rfl ?_
      exact ro_zret hx hb hr hlocks rfl hf d_D_isCommand_17
set_option maxHeartbeats 4000000 in
set_option maxRecDepth 100000 in
theorem c_D_isCommand (l : Launch) (dC : Nat → ClassId) (dI : Nat → Nat → Nat) (aC : Nat → ClassId) (b : Nat) (mu : fm_T) (cmd : Int32)  : Met l y_D_isCommand w_D_isCommand { frames := 1, cells := 0, slots := 0, locals := 20 } (va_Pc [.int cmd] (fm_C (dC, dI) clsx (tysx aC) (LC aC b) b 99 (XC b) mu)) (QcRead (f_D_isCommand cmd)) 0 0 (fun _ => False) := by
  refine Met.ofW (cc := b_D_isCommand) (maxL := 1) (ret := (some .boolean)) (by decide) rfl ?_
  intro p e s m args below meth cd s₁ B hml hv
  obtain ⟨rfl, hP, hK, hX⟩ := hv
  have hl := lv_entry ([.int cmd]) (n := 1) (Nat.le_of_ble_eq_true rfl)
  rw [lg_entry_eq]
  generalize (lg_sl ([.int cmd]) ++ List.replicate (1 - (lg_sl ([.int cmd])).length) Slot.unset).toArray = ls at hl ⊢
  exact k_D_isCommand l dC dI aC b ⟨B.exec, B.bytes, B.returns, hml, findClass_of_methodNamed B.named, atoms_spec (ws := w_D_isCommand) B.pre, B.notSynchronized, hK, hX⟩ mu cmd ls _ hP hl rfl
def f_D_distance (pa : Int32) (pb : Int32) : Int32 := (if 0 ≤ ((pa - pa / 16 * 16) - (pb - pb / 16 * 16)) then ((pa - pa / 16 * 16) - (pb - pb / 16 * 16)) else 0 - ((pa - pa / 16 * 16) - (pb - pb / 16 * 16))) + (if 0 ≤ ((pa / 16) - (pb / 16)) then ((pa / 16) - (pb / 16)) else 0 - ((pa / 16) - (pb / 16)))
theorem e_D_distance (pa : Int32) (pb : Int32) : f_D_distance pa pb = (if 0 ≤ ((pa - pa / 16 * 16) - (pb - pb / 16 * 16)) then ((pa - pa / 16 * 16) - (pb - pb / 16 * 16)) else 0 - ((pa - pa / 16 * 16) - (pb - pb / 16 * 16))) + (if 0 ≤ ((pa / 16) - (pb / 16)) then ((pa / 16) - (pb / 16)) else 0 - ((pa / 16) - (pb / 16))) := rfl
set_option maxHeartbeats 4000000 in
set_option maxRecDepth 100000 in
theorem k_D_distance (l : Launch) (dC : Nat → ClassId) (dI : Nat → Nat → Nat) (aC : Nat → ClassId) (b : Nat) {p : Program} {e : Env} {s : State} {m : MethodId} {args : Array Value} {below : List Frame} {meth : Method} {cd : Code} (hc : cx (dC, dI) (tysx aC) (XC b) w_D_distance b_D_distance R_D 2 (some .int) p s m args meth cd) (mu : fm_T) (pa : Int32) (pb : Int32)  (ls : Array Slot) (F : Int32) (hP : va_P (dC, dI) clsx (fm_w (LC aC b) b 99 mu) s.heap) (hl : lv_has ls 2 [(0, .int pa), (1, .int pb)]) (hf : F = f_D_distance pa pb) : W p l e { frames := 1, cells := 0, slots := 0, locals := 24 } s m args below meth cd s.heap [] 0 0 (MQ below (QcRead F) args s 0 0 (fun _ => False)) (F0 m 0 ls []) := by
  obtain ⟨hx, hb, hr, hml, hown, hts, hlocks, hK, hX⟩ := hc
  have hg : ∀ w ∈ gtbl, w.before args s = true := fun w h => hts w (List.mem_cons_of_mem _ h)
  have hS : va_S (fm_A b 99) s.heap s.heap [] := va_S.rf
  have hf := hf.trans (e_D_distance pa pb)
  refine lv_iload_n hx hb d_D_distance_0 rfl (lv_at hl 0 rfl) ?_
  refine lv_bipush (v := 16) hx hb d_D_distance_1 (by decide) ?_
  refine lv_irem hx hb d_D_distance_3 (by decide) ?_
  refine lv_iload_n hx hb d_D_distance_4 rfl (lv_at hl 1 rfl) ?_
  refine lv_bipush (v := 16) hx hb d_D_distance_5 (by decide) ?_
  refine lv_irem hx hb d_D_distance_7 (by decide) ?_
  refine lv_isub hx hb d_D_distance_8 ?_
  refine va_mabs hx hb (by rw [hml]; exact hl.1.symm) hown (hg _ ml_D_191) (hg _ st_Math_abs) (hg _ in_Math) (hg _ co_Math_abs) (Nat.le_of_ble_eq_true rfl) (Nat.le_of_ble_eq_true rfl) (Nat.zero_le _) (Nat.zero_le _) d_D_distance_9 ?_
  refine lv_iload_n hx hb d_D_distance_12 rfl (lv_at hl 0 rfl) ?_
  refine lv_bipush (v := 16) hx hb d_D_distance_13 (by decide) ?_
  refine lv_idiv hx hb d_D_distance_15 (by decide) ?_
  refine lv_iload_n hx hb d_D_distance_16 rfl (lv_at hl 1 rfl) ?_
  refine lv_bipush (v := 16) hx hb d_D_distance_17 (by decide) ?_
  refine lv_idiv hx hb d_D_distance_19 (by decide) ?_
  refine lv_isub hx hb d_D_distance_20 ?_
  refine va_mabs hx hb (by rw [hml]; exact hl.1.symm) hown (hg _ ml_D_191) (hg _ st_Math_abs) (hg _ in_Math) (hg _ co_Math_abs) (Nat.le_of_ble_eq_true rfl) (Nat.le_of_ble_eq_true rfl) (Nat.zero_le _) (Nat.zero_le _) d_D_distance_21 ?_
  refine lv_iadd hx hb d_D_distance_24 ?_
  exact ro_iret hx hb hr hlocks hf d_D_distance_25
set_option maxHeartbeats 4000000 in
set_option maxRecDepth 100000 in
theorem c_D_distance (l : Launch) (dC : Nat → ClassId) (dI : Nat → Nat → Nat) (aC : Nat → ClassId) (b : Nat) (mu : fm_T) (pa : Int32) (pb : Int32)  : Met l y_D_distance w_D_distance { frames := 1, cells := 0, slots := 0, locals := 24 } (va_Pc [.int pa, .int pb] (fm_C (dC, dI) clsx (tysx aC) (LC aC b) b 99 (XC b) mu)) (QcRead (f_D_distance pa pb)) 0 0 (fun _ => False) := by
  refine Met.ofW (cc := b_D_distance) (maxL := 2) (ret := (some .int)) (by decide) rfl ?_
  intro p e s m args below meth cd s₁ B hml hv
  obtain ⟨rfl, hP, hK, hX⟩ := hv
  have hl := lv_entry ([.int pa, .int pb]) (n := 2) (Nat.le_of_ble_eq_true rfl)
  rw [lg_entry_eq]
  generalize (lg_sl ([.int pa, .int pb]) ++ List.replicate (2 - (lg_sl ([.int pa, .int pb])).length) Slot.unset).toArray = ls at hl ⊢
  exact k_D_distance l dC dI aC b ⟨B.exec, B.bytes, B.returns, hml, findClass_of_methodNamed B.named, atoms_spec (ws := w_D_distance) B.pre, B.notSynchronized, hK, hX⟩ mu pa pb ls _ hP hl rfl
def f_A_rowOf (tk : Int32) : Int32 := (tk &&& 7) * 8
theorem e_A_rowOf (tk : Int32) : f_A_rowOf tk = (tk &&& 7) * 8 := rfl
set_option maxHeartbeats 4000000 in
set_option maxRecDepth 100000 in
theorem k_A_rowOf (l : Launch) (dC : Nat → ClassId) (dI : Nat → Nat → Nat) (aC : Nat → ClassId) (b : Nat) {p : Program} {e : Env} {s : State} {m : MethodId} {args : Array Value} {below : List Frame} {meth : Method} {cd : Code} (hc : cx (dC, dI) (tysx aC) (XC b) w_A_rowOf b_A_rowOf R_A 1 (some .int) p s m args meth cd) (mu : fm_T) (tk : Int32)  (ls : Array Slot) (F : Int32) (hP : va_P (dC, dI) clsx (fm_w (LC aC b) b 99 mu) s.heap) (hl : lv_has ls 1 [(0, .int tk)]) (hf : F = f_A_rowOf tk) : W p l e { frames := 0, cells := 0, slots := 0, locals := 0 } s m args below meth cd s.heap [] 0 0 (MQ below (QcRead F) args s 0 0 (fun _ => False)) (F0 m 0 ls []) := by
  obtain ⟨hx, hb, hr, hml, hown, hts, hlocks, hK, hX⟩ := hc
  have hg : ∀ w ∈ gtbl, w.before args s = true := fun w h => hts w (List.mem_cons_of_mem _ h)
  have hS : va_S (fm_A b 99) s.heap s.heap [] := va_S.rf
  have hf := hf.trans (e_A_rowOf tk)
  refine lv_iload_n hx hb d_A_rowOf_0 rfl (lv_at hl 0 rfl) ?_
  refine lv_bipush (v := 7) hx hb d_A_rowOf_1 (by decide) ?_
  refine lv_iand hx hb d_A_rowOf_3 ?_
  refine lv_bipush (v := 8) hx hb d_A_rowOf_4 (by decide) ?_
  refine lv_imul hx hb d_A_rowOf_6 ?_
  exact ro_iret hx hb hr hlocks hf d_A_rowOf_7
set_option maxHeartbeats 4000000 in
set_option maxRecDepth 100000 in
theorem c_A_rowOf (l : Launch) (dC : Nat → ClassId) (dI : Nat → Nat → Nat) (aC : Nat → ClassId) (b : Nat) (mu : fm_T) (tk : Int32)  : Met l y_A_rowOf w_A_rowOf { frames := 0, cells := 0, slots := 0, locals := 0 } (va_Pc [.int tk] (fm_C (dC, dI) clsx (tysx aC) (LC aC b) b 99 (XC b) mu)) (QcRead (f_A_rowOf tk)) 0 0 (fun _ => False) := by
  refine Met.ofW (cc := b_A_rowOf) (maxL := 1) (ret := (some .int)) (by decide) rfl ?_
  intro p e s m args below meth cd s₁ B hml hv
  obtain ⟨rfl, hP, hK, hX⟩ := hv
  have hl := lv_entry ([.int tk]) (n := 1) (Nat.le_of_ble_eq_true rfl)
  rw [lg_entry_eq]
  generalize (lg_sl ([.int tk]) ++ List.replicate (1 - (lg_sl ([.int tk])).length) Slot.unset).toArray = ls at hl ⊢
  exact k_A_rowOf l dC dI aC b ⟨B.exec, B.bytes, B.returns, hml, findClass_of_methodNamed B.named, atoms_spec (ws := w_A_rowOf) B.pre, B.notSynchronized, hK, hX⟩ mu tk ls _ hP hl rfl
def f_A_entitySize (wa : Int32) (iz : Int32) : Int32 := (if wa = (-1) then (if iz = (-1) then 1 else 9) else (if iz = (-1) then 3 else (if iz = wa then 1 else (if (f_D_distance wa iz) = 1 then 4 else 11))))
theorem e_A_entitySize (wa : Int32) (iz : Int32) : f_A_entitySize wa iz = (if wa = (-1) then (if iz = (-1) then 1 else 9) else (if iz = (-1) then 3 else (if iz = wa then 1 else (if (f_D_distance wa iz) = 1 then 4 else 11)))) := rfl
set_option maxHeartbeats 4000000 in
set_option maxRecDepth 100000 in
theorem k_A_entitySize (l : Launch) (dC : Nat → ClassId) (dI : Nat → Nat → Nat) (aC : Nat → ClassId) (b : Nat) {p : Program} {e : Env} {s : State} {m : MethodId} {args : Array Value} {below : List Frame} {meth : Method} {cd : Code} (hc : cx (dC, dI) (tysx aC) (XC b) w_A_entitySize b_A_entitySize R_A 2 (some .int) p s m args meth cd) (mu : fm_T) (wa : Int32) (iz : Int32)  (ls : Array Slot) (F : Int32) (hP : va_P (dC, dI) clsx (fm_w (LC aC b) b 99 mu) s.heap) (hl : lv_has ls 2 [(0, .int wa), (1, .int iz)]) (hf : F = f_A_entitySize wa iz) : W p l e { frames := 2, cells := 0, slots := 0, locals := 45 } s m args below meth cd s.heap [] 0 0 (MQ below (QcRead F) args s 0 0 (fun _ => False)) (F0 m 0 ls []) := by
  obtain ⟨hx, hb, hr, hml, hown, hts, hlocks, hK, hX⟩ := hc
  have hg : ∀ w ∈ gtbl, w.before args s = true := fun w h => hts w (List.mem_cons_of_mem _ h)
  have hS : va_S (fm_A b 99) s.heap s.heap [] := va_S.rf
  have hf := hf.trans (e_A_entitySize wa iz)
  have hX0 := hX
  obtain ⟨t1, t2, ⟨z1, a1⟩, ⟨z2, a2⟩, n1, n2, n3, n4, n5⟩ := hX0
  refine lv_iload_n hx hb d_A_entitySize_0 rfl (lv_at hl 0 rfl) ?_
  refine lv_iconst (v := (-1)) hx hb d_A_entitySize_1 (by decide) ?_
  refine lv_icmp_ne (tgt := 17) hx hb d_A_entitySize_2 rfl (fun h2 => ?_) (fun h2 => ?_)
  · have hf := hf.trans (if_neg h2)
    refine lv_iload_n hx hb d_A_entitySize_17 rfl (lv_at hl 1 rfl) ?_
    refine lv_iconst (v := (-1)) hx hb d_A_entitySize_18 (by decide) ?_
    refine lv_icmp_ne (tgt := 24) hx hb d_A_entitySize_19 rfl (fun h19 => ?_) (fun h19 => ?_)
    · have hf := hf.trans (if_neg h19)
      refine lv_iload_n hx hb d_A_entitySize_24 rfl (lv_at hl 1 rfl) ?_
      refine lv_iload_n hx hb d_A_entitySize_25 rfl (lv_at hl 0 rfl) ?_
      refine lv_icmp_ne (tgt := 31) hx hb d_A_entitySize_26 rfl (fun h26 => ?_) (fun h26 => ?_)
      · have hf := hf.trans (if_neg h26)
        refine lv_iload_n hx hb d_A_entitySize_31 rfl (lv_at hl 0 rfl) ?_
        refine lv_iload_n hx hb d_A_entitySize_32 rfl (lv_at hl 1 rfl) ?_
        refine ro_call (va_runSN (As := [.int wa, .int iz]) (rest := []) ⟨hx, hb, hml, hown, hts⟩ (c_D_distance l dC dI aC b mu wa iz) (cn_S (fun w h => List.mem_cons_of_mem _ h) hts ks_D_distance n5 ⟨Nat.le_of_ble_eq_true rfl, Nat.le_of_ble_eq_true rfl⟩ rfl rfl) (fm_preS XC_bl (XC_mv hX hS) hK hP) rfl rfl hl.1 rfl (lv_room (Nat.le_of_ble_eq_true rfl)) d_A_entitySize_33 ⟨Nat.zero_le _, Nat.zero_le _⟩) ?_
        refine lv_iconst (v := 1) hx hb d_A_entitySize_36 (by decide) ?_
        refine lv_icmp_ne (tgt := 44) hx hb d_A_entitySize_37 rfl (fun h37 => ?_) (fun h37 => ?_)
        · have hf := hf.trans (if_neg h37)
          refine lv_bipush (v := 11) hx hb d_A_entitySize_44 (by decide) ?_
          exact ro_iret hx hb hr hlocks hf d_A_entitySize_46
        · have hf := hf.trans (if_pos h37)
          refine lv_iconst (v := 4) hx hb d_A_entitySize_40 (by decide) ?_
          refine lv_goto (tgt := 46) hx hb d_A_entitySize_41 rfl ?_
          exact ro_iret hx hb hr hlocks hf d_A_entitySize_46
      · have hf := hf.trans (if_pos h26)
        refine lv_iconst (v := 1) hx hb d_A_entitySize_29 (by decide) ?_
        exact ro_iret hx hb hr hlocks hf d_A_entitySize_30
    · have hf := hf.trans (if_pos h19)
      refine lv_iconst (v := 3) hx hb d_A_entitySize_22 (by decide) ?_
      exact ro_iret hx hb hr hlocks hf d_A_entitySize_23
  · have hf := hf.trans (if_pos h2)
    refine lv_iload_n hx hb d_A_entitySize_5 rfl (lv_at hl 1 rfl) ?_
    refine lv_iconst (v := (-1)) hx hb d_A_entitySize_6 (by decide) ?_
    refine lv_icmp_ne (tgt := 14) hx hb d_A_entitySize_7 rfl (fun h7 => ?_) (fun h7 => ?_)
    · have hf := hf.trans (if_neg h7)
      refine lv_bipush (v := 9) hx hb d_A_entitySize_14 (by decide) ?_
      exact ro_iret hx hb hr hlocks hf d_A_entitySize_16
    · have hf := hf.trans (if_pos h7)
      refine lv_iconst (v := 1) hx hb d_A_entitySize_10 (by decide) ?_
      refine lv_goto (tgt := 16) hx hb d_A_entitySize_11 rfl ?_
      exact ro_iret hx hb hr hlocks hf d_A_entitySize_16
set_option maxHeartbeats 4000000 in
set_option maxRecDepth 100000 in
theorem c_A_entitySize (l : Launch) (dC : Nat → ClassId) (dI : Nat → Nat → Nat) (aC : Nat → ClassId) (b : Nat) (mu : fm_T) (wa : Int32) (iz : Int32)  : Met l y_A_entitySize w_A_entitySize { frames := 2, cells := 0, slots := 0, locals := 45 } (va_Pc [.int wa, .int iz] (fm_C (dC, dI) clsx (tysx aC) (LC aC b) b 99 (XC b) mu)) (QcRead (f_A_entitySize wa iz)) 0 0 (fun _ => False) := by
  refine Met.ofW (cc := b_A_entitySize) (maxL := 2) (ret := (some .int)) (by decide) rfl ?_
  intro p e s m args below meth cd s₁ B hml hv
  obtain ⟨rfl, hP, hK, hX⟩ := hv
  have hl := lv_entry ([.int wa, .int iz]) (n := 2) (Nat.le_of_ble_eq_true rfl)
  rw [lg_entry_eq]
  generalize (lg_sl ([.int wa, .int iz]) ++ List.replicate (2 - (lg_sl ([.int wa, .int iz])).length) Slot.unset).toArray = ls at hl ⊢
  exact k_A_entitySize l dC dI aC b ⟨B.exec, B.bytes, B.returns, hml, findClass_of_methodNamed B.named, atoms_spec (ws := w_A_entitySize) B.pre, B.notSynchronized, hK, hX⟩ mu wa iz ls _ hP hl rfl
