def wp_X0_callsUntilStop (cl_answers : Int32) (cl_answered : Int32) (K : Int32 → Prop) : Prop :=
  ∀ L5 : Int32 → Prop, (∀ (x1_1 : Int32), (((32 ≤ x1_1) → (K 0)) ∧ ((¬ 32 ≤ x1_1) → (((¬ ((Int32.toUInt32 cl_answers >>> (Int32.toUInt32 x1_1 &&& Int32.toUInt32 31)).toInt32 &&& 1) = 1) → (L5 (x1_1 + 1))) ∧ ((((Int32.toUInt32 cl_answers >>> (Int32.toUInt32 x1_1 &&& Int32.toUInt32 31)).toInt32 &&& 1) = 1) → (K ((x1_1 - cl_answered) + 1)))))) → L5 x1_1) → L5 cl_answered
abbrev rmX0_callsUntilStop : Room := { frames := 0, cells := 0, slots := 0, locals := 0 }
set_option maxHeartbeats 4000000 in
set_option maxRecDepth 100000 in
theorem c_X0_callsUntilStop (l : Launch) (dC : Nat → ClassId) (dI : Nat → Nat → Nat) (kI kZ : ClassId) (sz : Nat) (p_cl : Nat) (cl_calls : Int32) (cl_stopped : Int32) (cl_every : Int32) (cl_sinceCall : Int32) (cl_answers : Int32) (cl_answered : Int32) (K : Int32 → Prop) (h : wp_X0_callsUntilStop cl_answers cl_answered K) : Met l yX0_callsUntilStop wsX0_callsUntilStop rmX0_callsUntilStop (va_Pc [.ref p_cl] (zP (dC, dI) (zT kI kZ) sz [(p_cl, .inr (0, [.int cl_calls, .int cl_stopped, .int cl_every, .int cl_answers, .int cl_answered, .int cl_sinceCall]))])) (va_Qi (fun (r : Int32) (u : Unit) => K r) (fun (u : Unit) => zB (dC, dI) (zT kI kZ) (va_A [(p_cl, .inr (0, [.int cl_calls, .int cl_stopped, .int cl_every, .int cl_answers, .int cl_answered, .int cl_sinceCall]))] sz) [(p_cl, .inr (0, [.int cl_calls, .int cl_stopped, .int cl_every, .int cl_answers, .int cl_answered, .int cl_sinceCall]))]) (va_A [(p_cl, .inr (0, [.int cl_calls, .int cl_stopped, .int cl_every, .int cl_answers, .int cl_answered, .int cl_sinceCall]))] sz)) 0 0 (va_A [(p_cl, .inr (0, [.int cl_calls, .int cl_stopped, .int cl_every, .int cl_answers, .int cl_answered, .int cl_sinceCall]))] sz) := by
  refine zz_ofi (cc := cX0_callsUntilStop) (maxL := 2) (by decide) rfl (Nat.le_of_ble_eq_true rfl) ?_
  intro p e s m args below meth c A Q ls hx hb hml hown hts hK hA hR hP hD hS hl
  have hown : s.vm.findClass RX0 = some m.cls := hown
  have hl : lv_has ls 2 [(0, .ref p_cl)] := hl
  have hi_X0 : ∀ w ∈ wsX00, w ∈ wsX0_callsUntilStop := fun _ h => (List.mem_cons_of_mem _ (List.mem_append_right _ h))
  unfold wp_X0_callsUntilStop at h
  obtain ⟨H, eH⟩ : ∃ H, H = s.heap := ⟨_, rfl⟩
  obtain ⟨locs, eL⟩ : ∃ L : List Loc, L = [] := ⟨_, rfl⟩
  rw [← eL]
  have hS : va_S A s.heap s.heap locs := by rw [eL]; exact hS
  suffices hgo : ∀ H : Heap, va_P (dC, dI) vwCl [(p_cl, .inr (0, [.int cl_calls, .int cl_stopped, .int cl_every, .int cl_answers, .int cl_answered, .int cl_sinceCall]))] H → va_S A s.heap H locs → W p l e rmX0_callsUntilStop s m args below meth c H locs 0 0 Q (F0 m 0 ls []) from hgo _ hP hS
  clear hP hS eH H eL
  intro H hP hS
  refine lv_aload_n hx hb dX0_callsUntilStop_0 rfl (lv_at hl 0 rfl) ?_
  refine va_get (D := (dC, dI)) (ci := 0) (v := .int cl_answered) (C := RX0) (T := TX0) (N := 6) hx hb hts hi_X0 hown hK hP 0 rfl rfl 4 (by decide) (hts (.fieldLink RX0 27 "ZInput$Clock" "answered" "I") (List.mem_cons_of_mem _ (List.mem_append_left _ (List.mem_of_getElem? (i := 0) rfl)))) (fun _ h9 => h9) rfl dX0_callsUntilStop_1 ?_
  refine lv_istore_n (lv' := [(1, .int cl_answered), (0, .ref p_cl)]) hx hb dX0_callsUntilStop_4 rfl hl (by decide) rfl (fun ls hl => ?_)
  refine h (fun (x1_1 : Int32) => ∀ (H : Heap) (locs : List Loc), va_P (dC, dI) vwCl [(p_cl, .inr (0, [.int cl_calls, .int cl_stopped, .int cl_every, .int cl_answers, .int cl_answered, .int cl_sinceCall]))] H → va_D A [(p_cl, .inr (0, [.int cl_calls, .int cl_stopped, .int cl_every, .int cl_answers, .int cl_answered, .int cl_sinceCall]))] → va_S A s.heap H locs → ∀ ls : Array Slot, lv_has ls 2 [(0, .ref p_cl), (1, .int x1_1)] → W p l e rmX0_callsUntilStop s m args below meth c H locs 0 0 Q (F0 m 5 ls [])) ?_ H locs hP hD hS ls (lv_sub hl [1, 0] rfl)
  clear h hP hD hS hl
  intro x1_1 h H locs hP hD hS ls hl
  refine lv_iload_n hx hb dX0_callsUntilStop_5 rfl (lv_at hl 1 rfl) ?_
  refine lv_bipush (v := 32) hx hb dX0_callsUntilStop_6 (by decide) ?_
  refine lv_icmp_ge (tgt := 38) hx hb dX0_callsUntilStop_8 (by decide) (fun c_ => ?_) (fun c_ => ?_)
  · have h := h.1 c_
    refine lv_iconst (v := 0) hx hb dX0_callsUntilStop_38 (by decide) ?_
    exact hR 0 () H locs h hP hD hS _ ls dX0_callsUntilStop_39
  · have h := h.2 c_
    refine lv_aload_n hx hb dX0_callsUntilStop_11 rfl (lv_at hl 0 rfl) ?_
    refine va_get (D := (dC, dI)) (ci := 0) (v := .int cl_answers) (C := RX0) (T := TX0) (N := 6) hx hb hts hi_X0 hown hK hP 0 rfl rfl 3 (by decide) (hts (.fieldLink RX0 24 "ZInput$Clock" "answers" "I") (List.mem_cons_of_mem _ (List.mem_append_left _ (List.mem_of_getElem? (i := 1) rfl)))) (fun _ h9 => h9) rfl dX0_callsUntilStop_12 ?_
    refine lv_iload_n hx hb dX0_callsUntilStop_15 rfl (lv_at hl 1 rfl) ?_
    refine lv_iushr hx hb dX0_callsUntilStop_16 rfl ?_
    refine lv_iconst (v := 1) hx hb dX0_callsUntilStop_17 (by decide) ?_
    refine lv_iand hx hb dX0_callsUntilStop_18 ?_
    refine lv_iconst (v := 1) hx hb dX0_callsUntilStop_19 (by decide) ?_
    refine lv_icmp_ne (tgt := 32) hx hb dX0_callsUntilStop_20 (by decide) (fun c_ => ?_) (fun c_ => ?_)
    · have h := h.1 c_
      refine lv_iinc (v := (x1_1 + 1)) (lv' := [(1, .int (x1_1 + 1)), (0, .ref p_cl)]) hx hb dX0_callsUntilStop_32 hl (k := 1) rfl rfl (by decide) rfl (fun ls hl => ?_)
      refine lv_goto (tgt := 5) hx hb dX0_callsUntilStop_35 (by decide) ?_
      exact h H locs hP hD hS ls (lv_sub hl [1, 0] rfl)
    · have h := h.2 c_
      refine lv_iload_n hx hb dX0_callsUntilStop_23 rfl (lv_at hl 1 rfl) ?_
      refine lv_aload_n hx hb dX0_callsUntilStop_24 rfl (lv_at hl 0 rfl) ?_
      refine va_get (D := (dC, dI)) (ci := 0) (v := .int cl_answered) (C := RX0) (T := TX0) (N := 6) hx hb hts hi_X0 hown hK hP 0 rfl rfl 4 (by decide) (hts (.fieldLink RX0 27 "ZInput$Clock" "answered" "I") (List.mem_cons_of_mem _ (List.mem_append_left _ (List.mem_of_getElem? (i := 0) rfl)))) (fun _ h9 => h9) rfl dX0_callsUntilStop_25 ?_
      refine lv_isub hx hb dX0_callsUntilStop_28 ?_
      refine lv_iconst (v := 1) hx hb dX0_callsUntilStop_29 (by decide) ?_
      refine lv_iadd hx hb dX0_callsUntilStop_30 ?_
      exact hR ((x1_1 - cl_answered) + 1) () H locs h hP hD hS _ ls dX0_callsUntilStop_31
def wp_X0_pass (cl_calls : Int32) (cl_stopped : Int32) (cl_every : Int32) (cl_answers : Int32) (cl_answered : Int32) (cl_sinceCall : Int32) (a1 : Int32) (K : Int32 → Int32 → Int32 → Int32 → Int32 → Prop) : Prop :=
  ((0 < cl_every) → (∀ v_1 : Int32, v_1 = (cl_sinceCall + a1) → (¬ cl_every = 0 ∧ (∀ v_2 : Int32, v_2 = (v_1 / cl_every) → (wp_X0_callsUntilStop cl_answers cl_answered (fun (r_1 : Int32) => ∀ J51 : Int32 → Prop, (∀ (y_1 : Int32), ((y_1 = 0 ∨ y_1 = 1) ∧ (∀ J67 : Int32 → Prop, (∀ (y_2 : Int32), (¬ cl_every = 0 ∧ (∀ v_3 : Int32, v_3 = (v_1 - v_1 / cl_every * cl_every) → (∀ v_4 : Int32, v_4 = (if 32 < (cl_answered + y_2) then 32 else (cl_answered + y_2)) → (∀ v_5 : Int32, v_5 = (cl_calls + y_2) → (K y_2 v_5 y_1 v_4 v_3))))) → J67 y_2) → (((y_1 = 0) → (J67 v_2)) ∧ ((¬ y_1 = 0) → (J67 r_1))))) → J51 y_1) → (∀ J50 : Prop, ((J51 0) → J50) → (((r_1 ≤ 0) → (J50)) ∧ ((¬ r_1 ≤ 0) → (((v_2 < r_1) → (J50)) ∧ ((¬ v_2 < r_1) → (J51 1)))))))))))) ∧ ((¬ 0 < cl_every) → (K 0 cl_calls 0 cl_answered cl_sinceCall))
abbrev rmX0_pass : Room := { frames := 1, cells := 0, slots := 0, locals := 21 }
set_option maxHeartbeats 4000000 in
set_option maxRecDepth 100000 in
theorem c_X0_pass (l : Launch) (dC : Nat → ClassId) (dI : Nat → Nat → Nat) (kI kZ : ClassId) (sz : Nat) (p_cl : Nat) (cl_calls : Int32) (cl_stopped : Int32) (cl_every : Int32) (cl_answers : Int32) (cl_answered : Int32) (cl_sinceCall : Int32) (a1 : Int32) (K : Int32 → Int32 → Int32 → Int32 → Int32 → Prop) (h : wp_X0_pass cl_calls cl_stopped cl_every cl_answers cl_answered cl_sinceCall a1 K) : Met l yX0_pass wsX0_pass rmX0_pass (va_Pc [.ref p_cl, .int a1] (zP (dC, dI) (zT kI kZ) sz [(p_cl, .inr (0, [.int cl_calls, .int cl_stopped, .int cl_every, .int cl_answers, .int cl_answered, .int cl_sinceCall]))])) (va_Qi (fun (r : Int32) (u : Int32 × Int32 × Int32 × Int32) => K r u.1 u.2.1 u.2.2.1 u.2.2.2) (fun (u : Int32 × Int32 × Int32 × Int32) => zB (dC, dI) (zT kI kZ) (va_A [(p_cl, .inr (0, [.int cl_calls, .int cl_stopped, .int cl_every, .int cl_answers, .int cl_answered, .int cl_sinceCall]))] sz) [(p_cl, .inr (0, [.int u.1, .int u.2.1, .int cl_every, .int cl_answers, .int u.2.2.1, .int u.2.2.2]))]) (va_A [(p_cl, .inr (0, [.int cl_calls, .int cl_stopped, .int cl_every, .int cl_answers, .int cl_answered, .int cl_sinceCall]))] sz)) 0 0 (va_A [(p_cl, .inr (0, [.int cl_calls, .int cl_stopped, .int cl_every, .int cl_answers, .int cl_answered, .int cl_sinceCall]))] sz) := by
  refine zz_ofi (cc := cX0_pass) (maxL := 6) (by decide) rfl (Nat.le_of_ble_eq_true rfl) ?_
  intro p e s m args below meth c A Q ls hx hb hml hown hts hK hA hR hP hD hS hl
  have hown : s.vm.findClass RX0 = some m.cls := hown
  have hl : lv_has ls 6 [(0, .ref p_cl), (1, .int a1)] := hl
  have hi_X0 : ∀ w ∈ wsX00, w ∈ wsX0_pass := fun _ h => (List.mem_cons_of_mem _ (List.mem_append_right _ h))
  unfold wp_X0_pass at h
  obtain ⟨H, eH⟩ : ∃ H, H = s.heap := ⟨_, rfl⟩
  obtain ⟨locs, eL⟩ : ∃ L : List Loc, L = [] := ⟨_, rfl⟩
  rw [← eL]
  have hS : va_S A s.heap s.heap locs := by rw [eL]; exact hS
  suffices hgo : ∀ H : Heap, va_P (dC, dI) vwCl [(p_cl, .inr (0, [.int cl_calls, .int cl_stopped, .int cl_every, .int cl_answers, .int cl_answered, .int cl_sinceCall]))] H → va_S A s.heap H locs → W p l e rmX0_pass s m args below meth c H locs 0 0 Q (F0 m 0 ls []) from hgo _ hP hS
  clear hP hS eH H eL
  intro H hP hS
  refine lv_aload_n hx hb dX0_pass_0 rfl (lv_at hl 0 rfl) ?_
  refine lv_iconst (v := 0) hx hb dX0_pass_1 (by decide) ?_
  refine va_put (D := (dC, dI)) (ci := 0) (v := .int 0) (ty := .boolean) (C := RX0) (T := TX0) (N := 6) hx hb hts hi_X0 tyX0 tyX0_ok nmX0 hown hK hP hD hS 0 rfl rfl 1 (by decide) (hts (.fieldLink RX0 13 "ZInput$Clock" "stopped" "Z") (List.mem_cons_of_mem _ (List.mem_append_left _ (List.mem_of_getElem? (i := 0) rfl)))) (fun _ h9 => h9) rfl (by decide +kernel) rfl rfl (Nat.le_of_ble_eq_true rfl) dX0_pass_2 (fun H locs hP hD hS => ?_)
  have hP : va_P (dC, dI) vwCl [(p_cl, .inr (0, [.int cl_calls, .int 0, .int cl_every, .int cl_answers, .int cl_answered, .int cl_sinceCall]))] H := hP
  have hD : va_D A [(p_cl, .inr (0, [.int cl_calls, .int 0, .int cl_every, .int cl_answers, .int cl_answered, .int cl_sinceCall]))] := hD
  refine lv_aload_n hx hb dX0_pass_5 rfl (lv_at hl 0 rfl) ?_
  refine va_get (D := (dC, dI)) (ci := 0) (v := .int cl_every) (C := RX0) (T := TX0) (N := 6) hx hb hts hi_X0 hown hK hP 0 rfl rfl 2 (by decide) (hts (.fieldLink RX0 21 "ZInput$Clock" "every" "I") (List.mem_cons_of_mem _ (List.mem_append_left _ (List.mem_of_getElem? (i := 1) rfl)))) (fun _ h9 => h9) rfl dX0_pass_6 ?_
  refine lv_if_gt (tgt := 14) hx hb dX0_pass_9 (by decide) (fun c_ => ?_) (fun c_ => ?_)
  · have h := h.1 c_
    refine lv_aload_n hx hb dX0_pass_14 rfl (lv_at hl 0 rfl) ?_
    refine va_get (D := (dC, dI)) (ci := 0) (v := .int cl_sinceCall) (C := RX0) (T := TX0) (N := 6) hx hb hts hi_X0 hown hK hP 0 rfl rfl 5 (by decide) (hts (.fieldLink RX0 30 "ZInput$Clock" "sinceCall" "I") (List.mem_cons_of_mem _ (List.mem_append_left _ (List.mem_of_getElem? (i := 2) rfl)))) (fun _ h9 => h9) rfl dX0_pass_15 ?_
    refine lv_iload_n hx hb dX0_pass_18 rfl (lv_at hl 1 rfl) ?_
    refine lv_iadd hx hb dX0_pass_19 ?_
    refine lv_topi (fun v_1 ev_1 => ?_)
    have h := h v_1 ev_1
    refine lv_istore_n (lv' := [(2, .int v_1), (0, .ref p_cl), (1, .int a1)]) hx hb dX0_pass_20 rfl hl (by decide) rfl (fun ls hl => ?_)
    refine lv_iload_n hx hb dX0_pass_21 rfl (lv_at hl 0 rfl) ?_
    refine lv_aload_n hx hb dX0_pass_22 rfl (lv_at hl 1 rfl) ?_
    refine va_get (D := (dC, dI)) (ci := 0) (v := .int cl_every) (C := RX0) (T := TX0) (N := 6) hx hb hts hi_X0 hown hK hP 0 rfl rfl 2 (by decide) (hts (.fieldLink RX0 21 "ZInput$Clock" "every" "I") (List.mem_cons_of_mem _ (List.mem_append_left _ (List.mem_of_getElem? (i := 1) rfl)))) (fun _ h9 => h9) rfl dX0_pass_23 ?_
    have hi := h.1
    have h := h.2
    refine lv_idiv hx hb dX0_pass_26 hi ?_
    refine lv_topi (fun v_2 ev_2 => ?_)
    have h := h v_2 ev_2
    refine lv_istore_n (lv' := [(3, .int v_2), (2, .int v_1), (0, .ref p_cl), (1, .int a1)]) hx hb dX0_pass_27 rfl hl (by decide) rfl (fun ls hl => ?_)
    refine lv_aload_n hx hb dX0_pass_28 rfl (lv_at hl 2 rfl) ?_
    refine zz_Vi (As := []) (rest := []) (wr := []) ⟨hx, hb, hml, hown, hts⟩ (cwV 0 hts gX0_pass_X0_callsUntilStop rfl rfl rfl (by decide +kernel) ⟨Nat.le_of_ble_eq_true rfl, Nat.le_of_ble_eq_true rfl⟩) hK hP hD hS hA (c_X0_callsUntilStop l dC dI kI kZ H.size p_cl cl_calls 0 cl_every cl_sinceCall cl_answers cl_answered _ h) [0] [] rfl rfl rfl rfl (by decide) 0 rfl rfl rfl rfl hl.1 (Nat.le_of_ble_eq_true rfl) dX0_pass_29 (Nat.le_refl _) (Nat.le_refl _) (fun r_1 u_1 H locs h hP hD hS => ?_)
    have hP : va_P (dC, dI) vwCl [(p_cl, .inr (0, [.int cl_calls, .int 0, .int cl_every, .int cl_answers, .int cl_answered, .int cl_sinceCall]))] H := hP.sub [0] rfl
    have hD : va_D A [(p_cl, .inr (0, [.int cl_calls, .int 0, .int cl_every, .int cl_answers, .int cl_answered, .int cl_sinceCall]))] := hD.sub [0] rfl rfl
    refine lv_istore (lv' := [(4, .int r_1), (3, .int v_2), (2, .int v_1), (0, .ref p_cl), (1, .int a1)]) hx hb dX0_pass_32 hl (by decide) rfl (fun ls hl => ?_)
    refine lv_aload_n hx hb dX0_pass_34 rfl (lv_at hl 3 rfl) ?_
    refine lv_iload hx hb dX0_pass_35 (lv_at hl 0 rfl) ?_
    have h := h (fun (y_1 : Int32) => ∀ (H : Heap) (locs : List Loc), va_P (dC, dI) vwCl [(p_cl, .inr (0, [.int cl_calls, .int 0, .int cl_every, .int cl_answers, .int cl_answered, .int cl_sinceCall]))] H → va_D A [(p_cl, .inr (0, [.int cl_calls, .int 0, .int cl_every, .int cl_answers, .int cl_answered, .int cl_sinceCall]))] → va_S A s.heap H locs → ∀ ls : Array Slot, lv_has ls 6 [(0, .ref p_cl), (2, .int v_1), (3, .int v_2), (4, .int r_1)] → W p l e rmX0_pass s m args below meth c H locs 0 0 Q (F0 m 51 ls [.int y_1, .ref p_cl])) (by
      clear h hP hD hS hl
      intro y_1 h H locs hP hD hS ls hl
      have hi := h.1
      have h := h.2
      refine va_put (D := (dC, dI)) (ci := 0) (v := .int y_1) (ty := .boolean) (C := RX0) (T := TX0) (N := 6) hx hb hts hi_X0 tyX0 tyX0_ok nmX0 hown hK hP hD hS 0 rfl rfl 1 (by decide) (hts (.fieldLink RX0 13 "ZInput$Clock" "stopped" "Z") (List.mem_cons_of_mem _ (List.mem_append_left _ (List.mem_of_getElem? (i := 0) rfl)))) (fun _ h9 => h9) rfl (by decide +kernel) (zz_bool hi) (zz_fitb hi) (Nat.le_of_ble_eq_true rfl) dX0_pass_51 (fun H locs hP hD hS => ?_)
      have hP : va_P (dC, dI) vwCl [(p_cl, .inr (0, [.int cl_calls, .int y_1, .int cl_every, .int cl_answers, .int cl_answered, .int cl_sinceCall]))] H := hP
      have hD : va_D A [(p_cl, .inr (0, [.int cl_calls, .int y_1, .int cl_every, .int cl_answers, .int cl_answered, .int cl_sinceCall]))] := hD
      refine lv_aload_n hx hb dX0_pass_54 rfl (lv_at hl 0 rfl) ?_
      refine va_get (D := (dC, dI)) (ci := 0) (v := .int y_1) (C := RX0) (T := TX0) (N := 6) hx hb hts hi_X0 hown hK hP 0 rfl rfl 1 (by decide) (hts (.fieldLink RX0 13 "ZInput$Clock" "stopped" "Z") (List.mem_cons_of_mem _ (List.mem_append_left _ (List.mem_of_getElem? (i := 0) rfl)))) (fun _ h9 => h9) rfl dX0_pass_55 ?_
      have h := h (fun (y_2 : Int32) => ∀ (H : Heap) (locs : List Loc), va_P (dC, dI) vwCl [(p_cl, .inr (0, [.int cl_calls, .int y_1, .int cl_every, .int cl_answers, .int cl_answered, .int cl_sinceCall]))] H → va_D A [(p_cl, .inr (0, [.int cl_calls, .int y_1, .int cl_every, .int cl_answers, .int cl_answered, .int cl_sinceCall]))] → va_S A s.heap H locs → ∀ ls : Array Slot, lv_has ls 6 [(0, .ref p_cl), (2, .int v_1)] → W p l e rmX0_pass s m args below meth c H locs 0 0 Q (F0 m 67 ls [.int y_2])) (by
        clear h hP hD hS hl
        intro y_2 h H locs hP hD hS ls hl
        refine lv_istore (lv' := [(5, .int y_2), (0, .ref p_cl), (2, .int v_1)]) hx hb dX0_pass_67 hl (by decide) rfl (fun ls hl => ?_)
        refine lv_aload_n hx hb dX0_pass_69 rfl (lv_at hl 1 rfl) ?_
        refine lv_iload_n hx hb dX0_pass_70 rfl (lv_at hl 2 rfl) ?_
        refine lv_aload_n hx hb dX0_pass_71 rfl (lv_at hl 1 rfl) ?_
        refine va_get (D := (dC, dI)) (ci := 0) (v := .int cl_every) (C := RX0) (T := TX0) (N := 6) hx hb hts hi_X0 hown hK hP 0 rfl rfl 2 (by decide) (hts (.fieldLink RX0 21 "ZInput$Clock" "every" "I") (List.mem_cons_of_mem _ (List.mem_append_left _ (List.mem_of_getElem? (i := 1) rfl)))) (fun _ h9 => h9) rfl dX0_pass_72 ?_
        have hi := h.1
        have h := h.2
        refine lv_irem hx hb dX0_pass_75 hi ?_
        refine lv_topi (fun v_3 ev_3 => ?_)
        have h := h v_3 ev_3
        refine va_put (D := (dC, dI)) (ci := 0) (v := .int v_3) (ty := .int) (C := RX0) (T := TX0) (N := 6) hx hb hts hi_X0 tyX0 tyX0_ok nmX0 hown hK hP hD hS 0 rfl rfl 5 (by decide) (hts (.fieldLink RX0 30 "ZInput$Clock" "sinceCall" "I") (List.mem_cons_of_mem _ (List.mem_append_left _ (List.mem_of_getElem? (i := 2) rfl)))) (fun _ h9 => h9) rfl (by decide +kernel) rfl rfl (Nat.le_of_ble_eq_true rfl) dX0_pass_76 (fun H locs hP hD hS => ?_)
        have hP : va_P (dC, dI) vwCl [(p_cl, .inr (0, [.int cl_calls, .int y_1, .int cl_every, .int cl_answers, .int cl_answered, .int v_3]))] H := hP
        have hD : va_D A [(p_cl, .inr (0, [.int cl_calls, .int y_1, .int cl_every, .int cl_answers, .int cl_answered, .int v_3]))] := hD
        refine lv_aload_n hx hb dX0_pass_79 rfl (lv_at hl 1 rfl) ?_
        refine lv_aload_n hx hb dX0_pass_80 rfl (lv_at hl 1 rfl) ?_
        refine va_get (D := (dC, dI)) (ci := 0) (v := .int cl_answered) (C := RX0) (T := TX0) (N := 6) hx hb hts hi_X0 hown hK hP 0 rfl rfl 4 (by decide) (hts (.fieldLink RX0 27 "ZInput$Clock" "answered" "I") (List.mem_cons_of_mem _ (List.mem_append_left _ (List.mem_of_getElem? (i := 3) rfl)))) (fun _ h9 => h9) rfl dX0_pass_81 ?_
        refine lv_iload hx hb dX0_pass_84 (lv_at hl 0 rfl) ?_
        refine lv_iadd hx hb dX0_pass_86 ?_
        refine lv_bipush (v := 32) hx hb dX0_pass_87 (by decide) ?_
        refine va_mmin hx hb (hml.trans hl.1.symm) hown (hts (.methodLink RX0 37 Lib.Math.min.name) (List.mem_cons_of_mem _ (List.mem_append_left _ (List.mem_of_getElem? (i := 4) rfl)))) (hts (.static Lib.Math.min.name) (List.mem_cons_of_mem _ (List.mem_append_left _ (List.mem_of_getElem? (i := 5) rfl)))) (hts (.initialized "java/lang/Math") (List.mem_cons_of_mem _ (List.mem_append_left _ (List.mem_of_getElem? (i := 6) rfl)))) (hts (.code Lib.Math.min.name Lib.Math.min.code 2 (some .int)) (List.mem_cons_of_mem _ (List.mem_append_left _ (List.mem_of_getElem? (i := 7) rfl)))) (Nat.le_of_ble_eq_true rfl) (Nat.le_of_ble_eq_true rfl) (Nat.le_refl _) (Nat.le_refl _) dX0_pass_89 ?_
        refine lv_topi (fun v_4 ev_4 => ?_)
        have h := h v_4 ev_4
        refine va_put (D := (dC, dI)) (ci := 0) (v := .int v_4) (ty := .int) (C := RX0) (T := TX0) (N := 6) hx hb hts hi_X0 tyX0 tyX0_ok nmX0 hown hK hP hD hS 0 rfl rfl 4 (by decide) (hts (.fieldLink RX0 27 "ZInput$Clock" "answered" "I") (List.mem_cons_of_mem _ (List.mem_append_left _ (List.mem_of_getElem? (i := 3) rfl)))) (fun _ h9 => h9) rfl (by decide +kernel) rfl rfl (Nat.le_of_ble_eq_true rfl) dX0_pass_92 (fun H locs hP hD hS => ?_)
        have hP : va_P (dC, dI) vwCl [(p_cl, .inr (0, [.int cl_calls, .int y_1, .int cl_every, .int cl_answers, .int v_4, .int v_3]))] H := hP
        have hD : va_D A [(p_cl, .inr (0, [.int cl_calls, .int y_1, .int cl_every, .int cl_answers, .int v_4, .int v_3]))] := hD
        refine lv_aload_n hx hb dX0_pass_95 rfl (lv_at hl 1 rfl) ?_
        refine lv_dup hx hb dX0_pass_96 rfl ?_
        refine va_get (D := (dC, dI)) (ci := 0) (v := .int cl_calls) (C := RX0) (T := TX0) (N := 6) hx hb hts hi_X0 hown hK hP 0 rfl rfl 0 (by decide) (hts (.fieldLink RX0 7 "ZInput$Clock" "calls" "I") (List.mem_cons_of_mem _ (List.mem_append_left _ (List.mem_of_getElem? (i := 8) rfl)))) (fun _ h9 => h9) rfl dX0_pass_97 ?_
        refine lv_iload hx hb dX0_pass_100 (lv_at hl 0 rfl) ?_
        refine lv_iadd hx hb dX0_pass_102 ?_
        refine lv_topi (fun v_5 ev_5 => ?_)
        have h := h v_5 ev_5
        refine va_put (D := (dC, dI)) (ci := 0) (v := .int v_5) (ty := .int) (C := RX0) (T := TX0) (N := 6) hx hb hts hi_X0 tyX0 tyX0_ok nmX0 hown hK hP hD hS 0 rfl rfl 0 (by decide) (hts (.fieldLink RX0 7 "ZInput$Clock" "calls" "I") (List.mem_cons_of_mem _ (List.mem_append_left _ (List.mem_of_getElem? (i := 8) rfl)))) (fun _ h9 => h9) rfl (by decide +kernel) rfl rfl (Nat.le_of_ble_eq_true rfl) dX0_pass_103 (fun H locs hP hD hS => ?_)
        have hP : va_P (dC, dI) vwCl [(p_cl, .inr (0, [.int v_5, .int y_1, .int cl_every, .int cl_answers, .int v_4, .int v_3]))] H := hP
        have hD : va_D A [(p_cl, .inr (0, [.int v_5, .int y_1, .int cl_every, .int cl_answers, .int v_4, .int v_3]))] := hD
        refine lv_iload hx hb dX0_pass_106 (lv_at hl 0 rfl) ?_
        exact hR y_2 (v_5, y_1, v_4, v_3) H locs h hP hD hS _ ls dX0_pass_108)
      refine lv_if_eq (tgt := 66) hx hb dX0_pass_58 (by decide) (fun c_ => ?_) (fun c_ => ?_)
      · have h := h.1 c_
        refine lv_iload_n hx hb dX0_pass_66 rfl (lv_at hl 2 rfl) ?_
        exact h H locs hP hD hS ls (lv_sub hl [0, 1] rfl)
      · have h := h.2 c_
        refine lv_iload hx hb dX0_pass_61 (lv_at hl 3 rfl) ?_
        refine lv_goto (tgt := 67) hx hb dX0_pass_63 (by decide) ?_
        exact h H locs hP hD hS ls (lv_sub hl [0, 1] rfl))
    have h := h (∀ (H : Heap) (locs : List Loc), va_P (dC, dI) vwCl [(p_cl, .inr (0, [.int cl_calls, .int 0, .int cl_every, .int cl_answers, .int cl_answered, .int cl_sinceCall]))] H → va_D A [(p_cl, .inr (0, [.int cl_calls, .int 0, .int cl_every, .int cl_answers, .int cl_answered, .int cl_sinceCall]))] → va_S A s.heap H locs → ∀ ls : Array Slot, lv_has ls 6 [(0, .ref p_cl), (2, .int v_1), (3, .int v_2), (4, .int r_1)] → W p l e rmX0_pass s m args below meth c H locs 0 0 Q (F0 m 50 ls [.ref p_cl])) (by
      clear h hP hD hS hl
      intro h H locs hP hD hS ls hl
      refine lv_iconst (v := 0) hx hb dX0_pass_50 (by decide) ?_
      exact h H locs hP hD hS ls (lv_sub hl [0, 1, 2, 3] rfl))
    refine lv_if_le (tgt := 50) hx hb dX0_pass_37 (by decide) (fun c_ => ?_) (fun c_ => ?_)
    · have h := h.1 c_
      exact h H locs hP hD hS ls (lv_sub hl [3, 2, 1, 0] rfl)
    · have h := h.2 c_
      refine lv_iload hx hb dX0_pass_40 (lv_at hl 0 rfl) ?_
      refine lv_iload_n hx hb dX0_pass_42 rfl (lv_at hl 1 rfl) ?_
      refine lv_icmp_gt (tgt := 50) hx hb dX0_pass_43 (by decide) (fun c_ => ?_) (fun c_ => ?_)
      · have h := h.1 c_
        exact h H locs hP hD hS ls (lv_sub hl [3, 2, 1, 0] rfl)
      · have h := h.2 c_
        refine lv_iconst (v := 1) hx hb dX0_pass_46 (by decide) ?_
        refine lv_goto (tgt := 51) hx hb dX0_pass_47 (by decide) ?_
        exact h H locs hP hD hS ls (lv_sub hl [3, 2, 1, 0] rfl)
  · have h := h.2 c_
    refine lv_iconst (v := 0) hx hb dX0_pass_12 (by decide) ?_
    exact hR 0 (cl_calls, 0, cl_answered, cl_sinceCall) H locs h hP hD hS _ ls dX0_pass_13
def wp_X0_set (cl_every : Int32) (cl_answers : Int32) (cl_answered : Int32) (cl_sinceCall : Int32) (a1 : Int32) (a2 : Int32) (K : Int32 → Int32 → Int32 → Int32 → Prop) : Prop :=
  K a1 a2 0 0
abbrev rmX0_set : Room := { frames := 0, cells := 0, slots := 0, locals := 0 }
set_option maxHeartbeats 4000000 in
set_option maxRecDepth 100000 in
theorem c_X0_set (l : Launch) (dC : Nat → ClassId) (dI : Nat → Nat → Nat) (kI kZ : ClassId) (sz : Nat) (p_cl : Nat) (cl_calls : Int32) (cl_stopped : Int32) (cl_every : Int32) (cl_answers : Int32) (cl_answered : Int32) (cl_sinceCall : Int32) (a1 : Int32) (a2 : Int32) (K : Int32 → Int32 → Int32 → Int32 → Prop) (h : wp_X0_set cl_every cl_answers cl_answered cl_sinceCall a1 a2 K) : Met l yX0_set wsX0_set rmX0_set (va_Pc [.ref p_cl, .int a1, .int a2] (zP (dC, dI) (zT kI kZ) sz [(p_cl, .inr (0, [.int cl_calls, .int cl_stopped, .int cl_every, .int cl_answers, .int cl_answered, .int cl_sinceCall]))])) (va_Qv (fun (u : Int32 × Int32 × Int32 × Int32) => K u.1 u.2.1 u.2.2.1 u.2.2.2) (fun (u : Int32 × Int32 × Int32 × Int32) => zB (dC, dI) (zT kI kZ) (va_A [(p_cl, .inr (0, [.int cl_calls, .int cl_stopped, .int cl_every, .int cl_answers, .int cl_answered, .int cl_sinceCall]))] sz) [(p_cl, .inr (0, [.int cl_calls, .int cl_stopped, .int u.1, .int u.2.1, .int u.2.2.1, .int u.2.2.2]))]) (va_A [(p_cl, .inr (0, [.int cl_calls, .int cl_stopped, .int cl_every, .int cl_answers, .int cl_answered, .int cl_sinceCall]))] sz)) 0 0 (va_A [(p_cl, .inr (0, [.int cl_calls, .int cl_stopped, .int cl_every, .int cl_answers, .int cl_answered, .int cl_sinceCall]))] sz) := by
  refine zz_ofv (cc := cX0_set) (maxL := 3) (by decide) rfl (Nat.le_of_ble_eq_true rfl) ?_
  intro p e s m args below meth c A Q ls hx hb hml hown hts hK hA hR hP hD hS hl
  have hown : s.vm.findClass RX0 = some m.cls := hown
  have hl : lv_has ls 3 [(0, .ref p_cl), (1, .int a1), (2, .int a2)] := hl
  have hi_X0 : ∀ w ∈ wsX00, w ∈ wsX0_set := fun _ h => (List.mem_cons_of_mem _ (List.mem_append_right _ h))
  unfold wp_X0_set at h
  obtain ⟨H, eH⟩ : ∃ H, H = s.heap := ⟨_, rfl⟩
  obtain ⟨locs, eL⟩ : ∃ L : List Loc, L = [] := ⟨_, rfl⟩
  rw [← eL]
  have hS : va_S A s.heap s.heap locs := by rw [eL]; exact hS
  suffices hgo : ∀ H : Heap, va_P (dC, dI) vwCl [(p_cl, .inr (0, [.int cl_calls, .int cl_stopped, .int cl_every, .int cl_answers, .int cl_answered, .int cl_sinceCall]))] H → va_S A s.heap H locs → W p l e rmX0_set s m args below meth c H locs 0 0 Q (F0 m 0 ls []) from hgo _ hP hS
  clear hP hS eH H eL
  intro H hP hS
  refine lv_aload_n hx hb dX0_set_0 rfl (lv_at hl 0 rfl) ?_
  refine lv_iload_n hx hb dX0_set_1 rfl (lv_at hl 1 rfl) ?_
  refine va_put (D := (dC, dI)) (ci := 0) (v := .int a1) (ty := .int) (C := RX0) (T := TX0) (N := 6) hx hb hts hi_X0 tyX0 tyX0_ok nmX0 hown hK hP hD hS 0 rfl rfl 2 (by decide) (hts (.fieldLink RX0 21 "ZInput$Clock" "every" "I") (List.mem_cons_of_mem _ (List.mem_append_left _ (List.mem_of_getElem? (i := 0) rfl)))) (fun _ h9 => h9) rfl (by decide +kernel) rfl rfl (Nat.le_of_ble_eq_true rfl) dX0_set_2 (fun H locs hP hD hS => ?_)
  have hP : va_P (dC, dI) vwCl [(p_cl, .inr (0, [.int cl_calls, .int cl_stopped, .int a1, .int cl_answers, .int cl_answered, .int cl_sinceCall]))] H := hP
  have hD : va_D A [(p_cl, .inr (0, [.int cl_calls, .int cl_stopped, .int a1, .int cl_answers, .int cl_answered, .int cl_sinceCall]))] := hD
  refine lv_aload_n hx hb dX0_set_5 rfl (lv_at hl 0 rfl) ?_
  refine lv_iload_n hx hb dX0_set_6 rfl (lv_at hl 2 rfl) ?_
  refine va_put (D := (dC, dI)) (ci := 0) (v := .int a2) (ty := .int) (C := RX0) (T := TX0) (N := 6) hx hb hts hi_X0 tyX0 tyX0_ok nmX0 hown hK hP hD hS 0 rfl rfl 3 (by decide) (hts (.fieldLink RX0 24 "ZInput$Clock" "answers" "I") (List.mem_cons_of_mem _ (List.mem_append_left _ (List.mem_of_getElem? (i := 1) rfl)))) (fun _ h9 => h9) rfl (by decide +kernel) rfl rfl (Nat.le_of_ble_eq_true rfl) dX0_set_7 (fun H locs hP hD hS => ?_)
  have hP : va_P (dC, dI) vwCl [(p_cl, .inr (0, [.int cl_calls, .int cl_stopped, .int a1, .int a2, .int cl_answered, .int cl_sinceCall]))] H := hP
  have hD : va_D A [(p_cl, .inr (0, [.int cl_calls, .int cl_stopped, .int a1, .int a2, .int cl_answered, .int cl_sinceCall]))] := hD
  refine lv_aload_n hx hb dX0_set_10 rfl (lv_at hl 0 rfl) ?_
  refine lv_iconst (v := 0) hx hb dX0_set_11 (by decide) ?_
  refine va_put (D := (dC, dI)) (ci := 0) (v := .int 0) (ty := .int) (C := RX0) (T := TX0) (N := 6) hx hb hts hi_X0 tyX0 tyX0_ok nmX0 hown hK hP hD hS 0 rfl rfl 4 (by decide) (hts (.fieldLink RX0 27 "ZInput$Clock" "answered" "I") (List.mem_cons_of_mem _ (List.mem_append_left _ (List.mem_of_getElem? (i := 2) rfl)))) (fun _ h9 => h9) rfl (by decide +kernel) rfl rfl (Nat.le_of_ble_eq_true rfl) dX0_set_12 (fun H locs hP hD hS => ?_)
  have hP : va_P (dC, dI) vwCl [(p_cl, .inr (0, [.int cl_calls, .int cl_stopped, .int a1, .int a2, .int 0, .int cl_sinceCall]))] H := hP
  have hD : va_D A [(p_cl, .inr (0, [.int cl_calls, .int cl_stopped, .int a1, .int a2, .int 0, .int cl_sinceCall]))] := hD
  refine lv_aload_n hx hb dX0_set_15 rfl (lv_at hl 0 rfl) ?_
  refine lv_iconst (v := 0) hx hb dX0_set_16 (by decide) ?_
  refine va_put (D := (dC, dI)) (ci := 0) (v := .int 0) (ty := .int) (C := RX0) (T := TX0) (N := 6) hx hb hts hi_X0 tyX0 tyX0_ok nmX0 hown hK hP hD hS 0 rfl rfl 5 (by decide) (hts (.fieldLink RX0 30 "ZInput$Clock" "sinceCall" "I") (List.mem_cons_of_mem _ (List.mem_append_left _ (List.mem_of_getElem? (i := 3) rfl)))) (fun _ h9 => h9) rfl (by decide +kernel) rfl rfl (Nat.le_of_ble_eq_true rfl) dX0_set_17 (fun H locs hP hD hS => ?_)
  have hP : va_P (dC, dI) vwCl [(p_cl, .inr (0, [.int cl_calls, .int cl_stopped, .int a1, .int a2, .int 0, .int 0]))] H := hP
  have hD : va_D A [(p_cl, .inr (0, [.int cl_calls, .int cl_stopped, .int a1, .int a2, .int 0, .int 0]))] := hD
  exact hR (a1, a2, 0, 0) H locs h hP hD hS _ ls dX0_set_20
def wp_X0_restart (cl_calls : Int32) (cl_stopped : Int32) (cl_every : Int32) (cl_answers : Int32) (cl_answered : Int32) (cl_sinceCall : Int32) (K : Int32 → Int32 → Int32 → Int32 → Int32 → Int32 → Prop) : Prop :=
  wp_X0_set cl_every cl_answers cl_answered cl_sinceCall 0 0 (fun (cl_every_1 : Int32) (cl_answers_1 : Int32) (cl_answered_1 : Int32) (cl_sinceCall_1 : Int32) => K 0 0 cl_every_1 cl_answers_1 cl_answered_1 cl_sinceCall_1)
abbrev rmX0_restart : Room := { frames := 1, cells := 0, slots := 0, locals := 22 }
set_option maxHeartbeats 4000000 in
set_option maxRecDepth 100000 in
theorem c_X0_restart (l : Launch) (dC : Nat → ClassId) (dI : Nat → Nat → Nat) (kI kZ : ClassId) (sz : Nat) (p_cl : Nat) (cl_calls : Int32) (cl_stopped : Int32) (cl_every : Int32) (cl_answers : Int32) (cl_answered : Int32) (cl_sinceCall : Int32) (K : Int32 → Int32 → Int32 → Int32 → Int32 → Int32 → Prop) (h : wp_X0_restart cl_calls cl_stopped cl_every cl_answers cl_answered cl_sinceCall K) : Met l yX0_restart wsX0_restart rmX0_restart (va_Pc [.ref p_cl] (zP (dC, dI) (zT kI kZ) sz [(p_cl, .inr (0, [.int cl_calls, .int cl_stopped, .int cl_every, .int cl_answers, .int cl_answered, .int cl_sinceCall]))])) (va_Qv (fun (u : Int32 × Int32 × Int32 × Int32 × Int32 × Int32) => K u.1 u.2.1 u.2.2.1 u.2.2.2.1 u.2.2.2.2.1 u.2.2.2.2.2) (fun (u : Int32 × Int32 × Int32 × Int32 × Int32 × Int32) => zB (dC, dI) (zT kI kZ) (va_A [(p_cl, .inr (0, [.int cl_calls, .int cl_stopped, .int cl_every, .int cl_answers, .int cl_answered, .int cl_sinceCall]))] sz) [(p_cl, .inr (0, [.int u.1, .int u.2.1, .int u.2.2.1, .int u.2.2.2.1, .int u.2.2.2.2.1, .int u.2.2.2.2.2]))]) (va_A [(p_cl, .inr (0, [.int cl_calls, .int cl_stopped, .int cl_every, .int cl_answers, .int cl_answered, .int cl_sinceCall]))] sz)) 0 0 (va_A [(p_cl, .inr (0, [.int cl_calls, .int cl_stopped, .int cl_every, .int cl_answers, .int cl_answered, .int cl_sinceCall]))] sz) := by
  refine zz_ofv (cc := cX0_restart) (maxL := 1) (by decide) rfl (Nat.le_of_ble_eq_true rfl) ?_
  intro p e s m args below meth c A Q ls hx hb hml hown hts hK hA hR hP hD hS hl
  have hown : s.vm.findClass RX0 = some m.cls := hown
  have hl : lv_has ls 1 [(0, .ref p_cl)] := hl
  have hi_X0 : ∀ w ∈ wsX00, w ∈ wsX0_restart := fun _ h => (List.mem_cons_of_mem _ (List.mem_append_right _ h))
  unfold wp_X0_restart at h
  obtain ⟨H, eH⟩ : ∃ H, H = s.heap := ⟨_, rfl⟩
  obtain ⟨locs, eL⟩ : ∃ L : List Loc, L = [] := ⟨_, rfl⟩
  rw [← eL]
  have hS : va_S A s.heap s.heap locs := by rw [eL]; exact hS
  suffices hgo : ∀ H : Heap, va_P (dC, dI) vwCl [(p_cl, .inr (0, [.int cl_calls, .int cl_stopped, .int cl_every, .int cl_answers, .int cl_answered, .int cl_sinceCall]))] H → va_S A s.heap H locs → W p l e rmX0_restart s m args below meth c H locs 0 0 Q (F0 m 0 ls []) from hgo _ hP hS
  clear hP hS eH H eL
  intro H hP hS
  refine lv_aload_n hx hb dX0_restart_0 rfl (lv_at hl 0 rfl) ?_
  refine lv_iconst (v := 0) hx hb dX0_restart_1 (by decide) ?_
  refine va_put (D := (dC, dI)) (ci := 0) (v := .int 0) (ty := .int) (C := RX0) (T := TX0) (N := 6) hx hb hts hi_X0 tyX0 tyX0_ok nmX0 hown hK hP hD hS 0 rfl rfl 0 (by decide) (hts (.fieldLink RX0 7 "ZInput$Clock" "calls" "I") (List.mem_cons_of_mem _ (List.mem_append_left _ (List.mem_of_getElem? (i := 0) rfl)))) (fun _ h9 => h9) rfl (by decide +kernel) rfl rfl (Nat.le_of_ble_eq_true rfl) dX0_restart_2 (fun H locs hP hD hS => ?_)
  have hP : va_P (dC, dI) vwCl [(p_cl, .inr (0, [.int 0, .int cl_stopped, .int cl_every, .int cl_answers, .int cl_answered, .int cl_sinceCall]))] H := hP
  have hD : va_D A [(p_cl, .inr (0, [.int 0, .int cl_stopped, .int cl_every, .int cl_answers, .int cl_answered, .int cl_sinceCall]))] := hD
  refine lv_aload_n hx hb dX0_restart_5 rfl (lv_at hl 0 rfl) ?_
  refine lv_iconst (v := 0) hx hb dX0_restart_6 (by decide) ?_
  refine va_put (D := (dC, dI)) (ci := 0) (v := .int 0) (ty := .boolean) (C := RX0) (T := TX0) (N := 6) hx hb hts hi_X0 tyX0 tyX0_ok nmX0 hown hK hP hD hS 0 rfl rfl 1 (by decide) (hts (.fieldLink RX0 13 "ZInput$Clock" "stopped" "Z") (List.mem_cons_of_mem _ (List.mem_append_left _ (List.mem_of_getElem? (i := 1) rfl)))) (fun _ h9 => h9) rfl (by decide +kernel) rfl rfl (Nat.le_of_ble_eq_true rfl) dX0_restart_7 (fun H locs hP hD hS => ?_)
  have hP : va_P (dC, dI) vwCl [(p_cl, .inr (0, [.int 0, .int 0, .int cl_every, .int cl_answers, .int cl_answered, .int cl_sinceCall]))] H := hP
  have hD : va_D A [(p_cl, .inr (0, [.int 0, .int 0, .int cl_every, .int cl_answers, .int cl_answered, .int cl_sinceCall]))] := hD
  refine lv_aload_n hx hb dX0_restart_10 rfl (lv_at hl 0 rfl) ?_
  refine lv_iconst (v := 0) hx hb dX0_restart_11 (by decide) ?_
  refine lv_iconst (v := 0) hx hb dX0_restart_12 (by decide) ?_
  refine zz_Vv (As := [.int 0, .int 0]) (rest := []) (wr := []) ⟨hx, hb, hml, hown, hts⟩ (cwV 2 hts gX0_restart_X0_set rfl rfl rfl (by decide +kernel) ⟨Nat.le_of_ble_eq_true rfl, Nat.le_of_ble_eq_true rfl⟩) hK hP hD hS hA (c_X0_set l dC dI kI kZ H.size p_cl 0 0 cl_every cl_answers cl_answered cl_sinceCall 0 0 _ h) [0] [] rfl rfl rfl rfl (by decide) 0 rfl rfl rfl rfl hl.1 (Nat.le_of_ble_eq_true rfl) dX0_restart_13 (Nat.le_refl _) (Nat.le_refl _) (fun u_1 H locs h hP hD hS => ?_)
  obtain ⟨cl_every_1, cl_answers_1, cl_answered_1, cl_sinceCall_1⟩ := u_1
  have hP : va_P (dC, dI) vwCl [(p_cl, .inr (0, [.int 0, .int 0, .int cl_every_1, .int cl_answers_1, .int cl_answered_1, .int cl_sinceCall_1]))] H := hP.sub [0] rfl
  have hD : va_D A [(p_cl, .inr (0, [.int 0, .int 0, .int cl_every_1, .int cl_answers_1, .int cl_answered_1, .int cl_sinceCall_1]))] := hD.sub [0] rfl rfl
  exact hR (0, 0, cl_every_1, cl_answers_1, cl_answered_1, cl_sinceCall_1) H locs h hP hD hS _ ls dX0_restart_16
def wp_X4_octet (me_octets : Nat → Int32) (a1 : Int32) (K : Int32 → Prop) : Prop :=
  ((a1 < 0) → (K 0)) ∧ ((¬ a1 < 0) → (((4096 ≤ a1) → (K 0)) ∧ ((¬ 4096 ≤ a1) → (vp_in a1 4096 ∧ (K (me_octets (Int32.toNatClampNeg a1)))))))
abbrev rmX4_octet : Room := { frames := 0, cells := 0, slots := 0, locals := 0 }
set_option maxHeartbeats 4000000 in
set_option maxRecDepth 100000 in
theorem c_X4_octet (l : Launch) (dC : Nat → ClassId) (dI : Nat → Nat → Nat) (kI kZ : ClassId) (sz : Nat) (p_me : Nat) (p_me_octets : Nat) (me_octets : Nat → Int32) (a1 : Int32) (K : Int32 → Prop) (h : wp_X4_octet me_octets a1 K) : Met l yX4_octet wsX4_octet rmX4_octet (va_Pc [.ref p_me, .int a1] (zP (dC, dI) (zT kI kZ) sz [(p_me, .inr (4, [.ref p_me_octets])), (p_me_octets, .inl (kI, 4096, .inl me_octets))])) (va_Qi (fun (r : Int32) (u : Unit) => K r) (fun (u : Unit) => zB (dC, dI) (zT kI kZ) (va_A [(p_me, .inr (4, [.ref p_me_octets])), (p_me_octets, .inl (kI, 4096, .inl me_octets))] sz) [(p_me, .inr (4, [.ref p_me_octets])), (p_me_octets, .inl (kI, 4096, .inl me_octets))]) (va_A [(p_me, .inr (4, [.ref p_me_octets])), (p_me_octets, .inl (kI, 4096, .inl me_octets))] sz)) 0 0 (va_A [(p_me, .inr (4, [.ref p_me_octets])), (p_me_octets, .inl (kI, 4096, .inl me_octets))] sz) := by
  refine zz_ofi (cc := cX4_octet) (maxL := 2) (by decide) rfl (Nat.le_of_ble_eq_true rfl) ?_
  intro p e s m args below meth c A Q ls hx hb hml hown hts hK hA hR hP hD hS hl
  have hown : s.vm.findClass RX4 = some m.cls := hown
  have hl : lv_has ls 2 [(0, .ref p_me), (1, .int a1)] := hl
  have hi_X4 : ∀ w ∈ wsX40, w ∈ wsX4_octet := fun _ h => (List.mem_cons_of_mem _ (List.mem_append_right _ h))
  unfold wp_X4_octet at h
  obtain ⟨H, eH⟩ : ∃ H, H = s.heap := ⟨_, rfl⟩
  obtain ⟨locs, eL⟩ : ∃ L : List Loc, L = [] := ⟨_, rfl⟩
  rw [← eL]
  have hS : va_S A s.heap s.heap locs := by rw [eL]; exact hS
  suffices hgo : ∀ H : Heap, va_P (dC, dI) vwCl [(p_me, .inr (4, [.ref p_me_octets])), (p_me_octets, .inl (kI, 4096, .inl me_octets))] H → va_S A s.heap H locs → W p l e rmX4_octet s m args below meth c H locs 0 0 Q (F0 m 0 ls []) from hgo _ hP hS
  clear hP hS eH H eL
  intro H hP hS
  refine lv_iload_n hx hb dX4_octet_0 rfl (lv_at hl 1 rfl) ?_
  refine lv_if_lt (tgt := 20) hx hb dX4_octet_1 (by decide) (fun c_ => ?_) (fun c_ => ?_)
  · have h := h.1 c_
    refine lv_iconst (v := 0) hx hb dX4_octet_20 (by decide) ?_
    exact hR 0 () H locs h hP hD hS _ ls dX4_octet_21
  · have h := h.2 c_
    refine lv_iload_n hx hb dX4_octet_4 rfl (lv_at hl 1 rfl) ?_
    refine lv_sipush (v := 4096) hx hb dX4_octet_5 (by decide) ?_
    refine lv_icmp_ge (tgt := 20) hx hb dX4_octet_8 (by decide) (fun c_ => ?_) (fun c_ => ?_)
    · have h := h.1 c_
      refine lv_iconst (v := 0) hx hb dX4_octet_20 (by decide) ?_
      exact hR 0 () H locs h hP hD hS _ ls dX4_octet_21
    · have h := h.2 c_
      refine lv_aload_n hx hb dX4_octet_11 rfl (lv_at hl 0 rfl) ?_
      refine va_get (D := (dC, dI)) (ci := 4) (v := .ref p_me_octets) (C := RX4) (T := TX4) (N := 1) hx hb hts hi_X4 hown hK hP 0 rfl rfl 0 (by decide) (hts (.fieldLink RX4 9 "ZInput$Memory" "octets" "[I") (List.mem_cons_of_mem _ (List.mem_append_left _ (List.mem_of_getElem? (i := 0) rfl)))) (fun _ h9 => h9) rfl dX4_octet_12 ?_
      refine lv_iload_n hx hb dX4_octet_15 rfl (lv_at hl 1 rfl) ?_
      have hi := h.1
      have h := h.2
      refine va_iald hx hb hK hP 1 0 rfl rfl hi dX4_octet_16 ?_
      refine lv_goto (tgt := 21) hx hb dX4_octet_17 (by decide) ?_
      exact hR (me_octets (Int32.toNatClampNeg a1)) () H locs h hP hD hS _ ls dX4_octet_21
def wp_X4_stores (me_octets : Nat → Int32) (a1 : Int32) (a2 : Int32) (a3 : Int64) (K : Int32 → Prop) : Prop :=
  ∀ L3 : Int32 → Prop, (∀ (x5_1 : Int32), (((a2 ≤ x5_1) → (K 1)) ∧ ((¬ a2 ≤ x5_1) → (wp_X4_octet me_octets (a1 + x5_1) (fun (r_1 : Int32) => ((r_1 = ((Int64.toInt32 ((Int64.toUInt64 a3 >>> ((Int32.toInt64 (8 * ((a2 - 1) - x5_1))).toUInt64 &&& Int64.toUInt64 63)).toInt64)) &&& 255)) → (L3 (x5_1 + 1))) ∧ ((¬ r_1 = ((Int64.toInt32 ((Int64.toUInt64 a3 >>> ((Int32.toInt64 (8 * ((a2 - 1) - x5_1))).toUInt64 &&& Int64.toUInt64 63)).toInt64)) &&& 255)) → (K 0)))))) → L3 x5_1) → L3 0
abbrev rmX4_stores : Room := { frames := 1, cells := 0, slots := 0, locals := 21 }
set_option maxHeartbeats 4000000 in
set_option maxRecDepth 100000 in
theorem c_X4_stores (l : Launch) (dC : Nat → ClassId) (dI : Nat → Nat → Nat) (kI kZ : ClassId) (sz : Nat) (p_me : Nat) (p_me_octets : Nat) (me_octets : Nat → Int32) (a1 : Int32) (a2 : Int32) (a3 : Int64) (K : Int32 → Prop) (h : wp_X4_stores me_octets a1 a2 a3 K) : Met l yX4_stores wsX4_stores rmX4_stores (va_Pc [.ref p_me, .int a1, .int a2, .long a3] (zP (dC, dI) (zT kI kZ) sz [(p_me, .inr (4, [.ref p_me_octets])), (p_me_octets, .inl (kI, 4096, .inl me_octets))])) (va_Qi (fun (r : Int32) (u : Unit) => K r) (fun (u : Unit) => zB (dC, dI) (zT kI kZ) (va_A [(p_me, .inr (4, [.ref p_me_octets])), (p_me_octets, .inl (kI, 4096, .inl me_octets))] sz) [(p_me, .inr (4, [.ref p_me_octets])), (p_me_octets, .inl (kI, 4096, .inl me_octets))]) (va_A [(p_me, .inr (4, [.ref p_me_octets])), (p_me_octets, .inl (kI, 4096, .inl me_octets))] sz)) 0 0 (va_A [(p_me, .inr (4, [.ref p_me_octets])), (p_me_octets, .inl (kI, 4096, .inl me_octets))] sz) := by
  refine zz_ofz (cc := cX4_stores) (maxL := 6) (by decide) rfl (Nat.le_of_ble_eq_true rfl) ?_
  intro p e s m args below meth c A Q ls hx hb hml hown hts hK hA hR hP hD hS hl
  have hown : s.vm.findClass RX4 = some m.cls := hown
  have hl : lv_has ls 6 [(0, .ref p_me), (1, .int a1), (2, .int a2), (3, .long a3)] := hl
  unfold wp_X4_stores at h
  obtain ⟨H, eH⟩ : ∃ H, H = s.heap := ⟨_, rfl⟩
  obtain ⟨locs, eL⟩ : ∃ L : List Loc, L = [] := ⟨_, rfl⟩
  rw [← eL]
  have hS : va_S A s.heap s.heap locs := by rw [eL]; exact hS
  suffices hgo : ∀ H : Heap, va_P (dC, dI) vwCl [(p_me, .inr (4, [.ref p_me_octets])), (p_me_octets, .inl (kI, 4096, .inl me_octets))] H → va_S A s.heap H locs → W p l e rmX4_stores s m args below meth c H locs 0 0 Q (F0 m 0 ls []) from hgo _ hP hS
  clear hP hS eH H eL
  intro H hP hS
  refine lv_iconst (v := 0) hx hb dX4_stores_0 (by decide) ?_
  refine lv_istore (lv' := [(5, .int 0), (0, .ref p_me), (1, .int a1), (2, .int a2), (3, .long a3)]) hx hb dX4_stores_1 hl (by decide) rfl (fun ls hl => ?_)
  refine h (fun (x5_1 : Int32) => ∀ (H : Heap) (locs : List Loc), va_P (dC, dI) vwCl [(p_me, .inr (4, [.ref p_me_octets])), (p_me_octets, .inl (kI, 4096, .inl me_octets))] H → va_D A [(p_me, .inr (4, [.ref p_me_octets])), (p_me_octets, .inl (kI, 4096, .inl me_octets))] → va_S A s.heap H locs → ∀ ls : Array Slot, lv_has ls 6 [(0, .ref p_me), (1, .int a1), (2, .int a2), (3, .long a3), (5, .int x5_1)] → W p l e rmX4_stores s m args below meth c H locs 0 0 Q (F0 m 3 ls [])) ?_ H locs hP hD hS ls (lv_sub hl [1, 2, 3, 4, 0] rfl)
  clear h hP hD hS hl
  intro x5_1 h H locs hP hD hS ls hl
  refine lv_iload hx hb dX4_stores_3 (lv_at hl 4 rfl) ?_
  refine lv_iload_n hx hb dX4_stores_5 rfl (lv_at hl 2 rfl) ?_
  refine lv_icmp_ge (tgt := 44) hx hb dX4_stores_6 (by decide) (fun c_ => ?_) (fun c_ => ?_)
  · have h := h.1 c_
    refine lv_iconst (v := 1) hx hb dX4_stores_44 (by decide) ?_
    exact hR 1 () H locs (Or.inr rfl) h hP hD hS _ ls dX4_stores_45
  · have h := h.2 c_
    refine lv_aload_n hx hb dX4_stores_9 rfl (lv_at hl 0 rfl) ?_
    refine lv_iload_n hx hb dX4_stores_10 rfl (lv_at hl 1 rfl) ?_
    refine lv_iload hx hb dX4_stores_11 (lv_at hl 4 rfl) ?_
    refine lv_iadd hx hb dX4_stores_13 ?_
    refine zz_Vi (As := [.int (a1 + x5_1)]) (rest := []) (wr := []) ⟨hx, hb, hml, hown, hts⟩ (cwV 1 hts gX4_stores_X4_octet rfl rfl rfl (by decide +kernel) ⟨Nat.le_of_ble_eq_true rfl, Nat.le_of_ble_eq_true rfl⟩) hK hP hD hS hA (c_X4_octet l dC dI kI kZ H.size p_me p_me_octets me_octets (a1 + x5_1) _ h) [0, 1] [] rfl rfl rfl rfl (by decide) 0 rfl rfl rfl rfl hl.1 (Nat.le_of_ble_eq_true rfl) dX4_stores_14 (Nat.le_refl _) (Nat.le_refl _) (fun r_1 u_1 H locs h hP hD hS => ?_)
    have hP : va_P (dC, dI) vwCl [(p_me, .inr (4, [.ref p_me_octets])), (p_me_octets, .inl (kI, 4096, .inl me_octets))] H := hP.sub [0, 1] rfl
    have hD : va_D A [(p_me, .inr (4, [.ref p_me_octets])), (p_me_octets, .inl (kI, 4096, .inl me_octets))] := hD.sub [0, 1] rfl rfl
    refine lv_lload_n hx hb dX4_stores_17 rfl (lv_at hl 3 rfl) ?_
    refine lv_bipush (v := 8) hx hb dX4_stores_18 (by decide) ?_
    refine lv_iload_n hx hb dX4_stores_20 rfl (lv_at hl 2 rfl) ?_
    refine lv_iconst (v := 1) hx hb dX4_stores_21 (by decide) ?_
    refine lv_isub hx hb dX4_stores_22 ?_
    refine lv_iload hx hb dX4_stores_23 (lv_at hl 4 rfl) ?_
    refine lv_isub hx hb dX4_stores_25 ?_
    refine lv_imul hx hb dX4_stores_26 ?_
    refine lv_lushr hx hb dX4_stores_27 rfl ?_
    refine lv_l2i hx hb dX4_stores_28 rfl ?_
    refine lv_sipush (v := 255) hx hb dX4_stores_29 (by decide) ?_
    refine lv_iand hx hb dX4_stores_32 ?_
    refine lv_icmp_eq (tgt := 38) hx hb dX4_stores_33 (by decide) (fun c_ => ?_) (fun c_ => ?_)
    · have h := h.1 c_
      refine lv_iinc (v := (x5_1 + 1)) (lv' := [(5, .int (x5_1 + 1)), (0, .ref p_me), (1, .int a1), (2, .int a2), (3, .long a3)]) hx hb dX4_stores_38 hl (k := 4) rfl rfl (by decide) rfl (fun ls hl => ?_)
      refine lv_goto (tgt := 3) hx hb dX4_stores_41 (by decide) ?_
      exact h H locs hP hD hS ls (lv_sub hl [1, 2, 3, 4, 0] rfl)
    · have h := h.2 c_
      refine lv_iconst (v := 0) hx hb dX4_stores_36 (by decide) ?_
      exact hR 0 () H locs (Or.inl rfl) h hP hD hS _ ls dX4_stores_37
def wp_X1_entryOf (me_octets : Nat → Int32) (di_wordOctets : Int32) (di_entriesAt : Int32) (di_size : Int32) (di_entries : Int32) (a1 : Int64) (K : Int32 → Prop) : Prop :=
  ∀ J22 : Int32 → Prop, (∀ (y_1 : Int32), (∀ L26 : Int32 → Prop, (∀ (x4_1 : Int32), (((y_1 ≤ x4_1) → (K 0)) ∧ ((¬ y_1 ≤ x4_1) → (∀ v_1 : Int32, v_1 = (di_entriesAt + (x4_1 * di_size)) → (wp_X4_stores me_octets v_1 di_wordOctets a1 (fun (r_1 : Int32) => ((r_1 = 0) → (L26 (x4_1 + 1))) ∧ ((¬ r_1 = 0) → (K v_1))))))) → L26 x4_1) → L26 0) → J22 y_1) → (((¬ di_size = 0) → (J22 di_entries)) ∧ ((di_size = 0) → (J22 (if 1 < di_entries then 1 else di_entries))))
abbrev rmX1_entryOf : Room := { frames := 2, cells := 0, slots := 0, locals := 46 }
set_option maxHeartbeats 4000000 in
set_option maxRecDepth 100000 in
theorem c_X1_entryOf (l : Launch) (dC : Nat → ClassId) (dI : Nat → Nat → Nat) (kI kZ : ClassId) (sz : Nat) (p_me : Nat) (p_me_octets : Nat) (p_di : Nat) (p_di_separators : Nat) (me_octets : Nat → Int32) (di_wordOctets : Int32) (di_entriesAt : Int32) (di_size : Int32) (di_entries : Int32) (a1 : Int64) (K : Int32 → Prop) (h : wp_X1_entryOf me_octets di_wordOctets di_entriesAt di_size di_entries a1 K) : Met l yX1_entryOf wsX1_entryOf rmX1_entryOf (va_Pc [.ref p_di, .long a1] (zP (dC, dI) (zT kI kZ) sz [(p_me, .inr (4, [.ref p_me_octets])), (p_me_octets, .inl (kI, 4096, .inl me_octets)), (p_di, .inr (1, [.ref p_me, .int di_wordOctets, .ref p_di_separators, .int di_entriesAt, .int di_size, .int di_entries]))])) (va_Qi (fun (r : Int32) (u : Unit) => K r) (fun (u : Unit) => zB (dC, dI) (zT kI kZ) (va_A [(p_me, .inr (4, [.ref p_me_octets])), (p_me_octets, .inl (kI, 4096, .inl me_octets)), (p_di, .inr (1, [.ref p_me, .int di_wordOctets, .ref p_di_separators, .int di_entriesAt, .int di_size, .int di_entries]))] sz) [(p_me, .inr (4, [.ref p_me_octets])), (p_me_octets, .inl (kI, 4096, .inl me_octets)), (p_di, .inr (1, [.ref p_me, .int di_wordOctets, .ref p_di_separators, .int di_entriesAt, .int di_size, .int di_entries]))]) (va_A [(p_me, .inr (4, [.ref p_me_octets])), (p_me_octets, .inl (kI, 4096, .inl me_octets)), (p_di, .inr (1, [.ref p_me, .int di_wordOctets, .ref p_di_separators, .int di_entriesAt, .int di_size, .int di_entries]))] sz)) 0 0 (va_A [(p_me, .inr (4, [.ref p_me_octets])), (p_me_octets, .inl (kI, 4096, .inl me_octets)), (p_di, .inr (1, [.ref p_me, .int di_wordOctets, .ref p_di_separators, .int di_entriesAt, .int di_size, .int di_entries]))] sz) := by
  refine zz_ofi (cc := cX1_entryOf) (maxL := 6) (by decide) rfl (Nat.le_of_ble_eq_true rfl) ?_
  intro p e s m args below meth c A Q ls hx hb hml hown hts hK hA hR hP hD hS hl
  have hown : s.vm.findClass RX1 = some m.cls := hown
  have hl : lv_has ls 6 [(0, .ref p_di), (1, .long a1)] := hl
  have hi_X1 : ∀ w ∈ wsX10, w ∈ wsX1_entryOf := fun _ h => (List.mem_cons_of_mem _ (List.mem_append_left _ (List.mem_append_right _ h)))
  unfold wp_X1_entryOf at h
  obtain ⟨H, eH⟩ : ∃ H, H = s.heap := ⟨_, rfl⟩
  obtain ⟨locs, eL⟩ : ∃ L : List Loc, L = [] := ⟨_, rfl⟩
  rw [← eL]
  have hS : va_S A s.heap s.heap locs := by rw [eL]; exact hS
  suffices hgo : ∀ H : Heap, va_P (dC, dI) vwCl [(p_me, .inr (4, [.ref p_me_octets])), (p_me_octets, .inl (kI, 4096, .inl me_octets)), (p_di, .inr (1, [.ref p_me, .int di_wordOctets, .ref p_di_separators, .int di_entriesAt, .int di_size, .int di_entries]))] H → va_S A s.heap H locs → W p l e rmX1_entryOf s m args below meth c H locs 0 0 Q (F0 m 0 ls []) from hgo _ hP hS
  clear hP hS eH H eL
  intro H hP hS
  refine lv_aload_n hx hb dX1_entryOf_0 rfl (lv_at hl 0 rfl) ?_
  refine va_get (D := (dC, dI)) (ci := 1) (v := .int di_size) (C := RX1) (T := TX1) (N := 6) hx hb hts hi_X1 hown hK hP 2 rfl rfl 4 (by decide) (hts (.fieldLink RX1 33 "ZInput$Dictionary" "size" "I") (List.mem_cons_of_mem _ (List.mem_append_left _ (List.mem_append_left _ (List.mem_of_getElem? (i := 0) rfl))))) (fun _ h9 => h9) rfl dX1_entryOf_1 ?_
  have h := h (fun (y_1 : Int32) => ∀ (H : Heap) (locs : List Loc), va_P (dC, dI) vwCl [(p_me, .inr (4, [.ref p_me_octets])), (p_me_octets, .inl (kI, 4096, .inl me_octets)), (p_di, .inr (1, [.ref p_me, .int di_wordOctets, .ref p_di_separators, .int di_entriesAt, .int di_size, .int di_entries]))] H → va_D A [(p_me, .inr (4, [.ref p_me_octets])), (p_me_octets, .inl (kI, 4096, .inl me_octets)), (p_di, .inr (1, [.ref p_me, .int di_wordOctets, .ref p_di_separators, .int di_entriesAt, .int di_size, .int di_entries]))] → va_S A s.heap H locs → ∀ ls : Array Slot, lv_has ls 6 [(0, .ref p_di), (1, .long a1)] → W p l e rmX1_entryOf s m args below meth c H locs 0 0 Q (F0 m 22 ls [.int y_1])) (by
    clear h hP hD hS hl
    intro y_1 h H locs hP hD hS ls hl
    refine lv_istore_n (lv' := [(3, .int y_1), (0, .ref p_di), (1, .long a1)]) hx hb dX1_entryOf_22 rfl hl (by decide) rfl (fun ls hl => ?_)
    refine lv_iconst (v := 0) hx hb dX1_entryOf_23 (by decide) ?_
    refine lv_istore (lv' := [(4, .int 0), (3, .int y_1), (0, .ref p_di), (1, .long a1)]) hx hb dX1_entryOf_24 hl (by decide) rfl (fun ls hl => ?_)
    refine h (fun (x4_1 : Int32) => ∀ (H : Heap) (locs : List Loc), va_P (dC, dI) vwCl [(p_me, .inr (4, [.ref p_me_octets])), (p_me_octets, .inl (kI, 4096, .inl me_octets)), (p_di, .inr (1, [.ref p_me, .int di_wordOctets, .ref p_di_separators, .int di_entriesAt, .int di_size, .int di_entries]))] H → va_D A [(p_me, .inr (4, [.ref p_me_octets])), (p_me_octets, .inl (kI, 4096, .inl me_octets)), (p_di, .inr (1, [.ref p_me, .int di_wordOctets, .ref p_di_separators, .int di_entriesAt, .int di_size, .int di_entries]))] → va_S A s.heap H locs → ∀ ls : Array Slot, lv_has ls 6 [(0, .ref p_di), (1, .long a1), (3, .int y_1), (4, .int x4_1)] → W p l e rmX1_entryOf s m args below meth c H locs 0 0 Q (F0 m 26 ls [])) ?_ H locs hP hD hS ls (lv_sub hl [2, 3, 1, 0] rfl)
    clear h hP hD hS hl
    intro x4_1 h H locs hP hD hS ls hl
    refine lv_iload hx hb dX1_entryOf_26 (lv_at hl 3 rfl) ?_
    refine lv_iload_n hx hb dX1_entryOf_28 rfl (lv_at hl 2 rfl) ?_
    refine lv_icmp_ge (tgt := 72) hx hb dX1_entryOf_29 (by decide) (fun c_ => ?_) (fun c_ => ?_)
    · have h := h.1 c_
      refine lv_iconst (v := 0) hx hb dX1_entryOf_72 (by decide) ?_
      exact hR 0 () H locs h hP hD hS _ ls dX1_entryOf_73
    · have h := h.2 c_
      refine lv_aload_n hx hb dX1_entryOf_32 rfl (lv_at hl 0 rfl) ?_
      refine va_get (D := (dC, dI)) (ci := 1) (v := .int di_entriesAt) (C := RX1) (T := TX1) (N := 6) hx hb hts hi_X1 hown hK hP 2 rfl rfl 3 (by decide) (hts (.fieldLink RX1 44 "ZInput$Dictionary" "entriesAt" "I") (List.mem_cons_of_mem _ (List.mem_append_left _ (List.mem_append_left _ (List.mem_of_getElem? (i := 6) rfl))))) (fun _ h9 => h9) rfl dX1_entryOf_33 ?_
      refine lv_iload hx hb dX1_entryOf_36 (lv_at hl 3 rfl) ?_
      refine lv_aload_n hx hb dX1_entryOf_38 rfl (lv_at hl 0 rfl) ?_
      refine va_get (D := (dC, dI)) (ci := 1) (v := .int di_size) (C := RX1) (T := TX1) (N := 6) hx hb hts hi_X1 hown hK hP 2 rfl rfl 4 (by decide) (hts (.fieldLink RX1 33 "ZInput$Dictionary" "size" "I") (List.mem_cons_of_mem _ (List.mem_append_left _ (List.mem_append_left _ (List.mem_of_getElem? (i := 0) rfl))))) (fun _ h9 => h9) rfl dX1_entryOf_39 ?_
      refine lv_imul hx hb dX1_entryOf_42 ?_
      refine lv_iadd hx hb dX1_entryOf_43 ?_
      refine lv_topi (fun v_1 ev_1 => ?_)
      have h := h v_1 ev_1
      refine lv_istore (lv' := [(5, .int v_1), (0, .ref p_di), (1, .long a1), (3, .int y_1), (4, .int x4_1)]) hx hb dX1_entryOf_44 hl (by decide) rfl (fun ls hl => ?_)
      refine lv_aload_n hx hb dX1_entryOf_46 rfl (lv_at hl 1 rfl) ?_
      refine va_get (D := (dC, dI)) (ci := 1) (v := .ref p_me) (C := RX1) (T := TX1) (N := 6) hx hb hts hi_X1 hown hK hP 2 rfl rfl 0 (by decide) (hts (.fieldLink RX1 15 "ZInput$Dictionary" "memory" "LZInput$Memory;") (List.mem_cons_of_mem _ (List.mem_append_left _ (List.mem_append_left _ (List.mem_of_getElem? (i := 7) rfl))))) (fun _ h9 => h9) rfl dX1_entryOf_47 ?_
      refine lv_iload hx hb dX1_entryOf_50 (lv_at hl 0 rfl) ?_
      refine lv_aload_n hx hb dX1_entryOf_52 rfl (lv_at hl 1 rfl) ?_
      refine va_get (D := (dC, dI)) (ci := 1) (v := .int di_wordOctets) (C := RX1) (T := TX1) (N := 6) hx hb hts hi_X1 hown hK hP 2 rfl rfl 1 (by decide) (hts (.fieldLink RX1 19 "ZInput$Dictionary" "wordOctets" "I") (List.mem_cons_of_mem _ (List.mem_append_left _ (List.mem_append_left _ (List.mem_of_getElem? (i := 8) rfl))))) (fun _ h9 => h9) rfl dX1_entryOf_53 ?_
      refine lv_lload_n hx hb dX1_entryOf_56 rfl (lv_at hl 2 rfl) ?_
      refine zz_Vi (As := [.int v_1, .int di_wordOctets, .long a1]) (rest := []) (wr := [(p_di, .inr (1, [.ref p_me, .int di_wordOctets, .ref p_di_separators, .int di_entriesAt, .int di_size, .int di_entries]))]) ⟨hx, hb, hml, hown, hts⟩ (cwV 3 hts gX1_entryOf_X4_stores rfl rfl rfl (by decide +kernel) ⟨Nat.le_of_ble_eq_true rfl, Nat.le_of_ble_eq_true rfl⟩) hK hP hD hS hA (c_X4_stores l dC dI kI kZ H.size p_me p_me_octets me_octets v_1 di_wordOctets a1 _ h) [0, 1] [2] rfl rfl rfl rfl (by decide) 0 rfl rfl rfl rfl hl.1 (Nat.le_of_ble_eq_true rfl) dX1_entryOf_57 (Nat.le_refl _) (Nat.le_refl _) (fun r_1 u_1 H locs h hP hD hS => ?_)
      have hP : va_P (dC, dI) vwCl [(p_me, .inr (4, [.ref p_me_octets])), (p_me_octets, .inl (kI, 4096, .inl me_octets)), (p_di, .inr (1, [.ref p_me, .int di_wordOctets, .ref p_di_separators, .int di_entriesAt, .int di_size, .int di_entries]))] H := hP.sub [1, 2, 0] rfl
      have hD : va_D A [(p_me, .inr (4, [.ref p_me_octets])), (p_me_octets, .inl (kI, 4096, .inl me_octets)), (p_di, .inr (1, [.ref p_me, .int di_wordOctets, .ref p_di_separators, .int di_entriesAt, .int di_size, .int di_entries]))] := hD.sub [1, 2, 0] rfl rfl
      refine lv_if_eq (tgt := 66) hx hb dX1_entryOf_60 (by decide) (fun c_ => ?_) (fun c_ => ?_)
      · have h := h.1 c_
        refine lv_iinc (v := (x4_1 + 1)) (lv' := [(4, .int (x4_1 + 1)), (5, .int v_1), (0, .ref p_di), (1, .long a1), (3, .int y_1)]) hx hb dX1_entryOf_66 hl (k := 4) rfl rfl (by decide) rfl (fun ls hl => ?_)
        refine lv_goto (tgt := 26) hx hb dX1_entryOf_69 (by decide) ?_
        exact h H locs hP hD hS ls (lv_sub hl [2, 3, 4, 0] rfl)
      · have h := h.2 c_
        refine lv_iload hx hb dX1_entryOf_63 (lv_at hl 0 rfl) ?_
        exact hR v_1 () H locs h hP hD hS _ ls dX1_entryOf_65)
  refine lv_if_ne (tgt := 18) hx hb dX1_entryOf_4 (by decide) (fun c_ => ?_) (fun c_ => ?_)
  · have h := h.1 c_
    refine lv_aload_n hx hb dX1_entryOf_18 rfl (lv_at hl 0 rfl) ?_
    refine va_get (D := (dC, dI)) (ci := 1) (v := .int di_entries) (C := RX1) (T := TX1) (N := 6) hx hb hts hi_X1 hown hK hP 2 rfl rfl 5 (by decide) (hts (.fieldLink RX1 41 "ZInput$Dictionary" "entries" "I") (List.mem_cons_of_mem _ (List.mem_append_left _ (List.mem_append_left _ (List.mem_of_getElem? (i := 1) rfl))))) (fun _ h9 => h9) rfl dX1_entryOf_19 ?_
    exact h H locs hP hD hS ls (lv_sub hl [0, 1] rfl)
  · have h := h.2 c_
    refine lv_aload_n hx hb dX1_entryOf_7 rfl (lv_at hl 0 rfl) ?_
    refine va_get (D := (dC, dI)) (ci := 1) (v := .int di_entries) (C := RX1) (T := TX1) (N := 6) hx hb hts hi_X1 hown hK hP 2 rfl rfl 5 (by decide) (hts (.fieldLink RX1 41 "ZInput$Dictionary" "entries" "I") (List.mem_cons_of_mem _ (List.mem_append_left _ (List.mem_append_left _ (List.mem_of_getElem? (i := 1) rfl))))) (fun _ h9 => h9) rfl dX1_entryOf_8 ?_
    refine lv_iconst (v := 1) hx hb dX1_entryOf_11 (by decide) ?_
    refine va_mmin hx hb (hml.trans hl.1.symm) hown (hts (.methodLink RX1 57 Lib.Math.min.name) (List.mem_cons_of_mem _ (List.mem_append_left _ (List.mem_append_left _ (List.mem_of_getElem? (i := 2) rfl))))) (hts (.static Lib.Math.min.name) (List.mem_cons_of_mem _ (List.mem_append_left _ (List.mem_append_left _ (List.mem_of_getElem? (i := 3) rfl))))) (hts (.initialized "java/lang/Math") (List.mem_cons_of_mem _ (List.mem_append_left _ (List.mem_append_left _ (List.mem_of_getElem? (i := 4) rfl))))) (hts (.code Lib.Math.min.name Lib.Math.min.code 2 (some .int)) (List.mem_cons_of_mem _ (List.mem_append_left _ (List.mem_append_left _ (List.mem_of_getElem? (i := 5) rfl))))) (Nat.le_of_ble_eq_true rfl) (Nat.le_of_ble_eq_true rfl) (Nat.le_refl _) (Nat.le_refl _) dX1_entryOf_12 ?_
    refine lv_goto (tgt := 22) hx hb dX1_entryOf_15 (by decide) ?_
    exact h H locs hP hD hS ls (lv_sub hl [0, 1] rfl)
def wp_X1_markSeparators (me_octets : Nat → Int32) (di_separators : Nat → Int32) (a1 : Int32) (a2 : Int32) (K : (Nat → Int32) → Prop) : Prop :=
  ∀ L2 : Int32 → (Nat → Int32) → Prop, (∀ (x3_1 : Int32) (di_separators_1 : Nat → Int32), (((256 ≤ x3_1) → (∀ L26 : Int32 → (Nat → Int32) → Prop, (∀ (x3_2 : Int32) (di_separators_2 : Nat → Int32), (((a2 ≤ x3_2) → (K di_separators_2)) ∧ ((¬ a2 ≤ x3_2) → (wp_X4_octet me_octets (a1 + x3_2) (fun (r_1 : Int32) => ∀ J66 : (Nat → Int32) → Prop, (∀ (di_separators_3 : Nat → Int32), (L26 (x3_2 + 1) di_separators_3) → J66 di_separators_3) → (((r_1 < 0) → (J66 di_separators_2)) ∧ ((¬ r_1 < 0) → (((256 ≤ r_1) → (J66 di_separators_2)) ∧ ((¬ 256 ≤ r_1) → (vp_in r_1 256 ∧ (J66 (upd di_separators_2 (Int32.toNatClampNeg r_1) (vp_nar .boolean 1)))))))))))) → L26 x3_2 di_separators_2) → L26 0 di_separators_1)) ∧ ((¬ 256 ≤ x3_1) → (vp_in x3_1 256 ∧ (L2 (x3_1 + 1) (upd di_separators_1 (Int32.toNatClampNeg x3_1) (vp_nar .boolean 0)))))) → L2 x3_1 di_separators_1) → L2 0 di_separators
abbrev rmX1_markSeparators : Room := { frames := 1, cells := 0, slots := 0, locals := 21 }
set_option maxHeartbeats 4000000 in
set_option maxRecDepth 100000 in
theorem c_X1_markSeparators (l : Launch) (dC : Nat → ClassId) (dI : Nat → Nat → Nat) (kI kZ : ClassId) (sz : Nat) (p_me : Nat) (p_me_octets : Nat) (p_di : Nat) (p_di_separators : Nat) (di_wordOctets : Int32) (di_entriesAt : Int32) (di_size : Int32) (di_entries : Int32) (me_octets : Nat → Int32) (di_separators : Nat → Int32) (a1 : Int32) (a2 : Int32) (K : (Nat → Int32) → Prop) (h : wp_X1_markSeparators me_octets di_separators a1 a2 K) : Met l yX1_markSeparators wsX1_markSeparators rmX1_markSeparators (va_Pc [.ref p_di, .int a1, .int a2] (zP (dC, dI) (zT kI kZ) sz [(p_me, .inr (4, [.ref p_me_octets])), (p_me_octets, .inl (kI, 4096, .inl me_octets)), (p_di, .inr (1, [.ref p_me, .int di_wordOctets, .ref p_di_separators, .int di_entriesAt, .int di_size, .int di_entries])), (p_di_separators, .inl (kZ, 256, .inl di_separators))])) (va_Qv (fun (u : (Nat → Int32)) => K u) (fun (u : (Nat → Int32)) => zB (dC, dI) (zT kI kZ) (va_A [(p_me, .inr (4, [.ref p_me_octets])), (p_me_octets, .inl (kI, 4096, .inl me_octets)), (p_di, .inr (1, [.ref p_me, .int di_wordOctets, .ref p_di_separators, .int di_entriesAt, .int di_size, .int di_entries])), (p_di_separators, .inl (kZ, 256, .inl di_separators))] sz) [(p_me, .inr (4, [.ref p_me_octets])), (p_me_octets, .inl (kI, 4096, .inl me_octets)), (p_di, .inr (1, [.ref p_me, .int di_wordOctets, .ref p_di_separators, .int di_entriesAt, .int di_size, .int di_entries])), (p_di_separators, .inl (kZ, 256, .inl u))]) (va_A [(p_me, .inr (4, [.ref p_me_octets])), (p_me_octets, .inl (kI, 4096, .inl me_octets)), (p_di, .inr (1, [.ref p_me, .int di_wordOctets, .ref p_di_separators, .int di_entriesAt, .int di_size, .int di_entries])), (p_di_separators, .inl (kZ, 256, .inl di_separators))] sz)) 0 0 (va_A [(p_me, .inr (4, [.ref p_me_octets])), (p_me_octets, .inl (kI, 4096, .inl me_octets)), (p_di, .inr (1, [.ref p_me, .int di_wordOctets, .ref p_di_separators, .int di_entriesAt, .int di_size, .int di_entries])), (p_di_separators, .inl (kZ, 256, .inl di_separators))] sz) := by
  refine zz_ofv (cc := cX1_markSeparators) (maxL := 5) (by decide) rfl (Nat.le_of_ble_eq_true rfl) ?_
  intro p e s m args below meth c A Q ls hx hb hml hown hts hK hA hR hP hD hS hl
  have hown : s.vm.findClass RX1 = some m.cls := hown
  have hl : lv_has ls 5 [(0, .ref p_di), (1, .int a1), (2, .int a2)] := hl
  have hi_X1 : ∀ w ∈ wsX10, w ∈ wsX1_markSeparators := fun _ h => (List.mem_cons_of_mem _ (List.mem_append_left _ (List.mem_append_right _ h)))
  unfold wp_X1_markSeparators at h
  obtain ⟨H, eH⟩ : ∃ H, H = s.heap := ⟨_, rfl⟩
  obtain ⟨locs, eL⟩ : ∃ L : List Loc, L = [] := ⟨_, rfl⟩
  rw [← eL]
  have hS : va_S A s.heap s.heap locs := by rw [eL]; exact hS
  suffices hgo : ∀ H : Heap, va_P (dC, dI) vwCl [(p_me, .inr (4, [.ref p_me_octets])), (p_me_octets, .inl (kI, 4096, .inl me_octets)), (p_di, .inr (1, [.ref p_me, .int di_wordOctets, .ref p_di_separators, .int di_entriesAt, .int di_size, .int di_entries])), (p_di_separators, .inl (kZ, 256, .inl di_separators))] H → va_S A s.heap H locs → W p l e rmX1_markSeparators s m args below meth c H locs 0 0 Q (F0 m 0 ls []) from hgo _ hP hS
  clear hP hS eH H eL
  intro H hP hS
  refine lv_iconst (v := 0) hx hb dX1_markSeparators_0 (by decide) ?_
  refine lv_istore_n (lv' := [(3, .int 0), (0, .ref p_di), (1, .int a1), (2, .int a2)]) hx hb dX1_markSeparators_1 rfl hl (by decide) rfl (fun ls hl => ?_)
  refine h (fun (x3_1 : Int32) (di_separators_1 : Nat → Int32) => ∀ (H : Heap) (locs : List Loc), va_P (dC, dI) vwCl [(p_me, .inr (4, [.ref p_me_octets])), (p_me_octets, .inl (kI, 4096, .inl me_octets)), (p_di, .inr (1, [.ref p_me, .int di_wordOctets, .ref p_di_separators, .int di_entriesAt, .int di_size, .int di_entries])), (p_di_separators, .inl (kZ, 256, .inl di_separators_1))] H → va_D A [(p_me, .inr (4, [.ref p_me_octets])), (p_me_octets, .inl (kI, 4096, .inl me_octets)), (p_di, .inr (1, [.ref p_me, .int di_wordOctets, .ref p_di_separators, .int di_entriesAt, .int di_size, .int di_entries])), (p_di_separators, .inl (kZ, 256, .inl di_separators_1))] → va_S A s.heap H locs → ∀ ls : Array Slot, lv_has ls 5 [(0, .ref p_di), (1, .int a1), (2, .int a2), (3, .int x3_1)] → W p l e rmX1_markSeparators s m args below meth c H locs 0 0 Q (F0 m 2 ls [])) ?_ H locs hP hD hS ls (lv_sub hl [1, 2, 3, 0] rfl)
  clear h hP hD hS hl
  intro x3_1 di_separators_1 h H locs hP hD hS ls hl
  refine lv_iload_n hx hb dX1_markSeparators_2 rfl (lv_at hl 3 rfl) ?_
  refine lv_aload_n hx hb dX1_markSeparators_3 rfl (lv_at hl 0 rfl) ?_
  refine va_get (D := (dC, dI)) (ci := 1) (v := .ref p_di_separators) (C := RX1) (T := TX1) (N := 6) hx hb hts hi_X1 hown hK hP 2 rfl rfl 2 (by decide) (hts (.fieldLink RX1 9 "ZInput$Dictionary" "separators" "[Z") (List.mem_cons_of_mem _ (List.mem_append_left _ (List.mem_append_left _ (List.mem_of_getElem? (i := 0) rfl))))) (fun _ h9 => h9) rfl dX1_markSeparators_4 ?_
  refine va_alen (v := 256) hx hb hK hP 3 1 rfl rfl rfl dX1_markSeparators_7 ?_
  refine lv_icmp_ge (tgt := 24) hx hb dX1_markSeparators_8 (by decide) (fun c_ => ?_) (fun c_ => ?_)
  · have h := h.1 c_
    refine lv_iconst (v := 0) hx hb dX1_markSeparators_24 (by decide) ?_
    refine lv_istore_n (lv' := [(3, .int 0), (0, .ref p_di), (1, .int a1), (2, .int a2)]) hx hb dX1_markSeparators_25 rfl hl (by decide) rfl (fun ls hl => ?_)
    refine h (fun (x3_2 : Int32) (di_separators_2 : Nat → Int32) => ∀ (H : Heap) (locs : List Loc), va_P (dC, dI) vwCl [(p_me, .inr (4, [.ref p_me_octets])), (p_me_octets, .inl (kI, 4096, .inl me_octets)), (p_di, .inr (1, [.ref p_me, .int di_wordOctets, .ref p_di_separators, .int di_entriesAt, .int di_size, .int di_entries])), (p_di_separators, .inl (kZ, 256, .inl di_separators_2))] H → va_D A [(p_me, .inr (4, [.ref p_me_octets])), (p_me_octets, .inl (kI, 4096, .inl me_octets)), (p_di, .inr (1, [.ref p_me, .int di_wordOctets, .ref p_di_separators, .int di_entriesAt, .int di_size, .int di_entries])), (p_di_separators, .inl (kZ, 256, .inl di_separators_2))] → va_S A s.heap H locs → ∀ ls : Array Slot, lv_has ls 5 [(0, .ref p_di), (1, .int a1), (2, .int a2), (3, .int x3_2)] → W p l e rmX1_markSeparators s m args below meth c H locs 0 0 Q (F0 m 26 ls [])) ?_ H locs hP hD hS ls (lv_sub hl [1, 2, 3, 0] rfl)
    clear h hP hD hS hl
    intro x3_2 di_separators_2 h H locs hP hD hS ls hl
    refine lv_iload_n hx hb dX1_markSeparators_26 rfl (lv_at hl 3 rfl) ?_
    refine lv_iload_n hx hb dX1_markSeparators_27 rfl (lv_at hl 2 rfl) ?_
    refine lv_icmp_ge (tgt := 72) hx hb dX1_markSeparators_28 (by decide) (fun c_ => ?_) (fun c_ => ?_)
    · have h := h.1 c_
      exact hR di_separators_2 H locs h hP hD hS _ ls dX1_markSeparators_72
    · have h := h.2 c_
      refine lv_aload_n hx hb dX1_markSeparators_31 rfl (lv_at hl 0 rfl) ?_
      refine va_get (D := (dC, dI)) (ci := 1) (v := .ref p_me) (C := RX1) (T := TX1) (N := 6) hx hb hts hi_X1 hown hK hP 2 rfl rfl 0 (by decide) (hts (.fieldLink RX1 15 "ZInput$Dictionary" "memory" "LZInput$Memory;") (List.mem_cons_of_mem _ (List.mem_append_left _ (List.mem_append_left _ (List.mem_of_getElem? (i := 1) rfl))))) (fun _ h9 => h9) rfl dX1_markSeparators_32 ?_
      refine lv_iload_n hx hb dX1_markSeparators_35 rfl (lv_at hl 1 rfl) ?_
      refine lv_iload_n hx hb dX1_markSeparators_36 rfl (lv_at hl 3 rfl) ?_
      refine lv_iadd hx hb dX1_markSeparators_37 ?_
      refine zz_Vi (As := [.int (a1 + x3_2)]) (rest := []) (wr := [(p_di, .inr (1, [.ref p_me, .int di_wordOctets, .ref p_di_separators, .int di_entriesAt, .int di_size, .int di_entries])), (p_di_separators, .inl (kZ, 256, .inl di_separators_2))]) ⟨hx, hb, hml, hown, hts⟩ (cwV 1 hts gX1_markSeparators_X4_octet rfl rfl rfl (by decide +kernel) ⟨Nat.le_of_ble_eq_true rfl, Nat.le_of_ble_eq_true rfl⟩) hK hP hD hS hA (c_X4_octet l dC dI kI kZ H.size p_me p_me_octets me_octets (a1 + x3_2) _ h) [0, 1] [2, 3] rfl rfl rfl rfl (by decide) 0 rfl rfl rfl rfl hl.1 (Nat.le_of_ble_eq_true rfl) dX1_markSeparators_38 (Nat.le_refl _) (Nat.le_refl _) (fun r_1 u_1 H locs h hP hD hS => ?_)
      have hP : va_P (dC, dI) vwCl [(p_me, .inr (4, [.ref p_me_octets])), (p_me_octets, .inl (kI, 4096, .inl me_octets)), (p_di, .inr (1, [.ref p_me, .int di_wordOctets, .ref p_di_separators, .int di_entriesAt, .int di_size, .int di_entries])), (p_di_separators, .inl (kZ, 256, .inl di_separators_2))] H := hP.sub [2, 3, 0, 1] rfl
      have hD : va_D A [(p_me, .inr (4, [.ref p_me_octets])), (p_me_octets, .inl (kI, 4096, .inl me_octets)), (p_di, .inr (1, [.ref p_me, .int di_wordOctets, .ref p_di_separators, .int di_entriesAt, .int di_size, .int di_entries])), (p_di_separators, .inl (kZ, 256, .inl di_separators_2))] := hD.sub [2, 3, 0, 1] rfl rfl
      refine lv_istore (lv' := [(4, .int r_1), (0, .ref p_di), (1, .int a1), (2, .int a2), (3, .int x3_2)]) hx hb dX1_markSeparators_41 hl (by decide) rfl (fun ls hl => ?_)
      refine lv_iload hx hb dX1_markSeparators_43 (lv_at hl 0 rfl) ?_
      have h := h (fun (di_separators_3 : Nat → Int32) => ∀ (H : Heap) (locs : List Loc), va_P (dC, dI) vwCl [(p_me, .inr (4, [.ref p_me_octets])), (p_me_octets, .inl (kI, 4096, .inl me_octets)), (p_di, .inr (1, [.ref p_me, .int di_wordOctets, .ref p_di_separators, .int di_entriesAt, .int di_size, .int di_entries])), (p_di_separators, .inl (kZ, 256, .inl di_separators_3))] H → va_D A [(p_me, .inr (4, [.ref p_me_octets])), (p_me_octets, .inl (kI, 4096, .inl me_octets)), (p_di, .inr (1, [.ref p_me, .int di_wordOctets, .ref p_di_separators, .int di_entriesAt, .int di_size, .int di_entries])), (p_di_separators, .inl (kZ, 256, .inl di_separators_3))] → va_S A s.heap H locs → ∀ ls : Array Slot, lv_has ls 5 [(0, .ref p_di), (1, .int a1), (2, .int a2), (3, .int x3_2)] → W p l e rmX1_markSeparators s m args below meth c H locs 0 0 Q (F0 m 66 ls [])) (by
        clear h hP hD hS hl
        intro di_separators_3 h H locs hP hD hS ls hl
        refine lv_iinc (v := (x3_2 + 1)) (lv' := [(3, .int (x3_2 + 1)), (0, .ref p_di), (1, .int a1), (2, .int a2)]) hx hb dX1_markSeparators_66 hl (k := 3) rfl rfl (by decide) rfl (fun ls hl => ?_)
        refine lv_goto (tgt := 26) hx hb dX1_markSeparators_69 (by decide) ?_
        exact h H locs hP hD hS ls (lv_sub hl [1, 2, 3, 0] rfl))
      refine lv_if_lt (tgt := 66) hx hb dX1_markSeparators_45 (by decide) (fun c_ => ?_) (fun c_ => ?_)
      · have h := h.1 c_
        exact h H locs hP hD hS ls (lv_sub hl [1, 2, 3, 4] rfl)
      · have h := h.2 c_
        refine lv_iload hx hb dX1_markSeparators_48 (lv_at hl 0 rfl) ?_
        refine lv_aload_n hx hb dX1_markSeparators_50 rfl (lv_at hl 1 rfl) ?_
        refine va_get (D := (dC, dI)) (ci := 1) (v := .ref p_di_separators) (C := RX1) (T := TX1) (N := 6) hx hb hts hi_X1 hown hK hP 2 rfl rfl 2 (by decide) (hts (.fieldLink RX1 9 "ZInput$Dictionary" "separators" "[Z") (List.mem_cons_of_mem _ (List.mem_append_left _ (List.mem_append_left _ (List.mem_of_getElem? (i := 0) rfl))))) (fun _ h9 => h9) rfl dX1_markSeparators_51 ?_
        refine va_alen (v := 256) hx hb hK hP 3 1 rfl rfl rfl dX1_markSeparators_54 ?_
        refine lv_icmp_ge (tgt := 66) hx hb dX1_markSeparators_55 (by decide) (fun c_ => ?_) (fun c_ => ?_)
        · have h := h.1 c_
          exact h H locs hP hD hS ls (lv_sub hl [1, 2, 3, 4] rfl)
        · have h := h.2 c_
          refine lv_aload_n hx hb dX1_markSeparators_58 rfl (lv_at hl 1 rfl) ?_
          refine va_get (D := (dC, dI)) (ci := 1) (v := .ref p_di_separators) (C := RX1) (T := TX1) (N := 6) hx hb hts hi_X1 hown hK hP 2 rfl rfl 2 (by decide) (hts (.fieldLink RX1 9 "ZInput$Dictionary" "separators" "[Z") (List.mem_cons_of_mem _ (List.mem_append_left _ (List.mem_append_left _ (List.mem_of_getElem? (i := 0) rfl))))) (fun _ h9 => h9) rfl dX1_markSeparators_59 ?_
          refine lv_iload hx hb dX1_markSeparators_62 (lv_at hl 0 rfl) ?_
          refine lv_iconst (v := 1) hx hb dX1_markSeparators_64 (by decide) ?_
          have hi := h.1
          have h := h.2
          refine va_zast hx hb hK hP hD hS 3 1 rfl rfl hi dX1_markSeparators_65 (fun H locs hP hD hS => ?_)
          have hP : va_P (dC, dI) vwCl [(p_me, .inr (4, [.ref p_me_octets])), (p_me_octets, .inl (kI, 4096, .inl me_octets)), (p_di, .inr (1, [.ref p_me, .int di_wordOctets, .ref p_di_separators, .int di_entriesAt, .int di_size, .int di_entries])), (p_di_separators, .inl (kZ, 256, .inl (upd di_separators_2 (Int32.toNatClampNeg r_1) (vp_nar .boolean 1))))] H := hP
          have hD : va_D A [(p_me, .inr (4, [.ref p_me_octets])), (p_me_octets, .inl (kI, 4096, .inl me_octets)), (p_di, .inr (1, [.ref p_me, .int di_wordOctets, .ref p_di_separators, .int di_entriesAt, .int di_size, .int di_entries])), (p_di_separators, .inl (kZ, 256, .inl (upd di_separators_2 (Int32.toNatClampNeg r_1) (vp_nar .boolean 1))))] := hD
          exact h H locs hP hD hS ls (lv_sub hl [1, 2, 3, 4] rfl)
  · have h := h.2 c_
    refine lv_aload_n hx hb dX1_markSeparators_11 rfl (lv_at hl 0 rfl) ?_
    refine va_get (D := (dC, dI)) (ci := 1) (v := .ref p_di_separators) (C := RX1) (T := TX1) (N := 6) hx hb hts hi_X1 hown hK hP 2 rfl rfl 2 (by decide) (hts (.fieldLink RX1 9 "ZInput$Dictionary" "separators" "[Z") (List.mem_cons_of_mem _ (List.mem_append_left _ (List.mem_append_left _ (List.mem_of_getElem? (i := 0) rfl))))) (fun _ h9 => h9) rfl dX1_markSeparators_12 ?_
    refine lv_iload_n hx hb dX1_markSeparators_15 rfl (lv_at hl 3 rfl) ?_
    refine lv_iconst (v := 0) hx hb dX1_markSeparators_16 (by decide) ?_
    have hi := h.1
    have h := h.2
    refine va_zast hx hb hK hP hD hS 3 1 rfl rfl hi dX1_markSeparators_17 (fun H locs hP hD hS => ?_)
    have hP : va_P (dC, dI) vwCl [(p_me, .inr (4, [.ref p_me_octets])), (p_me_octets, .inl (kI, 4096, .inl me_octets)), (p_di, .inr (1, [.ref p_me, .int di_wordOctets, .ref p_di_separators, .int di_entriesAt, .int di_size, .int di_entries])), (p_di_separators, .inl (kZ, 256, .inl (upd di_separators_1 (Int32.toNatClampNeg x3_1) (vp_nar .boolean 0))))] H := hP
    have hD : va_D A [(p_me, .inr (4, [.ref p_me_octets])), (p_me_octets, .inl (kI, 4096, .inl me_octets)), (p_di, .inr (1, [.ref p_me, .int di_wordOctets, .ref p_di_separators, .int di_entriesAt, .int di_size, .int di_entries])), (p_di_separators, .inl (kZ, 256, .inl (upd di_separators_1 (Int32.toNatClampNeg x3_1) (vp_nar .boolean 0))))] := hD
    refine lv_iinc (v := (x3_1 + 1)) (lv' := [(3, .int (x3_1 + 1)), (0, .ref p_di), (1, .int a1), (2, .int a2)]) hx hb dX1_markSeparators_18 hl (k := 3) rfl rfl (by decide) rfl (fun ls hl => ?_)
    refine lv_goto (tgt := 2) hx hb dX1_markSeparators_21 (by decide) ?_
    exact h H locs hP hD hS ls (lv_sub hl [1, 2, 3, 0] rfl)
def wp_X4_holds (a1 : Int32) (a2 : Int32) (K : Int32 → Prop) : Prop :=
  ((a2 ≤ 0) → (K 1)) ∧ ((¬ a2 ≤ 0) → (((a1 < 0) → (K 0)) ∧ ((¬ a1 < 0) → ((((4096 - a2) < a1) → (K 0)) ∧ ((¬ (4096 - a2) < a1) → (K 1))))))
abbrev rmX4_holds : Room := { frames := 0, cells := 0, slots := 0, locals := 0 }
set_option maxHeartbeats 4000000 in
set_option maxRecDepth 100000 in
theorem c_X4_holds (l : Launch) (dC : Nat → ClassId) (dI : Nat → Nat → Nat) (kI kZ : ClassId) (sz : Nat) (p_me : Nat) (p_me_octets : Nat) (a1 : Int32) (a2 : Int32) (K : Int32 → Prop) (h : wp_X4_holds a1 a2 K) : Met l yX4_holds wsX4_holds rmX4_holds (va_Pc [.ref p_me, .int a1, .int a2] (zP (dC, dI) (zT kI kZ) sz [(p_me, .inr (4, [.ref p_me_octets]))])) (va_Qi (fun (r : Int32) (u : Unit) => K r) (fun (u : Unit) => zB (dC, dI) (zT kI kZ) (va_A [(p_me, .inr (4, [.ref p_me_octets]))] sz) [(p_me, .inr (4, [.ref p_me_octets]))]) (va_A [(p_me, .inr (4, [.ref p_me_octets]))] sz)) 0 0 (va_A [(p_me, .inr (4, [.ref p_me_octets]))] sz) := by
  refine zz_ofz (cc := cX4_holds) (maxL := 3) (by decide) rfl (Nat.le_of_ble_eq_true rfl) ?_
  intro p e s m args below meth c A Q ls hx hb hml hown hts hK hA hR hP hD hS hl
  have hown : s.vm.findClass RX4 = some m.cls := hown
  have hl : lv_has ls 3 [(0, .ref p_me), (1, .int a1), (2, .int a2)] := hl
  unfold wp_X4_holds at h
  obtain ⟨H, eH⟩ : ∃ H, H = s.heap := ⟨_, rfl⟩
  obtain ⟨locs, eL⟩ : ∃ L : List Loc, L = [] := ⟨_, rfl⟩
  rw [← eL]
  have hS : va_S A s.heap s.heap locs := by rw [eL]; exact hS
  suffices hgo : ∀ H : Heap, va_P (dC, dI) vwCl [(p_me, .inr (4, [.ref p_me_octets]))] H → va_S A s.heap H locs → W p l e rmX4_holds s m args below meth c H locs 0 0 Q (F0 m 0 ls []) from hgo _ hP hS
  clear hP hS eH H eL
  intro H hP hS
  refine lv_iload_n hx hb dX4_holds_0 rfl (lv_at hl 2 rfl) ?_
  refine lv_if_le (tgt := 17) hx hb dX4_holds_1 (by decide) (fun c_ => ?_) (fun c_ => ?_)
  · have h := h.1 c_
    refine lv_iconst (v := 1) hx hb dX4_holds_17 (by decide) ?_
    refine lv_goto (tgt := 22) hx hb dX4_holds_18 (by decide) ?_
    exact hR 1 () H locs (Or.inr rfl) h hP hD hS _ ls dX4_holds_22
  · have h := h.2 c_
    refine lv_iload_n hx hb dX4_holds_4 rfl (lv_at hl 1 rfl) ?_
    refine lv_if_lt (tgt := 21) hx hb dX4_holds_5 (by decide) (fun c_ => ?_) (fun c_ => ?_)
    · have h := h.1 c_
      refine lv_iconst (v := 0) hx hb dX4_holds_21 (by decide) ?_
      exact hR 0 () H locs (Or.inl rfl) h hP hD hS _ ls dX4_holds_22
    · have h := h.2 c_
      refine lv_iload_n hx hb dX4_holds_8 rfl (lv_at hl 1 rfl) ?_
      refine lv_sipush (v := 4096) hx hb dX4_holds_9 (by decide) ?_
      refine lv_iload_n hx hb dX4_holds_12 rfl (lv_at hl 2 rfl) ?_
      refine lv_isub hx hb dX4_holds_13 ?_
      refine lv_icmp_gt (tgt := 21) hx hb dX4_holds_14 (by decide) (fun c_ => ?_) (fun c_ => ?_)
      · have h := h.1 c_
        refine lv_iconst (v := 0) hx hb dX4_holds_21 (by decide) ?_
        exact hR 0 () H locs (Or.inl rfl) h hP hD hS _ ls dX4_holds_22
      · have h := h.2 c_
        refine lv_iconst (v := 1) hx hb dX4_holds_17 (by decide) ?_
        refine lv_goto (tgt := 22) hx hb dX4_holds_18 (by decide) ?_
        exact hR 1 () H locs (Or.inr rfl) h hP hD hS _ ls dX4_holds_22
def wp_X4_pair (me_octets : Nat → Int32) (a1 : Int32) (K : Int32 → Prop) : Prop :=
  wp_X4_octet me_octets a1 (fun (r_1 : Int32) => wp_X4_octet me_octets (a1 + 1) (fun (r_2 : Int32) => K ((r_1 * 256) + r_2)))
abbrev rmX4_pair : Room := { frames := 1, cells := 0, slots := 0, locals := 21 }
set_option maxHeartbeats 4000000 in
set_option maxRecDepth 100000 in
theorem c_X4_pair (l : Launch) (dC : Nat → ClassId) (dI : Nat → Nat → Nat) (kI kZ : ClassId) (sz : Nat) (p_me : Nat) (p_me_octets : Nat) (me_octets : Nat → Int32) (a1 : Int32) (K : Int32 → Prop) (h : wp_X4_pair me_octets a1 K) : Met l yX4_pair wsX4_pair rmX4_pair (va_Pc [.ref p_me, .int a1] (zP (dC, dI) (zT kI kZ) sz [(p_me, .inr (4, [.ref p_me_octets])), (p_me_octets, .inl (kI, 4096, .inl me_octets))])) (va_Qi (fun (r : Int32) (u : Unit) => K r) (fun (u : Unit) => zB (dC, dI) (zT kI kZ) (va_A [(p_me, .inr (4, [.ref p_me_octets])), (p_me_octets, .inl (kI, 4096, .inl me_octets))] sz) [(p_me, .inr (4, [.ref p_me_octets])), (p_me_octets, .inl (kI, 4096, .inl me_octets))]) (va_A [(p_me, .inr (4, [.ref p_me_octets])), (p_me_octets, .inl (kI, 4096, .inl me_octets))] sz)) 0 0 (va_A [(p_me, .inr (4, [.ref p_me_octets])), (p_me_octets, .inl (kI, 4096, .inl me_octets))] sz) := by
  refine zz_ofi (cc := cX4_pair) (maxL := 2) (by decide) rfl (Nat.le_of_ble_eq_true rfl) ?_
  intro p e s m args below meth c A Q ls hx hb hml hown hts hK hA hR hP hD hS hl
  have hown : s.vm.findClass RX4 = some m.cls := hown
  have hl : lv_has ls 2 [(0, .ref p_me), (1, .int a1)] := hl
  unfold wp_X4_pair at h
  obtain ⟨H, eH⟩ : ∃ H, H = s.heap := ⟨_, rfl⟩
  obtain ⟨locs, eL⟩ : ∃ L : List Loc, L = [] := ⟨_, rfl⟩
  rw [← eL]
  have hS : va_S A s.heap s.heap locs := by rw [eL]; exact hS
  suffices hgo : ∀ H : Heap, va_P (dC, dI) vwCl [(p_me, .inr (4, [.ref p_me_octets])), (p_me_octets, .inl (kI, 4096, .inl me_octets))] H → va_S A s.heap H locs → W p l e rmX4_pair s m args below meth c H locs 0 0 Q (F0 m 0 ls []) from hgo _ hP hS
  clear hP hS eH H eL
  intro H hP hS
  refine lv_aload_n hx hb dX4_pair_0 rfl (lv_at hl 0 rfl) ?_
  refine lv_iload_n hx hb dX4_pair_1 rfl (lv_at hl 1 rfl) ?_
  refine zz_Vi (As := [.int a1]) (rest := []) (wr := []) ⟨hx, hb, hml, hown, hts⟩ (cwV 1 hts gX4_pair_X4_octet rfl rfl rfl (by decide +kernel) ⟨Nat.le_of_ble_eq_true rfl, Nat.le_of_ble_eq_true rfl⟩) hK hP hD hS hA (c_X4_octet l dC dI kI kZ H.size p_me p_me_octets me_octets a1 _ h) [0, 1] [] rfl rfl rfl rfl (by decide) 0 rfl rfl rfl rfl hl.1 (Nat.le_of_ble_eq_true rfl) dX4_pair_2 (Nat.le_refl _) (Nat.le_refl _) (fun r_1 u_1 H locs h hP hD hS => ?_)
  have hP : va_P (dC, dI) vwCl [(p_me, .inr (4, [.ref p_me_octets])), (p_me_octets, .inl (kI, 4096, .inl me_octets))] H := hP.sub [0, 1] rfl
  have hD : va_D A [(p_me, .inr (4, [.ref p_me_octets])), (p_me_octets, .inl (kI, 4096, .inl me_octets))] := hD.sub [0, 1] rfl rfl
  refine lv_sipush (v := 256) hx hb dX4_pair_5 (by decide) ?_
  refine lv_imul hx hb dX4_pair_8 ?_
  refine lv_aload_n hx hb dX4_pair_9 rfl (lv_at hl 0 rfl) ?_
  refine lv_iload_n hx hb dX4_pair_10 rfl (lv_at hl 1 rfl) ?_
  refine lv_iconst (v := 1) hx hb dX4_pair_11 (by decide) ?_
  refine lv_iadd hx hb dX4_pair_12 ?_
  refine zz_Vi (As := [.int (a1 + 1)]) (rest := [.int (r_1 * 256)]) (wr := []) ⟨hx, hb, hml, hown, hts⟩ (cwV 1 hts gX4_pair_X4_octet rfl rfl rfl (by decide +kernel) ⟨Nat.le_of_ble_eq_true rfl, Nat.le_of_ble_eq_true rfl⟩) hK hP hD hS hA (c_X4_octet l dC dI kI kZ H.size p_me p_me_octets me_octets (a1 + 1) _ h) [0, 1] [] rfl rfl rfl rfl (by decide) 0 rfl rfl rfl rfl hl.1 (Nat.le_of_ble_eq_true rfl) dX4_pair_13 (Nat.le_refl _) (Nat.le_refl _) (fun r_2 u_2 H locs h hP hD hS => ?_)
  have hP : va_P (dC, dI) vwCl [(p_me, .inr (4, [.ref p_me_octets])), (p_me_octets, .inl (kI, 4096, .inl me_octets))] H := hP.sub [0, 1] rfl
  have hD : va_D A [(p_me, .inr (4, [.ref p_me_octets])), (p_me_octets, .inl (kI, 4096, .inl me_octets))] := hD.sub [0, 1] rfl rfl
  refine lv_iadd hx hb dX4_pair_16 ?_
  exact hR ((r_1 * 256) + r_2) () H locs h hP hD hS _ ls dX4_pair_17
def wp_X1_open (me_octets : Nat → Int32) (di_wordOctets : Int32) (di_separators : Nat → Int32) (di_entriesAt : Int32) (di_size : Int32) (di_entries : Int32) (a1 : Int32) (K : Int32 → (Nat → Int32) → Int32 → Int32 → Int32 → Prop) : Prop :=
  wp_X4_octet me_octets a1 (fun (r_1 : Int32) => wp_X4_holds a1 (r_1 + 4) (fun (r_2 : Int32) => ((¬ r_2 = 0) → (wp_X4_octet me_octets ((a1 + r_1) + 1) (fun (r_3 : Int32) => wp_X4_pair me_octets ((a1 + r_1) + 2) (fun (r_4 : Int32) => ∀ J69 : Int32 → Prop, (∀ (y_1 : Int32), (∀ v_1 : Int32, v_1 = ((a1 + r_1) + 4) → (wp_X1_markSeparators me_octets di_separators (a1 + 1) r_1 (fun (di_separators_1 : Nat → Int32) => ((y_1 = 0) → (K 1 di_separators_1 v_1 r_3 y_1)) ∧ ((¬ y_1 = 0) → (wp_X4_holds v_1 (((y_1 - 1) * r_3) + (if r_3 < di_wordOctets then di_wordOctets else r_3)) (fun (r_5 : Int32) => ((r_5 = 0) → (K 0 di_separators_1 v_1 r_3 y_1)) ∧ ((¬ r_5 = 0) → (K 1 di_separators_1 v_1 r_3 y_1)))))))) → J69 y_1) → (((32768 ≤ r_4) → (J69 (65536 - r_4))) ∧ ((¬ 32768 ≤ r_4) → (J69 r_4))))))) ∧ ((r_2 = 0) → (K 0 di_separators di_entriesAt di_size di_entries))))
abbrev rmX1_open : Room := { frames := 2, cells := 0, slots := 0, locals := 45 }
set_option maxHeartbeats 4000000 in
set_option maxRecDepth 100000 in
theorem c_X1_open (l : Launch) (dC : Nat → ClassId) (dI : Nat → Nat → Nat) (kI kZ : ClassId) (sz : Nat) (p_me : Nat) (p_me_octets : Nat) (p_di : Nat) (p_di_separators : Nat) (me_octets : Nat → Int32) (di_wordOctets : Int32) (di_separators : Nat → Int32) (di_entriesAt : Int32) (di_size : Int32) (di_entries : Int32) (a1 : Int32) (K : Int32 → (Nat → Int32) → Int32 → Int32 → Int32 → Prop) (h : wp_X1_open me_octets di_wordOctets di_separators di_entriesAt di_size di_entries a1 K) : Met l yX1_open wsX1_open rmX1_open (va_Pc [.ref p_di, .int a1] (zP (dC, dI) (zT kI kZ) sz [(p_me, .inr (4, [.ref p_me_octets])), (p_me_octets, .inl (kI, 4096, .inl me_octets)), (p_di, .inr (1, [.ref p_me, .int di_wordOctets, .ref p_di_separators, .int di_entriesAt, .int di_size, .int di_entries])), (p_di_separators, .inl (kZ, 256, .inl di_separators))])) (va_Qi (fun (r : Int32) (u : (Nat → Int32) × Int32 × Int32 × Int32) => K r u.1 u.2.1 u.2.2.1 u.2.2.2) (fun (u : (Nat → Int32) × Int32 × Int32 × Int32) => zB (dC, dI) (zT kI kZ) (va_A [(p_me, .inr (4, [.ref p_me_octets])), (p_me_octets, .inl (kI, 4096, .inl me_octets)), (p_di, .inr (1, [.ref p_me, .int di_wordOctets, .ref p_di_separators, .int di_entriesAt, .int di_size, .int di_entries])), (p_di_separators, .inl (kZ, 256, .inl di_separators))] sz) [(p_me, .inr (4, [.ref p_me_octets])), (p_me_octets, .inl (kI, 4096, .inl me_octets)), (p_di, .inr (1, [.ref p_me, .int di_wordOctets, .ref p_di_separators, .int u.2.1, .int u.2.2.1, .int u.2.2.2])), (p_di_separators, .inl (kZ, 256, .inl u.1))]) (va_A [(p_me, .inr (4, [.ref p_me_octets])), (p_me_octets, .inl (kI, 4096, .inl me_octets)), (p_di, .inr (1, [.ref p_me, .int di_wordOctets, .ref p_di_separators, .int di_entriesAt, .int di_size, .int di_entries])), (p_di_separators, .inl (kZ, 256, .inl di_separators))] sz)) 0 0 (va_A [(p_me, .inr (4, [.ref p_me_octets])), (p_me_octets, .inl (kI, 4096, .inl me_octets)), (p_di, .inr (1, [.ref p_me, .int di_wordOctets, .ref p_di_separators, .int di_entriesAt, .int di_size, .int di_entries])), (p_di_separators, .inl (kZ, 256, .inl di_separators))] sz) := by
  refine zz_ofz (cc := cX1_open) (maxL := 4) (by decide) rfl (Nat.le_of_ble_eq_true rfl) ?_
  intro p e s m args below meth c A Q ls hx hb hml hown hts hK hA hR hP hD hS hl
  have hown : s.vm.findClass RX1 = some m.cls := hown
  have hl : lv_has ls 4 [(0, .ref p_di), (1, .int a1)] := hl
  have hi_X1 : ∀ w ∈ wsX10, w ∈ wsX1_open := fun _ h => (List.mem_cons_of_mem _ (List.mem_append_left _ (List.mem_append_right _ h)))
  unfold wp_X1_open at h
  obtain ⟨H, eH⟩ : ∃ H, H = s.heap := ⟨_, rfl⟩
  obtain ⟨locs, eL⟩ : ∃ L : List Loc, L = [] := ⟨_, rfl⟩
  rw [← eL]
  have hS : va_S A s.heap s.heap locs := by rw [eL]; exact hS
  suffices hgo : ∀ H : Heap, va_P (dC, dI) vwCl [(p_me, .inr (4, [.ref p_me_octets])), (p_me_octets, .inl (kI, 4096, .inl me_octets)), (p_di, .inr (1, [.ref p_me, .int di_wordOctets, .ref p_di_separators, .int di_entriesAt, .int di_size, .int di_entries])), (p_di_separators, .inl (kZ, 256, .inl di_separators))] H → va_S A s.heap H locs → W p l e rmX1_open s m args below meth c H locs 0 0 Q (F0 m 0 ls []) from hgo _ hP hS
  clear hP hS eH H eL
  intro H hP hS
  refine lv_aload_n hx hb dX1_open_0 rfl (lv_at hl 0 rfl) ?_
  refine va_get (D := (dC, dI)) (ci := 1) (v := .ref p_me) (C := RX1) (T := TX1) (N := 6) hx hb hts hi_X1 hown hK hP 2 rfl rfl 0 (by decide) (hts (.fieldLink RX1 15 "ZInput$Dictionary" "memory" "LZInput$Memory;") (List.mem_cons_of_mem _ (List.mem_append_left _ (List.mem_append_left _ (List.mem_append_left _ (List.mem_of_getElem? (i := 0) rfl)))))) (fun _ h9 => h9) rfl dX1_open_1 ?_
  refine lv_iload_n hx hb dX1_open_4 rfl (lv_at hl 1 rfl) ?_
  refine zz_Vi (As := [.int a1]) (rest := []) (wr := [(p_di, .inr (1, [.ref p_me, .int di_wordOctets, .ref p_di_separators, .int di_entriesAt, .int di_size, .int di_entries])), (p_di_separators, .inl (kZ, 256, .inl di_separators))]) ⟨hx, hb, hml, hown, hts⟩ (cwV 1 hts gX1_open_X4_octet rfl rfl rfl (by decide +kernel) ⟨Nat.le_of_ble_eq_true rfl, Nat.le_of_ble_eq_true rfl⟩) hK hP hD hS hA (c_X4_octet l dC dI kI kZ H.size p_me p_me_octets me_octets a1 _ h) [0, 1] [2, 3] rfl rfl rfl rfl (by decide) 0 rfl rfl rfl rfl hl.1 (Nat.le_of_ble_eq_true rfl) dX1_open_5 (Nat.le_refl _) (Nat.le_refl _) (fun r_1 u_1 H locs h hP hD hS => ?_)
  have hP : va_P (dC, dI) vwCl [(p_me, .inr (4, [.ref p_me_octets])), (p_me_octets, .inl (kI, 4096, .inl me_octets)), (p_di, .inr (1, [.ref p_me, .int di_wordOctets, .ref p_di_separators, .int di_entriesAt, .int di_size, .int di_entries])), (p_di_separators, .inl (kZ, 256, .inl di_separators))] H := hP.sub [2, 3, 0, 1] rfl
  have hD : va_D A [(p_me, .inr (4, [.ref p_me_octets])), (p_me_octets, .inl (kI, 4096, .inl me_octets)), (p_di, .inr (1, [.ref p_me, .int di_wordOctets, .ref p_di_separators, .int di_entriesAt, .int di_size, .int di_entries])), (p_di_separators, .inl (kZ, 256, .inl di_separators))] := hD.sub [2, 3, 0, 1] rfl rfl
  refine lv_istore_n (lv' := [(2, .int r_1), (0, .ref p_di), (1, .int a1)]) hx hb dX1_open_8 rfl hl (by decide) rfl (fun ls hl => ?_)
  refine lv_aload_n hx hb dX1_open_9 rfl (lv_at hl 1 rfl) ?_
  refine va_get (D := (dC, dI)) (ci := 1) (v := .ref p_me) (C := RX1) (T := TX1) (N := 6) hx hb hts hi_X1 hown hK hP 2 rfl rfl 0 (by decide) (hts (.fieldLink RX1 15 "ZInput$Dictionary" "memory" "LZInput$Memory;") (List.mem_cons_of_mem _ (List.mem_append_left _ (List.mem_append_left _ (List.mem_append_left _ (List.mem_of_getElem? (i := 0) rfl)))))) (fun _ h9 => h9) rfl dX1_open_10 ?_
  refine lv_iload_n hx hb dX1_open_13 rfl (lv_at hl 2 rfl) ?_
  refine lv_iload_n hx hb dX1_open_14 rfl (lv_at hl 0 rfl) ?_
  refine lv_iconst (v := 4) hx hb dX1_open_15 (by decide) ?_
  refine lv_iadd hx hb dX1_open_16 ?_
  refine zz_Vi (As := [.int a1, .int (r_1 + 4)]) (rest := []) (wr := [(p_me_octets, .inl (kI, 4096, .inl me_octets)), (p_di, .inr (1, [.ref p_me, .int di_wordOctets, .ref p_di_separators, .int di_entriesAt, .int di_size, .int di_entries])), (p_di_separators, .inl (kZ, 256, .inl di_separators))]) ⟨hx, hb, hml, hown, hts⟩ (cwV 2 hts gX1_open_X4_holds rfl rfl rfl (by decide +kernel) ⟨Nat.le_of_ble_eq_true rfl, Nat.le_of_ble_eq_true rfl⟩) hK hP hD hS hA (c_X4_holds l dC dI kI kZ H.size p_me p_me_octets a1 (r_1 + 4) _ h) [0] [1, 2, 3] rfl rfl rfl rfl (by decide) 0 rfl rfl rfl rfl hl.1 (Nat.le_of_ble_eq_true rfl) dX1_open_17 (Nat.le_refl _) (Nat.le_refl _) (fun r_2 u_2 H locs h hP hD hS => ?_)
  have hP : va_P (dC, dI) vwCl [(p_me, .inr (4, [.ref p_me_octets])), (p_me_octets, .inl (kI, 4096, .inl me_octets)), (p_di, .inr (1, [.ref p_me, .int di_wordOctets, .ref p_di_separators, .int di_entriesAt, .int di_size, .int di_entries])), (p_di_separators, .inl (kZ, 256, .inl di_separators))] H := hP.sub [3, 0, 1, 2] rfl
  have hD : va_D A [(p_me, .inr (4, [.ref p_me_octets])), (p_me_octets, .inl (kI, 4096, .inl me_octets)), (p_di, .inr (1, [.ref p_me, .int di_wordOctets, .ref p_di_separators, .int di_entriesAt, .int di_size, .int di_entries])), (p_di_separators, .inl (kZ, 256, .inl di_separators))] := hD.sub [3, 0, 1, 2] rfl rfl
  refine lv_if_ne (tgt := 25) hx hb dX1_open_20 (by decide) (fun c_ => ?_) (fun c_ => ?_)
  · have h := h.1 c_
    refine lv_aload_n hx hb dX1_open_25 rfl (lv_at hl 1 rfl) ?_
    refine lv_aload_n hx hb dX1_open_26 rfl (lv_at hl 1 rfl) ?_
    refine va_get (D := (dC, dI)) (ci := 1) (v := .ref p_me) (C := RX1) (T := TX1) (N := 6) hx hb hts hi_X1 hown hK hP 2 rfl rfl 0 (by decide) (hts (.fieldLink RX1 15 "ZInput$Dictionary" "memory" "LZInput$Memory;") (List.mem_cons_of_mem _ (List.mem_append_left _ (List.mem_append_left _ (List.mem_append_left _ (List.mem_of_getElem? (i := 0) rfl)))))) (fun _ h9 => h9) rfl dX1_open_27 ?_
    refine lv_iload_n hx hb dX1_open_30 rfl (lv_at hl 2 rfl) ?_
    refine lv_iload_n hx hb dX1_open_31 rfl (lv_at hl 0 rfl) ?_
    refine lv_iadd hx hb dX1_open_32 ?_
    refine lv_iconst (v := 1) hx hb dX1_open_33 (by decide) ?_
    refine lv_iadd hx hb dX1_open_34 ?_
    refine zz_Vi (As := [.int ((a1 + r_1) + 1)]) (rest := [.ref p_di]) (wr := [(p_di, .inr (1, [.ref p_me, .int di_wordOctets, .ref p_di_separators, .int di_entriesAt, .int di_size, .int di_entries])), (p_di_separators, .inl (kZ, 256, .inl di_separators))]) ⟨hx, hb, hml, hown, hts⟩ (cwV 1 hts gX1_open_X4_octet rfl rfl rfl (by decide +kernel) ⟨Nat.le_of_ble_eq_true rfl, Nat.le_of_ble_eq_true rfl⟩) hK hP hD hS hA (c_X4_octet l dC dI kI kZ H.size p_me p_me_octets me_octets ((a1 + r_1) + 1) _ h) [0, 1] [2, 3] rfl rfl rfl rfl (by decide) 0 rfl rfl rfl rfl hl.1 (Nat.le_of_ble_eq_true rfl) dX1_open_35 (Nat.le_refl _) (Nat.le_refl _) (fun r_3 u_3 H locs h hP hD hS => ?_)
    have hP : va_P (dC, dI) vwCl [(p_me, .inr (4, [.ref p_me_octets])), (p_me_octets, .inl (kI, 4096, .inl me_octets)), (p_di, .inr (1, [.ref p_me, .int di_wordOctets, .ref p_di_separators, .int di_entriesAt, .int di_size, .int di_entries])), (p_di_separators, .inl (kZ, 256, .inl di_separators))] H := hP.sub [2, 3, 0, 1] rfl
    have hD : va_D A [(p_me, .inr (4, [.ref p_me_octets])), (p_me_octets, .inl (kI, 4096, .inl me_octets)), (p_di, .inr (1, [.ref p_me, .int di_wordOctets, .ref p_di_separators, .int di_entriesAt, .int di_size, .int di_entries])), (p_di_separators, .inl (kZ, 256, .inl di_separators))] := hD.sub [2, 3, 0, 1] rfl rfl
    refine va_put (D := (dC, dI)) (ci := 1) (v := .int r_3) (ty := .int) (C := RX1) (T := TX1) (N := 6) hx hb hts hi_X1 tyX1 tyX1_ok nmX1 hown hK hP hD hS 2 rfl rfl 4 (by decide) (hts (.fieldLink RX1 33 "ZInput$Dictionary" "size" "I") (List.mem_cons_of_mem _ (List.mem_append_left _ (List.mem_append_left _ (List.mem_append_left _ (List.mem_of_getElem? (i := 1) rfl)))))) (fun _ h9 => h9) rfl (by decide +kernel) rfl rfl (Nat.le_of_ble_eq_true rfl) dX1_open_38 (fun H locs hP hD hS => ?_)
    have hP : va_P (dC, dI) vwCl [(p_me, .inr (4, [.ref p_me_octets])), (p_me_octets, .inl (kI, 4096, .inl me_octets)), (p_di, .inr (1, [.ref p_me, .int di_wordOctets, .ref p_di_separators, .int di_entriesAt, .int r_3, .int di_entries])), (p_di_separators, .inl (kZ, 256, .inl di_separators))] H := hP
    have hD : va_D A [(p_me, .inr (4, [.ref p_me_octets])), (p_me_octets, .inl (kI, 4096, .inl me_octets)), (p_di, .inr (1, [.ref p_me, .int di_wordOctets, .ref p_di_separators, .int di_entriesAt, .int r_3, .int di_entries])), (p_di_separators, .inl (kZ, 256, .inl di_separators))] := hD
    refine lv_aload_n hx hb dX1_open_41 rfl (lv_at hl 1 rfl) ?_
    refine va_get (D := (dC, dI)) (ci := 1) (v := .ref p_me) (C := RX1) (T := TX1) (N := 6) hx hb hts hi_X1 hown hK hP 2 rfl rfl 0 (by decide) (hts (.fieldLink RX1 15 "ZInput$Dictionary" "memory" "LZInput$Memory;") (List.mem_cons_of_mem _ (List.mem_append_left _ (List.mem_append_left _ (List.mem_append_left _ (List.mem_of_getElem? (i := 0) rfl)))))) (fun _ h9 => h9) rfl dX1_open_42 ?_
    refine lv_iload_n hx hb dX1_open_45 rfl (lv_at hl 2 rfl) ?_
    refine lv_iload_n hx hb dX1_open_46 rfl (lv_at hl 0 rfl) ?_
    refine lv_iadd hx hb dX1_open_47 ?_
    refine lv_iconst (v := 2) hx hb dX1_open_48 (by decide) ?_
    refine lv_iadd hx hb dX1_open_49 ?_
    refine zz_Vi (As := [.int ((a1 + r_1) + 2)]) (rest := []) (wr := [(p_di, .inr (1, [.ref p_me, .int di_wordOctets, .ref p_di_separators, .int di_entriesAt, .int r_3, .int di_entries])), (p_di_separators, .inl (kZ, 256, .inl di_separators))]) ⟨hx, hb, hml, hown, hts⟩ (cwV 1 hts gX1_open_X4_pair rfl rfl rfl (by decide +kernel) ⟨Nat.le_of_ble_eq_true rfl, Nat.le_of_ble_eq_true rfl⟩) hK hP hD hS hA (c_X4_pair l dC dI kI kZ H.size p_me p_me_octets me_octets ((a1 + r_1) + 2) _ h) [0, 1] [2, 3] rfl rfl rfl rfl (by decide) 0 rfl rfl rfl rfl hl.1 (Nat.le_of_ble_eq_true rfl) dX1_open_50 (Nat.le_refl _) (Nat.le_refl _) (fun r_4 u_4 H locs h hP hD hS => ?_)
    have hP : va_P (dC, dI) vwCl [(p_me, .inr (4, [.ref p_me_octets])), (p_me_octets, .inl (kI, 4096, .inl me_octets)), (p_di, .inr (1, [.ref p_me, .int di_wordOctets, .ref p_di_separators, .int di_entriesAt, .int r_3, .int di_entries])), (p_di_separators, .inl (kZ, 256, .inl di_separators))] H := hP.sub [2, 3, 0, 1] rfl
    have hD : va_D A [(p_me, .inr (4, [.ref p_me_octets])), (p_me_octets, .inl (kI, 4096, .inl me_octets)), (p_di, .inr (1, [.ref p_me, .int di_wordOctets, .ref p_di_separators, .int di_entriesAt, .int r_3, .int di_entries])), (p_di_separators, .inl (kZ, 256, .inl di_separators))] := hD.sub [2, 3, 0, 1] rfl rfl
    refine lv_istore_n (lv' := [(3, .int r_4), (2, .int r_1), (0, .ref p_di), (1, .int a1)]) hx hb dX1_open_53 rfl hl (by decide) rfl (fun ls hl => ?_)
    refine lv_aload_n hx hb dX1_open_54 rfl (lv_at hl 2 rfl) ?_
    refine lv_iload_n hx hb dX1_open_55 rfl (lv_at hl 0 rfl) ?_
    refine lv_ldc (v := 32768) hx hb hown (hts (.constant RX1 39 (32768)) (List.mem_cons_of_mem _ (List.mem_append_left _ (List.mem_append_left _ (List.mem_append_left _ (List.mem_of_getElem? (i := 2) rfl)))))) dX1_open_56 ?_
    have h := h (fun (y_1 : Int32) => ∀ (H : Heap) (locs : List Loc), va_P (dC, dI) vwCl [(p_me, .inr (4, [.ref p_me_octets])), (p_me_octets, .inl (kI, 4096, .inl me_octets)), (p_di, .inr (1, [.ref p_me, .int di_wordOctets, .ref p_di_separators, .int di_entriesAt, .int r_3, .int di_entries])), (p_di_separators, .inl (kZ, 256, .inl di_separators))] H → va_D A [(p_me, .inr (4, [.ref p_me_octets])), (p_me_octets, .inl (kI, 4096, .inl me_octets)), (p_di, .inr (1, [.ref p_me, .int di_wordOctets, .ref p_di_separators, .int di_entriesAt, .int r_3, .int di_entries])), (p_di_separators, .inl (kZ, 256, .inl di_separators))] → va_S A s.heap H locs → ∀ ls : Array Slot, lv_has ls 4 [(0, .ref p_di), (1, .int a1), (2, .int r_1)] → W p l e rmX1_open s m args below meth c H locs 0 0 Q (F0 m 69 ls [.int y_1, .ref p_di])) (by
      clear h hP hD hS hl
      intro y_1 h H locs hP hD hS ls hl
      refine va_put (D := (dC, dI)) (ci := 1) (v := .int y_1) (ty := .int) (C := RX1) (T := TX1) (N := 6) hx hb hts hi_X1 tyX1 tyX1_ok nmX1 hown hK hP hD hS 2 rfl rfl 5 (by decide) (hts (.fieldLink RX1 41 "ZInput$Dictionary" "entries" "I") (List.mem_cons_of_mem _ (List.mem_append_left _ (List.mem_append_left _ (List.mem_append_left _ (List.mem_of_getElem? (i := 4) rfl)))))) (fun _ h9 => h9) rfl (by decide +kernel) rfl rfl (Nat.le_of_ble_eq_true rfl) dX1_open_69 (fun H locs hP hD hS => ?_)
      have hP : va_P (dC, dI) vwCl [(p_me, .inr (4, [.ref p_me_octets])), (p_me_octets, .inl (kI, 4096, .inl me_octets)), (p_di, .inr (1, [.ref p_me, .int di_wordOctets, .ref p_di_separators, .int di_entriesAt, .int r_3, .int y_1])), (p_di_separators, .inl (kZ, 256, .inl di_separators))] H := hP
      have hD : va_D A [(p_me, .inr (4, [.ref p_me_octets])), (p_me_octets, .inl (kI, 4096, .inl me_octets)), (p_di, .inr (1, [.ref p_me, .int di_wordOctets, .ref p_di_separators, .int di_entriesAt, .int r_3, .int y_1])), (p_di_separators, .inl (kZ, 256, .inl di_separators))] := hD
      refine lv_aload_n hx hb dX1_open_72 rfl (lv_at hl 0 rfl) ?_
      refine lv_iload_n hx hb dX1_open_73 rfl (lv_at hl 1 rfl) ?_
      refine lv_iload_n hx hb dX1_open_74 rfl (lv_at hl 2 rfl) ?_
      refine lv_iadd hx hb dX1_open_75 ?_
      refine lv_iconst (v := 4) hx hb dX1_open_76 (by decide) ?_
      refine lv_iadd hx hb dX1_open_77 ?_
      refine lv_topi (fun v_1 ev_1 => ?_)
      have h := h v_1 ev_1
      refine va_put (D := (dC, dI)) (ci := 1) (v := .int v_1) (ty := .int) (C := RX1) (T := TX1) (N := 6) hx hb hts hi_X1 tyX1 tyX1_ok nmX1 hown hK hP hD hS 2 rfl rfl 3 (by decide) (hts (.fieldLink RX1 44 "ZInput$Dictionary" "entriesAt" "I") (List.mem_cons_of_mem _ (List.mem_append_left _ (List.mem_append_left _ (List.mem_append_left _ (List.mem_of_getElem? (i := 5) rfl)))))) (fun _ h9 => h9) rfl (by decide +kernel) rfl rfl (Nat.le_of_ble_eq_true rfl) dX1_open_78 (fun H locs hP hD hS => ?_)
      have hP : va_P (dC, dI) vwCl [(p_me, .inr (4, [.ref p_me_octets])), (p_me_octets, .inl (kI, 4096, .inl me_octets)), (p_di, .inr (1, [.ref p_me, .int di_wordOctets, .ref p_di_separators, .int v_1, .int r_3, .int y_1])), (p_di_separators, .inl (kZ, 256, .inl di_separators))] H := hP
      have hD : va_D A [(p_me, .inr (4, [.ref p_me_octets])), (p_me_octets, .inl (kI, 4096, .inl me_octets)), (p_di, .inr (1, [.ref p_me, .int di_wordOctets, .ref p_di_separators, .int v_1, .int r_3, .int y_1])), (p_di_separators, .inl (kZ, 256, .inl di_separators))] := hD
      refine lv_aload_n hx hb dX1_open_81 rfl (lv_at hl 0 rfl) ?_
      refine lv_iload_n hx hb dX1_open_82 rfl (lv_at hl 1 rfl) ?_
      refine lv_iconst (v := 1) hx hb dX1_open_83 (by decide) ?_
      refine lv_iadd hx hb dX1_open_84 ?_
      refine lv_iload_n hx hb dX1_open_85 rfl (lv_at hl 2 rfl) ?_
      refine zz_Vv (As := [.int (a1 + 1), .int r_1]) (rest := []) (wr := []) ⟨hx, hb, hml, hown, hts⟩ (cwV 2 hts gX1_open_X1_markSeparators rfl rfl rfl (by decide +kernel) ⟨Nat.le_of_ble_eq_true rfl, Nat.le_of_ble_eq_true rfl⟩) hK hP hD hS hA (c_X1_markSeparators l dC dI kI kZ H.size p_me p_me_octets p_di p_di_separators di_wordOctets v_1 r_3 y_1 me_octets di_separators (a1 + 1) r_1 _ h) [0, 1, 2, 3] [] rfl rfl rfl rfl (by decide) 2 rfl rfl rfl rfl hl.1 (Nat.le_of_ble_eq_true rfl) dX1_open_86 (Nat.le_refl _) (Nat.le_refl _) (fun di_separators_1 H locs h hP hD hS => ?_)
      have hP : va_P (dC, dI) vwCl [(p_me, .inr (4, [.ref p_me_octets])), (p_me_octets, .inl (kI, 4096, .inl me_octets)), (p_di, .inr (1, [.ref p_me, .int di_wordOctets, .ref p_di_separators, .int v_1, .int r_3, .int y_1])), (p_di_separators, .inl (kZ, 256, .inl di_separators_1))] H := hP.sub [0, 1, 2, 3] rfl
      have hD : va_D A [(p_me, .inr (4, [.ref p_me_octets])), (p_me_octets, .inl (kI, 4096, .inl me_octets)), (p_di, .inr (1, [.ref p_me, .int di_wordOctets, .ref p_di_separators, .int v_1, .int r_3, .int y_1])), (p_di_separators, .inl (kZ, 256, .inl di_separators_1))] := hD.sub [0, 1, 2, 3] rfl rfl
      refine lv_aload_n hx hb dX1_open_89 rfl (lv_at hl 0 rfl) ?_
      refine va_get (D := (dC, dI)) (ci := 1) (v := .int y_1) (C := RX1) (T := TX1) (N := 6) hx hb hts hi_X1 hown hK hP 2 rfl rfl 5 (by decide) (hts (.fieldLink RX1 41 "ZInput$Dictionary" "entries" "I") (List.mem_cons_of_mem _ (List.mem_append_left _ (List.mem_append_left _ (List.mem_append_left _ (List.mem_of_getElem? (i := 4) rfl)))))) (fun _ h9 => h9) rfl dX1_open_90 ?_
      refine lv_if_eq (tgt := 133) hx hb dX1_open_93 (by decide) (fun c_ => ?_) (fun c_ => ?_)
      · have h := h.1 c_
        refine lv_iconst (v := 1) hx hb dX1_open_133 (by decide) ?_
        refine lv_goto (tgt := 138) hx hb dX1_open_134 (by decide) ?_
        exact hR 1 (di_separators_1, v_1, r_3, y_1) H locs (Or.inr rfl) h hP hD hS _ ls dX1_open_138
      · have h := h.2 c_
        refine lv_aload_n hx hb dX1_open_96 rfl (lv_at hl 0 rfl) ?_
        refine va_get (D := (dC, dI)) (ci := 1) (v := .ref p_me) (C := RX1) (T := TX1) (N := 6) hx hb hts hi_X1 hown hK hP 2 rfl rfl 0 (by decide) (hts (.fieldLink RX1 15 "ZInput$Dictionary" "memory" "LZInput$Memory;") (List.mem_cons_of_mem _ (List.mem_append_left _ (List.mem_append_left _ (List.mem_append_left _ (List.mem_of_getElem? (i := 0) rfl)))))) (fun _ h9 => h9) rfl dX1_open_97 ?_
        refine lv_aload_n hx hb dX1_open_100 rfl (lv_at hl 0 rfl) ?_
        refine va_get (D := (dC, dI)) (ci := 1) (v := .int v_1) (C := RX1) (T := TX1) (N := 6) hx hb hts hi_X1 hown hK hP 2 rfl rfl 3 (by decide) (hts (.fieldLink RX1 44 "ZInput$Dictionary" "entriesAt" "I") (List.mem_cons_of_mem _ (List.mem_append_left _ (List.mem_append_left _ (List.mem_append_left _ (List.mem_of_getElem? (i := 5) rfl)))))) (fun _ h9 => h9) rfl dX1_open_101 ?_
        refine lv_aload_n hx hb dX1_open_104 rfl (lv_at hl 0 rfl) ?_
        refine va_get (D := (dC, dI)) (ci := 1) (v := .int y_1) (C := RX1) (T := TX1) (N := 6) hx hb hts hi_X1 hown hK hP 2 rfl rfl 5 (by decide) (hts (.fieldLink RX1 41 "ZInput$Dictionary" "entries" "I") (List.mem_cons_of_mem _ (List.mem_append_left _ (List.mem_append_left _ (List.mem_append_left _ (List.mem_of_getElem? (i := 4) rfl)))))) (fun _ h9 => h9) rfl dX1_open_105 ?_
        refine lv_iconst (v := 1) hx hb dX1_open_108 (by decide) ?_
        refine lv_isub hx hb dX1_open_109 ?_
        refine lv_aload_n hx hb dX1_open_110 rfl (lv_at hl 0 rfl) ?_
        refine va_get (D := (dC, dI)) (ci := 1) (v := .int r_3) (C := RX1) (T := TX1) (N := 6) hx hb hts hi_X1 hown hK hP 2 rfl rfl 4 (by decide) (hts (.fieldLink RX1 33 "ZInput$Dictionary" "size" "I") (List.mem_cons_of_mem _ (List.mem_append_left _ (List.mem_append_left _ (List.mem_append_left _ (List.mem_of_getElem? (i := 1) rfl)))))) (fun _ h9 => h9) rfl dX1_open_111 ?_
        refine lv_imul hx hb dX1_open_114 ?_
        refine lv_aload_n hx hb dX1_open_115 rfl (lv_at hl 0 rfl) ?_
        refine va_get (D := (dC, dI)) (ci := 1) (v := .int r_3) (C := RX1) (T := TX1) (N := 6) hx hb hts hi_X1 hown hK hP 2 rfl rfl 4 (by decide) (hts (.fieldLink RX1 33 "ZInput$Dictionary" "size" "I") (List.mem_cons_of_mem _ (List.mem_append_left _ (List.mem_append_left _ (List.mem_append_left _ (List.mem_of_getElem? (i := 1) rfl)))))) (fun _ h9 => h9) rfl dX1_open_116 ?_
        refine lv_aload_n hx hb dX1_open_119 rfl (lv_at hl 0 rfl) ?_
        refine va_get (D := (dC, dI)) (ci := 1) (v := .int di_wordOctets) (C := RX1) (T := TX1) (N := 6) hx hb hts hi_X1 hown hK hP 2 rfl rfl 1 (by decide) (hts (.fieldLink RX1 19 "ZInput$Dictionary" "wordOctets" "I") (List.mem_cons_of_mem _ (List.mem_append_left _ (List.mem_append_left _ (List.mem_append_left _ (List.mem_of_getElem? (i := 6) rfl)))))) (fun _ h9 => h9) rfl dX1_open_120 ?_
        refine va_mmax hx hb (hml.trans hl.1.symm) hown (hts (.methodLink RX1 51 Lib.Math.max.name) (List.mem_cons_of_mem _ (List.mem_append_left _ (List.mem_append_left _ (List.mem_append_left _ (List.mem_of_getElem? (i := 7) rfl)))))) (hts (.static Lib.Math.max.name) (List.mem_cons_of_mem _ (List.mem_append_left _ (List.mem_append_left _ (List.mem_append_left _ (List.mem_of_getElem? (i := 8) rfl)))))) (hts (.initialized "java/lang/Math") (List.mem_cons_of_mem _ (List.mem_append_left _ (List.mem_append_left _ (List.mem_append_left _ (List.mem_of_getElem? (i := 9) rfl)))))) (hts (.code Lib.Math.max.name Lib.Math.max.code 2 (some .int)) (List.mem_cons_of_mem _ (List.mem_append_left _ (List.mem_append_left _ (List.mem_append_left _ (List.mem_of_getElem? (i := 10) rfl)))))) (Nat.le_of_ble_eq_true rfl) (Nat.le_of_ble_eq_true rfl) (Nat.le_refl _) (Nat.le_refl _) dX1_open_123 ?_
        refine lv_iadd hx hb dX1_open_126 ?_
        refine zz_Vi (As := [.int v_1, .int (((y_1 - 1) * r_3) + (if r_3 < di_wordOctets then di_wordOctets else r_3))]) (rest := []) (wr := [(p_me_octets, .inl (kI, 4096, .inl me_octets)), (p_di, .inr (1, [.ref p_me, .int di_wordOctets, .ref p_di_separators, .int v_1, .int r_3, .int y_1])), (p_di_separators, .inl (kZ, 256, .inl di_separators_1))]) ⟨hx, hb, hml, hown, hts⟩ (cwV 2 hts gX1_open_X4_holds rfl rfl rfl (by decide +kernel) ⟨Nat.le_of_ble_eq_true rfl, Nat.le_of_ble_eq_true rfl⟩) hK hP hD hS hA (c_X4_holds l dC dI kI kZ H.size p_me p_me_octets v_1 (((y_1 - 1) * r_3) + (if r_3 < di_wordOctets then di_wordOctets else r_3)) _ h) [0] [1, 2, 3] rfl rfl rfl rfl (by decide) 0 rfl rfl rfl rfl hl.1 (Nat.le_of_ble_eq_true rfl) dX1_open_127 (Nat.le_refl _) (Nat.le_refl _) (fun r_5 u_5 H locs h hP hD hS => ?_)
        have hP : va_P (dC, dI) vwCl [(p_me, .inr (4, [.ref p_me_octets])), (p_me_octets, .inl (kI, 4096, .inl me_octets)), (p_di, .inr (1, [.ref p_me, .int di_wordOctets, .ref p_di_separators, .int v_1, .int r_3, .int y_1])), (p_di_separators, .inl (kZ, 256, .inl di_separators_1))] H := hP.sub [3, 0, 1, 2] rfl
        have hD : va_D A [(p_me, .inr (4, [.ref p_me_octets])), (p_me_octets, .inl (kI, 4096, .inl me_octets)), (p_di, .inr (1, [.ref p_me, .int di_wordOctets, .ref p_di_separators, .int v_1, .int r_3, .int y_1])), (p_di_separators, .inl (kZ, 256, .inl di_separators_1))] := hD.sub [3, 0, 1, 2] rfl rfl
        refine lv_if_eq (tgt := 137) hx hb dX1_open_130 (by decide) (fun c_ => ?_) (fun c_ => ?_)
        · have h := h.1 c_
          refine lv_iconst (v := 0) hx hb dX1_open_137 (by decide) ?_
          exact hR 0 (di_separators_1, v_1, r_3, y_1) H locs (Or.inl rfl) h hP hD hS _ ls dX1_open_138
        · have h := h.2 c_
          refine lv_iconst (v := 1) hx hb dX1_open_133 (by decide) ?_
          refine lv_goto (tgt := 138) hx hb dX1_open_134 (by decide) ?_
          exact hR 1 (di_separators_1, v_1, r_3, y_1) H locs (Or.inr rfl) h hP hD hS _ ls dX1_open_138)
    refine lv_icmp_ge (tgt := 65) hx hb dX1_open_58 (by decide) (fun c_ => ?_) (fun c_ => ?_)
    · have h := h.1 c_
      refine lv_ldc (v := 65536) hx hb hown (hts (.constant RX1 40 (65536)) (List.mem_cons_of_mem _ (List.mem_append_left _ (List.mem_append_left _ (List.mem_append_left _ (List.mem_of_getElem? (i := 3) rfl)))))) dX1_open_65 ?_
      refine lv_iload_n hx hb dX1_open_67 rfl (lv_at hl 0 rfl) ?_
      refine lv_isub hx hb dX1_open_68 ?_
      exact h H locs hP hD hS ls (lv_sub hl [2, 3, 1] rfl)
    · have h := h.2 c_
      refine lv_iload_n hx hb dX1_open_61 rfl (lv_at hl 0 rfl) ?_
      refine lv_goto (tgt := 69) hx hb dX1_open_62 (by decide) ?_
      exact h H locs hP hD hS ls (lv_sub hl [2, 3, 1] rfl)
  · have h := h.2 c_
    refine lv_iconst (v := 0) hx hb dX1_open_23 (by decide) ?_
    exact hR 0 (di_separators, di_entriesAt, di_size, di_entries) H locs (Or.inl rfl) h hP hD hS _ ls dX1_open_24
def wp_X1_separates (di_separators : Nat → Int32) (a1 : Int32) (K : Int32 → Prop) : Prop :=
  ((a1 < 0) → (K 0)) ∧ ((¬ a1 < 0) → (((256 ≤ a1) → (K 0)) ∧ ((¬ 256 ≤ a1) → (vp_in a1 256 ∧ ((((di_separators (Int32.toNatClampNeg a1)) = 0) → (K 0)) ∧ ((¬ (di_separators (Int32.toNatClampNeg a1)) = 0) → (K 1)))))))
abbrev rmX1_separates : Room := { frames := 0, cells := 0, slots := 0, locals := 0 }
set_option maxHeartbeats 4000000 in
set_option maxRecDepth 100000 in
theorem c_X1_separates (l : Launch) (dC : Nat → ClassId) (dI : Nat → Nat → Nat) (kI kZ : ClassId) (sz : Nat) (p_di : Nat) (p_me : Nat) (p_di_separators : Nat) (di_wordOctets : Int32) (di_entriesAt : Int32) (di_size : Int32) (di_entries : Int32) (di_separators : Nat → Int32) (a1 : Int32) (K : Int32 → Prop) (h : wp_X1_separates di_separators a1 K) : Met l yX1_separates wsX1_separates rmX1_separates (va_Pc [.ref p_di, .int a1] (zP (dC, dI) (zT kI kZ) sz [(p_di, .inr (1, [.ref p_me, .int di_wordOctets, .ref p_di_separators, .int di_entriesAt, .int di_size, .int di_entries])), (p_di_separators, .inl (kZ, 256, .inl di_separators))])) (va_Qi (fun (r : Int32) (u : Unit) => K r) (fun (u : Unit) => zB (dC, dI) (zT kI kZ) (va_A [(p_di, .inr (1, [.ref p_me, .int di_wordOctets, .ref p_di_separators, .int di_entriesAt, .int di_size, .int di_entries])), (p_di_separators, .inl (kZ, 256, .inl di_separators))] sz) [(p_di, .inr (1, [.ref p_me, .int di_wordOctets, .ref p_di_separators, .int di_entriesAt, .int di_size, .int di_entries])), (p_di_separators, .inl (kZ, 256, .inl di_separators))]) (va_A [(p_di, .inr (1, [.ref p_me, .int di_wordOctets, .ref p_di_separators, .int di_entriesAt, .int di_size, .int di_entries])), (p_di_separators, .inl (kZ, 256, .inl di_separators))] sz)) 0 0 (va_A [(p_di, .inr (1, [.ref p_me, .int di_wordOctets, .ref p_di_separators, .int di_entriesAt, .int di_size, .int di_entries])), (p_di_separators, .inl (kZ, 256, .inl di_separators))] sz) := by
  refine zz_ofz (cc := cX1_separates) (maxL := 2) (by decide) rfl (Nat.le_of_ble_eq_true rfl) ?_
  intro p e s m args below meth c A Q ls hx hb hml hown hts hK hA hR hP hD hS hl
  have hown : s.vm.findClass RX1 = some m.cls := hown
  have hl : lv_has ls 2 [(0, .ref p_di), (1, .int a1)] := hl
  have hi_X1 : ∀ w ∈ wsX10, w ∈ wsX1_separates := fun _ h => (List.mem_cons_of_mem _ (List.mem_append_right _ h))
  unfold wp_X1_separates at h
  obtain ⟨H, eH⟩ : ∃ H, H = s.heap := ⟨_, rfl⟩
  obtain ⟨locs, eL⟩ : ∃ L : List Loc, L = [] := ⟨_, rfl⟩
  rw [← eL]
  have hS : va_S A s.heap s.heap locs := by rw [eL]; exact hS
  suffices hgo : ∀ H : Heap, va_P (dC, dI) vwCl [(p_di, .inr (1, [.ref p_me, .int di_wordOctets, .ref p_di_separators, .int di_entriesAt, .int di_size, .int di_entries])), (p_di_separators, .inl (kZ, 256, .inl di_separators))] H → va_S A s.heap H locs → W p l e rmX1_separates s m args below meth c H locs 0 0 Q (F0 m 0 ls []) from hgo _ hP hS
  clear hP hS eH H eL
  intro H hP hS
  refine lv_iload_n hx hb dX1_separates_0 rfl (lv_at hl 1 rfl) ?_
  refine lv_if_lt (tgt := 26) hx hb dX1_separates_1 (by decide) (fun c_ => ?_) (fun c_ => ?_)
  · have h := h.1 c_
    refine lv_iconst (v := 0) hx hb dX1_separates_26 (by decide) ?_
    exact hR 0 () H locs (Or.inl rfl) h hP hD hS _ ls dX1_separates_27
  · have h := h.2 c_
    refine lv_iload_n hx hb dX1_separates_4 rfl (lv_at hl 1 rfl) ?_
    refine lv_aload_n hx hb dX1_separates_5 rfl (lv_at hl 0 rfl) ?_
    refine va_get (D := (dC, dI)) (ci := 1) (v := .ref p_di_separators) (C := RX1) (T := TX1) (N := 6) hx hb hts hi_X1 hown hK hP 0 rfl rfl 2 (by decide) (hts (.fieldLink RX1 9 "ZInput$Dictionary" "separators" "[Z") (List.mem_cons_of_mem _ (List.mem_append_left _ (List.mem_of_getElem? (i := 0) rfl)))) (fun _ h9 => h9) rfl dX1_separates_6 ?_
    refine va_alen (v := 256) hx hb hK hP 1 1 rfl rfl rfl dX1_separates_9 ?_
    refine lv_icmp_ge (tgt := 26) hx hb dX1_separates_10 (by decide) (fun c_ => ?_) (fun c_ => ?_)
    · have h := h.1 c_
      refine lv_iconst (v := 0) hx hb dX1_separates_26 (by decide) ?_
      exact hR 0 () H locs (Or.inl rfl) h hP hD hS _ ls dX1_separates_27
    · have h := h.2 c_
      refine lv_aload_n hx hb dX1_separates_13 rfl (lv_at hl 0 rfl) ?_
      refine va_get (D := (dC, dI)) (ci := 1) (v := .ref p_di_separators) (C := RX1) (T := TX1) (N := 6) hx hb hts hi_X1 hown hK hP 0 rfl rfl 2 (by decide) (hts (.fieldLink RX1 9 "ZInput$Dictionary" "separators" "[Z") (List.mem_cons_of_mem _ (List.mem_append_left _ (List.mem_of_getElem? (i := 0) rfl)))) (fun _ h9 => h9) rfl dX1_separates_14 ?_
      refine lv_iload_n hx hb dX1_separates_17 rfl (lv_at hl 1 rfl) ?_
      have hi := h.1
      have h := h.2
      refine va_zald hx hb hK hP 1 1 rfl rfl hi dX1_separates_18 ?_
      refine lv_if_eq (tgt := 26) hx hb dX1_separates_19 (by decide) (fun c_ => ?_) (fun c_ => ?_)
      · have h := h.1 c_
        refine lv_iconst (v := 0) hx hb dX1_separates_26 (by decide) ?_
        exact hR 0 () H locs (Or.inl rfl) h hP hD hS _ ls dX1_separates_27
      · have h := h.2 c_
        refine lv_iconst (v := 1) hx hb dX1_separates_22 (by decide) ?_
        refine lv_goto (tgt := 27) hx hb dX1_separates_23 (by decide) ?_
        exact hR 1 () H locs (Or.inr rfl) h hP hD hS _ ls dX1_separates_27
def wp_X2_add (ec_total : Int32) (ec_codes : Nat → Int32) (a1 : Int32) (K : Int32 → (Nat → Int32) → Prop) : Prop :=
  ∀ v_1 : Int32, v_1 = (ec_total - ec_total / 2000 * 2000) → (((v_1 < 0) → (K ec_total ec_codes)) ∧ ((¬ v_1 < 0) → (((2000 ≤ v_1) → (K ec_total ec_codes)) ∧ ((¬ 2000 ≤ v_1) → (vp_in v_1 2000 ∧ (∀ v_2 : Int32, v_2 = (ec_total + 1) → (K v_2 (upd ec_codes (Int32.toNatClampNeg v_1) a1))))))))
abbrev rmX2_add : Room := { frames := 0, cells := 0, slots := 0, locals := 0 }
set_option maxHeartbeats 4000000 in
set_option maxRecDepth 100000 in
theorem c_X2_add (l : Launch) (dC : Nat → ClassId) (dI : Nat → Nat → Nat) (kI kZ : ClassId) (sz : Nat) (p_ec : Nat) (p_ec_codes : Nat) (ec_total : Int32) (ec_codes : Nat → Int32) (a1 : Int32) (K : Int32 → (Nat → Int32) → Prop) (h : wp_X2_add ec_total ec_codes a1 K) : Met l yX2_add wsX2_add rmX2_add (va_Pc [.ref p_ec, .int a1] (zP (dC, dI) (zT kI kZ) sz [(p_ec, .inr (2, [.int ec_total, .ref p_ec_codes])), (p_ec_codes, .inl (kI, 2000, .inl ec_codes))])) (va_Qv (fun (u : Int32 × (Nat → Int32)) => K u.1 u.2) (fun (u : Int32 × (Nat → Int32)) => zB (dC, dI) (zT kI kZ) (va_A [(p_ec, .inr (2, [.int ec_total, .ref p_ec_codes])), (p_ec_codes, .inl (kI, 2000, .inl ec_codes))] sz) [(p_ec, .inr (2, [.int u.1, .ref p_ec_codes])), (p_ec_codes, .inl (kI, 2000, .inl u.2))]) (va_A [(p_ec, .inr (2, [.int ec_total, .ref p_ec_codes])), (p_ec_codes, .inl (kI, 2000, .inl ec_codes))] sz)) 0 0 (va_A [(p_ec, .inr (2, [.int ec_total, .ref p_ec_codes])), (p_ec_codes, .inl (kI, 2000, .inl ec_codes))] sz) := by
  refine zz_ofv (cc := cX2_add) (maxL := 3) (by decide) rfl (Nat.le_of_ble_eq_true rfl) ?_
  intro p e s m args below meth c A Q ls hx hb hml hown hts hK hA hR hP hD hS hl
  have hown : s.vm.findClass RX2 = some m.cls := hown
  have hl : lv_has ls 3 [(0, .ref p_ec), (1, .int a1)] := hl
  have hi_X2 : ∀ w ∈ wsX20, w ∈ wsX2_add := fun _ h => (List.mem_cons_of_mem _ (List.mem_append_right _ h))
  unfold wp_X2_add at h
  obtain ⟨H, eH⟩ : ∃ H, H = s.heap := ⟨_, rfl⟩
  obtain ⟨locs, eL⟩ : ∃ L : List Loc, L = [] := ⟨_, rfl⟩
  rw [← eL]
  have hS : va_S A s.heap s.heap locs := by rw [eL]; exact hS
  suffices hgo : ∀ H : Heap, va_P (dC, dI) vwCl [(p_ec, .inr (2, [.int ec_total, .ref p_ec_codes])), (p_ec_codes, .inl (kI, 2000, .inl ec_codes))] H → va_S A s.heap H locs → W p l e rmX2_add s m args below meth c H locs 0 0 Q (F0 m 0 ls []) from hgo _ hP hS
  clear hP hS eH H eL
  intro H hP hS
  refine lv_aload_n hx hb dX2_add_0 rfl (lv_at hl 0 rfl) ?_
  refine va_get (D := (dC, dI)) (ci := 2) (v := .int ec_total) (C := RX2) (T := TX2) (N := 2) hx hb hts hi_X2 hown hK hP 0 rfl rfl 0 (by decide) (hts (.fieldLink RX2 13 "ZInput$Echo" "total" "I") (List.mem_cons_of_mem _ (List.mem_append_left _ (List.mem_of_getElem? (i := 0) rfl)))) (fun _ h9 => h9) rfl dX2_add_1 ?_
  refine lv_sipush (v := 2000) hx hb dX2_add_4 (by decide) ?_
  refine lv_irem hx hb dX2_add_7 (by decide) ?_
  refine lv_topi (fun v_1 ev_1 => ?_)
  have h := h v_1 ev_1
  refine lv_istore_n (lv' := [(2, .int v_1), (0, .ref p_ec), (1, .int a1)]) hx hb dX2_add_8 rfl hl (by decide) rfl (fun ls hl => ?_)
  refine lv_iload_n hx hb dX2_add_9 rfl (lv_at hl 0 rfl) ?_
  refine lv_if_lt (tgt := 39) hx hb dX2_add_10 (by decide) (fun c_ => ?_) (fun c_ => ?_)
  · have h := h.1 c_
    exact hR (ec_total, ec_codes) H locs h hP hD hS _ ls dX2_add_39
  · have h := h.2 c_
    refine lv_iload_n hx hb dX2_add_13 rfl (lv_at hl 0 rfl) ?_
    refine lv_aload_n hx hb dX2_add_14 rfl (lv_at hl 1 rfl) ?_
    refine va_get (D := (dC, dI)) (ci := 2) (v := .ref p_ec_codes) (C := RX2) (T := TX2) (N := 2) hx hb hts hi_X2 hown hK hP 0 rfl rfl 1 (by decide) (hts (.fieldLink RX2 9 "ZInput$Echo" "codes" "[I") (List.mem_cons_of_mem _ (List.mem_append_left _ (List.mem_of_getElem? (i := 1) rfl)))) (fun _ h9 => h9) rfl dX2_add_15 ?_
    refine va_alen (v := 2000) hx hb hK hP 1 0 rfl rfl rfl dX2_add_18 ?_
    refine lv_icmp_ge (tgt := 39) hx hb dX2_add_19 (by decide) (fun c_ => ?_) (fun c_ => ?_)
    · have h := h.1 c_
      exact hR (ec_total, ec_codes) H locs h hP hD hS _ ls dX2_add_39
    · have h := h.2 c_
      refine lv_aload_n hx hb dX2_add_22 rfl (lv_at hl 1 rfl) ?_
      refine va_get (D := (dC, dI)) (ci := 2) (v := .ref p_ec_codes) (C := RX2) (T := TX2) (N := 2) hx hb hts hi_X2 hown hK hP 0 rfl rfl 1 (by decide) (hts (.fieldLink RX2 9 "ZInput$Echo" "codes" "[I") (List.mem_cons_of_mem _ (List.mem_append_left _ (List.mem_of_getElem? (i := 1) rfl)))) (fun _ h9 => h9) rfl dX2_add_23 ?_
      refine lv_iload_n hx hb dX2_add_26 rfl (lv_at hl 0 rfl) ?_
      refine lv_iload_n hx hb dX2_add_27 rfl (lv_at hl 2 rfl) ?_
      have hi := h.1
      have h := h.2
      refine va_iast hx hb hK hP hD hS 1 0 rfl rfl hi dX2_add_28 (fun H locs hP hD hS => ?_)
      have hP : va_P (dC, dI) vwCl [(p_ec, .inr (2, [.int ec_total, .ref p_ec_codes])), (p_ec_codes, .inl (kI, 2000, .inl (upd ec_codes (Int32.toNatClampNeg v_1) a1)))] H := hP
      have hD : va_D A [(p_ec, .inr (2, [.int ec_total, .ref p_ec_codes])), (p_ec_codes, .inl (kI, 2000, .inl (upd ec_codes (Int32.toNatClampNeg v_1) a1)))] := hD
      refine lv_aload_n hx hb dX2_add_29 rfl (lv_at hl 1 rfl) ?_
      refine lv_dup hx hb dX2_add_30 rfl ?_
      refine va_get (D := (dC, dI)) (ci := 2) (v := .int ec_total) (C := RX2) (T := TX2) (N := 2) hx hb hts hi_X2 hown hK hP 0 rfl rfl 0 (by decide) (hts (.fieldLink RX2 13 "ZInput$Echo" "total" "I") (List.mem_cons_of_mem _ (List.mem_append_left _ (List.mem_of_getElem? (i := 0) rfl)))) (fun _ h9 => h9) rfl dX2_add_31 ?_
      refine lv_iconst (v := 1) hx hb dX2_add_34 (by decide) ?_
      refine lv_iadd hx hb dX2_add_35 ?_
      refine lv_topi (fun v_2 ev_2 => ?_)
      have h := h v_2 ev_2
      refine va_put (D := (dC, dI)) (ci := 2) (v := .int v_2) (ty := .int) (C := RX2) (T := TX2) (N := 2) hx hb hts hi_X2 tyX2 tyX2_ok nmX2 hown hK hP hD hS 0 rfl rfl 0 (by decide) (hts (.fieldLink RX2 13 "ZInput$Echo" "total" "I") (List.mem_cons_of_mem _ (List.mem_append_left _ (List.mem_of_getElem? (i := 0) rfl)))) (fun _ h9 => h9) rfl (by decide +kernel) rfl rfl (Nat.le_of_ble_eq_true rfl) dX2_add_36 (fun H locs hP hD hS => ?_)
      have hP : va_P (dC, dI) vwCl [(p_ec, .inr (2, [.int v_2, .ref p_ec_codes])), (p_ec_codes, .inl (kI, 2000, .inl (upd ec_codes (Int32.toNatClampNeg v_1) a1)))] H := hP
      have hD : va_D A [(p_ec, .inr (2, [.int v_2, .ref p_ec_codes])), (p_ec_codes, .inl (kI, 2000, .inl (upd ec_codes (Int32.toNatClampNeg v_1) a1)))] := hD
      exact hR (v_2, (upd ec_codes (Int32.toNatClampNeg v_1) a1)) H locs h hP hD hS _ ls dX2_add_39
def wp_X2_code (ec_codes : Nat → Int32) (a1 : Int32) (K : Int32 → Prop) : Prop :=
  ∀ v_1 : Int32, v_1 = (a1 - a1 / 2000 * 2000) → (((v_1 < 0) → (K 0)) ∧ ((¬ v_1 < 0) → (((2000 ≤ v_1) → (K 0)) ∧ ((¬ 2000 ≤ v_1) → (vp_in v_1 2000 ∧ (K (ec_codes (Int32.toNatClampNeg v_1))))))))
abbrev rmX2_code : Room := { frames := 0, cells := 0, slots := 0, locals := 0 }
set_option maxHeartbeats 4000000 in
set_option maxRecDepth 100000 in
theorem c_X2_code (l : Launch) (dC : Nat → ClassId) (dI : Nat → Nat → Nat) (kI kZ : ClassId) (sz : Nat) (p_ec : Nat) (p_ec_codes : Nat) (ec_total : Int32) (ec_codes : Nat → Int32) (a1 : Int32) (K : Int32 → Prop) (h : wp_X2_code ec_codes a1 K) : Met l yX2_code wsX2_code rmX2_code (va_Pc [.ref p_ec, .int a1] (zP (dC, dI) (zT kI kZ) sz [(p_ec, .inr (2, [.int ec_total, .ref p_ec_codes])), (p_ec_codes, .inl (kI, 2000, .inl ec_codes))])) (va_Qi (fun (r : Int32) (u : Unit) => K r) (fun (u : Unit) => zB (dC, dI) (zT kI kZ) (va_A [(p_ec, .inr (2, [.int ec_total, .ref p_ec_codes])), (p_ec_codes, .inl (kI, 2000, .inl ec_codes))] sz) [(p_ec, .inr (2, [.int ec_total, .ref p_ec_codes])), (p_ec_codes, .inl (kI, 2000, .inl ec_codes))]) (va_A [(p_ec, .inr (2, [.int ec_total, .ref p_ec_codes])), (p_ec_codes, .inl (kI, 2000, .inl ec_codes))] sz)) 0 0 (va_A [(p_ec, .inr (2, [.int ec_total, .ref p_ec_codes])), (p_ec_codes, .inl (kI, 2000, .inl ec_codes))] sz) := by
  refine zz_ofi (cc := cX2_code) (maxL := 3) (by decide) rfl (Nat.le_of_ble_eq_true rfl) ?_
  intro p e s m args below meth c A Q ls hx hb hml hown hts hK hA hR hP hD hS hl
  have hown : s.vm.findClass RX2 = some m.cls := hown
  have hl : lv_has ls 3 [(0, .ref p_ec), (1, .int a1)] := hl
  have hi_X2 : ∀ w ∈ wsX20, w ∈ wsX2_code := fun _ h => (List.mem_cons_of_mem _ (List.mem_append_right _ h))
  unfold wp_X2_code at h
  obtain ⟨H, eH⟩ : ∃ H, H = s.heap := ⟨_, rfl⟩
  obtain ⟨locs, eL⟩ : ∃ L : List Loc, L = [] := ⟨_, rfl⟩
  rw [← eL]
  have hS : va_S A s.heap s.heap locs := by rw [eL]; exact hS
  suffices hgo : ∀ H : Heap, va_P (dC, dI) vwCl [(p_ec, .inr (2, [.int ec_total, .ref p_ec_codes])), (p_ec_codes, .inl (kI, 2000, .inl ec_codes))] H → va_S A s.heap H locs → W p l e rmX2_code s m args below meth c H locs 0 0 Q (F0 m 0 ls []) from hgo _ hP hS
  clear hP hS eH H eL
  intro H hP hS
  refine lv_iload_n hx hb dX2_code_0 rfl (lv_at hl 1 rfl) ?_
  refine lv_sipush (v := 2000) hx hb dX2_code_1 (by decide) ?_
  refine lv_irem hx hb dX2_code_4 (by decide) ?_
  refine lv_topi (fun v_1 ev_1 => ?_)
  have h := h v_1 ev_1
  refine lv_istore_n (lv' := [(2, .int v_1), (0, .ref p_ec), (1, .int a1)]) hx hb dX2_code_5 rfl hl (by decide) rfl (fun ls hl => ?_)
  refine lv_iload_n hx hb dX2_code_6 rfl (lv_at hl 0 rfl) ?_
  refine lv_if_lt (tgt := 28) hx hb dX2_code_7 (by decide) (fun c_ => ?_) (fun c_ => ?_)
  · have h := h.1 c_
    refine lv_iconst (v := 0) hx hb dX2_code_28 (by decide) ?_
    exact hR 0 () H locs h hP hD hS _ ls dX2_code_29
  · have h := h.2 c_
    refine lv_iload_n hx hb dX2_code_10 rfl (lv_at hl 0 rfl) ?_
    refine lv_aload_n hx hb dX2_code_11 rfl (lv_at hl 1 rfl) ?_
    refine va_get (D := (dC, dI)) (ci := 2) (v := .ref p_ec_codes) (C := RX2) (T := TX2) (N := 2) hx hb hts hi_X2 hown hK hP 0 rfl rfl 1 (by decide) (hts (.fieldLink RX2 9 "ZInput$Echo" "codes" "[I") (List.mem_cons_of_mem _ (List.mem_append_left _ (List.mem_of_getElem? (i := 0) rfl)))) (fun _ h9 => h9) rfl dX2_code_12 ?_
    refine va_alen (v := 2000) hx hb hK hP 1 0 rfl rfl rfl dX2_code_15 ?_
    refine lv_icmp_ge (tgt := 28) hx hb dX2_code_16 (by decide) (fun c_ => ?_) (fun c_ => ?_)
    · have h := h.1 c_
      refine lv_iconst (v := 0) hx hb dX2_code_28 (by decide) ?_
      exact hR 0 () H locs h hP hD hS _ ls dX2_code_29
    · have h := h.2 c_
      refine lv_aload_n hx hb dX2_code_19 rfl (lv_at hl 1 rfl) ?_
      refine va_get (D := (dC, dI)) (ci := 2) (v := .ref p_ec_codes) (C := RX2) (T := TX2) (N := 2) hx hb hts hi_X2 hown hK hP 0 rfl rfl 1 (by decide) (hts (.fieldLink RX2 9 "ZInput$Echo" "codes" "[I") (List.mem_cons_of_mem _ (List.mem_append_left _ (List.mem_of_getElem? (i := 0) rfl)))) (fun _ h9 => h9) rfl dX2_code_20 ?_
      refine lv_iload_n hx hb dX2_code_23 rfl (lv_at hl 0 rfl) ?_
      have hi := h.1
      have h := h.2
      refine va_iald hx hb hK hP 1 0 rfl rfl hi dX2_code_24 ?_
      refine lv_goto (tgt := 29) hx hb dX2_code_25 (by decide) ?_
      exact hR (ec_codes (Int32.toNatClampNeg v_1)) () H locs h hP hD hS _ ls dX2_code_29
