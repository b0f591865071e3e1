def wp_X2_has (ec_total : Int32) (a1 : Int32) (K : Int32 → Prop) : Prop :=
  ((a1 < 0) → (K 0)) ∧ ((¬ a1 < 0) → (((ec_total ≤ a1) → (K 0)) ∧ ((¬ ec_total ≤ a1) → (((a1 < (ec_total - 2000)) → (K 0)) ∧ ((¬ a1 < (ec_total - 2000)) → (K 1))))))
abbrev rmX2_has : Room := { frames := 0, cells := 0, slots := 0, locals := 0 }
set_option maxHeartbeats 4000000 in
set_option maxRecDepth 100000 in
theorem c_X2_has (l : Launch) (dC : Nat → ClassId) (dI : Nat → Nat → Nat) (kI kZ : ClassId) (sz : Nat) (p_ec : Nat) (p_ec_codes : Nat) (ec_total : Int32) (a1 : Int32) (K : Int32 → Prop) (h : wp_X2_has ec_total a1 K) : Met l yX2_has wsX2_has rmX2_has (va_Pc [.ref p_ec, .int a1] (zP (dC, dI) (zT kI kZ) sz [(p_ec, .inr (2, [.int ec_total, .ref p_ec_codes]))])) (va_Qi (fun (r : Int32) (u : Unit) => K r) (fun (u : Unit) => zB (dC, dI) (zT kI kZ) (va_A [(p_ec, .inr (2, [.int ec_total, .ref p_ec_codes]))] sz) [(p_ec, .inr (2, [.int ec_total, .ref p_ec_codes]))]) (va_A [(p_ec, .inr (2, [.int ec_total, .ref p_ec_codes]))] sz)) 0 0 (va_A [(p_ec, .inr (2, [.int ec_total, .ref p_ec_codes]))] sz) := by
  refine zz_ofz (cc := cX2_has) (maxL := 2) (by decide) rfl (Nat.le_of_ble_eq_true rfl) ?_
  intro p e s m args below meth c A Q ls hx hb hml hown hts hK hA hR hP hD hS hl
  have hown : s.vm.findClass RX2 = some m.cls := hown
  have hl : lv_has ls 2 [(0, .ref p_ec), (1, .int a1)] := hl
  have hi_X2 : ∀ w ∈ wsX20, w ∈ wsX2_has := fun _ h => (List.mem_cons_of_mem _ (List.mem_append_right _ h))
  unfold wp_X2_has at h
  obtain ⟨H, eH⟩ : ∃ H, H = s.heap := ⟨_, rfl⟩
  obtain ⟨locs, eL⟩ : ∃ L : List Loc, L = [] := ⟨_, rfl⟩
  rw [← eL]
  have hS : va_S A s.heap s.heap locs := by rw [eL]; exact hS
  suffices hgo : ∀ H : Heap, va_P (dC, dI) vwCl [(p_ec, .inr (2, [.int ec_total, .ref p_ec_codes]))] H → va_S A s.heap H locs → W p l e rmX2_has s m args below meth c H locs 0 0 Q (F0 m 0 ls []) from hgo _ hP hS
  clear hP hS eH H eL
  intro H hP hS
  refine lv_iload_n hx hb dX2_has_0 rfl (lv_at hl 1 rfl) ?_
  refine lv_if_lt (tgt := 28) hx hb dX2_has_1 (by decide) (fun c_ => ?_) (fun c_ => ?_)
  · have h := h.1 c_
    refine lv_iconst (v := 0) hx hb dX2_has_28 (by decide) ?_
    exact hR 0 () H locs (Or.inl rfl) h hP hD hS _ ls dX2_has_29
  · have h := h.2 c_
    refine lv_iload_n hx hb dX2_has_4 rfl (lv_at hl 1 rfl) ?_
    refine lv_aload_n hx hb dX2_has_5 rfl (lv_at hl 0 rfl) ?_
    refine va_get (D := (dC, dI)) (ci := 2) (v := .int ec_total) (C := RX2) (T := TX2) (N := 2) hx hb hts hi_X2 hown hK hP 0 rfl rfl 0 (by decide) (hts (.fieldLink RX2 13 "ZInput$Echo" "total" "I") (List.mem_cons_of_mem _ (List.mem_append_left _ (List.mem_of_getElem? (i := 0) rfl)))) (fun _ h9 => h9) rfl dX2_has_6 ?_
    refine lv_icmp_ge (tgt := 28) hx hb dX2_has_9 (by decide) (fun c_ => ?_) (fun c_ => ?_)
    · have h := h.1 c_
      refine lv_iconst (v := 0) hx hb dX2_has_28 (by decide) ?_
      exact hR 0 () H locs (Or.inl rfl) h hP hD hS _ ls dX2_has_29
    · have h := h.2 c_
      refine lv_iload_n hx hb dX2_has_12 rfl (lv_at hl 1 rfl) ?_
      refine lv_aload_n hx hb dX2_has_13 rfl (lv_at hl 0 rfl) ?_
      refine va_get (D := (dC, dI)) (ci := 2) (v := .int ec_total) (C := RX2) (T := TX2) (N := 2) hx hb hts hi_X2 hown hK hP 0 rfl rfl 0 (by decide) (hts (.fieldLink RX2 13 "ZInput$Echo" "total" "I") (List.mem_cons_of_mem _ (List.mem_append_left _ (List.mem_of_getElem? (i := 0) rfl)))) (fun _ h9 => h9) rfl dX2_has_14 ?_
      refine lv_sipush (v := 2000) hx hb dX2_has_17 (by decide) ?_
      refine lv_isub hx hb dX2_has_20 ?_
      refine lv_icmp_lt (tgt := 28) hx hb dX2_has_21 (by decide) (fun c_ => ?_) (fun c_ => ?_)
      · have h := h.1 c_
        refine lv_iconst (v := 0) hx hb dX2_has_28 (by decide) ?_
        exact hR 0 () H locs (Or.inl rfl) h hP hD hS _ ls dX2_has_29
      · have h := h.2 c_
        refine lv_iconst (v := 1) hx hb dX2_has_24 (by decide) ?_
        refine lv_goto (tgt := 29) hx hb dX2_has_25 (by decide) ?_
        exact hR 1 () H locs (Or.inr rfl) h hP hD hS _ ls dX2_has_29
def wp_X3_slotOf (li_count : Int32) (li_latest : Int32) (a1 : Int32) (K : Int32 → Prop) : Prop :=
  ((a1 < 0) → (K (-1))) ∧ ((¬ a1 < 0) → (((li_count ≤ a1) → (K (-1))) ∧ ((¬ li_count ≤ a1) → (K (((li_latest + 8) - a1) - ((li_latest + 8) - a1) / 8 * 8)))))
abbrev rmX3_slotOf : Room := { frames := 0, cells := 0, slots := 0, locals := 0 }
set_option maxHeartbeats 4000000 in
set_option maxRecDepth 100000 in
theorem c_X3_slotOf (l : Launch) (dC : Nat → ClassId) (dI : Nat → Nat → Nat) (kI kZ : ClassId) (sz : Nat) (p_li : Nat) (p_li_lengths : Nat) (p_li_codes : Nat) (li_count : Int32) (li_latest : Int32) (a1 : Int32) (K : Int32 → Prop) (h : wp_X3_slotOf li_count li_latest a1 K) : Met l yX3_slotOf wsX3_slotOf rmX3_slotOf (va_Pc [.ref p_li, .int a1] (zP (dC, dI) (zT kI kZ) sz [(p_li, .inr (3, [.int li_count, .int li_latest, .ref p_li_lengths, .ref p_li_codes]))])) (va_Qi (fun (r : Int32) (u : Unit) => K r) (fun (u : Unit) => zB (dC, dI) (zT kI kZ) (va_A [(p_li, .inr (3, [.int li_count, .int li_latest, .ref p_li_lengths, .ref p_li_codes]))] sz) [(p_li, .inr (3, [.int li_count, .int li_latest, .ref p_li_lengths, .ref p_li_codes]))]) (va_A [(p_li, .inr (3, [.int li_count, .int li_latest, .ref p_li_lengths, .ref p_li_codes]))] sz)) 0 0 (va_A [(p_li, .inr (3, [.int li_count, .int li_latest, .ref p_li_lengths, .ref p_li_codes]))] sz) := by
  refine zz_ofi (cc := cX3_slotOf) (maxL := 2) (by decide) rfl (Nat.le_of_ble_eq_true rfl) ?_
  intro p e s m args below meth c A Q ls hx hb hml hown hts hK hA hR hP hD hS hl
  have hown : s.vm.findClass RX3 = some m.cls := hown
  have hl : lv_has ls 2 [(0, .ref p_li), (1, .int a1)] := hl
  have hi_X3 : ∀ w ∈ wsX30, w ∈ wsX3_slotOf := fun _ h => (List.mem_cons_of_mem _ (List.mem_append_right _ h))
  unfold wp_X3_slotOf at h
  obtain ⟨H, eH⟩ : ∃ H, H = s.heap := ⟨_, rfl⟩
  obtain ⟨locs, eL⟩ : ∃ L : List Loc, L = [] := ⟨_, rfl⟩
  rw [← eL]
  have hS : va_S A s.heap s.heap locs := by rw [eL]; exact hS
  suffices hgo : ∀ H : Heap, va_P (dC, dI) vwCl [(p_li, .inr (3, [.int li_count, .int li_latest, .ref p_li_lengths, .ref p_li_codes]))] H → va_S A s.heap H locs → W p l e rmX3_slotOf s m args below meth c H locs 0 0 Q (F0 m 0 ls []) from hgo _ hP hS
  clear hP hS eH H eL
  intro H hP hS
  refine lv_iload_n hx hb dX3_slotOf_0 rfl (lv_at hl 1 rfl) ?_
  refine lv_if_lt (tgt := 27) hx hb dX3_slotOf_1 (by decide) (fun c_ => ?_) (fun c_ => ?_)
  · have h := h.1 c_
    refine lv_iconst (v := (-1)) hx hb dX3_slotOf_27 (by decide) ?_
    exact hR (-1) () H locs h hP hD hS _ ls dX3_slotOf_28
  · have h := h.2 c_
    refine lv_iload_n hx hb dX3_slotOf_4 rfl (lv_at hl 1 rfl) ?_
    refine lv_aload_n hx hb dX3_slotOf_5 rfl (lv_at hl 0 rfl) ?_
    refine va_get (D := (dC, dI)) (ci := 3) (v := .int li_count) (C := RX3) (T := TX3) (N := 4) hx hb hts hi_X3 hown hK hP 0 rfl rfl 0 (by decide) (hts (.fieldLink RX3 27 "ZInput$Lines" "count" "I") (List.mem_cons_of_mem _ (List.mem_append_left _ (List.mem_of_getElem? (i := 0) rfl)))) (fun _ h9 => h9) rfl dX3_slotOf_6 ?_
    refine lv_icmp_ge (tgt := 27) hx hb dX3_slotOf_9 (by decide) (fun c_ => ?_) (fun c_ => ?_)
    · have h := h.1 c_
      refine lv_iconst (v := (-1)) hx hb dX3_slotOf_27 (by decide) ?_
      exact hR (-1) () H locs h hP hD hS _ ls dX3_slotOf_28
    · have h := h.2 c_
      refine lv_aload_n hx hb dX3_slotOf_12 rfl (lv_at hl 0 rfl) ?_
      refine va_get (D := (dC, dI)) (ci := 3) (v := .int li_latest) (C := RX3) (T := TX3) (N := 4) hx hb hts hi_X3 hown hK hP 0 rfl rfl 1 (by decide) (hts (.fieldLink RX3 24 "ZInput$Lines" "latest" "I") (List.mem_cons_of_mem _ (List.mem_append_left _ (List.mem_of_getElem? (i := 1) rfl)))) (fun _ h9 => h9) rfl dX3_slotOf_13 ?_
      refine lv_bipush (v := 8) hx hb dX3_slotOf_16 (by decide) ?_
      refine lv_iadd hx hb dX3_slotOf_18 ?_
      refine lv_iload_n hx hb dX3_slotOf_19 rfl (lv_at hl 1 rfl) ?_
      refine lv_isub hx hb dX3_slotOf_20 ?_
      refine lv_bipush (v := 8) hx hb dX3_slotOf_21 (by decide) ?_
      refine lv_irem hx hb dX3_slotOf_23 (by decide) ?_
      refine lv_goto (tgt := 28) hx hb dX3_slotOf_24 (by decide) ?_
      exact hR (((li_latest + 8) - a1) - ((li_latest + 8) - a1) / 8 * 8) () H locs h hP hD hS _ ls dX3_slotOf_28
def wp_X3_length (li_count : Int32) (li_latest : Int32) (li_lengths : Nat → Int32) (a1 : Int32) (K : Int32 → Prop) : Prop :=
  wp_X3_slotOf li_count li_latest a1 (fun (r_1 : Int32) => ((r_1 < 0) → (K 0)) ∧ ((¬ r_1 < 0) → (((8 ≤ r_1) → (K 0)) ∧ ((¬ 8 ≤ r_1) → (vp_in r_1 8 ∧ (K (li_lengths (Int32.toNatClampNeg r_1))))))))
abbrev rmX3_length : Room := { frames := 1, cells := 0, slots := 0, locals := 21 }
set_option maxHeartbeats 4000000 in
set_option maxRecDepth 100000 in
theorem c_X3_length (l : Launch) (dC : Nat → ClassId) (dI : Nat → Nat → Nat) (kI kZ : ClassId) (sz : Nat) (p_li : Nat) (p_li_lengths : Nat) (p_li_codes : Nat) (li_count : Int32) (li_latest : Int32) (li_lengths : Nat → Int32) (a1 : Int32) (K : Int32 → Prop) (h : wp_X3_length li_count li_latest li_lengths a1 K) : Met l yX3_length wsX3_length rmX3_length (va_Pc [.ref p_li, .int a1] (zP (dC, dI) (zT kI kZ) sz [(p_li, .inr (3, [.int li_count, .int li_latest, .ref p_li_lengths, .ref p_li_codes])), (p_li_lengths, .inl (kI, 8, .inl li_lengths))])) (va_Qi (fun (r : Int32) (u : Unit) => K r) (fun (u : Unit) => zB (dC, dI) (zT kI kZ) (va_A [(p_li, .inr (3, [.int li_count, .int li_latest, .ref p_li_lengths, .ref p_li_codes])), (p_li_lengths, .inl (kI, 8, .inl li_lengths))] sz) [(p_li, .inr (3, [.int li_count, .int li_latest, .ref p_li_lengths, .ref p_li_codes])), (p_li_lengths, .inl (kI, 8, .inl li_lengths))]) (va_A [(p_li, .inr (3, [.int li_count, .int li_latest, .ref p_li_lengths, .ref p_li_codes])), (p_li_lengths, .inl (kI, 8, .inl li_lengths))] sz)) 0 0 (va_A [(p_li, .inr (3, [.int li_count, .int li_latest, .ref p_li_lengths, .ref p_li_codes])), (p_li_lengths, .inl (kI, 8, .inl li_lengths))] sz) := by
  refine zz_ofi (cc := cX3_length) (maxL := 3) (by decide) rfl (Nat.le_of_ble_eq_true rfl) ?_
  intro p e s m args below meth c A Q ls hx hb hml hown hts hK hA hR hP hD hS hl
  have hown : s.vm.findClass RX3 = some m.cls := hown
  have hl : lv_has ls 3 [(0, .ref p_li), (1, .int a1)] := hl
  have hi_X3 : ∀ w ∈ wsX30, w ∈ wsX3_length := fun _ h => (List.mem_cons_of_mem _ (List.mem_append_right _ h))
  unfold wp_X3_length at h
  obtain ⟨H, eH⟩ : ∃ H, H = s.heap := ⟨_, rfl⟩
  obtain ⟨locs, eL⟩ : ∃ L : List Loc, L = [] := ⟨_, rfl⟩
  rw [← eL]
  have hS : va_S A s.heap s.heap locs := by rw [eL]; exact hS
  suffices hgo : ∀ H : Heap, va_P (dC, dI) vwCl [(p_li, .inr (3, [.int li_count, .int li_latest, .ref p_li_lengths, .ref p_li_codes])), (p_li_lengths, .inl (kI, 8, .inl li_lengths))] H → va_S A s.heap H locs → W p l e rmX3_length s m args below meth c H locs 0 0 Q (F0 m 0 ls []) from hgo _ hP hS
  clear hP hS eH H eL
  intro H hP hS
  refine lv_aload_n hx hb dX3_length_0 rfl (lv_at hl 0 rfl) ?_
  refine lv_iload_n hx hb dX3_length_1 rfl (lv_at hl 1 rfl) ?_
  refine zz_Vi (As := [.int a1]) (rest := []) (wr := [(p_li_lengths, .inl (kI, 8, .inl li_lengths))]) ⟨hx, hb, hml, hown, hts⟩ (cwV 1 hts gX3_length_X3_slotOf rfl rfl rfl (by decide +kernel) ⟨Nat.le_of_ble_eq_true rfl, Nat.le_of_ble_eq_true rfl⟩) hK hP hD hS hA (c_X3_slotOf l dC dI kI kZ H.size p_li p_li_lengths p_li_codes li_count li_latest a1 _ h) [0] [1] rfl rfl rfl rfl (by decide) 0 rfl rfl rfl rfl hl.1 (Nat.le_of_ble_eq_true rfl) dX3_length_2 (Nat.le_refl _) (Nat.le_refl _) (fun r_1 u_1 H locs h hP hD hS => ?_)
  have hP : va_P (dC, dI) vwCl [(p_li, .inr (3, [.int li_count, .int li_latest, .ref p_li_lengths, .ref p_li_codes])), (p_li_lengths, .inl (kI, 8, .inl li_lengths))] H := hP.sub [1, 0] rfl
  have hD : va_D A [(p_li, .inr (3, [.int li_count, .int li_latest, .ref p_li_lengths, .ref p_li_codes])), (p_li_lengths, .inl (kI, 8, .inl li_lengths))] := hD.sub [1, 0] rfl rfl
  refine lv_istore_n (lv' := [(2, .int r_1), (0, .ref p_li), (1, .int a1)]) hx hb dX3_length_5 rfl hl (by decide) rfl (fun ls hl => ?_)
  refine lv_iload_n hx hb dX3_length_6 rfl (lv_at hl 0 rfl) ?_
  refine lv_if_lt (tgt := 25) hx hb dX3_length_7 (by decide) (fun c_ => ?_) (fun c_ => ?_)
  · have h := h.1 c_
    refine lv_iconst (v := 0) hx hb dX3_length_25 (by decide) ?_
    exact hR 0 () H locs h hP hD hS _ ls dX3_length_26
  · have h := h.2 c_
    refine lv_iload_n hx hb dX3_length_10 rfl (lv_at hl 0 rfl) ?_
    refine lv_bipush (v := 8) hx hb dX3_length_11 (by decide) ?_
    refine lv_icmp_ge (tgt := 25) hx hb dX3_length_13 (by decide) (fun c_ => ?_) (fun c_ => ?_)
    · have h := h.1 c_
      refine lv_iconst (v := 0) hx hb dX3_length_25 (by decide) ?_
      exact hR 0 () H locs h hP hD hS _ ls dX3_length_26
    · have h := h.2 c_
      refine lv_aload_n hx hb dX3_length_16 rfl (lv_at hl 1 rfl) ?_
      refine va_get (D := (dC, dI)) (ci := 3) (v := .ref p_li_lengths) (C := RX3) (T := TX3) (N := 4) hx hb hts hi_X3 hown hK hP 0 rfl rfl 2 (by decide) (hts (.fieldLink RX3 11 "ZInput$Lines" "lengths" "[I") (List.mem_cons_of_mem _ (List.mem_append_left _ (List.mem_of_getElem? (i := 0) rfl)))) (fun _ h9 => h9) rfl dX3_length_17 ?_
      refine lv_iload_n hx hb dX3_length_20 rfl (lv_at hl 0 rfl) ?_
      have hi := h.1
      have h := h.2
      refine va_iald hx hb hK hP 1 0 rfl rfl hi dX3_length_21 ?_
      refine lv_goto (tgt := 26) hx hb dX3_length_22 (by decide) ?_
      exact hR (li_lengths (Int32.toNatClampNeg r_1)) () H locs h hP hD hS _ ls dX3_length_26
def wp_X3_code (li_count : Int32) (li_latest : Int32) (li_lengths : Nat → Int32) (li_codes : Nat → Int32) (a1 : Int32) (a2 : Int32) (K : Int32 → Prop) : Prop :=
  wp_X3_slotOf li_count li_latest a1 (fun (r_1 : Int32) => ∀ v_1 : Int32, v_1 = ((r_1 * 255) + a2) → (((a2 < 0) → (K 0)) ∧ ((¬ a2 < 0) → (wp_X3_length li_count li_latest li_lengths a1 (fun (r_2 : Int32) => ((r_2 ≤ a2) → (K 0)) ∧ ((¬ r_2 ≤ a2) → (((v_1 < 0) → (K 0)) ∧ ((¬ v_1 < 0) → (((2040 ≤ v_1) → (K 0)) ∧ ((¬ 2040 ≤ v_1) → (vp_in v_1 2040 ∧ (K (li_codes (Int32.toNatClampNeg v_1))))))))))))))
abbrev rmX3_code : Room := { frames := 2, cells := 0, slots := 0, locals := 43 }
set_option maxHeartbeats 4000000 in
set_option maxRecDepth 100000 in
theorem c_X3_code (l : Launch) (dC : Nat → ClassId) (dI : Nat → Nat → Nat) (kI kZ : ClassId) (sz : Nat) (p_li : Nat) (p_li_lengths : Nat) (p_li_codes : Nat) (li_count : Int32) (li_latest : Int32) (li_lengths : Nat → Int32) (li_codes : Nat → Int32) (a1 : Int32) (a2 : Int32) (K : Int32 → Prop) (h : wp_X3_code li_count li_latest li_lengths li_codes a1 a2 K) : Met l yX3_code wsX3_code rmX3_code (va_Pc [.ref p_li, .int a1, .int a2] (zP (dC, dI) (zT kI kZ) sz [(p_li, .inr (3, [.int li_count, .int li_latest, .ref p_li_lengths, .ref p_li_codes])), (p_li_lengths, .inl (kI, 8, .inl li_lengths)), (p_li_codes, .inl (kI, 2040, .inl li_codes))])) (va_Qi (fun (r : Int32) (u : Unit) => K r) (fun (u : Unit) => zB (dC, dI) (zT kI kZ) (va_A [(p_li, .inr (3, [.int li_count, .int li_latest, .ref p_li_lengths, .ref p_li_codes])), (p_li_lengths, .inl (kI, 8, .inl li_lengths)), (p_li_codes, .inl (kI, 2040, .inl li_codes))] sz) [(p_li, .inr (3, [.int li_count, .int li_latest, .ref p_li_lengths, .ref p_li_codes])), (p_li_lengths, .inl (kI, 8, .inl li_lengths)), (p_li_codes, .inl (kI, 2040, .inl li_codes))]) (va_A [(p_li, .inr (3, [.int li_count, .int li_latest, .ref p_li_lengths, .ref p_li_codes])), (p_li_lengths, .inl (kI, 8, .inl li_lengths)), (p_li_codes, .inl (kI, 2040, .inl li_codes))] sz)) 0 0 (va_A [(p_li, .inr (3, [.int li_count, .int li_latest, .ref p_li_lengths, .ref p_li_codes])), (p_li_lengths, .inl (kI, 8, .inl li_lengths)), (p_li_codes, .inl (kI, 2040, .inl li_codes))] sz) := by
  refine zz_ofi (cc := cX3_code) (maxL := 4) (by decide) rfl (Nat.le_of_ble_eq_true rfl) ?_
  intro p e s m args below meth c A Q ls hx hb hml hown hts hK hA hR hP hD hS hl
  have hown : s.vm.findClass RX3 = some m.cls := hown
  have hl : lv_has ls 4 [(0, .ref p_li), (1, .int a1), (2, .int a2)] := hl
  have hi_X3 : ∀ w ∈ wsX30, w ∈ wsX3_code := fun _ h => (List.mem_cons_of_mem _ (List.mem_append_right _ h))
  unfold wp_X3_code at h
  obtain ⟨H, eH⟩ : ∃ H, H = s.heap := ⟨_, rfl⟩
  obtain ⟨locs, eL⟩ : ∃ L : List Loc, L = [] := ⟨_, rfl⟩
  rw [← eL]
  have hS : va_S A s.heap s.heap locs := by rw [eL]; exact hS
  suffices hgo : ∀ H : Heap, va_P (dC, dI) vwCl [(p_li, .inr (3, [.int li_count, .int li_latest, .ref p_li_lengths, .ref p_li_codes])), (p_li_lengths, .inl (kI, 8, .inl li_lengths)), (p_li_codes, .inl (kI, 2040, .inl li_codes))] H → va_S A s.heap H locs → W p l e rmX3_code s m args below meth c H locs 0 0 Q (F0 m 0 ls []) from hgo _ hP hS
  clear hP hS eH H eL
  intro H hP hS
  refine lv_aload_n hx hb dX3_code_0 rfl (lv_at hl 0 rfl) ?_
  refine lv_iload_n hx hb dX3_code_1 rfl (lv_at hl 1 rfl) ?_
  refine zz_Vi (As := [.int a1]) (rest := []) (wr := [(p_li_lengths, .inl (kI, 8, .inl li_lengths)), (p_li_codes, .inl (kI, 2040, .inl li_codes))]) ⟨hx, hb, hml, hown, hts⟩ (cwV 1 hts gX3_code_X3_slotOf rfl rfl rfl (by decide +kernel) ⟨Nat.le_of_ble_eq_true rfl, Nat.le_of_ble_eq_true rfl⟩) hK hP hD hS hA (c_X3_slotOf l dC dI kI kZ H.size p_li p_li_lengths p_li_codes li_count li_latest a1 _ h) [0] [1, 2] rfl rfl rfl rfl (by decide) 0 rfl rfl rfl rfl hl.1 (Nat.le_of_ble_eq_true rfl) dX3_code_2 (Nat.le_refl _) (Nat.le_refl _) (fun r_1 u_1 H locs h hP hD hS => ?_)
  have hP : va_P (dC, dI) vwCl [(p_li, .inr (3, [.int li_count, .int li_latest, .ref p_li_lengths, .ref p_li_codes])), (p_li_lengths, .inl (kI, 8, .inl li_lengths)), (p_li_codes, .inl (kI, 2040, .inl li_codes))] H := hP.sub [2, 0, 1] rfl
  have hD : va_D A [(p_li, .inr (3, [.int li_count, .int li_latest, .ref p_li_lengths, .ref p_li_codes])), (p_li_lengths, .inl (kI, 8, .inl li_lengths)), (p_li_codes, .inl (kI, 2040, .inl li_codes))] := hD.sub [2, 0, 1] rfl rfl
  refine lv_sipush (v := 255) hx hb dX3_code_5 (by decide) ?_
  refine lv_imul hx hb dX3_code_8 ?_
  refine lv_iload_n hx hb dX3_code_9 rfl (lv_at hl 2 rfl) ?_
  refine lv_iadd hx hb dX3_code_10 ?_
  refine lv_topi (fun v_1 ev_1 => ?_)
  have h := h v_1 ev_1
  refine lv_istore_n (lv' := [(3, .int v_1), (0, .ref p_li), (1, .int a1), (2, .int a2)]) hx hb dX3_code_11 rfl hl (by decide) rfl (fun ls hl => ?_)
  refine lv_iload_n hx hb dX3_code_12 rfl (lv_at hl 3 rfl) ?_
  refine lv_if_lt (tgt := 47) hx hb dX3_code_13 (by decide) (fun c_ => ?_) (fun c_ => ?_)
  · have h := h.1 c_
    refine lv_iconst (v := 0) hx hb dX3_code_47 (by decide) ?_
    exact hR 0 () H locs h hP hD hS _ ls dX3_code_48
  · have h := h.2 c_
    refine lv_iload_n hx hb dX3_code_16 rfl (lv_at hl 3 rfl) ?_
    refine lv_aload_n hx hb dX3_code_17 rfl (lv_at hl 1 rfl) ?_
    refine lv_iload_n hx hb dX3_code_18 rfl (lv_at hl 2 rfl) ?_
    refine zz_Vi (As := [.int a1]) (rest := [.int a2]) (wr := [(p_li_codes, .inl (kI, 2040, .inl li_codes))]) ⟨hx, hb, hml, hown, hts⟩ (cwV 1 hts gX3_code_X3_length rfl rfl rfl (by decide +kernel) ⟨Nat.le_of_ble_eq_true rfl, Nat.le_of_ble_eq_true rfl⟩) hK hP hD hS hA (c_X3_length l dC dI kI kZ H.size p_li p_li_lengths p_li_codes li_count li_latest li_lengths a1 _ h) [0, 1] [2] rfl rfl rfl rfl (by decide) 0 rfl rfl rfl rfl hl.1 (Nat.le_of_ble_eq_true rfl) dX3_code_19 (Nat.le_refl _) (Nat.le_refl _) (fun r_2 u_2 H locs h hP hD hS => ?_)
    have hP : va_P (dC, dI) vwCl [(p_li, .inr (3, [.int li_count, .int li_latest, .ref p_li_lengths, .ref p_li_codes])), (p_li_lengths, .inl (kI, 8, .inl li_lengths)), (p_li_codes, .inl (kI, 2040, .inl li_codes))] H := hP.sub [1, 2, 0] rfl
    have hD : va_D A [(p_li, .inr (3, [.int li_count, .int li_latest, .ref p_li_lengths, .ref p_li_codes])), (p_li_lengths, .inl (kI, 8, .inl li_lengths)), (p_li_codes, .inl (kI, 2040, .inl li_codes))] := hD.sub [1, 2, 0] rfl rfl
    refine lv_icmp_ge (tgt := 47) hx hb dX3_code_22 (by decide) (fun c_ => ?_) (fun c_ => ?_)
    · have h := h.1 c_
      refine lv_iconst (v := 0) hx hb dX3_code_47 (by decide) ?_
      exact hR 0 () H locs h hP hD hS _ ls dX3_code_48
    · have h := h.2 c_
      refine lv_iload_n hx hb dX3_code_25 rfl (lv_at hl 0 rfl) ?_
      refine lv_if_lt (tgt := 47) hx hb dX3_code_26 (by decide) (fun c_ => ?_) (fun c_ => ?_)
      · have h := h.1 c_
        refine lv_iconst (v := 0) hx hb dX3_code_47 (by decide) ?_
        exact hR 0 () H locs h hP hD hS _ ls dX3_code_48
      · have h := h.2 c_
        refine lv_iload_n hx hb dX3_code_29 rfl (lv_at hl 0 rfl) ?_
        refine lv_aload_n hx hb dX3_code_30 rfl (lv_at hl 1 rfl) ?_
        refine va_get (D := (dC, dI)) (ci := 3) (v := .ref p_li_codes) (C := RX3) (T := TX3) (N := 4) hx hb hts hi_X3 hown hK hP 0 rfl rfl 3 (by decide) (hts (.fieldLink RX3 15 "ZInput$Lines" "codes" "[I") (List.mem_cons_of_mem _ (List.mem_append_left _ (List.mem_of_getElem? (i := 0) rfl)))) (fun _ h9 => h9) rfl dX3_code_31 ?_
        refine va_alen (v := 2040) hx hb hK hP 2 0 rfl rfl rfl dX3_code_34 ?_
        refine lv_icmp_ge (tgt := 47) hx hb dX3_code_35 (by decide) (fun c_ => ?_) (fun c_ => ?_)
        · have h := h.1 c_
          refine lv_iconst (v := 0) hx hb dX3_code_47 (by decide) ?_
          exact hR 0 () H locs h hP hD hS _ ls dX3_code_48
        · have h := h.2 c_
          refine lv_aload_n hx hb dX3_code_38 rfl (lv_at hl 1 rfl) ?_
          refine va_get (D := (dC, dI)) (ci := 3) (v := .ref p_li_codes) (C := RX3) (T := TX3) (N := 4) hx hb hts hi_X3 hown hK hP 0 rfl rfl 3 (by decide) (hts (.fieldLink RX3 15 "ZInput$Lines" "codes" "[I") (List.mem_cons_of_mem _ (List.mem_append_left _ (List.mem_of_getElem? (i := 0) rfl)))) (fun _ h9 => h9) rfl dX3_code_39 ?_
          refine lv_iload_n hx hb dX3_code_42 rfl (lv_at hl 0 rfl) ?_
          have hi := h.1
          have h := h.2
          refine va_iald hx hb hK hP 2 0 rfl rfl hi dX3_code_43 ?_
          refine lv_goto (tgt := 48) hx hb dX3_code_44 (by decide) ?_
          exact hR (li_codes (Int32.toNatClampNeg v_1)) () H locs h hP hD hS _ ls dX3_code_48
def wp_X7_code (re_count : Int32) (re_codes : Nat → Int32) (a1 : Int32) (K : Int32 → Prop) : Prop :=
  ((a1 < 0) → (K 0)) ∧ ((¬ a1 < 0) → (((re_count ≤ a1) → (K 0)) ∧ ((¬ re_count ≤ a1) → (((255 ≤ a1) → (K 0)) ∧ ((¬ 255 ≤ a1) → (vp_in a1 255 ∧ (K (re_codes (Int32.toNatClampNeg a1)))))))))
abbrev rmX7_code : Room := { frames := 0, cells := 0, slots := 0, locals := 0 }
set_option maxHeartbeats 4000000 in
set_option maxRecDepth 100000 in
theorem c_X7_code (l : Launch) (dC : Nat → ClassId) (dI : Nat → Nat → Nat) (kI kZ : ClassId) (sz : Nat) (p_re : Nat) (p_re_codes : Nat) (re_open : Int32) (re_textAt : Int32) (re_parseAt : Int32) (re_limit : Int32) (re_shown : Int32) (re_count : Int32) (re_codes : Nat → Int32) (a1 : Int32) (K : Int32 → Prop) (h : wp_X7_code re_count re_codes a1 K) : Met l yX7_code wsX7_code rmX7_code (va_Pc [.ref p_re, .int a1] (zP (dC, dI) (zT kI kZ) sz [(p_re, .inr (7, [.int re_open, .int re_textAt, .int re_parseAt, .int re_limit, .int re_count, .int re_shown, .ref p_re_codes])), (p_re_codes, .inl (kI, 255, .inl re_codes))])) (va_Qi (fun (r : Int32) (u : Unit) => K r) (fun (u : Unit) => zB (dC, dI) (zT kI kZ) (va_A [(p_re, .inr (7, [.int re_open, .int re_textAt, .int re_parseAt, .int re_limit, .int re_count, .int re_shown, .ref p_re_codes])), (p_re_codes, .inl (kI, 255, .inl re_codes))] sz) [(p_re, .inr (7, [.int re_open, .int re_textAt, .int re_parseAt, .int re_limit, .int re_count, .int re_shown, .ref p_re_codes])), (p_re_codes, .inl (kI, 255, .inl re_codes))]) (va_A [(p_re, .inr (7, [.int re_open, .int re_textAt, .int re_parseAt, .int re_limit, .int re_count, .int re_shown, .ref p_re_codes])), (p_re_codes, .inl (kI, 255, .inl re_codes))] sz)) 0 0 (va_A [(p_re, .inr (7, [.int re_open, .int re_textAt, .int re_parseAt, .int re_limit, .int re_count, .int re_shown, .ref p_re_codes])), (p_re_codes, .inl (kI, 255, .inl re_codes))] sz) := by
  refine zz_ofi (cc := cX7_code) (maxL := 2) (by decide) rfl (Nat.le_of_ble_eq_true rfl) ?_
  intro p e s m args below meth c A Q ls hx hb hml hown hts hK hA hR hP hD hS hl
  have hown : s.vm.findClass RX7 = some m.cls := hown
  have hl : lv_has ls 2 [(0, .ref p_re), (1, .int a1)] := hl
  have hi_X7 : ∀ w ∈ wsX70, w ∈ wsX7_code := fun _ h => (List.mem_cons_of_mem _ (List.mem_append_right _ h))
  unfold wp_X7_code at h
  obtain ⟨H, eH⟩ : ∃ H, H = s.heap := ⟨_, rfl⟩
  obtain ⟨locs, eL⟩ : ∃ L : List Loc, L = [] := ⟨_, rfl⟩
  rw [← eL]
  have hS : va_S A s.heap s.heap locs := by rw [eL]; exact hS
  suffices hgo : ∀ H : Heap, va_P (dC, dI) vwCl [(p_re, .inr (7, [.int re_open, .int re_textAt, .int re_parseAt, .int re_limit, .int re_count, .int re_shown, .ref p_re_codes])), (p_re_codes, .inl (kI, 255, .inl re_codes))] H → va_S A s.heap H locs → W p l e rmX7_code s m args below meth c H locs 0 0 Q (F0 m 0 ls []) from hgo _ hP hS
  clear hP hS eH H eL
  intro H hP hS
  refine lv_iload_n hx hb dX7_code_0 rfl (lv_at hl 1 rfl) ?_
  refine lv_if_lt (tgt := 30) hx hb dX7_code_1 (by decide) (fun c_ => ?_) (fun c_ => ?_)
  · have h := h.1 c_
    refine lv_iconst (v := 0) hx hb dX7_code_30 (by decide) ?_
    exact hR 0 () H locs h hP hD hS _ ls dX7_code_31
  · have h := h.2 c_
    refine lv_iload_n hx hb dX7_code_4 rfl (lv_at hl 1 rfl) ?_
    refine lv_aload_n hx hb dX7_code_5 rfl (lv_at hl 0 rfl) ?_
    refine va_get (D := (dC, dI)) (ci := 7) (v := .int re_count) (C := RX7) (T := TX7) (N := 7) hx hb hts hi_X7 hown hK hP 0 rfl rfl 4 (by decide) (hts (.fieldLink RX7 32 "ZInput$Reading" "count" "I") (List.mem_cons_of_mem _ (List.mem_append_left _ (List.mem_of_getElem? (i := 0) rfl)))) (fun _ h9 => h9) rfl dX7_code_6 ?_
    refine lv_icmp_ge (tgt := 30) hx hb dX7_code_9 (by decide) (fun c_ => ?_) (fun c_ => ?_)
    · have h := h.1 c_
      refine lv_iconst (v := 0) hx hb dX7_code_30 (by decide) ?_
      exact hR 0 () H locs h hP hD hS _ ls dX7_code_31
    · have h := h.2 c_
      refine lv_iload_n hx hb dX7_code_12 rfl (lv_at hl 1 rfl) ?_
      refine lv_aload_n hx hb dX7_code_13 rfl (lv_at hl 0 rfl) ?_
      refine va_get (D := (dC, dI)) (ci := 7) (v := .ref p_re_codes) (C := RX7) (T := TX7) (N := 7) hx hb hts hi_X7 hown hK hP 0 rfl rfl 6 (by decide) (hts (.fieldLink RX7 15 "ZInput$Reading" "codes" "[I") (List.mem_cons_of_mem _ (List.mem_append_left _ (List.mem_of_getElem? (i := 1) rfl)))) (fun _ h9 => h9) rfl dX7_code_14 ?_
      refine va_alen (v := 255) hx hb hK hP 1 0 rfl rfl rfl dX7_code_17 ?_
      refine lv_icmp_ge (tgt := 30) hx hb dX7_code_18 (by decide) (fun c_ => ?_) (fun c_ => ?_)
      · have h := h.1 c_
        refine lv_iconst (v := 0) hx hb dX7_code_30 (by decide) ?_
        exact hR 0 () H locs h hP hD hS _ ls dX7_code_31
      · have h := h.2 c_
        refine lv_aload_n hx hb dX7_code_21 rfl (lv_at hl 0 rfl) ?_
        refine va_get (D := (dC, dI)) (ci := 7) (v := .ref p_re_codes) (C := RX7) (T := TX7) (N := 7) hx hb hts hi_X7 hown hK hP 0 rfl rfl 6 (by decide) (hts (.fieldLink RX7 15 "ZInput$Reading" "codes" "[I") (List.mem_cons_of_mem _ (List.mem_append_left _ (List.mem_of_getElem? (i := 1) rfl)))) (fun _ h9 => h9) rfl dX7_code_22 ?_
        refine lv_iload_n hx hb dX7_code_25 rfl (lv_at hl 1 rfl) ?_
        have hi := h.1
        have h := h.2
        refine va_iald hx hb hK hP 1 0 rfl rfl hi dX7_code_26 ?_
        refine lv_goto (tgt := 31) hx hb dX7_code_27 (by decide) ?_
        exact hR (re_codes (Int32.toNatClampNeg a1)) () H locs h hP hD hS _ ls dX7_code_31
def wp_X3_keep (re_count : Int32) (re_codes : Nat → Int32) (li_count : Int32) (li_latest : Int32) (li_lengths : Nat → Int32) (li_codes : Nat → Int32) (K : Int32 → Int32 → (Nat → Int32) → (Nat → Int32) → Prop) : Prop :=
  ((¬ re_count = 0) → (∀ v_1 : Int32, v_1 = ((li_latest + 1) - (li_latest + 1) / 8 * 8) → (∀ v_2 : Int32, v_2 = (if 8 < (li_count + 1) then 8 else (li_count + 1)) → (∀ J65 : (Nat → Int32) → Prop, (∀ (li_lengths_1 : Nat → Int32), (∀ L67 : Int32 → (Nat → Int32) → Prop, (∀ (x2_1 : Int32) (li_codes_1 : Nat → Int32), (((re_count ≤ x2_1) → (K v_2 v_1 li_lengths_1 li_codes_1)) ∧ ((¬ re_count ≤ x2_1) → (∀ v_3 : Int32, v_3 = ((v_1 * 255) + x2_1) → (∀ J110 : (Nat → Int32) → Prop, (∀ (li_codes_2 : Nat → Int32), (L67 (x2_1 + 1) li_codes_2) → J110 li_codes_2) → (((v_3 < 0) → (J110 li_codes_1)) ∧ ((¬ v_3 < 0) → (((2040 ≤ v_3) → (J110 li_codes_1)) ∧ ((¬ 2040 ≤ v_3) → (wp_X7_code re_count re_codes x2_1 (fun (r_1 : Int32) => vp_in v_3 2040 ∧ (J110 (upd li_codes_1 (Int32.toNatClampNeg v_3) r_1)))))))))))) → L67 x2_1 li_codes_1) → L67 0 li_codes) → J65 li_lengths_1) → (((v_1 < 0) → (J65 li_lengths)) ∧ ((¬ v_1 < 0) → (((8 ≤ v_1) → (J65 li_lengths)) ∧ ((¬ 8 ≤ v_1) → (vp_in v_1 8 ∧ (J65 (upd li_lengths (Int32.toNatClampNeg v_1) re_count))))))))))) ∧ ((re_count = 0) → (K li_count li_latest li_lengths li_codes))
abbrev rmX3_keep : Room := { frames := 1, cells := 0, slots := 0, locals := 21 }
set_option maxHeartbeats 4000000 in
set_option maxRecDepth 100000 in
theorem c_X3_keep (l : Launch) (dC : Nat → ClassId) (dI : Nat → Nat → Nat) (kI kZ : ClassId) (sz : Nat) (p_re : Nat) (p_re_codes : Nat) (p_li : Nat) (p_li_lengths : Nat) (p_li_codes : Nat) (re_open : Int32) (re_textAt : Int32) (re_parseAt : Int32) (re_limit : Int32) (re_shown : Int32) (re_count : Int32) (re_codes : Nat → Int32) (li_count : Int32) (li_latest : Int32) (li_lengths : Nat → Int32) (li_codes : Nat → Int32) (K : Int32 → Int32 → (Nat → Int32) → (Nat → Int32) → Prop) (h : wp_X3_keep re_count re_codes li_count li_latest li_lengths li_codes K) : Met l yX3_keep wsX3_keep rmX3_keep (va_Pc [.ref p_li, .ref p_re] (zP (dC, dI) (zT kI kZ) sz [(p_re, .inr (7, [.int re_open, .int re_textAt, .int re_parseAt, .int re_limit, .int re_count, .int re_shown, .ref p_re_codes])), (p_re_codes, .inl (kI, 255, .inl re_codes)), (p_li, .inr (3, [.int li_count, .int li_latest, .ref p_li_lengths, .ref p_li_codes])), (p_li_lengths, .inl (kI, 8, .inl li_lengths)), (p_li_codes, .inl (kI, 2040, .inl li_codes))])) (va_Qv (fun (u : Int32 × Int32 × (Nat → Int32) × (Nat → Int32)) => K u.1 u.2.1 u.2.2.1 u.2.2.2) (fun (u : Int32 × Int32 × (Nat → Int32) × (Nat → Int32)) => zB (dC, dI) (zT kI kZ) (va_A [(p_re, .inr (7, [.int re_open, .int re_textAt, .int re_parseAt, .int re_limit, .int re_count, .int re_shown, .ref p_re_codes])), (p_re_codes, .inl (kI, 255, .inl re_codes)), (p_li, .inr (3, [.int li_count, .int li_latest, .ref p_li_lengths, .ref p_li_codes])), (p_li_lengths, .inl (kI, 8, .inl li_lengths)), (p_li_codes, .inl (kI, 2040, .inl li_codes))] sz) [(p_re, .inr (7, [.int re_open, .int re_textAt, .int re_parseAt, .int re_limit, .int re_count, .int re_shown, .ref p_re_codes])), (p_re_codes, .inl (kI, 255, .inl re_codes)), (p_li, .inr (3, [.int u.1, .int u.2.1, .ref p_li_lengths, .ref p_li_codes])), (p_li_lengths, .inl (kI, 8, .inl u.2.2.1)), (p_li_codes, .inl (kI, 2040, .inl u.2.2.2))]) (va_A [(p_re, .inr (7, [.int re_open, .int re_textAt, .int re_parseAt, .int re_limit, .int re_count, .int re_shown, .ref p_re_codes])), (p_re_codes, .inl (kI, 255, .inl re_codes)), (p_li, .inr (3, [.int li_count, .int li_latest, .ref p_li_lengths, .ref p_li_codes])), (p_li_lengths, .inl (kI, 8, .inl li_lengths)), (p_li_codes, .inl (kI, 2040, .inl li_codes))] sz)) 0 0 (va_A [(p_re, .inr (7, [.int re_open, .int re_textAt, .int re_parseAt, .int re_limit, .int re_count, .int re_shown, .ref p_re_codes])), (p_re_codes, .inl (kI, 255, .inl re_codes)), (p_li, .inr (3, [.int li_count, .int li_latest, .ref p_li_lengths, .ref p_li_codes])), (p_li_lengths, .inl (kI, 8, .inl li_lengths)), (p_li_codes, .inl (kI, 2040, .inl li_codes))] sz) := by
  refine zz_ofv (cc := cX3_keep) (maxL := 4) (by decide) rfl (Nat.le_of_ble_eq_true rfl) ?_
  intro p e s m args below meth c A Q ls hx hb hml hown hts hK hA hR hP hD hS hl
  have hown : s.vm.findClass RX3 = some m.cls := hown
  have hl : lv_has ls 4 [(0, .ref p_li), (1, .ref p_re)] := hl
  have hi_X7 : ∀ w ∈ wsX70, w ∈ wsX3_keep := fun _ h => (List.mem_cons_of_mem _ (List.mem_append_left _ (List.mem_append_right _ h)))
  have hi_X3 : ∀ w ∈ wsX30, w ∈ wsX3_keep := fun _ h => (List.mem_cons_of_mem _ (List.mem_append_right _ h))
  unfold wp_X3_keep at h
  obtain ⟨H, eH⟩ : ∃ H, H = s.heap := ⟨_, rfl⟩
  obtain ⟨locs, eL⟩ : ∃ L : List Loc, L = [] := ⟨_, rfl⟩
  rw [← eL]
  have hS : va_S A s.heap s.heap locs := by rw [eL]; exact hS
  suffices hgo : ∀ H : Heap, va_P (dC, dI) vwCl [(p_re, .inr (7, [.int re_open, .int re_textAt, .int re_parseAt, .int re_limit, .int re_count, .int re_shown, .ref p_re_codes])), (p_re_codes, .inl (kI, 255, .inl re_codes)), (p_li, .inr (3, [.int li_count, .int li_latest, .ref p_li_lengths, .ref p_li_codes])), (p_li_lengths, .inl (kI, 8, .inl li_lengths)), (p_li_codes, .inl (kI, 2040, .inl li_codes))] H → va_S A s.heap H locs → W p l e rmX3_keep s m args below meth c H locs 0 0 Q (F0 m 0 ls []) from hgo _ hP hS
  clear hP hS eH H eL
  intro H hP hS
  refine lv_aload_n hx hb dX3_keep_0 rfl (lv_at hl 1 rfl) ?_
  refine va_get (D := (dC, dI)) (ci := 7) (v := .int re_count) (C := RX7) (T := TX7) (N := 7) hx hb hts hi_X7 hown hK hP 0 rfl rfl 4 (by decide) (hts (.fieldLink RX3 18 "ZInput$Reading" "count" "I") (List.mem_cons_of_mem _ (List.mem_append_left _ (List.mem_append_left _ (List.mem_of_getElem? (i := 0) rfl))))) (fun _ h9 => h9) rfl dX3_keep_1 ?_
  refine lv_if_ne (tgt := 8) hx hb dX3_keep_4 (by decide) (fun c_ => ?_) (fun c_ => ?_)
  · have h := h.1 c_
    refine lv_aload_n hx hb dX3_keep_8 rfl (lv_at hl 0 rfl) ?_
    refine lv_aload_n hx hb dX3_keep_9 rfl (lv_at hl 0 rfl) ?_
    refine va_get (D := (dC, dI)) (ci := 3) (v := .int li_latest) (C := RX3) (T := TX3) (N := 4) hx hb hts hi_X3 hown hK hP 2 rfl rfl 1 (by decide) (hts (.fieldLink RX3 24 "ZInput$Lines" "latest" "I") (List.mem_cons_of_mem _ (List.mem_append_left _ (List.mem_append_left _ (List.mem_of_getElem? (i := 1) rfl))))) (fun _ h9 => h9) rfl dX3_keep_10 ?_
    refine lv_iconst (v := 1) hx hb dX3_keep_13 (by decide) ?_
    refine lv_iadd hx hb dX3_keep_14 ?_
    refine lv_bipush (v := 8) hx hb dX3_keep_15 (by decide) ?_
    refine lv_irem hx hb dX3_keep_17 (by decide) ?_
    refine lv_topi (fun v_1 ev_1 => ?_)
    have h := h v_1 ev_1
    refine va_put (D := (dC, dI)) (ci := 3) (v := .int v_1) (ty := .int) (C := RX3) (T := TX3) (N := 4) hx hb hts hi_X3 tyX3 tyX3_ok nmX3 hown hK hP hD hS 2 rfl rfl 1 (by decide) (hts (.fieldLink RX3 24 "ZInput$Lines" "latest" "I") (List.mem_cons_of_mem _ (List.mem_append_left _ (List.mem_append_left _ (List.mem_of_getElem? (i := 1) rfl))))) (fun _ h9 => h9) rfl (by decide +kernel) rfl rfl (Nat.le_of_ble_eq_true rfl) dX3_keep_18 (fun H locs hP hD hS => ?_)
    have hP : va_P (dC, dI) vwCl [(p_re, .inr (7, [.int re_open, .int re_textAt, .int re_parseAt, .int re_limit, .int re_count, .int re_shown, .ref p_re_codes])), (p_re_codes, .inl (kI, 255, .inl re_codes)), (p_li, .inr (3, [.int li_count, .int v_1, .ref p_li_lengths, .ref p_li_codes])), (p_li_lengths, .inl (kI, 8, .inl li_lengths)), (p_li_codes, .inl (kI, 2040, .inl li_codes))] H := hP
    have hD : va_D A [(p_re, .inr (7, [.int re_open, .int re_textAt, .int re_parseAt, .int re_limit, .int re_count, .int re_shown, .ref p_re_codes])), (p_re_codes, .inl (kI, 255, .inl re_codes)), (p_li, .inr (3, [.int li_count, .int v_1, .ref p_li_lengths, .ref p_li_codes])), (p_li_lengths, .inl (kI, 8, .inl li_lengths)), (p_li_codes, .inl (kI, 2040, .inl li_codes))] := hD
    refine lv_aload_n hx hb dX3_keep_21 rfl (lv_at hl 0 rfl) ?_
    refine lv_aload_n hx hb dX3_keep_22 rfl (lv_at hl 0 rfl) ?_
    refine va_get (D := (dC, dI)) (ci := 3) (v := .int li_count) (C := RX3) (T := TX3) (N := 4) hx hb hts hi_X3 hown hK hP 2 rfl rfl 0 (by decide) (hts (.fieldLink RX3 27 "ZInput$Lines" "count" "I") (List.mem_cons_of_mem _ (List.mem_append_left _ (List.mem_append_left _ (List.mem_of_getElem? (i := 2) rfl))))) (fun _ h9 => h9) rfl dX3_keep_23 ?_
    refine lv_iconst (v := 1) hx hb dX3_keep_26 (by decide) ?_
    refine lv_iadd hx hb dX3_keep_27 ?_
    refine lv_bipush (v := 8) hx hb dX3_keep_28 (by decide) ?_
    refine va_mmin hx hb (hml.trans hl.1.symm) hown (hts (.methodLink RX3 28 Lib.Math.min.name) (List.mem_cons_of_mem _ (List.mem_append_left _ (List.mem_append_left _ (List.mem_of_getElem? (i := 3) rfl))))) (hts (.static Lib.Math.min.name) (List.mem_cons_of_mem _ (List.mem_append_left _ (List.mem_append_left _ (List.mem_of_getElem? (i := 4) rfl))))) (hts (.initialized "java/lang/Math") (List.mem_cons_of_mem _ (List.mem_append_left _ (List.mem_append_left _ (List.mem_of_getElem? (i := 5) rfl))))) (hts (.code Lib.Math.min.name Lib.Math.min.code 2 (some .int)) (List.mem_cons_of_mem _ (List.mem_append_left _ (List.mem_append_left _ (List.mem_of_getElem? (i := 6) rfl))))) (Nat.le_of_ble_eq_true rfl) (Nat.le_of_ble_eq_true rfl) (Nat.le_refl _) (Nat.le_refl _) dX3_keep_30 ?_
    refine lv_topi (fun v_2 ev_2 => ?_)
    have h := h v_2 ev_2
    refine va_put (D := (dC, dI)) (ci := 3) (v := .int v_2) (ty := .int) (C := RX3) (T := TX3) (N := 4) hx hb hts hi_X3 tyX3 tyX3_ok nmX3 hown hK hP hD hS 2 rfl rfl 0 (by decide) (hts (.fieldLink RX3 27 "ZInput$Lines" "count" "I") (List.mem_cons_of_mem _ (List.mem_append_left _ (List.mem_append_left _ (List.mem_of_getElem? (i := 2) rfl))))) (fun _ h9 => h9) rfl (by decide +kernel) rfl rfl (Nat.le_of_ble_eq_true rfl) dX3_keep_33 (fun H locs hP hD hS => ?_)
    have hP : va_P (dC, dI) vwCl [(p_re, .inr (7, [.int re_open, .int re_textAt, .int re_parseAt, .int re_limit, .int re_count, .int re_shown, .ref p_re_codes])), (p_re_codes, .inl (kI, 255, .inl re_codes)), (p_li, .inr (3, [.int v_2, .int v_1, .ref p_li_lengths, .ref p_li_codes])), (p_li_lengths, .inl (kI, 8, .inl li_lengths)), (p_li_codes, .inl (kI, 2040, .inl li_codes))] H := hP
    have hD : va_D A [(p_re, .inr (7, [.int re_open, .int re_textAt, .int re_parseAt, .int re_limit, .int re_count, .int re_shown, .ref p_re_codes])), (p_re_codes, .inl (kI, 255, .inl re_codes)), (p_li, .inr (3, [.int v_2, .int v_1, .ref p_li_lengths, .ref p_li_codes])), (p_li_lengths, .inl (kI, 8, .inl li_lengths)), (p_li_codes, .inl (kI, 2040, .inl li_codes))] := hD
    refine lv_aload_n hx hb dX3_keep_36 rfl (lv_at hl 0 rfl) ?_
    refine va_get (D := (dC, dI)) (ci := 3) (v := .int v_1) (C := RX3) (T := TX3) (N := 4) hx hb hts hi_X3 hown hK hP 2 rfl rfl 1 (by decide) (hts (.fieldLink RX3 24 "ZInput$Lines" "latest" "I") (List.mem_cons_of_mem _ (List.mem_append_left _ (List.mem_append_left _ (List.mem_of_getElem? (i := 1) rfl))))) (fun _ h9 => h9) rfl dX3_keep_37 ?_
    have h := h (fun (li_lengths_1 : Nat → Int32) => ∀ (H : Heap) (locs : List Loc), va_P (dC, dI) vwCl [(p_re, .inr (7, [.int re_open, .int re_textAt, .int re_parseAt, .int re_limit, .int re_count, .int re_shown, .ref p_re_codes])), (p_re_codes, .inl (kI, 255, .inl re_codes)), (p_li, .inr (3, [.int v_2, .int v_1, .ref p_li_lengths, .ref p_li_codes])), (p_li_lengths, .inl (kI, 8, .inl li_lengths_1)), (p_li_codes, .inl (kI, 2040, .inl li_codes))] H → va_D A [(p_re, .inr (7, [.int re_open, .int re_textAt, .int re_parseAt, .int re_limit, .int re_count, .int re_shown, .ref p_re_codes])), (p_re_codes, .inl (kI, 255, .inl re_codes)), (p_li, .inr (3, [.int v_2, .int v_1, .ref p_li_lengths, .ref p_li_codes])), (p_li_lengths, .inl (kI, 8, .inl li_lengths_1)), (p_li_codes, .inl (kI, 2040, .inl li_codes))] → va_S A s.heap H locs → ∀ ls : Array Slot, lv_has ls 4 [(0, .ref p_li), (1, .ref p_re)] → W p l e rmX3_keep s m args below meth c H locs 0 0 Q (F0 m 65 ls [])) (by
      clear h hP hD hS hl
      intro li_lengths_1 h H locs hP hD hS ls hl
      refine lv_iconst (v := 0) hx hb dX3_keep_65 (by decide) ?_
      refine lv_istore_n (lv' := [(2, .int 0), (0, .ref p_li), (1, .ref p_re)]) hx hb dX3_keep_66 rfl hl (by decide) rfl (fun ls hl => ?_)
      refine h (fun (x2_1 : Int32) (li_codes_1 : Nat → Int32) => ∀ (H : Heap) (locs : List Loc), va_P (dC, dI) vwCl [(p_re, .inr (7, [.int re_open, .int re_textAt, .int re_parseAt, .int re_limit, .int re_count, .int re_shown, .ref p_re_codes])), (p_re_codes, .inl (kI, 255, .inl re_codes)), (p_li, .inr (3, [.int v_2, .int v_1, .ref p_li_lengths, .ref p_li_codes])), (p_li_lengths, .inl (kI, 8, .inl li_lengths_1)), (p_li_codes, .inl (kI, 2040, .inl li_codes_1))] H → va_D A [(p_re, .inr (7, [.int re_open, .int re_textAt, .int re_parseAt, .int re_limit, .int re_count, .int re_shown, .ref p_re_codes])), (p_re_codes, .inl (kI, 255, .inl re_codes)), (p_li, .inr (3, [.int v_2, .int v_1, .ref p_li_lengths, .ref p_li_codes])), (p_li_lengths, .inl (kI, 8, .inl li_lengths_1)), (p_li_codes, .inl (kI, 2040, .inl li_codes_1))] → va_S A s.heap H locs → ∀ ls : Array Slot, lv_has ls 4 [(0, .ref p_li), (1, .ref p_re), (2, .int x2_1)] → W p l e rmX3_keep s m args below meth c H locs 0 0 Q (F0 m 67 ls [])) ?_ H locs hP hD hS ls (lv_sub hl [1, 2, 0] rfl)
      clear h hP hD hS hl
      intro x2_1 li_codes_1 h H locs hP hD hS ls hl
      refine lv_iload_n hx hb dX3_keep_67 rfl (lv_at hl 2 rfl) ?_
      refine lv_aload_n hx hb dX3_keep_68 rfl (lv_at hl 1 rfl) ?_
      refine va_get (D := (dC, dI)) (ci := 7) (v := .int re_count) (C := RX7) (T := TX7) (N := 7) hx hb hts hi_X7 hown hK hP 0 rfl rfl 4 (by decide) (hts (.fieldLink RX3 18 "ZInput$Reading" "count" "I") (List.mem_cons_of_mem _ (List.mem_append_left _ (List.mem_append_left _ (List.mem_of_getElem? (i := 0) rfl))))) (fun _ h9 => h9) rfl dX3_keep_69 ?_
      refine lv_icmp_ge (tgt := 116) hx hb dX3_keep_72 (by decide) (fun c_ => ?_) (fun c_ => ?_)
      · have h := h.1 c_
        exact hR (v_2, v_1, li_lengths_1, li_codes_1) H locs h hP hD hS _ ls dX3_keep_116
      · have h := h.2 c_
        refine lv_aload_n hx hb dX3_keep_75 rfl (lv_at hl 0 rfl) ?_
        refine va_get (D := (dC, dI)) (ci := 3) (v := .int v_1) (C := RX3) (T := TX3) (N := 4) hx hb hts hi_X3 hown hK hP 2 rfl rfl 1 (by decide) (hts (.fieldLink RX3 24 "ZInput$Lines" "latest" "I") (List.mem_cons_of_mem _ (List.mem_append_left _ (List.mem_append_left _ (List.mem_of_getElem? (i := 1) rfl))))) (fun _ h9 => h9) rfl dX3_keep_76 ?_
        refine lv_sipush (v := 255) hx hb dX3_keep_79 (by decide) ?_
        refine lv_imul hx hb dX3_keep_82 ?_
        refine lv_iload_n hx hb dX3_keep_83 rfl (lv_at hl 2 rfl) ?_
        refine lv_iadd hx hb dX3_keep_84 ?_
        refine lv_topi (fun v_3 ev_3 => ?_)
        have h := h v_3 ev_3
        refine lv_istore_n (lv' := [(3, .int v_3), (0, .ref p_li), (1, .ref p_re), (2, .int x2_1)]) hx hb dX3_keep_85 rfl hl (by decide) rfl (fun ls hl => ?_)
        refine lv_iload_n hx hb dX3_keep_86 rfl (lv_at hl 0 rfl) ?_
        have h := h (fun (li_codes_2 : Nat → Int32) => ∀ (H : Heap) (locs : List Loc), va_P (dC, dI) vwCl [(p_re, .inr (7, [.int re_open, .int re_textAt, .int re_parseAt, .int re_limit, .int re_count, .int re_shown, .ref p_re_codes])), (p_re_codes, .inl (kI, 255, .inl re_codes)), (p_li, .inr (3, [.int v_2, .int v_1, .ref p_li_lengths, .ref p_li_codes])), (p_li_lengths, .inl (kI, 8, .inl li_lengths_1)), (p_li_codes, .inl (kI, 2040, .inl li_codes_2))] H → va_D A [(p_re, .inr (7, [.int re_open, .int re_textAt, .int re_parseAt, .int re_limit, .int re_count, .int re_shown, .ref p_re_codes])), (p_re_codes, .inl (kI, 255, .inl re_codes)), (p_li, .inr (3, [.int v_2, .int v_1, .ref p_li_lengths, .ref p_li_codes])), (p_li_lengths, .inl (kI, 8, .inl li_lengths_1)), (p_li_codes, .inl (kI, 2040, .inl li_codes_2))] → va_S A s.heap H locs → ∀ ls : Array Slot, lv_has ls 4 [(0, .ref p_li), (1, .ref p_re), (2, .int x2_1)] → W p l e rmX3_keep s m args below meth c H locs 0 0 Q (F0 m 110 ls [])) (by
          clear h hP hD hS hl
          intro li_codes_2 h H locs hP hD hS ls hl
          refine lv_iinc (v := (x2_1 + 1)) (lv' := [(2, .int (x2_1 + 1)), (0, .ref p_li), (1, .ref p_re)]) hx hb dX3_keep_110 hl (k := 2) rfl rfl (by decide) rfl (fun ls hl => ?_)
          refine lv_goto (tgt := 67) hx hb dX3_keep_113 (by decide) ?_
          exact h H locs hP hD hS ls (lv_sub hl [1, 2, 0] rfl))
        refine lv_if_lt (tgt := 110) hx hb dX3_keep_87 (by decide) (fun c_ => ?_) (fun c_ => ?_)
        · have h := h.1 c_
          exact h H locs hP hD hS ls (lv_sub hl [1, 2, 3] rfl)
        · have h := h.2 c_
          refine lv_iload_n hx hb dX3_keep_90 rfl (lv_at hl 0 rfl) ?_
          refine lv_aload_n hx hb dX3_keep_91 rfl (lv_at hl 1 rfl) ?_
          refine va_get (D := (dC, dI)) (ci := 3) (v := .ref p_li_codes) (C := RX3) (T := TX3) (N := 4) hx hb hts hi_X3 hown hK hP 2 rfl rfl 3 (by decide) (hts (.fieldLink RX3 15 "ZInput$Lines" "codes" "[I") (List.mem_cons_of_mem _ (List.mem_append_left _ (List.mem_append_left _ (List.mem_of_getElem? (i := 8) rfl))))) (fun _ h9 => h9) rfl dX3_keep_92 ?_
          refine va_alen (v := 2040) hx hb hK hP 4 0 rfl rfl rfl dX3_keep_95 ?_
          refine lv_icmp_ge (tgt := 110) hx hb dX3_keep_96 (by decide) (fun c_ => ?_) (fun c_ => ?_)
          · have h := h.1 c_
            exact h H locs hP hD hS ls (lv_sub hl [1, 2, 3] rfl)
          · have h := h.2 c_
            refine lv_aload_n hx hb dX3_keep_99 rfl (lv_at hl 1 rfl) ?_
            refine va_get (D := (dC, dI)) (ci := 3) (v := .ref p_li_codes) (C := RX3) (T := TX3) (N := 4) hx hb hts hi_X3 hown hK hP 2 rfl rfl 3 (by decide) (hts (.fieldLink RX3 15 "ZInput$Lines" "codes" "[I") (List.mem_cons_of_mem _ (List.mem_append_left _ (List.mem_append_left _ (List.mem_of_getElem? (i := 8) rfl))))) (fun _ h9 => h9) rfl dX3_keep_100 ?_
            refine lv_iload_n hx hb dX3_keep_103 rfl (lv_at hl 0 rfl) ?_
            refine lv_aload_n hx hb dX3_keep_104 rfl (lv_at hl 2 rfl) ?_
            refine lv_iload_n hx hb dX3_keep_105 rfl (lv_at hl 3 rfl) ?_
            refine zz_Vi (As := [.int x2_1]) (rest := [.int v_3, .ref p_li_codes]) (wr := [(p_li, .inr (3, [.int v_2, .int v_1, .ref p_li_lengths, .ref p_li_codes])), (p_li_lengths, .inl (kI, 8, .inl li_lengths_1)), (p_li_codes, .inl (kI, 2040, .inl li_codes_1))]) ⟨hx, hb, hml, hown, hts⟩ (cwV 1 hts gX3_keep_X7_code rfl rfl rfl (by decide +kernel) ⟨Nat.le_of_ble_eq_true rfl, Nat.le_of_ble_eq_true rfl⟩) hK hP hD hS hA (c_X7_code l dC dI kI kZ H.size p_re p_re_codes re_open re_textAt re_parseAt re_limit re_shown re_count re_codes x2_1 _ h) [0, 1] [2, 3, 4] rfl rfl rfl rfl (by decide) 0 rfl rfl rfl rfl hl.1 (Nat.le_of_ble_eq_true rfl) dX3_keep_106 (Nat.le_refl _) (Nat.le_refl _) (fun r_1 u_1 H locs h hP hD hS => ?_)
            have hP : va_P (dC, dI) vwCl [(p_re, .inr (7, [.int re_open, .int re_textAt, .int re_parseAt, .int re_limit, .int re_count, .int re_shown, .ref p_re_codes])), (p_re_codes, .inl (kI, 255, .inl re_codes)), (p_li, .inr (3, [.int v_2, .int v_1, .ref p_li_lengths, .ref p_li_codes])), (p_li_lengths, .inl (kI, 8, .inl li_lengths_1)), (p_li_codes, .inl (kI, 2040, .inl li_codes_1))] H := hP.sub [3, 4, 0, 1, 2] rfl
            have hD : va_D A [(p_re, .inr (7, [.int re_open, .int re_textAt, .int re_parseAt, .int re_limit, .int re_count, .int re_shown, .ref p_re_codes])), (p_re_codes, .inl (kI, 255, .inl re_codes)), (p_li, .inr (3, [.int v_2, .int v_1, .ref p_li_lengths, .ref p_li_codes])), (p_li_lengths, .inl (kI, 8, .inl li_lengths_1)), (p_li_codes, .inl (kI, 2040, .inl li_codes_1))] := hD.sub [3, 4, 0, 1, 2] rfl rfl
            have hi := h.1
            have h := h.2
            refine va_iast hx hb hK hP hD hS 4 0 rfl rfl hi dX3_keep_109 (fun H locs hP hD hS => ?_)
            have hP : va_P (dC, dI) vwCl [(p_re, .inr (7, [.int re_open, .int re_textAt, .int re_parseAt, .int re_limit, .int re_count, .int re_shown, .ref p_re_codes])), (p_re_codes, .inl (kI, 255, .inl re_codes)), (p_li, .inr (3, [.int v_2, .int v_1, .ref p_li_lengths, .ref p_li_codes])), (p_li_lengths, .inl (kI, 8, .inl li_lengths_1)), (p_li_codes, .inl (kI, 2040, .inl (upd li_codes_1 (Int32.toNatClampNeg v_3) r_1)))] H := hP
            have hD : va_D A [(p_re, .inr (7, [.int re_open, .int re_textAt, .int re_parseAt, .int re_limit, .int re_count, .int re_shown, .ref p_re_codes])), (p_re_codes, .inl (kI, 255, .inl re_codes)), (p_li, .inr (3, [.int v_2, .int v_1, .ref p_li_lengths, .ref p_li_codes])), (p_li_lengths, .inl (kI, 8, .inl li_lengths_1)), (p_li_codes, .inl (kI, 2040, .inl (upd li_codes_1 (Int32.toNatClampNeg v_3) r_1)))] := hD
            exact h H locs hP hD hS ls (lv_sub hl [1, 2, 3] rfl))
    refine lv_if_lt (tgt := 65) hx hb dX3_keep_40 (by decide) (fun c_ => ?_) (fun c_ => ?_)
    · have h := h.1 c_
      exact h H locs hP hD hS ls (lv_sub hl [0, 1] rfl)
    · have h := h.2 c_
      refine lv_aload_n hx hb dX3_keep_43 rfl (lv_at hl 0 rfl) ?_
      refine va_get (D := (dC, dI)) (ci := 3) (v := .int v_1) (C := RX3) (T := TX3) (N := 4) hx hb hts hi_X3 hown hK hP 2 rfl rfl 1 (by decide) (hts (.fieldLink RX3 24 "ZInput$Lines" "latest" "I") (List.mem_cons_of_mem _ (List.mem_append_left _ (List.mem_append_left _ (List.mem_of_getElem? (i := 1) rfl))))) (fun _ h9 => h9) rfl dX3_keep_44 ?_
      refine lv_bipush (v := 8) hx hb dX3_keep_47 (by decide) ?_
      refine lv_icmp_ge (tgt := 65) hx hb dX3_keep_49 (by decide) (fun c_ => ?_) (fun c_ => ?_)
      · have h := h.1 c_
        exact h H locs hP hD hS ls (lv_sub hl [0, 1] rfl)
      · have h := h.2 c_
        refine lv_aload_n hx hb dX3_keep_52 rfl (lv_at hl 0 rfl) ?_
        refine va_get (D := (dC, dI)) (ci := 3) (v := .ref p_li_lengths) (C := RX3) (T := TX3) (N := 4) hx hb hts hi_X3 hown hK hP 2 rfl rfl 2 (by decide) (hts (.fieldLink RX3 11 "ZInput$Lines" "lengths" "[I") (List.mem_cons_of_mem _ (List.mem_append_left _ (List.mem_append_left _ (List.mem_of_getElem? (i := 7) rfl))))) (fun _ h9 => h9) rfl dX3_keep_53 ?_
        refine lv_aload_n hx hb dX3_keep_56 rfl (lv_at hl 0 rfl) ?_
        refine va_get (D := (dC, dI)) (ci := 3) (v := .int v_1) (C := RX3) (T := TX3) (N := 4) hx hb hts hi_X3 hown hK hP 2 rfl rfl 1 (by decide) (hts (.fieldLink RX3 24 "ZInput$Lines" "latest" "I") (List.mem_cons_of_mem _ (List.mem_append_left _ (List.mem_append_left _ (List.mem_of_getElem? (i := 1) rfl))))) (fun _ h9 => h9) rfl dX3_keep_57 ?_
        refine lv_aload_n hx hb dX3_keep_60 rfl (lv_at hl 1 rfl) ?_
        refine va_get (D := (dC, dI)) (ci := 7) (v := .int re_count) (C := RX7) (T := TX7) (N := 7) hx hb hts hi_X7 hown hK hP 0 rfl rfl 4 (by decide) (hts (.fieldLink RX3 18 "ZInput$Reading" "count" "I") (List.mem_cons_of_mem _ (List.mem_append_left _ (List.mem_append_left _ (List.mem_of_getElem? (i := 0) rfl))))) (fun _ h9 => h9) rfl dX3_keep_61 ?_
        have hi := h.1
        have h := h.2
        refine va_iast hx hb hK hP hD hS 3 0 rfl rfl hi dX3_keep_64 (fun H locs hP hD hS => ?_)
        have hP : va_P (dC, dI) vwCl [(p_re, .inr (7, [.int re_open, .int re_textAt, .int re_parseAt, .int re_limit, .int re_count, .int re_shown, .ref p_re_codes])), (p_re_codes, .inl (kI, 255, .inl re_codes)), (p_li, .inr (3, [.int v_2, .int v_1, .ref p_li_lengths, .ref p_li_codes])), (p_li_lengths, .inl (kI, 8, .inl (upd li_lengths (Int32.toNatClampNeg v_1) re_count))), (p_li_codes, .inl (kI, 2040, .inl li_codes))] H := hP
        have hD : va_D A [(p_re, .inr (7, [.int re_open, .int re_textAt, .int re_parseAt, .int re_limit, .int re_count, .int re_shown, .ref p_re_codes])), (p_re_codes, .inl (kI, 255, .inl re_codes)), (p_li, .inr (3, [.int v_2, .int v_1, .ref p_li_lengths, .ref p_li_codes])), (p_li_lengths, .inl (kI, 8, .inl (upd li_lengths (Int32.toNatClampNeg v_1) re_count))), (p_li_codes, .inl (kI, 2040, .inl li_codes))] := hD
        exact h H locs hP hD hS ls (lv_sub hl [0, 1] rfl)
  · have h := h.2 c_
    exact hR (li_count, li_latest, li_lengths, li_codes) H locs h hP hD hS _ ls dX3_keep_7
def wp_X4_setOctet (me_octets : Nat → Int32) (a1 : Int32) (a2 : Int32) (K : (Nat → Int32) → Prop) : Prop :=
  ((a1 < 0) → (K me_octets)) ∧ ((¬ a1 < 0) → (((4096 ≤ a1) → (K me_octets)) ∧ ((¬ 4096 ≤ a1) → (vp_in a1 4096 ∧ (K (upd me_octets (Int32.toNatClampNeg a1) (a2 &&& 255)))))))
abbrev rmX4_setOctet : Room := { frames := 0, cells := 0, slots := 0, locals := 0 }
set_option maxHeartbeats 4000000 in
set_option maxRecDepth 100000 in
theorem c_X4_setOctet (l : Launch) (dC : Nat → ClassId) (dI : Nat → Nat → Nat) (kI kZ : ClassId) (sz : Nat) (p_me : Nat) (p_me_octets : Nat) (me_octets : Nat → Int32) (a1 : Int32) (a2 : Int32) (K : (Nat → Int32) → Prop) (h : wp_X4_setOctet me_octets a1 a2 K) : Met l yX4_setOctet wsX4_setOctet rmX4_setOctet (va_Pc [.ref p_me, .int a1, .int a2] (zP (dC, dI) (zT kI kZ) sz [(p_me, .inr (4, [.ref p_me_octets])), (p_me_octets, .inl (kI, 4096, .inl me_octets))])) (va_Qv (fun (u : (Nat → Int32)) => K u) (fun (u : (Nat → Int32)) => zB (dC, dI) (zT kI kZ) (va_A [(p_me, .inr (4, [.ref p_me_octets])), (p_me_octets, .inl (kI, 4096, .inl me_octets))] sz) [(p_me, .inr (4, [.ref p_me_octets])), (p_me_octets, .inl (kI, 4096, .inl u))]) (va_A [(p_me, .inr (4, [.ref p_me_octets])), (p_me_octets, .inl (kI, 4096, .inl me_octets))] sz)) 0 0 (va_A [(p_me, .inr (4, [.ref p_me_octets])), (p_me_octets, .inl (kI, 4096, .inl me_octets))] sz) := by
  refine zz_ofv (cc := cX4_setOctet) (maxL := 3) (by decide) rfl (Nat.le_of_ble_eq_true rfl) ?_
  intro p e s m args below meth c A Q ls hx hb hml hown hts hK hA hR hP hD hS hl
  have hown : s.vm.findClass RX4 = some m.cls := hown
  have hl : lv_has ls 3 [(0, .ref p_me), (1, .int a1), (2, .int a2)] := hl
  have hi_X4 : ∀ w ∈ wsX40, w ∈ wsX4_setOctet := fun _ h => (List.mem_cons_of_mem _ (List.mem_append_right _ h))
  unfold wp_X4_setOctet at h
  obtain ⟨H, eH⟩ : ∃ H, H = s.heap := ⟨_, rfl⟩
  obtain ⟨locs, eL⟩ : ∃ L : List Loc, L = [] := ⟨_, rfl⟩
  rw [← eL]
  have hS : va_S A s.heap s.heap locs := by rw [eL]; exact hS
  suffices hgo : ∀ H : Heap, va_P (dC, dI) vwCl [(p_me, .inr (4, [.ref p_me_octets])), (p_me_octets, .inl (kI, 4096, .inl me_octets))] H → va_S A s.heap H locs → W p l e rmX4_setOctet s m args below meth c H locs 0 0 Q (F0 m 0 ls []) from hgo _ hP hS
  clear hP hS eH H eL
  intro H hP hS
  refine lv_iload_n hx hb dX4_setOctet_0 rfl (lv_at hl 1 rfl) ?_
  refine lv_if_lt (tgt := 22) hx hb dX4_setOctet_1 (by decide) (fun c_ => ?_) (fun c_ => ?_)
  · have h := h.1 c_
    exact hR me_octets H locs h hP hD hS _ ls dX4_setOctet_22
  · have h := h.2 c_
    refine lv_iload_n hx hb dX4_setOctet_4 rfl (lv_at hl 1 rfl) ?_
    refine lv_sipush (v := 4096) hx hb dX4_setOctet_5 (by decide) ?_
    refine lv_icmp_ge (tgt := 22) hx hb dX4_setOctet_8 (by decide) (fun c_ => ?_) (fun c_ => ?_)
    · have h := h.1 c_
      exact hR me_octets H locs h hP hD hS _ ls dX4_setOctet_22
    · have h := h.2 c_
      refine lv_aload_n hx hb dX4_setOctet_11 rfl (lv_at hl 0 rfl) ?_
      refine va_get (D := (dC, dI)) (ci := 4) (v := .ref p_me_octets) (C := RX4) (T := TX4) (N := 1) hx hb hts hi_X4 hown hK hP 0 rfl rfl 0 (by decide) (hts (.fieldLink RX4 9 "ZInput$Memory" "octets" "[I") (List.mem_cons_of_mem _ (List.mem_append_left _ (List.mem_of_getElem? (i := 0) rfl)))) (fun _ h9 => h9) rfl dX4_setOctet_12 ?_
      refine lv_iload_n hx hb dX4_setOctet_15 rfl (lv_at hl 1 rfl) ?_
      refine lv_iload_n hx hb dX4_setOctet_16 rfl (lv_at hl 2 rfl) ?_
      refine lv_sipush (v := 255) hx hb dX4_setOctet_17 (by decide) ?_
      refine lv_iand hx hb dX4_setOctet_20 ?_
      have hi := h.1
      have h := h.2
      refine va_iast hx hb hK hP hD hS 1 0 rfl rfl hi dX4_setOctet_21 (fun H locs hP hD hS => ?_)
      have hP : va_P (dC, dI) vwCl [(p_me, .inr (4, [.ref p_me_octets])), (p_me_octets, .inl (kI, 4096, .inl (upd me_octets (Int32.toNatClampNeg a1) (a2 &&& 255))))] H := hP
      have hD : va_D A [(p_me, .inr (4, [.ref p_me_octets])), (p_me_octets, .inl (kI, 4096, .inl (upd me_octets (Int32.toNatClampNeg a1) (a2 &&& 255))))] := hD
      exact hR (upd me_octets (Int32.toNatClampNeg a1) (a2 &&& 255)) H locs h hP hD hS _ ls dX4_setOctet_22
def wp_X4_store (me_octets : Nat → Int32) (a1 : Int32) (a2 : Int32) (a3 : Int64) (K : (Nat → Int32) → Prop) : Prop :=
  ∀ L3 : Int32 → (Nat → Int32) → Prop, (∀ (x5_1 : Int32) (me_octets_1 : Nat → Int32), (((a2 ≤ x5_1) → (K me_octets_1)) ∧ ((¬ a2 ≤ x5_1) → (wp_X4_setOctet me_octets_1 (a1 + x5_1) ((Int64.toInt32 ((Int64.toUInt64 a3 >>> ((Int32.toInt64 (8 * ((a2 - 1) - x5_1))).toUInt64 &&& Int64.toUInt64 63)).toInt64)) &&& 255) (fun (me_octets_2 : Nat → Int32) => L3 (x5_1 + 1) me_octets_2)))) → L3 x5_1 me_octets_1) → L3 0 me_octets
abbrev rmX4_store : Room := { frames := 1, cells := 0, slots := 0, locals := 22 }
set_option maxHeartbeats 4000000 in
set_option maxRecDepth 100000 in
theorem c_X4_store (l : Launch) (dC : Nat → ClassId) (dI : Nat → Nat → Nat) (kI kZ : ClassId) (sz : Nat) (p_me : Nat) (p_me_octets : Nat) (me_octets : Nat → Int32) (a1 : Int32) (a2 : Int32) (a3 : Int64) (K : (Nat → Int32) → Prop) (h : wp_X4_store me_octets a1 a2 a3 K) : Met l yX4_store wsX4_store rmX4_store (va_Pc [.ref p_me, .int a1, .int a2, .long a3] (zP (dC, dI) (zT kI kZ) sz [(p_me, .inr (4, [.ref p_me_octets])), (p_me_octets, .inl (kI, 4096, .inl me_octets))])) (va_Qv (fun (u : (Nat → Int32)) => K u) (fun (u : (Nat → Int32)) => zB (dC, dI) (zT kI kZ) (va_A [(p_me, .inr (4, [.ref p_me_octets])), (p_me_octets, .inl (kI, 4096, .inl me_octets))] sz) [(p_me, .inr (4, [.ref p_me_octets])), (p_me_octets, .inl (kI, 4096, .inl u))]) (va_A [(p_me, .inr (4, [.ref p_me_octets])), (p_me_octets, .inl (kI, 4096, .inl me_octets))] sz)) 0 0 (va_A [(p_me, .inr (4, [.ref p_me_octets])), (p_me_octets, .inl (kI, 4096, .inl me_octets))] sz) := by
  refine zz_ofv (cc := cX4_store) (maxL := 6) (by decide) rfl (Nat.le_of_ble_eq_true rfl) ?_
  intro p e s m args below meth c A Q ls hx hb hml hown hts hK hA hR hP hD hS hl
  have hown : s.vm.findClass RX4 = some m.cls := hown
  have hl : lv_has ls 6 [(0, .ref p_me), (1, .int a1), (2, .int a2), (3, .long a3)] := hl
  unfold wp_X4_store at h
  obtain ⟨H, eH⟩ : ∃ H, H = s.heap := ⟨_, rfl⟩
  obtain ⟨locs, eL⟩ : ∃ L : List Loc, L = [] := ⟨_, rfl⟩
  rw [← eL]
  have hS : va_S A s.heap s.heap locs := by rw [eL]; exact hS
  suffices hgo : ∀ H : Heap, va_P (dC, dI) vwCl [(p_me, .inr (4, [.ref p_me_octets])), (p_me_octets, .inl (kI, 4096, .inl me_octets))] H → va_S A s.heap H locs → W p l e rmX4_store s m args below meth c H locs 0 0 Q (F0 m 0 ls []) from hgo _ hP hS
  clear hP hS eH H eL
  intro H hP hS
  refine lv_iconst (v := 0) hx hb dX4_store_0 (by decide) ?_
  refine lv_istore (lv' := [(5, .int 0), (0, .ref p_me), (1, .int a1), (2, .int a2), (3, .long a3)]) hx hb dX4_store_1 hl (by decide) rfl (fun ls hl => ?_)
  refine h (fun (x5_1 : Int32) (me_octets_1 : Nat → Int32) => ∀ (H : Heap) (locs : List Loc), va_P (dC, dI) vwCl [(p_me, .inr (4, [.ref p_me_octets])), (p_me_octets, .inl (kI, 4096, .inl me_octets_1))] H → va_D A [(p_me, .inr (4, [.ref p_me_octets])), (p_me_octets, .inl (kI, 4096, .inl me_octets_1))] → va_S A s.heap H locs → ∀ ls : Array Slot, lv_has ls 6 [(0, .ref p_me), (1, .int a1), (2, .int a2), (3, .long a3), (5, .int x5_1)] → W p l e rmX4_store s m args below meth c H locs 0 0 Q (F0 m 3 ls [])) ?_ H locs hP hD hS ls (lv_sub hl [1, 2, 3, 4, 0] rfl)
  clear h hP hD hS hl
  intro x5_1 me_octets_1 h H locs hP hD hS ls hl
  refine lv_iload hx hb dX4_store_3 (lv_at hl 4 rfl) ?_
  refine lv_iload_n hx hb dX4_store_5 rfl (lv_at hl 2 rfl) ?_
  refine lv_icmp_ge (tgt := 39) hx hb dX4_store_6 (by decide) (fun c_ => ?_) (fun c_ => ?_)
  · have h := h.1 c_
    exact hR me_octets_1 H locs h hP hD hS _ ls dX4_store_39
  · have h := h.2 c_
    refine lv_aload_n hx hb dX4_store_9 rfl (lv_at hl 0 rfl) ?_
    refine lv_iload_n hx hb dX4_store_10 rfl (lv_at hl 1 rfl) ?_
    refine lv_iload hx hb dX4_store_11 (lv_at hl 4 rfl) ?_
    refine lv_iadd hx hb dX4_store_13 ?_
    refine lv_lload_n hx hb dX4_store_14 rfl (lv_at hl 3 rfl) ?_
    refine lv_bipush (v := 8) hx hb dX4_store_15 (by decide) ?_
    refine lv_iload_n hx hb dX4_store_17 rfl (lv_at hl 2 rfl) ?_
    refine lv_iconst (v := 1) hx hb dX4_store_18 (by decide) ?_
    refine lv_isub hx hb dX4_store_19 ?_
    refine lv_iload hx hb dX4_store_20 (lv_at hl 4 rfl) ?_
    refine lv_isub hx hb dX4_store_22 ?_
    refine lv_imul hx hb dX4_store_23 ?_
    refine lv_lushr hx hb dX4_store_24 rfl ?_
    refine lv_l2i hx hb dX4_store_25 rfl ?_
    refine lv_sipush (v := 255) hx hb dX4_store_26 (by decide) ?_
    refine lv_iand hx hb dX4_store_29 ?_
    refine zz_Vv (As := [.int (a1 + x5_1), .int ((Int64.toInt32 ((Int64.toUInt64 a3 >>> ((Int32.toInt64 (8 * ((a2 - 1) - x5_1))).toUInt64 &&& Int64.toUInt64 63)).toInt64)) &&& 255)]) (rest := []) (wr := []) ⟨hx, hb, hml, hown, hts⟩ (cwV 2 hts gX4_store_X4_setOctet rfl rfl rfl (by decide +kernel) ⟨Nat.le_of_ble_eq_true rfl, Nat.le_of_ble_eq_true rfl⟩) hK hP hD hS hA (c_X4_setOctet l dC dI kI kZ H.size p_me p_me_octets me_octets_1 (a1 + x5_1) ((Int64.toInt32 ((Int64.toUInt64 a3 >>> ((Int32.toInt64 (8 * ((a2 - 1) - x5_1))).toUInt64 &&& Int64.toUInt64 63)).toInt64)) &&& 255) _ h) [0, 1] [] rfl rfl rfl rfl (by decide) 0 rfl rfl rfl rfl hl.1 (Nat.le_of_ble_eq_true rfl) dX4_store_30 (Nat.le_refl _) (Nat.le_refl _) (fun me_octets_2 H locs h hP hD hS => ?_)
    have hP : va_P (dC, dI) vwCl [(p_me, .inr (4, [.ref p_me_octets])), (p_me_octets, .inl (kI, 4096, .inl me_octets_2))] H := hP.sub [0, 1] rfl
    have hD : va_D A [(p_me, .inr (4, [.ref p_me_octets])), (p_me_octets, .inl (kI, 4096, .inl me_octets_2))] := hD.sub [0, 1] rfl rfl
    refine lv_iinc (v := (x5_1 + 1)) (lv' := [(5, .int (x5_1 + 1)), (0, .ref p_me), (1, .int a1), (2, .int a2), (3, .long a3)]) hx hb dX4_store_33 hl (k := 4) rfl rfl (by decide) rfl (fun ls hl => ?_)
    refine lv_goto (tgt := 3) hx hb dX4_store_36 (by decide) ?_
    exact h H locs hP hD hS ls (lv_sub hl [1, 2, 3, 4, 0] rfl)
def wp_X5_addLetter (pa_letters : Nat → Int32) (pa_used : Int32) (pa_n : Nat) (a1 : Int32) (K : (Nat → Int32) → Int32 → Prop) : Prop :=
  ((pa_used < 0) → (K pa_letters pa_used)) ∧ ((¬ pa_used < 0) → ((((nI pa_n) ≤ pa_used) → (K pa_letters pa_used)) ∧ ((¬ (nI pa_n) ≤ pa_used) → (vp_in pa_used pa_n ∧ (∀ v_1 : Int32, v_1 = (pa_used + 1) → (K (upd pa_letters (Int32.toNatClampNeg pa_used) a1) v_1))))))
abbrev rmX5_addLetter : Room := { frames := 0, cells := 0, slots := 0, locals := 0 }
set_option maxHeartbeats 4000000 in
set_option maxRecDepth 100000 in
theorem c_X5_addLetter (l : Launch) (dC : Nat → ClassId) (dI : Nat → Nat → Nat) (kI kZ : ClassId) (sz : Nat) (adK : Nat → Nat) (p_pa : Nat) (p_me : Nat) (p_pa_letters : Nat) (pa_octets : Int32) (pa_row : Nat) (pa_up : Int32) (pa_aside : Int32) (pa_letters : Nat → Int32) (pa_used : Int32) (pa_n : Nat) (a1 : Int32) (K : (Nat → Int32) → Int32 → Prop) (h : wp_X5_addLetter pa_letters pa_used pa_n a1 K) : Met l yX5_addLetter wsX5_addLetter rmX5_addLetter (va_Pc [.ref p_pa, .int a1] (zP (dC, dI) (zT kI kZ) sz [(p_pa, .inr (5, [.int pa_octets, .ref p_me, .ref (adK pa_row), .int pa_up, .int pa_aside, .ref p_pa_letters, .int pa_used])), (p_pa_letters, .inl (kI, pa_n, .inl pa_letters))])) (va_Qv (fun (u : (Nat → Int32) × Int32) => K u.1 u.2) (fun (u : (Nat → Int32) × Int32) => zB (dC, dI) (zT kI kZ) (va_A [(p_pa, .inr (5, [.int pa_octets, .ref p_me, .ref (adK pa_row), .int pa_up, .int pa_aside, .ref p_pa_letters, .int pa_used])), (p_pa_letters, .inl (kI, pa_n, .inl pa_letters))] sz) [(p_pa, .inr (5, [.int pa_octets, .ref p_me, .ref (adK pa_row), .int pa_up, .int pa_aside, .ref p_pa_letters, .int u.2])), (p_pa_letters, .inl (kI, pa_n, .inl u.1))]) (va_A [(p_pa, .inr (5, [.int pa_octets, .ref p_me, .ref (adK pa_row), .int pa_up, .int pa_aside, .ref p_pa_letters, .int pa_used])), (p_pa_letters, .inl (kI, pa_n, .inl pa_letters))] sz)) 0 0 (va_A [(p_pa, .inr (5, [.int pa_octets, .ref p_me, .ref (adK pa_row), .int pa_up, .int pa_aside, .ref p_pa_letters, .int pa_used])), (p_pa_letters, .inl (kI, pa_n, .inl pa_letters))] sz) := by
  refine zz_ofv (cc := cX5_addLetter) (maxL := 2) (by decide) rfl (Nat.le_of_ble_eq_true rfl) ?_
  intro p e s m args below meth c A Q ls hx hb hml hown hts hK hA hR hP hD hS hl
  have hown : s.vm.findClass RX5 = some m.cls := hown
  have hl : lv_has ls 2 [(0, .ref p_pa), (1, .int a1)] := hl
  have hi_X5 : ∀ w ∈ wsX50, w ∈ wsX5_addLetter := fun _ h => (List.mem_cons_of_mem _ (List.mem_append_right _ h))
  unfold wp_X5_addLetter at h
  obtain ⟨H, eH⟩ : ∃ H, H = s.heap := ⟨_, rfl⟩
  obtain ⟨locs, eL⟩ : ∃ L : List Loc, L = [] := ⟨_, rfl⟩
  rw [← eL]
  have hS : va_S A s.heap s.heap locs := by rw [eL]; exact hS
  suffices hgo : ∀ H : Heap, va_P (dC, dI) vwCl [(p_pa, .inr (5, [.int pa_octets, .ref p_me, .ref (adK pa_row), .int pa_up, .int pa_aside, .ref p_pa_letters, .int pa_used])), (p_pa_letters, .inl (kI, pa_n, .inl pa_letters))] H → va_S A s.heap H locs → W p l e rmX5_addLetter s m args below meth c H locs 0 0 Q (F0 m 0 ls []) from hgo _ hP hS
  clear hP hS eH H eL
  intro H hP hS
  refine lv_aload_n hx hb dX5_addLetter_0 rfl (lv_at hl 0 rfl) ?_
  refine va_get (D := (dC, dI)) (ci := 5) (v := .int pa_used) (C := RX5) (T := TX5) (N := 7) hx hb hts hi_X5 hown hK hP 0 rfl rfl 6 (by decide) (hts (.fieldLink RX5 37 "ZInput$Packer" "used" "I") (List.mem_cons_of_mem _ (List.mem_append_left _ (List.mem_of_getElem? (i := 0) rfl)))) (fun _ h9 => h9) rfl dX5_addLetter_1 ?_
  refine lv_if_lt (tgt := 39) hx hb dX5_addLetter_4 (by decide) (fun c_ => ?_) (fun c_ => ?_)
  · have h := h.1 c_
    exact hR (pa_letters, pa_used) H locs h hP hD hS _ ls dX5_addLetter_39
  · have h := h.2 c_
    refine lv_aload_n hx hb dX5_addLetter_7 rfl (lv_at hl 0 rfl) ?_
    refine va_get (D := (dC, dI)) (ci := 5) (v := .int pa_used) (C := RX5) (T := TX5) (N := 7) hx hb hts hi_X5 hown hK hP 0 rfl rfl 6 (by decide) (hts (.fieldLink RX5 37 "ZInput$Packer" "used" "I") (List.mem_cons_of_mem _ (List.mem_append_left _ (List.mem_of_getElem? (i := 0) rfl)))) (fun _ h9 => h9) rfl dX5_addLetter_8 ?_
    refine lv_aload_n hx hb dX5_addLetter_11 rfl (lv_at hl 0 rfl) ?_
    refine va_get (D := (dC, dI)) (ci := 5) (v := .ref p_pa_letters) (C := RX5) (T := TX5) (N := 7) hx hb hts hi_X5 hown hK hP 0 rfl rfl 5 (by decide) (hts (.fieldLink RX5 30 "ZInput$Packer" "letters" "[I") (List.mem_cons_of_mem _ (List.mem_append_left _ (List.mem_of_getElem? (i := 1) rfl)))) (fun _ h9 => h9) rfl dX5_addLetter_12 ?_
    refine va_alen (v := (nI pa_n)) hx hb hK hP 1 0 rfl rfl rfl dX5_addLetter_15 ?_
    refine lv_icmp_ge (tgt := 39) hx hb dX5_addLetter_16 (by decide) (fun c_ => ?_) (fun c_ => ?_)
    · have h := h.1 c_
      exact hR (pa_letters, pa_used) H locs h hP hD hS _ ls dX5_addLetter_39
    · have h := h.2 c_
      refine lv_aload_n hx hb dX5_addLetter_19 rfl (lv_at hl 0 rfl) ?_
      refine va_get (D := (dC, dI)) (ci := 5) (v := .ref p_pa_letters) (C := RX5) (T := TX5) (N := 7) hx hb hts hi_X5 hown hK hP 0 rfl rfl 5 (by decide) (hts (.fieldLink RX5 30 "ZInput$Packer" "letters" "[I") (List.mem_cons_of_mem _ (List.mem_append_left _ (List.mem_of_getElem? (i := 1) rfl)))) (fun _ h9 => h9) rfl dX5_addLetter_20 ?_
      refine lv_aload_n hx hb dX5_addLetter_23 rfl (lv_at hl 0 rfl) ?_
      refine va_get (D := (dC, dI)) (ci := 5) (v := .int pa_used) (C := RX5) (T := TX5) (N := 7) hx hb hts hi_X5 hown hK hP 0 rfl rfl 6 (by decide) (hts (.fieldLink RX5 37 "ZInput$Packer" "used" "I") (List.mem_cons_of_mem _ (List.mem_append_left _ (List.mem_of_getElem? (i := 0) rfl)))) (fun _ h9 => h9) rfl dX5_addLetter_24 ?_
      refine lv_iload_n hx hb dX5_addLetter_27 rfl (lv_at hl 1 rfl) ?_
      have hi := h.1
      have h := h.2
      refine va_iast hx hb hK hP hD hS 1 0 rfl rfl hi dX5_addLetter_28 (fun H locs hP hD hS => ?_)
      have hP : va_P (dC, dI) vwCl [(p_pa, .inr (5, [.int pa_octets, .ref p_me, .ref (adK pa_row), .int pa_up, .int pa_aside, .ref p_pa_letters, .int pa_used])), (p_pa_letters, .inl (kI, pa_n, .inl (upd pa_letters (Int32.toNatClampNeg pa_used) a1)))] H := hP
      have hD : va_D A [(p_pa, .inr (5, [.int pa_octets, .ref p_me, .ref (adK pa_row), .int pa_up, .int pa_aside, .ref p_pa_letters, .int pa_used])), (p_pa_letters, .inl (kI, pa_n, .inl (upd pa_letters (Int32.toNatClampNeg pa_used) a1)))] := hD
      refine lv_aload_n hx hb dX5_addLetter_29 rfl (lv_at hl 0 rfl) ?_
      refine lv_dup hx hb dX5_addLetter_30 rfl ?_
      refine va_get (D := (dC, dI)) (ci := 5) (v := .int pa_used) (C := RX5) (T := TX5) (N := 7) hx hb hts hi_X5 hown hK hP 0 rfl rfl 6 (by decide) (hts (.fieldLink RX5 37 "ZInput$Packer" "used" "I") (List.mem_cons_of_mem _ (List.mem_append_left _ (List.mem_of_getElem? (i := 0) rfl)))) (fun _ h9 => h9) rfl dX5_addLetter_31 ?_
      refine lv_iconst (v := 1) hx hb dX5_addLetter_34 (by decide) ?_
      refine lv_iadd hx hb dX5_addLetter_35 ?_
      refine lv_topi (fun v_1 ev_1 => ?_)
      have h := h v_1 ev_1
      refine va_put (D := (dC, dI)) (ci := 5) (v := .int v_1) (ty := .int) (C := RX5) (T := TX5) (N := 7) hx hb hts hi_X5 tyX5 tyX5_ok nmX5 hown hK hP hD hS 0 rfl rfl 6 (by decide) (hts (.fieldLink RX5 37 "ZInput$Packer" "used" "I") (List.mem_cons_of_mem _ (List.mem_append_left _ (List.mem_of_getElem? (i := 0) rfl)))) (fun _ h9 => h9) rfl (by decide +kernel) rfl rfl (Nat.le_of_ble_eq_true rfl) dX5_addLetter_36 (fun H locs hP hD hS => ?_)
      have hP : va_P (dC, dI) vwCl [(p_pa, .inr (5, [.int pa_octets, .ref p_me, .ref (adK pa_row), .int pa_up, .int pa_aside, .ref p_pa_letters, .int v_1])), (p_pa_letters, .inl (kI, pa_n, .inl (upd pa_letters (Int32.toNatClampNeg pa_used) a1)))] H := hP
      have hD : va_D A [(p_pa, .inr (5, [.int pa_octets, .ref p_me, .ref (adK pa_row), .int pa_up, .int pa_aside, .ref p_pa_letters, .int v_1])), (p_pa_letters, .inl (kI, pa_n, .inl (upd pa_letters (Int32.toNatClampNeg pa_used) a1)))] := hD
      exact hR ((upd pa_letters (Int32.toNatClampNeg pa_used) a1), v_1) H locs h hP hD hS _ ls dX5_addLetter_39
def wp_X6_addWord (pr_starts : Nat → Int32) (pr_lengths : Nat → Int32) (pr_words : Int32) (a1 : Int32) (a2 : Int32) (K : (Nat → Int32) → (Nat → Int32) → Int32 → Prop) : Prop :=
  ((0 < a2) → (∀ J42 : (Nat → Int32) → (Nat → Int32) → Prop, (∀ (pr_starts_1 : Nat → Int32) (pr_lengths_1 : Nat → Int32), (∀ v_1 : Int32, v_1 = (pr_words + 1) → (K pr_starts_1 pr_lengths_1 v_1)) → J42 pr_starts_1 pr_lengths_1) → (((pr_words < 0) → (J42 pr_starts pr_lengths)) ∧ ((¬ pr_words < 0) → (((255 ≤ pr_words) → (J42 pr_starts pr_lengths)) ∧ ((¬ 255 ≤ pr_words) → (vp_in pr_words 255 ∧ (vp_in pr_words 255 ∧ (J42 (upd pr_starts (Int32.toNatClampNeg pr_words) a1) (upd pr_lengths (Int32.toNatClampNeg pr_words) a2)))))))))) ∧ ((¬ 0 < a2) → (K pr_starts pr_lengths pr_words))
abbrev rmX6_addWord : Room := { frames := 0, cells := 0, slots := 0, locals := 0 }
set_option maxHeartbeats 4000000 in
set_option maxRecDepth 100000 in
theorem c_X6_addWord (l : Launch) (dC : Nat → ClassId) (dI : Nat → Nat → Nat) (kI kZ : ClassId) (sz : Nat) (p_pr : Nat) (p_me : Nat) (p_pa : Nat) (p_di : Nat) (p_pr_starts : Nat) (p_pr_lengths : Nat) (p_pr_entries : Nat) (pr_counts : Int32) (pr_textFrom : Int32) (pr_textEnd : Int32) (pr_starts : Nat → Int32) (pr_lengths : Nat → Int32) (pr_words : Int32) (a1 : Int32) (a2 : Int32) (K : (Nat → Int32) → (Nat → Int32) → Int32 → Prop) (h : wp_X6_addWord pr_starts pr_lengths pr_words a1 a2 K) : Met l yX6_addWord wsX6_addWord rmX6_addWord (va_Pc [.ref p_pr, .int a1, .int a2] (zP (dC, dI) (zT kI kZ) sz [(p_pr, .inr (6, [.ref p_me, .ref p_pa, .ref p_di, .int pr_counts, .ref p_pr_starts, .ref p_pr_lengths, .ref p_pr_entries, .int pr_words, .int pr_textFrom, .int pr_textEnd])), (p_pr_starts, .inl (kI, 255, .inl pr_starts)), (p_pr_lengths, .inl (kI, 255, .inl pr_lengths))])) (va_Qv (fun (u : (Nat → Int32) × (Nat → Int32) × Int32) => K u.1 u.2.1 u.2.2) (fun (u : (Nat → Int32) × (Nat → Int32) × Int32) => zB (dC, dI) (zT kI kZ) (va_A [(p_pr, .inr (6, [.ref p_me, .ref p_pa, .ref p_di, .int pr_counts, .ref p_pr_starts, .ref p_pr_lengths, .ref p_pr_entries, .int pr_words, .int pr_textFrom, .int pr_textEnd])), (p_pr_starts, .inl (kI, 255, .inl pr_starts)), (p_pr_lengths, .inl (kI, 255, .inl pr_lengths))] sz) [(p_pr, .inr (6, [.ref p_me, .ref p_pa, .ref p_di, .int pr_counts, .ref p_pr_starts, .ref p_pr_lengths, .ref p_pr_entries, .int u.2.2, .int pr_textFrom, .int pr_textEnd])), (p_pr_starts, .inl (kI, 255, .inl u.1)), (p_pr_lengths, .inl (kI, 255, .inl u.2.1))]) (va_A [(p_pr, .inr (6, [.ref p_me, .ref p_pa, .ref p_di, .int pr_counts, .ref p_pr_starts, .ref p_pr_lengths, .ref p_pr_entries, .int pr_words, .int pr_textFrom, .int pr_textEnd])), (p_pr_starts, .inl (kI, 255, .inl pr_starts)), (p_pr_lengths, .inl (kI, 255, .inl pr_lengths))] sz)) 0 0 (va_A [(p_pr, .inr (6, [.ref p_me, .ref p_pa, .ref p_di, .int pr_counts, .ref p_pr_starts, .ref p_pr_lengths, .ref p_pr_entries, .int pr_words, .int pr_textFrom, .int pr_textEnd])), (p_pr_starts, .inl (kI, 255, .inl pr_starts)), (p_pr_lengths, .inl (kI, 255, .inl pr_lengths))] sz) := by
  refine zz_ofv (cc := cX6_addWord) (maxL := 3) (by decide) rfl (Nat.le_of_ble_eq_true rfl) ?_
  intro p e s m args below meth c A Q ls hx hb hml hown hts hK hA hR hP hD hS hl
  have hown : s.vm.findClass RX6 = some m.cls := hown
  have hl : lv_has ls 3 [(0, .ref p_pr), (1, .int a1), (2, .int a2)] := hl
  have hi_X6 : ∀ w ∈ wsX60, w ∈ wsX6_addWord := fun _ h => (List.mem_cons_of_mem _ (List.mem_append_right _ h))
  unfold wp_X6_addWord at h
  obtain ⟨H, eH⟩ : ∃ H, H = s.heap := ⟨_, rfl⟩
  obtain ⟨locs, eL⟩ : ∃ L : List Loc, L = [] := ⟨_, rfl⟩
  rw [← eL]
  have hS : va_S A s.heap s.heap locs := by rw [eL]; exact hS
  suffices hgo : ∀ H : Heap, va_P (dC, dI) vwCl [(p_pr, .inr (6, [.ref p_me, .ref p_pa, .ref p_di, .int pr_counts, .ref p_pr_starts, .ref p_pr_lengths, .ref p_pr_entries, .int pr_words, .int pr_textFrom, .int pr_textEnd])), (p_pr_starts, .inl (kI, 255, .inl pr_starts)), (p_pr_lengths, .inl (kI, 255, .inl pr_lengths))] H → va_S A s.heap H locs → W p l e rmX6_addWord s m args below meth c H locs 0 0 Q (F0 m 0 ls []) from hgo _ hP hS
  clear hP hS eH H eL
  intro H hP hS
  refine lv_iload_n hx hb dX6_addWord_0 rfl (lv_at hl 2 rfl) ?_
  refine lv_if_gt (tgt := 5) hx hb dX6_addWord_1 (by decide) (fun c_ => ?_) (fun c_ => ?_)
  · have h := h.1 c_
    refine lv_aload_n hx hb dX6_addWord_5 rfl (lv_at hl 0 rfl) ?_
    refine va_get (D := (dC, dI)) (ci := 6) (v := .int pr_words) (C := RX6) (T := TX6) (N := 10) hx hb hts hi_X6 hown hK hP 0 rfl rfl 7 (by decide) (hts (.fieldLink RX6 49 "ZInput$Parser" "words" "I") (List.mem_cons_of_mem _ (List.mem_append_left _ (List.mem_of_getElem? (i := 0) rfl)))) (fun _ h9 => h9) rfl dX6_addWord_6 ?_
    have h := h (fun (pr_starts_1 : Nat → Int32) (pr_lengths_1 : Nat → Int32) => ∀ (H : Heap) (locs : List Loc), va_P (dC, dI) vwCl [(p_pr, .inr (6, [.ref p_me, .ref p_pa, .ref p_di, .int pr_counts, .ref p_pr_starts, .ref p_pr_lengths, .ref p_pr_entries, .int pr_words, .int pr_textFrom, .int pr_textEnd])), (p_pr_starts, .inl (kI, 255, .inl pr_starts_1)), (p_pr_lengths, .inl (kI, 255, .inl pr_lengths_1))] H → va_D A [(p_pr, .inr (6, [.ref p_me, .ref p_pa, .ref p_di, .int pr_counts, .ref p_pr_starts, .ref p_pr_lengths, .ref p_pr_entries, .int pr_words, .int pr_textFrom, .int pr_textEnd])), (p_pr_starts, .inl (kI, 255, .inl pr_starts_1)), (p_pr_lengths, .inl (kI, 255, .inl pr_lengths_1))] → va_S A s.heap H locs → ∀ ls : Array Slot, lv_has ls 3 [(0, .ref p_pr)] → W p l e rmX6_addWord s m args below meth c H locs 0 0 Q (F0 m 42 ls [])) (by
      clear h hP hD hS hl
      intro pr_starts_1 pr_lengths_1 h H locs hP hD hS ls hl
      refine lv_aload_n hx hb dX6_addWord_42 rfl (lv_at hl 0 rfl) ?_
      refine lv_dup hx hb dX6_addWord_43 rfl ?_
      refine va_get (D := (dC, dI)) (ci := 6) (v := .int pr_words) (C := RX6) (T := TX6) (N := 10) hx hb hts hi_X6 hown hK hP 0 rfl rfl 7 (by decide) (hts (.fieldLink RX6 49 "ZInput$Parser" "words" "I") (List.mem_cons_of_mem _ (List.mem_append_left _ (List.mem_of_getElem? (i := 0) rfl)))) (fun _ h9 => h9) rfl dX6_addWord_44 ?_
      refine lv_iconst (v := 1) hx hb dX6_addWord_47 (by decide) ?_
      refine lv_iadd hx hb dX6_addWord_48 ?_
      refine lv_topi (fun v_1 ev_1 => ?_)
      have h := h v_1 ev_1
      refine va_put (D := (dC, dI)) (ci := 6) (v := .int v_1) (ty := .int) (C := RX6) (T := TX6) (N := 10) hx hb hts hi_X6 tyX6 tyX6_ok nmX6 hown hK hP hD hS 0 rfl rfl 7 (by decide) (hts (.fieldLink RX6 49 "ZInput$Parser" "words" "I") (List.mem_cons_of_mem _ (List.mem_append_left _ (List.mem_of_getElem? (i := 0) rfl)))) (fun _ h9 => h9) rfl (by decide +kernel) rfl rfl (Nat.le_of_ble_eq_true rfl) dX6_addWord_49 (fun H locs hP hD hS => ?_)
      have hP : va_P (dC, dI) vwCl [(p_pr, .inr (6, [.ref p_me, .ref p_pa, .ref p_di, .int pr_counts, .ref p_pr_starts, .ref p_pr_lengths, .ref p_pr_entries, .int v_1, .int pr_textFrom, .int pr_textEnd])), (p_pr_starts, .inl (kI, 255, .inl pr_starts_1)), (p_pr_lengths, .inl (kI, 255, .inl pr_lengths_1))] H := hP
      have hD : va_D A [(p_pr, .inr (6, [.ref p_me, .ref p_pa, .ref p_di, .int pr_counts, .ref p_pr_starts, .ref p_pr_lengths, .ref p_pr_entries, .int v_1, .int pr_textFrom, .int pr_textEnd])), (p_pr_starts, .inl (kI, 255, .inl pr_starts_1)), (p_pr_lengths, .inl (kI, 255, .inl pr_lengths_1))] := hD
      exact hR (pr_starts_1, pr_lengths_1, v_1) H locs h hP hD hS _ ls dX6_addWord_52)
    refine lv_if_lt (tgt := 42) hx hb dX6_addWord_9 (by decide) (fun c_ => ?_) (fun c_ => ?_)
    · have h := h.1 c_
      exact h H locs hP hD hS ls (lv_sub hl [0] rfl)
    · have h := h.2 c_
      refine lv_aload_n hx hb dX6_addWord_12 rfl (lv_at hl 0 rfl) ?_
      refine va_get (D := (dC, dI)) (ci := 6) (v := .int pr_words) (C := RX6) (T := TX6) (N := 10) hx hb hts hi_X6 hown hK hP 0 rfl rfl 7 (by decide) (hts (.fieldLink RX6 49 "ZInput$Parser" "words" "I") (List.mem_cons_of_mem _ (List.mem_append_left _ (List.mem_of_getElem? (i := 0) rfl)))) (fun _ h9 => h9) rfl dX6_addWord_13 ?_
      refine lv_sipush (v := 255) hx hb dX6_addWord_16 (by decide) ?_
      refine lv_icmp_ge (tgt := 42) hx hb dX6_addWord_19 (by decide) (fun c_ => ?_) (fun c_ => ?_)
      · have h := h.1 c_
        exact h H locs hP hD hS ls (lv_sub hl [0] rfl)
      · have h := h.2 c_
        refine lv_aload_n hx hb dX6_addWord_22 rfl (lv_at hl 0 rfl) ?_
        refine va_get (D := (dC, dI)) (ci := 6) (v := .ref p_pr_starts) (C := RX6) (T := TX6) (N := 10) hx hb hts hi_X6 hown hK hP 0 rfl rfl 4 (by decide) (hts (.fieldLink RX6 11 "ZInput$Parser" "starts" "[I") (List.mem_cons_of_mem _ (List.mem_append_left _ (List.mem_of_getElem? (i := 1) rfl)))) (fun _ h9 => h9) rfl dX6_addWord_23 ?_
        refine lv_aload_n hx hb dX6_addWord_26 rfl (lv_at hl 0 rfl) ?_
        refine va_get (D := (dC, dI)) (ci := 6) (v := .int pr_words) (C := RX6) (T := TX6) (N := 10) hx hb hts hi_X6 hown hK hP 0 rfl rfl 7 (by decide) (hts (.fieldLink RX6 49 "ZInput$Parser" "words" "I") (List.mem_cons_of_mem _ (List.mem_append_left _ (List.mem_of_getElem? (i := 0) rfl)))) (fun _ h9 => h9) rfl dX6_addWord_27 ?_
        refine lv_iload_n hx hb dX6_addWord_30 rfl (lv_at hl 1 rfl) ?_
        have hi := h.1
        have h := h.2
        refine va_iast hx hb hK hP hD hS 1 0 rfl rfl hi dX6_addWord_31 (fun H locs hP hD hS => ?_)
        have hP : va_P (dC, dI) vwCl [(p_pr, .inr (6, [.ref p_me, .ref p_pa, .ref p_di, .int pr_counts, .ref p_pr_starts, .ref p_pr_lengths, .ref p_pr_entries, .int pr_words, .int pr_textFrom, .int pr_textEnd])), (p_pr_starts, .inl (kI, 255, .inl (upd pr_starts (Int32.toNatClampNeg pr_words) a1))), (p_pr_lengths, .inl (kI, 255, .inl pr_lengths))] H := hP
        have hD : va_D A [(p_pr, .inr (6, [.ref p_me, .ref p_pa, .ref p_di, .int pr_counts, .ref p_pr_starts, .ref p_pr_lengths, .ref p_pr_entries, .int pr_words, .int pr_textFrom, .int pr_textEnd])), (p_pr_starts, .inl (kI, 255, .inl (upd pr_starts (Int32.toNatClampNeg pr_words) a1))), (p_pr_lengths, .inl (kI, 255, .inl pr_lengths))] := hD
        refine lv_aload_n hx hb dX6_addWord_32 rfl (lv_at hl 0 rfl) ?_
        refine va_get (D := (dC, dI)) (ci := 6) (v := .ref p_pr_lengths) (C := RX6) (T := TX6) (N := 10) hx hb hts hi_X6 hown hK hP 0 rfl rfl 5 (by decide) (hts (.fieldLink RX6 15 "ZInput$Parser" "lengths" "[I") (List.mem_cons_of_mem _ (List.mem_append_left _ (List.mem_of_getElem? (i := 2) rfl)))) (fun _ h9 => h9) rfl dX6_addWord_33 ?_
        refine lv_aload_n hx hb dX6_addWord_36 rfl (lv_at hl 0 rfl) ?_
        refine va_get (D := (dC, dI)) (ci := 6) (v := .int pr_words) (C := RX6) (T := TX6) (N := 10) hx hb hts hi_X6 hown hK hP 0 rfl rfl 7 (by decide) (hts (.fieldLink RX6 49 "ZInput$Parser" "words" "I") (List.mem_cons_of_mem _ (List.mem_append_left _ (List.mem_of_getElem? (i := 0) rfl)))) (fun _ h9 => h9) rfl dX6_addWord_37 ?_
        refine lv_iload_n hx hb dX6_addWord_40 rfl (lv_at hl 2 rfl) ?_
        have hi := h.1
        have h := h.2
        refine va_iast hx hb hK hP hD hS 2 0 rfl rfl hi dX6_addWord_41 (fun H locs hP hD hS => ?_)
        have hP : va_P (dC, dI) vwCl [(p_pr, .inr (6, [.ref p_me, .ref p_pa, .ref p_di, .int pr_counts, .ref p_pr_starts, .ref p_pr_lengths, .ref p_pr_entries, .int pr_words, .int pr_textFrom, .int pr_textEnd])), (p_pr_starts, .inl (kI, 255, .inl (upd pr_starts (Int32.toNatClampNeg pr_words) a1))), (p_pr_lengths, .inl (kI, 255, .inl (upd pr_lengths (Int32.toNatClampNeg pr_words) a2)))] H := hP
        have hD : va_D A [(p_pr, .inr (6, [.ref p_me, .ref p_pa, .ref p_di, .int pr_counts, .ref p_pr_starts, .ref p_pr_lengths, .ref p_pr_entries, .int pr_words, .int pr_textFrom, .int pr_textEnd])), (p_pr_starts, .inl (kI, 255, .inl (upd pr_starts (Int32.toNatClampNeg pr_words) a1))), (p_pr_lengths, .inl (kI, 255, .inl (upd pr_lengths (Int32.toNatClampNeg pr_words) a2)))] := hD
        exact h H locs hP hD hS ls (lv_sub hl [0] rfl)
  · have h := h.2 c_
    exact hR (pr_starts, pr_lengths, pr_words) H locs h hP hD hS _ ls dX6_addWord_4
def wp_X6_findText (me_octets : Nat → Int32) (pr_counts : Int32) (pr_textFrom : Int32) (pr_textEnd : Int32) (a1 : Int32) (K : Int32 → Int32 → Int32 → Prop) : Prop :=
  ((pr_counts = 0) → (∀ v_1 : Int32, v_1 = (a1 + 1) → (∀ L69 : Int32 → Prop, (∀ (pr_textEnd_1 : Int32), (∀ J106 : Prop, ((((4096 ≤ pr_textEnd_1) → (K 0 v_1 pr_textEnd_1)) ∧ ((¬ 4096 ≤ pr_textEnd_1) → (K 1 v_1 pr_textEnd_1))) → J106) → (((4096 ≤ pr_textEnd_1) → (J106)) ∧ ((¬ 4096 ≤ pr_textEnd_1) → (wp_X4_octet me_octets pr_textEnd_1 (fun (r_1 : Int32) => ((r_1 = 0) → (J106)) ∧ ((¬ r_1 = 0) → (∀ v_2 : Int32, v_2 = (pr_textEnd_1 + 1) → (L69 v_2)))))))) → L69 pr_textEnd_1) → L69 v_1))) ∧ ((¬ pr_counts = 0) → (∀ v_3 : Int32, v_3 = (a1 + 2) → (wp_X4_octet me_octets (a1 + 1) (fun (r_2 : Int32) => ∀ v_4 : Int32, v_4 = (v_3 + r_2) → (wp_X4_holds v_3 (v_4 - v_3) (fun (r_3 : Int32) => (r_3 = 0 ∨ r_3 = 1) ∧ (K r_3 v_3 v_4)))))))
abbrev rmX6_findText : Room := { frames := 1, cells := 0, slots := 0, locals := 22 }
set_option maxHeartbeats 4000000 in
set_option maxRecDepth 100000 in
theorem c_X6_findText (l : Launch) (dC : Nat → ClassId) (dI : Nat → Nat → Nat) (kI kZ : ClassId) (sz : Nat) (p_me : Nat) (p_me_octets : Nat) (p_pr : Nat) (p_pa : Nat) (p_di : Nat) (p_pr_starts : Nat) (p_pr_lengths : Nat) (p_pr_entries : Nat) (pr_words : Int32) (me_octets : Nat → Int32) (pr_counts : Int32) (pr_textFrom : Int32) (pr_textEnd : Int32) (a1 : Int32) (K : Int32 → Int32 → Int32 → Prop) (h : wp_X6_findText me_octets pr_counts pr_textFrom pr_textEnd a1 K) : Met l yX6_findText wsX6_findText rmX6_findText (va_Pc [.ref p_pr, .int a1] (zP (dC, dI) (zT kI kZ) sz [(p_me, .inr (4, [.ref p_me_octets])), (p_me_octets, .inl (kI, 4096, .inl me_octets)), (p_pr, .inr (6, [.ref p_me, .ref p_pa, .ref p_di, .int pr_counts, .ref p_pr_starts, .ref p_pr_lengths, .ref p_pr_entries, .int pr_words, .int pr_textFrom, .int pr_textEnd]))])) (va_Qi (fun (r : Int32) (u : Int32 × Int32) => K r u.1 u.2) (fun (u : Int32 × Int32) => zB (dC, dI) (zT kI kZ) (va_A [(p_me, .inr (4, [.ref p_me_octets])), (p_me_octets, .inl (kI, 4096, .inl me_octets)), (p_pr, .inr (6, [.ref p_me, .ref p_pa, .ref p_di, .int pr_counts, .ref p_pr_starts, .ref p_pr_lengths, .ref p_pr_entries, .int pr_words, .int pr_textFrom, .int pr_textEnd]))] sz) [(p_me, .inr (4, [.ref p_me_octets])), (p_me_octets, .inl (kI, 4096, .inl me_octets)), (p_pr, .inr (6, [.ref p_me, .ref p_pa, .ref p_di, .int pr_counts, .ref p_pr_starts, .ref p_pr_lengths, .ref p_pr_entries, .int pr_words, .int u.1, .int u.2]))]) (va_A [(p_me, .inr (4, [.ref p_me_octets])), (p_me_octets, .inl (kI, 4096, .inl me_octets)), (p_pr, .inr (6, [.ref p_me, .ref p_pa, .ref p_di, .int pr_counts, .ref p_pr_starts, .ref p_pr_lengths, .ref p_pr_entries, .int pr_words, .int pr_textFrom, .int pr_textEnd]))] sz)) 0 0 (va_A [(p_me, .inr (4, [.ref p_me_octets])), (p_me_octets, .inl (kI, 4096, .inl me_octets)), (p_pr, .inr (6, [.ref p_me, .ref p_pa, .ref p_di, .int pr_counts, .ref p_pr_starts, .ref p_pr_lengths, .ref p_pr_entries, .int pr_words, .int pr_textFrom, .int pr_textEnd]))] sz) := by
  refine zz_ofz (cc := cX6_findText) (maxL := 2) (by decide) rfl (Nat.le_of_ble_eq_true rfl) ?_
  intro p e s m args below meth c A Q ls hx hb hml hown hts hK hA hR hP hD hS hl
  have hown : s.vm.findClass RX6 = some m.cls := hown
  have hl : lv_has ls 2 [(0, .ref p_pr), (1, .int a1)] := hl
  have hi_X6 : ∀ w ∈ wsX60, w ∈ wsX6_findText := fun _ h => (List.mem_cons_of_mem _ (List.mem_append_left _ (List.mem_append_right _ h)))
  unfold wp_X6_findText at h
  obtain ⟨H, eH⟩ : ∃ H, H = s.heap := ⟨_, rfl⟩
  obtain ⟨locs, eL⟩ : ∃ L : List Loc, L = [] := ⟨_, rfl⟩
  rw [← eL]
  have hS : va_S A s.heap s.heap locs := by rw [eL]; exact hS
  suffices hgo : ∀ H : Heap, va_P (dC, dI) vwCl [(p_me, .inr (4, [.ref p_me_octets])), (p_me_octets, .inl (kI, 4096, .inl me_octets)), (p_pr, .inr (6, [.ref p_me, .ref p_pa, .ref p_di, .int pr_counts, .ref p_pr_starts, .ref p_pr_lengths, .ref p_pr_entries, .int pr_words, .int pr_textFrom, .int pr_textEnd]))] H → va_S A s.heap H locs → W p l e rmX6_findText s m args below meth c H locs 0 0 Q (F0 m 0 ls []) from hgo _ hP hS
  clear hP hS eH H eL
  intro H hP hS
  refine lv_aload_n hx hb dX6_findText_0 rfl (lv_at hl 0 rfl) ?_
  refine va_get (D := (dC, dI)) (ci := 6) (v := .int pr_counts) (C := RX6) (T := TX6) (N := 10) hx hb hts hi_X6 hown hK hP 2 rfl rfl 3 (by decide) (hts (.fieldLink RX6 33 "ZInput$Parser" "counts" "Z") (List.mem_cons_of_mem _ (List.mem_append_left _ (List.mem_append_left _ (List.mem_of_getElem? (i := 0) rfl))))) (fun _ h9 => h9) rfl dX6_findText_1 ?_
  refine lv_if_eq (tgt := 54) hx hb dX6_findText_4 (by decide) (fun c_ => ?_) (fun c_ => ?_)
  · have h := h.1 c_
    refine lv_aload_n hx hb dX6_findText_54 rfl (lv_at hl 0 rfl) ?_
    refine lv_iload_n hx hb dX6_findText_55 rfl (lv_at hl 1 rfl) ?_
    refine lv_iconst (v := 1) hx hb dX6_findText_56 (by decide) ?_
    refine lv_iadd hx hb dX6_findText_57 ?_
    refine lv_topi (fun v_1 ev_1 => ?_)
    have h := h v_1 ev_1
    refine va_put (D := (dC, dI)) (ci := 6) (v := .int v_1) (ty := .int) (C := RX6) (T := TX6) (N := 10) hx hb hts hi_X6 tyX6 tyX6_ok nmX6 hown hK hP hD hS 2 rfl rfl 8 (by decide) (hts (.fieldLink RX6 87 "ZInput$Parser" "textFrom" "I") (List.mem_cons_of_mem _ (List.mem_append_left _ (List.mem_append_left _ (List.mem_of_getElem? (i := 1) rfl))))) (fun _ h9 => h9) rfl (by decide +kernel) rfl rfl (Nat.le_of_ble_eq_true rfl) dX6_findText_58 (fun H locs hP hD hS => ?_)
    have hP : va_P (dC, dI) vwCl [(p_me, .inr (4, [.ref p_me_octets])), (p_me_octets, .inl (kI, 4096, .inl me_octets)), (p_pr, .inr (6, [.ref p_me, .ref p_pa, .ref p_di, .int pr_counts, .ref p_pr_starts, .ref p_pr_lengths, .ref p_pr_entries, .int pr_words, .int v_1, .int pr_textEnd]))] H := hP
    have hD : va_D A [(p_me, .inr (4, [.ref p_me_octets])), (p_me_octets, .inl (kI, 4096, .inl me_octets)), (p_pr, .inr (6, [.ref p_me, .ref p_pa, .ref p_di, .int pr_counts, .ref p_pr_starts, .ref p_pr_lengths, .ref p_pr_entries, .int pr_words, .int v_1, .int pr_textEnd]))] := hD
    refine lv_aload_n hx hb dX6_findText_61 rfl (lv_at hl 0 rfl) ?_
    refine lv_aload_n hx hb dX6_findText_62 rfl (lv_at hl 0 rfl) ?_
    refine va_get (D := (dC, dI)) (ci := 6) (v := .int v_1) (C := RX6) (T := TX6) (N := 10) hx hb hts hi_X6 hown hK hP 2 rfl rfl 8 (by decide) (hts (.fieldLink RX6 87 "ZInput$Parser" "textFrom" "I") (List.mem_cons_of_mem _ (List.mem_append_left _ (List.mem_append_left _ (List.mem_of_getElem? (i := 1) rfl))))) (fun _ h9 => h9) rfl dX6_findText_63 ?_
    refine va_put (D := (dC, dI)) (ci := 6) (v := .int v_1) (ty := .int) (C := RX6) (T := TX6) (N := 10) hx hb hts hi_X6 tyX6 tyX6_ok nmX6 hown hK hP hD hS 2 rfl rfl 9 (by decide) (hts (.fieldLink RX6 90 "ZInput$Parser" "textEnd" "I") (List.mem_cons_of_mem _ (List.mem_append_left _ (List.mem_append_left _ (List.mem_of_getElem? (i := 3) rfl))))) (fun _ h9 => h9) rfl (by decide +kernel) rfl rfl (Nat.le_of_ble_eq_true rfl) dX6_findText_66 (fun H locs hP hD hS => ?_)
    have hP : va_P (dC, dI) vwCl [(p_me, .inr (4, [.ref p_me_octets])), (p_me_octets, .inl (kI, 4096, .inl me_octets)), (p_pr, .inr (6, [.ref p_me, .ref p_pa, .ref p_di, .int pr_counts, .ref p_pr_starts, .ref p_pr_lengths, .ref p_pr_entries, .int pr_words, .int v_1, .int v_1]))] H := hP
    have hD : va_D A [(p_me, .inr (4, [.ref p_me_octets])), (p_me_octets, .inl (kI, 4096, .inl me_octets)), (p_pr, .inr (6, [.ref p_me, .ref p_pa, .ref p_di, .int pr_counts, .ref p_pr_starts, .ref p_pr_lengths, .ref p_pr_entries, .int pr_words, .int v_1, .int v_1]))] := hD
    refine h (fun (pr_textEnd_1 : Int32) => ∀ (H : Heap) (locs : List Loc), va_P (dC, dI) vwCl [(p_me, .inr (4, [.ref p_me_octets])), (p_me_octets, .inl (kI, 4096, .inl me_octets)), (p_pr, .inr (6, [.ref p_me, .ref p_pa, .ref p_di, .int pr_counts, .ref p_pr_starts, .ref p_pr_lengths, .ref p_pr_entries, .int pr_words, .int v_1, .int pr_textEnd_1]))] H → va_D A [(p_me, .inr (4, [.ref p_me_octets])), (p_me_octets, .inl (kI, 4096, .inl me_octets)), (p_pr, .inr (6, [.ref p_me, .ref p_pa, .ref p_di, .int pr_counts, .ref p_pr_starts, .ref p_pr_lengths, .ref p_pr_entries, .int pr_words, .int v_1, .int pr_textEnd_1]))] → va_S A s.heap H locs → ∀ ls : Array Slot, lv_has ls 2 [(0, .ref p_pr)] → W p l e rmX6_findText s m args below meth c H locs 0 0 Q (F0 m 69 ls [])) ?_ H locs hP hD hS ls (lv_sub hl [0] rfl)
    clear h hP hD hS hl
    intro pr_textEnd_1 h H locs hP hD hS ls hl
    refine lv_aload_n hx hb dX6_findText_69 rfl (lv_at hl 0 rfl) ?_
    refine va_get (D := (dC, dI)) (ci := 6) (v := .int pr_textEnd_1) (C := RX6) (T := TX6) (N := 10) hx hb hts hi_X6 hown hK hP 2 rfl rfl 9 (by decide) (hts (.fieldLink RX6 90 "ZInput$Parser" "textEnd" "I") (List.mem_cons_of_mem _ (List.mem_append_left _ (List.mem_append_left _ (List.mem_of_getElem? (i := 3) rfl))))) (fun _ h9 => h9) rfl dX6_findText_70 ?_
    refine lv_sipush (v := 4096) hx hb dX6_findText_73 (by decide) ?_
    have h := h (∀ (H : Heap) (locs : List Loc), va_P (dC, dI) vwCl [(p_me, .inr (4, [.ref p_me_octets])), (p_me_octets, .inl (kI, 4096, .inl me_octets)), (p_pr, .inr (6, [.ref p_me, .ref p_pa, .ref p_di, .int pr_counts, .ref p_pr_starts, .ref p_pr_lengths, .ref p_pr_entries, .int pr_words, .int v_1, .int pr_textEnd_1]))] H → va_D A [(p_me, .inr (4, [.ref p_me_octets])), (p_me_octets, .inl (kI, 4096, .inl me_octets)), (p_pr, .inr (6, [.ref p_me, .ref p_pa, .ref p_di, .int pr_counts, .ref p_pr_starts, .ref p_pr_lengths, .ref p_pr_entries, .int pr_words, .int v_1, .int pr_textEnd_1]))] → va_S A s.heap H locs → ∀ ls : Array Slot, lv_has ls 2 [(0, .ref p_pr)] → W p l e rmX6_findText s m args below meth c H locs 0 0 Q (F0 m 106 ls [])) (by
      clear h hP hD hS hl
      intro h H locs hP hD hS ls hl
      refine lv_aload_n hx hb dX6_findText_106 rfl (lv_at hl 0 rfl) ?_
      refine va_get (D := (dC, dI)) (ci := 6) (v := .int pr_textEnd_1) (C := RX6) (T := TX6) (N := 10) hx hb hts hi_X6 hown hK hP 2 rfl rfl 9 (by decide) (hts (.fieldLink RX6 90 "ZInput$Parser" "textEnd" "I") (List.mem_cons_of_mem _ (List.mem_append_left _ (List.mem_append_left _ (List.mem_of_getElem? (i := 3) rfl))))) (fun _ h9 => h9) rfl dX6_findText_107 ?_
      refine lv_sipush (v := 4096) hx hb dX6_findText_110 (by decide) ?_
      refine lv_icmp_ge (tgt := 120) hx hb dX6_findText_113 (by decide) (fun c_ => ?_) (fun c_ => ?_)
      · have h := h.1 c_
        refine lv_iconst (v := 0) hx hb dX6_findText_120 (by decide) ?_
        exact hR 0 (v_1, pr_textEnd_1) H locs (Or.inl rfl) h hP hD hS _ ls dX6_findText_121
      · have h := h.2 c_
        refine lv_iconst (v := 1) hx hb dX6_findText_116 (by decide) ?_
        refine lv_goto (tgt := 121) hx hb dX6_findText_117 (by decide) ?_
        exact hR 1 (v_1, pr_textEnd_1) H locs (Or.inr rfl) h hP hD hS _ ls dX6_findText_121)
    refine lv_icmp_ge (tgt := 106) hx hb dX6_findText_76 (by decide) (fun c_ => ?_) (fun c_ => ?_)
    · have h := h.1 c_
      exact h H locs hP hD hS ls (lv_sub hl [0] rfl)
    · have h := h.2 c_
      refine lv_aload_n hx hb dX6_findText_79 rfl (lv_at hl 0 rfl) ?_
      refine va_get (D := (dC, dI)) (ci := 6) (v := .ref p_me) (C := RX6) (T := TX6) (N := 10) hx hb hts hi_X6 hown hK hP 2 rfl rfl 0 (by decide) (hts (.fieldLink RX6 21 "ZInput$Parser" "memory" "LZInput$Memory;") (List.mem_cons_of_mem _ (List.mem_append_left _ (List.mem_append_left _ (List.mem_of_getElem? (i := 2) rfl))))) (fun _ h9 => h9) rfl dX6_findText_80 ?_
      refine lv_aload_n hx hb dX6_findText_83 rfl (lv_at hl 0 rfl) ?_
      refine va_get (D := (dC, dI)) (ci := 6) (v := .int pr_textEnd_1) (C := RX6) (T := TX6) (N := 10) hx hb hts hi_X6 hown hK hP 2 rfl rfl 9 (by decide) (hts (.fieldLink RX6 90 "ZInput$Parser" "textEnd" "I") (List.mem_cons_of_mem _ (List.mem_append_left _ (List.mem_append_left _ (List.mem_of_getElem? (i := 3) rfl))))) (fun _ h9 => h9) rfl dX6_findText_84 ?_
      refine zz_Vi (As := [.int pr_textEnd_1]) (rest := []) (wr := [(p_pr, .inr (6, [.ref p_me, .ref p_pa, .ref p_di, .int pr_counts, .ref p_pr_starts, .ref p_pr_lengths, .ref p_pr_entries, .int pr_words, .int v_1, .int pr_textEnd_1]))]) ⟨hx, hb, hml, hown, hts⟩ (cwV 1 hts gX6_findText_X4_octet rfl rfl rfl (by decide +kernel) ⟨Nat.le_of_ble_eq_true rfl, Nat.le_of_ble_eq_true rfl⟩) hK hP hD hS hA (c_X4_octet l dC dI kI kZ H.size p_me p_me_octets me_octets pr_textEnd_1 _ h) [0, 1] [2] rfl rfl rfl rfl (by decide) 0 rfl rfl rfl rfl hl.1 (Nat.le_of_ble_eq_true rfl) dX6_findText_87 (Nat.le_refl _) (Nat.le_refl _) (fun r_1 u_1 H locs h hP hD hS => ?_)
      have hP : va_P (dC, dI) vwCl [(p_me, .inr (4, [.ref p_me_octets])), (p_me_octets, .inl (kI, 4096, .inl me_octets)), (p_pr, .inr (6, [.ref p_me, .ref p_pa, .ref p_di, .int pr_counts, .ref p_pr_starts, .ref p_pr_lengths, .ref p_pr_entries, .int pr_words, .int v_1, .int pr_textEnd_1]))] H := hP.sub [1, 2, 0] rfl
      have hD : va_D A [(p_me, .inr (4, [.ref p_me_octets])), (p_me_octets, .inl (kI, 4096, .inl me_octets)), (p_pr, .inr (6, [.ref p_me, .ref p_pa, .ref p_di, .int pr_counts, .ref p_pr_starts, .ref p_pr_lengths, .ref p_pr_entries, .int pr_words, .int v_1, .int pr_textEnd_1]))] := hD.sub [1, 2, 0] rfl rfl
      refine lv_if_eq (tgt := 106) hx hb dX6_findText_90 (by decide) (fun c_ => ?_) (fun c_ => ?_)
      · have h := h.1 c_
        exact h H locs hP hD hS ls (lv_sub hl [0] rfl)
      · have h := h.2 c_
        refine lv_aload_n hx hb dX6_findText_93 rfl (lv_at hl 0 rfl) ?_
        refine lv_dup hx hb dX6_findText_94 rfl ?_
        refine va_get (D := (dC, dI)) (ci := 6) (v := .int pr_textEnd_1) (C := RX6) (T := TX6) (N := 10) hx hb hts hi_X6 hown hK hP 2 rfl rfl 9 (by decide) (hts (.fieldLink RX6 90 "ZInput$Parser" "textEnd" "I") (List.mem_cons_of_mem _ (List.mem_append_left _ (List.mem_append_left _ (List.mem_of_getElem? (i := 3) rfl))))) (fun _ h9 => h9) rfl dX6_findText_95 ?_
        refine lv_iconst (v := 1) hx hb dX6_findText_98 (by decide) ?_
        refine lv_iadd hx hb dX6_findText_99 ?_
        refine lv_topi (fun v_2 ev_2 => ?_)
        have h := h v_2 ev_2
        refine va_put (D := (dC, dI)) (ci := 6) (v := .int v_2) (ty := .int) (C := RX6) (T := TX6) (N := 10) hx hb hts hi_X6 tyX6 tyX6_ok nmX6 hown hK hP hD hS 2 rfl rfl 9 (by decide) (hts (.fieldLink RX6 90 "ZInput$Parser" "textEnd" "I") (List.mem_cons_of_mem _ (List.mem_append_left _ (List.mem_append_left _ (List.mem_of_getElem? (i := 3) rfl))))) (fun _ h9 => h9) rfl (by decide +kernel) rfl rfl (Nat.le_of_ble_eq_true rfl) dX6_findText_100 (fun H locs hP hD hS => ?_)
        have hP : va_P (dC, dI) vwCl [(p_me, .inr (4, [.ref p_me_octets])), (p_me_octets, .inl (kI, 4096, .inl me_octets)), (p_pr, .inr (6, [.ref p_me, .ref p_pa, .ref p_di, .int pr_counts, .ref p_pr_starts, .ref p_pr_lengths, .ref p_pr_entries, .int pr_words, .int v_1, .int v_2]))] H := hP
        have hD : va_D A [(p_me, .inr (4, [.ref p_me_octets])), (p_me_octets, .inl (kI, 4096, .inl me_octets)), (p_pr, .inr (6, [.ref p_me, .ref p_pa, .ref p_di, .int pr_counts, .ref p_pr_starts, .ref p_pr_lengths, .ref p_pr_entries, .int pr_words, .int v_1, .int v_2]))] := hD
        refine lv_goto (tgt := 69) hx hb dX6_findText_103 (by decide) ?_
        exact h H locs hP hD hS ls (lv_sub hl [0] rfl)
  · have h := h.2 c_
    refine lv_aload_n hx hb dX6_findText_7 rfl (lv_at hl 0 rfl) ?_
    refine lv_iload_n hx hb dX6_findText_8 rfl (lv_at hl 1 rfl) ?_
    refine lv_iconst (v := 2) hx hb dX6_findText_9 (by decide) ?_
    refine lv_iadd hx hb dX6_findText_10 ?_
    refine lv_topi (fun v_3 ev_3 => ?_)
    have h := h v_3 ev_3
    refine va_put (D := (dC, dI)) (ci := 6) (v := .int v_3) (ty := .int) (C := RX6) (T := TX6) (N := 10) hx hb hts hi_X6 tyX6 tyX6_ok nmX6 hown hK hP hD hS 2 rfl rfl 8 (by decide) (hts (.fieldLink RX6 87 "ZInput$Parser" "textFrom" "I") (List.mem_cons_of_mem _ (List.mem_append_left _ (List.mem_append_left _ (List.mem_of_getElem? (i := 1) rfl))))) (fun _ h9 => h9) rfl (by decide +kernel) rfl rfl (Nat.le_of_ble_eq_true rfl) dX6_findText_11 (fun H locs hP hD hS => ?_)
    have hP : va_P (dC, dI) vwCl [(p_me, .inr (4, [.ref p_me_octets])), (p_me_octets, .inl (kI, 4096, .inl me_octets)), (p_pr, .inr (6, [.ref p_me, .ref p_pa, .ref p_di, .int pr_counts, .ref p_pr_starts, .ref p_pr_lengths, .ref p_pr_entries, .int pr_words, .int v_3, .int pr_textEnd]))] H := hP
    have hD : va_D A [(p_me, .inr (4, [.ref p_me_octets])), (p_me_octets, .inl (kI, 4096, .inl me_octets)), (p_pr, .inr (6, [.ref p_me, .ref p_pa, .ref p_di, .int pr_counts, .ref p_pr_starts, .ref p_pr_lengths, .ref p_pr_entries, .int pr_words, .int v_3, .int pr_textEnd]))] := hD
    refine lv_aload_n hx hb dX6_findText_14 rfl (lv_at hl 0 rfl) ?_
    refine lv_aload_n hx hb dX6_findText_15 rfl (lv_at hl 0 rfl) ?_
    refine va_get (D := (dC, dI)) (ci := 6) (v := .int v_3) (C := RX6) (T := TX6) (N := 10) hx hb hts hi_X6 hown hK hP 2 rfl rfl 8 (by decide) (hts (.fieldLink RX6 87 "ZInput$Parser" "textFrom" "I") (List.mem_cons_of_mem _ (List.mem_append_left _ (List.mem_append_left _ (List.mem_of_getElem? (i := 1) rfl))))) (fun _ h9 => h9) rfl dX6_findText_16 ?_
    refine lv_aload_n hx hb dX6_findText_19 rfl (lv_at hl 0 rfl) ?_
    refine va_get (D := (dC, dI)) (ci := 6) (v := .ref p_me) (C := RX6) (T := TX6) (N := 10) hx hb hts hi_X6 hown hK hP 2 rfl rfl 0 (by decide) (hts (.fieldLink RX6 21 "ZInput$Parser" "memory" "LZInput$Memory;") (List.mem_cons_of_mem _ (List.mem_append_left _ (List.mem_append_left _ (List.mem_of_getElem? (i := 2) rfl))))) (fun _ h9 => h9) rfl dX6_findText_20 ?_
    refine lv_iload_n hx hb dX6_findText_23 rfl (lv_at hl 1 rfl) ?_
    refine lv_iconst (v := 1) hx hb dX6_findText_24 (by decide) ?_
    refine lv_iadd hx hb dX6_findText_25 ?_
    refine zz_Vi (As := [.int (a1 + 1)]) (rest := [.int v_3, .ref p_pr]) (wr := [(p_pr, .inr (6, [.ref p_me, .ref p_pa, .ref p_di, .int pr_counts, .ref p_pr_starts, .ref p_pr_lengths, .ref p_pr_entries, .int pr_words, .int v_3, .int pr_textEnd]))]) ⟨hx, hb, hml, hown, hts⟩ (cwV 1 hts gX6_findText_X4_octet rfl rfl rfl (by decide +kernel) ⟨Nat.le_of_ble_eq_true rfl, Nat.le_of_ble_eq_true rfl⟩) hK hP hD hS hA (c_X4_octet l dC dI kI kZ H.size p_me p_me_octets me_octets (a1 + 1) _ h) [0, 1] [2] rfl rfl rfl rfl (by decide) 0 rfl rfl rfl rfl hl.1 (Nat.le_of_ble_eq_true rfl) dX6_findText_26 (Nat.le_refl _) (Nat.le_refl _) (fun r_2 u_2 H locs h hP hD hS => ?_)
    have hP : va_P (dC, dI) vwCl [(p_me, .inr (4, [.ref p_me_octets])), (p_me_octets, .inl (kI, 4096, .inl me_octets)), (p_pr, .inr (6, [.ref p_me, .ref p_pa, .ref p_di, .int pr_counts, .ref p_pr_starts, .ref p_pr_lengths, .ref p_pr_entries, .int pr_words, .int v_3, .int pr_textEnd]))] H := hP.sub [1, 2, 0] rfl
    have hD : va_D A [(p_me, .inr (4, [.ref p_me_octets])), (p_me_octets, .inl (kI, 4096, .inl me_octets)), (p_pr, .inr (6, [.ref p_me, .ref p_pa, .ref p_di, .int pr_counts, .ref p_pr_starts, .ref p_pr_lengths, .ref p_pr_entries, .int pr_words, .int v_3, .int pr_textEnd]))] := hD.sub [1, 2, 0] rfl rfl
    refine lv_iadd hx hb dX6_findText_29 ?_
    refine lv_topi (fun v_4 ev_4 => ?_)
    have h := h v_4 ev_4
    refine va_put (D := (dC, dI)) (ci := 6) (v := .int v_4) (ty := .int) (C := RX6) (T := TX6) (N := 10) hx hb hts hi_X6 tyX6 tyX6_ok nmX6 hown hK hP hD hS 2 rfl rfl 9 (by decide) (hts (.fieldLink RX6 90 "ZInput$Parser" "textEnd" "I") (List.mem_cons_of_mem _ (List.mem_append_left _ (List.mem_append_left _ (List.mem_of_getElem? (i := 3) rfl))))) (fun _ h9 => h9) rfl (by decide +kernel) rfl rfl (Nat.le_of_ble_eq_true rfl) dX6_findText_30 (fun H locs hP hD hS => ?_)
    have hP : va_P (dC, dI) vwCl [(p_me, .inr (4, [.ref p_me_octets])), (p_me_octets, .inl (kI, 4096, .inl me_octets)), (p_pr, .inr (6, [.ref p_me, .ref p_pa, .ref p_di, .int pr_counts, .ref p_pr_starts, .ref p_pr_lengths, .ref p_pr_entries, .int pr_words, .int v_3, .int v_4]))] H := hP
    have hD : va_D A [(p_me, .inr (4, [.ref p_me_octets])), (p_me_octets, .inl (kI, 4096, .inl me_octets)), (p_pr, .inr (6, [.ref p_me, .ref p_pa, .ref p_di, .int pr_counts, .ref p_pr_starts, .ref p_pr_lengths, .ref p_pr_entries, .int pr_words, .int v_3, .int v_4]))] := hD
    refine lv_aload_n hx hb dX6_findText_33 rfl (lv_at hl 0 rfl) ?_
    refine va_get (D := (dC, dI)) (ci := 6) (v := .ref p_me) (C := RX6) (T := TX6) (N := 10) hx hb hts hi_X6 hown hK hP 2 rfl rfl 0 (by decide) (hts (.fieldLink RX6 21 "ZInput$Parser" "memory" "LZInput$Memory;") (List.mem_cons_of_mem _ (List.mem_append_left _ (List.mem_append_left _ (List.mem_of_getElem? (i := 2) rfl))))) (fun _ h9 => h9) rfl dX6_findText_34 ?_
    refine lv_aload_n hx hb dX6_findText_37 rfl (lv_at hl 0 rfl) ?_
    refine va_get (D := (dC, dI)) (ci := 6) (v := .int v_3) (C := RX6) (T := TX6) (N := 10) hx hb hts hi_X6 hown hK hP 2 rfl rfl 8 (by decide) (hts (.fieldLink RX6 87 "ZInput$Parser" "textFrom" "I") (List.mem_cons_of_mem _ (List.mem_append_left _ (List.mem_append_left _ (List.mem_of_getElem? (i := 1) rfl))))) (fun _ h9 => h9) rfl dX6_findText_38 ?_
    refine lv_aload_n hx hb dX6_findText_41 rfl (lv_at hl 0 rfl) ?_
    refine va_get (D := (dC, dI)) (ci := 6) (v := .int v_4) (C := RX6) (T := TX6) (N := 10) hx hb hts hi_X6 hown hK hP 2 rfl rfl 9 (by decide) (hts (.fieldLink RX6 90 "ZInput$Parser" "textEnd" "I") (List.mem_cons_of_mem _ (List.mem_append_left _ (List.mem_append_left _ (List.mem_of_getElem? (i := 3) rfl))))) (fun _ h9 => h9) rfl dX6_findText_42 ?_
    refine lv_aload_n hx hb dX6_findText_45 rfl (lv_at hl 0 rfl) ?_
    refine va_get (D := (dC, dI)) (ci := 6) (v := .int v_3) (C := RX6) (T := TX6) (N := 10) hx hb hts hi_X6 hown hK hP 2 rfl rfl 8 (by decide) (hts (.fieldLink RX6 87 "ZInput$Parser" "textFrom" "I") (List.mem_cons_of_mem _ (List.mem_append_left _ (List.mem_append_left _ (List.mem_of_getElem? (i := 1) rfl))))) (fun _ h9 => h9) rfl dX6_findText_46 ?_
    refine lv_isub hx hb dX6_findText_49 ?_
    refine zz_Vi (As := [.int v_3, .int (v_4 - v_3)]) (rest := []) (wr := [(p_me_octets, .inl (kI, 4096, .inl me_octets)), (p_pr, .inr (6, [.ref p_me, .ref p_pa, .ref p_di, .int pr_counts, .ref p_pr_starts, .ref p_pr_lengths, .ref p_pr_entries, .int pr_words, .int v_3, .int v_4]))]) ⟨hx, hb, hml, hown, hts⟩ (cwV 2 hts gX6_findText_X4_holds rfl rfl rfl (by decide +kernel) ⟨Nat.le_of_ble_eq_true rfl, Nat.le_of_ble_eq_true rfl⟩) hK hP hD hS hA (c_X4_holds l dC dI kI kZ H.size p_me p_me_octets v_3 (v_4 - v_3) _ h) [0] [1, 2] rfl rfl rfl rfl (by decide) 0 rfl rfl rfl rfl hl.1 (Nat.le_of_ble_eq_true rfl) dX6_findText_50 (Nat.le_refl _) (Nat.le_refl _) (fun r_3 u_3 H locs h hP hD hS => ?_)
    have hP : va_P (dC, dI) vwCl [(p_me, .inr (4, [.ref p_me_octets])), (p_me_octets, .inl (kI, 4096, .inl me_octets)), (p_pr, .inr (6, [.ref p_me, .ref p_pa, .ref p_di, .int pr_counts, .ref p_pr_starts, .ref p_pr_lengths, .ref p_pr_entries, .int pr_words, .int v_3, .int v_4]))] H := hP.sub [2, 0, 1] rfl
    have hD : va_D A [(p_me, .inr (4, [.ref p_me_octets])), (p_me_octets, .inl (kI, 4096, .inl me_octets)), (p_pr, .inr (6, [.ref p_me, .ref p_pa, .ref p_di, .int pr_counts, .ref p_pr_starts, .ref p_pr_lengths, .ref p_pr_entries, .int pr_words, .int v_3, .int v_4]))] := hD.sub [2, 0, 1] rfl rfl
    have hi := h.1
    have h := h.2
    exact hR r_3 (v_3, v_4) H locs hi h hP hD hS _ ls dX6_findText_53
def wp_X6_splitText (me_octets : Nat → Int32) (di_separators : Nat → Int32) (pr_starts : Nat → Int32) (pr_lengths : Nat → Int32) (pr_words : Int32) (pr_textFrom : Int32) (pr_textEnd : Int32) (K : (Nat → Int32) → (Nat → Int32) → Int32 → Prop) : Prop :=
  ∀ L15 : Int32 → Int32 → (Nat → Int32) → (Nat → Int32) → Int32 → Prop, (∀ (x1_1 : Int32) (x2_1 : Int32) (pr_starts_1 : Nat → Int32) (pr_lengths_1 : Nat → Int32) (pr_words_1 : Int32), (((pr_textEnd ≤ x2_1) → (wp_X6_addWord pr_starts_1 pr_lengths_1 pr_words_1 x1_1 (pr_textEnd - x1_1) (fun (pr_starts_2 : Nat → Int32) (pr_lengths_2 : Nat → Int32) (pr_words_2 : Int32) => K pr_starts_2 pr_lengths_2 pr_words_2))) ∧ ((¬ pr_textEnd ≤ x2_1) → (wp_X4_octet me_octets x2_1 (fun (r_1 : Int32) => wp_X1_separates di_separators r_1 (fun (r_2 : Int32) => ∀ J65 : Int32 → (Nat → Int32) → (Nat → Int32) → Int32 → Prop, (∀ (x1_2 : Int32) (pr_starts_3 : Nat → Int32) (pr_lengths_3 : Nat → Int32) (pr_words_3 : Int32), (∀ J76 : (Nat → Int32) → (Nat → Int32) → Int32 → Prop, (∀ (pr_starts_4 : Nat → Int32) (pr_lengths_4 : Nat → Int32) (pr_words_4 : Int32), (L15 x1_2 (x2_1 + 1) pr_starts_4 pr_lengths_4 pr_words_4) → J76 pr_starts_4 pr_lengths_4 pr_words_4) → (((r_2 = 0) → (J76 pr_starts_3 pr_lengths_3 pr_words_3)) ∧ ((¬ r_2 = 0) → (wp_X6_addWord pr_starts_3 pr_lengths_3 pr_words_3 x2_1 1 (fun (pr_starts_5 : Nat → Int32) (pr_lengths_5 : Nat → Int32) (pr_words_5 : Int32) => J76 pr_starts_5 pr_lengths_5 pr_words_5))))) → J65 x1_2 pr_starts_3 pr_lengths_3 pr_words_3) → (∀ J53 : Prop, ((wp_X6_addWord pr_starts_1 pr_lengths_1 pr_words_1 x1_1 (x2_1 - x1_1) (fun (pr_starts_6 : Nat → Int32) (pr_lengths_6 : Nat → Int32) (pr_words_6 : Int32) => ∀ v_1 : Int32, v_1 = (x2_1 + 1) → (J65 v_1 pr_starts_6 pr_lengths_6 pr_words_6))) → J53) → (((¬ r_2 = 0) → (J53)) ∧ ((r_2 = 0) → (((¬ r_1 = 32) → (J65 x1_1 pr_starts_1 pr_lengths_1 pr_words_1)) ∧ ((r_1 = 32) → (J53))))))))))) → L15 x1_1 x2_1 pr_starts_1 pr_lengths_1 pr_words_1) → L15 pr_textFrom pr_textFrom pr_starts pr_lengths 0
abbrev rmX6_splitText : Room := { frames := 1, cells := 0, slots := 0, locals := 22 }
set_option maxHeartbeats 4000000 in
set_option maxRecDepth 100000 in
theorem c_X6_splitText (l : Launch) (dC : Nat → ClassId) (dI : Nat → Nat → Nat) (kI kZ : ClassId) (sz : Nat) (p_me : Nat) (p_me_octets : Nat) (p_di : Nat) (p_di_separators : Nat) (p_pr : Nat) (p_pa : Nat) (p_pr_starts : Nat) (p_pr_lengths : Nat) (p_pr_entries : Nat) (di_wordOctets : Int32) (di_entriesAt : Int32) (di_size : Int32) (di_entries : Int32) (pr_counts : Int32) (me_octets : Nat → Int32) (di_separators : Nat → Int32) (pr_starts : Nat → Int32) (pr_lengths : Nat → Int32) (pr_words : Int32) (pr_textFrom : Int32) (pr_textEnd : Int32) (K : (Nat → Int32) → (Nat → Int32) → Int32 → Prop) (h : wp_X6_splitText me_octets di_separators pr_starts pr_lengths pr_words pr_textFrom pr_textEnd K) : Met l yX6_splitText wsX6_splitText rmX6_splitText (va_Pc [.ref p_pr] (zP (dC, dI) (zT kI kZ) sz [(p_me, .inr (4, [.ref p_me_octets])), (p_me_octets, .inl (kI, 4096, .inl me_octets)), (p_di, .inr (1, [.ref p_me, .int di_wordOctets, .ref p_di_separators, .int di_entriesAt, .int di_size, .int di_entries])), (p_di_separators, .inl (kZ, 256, .inl di_separators)), (p_pr, .inr (6, [.ref p_me, .ref p_pa, .ref p_di, .int pr_counts, .ref p_pr_starts, .ref p_pr_lengths, .ref p_pr_entries, .int pr_words, .int pr_textFrom, .int pr_textEnd])), (p_pr_starts, .inl (kI, 255, .inl pr_starts)), (p_pr_lengths, .inl (kI, 255, .inl pr_lengths))])) (va_Qv (fun (u : (Nat → Int32) × (Nat → Int32) × Int32) => K u.1 u.2.1 u.2.2) (fun (u : (Nat → Int32) × (Nat → Int32) × Int32) => zB (dC, dI) (zT kI kZ) (va_A [(p_me, .inr (4, [.ref p_me_octets])), (p_me_octets, .inl (kI, 4096, .inl me_octets)), (p_di, .inr (1, [.ref p_me, .int di_wordOctets, .ref p_di_separators, .int di_entriesAt, .int di_size, .int di_entries])), (p_di_separators, .inl (kZ, 256, .inl di_separators)), (p_pr, .inr (6, [.ref p_me, .ref p_pa, .ref p_di, .int pr_counts, .ref p_pr_starts, .ref p_pr_lengths, .ref p_pr_entries, .int pr_words, .int pr_textFrom, .int pr_textEnd])), (p_pr_starts, .inl (kI, 255, .inl pr_starts)), (p_pr_lengths, .inl (kI, 255, .inl pr_lengths))] sz) [(p_me, .inr (4, [.ref p_me_octets])), (p_me_octets, .inl (kI, 4096, .inl me_octets)), (p_di, .inr (1, [.ref p_me, .int di_wordOctets, .ref p_di_separators, .int di_entriesAt, .int di_size, .int di_entries])), (p_di_separators, .inl (kZ, 256, .inl di_separators)), (p_pr, .inr (6, [.ref p_me, .ref p_pa, .ref p_di, .int pr_counts, .ref p_pr_starts, .ref p_pr_lengths, .ref p_pr_entries, .int u.2.2, .int pr_textFrom, .int pr_textEnd])), (p_pr_starts, .inl (kI, 255, .inl u.1)), (p_pr_lengths, .inl (kI, 255, .inl u.2.1))]) (va_A [(p_me, .inr (4, [.ref p_me_octets])), (p_me_octets, .inl (kI, 4096, .inl me_octets)), (p_di, .inr (1, [.ref p_me, .int di_wordOctets, .ref p_di_separators, .int di_entriesAt, .int di_size, .int di_entries])), (p_di_separators, .inl (kZ, 256, .inl di_separators)), (p_pr, .inr (6, [.ref p_me, .ref p_pa, .ref p_di, .int pr_counts, .ref p_pr_starts, .ref p_pr_lengths, .ref p_pr_entries, .int pr_words, .int pr_textFrom, .int pr_textEnd])), (p_pr_starts, .inl (kI, 255, .inl pr_starts)), (p_pr_lengths, .inl (kI, 255, .inl pr_lengths))] sz)) 0 0 (va_A [(p_me, .inr (4, [.ref p_me_octets])), (p_me_octets, .inl (kI, 4096, .inl me_octets)), (p_di, .inr (1, [.ref p_me, .int di_wordOctets, .ref p_di_separators, .int di_entriesAt, .int di_size, .int di_entries])), (p_di_separators, .inl (kZ, 256, .inl di_separators)), (p_pr, .inr (6, [.ref p_me, .ref p_pa, .ref p_di, .int pr_counts, .ref p_pr_starts, .ref p_pr_lengths, .ref p_pr_entries, .int pr_words, .int pr_textFrom, .int pr_textEnd])), (p_pr_starts, .inl (kI, 255, .inl pr_starts)), (p_pr_lengths, .inl (kI, 255, .inl pr_lengths))] sz) := by
  refine zz_ofv (cc := cX6_splitText) (maxL := 5) (by decide) rfl (Nat.le_of_ble_eq_true rfl) ?_
  intro p e s m args below meth c A Q ls hx hb hml hown hts hK hA hR hP hD hS hl
  have hown : s.vm.findClass RX6 = some m.cls := hown
  have hl : lv_has ls 5 [(0, .ref p_pr)] := hl
  have hi_X6 : ∀ w ∈ wsX60, w ∈ wsX6_splitText := fun _ h => (List.mem_cons_of_mem _ (List.mem_append_left _ (List.mem_append_left _ (List.mem_append_right _ h))))
  unfold wp_X6_splitText at h
  obtain ⟨H, eH⟩ : ∃ H, H = s.heap := ⟨_, rfl⟩
  obtain ⟨locs, eL⟩ : ∃ L : List Loc, L = [] := ⟨_, rfl⟩
  rw [← eL]
  have hS : va_S A s.heap s.heap locs := by rw [eL]; exact hS
  suffices hgo : ∀ H : Heap, va_P (dC, dI) vwCl [(p_me, .inr (4, [.ref p_me_octets])), (p_me_octets, .inl (kI, 4096, .inl me_octets)), (p_di, .inr (1, [.ref p_me, .int di_wordOctets, .ref p_di_separators, .int di_entriesAt, .int di_size, .int di_entries])), (p_di_separators, .inl (kZ, 256, .inl di_separators)), (p_pr, .inr (6, [.ref p_me, .ref p_pa, .ref p_di, .int pr_counts, .ref p_pr_starts, .ref p_pr_lengths, .ref p_pr_entries, .int pr_words, .int pr_textFrom, .int pr_textEnd])), (p_pr_starts, .inl (kI, 255, .inl pr_starts)), (p_pr_lengths, .inl (kI, 255, .inl pr_lengths))] H → va_S A s.heap H locs → W p l e rmX6_splitText s m args below meth c H locs 0 0 Q (F0 m 0 ls []) from hgo _ hP hS
  clear hP hS eH H eL
  intro H hP hS
  refine lv_aload_n hx hb dX6_splitText_0 rfl (lv_at hl 0 rfl) ?_
  refine lv_iconst (v := 0) hx hb dX6_splitText_1 (by decide) ?_
  refine va_put (D := (dC, dI)) (ci := 6) (v := .int 0) (ty := .int) (C := RX6) (T := TX6) (N := 10) hx hb hts hi_X6 tyX6 tyX6_ok nmX6 hown hK hP hD hS 4 rfl rfl 7 (by decide) (hts (.fieldLink RX6 49 "ZInput$Parser" "words" "I") (List.mem_cons_of_mem _ (List.mem_append_left _ (List.mem_append_left _ (List.mem_append_left _ (List.mem_of_getElem? (i := 0) rfl)))))) (fun _ h9 => h9) rfl (by decide +kernel) rfl rfl (Nat.le_of_ble_eq_true rfl) dX6_splitText_2 (fun H locs hP hD hS => ?_)
  have hP : va_P (dC, dI) vwCl [(p_me, .inr (4, [.ref p_me_octets])), (p_me_octets, .inl (kI, 4096, .inl me_octets)), (p_di, .inr (1, [.ref p_me, .int di_wordOctets, .ref p_di_separators, .int di_entriesAt, .int di_size, .int di_entries])), (p_di_separators, .inl (kZ, 256, .inl di_separators)), (p_pr, .inr (6, [.ref p_me, .ref p_pa, .ref p_di, .int pr_counts, .ref p_pr_starts, .ref p_pr_lengths, .ref p_pr_entries, .int 0, .int pr_textFrom, .int pr_textEnd])), (p_pr_starts, .inl (kI, 255, .inl pr_starts)), (p_pr_lengths, .inl (kI, 255, .inl pr_lengths))] H := hP
  have hD : va_D A [(p_me, .inr (4, [.ref p_me_octets])), (p_me_octets, .inl (kI, 4096, .inl me_octets)), (p_di, .inr (1, [.ref p_me, .int di_wordOctets, .ref p_di_separators, .int di_entriesAt, .int di_size, .int di_entries])), (p_di_separators, .inl (kZ, 256, .inl di_separators)), (p_pr, .inr (6, [.ref p_me, .ref p_pa, .ref p_di, .int pr_counts, .ref p_pr_starts, .ref p_pr_lengths, .ref p_pr_entries, .int 0, .int pr_textFrom, .int pr_textEnd])), (p_pr_starts, .inl (kI, 255, .inl pr_starts)), (p_pr_lengths, .inl (kI, 255, .inl pr_lengths))] := hD
  refine lv_aload_n hx hb dX6_splitText_5 rfl (lv_at hl 0 rfl) ?_
  refine va_get (D := (dC, dI)) (ci := 6) (v := .int pr_textFrom) (C := RX6) (T := TX6) (N := 10) hx hb hts hi_X6 hown hK hP 4 rfl rfl 8 (by decide) (hts (.fieldLink RX6 87 "ZInput$Parser" "textFrom" "I") (List.mem_cons_of_mem _ (List.mem_append_left _ (List.mem_append_left _ (List.mem_append_left _ (List.mem_of_getElem? (i := 1) rfl)))))) (fun _ h9 => h9) rfl dX6_splitText_6 ?_
  refine lv_istore_n (lv' := [(1, .int pr_textFrom), (0, .ref p_pr)]) hx hb dX6_splitText_9 rfl hl (by decide) rfl (fun ls hl => ?_)
  refine lv_aload_n hx hb dX6_splitText_10 rfl (lv_at hl 1 rfl) ?_
  refine va_get (D := (dC, dI)) (ci := 6) (v := .int pr_textFrom) (C := RX6) (T := TX6) (N := 10) hx hb hts hi_X6 hown hK hP 4 rfl rfl 8 (by decide) (hts (.fieldLink RX6 87 "ZInput$Parser" "textFrom" "I") (List.mem_cons_of_mem _ (List.mem_append_left _ (List.mem_append_left _ (List.mem_append_left _ (List.mem_of_getElem? (i := 1) rfl)))))) (fun _ h9 => h9) rfl dX6_splitText_11 ?_
  refine lv_istore_n (lv' := [(2, .int pr_textFrom), (1, .int pr_textFrom), (0, .ref p_pr)]) hx hb dX6_splitText_14 rfl hl (by decide) rfl (fun ls hl => ?_)
  refine h (fun (x1_1 : Int32) (x2_1 : Int32) (pr_starts_1 : Nat → Int32) (pr_lengths_1 : Nat → Int32) (pr_words_1 : Int32) => ∀ (H : Heap) (locs : List Loc), va_P (dC, dI) vwCl [(p_me, .inr (4, [.ref p_me_octets])), (p_me_octets, .inl (kI, 4096, .inl me_octets)), (p_di, .inr (1, [.ref p_me, .int di_wordOctets, .ref p_di_separators, .int di_entriesAt, .int di_size, .int di_entries])), (p_di_separators, .inl (kZ, 256, .inl di_separators)), (p_pr, .inr (6, [.ref p_me, .ref p_pa, .ref p_di, .int pr_counts, .ref p_pr_starts, .ref p_pr_lengths, .ref p_pr_entries, .int pr_words_1, .int pr_textFrom, .int pr_textEnd])), (p_pr_starts, .inl (kI, 255, .inl pr_starts_1)), (p_pr_lengths, .inl (kI, 255, .inl pr_lengths_1))] H → va_D A [(p_me, .inr (4, [.ref p_me_octets])), (p_me_octets, .inl (kI, 4096, .inl me_octets)), (p_di, .inr (1, [.ref p_me, .int di_wordOctets, .ref p_di_separators, .int di_entriesAt, .int di_size, .int di_entries])), (p_di_separators, .inl (kZ, 256, .inl di_separators)), (p_pr, .inr (6, [.ref p_me, .ref p_pa, .ref p_di, .int pr_counts, .ref p_pr_starts, .ref p_pr_lengths, .ref p_pr_entries, .int pr_words_1, .int pr_textFrom, .int pr_textEnd])), (p_pr_starts, .inl (kI, 255, .inl pr_starts_1)), (p_pr_lengths, .inl (kI, 255, .inl pr_lengths_1))] → va_S A s.heap H locs → ∀ ls : Array Slot, lv_has ls 5 [(0, .ref p_pr), (1, .int x1_1), (2, .int x2_1)] → W p l e rmX6_splitText s m args below meth c H locs 0 0 Q (F0 m 15 ls [])) ?_ H locs hP hD hS ls (lv_sub hl [2, 1, 0] rfl)
  clear h hP hD hS hl
  intro x1_1 x2_1 pr_starts_1 pr_lengths_1 pr_words_1 h H locs hP hD hS ls hl
  refine lv_iload_n hx hb dX6_splitText_15 rfl (lv_at hl 2 rfl) ?_
  refine lv_aload_n hx hb dX6_splitText_16 rfl (lv_at hl 0 rfl) ?_
  refine va_get (D := (dC, dI)) (ci := 6) (v := .int pr_textEnd) (C := RX6) (T := TX6) (N := 10) hx hb hts hi_X6 hown hK hP 4 rfl rfl 9 (by decide) (hts (.fieldLink RX6 90 "ZInput$Parser" "textEnd" "I") (List.mem_cons_of_mem _ (List.mem_append_left _ (List.mem_append_left _ (List.mem_append_left _ (List.mem_of_getElem? (i := 2) rfl)))))) (fun _ h9 => h9) rfl dX6_splitText_17 ?_
  refine lv_icmp_ge (tgt := 82) hx hb dX6_splitText_20 (by decide) (fun c_ => ?_) (fun c_ => ?_)
  · have h := h.1 c_
    refine lv_aload_n hx hb dX6_splitText_82 rfl (lv_at hl 0 rfl) ?_
    refine lv_iload_n hx hb dX6_splitText_83 rfl (lv_at hl 1 rfl) ?_
    refine lv_aload_n hx hb dX6_splitText_84 rfl (lv_at hl 0 rfl) ?_
    refine va_get (D := (dC, dI)) (ci := 6) (v := .int pr_textEnd) (C := RX6) (T := TX6) (N := 10) hx hb hts hi_X6 hown hK hP 4 rfl rfl 9 (by decide) (hts (.fieldLink RX6 90 "ZInput$Parser" "textEnd" "I") (List.mem_cons_of_mem _ (List.mem_append_left _ (List.mem_append_left _ (List.mem_append_left _ (List.mem_of_getElem? (i := 2) rfl)))))) (fun _ h9 => h9) rfl dX6_splitText_85 ?_
    refine lv_iload_n hx hb dX6_splitText_88 rfl (lv_at hl 1 rfl) ?_
    refine lv_isub hx hb dX6_splitText_89 ?_
    refine zz_Vv (As := [.int x1_1, .int (pr_textEnd - x1_1)]) (rest := []) (wr := [(p_me, .inr (4, [.ref p_me_octets])), (p_me_octets, .inl (kI, 4096, .inl me_octets)), (p_di, .inr (1, [.ref p_me, .int di_wordOctets, .ref p_di_separators, .int di_entriesAt, .int di_size, .int di_entries])), (p_di_separators, .inl (kZ, 256, .inl di_separators))]) ⟨hx, hb, hml, hown, hts⟩ (cwV 2 hts gX6_splitText_X6_addWord rfl rfl rfl (by decide +kernel) ⟨Nat.le_of_ble_eq_true rfl, Nat.le_of_ble_eq_true rfl⟩) hK hP hD hS hA (c_X6_addWord l dC dI kI kZ H.size p_pr p_me p_pa p_di p_pr_starts p_pr_lengths p_pr_entries pr_counts pr_textFrom pr_textEnd pr_starts_1 pr_lengths_1 pr_words_1 x1_1 (pr_textEnd - x1_1) _ h) [4, 5, 6] [0, 1, 2, 3] rfl rfl rfl rfl (by decide) 0 rfl rfl rfl rfl hl.1 (Nat.le_of_ble_eq_true rfl) dX6_splitText_90 (Nat.le_refl _) (Nat.le_refl _) (fun u_1 H locs h hP hD hS => ?_)
    obtain ⟨pr_starts_2, pr_lengths_2, pr_words_2⟩ := u_1
    have hP : va_P (dC, dI) vwCl [(p_me, .inr (4, [.ref p_me_octets])), (p_me_octets, .inl (kI, 4096, .inl me_octets)), (p_di, .inr (1, [.ref p_me, .int di_wordOctets, .ref p_di_separators, .int di_entriesAt, .int di_size, .int di_entries])), (p_di_separators, .inl (kZ, 256, .inl di_separators)), (p_pr, .inr (6, [.ref p_me, .ref p_pa, .ref p_di, .int pr_counts, .ref p_pr_starts, .ref p_pr_lengths, .ref p_pr_entries, .int pr_words_2, .int pr_textFrom, .int pr_textEnd])), (p_pr_starts, .inl (kI, 255, .inl pr_starts_2)), (p_pr_lengths, .inl (kI, 255, .inl pr_lengths_2))] H := hP.sub [0, 1, 2, 3, 4, 5, 6] rfl
    have hD : va_D A [(p_me, .inr (4, [.ref p_me_octets])), (p_me_octets, .inl (kI, 4096, .inl me_octets)), (p_di, .inr (1, [.ref p_me, .int di_wordOctets, .ref p_di_separators, .int di_entriesAt, .int di_size, .int di_entries])), (p_di_separators, .inl (kZ, 256, .inl di_separators)), (p_pr, .inr (6, [.ref p_me, .ref p_pa, .ref p_di, .int pr_counts, .ref p_pr_starts, .ref p_pr_lengths, .ref p_pr_entries, .int pr_words_2, .int pr_textFrom, .int pr_textEnd])), (p_pr_starts, .inl (kI, 255, .inl pr_starts_2)), (p_pr_lengths, .inl (kI, 255, .inl pr_lengths_2))] := hD.sub [0, 1, 2, 3, 4, 5, 6] rfl rfl
    exact hR (pr_starts_2, pr_lengths_2, pr_words_2) H locs h hP hD hS _ ls dX6_splitText_93
  · have h := h.2 c_
    refine lv_aload_n hx hb dX6_splitText_23 rfl (lv_at hl 0 rfl) ?_
    refine va_get (D := (dC, dI)) (ci := 6) (v := .ref p_me) (C := RX6) (T := TX6) (N := 10) hx hb hts hi_X6 hown hK hP 4 rfl rfl 0 (by decide) (hts (.fieldLink RX6 21 "ZInput$Parser" "memory" "LZInput$Memory;") (List.mem_cons_of_mem _ (List.mem_append_left _ (List.mem_append_left _ (List.mem_append_left _ (List.mem_of_getElem? (i := 3) rfl)))))) (fun _ h9 => h9) rfl dX6_splitText_24 ?_
    refine lv_iload_n hx hb dX6_splitText_27 rfl (lv_at hl 2 rfl) ?_
    refine zz_Vi (As := [.int x2_1]) (rest := []) (wr := [(p_di, .inr (1, [.ref p_me, .int di_wordOctets, .ref p_di_separators, .int di_entriesAt, .int di_size, .int di_entries])), (p_di_separators, .inl (kZ, 256, .inl di_separators)), (p_pr, .inr (6, [.ref p_me, .ref p_pa, .ref p_di, .int pr_counts, .ref p_pr_starts, .ref p_pr_lengths, .ref p_pr_entries, .int pr_words_1, .int pr_textFrom, .int pr_textEnd])), (p_pr_starts, .inl (kI, 255, .inl pr_starts_1)), (p_pr_lengths, .inl (kI, 255, .inl pr_lengths_1))]) ⟨hx, hb, hml, hown, hts⟩ (cwV 1 hts gX6_splitText_X4_octet rfl rfl rfl (by decide +kernel) ⟨Nat.le_of_ble_eq_true rfl, Nat.le_of_ble_eq_true rfl⟩) hK hP hD hS hA (c_X4_octet l dC dI kI kZ H.size p_me p_me_octets me_octets x2_1 _ h) [0, 1] [2, 3, 4, 5, 6] rfl rfl rfl rfl (by decide) 0 rfl rfl rfl rfl hl.1 (Nat.le_of_ble_eq_true rfl) dX6_splitText_28 (Nat.le_refl _) (Nat.le_refl _) (fun r_1 u_2 H locs h hP hD hS => ?_)
    have hP : va_P (dC, dI) vwCl [(p_me, .inr (4, [.ref p_me_octets])), (p_me_octets, .inl (kI, 4096, .inl me_octets)), (p_di, .inr (1, [.ref p_me, .int di_wordOctets, .ref p_di_separators, .int di_entriesAt, .int di_size, .int di_entries])), (p_di_separators, .inl (kZ, 256, .inl di_separators)), (p_pr, .inr (6, [.ref p_me, .ref p_pa, .ref p_di, .int pr_counts, .ref p_pr_starts, .ref p_pr_lengths, .ref p_pr_entries, .int pr_words_1, .int pr_textFrom, .int pr_textEnd])), (p_pr_starts, .inl (kI, 255, .inl pr_starts_1)), (p_pr_lengths, .inl (kI, 255, .inl pr_lengths_1))] H := hP.sub [5, 6, 0, 1, 2, 3, 4] rfl
    have hD : va_D A [(p_me, .inr (4, [.ref p_me_octets])), (p_me_octets, .inl (kI, 4096, .inl me_octets)), (p_di, .inr (1, [.ref p_me, .int di_wordOctets, .ref p_di_separators, .int di_entriesAt, .int di_size, .int di_entries])), (p_di_separators, .inl (kZ, 256, .inl di_separators)), (p_pr, .inr (6, [.ref p_me, .ref p_pa, .ref p_di, .int pr_counts, .ref p_pr_starts, .ref p_pr_lengths, .ref p_pr_entries, .int pr_words_1, .int pr_textFrom, .int pr_textEnd])), (p_pr_starts, .inl (kI, 255, .inl pr_starts_1)), (p_pr_lengths, .inl (kI, 255, .inl pr_lengths_1))] := hD.sub [5, 6, 0, 1, 2, 3, 4] rfl rfl
    refine lv_istore_n (lv' := [(3, .int r_1), (0, .ref p_pr), (1, .int x1_1), (2, .int x2_1)]) hx hb dX6_splitText_31 rfl hl (by decide) rfl (fun ls hl => ?_)
    refine lv_aload_n hx hb dX6_splitText_32 rfl (lv_at hl 1 rfl) ?_
    refine va_get (D := (dC, dI)) (ci := 6) (v := .ref p_di) (C := RX6) (T := TX6) (N := 10) hx hb hts hi_X6 hown hK hP 4 rfl rfl 2 (by decide) (hts (.fieldLink RX6 29 "ZInput$Parser" "dictionary" "LZInput$Dictionary;") (List.mem_cons_of_mem _ (List.mem_append_left _ (List.mem_append_left _ (List.mem_append_left _ (List.mem_of_getElem? (i := 4) rfl)))))) (fun _ h9 => h9) rfl dX6_splitText_33 ?_
    refine lv_iload_n hx hb dX6_splitText_36 rfl (lv_at hl 0 rfl) ?_
    refine zz_Vi (As := [.int r_1]) (rest := []) (wr := [(p_me, .inr (4, [.ref p_me_octets])), (p_me_octets, .inl (kI, 4096, .inl me_octets)), (p_pr, .inr (6, [.ref p_me, .ref p_pa, .ref p_di, .int pr_counts, .ref p_pr_starts, .ref p_pr_lengths, .ref p_pr_entries, .int pr_words_1, .int pr_textFrom, .int pr_textEnd])), (p_pr_starts, .inl (kI, 255, .inl pr_starts_1)), (p_pr_lengths, .inl (kI, 255, .inl pr_lengths_1))]) ⟨hx, hb, hml, hown, hts⟩ (cwV 1 hts gX6_splitText_X1_separates rfl rfl rfl (by decide +kernel) ⟨Nat.le_of_ble_eq_true rfl, Nat.le_of_ble_eq_true rfl⟩) hK hP hD hS hA (c_X1_separates l dC dI kI kZ H.size p_di p_me p_di_separators di_wordOctets di_entriesAt di_size di_entries di_separators r_1 _ h) [2, 3] [0, 1, 4, 5, 6] rfl rfl rfl rfl (by decide) 0 rfl rfl rfl rfl hl.1 (Nat.le_of_ble_eq_true rfl) dX6_splitText_37 (Nat.le_refl _) (Nat.le_refl _) (fun r_2 u_3 H locs h hP hD hS => ?_)
    have hP : va_P (dC, dI) vwCl [(p_me, .inr (4, [.ref p_me_octets])), (p_me_octets, .inl (kI, 4096, .inl me_octets)), (p_di, .inr (1, [.ref p_me, .int di_wordOctets, .ref p_di_separators, .int di_entriesAt, .int di_size, .int di_entries])), (p_di_separators, .inl (kZ, 256, .inl di_separators)), (p_pr, .inr (6, [.ref p_me, .ref p_pa, .ref p_di, .int pr_counts, .ref p_pr_starts, .ref p_pr_lengths, .ref p_pr_entries, .int pr_words_1, .int pr_textFrom, .int pr_textEnd])), (p_pr_starts, .inl (kI, 255, .inl pr_starts_1)), (p_pr_lengths, .inl (kI, 255, .inl pr_lengths_1))] H := hP.sub [0, 1, 5, 6, 2, 3, 4] rfl
    have hD : va_D A [(p_me, .inr (4, [.ref p_me_octets])), (p_me_octets, .inl (kI, 4096, .inl me_octets)), (p_di, .inr (1, [.ref p_me, .int di_wordOctets, .ref p_di_separators, .int di_entriesAt, .int di_size, .int di_entries])), (p_di_separators, .inl (kZ, 256, .inl di_separators)), (p_pr, .inr (6, [.ref p_me, .ref p_pa, .ref p_di, .int pr_counts, .ref p_pr_starts, .ref p_pr_lengths, .ref p_pr_entries, .int pr_words_1, .int pr_textFrom, .int pr_textEnd])), (p_pr_starts, .inl (kI, 255, .inl pr_starts_1)), (p_pr_lengths, .inl (kI, 255, .inl pr_lengths_1))] := hD.sub [0, 1, 5, 6, 2, 3, 4] rfl rfl
    refine lv_istore (lv' := [(4, .int r_2), (3, .int r_1), (0, .ref p_pr), (1, .int x1_1), (2, .int x2_1)]) hx hb dX6_splitText_40 hl (by decide) rfl (fun ls hl => ?_)
    refine lv_iload hx hb dX6_splitText_42 (lv_at hl 0 rfl) ?_
    have h := h (fun (x1_2 : Int32) (pr_starts_3 : Nat → Int32) (pr_lengths_3 : Nat → Int32) (pr_words_3 : Int32) => ∀ (H : Heap) (locs : List Loc), va_P (dC, dI) vwCl [(p_me, .inr (4, [.ref p_me_octets])), (p_me_octets, .inl (kI, 4096, .inl me_octets)), (p_di, .inr (1, [.ref p_me, .int di_wordOctets, .ref p_di_separators, .int di_entriesAt, .int di_size, .int di_entries])), (p_di_separators, .inl (kZ, 256, .inl di_separators)), (p_pr, .inr (6, [.ref p_me, .ref p_pa, .ref p_di, .int pr_counts, .ref p_pr_starts, .ref p_pr_lengths, .ref p_pr_entries, .int pr_words_3, .int pr_textFrom, .int pr_textEnd])), (p_pr_starts, .inl (kI, 255, .inl pr_starts_3)), (p_pr_lengths, .inl (kI, 255, .inl pr_lengths_3))] H → va_D A [(p_me, .inr (4, [.ref p_me_octets])), (p_me_octets, .inl (kI, 4096, .inl me_octets)), (p_di, .inr (1, [.ref p_me, .int di_wordOctets, .ref p_di_separators, .int di_entriesAt, .int di_size, .int di_entries])), (p_di_separators, .inl (kZ, 256, .inl di_separators)), (p_pr, .inr (6, [.ref p_me, .ref p_pa, .ref p_di, .int pr_counts, .ref p_pr_starts, .ref p_pr_lengths, .ref p_pr_entries, .int pr_words_3, .int pr_textFrom, .int pr_textEnd])), (p_pr_starts, .inl (kI, 255, .inl pr_starts_3)), (p_pr_lengths, .inl (kI, 255, .inl pr_lengths_3))] → va_S A s.heap H locs → ∀ ls : Array Slot, lv_has ls 5 [(0, .ref p_pr), (1, .int x1_2), (2, .int x2_1), (4, .int r_2)] → W p l e rmX6_splitText s m args below meth c H locs 0 0 Q (F0 m 65 ls [])) (by
      clear h hP hD hS hl
      intro x1_2 pr_starts_3 pr_lengths_3 pr_words_3 h H locs hP hD hS ls hl
      refine lv_iload hx hb dX6_splitText_65 (lv_at hl 3 rfl) ?_
      have h := h (fun (pr_starts_4 : Nat → Int32) (pr_lengths_4 : Nat → Int32) (pr_words_4 : Int32) => ∀ (H : Heap) (locs : List Loc), va_P (dC, dI) vwCl [(p_me, .inr (4, [.ref p_me_octets])), (p_me_octets, .inl (kI, 4096, .inl me_octets)), (p_di, .inr (1, [.ref p_me, .int di_wordOctets, .ref p_di_separators, .int di_entriesAt, .int di_size, .int di_entries])), (p_di_separators, .inl (kZ, 256, .inl di_separators)), (p_pr, .inr (6, [.ref p_me, .ref p_pa, .ref p_di, .int pr_counts, .ref p_pr_starts, .ref p_pr_lengths, .ref p_pr_entries, .int pr_words_4, .int pr_textFrom, .int pr_textEnd])), (p_pr_starts, .inl (kI, 255, .inl pr_starts_4)), (p_pr_lengths, .inl (kI, 255, .inl pr_lengths_4))] H → va_D A [(p_me, .inr (4, [.ref p_me_octets])), (p_me_octets, .inl (kI, 4096, .inl me_octets)), (p_di, .inr (1, [.ref p_me, .int di_wordOctets, .ref p_di_separators, .int di_entriesAt, .int di_size, .int di_entries])), (p_di_separators, .inl (kZ, 256, .inl di_separators)), (p_pr, .inr (6, [.ref p_me, .ref p_pa, .ref p_di, .int pr_counts, .ref p_pr_starts, .ref p_pr_lengths, .ref p_pr_entries, .int pr_words_4, .int pr_textFrom, .int pr_textEnd])), (p_pr_starts, .inl (kI, 255, .inl pr_starts_4)), (p_pr_lengths, .inl (kI, 255, .inl pr_lengths_4))] → va_S A s.heap H locs → ∀ ls : Array Slot, lv_has ls 5 [(0, .ref p_pr), (1, .int x1_2), (2, .int x2_1)] → W p l e rmX6_splitText s m args below meth c H locs 0 0 Q (F0 m 76 ls [])) (by
        clear h hP hD hS hl
        intro pr_starts_4 pr_lengths_4 pr_words_4 h H locs hP hD hS ls hl
        refine lv_iinc (v := (x2_1 + 1)) (lv' := [(2, .int (x2_1 + 1)), (0, .ref p_pr), (1, .int x1_2)]) hx hb dX6_splitText_76 hl (k := 2) rfl rfl (by decide) rfl (fun ls hl => ?_)
        refine lv_goto (tgt := 15) hx hb dX6_splitText_79 (by decide) ?_
        exact h H locs hP hD hS ls (lv_sub hl [1, 2, 0] rfl))
      refine lv_if_eq (tgt := 76) hx hb dX6_splitText_67 (by decide) (fun c_ => ?_) (fun c_ => ?_)
      · have h := h.1 c_
        exact h H locs hP hD hS ls (lv_sub hl [0, 1, 2] rfl)
      · have h := h.2 c_
        refine lv_aload_n hx hb dX6_splitText_70 rfl (lv_at hl 0 rfl) ?_
        refine lv_iload_n hx hb dX6_splitText_71 rfl (lv_at hl 2 rfl) ?_
        refine lv_iconst (v := 1) hx hb dX6_splitText_72 (by decide) ?_
        refine zz_Vv (As := [.int x2_1, .int 1]) (rest := []) (wr := [(p_me, .inr (4, [.ref p_me_octets])), (p_me_octets, .inl (kI, 4096, .inl me_octets)), (p_di, .inr (1, [.ref p_me, .int di_wordOctets, .ref p_di_separators, .int di_entriesAt, .int di_size, .int di_entries])), (p_di_separators, .inl (kZ, 256, .inl di_separators))]) ⟨hx, hb, hml, hown, hts⟩ (cwV 2 hts gX6_splitText_X6_addWord rfl rfl rfl (by decide +kernel) ⟨Nat.le_of_ble_eq_true rfl, Nat.le_of_ble_eq_true rfl⟩) hK hP hD hS hA (c_X6_addWord l dC dI kI kZ H.size p_pr p_me p_pa p_di p_pr_starts p_pr_lengths p_pr_entries pr_counts pr_textFrom pr_textEnd pr_starts_3 pr_lengths_3 pr_words_3 x2_1 1 _ h) [4, 5, 6] [0, 1, 2, 3] rfl rfl rfl rfl (by decide) 0 rfl rfl rfl rfl hl.1 (Nat.le_of_ble_eq_true rfl) dX6_splitText_73 (Nat.le_refl _) (Nat.le_refl _) (fun u_4 H locs h hP hD hS => ?_)
        obtain ⟨pr_starts_5, pr_lengths_5, pr_words_5⟩ := u_4
        have hP : va_P (dC, dI) vwCl [(p_me, .inr (4, [.ref p_me_octets])), (p_me_octets, .inl (kI, 4096, .inl me_octets)), (p_di, .inr (1, [.ref p_me, .int di_wordOctets, .ref p_di_separators, .int di_entriesAt, .int di_size, .int di_entries])), (p_di_separators, .inl (kZ, 256, .inl di_separators)), (p_pr, .inr (6, [.ref p_me, .ref p_pa, .ref p_di, .int pr_counts, .ref p_pr_starts, .ref p_pr_lengths, .ref p_pr_entries, .int pr_words_5, .int pr_textFrom, .int pr_textEnd])), (p_pr_starts, .inl (kI, 255, .inl pr_starts_5)), (p_pr_lengths, .inl (kI, 255, .inl pr_lengths_5))] H := hP.sub [0, 1, 2, 3, 4, 5, 6] rfl
        have hD : va_D A [(p_me, .inr (4, [.ref p_me_octets])), (p_me_octets, .inl (kI, 4096, .inl me_octets)), (p_di, .inr (1, [.ref p_me, .int di_wordOctets, .ref p_di_separators, .int di_entriesAt, .int di_size, .int di_entries])), (p_di_separators, .inl (kZ, 256, .inl di_separators)), (p_pr, .inr (6, [.ref p_me, .ref p_pa, .ref p_di, .int pr_counts, .ref p_pr_starts, .ref p_pr_lengths, .ref p_pr_entries, .int pr_words_5, .int pr_textFrom, .int pr_textEnd])), (p_pr_starts, .inl (kI, 255, .inl pr_starts_5)), (p_pr_lengths, .inl (kI, 255, .inl pr_lengths_5))] := hD.sub [0, 1, 2, 3, 4, 5, 6] rfl rfl
        exact h H locs hP hD hS ls (lv_sub hl [0, 1, 2] rfl))
    have h := h (∀ (H : Heap) (locs : List Loc), va_P (dC, dI) vwCl [(p_me, .inr (4, [.ref p_me_octets])), (p_me_octets, .inl (kI, 4096, .inl me_octets)), (p_di, .inr (1, [.ref p_me, .int di_wordOctets, .ref p_di_separators, .int di_entriesAt, .int di_size, .int di_entries])), (p_di_separators, .inl (kZ, 256, .inl di_separators)), (p_pr, .inr (6, [.ref p_me, .ref p_pa, .ref p_di, .int pr_counts, .ref p_pr_starts, .ref p_pr_lengths, .ref p_pr_entries, .int pr_words_1, .int pr_textFrom, .int pr_textEnd])), (p_pr_starts, .inl (kI, 255, .inl pr_starts_1)), (p_pr_lengths, .inl (kI, 255, .inl pr_lengths_1))] H → va_D A [(p_me, .inr (4, [.ref p_me_octets])), (p_me_octets, .inl (kI, 4096, .inl me_octets)), (p_di, .inr (1, [.ref p_me, .int di_wordOctets, .ref p_di_separators, .int di_entriesAt, .int di_size, .int di_entries])), (p_di_separators, .inl (kZ, 256, .inl di_separators)), (p_pr, .inr (6, [.ref p_me, .ref p_pa, .ref p_di, .int pr_counts, .ref p_pr_starts, .ref p_pr_lengths, .ref p_pr_entries, .int pr_words_1, .int pr_textFrom, .int pr_textEnd])), (p_pr_starts, .inl (kI, 255, .inl pr_starts_1)), (p_pr_lengths, .inl (kI, 255, .inl pr_lengths_1))] → va_S A s.heap H locs → ∀ ls : Array Slot, lv_has ls 5 [(0, .ref p_pr), (1, .int x1_1), (2, .int x2_1), (4, .int r_2)] → W p l e rmX6_splitText s m args below meth c H locs 0 0 Q (F0 m 53 ls [])) (by
      clear h hP hD hS hl
      intro h H locs hP hD hS ls hl
      refine lv_aload_n hx hb dX6_splitText_53 rfl (lv_at hl 0 rfl) ?_
      refine lv_iload_n hx hb dX6_splitText_54 rfl (lv_at hl 1 rfl) ?_
      refine lv_iload_n hx hb dX6_splitText_55 rfl (lv_at hl 2 rfl) ?_
      refine lv_iload_n hx hb dX6_splitText_56 rfl (lv_at hl 1 rfl) ?_
      refine lv_isub hx hb dX6_splitText_57 ?_
      refine zz_Vv (As := [.int x1_1, .int (x2_1 - x1_1)]) (rest := []) (wr := [(p_me, .inr (4, [.ref p_me_octets])), (p_me_octets, .inl (kI, 4096, .inl me_octets)), (p_di, .inr (1, [.ref p_me, .int di_wordOctets, .ref p_di_separators, .int di_entriesAt, .int di_size, .int di_entries])), (p_di_separators, .inl (kZ, 256, .inl di_separators))]) ⟨hx, hb, hml, hown, hts⟩ (cwV 2 hts gX6_splitText_X6_addWord rfl rfl rfl (by decide +kernel) ⟨Nat.le_of_ble_eq_true rfl, Nat.le_of_ble_eq_true rfl⟩) hK hP hD hS hA (c_X6_addWord l dC dI kI kZ H.size p_pr p_me p_pa p_di p_pr_starts p_pr_lengths p_pr_entries pr_counts pr_textFrom pr_textEnd pr_starts_1 pr_lengths_1 pr_words_1 x1_1 (x2_1 - x1_1) _ h) [4, 5, 6] [0, 1, 2, 3] rfl rfl rfl rfl (by decide) 0 rfl rfl rfl rfl hl.1 (Nat.le_of_ble_eq_true rfl) dX6_splitText_58 (Nat.le_refl _) (Nat.le_refl _) (fun u_5 H locs h hP hD hS => ?_)
      obtain ⟨pr_starts_6, pr_lengths_6, pr_words_6⟩ := u_5
      have hP : va_P (dC, dI) vwCl [(p_me, .inr (4, [.ref p_me_octets])), (p_me_octets, .inl (kI, 4096, .inl me_octets)), (p_di, .inr (1, [.ref p_me, .int di_wordOctets, .ref p_di_separators, .int di_entriesAt, .int di_size, .int di_entries])), (p_di_separators, .inl (kZ, 256, .inl di_separators)), (p_pr, .inr (6, [.ref p_me, .ref p_pa, .ref p_di, .int pr_counts, .ref p_pr_starts, .ref p_pr_lengths, .ref p_pr_entries, .int pr_words_6, .int pr_textFrom, .int pr_textEnd])), (p_pr_starts, .inl (kI, 255, .inl pr_starts_6)), (p_pr_lengths, .inl (kI, 255, .inl pr_lengths_6))] H := hP.sub [0, 1, 2, 3, 4, 5, 6] rfl
      have hD : va_D A [(p_me, .inr (4, [.ref p_me_octets])), (p_me_octets, .inl (kI, 4096, .inl me_octets)), (p_di, .inr (1, [.ref p_me, .int di_wordOctets, .ref p_di_separators, .int di_entriesAt, .int di_size, .int di_entries])), (p_di_separators, .inl (kZ, 256, .inl di_separators)), (p_pr, .inr (6, [.ref p_me, .ref p_pa, .ref p_di, .int pr_counts, .ref p_pr_starts, .ref p_pr_lengths, .ref p_pr_entries, .int pr_words_6, .int pr_textFrom, .int pr_textEnd])), (p_pr_starts, .inl (kI, 255, .inl pr_starts_6)), (p_pr_lengths, .inl (kI, 255, .inl pr_lengths_6))] := hD.sub [0, 1, 2, 3, 4, 5, 6] rfl rfl
      refine lv_iload_n hx hb dX6_splitText_61 rfl (lv_at hl 2 rfl) ?_
      refine lv_iconst (v := 1) hx hb dX6_splitText_62 (by decide) ?_
      refine lv_iadd hx hb dX6_splitText_63 ?_
      refine lv_topi (fun v_1 ev_1 => ?_)
      have h := h v_1 ev_1
      refine lv_istore_n (lv' := [(1, .int v_1), (0, .ref p_pr), (2, .int x2_1), (4, .int r_2)]) hx hb dX6_splitText_64 rfl hl (by decide) rfl (fun ls hl => ?_)
      exact h H locs hP hD hS ls (lv_sub hl [1, 0, 2, 3] rfl))
    refine lv_if_ne (tgt := 53) hx hb dX6_splitText_44 (by decide) (fun c_ => ?_) (fun c_ => ?_)
    · have h := h.1 c_
      exact h H locs hP hD hS ls (lv_sub hl [2, 3, 4, 0] rfl)
    · have h := h.2 c_
      refine lv_iload_n hx hb dX6_splitText_47 rfl (lv_at hl 1 rfl) ?_
      refine lv_bipush (v := 32) hx hb dX6_splitText_48 (by decide) ?_
      refine lv_icmp_ne (tgt := 65) hx hb dX6_splitText_50 (by decide) (fun c_ => ?_) (fun c_ => ?_)
      · have h := h.1 c_
        exact h H locs hP hD hS ls (lv_sub hl [2, 3, 4, 0] rfl)
      · have h := h.2 c_
        exact h H locs hP hD hS ls (lv_sub hl [2, 3, 4, 0] rfl)
