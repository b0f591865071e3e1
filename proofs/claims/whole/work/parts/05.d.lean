def wp_X9_tableHas (z_tableAt : Int32) (me_octets : Nat → Int32) (a1 : Int32) (K : Int32 → Prop) : Prop :=
  ∀ L5 : Int32 → Prop, (∀ (x2_1 : Int32), (((4096 ≤ x2_1) → (K 0)) ∧ ((¬ 4096 ≤ x2_1) → (wp_X4_octet me_octets x2_1 (fun (r_1 : Int32) => ((¬ r_1 = 0) → (((r_1 = a1) → (K 1)) ∧ ((¬ r_1 = a1) → (((¬ r_1 = 255) → (L5 (x2_1 + 1))) ∧ ((r_1 = 255) → (K 1)))))) ∧ ((r_1 = 0) → (K 0)))))) → L5 x2_1) → L5 z_tableAt
abbrev rmX9_tableHas : Room := { frames := 1, cells := 0, slots := 0, locals := 21 }
set_option maxHeartbeats 4000000 in
set_option maxRecDepth 100000 in
theorem c_X9_tableHas (l : Launch) (dC : Nat → ClassId) (dI : Nat → Nat → Nat) (kI kZ : ClassId) (sz : Nat) (p_z : Nat) (p_me : Nat) (p_pa : Nat) (p_di : Nat) (p_pr : Nat) (p_re : Nat) (p_cl : Nat) (p_li : Nat) (p_ec : Nat) (p_sc : Nat) (p_me_octets : Nat) (z_version : Int32) (z_dictionaryAt : Int32) (z_ended : Int32) (z_tableAt : Int32) (me_octets : Nat → Int32) (a1 : Int32) (K : Int32 → Prop) (h : wp_X9_tableHas z_tableAt me_octets a1 K) : Met l yX9_tableHas wsX9_tableHas rmX9_tableHas (va_Pc [.ref p_z, .int a1] (zP (dC, dI) (zT kI kZ) sz [(p_z, .inr (9, [.int z_version, .ref p_me, .ref p_pa, .ref p_di, .ref p_pr, .ref p_re, .ref p_cl, .ref p_li, .ref p_ec, .ref p_sc, .int z_dictionaryAt, .int z_tableAt, .int z_ended])), (p_me, .inr (4, [.ref p_me_octets])), (p_me_octets, .inl (kI, 4096, .inl me_octets))])) (va_Qi (fun (r : Int32) (u : Unit) => K r) (fun (u : Unit) => zB (dC, dI) (zT kI kZ) (va_A [(p_z, .inr (9, [.int z_version, .ref p_me, .ref p_pa, .ref p_di, .ref p_pr, .ref p_re, .ref p_cl, .ref p_li, .ref p_ec, .ref p_sc, .int z_dictionaryAt, .int z_tableAt, .int z_ended])), (p_me, .inr (4, [.ref p_me_octets])), (p_me_octets, .inl (kI, 4096, .inl me_octets))] sz) [(p_z, .inr (9, [.int z_version, .ref p_me, .ref p_pa, .ref p_di, .ref p_pr, .ref p_re, .ref p_cl, .ref p_li, .ref p_ec, .ref p_sc, .int z_dictionaryAt, .int z_tableAt, .int z_ended])), (p_me, .inr (4, [.ref p_me_octets])), (p_me_octets, .inl (kI, 4096, .inl me_octets))]) (va_A [(p_z, .inr (9, [.int z_version, .ref p_me, .ref p_pa, .ref p_di, .ref p_pr, .ref p_re, .ref p_cl, .ref p_li, .ref p_ec, .ref p_sc, .int z_dictionaryAt, .int z_tableAt, .int z_ended])), (p_me, .inr (4, [.ref p_me_octets])), (p_me_octets, .inl (kI, 4096, .inl me_octets))] sz)) 0 0 (va_A [(p_z, .inr (9, [.int z_version, .ref p_me, .ref p_pa, .ref p_di, .ref p_pr, .ref p_re, .ref p_cl, .ref p_li, .ref p_ec, .ref p_sc, .int z_dictionaryAt, .int z_tableAt, .int z_ended])), (p_me, .inr (4, [.ref p_me_octets])), (p_me_octets, .inl (kI, 4096, .inl me_octets))] sz) := by
  refine zz_ofz (cc := cX9_tableHas) (maxL := 4) (by decide) rfl (Nat.le_of_ble_eq_true rfl) ?_
  intro p e s m args below meth c A Q ls hx hb hml hown hts hK hA hR hP hD hS hl
  have hown : s.vm.findClass RX9 = some m.cls := hown
  have hl : lv_has ls 4 [(0, .ref p_z), (1, .int a1)] := hl
  have hi_X9 : ∀ w ∈ wsX90, w ∈ wsX9_tableHas := fun _ h => (List.mem_cons_of_mem _ (List.mem_append_left _ (List.mem_append_right _ h)))
  unfold wp_X9_tableHas at h
  obtain ⟨H, eH⟩ : ∃ H, H = s.heap := ⟨_, rfl⟩
  obtain ⟨locs, eL⟩ : ∃ L : List Loc, L = [] := ⟨_, rfl⟩
  rw [← eL]
  have hS : va_S A s.heap s.heap locs := by rw [eL]; exact hS
  suffices hgo : ∀ H : Heap, va_P (dC, dI) vwCl [(p_z, .inr (9, [.int z_version, .ref p_me, .ref p_pa, .ref p_di, .ref p_pr, .ref p_re, .ref p_cl, .ref p_li, .ref p_ec, .ref p_sc, .int z_dictionaryAt, .int z_tableAt, .int z_ended])), (p_me, .inr (4, [.ref p_me_octets])), (p_me_octets, .inl (kI, 4096, .inl me_octets))] H → va_S A s.heap H locs → W p l e rmX9_tableHas s m args below meth c H locs 0 0 Q (F0 m 0 ls []) from hgo _ hP hS
  clear hP hS eH H eL
  intro H hP hS
  refine lv_aload_n hx hb dX9_tableHas_0 rfl (lv_at hl 0 rfl) ?_
  refine va_get (D := (dC, dI)) (ci := 9) (v := .int z_tableAt) (C := RX9) (T := TX9) (N := 13) hx hb hts hi_X9 hown hK hP 0 rfl rfl 11 (by decide) (hts (.fieldLink RX9 86 "ZInput" "tableAt" "I") (List.mem_cons_of_mem _ (List.mem_append_left _ (List.mem_append_left _ (List.mem_of_getElem? (i := 0) rfl))))) (fun _ h9 => h9) rfl dX9_tableHas_1 ?_
  refine lv_istore_n (lv' := [(2, .int z_tableAt), (0, .ref p_z), (1, .int a1)]) hx hb dX9_tableHas_4 rfl hl (by decide) rfl (fun ls hl => ?_)
  refine h (fun (x2_1 : Int32) => ∀ (H : Heap) (locs : List Loc), va_P (dC, dI) vwCl [(p_z, .inr (9, [.int z_version, .ref p_me, .ref p_pa, .ref p_di, .ref p_pr, .ref p_re, .ref p_cl, .ref p_li, .ref p_ec, .ref p_sc, .int z_dictionaryAt, .int z_tableAt, .int z_ended])), (p_me, .inr (4, [.ref p_me_octets])), (p_me_octets, .inl (kI, 4096, .inl me_octets))] H → va_D A [(p_z, .inr (9, [.int z_version, .ref p_me, .ref p_pa, .ref p_di, .ref p_pr, .ref p_re, .ref p_cl, .ref p_li, .ref p_ec, .ref p_sc, .int z_dictionaryAt, .int z_tableAt, .int z_ended])), (p_me, .inr (4, [.ref p_me_octets])), (p_me_octets, .inl (kI, 4096, .inl me_octets))] → va_S A s.heap H locs → ∀ ls : Array Slot, lv_has ls 4 [(0, .ref p_z), (1, .int a1), (2, .int x2_1)] → W p l e rmX9_tableHas s m args below meth c H locs 0 0 Q (F0 m 5 ls [])) ?_ H locs hP hD hS ls (lv_sub hl [1, 2, 0] rfl)
  clear h hP hD hS hl
  intro x2_1 h H locs hP hD hS ls hl
  refine lv_iload_n hx hb dX9_tableHas_5 rfl (lv_at hl 2 rfl) ?_
  refine lv_sipush (v := 4096) hx hb dX9_tableHas_6 (by decide) ?_
  refine lv_icmp_ge (tgt := 47) hx hb dX9_tableHas_9 (by decide) (fun c_ => ?_) (fun c_ => ?_)
  · have h := h.1 c_
    refine lv_iconst (v := 0) hx hb dX9_tableHas_47 (by decide) ?_
    exact hR 0 () H locs (Or.inl rfl) h hP hD hS _ ls dX9_tableHas_48
  · have h := h.2 c_
    refine lv_aload_n hx hb dX9_tableHas_12 rfl (lv_at hl 0 rfl) ?_
    refine va_get (D := (dC, dI)) (ci := 9) (v := .ref p_me) (C := RX9) (T := TX9) (N := 13) hx hb hts hi_X9 hown hK hP 0 rfl rfl 1 (by decide) (hts (.fieldLink RX9 27 "ZInput" "memory" "LZInput$Memory;") (List.mem_cons_of_mem _ (List.mem_append_left _ (List.mem_append_left _ (List.mem_of_getElem? (i := 1) rfl))))) (fun _ h9 => h9) rfl dX9_tableHas_13 ?_
    refine lv_iload_n hx hb dX9_tableHas_16 rfl (lv_at hl 2 rfl) ?_
    refine zz_Vi (As := [.int x2_1]) (rest := []) (wr := [(p_z, .inr (9, [.int z_version, .ref p_me, .ref p_pa, .ref p_di, .ref p_pr, .ref p_re, .ref p_cl, .ref p_li, .ref p_ec, .ref p_sc, .int z_dictionaryAt, .int z_tableAt, .int z_ended]))]) ⟨hx, hb, hml, hown, hts⟩ (cwV 1 hts gX9_tableHas_X4_octet rfl rfl rfl (by decide +kernel) ⟨Nat.le_of_ble_eq_true rfl, Nat.le_of_ble_eq_true rfl⟩) hK hP hD hS hA (c_X4_octet l dC dI kI kZ H.size p_me p_me_octets me_octets x2_1 _ h) [1, 2] [0] rfl rfl rfl rfl (by decide) 0 rfl rfl rfl rfl hl.1 (Nat.le_of_ble_eq_true rfl) dX9_tableHas_17 (Nat.le_refl _) (Nat.le_refl _) (fun r_1 u_1 H locs h hP hD hS => ?_)
    have hP : va_P (dC, dI) vwCl [(p_z, .inr (9, [.int z_version, .ref p_me, .ref p_pa, .ref p_di, .ref p_pr, .ref p_re, .ref p_cl, .ref p_li, .ref p_ec, .ref p_sc, .int z_dictionaryAt, .int z_tableAt, .int z_ended])), (p_me, .inr (4, [.ref p_me_octets])), (p_me_octets, .inl (kI, 4096, .inl me_octets))] H := hP.sub [0, 1, 2] rfl
    have hD : va_D A [(p_z, .inr (9, [.int z_version, .ref p_me, .ref p_pa, .ref p_di, .ref p_pr, .ref p_re, .ref p_cl, .ref p_li, .ref p_ec, .ref p_sc, .int z_dictionaryAt, .int z_tableAt, .int z_ended])), (p_me, .inr (4, [.ref p_me_octets])), (p_me_octets, .inl (kI, 4096, .inl me_octets))] := hD.sub [0, 1, 2] rfl rfl
    refine lv_istore_n (lv' := [(3, .int r_1), (0, .ref p_z), (1, .int a1), (2, .int x2_1)]) hx hb dX9_tableHas_20 rfl hl (by decide) rfl (fun ls hl => ?_)
    refine lv_iload_n hx hb dX9_tableHas_21 rfl (lv_at hl 0 rfl) ?_
    refine lv_if_ne (tgt := 27) hx hb dX9_tableHas_22 (by decide) (fun c_ => ?_) (fun c_ => ?_)
    · have h := h.1 c_
      refine lv_iload_n hx hb dX9_tableHas_27 rfl (lv_at hl 0 rfl) ?_
      refine lv_iload_n hx hb dX9_tableHas_28 rfl (lv_at hl 2 rfl) ?_
      refine lv_icmp_eq (tgt := 39) hx hb dX9_tableHas_29 (by decide) (fun c_ => ?_) (fun c_ => ?_)
      · have h := h.1 c_
        refine lv_iconst (v := 1) hx hb dX9_tableHas_39 (by decide) ?_
        exact hR 1 () H locs (Or.inr rfl) h hP hD hS _ ls dX9_tableHas_40
      · have h := h.2 c_
        refine lv_iload_n hx hb dX9_tableHas_32 rfl (lv_at hl 0 rfl) ?_
        refine lv_sipush (v := 255) hx hb dX9_tableHas_33 (by decide) ?_
        refine lv_icmp_ne (tgt := 41) hx hb dX9_tableHas_36 (by decide) (fun c_ => ?_) (fun c_ => ?_)
        · have h := h.1 c_
          refine lv_iinc (v := (x2_1 + 1)) (lv' := [(2, .int (x2_1 + 1)), (3, .int r_1), (0, .ref p_z), (1, .int a1)]) hx hb dX9_tableHas_41 hl (k := 3) rfl rfl (by decide) rfl (fun ls hl => ?_)
          refine lv_goto (tgt := 5) hx hb dX9_tableHas_44 (by decide) ?_
          exact h H locs hP hD hS ls (lv_sub hl [2, 3, 0] rfl)
        · have h := h.2 c_
          refine lv_iconst (v := 1) hx hb dX9_tableHas_39 (by decide) ?_
          exact hR 1 () H locs (Or.inr rfl) h hP hD hS _ ls dX9_tableHas_40
    · have h := h.2 c_
      refine lv_iconst (v := 0) hx hb dX9_tableHas_25 (by decide) ?_
      exact hR 0 () H locs (Or.inl rfl) h hP hD hS _ ls dX9_tableHas_26
def wp_X9_isEnding (z_version : Int32) (z_tableAt : Int32) (me_octets : Nat → Int32) (a1 : Int32) (K : Int32 → Prop) : Prop :=
  ((¬ a1 = 13) → (∀ J41 : Int32 → Prop, (∀ (y_1 : Int32), (((y_1 = 0) → (K 0)) ∧ ((¬ y_1 = 0) → (wp_X9_countsCodes z_version (fun (r_1 : Int32) => ((r_1 = 0) → (K 0)) ∧ ((¬ r_1 = 0) → (((z_tableAt = 0) → (K 0)) ∧ ((¬ z_tableAt = 0) → (wp_X9_tableHas z_tableAt me_octets a1 (fun (r_2 : Int32) => ((r_2 = 0) → (K 0)) ∧ ((¬ r_2 = 0) → (K 1))))))))))) → J41 y_1) → (∀ J36 : Prop, ((J41 1) → J36) → (∀ J22 : Prop, ((∀ J40 : Prop, ((J41 0) → J40) → (((a1 < 252) → (J40)) ∧ ((¬ a1 < 252) → (((254 < a1) → (J40)) ∧ ((¬ 254 < a1) → (J36)))))) → J22) → (((a1 < 129) → (J22)) ∧ ((¬ a1 < 129) → (((a1 ≤ 154) → (J36)) ∧ ((¬ a1 ≤ 154) → (J22))))))))) ∧ ((a1 = 13) → (K 1))
abbrev rmX9_isEnding : Room := { frames := 2, cells := 0, slots := 0, locals := 44 }
set_option maxHeartbeats 4000000 in
set_option maxRecDepth 100000 in
theorem c_X9_isEnding (l : Launch) (dC : Nat → ClassId) (dI : Nat → Nat → Nat) (kI kZ : ClassId) (sz : Nat) (p_z : Nat) (p_me : Nat) (p_pa : Nat) (p_di : Nat) (p_pr : Nat) (p_re : Nat) (p_cl : Nat) (p_li : Nat) (p_ec : Nat) (p_sc : Nat) (p_me_octets : Nat) (z_dictionaryAt : Int32) (z_ended : Int32) (z_version : Int32) (z_tableAt : Int32) (me_octets : Nat → Int32) (a1 : Int32) (K : Int32 → Prop) (h : wp_X9_isEnding z_version z_tableAt me_octets a1 K) : Met l yX9_isEnding wsX9_isEnding rmX9_isEnding (va_Pc [.ref p_z, .int a1] (zP (dC, dI) (zT kI kZ) sz [(p_z, .inr (9, [.int z_version, .ref p_me, .ref p_pa, .ref p_di, .ref p_pr, .ref p_re, .ref p_cl, .ref p_li, .ref p_ec, .ref p_sc, .int z_dictionaryAt, .int z_tableAt, .int z_ended])), (p_me, .inr (4, [.ref p_me_octets])), (p_me_octets, .inl (kI, 4096, .inl me_octets))])) (va_Qi (fun (r : Int32) (u : Unit) => K r) (fun (u : Unit) => zB (dC, dI) (zT kI kZ) (va_A [(p_z, .inr (9, [.int z_version, .ref p_me, .ref p_pa, .ref p_di, .ref p_pr, .ref p_re, .ref p_cl, .ref p_li, .ref p_ec, .ref p_sc, .int z_dictionaryAt, .int z_tableAt, .int z_ended])), (p_me, .inr (4, [.ref p_me_octets])), (p_me_octets, .inl (kI, 4096, .inl me_octets))] sz) [(p_z, .inr (9, [.int z_version, .ref p_me, .ref p_pa, .ref p_di, .ref p_pr, .ref p_re, .ref p_cl, .ref p_li, .ref p_ec, .ref p_sc, .int z_dictionaryAt, .int z_tableAt, .int z_ended])), (p_me, .inr (4, [.ref p_me_octets])), (p_me_octets, .inl (kI, 4096, .inl me_octets))]) (va_A [(p_z, .inr (9, [.int z_version, .ref p_me, .ref p_pa, .ref p_di, .ref p_pr, .ref p_re, .ref p_cl, .ref p_li, .ref p_ec, .ref p_sc, .int z_dictionaryAt, .int z_tableAt, .int z_ended])), (p_me, .inr (4, [.ref p_me_octets])), (p_me_octets, .inl (kI, 4096, .inl me_octets))] sz)) 0 0 (va_A [(p_z, .inr (9, [.int z_version, .ref p_me, .ref p_pa, .ref p_di, .ref p_pr, .ref p_re, .ref p_cl, .ref p_li, .ref p_ec, .ref p_sc, .int z_dictionaryAt, .int z_tableAt, .int z_ended])), (p_me, .inr (4, [.ref p_me_octets])), (p_me_octets, .inl (kI, 4096, .inl me_octets))] sz) := by
  refine zz_ofz (cc := cX9_isEnding) (maxL := 3) (by decide) rfl (Nat.le_of_ble_eq_true rfl) ?_
  intro p e s m args below meth c A Q ls hx hb hml hown hts hK hA hR hP hD hS hl
  have hown : s.vm.findClass RX9 = some m.cls := hown
  have hl : lv_has ls 3 [(0, .ref p_z), (1, .int a1)] := hl
  have hi_X9 : ∀ w ∈ wsX90, w ∈ wsX9_isEnding := fun _ h => (List.mem_cons_of_mem _ (List.mem_append_left _ (List.mem_append_right _ h)))
  unfold wp_X9_isEnding at h
  obtain ⟨H, eH⟩ : ∃ H, H = s.heap := ⟨_, rfl⟩
  obtain ⟨locs, eL⟩ : ∃ L : List Loc, L = [] := ⟨_, rfl⟩
  rw [← eL]
  have hS : va_S A s.heap s.heap locs := by rw [eL]; exact hS
  suffices hgo : ∀ H : Heap, va_P (dC, dI) vwCl [(p_z, .inr (9, [.int z_version, .ref p_me, .ref p_pa, .ref p_di, .ref p_pr, .ref p_re, .ref p_cl, .ref p_li, .ref p_ec, .ref p_sc, .int z_dictionaryAt, .int z_tableAt, .int z_ended])), (p_me, .inr (4, [.ref p_me_octets])), (p_me_octets, .inl (kI, 4096, .inl me_octets))] H → va_S A s.heap H locs → W p l e rmX9_isEnding s m args below meth c H locs 0 0 Q (F0 m 0 ls []) from hgo _ hP hS
  clear hP hS eH H eL
  intro H hP hS
  refine lv_iload_n hx hb dX9_isEnding_0 rfl (lv_at hl 1 rfl) ?_
  refine lv_bipush (v := 13) hx hb dX9_isEnding_1 (by decide) ?_
  refine lv_icmp_ne (tgt := 8) hx hb dX9_isEnding_3 (by decide) (fun c_ => ?_) (fun c_ => ?_)
  · have h := h.1 c_
    refine lv_iload_n hx hb dX9_isEnding_8 rfl (lv_at hl 1 rfl) ?_
    refine lv_sipush (v := 129) hx hb dX9_isEnding_9 (by decide) ?_
    have h := h (fun (y_1 : Int32) => ∀ (H : Heap) (locs : List Loc), va_P (dC, dI) vwCl [(p_z, .inr (9, [.int z_version, .ref p_me, .ref p_pa, .ref p_di, .ref p_pr, .ref p_re, .ref p_cl, .ref p_li, .ref p_ec, .ref p_sc, .int z_dictionaryAt, .int z_tableAt, .int z_ended])), (p_me, .inr (4, [.ref p_me_octets])), (p_me_octets, .inl (kI, 4096, .inl me_octets))] H → va_D A [(p_z, .inr (9, [.int z_version, .ref p_me, .ref p_pa, .ref p_di, .ref p_pr, .ref p_re, .ref p_cl, .ref p_li, .ref p_ec, .ref p_sc, .int z_dictionaryAt, .int z_tableAt, .int z_ended])), (p_me, .inr (4, [.ref p_me_octets])), (p_me_octets, .inl (kI, 4096, .inl me_octets))] → va_S A s.heap H locs → ∀ ls : Array Slot, lv_has ls 3 [(0, .ref p_z), (1, .int a1)] → W p l e rmX9_isEnding s m args below meth c H locs 0 0 Q (F0 m 41 ls [.int y_1])) (by
      clear h hP hD hS hl
      intro y_1 h H locs hP hD hS ls hl
      refine lv_istore_n (lv' := [(2, .int y_1), (0, .ref p_z), (1, .int a1)]) hx hb dX9_isEnding_41 rfl hl (by decide) rfl (fun ls hl => ?_)
      refine lv_iload_n hx hb dX9_isEnding_42 rfl (lv_at hl 0 rfl) ?_
      refine lv_if_eq (tgt := 72) hx hb dX9_isEnding_43 (by decide) (fun c_ => ?_) (fun c_ => ?_)
      · have h := h.1 c_
        refine lv_iconst (v := 0) hx hb dX9_isEnding_72 (by decide) ?_
        exact hR 0 () H locs (Or.inl rfl) h hP hD hS _ ls dX9_isEnding_73
      · have h := h.2 c_
        refine lv_aload_n hx hb dX9_isEnding_46 rfl (lv_at hl 1 rfl) ?_
        refine zz_Vi (As := []) (rest := []) (wr := [(p_me, .inr (4, [.ref p_me_octets])), (p_me_octets, .inl (kI, 4096, .inl me_octets))]) ⟨hx, hb, hml, hown, hts⟩ (cwV 0 hts gX9_isEnding_X9_countsCodes rfl rfl rfl (by decide +kernel) ⟨Nat.le_of_ble_eq_true rfl, Nat.le_of_ble_eq_true rfl⟩) hK hP hD hS hA (c_X9_countsCodes l dC dI kI kZ H.size p_z p_me p_pa p_di p_pr p_re p_cl p_li p_ec p_sc z_dictionaryAt z_tableAt z_ended z_version _ h) [0] [1, 2] rfl rfl rfl rfl (by decide) 0 rfl rfl rfl rfl hl.1 (Nat.le_of_ble_eq_true rfl) dX9_isEnding_47 (Nat.le_refl _) (Nat.le_refl _) (fun r_1 u_1 H locs h hP hD hS => ?_)
        have hP : va_P (dC, dI) vwCl [(p_z, .inr (9, [.int z_version, .ref p_me, .ref p_pa, .ref p_di, .ref p_pr, .ref p_re, .ref p_cl, .ref p_li, .ref p_ec, .ref p_sc, .int z_dictionaryAt, .int z_tableAt, .int z_ended])), (p_me, .inr (4, [.ref p_me_octets])), (p_me_octets, .inl (kI, 4096, .inl me_octets))] H := hP.sub [2, 0, 1] rfl
        have hD : va_D A [(p_z, .inr (9, [.int z_version, .ref p_me, .ref p_pa, .ref p_di, .ref p_pr, .ref p_re, .ref p_cl, .ref p_li, .ref p_ec, .ref p_sc, .int z_dictionaryAt, .int z_tableAt, .int z_ended])), (p_me, .inr (4, [.ref p_me_octets])), (p_me_octets, .inl (kI, 4096, .inl me_octets))] := hD.sub [2, 0, 1] rfl rfl
        refine lv_if_eq (tgt := 72) hx hb dX9_isEnding_50 (by decide) (fun c_ => ?_) (fun c_ => ?_)
        · have h := h.1 c_
          refine lv_iconst (v := 0) hx hb dX9_isEnding_72 (by decide) ?_
          exact hR 0 () H locs (Or.inl rfl) h hP hD hS _ ls dX9_isEnding_73
        · have h := h.2 c_
          refine lv_aload_n hx hb dX9_isEnding_53 rfl (lv_at hl 1 rfl) ?_
          refine va_get (D := (dC, dI)) (ci := 9) (v := .int z_tableAt) (C := RX9) (T := TX9) (N := 13) hx hb hts hi_X9 hown hK hP 0 rfl rfl 11 (by decide) (hts (.fieldLink RX9 86 "ZInput" "tableAt" "I") (List.mem_cons_of_mem _ (List.mem_append_left _ (List.mem_append_left _ (List.mem_of_getElem? (i := 0) rfl))))) (fun _ h9 => h9) rfl dX9_isEnding_54 ?_
          refine lv_if_eq (tgt := 72) hx hb dX9_isEnding_57 (by decide) (fun c_ => ?_) (fun c_ => ?_)
          · have h := h.1 c_
            refine lv_iconst (v := 0) hx hb dX9_isEnding_72 (by decide) ?_
            exact hR 0 () H locs (Or.inl rfl) h hP hD hS _ ls dX9_isEnding_73
          · have h := h.2 c_
            refine lv_aload_n hx hb dX9_isEnding_60 rfl (lv_at hl 1 rfl) ?_
            refine lv_iload_n hx hb dX9_isEnding_61 rfl (lv_at hl 2 rfl) ?_
            refine zz_Vi (As := [.int a1]) (rest := []) (wr := []) ⟨hx, hb, hml, hown, hts⟩ (cwV 1 hts gX9_isEnding_X9_tableHas rfl rfl rfl (by decide +kernel) ⟨Nat.le_of_ble_eq_true rfl, Nat.le_of_ble_eq_true rfl⟩) hK hP hD hS hA (c_X9_tableHas l dC dI kI kZ H.size p_z p_me p_pa p_di p_pr p_re p_cl p_li p_ec p_sc p_me_octets z_version z_dictionaryAt z_ended z_tableAt me_octets a1 _ h) [0, 1, 2] [] rfl rfl rfl rfl (by decide) 0 rfl rfl rfl rfl hl.1 (Nat.le_of_ble_eq_true rfl) dX9_isEnding_62 (Nat.le_refl _) (Nat.le_refl _) (fun r_2 u_2 H locs h hP hD hS => ?_)
            have hP : va_P (dC, dI) vwCl [(p_z, .inr (9, [.int z_version, .ref p_me, .ref p_pa, .ref p_di, .ref p_pr, .ref p_re, .ref p_cl, .ref p_li, .ref p_ec, .ref p_sc, .int z_dictionaryAt, .int z_tableAt, .int z_ended])), (p_me, .inr (4, [.ref p_me_octets])), (p_me_octets, .inl (kI, 4096, .inl me_octets))] H := hP.sub [0, 1, 2] rfl
            have hD : va_D A [(p_z, .inr (9, [.int z_version, .ref p_me, .ref p_pa, .ref p_di, .ref p_pr, .ref p_re, .ref p_cl, .ref p_li, .ref p_ec, .ref p_sc, .int z_dictionaryAt, .int z_tableAt, .int z_ended])), (p_me, .inr (4, [.ref p_me_octets])), (p_me_octets, .inl (kI, 4096, .inl me_octets))] := hD.sub [0, 1, 2] rfl rfl
            refine lv_if_eq (tgt := 72) hx hb dX9_isEnding_65 (by decide) (fun c_ => ?_) (fun c_ => ?_)
            · have h := h.1 c_
              refine lv_iconst (v := 0) hx hb dX9_isEnding_72 (by decide) ?_
              exact hR 0 () H locs (Or.inl rfl) h hP hD hS _ ls dX9_isEnding_73
            · have h := h.2 c_
              refine lv_iconst (v := 1) hx hb dX9_isEnding_68 (by decide) ?_
              refine lv_goto (tgt := 73) hx hb dX9_isEnding_69 (by decide) ?_
              exact hR 1 () H locs (Or.inr rfl) h hP hD hS _ ls dX9_isEnding_73)
    have h := h (∀ (H : Heap) (locs : List Loc), va_P (dC, dI) vwCl [(p_z, .inr (9, [.int z_version, .ref p_me, .ref p_pa, .ref p_di, .ref p_pr, .ref p_re, .ref p_cl, .ref p_li, .ref p_ec, .ref p_sc, .int z_dictionaryAt, .int z_tableAt, .int z_ended])), (p_me, .inr (4, [.ref p_me_octets])), (p_me_octets, .inl (kI, 4096, .inl me_octets))] H → va_D A [(p_z, .inr (9, [.int z_version, .ref p_me, .ref p_pa, .ref p_di, .ref p_pr, .ref p_re, .ref p_cl, .ref p_li, .ref p_ec, .ref p_sc, .int z_dictionaryAt, .int z_tableAt, .int z_ended])), (p_me, .inr (4, [.ref p_me_octets])), (p_me_octets, .inl (kI, 4096, .inl me_octets))] → va_S A s.heap H locs → ∀ ls : Array Slot, lv_has ls 3 [(0, .ref p_z), (1, .int a1)] → W p l e rmX9_isEnding s m args below meth c H locs 0 0 Q (F0 m 36 ls [])) (by
      clear h hP hD hS hl
      intro h H locs hP hD hS ls hl
      refine lv_iconst (v := 1) hx hb dX9_isEnding_36 (by decide) ?_
      refine lv_goto (tgt := 41) hx hb dX9_isEnding_37 (by decide) ?_
      exact h H locs hP hD hS ls (lv_sub hl [0, 1] rfl))
    have h := h (∀ (H : Heap) (locs : List Loc), va_P (dC, dI) vwCl [(p_z, .inr (9, [.int z_version, .ref p_me, .ref p_pa, .ref p_di, .ref p_pr, .ref p_re, .ref p_cl, .ref p_li, .ref p_ec, .ref p_sc, .int z_dictionaryAt, .int z_tableAt, .int z_ended])), (p_me, .inr (4, [.ref p_me_octets])), (p_me_octets, .inl (kI, 4096, .inl me_octets))] H → va_D A [(p_z, .inr (9, [.int z_version, .ref p_me, .ref p_pa, .ref p_di, .ref p_pr, .ref p_re, .ref p_cl, .ref p_li, .ref p_ec, .ref p_sc, .int z_dictionaryAt, .int z_tableAt, .int z_ended])), (p_me, .inr (4, [.ref p_me_octets])), (p_me_octets, .inl (kI, 4096, .inl me_octets))] → va_S A s.heap H locs → ∀ ls : Array Slot, lv_has ls 3 [(0, .ref p_z), (1, .int a1)] → W p l e rmX9_isEnding s m args below meth c H locs 0 0 Q (F0 m 22 ls [])) (by
      clear h hP hD hS hl
      intro h H locs hP hD hS ls hl
      refine lv_iload_n hx hb dX9_isEnding_22 rfl (lv_at hl 1 rfl) ?_
      refine lv_sipush (v := 252) hx hb dX9_isEnding_23 (by decide) ?_
      have h := h (∀ (H : Heap) (locs : List Loc), va_P (dC, dI) vwCl [(p_z, .inr (9, [.int z_version, .ref p_me, .ref p_pa, .ref p_di, .ref p_pr, .ref p_re, .ref p_cl, .ref p_li, .ref p_ec, .ref p_sc, .int z_dictionaryAt, .int z_tableAt, .int z_ended])), (p_me, .inr (4, [.ref p_me_octets])), (p_me_octets, .inl (kI, 4096, .inl me_octets))] H → va_D A [(p_z, .inr (9, [.int z_version, .ref p_me, .ref p_pa, .ref p_di, .ref p_pr, .ref p_re, .ref p_cl, .ref p_li, .ref p_ec, .ref p_sc, .int z_dictionaryAt, .int z_tableAt, .int z_ended])), (p_me, .inr (4, [.ref p_me_octets])), (p_me_octets, .inl (kI, 4096, .inl me_octets))] → va_S A s.heap H locs → ∀ ls : Array Slot, lv_has ls 3 [(0, .ref p_z), (1, .int a1)] → W p l e rmX9_isEnding s m args below meth c H locs 0 0 Q (F0 m 40 ls [])) (by
        clear h hP hD hS hl
        intro h H locs hP hD hS ls hl
        refine lv_iconst (v := 0) hx hb dX9_isEnding_40 (by decide) ?_
        exact h H locs hP hD hS ls (lv_sub hl [0, 1] rfl))
      refine lv_icmp_lt (tgt := 40) hx hb dX9_isEnding_26 (by decide) (fun c_ => ?_) (fun c_ => ?_)
      · have h := h.1 c_
        exact h H locs hP hD hS ls (lv_sub hl [0, 1] rfl)
      · have h := h.2 c_
        refine lv_iload_n hx hb dX9_isEnding_29 rfl (lv_at hl 1 rfl) ?_
        refine lv_sipush (v := 254) hx hb dX9_isEnding_30 (by decide) ?_
        refine lv_icmp_gt (tgt := 40) hx hb dX9_isEnding_33 (by decide) (fun c_ => ?_) (fun c_ => ?_)
        · have h := h.1 c_
          exact h H locs hP hD hS ls (lv_sub hl [0, 1] rfl)
        · have h := h.2 c_
          exact h H locs hP hD hS ls (lv_sub hl [0, 1] rfl))
    refine lv_icmp_lt (tgt := 22) hx hb dX9_isEnding_12 (by decide) (fun c_ => ?_) (fun c_ => ?_)
    · have h := h.1 c_
      exact h H locs hP hD hS ls (lv_sub hl [0, 1] rfl)
    · have h := h.2 c_
      refine lv_iload_n hx hb dX9_isEnding_15 rfl (lv_at hl 1 rfl) ?_
      refine lv_sipush (v := 154) hx hb dX9_isEnding_16 (by decide) ?_
      refine lv_icmp_le (tgt := 36) hx hb dX9_isEnding_19 (by decide) (fun c_ => ?_) (fun c_ => ?_)
      · have h := h.1 c_
        exact h H locs hP hD hS ls (lv_sub hl [0, 1] rfl)
      · have h := h.2 c_
        exact h H locs hP hD hS ls (lv_sub hl [0, 1] rfl)
  · have h := h.2 c_
    refine lv_iconst (v := 1) hx hb dX9_isEnding_6 (by decide) ?_
    exact hR 1 () H locs (Or.inr rfl) h hP hD hS _ ls dX9_isEnding_7
def wp_X9_isTypable (a0 : Int32) (K : Int32 → Prop) : Prop :=
  ∀ J12 : Prop, ((((a0 < 155) → (K 0)) ∧ ((¬ a0 < 155) → (((251 < a0) → (K 0)) ∧ ((¬ 251 < a0) → (K 1))))) → J12) → (((a0 < 32) → (J12)) ∧ ((¬ a0 < 32) → (((a0 ≤ 126) → (K 1)) ∧ ((¬ a0 ≤ 126) → (J12)))))
abbrev rmX9_isTypable : Room := { frames := 0, cells := 0, slots := 0, locals := 0 }
set_option maxHeartbeats 4000000 in
set_option maxRecDepth 100000 in
theorem c_X9_isTypable (l : Launch) (dC : Nat → ClassId) (dI : Nat → Nat → Nat) (kI kZ : ClassId) (sz : Nat) (a0 : Int32) (K : Int32 → Prop) (h : wp_X9_isTypable a0 K) : Met l yX9_isTypable wsX9_isTypable rmX9_isTypable (va_Pc [.int a0] (zP (dC, dI) (zT kI kZ) sz [])) (va_Qi (fun (r : Int32) (u : Unit) => K r) (fun (u : Unit) => zB (dC, dI) (zT kI kZ) (va_A [] sz) []) (va_A [] sz)) 0 0 (va_A [] sz) := by
  refine zz_ofz (cc := cX9_isTypable) (maxL := 1) (by decide) rfl (Nat.le_of_ble_eq_true rfl) ?_
  intro p e s m args below meth c A Q ls hx hb hml hown hts hK hA hR hP hD hS hl
  have hown : s.vm.findClass RX9 = some m.cls := hown
  have hl : lv_has ls 1 [(0, .int a0)] := hl
  unfold wp_X9_isTypable at h
  obtain ⟨H, eH⟩ : ∃ H, H = s.heap := ⟨_, rfl⟩
  obtain ⟨locs, eL⟩ : ∃ L : List Loc, L = [] := ⟨_, rfl⟩
  rw [← eL]
  have hS : va_S A s.heap s.heap locs := by rw [eL]; exact hS
  suffices hgo : ∀ H : Heap, va_P (dC, dI) vwCl [] H → va_S A s.heap H locs → W p l e rmX9_isTypable s m args below meth c H locs 0 0 Q (F0 m 0 ls []) from hgo _ hP hS
  clear hP hS eH H eL
  intro H hP hS
  refine lv_iload_n hx hb dX9_isTypable_0 rfl (lv_at hl 0 rfl) ?_
  refine lv_bipush (v := 32) hx hb dX9_isTypable_1 (by decide) ?_
  have h := h (∀ (H : Heap) (locs : List Loc), va_P (dC, dI) vwCl [] H → va_D A [] → va_S A s.heap H locs → ∀ ls : Array Slot, lv_has ls 1 [(0, .int a0)] → W p l e rmX9_isTypable s m args below meth c H locs 0 0 Q (F0 m 12 ls [])) (by
    clear h hP hD hS hl
    intro h H locs hP hD hS ls hl
    refine lv_iload_n hx hb dX9_isTypable_12 rfl (lv_at hl 0 rfl) ?_
    refine lv_sipush (v := 155) hx hb dX9_isTypable_13 (by decide) ?_
    refine lv_icmp_lt (tgt := 30) hx hb dX9_isTypable_16 (by decide) (fun c_ => ?_) (fun c_ => ?_)
    · have h := h.1 c_
      refine lv_iconst (v := 0) hx hb dX9_isTypable_30 (by decide) ?_
      exact hR 0 () H locs (Or.inl rfl) h hP hD hS _ ls dX9_isTypable_31
    · have h := h.2 c_
      refine lv_iload_n hx hb dX9_isTypable_19 rfl (lv_at hl 0 rfl) ?_
      refine lv_sipush (v := 251) hx hb dX9_isTypable_20 (by decide) ?_
      refine lv_icmp_gt (tgt := 30) hx hb dX9_isTypable_23 (by decide) (fun c_ => ?_) (fun c_ => ?_)
      · have h := h.1 c_
        refine lv_iconst (v := 0) hx hb dX9_isTypable_30 (by decide) ?_
        exact hR 0 () H locs (Or.inl rfl) h hP hD hS _ ls dX9_isTypable_31
      · have h := h.2 c_
        refine lv_iconst (v := 1) hx hb dX9_isTypable_26 (by decide) ?_
        refine lv_goto (tgt := 31) hx hb dX9_isTypable_27 (by decide) ?_
        exact hR 1 () H locs (Or.inr rfl) h hP hD hS _ ls dX9_isTypable_31)
  refine lv_icmp_lt (tgt := 12) hx hb dX9_isTypable_3 (by decide) (fun c_ => ?_) (fun c_ => ?_)
  · have h := h.1 c_
    exact h H locs hP hD hS ls (lv_sub hl [0] rfl)
  · have h := h.2 c_
    refine lv_iload_n hx hb dX9_isTypable_6 rfl (lv_at hl 0 rfl) ?_
    refine lv_bipush (v := 126) hx hb dX9_isTypable_7 (by decide) ?_
    refine lv_icmp_le (tgt := 26) hx hb dX9_isTypable_9 (by decide) (fun c_ => ?_) (fun c_ => ?_)
    · have h := h.1 c_
      refine lv_iconst (v := 1) hx hb dX9_isTypable_26 (by decide) ?_
      refine lv_goto (tgt := 31) hx hb dX9_isTypable_27 (by decide) ?_
      exact hR 1 () H locs (Or.inr rfl) h hP hD hS _ ls dX9_isTypable_31
    · have h := h.2 c_
      exact h H locs hP hD hS ls (lv_sub hl [0] rfl)
def wp_X9_kept (li_count : Int32) (li_latest : Int32) (li_lengths : Nat → Int32) (li_codes : Nat → Int32) (a1 : Int32) (a2 : Int32) (K : Int32 → Prop) : Prop :=
  ((a2 < 0) → (K (-2))) ∧ ((¬ a2 < 0) → (wp_X3_length li_count li_latest li_lengths a1 (fun (r_1 : Int32) => ((r_1 ≤ a2) → (K (-2))) ∧ ((¬ r_1 ≤ a2) → (wp_X3_code li_count li_latest li_lengths li_codes a1 a2 (fun (r_2 : Int32) => K r_2))))))
abbrev rmX9_kept : Room := { frames := 3, cells := 0, slots := 0, locals := 66 }
set_option maxHeartbeats 4000000 in
set_option maxRecDepth 100000 in
theorem c_X9_kept (l : Launch) (dC : Nat → ClassId) (dI : Nat → Nat → Nat) (kI kZ : ClassId) (sz : Nat) (p_z : Nat) (p_me : Nat) (p_pa : Nat) (p_di : Nat) (p_pr : Nat) (p_re : Nat) (p_cl : Nat) (p_li : Nat) (p_ec : Nat) (p_sc : Nat) (p_li_lengths : Nat) (p_li_codes : Nat) (z_version : Int32) (z_dictionaryAt : Int32) (z_tableAt : Int32) (z_ended : Int32) (li_count : Int32) (li_latest : Int32) (li_lengths : Nat → Int32) (li_codes : Nat → Int32) (a1 : Int32) (a2 : Int32) (K : Int32 → Prop) (h : wp_X9_kept li_count li_latest li_lengths li_codes a1 a2 K) : Met l yX9_kept wsX9_kept rmX9_kept (va_Pc [.ref p_z, .int a1, .int a2] (zP (dC, dI) (zT kI kZ) sz [(p_z, .inr (9, [.int z_version, .ref p_me, .ref p_pa, .ref p_di, .ref p_pr, .ref p_re, .ref p_cl, .ref p_li, .ref p_ec, .ref p_sc, .int z_dictionaryAt, .int z_tableAt, .int z_ended])), (p_li, .inr (3, [.int li_count, .int li_latest, .ref p_li_lengths, .ref p_li_codes])), (p_li_lengths, .inl (kI, 8, .inl li_lengths)), (p_li_codes, .inl (kI, 2040, .inl li_codes))])) (va_Qi (fun (r : Int32) (u : Unit) => K r) (fun (u : Unit) => zB (dC, dI) (zT kI kZ) (va_A [(p_z, .inr (9, [.int z_version, .ref p_me, .ref p_pa, .ref p_di, .ref p_pr, .ref p_re, .ref p_cl, .ref p_li, .ref p_ec, .ref p_sc, .int z_dictionaryAt, .int z_tableAt, .int z_ended])), (p_li, .inr (3, [.int li_count, .int li_latest, .ref p_li_lengths, .ref p_li_codes])), (p_li_lengths, .inl (kI, 8, .inl li_lengths)), (p_li_codes, .inl (kI, 2040, .inl li_codes))] sz) [(p_z, .inr (9, [.int z_version, .ref p_me, .ref p_pa, .ref p_di, .ref p_pr, .ref p_re, .ref p_cl, .ref p_li, .ref p_ec, .ref p_sc, .int z_dictionaryAt, .int z_tableAt, .int z_ended])), (p_li, .inr (3, [.int li_count, .int li_latest, .ref p_li_lengths, .ref p_li_codes])), (p_li_lengths, .inl (kI, 8, .inl li_lengths)), (p_li_codes, .inl (kI, 2040, .inl li_codes))]) (va_A [(p_z, .inr (9, [.int z_version, .ref p_me, .ref p_pa, .ref p_di, .ref p_pr, .ref p_re, .ref p_cl, .ref p_li, .ref p_ec, .ref p_sc, .int z_dictionaryAt, .int z_tableAt, .int z_ended])), (p_li, .inr (3, [.int li_count, .int li_latest, .ref p_li_lengths, .ref p_li_codes])), (p_li_lengths, .inl (kI, 8, .inl li_lengths)), (p_li_codes, .inl (kI, 2040, .inl li_codes))] sz)) 0 0 (va_A [(p_z, .inr (9, [.int z_version, .ref p_me, .ref p_pa, .ref p_di, .ref p_pr, .ref p_re, .ref p_cl, .ref p_li, .ref p_ec, .ref p_sc, .int z_dictionaryAt, .int z_tableAt, .int z_ended])), (p_li, .inr (3, [.int li_count, .int li_latest, .ref p_li_lengths, .ref p_li_codes])), (p_li_lengths, .inl (kI, 8, .inl li_lengths)), (p_li_codes, .inl (kI, 2040, .inl li_codes))] sz) := by
  refine zz_ofi (cc := cX9_kept) (maxL := 3) (by decide) rfl (Nat.le_of_ble_eq_true rfl) ?_
  intro p e s m args below meth c A Q ls hx hb hml hown hts hK hA hR hP hD hS hl
  have hown : s.vm.findClass RX9 = some m.cls := hown
  have hl : lv_has ls 3 [(0, .ref p_z), (1, .int a1), (2, .int a2)] := hl
  have hi_X9 : ∀ w ∈ wsX90, w ∈ wsX9_kept := fun _ h => (List.mem_cons_of_mem _ (List.mem_append_left _ (List.mem_append_right _ h)))
  unfold wp_X9_kept at h
  obtain ⟨H, eH⟩ : ∃ H, H = s.heap := ⟨_, rfl⟩
  obtain ⟨locs, eL⟩ : ∃ L : List Loc, L = [] := ⟨_, rfl⟩
  rw [← eL]
  have hS : va_S A s.heap s.heap locs := by rw [eL]; exact hS
  suffices hgo : ∀ H : Heap, va_P (dC, dI) vwCl [(p_z, .inr (9, [.int z_version, .ref p_me, .ref p_pa, .ref p_di, .ref p_pr, .ref p_re, .ref p_cl, .ref p_li, .ref p_ec, .ref p_sc, .int z_dictionaryAt, .int z_tableAt, .int z_ended])), (p_li, .inr (3, [.int li_count, .int li_latest, .ref p_li_lengths, .ref p_li_codes])), (p_li_lengths, .inl (kI, 8, .inl li_lengths)), (p_li_codes, .inl (kI, 2040, .inl li_codes))] H → va_S A s.heap H locs → W p l e rmX9_kept s m args below meth c H locs 0 0 Q (F0 m 0 ls []) from hgo _ hP hS
  clear hP hS eH H eL
  intro H hP hS
  refine lv_iload_n hx hb dX9_kept_0 rfl (lv_at hl 2 rfl) ?_
  refine lv_if_lt (tgt := 28) hx hb dX9_kept_1 (by decide) (fun c_ => ?_) (fun c_ => ?_)
  · have h := h.1 c_
    refine lv_bipush (v := (-2)) hx hb dX9_kept_28 (by decide) ?_
    exact hR (-2) () H locs h hP hD hS _ ls dX9_kept_30
  · have h := h.2 c_
    refine lv_iload_n hx hb dX9_kept_4 rfl (lv_at hl 2 rfl) ?_
    refine lv_aload_n hx hb dX9_kept_5 rfl (lv_at hl 0 rfl) ?_
    refine va_get (D := (dC, dI)) (ci := 9) (v := .ref p_li) (C := RX9) (T := TX9) (N := 13) hx hb hts hi_X9 hown hK hP 0 rfl rfl 7 (by decide) (hts (.fieldLink RX9 65 "ZInput" "lines" "LZInput$Lines;") (List.mem_cons_of_mem _ (List.mem_append_left _ (List.mem_append_left _ (List.mem_of_getElem? (i := 0) rfl))))) (fun _ h9 => h9) rfl dX9_kept_6 ?_
    refine lv_iload_n hx hb dX9_kept_9 rfl (lv_at hl 1 rfl) ?_
    refine zz_Vi (As := [.int a1]) (rest := [.int a2]) (wr := [(p_z, .inr (9, [.int z_version, .ref p_me, .ref p_pa, .ref p_di, .ref p_pr, .ref p_re, .ref p_cl, .ref p_li, .ref p_ec, .ref p_sc, .int z_dictionaryAt, .int z_tableAt, .int z_ended])), (p_li_codes, .inl (kI, 2040, .inl li_codes))]) ⟨hx, hb, hml, hown, hts⟩ (cwV 1 hts gX9_kept_X3_length rfl rfl rfl (by decide +kernel) ⟨Nat.le_of_ble_eq_true rfl, Nat.le_of_ble_eq_true rfl⟩) hK hP hD hS hA (c_X3_length l dC dI kI kZ H.size p_li p_li_lengths p_li_codes li_count li_latest li_lengths a1 _ h) [1, 2] [0, 3] rfl rfl rfl rfl (by decide) 0 rfl rfl rfl rfl hl.1 (Nat.le_of_ble_eq_true rfl) dX9_kept_10 (Nat.le_refl _) (Nat.le_refl _) (fun r_1 u_1 H locs h hP hD hS => ?_)
    have hP : va_P (dC, dI) vwCl [(p_z, .inr (9, [.int z_version, .ref p_me, .ref p_pa, .ref p_di, .ref p_pr, .ref p_re, .ref p_cl, .ref p_li, .ref p_ec, .ref p_sc, .int z_dictionaryAt, .int z_tableAt, .int z_ended])), (p_li, .inr (3, [.int li_count, .int li_latest, .ref p_li_lengths, .ref p_li_codes])), (p_li_lengths, .inl (kI, 8, .inl li_lengths)), (p_li_codes, .inl (kI, 2040, .inl li_codes))] H := hP.sub [0, 2, 3, 1] rfl
    have hD : va_D A [(p_z, .inr (9, [.int z_version, .ref p_me, .ref p_pa, .ref p_di, .ref p_pr, .ref p_re, .ref p_cl, .ref p_li, .ref p_ec, .ref p_sc, .int z_dictionaryAt, .int z_tableAt, .int z_ended])), (p_li, .inr (3, [.int li_count, .int li_latest, .ref p_li_lengths, .ref p_li_codes])), (p_li_lengths, .inl (kI, 8, .inl li_lengths)), (p_li_codes, .inl (kI, 2040, .inl li_codes))] := hD.sub [0, 2, 3, 1] rfl rfl
    refine lv_icmp_ge (tgt := 28) hx hb dX9_kept_13 (by decide) (fun c_ => ?_) (fun c_ => ?_)
    · have h := h.1 c_
      refine lv_bipush (v := (-2)) hx hb dX9_kept_28 (by decide) ?_
      exact hR (-2) () H locs h hP hD hS _ ls dX9_kept_30
    · have h := h.2 c_
      refine lv_aload_n hx hb dX9_kept_16 rfl (lv_at hl 0 rfl) ?_
      refine va_get (D := (dC, dI)) (ci := 9) (v := .ref p_li) (C := RX9) (T := TX9) (N := 13) hx hb hts hi_X9 hown hK hP 0 rfl rfl 7 (by decide) (hts (.fieldLink RX9 65 "ZInput" "lines" "LZInput$Lines;") (List.mem_cons_of_mem _ (List.mem_append_left _ (List.mem_append_left _ (List.mem_of_getElem? (i := 0) rfl))))) (fun _ h9 => h9) rfl dX9_kept_17 ?_
      refine lv_iload_n hx hb dX9_kept_20 rfl (lv_at hl 1 rfl) ?_
      refine lv_iload_n hx hb dX9_kept_21 rfl (lv_at hl 2 rfl) ?_
      refine zz_Vi (As := [.int a1, .int a2]) (rest := []) (wr := [(p_z, .inr (9, [.int z_version, .ref p_me, .ref p_pa, .ref p_di, .ref p_pr, .ref p_re, .ref p_cl, .ref p_li, .ref p_ec, .ref p_sc, .int z_dictionaryAt, .int z_tableAt, .int z_ended]))]) ⟨hx, hb, hml, hown, hts⟩ (cwV 2 hts gX9_kept_X3_code rfl rfl rfl (by decide +kernel) ⟨Nat.le_of_ble_eq_true rfl, Nat.le_of_ble_eq_true rfl⟩) hK hP hD hS hA (c_X3_code l dC dI kI kZ H.size p_li p_li_lengths p_li_codes li_count li_latest li_lengths li_codes a1 a2 _ h) [1, 2, 3] [0] rfl rfl rfl rfl (by decide) 0 rfl rfl rfl rfl hl.1 (Nat.le_of_ble_eq_true rfl) dX9_kept_22 (Nat.le_refl _) (Nat.le_refl _) (fun r_2 u_2 H locs h hP hD hS => ?_)
      have hP : va_P (dC, dI) vwCl [(p_z, .inr (9, [.int z_version, .ref p_me, .ref p_pa, .ref p_di, .ref p_pr, .ref p_re, .ref p_cl, .ref p_li, .ref p_ec, .ref p_sc, .int z_dictionaryAt, .int z_tableAt, .int z_ended])), (p_li, .inr (3, [.int li_count, .int li_latest, .ref p_li_lengths, .ref p_li_codes])), (p_li_lengths, .inl (kI, 8, .inl li_lengths)), (p_li_codes, .inl (kI, 2040, .inl li_codes))] H := hP.sub [0, 1, 2, 3] rfl
      have hD : va_D A [(p_z, .inr (9, [.int z_version, .ref p_me, .ref p_pa, .ref p_di, .ref p_pr, .ref p_re, .ref p_cl, .ref p_li, .ref p_ec, .ref p_sc, .int z_dictionaryAt, .int z_tableAt, .int z_ended])), (p_li, .inr (3, [.int li_count, .int li_latest, .ref p_li_lengths, .ref p_li_codes])), (p_li_lengths, .inl (kI, 8, .inl li_lengths)), (p_li_codes, .inl (kI, 2040, .inl li_codes))] := hD.sub [0, 1, 2, 3] rfl rfl
      refine lv_goto (tgt := 30) hx hb dX9_kept_25 (by decide) ?_
      exact hR r_2 () H locs h hP hD hS _ ls dX9_kept_30
def wp_X9_lowerCase (a0 : Int32) (K : Int32 → Prop) : Prop :=
  ((a0 < 65) → (K a0)) ∧ ((¬ a0 < 65) → (((90 < a0) → (K a0)) ∧ ((¬ 90 < a0) → (K ((a0 - 65) + 97)))))
abbrev rmX9_lowerCase : Room := { frames := 0, cells := 0, slots := 0, locals := 0 }
set_option maxHeartbeats 4000000 in
set_option maxRecDepth 100000 in
theorem c_X9_lowerCase (l : Launch) (dC : Nat → ClassId) (dI : Nat → Nat → Nat) (kI kZ : ClassId) (sz : Nat) (a0 : Int32) (K : Int32 → Prop) (h : wp_X9_lowerCase a0 K) : Met l yX9_lowerCase wsX9_lowerCase rmX9_lowerCase (va_Pc [.int a0] (zP (dC, dI) (zT kI kZ) sz [])) (va_Qi (fun (r : Int32) (u : Unit) => K r) (fun (u : Unit) => zB (dC, dI) (zT kI kZ) (va_A [] sz) []) (va_A [] sz)) 0 0 (va_A [] sz) := by
  refine zz_ofi (cc := cX9_lowerCase) (maxL := 1) (by decide) rfl (Nat.le_of_ble_eq_true rfl) ?_
  intro p e s m args below meth c A Q ls hx hb hml hown hts hK hA hR hP hD hS hl
  have hown : s.vm.findClass RX9 = some m.cls := hown
  have hl : lv_has ls 1 [(0, .int a0)] := hl
  unfold wp_X9_lowerCase at h
  obtain ⟨H, eH⟩ : ∃ H, H = s.heap := ⟨_, rfl⟩
  obtain ⟨locs, eL⟩ : ∃ L : List Loc, L = [] := ⟨_, rfl⟩
  rw [← eL]
  have hS : va_S A s.heap s.heap locs := by rw [eL]; exact hS
  suffices hgo : ∀ H : Heap, va_P (dC, dI) vwCl [] H → va_S A s.heap H locs → W p l e rmX9_lowerCase s m args below meth c H locs 0 0 Q (F0 m 0 ls []) from hgo _ hP hS
  clear hP hS eH H eL
  intro H hP hS
  refine lv_iload_n hx hb dX9_lowerCase_0 rfl (lv_at hl 0 rfl) ?_
  refine lv_bipush (v := 65) hx hb dX9_lowerCase_1 (by decide) ?_
  refine lv_icmp_lt (tgt := 22) hx hb dX9_lowerCase_3 (by decide) (fun c_ => ?_) (fun c_ => ?_)
  · have h := h.1 c_
    refine lv_iload_n hx hb dX9_lowerCase_22 rfl (lv_at hl 0 rfl) ?_
    exact hR a0 () H locs h hP hD hS _ ls dX9_lowerCase_23
  · have h := h.2 c_
    refine lv_iload_n hx hb dX9_lowerCase_6 rfl (lv_at hl 0 rfl) ?_
    refine lv_bipush (v := 90) hx hb dX9_lowerCase_7 (by decide) ?_
    refine lv_icmp_gt (tgt := 22) hx hb dX9_lowerCase_9 (by decide) (fun c_ => ?_) (fun c_ => ?_)
    · have h := h.1 c_
      refine lv_iload_n hx hb dX9_lowerCase_22 rfl (lv_at hl 0 rfl) ?_
      exact hR a0 () H locs h hP hD hS _ ls dX9_lowerCase_23
    · have h := h.2 c_
      refine lv_iload_n hx hb dX9_lowerCase_12 rfl (lv_at hl 0 rfl) ?_
      refine lv_bipush (v := 65) hx hb dX9_lowerCase_13 (by decide) ?_
      refine lv_isub hx hb dX9_lowerCase_15 ?_
      refine lv_bipush (v := 97) hx hb dX9_lowerCase_16 (by decide) ?_
      refine lv_iadd hx hb dX9_lowerCase_18 ?_
      refine lv_goto (tgt := 23) hx hb dX9_lowerCase_19 (by decide) ?_
      exact hR ((a0 - 65) + 97) () H locs h hP hD hS _ ls dX9_lowerCase_23
def wp_X9_put (me_octets : Nat → Int32) (a1 : Int32) (a2 : Int32) (a3 : Int64) (K : Int32 → (Nat → Int32) → Prop) : Prop :=
  ((a2 < 1) → (K (-2) me_octets)) ∧ ((¬ a2 < 1) → (((a2 ≤ 8) → (wp_X4_holds a1 a2 (fun (r_1 : Int32) => ((¬ r_1 = 0) → (wp_X4_store me_octets a1 a2 a3 (fun (me_octets_1 : Nat → Int32) => K (a1 + a2) me_octets_1))) ∧ ((r_1 = 0) → (K (-3) me_octets))))) ∧ ((¬ a2 ≤ 8) → (K (-2) me_octets))))
abbrev rmX9_put : Room := { frames := 2, cells := 0, slots := 0, locals := 47 }
set_option maxHeartbeats 4000000 in
set_option maxRecDepth 100000 in
theorem c_X9_put (l : Launch) (dC : Nat → ClassId) (dI : Nat → Nat → Nat) (kI kZ : ClassId) (sz : Nat) (p_z : Nat) (p_me : Nat) (p_pa : Nat) (p_di : Nat) (p_pr : Nat) (p_re : Nat) (p_cl : Nat) (p_li : Nat) (p_ec : Nat) (p_sc : Nat) (p_me_octets : Nat) (z_version : Int32) (z_dictionaryAt : Int32) (z_tableAt : Int32) (z_ended : Int32) (me_octets : Nat → Int32) (a1 : Int32) (a2 : Int32) (a3 : Int64) (K : Int32 → (Nat → Int32) → Prop) (h : wp_X9_put me_octets a1 a2 a3 K) : Met l yX9_put wsX9_put rmX9_put (va_Pc [.ref p_z, .int a1, .int a2, .long a3] (zP (dC, dI) (zT kI kZ) sz [(p_z, .inr (9, [.int z_version, .ref p_me, .ref p_pa, .ref p_di, .ref p_pr, .ref p_re, .ref p_cl, .ref p_li, .ref p_ec, .ref p_sc, .int z_dictionaryAt, .int z_tableAt, .int z_ended])), (p_me, .inr (4, [.ref p_me_octets])), (p_me_octets, .inl (kI, 4096, .inl me_octets))])) (va_Qi (fun (r : Int32) (u : (Nat → Int32)) => K r u) (fun (u : (Nat → Int32)) => zB (dC, dI) (zT kI kZ) (va_A [(p_z, .inr (9, [.int z_version, .ref p_me, .ref p_pa, .ref p_di, .ref p_pr, .ref p_re, .ref p_cl, .ref p_li, .ref p_ec, .ref p_sc, .int z_dictionaryAt, .int z_tableAt, .int z_ended])), (p_me, .inr (4, [.ref p_me_octets])), (p_me_octets, .inl (kI, 4096, .inl me_octets))] sz) [(p_z, .inr (9, [.int z_version, .ref p_me, .ref p_pa, .ref p_di, .ref p_pr, .ref p_re, .ref p_cl, .ref p_li, .ref p_ec, .ref p_sc, .int z_dictionaryAt, .int z_tableAt, .int z_ended])), (p_me, .inr (4, [.ref p_me_octets])), (p_me_octets, .inl (kI, 4096, .inl u))]) (va_A [(p_z, .inr (9, [.int z_version, .ref p_me, .ref p_pa, .ref p_di, .ref p_pr, .ref p_re, .ref p_cl, .ref p_li, .ref p_ec, .ref p_sc, .int z_dictionaryAt, .int z_tableAt, .int z_ended])), (p_me, .inr (4, [.ref p_me_octets])), (p_me_octets, .inl (kI, 4096, .inl me_octets))] sz)) 0 0 (va_A [(p_z, .inr (9, [.int z_version, .ref p_me, .ref p_pa, .ref p_di, .ref p_pr, .ref p_re, .ref p_cl, .ref p_li, .ref p_ec, .ref p_sc, .int z_dictionaryAt, .int z_tableAt, .int z_ended])), (p_me, .inr (4, [.ref p_me_octets])), (p_me_octets, .inl (kI, 4096, .inl me_octets))] sz) := by
  refine zz_ofi (cc := cX9_put) (maxL := 5) (by decide) rfl (Nat.le_of_ble_eq_true rfl) ?_
  intro p e s m args below meth c A Q ls hx hb hml hown hts hK hA hR hP hD hS hl
  have hown : s.vm.findClass RX9 = some m.cls := hown
  have hl : lv_has ls 5 [(0, .ref p_z), (1, .int a1), (2, .int a2), (3, .long a3)] := hl
  have hi_X9 : ∀ w ∈ wsX90, w ∈ wsX9_put := fun _ h => (List.mem_cons_of_mem _ (List.mem_append_left _ (List.mem_append_right _ h)))
  unfold wp_X9_put at h
  obtain ⟨H, eH⟩ : ∃ H, H = s.heap := ⟨_, rfl⟩
  obtain ⟨locs, eL⟩ : ∃ L : List Loc, L = [] := ⟨_, rfl⟩
  rw [← eL]
  have hS : va_S A s.heap s.heap locs := by rw [eL]; exact hS
  suffices hgo : ∀ H : Heap, va_P (dC, dI) vwCl [(p_z, .inr (9, [.int z_version, .ref p_me, .ref p_pa, .ref p_di, .ref p_pr, .ref p_re, .ref p_cl, .ref p_li, .ref p_ec, .ref p_sc, .int z_dictionaryAt, .int z_tableAt, .int z_ended])), (p_me, .inr (4, [.ref p_me_octets])), (p_me_octets, .inl (kI, 4096, .inl me_octets))] H → va_S A s.heap H locs → W p l e rmX9_put s m args below meth c H locs 0 0 Q (F0 m 0 ls []) from hgo _ hP hS
  clear hP hS eH H eL
  intro H hP hS
  refine lv_iload_n hx hb dX9_put_0 rfl (lv_at hl 2 rfl) ?_
  refine lv_iconst (v := 1) hx hb dX9_put_1 (by decide) ?_
  refine lv_icmp_lt (tgt := 11) hx hb dX9_put_2 (by decide) (fun c_ => ?_) (fun c_ => ?_)
  · have h := h.1 c_
    refine lv_bipush (v := (-2)) hx hb dX9_put_11 (by decide) ?_
    exact hR (-2) me_octets H locs h hP hD hS _ ls dX9_put_13
  · have h := h.2 c_
    refine lv_iload_n hx hb dX9_put_5 rfl (lv_at hl 2 rfl) ?_
    refine lv_bipush (v := 8) hx hb dX9_put_6 (by decide) ?_
    refine lv_icmp_le (tgt := 14) hx hb dX9_put_8 (by decide) (fun c_ => ?_) (fun c_ => ?_)
    · have h := h.1 c_
      refine lv_aload_n hx hb dX9_put_14 rfl (lv_at hl 0 rfl) ?_
      refine va_get (D := (dC, dI)) (ci := 9) (v := .ref p_me) (C := RX9) (T := TX9) (N := 13) hx hb hts hi_X9 hown hK hP 0 rfl rfl 1 (by decide) (hts (.fieldLink RX9 27 "ZInput" "memory" "LZInput$Memory;") (List.mem_cons_of_mem _ (List.mem_append_left _ (List.mem_append_left _ (List.mem_of_getElem? (i := 0) rfl))))) (fun _ h9 => h9) rfl dX9_put_15 ?_
      refine lv_iload_n hx hb dX9_put_18 rfl (lv_at hl 1 rfl) ?_
      refine lv_iload_n hx hb dX9_put_19 rfl (lv_at hl 2 rfl) ?_
      refine zz_Vi (As := [.int a1, .int a2]) (rest := []) (wr := [(p_z, .inr (9, [.int z_version, .ref p_me, .ref p_pa, .ref p_di, .ref p_pr, .ref p_re, .ref p_cl, .ref p_li, .ref p_ec, .ref p_sc, .int z_dictionaryAt, .int z_tableAt, .int z_ended])), (p_me_octets, .inl (kI, 4096, .inl me_octets))]) ⟨hx, hb, hml, hown, hts⟩ (cwV 2 hts gX9_put_X4_holds rfl rfl rfl (by decide +kernel) ⟨Nat.le_of_ble_eq_true rfl, Nat.le_of_ble_eq_true rfl⟩) hK hP hD hS hA (c_X4_holds l dC dI kI kZ H.size p_me p_me_octets a1 a2 _ h) [1] [0, 2] rfl rfl rfl rfl (by decide) 0 rfl rfl rfl rfl hl.1 (Nat.le_of_ble_eq_true rfl) dX9_put_20 (Nat.le_refl _) (Nat.le_refl _) (fun r_1 u_1 H locs h hP hD hS => ?_)
      have hP : va_P (dC, dI) vwCl [(p_z, .inr (9, [.int z_version, .ref p_me, .ref p_pa, .ref p_di, .ref p_pr, .ref p_re, .ref p_cl, .ref p_li, .ref p_ec, .ref p_sc, .int z_dictionaryAt, .int z_tableAt, .int z_ended])), (p_me, .inr (4, [.ref p_me_octets])), (p_me_octets, .inl (kI, 4096, .inl me_octets))] H := hP.sub [0, 2, 1] rfl
      have hD : va_D A [(p_z, .inr (9, [.int z_version, .ref p_me, .ref p_pa, .ref p_di, .ref p_pr, .ref p_re, .ref p_cl, .ref p_li, .ref p_ec, .ref p_sc, .int z_dictionaryAt, .int z_tableAt, .int z_ended])), (p_me, .inr (4, [.ref p_me_octets])), (p_me_octets, .inl (kI, 4096, .inl me_octets))] := hD.sub [0, 2, 1] rfl rfl
      refine lv_if_ne (tgt := 29) hx hb dX9_put_23 (by decide) (fun c_ => ?_) (fun c_ => ?_)
      · have h := h.1 c_
        refine lv_aload_n hx hb dX9_put_29 rfl (lv_at hl 0 rfl) ?_
        refine va_get (D := (dC, dI)) (ci := 9) (v := .ref p_me) (C := RX9) (T := TX9) (N := 13) hx hb hts hi_X9 hown hK hP 0 rfl rfl 1 (by decide) (hts (.fieldLink RX9 27 "ZInput" "memory" "LZInput$Memory;") (List.mem_cons_of_mem _ (List.mem_append_left _ (List.mem_append_left _ (List.mem_of_getElem? (i := 0) rfl))))) (fun _ h9 => h9) rfl dX9_put_30 ?_
        refine lv_iload_n hx hb dX9_put_33 rfl (lv_at hl 1 rfl) ?_
        refine lv_iload_n hx hb dX9_put_34 rfl (lv_at hl 2 rfl) ?_
        refine lv_lload_n hx hb dX9_put_35 rfl (lv_at hl 3 rfl) ?_
        refine zz_Vv (As := [.int a1, .int a2, .long a3]) (rest := []) (wr := [(p_z, .inr (9, [.int z_version, .ref p_me, .ref p_pa, .ref p_di, .ref p_pr, .ref p_re, .ref p_cl, .ref p_li, .ref p_ec, .ref p_sc, .int z_dictionaryAt, .int z_tableAt, .int z_ended]))]) ⟨hx, hb, hml, hown, hts⟩ (cwV 3 hts gX9_put_X4_store rfl rfl rfl (by decide +kernel) ⟨Nat.le_of_ble_eq_true rfl, Nat.le_of_ble_eq_true rfl⟩) hK hP hD hS hA (c_X4_store l dC dI kI kZ H.size p_me p_me_octets me_octets a1 a2 a3 _ h) [1, 2] [0] rfl rfl rfl rfl (by decide) 0 rfl rfl rfl rfl hl.1 (Nat.le_of_ble_eq_true rfl) dX9_put_36 (Nat.le_refl _) (Nat.le_refl _) (fun me_octets_1 H locs h hP hD hS => ?_)
        have hP : va_P (dC, dI) vwCl [(p_z, .inr (9, [.int z_version, .ref p_me, .ref p_pa, .ref p_di, .ref p_pr, .ref p_re, .ref p_cl, .ref p_li, .ref p_ec, .ref p_sc, .int z_dictionaryAt, .int z_tableAt, .int z_ended])), (p_me, .inr (4, [.ref p_me_octets])), (p_me_octets, .inl (kI, 4096, .inl me_octets_1))] H := hP.sub [0, 1, 2] rfl
        have hD : va_D A [(p_z, .inr (9, [.int z_version, .ref p_me, .ref p_pa, .ref p_di, .ref p_pr, .ref p_re, .ref p_cl, .ref p_li, .ref p_ec, .ref p_sc, .int z_dictionaryAt, .int z_tableAt, .int z_ended])), (p_me, .inr (4, [.ref p_me_octets])), (p_me_octets, .inl (kI, 4096, .inl me_octets_1))] := hD.sub [0, 1, 2] rfl rfl
        refine lv_iload_n hx hb dX9_put_39 rfl (lv_at hl 1 rfl) ?_
        refine lv_iload_n hx hb dX9_put_40 rfl (lv_at hl 2 rfl) ?_
        refine lv_iadd hx hb dX9_put_41 ?_
        exact hR (a1 + a2) me_octets_1 H locs h hP hD hS _ ls dX9_put_42
      · have h := h.2 c_
        refine lv_bipush (v := (-3)) hx hb dX9_put_26 (by decide) ?_
        exact hR (-3) me_octets H locs h hP hD hS _ ls dX9_put_28
    · have h := h.2 c_
      refine lv_bipush (v := (-2)) hx hb dX9_put_11 (by decide) ?_
      exact hR (-2) me_octets H locs h hP hD hS _ ls dX9_put_13
def wp_X9_script (sc_count : Int32) (sc_first : Int32) (sc_codes : Nat → Int32) (a1 : Int32) (K : Int32 → Int32 → (Nat → Int32) → Prop) : Prop :=
  wp_X9_isCode a1 (fun (r_1 : Int32) => ((¬ r_1 = 0) → (wp_X8_add sc_count sc_first sc_codes a1 (fun (r_2 : Int32) (sc_count_1 : Int32) (sc_codes_1 : Nat → Int32) => ((r_2 = 0) → (K (-4) sc_count_1 sc_codes_1)) ∧ ((¬ r_2 = 0) → (K sc_count_1 sc_count_1 sc_codes_1))))) ∧ ((r_1 = 0) → (K (-2) sc_count sc_codes)))
abbrev rmX9_script : Room := { frames := 1, cells := 0, slots := 0, locals := 22 }
set_option maxHeartbeats 4000000 in
set_option maxRecDepth 100000 in
theorem c_X9_script (l : Launch) (dC : Nat → ClassId) (dI : Nat → Nat → Nat) (kI kZ : ClassId) (sz : Nat) (p_z : Nat) (p_me : Nat) (p_pa : Nat) (p_di : Nat) (p_pr : Nat) (p_re : Nat) (p_cl : Nat) (p_li : Nat) (p_ec : Nat) (p_sc : Nat) (p_sc_codes : Nat) (z_version : Int32) (z_dictionaryAt : Int32) (z_tableAt : Int32) (z_ended : Int32) (sc_count : Int32) (sc_first : Int32) (sc_codes : Nat → Int32) (a1 : Int32) (K : Int32 → Int32 → (Nat → Int32) → Prop) (h : wp_X9_script sc_count sc_first sc_codes a1 K) : Met l yX9_script wsX9_script rmX9_script (va_Pc [.ref p_z, .int a1] (zP (dC, dI) (zT kI kZ) sz [(p_z, .inr (9, [.int z_version, .ref p_me, .ref p_pa, .ref p_di, .ref p_pr, .ref p_re, .ref p_cl, .ref p_li, .ref p_ec, .ref p_sc, .int z_dictionaryAt, .int z_tableAt, .int z_ended])), (p_sc, .inr (8, [.int sc_count, .int sc_first, .ref p_sc_codes])), (p_sc_codes, .inl (kI, 300, .inl sc_codes))])) (va_Qi (fun (r : Int32) (u : Int32 × (Nat → Int32)) => K r u.1 u.2) (fun (u : Int32 × (Nat → Int32)) => zB (dC, dI) (zT kI kZ) (va_A [(p_z, .inr (9, [.int z_version, .ref p_me, .ref p_pa, .ref p_di, .ref p_pr, .ref p_re, .ref p_cl, .ref p_li, .ref p_ec, .ref p_sc, .int z_dictionaryAt, .int z_tableAt, .int z_ended])), (p_sc, .inr (8, [.int sc_count, .int sc_first, .ref p_sc_codes])), (p_sc_codes, .inl (kI, 300, .inl sc_codes))] sz) [(p_z, .inr (9, [.int z_version, .ref p_me, .ref p_pa, .ref p_di, .ref p_pr, .ref p_re, .ref p_cl, .ref p_li, .ref p_ec, .ref p_sc, .int z_dictionaryAt, .int z_tableAt, .int z_ended])), (p_sc, .inr (8, [.int u.1, .int sc_first, .ref p_sc_codes])), (p_sc_codes, .inl (kI, 300, .inl u.2))]) (va_A [(p_z, .inr (9, [.int z_version, .ref p_me, .ref p_pa, .ref p_di, .ref p_pr, .ref p_re, .ref p_cl, .ref p_li, .ref p_ec, .ref p_sc, .int z_dictionaryAt, .int z_tableAt, .int z_ended])), (p_sc, .inr (8, [.int sc_count, .int sc_first, .ref p_sc_codes])), (p_sc_codes, .inl (kI, 300, .inl sc_codes))] sz)) 0 0 (va_A [(p_z, .inr (9, [.int z_version, .ref p_me, .ref p_pa, .ref p_di, .ref p_pr, .ref p_re, .ref p_cl, .ref p_li, .ref p_ec, .ref p_sc, .int z_dictionaryAt, .int z_tableAt, .int z_ended])), (p_sc, .inr (8, [.int sc_count, .int sc_first, .ref p_sc_codes])), (p_sc_codes, .inl (kI, 300, .inl sc_codes))] sz) := by
  refine zz_ofi (cc := cX9_script) (maxL := 2) (by decide) rfl (Nat.le_of_ble_eq_true rfl) ?_
  intro p e s m args below meth c A Q ls hx hb hml hown hts hK hA hR hP hD hS hl
  have hown : s.vm.findClass RX9 = some m.cls := hown
  have hl : lv_has ls 2 [(0, .ref p_z), (1, .int a1)] := hl
  have hi_X9 : ∀ w ∈ wsX90, w ∈ wsX9_script := fun _ h => (List.mem_cons_of_mem _ (List.mem_append_left _ (List.mem_append_right _ h)))
  have hi_X8 : ∀ w ∈ wsX80, w ∈ wsX9_script := fun _ h => (List.mem_cons_of_mem _ (List.mem_append_right _ h))
  unfold wp_X9_script at h
  obtain ⟨H, eH⟩ : ∃ H, H = s.heap := ⟨_, rfl⟩
  obtain ⟨locs, eL⟩ : ∃ L : List Loc, L = [] := ⟨_, rfl⟩
  rw [← eL]
  have hS : va_S A s.heap s.heap locs := by rw [eL]; exact hS
  suffices hgo : ∀ H : Heap, va_P (dC, dI) vwCl [(p_z, .inr (9, [.int z_version, .ref p_me, .ref p_pa, .ref p_di, .ref p_pr, .ref p_re, .ref p_cl, .ref p_li, .ref p_ec, .ref p_sc, .int z_dictionaryAt, .int z_tableAt, .int z_ended])), (p_sc, .inr (8, [.int sc_count, .int sc_first, .ref p_sc_codes])), (p_sc_codes, .inl (kI, 300, .inl sc_codes))] H → va_S A s.heap H locs → W p l e rmX9_script s m args below meth c H locs 0 0 Q (F0 m 0 ls []) from hgo _ hP hS
  clear hP hS eH H eL
  intro H hP hS
  refine lv_iload_n hx hb dX9_script_0 rfl (lv_at hl 1 rfl) ?_
  refine zz_Si (As := [.int a1]) (rest := []) (wr := [(p_z, .inr (9, [.int z_version, .ref p_me, .ref p_pa, .ref p_di, .ref p_pr, .ref p_re, .ref p_cl, .ref p_li, .ref p_ec, .ref p_sc, .int z_dictionaryAt, .int z_tableAt, .int z_ended])), (p_sc, .inr (8, [.int sc_count, .int sc_first, .ref p_sc_codes])), (p_sc_codes, .inl (kI, 300, .inl sc_codes))]) ⟨hx, hb, hml, hown, hts⟩ (va_cwS 1 hts gX9_script_X9_isCode rfl rfl rfl (by decide +kernel) ⟨Nat.le_of_ble_eq_true rfl, Nat.le_of_ble_eq_true rfl⟩) hK hP hD hS hA (c_X9_isCode l dC dI kI kZ H.size a1 _ h) [] [0, 1, 2] rfl rfl rfl rfl (by decide) rfl rfl hl.1 (Nat.le_of_ble_eq_true rfl) dX9_script_1 (Nat.le_refl _) (Nat.le_refl _) (fun r_1 u_1 H locs h hP hD hS => ?_)
  have hP : va_P (dC, dI) vwCl [(p_z, .inr (9, [.int z_version, .ref p_me, .ref p_pa, .ref p_di, .ref p_pr, .ref p_re, .ref p_cl, .ref p_li, .ref p_ec, .ref p_sc, .int z_dictionaryAt, .int z_tableAt, .int z_ended])), (p_sc, .inr (8, [.int sc_count, .int sc_first, .ref p_sc_codes])), (p_sc_codes, .inl (kI, 300, .inl sc_codes))] H := hP.sub [0, 1, 2] rfl
  have hD : va_D A [(p_z, .inr (9, [.int z_version, .ref p_me, .ref p_pa, .ref p_di, .ref p_pr, .ref p_re, .ref p_cl, .ref p_li, .ref p_ec, .ref p_sc, .int z_dictionaryAt, .int z_tableAt, .int z_ended])), (p_sc, .inr (8, [.int sc_count, .int sc_first, .ref p_sc_codes])), (p_sc_codes, .inl (kI, 300, .inl sc_codes))] := hD.sub [0, 1, 2] rfl rfl
  refine lv_if_ne (tgt := 10) hx hb dX9_script_4 (by decide) (fun c_ => ?_) (fun c_ => ?_)
  · have h := h.1 c_
    refine lv_aload_n hx hb dX9_script_10 rfl (lv_at hl 0 rfl) ?_
    refine va_get (D := (dC, dI)) (ci := 9) (v := .ref p_sc) (C := RX9) (T := TX9) (N := 13) hx hb hts hi_X9 hown hK hP 0 rfl rfl 9 (by decide) (hts (.fieldLink RX9 79 "ZInput" "keys" "LZInput$Script;") (List.mem_cons_of_mem _ (List.mem_append_left _ (List.mem_append_left _ (List.mem_of_getElem? (i := 0) rfl))))) (fun _ h9 => h9) rfl dX9_script_11 ?_
    refine lv_iload_n hx hb dX9_script_14 rfl (lv_at hl 1 rfl) ?_
    refine zz_Vi (As := [.int a1]) (rest := []) (wr := [(p_z, .inr (9, [.int z_version, .ref p_me, .ref p_pa, .ref p_di, .ref p_pr, .ref p_re, .ref p_cl, .ref p_li, .ref p_ec, .ref p_sc, .int z_dictionaryAt, .int z_tableAt, .int z_ended]))]) ⟨hx, hb, hml, hown, hts⟩ (cwV 1 hts gX9_script_X8_add rfl rfl rfl (by decide +kernel) ⟨Nat.le_of_ble_eq_true rfl, Nat.le_of_ble_eq_true rfl⟩) hK hP hD hS hA (c_X8_add l dC dI kI kZ H.size p_sc p_sc_codes sc_count sc_first sc_codes a1 _ h) [1, 2] [0] rfl rfl rfl rfl (by decide) 0 rfl rfl rfl rfl hl.1 (Nat.le_of_ble_eq_true rfl) dX9_script_15 (Nat.le_refl _) (Nat.le_refl _) (fun r_2 u_2 H locs h hP hD hS => ?_)
    obtain ⟨sc_count_1, sc_codes_1⟩ := u_2
    have hP : va_P (dC, dI) vwCl [(p_z, .inr (9, [.int z_version, .ref p_me, .ref p_pa, .ref p_di, .ref p_pr, .ref p_re, .ref p_cl, .ref p_li, .ref p_ec, .ref p_sc, .int z_dictionaryAt, .int z_tableAt, .int z_ended])), (p_sc, .inr (8, [.int sc_count_1, .int sc_first, .ref p_sc_codes])), (p_sc_codes, .inl (kI, 300, .inl sc_codes_1))] H := hP.sub [0, 1, 2] rfl
    have hD : va_D A [(p_z, .inr (9, [.int z_version, .ref p_me, .ref p_pa, .ref p_di, .ref p_pr, .ref p_re, .ref p_cl, .ref p_li, .ref p_ec, .ref p_sc, .int z_dictionaryAt, .int z_tableAt, .int z_ended])), (p_sc, .inr (8, [.int sc_count_1, .int sc_first, .ref p_sc_codes])), (p_sc_codes, .inl (kI, 300, .inl sc_codes_1))] := hD.sub [0, 1, 2] rfl rfl
    refine lv_if_eq (tgt := 31) hx hb dX9_script_18 (by decide) (fun c_ => ?_) (fun c_ => ?_)
    · have h := h.1 c_
      refine lv_bipush (v := (-4)) hx hb dX9_script_31 (by decide) ?_
      exact hR (-4) (sc_count_1, sc_codes_1) H locs h hP hD hS _ ls dX9_script_33
    · have h := h.2 c_
      refine lv_aload_n hx hb dX9_script_21 rfl (lv_at hl 0 rfl) ?_
      refine va_get (D := (dC, dI)) (ci := 9) (v := .ref p_sc) (C := RX9) (T := TX9) (N := 13) hx hb hts hi_X9 hown hK hP 0 rfl rfl 9 (by decide) (hts (.fieldLink RX9 79 "ZInput" "keys" "LZInput$Script;") (List.mem_cons_of_mem _ (List.mem_append_left _ (List.mem_append_left _ (List.mem_of_getElem? (i := 0) rfl))))) (fun _ h9 => h9) rfl dX9_script_22 ?_
      refine va_get (D := (dC, dI)) (ci := 8) (v := .int sc_count_1) (C := RX8) (T := TX8) (N := 3) hx hb hts hi_X8 hown hK hP 1 rfl rfl 0 (by decide) (hts (.fieldLink RX9 172 "ZInput$Script" "count" "I") (List.mem_cons_of_mem _ (List.mem_append_left _ (List.mem_append_left _ (List.mem_of_getElem? (i := 1) rfl))))) (fun _ h9 => h9) rfl dX9_script_25 ?_
      refine lv_goto (tgt := 33) hx hb dX9_script_28 (by decide) ?_
      exact hR sc_count_1 (sc_count_1, sc_codes_1) H locs h hP hD hS _ ls dX9_script_33
  · have h := h.2 c_
    refine lv_bipush (v := (-2)) hx hb dX9_script_7 (by decide) ?_
    exact hR (-2) (sc_count, sc_codes) H locs h hP hD hS _ ls dX9_script_9
def wp_X9_showLine (re_limit : Int32) (re_count : Int32) (re_shown : Int32) (re_codes : Nat → Int32) (li_count : Int32) (li_latest : Int32) (li_lengths : Nat → Int32) (li_codes : Nat → Int32) (a1 : Int32) (K : Int32 → Int32 → (Nat → Int32) → Prop) : Prop :=
  wp_X7_clear re_count (fun (re_count_1 : Int32) => wp_X3_length li_count li_latest li_lengths a1 (fun (r_1 : Int32) => ∀ L18 : Int32 → Int32 → (Nat → Int32) → Prop, (∀ (x3_1 : Int32) (re_count_2 : Int32) (re_codes_1 : Nat → Int32), (((r_1 ≤ x3_1) → (K re_count_2 a1 re_codes_1)) ∧ ((¬ r_1 ≤ x3_1) → (wp_X3_code li_count li_latest li_lengths li_codes a1 x3_1 (fun (r_2 : Int32) => wp_X7_add re_limit re_count_2 re_codes_1 r_2 (fun (re_count_3 : Int32) (re_codes_2 : Nat → Int32) => L18 (x3_1 + 1) re_count_3 re_codes_2))))) → L18 x3_1 re_count_2 re_codes_1) → L18 0 re_count_1 re_codes))
abbrev rmX9_showLine : Room := { frames := 3, cells := 0, slots := 0, locals := 66 }
set_option maxHeartbeats 4000000 in
set_option maxRecDepth 100000 in
theorem c_X9_showLine (l : Launch) (dC : Nat → ClassId) (dI : Nat → Nat → Nat) (kI kZ : ClassId) (sz : Nat) (p_z : Nat) (p_me : Nat) (p_pa : Nat) (p_di : Nat) (p_pr : Nat) (p_re : Nat) (p_cl : Nat) (p_li : Nat) (p_ec : Nat) (p_sc : Nat) (p_re_codes : Nat) (p_li_lengths : Nat) (p_li_codes : Nat) (z_version : Int32) (z_dictionaryAt : Int32) (z_tableAt : Int32) (z_ended : Int32) (re_open : Int32) (re_textAt : Int32) (re_parseAt : Int32) (re_limit : Int32) (re_count : Int32) (re_shown : Int32) (re_codes : Nat → Int32) (li_count : Int32) (li_latest : Int32) (li_lengths : Nat → Int32) (li_codes : Nat → Int32) (a1 : Int32) (K : Int32 → Int32 → (Nat → Int32) → Prop) (h : wp_X9_showLine re_limit re_count re_shown re_codes li_count li_latest li_lengths li_codes a1 K) : Met l yX9_showLine wsX9_showLine rmX9_showLine (va_Pc [.ref p_z, .int a1] (zP (dC, dI) (zT kI kZ) sz [(p_z, .inr (9, [.int z_version, .ref p_me, .ref p_pa, .ref p_di, .ref p_pr, .ref p_re, .ref p_cl, .ref p_li, .ref p_ec, .ref p_sc, .int z_dictionaryAt, .int z_tableAt, .int z_ended])), (p_re, .inr (7, [.int re_open, .int re_textAt, .int re_parseAt, .int re_limit, .int re_count, .int re_shown, .ref p_re_codes])), (p_re_codes, .inl (kI, 255, .inl re_codes)), (p_li, .inr (3, [.int li_count, .int li_latest, .ref p_li_lengths, .ref p_li_codes])), (p_li_lengths, .inl (kI, 8, .inl li_lengths)), (p_li_codes, .inl (kI, 2040, .inl li_codes))])) (va_Qv (fun (u : Int32 × Int32 × (Nat → Int32)) => K u.1 u.2.1 u.2.2) (fun (u : Int32 × Int32 × (Nat → Int32)) => zB (dC, dI) (zT kI kZ) (va_A [(p_z, .inr (9, [.int z_version, .ref p_me, .ref p_pa, .ref p_di, .ref p_pr, .ref p_re, .ref p_cl, .ref p_li, .ref p_ec, .ref p_sc, .int z_dictionaryAt, .int z_tableAt, .int z_ended])), (p_re, .inr (7, [.int re_open, .int re_textAt, .int re_parseAt, .int re_limit, .int re_count, .int re_shown, .ref p_re_codes])), (p_re_codes, .inl (kI, 255, .inl re_codes)), (p_li, .inr (3, [.int li_count, .int li_latest, .ref p_li_lengths, .ref p_li_codes])), (p_li_lengths, .inl (kI, 8, .inl li_lengths)), (p_li_codes, .inl (kI, 2040, .inl li_codes))] sz) [(p_z, .inr (9, [.int z_version, .ref p_me, .ref p_pa, .ref p_di, .ref p_pr, .ref p_re, .ref p_cl, .ref p_li, .ref p_ec, .ref p_sc, .int z_dictionaryAt, .int z_tableAt, .int z_ended])), (p_re, .inr (7, [.int re_open, .int re_textAt, .int re_parseAt, .int re_limit, .int u.1, .int u.2.1, .ref p_re_codes])), (p_re_codes, .inl (kI, 255, .inl u.2.2)), (p_li, .inr (3, [.int li_count, .int li_latest, .ref p_li_lengths, .ref p_li_codes])), (p_li_lengths, .inl (kI, 8, .inl li_lengths)), (p_li_codes, .inl (kI, 2040, .inl li_codes))]) (va_A [(p_z, .inr (9, [.int z_version, .ref p_me, .ref p_pa, .ref p_di, .ref p_pr, .ref p_re, .ref p_cl, .ref p_li, .ref p_ec, .ref p_sc, .int z_dictionaryAt, .int z_tableAt, .int z_ended])), (p_re, .inr (7, [.int re_open, .int re_textAt, .int re_parseAt, .int re_limit, .int re_count, .int re_shown, .ref p_re_codes])), (p_re_codes, .inl (kI, 255, .inl re_codes)), (p_li, .inr (3, [.int li_count, .int li_latest, .ref p_li_lengths, .ref p_li_codes])), (p_li_lengths, .inl (kI, 8, .inl li_lengths)), (p_li_codes, .inl (kI, 2040, .inl li_codes))] sz)) 0 0 (va_A [(p_z, .inr (9, [.int z_version, .ref p_me, .ref p_pa, .ref p_di, .ref p_pr, .ref p_re, .ref p_cl, .ref p_li, .ref p_ec, .ref p_sc, .int z_dictionaryAt, .int z_tableAt, .int z_ended])), (p_re, .inr (7, [.int re_open, .int re_textAt, .int re_parseAt, .int re_limit, .int re_count, .int re_shown, .ref p_re_codes])), (p_re_codes, .inl (kI, 255, .inl re_codes)), (p_li, .inr (3, [.int li_count, .int li_latest, .ref p_li_lengths, .ref p_li_codes])), (p_li_lengths, .inl (kI, 8, .inl li_lengths)), (p_li_codes, .inl (kI, 2040, .inl li_codes))] sz) := by
  refine zz_ofv (cc := cX9_showLine) (maxL := 4) (by decide) rfl (Nat.le_of_ble_eq_true rfl) ?_
  intro p e s m args below meth c A Q ls hx hb hml hown hts hK hA hR hP hD hS hl
  have hown : s.vm.findClass RX9 = some m.cls := hown
  have hl : lv_has ls 4 [(0, .ref p_z), (1, .int a1)] := hl
  have hi_X9 : ∀ w ∈ wsX90, w ∈ wsX9_showLine := fun _ h => (List.mem_cons_of_mem _ (List.mem_append_left _ (List.mem_append_left _ (List.mem_append_right _ h))))
  have hi_X7 : ∀ w ∈ wsX70, w ∈ wsX9_showLine := fun _ h => (List.mem_cons_of_mem _ (List.mem_append_left _ (List.mem_append_right _ h)))
  unfold wp_X9_showLine at h
  obtain ⟨H, eH⟩ : ∃ H, H = s.heap := ⟨_, rfl⟩
  obtain ⟨locs, eL⟩ : ∃ L : List Loc, L = [] := ⟨_, rfl⟩
  rw [← eL]
  have hS : va_S A s.heap s.heap locs := by rw [eL]; exact hS
  suffices hgo : ∀ H : Heap, va_P (dC, dI) vwCl [(p_z, .inr (9, [.int z_version, .ref p_me, .ref p_pa, .ref p_di, .ref p_pr, .ref p_re, .ref p_cl, .ref p_li, .ref p_ec, .ref p_sc, .int z_dictionaryAt, .int z_tableAt, .int z_ended])), (p_re, .inr (7, [.int re_open, .int re_textAt, .int re_parseAt, .int re_limit, .int re_count, .int re_shown, .ref p_re_codes])), (p_re_codes, .inl (kI, 255, .inl re_codes)), (p_li, .inr (3, [.int li_count, .int li_latest, .ref p_li_lengths, .ref p_li_codes])), (p_li_lengths, .inl (kI, 8, .inl li_lengths)), (p_li_codes, .inl (kI, 2040, .inl li_codes))] H → va_S A s.heap H locs → W p l e rmX9_showLine s m args below meth c H locs 0 0 Q (F0 m 0 ls []) from hgo _ hP hS
  clear hP hS eH H eL
  intro H hP hS
  refine lv_aload_n hx hb dX9_showLine_0 rfl (lv_at hl 0 rfl) ?_
  refine va_get (D := (dC, dI)) (ci := 9) (v := .ref p_re) (C := RX9) (T := TX9) (N := 13) hx hb hts hi_X9 hown hK hP 0 rfl rfl 5 (by decide) (hts (.fieldLink RX9 51 "ZInput" "reading" "LZInput$Reading;") (List.mem_cons_of_mem _ (List.mem_append_left _ (List.mem_append_left _ (List.mem_append_left _ (List.mem_append_left _ (List.mem_of_getElem? (i := 0) rfl))))))) (fun _ h9 => h9) rfl dX9_showLine_1 ?_
  refine zz_Vv (As := []) (rest := []) (wr := [(p_z, .inr (9, [.int z_version, .ref p_me, .ref p_pa, .ref p_di, .ref p_pr, .ref p_re, .ref p_cl, .ref p_li, .ref p_ec, .ref p_sc, .int z_dictionaryAt, .int z_tableAt, .int z_ended])), (p_re_codes, .inl (kI, 255, .inl re_codes)), (p_li, .inr (3, [.int li_count, .int li_latest, .ref p_li_lengths, .ref p_li_codes])), (p_li_lengths, .inl (kI, 8, .inl li_lengths)), (p_li_codes, .inl (kI, 2040, .inl li_codes))]) ⟨hx, hb, hml, hown, hts⟩ (cwV 0 hts gX9_showLine_X7_clear rfl rfl rfl (by decide +kernel) ⟨Nat.le_of_ble_eq_true rfl, Nat.le_of_ble_eq_true rfl⟩) hK hP hD hS hA (c_X7_clear l dC dI kI kZ H.size p_re p_re_codes re_open re_textAt re_parseAt re_limit re_shown re_count _ h) [1] [0, 2, 3, 4, 5] rfl rfl rfl rfl (by decide) 0 rfl rfl rfl rfl hl.1 (Nat.le_of_ble_eq_true rfl) dX9_showLine_4 (Nat.le_refl _) (Nat.le_refl _) (fun re_count_1 H locs h hP hD hS => ?_)
  have hP : va_P (dC, dI) vwCl [(p_z, .inr (9, [.int z_version, .ref p_me, .ref p_pa, .ref p_di, .ref p_pr, .ref p_re, .ref p_cl, .ref p_li, .ref p_ec, .ref p_sc, .int z_dictionaryAt, .int z_tableAt, .int z_ended])), (p_re, .inr (7, [.int re_open, .int re_textAt, .int re_parseAt, .int re_limit, .int re_count_1, .int re_shown, .ref p_re_codes])), (p_re_codes, .inl (kI, 255, .inl re_codes)), (p_li, .inr (3, [.int li_count, .int li_latest, .ref p_li_lengths, .ref p_li_codes])), (p_li_lengths, .inl (kI, 8, .inl li_lengths)), (p_li_codes, .inl (kI, 2040, .inl li_codes))] H := hP.sub [0, 5, 1, 2, 3, 4] rfl
  have hD : va_D A [(p_z, .inr (9, [.int z_version, .ref p_me, .ref p_pa, .ref p_di, .ref p_pr, .ref p_re, .ref p_cl, .ref p_li, .ref p_ec, .ref p_sc, .int z_dictionaryAt, .int z_tableAt, .int z_ended])), (p_re, .inr (7, [.int re_open, .int re_textAt, .int re_parseAt, .int re_limit, .int re_count_1, .int re_shown, .ref p_re_codes])), (p_re_codes, .inl (kI, 255, .inl re_codes)), (p_li, .inr (3, [.int li_count, .int li_latest, .ref p_li_lengths, .ref p_li_codes])), (p_li_lengths, .inl (kI, 8, .inl li_lengths)), (p_li_codes, .inl (kI, 2040, .inl li_codes))] := hD.sub [0, 5, 1, 2, 3, 4] rfl rfl
  refine lv_aload_n hx hb dX9_showLine_7 rfl (lv_at hl 0 rfl) ?_
  refine va_get (D := (dC, dI)) (ci := 9) (v := .ref p_li) (C := RX9) (T := TX9) (N := 13) hx hb hts hi_X9 hown hK hP 0 rfl rfl 7 (by decide) (hts (.fieldLink RX9 65 "ZInput" "lines" "LZInput$Lines;") (List.mem_cons_of_mem _ (List.mem_append_left _ (List.mem_append_left _ (List.mem_append_left _ (List.mem_append_left _ (List.mem_of_getElem? (i := 1) rfl))))))) (fun _ h9 => h9) rfl dX9_showLine_8 ?_
  refine lv_iload_n hx hb dX9_showLine_11 rfl (lv_at hl 1 rfl) ?_
  refine zz_Vi (As := [.int a1]) (rest := []) (wr := [(p_z, .inr (9, [.int z_version, .ref p_me, .ref p_pa, .ref p_di, .ref p_pr, .ref p_re, .ref p_cl, .ref p_li, .ref p_ec, .ref p_sc, .int z_dictionaryAt, .int z_tableAt, .int z_ended])), (p_re, .inr (7, [.int re_open, .int re_textAt, .int re_parseAt, .int re_limit, .int re_count_1, .int re_shown, .ref p_re_codes])), (p_re_codes, .inl (kI, 255, .inl re_codes)), (p_li_codes, .inl (kI, 2040, .inl li_codes))]) ⟨hx, hb, hml, hown, hts⟩ (cwV 1 hts gX9_showLine_X3_length rfl rfl rfl (by decide +kernel) ⟨Nat.le_of_ble_eq_true rfl, Nat.le_of_ble_eq_true rfl⟩) hK hP hD hS hA (c_X3_length l dC dI kI kZ H.size p_li p_li_lengths p_li_codes li_count li_latest li_lengths a1 _ h) [3, 4] [0, 1, 2, 5] rfl rfl rfl rfl (by decide) 0 rfl rfl rfl rfl hl.1 (Nat.le_of_ble_eq_true rfl) dX9_showLine_12 (Nat.le_refl _) (Nat.le_refl _) (fun r_1 u_1 H locs h hP hD hS => ?_)
  have hP : va_P (dC, dI) vwCl [(p_z, .inr (9, [.int z_version, .ref p_me, .ref p_pa, .ref p_di, .ref p_pr, .ref p_re, .ref p_cl, .ref p_li, .ref p_ec, .ref p_sc, .int z_dictionaryAt, .int z_tableAt, .int z_ended])), (p_re, .inr (7, [.int re_open, .int re_textAt, .int re_parseAt, .int re_limit, .int re_count_1, .int re_shown, .ref p_re_codes])), (p_re_codes, .inl (kI, 255, .inl re_codes)), (p_li, .inr (3, [.int li_count, .int li_latest, .ref p_li_lengths, .ref p_li_codes])), (p_li_lengths, .inl (kI, 8, .inl li_lengths)), (p_li_codes, .inl (kI, 2040, .inl li_codes))] H := hP.sub [0, 1, 2, 4, 5, 3] rfl
  have hD : va_D A [(p_z, .inr (9, [.int z_version, .ref p_me, .ref p_pa, .ref p_di, .ref p_pr, .ref p_re, .ref p_cl, .ref p_li, .ref p_ec, .ref p_sc, .int z_dictionaryAt, .int z_tableAt, .int z_ended])), (p_re, .inr (7, [.int re_open, .int re_textAt, .int re_parseAt, .int re_limit, .int re_count_1, .int re_shown, .ref p_re_codes])), (p_re_codes, .inl (kI, 255, .inl re_codes)), (p_li, .inr (3, [.int li_count, .int li_latest, .ref p_li_lengths, .ref p_li_codes])), (p_li_lengths, .inl (kI, 8, .inl li_lengths)), (p_li_codes, .inl (kI, 2040, .inl li_codes))] := hD.sub [0, 1, 2, 4, 5, 3] rfl rfl
  refine lv_istore_n (lv' := [(2, .int r_1), (0, .ref p_z), (1, .int a1)]) hx hb dX9_showLine_15 rfl hl (by decide) rfl (fun ls hl => ?_)
  refine lv_iconst (v := 0) hx hb dX9_showLine_16 (by decide) ?_
  refine lv_istore_n (lv' := [(3, .int 0), (2, .int r_1), (0, .ref p_z), (1, .int a1)]) hx hb dX9_showLine_17 rfl hl (by decide) rfl (fun ls hl => ?_)
  refine h (fun (x3_1 : Int32) (re_count_2 : Int32) (re_codes_1 : Nat → Int32) => ∀ (H : Heap) (locs : List Loc), va_P (dC, dI) vwCl [(p_z, .inr (9, [.int z_version, .ref p_me, .ref p_pa, .ref p_di, .ref p_pr, .ref p_re, .ref p_cl, .ref p_li, .ref p_ec, .ref p_sc, .int z_dictionaryAt, .int z_tableAt, .int z_ended])), (p_re, .inr (7, [.int re_open, .int re_textAt, .int re_parseAt, .int re_limit, .int re_count_2, .int re_shown, .ref p_re_codes])), (p_re_codes, .inl (kI, 255, .inl re_codes_1)), (p_li, .inr (3, [.int li_count, .int li_latest, .ref p_li_lengths, .ref p_li_codes])), (p_li_lengths, .inl (kI, 8, .inl li_lengths)), (p_li_codes, .inl (kI, 2040, .inl li_codes))] H → va_D A [(p_z, .inr (9, [.int z_version, .ref p_me, .ref p_pa, .ref p_di, .ref p_pr, .ref p_re, .ref p_cl, .ref p_li, .ref p_ec, .ref p_sc, .int z_dictionaryAt, .int z_tableAt, .int z_ended])), (p_re, .inr (7, [.int re_open, .int re_textAt, .int re_parseAt, .int re_limit, .int re_count_2, .int re_shown, .ref p_re_codes])), (p_re_codes, .inl (kI, 255, .inl re_codes_1)), (p_li, .inr (3, [.int li_count, .int li_latest, .ref p_li_lengths, .ref p_li_codes])), (p_li_lengths, .inl (kI, 8, .inl li_lengths)), (p_li_codes, .inl (kI, 2040, .inl li_codes))] → va_S A s.heap H locs → ∀ ls : Array Slot, lv_has ls 4 [(0, .ref p_z), (1, .int a1), (2, .int r_1), (3, .int x3_1)] → W p l e rmX9_showLine s m args below meth c H locs 0 0 Q (F0 m 18 ls [])) ?_ H locs hP hD hS ls (lv_sub hl [2, 3, 1, 0] rfl)
  clear h hP hD hS hl
  intro x3_1 re_count_2 re_codes_1 h H locs hP hD hS ls hl
  refine lv_iload_n hx hb dX9_showLine_18 rfl (lv_at hl 3 rfl) ?_
  refine lv_iload_n hx hb dX9_showLine_19 rfl (lv_at hl 2 rfl) ?_
  refine lv_icmp_ge (tgt := 45) hx hb dX9_showLine_20 (by decide) (fun c_ => ?_) (fun c_ => ?_)
  · have h := h.1 c_
    refine lv_aload_n hx hb dX9_showLine_45 rfl (lv_at hl 0 rfl) ?_
    refine va_get (D := (dC, dI)) (ci := 9) (v := .ref p_re) (C := RX9) (T := TX9) (N := 13) hx hb hts hi_X9 hown hK hP 0 rfl rfl 5 (by decide) (hts (.fieldLink RX9 51 "ZInput" "reading" "LZInput$Reading;") (List.mem_cons_of_mem _ (List.mem_append_left _ (List.mem_append_left _ (List.mem_append_left _ (List.mem_append_left _ (List.mem_of_getElem? (i := 0) rfl))))))) (fun _ h9 => h9) rfl dX9_showLine_46 ?_
    refine lv_iload_n hx hb dX9_showLine_49 rfl (lv_at hl 1 rfl) ?_
    refine va_put (D := (dC, dI)) (ci := 7) (v := .int a1) (ty := .int) (C := RX7) (T := TX7) (N := 7) hx hb hts hi_X7 tyX7 tyX7_ok nmX7 hown hK hP hD hS 1 rfl rfl 5 (by decide) (hts (.fieldLink RX9 223 "ZInput$Reading" "shown" "I") (List.mem_cons_of_mem _ (List.mem_append_left _ (List.mem_append_left _ (List.mem_append_left _ (List.mem_append_left _ (List.mem_of_getElem? (i := 2) rfl))))))) (fun _ h9 => h9) rfl (by decide +kernel) rfl rfl (Nat.le_of_ble_eq_true rfl) dX9_showLine_50 (fun H locs hP hD hS => ?_)
    have hP : va_P (dC, dI) vwCl [(p_z, .inr (9, [.int z_version, .ref p_me, .ref p_pa, .ref p_di, .ref p_pr, .ref p_re, .ref p_cl, .ref p_li, .ref p_ec, .ref p_sc, .int z_dictionaryAt, .int z_tableAt, .int z_ended])), (p_re, .inr (7, [.int re_open, .int re_textAt, .int re_parseAt, .int re_limit, .int re_count_2, .int a1, .ref p_re_codes])), (p_re_codes, .inl (kI, 255, .inl re_codes_1)), (p_li, .inr (3, [.int li_count, .int li_latest, .ref p_li_lengths, .ref p_li_codes])), (p_li_lengths, .inl (kI, 8, .inl li_lengths)), (p_li_codes, .inl (kI, 2040, .inl li_codes))] H := hP
    have hD : va_D A [(p_z, .inr (9, [.int z_version, .ref p_me, .ref p_pa, .ref p_di, .ref p_pr, .ref p_re, .ref p_cl, .ref p_li, .ref p_ec, .ref p_sc, .int z_dictionaryAt, .int z_tableAt, .int z_ended])), (p_re, .inr (7, [.int re_open, .int re_textAt, .int re_parseAt, .int re_limit, .int re_count_2, .int a1, .ref p_re_codes])), (p_re_codes, .inl (kI, 255, .inl re_codes_1)), (p_li, .inr (3, [.int li_count, .int li_latest, .ref p_li_lengths, .ref p_li_codes])), (p_li_lengths, .inl (kI, 8, .inl li_lengths)), (p_li_codes, .inl (kI, 2040, .inl li_codes))] := hD
    exact hR (re_count_2, a1, re_codes_1) H locs h hP hD hS _ ls dX9_showLine_53
  · have h := h.2 c_
    refine lv_aload_n hx hb dX9_showLine_23 rfl (lv_at hl 0 rfl) ?_
    refine va_get (D := (dC, dI)) (ci := 9) (v := .ref p_re) (C := RX9) (T := TX9) (N := 13) hx hb hts hi_X9 hown hK hP 0 rfl rfl 5 (by decide) (hts (.fieldLink RX9 51 "ZInput" "reading" "LZInput$Reading;") (List.mem_cons_of_mem _ (List.mem_append_left _ (List.mem_append_left _ (List.mem_append_left _ (List.mem_append_left _ (List.mem_of_getElem? (i := 0) rfl))))))) (fun _ h9 => h9) rfl dX9_showLine_24 ?_
    refine lv_aload_n hx hb dX9_showLine_27 rfl (lv_at hl 0 rfl) ?_
    refine va_get (D := (dC, dI)) (ci := 9) (v := .ref p_li) (C := RX9) (T := TX9) (N := 13) hx hb hts hi_X9 hown hK hP 0 rfl rfl 7 (by decide) (hts (.fieldLink RX9 65 "ZInput" "lines" "LZInput$Lines;") (List.mem_cons_of_mem _ (List.mem_append_left _ (List.mem_append_left _ (List.mem_append_left _ (List.mem_append_left _ (List.mem_of_getElem? (i := 1) rfl))))))) (fun _ h9 => h9) rfl dX9_showLine_28 ?_
    refine lv_iload_n hx hb dX9_showLine_31 rfl (lv_at hl 1 rfl) ?_
    refine lv_iload_n hx hb dX9_showLine_32 rfl (lv_at hl 3 rfl) ?_
    refine zz_Vi (As := [.int a1, .int x3_1]) (rest := [.ref p_re]) (wr := [(p_z, .inr (9, [.int z_version, .ref p_me, .ref p_pa, .ref p_di, .ref p_pr, .ref p_re, .ref p_cl, .ref p_li, .ref p_ec, .ref p_sc, .int z_dictionaryAt, .int z_tableAt, .int z_ended])), (p_re, .inr (7, [.int re_open, .int re_textAt, .int re_parseAt, .int re_limit, .int re_count_2, .int re_shown, .ref p_re_codes])), (p_re_codes, .inl (kI, 255, .inl re_codes_1))]) ⟨hx, hb, hml, hown, hts⟩ (cwV 2 hts gX9_showLine_X3_code rfl rfl rfl (by decide +kernel) ⟨Nat.le_of_ble_eq_true rfl, Nat.le_of_ble_eq_true rfl⟩) hK hP hD hS hA (c_X3_code l dC dI kI kZ H.size p_li p_li_lengths p_li_codes li_count li_latest li_lengths li_codes a1 x3_1 _ h) [3, 4, 5] [0, 1, 2] rfl rfl rfl rfl (by decide) 0 rfl rfl rfl rfl hl.1 (Nat.le_of_ble_eq_true rfl) dX9_showLine_33 (Nat.le_refl _) (Nat.le_refl _) (fun r_2 u_2 H locs h hP hD hS => ?_)
    have hP : va_P (dC, dI) vwCl [(p_z, .inr (9, [.int z_version, .ref p_me, .ref p_pa, .ref p_di, .ref p_pr, .ref p_re, .ref p_cl, .ref p_li, .ref p_ec, .ref p_sc, .int z_dictionaryAt, .int z_tableAt, .int z_ended])), (p_re, .inr (7, [.int re_open, .int re_textAt, .int re_parseAt, .int re_limit, .int re_count_2, .int re_shown, .ref p_re_codes])), (p_re_codes, .inl (kI, 255, .inl re_codes_1)), (p_li, .inr (3, [.int li_count, .int li_latest, .ref p_li_lengths, .ref p_li_codes])), (p_li_lengths, .inl (kI, 8, .inl li_lengths)), (p_li_codes, .inl (kI, 2040, .inl li_codes))] H := hP.sub [0, 1, 2, 3, 4, 5] rfl
    have hD : va_D A [(p_z, .inr (9, [.int z_version, .ref p_me, .ref p_pa, .ref p_di, .ref p_pr, .ref p_re, .ref p_cl, .ref p_li, .ref p_ec, .ref p_sc, .int z_dictionaryAt, .int z_tableAt, .int z_ended])), (p_re, .inr (7, [.int re_open, .int re_textAt, .int re_parseAt, .int re_limit, .int re_count_2, .int re_shown, .ref p_re_codes])), (p_re_codes, .inl (kI, 255, .inl re_codes_1)), (p_li, .inr (3, [.int li_count, .int li_latest, .ref p_li_lengths, .ref p_li_codes])), (p_li_lengths, .inl (kI, 8, .inl li_lengths)), (p_li_codes, .inl (kI, 2040, .inl li_codes))] := hD.sub [0, 1, 2, 3, 4, 5] rfl rfl
    refine zz_Vv (As := [.int r_2]) (rest := []) (wr := [(p_z, .inr (9, [.int z_version, .ref p_me, .ref p_pa, .ref p_di, .ref p_pr, .ref p_re, .ref p_cl, .ref p_li, .ref p_ec, .ref p_sc, .int z_dictionaryAt, .int z_tableAt, .int z_ended])), (p_li, .inr (3, [.int li_count, .int li_latest, .ref p_li_lengths, .ref p_li_codes])), (p_li_lengths, .inl (kI, 8, .inl li_lengths)), (p_li_codes, .inl (kI, 2040, .inl li_codes))]) ⟨hx, hb, hml, hown, hts⟩ (cwV 1 hts gX9_showLine_X7_add rfl rfl rfl (by decide +kernel) ⟨Nat.le_of_ble_eq_true rfl, Nat.le_of_ble_eq_true rfl⟩) hK hP hD hS hA (c_X7_add l dC dI kI kZ H.size p_re p_re_codes re_open re_textAt re_parseAt re_shown re_limit re_count_2 re_codes_1 r_2 _ h) [1, 2] [0, 3, 4, 5] rfl rfl rfl rfl (by decide) 0 rfl rfl rfl rfl hl.1 (Nat.le_of_ble_eq_true rfl) dX9_showLine_36 (Nat.le_refl _) (Nat.le_refl _) (fun u_3 H locs h hP hD hS => ?_)
    obtain ⟨re_count_3, re_codes_2⟩ := u_3
    have hP : va_P (dC, dI) vwCl [(p_z, .inr (9, [.int z_version, .ref p_me, .ref p_pa, .ref p_di, .ref p_pr, .ref p_re, .ref p_cl, .ref p_li, .ref p_ec, .ref p_sc, .int z_dictionaryAt, .int z_tableAt, .int z_ended])), (p_re, .inr (7, [.int re_open, .int re_textAt, .int re_parseAt, .int re_limit, .int re_count_3, .int re_shown, .ref p_re_codes])), (p_re_codes, .inl (kI, 255, .inl re_codes_2)), (p_li, .inr (3, [.int li_count, .int li_latest, .ref p_li_lengths, .ref p_li_codes])), (p_li_lengths, .inl (kI, 8, .inl li_lengths)), (p_li_codes, .inl (kI, 2040, .inl li_codes))] H := hP.sub [0, 4, 5, 1, 2, 3] rfl
    have hD : va_D A [(p_z, .inr (9, [.int z_version, .ref p_me, .ref p_pa, .ref p_di, .ref p_pr, .ref p_re, .ref p_cl, .ref p_li, .ref p_ec, .ref p_sc, .int z_dictionaryAt, .int z_tableAt, .int z_ended])), (p_re, .inr (7, [.int re_open, .int re_textAt, .int re_parseAt, .int re_limit, .int re_count_3, .int re_shown, .ref p_re_codes])), (p_re_codes, .inl (kI, 255, .inl re_codes_2)), (p_li, .inr (3, [.int li_count, .int li_latest, .ref p_li_lengths, .ref p_li_codes])), (p_li_lengths, .inl (kI, 8, .inl li_lengths)), (p_li_codes, .inl (kI, 2040, .inl li_codes))] := hD.sub [0, 4, 5, 1, 2, 3] rfl rfl
    refine lv_iinc (v := (x3_1 + 1)) (lv' := [(3, .int (x3_1 + 1)), (0, .ref p_z), (1, .int a1), (2, .int r_1)]) hx hb dX9_showLine_39 hl (k := 3) rfl rfl (by decide) rfl (fun ls hl => ?_)
    refine lv_goto (tgt := 18) hx hb dX9_showLine_42 (by decide) ?_
    exact h H locs hP hD hS ls (lv_sub hl [1, 2, 3, 0] rfl)
def wp_X9_showNewerLine (re_limit : Int32) (re_count : Int32) (re_shown : Int32) (re_codes : Nat → Int32) (li_count : Int32) (li_latest : Int32) (li_lengths : Nat → Int32) (li_codes : Nat → Int32) (K : Int32 → Int32 → (Nat → Int32) → Prop) : Prop :=
  ((re_shown = (-1)) → (K re_count re_shown re_codes)) ∧ ((¬ re_shown = (-1)) → (wp_X9_showLine re_limit re_count re_shown re_codes li_count li_latest li_lengths li_codes (re_shown - 1) (fun (re_count_1 : Int32) (re_shown_1 : Int32) (re_codes_1 : Nat → Int32) => K re_count_1 re_shown_1 re_codes_1)))
abbrev rmX9_showNewerLine : Room := { frames := 4, cells := 0, slots := 0, locals := 89 }
set_option maxHeartbeats 4000000 in
set_option maxRecDepth 100000 in
theorem c_X9_showNewerLine (l : Launch) (dC : Nat → ClassId) (dI : Nat → Nat → Nat) (kI kZ : ClassId) (sz : Nat) (p_z : Nat) (p_me : Nat) (p_pa : Nat) (p_di : Nat) (p_pr : Nat) (p_re : Nat) (p_cl : Nat) (p_li : Nat) (p_ec : Nat) (p_sc : Nat) (p_re_codes : Nat) (p_li_lengths : Nat) (p_li_codes : Nat) (z_version : Int32) (z_dictionaryAt : Int32) (z_tableAt : Int32) (z_ended : Int32) (re_open : Int32) (re_textAt : Int32) (re_parseAt : Int32) (re_limit : Int32) (re_count : Int32) (re_shown : Int32) (re_codes : Nat → Int32) (li_count : Int32) (li_latest : Int32) (li_lengths : Nat → Int32) (li_codes : Nat → Int32) (K : Int32 → Int32 → (Nat → Int32) → Prop) (h : wp_X9_showNewerLine re_limit re_count re_shown re_codes li_count li_latest li_lengths li_codes K) : Met l yX9_showNewerLine wsX9_showNewerLine rmX9_showNewerLine (va_Pc [.ref p_z] (zP (dC, dI) (zT kI kZ) sz [(p_z, .inr (9, [.int z_version, .ref p_me, .ref p_pa, .ref p_di, .ref p_pr, .ref p_re, .ref p_cl, .ref p_li, .ref p_ec, .ref p_sc, .int z_dictionaryAt, .int z_tableAt, .int z_ended])), (p_re, .inr (7, [.int re_open, .int re_textAt, .int re_parseAt, .int re_limit, .int re_count, .int re_shown, .ref p_re_codes])), (p_re_codes, .inl (kI, 255, .inl re_codes)), (p_li, .inr (3, [.int li_count, .int li_latest, .ref p_li_lengths, .ref p_li_codes])), (p_li_lengths, .inl (kI, 8, .inl li_lengths)), (p_li_codes, .inl (kI, 2040, .inl li_codes))])) (va_Qv (fun (u : Int32 × Int32 × (Nat → Int32)) => K u.1 u.2.1 u.2.2) (fun (u : Int32 × Int32 × (Nat → Int32)) => zB (dC, dI) (zT kI kZ) (va_A [(p_z, .inr (9, [.int z_version, .ref p_me, .ref p_pa, .ref p_di, .ref p_pr, .ref p_re, .ref p_cl, .ref p_li, .ref p_ec, .ref p_sc, .int z_dictionaryAt, .int z_tableAt, .int z_ended])), (p_re, .inr (7, [.int re_open, .int re_textAt, .int re_parseAt, .int re_limit, .int re_count, .int re_shown, .ref p_re_codes])), (p_re_codes, .inl (kI, 255, .inl re_codes)), (p_li, .inr (3, [.int li_count, .int li_latest, .ref p_li_lengths, .ref p_li_codes])), (p_li_lengths, .inl (kI, 8, .inl li_lengths)), (p_li_codes, .inl (kI, 2040, .inl li_codes))] sz) [(p_z, .inr (9, [.int z_version, .ref p_me, .ref p_pa, .ref p_di, .ref p_pr, .ref p_re, .ref p_cl, .ref p_li, .ref p_ec, .ref p_sc, .int z_dictionaryAt, .int z_tableAt, .int z_ended])), (p_re, .inr (7, [.int re_open, .int re_textAt, .int re_parseAt, .int re_limit, .int u.1, .int u.2.1, .ref p_re_codes])), (p_re_codes, .inl (kI, 255, .inl u.2.2)), (p_li, .inr (3, [.int li_count, .int li_latest, .ref p_li_lengths, .ref p_li_codes])), (p_li_lengths, .inl (kI, 8, .inl li_lengths)), (p_li_codes, .inl (kI, 2040, .inl li_codes))]) (va_A [(p_z, .inr (9, [.int z_version, .ref p_me, .ref p_pa, .ref p_di, .ref p_pr, .ref p_re, .ref p_cl, .ref p_li, .ref p_ec, .ref p_sc, .int z_dictionaryAt, .int z_tableAt, .int z_ended])), (p_re, .inr (7, [.int re_open, .int re_textAt, .int re_parseAt, .int re_limit, .int re_count, .int re_shown, .ref p_re_codes])), (p_re_codes, .inl (kI, 255, .inl re_codes)), (p_li, .inr (3, [.int li_count, .int li_latest, .ref p_li_lengths, .ref p_li_codes])), (p_li_lengths, .inl (kI, 8, .inl li_lengths)), (p_li_codes, .inl (kI, 2040, .inl li_codes))] sz)) 0 0 (va_A [(p_z, .inr (9, [.int z_version, .ref p_me, .ref p_pa, .ref p_di, .ref p_pr, .ref p_re, .ref p_cl, .ref p_li, .ref p_ec, .ref p_sc, .int z_dictionaryAt, .int z_tableAt, .int z_ended])), (p_re, .inr (7, [.int re_open, .int re_textAt, .int re_parseAt, .int re_limit, .int re_count, .int re_shown, .ref p_re_codes])), (p_re_codes, .inl (kI, 255, .inl re_codes)), (p_li, .inr (3, [.int li_count, .int li_latest, .ref p_li_lengths, .ref p_li_codes])), (p_li_lengths, .inl (kI, 8, .inl li_lengths)), (p_li_codes, .inl (kI, 2040, .inl li_codes))] sz) := by
  refine zz_ofv (cc := cX9_showNewerLine) (maxL := 1) (by decide) rfl (Nat.le_of_ble_eq_true rfl) ?_
  intro p e s m args below meth c A Q ls hx hb hml hown hts hK hA hR hP hD hS hl
  have hown : s.vm.findClass RX9 = some m.cls := hown
  have hl : lv_has ls 1 [(0, .ref p_z)] := hl
  have hi_X9 : ∀ w ∈ wsX90, w ∈ wsX9_showNewerLine := fun _ h => (List.mem_cons_of_mem _ (List.mem_append_left _ (List.mem_append_left _ (List.mem_append_right _ h))))
  have hi_X7 : ∀ w ∈ wsX70, w ∈ wsX9_showNewerLine := fun _ h => (List.mem_cons_of_mem _ (List.mem_append_left _ (List.mem_append_right _ h)))
  unfold wp_X9_showNewerLine at h
  obtain ⟨H, eH⟩ : ∃ H, H = s.heap := ⟨_, rfl⟩
  obtain ⟨locs, eL⟩ : ∃ L : List Loc, L = [] := ⟨_, rfl⟩
  rw [← eL]
  have hS : va_S A s.heap s.heap locs := by rw [eL]; exact hS
  suffices hgo : ∀ H : Heap, va_P (dC, dI) vwCl [(p_z, .inr (9, [.int z_version, .ref p_me, .ref p_pa, .ref p_di, .ref p_pr, .ref p_re, .ref p_cl, .ref p_li, .ref p_ec, .ref p_sc, .int z_dictionaryAt, .int z_tableAt, .int z_ended])), (p_re, .inr (7, [.int re_open, .int re_textAt, .int re_parseAt, .int re_limit, .int re_count, .int re_shown, .ref p_re_codes])), (p_re_codes, .inl (kI, 255, .inl re_codes)), (p_li, .inr (3, [.int li_count, .int li_latest, .ref p_li_lengths, .ref p_li_codes])), (p_li_lengths, .inl (kI, 8, .inl li_lengths)), (p_li_codes, .inl (kI, 2040, .inl li_codes))] H → va_S A s.heap H locs → W p l e rmX9_showNewerLine s m args below meth c H locs 0 0 Q (F0 m 0 ls []) from hgo _ hP hS
  clear hP hS eH H eL
  intro H hP hS
  refine lv_aload_n hx hb dX9_showNewerLine_0 rfl (lv_at hl 0 rfl) ?_
  refine va_get (D := (dC, dI)) (ci := 9) (v := .ref p_re) (C := RX9) (T := TX9) (N := 13) hx hb hts hi_X9 hown hK hP 0 rfl rfl 5 (by decide) (hts (.fieldLink RX9 51 "ZInput" "reading" "LZInput$Reading;") (List.mem_cons_of_mem _ (List.mem_append_left _ (List.mem_append_left _ (List.mem_append_left _ (List.mem_append_left _ (List.mem_of_getElem? (i := 0) rfl))))))) (fun _ h9 => h9) rfl dX9_showNewerLine_1 ?_
  refine va_get (D := (dC, dI)) (ci := 7) (v := .int re_shown) (C := RX7) (T := TX7) (N := 7) hx hb hts hi_X7 hown hK hP 1 rfl rfl 5 (by decide) (hts (.fieldLink RX9 223 "ZInput$Reading" "shown" "I") (List.mem_cons_of_mem _ (List.mem_append_left _ (List.mem_append_left _ (List.mem_append_left _ (List.mem_append_left _ (List.mem_of_getElem? (i := 1) rfl))))))) (fun _ h9 => h9) rfl dX9_showNewerLine_4 ?_
  refine lv_iconst (v := (-1)) hx hb dX9_showNewerLine_7 (by decide) ?_
  refine lv_icmp_eq (tgt := 24) hx hb dX9_showNewerLine_8 (by decide) (fun c_ => ?_) (fun c_ => ?_)
  · have h := h.1 c_
    exact hR (re_count, re_shown, re_codes) H locs h hP hD hS _ ls dX9_showNewerLine_24
  · have h := h.2 c_
    refine lv_aload_n hx hb dX9_showNewerLine_11 rfl (lv_at hl 0 rfl) ?_
    refine lv_aload_n hx hb dX9_showNewerLine_12 rfl (lv_at hl 0 rfl) ?_
    refine va_get (D := (dC, dI)) (ci := 9) (v := .ref p_re) (C := RX9) (T := TX9) (N := 13) hx hb hts hi_X9 hown hK hP 0 rfl rfl 5 (by decide) (hts (.fieldLink RX9 51 "ZInput" "reading" "LZInput$Reading;") (List.mem_cons_of_mem _ (List.mem_append_left _ (List.mem_append_left _ (List.mem_append_left _ (List.mem_append_left _ (List.mem_of_getElem? (i := 0) rfl))))))) (fun _ h9 => h9) rfl dX9_showNewerLine_13 ?_
    refine va_get (D := (dC, dI)) (ci := 7) (v := .int re_shown) (C := RX7) (T := TX7) (N := 7) hx hb hts hi_X7 hown hK hP 1 rfl rfl 5 (by decide) (hts (.fieldLink RX9 223 "ZInput$Reading" "shown" "I") (List.mem_cons_of_mem _ (List.mem_append_left _ (List.mem_append_left _ (List.mem_append_left _ (List.mem_append_left _ (List.mem_of_getElem? (i := 1) rfl))))))) (fun _ h9 => h9) rfl dX9_showNewerLine_16 ?_
    refine lv_iconst (v := 1) hx hb dX9_showNewerLine_19 (by decide) ?_
    refine lv_isub hx hb dX9_showNewerLine_20 ?_
    refine zz_Vv (As := [.int (re_shown - 1)]) (rest := []) (wr := []) ⟨hx, hb, hml, hown, hts⟩ (cwV 1 hts gX9_showNewerLine_X9_showLine rfl rfl rfl (by decide +kernel) ⟨Nat.le_of_ble_eq_true rfl, Nat.le_of_ble_eq_true rfl⟩) hK hP hD hS hA (c_X9_showLine l dC dI kI kZ H.size p_z p_me p_pa p_di p_pr p_re p_cl p_li p_ec p_sc p_re_codes p_li_lengths p_li_codes z_version z_dictionaryAt z_tableAt z_ended re_open re_textAt re_parseAt re_limit re_count re_shown re_codes li_count li_latest li_lengths li_codes (re_shown - 1) _ h) [0, 1, 2, 3, 4, 5] [] rfl rfl rfl rfl (by decide) 0 rfl rfl rfl rfl hl.1 (Nat.le_of_ble_eq_true rfl) dX9_showNewerLine_21 (Nat.le_refl _) (Nat.le_refl _) (fun u_1 H locs h hP hD hS => ?_)
    obtain ⟨re_count_1, re_shown_1, re_codes_1⟩ := u_1
    have hP : va_P (dC, dI) vwCl [(p_z, .inr (9, [.int z_version, .ref p_me, .ref p_pa, .ref p_di, .ref p_pr, .ref p_re, .ref p_cl, .ref p_li, .ref p_ec, .ref p_sc, .int z_dictionaryAt, .int z_tableAt, .int z_ended])), (p_re, .inr (7, [.int re_open, .int re_textAt, .int re_parseAt, .int re_limit, .int re_count_1, .int re_shown_1, .ref p_re_codes])), (p_re_codes, .inl (kI, 255, .inl re_codes_1)), (p_li, .inr (3, [.int li_count, .int li_latest, .ref p_li_lengths, .ref p_li_codes])), (p_li_lengths, .inl (kI, 8, .inl li_lengths)), (p_li_codes, .inl (kI, 2040, .inl li_codes))] H := hP.sub [0, 1, 2, 3, 4, 5] rfl
    have hD : va_D A [(p_z, .inr (9, [.int z_version, .ref p_me, .ref p_pa, .ref p_di, .ref p_pr, .ref p_re, .ref p_cl, .ref p_li, .ref p_ec, .ref p_sc, .int z_dictionaryAt, .int z_tableAt, .int z_ended])), (p_re, .inr (7, [.int re_open, .int re_textAt, .int re_parseAt, .int re_limit, .int re_count_1, .int re_shown_1, .ref p_re_codes])), (p_re_codes, .inl (kI, 255, .inl re_codes_1)), (p_li, .inr (3, [.int li_count, .int li_latest, .ref p_li_lengths, .ref p_li_codes])), (p_li_lengths, .inl (kI, 8, .inl li_lengths)), (p_li_codes, .inl (kI, 2040, .inl li_codes))] := hD.sub [0, 1, 2, 3, 4, 5] rfl rfl
    exact hR (re_count_1, re_shown_1, re_codes_1) H locs h hP hD hS _ ls dX9_showNewerLine_24
def wp_X9_showOlderLine (re_limit : Int32) (re_count : Int32) (re_shown : Int32) (re_codes : Nat → Int32) (li_count : Int32) (li_latest : Int32) (li_lengths : Nat → Int32) (li_codes : Nat → Int32) (K : Int32 → Int32 → (Nat → Int32) → Prop) : Prop :=
  ∀ v_1 : Int32, v_1 = (re_shown + 1) → (((li_count ≤ v_1) → (K re_count re_shown re_codes)) ∧ ((¬ li_count ≤ v_1) → (wp_X9_showLine re_limit re_count re_shown re_codes li_count li_latest li_lengths li_codes v_1 (fun (re_count_1 : Int32) (re_shown_1 : Int32) (re_codes_1 : Nat → Int32) => K re_count_1 re_shown_1 re_codes_1))))
abbrev rmX9_showOlderLine : Room := { frames := 4, cells := 0, slots := 0, locals := 89 }
set_option maxHeartbeats 4000000 in
set_option maxRecDepth 100000 in
theorem c_X9_showOlderLine (l : Launch) (dC : Nat → ClassId) (dI : Nat → Nat → Nat) (kI kZ : ClassId) (sz : Nat) (p_z : Nat) (p_me : Nat) (p_pa : Nat) (p_di : Nat) (p_pr : Nat) (p_re : Nat) (p_cl : Nat) (p_li : Nat) (p_ec : Nat) (p_sc : Nat) (p_re_codes : Nat) (p_li_lengths : Nat) (p_li_codes : Nat) (z_version : Int32) (z_dictionaryAt : Int32) (z_tableAt : Int32) (z_ended : Int32) (re_open : Int32) (re_textAt : Int32) (re_parseAt : Int32) (re_limit : Int32) (re_count : Int32) (re_shown : Int32) (re_codes : Nat → Int32) (li_count : Int32) (li_latest : Int32) (li_lengths : Nat → Int32) (li_codes : Nat → Int32) (K : Int32 → Int32 → (Nat → Int32) → Prop) (h : wp_X9_showOlderLine re_limit re_count re_shown re_codes li_count li_latest li_lengths li_codes K) : Met l yX9_showOlderLine wsX9_showOlderLine rmX9_showOlderLine (va_Pc [.ref p_z] (zP (dC, dI) (zT kI kZ) sz [(p_z, .inr (9, [.int z_version, .ref p_me, .ref p_pa, .ref p_di, .ref p_pr, .ref p_re, .ref p_cl, .ref p_li, .ref p_ec, .ref p_sc, .int z_dictionaryAt, .int z_tableAt, .int z_ended])), (p_re, .inr (7, [.int re_open, .int re_textAt, .int re_parseAt, .int re_limit, .int re_count, .int re_shown, .ref p_re_codes])), (p_re_codes, .inl (kI, 255, .inl re_codes)), (p_li, .inr (3, [.int li_count, .int li_latest, .ref p_li_lengths, .ref p_li_codes])), (p_li_lengths, .inl (kI, 8, .inl li_lengths)), (p_li_codes, .inl (kI, 2040, .inl li_codes))])) (va_Qv (fun (u : Int32 × Int32 × (Nat → Int32)) => K u.1 u.2.1 u.2.2) (fun (u : Int32 × Int32 × (Nat → Int32)) => zB (dC, dI) (zT kI kZ) (va_A [(p_z, .inr (9, [.int z_version, .ref p_me, .ref p_pa, .ref p_di, .ref p_pr, .ref p_re, .ref p_cl, .ref p_li, .ref p_ec, .ref p_sc, .int z_dictionaryAt, .int z_tableAt, .int z_ended])), (p_re, .inr (7, [.int re_open, .int re_textAt, .int re_parseAt, .int re_limit, .int re_count, .int re_shown, .ref p_re_codes])), (p_re_codes, .inl (kI, 255, .inl re_codes)), (p_li, .inr (3, [.int li_count, .int li_latest, .ref p_li_lengths, .ref p_li_codes])), (p_li_lengths, .inl (kI, 8, .inl li_lengths)), (p_li_codes, .inl (kI, 2040, .inl li_codes))] sz) [(p_z, .inr (9, [.int z_version, .ref p_me, .ref p_pa, .ref p_di, .ref p_pr, .ref p_re, .ref p_cl, .ref p_li, .ref p_ec, .ref p_sc, .int z_dictionaryAt, .int z_tableAt, .int z_ended])), (p_re, .inr (7, [.int re_open, .int re_textAt, .int re_parseAt, .int re_limit, .int u.1, .int u.2.1, .ref p_re_codes])), (p_re_codes, .inl (kI, 255, .inl u.2.2)), (p_li, .inr (3, [.int li_count, .int li_latest, .ref p_li_lengths, .ref p_li_codes])), (p_li_lengths, .inl (kI, 8, .inl li_lengths)), (p_li_codes, .inl (kI, 2040, .inl li_codes))]) (va_A [(p_z, .inr (9, [.int z_version, .ref p_me, .ref p_pa, .ref p_di, .ref p_pr, .ref p_re, .ref p_cl, .ref p_li, .ref p_ec, .ref p_sc, .int z_dictionaryAt, .int z_tableAt, .int z_ended])), (p_re, .inr (7, [.int re_open, .int re_textAt, .int re_parseAt, .int re_limit, .int re_count, .int re_shown, .ref p_re_codes])), (p_re_codes, .inl (kI, 255, .inl re_codes)), (p_li, .inr (3, [.int li_count, .int li_latest, .ref p_li_lengths, .ref p_li_codes])), (p_li_lengths, .inl (kI, 8, .inl li_lengths)), (p_li_codes, .inl (kI, 2040, .inl li_codes))] sz)) 0 0 (va_A [(p_z, .inr (9, [.int z_version, .ref p_me, .ref p_pa, .ref p_di, .ref p_pr, .ref p_re, .ref p_cl, .ref p_li, .ref p_ec, .ref p_sc, .int z_dictionaryAt, .int z_tableAt, .int z_ended])), (p_re, .inr (7, [.int re_open, .int re_textAt, .int re_parseAt, .int re_limit, .int re_count, .int re_shown, .ref p_re_codes])), (p_re_codes, .inl (kI, 255, .inl re_codes)), (p_li, .inr (3, [.int li_count, .int li_latest, .ref p_li_lengths, .ref p_li_codes])), (p_li_lengths, .inl (kI, 8, .inl li_lengths)), (p_li_codes, .inl (kI, 2040, .inl li_codes))] sz) := by
  refine zz_ofv (cc := cX9_showOlderLine) (maxL := 2) (by decide) rfl (Nat.le_of_ble_eq_true rfl) ?_
  intro p e s m args below meth c A Q ls hx hb hml hown hts hK hA hR hP hD hS hl
  have hown : s.vm.findClass RX9 = some m.cls := hown
  have hl : lv_has ls 2 [(0, .ref p_z)] := hl
  have hi_X9 : ∀ w ∈ wsX90, w ∈ wsX9_showOlderLine := fun _ h => (List.mem_cons_of_mem _ (List.mem_append_left _ (List.mem_append_left _ (List.mem_append_right _ h))))
  have hi_X7 : ∀ w ∈ wsX70, w ∈ wsX9_showOlderLine := fun _ h => (List.mem_cons_of_mem _ (List.mem_append_left _ (List.mem_append_right _ h)))
  have hi_X3 : ∀ w ∈ wsX30, w ∈ wsX9_showOlderLine := fun _ h => (List.mem_cons_of_mem _ (List.mem_append_right _ h))
  unfold wp_X9_showOlderLine at h
  obtain ⟨H, eH⟩ : ∃ H, H = s.heap := ⟨_, rfl⟩
  obtain ⟨locs, eL⟩ : ∃ L : List Loc, L = [] := ⟨_, rfl⟩
  rw [← eL]
  have hS : va_S A s.heap s.heap locs := by rw [eL]; exact hS
  suffices hgo : ∀ H : Heap, va_P (dC, dI) vwCl [(p_z, .inr (9, [.int z_version, .ref p_me, .ref p_pa, .ref p_di, .ref p_pr, .ref p_re, .ref p_cl, .ref p_li, .ref p_ec, .ref p_sc, .int z_dictionaryAt, .int z_tableAt, .int z_ended])), (p_re, .inr (7, [.int re_open, .int re_textAt, .int re_parseAt, .int re_limit, .int re_count, .int re_shown, .ref p_re_codes])), (p_re_codes, .inl (kI, 255, .inl re_codes)), (p_li, .inr (3, [.int li_count, .int li_latest, .ref p_li_lengths, .ref p_li_codes])), (p_li_lengths, .inl (kI, 8, .inl li_lengths)), (p_li_codes, .inl (kI, 2040, .inl li_codes))] H → va_S A s.heap H locs → W p l e rmX9_showOlderLine s m args below meth c H locs 0 0 Q (F0 m 0 ls []) from hgo _ hP hS
  clear hP hS eH H eL
  intro H hP hS
  refine lv_aload_n hx hb dX9_showOlderLine_0 rfl (lv_at hl 0 rfl) ?_
  refine va_get (D := (dC, dI)) (ci := 9) (v := .ref p_re) (C := RX9) (T := TX9) (N := 13) hx hb hts hi_X9 hown hK hP 0 rfl rfl 5 (by decide) (hts (.fieldLink RX9 51 "ZInput" "reading" "LZInput$Reading;") (List.mem_cons_of_mem _ (List.mem_append_left _ (List.mem_append_left _ (List.mem_append_left _ (List.mem_append_left _ (List.mem_of_getElem? (i := 0) rfl))))))) (fun _ h9 => h9) rfl dX9_showOlderLine_1 ?_
  refine va_get (D := (dC, dI)) (ci := 7) (v := .int re_shown) (C := RX7) (T := TX7) (N := 7) hx hb hts hi_X7 hown hK hP 1 rfl rfl 5 (by decide) (hts (.fieldLink RX9 223 "ZInput$Reading" "shown" "I") (List.mem_cons_of_mem _ (List.mem_append_left _ (List.mem_append_left _ (List.mem_append_left _ (List.mem_append_left _ (List.mem_of_getElem? (i := 1) rfl))))))) (fun _ h9 => h9) rfl dX9_showOlderLine_4 ?_
  refine lv_iconst (v := 1) hx hb dX9_showOlderLine_7 (by decide) ?_
  refine lv_iadd hx hb dX9_showOlderLine_8 ?_
  refine lv_topi (fun v_1 ev_1 => ?_)
  have h := h v_1 ev_1
  refine lv_istore_n (lv' := [(1, .int v_1), (0, .ref p_z)]) hx hb dX9_showOlderLine_9 rfl hl (by decide) rfl (fun ls hl => ?_)
  refine lv_iload_n hx hb dX9_showOlderLine_10 rfl (lv_at hl 0 rfl) ?_
  refine lv_aload_n hx hb dX9_showOlderLine_11 rfl (lv_at hl 1 rfl) ?_
  refine va_get (D := (dC, dI)) (ci := 9) (v := .ref p_li) (C := RX9) (T := TX9) (N := 13) hx hb hts hi_X9 hown hK hP 0 rfl rfl 7 (by decide) (hts (.fieldLink RX9 65 "ZInput" "lines" "LZInput$Lines;") (List.mem_cons_of_mem _ (List.mem_append_left _ (List.mem_append_left _ (List.mem_append_left _ (List.mem_append_left _ (List.mem_of_getElem? (i := 2) rfl))))))) (fun _ h9 => h9) rfl dX9_showOlderLine_12 ?_
  refine va_get (D := (dC, dI)) (ci := 3) (v := .int li_count) (C := RX3) (T := TX3) (N := 4) hx hb hts hi_X3 hown hK hP 3 rfl rfl 0 (by decide) (hts (.fieldLink RX9 183 "ZInput$Lines" "count" "I") (List.mem_cons_of_mem _ (List.mem_append_left _ (List.mem_append_left _ (List.mem_append_left _ (List.mem_append_left _ (List.mem_of_getElem? (i := 3) rfl))))))) (fun _ h9 => h9) rfl dX9_showOlderLine_15 ?_
  refine lv_icmp_ge (tgt := 26) hx hb dX9_showOlderLine_18 (by decide) (fun c_ => ?_) (fun c_ => ?_)
  · have h := h.1 c_
    exact hR (re_count, re_shown, re_codes) H locs h hP hD hS _ ls dX9_showOlderLine_26
  · have h := h.2 c_
    refine lv_aload_n hx hb dX9_showOlderLine_21 rfl (lv_at hl 1 rfl) ?_
    refine lv_iload_n hx hb dX9_showOlderLine_22 rfl (lv_at hl 0 rfl) ?_
    refine zz_Vv (As := [.int v_1]) (rest := []) (wr := []) ⟨hx, hb, hml, hown, hts⟩ (cwV 1 hts gX9_showOlderLine_X9_showLine rfl rfl rfl (by decide +kernel) ⟨Nat.le_of_ble_eq_true rfl, Nat.le_of_ble_eq_true rfl⟩) hK hP hD hS hA (c_X9_showLine l dC dI kI kZ H.size p_z p_me p_pa p_di p_pr p_re p_cl p_li p_ec p_sc p_re_codes p_li_lengths p_li_codes z_version z_dictionaryAt z_tableAt z_ended re_open re_textAt re_parseAt re_limit re_count re_shown re_codes li_count li_latest li_lengths li_codes v_1 _ h) [0, 1, 2, 3, 4, 5] [] rfl rfl rfl rfl (by decide) 0 rfl rfl rfl rfl hl.1 (Nat.le_of_ble_eq_true rfl) dX9_showOlderLine_23 (Nat.le_refl _) (Nat.le_refl _) (fun u_1 H locs h hP hD hS => ?_)
    obtain ⟨re_count_1, re_shown_1, re_codes_1⟩ := u_1
    have hP : va_P (dC, dI) vwCl [(p_z, .inr (9, [.int z_version, .ref p_me, .ref p_pa, .ref p_di, .ref p_pr, .ref p_re, .ref p_cl, .ref p_li, .ref p_ec, .ref p_sc, .int z_dictionaryAt, .int z_tableAt, .int z_ended])), (p_re, .inr (7, [.int re_open, .int re_textAt, .int re_parseAt, .int re_limit, .int re_count_1, .int re_shown_1, .ref p_re_codes])), (p_re_codes, .inl (kI, 255, .inl re_codes_1)), (p_li, .inr (3, [.int li_count, .int li_latest, .ref p_li_lengths, .ref p_li_codes])), (p_li_lengths, .inl (kI, 8, .inl li_lengths)), (p_li_codes, .inl (kI, 2040, .inl li_codes))] H := hP.sub [0, 1, 2, 3, 4, 5] rfl
    have hD : va_D A [(p_z, .inr (9, [.int z_version, .ref p_me, .ref p_pa, .ref p_di, .ref p_pr, .ref p_re, .ref p_cl, .ref p_li, .ref p_ec, .ref p_sc, .int z_dictionaryAt, .int z_tableAt, .int z_ended])), (p_re, .inr (7, [.int re_open, .int re_textAt, .int re_parseAt, .int re_limit, .int re_count_1, .int re_shown_1, .ref p_re_codes])), (p_re_codes, .inl (kI, 255, .inl re_codes_1)), (p_li, .inr (3, [.int li_count, .int li_latest, .ref p_li_lengths, .ref p_li_codes])), (p_li_lengths, .inl (kI, 8, .inl li_lengths)), (p_li_codes, .inl (kI, 2040, .inl li_codes))] := hD.sub [0, 1, 2, 3, 4, 5] rfl rfl
    exact hR (re_count_1, re_shown_1, re_codes_1) H locs h hP hD hS _ ls dX9_showOlderLine_26
def wp_X9_tables (z_dictionaryAt : Int32) (z_tableAt : Int32) (a1 : Int32) (a2 : Int32) (K : Int32 → Int32 → Int32 → Prop) : Prop :=
  wp_X9_isStart a1 (fun (r_1 : Int32) => ((r_1 = 0) → (K (-2) z_dictionaryAt z_tableAt)) ∧ ((¬ r_1 = 0) → (wp_X9_isStart a2 (fun (r_2 : Int32) => ((¬ r_2 = 0) → (K 1 a1 a2)) ∧ ((r_2 = 0) → (K (-2) z_dictionaryAt z_tableAt))))))
abbrev rmX9_tables : Room := { frames := 1, cells := 0, slots := 0, locals := 20 }
set_option maxHeartbeats 4000000 in
set_option maxRecDepth 100000 in
theorem c_X9_tables (l : Launch) (dC : Nat → ClassId) (dI : Nat → Nat → Nat) (kI kZ : ClassId) (sz : Nat) (p_z : Nat) (p_me : Nat) (p_pa : Nat) (p_di : Nat) (p_pr : Nat) (p_re : Nat) (p_cl : Nat) (p_li : Nat) (p_ec : Nat) (p_sc : Nat) (z_version : Int32) (z_ended : Int32) (z_dictionaryAt : Int32) (z_tableAt : Int32) (a1 : Int32) (a2 : Int32) (K : Int32 → Int32 → Int32 → Prop) (h : wp_X9_tables z_dictionaryAt z_tableAt a1 a2 K) : Met l yX9_tables wsX9_tables rmX9_tables (va_Pc [.ref p_z, .int a1, .int a2] (zP (dC, dI) (zT kI kZ) sz [(p_z, .inr (9, [.int z_version, .ref p_me, .ref p_pa, .ref p_di, .ref p_pr, .ref p_re, .ref p_cl, .ref p_li, .ref p_ec, .ref p_sc, .int z_dictionaryAt, .int z_tableAt, .int z_ended]))])) (va_Qi (fun (r : Int32) (u : Int32 × Int32) => K r u.1 u.2) (fun (u : Int32 × Int32) => zB (dC, dI) (zT kI kZ) (va_A [(p_z, .inr (9, [.int z_version, .ref p_me, .ref p_pa, .ref p_di, .ref p_pr, .ref p_re, .ref p_cl, .ref p_li, .ref p_ec, .ref p_sc, .int z_dictionaryAt, .int z_tableAt, .int z_ended]))] sz) [(p_z, .inr (9, [.int z_version, .ref p_me, .ref p_pa, .ref p_di, .ref p_pr, .ref p_re, .ref p_cl, .ref p_li, .ref p_ec, .ref p_sc, .int u.1, .int u.2, .int z_ended]))]) (va_A [(p_z, .inr (9, [.int z_version, .ref p_me, .ref p_pa, .ref p_di, .ref p_pr, .ref p_re, .ref p_cl, .ref p_li, .ref p_ec, .ref p_sc, .int z_dictionaryAt, .int z_tableAt, .int z_ended]))] sz)) 0 0 (va_A [(p_z, .inr (9, [.int z_version, .ref p_me, .ref p_pa, .ref p_di, .ref p_pr, .ref p_re, .ref p_cl, .ref p_li, .ref p_ec, .ref p_sc, .int z_dictionaryAt, .int z_tableAt, .int z_ended]))] sz) := by
  refine zz_ofi (cc := cX9_tables) (maxL := 3) (by decide) rfl (Nat.le_of_ble_eq_true rfl) ?_
  intro p e s m args below meth c A Q ls hx hb hml hown hts hK hA hR hP hD hS hl
  have hown : s.vm.findClass RX9 = some m.cls := hown
  have hl : lv_has ls 3 [(0, .ref p_z), (1, .int a1), (2, .int a2)] := hl
  have hi_X9 : ∀ w ∈ wsX90, w ∈ wsX9_tables := fun _ h => (List.mem_cons_of_mem _ (List.mem_append_right _ h))
  unfold wp_X9_tables at h
  obtain ⟨H, eH⟩ : ∃ H, H = s.heap := ⟨_, rfl⟩
  obtain ⟨locs, eL⟩ : ∃ L : List Loc, L = [] := ⟨_, rfl⟩
  rw [← eL]
  have hS : va_S A s.heap s.heap locs := by rw [eL]; exact hS
  suffices hgo : ∀ H : Heap, va_P (dC, dI) vwCl [(p_z, .inr (9, [.int z_version, .ref p_me, .ref p_pa, .ref p_di, .ref p_pr, .ref p_re, .ref p_cl, .ref p_li, .ref p_ec, .ref p_sc, .int z_dictionaryAt, .int z_tableAt, .int z_ended]))] H → va_S A s.heap H locs → W p l e rmX9_tables s m args below meth c H locs 0 0 Q (F0 m 0 ls []) from hgo _ hP hS
  clear hP hS eH H eL
  intro H hP hS
  refine lv_iload_n hx hb dX9_tables_0 rfl (lv_at hl 1 rfl) ?_
  refine zz_Si (As := [.int a1]) (rest := []) (wr := [(p_z, .inr (9, [.int z_version, .ref p_me, .ref p_pa, .ref p_di, .ref p_pr, .ref p_re, .ref p_cl, .ref p_li, .ref p_ec, .ref p_sc, .int z_dictionaryAt, .int z_tableAt, .int z_ended]))]) ⟨hx, hb, hml, hown, hts⟩ (va_cwS 1 hts gX9_tables_X9_isStart rfl rfl rfl (by decide +kernel) ⟨Nat.le_of_ble_eq_true rfl, Nat.le_of_ble_eq_true rfl⟩) hK hP hD hS hA (c_X9_isStart l dC dI kI kZ H.size a1 _ h) [] [0] rfl rfl rfl rfl (by decide) rfl rfl hl.1 (Nat.le_of_ble_eq_true rfl) dX9_tables_1 (Nat.le_refl _) (Nat.le_refl _) (fun r_1 u_1 H locs h hP hD hS => ?_)
  have hP : va_P (dC, dI) vwCl [(p_z, .inr (9, [.int z_version, .ref p_me, .ref p_pa, .ref p_di, .ref p_pr, .ref p_re, .ref p_cl, .ref p_li, .ref p_ec, .ref p_sc, .int z_dictionaryAt, .int z_tableAt, .int z_ended]))] H := hP.sub [0] rfl
  have hD : va_D A [(p_z, .inr (9, [.int z_version, .ref p_me, .ref p_pa, .ref p_di, .ref p_pr, .ref p_re, .ref p_cl, .ref p_li, .ref p_ec, .ref p_sc, .int z_dictionaryAt, .int z_tableAt, .int z_ended]))] := hD.sub [0] rfl rfl
  refine lv_if_eq (tgt := 14) hx hb dX9_tables_4 (by decide) (fun c_ => ?_) (fun c_ => ?_)
  · have h := h.1 c_
    refine lv_bipush (v := (-2)) hx hb dX9_tables_14 (by decide) ?_
    exact hR (-2) (z_dictionaryAt, z_tableAt) H locs h hP hD hS _ ls dX9_tables_16
  · have h := h.2 c_
    refine lv_iload_n hx hb dX9_tables_7 rfl (lv_at hl 2 rfl) ?_
    refine zz_Si (As := [.int a2]) (rest := []) (wr := [(p_z, .inr (9, [.int z_version, .ref p_me, .ref p_pa, .ref p_di, .ref p_pr, .ref p_re, .ref p_cl, .ref p_li, .ref p_ec, .ref p_sc, .int z_dictionaryAt, .int z_tableAt, .int z_ended]))]) ⟨hx, hb, hml, hown, hts⟩ (va_cwS 1 hts gX9_tables_X9_isStart rfl rfl rfl (by decide +kernel) ⟨Nat.le_of_ble_eq_true rfl, Nat.le_of_ble_eq_true rfl⟩) hK hP hD hS hA (c_X9_isStart l dC dI kI kZ H.size a2 _ h) [] [0] rfl rfl rfl rfl (by decide) rfl rfl hl.1 (Nat.le_of_ble_eq_true rfl) dX9_tables_8 (Nat.le_refl _) (Nat.le_refl _) (fun r_2 u_2 H locs h hP hD hS => ?_)
    have hP : va_P (dC, dI) vwCl [(p_z, .inr (9, [.int z_version, .ref p_me, .ref p_pa, .ref p_di, .ref p_pr, .ref p_re, .ref p_cl, .ref p_li, .ref p_ec, .ref p_sc, .int z_dictionaryAt, .int z_tableAt, .int z_ended]))] H := hP.sub [0] rfl
    have hD : va_D A [(p_z, .inr (9, [.int z_version, .ref p_me, .ref p_pa, .ref p_di, .ref p_pr, .ref p_re, .ref p_cl, .ref p_li, .ref p_ec, .ref p_sc, .int z_dictionaryAt, .int z_tableAt, .int z_ended]))] := hD.sub [0] rfl rfl
    refine lv_if_ne (tgt := 17) hx hb dX9_tables_11 (by decide) (fun c_ => ?_) (fun c_ => ?_)
    · have h := h.1 c_
      refine lv_aload_n hx hb dX9_tables_17 rfl (lv_at hl 0 rfl) ?_
      refine lv_iload_n hx hb dX9_tables_18 rfl (lv_at hl 1 rfl) ?_
      refine va_put (D := (dC, dI)) (ci := 9) (v := .int a1) (ty := .int) (C := RX9) (T := TX9) (N := 13) hx hb hts hi_X9 tyX9 tyX9_ok nmX9 hown hK hP hD hS 0 rfl rfl 10 (by decide) (hts (.fieldLink RX9 83 "ZInput" "dictionaryAt" "I") (List.mem_cons_of_mem _ (List.mem_append_left _ (List.mem_of_getElem? (i := 0) rfl)))) (fun _ h9 => h9) rfl (by decide +kernel) rfl rfl (Nat.le_of_ble_eq_true rfl) dX9_tables_19 (fun H locs hP hD hS => ?_)
      have hP : va_P (dC, dI) vwCl [(p_z, .inr (9, [.int z_version, .ref p_me, .ref p_pa, .ref p_di, .ref p_pr, .ref p_re, .ref p_cl, .ref p_li, .ref p_ec, .ref p_sc, .int a1, .int z_tableAt, .int z_ended]))] H := hP
      have hD : va_D A [(p_z, .inr (9, [.int z_version, .ref p_me, .ref p_pa, .ref p_di, .ref p_pr, .ref p_re, .ref p_cl, .ref p_li, .ref p_ec, .ref p_sc, .int a1, .int z_tableAt, .int z_ended]))] := hD
      refine lv_aload_n hx hb dX9_tables_22 rfl (lv_at hl 0 rfl) ?_
      refine lv_iload_n hx hb dX9_tables_23 rfl (lv_at hl 2 rfl) ?_
      refine va_put (D := (dC, dI)) (ci := 9) (v := .int a2) (ty := .int) (C := RX9) (T := TX9) (N := 13) hx hb hts hi_X9 tyX9 tyX9_ok nmX9 hown hK hP hD hS 0 rfl rfl 11 (by decide) (hts (.fieldLink RX9 86 "ZInput" "tableAt" "I") (List.mem_cons_of_mem _ (List.mem_append_left _ (List.mem_of_getElem? (i := 1) rfl)))) (fun _ h9 => h9) rfl (by decide +kernel) rfl rfl (Nat.le_of_ble_eq_true rfl) dX9_tables_24 (fun H locs hP hD hS => ?_)
      have hP : va_P (dC, dI) vwCl [(p_z, .inr (9, [.int z_version, .ref p_me, .ref p_pa, .ref p_di, .ref p_pr, .ref p_re, .ref p_cl, .ref p_li, .ref p_ec, .ref p_sc, .int a1, .int a2, .int z_ended]))] H := hP
      have hD : va_D A [(p_z, .inr (9, [.int z_version, .ref p_me, .ref p_pa, .ref p_di, .ref p_pr, .ref p_re, .ref p_cl, .ref p_li, .ref p_ec, .ref p_sc, .int a1, .int a2, .int z_ended]))] := hD
      refine lv_iconst (v := 1) hx hb dX9_tables_27 (by decide) ?_
      exact hR 1 (a1, a2) H locs h hP hD hS _ ls dX9_tables_28
    · have h := h.2 c_
      refine lv_bipush (v := (-2)) hx hb dX9_tables_14 (by decide) ?_
      exact hR (-2) (z_dictionaryAt, z_tableAt) H locs h hP hD hS _ ls dX9_tables_16
def wp_X9_tick (z_version : Int32) (z_ended : Int32) (me_octets : Nat → Int32) (re_open : Int32) (re_textAt : Int32) (re_count : Int32) (re_codes : Nat → Int32) (cl_calls : Int32) (cl_stopped : Int32) (cl_every : Int32) (cl_answers : Int32) (cl_answered : Int32) (cl_sinceCall : Int32) (a1 : Int32) (K : Int32 → Int32 → (Nat → Int32) → Int32 → Int32 → Int32 → Int32 → Int32 → Int32 → Prop) : Prop :=
  ((¬ re_open = 0) → (((a1 < 0) → (K (-2) z_ended me_octets re_open re_count cl_calls cl_stopped cl_answered cl_sinceCall)) ∧ ((¬ a1 < 0) → (((a1 ≤ 100000) → (wp_X0_pass cl_calls cl_stopped cl_every cl_answers cl_answered cl_sinceCall a1 (fun (r_1 : Int32) (cl_calls_1 : Int32) (cl_stopped_1 : Int32) (cl_answered_1 : Int32) (cl_sinceCall_1 : Int32) => ((cl_stopped_1 = 0) → (K r_1 z_ended me_octets re_open re_count cl_calls_1 cl_stopped_1 cl_answered_1 cl_sinceCall_1)) ∧ ((¬ cl_stopped_1 = 0) → (wp_X9_endByClock z_version z_ended me_octets re_open re_textAt re_count re_codes (fun (z_ended_1 : Int32) (me_octets_1 : Nat → Int32) (re_open_1 : Int32) (re_count_1 : Int32) => K r_1 z_ended_1 me_octets_1 re_open_1 re_count_1 cl_calls_1 cl_stopped_1 cl_answered_1 cl_sinceCall_1)))))) ∧ ((¬ a1 ≤ 100000) → (K (-2) z_ended me_octets re_open re_count cl_calls cl_stopped cl_answered cl_sinceCall)))))) ∧ ((re_open = 0) → (K (-1) z_ended me_octets re_open re_count cl_calls cl_stopped cl_answered cl_sinceCall))
abbrev rmX9_tick : Room := { frames := 3, cells := 0, slots := 0, locals := 64 }
set_option maxHeartbeats 4000000 in
set_option maxRecDepth 100000 in
theorem c_X9_tick (l : Launch) (dC : Nat → ClassId) (dI : Nat → Nat → Nat) (kI kZ : ClassId) (sz : Nat) (p_z : Nat) (p_me : Nat) (p_pa : Nat) (p_di : Nat) (p_pr : Nat) (p_re : Nat) (p_cl : Nat) (p_li : Nat) (p_ec : Nat) (p_sc : Nat) (p_me_octets : Nat) (p_re_codes : Nat) (z_dictionaryAt : Int32) (z_tableAt : Int32) (re_parseAt : Int32) (re_limit : Int32) (re_shown : Int32) (z_version : Int32) (z_ended : Int32) (me_octets : Nat → Int32) (re_open : Int32) (re_textAt : Int32) (re_count : Int32) (re_codes : Nat → Int32) (cl_calls : Int32) (cl_stopped : Int32) (cl_every : Int32) (cl_answers : Int32) (cl_answered : Int32) (cl_sinceCall : Int32) (a1 : Int32) (K : Int32 → Int32 → (Nat → Int32) → Int32 → Int32 → Int32 → Int32 → Int32 → Int32 → Prop) (h : wp_X9_tick z_version z_ended me_octets re_open re_textAt re_count re_codes cl_calls cl_stopped cl_every cl_answers cl_answered cl_sinceCall a1 K) : Met l yX9_tick wsX9_tick rmX9_tick (va_Pc [.ref p_z, .int a1] (zP (dC, dI) (zT kI kZ) sz [(p_z, .inr (9, [.int z_version, .ref p_me, .ref p_pa, .ref p_di, .ref p_pr, .ref p_re, .ref p_cl, .ref p_li, .ref p_ec, .ref p_sc, .int z_dictionaryAt, .int z_tableAt, .int z_ended])), (p_me, .inr (4, [.ref p_me_octets])), (p_me_octets, .inl (kI, 4096, .inl me_octets)), (p_re, .inr (7, [.int re_open, .int re_textAt, .int re_parseAt, .int re_limit, .int re_count, .int re_shown, .ref p_re_codes])), (p_re_codes, .inl (kI, 255, .inl re_codes)), (p_cl, .inr (0, [.int cl_calls, .int cl_stopped, .int cl_every, .int cl_answers, .int cl_answered, .int cl_sinceCall]))])) (va_Qi (fun (r : Int32) (u : Int32 × (Nat → Int32) × Int32 × Int32 × Int32 × Int32 × Int32 × Int32) => K r u.1 u.2.1 u.2.2.1 u.2.2.2.1 u.2.2.2.2.1 u.2.2.2.2.2.1 u.2.2.2.2.2.2.1 u.2.2.2.2.2.2.2) (fun (u : Int32 × (Nat → Int32) × Int32 × Int32 × Int32 × Int32 × Int32 × Int32) => zB (dC, dI) (zT kI kZ) (va_A [(p_z, .inr (9, [.int z_version, .ref p_me, .ref p_pa, .ref p_di, .ref p_pr, .ref p_re, .ref p_cl, .ref p_li, .ref p_ec, .ref p_sc, .int z_dictionaryAt, .int z_tableAt, .int z_ended])), (p_me, .inr (4, [.ref p_me_octets])), (p_me_octets, .inl (kI, 4096, .inl me_octets)), (p_re, .inr (7, [.int re_open, .int re_textAt, .int re_parseAt, .int re_limit, .int re_count, .int re_shown, .ref p_re_codes])), (p_re_codes, .inl (kI, 255, .inl re_codes)), (p_cl, .inr (0, [.int cl_calls, .int cl_stopped, .int cl_every, .int cl_answers, .int cl_answered, .int cl_sinceCall]))] sz) [(p_z, .inr (9, [.int z_version, .ref p_me, .ref p_pa, .ref p_di, .ref p_pr, .ref p_re, .ref p_cl, .ref p_li, .ref p_ec, .ref p_sc, .int z_dictionaryAt, .int z_tableAt, .int u.1])), (p_me, .inr (4, [.ref p_me_octets])), (p_me_octets, .inl (kI, 4096, .inl u.2.1)), (p_re, .inr (7, [.int u.2.2.1, .int re_textAt, .int re_parseAt, .int re_limit, .int u.2.2.2.1, .int re_shown, .ref p_re_codes])), (p_re_codes, .inl (kI, 255, .inl re_codes)), (p_cl, .inr (0, [.int u.2.2.2.2.1, .int u.2.2.2.2.2.1, .int cl_every, .int cl_answers, .int u.2.2.2.2.2.2.1, .int u.2.2.2.2.2.2.2]))]) (va_A [(p_z, .inr (9, [.int z_version, .ref p_me, .ref p_pa, .ref p_di, .ref p_pr, .ref p_re, .ref p_cl, .ref p_li, .ref p_ec, .ref p_sc, .int z_dictionaryAt, .int z_tableAt, .int z_ended])), (p_me, .inr (4, [.ref p_me_octets])), (p_me_octets, .inl (kI, 4096, .inl me_octets)), (p_re, .inr (7, [.int re_open, .int re_textAt, .int re_parseAt, .int re_limit, .int re_count, .int re_shown, .ref p_re_codes])), (p_re_codes, .inl (kI, 255, .inl re_codes)), (p_cl, .inr (0, [.int cl_calls, .int cl_stopped, .int cl_every, .int cl_answers, .int cl_answered, .int cl_sinceCall]))] sz)) 0 0 (va_A [(p_z, .inr (9, [.int z_version, .ref p_me, .ref p_pa, .ref p_di, .ref p_pr, .ref p_re, .ref p_cl, .ref p_li, .ref p_ec, .ref p_sc, .int z_dictionaryAt, .int z_tableAt, .int z_ended])), (p_me, .inr (4, [.ref p_me_octets])), (p_me_octets, .inl (kI, 4096, .inl me_octets)), (p_re, .inr (7, [.int re_open, .int re_textAt, .int re_parseAt, .int re_limit, .int re_count, .int re_shown, .ref p_re_codes])), (p_re_codes, .inl (kI, 255, .inl re_codes)), (p_cl, .inr (0, [.int cl_calls, .int cl_stopped, .int cl_every, .int cl_answers, .int cl_answered, .int cl_sinceCall]))] sz) := by
  refine zz_ofi (cc := cX9_tick) (maxL := 3) (by decide) rfl (Nat.le_of_ble_eq_true rfl) ?_
  intro p e s m args below meth c A Q ls hx hb hml hown hts hK hA hR hP hD hS hl
  have hown : s.vm.findClass RX9 = some m.cls := hown
  have hl : lv_has ls 3 [(0, .ref p_z), (1, .int a1)] := hl
  have hi_X9 : ∀ w ∈ wsX90, w ∈ wsX9_tick := fun _ h => (List.mem_cons_of_mem _ (List.mem_append_left _ (List.mem_append_left _ (List.mem_append_left _ (List.mem_append_right _ h)))))
  have hi_X7 : ∀ w ∈ wsX70, w ∈ wsX9_tick := fun _ h => (List.mem_cons_of_mem _ (List.mem_append_left _ (List.mem_append_left _ (List.mem_append_right _ h))))
  have hi_X0 : ∀ w ∈ wsX00, w ∈ wsX9_tick := fun _ h => (List.mem_cons_of_mem _ (List.mem_append_left _ (List.mem_append_right _ h)))
  unfold wp_X9_tick at h
  obtain ⟨H, eH⟩ : ∃ H, H = s.heap := ⟨_, rfl⟩
  obtain ⟨locs, eL⟩ : ∃ L : List Loc, L = [] := ⟨_, rfl⟩
  rw [← eL]
  have hS : va_S A s.heap s.heap locs := by rw [eL]; exact hS
  suffices hgo : ∀ H : Heap, va_P (dC, dI) vwCl [(p_z, .inr (9, [.int z_version, .ref p_me, .ref p_pa, .ref p_di, .ref p_pr, .ref p_re, .ref p_cl, .ref p_li, .ref p_ec, .ref p_sc, .int z_dictionaryAt, .int z_tableAt, .int z_ended])), (p_me, .inr (4, [.ref p_me_octets])), (p_me_octets, .inl (kI, 4096, .inl me_octets)), (p_re, .inr (7, [.int re_open, .int re_textAt, .int re_parseAt, .int re_limit, .int re_count, .int re_shown, .ref p_re_codes])), (p_re_codes, .inl (kI, 255, .inl re_codes)), (p_cl, .inr (0, [.int cl_calls, .int cl_stopped, .int cl_every, .int cl_answers, .int cl_answered, .int cl_sinceCall]))] H → va_S A s.heap H locs → W p l e rmX9_tick s m args below meth c H locs 0 0 Q (F0 m 0 ls []) from hgo _ hP hS
  clear hP hS eH H eL
  intro H hP hS
  refine lv_aload_n hx hb dX9_tick_0 rfl (lv_at hl 0 rfl) ?_
  refine va_get (D := (dC, dI)) (ci := 9) (v := .ref p_re) (C := RX9) (T := TX9) (N := 13) hx hb hts hi_X9 hown hK hP 0 rfl rfl 5 (by decide) (hts (.fieldLink RX9 51 "ZInput" "reading" "LZInput$Reading;") (List.mem_cons_of_mem _ (List.mem_append_left _ (List.mem_append_left _ (List.mem_append_left _ (List.mem_append_left _ (List.mem_append_left _ (List.mem_of_getElem? (i := 0) rfl)))))))) (fun _ h9 => h9) rfl dX9_tick_1 ?_
  refine va_get (D := (dC, dI)) (ci := 7) (v := .int re_open) (C := RX7) (T := TX7) (N := 7) hx hb hts hi_X7 hown hK hP 3 rfl rfl 0 (by decide) (hts (.fieldLink RX9 123 "ZInput$Reading" "open" "Z") (List.mem_cons_of_mem _ (List.mem_append_left _ (List.mem_append_left _ (List.mem_append_left _ (List.mem_append_left _ (List.mem_append_left _ (List.mem_of_getElem? (i := 1) rfl)))))))) (fun _ h9 => h9) rfl dX9_tick_4 ?_
  refine lv_if_ne (tgt := 12) hx hb dX9_tick_7 (by decide) (fun c_ => ?_) (fun c_ => ?_)
  · have h := h.1 c_
    refine lv_iload_n hx hb dX9_tick_12 rfl (lv_at hl 1 rfl) ?_
    refine lv_if_lt (tgt := 22) hx hb dX9_tick_13 (by decide) (fun c_ => ?_) (fun c_ => ?_)
    · have h := h.1 c_
      refine lv_bipush (v := (-2)) hx hb dX9_tick_22 (by decide) ?_
      exact hR (-2) (z_ended, me_octets, re_open, re_count, cl_calls, cl_stopped, cl_answered, cl_sinceCall) H locs h hP hD hS _ ls dX9_tick_24
    · have h := h.2 c_
      refine lv_iload_n hx hb dX9_tick_16 rfl (lv_at hl 1 rfl) ?_
      refine lv_ldc (v := 100000) hx hb hown (hts (.constant RX9 160 (100000)) (List.mem_cons_of_mem _ (List.mem_append_left _ (List.mem_append_left _ (List.mem_append_left _ (List.mem_append_left _ (List.mem_append_left _ (List.mem_of_getElem? (i := 2) rfl)))))))) dX9_tick_17 ?_
      refine lv_icmp_le (tgt := 25) hx hb dX9_tick_19 (by decide) (fun c_ => ?_) (fun c_ => ?_)
      · have h := h.1 c_
        refine lv_aload_n hx hb dX9_tick_25 rfl (lv_at hl 0 rfl) ?_
        refine va_get (D := (dC, dI)) (ci := 9) (v := .ref p_cl) (C := RX9) (T := TX9) (N := 13) hx hb hts hi_X9 hown hK hP 0 rfl rfl 6 (by decide) (hts (.fieldLink RX9 58 "ZInput" "clock" "LZInput$Clock;") (List.mem_cons_of_mem _ (List.mem_append_left _ (List.mem_append_left _ (List.mem_append_left _ (List.mem_append_left _ (List.mem_append_left _ (List.mem_of_getElem? (i := 3) rfl)))))))) (fun _ h9 => h9) rfl dX9_tick_26 ?_
        refine lv_iload_n hx hb dX9_tick_29 rfl (lv_at hl 1 rfl) ?_
        refine zz_Vi (As := [.int a1]) (rest := []) (wr := [(p_z, .inr (9, [.int z_version, .ref p_me, .ref p_pa, .ref p_di, .ref p_pr, .ref p_re, .ref p_cl, .ref p_li, .ref p_ec, .ref p_sc, .int z_dictionaryAt, .int z_tableAt, .int z_ended])), (p_me, .inr (4, [.ref p_me_octets])), (p_me_octets, .inl (kI, 4096, .inl me_octets)), (p_re, .inr (7, [.int re_open, .int re_textAt, .int re_parseAt, .int re_limit, .int re_count, .int re_shown, .ref p_re_codes])), (p_re_codes, .inl (kI, 255, .inl re_codes))]) ⟨hx, hb, hml, hown, hts⟩ (cwV 1 hts gX9_tick_X0_pass rfl rfl rfl (by decide +kernel) ⟨Nat.le_of_ble_eq_true rfl, Nat.le_of_ble_eq_true rfl⟩) hK hP hD hS hA (c_X0_pass l dC dI kI kZ H.size p_cl cl_calls cl_stopped cl_every cl_answers cl_answered cl_sinceCall a1 _ h) [5] [0, 1, 2, 3, 4] rfl rfl rfl rfl (by decide) 0 rfl rfl rfl rfl hl.1 (Nat.le_of_ble_eq_true rfl) dX9_tick_30 (Nat.le_refl _) (Nat.le_refl _) (fun r_1 u_1 H locs h hP hD hS => ?_)
        obtain ⟨cl_calls_1, cl_stopped_1, cl_answered_1, cl_sinceCall_1⟩ := u_1
        have hP : va_P (dC, dI) vwCl [(p_z, .inr (9, [.int z_version, .ref p_me, .ref p_pa, .ref p_di, .ref p_pr, .ref p_re, .ref p_cl, .ref p_li, .ref p_ec, .ref p_sc, .int z_dictionaryAt, .int z_tableAt, .int z_ended])), (p_me, .inr (4, [.ref p_me_octets])), (p_me_octets, .inl (kI, 4096, .inl me_octets)), (p_re, .inr (7, [.int re_open, .int re_textAt, .int re_parseAt, .int re_limit, .int re_count, .int re_shown, .ref p_re_codes])), (p_re_codes, .inl (kI, 255, .inl re_codes)), (p_cl, .inr (0, [.int cl_calls_1, .int cl_stopped_1, .int cl_every, .int cl_answers, .int cl_answered_1, .int cl_sinceCall_1]))] H := hP.sub [0, 1, 2, 3, 4, 5] rfl
        have hD : va_D A [(p_z, .inr (9, [.int z_version, .ref p_me, .ref p_pa, .ref p_di, .ref p_pr, .ref p_re, .ref p_cl, .ref p_li, .ref p_ec, .ref p_sc, .int z_dictionaryAt, .int z_tableAt, .int z_ended])), (p_me, .inr (4, [.ref p_me_octets])), (p_me_octets, .inl (kI, 4096, .inl me_octets)), (p_re, .inr (7, [.int re_open, .int re_textAt, .int re_parseAt, .int re_limit, .int re_count, .int re_shown, .ref p_re_codes])), (p_re_codes, .inl (kI, 255, .inl re_codes)), (p_cl, .inr (0, [.int cl_calls_1, .int cl_stopped_1, .int cl_every, .int cl_answers, .int cl_answered_1, .int cl_sinceCall_1]))] := hD.sub [0, 1, 2, 3, 4, 5] rfl rfl
        refine lv_istore_n (lv' := [(2, .int r_1), (0, .ref p_z), (1, .int a1)]) hx hb dX9_tick_33 rfl hl (by decide) rfl (fun ls hl => ?_)
        refine lv_aload_n hx hb dX9_tick_34 rfl (lv_at hl 1 rfl) ?_
        refine va_get (D := (dC, dI)) (ci := 9) (v := .ref p_cl) (C := RX9) (T := TX9) (N := 13) hx hb hts hi_X9 hown hK hP 0 rfl rfl 6 (by decide) (hts (.fieldLink RX9 58 "ZInput" "clock" "LZInput$Clock;") (List.mem_cons_of_mem _ (List.mem_append_left _ (List.mem_append_left _ (List.mem_append_left _ (List.mem_append_left _ (List.mem_append_left _ (List.mem_of_getElem? (i := 3) rfl)))))))) (fun _ h9 => h9) rfl dX9_tick_35 ?_
        refine va_get (D := (dC, dI)) (ci := 0) (v := .int cl_stopped_1) (C := RX0) (T := TX0) (N := 6) hx hb hts hi_X0 hown hK hP 5 rfl rfl 1 (by decide) (hts (.fieldLink RX9 164 "ZInput$Clock" "stopped" "Z") (List.mem_cons_of_mem _ (List.mem_append_left _ (List.mem_append_left _ (List.mem_append_left _ (List.mem_append_left _ (List.mem_append_left _ (List.mem_of_getElem? (i := 4) rfl)))))))) (fun _ h9 => h9) rfl dX9_tick_38 ?_
        refine lv_if_eq (tgt := 48) hx hb dX9_tick_41 (by decide) (fun c_ => ?_) (fun c_ => ?_)
        · have h := h.1 c_
          refine lv_iload_n hx hb dX9_tick_48 rfl (lv_at hl 0 rfl) ?_
          exact hR r_1 (z_ended, me_octets, re_open, re_count, cl_calls_1, cl_stopped_1, cl_answered_1, cl_sinceCall_1) H locs h hP hD hS _ ls dX9_tick_49
        · have h := h.2 c_
          refine lv_aload_n hx hb dX9_tick_44 rfl (lv_at hl 1 rfl) ?_
          refine zz_Vv (As := []) (rest := []) (wr := [(p_cl, .inr (0, [.int cl_calls_1, .int cl_stopped_1, .int cl_every, .int cl_answers, .int cl_answered_1, .int cl_sinceCall_1]))]) ⟨hx, hb, hml, hown, hts⟩ (cwV 0 hts gX9_tick_X9_endByClock rfl rfl rfl (by decide +kernel) ⟨Nat.le_of_ble_eq_true rfl, Nat.le_of_ble_eq_true rfl⟩) hK hP hD hS hA (c_X9_endByClock l dC dI kI kZ H.size p_z p_me p_pa p_di p_pr p_re p_cl p_li p_ec p_sc p_me_octets p_re_codes z_dictionaryAt z_tableAt re_parseAt re_limit re_shown z_version z_ended me_octets re_open re_textAt re_count re_codes _ h) [0, 1, 2, 3, 4] [5] rfl rfl rfl rfl (by decide) 0 rfl rfl rfl rfl hl.1 (Nat.le_of_ble_eq_true rfl) dX9_tick_45 (Nat.le_refl _) (Nat.le_refl _) (fun u_2 H locs h hP hD hS => ?_)
          obtain ⟨z_ended_1, me_octets_1, re_open_1, re_count_1⟩ := u_2
          have hP : va_P (dC, dI) vwCl [(p_z, .inr (9, [.int z_version, .ref p_me, .ref p_pa, .ref p_di, .ref p_pr, .ref p_re, .ref p_cl, .ref p_li, .ref p_ec, .ref p_sc, .int z_dictionaryAt, .int z_tableAt, .int z_ended_1])), (p_me, .inr (4, [.ref p_me_octets])), (p_me_octets, .inl (kI, 4096, .inl me_octets_1)), (p_re, .inr (7, [.int re_open_1, .int re_textAt, .int re_parseAt, .int re_limit, .int re_count_1, .int re_shown, .ref p_re_codes])), (p_re_codes, .inl (kI, 255, .inl re_codes)), (p_cl, .inr (0, [.int cl_calls_1, .int cl_stopped_1, .int cl_every, .int cl_answers, .int cl_answered_1, .int cl_sinceCall_1]))] H := hP.sub [1, 2, 3, 4, 5, 0] rfl
          have hD : va_D A [(p_z, .inr (9, [.int z_version, .ref p_me, .ref p_pa, .ref p_di, .ref p_pr, .ref p_re, .ref p_cl, .ref p_li, .ref p_ec, .ref p_sc, .int z_dictionaryAt, .int z_tableAt, .int z_ended_1])), (p_me, .inr (4, [.ref p_me_octets])), (p_me_octets, .inl (kI, 4096, .inl me_octets_1)), (p_re, .inr (7, [.int re_open_1, .int re_textAt, .int re_parseAt, .int re_limit, .int re_count_1, .int re_shown, .ref p_re_codes])), (p_re_codes, .inl (kI, 255, .inl re_codes)), (p_cl, .inr (0, [.int cl_calls_1, .int cl_stopped_1, .int cl_every, .int cl_answers, .int cl_answered_1, .int cl_sinceCall_1]))] := hD.sub [1, 2, 3, 4, 5, 0] rfl rfl
          refine lv_iload_n hx hb dX9_tick_48 rfl (lv_at hl 0 rfl) ?_
          exact hR r_1 (z_ended_1, me_octets_1, re_open_1, re_count_1, cl_calls_1, cl_stopped_1, cl_answered_1, cl_sinceCall_1) H locs h hP hD hS _ ls dX9_tick_49
      · have h := h.2 c_
        refine lv_bipush (v := (-2)) hx hb dX9_tick_22 (by decide) ?_
        exact hR (-2) (z_ended, me_octets, re_open, re_count, cl_calls, cl_stopped, cl_answered, cl_sinceCall) H locs h hP hD hS _ ls dX9_tick_24
  · have h := h.2 c_
    refine lv_iconst (v := (-1)) hx hb dX9_tick_10 (by decide) ?_
    exact hR (-1) (z_ended, me_octets, re_open, re_count, cl_calls, cl_stopped, cl_answered, cl_sinceCall) H locs h hP hD hS _ ls dX9_tick_11
def wp_X9_timed (z_version : Int32) (re_open : Int32) (cl_calls : Int32) (cl_every : Int32) (cl_answers : Int32) (cl_answered : Int32) (cl_sinceCall : Int32) (a1 : Int32) (a2 : Int32) (K : Int32 → Int32 → Int32 → Int32 → Int32 → Prop) : Prop :=
  ((¬ re_open = 0) → (((z_version < 4) → (K (-2) cl_every cl_answers cl_answered cl_sinceCall)) ∧ ((¬ z_version < 4) → (((a1 < 0) → (K (-2) cl_every cl_answers cl_answered cl_sinceCall)) ∧ ((¬ a1 < 0) → (((a1 ≤ 1000) → (wp_X0_set cl_every cl_answers cl_answered cl_sinceCall a1 a2 (fun (cl_every_1 : Int32) (cl_answers_1 : Int32) (cl_answered_1 : Int32) (cl_sinceCall_1 : Int32) => K cl_calls cl_every_1 cl_answers_1 cl_answered_1 cl_sinceCall_1))) ∧ ((¬ a1 ≤ 1000) → (K (-2) cl_every cl_answers cl_answered cl_sinceCall)))))))) ∧ ((re_open = 0) → (K (-1) cl_every cl_answers cl_answered cl_sinceCall))
abbrev rmX9_timed : Room := { frames := 1, cells := 0, slots := 0, locals := 22 }
set_option maxHeartbeats 4000000 in
set_option maxRecDepth 100000 in
theorem c_X9_timed (l : Launch) (dC : Nat → ClassId) (dI : Nat → Nat → Nat) (kI kZ : ClassId) (sz : Nat) (p_z : Nat) (p_me : Nat) (p_pa : Nat) (p_di : Nat) (p_pr : Nat) (p_re : Nat) (p_cl : Nat) (p_li : Nat) (p_ec : Nat) (p_sc : Nat) (p_re_codes : Nat) (z_dictionaryAt : Int32) (z_tableAt : Int32) (z_ended : Int32) (re_textAt : Int32) (re_parseAt : Int32) (re_limit : Int32) (re_count : Int32) (re_shown : Int32) (cl_stopped : Int32) (z_version : Int32) (re_open : Int32) (cl_calls : Int32) (cl_every : Int32) (cl_answers : Int32) (cl_answered : Int32) (cl_sinceCall : Int32) (a1 : Int32) (a2 : Int32) (K : Int32 → Int32 → Int32 → Int32 → Int32 → Prop) (h : wp_X9_timed z_version re_open cl_calls cl_every cl_answers cl_answered cl_sinceCall a1 a2 K) : Met l yX9_timed wsX9_timed rmX9_timed (va_Pc [.ref p_z, .int a1, .int a2] (zP (dC, dI) (zT kI kZ) sz [(p_z, .inr (9, [.int z_version, .ref p_me, .ref p_pa, .ref p_di, .ref p_pr, .ref p_re, .ref p_cl, .ref p_li, .ref p_ec, .ref p_sc, .int z_dictionaryAt, .int z_tableAt, .int z_ended])), (p_re, .inr (7, [.int re_open, .int re_textAt, .int re_parseAt, .int re_limit, .int re_count, .int re_shown, .ref p_re_codes])), (p_cl, .inr (0, [.int cl_calls, .int cl_stopped, .int cl_every, .int cl_answers, .int cl_answered, .int cl_sinceCall]))])) (va_Qi (fun (r : Int32) (u : Int32 × Int32 × Int32 × Int32) => K r u.1 u.2.1 u.2.2.1 u.2.2.2) (fun (u : Int32 × Int32 × Int32 × Int32) => zB (dC, dI) (zT kI kZ) (va_A [(p_z, .inr (9, [.int z_version, .ref p_me, .ref p_pa, .ref p_di, .ref p_pr, .ref p_re, .ref p_cl, .ref p_li, .ref p_ec, .ref p_sc, .int z_dictionaryAt, .int z_tableAt, .int z_ended])), (p_re, .inr (7, [.int re_open, .int re_textAt, .int re_parseAt, .int re_limit, .int re_count, .int re_shown, .ref p_re_codes])), (p_cl, .inr (0, [.int cl_calls, .int cl_stopped, .int cl_every, .int cl_answers, .int cl_answered, .int cl_sinceCall]))] sz) [(p_z, .inr (9, [.int z_version, .ref p_me, .ref p_pa, .ref p_di, .ref p_pr, .ref p_re, .ref p_cl, .ref p_li, .ref p_ec, .ref p_sc, .int z_dictionaryAt, .int z_tableAt, .int z_ended])), (p_re, .inr (7, [.int re_open, .int re_textAt, .int re_parseAt, .int re_limit, .int re_count, .int re_shown, .ref p_re_codes])), (p_cl, .inr (0, [.int cl_calls, .int cl_stopped, .int u.1, .int u.2.1, .int u.2.2.1, .int u.2.2.2]))]) (va_A [(p_z, .inr (9, [.int z_version, .ref p_me, .ref p_pa, .ref p_di, .ref p_pr, .ref p_re, .ref p_cl, .ref p_li, .ref p_ec, .ref p_sc, .int z_dictionaryAt, .int z_tableAt, .int z_ended])), (p_re, .inr (7, [.int re_open, .int re_textAt, .int re_parseAt, .int re_limit, .int re_count, .int re_shown, .ref p_re_codes])), (p_cl, .inr (0, [.int cl_calls, .int cl_stopped, .int cl_every, .int cl_answers, .int cl_answered, .int cl_sinceCall]))] sz)) 0 0 (va_A [(p_z, .inr (9, [.int z_version, .ref p_me, .ref p_pa, .ref p_di, .ref p_pr, .ref p_re, .ref p_cl, .ref p_li, .ref p_ec, .ref p_sc, .int z_dictionaryAt, .int z_tableAt, .int z_ended])), (p_re, .inr (7, [.int re_open, .int re_textAt, .int re_parseAt, .int re_limit, .int re_count, .int re_shown, .ref p_re_codes])), (p_cl, .inr (0, [.int cl_calls, .int cl_stopped, .int cl_every, .int cl_answers, .int cl_answered, .int cl_sinceCall]))] sz) := by
  refine zz_ofi (cc := cX9_timed) (maxL := 3) (by decide) rfl (Nat.le_of_ble_eq_true rfl) ?_
  intro p e s m args below meth c A Q ls hx hb hml hown hts hK hA hR hP hD hS hl
  have hown : s.vm.findClass RX9 = some m.cls := hown
  have hl : lv_has ls 3 [(0, .ref p_z), (1, .int a1), (2, .int a2)] := hl
  have hi_X9 : ∀ w ∈ wsX90, w ∈ wsX9_timed := fun _ h => (List.mem_cons_of_mem _ (List.mem_append_left _ (List.mem_append_left _ (List.mem_append_right _ h))))
  have hi_X7 : ∀ w ∈ wsX70, w ∈ wsX9_timed := fun _ h => (List.mem_cons_of_mem _ (List.mem_append_left _ (List.mem_append_right _ h)))
  have hi_X0 : ∀ w ∈ wsX00, w ∈ wsX9_timed := fun _ h => (List.mem_cons_of_mem _ (List.mem_append_right _ h))
  unfold wp_X9_timed at h
  obtain ⟨H, eH⟩ : ∃ H, H = s.heap := ⟨_, rfl⟩
  obtain ⟨locs, eL⟩ : ∃ L : List Loc, L = [] := ⟨_, rfl⟩
  rw [← eL]
  have hS : va_S A s.heap s.heap locs := by rw [eL]; exact hS
  suffices hgo : ∀ H : Heap, va_P (dC, dI) vwCl [(p_z, .inr (9, [.int z_version, .ref p_me, .ref p_pa, .ref p_di, .ref p_pr, .ref p_re, .ref p_cl, .ref p_li, .ref p_ec, .ref p_sc, .int z_dictionaryAt, .int z_tableAt, .int z_ended])), (p_re, .inr (7, [.int re_open, .int re_textAt, .int re_parseAt, .int re_limit, .int re_count, .int re_shown, .ref p_re_codes])), (p_cl, .inr (0, [.int cl_calls, .int cl_stopped, .int cl_every, .int cl_answers, .int cl_answered, .int cl_sinceCall]))] H → va_S A s.heap H locs → W p l e rmX9_timed s m args below meth c H locs 0 0 Q (F0 m 0 ls []) from hgo _ hP hS
  clear hP hS eH H eL
  intro H hP hS
  refine lv_aload_n hx hb dX9_timed_0 rfl (lv_at hl 0 rfl) ?_
  refine va_get (D := (dC, dI)) (ci := 9) (v := .ref p_re) (C := RX9) (T := TX9) (N := 13) hx hb hts hi_X9 hown hK hP 0 rfl rfl 5 (by decide) (hts (.fieldLink RX9 51 "ZInput" "reading" "LZInput$Reading;") (List.mem_cons_of_mem _ (List.mem_append_left _ (List.mem_append_left _ (List.mem_append_left _ (List.mem_of_getElem? (i := 0) rfl)))))) (fun _ h9 => h9) rfl dX9_timed_1 ?_
  refine va_get (D := (dC, dI)) (ci := 7) (v := .int re_open) (C := RX7) (T := TX7) (N := 7) hx hb hts hi_X7 hown hK hP 1 rfl rfl 0 (by decide) (hts (.fieldLink RX9 123 "ZInput$Reading" "open" "Z") (List.mem_cons_of_mem _ (List.mem_append_left _ (List.mem_append_left _ (List.mem_append_left _ (List.mem_of_getElem? (i := 1) rfl)))))) (fun _ h9 => h9) rfl dX9_timed_4 ?_
  refine lv_if_ne (tgt := 12) hx hb dX9_timed_7 (by decide) (fun c_ => ?_) (fun c_ => ?_)
  · have h := h.1 c_
    refine lv_aload_n hx hb dX9_timed_12 rfl (lv_at hl 0 rfl) ?_
    refine va_get (D := (dC, dI)) (ci := 9) (v := .int z_version) (C := RX9) (T := TX9) (N := 13) hx hb hts hi_X9 hown hK hP 0 rfl rfl 0 (by decide) (hts (.fieldLink RX9 22 "ZInput" "version" "I") (List.mem_cons_of_mem _ (List.mem_append_left _ (List.mem_append_left _ (List.mem_append_left _ (List.mem_of_getElem? (i := 2) rfl)))))) (fun _ h9 => h9) rfl dX9_timed_13 ?_
    refine lv_iconst (v := 4) hx hb dX9_timed_16 (by decide) ?_
    refine lv_icmp_lt (tgt := 31) hx hb dX9_timed_17 (by decide) (fun c_ => ?_) (fun c_ => ?_)
    · have h := h.1 c_
      refine lv_bipush (v := (-2)) hx hb dX9_timed_31 (by decide) ?_
      exact hR (-2) (cl_every, cl_answers, cl_answered, cl_sinceCall) H locs h hP hD hS _ ls dX9_timed_33
    · have h := h.2 c_
      refine lv_iload_n hx hb dX9_timed_20 rfl (lv_at hl 1 rfl) ?_
      refine lv_if_lt (tgt := 31) hx hb dX9_timed_21 (by decide) (fun c_ => ?_) (fun c_ => ?_)
      · have h := h.1 c_
        refine lv_bipush (v := (-2)) hx hb dX9_timed_31 (by decide) ?_
        exact hR (-2) (cl_every, cl_answers, cl_answered, cl_sinceCall) H locs h hP hD hS _ ls dX9_timed_33
      · have h := h.2 c_
        refine lv_iload_n hx hb dX9_timed_24 rfl (lv_at hl 1 rfl) ?_
        refine lv_sipush (v := 1000) hx hb dX9_timed_25 (by decide) ?_
        refine lv_icmp_le (tgt := 34) hx hb dX9_timed_28 (by decide) (fun c_ => ?_) (fun c_ => ?_)
        · have h := h.1 c_
          refine lv_aload_n hx hb dX9_timed_34 rfl (lv_at hl 0 rfl) ?_
          refine va_get (D := (dC, dI)) (ci := 9) (v := .ref p_cl) (C := RX9) (T := TX9) (N := 13) hx hb hts hi_X9 hown hK hP 0 rfl rfl 6 (by decide) (hts (.fieldLink RX9 58 "ZInput" "clock" "LZInput$Clock;") (List.mem_cons_of_mem _ (List.mem_append_left _ (List.mem_append_left _ (List.mem_append_left _ (List.mem_of_getElem? (i := 3) rfl)))))) (fun _ h9 => h9) rfl dX9_timed_35 ?_
          refine lv_iload_n hx hb dX9_timed_38 rfl (lv_at hl 1 rfl) ?_
          refine lv_iload_n hx hb dX9_timed_39 rfl (lv_at hl 2 rfl) ?_
          refine zz_Vv (As := [.int a1, .int a2]) (rest := []) (wr := [(p_z, .inr (9, [.int z_version, .ref p_me, .ref p_pa, .ref p_di, .ref p_pr, .ref p_re, .ref p_cl, .ref p_li, .ref p_ec, .ref p_sc, .int z_dictionaryAt, .int z_tableAt, .int z_ended])), (p_re, .inr (7, [.int re_open, .int re_textAt, .int re_parseAt, .int re_limit, .int re_count, .int re_shown, .ref p_re_codes]))]) ⟨hx, hb, hml, hown, hts⟩ (cwV 2 hts gX9_timed_X0_set rfl rfl rfl (by decide +kernel) ⟨Nat.le_of_ble_eq_true rfl, Nat.le_of_ble_eq_true rfl⟩) hK hP hD hS hA (c_X0_set l dC dI kI kZ H.size p_cl cl_calls cl_stopped cl_every cl_answers cl_answered cl_sinceCall a1 a2 _ h) [2] [0, 1] rfl rfl rfl rfl (by decide) 0 rfl rfl rfl rfl hl.1 (Nat.le_of_ble_eq_true rfl) dX9_timed_40 (Nat.le_refl _) (Nat.le_refl _) (fun u_1 H locs h hP hD hS => ?_)
          obtain ⟨cl_every_1, cl_answers_1, cl_answered_1, cl_sinceCall_1⟩ := u_1
          have hP : va_P (dC, dI) vwCl [(p_z, .inr (9, [.int z_version, .ref p_me, .ref p_pa, .ref p_di, .ref p_pr, .ref p_re, .ref p_cl, .ref p_li, .ref p_ec, .ref p_sc, .int z_dictionaryAt, .int z_tableAt, .int z_ended])), (p_re, .inr (7, [.int re_open, .int re_textAt, .int re_parseAt, .int re_limit, .int re_count, .int re_shown, .ref p_re_codes])), (p_cl, .inr (0, [.int cl_calls, .int cl_stopped, .int cl_every_1, .int cl_answers_1, .int cl_answered_1, .int cl_sinceCall_1]))] H := hP.sub [0, 1, 2] rfl
          have hD : va_D A [(p_z, .inr (9, [.int z_version, .ref p_me, .ref p_pa, .ref p_di, .ref p_pr, .ref p_re, .ref p_cl, .ref p_li, .ref p_ec, .ref p_sc, .int z_dictionaryAt, .int z_tableAt, .int z_ended])), (p_re, .inr (7, [.int re_open, .int re_textAt, .int re_parseAt, .int re_limit, .int re_count, .int re_shown, .ref p_re_codes])), (p_cl, .inr (0, [.int cl_calls, .int cl_stopped, .int cl_every_1, .int cl_answers_1, .int cl_answered_1, .int cl_sinceCall_1]))] := hD.sub [0, 1, 2] rfl rfl
          refine lv_aload_n hx hb dX9_timed_43 rfl (lv_at hl 0 rfl) ?_
          refine va_get (D := (dC, dI)) (ci := 9) (v := .ref p_cl) (C := RX9) (T := TX9) (N := 13) hx hb hts hi_X9 hown hK hP 0 rfl rfl 6 (by decide) (hts (.fieldLink RX9 58 "ZInput" "clock" "LZInput$Clock;") (List.mem_cons_of_mem _ (List.mem_append_left _ (List.mem_append_left _ (List.mem_append_left _ (List.mem_of_getElem? (i := 3) rfl)))))) (fun _ h9 => h9) rfl dX9_timed_44 ?_
          refine va_get (D := (dC, dI)) (ci := 0) (v := .int cl_calls) (C := RX0) (T := TX0) (N := 6) hx hb hts hi_X0 hown hK hP 2 rfl rfl 0 (by decide) (hts (.fieldLink RX9 157 "ZInput$Clock" "calls" "I") (List.mem_cons_of_mem _ (List.mem_append_left _ (List.mem_append_left _ (List.mem_append_left _ (List.mem_of_getElem? (i := 4) rfl)))))) (fun _ h9 => h9) rfl dX9_timed_47 ?_
          exact hR cl_calls (cl_every_1, cl_answers_1, cl_answered_1, cl_sinceCall_1) H locs h hP hD hS _ ls dX9_timed_50
        · have h := h.2 c_
          refine lv_bipush (v := (-2)) hx hb dX9_timed_31 (by decide) ?_
          exact hR (-2) (cl_every, cl_answers, cl_answered, cl_sinceCall) H locs h hP hD hS _ ls dX9_timed_33
  · have h := h.2 c_
    refine lv_iconst (v := (-1)) hx hb dX9_timed_10 (by decide) ?_
    exact hR (-1) (cl_every, cl_answers, cl_answered, cl_sinceCall) H locs h hP hD hS _ ls dX9_timed_11
def wp_X9_told (z_ended : Int32) (re_open : Int32) (re_limit : Int32) (re_count : Int32) (cl_calls : Int32) (li_count : Int32) (ec_total : Int32) (sc_count : Int32) (a1 : Int32) (K : Int32 → Prop) : Prop :=
  (a1 = 0 → (((re_open = 0) → (K 0)) ∧ ((¬ re_open = 0) → (K 1)))) ∧ (¬ a1 = 0 → ((a1 = 1 → (((re_open = 0) → (K 0)) ∧ ((¬ re_open = 0) → (K re_count)))) ∧ (¬ a1 = 1 → ((a1 = 2 → (((re_open = 0) → (K 0)) ∧ ((¬ re_open = 0) → (K re_limit)))) ∧ (¬ a1 = 2 → ((a1 = 3 → (K sc_count)) ∧ (¬ a1 = 3 → ((a1 = 4 → (K li_count)) ∧ (¬ a1 = 4 → ((a1 = 5 → (K ec_total)) ∧ (¬ a1 = 5 → ((a1 = 6 → (K z_ended)) ∧ (¬ a1 = 6 → ((a1 = 7 → (((re_open = 0) → (K 0)) ∧ ((¬ re_open = 0) → (K cl_calls)))) ∧ (¬ a1 = 7 → (K (-2)))))))))))))))))
abbrev rmX9_told : Room := { frames := 0, cells := 0, slots := 0, locals := 0 }
set_option maxHeartbeats 4000000 in
set_option maxRecDepth 100000 in
theorem c_X9_told (l : Launch) (dC : Nat → ClassId) (dI : Nat → Nat → Nat) (kI kZ : ClassId) (sz : Nat) (p_z : Nat) (p_me : Nat) (p_pa : Nat) (p_di : Nat) (p_pr : Nat) (p_re : Nat) (p_cl : Nat) (p_li : Nat) (p_ec : Nat) (p_sc : Nat) (p_re_codes : Nat) (p_li_lengths : Nat) (p_li_codes : Nat) (p_ec_codes : Nat) (p_sc_codes : Nat) (z_version : Int32) (z_dictionaryAt : Int32) (z_tableAt : Int32) (re_textAt : Int32) (re_parseAt : Int32) (re_shown : Int32) (cl_stopped : Int32) (cl_every : Int32) (cl_answers : Int32) (cl_answered : Int32) (cl_sinceCall : Int32) (li_latest : Int32) (sc_first : Int32) (z_ended : Int32) (re_open : Int32) (re_limit : Int32) (re_count : Int32) (cl_calls : Int32) (li_count : Int32) (ec_total : Int32) (sc_count : Int32) (a1 : Int32) (K : Int32 → Prop) (h : wp_X9_told z_ended re_open re_limit re_count cl_calls li_count ec_total sc_count a1 K) : Met l yX9_told wsX9_told rmX9_told (va_Pc [.ref p_z, .int a1] (zP (dC, dI) (zT kI kZ) sz [(p_z, .inr (9, [.int z_version, .ref p_me, .ref p_pa, .ref p_di, .ref p_pr, .ref p_re, .ref p_cl, .ref p_li, .ref p_ec, .ref p_sc, .int z_dictionaryAt, .int z_tableAt, .int z_ended])), (p_re, .inr (7, [.int re_open, .int re_textAt, .int re_parseAt, .int re_limit, .int re_count, .int re_shown, .ref p_re_codes])), (p_cl, .inr (0, [.int cl_calls, .int cl_stopped, .int cl_every, .int cl_answers, .int cl_answered, .int cl_sinceCall])), (p_li, .inr (3, [.int li_count, .int li_latest, .ref p_li_lengths, .ref p_li_codes])), (p_ec, .inr (2, [.int ec_total, .ref p_ec_codes])), (p_sc, .inr (8, [.int sc_count, .int sc_first, .ref p_sc_codes]))])) (va_Qi (fun (r : Int32) (u : Unit) => K r) (fun (u : Unit) => zB (dC, dI) (zT kI kZ) (va_A [(p_z, .inr (9, [.int z_version, .ref p_me, .ref p_pa, .ref p_di, .ref p_pr, .ref p_re, .ref p_cl, .ref p_li, .ref p_ec, .ref p_sc, .int z_dictionaryAt, .int z_tableAt, .int z_ended])), (p_re, .inr (7, [.int re_open, .int re_textAt, .int re_parseAt, .int re_limit, .int re_count, .int re_shown, .ref p_re_codes])), (p_cl, .inr (0, [.int cl_calls, .int cl_stopped, .int cl_every, .int cl_answers, .int cl_answered, .int cl_sinceCall])), (p_li, .inr (3, [.int li_count, .int li_latest, .ref p_li_lengths, .ref p_li_codes])), (p_ec, .inr (2, [.int ec_total, .ref p_ec_codes])), (p_sc, .inr (8, [.int sc_count, .int sc_first, .ref p_sc_codes]))] sz) [(p_z, .inr (9, [.int z_version, .ref p_me, .ref p_pa, .ref p_di, .ref p_pr, .ref p_re, .ref p_cl, .ref p_li, .ref p_ec, .ref p_sc, .int z_dictionaryAt, .int z_tableAt, .int z_ended])), (p_re, .inr (7, [.int re_open, .int re_textAt, .int re_parseAt, .int re_limit, .int re_count, .int re_shown, .ref p_re_codes])), (p_cl, .inr (0, [.int cl_calls, .int cl_stopped, .int cl_every, .int cl_answers, .int cl_answered, .int cl_sinceCall])), (p_li, .inr (3, [.int li_count, .int li_latest, .ref p_li_lengths, .ref p_li_codes])), (p_ec, .inr (2, [.int ec_total, .ref p_ec_codes])), (p_sc, .inr (8, [.int sc_count, .int sc_first, .ref p_sc_codes]))]) (va_A [(p_z, .inr (9, [.int z_version, .ref p_me, .ref p_pa, .ref p_di, .ref p_pr, .ref p_re, .ref p_cl, .ref p_li, .ref p_ec, .ref p_sc, .int z_dictionaryAt, .int z_tableAt, .int z_ended])), (p_re, .inr (7, [.int re_open, .int re_textAt, .int re_parseAt, .int re_limit, .int re_count, .int re_shown, .ref p_re_codes])), (p_cl, .inr (0, [.int cl_calls, .int cl_stopped, .int cl_every, .int cl_answers, .int cl_answered, .int cl_sinceCall])), (p_li, .inr (3, [.int li_count, .int li_latest, .ref p_li_lengths, .ref p_li_codes])), (p_ec, .inr (2, [.int ec_total, .ref p_ec_codes])), (p_sc, .inr (8, [.int sc_count, .int sc_first, .ref p_sc_codes]))] sz)) 0 0 (va_A [(p_z, .inr (9, [.int z_version, .ref p_me, .ref p_pa, .ref p_di, .ref p_pr, .ref p_re, .ref p_cl, .ref p_li, .ref p_ec, .ref p_sc, .int z_dictionaryAt, .int z_tableAt, .int z_ended])), (p_re, .inr (7, [.int re_open, .int re_textAt, .int re_parseAt, .int re_limit, .int re_count, .int re_shown, .ref p_re_codes])), (p_cl, .inr (0, [.int cl_calls, .int cl_stopped, .int cl_every, .int cl_answers, .int cl_answered, .int cl_sinceCall])), (p_li, .inr (3, [.int li_count, .int li_latest, .ref p_li_lengths, .ref p_li_codes])), (p_ec, .inr (2, [.int ec_total, .ref p_ec_codes])), (p_sc, .inr (8, [.int sc_count, .int sc_first, .ref p_sc_codes]))] sz) := by
  refine zz_ofi (cc := cX9_told) (maxL := 2) (by decide) rfl (Nat.le_of_ble_eq_true rfl) ?_
  intro p e s m args below meth c A Q ls hx hb hml hown hts hK hA hR hP hD hS hl
  have hown : s.vm.findClass RX9 = some m.cls := hown
  have hl : lv_has ls 2 [(0, .ref p_z), (1, .int a1)] := hl
  have hi_X9 : ∀ w ∈ wsX90, w ∈ wsX9_told := fun _ h => (List.mem_cons_of_mem _ (List.mem_append_left _ (List.mem_append_left _ (List.mem_append_left _ (List.mem_append_left _ (List.mem_append_left _ (List.mem_append_right _ h)))))))
  have hi_X7 : ∀ w ∈ wsX70, w ∈ wsX9_told := fun _ h => (List.mem_cons_of_mem _ (List.mem_append_left _ (List.mem_append_left _ (List.mem_append_left _ (List.mem_append_left _ (List.mem_append_right _ h))))))
  have hi_X0 : ∀ w ∈ wsX00, w ∈ wsX9_told := fun _ h => (List.mem_cons_of_mem _ (List.mem_append_right _ h))
  have hi_X2 : ∀ w ∈ wsX20, w ∈ wsX9_told := fun _ h => (List.mem_cons_of_mem _ (List.mem_append_left _ (List.mem_append_right _ h)))
  have hi_X3 : ∀ w ∈ wsX30, w ∈ wsX9_told := fun _ h => (List.mem_cons_of_mem _ (List.mem_append_left _ (List.mem_append_left _ (List.mem_append_right _ h))))
  have hi_X8 : ∀ w ∈ wsX80, w ∈ wsX9_told := fun _ h => (List.mem_cons_of_mem _ (List.mem_append_left _ (List.mem_append_left _ (List.mem_append_left _ (List.mem_append_right _ h)))))
  unfold wp_X9_told at h
  obtain ⟨H, eH⟩ : ∃ H, H = s.heap := ⟨_, rfl⟩
  obtain ⟨locs, eL⟩ : ∃ L : List Loc, L = [] := ⟨_, rfl⟩
  rw [← eL]
  have hS : va_S A s.heap s.heap locs := by rw [eL]; exact hS
  suffices hgo : ∀ H : Heap, va_P (dC, dI) vwCl [(p_z, .inr (9, [.int z_version, .ref p_me, .ref p_pa, .ref p_di, .ref p_pr, .ref p_re, .ref p_cl, .ref p_li, .ref p_ec, .ref p_sc, .int z_dictionaryAt, .int z_tableAt, .int z_ended])), (p_re, .inr (7, [.int re_open, .int re_textAt, .int re_parseAt, .int re_limit, .int re_count, .int re_shown, .ref p_re_codes])), (p_cl, .inr (0, [.int cl_calls, .int cl_stopped, .int cl_every, .int cl_answers, .int cl_answered, .int cl_sinceCall])), (p_li, .inr (3, [.int li_count, .int li_latest, .ref p_li_lengths, .ref p_li_codes])), (p_ec, .inr (2, [.int ec_total, .ref p_ec_codes])), (p_sc, .inr (8, [.int sc_count, .int sc_first, .ref p_sc_codes]))] H → va_S A s.heap H locs → W p l e rmX9_told s m args below meth c H locs 0 0 Q (F0 m 0 ls []) from hgo _ hP hS
  clear hP hS eH H eL
  intro H hP hS
  refine lv_iload_n hx hb dX9_told_0 rfl (lv_at hl 1 rfl) ?_
  by_cases c_ : a1 = 0
  · have h := h.1 c_
    refine lv_tableIn (off := 47) (tgt := 48) hx hb dX9_told_1 (by rw [c_]; decide) (by rw [c_]; decide) (by rw [c_]; rfl) (by decide) ?_
    refine lv_aload_n hx hb dX9_told_48 rfl (lv_at hl 0 rfl) ?_
    refine va_get (D := (dC, dI)) (ci := 9) (v := .ref p_re) (C := RX9) (T := TX9) (N := 13) hx hb hts hi_X9 hown hK hP 0 rfl rfl 5 (by decide) (hts (.fieldLink RX9 51 "ZInput" "reading" "LZInput$Reading;") (List.mem_cons_of_mem _ (List.mem_append_left _ (List.mem_append_left _ (List.mem_append_left _ (List.mem_append_left _ (List.mem_append_left _ (List.mem_append_left _ (List.mem_of_getElem? (i := 0) rfl))))))))) (fun _ h9 => h9) rfl dX9_told_49 ?_
    refine va_get (D := (dC, dI)) (ci := 7) (v := .int re_open) (C := RX7) (T := TX7) (N := 7) hx hb hts hi_X7 hown hK hP 1 rfl rfl 0 (by decide) (hts (.fieldLink RX9 123 "ZInput$Reading" "open" "Z") (List.mem_cons_of_mem _ (List.mem_append_left _ (List.mem_append_left _ (List.mem_append_left _ (List.mem_append_left _ (List.mem_append_left _ (List.mem_append_left _ (List.mem_of_getElem? (i := 1) rfl))))))))) (fun _ h9 => h9) rfl dX9_told_52 ?_
    refine lv_if_eq (tgt := 62) hx hb dX9_told_55 (by decide) (fun c_ => ?_) (fun c_ => ?_)
    · have h := h.1 c_
      refine lv_iconst (v := 0) hx hb dX9_told_62 (by decide) ?_
      exact hR 0 () H locs h hP hD hS _ ls dX9_told_63
    · have h := h.2 c_
      refine lv_iconst (v := 1) hx hb dX9_told_58 (by decide) ?_
      refine lv_goto (tgt := 63) hx hb dX9_told_59 (by decide) ?_
      exact hR 1 () H locs h hP hD hS _ ls dX9_told_63
  have h := h.2 c_
  have c_0 := c_
  by_cases c_ : a1 = 1
  · have h := h.1 c_
    refine lv_tableIn (off := 63) (tgt := 64) hx hb dX9_told_1 (by rw [c_]; decide) (by rw [c_]; decide) (by rw [c_]; rfl) (by decide) ?_
    refine lv_aload_n hx hb dX9_told_64 rfl (lv_at hl 0 rfl) ?_
    refine va_get (D := (dC, dI)) (ci := 9) (v := .ref p_re) (C := RX9) (T := TX9) (N := 13) hx hb hts hi_X9 hown hK hP 0 rfl rfl 5 (by decide) (hts (.fieldLink RX9 51 "ZInput" "reading" "LZInput$Reading;") (List.mem_cons_of_mem _ (List.mem_append_left _ (List.mem_append_left _ (List.mem_append_left _ (List.mem_append_left _ (List.mem_append_left _ (List.mem_append_left _ (List.mem_of_getElem? (i := 0) rfl))))))))) (fun _ h9 => h9) rfl dX9_told_65 ?_
    refine va_get (D := (dC, dI)) (ci := 7) (v := .int re_open) (C := RX7) (T := TX7) (N := 7) hx hb hts hi_X7 hown hK hP 1 rfl rfl 0 (by decide) (hts (.fieldLink RX9 123 "ZInput$Reading" "open" "Z") (List.mem_cons_of_mem _ (List.mem_append_left _ (List.mem_append_left _ (List.mem_append_left _ (List.mem_append_left _ (List.mem_append_left _ (List.mem_append_left _ (List.mem_of_getElem? (i := 1) rfl))))))))) (fun _ h9 => h9) rfl dX9_told_68 ?_
    refine lv_if_eq (tgt := 84) hx hb dX9_told_71 (by decide) (fun c_ => ?_) (fun c_ => ?_)
    · have h := h.1 c_
      refine lv_iconst (v := 0) hx hb dX9_told_84 (by decide) ?_
      exact hR 0 () H locs h hP hD hS _ ls dX9_told_85
    · have h := h.2 c_
      refine lv_aload_n hx hb dX9_told_74 rfl (lv_at hl 0 rfl) ?_
      refine va_get (D := (dC, dI)) (ci := 9) (v := .ref p_re) (C := RX9) (T := TX9) (N := 13) hx hb hts hi_X9 hown hK hP 0 rfl rfl 5 (by decide) (hts (.fieldLink RX9 51 "ZInput" "reading" "LZInput$Reading;") (List.mem_cons_of_mem _ (List.mem_append_left _ (List.mem_append_left _ (List.mem_append_left _ (List.mem_append_left _ (List.mem_append_left _ (List.mem_append_left _ (List.mem_of_getElem? (i := 0) rfl))))))))) (fun _ h9 => h9) rfl dX9_told_75 ?_
      refine va_get (D := (dC, dI)) (ci := 7) (v := .int re_count) (C := RX7) (T := TX7) (N := 7) hx hb hts hi_X7 hown hK hP 1 rfl rfl 4 (by decide) (hts (.fieldLink RX9 179 "ZInput$Reading" "count" "I") (List.mem_cons_of_mem _ (List.mem_append_left _ (List.mem_append_left _ (List.mem_append_left _ (List.mem_append_left _ (List.mem_append_left _ (List.mem_append_left _ (List.mem_of_getElem? (i := 2) rfl))))))))) (fun _ h9 => h9) rfl dX9_told_78 ?_
      refine lv_goto (tgt := 85) hx hb dX9_told_81 (by decide) ?_
      exact hR re_count () H locs h hP hD hS _ ls dX9_told_85
  have h := h.2 c_
  have c_1 := c_
  by_cases c_ : a1 = 2
  · have h := h.1 c_
    refine lv_tableIn (off := 85) (tgt := 86) hx hb dX9_told_1 (by rw [c_]; decide) (by rw [c_]; decide) (by rw [c_]; rfl) (by decide) ?_
    refine lv_aload_n hx hb dX9_told_86 rfl (lv_at hl 0 rfl) ?_
    refine va_get (D := (dC, dI)) (ci := 9) (v := .ref p_re) (C := RX9) (T := TX9) (N := 13) hx hb hts hi_X9 hown hK hP 0 rfl rfl 5 (by decide) (hts (.fieldLink RX9 51 "ZInput" "reading" "LZInput$Reading;") (List.mem_cons_of_mem _ (List.mem_append_left _ (List.mem_append_left _ (List.mem_append_left _ (List.mem_append_left _ (List.mem_append_left _ (List.mem_append_left _ (List.mem_of_getElem? (i := 0) rfl))))))))) (fun _ h9 => h9) rfl dX9_told_87 ?_
    refine va_get (D := (dC, dI)) (ci := 7) (v := .int re_open) (C := RX7) (T := TX7) (N := 7) hx hb hts hi_X7 hown hK hP 1 rfl rfl 0 (by decide) (hts (.fieldLink RX9 123 "ZInput$Reading" "open" "Z") (List.mem_cons_of_mem _ (List.mem_append_left _ (List.mem_append_left _ (List.mem_append_left _ (List.mem_append_left _ (List.mem_append_left _ (List.mem_append_left _ (List.mem_of_getElem? (i := 1) rfl))))))))) (fun _ h9 => h9) rfl dX9_told_90 ?_
    refine lv_if_eq (tgt := 106) hx hb dX9_told_93 (by decide) (fun c_ => ?_) (fun c_ => ?_)
    · have h := h.1 c_
      refine lv_iconst (v := 0) hx hb dX9_told_106 (by decide) ?_
      exact hR 0 () H locs h hP hD hS _ ls dX9_told_107
    · have h := h.2 c_
      refine lv_aload_n hx hb dX9_told_96 rfl (lv_at hl 0 rfl) ?_
      refine va_get (D := (dC, dI)) (ci := 9) (v := .ref p_re) (C := RX9) (T := TX9) (N := 13) hx hb hts hi_X9 hown hK hP 0 rfl rfl 5 (by decide) (hts (.fieldLink RX9 51 "ZInput" "reading" "LZInput$Reading;") (List.mem_cons_of_mem _ (List.mem_append_left _ (List.mem_append_left _ (List.mem_append_left _ (List.mem_append_left _ (List.mem_append_left _ (List.mem_append_left _ (List.mem_of_getElem? (i := 0) rfl))))))))) (fun _ h9 => h9) rfl dX9_told_97 ?_
      refine va_get (D := (dC, dI)) (ci := 7) (v := .int re_limit) (C := RX7) (T := TX7) (N := 7) hx hb hts hi_X7 hown hK hP 1 rfl rfl 3 (by decide) (hts (.fieldLink RX9 180 "ZInput$Reading" "limit" "I") (List.mem_cons_of_mem _ (List.mem_append_left _ (List.mem_append_left _ (List.mem_append_left _ (List.mem_append_left _ (List.mem_append_left _ (List.mem_append_left _ (List.mem_of_getElem? (i := 3) rfl))))))))) (fun _ h9 => h9) rfl dX9_told_100 ?_
      refine lv_goto (tgt := 107) hx hb dX9_told_103 (by decide) ?_
      exact hR re_limit () H locs h hP hD hS _ ls dX9_told_107
  have h := h.2 c_
  have c_2 := c_
  by_cases c_ : a1 = 3
  · have h := h.1 c_
    refine lv_tableIn (off := 107) (tgt := 108) hx hb dX9_told_1 (by rw [c_]; decide) (by rw [c_]; decide) (by rw [c_]; rfl) (by decide) ?_
    refine lv_aload_n hx hb dX9_told_108 rfl (lv_at hl 0 rfl) ?_
    refine va_get (D := (dC, dI)) (ci := 9) (v := .ref p_sc) (C := RX9) (T := TX9) (N := 13) hx hb hts hi_X9 hown hK hP 0 rfl rfl 9 (by decide) (hts (.fieldLink RX9 79 "ZInput" "keys" "LZInput$Script;") (List.mem_cons_of_mem _ (List.mem_append_left _ (List.mem_append_left _ (List.mem_append_left _ (List.mem_append_left _ (List.mem_append_left _ (List.mem_append_left _ (List.mem_of_getElem? (i := 4) rfl))))))))) (fun _ h9 => h9) rfl dX9_told_109 ?_
    refine va_get (D := (dC, dI)) (ci := 8) (v := .int sc_count) (C := RX8) (T := TX8) (N := 3) hx hb hts hi_X8 hown hK hP 5 rfl rfl 0 (by decide) (hts (.fieldLink RX9 172 "ZInput$Script" "count" "I") (List.mem_cons_of_mem _ (List.mem_append_left _ (List.mem_append_left _ (List.mem_append_left _ (List.mem_append_left _ (List.mem_append_left _ (List.mem_append_left _ (List.mem_of_getElem? (i := 5) rfl))))))))) (fun _ h9 => h9) rfl dX9_told_112 ?_
    exact hR sc_count () H locs h hP hD hS _ ls dX9_told_115
  have h := h.2 c_
  have c_3 := c_
  by_cases c_ : a1 = 4
  · have h := h.1 c_
    refine lv_tableIn (off := 115) (tgt := 116) hx hb dX9_told_1 (by rw [c_]; decide) (by rw [c_]; decide) (by rw [c_]; rfl) (by decide) ?_
    refine lv_aload_n hx hb dX9_told_116 rfl (lv_at hl 0 rfl) ?_
    refine va_get (D := (dC, dI)) (ci := 9) (v := .ref p_li) (C := RX9) (T := TX9) (N := 13) hx hb hts hi_X9 hown hK hP 0 rfl rfl 7 (by decide) (hts (.fieldLink RX9 65 "ZInput" "lines" "LZInput$Lines;") (List.mem_cons_of_mem _ (List.mem_append_left _ (List.mem_append_left _ (List.mem_append_left _ (List.mem_append_left _ (List.mem_append_left _ (List.mem_append_left _ (List.mem_of_getElem? (i := 6) rfl))))))))) (fun _ h9 => h9) rfl dX9_told_117 ?_
    refine va_get (D := (dC, dI)) (ci := 3) (v := .int li_count) (C := RX3) (T := TX3) (N := 4) hx hb hts hi_X3 hown hK hP 3 rfl rfl 0 (by decide) (hts (.fieldLink RX9 183 "ZInput$Lines" "count" "I") (List.mem_cons_of_mem _ (List.mem_append_left _ (List.mem_append_left _ (List.mem_append_left _ (List.mem_append_left _ (List.mem_append_left _ (List.mem_append_left _ (List.mem_of_getElem? (i := 7) rfl))))))))) (fun _ h9 => h9) rfl dX9_told_120 ?_
    exact hR li_count () H locs h hP hD hS _ ls dX9_told_123
  have h := h.2 c_
  have c_4 := c_
  by_cases c_ : a1 = 5
  · have h := h.1 c_
    refine lv_tableIn (off := 123) (tgt := 124) hx hb dX9_told_1 (by rw [c_]; decide) (by rw [c_]; decide) (by rw [c_]; rfl) (by decide) ?_
    refine lv_aload_n hx hb dX9_told_124 rfl (lv_at hl 0 rfl) ?_
    refine va_get (D := (dC, dI)) (ci := 9) (v := .ref p_ec) (C := RX9) (T := TX9) (N := 13) hx hb hts hi_X9 hown hK hP 0 rfl rfl 8 (by decide) (hts (.fieldLink RX9 72 "ZInput" "echoed" "LZInput$Echo;") (List.mem_cons_of_mem _ (List.mem_append_left _ (List.mem_append_left _ (List.mem_append_left _ (List.mem_append_left _ (List.mem_append_left _ (List.mem_append_left _ (List.mem_of_getElem? (i := 8) rfl))))))))) (fun _ h9 => h9) rfl dX9_told_125 ?_
    refine va_get (D := (dC, dI)) (ci := 2) (v := .int ec_total) (C := RX2) (T := TX2) (N := 2) hx hb hts hi_X2 hown hK hP 4 rfl rfl 0 (by decide) (hts (.fieldLink RX9 184 "ZInput$Echo" "total" "I") (List.mem_cons_of_mem _ (List.mem_append_left _ (List.mem_append_left _ (List.mem_append_left _ (List.mem_append_left _ (List.mem_append_left _ (List.mem_append_left _ (List.mem_of_getElem? (i := 9) rfl))))))))) (fun _ h9 => h9) rfl dX9_told_128 ?_
    exact hR ec_total () H locs h hP hD hS _ ls dX9_told_131
  have h := h.2 c_
  have c_5 := c_
  by_cases c_ : a1 = 6
  · have h := h.1 c_
    refine lv_tableIn (off := 131) (tgt := 132) hx hb dX9_told_1 (by rw [c_]; decide) (by rw [c_]; decide) (by rw [c_]; rfl) (by decide) ?_
    refine lv_aload_n hx hb dX9_told_132 rfl (lv_at hl 0 rfl) ?_
    refine va_get (D := (dC, dI)) (ci := 9) (v := .int z_ended) (C := RX9) (T := TX9) (N := 13) hx hb hts hi_X9 hown hK hP 0 rfl rfl 12 (by decide) (hts (.fieldLink RX9 89 "ZInput" "ended" "I") (List.mem_cons_of_mem _ (List.mem_append_left _ (List.mem_append_left _ (List.mem_append_left _ (List.mem_append_left _ (List.mem_append_left _ (List.mem_append_left _ (List.mem_of_getElem? (i := 10) rfl))))))))) (fun _ h9 => h9) rfl dX9_told_133 ?_
    exact hR z_ended () H locs h hP hD hS _ ls dX9_told_136
  have h := h.2 c_
  have c_6 := c_
  by_cases c_ : a1 = 7
  · have h := h.1 c_
    refine lv_tableIn (off := 136) (tgt := 137) hx hb dX9_told_1 (by rw [c_]; decide) (by rw [c_]; decide) (by rw [c_]; rfl) (by decide) ?_
    refine lv_aload_n hx hb dX9_told_137 rfl (lv_at hl 0 rfl) ?_
    refine va_get (D := (dC, dI)) (ci := 9) (v := .ref p_re) (C := RX9) (T := TX9) (N := 13) hx hb hts hi_X9 hown hK hP 0 rfl rfl 5 (by decide) (hts (.fieldLink RX9 51 "ZInput" "reading" "LZInput$Reading;") (List.mem_cons_of_mem _ (List.mem_append_left _ (List.mem_append_left _ (List.mem_append_left _ (List.mem_append_left _ (List.mem_append_left _ (List.mem_append_left _ (List.mem_of_getElem? (i := 0) rfl))))))))) (fun _ h9 => h9) rfl dX9_told_138 ?_
    refine va_get (D := (dC, dI)) (ci := 7) (v := .int re_open) (C := RX7) (T := TX7) (N := 7) hx hb hts hi_X7 hown hK hP 1 rfl rfl 0 (by decide) (hts (.fieldLink RX9 123 "ZInput$Reading" "open" "Z") (List.mem_cons_of_mem _ (List.mem_append_left _ (List.mem_append_left _ (List.mem_append_left _ (List.mem_append_left _ (List.mem_append_left _ (List.mem_append_left _ (List.mem_of_getElem? (i := 1) rfl))))))))) (fun _ h9 => h9) rfl dX9_told_141 ?_
    refine lv_if_eq (tgt := 157) hx hb dX9_told_144 (by decide) (fun c_ => ?_) (fun c_ => ?_)
    · have h := h.1 c_
      refine lv_iconst (v := 0) hx hb dX9_told_157 (by decide) ?_
      exact hR 0 () H locs h hP hD hS _ ls dX9_told_158
    · have h := h.2 c_
      refine lv_aload_n hx hb dX9_told_147 rfl (lv_at hl 0 rfl) ?_
      refine va_get (D := (dC, dI)) (ci := 9) (v := .ref p_cl) (C := RX9) (T := TX9) (N := 13) hx hb hts hi_X9 hown hK hP 0 rfl rfl 6 (by decide) (hts (.fieldLink RX9 58 "ZInput" "clock" "LZInput$Clock;") (List.mem_cons_of_mem _ (List.mem_append_left _ (List.mem_append_left _ (List.mem_append_left _ (List.mem_append_left _ (List.mem_append_left _ (List.mem_append_left _ (List.mem_of_getElem? (i := 11) rfl))))))))) (fun _ h9 => h9) rfl dX9_told_148 ?_
      refine va_get (D := (dC, dI)) (ci := 0) (v := .int cl_calls) (C := RX0) (T := TX0) (N := 6) hx hb hts hi_X0 hown hK hP 2 rfl rfl 0 (by decide) (hts (.fieldLink RX9 157 "ZInput$Clock" "calls" "I") (List.mem_cons_of_mem _ (List.mem_append_left _ (List.mem_append_left _ (List.mem_append_left _ (List.mem_append_left _ (List.mem_append_left _ (List.mem_append_left _ (List.mem_of_getElem? (i := 12) rfl))))))))) (fun _ h9 => h9) rfl dX9_told_151 ?_
      refine lv_goto (tgt := 158) hx hb dX9_told_154 (by decide) ?_
      exact hR cl_calls () H locs h hP hD hS _ ls dX9_told_158
  have h := h.2 c_
  have c_7 := c_
  refine lv_tableOut (tgt := 159) hx hb dX9_told_1 (by have e0 : ¬ Int32.toInt a1 = 0 := zz_ne c_0; have e1 : ¬ Int32.toInt a1 = 1 := zz_ne c_1; have e2 : ¬ Int32.toInt a1 = 2 := zz_ne c_2; have e3 : ¬ Int32.toInt a1 = 3 := zz_ne c_3; have e4 : ¬ Int32.toInt a1 = 4 := zz_ne c_4; have e5 : ¬ Int32.toInt a1 = 5 := zz_ne c_5; have e6 : ¬ Int32.toInt a1 = 6 := zz_ne c_6; have e7 : ¬ Int32.toInt a1 = 7 := zz_ne c_7; omega) (by decide) ?_
  refine lv_bipush (v := (-2)) hx hb dX9_told_159 (by decide) ?_
  exact hR (-2) () H locs h hP hD hS _ ls dX9_told_161
def wp_X9_typed (re_open : Int32) (re_count : Int32) (re_codes : Nat → Int32) (a1 : Int32) (K : Int32 → Prop) : Prop :=
  ((¬ re_open = 0) → (((a1 < 0) → (K (-2))) ∧ ((¬ a1 < 0) → (((re_count ≤ a1) → (K (-2))) ∧ ((¬ re_count ≤ a1) → (wp_X7_code re_count re_codes a1 (fun (r_1 : Int32) => K r_1))))))) ∧ ((re_open = 0) → (K (-1)))
abbrev rmX9_typed : Room := { frames := 1, cells := 0, slots := 0, locals := 21 }
set_option maxHeartbeats 4000000 in
set_option maxRecDepth 100000 in
theorem c_X9_typed (l : Launch) (dC : Nat → ClassId) (dI : Nat → Nat → Nat) (kI kZ : ClassId) (sz : Nat) (p_z : Nat) (p_me : Nat) (p_pa : Nat) (p_di : Nat) (p_pr : Nat) (p_re : Nat) (p_cl : Nat) (p_li : Nat) (p_ec : Nat) (p_sc : Nat) (p_re_codes : Nat) (z_version : Int32) (z_dictionaryAt : Int32) (z_tableAt : Int32) (z_ended : Int32) (re_textAt : Int32) (re_parseAt : Int32) (re_limit : Int32) (re_shown : Int32) (re_open : Int32) (re_count : Int32) (re_codes : Nat → Int32) (a1 : Int32) (K : Int32 → Prop) (h : wp_X9_typed re_open re_count re_codes a1 K) : Met l yX9_typed wsX9_typed rmX9_typed (va_Pc [.ref p_z, .int a1] (zP (dC, dI) (zT kI kZ) sz [(p_z, .inr (9, [.int z_version, .ref p_me, .ref p_pa, .ref p_di, .ref p_pr, .ref p_re, .ref p_cl, .ref p_li, .ref p_ec, .ref p_sc, .int z_dictionaryAt, .int z_tableAt, .int z_ended])), (p_re, .inr (7, [.int re_open, .int re_textAt, .int re_parseAt, .int re_limit, .int re_count, .int re_shown, .ref p_re_codes])), (p_re_codes, .inl (kI, 255, .inl re_codes))])) (va_Qi (fun (r : Int32) (u : Unit) => K r) (fun (u : Unit) => zB (dC, dI) (zT kI kZ) (va_A [(p_z, .inr (9, [.int z_version, .ref p_me, .ref p_pa, .ref p_di, .ref p_pr, .ref p_re, .ref p_cl, .ref p_li, .ref p_ec, .ref p_sc, .int z_dictionaryAt, .int z_tableAt, .int z_ended])), (p_re, .inr (7, [.int re_open, .int re_textAt, .int re_parseAt, .int re_limit, .int re_count, .int re_shown, .ref p_re_codes])), (p_re_codes, .inl (kI, 255, .inl re_codes))] sz) [(p_z, .inr (9, [.int z_version, .ref p_me, .ref p_pa, .ref p_di, .ref p_pr, .ref p_re, .ref p_cl, .ref p_li, .ref p_ec, .ref p_sc, .int z_dictionaryAt, .int z_tableAt, .int z_ended])), (p_re, .inr (7, [.int re_open, .int re_textAt, .int re_parseAt, .int re_limit, .int re_count, .int re_shown, .ref p_re_codes])), (p_re_codes, .inl (kI, 255, .inl re_codes))]) (va_A [(p_z, .inr (9, [.int z_version, .ref p_me, .ref p_pa, .ref p_di, .ref p_pr, .ref p_re, .ref p_cl, .ref p_li, .ref p_ec, .ref p_sc, .int z_dictionaryAt, .int z_tableAt, .int z_ended])), (p_re, .inr (7, [.int re_open, .int re_textAt, .int re_parseAt, .int re_limit, .int re_count, .int re_shown, .ref p_re_codes])), (p_re_codes, .inl (kI, 255, .inl re_codes))] sz)) 0 0 (va_A [(p_z, .inr (9, [.int z_version, .ref p_me, .ref p_pa, .ref p_di, .ref p_pr, .ref p_re, .ref p_cl, .ref p_li, .ref p_ec, .ref p_sc, .int z_dictionaryAt, .int z_tableAt, .int z_ended])), (p_re, .inr (7, [.int re_open, .int re_textAt, .int re_parseAt, .int re_limit, .int re_count, .int re_shown, .ref p_re_codes])), (p_re_codes, .inl (kI, 255, .inl re_codes))] sz) := by
  refine zz_ofi (cc := cX9_typed) (maxL := 2) (by decide) rfl (Nat.le_of_ble_eq_true rfl) ?_
  intro p e s m args below meth c A Q ls hx hb hml hown hts hK hA hR hP hD hS hl
  have hown : s.vm.findClass RX9 = some m.cls := hown
  have hl : lv_has ls 2 [(0, .ref p_z), (1, .int a1)] := hl
  have hi_X9 : ∀ w ∈ wsX90, w ∈ wsX9_typed := fun _ h => (List.mem_cons_of_mem _ (List.mem_append_left _ (List.mem_append_right _ h)))
  have hi_X7 : ∀ w ∈ wsX70, w ∈ wsX9_typed := fun _ h => (List.mem_cons_of_mem _ (List.mem_append_right _ h))
  unfold wp_X9_typed at h
  obtain ⟨H, eH⟩ : ∃ H, H = s.heap := ⟨_, rfl⟩
  obtain ⟨locs, eL⟩ : ∃ L : List Loc, L = [] := ⟨_, rfl⟩
  rw [← eL]
  have hS : va_S A s.heap s.heap locs := by rw [eL]; exact hS
  suffices hgo : ∀ H : Heap, va_P (dC, dI) vwCl [(p_z, .inr (9, [.int z_version, .ref p_me, .ref p_pa, .ref p_di, .ref p_pr, .ref p_re, .ref p_cl, .ref p_li, .ref p_ec, .ref p_sc, .int z_dictionaryAt, .int z_tableAt, .int z_ended])), (p_re, .inr (7, [.int re_open, .int re_textAt, .int re_parseAt, .int re_limit, .int re_count, .int re_shown, .ref p_re_codes])), (p_re_codes, .inl (kI, 255, .inl re_codes))] H → va_S A s.heap H locs → W p l e rmX9_typed s m args below meth c H locs 0 0 Q (F0 m 0 ls []) from hgo _ hP hS
  clear hP hS eH H eL
  intro H hP hS
  refine lv_aload_n hx hb dX9_typed_0 rfl (lv_at hl 0 rfl) ?_
  refine va_get (D := (dC, dI)) (ci := 9) (v := .ref p_re) (C := RX9) (T := TX9) (N := 13) hx hb hts hi_X9 hown hK hP 0 rfl rfl 5 (by decide) (hts (.fieldLink RX9 51 "ZInput" "reading" "LZInput$Reading;") (List.mem_cons_of_mem _ (List.mem_append_left _ (List.mem_append_left _ (List.mem_of_getElem? (i := 0) rfl))))) (fun _ h9 => h9) rfl dX9_typed_1 ?_
  refine va_get (D := (dC, dI)) (ci := 7) (v := .int re_open) (C := RX7) (T := TX7) (N := 7) hx hb hts hi_X7 hown hK hP 1 rfl rfl 0 (by decide) (hts (.fieldLink RX9 123 "ZInput$Reading" "open" "Z") (List.mem_cons_of_mem _ (List.mem_append_left _ (List.mem_append_left _ (List.mem_of_getElem? (i := 1) rfl))))) (fun _ h9 => h9) rfl dX9_typed_4 ?_
  refine lv_if_ne (tgt := 12) hx hb dX9_typed_7 (by decide) (fun c_ => ?_) (fun c_ => ?_)
  · have h := h.1 c_
    refine lv_iload_n hx hb dX9_typed_12 rfl (lv_at hl 1 rfl) ?_
    refine lv_if_lt (tgt := 38) hx hb dX9_typed_13 (by decide) (fun c_ => ?_) (fun c_ => ?_)
    · have h := h.1 c_
      refine lv_bipush (v := (-2)) hx hb dX9_typed_38 (by decide) ?_
      exact hR (-2) () H locs h hP hD hS _ ls dX9_typed_40
    · have h := h.2 c_
      refine lv_iload_n hx hb dX9_typed_16 rfl (lv_at hl 1 rfl) ?_
      refine lv_aload_n hx hb dX9_typed_17 rfl (lv_at hl 0 rfl) ?_
      refine va_get (D := (dC, dI)) (ci := 9) (v := .ref p_re) (C := RX9) (T := TX9) (N := 13) hx hb hts hi_X9 hown hK hP 0 rfl rfl 5 (by decide) (hts (.fieldLink RX9 51 "ZInput" "reading" "LZInput$Reading;") (List.mem_cons_of_mem _ (List.mem_append_left _ (List.mem_append_left _ (List.mem_of_getElem? (i := 0) rfl))))) (fun _ h9 => h9) rfl dX9_typed_18 ?_
      refine va_get (D := (dC, dI)) (ci := 7) (v := .int re_count) (C := RX7) (T := TX7) (N := 7) hx hb hts hi_X7 hown hK hP 1 rfl rfl 4 (by decide) (hts (.fieldLink RX9 179 "ZInput$Reading" "count" "I") (List.mem_cons_of_mem _ (List.mem_append_left _ (List.mem_append_left _ (List.mem_of_getElem? (i := 2) rfl))))) (fun _ h9 => h9) rfl dX9_typed_21 ?_
      refine lv_icmp_ge (tgt := 38) hx hb dX9_typed_24 (by decide) (fun c_ => ?_) (fun c_ => ?_)
      · have h := h.1 c_
        refine lv_bipush (v := (-2)) hx hb dX9_typed_38 (by decide) ?_
        exact hR (-2) () H locs h hP hD hS _ ls dX9_typed_40
      · have h := h.2 c_
        refine lv_aload_n hx hb dX9_typed_27 rfl (lv_at hl 0 rfl) ?_
        refine va_get (D := (dC, dI)) (ci := 9) (v := .ref p_re) (C := RX9) (T := TX9) (N := 13) hx hb hts hi_X9 hown hK hP 0 rfl rfl 5 (by decide) (hts (.fieldLink RX9 51 "ZInput" "reading" "LZInput$Reading;") (List.mem_cons_of_mem _ (List.mem_append_left _ (List.mem_append_left _ (List.mem_of_getElem? (i := 0) rfl))))) (fun _ h9 => h9) rfl dX9_typed_28 ?_
        refine lv_iload_n hx hb dX9_typed_31 rfl (lv_at hl 1 rfl) ?_
        refine zz_Vi (As := [.int a1]) (rest := []) (wr := [(p_z, .inr (9, [.int z_version, .ref p_me, .ref p_pa, .ref p_di, .ref p_pr, .ref p_re, .ref p_cl, .ref p_li, .ref p_ec, .ref p_sc, .int z_dictionaryAt, .int z_tableAt, .int z_ended]))]) ⟨hx, hb, hml, hown, hts⟩ (cwV 1 hts gX9_typed_X7_code rfl rfl rfl (by decide +kernel) ⟨Nat.le_of_ble_eq_true rfl, Nat.le_of_ble_eq_true rfl⟩) hK hP hD hS hA (c_X7_code l dC dI kI kZ H.size p_re p_re_codes re_open re_textAt re_parseAt re_limit re_shown re_count re_codes a1 _ h) [1, 2] [0] rfl rfl rfl rfl (by decide) 0 rfl rfl rfl rfl hl.1 (Nat.le_of_ble_eq_true rfl) dX9_typed_32 (Nat.le_refl _) (Nat.le_refl _) (fun r_1 u_1 H locs h hP hD hS => ?_)
        have hP : va_P (dC, dI) vwCl [(p_z, .inr (9, [.int z_version, .ref p_me, .ref p_pa, .ref p_di, .ref p_pr, .ref p_re, .ref p_cl, .ref p_li, .ref p_ec, .ref p_sc, .int z_dictionaryAt, .int z_tableAt, .int z_ended])), (p_re, .inr (7, [.int re_open, .int re_textAt, .int re_parseAt, .int re_limit, .int re_count, .int re_shown, .ref p_re_codes])), (p_re_codes, .inl (kI, 255, .inl re_codes))] H := hP.sub [0, 1, 2] rfl
        have hD : va_D A [(p_z, .inr (9, [.int z_version, .ref p_me, .ref p_pa, .ref p_di, .ref p_pr, .ref p_re, .ref p_cl, .ref p_li, .ref p_ec, .ref p_sc, .int z_dictionaryAt, .int z_tableAt, .int z_ended])), (p_re, .inr (7, [.int re_open, .int re_textAt, .int re_parseAt, .int re_limit, .int re_count, .int re_shown, .ref p_re_codes])), (p_re_codes, .inl (kI, 255, .inl re_codes))] := hD.sub [0, 1, 2] rfl rfl
        refine lv_goto (tgt := 40) hx hb dX9_typed_35 (by decide) ?_
        exact hR r_1 () H locs h hP hD hS _ ls dX9_typed_40
  · have h := h.2 c_
    refine lv_iconst (v := (-1)) hx hb dX9_typed_10 (by decide) ?_
    exact hR (-1) () H locs h hP hD hS _ ls dX9_typed_11
def wp_X10_within (a0 : Int64) (a2 : Int64) (K : Int32 → Prop) : Prop :=
  (((lg_cmp a2 0) = 0) → (K 1)) ∧ ((¬ (lg_cmp a2 0) = 0) → ((((lg_cmp a0 0) < 0) → (K 0)) ∧ ((¬ (lg_cmp a0 0) < 0) → (((0 < (lg_cmp (a0 + a2) 4096)) → (K 0)) ∧ ((¬ 0 < (lg_cmp (a0 + a2) 4096)) → (K 1))))))
abbrev rmX10_within : Room := { frames := 0, cells := 0, slots := 0, locals := 0 }
set_option maxHeartbeats 4000000 in
set_option maxRecDepth 100000 in
theorem c_X10_within (l : Launch) (dC : Nat → ClassId) (dI : Nat → Nat → Nat) (kI kZ : ClassId) (sz : Nat) (a0 : Int64) (a2 : Int64) (K : Int32 → Prop) (h : wp_X10_within a0 a2 K) : Met l yX10_within wsX10_within rmX10_within (va_Pc [.long a0, .long a2] (zP (dC, dI) (zT kI kZ) sz [])) (va_Qi (fun (r : Int32) (u : Unit) => K r) (fun (u : Unit) => zB (dC, dI) (zT kI kZ) (va_A [] sz) []) (va_A [] sz)) 0 0 (va_A [] sz) := by
  refine zz_ofz (cc := cX10_within) (maxL := 4) (by decide) rfl (Nat.le_of_ble_eq_true rfl) ?_
  intro p e s m args below meth c A Q ls hx hb hml hown hts hK hA hR hP hD hS hl
  have hown : s.vm.findClass RX10 = some m.cls := hown
  have hl : lv_has ls 4 [(0, .long a0), (2, .long a2)] := hl
  unfold wp_X10_within at h
  obtain ⟨H, eH⟩ : ∃ H, H = s.heap := ⟨_, rfl⟩
  obtain ⟨locs, eL⟩ : ∃ L : List Loc, L = [] := ⟨_, rfl⟩
  rw [← eL]
  have hS : va_S A s.heap s.heap locs := by rw [eL]; exact hS
  suffices hgo : ∀ H : Heap, va_P (dC, dI) vwCl [] H → va_S A s.heap H locs → W p l e rmX10_within s m args below meth c H locs 0 0 Q (F0 m 0 ls []) from hgo _ hP hS
  clear hP hS eH H eL
  intro H hP hS
  refine lv_lload_n hx hb dX10_within_0 rfl (lv_at hl 1 rfl) ?_
  refine lv_lconst (v := 0) hx hb dX10_within_1 (by decide) ?_
  refine W.lcmp hx hb dX10_within_2 ?_
  refine lv_if_eq (tgt := 22) hx hb dX10_within_3 (by decide) (fun c_ => ?_) (fun c_ => ?_)
  · have h := h.1 c_
    refine lv_iconst (v := 1) hx hb dX10_within_22 (by decide) ?_
    refine lv_goto (tgt := 27) hx hb dX10_within_23 (by decide) ?_
    exact hR 1 () H locs (Or.inr rfl) h hP hD hS _ ls dX10_within_27
  · have h := h.2 c_
    refine lv_lload_n hx hb dX10_within_6 rfl (lv_at hl 0 rfl) ?_
    refine lv_lconst (v := 0) hx hb dX10_within_7 (by decide) ?_
    refine W.lcmp hx hb dX10_within_8 ?_
    refine lv_if_lt (tgt := 26) hx hb dX10_within_9 (by decide) (fun c_ => ?_) (fun c_ => ?_)
    · have h := h.1 c_
      refine lv_iconst (v := 0) hx hb dX10_within_26 (by decide) ?_
      exact hR 0 () H locs (Or.inl rfl) h hP hD hS _ ls dX10_within_27
    · have h := h.2 c_
      refine lv_lload_n hx hb dX10_within_12 rfl (lv_at hl 0 rfl) ?_
      refine lv_lload_n hx hb dX10_within_13 rfl (lv_at hl 1 rfl) ?_
      refine lv_ladd hx hb dX10_within_14 ?_
      refine lv_ldc2 (v := 4096) hx hb hown (hts (.constantLong RX10 54 (4096)) (List.mem_cons_of_mem _ (List.mem_of_getElem? (i := 0) rfl))) dX10_within_15 ?_
      refine W.lcmp hx hb dX10_within_18 ?_
      refine lv_if_gt (tgt := 26) hx hb dX10_within_19 (by decide) (fun c_ => ?_) (fun c_ => ?_)
      · have h := h.1 c_
        refine lv_iconst (v := 0) hx hb dX10_within_26 (by decide) ?_
        exact hR 0 () H locs (Or.inl rfl) h hP hD hS _ ls dX10_within_27
      · have h := h.2 c_
        refine lv_iconst (v := 1) hx hb dX10_within_22 (by decide) ?_
        refine lv_goto (tgt := 27) hx hb dX10_within_23 (by decide) ?_
        exact hR 1 () H locs (Or.inr rfl) h hP hD hS _ ls dX10_within_27
def wp_X10_at (mo_memory : Nat → Int32) (a1 : Int32) (K : Int32 → Prop) : Prop :=
  wp_X10_within (Int32.toInt64 a1) 1 (fun (r_1 : Int32) => ((r_1 = 0) → (K (-3))) ∧ ((¬ r_1 = 0) → (vp_in a1 4096 ∧ (K (mo_memory (Int32.toNatClampNeg a1))))))
abbrev rmX10_at : Room := { frames := 1, cells := 0, slots := 0, locals := 23 }
set_option maxHeartbeats 4000000 in
set_option maxRecDepth 100000 in
theorem c_X10_at (l : Launch) (dC : Nat → ClassId) (dI : Nat → Nat → Nat) (kI kZ : ClassId) (sz : Nat) (p_mo : Nat) (p_mo_memory : Nat) (p_mo_letters : Nat) (p_mo_packed : Nat) (p_mo_wordFrom : Nat) (p_mo_wordSize : Nat) (p_mo_wordEntry : Nat) (p_mo_codes : Nat) (p_mo_lineSize : Nat) (p_mo_line : Nat) (p_mo_echoed : Nat) (p_mo_keys : Nat) (mo_version : Int32) (mo_dictionary : Int32) (mo_table : Int32) (mo_letterMany : Int32) (mo_entries : Int32) (mo_entrySize : Int32) (mo_entryMany : Int32) (mo_isReading : Int32) (mo_text : Int32) (mo_parsedTo : Int32) (mo_most : Int32) (mo_many : Int32) (mo_shown : Int32) (mo_every : Int32) (mo_answers : Int32) (mo_gone : Int32) (mo_calls : Int32) (mo_answered : Int32) (mo_ended : Int32) (mo_lines : Int32) (mo_echoes : Int32) (mo_keyMany : Int32) (mo_memory : Nat → Int32) (a1 : Int32) (K : Int32 → Prop) (h : wp_X10_at mo_memory a1 K) : Met l yX10_at wsX10_at rmX10_at (va_Pc [.ref p_mo, .int a1] (zP (dC, dI) (zT kI kZ) sz [(p_mo, .inr (10, [.int mo_version, .ref p_mo_memory, .int mo_dictionary, .int mo_table, .ref p_mo_letters, .int mo_letterMany, .ref p_mo_packed, .int mo_entries, .int mo_entrySize, .int mo_entryMany, .ref p_mo_wordFrom, .ref p_mo_wordSize, .ref p_mo_wordEntry, .int mo_isReading, .int mo_text, .int mo_parsedTo, .int mo_most, .ref p_mo_codes, .int mo_many, .int mo_shown, .int mo_every, .int mo_answers, .int mo_gone, .int mo_calls, .int mo_answered, .int mo_ended, .ref p_mo_lineSize, .ref p_mo_line, .int mo_lines, .ref p_mo_echoed, .int mo_echoes, .ref p_mo_keys, .int mo_keyMany])), (p_mo_memory, .inl (kI, 4096, .inl mo_memory))])) (va_Qi (fun (r : Int32) (u : Unit) => K r) (fun (u : Unit) => zB (dC, dI) (zT kI kZ) (va_A [(p_mo, .inr (10, [.int mo_version, .ref p_mo_memory, .int mo_dictionary, .int mo_table, .ref p_mo_letters, .int mo_letterMany, .ref p_mo_packed, .int mo_entries, .int mo_entrySize, .int mo_entryMany, .ref p_mo_wordFrom, .ref p_mo_wordSize, .ref p_mo_wordEntry, .int mo_isReading, .int mo_text, .int mo_parsedTo, .int mo_most, .ref p_mo_codes, .int mo_many, .int mo_shown, .int mo_every, .int mo_answers, .int mo_gone, .int mo_calls, .int mo_answered, .int mo_ended, .ref p_mo_lineSize, .ref p_mo_line, .int mo_lines, .ref p_mo_echoed, .int mo_echoes, .ref p_mo_keys, .int mo_keyMany])), (p_mo_memory, .inl (kI, 4096, .inl mo_memory))] sz) [(p_mo, .inr (10, [.int mo_version, .ref p_mo_memory, .int mo_dictionary, .int mo_table, .ref p_mo_letters, .int mo_letterMany, .ref p_mo_packed, .int mo_entries, .int mo_entrySize, .int mo_entryMany, .ref p_mo_wordFrom, .ref p_mo_wordSize, .ref p_mo_wordEntry, .int mo_isReading, .int mo_text, .int mo_parsedTo, .int mo_most, .ref p_mo_codes, .int mo_many, .int mo_shown, .int mo_every, .int mo_answers, .int mo_gone, .int mo_calls, .int mo_answered, .int mo_ended, .ref p_mo_lineSize, .ref p_mo_line, .int mo_lines, .ref p_mo_echoed, .int mo_echoes, .ref p_mo_keys, .int mo_keyMany])), (p_mo_memory, .inl (kI, 4096, .inl mo_memory))]) (va_A [(p_mo, .inr (10, [.int mo_version, .ref p_mo_memory, .int mo_dictionary, .int mo_table, .ref p_mo_letters, .int mo_letterMany, .ref p_mo_packed, .int mo_entries, .int mo_entrySize, .int mo_entryMany, .ref p_mo_wordFrom, .ref p_mo_wordSize, .ref p_mo_wordEntry, .int mo_isReading, .int mo_text, .int mo_parsedTo, .int mo_most, .ref p_mo_codes, .int mo_many, .int mo_shown, .int mo_every, .int mo_answers, .int mo_gone, .int mo_calls, .int mo_answered, .int mo_ended, .ref p_mo_lineSize, .ref p_mo_line, .int mo_lines, .ref p_mo_echoed, .int mo_echoes, .ref p_mo_keys, .int mo_keyMany])), (p_mo_memory, .inl (kI, 4096, .inl mo_memory))] sz)) 0 0 (va_A [(p_mo, .inr (10, [.int mo_version, .ref p_mo_memory, .int mo_dictionary, .int mo_table, .ref p_mo_letters, .int mo_letterMany, .ref p_mo_packed, .int mo_entries, .int mo_entrySize, .int mo_entryMany, .ref p_mo_wordFrom, .ref p_mo_wordSize, .ref p_mo_wordEntry, .int mo_isReading, .int mo_text, .int mo_parsedTo, .int mo_most, .ref p_mo_codes, .int mo_many, .int mo_shown, .int mo_every, .int mo_answers, .int mo_gone, .int mo_calls, .int mo_answered, .int mo_ended, .ref p_mo_lineSize, .ref p_mo_line, .int mo_lines, .ref p_mo_echoed, .int mo_echoes, .ref p_mo_keys, .int mo_keyMany])), (p_mo_memory, .inl (kI, 4096, .inl mo_memory))] sz) := by
  refine zz_ofi (cc := cX10_at) (maxL := 2) (by decide) rfl (Nat.le_of_ble_eq_true rfl) ?_
  intro p e s m args below meth c A Q ls hx hb hml hown hts hK hA hR hP hD hS hl
  have hown : s.vm.findClass RX10 = some m.cls := hown
  have hl : lv_has ls 2 [(0, .ref p_mo), (1, .int a1)] := hl
  have hi_X10 : ∀ w ∈ wsX100, w ∈ wsX10_at := fun _ h => (List.mem_cons_of_mem _ (List.mem_append_right _ h))
  unfold wp_X10_at at h
  obtain ⟨H, eH⟩ : ∃ H, H = s.heap := ⟨_, rfl⟩
  obtain ⟨locs, eL⟩ : ∃ L : List Loc, L = [] := ⟨_, rfl⟩
  rw [← eL]
  have hS : va_S A s.heap s.heap locs := by rw [eL]; exact hS
  suffices hgo : ∀ H : Heap, va_P (dC, dI) vwCl [(p_mo, .inr (10, [.int mo_version, .ref p_mo_memory, .int mo_dictionary, .int mo_table, .ref p_mo_letters, .int mo_letterMany, .ref p_mo_packed, .int mo_entries, .int mo_entrySize, .int mo_entryMany, .ref p_mo_wordFrom, .ref p_mo_wordSize, .ref p_mo_wordEntry, .int mo_isReading, .int mo_text, .int mo_parsedTo, .int mo_most, .ref p_mo_codes, .int mo_many, .int mo_shown, .int mo_every, .int mo_answers, .int mo_gone, .int mo_calls, .int mo_answered, .int mo_ended, .ref p_mo_lineSize, .ref p_mo_line, .int mo_lines, .ref p_mo_echoed, .int mo_echoes, .ref p_mo_keys, .int mo_keyMany])), (p_mo_memory, .inl (kI, 4096, .inl mo_memory))] H → va_S A s.heap H locs → W p l e rmX10_at s m args below meth c H locs 0 0 Q (F0 m 0 ls []) from hgo _ hP hS
  clear hP hS eH H eL
  intro H hP hS
  refine lv_iload_n hx hb dX10_at_0 rfl (lv_at hl 1 rfl) ?_
  refine lv_i2l hx hb dX10_at_1 rfl ?_
  refine lv_lconst (v := 1) hx hb dX10_at_2 (by decide) ?_
  refine zz_Si (As := [.long (Int32.toInt64 a1), .long 1]) (rest := []) (wr := [(p_mo, .inr (10, [.int mo_version, .ref p_mo_memory, .int mo_dictionary, .int mo_table, .ref p_mo_letters, .int mo_letterMany, .ref p_mo_packed, .int mo_entries, .int mo_entrySize, .int mo_entryMany, .ref p_mo_wordFrom, .ref p_mo_wordSize, .ref p_mo_wordEntry, .int mo_isReading, .int mo_text, .int mo_parsedTo, .int mo_most, .ref p_mo_codes, .int mo_many, .int mo_shown, .int mo_every, .int mo_answers, .int mo_gone, .int mo_calls, .int mo_answered, .int mo_ended, .ref p_mo_lineSize, .ref p_mo_line, .int mo_lines, .ref p_mo_echoed, .int mo_echoes, .ref p_mo_keys, .int mo_keyMany])), (p_mo_memory, .inl (kI, 4096, .inl mo_memory))]) ⟨hx, hb, hml, hown, hts⟩ (va_cwS 2 hts gX10_at_X10_within rfl rfl rfl (by decide +kernel) ⟨Nat.le_of_ble_eq_true rfl, Nat.le_of_ble_eq_true rfl⟩) hK hP hD hS hA (c_X10_within l dC dI kI kZ H.size (Int32.toInt64 a1) 1 _ h) [] [0, 1] rfl rfl rfl rfl (by decide) rfl rfl hl.1 (Nat.le_of_ble_eq_true rfl) dX10_at_3 (Nat.le_refl _) (Nat.le_refl _) (fun r_1 u_1 H locs h hP hD hS => ?_)
  have hP : va_P (dC, dI) vwCl [(p_mo, .inr (10, [.int mo_version, .ref p_mo_memory, .int mo_dictionary, .int mo_table, .ref p_mo_letters, .int mo_letterMany, .ref p_mo_packed, .int mo_entries, .int mo_entrySize, .int mo_entryMany, .ref p_mo_wordFrom, .ref p_mo_wordSize, .ref p_mo_wordEntry, .int mo_isReading, .int mo_text, .int mo_parsedTo, .int mo_most, .ref p_mo_codes, .int mo_many, .int mo_shown, .int mo_every, .int mo_answers, .int mo_gone, .int mo_calls, .int mo_answered, .int mo_ended, .ref p_mo_lineSize, .ref p_mo_line, .int mo_lines, .ref p_mo_echoed, .int mo_echoes, .ref p_mo_keys, .int mo_keyMany])), (p_mo_memory, .inl (kI, 4096, .inl mo_memory))] H := hP.sub [0, 1] rfl
  have hD : va_D A [(p_mo, .inr (10, [.int mo_version, .ref p_mo_memory, .int mo_dictionary, .int mo_table, .ref p_mo_letters, .int mo_letterMany, .ref p_mo_packed, .int mo_entries, .int mo_entrySize, .int mo_entryMany, .ref p_mo_wordFrom, .ref p_mo_wordSize, .ref p_mo_wordEntry, .int mo_isReading, .int mo_text, .int mo_parsedTo, .int mo_most, .ref p_mo_codes, .int mo_many, .int mo_shown, .int mo_every, .int mo_answers, .int mo_gone, .int mo_calls, .int mo_answered, .int mo_ended, .ref p_mo_lineSize, .ref p_mo_line, .int mo_lines, .ref p_mo_echoed, .int mo_echoes, .ref p_mo_keys, .int mo_keyMany])), (p_mo_memory, .inl (kI, 4096, .inl mo_memory))] := hD.sub [0, 1] rfl rfl
  refine lv_if_eq (tgt := 18) hx hb dX10_at_6 (by decide) (fun c_ => ?_) (fun c_ => ?_)
  · have h := h.1 c_
    refine lv_bipush (v := (-3)) hx hb dX10_at_18 (by decide) ?_
    exact hR (-3) () H locs h hP hD hS _ ls dX10_at_20
  · have h := h.2 c_
    refine lv_aload_n hx hb dX10_at_9 rfl (lv_at hl 0 rfl) ?_
    refine va_get (D := (dC, dI)) (ci := 10) (v := .ref p_mo_memory) (C := RX10) (T := TX10) (N := 33) hx hb hts hi_X10 hown hK hP 0 rfl rfl 1 (by decide) (hts (.fieldLink RX10 7 "ZInputModel" "memory" "[I") (List.mem_cons_of_mem _ (List.mem_append_left _ (List.mem_of_getElem? (i := 0) rfl)))) (fun _ h9 => h9) rfl dX10_at_10 ?_
    refine lv_iload_n hx hb dX10_at_13 rfl (lv_at hl 1 rfl) ?_
    have hi := h.1
    have h := h.2
    refine va_iald hx hb hK hP 1 0 rfl rfl hi dX10_at_14 ?_
    refine lv_goto (tgt := 20) hx hb dX10_at_15 (by decide) ?_
    exact hR (mo_memory (Int32.toNatClampNeg a1)) () H locs h hP hD hS _ ls dX10_at_20
def wp_X10_in (a0 : Int32) (a1 : Int32) (a2 : Int32) (K : Int32 → Prop) : Prop :=
  ((a0 < a1) → (K 0)) ∧ ((¬ a0 < a1) → (((a2 < a0) → (K 0)) ∧ ((¬ a2 < a0) → (K 1))))
abbrev rmX10_in : Room := { frames := 0, cells := 0, slots := 0, locals := 0 }
set_option maxHeartbeats 4000000 in
set_option maxRecDepth 100000 in
theorem c_X10_in (l : Launch) (dC : Nat → ClassId) (dI : Nat → Nat → Nat) (kI kZ : ClassId) (sz : Nat) (a0 : Int32) (a1 : Int32) (a2 : Int32) (K : Int32 → Prop) (h : wp_X10_in a0 a1 a2 K) : Met l yX10_in wsX10_in rmX10_in (va_Pc [.int a0, .int a1, .int a2] (zP (dC, dI) (zT kI kZ) sz [])) (va_Qi (fun (r : Int32) (u : Unit) => K r) (fun (u : Unit) => zB (dC, dI) (zT kI kZ) (va_A [] sz) []) (va_A [] sz)) 0 0 (va_A [] sz) := by
  refine zz_ofz (cc := cX10_in) (maxL := 3) (by decide) rfl (Nat.le_of_ble_eq_true rfl) ?_
  intro p e s m args below meth c A Q ls hx hb hml hown hts hK hA hR hP hD hS hl
  have hown : s.vm.findClass RX10 = some m.cls := hown
  have hl : lv_has ls 3 [(0, .int a0), (1, .int a1), (2, .int a2)] := hl
  unfold wp_X10_in at h
  obtain ⟨H, eH⟩ : ∃ H, H = s.heap := ⟨_, rfl⟩
  obtain ⟨locs, eL⟩ : ∃ L : List Loc, L = [] := ⟨_, rfl⟩
  rw [← eL]
  have hS : va_S A s.heap s.heap locs := by rw [eL]; exact hS
  suffices hgo : ∀ H : Heap, va_P (dC, dI) vwCl [] H → va_S A s.heap H locs → W p l e rmX10_in s m args below meth c H locs 0 0 Q (F0 m 0 ls []) from hgo _ hP hS
  clear hP hS eH H eL
  intro H hP hS
  refine lv_iload_n hx hb dX10_in_0 rfl (lv_at hl 0 rfl) ?_
  refine lv_iload_n hx hb dX10_in_1 rfl (lv_at hl 1 rfl) ?_
  refine lv_icmp_lt (tgt := 14) hx hb dX10_in_2 (by decide) (fun c_ => ?_) (fun c_ => ?_)
  · have h := h.1 c_
    refine lv_iconst (v := 0) hx hb dX10_in_14 (by decide) ?_
    exact hR 0 () H locs (Or.inl rfl) h hP hD hS _ ls dX10_in_15
  · have h := h.2 c_
    refine lv_iload_n hx hb dX10_in_5 rfl (lv_at hl 0 rfl) ?_
    refine lv_iload_n hx hb dX10_in_6 rfl (lv_at hl 2 rfl) ?_
    refine lv_icmp_gt (tgt := 14) hx hb dX10_in_7 (by decide) (fun c_ => ?_) (fun c_ => ?_)
    · have h := h.1 c_
      refine lv_iconst (v := 0) hx hb dX10_in_14 (by decide) ?_
      exact hR 0 () H locs (Or.inl rfl) h hP hD hS _ ls dX10_in_15
    · have h := h.2 c_
      refine lv_iconst (v := 1) hx hb dX10_in_10 (by decide) ?_
      refine lv_goto (tgt := 15) hx hb dX10_in_11 (by decide) ?_
      exact hR 1 () H locs (Or.inr rfl) h hP hD hS _ ls dX10_in_15
