def wp_X4_init  (K : (Nat → Int32) → Prop) : Prop :=
  K (fun _ => 0)
abbrev rmX4_init : Room := { frames := 1, cells := 1, slots := 4096, locals := 20 }
set_option maxHeartbeats 4000000 in
set_option maxRecDepth 100000 in
theorem c_X4_init (l : Launch) (dC : Nat → ClassId) (dI : Nat → Nat → Nat) (kI kZ : ClassId) (sz : Nat) (A0 : Nat → Prop) (adK adV : Nat → Nat) (hz : ∀ q, sz ≤ q → A0 q) (p_me : Nat) (K : (Nat → Int32) → Prop) (h : wp_X4_init  K) : Met l yX4_init wsX4_init rmX4_init (va_Pc [.ref p_me] (zPG (dC, dI) (zT kI kZ) sz A0 adK adV [(p_me, .inr (4, [.null]))])) (va_Qv (fun (u : Nat × (Nat → Int32)) => K u.2) (fun (u : Nat × (Nat → Int32)) => zB (dC, dI) (zT kI kZ) (va_A [(p_me, .inr (4, [.null]))] sz) [(p_me, .inr (4, [.ref u.1])), (u.1, .inl (kI, 4096, .inl u.2))]) (va_A [(p_me, .inr (4, [.null]))] sz)) 1 4096 (va_A [(p_me, .inr (4, [.null]))] sz) := by
  refine zz_ofvI (cc := cX4_init) (maxL := 1) (by decide) rfl (Nat.le_of_ble_eq_true rfl) hz ?_
  intro p e s m args below meth c A Q ls hx hb hml hown hts hK hA hG hAA hin hR hP hD hS hl
  have hown : s.vm.findClass RX4 = some m.cls := hown
  have hin : meth.name = "<init>" := hin
  have hl : lv_has ls 1 [(0, .ref p_me)] := hl
  have hi_X4 : ∀ w ∈ wsX40, w ∈ wsX4_init := fun _ h => (List.mem_cons_of_mem _ (List.mem_append_right _ h))
  unfold wp_X4_init at h
  obtain ⟨locs, eL⟩ : ∃ L : List Loc, L = [] := ⟨_, rfl⟩
  rw [← eL]
  have hS : va_S A s.heap s.heap locs := by rw [eL]; exact hS
  suffices hgo : ∀ H : Heap, va_P (dC, dI) vwCl [(p_me, .inr (4, [.null]))] H → va_S A s.heap H locs → W p l e rmX4_init s m args below meth c H locs 0 0 Q (F0 m 0 ls []) from hgo _ hP hS
  clear hP hS eL
  intro H hP hS
  refine lv_aload_n hx hb dX4_init_0 rfl (lv_at hl 0 rfl) ?_
  refine W.objInit hx hb hown (hts (.methodLink RX4 1 objectInit) (List.mem_cons_of_mem _ (List.mem_append_left _ (List.mem_of_getElem? (i := 0) rfl)))) (hts (.instanceMethod objectInit) (List.mem_cons_of_mem _ (List.mem_append_left _ (List.mem_of_getElem? (i := 1) rfl)))) (hts (.code objectInit ⟨#[0xb1]⟩ 1 none) (List.mem_cons_of_mem _ (List.mem_append_left _ (List.mem_of_getElem? (i := 2) rfl)))) rfl (by rw [hml]; exact hl.1) rfl dX4_init_1 (Nat.le_of_ble_eq_true rfl) (Nat.le_of_ble_eq_true rfl) ?_
  refine W.eq (g2 := F0 m 4 ls []) rfl ?_
  refine lv_aload_n hx hb dX4_init_4 rfl (lv_at hl 0 rfl) ?_
  refine lv_sipush (v := 4096) hx hb dX4_init_5 (by decide) ?_
  refine va_newa (atype := .int) (a0 := (4096, .inl (fun _ => 0))) (N' := 4096) (ty := .int) hx hb (hts (.arrayClass .int) (List.mem_cons_of_mem _ (List.mem_append_left _ (List.mem_of_getElem? (i := 3) rfl)))) rfl hK hP hD hS hA (fun cA => by rw [vp_cell_i]; rfl) (by decide) (by decide) (by decide) (by decide +kernel) (by decide +kernel) dX4_init_8 (fun p_me_octets cA H hK hP hD hS => ?_)
  have eK := zz_kI hK
  rw [eK] at hP hD
  have hK : va_K (dC, dI) vwCl (zT kI kZ) s := hK.sub [0, 1] rfl
  have hP : va_P (dC, dI) vwCl [(p_me, .inr (4, [.null])), (p_me_octets, .inl (kI, 4096, .inl (fun _ => 0)))] H := hP
  have hD : va_D A [(p_me, .inr (4, [.null])), (p_me_octets, .inl (kI, 4096, .inl (fun _ => 0)))] := hD
  refine va_putF (D := (dC, dI)) (ci := 4) (v := .ref p_me_octets) (ty := (.array .int)) (C := RX4) (T := TX4) (N := 1) hx hb hts hi_X4 tyX4 tyX4_ok nmX4 hown hK hP hD hS 0 rfl rfl 0 (by decide) (hts (.fieldLink RX4 9 "ZInput$Memory" "octets" "[I") (List.mem_cons_of_mem _ (List.mem_append_left _ (List.mem_of_getElem? (i := 4) rfl)))) (fun _ h9 => h9) rfl hin rfl (by decide +kernel) rfl rfl (Nat.le_of_ble_eq_true rfl) dX4_init_10 (fun H locs hP hD hS => ?_)
  have hP : va_P (dC, dI) vwCl [(p_me, .inr (4, [.ref p_me_octets])), (p_me_octets, .inl (kI, 4096, .inl (fun _ => 0)))] H := hP
  have hD : va_D A [(p_me, .inr (4, [.ref p_me_octets])), (p_me_octets, .inl (kI, 4096, .inl (fun _ => 0)))] := hD
  refine W.widen (k := 1) (n := 4096) (by decide +kernel) (by decide +kernel) ?_
  exact hR (p_me_octets, (fun _ => 0)) H locs h hP hD hS _ ls dX4_init_13
def wp_X5_init (a2 : Int32) (K : Int32 → Nat → Int32 → Int32 → (Nat → Int32) → Int32 → Nat → Prop) : Prop :=
  ((¬ a2 = 1) → (∀ J36 : Int32 → Prop, (∀ (y_1 : Int32), (∀ J50 : Int32 → Prop, (∀ (y_2 : Int32), (((3 < a2) → (∀ J83 : Int32 → Prop, (∀ (y_3 : Int32), (K y_3 1 y_1 y_2 (fun _ => 0) 0 9) → J83 y_3) → (((3 < a2) → (J83 6)) ∧ ((¬ 3 < a2) → (J83 4))))) ∧ ((¬ 3 < a2) → (∀ J83 : Int32 → Prop, (∀ (y_4 : Int32), (K y_4 1 y_1 y_2 (fun _ => 0) 0 6) → J83 y_4) → (((3 < a2) → (J83 6)) ∧ ((¬ 3 < a2) → (J83 4)))))) → J50 y_2) → (((2 < a2) → (J50 5)) ∧ ((¬ 2 < a2) → (J50 3)))) → J36 y_1) → (((2 < a2) → (J36 4)) ∧ ((¬ 2 < a2) → (J36 2))))) ∧ ((a2 = 1) → (∀ J36 : Int32 → Prop, (∀ (y_5 : Int32), (∀ J50 : Int32 → Prop, (∀ (y_6 : Int32), (((3 < a2) → (∀ J83 : Int32 → Prop, (∀ (y_7 : Int32), (K y_7 0 y_5 y_6 (fun _ => 0) 0 9) → J83 y_7) → (((3 < a2) → (J83 6)) ∧ ((¬ 3 < a2) → (J83 4))))) ∧ ((¬ 3 < a2) → (∀ J83 : Int32 → Prop, (∀ (y_8 : Int32), (K y_8 0 y_5 y_6 (fun _ => 0) 0 6) → J83 y_8) → (((3 < a2) → (J83 6)) ∧ ((¬ 3 < a2) → (J83 4)))))) → J50 y_6) → (((2 < a2) → (J50 5)) ∧ ((¬ 2 < a2) → (J50 3)))) → J36 y_5) → (((2 < a2) → (J36 4)) ∧ ((¬ 2 < a2) → (J36 2)))))
abbrev rmX5_init : Room := { frames := 1, cells := 1, slots := 9, locals := 20 }
set_option maxHeartbeats 4000000 in
set_option maxRecDepth 100000 in
theorem c_X5_init (l : Launch) (dC : Nat → ClassId) (dI : Nat → Nat → Nat) (kI kZ : ClassId) (sz : Nat) (A0 : Nat → Prop) (adK adV : Nat → Nat) (hz : ∀ q, sz ≤ q → A0 q) (p_pa : Nat) (p_me : Nat) (a2 : Int32) (K : Int32 → Nat → Int32 → Int32 → (Nat → Int32) → Int32 → Nat → Prop) (h : wp_X5_init a2 K) : Met l yX5_init wsX5_init rmX5_init (va_Pc [.ref p_pa, .ref p_me, .int a2] (zPG (dC, dI) (zT kI kZ) sz A0 adK adV [(p_pa, .inr (5, [.int 0, .null, .null, .int 0, .int 0, .null, .int 0]))])) (va_Qv (fun (u : Nat × Int32 × Nat × Int32 × Int32 × (Nat → Int32) × Int32 × Nat) => K u.2.1 u.2.2.1 u.2.2.2.1 u.2.2.2.2.1 u.2.2.2.2.2.1 u.2.2.2.2.2.2.1 u.2.2.2.2.2.2.2) (fun (u : Nat × Int32 × Nat × Int32 × Int32 × (Nat → Int32) × Int32 × Nat) => zB (dC, dI) (zT kI kZ) (va_A [(p_pa, .inr (5, [.int 0, .null, .null, .int 0, .int 0, .null, .int 0]))] sz) [(p_pa, .inr (5, [.int u.2.1, .ref p_me, .ref (adK u.2.2.1), .int u.2.2.2.1, .int u.2.2.2.2.1, .ref u.1, .int u.2.2.2.2.2.2.1])), (u.1, .inl (kI, u.2.2.2.2.2.2.2, .inl u.2.2.2.2.2.1))]) (va_A [(p_pa, .inr (5, [.int 0, .null, .null, .int 0, .int 0, .null, .int 0]))] sz)) 1 9 (va_A [(p_pa, .inr (5, [.int 0, .null, .null, .int 0, .int 0, .null, .int 0]))] sz) := by
  refine zz_ofvI (cc := cX5_init) (maxL := 3) (by decide) rfl (Nat.le_of_ble_eq_true rfl) hz ?_
  intro p e s m args below meth c A Q ls hx hb hml hown hts hK hA hG hAA hin hR hP hD hS hl
  have hown : s.vm.findClass RX5 = some m.cls := hown
  have hin : meth.name = "<init>" := hin
  have hl : lv_has ls 3 [(0, .ref p_pa), (1, .ref p_me), (2, .int a2)] := hl
  have hi_X5 : ∀ w ∈ wsX50, w ∈ wsX5_init := fun _ h => (List.mem_cons_of_mem _ (List.mem_append_right _ h))
  unfold wp_X5_init at h
  obtain ⟨locs, eL⟩ : ∃ L : List Loc, L = [] := ⟨_, rfl⟩
  rw [← eL]
  have hS : va_S A s.heap s.heap locs := by rw [eL]; exact hS
  suffices hgo : ∀ H : Heap, va_P (dC, dI) vwCl [(p_pa, .inr (5, [.int 0, .null, .null, .int 0, .int 0, .null, .int 0]))] H → va_S A s.heap H locs → W p l e rmX5_init s m args below meth c H locs 0 0 Q (F0 m 0 ls []) from hgo _ hP hS
  clear hP hS eL
  intro H hP hS
  refine lv_aload_n hx hb dX5_init_0 rfl (lv_at hl 0 rfl) ?_
  refine W.objInit hx hb hown (hts (.methodLink RX5 3 objectInit) (List.mem_cons_of_mem _ (List.mem_append_left _ (List.mem_of_getElem? (i := 0) rfl)))) (hts (.instanceMethod objectInit) (List.mem_cons_of_mem _ (List.mem_append_left _ (List.mem_of_getElem? (i := 1) rfl)))) (hts (.code objectInit ⟨#[0xb1]⟩ 1 none) (List.mem_cons_of_mem _ (List.mem_append_left _ (List.mem_of_getElem? (i := 2) rfl)))) rfl (by rw [hml]; exact hl.1) rfl dX5_init_1 (Nat.le_of_ble_eq_true rfl) (Nat.le_of_ble_eq_true rfl) ?_
  refine W.eq (g2 := F0 m 4 ls []) rfl ?_
  refine lv_aload_n hx hb dX5_init_4 rfl (lv_at hl 0 rfl) ?_
  refine lv_aload_n hx hb dX5_init_5 rfl (lv_at hl 1 rfl) ?_
  refine va_putF (D := (dC, dI)) (ci := 5) (v := .ref p_me) (ty := (.object "ZInput$Memory")) (C := RX5) (T := TX5) (N := 7) hx hb hts hi_X5 tyX5 tyX5_ok nmX5 hown hK hP hD hS 0 rfl rfl 1 (by decide) (hts (.fieldLink RX5 9 "ZInput$Packer" "memory" "LZInput$Memory;") (List.mem_cons_of_mem _ (List.mem_append_left _ (List.mem_of_getElem? (i := 3) rfl)))) (fun _ h9 => h9) rfl hin rfl (by decide +kernel) rfl rfl (Nat.le_of_ble_eq_true rfl) dX5_init_6 (fun H locs hP hD hS => ?_)
  have hP : va_P (dC, dI) vwCl [(p_pa, .inr (5, [.int 0, .ref p_me, .null, .int 0, .int 0, .null, .int 0]))] H := hP
  have hD : va_D A [(p_pa, .inr (5, [.int 0, .ref p_me, .null, .int 0, .int 0, .null, .int 0]))] := hD
  refine lv_aload_n hx hb dX5_init_9 rfl (lv_at hl 0 rfl) ?_
  refine lv_iload_n hx hb dX5_init_10 rfl (lv_at hl 2 rfl) ?_
  refine lv_iconst (v := 1) hx hb dX5_init_11 (by decide) ?_
  refine lv_icmp_ne (tgt := 20) hx hb dX5_init_12 (by decide) (fun c_ => ?_) (fun c_ => ?_)
  · have h := h.1 c_
    refine va_ldcS hx hb hown hG.2.2.2.1 dX5_init_20 ?_
    refine va_putF (D := (dC, dI)) (ci := 5) (v := .ref (adK 1)) (ty := (.object "java/lang/String")) (C := RX5) (T := TX5) (N := 7) hx hb hts hi_X5 tyX5 tyX5_ok nmX5 hown hK hP hD hS 0 rfl rfl 2 (by decide) (hts (.fieldLink RX5 19 "ZInput$Packer" "row" "Ljava/lang/String;") (List.mem_cons_of_mem _ (List.mem_append_left _ (List.mem_of_getElem? (i := 4) rfl)))) (fun _ h9 => h9) rfl hin rfl (by decide +kernel) rfl rfl (Nat.le_of_ble_eq_true rfl) dX5_init_22 (fun H locs hP hD hS => ?_)
    have hP : va_P (dC, dI) vwCl [(p_pa, .inr (5, [.int 0, .ref p_me, .ref (adK 1), .int 0, .int 0, .null, .int 0]))] H := hP
    have hD : va_D A [(p_pa, .inr (5, [.int 0, .ref p_me, .ref (adK 1), .int 0, .int 0, .null, .int 0]))] := hD
    refine lv_aload_n hx hb dX5_init_25 rfl (lv_at hl 0 rfl) ?_
    refine lv_iload_n hx hb dX5_init_26 rfl (lv_at hl 2 rfl) ?_
    refine lv_iconst (v := 2) hx hb dX5_init_27 (by decide) ?_
    have h := h (fun (y_1 : Int32) => ∀ (H : Heap) (locs : List Loc), va_P (dC, dI) vwCl [(p_pa, .inr (5, [.int 0, .ref p_me, .ref (adK 1), .int 0, .int 0, .null, .int 0]))] H → va_D A [(p_pa, .inr (5, [.int 0, .ref p_me, .ref (adK 1), .int 0, .int 0, .null, .int 0]))] → va_S A s.heap H locs → ∀ ls : Array Slot, lv_has ls 3 [(0, .ref p_pa), (2, .int a2)] → W p l e rmX5_init s m args below meth c H locs 0 0 Q (F0 m 36 ls [.int y_1, .ref p_pa])) (by
      clear h hP hD hS hl
      intro y_1 h H locs hP hD hS ls hl
      refine va_putF (D := (dC, dI)) (ci := 5) (v := .int y_1) (ty := .int) (C := RX5) (T := TX5) (N := 7) hx hb hts hi_X5 tyX5 tyX5_ok nmX5 hown hK hP hD hS 0 rfl rfl 3 (by decide) (hts (.fieldLink RX5 23 "ZInput$Packer" "up" "I") (List.mem_cons_of_mem _ (List.mem_append_left _ (List.mem_of_getElem? (i := 5) rfl)))) (fun _ h9 => h9) rfl hin rfl (by decide +kernel) rfl rfl (Nat.le_of_ble_eq_true rfl) dX5_init_36 (fun H locs hP hD hS => ?_)
      have hP : va_P (dC, dI) vwCl [(p_pa, .inr (5, [.int 0, .ref p_me, .ref (adK 1), .int y_1, .int 0, .null, .int 0]))] H := hP
      have hD : va_D A [(p_pa, .inr (5, [.int 0, .ref p_me, .ref (adK 1), .int y_1, .int 0, .null, .int 0]))] := hD
      refine lv_aload_n hx hb dX5_init_39 rfl (lv_at hl 0 rfl) ?_
      refine lv_iload_n hx hb dX5_init_40 rfl (lv_at hl 1 rfl) ?_
      refine lv_iconst (v := 2) hx hb dX5_init_41 (by decide) ?_
      have h := h (fun (y_2 : Int32) => ∀ (H : Heap) (locs : List Loc), va_P (dC, dI) vwCl [(p_pa, .inr (5, [.int 0, .ref p_me, .ref (adK 1), .int y_1, .int 0, .null, .int 0]))] H → va_D A [(p_pa, .inr (5, [.int 0, .ref p_me, .ref (adK 1), .int y_1, .int 0, .null, .int 0]))] → va_S A s.heap H locs → ∀ ls : Array Slot, lv_has ls 3 [(0, .ref p_pa), (2, .int a2)] → W p l e rmX5_init s m args below meth c H locs 0 0 Q (F0 m 50 ls [.int y_2, .ref p_pa])) (by
        clear h hP hD hS hl
        intro y_2 h H locs hP hD hS ls hl
        refine va_putF (D := (dC, dI)) (ci := 5) (v := .int y_2) (ty := .int) (C := RX5) (T := TX5) (N := 7) hx hb hts hi_X5 tyX5 tyX5_ok nmX5 hown hK hP hD hS 0 rfl rfl 4 (by decide) (hts (.fieldLink RX5 27 "ZInput$Packer" "aside" "I") (List.mem_cons_of_mem _ (List.mem_append_left _ (List.mem_of_getElem? (i := 6) rfl)))) (fun _ h9 => h9) rfl hin rfl (by decide +kernel) rfl rfl (Nat.le_of_ble_eq_true rfl) dX5_init_50 (fun H locs hP hD hS => ?_)
        have hP : va_P (dC, dI) vwCl [(p_pa, .inr (5, [.int 0, .ref p_me, .ref (adK 1), .int y_1, .int y_2, .null, .int 0]))] H := hP
        have hD : va_D A [(p_pa, .inr (5, [.int 0, .ref p_me, .ref (adK 1), .int y_1, .int y_2, .null, .int 0]))] := hD
        refine lv_aload_n hx hb dX5_init_53 rfl (lv_at hl 0 rfl) ?_
        refine lv_iload_n hx hb dX5_init_54 rfl (lv_at hl 1 rfl) ?_
        refine lv_iconst (v := 3) hx hb dX5_init_55 (by decide) ?_
        refine lv_icmp_gt (tgt := 64) hx hb dX5_init_56 (by decide) (fun c_ => ?_) (fun c_ => ?_)
        · have h := h.1 c_
          refine lv_bipush (v := 9) hx hb dX5_init_64 (by decide) ?_
          refine va_newa (atype := .int) (a0 := (9, .inl (fun _ => 0))) (N' := 9) (ty := .int) hx hb (hts (.arrayClass .int) (List.mem_cons_of_mem _ (List.mem_append_left _ (List.mem_of_getElem? (i := 7) rfl)))) rfl hK hP hD hS hA (fun cA => by rw [vp_cell_i]; rfl) (by decide) (by decide) (by decide) (by decide +kernel) (by decide +kernel) dX5_init_66 (fun p_pa_letters cA H hK hP hD hS => ?_)
          have eK := zz_kI hK
          rw [eK] at hP hD
          have hK : va_K (dC, dI) vwCl (zT kI kZ) s := hK.sub [0, 1] rfl
          have hP : va_P (dC, dI) vwCl [(p_pa, .inr (5, [.int 0, .ref p_me, .ref (adK 1), .int y_1, .int y_2, .null, .int 0])), (p_pa_letters, .inl (kI, 9, .inl (fun _ => 0)))] H := hP
          have hD : va_D A [(p_pa, .inr (5, [.int 0, .ref p_me, .ref (adK 1), .int y_1, .int y_2, .null, .int 0])), (p_pa_letters, .inl (kI, 9, .inl (fun _ => 0)))] := hD
          refine va_putF (D := (dC, dI)) (ci := 5) (v := .ref p_pa_letters) (ty := (.array .int)) (C := RX5) (T := TX5) (N := 7) hx hb hts hi_X5 tyX5 tyX5_ok nmX5 hown hK hP hD hS 0 rfl rfl 5 (by decide) (hts (.fieldLink RX5 30 "ZInput$Packer" "letters" "[I") (List.mem_cons_of_mem _ (List.mem_append_left _ (List.mem_of_getElem? (i := 8) rfl)))) (fun _ h9 => h9) rfl hin rfl (by decide +kernel) rfl rfl (Nat.le_of_ble_eq_true rfl) dX5_init_68 (fun H locs hP hD hS => ?_)
          have hP : va_P (dC, dI) vwCl [(p_pa, .inr (5, [.int 0, .ref p_me, .ref (adK 1), .int y_1, .int y_2, .ref p_pa_letters, .int 0])), (p_pa_letters, .inl (kI, 9, .inl (fun _ => 0)))] H := hP
          have hD : va_D A [(p_pa, .inr (5, [.int 0, .ref p_me, .ref (adK 1), .int y_1, .int y_2, .ref p_pa_letters, .int 0])), (p_pa_letters, .inl (kI, 9, .inl (fun _ => 0)))] := hD
          refine lv_aload_n hx hb dX5_init_71 rfl (lv_at hl 0 rfl) ?_
          refine lv_iload_n hx hb dX5_init_72 rfl (lv_at hl 1 rfl) ?_
          refine lv_iconst (v := 3) hx hb dX5_init_73 (by decide) ?_
          have h := h (fun (y_3 : Int32) => ∀ (H : Heap) (locs : List Loc), va_P (dC, dI) vwCl [(p_pa, .inr (5, [.int 0, .ref p_me, .ref (adK 1), .int y_1, .int y_2, .ref p_pa_letters, .int 0])), (p_pa_letters, .inl (kI, 9, .inl (fun _ => 0)))] H → va_D A [(p_pa, .inr (5, [.int 0, .ref p_me, .ref (adK 1), .int y_1, .int y_2, .ref p_pa_letters, .int 0])), (p_pa_letters, .inl (kI, 9, .inl (fun _ => 0)))] → va_S A s.heap H locs → ∀ ls : Array Slot, lv_has ls 3 [(0, .ref p_pa)] → W p l e rmX5_init s m args below meth c H locs 1 9 Q (F0 m 83 ls [.int y_3, .ref p_pa])) (by
            clear h hP hD hS hl
            intro y_3 h H locs hP hD hS ls hl
            refine va_putF (D := (dC, dI)) (ci := 5) (v := .int y_3) (ty := .int) (C := RX5) (T := TX5) (N := 7) hx hb hts hi_X5 tyX5 tyX5_ok nmX5 hown hK hP hD hS 0 rfl rfl 0 (by decide) (hts (.fieldLink RX5 34 "ZInput$Packer" "octets" "I") (List.mem_cons_of_mem _ (List.mem_append_left _ (List.mem_of_getElem? (i := 9) rfl)))) (fun _ h9 => h9) rfl hin rfl (by decide +kernel) rfl rfl (Nat.le_of_ble_eq_true rfl) dX5_init_83 (fun H locs hP hD hS => ?_)
            have hP : va_P (dC, dI) vwCl [(p_pa, .inr (5, [.int y_3, .ref p_me, .ref (adK 1), .int y_1, .int y_2, .ref p_pa_letters, .int 0])), (p_pa_letters, .inl (kI, 9, .inl (fun _ => 0)))] H := hP
            have hD : va_D A [(p_pa, .inr (5, [.int y_3, .ref p_me, .ref (adK 1), .int y_1, .int y_2, .ref p_pa_letters, .int 0])), (p_pa_letters, .inl (kI, 9, .inl (fun _ => 0)))] := hD
            refine lv_aload_n hx hb dX5_init_86 rfl (lv_at hl 0 rfl) ?_
            refine lv_iconst (v := 0) hx hb dX5_init_87 (by decide) ?_
            refine va_put (D := (dC, dI)) (ci := 5) (v := .int 0) (ty := .int) (C := RX5) (T := TX5) (N := 7) hx hb hts hi_X5 tyX5 tyX5_ok nmX5 hown hK hP hD hS 0 rfl rfl 6 (by decide) (hts (.fieldLink RX5 37 "ZInput$Packer" "used" "I") (List.mem_cons_of_mem _ (List.mem_append_left _ (List.mem_of_getElem? (i := 10) rfl)))) (fun _ h9 => h9) rfl (by decide +kernel) rfl rfl (Nat.le_of_ble_eq_true rfl) dX5_init_88 (fun H locs hP hD hS => ?_)
            have hP : va_P (dC, dI) vwCl [(p_pa, .inr (5, [.int y_3, .ref p_me, .ref (adK 1), .int y_1, .int y_2, .ref p_pa_letters, .int 0])), (p_pa_letters, .inl (kI, 9, .inl (fun _ => 0)))] H := hP
            have hD : va_D A [(p_pa, .inr (5, [.int y_3, .ref p_me, .ref (adK 1), .int y_1, .int y_2, .ref p_pa_letters, .int 0])), (p_pa_letters, .inl (kI, 9, .inl (fun _ => 0)))] := hD
            refine W.widen (k := 1) (n := 9) (by decide +kernel) (by decide +kernel) ?_
            exact hR (p_pa_letters, y_3, 1, y_1, y_2, (fun _ => 0), 0, 9) H locs h hP hD hS _ ls dX5_init_91)
          refine lv_icmp_gt (tgt := 81) hx hb dX5_init_74 (by decide) (fun c_ => ?_) (fun c_ => ?_)
          · have h := h.1 c_
            refine lv_bipush (v := 6) hx hb dX5_init_81 (by decide) ?_
            exact h H locs hP hD hS ls (lv_sub hl [0] rfl)
          · have h := h.2 c_
            refine lv_iconst (v := 4) hx hb dX5_init_77 (by decide) ?_
            refine lv_goto (tgt := 83) hx hb dX5_init_78 (by decide) ?_
            exact h H locs hP hD hS ls (lv_sub hl [0] rfl)
        · have h := h.2 c_
          refine lv_bipush (v := 6) hx hb dX5_init_59 (by decide) ?_
          refine lv_goto (tgt := 66) hx hb dX5_init_61 (by decide) ?_
          refine va_newa (atype := .int) (a0 := (6, .inl (fun _ => 0))) (N' := 6) (ty := .int) hx hb (hts (.arrayClass .int) (List.mem_cons_of_mem _ (List.mem_append_left _ (List.mem_of_getElem? (i := 7) rfl)))) rfl hK hP hD hS hA (fun cA => by rw [vp_cell_i]; rfl) (by decide) (by decide) (by decide) (by decide +kernel) (by decide +kernel) dX5_init_66 (fun p_pa_letters cA H hK hP hD hS => ?_)
          have eK := zz_kI hK
          rw [eK] at hP hD
          have hK : va_K (dC, dI) vwCl (zT kI kZ) s := hK.sub [0, 1] rfl
          have hP : va_P (dC, dI) vwCl [(p_pa, .inr (5, [.int 0, .ref p_me, .ref (adK 1), .int y_1, .int y_2, .null, .int 0])), (p_pa_letters, .inl (kI, 6, .inl (fun _ => 0)))] H := hP
          have hD : va_D A [(p_pa, .inr (5, [.int 0, .ref p_me, .ref (adK 1), .int y_1, .int y_2, .null, .int 0])), (p_pa_letters, .inl (kI, 6, .inl (fun _ => 0)))] := hD
          refine va_putF (D := (dC, dI)) (ci := 5) (v := .ref p_pa_letters) (ty := (.array .int)) (C := RX5) (T := TX5) (N := 7) hx hb hts hi_X5 tyX5 tyX5_ok nmX5 hown hK hP hD hS 0 rfl rfl 5 (by decide) (hts (.fieldLink RX5 30 "ZInput$Packer" "letters" "[I") (List.mem_cons_of_mem _ (List.mem_append_left _ (List.mem_of_getElem? (i := 8) rfl)))) (fun _ h9 => h9) rfl hin rfl (by decide +kernel) rfl rfl (Nat.le_of_ble_eq_true rfl) dX5_init_68 (fun H locs hP hD hS => ?_)
          have hP : va_P (dC, dI) vwCl [(p_pa, .inr (5, [.int 0, .ref p_me, .ref (adK 1), .int y_1, .int y_2, .ref p_pa_letters, .int 0])), (p_pa_letters, .inl (kI, 6, .inl (fun _ => 0)))] H := hP
          have hD : va_D A [(p_pa, .inr (5, [.int 0, .ref p_me, .ref (adK 1), .int y_1, .int y_2, .ref p_pa_letters, .int 0])), (p_pa_letters, .inl (kI, 6, .inl (fun _ => 0)))] := hD
          refine lv_aload_n hx hb dX5_init_71 rfl (lv_at hl 0 rfl) ?_
          refine lv_iload_n hx hb dX5_init_72 rfl (lv_at hl 1 rfl) ?_
          refine lv_iconst (v := 3) hx hb dX5_init_73 (by decide) ?_
          have h := h (fun (y_4 : Int32) => ∀ (H : Heap) (locs : List Loc), va_P (dC, dI) vwCl [(p_pa, .inr (5, [.int 0, .ref p_me, .ref (adK 1), .int y_1, .int y_2, .ref p_pa_letters, .int 0])), (p_pa_letters, .inl (kI, 6, .inl (fun _ => 0)))] H → va_D A [(p_pa, .inr (5, [.int 0, .ref p_me, .ref (adK 1), .int y_1, .int y_2, .ref p_pa_letters, .int 0])), (p_pa_letters, .inl (kI, 6, .inl (fun _ => 0)))] → va_S A s.heap H locs → ∀ ls : Array Slot, lv_has ls 3 [(0, .ref p_pa)] → W p l e rmX5_init s m args below meth c H locs 1 6 Q (F0 m 83 ls [.int y_4, .ref p_pa])) (by
            clear h hP hD hS hl
            intro y_4 h H locs hP hD hS ls hl
            refine va_putF (D := (dC, dI)) (ci := 5) (v := .int y_4) (ty := .int) (C := RX5) (T := TX5) (N := 7) hx hb hts hi_X5 tyX5 tyX5_ok nmX5 hown hK hP hD hS 0 rfl rfl 0 (by decide) (hts (.fieldLink RX5 34 "ZInput$Packer" "octets" "I") (List.mem_cons_of_mem _ (List.mem_append_left _ (List.mem_of_getElem? (i := 9) rfl)))) (fun _ h9 => h9) rfl hin rfl (by decide +kernel) rfl rfl (Nat.le_of_ble_eq_true rfl) dX5_init_83 (fun H locs hP hD hS => ?_)
            have hP : va_P (dC, dI) vwCl [(p_pa, .inr (5, [.int y_4, .ref p_me, .ref (adK 1), .int y_1, .int y_2, .ref p_pa_letters, .int 0])), (p_pa_letters, .inl (kI, 6, .inl (fun _ => 0)))] H := hP
            have hD : va_D A [(p_pa, .inr (5, [.int y_4, .ref p_me, .ref (adK 1), .int y_1, .int y_2, .ref p_pa_letters, .int 0])), (p_pa_letters, .inl (kI, 6, .inl (fun _ => 0)))] := hD
            refine lv_aload_n hx hb dX5_init_86 rfl (lv_at hl 0 rfl) ?_
            refine lv_iconst (v := 0) hx hb dX5_init_87 (by decide) ?_
            refine va_put (D := (dC, dI)) (ci := 5) (v := .int 0) (ty := .int) (C := RX5) (T := TX5) (N := 7) hx hb hts hi_X5 tyX5 tyX5_ok nmX5 hown hK hP hD hS 0 rfl rfl 6 (by decide) (hts (.fieldLink RX5 37 "ZInput$Packer" "used" "I") (List.mem_cons_of_mem _ (List.mem_append_left _ (List.mem_of_getElem? (i := 10) rfl)))) (fun _ h9 => h9) rfl (by decide +kernel) rfl rfl (Nat.le_of_ble_eq_true rfl) dX5_init_88 (fun H locs hP hD hS => ?_)
            have hP : va_P (dC, dI) vwCl [(p_pa, .inr (5, [.int y_4, .ref p_me, .ref (adK 1), .int y_1, .int y_2, .ref p_pa_letters, .int 0])), (p_pa_letters, .inl (kI, 6, .inl (fun _ => 0)))] H := hP
            have hD : va_D A [(p_pa, .inr (5, [.int y_4, .ref p_me, .ref (adK 1), .int y_1, .int y_2, .ref p_pa_letters, .int 0])), (p_pa_letters, .inl (kI, 6, .inl (fun _ => 0)))] := hD
            refine W.widen (k := 1) (n := 9) (by decide +kernel) (by decide +kernel) ?_
            exact hR (p_pa_letters, y_4, 1, y_1, y_2, (fun _ => 0), 0, 6) H locs h hP hD hS _ ls dX5_init_91)
          refine lv_icmp_gt (tgt := 81) hx hb dX5_init_74 (by decide) (fun c_ => ?_) (fun c_ => ?_)
          · have h := h.1 c_
            refine lv_bipush (v := 6) hx hb dX5_init_81 (by decide) ?_
            exact h H locs hP hD hS ls (lv_sub hl [0] rfl)
          · have h := h.2 c_
            refine lv_iconst (v := 4) hx hb dX5_init_77 (by decide) ?_
            refine lv_goto (tgt := 83) hx hb dX5_init_78 (by decide) ?_
            exact h H locs hP hD hS ls (lv_sub hl [0] rfl))
      refine lv_icmp_gt (tgt := 49) hx hb dX5_init_42 (by decide) (fun c_ => ?_) (fun c_ => ?_)
      · have h := h.1 c_
        refine lv_iconst (v := 5) hx hb dX5_init_49 (by decide) ?_
        exact h H locs hP hD hS ls (lv_sub hl [0, 1] rfl)
      · have h := h.2 c_
        refine lv_iconst (v := 3) hx hb dX5_init_45 (by decide) ?_
        refine lv_goto (tgt := 50) hx hb dX5_init_46 (by decide) ?_
        exact h H locs hP hD hS ls (lv_sub hl [0, 1] rfl))
    refine lv_icmp_gt (tgt := 35) hx hb dX5_init_28 (by decide) (fun c_ => ?_) (fun c_ => ?_)
    · have h := h.1 c_
      refine lv_iconst (v := 4) hx hb dX5_init_35 (by decide) ?_
      exact h H locs hP hD hS ls (lv_sub hl [0, 2] rfl)
    · have h := h.2 c_
      refine lv_iconst (v := 2) hx hb dX5_init_31 (by decide) ?_
      refine lv_goto (tgt := 36) hx hb dX5_init_32 (by decide) ?_
      exact h H locs hP hD hS ls (lv_sub hl [0, 2] rfl)
  · have h := h.2 c_
    refine va_ldcS hx hb hown hG.2.2.1 dX5_init_15 ?_
    refine lv_goto (tgt := 22) hx hb dX5_init_17 (by decide) ?_
    refine va_putF (D := (dC, dI)) (ci := 5) (v := .ref (adK 0)) (ty := (.object "java/lang/String")) (C := RX5) (T := TX5) (N := 7) hx hb hts hi_X5 tyX5 tyX5_ok nmX5 hown hK hP hD hS 0 rfl rfl 2 (by decide) (hts (.fieldLink RX5 19 "ZInput$Packer" "row" "Ljava/lang/String;") (List.mem_cons_of_mem _ (List.mem_append_left _ (List.mem_of_getElem? (i := 4) rfl)))) (fun _ h9 => h9) rfl hin rfl (by decide +kernel) rfl rfl (Nat.le_of_ble_eq_true rfl) dX5_init_22 (fun H locs hP hD hS => ?_)
    have hP : va_P (dC, dI) vwCl [(p_pa, .inr (5, [.int 0, .ref p_me, .ref (adK 0), .int 0, .int 0, .null, .int 0]))] H := hP
    have hD : va_D A [(p_pa, .inr (5, [.int 0, .ref p_me, .ref (adK 0), .int 0, .int 0, .null, .int 0]))] := hD
    refine lv_aload_n hx hb dX5_init_25 rfl (lv_at hl 0 rfl) ?_
    refine lv_iload_n hx hb dX5_init_26 rfl (lv_at hl 2 rfl) ?_
    refine lv_iconst (v := 2) hx hb dX5_init_27 (by decide) ?_
    have h := h (fun (y_5 : Int32) => ∀ (H : Heap) (locs : List Loc), va_P (dC, dI) vwCl [(p_pa, .inr (5, [.int 0, .ref p_me, .ref (adK 0), .int 0, .int 0, .null, .int 0]))] H → va_D A [(p_pa, .inr (5, [.int 0, .ref p_me, .ref (adK 0), .int 0, .int 0, .null, .int 0]))] → va_S A s.heap H locs → ∀ ls : Array Slot, lv_has ls 3 [(0, .ref p_pa), (2, .int a2)] → W p l e rmX5_init s m args below meth c H locs 0 0 Q (F0 m 36 ls [.int y_5, .ref p_pa])) (by
      clear h hP hD hS hl
      intro y_5 h H locs hP hD hS ls hl
      refine va_putF (D := (dC, dI)) (ci := 5) (v := .int y_5) (ty := .int) (C := RX5) (T := TX5) (N := 7) hx hb hts hi_X5 tyX5 tyX5_ok nmX5 hown hK hP hD hS 0 rfl rfl 3 (by decide) (hts (.fieldLink RX5 23 "ZInput$Packer" "up" "I") (List.mem_cons_of_mem _ (List.mem_append_left _ (List.mem_of_getElem? (i := 5) rfl)))) (fun _ h9 => h9) rfl hin rfl (by decide +kernel) rfl rfl (Nat.le_of_ble_eq_true rfl) dX5_init_36 (fun H locs hP hD hS => ?_)
      have hP : va_P (dC, dI) vwCl [(p_pa, .inr (5, [.int 0, .ref p_me, .ref (adK 0), .int y_5, .int 0, .null, .int 0]))] H := hP
      have hD : va_D A [(p_pa, .inr (5, [.int 0, .ref p_me, .ref (adK 0), .int y_5, .int 0, .null, .int 0]))] := hD
      refine lv_aload_n hx hb dX5_init_39 rfl (lv_at hl 0 rfl) ?_
      refine lv_iload_n hx hb dX5_init_40 rfl (lv_at hl 1 rfl) ?_
      refine lv_iconst (v := 2) hx hb dX5_init_41 (by decide) ?_
      have h := h (fun (y_6 : Int32) => ∀ (H : Heap) (locs : List Loc), va_P (dC, dI) vwCl [(p_pa, .inr (5, [.int 0, .ref p_me, .ref (adK 0), .int y_5, .int 0, .null, .int 0]))] H → va_D A [(p_pa, .inr (5, [.int 0, .ref p_me, .ref (adK 0), .int y_5, .int 0, .null, .int 0]))] → va_S A s.heap H locs → ∀ ls : Array Slot, lv_has ls 3 [(0, .ref p_pa), (2, .int a2)] → W p l e rmX5_init s m args below meth c H locs 0 0 Q (F0 m 50 ls [.int y_6, .ref p_pa])) (by
        clear h hP hD hS hl
        intro y_6 h H locs hP hD hS ls hl
        refine va_putF (D := (dC, dI)) (ci := 5) (v := .int y_6) (ty := .int) (C := RX5) (T := TX5) (N := 7) hx hb hts hi_X5 tyX5 tyX5_ok nmX5 hown hK hP hD hS 0 rfl rfl 4 (by decide) (hts (.fieldLink RX5 27 "ZInput$Packer" "aside" "I") (List.mem_cons_of_mem _ (List.mem_append_left _ (List.mem_of_getElem? (i := 6) rfl)))) (fun _ h9 => h9) rfl hin rfl (by decide +kernel) rfl rfl (Nat.le_of_ble_eq_true rfl) dX5_init_50 (fun H locs hP hD hS => ?_)
        have hP : va_P (dC, dI) vwCl [(p_pa, .inr (5, [.int 0, .ref p_me, .ref (adK 0), .int y_5, .int y_6, .null, .int 0]))] H := hP
        have hD : va_D A [(p_pa, .inr (5, [.int 0, .ref p_me, .ref (adK 0), .int y_5, .int y_6, .null, .int 0]))] := hD
        refine lv_aload_n hx hb dX5_init_53 rfl (lv_at hl 0 rfl) ?_
        refine lv_iload_n hx hb dX5_init_54 rfl (lv_at hl 1 rfl) ?_
        refine lv_iconst (v := 3) hx hb dX5_init_55 (by decide) ?_
        refine lv_icmp_gt (tgt := 64) hx hb dX5_init_56 (by decide) (fun c_ => ?_) (fun c_ => ?_)
        · have h := h.1 c_
          refine lv_bipush (v := 9) hx hb dX5_init_64 (by decide) ?_
          refine va_newa (atype := .int) (a0 := (9, .inl (fun _ => 0))) (N' := 9) (ty := .int) hx hb (hts (.arrayClass .int) (List.mem_cons_of_mem _ (List.mem_append_left _ (List.mem_of_getElem? (i := 7) rfl)))) rfl hK hP hD hS hA (fun cA => by rw [vp_cell_i]; rfl) (by decide) (by decide) (by decide) (by decide +kernel) (by decide +kernel) dX5_init_66 (fun p_pa_letters cA H hK hP hD hS => ?_)
          have eK := zz_kI hK
          rw [eK] at hP hD
          have hK : va_K (dC, dI) vwCl (zT kI kZ) s := hK.sub [0, 1] rfl
          have hP : va_P (dC, dI) vwCl [(p_pa, .inr (5, [.int 0, .ref p_me, .ref (adK 0), .int y_5, .int y_6, .null, .int 0])), (p_pa_letters, .inl (kI, 9, .inl (fun _ => 0)))] H := hP
          have hD : va_D A [(p_pa, .inr (5, [.int 0, .ref p_me, .ref (adK 0), .int y_5, .int y_6, .null, .int 0])), (p_pa_letters, .inl (kI, 9, .inl (fun _ => 0)))] := hD
          refine va_putF (D := (dC, dI)) (ci := 5) (v := .ref p_pa_letters) (ty := (.array .int)) (C := RX5) (T := TX5) (N := 7) hx hb hts hi_X5 tyX5 tyX5_ok nmX5 hown hK hP hD hS 0 rfl rfl 5 (by decide) (hts (.fieldLink RX5 30 "ZInput$Packer" "letters" "[I") (List.mem_cons_of_mem _ (List.mem_append_left _ (List.mem_of_getElem? (i := 8) rfl)))) (fun _ h9 => h9) rfl hin rfl (by decide +kernel) rfl rfl (Nat.le_of_ble_eq_true rfl) dX5_init_68 (fun H locs hP hD hS => ?_)
          have hP : va_P (dC, dI) vwCl [(p_pa, .inr (5, [.int 0, .ref p_me, .ref (adK 0), .int y_5, .int y_6, .ref p_pa_letters, .int 0])), (p_pa_letters, .inl (kI, 9, .inl (fun _ => 0)))] H := hP
          have hD : va_D A [(p_pa, .inr (5, [.int 0, .ref p_me, .ref (adK 0), .int y_5, .int y_6, .ref p_pa_letters, .int 0])), (p_pa_letters, .inl (kI, 9, .inl (fun _ => 0)))] := hD
          refine lv_aload_n hx hb dX5_init_71 rfl (lv_at hl 0 rfl) ?_
          refine lv_iload_n hx hb dX5_init_72 rfl (lv_at hl 1 rfl) ?_
          refine lv_iconst (v := 3) hx hb dX5_init_73 (by decide) ?_
          have h := h (fun (y_7 : Int32) => ∀ (H : Heap) (locs : List Loc), va_P (dC, dI) vwCl [(p_pa, .inr (5, [.int 0, .ref p_me, .ref (adK 0), .int y_5, .int y_6, .ref p_pa_letters, .int 0])), (p_pa_letters, .inl (kI, 9, .inl (fun _ => 0)))] H → va_D A [(p_pa, .inr (5, [.int 0, .ref p_me, .ref (adK 0), .int y_5, .int y_6, .ref p_pa_letters, .int 0])), (p_pa_letters, .inl (kI, 9, .inl (fun _ => 0)))] → va_S A s.heap H locs → ∀ ls : Array Slot, lv_has ls 3 [(0, .ref p_pa)] → W p l e rmX5_init s m args below meth c H locs 1 9 Q (F0 m 83 ls [.int y_7, .ref p_pa])) (by
            clear h hP hD hS hl
            intro y_7 h H locs hP hD hS ls hl
            refine va_putF (D := (dC, dI)) (ci := 5) (v := .int y_7) (ty := .int) (C := RX5) (T := TX5) (N := 7) hx hb hts hi_X5 tyX5 tyX5_ok nmX5 hown hK hP hD hS 0 rfl rfl 0 (by decide) (hts (.fieldLink RX5 34 "ZInput$Packer" "octets" "I") (List.mem_cons_of_mem _ (List.mem_append_left _ (List.mem_of_getElem? (i := 9) rfl)))) (fun _ h9 => h9) rfl hin rfl (by decide +kernel) rfl rfl (Nat.le_of_ble_eq_true rfl) dX5_init_83 (fun H locs hP hD hS => ?_)
            have hP : va_P (dC, dI) vwCl [(p_pa, .inr (5, [.int y_7, .ref p_me, .ref (adK 0), .int y_5, .int y_6, .ref p_pa_letters, .int 0])), (p_pa_letters, .inl (kI, 9, .inl (fun _ => 0)))] H := hP
            have hD : va_D A [(p_pa, .inr (5, [.int y_7, .ref p_me, .ref (adK 0), .int y_5, .int y_6, .ref p_pa_letters, .int 0])), (p_pa_letters, .inl (kI, 9, .inl (fun _ => 0)))] := hD
            refine lv_aload_n hx hb dX5_init_86 rfl (lv_at hl 0 rfl) ?_
            refine lv_iconst (v := 0) hx hb dX5_init_87 (by decide) ?_
            refine va_put (D := (dC, dI)) (ci := 5) (v := .int 0) (ty := .int) (C := RX5) (T := TX5) (N := 7) hx hb hts hi_X5 tyX5 tyX5_ok nmX5 hown hK hP hD hS 0 rfl rfl 6 (by decide) (hts (.fieldLink RX5 37 "ZInput$Packer" "used" "I") (List.mem_cons_of_mem _ (List.mem_append_left _ (List.mem_of_getElem? (i := 10) rfl)))) (fun _ h9 => h9) rfl (by decide +kernel) rfl rfl (Nat.le_of_ble_eq_true rfl) dX5_init_88 (fun H locs hP hD hS => ?_)
            have hP : va_P (dC, dI) vwCl [(p_pa, .inr (5, [.int y_7, .ref p_me, .ref (adK 0), .int y_5, .int y_6, .ref p_pa_letters, .int 0])), (p_pa_letters, .inl (kI, 9, .inl (fun _ => 0)))] H := hP
            have hD : va_D A [(p_pa, .inr (5, [.int y_7, .ref p_me, .ref (adK 0), .int y_5, .int y_6, .ref p_pa_letters, .int 0])), (p_pa_letters, .inl (kI, 9, .inl (fun _ => 0)))] := hD
            refine W.widen (k := 1) (n := 9) (by decide +kernel) (by decide +kernel) ?_
            exact hR (p_pa_letters, y_7, 0, y_5, y_6, (fun _ => 0), 0, 9) H locs h hP hD hS _ ls dX5_init_91)
          refine lv_icmp_gt (tgt := 81) hx hb dX5_init_74 (by decide) (fun c_ => ?_) (fun c_ => ?_)
          · have h := h.1 c_
            refine lv_bipush (v := 6) hx hb dX5_init_81 (by decide) ?_
            exact h H locs hP hD hS ls (lv_sub hl [0] rfl)
          · have h := h.2 c_
            refine lv_iconst (v := 4) hx hb dX5_init_77 (by decide) ?_
            refine lv_goto (tgt := 83) hx hb dX5_init_78 (by decide) ?_
            exact h H locs hP hD hS ls (lv_sub hl [0] rfl)
        · have h := h.2 c_
          refine lv_bipush (v := 6) hx hb dX5_init_59 (by decide) ?_
          refine lv_goto (tgt := 66) hx hb dX5_init_61 (by decide) ?_
          refine va_newa (atype := .int) (a0 := (6, .inl (fun _ => 0))) (N' := 6) (ty := .int) hx hb (hts (.arrayClass .int) (List.mem_cons_of_mem _ (List.mem_append_left _ (List.mem_of_getElem? (i := 7) rfl)))) rfl hK hP hD hS hA (fun cA => by rw [vp_cell_i]; rfl) (by decide) (by decide) (by decide) (by decide +kernel) (by decide +kernel) dX5_init_66 (fun p_pa_letters cA H hK hP hD hS => ?_)
          have eK := zz_kI hK
          rw [eK] at hP hD
          have hK : va_K (dC, dI) vwCl (zT kI kZ) s := hK.sub [0, 1] rfl
          have hP : va_P (dC, dI) vwCl [(p_pa, .inr (5, [.int 0, .ref p_me, .ref (adK 0), .int y_5, .int y_6, .null, .int 0])), (p_pa_letters, .inl (kI, 6, .inl (fun _ => 0)))] H := hP
          have hD : va_D A [(p_pa, .inr (5, [.int 0, .ref p_me, .ref (adK 0), .int y_5, .int y_6, .null, .int 0])), (p_pa_letters, .inl (kI, 6, .inl (fun _ => 0)))] := hD
          refine va_putF (D := (dC, dI)) (ci := 5) (v := .ref p_pa_letters) (ty := (.array .int)) (C := RX5) (T := TX5) (N := 7) hx hb hts hi_X5 tyX5 tyX5_ok nmX5 hown hK hP hD hS 0 rfl rfl 5 (by decide) (hts (.fieldLink RX5 30 "ZInput$Packer" "letters" "[I") (List.mem_cons_of_mem _ (List.mem_append_left _ (List.mem_of_getElem? (i := 8) rfl)))) (fun _ h9 => h9) rfl hin rfl (by decide +kernel) rfl rfl (Nat.le_of_ble_eq_true rfl) dX5_init_68 (fun H locs hP hD hS => ?_)
          have hP : va_P (dC, dI) vwCl [(p_pa, .inr (5, [.int 0, .ref p_me, .ref (adK 0), .int y_5, .int y_6, .ref p_pa_letters, .int 0])), (p_pa_letters, .inl (kI, 6, .inl (fun _ => 0)))] H := hP
          have hD : va_D A [(p_pa, .inr (5, [.int 0, .ref p_me, .ref (adK 0), .int y_5, .int y_6, .ref p_pa_letters, .int 0])), (p_pa_letters, .inl (kI, 6, .inl (fun _ => 0)))] := hD
          refine lv_aload_n hx hb dX5_init_71 rfl (lv_at hl 0 rfl) ?_
          refine lv_iload_n hx hb dX5_init_72 rfl (lv_at hl 1 rfl) ?_
          refine lv_iconst (v := 3) hx hb dX5_init_73 (by decide) ?_
          have h := h (fun (y_8 : Int32) => ∀ (H : Heap) (locs : List Loc), va_P (dC, dI) vwCl [(p_pa, .inr (5, [.int 0, .ref p_me, .ref (adK 0), .int y_5, .int y_6, .ref p_pa_letters, .int 0])), (p_pa_letters, .inl (kI, 6, .inl (fun _ => 0)))] H → va_D A [(p_pa, .inr (5, [.int 0, .ref p_me, .ref (adK 0), .int y_5, .int y_6, .ref p_pa_letters, .int 0])), (p_pa_letters, .inl (kI, 6, .inl (fun _ => 0)))] → va_S A s.heap H locs → ∀ ls : Array Slot, lv_has ls 3 [(0, .ref p_pa)] → W p l e rmX5_init s m args below meth c H locs 1 6 Q (F0 m 83 ls [.int y_8, .ref p_pa])) (by
            clear h hP hD hS hl
            intro y_8 h H locs hP hD hS ls hl
            refine va_putF (D := (dC, dI)) (ci := 5) (v := .int y_8) (ty := .int) (C := RX5) (T := TX5) (N := 7) hx hb hts hi_X5 tyX5 tyX5_ok nmX5 hown hK hP hD hS 0 rfl rfl 0 (by decide) (hts (.fieldLink RX5 34 "ZInput$Packer" "octets" "I") (List.mem_cons_of_mem _ (List.mem_append_left _ (List.mem_of_getElem? (i := 9) rfl)))) (fun _ h9 => h9) rfl hin rfl (by decide +kernel) rfl rfl (Nat.le_of_ble_eq_true rfl) dX5_init_83 (fun H locs hP hD hS => ?_)
            have hP : va_P (dC, dI) vwCl [(p_pa, .inr (5, [.int y_8, .ref p_me, .ref (adK 0), .int y_5, .int y_6, .ref p_pa_letters, .int 0])), (p_pa_letters, .inl (kI, 6, .inl (fun _ => 0)))] H := hP
            have hD : va_D A [(p_pa, .inr (5, [.int y_8, .ref p_me, .ref (adK 0), .int y_5, .int y_6, .ref p_pa_letters, .int 0])), (p_pa_letters, .inl (kI, 6, .inl (fun _ => 0)))] := hD
            refine lv_aload_n hx hb dX5_init_86 rfl (lv_at hl 0 rfl) ?_
            refine lv_iconst (v := 0) hx hb dX5_init_87 (by decide) ?_
            refine va_put (D := (dC, dI)) (ci := 5) (v := .int 0) (ty := .int) (C := RX5) (T := TX5) (N := 7) hx hb hts hi_X5 tyX5 tyX5_ok nmX5 hown hK hP hD hS 0 rfl rfl 6 (by decide) (hts (.fieldLink RX5 37 "ZInput$Packer" "used" "I") (List.mem_cons_of_mem _ (List.mem_append_left _ (List.mem_of_getElem? (i := 10) rfl)))) (fun _ h9 => h9) rfl (by decide +kernel) rfl rfl (Nat.le_of_ble_eq_true rfl) dX5_init_88 (fun H locs hP hD hS => ?_)
            have hP : va_P (dC, dI) vwCl [(p_pa, .inr (5, [.int y_8, .ref p_me, .ref (adK 0), .int y_5, .int y_6, .ref p_pa_letters, .int 0])), (p_pa_letters, .inl (kI, 6, .inl (fun _ => 0)))] H := hP
            have hD : va_D A [(p_pa, .inr (5, [.int y_8, .ref p_me, .ref (adK 0), .int y_5, .int y_6, .ref p_pa_letters, .int 0])), (p_pa_letters, .inl (kI, 6, .inl (fun _ => 0)))] := hD
            refine W.widen (k := 1) (n := 9) (by decide +kernel) (by decide +kernel) ?_
            exact hR (p_pa_letters, y_8, 0, y_5, y_6, (fun _ => 0), 0, 6) H locs h hP hD hS _ ls dX5_init_91)
          refine lv_icmp_gt (tgt := 81) hx hb dX5_init_74 (by decide) (fun c_ => ?_) (fun c_ => ?_)
          · have h := h.1 c_
            refine lv_bipush (v := 6) hx hb dX5_init_81 (by decide) ?_
            exact h H locs hP hD hS ls (lv_sub hl [0] rfl)
          · have h := h.2 c_
            refine lv_iconst (v := 4) hx hb dX5_init_77 (by decide) ?_
            refine lv_goto (tgt := 83) hx hb dX5_init_78 (by decide) ?_
            exact h H locs hP hD hS ls (lv_sub hl [0] rfl))
      refine lv_icmp_gt (tgt := 49) hx hb dX5_init_42 (by decide) (fun c_ => ?_) (fun c_ => ?_)
      · have h := h.1 c_
        refine lv_iconst (v := 5) hx hb dX5_init_49 (by decide) ?_
        exact h H locs hP hD hS ls (lv_sub hl [0, 1] rfl)
      · have h := h.2 c_
        refine lv_iconst (v := 3) hx hb dX5_init_45 (by decide) ?_
        refine lv_goto (tgt := 50) hx hb dX5_init_46 (by decide) ?_
        exact h H locs hP hD hS ls (lv_sub hl [0, 1] rfl))
    refine lv_icmp_gt (tgt := 35) hx hb dX5_init_28 (by decide) (fun c_ => ?_) (fun c_ => ?_)
    · have h := h.1 c_
      refine lv_iconst (v := 4) hx hb dX5_init_35 (by decide) ?_
      exact h H locs hP hD hS ls (lv_sub hl [0, 2] rfl)
    · have h := h.2 c_
      refine lv_iconst (v := 2) hx hb dX5_init_31 (by decide) ?_
      refine lv_goto (tgt := 36) hx hb dX5_init_32 (by decide) ?_
      exact h H locs hP hD hS ls (lv_sub hl [0, 2] rfl)
def wp_X1_init (a2 : Int32) (K : Int32 → (Nat → Int32) → Int32 → Int32 → Int32 → Prop) : Prop :=
  K a2 (fun _ => 0) 0 0 0
abbrev rmX1_init : Room := { frames := 1, cells := 1, slots := 256, locals := 20 }
set_option maxHeartbeats 4000000 in
set_option maxRecDepth 100000 in
theorem c_X1_init (l : Launch) (dC : Nat → ClassId) (dI : Nat → Nat → Nat) (kI kZ : ClassId) (sz : Nat) (A0 : Nat → Prop) (adK adV : Nat → Nat) (hz : ∀ q, sz ≤ q → A0 q) (p_di : Nat) (p_me : Nat) (a2 : Int32) (K : Int32 → (Nat → Int32) → Int32 → Int32 → Int32 → Prop) (h : wp_X1_init a2 K) : Met l yX1_init wsX1_init rmX1_init (va_Pc [.ref p_di, .ref p_me, .int a2] (zPG (dC, dI) (zT kI kZ) sz A0 adK adV [(p_di, .inr (1, [.null, .int 0, .null, .int 0, .int 0, .int 0]))])) (va_Qv (fun (u : Nat × Int32 × (Nat → Int32) × Int32 × Int32 × Int32) => K u.2.1 u.2.2.1 u.2.2.2.1 u.2.2.2.2.1 u.2.2.2.2.2) (fun (u : Nat × Int32 × (Nat → Int32) × Int32 × Int32 × Int32) => zB (dC, dI) (zT kI kZ) (va_A [(p_di, .inr (1, [.null, .int 0, .null, .int 0, .int 0, .int 0]))] sz) [(p_di, .inr (1, [.ref p_me, .int u.2.1, .ref u.1, .int u.2.2.2.1, .int u.2.2.2.2.1, .int u.2.2.2.2.2])), (u.1, .inl (kZ, 256, .inl u.2.2.1))]) (va_A [(p_di, .inr (1, [.null, .int 0, .null, .int 0, .int 0, .int 0]))] sz)) 1 256 (va_A [(p_di, .inr (1, [.null, .int 0, .null, .int 0, .int 0, .int 0]))] sz) := by
  refine zz_ofvI (cc := cX1_init) (maxL := 3) (by decide) rfl (Nat.le_of_ble_eq_true rfl) hz ?_
  intro p e s m args below meth c A Q ls hx hb hml hown hts hK hA hG hAA hin hR hP hD hS hl
  have hown : s.vm.findClass RX1 = some m.cls := hown
  have hin : meth.name = "<init>" := hin
  have hl : lv_has ls 3 [(0, .ref p_di), (1, .ref p_me), (2, .int a2)] := hl
  have hi_X1 : ∀ w ∈ wsX10, w ∈ wsX1_init := fun _ h => (List.mem_cons_of_mem _ (List.mem_append_right _ h))
  unfold wp_X1_init at h
  obtain ⟨locs, eL⟩ : ∃ L : List Loc, L = [] := ⟨_, rfl⟩
  rw [← eL]
  have hS : va_S A s.heap s.heap locs := by rw [eL]; exact hS
  suffices hgo : ∀ H : Heap, va_P (dC, dI) vwCl [(p_di, .inr (1, [.null, .int 0, .null, .int 0, .int 0, .int 0]))] H → va_S A s.heap H locs → W p l e rmX1_init s m args below meth c H locs 0 0 Q (F0 m 0 ls []) from hgo _ hP hS
  clear hP hS eL
  intro H hP hS
  refine lv_aload_n hx hb dX1_init_0 rfl (lv_at hl 0 rfl) ?_
  refine W.objInit hx hb hown (hts (.methodLink RX1 3 objectInit) (List.mem_cons_of_mem _ (List.mem_append_left _ (List.mem_of_getElem? (i := 0) rfl)))) (hts (.instanceMethod objectInit) (List.mem_cons_of_mem _ (List.mem_append_left _ (List.mem_of_getElem? (i := 1) rfl)))) (hts (.code objectInit ⟨#[0xb1]⟩ 1 none) (List.mem_cons_of_mem _ (List.mem_append_left _ (List.mem_of_getElem? (i := 2) rfl)))) rfl (by rw [hml]; exact hl.1) rfl dX1_init_1 (Nat.le_of_ble_eq_true rfl) (Nat.le_of_ble_eq_true rfl) ?_
  refine W.eq (g2 := F0 m 4 ls []) rfl ?_
  refine lv_aload_n hx hb dX1_init_4 rfl (lv_at hl 0 rfl) ?_
  refine lv_sipush (v := 256) hx hb dX1_init_5 (by decide) ?_
  refine va_newa (atype := .boolean) (a0 := (256, .inl (fun _ => 0))) (N' := 256) (ty := .boolean) hx hb (hts (.arrayClass .boolean) (List.mem_cons_of_mem _ (List.mem_append_left _ (List.mem_of_getElem? (i := 3) rfl)))) rfl hK hP hD hS hA (fun cA => by rw [vp_cell_i]; rfl) (by decide) (by decide) (by decide) (by decide +kernel) (by decide +kernel) dX1_init_8 (fun p_di_separators cA H hK hP hD hS => ?_)
  have eK := zz_kZ hK
  rw [eK] at hP hD
  have hK : va_K (dC, dI) vwCl (zT kI kZ) s := hK.sub [0, 1] rfl
  have hP : va_P (dC, dI) vwCl [(p_di, .inr (1, [.null, .int 0, .null, .int 0, .int 0, .int 0])), (p_di_separators, .inl (kZ, 256, .inl (fun _ => 0)))] H := hP
  have hD : va_D A [(p_di, .inr (1, [.null, .int 0, .null, .int 0, .int 0, .int 0])), (p_di_separators, .inl (kZ, 256, .inl (fun _ => 0)))] := hD
  refine va_putF (D := (dC, dI)) (ci := 1) (v := .ref p_di_separators) (ty := (.array .boolean)) (C := RX1) (T := TX1) (N := 6) hx hb hts hi_X1 tyX1 tyX1_ok nmX1 hown hK hP hD hS 0 rfl rfl 2 (by decide) (hts (.fieldLink RX1 9 "ZInput$Dictionary" "separators" "[Z") (List.mem_cons_of_mem _ (List.mem_append_left _ (List.mem_of_getElem? (i := 4) rfl)))) (fun _ h9 => h9) rfl hin rfl (by decide +kernel) rfl rfl (Nat.le_of_ble_eq_true rfl) dX1_init_10 (fun H locs hP hD hS => ?_)
  have hP : va_P (dC, dI) vwCl [(p_di, .inr (1, [.null, .int 0, .ref p_di_separators, .int 0, .int 0, .int 0])), (p_di_separators, .inl (kZ, 256, .inl (fun _ => 0)))] H := hP
  have hD : va_D A [(p_di, .inr (1, [.null, .int 0, .ref p_di_separators, .int 0, .int 0, .int 0])), (p_di_separators, .inl (kZ, 256, .inl (fun _ => 0)))] := hD
  refine lv_aload_n hx hb dX1_init_13 rfl (lv_at hl 0 rfl) ?_
  refine lv_aload_n hx hb dX1_init_14 rfl (lv_at hl 1 rfl) ?_
  refine va_putF (D := (dC, dI)) (ci := 1) (v := .ref p_me) (ty := (.object "ZInput$Memory")) (C := RX1) (T := TX1) (N := 6) hx hb hts hi_X1 tyX1 tyX1_ok nmX1 hown hK hP hD hS 0 rfl rfl 0 (by decide) (hts (.fieldLink RX1 15 "ZInput$Dictionary" "memory" "LZInput$Memory;") (List.mem_cons_of_mem _ (List.mem_append_left _ (List.mem_of_getElem? (i := 5) rfl)))) (fun _ h9 => h9) rfl hin rfl (by decide +kernel) rfl rfl (Nat.le_of_ble_eq_true rfl) dX1_init_15 (fun H locs hP hD hS => ?_)
  have hP : va_P (dC, dI) vwCl [(p_di, .inr (1, [.ref p_me, .int 0, .ref p_di_separators, .int 0, .int 0, .int 0])), (p_di_separators, .inl (kZ, 256, .inl (fun _ => 0)))] H := hP
  have hD : va_D A [(p_di, .inr (1, [.ref p_me, .int 0, .ref p_di_separators, .int 0, .int 0, .int 0])), (p_di_separators, .inl (kZ, 256, .inl (fun _ => 0)))] := hD
  refine lv_aload_n hx hb dX1_init_18 rfl (lv_at hl 0 rfl) ?_
  refine lv_iload_n hx hb dX1_init_19 rfl (lv_at hl 2 rfl) ?_
  refine va_putF (D := (dC, dI)) (ci := 1) (v := .int a2) (ty := .int) (C := RX1) (T := TX1) (N := 6) hx hb hts hi_X1 tyX1 tyX1_ok nmX1 hown hK hP hD hS 0 rfl rfl 1 (by decide) (hts (.fieldLink RX1 19 "ZInput$Dictionary" "wordOctets" "I") (List.mem_cons_of_mem _ (List.mem_append_left _ (List.mem_of_getElem? (i := 6) rfl)))) (fun _ h9 => h9) rfl hin rfl (by decide +kernel) rfl rfl (Nat.le_of_ble_eq_true rfl) dX1_init_20 (fun H locs hP hD hS => ?_)
  have hP : va_P (dC, dI) vwCl [(p_di, .inr (1, [.ref p_me, .int a2, .ref p_di_separators, .int 0, .int 0, .int 0])), (p_di_separators, .inl (kZ, 256, .inl (fun _ => 0)))] H := hP
  have hD : va_D A [(p_di, .inr (1, [.ref p_me, .int a2, .ref p_di_separators, .int 0, .int 0, .int 0])), (p_di_separators, .inl (kZ, 256, .inl (fun _ => 0)))] := hD
  refine W.widen (k := 1) (n := 256) (by decide +kernel) (by decide +kernel) ?_
  exact hR (p_di_separators, a2, (fun _ => 0), 0, 0, 0) H locs h hP hD hS _ ls dX1_init_23
def wp_X6_init (a4 : Int32) (K : Int32 → (Nat → Int32) → (Nat → Int32) → (Nat → Int32) → Int32 → Int32 → Int32 → Prop) : Prop :=
  (a4 = 0 ∨ a4 = 1) ∧ (K a4 (fun _ => 0) (fun _ => 0) (fun _ => 0) 0 0 0)
abbrev rmX6_init : Room := { frames := 1, cells := 3, slots := 765, locals := 20 }
set_option maxHeartbeats 4000000 in
set_option maxRecDepth 100000 in
theorem c_X6_init (l : Launch) (dC : Nat → ClassId) (dI : Nat → Nat → Nat) (kI kZ : ClassId) (sz : Nat) (A0 : Nat → Prop) (adK adV : Nat → Nat) (hz : ∀ q, sz ≤ q → A0 q) (p_pr : Nat) (p_me : Nat) (p_pa : Nat) (p_di : Nat) (a4 : Int32) (K : Int32 → (Nat → Int32) → (Nat → Int32) → (Nat → Int32) → Int32 → Int32 → Int32 → Prop) (h : wp_X6_init a4 K) : Met l yX6_init wsX6_init rmX6_init (va_Pc [.ref p_pr, .ref p_me, .ref p_pa, .ref p_di, .int a4] (zPG (dC, dI) (zT kI kZ) sz A0 adK adV [(p_pr, .inr (6, [.null, .null, .null, .int 0, .null, .null, .null, .int 0, .int 0, .int 0]))])) (va_Qv (fun (u : Nat × Nat × Nat × Int32 × (Nat → Int32) × (Nat → Int32) × (Nat → Int32) × Int32 × Int32 × Int32) => K u.2.2.2.1 u.2.2.2.2.1 u.2.2.2.2.2.1 u.2.2.2.2.2.2.1 u.2.2.2.2.2.2.2.1 u.2.2.2.2.2.2.2.2.1 u.2.2.2.2.2.2.2.2.2) (fun (u : Nat × Nat × Nat × Int32 × (Nat → Int32) × (Nat → Int32) × (Nat → Int32) × Int32 × Int32 × Int32) => zB (dC, dI) (zT kI kZ) (va_A [(p_pr, .inr (6, [.null, .null, .null, .int 0, .null, .null, .null, .int 0, .int 0, .int 0]))] sz) [(p_pr, .inr (6, [.ref p_me, .ref p_pa, .ref p_di, .int u.2.2.2.1, .ref u.1, .ref u.2.1, .ref u.2.2.1, .int u.2.2.2.2.2.2.2.1, .int u.2.2.2.2.2.2.2.2.1, .int u.2.2.2.2.2.2.2.2.2])), (u.1, .inl (kI, 255, .inl u.2.2.2.2.1)), (u.2.1, .inl (kI, 255, .inl u.2.2.2.2.2.1)), (u.2.2.1, .inl (kI, 255, .inl u.2.2.2.2.2.2.1))]) (va_A [(p_pr, .inr (6, [.null, .null, .null, .int 0, .null, .null, .null, .int 0, .int 0, .int 0]))] sz)) 3 765 (va_A [(p_pr, .inr (6, [.null, .null, .null, .int 0, .null, .null, .null, .int 0, .int 0, .int 0]))] sz) := by
  refine zz_ofvI (cc := cX6_init) (maxL := 5) (by decide) rfl (Nat.le_of_ble_eq_true rfl) hz ?_
  intro p e s m args below meth c A Q ls hx hb hml hown hts hK hA hG hAA hin hR hP hD hS hl
  have hown : s.vm.findClass RX6 = some m.cls := hown
  have hin : meth.name = "<init>" := hin
  have hl : lv_has ls 5 [(0, .ref p_pr), (1, .ref p_me), (2, .ref p_pa), (3, .ref p_di), (4, .int a4)] := hl
  have hi_X6 : ∀ w ∈ wsX60, w ∈ wsX6_init := fun _ h => (List.mem_cons_of_mem _ (List.mem_append_right _ h))
  unfold wp_X6_init at h
  obtain ⟨locs, eL⟩ : ∃ L : List Loc, L = [] := ⟨_, rfl⟩
  rw [← eL]
  have hS : va_S A s.heap s.heap locs := by rw [eL]; exact hS
  suffices hgo : ∀ H : Heap, va_P (dC, dI) vwCl [(p_pr, .inr (6, [.null, .null, .null, .int 0, .null, .null, .null, .int 0, .int 0, .int 0]))] H → va_S A s.heap H locs → W p l e rmX6_init s m args below meth c H locs 0 0 Q (F0 m 0 ls []) from hgo _ hP hS
  clear hP hS eL
  intro H hP hS
  refine lv_aload_n hx hb dX6_init_0 rfl (lv_at hl 0 rfl) ?_
  refine W.objInit hx hb hown (hts (.methodLink RX6 3 objectInit) (List.mem_cons_of_mem _ (List.mem_append_left _ (List.mem_of_getElem? (i := 0) rfl)))) (hts (.instanceMethod objectInit) (List.mem_cons_of_mem _ (List.mem_append_left _ (List.mem_of_getElem? (i := 1) rfl)))) (hts (.code objectInit ⟨#[0xb1]⟩ 1 none) (List.mem_cons_of_mem _ (List.mem_append_left _ (List.mem_of_getElem? (i := 2) rfl)))) rfl (by rw [hml]; exact hl.1) rfl dX6_init_1 (Nat.le_of_ble_eq_true rfl) (Nat.le_of_ble_eq_true rfl) ?_
  refine W.eq (g2 := F0 m 4 ls []) rfl ?_
  refine lv_aload_n hx hb dX6_init_4 rfl (lv_at hl 0 rfl) ?_
  refine lv_sipush (v := 255) hx hb dX6_init_5 (by decide) ?_
  refine va_newa (atype := .int) (a0 := (255, .inl (fun _ => 0))) (N' := 255) (ty := .int) hx hb (hts (.arrayClass .int) (List.mem_cons_of_mem _ (List.mem_append_left _ (List.mem_of_getElem? (i := 3) rfl)))) rfl hK hP hD hS hA (fun cA => by rw [vp_cell_i]; rfl) (by decide) (by decide) (by decide) (by decide +kernel) (by decide +kernel) dX6_init_8 (fun p_pr_starts cA H hK hP hD hS => ?_)
  have eK := zz_kI hK
  rw [eK] at hP hD
  have hK : va_K (dC, dI) vwCl (zT kI kZ) s := hK.sub [0, 1] rfl
  have hP : va_P (dC, dI) vwCl [(p_pr, .inr (6, [.null, .null, .null, .int 0, .null, .null, .null, .int 0, .int 0, .int 0])), (p_pr_starts, .inl (kI, 255, .inl (fun _ => 0)))] H := hP
  have hD : va_D A [(p_pr, .inr (6, [.null, .null, .null, .int 0, .null, .null, .null, .int 0, .int 0, .int 0])), (p_pr_starts, .inl (kI, 255, .inl (fun _ => 0)))] := hD
  refine va_putF (D := (dC, dI)) (ci := 6) (v := .ref p_pr_starts) (ty := (.array .int)) (C := RX6) (T := TX6) (N := 10) hx hb hts hi_X6 tyX6 tyX6_ok nmX6 hown hK hP hD hS 0 rfl rfl 4 (by decide) (hts (.fieldLink RX6 11 "ZInput$Parser" "starts" "[I") (List.mem_cons_of_mem _ (List.mem_append_left _ (List.mem_of_getElem? (i := 4) rfl)))) (fun _ h9 => h9) rfl hin rfl (by decide +kernel) rfl rfl (Nat.le_of_ble_eq_true rfl) dX6_init_10 (fun H locs hP hD hS => ?_)
  have hP : va_P (dC, dI) vwCl [(p_pr, .inr (6, [.null, .null, .null, .int 0, .ref p_pr_starts, .null, .null, .int 0, .int 0, .int 0])), (p_pr_starts, .inl (kI, 255, .inl (fun _ => 0)))] H := hP
  have hD : va_D A [(p_pr, .inr (6, [.null, .null, .null, .int 0, .ref p_pr_starts, .null, .null, .int 0, .int 0, .int 0])), (p_pr_starts, .inl (kI, 255, .inl (fun _ => 0)))] := hD
  refine lv_aload_n hx hb dX6_init_13 rfl (lv_at hl 0 rfl) ?_
  refine lv_sipush (v := 255) hx hb dX6_init_14 (by decide) ?_
  refine va_newa (atype := .int) (a0 := (255, .inl (fun _ => 0))) (N' := 255) (ty := .int) hx hb (hts (.arrayClass .int) (List.mem_cons_of_mem _ (List.mem_append_left _ (List.mem_of_getElem? (i := 3) rfl)))) rfl hK hP hD hS hA (fun cA => by rw [vp_cell_i]; rfl) (by decide) (by decide) (by decide) (by decide +kernel) (by decide +kernel) dX6_init_17 (fun p_pr_lengths cA H hK hP hD hS => ?_)
  have eK := zz_kI hK
  rw [eK] at hP hD
  have hK : va_K (dC, dI) vwCl (zT kI kZ) s := hK.sub [0, 1] rfl
  have hP : va_P (dC, dI) vwCl [(p_pr, .inr (6, [.null, .null, .null, .int 0, .ref p_pr_starts, .null, .null, .int 0, .int 0, .int 0])), (p_pr_starts, .inl (kI, 255, .inl (fun _ => 0))), (p_pr_lengths, .inl (kI, 255, .inl (fun _ => 0)))] H := hP
  have hD : va_D A [(p_pr, .inr (6, [.null, .null, .null, .int 0, .ref p_pr_starts, .null, .null, .int 0, .int 0, .int 0])), (p_pr_starts, .inl (kI, 255, .inl (fun _ => 0))), (p_pr_lengths, .inl (kI, 255, .inl (fun _ => 0)))] := hD
  refine va_putF (D := (dC, dI)) (ci := 6) (v := .ref p_pr_lengths) (ty := (.array .int)) (C := RX6) (T := TX6) (N := 10) hx hb hts hi_X6 tyX6 tyX6_ok nmX6 hown hK hP hD hS 0 rfl rfl 5 (by decide) (hts (.fieldLink RX6 15 "ZInput$Parser" "lengths" "[I") (List.mem_cons_of_mem _ (List.mem_append_left _ (List.mem_of_getElem? (i := 5) rfl)))) (fun _ h9 => h9) rfl hin rfl (by decide +kernel) rfl rfl (Nat.le_of_ble_eq_true rfl) dX6_init_19 (fun H locs hP hD hS => ?_)
  have hP : va_P (dC, dI) vwCl [(p_pr, .inr (6, [.null, .null, .null, .int 0, .ref p_pr_starts, .ref p_pr_lengths, .null, .int 0, .int 0, .int 0])), (p_pr_starts, .inl (kI, 255, .inl (fun _ => 0))), (p_pr_lengths, .inl (kI, 255, .inl (fun _ => 0)))] H := hP
  have hD : va_D A [(p_pr, .inr (6, [.null, .null, .null, .int 0, .ref p_pr_starts, .ref p_pr_lengths, .null, .int 0, .int 0, .int 0])), (p_pr_starts, .inl (kI, 255, .inl (fun _ => 0))), (p_pr_lengths, .inl (kI, 255, .inl (fun _ => 0)))] := hD
  refine lv_aload_n hx hb dX6_init_22 rfl (lv_at hl 0 rfl) ?_
  refine lv_sipush (v := 255) hx hb dX6_init_23 (by decide) ?_
  refine va_newa (atype := .int) (a0 := (255, .inl (fun _ => 0))) (N' := 255) (ty := .int) hx hb (hts (.arrayClass .int) (List.mem_cons_of_mem _ (List.mem_append_left _ (List.mem_of_getElem? (i := 3) rfl)))) rfl hK hP hD hS hA (fun cA => by rw [vp_cell_i]; rfl) (by decide) (by decide) (by decide) (by decide +kernel) (by decide +kernel) dX6_init_26 (fun p_pr_entries cA H hK hP hD hS => ?_)
  have eK := zz_kI hK
  rw [eK] at hP hD
  have hK : va_K (dC, dI) vwCl (zT kI kZ) s := hK.sub [0, 1] rfl
  have hP : va_P (dC, dI) vwCl [(p_pr, .inr (6, [.null, .null, .null, .int 0, .ref p_pr_starts, .ref p_pr_lengths, .null, .int 0, .int 0, .int 0])), (p_pr_starts, .inl (kI, 255, .inl (fun _ => 0))), (p_pr_lengths, .inl (kI, 255, .inl (fun _ => 0))), (p_pr_entries, .inl (kI, 255, .inl (fun _ => 0)))] H := hP
  have hD : va_D A [(p_pr, .inr (6, [.null, .null, .null, .int 0, .ref p_pr_starts, .ref p_pr_lengths, .null, .int 0, .int 0, .int 0])), (p_pr_starts, .inl (kI, 255, .inl (fun _ => 0))), (p_pr_lengths, .inl (kI, 255, .inl (fun _ => 0))), (p_pr_entries, .inl (kI, 255, .inl (fun _ => 0)))] := hD
  refine va_putF (D := (dC, dI)) (ci := 6) (v := .ref p_pr_entries) (ty := (.array .int)) (C := RX6) (T := TX6) (N := 10) hx hb hts hi_X6 tyX6 tyX6_ok nmX6 hown hK hP hD hS 0 rfl rfl 6 (by decide) (hts (.fieldLink RX6 18 "ZInput$Parser" "entries" "[I") (List.mem_cons_of_mem _ (List.mem_append_left _ (List.mem_of_getElem? (i := 6) rfl)))) (fun _ h9 => h9) rfl hin rfl (by decide +kernel) rfl rfl (Nat.le_of_ble_eq_true rfl) dX6_init_28 (fun H locs hP hD hS => ?_)
  have hP : va_P (dC, dI) vwCl [(p_pr, .inr (6, [.null, .null, .null, .int 0, .ref p_pr_starts, .ref p_pr_lengths, .ref p_pr_entries, .int 0, .int 0, .int 0])), (p_pr_starts, .inl (kI, 255, .inl (fun _ => 0))), (p_pr_lengths, .inl (kI, 255, .inl (fun _ => 0))), (p_pr_entries, .inl (kI, 255, .inl (fun _ => 0)))] H := hP
  have hD : va_D A [(p_pr, .inr (6, [.null, .null, .null, .int 0, .ref p_pr_starts, .ref p_pr_lengths, .ref p_pr_entries, .int 0, .int 0, .int 0])), (p_pr_starts, .inl (kI, 255, .inl (fun _ => 0))), (p_pr_lengths, .inl (kI, 255, .inl (fun _ => 0))), (p_pr_entries, .inl (kI, 255, .inl (fun _ => 0)))] := hD
  refine lv_aload_n hx hb dX6_init_31 rfl (lv_at hl 0 rfl) ?_
  refine lv_aload_n hx hb dX6_init_32 rfl (lv_at hl 1 rfl) ?_
  refine va_putF (D := (dC, dI)) (ci := 6) (v := .ref p_me) (ty := (.object "ZInput$Memory")) (C := RX6) (T := TX6) (N := 10) hx hb hts hi_X6 tyX6 tyX6_ok nmX6 hown hK hP hD hS 0 rfl rfl 0 (by decide) (hts (.fieldLink RX6 21 "ZInput$Parser" "memory" "LZInput$Memory;") (List.mem_cons_of_mem _ (List.mem_append_left _ (List.mem_of_getElem? (i := 7) rfl)))) (fun _ h9 => h9) rfl hin rfl (by decide +kernel) rfl rfl (Nat.le_of_ble_eq_true rfl) dX6_init_33 (fun H locs hP hD hS => ?_)
  have hP : va_P (dC, dI) vwCl [(p_pr, .inr (6, [.ref p_me, .null, .null, .int 0, .ref p_pr_starts, .ref p_pr_lengths, .ref p_pr_entries, .int 0, .int 0, .int 0])), (p_pr_starts, .inl (kI, 255, .inl (fun _ => 0))), (p_pr_lengths, .inl (kI, 255, .inl (fun _ => 0))), (p_pr_entries, .inl (kI, 255, .inl (fun _ => 0)))] H := hP
  have hD : va_D A [(p_pr, .inr (6, [.ref p_me, .null, .null, .int 0, .ref p_pr_starts, .ref p_pr_lengths, .ref p_pr_entries, .int 0, .int 0, .int 0])), (p_pr_starts, .inl (kI, 255, .inl (fun _ => 0))), (p_pr_lengths, .inl (kI, 255, .inl (fun _ => 0))), (p_pr_entries, .inl (kI, 255, .inl (fun _ => 0)))] := hD
  refine lv_aload_n hx hb dX6_init_36 rfl (lv_at hl 0 rfl) ?_
  refine lv_aload_n hx hb dX6_init_37 rfl (lv_at hl 2 rfl) ?_
  refine va_putF (D := (dC, dI)) (ci := 6) (v := .ref p_pa) (ty := (.object "ZInput$Packer")) (C := RX6) (T := TX6) (N := 10) hx hb hts hi_X6 tyX6 tyX6_ok nmX6 hown hK hP hD hS 0 rfl rfl 1 (by decide) (hts (.fieldLink RX6 25 "ZInput$Parser" "packer" "LZInput$Packer;") (List.mem_cons_of_mem _ (List.mem_append_left _ (List.mem_of_getElem? (i := 8) rfl)))) (fun _ h9 => h9) rfl hin rfl (by decide +kernel) rfl rfl (Nat.le_of_ble_eq_true rfl) dX6_init_38 (fun H locs hP hD hS => ?_)
  have hP : va_P (dC, dI) vwCl [(p_pr, .inr (6, [.ref p_me, .ref p_pa, .null, .int 0, .ref p_pr_starts, .ref p_pr_lengths, .ref p_pr_entries, .int 0, .int 0, .int 0])), (p_pr_starts, .inl (kI, 255, .inl (fun _ => 0))), (p_pr_lengths, .inl (kI, 255, .inl (fun _ => 0))), (p_pr_entries, .inl (kI, 255, .inl (fun _ => 0)))] H := hP
  have hD : va_D A [(p_pr, .inr (6, [.ref p_me, .ref p_pa, .null, .int 0, .ref p_pr_starts, .ref p_pr_lengths, .ref p_pr_entries, .int 0, .int 0, .int 0])), (p_pr_starts, .inl (kI, 255, .inl (fun _ => 0))), (p_pr_lengths, .inl (kI, 255, .inl (fun _ => 0))), (p_pr_entries, .inl (kI, 255, .inl (fun _ => 0)))] := hD
  refine lv_aload_n hx hb dX6_init_41 rfl (lv_at hl 0 rfl) ?_
  refine lv_aload_n hx hb dX6_init_42 rfl (lv_at hl 3 rfl) ?_
  refine va_putF (D := (dC, dI)) (ci := 6) (v := .ref p_di) (ty := (.object "ZInput$Dictionary")) (C := RX6) (T := TX6) (N := 10) hx hb hts hi_X6 tyX6 tyX6_ok nmX6 hown hK hP hD hS 0 rfl rfl 2 (by decide) (hts (.fieldLink RX6 29 "ZInput$Parser" "dictionary" "LZInput$Dictionary;") (List.mem_cons_of_mem _ (List.mem_append_left _ (List.mem_of_getElem? (i := 9) rfl)))) (fun _ h9 => h9) rfl hin rfl (by decide +kernel) rfl rfl (Nat.le_of_ble_eq_true rfl) dX6_init_43 (fun H locs hP hD hS => ?_)
  have hP : va_P (dC, dI) vwCl [(p_pr, .inr (6, [.ref p_me, .ref p_pa, .ref p_di, .int 0, .ref p_pr_starts, .ref p_pr_lengths, .ref p_pr_entries, .int 0, .int 0, .int 0])), (p_pr_starts, .inl (kI, 255, .inl (fun _ => 0))), (p_pr_lengths, .inl (kI, 255, .inl (fun _ => 0))), (p_pr_entries, .inl (kI, 255, .inl (fun _ => 0)))] H := hP
  have hD : va_D A [(p_pr, .inr (6, [.ref p_me, .ref p_pa, .ref p_di, .int 0, .ref p_pr_starts, .ref p_pr_lengths, .ref p_pr_entries, .int 0, .int 0, .int 0])), (p_pr_starts, .inl (kI, 255, .inl (fun _ => 0))), (p_pr_lengths, .inl (kI, 255, .inl (fun _ => 0))), (p_pr_entries, .inl (kI, 255, .inl (fun _ => 0)))] := hD
  refine lv_aload_n hx hb dX6_init_46 rfl (lv_at hl 0 rfl) ?_
  refine lv_iload hx hb dX6_init_47 (lv_at hl 4 rfl) ?_
  have hi := h.1
  have h := h.2
  refine va_putF (D := (dC, dI)) (ci := 6) (v := .int a4) (ty := .boolean) (C := RX6) (T := TX6) (N := 10) hx hb hts hi_X6 tyX6 tyX6_ok nmX6 hown hK hP hD hS 0 rfl rfl 3 (by decide) (hts (.fieldLink RX6 33 "ZInput$Parser" "counts" "Z") (List.mem_cons_of_mem _ (List.mem_append_left _ (List.mem_of_getElem? (i := 10) rfl)))) (fun _ h9 => h9) rfl hin rfl (by decide +kernel) (zz_bool hi) (zz_fitb hi) (Nat.le_of_ble_eq_true rfl) dX6_init_49 (fun H locs hP hD hS => ?_)
  have hP : va_P (dC, dI) vwCl [(p_pr, .inr (6, [.ref p_me, .ref p_pa, .ref p_di, .int a4, .ref p_pr_starts, .ref p_pr_lengths, .ref p_pr_entries, .int 0, .int 0, .int 0])), (p_pr_starts, .inl (kI, 255, .inl (fun _ => 0))), (p_pr_lengths, .inl (kI, 255, .inl (fun _ => 0))), (p_pr_entries, .inl (kI, 255, .inl (fun _ => 0)))] H := hP
  have hD : va_D A [(p_pr, .inr (6, [.ref p_me, .ref p_pa, .ref p_di, .int a4, .ref p_pr_starts, .ref p_pr_lengths, .ref p_pr_entries, .int 0, .int 0, .int 0])), (p_pr_starts, .inl (kI, 255, .inl (fun _ => 0))), (p_pr_lengths, .inl (kI, 255, .inl (fun _ => 0))), (p_pr_entries, .inl (kI, 255, .inl (fun _ => 0)))] := hD
  refine W.widen (k := 3) (n := 765) (by decide +kernel) (by decide +kernel) ?_
  exact hR (p_pr_starts, p_pr_lengths, p_pr_entries, a4, (fun _ => 0), (fun _ => 0), (fun _ => 0), 0, 0, 0) H locs h hP hD hS _ ls dX6_init_52
def wp_X7_init  (K : Int32 → Int32 → Int32 → Int32 → Int32 → Int32 → (Nat → Int32) → Prop) : Prop :=
  K 0 0 0 0 0 (-1) (fun _ => 0)
abbrev rmX7_init : Room := { frames := 1, cells := 1, slots := 255, locals := 20 }
set_option maxHeartbeats 4000000 in
set_option maxRecDepth 100000 in
theorem c_X7_init (l : Launch) (dC : Nat → ClassId) (dI : Nat → Nat → Nat) (kI kZ : ClassId) (sz : Nat) (A0 : Nat → Prop) (adK adV : Nat → Nat) (hz : ∀ q, sz ≤ q → A0 q) (p_re : Nat) (K : Int32 → Int32 → Int32 → Int32 → Int32 → Int32 → (Nat → Int32) → Prop) (h : wp_X7_init  K) : Met l yX7_init wsX7_init rmX7_init (va_Pc [.ref p_re] (zPG (dC, dI) (zT kI kZ) sz A0 adK adV [(p_re, .inr (7, [.int 0, .int 0, .int 0, .int 0, .int 0, .int 0, .null]))])) (va_Qv (fun (u : Nat × Int32 × Int32 × Int32 × Int32 × Int32 × Int32 × (Nat → Int32)) => K u.2.1 u.2.2.1 u.2.2.2.1 u.2.2.2.2.1 u.2.2.2.2.2.1 u.2.2.2.2.2.2.1 u.2.2.2.2.2.2.2) (fun (u : Nat × Int32 × Int32 × Int32 × Int32 × Int32 × Int32 × (Nat → Int32)) => zB (dC, dI) (zT kI kZ) (va_A [(p_re, .inr (7, [.int 0, .int 0, .int 0, .int 0, .int 0, .int 0, .null]))] sz) [(p_re, .inr (7, [.int u.2.1, .int u.2.2.1, .int u.2.2.2.1, .int u.2.2.2.2.1, .int u.2.2.2.2.2.1, .int u.2.2.2.2.2.2.1, .ref u.1])), (u.1, .inl (kI, 255, .inl u.2.2.2.2.2.2.2))]) (va_A [(p_re, .inr (7, [.int 0, .int 0, .int 0, .int 0, .int 0, .int 0, .null]))] sz)) 1 255 (va_A [(p_re, .inr (7, [.int 0, .int 0, .int 0, .int 0, .int 0, .int 0, .null]))] sz) := by
  refine zz_ofvI (cc := cX7_init) (maxL := 1) (by decide) rfl (Nat.le_of_ble_eq_true rfl) hz ?_
  intro p e s m args below meth c A Q ls hx hb hml hown hts hK hA hG hAA hin hR hP hD hS hl
  have hown : s.vm.findClass RX7 = some m.cls := hown
  have hin : meth.name = "<init>" := hin
  have hl : lv_has ls 1 [(0, .ref p_re)] := hl
  have hi_X7 : ∀ w ∈ wsX70, w ∈ wsX7_init := fun _ h => (List.mem_cons_of_mem _ (List.mem_append_right _ h))
  unfold wp_X7_init at h
  obtain ⟨locs, eL⟩ : ∃ L : List Loc, L = [] := ⟨_, rfl⟩
  rw [← eL]
  have hS : va_S A s.heap s.heap locs := by rw [eL]; exact hS
  suffices hgo : ∀ H : Heap, va_P (dC, dI) vwCl [(p_re, .inr (7, [.int 0, .int 0, .int 0, .int 0, .int 0, .int 0, .null]))] H → va_S A s.heap H locs → W p l e rmX7_init s m args below meth c H locs 0 0 Q (F0 m 0 ls []) from hgo _ hP hS
  clear hP hS eL
  intro H hP hS
  refine lv_aload_n hx hb dX7_init_0 rfl (lv_at hl 0 rfl) ?_
  refine W.objInit hx hb hown (hts (.methodLink RX7 3 objectInit) (List.mem_cons_of_mem _ (List.mem_append_left _ (List.mem_of_getElem? (i := 0) rfl)))) (hts (.instanceMethod objectInit) (List.mem_cons_of_mem _ (List.mem_append_left _ (List.mem_of_getElem? (i := 1) rfl)))) (hts (.code objectInit ⟨#[0xb1]⟩ 1 none) (List.mem_cons_of_mem _ (List.mem_append_left _ (List.mem_of_getElem? (i := 2) rfl)))) rfl (by rw [hml]; exact hl.1) rfl dX7_init_1 (Nat.le_of_ble_eq_true rfl) (Nat.le_of_ble_eq_true rfl) ?_
  refine W.eq (g2 := F0 m 4 ls []) rfl ?_
  refine lv_aload_n hx hb dX7_init_4 rfl (lv_at hl 0 rfl) ?_
  refine lv_iconst (v := (-1)) hx hb dX7_init_5 (by decide) ?_
  refine va_put (D := (dC, dI)) (ci := 7) (v := .int (-1)) (ty := .int) (C := RX7) (T := TX7) (N := 7) hx hb hts hi_X7 tyX7 tyX7_ok nmX7 hown hK hP hD hS 0 rfl rfl 5 (by decide) (hts (.fieldLink RX7 11 "ZInput$Reading" "shown" "I") (List.mem_cons_of_mem _ (List.mem_append_left _ (List.mem_of_getElem? (i := 3) rfl)))) (fun _ h9 => h9) rfl (by decide +kernel) rfl rfl (Nat.le_of_ble_eq_true rfl) dX7_init_6 (fun H locs hP hD hS => ?_)
  have hP : va_P (dC, dI) vwCl [(p_re, .inr (7, [.int 0, .int 0, .int 0, .int 0, .int 0, .int (-1), .null]))] H := hP
  have hD : va_D A [(p_re, .inr (7, [.int 0, .int 0, .int 0, .int 0, .int 0, .int (-1), .null]))] := hD
  refine lv_aload_n hx hb dX7_init_9 rfl (lv_at hl 0 rfl) ?_
  refine lv_sipush (v := 255) hx hb dX7_init_10 (by decide) ?_
  refine va_newa (atype := .int) (a0 := (255, .inl (fun _ => 0))) (N' := 255) (ty := .int) hx hb (hts (.arrayClass .int) (List.mem_cons_of_mem _ (List.mem_append_left _ (List.mem_of_getElem? (i := 4) rfl)))) rfl hK hP hD hS hA (fun cA => by rw [vp_cell_i]; rfl) (by decide) (by decide) (by decide) (by decide +kernel) (by decide +kernel) dX7_init_13 (fun p_re_codes cA H hK hP hD hS => ?_)
  have eK := zz_kI hK
  rw [eK] at hP hD
  have hK : va_K (dC, dI) vwCl (zT kI kZ) s := hK.sub [0, 1] rfl
  have hP : va_P (dC, dI) vwCl [(p_re, .inr (7, [.int 0, .int 0, .int 0, .int 0, .int 0, .int (-1), .null])), (p_re_codes, .inl (kI, 255, .inl (fun _ => 0)))] H := hP
  have hD : va_D A [(p_re, .inr (7, [.int 0, .int 0, .int 0, .int 0, .int 0, .int (-1), .null])), (p_re_codes, .inl (kI, 255, .inl (fun _ => 0)))] := hD
  refine va_putF (D := (dC, dI)) (ci := 7) (v := .ref p_re_codes) (ty := (.array .int)) (C := RX7) (T := TX7) (N := 7) hx hb hts hi_X7 tyX7 tyX7_ok nmX7 hown hK hP hD hS 0 rfl rfl 6 (by decide) (hts (.fieldLink RX7 15 "ZInput$Reading" "codes" "[I") (List.mem_cons_of_mem _ (List.mem_append_left _ (List.mem_of_getElem? (i := 5) rfl)))) (fun _ h9 => h9) rfl hin rfl (by decide +kernel) rfl rfl (Nat.le_of_ble_eq_true rfl) dX7_init_15 (fun H locs hP hD hS => ?_)
  have hP : va_P (dC, dI) vwCl [(p_re, .inr (7, [.int 0, .int 0, .int 0, .int 0, .int 0, .int (-1), .ref p_re_codes])), (p_re_codes, .inl (kI, 255, .inl (fun _ => 0)))] H := hP
  have hD : va_D A [(p_re, .inr (7, [.int 0, .int 0, .int 0, .int 0, .int 0, .int (-1), .ref p_re_codes])), (p_re_codes, .inl (kI, 255, .inl (fun _ => 0)))] := hD
  refine W.widen (k := 1) (n := 255) (by decide +kernel) (by decide +kernel) ?_
  exact hR (p_re_codes, 0, 0, 0, 0, 0, (-1), (fun _ => 0)) H locs h hP hD hS _ ls dX7_init_18
def wp_X0_init  (K : Int32 → Int32 → Int32 → Int32 → Int32 → Int32 → Prop) : Prop :=
  K 0 0 0 0 0 0
abbrev rmX0_init : Room := { frames := 1, cells := 0, slots := 0, locals := 20 }
set_option maxHeartbeats 4000000 in
set_option maxRecDepth 100000 in
theorem c_X0_init (l : Launch) (dC : Nat → ClassId) (dI : Nat → Nat → Nat) (kI kZ : ClassId) (sz : Nat) (A0 : Nat → Prop) (adK adV : Nat → Nat) (hz : ∀ q, sz ≤ q → A0 q) (p_cl : Nat) (K : Int32 → Int32 → Int32 → Int32 → Int32 → Int32 → Prop) (h : wp_X0_init  K) : Met l yX0_init wsX0_init rmX0_init (va_Pc [.ref p_cl] (zPG (dC, dI) (zT kI kZ) sz A0 adK adV [(p_cl, .inr (0, [.int 0, .int 0, .int 0, .int 0, .int 0, .int 0]))])) (va_Qv (fun (u : Int32 × Int32 × Int32 × Int32 × Int32 × Int32) => K u.1 u.2.1 u.2.2.1 u.2.2.2.1 u.2.2.2.2.1 u.2.2.2.2.2) (fun (u : Int32 × Int32 × Int32 × Int32 × Int32 × Int32) => zB (dC, dI) (zT kI kZ) (va_A [(p_cl, .inr (0, [.int 0, .int 0, .int 0, .int 0, .int 0, .int 0]))] sz) [(p_cl, .inr (0, [.int u.1, .int u.2.1, .int u.2.2.1, .int u.2.2.2.1, .int u.2.2.2.2.1, .int u.2.2.2.2.2]))]) (va_A [(p_cl, .inr (0, [.int 0, .int 0, .int 0, .int 0, .int 0, .int 0]))] sz)) 0 0 (va_A [(p_cl, .inr (0, [.int 0, .int 0, .int 0, .int 0, .int 0, .int 0]))] sz) := by
  refine zz_ofvI (cc := cX0_init) (maxL := 1) (by decide) rfl (Nat.le_of_ble_eq_true rfl) hz ?_
  intro p e s m args below meth c A Q ls hx hb hml hown hts hK hA hG hAA hin hR hP hD hS hl
  have hown : s.vm.findClass RX0 = some m.cls := hown
  have hin : meth.name = "<init>" := hin
  have hl : lv_has ls 1 [(0, .ref p_cl)] := hl
  unfold wp_X0_init at h
  obtain ⟨locs, eL⟩ : ∃ L : List Loc, L = [] := ⟨_, rfl⟩
  rw [← eL]
  have hS : va_S A s.heap s.heap locs := by rw [eL]; exact hS
  suffices hgo : ∀ H : Heap, va_P (dC, dI) vwCl [(p_cl, .inr (0, [.int 0, .int 0, .int 0, .int 0, .int 0, .int 0]))] H → va_S A s.heap H locs → W p l e rmX0_init s m args below meth c H locs 0 0 Q (F0 m 0 ls []) from hgo _ hP hS
  clear hP hS eL
  intro H hP hS
  refine lv_aload_n hx hb dX0_init_0 rfl (lv_at hl 0 rfl) ?_
  refine W.objInit hx hb hown (hts (.methodLink RX0 1 objectInit) (List.mem_cons_of_mem _ (List.mem_of_getElem? (i := 0) rfl))) (hts (.instanceMethod objectInit) (List.mem_cons_of_mem _ (List.mem_of_getElem? (i := 1) rfl))) (hts (.code objectInit ⟨#[0xb1]⟩ 1 none) (List.mem_cons_of_mem _ (List.mem_of_getElem? (i := 2) rfl))) rfl (by rw [hml]; exact hl.1) rfl dX0_init_1 (Nat.le_of_ble_eq_true rfl) (Nat.le_of_ble_eq_true rfl) ?_
  refine W.eq (g2 := F0 m 4 ls []) rfl ?_
  refine W.widen (k := 0) (n := 0) (by decide +kernel) (by decide +kernel) ?_
  exact hR (0, 0, 0, 0, 0, 0) H locs h hP hD hS _ ls dX0_init_4
def wp_X3_init  (K : Int32 → Int32 → (Nat → Int32) → (Nat → Int32) → Prop) : Prop :=
  K 0 0 (fun _ => 0) (fun _ => 0)
abbrev rmX3_init : Room := { frames := 1, cells := 2, slots := 2048, locals := 20 }
set_option maxHeartbeats 4000000 in
set_option maxRecDepth 100000 in
theorem c_X3_init (l : Launch) (dC : Nat → ClassId) (dI : Nat → Nat → Nat) (kI kZ : ClassId) (sz : Nat) (A0 : Nat → Prop) (adK adV : Nat → Nat) (hz : ∀ q, sz ≤ q → A0 q) (p_li : Nat) (K : Int32 → Int32 → (Nat → Int32) → (Nat → Int32) → Prop) (h : wp_X3_init  K) : Met l yX3_init wsX3_init rmX3_init (va_Pc [.ref p_li] (zPG (dC, dI) (zT kI kZ) sz A0 adK adV [(p_li, .inr (3, [.int 0, .int 0, .null, .null]))])) (va_Qv (fun (u : Nat × Nat × Int32 × Int32 × (Nat → Int32) × (Nat → Int32)) => K u.2.2.1 u.2.2.2.1 u.2.2.2.2.1 u.2.2.2.2.2) (fun (u : Nat × Nat × Int32 × Int32 × (Nat → Int32) × (Nat → Int32)) => zB (dC, dI) (zT kI kZ) (va_A [(p_li, .inr (3, [.int 0, .int 0, .null, .null]))] sz) [(p_li, .inr (3, [.int u.2.2.1, .int u.2.2.2.1, .ref u.1, .ref u.2.1])), (u.1, .inl (kI, 8, .inl u.2.2.2.2.1)), (u.2.1, .inl (kI, 2040, .inl u.2.2.2.2.2))]) (va_A [(p_li, .inr (3, [.int 0, .int 0, .null, .null]))] sz)) 2 2048 (va_A [(p_li, .inr (3, [.int 0, .int 0, .null, .null]))] sz) := by
  refine zz_ofvI (cc := cX3_init) (maxL := 1) (by decide) rfl (Nat.le_of_ble_eq_true rfl) hz ?_
  intro p e s m args below meth c A Q ls hx hb hml hown hts hK hA hG hAA hin hR hP hD hS hl
  have hown : s.vm.findClass RX3 = some m.cls := hown
  have hin : meth.name = "<init>" := hin
  have hl : lv_has ls 1 [(0, .ref p_li)] := hl
  have hi_X3 : ∀ w ∈ wsX30, w ∈ wsX3_init := fun _ h => (List.mem_cons_of_mem _ (List.mem_append_right _ h))
  unfold wp_X3_init at h
  obtain ⟨locs, eL⟩ : ∃ L : List Loc, L = [] := ⟨_, rfl⟩
  rw [← eL]
  have hS : va_S A s.heap s.heap locs := by rw [eL]; exact hS
  suffices hgo : ∀ H : Heap, va_P (dC, dI) vwCl [(p_li, .inr (3, [.int 0, .int 0, .null, .null]))] H → va_S A s.heap H locs → W p l e rmX3_init s m args below meth c H locs 0 0 Q (F0 m 0 ls []) from hgo _ hP hS
  clear hP hS eL
  intro H hP hS
  refine lv_aload_n hx hb dX3_init_0 rfl (lv_at hl 0 rfl) ?_
  refine W.objInit hx hb hown (hts (.methodLink RX3 3 objectInit) (List.mem_cons_of_mem _ (List.mem_append_left _ (List.mem_of_getElem? (i := 0) rfl)))) (hts (.instanceMethod objectInit) (List.mem_cons_of_mem _ (List.mem_append_left _ (List.mem_of_getElem? (i := 1) rfl)))) (hts (.code objectInit ⟨#[0xb1]⟩ 1 none) (List.mem_cons_of_mem _ (List.mem_append_left _ (List.mem_of_getElem? (i := 2) rfl)))) rfl (by rw [hml]; exact hl.1) rfl dX3_init_1 (Nat.le_of_ble_eq_true rfl) (Nat.le_of_ble_eq_true rfl) ?_
  refine W.eq (g2 := F0 m 4 ls []) rfl ?_
  refine lv_aload_n hx hb dX3_init_4 rfl (lv_at hl 0 rfl) ?_
  refine lv_bipush (v := 8) hx hb dX3_init_5 (by decide) ?_
  refine va_newa (atype := .int) (a0 := (8, .inl (fun _ => 0))) (N' := 8) (ty := .int) hx hb (hts (.arrayClass .int) (List.mem_cons_of_mem _ (List.mem_append_left _ (List.mem_of_getElem? (i := 3) rfl)))) rfl hK hP hD hS hA (fun cA => by rw [vp_cell_i]; rfl) (by decide) (by decide) (by decide) (by decide +kernel) (by decide +kernel) dX3_init_7 (fun p_li_lengths cA H hK hP hD hS => ?_)
  have eK := zz_kI hK
  rw [eK] at hP hD
  have hK : va_K (dC, dI) vwCl (zT kI kZ) s := hK.sub [0, 1] rfl
  have hP : va_P (dC, dI) vwCl [(p_li, .inr (3, [.int 0, .int 0, .null, .null])), (p_li_lengths, .inl (kI, 8, .inl (fun _ => 0)))] H := hP
  have hD : va_D A [(p_li, .inr (3, [.int 0, .int 0, .null, .null])), (p_li_lengths, .inl (kI, 8, .inl (fun _ => 0)))] := hD
  refine va_putF (D := (dC, dI)) (ci := 3) (v := .ref p_li_lengths) (ty := (.array .int)) (C := RX3) (T := TX3) (N := 4) hx hb hts hi_X3 tyX3 tyX3_ok nmX3 hown hK hP hD hS 0 rfl rfl 2 (by decide) (hts (.fieldLink RX3 11 "ZInput$Lines" "lengths" "[I") (List.mem_cons_of_mem _ (List.mem_append_left _ (List.mem_of_getElem? (i := 4) rfl)))) (fun _ h9 => h9) rfl hin rfl (by decide +kernel) rfl rfl (Nat.le_of_ble_eq_true rfl) dX3_init_9 (fun H locs hP hD hS => ?_)
  have hP : va_P (dC, dI) vwCl [(p_li, .inr (3, [.int 0, .int 0, .ref p_li_lengths, .null])), (p_li_lengths, .inl (kI, 8, .inl (fun _ => 0)))] H := hP
  have hD : va_D A [(p_li, .inr (3, [.int 0, .int 0, .ref p_li_lengths, .null])), (p_li_lengths, .inl (kI, 8, .inl (fun _ => 0)))] := hD
  refine lv_aload_n hx hb dX3_init_12 rfl (lv_at hl 0 rfl) ?_
  refine lv_sipush (v := 2040) hx hb dX3_init_13 (by decide) ?_
  refine va_newa (atype := .int) (a0 := (2040, .inl (fun _ => 0))) (N' := 2040) (ty := .int) hx hb (hts (.arrayClass .int) (List.mem_cons_of_mem _ (List.mem_append_left _ (List.mem_of_getElem? (i := 3) rfl)))) rfl hK hP hD hS hA (fun cA => by rw [vp_cell_i]; rfl) (by decide) (by decide) (by decide) (by decide +kernel) (by decide +kernel) dX3_init_16 (fun p_li_codes cA H hK hP hD hS => ?_)
  have eK := zz_kI hK
  rw [eK] at hP hD
  have hK : va_K (dC, dI) vwCl (zT kI kZ) s := hK.sub [0, 1] rfl
  have hP : va_P (dC, dI) vwCl [(p_li, .inr (3, [.int 0, .int 0, .ref p_li_lengths, .null])), (p_li_lengths, .inl (kI, 8, .inl (fun _ => 0))), (p_li_codes, .inl (kI, 2040, .inl (fun _ => 0)))] H := hP
  have hD : va_D A [(p_li, .inr (3, [.int 0, .int 0, .ref p_li_lengths, .null])), (p_li_lengths, .inl (kI, 8, .inl (fun _ => 0))), (p_li_codes, .inl (kI, 2040, .inl (fun _ => 0)))] := hD
  refine va_putF (D := (dC, dI)) (ci := 3) (v := .ref p_li_codes) (ty := (.array .int)) (C := RX3) (T := TX3) (N := 4) hx hb hts hi_X3 tyX3 tyX3_ok nmX3 hown hK hP hD hS 0 rfl rfl 3 (by decide) (hts (.fieldLink RX3 15 "ZInput$Lines" "codes" "[I") (List.mem_cons_of_mem _ (List.mem_append_left _ (List.mem_of_getElem? (i := 5) rfl)))) (fun _ h9 => h9) rfl hin rfl (by decide +kernel) rfl rfl (Nat.le_of_ble_eq_true rfl) dX3_init_18 (fun H locs hP hD hS => ?_)
  have hP : va_P (dC, dI) vwCl [(p_li, .inr (3, [.int 0, .int 0, .ref p_li_lengths, .ref p_li_codes])), (p_li_lengths, .inl (kI, 8, .inl (fun _ => 0))), (p_li_codes, .inl (kI, 2040, .inl (fun _ => 0)))] H := hP
  have hD : va_D A [(p_li, .inr (3, [.int 0, .int 0, .ref p_li_lengths, .ref p_li_codes])), (p_li_lengths, .inl (kI, 8, .inl (fun _ => 0))), (p_li_codes, .inl (kI, 2040, .inl (fun _ => 0)))] := hD
  refine W.widen (k := 2) (n := 2048) (by decide +kernel) (by decide +kernel) ?_
  exact hR (p_li_lengths, p_li_codes, 0, 0, (fun _ => 0), (fun _ => 0)) H locs h hP hD hS _ ls dX3_init_21
def wp_X2_init  (K : Int32 → (Nat → Int32) → Prop) : Prop :=
  K 0 (fun _ => 0)
abbrev rmX2_init : Room := { frames := 1, cells := 1, slots := 2000, locals := 20 }
set_option maxHeartbeats 4000000 in
set_option maxRecDepth 100000 in
theorem c_X2_init (l : Launch) (dC : Nat → ClassId) (dI : Nat → Nat → Nat) (kI kZ : ClassId) (sz : Nat) (A0 : Nat → Prop) (adK adV : Nat → Nat) (hz : ∀ q, sz ≤ q → A0 q) (p_ec : Nat) (K : Int32 → (Nat → Int32) → Prop) (h : wp_X2_init  K) : Met l yX2_init wsX2_init rmX2_init (va_Pc [.ref p_ec] (zPG (dC, dI) (zT kI kZ) sz A0 adK adV [(p_ec, .inr (2, [.int 0, .null]))])) (va_Qv (fun (u : Nat × Int32 × (Nat → Int32)) => K u.2.1 u.2.2) (fun (u : Nat × Int32 × (Nat → Int32)) => zB (dC, dI) (zT kI kZ) (va_A [(p_ec, .inr (2, [.int 0, .null]))] sz) [(p_ec, .inr (2, [.int u.2.1, .ref u.1])), (u.1, .inl (kI, 2000, .inl u.2.2))]) (va_A [(p_ec, .inr (2, [.int 0, .null]))] sz)) 1 2000 (va_A [(p_ec, .inr (2, [.int 0, .null]))] sz) := by
  refine zz_ofvI (cc := cX2_init) (maxL := 1) (by decide) rfl (Nat.le_of_ble_eq_true rfl) hz ?_
  intro p e s m args below meth c A Q ls hx hb hml hown hts hK hA hG hAA hin hR hP hD hS hl
  have hown : s.vm.findClass RX2 = some m.cls := hown
  have hin : meth.name = "<init>" := hin
  have hl : lv_has ls 1 [(0, .ref p_ec)] := hl
  have hi_X2 : ∀ w ∈ wsX20, w ∈ wsX2_init := fun _ h => (List.mem_cons_of_mem _ (List.mem_append_right _ h))
  unfold wp_X2_init at h
  obtain ⟨locs, eL⟩ : ∃ L : List Loc, L = [] := ⟨_, rfl⟩
  rw [← eL]
  have hS : va_S A s.heap s.heap locs := by rw [eL]; exact hS
  suffices hgo : ∀ H : Heap, va_P (dC, dI) vwCl [(p_ec, .inr (2, [.int 0, .null]))] H → va_S A s.heap H locs → W p l e rmX2_init s m args below meth c H locs 0 0 Q (F0 m 0 ls []) from hgo _ hP hS
  clear hP hS eL
  intro H hP hS
  refine lv_aload_n hx hb dX2_init_0 rfl (lv_at hl 0 rfl) ?_
  refine W.objInit hx hb hown (hts (.methodLink RX2 1 objectInit) (List.mem_cons_of_mem _ (List.mem_append_left _ (List.mem_of_getElem? (i := 0) rfl)))) (hts (.instanceMethod objectInit) (List.mem_cons_of_mem _ (List.mem_append_left _ (List.mem_of_getElem? (i := 1) rfl)))) (hts (.code objectInit ⟨#[0xb1]⟩ 1 none) (List.mem_cons_of_mem _ (List.mem_append_left _ (List.mem_of_getElem? (i := 2) rfl)))) rfl (by rw [hml]; exact hl.1) rfl dX2_init_1 (Nat.le_of_ble_eq_true rfl) (Nat.le_of_ble_eq_true rfl) ?_
  refine W.eq (g2 := F0 m 4 ls []) rfl ?_
  refine lv_aload_n hx hb dX2_init_4 rfl (lv_at hl 0 rfl) ?_
  refine lv_sipush (v := 2000) hx hb dX2_init_5 (by decide) ?_
  refine va_newa (atype := .int) (a0 := (2000, .inl (fun _ => 0))) (N' := 2000) (ty := .int) hx hb (hts (.arrayClass .int) (List.mem_cons_of_mem _ (List.mem_append_left _ (List.mem_of_getElem? (i := 3) rfl)))) rfl hK hP hD hS hA (fun cA => by rw [vp_cell_i]; rfl) (by decide) (by decide) (by decide) (by decide +kernel) (by decide +kernel) dX2_init_8 (fun p_ec_codes cA H hK hP hD hS => ?_)
  have eK := zz_kI hK
  rw [eK] at hP hD
  have hK : va_K (dC, dI) vwCl (zT kI kZ) s := hK.sub [0, 1] rfl
  have hP : va_P (dC, dI) vwCl [(p_ec, .inr (2, [.int 0, .null])), (p_ec_codes, .inl (kI, 2000, .inl (fun _ => 0)))] H := hP
  have hD : va_D A [(p_ec, .inr (2, [.int 0, .null])), (p_ec_codes, .inl (kI, 2000, .inl (fun _ => 0)))] := hD
  refine va_putF (D := (dC, dI)) (ci := 2) (v := .ref p_ec_codes) (ty := (.array .int)) (C := RX2) (T := TX2) (N := 2) hx hb hts hi_X2 tyX2 tyX2_ok nmX2 hown hK hP hD hS 0 rfl rfl 1 (by decide) (hts (.fieldLink RX2 9 "ZInput$Echo" "codes" "[I") (List.mem_cons_of_mem _ (List.mem_append_left _ (List.mem_of_getElem? (i := 4) rfl)))) (fun _ h9 => h9) rfl hin rfl (by decide +kernel) rfl rfl (Nat.le_of_ble_eq_true rfl) dX2_init_10 (fun H locs hP hD hS => ?_)
  have hP : va_P (dC, dI) vwCl [(p_ec, .inr (2, [.int 0, .ref p_ec_codes])), (p_ec_codes, .inl (kI, 2000, .inl (fun _ => 0)))] H := hP
  have hD : va_D A [(p_ec, .inr (2, [.int 0, .ref p_ec_codes])), (p_ec_codes, .inl (kI, 2000, .inl (fun _ => 0)))] := hD
  refine W.widen (k := 1) (n := 2000) (by decide +kernel) (by decide +kernel) ?_
  exact hR (p_ec_codes, 0, (fun _ => 0)) H locs h hP hD hS _ ls dX2_init_13
def wp_X8_init  (K : Int32 → Int32 → (Nat → Int32) → Prop) : Prop :=
  K 0 0 (fun _ => 0)
abbrev rmX8_init : Room := { frames := 1, cells := 1, slots := 300, locals := 20 }
set_option maxHeartbeats 4000000 in
set_option maxRecDepth 100000 in
theorem c_X8_init (l : Launch) (dC : Nat → ClassId) (dI : Nat → Nat → Nat) (kI kZ : ClassId) (sz : Nat) (A0 : Nat → Prop) (adK adV : Nat → Nat) (hz : ∀ q, sz ≤ q → A0 q) (p_sc : Nat) (K : Int32 → Int32 → (Nat → Int32) → Prop) (h : wp_X8_init  K) : Met l yX8_init wsX8_init rmX8_init (va_Pc [.ref p_sc] (zPG (dC, dI) (zT kI kZ) sz A0 adK adV [(p_sc, .inr (8, [.int 0, .int 0, .null]))])) (va_Qv (fun (u : Nat × Int32 × Int32 × (Nat → Int32)) => K u.2.1 u.2.2.1 u.2.2.2) (fun (u : Nat × Int32 × Int32 × (Nat → Int32)) => zB (dC, dI) (zT kI kZ) (va_A [(p_sc, .inr (8, [.int 0, .int 0, .null]))] sz) [(p_sc, .inr (8, [.int u.2.1, .int u.2.2.1, .ref u.1])), (u.1, .inl (kI, 300, .inl u.2.2.2))]) (va_A [(p_sc, .inr (8, [.int 0, .int 0, .null]))] sz)) 1 300 (va_A [(p_sc, .inr (8, [.int 0, .int 0, .null]))] sz) := by
  refine zz_ofvI (cc := cX8_init) (maxL := 1) (by decide) rfl (Nat.le_of_ble_eq_true rfl) hz ?_
  intro p e s m args below meth c A Q ls hx hb hml hown hts hK hA hG hAA hin hR hP hD hS hl
  have hown : s.vm.findClass RX8 = some m.cls := hown
  have hin : meth.name = "<init>" := hin
  have hl : lv_has ls 1 [(0, .ref p_sc)] := hl
  have hi_X8 : ∀ w ∈ wsX80, w ∈ wsX8_init := fun _ h => (List.mem_cons_of_mem _ (List.mem_append_right _ h))
  unfold wp_X8_init at h
  obtain ⟨locs, eL⟩ : ∃ L : List Loc, L = [] := ⟨_, rfl⟩
  rw [← eL]
  have hS : va_S A s.heap s.heap locs := by rw [eL]; exact hS
  suffices hgo : ∀ H : Heap, va_P (dC, dI) vwCl [(p_sc, .inr (8, [.int 0, .int 0, .null]))] H → va_S A s.heap H locs → W p l e rmX8_init s m args below meth c H locs 0 0 Q (F0 m 0 ls []) from hgo _ hP hS
  clear hP hS eL
  intro H hP hS
  refine lv_aload_n hx hb dX8_init_0 rfl (lv_at hl 0 rfl) ?_
  refine W.objInit hx hb hown (hts (.methodLink RX8 1 objectInit) (List.mem_cons_of_mem _ (List.mem_append_left _ (List.mem_of_getElem? (i := 0) rfl)))) (hts (.instanceMethod objectInit) (List.mem_cons_of_mem _ (List.mem_append_left _ (List.mem_of_getElem? (i := 1) rfl)))) (hts (.code objectInit ⟨#[0xb1]⟩ 1 none) (List.mem_cons_of_mem _ (List.mem_append_left _ (List.mem_of_getElem? (i := 2) rfl)))) rfl (by rw [hml]; exact hl.1) rfl dX8_init_1 (Nat.le_of_ble_eq_true rfl) (Nat.le_of_ble_eq_true rfl) ?_
  refine W.eq (g2 := F0 m 4 ls []) rfl ?_
  refine lv_aload_n hx hb dX8_init_4 rfl (lv_at hl 0 rfl) ?_
  refine lv_sipush (v := 300) hx hb dX8_init_5 (by decide) ?_
  refine va_newa (atype := .int) (a0 := (300, .inl (fun _ => 0))) (N' := 300) (ty := .int) hx hb (hts (.arrayClass .int) (List.mem_cons_of_mem _ (List.mem_append_left _ (List.mem_of_getElem? (i := 3) rfl)))) rfl hK hP hD hS hA (fun cA => by rw [vp_cell_i]; rfl) (by decide) (by decide) (by decide) (by decide +kernel) (by decide +kernel) dX8_init_8 (fun p_sc_codes cA H hK hP hD hS => ?_)
  have eK := zz_kI hK
  rw [eK] at hP hD
  have hK : va_K (dC, dI) vwCl (zT kI kZ) s := hK.sub [0, 1] rfl
  have hP : va_P (dC, dI) vwCl [(p_sc, .inr (8, [.int 0, .int 0, .null])), (p_sc_codes, .inl (kI, 300, .inl (fun _ => 0)))] H := hP
  have hD : va_D A [(p_sc, .inr (8, [.int 0, .int 0, .null])), (p_sc_codes, .inl (kI, 300, .inl (fun _ => 0)))] := hD
  refine va_putF (D := (dC, dI)) (ci := 8) (v := .ref p_sc_codes) (ty := (.array .int)) (C := RX8) (T := TX8) (N := 3) hx hb hts hi_X8 tyX8 tyX8_ok nmX8 hown hK hP hD hS 0 rfl rfl 2 (by decide) (hts (.fieldLink RX8 9 "ZInput$Script" "codes" "[I") (List.mem_cons_of_mem _ (List.mem_append_left _ (List.mem_of_getElem? (i := 4) rfl)))) (fun _ h9 => h9) rfl hin rfl (by decide +kernel) rfl rfl (Nat.le_of_ble_eq_true rfl) dX8_init_10 (fun H locs hP hD hS => ?_)
  have hP : va_P (dC, dI) vwCl [(p_sc, .inr (8, [.int 0, .int 0, .ref p_sc_codes])), (p_sc_codes, .inl (kI, 300, .inl (fun _ => 0)))] H := hP
  have hD : va_D A [(p_sc, .inr (8, [.int 0, .int 0, .ref p_sc_codes])), (p_sc_codes, .inl (kI, 300, .inl (fun _ => 0)))] := hD
  refine W.widen (k := 1) (n := 300) (by decide +kernel) (by decide +kernel) ?_
  exact hR (p_sc_codes, 0, 0, (fun _ => 0)) H locs h hP hD hS _ ls dX8_init_13
