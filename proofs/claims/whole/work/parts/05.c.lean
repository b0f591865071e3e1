def wp_X6_tellWord (me_octets : Nat → Int32) (pr_starts : Nat → Int32) (pr_lengths : Nat → Int32) (pr_entries : Nat → Int32) (a1 : Int32) (a2 : Int32) (a3 : Int32) (K : (Nat → Int32) → Prop) : Prop :=
  ((a1 < 0) → (K me_octets)) ∧ ((¬ a1 < 0) → (((255 ≤ a1) → (K me_octets)) ∧ ((¬ 255 ≤ a1) → (vp_in a1 255 ∧ (wp_X4_store me_octets a2 2 (Int32.toInt64 (pr_entries (Int32.toNatClampNeg a1))) (fun (me_octets_1 : Nat → Int32) => vp_in a1 255 ∧ (wp_X4_setOctet me_octets_1 (a2 + 2) (pr_lengths (Int32.toNatClampNeg a1)) (fun (me_octets_2 : Nat → Int32) => vp_in a1 255 ∧ (wp_X4_setOctet me_octets_2 (a2 + 3) ((pr_starts (Int32.toNatClampNeg a1)) - a3) (fun (me_octets_3 : Nat → Int32) => K me_octets_3))))))))))
abbrev rmX6_tellWord : Room := { frames := 2, cells := 0, slots := 0, locals := 47 }
set_option maxHeartbeats 4000000 in
set_option maxRecDepth 100000 in
theorem c_X6_tellWord (l : Launch) (dC : Nat → ClassId) (dI : Nat → Nat → Nat) (kI kZ : ClassId) (sz : Nat) (p_me : Nat) (p_me_octets : Nat) (p_pr : Nat) (p_pa : Nat) (p_di : Nat) (p_pr_starts : Nat) (p_pr_lengths : Nat) (p_pr_entries : Nat) (pr_counts : Int32) (pr_words : Int32) (pr_textFrom : Int32) (pr_textEnd : Int32) (me_octets : Nat → Int32) (pr_starts : Nat → Int32) (pr_lengths : Nat → Int32) (pr_entries : Nat → Int32) (a1 : Int32) (a2 : Int32) (a3 : Int32) (K : (Nat → Int32) → Prop) (h : wp_X6_tellWord me_octets pr_starts pr_lengths pr_entries a1 a2 a3 K) : Met l yX6_tellWord wsX6_tellWord rmX6_tellWord (va_Pc [.ref p_pr, .int a1, .int a2, .int a3] (zP (dC, dI) (zT kI kZ) sz [(p_me, .inr (4, [.ref p_me_octets])), (p_me_octets, .inl (kI, 4096, .inl me_octets)), (p_pr, .inr (6, [.ref p_me, .ref p_pa, .ref p_di, .int pr_counts, .ref p_pr_starts, .ref p_pr_lengths, .ref p_pr_entries, .int pr_words, .int pr_textFrom, .int pr_textEnd])), (p_pr_starts, .inl (kI, 255, .inl pr_starts)), (p_pr_lengths, .inl (kI, 255, .inl pr_lengths)), (p_pr_entries, .inl (kI, 255, .inl pr_entries))])) (va_Qv (fun (u : (Nat → Int32)) => K u) (fun (u : (Nat → Int32)) => zB (dC, dI) (zT kI kZ) (va_A [(p_me, .inr (4, [.ref p_me_octets])), (p_me_octets, .inl (kI, 4096, .inl me_octets)), (p_pr, .inr (6, [.ref p_me, .ref p_pa, .ref p_di, .int pr_counts, .ref p_pr_starts, .ref p_pr_lengths, .ref p_pr_entries, .int pr_words, .int pr_textFrom, .int pr_textEnd])), (p_pr_starts, .inl (kI, 255, .inl pr_starts)), (p_pr_lengths, .inl (kI, 255, .inl pr_lengths)), (p_pr_entries, .inl (kI, 255, .inl pr_entries))] sz) [(p_me, .inr (4, [.ref p_me_octets])), (p_me_octets, .inl (kI, 4096, .inl u)), (p_pr, .inr (6, [.ref p_me, .ref p_pa, .ref p_di, .int pr_counts, .ref p_pr_starts, .ref p_pr_lengths, .ref p_pr_entries, .int pr_words, .int pr_textFrom, .int pr_textEnd])), (p_pr_starts, .inl (kI, 255, .inl pr_starts)), (p_pr_lengths, .inl (kI, 255, .inl pr_lengths)), (p_pr_entries, .inl (kI, 255, .inl pr_entries))]) (va_A [(p_me, .inr (4, [.ref p_me_octets])), (p_me_octets, .inl (kI, 4096, .inl me_octets)), (p_pr, .inr (6, [.ref p_me, .ref p_pa, .ref p_di, .int pr_counts, .ref p_pr_starts, .ref p_pr_lengths, .ref p_pr_entries, .int pr_words, .int pr_textFrom, .int pr_textEnd])), (p_pr_starts, .inl (kI, 255, .inl pr_starts)), (p_pr_lengths, .inl (kI, 255, .inl pr_lengths)), (p_pr_entries, .inl (kI, 255, .inl pr_entries))] sz)) 0 0 (va_A [(p_me, .inr (4, [.ref p_me_octets])), (p_me_octets, .inl (kI, 4096, .inl me_octets)), (p_pr, .inr (6, [.ref p_me, .ref p_pa, .ref p_di, .int pr_counts, .ref p_pr_starts, .ref p_pr_lengths, .ref p_pr_entries, .int pr_words, .int pr_textFrom, .int pr_textEnd])), (p_pr_starts, .inl (kI, 255, .inl pr_starts)), (p_pr_lengths, .inl (kI, 255, .inl pr_lengths)), (p_pr_entries, .inl (kI, 255, .inl pr_entries))] sz) := by
  refine zz_ofv (cc := cX6_tellWord) (maxL := 4) (by decide) rfl (Nat.le_of_ble_eq_true rfl) ?_
  intro p e s m args below meth c A Q ls hx hb hml hown hts hK hA hR hP hD hS hl
  have hown : s.vm.findClass RX6 = some m.cls := hown
  have hl : lv_has ls 4 [(0, .ref p_pr), (1, .int a1), (2, .int a2), (3, .int a3)] := hl
  have hi_X6 : ∀ w ∈ wsX60, w ∈ wsX6_tellWord := fun _ h => (List.mem_cons_of_mem _ (List.mem_append_left _ (List.mem_append_right _ h)))
  unfold wp_X6_tellWord at h
  obtain ⟨H, eH⟩ : ∃ H, H = s.heap := ⟨_, rfl⟩
  obtain ⟨locs, eL⟩ : ∃ L : List Loc, L = [] := ⟨_, rfl⟩
  rw [← eL]
  have hS : va_S A s.heap s.heap locs := by rw [eL]; exact hS
  suffices hgo : ∀ H : Heap, va_P (dC, dI) vwCl [(p_me, .inr (4, [.ref p_me_octets])), (p_me_octets, .inl (kI, 4096, .inl me_octets)), (p_pr, .inr (6, [.ref p_me, .ref p_pa, .ref p_di, .int pr_counts, .ref p_pr_starts, .ref p_pr_lengths, .ref p_pr_entries, .int pr_words, .int pr_textFrom, .int pr_textEnd])), (p_pr_starts, .inl (kI, 255, .inl pr_starts)), (p_pr_lengths, .inl (kI, 255, .inl pr_lengths)), (p_pr_entries, .inl (kI, 255, .inl pr_entries))] H → va_S A s.heap H locs → W p l e rmX6_tellWord s m args below meth c H locs 0 0 Q (F0 m 0 ls []) from hgo _ hP hS
  clear hP hS eH H eL
  intro H hP hS
  refine lv_iload_n hx hb dX6_tellWord_0 rfl (lv_at hl 1 rfl) ?_
  refine lv_if_lt (tgt := 61) hx hb dX6_tellWord_1 (by decide) (fun c_ => ?_) (fun c_ => ?_)
  · have h := h.1 c_
    exact hR me_octets H locs h hP hD hS _ ls dX6_tellWord_61
  · have h := h.2 c_
    refine lv_iload_n hx hb dX6_tellWord_4 rfl (lv_at hl 1 rfl) ?_
    refine lv_sipush (v := 255) hx hb dX6_tellWord_5 (by decide) ?_
    refine lv_icmp_ge (tgt := 61) hx hb dX6_tellWord_8 (by decide) (fun c_ => ?_) (fun c_ => ?_)
    · have h := h.1 c_
      exact hR me_octets H locs h hP hD hS _ ls dX6_tellWord_61
    · have h := h.2 c_
      refine lv_aload_n hx hb dX6_tellWord_11 rfl (lv_at hl 0 rfl) ?_
      refine va_get (D := (dC, dI)) (ci := 6) (v := .ref p_me) (C := RX6) (T := TX6) (N := 10) hx hb hts hi_X6 hown hK hP 2 rfl rfl 0 (by decide) (hts (.fieldLink RX6 21 "ZInput$Parser" "memory" "LZInput$Memory;") (List.mem_cons_of_mem _ (List.mem_append_left _ (List.mem_append_left _ (List.mem_of_getElem? (i := 0) rfl))))) (fun _ h9 => h9) rfl dX6_tellWord_12 ?_
      refine lv_iload_n hx hb dX6_tellWord_15 rfl (lv_at hl 2 rfl) ?_
      refine lv_iconst (v := 2) hx hb dX6_tellWord_16 (by decide) ?_
      refine lv_aload_n hx hb dX6_tellWord_17 rfl (lv_at hl 0 rfl) ?_
      refine va_get (D := (dC, dI)) (ci := 6) (v := .ref p_pr_entries) (C := RX6) (T := TX6) (N := 10) hx hb hts hi_X6 hown hK hP 2 rfl rfl 6 (by decide) (hts (.fieldLink RX6 18 "ZInput$Parser" "entries" "[I") (List.mem_cons_of_mem _ (List.mem_append_left _ (List.mem_append_left _ (List.mem_of_getElem? (i := 1) rfl))))) (fun _ h9 => h9) rfl dX6_tellWord_18 ?_
      refine lv_iload_n hx hb dX6_tellWord_21 rfl (lv_at hl 1 rfl) ?_
      have hi := h.1
      have h := h.2
      refine va_iald hx hb hK hP 5 0 rfl rfl hi dX6_tellWord_22 ?_
      refine lv_i2l hx hb dX6_tellWord_23 rfl ?_
      refine zz_Vv (As := [.int a2, .int 2, .long (Int32.toInt64 (pr_entries (Int32.toNatClampNeg a1)))]) (rest := []) (wr := [(p_pr, .inr (6, [.ref p_me, .ref p_pa, .ref p_di, .int pr_counts, .ref p_pr_starts, .ref p_pr_lengths, .ref p_pr_entries, .int pr_words, .int pr_textFrom, .int pr_textEnd])), (p_pr_starts, .inl (kI, 255, .inl pr_starts)), (p_pr_lengths, .inl (kI, 255, .inl pr_lengths)), (p_pr_entries, .inl (kI, 255, .inl pr_entries))]) ⟨hx, hb, hml, hown, hts⟩ (cwV 3 hts gX6_tellWord_X4_store rfl rfl rfl (by decide +kernel) ⟨Nat.le_of_ble_eq_true rfl, Nat.le_of_ble_eq_true rfl⟩) hK hP hD hS hA (c_X4_store l dC dI kI kZ H.size p_me p_me_octets me_octets a2 2 (Int32.toInt64 (pr_entries (Int32.toNatClampNeg a1))) _ h) [0, 1] [2, 3, 4, 5] rfl rfl rfl rfl (by decide) 0 rfl rfl rfl rfl hl.1 (Nat.le_of_ble_eq_true rfl) dX6_tellWord_24 (Nat.le_refl _) (Nat.le_refl _) (fun me_octets_1 H locs h hP hD hS => ?_)
      have hP : va_P (dC, dI) vwCl [(p_me, .inr (4, [.ref p_me_octets])), (p_me_octets, .inl (kI, 4096, .inl me_octets_1)), (p_pr, .inr (6, [.ref p_me, .ref p_pa, .ref p_di, .int pr_counts, .ref p_pr_starts, .ref p_pr_lengths, .ref p_pr_entries, .int pr_words, .int pr_textFrom, .int pr_textEnd])), (p_pr_starts, .inl (kI, 255, .inl pr_starts)), (p_pr_lengths, .inl (kI, 255, .inl pr_lengths)), (p_pr_entries, .inl (kI, 255, .inl pr_entries))] H := hP.sub [4, 5, 0, 1, 2, 3] rfl
      have hD : va_D A [(p_me, .inr (4, [.ref p_me_octets])), (p_me_octets, .inl (kI, 4096, .inl me_octets_1)), (p_pr, .inr (6, [.ref p_me, .ref p_pa, .ref p_di, .int pr_counts, .ref p_pr_starts, .ref p_pr_lengths, .ref p_pr_entries, .int pr_words, .int pr_textFrom, .int pr_textEnd])), (p_pr_starts, .inl (kI, 255, .inl pr_starts)), (p_pr_lengths, .inl (kI, 255, .inl pr_lengths)), (p_pr_entries, .inl (kI, 255, .inl pr_entries))] := hD.sub [4, 5, 0, 1, 2, 3] rfl rfl
      refine lv_aload_n hx hb dX6_tellWord_27 rfl (lv_at hl 0 rfl) ?_
      refine va_get (D := (dC, dI)) (ci := 6) (v := .ref p_me) (C := RX6) (T := TX6) (N := 10) hx hb hts hi_X6 hown hK hP 2 rfl rfl 0 (by decide) (hts (.fieldLink RX6 21 "ZInput$Parser" "memory" "LZInput$Memory;") (List.mem_cons_of_mem _ (List.mem_append_left _ (List.mem_append_left _ (List.mem_of_getElem? (i := 0) rfl))))) (fun _ h9 => h9) rfl dX6_tellWord_28 ?_
      refine lv_iload_n hx hb dX6_tellWord_31 rfl (lv_at hl 2 rfl) ?_
      refine lv_iconst (v := 2) hx hb dX6_tellWord_32 (by decide) ?_
      refine lv_iadd hx hb dX6_tellWord_33 ?_
      refine lv_aload_n hx hb dX6_tellWord_34 rfl (lv_at hl 0 rfl) ?_
      refine va_get (D := (dC, dI)) (ci := 6) (v := .ref p_pr_lengths) (C := RX6) (T := TX6) (N := 10) hx hb hts hi_X6 hown hK hP 2 rfl rfl 5 (by decide) (hts (.fieldLink RX6 15 "ZInput$Parser" "lengths" "[I") (List.mem_cons_of_mem _ (List.mem_append_left _ (List.mem_append_left _ (List.mem_of_getElem? (i := 2) rfl))))) (fun _ h9 => h9) rfl dX6_tellWord_35 ?_
      refine lv_iload_n hx hb dX6_tellWord_38 rfl (lv_at hl 1 rfl) ?_
      have hi := h.1
      have h := h.2
      refine va_iald hx hb hK hP 4 0 rfl rfl hi dX6_tellWord_39 ?_
      refine zz_Vv (As := [.int (a2 + 2), .int (pr_lengths (Int32.toNatClampNeg a1))]) (rest := []) (wr := [(p_pr, .inr (6, [.ref p_me, .ref p_pa, .ref p_di, .int pr_counts, .ref p_pr_starts, .ref p_pr_lengths, .ref p_pr_entries, .int pr_words, .int pr_textFrom, .int pr_textEnd])), (p_pr_starts, .inl (kI, 255, .inl pr_starts)), (p_pr_lengths, .inl (kI, 255, .inl pr_lengths)), (p_pr_entries, .inl (kI, 255, .inl pr_entries))]) ⟨hx, hb, hml, hown, hts⟩ (cwV 2 hts gX6_tellWord_X4_setOctet rfl rfl rfl (by decide +kernel) ⟨Nat.le_of_ble_eq_true rfl, Nat.le_of_ble_eq_true rfl⟩) hK hP hD hS hA (c_X4_setOctet l dC dI kI kZ H.size p_me p_me_octets me_octets_1 (a2 + 2) (pr_lengths (Int32.toNatClampNeg a1)) _ h) [0, 1] [2, 3, 4, 5] rfl rfl rfl rfl (by decide) 0 rfl rfl rfl rfl hl.1 (Nat.le_of_ble_eq_true rfl) dX6_tellWord_40 (Nat.le_refl _) (Nat.le_refl _) (fun me_octets_2 H locs h hP hD hS => ?_)
      have hP : va_P (dC, dI) vwCl [(p_me, .inr (4, [.ref p_me_octets])), (p_me_octets, .inl (kI, 4096, .inl me_octets_2)), (p_pr, .inr (6, [.ref p_me, .ref p_pa, .ref p_di, .int pr_counts, .ref p_pr_starts, .ref p_pr_lengths, .ref p_pr_entries, .int pr_words, .int pr_textFrom, .int pr_textEnd])), (p_pr_starts, .inl (kI, 255, .inl pr_starts)), (p_pr_lengths, .inl (kI, 255, .inl pr_lengths)), (p_pr_entries, .inl (kI, 255, .inl pr_entries))] H := hP.sub [4, 5, 0, 1, 2, 3] rfl
      have hD : va_D A [(p_me, .inr (4, [.ref p_me_octets])), (p_me_octets, .inl (kI, 4096, .inl me_octets_2)), (p_pr, .inr (6, [.ref p_me, .ref p_pa, .ref p_di, .int pr_counts, .ref p_pr_starts, .ref p_pr_lengths, .ref p_pr_entries, .int pr_words, .int pr_textFrom, .int pr_textEnd])), (p_pr_starts, .inl (kI, 255, .inl pr_starts)), (p_pr_lengths, .inl (kI, 255, .inl pr_lengths)), (p_pr_entries, .inl (kI, 255, .inl pr_entries))] := hD.sub [4, 5, 0, 1, 2, 3] rfl rfl
      refine lv_aload_n hx hb dX6_tellWord_43 rfl (lv_at hl 0 rfl) ?_
      refine va_get (D := (dC, dI)) (ci := 6) (v := .ref p_me) (C := RX6) (T := TX6) (N := 10) hx hb hts hi_X6 hown hK hP 2 rfl rfl 0 (by decide) (hts (.fieldLink RX6 21 "ZInput$Parser" "memory" "LZInput$Memory;") (List.mem_cons_of_mem _ (List.mem_append_left _ (List.mem_append_left _ (List.mem_of_getElem? (i := 0) rfl))))) (fun _ h9 => h9) rfl dX6_tellWord_44 ?_
      refine lv_iload_n hx hb dX6_tellWord_47 rfl (lv_at hl 2 rfl) ?_
      refine lv_iconst (v := 3) hx hb dX6_tellWord_48 (by decide) ?_
      refine lv_iadd hx hb dX6_tellWord_49 ?_
      refine lv_aload_n hx hb dX6_tellWord_50 rfl (lv_at hl 0 rfl) ?_
      refine va_get (D := (dC, dI)) (ci := 6) (v := .ref p_pr_starts) (C := RX6) (T := TX6) (N := 10) hx hb hts hi_X6 hown hK hP 2 rfl rfl 4 (by decide) (hts (.fieldLink RX6 11 "ZInput$Parser" "starts" "[I") (List.mem_cons_of_mem _ (List.mem_append_left _ (List.mem_append_left _ (List.mem_of_getElem? (i := 3) rfl))))) (fun _ h9 => h9) rfl dX6_tellWord_51 ?_
      refine lv_iload_n hx hb dX6_tellWord_54 rfl (lv_at hl 1 rfl) ?_
      have hi := h.1
      have h := h.2
      refine va_iald hx hb hK hP 3 0 rfl rfl hi dX6_tellWord_55 ?_
      refine lv_iload_n hx hb dX6_tellWord_56 rfl (lv_at hl 3 rfl) ?_
      refine lv_isub hx hb dX6_tellWord_57 ?_
      refine zz_Vv (As := [.int (a2 + 3), .int ((pr_starts (Int32.toNatClampNeg a1)) - a3)]) (rest := []) (wr := [(p_pr, .inr (6, [.ref p_me, .ref p_pa, .ref p_di, .int pr_counts, .ref p_pr_starts, .ref p_pr_lengths, .ref p_pr_entries, .int pr_words, .int pr_textFrom, .int pr_textEnd])), (p_pr_starts, .inl (kI, 255, .inl pr_starts)), (p_pr_lengths, .inl (kI, 255, .inl pr_lengths)), (p_pr_entries, .inl (kI, 255, .inl pr_entries))]) ⟨hx, hb, hml, hown, hts⟩ (cwV 2 hts gX6_tellWord_X4_setOctet rfl rfl rfl (by decide +kernel) ⟨Nat.le_of_ble_eq_true rfl, Nat.le_of_ble_eq_true rfl⟩) hK hP hD hS hA (c_X4_setOctet l dC dI kI kZ H.size p_me p_me_octets me_octets_2 (a2 + 3) ((pr_starts (Int32.toNatClampNeg a1)) - a3) _ h) [0, 1] [2, 3, 4, 5] rfl rfl rfl rfl (by decide) 0 rfl rfl rfl rfl hl.1 (Nat.le_of_ble_eq_true rfl) dX6_tellWord_58 (Nat.le_refl _) (Nat.le_refl _) (fun me_octets_3 H locs h hP hD hS => ?_)
      have hP : va_P (dC, dI) vwCl [(p_me, .inr (4, [.ref p_me_octets])), (p_me_octets, .inl (kI, 4096, .inl me_octets_3)), (p_pr, .inr (6, [.ref p_me, .ref p_pa, .ref p_di, .int pr_counts, .ref p_pr_starts, .ref p_pr_lengths, .ref p_pr_entries, .int pr_words, .int pr_textFrom, .int pr_textEnd])), (p_pr_starts, .inl (kI, 255, .inl pr_starts)), (p_pr_lengths, .inl (kI, 255, .inl pr_lengths)), (p_pr_entries, .inl (kI, 255, .inl pr_entries))] H := hP.sub [4, 5, 0, 1, 2, 3] rfl
      have hD : va_D A [(p_me, .inr (4, [.ref p_me_octets])), (p_me_octets, .inl (kI, 4096, .inl me_octets_3)), (p_pr, .inr (6, [.ref p_me, .ref p_pa, .ref p_di, .int pr_counts, .ref p_pr_starts, .ref p_pr_lengths, .ref p_pr_entries, .int pr_words, .int pr_textFrom, .int pr_textEnd])), (p_pr_starts, .inl (kI, 255, .inl pr_starts)), (p_pr_lengths, .inl (kI, 255, .inl pr_lengths)), (p_pr_entries, .inl (kI, 255, .inl pr_entries))] := hD.sub [4, 5, 0, 1, 2, 3] rfl rfl
      exact hR me_octets_3 H locs h hP hD hS _ ls dX6_tellWord_61
def wp_X7_add (re_limit : Int32) (re_count : Int32) (re_codes : Nat → Int32) (a1 : Int32) (K : Int32 → (Nat → Int32) → Prop) : Prop :=
  ((re_limit ≤ re_count) → (K re_count re_codes)) ∧ ((¬ re_limit ≤ re_count) → (((re_count < 0) → (K re_count re_codes)) ∧ ((¬ re_count < 0) → (((255 ≤ re_count) → (K re_count re_codes)) ∧ ((¬ 255 ≤ re_count) → (vp_in re_count 255 ∧ (∀ v_1 : Int32, v_1 = (re_count + 1) → (K v_1 (upd re_codes (Int32.toNatClampNeg re_count) a1)))))))))
abbrev rmX7_add : Room := { frames := 0, cells := 0, slots := 0, locals := 0 }
set_option maxHeartbeats 4000000 in
set_option maxRecDepth 100000 in
theorem c_X7_add (l : Launch) (dC : Nat → ClassId) (dI : Nat → Nat → Nat) (kI kZ : ClassId) (sz : Nat) (p_re : Nat) (p_re_codes : Nat) (re_open : Int32) (re_textAt : Int32) (re_parseAt : Int32) (re_shown : Int32) (re_limit : Int32) (re_count : Int32) (re_codes : Nat → Int32) (a1 : Int32) (K : Int32 → (Nat → Int32) → Prop) (h : wp_X7_add re_limit re_count re_codes a1 K) : Met l yX7_add wsX7_add rmX7_add (va_Pc [.ref p_re, .int a1] (zP (dC, dI) (zT kI kZ) sz [(p_re, .inr (7, [.int re_open, .int re_textAt, .int re_parseAt, .int re_limit, .int re_count, .int re_shown, .ref p_re_codes])), (p_re_codes, .inl (kI, 255, .inl re_codes))])) (va_Qv (fun (u : Int32 × (Nat → Int32)) => K u.1 u.2) (fun (u : Int32 × (Nat → Int32)) => zB (dC, dI) (zT kI kZ) (va_A [(p_re, .inr (7, [.int re_open, .int re_textAt, .int re_parseAt, .int re_limit, .int re_count, .int re_shown, .ref p_re_codes])), (p_re_codes, .inl (kI, 255, .inl re_codes))] sz) [(p_re, .inr (7, [.int re_open, .int re_textAt, .int re_parseAt, .int re_limit, .int u.1, .int re_shown, .ref p_re_codes])), (p_re_codes, .inl (kI, 255, .inl u.2))]) (va_A [(p_re, .inr (7, [.int re_open, .int re_textAt, .int re_parseAt, .int re_limit, .int re_count, .int re_shown, .ref p_re_codes])), (p_re_codes, .inl (kI, 255, .inl re_codes))] sz)) 0 0 (va_A [(p_re, .inr (7, [.int re_open, .int re_textAt, .int re_parseAt, .int re_limit, .int re_count, .int re_shown, .ref p_re_codes])), (p_re_codes, .inl (kI, 255, .inl re_codes))] sz) := by
  refine zz_ofv (cc := cX7_add) (maxL := 2) (by decide) rfl (Nat.le_of_ble_eq_true rfl) ?_
  intro p e s m args below meth c A Q ls hx hb hml hown hts hK hA hR hP hD hS hl
  have hown : s.vm.findClass RX7 = some m.cls := hown
  have hl : lv_has ls 2 [(0, .ref p_re), (1, .int a1)] := hl
  have hi_X7 : ∀ w ∈ wsX70, w ∈ wsX7_add := fun _ h => (List.mem_cons_of_mem _ (List.mem_append_right _ h))
  unfold wp_X7_add at h
  obtain ⟨H, eH⟩ : ∃ H, H = s.heap := ⟨_, rfl⟩
  obtain ⟨locs, eL⟩ : ∃ L : List Loc, L = [] := ⟨_, rfl⟩
  rw [← eL]
  have hS : va_S A s.heap s.heap locs := by rw [eL]; exact hS
  suffices hgo : ∀ H : Heap, va_P (dC, dI) vwCl [(p_re, .inr (7, [.int re_open, .int re_textAt, .int re_parseAt, .int re_limit, .int re_count, .int re_shown, .ref p_re_codes])), (p_re_codes, .inl (kI, 255, .inl re_codes))] H → va_S A s.heap H locs → W p l e rmX7_add s m args below meth c H locs 0 0 Q (F0 m 0 ls []) from hgo _ hP hS
  clear hP hS eH H eL
  intro H hP hS
  refine lv_aload_n hx hb dX7_add_0 rfl (lv_at hl 0 rfl) ?_
  refine va_get (D := (dC, dI)) (ci := 7) (v := .int re_count) (C := RX7) (T := TX7) (N := 7) hx hb hts hi_X7 hown hK hP 0 rfl rfl 4 (by decide) (hts (.fieldLink RX7 32 "ZInput$Reading" "count" "I") (List.mem_cons_of_mem _ (List.mem_append_left _ (List.mem_of_getElem? (i := 0) rfl)))) (fun _ h9 => h9) rfl dX7_add_1 ?_
  refine lv_aload_n hx hb dX7_add_4 rfl (lv_at hl 0 rfl) ?_
  refine va_get (D := (dC, dI)) (ci := 7) (v := .int re_limit) (C := RX7) (T := TX7) (N := 7) hx hb hts hi_X7 hown hK hP 0 rfl rfl 3 (by decide) (hts (.fieldLink RX7 29 "ZInput$Reading" "limit" "I") (List.mem_cons_of_mem _ (List.mem_append_left _ (List.mem_of_getElem? (i := 1) rfl)))) (fun _ h9 => h9) rfl dX7_add_5 ?_
  refine lv_icmp_ge (tgt := 50) hx hb dX7_add_8 (by decide) (fun c_ => ?_) (fun c_ => ?_)
  · have h := h.1 c_
    exact hR (re_count, re_codes) H locs h hP hD hS _ ls dX7_add_50
  · have h := h.2 c_
    refine lv_aload_n hx hb dX7_add_11 rfl (lv_at hl 0 rfl) ?_
    refine va_get (D := (dC, dI)) (ci := 7) (v := .int re_count) (C := RX7) (T := TX7) (N := 7) hx hb hts hi_X7 hown hK hP 0 rfl rfl 4 (by decide) (hts (.fieldLink RX7 32 "ZInput$Reading" "count" "I") (List.mem_cons_of_mem _ (List.mem_append_left _ (List.mem_of_getElem? (i := 0) rfl)))) (fun _ h9 => h9) rfl dX7_add_12 ?_
    refine lv_if_lt (tgt := 50) hx hb dX7_add_15 (by decide) (fun c_ => ?_) (fun c_ => ?_)
    · have h := h.1 c_
      exact hR (re_count, re_codes) H locs h hP hD hS _ ls dX7_add_50
    · have h := h.2 c_
      refine lv_aload_n hx hb dX7_add_18 rfl (lv_at hl 0 rfl) ?_
      refine va_get (D := (dC, dI)) (ci := 7) (v := .int re_count) (C := RX7) (T := TX7) (N := 7) hx hb hts hi_X7 hown hK hP 0 rfl rfl 4 (by decide) (hts (.fieldLink RX7 32 "ZInput$Reading" "count" "I") (List.mem_cons_of_mem _ (List.mem_append_left _ (List.mem_of_getElem? (i := 0) rfl)))) (fun _ h9 => h9) rfl dX7_add_19 ?_
      refine lv_aload_n hx hb dX7_add_22 rfl (lv_at hl 0 rfl) ?_
      refine va_get (D := (dC, dI)) (ci := 7) (v := .ref p_re_codes) (C := RX7) (T := TX7) (N := 7) hx hb hts hi_X7 hown hK hP 0 rfl rfl 6 (by decide) (hts (.fieldLink RX7 15 "ZInput$Reading" "codes" "[I") (List.mem_cons_of_mem _ (List.mem_append_left _ (List.mem_of_getElem? (i := 2) rfl)))) (fun _ h9 => h9) rfl dX7_add_23 ?_
      refine va_alen (v := 255) hx hb hK hP 1 0 rfl rfl rfl dX7_add_26 ?_
      refine lv_icmp_ge (tgt := 50) hx hb dX7_add_27 (by decide) (fun c_ => ?_) (fun c_ => ?_)
      · have h := h.1 c_
        exact hR (re_count, re_codes) H locs h hP hD hS _ ls dX7_add_50
      · have h := h.2 c_
        refine lv_aload_n hx hb dX7_add_30 rfl (lv_at hl 0 rfl) ?_
        refine va_get (D := (dC, dI)) (ci := 7) (v := .ref p_re_codes) (C := RX7) (T := TX7) (N := 7) hx hb hts hi_X7 hown hK hP 0 rfl rfl 6 (by decide) (hts (.fieldLink RX7 15 "ZInput$Reading" "codes" "[I") (List.mem_cons_of_mem _ (List.mem_append_left _ (List.mem_of_getElem? (i := 2) rfl)))) (fun _ h9 => h9) rfl dX7_add_31 ?_
        refine lv_aload_n hx hb dX7_add_34 rfl (lv_at hl 0 rfl) ?_
        refine va_get (D := (dC, dI)) (ci := 7) (v := .int re_count) (C := RX7) (T := TX7) (N := 7) hx hb hts hi_X7 hown hK hP 0 rfl rfl 4 (by decide) (hts (.fieldLink RX7 32 "ZInput$Reading" "count" "I") (List.mem_cons_of_mem _ (List.mem_append_left _ (List.mem_of_getElem? (i := 0) rfl)))) (fun _ h9 => h9) rfl dX7_add_35 ?_
        refine lv_iload_n hx hb dX7_add_38 rfl (lv_at hl 1 rfl) ?_
        have hi := h.1
        have h := h.2
        refine va_iast hx hb hK hP hD hS 1 0 rfl rfl hi dX7_add_39 (fun H locs hP hD hS => ?_)
        have hP : va_P (dC, dI) vwCl [(p_re, .inr (7, [.int re_open, .int re_textAt, .int re_parseAt, .int re_limit, .int re_count, .int re_shown, .ref p_re_codes])), (p_re_codes, .inl (kI, 255, .inl (upd re_codes (Int32.toNatClampNeg re_count) a1)))] H := hP
        have hD : va_D A [(p_re, .inr (7, [.int re_open, .int re_textAt, .int re_parseAt, .int re_limit, .int re_count, .int re_shown, .ref p_re_codes])), (p_re_codes, .inl (kI, 255, .inl (upd re_codes (Int32.toNatClampNeg re_count) a1)))] := hD
        refine lv_aload_n hx hb dX7_add_40 rfl (lv_at hl 0 rfl) ?_
        refine lv_dup hx hb dX7_add_41 rfl ?_
        refine va_get (D := (dC, dI)) (ci := 7) (v := .int re_count) (C := RX7) (T := TX7) (N := 7) hx hb hts hi_X7 hown hK hP 0 rfl rfl 4 (by decide) (hts (.fieldLink RX7 32 "ZInput$Reading" "count" "I") (List.mem_cons_of_mem _ (List.mem_append_left _ (List.mem_of_getElem? (i := 0) rfl)))) (fun _ h9 => h9) rfl dX7_add_42 ?_
        refine lv_iconst (v := 1) hx hb dX7_add_45 (by decide) ?_
        refine lv_iadd hx hb dX7_add_46 ?_
        refine lv_topi (fun v_1 ev_1 => ?_)
        have h := h v_1 ev_1
        refine va_put (D := (dC, dI)) (ci := 7) (v := .int v_1) (ty := .int) (C := RX7) (T := TX7) (N := 7) hx hb hts hi_X7 tyX7 tyX7_ok nmX7 hown hK hP hD hS 0 rfl rfl 4 (by decide) (hts (.fieldLink RX7 32 "ZInput$Reading" "count" "I") (List.mem_cons_of_mem _ (List.mem_append_left _ (List.mem_of_getElem? (i := 0) rfl)))) (fun _ h9 => h9) rfl (by decide +kernel) rfl rfl (Nat.le_of_ble_eq_true rfl) dX7_add_47 (fun H locs hP hD hS => ?_)
        have hP : va_P (dC, dI) vwCl [(p_re, .inr (7, [.int re_open, .int re_textAt, .int re_parseAt, .int re_limit, .int v_1, .int re_shown, .ref p_re_codes])), (p_re_codes, .inl (kI, 255, .inl (upd re_codes (Int32.toNatClampNeg re_count) a1)))] H := hP
        have hD : va_D A [(p_re, .inr (7, [.int re_open, .int re_textAt, .int re_parseAt, .int re_limit, .int v_1, .int re_shown, .ref p_re_codes])), (p_re_codes, .inl (kI, 255, .inl (upd re_codes (Int32.toNatClampNeg re_count) a1)))] := hD
        exact hR (v_1, (upd re_codes (Int32.toNatClampNeg re_count) a1)) H locs h hP hD hS _ ls dX7_add_50
def wp_X7_clear (re_count : Int32) (K : Int32 → Prop) : Prop :=
  K 0
abbrev rmX7_clear : Room := { frames := 0, cells := 0, slots := 0, locals := 0 }
set_option maxHeartbeats 4000000 in
set_option maxRecDepth 100000 in
theorem c_X7_clear (l : Launch) (dC : Nat → ClassId) (dI : Nat → Nat → Nat) (kI kZ : ClassId) (sz : Nat) (p_re : Nat) (p_re_codes : Nat) (re_open : Int32) (re_textAt : Int32) (re_parseAt : Int32) (re_limit : Int32) (re_shown : Int32) (re_count : Int32) (K : Int32 → Prop) (h : wp_X7_clear re_count K) : Met l yX7_clear wsX7_clear rmX7_clear (va_Pc [.ref p_re] (zP (dC, dI) (zT kI kZ) sz [(p_re, .inr (7, [.int re_open, .int re_textAt, .int re_parseAt, .int re_limit, .int re_count, .int re_shown, .ref p_re_codes]))])) (va_Qv (fun (u : Int32) => K u) (fun (u : Int32) => zB (dC, dI) (zT kI kZ) (va_A [(p_re, .inr (7, [.int re_open, .int re_textAt, .int re_parseAt, .int re_limit, .int re_count, .int re_shown, .ref p_re_codes]))] sz) [(p_re, .inr (7, [.int re_open, .int re_textAt, .int re_parseAt, .int re_limit, .int u, .int re_shown, .ref p_re_codes]))]) (va_A [(p_re, .inr (7, [.int re_open, .int re_textAt, .int re_parseAt, .int re_limit, .int re_count, .int re_shown, .ref p_re_codes]))] sz)) 0 0 (va_A [(p_re, .inr (7, [.int re_open, .int re_textAt, .int re_parseAt, .int re_limit, .int re_count, .int re_shown, .ref p_re_codes]))] sz) := by
  refine zz_ofv (cc := cX7_clear) (maxL := 1) (by decide) rfl (Nat.le_of_ble_eq_true rfl) ?_
  intro p e s m args below meth c A Q ls hx hb hml hown hts hK hA hR hP hD hS hl
  have hown : s.vm.findClass RX7 = some m.cls := hown
  have hl : lv_has ls 1 [(0, .ref p_re)] := hl
  have hi_X7 : ∀ w ∈ wsX70, w ∈ wsX7_clear := fun _ h => (List.mem_cons_of_mem _ (List.mem_append_right _ h))
  unfold wp_X7_clear at h
  obtain ⟨H, eH⟩ : ∃ H, H = s.heap := ⟨_, rfl⟩
  obtain ⟨locs, eL⟩ : ∃ L : List Loc, L = [] := ⟨_, rfl⟩
  rw [← eL]
  have hS : va_S A s.heap s.heap locs := by rw [eL]; exact hS
  suffices hgo : ∀ H : Heap, va_P (dC, dI) vwCl [(p_re, .inr (7, [.int re_open, .int re_textAt, .int re_parseAt, .int re_limit, .int re_count, .int re_shown, .ref p_re_codes]))] H → va_S A s.heap H locs → W p l e rmX7_clear s m args below meth c H locs 0 0 Q (F0 m 0 ls []) from hgo _ hP hS
  clear hP hS eH H eL
  intro H hP hS
  refine lv_aload_n hx hb dX7_clear_0 rfl (lv_at hl 0 rfl) ?_
  refine lv_iconst (v := 0) hx hb dX7_clear_1 (by decide) ?_
  refine va_put (D := (dC, dI)) (ci := 7) (v := .int 0) (ty := .int) (C := RX7) (T := TX7) (N := 7) hx hb hts hi_X7 tyX7 tyX7_ok nmX7 hown hK hP hD hS 0 rfl rfl 4 (by decide) (hts (.fieldLink RX7 32 "ZInput$Reading" "count" "I") (List.mem_cons_of_mem _ (List.mem_append_left _ (List.mem_of_getElem? (i := 0) rfl)))) (fun _ h9 => h9) rfl (by decide +kernel) rfl rfl (Nat.le_of_ble_eq_true rfl) dX7_clear_2 (fun H locs hP hD hS => ?_)
  have hP : va_P (dC, dI) vwCl [(p_re, .inr (7, [.int re_open, .int re_textAt, .int re_parseAt, .int re_limit, .int 0, .int re_shown, .ref p_re_codes]))] H := hP
  have hD : va_D A [(p_re, .inr (7, [.int re_open, .int re_textAt, .int re_parseAt, .int re_limit, .int 0, .int re_shown, .ref p_re_codes]))] := hD
  exact hR 0 H locs h hP hD hS _ ls dX7_clear_5
def wp_X7_dropLast (re_count : Int32) (K : Int32 → Prop) : Prop :=
  ((re_count ≤ 0) → (K re_count)) ∧ ((¬ re_count ≤ 0) → (∀ v_1 : Int32, v_1 = (re_count - 1) → (K v_1)))
abbrev rmX7_dropLast : Room := { frames := 0, cells := 0, slots := 0, locals := 0 }
set_option maxHeartbeats 4000000 in
set_option maxRecDepth 100000 in
theorem c_X7_dropLast (l : Launch) (dC : Nat → ClassId) (dI : Nat → Nat → Nat) (kI kZ : ClassId) (sz : Nat) (p_re : Nat) (p_re_codes : Nat) (re_open : Int32) (re_textAt : Int32) (re_parseAt : Int32) (re_limit : Int32) (re_shown : Int32) (re_count : Int32) (K : Int32 → Prop) (h : wp_X7_dropLast re_count K) : Met l yX7_dropLast wsX7_dropLast rmX7_dropLast (va_Pc [.ref p_re] (zP (dC, dI) (zT kI kZ) sz [(p_re, .inr (7, [.int re_open, .int re_textAt, .int re_parseAt, .int re_limit, .int re_count, .int re_shown, .ref p_re_codes]))])) (va_Qv (fun (u : Int32) => K u) (fun (u : Int32) => zB (dC, dI) (zT kI kZ) (va_A [(p_re, .inr (7, [.int re_open, .int re_textAt, .int re_parseAt, .int re_limit, .int re_count, .int re_shown, .ref p_re_codes]))] sz) [(p_re, .inr (7, [.int re_open, .int re_textAt, .int re_parseAt, .int re_limit, .int u, .int re_shown, .ref p_re_codes]))]) (va_A [(p_re, .inr (7, [.int re_open, .int re_textAt, .int re_parseAt, .int re_limit, .int re_count, .int re_shown, .ref p_re_codes]))] sz)) 0 0 (va_A [(p_re, .inr (7, [.int re_open, .int re_textAt, .int re_parseAt, .int re_limit, .int re_count, .int re_shown, .ref p_re_codes]))] sz) := by
  refine zz_ofv (cc := cX7_dropLast) (maxL := 1) (by decide) rfl (Nat.le_of_ble_eq_true rfl) ?_
  intro p e s m args below meth c A Q ls hx hb hml hown hts hK hA hR hP hD hS hl
  have hown : s.vm.findClass RX7 = some m.cls := hown
  have hl : lv_has ls 1 [(0, .ref p_re)] := hl
  have hi_X7 : ∀ w ∈ wsX70, w ∈ wsX7_dropLast := fun _ h => (List.mem_cons_of_mem _ (List.mem_append_right _ h))
  unfold wp_X7_dropLast at h
  obtain ⟨H, eH⟩ : ∃ H, H = s.heap := ⟨_, rfl⟩
  obtain ⟨locs, eL⟩ : ∃ L : List Loc, L = [] := ⟨_, rfl⟩
  rw [← eL]
  have hS : va_S A s.heap s.heap locs := by rw [eL]; exact hS
  suffices hgo : ∀ H : Heap, va_P (dC, dI) vwCl [(p_re, .inr (7, [.int re_open, .int re_textAt, .int re_parseAt, .int re_limit, .int re_count, .int re_shown, .ref p_re_codes]))] H → va_S A s.heap H locs → W p l e rmX7_dropLast s m args below meth c H locs 0 0 Q (F0 m 0 ls []) from hgo _ hP hS
  clear hP hS eH H eL
  intro H hP hS
  refine lv_aload_n hx hb dX7_dropLast_0 rfl (lv_at hl 0 rfl) ?_
  refine va_get (D := (dC, dI)) (ci := 7) (v := .int re_count) (C := RX7) (T := TX7) (N := 7) hx hb hts hi_X7 hown hK hP 0 rfl rfl 4 (by decide) (hts (.fieldLink RX7 32 "ZInput$Reading" "count" "I") (List.mem_cons_of_mem _ (List.mem_append_left _ (List.mem_of_getElem? (i := 0) rfl)))) (fun _ h9 => h9) rfl dX7_dropLast_1 ?_
  refine lv_if_le (tgt := 17) hx hb dX7_dropLast_4 (by decide) (fun c_ => ?_) (fun c_ => ?_)
  · have h := h.1 c_
    exact hR re_count H locs h hP hD hS _ ls dX7_dropLast_17
  · have h := h.2 c_
    refine lv_aload_n hx hb dX7_dropLast_7 rfl (lv_at hl 0 rfl) ?_
    refine lv_dup hx hb dX7_dropLast_8 rfl ?_
    refine va_get (D := (dC, dI)) (ci := 7) (v := .int re_count) (C := RX7) (T := TX7) (N := 7) hx hb hts hi_X7 hown hK hP 0 rfl rfl 4 (by decide) (hts (.fieldLink RX7 32 "ZInput$Reading" "count" "I") (List.mem_cons_of_mem _ (List.mem_append_left _ (List.mem_of_getElem? (i := 0) rfl)))) (fun _ h9 => h9) rfl dX7_dropLast_9 ?_
    refine lv_iconst (v := 1) hx hb dX7_dropLast_12 (by decide) ?_
    refine lv_isub hx hb dX7_dropLast_13 ?_
    refine lv_topi (fun v_1 ev_1 => ?_)
    have h := h v_1 ev_1
    refine va_put (D := (dC, dI)) (ci := 7) (v := .int v_1) (ty := .int) (C := RX7) (T := TX7) (N := 7) hx hb hts hi_X7 tyX7 tyX7_ok nmX7 hown hK hP hD hS 0 rfl rfl 4 (by decide) (hts (.fieldLink RX7 32 "ZInput$Reading" "count" "I") (List.mem_cons_of_mem _ (List.mem_append_left _ (List.mem_of_getElem? (i := 0) rfl)))) (fun _ h9 => h9) rfl (by decide +kernel) rfl rfl (Nat.le_of_ble_eq_true rfl) dX7_dropLast_14 (fun H locs hP hD hS => ?_)
    have hP : va_P (dC, dI) vwCl [(p_re, .inr (7, [.int re_open, .int re_textAt, .int re_parseAt, .int re_limit, .int v_1, .int re_shown, .ref p_re_codes]))] H := hP
    have hD : va_D A [(p_re, .inr (7, [.int re_open, .int re_textAt, .int re_parseAt, .int re_limit, .int v_1, .int re_shown, .ref p_re_codes]))] := hD
    exact hR v_1 H locs h hP hD hS _ ls dX7_dropLast_17
def wp_X7_start (re_open : Int32) (re_textAt : Int32) (re_parseAt : Int32) (re_limit : Int32) (re_count : Int32) (re_shown : Int32) (a1 : Int32) (a2 : Int32) (a3 : Int32) (K : Int32 → Int32 → Int32 → Int32 → Int32 → Int32 → Prop) : Prop :=
  K 1 a1 a2 a3 0 (-1)
abbrev rmX7_start : Room := { frames := 0, cells := 0, slots := 0, locals := 0 }
set_option maxHeartbeats 4000000 in
set_option maxRecDepth 100000 in
theorem c_X7_start (l : Launch) (dC : Nat → ClassId) (dI : Nat → Nat → Nat) (kI kZ : ClassId) (sz : Nat) (p_re : Nat) (p_re_codes : Nat) (re_open : Int32) (re_textAt : Int32) (re_parseAt : Int32) (re_limit : Int32) (re_count : Int32) (re_shown : Int32) (a1 : Int32) (a2 : Int32) (a3 : Int32) (K : Int32 → Int32 → Int32 → Int32 → Int32 → Int32 → Prop) (h : wp_X7_start re_open re_textAt re_parseAt re_limit re_count re_shown a1 a2 a3 K) : Met l yX7_start wsX7_start rmX7_start (va_Pc [.ref p_re, .int a1, .int a2, .int a3] (zP (dC, dI) (zT kI kZ) sz [(p_re, .inr (7, [.int re_open, .int re_textAt, .int re_parseAt, .int re_limit, .int re_count, .int re_shown, .ref p_re_codes]))])) (va_Qv (fun (u : Int32 × Int32 × Int32 × Int32 × Int32 × Int32) => K u.1 u.2.1 u.2.2.1 u.2.2.2.1 u.2.2.2.2.1 u.2.2.2.2.2) (fun (u : Int32 × Int32 × Int32 × Int32 × Int32 × Int32) => zB (dC, dI) (zT kI kZ) (va_A [(p_re, .inr (7, [.int re_open, .int re_textAt, .int re_parseAt, .int re_limit, .int re_count, .int re_shown, .ref p_re_codes]))] sz) [(p_re, .inr (7, [.int u.1, .int u.2.1, .int u.2.2.1, .int u.2.2.2.1, .int u.2.2.2.2.1, .int u.2.2.2.2.2, .ref p_re_codes]))]) (va_A [(p_re, .inr (7, [.int re_open, .int re_textAt, .int re_parseAt, .int re_limit, .int re_count, .int re_shown, .ref p_re_codes]))] sz)) 0 0 (va_A [(p_re, .inr (7, [.int re_open, .int re_textAt, .int re_parseAt, .int re_limit, .int re_count, .int re_shown, .ref p_re_codes]))] sz) := by
  refine zz_ofv (cc := cX7_start) (maxL := 4) (by decide) rfl (Nat.le_of_ble_eq_true rfl) ?_
  intro p e s m args below meth c A Q ls hx hb hml hown hts hK hA hR hP hD hS hl
  have hown : s.vm.findClass RX7 = some m.cls := hown
  have hl : lv_has ls 4 [(0, .ref p_re), (1, .int a1), (2, .int a2), (3, .int a3)] := hl
  have hi_X7 : ∀ w ∈ wsX70, w ∈ wsX7_start := fun _ h => (List.mem_cons_of_mem _ (List.mem_append_right _ h))
  unfold wp_X7_start at h
  obtain ⟨H, eH⟩ : ∃ H, H = s.heap := ⟨_, rfl⟩
  obtain ⟨locs, eL⟩ : ∃ L : List Loc, L = [] := ⟨_, rfl⟩
  rw [← eL]
  have hS : va_S A s.heap s.heap locs := by rw [eL]; exact hS
  suffices hgo : ∀ H : Heap, va_P (dC, dI) vwCl [(p_re, .inr (7, [.int re_open, .int re_textAt, .int re_parseAt, .int re_limit, .int re_count, .int re_shown, .ref p_re_codes]))] H → va_S A s.heap H locs → W p l e rmX7_start s m args below meth c H locs 0 0 Q (F0 m 0 ls []) from hgo _ hP hS
  clear hP hS eH H eL
  intro H hP hS
  refine lv_aload_n hx hb dX7_start_0 rfl (lv_at hl 0 rfl) ?_
  refine lv_iconst (v := 1) hx hb dX7_start_1 (by decide) ?_
  refine va_put (D := (dC, dI)) (ci := 7) (v := .int 1) (ty := .boolean) (C := RX7) (T := TX7) (N := 7) hx hb hts hi_X7 tyX7 tyX7_ok nmX7 hown hK hP hD hS 0 rfl rfl 0 (by decide) (hts (.fieldLink RX7 19 "ZInput$Reading" "open" "Z") (List.mem_cons_of_mem _ (List.mem_append_left _ (List.mem_of_getElem? (i := 0) rfl)))) (fun _ h9 => h9) rfl (by decide +kernel) rfl rfl (Nat.le_of_ble_eq_true rfl) dX7_start_2 (fun H locs hP hD hS => ?_)
  have hP : va_P (dC, dI) vwCl [(p_re, .inr (7, [.int 1, .int re_textAt, .int re_parseAt, .int re_limit, .int re_count, .int re_shown, .ref p_re_codes]))] H := hP
  have hD : va_D A [(p_re, .inr (7, [.int 1, .int re_textAt, .int re_parseAt, .int re_limit, .int re_count, .int re_shown, .ref p_re_codes]))] := hD
  refine lv_aload_n hx hb dX7_start_5 rfl (lv_at hl 0 rfl) ?_
  refine lv_iload_n hx hb dX7_start_6 rfl (lv_at hl 1 rfl) ?_
  refine va_put (D := (dC, dI)) (ci := 7) (v := .int a1) (ty := .int) (C := RX7) (T := TX7) (N := 7) hx hb hts hi_X7 tyX7 tyX7_ok nmX7 hown hK hP hD hS 0 rfl rfl 1 (by decide) (hts (.fieldLink RX7 23 "ZInput$Reading" "textAt" "I") (List.mem_cons_of_mem _ (List.mem_append_left _ (List.mem_of_getElem? (i := 1) rfl)))) (fun _ h9 => h9) rfl (by decide +kernel) rfl rfl (Nat.le_of_ble_eq_true rfl) dX7_start_7 (fun H locs hP hD hS => ?_)
  have hP : va_P (dC, dI) vwCl [(p_re, .inr (7, [.int 1, .int a1, .int re_parseAt, .int re_limit, .int re_count, .int re_shown, .ref p_re_codes]))] H := hP
  have hD : va_D A [(p_re, .inr (7, [.int 1, .int a1, .int re_parseAt, .int re_limit, .int re_count, .int re_shown, .ref p_re_codes]))] := hD
  refine lv_aload_n hx hb dX7_start_10 rfl (lv_at hl 0 rfl) ?_
  refine lv_iload_n hx hb dX7_start_11 rfl (lv_at hl 2 rfl) ?_
  refine va_put (D := (dC, dI)) (ci := 7) (v := .int a2) (ty := .int) (C := RX7) (T := TX7) (N := 7) hx hb hts hi_X7 tyX7 tyX7_ok nmX7 hown hK hP hD hS 0 rfl rfl 2 (by decide) (hts (.fieldLink RX7 26 "ZInput$Reading" "parseAt" "I") (List.mem_cons_of_mem _ (List.mem_append_left _ (List.mem_of_getElem? (i := 2) rfl)))) (fun _ h9 => h9) rfl (by decide +kernel) rfl rfl (Nat.le_of_ble_eq_true rfl) dX7_start_12 (fun H locs hP hD hS => ?_)
  have hP : va_P (dC, dI) vwCl [(p_re, .inr (7, [.int 1, .int a1, .int a2, .int re_limit, .int re_count, .int re_shown, .ref p_re_codes]))] H := hP
  have hD : va_D A [(p_re, .inr (7, [.int 1, .int a1, .int a2, .int re_limit, .int re_count, .int re_shown, .ref p_re_codes]))] := hD
  refine lv_aload_n hx hb dX7_start_15 rfl (lv_at hl 0 rfl) ?_
  refine lv_iload_n hx hb dX7_start_16 rfl (lv_at hl 3 rfl) ?_
  refine va_put (D := (dC, dI)) (ci := 7) (v := .int a3) (ty := .int) (C := RX7) (T := TX7) (N := 7) hx hb hts hi_X7 tyX7 tyX7_ok nmX7 hown hK hP hD hS 0 rfl rfl 3 (by decide) (hts (.fieldLink RX7 29 "ZInput$Reading" "limit" "I") (List.mem_cons_of_mem _ (List.mem_append_left _ (List.mem_of_getElem? (i := 3) rfl)))) (fun _ h9 => h9) rfl (by decide +kernel) rfl rfl (Nat.le_of_ble_eq_true rfl) dX7_start_17 (fun H locs hP hD hS => ?_)
  have hP : va_P (dC, dI) vwCl [(p_re, .inr (7, [.int 1, .int a1, .int a2, .int a3, .int re_count, .int re_shown, .ref p_re_codes]))] H := hP
  have hD : va_D A [(p_re, .inr (7, [.int 1, .int a1, .int a2, .int a3, .int re_count, .int re_shown, .ref p_re_codes]))] := hD
  refine lv_aload_n hx hb dX7_start_20 rfl (lv_at hl 0 rfl) ?_
  refine lv_iconst (v := 0) hx hb dX7_start_21 (by decide) ?_
  refine va_put (D := (dC, dI)) (ci := 7) (v := .int 0) (ty := .int) (C := RX7) (T := TX7) (N := 7) hx hb hts hi_X7 tyX7 tyX7_ok nmX7 hown hK hP hD hS 0 rfl rfl 4 (by decide) (hts (.fieldLink RX7 32 "ZInput$Reading" "count" "I") (List.mem_cons_of_mem _ (List.mem_append_left _ (List.mem_of_getElem? (i := 4) rfl)))) (fun _ h9 => h9) rfl (by decide +kernel) rfl rfl (Nat.le_of_ble_eq_true rfl) dX7_start_22 (fun H locs hP hD hS => ?_)
  have hP : va_P (dC, dI) vwCl [(p_re, .inr (7, [.int 1, .int a1, .int a2, .int a3, .int 0, .int re_shown, .ref p_re_codes]))] H := hP
  have hD : va_D A [(p_re, .inr (7, [.int 1, .int a1, .int a2, .int a3, .int 0, .int re_shown, .ref p_re_codes]))] := hD
  refine lv_aload_n hx hb dX7_start_25 rfl (lv_at hl 0 rfl) ?_
  refine lv_iconst (v := (-1)) hx hb dX7_start_26 (by decide) ?_
  refine va_put (D := (dC, dI)) (ci := 7) (v := .int (-1)) (ty := .int) (C := RX7) (T := TX7) (N := 7) hx hb hts hi_X7 tyX7 tyX7_ok nmX7 hown hK hP hD hS 0 rfl rfl 5 (by decide) (hts (.fieldLink RX7 11 "ZInput$Reading" "shown" "I") (List.mem_cons_of_mem _ (List.mem_append_left _ (List.mem_of_getElem? (i := 5) rfl)))) (fun _ h9 => h9) rfl (by decide +kernel) rfl rfl (Nat.le_of_ble_eq_true rfl) dX7_start_27 (fun H locs hP hD hS => ?_)
  have hP : va_P (dC, dI) vwCl [(p_re, .inr (7, [.int 1, .int a1, .int a2, .int a3, .int 0, .int (-1), .ref p_re_codes]))] H := hP
  have hD : va_D A [(p_re, .inr (7, [.int 1, .int a1, .int a2, .int a3, .int 0, .int (-1), .ref p_re_codes]))] := hD
  exact hR (1, a1, a2, a3, 0, (-1)) H locs h hP hD hS _ ls dX7_start_30
def wp_X8_add (sc_count : Int32) (sc_first : Int32) (sc_codes : Nat → Int32) (a1 : Int32) (K : Int32 → Int32 → (Nat → Int32) → Prop) : Prop :=
  ∀ v_1 : Int32, v_1 = ((sc_first + sc_count) - (sc_first + sc_count) / 300 * 300) → (((300 ≤ sc_count) → (K 0 sc_count sc_codes)) ∧ ((¬ 300 ≤ sc_count) → (((v_1 < 0) → (K 0 sc_count sc_codes)) ∧ ((¬ v_1 < 0) → (((v_1 < 300) → (vp_in v_1 300 ∧ (∀ v_2 : Int32, v_2 = (sc_count + 1) → (K 1 v_2 (upd sc_codes (Int32.toNatClampNeg v_1) a1))))) ∧ ((¬ v_1 < 300) → (K 0 sc_count sc_codes)))))))
abbrev rmX8_add : Room := { frames := 0, cells := 0, slots := 0, locals := 0 }
set_option maxHeartbeats 4000000 in
set_option maxRecDepth 100000 in
theorem c_X8_add (l : Launch) (dC : Nat → ClassId) (dI : Nat → Nat → Nat) (kI kZ : ClassId) (sz : Nat) (p_sc : Nat) (p_sc_codes : Nat) (sc_count : Int32) (sc_first : Int32) (sc_codes : Nat → Int32) (a1 : Int32) (K : Int32 → Int32 → (Nat → Int32) → Prop) (h : wp_X8_add sc_count sc_first sc_codes a1 K) : Met l yX8_add wsX8_add rmX8_add (va_Pc [.ref p_sc, .int a1] (zP (dC, dI) (zT kI kZ) sz [(p_sc, .inr (8, [.int sc_count, .int sc_first, .ref p_sc_codes])), (p_sc_codes, .inl (kI, 300, .inl sc_codes))])) (va_Qi (fun (r : Int32) (u : Int32 × (Nat → Int32)) => K r u.1 u.2) (fun (u : Int32 × (Nat → Int32)) => zB (dC, dI) (zT kI kZ) (va_A [(p_sc, .inr (8, [.int sc_count, .int sc_first, .ref p_sc_codes])), (p_sc_codes, .inl (kI, 300, .inl sc_codes))] sz) [(p_sc, .inr (8, [.int u.1, .int sc_first, .ref p_sc_codes])), (p_sc_codes, .inl (kI, 300, .inl u.2))]) (va_A [(p_sc, .inr (8, [.int sc_count, .int sc_first, .ref p_sc_codes])), (p_sc_codes, .inl (kI, 300, .inl sc_codes))] sz)) 0 0 (va_A [(p_sc, .inr (8, [.int sc_count, .int sc_first, .ref p_sc_codes])), (p_sc_codes, .inl (kI, 300, .inl sc_codes))] sz) := by
  refine zz_ofz (cc := cX8_add) (maxL := 3) (by decide) rfl (Nat.le_of_ble_eq_true rfl) ?_
  intro p e s m args below meth c A Q ls hx hb hml hown hts hK hA hR hP hD hS hl
  have hown : s.vm.findClass RX8 = some m.cls := hown
  have hl : lv_has ls 3 [(0, .ref p_sc), (1, .int a1)] := hl
  have hi_X8 : ∀ w ∈ wsX80, w ∈ wsX8_add := fun _ h => (List.mem_cons_of_mem _ (List.mem_append_right _ h))
  unfold wp_X8_add at h
  obtain ⟨H, eH⟩ : ∃ H, H = s.heap := ⟨_, rfl⟩
  obtain ⟨locs, eL⟩ : ∃ L : List Loc, L = [] := ⟨_, rfl⟩
  rw [← eL]
  have hS : va_S A s.heap s.heap locs := by rw [eL]; exact hS
  suffices hgo : ∀ H : Heap, va_P (dC, dI) vwCl [(p_sc, .inr (8, [.int sc_count, .int sc_first, .ref p_sc_codes])), (p_sc_codes, .inl (kI, 300, .inl sc_codes))] H → va_S A s.heap H locs → W p l e rmX8_add s m args below meth c H locs 0 0 Q (F0 m 0 ls []) from hgo _ hP hS
  clear hP hS eH H eL
  intro H hP hS
  refine lv_aload_n hx hb dX8_add_0 rfl (lv_at hl 0 rfl) ?_
  refine va_get (D := (dC, dI)) (ci := 8) (v := .int sc_first) (C := RX8) (T := TX8) (N := 3) hx hb hts hi_X8 hown hK hP 0 rfl rfl 1 (by decide) (hts (.fieldLink RX8 13 "ZInput$Script" "first" "I") (List.mem_cons_of_mem _ (List.mem_append_left _ (List.mem_of_getElem? (i := 0) rfl)))) (fun _ h9 => h9) rfl dX8_add_1 ?_
  refine lv_aload_n hx hb dX8_add_4 rfl (lv_at hl 0 rfl) ?_
  refine va_get (D := (dC, dI)) (ci := 8) (v := .int sc_count) (C := RX8) (T := TX8) (N := 3) hx hb hts hi_X8 hown hK hP 0 rfl rfl 0 (by decide) (hts (.fieldLink RX8 17 "ZInput$Script" "count" "I") (List.mem_cons_of_mem _ (List.mem_append_left _ (List.mem_of_getElem? (i := 1) rfl)))) (fun _ h9 => h9) rfl dX8_add_5 ?_
  refine lv_iadd hx hb dX8_add_8 ?_
  refine lv_sipush (v := 300) hx hb dX8_add_9 (by decide) ?_
  refine lv_irem hx hb dX8_add_12 (by decide) ?_
  refine lv_topi (fun v_1 ev_1 => ?_)
  have h := h v_1 ev_1
  refine lv_istore_n (lv' := [(2, .int v_1), (0, .ref p_sc), (1, .int a1)]) hx hb dX8_add_13 rfl hl (by decide) rfl (fun ls hl => ?_)
  refine lv_aload_n hx hb dX8_add_14 rfl (lv_at hl 1 rfl) ?_
  refine va_get (D := (dC, dI)) (ci := 8) (v := .int sc_count) (C := RX8) (T := TX8) (N := 3) hx hb hts hi_X8 hown hK hP 0 rfl rfl 0 (by decide) (hts (.fieldLink RX8 17 "ZInput$Script" "count" "I") (List.mem_cons_of_mem _ (List.mem_append_left _ (List.mem_of_getElem? (i := 1) rfl)))) (fun _ h9 => h9) rfl dX8_add_15 ?_
  refine lv_sipush (v := 300) hx hb dX8_add_18 (by decide) ?_
  refine lv_icmp_ge (tgt := 37) hx hb dX8_add_21 (by decide) (fun c_ => ?_) (fun c_ => ?_)
  · have h := h.1 c_
    refine lv_iconst (v := 0) hx hb dX8_add_37 (by decide) ?_
    exact hR 0 (sc_count, sc_codes) H locs (Or.inl rfl) h hP hD hS _ ls dX8_add_38
  · have h := h.2 c_
    refine lv_iload_n hx hb dX8_add_24 rfl (lv_at hl 0 rfl) ?_
    refine lv_if_lt (tgt := 37) hx hb dX8_add_25 (by decide) (fun c_ => ?_) (fun c_ => ?_)
    · have h := h.1 c_
      refine lv_iconst (v := 0) hx hb dX8_add_37 (by decide) ?_
      exact hR 0 (sc_count, sc_codes) H locs (Or.inl rfl) h hP hD hS _ ls dX8_add_38
    · have h := h.2 c_
      refine lv_iload_n hx hb dX8_add_28 rfl (lv_at hl 0 rfl) ?_
      refine lv_aload_n hx hb dX8_add_29 rfl (lv_at hl 1 rfl) ?_
      refine va_get (D := (dC, dI)) (ci := 8) (v := .ref p_sc_codes) (C := RX8) (T := TX8) (N := 3) hx hb hts hi_X8 hown hK hP 0 rfl rfl 2 (by decide) (hts (.fieldLink RX8 9 "ZInput$Script" "codes" "[I") (List.mem_cons_of_mem _ (List.mem_append_left _ (List.mem_of_getElem? (i := 2) rfl)))) (fun _ h9 => h9) rfl dX8_add_30 ?_
      refine va_alen (v := 300) hx hb hK hP 1 0 rfl rfl rfl dX8_add_33 ?_
      refine lv_icmp_lt (tgt := 39) hx hb dX8_add_34 (by decide) (fun c_ => ?_) (fun c_ => ?_)
      · have h := h.1 c_
        refine lv_aload_n hx hb dX8_add_39 rfl (lv_at hl 1 rfl) ?_
        refine va_get (D := (dC, dI)) (ci := 8) (v := .ref p_sc_codes) (C := RX8) (T := TX8) (N := 3) hx hb hts hi_X8 hown hK hP 0 rfl rfl 2 (by decide) (hts (.fieldLink RX8 9 "ZInput$Script" "codes" "[I") (List.mem_cons_of_mem _ (List.mem_append_left _ (List.mem_of_getElem? (i := 2) rfl)))) (fun _ h9 => h9) rfl dX8_add_40 ?_
        refine lv_iload_n hx hb dX8_add_43 rfl (lv_at hl 0 rfl) ?_
        refine lv_iload_n hx hb dX8_add_44 rfl (lv_at hl 2 rfl) ?_
        have hi := h.1
        have h := h.2
        refine va_iast hx hb hK hP hD hS 1 0 rfl rfl hi dX8_add_45 (fun H locs hP hD hS => ?_)
        have hP : va_P (dC, dI) vwCl [(p_sc, .inr (8, [.int sc_count, .int sc_first, .ref p_sc_codes])), (p_sc_codes, .inl (kI, 300, .inl (upd sc_codes (Int32.toNatClampNeg v_1) a1)))] H := hP
        have hD : va_D A [(p_sc, .inr (8, [.int sc_count, .int sc_first, .ref p_sc_codes])), (p_sc_codes, .inl (kI, 300, .inl (upd sc_codes (Int32.toNatClampNeg v_1) a1)))] := hD
        refine lv_aload_n hx hb dX8_add_46 rfl (lv_at hl 1 rfl) ?_
        refine lv_dup hx hb dX8_add_47 rfl ?_
        refine va_get (D := (dC, dI)) (ci := 8) (v := .int sc_count) (C := RX8) (T := TX8) (N := 3) hx hb hts hi_X8 hown hK hP 0 rfl rfl 0 (by decide) (hts (.fieldLink RX8 17 "ZInput$Script" "count" "I") (List.mem_cons_of_mem _ (List.mem_append_left _ (List.mem_of_getElem? (i := 1) rfl)))) (fun _ h9 => h9) rfl dX8_add_48 ?_
        refine lv_iconst (v := 1) hx hb dX8_add_51 (by decide) ?_
        refine lv_iadd hx hb dX8_add_52 ?_
        refine lv_topi (fun v_2 ev_2 => ?_)
        have h := h v_2 ev_2
        refine va_put (D := (dC, dI)) (ci := 8) (v := .int v_2) (ty := .int) (C := RX8) (T := TX8) (N := 3) hx hb hts hi_X8 tyX8 tyX8_ok nmX8 hown hK hP hD hS 0 rfl rfl 0 (by decide) (hts (.fieldLink RX8 17 "ZInput$Script" "count" "I") (List.mem_cons_of_mem _ (List.mem_append_left _ (List.mem_of_getElem? (i := 1) rfl)))) (fun _ h9 => h9) rfl (by decide +kernel) rfl rfl (Nat.le_of_ble_eq_true rfl) dX8_add_53 (fun H locs hP hD hS => ?_)
        have hP : va_P (dC, dI) vwCl [(p_sc, .inr (8, [.int v_2, .int sc_first, .ref p_sc_codes])), (p_sc_codes, .inl (kI, 300, .inl (upd sc_codes (Int32.toNatClampNeg v_1) a1)))] H := hP
        have hD : va_D A [(p_sc, .inr (8, [.int v_2, .int sc_first, .ref p_sc_codes])), (p_sc_codes, .inl (kI, 300, .inl (upd sc_codes (Int32.toNatClampNeg v_1) a1)))] := hD
        refine lv_iconst (v := 1) hx hb dX8_add_56 (by decide) ?_
        exact hR 1 (v_2, (upd sc_codes (Int32.toNatClampNeg v_1) a1)) H locs (Or.inr rfl) h hP hD hS _ ls dX8_add_57
      · have h := h.2 c_
        refine lv_iconst (v := 0) hx hb dX8_add_37 (by decide) ?_
        exact hR 0 (sc_count, sc_codes) H locs (Or.inl rfl) h hP hD hS _ ls dX8_add_38
def wp_X8_takeFirst (sc_count : Int32) (sc_first : Int32) (sc_codes : Nat → Int32) (K : Int32 → Int32 → Int32 → Prop) : Prop :=
  ((sc_count ≤ 0) → (K 0 sc_count sc_first)) ∧ ((¬ sc_count ≤ 0) → (((sc_first < 0) → (K 0 sc_count sc_first)) ∧ ((¬ sc_first < 0) → (((sc_first < 300) → (vp_in sc_first 300 ∧ (∀ v_1 : Int32, v_1 = (sc_codes (Int32.toNatClampNeg sc_first)) → (∀ v_2 : Int32, v_2 = ((sc_first + 1) - (sc_first + 1) / 300 * 300) → (∀ v_3 : Int32, v_3 = (sc_count - 1) → (K v_1 v_3 v_2)))))) ∧ ((¬ sc_first < 300) → (K 0 sc_count sc_first))))))
abbrev rmX8_takeFirst : Room := { frames := 0, cells := 0, slots := 0, locals := 0 }
set_option maxHeartbeats 4000000 in
set_option maxRecDepth 100000 in
theorem c_X8_takeFirst (l : Launch) (dC : Nat → ClassId) (dI : Nat → Nat → Nat) (kI kZ : ClassId) (sz : Nat) (p_sc : Nat) (p_sc_codes : Nat) (sc_count : Int32) (sc_first : Int32) (sc_codes : Nat → Int32) (K : Int32 → Int32 → Int32 → Prop) (h : wp_X8_takeFirst sc_count sc_first sc_codes K) : Met l yX8_takeFirst wsX8_takeFirst rmX8_takeFirst (va_Pc [.ref p_sc] (zP (dC, dI) (zT kI kZ) sz [(p_sc, .inr (8, [.int sc_count, .int sc_first, .ref p_sc_codes])), (p_sc_codes, .inl (kI, 300, .inl sc_codes))])) (va_Qi (fun (r : Int32) (u : Int32 × Int32) => K r u.1 u.2) (fun (u : Int32 × Int32) => zB (dC, dI) (zT kI kZ) (va_A [(p_sc, .inr (8, [.int sc_count, .int sc_first, .ref p_sc_codes])), (p_sc_codes, .inl (kI, 300, .inl sc_codes))] sz) [(p_sc, .inr (8, [.int u.1, .int u.2, .ref p_sc_codes])), (p_sc_codes, .inl (kI, 300, .inl sc_codes))]) (va_A [(p_sc, .inr (8, [.int sc_count, .int sc_first, .ref p_sc_codes])), (p_sc_codes, .inl (kI, 300, .inl sc_codes))] sz)) 0 0 (va_A [(p_sc, .inr (8, [.int sc_count, .int sc_first, .ref p_sc_codes])), (p_sc_codes, .inl (kI, 300, .inl sc_codes))] sz) := by
  refine zz_ofi (cc := cX8_takeFirst) (maxL := 2) (by decide) rfl (Nat.le_of_ble_eq_true rfl) ?_
  intro p e s m args below meth c A Q ls hx hb hml hown hts hK hA hR hP hD hS hl
  have hown : s.vm.findClass RX8 = some m.cls := hown
  have hl : lv_has ls 2 [(0, .ref p_sc)] := hl
  have hi_X8 : ∀ w ∈ wsX80, w ∈ wsX8_takeFirst := fun _ h => (List.mem_cons_of_mem _ (List.mem_append_right _ h))
  unfold wp_X8_takeFirst at h
  obtain ⟨H, eH⟩ : ∃ H, H = s.heap := ⟨_, rfl⟩
  obtain ⟨locs, eL⟩ : ∃ L : List Loc, L = [] := ⟨_, rfl⟩
  rw [← eL]
  have hS : va_S A s.heap s.heap locs := by rw [eL]; exact hS
  suffices hgo : ∀ H : Heap, va_P (dC, dI) vwCl [(p_sc, .inr (8, [.int sc_count, .int sc_first, .ref p_sc_codes])), (p_sc_codes, .inl (kI, 300, .inl sc_codes))] H → va_S A s.heap H locs → W p l e rmX8_takeFirst s m args below meth c H locs 0 0 Q (F0 m 0 ls []) from hgo _ hP hS
  clear hP hS eH H eL
  intro H hP hS
  refine lv_aload_n hx hb dX8_takeFirst_0 rfl (lv_at hl 0 rfl) ?_
  refine va_get (D := (dC, dI)) (ci := 8) (v := .int sc_count) (C := RX8) (T := TX8) (N := 3) hx hb hts hi_X8 hown hK hP 0 rfl rfl 0 (by decide) (hts (.fieldLink RX8 17 "ZInput$Script" "count" "I") (List.mem_cons_of_mem _ (List.mem_append_left _ (List.mem_of_getElem? (i := 0) rfl)))) (fun _ h9 => h9) rfl dX8_takeFirst_1 ?_
  refine lv_if_le (tgt := 26) hx hb dX8_takeFirst_4 (by decide) (fun c_ => ?_) (fun c_ => ?_)
  · have h := h.1 c_
    refine lv_iconst (v := 0) hx hb dX8_takeFirst_26 (by decide) ?_
    exact hR 0 (sc_count, sc_first) H locs h hP hD hS _ ls dX8_takeFirst_27
  · have h := h.2 c_
    refine lv_aload_n hx hb dX8_takeFirst_7 rfl (lv_at hl 0 rfl) ?_
    refine va_get (D := (dC, dI)) (ci := 8) (v := .int sc_first) (C := RX8) (T := TX8) (N := 3) hx hb hts hi_X8 hown hK hP 0 rfl rfl 1 (by decide) (hts (.fieldLink RX8 13 "ZInput$Script" "first" "I") (List.mem_cons_of_mem _ (List.mem_append_left _ (List.mem_of_getElem? (i := 1) rfl)))) (fun _ h9 => h9) rfl dX8_takeFirst_8 ?_
    refine lv_if_lt (tgt := 26) hx hb dX8_takeFirst_11 (by decide) (fun c_ => ?_) (fun c_ => ?_)
    · have h := h.1 c_
      refine lv_iconst (v := 0) hx hb dX8_takeFirst_26 (by decide) ?_
      exact hR 0 (sc_count, sc_first) H locs h hP hD hS _ ls dX8_takeFirst_27
    · have h := h.2 c_
      refine lv_aload_n hx hb dX8_takeFirst_14 rfl (lv_at hl 0 rfl) ?_
      refine va_get (D := (dC, dI)) (ci := 8) (v := .int sc_first) (C := RX8) (T := TX8) (N := 3) hx hb hts hi_X8 hown hK hP 0 rfl rfl 1 (by decide) (hts (.fieldLink RX8 13 "ZInput$Script" "first" "I") (List.mem_cons_of_mem _ (List.mem_append_left _ (List.mem_of_getElem? (i := 1) rfl)))) (fun _ h9 => h9) rfl dX8_takeFirst_15 ?_
      refine lv_aload_n hx hb dX8_takeFirst_18 rfl (lv_at hl 0 rfl) ?_
      refine va_get (D := (dC, dI)) (ci := 8) (v := .ref p_sc_codes) (C := RX8) (T := TX8) (N := 3) hx hb hts hi_X8 hown hK hP 0 rfl rfl 2 (by decide) (hts (.fieldLink RX8 9 "ZInput$Script" "codes" "[I") (List.mem_cons_of_mem _ (List.mem_append_left _ (List.mem_of_getElem? (i := 2) rfl)))) (fun _ h9 => h9) rfl dX8_takeFirst_19 ?_
      refine va_alen (v := 300) hx hb hK hP 1 0 rfl rfl rfl dX8_takeFirst_22 ?_
      refine lv_icmp_lt (tgt := 28) hx hb dX8_takeFirst_23 (by decide) (fun c_ => ?_) (fun c_ => ?_)
      · have h := h.1 c_
        refine lv_aload_n hx hb dX8_takeFirst_28 rfl (lv_at hl 0 rfl) ?_
        refine va_get (D := (dC, dI)) (ci := 8) (v := .ref p_sc_codes) (C := RX8) (T := TX8) (N := 3) hx hb hts hi_X8 hown hK hP 0 rfl rfl 2 (by decide) (hts (.fieldLink RX8 9 "ZInput$Script" "codes" "[I") (List.mem_cons_of_mem _ (List.mem_append_left _ (List.mem_of_getElem? (i := 2) rfl)))) (fun _ h9 => h9) rfl dX8_takeFirst_29 ?_
        refine lv_aload_n hx hb dX8_takeFirst_32 rfl (lv_at hl 0 rfl) ?_
        refine va_get (D := (dC, dI)) (ci := 8) (v := .int sc_first) (C := RX8) (T := TX8) (N := 3) hx hb hts hi_X8 hown hK hP 0 rfl rfl 1 (by decide) (hts (.fieldLink RX8 13 "ZInput$Script" "first" "I") (List.mem_cons_of_mem _ (List.mem_append_left _ (List.mem_of_getElem? (i := 1) rfl)))) (fun _ h9 => h9) rfl dX8_takeFirst_33 ?_
        have hi := h.1
        have h := h.2
        refine va_iald hx hb hK hP 1 0 rfl rfl hi dX8_takeFirst_36 ?_
        refine lv_topi (fun v_1 ev_1 => ?_)
        have h := h v_1 ev_1
        refine lv_istore_n (lv' := [(1, .int v_1), (0, .ref p_sc)]) hx hb dX8_takeFirst_37 rfl hl (by decide) rfl (fun ls hl => ?_)
        refine lv_aload_n hx hb dX8_takeFirst_38 rfl (lv_at hl 1 rfl) ?_
        refine lv_aload_n hx hb dX8_takeFirst_39 rfl (lv_at hl 1 rfl) ?_
        refine va_get (D := (dC, dI)) (ci := 8) (v := .int sc_first) (C := RX8) (T := TX8) (N := 3) hx hb hts hi_X8 hown hK hP 0 rfl rfl 1 (by decide) (hts (.fieldLink RX8 13 "ZInput$Script" "first" "I") (List.mem_cons_of_mem _ (List.mem_append_left _ (List.mem_of_getElem? (i := 1) rfl)))) (fun _ h9 => h9) rfl dX8_takeFirst_40 ?_
        refine lv_iconst (v := 1) hx hb dX8_takeFirst_43 (by decide) ?_
        refine lv_iadd hx hb dX8_takeFirst_44 ?_
        refine lv_sipush (v := 300) hx hb dX8_takeFirst_45 (by decide) ?_
        refine lv_irem hx hb dX8_takeFirst_48 (by decide) ?_
        refine lv_topi (fun v_2 ev_2 => ?_)
        have h := h v_2 ev_2
        refine va_put (D := (dC, dI)) (ci := 8) (v := .int v_2) (ty := .int) (C := RX8) (T := TX8) (N := 3) hx hb hts hi_X8 tyX8 tyX8_ok nmX8 hown hK hP hD hS 0 rfl rfl 1 (by decide) (hts (.fieldLink RX8 13 "ZInput$Script" "first" "I") (List.mem_cons_of_mem _ (List.mem_append_left _ (List.mem_of_getElem? (i := 1) rfl)))) (fun _ h9 => h9) rfl (by decide +kernel) rfl rfl (Nat.le_of_ble_eq_true rfl) dX8_takeFirst_49 (fun H locs hP hD hS => ?_)
        have hP : va_P (dC, dI) vwCl [(p_sc, .inr (8, [.int sc_count, .int v_2, .ref p_sc_codes])), (p_sc_codes, .inl (kI, 300, .inl sc_codes))] H := hP
        have hD : va_D A [(p_sc, .inr (8, [.int sc_count, .int v_2, .ref p_sc_codes])), (p_sc_codes, .inl (kI, 300, .inl sc_codes))] := hD
        refine lv_aload_n hx hb dX8_takeFirst_52 rfl (lv_at hl 1 rfl) ?_
        refine lv_dup hx hb dX8_takeFirst_53 rfl ?_
        refine va_get (D := (dC, dI)) (ci := 8) (v := .int sc_count) (C := RX8) (T := TX8) (N := 3) hx hb hts hi_X8 hown hK hP 0 rfl rfl 0 (by decide) (hts (.fieldLink RX8 17 "ZInput$Script" "count" "I") (List.mem_cons_of_mem _ (List.mem_append_left _ (List.mem_of_getElem? (i := 0) rfl)))) (fun _ h9 => h9) rfl dX8_takeFirst_54 ?_
        refine lv_iconst (v := 1) hx hb dX8_takeFirst_57 (by decide) ?_
        refine lv_isub hx hb dX8_takeFirst_58 ?_
        refine lv_topi (fun v_3 ev_3 => ?_)
        have h := h v_3 ev_3
        refine va_put (D := (dC, dI)) (ci := 8) (v := .int v_3) (ty := .int) (C := RX8) (T := TX8) (N := 3) hx hb hts hi_X8 tyX8 tyX8_ok nmX8 hown hK hP hD hS 0 rfl rfl 0 (by decide) (hts (.fieldLink RX8 17 "ZInput$Script" "count" "I") (List.mem_cons_of_mem _ (List.mem_append_left _ (List.mem_of_getElem? (i := 0) rfl)))) (fun _ h9 => h9) rfl (by decide +kernel) rfl rfl (Nat.le_of_ble_eq_true rfl) dX8_takeFirst_59 (fun H locs hP hD hS => ?_)
        have hP : va_P (dC, dI) vwCl [(p_sc, .inr (8, [.int v_3, .int v_2, .ref p_sc_codes])), (p_sc_codes, .inl (kI, 300, .inl sc_codes))] H := hP
        have hD : va_D A [(p_sc, .inr (8, [.int v_3, .int v_2, .ref p_sc_codes])), (p_sc_codes, .inl (kI, 300, .inl sc_codes))] := hD
        refine lv_iload_n hx hb dX8_takeFirst_62 rfl (lv_at hl 0 rfl) ?_
        exact hR v_1 (v_3, v_2) H locs h hP hD hS _ ls dX8_takeFirst_63
      · have h := h.2 c_
        refine lv_iconst (v := 0) hx hb dX8_takeFirst_26 (by decide) ?_
        exact hR 0 (sc_count, sc_first) H locs h hP hD hS _ ls dX8_takeFirst_27
def wp_X9_at (me_octets : Nat → Int32) (a1 : Int32) (K : Int32 → Prop) : Prop :=
  wp_X4_holds a1 1 (fun (r_1 : Int32) => ((r_1 = 0) → (K (-3))) ∧ ((¬ r_1 = 0) → (wp_X4_octet me_octets a1 (fun (r_2 : Int32) => K r_2))))
abbrev rmX9_at : Room := { frames := 1, cells := 0, slots := 0, locals := 22 }
set_option maxHeartbeats 4000000 in
set_option maxRecDepth 100000 in
theorem c_X9_at (l : Launch) (dC : Nat → ClassId) (dI : Nat → Nat → Nat) (kI kZ : ClassId) (sz : Nat) (p_z : Nat) (p_me : Nat) (p_pa : Nat) (p_di : Nat) (p_pr : Nat) (p_re : Nat) (p_cl : Nat) (p_li : Nat) (p_ec : Nat) (p_sc : Nat) (p_me_octets : Nat) (z_version : Int32) (z_dictionaryAt : Int32) (z_tableAt : Int32) (z_ended : Int32) (me_octets : Nat → Int32) (a1 : Int32) (K : Int32 → Prop) (h : wp_X9_at me_octets a1 K) : Met l yX9_at wsX9_at rmX9_at (va_Pc [.ref p_z, .int a1] (zP (dC, dI) (zT kI kZ) sz [(p_z, .inr (9, [.int z_version, .ref p_me, .ref p_pa, .ref p_di, .ref p_pr, .ref p_re, .ref p_cl, .ref p_li, .ref p_ec, .ref p_sc, .int z_dictionaryAt, .int z_tableAt, .int z_ended])), (p_me, .inr (4, [.ref p_me_octets])), (p_me_octets, .inl (kI, 4096, .inl me_octets))])) (va_Qi (fun (r : Int32) (u : Unit) => K r) (fun (u : Unit) => zB (dC, dI) (zT kI kZ) (va_A [(p_z, .inr (9, [.int z_version, .ref p_me, .ref p_pa, .ref p_di, .ref p_pr, .ref p_re, .ref p_cl, .ref p_li, .ref p_ec, .ref p_sc, .int z_dictionaryAt, .int z_tableAt, .int z_ended])), (p_me, .inr (4, [.ref p_me_octets])), (p_me_octets, .inl (kI, 4096, .inl me_octets))] sz) [(p_z, .inr (9, [.int z_version, .ref p_me, .ref p_pa, .ref p_di, .ref p_pr, .ref p_re, .ref p_cl, .ref p_li, .ref p_ec, .ref p_sc, .int z_dictionaryAt, .int z_tableAt, .int z_ended])), (p_me, .inr (4, [.ref p_me_octets])), (p_me_octets, .inl (kI, 4096, .inl me_octets))]) (va_A [(p_z, .inr (9, [.int z_version, .ref p_me, .ref p_pa, .ref p_di, .ref p_pr, .ref p_re, .ref p_cl, .ref p_li, .ref p_ec, .ref p_sc, .int z_dictionaryAt, .int z_tableAt, .int z_ended])), (p_me, .inr (4, [.ref p_me_octets])), (p_me_octets, .inl (kI, 4096, .inl me_octets))] sz)) 0 0 (va_A [(p_z, .inr (9, [.int z_version, .ref p_me, .ref p_pa, .ref p_di, .ref p_pr, .ref p_re, .ref p_cl, .ref p_li, .ref p_ec, .ref p_sc, .int z_dictionaryAt, .int z_tableAt, .int z_ended])), (p_me, .inr (4, [.ref p_me_octets])), (p_me_octets, .inl (kI, 4096, .inl me_octets))] sz) := by
  refine zz_ofi (cc := cX9_at) (maxL := 2) (by decide) rfl (Nat.le_of_ble_eq_true rfl) ?_
  intro p e s m args below meth c A Q ls hx hb hml hown hts hK hA hR hP hD hS hl
  have hown : s.vm.findClass RX9 = some m.cls := hown
  have hl : lv_has ls 2 [(0, .ref p_z), (1, .int a1)] := hl
  have hi_X9 : ∀ w ∈ wsX90, w ∈ wsX9_at := fun _ h => (List.mem_cons_of_mem _ (List.mem_append_left _ (List.mem_append_right _ h)))
  unfold wp_X9_at at h
  obtain ⟨H, eH⟩ : ∃ H, H = s.heap := ⟨_, rfl⟩
  obtain ⟨locs, eL⟩ : ∃ L : List Loc, L = [] := ⟨_, rfl⟩
  rw [← eL]
  have hS : va_S A s.heap s.heap locs := by rw [eL]; exact hS
  suffices hgo : ∀ H : Heap, va_P (dC, dI) vwCl [(p_z, .inr (9, [.int z_version, .ref p_me, .ref p_pa, .ref p_di, .ref p_pr, .ref p_re, .ref p_cl, .ref p_li, .ref p_ec, .ref p_sc, .int z_dictionaryAt, .int z_tableAt, .int z_ended])), (p_me, .inr (4, [.ref p_me_octets])), (p_me_octets, .inl (kI, 4096, .inl me_octets))] H → va_S A s.heap H locs → W p l e rmX9_at s m args below meth c H locs 0 0 Q (F0 m 0 ls []) from hgo _ hP hS
  clear hP hS eH H eL
  intro H hP hS
  refine lv_aload_n hx hb dX9_at_0 rfl (lv_at hl 0 rfl) ?_
  refine va_get (D := (dC, dI)) (ci := 9) (v := .ref p_me) (C := RX9) (T := TX9) (N := 13) hx hb hts hi_X9 hown hK hP 0 rfl rfl 1 (by decide) (hts (.fieldLink RX9 27 "ZInput" "memory" "LZInput$Memory;") (List.mem_cons_of_mem _ (List.mem_append_left _ (List.mem_append_left _ (List.mem_of_getElem? (i := 0) rfl))))) (fun _ h9 => h9) rfl dX9_at_1 ?_
  refine lv_iload_n hx hb dX9_at_4 rfl (lv_at hl 1 rfl) ?_
  refine lv_iconst (v := 1) hx hb dX9_at_5 (by decide) ?_
  refine zz_Vi (As := [.int a1, .int 1]) (rest := []) (wr := [(p_z, .inr (9, [.int z_version, .ref p_me, .ref p_pa, .ref p_di, .ref p_pr, .ref p_re, .ref p_cl, .ref p_li, .ref p_ec, .ref p_sc, .int z_dictionaryAt, .int z_tableAt, .int z_ended])), (p_me_octets, .inl (kI, 4096, .inl me_octets))]) ⟨hx, hb, hml, hown, hts⟩ (cwV 2 hts gX9_at_X4_holds rfl rfl rfl (by decide +kernel) ⟨Nat.le_of_ble_eq_true rfl, Nat.le_of_ble_eq_true rfl⟩) hK hP hD hS hA (c_X4_holds l dC dI kI kZ H.size p_me p_me_octets a1 1 _ h) [1] [0, 2] rfl rfl rfl rfl (by decide) 0 rfl rfl rfl rfl hl.1 (Nat.le_of_ble_eq_true rfl) dX9_at_6 (Nat.le_refl _) (Nat.le_refl _) (fun r_1 u_1 H locs h hP hD hS => ?_)
  have hP : va_P (dC, dI) vwCl [(p_z, .inr (9, [.int z_version, .ref p_me, .ref p_pa, .ref p_di, .ref p_pr, .ref p_re, .ref p_cl, .ref p_li, .ref p_ec, .ref p_sc, .int z_dictionaryAt, .int z_tableAt, .int z_ended])), (p_me, .inr (4, [.ref p_me_octets])), (p_me_octets, .inl (kI, 4096, .inl me_octets))] H := hP.sub [0, 2, 1] rfl
  have hD : va_D A [(p_z, .inr (9, [.int z_version, .ref p_me, .ref p_pa, .ref p_di, .ref p_pr, .ref p_re, .ref p_cl, .ref p_li, .ref p_ec, .ref p_sc, .int z_dictionaryAt, .int z_tableAt, .int z_ended])), (p_me, .inr (4, [.ref p_me_octets])), (p_me_octets, .inl (kI, 4096, .inl me_octets))] := hD.sub [0, 2, 1] rfl rfl
  refine lv_if_eq (tgt := 23) hx hb dX9_at_9 (by decide) (fun c_ => ?_) (fun c_ => ?_)
  · have h := h.1 c_
    refine lv_bipush (v := (-3)) hx hb dX9_at_23 (by decide) ?_
    exact hR (-3) () H locs h hP hD hS _ ls dX9_at_25
  · have h := h.2 c_
    refine lv_aload_n hx hb dX9_at_12 rfl (lv_at hl 0 rfl) ?_
    refine va_get (D := (dC, dI)) (ci := 9) (v := .ref p_me) (C := RX9) (T := TX9) (N := 13) hx hb hts hi_X9 hown hK hP 0 rfl rfl 1 (by decide) (hts (.fieldLink RX9 27 "ZInput" "memory" "LZInput$Memory;") (List.mem_cons_of_mem _ (List.mem_append_left _ (List.mem_append_left _ (List.mem_of_getElem? (i := 0) rfl))))) (fun _ h9 => h9) rfl dX9_at_13 ?_
    refine lv_iload_n hx hb dX9_at_16 rfl (lv_at hl 1 rfl) ?_
    refine zz_Vi (As := [.int a1]) (rest := []) (wr := [(p_z, .inr (9, [.int z_version, .ref p_me, .ref p_pa, .ref p_di, .ref p_pr, .ref p_re, .ref p_cl, .ref p_li, .ref p_ec, .ref p_sc, .int z_dictionaryAt, .int z_tableAt, .int z_ended]))]) ⟨hx, hb, hml, hown, hts⟩ (cwV 1 hts gX9_at_X4_octet rfl rfl rfl (by decide +kernel) ⟨Nat.le_of_ble_eq_true rfl, Nat.le_of_ble_eq_true rfl⟩) hK hP hD hS hA (c_X4_octet l dC dI kI kZ H.size p_me p_me_octets me_octets a1 _ h) [1, 2] [0] rfl rfl rfl rfl (by decide) 0 rfl rfl rfl rfl hl.1 (Nat.le_of_ble_eq_true rfl) dX9_at_17 (Nat.le_refl _) (Nat.le_refl _) (fun r_2 u_2 H locs h hP hD hS => ?_)
    have hP : va_P (dC, dI) vwCl [(p_z, .inr (9, [.int z_version, .ref p_me, .ref p_pa, .ref p_di, .ref p_pr, .ref p_re, .ref p_cl, .ref p_li, .ref p_ec, .ref p_sc, .int z_dictionaryAt, .int z_tableAt, .int z_ended])), (p_me, .inr (4, [.ref p_me_octets])), (p_me_octets, .inl (kI, 4096, .inl me_octets))] H := hP.sub [0, 1, 2] rfl
    have hD : va_D A [(p_z, .inr (9, [.int z_version, .ref p_me, .ref p_pa, .ref p_di, .ref p_pr, .ref p_re, .ref p_cl, .ref p_li, .ref p_ec, .ref p_sc, .int z_dictionaryAt, .int z_tableAt, .int z_ended])), (p_me, .inr (4, [.ref p_me_octets])), (p_me_octets, .inl (kI, 4096, .inl me_octets))] := hD.sub [0, 1, 2] rfl rfl
    refine lv_goto (tgt := 25) hx hb dX9_at_20 (by decide) ?_
    exact hR r_2 () H locs h hP hD hS _ ls dX9_at_25
def wp_X9_countsCodes (z_version : Int32) (K : Int32 → Prop) : Prop :=
  ((z_version < 5) → (K 0)) ∧ ((¬ z_version < 5) → (K 1))
abbrev rmX9_countsCodes : Room := { frames := 0, cells := 0, slots := 0, locals := 0 }
set_option maxHeartbeats 4000000 in
set_option maxRecDepth 100000 in
theorem c_X9_countsCodes (l : Launch) (dC : Nat → ClassId) (dI : Nat → Nat → Nat) (kI kZ : ClassId) (sz : Nat) (p_z : Nat) (p_me : Nat) (p_pa : Nat) (p_di : Nat) (p_pr : Nat) (p_re : Nat) (p_cl : Nat) (p_li : Nat) (p_ec : Nat) (p_sc : Nat) (z_dictionaryAt : Int32) (z_tableAt : Int32) (z_ended : Int32) (z_version : Int32) (K : Int32 → Prop) (h : wp_X9_countsCodes z_version K) : Met l yX9_countsCodes wsX9_countsCodes rmX9_countsCodes (va_Pc [.ref p_z] (zP (dC, dI) (zT kI kZ) sz [(p_z, .inr (9, [.int z_version, .ref p_me, .ref p_pa, .ref p_di, .ref p_pr, .ref p_re, .ref p_cl, .ref p_li, .ref p_ec, .ref p_sc, .int z_dictionaryAt, .int z_tableAt, .int z_ended]))])) (va_Qi (fun (r : Int32) (u : Unit) => K r) (fun (u : Unit) => zB (dC, dI) (zT kI kZ) (va_A [(p_z, .inr (9, [.int z_version, .ref p_me, .ref p_pa, .ref p_di, .ref p_pr, .ref p_re, .ref p_cl, .ref p_li, .ref p_ec, .ref p_sc, .int z_dictionaryAt, .int z_tableAt, .int z_ended]))] sz) [(p_z, .inr (9, [.int z_version, .ref p_me, .ref p_pa, .ref p_di, .ref p_pr, .ref p_re, .ref p_cl, .ref p_li, .ref p_ec, .ref p_sc, .int z_dictionaryAt, .int z_tableAt, .int z_ended]))]) (va_A [(p_z, .inr (9, [.int z_version, .ref p_me, .ref p_pa, .ref p_di, .ref p_pr, .ref p_re, .ref p_cl, .ref p_li, .ref p_ec, .ref p_sc, .int z_dictionaryAt, .int z_tableAt, .int z_ended]))] sz)) 0 0 (va_A [(p_z, .inr (9, [.int z_version, .ref p_me, .ref p_pa, .ref p_di, .ref p_pr, .ref p_re, .ref p_cl, .ref p_li, .ref p_ec, .ref p_sc, .int z_dictionaryAt, .int z_tableAt, .int z_ended]))] sz) := by
  refine zz_ofz (cc := cX9_countsCodes) (maxL := 1) (by decide) rfl (Nat.le_of_ble_eq_true rfl) ?_
  intro p e s m args below meth c A Q ls hx hb hml hown hts hK hA hR hP hD hS hl
  have hown : s.vm.findClass RX9 = some m.cls := hown
  have hl : lv_has ls 1 [(0, .ref p_z)] := hl
  have hi_X9 : ∀ w ∈ wsX90, w ∈ wsX9_countsCodes := fun _ h => (List.mem_cons_of_mem _ (List.mem_append_right _ h))
  unfold wp_X9_countsCodes at h
  obtain ⟨H, eH⟩ : ∃ H, H = s.heap := ⟨_, rfl⟩
  obtain ⟨locs, eL⟩ : ∃ L : List Loc, L = [] := ⟨_, rfl⟩
  rw [← eL]
  have hS : va_S A s.heap s.heap locs := by rw [eL]; exact hS
  suffices hgo : ∀ H : Heap, va_P (dC, dI) vwCl [(p_z, .inr (9, [.int z_version, .ref p_me, .ref p_pa, .ref p_di, .ref p_pr, .ref p_re, .ref p_cl, .ref p_li, .ref p_ec, .ref p_sc, .int z_dictionaryAt, .int z_tableAt, .int z_ended]))] H → va_S A s.heap H locs → W p l e rmX9_countsCodes s m args below meth c H locs 0 0 Q (F0 m 0 ls []) from hgo _ hP hS
  clear hP hS eH H eL
  intro H hP hS
  refine lv_aload_n hx hb dX9_countsCodes_0 rfl (lv_at hl 0 rfl) ?_
  refine va_get (D := (dC, dI)) (ci := 9) (v := .int z_version) (C := RX9) (T := TX9) (N := 13) hx hb hts hi_X9 hown hK hP 0 rfl rfl 0 (by decide) (hts (.fieldLink RX9 22 "ZInput" "version" "I") (List.mem_cons_of_mem _ (List.mem_append_left _ (List.mem_of_getElem? (i := 0) rfl)))) (fun _ h9 => h9) rfl dX9_countsCodes_1 ?_
  refine lv_iconst (v := 5) hx hb dX9_countsCodes_4 (by decide) ?_
  refine lv_icmp_lt (tgt := 12) hx hb dX9_countsCodes_5 (by decide) (fun c_ => ?_) (fun c_ => ?_)
  · have h := h.1 c_
    refine lv_iconst (v := 0) hx hb dX9_countsCodes_12 (by decide) ?_
    exact hR 0 () H locs (Or.inl rfl) h hP hD hS _ ls dX9_countsCodes_13
  · have h := h.2 c_
    refine lv_iconst (v := 1) hx hb dX9_countsCodes_8 (by decide) ?_
    refine lv_goto (tgt := 13) hx hb dX9_countsCodes_9 (by decide) ?_
    exact hR 1 () H locs (Or.inr rfl) h hP hD hS _ ls dX9_countsCodes_13
def wp_X9_isStart (a0 : Int32) (K : Int32 → Prop) : Prop :=
  ((a0 < 0) → (K 0)) ∧ ((¬ a0 < 0) → (((4000 < a0) → (K 0)) ∧ ((¬ 4000 < a0) → (K 1))))
abbrev rmX9_isStart : Room := { frames := 0, cells := 0, slots := 0, locals := 0 }
set_option maxHeartbeats 4000000 in
set_option maxRecDepth 100000 in
theorem c_X9_isStart (l : Launch) (dC : Nat → ClassId) (dI : Nat → Nat → Nat) (kI kZ : ClassId) (sz : Nat) (a0 : Int32) (K : Int32 → Prop) (h : wp_X9_isStart a0 K) : Met l yX9_isStart wsX9_isStart rmX9_isStart (va_Pc [.int a0] (zP (dC, dI) (zT kI kZ) sz [])) (va_Qi (fun (r : Int32) (u : Unit) => K r) (fun (u : Unit) => zB (dC, dI) (zT kI kZ) (va_A [] sz) []) (va_A [] sz)) 0 0 (va_A [] sz) := by
  refine zz_ofz (cc := cX9_isStart) (maxL := 1) (by decide) rfl (Nat.le_of_ble_eq_true rfl) ?_
  intro p e s m args below meth c A Q ls hx hb hml hown hts hK hA hR hP hD hS hl
  have hown : s.vm.findClass RX9 = some m.cls := hown
  have hl : lv_has ls 1 [(0, .int a0)] := hl
  unfold wp_X9_isStart at h
  obtain ⟨H, eH⟩ : ∃ H, H = s.heap := ⟨_, rfl⟩
  obtain ⟨locs, eL⟩ : ∃ L : List Loc, L = [] := ⟨_, rfl⟩
  rw [← eL]
  have hS : va_S A s.heap s.heap locs := by rw [eL]; exact hS
  suffices hgo : ∀ H : Heap, va_P (dC, dI) vwCl [] H → va_S A s.heap H locs → W p l e rmX9_isStart s m args below meth c H locs 0 0 Q (F0 m 0 ls []) from hgo _ hP hS
  clear hP hS eH H eL
  intro H hP hS
  refine lv_iload_n hx hb dX9_isStart_0 rfl (lv_at hl 0 rfl) ?_
  refine lv_if_lt (tgt := 15) hx hb dX9_isStart_1 (by decide) (fun c_ => ?_) (fun c_ => ?_)
  · have h := h.1 c_
    refine lv_iconst (v := 0) hx hb dX9_isStart_15 (by decide) ?_
    exact hR 0 () H locs (Or.inl rfl) h hP hD hS _ ls dX9_isStart_16
  · have h := h.2 c_
    refine lv_iload_n hx hb dX9_isStart_4 rfl (lv_at hl 0 rfl) ?_
    refine lv_sipush (v := 4000) hx hb dX9_isStart_5 (by decide) ?_
    refine lv_icmp_gt (tgt := 15) hx hb dX9_isStart_8 (by decide) (fun c_ => ?_) (fun c_ => ?_)
    · have h := h.1 c_
      refine lv_iconst (v := 0) hx hb dX9_isStart_15 (by decide) ?_
      exact hR 0 () H locs (Or.inl rfl) h hP hD hS _ ls dX9_isStart_16
    · have h := h.2 c_
      refine lv_iconst (v := 1) hx hb dX9_isStart_11 (by decide) ?_
      refine lv_goto (tgt := 16) hx hb dX9_isStart_12 (by decide) ?_
      exact hR 1 () H locs (Or.inr rfl) h hP hD hS _ ls dX9_isStart_16
def wp_X9_begin (z_version : Int32) (me_octets : Nat → Int32) (re_open : Int32) (re_textAt : Int32) (re_parseAt : Int32) (re_limit : Int32) (re_count : Int32) (re_shown : Int32) (re_codes : Nat → Int32) (cl_calls : Int32) (cl_stopped : Int32) (cl_every : Int32) (cl_answers : Int32) (cl_answered : Int32) (cl_sinceCall : Int32) (a1 : Int32) (a2 : Int32) (K : Int32 → Int32 → Int32 → Int32 → Int32 → Int32 → Int32 → (Nat → Int32) → Int32 → Int32 → Int32 → Int32 → Int32 → Int32 → Prop) : Prop :=
  ((re_open = 0) → (((a1 < 1) → (K (-2) re_open re_textAt re_parseAt re_limit re_count re_shown re_codes cl_calls cl_stopped cl_every cl_answers cl_answered cl_sinceCall)) ∧ ((¬ a1 < 1) → (wp_X9_isStart a1 (fun (r_1 : Int32) => ((r_1 = 0) → (K (-2) re_open re_textAt re_parseAt re_limit re_count re_shown re_codes cl_calls cl_stopped cl_every cl_answers cl_answered cl_sinceCall)) ∧ ((¬ r_1 = 0) → (wp_X9_isStart a2 (fun (r_2 : Int32) => ((¬ r_2 = 0) → (wp_X4_octet me_octets a1 (fun (r_3 : Int32) => wp_X9_countsCodes z_version (fun (r_4 : Int32) => ∀ J61 : Int32 → Prop, (∀ (y_1 : Int32), (wp_X9_countsCodes z_version (fun (r_5 : Int32) => ∀ J84 : Int32 → Prop, (∀ (y_2 : Int32), (((y_2 ≤ y_1) → (wp_X4_holds (a1 + 1) (y_1 + 1) (fun (r_6 : Int32) => ((¬ r_6 = 0) → (wp_X7_start re_open re_textAt re_parseAt re_limit re_count re_shown a1 a2 y_1 (fun (re_open_1 : Int32) (re_textAt_1 : Int32) (re_parseAt_1 : Int32) (re_limit_1 : Int32) (re_count_1 : Int32) (re_shown_1 : Int32) => ∀ L130 : Int32 → Int32 → (Nat → Int32) → Prop, (∀ (x6_1 : Int32) (re_count_2 : Int32) (re_codes_1 : Nat → Int32), (((y_2 ≤ x6_1) → (wp_X0_restart cl_calls cl_stopped cl_every cl_answers cl_answered cl_sinceCall (fun (cl_calls_1 : Int32) (cl_stopped_1 : Int32) (cl_every_1 : Int32) (cl_answers_1 : Int32) (cl_answered_1 : Int32) (cl_sinceCall_1 : Int32) => K y_1 re_open_1 re_textAt_1 re_parseAt_1 re_limit_1 re_count_2 re_shown_1 re_codes_1 cl_calls_1 cl_stopped_1 cl_every_1 cl_answers_1 cl_answered_1 cl_sinceCall_1))) ∧ ((¬ y_2 ≤ x6_1) → (wp_X4_octet me_octets ((a1 + 2) + x6_1) (fun (r_7 : Int32) => wp_X7_add re_limit_1 re_count_2 re_codes_1 r_7 (fun (re_count_3 : Int32) (re_codes_2 : Nat → Int32) => L130 (x6_1 + 1) re_count_3 re_codes_2))))) → L130 x6_1 re_count_2 re_codes_1) → L130 0 re_count_1 re_codes))) ∧ ((r_6 = 0) → (K (-3) re_open re_textAt re_parseAt re_limit re_count re_shown re_codes cl_calls cl_stopped cl_every cl_answers cl_answered cl_sinceCall))))) ∧ ((¬ y_2 ≤ y_1) → (K (-2) re_open re_textAt re_parseAt re_limit re_count re_shown re_codes cl_calls cl_stopped cl_every cl_answers cl_answered cl_sinceCall))) → J84 y_2) → (((r_5 = 0) → (J84 0)) ∧ ((¬ r_5 = 0) → (wp_X4_octet me_octets (a1 + 1) (fun (r_8 : Int32) => J84 r_8)))))) → J61 y_1) → (((r_4 = 0) → (J61 (if (r_3 - 1) < 0 then 0 else (r_3 - 1)))) ∧ ((¬ r_4 = 0) → (J61 r_3))))))) ∧ ((r_2 = 0) → (K (-2) re_open re_textAt re_parseAt re_limit re_count re_shown re_codes cl_calls cl_stopped cl_every cl_answers cl_answered cl_sinceCall)))))))))) ∧ ((¬ re_open = 0) → (K (-1) re_open re_textAt re_parseAt re_limit re_count re_shown re_codes cl_calls cl_stopped cl_every cl_answers cl_answered cl_sinceCall))
abbrev rmX9_begin : Room := { frames := 2, cells := 0, slots := 0, locals := 42 }
set_option maxHeartbeats 4000000 in
set_option maxRecDepth 100000 in
theorem c_X9_begin (l : Launch) (dC : Nat → ClassId) (dI : Nat → Nat → Nat) (kI kZ : ClassId) (sz : Nat) (p_z : Nat) (p_me : Nat) (p_pa : Nat) (p_di : Nat) (p_pr : Nat) (p_re : Nat) (p_cl : Nat) (p_li : Nat) (p_ec : Nat) (p_sc : Nat) (p_me_octets : Nat) (p_re_codes : Nat) (z_dictionaryAt : Int32) (z_tableAt : Int32) (z_ended : Int32) (z_version : Int32) (me_octets : Nat → Int32) (re_open : Int32) (re_textAt : Int32) (re_parseAt : Int32) (re_limit : Int32) (re_count : Int32) (re_shown : Int32) (re_codes : Nat → Int32) (cl_calls : Int32) (cl_stopped : Int32) (cl_every : Int32) (cl_answers : Int32) (cl_answered : Int32) (cl_sinceCall : Int32) (a1 : Int32) (a2 : Int32) (K : Int32 → Int32 → Int32 → Int32 → Int32 → Int32 → Int32 → (Nat → Int32) → Int32 → Int32 → Int32 → Int32 → Int32 → Int32 → Prop) (h : wp_X9_begin z_version me_octets re_open re_textAt re_parseAt re_limit re_count re_shown re_codes cl_calls cl_stopped cl_every cl_answers cl_answered cl_sinceCall a1 a2 K) : Met l yX9_begin wsX9_begin rmX9_begin (va_Pc [.ref p_z, .int a1, .int a2] (zP (dC, dI) (zT kI kZ) sz [(p_z, .inr (9, [.int z_version, .ref p_me, .ref p_pa, .ref p_di, .ref p_pr, .ref p_re, .ref p_cl, .ref p_li, .ref p_ec, .ref p_sc, .int z_dictionaryAt, .int z_tableAt, .int z_ended])), (p_me, .inr (4, [.ref p_me_octets])), (p_me_octets, .inl (kI, 4096, .inl me_octets)), (p_re, .inr (7, [.int re_open, .int re_textAt, .int re_parseAt, .int re_limit, .int re_count, .int re_shown, .ref p_re_codes])), (p_re_codes, .inl (kI, 255, .inl re_codes)), (p_cl, .inr (0, [.int cl_calls, .int cl_stopped, .int cl_every, .int cl_answers, .int cl_answered, .int cl_sinceCall]))])) (va_Qi (fun (r : Int32) (u : Int32 × Int32 × Int32 × Int32 × Int32 × Int32 × (Nat → Int32) × Int32 × Int32 × Int32 × Int32 × Int32 × Int32) => K r u.1 u.2.1 u.2.2.1 u.2.2.2.1 u.2.2.2.2.1 u.2.2.2.2.2.1 u.2.2.2.2.2.2.1 u.2.2.2.2.2.2.2.1 u.2.2.2.2.2.2.2.2.1 u.2.2.2.2.2.2.2.2.2.1 u.2.2.2.2.2.2.2.2.2.2.1 u.2.2.2.2.2.2.2.2.2.2.2.1 u.2.2.2.2.2.2.2.2.2.2.2.2) (fun (u : Int32 × Int32 × Int32 × Int32 × Int32 × Int32 × (Nat → Int32) × Int32 × Int32 × Int32 × Int32 × Int32 × Int32) => zB (dC, dI) (zT kI kZ) (va_A [(p_z, .inr (9, [.int z_version, .ref p_me, .ref p_pa, .ref p_di, .ref p_pr, .ref p_re, .ref p_cl, .ref p_li, .ref p_ec, .ref p_sc, .int z_dictionaryAt, .int z_tableAt, .int z_ended])), (p_me, .inr (4, [.ref p_me_octets])), (p_me_octets, .inl (kI, 4096, .inl me_octets)), (p_re, .inr (7, [.int re_open, .int re_textAt, .int re_parseAt, .int re_limit, .int re_count, .int re_shown, .ref p_re_codes])), (p_re_codes, .inl (kI, 255, .inl re_codes)), (p_cl, .inr (0, [.int cl_calls, .int cl_stopped, .int cl_every, .int cl_answers, .int cl_answered, .int cl_sinceCall]))] sz) [(p_z, .inr (9, [.int z_version, .ref p_me, .ref p_pa, .ref p_di, .ref p_pr, .ref p_re, .ref p_cl, .ref p_li, .ref p_ec, .ref p_sc, .int z_dictionaryAt, .int z_tableAt, .int z_ended])), (p_me, .inr (4, [.ref p_me_octets])), (p_me_octets, .inl (kI, 4096, .inl me_octets)), (p_re, .inr (7, [.int u.1, .int u.2.1, .int u.2.2.1, .int u.2.2.2.1, .int u.2.2.2.2.1, .int u.2.2.2.2.2.1, .ref p_re_codes])), (p_re_codes, .inl (kI, 255, .inl u.2.2.2.2.2.2.1)), (p_cl, .inr (0, [.int u.2.2.2.2.2.2.2.1, .int u.2.2.2.2.2.2.2.2.1, .int u.2.2.2.2.2.2.2.2.2.1, .int u.2.2.2.2.2.2.2.2.2.2.1, .int u.2.2.2.2.2.2.2.2.2.2.2.1, .int u.2.2.2.2.2.2.2.2.2.2.2.2]))]) (va_A [(p_z, .inr (9, [.int z_version, .ref p_me, .ref p_pa, .ref p_di, .ref p_pr, .ref p_re, .ref p_cl, .ref p_li, .ref p_ec, .ref p_sc, .int z_dictionaryAt, .int z_tableAt, .int z_ended])), (p_me, .inr (4, [.ref p_me_octets])), (p_me_octets, .inl (kI, 4096, .inl me_octets)), (p_re, .inr (7, [.int re_open, .int re_textAt, .int re_parseAt, .int re_limit, .int re_count, .int re_shown, .ref p_re_codes])), (p_re_codes, .inl (kI, 255, .inl re_codes)), (p_cl, .inr (0, [.int cl_calls, .int cl_stopped, .int cl_every, .int cl_answers, .int cl_answered, .int cl_sinceCall]))] sz)) 0 0 (va_A [(p_z, .inr (9, [.int z_version, .ref p_me, .ref p_pa, .ref p_di, .ref p_pr, .ref p_re, .ref p_cl, .ref p_li, .ref p_ec, .ref p_sc, .int z_dictionaryAt, .int z_tableAt, .int z_ended])), (p_me, .inr (4, [.ref p_me_octets])), (p_me_octets, .inl (kI, 4096, .inl me_octets)), (p_re, .inr (7, [.int re_open, .int re_textAt, .int re_parseAt, .int re_limit, .int re_count, .int re_shown, .ref p_re_codes])), (p_re_codes, .inl (kI, 255, .inl re_codes)), (p_cl, .inr (0, [.int cl_calls, .int cl_stopped, .int cl_every, .int cl_answers, .int cl_answered, .int cl_sinceCall]))] sz) := by
  refine zz_ofi (cc := cX9_begin) (maxL := 7) (by decide) rfl (Nat.le_of_ble_eq_true rfl) ?_
  intro p e s m args below meth c A Q ls hx hb hml hown hts hK hA hR hP hD hS hl
  have hown : s.vm.findClass RX9 = some m.cls := hown
  have hl : lv_has ls 7 [(0, .ref p_z), (1, .int a1), (2, .int a2)] := hl
  have hi_X9 : ∀ w ∈ wsX90, w ∈ wsX9_begin := fun _ h => (List.mem_cons_of_mem _ (List.mem_append_left _ (List.mem_append_left _ (List.mem_append_left _ (List.mem_append_right _ h)))))
  have hi_X7 : ∀ w ∈ wsX70, w ∈ wsX9_begin := fun _ h => (List.mem_cons_of_mem _ (List.mem_append_left _ (List.mem_append_left _ (List.mem_append_right _ h))))
  unfold wp_X9_begin at h
  obtain ⟨H, eH⟩ : ∃ H, H = s.heap := ⟨_, rfl⟩
  obtain ⟨locs, eL⟩ : ∃ L : List Loc, L = [] := ⟨_, rfl⟩
  rw [← eL]
  have hS : va_S A s.heap s.heap locs := by rw [eL]; exact hS
  suffices hgo : ∀ H : Heap, va_P (dC, dI) vwCl [(p_z, .inr (9, [.int z_version, .ref p_me, .ref p_pa, .ref p_di, .ref p_pr, .ref p_re, .ref p_cl, .ref p_li, .ref p_ec, .ref p_sc, .int z_dictionaryAt, .int z_tableAt, .int z_ended])), (p_me, .inr (4, [.ref p_me_octets])), (p_me_octets, .inl (kI, 4096, .inl me_octets)), (p_re, .inr (7, [.int re_open, .int re_textAt, .int re_parseAt, .int re_limit, .int re_count, .int re_shown, .ref p_re_codes])), (p_re_codes, .inl (kI, 255, .inl re_codes)), (p_cl, .inr (0, [.int cl_calls, .int cl_stopped, .int cl_every, .int cl_answers, .int cl_answered, .int cl_sinceCall]))] H → va_S A s.heap H locs → W p l e rmX9_begin s m args below meth c H locs 0 0 Q (F0 m 0 ls []) from hgo _ hP hS
  clear hP hS eH H eL
  intro H hP hS
  refine lv_aload_n hx hb dX9_begin_0 rfl (lv_at hl 0 rfl) ?_
  refine va_get (D := (dC, dI)) (ci := 9) (v := .ref p_re) (C := RX9) (T := TX9) (N := 13) hx hb hts hi_X9 hown hK hP 0 rfl rfl 5 (by decide) (hts (.fieldLink RX9 51 "ZInput" "reading" "LZInput$Reading;") (List.mem_cons_of_mem _ (List.mem_append_left _ (List.mem_append_left _ (List.mem_append_left _ (List.mem_append_left _ (List.mem_append_left _ (List.mem_of_getElem? (i := 0) rfl)))))))) (fun _ h9 => h9) rfl dX9_begin_1 ?_
  refine va_get (D := (dC, dI)) (ci := 7) (v := .int re_open) (C := RX7) (T := TX7) (N := 7) hx hb hts hi_X7 hown hK hP 3 rfl rfl 0 (by decide) (hts (.fieldLink RX9 123 "ZInput$Reading" "open" "Z") (List.mem_cons_of_mem _ (List.mem_append_left _ (List.mem_append_left _ (List.mem_append_left _ (List.mem_append_left _ (List.mem_append_left _ (List.mem_of_getElem? (i := 1) rfl)))))))) (fun _ h9 => h9) rfl dX9_begin_4 ?_
  refine lv_if_eq (tgt := 12) hx hb dX9_begin_7 (by decide) (fun c_ => ?_) (fun c_ => ?_)
  · have h := h.1 c_
    refine lv_iload_n hx hb dX9_begin_12 rfl (lv_at hl 1 rfl) ?_
    refine lv_iconst (v := 1) hx hb dX9_begin_13 (by decide) ?_
    refine lv_icmp_lt (tgt := 31) hx hb dX9_begin_14 (by decide) (fun c_ => ?_) (fun c_ => ?_)
    · have h := h.1 c_
      refine lv_bipush (v := (-2)) hx hb dX9_begin_31 (by decide) ?_
      exact hR (-2) (re_open, re_textAt, re_parseAt, re_limit, re_count, re_shown, re_codes, cl_calls, cl_stopped, cl_every, cl_answers, cl_answered, cl_sinceCall) H locs h hP hD hS _ ls dX9_begin_33
    · have h := h.2 c_
      refine lv_iload_n hx hb dX9_begin_17 rfl (lv_at hl 1 rfl) ?_
      refine zz_Si (As := [.int a1]) (rest := []) (wr := [(p_z, .inr (9, [.int z_version, .ref p_me, .ref p_pa, .ref p_di, .ref p_pr, .ref p_re, .ref p_cl, .ref p_li, .ref p_ec, .ref p_sc, .int z_dictionaryAt, .int z_tableAt, .int z_ended])), (p_me, .inr (4, [.ref p_me_octets])), (p_me_octets, .inl (kI, 4096, .inl me_octets)), (p_re, .inr (7, [.int re_open, .int re_textAt, .int re_parseAt, .int re_limit, .int re_count, .int re_shown, .ref p_re_codes])), (p_re_codes, .inl (kI, 255, .inl re_codes)), (p_cl, .inr (0, [.int cl_calls, .int cl_stopped, .int cl_every, .int cl_answers, .int cl_answered, .int cl_sinceCall]))]) ⟨hx, hb, hml, hown, hts⟩ (va_cwS 1 hts gX9_begin_X9_isStart rfl rfl rfl (by decide +kernel) ⟨Nat.le_of_ble_eq_true rfl, Nat.le_of_ble_eq_true rfl⟩) hK hP hD hS hA (c_X9_isStart l dC dI kI kZ H.size a1 _ h) [] [0, 1, 2, 3, 4, 5] rfl rfl rfl rfl (by decide) rfl rfl hl.1 (Nat.le_of_ble_eq_true rfl) dX9_begin_18 (Nat.le_refl _) (Nat.le_refl _) (fun r_1 u_1 H locs h hP hD hS => ?_)
      have hP : va_P (dC, dI) vwCl [(p_z, .inr (9, [.int z_version, .ref p_me, .ref p_pa, .ref p_di, .ref p_pr, .ref p_re, .ref p_cl, .ref p_li, .ref p_ec, .ref p_sc, .int z_dictionaryAt, .int z_tableAt, .int z_ended])), (p_me, .inr (4, [.ref p_me_octets])), (p_me_octets, .inl (kI, 4096, .inl me_octets)), (p_re, .inr (7, [.int re_open, .int re_textAt, .int re_parseAt, .int re_limit, .int re_count, .int re_shown, .ref p_re_codes])), (p_re_codes, .inl (kI, 255, .inl re_codes)), (p_cl, .inr (0, [.int cl_calls, .int cl_stopped, .int cl_every, .int cl_answers, .int cl_answered, .int cl_sinceCall]))] H := hP.sub [0, 1, 2, 3, 4, 5] rfl
      have hD : va_D A [(p_z, .inr (9, [.int z_version, .ref p_me, .ref p_pa, .ref p_di, .ref p_pr, .ref p_re, .ref p_cl, .ref p_li, .ref p_ec, .ref p_sc, .int z_dictionaryAt, .int z_tableAt, .int z_ended])), (p_me, .inr (4, [.ref p_me_octets])), (p_me_octets, .inl (kI, 4096, .inl me_octets)), (p_re, .inr (7, [.int re_open, .int re_textAt, .int re_parseAt, .int re_limit, .int re_count, .int re_shown, .ref p_re_codes])), (p_re_codes, .inl (kI, 255, .inl re_codes)), (p_cl, .inr (0, [.int cl_calls, .int cl_stopped, .int cl_every, .int cl_answers, .int cl_answered, .int cl_sinceCall]))] := hD.sub [0, 1, 2, 3, 4, 5] rfl rfl
      refine lv_if_eq (tgt := 31) hx hb dX9_begin_21 (by decide) (fun c_ => ?_) (fun c_ => ?_)
      · have h := h.1 c_
        refine lv_bipush (v := (-2)) hx hb dX9_begin_31 (by decide) ?_
        exact hR (-2) (re_open, re_textAt, re_parseAt, re_limit, re_count, re_shown, re_codes, cl_calls, cl_stopped, cl_every, cl_answers, cl_answered, cl_sinceCall) H locs h hP hD hS _ ls dX9_begin_33
      · have h := h.2 c_
        refine lv_iload_n hx hb dX9_begin_24 rfl (lv_at hl 2 rfl) ?_
        refine zz_Si (As := [.int a2]) (rest := []) (wr := [(p_z, .inr (9, [.int z_version, .ref p_me, .ref p_pa, .ref p_di, .ref p_pr, .ref p_re, .ref p_cl, .ref p_li, .ref p_ec, .ref p_sc, .int z_dictionaryAt, .int z_tableAt, .int z_ended])), (p_me, .inr (4, [.ref p_me_octets])), (p_me_octets, .inl (kI, 4096, .inl me_octets)), (p_re, .inr (7, [.int re_open, .int re_textAt, .int re_parseAt, .int re_limit, .int re_count, .int re_shown, .ref p_re_codes])), (p_re_codes, .inl (kI, 255, .inl re_codes)), (p_cl, .inr (0, [.int cl_calls, .int cl_stopped, .int cl_every, .int cl_answers, .int cl_answered, .int cl_sinceCall]))]) ⟨hx, hb, hml, hown, hts⟩ (va_cwS 1 hts gX9_begin_X9_isStart rfl rfl rfl (by decide +kernel) ⟨Nat.le_of_ble_eq_true rfl, Nat.le_of_ble_eq_true rfl⟩) hK hP hD hS hA (c_X9_isStart l dC dI kI kZ H.size a2 _ h) [] [0, 1, 2, 3, 4, 5] rfl rfl rfl rfl (by decide) rfl rfl hl.1 (Nat.le_of_ble_eq_true rfl) dX9_begin_25 (Nat.le_refl _) (Nat.le_refl _) (fun r_2 u_2 H locs h hP hD hS => ?_)
        have hP : va_P (dC, dI) vwCl [(p_z, .inr (9, [.int z_version, .ref p_me, .ref p_pa, .ref p_di, .ref p_pr, .ref p_re, .ref p_cl, .ref p_li, .ref p_ec, .ref p_sc, .int z_dictionaryAt, .int z_tableAt, .int z_ended])), (p_me, .inr (4, [.ref p_me_octets])), (p_me_octets, .inl (kI, 4096, .inl me_octets)), (p_re, .inr (7, [.int re_open, .int re_textAt, .int re_parseAt, .int re_limit, .int re_count, .int re_shown, .ref p_re_codes])), (p_re_codes, .inl (kI, 255, .inl re_codes)), (p_cl, .inr (0, [.int cl_calls, .int cl_stopped, .int cl_every, .int cl_answers, .int cl_answered, .int cl_sinceCall]))] H := hP.sub [0, 1, 2, 3, 4, 5] rfl
        have hD : va_D A [(p_z, .inr (9, [.int z_version, .ref p_me, .ref p_pa, .ref p_di, .ref p_pr, .ref p_re, .ref p_cl, .ref p_li, .ref p_ec, .ref p_sc, .int z_dictionaryAt, .int z_tableAt, .int z_ended])), (p_me, .inr (4, [.ref p_me_octets])), (p_me_octets, .inl (kI, 4096, .inl me_octets)), (p_re, .inr (7, [.int re_open, .int re_textAt, .int re_parseAt, .int re_limit, .int re_count, .int re_shown, .ref p_re_codes])), (p_re_codes, .inl (kI, 255, .inl re_codes)), (p_cl, .inr (0, [.int cl_calls, .int cl_stopped, .int cl_every, .int cl_answers, .int cl_answered, .int cl_sinceCall]))] := hD.sub [0, 1, 2, 3, 4, 5] rfl rfl
        refine lv_if_ne (tgt := 34) hx hb dX9_begin_28 (by decide) (fun c_ => ?_) (fun c_ => ?_)
        · have h := h.1 c_
          refine lv_aload_n hx hb dX9_begin_34 rfl (lv_at hl 0 rfl) ?_
          refine va_get (D := (dC, dI)) (ci := 9) (v := .ref p_me) (C := RX9) (T := TX9) (N := 13) hx hb hts hi_X9 hown hK hP 0 rfl rfl 1 (by decide) (hts (.fieldLink RX9 27 "ZInput" "memory" "LZInput$Memory;") (List.mem_cons_of_mem _ (List.mem_append_left _ (List.mem_append_left _ (List.mem_append_left _ (List.mem_append_left _ (List.mem_append_left _ (List.mem_of_getElem? (i := 2) rfl)))))))) (fun _ h9 => h9) rfl dX9_begin_35 ?_
          refine lv_iload_n hx hb dX9_begin_38 rfl (lv_at hl 1 rfl) ?_
          refine zz_Vi (As := [.int a1]) (rest := []) (wr := [(p_z, .inr (9, [.int z_version, .ref p_me, .ref p_pa, .ref p_di, .ref p_pr, .ref p_re, .ref p_cl, .ref p_li, .ref p_ec, .ref p_sc, .int z_dictionaryAt, .int z_tableAt, .int z_ended])), (p_re, .inr (7, [.int re_open, .int re_textAt, .int re_parseAt, .int re_limit, .int re_count, .int re_shown, .ref p_re_codes])), (p_re_codes, .inl (kI, 255, .inl re_codes)), (p_cl, .inr (0, [.int cl_calls, .int cl_stopped, .int cl_every, .int cl_answers, .int cl_answered, .int cl_sinceCall]))]) ⟨hx, hb, hml, hown, hts⟩ (cwV 1 hts gX9_begin_X4_octet rfl rfl rfl (by decide +kernel) ⟨Nat.le_of_ble_eq_true rfl, Nat.le_of_ble_eq_true rfl⟩) hK hP hD hS hA (c_X4_octet l dC dI kI kZ H.size p_me p_me_octets me_octets a1 _ h) [1, 2] [0, 3, 4, 5] rfl rfl rfl rfl (by decide) 0 rfl rfl rfl rfl hl.1 (Nat.le_of_ble_eq_true rfl) dX9_begin_39 (Nat.le_refl _) (Nat.le_refl _) (fun r_3 u_3 H locs h hP hD hS => ?_)
          have hP : va_P (dC, dI) vwCl [(p_z, .inr (9, [.int z_version, .ref p_me, .ref p_pa, .ref p_di, .ref p_pr, .ref p_re, .ref p_cl, .ref p_li, .ref p_ec, .ref p_sc, .int z_dictionaryAt, .int z_tableAt, .int z_ended])), (p_me, .inr (4, [.ref p_me_octets])), (p_me_octets, .inl (kI, 4096, .inl me_octets)), (p_re, .inr (7, [.int re_open, .int re_textAt, .int re_parseAt, .int re_limit, .int re_count, .int re_shown, .ref p_re_codes])), (p_re_codes, .inl (kI, 255, .inl re_codes)), (p_cl, .inr (0, [.int cl_calls, .int cl_stopped, .int cl_every, .int cl_answers, .int cl_answered, .int cl_sinceCall]))] H := hP.sub [0, 4, 5, 1, 2, 3] rfl
          have hD : va_D A [(p_z, .inr (9, [.int z_version, .ref p_me, .ref p_pa, .ref p_di, .ref p_pr, .ref p_re, .ref p_cl, .ref p_li, .ref p_ec, .ref p_sc, .int z_dictionaryAt, .int z_tableAt, .int z_ended])), (p_me, .inr (4, [.ref p_me_octets])), (p_me_octets, .inl (kI, 4096, .inl me_octets)), (p_re, .inr (7, [.int re_open, .int re_textAt, .int re_parseAt, .int re_limit, .int re_count, .int re_shown, .ref p_re_codes])), (p_re_codes, .inl (kI, 255, .inl re_codes)), (p_cl, .inr (0, [.int cl_calls, .int cl_stopped, .int cl_every, .int cl_answers, .int cl_answered, .int cl_sinceCall]))] := hD.sub [0, 4, 5, 1, 2, 3] rfl rfl
          refine lv_istore_n (lv' := [(3, .int r_3), (0, .ref p_z), (1, .int a1), (2, .int a2)]) hx hb dX9_begin_42 rfl hl (by decide) rfl (fun ls hl => ?_)
          refine lv_aload_n hx hb dX9_begin_43 rfl (lv_at hl 1 rfl) ?_
          refine zz_Vi (As := []) (rest := []) (wr := [(p_me, .inr (4, [.ref p_me_octets])), (p_me_octets, .inl (kI, 4096, .inl me_octets)), (p_re, .inr (7, [.int re_open, .int re_textAt, .int re_parseAt, .int re_limit, .int re_count, .int re_shown, .ref p_re_codes])), (p_re_codes, .inl (kI, 255, .inl re_codes)), (p_cl, .inr (0, [.int cl_calls, .int cl_stopped, .int cl_every, .int cl_answers, .int cl_answered, .int cl_sinceCall]))]) ⟨hx, hb, hml, hown, hts⟩ (cwV 0 hts gX9_begin_X9_countsCodes rfl rfl rfl (by decide +kernel) ⟨Nat.le_of_ble_eq_true rfl, Nat.le_of_ble_eq_true rfl⟩) hK hP hD hS hA (c_X9_countsCodes l dC dI kI kZ H.size p_z p_me p_pa p_di p_pr p_re p_cl p_li p_ec p_sc z_dictionaryAt z_tableAt z_ended z_version _ h) [0] [1, 2, 3, 4, 5] rfl rfl rfl rfl (by decide) 0 rfl rfl rfl rfl hl.1 (Nat.le_of_ble_eq_true rfl) dX9_begin_44 (Nat.le_refl _) (Nat.le_refl _) (fun r_4 u_4 H locs h hP hD hS => ?_)
          have hP : va_P (dC, dI) vwCl [(p_z, .inr (9, [.int z_version, .ref p_me, .ref p_pa, .ref p_di, .ref p_pr, .ref p_re, .ref p_cl, .ref p_li, .ref p_ec, .ref p_sc, .int z_dictionaryAt, .int z_tableAt, .int z_ended])), (p_me, .inr (4, [.ref p_me_octets])), (p_me_octets, .inl (kI, 4096, .inl me_octets)), (p_re, .inr (7, [.int re_open, .int re_textAt, .int re_parseAt, .int re_limit, .int re_count, .int re_shown, .ref p_re_codes])), (p_re_codes, .inl (kI, 255, .inl re_codes)), (p_cl, .inr (0, [.int cl_calls, .int cl_stopped, .int cl_every, .int cl_answers, .int cl_answered, .int cl_sinceCall]))] H := hP.sub [5, 0, 1, 2, 3, 4] rfl
          have hD : va_D A [(p_z, .inr (9, [.int z_version, .ref p_me, .ref p_pa, .ref p_di, .ref p_pr, .ref p_re, .ref p_cl, .ref p_li, .ref p_ec, .ref p_sc, .int z_dictionaryAt, .int z_tableAt, .int z_ended])), (p_me, .inr (4, [.ref p_me_octets])), (p_me_octets, .inl (kI, 4096, .inl me_octets)), (p_re, .inr (7, [.int re_open, .int re_textAt, .int re_parseAt, .int re_limit, .int re_count, .int re_shown, .ref p_re_codes])), (p_re_codes, .inl (kI, 255, .inl re_codes)), (p_cl, .inr (0, [.int cl_calls, .int cl_stopped, .int cl_every, .int cl_answers, .int cl_answered, .int cl_sinceCall]))] := hD.sub [5, 0, 1, 2, 3, 4] rfl rfl
          have h := h (fun (y_1 : Int32) => ∀ (H : Heap) (locs : List Loc), va_P (dC, dI) vwCl [(p_z, .inr (9, [.int z_version, .ref p_me, .ref p_pa, .ref p_di, .ref p_pr, .ref p_re, .ref p_cl, .ref p_li, .ref p_ec, .ref p_sc, .int z_dictionaryAt, .int z_tableAt, .int z_ended])), (p_me, .inr (4, [.ref p_me_octets])), (p_me_octets, .inl (kI, 4096, .inl me_octets)), (p_re, .inr (7, [.int re_open, .int re_textAt, .int re_parseAt, .int re_limit, .int re_count, .int re_shown, .ref p_re_codes])), (p_re_codes, .inl (kI, 255, .inl re_codes)), (p_cl, .inr (0, [.int cl_calls, .int cl_stopped, .int cl_every, .int cl_answers, .int cl_answered, .int cl_sinceCall]))] H → va_D A [(p_z, .inr (9, [.int z_version, .ref p_me, .ref p_pa, .ref p_di, .ref p_pr, .ref p_re, .ref p_cl, .ref p_li, .ref p_ec, .ref p_sc, .int z_dictionaryAt, .int z_tableAt, .int z_ended])), (p_me, .inr (4, [.ref p_me_octets])), (p_me_octets, .inl (kI, 4096, .inl me_octets)), (p_re, .inr (7, [.int re_open, .int re_textAt, .int re_parseAt, .int re_limit, .int re_count, .int re_shown, .ref p_re_codes])), (p_re_codes, .inl (kI, 255, .inl re_codes)), (p_cl, .inr (0, [.int cl_calls, .int cl_stopped, .int cl_every, .int cl_answers, .int cl_answered, .int cl_sinceCall]))] → va_S A s.heap H locs → ∀ ls : Array Slot, lv_has ls 7 [(0, .ref p_z), (1, .int a1), (2, .int a2)] → W p l e rmX9_begin s m args below meth c H locs 0 0 Q (F0 m 61 ls [.int y_1])) (by
            clear h hP hD hS hl
            intro y_1 h H locs hP hD hS ls hl
            refine lv_istore (lv' := [(4, .int y_1), (0, .ref p_z), (1, .int a1), (2, .int a2)]) hx hb dX9_begin_61 hl (by decide) rfl (fun ls hl => ?_)
            refine lv_aload_n hx hb dX9_begin_63 rfl (lv_at hl 1 rfl) ?_
            refine zz_Vi (As := []) (rest := []) (wr := [(p_me, .inr (4, [.ref p_me_octets])), (p_me_octets, .inl (kI, 4096, .inl me_octets)), (p_re, .inr (7, [.int re_open, .int re_textAt, .int re_parseAt, .int re_limit, .int re_count, .int re_shown, .ref p_re_codes])), (p_re_codes, .inl (kI, 255, .inl re_codes)), (p_cl, .inr (0, [.int cl_calls, .int cl_stopped, .int cl_every, .int cl_answers, .int cl_answered, .int cl_sinceCall]))]) ⟨hx, hb, hml, hown, hts⟩ (cwV 0 hts gX9_begin_X9_countsCodes rfl rfl rfl (by decide +kernel) ⟨Nat.le_of_ble_eq_true rfl, Nat.le_of_ble_eq_true rfl⟩) hK hP hD hS hA (c_X9_countsCodes l dC dI kI kZ H.size p_z p_me p_pa p_di p_pr p_re p_cl p_li p_ec p_sc z_dictionaryAt z_tableAt z_ended z_version _ h) [0] [1, 2, 3, 4, 5] rfl rfl rfl rfl (by decide) 0 rfl rfl rfl rfl hl.1 (Nat.le_of_ble_eq_true rfl) dX9_begin_64 (Nat.le_refl _) (Nat.le_refl _) (fun r_5 u_5 H locs h hP hD hS => ?_)
            have hP : va_P (dC, dI) vwCl [(p_z, .inr (9, [.int z_version, .ref p_me, .ref p_pa, .ref p_di, .ref p_pr, .ref p_re, .ref p_cl, .ref p_li, .ref p_ec, .ref p_sc, .int z_dictionaryAt, .int z_tableAt, .int z_ended])), (p_me, .inr (4, [.ref p_me_octets])), (p_me_octets, .inl (kI, 4096, .inl me_octets)), (p_re, .inr (7, [.int re_open, .int re_textAt, .int re_parseAt, .int re_limit, .int re_count, .int re_shown, .ref p_re_codes])), (p_re_codes, .inl (kI, 255, .inl re_codes)), (p_cl, .inr (0, [.int cl_calls, .int cl_stopped, .int cl_every, .int cl_answers, .int cl_answered, .int cl_sinceCall]))] H := hP.sub [5, 0, 1, 2, 3, 4] rfl
            have hD : va_D A [(p_z, .inr (9, [.int z_version, .ref p_me, .ref p_pa, .ref p_di, .ref p_pr, .ref p_re, .ref p_cl, .ref p_li, .ref p_ec, .ref p_sc, .int z_dictionaryAt, .int z_tableAt, .int z_ended])), (p_me, .inr (4, [.ref p_me_octets])), (p_me_octets, .inl (kI, 4096, .inl me_octets)), (p_re, .inr (7, [.int re_open, .int re_textAt, .int re_parseAt, .int re_limit, .int re_count, .int re_shown, .ref p_re_codes])), (p_re_codes, .inl (kI, 255, .inl re_codes)), (p_cl, .inr (0, [.int cl_calls, .int cl_stopped, .int cl_every, .int cl_answers, .int cl_answered, .int cl_sinceCall]))] := hD.sub [5, 0, 1, 2, 3, 4] rfl rfl
            have h := h (fun (y_2 : Int32) => ∀ (H : Heap) (locs : List Loc), va_P (dC, dI) vwCl [(p_z, .inr (9, [.int z_version, .ref p_me, .ref p_pa, .ref p_di, .ref p_pr, .ref p_re, .ref p_cl, .ref p_li, .ref p_ec, .ref p_sc, .int z_dictionaryAt, .int z_tableAt, .int z_ended])), (p_me, .inr (4, [.ref p_me_octets])), (p_me_octets, .inl (kI, 4096, .inl me_octets)), (p_re, .inr (7, [.int re_open, .int re_textAt, .int re_parseAt, .int re_limit, .int re_count, .int re_shown, .ref p_re_codes])), (p_re_codes, .inl (kI, 255, .inl re_codes)), (p_cl, .inr (0, [.int cl_calls, .int cl_stopped, .int cl_every, .int cl_answers, .int cl_answered, .int cl_sinceCall]))] H → va_D A [(p_z, .inr (9, [.int z_version, .ref p_me, .ref p_pa, .ref p_di, .ref p_pr, .ref p_re, .ref p_cl, .ref p_li, .ref p_ec, .ref p_sc, .int z_dictionaryAt, .int z_tableAt, .int z_ended])), (p_me, .inr (4, [.ref p_me_octets])), (p_me_octets, .inl (kI, 4096, .inl me_octets)), (p_re, .inr (7, [.int re_open, .int re_textAt, .int re_parseAt, .int re_limit, .int re_count, .int re_shown, .ref p_re_codes])), (p_re_codes, .inl (kI, 255, .inl re_codes)), (p_cl, .inr (0, [.int cl_calls, .int cl_stopped, .int cl_every, .int cl_answers, .int cl_answered, .int cl_sinceCall]))] → va_S A s.heap H locs → ∀ ls : Array Slot, lv_has ls 7 [(0, .ref p_z), (1, .int a1), (2, .int a2), (4, .int y_1)] → W p l e rmX9_begin s m args below meth c H locs 0 0 Q (F0 m 84 ls [.int y_2])) (by
              clear h hP hD hS hl
              intro y_2 h H locs hP hD hS ls hl
              refine lv_istore (lv' := [(5, .int y_2), (0, .ref p_z), (1, .int a1), (2, .int a2), (4, .int y_1)]) hx hb dX9_begin_84 hl (by decide) rfl (fun ls hl => ?_)
              refine lv_iload hx hb dX9_begin_86 (lv_at hl 0 rfl) ?_
              refine lv_iload hx hb dX9_begin_88 (lv_at hl 4 rfl) ?_
              refine lv_icmp_le (tgt := 96) hx hb dX9_begin_90 (by decide) (fun c_ => ?_) (fun c_ => ?_)
              · have h := h.1 c_
                refine lv_aload_n hx hb dX9_begin_96 rfl (lv_at hl 1 rfl) ?_
                refine va_get (D := (dC, dI)) (ci := 9) (v := .ref p_me) (C := RX9) (T := TX9) (N := 13) hx hb hts hi_X9 hown hK hP 0 rfl rfl 1 (by decide) (hts (.fieldLink RX9 27 "ZInput" "memory" "LZInput$Memory;") (List.mem_cons_of_mem _ (List.mem_append_left _ (List.mem_append_left _ (List.mem_append_left _ (List.mem_append_left _ (List.mem_append_left _ (List.mem_of_getElem? (i := 2) rfl)))))))) (fun _ h9 => h9) rfl dX9_begin_97 ?_
                refine lv_iload_n hx hb dX9_begin_100 rfl (lv_at hl 2 rfl) ?_
                refine lv_iconst (v := 1) hx hb dX9_begin_101 (by decide) ?_
                refine lv_iadd hx hb dX9_begin_102 ?_
                refine lv_iload hx hb dX9_begin_103 (lv_at hl 4 rfl) ?_
                refine lv_iconst (v := 1) hx hb dX9_begin_105 (by decide) ?_
                refine lv_iadd hx hb dX9_begin_106 ?_
                refine zz_Vi (As := [.int (a1 + 1), .int (y_1 + 1)]) (rest := []) (wr := [(p_z, .inr (9, [.int z_version, .ref p_me, .ref p_pa, .ref p_di, .ref p_pr, .ref p_re, .ref p_cl, .ref p_li, .ref p_ec, .ref p_sc, .int z_dictionaryAt, .int z_tableAt, .int z_ended])), (p_me_octets, .inl (kI, 4096, .inl me_octets)), (p_re, .inr (7, [.int re_open, .int re_textAt, .int re_parseAt, .int re_limit, .int re_count, .int re_shown, .ref p_re_codes])), (p_re_codes, .inl (kI, 255, .inl re_codes)), (p_cl, .inr (0, [.int cl_calls, .int cl_stopped, .int cl_every, .int cl_answers, .int cl_answered, .int cl_sinceCall]))]) ⟨hx, hb, hml, hown, hts⟩ (cwV 2 hts gX9_begin_X4_holds rfl rfl rfl (by decide +kernel) ⟨Nat.le_of_ble_eq_true rfl, Nat.le_of_ble_eq_true rfl⟩) hK hP hD hS hA (c_X4_holds l dC dI kI kZ H.size p_me p_me_octets (a1 + 1) (y_1 + 1) _ h) [1] [0, 2, 3, 4, 5] rfl rfl rfl rfl (by decide) 0 rfl rfl rfl rfl hl.1 (Nat.le_of_ble_eq_true rfl) dX9_begin_107 (Nat.le_refl _) (Nat.le_refl _) (fun r_6 u_6 H locs h hP hD hS => ?_)
                have hP : va_P (dC, dI) vwCl [(p_z, .inr (9, [.int z_version, .ref p_me, .ref p_pa, .ref p_di, .ref p_pr, .ref p_re, .ref p_cl, .ref p_li, .ref p_ec, .ref p_sc, .int z_dictionaryAt, .int z_tableAt, .int z_ended])), (p_me, .inr (4, [.ref p_me_octets])), (p_me_octets, .inl (kI, 4096, .inl me_octets)), (p_re, .inr (7, [.int re_open, .int re_textAt, .int re_parseAt, .int re_limit, .int re_count, .int re_shown, .ref p_re_codes])), (p_re_codes, .inl (kI, 255, .inl re_codes)), (p_cl, .inr (0, [.int cl_calls, .int cl_stopped, .int cl_every, .int cl_answers, .int cl_answered, .int cl_sinceCall]))] H := hP.sub [0, 5, 1, 2, 3, 4] rfl
                have hD : va_D A [(p_z, .inr (9, [.int z_version, .ref p_me, .ref p_pa, .ref p_di, .ref p_pr, .ref p_re, .ref p_cl, .ref p_li, .ref p_ec, .ref p_sc, .int z_dictionaryAt, .int z_tableAt, .int z_ended])), (p_me, .inr (4, [.ref p_me_octets])), (p_me_octets, .inl (kI, 4096, .inl me_octets)), (p_re, .inr (7, [.int re_open, .int re_textAt, .int re_parseAt, .int re_limit, .int re_count, .int re_shown, .ref p_re_codes])), (p_re_codes, .inl (kI, 255, .inl re_codes)), (p_cl, .inr (0, [.int cl_calls, .int cl_stopped, .int cl_every, .int cl_answers, .int cl_answered, .int cl_sinceCall]))] := hD.sub [0, 5, 1, 2, 3, 4] rfl rfl
                refine lv_if_ne (tgt := 116) hx hb dX9_begin_110 (by decide) (fun c_ => ?_) (fun c_ => ?_)
                · have h := h.1 c_
                  refine lv_aload_n hx hb dX9_begin_116 rfl (lv_at hl 1 rfl) ?_
                  refine va_get (D := (dC, dI)) (ci := 9) (v := .ref p_re) (C := RX9) (T := TX9) (N := 13) hx hb hts hi_X9 hown hK hP 0 rfl rfl 5 (by decide) (hts (.fieldLink RX9 51 "ZInput" "reading" "LZInput$Reading;") (List.mem_cons_of_mem _ (List.mem_append_left _ (List.mem_append_left _ (List.mem_append_left _ (List.mem_append_left _ (List.mem_append_left _ (List.mem_of_getElem? (i := 0) rfl)))))))) (fun _ h9 => h9) rfl dX9_begin_117 ?_
                  refine lv_iload_n hx hb dX9_begin_120 rfl (lv_at hl 2 rfl) ?_
                  refine lv_iload_n hx hb dX9_begin_121 rfl (lv_at hl 3 rfl) ?_
                  refine lv_iload hx hb dX9_begin_122 (lv_at hl 4 rfl) ?_
                  refine zz_Vv (As := [.int a1, .int a2, .int y_1]) (rest := []) (wr := [(p_z, .inr (9, [.int z_version, .ref p_me, .ref p_pa, .ref p_di, .ref p_pr, .ref p_re, .ref p_cl, .ref p_li, .ref p_ec, .ref p_sc, .int z_dictionaryAt, .int z_tableAt, .int z_ended])), (p_me, .inr (4, [.ref p_me_octets])), (p_me_octets, .inl (kI, 4096, .inl me_octets)), (p_re_codes, .inl (kI, 255, .inl re_codes)), (p_cl, .inr (0, [.int cl_calls, .int cl_stopped, .int cl_every, .int cl_answers, .int cl_answered, .int cl_sinceCall]))]) ⟨hx, hb, hml, hown, hts⟩ (cwV 3 hts gX9_begin_X7_start rfl rfl rfl (by decide +kernel) ⟨Nat.le_of_ble_eq_true rfl, Nat.le_of_ble_eq_true rfl⟩) hK hP hD hS hA (c_X7_start l dC dI kI kZ H.size p_re p_re_codes re_open re_textAt re_parseAt re_limit re_count re_shown a1 a2 y_1 _ h) [3] [0, 1, 2, 4, 5] rfl rfl rfl rfl (by decide) 0 rfl rfl rfl rfl hl.1 (Nat.le_of_ble_eq_true rfl) dX9_begin_124 (Nat.le_refl _) (Nat.le_refl _) (fun u_7 H locs h hP hD hS => ?_)
                  obtain ⟨re_open_1, re_textAt_1, re_parseAt_1, re_limit_1, re_count_1, re_shown_1⟩ := u_7
                  have hP : va_P (dC, dI) vwCl [(p_z, .inr (9, [.int z_version, .ref p_me, .ref p_pa, .ref p_di, .ref p_pr, .ref p_re, .ref p_cl, .ref p_li, .ref p_ec, .ref p_sc, .int z_dictionaryAt, .int z_tableAt, .int z_ended])), (p_me, .inr (4, [.ref p_me_octets])), (p_me_octets, .inl (kI, 4096, .inl me_octets)), (p_re, .inr (7, [.int re_open_1, .int re_textAt_1, .int re_parseAt_1, .int re_limit_1, .int re_count_1, .int re_shown_1, .ref p_re_codes])), (p_re_codes, .inl (kI, 255, .inl re_codes)), (p_cl, .inr (0, [.int cl_calls, .int cl_stopped, .int cl_every, .int cl_answers, .int cl_answered, .int cl_sinceCall]))] H := hP.sub [0, 1, 2, 5, 3, 4] rfl
                  have hD : va_D A [(p_z, .inr (9, [.int z_version, .ref p_me, .ref p_pa, .ref p_di, .ref p_pr, .ref p_re, .ref p_cl, .ref p_li, .ref p_ec, .ref p_sc, .int z_dictionaryAt, .int z_tableAt, .int z_ended])), (p_me, .inr (4, [.ref p_me_octets])), (p_me_octets, .inl (kI, 4096, .inl me_octets)), (p_re, .inr (7, [.int re_open_1, .int re_textAt_1, .int re_parseAt_1, .int re_limit_1, .int re_count_1, .int re_shown_1, .ref p_re_codes])), (p_re_codes, .inl (kI, 255, .inl re_codes)), (p_cl, .inr (0, [.int cl_calls, .int cl_stopped, .int cl_every, .int cl_answers, .int cl_answered, .int cl_sinceCall]))] := hD.sub [0, 1, 2, 5, 3, 4] rfl rfl
                  refine lv_iconst (v := 0) hx hb dX9_begin_127 (by decide) ?_
                  refine lv_istore (lv' := [(6, .int 0), (5, .int y_2), (0, .ref p_z), (1, .int a1), (2, .int a2), (4, .int y_1)]) hx hb dX9_begin_128 hl (by decide) rfl (fun ls hl => ?_)
                  refine h (fun (x6_1 : Int32) (re_count_2 : Int32) (re_codes_1 : Nat → Int32) => ∀ (H : Heap) (locs : List Loc), va_P (dC, dI) vwCl [(p_z, .inr (9, [.int z_version, .ref p_me, .ref p_pa, .ref p_di, .ref p_pr, .ref p_re, .ref p_cl, .ref p_li, .ref p_ec, .ref p_sc, .int z_dictionaryAt, .int z_tableAt, .int z_ended])), (p_me, .inr (4, [.ref p_me_octets])), (p_me_octets, .inl (kI, 4096, .inl me_octets)), (p_re, .inr (7, [.int re_open_1, .int re_textAt_1, .int re_parseAt_1, .int re_limit_1, .int re_count_2, .int re_shown_1, .ref p_re_codes])), (p_re_codes, .inl (kI, 255, .inl re_codes_1)), (p_cl, .inr (0, [.int cl_calls, .int cl_stopped, .int cl_every, .int cl_answers, .int cl_answered, .int cl_sinceCall]))] H → va_D A [(p_z, .inr (9, [.int z_version, .ref p_me, .ref p_pa, .ref p_di, .ref p_pr, .ref p_re, .ref p_cl, .ref p_li, .ref p_ec, .ref p_sc, .int z_dictionaryAt, .int z_tableAt, .int z_ended])), (p_me, .inr (4, [.ref p_me_octets])), (p_me_octets, .inl (kI, 4096, .inl me_octets)), (p_re, .inr (7, [.int re_open_1, .int re_textAt_1, .int re_parseAt_1, .int re_limit_1, .int re_count_2, .int re_shown_1, .ref p_re_codes])), (p_re_codes, .inl (kI, 255, .inl re_codes_1)), (p_cl, .inr (0, [.int cl_calls, .int cl_stopped, .int cl_every, .int cl_answers, .int cl_answered, .int cl_sinceCall]))] → va_S A s.heap H locs → ∀ ls : Array Slot, lv_has ls 7 [(0, .ref p_z), (1, .int a1), (4, .int y_1), (5, .int y_2), (6, .int x6_1)] → W p l e rmX9_begin s m args below meth c H locs 0 0 Q (F0 m 130 ls [])) ?_ H locs hP hD hS ls (lv_sub hl [2, 3, 5, 1, 0] rfl)
                  clear h hP hD hS hl
                  intro x6_1 re_count_2 re_codes_1 h H locs hP hD hS ls hl
                  refine lv_iload hx hb dX9_begin_130 (lv_at hl 4 rfl) ?_
                  refine lv_iload hx hb dX9_begin_132 (lv_at hl 3 rfl) ?_
                  refine lv_icmp_ge (tgt := 163) hx hb dX9_begin_134 (by decide) (fun c_ => ?_) (fun c_ => ?_)
                  · have h := h.1 c_
                    refine lv_aload_n hx hb dX9_begin_163 rfl (lv_at hl 0 rfl) ?_
                    refine va_get (D := (dC, dI)) (ci := 9) (v := .ref p_cl) (C := RX9) (T := TX9) (N := 13) hx hb hts hi_X9 hown hK hP 0 rfl rfl 6 (by decide) (hts (.fieldLink RX9 58 "ZInput" "clock" "LZInput$Clock;") (List.mem_cons_of_mem _ (List.mem_append_left _ (List.mem_append_left _ (List.mem_append_left _ (List.mem_append_left _ (List.mem_append_left _ (List.mem_of_getElem? (i := 7) rfl)))))))) (fun _ h9 => h9) rfl dX9_begin_164 ?_
                    refine zz_Vv (As := []) (rest := []) (wr := [(p_z, .inr (9, [.int z_version, .ref p_me, .ref p_pa, .ref p_di, .ref p_pr, .ref p_re, .ref p_cl, .ref p_li, .ref p_ec, .ref p_sc, .int z_dictionaryAt, .int z_tableAt, .int z_ended])), (p_me, .inr (4, [.ref p_me_octets])), (p_me_octets, .inl (kI, 4096, .inl me_octets)), (p_re, .inr (7, [.int re_open_1, .int re_textAt_1, .int re_parseAt_1, .int re_limit_1, .int re_count_2, .int re_shown_1, .ref p_re_codes])), (p_re_codes, .inl (kI, 255, .inl re_codes_1))]) ⟨hx, hb, hml, hown, hts⟩ (cwV 0 hts gX9_begin_X0_restart rfl rfl rfl (by decide +kernel) ⟨Nat.le_of_ble_eq_true rfl, Nat.le_of_ble_eq_true rfl⟩) hK hP hD hS hA (c_X0_restart l dC dI kI kZ H.size p_cl cl_calls cl_stopped cl_every cl_answers cl_answered cl_sinceCall _ h) [5] [0, 1, 2, 3, 4] rfl rfl rfl rfl (by decide) 0 rfl rfl rfl rfl hl.1 (Nat.le_of_ble_eq_true rfl) dX9_begin_167 (Nat.le_refl _) (Nat.le_refl _) (fun u_8 H locs h hP hD hS => ?_)
                    obtain ⟨cl_calls_1, cl_stopped_1, cl_every_1, cl_answers_1, cl_answered_1, cl_sinceCall_1⟩ := u_8
                    have hP : va_P (dC, dI) vwCl [(p_z, .inr (9, [.int z_version, .ref p_me, .ref p_pa, .ref p_di, .ref p_pr, .ref p_re, .ref p_cl, .ref p_li, .ref p_ec, .ref p_sc, .int z_dictionaryAt, .int z_tableAt, .int z_ended])), (p_me, .inr (4, [.ref p_me_octets])), (p_me_octets, .inl (kI, 4096, .inl me_octets)), (p_re, .inr (7, [.int re_open_1, .int re_textAt_1, .int re_parseAt_1, .int re_limit_1, .int re_count_2, .int re_shown_1, .ref p_re_codes])), (p_re_codes, .inl (kI, 255, .inl re_codes_1)), (p_cl, .inr (0, [.int cl_calls_1, .int cl_stopped_1, .int cl_every_1, .int cl_answers_1, .int cl_answered_1, .int cl_sinceCall_1]))] H := hP.sub [0, 1, 2, 3, 4, 5] rfl
                    have hD : va_D A [(p_z, .inr (9, [.int z_version, .ref p_me, .ref p_pa, .ref p_di, .ref p_pr, .ref p_re, .ref p_cl, .ref p_li, .ref p_ec, .ref p_sc, .int z_dictionaryAt, .int z_tableAt, .int z_ended])), (p_me, .inr (4, [.ref p_me_octets])), (p_me_octets, .inl (kI, 4096, .inl me_octets)), (p_re, .inr (7, [.int re_open_1, .int re_textAt_1, .int re_parseAt_1, .int re_limit_1, .int re_count_2, .int re_shown_1, .ref p_re_codes])), (p_re_codes, .inl (kI, 255, .inl re_codes_1)), (p_cl, .inr (0, [.int cl_calls_1, .int cl_stopped_1, .int cl_every_1, .int cl_answers_1, .int cl_answered_1, .int cl_sinceCall_1]))] := hD.sub [0, 1, 2, 3, 4, 5] rfl rfl
                    refine lv_iload hx hb dX9_begin_170 (lv_at hl 2 rfl) ?_
                    exact hR y_1 (re_open_1, re_textAt_1, re_parseAt_1, re_limit_1, re_count_2, re_shown_1, re_codes_1, cl_calls_1, cl_stopped_1, cl_every_1, cl_answers_1, cl_answered_1, cl_sinceCall_1) H locs h hP hD hS _ ls dX9_begin_172
                  · have h := h.2 c_
                    refine lv_aload_n hx hb dX9_begin_137 rfl (lv_at hl 0 rfl) ?_
                    refine va_get (D := (dC, dI)) (ci := 9) (v := .ref p_re) (C := RX9) (T := TX9) (N := 13) hx hb hts hi_X9 hown hK hP 0 rfl rfl 5 (by decide) (hts (.fieldLink RX9 51 "ZInput" "reading" "LZInput$Reading;") (List.mem_cons_of_mem _ (List.mem_append_left _ (List.mem_append_left _ (List.mem_append_left _ (List.mem_append_left _ (List.mem_append_left _ (List.mem_of_getElem? (i := 0) rfl)))))))) (fun _ h9 => h9) rfl dX9_begin_138 ?_
                    refine lv_aload_n hx hb dX9_begin_141 rfl (lv_at hl 0 rfl) ?_
                    refine va_get (D := (dC, dI)) (ci := 9) (v := .ref p_me) (C := RX9) (T := TX9) (N := 13) hx hb hts hi_X9 hown hK hP 0 rfl rfl 1 (by decide) (hts (.fieldLink RX9 27 "ZInput" "memory" "LZInput$Memory;") (List.mem_cons_of_mem _ (List.mem_append_left _ (List.mem_append_left _ (List.mem_append_left _ (List.mem_append_left _ (List.mem_append_left _ (List.mem_of_getElem? (i := 2) rfl)))))))) (fun _ h9 => h9) rfl dX9_begin_142 ?_
                    refine lv_iload_n hx hb dX9_begin_145 rfl (lv_at hl 1 rfl) ?_
                    refine lv_iconst (v := 2) hx hb dX9_begin_146 (by decide) ?_
                    refine lv_iadd hx hb dX9_begin_147 ?_
                    refine lv_iload hx hb dX9_begin_148 (lv_at hl 4 rfl) ?_
                    refine lv_iadd hx hb dX9_begin_150 ?_
                    refine zz_Vi (As := [.int ((a1 + 2) + x6_1)]) (rest := [.ref p_re]) (wr := [(p_z, .inr (9, [.int z_version, .ref p_me, .ref p_pa, .ref p_di, .ref p_pr, .ref p_re, .ref p_cl, .ref p_li, .ref p_ec, .ref p_sc, .int z_dictionaryAt, .int z_tableAt, .int z_ended])), (p_re, .inr (7, [.int re_open_1, .int re_textAt_1, .int re_parseAt_1, .int re_limit_1, .int re_count_2, .int re_shown_1, .ref p_re_codes])), (p_re_codes, .inl (kI, 255, .inl re_codes_1)), (p_cl, .inr (0, [.int cl_calls, .int cl_stopped, .int cl_every, .int cl_answers, .int cl_answered, .int cl_sinceCall]))]) ⟨hx, hb, hml, hown, hts⟩ (cwV 1 hts gX9_begin_X4_octet rfl rfl rfl (by decide +kernel) ⟨Nat.le_of_ble_eq_true rfl, Nat.le_of_ble_eq_true rfl⟩) hK hP hD hS hA (c_X4_octet l dC dI kI kZ H.size p_me p_me_octets me_octets ((a1 + 2) + x6_1) _ h) [1, 2] [0, 3, 4, 5] rfl rfl rfl rfl (by decide) 0 rfl rfl rfl rfl hl.1 (Nat.le_of_ble_eq_true rfl) dX9_begin_151 (Nat.le_refl _) (Nat.le_refl _) (fun r_7 u_9 H locs h hP hD hS => ?_)
                    have hP : va_P (dC, dI) vwCl [(p_z, .inr (9, [.int z_version, .ref p_me, .ref p_pa, .ref p_di, .ref p_pr, .ref p_re, .ref p_cl, .ref p_li, .ref p_ec, .ref p_sc, .int z_dictionaryAt, .int z_tableAt, .int z_ended])), (p_me, .inr (4, [.ref p_me_octets])), (p_me_octets, .inl (kI, 4096, .inl me_octets)), (p_re, .inr (7, [.int re_open_1, .int re_textAt_1, .int re_parseAt_1, .int re_limit_1, .int re_count_2, .int re_shown_1, .ref p_re_codes])), (p_re_codes, .inl (kI, 255, .inl re_codes_1)), (p_cl, .inr (0, [.int cl_calls, .int cl_stopped, .int cl_every, .int cl_answers, .int cl_answered, .int cl_sinceCall]))] H := hP.sub [0, 4, 5, 1, 2, 3] rfl
                    have hD : va_D A [(p_z, .inr (9, [.int z_version, .ref p_me, .ref p_pa, .ref p_di, .ref p_pr, .ref p_re, .ref p_cl, .ref p_li, .ref p_ec, .ref p_sc, .int z_dictionaryAt, .int z_tableAt, .int z_ended])), (p_me, .inr (4, [.ref p_me_octets])), (p_me_octets, .inl (kI, 4096, .inl me_octets)), (p_re, .inr (7, [.int re_open_1, .int re_textAt_1, .int re_parseAt_1, .int re_limit_1, .int re_count_2, .int re_shown_1, .ref p_re_codes])), (p_re_codes, .inl (kI, 255, .inl re_codes_1)), (p_cl, .inr (0, [.int cl_calls, .int cl_stopped, .int cl_every, .int cl_answers, .int cl_answered, .int cl_sinceCall]))] := hD.sub [0, 4, 5, 1, 2, 3] rfl rfl
                    refine zz_Vv (As := [.int r_7]) (rest := []) (wr := [(p_z, .inr (9, [.int z_version, .ref p_me, .ref p_pa, .ref p_di, .ref p_pr, .ref p_re, .ref p_cl, .ref p_li, .ref p_ec, .ref p_sc, .int z_dictionaryAt, .int z_tableAt, .int z_ended])), (p_me, .inr (4, [.ref p_me_octets])), (p_me_octets, .inl (kI, 4096, .inl me_octets)), (p_cl, .inr (0, [.int cl_calls, .int cl_stopped, .int cl_every, .int cl_answers, .int cl_answered, .int cl_sinceCall]))]) ⟨hx, hb, hml, hown, hts⟩ (cwV 1 hts gX9_begin_X7_add rfl rfl rfl (by decide +kernel) ⟨Nat.le_of_ble_eq_true rfl, Nat.le_of_ble_eq_true rfl⟩) hK hP hD hS hA (c_X7_add l dC dI kI kZ H.size p_re p_re_codes re_open_1 re_textAt_1 re_parseAt_1 re_shown_1 re_limit_1 re_count_2 re_codes_1 r_7 _ h) [3, 4] [0, 1, 2, 5] rfl rfl rfl rfl (by decide) 0 rfl rfl rfl rfl hl.1 (Nat.le_of_ble_eq_true rfl) dX9_begin_154 (Nat.le_refl _) (Nat.le_refl _) (fun u_10 H locs h hP hD hS => ?_)
                    obtain ⟨re_count_3, re_codes_2⟩ := u_10
                    have hP : va_P (dC, dI) vwCl [(p_z, .inr (9, [.int z_version, .ref p_me, .ref p_pa, .ref p_di, .ref p_pr, .ref p_re, .ref p_cl, .ref p_li, .ref p_ec, .ref p_sc, .int z_dictionaryAt, .int z_tableAt, .int z_ended])), (p_me, .inr (4, [.ref p_me_octets])), (p_me_octets, .inl (kI, 4096, .inl me_octets)), (p_re, .inr (7, [.int re_open_1, .int re_textAt_1, .int re_parseAt_1, .int re_limit_1, .int re_count_3, .int re_shown_1, .ref p_re_codes])), (p_re_codes, .inl (kI, 255, .inl re_codes_2)), (p_cl, .inr (0, [.int cl_calls, .int cl_stopped, .int cl_every, .int cl_answers, .int cl_answered, .int cl_sinceCall]))] H := hP.sub [0, 1, 2, 4, 5, 3] rfl
                    have hD : va_D A [(p_z, .inr (9, [.int z_version, .ref p_me, .ref p_pa, .ref p_di, .ref p_pr, .ref p_re, .ref p_cl, .ref p_li, .ref p_ec, .ref p_sc, .int z_dictionaryAt, .int z_tableAt, .int z_ended])), (p_me, .inr (4, [.ref p_me_octets])), (p_me_octets, .inl (kI, 4096, .inl me_octets)), (p_re, .inr (7, [.int re_open_1, .int re_textAt_1, .int re_parseAt_1, .int re_limit_1, .int re_count_3, .int re_shown_1, .ref p_re_codes])), (p_re_codes, .inl (kI, 255, .inl re_codes_2)), (p_cl, .inr (0, [.int cl_calls, .int cl_stopped, .int cl_every, .int cl_answers, .int cl_answered, .int cl_sinceCall]))] := hD.sub [0, 1, 2, 4, 5, 3] rfl rfl
                    refine lv_iinc (v := (x6_1 + 1)) (lv' := [(6, .int (x6_1 + 1)), (0, .ref p_z), (1, .int a1), (4, .int y_1), (5, .int y_2)]) hx hb dX9_begin_157 hl (k := 4) rfl rfl (by decide) rfl (fun ls hl => ?_)
                    refine lv_goto (tgt := 130) hx hb dX9_begin_160 (by decide) ?_
                    exact h H locs hP hD hS ls (lv_sub hl [1, 2, 3, 4, 0] rfl)
                · have h := h.2 c_
                  refine lv_bipush (v := (-3)) hx hb dX9_begin_113 (by decide) ?_
                  exact hR (-3) (re_open, re_textAt, re_parseAt, re_limit, re_count, re_shown, re_codes, cl_calls, cl_stopped, cl_every, cl_answers, cl_answered, cl_sinceCall) H locs h hP hD hS _ ls dX9_begin_115
              · have h := h.2 c_
                refine lv_bipush (v := (-2)) hx hb dX9_begin_93 (by decide) ?_
                exact hR (-2) (re_open, re_textAt, re_parseAt, re_limit, re_count, re_shown, re_codes, cl_calls, cl_stopped, cl_every, cl_answers, cl_answered, cl_sinceCall) H locs h hP hD hS _ ls dX9_begin_95)
            refine lv_if_eq (tgt := 83) hx hb dX9_begin_67 (by decide) (fun c_ => ?_) (fun c_ => ?_)
            · have h := h.1 c_
              refine lv_iconst (v := 0) hx hb dX9_begin_83 (by decide) ?_
              exact h H locs hP hD hS ls (lv_sub hl [1, 2, 3, 0] rfl)
            · have h := h.2 c_
              refine lv_aload_n hx hb dX9_begin_70 rfl (lv_at hl 1 rfl) ?_
              refine va_get (D := (dC, dI)) (ci := 9) (v := .ref p_me) (C := RX9) (T := TX9) (N := 13) hx hb hts hi_X9 hown hK hP 0 rfl rfl 1 (by decide) (hts (.fieldLink RX9 27 "ZInput" "memory" "LZInput$Memory;") (List.mem_cons_of_mem _ (List.mem_append_left _ (List.mem_append_left _ (List.mem_append_left _ (List.mem_append_left _ (List.mem_append_left _ (List.mem_of_getElem? (i := 2) rfl)))))))) (fun _ h9 => h9) rfl dX9_begin_71 ?_
              refine lv_iload_n hx hb dX9_begin_74 rfl (lv_at hl 2 rfl) ?_
              refine lv_iconst (v := 1) hx hb dX9_begin_75 (by decide) ?_
              refine lv_iadd hx hb dX9_begin_76 ?_
              refine zz_Vi (As := [.int (a1 + 1)]) (rest := []) (wr := [(p_z, .inr (9, [.int z_version, .ref p_me, .ref p_pa, .ref p_di, .ref p_pr, .ref p_re, .ref p_cl, .ref p_li, .ref p_ec, .ref p_sc, .int z_dictionaryAt, .int z_tableAt, .int z_ended])), (p_re, .inr (7, [.int re_open, .int re_textAt, .int re_parseAt, .int re_limit, .int re_count, .int re_shown, .ref p_re_codes])), (p_re_codes, .inl (kI, 255, .inl re_codes)), (p_cl, .inr (0, [.int cl_calls, .int cl_stopped, .int cl_every, .int cl_answers, .int cl_answered, .int cl_sinceCall]))]) ⟨hx, hb, hml, hown, hts⟩ (cwV 1 hts gX9_begin_X4_octet rfl rfl rfl (by decide +kernel) ⟨Nat.le_of_ble_eq_true rfl, Nat.le_of_ble_eq_true rfl⟩) hK hP hD hS hA (c_X4_octet l dC dI kI kZ H.size p_me p_me_octets me_octets (a1 + 1) _ h) [1, 2] [0, 3, 4, 5] rfl rfl rfl rfl (by decide) 0 rfl rfl rfl rfl hl.1 (Nat.le_of_ble_eq_true rfl) dX9_begin_77 (Nat.le_refl _) (Nat.le_refl _) (fun r_8 u_11 H locs h hP hD hS => ?_)
              have hP : va_P (dC, dI) vwCl [(p_z, .inr (9, [.int z_version, .ref p_me, .ref p_pa, .ref p_di, .ref p_pr, .ref p_re, .ref p_cl, .ref p_li, .ref p_ec, .ref p_sc, .int z_dictionaryAt, .int z_tableAt, .int z_ended])), (p_me, .inr (4, [.ref p_me_octets])), (p_me_octets, .inl (kI, 4096, .inl me_octets)), (p_re, .inr (7, [.int re_open, .int re_textAt, .int re_parseAt, .int re_limit, .int re_count, .int re_shown, .ref p_re_codes])), (p_re_codes, .inl (kI, 255, .inl re_codes)), (p_cl, .inr (0, [.int cl_calls, .int cl_stopped, .int cl_every, .int cl_answers, .int cl_answered, .int cl_sinceCall]))] H := hP.sub [0, 4, 5, 1, 2, 3] rfl
              have hD : va_D A [(p_z, .inr (9, [.int z_version, .ref p_me, .ref p_pa, .ref p_di, .ref p_pr, .ref p_re, .ref p_cl, .ref p_li, .ref p_ec, .ref p_sc, .int z_dictionaryAt, .int z_tableAt, .int z_ended])), (p_me, .inr (4, [.ref p_me_octets])), (p_me_octets, .inl (kI, 4096, .inl me_octets)), (p_re, .inr (7, [.int re_open, .int re_textAt, .int re_parseAt, .int re_limit, .int re_count, .int re_shown, .ref p_re_codes])), (p_re_codes, .inl (kI, 255, .inl re_codes)), (p_cl, .inr (0, [.int cl_calls, .int cl_stopped, .int cl_every, .int cl_answers, .int cl_answered, .int cl_sinceCall]))] := hD.sub [0, 4, 5, 1, 2, 3] rfl rfl
              refine lv_goto (tgt := 84) hx hb dX9_begin_80 (by decide) ?_
              exact h H locs hP hD hS ls (lv_sub hl [1, 2, 3, 0] rfl))
          refine lv_if_eq (tgt := 54) hx hb dX9_begin_47 (by decide) (fun c_ => ?_) (fun c_ => ?_)
          · have h := h.1 c_
            refine lv_iload_n hx hb dX9_begin_54 rfl (lv_at hl 0 rfl) ?_
            refine lv_iconst (v := 1) hx hb dX9_begin_55 (by decide) ?_
            refine lv_isub hx hb dX9_begin_56 ?_
            refine lv_iconst (v := 0) hx hb dX9_begin_57 (by decide) ?_
            refine va_mmax hx hb (hml.trans hl.1.symm) hown (hts (.methodLink RX9 130 Lib.Math.max.name) (List.mem_cons_of_mem _ (List.mem_append_left _ (List.mem_append_left _ (List.mem_append_left _ (List.mem_append_left _ (List.mem_append_left _ (List.mem_of_getElem? (i := 3) rfl)))))))) (hts (.static Lib.Math.max.name) (List.mem_cons_of_mem _ (List.mem_append_left _ (List.mem_append_left _ (List.mem_append_left _ (List.mem_append_left _ (List.mem_append_left _ (List.mem_of_getElem? (i := 4) rfl)))))))) (hts (.initialized "java/lang/Math") (List.mem_cons_of_mem _ (List.mem_append_left _ (List.mem_append_left _ (List.mem_append_left _ (List.mem_append_left _ (List.mem_append_left _ (List.mem_of_getElem? (i := 5) rfl)))))))) (hts (.code Lib.Math.max.name Lib.Math.max.code 2 (some .int)) (List.mem_cons_of_mem _ (List.mem_append_left _ (List.mem_append_left _ (List.mem_append_left _ (List.mem_append_left _ (List.mem_append_left _ (List.mem_of_getElem? (i := 6) rfl)))))))) (Nat.le_of_ble_eq_true rfl) (Nat.le_of_ble_eq_true rfl) (Nat.le_refl _) (Nat.le_refl _) dX9_begin_58 ?_
            exact h H locs hP hD hS ls (lv_sub hl [1, 2, 3] rfl)
          · have h := h.2 c_
            refine lv_iload_n hx hb dX9_begin_50 rfl (lv_at hl 0 rfl) ?_
            refine lv_goto (tgt := 61) hx hb dX9_begin_51 (by decide) ?_
            exact h H locs hP hD hS ls (lv_sub hl [1, 2, 3] rfl)
        · have h := h.2 c_
          refine lv_bipush (v := (-2)) hx hb dX9_begin_31 (by decide) ?_
          exact hR (-2) (re_open, re_textAt, re_parseAt, re_limit, re_count, re_shown, re_codes, cl_calls, cl_stopped, cl_every, cl_answers, cl_answered, cl_sinceCall) H locs h hP hD hS _ ls dX9_begin_33
  · have h := h.2 c_
    refine lv_iconst (v := (-1)) hx hb dX9_begin_10 (by decide) ?_
    exact hR (-1) (re_open, re_textAt, re_parseAt, re_limit, re_count, re_shown, re_codes, cl_calls, cl_stopped, cl_every, cl_answers, cl_answered, cl_sinceCall) H locs h hP hD hS _ ls dX9_begin_11
def wp_X9_close (z_ended : Int32) (re_open : Int32) (a1 : Int32) (K : Int32 → Int32 → Prop) : Prop :=
  K a1 0
abbrev rmX9_close : Room := { frames := 0, cells := 0, slots := 0, locals := 0 }
set_option maxHeartbeats 4000000 in
set_option maxRecDepth 100000 in
theorem c_X9_close (l : Launch) (dC : Nat → ClassId) (dI : Nat → Nat → Nat) (kI kZ : ClassId) (sz : Nat) (p_z : Nat) (p_me : Nat) (p_pa : Nat) (p_di : Nat) (p_pr : Nat) (p_re : Nat) (p_cl : Nat) (p_li : Nat) (p_ec : Nat) (p_sc : Nat) (p_re_codes : Nat) (z_version : Int32) (z_dictionaryAt : Int32) (z_tableAt : Int32) (re_textAt : Int32) (re_parseAt : Int32) (re_limit : Int32) (re_count : Int32) (re_shown : Int32) (z_ended : Int32) (re_open : Int32) (a1 : Int32) (K : Int32 → Int32 → Prop) (h : wp_X9_close z_ended re_open a1 K) : Met l yX9_close wsX9_close rmX9_close (va_Pc [.ref p_z, .int a1] (zP (dC, dI) (zT kI kZ) sz [(p_z, .inr (9, [.int z_version, .ref p_me, .ref p_pa, .ref p_di, .ref p_pr, .ref p_re, .ref p_cl, .ref p_li, .ref p_ec, .ref p_sc, .int z_dictionaryAt, .int z_tableAt, .int z_ended])), (p_re, .inr (7, [.int re_open, .int re_textAt, .int re_parseAt, .int re_limit, .int re_count, .int re_shown, .ref p_re_codes]))])) (va_Qv (fun (u : Int32 × Int32) => K u.1 u.2) (fun (u : Int32 × Int32) => zB (dC, dI) (zT kI kZ) (va_A [(p_z, .inr (9, [.int z_version, .ref p_me, .ref p_pa, .ref p_di, .ref p_pr, .ref p_re, .ref p_cl, .ref p_li, .ref p_ec, .ref p_sc, .int z_dictionaryAt, .int z_tableAt, .int z_ended])), (p_re, .inr (7, [.int re_open, .int re_textAt, .int re_parseAt, .int re_limit, .int re_count, .int re_shown, .ref p_re_codes]))] sz) [(p_z, .inr (9, [.int z_version, .ref p_me, .ref p_pa, .ref p_di, .ref p_pr, .ref p_re, .ref p_cl, .ref p_li, .ref p_ec, .ref p_sc, .int z_dictionaryAt, .int z_tableAt, .int u.1])), (p_re, .inr (7, [.int u.2, .int re_textAt, .int re_parseAt, .int re_limit, .int re_count, .int re_shown, .ref p_re_codes]))]) (va_A [(p_z, .inr (9, [.int z_version, .ref p_me, .ref p_pa, .ref p_di, .ref p_pr, .ref p_re, .ref p_cl, .ref p_li, .ref p_ec, .ref p_sc, .int z_dictionaryAt, .int z_tableAt, .int z_ended])), (p_re, .inr (7, [.int re_open, .int re_textAt, .int re_parseAt, .int re_limit, .int re_count, .int re_shown, .ref p_re_codes]))] sz)) 0 0 (va_A [(p_z, .inr (9, [.int z_version, .ref p_me, .ref p_pa, .ref p_di, .ref p_pr, .ref p_re, .ref p_cl, .ref p_li, .ref p_ec, .ref p_sc, .int z_dictionaryAt, .int z_tableAt, .int z_ended])), (p_re, .inr (7, [.int re_open, .int re_textAt, .int re_parseAt, .int re_limit, .int re_count, .int re_shown, .ref p_re_codes]))] sz) := by
  refine zz_ofv (cc := cX9_close) (maxL := 2) (by decide) rfl (Nat.le_of_ble_eq_true rfl) ?_
  intro p e s m args below meth c A Q ls hx hb hml hown hts hK hA hR hP hD hS hl
  have hown : s.vm.findClass RX9 = some m.cls := hown
  have hl : lv_has ls 2 [(0, .ref p_z), (1, .int a1)] := hl
  have hi_X9 : ∀ w ∈ wsX90, w ∈ wsX9_close := fun _ h => (List.mem_cons_of_mem _ (List.mem_append_left _ (List.mem_append_right _ h)))
  have hi_X7 : ∀ w ∈ wsX70, w ∈ wsX9_close := fun _ h => (List.mem_cons_of_mem _ (List.mem_append_right _ h))
  unfold wp_X9_close at h
  obtain ⟨H, eH⟩ : ∃ H, H = s.heap := ⟨_, rfl⟩
  obtain ⟨locs, eL⟩ : ∃ L : List Loc, L = [] := ⟨_, rfl⟩
  rw [← eL]
  have hS : va_S A s.heap s.heap locs := by rw [eL]; exact hS
  suffices hgo : ∀ H : Heap, va_P (dC, dI) vwCl [(p_z, .inr (9, [.int z_version, .ref p_me, .ref p_pa, .ref p_di, .ref p_pr, .ref p_re, .ref p_cl, .ref p_li, .ref p_ec, .ref p_sc, .int z_dictionaryAt, .int z_tableAt, .int z_ended])), (p_re, .inr (7, [.int re_open, .int re_textAt, .int re_parseAt, .int re_limit, .int re_count, .int re_shown, .ref p_re_codes]))] H → va_S A s.heap H locs → W p l e rmX9_close s m args below meth c H locs 0 0 Q (F0 m 0 ls []) from hgo _ hP hS
  clear hP hS eH H eL
  intro H hP hS
  refine lv_aload_n hx hb dX9_close_0 rfl (lv_at hl 0 rfl) ?_
  refine va_get (D := (dC, dI)) (ci := 9) (v := .ref p_re) (C := RX9) (T := TX9) (N := 13) hx hb hts hi_X9 hown hK hP 0 rfl rfl 5 (by decide) (hts (.fieldLink RX9 51 "ZInput" "reading" "LZInput$Reading;") (List.mem_cons_of_mem _ (List.mem_append_left _ (List.mem_append_left _ (List.mem_of_getElem? (i := 0) rfl))))) (fun _ h9 => h9) rfl dX9_close_1 ?_
  refine lv_iconst (v := 0) hx hb dX9_close_4 (by decide) ?_
  refine va_put (D := (dC, dI)) (ci := 7) (v := .int 0) (ty := .boolean) (C := RX7) (T := TX7) (N := 7) hx hb hts hi_X7 tyX7 tyX7_ok nmX7 hown hK hP hD hS 1 rfl rfl 0 (by decide) (hts (.fieldLink RX9 123 "ZInput$Reading" "open" "Z") (List.mem_cons_of_mem _ (List.mem_append_left _ (List.mem_append_left _ (List.mem_of_getElem? (i := 1) rfl))))) (fun _ h9 => h9) rfl (by decide +kernel) rfl rfl (Nat.le_of_ble_eq_true rfl) dX9_close_5 (fun H locs hP hD hS => ?_)
  have hP : va_P (dC, dI) vwCl [(p_z, .inr (9, [.int z_version, .ref p_me, .ref p_pa, .ref p_di, .ref p_pr, .ref p_re, .ref p_cl, .ref p_li, .ref p_ec, .ref p_sc, .int z_dictionaryAt, .int z_tableAt, .int z_ended])), (p_re, .inr (7, [.int 0, .int re_textAt, .int re_parseAt, .int re_limit, .int re_count, .int re_shown, .ref p_re_codes]))] H := hP
  have hD : va_D A [(p_z, .inr (9, [.int z_version, .ref p_me, .ref p_pa, .ref p_di, .ref p_pr, .ref p_re, .ref p_cl, .ref p_li, .ref p_ec, .ref p_sc, .int z_dictionaryAt, .int z_tableAt, .int z_ended])), (p_re, .inr (7, [.int 0, .int re_textAt, .int re_parseAt, .int re_limit, .int re_count, .int re_shown, .ref p_re_codes]))] := hD
  refine lv_aload_n hx hb dX9_close_8 rfl (lv_at hl 0 rfl) ?_
  refine lv_iload_n hx hb dX9_close_9 rfl (lv_at hl 1 rfl) ?_
  refine va_put (D := (dC, dI)) (ci := 9) (v := .int a1) (ty := .int) (C := RX9) (T := TX9) (N := 13) hx hb hts hi_X9 tyX9 tyX9_ok nmX9 hown hK hP hD hS 0 rfl rfl 12 (by decide) (hts (.fieldLink RX9 89 "ZInput" "ended" "I") (List.mem_cons_of_mem _ (List.mem_append_left _ (List.mem_append_left _ (List.mem_of_getElem? (i := 2) rfl))))) (fun _ h9 => h9) rfl (by decide +kernel) rfl rfl (Nat.le_of_ble_eq_true rfl) dX9_close_10 (fun H locs hP hD hS => ?_)
  have hP : va_P (dC, dI) vwCl [(p_z, .inr (9, [.int z_version, .ref p_me, .ref p_pa, .ref p_di, .ref p_pr, .ref p_re, .ref p_cl, .ref p_li, .ref p_ec, .ref p_sc, .int z_dictionaryAt, .int z_tableAt, .int a1])), (p_re, .inr (7, [.int 0, .int re_textAt, .int re_parseAt, .int re_limit, .int re_count, .int re_shown, .ref p_re_codes]))] H := hP
  have hD : va_D A [(p_z, .inr (9, [.int z_version, .ref p_me, .ref p_pa, .ref p_di, .ref p_pr, .ref p_re, .ref p_cl, .ref p_li, .ref p_ec, .ref p_sc, .int z_dictionaryAt, .int z_tableAt, .int a1])), (p_re, .inr (7, [.int 0, .int re_textAt, .int re_parseAt, .int re_limit, .int re_count, .int re_shown, .ref p_re_codes]))] := hD
  exact hR (a1, 0) H locs h hP hD hS _ ls dX9_close_13
def wp_X9_echo (ec_total : Int32) (ec_codes : Nat → Int32) (a1 : Int32) (K : Int32 → Prop) : Prop :=
  wp_X2_has ec_total a1 (fun (r_1 : Int32) => ((r_1 = 0) → (K (-2))) ∧ ((¬ r_1 = 0) → (wp_X2_code ec_codes a1 (fun (r_2 : Int32) => K r_2))))
abbrev rmX9_echo : Room := { frames := 1, cells := 0, slots := 0, locals := 22 }
set_option maxHeartbeats 4000000 in
set_option maxRecDepth 100000 in
theorem c_X9_echo (l : Launch) (dC : Nat → ClassId) (dI : Nat → Nat → Nat) (kI kZ : ClassId) (sz : Nat) (p_z : Nat) (p_me : Nat) (p_pa : Nat) (p_di : Nat) (p_pr : Nat) (p_re : Nat) (p_cl : Nat) (p_li : Nat) (p_ec : Nat) (p_sc : Nat) (p_ec_codes : Nat) (z_version : Int32) (z_dictionaryAt : Int32) (z_tableAt : Int32) (z_ended : Int32) (ec_total : Int32) (ec_codes : Nat → Int32) (a1 : Int32) (K : Int32 → Prop) (h : wp_X9_echo ec_total ec_codes a1 K) : Met l yX9_echo wsX9_echo rmX9_echo (va_Pc [.ref p_z, .int a1] (zP (dC, dI) (zT kI kZ) sz [(p_z, .inr (9, [.int z_version, .ref p_me, .ref p_pa, .ref p_di, .ref p_pr, .ref p_re, .ref p_cl, .ref p_li, .ref p_ec, .ref p_sc, .int z_dictionaryAt, .int z_tableAt, .int z_ended])), (p_ec, .inr (2, [.int ec_total, .ref p_ec_codes])), (p_ec_codes, .inl (kI, 2000, .inl ec_codes))])) (va_Qi (fun (r : Int32) (u : Unit) => K r) (fun (u : Unit) => zB (dC, dI) (zT kI kZ) (va_A [(p_z, .inr (9, [.int z_version, .ref p_me, .ref p_pa, .ref p_di, .ref p_pr, .ref p_re, .ref p_cl, .ref p_li, .ref p_ec, .ref p_sc, .int z_dictionaryAt, .int z_tableAt, .int z_ended])), (p_ec, .inr (2, [.int ec_total, .ref p_ec_codes])), (p_ec_codes, .inl (kI, 2000, .inl ec_codes))] sz) [(p_z, .inr (9, [.int z_version, .ref p_me, .ref p_pa, .ref p_di, .ref p_pr, .ref p_re, .ref p_cl, .ref p_li, .ref p_ec, .ref p_sc, .int z_dictionaryAt, .int z_tableAt, .int z_ended])), (p_ec, .inr (2, [.int ec_total, .ref p_ec_codes])), (p_ec_codes, .inl (kI, 2000, .inl ec_codes))]) (va_A [(p_z, .inr (9, [.int z_version, .ref p_me, .ref p_pa, .ref p_di, .ref p_pr, .ref p_re, .ref p_cl, .ref p_li, .ref p_ec, .ref p_sc, .int z_dictionaryAt, .int z_tableAt, .int z_ended])), (p_ec, .inr (2, [.int ec_total, .ref p_ec_codes])), (p_ec_codes, .inl (kI, 2000, .inl ec_codes))] sz)) 0 0 (va_A [(p_z, .inr (9, [.int z_version, .ref p_me, .ref p_pa, .ref p_di, .ref p_pr, .ref p_re, .ref p_cl, .ref p_li, .ref p_ec, .ref p_sc, .int z_dictionaryAt, .int z_tableAt, .int z_ended])), (p_ec, .inr (2, [.int ec_total, .ref p_ec_codes])), (p_ec_codes, .inl (kI, 2000, .inl ec_codes))] sz) := by
  refine zz_ofi (cc := cX9_echo) (maxL := 2) (by decide) rfl (Nat.le_of_ble_eq_true rfl) ?_
  intro p e s m args below meth c A Q ls hx hb hml hown hts hK hA hR hP hD hS hl
  have hown : s.vm.findClass RX9 = some m.cls := hown
  have hl : lv_has ls 2 [(0, .ref p_z), (1, .int a1)] := hl
  have hi_X9 : ∀ w ∈ wsX90, w ∈ wsX9_echo := fun _ h => (List.mem_cons_of_mem _ (List.mem_append_left _ (List.mem_append_right _ h)))
  unfold wp_X9_echo at h
  obtain ⟨H, eH⟩ : ∃ H, H = s.heap := ⟨_, rfl⟩
  obtain ⟨locs, eL⟩ : ∃ L : List Loc, L = [] := ⟨_, rfl⟩
  rw [← eL]
  have hS : va_S A s.heap s.heap locs := by rw [eL]; exact hS
  suffices hgo : ∀ H : Heap, va_P (dC, dI) vwCl [(p_z, .inr (9, [.int z_version, .ref p_me, .ref p_pa, .ref p_di, .ref p_pr, .ref p_re, .ref p_cl, .ref p_li, .ref p_ec, .ref p_sc, .int z_dictionaryAt, .int z_tableAt, .int z_ended])), (p_ec, .inr (2, [.int ec_total, .ref p_ec_codes])), (p_ec_codes, .inl (kI, 2000, .inl ec_codes))] H → va_S A s.heap H locs → W p l e rmX9_echo s m args below meth c H locs 0 0 Q (F0 m 0 ls []) from hgo _ hP hS
  clear hP hS eH H eL
  intro H hP hS
  refine lv_aload_n hx hb dX9_echo_0 rfl (lv_at hl 0 rfl) ?_
  refine va_get (D := (dC, dI)) (ci := 9) (v := .ref p_ec) (C := RX9) (T := TX9) (N := 13) hx hb hts hi_X9 hown hK hP 0 rfl rfl 8 (by decide) (hts (.fieldLink RX9 72 "ZInput" "echoed" "LZInput$Echo;") (List.mem_cons_of_mem _ (List.mem_append_left _ (List.mem_append_left _ (List.mem_of_getElem? (i := 0) rfl))))) (fun _ h9 => h9) rfl dX9_echo_1 ?_
  refine lv_iload_n hx hb dX9_echo_4 rfl (lv_at hl 1 rfl) ?_
  refine zz_Vi (As := [.int a1]) (rest := []) (wr := [(p_z, .inr (9, [.int z_version, .ref p_me, .ref p_pa, .ref p_di, .ref p_pr, .ref p_re, .ref p_cl, .ref p_li, .ref p_ec, .ref p_sc, .int z_dictionaryAt, .int z_tableAt, .int z_ended])), (p_ec_codes, .inl (kI, 2000, .inl ec_codes))]) ⟨hx, hb, hml, hown, hts⟩ (cwV 1 hts gX9_echo_X2_has rfl rfl rfl (by decide +kernel) ⟨Nat.le_of_ble_eq_true rfl, Nat.le_of_ble_eq_true rfl⟩) hK hP hD hS hA (c_X2_has l dC dI kI kZ H.size p_ec p_ec_codes ec_total a1 _ h) [1] [0, 2] rfl rfl rfl rfl (by decide) 0 rfl rfl rfl rfl hl.1 (Nat.le_of_ble_eq_true rfl) dX9_echo_5 (Nat.le_refl _) (Nat.le_refl _) (fun r_1 u_1 H locs h hP hD hS => ?_)
  have hP : va_P (dC, dI) vwCl [(p_z, .inr (9, [.int z_version, .ref p_me, .ref p_pa, .ref p_di, .ref p_pr, .ref p_re, .ref p_cl, .ref p_li, .ref p_ec, .ref p_sc, .int z_dictionaryAt, .int z_tableAt, .int z_ended])), (p_ec, .inr (2, [.int ec_total, .ref p_ec_codes])), (p_ec_codes, .inl (kI, 2000, .inl ec_codes))] H := hP.sub [0, 2, 1] rfl
  have hD : va_D A [(p_z, .inr (9, [.int z_version, .ref p_me, .ref p_pa, .ref p_di, .ref p_pr, .ref p_re, .ref p_cl, .ref p_li, .ref p_ec, .ref p_sc, .int z_dictionaryAt, .int z_tableAt, .int z_ended])), (p_ec, .inr (2, [.int ec_total, .ref p_ec_codes])), (p_ec_codes, .inl (kI, 2000, .inl ec_codes))] := hD.sub [0, 2, 1] rfl rfl
  refine lv_if_eq (tgt := 22) hx hb dX9_echo_8 (by decide) (fun c_ => ?_) (fun c_ => ?_)
  · have h := h.1 c_
    refine lv_bipush (v := (-2)) hx hb dX9_echo_22 (by decide) ?_
    exact hR (-2) () H locs h hP hD hS _ ls dX9_echo_24
  · have h := h.2 c_
    refine lv_aload_n hx hb dX9_echo_11 rfl (lv_at hl 0 rfl) ?_
    refine va_get (D := (dC, dI)) (ci := 9) (v := .ref p_ec) (C := RX9) (T := TX9) (N := 13) hx hb hts hi_X9 hown hK hP 0 rfl rfl 8 (by decide) (hts (.fieldLink RX9 72 "ZInput" "echoed" "LZInput$Echo;") (List.mem_cons_of_mem _ (List.mem_append_left _ (List.mem_append_left _ (List.mem_of_getElem? (i := 0) rfl))))) (fun _ h9 => h9) rfl dX9_echo_12 ?_
    refine lv_iload_n hx hb dX9_echo_15 rfl (lv_at hl 1 rfl) ?_
    refine zz_Vi (As := [.int a1]) (rest := []) (wr := [(p_z, .inr (9, [.int z_version, .ref p_me, .ref p_pa, .ref p_di, .ref p_pr, .ref p_re, .ref p_cl, .ref p_li, .ref p_ec, .ref p_sc, .int z_dictionaryAt, .int z_tableAt, .int z_ended]))]) ⟨hx, hb, hml, hown, hts⟩ (cwV 1 hts gX9_echo_X2_code rfl rfl rfl (by decide +kernel) ⟨Nat.le_of_ble_eq_true rfl, Nat.le_of_ble_eq_true rfl⟩) hK hP hD hS hA (c_X2_code l dC dI kI kZ H.size p_ec p_ec_codes ec_total ec_codes a1 _ h) [1, 2] [0] rfl rfl rfl rfl (by decide) 0 rfl rfl rfl rfl hl.1 (Nat.le_of_ble_eq_true rfl) dX9_echo_16 (Nat.le_refl _) (Nat.le_refl _) (fun r_2 u_2 H locs h hP hD hS => ?_)
    have hP : va_P (dC, dI) vwCl [(p_z, .inr (9, [.int z_version, .ref p_me, .ref p_pa, .ref p_di, .ref p_pr, .ref p_re, .ref p_cl, .ref p_li, .ref p_ec, .ref p_sc, .int z_dictionaryAt, .int z_tableAt, .int z_ended])), (p_ec, .inr (2, [.int ec_total, .ref p_ec_codes])), (p_ec_codes, .inl (kI, 2000, .inl ec_codes))] H := hP.sub [0, 1, 2] rfl
    have hD : va_D A [(p_z, .inr (9, [.int z_version, .ref p_me, .ref p_pa, .ref p_di, .ref p_pr, .ref p_re, .ref p_cl, .ref p_li, .ref p_ec, .ref p_sc, .int z_dictionaryAt, .int z_tableAt, .int z_ended])), (p_ec, .inr (2, [.int ec_total, .ref p_ec_codes])), (p_ec_codes, .inl (kI, 2000, .inl ec_codes))] := hD.sub [0, 1, 2] rfl rfl
    refine lv_goto (tgt := 24) hx hb dX9_echo_19 (by decide) ?_
    exact hR r_2 () H locs h hP hD hS _ ls dX9_echo_24
def wp_X9_layDownCodes (z_version : Int32) (me_octets : Nat → Int32) (re_textAt : Int32) (re_count : Int32) (re_codes : Nat → Int32) (K : (Nat → Int32) → Prop) : Prop :=
  wp_X9_countsCodes z_version (fun (r_1 : Int32) => ∀ J19 : Int32 → Int32 → Prop, (∀ (y_1 : Int32) (y_2 : Int32), (∀ v_1 : Int32, v_1 = (y_2 + y_1) → (∀ L23 : Int32 → (Nat → Int32) → Prop, (∀ (x2_1 : Int32) (me_octets_1 : Nat → Int32), (((re_count ≤ x2_1) → (wp_X9_countsCodes z_version (fun (r_2 : Int32) => ((r_2 = 0) → (wp_X4_setOctet me_octets_1 (v_1 + re_count) 0 (fun (me_octets_2 : Nat → Int32) => K me_octets_2))) ∧ ((¬ r_2 = 0) → (wp_X4_setOctet me_octets_1 (re_textAt + 1) re_count (fun (me_octets_3 : Nat → Int32) => K me_octets_3)))))) ∧ ((¬ re_count ≤ x2_1) → (wp_X7_code re_count re_codes x2_1 (fun (r_3 : Int32) => wp_X4_setOctet me_octets_1 (v_1 + x2_1) r_3 (fun (me_octets_4 : Nat → Int32) => L23 (x2_1 + 1) me_octets_4))))) → L23 x2_1 me_octets_1) → L23 0 me_octets)) → J19 y_1 y_2) → (((r_1 = 0) → (J19 1 re_textAt)) ∧ ((¬ r_1 = 0) → (J19 2 re_textAt))))
abbrev rmX9_layDownCodes : Room := { frames := 1, cells := 0, slots := 0, locals := 22 }
set_option maxHeartbeats 4000000 in
set_option maxRecDepth 100000 in
theorem c_X9_layDownCodes (l : Launch) (dC : Nat → ClassId) (dI : Nat → Nat → Nat) (kI kZ : ClassId) (sz : Nat) (p_z : Nat) (p_me : Nat) (p_pa : Nat) (p_di : Nat) (p_pr : Nat) (p_re : Nat) (p_cl : Nat) (p_li : Nat) (p_ec : Nat) (p_sc : Nat) (p_me_octets : Nat) (p_re_codes : Nat) (z_dictionaryAt : Int32) (z_tableAt : Int32) (z_ended : Int32) (re_open : Int32) (re_parseAt : Int32) (re_limit : Int32) (re_shown : Int32) (z_version : Int32) (me_octets : Nat → Int32) (re_textAt : Int32) (re_count : Int32) (re_codes : Nat → Int32) (K : (Nat → Int32) → Prop) (h : wp_X9_layDownCodes z_version me_octets re_textAt re_count re_codes K) : Met l yX9_layDownCodes wsX9_layDownCodes rmX9_layDownCodes (va_Pc [.ref p_z] (zP (dC, dI) (zT kI kZ) sz [(p_z, .inr (9, [.int z_version, .ref p_me, .ref p_pa, .ref p_di, .ref p_pr, .ref p_re, .ref p_cl, .ref p_li, .ref p_ec, .ref p_sc, .int z_dictionaryAt, .int z_tableAt, .int z_ended])), (p_me, .inr (4, [.ref p_me_octets])), (p_me_octets, .inl (kI, 4096, .inl me_octets)), (p_re, .inr (7, [.int re_open, .int re_textAt, .int re_parseAt, .int re_limit, .int re_count, .int re_shown, .ref p_re_codes])), (p_re_codes, .inl (kI, 255, .inl re_codes))])) (va_Qv (fun (u : (Nat → Int32)) => K u) (fun (u : (Nat → Int32)) => zB (dC, dI) (zT kI kZ) (va_A [(p_z, .inr (9, [.int z_version, .ref p_me, .ref p_pa, .ref p_di, .ref p_pr, .ref p_re, .ref p_cl, .ref p_li, .ref p_ec, .ref p_sc, .int z_dictionaryAt, .int z_tableAt, .int z_ended])), (p_me, .inr (4, [.ref p_me_octets])), (p_me_octets, .inl (kI, 4096, .inl me_octets)), (p_re, .inr (7, [.int re_open, .int re_textAt, .int re_parseAt, .int re_limit, .int re_count, .int re_shown, .ref p_re_codes])), (p_re_codes, .inl (kI, 255, .inl re_codes))] sz) [(p_z, .inr (9, [.int z_version, .ref p_me, .ref p_pa, .ref p_di, .ref p_pr, .ref p_re, .ref p_cl, .ref p_li, .ref p_ec, .ref p_sc, .int z_dictionaryAt, .int z_tableAt, .int z_ended])), (p_me, .inr (4, [.ref p_me_octets])), (p_me_octets, .inl (kI, 4096, .inl u)), (p_re, .inr (7, [.int re_open, .int re_textAt, .int re_parseAt, .int re_limit, .int re_count, .int re_shown, .ref p_re_codes])), (p_re_codes, .inl (kI, 255, .inl re_codes))]) (va_A [(p_z, .inr (9, [.int z_version, .ref p_me, .ref p_pa, .ref p_di, .ref p_pr, .ref p_re, .ref p_cl, .ref p_li, .ref p_ec, .ref p_sc, .int z_dictionaryAt, .int z_tableAt, .int z_ended])), (p_me, .inr (4, [.ref p_me_octets])), (p_me_octets, .inl (kI, 4096, .inl me_octets)), (p_re, .inr (7, [.int re_open, .int re_textAt, .int re_parseAt, .int re_limit, .int re_count, .int re_shown, .ref p_re_codes])), (p_re_codes, .inl (kI, 255, .inl re_codes))] sz)) 0 0 (va_A [(p_z, .inr (9, [.int z_version, .ref p_me, .ref p_pa, .ref p_di, .ref p_pr, .ref p_re, .ref p_cl, .ref p_li, .ref p_ec, .ref p_sc, .int z_dictionaryAt, .int z_tableAt, .int z_ended])), (p_me, .inr (4, [.ref p_me_octets])), (p_me_octets, .inl (kI, 4096, .inl me_octets)), (p_re, .inr (7, [.int re_open, .int re_textAt, .int re_parseAt, .int re_limit, .int re_count, .int re_shown, .ref p_re_codes])), (p_re_codes, .inl (kI, 255, .inl re_codes))] sz) := by
  refine zz_ofv (cc := cX9_layDownCodes) (maxL := 3) (by decide) rfl (Nat.le_of_ble_eq_true rfl) ?_
  intro p e s m args below meth c A Q ls hx hb hml hown hts hK hA hR hP hD hS hl
  have hown : s.vm.findClass RX9 = some m.cls := hown
  have hl : lv_has ls 3 [(0, .ref p_z)] := hl
  have hi_X9 : ∀ w ∈ wsX90, w ∈ wsX9_layDownCodes := fun _ h => (List.mem_cons_of_mem _ (List.mem_append_left _ (List.mem_append_left _ (List.mem_append_right _ h))))
  have hi_X7 : ∀ w ∈ wsX70, w ∈ wsX9_layDownCodes := fun _ h => (List.mem_cons_of_mem _ (List.mem_append_left _ (List.mem_append_right _ h)))
  unfold wp_X9_layDownCodes at h
  obtain ⟨H, eH⟩ : ∃ H, H = s.heap := ⟨_, rfl⟩
  obtain ⟨locs, eL⟩ : ∃ L : List Loc, L = [] := ⟨_, rfl⟩
  rw [← eL]
  have hS : va_S A s.heap s.heap locs := by rw [eL]; exact hS
  suffices hgo : ∀ H : Heap, va_P (dC, dI) vwCl [(p_z, .inr (9, [.int z_version, .ref p_me, .ref p_pa, .ref p_di, .ref p_pr, .ref p_re, .ref p_cl, .ref p_li, .ref p_ec, .ref p_sc, .int z_dictionaryAt, .int z_tableAt, .int z_ended])), (p_me, .inr (4, [.ref p_me_octets])), (p_me_octets, .inl (kI, 4096, .inl me_octets)), (p_re, .inr (7, [.int re_open, .int re_textAt, .int re_parseAt, .int re_limit, .int re_count, .int re_shown, .ref p_re_codes])), (p_re_codes, .inl (kI, 255, .inl re_codes))] H → va_S A s.heap H locs → W p l e rmX9_layDownCodes s m args below meth c H locs 0 0 Q (F0 m 0 ls []) from hgo _ hP hS
  clear hP hS eH H eL
  intro H hP hS
  refine lv_aload_n hx hb dX9_layDownCodes_0 rfl (lv_at hl 0 rfl) ?_
  refine va_get (D := (dC, dI)) (ci := 9) (v := .ref p_re) (C := RX9) (T := TX9) (N := 13) hx hb hts hi_X9 hown hK hP 0 rfl rfl 5 (by decide) (hts (.fieldLink RX9 51 "ZInput" "reading" "LZInput$Reading;") (List.mem_cons_of_mem _ (List.mem_append_left _ (List.mem_append_left _ (List.mem_append_left _ (List.mem_of_getElem? (i := 0) rfl)))))) (fun _ h9 => h9) rfl dX9_layDownCodes_1 ?_
  refine va_get (D := (dC, dI)) (ci := 7) (v := .int re_textAt) (C := RX7) (T := TX7) (N := 7) hx hb hts hi_X7 hown hK hP 3 rfl rfl 1 (by decide) (hts (.fieldLink RX9 246 "ZInput$Reading" "textAt" "I") (List.mem_cons_of_mem _ (List.mem_append_left _ (List.mem_append_left _ (List.mem_append_left _ (List.mem_of_getElem? (i := 1) rfl)))))) (fun _ h9 => h9) rfl dX9_layDownCodes_4 ?_
  refine lv_aload_n hx hb dX9_layDownCodes_7 rfl (lv_at hl 0 rfl) ?_
  refine zz_Vi (As := []) (rest := [.int re_textAt]) (wr := [(p_me, .inr (4, [.ref p_me_octets])), (p_me_octets, .inl (kI, 4096, .inl me_octets)), (p_re, .inr (7, [.int re_open, .int re_textAt, .int re_parseAt, .int re_limit, .int re_count, .int re_shown, .ref p_re_codes])), (p_re_codes, .inl (kI, 255, .inl re_codes))]) ⟨hx, hb, hml, hown, hts⟩ (cwV 0 hts gX9_layDownCodes_X9_countsCodes rfl rfl rfl (by decide +kernel) ⟨Nat.le_of_ble_eq_true rfl, Nat.le_of_ble_eq_true rfl⟩) hK hP hD hS hA (c_X9_countsCodes l dC dI kI kZ H.size p_z p_me p_pa p_di p_pr p_re p_cl p_li p_ec p_sc z_dictionaryAt z_tableAt z_ended z_version _ h) [0] [1, 2, 3, 4] rfl rfl rfl rfl (by decide) 0 rfl rfl rfl rfl hl.1 (Nat.le_of_ble_eq_true rfl) dX9_layDownCodes_8 (Nat.le_refl _) (Nat.le_refl _) (fun r_1 u_1 H locs h hP hD hS => ?_)
  have hP : va_P (dC, dI) vwCl [(p_z, .inr (9, [.int z_version, .ref p_me, .ref p_pa, .ref p_di, .ref p_pr, .ref p_re, .ref p_cl, .ref p_li, .ref p_ec, .ref p_sc, .int z_dictionaryAt, .int z_tableAt, .int z_ended])), (p_me, .inr (4, [.ref p_me_octets])), (p_me_octets, .inl (kI, 4096, .inl me_octets)), (p_re, .inr (7, [.int re_open, .int re_textAt, .int re_parseAt, .int re_limit, .int re_count, .int re_shown, .ref p_re_codes])), (p_re_codes, .inl (kI, 255, .inl re_codes))] H := hP.sub [4, 0, 1, 2, 3] rfl
  have hD : va_D A [(p_z, .inr (9, [.int z_version, .ref p_me, .ref p_pa, .ref p_di, .ref p_pr, .ref p_re, .ref p_cl, .ref p_li, .ref p_ec, .ref p_sc, .int z_dictionaryAt, .int z_tableAt, .int z_ended])), (p_me, .inr (4, [.ref p_me_octets])), (p_me_octets, .inl (kI, 4096, .inl me_octets)), (p_re, .inr (7, [.int re_open, .int re_textAt, .int re_parseAt, .int re_limit, .int re_count, .int re_shown, .ref p_re_codes])), (p_re_codes, .inl (kI, 255, .inl re_codes))] := hD.sub [4, 0, 1, 2, 3] rfl rfl
  have h := h (fun (y_1 : Int32) (y_2 : Int32) => ∀ (H : Heap) (locs : List Loc), va_P (dC, dI) vwCl [(p_z, .inr (9, [.int z_version, .ref p_me, .ref p_pa, .ref p_di, .ref p_pr, .ref p_re, .ref p_cl, .ref p_li, .ref p_ec, .ref p_sc, .int z_dictionaryAt, .int z_tableAt, .int z_ended])), (p_me, .inr (4, [.ref p_me_octets])), (p_me_octets, .inl (kI, 4096, .inl me_octets)), (p_re, .inr (7, [.int re_open, .int re_textAt, .int re_parseAt, .int re_limit, .int re_count, .int re_shown, .ref p_re_codes])), (p_re_codes, .inl (kI, 255, .inl re_codes))] H → va_D A [(p_z, .inr (9, [.int z_version, .ref p_me, .ref p_pa, .ref p_di, .ref p_pr, .ref p_re, .ref p_cl, .ref p_li, .ref p_ec, .ref p_sc, .int z_dictionaryAt, .int z_tableAt, .int z_ended])), (p_me, .inr (4, [.ref p_me_octets])), (p_me_octets, .inl (kI, 4096, .inl me_octets)), (p_re, .inr (7, [.int re_open, .int re_textAt, .int re_parseAt, .int re_limit, .int re_count, .int re_shown, .ref p_re_codes])), (p_re_codes, .inl (kI, 255, .inl re_codes))] → va_S A s.heap H locs → ∀ ls : Array Slot, lv_has ls 3 [(0, .ref p_z)] → W p l e rmX9_layDownCodes s m args below meth c H locs 0 0 Q (F0 m 19 ls [.int y_1, .int y_2])) (by
    clear h hP hD hS hl
    intro y_1 y_2 h H locs hP hD hS ls hl
    refine lv_iadd hx hb dX9_layDownCodes_19 ?_
    refine lv_topi (fun v_1 ev_1 => ?_)
    have h := h v_1 ev_1
    refine lv_istore_n (lv' := [(1, .int v_1), (0, .ref p_z)]) hx hb dX9_layDownCodes_20 rfl hl (by decide) rfl (fun ls hl => ?_)
    refine lv_iconst (v := 0) hx hb dX9_layDownCodes_21 (by decide) ?_
    refine lv_istore_n (lv' := [(2, .int 0), (1, .int v_1), (0, .ref p_z)]) hx hb dX9_layDownCodes_22 rfl hl (by decide) rfl (fun ls hl => ?_)
    refine h (fun (x2_1 : Int32) (me_octets_1 : Nat → Int32) => ∀ (H : Heap) (locs : List Loc), va_P (dC, dI) vwCl [(p_z, .inr (9, [.int z_version, .ref p_me, .ref p_pa, .ref p_di, .ref p_pr, .ref p_re, .ref p_cl, .ref p_li, .ref p_ec, .ref p_sc, .int z_dictionaryAt, .int z_tableAt, .int z_ended])), (p_me, .inr (4, [.ref p_me_octets])), (p_me_octets, .inl (kI, 4096, .inl me_octets_1)), (p_re, .inr (7, [.int re_open, .int re_textAt, .int re_parseAt, .int re_limit, .int re_count, .int re_shown, .ref p_re_codes])), (p_re_codes, .inl (kI, 255, .inl re_codes))] H → va_D A [(p_z, .inr (9, [.int z_version, .ref p_me, .ref p_pa, .ref p_di, .ref p_pr, .ref p_re, .ref p_cl, .ref p_li, .ref p_ec, .ref p_sc, .int z_dictionaryAt, .int z_tableAt, .int z_ended])), (p_me, .inr (4, [.ref p_me_octets])), (p_me_octets, .inl (kI, 4096, .inl me_octets_1)), (p_re, .inr (7, [.int re_open, .int re_textAt, .int re_parseAt, .int re_limit, .int re_count, .int re_shown, .ref p_re_codes])), (p_re_codes, .inl (kI, 255, .inl re_codes))] → va_S A s.heap H locs → ∀ ls : Array Slot, lv_has ls 3 [(0, .ref p_z), (1, .int v_1), (2, .int x2_1)] → W p l e rmX9_layDownCodes s m args below meth c H locs 0 0 Q (F0 m 23 ls [])) ?_ H locs hP hD hS ls (lv_sub hl [2, 1, 0] rfl)
    clear h hP hD hS hl
    intro x2_1 me_octets_1 h H locs hP hD hS ls hl
    refine lv_iload_n hx hb dX9_layDownCodes_23 rfl (lv_at hl 2 rfl) ?_
    refine lv_aload_n hx hb dX9_layDownCodes_24 rfl (lv_at hl 0 rfl) ?_
    refine va_get (D := (dC, dI)) (ci := 9) (v := .ref p_re) (C := RX9) (T := TX9) (N := 13) hx hb hts hi_X9 hown hK hP 0 rfl rfl 5 (by decide) (hts (.fieldLink RX9 51 "ZInput" "reading" "LZInput$Reading;") (List.mem_cons_of_mem _ (List.mem_append_left _ (List.mem_append_left _ (List.mem_append_left _ (List.mem_of_getElem? (i := 0) rfl)))))) (fun _ h9 => h9) rfl dX9_layDownCodes_25 ?_
    refine va_get (D := (dC, dI)) (ci := 7) (v := .int re_count) (C := RX7) (T := TX7) (N := 7) hx hb hts hi_X7 hown hK hP 3 rfl rfl 4 (by decide) (hts (.fieldLink RX9 179 "ZInput$Reading" "count" "I") (List.mem_cons_of_mem _ (List.mem_append_left _ (List.mem_append_left _ (List.mem_append_left _ (List.mem_of_getElem? (i := 2) rfl)))))) (fun _ h9 => h9) rfl dX9_layDownCodes_28 ?_
    refine lv_icmp_ge (tgt := 58) hx hb dX9_layDownCodes_31 (by decide) (fun c_ => ?_) (fun c_ => ?_)
    · have h := h.1 c_
      refine lv_aload_n hx hb dX9_layDownCodes_58 rfl (lv_at hl 0 rfl) ?_
      refine zz_Vi (As := []) (rest := []) (wr := [(p_me, .inr (4, [.ref p_me_octets])), (p_me_octets, .inl (kI, 4096, .inl me_octets_1)), (p_re, .inr (7, [.int re_open, .int re_textAt, .int re_parseAt, .int re_limit, .int re_count, .int re_shown, .ref p_re_codes])), (p_re_codes, .inl (kI, 255, .inl re_codes))]) ⟨hx, hb, hml, hown, hts⟩ (cwV 0 hts gX9_layDownCodes_X9_countsCodes rfl rfl rfl (by decide +kernel) ⟨Nat.le_of_ble_eq_true rfl, Nat.le_of_ble_eq_true rfl⟩) hK hP hD hS hA (c_X9_countsCodes l dC dI kI kZ H.size p_z p_me p_pa p_di p_pr p_re p_cl p_li p_ec p_sc z_dictionaryAt z_tableAt z_ended z_version _ h) [0] [1, 2, 3, 4] rfl rfl rfl rfl (by decide) 0 rfl rfl rfl rfl hl.1 (Nat.le_of_ble_eq_true rfl) dX9_layDownCodes_59 (Nat.le_refl _) (Nat.le_refl _) (fun r_2 u_2 H locs h hP hD hS => ?_)
      have hP : va_P (dC, dI) vwCl [(p_z, .inr (9, [.int z_version, .ref p_me, .ref p_pa, .ref p_di, .ref p_pr, .ref p_re, .ref p_cl, .ref p_li, .ref p_ec, .ref p_sc, .int z_dictionaryAt, .int z_tableAt, .int z_ended])), (p_me, .inr (4, [.ref p_me_octets])), (p_me_octets, .inl (kI, 4096, .inl me_octets_1)), (p_re, .inr (7, [.int re_open, .int re_textAt, .int re_parseAt, .int re_limit, .int re_count, .int re_shown, .ref p_re_codes])), (p_re_codes, .inl (kI, 255, .inl re_codes))] H := hP.sub [4, 0, 1, 2, 3] rfl
      have hD : va_D A [(p_z, .inr (9, [.int z_version, .ref p_me, .ref p_pa, .ref p_di, .ref p_pr, .ref p_re, .ref p_cl, .ref p_li, .ref p_ec, .ref p_sc, .int z_dictionaryAt, .int z_tableAt, .int z_ended])), (p_me, .inr (4, [.ref p_me_octets])), (p_me_octets, .inl (kI, 4096, .inl me_octets_1)), (p_re, .inr (7, [.int re_open, .int re_textAt, .int re_parseAt, .int re_limit, .int re_count, .int re_shown, .ref p_re_codes])), (p_re_codes, .inl (kI, 255, .inl re_codes))] := hD.sub [4, 0, 1, 2, 3] rfl rfl
      refine lv_if_eq (tgt := 91) hx hb dX9_layDownCodes_62 (by decide) (fun c_ => ?_) (fun c_ => ?_)
      · have h := h.1 c_
        refine lv_aload_n hx hb dX9_layDownCodes_91 rfl (lv_at hl 0 rfl) ?_
        refine va_get (D := (dC, dI)) (ci := 9) (v := .ref p_me) (C := RX9) (T := TX9) (N := 13) hx hb hts hi_X9 hown hK hP 0 rfl rfl 1 (by decide) (hts (.fieldLink RX9 27 "ZInput" "memory" "LZInput$Memory;") (List.mem_cons_of_mem _ (List.mem_append_left _ (List.mem_append_left _ (List.mem_append_left _ (List.mem_of_getElem? (i := 3) rfl)))))) (fun _ h9 => h9) rfl dX9_layDownCodes_92 ?_
        refine lv_iload_n hx hb dX9_layDownCodes_95 rfl (lv_at hl 1 rfl) ?_
        refine lv_aload_n hx hb dX9_layDownCodes_96 rfl (lv_at hl 0 rfl) ?_
        refine va_get (D := (dC, dI)) (ci := 9) (v := .ref p_re) (C := RX9) (T := TX9) (N := 13) hx hb hts hi_X9 hown hK hP 0 rfl rfl 5 (by decide) (hts (.fieldLink RX9 51 "ZInput" "reading" "LZInput$Reading;") (List.mem_cons_of_mem _ (List.mem_append_left _ (List.mem_append_left _ (List.mem_append_left _ (List.mem_of_getElem? (i := 0) rfl)))))) (fun _ h9 => h9) rfl dX9_layDownCodes_97 ?_
        refine va_get (D := (dC, dI)) (ci := 7) (v := .int re_count) (C := RX7) (T := TX7) (N := 7) hx hb hts hi_X7 hown hK hP 3 rfl rfl 4 (by decide) (hts (.fieldLink RX9 179 "ZInput$Reading" "count" "I") (List.mem_cons_of_mem _ (List.mem_append_left _ (List.mem_append_left _ (List.mem_append_left _ (List.mem_of_getElem? (i := 2) rfl)))))) (fun _ h9 => h9) rfl dX9_layDownCodes_100 ?_
        refine lv_iadd hx hb dX9_layDownCodes_103 ?_
        refine lv_iconst (v := 0) hx hb dX9_layDownCodes_104 (by decide) ?_
        refine zz_Vv (As := [.int (v_1 + re_count), .int 0]) (rest := []) (wr := [(p_z, .inr (9, [.int z_version, .ref p_me, .ref p_pa, .ref p_di, .ref p_pr, .ref p_re, .ref p_cl, .ref p_li, .ref p_ec, .ref p_sc, .int z_dictionaryAt, .int z_tableAt, .int z_ended])), (p_re, .inr (7, [.int re_open, .int re_textAt, .int re_parseAt, .int re_limit, .int re_count, .int re_shown, .ref p_re_codes])), (p_re_codes, .inl (kI, 255, .inl re_codes))]) ⟨hx, hb, hml, hown, hts⟩ (cwV 2 hts gX9_layDownCodes_X4_setOctet rfl rfl rfl (by decide +kernel) ⟨Nat.le_of_ble_eq_true rfl, Nat.le_of_ble_eq_true rfl⟩) hK hP hD hS hA (c_X4_setOctet l dC dI kI kZ H.size p_me p_me_octets me_octets_1 (v_1 + re_count) 0 _ h) [1, 2] [0, 3, 4] rfl rfl rfl rfl (by decide) 0 rfl rfl rfl rfl hl.1 (Nat.le_of_ble_eq_true rfl) dX9_layDownCodes_105 (Nat.le_refl _) (Nat.le_refl _) (fun me_octets_2 H locs h hP hD hS => ?_)
        have hP : va_P (dC, dI) vwCl [(p_z, .inr (9, [.int z_version, .ref p_me, .ref p_pa, .ref p_di, .ref p_pr, .ref p_re, .ref p_cl, .ref p_li, .ref p_ec, .ref p_sc, .int z_dictionaryAt, .int z_tableAt, .int z_ended])), (p_me, .inr (4, [.ref p_me_octets])), (p_me_octets, .inl (kI, 4096, .inl me_octets_2)), (p_re, .inr (7, [.int re_open, .int re_textAt, .int re_parseAt, .int re_limit, .int re_count, .int re_shown, .ref p_re_codes])), (p_re_codes, .inl (kI, 255, .inl re_codes))] H := hP.sub [0, 3, 4, 1, 2] rfl
        have hD : va_D A [(p_z, .inr (9, [.int z_version, .ref p_me, .ref p_pa, .ref p_di, .ref p_pr, .ref p_re, .ref p_cl, .ref p_li, .ref p_ec, .ref p_sc, .int z_dictionaryAt, .int z_tableAt, .int z_ended])), (p_me, .inr (4, [.ref p_me_octets])), (p_me_octets, .inl (kI, 4096, .inl me_octets_2)), (p_re, .inr (7, [.int re_open, .int re_textAt, .int re_parseAt, .int re_limit, .int re_count, .int re_shown, .ref p_re_codes])), (p_re_codes, .inl (kI, 255, .inl re_codes))] := hD.sub [0, 3, 4, 1, 2] rfl rfl
        exact hR me_octets_2 H locs h hP hD hS _ ls dX9_layDownCodes_108
      · have h := h.2 c_
        refine lv_aload_n hx hb dX9_layDownCodes_65 rfl (lv_at hl 0 rfl) ?_
        refine va_get (D := (dC, dI)) (ci := 9) (v := .ref p_me) (C := RX9) (T := TX9) (N := 13) hx hb hts hi_X9 hown hK hP 0 rfl rfl 1 (by decide) (hts (.fieldLink RX9 27 "ZInput" "memory" "LZInput$Memory;") (List.mem_cons_of_mem _ (List.mem_append_left _ (List.mem_append_left _ (List.mem_append_left _ (List.mem_of_getElem? (i := 3) rfl)))))) (fun _ h9 => h9) rfl dX9_layDownCodes_66 ?_
        refine lv_aload_n hx hb dX9_layDownCodes_69 rfl (lv_at hl 0 rfl) ?_
        refine va_get (D := (dC, dI)) (ci := 9) (v := .ref p_re) (C := RX9) (T := TX9) (N := 13) hx hb hts hi_X9 hown hK hP 0 rfl rfl 5 (by decide) (hts (.fieldLink RX9 51 "ZInput" "reading" "LZInput$Reading;") (List.mem_cons_of_mem _ (List.mem_append_left _ (List.mem_append_left _ (List.mem_append_left _ (List.mem_of_getElem? (i := 0) rfl)))))) (fun _ h9 => h9) rfl dX9_layDownCodes_70 ?_
        refine va_get (D := (dC, dI)) (ci := 7) (v := .int re_textAt) (C := RX7) (T := TX7) (N := 7) hx hb hts hi_X7 hown hK hP 3 rfl rfl 1 (by decide) (hts (.fieldLink RX9 246 "ZInput$Reading" "textAt" "I") (List.mem_cons_of_mem _ (List.mem_append_left _ (List.mem_append_left _ (List.mem_append_left _ (List.mem_of_getElem? (i := 1) rfl)))))) (fun _ h9 => h9) rfl dX9_layDownCodes_73 ?_
        refine lv_iconst (v := 1) hx hb dX9_layDownCodes_76 (by decide) ?_
        refine lv_iadd hx hb dX9_layDownCodes_77 ?_
        refine lv_aload_n hx hb dX9_layDownCodes_78 rfl (lv_at hl 0 rfl) ?_
        refine va_get (D := (dC, dI)) (ci := 9) (v := .ref p_re) (C := RX9) (T := TX9) (N := 13) hx hb hts hi_X9 hown hK hP 0 rfl rfl 5 (by decide) (hts (.fieldLink RX9 51 "ZInput" "reading" "LZInput$Reading;") (List.mem_cons_of_mem _ (List.mem_append_left _ (List.mem_append_left _ (List.mem_append_left _ (List.mem_of_getElem? (i := 0) rfl)))))) (fun _ h9 => h9) rfl dX9_layDownCodes_79 ?_
        refine va_get (D := (dC, dI)) (ci := 7) (v := .int re_count) (C := RX7) (T := TX7) (N := 7) hx hb hts hi_X7 hown hK hP 3 rfl rfl 4 (by decide) (hts (.fieldLink RX9 179 "ZInput$Reading" "count" "I") (List.mem_cons_of_mem _ (List.mem_append_left _ (List.mem_append_left _ (List.mem_append_left _ (List.mem_of_getElem? (i := 2) rfl)))))) (fun _ h9 => h9) rfl dX9_layDownCodes_82 ?_
        refine zz_Vv (As := [.int (re_textAt + 1), .int re_count]) (rest := []) (wr := [(p_z, .inr (9, [.int z_version, .ref p_me, .ref p_pa, .ref p_di, .ref p_pr, .ref p_re, .ref p_cl, .ref p_li, .ref p_ec, .ref p_sc, .int z_dictionaryAt, .int z_tableAt, .int z_ended])), (p_re, .inr (7, [.int re_open, .int re_textAt, .int re_parseAt, .int re_limit, .int re_count, .int re_shown, .ref p_re_codes])), (p_re_codes, .inl (kI, 255, .inl re_codes))]) ⟨hx, hb, hml, hown, hts⟩ (cwV 2 hts gX9_layDownCodes_X4_setOctet rfl rfl rfl (by decide +kernel) ⟨Nat.le_of_ble_eq_true rfl, Nat.le_of_ble_eq_true rfl⟩) hK hP hD hS hA (c_X4_setOctet l dC dI kI kZ H.size p_me p_me_octets me_octets_1 (re_textAt + 1) re_count _ h) [1, 2] [0, 3, 4] rfl rfl rfl rfl (by decide) 0 rfl rfl rfl rfl hl.1 (Nat.le_of_ble_eq_true rfl) dX9_layDownCodes_85 (Nat.le_refl _) (Nat.le_refl _) (fun me_octets_3 H locs h hP hD hS => ?_)
        have hP : va_P (dC, dI) vwCl [(p_z, .inr (9, [.int z_version, .ref p_me, .ref p_pa, .ref p_di, .ref p_pr, .ref p_re, .ref p_cl, .ref p_li, .ref p_ec, .ref p_sc, .int z_dictionaryAt, .int z_tableAt, .int z_ended])), (p_me, .inr (4, [.ref p_me_octets])), (p_me_octets, .inl (kI, 4096, .inl me_octets_3)), (p_re, .inr (7, [.int re_open, .int re_textAt, .int re_parseAt, .int re_limit, .int re_count, .int re_shown, .ref p_re_codes])), (p_re_codes, .inl (kI, 255, .inl re_codes))] H := hP.sub [0, 3, 4, 1, 2] rfl
        have hD : va_D A [(p_z, .inr (9, [.int z_version, .ref p_me, .ref p_pa, .ref p_di, .ref p_pr, .ref p_re, .ref p_cl, .ref p_li, .ref p_ec, .ref p_sc, .int z_dictionaryAt, .int z_tableAt, .int z_ended])), (p_me, .inr (4, [.ref p_me_octets])), (p_me_octets, .inl (kI, 4096, .inl me_octets_3)), (p_re, .inr (7, [.int re_open, .int re_textAt, .int re_parseAt, .int re_limit, .int re_count, .int re_shown, .ref p_re_codes])), (p_re_codes, .inl (kI, 255, .inl re_codes))] := hD.sub [0, 3, 4, 1, 2] rfl rfl
        refine lv_goto (tgt := 108) hx hb dX9_layDownCodes_88 (by decide) ?_
        exact hR me_octets_3 H locs h hP hD hS _ ls dX9_layDownCodes_108
    · have h := h.2 c_
      refine lv_aload_n hx hb dX9_layDownCodes_34 rfl (lv_at hl 0 rfl) ?_
      refine va_get (D := (dC, dI)) (ci := 9) (v := .ref p_me) (C := RX9) (T := TX9) (N := 13) hx hb hts hi_X9 hown hK hP 0 rfl rfl 1 (by decide) (hts (.fieldLink RX9 27 "ZInput" "memory" "LZInput$Memory;") (List.mem_cons_of_mem _ (List.mem_append_left _ (List.mem_append_left _ (List.mem_append_left _ (List.mem_of_getElem? (i := 3) rfl)))))) (fun _ h9 => h9) rfl dX9_layDownCodes_35 ?_
      refine lv_iload_n hx hb dX9_layDownCodes_38 rfl (lv_at hl 1 rfl) ?_
      refine lv_iload_n hx hb dX9_layDownCodes_39 rfl (lv_at hl 2 rfl) ?_
      refine lv_iadd hx hb dX9_layDownCodes_40 ?_
      refine lv_aload_n hx hb dX9_layDownCodes_41 rfl (lv_at hl 0 rfl) ?_
      refine va_get (D := (dC, dI)) (ci := 9) (v := .ref p_re) (C := RX9) (T := TX9) (N := 13) hx hb hts hi_X9 hown hK hP 0 rfl rfl 5 (by decide) (hts (.fieldLink RX9 51 "ZInput" "reading" "LZInput$Reading;") (List.mem_cons_of_mem _ (List.mem_append_left _ (List.mem_append_left _ (List.mem_append_left _ (List.mem_of_getElem? (i := 0) rfl)))))) (fun _ h9 => h9) rfl dX9_layDownCodes_42 ?_
      refine lv_iload_n hx hb dX9_layDownCodes_45 rfl (lv_at hl 2 rfl) ?_
      refine zz_Vi (As := [.int x2_1]) (rest := [.int (v_1 + x2_1), .ref p_me]) (wr := [(p_z, .inr (9, [.int z_version, .ref p_me, .ref p_pa, .ref p_di, .ref p_pr, .ref p_re, .ref p_cl, .ref p_li, .ref p_ec, .ref p_sc, .int z_dictionaryAt, .int z_tableAt, .int z_ended])), (p_me, .inr (4, [.ref p_me_octets])), (p_me_octets, .inl (kI, 4096, .inl me_octets_1))]) ⟨hx, hb, hml, hown, hts⟩ (cwV 1 hts gX9_layDownCodes_X7_code rfl rfl rfl (by decide +kernel) ⟨Nat.le_of_ble_eq_true rfl, Nat.le_of_ble_eq_true rfl⟩) hK hP hD hS hA (c_X7_code l dC dI kI kZ H.size p_re p_re_codes re_open re_textAt re_parseAt re_limit re_shown re_count re_codes x2_1 _ h) [3, 4] [0, 1, 2] rfl rfl rfl rfl (by decide) 0 rfl rfl rfl rfl hl.1 (Nat.le_of_ble_eq_true rfl) dX9_layDownCodes_46 (Nat.le_refl _) (Nat.le_refl _) (fun r_3 u_3 H locs h hP hD hS => ?_)
      have hP : va_P (dC, dI) vwCl [(p_z, .inr (9, [.int z_version, .ref p_me, .ref p_pa, .ref p_di, .ref p_pr, .ref p_re, .ref p_cl, .ref p_li, .ref p_ec, .ref p_sc, .int z_dictionaryAt, .int z_tableAt, .int z_ended])), (p_me, .inr (4, [.ref p_me_octets])), (p_me_octets, .inl (kI, 4096, .inl me_octets_1)), (p_re, .inr (7, [.int re_open, .int re_textAt, .int re_parseAt, .int re_limit, .int re_count, .int re_shown, .ref p_re_codes])), (p_re_codes, .inl (kI, 255, .inl re_codes))] H := hP.sub [0, 1, 2, 3, 4] rfl
      have hD : va_D A [(p_z, .inr (9, [.int z_version, .ref p_me, .ref p_pa, .ref p_di, .ref p_pr, .ref p_re, .ref p_cl, .ref p_li, .ref p_ec, .ref p_sc, .int z_dictionaryAt, .int z_tableAt, .int z_ended])), (p_me, .inr (4, [.ref p_me_octets])), (p_me_octets, .inl (kI, 4096, .inl me_octets_1)), (p_re, .inr (7, [.int re_open, .int re_textAt, .int re_parseAt, .int re_limit, .int re_count, .int re_shown, .ref p_re_codes])), (p_re_codes, .inl (kI, 255, .inl re_codes))] := hD.sub [0, 1, 2, 3, 4] rfl rfl
      refine zz_Vv (As := [.int (v_1 + x2_1), .int r_3]) (rest := []) (wr := [(p_z, .inr (9, [.int z_version, .ref p_me, .ref p_pa, .ref p_di, .ref p_pr, .ref p_re, .ref p_cl, .ref p_li, .ref p_ec, .ref p_sc, .int z_dictionaryAt, .int z_tableAt, .int z_ended])), (p_re, .inr (7, [.int re_open, .int re_textAt, .int re_parseAt, .int re_limit, .int re_count, .int re_shown, .ref p_re_codes])), (p_re_codes, .inl (kI, 255, .inl re_codes))]) ⟨hx, hb, hml, hown, hts⟩ (cwV 2 hts gX9_layDownCodes_X4_setOctet rfl rfl rfl (by decide +kernel) ⟨Nat.le_of_ble_eq_true rfl, Nat.le_of_ble_eq_true rfl⟩) hK hP hD hS hA (c_X4_setOctet l dC dI kI kZ H.size p_me p_me_octets me_octets_1 (v_1 + x2_1) r_3 _ h) [1, 2] [0, 3, 4] rfl rfl rfl rfl (by decide) 0 rfl rfl rfl rfl hl.1 (Nat.le_of_ble_eq_true rfl) dX9_layDownCodes_49 (Nat.le_refl _) (Nat.le_refl _) (fun me_octets_4 H locs h hP hD hS => ?_)
      have hP : va_P (dC, dI) vwCl [(p_z, .inr (9, [.int z_version, .ref p_me, .ref p_pa, .ref p_di, .ref p_pr, .ref p_re, .ref p_cl, .ref p_li, .ref p_ec, .ref p_sc, .int z_dictionaryAt, .int z_tableAt, .int z_ended])), (p_me, .inr (4, [.ref p_me_octets])), (p_me_octets, .inl (kI, 4096, .inl me_octets_4)), (p_re, .inr (7, [.int re_open, .int re_textAt, .int re_parseAt, .int re_limit, .int re_count, .int re_shown, .ref p_re_codes])), (p_re_codes, .inl (kI, 255, .inl re_codes))] H := hP.sub [0, 3, 4, 1, 2] rfl
      have hD : va_D A [(p_z, .inr (9, [.int z_version, .ref p_me, .ref p_pa, .ref p_di, .ref p_pr, .ref p_re, .ref p_cl, .ref p_li, .ref p_ec, .ref p_sc, .int z_dictionaryAt, .int z_tableAt, .int z_ended])), (p_me, .inr (4, [.ref p_me_octets])), (p_me_octets, .inl (kI, 4096, .inl me_octets_4)), (p_re, .inr (7, [.int re_open, .int re_textAt, .int re_parseAt, .int re_limit, .int re_count, .int re_shown, .ref p_re_codes])), (p_re_codes, .inl (kI, 255, .inl re_codes))] := hD.sub [0, 3, 4, 1, 2] rfl rfl
      refine lv_iinc (v := (x2_1 + 1)) (lv' := [(2, .int (x2_1 + 1)), (0, .ref p_z), (1, .int v_1)]) hx hb dX9_layDownCodes_52 hl (k := 2) rfl rfl (by decide) rfl (fun ls hl => ?_)
      refine lv_goto (tgt := 23) hx hb dX9_layDownCodes_55 (by decide) ?_
      exact h H locs hP hD hS ls (lv_sub hl [1, 2, 0] rfl))
  refine lv_if_eq (tgt := 18) hx hb dX9_layDownCodes_11 (by decide) (fun c_ => ?_) (fun c_ => ?_)
  · have h := h.1 c_
    refine lv_iconst (v := 1) hx hb dX9_layDownCodes_18 (by decide) ?_
    exact h H locs hP hD hS ls (lv_sub hl [0] rfl)
  · have h := h.2 c_
    refine lv_iconst (v := 2) hx hb dX9_layDownCodes_14 (by decide) ?_
    refine lv_goto (tgt := 19) hx hb dX9_layDownCodes_15 (by decide) ?_
    exact h H locs hP hD hS ls (lv_sub hl [0] rfl)
def wp_X9_endByClock (z_version : Int32) (z_ended : Int32) (me_octets : Nat → Int32) (re_open : Int32) (re_textAt : Int32) (re_count : Int32) (re_codes : Nat → Int32) (K : Int32 → (Nat → Int32) → Int32 → Int32 → Prop) : Prop :=
  wp_X7_clear re_count (fun (re_count_1 : Int32) => wp_X9_layDownCodes z_version me_octets re_textAt re_count_1 re_codes (fun (me_octets_1 : Nat → Int32) => wp_X9_close z_ended re_open 0 (fun (z_ended_1 : Int32) (re_open_1 : Int32) => K z_ended_1 me_octets_1 re_open_1 re_count_1)))
abbrev rmX9_endByClock : Room := { frames := 2, cells := 0, slots := 0, locals := 44 }
set_option maxHeartbeats 4000000 in
set_option maxRecDepth 100000 in
theorem c_X9_endByClock (l : Launch) (dC : Nat → ClassId) (dI : Nat → Nat → Nat) (kI kZ : ClassId) (sz : Nat) (p_z : Nat) (p_me : Nat) (p_pa : Nat) (p_di : Nat) (p_pr : Nat) (p_re : Nat) (p_cl : Nat) (p_li : Nat) (p_ec : Nat) (p_sc : Nat) (p_me_octets : Nat) (p_re_codes : Nat) (z_dictionaryAt : Int32) (z_tableAt : Int32) (re_parseAt : Int32) (re_limit : Int32) (re_shown : Int32) (z_version : Int32) (z_ended : Int32) (me_octets : Nat → Int32) (re_open : Int32) (re_textAt : Int32) (re_count : Int32) (re_codes : Nat → Int32) (K : Int32 → (Nat → Int32) → Int32 → Int32 → Prop) (h : wp_X9_endByClock z_version z_ended me_octets re_open re_textAt re_count re_codes K) : Met l yX9_endByClock wsX9_endByClock rmX9_endByClock (va_Pc [.ref p_z] (zP (dC, dI) (zT kI kZ) sz [(p_z, .inr (9, [.int z_version, .ref p_me, .ref p_pa, .ref p_di, .ref p_pr, .ref p_re, .ref p_cl, .ref p_li, .ref p_ec, .ref p_sc, .int z_dictionaryAt, .int z_tableAt, .int z_ended])), (p_me, .inr (4, [.ref p_me_octets])), (p_me_octets, .inl (kI, 4096, .inl me_octets)), (p_re, .inr (7, [.int re_open, .int re_textAt, .int re_parseAt, .int re_limit, .int re_count, .int re_shown, .ref p_re_codes])), (p_re_codes, .inl (kI, 255, .inl re_codes))])) (va_Qv (fun (u : Int32 × (Nat → Int32) × Int32 × Int32) => K u.1 u.2.1 u.2.2.1 u.2.2.2) (fun (u : Int32 × (Nat → Int32) × Int32 × Int32) => zB (dC, dI) (zT kI kZ) (va_A [(p_z, .inr (9, [.int z_version, .ref p_me, .ref p_pa, .ref p_di, .ref p_pr, .ref p_re, .ref p_cl, .ref p_li, .ref p_ec, .ref p_sc, .int z_dictionaryAt, .int z_tableAt, .int z_ended])), (p_me, .inr (4, [.ref p_me_octets])), (p_me_octets, .inl (kI, 4096, .inl me_octets)), (p_re, .inr (7, [.int re_open, .int re_textAt, .int re_parseAt, .int re_limit, .int re_count, .int re_shown, .ref p_re_codes])), (p_re_codes, .inl (kI, 255, .inl re_codes))] sz) [(p_z, .inr (9, [.int z_version, .ref p_me, .ref p_pa, .ref p_di, .ref p_pr, .ref p_re, .ref p_cl, .ref p_li, .ref p_ec, .ref p_sc, .int z_dictionaryAt, .int z_tableAt, .int u.1])), (p_me, .inr (4, [.ref p_me_octets])), (p_me_octets, .inl (kI, 4096, .inl u.2.1)), (p_re, .inr (7, [.int u.2.2.1, .int re_textAt, .int re_parseAt, .int re_limit, .int u.2.2.2, .int re_shown, .ref p_re_codes])), (p_re_codes, .inl (kI, 255, .inl re_codes))]) (va_A [(p_z, .inr (9, [.int z_version, .ref p_me, .ref p_pa, .ref p_di, .ref p_pr, .ref p_re, .ref p_cl, .ref p_li, .ref p_ec, .ref p_sc, .int z_dictionaryAt, .int z_tableAt, .int z_ended])), (p_me, .inr (4, [.ref p_me_octets])), (p_me_octets, .inl (kI, 4096, .inl me_octets)), (p_re, .inr (7, [.int re_open, .int re_textAt, .int re_parseAt, .int re_limit, .int re_count, .int re_shown, .ref p_re_codes])), (p_re_codes, .inl (kI, 255, .inl re_codes))] sz)) 0 0 (va_A [(p_z, .inr (9, [.int z_version, .ref p_me, .ref p_pa, .ref p_di, .ref p_pr, .ref p_re, .ref p_cl, .ref p_li, .ref p_ec, .ref p_sc, .int z_dictionaryAt, .int z_tableAt, .int z_ended])), (p_me, .inr (4, [.ref p_me_octets])), (p_me_octets, .inl (kI, 4096, .inl me_octets)), (p_re, .inr (7, [.int re_open, .int re_textAt, .int re_parseAt, .int re_limit, .int re_count, .int re_shown, .ref p_re_codes])), (p_re_codes, .inl (kI, 255, .inl re_codes))] sz) := by
  refine zz_ofv (cc := cX9_endByClock) (maxL := 1) (by decide) rfl (Nat.le_of_ble_eq_true rfl) ?_
  intro p e s m args below meth c A Q ls hx hb hml hown hts hK hA hR hP hD hS hl
  have hown : s.vm.findClass RX9 = some m.cls := hown
  have hl : lv_has ls 1 [(0, .ref p_z)] := hl
  have hi_X9 : ∀ w ∈ wsX90, w ∈ wsX9_endByClock := fun _ h => (List.mem_cons_of_mem _ (List.mem_append_left _ (List.mem_append_left _ (List.mem_append_right _ h))))
  unfold wp_X9_endByClock at h
  obtain ⟨H, eH⟩ : ∃ H, H = s.heap := ⟨_, rfl⟩
  obtain ⟨locs, eL⟩ : ∃ L : List Loc, L = [] := ⟨_, rfl⟩
  rw [← eL]
  have hS : va_S A s.heap s.heap locs := by rw [eL]; exact hS
  suffices hgo : ∀ H : Heap, va_P (dC, dI) vwCl [(p_z, .inr (9, [.int z_version, .ref p_me, .ref p_pa, .ref p_di, .ref p_pr, .ref p_re, .ref p_cl, .ref p_li, .ref p_ec, .ref p_sc, .int z_dictionaryAt, .int z_tableAt, .int z_ended])), (p_me, .inr (4, [.ref p_me_octets])), (p_me_octets, .inl (kI, 4096, .inl me_octets)), (p_re, .inr (7, [.int re_open, .int re_textAt, .int re_parseAt, .int re_limit, .int re_count, .int re_shown, .ref p_re_codes])), (p_re_codes, .inl (kI, 255, .inl re_codes))] H → va_S A s.heap H locs → W p l e rmX9_endByClock s m args below meth c H locs 0 0 Q (F0 m 0 ls []) from hgo _ hP hS
  clear hP hS eH H eL
  intro H hP hS
  refine lv_aload_n hx hb dX9_endByClock_0 rfl (lv_at hl 0 rfl) ?_
  refine va_get (D := (dC, dI)) (ci := 9) (v := .ref p_re) (C := RX9) (T := TX9) (N := 13) hx hb hts hi_X9 hown hK hP 0 rfl rfl 5 (by decide) (hts (.fieldLink RX9 51 "ZInput" "reading" "LZInput$Reading;") (List.mem_cons_of_mem _ (List.mem_append_left _ (List.mem_append_left _ (List.mem_append_left _ (List.mem_append_left _ (List.mem_of_getElem? (i := 0) rfl))))))) (fun _ h9 => h9) rfl dX9_endByClock_1 ?_
  refine zz_Vv (As := []) (rest := []) (wr := [(p_z, .inr (9, [.int z_version, .ref p_me, .ref p_pa, .ref p_di, .ref p_pr, .ref p_re, .ref p_cl, .ref p_li, .ref p_ec, .ref p_sc, .int z_dictionaryAt, .int z_tableAt, .int z_ended])), (p_me, .inr (4, [.ref p_me_octets])), (p_me_octets, .inl (kI, 4096, .inl me_octets)), (p_re_codes, .inl (kI, 255, .inl re_codes))]) ⟨hx, hb, hml, hown, hts⟩ (cwV 0 hts gX9_endByClock_X7_clear rfl rfl rfl (by decide +kernel) ⟨Nat.le_of_ble_eq_true rfl, Nat.le_of_ble_eq_true rfl⟩) hK hP hD hS hA (c_X7_clear l dC dI kI kZ H.size p_re p_re_codes re_open re_textAt re_parseAt re_limit re_shown re_count _ h) [3] [0, 1, 2, 4] rfl rfl rfl rfl (by decide) 0 rfl rfl rfl rfl hl.1 (Nat.le_of_ble_eq_true rfl) dX9_endByClock_4 (Nat.le_refl _) (Nat.le_refl _) (fun re_count_1 H locs h hP hD hS => ?_)
  have hP : va_P (dC, dI) vwCl [(p_z, .inr (9, [.int z_version, .ref p_me, .ref p_pa, .ref p_di, .ref p_pr, .ref p_re, .ref p_cl, .ref p_li, .ref p_ec, .ref p_sc, .int z_dictionaryAt, .int z_tableAt, .int z_ended])), (p_me, .inr (4, [.ref p_me_octets])), (p_me_octets, .inl (kI, 4096, .inl me_octets)), (p_re, .inr (7, [.int re_open, .int re_textAt, .int re_parseAt, .int re_limit, .int re_count_1, .int re_shown, .ref p_re_codes])), (p_re_codes, .inl (kI, 255, .inl re_codes))] H := hP.sub [0, 1, 2, 4, 3] rfl
  have hD : va_D A [(p_z, .inr (9, [.int z_version, .ref p_me, .ref p_pa, .ref p_di, .ref p_pr, .ref p_re, .ref p_cl, .ref p_li, .ref p_ec, .ref p_sc, .int z_dictionaryAt, .int z_tableAt, .int z_ended])), (p_me, .inr (4, [.ref p_me_octets])), (p_me_octets, .inl (kI, 4096, .inl me_octets)), (p_re, .inr (7, [.int re_open, .int re_textAt, .int re_parseAt, .int re_limit, .int re_count_1, .int re_shown, .ref p_re_codes])), (p_re_codes, .inl (kI, 255, .inl re_codes))] := hD.sub [0, 1, 2, 4, 3] rfl rfl
  refine lv_aload_n hx hb dX9_endByClock_7 rfl (lv_at hl 0 rfl) ?_
  refine zz_Vv (As := []) (rest := []) (wr := []) ⟨hx, hb, hml, hown, hts⟩ (cwV 0 hts gX9_endByClock_X9_layDownCodes rfl rfl rfl (by decide +kernel) ⟨Nat.le_of_ble_eq_true rfl, Nat.le_of_ble_eq_true rfl⟩) hK hP hD hS hA (c_X9_layDownCodes l dC dI kI kZ H.size p_z p_me p_pa p_di p_pr p_re p_cl p_li p_ec p_sc p_me_octets p_re_codes z_dictionaryAt z_tableAt z_ended re_open re_parseAt re_limit re_shown z_version me_octets re_textAt re_count_1 re_codes _ h) [0, 1, 2, 3, 4] [] rfl rfl rfl rfl (by decide) 0 rfl rfl rfl rfl hl.1 (Nat.le_of_ble_eq_true rfl) dX9_endByClock_8 (Nat.le_refl _) (Nat.le_refl _) (fun me_octets_1 H locs h hP hD hS => ?_)
  have hP : va_P (dC, dI) vwCl [(p_z, .inr (9, [.int z_version, .ref p_me, .ref p_pa, .ref p_di, .ref p_pr, .ref p_re, .ref p_cl, .ref p_li, .ref p_ec, .ref p_sc, .int z_dictionaryAt, .int z_tableAt, .int z_ended])), (p_me, .inr (4, [.ref p_me_octets])), (p_me_octets, .inl (kI, 4096, .inl me_octets_1)), (p_re, .inr (7, [.int re_open, .int re_textAt, .int re_parseAt, .int re_limit, .int re_count_1, .int re_shown, .ref p_re_codes])), (p_re_codes, .inl (kI, 255, .inl re_codes))] H := hP.sub [0, 1, 2, 3, 4] rfl
  have hD : va_D A [(p_z, .inr (9, [.int z_version, .ref p_me, .ref p_pa, .ref p_di, .ref p_pr, .ref p_re, .ref p_cl, .ref p_li, .ref p_ec, .ref p_sc, .int z_dictionaryAt, .int z_tableAt, .int z_ended])), (p_me, .inr (4, [.ref p_me_octets])), (p_me_octets, .inl (kI, 4096, .inl me_octets_1)), (p_re, .inr (7, [.int re_open, .int re_textAt, .int re_parseAt, .int re_limit, .int re_count_1, .int re_shown, .ref p_re_codes])), (p_re_codes, .inl (kI, 255, .inl re_codes))] := hD.sub [0, 1, 2, 3, 4] rfl rfl
  refine lv_aload_n hx hb dX9_endByClock_11 rfl (lv_at hl 0 rfl) ?_
  refine lv_iconst (v := 0) hx hb dX9_endByClock_12 (by decide) ?_
  refine zz_Vv (As := [.int 0]) (rest := []) (wr := [(p_me, .inr (4, [.ref p_me_octets])), (p_me_octets, .inl (kI, 4096, .inl me_octets_1)), (p_re_codes, .inl (kI, 255, .inl re_codes))]) ⟨hx, hb, hml, hown, hts⟩ (cwV 1 hts gX9_endByClock_X9_close rfl rfl rfl (by decide +kernel) ⟨Nat.le_of_ble_eq_true rfl, Nat.le_of_ble_eq_true rfl⟩) hK hP hD hS hA (c_X9_close l dC dI kI kZ H.size p_z p_me p_pa p_di p_pr p_re p_cl p_li p_ec p_sc p_re_codes z_version z_dictionaryAt z_tableAt re_textAt re_parseAt re_limit re_count_1 re_shown z_ended re_open 0 _ h) [0, 3] [1, 2, 4] rfl rfl rfl rfl (by decide) 0 rfl rfl rfl rfl hl.1 (Nat.le_of_ble_eq_true rfl) dX9_endByClock_13 (Nat.le_refl _) (Nat.le_refl _) (fun u_1 H locs h hP hD hS => ?_)
  obtain ⟨z_ended_1, re_open_1⟩ := u_1
  have hP : va_P (dC, dI) vwCl [(p_z, .inr (9, [.int z_version, .ref p_me, .ref p_pa, .ref p_di, .ref p_pr, .ref p_re, .ref p_cl, .ref p_li, .ref p_ec, .ref p_sc, .int z_dictionaryAt, .int z_tableAt, .int z_ended_1])), (p_me, .inr (4, [.ref p_me_octets])), (p_me_octets, .inl (kI, 4096, .inl me_octets_1)), (p_re, .inr (7, [.int re_open_1, .int re_textAt, .int re_parseAt, .int re_limit, .int re_count_1, .int re_shown, .ref p_re_codes])), (p_re_codes, .inl (kI, 255, .inl re_codes))] H := hP.sub [3, 0, 1, 4, 2] rfl
  have hD : va_D A [(p_z, .inr (9, [.int z_version, .ref p_me, .ref p_pa, .ref p_di, .ref p_pr, .ref p_re, .ref p_cl, .ref p_li, .ref p_ec, .ref p_sc, .int z_dictionaryAt, .int z_tableAt, .int z_ended_1])), (p_me, .inr (4, [.ref p_me_octets])), (p_me_octets, .inl (kI, 4096, .inl me_octets_1)), (p_re, .inr (7, [.int re_open_1, .int re_textAt, .int re_parseAt, .int re_limit, .int re_count_1, .int re_shown, .ref p_re_codes])), (p_re_codes, .inl (kI, 255, .inl re_codes))] := hD.sub [3, 0, 1, 4, 2] rfl rfl
  exact hR (z_ended_1, me_octets_1, re_open_1, re_count_1) H locs h hP hD hS _ ls dX9_endByClock_16
def wp_X9_isCode (a0 : Int32) (K : Int32 → Prop) : Prop :=
  ((a0 < 0) → (K 0)) ∧ ((¬ a0 < 0) → (((255 < a0) → (K 0)) ∧ ((¬ 255 < a0) → (K 1))))
abbrev rmX9_isCode : Room := { frames := 0, cells := 0, slots := 0, locals := 0 }
set_option maxHeartbeats 4000000 in
set_option maxRecDepth 100000 in
theorem c_X9_isCode (l : Launch) (dC : Nat → ClassId) (dI : Nat → Nat → Nat) (kI kZ : ClassId) (sz : Nat) (a0 : Int32) (K : Int32 → Prop) (h : wp_X9_isCode a0 K) : Met l yX9_isCode wsX9_isCode rmX9_isCode (va_Pc [.int a0] (zP (dC, dI) (zT kI kZ) sz [])) (va_Qi (fun (r : Int32) (u : Unit) => K r) (fun (u : Unit) => zB (dC, dI) (zT kI kZ) (va_A [] sz) []) (va_A [] sz)) 0 0 (va_A [] sz) := by
  refine zz_ofz (cc := cX9_isCode) (maxL := 1) (by decide) rfl (Nat.le_of_ble_eq_true rfl) ?_
  intro p e s m args below meth c A Q ls hx hb hml hown hts hK hA hR hP hD hS hl
  have hown : s.vm.findClass RX9 = some m.cls := hown
  have hl : lv_has ls 1 [(0, .int a0)] := hl
  unfold wp_X9_isCode at h
  obtain ⟨H, eH⟩ : ∃ H, H = s.heap := ⟨_, rfl⟩
  obtain ⟨locs, eL⟩ : ∃ L : List Loc, L = [] := ⟨_, rfl⟩
  rw [← eL]
  have hS : va_S A s.heap s.heap locs := by rw [eL]; exact hS
  suffices hgo : ∀ H : Heap, va_P (dC, dI) vwCl [] H → va_S A s.heap H locs → W p l e rmX9_isCode s m args below meth c H locs 0 0 Q (F0 m 0 ls []) from hgo _ hP hS
  clear hP hS eH H eL
  intro H hP hS
  refine lv_iload_n hx hb dX9_isCode_0 rfl (lv_at hl 0 rfl) ?_
  refine lv_if_lt (tgt := 15) hx hb dX9_isCode_1 (by decide) (fun c_ => ?_) (fun c_ => ?_)
  · have h := h.1 c_
    refine lv_iconst (v := 0) hx hb dX9_isCode_15 (by decide) ?_
    exact hR 0 () H locs (Or.inl rfl) h hP hD hS _ ls dX9_isCode_16
  · have h := h.2 c_
    refine lv_iload_n hx hb dX9_isCode_4 rfl (lv_at hl 0 rfl) ?_
    refine lv_sipush (v := 255) hx hb dX9_isCode_5 (by decide) ?_
    refine lv_icmp_gt (tgt := 15) hx hb dX9_isCode_8 (by decide) (fun c_ => ?_) (fun c_ => ?_)
    · have h := h.1 c_
      refine lv_iconst (v := 0) hx hb dX9_isCode_15 (by decide) ?_
      exact hR 0 () H locs (Or.inl rfl) h hP hD hS _ ls dX9_isCode_16
    · have h := h.2 c_
      refine lv_iconst (v := 1) hx hb dX9_isCode_11 (by decide) ?_
      refine lv_goto (tgt := 16) hx hb dX9_isCode_12 (by decide) ?_
      exact hR 1 () H locs (Or.inr rfl) h hP hD hS _ ls dX9_isCode_16
